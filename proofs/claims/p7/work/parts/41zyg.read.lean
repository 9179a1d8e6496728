/-! a custom's text as the class reads it, by hand -/
section HP9
variable {X : Nat × (Nat → Int32)} {d i pc pc' : Nat} {ls : List (Option Value)} {st : List Value} {a : rx_K} {M : rx_M} {P : rx_O → Prop}
/-- a field of a truth value is written -/
theorem hp_pfb {x q ci j : Nat} {z : Int32} (ha : a.1 = rx_cells) (hz : z = 0 ∨ z = 1) (ht : rx_tb i pc = some (.putfield x)) (hf : rx_fl (rx_cn i) x = some (ci, j, 1, false)) (hl : rx_lay q = some (.inl ci)) (e : pc + 3 = pc') (k : ∀ M1 : rx_M, M1.1 = rx_up M.1 q j z → M1.2 = M.2 → hp X d i pc' ls st a M1 P) : hp X d i pc ls (.int z :: .ref q :: st) a M P := by
  subst e
  exact hp_s ((hp_q ht).trans (ax_pf_ok ha hf hl (Or.inr ⟨rfl, hz⟩))) (k (rx_up M.1 q j z, M.2.1, M.2.2) rfl rfl)
/-- a switch that goes by default -/
theorem hp_tsd {dd lo hi : Int} {offs : _} {x : Int32} {t : Nat} (ht : rx_tb i pc = some (.tableswitch dd lo hi offs)) (hx : x.toInt < lo ∨ hi < x.toInt) (e : (pc : Int) + dd = (t : Int)) (k : hp X d i t ls st a M P) : hp X d i pc ls (.int x :: st) a M P := by
  refine hp_s ((hp_q ht).trans ?_) k
  show (if x.toInt < lo ∨ hi < x.toInt then rx_jmp pc dd ls st a M else _) = _
  rw [if_pos hx]
  unfold rx_jmp
  rw [e]
  rfl
end HP9
/-- the reader: its row q0, its size n, where it is, whether it failed -/
noncomputable def pd_S (q0 n p : Nat) (b : Bool) (M0 M : rx_M) : Prop := (M.2 = M0.2 ∧ ∀ q j, ¬ (q = 15 ∧ (j = 2 ∨ j = 3)) → M.1 q j = M0.1 q j) ∧ (M.2.1 15 0 = some q0 ∧ rx_lay q0 = some (.inr (0, 80)) ∧ q0 ≠ 15) ∧ (M.1 15 1).toInt = (n : Int) ∧ (M.1 15 2).toInt = (p : Int) ∧ (M.1 15 3).toInt = cond b 1 0 ∧ p ≤ n ∧ n ≤ 80
noncomputable def pd_g (q0 : Nat) (M0 : rx_M) (j : Nat) : Int := (M0.1 q0 j).toInt
theorem pd_at {q0 n p : Nat} {b : Bool} {M0 M M1 : rx_M} {z : Int32} {p1 : Nat} (h : pd_S q0 n p b M0 M) (e : M1.1 = rx_up M.1 15 2 z) (g : M1.2 = M.2) (hz : z.toInt = (p1 : Int)) (hp : p1 ≤ n) : pd_S q0 n p1 b M0 M1 := by
  obtain ⟨⟨h1, h2⟩, h3, h4, h5, h6, h7, h8⟩ := h
  refine ⟨⟨g.trans h1, fun q j hq => by rw [e, hp_up_ne (by omega)]; exact h2 q j hq⟩, by rw [g]; exact h3, by rw [e, hp_up_ne (by omega)]; exact h4, by rw [e, hp_up_eq]; exact hz, by rw [e, hp_up_ne (by omega)]; exact h6, hp, h8⟩
theorem pd_fail {q0 n p : Nat} {b : Bool} {M0 M M1 : rx_M} {z : Int32} (h : pd_S q0 n p b M0 M) (e : M1.1 = rx_up M.1 15 3 z) (g : M1.2 = M.2) (hz : z.toInt = 1) : pd_S q0 n p true M0 M1 := by
  obtain ⟨⟨h1, h2⟩, h3, h4, h5, h6, h7, h8⟩ := h
  refine ⟨⟨g.trans h1, fun q j hq => by rw [e, hp_up_ne (by omega)]; exact h2 q j hq⟩, by rw [g]; exact h3, by rw [e, hp_up_ne (by omega)]; exact h4, by rw [e, hp_up_ne (by omega)]; exact h5, by rw [e, hp_up_eq]; exact hz, h7, h8⟩
theorem pd_gj {q0 n p : Nat} {b : Bool} {M0 M : rx_M} (h : pd_S q0 n p b M0 M) (j : Nat) : (M.1 q0 j).toInt = pd_g q0 M0 j := by
  rw [h.1.2 q0 j (fun w => h.2.1.2.2 w.1)]
  rfl
/-- the next byte, or 0 -/
noncomputable def pd_nx (q0 n p : Nat) (b : Bool) (M0 : rx_M) : Int := cond b 0 (if p < n then pd_g q0 M0 p else 0)
section PD
variable {X : Nat × (Nat → Int32)} {d q0 n p D : Nat} {b : Bool} {a : rx_K} {M0 M : rx_M} {P : rx_O → Prop} {x1 x2 x3 : Int32}
theorem pd_n1 (h : pd_S q0 n p b M0 M) (w : ¬ b = true) (k : p < n) : pd_nx q0 n p b M0 = pd_g q0 M0 p := by
  cases b with
  | true => exact absurd rfl w
  | false =>
    unfold pd_nx
    rw [cond_false, if_pos k]
theorem pd_n0 (k : b = true ∨ ¬ p < n) : pd_nx q0 n p b M0 = 0 := by
  cases b with
  | true => rfl
  | false =>
    unfold pd_nx
    rw [cond_false, if_neg (k.resolve_left (by decide))]
theorem pd_b (h : pd_S q0 n p b M0 M) : (M.1 15 3).toInt = 0 ∧ ¬ b = true ∨ (M.1 15 3).toInt = 1 ∧ b = true := by
  have k := h.2.2.2.2.1
  cases b with
  | true => exact Or.inr ⟨k, rfl⟩
  | false => exact Or.inl ⟨k, by decide⟩
theorem nx_ok (ha : a.1 = rx_cells) (hS : pd_S q0 n p b M0 M) : hp X d 68 0 [some (.ref 15)] [] a M (fun o => ∃ r : Int32, o = (some (.int r), a, M) ∧ r.toInt = pd_nx q0 n p b M0) := by
  have zz0 : (0 : Int32).toInt = 0 := rfl
  have hb := pd_b hS
  obtain ⟨⟨s1, s2⟩, ⟨s3, s4, s5⟩, s6, s7, s8, s9, s10⟩ := id hS
  refine hp_al (pc' := 1) (j := 0) (Or.inr ⟨0, rfl, rfl, rfl⟩) rfl ?_
  refine hp_gi (pc' := 4) (j := 3) (t := 1) ha rfl rfl rfl (by decide) rfl ?_
  refine hp_zne (t := 18) (pc' := 7) rfl rfl rfl (fun c1 => ?_) (fun c1 => ?_)
  · refine hp_ic (pc' := 19) (x := 0) rfl rfl rfl ?_
    refine hp_go (t := 31) rfl rfl ?_
    refine hp_ri rfl rfl ?_
    exact ⟨_, rfl, by rw [pd_n0 (Or.inl (hb.elim (fun w => absurd w.1 c1) (fun w => w.2)))]; rfl⟩
  · refine hp_al (pc' := 8) (j := 0) (Or.inr ⟨0, rfl, rfl, rfl⟩) rfl ?_
    refine hp_gi (pc' := 11) (j := 2) (t := 0) ha rfl rfl rfl (by decide) rfl ?_
    refine hp_al (pc' := 12) (j := 0) (Or.inr ⟨0, rfl, rfl, rfl⟩) rfl ?_
    refine hp_gi (pc' := 15) (j := 1) (t := 0) ha rfl rfl rfl (by decide) rfl ?_
    refine hp_ilt (t := 22) (pc' := 18) rfl rfl rfl (fun c2 => ?_) (fun c2 => ?_)
    · refine hp_al (pc' := 23) (j := 0) (Or.inr ⟨0, rfl, rfl, rfl⟩) rfl ?_
      refine hp_gr (pc' := 26) ha s3 rfl rfl rfl rfl ?_
      refine hp_al (pc' := 27) (j := 0) (Or.inr ⟨0, rfl, rfl, rfl⟩) rfl ?_
      refine hp_gi (pc' := 30) (j := 2) (t := 0) ha rfl rfl rfl (by decide) rfl ?_
      refine hp_ld (pc' := 31) (j := p) ha s7 (by omega) rfl s4 rfl ?_
      refine hp_ri rfl rfl ?_
      exact ⟨_, rfl, by rw [pd_n1 hS (hb.elim (fun w => w.2) (fun w => absurd w.1 (by omega))) (by omega)]; exact pd_gj hS p⟩
    · refine hp_ic (pc' := 19) (x := 0) rfl rfl rfl ?_
      refine hp_go (t := 31) rfl rfl ?_
      refine hp_ri rfl rfl ?_
      exact ⟨_, rfl, by rw [pd_n0 (Or.inr (by omega))]; rfl⟩
theorem dg_ok : hp X d 75 0 [some (.int x1)] [] a M (fun o => ∃ r : Int32, o = (some (.int r), a, M) ∧ (r.toInt = 0 ∨ r.toInt = 1) ∧ (r.toInt ≠ 0 ↔ (48 ≤ x1.toInt ∧ x1.toInt ≤ 57))) := by
  have zz0 : (0 : Int32).toInt = 0 := rfl
  have zz1 : (1 : Int32).toInt = 1 := rfl
  have zz48 : (48 : Int32).toInt = 48 := rfl
  have zz57 : (57 : Int32).toInt = 57 := rfl
  refine hp_il (pc' := 1) (j := 0) (Or.inr ⟨0, rfl, rfl, rfl⟩) rfl ?_
  refine hp_bi (pc' := 3) (x := 48) rfl rfl rfl ?_
  refine hp_ilt (t := 16) (pc' := 6) rfl rfl rfl (fun c1 => ?_) (fun c1 => ?_)
  · refine hp_ic (pc' := 17) (x := 0) rfl rfl rfl ?_
    refine hp_rb rfl rfl (by decide) ?_
    exact ⟨_, rfl, by omega, by omega⟩
  · refine hp_il (pc' := 7) (j := 0) (Or.inr ⟨0, rfl, rfl, rfl⟩) rfl ?_
    refine hp_bi (pc' := 9) (x := 57) rfl rfl rfl ?_
    refine hp_igt (t := 16) (pc' := 12) rfl rfl rfl (fun c2 => ?_) (fun c2 => ?_)
    · refine hp_ic (pc' := 17) (x := 0) rfl rfl rfl ?_
      refine hp_rb rfl rfl (by decide) ?_
      exact ⟨_, rfl, by omega, by omega⟩
    · refine hp_ic (pc' := 13) (x := 1) rfl rfl rfl ?_
      refine hp_go (t := 17) rfl rfl ?_
      refine hp_rb rfl rfl (by decide) ?_
      exact ⟨_, rfl, by omega, by omega⟩
theorem tk_ok (ha : a.1 = rx_cells) (hS : pd_S q0 n p b M0 M) (hpn : p < n) : hp X d 78 0 [some (.ref 15), some (.int x1)] [] a M (fun o => ∃ M1 : rx_M, o = (some (.int x1), a, M1) ∧ pd_S q0 n (p + 1) b M0 M1) := by
  have zz1 : (1 : Int32).toInt = 1 := rfl
  have zz0 : (0 : Int32).toInt = 0 := rfl
  have hb := pd_b hS
  obtain ⟨⟨s1, s2⟩, ⟨s3, s4, s5⟩, s6, s7, s8, s9, s10⟩ := id hS
  refine hp_al (pc' := 1) (j := 0) (Or.inr ⟨0, rfl, rfl, rfl⟩) rfl ?_
  refine hp_dup (pc' := 2) rfl rfl rfl ?_
  refine hp_gi (pc' := 5) (j := 2) (t := 0) ha rfl rfl rfl (by decide) rfl ?_
  refine hp_ic (pc' := 6) (x := 1) rfl rfl rfl ?_
  refine hp_add (pc' := 7) rfl rfl (fun z1 hz1 => ?_)
  have yz1 : z1.toInt = ((p + 1 : Nat) : Int) := by
    rw [hz1, ax_add (by omega) (by omega), zz1, s7]
    omega
  refine hp_pf (pc' := 10) (j := 2) ha rfl rfl rfl rfl (fun M2 eM2 gM2 => ?_)
  have hM2 := pd_at hS eM2 gM2 yz1 (by omega)
  refine hp_il (pc' := 11) (j := 1) (Or.inr ⟨1, rfl, rfl, rfl⟩) rfl ?_
  refine hp_ri rfl rfl ?_
  exact ⟨_, rfl, hM2⟩
theorem ex_ok (ha : a.1 = rx_cells) (hS : pd_S q0 n p b M0 M) (h1 : 0 < x1.toInt) : hp X (d + 1) 69 0 [some (.ref 15), some (.int x1)] [] a M (fun o => ∃ M1 : rx_M, o = (none, a, M1) ∧ ((pd_nx q0 n p b M0 = x1.toInt ∧ pd_S q0 n (p + 1) b M0 M1) ∨ (¬ pd_nx q0 n p b M0 = x1.toInt ∧ pd_S q0 n p true M0 M1))) := by
  have zz1 : (1 : Int32).toInt = 1 := rfl
  have zz0 : (0 : Int32).toInt = 0 := rfl
  have hb := pd_b hS
  obtain ⟨⟨s1, s2⟩, ⟨s3, s4, s5⟩, s6, s7, s8, s9, s10⟩ := id hS
  refine hp_al (pc' := 1) (j := 0) (Or.inr ⟨0, rfl, rfl, rfl⟩) rfl ?_
  refine hp_cx (q := 15) (Q := fun o => ∃ r : Int32, o = (some (.int r), a, M) ∧ r.toInt = pd_nx q0 n p b M0) (pc' := 4) (e := d) (vs := []) (r := []) ha rfl rfl rfl rfl rfl rfl rfl rfl (nx_ok ha hS) (fun o ho => ?_)
  obtain ⟨r1, eo, qr1⟩ := ho
  subst eo
  refine ⟨_, rfl, ?_⟩
  show hp X (d + 1) 69 4 [some (.ref 15), some (.int x1)] [.int r1] a M _
  refine hp_il (pc' := 5) (j := 1) (Or.inr ⟨1, rfl, rfl, rfl⟩) rfl ?_
  refine hp_ine (t := 21) (pc' := 8) rfl rfl rfl (fun c2 => ?_) (fun c2 => ?_)
  · refine hp_al (pc' := 22) (j := 0) (Or.inr ⟨0, rfl, rfl, rfl⟩) rfl ?_
    refine hp_ic (pc' := 23) (x := 1) rfl rfl rfl ?_
    refine hp_pfb (pc' := 26) (j := 3) ha (by decide) rfl rfl rfl rfl (fun M3 eM3 gM3 => ?_)
    have hM3 := pd_fail hS eM3 gM3 zz1
    refine hp_rv rfl rfl ?_
    exact ⟨_, rfl, Or.inr ⟨by omega, hM3⟩⟩
  · have hpn : p < n := by
      by_cases w : p < n
      · exact w
      · exfalso
        have := pd_n0 (q0 := q0) (b := b) (M0 := M0) (Or.inr w)
        omega
    refine hp_al (pc' := 9) (j := 0) (Or.inr ⟨0, rfl, rfl, rfl⟩) rfl ?_
    refine hp_dup (pc' := 10) rfl rfl rfl ?_
    refine hp_gi (pc' := 13) (j := 2) (t := 0) ha rfl rfl rfl (by decide) rfl ?_
    refine hp_ic (pc' := 14) (x := 1) rfl rfl rfl ?_
    refine hp_add (pc' := 15) rfl rfl (fun z4 hz4 => ?_)
    have yz4 : z4.toInt = ((p + 1 : Nat) : Int) := by
      rw [hz4, ax_add (by omega) (by omega), zz1, s7]
      omega
    refine hp_pf (pc' := 18) (j := 2) ha rfl rfl rfl rfl (fun M5 eM5 gM5 => ?_)
    have hM5 := pd_at hS eM5 gM5 yz4 (by omega)
    refine hp_go (t := 26) rfl rfl ?_
    refine hp_rv rfl rfl ?_
    exact ⟨_, rfl, Or.inl ⟨by omega, hM5⟩⟩
theorem fd_19 (h : ¬ (x1.toInt < 103 ∨ 121 < x1.toInt)) : x1 = 103 ∨ x1 = 104 ∨ x1 = 105 ∨ x1 = 106 ∨ x1 = 107 ∨ x1 = 108 ∨ x1 = 109 ∨ x1 = 110 ∨ x1 = 111 ∨ x1 = 112 ∨ x1 = 113 ∨ x1 = 114 ∨ x1 = 115 ∨ x1 = 116 ∨ x1 = 117 ∨ x1 = 118 ∨ x1 = 119 ∨ x1 = 120 ∨ x1 = 121 := by
  have h5 : x1.toInt = (103 : Int32).toInt ∨ x1.toInt = (104 : Int32).toInt ∨ x1.toInt = (105 : Int32).toInt ∨ x1.toInt = (106 : Int32).toInt ∨ x1.toInt = (107 : Int32).toInt ∨ x1.toInt = (108 : Int32).toInt ∨ x1.toInt = (109 : Int32).toInt ∨ x1.toInt = (110 : Int32).toInt ∨ x1.toInt = (111 : Int32).toInt ∨ x1.toInt = (112 : Int32).toInt ∨ x1.toInt = (113 : Int32).toInt ∨ x1.toInt = (114 : Int32).toInt ∨ x1.toInt = (115 : Int32).toInt ∨ x1.toInt = (116 : Int32).toInt ∨ x1.toInt = (117 : Int32).toInt ∨ x1.toInt = (118 : Int32).toInt ∨ x1.toInt = (119 : Int32).toInt ∨ x1.toInt = (120 : Int32).toInt ∨ x1.toInt = (121 : Int32).toInt := by
    have z103 : (103 : Int32).toInt = 103 := rfl
    have z104 : (104 : Int32).toInt = 104 := rfl
    have z105 : (105 : Int32).toInt = 105 := rfl
    have z106 : (106 : Int32).toInt = 106 := rfl
    have z107 : (107 : Int32).toInt = 107 := rfl
    have z108 : (108 : Int32).toInt = 108 := rfl
    have z109 : (109 : Int32).toInt = 109 := rfl
    have z110 : (110 : Int32).toInt = 110 := rfl
    have z111 : (111 : Int32).toInt = 111 := rfl
    have z112 : (112 : Int32).toInt = 112 := rfl
    have z113 : (113 : Int32).toInt = 113 := rfl
    have z114 : (114 : Int32).toInt = 114 := rfl
    have z115 : (115 : Int32).toInt = 115 := rfl
    have z116 : (116 : Int32).toInt = 116 := rfl
    have z117 : (117 : Int32).toInt = 117 := rfl
    have z118 : (118 : Int32).toInt = 118 := rfl
    have z119 : (119 : Int32).toInt = 119 := rfl
    have z120 : (120 : Int32).toInt = 120 := rfl
    have z121 : (121 : Int32).toInt = 121 := rfl
    omega
  rcases h5 with h | h | h | h | h | h | h | h | h | h | h | h | h | h | h | h | h | h | h
  · exact Or.inl (Int32.toInt_inj.mp h)
  · exact Or.inr (Or.inl (Int32.toInt_inj.mp h))
  · exact Or.inr (Or.inr (Or.inl (Int32.toInt_inj.mp h)))
  · exact Or.inr (Or.inr (Or.inr (Or.inl (Int32.toInt_inj.mp h))))
  · exact Or.inr (Or.inr (Or.inr (Or.inr (Or.inl (Int32.toInt_inj.mp h)))))
  · exact Or.inr (Or.inr (Or.inr (Or.inr (Or.inr (Or.inl (Int32.toInt_inj.mp h))))))
  · exact Or.inr (Or.inr (Or.inr (Or.inr (Or.inr (Or.inr (Or.inl (Int32.toInt_inj.mp h)))))))
  · exact Or.inr (Or.inr (Or.inr (Or.inr (Or.inr (Or.inr (Or.inr (Or.inl (Int32.toInt_inj.mp h))))))))
  · exact Or.inr (Or.inr (Or.inr (Or.inr (Or.inr (Or.inr (Or.inr (Or.inr (Or.inl (Int32.toInt_inj.mp h)))))))))
  · exact Or.inr (Or.inr (Or.inr (Or.inr (Or.inr (Or.inr (Or.inr (Or.inr (Or.inr (Or.inl (Int32.toInt_inj.mp h))))))))))
  · exact Or.inr (Or.inr (Or.inr (Or.inr (Or.inr (Or.inr (Or.inr (Or.inr (Or.inr (Or.inr (Or.inl (Int32.toInt_inj.mp h)))))))))))
  · exact Or.inr (Or.inr (Or.inr (Or.inr (Or.inr (Or.inr (Or.inr (Or.inr (Or.inr (Or.inr (Or.inr (Or.inl (Int32.toInt_inj.mp h))))))))))))
  · exact Or.inr (Or.inr (Or.inr (Or.inr (Or.inr (Or.inr (Or.inr (Or.inr (Or.inr (Or.inr (Or.inr (Or.inr (Or.inl (Int32.toInt_inj.mp h)))))))))))))
  · exact Or.inr (Or.inr (Or.inr (Or.inr (Or.inr (Or.inr (Or.inr (Or.inr (Or.inr (Or.inr (Or.inr (Or.inr (Or.inr (Or.inl (Int32.toInt_inj.mp h))))))))))))))
  · exact Or.inr (Or.inr (Or.inr (Or.inr (Or.inr (Or.inr (Or.inr (Or.inr (Or.inr (Or.inr (Or.inr (Or.inr (Or.inr (Or.inr (Or.inl (Int32.toInt_inj.mp h)))))))))))))))
  · exact Or.inr (Or.inr (Or.inr (Or.inr (Or.inr (Or.inr (Or.inr (Or.inr (Or.inr (Or.inr (Or.inr (Or.inr (Or.inr (Or.inr (Or.inr (Or.inl (Int32.toInt_inj.mp h))))))))))))))))
  · exact Or.inr (Or.inr (Or.inr (Or.inr (Or.inr (Or.inr (Or.inr (Or.inr (Or.inr (Or.inr (Or.inr (Or.inr (Or.inr (Or.inr (Or.inr (Or.inr (Or.inl (Int32.toInt_inj.mp h)))))))))))))))))
  · exact Or.inr (Or.inr (Or.inr (Or.inr (Or.inr (Or.inr (Or.inr (Or.inr (Or.inr (Or.inr (Or.inr (Or.inr (Or.inr (Or.inr (Or.inr (Or.inr (Or.inr (Or.inl (Int32.toInt_inj.mp h))))))))))))))))))
  · exact Or.inr (Or.inr (Or.inr (Or.inr (Or.inr (Or.inr (Or.inr (Or.inr (Or.inr (Or.inr (Or.inr (Or.inr (Or.inr (Or.inr (Or.inr (Or.inr (Or.inr (Or.inr ((Int32.toInt_inj.mp h)))))))))))))))))))
theorem fd_ok (ha : a.1 = rx_cells) (hS : pd_S q0 n p b M0 M) (hx : x1.toInt = pd_nx q0 n p b M0) : hp X (d + 1) 77 0 [some (.ref 15), some (.int x1)] [] a M (fun o => ∃ (r : Int32) (M1 : rx_M), o = (some (.int r), a, M1) ∧ ((pa_fb (pd_nx q0 n p b M0) = true ∧ p < n ∧ pd_S q0 n (p + 1) b M0 M1) ∨ (¬ pa_fb (pd_nx q0 n p b M0) = true ∧ pd_S q0 n p true M0 M1))) := by
  have zz1 : (1 : Int32).toInt = 1 := rfl
  have zz0 : (0 : Int32).toInt = 0 := rfl
  have hb := pd_b hS
  obtain ⟨⟨s1, s2⟩, ⟨s3, s4, s5⟩, s6, s7, s8, s9, s10⟩ := id hS
  have hpn0 : ¬ p < n → pd_nx q0 n p b M0 = 0 := fun w => pd_n0 (Or.inr w)
  by_cases h : x1.toInt < 103 ∨ 121 < x1.toInt
  · refine hp_il (pc' := 1) (j := 1) (Or.inr ⟨1, rfl, rfl, rfl⟩) rfl ?_
    refine hp_tsd (t := 155) rfl h rfl ?_
    refine hp_al (pc' := 156) (j := 0) (Or.inr ⟨0, rfl, rfl, rfl⟩) rfl ?_
    refine hp_ic (pc' := 157) (x := 1) rfl rfl rfl ?_
    refine hp_pfb (pc' := 160) (j := 3) ha (by decide) rfl rfl rfl rfl (fun M1 eM1 gM1 => ?_)
    have hM1 := pd_fail hS eM1 gM1 zz1
    refine hp_ic (pc' := 161) (x := 0) rfl rfl rfl ?_
    refine hp_ri rfl rfl ?_
    exact ⟨_, _, rfl, Or.inr ⟨fun w => by
      have w := pa_fb_i w
      omega, hM1⟩⟩
  · rcases fd_19 h with rfl | rfl | rfl | rfl | rfl | rfl | rfl | rfl | rfl | rfl | rfl | rfl | rfl | rfl | rfl | rfl | rfl | rfl | rfl
    · have zk : (103 : Int32).toInt = 103 := rfl
      have hpn : p < n := by
        by_cases w : p < n
        · exact w
        · have := hpn0 w
          omega
      refine hp_il (pc' := 1) (j := 1) (Or.inr ⟨1, rfl, rfl, rfl⟩) rfl ?_
      refine hp_s (pc' := 110) (st' := []) rfl ?_
      refine hp_al (pc' := 111) (j := 0) (Or.inr ⟨0, rfl, rfl, rfl⟩) rfl ?_
      refine hp_al (pc' := 112) (j := 0) (Or.inr ⟨0, rfl, rfl, rfl⟩) rfl ?_
      refine hp_gi (pc' := 115) (j := 6) (t := 0) ha rfl rfl rfl (by decide) rfl ?_
      refine hp_cx (q := 15) (Q := fun o => ∃ M1 : rx_M, o = (some (.int (M.1 15 6)), a, M1) ∧ pd_S q0 n (p + 1) b M0 M1) (pc' := 118) (e := d) (vs := [.int (M.1 15 6)]) (r := []) ha rfl rfl rfl rfl rfl rfl rfl rfl (tk_ok ha hS hpn) (fun o ho => ?_)
      obtain ⟨Mk, eo, hMk⟩ := ho
      subst eo
      refine ⟨_, rfl, ?_⟩
      show hp X (d + 1) 77 118 [some (.ref 15), some (.int (103 : Int32))] [.int (M.1 15 6)] a Mk _
      refine hp_ri rfl rfl ?_
      exact ⟨_, _, rfl, Or.inl ⟨pa_fb_t (by omega), hpn, hMk⟩⟩
    · have zk : (104 : Int32).toInt = 104 := rfl
      have hpn : p < n := by
        by_cases w : p < n
        · exact w
        · have := hpn0 w
          omega
      refine hp_il (pc' := 1) (j := 1) (Or.inr ⟨1, rfl, rfl, rfl⟩) rfl ?_
      refine hp_s (pc' := 92) (st' := []) rfl ?_
      refine hp_al (pc' := 93) (j := 0) (Or.inr ⟨0, rfl, rfl, rfl⟩) rfl ?_
      refine hp_al (pc' := 94) (j := 0) (Or.inr ⟨0, rfl, rfl, rfl⟩) rfl ?_
      refine hp_gi (pc' := 97) (j := 4) (t := 0) ha rfl rfl rfl (by decide) rfl ?_
      refine hp_cx (q := 15) (Q := fun o => ∃ M1 : rx_M, o = (some (.int (M.1 15 4)), a, M1) ∧ pd_S q0 n (p + 1) b M0 M1) (pc' := 100) (e := d) (vs := [.int (M.1 15 4)]) (r := []) ha rfl rfl rfl rfl rfl rfl rfl rfl (tk_ok ha hS hpn) (fun o ho => ?_)
      obtain ⟨Mk, eo, hMk⟩ := ho
      subst eo
      refine ⟨_, rfl, ?_⟩
      show hp X (d + 1) 77 100 [some (.ref 15), some (.int (104 : Int32))] [.int (M.1 15 4)] a Mk _
      refine hp_ri rfl rfl ?_
      exact ⟨_, _, rfl, Or.inl ⟨pa_fb_t (by omega), hpn, hMk⟩⟩
    · have zk : (105 : Int32).toInt = 105 := rfl
      have hpn : p < n := by
        by_cases w : p < n
        · exact w
        · have := hpn0 w
          omega
      refine hp_il (pc' := 1) (j := 1) (Or.inr ⟨1, rfl, rfl, rfl⟩) rfl ?_
      refine hp_s (pc' := 155) (st' := []) rfl ?_
      refine hp_al (pc' := 156) (j := 0) (Or.inr ⟨0, rfl, rfl, rfl⟩) rfl ?_
      refine hp_ic (pc' := 157) (x := 1) rfl rfl rfl ?_
      refine hp_pfb (pc' := 160) (j := 3) ha (by decide) rfl rfl rfl rfl (fun M1 eM1 gM1 => ?_)
      have hM1 := pd_fail hS eM1 gM1 zz1
      refine hp_ic (pc' := 161) (x := 0) rfl rfl rfl ?_
      refine hp_ri rfl rfl ?_
      exact ⟨_, _, rfl, Or.inr ⟨fun w => by
        have w := pa_fb_i w
        omega, hM1⟩⟩
    · have zk : (106 : Int32).toInt = 106 := rfl
      have hpn : p < n := by
        by_cases w : p < n
        · exact w
        · have := hpn0 w
          omega
      refine hp_il (pc' := 1) (j := 1) (Or.inr ⟨1, rfl, rfl, rfl⟩) rfl ?_
      refine hp_s (pc' := 155) (st' := []) rfl ?_
      refine hp_al (pc' := 156) (j := 0) (Or.inr ⟨0, rfl, rfl, rfl⟩) rfl ?_
      refine hp_ic (pc' := 157) (x := 1) rfl rfl rfl ?_
      refine hp_pfb (pc' := 160) (j := 3) ha (by decide) rfl rfl rfl rfl (fun M1 eM1 gM1 => ?_)
      have hM1 := pd_fail hS eM1 gM1 zz1
      refine hp_ic (pc' := 161) (x := 0) rfl rfl rfl ?_
      refine hp_ri rfl rfl ?_
      exact ⟨_, _, rfl, Or.inr ⟨fun w => by
        have w := pa_fb_i w
        omega, hM1⟩⟩
    · have zk : (107 : Int32).toInt = 107 := rfl
      have hpn : p < n := by
        by_cases w : p < n
        · exact w
        · have := hpn0 w
          omega
      refine hp_il (pc' := 1) (j := 1) (Or.inr ⟨1, rfl, rfl, rfl⟩) rfl ?_
      refine hp_s (pc' := 155) (st' := []) rfl ?_
      refine hp_al (pc' := 156) (j := 0) (Or.inr ⟨0, rfl, rfl, rfl⟩) rfl ?_
      refine hp_ic (pc' := 157) (x := 1) rfl rfl rfl ?_
      refine hp_pfb (pc' := 160) (j := 3) ha (by decide) rfl rfl rfl rfl (fun M1 eM1 gM1 => ?_)
      have hM1 := pd_fail hS eM1 gM1 zz1
      refine hp_ic (pc' := 161) (x := 0) rfl rfl rfl ?_
      refine hp_ri rfl rfl ?_
      exact ⟨_, _, rfl, Or.inr ⟨fun w => by
        have w := pa_fb_i w
        omega, hM1⟩⟩
    · have zk : (108 : Int32).toInt = 108 := rfl
      have hpn : p < n := by
        by_cases w : p < n
        · exact w
        · have := hpn0 w
          omega
      refine hp_il (pc' := 1) (j := 1) (Or.inr ⟨1, rfl, rfl, rfl⟩) rfl ?_
      refine hp_s (pc' := 155) (st' := []) rfl ?_
      refine hp_al (pc' := 156) (j := 0) (Or.inr ⟨0, rfl, rfl, rfl⟩) rfl ?_
      refine hp_ic (pc' := 157) (x := 1) rfl rfl rfl ?_
      refine hp_pfb (pc' := 160) (j := 3) ha (by decide) rfl rfl rfl rfl (fun M1 eM1 gM1 => ?_)
      have hM1 := pd_fail hS eM1 gM1 zz1
      refine hp_ic (pc' := 161) (x := 0) rfl rfl rfl ?_
      refine hp_ri rfl rfl ?_
      exact ⟨_, _, rfl, Or.inr ⟨fun w => by
        have w := pa_fb_i w
        omega, hM1⟩⟩
    · have zk : (109 : Int32).toInt = 109 := rfl
      have hpn : p < n := by
        by_cases w : p < n
        · exact w
        · have := hpn0 w
          omega
      refine hp_il (pc' := 1) (j := 1) (Or.inr ⟨1, rfl, rfl, rfl⟩) rfl ?_
      refine hp_s (pc' := 155) (st' := []) rfl ?_
      refine hp_al (pc' := 156) (j := 0) (Or.inr ⟨0, rfl, rfl, rfl⟩) rfl ?_
      refine hp_ic (pc' := 157) (x := 1) rfl rfl rfl ?_
      refine hp_pfb (pc' := 160) (j := 3) ha (by decide) rfl rfl rfl rfl (fun M1 eM1 gM1 => ?_)
      have hM1 := pd_fail hS eM1 gM1 zz1
      refine hp_ic (pc' := 161) (x := 0) rfl rfl rfl ?_
      refine hp_ri rfl rfl ?_
      exact ⟨_, _, rfl, Or.inr ⟨fun w => by
        have w := pa_fb_i w
        omega, hM1⟩⟩
    · have zk : (110 : Int32).toInt = 110 := rfl
      have hpn : p < n := by
        by_cases w : p < n
        · exact w
        · have := hpn0 w
          omega
      refine hp_il (pc' := 1) (j := 1) (Or.inr ⟨1, rfl, rfl, rfl⟩) rfl ?_
      refine hp_s (pc' := 101) (st' := []) rfl ?_
      refine hp_al (pc' := 102) (j := 0) (Or.inr ⟨0, rfl, rfl, rfl⟩) rfl ?_
      refine hp_al (pc' := 103) (j := 0) (Or.inr ⟨0, rfl, rfl, rfl⟩) rfl ?_
      refine hp_gi (pc' := 106) (j := 5) (t := 0) ha rfl rfl rfl (by decide) rfl ?_
      refine hp_cx (q := 15) (Q := fun o => ∃ M1 : rx_M, o = (some (.int (M.1 15 5)), a, M1) ∧ pd_S q0 n (p + 1) b M0 M1) (pc' := 109) (e := d) (vs := [.int (M.1 15 5)]) (r := []) ha rfl rfl rfl rfl rfl rfl rfl rfl (tk_ok ha hS hpn) (fun o ho => ?_)
      obtain ⟨Mk, eo, hMk⟩ := ho
      subst eo
      refine ⟨_, rfl, ?_⟩
      show hp X (d + 1) 77 109 [some (.ref 15), some (.int (110 : Int32))] [.int (M.1 15 5)] a Mk _
      refine hp_ri rfl rfl ?_
      exact ⟨_, _, rfl, Or.inl ⟨pa_fb_t (by omega), hpn, hMk⟩⟩
    · have zk : (111 : Int32).toInt = 111 := rfl
      have hpn : p < n := by
        by_cases w : p < n
        · exact w
        · have := hpn0 w
          omega
      refine hp_il (pc' := 1) (j := 1) (Or.inr ⟨1, rfl, rfl, rfl⟩) rfl ?_
      refine hp_s (pc' := 155) (st' := []) rfl ?_
      refine hp_al (pc' := 156) (j := 0) (Or.inr ⟨0, rfl, rfl, rfl⟩) rfl ?_
      refine hp_ic (pc' := 157) (x := 1) rfl rfl rfl ?_
      refine hp_pfb (pc' := 160) (j := 3) ha (by decide) rfl rfl rfl rfl (fun M1 eM1 gM1 => ?_)
      have hM1 := pd_fail hS eM1 gM1 zz1
      refine hp_ic (pc' := 161) (x := 0) rfl rfl rfl ?_
      refine hp_ri rfl rfl ?_
      exact ⟨_, _, rfl, Or.inr ⟨fun w => by
        have w := pa_fb_i w
        omega, hM1⟩⟩
    · have zk : (112 : Int32).toInt = 112 := rfl
      have hpn : p < n := by
        by_cases w : p < n
        · exact w
        · have := hpn0 w
          omega
      refine hp_il (pc' := 1) (j := 1) (Or.inr ⟨1, rfl, rfl, rfl⟩) rfl ?_
      refine hp_s (pc' := 155) (st' := []) rfl ?_
      refine hp_al (pc' := 156) (j := 0) (Or.inr ⟨0, rfl, rfl, rfl⟩) rfl ?_
      refine hp_ic (pc' := 157) (x := 1) rfl rfl rfl ?_
      refine hp_pfb (pc' := 160) (j := 3) ha (by decide) rfl rfl rfl rfl (fun M1 eM1 gM1 => ?_)
      have hM1 := pd_fail hS eM1 gM1 zz1
      refine hp_ic (pc' := 161) (x := 0) rfl rfl rfl ?_
      refine hp_ri rfl rfl ?_
      exact ⟨_, _, rfl, Or.inr ⟨fun w => by
        have w := pa_fb_i w
        omega, hM1⟩⟩
    · have zk : (113 : Int32).toInt = 113 := rfl
      have hpn : p < n := by
        by_cases w : p < n
        · exact w
        · have := hpn0 w
          omega
      refine hp_il (pc' := 1) (j := 1) (Or.inr ⟨1, rfl, rfl, rfl⟩) rfl ?_
      refine hp_s (pc' := 155) (st' := []) rfl ?_
      refine hp_al (pc' := 156) (j := 0) (Or.inr ⟨0, rfl, rfl, rfl⟩) rfl ?_
      refine hp_ic (pc' := 157) (x := 1) rfl rfl rfl ?_
      refine hp_pfb (pc' := 160) (j := 3) ha (by decide) rfl rfl rfl rfl (fun M1 eM1 gM1 => ?_)
      have hM1 := pd_fail hS eM1 gM1 zz1
      refine hp_ic (pc' := 161) (x := 0) rfl rfl rfl ?_
      refine hp_ri rfl rfl ?_
      exact ⟨_, _, rfl, Or.inr ⟨fun w => by
        have w := pa_fb_i w
        omega, hM1⟩⟩
    · have zk : (114 : Int32).toInt = 114 := rfl
      have hpn : p < n := by
        by_cases w : p < n
        · exact w
        · have := hpn0 w
          omega
      refine hp_il (pc' := 1) (j := 1) (Or.inr ⟨1, rfl, rfl, rfl⟩) rfl ?_
      refine hp_s (pc' := 155) (st' := []) rfl ?_
      refine hp_al (pc' := 156) (j := 0) (Or.inr ⟨0, rfl, rfl, rfl⟩) rfl ?_
      refine hp_ic (pc' := 157) (x := 1) rfl rfl rfl ?_
      refine hp_pfb (pc' := 160) (j := 3) ha (by decide) rfl rfl rfl rfl (fun M1 eM1 gM1 => ?_)
      have hM1 := pd_fail hS eM1 gM1 zz1
      refine hp_ic (pc' := 161) (x := 0) rfl rfl rfl ?_
      refine hp_ri rfl rfl ?_
      exact ⟨_, _, rfl, Or.inr ⟨fun w => by
        have w := pa_fb_i w
        omega, hM1⟩⟩
    · have zk : (115 : Int32).toInt = 115 := rfl
      have hpn : p < n := by
        by_cases w : p < n
        · exact w
        · have := hpn0 w
          omega
      refine hp_il (pc' := 1) (j := 1) (Or.inr ⟨1, rfl, rfl, rfl⟩) rfl ?_
      refine hp_s (pc' := 128) (st' := []) rfl ?_
      refine hp_al (pc' := 129) (j := 0) (Or.inr ⟨0, rfl, rfl, rfl⟩) rfl ?_
      refine hp_al (pc' := 130) (j := 0) (Or.inr ⟨0, rfl, rfl, rfl⟩) rfl ?_
      refine hp_gi (pc' := 133) (j := 8) (t := 0) ha rfl rfl rfl (by decide) rfl ?_
      refine hp_cx (q := 15) (Q := fun o => ∃ M1 : rx_M, o = (some (.int (M.1 15 8)), a, M1) ∧ pd_S q0 n (p + 1) b M0 M1) (pc' := 136) (e := d) (vs := [.int (M.1 15 8)]) (r := []) ha rfl rfl rfl rfl rfl rfl rfl rfl (tk_ok ha hS hpn) (fun o ho => ?_)
      obtain ⟨Mk, eo, hMk⟩ := ho
      subst eo
      refine ⟨_, rfl, ?_⟩
      show hp X (d + 1) 77 136 [some (.ref 15), some (.int (115 : Int32))] [.int (M.1 15 8)] a Mk _
      refine hp_ri rfl rfl ?_
      exact ⟨_, _, rfl, Or.inl ⟨pa_fb_t (by omega), hpn, hMk⟩⟩
    · have zk : (116 : Int32).toInt = 116 := rfl
      have hpn : p < n := by
        by_cases w : p < n
        · exact w
        · have := hpn0 w
          omega
      refine hp_il (pc' := 1) (j := 1) (Or.inr ⟨1, rfl, rfl, rfl⟩) rfl ?_
      refine hp_s (pc' := 119) (st' := []) rfl ?_
      refine hp_al (pc' := 120) (j := 0) (Or.inr ⟨0, rfl, rfl, rfl⟩) rfl ?_
      refine hp_al (pc' := 121) (j := 0) (Or.inr ⟨0, rfl, rfl, rfl⟩) rfl ?_
      refine hp_gi (pc' := 124) (j := 7) (t := 0) ha rfl rfl rfl (by decide) rfl ?_
      refine hp_cx (q := 15) (Q := fun o => ∃ M1 : rx_M, o = (some (.int (M.1 15 7)), a, M1) ∧ pd_S q0 n (p + 1) b M0 M1) (pc' := 127) (e := d) (vs := [.int (M.1 15 7)]) (r := []) ha rfl rfl rfl rfl rfl rfl rfl rfl (tk_ok ha hS hpn) (fun o ho => ?_)
      obtain ⟨Mk, eo, hMk⟩ := ho
      subst eo
      refine ⟨_, rfl, ?_⟩
      show hp X (d + 1) 77 127 [some (.ref 15), some (.int (116 : Int32))] [.int (M.1 15 7)] a Mk _
      refine hp_ri rfl rfl ?_
      exact ⟨_, _, rfl, Or.inl ⟨pa_fb_t (by omega), hpn, hMk⟩⟩
    · have zk : (117 : Int32).toInt = 117 := rfl
      have hpn : p < n := by
        by_cases w : p < n
        · exact w
        · have := hpn0 w
          omega
      refine hp_il (pc' := 1) (j := 1) (Or.inr ⟨1, rfl, rfl, rfl⟩) rfl ?_
      refine hp_s (pc' := 155) (st' := []) rfl ?_
      refine hp_al (pc' := 156) (j := 0) (Or.inr ⟨0, rfl, rfl, rfl⟩) rfl ?_
      refine hp_ic (pc' := 157) (x := 1) rfl rfl rfl ?_
      refine hp_pfb (pc' := 160) (j := 3) ha (by decide) rfl rfl rfl rfl (fun M1 eM1 gM1 => ?_)
      have hM1 := pd_fail hS eM1 gM1 zz1
      refine hp_ic (pc' := 161) (x := 0) rfl rfl rfl ?_
      refine hp_ri rfl rfl ?_
      exact ⟨_, _, rfl, Or.inr ⟨fun w => by
        have w := pa_fb_i w
        omega, hM1⟩⟩
    · have zk : (118 : Int32).toInt = 118 := rfl
      have hpn : p < n := by
        by_cases w : p < n
        · exact w
        · have := hpn0 w
          omega
      refine hp_il (pc' := 1) (j := 1) (Or.inr ⟨1, rfl, rfl, rfl⟩) rfl ?_
      refine hp_s (pc' := 155) (st' := []) rfl ?_
      refine hp_al (pc' := 156) (j := 0) (Or.inr ⟨0, rfl, rfl, rfl⟩) rfl ?_
      refine hp_ic (pc' := 157) (x := 1) rfl rfl rfl ?_
      refine hp_pfb (pc' := 160) (j := 3) ha (by decide) rfl rfl rfl rfl (fun M1 eM1 gM1 => ?_)
      have hM1 := pd_fail hS eM1 gM1 zz1
      refine hp_ic (pc' := 161) (x := 0) rfl rfl rfl ?_
      refine hp_ri rfl rfl ?_
      exact ⟨_, _, rfl, Or.inr ⟨fun w => by
        have w := pa_fb_i w
        omega, hM1⟩⟩
    · have zk : (119 : Int32).toInt = 119 := rfl
      have hpn : p < n := by
        by_cases w : p < n
        · exact w
        · have := hpn0 w
          omega
      refine hp_il (pc' := 1) (j := 1) (Or.inr ⟨1, rfl, rfl, rfl⟩) rfl ?_
      refine hp_s (pc' := 137) (st' := []) rfl ?_
      refine hp_al (pc' := 138) (j := 0) (Or.inr ⟨0, rfl, rfl, rfl⟩) rfl ?_
      refine hp_al (pc' := 139) (j := 0) (Or.inr ⟨0, rfl, rfl, rfl⟩) rfl ?_
      refine hp_gi (pc' := 142) (j := 9) (t := 0) ha rfl rfl rfl (by decide) rfl ?_
      refine hp_cx (q := 15) (Q := fun o => ∃ M1 : rx_M, o = (some (.int (M.1 15 9)), a, M1) ∧ pd_S q0 n (p + 1) b M0 M1) (pc' := 145) (e := d) (vs := [.int (M.1 15 9)]) (r := []) ha rfl rfl rfl rfl rfl rfl rfl rfl (tk_ok ha hS hpn) (fun o ho => ?_)
      obtain ⟨Mk, eo, hMk⟩ := ho
      subst eo
      refine ⟨_, rfl, ?_⟩
      show hp X (d + 1) 77 145 [some (.ref 15), some (.int (119 : Int32))] [.int (M.1 15 9)] a Mk _
      refine hp_ri rfl rfl ?_
      exact ⟨_, _, rfl, Or.inl ⟨pa_fb_t (by omega), hpn, hMk⟩⟩
    · have zk : (120 : Int32).toInt = 120 := rfl
      have hpn : p < n := by
        by_cases w : p < n
        · exact w
        · have := hpn0 w
          omega
      refine hp_il (pc' := 1) (j := 1) (Or.inr ⟨1, rfl, rfl, rfl⟩) rfl ?_
      refine hp_s (pc' := 155) (st' := []) rfl ?_
      refine hp_al (pc' := 156) (j := 0) (Or.inr ⟨0, rfl, rfl, rfl⟩) rfl ?_
      refine hp_ic (pc' := 157) (x := 1) rfl rfl rfl ?_
      refine hp_pfb (pc' := 160) (j := 3) ha (by decide) rfl rfl rfl rfl (fun M1 eM1 gM1 => ?_)
      have hM1 := pd_fail hS eM1 gM1 zz1
      refine hp_ic (pc' := 161) (x := 0) rfl rfl rfl ?_
      refine hp_ri rfl rfl ?_
      exact ⟨_, _, rfl, Or.inr ⟨fun w => by
        have w := pa_fb_i w
        omega, hM1⟩⟩
    · have zk : (121 : Int32).toInt = 121 := rfl
      have hpn : p < n := by
        by_cases w : p < n
        · exact w
        · have := hpn0 w
          omega
      refine hp_il (pc' := 1) (j := 1) (Or.inr ⟨1, rfl, rfl, rfl⟩) rfl ?_
      refine hp_s (pc' := 146) (st' := []) rfl ?_
      refine hp_al (pc' := 147) (j := 0) (Or.inr ⟨0, rfl, rfl, rfl⟩) rfl ?_
      refine hp_al (pc' := 148) (j := 0) (Or.inr ⟨0, rfl, rfl, rfl⟩) rfl ?_
      refine hp_gi (pc' := 151) (j := 10) (t := 0) ha rfl rfl rfl (by decide) rfl ?_
      refine hp_cx (q := 15) (Q := fun o => ∃ M1 : rx_M, o = (some (.int (M.1 15 10)), a, M1) ∧ pd_S q0 n (p + 1) b M0 M1) (pc' := 154) (e := d) (vs := [.int (M.1 15 10)]) (r := []) ha rfl rfl rfl rfl rfl rfl rfl rfl (tk_ok ha hS hpn) (fun o ho => ?_)
      obtain ⟨Mk, eo, hMk⟩ := ho
      subst eo
      refine ⟨_, rfl, ?_⟩
      show hp X (d + 1) 77 154 [some (.ref 15), some (.int (121 : Int32))] [.int (M.1 15 10)] a Mk _
      refine hp_ri rfl rfl ?_
      exact ⟨_, _, rfl, Or.inl ⟨pa_fb_t (by omega), hpn, hMk⟩⟩
theorem nu_ok (ha : a.1 = rx_cells) (hS : pd_S q0 n p b M0 M) (hb1 : ¬ b = true) (hpn : p < n) (hd : 48 ≤ pd_g q0 M0 p ∧ pd_g q0 M0 p ≤ 57) : hp X (d + 1) 76 0 [some (.ref 15), none, none] [] a M (fun o => ∃ (r : Int32) (M1 : rx_M), o = (some (.int r), a, M1) ∧ pd_S q0 n (pa_num (pd_g q0 M0) n p) b M0 M1) := by
  have zz1 : (1 : Int32).toInt = 1 := rfl
  have zz3 : (3 : Int32).toInt = 3 := rfl
  have zz10 : (10 : Int32).toInt = 10 := rfl
  have zz48 : (48 : Int32).toInt = 48 := rfl
  have zz0 : (0 : Int32).toInt = 0 := rfl
  have hb := pd_b hS
  obtain ⟨⟨s1, s2⟩, ⟨s3, s4, s5⟩, s6, s7, s8, s9, s10⟩ := id hS
  refine hp_al (pc' := 1) (j := 0) (Or.inr ⟨0, rfl, rfl, rfl⟩) rfl ?_
  refine hp_cx (q := 15) (Q := fun o => ∃ r : Int32, o = (some (.int r), a, M) ∧ r.toInt = pd_nx q0 n p b M0) (pc' := 4) (e := d) (vs := []) (r := []) ha rfl rfl rfl rfl rfl rfl rfl rfl (nx_ok ha hS) (fun o ho => ?_)
  obtain ⟨r0, eo, qr0⟩ := ho
  subst eo
  refine ⟨_, rfl, ?_⟩
  rw [pd_n1 hS hb1 hpn] at qr0
  show hp X (d + 1) 76 4 [some (.ref 15), none, none] [.int r0] a M _
  refine hp_bi (pc' := 6) (x := 48) rfl rfl rfl ?_
  refine hp_sub (pc' := 7) rfl rfl (fun z1 hz1 => ?_)
  have yz1 : z1.toInt = pd_g q0 M0 p - 48 := by
    rw [hz1, ax_sub (by omega) (by omega), zz48, qr0]
  refine hp_is (pc' := 8) (j := 1) (ls' := [some (.ref 15), some (.int z1), none]) (Or.inr ⟨1, rfl, rfl, rfl⟩) (by simp) rfl ?_
  refine hp_al (pc' := 9) (j := 0) (Or.inr ⟨0, rfl, rfl, rfl⟩) rfl ?_
  refine hp_dup (pc' := 10) rfl rfl rfl ?_
  refine hp_gi (pc' := 13) (j := 2) (t := 0) ha rfl rfl rfl (by decide) rfl ?_
  refine hp_ic (pc' := 14) (x := 1) rfl rfl rfl ?_
  refine hp_add (pc' := 15) rfl rfl (fun z2 hz2 => ?_)
  have yz2 : z2.toInt = ((p + 1 : Nat) : Int) := by
    rw [hz2, ax_add (by omega) (by omega), zz1, s7]
    omega
  refine hp_pf (pc' := 18) (j := 2) ha rfl rfl rfl rfl (fun M3 eM3 gM3 => ?_)
  have hM3 := pd_at hS eM3 gM3 yz2 (by omega)
  refine hp_ic (pc' := 19) (x := 1) rfl rfl rfl ?_
  refine hp_is (pc' := 20) (j := 2) (ls' := [some (.ref 15), some (.int z1), some (.int (1 : Int32))]) (Or.inr ⟨2, rfl, rfl, rfl⟩) (by simp) rfl ?_
  refine hp_il (pc' := 21) (j := 2) (Or.inr ⟨2, rfl, rfl, rfl⟩) rfl ?_
  refine hp_ic (pc' := 22) (x := 3) rfl rfl rfl ?_
  refine hp_ige (t := 68) (pc' := 25) rfl rfl rfl (fun c4 => ?_) (fun c4 => ?_)
  · exfalso
    omega
  · refine hp_il (pc' := 26) (j := 1) (Or.inr ⟨1, rfl, rfl, rfl⟩) rfl ?_
    refine hp_zle (t := 68) (pc' := 29) rfl rfl rfl (fun c5 => ?_) (fun c5 => ?_)
    · refine hp_il (pc' := 69) (j := 1) (Or.inr ⟨1, rfl, rfl, rfl⟩) rfl ?_
      refine hp_ri rfl rfl ?_
      have e : pa_num (pd_g q0 M0) n p = p + 1 := by
        unfold pa_num
        repeat' split
        all_goals omega
      rw [e]
      exact ⟨_, _, rfl, hM3⟩
    · refine hp_al (pc' := 30) (j := 0) (Or.inr ⟨0, rfl, rfl, rfl⟩) rfl ?_
      refine hp_cx (q := 15) (Q := fun o => ∃ r : Int32, o = (some (.int r), a, M3) ∧ r.toInt = pd_nx q0 n (p + 1) b M0) (pc' := 33) (e := d) (vs := []) (r := []) ha rfl rfl rfl rfl rfl rfl rfl rfl (nx_ok ha hM3) (fun o ho => ?_)
      obtain ⟨r6, eo, qr6⟩ := ho
      subst eo
      refine ⟨_, rfl, ?_⟩
      show hp X (d + 1) 76 33 [some (.ref 15), some (.int z1), some (.int (1 : Int32))] [.int r6] a M3 _
      refine hp_cs (Q := fun o => ∃ r : Int32, o = (some (.int r), a, M3) ∧ (r.toInt = 0 ∨ r.toInt = 1) ∧ (r.toInt ≠ 0 ↔ (48 ≤ r6.toInt ∧ r6.toInt ≤ 57))) (pc' := 36) (e := d) (vs := [.int r6]) (r := []) rfl rfl (Or.inl rfl) rfl rfl rfl rfl rfl dg_ok (fun o ho => ?_)
      obtain ⟨r7, eo, qr7⟩ := ho
      subst eo
      refine ⟨_, rfl, ?_⟩
      have nr7 : (p + 1) < n ∨ pd_nx q0 n (p + 1) b M0 = 0 := by
        by_cases w : (p + 1) < n
        · exact Or.inl w
        · exact Or.inr (pd_n0 (Or.inr w))
      have mr7 : (p + 1) < n → pd_nx q0 n (p + 1) b M0 = pd_g q0 M0 (p + 1) := fun w => pd_n1 hM3 hb1 w
      show hp X (d + 1) 76 36 [some (.ref 15), some (.int z1), some (.int (1 : Int32))] [.int r7] a M3 _
      refine hp_zeq (t := 68) (pc' := 39) rfl rfl rfl (fun c8 => ?_) (fun c8 => ?_)
      · refine hp_il (pc' := 69) (j := 1) (Or.inr ⟨1, rfl, rfl, rfl⟩) rfl ?_
        refine hp_ri rfl rfl ?_
        have e : pa_num (pd_g q0 M0) n p = p + 1 := by
          unfold pa_num
          repeat' split
          all_goals omega
        rw [e]
        exact ⟨_, _, rfl, hM3⟩
      · refine hp_bi (pc' := 41) (x := 10) rfl rfl rfl ?_
        refine hp_il (pc' := 42) (j := 1) (Or.inr ⟨1, rfl, rfl, rfl⟩) rfl ?_
        refine hp_mul (pc' := 43) rfl rfl (fun z9 hz9 => ?_)
        have yz9 : z9.toInt = 10 * z1.toInt := by
          rw [hz9, ax_mul (by rw [zz10]; omega) (by rw [zz10]; omega), zz10]
        refine hp_al (pc' := 44) (j := 0) (Or.inr ⟨0, rfl, rfl, rfl⟩) rfl ?_
        refine hp_cx (q := 15) (Q := fun o => ∃ r : Int32, o = (some (.int r), a, M3) ∧ r.toInt = pd_nx q0 n (p + 1) b M0) (pc' := 47) (e := d) (vs := []) (r := [.int z9]) ha rfl rfl rfl rfl rfl rfl rfl rfl (nx_ok ha hM3) (fun o ho => ?_)
        obtain ⟨r10, eo, qr10⟩ := ho
        subst eo
        refine ⟨_, rfl, ?_⟩
        show hp X (d + 1) 76 47 [some (.ref 15), some (.int z1), some (.int (1 : Int32))] [.int r10, .int z9] a M3 _
        refine hp_add (pc' := 48) rfl rfl (fun z11 hz11 => ?_)
        have yz11 : z11.toInt = 10 * z1.toInt + r10.toInt := by
          rw [hz11, ax_add (by omega) (by omega)]
          omega
        refine hp_bi (pc' := 50) (x := 48) rfl rfl rfl ?_
        refine hp_sub (pc' := 51) rfl rfl (fun z12 hz12 => ?_)
        have yz12 : z12.toInt = z11.toInt - 48 := by
          rw [hz12, ax_sub (by omega) (by omega), zz48]
        refine hp_is (pc' := 52) (j := 1) (ls' := [some (.ref 15), some (.int z12), some (.int (1 : Int32))]) (Or.inr ⟨1, rfl, rfl, rfl⟩) (by simp) rfl ?_
        refine hp_al (pc' := 53) (j := 0) (Or.inr ⟨0, rfl, rfl, rfl⟩) rfl ?_
        refine hp_dup (pc' := 54) rfl rfl rfl ?_
        refine hp_gi (pc' := 57) (j := 2) (t := 0) ha rfl rfl rfl (by decide) rfl ?_
        refine hp_ic (pc' := 58) (x := 1) rfl rfl rfl ?_
        refine hp_add (pc' := 59) rfl rfl (fun z13 hz13 => ?_)
        have t0 := hM3.2.2.2.1
        have yz13 : z13.toInt = ((p + 2 : Nat) : Int) := by
          rw [hz13, ax_add (by omega) (by omega), zz1, t0]
          omega
        refine hp_pf (pc' := 62) (j := 2) ha rfl rfl rfl rfl (fun M14 eM14 gM14 => ?_)
        have hM14 := pd_at hM3 eM14 gM14 yz13 (by omega)
        refine hp_in (pc' := 65) (j := 2) (ls' := [some (.ref 15), some (.int z12), some (.int ((1 : Int32) + Int32.ofInt 1))]) rfl rfl rfl rfl rfl ?_
        refine hp_go (t := 20) rfl rfl ?_
        have k2 : ((1 : Int32) + Int32.ofInt 1).toInt = 2 := rfl
        refine hp_il (pc' := 21) (j := 2) (Or.inr ⟨2, rfl, rfl, rfl⟩) rfl ?_
        refine hp_ic (pc' := 22) (x := 3) rfl rfl rfl ?_
        refine hp_ige (t := 68) (pc' := 25) rfl rfl rfl (fun c15 => ?_) (fun c15 => ?_)
        · exfalso
          omega
        · refine hp_il (pc' := 26) (j := 1) (Or.inr ⟨1, rfl, rfl, rfl⟩) rfl ?_
          refine hp_zle (t := 68) (pc' := 29) rfl rfl rfl (fun c16 => ?_) (fun c16 => ?_)
          · exfalso
            omega
          · refine hp_al (pc' := 30) (j := 0) (Or.inr ⟨0, rfl, rfl, rfl⟩) rfl ?_
            refine hp_cx (q := 15) (Q := fun o => ∃ r : Int32, o = (some (.int r), a, M14) ∧ r.toInt = pd_nx q0 n (p + 2) b M0) (pc' := 33) (e := d) (vs := []) (r := []) ha rfl rfl rfl rfl rfl rfl rfl rfl (nx_ok ha hM14) (fun o ho => ?_)
            obtain ⟨r17, eo, qr17⟩ := ho
            subst eo
            refine ⟨_, rfl, ?_⟩
            show hp X (d + 1) 76 33 [some (.ref 15), some (.int z12), some (.int ((1 : Int32) + Int32.ofInt 1))] [.int r17] a M14 _
            refine hp_cs (Q := fun o => ∃ r : Int32, o = (some (.int r), a, M14) ∧ (r.toInt = 0 ∨ r.toInt = 1) ∧ (r.toInt ≠ 0 ↔ (48 ≤ r17.toInt ∧ r17.toInt ≤ 57))) (pc' := 36) (e := d) (vs := [.int r17]) (r := []) rfl rfl (Or.inl rfl) rfl rfl rfl rfl rfl dg_ok (fun o ho => ?_)
            obtain ⟨r18, eo, qr18⟩ := ho
            subst eo
            refine ⟨_, rfl, ?_⟩
            have nr18 : (p + 2) < n ∨ pd_nx q0 n (p + 2) b M0 = 0 := by
              by_cases w : (p + 2) < n
              · exact Or.inl w
              · exact Or.inr (pd_n0 (Or.inr w))
            have mr18 : (p + 2) < n → pd_nx q0 n (p + 2) b M0 = pd_g q0 M0 (p + 2) := fun w => pd_n1 hM14 hb1 w
            show hp X (d + 1) 76 36 [some (.ref 15), some (.int z12), some (.int ((1 : Int32) + Int32.ofInt 1))] [.int r18] a M14 _
            refine hp_zeq (t := 68) (pc' := 39) rfl rfl rfl (fun c19 => ?_) (fun c19 => ?_)
            · refine hp_il (pc' := 69) (j := 1) (Or.inr ⟨1, rfl, rfl, rfl⟩) rfl ?_
              refine hp_ri rfl rfl ?_
              have e : pa_num (pd_g q0 M0) n p = p + 2 := by
                unfold pa_num
                repeat' split
                all_goals omega
              rw [e]
              exact ⟨_, _, rfl, hM14⟩
            · refine hp_bi (pc' := 41) (x := 10) rfl rfl rfl ?_
              refine hp_il (pc' := 42) (j := 1) (Or.inr ⟨1, rfl, rfl, rfl⟩) rfl ?_
              refine hp_mul (pc' := 43) rfl rfl (fun z20 hz20 => ?_)
              have yz20 : z20.toInt = 10 * z12.toInt := by
                rw [hz20, ax_mul (by rw [zz10]; omega) (by rw [zz10]; omega), zz10]
              refine hp_al (pc' := 44) (j := 0) (Or.inr ⟨0, rfl, rfl, rfl⟩) rfl ?_
              refine hp_cx (q := 15) (Q := fun o => ∃ r : Int32, o = (some (.int r), a, M14) ∧ r.toInt = pd_nx q0 n (p + 2) b M0) (pc' := 47) (e := d) (vs := []) (r := [.int z20]) ha rfl rfl rfl rfl rfl rfl rfl rfl (nx_ok ha hM14) (fun o ho => ?_)
              obtain ⟨r21, eo, qr21⟩ := ho
              subst eo
              refine ⟨_, rfl, ?_⟩
              show hp X (d + 1) 76 47 [some (.ref 15), some (.int z12), some (.int ((1 : Int32) + Int32.ofInt 1))] [.int r21, .int z20] a M14 _
              refine hp_add (pc' := 48) rfl rfl (fun z22 hz22 => ?_)
              have yz22 : z22.toInt = 10 * z12.toInt + r21.toInt := by
                rw [hz22, ax_add (by omega) (by omega)]
                omega
              refine hp_bi (pc' := 50) (x := 48) rfl rfl rfl ?_
              refine hp_sub (pc' := 51) rfl rfl (fun z23 hz23 => ?_)
              have yz23 : z23.toInt = z22.toInt - 48 := by
                rw [hz23, ax_sub (by omega) (by omega), zz48]
              refine hp_is (pc' := 52) (j := 1) (ls' := [some (.ref 15), some (.int z23), some (.int ((1 : Int32) + Int32.ofInt 1))]) (Or.inr ⟨1, rfl, rfl, rfl⟩) (by simp) rfl ?_
              refine hp_al (pc' := 53) (j := 0) (Or.inr ⟨0, rfl, rfl, rfl⟩) rfl ?_
              refine hp_dup (pc' := 54) rfl rfl rfl ?_
              refine hp_gi (pc' := 57) (j := 2) (t := 0) ha rfl rfl rfl (by decide) rfl ?_
              refine hp_ic (pc' := 58) (x := 1) rfl rfl rfl ?_
              refine hp_add (pc' := 59) rfl rfl (fun z24 hz24 => ?_)
              have t0 := hM14.2.2.2.1
              have yz24 : z24.toInt = ((p + 3 : Nat) : Int) := by
                rw [hz24, ax_add (by omega) (by omega), zz1, t0]
                omega
              refine hp_pf (pc' := 62) (j := 2) ha rfl rfl rfl rfl (fun M25 eM25 gM25 => ?_)
              have hM25 := pd_at hM14 eM25 gM25 yz24 (by omega)
              refine hp_in (pc' := 65) (j := 2) (ls' := [some (.ref 15), some (.int z23), some (.int (((1 : Int32) + Int32.ofInt 1) + Int32.ofInt 1))]) rfl rfl rfl rfl rfl ?_
              refine hp_go (t := 20) rfl rfl ?_
              have k3 : (((1 : Int32) + Int32.ofInt 1) + Int32.ofInt 1).toInt = 3 := rfl
              refine hp_il (pc' := 21) (j := 2) (Or.inr ⟨2, rfl, rfl, rfl⟩) rfl ?_
              refine hp_ic (pc' := 22) (x := 3) rfl rfl rfl ?_
              refine hp_ige (t := 68) (pc' := 25) rfl rfl rfl (fun c26 => ?_) (fun c26 => ?_)
              · refine hp_il (pc' := 69) (j := 1) (Or.inr ⟨1, rfl, rfl, rfl⟩) rfl ?_
                refine hp_ri rfl rfl ?_
                have e : pa_num (pd_g q0 M0) n p = p + 3 := by
                  unfold pa_num
                  repeat' split
                  all_goals omega
                rw [e]
                exact ⟨_, _, rfl, hM25⟩
              · exfalso
                omega
end PD
