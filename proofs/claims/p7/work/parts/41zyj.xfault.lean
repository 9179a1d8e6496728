/-! fault of the class, by hand -/
section HP10
variable {X : Nat × (Nat → Int32)} {d i pc pc' : Nat} {ls : List (Option Value)} {st : List Value} {a : rx_K} {M : rx_M} {P : rx_O → Prop}
/-- a field of a reference is written -/
theorem hp_pfr {x q ci j z : Nat} (ha : a.1 = rx_cells) (hz : z < rx_cells) (ht : rx_tb i pc = some (.putfield x)) (hf : rx_fl (rx_cn i) x = some (ci, j, 2, false)) (hl : rx_lay q = some (.inl ci)) (e : pc + 3 = pc') (k : ∀ M1 : rx_M, M1.1 = M.1 → M1.2.1 = rx_up M.2.1 q j (some z) → M1.2.2 = M.2.2 → hp X d i pc' ls st a M1 P) : hp X d i pc ls (.ref z :: .ref q :: st) a M P := by
  subst e
  refine hp_s ((hp_q ht).trans ?_) (k (M.1, rx_up M.2.1 q j (some z), M.2.2) rfl rfl rfl)
  show rx_pf (rx_ini i) (rx_cn i) x pc ls (.ref z :: .ref q :: st) a M = _
  unfold rx_pf
  dsimp only
  rw [hf]
  dsimp only
  rw [hl]
  dsimp only
  rw [if_pos (by rw [ha]; exact ax_lay_lt hl), if_pos rfl, if_neg (fun h => by cases h.1)]
  exact if_pos (by rw [ha]; exact hz)
/-- the lesser of two -/
theorem hp_min {x w0 w1 : Nat} {y z : Int32} (ht : rx_tb i pc = some (.invokestatic x)) (hm : rx_ml (rx_cn i) x = some (11, w0, w1)) (h8 : rx_c8 st = true) (e : pc + 3 = pc') (k : hp X d i pc' ls (.int (if y < z then y else z) :: st) a M P) : hp X d i pc ls (.int y :: .int z :: st) a M P := by
  subst e
  refine hp_s ((hp_q ht).trans ?_) k
  show rx_inv 1 (rx_cn i) x pc ls (.int y :: .int z :: st) a M = _
  unfold rx_inv
  rw [hm]
  show (if (1 : Nat) = 1 then cond (rx_c8 st) (rx_nx (pc + 3) ls (.int (if y < z then y else z) :: st) a M) none else none) = _
  rw [if_pos rfl, h8]
  rfl
end HP10
theorem pf_une {α : Type} {f : Nat → Nat → α} {q j p k : Nat} {z : α} (h : ¬ (p = q ∧ k = j)) : rx_up f q j z p k = f p k := by
  unfold rx_up
  by_cases c : p = q
  · rw [if_pos c, if_neg (fun w => h ⟨c, w⟩)]
  · rw [if_neg c]
theorem pf_ueq {α : Type} {f : Nat → Nat → α} {q j : Nat} {z : α} : rx_up f q j z q j = z := by
  unfold rx_up
  rw [if_pos rfl, if_pos rfl]
/-- the reader alone has changed -/
noncomputable def pf_F (M M1 : rx_M) : Prop := (∀ q j, ¬ (q = 15 ∧ 1 ≤ j ∧ j ≤ 3) → M1.1 q j = M.1 q j) ∧ (∀ q j, ¬ (q = 15 ∧ j = 0) → M1.2.1 q j = M.2.1 q j) ∧ M1.2.2 = M.2.2 ∧ (0 ≤ (M1.1 15 1).toInt ∧ (M1.1 15 1).toInt ≤ 80) ∧ (0 ≤ (M1.1 15 2).toInt ∧ (M1.1 15 2).toInt ≤ 80) ∧ (0 ≤ (M1.1 15 3).toInt ∧ (M1.1 15 3).toInt ≤ 1)
theorem pf_J {M M1 : rx_M} (hJ : ax_J0 ax_sp ax_rf M) (h : pf_F M M1) : ax_J0 ax_sp ax_rf M1 := by
  obtain ⟨k, h2, -, h4, h5, h6⟩ := h
  refine ⟨fun q j => ?_, fun q j z hz => ?_, ?_⟩
  · by_cases c : q = 15 ∧ 1 ≤ j ∧ j ≤ 3
    · obtain ⟨c1, c2, c3⟩ := c
      have c4 : j = 1 ∨ j = 2 ∨ j = 3 := by omega
      rcases c4 with c4 | c4 | c4
      · rw [c1, c4]
        exact h4
      · rw [c1, c4]
        exact h5
      · rw [c1, c4]
        exact h6
    · rw [k q j c]
      exact hJ.1 q j
  · rw [h2 q j (fun w => by
      rw [w.1, w.2] at hz
      cases hz)]
    exact hJ.2.1 q j z hz
  · exact ax_G_of hJ.2.2 (k _ _ (by omega)) (k _ _ (by omega)) (fun e he => ⟨k _ _ (by omega), k _ _ (by omega), k _ _ (by omega), k _ _ (by omega), fun h150 i => k _ _ (by omega)⟩) (fun e he => ⟨k _ _ (by omega), k _ _ (by omega), k _ _ (by omega), k _ _ (by omega), k _ _ (by omega), fun _ i _ => k _ _ (by omega)⟩) (fun i => by
      rw [k 213 i (by omega)]
      exact hJ.2.2.2.2.1 i) (fun i => by
      rw [k 283 i (by omega), k 284 i (by omega)]
      exact hJ.2.2.2.2.2.1 i)
/-- a row of bytes is wanted -/
noncomputable def pf_r (d h s : Int) : Int := if d < 0 ∨ 7 < d then -1 else if h = 0 then -11 else if h = 2 ∧ s = 0 then 0 else -12
theorem pf_w {x1 h s : Int} (w : wt_r x1 h 2 ≠ 0) : pf_r x1 h s = wt_r x1 h 2 := by
  unfold pf_r wt_r
  unfold wt_r at w
  by_cases h1 : x1 < 0 ∨ 7 < x1
  · rw [if_pos h1, if_pos h1]
  · rw [if_neg h1] at w ⊢
    rw [if_neg h1]
    by_cases h2 : h = 0
    · rw [if_pos h2, if_pos h2]
    · rw [if_neg h2] at w ⊢
      rw [if_neg h2]
      by_cases h3 : h = 2
      · rw [if_pos h3] at w
        exact absurd rfl w
      · rw [if_neg (fun z => h3 z.1), if_neg h3]
noncomputable def xf_Q (x1 : Int32) (a : rx_K) (M : rx_M) (o : rx_O) : Prop := ∃ (r : Int32) (M1 : rx_M), o = (some (.int r), a, M1) ∧ ((pf_r x1.toInt (M.1 230 x1.toInt.toNat).toInt (M.1 233 x1.toInt.toNat).toInt ≠ 0 ∧ r.toInt = pf_r x1.toInt (M.1 230 x1.toInt.toNat).toInt (M.1 233 x1.toInt.toNat).toInt ∧ M1 = M) ∨ (pf_r x1.toInt (M.1 230 x1.toInt.toNat).toInt (M.1 233 x1.toInt.toNat).toInt = 0 ∧ pa_R (fun j => (M.1 (236 + x1.toInt.toNat) j).toInt) (M.1 234 x1.toInt.toNat).toInt.toNat 0 [] true r.toInt ∧ pf_F M M1))
section PF
variable {X : Nat × (Nat → Int32)} {d n D : Nat} {a : rx_K} {M : rx_M} {P : rx_O → Prop} {x1 x2 x3 : Int32}
theorem bg_ok (ha : a.1 = rx_cells) (hD : D < 8) (hx : x2.toInt = (n : Int)) (hn : n ≤ 80) : hp X d 67 0 [some (.ref 15), some (.ref (236 + D)), some (.int x2)] [] a M (fun o => ∃ M1 : rx_M, o = (none, a, M1) ∧ pd_S (236 + D) n 0 false M1 M1 ∧ (∀ q j, ¬ (q = 15 ∧ 1 ≤ j ∧ j ≤ 3) → M1.1 q j = M.1 q j) ∧ (∀ q j, ¬ (q = 15 ∧ j = 0) → M1.2.1 q j = M.2.1 q j) ∧ M1.2.2 = M.2.2) := by
  have zz80 : (80 : Int32).toInt = 80 := rfl
  refine hp_al (pc' := 1) (j := 0) (Or.inr ⟨0, rfl, rfl, rfl⟩) rfl ?_
  refine hp_al (pc' := 2) (j := 1) (Or.inr ⟨1, rfl, rfl, rfl⟩) rfl ?_
  refine hp_pfr (pc' := 5) (j := 0) ha (ax_lay_lt (rw_lay hD)) rfl rfl rfl rfl (fun M1 e1 f1 g1 => ?_)
  refine hp_al (pc' := 6) (j := 0) (Or.inr ⟨0, rfl, rfl, rfl⟩) rfl ?_
  refine hp_il (pc' := 7) (j := 2) (Or.inr ⟨2, rfl, rfl, rfl⟩) rfl ?_
  refine hp_al (pc' := 8) (j := 1) (Or.inr ⟨1, rfl, rfl, rfl⟩) rfl ?_
  refine hp_len (pc' := 9) (x := 80) ha rfl (rw_lay hD) rfl rfl ?_
  refine hp_min (pc' := 12) rfl rfl rfl rfl ?_
  have hm : (if (80 : Int32) < x2 then (80 : Int32) else x2) = x2 := if_neg (fun w => by
    have := Int32.lt_iff_toInt_lt.mp w
    omega)
  rw [hm]
  refine hp_pf (pc' := 15) (j := 1) ha rfl rfl rfl rfl (fun M2 e2 g2 => ?_)
  refine hp_al (pc' := 16) (j := 0) (Or.inr ⟨0, rfl, rfl, rfl⟩) rfl ?_
  refine hp_ic (pc' := 17) (x := 0) rfl rfl rfl ?_
  refine hp_pf (pc' := 20) (j := 2) ha rfl rfl rfl rfl (fun M3 e3 g3 => ?_)
  refine hp_al (pc' := 21) (j := 0) (Or.inr ⟨0, rfl, rfl, rfl⟩) rfl ?_
  refine hp_ic (pc' := 22) (x := 0) rfl rfl rfl ?_
  refine hp_pfb (pc' := 25) (j := 3) ha (by decide) rfl rfl rfl rfl (fun M4 e4 g4 => ?_)
  refine hp_rv rfl rfl ?_
  have w : M4.2 = M1.2 := g4.trans (g3.trans g2)
  refine ⟨M4, rfl, ⟨⟨rfl, fun _ _ _ => rfl⟩, ⟨by rw [w, f1, pf_ueq], rw_lay hD, by omega⟩, by rw [e4, hp_up_ne (by omega), e3, hp_up_ne (by omega), e2, hp_up_eq]; exact hx, by rw [e4, hp_up_ne (by omega), e3, hp_up_eq]; rfl, by rw [e4, hp_up_eq]; rfl, Nat.zero_le _, hn⟩, fun q j hq => ?_, fun q j hq => by rw [w, f1, pf_une hq], by rw [w, g1]⟩
  rw [e4, hp_up_ne (by omega), e3, hp_up_ne (by omega), e2, hp_up_ne (by omega), e1]
theorem fo_ok (ha : a.1 = rx_cells) (hD : D < 8) (hx : x2.toInt = (n : Int)) (hn : n ≤ 80) : hp X (d + 38) 65 0 [some (.ref 15), some (.ref (236 + D)), some (.int x2)] [] a M (fun o => ∃ (r : Int32) (M1 : rx_M), o = (some (.int r), a, M1) ∧ pa_R (fun j => (M.1 (236 + D) j).toInt) n 0 [] true r.toInt ∧ pf_F M M1) := by
  refine hp_al (pc' := 1) (j := 0) (Or.inr ⟨0, rfl, rfl, rfl⟩) rfl ?_
  refine hp_al (pc' := 2) (j := 1) (Or.inr ⟨1, rfl, rfl, rfl⟩) rfl ?_
  refine hp_il (pc' := 3) (j := 2) (Or.inr ⟨2, rfl, rfl, rfl⟩) rfl ?_
  refine hp_cx (q := 15) (Q := fun o => ∃ M1 : rx_M, o = (none, a, M1) ∧ pd_S (236 + D) n 0 false M1 M1 ∧ (∀ q j, ¬ (q = 15 ∧ 1 ≤ j ∧ j ≤ 3) → M1.1 q j = M.1 q j) ∧ (∀ q j, ¬ (q = 15 ∧ j = 0) → M1.2.1 q j = M.2.1 q j) ∧ M1.2.2 = M.2.2) (pc' := 6) (e := d + 37) (vs := [.ref (236 + D), .int x2]) (r := []) ha rfl rfl rfl rfl rfl rfl rfl rfl (bg_ok ha hD hx hn) (fun o ho => ?_)
  obtain ⟨Mb, eo, hMb, b1, b2, b3⟩ := ho
  subst eo
  refine ⟨_, rfl, ?_⟩
  show hp X (d + 38) 65 6 [some (.ref 15), some (.ref (236 + D)), some (.int x2)] [] a Mb _
  have eg : pd_g (236 + D) Mb = fun j => (M.1 (236 + D) j).toInt := funext (fun j => by
    show (Mb.1 (236 + D) j).toInt = _
    rw [b1 _ _ (by omega)])
  have S : pd_H X (236 + D) n Mb 70 4 (d + 4 * 8 + 3 + 2) pd_o2 [] := su_ok (pr_ok (at_all 8 [] d rfl))
  have S : pd_H X (236 + D) n Mb 70 4 (d + 37) pd_o2 [] := S
  refine hp_al (pc' := 7) (j := 0) (Or.inr ⟨0, rfl, rfl, rfl⟩) rfl ?_
  refine hp_ic (pc' := 8) (x := 0) rfl rfl rfl ?_
  refine hp_cx (q := 15) (Q := pd_Q (236 + D) n Mb [] pd_o2 0 false a) (pc' := 11) (e := d + 37) (vs := [.int 0]) (r := []) ha rfl rfl rfl rfl rfl rfl rfl rfl (S 0 false 0 a Mb ha hMb rfl) (fun o ho => ?_)
  obtain ⟨r1, N1, p1, c1, eo, hN1, hr⟩ := ho
  subst eo
  refine ⟨_, rfl, ?_⟩
  show hp X (d + 38) 65 11 [some (.ref 15), some (.ref (236 + D)), some (.int x2)] [.int r1] a N1 _
  have hb := pd_b hN1
  obtain ⟨⟨s1, s2⟩, ⟨s3, s4, s5⟩, s6, s7, s8, s9, s10⟩ := id hN1
  have hF : pf_F M N1 := by
    refine ⟨fun q j hq => ?_, fun q j hq => ?_, ?_, by omega, by omega, by omega⟩
    · rw [s2 q j (by omega), b1 q j hq]
    · rw [s1, b2 q j hq]
    · rw [s1, b3]
  rw [← eg]
  have hr2 := hr.2 rfl
  have zm4 : ((-4) : Int32).toInt = -4 := rfl
  refine hp_pop (pc' := 12) rfl rfl rfl ?_
  refine hp_al (pc' := 13) (j := 0) (Or.inr ⟨0, rfl, rfl, rfl⟩) rfl ?_
  refine hp_gi (pc' := 16) (j := 3) (t := 1) ha rfl rfl rfl (by decide) rfl ?_
  refine hp_zne (t := 30) (pc' := 19) rfl rfl rfl (fun w1 => ?_) (fun w1 => ?_)
  · refine hp_al (pc' := 31) (j := 0) (Or.inr ⟨0, rfl, rfl, rfl⟩) rfl ?_
    refine hp_gi (pc' := 34) (j := 2) (t := 0) ha rfl rfl rfl (by decide) rfl ?_
    refine hp_go (t := 39) rfl rfl ?_
    refine hp_ri rfl rfl ?_
    refine ⟨_, N1, rfl, ?_, hF⟩
    rw [s7]
    rcases hr2 with h | h
    · exact h.2
    · exfalso
      rcases hb with hb | hb
      · omega
      · rw [h.1] at hb
        cases hb.2
  · have hc : c1 = false := by
      cases c1 with
      | false => rfl
      | true =>
        exfalso
        rcases hb with hb | hb
        · exact hb.2 rfl
        · omega
    subst hc
    have hr2 := hr2.resolve_left (fun z => by cases z.1)
    refine hp_al (pc' := 20) (j := 0) (Or.inr ⟨0, rfl, rfl, rfl⟩) rfl ?_
    refine hp_gi (pc' := 23) (j := 2) (t := 0) ha rfl rfl rfl (by decide) rfl ?_
    refine hp_al (pc' := 24) (j := 0) (Or.inr ⟨0, rfl, rfl, rfl⟩) rfl ?_
    refine hp_gi (pc' := 27) (j := 1) (t := 0) ha rfl rfl rfl (by decide) rfl ?_
    refine hp_ige (t := 37) (pc' := 30) rfl rfl rfl (fun w2 => ?_) (fun w2 => ?_)
    · refine hp_bi (pc' := 39) (x := (-4)) rfl rfl rfl ?_
      refine hp_ri rfl rfl ?_
      refine ⟨_, N1, rfl, ?_, hF⟩
      rw [zm4]
      exact hr2.2.2.2 _ (pa_ok (by omega))
    · refine hp_al (pc' := 31) (j := 0) (Or.inr ⟨0, rfl, rfl, rfl⟩) rfl ?_
      refine hp_gi (pc' := 34) (j := 2) (t := 0) ha rfl rfl rfl (by decide) rfl ?_
      refine hp_go (t := 39) rfl rfl ?_
      refine hp_ri rfl rfl ?_
      refine ⟨_, N1, rfl, ?_, hF⟩
      rw [s7]
      exact hr2.2.2.2 _ (pa_top (by omega) (hr2.2.2.1 (by omega)))
theorem rz_ok (ha : a.1 = rx_cells) (hM : ax_J0 ax_sp ax_rf M) : hp X (d + 2) 100 0 [some (.ref 229), some (.int x1), some (.int 0), none] [] a M (fun o => ∃ r : Int32, o = (some (.int r), a, M) ∧ r.toInt = pf_r x1.toInt (M.1 230 x1.toInt.toNat).toInt (M.1 233 x1.toInt.toNat).toInt) := by
  have zz0 : (0 : Int32).toInt = 0 := rfl
  have zz2 : (2 : Int32).toInt = 2 := rfl
  have zz3 : (3 : Int32).toInt = 3 := rfl
  have zm12 : ((-12) : Int32).toInt = -12 := rfl
  refine hp_al (pc' := 1) (j := 0) (Or.inr ⟨0, rfl, rfl, rfl⟩) rfl ?_
  refine hp_il (pc' := 2) (j := 1) (Or.inr ⟨1, rfl, rfl, rfl⟩) rfl ?_
  refine hp_ic (pc' := 3) (x := 2) rfl rfl rfl ?_
  refine hp_cx (q := 229) (Q := fun o => ∃ r : Int32, o = (some (.int r), a, M) ∧ r.toInt = wt_r x1.toInt (M.1 230 x1.toInt.toNat).toInt ((2 : Int32) : Int32).toInt) (pc' := 6) (e := (d + 1)) (vs := [.int x1, .int (2 : Int32)]) (r := []) ha rfl rfl rfl rfl rfl rfl rfl rfl (ro_ok (d := d) ha hM) (fun o ho => ?_)
  obtain ⟨r1, eo, qr1⟩ := ho
  subst eo
  refine ⟨_, rfl, ?_⟩
  show hp X ((d + 1) + 1) 100 6 [some (.ref 229), some (.int x1), some (.int (0 : Int32)), none] [.int r1] a M _
  refine hp_is (pc' := 7) (j := 3) (ls' := [some (.ref 229), some (.int x1), some (.int (0 : Int32)), some (.int r1)]) (Or.inr ⟨3, rfl, rfl, rfl⟩) (by simp) rfl ?_
  refine hp_il (pc' := 8) (j := 3) (Or.inr ⟨3, rfl, rfl, rfl⟩) rfl ?_
  refine hp_zeq (t := 13) (pc' := 11) rfl rfl rfl (fun c2 => ?_) (fun c2 => ?_)
  · have hq1 : 0 ≤ x1.toInt ∧ x1.toInt ≤ 7 ∧ (M.1 230 x1.toInt.toNat).toInt = 2 := by
      have w0 : wt_r x1.toInt (M.1 230 x1.toInt.toNat).toInt (2 : Int32).toInt = 0 := by omega
      rw [zz2] at w0
      unfold wt_r at w0
      repeat' split at w0
      all_goals omega
    obtain ⟨D, hD, hD8⟩ : ∃ D : Nat, x1.toInt = (D : Int) ∧ D < 8 := ⟨x1.toInt.toNat, by omega, by omega⟩
    have eD : x1.toInt.toNat = D := by omega
    rw [eD] at hq1
    refine hp_il (pc' := 14) (j := 2) (Or.inr ⟨2, rfl, rfl, rfl⟩) rfl ?_
    refine hp_ic (pc' := 15) (x := 3) rfl rfl rfl ?_
    refine hp_ieq (t := 28) (pc' := 18) rfl rfl rfl (fun c3 => by exfalso; omega) (fun c3 => ?_)
    refine hp_al (pc' := 19) (j := 0) (Or.inr ⟨0, rfl, rfl, rfl⟩) rfl ?_
    refine hp_gr (pc' := 22) ha (hM.2.1 229 3 233 rfl) rfl rfl rfl rfl ?_
    refine hp_il (pc' := 23) (j := 1) (Or.inr ⟨1, rfl, rfl, rfl⟩) rfl ?_
    refine hp_ld (pc' := 24) (j := D) ha hD (by omega) rfl rfl rfl ?_
    refine hp_il (pc' := 25) (j := 2) (Or.inr ⟨2, rfl, rfl, rfl⟩) rfl ?_
    refine hp_ine (t := 32) (pc' := 28) rfl rfl rfl (fun c4 => ?_) (fun c4 => ?_)
    · refine hp_bi (pc' := 34) (x := (-12)) rfl rfl rfl ?_
      refine hp_ri rfl rfl ?_
      exact ⟨_, rfl, by
        rw [eD]
        unfold pf_r
        repeat' split
        all_goals omega⟩
    · refine hp_ic (pc' := 29) (x := 0) rfl rfl rfl ?_
      refine hp_go (t := 34) rfl rfl ?_
      refine hp_ri rfl rfl ?_
      exact ⟨_, rfl, by
        rw [eD]
        unfold pf_r
        repeat' split
        all_goals omega⟩
  · refine hp_il (pc' := 12) (j := 3) (Or.inr ⟨3, rfl, rfl, rfl⟩) rfl ?_
    refine hp_ri rfl rfl ?_
    exact ⟨_, rfl, qr1.trans (by rw [zz2]; exact (pf_w (by rw [← zz2, ← qr1]; omega)).symm)⟩
theorem xf2_ok (ha : a.1 = rx_cells) (hM : ax_J0 ax_sp ax_rf M) : hp X (d + 40) 111 0 [some (.ref 0), some (.int x1), none] [] a M (xf_Q x1 a M) := by
  have zz0 : (0 : Int32).toInt = 0 := rfl
  refine hp_al (pc' := 1) (j := 0) (Or.inr ⟨0, rfl, rfl, rfl⟩) rfl ?_
  refine hp_gr (pc' := 4) ha (hM.2.1 0 8 229 rfl) rfl rfl rfl rfl ?_
  refine hp_il (pc' := 5) (j := 1) (Or.inr ⟨1, rfl, rfl, rfl⟩) rfl ?_
  refine hp_ic (pc' := 6) (x := 0) rfl rfl rfl ?_
  refine hp_cx (q := 229) (Q := fun o => ∃ r : Int32, o = (some (.int r), a, M) ∧ r.toInt = pf_r x1.toInt (M.1 230 x1.toInt.toNat).toInt (M.1 233 x1.toInt.toNat).toInt) (pc' := 9) (e := (d + 39)) (vs := [.int x1, .int (0 : Int32)]) (r := []) ha rfl rfl rfl rfl rfl rfl rfl rfl (rz_ok (d := d + 37) ha hM) (fun o ho => ?_)
  obtain ⟨r1, eo, qr1⟩ := ho
  subst eo
  refine ⟨_, rfl, ?_⟩
  show hp X ((d + 39) + 1) 111 9 [some (.ref 0), some (.int x1), none] [.int r1] a M _
  refine hp_is (pc' := 10) (j := 2) (ls' := [some (.ref 0), some (.int x1), some (.int r1)]) (Or.inr ⟨2, rfl, rfl, rfl⟩) (by simp) rfl ?_
  refine hp_il (pc' := 11) (j := 2) (Or.inr ⟨2, rfl, rfl, rfl⟩) rfl ?_
  refine hp_zeq (t := 16) (pc' := 14) rfl rfl rfl (fun c2 => ?_) (fun c2 => ?_)
  · have hq1 : 0 ≤ x1.toInt ∧ x1.toInt ≤ 7 := by
      have w0 : pf_r x1.toInt (M.1 230 x1.toInt.toNat).toInt (M.1 233 x1.toInt.toNat).toInt = 0 := by omega
      unfold pf_r at w0
      split at w0
      · omega
      · omega
    obtain ⟨D, hD, hD8⟩ : ∃ D : Nat, x1.toInt = (D : Int) ∧ D < 8 := ⟨x1.toInt.toNat, by omega, by omega⟩
    have eD : x1.toInt.toNat = D := by omega
    have bz : 0 ≤ (M.1 234 D).toInt ∧ (M.1 234 D).toInt ≤ 80 := hM.1 234 D
    obtain ⟨n, hn, hn8⟩ : ∃ n : Nat, (M.1 234 D).toInt = (n : Int) ∧ n ≤ 80 := ⟨(M.1 234 D).toInt.toNat, by omega, by omega⟩
    refine hp_al (pc' := 17) (j := 0) (Or.inr ⟨0, rfl, rfl, rfl⟩) rfl ?_
    refine hp_gr (pc' := 20) ha (hM.2.1 0 2 14 rfl) rfl rfl rfl rfl ?_
    refine hp_gr (pc' := 23) ha (hM.2.1 14 1 15 rfl) rfl rfl rfl rfl ?_
    refine hp_al (pc' := 24) (j := 0) (Or.inr ⟨0, rfl, rfl, rfl⟩) rfl ?_
    refine hp_gr (pc' := 27) ha (hM.2.1 0 8 229 rfl) rfl rfl rfl rfl ?_
    refine hp_gr (pc' := 30) ha (hM.2.1 229 5 235 rfl) rfl rfl rfl rfl ?_
    refine hp_il (pc' := 31) (j := 1) (Or.inr ⟨1, rfl, rfl, rfl⟩) rfl ?_
    refine hp_aal (pc' := 32) (j := D) ha (hM.2.1 235 D (236 + D) (rw_rf (by omega))) hD (by omega) rfl rfl rfl ?_
    refine hp_al (pc' := 33) (j := 0) (Or.inr ⟨0, rfl, rfl, rfl⟩) rfl ?_
    refine hp_gr (pc' := 36) ha (hM.2.1 0 8 229 rfl) rfl rfl rfl rfl ?_
    refine hp_gr (pc' := 39) ha (hM.2.1 229 4 234 rfl) rfl rfl rfl rfl ?_
    refine hp_il (pc' := 40) (j := 1) (Or.inr ⟨1, rfl, rfl, rfl⟩) rfl ?_
    refine hp_ld (pc' := 41) (j := D) ha hD (by omega) rfl rfl rfl ?_
    refine hp_cx (q := 15) (Q := fun o => ∃ (r : Int32) (M1 : rx_M), o = (some (.int r), a, M1) ∧ pa_R (fun j => (M.1 (236 + D) j).toInt) n 0 [] true r.toInt ∧ pf_F M M1) (pc' := 44) (e := d + 39) (vs := [.ref (236 + D), .int (M.1 234 D)]) (r := []) ha rfl rfl rfl rfl rfl rfl rfl rfl (fo_ok (d := d + 1) ha hD8 hn hn8) (fun o ho => ?_)
    obtain ⟨r9, M9, eo, h9, f9⟩ := ho
    subst eo
    refine ⟨_, rfl, ?_⟩
    show hp X (d + 40) 111 44 [some (.ref 0), some (.int x1), some (.int r1)] [.int r9] a M9 _
    refine hp_ri rfl rfl ?_
    refine ⟨_, M9, rfl, Or.inr ⟨by rw [← qr1]; omega, ?_, f9⟩⟩
    have e9 : (M.1 234 x1.toInt.toNat).toInt.toNat = n := by
      rw [eD]
      omega
    rw [e9, eD]
    exact h9
  · refine hp_il (pc' := 15) (j := 2) (Or.inr ⟨2, rfl, rfl, rfl⟩) rfl ?_
    refine hp_ri rfl rfl ?_
    exact ⟨_, M, rfl, Or.inl ⟨by rw [← qr1]; omega, qr1, rfl⟩⟩
end PF
/-- what is told hangs on the bytes below the size alone -/
theorem pa_num_c {g g' : Nat → Int} {n : Nat} (h : ∀ j, j < n → g j = g' j) {p : Nat} (hp : p < n) : pa_num g n p = pa_num g' n p := by
  unfold pa_num
  rw [h p hp]
  by_cases c1 : p + 1 < n
  · rw [h _ c1]
    by_cases c2 : p + 2 < n
    · rw [h _ c2]
    · have e1 : ¬ (p + 2 < n ∧ 48 ≤ g (p + 2) ∧ g (p + 2) ≤ 57) := fun w => c2 w.1
      have e2 : ¬ (p + 2 < n ∧ 48 ≤ g' (p + 2) ∧ g' (p + 2) ≤ 57) := fun w => c2 w.1
      rw [if_neg e1, if_neg e2]
  · have e1 : ¬ (p + 1 < n ∧ 48 ≤ g (p + 1) ∧ g (p + 1) ≤ 57) := fun w => c1 w.1
    have e2 : ¬ (p + 1 < n ∧ 48 ≤ g' (p + 1) ∧ g' (p + 1) ≤ 57) := fun w => c1 w.1
    rw [if_neg e1, if_neg e2]
theorem pa_st_c {g g' : Nat → Int} {n : Nat} (h : ∀ j, j < n → g j = g' j) {p : Nat} (hp : p < n) (s : List Nat) (w : Bool) : pa_st g n p s w = pa_st g' n p s w := by
  unfold pa_st
  rw [pa_num_c h hp, h p hp]
theorem pa_run_c {g g' : Nat → Int} {n : Nat} (h : ∀ j, j < n → g j = g' j) : ∀ (k p : Nat) (s : List Nat) (w : Bool), pa_run g n k p s w = pa_run g' n k p s w
  | 0, _, _, _ => rfl
  | k + 1, p, s, w => by
    unfold pa_run
    by_cases hp : p < n
    · rw [if_pos hp, if_pos hp, pa_st_c h hp]
      cases pa_st g' n p s w with
      | none => rfl
      | some q => exact pa_run_c h k _ _ _
    · rw [if_neg hp, if_neg hp]
theorem pa_R_c {g g' : Nat → Int} {n p : Nat} {s : List Nat} {w : Bool} {r : Int} (h : ∀ j, j < n → g j = g' j) (k : pa_R g n p s w r) : pa_R g' n p s w r := by
  obtain ⟨f, e⟩ := k
  exact ⟨f, by rw [← pa_run_c h]; exact e⟩
