/-! keep, of both sides, by hand -/
section HP6
variable {X : Nat × (Nat → Int32)} {d i pc pc' : Nat} {ls : List (Option Value)} {st : List Value} {a : rx_K} {M : rx_M} {P : rx_O → Prop}
theorem hp_stb {q n j : Nat} {y z : Int32} (ha : a.1 = rx_cells) (hz : z = 0 ∨ z = 1) (hy : y.toInt = (j : Int)) (hj : j < n) (ht : rx_tb i pc = some .bastore) (hl : rx_lay q = some (.inr (1, n))) (e : pc + 1 = pc') (k : ∀ M1 : rx_M, M1.1 = rx_up M.1 q j z → M1.2 = M.2 → hp X d i pc' ls st a M1 P) : hp X d i pc ls (.int z :: .int y :: .ref q :: st) a M P := by
  subst e
  have h9 := ax_clamp (x := y) (by omega)
  have hn : y.toNatClampNeg = j := by omega
  refine hp_s ((hp_q ht).trans ?_) (k (rx_up M.1 q j z, M.2.1, M.2.2) rfl rfl)
  show rx_as 1 pc ls (.int z :: .int y :: .ref q :: st) a M = _
  unfold rx_as
  dsimp only
  rw [hl]
  dsimp only
  rw [if_pos (by rw [ha]; exact ax_lay_lt hl), if_pos rfl, if_neg (by
    rintro (w | w)
    · have := ax_neg.mp w
      omega
    · omega), hn]
  show (if z = 0 ∨ z = 1 then _ else none) = _
  rw [if_pos hz]
  rfl
end HP6
noncomputable def kp_ok (x1 x2 x3 n : Int) : Prop := (0 ≤ x1 ∧ x1 ≤ 7) ∧ (x2 = 0 ∨ (x2 = 1 ∧ 0 ≤ x3 ∧ x3 < n))
/-- what keep does: the kind, the one, what else may be written -/
noncomputable def kp_F (h o w D : Nat) (x2 x3 : Int32) (M M1 : rx_M) : Prop := (M1.1 h D).toInt = x2.toInt ∧ (x2.toInt = 1 → M1.1 o D = x3) ∧ ∀ q j, ¬ (j = D ∧ (q = h ∨ q = o ∨ q = w)) → M1.1 q j = M.1 q j
noncomputable def kp_Q (h p w : Nat) (n : Int) (x1 x2 x3 : Int32) (a : rx_K) (M : rx_M) (o : rx_O) : Prop := ∃ (r : Int32) (M1 : rx_M) (a1 : rx_K), o = (some (.int r), a1, M1) ∧ a1.1 = rx_cells ∧ a1.2.1 ≤ a.2.1 ∧ a1.2.2 ≤ a.2.2 ∧ ax_J0 ax_sp ax_rf M1 ∧ ((¬ kp_ok x1.toInt x2.toInt x3.toInt n ∧ r.toInt = -1 ∧ M1.1 = M.1) ∨ (kp_ok x1.toInt x2.toInt x3.toInt n ∧ r.toInt = 0 ∧ kp_F h p w x1.toInt.toNat x2 x3 M M1))
/-- the kind and the one are written together -/
theorem kp_J {M M1 M2 : rx_M} {D : Nat} {x2 x3 : Int32} (hJ : ax_J0 ax_sp ax_rf M) (h2 : 0 ≤ x2.toInt ∧ x2.toInt ≤ 1) (h3 : x2.toInt = 1 → 0 ≤ x3.toInt ∧ x3.toInt ≤ 11) (e1 : M1.1 = rx_up M.1 283 D x2) (g1 : M1.2 = M.2) (e2 : M2.1 = rx_up M1.1 284 D x3) (g2 : M2.2 = M1.2) : ax_J0 ax_sp ax_rf M2 := by
  have e : ∀ q j, ¬ (j = D ∧ (q = 283 ∨ q = 284)) → M2.1 q j = M.1 q j := fun q j hq => by rw [e2, hp_up_ne (by omega), e1, hp_up_ne (by omega)]
  have p1 : M2.1 283 D = x2 := by rw [e2, hp_up_ne (by omega), e1, hp_up_eq]
  have p2 : M2.1 284 D = x3 := by rw [e2, hp_up_eq]
  refine ⟨fun q j => ?_, hp_Re hJ.2.1 (g2.trans g1), ?_⟩
  · by_cases c : j = D ∧ (q = 283 ∨ q = 284)
    · obtain ⟨c1, c2 | c2⟩ := c
      · rw [c1, c2, p1]
        show (0 : Int) ≤ x2.toInt ∧ x2.toInt ≤ 2
        omega
      · rw [c1, c2, p2]
        exact ax_full_ok x3
    · rw [e q j c]
      exact hJ.1 q j
  · refine ax_G_of hJ.2.2 (e 14 16 (by omega)) (e 244 7 (by omega)) (fun k hk => ⟨e _ _ (by omega), e _ _ (by omega), e _ _ (by omega), e _ _ (by omega), fun h150 i => e _ _ (by omega)⟩) (fun k hk => ⟨e _ _ (by omega), e _ _ (by omega), e _ _ (by omega), e _ _ (by omega), e _ _ (by omega), fun h150 i hi => e _ _ (by omega)⟩) (fun i => ?_) (fun i => ?_)
    · rw [e 213 i (by omega)]
      exact hJ.2.2.2.2.1 i
    · by_cases c : i = D
      · rw [c, p1, p2]
        exact h3
      · rw [e 283 i (by omega), e 284 i (by omega)]
        exact hJ.2.2.2.2.2.1 i
section KP
variable {X : Nat × (Nat → Int32)} {d n D : Nat} {a : rx_K} {M : rx_M} {P : rx_O → Prop} {x1 x2 x3 : Int32}
theorem kh_ok (ha : a.1 = rx_cells) : hp X (d + 1) 43 0 [some (.ref 1), some (.int x1)] [] a M (fun o => ∃ r : Int32, o = (some (.int r), a, M) ∧ (r.toInt = 0 ∨ r.toInt = 1) ∧ (r.toInt ≠ 0 ↔ (0 ≤ (x1 : Int32).toInt ∧ (x1 : Int32).toInt < (M.1 1 4).toInt))) := by
  refine hp_il (pc' := 1) (j := 1) (Or.inr ⟨1, rfl, rfl, rfl⟩) rfl ?_
  refine hp_al (pc' := 2) (j := 0) (Or.inr ⟨0, rfl, rfl, rfl⟩) rfl ?_
  refine hp_gi (pc' := 5) (j := 4) (t := 0) ha rfl rfl rfl (by decide) rfl ?_
  refine hp_cs (Q := fun o => ∃ r : Int32, o = (some (.int r), a, M) ∧ (r.toInt = 0 ∨ r.toInt = 1) ∧ (r.toInt ≠ 0 ↔ (0 ≤ (x1 : Int32).toInt ∧ (x1 : Int32).toInt < ((M.1 1 4) : Int32).toInt))) (pc' := 8) (e := d) (vs := [.int x1, .int (M.1 1 4)]) (r := []) rfl rfl (Or.inr rfl) rfl rfl rfl rfl rfl bl_ok (fun o ho => ?_)
  obtain ⟨r1, eo, qr1⟩ := ho
  subst eo
  refine ⟨_, rfl, ?_⟩
  show hp X (d + 1) 43 8 [some (.ref 1), some (.int x1)] [.int r1] a M _
  refine hp_rb rfl rfl (rb_ok qr1.1) ?_
  exact ⟨_, rfl, qr1⟩
theorem kd_ok (ha : a.1 = rx_cells) (hJ : ax_J0 ax_sp ax_rf M) (h1 : x1.toInt = (n : Int)) (hn : n < 12) : hp X d 45 0 [some (.ref 1), some (.int x1)] [] a M (fun o => ∃ r : Int32, o = (some (.int r), a, M) ∧ (r.toInt = 0 ∨ r.toInt = 1)) := by
  refine hp_al (pc' := 1) (j := 0) (Or.inr ⟨0, rfl, rfl, rfl⟩) rfl ?_
  refine hp_gr (pc' := 4) ha (hJ.2.1 1 3 5 rfl) rfl rfl rfl rfl ?_
  refine hp_il (pc' := 5) (j := 1) (Or.inr ⟨1, rfl, rfl, rfl⟩) rfl ?_
  refine hp_ld (pc' := 6) (j := n) ha h1 (by omega) rfl rfl rfl ?_
  refine hp_bi (pc' := 8) (x := (-4)) rfl rfl rfl ?_
  refine hp_ieq (t := 15) (pc' := 11) rfl rfl rfl (fun c1 => ?_) (fun c1 => ?_)
  · refine hp_ic (pc' := 16) (x := 0) rfl rfl rfl ?_
    refine hp_rb rfl rfl (by decide) ?_
    exact ⟨_, rfl, Or.inl rfl⟩
  · refine hp_ic (pc' := 12) (x := 1) rfl rfl rfl ?_
    refine hp_go (t := 16) rfl rfl ?_
    refine hp_rb rfl rfl (by decide) ?_
    exact ⟨_, rfl, Or.inr rfl⟩
theorem kq_w {M M1 : rx_M} {q j : Nat} {z : Int32} (lo : Int) (h : ax_J0 ax_sp ax_rf M) (h2 : lo ≤ (q : Int)) (h3 : (q : Int) ≤ lo) (hz : (ax_sp q j).1 ≤ z.toInt ∧ z.toInt ≤ (ax_sp q j).2) (h1 : ax_quiet lo lo = true) (h4 : ¬ (14 = q ∧ 16 = j)) (h5 : ¬ (244 = q ∧ 7 = j)) (e : M1.1 = rx_up M.1 q j z) (g : M1.2 = M.2) : ax_J0 ax_sp ax_rf M1 := by
  refine ⟨fun p k => ?_, hp_Re h.2.1 g, by rw [e]; exact ax_G_free h.2.2 h1 h2 h3 h4 h5⟩
  rw [e]
  by_cases hk : p = q ∧ k = j
  · rw [hk.1, hk.2, hp_up_eq]
    exact hz
  · rw [hp_up_ne hk]
    exact h.1 p k
theorem ko_ok (ha : a.1 = rx_cells) (hM : ax_J0 ax_sp ax_rf M) (h1 : x1.toInt = (D : Int)) (hD : D < 8) (h2 : 0 ≤ x2.toInt ∧ x2.toInt ≤ 11) (hz : x3 = 0 ∨ x3 = 1) (hz2 : 0 ≤ x3.toInt ∧ x3.toInt ≤ 1) : hp X d 98 0 [some (.ref 229), some (.int x1), some (.int x2), some (.int x3)] [] a M (fun o => ∃ M1 : rx_M, o = (none, a, M1) ∧ ax_J0 ax_sp ax_rf M1 ∧ (M1.1 230 D).toInt = 1 ∧ M1.1 231 D = x2 ∧ ∀ q j, ¬ (j = D ∧ (q = 230 ∨ q = 231 ∨ q = 232)) → M1.1 q j = M.1 q j) := by
  have z1 : (1 : Int32).toInt = 1 := rfl
  refine hp_al (pc' := 1) (j := 0) (Or.inr ⟨0, rfl, rfl, rfl⟩) rfl ?_
  refine hp_gr (pc' := 4) ha (hM.2.1 229 0 230 rfl) rfl rfl rfl rfl ?_
  refine hp_il (pc' := 5) (j := 1) (Or.inr ⟨1, rfl, rfl, rfl⟩) rfl ?_
  refine hp_ic (pc' := 6) (x := 1) rfl rfl rfl ?_
  refine hp_st (pc' := 7) (j := D) ha h1 (by omega) rfl rfl rfl (fun M1 eM1 gM1 => ?_)
  have hM1 : ax_J0 ax_sp ax_rf M1 := kq_w (q := 230) (j := D) (z := (1 : Int32)) 230 hM (by omega) (by omega) (show (0 : Int) ≤ ((1 : Int32) : Int32).toInt ∧ ((1 : Int32) : Int32).toInt ≤ 2 by omega) (by decide) (by omega) (by omega) eM1 gM1
  refine hp_al (pc' := 8) (j := 0) (Or.inr ⟨0, rfl, rfl, rfl⟩) rfl ?_
  refine hp_gr (pc' := 11) ha (hM1.2.1 229 1 231 rfl) rfl rfl rfl rfl ?_
  refine hp_il (pc' := 12) (j := 1) (Or.inr ⟨1, rfl, rfl, rfl⟩) rfl ?_
  refine hp_il (pc' := 13) (j := 2) (Or.inr ⟨2, rfl, rfl, rfl⟩) rfl ?_
  refine hp_st (pc' := 14) (j := D) ha h1 (by omega) rfl rfl rfl (fun M2 eM2 gM2 => ?_)
  have hM2 : ax_J0 ax_sp ax_rf M2 := kq_w (q := 231) (j := D) (z := x2) 231 hM1 (by omega) (by omega) (show (0 : Int) ≤ (x2 : Int32).toInt ∧ (x2 : Int32).toInt ≤ 11 by omega) (by decide) (by omega) (by omega) eM2 gM2
  refine hp_al (pc' := 15) (j := 0) (Or.inr ⟨0, rfl, rfl, rfl⟩) rfl ?_
  refine hp_gr (pc' := 18) ha (hM2.2.1 229 2 232 rfl) rfl rfl rfl rfl ?_
  refine hp_il (pc' := 19) (j := 1) (Or.inr ⟨1, rfl, rfl, rfl⟩) rfl ?_
  refine hp_il (pc' := 20) (j := 3) (Or.inr ⟨3, rfl, rfl, rfl⟩) rfl ?_
  refine hp_stb (pc' := 21) (j := D) ha hz h1 (by omega) rfl rfl rfl (fun M3 eM3 gM3 => ?_)
  have hM3 : ax_J0 ax_sp ax_rf M3 := kq_w (q := 232) (j := D) (z := x3) 232 hM2 (by omega) (by omega) (show (0 : Int) ≤ (x3 : Int32).toInt ∧ (x3 : Int32).toInt ≤ 1 by omega) (by decide) (by omega) (by omega) eM3 gM3
  refine hp_rv rfl rfl ?_
  exact ⟨_, rfl, hM3, by rw [eM3, hp_up_ne (by omega), eM2, hp_up_ne (by omega), eM1, hp_up_eq]; exact z1, by rw [eM3, hp_up_ne (by omega), eM2, hp_up_eq], fun q j h1 => by rw [eM3, hp_up_ne (by omega), eM2, hp_up_ne (by omega), eM1, hp_up_ne (by omega)]⟩
theorem xk_ok (ha : a.1 = rx_cells) (hM : ax_J0 ax_sp ax_rf M) : hp X (d + 2) 137 0 [some (.ref 0), some (.int x1), some (.int x2), some (.int x3)] [] a M (kp_Q 230 231 232 (M.1 1 4).toInt x1 x2 x3 a M) := by
  have b0 : 0 ≤ (M.1 1 4).toInt ∧ (M.1 1 4).toInt ≤ 12 := hM.1 1 4
  have zz0 : (0 : Int32).toInt = 0 := rfl
  have zz1 : (1 : Int32).toInt = 1 := rfl
  have zz2 : (2 : Int32).toInt = 2 := rfl
  have zz8 : (8 : Int32).toInt = 8 := rfl
  have zm1 : ((-1) : Int32).toInt = -1 := rfl
  refine hp_il (pc' := 1) (j := 1) (Or.inr ⟨1, rfl, rfl, rfl⟩) rfl ?_
  refine hp_bi (pc' := 3) (x := 8) rfl rfl rfl ?_
  refine hp_cs (Q := fun o => ∃ r : Int32, o = (some (.int r), a, M) ∧ (r.toInt = 0 ∨ r.toInt = 1) ∧ (r.toInt ≠ 0 ↔ (0 ≤ (x1 : Int32).toInt ∧ (x1 : Int32).toInt < ((8 : Int32) : Int32).toInt))) (pc' := 6) (e := (d + 1)) (vs := [.int x1, .int (8 : Int32)]) (r := []) rfl rfl (Or.inl rfl) rfl rfl rfl rfl rfl bl_ok (fun o ho => ?_)
  obtain ⟨r1, eo, qr1⟩ := ho
  subst eo
  refine ⟨_, rfl, ?_⟩
  show hp X ((d + 1) + 1) 137 6 [some (.ref 0), some (.int x1), some (.int x2), some (.int x3)] [.int r1] a M _
  refine hp_zeq (t := 33) (pc' := 9) rfl rfl rfl (fun c2 => ?_) (fun c2 => ?_)
  · refine hp_ic (pc' := 34) (x := (-1)) rfl rfl rfl ?_
    refine hp_ri rfl rfl ?_
    exact ⟨_, _, _, rfl, ha, Nat.le_refl _, Nat.le_refl _, hM, Or.inl ⟨fun w => by
      unfold kp_ok at w
      omega, rfl, rfl⟩⟩
  · refine hp_il (pc' := 10) (j := 2) (Or.inr ⟨2, rfl, rfl, rfl⟩) rfl ?_
    refine hp_ic (pc' := 11) (x := 2) rfl rfl rfl ?_
    refine hp_cs (Q := fun o => ∃ r : Int32, o = (some (.int r), a, M) ∧ (r.toInt = 0 ∨ r.toInt = 1) ∧ (r.toInt ≠ 0 ↔ (0 ≤ (x2 : Int32).toInt ∧ (x2 : Int32).toInt < ((2 : Int32) : Int32).toInt))) (pc' := 14) (e := (d + 1)) (vs := [.int x2, .int (2 : Int32)]) (r := []) rfl rfl (Or.inl rfl) rfl rfl rfl rfl rfl bl_ok (fun o ho => ?_)
    obtain ⟨r3, eo, qr3⟩ := ho
    subst eo
    refine ⟨_, rfl, ?_⟩
    show hp X ((d + 1) + 1) 137 14 [some (.ref 0), some (.int x1), some (.int x2), some (.int x3)] [.int r3] a M _
    refine hp_zeq (t := 33) (pc' := 17) rfl rfl rfl (fun c4 => ?_) (fun c4 => ?_)
    · refine hp_ic (pc' := 34) (x := (-1)) rfl rfl rfl ?_
      refine hp_ri rfl rfl ?_
      exact ⟨_, _, _, rfl, ha, Nat.le_refl _, Nat.le_refl _, hM, Or.inl ⟨fun w => by
        unfold kp_ok at w
        omega, rfl, rfl⟩⟩
    · refine hp_il (pc' := 18) (j := 2) (Or.inr ⟨2, rfl, rfl, rfl⟩) rfl ?_
      refine hp_ic (pc' := 19) (x := 1) rfl rfl rfl ?_
      refine hp_ine (t := 35) (pc' := 22) rfl rfl rfl (fun c5 => ?_) (fun c5 => ?_)
      · obtain ⟨D, hD, hD8⟩ : ∃ D : Nat, x1.toInt = (D : Int) ∧ D < 8 := ⟨x1.toInt.toNat, by omega, by omega⟩
        have eD : x1.toInt.toNat = D := by omega
        refine hp_il (pc' := 36) (j := 2) (Or.inr ⟨2, rfl, rfl, rfl⟩) rfl ?_
        refine hp_zne (t := 52) (pc' := 39) rfl rfl rfl (fun c6 => ?_) (fun c6 => ?_)
        · exfalso
          omega
        · refine hp_al (pc' := 40) (j := 0) (Or.inr ⟨0, rfl, rfl, rfl⟩) rfl ?_
          refine hp_gr (pc' := 43) ha (hM.2.1 0 8 229 rfl) rfl rfl rfl rfl ?_
          refine hp_gr (pc' := 46) ha (hM.2.1 229 0 230 rfl) rfl rfl rfl rfl ?_
          refine hp_il (pc' := 47) (j := 1) (Or.inr ⟨1, rfl, rfl, rfl⟩) rfl ?_
          refine hp_ic (pc' := 48) (x := 0) rfl rfl rfl ?_
          refine hp_st (pc' := 49) (j := D) ha hD (by omega) rfl rfl rfl (fun M7 eM7 gM7 => ?_)
          have hM7 : ax_J0 ax_sp ax_rf M7 := kq_w (q := 230) (j := D) (z := (0 : Int32)) 230 hM (by omega) (by omega) (show (0 : Int) ≤ ((0 : Int32) : Int32).toInt ∧ ((0 : Int32) : Int32).toInt ≤ 2 by omega) (by decide) (by omega) (by omega) eM7 gM7
          refine hp_go (t := 69) rfl rfl ?_
          refine hp_ic (pc' := 70) (x := 0) rfl rfl rfl ?_
          refine hp_ri rfl rfl ?_
          exact ⟨_, _, _, rfl, ha, Nat.le_refl _, Nat.le_refl _, hM7, Or.inr ⟨by
            unfold kp_ok
            omega, rfl, by
            rw [eD]
            refine ⟨?_, fun w => by omega, fun q j hq => ?_⟩
            · rw [eM7, hp_up_eq]
              omega
            · rw [eM7, hp_up_ne (by omega)]⟩⟩
      · refine hp_al (pc' := 23) (j := 0) (Or.inr ⟨0, rfl, rfl, rfl⟩) rfl ?_
        refine hp_gr (pc' := 26) ha (hM.2.1 0 0 1 rfl) rfl rfl rfl rfl ?_
        refine hp_il (pc' := 27) (j := 3) (Or.inr ⟨3, rfl, rfl, rfl⟩) rfl ?_
        refine hp_cx (q := 1) (Q := fun o => ∃ r : Int32, o = (some (.int r), a, M) ∧ (r.toInt = 0 ∨ r.toInt = 1) ∧ (r.toInt ≠ 0 ↔ (0 ≤ (x3 : Int32).toInt ∧ (x3 : Int32).toInt < (M.1 1 4).toInt))) (pc' := 30) (e := (d + 1)) (vs := [.int x3]) (r := []) ha rfl rfl rfl rfl rfl rfl rfl rfl (kh_ok (d := d) ha) (fun o ho => ?_)
        obtain ⟨r6, eo, qr6⟩ := ho
        subst eo
        refine ⟨_, rfl, ?_⟩
        show hp X ((d + 1) + 1) 137 30 [some (.ref 0), some (.int x1), some (.int x2), some (.int x3)] [.int r6] a M _
        refine hp_zne (t := 35) (pc' := 33) rfl rfl rfl (fun c7 => ?_) (fun c7 => ?_)
        · obtain ⟨D, hD, hD8⟩ : ∃ D : Nat, x1.toInt = (D : Int) ∧ D < 8 := ⟨x1.toInt.toNat, by omega, by omega⟩
          have eD : x1.toInt.toNat = D := by omega
          obtain ⟨n, h3, hn12⟩ : ∃ n : Nat, x3.toInt = (n : Int) ∧ n < 12 := ⟨x3.toInt.toNat, by omega, by omega⟩
          refine hp_il (pc' := 36) (j := 2) (Or.inr ⟨2, rfl, rfl, rfl⟩) rfl ?_
          refine hp_zne (t := 52) (pc' := 39) rfl rfl rfl (fun c8 => ?_) (fun c8 => ?_)
          · refine hp_al (pc' := 53) (j := 0) (Or.inr ⟨0, rfl, rfl, rfl⟩) rfl ?_
            refine hp_gr (pc' := 56) ha (hM.2.1 0 8 229 rfl) rfl rfl rfl rfl ?_
            refine hp_il (pc' := 57) (j := 1) (Or.inr ⟨1, rfl, rfl, rfl⟩) rfl ?_
            refine hp_il (pc' := 58) (j := 3) (Or.inr ⟨3, rfl, rfl, rfl⟩) rfl ?_
            refine hp_al (pc' := 59) (j := 0) (Or.inr ⟨0, rfl, rfl, rfl⟩) rfl ?_
            refine hp_gr (pc' := 62) ha (hM.2.1 0 0 1 rfl) rfl rfl rfl rfl ?_
            refine hp_il (pc' := 63) (j := 3) (Or.inr ⟨3, rfl, rfl, rfl⟩) rfl ?_
            refine hp_cx (q := 1) (Q := fun o => ∃ r : Int32, o = (some (.int r), a, M) ∧ (r.toInt = 0 ∨ r.toInt = 1)) (pc' := 66) (e := (d + 1)) (vs := [.int x3]) (r := [.int x3, .int x1, .ref 229]) ha rfl rfl rfl rfl rfl rfl rfl rfl (kd_ok ha hM h3 (by omega)) (fun o ho => ?_)
            obtain ⟨r9, eo, qr9⟩ := ho
            subst eo
            refine ⟨_, rfl, ?_⟩
            show hp X ((d + 1) + 1) 137 66 [some (.ref 0), some (.int x1), some (.int x2), some (.int x3)] [.int r9, .int x3, .int x1, .ref 229] a M _
            refine hp_cx (q := 229) (Q := (fun o => ∃ M1 : rx_M, o = (none, a, M1) ∧ ax_J0 ax_sp ax_rf M1 ∧ (M1.1 230 D).toInt = 1 ∧ M1.1 231 D = x3 ∧ ∀ q j, ¬ (j = D ∧ (q = 230 ∨ q = 231 ∨ q = 232)) → M1.1 q j = M.1 q j)) (pc' := 69) (e := d + 1) (vs := [.int x1, .int x3, .int r9]) (r := []) ha rfl rfl rfl rfl rfl rfl rfl rfl (ko_ok ha hM hD hD8 (by omega) (rb_ok qr9) (by omega)) (fun o ho => ?_)
            obtain ⟨M9, eo, j9, f1, f2, f3⟩ := ho
            subst eo
            refine ⟨_, rfl, ?_⟩
            show hp X (d + 2) 137 69 [some (.ref 0), some (.int x1), some (.int x2), some (.int x3)] [] a M9 _
            refine hp_ic (pc' := 70) (x := 0) rfl rfl rfl ?_
            refine hp_ri rfl rfl ?_
            exact ⟨_, _, _, rfl, ha, Nat.le_refl _, Nat.le_refl _, j9, Or.inr ⟨by
              unfold kp_ok
              omega, rfl, by
              rw [eD]
              exact ⟨by omega, fun _ => f2, f3⟩⟩⟩
          · exfalso
            omega
        · refine hp_ic (pc' := 34) (x := (-1)) rfl rfl rfl ?_
          refine hp_ri rfl rfl ?_
          exact ⟨_, _, _, rfl, ha, Nat.le_refl _, Nat.le_refl _, hM, Or.inl ⟨fun w => by
            unfold kp_ok at w
            omega, rfl, rfl⟩⟩
theorem ki_ok (ha : a.1 = rx_cells) (hJ : ax_J0 ax_sp ax_rf M) : hp X (d + 1) 156 0 [some (.ref 244), some (.int x1)] [] a M (fun o => ∃ r : Int32, o = (some (.int r), a, M) ∧ (r.toInt = 0 ∨ r.toInt = 1) ∧ (r.toInt ≠ 0 ↔ (0 ≤ (x1 : Int32).toInt ∧ (x1 : Int32).toInt < (M.1 244 1).toInt))) := by
  have one1 : (1 : Int32).toInt = 1 := rfl
  have zz0 : (0 : Int32).toInt = 0 := rfl
  have b0 : 0 ≤ (M.1 244 1).toInt ∧ (M.1 244 1).toInt ≤ 12 := hJ.1 244 1
  refine hp_al (pc' := 1) (j := 0) (Or.inr ⟨0, rfl, rfl, rfl⟩) rfl ?_
  refine hp_il (pc' := 2) (j := 1) (Or.inr ⟨1, rfl, rfl, rfl⟩) rfl ?_
  refine hp_ic (pc' := 3) (x := 0) rfl rfl rfl ?_
  refine hp_al (pc' := 4) (j := 0) (Or.inr ⟨0, rfl, rfl, rfl⟩) rfl ?_
  refine hp_gi (pc' := 7) (j := 1) (t := 0) ha rfl rfl rfl (by decide) rfl ?_
  refine hp_ic (pc' := 8) (x := 1) rfl rfl rfl ?_
  refine hp_sub (pc' := 9) rfl rfl (fun z1 hz1 => ?_)
  have yz1 : z1.toInt = (M.1 244 1).toInt - 1 := by rw [hz1, ax_sub (by rw [one1]; omega) (by rw [one1]; omega), one1]
  refine hp_cv (Q := fun o => ∃ r : Int32, o = (some (.int r), a, M) ∧ (r.toInt = 0 ∨ r.toInt = 1) ∧ (r.toInt ≠ 0 ↔ (((0 : Int32) : Int32).toInt ≤ (x1 : Int32).toInt ∧ (x1 : Int32).toInt ≤ (z1 : Int32).toInt))) (pc' := 12) (e := d) (vs := [.int x1, .int (0 : Int32), .int z1]) (r := []) ha rfl rfl rfl rfl rfl rfl rfl rfl in_ok (fun o ho => ?_)
  obtain ⟨r2, eo, qr2⟩ := ho
  subst eo
  refine ⟨_, rfl, ?_⟩
  show hp X (d + 1) 156 12 [some (.ref 244), some (.int x1)] [.int r2] a M _
  refine hp_rb rfl rfl (rb_ok qr2.1) ?_
  exact ⟨_, rfl, qr2.1, by omega⟩
theorem kj_ok {M : rx_M} (hd : 2 ≤ d) (hJ : ax_J0 ax_sp ax_rf M) (ha : a.1 = rx_cells) (h1 : 0 ≤ x1.toInt ∧ x1.toInt ≤ 11) : hp X d 162 0 [some (.ref 244), some (.int x1)] [] a M (hy_Q ax_w_75 (some (some (0, 1))) a M) := by
  have hm : 0 ≤ (M.1 244 1).toInt ∧ (M.1 244 1).toInt ≤ 12 := hJ.1 244 1
  have hn : 0 ≤ (M.1 244 7).toInt ∧ (M.1 244 7).toInt ≤ 150 := hJ.1 244 7
  let v : ax_V := fun i => match i with
    | 0 => (x1, 0)
    | 1 => (M.1 244 1, 0)
    | _ => (M.1 244 7, 0)
  refine hy_go (s := ax_s_75) (E := (3, [(0, 150), (0, 12), (0, 11)], [], [], [])) (K := [(244, .int 7, .retAddr 2), (244, .int 1, .retAddr 1)]) (ls := [some (.ref 244), some (.retAddr 0)]) (v := v) ax_y_75 ?_ (ax_wfb_ok (by decide)) ⟨fun i => ?_, fun q hq => ?_, fun q hq => ?_, fun q hq => ?_⟩ (ax_kwb_ok (by decide)) hJ (fun q hq => ?_) ha
  · show (Nat.ble 2 d && ax_ar ax_sp ax_c_75_0 none none (3, [(0, 150), (0, 12), (0, 11)], [], [], []) [(244, .int 7, .retAddr 2), (244, .int 1, .retAddr 1)] [some (.ref 244), some (.retAddr 0)]) = true
    rw [Bool.and_eq_true]
    exact ⟨Nat.ble_eq.mpr hd, by decide +kernel⟩
  · match i with
    | 0 => show (0 : Int) ≤ x1.toInt ∧ x1.toInt ≤ 11; omega
    | 1 => show (0 : Int) ≤ (M.1 244 1).toInt ∧ (M.1 244 1).toInt ≤ 12; omega
    | 2 => show (0 : Int) ≤ (M.1 244 7).toInt ∧ (M.1 244 7).toInt ≤ 150; omega
    | n + 3 =>
      rw [ax_b_ge (by show ¬ n + 3 < 3; omega)]
      exact ax_full_ok _
  · cases hq
  · cases hq
  · cases hq
  · have hq : q ∈ [(244, Value.int 7, Value.retAddr 2), (244, .int 1, .retAddr 1)] := hq
    simp only [List.mem_cons, List.not_mem_nil, or_false] at hq
    rcases hq with r | r
    · subst r
      exact hy_k rfl rfl rfl
    · subst r
      exact hy_k rfl rfl rfl
theorem mk_ok (ha : a.1 = rx_cells) (hM : ax_J0 ax_sp ax_rf M) : hp X (d + 3) 237 0 [some (.ref 244), some (.int x1), some (.int x2), some (.int x3)] [] a M (kp_Q 283 284 288 (M.1 244 1).toInt x1 x2 x3 a M) := by
  have b0 : 0 ≤ (M.1 244 1).toInt ∧ (M.1 244 1).toInt ≤ 12 := hM.1 244 1
  have zz0 : (0 : Int32).toInt = 0 := rfl
  have zz1 : (1 : Int32).toInt = 1 := rfl
  have zm1 : ((-1) : Int32).toInt = -1 := rfl
  refine hp_al (pc' := 1) (j := 0) (Or.inr ⟨0, rfl, rfl, rfl⟩) rfl ?_
  refine hp_il (pc' := 2) (j := 1) (Or.inr ⟨1, rfl, rfl, rfl⟩) rfl ?_
  refine hp_cv (Q := fun o => ∃ r : Int32, o = (some (.int r), a, M) ∧ (r.toInt = 0 ∨ r.toInt = 1) ∧ (r.toInt ≠ 0 ↔ (0 ≤ (x1 : Int32).toInt ∧ (x1 : Int32).toInt ≤ 7))) (pc' := 5) (e := (d + 2)) (vs := [.int x1]) (r := []) ha rfl rfl rfl rfl rfl rfl rfl rfl (sh_ok ha) (fun o ho => ?_)
  obtain ⟨r1, eo, qr1⟩ := ho
  subst eo
  refine ⟨_, rfl, ?_⟩
  show hp X ((d + 2) + 1) 237 5 [some (.ref 244), some (.int x1), some (.int x2), some (.int x3)] [.int r1] a M _
  refine hp_zeq (t := 31) (pc' := 8) rfl rfl rfl (fun c2 => ?_) (fun c2 => ?_)
  · refine hp_ic (pc' := 32) (x := (-1)) rfl rfl rfl ?_
    refine hp_ri rfl rfl ?_
    exact ⟨_, _, _, rfl, ha, Nat.le_refl _, Nat.le_refl _, hM, Or.inl ⟨fun w => by
      unfold kp_ok at w
      omega, rfl, rfl⟩⟩
  · refine hp_al (pc' := 9) (j := 0) (Or.inr ⟨0, rfl, rfl, rfl⟩) rfl ?_
    refine hp_il (pc' := 10) (j := 2) (Or.inr ⟨2, rfl, rfl, rfl⟩) rfl ?_
    refine hp_ic (pc' := 11) (x := 0) rfl rfl rfl ?_
    refine hp_ic (pc' := 12) (x := 1) rfl rfl rfl ?_
    refine hp_cv (Q := fun o => ∃ r : Int32, o = (some (.int r), a, M) ∧ (r.toInt = 0 ∨ r.toInt = 1) ∧ (r.toInt ≠ 0 ↔ (((0 : Int32) : Int32).toInt ≤ (x2 : Int32).toInt ∧ (x2 : Int32).toInt ≤ ((1 : Int32) : Int32).toInt))) (pc' := 15) (e := (d + 2)) (vs := [.int x2, .int (0 : Int32), .int (1 : Int32)]) (r := []) ha rfl rfl rfl rfl rfl rfl rfl rfl in_ok (fun o ho => ?_)
    obtain ⟨r3, eo, qr3⟩ := ho
    subst eo
    refine ⟨_, rfl, ?_⟩
    show hp X ((d + 2) + 1) 237 15 [some (.ref 244), some (.int x1), some (.int x2), some (.int x3)] [.int r3] a M _
    refine hp_zeq (t := 31) (pc' := 18) rfl rfl rfl (fun c4 => ?_) (fun c4 => ?_)
    · refine hp_ic (pc' := 32) (x := (-1)) rfl rfl rfl ?_
      refine hp_ri rfl rfl ?_
      exact ⟨_, _, _, rfl, ha, Nat.le_refl _, Nat.le_refl _, hM, Or.inl ⟨fun w => by
        unfold kp_ok at w
        omega, rfl, rfl⟩⟩
    · refine hp_il (pc' := 19) (j := 2) (Or.inr ⟨2, rfl, rfl, rfl⟩) rfl ?_
      refine hp_ic (pc' := 20) (x := 1) rfl rfl rfl ?_
      refine hp_ine (t := 33) (pc' := 23) rfl rfl rfl (fun c5 => ?_) (fun c5 => ?_)
      · obtain ⟨D, hD, hD8⟩ : ∃ D : Nat, x1.toInt = (D : Int) ∧ D < 8 := ⟨x1.toInt.toNat, by omega, by omega⟩
        have eD : x1.toInt.toNat = D := by omega
        refine hp_al (pc' := 34) (j := 0) (Or.inr ⟨0, rfl, rfl, rfl⟩) rfl ?_
        refine hp_gr (pc' := 37) ha (hM.2.1 244 50 283 rfl) rfl rfl rfl rfl ?_
        refine hp_il (pc' := 38) (j := 1) (Or.inr ⟨1, rfl, rfl, rfl⟩) rfl ?_
        refine hp_il (pc' := 39) (j := 2) (Or.inr ⟨2, rfl, rfl, rfl⟩) rfl ?_
        refine hp_st (pc' := 40) (j := D) ha hD (by omega) rfl rfl rfl (fun M6 eM6 gM6 => ?_)
        have hM6 : True ∧ hp_R M6 ∧ True := ⟨trivial, hp_Re hM.2.1 gM6, trivial⟩
        refine hp_al (pc' := 41) (j := 0) (Or.inr ⟨0, rfl, rfl, rfl⟩) rfl ?_
        refine hp_gr (pc' := 44) ha (hM6.2.1 244 51 284 rfl) rfl rfl rfl rfl ?_
        refine hp_il (pc' := 45) (j := 1) (Or.inr ⟨1, rfl, rfl, rfl⟩) rfl ?_
        refine hp_il (pc' := 46) (j := 3) (Or.inr ⟨3, rfl, rfl, rfl⟩) rfl ?_
        refine hp_st (pc' := 47) (j := D) ha hD (by omega) rfl rfl rfl (fun M7 eM7 gM7 => ?_)
        have hM7 : ax_J0 ax_sp ax_rf M7 := kp_J hM ⟨by omega, by omega⟩ (fun w => ⟨by omega, by omega⟩) eM6 gM6 eM7 gM7
        refine hp_al (pc' := 48) (j := 0) (Or.inr ⟨0, rfl, rfl, rfl⟩) rfl ?_
        refine hp_gr (pc' := 51) ha (hM7.2.1 244 55 288 rfl) rfl rfl rfl rfl ?_
        refine hp_il (pc' := 52) (j := 1) (Or.inr ⟨1, rfl, rfl, rfl⟩) rfl ?_
        refine hp_il (pc' := 53) (j := 2) (Or.inr ⟨2, rfl, rfl, rfl⟩) rfl ?_
        refine hp_ic (pc' := 54) (x := 1) rfl rfl rfl ?_
        refine hp_ine (t := 69) (pc' := 57) rfl rfl rfl (fun c8 => ?_) (fun c8 => ?_)
        · refine hp_ic (pc' := 70) (x := 0) rfl rfl rfl ?_
          refine hp_stb (pc' := 71) (j := D) ha (by decide) hD (by omega) rfl rfl rfl (fun M9 eM9 gM9 => ?_)
          have hM9 : ax_J0 ax_sp ax_rf M9 := kq_w (q := 288) (j := D) (z := (0 : Int32)) 288 hM7 (by omega) (by omega) (show (0 : Int) ≤ ((0 : Int32) : Int32).toInt ∧ ((0 : Int32) : Int32).toInt ≤ 1 by omega) (by decide) (by omega) (by omega) eM9 gM9
          refine hp_ic (pc' := 72) (x := 0) rfl rfl rfl ?_
          refine hp_ri rfl rfl ?_
          exact ⟨_, _, _, rfl, ha, Nat.le_refl _, Nat.le_refl _, hM9, Or.inr ⟨by
            unfold kp_ok
            omega, rfl, by
            rw [eD]
            exact ⟨by rw [eM9, hp_up_ne (by omega), eM7, hp_up_ne (by omega), eM6, hp_up_eq], fun _ => by rw [eM9, hp_up_ne (by omega), eM7, hp_up_eq], fun q j hq => by rw [eM9, hp_up_ne (by omega), eM7, hp_up_ne (by omega), eM6, hp_up_ne (by omega)]⟩⟩⟩
        · exfalso
          omega
      · refine hp_al (pc' := 24) (j := 0) (Or.inr ⟨0, rfl, rfl, rfl⟩) rfl ?_
        refine hp_il (pc' := 25) (j := 3) (Or.inr ⟨3, rfl, rfl, rfl⟩) rfl ?_
        refine hp_cv (Q := fun o => ∃ r : Int32, o = (some (.int r), a, M) ∧ (r.toInt = 0 ∨ r.toInt = 1) ∧ (r.toInt ≠ 0 ↔ (0 ≤ (x3 : Int32).toInt ∧ (x3 : Int32).toInt < (M.1 244 1).toInt))) (pc' := 28) (e := (d + 2)) (vs := [.int x3]) (r := []) ha rfl rfl rfl rfl rfl rfl rfl rfl (ki_ok (d := d + 1) ha hM) (fun o ho => ?_)
        obtain ⟨r6, eo, qr6⟩ := ho
        subst eo
        refine ⟨_, rfl, ?_⟩
        show hp X ((d + 2) + 1) 237 28 [some (.ref 244), some (.int x1), some (.int x2), some (.int x3)] [.int r6] a M _
        refine hp_zne (t := 33) (pc' := 31) rfl rfl rfl (fun c7 => ?_) (fun c7 => ?_)
        · obtain ⟨D, hD, hD8⟩ : ∃ D : Nat, x1.toInt = (D : Int) ∧ D < 8 := ⟨x1.toInt.toNat, by omega, by omega⟩
          have eD : x1.toInt.toNat = D := by omega
          refine hp_al (pc' := 34) (j := 0) (Or.inr ⟨0, rfl, rfl, rfl⟩) rfl ?_
          refine hp_gr (pc' := 37) ha (hM.2.1 244 50 283 rfl) rfl rfl rfl rfl ?_
          refine hp_il (pc' := 38) (j := 1) (Or.inr ⟨1, rfl, rfl, rfl⟩) rfl ?_
          refine hp_il (pc' := 39) (j := 2) (Or.inr ⟨2, rfl, rfl, rfl⟩) rfl ?_
          refine hp_st (pc' := 40) (j := D) ha hD (by omega) rfl rfl rfl (fun M8 eM8 gM8 => ?_)
          have hM8 : True ∧ hp_R M8 ∧ True := ⟨trivial, hp_Re hM.2.1 gM8, trivial⟩
          refine hp_al (pc' := 41) (j := 0) (Or.inr ⟨0, rfl, rfl, rfl⟩) rfl ?_
          refine hp_gr (pc' := 44) ha (hM8.2.1 244 51 284 rfl) rfl rfl rfl rfl ?_
          refine hp_il (pc' := 45) (j := 1) (Or.inr ⟨1, rfl, rfl, rfl⟩) rfl ?_
          refine hp_il (pc' := 46) (j := 3) (Or.inr ⟨3, rfl, rfl, rfl⟩) rfl ?_
          refine hp_st (pc' := 47) (j := D) ha hD (by omega) rfl rfl rfl (fun M9 eM9 gM9 => ?_)
          have hM9 : ax_J0 ax_sp ax_rf M9 := kp_J hM ⟨by omega, by omega⟩ (fun w => ⟨by omega, by omega⟩) eM8 gM8 eM9 gM9
          refine hp_al (pc' := 48) (j := 0) (Or.inr ⟨0, rfl, rfl, rfl⟩) rfl ?_
          refine hp_gr (pc' := 51) ha (hM9.2.1 244 55 288 rfl) rfl rfl rfl rfl ?_
          refine hp_il (pc' := 52) (j := 1) (Or.inr ⟨1, rfl, rfl, rfl⟩) rfl ?_
          refine hp_il (pc' := 53) (j := 2) (Or.inr ⟨2, rfl, rfl, rfl⟩) rfl ?_
          refine hp_ic (pc' := 54) (x := 1) rfl rfl rfl ?_
          refine hp_ine (t := 69) (pc' := 57) rfl rfl rfl (fun c10 => ?_) (fun c10 => ?_)
          · refine hp_ic (pc' := 70) (x := 0) rfl rfl rfl ?_
            refine hp_stb (pc' := 71) (j := D) ha (by decide) hD (by omega) rfl rfl rfl (fun M11 eM11 gM11 => ?_)
            have hM11 : ax_J0 ax_sp ax_rf M11 := kq_w (q := 288) (j := D) (z := (0 : Int32)) 288 hM9 (by omega) (by omega) (show (0 : Int) ≤ ((0 : Int32) : Int32).toInt ∧ ((0 : Int32) : Int32).toInt ≤ 1 by omega) (by decide) (by omega) (by omega) eM11 gM11
            refine hp_ic (pc' := 72) (x := 0) rfl rfl rfl ?_
            refine hp_ri rfl rfl ?_
            exact ⟨_, _, _, rfl, ha, Nat.le_refl _, Nat.le_refl _, hM11, Or.inr ⟨by
              unfold kp_ok
              omega, rfl, by
              rw [eD]
              exact ⟨by rw [eM11, hp_up_ne (by omega), eM9, hp_up_ne (by omega), eM8, hp_up_eq], fun _ => by rw [eM11, hp_up_ne (by omega), eM9, hp_up_eq], fun q j hq => by rw [eM11, hp_up_ne (by omega), eM9, hp_up_ne (by omega), eM8, hp_up_ne (by omega)]⟩⟩⟩
          · refine hp_al (pc' := 58) (j := 0) (Or.inr ⟨0, rfl, rfl, rfl⟩) rfl ?_
            refine hp_il (pc' := 59) (j := 3) (Or.inr ⟨3, rfl, rfl, rfl⟩) rfl ?_
            refine hp_cv (Q := hy_Q ax_w_75 (some (some (0, 1))) a M9) (pc' := 62) (e := d + 2) (vs := [.int x3]) (r := [.int x1, .ref 288]) ha rfl rfl rfl rfl rfl rfl rfl rfl (kj_ok (by omega) hM9 ha ⟨by omega, by omega⟩) (fun o ho => ?_)
            obtain ⟨o1, aq9, Mq⟩ := o
            obtain ⟨k1, k2, k3, k4, k5, k6⟩ := ho
            obtain ⟨rq9, k1, k7, -⟩ := k1
            subst k1
            have ha9 : aq9.1 = rx_cells := k4
            dsimp only at k2 k3 k4 k5 k6 k7
            refine ⟨_, rfl, ?_⟩
            have eq9 : Mq.1 = M9.1 := funext fun q => funext fun j => (k3 q j (by rintro (⟨z, hz, _⟩ | ⟨z, hz, _⟩) <;> cases hz)).1
            show hp X (d + 3) 237 62 [some (.ref 244), some (.int x1), some (.int x2), some (.int x3)] [.int rq9, .int x1, .ref 288] aq9 Mq _
            have jq : ax_J0 ax_sp ax_rf Mq := k2
            refine hp_zeq (t := 69) (pc' := 65) rfl rfl rfl (fun c12 => ?_) (fun c12 => ?_)
            · refine hp_ic (pc' := 70) (x := 0) rfl rfl rfl ?_
              refine hp_stb (pc' := 71) (j := D) ha9 (by decide) hD (by omega) rfl rfl rfl (fun M13 eM13 gM13 => ?_)
              have hM13 : ax_J0 ax_sp ax_rf M13 := kq_w (q := 288) (j := D) (z := (0 : Int32)) 288 jq (by omega) (by omega) (show (0 : Int) ≤ ((0 : Int32) : Int32).toInt ∧ ((0 : Int32) : Int32).toInt ≤ 1 by omega) (by decide) (by omega) (by omega) eM13 gM13
              refine hp_ic (pc' := 72) (x := 0) rfl rfl rfl ?_
              refine hp_ri rfl rfl ?_
              exact ⟨_, _, _, rfl, ha9, k5, k6, hM13, Or.inr ⟨by
                unfold kp_ok
                omega, rfl, by
                rw [eD]
                exact ⟨by rw [eM13, hp_up_ne (by omega), eq9, eM9, hp_up_ne (by omega), eM8, hp_up_eq], fun _ => by rw [eM13, hp_up_ne (by omega), eq9, eM9, hp_up_eq], fun q j hq => by rw [eM13, hp_up_ne (by omega), eq9, eM9, hp_up_ne (by omega), eM8, hp_up_ne (by omega)]⟩⟩⟩
            · refine hp_ic (pc' := 66) (x := 1) rfl rfl rfl ?_
              refine hp_go (t := 70) rfl rfl ?_
              refine hp_stb (pc' := 71) (j := D) ha9 (by decide) hD (by omega) rfl rfl rfl (fun M14 eM14 gM14 => ?_)
              have hM14 : ax_J0 ax_sp ax_rf M14 := kq_w (q := 288) (j := D) (z := (1 : Int32)) 288 jq (by omega) (by omega) (show (0 : Int) ≤ ((1 : Int32) : Int32).toInt ∧ ((1 : Int32) : Int32).toInt ≤ 1 by omega) (by decide) (by omega) (by omega) eM14 gM14
              refine hp_ic (pc' := 72) (x := 0) rfl rfl rfl ?_
              refine hp_ri rfl rfl ?_
              exact ⟨_, _, _, rfl, ha9, k5, k6, hM14, Or.inr ⟨by
                unfold kp_ok
                omega, rfl, by
                rw [eD]
                exact ⟨by rw [eM14, hp_up_ne (by omega), eq9, eM9, hp_up_ne (by omega), eM8, hp_up_eq], fun _ => by rw [eM14, hp_up_ne (by omega), eq9, eM9, hp_up_eq], fun q j hq => by rw [eM14, hp_up_ne (by omega), eq9, eM9, hp_up_ne (by omega), eM8, hp_up_ne (by omega)]⟩⟩⟩
        · refine hp_ic (pc' := 32) (x := (-1)) rfl rfl rfl ?_
          refine hp_ri rfl rfl ?_
          exact ⟨_, _, _, rfl, ha, Nat.le_refl _, Nat.le_refl _, hM, Or.inl ⟨fun w => by
            unfold kp_ok at w
            omega, rfl, rfl⟩⟩
end KP
