/-! put, of both sides, by hand: all that it does -/
/-- the lowest bits, as the sort asks -/
noncomputable def pt_v (s x : Int32) : Int32 := if s.toInt = 0 then x.toInt8.toInt32 else if s.toInt = 1 then x.toInt16.toInt32 else x
/-- what put answers -/
noncomputable def pt_a (x1 x2 h z : Int) : Int := if x1 < 0 ∨ 7 < x1 then -1 else if h = 0 then -11 else if h ≠ 2 then -12 else if 0 ≤ x2 ∧ x2 < z then 0 else -13
noncomputable def pt_ok (x1 x2 h z : Int) : Prop := (0 ≤ x1 ∧ x1 ≤ 7) ∧ h = 2 ∧ 0 ≤ x2 ∧ x2 < z
/-- one slot is written -/
noncomputable def pt_F (q j : Nat) (x : Int32) (M M1 : rx_M) : Prop := M1.1 q j = x ∧ ∀ p k, ¬ (p = q ∧ k = j) → M1.1 p k = M.1 p k
noncomputable def pt_Q (h s z : Nat) (R : Nat → Nat → Int32 → rx_M → rx_M → Prop) (x1 x2 x3 : Int32) (a : rx_K) (M : rx_M) (o : rx_O) : Prop := ∃ (r : Int32) (M1 : rx_M), o = (some (.int r), a, M1) ∧ M1.2 = M.2 ∧ r.toInt = pt_a x1.toInt x2.toInt (M.1 h x1.toInt.toNat).toInt (M.1 z x1.toInt.toNat).toInt ∧ ((¬ pt_ok x1.toInt x2.toInt (M.1 h x1.toInt.toNat).toInt (M.1 z x1.toInt.toNat).toInt ∧ M1.1 = M.1) ∨ (pt_ok x1.toInt x2.toInt (M.1 h x1.toInt.toNat).toInt (M.1 z x1.toInt.toNat).toInt ∧ R x1.toInt.toNat x2.toInt.toNat (pt_v (M.1 s x1.toInt.toNat) x3) M M1))
theorem pt_aw {x1 x2 h z : Int} (w : wt_r x1 h 2 ≠ 0) : pt_a x1 x2 h z = wt_r x1 h 2 := by
  unfold pt_a wt_r
  unfold wt_r at w
  by_cases h1 : x1 < 0 ∨ 7 < x1
  · rw [if_pos h1, if_pos h1]
  · rw [if_neg h1] at w ⊢
    rw [if_neg h1]
    by_cases h2 : h = 0
    · rw [if_pos h2, if_pos h2]
    · rw [if_neg h2] at w ⊢
      rw [if_neg h2]
      by_cases h3 : h = 2
      · rw [if_pos h3] at w
        exact absurd rfl w
      · rw [if_pos h3, if_neg h3]
theorem pt_3 {x : Int32} (h : 0 ≤ x.toInt ∧ x.toInt ≤ 2) : x = 0 ∨ x = 1 ∨ x = 2 := by
  have h5 : x.toInt = (0 : Int32).toInt ∨ x.toInt = (1 : Int32).toInt ∨ x.toInt = (2 : Int32).toInt := by
    have z0 : (0 : Int32).toInt = 0 := rfl
    have z1 : (1 : Int32).toInt = 1 := rfl
    have z2 : (2 : Int32).toInt = 2 := rfl
    omega
  rcases h5 with h | h | h
  · exact Or.inl (Int32.toInt_inj.mp h)
  · exact Or.inr (Or.inl (Int32.toInt_inj.mp h))
  · exact Or.inr (Or.inr (Int32.toInt_inj.mp h))
section PT
variable {X : Nat × (Nat → Int32)} {d n D I : Nat} {a : rx_K} {M : rx_M} {P : rx_O → Prop} {x1 x2 x3 : Int32}
theorem pc_ok (h : 0 ≤ x1.toInt ∧ x1.toInt ≤ 2) : hp X d 104 0 [some (.int x1), some (.int x2)] [] a M (fun o => o = (some (.int (pt_v x1 x2)), a, M)) := by
  rcases pt_3 h with rfl | rfl | rfl
  · refine hp_il (pc' := 1) (j := 0) (Or.inr ⟨0, rfl, rfl, rfl⟩) rfl ?_
    refine hp_s (pc' := 28) (st' := []) rfl ?_
    refine hp_il (pc' := 29) (j := 1) (Or.inr ⟨1, rfl, rfl, rfl⟩) rfl ?_
    refine hp_s (pc' := 30) (st' := [.int ((x2 : Int32).toInt8.toInt32)]) rfl ?_
    refine hp_ri rfl rfl ?_
    rfl
  · refine hp_il (pc' := 1) (j := 0) (Or.inr ⟨0, rfl, rfl, rfl⟩) rfl ?_
    refine hp_s (pc' := 31) (st' := []) rfl ?_
    refine hp_il (pc' := 32) (j := 1) (Or.inr ⟨1, rfl, rfl, rfl⟩) rfl ?_
    refine hp_s (pc' := 33) (st' := [.int ((x2 : Int32).toInt16.toInt32)]) rfl ?_
    refine hp_ri rfl rfl ?_
    rfl
  · refine hp_il (pc' := 1) (j := 0) (Or.inr ⟨0, rfl, rfl, rfl⟩) rfl ?_
    refine hp_s (pc' := 34) (st' := []) rfl ?_
    refine hp_il (pc' := 35) (j := 1) (Or.inr ⟨1, rfl, rfl, rfl⟩) rfl ?_
    refine hp_ri rfl rfl ?_
    rfl
theorem pn_ok (h : 0 ≤ x1.toInt ∧ x1.toInt ≤ 2) : hp X d 239 0 [some (.ref 244), some (.int x1), some (.int x2)] [] a M (fun o => o = (some (.int (pt_v x1 x2)), a, M)) := by
  have z1 : (1 : Int32).toInt = 1 := rfl
  have z0 : (0 : Int32).toInt = 0 := rfl
  refine hp_il (pc' := 1) (j := 1) (Or.inr ⟨1, rfl, rfl, rfl⟩) rfl ?_
  refine hp_zne (t := 9) (pc' := 4) rfl rfl rfl (fun c1 => ?_) (fun c1 => ?_)
  · refine hp_il (pc' := 10) (j := 1) (Or.inr ⟨1, rfl, rfl, rfl⟩) rfl ?_
    refine hp_ic (pc' := 11) (x := 1) rfl rfl rfl ?_
    refine hp_ine (t := 19) (pc' := 14) rfl rfl rfl (fun c2 => ?_) (fun c2 => ?_)
    · refine hp_il (pc' := 20) (j := 2) (Or.inr ⟨2, rfl, rfl, rfl⟩) rfl ?_
      refine hp_ri rfl rfl ?_
      show (some (Value.int _), a, M) = _
      unfold pt_v
      rw [if_neg (by omega), if_neg (by omega)]
    · refine hp_il (pc' := 15) (j := 2) (Or.inr ⟨2, rfl, rfl, rfl⟩) rfl ?_
      refine hp_s (pc' := 16) (st' := [.int ((x2 : Int32).toInt16.toInt32)]) rfl ?_
      refine hp_go (t := 20) rfl rfl ?_
      refine hp_ri rfl rfl ?_
      show (some (Value.int _), a, M) = _
      unfold pt_v
      rw [if_neg (by omega), if_pos (by omega)]
  · refine hp_il (pc' := 5) (j := 2) (Or.inr ⟨2, rfl, rfl, rfl⟩) rfl ?_
    refine hp_s (pc' := 6) (st' := [.int ((x2 : Int32).toInt8.toInt32)]) rfl ?_
    refine hp_go (t := 20) rfl rfl ?_
    refine hp_ri rfl rfl ?_
    show (some (Value.int _), a, M) = _
    unfold pt_v
    rw [if_pos (by omega)]
theorem rr_ok (ha : a.1 = rx_cells) (hM : ax_J0 ax_sp ax_rf M) : hp X (d + 2) 100 0 [some (.ref 229), some (.int x1), some (.int 3), none] [] a M (fun o => ∃ r : Int32, o = (some (.int r), a, M) ∧ r.toInt = wt_r x1.toInt (M.1 230 x1.toInt.toNat).toInt 2) := by
  have zz0 : (0 : Int32).toInt = 0 := rfl
  have zz2 : (2 : Int32).toInt = 2 := rfl
  have zz3 : (3 : Int32).toInt = 3 := rfl
  refine hp_al (pc' := 1) (j := 0) (Or.inr ⟨0, rfl, rfl, rfl⟩) rfl ?_
  refine hp_il (pc' := 2) (j := 1) (Or.inr ⟨1, rfl, rfl, rfl⟩) rfl ?_
  refine hp_ic (pc' := 3) (x := 2) rfl rfl rfl ?_
  refine hp_cx (q := 229) (Q := fun o => ∃ r : Int32, o = (some (.int r), a, M) ∧ r.toInt = wt_r x1.toInt (M.1 230 x1.toInt.toNat).toInt ((2 : Int32) : Int32).toInt) (pc' := 6) (e := (d + 1)) (vs := [.int x1, .int (2 : Int32)]) (r := []) ha rfl rfl rfl rfl rfl rfl rfl rfl (ro_ok (d := d) ha hM) (fun o ho => ?_)
  obtain ⟨r1, eo, qr1⟩ := ho
  subst eo
  refine ⟨_, rfl, ?_⟩
  show hp X ((d + 1) + 1) 100 6 [some (.ref 229), some (.int x1), some (.int (3 : Int32)), none] [.int r1] a M _
  refine hp_is (pc' := 7) (j := 3) (ls' := [some (.ref 229), some (.int x1), some (.int (3 : Int32)), some (.int r1)]) (Or.inr ⟨3, rfl, rfl, rfl⟩) (by simp) rfl ?_
  refine hp_il (pc' := 8) (j := 3) (Or.inr ⟨3, rfl, rfl, rfl⟩) rfl ?_
  refine hp_zeq (t := 13) (pc' := 11) rfl rfl rfl (fun c2 => ?_) (fun c2 => ?_)
  · refine hp_il (pc' := 14) (j := 2) (Or.inr ⟨2, rfl, rfl, rfl⟩) rfl ?_
    refine hp_ic (pc' := 15) (x := 3) rfl rfl rfl ?_
    refine hp_ieq (t := 28) (pc' := 18) rfl rfl rfl (fun c3 => ?_) (fun c3 => ?_)
    · refine hp_ic (pc' := 29) (x := 0) rfl rfl rfl ?_
      refine hp_go (t := 34) rfl rfl ?_
      refine hp_ri rfl rfl ?_
      exact ⟨_, rfl, by
        have w := qr1
        rw [zz2] at w
        omega⟩
    · exfalso
      omega
  · refine hp_il (pc' := 12) (j := 3) (Or.inr ⟨3, rfl, rfl, rfl⟩) rfl ?_
    refine hp_ri rfl rfl ?_
    exact ⟨_, rfl, qr1⟩
theorem xp_ok (ha : a.1 = rx_cells) (hM : ax_J0 ax_sp ax_rf M) : hp X (d + 3) 139 0 [some (.ref 0), some (.int x1), some (.int x2), some (.int x3), none] [] a M (pt_Q 230 233 234 (fun D I => pt_F (236 + D) I) x1 x2 x3 a M) := by
  have zz0 : (0 : Int32).toInt = 0 := rfl
  have zm13 : ((-13) : Int32).toInt = -13 := rfl
  refine hp_al (pc' := 1) (j := 0) (Or.inr ⟨0, rfl, rfl, rfl⟩) rfl ?_
  refine hp_gr (pc' := 4) ha (hM.2.1 0 8 229 rfl) rfl rfl rfl rfl ?_
  refine hp_il (pc' := 5) (j := 1) (Or.inr ⟨1, rfl, rfl, rfl⟩) rfl ?_
  refine hp_ic (pc' := 6) (x := 3) rfl rfl rfl ?_
  refine hp_cx (q := 229) (Q := fun o => ∃ r : Int32, o = (some (.int r), a, M) ∧ r.toInt = wt_r x1.toInt (M.1 230 x1.toInt.toNat).toInt 2) (pc' := 9) (e := (d + 2)) (vs := [.int x1, .int (3 : Int32)]) (r := []) ha rfl rfl rfl rfl rfl rfl rfl rfl (rr_ok (d := d) ha hM) (fun o ho => ?_)
  obtain ⟨r1, eo, qr1⟩ := ho
  subst eo
  refine ⟨_, rfl, ?_⟩
  show hp X ((d + 2) + 1) 139 9 [some (.ref 0), some (.int x1), some (.int x2), some (.int x3), none] [.int r1] a M _
  refine hp_is (pc' := 11) (j := 4) (ls' := [some (.ref 0), some (.int x1), some (.int x2), some (.int x3), some (.int r1)]) (Or.inl ⟨rfl, rfl⟩) (by simp) rfl ?_
  refine hp_il (pc' := 13) (j := 4) (Or.inl ⟨rfl, rfl⟩) rfl ?_
  refine hp_zeq (t := 19) (pc' := 16) rfl rfl rfl (fun c2 => ?_) (fun c2 => ?_)
  · have w0 : wt_r x1.toInt (M.1 230 x1.toInt.toNat).toInt 2 = 0 := by omega
    have hq1 : 0 ≤ x1.toInt ∧ x1.toInt ≤ 7 ∧ (M.1 230 x1.toInt.toNat).toInt = 2 := by
      unfold wt_r at w0
      repeat' split at w0
      all_goals omega
    obtain ⟨D, hD, hD8⟩ : ∃ D : Nat, x1.toInt = (D : Int) ∧ D < 8 := ⟨x1.toInt.toNat, by omega, by omega⟩
    have eD : x1.toInt.toNat = D := by omega
    have bz : 0 ≤ (M.1 234 D).toInt ∧ (M.1 234 D).toInt ≤ 80 := hM.1 234 D
    refine hp_il (pc' := 20) (j := 2) (Or.inr ⟨2, rfl, rfl, rfl⟩) rfl ?_
    refine hp_al (pc' := 21) (j := 0) (Or.inr ⟨0, rfl, rfl, rfl⟩) rfl ?_
    refine hp_gr (pc' := 24) ha (hM.2.1 0 8 229 rfl) rfl rfl rfl rfl ?_
    refine hp_gr (pc' := 27) ha (hM.2.1 229 4 234 rfl) rfl rfl rfl rfl ?_
    refine hp_il (pc' := 28) (j := 1) (Or.inr ⟨1, rfl, rfl, rfl⟩) rfl ?_
    refine hp_ld (pc' := 29) (j := D) ha hD (by omega) rfl rfl rfl ?_
    refine hp_cs (Q := fun o => ∃ r : Int32, o = (some (.int r), a, M) ∧ (r.toInt = 0 ∨ r.toInt = 1) ∧ (r.toInt ≠ 0 ↔ (0 ≤ (x2 : Int32).toInt ∧ (x2 : Int32).toInt < ((M.1 234 D) : Int32).toInt))) (pc' := 32) (e := (d + 2)) (vs := [.int x2, .int (M.1 234 D)]) (r := []) rfl rfl (Or.inl rfl) rfl rfl rfl rfl rfl bl_ok (fun o ho => ?_)
    obtain ⟨r3, eo, qr3⟩ := ho
    subst eo
    refine ⟨_, rfl, ?_⟩
    show hp X ((d + 2) + 1) 139 32 [some (.ref 0), some (.int x1), some (.int x2), some (.int x3), some (.int r1)] [.int r3] a M _
    refine hp_zne (t := 38) (pc' := 35) rfl rfl rfl (fun c4 => ?_) (fun c4 => ?_)
    · have hq2 := qr3.2.mp (by assumption)
      obtain ⟨I, hI, hI8⟩ : ∃ I : Nat, x2.toInt = (I : Int) ∧ I < 80 := ⟨x2.toInt.toNat, by omega, by omega⟩
      have eI : x2.toInt.toNat = I := by omega
      refine hp_al (pc' := 39) (j := 0) (Or.inr ⟨0, rfl, rfl, rfl⟩) rfl ?_
      refine hp_gr (pc' := 42) ha (hM.2.1 0 8 229 rfl) rfl rfl rfl rfl ?_
      refine hp_gr (pc' := 45) ha (hM.2.1 229 5 235 rfl) rfl rfl rfl rfl ?_
      refine hp_il (pc' := 46) (j := 1) (Or.inr ⟨1, rfl, rfl, rfl⟩) rfl ?_
      refine hp_aal (pc' := 47) (j := D) ha (hM.2.1 235 D (236 + D) (rw_rf (by omega))) hD (by omega) rfl rfl rfl ?_
      refine hp_il (pc' := 48) (j := 2) (Or.inr ⟨2, rfl, rfl, rfl⟩) rfl ?_
      refine hp_al (pc' := 49) (j := 0) (Or.inr ⟨0, rfl, rfl, rfl⟩) rfl ?_
      refine hp_gr (pc' := 52) ha (hM.2.1 0 8 229 rfl) rfl rfl rfl rfl ?_
      refine hp_gr (pc' := 55) ha (hM.2.1 229 3 233 rfl) rfl rfl rfl rfl ?_
      refine hp_il (pc' := 56) (j := 1) (Or.inr ⟨1, rfl, rfl, rfl⟩) rfl ?_
      refine hp_ld (pc' := 57) (j := D) ha hD (by omega) rfl rfl rfl ?_
      refine hp_il (pc' := 58) (j := 3) (Or.inr ⟨3, rfl, rfl, rfl⟩) rfl ?_
      refine hp_cs (Q := fun o => o = (some (.int (pt_v (M.1 233 D) x3)), a, M)) (pc' := 61) (e := d + 2) (vs := [.int (M.1 233 D), .int x3]) (r := [.int x2, .ref (236 + D)]) rfl rfl (Or.inl rfl) rfl rfl rfl rfl rfl (pc_ok (hM.1 233 D)) (fun o ho => ?_)
      subst ho
      refine ⟨_, rfl, ?_⟩
      show hp X (d + 3) 139 61 [some (.ref 0), some (.int x1), some (.int x2), some (.int x3), some (.int r1)] [.int (pt_v (M.1 233 D) x3), .int x2, .ref (236 + D)] a M _
      refine hp_st (pc' := 62) (j := I) ha hI (by omega) rfl (rw_lay (by omega)) rfl (fun M5 eM5 gM5 => ?_)
      refine hp_ic (pc' := 63) (x := 0) rfl rfl rfl ?_
      refine hp_ri rfl rfl ?_
      exact ⟨_, M5, rfl, gM5, by
        have hq9 := hq1
        rw [eD] at hq9 ⊢
        unfold pt_a
        repeat' split
        all_goals omega, Or.inr ⟨by
        rw [eD] at hq1 ⊢
        exact ⟨by omega, hq1.2.2, by omega, by omega⟩, by
        rw [eD, eI]
        exact ⟨by rw [eM5, hp_up_eq], fun p k hp => by rw [eM5, hp_up_ne hp]⟩⟩⟩
    · refine hp_bi (pc' := 37) (x := (-13)) rfl rfl rfl ?_
      refine hp_ri rfl rfl ?_
      exact ⟨_, M, rfl, rfl, by
        have hq9 := hq1
        rw [eD] at hq9 ⊢
        unfold pt_a
        repeat' split
        all_goals omega, Or.inl ⟨fun w => by
        rw [eD] at w
        obtain ⟨w1, w2, w3⟩ := w
        omega, rfl⟩⟩
  · refine hp_il (pc' := 18) (j := 4) (Or.inl ⟨rfl, rfl⟩) rfl ?_
    refine hp_ri rfl rfl ?_
    exact ⟨_, M, rfl, rfl, qr1.trans (pt_aw (by omega)).symm, Or.inl ⟨fun w => by
      obtain ⟨w1, w2, w3⟩ := w
      have w0 : wt_r x1.toInt (M.1 230 x1.toInt.toNat).toInt 2 = 0 := by
        unfold wt_r
        rw [if_neg (by omega), if_neg (by omega), if_pos w2]
      omega, rfl⟩⟩
theorem mp_ok (ha : a.1 = rx_cells) (hM : ax_J0 ax_sp ax_rf M) : hp X (d + 2) 240 0 [some (.ref 244), some (.int x1), some (.int x2), some (.int x3)] [] a M (pt_Q 283 285 286 (fun D I => pt_F 287 (80 * D + I)) x1 x2 x3 a M) := by
  have zz0 : (0 : Int32).toInt = 0 := rfl
  have zz1 : (1 : Int32).toInt = 1 := rfl
  have zz2 : (2 : Int32).toInt = 2 := rfl
  have zz80 : (80 : Int32).toInt = 80 := rfl
  have zm1 : ((-1) : Int32).toInt = -1 := rfl
  have zm11 : ((-11) : Int32).toInt = -11 := rfl
  have zm12 : ((-12) : Int32).toInt = -12 := rfl
  have zm13 : ((-13) : Int32).toInt = -13 := rfl
  refine hp_al (pc' := 1) (j := 0) (Or.inr ⟨0, rfl, rfl, rfl⟩) rfl ?_
  refine hp_il (pc' := 2) (j := 1) (Or.inr ⟨1, rfl, rfl, rfl⟩) rfl ?_
  refine hp_cv (Q := fun o => ∃ r : Int32, o = (some (.int r), a, M) ∧ (r.toInt = 0 ∨ r.toInt = 1) ∧ (r.toInt ≠ 0 ↔ (0 ≤ (x1 : Int32).toInt ∧ (x1 : Int32).toInt ≤ 7))) (pc' := 5) (e := (d + 1)) (vs := [.int x1]) (r := []) ha rfl rfl rfl rfl rfl rfl rfl rfl (sh_ok (d := d) ha) (fun o ho => ?_)
  obtain ⟨r1, eo, qr1⟩ := ho
  subst eo
  refine ⟨_, rfl, ?_⟩
  show hp X ((d + 1) + 1) 240 5 [some (.ref 244), some (.int x1), some (.int x2), some (.int x3)] [.int r1] a M _
  refine hp_zne (t := 10) (pc' := 8) rfl rfl rfl (fun c2 => ?_) (fun c2 => ?_)
  · have hq1 := qr1.2.mp (by assumption)
    obtain ⟨D, hD, hD8⟩ : ∃ D : Nat, x1.toInt = (D : Int) ∧ D < 8 := ⟨x1.toInt.toNat, by omega, by omega⟩
    have eD : x1.toInt.toNat = D := by omega
    have bz : 0 ≤ (M.1 286 D).toInt ∧ (M.1 286 D).toInt ≤ 80 := hM.1 286 D
    refine hp_al (pc' := 11) (j := 0) (Or.inr ⟨0, rfl, rfl, rfl⟩) rfl ?_
    refine hp_gr (pc' := 14) ha (hM.2.1 244 50 283 rfl) rfl rfl rfl rfl ?_
    refine hp_il (pc' := 15) (j := 1) (Or.inr ⟨1, rfl, rfl, rfl⟩) rfl ?_
    refine hp_ld (pc' := 16) (j := D) ha hD (by omega) rfl rfl rfl ?_
    refine hp_zne (t := 22) (pc' := 19) rfl rfl rfl (fun c3 => ?_) (fun c3 => ?_)
    · refine hp_al (pc' := 23) (j := 0) (Or.inr ⟨0, rfl, rfl, rfl⟩) rfl ?_
      refine hp_gr (pc' := 26) ha (hM.2.1 244 50 283 rfl) rfl rfl rfl rfl ?_
      refine hp_il (pc' := 27) (j := 1) (Or.inr ⟨1, rfl, rfl, rfl⟩) rfl ?_
      refine hp_ld (pc' := 28) (j := D) ha hD (by omega) rfl rfl rfl ?_
      refine hp_ic (pc' := 29) (x := 2) rfl rfl rfl ?_
      refine hp_ieq (t := 35) (pc' := 32) rfl rfl rfl (fun c4 => ?_) (fun c4 => ?_)
      · refine hp_al (pc' := 36) (j := 0) (Or.inr ⟨0, rfl, rfl, rfl⟩) rfl ?_
        refine hp_il (pc' := 37) (j := 2) (Or.inr ⟨2, rfl, rfl, rfl⟩) rfl ?_
        refine hp_ic (pc' := 38) (x := 0) rfl rfl rfl ?_
        refine hp_al (pc' := 39) (j := 0) (Or.inr ⟨0, rfl, rfl, rfl⟩) rfl ?_
        refine hp_gr (pc' := 42) ha (hM.2.1 244 53 286 rfl) rfl rfl rfl rfl ?_
        refine hp_il (pc' := 43) (j := 1) (Or.inr ⟨1, rfl, rfl, rfl⟩) rfl ?_
        refine hp_ld (pc' := 44) (j := D) ha hD (by omega) rfl rfl rfl ?_
        refine hp_ic (pc' := 45) (x := 1) rfl rfl rfl ?_
        refine hp_sub (pc' := 46) rfl rfl (fun z5 hz5 => ?_)
        have yz5 : z5.toInt = (M.1 286 D).toInt - 1 := by rw [hz5, ax_sub (by omega) (by omega), zz1]
        refine hp_cv (Q := fun o => ∃ r : Int32, o = (some (.int r), a, M) ∧ (r.toInt = 0 ∨ r.toInt = 1) ∧ (r.toInt ≠ 0 ↔ (((0 : Int32) : Int32).toInt ≤ (x2 : Int32).toInt ∧ (x2 : Int32).toInt ≤ (z5 : Int32).toInt))) (pc' := 49) (e := (d + 1)) (vs := [.int x2, .int (0 : Int32), .int z5]) (r := []) ha rfl rfl rfl rfl rfl rfl rfl rfl in_ok (fun o ho => ?_)
        obtain ⟨r6, eo, qr6⟩ := ho
        subst eo
        refine ⟨_, rfl, ?_⟩
        show hp X ((d + 1) + 1) 240 49 [some (.ref 244), some (.int x1), some (.int x2), some (.int x3)] [.int r6] a M _
        refine hp_zne (t := 55) (pc' := 52) rfl rfl rfl (fun c7 => ?_) (fun c7 => ?_)
        · have hq2 := qr6.2.mp (by assumption)
          obtain ⟨I, hI, hI8⟩ : ∃ I : Nat, x2.toInt = (I : Int) ∧ I < 80 := ⟨x2.toInt.toNat, by omega, by omega⟩
          have eI : x2.toInt.toNat = I := by omega
          refine hp_al (pc' := 56) (j := 0) (Or.inr ⟨0, rfl, rfl, rfl⟩) rfl ?_
          refine hp_gr (pc' := 59) ha (hM.2.1 244 54 287 rfl) rfl rfl rfl rfl ?_
          refine hp_bi (pc' := 61) (x := 80) rfl rfl rfl ?_
          refine hp_il (pc' := 62) (j := 1) (Or.inr ⟨1, rfl, rfl, rfl⟩) rfl ?_
          refine hp_mul (pc' := 63) rfl rfl (fun z8 hz8 => ?_)
          have xz8 : z8.toInt = (((80 * D) : Nat) : Int) := hp_m80 hD (by omega) hz8
          refine hp_il (pc' := 64) (j := 2) (Or.inr ⟨2, rfl, rfl, rfl⟩) rfl ?_
          refine hp_add (pc' := 65) rfl rfl (fun z9 hz9 => ?_)
          have xz9 : z9.toInt = (((80 * D + I) : Nat) : Int) := hp_aa xz8 hI (by omega) hz9
          refine hp_al (pc' := 66) (j := 0) (Or.inr ⟨0, rfl, rfl, rfl⟩) rfl ?_
          refine hp_al (pc' := 67) (j := 0) (Or.inr ⟨0, rfl, rfl, rfl⟩) rfl ?_
          refine hp_gr (pc' := 70) ha (hM.2.1 244 52 285 rfl) rfl rfl rfl rfl ?_
          refine hp_il (pc' := 71) (j := 1) (Or.inr ⟨1, rfl, rfl, rfl⟩) rfl ?_
          refine hp_ld (pc' := 72) (j := D) ha hD (by omega) rfl rfl rfl ?_
          refine hp_il (pc' := 73) (j := 3) (Or.inr ⟨3, rfl, rfl, rfl⟩) rfl ?_
          refine hp_cv (Q := fun o => o = (some (.int (pt_v (M.1 285 D) x3)), a, M)) (pc' := 76) (e := d + 1) (vs := [.int (M.1 285 D), .int x3]) (r := [.int z9, .ref 287]) ha rfl rfl rfl rfl rfl rfl rfl rfl (pn_ok (hM.1 285 D)) (fun o ho => ?_)
          subst ho
          refine ⟨_, rfl, ?_⟩
          show hp X (d + 2) 240 76 [some (.ref 244), some (.int x1), some (.int x2), some (.int x3)] [.int (pt_v (M.1 285 D) x3), .int z9, .ref 287] a M _
          refine hp_st (pc' := 77) (j := (80 * D + I)) ha xz9 (by omega) rfl rfl rfl (fun M10 eM10 gM10 => ?_)
          refine hp_ic (pc' := 78) (x := 0) rfl rfl rfl ?_
          refine hp_ri rfl rfl ?_
          exact ⟨_, M10, rfl, gM10, by
            rw [eD]
            unfold pt_a
            repeat' split
            all_goals omega, Or.inr ⟨by
            rw [eD]
            exact ⟨by omega, by omega, by omega, by omega⟩, by
            rw [eD, eI]
            exact ⟨by rw [eM10, hp_up_eq], fun p k hp => by rw [eM10, hp_up_ne hp]⟩⟩⟩
        · refine hp_bi (pc' := 54) (x := (-13)) rfl rfl rfl ?_
          refine hp_ri rfl rfl ?_
          exact ⟨_, M, rfl, rfl, by
            rw [eD]
            unfold pt_a
            repeat' split
            all_goals omega, Or.inl ⟨fun w => by
            rw [eD] at w
            obtain ⟨w1, w2, w3⟩ := w
            omega, rfl⟩⟩
      · refine hp_bi (pc' := 34) (x := (-12)) rfl rfl rfl ?_
        refine hp_ri rfl rfl ?_
        exact ⟨_, M, rfl, rfl, by
          rw [eD]
          unfold pt_a
          repeat' split
          all_goals omega, Or.inl ⟨fun w => by
          rw [eD] at w
          obtain ⟨w1, w2, w3⟩ := w
          omega, rfl⟩⟩
    · refine hp_bi (pc' := 21) (x := (-11)) rfl rfl rfl ?_
      refine hp_ri rfl rfl ?_
      exact ⟨_, M, rfl, rfl, by
        rw [eD]
        unfold pt_a
        repeat' split
        all_goals omega, Or.inl ⟨fun w => by
        rw [eD] at w
        obtain ⟨w1, w2, w3⟩ := w
        omega, rfl⟩⟩
  · refine hp_ic (pc' := 9) (x := (-1)) rfl rfl rfl ?_
    refine hp_ri rfl rfl ?_
    exact ⟨_, M, rfl, rfl, by
      unfold pt_a
      repeat' split
      all_goals omega, Or.inl ⟨fun w => by
      obtain ⟨w1, w2, w3⟩ := w
      omega, rfl⟩⟩
end PT
