/-! row, put and keep, of both sides, by hand -/
section SR
variable {X : Nat × (Nat → Int32)} {d D n : Nat} {a : rx_K} {M M0 : rx_M} {P : rx_O → Prop} {x1 x2 x3 x4 x5 : Int32}
theorem hp_len {i pc pc' q n : Nat} {ls : List (Option Value)} {st : List Value} {x : Int32} (ha : a.1 = rx_cells) (ht : rx_tb i pc = some .arraylength) (hl : rx_lay q = some (.inr (0, n))) (hx : Int32.ofNat n = x) (e : pc + 1 = pc') (k : hp X d i pc' ls (.int x :: st) a M P) : hp X d i pc ls (.ref q :: st) a M P := by
  subst e hx
  refine hp_s ((hp_q ht).trans ?_) k
  show rx_aln X i pc ls (.ref q :: st) a M = _
  unfold rx_aln
  dsimp only
  rw [hl]
  dsimp only
  rw [if_pos ⟨by rw [ha]; exact ax_lay_lt hl, by decide⟩]
  rfl
/-- a row's first k elements are x, all else is as it was -/
noncomputable def rw_Z (q o k : Nat) (x : Int32) (M0 M : rx_M) : Prop := M.2 = M0.2 ∧ (∀ j, j < k → M.1 q (o + j) = x) ∧ ∀ p j, ¬ (p = q ∧ o ≤ j ∧ j < o + k) → M.1 p j = M0.1 p j
theorem rw_Z0 (q o : Nat) (x : Int32) (M : rx_M) : rw_Z q o 0 x M M := ⟨rfl, fun j hj => absurd hj (Nat.not_lt_zero _), fun _ _ _ => rfl⟩
theorem rw_Zs {q o k : Nat} {x : Int32} {M1 : rx_M} (h : rw_Z q o k x M0 M) (e : M1.1 = rx_up M.1 q (o + k) x) (g : M1.2 = M.2) : rw_Z q o (k + 1) x M0 M1 := by
  refine ⟨g.trans h.1, fun j hj => ?_, fun p j hp => ?_⟩
  · rw [e]
    by_cases w : j = k
    · rw [w, hp_up_eq]
    · rw [hp_up_ne (by omega)]
      exact h.2.1 j (by omega)
  · rw [e, hp_up_ne (by omega)]
    exact h.2.2 p j (by omega)
theorem fi_5 (ha : a.1 = rx_cells) (hD : D < 8) (h3 : x3.toInt = 80) : ∀ (m k : Nat) (x2 : Int32) (M : rx_M), m + k = 80 → x2.toInt = (k : Int) → rw_Z (236 + D) 0 k x1 M0 M → hp X d 246 5 [some (.ref (236 + D)), some (.int x1), some (.int x2), some (.int x3)] [] a M (fun o => ∃ M1 : rx_M, o = (none, a, M1) ∧ rw_Z (236 + D) 0 80 x1 M0 M1) := by
  intro m
  induction m with
  | zero =>
    intro k x2 M hb hk hZ
    refine hp_il (pc' := 6) (j := 2) (Or.inr ⟨2, rfl, rfl, rfl⟩) rfl ?_
    refine hp_il (pc' := 7) (j := 3) (Or.inr ⟨3, rfl, rfl, rfl⟩) rfl ?_
    refine hp_ige (t := 20) (pc' := 10) rfl rfl rfl (fun c1 => ?_) (fun c1 => ?_)
    · have e : k = 80 := by omega
      rw [e] at hZ
      refine hp_rv rfl rfl ?_
      exact ⟨M, rfl, hZ⟩
    · exfalso
      omega
  | succ m ih =>
    intro k x2 M hb hk hZ
    refine hp_il (pc' := 6) (j := 2) (Or.inr ⟨2, rfl, rfl, rfl⟩) rfl ?_
    refine hp_il (pc' := 7) (j := 3) (Or.inr ⟨3, rfl, rfl, rfl⟩) rfl ?_
    refine hp_ige (t := 20) (pc' := 10) rfl rfl rfl (fun c1 => ?_) (fun c1 => ?_)
    · exfalso
      omega
    · refine hp_al (pc' := 11) (j := 0) (Or.inr ⟨0, rfl, rfl, rfl⟩) rfl ?_
      refine hp_il (pc' := 12) (j := 2) (Or.inr ⟨2, rfl, rfl, rfl⟩) rfl ?_
      refine hp_il (pc' := 13) (j := 1) (Or.inr ⟨1, rfl, rfl, rfl⟩) rfl ?_
      refine hp_st (pc' := 14) (j := k) ha hk (by omega) rfl (rw_lay hD) rfl (fun M2 eM2 gM2 => ?_)
      refine hp_in (pc' := 17) (j := 2) (ls' := [some (.ref (236 + D)), some (.int x1), some (.int (x2 + Int32.ofInt 1)), some (.int x3)]) rfl rfl rfl rfl rfl ?_
      refine hp_go (t := 5) rfl rfl ?_
      exact ih (k + 1) _ M2 (by omega) (hp_i1 hk (by omega)) (rw_Zs hZ (by rw [Nat.zero_add]; exact eM2) gM2)
theorem fi_ok (ha : a.1 = rx_cells) (hD : D < 8) : hp X d 246 0 [some (.ref (236 + D)), some (.int x1), none, none] [] a M (fun o => ∃ M1 : rx_M, o = (none, a, M1) ∧ rw_Z (236 + D) 0 80 x1 M M1) := by
  refine hp_ic (pc' := 1) (x := 0) rfl rfl rfl ?_
  refine hp_is (pc' := 2) (j := 2) (ls' := [some (.ref (236 + D)), some (.int x1), some (.int (0 : Int32)), none]) (Or.inr ⟨2, rfl, rfl, rfl⟩) (by simp) rfl ?_
  refine hp_al (pc' := 3) (j := 0) (Or.inr ⟨0, rfl, rfl, rfl⟩) rfl ?_
  refine hp_len (pc' := 4) (n := 80) (x := 80) ha rfl (rw_lay hD) rfl rfl ?_
  refine hp_is (pc' := 5) (j := 3) (ls' := [some (.ref (236 + D)), some (.int x1), some (.int (0 : Int32)), some (.int (80 : Int32))]) (Or.inr ⟨3, rfl, rfl, rfl⟩) (by simp) rfl ?_
  exact fi_5 ha hD rfl 80 0 _ M rfl rfl (rw_Z0 _ _ _ _)
/-- what row does, where it isn't refused: (holds, sort, size), the row's cell and where it begins -/
noncomputable def rw_F (h s z q o D : Nat) (of n : Int32) (M M1 : rx_M) : Prop := M1.2 = M.2 ∧ M1.1 h D = 2 ∧ M1.1 s D = of ∧ M1.1 z D = n ∧ (∀ j, j < 80 → M1.1 q (o + j) = 0) ∧ ∀ p j, ¬ (j = D ∧ (p = h ∨ p = s ∨ p = z)) → ¬ (p = q ∧ o ≤ j ∧ j < o + 80) → M1.1 p j = M.1 p j
noncomputable def rw_ok (x1 x2 x3 : Int32) : Prop := 0 ≤ x1.toInt ∧ x1.toInt ≤ 7 ∧ 0 ≤ x2.toInt ∧ x2.toInt ≤ 2 ∧ 0 ≤ x3.toInt ∧ x3.toInt ≤ 80
noncomputable def rw_v (x1 x2 x3 : Int) : Int := if x1 < 0 ∨ 7 < x1 ∨ x2 < 0 ∨ 2 < x2 ∨ 80 < x3 then -1 else if x3 < 0 then -14 else 0
noncomputable def rw_Q (h s z : Nat) (q o : Nat → Nat) (x1 x2 x3 : Int32) (a : rx_K) (M : rx_M) (w : rx_O) : Prop := ∃ (r : Int32) (M1 : rx_M), w = (some (.int r), a, M1) ∧ r.toInt = rw_v x1.toInt x2.toInt x3.toInt ∧ ((¬ rw_ok x1 x2 x3 ∧ M1 = M) ∨ (rw_ok x1 x2 x3 ∧ rw_F h s z (q x1.toInt.toNat) (o x1.toInt.toNat) x1.toInt.toNat x2 x3 M M1))
theorem hr_row (ha : a.1 = rx_cells) (hM : hp_R M) (h1 : x1.toInt = (D : Int)) (hD : D < 8) : hp X (d + 1) 99 0 [some (.ref 229), some (.int x1), some (.int x2), some (.int x3)] [] a M (fun o => ∃ M1 : rx_M, o = (none, a, M1) ∧ rw_F 230 233 234 (236 + D) 0 D x2 x3 M M1) := by
  refine hp_al (pc' := 1) (j := 0) (Or.inr ⟨0, rfl, rfl, rfl⟩) rfl ?_
  refine hp_gr (pc' := 4) ha (hM 229 0 230 rfl) rfl rfl rfl rfl ?_
  refine hp_il (pc' := 5) (j := 1) (Or.inr ⟨1, rfl, rfl, rfl⟩) rfl ?_
  refine hp_ic (pc' := 6) (x := 2) rfl rfl rfl ?_
  refine hp_st (pc' := 7) (j := D) ha h1 (by omega) rfl rfl rfl (fun M1 eM1 gM1 => ?_)
  have hM1 : hp_R M1 := hp_Re hM gM1
  refine hp_al (pc' := 8) (j := 0) (Or.inr ⟨0, rfl, rfl, rfl⟩) rfl ?_
  refine hp_gr (pc' := 11) ha (hM1 229 3 233 rfl) rfl rfl rfl rfl ?_
  refine hp_il (pc' := 12) (j := 1) (Or.inr ⟨1, rfl, rfl, rfl⟩) rfl ?_
  refine hp_il (pc' := 13) (j := 2) (Or.inr ⟨2, rfl, rfl, rfl⟩) rfl ?_
  refine hp_st (pc' := 14) (j := D) ha h1 (by omega) rfl rfl rfl (fun M2 eM2 gM2 => ?_)
  have hM2 : hp_R M2 := hp_Re hM1 gM2
  refine hp_al (pc' := 15) (j := 0) (Or.inr ⟨0, rfl, rfl, rfl⟩) rfl ?_
  refine hp_gr (pc' := 18) ha (hM2 229 4 234 rfl) rfl rfl rfl rfl ?_
  refine hp_il (pc' := 19) (j := 1) (Or.inr ⟨1, rfl, rfl, rfl⟩) rfl ?_
  refine hp_il (pc' := 20) (j := 3) (Or.inr ⟨3, rfl, rfl, rfl⟩) rfl ?_
  refine hp_st (pc' := 21) (j := D) ha h1 (by omega) rfl rfl rfl (fun M3 eM3 gM3 => ?_)
  have hM3 : hp_R M3 := hp_Re hM2 gM3
  refine hp_al (pc' := 22) (j := 0) (Or.inr ⟨0, rfl, rfl, rfl⟩) rfl ?_
  refine hp_gr (pc' := 25) ha (hM3 229 5 235 rfl) rfl rfl rfl rfl ?_
  refine hp_il (pc' := 26) (j := 1) (Or.inr ⟨1, rfl, rfl, rfl⟩) rfl ?_
  refine hp_aal (pc' := 27) (j := D) ha (hM3 235 D (236 + D) (rw_rf (by omega))) h1 (by omega) rfl rfl rfl ?_
  refine hp_ic (pc' := 28) (x := 0) rfl rfl rfl ?_
  refine hp_cs (Q := fun o => ∃ M1 : rx_M, o = (none, a, M1) ∧ rw_Z (236 + D) 0 80 (0 : Int32) M3 M1) (pc' := 31) (e := d) (vs := [.ref (236 + D), .int (0 : Int32)]) (r := []) rfl rfl (Or.inl rfl) rfl rfl rfl rfl rfl (fi_ok ha hD) (fun o ho => ?_)
  obtain ⟨M4, eo, zM4⟩ := ho
  subst eo
  refine ⟨_, rfl, ?_⟩
  show hp X (d + 1) 99 31 [some (.ref 229), some (.int x1), some (.int x2), some (.int x3)] [] a M4 _
  refine hp_rv rfl rfl ?_
  exact ⟨M4, rfl, zM4.1.trans (gM3.trans (gM2.trans gM1)), by rw [zM4.2.2 _ _ (by omega), eM3, hp_up_ne (by omega), eM2, hp_up_ne (by omega), eM1, hp_up_eq], by rw [zM4.2.2 _ _ (by omega), eM3, hp_up_ne (by omega), eM2, hp_up_eq], by rw [zM4.2.2 _ _ (by omega), eM3, hp_up_eq], zM4.2.1, fun p j h1 h2 => by rw [zM4.2.2 p j h2, eM3, hp_up_ne (by omega), eM2, hp_up_ne (by omega), eM1, hp_up_ne (by omega)]⟩
theorem xr_ok (ha : a.1 = rx_cells) (hM : ax_J0 ax_sp ax_rf M) : hp X (d + 2) 138 0 [some (.ref 0), some (.int x1), some (.int x2), some (.int x3)] [] a M (rw_Q 230 233 234 (fun D => 236 + D) (fun _ => 0) x1 x2 x3 a M) := by
  have z0 : (0 : Int32).toInt = 0 := rfl
  have z1 : (1 : Int32).toInt = 1 := rfl
  have z2 : (2 : Int32).toInt = 2 := rfl
  have z3 : (3 : Int32).toInt = 3 := rfl
  have z7 : (7 : Int32).toInt = 7 := rfl
  have z8 : (8 : Int32).toInt = 8 := rfl
  have z80 : (80 : Int32).toInt = 80 := rfl
  have m1 : (-1 : Int32).toInt = -1 := rfl
  have m14 : (-14 : Int32).toInt = -14 := rfl
  have m11 : (-11 : Int32).toInt = -11 := rfl
  have m12 : (-12 : Int32).toInt = -12 := rfl
  have m13 : (-13 : Int32).toInt = -13 := rfl
  refine hp_il (pc' := 1) (j := 1) (Or.inr ⟨1, rfl, rfl, rfl⟩) rfl ?_
  refine hp_bi (pc' := 3) (x := 8) rfl rfl rfl ?_
  refine hp_cs (Q := fun o => ∃ r : Int32, o = (some (.int r), a, M) ∧ (r.toInt = 0 ∨ r.toInt = 1) ∧ (r.toInt ≠ 0 ↔ (0 ≤ (x1 : Int32).toInt ∧ (x1 : Int32).toInt < ((8 : Int32) : Int32).toInt))) (pc' := 6) (e := (d + 1)) (vs := [.int x1, .int (8 : Int32)]) (r := []) rfl rfl (Or.inl rfl) rfl rfl rfl rfl rfl bl_ok (fun o ho => ?_)
  obtain ⟨r1, eo, qr1⟩ := ho
  subst eo
  refine ⟨_, rfl, ?_⟩
  show hp X ((d + 1) + 1) 138 6 [some (.ref 0), some (.int x1), some (.int x2), some (.int x3)] [.int r1] a M _
  refine hp_zeq (t := 23) (pc' := 9) rfl rfl rfl (fun c2 => ?_) (fun c2 => ?_)
  · refine hp_ic (pc' := 24) (x := (-1)) rfl rfl rfl ?_
    refine hp_ri rfl rfl ?_
    exact ⟨_, M, rfl, by
      unfold rw_v
      repeat' split
      all_goals omega, Or.inl ⟨fun q => by
      unfold rw_ok at q
      omega, rfl⟩⟩
  · refine hp_il (pc' := 10) (j := 2) (Or.inr ⟨2, rfl, rfl, rfl⟩) rfl ?_
    refine hp_ic (pc' := 11) (x := 3) rfl rfl rfl ?_
    refine hp_cs (Q := fun o => ∃ r : Int32, o = (some (.int r), a, M) ∧ (r.toInt = 0 ∨ r.toInt = 1) ∧ (r.toInt ≠ 0 ↔ (0 ≤ (x2 : Int32).toInt ∧ (x2 : Int32).toInt < ((3 : Int32) : Int32).toInt))) (pc' := 14) (e := (d + 1)) (vs := [.int x2, .int (3 : Int32)]) (r := []) rfl rfl (Or.inl rfl) rfl rfl rfl rfl rfl bl_ok (fun o ho => ?_)
    obtain ⟨r3, eo, qr3⟩ := ho
    subst eo
    refine ⟨_, rfl, ?_⟩
    show hp X ((d + 1) + 1) 138 14 [some (.ref 0), some (.int x1), some (.int x2), some (.int x3)] [.int r3] a M _
    refine hp_zeq (t := 23) (pc' := 17) rfl rfl rfl (fun c4 => ?_) (fun c4 => ?_)
    · refine hp_ic (pc' := 24) (x := (-1)) rfl rfl rfl ?_
      refine hp_ri rfl rfl ?_
      exact ⟨_, M, rfl, by
        unfold rw_v
        repeat' split
        all_goals omega, Or.inl ⟨fun q => by
        unfold rw_ok at q
        omega, rfl⟩⟩
    · refine hp_il (pc' := 18) (j := 3) (Or.inr ⟨3, rfl, rfl, rfl⟩) rfl ?_
      refine hp_bi (pc' := 20) (x := 80) rfl rfl rfl ?_
      refine hp_ile (t := 25) (pc' := 23) rfl rfl rfl (fun c5 => ?_) (fun c5 => ?_)
      · refine hp_il (pc' := 26) (j := 3) (Or.inr ⟨3, rfl, rfl, rfl⟩) rfl ?_
        refine hp_zge (t := 32) (pc' := 29) rfl rfl rfl (fun c6 => ?_) (fun c6 => ?_)
        · have hq1 := qr1.2.mp (by assumption)
          have hq2 := qr3.2.mp (by assumption)
          obtain ⟨D, h1, hD8⟩ : ∃ D : Nat, x1.toInt = (D : Int) ∧ D < 8 := ⟨x1.toInt.toNat, by omega, by omega⟩
          have eD : x1.toInt.toNat = D := by omega
          refine hp_al (pc' := 33) (j := 0) (Or.inr ⟨0, rfl, rfl, rfl⟩) rfl ?_
          refine hp_gr (pc' := 36) ha (hM.2.1 0 8 229 rfl) rfl rfl rfl rfl ?_
          refine hp_il (pc' := 37) (j := 1) (Or.inr ⟨1, rfl, rfl, rfl⟩) rfl ?_
          refine hp_il (pc' := 38) (j := 2) (Or.inr ⟨2, rfl, rfl, rfl⟩) rfl ?_
          refine hp_il (pc' := 39) (j := 3) (Or.inr ⟨3, rfl, rfl, rfl⟩) rfl ?_
          refine hp_cx (q := 229) (Q := fun o => ∃ M1 : rx_M, o = (none, a, M1) ∧ rw_F 230 233 234 (236 + D) 0 D x2 x3 M M1) (pc' := 42) (e := d + 1) (vs := [.int x1, .int x2, .int x3]) (r := []) ha rfl rfl rfl rfl rfl rfl rfl rfl (hr_row ha hM.2.1 h1 hD8) (fun o ho => ?_)
          obtain ⟨M7, eo, fM7⟩ := ho
          subst eo
          refine ⟨_, rfl, ?_⟩
          show hp X (d + 2) 138 42 [some (.ref 0), some (.int x1), some (.int x2), some (.int x3)] [] a M7 _
          refine hp_ic (pc' := 43) (x := 0) rfl rfl rfl ?_
          refine hp_ri rfl rfl ?_
          exact ⟨_, M7, rfl, by
            unfold rw_v
            repeat' split
            all_goals omega, Or.inr ⟨by
            unfold rw_ok
            omega, by
            rw [eD]
            exact fM7⟩⟩
        · refine hp_bi (pc' := 31) (x := (-14)) rfl rfl rfl ?_
          refine hp_ri rfl rfl ?_
          exact ⟨_, M, rfl, by
            unfold rw_v
            repeat' split
            all_goals omega, Or.inl ⟨fun q => by
            unfold rw_ok at q
            omega, rfl⟩⟩
      · refine hp_ic (pc' := 24) (x := (-1)) rfl rfl rfl ?_
        refine hp_ri rfl rfl ?_
        exact ⟨_, M, rfl, by
          unfold rw_v
          repeat' split
          all_goals omega, Or.inl ⟨fun q => by
          unfold rw_ok at q
          omega, rfl⟩⟩
theorem mr_57 (ha : a.1 = rx_cells) (h1 : x1.toInt = (D : Int)) (hD : D < 8) : ∀ (m k : Nat) (x4 : Int32) (M : rx_M), m + k = 80 → x4.toInt = (k : Int) → hp_R M → rw_Z 287 (80 * D) k 0 M0 M → (∀ x4 M, rw_Z 287 (80 * D) 80 0 M0 M → hp X d 238 83 [some (.ref 244), some (.int x1), some (.int x2), some (.int x3), some (.int x4)] [] a M P) → hp X d 238 57 [some (.ref 244), some (.int x1), some (.int x2), some (.int x3), some (.int x4)] [] a M P := by
  intro m
  induction m with
  | zero =>
    intro k x4 M hb h4 hM hZ kk
    have z80 : (80 : Int32).toInt = 80 := rfl
    refine hp_il (pc' := 59) (j := 4) (Or.inl ⟨rfl, rfl⟩) rfl ?_
    refine hp_bi (pc' := 61) (x := 80) rfl rfl rfl ?_
    refine hp_ige (t := 83) (pc' := 64) rfl rfl rfl (fun c1 => ?_) (fun c1 => ?_)
    · have e : k = 80 := by omega
      rw [e] at hZ
      exact kk _ M hZ
    · exfalso
      omega
  | succ m ih =>
    intro k x4 M hb h4 hM hZ kk
    have z80 : (80 : Int32).toInt = 80 := rfl
    refine hp_il (pc' := 59) (j := 4) (Or.inl ⟨rfl, rfl⟩) rfl ?_
    refine hp_bi (pc' := 61) (x := 80) rfl rfl rfl ?_
    refine hp_ige (t := 83) (pc' := 64) rfl rfl rfl (fun c1 => ?_) (fun c1 => ?_)
    · exfalso
      omega
    · refine hp_al (pc' := 65) (j := 0) (Or.inr ⟨0, rfl, rfl, rfl⟩) rfl ?_
      refine hp_gr (pc' := 68) ha (hM 244 54 287 rfl) rfl rfl rfl rfl ?_
      refine hp_bi (pc' := 70) (x := 80) rfl rfl rfl ?_
      refine hp_il (pc' := 71) (j := 1) (Or.inr ⟨1, rfl, rfl, rfl⟩) rfl ?_
      refine hp_mul (pc' := 72) rfl rfl (fun z2 hz2 => ?_)
      have xz2 : z2.toInt = (((80 * D) : Nat) : Int) := hp_m80 h1 (by omega) hz2
      refine hp_il (pc' := 74) (j := 4) (Or.inl ⟨rfl, rfl⟩) rfl ?_
      refine hp_add (pc' := 75) rfl rfl (fun z3 hz3 => ?_)
      have xz3 : z3.toInt = (((80 * D + k) : Nat) : Int) := hp_aa xz2 h4 (by omega) hz3
      refine hp_ic (pc' := 76) (x := 0) rfl rfl rfl ?_
      refine hp_st (pc' := 77) (j := (80 * D + k)) ha xz3 (by omega) rfl rfl rfl (fun M4 eM4 gM4 => ?_)
      have hM4 : hp_R M4 := hp_Re hM gM4
      refine hp_in (pc' := 80) (j := 4) (ls' := [some (.ref 244), some (.int x1), some (.int x2), some (.int x3), some (.int (x4 + Int32.ofInt 1))]) rfl rfl rfl rfl rfl ?_
      refine hp_go (t := 57) rfl rfl ?_
      exact ih (k + 1) _ M4 (by omega) (hp_i1 h4 (by omega)) hM4 (rw_Zs hZ eM4 gM4) kk
theorem mr_ok (ha : a.1 = rx_cells) (hM0 : ax_J0 ax_sp ax_rf M) : hp X (d + 2) 238 0 [some (.ref 244), some (.int x1), some (.int x2), some (.int x3), none] [] a M (rw_Q 283 285 286 (fun _ => 287) (fun D => 80 * D) x1 x2 x3 a M) := by
  have z0 : (0 : Int32).toInt = 0 := rfl
  have z1 : (1 : Int32).toInt = 1 := rfl
  have z2 : (2 : Int32).toInt = 2 := rfl
  have z3 : (3 : Int32).toInt = 3 := rfl
  have z7 : (7 : Int32).toInt = 7 := rfl
  have z8 : (8 : Int32).toInt = 8 := rfl
  have z80 : (80 : Int32).toInt = 80 := rfl
  have m1 : (-1 : Int32).toInt = -1 := rfl
  have m14 : (-14 : Int32).toInt = -14 := rfl
  have m11 : (-11 : Int32).toInt = -11 := rfl
  have m12 : (-12 : Int32).toInt = -12 := rfl
  have m13 : (-13 : Int32).toInt = -13 := rfl
  refine hp_al (pc' := 1) (j := 0) (Or.inr ⟨0, rfl, rfl, rfl⟩) rfl ?_
  refine hp_il (pc' := 2) (j := 1) (Or.inr ⟨1, rfl, rfl, rfl⟩) rfl ?_
  refine hp_cv (Q := fun o => ∃ r : Int32, o = (some (.int r), a, M) ∧ (r.toInt = 0 ∨ r.toInt = 1) ∧ (r.toInt ≠ 0 ↔ (0 ≤ (x1 : Int32).toInt ∧ (x1 : Int32).toInt ≤ 7))) (pc' := 5) (e := (d + 1)) (vs := [.int x1]) (r := []) ha rfl rfl rfl rfl rfl rfl rfl rfl (sh_ok (d := d) ha) (fun o ho => ?_)
  obtain ⟨r1, eo, qr1⟩ := ho
  subst eo
  refine ⟨_, rfl, ?_⟩
  show hp X ((d + 1) + 1) 238 5 [some (.ref 244), some (.int x1), some (.int x2), some (.int x3), none] [.int r1] a M _
  refine hp_zeq (t := 24) (pc' := 8) rfl rfl rfl (fun c2 => ?_) (fun c2 => ?_)
  · refine hp_ic (pc' := 25) (x := (-1)) rfl rfl rfl ?_
    refine hp_ri rfl rfl ?_
    exact ⟨_, M, rfl, by
      unfold rw_v
      repeat' split
      all_goals omega, Or.inl ⟨fun q => by
      unfold rw_ok at q
      omega, rfl⟩⟩
  · refine hp_al (pc' := 9) (j := 0) (Or.inr ⟨0, rfl, rfl, rfl⟩) rfl ?_
    refine hp_il (pc' := 10) (j := 2) (Or.inr ⟨2, rfl, rfl, rfl⟩) rfl ?_
    refine hp_ic (pc' := 11) (x := 0) rfl rfl rfl ?_
    refine hp_ic (pc' := 12) (x := 2) rfl rfl rfl ?_
    refine hp_cv (Q := fun o => ∃ r : Int32, o = (some (.int r), a, M) ∧ (r.toInt = 0 ∨ r.toInt = 1) ∧ (r.toInt ≠ 0 ↔ (((0 : Int32) : Int32).toInt ≤ (x2 : Int32).toInt ∧ (x2 : Int32).toInt ≤ ((2 : Int32) : Int32).toInt))) (pc' := 15) (e := (d + 1)) (vs := [.int x2, .int (0 : Int32), .int (2 : Int32)]) (r := []) ha rfl rfl rfl rfl rfl rfl rfl rfl in_ok (fun o ho => ?_)
    obtain ⟨r3, eo, qr3⟩ := ho
    subst eo
    refine ⟨_, rfl, ?_⟩
    show hp X ((d + 1) + 1) 238 15 [some (.ref 244), some (.int x1), some (.int x2), some (.int x3), none] [.int r3] a M _
    refine hp_zeq (t := 24) (pc' := 18) rfl rfl rfl (fun c4 => ?_) (fun c4 => ?_)
    · refine hp_ic (pc' := 25) (x := (-1)) rfl rfl rfl ?_
      refine hp_ri rfl rfl ?_
      exact ⟨_, M, rfl, by
        unfold rw_v
        repeat' split
        all_goals omega, Or.inl ⟨fun q => by
        unfold rw_ok at q
        omega, rfl⟩⟩
    · refine hp_il (pc' := 19) (j := 3) (Or.inr ⟨3, rfl, rfl, rfl⟩) rfl ?_
      refine hp_bi (pc' := 21) (x := 80) rfl rfl rfl ?_
      refine hp_ile (t := 26) (pc' := 24) rfl rfl rfl (fun c5 => ?_) (fun c5 => ?_)
      · refine hp_il (pc' := 27) (j := 3) (Or.inr ⟨3, rfl, rfl, rfl⟩) rfl ?_
        refine hp_zge (t := 33) (pc' := 30) rfl rfl rfl (fun c6 => ?_) (fun c6 => ?_)
        · have hM := hM0.2.1
          have hq1 := qr1.2.mp (by assumption)
          have hq2 := qr3.2.mp (by assumption)
          obtain ⟨D, h1, hD8⟩ : ∃ D : Nat, x1.toInt = (D : Int) ∧ D < 8 := ⟨x1.toInt.toNat, by omega, by omega⟩
          have eD : x1.toInt.toNat = D := by omega
          refine hp_al (pc' := 34) (j := 0) (Or.inr ⟨0, rfl, rfl, rfl⟩) rfl ?_
          refine hp_gr (pc' := 37) ha (hM 244 50 283 rfl) rfl rfl rfl rfl ?_
          refine hp_il (pc' := 38) (j := 1) (Or.inr ⟨1, rfl, rfl, rfl⟩) rfl ?_
          refine hp_ic (pc' := 39) (x := 2) rfl rfl rfl ?_
          refine hp_st (pc' := 40) (j := D) ha h1 (by omega) rfl rfl rfl (fun M7 eM7 gM7 => ?_)
          have hM7 : hp_R M7 := hp_Re hM gM7
          refine hp_al (pc' := 41) (j := 0) (Or.inr ⟨0, rfl, rfl, rfl⟩) rfl ?_
          refine hp_gr (pc' := 44) ha (hM7 244 52 285 rfl) rfl rfl rfl rfl ?_
          refine hp_il (pc' := 45) (j := 1) (Or.inr ⟨1, rfl, rfl, rfl⟩) rfl ?_
          refine hp_il (pc' := 46) (j := 2) (Or.inr ⟨2, rfl, rfl, rfl⟩) rfl ?_
          refine hp_st (pc' := 47) (j := D) ha h1 (by omega) rfl rfl rfl (fun M8 eM8 gM8 => ?_)
          have hM8 : hp_R M8 := hp_Re hM7 gM8
          refine hp_al (pc' := 48) (j := 0) (Or.inr ⟨0, rfl, rfl, rfl⟩) rfl ?_
          refine hp_gr (pc' := 51) ha (hM8 244 53 286 rfl) rfl rfl rfl rfl ?_
          refine hp_il (pc' := 52) (j := 1) (Or.inr ⟨1, rfl, rfl, rfl⟩) rfl ?_
          refine hp_il (pc' := 53) (j := 3) (Or.inr ⟨3, rfl, rfl, rfl⟩) rfl ?_
          refine hp_st (pc' := 54) (j := D) ha h1 (by omega) rfl rfl rfl (fun M9 eM9 gM9 => ?_)
          have hM9 : hp_R M9 := hp_Re hM8 gM9
          refine hp_ic (pc' := 55) (x := 0) rfl rfl rfl ?_
          refine hp_is (pc' := 57) (j := 4) (ls' := [some (.ref 244), some (.int x1), some (.int x2), some (.int x3), some (.int (0 : Int32))]) (Or.inl ⟨rfl, rfl⟩) (by simp) rfl ?_
          refine mr_57 (M0 := M9) ha h1 hD8 80 0 _ M9 rfl rfl hM9 (rw_Z0 _ _ _ _) (fun x4 Mz hz => ?_)
          refine hp_ic (pc' := 84) (x := 0) rfl rfl rfl ?_
          refine hp_ri rfl rfl ?_
          exact ⟨_, Mz, rfl, by
            unfold rw_v
            repeat' split
            all_goals omega, Or.inr ⟨by
            unfold rw_ok
            omega, by
            rw [eD]
            exact ⟨hz.1.trans (gM9.trans (gM8.trans gM7)), by rw [hz.2.2 _ _ (by omega), eM9, hp_up_ne (by omega), eM8, hp_up_ne (by omega), eM7, hp_up_eq], by rw [hz.2.2 _ _ (by omega), eM9, hp_up_ne (by omega), eM8, hp_up_eq], by rw [hz.2.2 _ _ (by omega), eM9, hp_up_eq], hz.2.1, fun p j q1 q2 => by rw [hz.2.2 p j q2, eM9, hp_up_ne (by omega), eM8, hp_up_ne (by omega), eM7, hp_up_ne (by omega)]⟩⟩⟩
        · refine hp_bi (pc' := 32) (x := (-14)) rfl rfl rfl ?_
          refine hp_ri rfl rfl ?_
          exact ⟨_, M, rfl, by
            unfold rw_v
            repeat' split
            all_goals omega, Or.inl ⟨fun q => by
            unfold rw_ok at q
            omega, rfl⟩⟩
      · refine hp_ic (pc' := 25) (x := (-1)) rfl rfl rfl ?_
        refine hp_ri rfl rfl ?_
        exact ⟨_, M, rfl, by
          unfold rw_v
          repeat' split
          all_goals omega, Or.inl ⟨fun q => by
          unfold rw_ok at q
          omega, rfl⟩⟩
end SR
