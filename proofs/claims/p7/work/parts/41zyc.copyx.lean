/-! copy, of both sides, by hand: all that it does -/
/-- k slots of a row are written -/
noncomputable def cz_Z (q o k : Nat) (f : Nat → Int32) (M0 M : rx_M) : Prop := M.2 = M0.2 ∧ (∀ j, j < k → M.1 q (o + j) = f j) ∧ ∀ p j, ¬ (p = q ∧ o ≤ j ∧ j < o + k) → M.1 p j = M0.1 p j
theorem cz_Z0 (q o : Nat) (f : Nat → Int32) (M : rx_M) : cz_Z q o 0 f M M := ⟨rfl, fun j hj => absurd hj (Nat.not_lt_zero _), fun _ _ _ => rfl⟩
theorem cz_Zs {q o k n : Nat} {f : Nat → Int32} {z : Int32} {M0 M M1 : rx_M} (h : cz_Z q o k f M0 M) (e : M1.1 = rx_up M.1 q n z) (hn : n = o + k) (hz : z = f k) (g : M1.2 = M.2) : cz_Z q o (k + 1) f M0 M1 := by
  subst hn
  refine ⟨g.trans h.1, fun j hj => ?_, fun p j hp => ?_⟩
  · rw [e]
    by_cases w : j = k
    · rw [w, hp_up_eq]
      exact hz
    · rw [hp_up_ne (by omega)]
      exact h.2.1 j (by omega)
  · rw [e, hp_up_ne (by omega)]
    exact h.2.2 p j (by omega)
/-- elements come from one row to another: of the class, of the reference -/
noncomputable def cq_Xx (D I G J n : Nat) (M M1 : rx_M) : Prop := (∀ j, j < n → M1.1 (236 + G) (J + j) = M.1 (236 + D) (I + j)) ∧ ∀ p j, ¬ (p = 236 + G ∧ J ≤ j ∧ j < J + n) → M1.1 p j = M.1 p j
noncomputable def cq_Xm (D I G J n : Nat) (M M1 : rx_M) : Prop := (∀ j, j < n → M1.1 287 (80 * G + J + j) = M.1 287 (80 * D + I + j)) ∧ ∀ p j, p ≠ 289 → ¬ (p = 287 ∧ 80 * G + J ≤ j ∧ j < 80 * G + J + n) → M1.1 p j = M.1 p j
noncomputable def cq_Q (R : Nat → Nat → Nat → Nat → Nat → rx_M → rx_M → Prop) (h s z : Nat) (x1 x2 x3 x4 x5 : Int32) (a : rx_K) (M : rx_M) (o : rx_O) : Prop := ∃ (r : Int32) (M1 : rx_M), o = (some (.int r), a, M1) ∧ cp_F M M1 ∧ r.toInt = cp_v x1.toInt x2.toInt x3.toInt x4.toInt x5.toInt (M.1 h x1.toInt.toNat).toInt (M.1 h x3.toInt.toNat).toInt (M.1 s x1.toInt.toNat).toInt (M.1 s x3.toInt.toNat).toInt (M.1 z x1.toInt.toNat).toInt (M.1 z x3.toInt.toNat).toInt ∧ ((r.toInt < 0 ∧ M1.1 = M.1) ∨ (0 ≤ r.toInt ∧ (((0 ≤ x1.toInt ∧ x1.toInt ≤ 7) ∧ 0 ≤ x3.toInt ∧ x3.toInt ≤ 7) ∧ (0 ≤ x2.toInt ∧ 0 ≤ x4.toInt ∧ 0 ≤ x5.toInt) ∧ x2.toInt + x5.toInt ≤ 80 ∧ x4.toInt + x5.toInt ≤ 80) ∧ R x1.toInt.toNat x2.toInt.toNat x3.toInt.toNat x4.toInt.toNat x5.toInt.toNat M M1))
section CQL
variable {X : Nat × (Nat → Int32)} {d n D I J : Nat} {a : rx_K} {M0 : rx_M} {P : rx_O → Prop} {x1 x2 x3 x4 x5 : Int32}
theorem cz_124 (ha : a.1 = rx_cells) (r0 : M0.2.1 244 54 = some 287 ∧ M0.2.1 244 56 = some 289) (h1 : x1.toInt = (D : Int)) (hD : D < 8) (h2 : x2.toInt = (I : Int)) (h5 : x5.toInt = (n : Int)) (hI : I + n ≤ 80) : ∀ (m k : Nat) (xk : Int32) (M : rx_M), m + k = n → xk.toInt = (k : Int) → cz_Z 289 0 k (fun j => M0.1 287 (80 * D + I + j)) M0 M → (∀ x M, x.toInt = x5.toInt → cz_Z 289 0 n (fun j => M0.1 287 (80 * D + I + j)) M0 M → hp X d 242 158 [some (.ref 244), some (.int x1), some (.int x2), some (.int x3), some (.int x4), some (.int x5), some (.int x)] [] a M P) → hp X d 242 124 [some (.ref 244), some (.int x1), some (.int x2), some (.int x3), some (.int x4), some (.int x5), some (.int xk)] [] a M P := by
  intro m
  induction m with
  | zero =>
    intro k xk M hb hk hM kk
    have z80 : (80 : Int32).toInt = 80 := rfl
    refine hp_il (pc' := 126) (j := 6) (Or.inl ⟨rfl, rfl⟩) rfl ?_
    refine hp_il (pc' := 128) (j := 5) (Or.inl ⟨rfl, rfl⟩) rfl ?_
    refine hp_ige (t := 158) (pc' := 131) rfl rfl rfl (fun c1 => ?_) (fun c1 => ?_)
    · have e : k = n := by omega
      rw [e] at hM
      exact kk _ M (by omega) hM
    · exfalso
      omega
  | succ m ih =>
    intro k xk M hb hk hM kk
    have z80 : (80 : Int32).toInt = 80 := rfl
    refine hp_il (pc' := 126) (j := 6) (Or.inl ⟨rfl, rfl⟩) rfl ?_
    refine hp_il (pc' := 128) (j := 5) (Or.inl ⟨rfl, rfl⟩) rfl ?_
    refine hp_ige (t := 158) (pc' := 131) rfl rfl rfl (fun c1 => ?_) (fun c1 => ?_)
    · exfalso
      omega
    · refine hp_al (pc' := 132) (j := 0) (Or.inr ⟨0, rfl, rfl, rfl⟩) rfl ?_
      refine hp_gr (pc' := 135) ha (by rw [hM.1]; exact r0.2) rfl rfl rfl rfl ?_
      refine hp_il (pc' := 137) (j := 6) (Or.inl ⟨rfl, rfl⟩) rfl ?_
      refine hp_al (pc' := 138) (j := 0) (Or.inr ⟨0, rfl, rfl, rfl⟩) rfl ?_
      refine hp_gr (pc' := 141) ha (by rw [hM.1]; exact r0.1) rfl rfl rfl rfl ?_
      refine hp_bi (pc' := 143) (x := 80) rfl rfl rfl ?_
      refine hp_il (pc' := 144) (j := 1) (Or.inr ⟨1, rfl, rfl, rfl⟩) rfl ?_
      refine hp_mul (pc' := 145) rfl rfl (fun z2 hz2 => ?_)
      have xz2 : z2.toInt = (((80 * D) : Nat) : Int) := hp_m80 h1 (by omega) hz2
      refine hp_il (pc' := 146) (j := 2) (Or.inr ⟨2, rfl, rfl, rfl⟩) rfl ?_
      refine hp_add (pc' := 147) rfl rfl (fun z3 hz3 => ?_)
      have xz3 : z3.toInt = (((80 * D + I) : Nat) : Int) := hp_aa xz2 h2 (by omega) hz3
      refine hp_il (pc' := 149) (j := 6) (Or.inl ⟨rfl, rfl⟩) rfl ?_
      refine hp_add (pc' := 150) rfl rfl (fun z4 hz4 => ?_)
      have xz4 : z4.toInt = (((80 * D + I + k) : Nat) : Int) := hp_aa xz3 hk (by omega) hz4
      refine hp_ld (pc' := 151) (j := (80 * D + I + k)) ha xz4 (by omega) rfl rfl rfl ?_
      refine hp_st (pc' := 152) (j := k) ha hk (by omega) rfl rfl rfl (fun M5 eM5 gM5 => ?_)
      have hM5 := cz_Zs hM eM5 (by omega) (hM.2.2 287 (80 * D + I + k) (by omega)) gM5
      refine hp_in (pc' := 155) (j := 6) (ls' := [some (.ref 244), some (.int x1), some (.int x2), some (.int x3), some (.int x4), some (.int x5), some (.int (xk + Int32.ofInt 1))]) rfl rfl rfl rfl rfl ?_
      refine hp_go (t := 124) rfl rfl ?_
      exact ih (k + 1) _ M5 (by omega) (hp_i1 hk (by omega)) hM5 kk
theorem cz_161 (ha : a.1 = rx_cells) (r0 : M0.2.1 244 54 = some 287 ∧ M0.2.1 244 56 = some 289) (h1 : x3.toInt = (D : Int)) (hD : D < 8) (h4 : x4.toInt = (J : Int)) (h5 : x5.toInt = (n : Int)) (hI : J + n ≤ 80) : ∀ (m k : Nat) (xk : Int32) (M : rx_M), m + k = n → xk.toInt = (k : Int) → cz_Z 287 (80 * D + J) k (fun j => M0.1 289 j) M0 M → (∀ x M, x.toInt = x5.toInt → cz_Z 287 (80 * D + J) n (fun j => M0.1 289 j) M0 M → hp X d 242 196 [some (.ref 244), some (.int x1), some (.int x2), some (.int x3), some (.int x4), some (.int x5), some (.int x)] [] a M P) → hp X d 242 161 [some (.ref 244), some (.int x1), some (.int x2), some (.int x3), some (.int x4), some (.int x5), some (.int xk)] [] a M P := by
  intro m
  induction m with
  | zero =>
    intro k xk M hb hk hM kk
    have z80 : (80 : Int32).toInt = 80 := rfl
    refine hp_il (pc' := 163) (j := 6) (Or.inl ⟨rfl, rfl⟩) rfl ?_
    refine hp_il (pc' := 165) (j := 5) (Or.inl ⟨rfl, rfl⟩) rfl ?_
    refine hp_ige (t := 196) (pc' := 168) rfl rfl rfl (fun c1 => ?_) (fun c1 => ?_)
    · have e : k = n := by omega
      rw [e] at hM
      exact kk _ M (by omega) hM
    · exfalso
      omega
  | succ m ih =>
    intro k xk M hb hk hM kk
    have z80 : (80 : Int32).toInt = 80 := rfl
    refine hp_il (pc' := 163) (j := 6) (Or.inl ⟨rfl, rfl⟩) rfl ?_
    refine hp_il (pc' := 165) (j := 5) (Or.inl ⟨rfl, rfl⟩) rfl ?_
    refine hp_ige (t := 196) (pc' := 168) rfl rfl rfl (fun c1 => ?_) (fun c1 => ?_)
    · exfalso
      omega
    · refine hp_al (pc' := 169) (j := 0) (Or.inr ⟨0, rfl, rfl, rfl⟩) rfl ?_
      refine hp_gr (pc' := 172) ha (by rw [hM.1]; exact r0.1) rfl rfl rfl rfl ?_
      refine hp_bi (pc' := 174) (x := 80) rfl rfl rfl ?_
      refine hp_il (pc' := 175) (j := 3) (Or.inr ⟨3, rfl, rfl, rfl⟩) rfl ?_
      refine hp_mul (pc' := 176) rfl rfl (fun z2 hz2 => ?_)
      have xz2 : z2.toInt = (((80 * D) : Nat) : Int) := hp_m80 h1 (by omega) hz2
      refine hp_il (pc' := 178) (j := 4) (Or.inl ⟨rfl, rfl⟩) rfl ?_
      refine hp_add (pc' := 179) rfl rfl (fun z3 hz3 => ?_)
      have xz3 : z3.toInt = (((80 * D + J) : Nat) : Int) := hp_aa xz2 h4 (by omega) hz3
      refine hp_il (pc' := 181) (j := 6) (Or.inl ⟨rfl, rfl⟩) rfl ?_
      refine hp_add (pc' := 182) rfl rfl (fun z4 hz4 => ?_)
      have xz4 : z4.toInt = (((80 * D + J + k) : Nat) : Int) := hp_aa xz3 hk (by omega) hz4
      refine hp_al (pc' := 183) (j := 0) (Or.inr ⟨0, rfl, rfl, rfl⟩) rfl ?_
      refine hp_gr (pc' := 186) ha (by rw [hM.1]; exact r0.2) rfl rfl rfl rfl ?_
      refine hp_il (pc' := 188) (j := 6) (Or.inl ⟨rfl, rfl⟩) rfl ?_
      refine hp_ld (pc' := 189) (j := k) ha hk (by omega) rfl rfl rfl ?_
      refine hp_st (pc' := 190) (j := (80 * D + J + k)) ha xz4 (by omega) rfl rfl rfl (fun M5 eM5 gM5 => ?_)
      have hM5 := cz_Zs hM eM5 (rfl) (hM.2.2 289 k (by omega)) gM5
      refine hp_in (pc' := 193) (j := 6) (ls' := [some (.ref 244), some (.int x1), some (.int x2), some (.int x3), some (.int x4), some (.int x5), some (.int (xk + Int32.ofInt 1))]) rfl rfl rfl rfl rfl ?_
      refine hp_go (t := 161) rfl rfl ?_
      exact ih (k + 1) _ M5 (by omega) (hp_i1 hk (by omega)) hM5 kk
end CQL
section CQ2
variable {X : Nat × (Nat → Int32)} {d D G I : Nat} {a : rx_K} {M : rx_M} {P : rx_O → Prop} {x1 x2 x3 x4 x5 : Int32}
theorem ph_ok (ha : a.1 = rx_cells) (hM : ax_J0 ax_sp ax_rf M) (h1 : x1.toInt = (D : Int)) (hD : D < 8) : hp X (d + 1) 103 0 [some (.ref 229), some (.int x1), some (.int x2), some (.int x3)] [] a M (fun o => ∃ r : Int32, o = (some (.int r), a, M) ∧ (r.toInt = 0 ∨ r.toInt = 1) ∧ (r.toInt ≠ 0 ↔ (0 ≤ (x3 : Int32).toInt ∧ (x3 : Int32).toInt ≤ (M.1 234 D).toInt ∧ 0 ≤ (x2 : Int32).toInt ∧ (x2 : Int32).toInt + (x3 : Int32).toInt ≤ (M.1 234 D).toInt))) := by
  have z0 : (0 : Int32).toInt = 0 := rfl
  have z1 : (1 : Int32).toInt = 1 := rfl
  have bz : 0 ≤ (M.1 234 D).toInt ∧ (M.1 234 D).toInt ≤ 80 := hM.1 234 D
  refine hp_il (pc' := 1) (j := 3) (Or.inr ⟨3, rfl, rfl, rfl⟩) rfl ?_
  refine hp_ic (pc' := 2) (x := 0) rfl rfl rfl ?_
  refine hp_al (pc' := 3) (j := 0) (Or.inr ⟨0, rfl, rfl, rfl⟩) rfl ?_
  refine hp_gr (pc' := 6) ha (hM.2.1 229 4 234 rfl) rfl rfl rfl rfl ?_
  refine hp_il (pc' := 7) (j := 1) (Or.inr ⟨1, rfl, rfl, rfl⟩) rfl ?_
  refine hp_ld (pc' := 8) (j := D) ha h1 (by omega) rfl rfl rfl ?_
  refine hp_cs (Q := fun o => ∃ r : Int32, o = (some (.int r), a, M) ∧ (r.toInt = 0 ∨ r.toInt = 1) ∧ (r.toInt ≠ 0 ↔ (((0 : Int32) : Int32).toInt ≤ (x3 : Int32).toInt ∧ (x3 : Int32).toInt ≤ ((M.1 234 D) : Int32).toInt))) (pc' := 11) (e := d) (vs := [.int x3, .int (0 : Int32), .int (M.1 234 D)]) (r := []) rfl rfl (Or.inr rfl) rfl rfl rfl rfl rfl wi_ok (fun o ho => ?_)
  obtain ⟨r1, eo, qr1⟩ := ho
  subst eo
  refine ⟨_, rfl, ?_⟩
  show hp X (d + 1) 103 11 [some (.ref 229), some (.int x1), some (.int x2), some (.int x3)] [.int r1] a M _
  refine hp_zeq (t := 34) (pc' := 14) rfl rfl rfl (fun c2 => ?_) (fun c2 => ?_)
  · refine hp_ic (pc' := 35) (x := 0) rfl rfl rfl ?_
    refine hp_rb rfl rfl (by decide) ?_
    exact ⟨_, rfl, by omega, by omega⟩
  · refine hp_il (pc' := 15) (j := 2) (Or.inr ⟨2, rfl, rfl, rfl⟩) rfl ?_
    refine hp_ic (pc' := 16) (x := 0) rfl rfl rfl ?_
    refine hp_al (pc' := 17) (j := 0) (Or.inr ⟨0, rfl, rfl, rfl⟩) rfl ?_
    refine hp_gr (pc' := 20) ha (hM.2.1 229 4 234 rfl) rfl rfl rfl rfl ?_
    refine hp_il (pc' := 21) (j := 1) (Or.inr ⟨1, rfl, rfl, rfl⟩) rfl ?_
    refine hp_ld (pc' := 22) (j := D) ha h1 (by omega) rfl rfl rfl ?_
    refine hp_il (pc' := 23) (j := 3) (Or.inr ⟨3, rfl, rfl, rfl⟩) rfl ?_
    refine hp_sub (pc' := 24) rfl rfl (fun z3 hz3 => ?_)
    have hq1 := qr1.2.mp (by assumption)
    have yz3 : z3.toInt = (M.1 234 D).toInt - x3.toInt := by rw [hz3, ax_sub (by omega) (by omega)]
    refine hp_cs (Q := fun o => ∃ r : Int32, o = (some (.int r), a, M) ∧ (r.toInt = 0 ∨ r.toInt = 1) ∧ (r.toInt ≠ 0 ↔ (((0 : Int32) : Int32).toInt ≤ (x2 : Int32).toInt ∧ (x2 : Int32).toInt ≤ (z3 : Int32).toInt))) (pc' := 27) (e := d) (vs := [.int x2, .int (0 : Int32), .int z3]) (r := []) rfl rfl (Or.inr rfl) rfl rfl rfl rfl rfl wi_ok (fun o ho => ?_)
    obtain ⟨r4, eo, qr4⟩ := ho
    subst eo
    refine ⟨_, rfl, ?_⟩
    show hp X (d + 1) 103 27 [some (.ref 229), some (.int x1), some (.int x2), some (.int x3)] [.int r4] a M _
    refine hp_zeq (t := 34) (pc' := 30) rfl rfl rfl (fun c5 => ?_) (fun c5 => ?_)
    · refine hp_ic (pc' := 35) (x := 0) rfl rfl rfl ?_
      refine hp_rb rfl rfl (by decide) ?_
      exact ⟨_, rfl, by omega, by omega⟩
    · refine hp_ic (pc' := 31) (x := 1) rfl rfl rfl ?_
      refine hp_go (t := 35) rfl rfl ?_
      refine hp_rb rfl rfl (by decide) ?_
      exact ⟨_, rfl, by omega, by omega⟩
theorem xcq_ok (ha : a.1 = rx_cells) (hM : ax_J0 ax_sp ax_rf M) : hp X (d + 2) 141 0 [some (.ref 0), some (.int x1), some (.int x2), some (.int x3), some (.int x4), some (.int x5)] [] a M (cq_Q cq_Xx 230 233 234 x1 x2 x3 x4 x5 a M) := by
  have z0 : (0 : Int32).toInt = 0 := rfl
  have z8 : (8 : Int32).toInt = 8 := rfl
  have z2 : (2 : Int32).toInt = 2 := rfl
  have m1 : (-1 : Int32).toInt = -1 := rfl
  have m11 : (-11 : Int32).toInt = -11 := rfl
  have m12 : (-12 : Int32).toInt = -12 := rfl
  have m13 : (-13 : Int32).toInt = -13 := rfl
  refine hp_il (pc' := 1) (j := 1) (Or.inr ⟨1, rfl, rfl, rfl⟩) rfl ?_
  refine hp_bi (pc' := 3) (x := 8) rfl rfl rfl ?_
  refine hp_cs (Q := fun o => ∃ r : Int32, o = (some (.int r), a, M) ∧ (r.toInt = 0 ∨ r.toInt = 1) ∧ (r.toInt ≠ 0 ↔ (0 ≤ (x1 : Int32).toInt ∧ (x1 : Int32).toInt < ((8 : Int32) : Int32).toInt))) (pc' := 6) (e := (d + 1)) (vs := [.int x1, .int (8 : Int32)]) (r := []) rfl rfl (Or.inl rfl) rfl rfl rfl rfl rfl bl_ok (fun o ho => ?_)
  obtain ⟨r1, eo, qr1⟩ := ho
  subst eo
  refine ⟨_, rfl, ?_⟩
  show hp X ((d + 1) + 1) 141 6 [some (.ref 0), some (.int x1), some (.int x2), some (.int x3), some (.int x4), some (.int x5)] [.int r1] a M _
  refine hp_zeq (t := 18) (pc' := 9) rfl rfl rfl (fun c2 => ?_) (fun c2 => ?_)
  · refine hp_ic (pc' := 19) (x := (-1)) rfl rfl rfl ?_
    refine hp_ri rfl rfl ?_
    exact ⟨_, M, rfl, cp_F0 M, by
        unfold cp_v
        repeat' split
        all_goals omega, Or.inl ⟨by omega, rfl⟩⟩
  · refine hp_il (pc' := 10) (j := 3) (Or.inr ⟨3, rfl, rfl, rfl⟩) rfl ?_
    refine hp_bi (pc' := 12) (x := 8) rfl rfl rfl ?_
    refine hp_cs (Q := fun o => ∃ r : Int32, o = (some (.int r), a, M) ∧ (r.toInt = 0 ∨ r.toInt = 1) ∧ (r.toInt ≠ 0 ↔ (0 ≤ (x3 : Int32).toInt ∧ (x3 : Int32).toInt < ((8 : Int32) : Int32).toInt))) (pc' := 15) (e := (d + 1)) (vs := [.int x3, .int (8 : Int32)]) (r := []) rfl rfl (Or.inl rfl) rfl rfl rfl rfl rfl bl_ok (fun o ho => ?_)
    obtain ⟨r3, eo, qr3⟩ := ho
    subst eo
    refine ⟨_, rfl, ?_⟩
    show hp X ((d + 1) + 1) 141 15 [some (.ref 0), some (.int x1), some (.int x2), some (.int x3), some (.int x4), some (.int x5)] [.int r3] a M _
    refine hp_zne (t := 20) (pc' := 18) rfl rfl rfl (fun c4 => ?_) (fun c4 => ?_)
    · have hq1 := qr1.2.mp (by assumption)
      have hq2 := qr3.2.mp (by assumption)
      obtain ⟨D, hD, hD8⟩ : ∃ D : Nat, x1.toInt = (D : Int) ∧ D < 8 := ⟨x1.toInt.toNat, by omega, by omega⟩
      obtain ⟨G, hG, hG8⟩ : ∃ G : Nat, x3.toInt = (G : Int) ∧ G < 8 := ⟨x3.toInt.toNat, by omega, by omega⟩
      have eD : x1.toInt.toNat = D := by omega
      have eG : x3.toInt.toNat = G := by omega
      have bz : 0 ≤ (M.1 234 D).toInt ∧ (M.1 234 D).toInt ≤ 80 := hM.1 234 D
      have bg : 0 ≤ (M.1 234 G).toInt ∧ (M.1 234 G).toInt ≤ 80 := hM.1 234 G
      refine hp_al (pc' := 21) (j := 0) (Or.inr ⟨0, rfl, rfl, rfl⟩) rfl ?_
      refine hp_gr (pc' := 24) ha (hM.2.1 0 8 229 rfl) rfl rfl rfl rfl ?_
      refine hp_gr (pc' := 27) ha (hM.2.1 229 0 230 rfl) rfl rfl rfl rfl ?_
      refine hp_il (pc' := 28) (j := 1) (Or.inr ⟨1, rfl, rfl, rfl⟩) rfl ?_
      refine hp_ld (pc' := 29) (j := D) ha hD (by omega) rfl rfl rfl ?_
      refine hp_zeq (t := 44) (pc' := 32) rfl rfl rfl (fun c5 => ?_) (fun c5 => ?_)
      · refine hp_bi (pc' := 46) (x := (-11)) rfl rfl rfl ?_
        refine hp_ri rfl rfl ?_
        exact ⟨_, M, rfl, cp_F0 M, by
            rw [eD, eG]
            unfold cp_v
            repeat' split
            all_goals omega, Or.inl ⟨by omega, rfl⟩⟩
      · refine hp_al (pc' := 33) (j := 0) (Or.inr ⟨0, rfl, rfl, rfl⟩) rfl ?_
        refine hp_gr (pc' := 36) ha (hM.2.1 0 8 229 rfl) rfl rfl rfl rfl ?_
        refine hp_gr (pc' := 39) ha (hM.2.1 229 0 230 rfl) rfl rfl rfl rfl ?_
        refine hp_il (pc' := 40) (j := 3) (Or.inr ⟨3, rfl, rfl, rfl⟩) rfl ?_
        refine hp_ld (pc' := 41) (j := G) ha hG (by omega) rfl rfl rfl ?_
        refine hp_zne (t := 47) (pc' := 44) rfl rfl rfl (fun c6 => ?_) (fun c6 => ?_)
        · refine hp_al (pc' := 48) (j := 0) (Or.inr ⟨0, rfl, rfl, rfl⟩) rfl ?_
          refine hp_gr (pc' := 51) ha (hM.2.1 0 8 229 rfl) rfl rfl rfl rfl ?_
          refine hp_gr (pc' := 54) ha (hM.2.1 229 0 230 rfl) rfl rfl rfl rfl ?_
          refine hp_il (pc' := 55) (j := 1) (Or.inr ⟨1, rfl, rfl, rfl⟩) rfl ?_
          refine hp_ld (pc' := 56) (j := D) ha hD (by omega) rfl rfl rfl ?_
          refine hp_ic (pc' := 57) (x := 2) rfl rfl rfl ?_
          refine hp_ine (t := 94) (pc' := 60) rfl rfl rfl (fun c7 => ?_) (fun c7 => ?_)
          · refine hp_bi (pc' := 96) (x := (-12)) rfl rfl rfl ?_
            refine hp_ri rfl rfl ?_
            exact ⟨_, M, rfl, cp_F0 M, by
                rw [eD, eG]
                unfold cp_v
                repeat' split
                all_goals omega, Or.inl ⟨by omega, rfl⟩⟩
          · refine hp_al (pc' := 61) (j := 0) (Or.inr ⟨0, rfl, rfl, rfl⟩) rfl ?_
            refine hp_gr (pc' := 64) ha (hM.2.1 0 8 229 rfl) rfl rfl rfl rfl ?_
            refine hp_gr (pc' := 67) ha (hM.2.1 229 0 230 rfl) rfl rfl rfl rfl ?_
            refine hp_il (pc' := 68) (j := 3) (Or.inr ⟨3, rfl, rfl, rfl⟩) rfl ?_
            refine hp_ld (pc' := 69) (j := G) ha hG (by omega) rfl rfl rfl ?_
            refine hp_ic (pc' := 70) (x := 2) rfl rfl rfl ?_
            refine hp_ine (t := 94) (pc' := 73) rfl rfl rfl (fun c8 => ?_) (fun c8 => ?_)
            · refine hp_bi (pc' := 96) (x := (-12)) rfl rfl rfl ?_
              refine hp_ri rfl rfl ?_
              exact ⟨_, M, rfl, cp_F0 M, by
                  rw [eD, eG]
                  unfold cp_v
                  repeat' split
                  all_goals omega, Or.inl ⟨by omega, rfl⟩⟩
            · refine hp_al (pc' := 74) (j := 0) (Or.inr ⟨0, rfl, rfl, rfl⟩) rfl ?_
              refine hp_gr (pc' := 77) ha (hM.2.1 0 8 229 rfl) rfl rfl rfl rfl ?_
              refine hp_gr (pc' := 80) ha (hM.2.1 229 3 233 rfl) rfl rfl rfl rfl ?_
              refine hp_il (pc' := 81) (j := 1) (Or.inr ⟨1, rfl, rfl, rfl⟩) rfl ?_
              refine hp_ld (pc' := 82) (j := D) ha hD (by omega) rfl rfl rfl ?_
              refine hp_al (pc' := 83) (j := 0) (Or.inr ⟨0, rfl, rfl, rfl⟩) rfl ?_
              refine hp_gr (pc' := 86) ha (hM.2.1 0 8 229 rfl) rfl rfl rfl rfl ?_
              refine hp_gr (pc' := 89) ha (hM.2.1 229 3 233 rfl) rfl rfl rfl rfl ?_
              refine hp_il (pc' := 90) (j := 3) (Or.inr ⟨3, rfl, rfl, rfl⟩) rfl ?_
              refine hp_ld (pc' := 91) (j := G) ha hG (by omega) rfl rfl rfl ?_
              refine hp_ieq (t := 97) (pc' := 94) rfl rfl rfl (fun c9 => ?_) (fun c9 => ?_)
              · refine hp_al (pc' := 98) (j := 0) (Or.inr ⟨0, rfl, rfl, rfl⟩) rfl ?_
                refine hp_gr (pc' := 101) ha (hM.2.1 0 8 229 rfl) rfl rfl rfl rfl ?_
                refine hp_il (pc' := 102) (j := 1) (Or.inr ⟨1, rfl, rfl, rfl⟩) rfl ?_
                refine hp_il (pc' := 103) (j := 2) (Or.inr ⟨2, rfl, rfl, rfl⟩) rfl ?_
                refine hp_il (pc' := 105) (j := 5) (Or.inl ⟨rfl, rfl⟩) rfl ?_
                refine hp_cx (q := 229) (Q := fun o => ∃ r : Int32, o = (some (.int r), a, M) ∧ (r.toInt = 0 ∨ r.toInt = 1) ∧ (r.toInt ≠ 0 ↔ (0 ≤ (x5 : Int32).toInt ∧ (x5 : Int32).toInt ≤ (M.1 234 D).toInt ∧ 0 ≤ (x2 : Int32).toInt ∧ (x2 : Int32).toInt + (x5 : Int32).toInt ≤ (M.1 234 D).toInt))) (pc' := 108) (e := (d + 1)) (vs := [.int x1, .int x2, .int x5]) (r := []) ha rfl rfl rfl rfl rfl rfl rfl rfl (ph_ok (d := d) ha hM hD hD8) (fun o ho => ?_)
                obtain ⟨r10, eo, qr10⟩ := ho
                subst eo
                refine ⟨_, rfl, ?_⟩
                show hp X ((d + 1) + 1) 141 108 [some (.ref 0), some (.int x1), some (.int x2), some (.int x3), some (.int x4), some (.int x5)] [.int r10] a M _
                refine hp_zeq (t := 126) (pc' := 111) rfl rfl rfl (fun c11 => ?_) (fun c11 => ?_)
                · refine hp_bi (pc' := 128) (x := (-13)) rfl rfl rfl ?_
                  refine hp_ri rfl rfl ?_
                  exact ⟨_, M, rfl, cp_F0 M, by
                      rw [eD, eG]
                      unfold cp_v
                      repeat' split
                      all_goals omega, Or.inl ⟨by omega, rfl⟩⟩
                · refine hp_al (pc' := 112) (j := 0) (Or.inr ⟨0, rfl, rfl, rfl⟩) rfl ?_
                  refine hp_gr (pc' := 115) ha (hM.2.1 0 8 229 rfl) rfl rfl rfl rfl ?_
                  refine hp_il (pc' := 116) (j := 3) (Or.inr ⟨3, rfl, rfl, rfl⟩) rfl ?_
                  refine hp_il (pc' := 118) (j := 4) (Or.inl ⟨rfl, rfl⟩) rfl ?_
                  refine hp_il (pc' := 120) (j := 5) (Or.inl ⟨rfl, rfl⟩) rfl ?_
                  refine hp_cx (q := 229) (Q := fun o => ∃ r : Int32, o = (some (.int r), a, M) ∧ (r.toInt = 0 ∨ r.toInt = 1) ∧ (r.toInt ≠ 0 ↔ (0 ≤ (x5 : Int32).toInt ∧ (x5 : Int32).toInt ≤ (M.1 234 G).toInt ∧ 0 ≤ (x4 : Int32).toInt ∧ (x4 : Int32).toInt + (x5 : Int32).toInt ≤ (M.1 234 G).toInt))) (pc' := 123) (e := (d + 1)) (vs := [.int x3, .int x4, .int x5]) (r := []) ha rfl rfl rfl rfl rfl rfl rfl rfl (ph_ok (d := d) ha hM hG hG8) (fun o ho => ?_)
                  obtain ⟨r12, eo, qr12⟩ := ho
                  subst eo
                  refine ⟨_, rfl, ?_⟩
                  show hp X ((d + 1) + 1) 141 123 [some (.ref 0), some (.int x1), some (.int x2), some (.int x3), some (.int x4), some (.int x5)] [.int r12] a M _
                  refine hp_zne (t := 129) (pc' := 126) rfl rfl rfl (fun c13 => ?_) (fun c13 => ?_)
                  · refine hp_al (pc' := 130) (j := 0) (Or.inr ⟨0, rfl, rfl, rfl⟩) rfl ?_
                    refine hp_gr (pc' := 133) ha (hM.2.1 0 8 229 rfl) rfl rfl rfl rfl ?_
                    refine hp_gr (pc' := 136) ha (hM.2.1 229 5 235 rfl) rfl rfl rfl rfl ?_
                    refine hp_il (pc' := 137) (j := 1) (Or.inr ⟨1, rfl, rfl, rfl⟩) rfl ?_
                    refine hp_aal (pc' := 138) (j := D) ha (hM.2.1 235 D (236 + D) (rw_rf (by omega))) hD (by omega) rfl rfl rfl ?_
                    refine hp_il (pc' := 139) (j := 2) (Or.inr ⟨2, rfl, rfl, rfl⟩) rfl ?_
                    refine hp_al (pc' := 140) (j := 0) (Or.inr ⟨0, rfl, rfl, rfl⟩) rfl ?_
                    refine hp_gr (pc' := 143) ha (hM.2.1 0 8 229 rfl) rfl rfl rfl rfl ?_
                    refine hp_gr (pc' := 146) ha (hM.2.1 229 5 235 rfl) rfl rfl rfl rfl ?_
                    refine hp_il (pc' := 147) (j := 3) (Or.inr ⟨3, rfl, rfl, rfl⟩) rfl ?_
                    refine hp_aal (pc' := 148) (j := G) ha (hM.2.1 235 G (236 + G) (rw_rf (by omega))) hG (by omega) rfl rfl rfl ?_
                    refine hp_il (pc' := 150) (j := 4) (Or.inl ⟨rfl, rfl⟩) rfl ?_
                    refine hp_il (pc' := 152) (j := 5) (Or.inl ⟨rfl, rfl⟩) rfl ?_
                    have hh1 := qr10.2.mp (by assumption)
                    have hh2 := qr12.2.mp (by assumption)
                    refine hp_ac (pc' := 155) (s := x2.toInt.toNat) (t := x4.toInt.toNat) (m := x5.toInt.toNat) ha rfl rfl (rw_lay hD8) (rw_lay hG8) (by omega) (by omega) (by omega) (by omega) (by omega) rfl rfl (fun M14 eM14 gM14 => ?_)
                    refine hp_il (pc' := 157) (j := 5) (Or.inl ⟨rfl, rfl⟩) rfl ?_
                    refine hp_ri rfl rfl ?_
                    exact ⟨_, M14, rfl, ⟨gM14, fun q j hq => by
                        rw [eM14]
                        unfold rx_cp
                        rw [if_neg (by omega)]⟩, by
                        rw [eD, eG]
                        unfold cp_v
                        repeat' split
                        all_goals omega, Or.inr ⟨by omega, ⟨⟨⟨by omega, by omega⟩, by omega, by omega⟩, ⟨by omega, by omega, by omega⟩, by omega, by omega⟩, by
                        rw [eD, eG]
                        refine ⟨fun j hj => ?_, fun p j hp => ?_⟩
                        · rw [eM14]
                          unfold rx_cp va_cpy
                          rw [if_pos rfl, if_pos ⟨by omega, by omega⟩, show x4.toInt.toNat + j - x4.toInt.toNat = j by omega]
                        · rw [eM14]
                          unfold rx_cp va_cpy
                          by_cases w : p = 236 + G
                          · rw [if_pos w, if_neg (by omega), w]
                          · rw [if_neg w]⟩⟩
                  · refine hp_bi (pc' := 128) (x := (-13)) rfl rfl rfl ?_
                    refine hp_ri rfl rfl ?_
                    exact ⟨_, M, rfl, cp_F0 M, by
                        rw [eD, eG]
                        unfold cp_v
                        repeat' split
                        all_goals omega, Or.inl ⟨by omega, rfl⟩⟩
              · refine hp_bi (pc' := 96) (x := (-12)) rfl rfl rfl ?_
                refine hp_ri rfl rfl ?_
                exact ⟨_, M, rfl, cp_F0 M, by
                    rw [eD, eG]
                    unfold cp_v
                    repeat' split
                    all_goals omega, Or.inl ⟨by omega, rfl⟩⟩
        · refine hp_bi (pc' := 46) (x := (-11)) rfl rfl rfl ?_
          refine hp_ri rfl rfl ?_
          exact ⟨_, M, rfl, cp_F0 M, by
              rw [eD, eG]
              unfold cp_v
              repeat' split
              all_goals omega, Or.inl ⟨by omega, rfl⟩⟩
    · refine hp_ic (pc' := 19) (x := (-1)) rfl rfl rfl ?_
      refine hp_ri rfl rfl ?_
      exact ⟨_, M, rfl, cp_F0 M, by
          unfold cp_v
          repeat' split
          all_goals omega, Or.inl ⟨by omega, rfl⟩⟩
theorem mcq_ok (ha : a.1 = rx_cells) (hM : ax_J0 ax_sp ax_rf M) : hp X (d + 2) 242 0 [some (.ref 244), some (.int x1), some (.int x2), some (.int x3), some (.int x4), some (.int x5), none] [] a M (cq_Q cq_Xm 283 285 286 x1 x2 x3 x4 x5 a M) := by
  have r5 := ax_range x5
  have z0 : (0 : Int32).toInt = 0 := rfl
  have z2 : (2 : Int32).toInt = 2 := rfl
  have m1 : (-1 : Int32).toInt = -1 := rfl
  have m11 : (-11 : Int32).toInt = -11 := rfl
  have m12 : (-12 : Int32).toInt = -12 := rfl
  have m13 : (-13 : Int32).toInt = -13 := rfl
  refine hp_al (pc' := 1) (j := 0) (Or.inr ⟨0, rfl, rfl, rfl⟩) rfl ?_
  refine hp_il (pc' := 2) (j := 1) (Or.inr ⟨1, rfl, rfl, rfl⟩) rfl ?_
  refine hp_cv (Q := fun o => ∃ r : Int32, o = (some (.int r), a, M) ∧ (r.toInt = 0 ∨ r.toInt = 1) ∧ (r.toInt ≠ 0 ↔ (0 ≤ (x1 : Int32).toInt ∧ (x1 : Int32).toInt ≤ 7))) (pc' := 5) (e := (d + 1)) (vs := [.int x1]) (r := []) ha rfl rfl rfl rfl rfl rfl rfl rfl (sh_ok (d := d) ha) (fun o ho => ?_)
  obtain ⟨r1, eo, qr1⟩ := ho
  subst eo
  refine ⟨_, rfl, ?_⟩
  show hp X ((d + 1) + 1) 242 5 [some (.ref 244), some (.int x1), some (.int x2), some (.int x3), some (.int x4), some (.int x5), none] [.int r1] a M _
  refine hp_zeq (t := 16) (pc' := 8) rfl rfl rfl (fun c2 => ?_) (fun c2 => ?_)
  · refine hp_ic (pc' := 17) (x := (-1)) rfl rfl rfl ?_
    refine hp_ri rfl rfl ?_
    exact ⟨_, M, rfl, cp_F0 M, by
        unfold cp_v
        repeat' split
        all_goals omega, Or.inl ⟨by omega, rfl⟩⟩
  · refine hp_al (pc' := 9) (j := 0) (Or.inr ⟨0, rfl, rfl, rfl⟩) rfl ?_
    refine hp_il (pc' := 10) (j := 3) (Or.inr ⟨3, rfl, rfl, rfl⟩) rfl ?_
    refine hp_cv (Q := fun o => ∃ r : Int32, o = (some (.int r), a, M) ∧ (r.toInt = 0 ∨ r.toInt = 1) ∧ (r.toInt ≠ 0 ↔ (0 ≤ (x3 : Int32).toInt ∧ (x3 : Int32).toInt ≤ 7))) (pc' := 13) (e := (d + 1)) (vs := [.int x3]) (r := []) ha rfl rfl rfl rfl rfl rfl rfl rfl (sh_ok (d := d) ha) (fun o ho => ?_)
    obtain ⟨r3, eo, qr3⟩ := ho
    subst eo
    refine ⟨_, rfl, ?_⟩
    show hp X ((d + 1) + 1) 242 13 [some (.ref 244), some (.int x1), some (.int x2), some (.int x3), some (.int x4), some (.int x5), none] [.int r3] a M _
    refine hp_zne (t := 18) (pc' := 16) rfl rfl rfl (fun c4 => ?_) (fun c4 => ?_)
    · have hq1 := qr1.2.mp (by assumption)
      have hq2 := qr3.2.mp (by assumption)
      obtain ⟨D, hD, hD8⟩ : ∃ D : Nat, x1.toInt = (D : Int) ∧ D < 8 := ⟨x1.toInt.toNat, by omega, by omega⟩
      obtain ⟨G, hG, hG8⟩ : ∃ G : Nat, x3.toInt = (G : Int) ∧ G < 8 := ⟨x3.toInt.toNat, by omega, by omega⟩
      have eD : x1.toInt.toNat = D := by omega
      have eG : x3.toInt.toNat = G := by omega
      have bz : 0 ≤ (M.1 286 D).toInt ∧ (M.1 286 D).toInt ≤ 80 := hM.1 286 D
      have bg : 0 ≤ (M.1 286 G).toInt ∧ (M.1 286 G).toInt ≤ 80 := hM.1 286 G
      refine hp_al (pc' := 19) (j := 0) (Or.inr ⟨0, rfl, rfl, rfl⟩) rfl ?_
      refine hp_gr (pc' := 22) ha (hM.2.1 244 50 283 rfl) rfl rfl rfl rfl ?_
      refine hp_il (pc' := 23) (j := 1) (Or.inr ⟨1, rfl, rfl, rfl⟩) rfl ?_
      refine hp_ld (pc' := 24) (j := D) ha hD (by omega) rfl rfl rfl ?_
      refine hp_zeq (t := 36) (pc' := 27) rfl rfl rfl (fun c5 => ?_) (fun c5 => ?_)
      · refine hp_bi (pc' := 38) (x := (-11)) rfl rfl rfl ?_
        refine hp_ri rfl rfl ?_
        exact ⟨_, M, rfl, cp_F0 M, by
            rw [eD, eG]
            unfold cp_v
            repeat' split
            all_goals omega, Or.inl ⟨by omega, rfl⟩⟩
      · refine hp_al (pc' := 28) (j := 0) (Or.inr ⟨0, rfl, rfl, rfl⟩) rfl ?_
        refine hp_gr (pc' := 31) ha (hM.2.1 244 50 283 rfl) rfl rfl rfl rfl ?_
        refine hp_il (pc' := 32) (j := 3) (Or.inr ⟨3, rfl, rfl, rfl⟩) rfl ?_
        refine hp_ld (pc' := 33) (j := G) ha hG (by omega) rfl rfl rfl ?_
        refine hp_zne (t := 39) (pc' := 36) rfl rfl rfl (fun c6 => ?_) (fun c6 => ?_)
        · refine hp_al (pc' := 40) (j := 0) (Or.inr ⟨0, rfl, rfl, rfl⟩) rfl ?_
          refine hp_gr (pc' := 43) ha (hM.2.1 244 50 283 rfl) rfl rfl rfl rfl ?_
          refine hp_il (pc' := 44) (j := 1) (Or.inr ⟨1, rfl, rfl, rfl⟩) rfl ?_
          refine hp_ld (pc' := 45) (j := D) ha hD (by omega) rfl rfl rfl ?_
          refine hp_ic (pc' := 46) (x := 2) rfl rfl rfl ?_
          refine hp_ine (t := 74) (pc' := 49) rfl rfl rfl (fun c7 => ?_) (fun c7 => ?_)
          · refine hp_bi (pc' := 76) (x := (-12)) rfl rfl rfl ?_
            refine hp_ri rfl rfl ?_
            exact ⟨_, M, rfl, cp_F0 M, by
                rw [eD, eG]
                unfold cp_v
                repeat' split
                all_goals omega, Or.inl ⟨by omega, rfl⟩⟩
          · refine hp_al (pc' := 50) (j := 0) (Or.inr ⟨0, rfl, rfl, rfl⟩) rfl ?_
            refine hp_gr (pc' := 53) ha (hM.2.1 244 50 283 rfl) rfl rfl rfl rfl ?_
            refine hp_il (pc' := 54) (j := 3) (Or.inr ⟨3, rfl, rfl, rfl⟩) rfl ?_
            refine hp_ld (pc' := 55) (j := G) ha hG (by omega) rfl rfl rfl ?_
            refine hp_ic (pc' := 56) (x := 2) rfl rfl rfl ?_
            refine hp_ine (t := 74) (pc' := 59) rfl rfl rfl (fun c8 => ?_) (fun c8 => ?_)
            · refine hp_bi (pc' := 76) (x := (-12)) rfl rfl rfl ?_
              refine hp_ri rfl rfl ?_
              exact ⟨_, M, rfl, cp_F0 M, by
                  rw [eD, eG]
                  unfold cp_v
                  repeat' split
                  all_goals omega, Or.inl ⟨by omega, rfl⟩⟩
            · refine hp_al (pc' := 60) (j := 0) (Or.inr ⟨0, rfl, rfl, rfl⟩) rfl ?_
              refine hp_gr (pc' := 63) ha (hM.2.1 244 52 285 rfl) rfl rfl rfl rfl ?_
              refine hp_il (pc' := 64) (j := 1) (Or.inr ⟨1, rfl, rfl, rfl⟩) rfl ?_
              refine hp_ld (pc' := 65) (j := D) ha hD (by omega) rfl rfl rfl ?_
              refine hp_al (pc' := 66) (j := 0) (Or.inr ⟨0, rfl, rfl, rfl⟩) rfl ?_
              refine hp_gr (pc' := 69) ha (hM.2.1 244 52 285 rfl) rfl rfl rfl rfl ?_
              refine hp_il (pc' := 70) (j := 3) (Or.inr ⟨3, rfl, rfl, rfl⟩) rfl ?_
              refine hp_ld (pc' := 71) (j := G) ha hG (by omega) rfl rfl rfl ?_
              refine hp_ieq (t := 77) (pc' := 74) rfl rfl rfl (fun c9 => ?_) (fun c9 => ?_)
              · refine hp_il (pc' := 79) (j := 5) (Or.inl ⟨rfl, rfl⟩) rfl ?_
                refine hp_zlt (t := 118) (pc' := 82) rfl rfl rfl (fun c10 => ?_) (fun c10 => ?_)
                · refine hp_bi (pc' := 120) (x := (-13)) rfl rfl rfl ?_
                  refine hp_ri rfl rfl ?_
                  exact ⟨_, M, rfl, cp_F0 M, by
                      rw [eD, eG]
                      unfold cp_v
                      repeat' split
                      all_goals omega, Or.inl ⟨by omega, rfl⟩⟩
                · refine hp_il (pc' := 83) (j := 2) (Or.inr ⟨2, rfl, rfl, rfl⟩) rfl ?_
                  refine hp_zlt (t := 118) (pc' := 86) rfl rfl rfl (fun c11 => ?_) (fun c11 => ?_)
                  · refine hp_bi (pc' := 120) (x := (-13)) rfl rfl rfl ?_
                    refine hp_ri rfl rfl ?_
                    exact ⟨_, M, rfl, cp_F0 M, by
                        rw [eD, eG]
                        unfold cp_v
                        repeat' split
                        all_goals omega, Or.inl ⟨by omega, rfl⟩⟩
                  · refine hp_il (pc' := 88) (j := 4) (Or.inl ⟨rfl, rfl⟩) rfl ?_
                    refine hp_zlt (t := 118) (pc' := 91) rfl rfl rfl (fun c12 => ?_) (fun c12 => ?_)
                    · refine hp_bi (pc' := 120) (x := (-13)) rfl rfl rfl ?_
                      refine hp_ri rfl rfl ?_
                      exact ⟨_, M, rfl, cp_F0 M, by
                          rw [eD, eG]
                          unfold cp_v
                          repeat' split
                          all_goals omega, Or.inl ⟨by omega, rfl⟩⟩
                    · refine hp_il (pc' := 92) (j := 2) (Or.inr ⟨2, rfl, rfl, rfl⟩) rfl ?_
                      refine hp_al (pc' := 93) (j := 0) (Or.inr ⟨0, rfl, rfl, rfl⟩) rfl ?_
                      refine hp_gr (pc' := 96) ha (hM.2.1 244 53 286 rfl) rfl rfl rfl rfl ?_
                      refine hp_il (pc' := 97) (j := 1) (Or.inr ⟨1, rfl, rfl, rfl⟩) rfl ?_
                      refine hp_ld (pc' := 98) (j := D) ha hD (by omega) rfl rfl rfl ?_
                      refine hp_il (pc' := 100) (j := 5) (Or.inl ⟨rfl, rfl⟩) rfl ?_
                      refine hp_sub (pc' := 101) rfl rfl (fun z13 hz13 => ?_)
                      have yz13 : z13.toInt = (M.1 286 D).toInt - x5.toInt := by rw [hz13, ax_sub (by omega) (by omega)]
                      refine hp_igt (t := 118) (pc' := 104) rfl rfl rfl (fun c14 => ?_) (fun c14 => ?_)
                      · refine hp_bi (pc' := 120) (x := (-13)) rfl rfl rfl ?_
                        refine hp_ri rfl rfl ?_
                        exact ⟨_, M, rfl, cp_F0 M, by
                            rw [eD, eG]
                            unfold cp_v
                            repeat' split
                            all_goals omega, Or.inl ⟨by omega, rfl⟩⟩
                      · refine hp_il (pc' := 106) (j := 4) (Or.inl ⟨rfl, rfl⟩) rfl ?_
                        refine hp_al (pc' := 107) (j := 0) (Or.inr ⟨0, rfl, rfl, rfl⟩) rfl ?_
                        refine hp_gr (pc' := 110) ha (hM.2.1 244 53 286 rfl) rfl rfl rfl rfl ?_
                        refine hp_il (pc' := 111) (j := 3) (Or.inr ⟨3, rfl, rfl, rfl⟩) rfl ?_
                        refine hp_ld (pc' := 112) (j := G) ha hG (by omega) rfl rfl rfl ?_
                        refine hp_il (pc' := 114) (j := 5) (Or.inl ⟨rfl, rfl⟩) rfl ?_
                        refine hp_sub (pc' := 115) rfl rfl (fun z15 hz15 => ?_)
                        have yz15 : z15.toInt = (M.1 286 G).toInt - x5.toInt := by rw [hz15, ax_sub (by omega) (by omega)]
                        refine hp_ile (t := 121) (pc' := 118) rfl rfl rfl (fun c16 => ?_) (fun c16 => ?_)
                        · refine hp_ic (pc' := 122) (x := 0) rfl rfl rfl ?_
                          refine hp_is (pc' := 124) (j := 6) (ls' := [some (.ref 244), some (.int x1), some (.int x2), some (.int x3), some (.int x4), some (.int x5), some (.int (0 : Int32))]) (Or.inl ⟨rfl, rfl⟩) (by simp) rfl ?_
                          have k0 : M.2.1 244 54 = some 287 ∧ M.2.1 244 56 = some 289 := ⟨hM.2.1 _ _ _ rfl, hM.2.1 _ _ _ rfl⟩
                          refine cz_124 (I := x2.toInt.toNat) (n := x5.toInt.toNat) ha k0 hD hD8 (by omega) (by omega) (by omega) x5.toInt.toNat 0 _ M (by omega) rfl (cz_Z0 _ _ _ _) (fun y M1 hy hM1 => ?_)
                          refine hp_ic (pc' := 159) (x := 0) rfl rfl rfl ?_
                          refine hp_is (pc' := 161) (j := 6) (ls' := [some (.ref 244), some (.int x1), some (.int x2), some (.int x3), some (.int x4), some (.int x5), some (.int (0 : Int32))]) (Or.inl ⟨rfl, rfl⟩) (by simp) rfl ?_
                          have k1 : M1.2.1 244 54 = some 287 ∧ M1.2.1 244 56 = some 289 := by
                            rw [hM1.1]
                            exact k0
                          refine cz_161 (J := x4.toInt.toNat) (n := x5.toInt.toNat) ha k1 hG hG8 (by omega) (by omega) (by omega) x5.toInt.toNat 0 _ M1 (by omega) rfl (cz_Z0 _ _ _ _) (fun y2 M2 hy2 hM2 => ?_)
                          refine hp_il (pc' := 198) (j := 5) (Or.inl ⟨rfl, rfl⟩) rfl ?_
                          refine hp_ri rfl rfl ?_
                          exact ⟨_, M2, rfl, ⟨hM2.1.trans hM1.1, fun q j hq => (hM2.2.2 q j (by omega)).trans (hM1.2.2 q j (by omega))⟩, by
                              rw [eD, eG]
                              unfold cp_v
                              repeat' split
                              all_goals omega, Or.inr ⟨by omega, ⟨⟨⟨by omega, by omega⟩, by omega, by omega⟩, ⟨by omega, by omega, by omega⟩, by omega, by omega⟩, by
                            rw [eD, eG]
                            refine ⟨fun j hj => ?_, fun p j h9 hp => ?_⟩
                            · have e1 : M2.1 287 (80 * G + x4.toInt.toNat + j) = M1.1 289 j := hM2.2.1 j hj
                              have e2 : M1.1 289 (0 + j) = M.1 287 (80 * D + x2.toInt.toNat + j) := hM1.2.1 j hj
                              rw [Nat.zero_add] at e2
                              exact e1.trans e2
                            · exact (hM2.2.2 p j (by omega)).trans (hM1.2.2 p j (by omega))⟩⟩
                        · refine hp_bi (pc' := 120) (x := (-13)) rfl rfl rfl ?_
                          refine hp_ri rfl rfl ?_
                          exact ⟨_, M, rfl, cp_F0 M, by
                              rw [eD, eG]
                              unfold cp_v
                              repeat' split
                              all_goals omega, Or.inl ⟨by omega, rfl⟩⟩
              · refine hp_bi (pc' := 76) (x := (-12)) rfl rfl rfl ?_
                refine hp_ri rfl rfl ?_
                exact ⟨_, M, rfl, cp_F0 M, by
                    rw [eD, eG]
                    unfold cp_v
                    repeat' split
                    all_goals omega, Or.inl ⟨by omega, rfl⟩⟩
        · refine hp_bi (pc' := 38) (x := (-11)) rfl rfl rfl ?_
          refine hp_ri rfl rfl ?_
          exact ⟨_, M, rfl, cp_F0 M, by
              rw [eD, eG]
              unfold cp_v
              repeat' split
              all_goals omega, Or.inl ⟨by omega, rfl⟩⟩
    · refine hp_ic (pc' := 17) (x := (-1)) rfl rfl rfl ?_
      refine hp_ri rfl rfl ?_
      exact ⟨_, M, rfl, cp_F0 M, by
          unfold cp_v
          repeat' split
          all_goals omega, Or.inl ⟨by omega, rfl⟩⟩
end CQ2
