/-! the law ends with 1, for every script of at most six ints: of the abstract machine -/
noncomputable def sx_V (xs : Nat → Int32) : Nat → Int32 := fun k => if k < 6 then xs k else if k = 6 then xs 0 &&& 63 else if k ≤ 11 then xs (k - 6) / 13 else if k ≤ 16 then xs (k - 11) / 13 - xs (k - 11) / 13 / 4 * 4 else 0
theorem sx_V_lt {xs : Nat → Int32} {k : Nat} (h : k < 6) : sx_V xs k = xs k := if_pos h
theorem sx_V_val (xs : Nat → Int32) : sx_val (sx_V xs) := by
  have e2 : ∀ k, 1 ≤ k → k ≤ 5 → sx_V xs (k + 6) = xs k / 13 := fun k h1 h2 => by
    unfold sx_V
    rw [if_neg (by omega : ¬ k + 6 < 6), if_neg (by omega : ¬ k + 6 = 6), if_pos (by omega : k + 6 ≤ 11), show k + 6 - 6 = k by omega]
  refine ⟨?_, fun k h1 h2 => ?_, fun k h1 h2 => ?_⟩
  · rw [sx_V_lt (by decide : 0 < 6)]
    unfold sx_V
    rw [if_neg (by decide), if_pos rfl]
  · rw [e2 k h1 h2, sx_V_lt (by omega)]
  · obtain ⟨j, rfl⟩ : ∃ j, k = j + 6 := ⟨k - 6, by omega⟩
    rw [e2 j (by omega) (by omega)]
    unfold sx_V
    rw [if_neg (by omega : ¬ j + 6 + 5 < 6), if_neg (by omega : ¬ j + 6 + 5 = 6), if_neg (by omega : ¬ j + 6 + 5 ≤ 11), if_pos (by omega : j + 6 + 5 ≤ 16), show j + 6 + 5 - 11 = j by omega]
theorem sx_full_ok (x : Int32) : sx_full.1 ≤ x.toInt ∧ x.toInt ≤ sx_full.2 := by
  have h1 := Int32.le_toInt x
  have h2 := Int32.toInt_lt x
  show (-2147483648 : Int) ≤ x.toInt ∧ x.toInt ≤ 2147483647
  omega
theorem sx_E0_ok {v : Nat → Int32} {lo hi : Int} (h : lo ≤ (v 6).toInt ∧ (v 6).toInt ≤ hi) : sx_ok v (sx_E0 lo hi) := fun k => match k with
  | 0 => sx_full_ok _
  | 1 => sx_full_ok _
  | 2 => sx_full_ok _
  | 3 => sx_full_ok _
  | 4 => sx_full_ok _
  | 5 => sx_full_ok _
  | 6 => h
  | _ + 7 => sx_full_ok _
theorem sx_E3_ok {v : Nat → Int32} {lo hi : Int} (h1 : lo ≤ (v 1).toInt ∧ (v 1).toInt ≤ hi) (h : (v 6).toInt = 3) : sx_ok v (sx_E3 lo hi) := fun k => match k with
  | 0 => sx_full_ok _
  | 1 => h1
  | 2 => sx_full_ok _
  | 3 => sx_full_ok _
  | 4 => sx_full_ok _
  | 5 => sx_full_ok _
  | 6 => ⟨Int.le_of_eq h.symm, Int.le_of_eq h⟩
  | _ + 7 => sx_full_ok _
theorem sx_and63 (x : Int32) : 0 ≤ (x &&& 63).toInt ∧ (x &&& 63).toInt ≤ 63 := by
  have e : (x &&& 63).toInt = (x.toBitVec &&& 63#32).toInt := rfl
  have h : (x.toBitVec &&& 63#32).toNat ≤ 63 := by
    rw [BitVec.toNat_and]
    exact Nat.and_le_right
  rw [e, BitVec.toInt_eq_toNat_cond]
  split <;> omega
noncomputable def rx_M0 : rx_M := (fun _ _ => 0, fun _ _ => none, fun _ _ => 0)
theorem sx_R0_ok {L : Nat} {xs : Nat → Int32} (hL : L ≤ 6) {E : sx_E} (hE : sx_ok (sx_V xs) E) (h : sx_R0 L E = true) : ∃ f o, rx_go (L, xs) f 40 249 (rx_ent 249 [.ref rx_scr] (0, 0, 0) rx_M0) = some o ∧ sx_P o := by
  obtain ⟨f, o, k1, k2⟩ := sx_run_ok (X := (L, xs)) (v := sx_V xs) (sx_V_val xs) rfl (fun j hj => (sx_V_lt (Nat.lt_of_lt_of_le hj hL)).symm) 100000 E 40 [] 249 0 _ [] (0, 0, 0) ([], []) hE h
  exact ⟨f, o, k1, k2⟩
theorem sx_ks (k : Int) (h0 : 0 ≤ k) (h1 : k < 38) (h3 : k ≠ 3) : sx_R0 6 (sx_E0 k k) = true := by
  have h : k = 0 ∨ k = 1 ∨ k = 2 ∨ k = 4 ∨ k = 5 ∨ k = 6 ∨ k = 7 ∨ k = 8 ∨ k = 9 ∨ k = 10 ∨ k = 11 ∨ k = 12 ∨ k = 13 ∨ k = 14 ∨ k = 15 ∨ k = 16 ∨ k = 17 ∨ k = 18 ∨ k = 19 ∨ k = 20 ∨ k = 21 ∨ k = 22 ∨ k = 23 ∨ k = 24 ∨ k = 25 ∨ k = 26 ∨ k = 27 ∨ k = 28 ∨ k = 29 ∨ k = 30 ∨ k = 31 ∨ k = 32 ∨ k = 33 ∨ k = 34 ∨ k = 35 ∨ k = 36 ∨ k = 37 := by omega
  rcases h with rfl | rfl | rfl | rfl | rfl | rfl | rfl | rfl | rfl | rfl | rfl | rfl | rfl | rfl | rfl | rfl | rfl | rfl | rfl | rfl | rfl | rfl | rfl | rfl | rfl | rfl | rfl | rfl | rfl | rfl | rfl | rfl | rfl | rfl | rfl | rfl | rfl
  · exact sx_t0
  · exact sx_t1
  · exact sx_t2
  · exact sx_t4
  · exact sx_t5
  · exact sx_t6
  · exact sx_t7
  · exact sx_t8
  · exact sx_t9
  · exact sx_t10
  · exact sx_t11
  · exact sx_t12
  · exact sx_t13
  · exact sx_t14
  · exact sx_t15
  · exact sx_t16
  · exact sx_t17
  · exact sx_t18
  · exact sx_t19
  · exact sx_t20
  · exact sx_t21
  · exact sx_t22
  · exact sx_t23
  · exact sx_t24
  · exact sx_t25
  · exact sx_t26
  · exact sx_t27
  · exact sx_t28
  · exact sx_t29
  · exact sx_t30
  · exact sx_t31
  · exact sx_t32
  · exact sx_t33
  · exact sx_t34
  · exact sx_t35
  · exact sx_t36
  · exact sx_t37
theorem sx_pure (L : Nat) (xs : Nat → Int32) (hL : L ≤ 6) : ∃ f o, rx_go (L, xs) f 40 249 (rx_ent 249 [.ref rx_scr] (0, 0, 0) rx_M0) = some o ∧ sx_P o := by
  have h6 := sx_and63 (xs 0)
  have e6 : sx_V xs 6 = xs 0 &&& 63 := by
    have := (sx_V_val xs).1
    rw [sx_V_lt (by decide : 0 < 6)] at this
    exact this
  rw [← e6] at h6
  by_cases h : L = 6
  · subst h
    by_cases h38 : (sx_V xs 6).toInt < 38
    · by_cases h3 : (sx_V xs 6).toInt = 3
      · have g := sx_full_ok (sx_V xs 1)
        have gl : -2147483648 ≤ (sx_V xs 1).toInt := g.1
        have gh : (sx_V xs 1).toInt ≤ 2147483647 := g.2
        by_cases a0 : (sx_V xs 1).toInt < 0
        · exact sx_R0_ok hL (sx_E3_ok ⟨gl, by omega⟩ h3) sx_t3n
        · by_cases a6 : 6 ≤ (sx_V xs 1).toInt
          · exact sx_R0_ok hL (sx_E3_ok ⟨a6, gh⟩ h3) sx_t3g
          · have hh : (sx_V xs 1).toInt = 0 ∨ (sx_V xs 1).toInt = 1 ∨ (sx_V xs 1).toInt = 2 ∨ (sx_V xs 1).toInt = 3 ∨ (sx_V xs 1).toInt = 4 ∨ (sx_V xs 1).toInt = 5 := by omega
            rcases hh with e | e | e | e | e | e
            · exact sx_R0_ok hL (sx_E3_ok ⟨Int.le_of_eq e.symm, Int.le_of_eq e⟩ h3) sx_t3_0
            · exact sx_R0_ok hL (sx_E3_ok ⟨Int.le_of_eq e.symm, Int.le_of_eq e⟩ h3) sx_t3_1
            · exact sx_R0_ok hL (sx_E3_ok ⟨Int.le_of_eq e.symm, Int.le_of_eq e⟩ h3) sx_t3_2
            · exact sx_R0_ok hL (sx_E3_ok ⟨Int.le_of_eq e.symm, Int.le_of_eq e⟩ h3) sx_t3_3
            · exact sx_R0_ok hL (sx_E3_ok ⟨Int.le_of_eq e.symm, Int.le_of_eq e⟩ h3) sx_t3_4
            · exact sx_R0_ok hL (sx_E3_ok ⟨Int.le_of_eq e.symm, Int.le_of_eq e⟩ h3) sx_t3_5
      · exact sx_R0_ok hL (sx_E0_ok ⟨Int.le_refl _, Int.le_refl _⟩) (sx_ks _ h6.1 h38 h3)
    · exact sx_R0_ok hL (sx_E0_ok ⟨by omega, h6.2⟩) sx_t38
  · have hh : L = 0 ∨ L = 1 ∨ L = 2 ∨ L = 3 ∨ L = 4 ∨ L = 5 := by omega
    rcases hh with rfl | rfl | rfl | rfl | rfl | rfl
    · exact sx_R0_ok hL (sx_E0_ok h6) sx_u0
    · exact sx_R0_ok hL (sx_E0_ok h6) sx_u1
    · exact sx_R0_ok hL (sx_E0_ok h6) sx_u2
    · exact sx_R0_ok hL (sx_E0_ok h6) sx_u3
    · exact sx_R0_ok hL (sx_E0_ok h6) sx_u4
    · exact sx_R0_ok hL (sx_E0_ok h6) sx_u5
