/-! the reference's close, by hand -/
theorem cl_nd {q j : Nat} (h : 269 < q ∨ (256 < q ∧ q < 259) ∨ (q = 244 ∧ j = 1) ∨ (q = 244 ∧ j = 2)) : ¬ ax_wd ax_w_181 q j := by
  rintro (k | ⟨e, he, k1, k2⟩)
  · unfold ax_wsl at k
    obtain ⟨s, hs, k2⟩ := List.any_eq_true.mp k
    rw [Bool.and_eq_true] at k2
    have e1 := Nat.eq_of_beq_eq_true k2.1
    have e2 := Nat.eq_of_beq_eq_true k2.2
    have hs : s ∈ [(244, 7), (244, 19), (244, 20), (244, 21), (244, 30), (244, 33)] := hs
    simp only [List.mem_cons, List.not_mem_nil, or_false] at hs
    rcases hs with r | r | r | r | r | r <;> (subst r; dsimp only at e1 e2; omega)
  · have he : e ∈ [((249 : Int), (256 : Int)), (259, 269)] := he
    simp only [List.mem_cons, List.not_mem_nil, or_false] at he
    rcases he with r | r <;> (subst r; dsimp only at k1 k2; omega)
theorem cl_wd : ∀ q j, (249 ≤ q ∧ q ≤ 256) ∨ (q = 244 ∧ j = 7) → ax_wd ax_w_181 q j := by
  rintro q j (h | ⟨rfl, rfl⟩)
  · exact Or.inr ⟨(249, 256), List.mem_cons_self, by dsimp only; omega, by dsimp only; omega⟩
  · exact Or.inl (by decide)
theorem cl_w9 (j : Nat) : ax_wd ax_w_181 269 j := Or.inr ⟨(259, 269), List.mem_cons_of_mem _ List.mem_cons_self, by decide, by decide⟩
theorem cl_w33 : ax_wd ax_w_181 244 33 := Or.inl (by decide)
theorem cl_sub : ∀ q j, ax_wd ax_w_158 q j → ax_wd ax_w_181 q j := ax_dsub_ok (by decide)
/-- of what was told as one of the folk: its number -/
noncomputable def cl_m (M : rx_M) (i : Nat) : Nat := (M.1 269 i).toInt.toNat
theorem cl_mo {M : rx_M} {i : Nat} (h : 0 ≤ (M.1 269 i).toInt ∧ (M.1 269 i).toInt ≤ 11) : (M.1 269 i).toInt = (cl_m M i : Int) ∧ cl_m M i < 12 := by
  unfold cl_m
  omega
noncomputable def hr_T (M : rx_M) (n : Nat) : Prop := (∀ i, i < n → 0 ≤ (M.1 269 i).toInt ∧ (M.1 269 i).toInt ≤ 11) ∧ ∀ i j, i < j → j < n → M.1 269 i ≠ M.1 269 j
noncomputable def hr_H (M : rx_M) (k n : Nat) : Prop := k < n ∧ (M.1 269 k).toInt ≤ 11 ∧ hr_T M k
noncomputable def hr_F (Ms M : rx_M) : Prop := ∀ q j, q ≠ 269 → M.1 q j = Ms.1 q j
noncomputable def hr_w : Nat → Int
  | 0 => 3200000
  | 1 => 160000
  | 2 => 8000
  | 3 => 400
  | 4 => 20
  | _ => 1
theorem hr_w1 (k : Nat) : 1 ≤ hr_w k := by
  match k with
  | 0 => decide
  | 1 => decide
  | 2 => decide
  | 3 => decide
  | 4 => decide
  | n + 5 =>
    show (1 : Int) ≤ 1
    decide
theorem hr_w2 {k : Nat} (h : k + 1 ≤ 5) : hr_w k = 20 * hr_w (k + 1) := by
  match k, h with
  | 0, _ => decide
  | 1, _ => decide
  | 2, _ => decide
  | 3, _ => decide
  | 4, _ => decide
noncomputable def hr_mu (M : rx_M) : Nat → Int
  | 0 => (12 - (M.1 269 0).toInt) * hr_w 0
  | k + 1 => hr_mu M k + (12 - (M.1 269 (k + 1)).toInt) * hr_w (k + 1)
theorem hr_mue {M M1 : rx_M} : ∀ k, (∀ i, i ≤ k → M1.1 269 i = M.1 269 i) → hr_mu M1 k = hr_mu M k
  | 0, h => by
    show (12 - (M1.1 269 0).toInt) * hr_w 0 = (12 - (M.1 269 0).toInt) * hr_w 0
    rw [h 0 (Nat.le_refl _)]
  | k + 1, h => by
    show hr_mu M1 k + (12 - (M1.1 269 (k + 1)).toInt) * hr_w (k + 1) = hr_mu M k + (12 - (M.1 269 (k + 1)).toInt) * hr_w (k + 1)
    rw [hr_mue k (fun i hi => h i (by omega)), h (k + 1) (Nat.le_refl _)]
theorem hr_mua {M M1 : rx_M} {z : Int32} : ∀ k, M1.1 = rx_up M.1 269 k z → z.toInt = (M.1 269 k).toInt + 1 → hr_mu M1 k + hr_w k = hr_mu M k
  | 0, e, hz => by
    show (12 - (M1.1 269 0).toInt) * hr_w 0 + hr_w 0 = (12 - (M.1 269 0).toInt) * hr_w 0
    rw [e, hp_up_eq, hz, show (12 : Int) - ((M.1 269 0).toInt + 1) = (12 - (M.1 269 0).toInt) - 1 by omega, Int.sub_mul, Int.one_mul]
    omega
  | k + 1, e, hz => by
    show hr_mu M1 k + (12 - (M1.1 269 (k + 1)).toInt) * hr_w (k + 1) + hr_w (k + 1) = hr_mu M k + (12 - (M.1 269 (k + 1)).toInt) * hr_w (k + 1)
    have h1 : hr_mu M1 k = hr_mu M k := hr_mue k (fun i hi => by rw [e, hp_up_ne (by omega)])
    rw [h1, e, hp_up_eq, hz, show (12 : Int) - ((M.1 269 (k + 1)).toInt + 1) = (12 - (M.1 269 (k + 1)).toInt) - 1 by omega, Int.sub_mul, Int.one_mul]
    omega
theorem hr_mup {M : rx_M} (h : ∀ i, (M.1 269 i).toInt ≤ 12) : ∀ k, 0 ≤ hr_mu M k
  | 0 => Int.mul_nonneg (by have := h 0; omega) (by have := hr_w1 0; omega)
  | k + 1 => Int.add_nonneg (hr_mup h k) (Int.mul_nonneg (by have := h (k + 1); omega) (by have := hr_w1 (k + 1); omega))
/-- one back -/
theorem hr_mub {M M1 : rx_M} {k : Nat} {z : Int32} (e : M1.1 = rx_up M.1 269 (k + 1) z) (hz : z.toInt = (M.1 269 (k + 1)).toInt + 1) (h : z.toInt ≤ 12) : hr_mu M1 k < hr_mu M (k + 1) := by
  have h1 := hr_mua (k + 1) e hz
  have h2 : hr_mu M1 (k + 1) = hr_mu M1 k + (12 - (M1.1 269 (k + 1)).toInt) * hr_w (k + 1) := rfl
  have h3 : 0 ≤ (12 - (M1.1 269 (k + 1)).toInt) * hr_w (k + 1) := Int.mul_nonneg (by rw [e, hp_up_eq]; omega) (by have := hr_w1 (k + 1); omega)
  have := hr_w1 (k + 1)
  omega
theorem hr_mus {M M1 : rx_M} {k : Nat} {z : Int32} (e : M1.1 = rx_up M.1 269 k z) (hz : z.toInt = (M.1 269 k).toInt + 1) : hr_mu M1 k < hr_mu M k := by
  have h1 := hr_mua k e hz
  have := hr_w1 k
  omega
/-- one on -/
theorem hr_muf {M M1 M2 : rx_M} {k : Nat} {z w : Int32} (e : M1.1 = rx_up M.1 269 k z) (hz : z.toInt = (M.1 269 k).toInt + 1) (e2 : M2.1 = rx_up M1.1 269 (k + 1) w) (hw : w.toInt = -1) (hk : k + 1 ≤ 5) : hr_mu M2 (k + 1) < hr_mu M k := by
  have h1 := hr_mua k e hz
  have h2 : hr_mu M2 (k + 1) = hr_mu M2 k + (12 - (M2.1 269 (k + 1)).toInt) * hr_w (k + 1) := rfl
  rw [hr_mue (M := M1) k (fun i hi => by rw [e2, hp_up_ne (by omega)]), e2, hp_up_eq, hw] at h2
  have h3 := hr_w2 hk
  have h4 := hr_w1 (k + 1)
  omega
theorem hr_T1 {M M1 : rx_M} {k : Nat} (h : hr_T M k) (e : ∀ i, i < k → M1.1 269 i = M.1 269 i) : hr_T M1 k := by
  refine ⟨fun i hi => ?_, fun i j q1 q2 => ?_⟩
  · rw [e i hi]
    exact h.1 i hi
  · rw [e i (by omega), e j q2]
    exact h.2 i j q1 q2
theorem hr_Ts {M : rx_M} {k : Nat} (h : hr_T M k) (h1 : 0 ≤ (M.1 269 k).toInt ∧ (M.1 269 k).toInt ≤ 11) (h2 : ∀ i, i < k → M.1 269 i ≠ M.1 269 k) : hr_T M (k + 1) := by
  refine ⟨fun i hi => ?_, fun i j q1 q2 => ?_⟩
  · by_cases q : i = k
    · rw [q]
      exact h1
    · exact h.1 i (by omega)
  · by_cases q : j = k
    · rw [q]
      exact h2 i (by omega)
    · exact h.2 i j q1 (by omega)
theorem hr_Td {M : rx_M} {k : Nat} (h : hr_T M (k + 1)) : hr_T M k := ⟨fun i hi => h.1 i (by omega), fun i j q1 q2 => h.2 i j q1 (by omega)⟩
theorem hr_Td2 {M : rx_M} {k : Nat} (h : hr_T M k) : hr_T M (k - 1) := ⟨fun i hi => h.1 i (by omega), fun i j q1 q2 => h.2 i j q1 (by omega)⟩
theorem hr_mub2 {M M1 : rx_M} {k : Nat} {z : Int32} (hk : 0 < k) (e : M1.1 = rx_up M.1 269 k z) (hz : z.toInt = (M.1 269 k).toInt + 1) (h : z.toInt ≤ 12) : hr_mu M1 (k - 1) < hr_mu M k := by
  obtain ⟨j, rfl⟩ : ∃ j, k = j + 1 := ⟨k - 1, by omega⟩
  exact hr_mub e hz h
section CL
variable {X : Nat × (Nat → Int32)} {d E n k : Nat} {a a0 : rx_K} {M0 M Ms : rx_M} {P : rx_O → Prop} {x1 x2 x3 x4 x5 x6 : Int32}
theorem ig_51 (ha : a.1 = rx_cells) (hM : hp_R M ∧ True) (h1 : x1.toInt = (k : Int)) (hk : k < 6) (hm : ∀ i, i ≤ k → 0 ≤ (M.1 269 i).toInt ∧ (M.1 269 i).toInt ≤ 11) (hA : ∀ i, i < k → M.1 269 i ≠ M.1 269 k) : hp X d 208 51 [some (.ref 244), some (.int x1), some (.int x2)] [] a M (fun o => ∃ r : Int32, o = (some (.int r), a, M) ∧ (r.toInt = 0 ∨ r.toInt = 1) ∧ (r.toInt ≠ 0 → ∀ i, i < k → M.1 269 i ≠ M.1 269 k)) := by
  refine hp_il (pc' := 52) (j := 1) (Or.inr ⟨1, rfl, rfl, rfl⟩) rfl ?_
  refine hp_zeq (t := 81) (pc' := 55) rfl rfl rfl (fun c1 => ?_) (fun c1 => ?_)
  · refine hp_ic (pc' := 82) (x := 1) rfl rfl rfl ?_
    refine hp_go (t := 86) rfl rfl ?_
    refine hp_rb rfl rfl (by decide) ?_
    exact ⟨_, rfl, Or.inr rfl, fun _ => hA⟩
  · refine hp_al (pc' := 56) (j := 0) (Or.inr ⟨0, rfl, rfl, rfl⟩) rfl ?_
    refine hp_gr (pc' := 59) ha (hM.1 244 31 268 rfl) rfl rfl rfl rfl ?_
    refine hp_bi (pc' := 61) (x := 12) rfl rfl rfl ?_
    refine hp_al (pc' := 62) (j := 0) (Or.inr ⟨0, rfl, rfl, rfl⟩) rfl ?_
    refine hp_gr (pc' := 65) ha (hM.1 244 32 269 rfl) rfl rfl rfl rfl ?_
    refine hp_il (pc' := 66) (j := 1) (Or.inr ⟨1, rfl, rfl, rfl⟩) rfl ?_
    refine hp_ic (pc' := 67) (x := 1) rfl rfl rfl ?_
    refine hp_sub (pc' := 68) rfl rfl (fun z2 hz2 => ?_)
    have xz2 : z2.toInt = (((k - 1) : Nat) : Int) := hp_s1 h1 (by omega) hz2
    refine hp_ld (pc' := 69) (j := (k - 1)) ha xz2 (by omega) rfl rfl rfl ?_
    have f3 := cl_mo (hm (k - 1) (by omega))
    refine hp_mul (pc' := 70) rfl rfl (fun z4 hz4 => ?_)
    refine hp_al (pc' := 71) (j := 0) (Or.inr ⟨0, rfl, rfl, rfl⟩) rfl ?_
    refine hp_gr (pc' := 74) ha (hM.1 244 32 269 rfl) rfl rfl rfl rfl ?_
    refine hp_il (pc' := 75) (j := 1) (Or.inr ⟨1, rfl, rfl, rfl⟩) rfl ?_
    refine hp_ld (pc' := 76) (j := k) ha h1 (by omega) rfl rfl rfl ?_
    have f5 := cl_mo (hm k (by omega))
    refine hp_add (pc' := 77) rfl rfl (fun z6 hz6 => ?_)
    have xz6 : z6.toInt = (((12 * (cl_m M (k - 1)) + (cl_m M k)) : Nat) : Int) := hp_ix f3.1 f5.1 (by omega) (by omega) hz4 hz6
    refine hp_ld (pc' := 78) (j := (12 * (cl_m M (k - 1)) + (cl_m M k))) ha xz6 (by omega) rfl rfl rfl ?_
    refine hp_zle (t := 85) (pc' := 81) rfl rfl rfl (fun c7 => ?_) (fun c7 => ?_)
    · refine hp_ic (pc' := 86) (x := 0) rfl rfl rfl ?_
      refine hp_rb rfl rfl (by decide) ?_
      exact ⟨_, rfl, Or.inl rfl, fun q => absurd rfl q⟩
    · refine hp_ic (pc' := 82) (x := 1) rfl rfl rfl ?_
      refine hp_go (t := 86) rfl rfl ?_
      refine hp_rb rfl rfl (by decide) ?_
      exact ⟨_, rfl, Or.inr rfl, fun _ => hA⟩
theorem ig_23 (ha : a.1 = rx_cells) (hM : hp_R M ∧ True) (h1 : x1.toInt = (k : Int)) (hk : k < 6) (hm : ∀ i, i ≤ k → 0 ≤ (M.1 269 i).toInt ∧ (M.1 269 i).toInt ≤ 11) (h0 : k = 0 ∨ (M.1 269 0).toInt < (M.1 269 k).toInt) : ∀ (m j : Nat) (x2 : Int32), k ≤ j + m → x2.toInt = (j : Int) → 1 ≤ j → (∀ i, 1 ≤ i → i < j → i < k → M.1 269 i ≠ M.1 269 k) → hp X d 208 23 [some (.ref 244), some (.int x1), some (.int x2)] [] a M (fun o => ∃ r : Int32, o = (some (.int r), a, M) ∧ (r.toInt = 0 ∨ r.toInt = 1) ∧ (r.toInt ≠ 0 → ∀ i, i < k → M.1 269 i ≠ M.1 269 k)) := by
  intro m
  induction m with
  | zero =>
    intro j x2 hb h2 hj hL
    refine hp_il (pc' := 24) (j := 2) (Or.inr ⟨2, rfl, rfl, rfl⟩) rfl ?_
    refine hp_il (pc' := 25) (j := 1) (Or.inr ⟨1, rfl, rfl, rfl⟩) rfl ?_
    refine hp_ige (t := 51) (pc' := 28) rfl rfl rfl (fun c1 => ?_) (fun c1 => ?_)
    · exact ig_51 ha hM h1 hk hm (fun i hi => by
        by_cases q : i = 0
        · intro q2
          rw [q] at q2 hi
          have q3 := congrArg Int32.toInt q2
          omega
        · exact hL i (by omega) (by omega) hi)
    · exfalso
      omega
  | succ m ih =>
    intro j x2 hb h2 hj hL
    refine hp_il (pc' := 24) (j := 2) (Or.inr ⟨2, rfl, rfl, rfl⟩) rfl ?_
    refine hp_il (pc' := 25) (j := 1) (Or.inr ⟨1, rfl, rfl, rfl⟩) rfl ?_
    refine hp_ige (t := 51) (pc' := 28) rfl rfl rfl (fun c1 => ?_) (fun c1 => ?_)
    · exact ig_51 ha hM h1 hk hm (fun i hi => by
        by_cases q : i = 0
        · intro q2
          rw [q] at q2 hi
          have q3 := congrArg Int32.toInt q2
          omega
        · exact hL i (by omega) (by omega) hi)
    · refine hp_al (pc' := 29) (j := 0) (Or.inr ⟨0, rfl, rfl, rfl⟩) rfl ?_
      refine hp_gr (pc' := 32) ha (hM.1 244 32 269 rfl) rfl rfl rfl rfl ?_
      refine hp_il (pc' := 33) (j := 2) (Or.inr ⟨2, rfl, rfl, rfl⟩) rfl ?_
      refine hp_ld (pc' := 34) (j := j) ha h2 (by omega) rfl rfl rfl ?_
      refine hp_al (pc' := 35) (j := 0) (Or.inr ⟨0, rfl, rfl, rfl⟩) rfl ?_
      refine hp_gr (pc' := 38) ha (hM.1 244 32 269 rfl) rfl rfl rfl rfl ?_
      refine hp_il (pc' := 39) (j := 1) (Or.inr ⟨1, rfl, rfl, rfl⟩) rfl ?_
      refine hp_ld (pc' := 40) (j := k) ha h1 (by omega) rfl rfl rfl ?_
      refine hp_ine (t := 45) (pc' := 43) rfl rfl rfl (fun c2 => ?_) (fun c2 => ?_)
      · refine hp_in (pc' := 48) (j := 2) (ls' := [some (.ref 244), some (.int x1), some (.int (x2 + Int32.ofInt 1))]) rfl rfl rfl rfl rfl ?_
        refine hp_go (t := 23) rfl rfl ?_
        exact ih (j + 1) _ (by omega) (hp_i1 h2 (by omega)) (by omega) (fun i q1 q2 q3 => by
          by_cases q : i = j
          · rw [q]
            intro q4
            have q5 := congrArg Int32.toInt q4
            omega
          · exact hL i q1 (by omega) q3)
      · refine hp_ic (pc' := 44) (x := 0) rfl rfl rfl ?_
        refine hp_rb rfl rfl (by decide) ?_
        exact ⟨_, rfl, Or.inl rfl, fun q => absurd rfl q⟩
theorem ig_ok (ha : a.1 = rx_cells) (hM : hp_R M ∧ True) (h1 : x1.toInt = (k : Int)) (hk : k < 6) (hm : ∀ i, i ≤ k → 0 ≤ (M.1 269 i).toInt ∧ (M.1 269 i).toInt ≤ 11) : hp X d 208 0 [some (.ref 244), some (.int x1), none] [] a M (fun o => ∃ r : Int32, o = (some (.int r), a, M) ∧ (r.toInt = 0 ∨ r.toInt = 1) ∧ (r.toInt ≠ 0 → ∀ i, i < k → M.1 269 i ≠ M.1 269 k)) := by
  refine hp_al (pc' := 1) (j := 0) (Or.inr ⟨0, rfl, rfl, rfl⟩) rfl ?_
  refine hp_gr (pc' := 4) ha (hM.1 244 32 269 rfl) rfl rfl rfl rfl ?_
  refine hp_il (pc' := 5) (j := 1) (Or.inr ⟨1, rfl, rfl, rfl⟩) rfl ?_
  refine hp_ld (pc' := 6) (j := k) ha h1 (by omega) rfl rfl rfl ?_
  refine hp_al (pc' := 7) (j := 0) (Or.inr ⟨0, rfl, rfl, rfl⟩) rfl ?_
  refine hp_gr (pc' := 10) ha (hM.1 244 32 269 rfl) rfl rfl rfl rfl ?_
  refine hp_ic (pc' := 11) (x := 0) rfl rfl rfl ?_
  refine hp_ld (pc' := 12) (j := 0) ha rfl (by omega) rfl rfl rfl ?_
  refine hp_igt (t := 21) (pc' := 15) rfl rfl rfl (fun c1 => ?_) (fun c1 => ?_)
  · refine hp_ic (pc' := 22) (x := 1) rfl rfl rfl ?_
    refine hp_is (pc' := 23) (j := 2) (ls' := [some (.ref 244), some (.int x1), some (.int (1 : Int32))]) (Or.inr ⟨2, rfl, rfl, rfl⟩) (by simp) rfl ?_
    exact ig_23 ha hM h1 hk hm (by omega) k 1 _ (by omega) rfl (Nat.le_refl _) (fun i q1 q2 _ => absurd q1 (by omega))
  · refine hp_il (pc' := 16) (j := 1) (Or.inr ⟨1, rfl, rfl, rfl⟩) rfl ?_
    refine hp_zle (t := 21) (pc' := 19) rfl rfl rfl (fun c2 => ?_) (fun c2 => ?_)
    · refine hp_ic (pc' := 22) (x := 1) rfl rfl rfl ?_
      refine hp_is (pc' := 23) (j := 2) (ls' := [some (.ref 244), some (.int x1), some (.int (1 : Int32))]) (Or.inr ⟨2, rfl, rfl, rfl⟩) (by simp) rfl ?_
      exact ig_23 ha hM h1 hk hm (by omega) k 1 _ (by omega) rfl (Nat.le_refl _) (fun i q1 q2 _ => absurd q1 (by omega))
    · refine hp_ic (pc' := 20) (x := 0) rfl rfl rfl ?_
      refine hp_rb rfl rfl (by decide) ?_
      exact ⟨_, rfl, Or.inl rfl, fun q => absurd rfl q⟩
noncomputable def hr_Q (M0 : rx_M) (a0 : rx_K) (Ms : rx_M) (n : Nat) (a : rx_K) (o : rx_O) : Prop := ∃ (r : Int32) (M1 : rx_M), o = (some (.int r), a, M1) ∧ (r.toInt = 0 ∨ r.toInt = 1) ∧ ei_I ax_w_181 M0 a0 M1 a ∧ hr_F Ms M1 ∧ (r.toInt ≠ 0 → hr_T M1 n)
theorem hr_w9 {M1 : rx_M} {j : Nat} {z : Int32} (h : ei_I ax_w_181 M0 a0 M a) (hz : -1 ≤ z.toInt ∧ z.toInt ≤ 12) (e : M1.1 = rx_up M.1 269 j z) (g : M1.2 = M.2) : ei_I ax_w_181 M0 a0 M1 a := ei_w h (cl_w9 j) hz (ax_G_free (lo := 269) (hi := 269) h.1.2.2 (by decide) (by decide) (by decide) (by omega) (by omega)) e g
theorem hr_f9 {M1 : rx_M} {j : Nat} {z : Int32} (h : hr_F Ms M) (e : M1.1 = rx_up M.1 269 j z) : hr_F Ms M1 := fun q i hq => by
  rw [e, hp_up_ne (fun w => hq w.1)]
  exact h q i hq
theorem hr_e (ha : a.1 = rx_cells) (h1 : x1.toInt = (n : Int)) (hn2 : 2 ≤ n) (hn6 : n ≤ 6) (hx : x2.toInt < 0) (hM : ei_I ax_w_181 M0 a0 M a) (fM : hr_F Ms M) : hp X (d + 1) 209 9 [some (.ref 244), some (.int x1), some (.int x2)] [] a M (hr_Q M0 a0 Ms n a) := by
  refine hp_il (pc' := 10) (j := 2) (Or.inr ⟨2, rfl, rfl, rfl⟩) rfl ?_
  refine hp_zlt (t := 99) (pc' := 13) rfl rfl rfl (fun c1 => ?_) (fun c1 => ?_)
  · refine hp_ic (pc' := 100) (x := 0) rfl rfl rfl ?_
    refine hp_rb rfl rfl (by decide) ?_
    exact ⟨_, M, rfl, Or.inl rfl, hM, fM, fun q => absurd rfl q⟩
  · exfalso
    omega
theorem hr_b (ha : a.1 = rx_cells) (h1 : x1.toInt = (n : Int)) (hn2 : 2 ≤ n) (hn6 : n ≤ 6) {m : Nat} (ih : ∀ (k : Nat) (x2 : Int32) (M : rx_M), hr_mu M k < (m : Int) → x2.toInt = (k : Int) → ei_I ax_w_181 M0 a0 M a → hr_F Ms M → hr_H M k n → hp X (d + 1) 209 9 [some (.ref 244), some (.int x1), some (.int x2)] [] a M (hr_Q M0 a0 Ms n a)) (yx : x2.toInt = (k : Int) - 1) (hmu : 0 < k → hr_mu M (k - 1) < (m : Int)) (hkn : k < n) (hM : ei_I ax_w_181 M0 a0 M a) (fM : hr_F Ms M) (hT : hr_T M k) : hp X (d + 1) 209 9 [some (.ref 244), some (.int x1), some (.int x2)] [] a M (hr_Q M0 a0 Ms n a) := by
  rcases Nat.eq_zero_or_pos k with q0 | q0
  · exact hr_e ha h1 hn2 hn6 (by omega) hM fM
  · exact ih (k - 1) _ M (hmu q0) (by omega) hM fM ⟨by omega, (hT.1 (k - 1) (by omega)).2, hr_Td2 hT⟩
theorem hr_9 (ha : a.1 = rx_cells) (h1 : x1.toInt = (n : Int)) (hn2 : 2 ≤ n) (hn6 : n ≤ 6) : ∀ (m k : Nat) (x2 : Int32) (M : rx_M), hr_mu M k < (m : Int) → x2.toInt = (k : Int) → ei_I ax_w_181 M0 a0 M a → hr_F Ms M → hr_H M k n → hp X (d + 1) 209 9 [some (.ref 244), some (.int x1), some (.int x2)] [] a M (hr_Q M0 a0 Ms n a) := by
  intro m
  induction m with
  | zero =>
    intro k x2 M hm h2 hM fM hH
    have := hr_mup (M := M) (fun i => (hM.1.1 269 i).2) k
    omega
  | succ m ih =>
    intro k x2 M hm h2 hM fM hH
    have b9 : -1 ≤ (M.1 269 k).toInt ∧ (M.1 269 k).toInt ≤ 12 := hM.1.1 269 k
    have hk11 := hH.2.1
    have hkn := hH.1
    have hmn : 0 ≤ (M.1 244 1).toInt ∧ (M.1 244 1).toInt ≤ 12 := hM.1.1 244 1
    have one1 : (1 : Int32).toInt = 1 := rfl
    have mone : (Int32.ofInt (-1)).toInt = -1 := rfl
    refine hp_il (pc' := 10) (j := 2) (Or.inr ⟨2, rfl, rfl, rfl⟩) rfl ?_
    refine hp_zlt (t := 99) (pc' := 13) rfl rfl rfl (fun c1 => ?_) (fun c1 => ?_)
    · exfalso
      omega
    · refine hp_al (pc' := 14) (j := 0) (Or.inr ⟨0, rfl, rfl, rfl⟩) rfl ?_
      refine hp_gr (pc' := 17) ha (hM.1.2.1 244 32 269 rfl) rfl rfl rfl rfl ?_
      refine hp_il (pc' := 18) (j := 2) (Or.inr ⟨2, rfl, rfl, rfl⟩) rfl ?_
      refine hp_d2 (pc' := 19) rfl rfl ?_
      refine hp_ld (pc' := 20) (j := k) ha h2 (by omega) rfl rfl rfl ?_
      refine hp_ic (pc' := 21) (x := 1) rfl rfl rfl ?_
      refine hp_add (pc' := 22) rfl rfl (fun z2 hz2 => ?_)
      have yz2 : z2.toInt = (M.1 269 k).toInt + 1 := by rw [hz2, ax_add (by rw [one1]; omega) (by rw [one1]; omega), one1]
      refine hp_st (pc' := 23) (j := k) ha h2 (by omega) rfl rfl rfl (fun M3 eM3 gM3 => ?_)
      have hM3 := hr_w9 hM (show (-1 : Int) ≤ (z2 : Int32).toInt ∧ (z2 : Int32).toInt ≤ 12 by first | decide | omega) eM3 gM3
      have fM3 := hr_f9 fM eM3
      have eT : ∀ i, i < k → M3.1 269 i = M.1 269 i := fun i hi => by rw [eM3, hp_up_ne (by omega)]
      have eK : M3.1 269 k = z2 := by rw [eM3, hp_up_eq]
      have hT := hr_T1 hH.2.2 eT
      have eKi : (M3.1 269 k).toInt = z2.toInt := by rw [eK]
      have e1m : (M3.1 244 1).toInt = (M.1 244 1).toInt := by rw [eM3, hp_up_ne (by omega)]
      refine hp_al (pc' := 24) (j := 0) (Or.inr ⟨0, rfl, rfl, rfl⟩) rfl ?_
      refine hp_gr (pc' := 27) ha (hM3.1.2.1 244 32 269 rfl) rfl rfl rfl rfl ?_
      refine hp_il (pc' := 28) (j := 2) (Or.inr ⟨2, rfl, rfl, rfl⟩) rfl ?_
      refine hp_ld (pc' := 29) (j := k) ha h2 (by omega) rfl rfl rfl ?_
      refine hp_al (pc' := 30) (j := 0) (Or.inr ⟨0, rfl, rfl, rfl⟩) rfl ?_
      refine hp_gi (pc' := 33) (j := 1) (t := 0) ha rfl rfl rfl (by decide) rfl ?_
      refine hp_ilt (t := 42) (pc' := 36) rfl rfl rfl (fun c4 => ?_) (fun c4 => ?_)
      · refine hp_al (pc' := 43) (j := 0) (Or.inr ⟨0, rfl, rfl, rfl⟩) rfl ?_
        refine hp_il (pc' := 44) (j := 2) (Or.inr ⟨2, rfl, rfl, rfl⟩) rfl ?_
        refine hp_cv (Q := fun o => ∃ r : Int32, o = (some (.int r), a, M3) ∧ (r.toInt = 0 ∨ r.toInt = 1) ∧ (r.toInt ≠ 0 → ∀ i, i < k → M3.1 269 i ≠ M3.1 269 k)) (pc' := 47) (e := d) (vs := [.int x2]) (r := []) ha rfl rfl rfl rfl rfl rfl rfl rfl (ig_ok ha ⟨hM3.1.2.1, trivial⟩ h2 (by omega) (fun i hi => by
            by_cases q : i = k
            · rw [q, eK]
              omega
            · exact hT.1 i (by omega))) (fun o ho => ?_)
        obtain ⟨r5, eo, qr5⟩ := ho
        subst eo
        refine ⟨_, rfl, ?_⟩
        show hp X (d + 1) 209 47 [some (.ref 244), some (.int x1), some (.int x2)] [.int r5] a M3 _
        refine hp_zne (t := 53) (pc' := 50) rfl rfl rfl (fun c6 => ?_) (fun c6 => ?_)
        · refine hp_il (pc' := 54) (j := 2) (Or.inr ⟨2, rfl, rfl, rfl⟩) rfl ?_
          refine hp_il (pc' := 55) (j := 1) (Or.inr ⟨1, rfl, rfl, rfl⟩) rfl ?_
          refine hp_ic (pc' := 56) (x := 1) rfl rfl rfl ?_
          refine hp_sub (pc' := 57) rfl rfl (fun z7 hz7 => ?_)
          have xz7 : z7.toInt = (((n - 1) : Nat) : Int) := hp_s1 h1 (by omega) hz7
          refine hp_ine (t := 86) (pc' := 60) rfl rfl rfl (fun c8 => ?_) (fun c8 => ?_)
          · refine hp_in (pc' := 89) (j := 2) (ls' := [some (.ref 244), some (.int x1), some (.int (x2 + Int32.ofInt 1))]) rfl rfl rfl rfl rfl ?_
            refine hp_al (pc' := 90) (j := 0) (Or.inr ⟨0, rfl, rfl, rfl⟩) rfl ?_
            refine hp_gr (pc' := 93) ha (hM3.1.2.1 244 32 269 rfl) rfl rfl rfl rfl ?_
            refine hp_il (pc' := 94) (j := 2) (Or.inr ⟨2, rfl, rfl, rfl⟩) rfl ?_
            refine hp_ic (pc' := 95) (x := (-1)) rfl rfl rfl ?_
            refine hp_st (pc' := 96) (j := (k + 1)) ha (hp_i1 h2 (by omega)) (by omega) rfl rfl rfl (fun M9 eM9 gM9 => ?_)
            have hM9 := hr_w9 hM3 (show (-1 : Int) ≤ ((-1 : Int32) : Int32).toInt ∧ ((-1 : Int32) : Int32).toInt ≤ 12 by first | decide | omega) eM9 gM9
            have fM9 := hr_f9 fM3 eM9
            refine hp_go (t := 9) rfl rfl ?_
            have hT2 : hr_T M3 (k + 1) := hr_Ts hT (by rw [eK]; omega) (qr5.2 (by assumption))
            have eB : ∀ i, i < k + 1 → M9.1 269 i = M3.1 269 i := fun i hi => by rw [eM9, hp_up_ne (by omega)]
            exact ih (k + 1) _ M9 (by have := hr_muf eM3 yz2 eM9 rfl (by omega); omega) (hp_i1 h2 (by omega)) hM9 fM9 ⟨by omega, by rw [eM9, hp_up_eq]; decide, hr_T1 hT2 eB⟩
          · refine hp_al (pc' := 61) (j := 0) (Or.inr ⟨0, rfl, rfl, rfl⟩) rfl ?_
            refine hp_gr (pc' := 64) ha (hM3.1.2.1 244 31 268 rfl) rfl rfl rfl rfl ?_
            refine hp_bi (pc' := 66) (x := 12) rfl rfl rfl ?_
            refine hp_al (pc' := 67) (j := 0) (Or.inr ⟨0, rfl, rfl, rfl⟩) rfl ?_
            refine hp_gr (pc' := 70) ha (hM3.1.2.1 244 32 269 rfl) rfl rfl rfl rfl ?_
            refine hp_il (pc' := 71) (j := 2) (Or.inr ⟨2, rfl, rfl, rfl⟩) rfl ?_
            refine hp_ld (pc' := 72) (j := k) ha h2 (by omega) rfl rfl rfl ?_
            have f10 := cl_mo ((fun i (hi : i ≤ k) => (hr_Ts hT (by rw [eK]; omega) (qr5.2 (by assumption))).1 i (by omega)) k (by omega))
            refine hp_mul (pc' := 73) rfl rfl (fun z11 hz11 => ?_)
            refine hp_al (pc' := 74) (j := 0) (Or.inr ⟨0, rfl, rfl, rfl⟩) rfl ?_
            refine hp_gr (pc' := 77) ha (hM3.1.2.1 244 32 269 rfl) rfl rfl rfl rfl ?_
            refine hp_ic (pc' := 78) (x := 0) rfl rfl rfl ?_
            refine hp_ld (pc' := 79) (j := 0) ha rfl (by omega) rfl rfl rfl ?_
            have f12 := cl_mo ((fun i (hi : i ≤ k) => (hr_Ts hT (by rw [eK]; omega) (qr5.2 (by assumption))).1 i (by omega)) 0 (by omega))
            refine hp_add (pc' := 80) rfl rfl (fun z13 hz13 => ?_)
            have xz13 : z13.toInt = (((12 * (cl_m M3 k) + (cl_m M3 0)) : Nat) : Int) := hp_ix f10.1 f12.1 (by omega) (by omega) hz11 hz13
            refine hp_ld (pc' := 81) (j := (12 * (cl_m M3 k) + (cl_m M3 0))) ha xz13 (by omega) rfl rfl rfl ?_
            refine hp_zle (t := 9) (pc' := 84) rfl rfl rfl (fun c14 => ?_) (fun c14 => ?_)
            · exact ih k _ M3 (by have := hr_mus eM3 yz2; omega) h2 hM3 fM3 ⟨hH.1, by rw [eK]; omega, hT⟩
            · refine hp_ic (pc' := 85) (x := 1) rfl rfl rfl ?_
              refine hp_rb rfl rfl (by decide) ?_
              exact ⟨_, M3, rfl, Or.inr rfl, hM3, fM3, fun _ => by
                have en : n = k + 1 := by omega
                rw [en]
                exact hr_Ts hT (by rw [eK]; omega) (qr5.2 (by assumption))⟩
        · refine hp_go (t := 9) rfl rfl ?_
          exact ih k _ M3 (by have := hr_mus eM3 yz2; omega) h2 hM3 fM3 ⟨hH.1, by rw [eK]; omega, hT⟩
      · refine hp_in (pc' := 39) (j := 2) (ls' := [some (.ref 244), some (.int x1), some (.int (x2 + Int32.ofInt (-1)))]) rfl rfl rfl rfl rfl ?_
        refine hp_go (t := 9) rfl rfl ?_
        have hmu : 0 < k → hr_mu M3 (k - 1) < (m : Int) := fun q0 => by
          have := hr_mub2 q0 eM3 yz2 (by omega)
          omega
        exact hr_b ha h1 hn2 hn6 ih (x2 := (x2 + Int32.ofInt (-1))) (by
          rw [ax_add (by rw [mone]; omega) (by rw [mone]; omega), mone]
          omega) hmu hkn hM3 fM3 hT
theorem hr_ok (ha : a.1 = rx_cells) (h1 : x1.toInt = (n : Int)) (hn2 : 2 ≤ n) (hn6 : n ≤ 6) (hM : ei_I ax_w_181 M0 a0 M a) : hp X (d + 1) 209 0 [some (.ref 244), some (.int x1), none] [] a M (hr_Q M0 a0 M n a) := by
  have fM : hr_F M M := fun _ _ _ => rfl
  refine hp_ic (pc' := 1) (x := 0) rfl rfl rfl ?_
  refine hp_is (pc' := 2) (j := 2) (ls' := [some (.ref 244), some (.int x1), some (.int (0 : Int32))]) (Or.inr ⟨2, rfl, rfl, rfl⟩) (by simp) rfl ?_
  refine hp_al (pc' := 3) (j := 0) (Or.inr ⟨0, rfl, rfl, rfl⟩) rfl ?_
  refine hp_gr (pc' := 6) ha (hM.1.2.1 244 32 269 rfl) rfl rfl rfl rfl ?_
  refine hp_ic (pc' := 7) (x := 0) rfl rfl rfl ?_
  refine hp_ic (pc' := 8) (x := (-1)) rfl rfl rfl ?_
  refine hp_st (pc' := 9) (j := 0) ha rfl (by omega) rfl rfl rfl (fun M1 eM1 gM1 => ?_)
  have hM1 := hr_w9 hM (show (-1 : Int) ≤ ((-1 : Int32) : Int32).toInt ∧ ((-1 : Int32) : Int32).toInt ≤ 12 by first | decide | omega) eM1 gM1
  have fM1 := hr_f9 fM eM1
  have h0 : (M1.1 269 0).toInt = -1 := by
    rw [eM1, hp_up_eq]
    rfl
  exact hr_9 ha h1 hn2 hn6 ((hr_mu M1 0).toNat + 1) 0 _ M1 (by omega) rfl hM1 fM1 ⟨by omega, by omega, fun i hi => absurd hi (Nat.not_lt_zero _), fun i j _ hj => absurd hj (Nat.not_lt_zero _)⟩
noncomputable def fr_Q (M0 : rx_M) (a0 : rx_K) (Ms : rx_M) (o : rx_O) : Prop := ∃ (r : Int32) (M1 : rx_M) (a1 : rx_K), o = (some (.int r), a1, M1) ∧ (r.toInt = 0 ∨ r.toInt = 1) ∧ ei_I ax_w_181 M0 a0 M1 a1 ∧ M1.1 244 7 = Ms.1 244 7 ∧ (r.toInt ≠ 0 → ∃ n : Nat, 2 ≤ n ∧ n ≤ 6 ∧ (M1.1 244 33).toInt = (n : Int) ∧ hr_T M1 n ∧ fo_S 4698000 M1)
theorem fr_w3 {M1 : rx_M} {z : Int32} (h : ei_I ax_w_181 M0 a0 M a) (hz : 0 ≤ z.toInt ∧ z.toInt ≤ 8) (e : M1.1 = rx_up M.1 244 33 z) (g : M1.2 = M.2) : ei_I ax_w_181 M0 a0 M1 a := ei_w h cl_w33 hz (ax_G_free (lo := 244) (hi := 244) h.1.2.2 (by decide) (by decide) (by decide) (by omega) (by omega)) e g
theorem fr_fo {a1 : rx_K} {M1 : rx_M} (h : ei_I ax_w_181 M0 a0 M a) (k : fo_I M a M1 a1) : ei_I ax_w_181 M0 a0 M1 a1 := by
  refine ⟨k.2.1, fun q j hq => ?_, k.2.2.2.1, Nat.le_trans k.2.2.2.2.1 h.2.2.2.1, Nat.le_trans k.2.2.2.2.2 h.2.2.2.2⟩
  have k1 := k.2.2.1 q j (fun w => hq (cl_sub q j w))
  have k2 := h.2.1 q j hq
  exact ⟨k1.1.trans k2.1, k1.2.trans k2.2⟩
theorem fr_18 (ha : a.1 = rx_cells) : ∀ (m n : Nat) (M : rx_M), m + n = 7 → 2 ≤ n → ei_I ax_w_181 M0 a0 M a → M.1 244 7 = Ms.1 244 7 → fo_S 4698000 M → (M.1 244 33).toInt = (n : Int) → hp X (d + 3) 210 18 [some (.ref 244)] [] a M (fr_Q M0 a0 Ms) := by
  intro m
  induction m with
  | zero =>
    intro n M hb hn2 hM EM SM hn
    have z6 : (6 : Int32).toInt = 6 := rfl
    have one1 : (1 : Int32).toInt = 1 := rfl
    refine hp_al (pc' := 19) (j := 0) (Or.inr ⟨0, rfl, rfl, rfl⟩) rfl ?_
    refine hp_gi (pc' := 22) (j := 33) (t := 0) ha rfl rfl rfl (by decide) rfl ?_
    refine hp_bi (pc' := 24) (x := 6) rfl rfl rfl ?_
    refine hp_igt (t := 53) (pc' := 27) rfl rfl rfl (fun c1 => ?_) (fun c1 => ?_)
    · refine hp_ic (pc' := 54) (x := 0) rfl rfl rfl ?_
      refine hp_rb rfl rfl (by decide) ?_
      exact ⟨_, M, a, rfl, Or.inl rfl, hM, EM, fun q => absurd rfl q⟩
    · exfalso
      omega
  | succ m ih =>
    intro n M hb hn2 hM EM SM hn
    have z6 : (6 : Int32).toInt = 6 := rfl
    have one1 : (1 : Int32).toInt = 1 := rfl
    refine hp_al (pc' := 19) (j := 0) (Or.inr ⟨0, rfl, rfl, rfl⟩) rfl ?_
    refine hp_gi (pc' := 22) (j := 33) (t := 0) ha rfl rfl rfl (by decide) rfl ?_
    refine hp_bi (pc' := 24) (x := 6) rfl rfl rfl ?_
    refine hp_igt (t := 53) (pc' := 27) rfl rfl rfl (fun c1 => ?_) (fun c1 => ?_)
    · exfalso
      omega
    · refine hp_al (pc' := 28) (j := 0) (Or.inr ⟨0, rfl, rfl, rfl⟩) rfl ?_
      refine hp_al (pc' := 29) (j := 0) (Or.inr ⟨0, rfl, rfl, rfl⟩) rfl ?_
      refine hp_gi (pc' := 32) (j := 33) (t := 0) ha rfl rfl rfl (by decide) rfl ?_
      refine hp_cv (Q := hr_Q M0 a0 M n a) (pc' := 35) (e := d + 2) (vs := [.int (M.1 244 33)]) (r := []) ha rfl rfl rfl rfl rfl rfl rfl rfl (hr_ok (d := d + 1) ha hn hn2 (by omega) hM) (fun o ho => ?_)
      obtain ⟨r2, M3, eo, br2, hM3, fM3, tM3⟩ := ho
      subst eo
      refine ⟨_, rfl, ?_⟩
      have SM3 : fo_S 4698000 M3 := fo_Se SM (fun j => fM3 268 j (by omega))
      have EM3 : M3.1 244 7 = Ms.1 244 7 := (fM3 244 7 (by omega)).trans EM
      have nM3 : (M3.1 244 33).toInt = (n : Int) := by
        rw [fM3 244 33 (by omega)]
        exact hn
      show hp X (d + 3) 210 35 [some (.ref 244)] [.int r2] a M3 _
      refine hp_zeq (t := 40) (pc' := 38) rfl rfl rfl (fun c4 => ?_) (fun c4 => ?_)
      · refine hp_al (pc' := 41) (j := 0) (Or.inr ⟨0, rfl, rfl, rfl⟩) rfl ?_
        refine hp_dup (pc' := 42) rfl rfl rfl ?_
        refine hp_gi (pc' := 45) (j := 33) (t := 0) ha rfl rfl rfl (by decide) rfl ?_
        refine hp_ic (pc' := 46) (x := 1) rfl rfl rfl ?_
        refine hp_add (pc' := 47) rfl rfl (fun z5 hz5 => ?_)
        have yz5 : z5.toInt = (n : Int) + 1 := by rw [hz5, ax_add (by rw [one1]; omega) (by rw [one1]; omega), one1, nM3]
        refine hp_pf (pc' := 50) (j := 33) ha rfl rfl rfl rfl (fun M6 eM6 gM6 => ?_)
        have hM6 := fr_w3 hM3 (show (0 : Int) ≤ (z5 : Int32).toInt ∧ (z5 : Int32).toInt ≤ 8 by first | decide | omega) eM6 gM6
        have SM6 : fo_S 4698000 M6 := fo_Se SM3 (fun j => by rw [eM6, hp_up_ne (by omega)])
        have EM6 : M6.1 244 7 = Ms.1 244 7 := by
          rw [eM6, hp_up_ne (by omega)]
          exact EM3
        have nM6 : M6.1 244 33 = z5 := by rw [eM6, hp_up_eq]
        refine hp_go (t := 18) rfl rfl ?_
        exact ih (n + 1) M6 (by omega) (by omega) hM6 EM6 SM6 (by
          rw [nM6]
          omega)
      · refine hp_ic (pc' := 39) (x := 1) rfl rfl rfl ?_
        refine hp_rb rfl rfl (by decide) ?_
        exact ⟨_, M3, a, rfl, Or.inr rfl, hM3, EM3, fun _ => ⟨n, hn2, by omega, nM3, tM3 (by assumption), SM3⟩⟩
theorem fr_ok (hd : 5 ≤ d) (ha : a.1 = rx_cells) (hM : ei_I ax_w_181 M0 a0 M a) : hp X (d + 3) 210 0 [some (.ref 244)] [] a M (fr_Q M0 a0 M) := by
  have hw : 0 ≤ (M.1 244 2).toInt ∧ (M.1 244 2).toInt ≤ 520 := hM.1.1 244 2
  have he : 0 ≤ (M.1 244 7).toInt ∧ (M.1 244 7).toInt ≤ 150 := hM.1.1 244 7
  refine hp_al (pc' := 1) (j := 0) (Or.inr ⟨0, rfl, rfl, rfl⟩) rfl ?_
  refine hp_al (pc' := 2) (j := 0) (Or.inr ⟨0, rfl, rfl, rfl⟩) rfl ?_
  refine hp_gi (pc' := 5) (j := 2) (t := 0) ha rfl rfl rfl (by decide) rfl ?_
  refine hp_al (pc' := 6) (j := 0) (Or.inr ⟨0, rfl, rfl, rfl⟩) rfl ?_
  refine hp_gi (pc' := 9) (j := 7) (t := 0) ha rfl rfl rfl (by decide) rfl ?_
  refine hp_ic (pc' := 10) (x := 0) rfl rfl rfl ?_
  refine hp_cv (Q := gb_Q M a 4698000) (pc' := 13) (e := d + 2) (vs := [.int (M.1 244 2), .int (M.1 244 7), .int (0 : Int32)]) (r := []) ha rfl rfl rfl rfl rfl rfl rfl rfl (ff_ok (e := (M.1 244 7).toInt.toNat) hd ha hM.1 (by omega) hw.2 (by omega) (by decide)) (fun o ho => ?_)
  obtain ⟨o1, ao, Mo⟩ := o
  obtain ⟨eo, kMo, SMo⟩ := ho
  dsimp only at eo kMo SMo
  subst eo
  refine ⟨_, rfl, ?_⟩
  have hao : ao.1 = rx_cells := kMo.2.2.2.1
  have ha := hao
  have hMo := fr_fo hM kMo
  have EMo : Mo.1 244 7 = M.1 244 7 := fo_e kMo (Or.inr (Or.inr ⟨rfl, by omega⟩))
  show hp X (d + 3) 210 13 [some (.ref 244)] [] ao Mo _
  refine hp_al (pc' := 14) (j := 0) (Or.inr ⟨0, rfl, rfl, rfl⟩) rfl ?_
  refine hp_ic (pc' := 15) (x := 2) rfl rfl rfl ?_
  refine hp_pf (pc' := 18) (j := 33) ha rfl rfl rfl rfl (fun M1 eM1 gM1 => ?_)
  have hM1 := fr_w3 hMo (show (0 : Int) ≤ ((2 : Int32) : Int32).toInt ∧ ((2 : Int32) : Int32).toInt ≤ 8 by first | decide | omega) eM1 gM1
  have SM1 : fo_S 4698000 M1 := fo_Se SMo (fun j => by rw [eM1, hp_up_ne (by omega)])
  have EM1 : M1.1 244 7 = M.1 244 7 := by
    rw [eM1, hp_up_ne (by omega)]
    exact EMo
  have nM1 : M1.1 244 33 = (2 : Int32) := by rw [eM1, hp_up_eq]
  exact fr_18 ha 5 2 M1 rfl (Nat.le_refl _) hM1 EM1 SM1 (by
    rw [nM1]
    rfl)
theorem rh_29 {c : Int} (ha : a.1 = rx_cells) (hM : hp_R M ∧ True) (hn : (M.1 244 33).toInt = (n : Int)) (hn2 : 2 ≤ n) (hn6 : n ≤ 6) (hm : ∀ i, i < n → 0 ≤ (M.1 269 i).toInt ∧ (M.1 269 i).toInt ≤ 11) (hS : fo_S c M) : ∀ (m k : Nat) (x1 x2 : Int32), m + k = n → 1 ≤ k → x2.toInt = (k : Int) → 0 ≤ x1.toInt → hp X d 211 29 [some (.ref 244), some (.int x1), some (.int x2)] [] a M (fun o => ∃ r : Int32, o = (some (.int r), a, M) ∧ 0 ≤ r.toInt) := by
  intro m
  induction m with
  | zero =>
    intro k x1 x2 hb hk h2 h0
    refine hp_il (pc' := 30) (j := 2) (Or.inr ⟨2, rfl, rfl, rfl⟩) rfl ?_
    refine hp_al (pc' := 31) (j := 0) (Or.inr ⟨0, rfl, rfl, rfl⟩) rfl ?_
    refine hp_gi (pc' := 34) (j := 33) (t := 0) ha rfl rfl rfl (by decide) rfl ?_
    refine hp_ige (t := 98) (pc' := 37) rfl rfl rfl (fun c1 => ?_) (fun c1 => ?_)
    · refine hp_il (pc' := 99) (j := 1) (Or.inr ⟨1, rfl, rfl, rfl⟩) rfl ?_
      refine hp_ri rfl rfl ?_
      exact ⟨_, rfl, h0⟩
    · exfalso
      omega
  | succ m ih =>
    intro k x1 x2 hb hk h2 h0
    refine hp_il (pc' := 30) (j := 2) (Or.inr ⟨2, rfl, rfl, rfl⟩) rfl ?_
    refine hp_al (pc' := 31) (j := 0) (Or.inr ⟨0, rfl, rfl, rfl⟩) rfl ?_
    refine hp_gi (pc' := 34) (j := 33) (t := 0) ha rfl rfl rfl (by decide) rfl ?_
    refine hp_ige (t := 98) (pc' := 37) rfl rfl rfl (fun c1 => ?_) (fun c1 => ?_)
    · exfalso
      omega
    · refine hp_al (pc' := 38) (j := 0) (Or.inr ⟨0, rfl, rfl, rfl⟩) rfl ?_
      refine hp_gr (pc' := 41) ha (hM.1 244 31 268 rfl) rfl rfl rfl rfl ?_
      refine hp_bi (pc' := 43) (x := 12) rfl rfl rfl ?_
      refine hp_al (pc' := 44) (j := 0) (Or.inr ⟨0, rfl, rfl, rfl⟩) rfl ?_
      refine hp_gr (pc' := 47) ha (hM.1 244 32 269 rfl) rfl rfl rfl rfl ?_
      refine hp_il (pc' := 48) (j := 2) (Or.inr ⟨2, rfl, rfl, rfl⟩) rfl ?_
      refine hp_ic (pc' := 49) (x := 1) rfl rfl rfl ?_
      refine hp_sub (pc' := 50) rfl rfl (fun z2 hz2 => ?_)
      have xz2 : z2.toInt = (((k - 1) : Nat) : Int) := hp_s1 h2 (by omega) hz2
      refine hp_ld (pc' := 51) (j := (k - 1)) ha xz2 (by omega) rfl rfl rfl ?_
      have f3 := cl_mo (hm (k - 1) (by omega))
      refine hp_mul (pc' := 52) rfl rfl (fun z4 hz4 => ?_)
      refine hp_al (pc' := 53) (j := 0) (Or.inr ⟨0, rfl, rfl, rfl⟩) rfl ?_
      refine hp_gr (pc' := 56) ha (hM.1 244 32 269 rfl) rfl rfl rfl rfl ?_
      refine hp_il (pc' := 57) (j := 2) (Or.inr ⟨2, rfl, rfl, rfl⟩) rfl ?_
      refine hp_ld (pc' := 58) (j := k) ha h2 (by omega) rfl rfl rfl ?_
      have f5 := cl_mo (hm k (by omega))
      refine hp_add (pc' := 59) rfl rfl (fun z6 hz6 => ?_)
      have xz6 : z6.toInt = (((12 * (cl_m M (k - 1)) + (cl_m M k)) : Nat) : Int) := hp_ix f3.1 f5.1 (by omega) (by omega) hz4 hz6
      refine hp_ld (pc' := 60) (j := (12 * (cl_m M (k - 1)) + (cl_m M k))) ha xz6 (by omega) rfl rfl rfl ?_
      refine hp_il (pc' := 61) (j := 1) (Or.inr ⟨1, rfl, rfl, rfl⟩) rfl ?_
      refine hp_ige (t := 90) (pc' := 64) rfl rfl rfl (fun c7 => ?_) (fun c7 => ?_)
      · refine hp_il (pc' := 91) (j := 1) (Or.inr ⟨1, rfl, rfl, rfl⟩) rfl ?_
        refine hp_is (pc' := 92) (j := 1) (ls' := [some (.ref 244), some (.int x1), some (.int x2)]) (Or.inr ⟨1, rfl, rfl, rfl⟩) (by simp) rfl ?_
        refine hp_in (pc' := 95) (j := 2) (ls' := [some (.ref 244), some (.int x1), some (.int (x2 + Int32.ofInt 1))]) rfl rfl rfl rfl rfl ?_
        refine hp_go (t := 29) rfl rfl ?_
        exact ih (k + 1) _ _ (by omega) (by omega) (hp_i1 h2 (by omega)) h0
      · refine hp_al (pc' := 65) (j := 0) (Or.inr ⟨0, rfl, rfl, rfl⟩) rfl ?_
        refine hp_gr (pc' := 68) ha (hM.1 244 31 268 rfl) rfl rfl rfl rfl ?_
        refine hp_bi (pc' := 70) (x := 12) rfl rfl rfl ?_
        refine hp_al (pc' := 71) (j := 0) (Or.inr ⟨0, rfl, rfl, rfl⟩) rfl ?_
        refine hp_gr (pc' := 74) ha (hM.1 244 32 269 rfl) rfl rfl rfl rfl ?_
        refine hp_il (pc' := 75) (j := 2) (Or.inr ⟨2, rfl, rfl, rfl⟩) rfl ?_
        refine hp_ic (pc' := 76) (x := 1) rfl rfl rfl ?_
        refine hp_sub (pc' := 77) rfl rfl (fun z8 hz8 => ?_)
        have xz8 : z8.toInt = (((k - 1) : Nat) : Int) := hp_s1 h2 (by omega) hz8
        refine hp_ld (pc' := 78) (j := (k - 1)) ha xz8 (by omega) rfl rfl rfl ?_
        have f9 := cl_mo (hm (k - 1) (by omega))
        refine hp_mul (pc' := 79) rfl rfl (fun z10 hz10 => ?_)
        refine hp_al (pc' := 80) (j := 0) (Or.inr ⟨0, rfl, rfl, rfl⟩) rfl ?_
        refine hp_gr (pc' := 83) ha (hM.1 244 32 269 rfl) rfl rfl rfl rfl ?_
        refine hp_il (pc' := 84) (j := 2) (Or.inr ⟨2, rfl, rfl, rfl⟩) rfl ?_
        refine hp_ld (pc' := 85) (j := k) ha h2 (by omega) rfl rfl rfl ?_
        have f11 := cl_mo (hm k (by omega))
        refine hp_add (pc' := 86) rfl rfl (fun z12 hz12 => ?_)
        have xz12 : z12.toInt = (((12 * (cl_m M (k - 1)) + (cl_m M k)) : Nat) : Int) := hp_ix f9.1 f11.1 (by omega) (by omega) hz10 hz12
        refine hp_ld (pc' := 87) (j := (12 * (cl_m M (k - 1)) + (cl_m M k))) ha xz12 (by omega) rfl rfl rfl ?_
        refine hp_go (t := 91) rfl rfl ?_
        refine hp_is (pc' := 92) (j := 1) (ls' := [some (.ref 244), some (.int (M.1 268 (12 * (cl_m M (k - 1)) + (cl_m M k)))), some (.int x2)]) (Or.inr ⟨1, rfl, rfl, rfl⟩) (by simp) rfl ?_
        refine hp_in (pc' := 95) (j := 2) (ls' := [some (.ref 244), some (.int (M.1 268 (12 * (cl_m M (k - 1)) + (cl_m M k)))), some (.int (x2 + Int32.ofInt 1))]) rfl rfl rfl rfl rfl ?_
        refine hp_go (t := 29) rfl rfl ?_
        exact ih (k + 1) _ _ (by omega) (by omega) (hp_i1 h2 (by omega)) (hS.1 _ (by omega))
theorem rh_ok {c : Int} (ha : a.1 = rx_cells) (hM : hp_R M ∧ True) (hn : (M.1 244 33).toInt = (n : Int)) (hn2 : 2 ≤ n) (hn6 : n ≤ 6) (hm : ∀ i, i < n → 0 ≤ (M.1 269 i).toInt ∧ (M.1 269 i).toInt ≤ 11) (hS : fo_S c M) : hp X d 211 0 [some (.ref 244), none, none] [] a M (fun o => ∃ r : Int32, o = (some (.int r), a, M) ∧ 0 ≤ r.toInt) := by
  refine hp_al (pc' := 1) (j := 0) (Or.inr ⟨0, rfl, rfl, rfl⟩) rfl ?_
  refine hp_gr (pc' := 4) ha (hM.1 244 31 268 rfl) rfl rfl rfl rfl ?_
  refine hp_bi (pc' := 6) (x := 12) rfl rfl rfl ?_
  refine hp_al (pc' := 7) (j := 0) (Or.inr ⟨0, rfl, rfl, rfl⟩) rfl ?_
  refine hp_gr (pc' := 10) ha (hM.1 244 32 269 rfl) rfl rfl rfl rfl ?_
  refine hp_al (pc' := 11) (j := 0) (Or.inr ⟨0, rfl, rfl, rfl⟩) rfl ?_
  refine hp_gi (pc' := 14) (j := 33) (t := 0) ha rfl rfl rfl (by decide) rfl ?_
  refine hp_ic (pc' := 15) (x := 1) rfl rfl rfl ?_
  refine hp_sub (pc' := 16) rfl rfl (fun z1 hz1 => ?_)
  have xz1 : z1.toInt = (((n - 1) : Nat) : Int) := hp_s1 hn (by omega) hz1
  refine hp_ld (pc' := 17) (j := (n - 1)) ha xz1 (by omega) rfl rfl rfl ?_
  have f2 := cl_mo (hm (n - 1) (by omega))
  refine hp_mul (pc' := 18) rfl rfl (fun z3 hz3 => ?_)
  refine hp_al (pc' := 19) (j := 0) (Or.inr ⟨0, rfl, rfl, rfl⟩) rfl ?_
  refine hp_gr (pc' := 22) ha (hM.1 244 32 269 rfl) rfl rfl rfl rfl ?_
  refine hp_ic (pc' := 23) (x := 0) rfl rfl rfl ?_
  refine hp_ld (pc' := 24) (j := 0) ha rfl (by omega) rfl rfl rfl ?_
  have f4 := cl_mo (hm 0 (by omega))
  refine hp_add (pc' := 25) rfl rfl (fun z5 hz5 => ?_)
  have xz5 : z5.toInt = (((12 * (cl_m M (n - 1)) + (cl_m M 0)) : Nat) : Int) := hp_ix f2.1 f4.1 (by omega) (by omega) hz3 hz5
  refine hp_ld (pc' := 26) (j := (12 * (cl_m M (n - 1)) + (cl_m M 0))) ha xz5 (by omega) rfl rfl rfl ?_
  refine hp_is (pc' := 27) (j := 1) (ls' := [some (.ref 244), some (.int (M.1 268 (12 * (cl_m M (n - 1)) + (cl_m M 0)))), none]) (Or.inr ⟨1, rfl, rfl, rfl⟩) (by simp) rfl ?_
  refine hp_ic (pc' := 28) (x := 1) rfl rfl rfl ?_
  refine hp_is (pc' := 29) (j := 2) (ls' := [some (.ref 244), some (.int (M.1 268 (12 * (cl_m M (n - 1)) + (cl_m M 0)))), some (.int (1 : Int32))]) (Or.inr ⟨2, rfl, rfl, rfl⟩) (by simp) rfl ?_
  exact rh_29 ha hM hn hn2 hn6 hm hS (n - 1) 1 _ _ (by omega) (Nat.le_refl _) rfl (hS.1 _ (by omega))
noncomputable def cl_F (Ms M : rx_M) : Prop := ∀ q j, q ≠ 255 → q ≠ 256 → M.1 q j = Ms.1 q j
theorem cl_I1 {M1 : rx_M} {k : Nat} {z : Int32} (h : ∀ i, i < k → M.1 256 (6 * E + i) = Ms.1 269 i) (e : M1.1 = rx_up M.1 256 (6 * E + k) z) (hz : z = Ms.1 269 k) : ∀ i, i < k + 1 → M1.1 256 (6 * E + i) = Ms.1 269 i := by
  intro i hi
  rw [e]
  by_cases q : i = k
  · rw [q, hp_up_eq]
    exact hz
  · rw [hp_up_ne (by omega)]
    exact h i (by omega)
theorem cl_34 (ha : a.1 = rx_cells) (hE : E < 150) (hn6 : n ≤ 6) (hT : hr_T Ms n) (hn0 : (Ms.1 244 33).toInt = (n : Int)) : ∀ (m k : Nat) (x2 : Int32) (M : rx_M), m + k = n → x2.toInt = (k : Int) → ei_I ax_w_181 M0 a0 M a → (M.1 244 7).toInt = (E : Int) → (M.1 255 E).toInt = (n : Int) → cl_F Ms M → (∀ i, i < k → M.1 256 (6 * E + i) = Ms.1 269 i) → (∀ x2 M, ei_I ax_w_181 M0 a0 M a → (M.1 244 7).toInt = (E : Int) → (M.1 255 E).toInt = (n : Int) → cl_F Ms M → (∀ i, i < n → M.1 256 (6 * E + i) = Ms.1 269 i) → hp X d 213 68 [some (.ref 244), some (.int x1), some (.int x2)] [] a M P) → hp X d 213 34 [some (.ref 244), some (.int x1), some (.int x2)] [] a M P := by
  intro m
  induction m with
  | zero =>
    intro k x2 M hb h2 hM sM tM FM hI kk
    have e33 : M.1 244 33 = Ms.1 244 33 := FM 244 33 (by omega) (by omega)
    have hn : (M.1 244 33).toInt = (n : Int) := by rw [e33]; exact hn0
    refine hp_il (pc' := 35) (j := 2) (Or.inr ⟨2, rfl, rfl, rfl⟩) rfl ?_
    refine hp_al (pc' := 36) (j := 0) (Or.inr ⟨0, rfl, rfl, rfl⟩) rfl ?_
    refine hp_gi (pc' := 39) (j := 33) (t := 0) ha rfl rfl rfl (by decide) rfl ?_
    refine hp_ige (t := 68) (pc' := 42) rfl rfl rfl (fun c1 => ?_) (fun c1 => ?_)
    · have e : k = n := by omega
      rw [e] at hI
      exact kk _ M hM sM tM FM hI
    · exfalso
      omega
  | succ m ih =>
    intro k x2 M hb h2 hM sM tM FM hI kk
    have e33 : M.1 244 33 = Ms.1 244 33 := FM 244 33 (by omega) (by omega)
    have hn : (M.1 244 33).toInt = (n : Int) := by rw [e33]; exact hn0
    refine hp_il (pc' := 35) (j := 2) (Or.inr ⟨2, rfl, rfl, rfl⟩) rfl ?_
    refine hp_al (pc' := 36) (j := 0) (Or.inr ⟨0, rfl, rfl, rfl⟩) rfl ?_
    refine hp_gi (pc' := 39) (j := 33) (t := 0) ha rfl rfl rfl (by decide) rfl ?_
    refine hp_ige (t := 68) (pc' := 42) rfl rfl rfl (fun c1 => ?_) (fun c1 => ?_)
    · exfalso
      omega
    · refine hp_al (pc' := 43) (j := 0) (Or.inr ⟨0, rfl, rfl, rfl⟩) rfl ?_
      refine hp_gr (pc' := 46) ha (hM.1.2.1 244 15 256 rfl) rfl rfl rfl rfl ?_
      refine hp_bi (pc' := 48) (x := 6) rfl rfl rfl ?_
      refine hp_al (pc' := 49) (j := 0) (Or.inr ⟨0, rfl, rfl, rfl⟩) rfl ?_
      refine hp_gi (pc' := 52) (j := 7) (t := 0) ha rfl rfl rfl (by decide) rfl ?_
      refine hp_mul (pc' := 53) rfl rfl (fun z2 hz2 => ?_)
      have xz2 : z2.toInt = (((6 * E) : Nat) : Int) := hp_m6 sM (by omega) hz2
      refine hp_il (pc' := 54) (j := 2) (Or.inr ⟨2, rfl, rfl, rfl⟩) rfl ?_
      refine hp_add (pc' := 55) rfl rfl (fun z3 hz3 => ?_)
      have xz3 : z3.toInt = (((6 * E + k) : Nat) : Int) := hp_aa xz2 h2 (by omega) hz3
      refine hp_al (pc' := 56) (j := 0) (Or.inr ⟨0, rfl, rfl, rfl⟩) rfl ?_
      refine hp_gr (pc' := 59) ha (hM.1.2.1 244 32 269 rfl) rfl rfl rfl rfl ?_
      refine hp_il (pc' := 60) (j := 2) (Or.inr ⟨2, rfl, rfl, rfl⟩) rfl ?_
      refine hp_ld (pc' := 61) (j := k) ha h2 (by omega) rfl rfl rfl ?_
      refine hp_st (pc' := 62) (j := (6 * E + k)) ha xz3 (by omega) rfl rfl rfl (fun M4 eM4 gM4 => ?_)
      have e269 : M.1 269 k = Ms.1 269 k := FM 269 k (by omega) (by omega)
      have q269 := hT.1 k (by omega)
      have hM4 := ei_w hM (cl_wd 256 _ (by omega)) (show (0 : Int) ≤ ((M.1 269 k) : Int32).toInt ∧ ((M.1 269 k) : Int32).toInt ≤ 11 by rw [e269]; exact q269) (ei_G5 hM.1.2.2 (Or.inr ⟨rfl, by omega⟩)) eM4 gM4
      have tM4 : (M4.1 255 E).toInt = (n : Int) := by
        rw [eM4, hp_up_ne (by omega)]
        exact tM
      have sM4 : (M4.1 244 7).toInt = (E : Int) := by
        rw [eM4, hp_up_ne (by omega)]
        exact sM
      have FM4 : cl_F Ms M4 := fun q j q1 q2 => (show M4.1 q j = M.1 q j by rw [eM4, hp_up_ne (by omega)]).trans (FM q j q1 q2)
      refine hp_in (pc' := 65) (j := 2) (ls' := [some (.ref 244), some (.int x1), some (.int (x2 + Int32.ofInt 1))]) rfl rfl rfl rfl rfl ?_
      refine hp_go (t := 34) rfl rfl ?_
      exact ih (k + 1) _ M4 (by omega) (hp_i1 h2 (by omega)) hM4 sM4 tM4 FM4 (cl_I1 hI eM4 e269) kk
theorem cl_2 (hd : 5 ≤ d) : ∀ (m E c : Nat) (x1 : Int32) (o2 : Option Value) (M : rx_M) (a : rx_K), m + E = 150 → a.1 = rx_cells → x1.toInt = (c : Int) → c ≤ E → ei_I ax_w_181 M0 a0 M a → (M.1 244 7).toInt = (E : Int) → E ≤ 150 → hp X (d + 4) 213 2 [some (.ref 244), some (.int x1), o2] [] a M (hy_Q ax_w_181 (some (some (0, 150))) a0 M0) := by
  intro m
  induction m with
  | zero =>
    intro E c x1 o2 M a hb ha h1 hc hM sM hE1
    have z150 : (150 : Int32).toInt = 150 := rfl
    refine hp_al (pc' := 3) (j := 0) (Or.inr ⟨0, rfl, rfl, rfl⟩) rfl ?_
    refine hp_gi (pc' := 6) (j := 7) (t := 0) ha rfl rfl rfl (by decide) rfl ?_
    refine hp_si (pc' := 9) (x := 150) rfl rfl rfl ?_
    refine hp_ige (t := 101) (pc' := 12) rfl rfl rfl (fun c1 => ?_) (fun c1 => ?_)
    · refine hp_il (pc' := 102) (j := 1) (Or.inr ⟨1, rfl, rfl, rfl⟩) rfl ?_
      refine hp_ri rfl rfl ?_
      exact ei_Q hM (show (0 : Int) ≤ x1.toInt ∧ x1.toInt ≤ 150 by omega) (by decide)
    · exfalso
      omega
  | succ m ih =>
    intro E c x1 o2 M a hb ha h1 hc hM sM hE1
    have hE : E < 150 := by omega
    have z150 : (150 : Int32).toInt = 150 := rfl
    refine hp_al (pc' := 3) (j := 0) (Or.inr ⟨0, rfl, rfl, rfl⟩) rfl ?_
    refine hp_gi (pc' := 6) (j := 7) (t := 0) ha rfl rfl rfl (by decide) rfl ?_
    refine hp_si (pc' := 9) (x := 150) rfl rfl rfl ?_
    refine hp_ige (t := 101) (pc' := 12) rfl rfl rfl (fun c1 => ?_) (fun c1 => ?_)
    · refine hp_il (pc' := 102) (j := 1) (Or.inr ⟨1, rfl, rfl, rfl⟩) rfl ?_
      refine hp_ri rfl rfl ?_
      exact ei_Q hM (show (0 : Int) ≤ x1.toInt ∧ x1.toInt ≤ 150 by omega) (by decide)
    · refine hp_al (pc' := 13) (j := 0) (Or.inr ⟨0, rfl, rfl, rfl⟩) rfl ?_
      refine hp_cv (Q := fr_Q M0 a0 M) (pc' := 16) (e := d + 3) (vs := []) (r := []) ha rfl rfl rfl rfl rfl rfl rfl rfl (fr_ok hd ha hM) (fun o ho => ?_)
      obtain ⟨r1, Ms, a, eo, b1, hMs, EMs, TMs⟩ := ho
      subst eo
      refine ⟨_, rfl, ?_⟩
      have has : a.1 = rx_cells := hMs.2.2.1
      have ha := has
      have sMs : (Ms.1 244 7).toInt = (E : Int) := by rw [EMs]; exact sM
      show hp X (d + 4) 213 16 [some (.ref 244), some (.int x1), o2] [.int r1] a Ms _
      refine hp_zeq (t := 101) (pc' := 19) rfl rfl rfl (fun c2 => ?_) (fun c2 => ?_)
      · refine hp_il (pc' := 102) (j := 1) (Or.inr ⟨1, rfl, rfl, rfl⟩) rfl ?_
        refine hp_ri rfl rfl ?_
        exact ei_Q hMs (show (0 : Int) ≤ x1.toInt ∧ x1.toInt ≤ 150 by omega) (by decide)
      · obtain ⟨n, hn2, hn6, hn, hT, hS⟩ := TMs (by assumption)
        have FMs : cl_F Ms Ms := fun _ _ _ _ => rfl
        refine hp_al (pc' := 20) (j := 0) (Or.inr ⟨0, rfl, rfl, rfl⟩) rfl ?_
        refine hp_gr (pc' := 23) ha (hMs.1.2.1 244 14 255 rfl) rfl rfl rfl rfl ?_
        refine hp_al (pc' := 24) (j := 0) (Or.inr ⟨0, rfl, rfl, rfl⟩) rfl ?_
        refine hp_gi (pc' := 27) (j := 7) (t := 0) ha rfl rfl rfl (by decide) rfl ?_
        refine hp_al (pc' := 28) (j := 0) (Or.inr ⟨0, rfl, rfl, rfl⟩) rfl ?_
        refine hp_gi (pc' := 31) (j := 33) (t := 0) ha rfl rfl rfl (by decide) rfl ?_
        refine hp_st (pc' := 32) (j := E) ha sMs (by omega) rfl rfl rfl (fun M3 eM3 gM3 => ?_)
        have hM3 := ei_w hMs (cl_wd 255 _ (by omega)) (show (0 : Int) ≤ ((Ms.1 244 33) : Int32).toInt ∧ ((Ms.1 244 33) : Int32).toInt ≤ 6 by omega) (ei_G5 hMs.1.2.2 (Or.inl ⟨rfl, by omega⟩)) eM3 gM3
        have tM3 : (M3.1 255 E).toInt = (n : Int) := by
          rw [eM3, hp_up_eq]
          exact hn
        have sM3 : (M3.1 244 7).toInt = (E : Int) := by
          rw [eM3, hp_up_ne (by omega)]
          exact sMs
        have FM3 : cl_F Ms M3 := fun q j q1 q2 => (show M3.1 q j = Ms.1 q j by rw [eM3, hp_up_ne (by omega)]).trans (FMs q j q1 q2)
        refine hp_ic (pc' := 33) (x := 0) rfl rfl rfl ?_
        refine hp_is (pc' := 34) (j := 2) (ls' := [some (.ref 244), some (.int x1), some (.int (0 : Int32))]) (Or.inr ⟨2, rfl, rfl, rfl⟩) (by simp) rfl ?_
        refine cl_34 (d := d + 4) ha hE hn6 hT hn n 0 _ M3 (Nat.add_zero _) rfl hM3 sM3 tM3 FM3 (fun i hi => absurd hi (Nat.not_lt_zero _)) (fun x2 M hM sM tM FM hI => ?_)
        have m0 : M.1 269 0 = Ms.1 269 0 := FM 269 0 (by omega) (by omega)
        have m1 : M.1 269 1 = Ms.1 269 1 := FM 269 1 (by omega) (by omega)
        have b0 := hT.1 0 (by omega)
        have b1 := hT.1 1 (by omega)
        have e33 : (M.1 244 33).toInt = (n : Int) := by
          rw [FM 244 33 (by omega) (by omega)]
          exact hn
        have hmM : ∀ i, i < n → 0 ≤ (M.1 269 i).toInt ∧ (M.1 269 i).toInt ≤ 11 := fun i hi => by
          rw [FM 269 i (by omega) (by omega)]
          exact hT.1 i hi
        have SM : fo_S 4698000 M := fo_Se hS (fun j => FM 268 j (by omega) (by omega))
        refine hp_al (pc' := 69) (j := 0) (Or.inr ⟨0, rfl, rfl, rfl⟩) rfl ?_
        refine hp_ic (pc' := 70) (x := 5) rfl rfl rfl ?_
        refine hp_al (pc' := 71) (j := 0) (Or.inr ⟨0, rfl, rfl, rfl⟩) rfl ?_
        refine hp_gi (pc' := 74) (j := 2) (t := 0) ha rfl rfl rfl (by decide) rfl ?_
        refine hp_al (pc' := 75) (j := 0) (Or.inr ⟨0, rfl, rfl, rfl⟩) rfl ?_
        refine hp_gr (pc' := 78) ha (hM.1.2.1 244 32 269 rfl) rfl rfl rfl rfl ?_
        refine hp_ic (pc' := 79) (x := 0) rfl rfl rfl ?_
        refine hp_ld (pc' := 80) (j := 0) ha rfl (by omega) rfl rfl rfl ?_
        refine hp_al (pc' := 81) (j := 0) (Or.inr ⟨0, rfl, rfl, rfl⟩) rfl ?_
        refine hp_gr (pc' := 84) ha (hM.1.2.1 244 32 269 rfl) rfl rfl rfl rfl ?_
        refine hp_ic (pc' := 85) (x := 1) rfl rfl rfl ?_
        refine hp_ld (pc' := 86) (j := 1) ha rfl (by omega) rfl rfl rfl ?_
        refine hp_al (pc' := 87) (j := 0) (Or.inr ⟨0, rfl, rfl, rfl⟩) rfl ?_
        refine hp_cv (Q := fun o => ∃ r : Int32, o = (some (.int r), a, M) ∧ 0 ≤ r.toInt) (pc' := 90) (e := (d + 3)) (vs := []) (r := [.int (M.1 269 1), .int (M.1 269 0), .int (M.1 244 2), .int (5 : Int32), .ref 244]) ha rfl rfl rfl rfl rfl rfl rfl rfl (rh_ok ha ⟨hM.1.2.1, trivial⟩ e33 hn2 hn6 hmM SM) (fun o ho => ?_)
        obtain ⟨r61, eo, qr61⟩ := ho
        subst eo
        refine ⟨_, rfl, ?_⟩
        show hp X ((d + 3) + 1) 213 90 [some (.ref 244), some (.int x1), some (.int x2)] [.int r61, .int (M.1 269 1), .int (M.1 269 0), .int (M.1 244 2), .int (5 : Int32), .ref 244] a M _
        refine hp_ic (pc' := 91) (x := 0) rfl rfl rfl ?_
        refine hp_cv (Q := en_Q ax_w_181 M0 a0 E M a) (pc' := 94) (e := (d + 3)) (vs := [.int (5 : Int32), .int (M.1 244 2), .int (M.1 269 0), .int (M.1 269 1), .int r61, .int (0 : Int32)]) (r := []) ha rfl rfl rfl rfl rfl rfl rfl rfl (en_ok cl_wd ha hM sM hE rfl (hM.1.1 244 2) (by rw [m0]; omega) (by rw [m1]; omega) qr61 (by decide) (fun i j q1 q2 q3 => by
            rw [hI i (by omega), hI j (by omega)]
            exact hT.2 i j q1 (by omega))) (fun o ho => ?_)
        obtain ⟨y62, M63, eo, hy62, hM63, sM63, tM63⟩ := ho
        subst eo
        refine ⟨_, rfl, ?_⟩
        show hp X ((d + 3) + 1) 213 94 [some (.ref 244), some (.int x1), some (.int x2)] [.int y62] a M63 _
        refine hp_pop (pc' := 95) rfl rfl rfl ?_
        refine hp_in (pc' := 98) (j := 1) (ls' := [some (.ref 244), some (.int (x1 + Int32.ofInt 1)), some (.int x2)]) rfl rfl rfl rfl rfl ?_
        refine hp_go (t := 2) rfl rfl ?_
        exact ih (E + 1) (c + 1) _ _ M63 _ (by omega) ha (hp_i1 h1 (by omega)) (by omega) hM63 sM63 (by omega)
theorem cl_ok (hd : 5 ≤ d) (ha : a.1 = rx_cells) (hJ : ax_J0 ax_sp ax_rf M) : hp X (d + 4) 213 0 [some (.ref 244), none, none] [] a M (hy_Q ax_w_181 (some (some (0, 150))) a M) := by
  have hE : 0 ≤ (M.1 244 7).toInt ∧ (M.1 244 7).toInt ≤ 150 := hJ.1 244 7
  refine hp_ic (pc' := 1) (x := 0) rfl rfl rfl ?_
  refine hp_is (pc' := 2) (j := 1) (ls' := [some (.ref 244), some (.int (0 : Int32)), none]) (Or.inr ⟨1, rfl, rfl, rfl⟩) (by simp) rfl ?_
  exact cl_2 hd (150 - (M.1 244 7).toInt.toNat) (M.1 244 7).toInt.toNat 0 _ _ M a (by omega) ha rfl (Nat.zero_le _) (ei_0 hJ ha) (by omega) (by omega)
end CL
theorem ax_y_181 {X : Nat × (Nat → Int32)} : ax_Y1 X ax_sp ax_rf ax_s_181 := hy_Y (c := ax_c_181_0) (D := 9) (fun v M a d hd _ _ hJ ha => by
  obtain ⟨e, rfl⟩ : ∃ e, d = e + 4 := ⟨d - 4, by omega⟩
  exact cl_ok (d := e) (by omega) ha hJ)
