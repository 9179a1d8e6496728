/-! the reference's debts, by hand: what is kept of them; calls of what the engine told -/
section HY
variable {X : Nat × (Nat → Int32)} {d : Nat} {a : rx_K} {M : rx_M}
/-- what a summary leaves, for runs by hand -/
noncomputable def hy_Q (w : ax_D) (an : ax_an) (a : rx_K) (M : rx_M) (o : rx_O) : Prop := ax_an1 an o.1 ∧ ax_J0 ax_sp ax_rf o.2.2 ∧ (∀ q j, ¬ ax_wd w q j → o.2.2.1 q j = M.1 q j ∧ o.2.2.2.1 q j = M.2.1 q j) ∧ o.2.1.1 = rx_cells ∧ o.2.1.2.1 ≤ a.2.1 ∧ o.2.1.2.2 ≤ a.2.2
theorem hy_go {s : ax_s9} (hY : ax_Y1 X ax_sp ax_rf s) {E : ax_E} {K : ax_K} {ls : List (Option Value)} {v : ax_V} (hc : s.2.1 E K d ls = true) (h1 : ax_wf E) (h2 : ax_ok v E) (h3 : ax_kw E.1 K) (hJ : ax_J0 ax_sp ax_rf M) (hK : ax_kn v K M) (ha : a.1 = rx_cells) : hp X d s.1 0 (ax_ls v ls) [] a M (hy_Q s.2.2.1 s.2.2.2.1 a M) := by
  obtain ⟨f, o, k1, k2, k3⟩ := hY (([], []), (M.1, M.2.1, (a.2.1, a.2.2)), (0, v)) E K d ls v M a hc ⟨h1, h2, h3, ⟨hJ.1, hJ.2.1, fun _ _ _ => ⟨rfl, rfl⟩, hJ.2.2⟩, hK, ⟨ha, Nat.le_refl _, Nat.le_refl _⟩, rfl, Nat.zero_le _, fun _ h => absurd h (Nat.not_lt_zero _)⟩
  obtain ⟨q1, q2, -, -, -, -, q3⟩ := k2
  have q4 := ax_mA_le q3
  exact ⟨f, o, k1, q1, ⟨q2.1, q2.2.1, q2.2.2.2⟩, q2.2.2.1, k3, q4.1, q4.2⟩
theorem hy_k {v : ax_V} {q : Nat} {y w : Value} (hy : sx_isI y = true) (hw : sx_isI w = true) (h : M.1 q (ax_vi v y).toNatClampNeg = ax_vi v w) : ax_k1 v M (q, y, w) := ⟨hy, Or.inl ⟨hw, h⟩⟩
theorem hy_n {x : Int32} {j : Nat} (h : x.toInt = (j : Int)) : x.toNatClampNeg = j := by
  have := ax_clamp (x := x) (by omega)
  omega
end HY
/-- the debts: none below 0, all together no more than c -/
noncomputable def fo_T (f : Nat → Int32) : Nat → Int
  | 0 => 0
  | n + 1 => fo_T f n + (f n).toInt
noncomputable def fo_S (c : Int) (M : rx_M) : Prop := (∀ j, j < 144 → 0 ≤ (M.1 268 j).toInt) ∧ fo_T (M.1 268) 144 ≤ c
theorem fo_Te {f g : Nat → Int32} : ∀ n, (∀ i, i < n → g i = f i) → fo_T g n = fo_T f n
  | 0, _ => rfl
  | n + 1, h => by
    show fo_T g n + (g n).toInt = fo_T f n + (f n).toInt
    rw [fo_Te n (fun i hi => h i (by omega)), h n (by omega)]
theorem fo_Tu {f g : Nat → Int32} {j : Nat} {z : Int32} (hj2 : g j = z) (hn : ∀ i, i ≠ j → g i = f i) : ∀ n, j < n → fo_T g n = fo_T f n - (f j).toInt + z.toInt
  | 0, h => absurd h (Nat.not_lt_zero _)
  | n + 1, h => by
    show fo_T g n + (g n).toInt = fo_T f n + (f n).toInt - (f j).toInt + z.toInt
    by_cases q : j = n
    · have e1 : fo_T g n = fo_T f n := fo_Te n (fun i hi => hn i (by omega))
      rw [e1, ← q, hj2]
      omega
    · have ih := fo_Tu hj2 hn n (by omega)
      rw [ih, hn n (fun z => q z.symm)]
      omega
theorem fo_T0 {f : Nat → Int32} : ∀ n, (∀ i, i < n → 0 ≤ (f i).toInt) → 0 ≤ fo_T f n
  | 0, _ => Int.le_refl _
  | n + 1, h => by
    have ih := fo_T0 n (fun i hi => h i (by omega))
    have := h n (by omega)
    show 0 ≤ fo_T f n + (f n).toInt
    omega
theorem fo_Tl {f : Nat → Int32} {j : Nat} : ∀ n, (∀ i, i < n → 0 ≤ (f i).toInt) → j < n → (f j).toInt ≤ fo_T f n
  | 0, _, h => absurd h (Nat.not_lt_zero _)
  | n + 1, h, hj => by
    show (f j).toInt ≤ fo_T f n + (f n).toInt
    have h1 := h n (by omega)
    by_cases q : j = n
    · have := fo_T0 n (fun i hi => h i (by omega))
      rw [q]
      omega
    · have := fo_Tl (j := j) n (fun i hi => h i (by omega)) (by omega)
      omega
theorem fo_Sl {c : Int} {M : rx_M} {j : Nat} (h : fo_S c M) (hj : j < 144) : 0 ≤ (M.1 268 j).toInt ∧ (M.1 268 j).toInt ≤ c := ⟨h.1 j hj, Int.le_trans (fo_Tl 144 h.1 hj) h.2⟩
theorem fo_Sw {c c' : Int} {M M1 : rx_M} {j : Nat} {z : Int32} (h : fo_S c M) (e : M1.1 = rx_up M.1 268 j z) (hj : j < 144) (h0 : 0 ≤ z.toInt) (h1 : z.toInt + c ≤ (M.1 268 j).toInt + c') : fo_S c' M1 := by
  have q1 : M1.1 268 j = z := by rw [e, hp_up_eq]
  have q2 : ∀ i, i ≠ j → M1.1 268 i = M.1 268 i := fun i hi => by rw [e, hp_up_ne (fun w => hi w.2)]
  refine ⟨fun i hi => ?_, ?_⟩
  · by_cases q : i = j
    · rw [q, q1]
      exact h0
    · rw [q2 i q]
      exact h.1 i hi
  · have := fo_Tu q1 q2 144 hj
    have := h.2
    omega
theorem fo_Se {c : Int} {M M1 : rx_M} (h : fo_S c M) (e : ∀ j, M1.1 268 j = M.1 268 j) : fo_S c M1 := by
  refine ⟨fun i hi => ?_, ?_⟩
  · rw [e]
    exact h.1 i hi
  · rw [fo_Te (f := M.1 268) 144 (fun i _ => e i)]
    exact h.2
/-- two of death's writes -/
theorem fo_Sd {c : Int} {M M1 M2 : rx_M} {i j : Nat} {z w : Int32} (h : fo_S c M) (e1 : M1.1 = rx_up M.1 268 i z) (e2 : M2.1 = rx_up M1.1 268 j w) (hi : i < 144) (hj : j < 144) (hz : z.toInt = (M.1 268 i).toInt + (M.1 268 j).toInt) (hw : w.toInt = 0) : fo_S c M2 := by
  have b1 := h.1 i hi
  have b2 := h.1 j hj
  have s1 : fo_S (c + (M.1 268 j).toInt) M1 := fo_Sw h e1 hi (by omega) (by omega)
  refine fo_Sw s1 e2 hj (by omega) ?_
  by_cases q : j = i
  · rw [e1, q, hp_up_eq]
    rw [q] at hz
    omega
  · rw [e1, hp_up_ne (fun w => q w.2)]
    omega
noncomputable def fo_I (M0 : rx_M) (a0 : rx_K) (M : rx_M) (a : rx_K) : Prop := hp_R M ∧ ax_J0 ax_sp ax_rf M ∧ (∀ q j, ¬ ax_wd ax_w_158 q j → M.1 q j = M0.1 q j ∧ M.2.1 q j = M0.2.1 q j) ∧ a.1 = rx_cells ∧ a.2.1 ≤ a0.2.1 ∧ a.2.2 ≤ a0.2.2
theorem fo_nd {q j : Nat} (h : (q < 259 ∧ q ≠ 244) ∨ 268 < q ∨ (q = 244 ∧ j < 19)) : ¬ ax_wd ax_w_158 q j := by
  rintro (k | ⟨e, he, k1, k2⟩)
  · unfold ax_wsl at k
    obtain ⟨s, hs, k2⟩ := List.any_eq_true.mp k
    rw [Bool.and_eq_true] at k2
    have e1 := Nat.eq_of_beq_eq_true k2.1
    have e2 := Nat.eq_of_beq_eq_true k2.2
    have hs : s ∈ [(244, 19), (244, 20), (244, 21), (244, 30)] := hs
    simp only [List.mem_cons, List.not_mem_nil, or_false] at hs
    rcases hs with r | r | r | r <;> (subst r; dsimp only at e1 e2; omega)
  · have he : e ∈ [((259 : Int), (268 : Int))] := he
    simp only [List.mem_cons, List.not_mem_nil, or_false] at he
    subst he
    dsimp only at k1 k2
    omega
theorem fo_e {M0 M : rx_M} {a0 a : rx_K} (h : fo_I M0 a0 M a) {q j : Nat} (hq : (q < 259 ∧ q ≠ 244) ∨ 268 < q ∨ (q = 244 ∧ j < 19)) : M.1 q j = M0.1 q j := (h.2.2.1 q j (fo_nd hq)).1
theorem fo_q8 : ax_quiet 268 268 = true := by decide
theorem fo_sp8 : ∀ j, ax_sp 268 j = sx_full := fun _ => rfl
theorem fo_wd8 (j : Nat) : ax_wd ax_w_158 268 j := Or.inr ⟨(259, 268), List.mem_cons_self, by decide, by decide⟩
theorem fo_w {M0 M M1 : rx_M} {a0 a : rx_K} {j : Nat} {z : Int32} (h : fo_I M0 a0 M a) (e : M1.1 = rx_up M.1 268 j z) (g : M1.2 = M.2) : fo_I M0 a0 M1 a := by
  refine ⟨hp_Re h.1 g, ⟨fun q k => ?_, hp_Re h.2.1.2.1 g, ?_⟩, fun q k hq => ⟨?_, ?_⟩, h.2.2.2⟩
  · rw [e]
    by_cases hk : q = 268 ∧ k = j
    · rw [hk.1, hk.2, hp_up_eq, fo_sp8]
      exact ax_full_ok z
    · rw [hp_up_ne hk]
      exact h.2.1.1 q k
  · rw [e]
    exact ax_G_free h.2.1.2.2 fo_q8 (by decide) (by decide) (by omega) (by omega)
  · rw [e, hp_up_ne (fun w => hq (by rw [w.1]; exact fo_wd8 k))]
    exact (h.2.2.1 q k hq).1
  · rw [g]
    exact (h.2.2.1 q k hq).2
