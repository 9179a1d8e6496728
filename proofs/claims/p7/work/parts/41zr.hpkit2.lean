/-! runs by hand: calls of any object's methods, static ones, rows of a matrix, the script, copies of rows -/
section HK2
variable {X : Nat × (Nat → Int32)} {d i pc pc' : Nat} {ls ls' : List (Option Value)} {st : List Value} {a : rx_K} {M : rx_M} {P : rx_O → Prop}
theorem hp_cx {x j n e q : Nat} {vs r : List Value} {Q : rx_O → Prop} (ha : a.1 = rx_cells) (ht : rx_tb i pc = some (.invokevirtual x)) (hm : rx_ml (rx_cn i) x = some (0, j, n)) (hl : rx_lay q = some (.inl (rx_cn j))) (hd : st.drop n = .ref q :: r) (hv : (st.take n).reverse = vs) (h8 : (rx_cat1 (st.take n) && rx_c8 r && Nat.beq (st.take n).length n) = true) (e2 : pc + 3 = pc') (he : d = e + 1)
    (hq : hp X e j 0 ((.ref q :: vs).map some ++ List.replicate (rx_mx j - (vs.length + 1)) none) [] a M Q) (k : ∀ o, Q o → ∃ c2, rx_res i (pc', ls, r, a, M) o.1 o.2.1 o.2.2 = some c2 ∧ hp X d i c2.1 c2.2.1 c2.2.2.1 c2.2.2.2.1 c2.2.2.2.2 P) : hp X d i pc ls st a M P := by
  subst e2 he hv
  obtain ⟨f1, o, h1, h2⟩ := hq
  obtain ⟨c2, h3, f2, o2, h4, h5⟩ := k o h2
  have g : rx_stp X i (pc, ls, st, a, M) = some (.inr (.inl (j, .ref q :: (st.take n).reverse, (pc + 3, ls, r, a, M)))) := by
    rw [hp_q ht]
    show rx_inv 0 (rx_cn i) x pc ls st a M = _
    unfold rx_inv
    rw [hm]
    show cond (Nat.beq 0 (rx_kw 0)) (cond (Nat.beq 0 1) (cond (rx_cat1 (st.take n) && rx_c8 (st.drop n) && Nat.beq (st.take n).length n) (some (Sum.inr (Sum.inl (j, (st.take n).reverse, (pc + 3, ls, st.drop n, a, M))))) none) (match st.drop n with
          | .ref b :: r => match rx_lay b with
            | some (.inl c) => if b < a.1 then (if c = rx_cn j then cond (rx_cat1 (st.take n) && rx_c8 r && Nat.beq (st.take n).length n) (some (Sum.inr (Sum.inl (j, Value.ref b :: (st.take n).reverse, (pc + 3, ls, r, a, M))))) none else none) else none
            | _ => none
          | _ => none)) none = _
    rw [show Nat.beq 0 (rx_kw 0) = true from rfl, Bool.cond_true, show Nat.beq 0 1 = false from rfl, Bool.cond_false, hd]
    dsimp only
    rw [hl]
    dsimp only
    rw [if_pos (by rw [ha]; exact ax_lay_lt hl), if_pos rfl, h8, Bool.cond_true]
  refine ⟨max f1 f2 + 1, o2, ?_, h5⟩
  unfold rx_go
  rw [g]
  dsimp only
  have e1 : rx_ent j (.ref q :: (st.take n).reverse) a M = (0, (.ref q :: (st.take n).reverse).map some ++ List.replicate (rx_mx j - ((st.take n).reverse.length + 1)) none, [], a, M) := rfl
  rw [e1, rx_go_up (Nat.le_max_left f1 f2) h1]
  dsimp only
  rw [h3]
  exact rx_go_up (Nat.le_max_right f1 f2) h4
theorem hp_cs {x j n e kd : Nat} {vs r : List Value} {Q : rx_O → Prop} (ht : rx_tb i pc = some (.invokestatic x)) (hm : rx_ml (rx_cn i) x = some (kd, j, n)) (hk : kd = 1 ∨ kd = 4) (hd : st.drop n = r) (hv : (st.take n).reverse = vs) (h8 : (rx_cat1 (st.take n) && rx_c8 r && Nat.beq (st.take n).length n) = true) (e2 : pc + 3 = pc') (he : d = e + 1)
    (hq : hp X e j 0 (vs.map some ++ List.replicate (rx_mx j - vs.length) none) [] a M Q) (k : ∀ o, Q o → ∃ c2, rx_res i (pc', ls, r, a, M) o.1 o.2.1 o.2.2 = some c2 ∧ hp X d i c2.1 c2.2.1 c2.2.2.1 c2.2.2.2.1 c2.2.2.2.2 P) : hp X d i pc ls st a M P := by
  subst e2 he hv hd
  obtain ⟨f1, o, h1, h2⟩ := hq
  obtain ⟨c2, h3, f2, o2, h4, h5⟩ := k o h2
  have g : rx_stp X i (pc, ls, st, a, M) = some (.inr (.inl (j, (st.take n).reverse, (pc + 3, ls, st.drop n, a, M)))) := by
    rw [hp_q ht]
    show rx_inv 1 (rx_cn i) x pc ls st a M = _
    unfold rx_inv
    rw [hm]
    rcases hk with rfl | rfl
    · show cond true (cond true (cond (rx_cat1 (st.take n) && rx_c8 (st.drop n) && Nat.beq (st.take n).length n) (some (Sum.inr (Sum.inl (j, (st.take n).reverse, (pc + 3, ls, st.drop n, a, M))))) none) _) none = _
      rw [Bool.cond_true, Bool.cond_true, h8, Bool.cond_true]
    · show cond true (cond true (cond (rx_cat1 (st.take n) && rx_c8 (st.drop n) && Nat.beq (st.take n).length n) (some (Sum.inr (Sum.inl (j, (st.take n).reverse, (pc + 3, ls, st.drop n, a, M))))) none) _) none = _
      rw [Bool.cond_true, Bool.cond_true, h8, Bool.cond_true]
  refine ⟨max f1 f2 + 1, o2, ?_, h5⟩
  unfold rx_go
  rw [g]
  dsimp only
  have e1 : rx_ent j ((st.take n).reverse) a M = (0, ((st.take n).reverse).map some ++ List.replicate (rx_mx j - (st.take n).reverse.length) none, [], a, M) := rfl
  rw [e1, rx_go_up (Nat.le_max_left f1 f2) h1]
  dsimp only
  rw [h3]
  exact rx_go_up (Nat.le_max_right f1 f2) h4
theorem hp_aal {q n j z : Nat} {y : Int32} (ha : a.1 = rx_cells) (hr : M.2.1 q j = some z) (hy : y.toInt = (j : Int)) (hj : j < n) (ht : rx_tb i pc = some .aaload) (hl : rx_lay q = some (.inr (2, n))) (e : pc + 1 = pc') (k : hp X d i pc' ls (.ref z :: st) a M P) : hp X d i pc ls (.int y :: .ref q :: st) a M P := by
  subst e
  have h9 := ax_clamp (x := y) (by omega)
  have hn : y.toNatClampNeg = j := by omega
  refine hp_s ((hp_q ht).trans ?_) k
  show rx_al X i 2 pc ls (.int y :: .ref q :: st) a M = _
  unfold rx_al
  dsimp only
  rw [hl]
  dsimp only
  rw [if_pos (by rw [ha]; exact ax_lay_lt hl), if_pos rfl, if_neg (by
    rintro (z | z)
    · have := ax_neg.mp z
      omega
    · omega), hn, hr]
  rfl
/-- the script's int -/
theorem hp_sc {j : Nat} {y : Int32} (hy : y.toInt = (j : Int)) (hj : j < X.1) (ht : rx_tb 249 pc = some .iaload) (e : pc + 1 = pc') (k : hp X d 249 pc' ls (.int (X.2 j) :: st) a M P) : hp X d 249 pc ls (.int y :: .ref 1000 :: st) a M P := by
  subst e
  have h9 := ax_clamp (x := y) (by omega)
  have hn : y.toNatClampNeg = j := by omega
  refine hp_s ((hp_q ht).trans ?_) k
  show rx_al X 249 0 pc ls (.int y :: .ref 1000 :: st) a M = _
  unfold rx_al
  dsimp only
  rw [ax_lay_s]
  dsimp only
  rw [if_pos ⟨rfl, rfl⟩, if_pos rfl, if_neg (by
    rintro (z | z)
    · have := ax_neg.mp z
      omega
    · omega), hn]
  rfl
/-- a row's elements are copied -/
theorem hp_ac {x q e s t m n0 n1 w0 w1 : Nat} {ys yd ym : Int32} {st : List Value} (ha : a.1 = rx_cells) (ht : rx_tb i pc = some (.invokestatic x)) (hm : rx_ml (rx_cn i) x = some (12, w0, w1)) (hq : rx_lay q = some (.inr (0, n0))) (he : rx_lay e = some (.inr (0, n1))) (hs : ys.toInt = (s : Int)) (hd : yd.toInt = (t : Int)) (hn : ym.toInt = (m : Int)) (h1 : s + m ≤ n0) (h2 : t + m ≤ n1) (h8 : rx_c8 st = true) (e2 : pc + 3 = pc') (k : ∀ M1 : rx_M, M1.1 = rx_cp M.1 q s e t m → M1.2 = M.2 → hp X d i pc' ls st a M1 P) : hp X d i pc ls (.int ym :: .int yd :: .ref e :: .int ys :: .ref q :: st) a M P := by
  subst e2
  have c1 := ax_clamp (x := ys) (by omega)
  have c2 := ax_clamp (x := yd) (by omega)
  have c3 := ax_clamp (x := ym) (by omega)
  have e1 : ys.toNatClampNeg = s := by omega
  have e2 : yd.toNatClampNeg = t := by omega
  have e3 : ym.toNatClampNeg = m := by omega
  refine hp_s ((hp_q ht).trans ?_) (k (rx_cp M.1 q s e t m, M.2.1, M.2.2) rfl rfl)
  show rx_inv 1 (rx_cn i) x pc ls (.int ym :: .int yd :: .ref e :: .int ys :: .ref q :: st) a M = _
  unfold rx_inv
  rw [hm]
  show (if (1 : Nat) = 1 then (match rx_lay q, rx_lay e with
    | some (.inr (0, n0)), some (.inr (0, n1)) => if q < a.1 ∧ e < a.1 ∧ ¬ ys < 0 ∧ ¬ yd < 0 ∧ ¬ ym < 0 ∧ ys.toNatClampNeg + ym.toNatClampNeg ≤ n0 ∧ yd.toNatClampNeg + ym.toNatClampNeg ≤ n1 then cond (rx_c8 st) (rx_nx (pc + 3) ls st a (rx_cp M.1 q ys.toNatClampNeg e yd.toNatClampNeg ym.toNatClampNeg, M.2.1, M.2.2)) none else none
    | _, _ => none) else none) = _
  rw [if_pos rfl, hq, he]
  have b1 : ¬ ys < 0 := fun z => by have := ax_neg.mp z; omega
  have b2 : ¬ yd < 0 := fun z => by have := ax_neg.mp z; omega
  have b3 : ¬ ym < 0 := fun z => by have := ax_neg.mp z; omega
  have hc : q < a.1 ∧ e < a.1 ∧ ¬ ys < 0 ∧ ¬ yd < 0 ∧ ¬ ym < 0 ∧ ys.toNatClampNeg + ym.toNatClampNeg ≤ n0 ∧ yd.toNatClampNeg + ym.toNatClampNeg ≤ n1 := ⟨by rw [ha]; exact ax_lay_lt hq, by rw [ha]; exact ax_lay_lt he, b1, b2, b3, by omega, by omega⟩
  rw [e1, e2, e3] at hc ⊢
  show (if q < a.1 ∧ e < a.1 ∧ ¬ ys < 0 ∧ ¬ yd < 0 ∧ ¬ ym < 0 ∧ s + m ≤ n0 ∧ t + m ≤ n1 then cond (rx_c8 st) (rx_nx (pc + 3) ls st a (rx_cp M.1 q s e t m, M.2.1, M.2.2)) none else none) = _
  rw [if_pos hc, h8]
  rfl
end HK2
theorem rw_lay {D : Nat} (h : D < 8) : rx_lay (236 + D) = some (.inr (0, 80)) := by
  match D, h with
  | 0, _ => rfl
  | 1, _ => rfl
  | 2, _ => rfl
  | 3, _ => rfl
  | 4, _ => rfl
  | 5, _ => rfl
  | 6, _ => rfl
  | 7, _ => rfl
theorem rw_rf {D : Nat} (h : D < 8) : ax_rf 235 D = some (236 + D) := by
  match D, h with
  | 0, _ => rfl
  | 1, _ => rfl
  | 2, _ => rfl
  | 3, _ => rfl
  | 4, _ => rfl
  | 5, _ => rfl
  | 6, _ => rfl
  | 7, _ => rfl
/-- the rows alone have changed -/
noncomputable def cp_F (M M1 : rx_M) : Prop := M1.2 = M.2 ∧ ∀ q j, ¬ ((236 ≤ q ∧ q ≤ 243) ∨ q = 287 ∨ q = 289) → M1.1 q j = M.1 q j
theorem cp_sp {q j : Nat} (h : (236 ≤ q ∧ q ≤ 243) ∨ q = 287 ∨ q = 289) : ax_sp q j = sx_full := by
  have h : q = 236 ∨ q = 237 ∨ q = 238 ∨ q = 239 ∨ q = 240 ∨ q = 241 ∨ q = 242 ∨ q = 243 ∨ q = 287 ∨ q = 289 := by omega
  rcases h with rfl | rfl | rfl | rfl | rfl | rfl | rfl | rfl | rfl | rfl <;> rfl
theorem cp_J {M M1 : rx_M} (hJ : ax_J0 ax_sp ax_rf M) (h : cp_F M M1) : ax_J0 ax_sp ax_rf M1 := by
  refine ⟨fun q j => ?_, fun q j z hz => ?_, ?_⟩
  · by_cases k : (236 ≤ q ∧ q ≤ 243) ∨ q = 287 ∨ q = 289
    · rw [cp_sp k]
      exact ax_full_ok _
    · rw [h.2 q j k]
      exact hJ.1 q j
  · rw [h.1]
    exact hJ.2.1 q j z hz
  · have k := h.2
    exact ax_G_of hJ.2.2 (k _ _ (by omega)) (k _ _ (by omega)) (fun e he => ⟨k _ _ (by omega), k _ _ (by omega), k _ _ (by omega), k _ _ (by omega), fun h150 i => k _ _ (by omega)⟩) (fun e he => ⟨k _ _ (by omega), k _ _ (by omega), k _ _ (by omega), k _ _ (by omega), k _ _ (by omega), fun _ i _ => k _ _ (by omega)⟩) (fun i => by
      rw [k 213 i (by omega)]
      exact hJ.2.2.2.2.1 i) (fun i => by
      rw [k 283 i (by omega), k 284 i (by omega)]
      exact hJ.2.2.2.2.2.1 i)
theorem cp_F0 (M : rx_M) : cp_F M M := ⟨rfl, fun _ _ _ => rfl⟩
theorem cp_Ft {M M1 M2 : rx_M} (h : cp_F M M1) (k : cp_F M1 M2) : cp_F M M2 := ⟨k.1.trans h.1, fun q j hq => (k.2 q j hq).trans (h.2 q j hq)⟩
/-- what a copy answers -/
noncomputable def cp_v (d i e j n hd he sd se zd ze : Int) : Int := if d < 0 ∨ 7 < d ∨ e < 0 ∨ 7 < e then -1 else if hd = 0 ∨ he = 0 then -11 else if hd ≠ 2 ∨ he ≠ 2 ∨ sd ≠ se then -12 else if n < 0 ∨ i < 0 ∨ j < 0 ∨ zd < i + n ∨ ze < j + n then -13 else n
