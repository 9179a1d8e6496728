/-! runs by hand: one instruction after another -/
noncomputable def hp (X : Nat × (Nat → Int32)) (d i pc : Nat) (ls : List (Option Value)) (st : List Value) (a : rx_K) (M : rx_M) (P : rx_O → Prop) : Prop := ∃ f o, rx_go X f d i (pc, ls, st, a, M) = some o ∧ P o
section HP
variable {X : Nat × (Nat → Int32)} {d i pc pc' : Nat} {ls ls' : List (Option Value)} {st : List Value} {a : rx_K} {M : rx_M} {P : rx_O → Prop}
theorem hp_s {st' : List Value} {a' : rx_K} {M' : rx_M} (h : rx_stp X i (pc, ls, st, a, M) = some (.inl (pc', ls', st', a', M'))) (k : hp X d i pc' ls' st' a' M' P) : hp X d i pc ls st a M P := by
  obtain ⟨f, o, h1, h2⟩ := k
  refine ⟨f + 1, o, ?_, h2⟩
  unfold rx_go
  rw [h]
  exact h1
theorem hp_q {ins : Instr} (ht : rx_tb i pc = some ins) : rx_stp X i (pc, ls, st, a, M) = rx_ins X i ins pc ls st a M := by
  unfold rx_stp
  show (match rx_tb i pc with
    | none => none
    | some ins => rx_ins X i ins pc ls st a M) = _
  rw [ht]
theorem hp_to {Q : rx_O → Prop} (h : hp X d i pc ls st a M P) (k : ∀ o, P o → Q o) : hp X d i pc ls st a M Q := by
  obtain ⟨f, o, h1, h2⟩ := h
  exact ⟨f, o, h1, k o h2⟩
theorem hp_ic {n : Int} {x : Int32} (ht : rx_tb i pc = some (.iconst n)) (hx : Int32.ofInt n = x) (e : pc + 1 = pc') (k : hp X d i pc' ls (.int x :: st) a M P) : hp X d i pc ls st a M P := by
  subst hx e
  exact hp_s (hp_q ht) k
theorem hp_bi {n : Int} {x : Int32} (ht : rx_tb i pc = some (.bipush n)) (hx : (Int8.ofInt n).toInt32 = x) (e : pc + 2 = pc') (k : hp X d i pc' ls (.int x :: st) a M P) : hp X d i pc ls st a M P := by
  subst hx e
  exact hp_s (hp_q ht) k
theorem hp_si {n : Int} {x : Int32} (ht : rx_tb i pc = some (.sipush n)) (hx : (Int16.ofInt n).toInt32 = x) (e : pc + 3 = pc') (k : hp X d i pc' ls (.int x :: st) a M P) : hp X d i pc ls st a M P := by
  subst hx e
  exact hp_s (hp_q ht) k
theorem hp_il {j : Nat} {x : Int32} (ht : rx_tb i pc = some (.iload j) ∧ pc + 2 = pc' ∨ (∃ k4 : Fin 4, k4.val = j ∧ rx_tb i pc = some (.iload_n k4) ∧ pc + 1 = pc')) (hl : ls[j]? = some (some (.int x))) (k : hp X d i pc' ls (.int x :: st) a M P) : hp X d i pc ls st a M P := by
  rcases ht with ⟨ht, e⟩ | ⟨k4, e4, ht, e⟩
  · subst e
    refine hp_s ((hp_q ht).trans ?_) k
    show rx_ld ls j 0 (pc + 2) st a M = _
    unfold rx_ld
    rw [hl]
    rfl
  · subst e e4
    refine hp_s ((hp_q ht).trans ?_) k
    show rx_ld ls k4.val 0 (pc + 1) st a M = _
    unfold rx_ld
    rw [hl]
    rfl
theorem hp_al {j q : Nat} (ht : rx_tb i pc = some (.aload j) ∧ pc + 2 = pc' ∨ (∃ k4 : Fin 4, k4.val = j ∧ rx_tb i pc = some (.aload_n k4) ∧ pc + 1 = pc')) (hl : ls[j]? = some (some (.ref q))) (k : hp X d i pc' ls (.ref q :: st) a M P) : hp X d i pc ls st a M P := by
  rcases ht with ⟨ht, e⟩ | ⟨k4, e4, ht, e⟩
  · subst e
    refine hp_s ((hp_q ht).trans ?_) k
    show rx_ld ls j 1 (pc + 2) st a M = _
    unfold rx_ld
    rw [hl]
    rfl
  · subst e e4
    refine hp_s ((hp_q ht).trans ?_) k
    show rx_ld ls k4.val 1 (pc + 1) st a M = _
    unfold rx_ld
    rw [hl]
    rfl
theorem hp_is {j : Nat} {x : Int32} (ht : rx_tb i pc = some (.istore j) ∧ pc + 2 = pc' ∨ (∃ k4 : Fin 4, k4.val = j ∧ rx_tb i pc = some (.istore_n k4) ∧ pc + 1 = pc')) (hl : j < ls.length) (hs : rx_s1 ls j (.int x) = ls') (k : hp X d i pc' ls' st a M P) : hp X d i pc ls (.int x :: st) a M P := by
  subst hs
  rcases ht with ⟨ht, e⟩ | ⟨k4, e4, ht, e⟩
  · subst e
    exact hp_s ((hp_q ht).trans (if_pos hl)) k
  · subst e e4
    exact hp_s ((hp_q ht).trans (if_pos hl)) k
theorem hp_in {j : Nat} {n : Int} {x y : Int32} (ht : rx_tb i pc = some (.iinc j n)) (hl : ls[j]? = some (some (.int x))) (hy : x + Int32.ofInt n = y) (hs : rx_s1 ls j (.int y) = ls') (e : pc + 3 = pc') (k : hp X d i pc' ls' st a M P) : hp X d i pc ls st a M P := by
  subst hs e hy
  refine hp_s ((hp_q ht).trans ?_) k
  show (match ls[j]? with
    | some (some (.int x)) => rx_nx (pc + 3) (rx_s1 ls j (.int (x + Int32.ofInt n))) st a M
    | _ => none) = _
  rw [hl]
  rfl
theorem hp_add {x y : Int32} (ht : rx_tb i pc = some .iadd) (e : pc + 1 = pc') (k : ∀ z, z = x + y → hp X d i pc' ls (.int z :: st) a M P) : hp X d i pc ls (.int y :: .int x :: st) a M P := by
  subst e
  exact hp_s (hp_q ht) (k _ rfl)
theorem hp_sub {x y : Int32} (ht : rx_tb i pc = some .isub) (e : pc + 1 = pc') (k : ∀ z, z = x - y → hp X d i pc' ls (.int z :: st) a M P) : hp X d i pc ls (.int y :: .int x :: st) a M P := by
  subst e
  exact hp_s (hp_q ht) (k _ rfl)
theorem hp_mul {x y : Int32} (ht : rx_tb i pc = some .imul) (e : pc + 1 = pc') (k : ∀ z, z = x * y → hp X d i pc' ls (.int z :: st) a M P) : hp X d i pc ls (.int y :: .int x :: st) a M P := by
  subst e
  exact hp_s (hp_q ht) (k _ rfl)
theorem hp_neg {x : Int32} (ht : rx_tb i pc = some .ineg) (e : pc + 1 = pc') (k : ∀ z, z = -x → hp X d i pc' ls (.int z :: st) a M P) : hp X d i pc ls (.int x :: st) a M P := by
  subst e
  exact hp_s (hp_q ht) (k _ rfl)
theorem hp_rem {x y : Int32} (ht : rx_tb i pc = some .irem) (e : pc + 1 = pc') (hx : 0 ≤ x.toInt) (hy : 0 < y.toInt) (k : ∀ z, z.toInt = x.toInt % y.toInt → hp X d i pc' ls (.int z :: st) a M P) : hp X d i pc ls (.int y :: .int x :: st) a M P := by
  subst e
  refine hp_s ((hp_q ht).trans (if_neg (fun q => by
    rw [q] at hy
    exact absurd hy (by decide)))) (k _ ?_)
  have rx := ax_range x
  have ry := ax_range y
  have h1 : (x.toInt.tdiv y.toInt) = x.toInt / y.toInt := Int.tdiv_eq_ediv_of_nonneg hx
  have h2 : 0 ≤ x.toInt / y.toInt := Int.ediv_nonneg hx (Int.le_of_lt hy)
  have h3 : x.toInt / y.toInt ≤ x.toInt := Int.ediv_le_self _ hx
  have hd : (x / y).toInt = x.toInt / y.toInt := by
    rw [Int32.toInt_div, h1, ax_bmod (by omega) (by omega)]
  have h4 : x.toInt / y.toInt * y.toInt ≤ x.toInt := Int.ediv_mul_le _ (by omega)
  have h5 : 0 ≤ x.toInt / y.toInt * y.toInt := Int.mul_nonneg h2 (Int.le_of_lt hy)
  have hm : (x / y * y).toInt = x.toInt / y.toInt * y.toInt := by
    rw [ax_mul (by rw [hd]; omega) (by rw [hd]; omega), hd]
  have he := Int.emod_add_mul_ediv x.toInt y.toInt
  have hc : y.toInt * (x.toInt / y.toInt) = x.toInt / y.toInt * y.toInt := Int.mul_comm _ _
  rw [ax_sub (by rw [hm]; omega) (by rw [hm]; omega), hm]
  omega
theorem hp_d2 {x : Int32} {q : Nat} (ht : rx_tb i pc = some .dup2) (e : pc + 1 = pc') (k : hp X d i pc' ls (.int x :: .ref q :: .int x :: .ref q :: st) a M P) : hp X d i pc ls (.int x :: .ref q :: st) a M P := by
  subst e
  exact hp_s (hp_q ht) k
theorem hp_go {off : Int} {t : Nat} (ht : rx_tb i pc = some (.goto off)) (e : (pc : Int) + off = (t : Int)) (k : hp X d i t ls st a M P) : hp X d i pc ls st a M P := by
  refine hp_s ((hp_q ht).trans ?_) k
  show (match (pc : Int) + off with
    | .ofNat t => rx_nx t ls st a M
    | .negSucc _ => none) = _
  rw [e]
  rfl
theorem hp_b {st' : List Value} {c : Prop} [Decidable c] {off : Int} {t : Nat} (hs : rx_stp X i (pc, ls, st, a, M) = rx_br c pc off ls' st' a M) (e : (pc : Int) + off = (t : Int)) (e2 : pc + 3 = pc') (k1 : c → hp X d i t ls' st' a M P) (k2 : ¬ c → hp X d i pc' ls' st' a M P) : hp X d i pc ls st a M P := by
  subst e2
  have g : rx_br c pc off ls' st' a M = if c then rx_nx t ls' st' a M else rx_nx (pc + 3) ls' st' a M := by
    show (match (pc : Int) + off with
      | .ofNat t => if c then rx_nx t ls' st' a M else rx_nx (pc + 3) ls' st' a M
      | .negSucc _ => none) = _
    rw [e]
  by_cases hc : c
  · exact hp_s (hs.trans (g.trans (if_pos hc))) (k1 hc)
  · exact hp_s (hs.trans (g.trans (if_neg hc))) (k2 hc)
section
variable {off : Int} {t : Nat} {x y : Int32}
theorem hp_0n {x : Int32} : x < 0 ↔ x.toInt < 0 := Int32.lt_iff_toInt_lt
theorem hp_0p {x : Int32} : 0 < x ↔ 0 < x.toInt := Int32.lt_iff_toInt_lt
theorem hp_0l {x : Int32} : x ≤ 0 ↔ x.toInt ≤ 0 := Int32.le_iff_toInt_le
theorem hp_0g {x : Int32} : 0 ≤ x ↔ 0 ≤ x.toInt := Int32.le_iff_toInt_le
theorem hp_0e {x : Int32} : x = 0 ↔ x.toInt = 0 := ⟨fun h => by rw [h]; rfl, fun h => Int32.toInt_inj.mp (by rw [h]; rfl)⟩
theorem hp_ieq (ht : rx_tb i pc = some (.if_icmp .eq off)) (e : (pc : Int) + off = (t : Int)) (e2 : pc + 3 = pc') (k1 : x.toInt = y.toInt → hp X d i t ls st a M P) (k2 : ¬ x.toInt = y.toInt → hp X d i pc' ls st a M P) : hp X d i pc ls (.int y :: .int x :: st) a M P :=
  hp_b (c := x = y) (hp_q ht) e e2 (fun h => k1 (by rw [h])) (fun h => k2 (fun z => h (Int32.toInt_inj.mp z)))
theorem hp_ine (ht : rx_tb i pc = some (.if_icmp .ne off)) (e : (pc : Int) + off = (t : Int)) (e2 : pc + 3 = pc') (k1 : ¬ x.toInt = y.toInt → hp X d i t ls st a M P) (k2 : x.toInt = y.toInt → hp X d i pc' ls st a M P) : hp X d i pc ls (.int y :: .int x :: st) a M P :=
  hp_b (c := ¬ x = y) (hp_q ht) e e2 (fun h => k1 (fun z => h (Int32.toInt_inj.mp z))) (fun h => k2 (by rw [Classical.not_not.mp h]))
theorem hp_ilt (ht : rx_tb i pc = some (.if_icmp .lt off)) (e : (pc : Int) + off = (t : Int)) (e2 : pc + 3 = pc') (k1 : x.toInt < y.toInt → hp X d i t ls st a M P) (k2 : ¬ x.toInt < y.toInt → hp X d i pc' ls st a M P) : hp X d i pc ls (.int y :: .int x :: st) a M P :=
  hp_b (c := x < y) (hp_q ht) e e2 (fun h => k1 (Int32.lt_iff_toInt_lt.mp h)) (fun h => k2 (fun z => h (Int32.lt_iff_toInt_lt.mpr z)))
theorem hp_ige (ht : rx_tb i pc = some (.if_icmp .ge off)) (e : (pc : Int) + off = (t : Int)) (e2 : pc + 3 = pc') (k1 : y.toInt ≤ x.toInt → hp X d i t ls st a M P) (k2 : ¬ y.toInt ≤ x.toInt → hp X d i pc' ls st a M P) : hp X d i pc ls (.int y :: .int x :: st) a M P :=
  hp_b (c := y ≤ x) (hp_q ht) e e2 (fun h => k1 (Int32.le_iff_toInt_le.mp h)) (fun h => k2 (fun z => h (Int32.le_iff_toInt_le.mpr z)))
theorem hp_igt (ht : rx_tb i pc = some (.if_icmp .gt off)) (e : (pc : Int) + off = (t : Int)) (e2 : pc + 3 = pc') (k1 : y.toInt < x.toInt → hp X d i t ls st a M P) (k2 : ¬ y.toInt < x.toInt → hp X d i pc' ls st a M P) : hp X d i pc ls (.int y :: .int x :: st) a M P :=
  hp_b (c := y < x) (hp_q ht) e e2 (fun h => k1 (Int32.lt_iff_toInt_lt.mp h)) (fun h => k2 (fun z => h (Int32.lt_iff_toInt_lt.mpr z)))
theorem hp_ile (ht : rx_tb i pc = some (.if_icmp .le off)) (e : (pc : Int) + off = (t : Int)) (e2 : pc + 3 = pc') (k1 : x.toInt ≤ y.toInt → hp X d i t ls st a M P) (k2 : ¬ x.toInt ≤ y.toInt → hp X d i pc' ls st a M P) : hp X d i pc ls (.int y :: .int x :: st) a M P :=
  hp_b (c := x ≤ y) (hp_q ht) e e2 (fun h => k1 (Int32.le_iff_toInt_le.mp h)) (fun h => k2 (fun z => h (Int32.le_iff_toInt_le.mpr z)))
theorem hp_zeq (ht : rx_tb i pc = some (.ifCond .eq off)) (e : (pc : Int) + off = (t : Int)) (e2 : pc + 3 = pc') (k1 : x.toInt = 0 → hp X d i t ls st a M P) (k2 : ¬ x.toInt = 0 → hp X d i pc' ls st a M P) : hp X d i pc ls (.int x :: st) a M P :=
  hp_b (c := x = 0) (hp_q ht) e e2 (fun h => k1 (hp_0e.mp h)) (fun h => k2 (fun z => h (hp_0e.mpr z)))
theorem hp_zne (ht : rx_tb i pc = some (.ifCond .ne off)) (e : (pc : Int) + off = (t : Int)) (e2 : pc + 3 = pc') (k1 : ¬ x.toInt = 0 → hp X d i t ls st a M P) (k2 : x.toInt = 0 → hp X d i pc' ls st a M P) : hp X d i pc ls (.int x :: st) a M P :=
  hp_b (c := ¬ x = 0) (hp_q ht) e e2 (fun h => k1 (fun z => h (hp_0e.mpr z))) (fun h => k2 (hp_0e.mp (Classical.not_not.mp h)))
theorem hp_zlt (ht : rx_tb i pc = some (.ifCond .lt off)) (e : (pc : Int) + off = (t : Int)) (e2 : pc + 3 = pc') (k1 : x.toInt < 0 → hp X d i t ls st a M P) (k2 : ¬ x.toInt < 0 → hp X d i pc' ls st a M P) : hp X d i pc ls (.int x :: st) a M P :=
  hp_b (c := x < 0) (hp_q ht) e e2 (fun h => k1 (hp_0n.mp h)) (fun h => k2 (fun z => h (hp_0n.mpr z)))
theorem hp_zge (ht : rx_tb i pc = some (.ifCond .ge off)) (e : (pc : Int) + off = (t : Int)) (e2 : pc + 3 = pc') (k1 : 0 ≤ x.toInt → hp X d i t ls st a M P) (k2 : ¬ 0 ≤ x.toInt → hp X d i pc' ls st a M P) : hp X d i pc ls (.int x :: st) a M P :=
  hp_b (c := 0 ≤ x) (hp_q ht) e e2 (fun h => k1 (hp_0g.mp h)) (fun h => k2 (fun z => h (hp_0g.mpr z)))
theorem hp_zgt (ht : rx_tb i pc = some (.ifCond .gt off)) (e : (pc : Int) + off = (t : Int)) (e2 : pc + 3 = pc') (k1 : 0 < x.toInt → hp X d i t ls st a M P) (k2 : ¬ 0 < x.toInt → hp X d i pc' ls st a M P) : hp X d i pc ls (.int x :: st) a M P :=
  hp_b (c := 0 < x) (hp_q ht) e e2 (fun h => k1 (hp_0p.mp h)) (fun h => k2 (fun z => h (hp_0p.mpr z)))
theorem hp_zle (ht : rx_tb i pc = some (.ifCond .le off)) (e : (pc : Int) + off = (t : Int)) (e2 : pc + 3 = pc') (k1 : x.toInt ≤ 0 → hp X d i t ls st a M P) (k2 : ¬ x.toInt ≤ 0 → hp X d i pc' ls st a M P) : hp X d i pc ls (.int x :: st) a M P :=
  hp_b (c := x ≤ 0) (hp_q ht) e e2 (fun h => k1 (hp_0l.mp h)) (fun h => k2 (fun z => h (hp_0l.mpr z)))
end
theorem hp_gi {x q ci j t : Nat} {fin : Bool} (ha : a.1 = rx_cells) (ht : rx_tb i pc = some (.getfield x)) (hf : rx_fl (rx_cn i) x = some (ci, j, t, fin)) (hl : rx_lay q = some (.inl ci)) (h2 : t ≠ 2) (e : pc + 3 = pc') (k : hp X d i pc' ls (.int (M.1 q j) :: st) a M P) : hp X d i pc ls (.ref q :: st) a M P := by
  subst e
  exact hp_s ((hp_q ht).trans (ax_gf_ok ha hf hl h2)) k
theorem hp_gr {x q ci j z : Nat} {fin : Bool} (ha : a.1 = rx_cells) (hr : M.2.1 q j = some z) (ht : rx_tb i pc = some (.getfield x)) (hf : rx_fl (rx_cn i) x = some (ci, j, 2, fin)) (hl : rx_lay q = some (.inl ci)) (e : pc + 3 = pc') (k : hp X d i pc' ls (.ref z :: st) a M P) : hp X d i pc ls (.ref q :: st) a M P := by
  subst e
  refine hp_s ((hp_q ht).trans (ax_gf2_ok ha hf hl)) ?_
  rw [hr]
  exact k
theorem hp_ld {q n j : Nat} {y : Int32} (ha : a.1 = rx_cells) (hy : y.toInt = (j : Int)) (hj : j < n) (ht : rx_tb i pc = some .iaload) (hl : rx_lay q = some (.inr (0, n))) (e : pc + 1 = pc') (k : hp X d i pc' ls (.int (M.1 q j) :: st) a M P) : hp X d i pc ls (.int y :: .ref q :: st) a M P := by
  subst e
  have h9 := ax_clamp (x := y) (by omega)
  have hn : y.toNatClampNeg = j := by omega
  refine hp_s ((hp_q ht).trans ?_) k
  show rx_al X i 0 pc ls (.int y :: .ref q :: st) a M = _
  unfold rx_al
  dsimp only
  rw [hl]
  dsimp only
  rw [if_pos (by rw [ha]; exact ax_lay_lt hl), if_pos rfl, if_neg (by
    rintro (z | z)
    · have := ax_neg.mp z
      omega
    · omega), hn]
  rfl
theorem hp_st {q n j : Nat} {y z : Int32} (ha : a.1 = rx_cells) (hy : y.toInt = (j : Int)) (hj : j < n) (ht : rx_tb i pc = some .iastore) (hl : rx_lay q = some (.inr (0, n))) (e : pc + 1 = pc') (k : ∀ M1 : rx_M, M1.1 = rx_up M.1 q j z → M1.2 = M.2 → hp X d i pc' ls st a M1 P) : hp X d i pc ls (.int z :: .int y :: .ref q :: st) a M P := by
  subst e
  have h9 := ax_clamp (x := y) (by omega)
  have hn : y.toNatClampNeg = j := by omega
  refine hp_s ((hp_q ht).trans ?_) (k (rx_up M.1 q j z, M.2.1, M.2.2) rfl rfl)
  show rx_as 0 pc ls (.int z :: .int y :: .ref q :: st) a M = _
  unfold rx_as
  dsimp only
  rw [hl]
  dsimp only
  rw [if_pos (by rw [ha]; exact ax_lay_lt hl), if_pos rfl, if_neg (by
    rintro (w | w)
    · have := ax_neg.mp w
      omega
    · omega), hn]
  rfl
/-- a field of an int is written -/
theorem hp_pf {x q ci j : Nat} {z : Int32} (ha : a.1 = rx_cells) (ht : rx_tb i pc = some (.putfield x)) (hf : rx_fl (rx_cn i) x = some (ci, j, 0, false)) (hl : rx_lay q = some (.inl ci)) (e : pc + 3 = pc') (k : ∀ M1 : rx_M, M1.1 = rx_up M.1 q j z → M1.2 = M.2 → hp X d i pc' ls st a M1 P) : hp X d i pc ls (.int z :: .ref q :: st) a M P := by
  subst e
  exact hp_s ((hp_q ht).trans (ax_pf_ok ha hf hl (Or.inl rfl))) (k (rx_up M.1 q j z, M.2.1, M.2.2) rfl rfl)
/-- a call of the model's own -/
theorem hp_cv {x j n e : Nat} {vs r : List Value} {Q : rx_O → Prop} (ha : a.1 = rx_cells) (ht : rx_tb i pc = some (.invokevirtual x)) (hm : rx_ml (rx_cn i) x = some (0, j, n)) (hc : rx_cn j = 11) (hd : st.drop n = .ref 244 :: r) (hv : (st.take n).reverse = vs) (h8 : (rx_cat1 (st.take n) && rx_c8 r && Nat.beq (st.take n).length n) = true) (e2 : pc + 3 = pc') (he : d = e + 1)
    (hq : hp X e j 0 ((.ref 244 :: vs).map some ++ List.replicate (rx_mx j - (vs.length + 1)) none) [] a M Q) (k : ∀ o, Q o → ∃ c2, rx_res i (pc', ls, r, a, M) o.1 o.2.1 o.2.2 = some c2 ∧ hp X d i c2.1 c2.2.1 c2.2.2.1 c2.2.2.2.1 c2.2.2.2.2 P) : hp X d i pc ls st a M P := by
  subst e2 he hv
  obtain ⟨f1, o, h1, h2⟩ := hq
  obtain ⟨c2, h3, f2, o2, h4, h5⟩ := k o h2
  have g : rx_stp X i (pc, ls, st, a, M) = some (.inr (.inl (j, .ref 244 :: (st.take n).reverse, (pc + 3, ls, r, a, M)))) := by
    rw [hp_q ht]
    show rx_inv 0 (rx_cn i) x pc ls st a M = _
    unfold rx_inv
    rw [hm]
    show cond (Nat.beq 0 (rx_kw 0)) (cond (Nat.beq 0 1) (cond (rx_cat1 (st.take n) && rx_c8 (st.drop n) && Nat.beq (st.take n).length n) (some (Sum.inr (Sum.inl (j, (st.take n).reverse, (pc + 3, ls, st.drop n, a, M))))) none) (match st.drop n with
          | .ref b :: r => match rx_lay b with
            | some (.inl c) => if b < a.1 then (if c = rx_cn j then cond (rx_cat1 (st.take n) && rx_c8 r && Nat.beq (st.take n).length n) (some (Sum.inr (Sum.inl (j, Value.ref b :: (st.take n).reverse, (pc + 3, ls, r, a, M))))) none else none) else none
            | _ => none
          | _ => none)) none = _
    rw [show Nat.beq 0 (rx_kw 0) = true from rfl, Bool.cond_true, show Nat.beq 0 1 = false from rfl, Bool.cond_false, hd]
    have hl : rx_lay 244 = some (.inl 11) := rfl
    dsimp only
    rw [hl]
    dsimp only
    rw [if_pos (by rw [ha]; exact ax_lay_lt hl), if_pos hc.symm, h8, Bool.cond_true]
  refine ⟨max f1 f2 + 1, o2, ?_, h5⟩
  unfold rx_go
  rw [g]
  dsimp only
  have e1 : rx_ent j (.ref 244 :: (st.take n).reverse) a M = (0, (.ref 244 :: (st.take n).reverse).map some ++ List.replicate (rx_mx j - ((st.take n).reverse.length + 1)) none, [], a, M) := rfl
  rw [e1, rx_go_up (Nat.le_max_left f1 f2) h1]
  dsimp only
  rw [h3]
  exact rx_go_up (Nat.le_max_right f1 f2) h4
theorem hp_rv (ht : rx_tb i pc = some .return_) (hr : rx_rt i = none) (k : P (none, a, M)) : hp X d i pc ls [] a M P := by
  refine ⟨1, (none, a, M), ?_, k⟩
  unfold rx_go
  rw [hp_q ht, show rx_ins X i .return_ pc ls [] a M = (match rx_rt i with
      | none => some (.inr (.inr none))
      | _ => none) from rfl, hr]
theorem hp_ri {x : Int32} (ht : rx_tb i pc = some .ireturn) (hr : rx_rt i = some .int) (k : P (some (.int x), a, M)) : hp X d i pc ls [.int x] a M P := by
  refine ⟨1, (some (.int x), a, M), ?_, k⟩
  unfold rx_go
  rw [hp_q ht, show rx_ins X i .ireturn pc ls [.int x] a M = (match rx_rt i with
      | some .int => some (.inr (.inr (some (.int x))))
      | some .boolean => if x = 0 ∨ x = 1 then some (.inr (.inr (some (.int x)))) else none
      | _ => none) from rfl, hr]
theorem hp_rb {x : Int32} (ht : rx_tb i pc = some .ireturn) (hr : rx_rt i = some .boolean) (hx : x = 0 ∨ x = 1) (k : P (some (.int x), a, M)) : hp X d i pc ls [.int x] a M P := by
  refine ⟨1, (some (.int x), a, M), ?_, k⟩
  unfold rx_go
  rw [hp_q ht, show rx_ins X i .ireturn pc ls [.int x] a M = (match rx_rt i with
      | some .int => some (.inr (.inr (some (.int x))))
      | some .boolean => if x = 0 ∨ x = 1 then some (.inr (.inr (some (.int x)))) else none
      | _ => none) from rfl, hr]
  dsimp only
  rw [if_pos hx]
end HP
/-! memory, seen as whole numbers -/
theorem hp_up_eq {f : Nat → Nat → Int32} {q j : Nat} {z : Int32} : rx_up f q j z q j = z := by
  unfold rx_up
  rw [if_pos rfl, if_pos rfl]
theorem hp_up_ne {f : Nat → Nat → Int32} {q j p k : Nat} {z : Int32} (h : ¬ (p = q ∧ k = j)) : rx_up f q j z p k = f p k := ax_up_ne h
theorem hp_i1 {x : Int32} {j : Nat} (hx : x.toInt = (j : Int)) (hj : j ≤ 2000000000) : (x + Int32.ofInt 1).toInt = ((j + 1 : Nat) : Int) := by
  have e : (Int32.ofInt 1).toInt = 1 := rfl
  rw [ax_add (by omega) (by omega), e]
  omega
/-- 12 a + b -/
theorem hp_ix {x y z w : Int32} {j k : Nat} (hx : x.toInt = (j : Int)) (hy : y.toInt = (k : Int)) (hj : j < 12) (hk : k < 12) (hz : z = 12 * x) (hw : w = z + y) : w.toInt = ((12 * j + k : Nat) : Int) := by
  have e : (12 : Int32).toInt = 12 := rfl
  have hz2 : z.toInt = 12 * (j : Int) := by
    rw [hz, ax_mul (by rw [e]; omega) (by rw [e]; omega), e, hx]
  rw [hw, ax_add (by omega) (by omega)]
  omega
/-- the references are as they are in all runs -/
noncomputable def hp_R (M : rx_M) : Prop := ∀ q j z, ax_rf q j = some z → M.2.1 q j = some z
theorem hp_Re {M M1 : rx_M} (h : hp_R M) (e : M1.2 = M.2) : hp_R M1 := fun q j z hz => by
  rw [e]
  exact h q j z hz
