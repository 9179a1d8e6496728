/-! the core: arithmetic, branches -/
noncomputable def ax_bin (E : ax_E) (f : Int32 → Int32 → Int32) (bd : ax_E → Value → Value → ax_N) (pc : Nat) (ls : List (Option Value)) (st : List Value) : ax_O := match st with
  | y :: x :: r => cond (sx_isI y && sx_isI x) (match ax_lit E y with
    | some y' => (match ax_lit E x with
      | some x' => ax_nx pc ls (.int (f x' y') :: r)
      | none => ax_nw pc ls r (bd E x y))
    | none => ax_nw pc ls r (bd E x y)) ax_no
  | _ => ax_no
noncomputable def ax_fit (lo hi : Int) : Bool := decide (-2147483648 ≤ lo) && decide (hi ≤ 2147483647)
noncomputable def ax_off (E : ax_E) (x : Value) (c : Int) : Option (Nat × Int) := match x with
  | .retAddr k => some ((ax_base E k).1, (ax_base E k).2 + c)
  | _ => none
noncomputable def ax_bAdd (E : ax_E) (x y : Value) : ax_N := cond (ax_fit ((ax_ivh E x).1 + (ax_ivh E y).1) ((ax_ivh E x).2 + (ax_ivh E y).2)) (((ax_ivh E x).1 + (ax_ivh E y).1, (ax_ivh E x).2 + (ax_ivh E y).2), (match ax_lit E y with
  | some c => ax_off E x c.toInt
  | none => (match ax_lit E x with
    | some c => ax_off E y c.toInt
    | none => none)), none) ax_free
noncomputable def ax_bSub (E : ax_E) (x y : Value) : ax_N := cond (ax_fit ((ax_ivh E x).1 - (ax_ivh E y).2) ((ax_ivh E x).2 - (ax_ivh E y).1)) (((ax_ivh E x).1 - (ax_ivh E y).2, (ax_ivh E x).2 - (ax_ivh E y).1), (match ax_lit E y with
  | some c => ax_off E x (- c.toInt)
  | none => none), some (x, y)) ax_free
noncomputable def ax_bMul (E : ax_E) (x y : Value) : ax_N := match ax_lit E x with
  | some c => cond (decide (0 ≤ c.toInt) && ax_fit (c.toInt * (ax_ivh E y).1) (c.toInt * (ax_ivh E y).2)) ((c.toInt * (ax_ivh E y).1, c.toInt * (ax_ivh E y).2), none, none) ax_free
  | none => (match ax_lit E y with
    | some c => cond (decide (0 ≤ c.toInt) && ax_fit (c.toInt * (ax_ivh E x).1) (c.toInt * (ax_ivh E x).2)) ((c.toInt * (ax_ivh E x).1, c.toInt * (ax_ivh E x).2), none, none) ax_free
    | none => ax_free)
noncomputable def ax_bAnd (E : ax_E) (x y : Value) : ax_N := match ax_lit E y with
  | some c => cond (decide (0 ≤ c.toInt)) ((0, c.toInt), none, none) ax_free
  | none => (match ax_lit E x with
    | some c => cond (decide (0 ≤ c.toInt)) ((0, c.toInt), none, none) ax_free
    | none => ax_free)
noncomputable def ax_bRem (E : ax_E) (x y : Value) : ax_N := cond (decide (0 ≤ (ax_iv E x).1) && decide (0 < (ax_iv E y).1)) ((0, (ax_ivh E y).2 - 1), none, none) ax_free
noncomputable def ax_bAny (_ : ax_E) (_ _ : Value) : ax_N := ax_free
noncomputable def ax_dv (E : ax_E) (f : Int32 → Int32 → Int32) (bd : ax_E → Value → Value → ax_N) (pc : Nat) (ls : List (Option Value)) (st : List Value) : ax_O := match st with
  | y :: x :: r => cond (sx_isI y && (decide (0 < (ax_iv E y).1) || decide ((ax_iv E y).2 < 0))) (ax_bin E f bd pc ls (y :: x :: r)) (match y with
    | .retAddr k => cond (decide ((ax_iv E y).1 = (ax_iv E y).2)) ax_no (.inr (k, cond (decide ((ax_iv E y).1 < 0)) (-1) 0))
    | _ => ax_no)
  | _ => ax_no
noncomputable def ax_un (E : ax_E) (f : Int32 → Int32) (pc : Nat) (ls : List (Option Value)) (st : List Value) : ax_O := match st with
  | x :: r => cond (sx_isI x) (match ax_lit E x with
    | some x' => ax_nx pc ls (.int (f x') :: r)
    | none => ax_nw pc ls r ax_free) ax_no
  | _ => ax_no
noncomputable def ax_jmp (pc : Nat) (off : Int) (ls : List (Option Value)) (st : List Value) : ax_O := match (pc : Int) + off with
  | .ofNat t => ax_nx t ls st
  | .negSucc _ => ax_no
noncomputable def ax_dlt (E : ax_E) (x y : Value) : Option Bool := match sx_lt (ax_iv E x) (ax_iv E y) with
  | some b => some b
  | none => (match x with
    | .retAddr i => (match y with
      | .retAddr j => cond (Nat.beq i j || ax_knows E j i 0) (some false) (cond (ax_knows E i j 1) (some true) none)
      | _ => none)
    | _ => none)
noncomputable def ax_deq (E : ax_E) (x y : Value) : Option Bool := match sx_eq (ax_iv E x) (ax_iv E y) with
  | some b => some b
  | none => (match x with
    | .retAddr i => (match y with
      | .retAddr j => cond (Nat.beq i j || (Nat.beq (ax_base E i).1 (ax_base E j).1 && decide ((ax_base E i).2 = (ax_base E j).2))) (some true) (cond (ax_knows E i j 1 || ax_knows E j i 1) (some false) none)
      | _ => none)
    | _ => none)
noncomputable def ax_dec (E : ax_E) (c : ClassFile.Cond) (x y : Value) : Option Bool := match c with
  | .eq => ax_deq E x y
  | .ne => sx_neg (ax_deq E x y)
  | .lt => ax_dlt E x y
  | .ge => sx_neg (ax_dlt E x y)
  | .gt => ax_dlt E y x
  | .le => sx_neg (ax_dlt E y x)
noncomputable def ax_fne (E : ax_E) (i j : Nat) : Option (Nat × Nat × Int) := cond (ax_knows E i j 0) (some (i, j, 1)) (cond (ax_knows E j i 0) (some (j, i, 1)) none)
/-- what is known behind a branch, taken or not -/
noncomputable def ax_fT (E : ax_E) (c : ClassFile.Cond) (i j : Nat) : Option (Nat × Nat × Int) := match c with
  | .eq => none
  | .ne => ax_fne E i j
  | .lt => some (i, j, 1)
  | .ge => some (j, i, 0)
  | .gt => some (j, i, 1)
  | .le => some (i, j, 0)
noncomputable def ax_fF (E : ax_E) (c : ClassFile.Cond) (i j : Nat) : Option (Nat × Nat × Int) := match c with
  | .eq => ax_fne E i j
  | .ne => none
  | .lt => some (j, i, 0)
  | .ge => some (i, j, 1)
  | .gt => some (i, j, 0)
  | .le => some (j, i, 1)
noncomputable def ax_two (E : ax_E) (c : ClassFile.Cond) (x y : Value) (A B : ax_G) : ax_O := match x with
  | .retAddr i => cond (decide ((ax_iv E x).1 = (ax_iv E x).2)) (match y with
    | .retAddr j => .inr (j, sx_cut (ax_iv E y) (ax_iv E x))
    | _ => ax_no) (match y with
    | .retAddr j => cond (decide ((ax_iv E y).1 = (ax_iv E y).2)) (.inr (i, sx_cut (ax_iv E x) (ax_iv E y))) (cond (Nat.beq i j) ax_no (.inl (some (.inr (.inr (.inr ((A, ax_fT E c i j), (B, ax_fF E c i j))))))))
    | _ => .inr (i, sx_cut (ax_iv E x) (ax_iv E y)))
  | _ => (match y with
    | .retAddr j => .inr (j, sx_cut (ax_iv E y) (ax_iv E x))
    | _ => ax_no)
noncomputable def ax_br (E : ax_E) (c : ClassFile.Cond) (x y : Value) (pc : Nat) (off : Int) (ls : List (Option Value)) (st : List Value) : ax_O := cond (sx_isI x && sx_isI y) (match (pc : Int) + off with
  | .ofNat t => (match ax_dec E c x y with
    | some true => ax_nx t ls st
    | some false => ax_nx (pc + 3) ls st
    | none => ax_two E c x y (t, ls, st) (pc + 3, ls, st))
  | .negSucc _ => ax_no) ax_no
section AXQ
variable {v : ax_V} {E : ax_E} {a : rx_K} {M : rx_M} {pc : Nat} {ls : List (Option Value)} {st r : List Value} {R : ax_R}
theorem ax_nw_ok {N : ax_N} {z : Int32} (h : ax_nw pc ls st N = .inl (some R)) (hz : ax_Nok v N z) : ax_rel v a M R (rx_nx pc (ax_ls v ls) (.int z :: st.map (ax_v v)) a M) := by
  unfold ax_nw at h
  cases h
  exact ⟨z, rfl, hz⟩
theorem ax_bin_ok (hE : ax_ok v E) {f : Int32 → Int32 → Int32} {bd : ax_E → Value → Value → ax_N} (hbd : ∀ x y, sx_isI x = true → sx_isI y = true → ax_Nok v (bd E x y) (f (ax_vi v x) (ax_vi v y))) (h : ax_bin E f bd pc ls st = .inl (some R)) : ax_rel v a M R (rx_bin f pc (ax_ls v ls) (st.map (ax_v v)) a M) := by
  unfold ax_bin at h
  split at h
  · rename_i y x r
    obtain ⟨hi, h⟩ := sx_cT ax_non h
    rw [Bool.and_eq_true] at hi
    have hn : ax_nw pc ls r (bd E x y) = .inl (some R) → ax_rel v a M R (rx_bin f pc (ax_ls v ls) ((y :: x :: r).map (ax_v v)) a M) := fun h => by
      rw [List.map_cons, List.map_cons, ax_vI hi.1, ax_vI hi.2]
      exact ax_nw_ok h (hbd x y hi.2 hi.1)
    split at h
    · rename_i y' hy
      split at h
      · rename_i x' hx
        rw [List.map_cons, List.map_cons, ax_lit_ok hE hy, ax_lit_ok hE hx]
        exact ax_nx_ok h
      · exact hn h
    · exact hn h
  · exact (ax_no_no h).elim
theorem ax_fit_ok {lo hi : Int} (h : ax_fit lo hi = true) : -2147483648 ≤ lo ∧ hi ≤ 2147483647 := by
  unfold ax_fit at h
  rw [Bool.and_eq_true] at h
  exact ⟨of_decide_eq_true h.1, of_decide_eq_true h.2⟩
theorem ax_vi_lit (hE : ax_ok v E) {w : Value} {x : Int32} (h : ax_lit E w = some x) (hw : sx_isI w = true) : ax_vi v w = x := by
  have h1 := ax_lit_ok hE h
  rw [ax_vI hw] at h1
  cases h1
  rfl
theorem ax_off_ok (hE : ax_ok v E) {x : Value} {c : Int} {b : Nat} {o : Int} (h : ax_off E x c = some (b, o)) : (ax_vi v x).toInt + c = (v b).1.toInt + o := by
  unfold ax_off at h
  split at h
  · rename_i k
    have h1 := ax_base_ok hE k
    cases h
    show (v k).1.toInt + c = _
    omega
  · cases h
theorem ax_bAdd_ok (hE : ax_ok v E) {x y : Value} (hx : sx_isI x = true) (hy : sx_isI y = true) : ax_Nok v (ax_bAdd E x y) (ax_vi v x + ax_vi v y) := by
  unfold ax_bAdd
  have h1 := ax_ivh_ok hE hx
  have h2 := ax_ivh_ok hE hy
  cases hf : ax_fit ((ax_ivh E x).1 + (ax_ivh E y).1) ((ax_ivh E x).2 + (ax_ivh E y).2)
  · exact ax_free_ok _
  · have h3 := ax_fit_ok hf
    have e := ax_add (x := ax_vi v x) (y := ax_vi v y) (by omega) (by omega)
    refine ⟨?_, fun b o h => ?_, fun p q h => by cases h⟩
    · rw [e]
      show (ax_ivh E x).1 + (ax_ivh E y).1 ≤ _ ∧ _ ≤ (ax_ivh E x).2 + (ax_ivh E y).2
      omega
    · rw [e]
      have h : (match ax_lit E y with
        | some c => ax_off E x c.toInt
        | none => (match ax_lit E x with
          | some c => ax_off E y c.toInt
          | none => none)) = some (b, o) := h
      split at h
      · rename_i c hc
        have := ax_off_ok hE h
        rw [ax_vi_lit hE hc hy]
        omega
      · split at h
        · rename_i c hc
          have := ax_off_ok hE h
          rw [ax_vi_lit hE hc hx]
          omega
        · cases h
theorem ax_bSub_ok (hE : ax_ok v E) {x y : Value} (hx : sx_isI x = true) (hy : sx_isI y = true) : ax_Nok v (ax_bSub E x y) (ax_vi v x - ax_vi v y) := by
  unfold ax_bSub
  have h1 := ax_ivh_ok hE hx
  have h2 := ax_ivh_ok hE hy
  cases hf : ax_fit ((ax_ivh E x).1 - (ax_ivh E y).2) ((ax_ivh E x).2 - (ax_ivh E y).1)
  · exact ax_free_ok _
  · have h3 := ax_fit_ok hf
    have e := ax_sub (x := ax_vi v x) (y := ax_vi v y) (by omega) (by omega)
    refine ⟨?_, fun b o h => ?_, fun p q h => ?_⟩
    · rw [e]
      show (ax_ivh E x).1 - (ax_ivh E y).2 ≤ _ ∧ _ ≤ (ax_ivh E x).2 - (ax_ivh E y).1
      omega
    · rw [e]
      have h : (match ax_lit E y with
        | some c => ax_off E x (- c.toInt)
        | none => none) = some (b, o) := h
      split at h
      · rename_i c hc
        have := ax_off_ok hE h
        rw [ax_vi_lit hE hc hy]
        omega
      · cases h
    · have h : some (x, y) = some (p, q) := h
      cases h
      exact e
theorem ax_mulc {c t lo hi : Int} (hc : 0 ≤ c) (h1 : lo ≤ t) (h2 : t ≤ hi) : c * lo ≤ c * t ∧ c * t ≤ c * hi := ⟨Int.mul_le_mul_of_nonneg_left h1 hc, Int.mul_le_mul_of_nonneg_left h2 hc⟩
theorem ax_bMul_ok (hE : ax_ok v E) {x y : Value} (hx : sx_isI x = true) (hy : sx_isI y = true) : ax_Nok v (ax_bMul E x y) (ax_vi v x * ax_vi v y) := by
  unfold ax_bMul
  have h1 := ax_ivh_ok hE hx
  have h2 := ax_ivh_ok hE hy
  split
  · rename_i c hc
    have e0 := ax_vi_lit hE hc hx
    cases hf : (decide (0 ≤ c.toInt) && ax_fit (c.toInt * (ax_ivh E y).1) (c.toInt * (ax_ivh E y).2))
    · exact ax_free_ok _
    · rw [Bool.and_eq_true] at hf
      have h3 := ax_fit_ok hf.2
      have h4 := ax_mulc (of_decide_eq_true hf.1) h2.1 h2.2
      rw [e0]
      have e := ax_mul (x := c) (y := ax_vi v y) (by omega) (by omega)
      refine ⟨?_, (fun b o h => by cases h), fun p q h => by cases h⟩
      rw [e]
      exact h4
  · split
    · rename_i c hc
      have e0 := ax_vi_lit hE hc hy
      cases hf : (decide (0 ≤ c.toInt) && ax_fit (c.toInt * (ax_ivh E x).1) (c.toInt * (ax_ivh E x).2))
      · exact ax_free_ok _
      · rw [Bool.and_eq_true] at hf
        have h3 := ax_fit_ok hf.2
        have h4 := ax_mulc (of_decide_eq_true hf.1) h1.1 h1.2
        rw [e0]
        have hc9 : (ax_vi v x).toInt * c.toInt = c.toInt * (ax_vi v x).toInt := Int.mul_comm _ _
        have e := ax_mul (x := ax_vi v x) (y := c) (by rw [hc9]; omega) (by rw [hc9]; omega)
        refine ⟨?_, (fun b o h => by cases h), fun p q h => by cases h⟩
        rw [e, hc9]
        exact h4
    · exact ax_free_ok _
theorem ax_bAnd_ok (hE : ax_ok v E) {x y : Value} (hx : sx_isI x = true) (hy : sx_isI y = true) : ax_Nok v (ax_bAnd E x y) (ax_vi v x &&& ax_vi v y) := by
  unfold ax_bAnd
  split
  · rename_i c hc
    rw [ax_vi_lit hE hc hy]
    by_cases h0 : 0 ≤ c.toInt
    · rw [decide_eq_true h0]
      exact ⟨ax_and h0, (fun b o h => by cases h), fun p q h => by cases h⟩
    · rw [decide_eq_false h0]
      exact ax_free_ok _
  · split
    · rename_i c hc
      rw [ax_vi_lit hE hc hx]
      by_cases h0 : 0 ≤ c.toInt
      · rw [decide_eq_true h0]
        exact ⟨ax_and2 h0, (fun b o h => by cases h), fun p q h => by cases h⟩
      · rw [decide_eq_false h0]
        exact ax_free_ok _
    · exact ax_free_ok _
theorem ax_bRem_ok (hE : ax_ok v E) {x y : Value} (hx : sx_isI x = true) (hy : sx_isI y = true) : ax_Nok v (ax_bRem E x y) (ax_vi v x - ax_vi v x / ax_vi v y * ax_vi v y) := by
  unfold ax_bRem
  have h1 := ax_iv_ok hE hx
  have h2 := ax_iv_ok hE hy
  have h3 := ax_ivh_ok hE hy
  cases hf : (decide (0 ≤ (ax_iv E x).1) && decide (0 < (ax_iv E y).1))
  · exact ax_free_ok _
  · rw [Bool.and_eq_true] at hf
    have q1 := of_decide_eq_true hf.1
    have q2 := of_decide_eq_true hf.2
    have h4 := ax_rem (x := ax_vi v x) (y := ax_vi v y) (by omega) (by omega)
    refine ⟨?_, (fun b o h => by cases h), fun p q h => by cases h⟩
    show 0 ≤ _ ∧ _ ≤ (ax_ivh E y).2 - 1
    omega
theorem ax_dv_ok (hE : ax_ok v E) {f : Int32 → Int32 → Int32} {bd : ax_E → Value → Value → ax_N} (hbd : ∀ x y, sx_isI x = true → sx_isI y = true → ax_Nok v (bd E x y) (f (ax_vi v x) (ax_vi v y))) (h : ax_dv E f bd pc ls st = .inl (some R)) : ∃ y x r, st.map (ax_v v) = .int y :: .int x :: r ∧ ¬ y = 0 ∧ ax_rel v a M R (rx_bin f pc (ax_ls v ls) (.int y :: .int x :: r) a M) := by
  unfold ax_dv at h
  split at h
  · rename_i y x r
    cases hc : (sx_isI y && (decide (0 < (ax_iv E y).1) || decide ((ax_iv E y).2 < 0))) with
    | true =>
      rw [hc] at h
      rw [Bool.and_eq_true, Bool.or_eq_true] at hc
      have h0 : ax_bin E f bd pc ls (y :: x :: r) = .inl (some R) := h
      have K := ax_bin_ok (v := v) (a := a) (M := M) hE hbd h0
      have hxi : sx_isI x = true := by
        unfold ax_bin at h0
        dsimp only at h0
        obtain ⟨hi, -⟩ := sx_cT ax_non h0
        rw [Bool.and_eq_true] at hi
        exact hi.2
      rw [List.map_cons, List.map_cons, ax_vI hc.1, ax_vI hxi] at K ⊢
      have h2 := ax_iv_ok hE hc.1
      refine ⟨_, _, _, rfl, fun z => ?_, K⟩
      rw [z] at h2
      have z0 : (0 : Int32).toInt = 0 := rfl
      rw [z0] at h2
      rcases hc.2 with q | q
      · have := of_decide_eq_true q
        omega
      · have := of_decide_eq_true q
        omega
    | false =>
      rw [hc] at h
      dsimp only [cond] at h
      split at h
      · rename_i k
        split at h
        · exact (ax_no_no h).elim
        · cases h
      · exact (ax_no_no h).elim
  · exact (ax_no_no h).elim
theorem ax_un_ok (hE : ax_ok v E) {f : Int32 → Int32} (h : ax_un E f pc ls st = .inl (some R)) : ∃ x r, st.map (ax_v v) = .int x :: r ∧ ax_rel v a M R (rx_nx pc (ax_ls v ls) (.int (f x) :: r) a M) := by
  unfold ax_un at h
  split at h
  · rename_i x r
    obtain ⟨hx, h⟩ := sx_cT ax_non h
    refine ⟨ax_vi v x, r.map (ax_v v), by rw [List.map_cons, ax_vI hx], ?_⟩
    split at h
    · rename_i x' hl
      rw [ax_vi_lit hE hl hx]
      exact ax_nx_ok h
    · exact ax_nw_ok h (ax_free_ok _)
  · exact (ax_no_no h).elim
theorem ax_jmp_ok {off : Int} (h : ax_jmp pc off ls st = .inl (some R)) : ax_rel v a M R (rx_jmp pc off (ax_ls v ls) (st.map (ax_v v)) a M) := by
  unfold ax_jmp at h
  unfold rx_jmp
  split at h
  · rename_i t ht
    rw [ht]
    exact ax_nx_ok h
  · exact (ax_no_no h).elim
end AXQ
