/-! the abstract machine's cells as a world of the kit -/
/-- the classes of int[], boolean[], int[][], long[] -/
abbrev rx_I : Type := ClassId × ClassId × ClassId × ClassId
noncomputable def rx_tr (ρ : Nat → Nat) (v : Value) : Value := match v with
  | .ref k => .ref (ρ k)
  | w => w
noncomputable def rx_fv (ρ : Nat → Nat) (M : rx_M) (k t j : Nat) : Value := if t = 2 then va_rf ((M.2.1 k j).map ρ) else .int (M.1 k j)
noncomputable def rx_fs (ρ : Nat → Nat) (M : rx_M) (k : Nat) (ts : List Nat) : List Value := ts.mapIdx (fun j t => rx_fv ρ M k t j)
noncomputable def rx_ce (I : rx_I) (ρ : Nat → Nat) (M : rx_M) (k : Nat) : va_E := match rx_lay k with
  | some (.inl ci) => .inr (ci, rx_fs ρ M k (rx_sty ci))
  | some (.inr (t, n)) => match t with
    | 0 => .inl (I.1, n, .inl (M.1 k))
    | 1 => .inl (I.2.1, n, .inl (M.1 k))
    | 2 => .inl (I.2.2.1, n, .inr (.inr (.inr (.inr (fun j => (M.2.1 k j).map ρ)))))
    | 3 => .inl (I.2.2.2, n, .inr (.inl (M.2.2 k)))
    | _ => .inr (0, [])
  | none => .inr (0, [])
noncomputable def rx_wl (I : rx_I) (ρ : Nat → Nat) (M : rx_M) (n : Nat) : va_W := (List.range n).map (fun k => (ρ k, rx_ce I ρ M k))
theorem rx_wl_get {I : rx_I} {ρ : Nat → Nat} {M : rx_M} {n k : Nat} (h : k < n) : (rx_wl I ρ M n)[k]? = some (ρ k, rx_ce I ρ M k) := by
  unfold rx_wl
  rw [List.getElem?_map, List.getElem?_range h]
  rfl
theorem rx_wl_none {I : rx_I} {ρ : Nat → Nat} {M : rx_M} {n k : Nat} (h : n ≤ k) : (rx_wl I ρ M n)[k]? = none := by
  refine List.getElem?_eq_none ?_
  unfold rx_wl
  rw [List.length_map, List.length_range]
  exact h
theorem rx_wl_len {I : rx_I} {ρ : Nat → Nat} {M : rx_M} {n : Nat} : (rx_wl I ρ M n).length = n := by
  unfold rx_wl
  rw [List.length_map, List.length_range]
theorem rx_wl_set {I : rx_I} {ρ : Nat → Nat} {M M' : rx_M} {n k : Nat} (h : k < n) (hne : ∀ j, j ≠ k → rx_ce I ρ M' j = rx_ce I ρ M j) : (rx_wl I ρ M n).set k (ρ k, rx_ce I ρ M' k) = rx_wl I ρ M' n := by
  refine List.ext_getElem? fun j => ?_
  by_cases hj : j < n
  · rw [rx_wl_get hj]
    by_cases e : j = k
    · subst e
      rw [List.getElem?_set_self (by rw [rx_wl_len]; exact h)]
    · rw [List.getElem?_set_ne (fun q => e q.symm), rx_wl_get hj, hne j e]
  · rw [rx_wl_none (Nat.not_lt.mp hj)]
    refine List.getElem?_eq_none ?_
    rw [List.length_set, rx_wl_len]
    omega
theorem rx_wl_push {I : rx_I} {ρ ρ' : Nat → Nat} {M M' : rx_M} {n : Nat} (h1 : ∀ k, k < n → ρ' k = ρ k) (h2 : ∀ k, k < n → rx_ce I ρ' M' k = rx_ce I ρ M k) : rx_wl I ρ' M' (n + 1) = rx_wl I ρ M n ++ [(ρ' n, rx_ce I ρ' M' n)] := by
  refine List.ext_getElem? fun j => ?_
  rcases Nat.lt_trichotomy j n with hj | hj | hj
  · rw [rx_wl_get (by omega), List.getElem?_append_left (by rw [rx_wl_len]; exact hj), rx_wl_get hj, h1 j hj, h2 j hj]
  · subst hj
    rw [rx_wl_get (by omega), List.getElem?_append_right (by rw [rx_wl_len]; exact Nat.le_refl _), rx_wl_len, Nat.sub_self]
    rfl
  · rw [rx_wl_none (by omega)]
    refine (List.getElem?_eq_none ?_).symm
    rw [List.length_append, rx_wl_len]
    simp
    omega
/-- a value's reference is a cell of the world, or the script -/
noncomputable def rx_rk (n : Nat) (v : Value) : Prop := match v with
  | .ref k => k < n ∨ k = rx_scr
  | _ => True
theorem rx_rk_i {n : Nat} {x : Int32} : rx_rk n (.int x) := trivial
theorem rx_rk_l {n : Nat} {x : Int64} : rx_rk n (.long x) := trivial
theorem rx_rk_up {n n' : Nat} {v : Value} (h : rx_rk n v) (hn : n ≤ n') : rx_rk n' v := by
  cases v with
  | ref k => exact h.elim (fun q => Or.inl (Nat.lt_of_lt_of_le q hn)) Or.inr
  | _ => trivial
theorem rx_tr_eq {ρ ρ' : Nat → Nat} {n : Nat} {v : Value} (h : ∀ k, k < n ∨ k = rx_scr → ρ' k = ρ k) (hv : rx_rk n v) : rx_tr ρ' v = rx_tr ρ v := by
  cases v with
  | ref k => exact congrArg Value.ref (h k hv)
  | _ => rfl
/-- references lead to cells; what isn't made yet is empty -/
noncomputable def rx_mok (n : Nat) (M : rx_M) : Prop := (∀ q j z, q < n → M.2.1 q j = some z → z < n) ∧ ∀ q, n ≤ q → (∀ j, M.1 q j = 0) ∧ (∀ j, M.2.1 q j = none) ∧ ∀ j, M.2.2 q j = 0
theorem rx_ce_eq {I : rx_I} {ρ ρ' : Nat → Nat} {M : rx_M} {n k : Nat} (h : ∀ k, k < n ∨ k = rx_scr → ρ' k = ρ k) (hM : rx_mok n M) (hk : k < n) : rx_ce I ρ' M k = rx_ce I ρ M k := by
  have key : ∀ j, (M.2.1 k j).map ρ' = (M.2.1 k j).map ρ := by
    intro j
    cases hz : M.2.1 k j with
    | none => rfl
    | some z => exact congrArg some (h z (Or.inl (hM.1 k j z hk hz)))
  have k2 : rx_fv ρ' M k = rx_fv ρ M k := by
    funext t j
    unfold rx_fv
    rw [key j]
  unfold rx_ce rx_fs
  rw [k2]
  simp only [key]
theorem rx_ce_ne {I : rx_I} {ρ : Nat → Nat} {M M' : rx_M} {k : Nat} (h1 : M'.1 k = M.1 k) (h2 : M'.2.1 k = M.2.1 k) (h3 : M'.2.2 k = M.2.2 k) : rx_ce I ρ M' k = rx_ce I ρ M k := by
  unfold rx_ce rx_fs
  have k2 : rx_fv ρ M' k = rx_fv ρ M k := by
    funext t j
    unfold rx_fv
    rw [h1, h2]
  rw [k2, h1, h2, h3]
/-- locals -/
noncomputable def rx_lv (lsr : Array Slot) (nL : Nat) (ls : List (Option Value)) (ρ : Nat → Nat) : Prop := ls.length = nL ∧ lsr.size = nL ∧ lv_wf lsr ∧ ∀ (k : Nat) (v : Value), ls[k]? = some (some v) → lsr[k]? = some (.val (rx_tr ρ v))
noncomputable def rx_lp (ρ : Nat → Nat) (ls : List (Option Value)) : List (Nat × Value) := (List.range ls.length).filterMap (fun k => match ls[k]? with
  | some (some v) => some (k, rx_tr ρ v)
  | _ => none)
theorem rx_lp_mem {ρ : Nat → Nat} {ls : List (Option Value)} {q : Nat × Value} : q ∈ rx_lp ρ ls ↔ ∃ v, ls[q.1]? = some (some v) ∧ q.2 = rx_tr ρ v := by
  unfold rx_lp
  rw [List.mem_filterMap]
  constructor
  · rintro ⟨k, hk, h⟩
    cases hl : ls[k]? with
    | none => rw [hl] at h; cases h
    | some o =>
      cases o with
      | none => rw [hl] at h; cases h
      | some v =>
        rw [hl] at h
        cases h
        exact ⟨v, hl, rfl⟩
  · rintro ⟨v, hv, h⟩
    obtain ⟨k, w⟩ := q
    have hv' : ls[k]? = some (some v) := hv
    have h' : w = rx_tr ρ v := h
    refine ⟨k, List.mem_range.mpr (List.getElem?_eq_some_iff.mp hv').1, ?_⟩
    rw [hv', h']
theorem rx_lv_has {lsr : Array Slot} {nL : Nat} {ls : List (Option Value)} {ρ : Nat → Nat} (h : rx_lv lsr nL ls ρ) : lv_has lsr nL (rx_lp ρ ls) := by
  refine ⟨h.2.1, h.2.2.1, fun q hq => ?_⟩
  obtain ⟨v, h1, h2⟩ := rx_lp_mem.mp hq
  rw [h2]
  exact h.2.2.2 _ v h1
theorem rx_tr_cat (ρ : Nat → Nat) (v : Value) : (rx_tr ρ v).category = v.category := by cases v <;> rfl
theorem rx_kill_len (ls : List (Option Value)) (k : Nat) : (rx_kill ls k).length = ls.length := by
  unfold rx_kill
  cases k with
  | zero => rfl
  | succ j =>
    dsimp only
    cases hl : ls[j]? with
    | none => rfl
    | some o =>
      cases o with
      | none => rfl
      | some v =>
        dsimp only
        cases Nat.beq v.category 2
        · rfl
        · exact List.length_set
theorem rx_kill_get {ls : List (Option Value)} {k j : Nat} {v : Value} (h : (rx_kill ls k)[j]? = some (some v)) : ls[j]? = some (some v) ∧ ¬ (j + 1 = k ∧ v.category = 2) := by
  unfold rx_kill at h
  cases k with
  | zero => exact ⟨h, fun q => by omega⟩
  | succ i =>
    dsimp only at h
    by_cases e : j = i
    · subst e
      cases hl : ls[j]? with
      | none => rw [hl] at h; dsimp only at h; rw [hl] at h; cases h
      | some o =>
        cases o with
        | none => rw [hl] at h; dsimp only at h; rw [hl] at h; cases h
        | some w =>
          rw [hl] at h
          dsimp only at h
          cases hc : Nat.beq w.category 2 with
          | true =>
            rw [hc] at h
            dsimp only [cond] at h
            rw [List.getElem?_set_self (List.getElem?_eq_some_iff.mp hl).1] at h
            cases h
          | false =>
            rw [hc] at h
            dsimp only [cond] at h
            rw [hl] at h
            cases h
            refine ⟨rfl, fun q => ?_⟩
            rw [q.2] at hc
            exact absurd hc (by decide)
    · have h2 : ls[j]? = some (some v) := by
        cases hl : ls[i]? with
        | none => rw [hl] at h; exact h
        | some o =>
          cases o with
          | none => rw [hl] at h; exact h
          | some w =>
            rw [hl] at h
            dsimp only at h
            cases hc : Nat.beq w.category 2 with
            | true =>
              rw [hc] at h
              dsimp only [cond] at h
              rw [List.getElem?_set_ne (fun q => e q.symm)] at h
              exact h
            | false =>
              rw [hc] at h
              exact h
      exact ⟨h2, fun q => e (by omega)⟩
theorem rx_s1_get {ls : List (Option Value)} {k j : Nat} {v w : Value} (hk : k < ls.length) (h : (rx_s1 ls k v)[j]? = some (some w)) : (j = k ∧ w = v) ∨ (j ≠ k ∧ ls[j]? = some (some w) ∧ ¬ (j + 1 = k ∧ w.category = 2)) := by
  unfold rx_s1 at h
  by_cases e : j = k
  · subst e
    rw [List.getElem?_set_self (by rw [rx_kill_len]; exact hk)] at h
    cases h
    exact Or.inl ⟨rfl, rfl⟩
  · rw [List.getElem?_set_ne (fun q => e q.symm)] at h
    exact Or.inr ⟨e, rx_kill_get h⟩
theorem rx_lv_s1 {lsr : Array Slot} {nL : Nat} {ls : List (Option Value)} {ρ : Nat → Nat} {k : Nat} {v : Value} (hl : ls.length = nL) (hk : k < nL) (h : lv_has lsr nL ((k, rx_tr ρ v) :: (rx_lp ρ ls).filter (fun q => !(q.1 == k) && !(q.1 + 1 == k && q.2.category == 2)))) : rx_lv lsr nL (rx_s1 ls k v) ρ := by
  refine ⟨by unfold rx_s1; rw [List.length_set, rx_kill_len]; exact hl, h.1, h.2.1, fun j w hj => ?_⟩
  rcases rx_s1_get (by rw [hl]; exact hk) hj with ⟨rfl, rfl⟩ | ⟨e, h1, h2⟩
  · exact h.2.2 (j, rx_tr ρ w) List.mem_cons_self
  · refine h.2.2 (j, rx_tr ρ w) (List.mem_cons_of_mem _ (List.mem_filter.mpr ⟨rx_lp_mem.mpr ⟨w, h1, rfl⟩, ?_⟩))
    simp only [rx_tr_cat, Bool.and_eq_true, Bool.not_eq_true', beq_eq_false_iff_ne, ne_eq, Bool.and_eq_false_iff]
    refine ⟨e, ?_⟩
    by_cases q : j + 1 = k
    · exact Or.inr fun z => h2 ⟨q, z⟩
    · exact Or.inl q
theorem rx_lv_no {lsr : Array Slot} {nL : Nat} {ls : List (Option Value)} {ρ : Nat → Nat} {k : Nat} {v : Value} (hl : ls.length = nL) (hk : k < nL) (h : lv_has lsr nL ((k, v) :: (rx_lp ρ ls).filter (fun q => !(q.1 == k) && !(q.1 + 1 == k && q.2.category == 2)))) : rx_lv lsr nL ((rx_kill ls k).set k none) ρ := by
  refine ⟨by rw [List.length_set, rx_kill_len]; exact hl, h.1, h.2.1, fun j w hj => ?_⟩
  by_cases e : j = k
  · subst e
    rw [List.getElem?_set_self (by rw [rx_kill_len, hl]; exact hk)] at hj
    cases hj
  · rw [List.getElem?_set_ne (fun q => e q.symm)] at hj
    obtain ⟨h1, h2⟩ := rx_kill_get hj
    refine h.2.2 (j, rx_tr ρ w) (List.mem_cons_of_mem _ (List.mem_filter.mpr ⟨rx_lp_mem.mpr ⟨w, h1, rfl⟩, ?_⟩))
    simp only [rx_tr_cat, Bool.and_eq_true, Bool.not_eq_true', beq_eq_false_iff_ne, ne_eq, Bool.and_eq_false_iff]
    refine ⟨e, ?_⟩
    by_cases q : j + 1 = k
    · exact Or.inr fun z => h2 ⟨q, z⟩
    · exact Or.inl q
theorem rx_lv_s2 {lsr : Array Slot} {nL : Nat} {ls : List (Option Value)} {ρ : Nat → Nat} {k : Nat} {v : Value} (hl : ls.length = nL) (hk : k + 1 < nL) (h : lv_has lsr nL ((k, rx_tr ρ v) :: (rx_lp ρ ls).filter (fun q => !(q.1 == k) && (!(q.1 == k + 1) && !(q.1 + 1 == k && q.2.category == 2))))) : rx_lv lsr nL (rx_s2 ls k v) ρ := by
  refine ⟨by unfold rx_s2; rw [List.length_set, List.length_set, rx_kill_len]; exact hl, h.1, h.2.1, fun j w hj => ?_⟩
  unfold rx_s2 at hj
  by_cases e2 : j = k + 1
  · subst e2
    rw [List.getElem?_set_self (by rw [List.length_set, rx_kill_len, hl]; exact hk)] at hj
    cases hj
  · rw [List.getElem?_set_ne (fun q => e2 q.symm)] at hj
    rcases rx_s1_get (ls := ls) (k := k) (v := v) (by rw [hl]; omega) hj with ⟨rfl, rfl⟩ | ⟨e, h1, h2⟩
    · exact h.2.2 (j, rx_tr ρ w) List.mem_cons_self
    · refine h.2.2 (j, rx_tr ρ w) (List.mem_cons_of_mem _ (List.mem_filter.mpr ⟨rx_lp_mem.mpr ⟨w, h1, rfl⟩, ?_⟩))
      simp only [rx_tr_cat, Bool.and_eq_true, Bool.not_eq_true', beq_eq_false_iff_ne, ne_eq, Bool.and_eq_false_iff]
      refine ⟨e, e2, ?_⟩
      by_cases q : j + 1 = k
      · exact Or.inr fun z => h2 ⟨q, z⟩
      · exact Or.inl q
