/-! the core: what is known of the unknowns: how many, bounds (the newest first), k = base + offset, k = a - b, x + c <= y -/
abbrev ax_E : Type := Nat × List (Int × Int) × List (Nat × Nat × Int) × List (Nat × Value × Value) × List (Nat × Nat × Int)
noncomputable def ax_b (E : ax_E) (k : Nat) : Int × Int := cond (Nat.blt k E.1) (sx_at sx_full E.2.1 (E.1 - (k + 1))) sx_full
noncomputable def ax_ok (v : ax_V) (E : ax_E) : Prop := (∀ k, (ax_b E k).1 ≤ (v k).1.toInt ∧ (v k).1.toInt ≤ (ax_b E k).2) ∧ (∀ d ∈ E.2.2.1, (v d.1).1.toInt = (v d.2.1).1.toInt + d.2.2) ∧ (∀ d ∈ E.2.2.2.1, (v d.1).1.toInt = (ax_vi v d.2.1).toInt - (ax_vi v d.2.2).toInt) ∧ ∀ d ∈ E.2.2.2.2, (v d.1).1.toInt + d.2.2 ≤ (v d.2.1).1.toInt
/-- all that is spoken of is there -/
noncomputable def ax_wf (E : ax_E) : Prop := (∀ d ∈ E.2.2.1, d.1 < E.1 ∧ d.2.1 < E.1) ∧ (∀ d ∈ E.2.2.2.1, d.1 < E.1 ∧ ax_sc E.1 d.2.1 = true ∧ ax_sc E.1 d.2.2 = true) ∧ ∀ d ∈ E.2.2.2.2, d.1 < E.1 ∧ d.2.1 < E.1
theorem ax_sc_up {n m : Nat} {w : Value} (h : ax_sc n w = true) (hm : n ≤ m) : ax_sc m w = true := by
  cases w with
  | retAddr k => exact Nat.blt_eq.mpr (Nat.lt_of_lt_of_le (Nat.blt_eq.mp h) hm)
  | float b => exact Nat.blt_eq.mpr (Nat.lt_of_lt_of_le (Nat.blt_eq.mp h) hm)
  | double b => exact Nat.blt_eq.mpr (Nat.lt_of_lt_of_le (Nat.blt_eq.mp h) hm)
  | _ => rfl
theorem ax_b_ge {E : ax_E} {k : Nat} (h : ¬ k < E.1) : ax_b E k = sx_full := by
  unfold ax_b
  rw [sx_blt, decide_eq_false h]
  rfl
theorem ax_b_lt {E : ax_E} {k : Nat} (h : k < E.1) : ax_b E k = sx_at sx_full E.2.1 (E.1 - (k + 1)) := by
  unfold ax_b
  rw [sx_blt, decide_eq_true h]
  rfl
theorem ax_full_ok (x : Int32) : sx_full.1 ≤ x.toInt ∧ x.toInt ≤ sx_full.2 := ax_range x
/-- one unknown more -/
noncomputable def ax_new (E : ax_E) (b : Int × Int) : ax_E := (E.1 + 1, b :: E.2.1, E.2.2)
theorem ax_new_b {E : ax_E} {b : Int × Int} {k : Nat} : ax_b (ax_new E b) k = if k = E.1 then b else ax_b E k := by
  by_cases h : k = E.1
  · rw [if_pos h, ax_b_lt (show k < (ax_new E b).1 by show k < E.1 + 1; omega), show (ax_new E b).1 - (k + 1) = 0 by show E.1 + 1 - (k + 1) = 0; omega]
    rfl
  · rw [if_neg h]
    by_cases h2 : k < E.1
    · rw [ax_b_lt (show k < (ax_new E b).1 by show k < E.1 + 1; omega), ax_b_lt h2, show (ax_new E b).1 - (k + 1) = (E.1 - (k + 1)) + 1 by show E.1 + 1 - (k + 1) = _; omega]
      rfl
    · rw [ax_b_ge h2, ax_b_ge (show ¬ k < (ax_new E b).1 by show ¬ k < E.1 + 1; omega)]
theorem ax_new_wf {E : ax_E} {b : Int × Int} (h : ax_wf E) : ax_wf (ax_new E b) :=
  ⟨fun d hd => ⟨Nat.lt_succ_of_lt (h.1 d hd).1, Nat.lt_succ_of_lt (h.1 d hd).2⟩, fun d hd => ⟨Nat.lt_succ_of_lt (h.2.1 d hd).1, ax_sc_up (h.2.1 d hd).2.1 (Nat.le_succ _), ax_sc_up (h.2.1 d hd).2.2 (Nat.le_succ _)⟩, fun d hd => ⟨Nat.lt_succ_of_lt (h.2.2 d hd).1, Nat.lt_succ_of_lt (h.2.2 d hd).2⟩⟩
theorem ax_new_ok {v : ax_V} {E : ax_E} {b : Int × Int} {x : Int32 × Int64} (hw : ax_wf E) (h : ax_ok v E) (hx : b.1 ≤ x.1.toInt ∧ x.1.toInt ≤ b.2) : ax_ok (ax_up v E.1 x) (ax_new E b) := by
  refine ⟨fun k => ?_, fun d hd => ?_, fun d hd => ?_, fun d hd => ?_⟩
  · rw [ax_new_b]
    by_cases hk : k = E.1
    · rw [if_pos hk, hk, ax_up_self]
      exact hx
    · rw [if_neg hk, show ax_up v E.1 x k = v k from if_neg hk]
      exact h.1 k
  · rw [ax_up_lt v x (hw.1 d hd).1, ax_up_lt v x (hw.1 d hd).2]
    exact h.2.1 d hd
  · rw [ax_up_lt v x (hw.2.1 d hd).1, ax_vi_up (hw.2.1 d hd).2.1, ax_vi_up (hw.2.1 d hd).2.2]
    exact h.2.2.1 d hd
  · rw [ax_up_lt v x (hw.2.2 d hd).1, ax_up_lt v x (hw.2.2 d hd).2]
    exact h.2.2.2 d hd
/-- closer bounds -/
noncomputable def ax_set (E : ax_E) (k : Nat) (b : Int × Int) : ax_E := cond (Nat.blt k E.1) (E.1, sx_put sx_full b (E.1 - (k + 1)) E.2.1, E.2.2) E
theorem ax_set_n {E : ax_E} {k : Nat} {b : Int × Int} : (ax_set E k b).1 = E.1 := by
  unfold ax_set
  cases Nat.blt k E.1 <;> rfl
theorem ax_set_r {E : ax_E} {k : Nat} {b : Int × Int} : (ax_set E k b).2.2 = E.2.2 := by
  unfold ax_set
  cases Nat.blt k E.1 <;> rfl
theorem ax_set_wf {E : ax_E} {k : Nat} {b : Int × Int} (h : ax_wf E) : ax_wf (ax_set E k b) := by
  unfold ax_wf
  rw [ax_set_n, ax_set_r]
  exact h
theorem ax_set_b {E : ax_E} {k j : Nat} {b : Int × Int} : ax_b (ax_set E k b) j = if j = k ∧ k < E.1 then b else ax_b E j := by
  by_cases hk : k < E.1
  · have e : ax_set E k b = (E.1, sx_put sx_full b (E.1 - (k + 1)) E.2.1, E.2.2) := by
      unfold ax_set
      rw [sx_blt, decide_eq_true hk]
      rfl
    rw [e]
    by_cases hj : j < E.1
    · rw [ax_b_lt (E := (E.1, sx_put sx_full b (E.1 - (k + 1)) E.2.1, E.2.2)) hj, ax_b_lt hj]
      dsimp only
      rw [sx_at_put]
      by_cases h : j = k
      · rw [if_pos (by omega), if_pos ⟨h, hk⟩]
      · rw [if_neg (by omega), if_neg (fun z => h z.1)]
    · rw [ax_b_ge (E := (E.1, sx_put sx_full b (E.1 - (k + 1)) E.2.1, E.2.2)) hj, ax_b_ge hj, if_neg (fun z => hj (by rw [z.1]; exact z.2))]
  · have e : ax_set E k b = E := by
      unfold ax_set
      rw [sx_blt, decide_eq_false hk]
      rfl
    rw [e, if_neg (fun z => hk z.2)]
theorem ax_set_ok {v : ax_V} {E : ax_E} {k : Nat} {b : Int × Int} (h : ax_ok v E) (hx : b.1 ≤ (v k).1.toInt ∧ (v k).1.toInt ≤ b.2) : ax_ok v (ax_set E k b) := by
  refine ⟨fun j => ?_, ?_⟩
  · rw [ax_set_b]
    by_cases hj : j = k ∧ k < E.1
    · rw [if_pos hj, hj.1]
      exact hx
    · rw [if_neg hj]
      exact h.1 j
  · rw [ax_set_r]
    exact h.2
/-- what is told besides -/
noncomputable def ax_def (E : ax_E) (d : Nat × Nat × Int) : ax_E := (E.1, E.2.1, d :: E.2.2.1, E.2.2.2)
noncomputable def ax_dif (E : ax_E) (d : Nat × Value × Value) : ax_E := (E.1, E.2.1, E.2.2.1, d :: E.2.2.2.1, E.2.2.2.2)
noncomputable def ax_fact (E : ax_E) (d : Nat × Nat × Int) : ax_E := (E.1, E.2.1, E.2.2.1, E.2.2.2.1, d :: E.2.2.2.2)
theorem ax_def_ok {v : ax_V} {E : ax_E} {d : Nat × Nat × Int} (h : ax_ok v E) (hd : (v d.1).1.toInt = (v d.2.1).1.toInt + d.2.2) : ax_ok v (ax_def E d) :=
  ⟨h.1, fun z hz => by
    rcases List.mem_cons.mp hz with q | q
    · rw [q]; exact hd
    · exact h.2.1 z q, h.2.2⟩
theorem ax_dif_ok {v : ax_V} {E : ax_E} {d : Nat × Value × Value} (h : ax_ok v E) (hd : (v d.1).1.toInt = (ax_vi v d.2.1).toInt - (ax_vi v d.2.2).toInt) : ax_ok v (ax_dif E d) :=
  ⟨h.1, h.2.1, fun z hz => by
    rcases List.mem_cons.mp hz with q | q
    · rw [q]; exact hd
    · exact h.2.2.1 z q, h.2.2.2⟩
theorem ax_fact_ok {v : ax_V} {E : ax_E} {d : Nat × Nat × Int} (h : ax_ok v E) (hd : (v d.1).1.toInt + d.2.2 ≤ (v d.2.1).1.toInt) : ax_ok v (ax_fact E d) :=
  ⟨h.1, h.2.1, h.2.2.1, fun z hz => by
    rcases List.mem_cons.mp hz with q | q
    · rw [q]; exact hd
    · exact h.2.2.2 z q⟩
theorem ax_def_wf {E : ax_E} {d : Nat × Nat × Int} (h : ax_wf E) (hd : d.1 < E.1 ∧ d.2.1 < E.1) : ax_wf (ax_def E d) :=
  ⟨fun z hz => by
    rcases List.mem_cons.mp hz with q | q
    · rw [q]; exact hd
    · exact h.1 z q, h.2⟩
theorem ax_dif_wf {E : ax_E} {d : Nat × Value × Value} (h : ax_wf E) (hd : d.1 < E.1 ∧ ax_sc E.1 d.2.1 = true ∧ ax_sc E.1 d.2.2 = true) : ax_wf (ax_dif E d) :=
  ⟨h.1, fun z hz => by
    rcases List.mem_cons.mp hz with q | q
    · rw [q]; exact hd
    · exact h.2.1 z q, h.2.2⟩
theorem ax_fact_wf {E : ax_E} {d : Nat × Nat × Int} (h : ax_wf E) (hd : d.1 < E.1 ∧ d.2.1 < E.1) : ax_wf (ax_fact E d) :=
  ⟨h.1, h.2.1, fun z hz => by
    rcases List.mem_cons.mp hz with q | q
    · rw [q]; exact hd
    · exact h.2.2 z q⟩
/-! questions -/
noncomputable def ax_iv (E : ax_E) (w : Value) : Int × Int := match w with
  | .int x => (x.toInt, x.toInt)
  | .retAddr k => ax_b E k
  | _ => sx_full
theorem ax_iv_ok {v : ax_V} {E : ax_E} (h : ax_ok v E) {w : Value} (hw : sx_isI w = true) : (ax_iv E w).1 ≤ (ax_vi v w).toInt ∧ (ax_vi v w).toInt ≤ (ax_iv E w).2 := by
  cases w with
  | int x => exact ⟨Int.le_refl _, Int.le_refl _⟩
  | retAddr k => exact h.1 k
  | _ => cases hw
noncomputable def ax_lit (E : ax_E) (w : Value) : Option Int32 := match w with
  | .int x => some x
  | .retAddr k => cond (decide ((ax_b E k).1 = (ax_b E k).2)) (some (Int32.ofInt (ax_b E k).1)) none
  | _ => none
theorem ax_lit_ok {v : ax_V} {E : ax_E} (h : ax_ok v E) {w : Value} {x : Int32} (hw : ax_lit E w = some x) : ax_v v w = .int x := by
  cases w with
  | int y => cases hw; rfl
  | retAddr k =>
    have h' : cond (decide ((ax_b E k).1 = (ax_b E k).2)) (some (Int32.ofInt (ax_b E k).1)) none = some x := hw
    by_cases e : (ax_b E k).1 = (ax_b E k).2
    · rw [decide_eq_true e] at h'
      cases h'
      have hk := h.1 k
      have e2 : (v k).1.toInt = (ax_b E k).1 := by omega
      show Value.int (v k).1 = _
      rw [← e2, Int32.ofInt_toInt]
    · rw [decide_eq_false e] at h'
      cases h'
  | _ => cases hw
/-- the least that facts and differences tell of a bound from above -/
noncomputable def ax_fmin (g : Nat → Int) (k : Nat) (L : List (Nat × Nat × Int)) (b : Int) : Int := List.rec (motive := fun _ => Int) b (fun d _ ih => cond (Nat.beq d.1 k) (min (g d.2.1 - d.2.2) ih) ih) L
noncomputable def ax_dmin (E : ax_E) (k : Nat) (L : List (Nat × Value × Value)) (b : Int) : Int := List.rec (motive := fun _ => Int) b (fun d _ ih => cond (Nat.beq d.1 k && (sx_isI d.2.1 && sx_isI d.2.2)) (min ((ax_iv E d.2.1).2 - (ax_iv E d.2.2).1) ih) ih) L
noncomputable def ax_hi (E : ax_E) (dep : Nat) : Nat → Int := Nat.rec (motive := fun _ => Nat → Int) (fun k => ax_dmin E k E.2.2.2.1 (ax_b E k).2) (fun _ ih k => ax_fmin ih k E.2.2.2.2 (ax_dmin E k E.2.2.2.1 (ax_b E k).2)) dep
theorem ax_fmin_ok {v : ax_V} {g : Nat → Int} {k : Nat} {b : Int} (hb : (v k).1.toInt ≤ b) (hg : ∀ j, (v j).1.toInt ≤ g j) : ∀ L : List (Nat × Nat × Int), (∀ d ∈ L, (v d.1).1.toInt + d.2.2 ≤ (v d.2.1).1.toInt) → (v k).1.toInt ≤ ax_fmin g k L b
  | [], _ => hb
  | d :: t, h => by
    have ih := ax_fmin_ok hb hg t (fun z hz => h z (List.mem_cons_of_mem _ hz))
    show (v k).1.toInt ≤ cond (Nat.beq d.1 k) (min (g d.2.1 - d.2.2) (ax_fmin g k t b)) (ax_fmin g k t b)
    cases hd : Nat.beq d.1 k
    · exact ih
    · have e := Nat.eq_of_beq_eq_true hd
      have h1 := h d List.mem_cons_self
      have h2 := hg d.2.1
      rw [e] at h1
      show (v k).1.toInt ≤ min (g d.2.1 - d.2.2) (ax_fmin g k t b)
      omega
theorem ax_dmin_ok {v : ax_V} {E : ax_E} (hE : ax_ok v E) {k : Nat} {b : Int} (hb : (v k).1.toInt ≤ b) : ∀ L : List (Nat × Value × Value), (∀ d ∈ L, (v d.1).1.toInt = (ax_vi v d.2.1).toInt - (ax_vi v d.2.2).toInt) → (v k).1.toInt ≤ ax_dmin E k L b
  | [], _ => hb
  | d :: t, h => by
    have ih := ax_dmin_ok hE hb t (fun z hz => h z (List.mem_cons_of_mem _ hz))
    show (v k).1.toInt ≤ cond (Nat.beq d.1 k && (sx_isI d.2.1 && sx_isI d.2.2)) (min ((ax_iv E d.2.1).2 - (ax_iv E d.2.2).1) (ax_dmin E k t b)) (ax_dmin E k t b)
    cases hd : (Nat.beq d.1 k && (sx_isI d.2.1 && sx_isI d.2.2))
    · exact ih
    · simp only [Bool.and_eq_true] at hd
      have e := Nat.eq_of_beq_eq_true hd.1
      have h1 := h d List.mem_cons_self
      have h2 := ax_iv_ok hE hd.2.1
      have h3 := ax_iv_ok hE hd.2.2
      rw [e] at h1
      show (v k).1.toInt ≤ min ((ax_iv E d.2.1).2 - (ax_iv E d.2.2).1) (ax_dmin E k t b)
      omega
theorem ax_hi_ok {v : ax_V} {E : ax_E} (hE : ax_ok v E) : ∀ (dep k : Nat), (v k).1.toInt ≤ ax_hi E dep k
  | 0, k => ax_dmin_ok hE (hE.1 k).2 _ hE.2.2.1
  | d + 1, k => ax_fmin_ok (ax_dmin_ok hE (hE.1 k).2 _ hE.2.2.1) (fun j => ax_hi_ok hE d j) _ hE.2.2.2
/-- bounds, the upper one with what facts tell -/
noncomputable def ax_ivh (E : ax_E) (w : Value) : Int × Int := match w with
  | .int x => (x.toInt, x.toInt)
  | .retAddr k => ((ax_b E k).1, ax_hi E 2 k)
  | _ => sx_full
theorem ax_ivh_ok {v : ax_V} {E : ax_E} (h : ax_ok v E) {w : Value} (hw : sx_isI w = true) : (ax_ivh E w).1 ≤ (ax_vi v w).toInt ∧ (ax_vi v w).toInt ≤ (ax_ivh E w).2 := by
  cases w with
  | int x => exact ⟨Int.le_refl _, Int.le_refl _⟩
  | retAddr k => exact ⟨(h.1 k).1, ax_hi_ok h 2 k⟩
  | _ => cases hw
/-- k as a base and an offset -/
noncomputable def ax_base (E : ax_E) (k : Nat) : Nat × Int := List.rec (motive := fun _ => Nat × Int) (k, 0) (fun d _ ih => cond (Nat.beq d.1 k) (d.2.1, d.2.2) ih) E.2.2.1
theorem ax_base_ok0 {v : ax_V} {k : Nat} : ∀ L : List (Nat × Nat × Int), (∀ d ∈ L, (v d.1).1.toInt = (v d.2.1).1.toInt + d.2.2) → (v k).1.toInt = (v (List.rec (motive := fun _ => Nat × Int) (k, 0) (fun d _ ih => cond (Nat.beq d.1 k) (d.2.1, d.2.2) ih) L).1).1.toInt + (List.rec (motive := fun _ => Nat × Int) (k, (0 : Int)) (fun d _ ih => cond (Nat.beq d.1 k) (d.2.1, d.2.2) ih) L).2
  | [], _ => by
    show (v k).1.toInt = (v k).1.toInt + 0
    omega
  | d :: t, h => by
    have ih := ax_base_ok0 (v := v) (k := k) t (fun z hz => h z (List.mem_cons_of_mem _ hz))
    dsimp only
    cases hd : Nat.beq d.1 k
    · exact ih
    · have h1 := h d List.mem_cons_self
      rw [Nat.eq_of_beq_eq_true hd] at h1
      exact h1
theorem ax_base_ok {v : ax_V} {E : ax_E} (hE : ax_ok v E) (k : Nat) : (v k).1.toInt = (v (ax_base E k).1).1.toInt + (ax_base E k).2 := ax_base_ok0 _ hE.2.1
/-- x + c <= y is told -/
noncomputable def ax_knows (E : ax_E) (x y : Nat) (c : Int) : Bool := E.2.2.2.2.any (fun d => Nat.beq d.1 x && (Nat.beq d.2.1 y && decide (c ≤ d.2.2)))
theorem ax_knows_ok {v : ax_V} {E : ax_E} (hE : ax_ok v E) {x y : Nat} {c : Int} (h : ax_knows E x y c = true) : (v x).1.toInt + c ≤ (v y).1.toInt := by
  obtain ⟨d, hd, h1⟩ := List.any_eq_true.mp h
  simp only [Bool.and_eq_true] at h1
  have h2 := hE.2.2.2 d hd
  rw [Nat.eq_of_beq_eq_true h1.1, Nat.eq_of_beq_eq_true h1.2.1] at h2
  have h3 := of_decide_eq_true h1.2.2
  omega
