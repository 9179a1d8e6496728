/-! the core: x + c <= y by bounds, bases and facts -/
noncomputable def ax_bo (E : ax_E) (w : Value) : Option (Nat × Int) := match w with
  | .retAddr k => some (ax_base E k)
  | _ => none
/-- by a fact, or by two -/
noncomputable def ax_kn2 (E : ax_E) (x y : Nat) (c : Int) : Bool := E.2.2.2.2.any (fun d => Nat.beq d.1 x && ((Nat.beq d.2.1 y && decide (c ≤ d.2.2)) || (ax_knows E d.2.1 y (c - d.2.2) || (Nat.beq (ax_base E d.2.1).1 y && decide (c + (ax_base E d.2.1).2 ≤ d.2.2)))))
noncomputable def ax_leq (E : ax_E) (x y : Value) (c : Int) : Bool := sx_isI x && (sx_isI y && (decide ((ax_ivh E x).2 + c ≤ (ax_iv E y).1) || (match x with
  | .retAddr i => (match y with
    | .retAddr j => (Nat.beq (ax_base E i).1 (ax_base E j).1 && decide ((ax_base E i).2 + c ≤ (ax_base E j).2)) || (ax_kn2 E i j c || (ax_kn2 E (ax_base E i).1 (ax_base E j).1 (c + (ax_base E i).2 - (ax_base E j).2) || (ax_kn2 E (ax_base E i).1 j (c + (ax_base E i).2) || ax_kn2 E i (ax_base E j).1 (c - (ax_base E j).2))))
    | _ => false)
  | _ => false)))
theorem ax_kn2_ok {v : ax_V} {E : ax_E} (hE : ax_ok v E) {x y : Nat} {c : Int} (h : ax_kn2 E x y c = true) : (v x).1.toInt + c ≤ (v y).1.toInt := by
  obtain ⟨d, hd, h1⟩ := List.any_eq_true.mp h
  rw [Bool.and_eq_true, Bool.or_eq_true, Bool.or_eq_true] at h1
  have h2 := hE.2.2.2 d hd
  rw [Nat.eq_of_beq_eq_true h1.1] at h2
  rcases h1.2 with h3 | h3 | h3
  · rw [Bool.and_eq_true] at h3
    rw [Nat.eq_of_beq_eq_true h3.1] at h2
    have h4 := of_decide_eq_true h3.2
    omega
  · have h4 := ax_knows_ok hE h3
    omega
  · rw [Bool.and_eq_true] at h3
    have hb := ax_base_ok hE d.2.1
    rw [Nat.eq_of_beq_eq_true h3.1] at hb
    have h4 := of_decide_eq_true h3.2
    omega
theorem ax_leq_ok {v : ax_V} {E : ax_E} (hE : ax_ok v E) {x y : Value} {c : Int} (h : ax_leq E x y c = true) : sx_isI x = true ∧ sx_isI y = true ∧ (ax_vi v x).toInt + c ≤ (ax_vi v y).toInt := by
  unfold ax_leq at h
  rw [Bool.and_eq_true, Bool.and_eq_true, Bool.or_eq_true] at h
  obtain ⟨hx, hy, h⟩ := h
  refine ⟨hx, hy, ?_⟩
  have x1 := ax_ivh_ok hE hx
  have y1 := ax_iv_ok hE hy
  rcases h with h | h
  · have h := of_decide_eq_true h
    omega
  · split at h
    · rename_i i
      split at h
      · rename_i j
        have bi := ax_base_ok hE i
        have bj := ax_base_ok hE j
        show (v i).1.toInt + c ≤ (v j).1.toInt
        simp only [Bool.or_eq_true, Bool.and_eq_true] at h
        rcases h with h | h | h | h | h
        · have e := Nat.eq_of_beq_eq_true h.1
          have h2 := of_decide_eq_true h.2
          rw [e] at bi
          omega
        · exact ax_kn2_ok hE h
        · have := ax_kn2_ok hE h
          omega
        · have := ax_kn2_ok hE h
          omega
        · have := ax_kn2_ok hE h
          omega
      · cases h
    · cases h
/-- the same int -/
noncomputable def ax_same (E : ax_E) (x y : Value) : Bool := match ax_lit E x with
  | some a => (match ax_lit E y with
    | some b => Nat.beq a.toBitVec.toNat b.toBitVec.toNat
    | none => false)
  | none => (match x with
    | .retAddr i => (match y with
      | .retAddr j => Nat.beq i j || (Nat.beq (ax_base E i).1 (ax_base E j).1 && decide ((ax_base E i).2 = (ax_base E j).2))
      | _ => false)
    | _ => false)
theorem ax_lit_I {E : ax_E} {w : Value} {x : Int32} (h : ax_lit E w = some x) : sx_isI w = true := by
  cases w with
  | int y => rfl
  | retAddr k => rfl
  | _ => cases h
theorem ax_same_ok {v : ax_V} {E : ax_E} (hE : ax_ok v E) {x y : Value} (h : ax_same E x y = true) : sx_isI x = true ∧ sx_isI y = true ∧ ax_vi v x = ax_vi v y := by
  unfold ax_same at h
  split at h
  · rename_i a ha
    split at h
    · rename_i b hb
      have hx := ax_lit_I ha
      have hy := ax_lit_I hb
      refine ⟨hx, hy, ?_⟩
      rw [ax_vi_lit hE ha hx, ax_vi_lit hE hb hy]
      apply Int32.toBitVec_inj.mp
      exact BitVec.eq_of_toNat_eq (Nat.eq_of_beq_eq_true h)
    · cases h
  · cases x with
    | retAddr i =>
      cases y with
      | retAddr j =>
        refine ⟨rfl, rfl, ?_⟩
        show (v i).1 = (v j).1
        have h : (Nat.beq i j || (Nat.beq (ax_base E i).1 (ax_base E j).1 && decide ((ax_base E i).2 = (ax_base E j).2))) = true := h
        rw [Bool.or_eq_true, Bool.and_eq_true] at h
        rcases h with h | h
        · rw [Nat.eq_of_beq_eq_true h]
        · have bi := ax_base_ok hE i
          have bj := ax_base_ok hE j
          have h2 := of_decide_eq_true h.2
          rw [Nat.eq_of_beq_eq_true h.1] at bi
          apply Int32.toInt_inj.mp
          omega
      | _ => cases h
    | _ => cases h
