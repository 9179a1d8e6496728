/-! the core: memory of which bounds are known, and some slots; reading -/
/-- known slots: cell, place (a literal or an unknown), value -/
abbrev ax_K : Type := List (Nat × Value × Value)
noncomputable def ax_eqv (a b : Value) : Bool := match a with
  | .int x => (match b with
    | .int y => Nat.beq x.toBitVec.toNat y.toBitVec.toNat
    | _ => false)
  | .retAddr i => (match b with
    | .retAddr j => Nat.beq i j
    | _ => false)
  | _ => false
theorem ax_eqv_ok {a b : Value} (h : ax_eqv a b = true) : a = b ∧ sx_isI a = true := by
  unfold ax_eqv at h
  split at h
  · split at h
    · rename_i x _ y
      have e := Nat.eq_of_beq_eq_true h
      have e2 : x = y := by
        apply Int32.toBitVec_inj.mp
        exact BitVec.eq_of_toNat_eq e
      rw [e2]
      exact ⟨rfl, rfl⟩
    · cases h
  · split at h
    · rw [Nat.eq_of_beq_eq_true h]
      exact ⟨rfl, rfl⟩
    · cases h
  · cases h
noncomputable def ax_kn (v : ax_V) (K : ax_K) (M : rx_M) : Prop := ∀ e ∈ K, M.1 e.1 (ax_vi v e.2.1).toNatClampNeg = ax_vi v e.2.2 ∧ sx_isI e.2.1 = true ∧ sx_isI e.2.2 = true
noncomputable def ax_kw (n : Nat) (K : ax_K) : Prop := ∀ e ∈ K, ax_sc n e.2.1 = true ∧ ax_sc n e.2.2 = true
/-- what may be written: slots, whole rows -/
abbrev ax_D : Type := (Nat → Nat → Bool) × List (Int × Int)
abbrev ax_W : Type := ax_D × (Nat → Nat → Int32) × (Nat × ax_V)
noncomputable def ax_wd (w : ax_D) (q j : Nat) : Prop := w.1 q j = true ∨ ∃ e ∈ w.2, e.1 ≤ (q : Int) ∧ (q : Int) ≤ e.2
noncomputable def ax_wrg (w : ax_D) (lo hi : Int) : Bool := w.2.any (fun e => decide (e.1 ≤ lo) && decide (hi ≤ e.2))
theorem ax_wrg_ok {w : ax_D} {lo hi : Int} (h : ax_wrg w lo hi = true) {q : Nat} (h1 : lo ≤ (q : Int)) (h2 : (q : Int) ≤ hi) (j : Nat) : ax_wd w q j := by
  obtain ⟨e, he, hc⟩ := List.any_eq_true.mp h
  rw [Bool.and_eq_true] at hc
  have c1 := of_decide_eq_true hc.1
  have c2 := of_decide_eq_true hc.2
  exact Or.inr ⟨e, he, by omega, by omega⟩
/-- bounds of every slot; references that never change -/
noncomputable def ax_J (W : ax_W) (sp : Nat → Nat → Int × Int) (rf : Nat → Nat → Option Nat) (M : rx_M) : Prop := (∀ q j, (sp q j).1 ≤ (M.1 q j).toInt ∧ (M.1 q j).toInt ≤ (sp q j).2) ∧ (∀ q j z, rf q j = some z → M.2.1 q j = some z) ∧ ∀ q j, ¬ ax_wd W.1 q j → M.1 q j = W.2.1 q j
noncomputable def ax_find (q : Nat) (j : Value) (K : ax_K) : Option Value := List.rec (motive := fun _ => Option Value) none (fun e _ ih => cond (Nat.beq e.1 q && ax_eqv e.2.1 j) (some e.2.2) ih) K
theorem ax_find_ok {v : ax_V} {M : rx_M} {q : Nat} {j w : Value} : ∀ K : ax_K, ax_kn v K M → ax_find q j K = some w → M.1 q (ax_vi v j).toNatClampNeg = ax_vi v w ∧ sx_isI w = true
  | [], _, h => by cases h
  | e :: t, hk, h => by
    have ih := ax_find_ok (q := q) (j := j) (w := w) t (fun z hz => hk z (List.mem_cons_of_mem _ hz))
    have h' : cond (Nat.beq e.1 q && ax_eqv e.2.1 j) (some e.2.2) (ax_find q j t) = some w := h
    cases hc : (Nat.beq e.1 q && ax_eqv e.2.1 j) with
    | true =>
      rw [hc] at h'
      rw [Bool.and_eq_true] at hc
      cases h'
      have h1 := hk e List.mem_cons_self
      rw [Nat.eq_of_beq_eq_true hc.1, (ax_eqv_ok hc.2).1] at h1
      exact ⟨h1.1, h1.2.2⟩
    | false =>
      rw [hc] at h'
      exact ih h'
theorem ax_find_sc {n q : Nat} {j w : Value} : ∀ K : ax_K, ax_kw n K → ax_find q j K = some w → ax_sc n w = true
  | [], _, h => by cases h
  | e :: t, hk, h => by
    have ih := ax_find_sc (q := q) (j := j) (w := w) t (fun z hz => hk z (List.mem_cons_of_mem _ hz))
    have h' : cond (Nat.beq e.1 q && ax_eqv e.2.1 j) (some e.2.2) (ax_find q j t) = some w := h
    cases hc : (Nat.beq e.1 q && ax_eqv e.2.1 j) with
    | true =>
      rw [hc] at h'
      cases h'
      exact (hk e List.mem_cons_self).2
    | false =>
      rw [hc] at h'
      exact ih h'
/-- what is known stays, whatever is left out -/
theorem ax_kn_sub {v : ax_V} {K K' : ax_K} {M : rx_M} (h : ax_kn v K M) (hs : ∀ e ∈ K', e ∈ K) : ax_kn v K' M := fun e he => h e (hs e he)
theorem ax_kn_up {v : ax_V} {K : ax_K} {M : rx_M} {n : Nat} {x : Int32 × Int64} (hw : ax_kw n K) (h : ax_kn v K M) : ax_kn (ax_up v n x) K M := fun e he => by
  rw [ax_vi_up (hw e he).1, ax_vi_up (hw e he).2]
  exact h e he
theorem ax_kn_cons {v : ax_V} {K : ax_K} {M : rx_M} {q : Nat} {j w : Value} (h : ax_kn v K M) (h1 : M.1 q (ax_vi v j).toNatClampNeg = ax_vi v w) (hj : sx_isI j = true) (hw : sx_isI w = true) : ax_kn v ((q, j, w) :: K) M := fun e he => by
  rcases List.mem_cons.mp he with z | z
  · rw [z]
    exact ⟨h1, hj, hw⟩
  · exact h e z
/-- a write: what may be another place of the cell stays only where both are literals that differ, or another cell's -/
noncomputable def ax_drop (q : Nat) (j : Value) (K : ax_K) : ax_K := K.filter (fun e => !(Nat.beq e.1 q) || (match e.2.1 with
  | .int x => (match j with
    | .int y => !(Nat.beq x.toNatClampNeg y.toNatClampNeg)
    | _ => false)
  | _ => false))
theorem ax_drop_ok {v : ax_V} {K : ax_K} {M : rx_M} {q : Nat} {j w : Value} {z : Int32} (h : ax_kn v K M) (hj : sx_isI j = true) (hw : sx_isI w = true) (hz : ax_vi v w = z) : ax_kn v ((q, j, w) :: ax_drop q j K) (rx_up M.1 q (ax_vi v j).toNatClampNeg z, M.2.1, M.2.2) := by
  refine ax_kn_cons (fun e he => ?_) (by show rx_up M.1 q _ z q _ = _; unfold rx_up; rw [if_pos rfl, if_pos rfl, hz]) hj hw
  obtain ⟨h1, h2⟩ := List.mem_filter.mp he
  have h3 := h e h1
  refine ⟨?_, h3.2⟩
  show rx_up M.1 q (ax_vi v j).toNatClampNeg z e.1 (ax_vi v e.2.1).toNatClampNeg = _
  unfold rx_up
  rw [Bool.or_eq_true] at h2
  by_cases hq : e.1 = q
  · rcases h2 with h2 | h2
    · rw [hq, Nat.beq_refl] at h2
      cases h2
    · have hne : ¬ (ax_vi v e.2.1).toNatClampNeg = (ax_vi v j).toNatClampNeg := by
        split at h2
        · rename_i x hx
          split at h2
          · rename_i y
            rw [hx]
            intro h9
            have h10 : x.toNatClampNeg = y.toNatClampNeg := h9
            rw [h10, Nat.beq_refl] at h2
            cases h2
          · cases h2
        · cases h2
      rw [if_pos hq, if_neg hne]
      exact h3.1
  · rw [if_neg hq]
    exact h3.1
theorem ax_J_up {W : ax_W} {sp : Nat → Nat → Int × Int} {rf : Nat → Nat → Option Nat} {M : rx_M} {q j : Nat} {z : Int32} (h : ax_J W sp rf M) (hw : ax_wd W.1 q j) (hz : (sp q j).1 ≤ z.toInt ∧ z.toInt ≤ (sp q j).2) : ax_J W sp rf (rx_up M.1 q j z, M.2.1, M.2.2) := by
  refine ⟨fun p i => ?_, h.2.1, fun p i hn => ?_⟩
  rotate_left
  · show rx_up M.1 q j z p i = _
    unfold rx_up
    by_cases hp : p = q
    · rw [if_pos hp]
      by_cases hi : i = j
      · rw [hp, hi] at hn
        exact absurd hw hn
      · rw [if_neg hi]
        exact h.2.2 p i hn
    · rw [if_neg hp]
      exact h.2.2 p i hn
  show (sp p i).1 ≤ (rx_up M.1 q j z p i).toInt ∧ (rx_up M.1 q j z p i).toInt ≤ (sp p i).2
  unfold rx_up
  by_cases hp : p = q
  · rw [if_pos hp]
    by_cases hi : i = j
    · rw [if_pos hi, hp, hi]
      exact hz
    · rw [if_neg hi]
      exact h.1 p i
  · rw [if_neg hp]
    exact h.1 p i
