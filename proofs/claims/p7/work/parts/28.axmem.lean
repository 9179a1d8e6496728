/-! the core: memory of which bounds are known, and some slots; reading -/
/-- known slots: cell, place (a literal or an unknown), value -/
abbrev ax_K : Type := List (Nat × Value × Value)
noncomputable def ax_eqv (a b : Value) : Bool := match a with
  | .int x => (match b with
    | .int y => Nat.beq x.toBitVec.toNat y.toBitVec.toNat
    | _ => false)
  | .retAddr i => (match b with
    | .retAddr j => Nat.beq i j
    | _ => false)
  | _ => false
theorem ax_eqv_ok {a b : Value} (h : ax_eqv a b = true) : a = b ∧ sx_isI a = true := by
  unfold ax_eqv at h
  split at h
  · split at h
    · rename_i x _ y
      have e := Nat.eq_of_beq_eq_true h
      have e2 : x = y := by
        apply Int32.toBitVec_inj.mp
        exact BitVec.eq_of_toNat_eq e
      rw [e2]
      exact ⟨rfl, rfl⟩
    · cases h
  · split at h
    · rw [Nat.eq_of_beq_eq_true h]
      exact ⟨rfl, rfl⟩
    · cases h
  · cases h
noncomputable def ax_rfv (w : Value) : Bool := match w with
  | .ref _ => true
  | .float _ => true
  | _ => false
/-- the cell that a row's value names -/
noncomputable def ax_cell (v : ax_V) (w : Value) : Nat := match w with
  | .ref q => q
  | .float b => (v b.toNat).1.toNatClampNeg
  | _ => 0
theorem ax_cell_up {v : ax_V} {n : Nat} {x : Int32 × Int64} {w : Value} (h : ax_sc n w = true) : ax_cell (ax_up v n x) w = ax_cell v w := by
  cases w with
  | float b => show (ax_up v n x b.toNat).1.toNatClampNeg = _; rw [ax_up_lt v x (Nat.blt_eq.mp h)]; rfl
  | _ => rfl
/-- n elements of the row behind cell 24 are of 0 to 11 -/
noncomputable def ax_pre (M1 : Nat → Nat → Int32) (e : Nat) (n : Int) : Prop := ∀ j : Nat, (j : Int) < n → 0 ≤ (M1 (24 + e) j).toInt ∧ (M1 (24 + e) j).toInt ≤ 11
/-- one that is known: an int, a reference, or (a long n) n elements of a row -/
noncomputable def ax_k1 (v : ax_V) (M : rx_M) (e : Nat × Value × Value) : Prop := sx_isI e.2.1 = true ∧ ((sx_isI e.2.2 = true ∧ M.1 e.1 (ax_vi v e.2.1).toNatClampNeg = ax_vi v e.2.2) ∨ (ax_rfv e.2.2 = true ∧ M.2.1 e.1 (ax_vi v e.2.1).toNatClampNeg = some (ax_cell v e.2.2)) ∨ ∃ n, e.2.2 = .long n ∧ (ax_vi v e.2.1).toNatClampNeg < 150 ∧ ax_pre M.1 (ax_vi v e.2.1).toNatClampNeg n.toInt)
theorem ax_k1_i {v : ax_V} {M : rx_M} {q : Nat} {j w : Value} (h : ax_k1 v M (q, j, w)) (hw : sx_isI w = true) : M.1 q (ax_vi v j).toNatClampNeg = ax_vi v w := by
  rcases h.2 with h | h | ⟨n, h, -, -⟩
  · exact h.2
  · have h1 : ax_rfv w = true := h.1
    cases w <;> first | (cases hw; done) | (cases h1; done)
  · have h1 : w = .long n := h
    rw [h1] at hw
    cases hw
theorem ax_k1_r {v : ax_V} {M : rx_M} {q : Nat} {j w : Value} (h : ax_k1 v M (q, j, w)) (hw : ax_rfv w = true) : M.2.1 q (ax_vi v j).toNatClampNeg = some (ax_cell v w) := by
  rcases h.2 with h | h | ⟨n, h, -, -⟩
  · have h1 : sx_isI w = true := h.1
    cases w <;> first | (cases hw; done) | (cases h1; done)
  · exact h.2
  · have h1 : w = .long n := h
    rw [h1] at hw
    cases hw
noncomputable def ax_kn (v : ax_V) (K : ax_K) (M : rx_M) : Prop := ∀ e ∈ K, ax_k1 v M e
noncomputable def ax_kw (n : Nat) (K : ax_K) : Prop := ∀ e ∈ K, ax_sc n e.2.1 = true ∧ ax_sc n e.2.2 = true
/-- what may be written: slots, whole rows -/
abbrev ax_D : Type := List (Nat × Nat) × List (Int × Int)
/-- what may be written; the memory at first, how much may have been made; how many unknowns at first, and what they are -/
abbrev ax_W : Type := ax_D × ((Nat → Nat → Int32) × (Nat → Nat → Option Nat) × (Nat × Nat)) × (Nat × ax_V)
noncomputable def ax_wsl (w : ax_D) (q j : Nat) : Bool := w.1.any (fun e => Nat.beq e.1 q && Nat.beq e.2 j)
noncomputable def ax_wd (w : ax_D) (q j : Nat) : Prop := ax_wsl w q j = true ∨ ∃ e ∈ w.2, e.1 ≤ (q : Int) ∧ (q : Int) ≤ e.2
noncomputable def ax_wrg (w : ax_D) (lo hi : Int) : Bool := w.2.any (fun e => decide (e.1 ≤ lo) && decide (hi ≤ e.2))
theorem ax_wrg_ok {w : ax_D} {lo hi : Int} (h : ax_wrg w lo hi = true) {q : Nat} (h1 : lo ≤ (q : Int)) (h2 : (q : Int) ≤ hi) (j : Nat) : ax_wd w q j := by
  obtain ⟨e, he, hc⟩ := List.any_eq_true.mp h
  rw [Bool.and_eq_true] at hc
  have c1 := of_decide_eq_true hc.1
  have c2 := of_decide_eq_true hc.2
  exact Or.inr ⟨e, he, by omega, by omega⟩
/-- guards: of the entries below a size (cell, field) those of a sort have something in bounds: (cell, field), sort's array, sort, array, bounds -/
abbrev ax_gt : Type := (Nat × Nat) × (Nat × Int) × (Nat × Int × Int)
noncomputable def ax_gs : List ax_gt := [((14, 16), (17, 1), (19, 0, 11)), ((14, 16), (17, 1), (20, 0, 11)), ((14, 16), (17, 4), (19, 0, 11)), ((14, 16), (17, 4), (20, 0, 11)), ((14, 16), (17, 6), (19, 0, 11)), ((14, 16), (17, 6), (20, 0, 11)), ((14, 16), (17, 5), (174, 1, 6)),
  ((244, 7), (249, 1), (251, 0, 11)), ((244, 7), (249, 1), (252, 0, 11)), ((244, 7), (249, 4), (251, 0, 11)), ((244, 7), (249, 4), (252, 0, 11)), ((244, 7), (249, 6), (251, 0, 11)), ((244, 7), (249, 6), (252, 0, 11)), ((244, 7), (249, 1), (253, 0, 60)), ((244, 7), (249, 4), (253, 0, 2147483647)), ((244, 7), (249, 5), (253, 0, 2147483647))]
noncomputable def ax_g1 (M1 : Nat → Nat → Int32) (g : ax_gt) (e : Nat) : Prop := (M1 g.2.1.1 e).toInt = g.2.1.2 → g.2.2.2.1 ≤ (M1 g.2.2.1 e).toInt ∧ (M1 g.2.2.1 e).toInt ≤ g.2.2.2.2
noncomputable def ax_g2 (M1 : Nat → Nat → Int32) (e : Nat) : Prop := (M1 17 e).toInt = 5 → ax_pre M1 e (M1 174 e).toInt
/-- the reference's ring entries: nobody stands in one twice -/
noncomputable def ax_g5 (M1 : Nat → Nat → Int32) (e : Nat) : Prop := (M1 249 e).toInt = 5 → ∀ i j : Nat, i < j → j < 6 → (j : Int) < (M1 255 e).toInt → M1 256 (6 * e + i) ≠ M1 256 (6 * e + j)
noncomputable def ax_GG (M1 : Nat → Nat → Int32) : Prop := (∀ g ∈ ax_gs, ∀ e : Nat, (e : Int) < (M1 g.1.1 g.1.2).toInt → ax_g1 M1 g e) ∧ (∀ e : Nat, e < 150 → (e : Int) < (M1 14 16).toInt → ax_g2 M1 e) ∧ (∀ j, (M1 213 j).toInt = -4 ∨ 0 ≤ (M1 213 j).toInt) ∧ (∀ j, (M1 283 j).toInt = 1 → 0 ≤ (M1 284 j).toInt ∧ (M1 284 j).toInt ≤ 11) ∧ ∀ e : Nat, e < 150 → (e : Int) < (M1 244 7).toInt → ax_g5 M1 e
/-- bounds of every slot; references that never change; what may not be written is as at first; guards -/
noncomputable def ax_J (W : ax_W) (sp : Nat → Nat → Int × Int) (rf : Nat → Nat → Option Nat) (M : rx_M) : Prop := (∀ q j, (sp q j).1 ≤ (M.1 q j).toInt ∧ (M.1 q j).toInt ≤ (sp q j).2) ∧ (∀ q j z, rf q j = some z → M.2.1 q j = some z) ∧ (∀ q j, ¬ ax_wd W.1 q j → M.1 q j = W.2.1.1 q j ∧ M.2.1 q j = W.2.1.2.1 q j) ∧ ax_GG M.1
noncomputable def ax_find (q : Nat) (j : Value) (K : ax_K) : Option Value := List.rec (motive := fun _ => Option Value) none (fun e _ ih => cond (Nat.beq e.1 q && ax_eqv e.2.1 j) (some e.2.2) ih) K
theorem ax_find_ok {v : ax_V} {M : rx_M} {q : Nat} {j w : Value} : ∀ K : ax_K, ax_kn v K M → ax_find q j K = some w → ax_k1 v M (q, j, w)
  | [], _, h => by cases h
  | e :: t, hk, h => by
    have ih := ax_find_ok (q := q) (j := j) (w := w) t (fun z hz => hk z (List.mem_cons_of_mem _ hz))
    have h' : cond (Nat.beq e.1 q && ax_eqv e.2.1 j) (some e.2.2) (ax_find q j t) = some w := h
    cases hc : (Nat.beq e.1 q && ax_eqv e.2.1 j) with
    | true =>
      rw [hc] at h'
      rw [Bool.and_eq_true] at hc
      cases h'
      have h1 := hk e List.mem_cons_self
      obtain ⟨x, y, z⟩ := e
      have e1 : x = q := Nat.eq_of_beq_eq_true hc.1
      have e2 : y = j := (ax_eqv_ok hc.2).1
      subst e1
      subst e2
      exact h1
    | false =>
      rw [hc] at h'
      exact ih h'
theorem ax_find_sc {n q : Nat} {j w : Value} : ∀ K : ax_K, ax_kw n K → ax_find q j K = some w → ax_sc n w = true
  | [], _, h => by cases h
  | e :: t, hk, h => by
    have ih := ax_find_sc (q := q) (j := j) (w := w) t (fun z hz => hk z (List.mem_cons_of_mem _ hz))
    have h' : cond (Nat.beq e.1 q && ax_eqv e.2.1 j) (some e.2.2) (ax_find q j t) = some w := h
    cases hc : (Nat.beq e.1 q && ax_eqv e.2.1 j) with
    | true =>
      rw [hc] at h'
      cases h'
      exact (hk e List.mem_cons_self).2
    | false =>
      rw [hc] at h'
      exact ih h'
/-- what is known stays, whatever is left out -/
theorem ax_kn_sub {v : ax_V} {K K' : ax_K} {M : rx_M} (h : ax_kn v K M) (hs : ∀ e ∈ K', e ∈ K) : ax_kn v K' M := fun e he => h e (hs e he)
theorem ax_k1_up {v : ax_V} {M : rx_M} {n : Nat} {x : Int32 × Int64} {e : Nat × Value × Value} (hw : ax_sc n e.2.1 = true ∧ ax_sc n e.2.2 = true) (h : ax_k1 v M e) : ax_k1 (ax_up v n x) M e := by
  unfold ax_k1 at h ⊢
  rw [ax_vi_up hw.1, ax_vi_up hw.2, ax_cell_up hw.2]
  exact h
theorem ax_kn_up {v : ax_V} {K : ax_K} {M : rx_M} {n : Nat} {x : Int32 × Int64} (hw : ax_kw n K) (h : ax_kn v K M) : ax_kn (ax_up v n x) K M := fun e he => ax_k1_up (hw e he) (h e he)
theorem ax_kn_cons1 {v : ax_V} {K : ax_K} {M : rx_M} {e : Nat × Value × Value} (h : ax_kn v K M) (h1 : ax_k1 v M e) : ax_kn v (e :: K) M := fun z hz => by
  rcases List.mem_cons.mp hz with q | q
  · rw [q]; exact h1
  · exact h z q
theorem ax_kn_cons {v : ax_V} {K : ax_K} {M : rx_M} {q : Nat} {j w : Value} (h : ax_kn v K M) (h1 : M.1 q (ax_vi v j).toNatClampNeg = ax_vi v w) (hj : sx_isI j = true) (hw : sx_isI w = true) : ax_kn v ((q, j, w) :: K) M := ax_kn_cons1 h ⟨hj, Or.inl ⟨hw, h1⟩⟩
/-- what is told of a row's elements goes when such a row may be written -/
noncomputable def ax_mk (lo hi : Int) (w : Value) : Bool := match w with
  | .long _ => decide (hi < 24) || decide (173 < lo)
  | _ => true
/-- a write: what may be another place of the cell stays only where both are literals that differ, or another cell's -/
noncomputable def ax_drop (q : Nat) (j : Value) (K : ax_K) : ax_K := K.filter (fun e => ax_mk q q e.2.2 && (!(Nat.beq e.1 q) || (match e.2.1 with
  | .int x => (match j with
    | .int y => !(Nat.beq x.toNatClampNeg y.toNatClampNeg)
    | _ => false)
  | _ => false)))
theorem ax_drop_ne {v : ax_V} {q : Nat} {j : Value} {e : Nat × Value × Value} (h2 : (!(Nat.beq e.1 q) || (match e.2.1 with
  | .int x => (match j with
    | .int y => !(Nat.beq x.toNatClampNeg y.toNatClampNeg)
    | _ => false)
  | _ => false)) = true) : ¬ (e.1 = q ∧ (ax_vi v e.2.1).toNatClampNeg = (ax_vi v j).toNatClampNeg) := by
  rintro ⟨hq, he⟩
  rw [Bool.or_eq_true] at h2
  rcases h2 with h2 | h2
  · rw [hq, Nat.beq_refl] at h2
    cases h2
  · split at h2
    · rename_i x hx
      split at h2
      · rename_i y
        rw [hx] at he
        have h10 : x.toNatClampNeg = y.toNatClampNeg := he
        rw [h10, Nat.beq_refl] at h2
        cases h2
      · cases h2
    · cases h2
theorem ax_k1_wr {v : ax_V} {M : rx_M} {q k : Nat} {z : Int32} {e : Nat × Value × Value} {lo hi : Int} (h : ax_k1 v M e) (h1 : ¬ (e.1 = q ∧ (ax_vi v e.2.1).toNatClampNeg = k)) (h2 : ax_mk lo hi e.2.2 = true) (h3 : lo ≤ (q : Int)) (h4 : (q : Int) ≤ hi) : ax_k1 v (rx_up M.1 q k z, M.2.1, M.2.2) e := by
  refine ⟨h.1, ?_⟩
  rcases h.2 with k1 | k1 | ⟨n, k1, k0, k2⟩
  · refine Or.inl ⟨k1.1, ?_⟩
    show rx_up M.1 q k z e.1 (ax_vi v e.2.1).toNatClampNeg = _
    unfold rx_up
    by_cases hq : e.1 = q
    · rw [if_pos hq, if_neg (fun z => h1 ⟨hq, z⟩)]
      exact k1.2
    · rw [if_neg hq]
      exact k1.2
  · exact Or.inr (Or.inl k1)
  · refine Or.inr (Or.inr ⟨n, k1, k0, fun j hj => ?_⟩)
    have k3 := k2 j hj
    rw [k1] at h2
    have h5 : (decide (hi < 24) || decide (173 < lo)) = true := h2
    rw [Bool.or_eq_true] at h5
    show 0 ≤ (rx_up M.1 q k z (24 + (ax_vi v e.2.1).toNatClampNeg) j).toInt ∧ (rx_up M.1 q k z (24 + (ax_vi v e.2.1).toNatClampNeg) j).toInt ≤ 11
    unfold rx_up
    by_cases hq : 24 + (ax_vi v e.2.1).toNatClampNeg = q
    · exfalso
      rcases h5 with h5 | h5
      · have := of_decide_eq_true h5
        omega
      · have := of_decide_eq_true h5
        omega
    · rw [if_neg hq]
      exact k3
theorem ax_drop_ok {v : ax_V} {K : ax_K} {M : rx_M} {q : Nat} {j w : Value} {z : Int32} (h : ax_kn v K M) (hj : sx_isI j = true) (hw : sx_isI w = true) (hz : ax_vi v w = z) : ax_kn v ((q, j, w) :: ax_drop q j K) (rx_up M.1 q (ax_vi v j).toNatClampNeg z, M.2.1, M.2.2) := by
  refine ax_kn_cons (fun e he => ?_) (by show rx_up M.1 q _ z q _ = _; unfold rx_up; rw [if_pos rfl, if_pos rfl, hz]) hj hw
  obtain ⟨h1, h2⟩ := List.mem_filter.mp he
  rw [Bool.and_eq_true] at h2
  exact ax_k1_wr (h e h1) (ax_drop_ne h2.2) h2.1 (Int.le_refl _) (Int.le_refl _)
/-- a reference is written -/
theorem ax_dropr_ok {v : ax_V} {K : ax_K} {M : rx_M} {q c : Nat} {j w : Value} (h : ax_kn v K M) (hj : sx_isI j = true) (hw : ax_rfv w = true) (hc : ax_cell v w = c) : ax_kn v ((q, j, w) :: ax_drop q j K) (M.1, rx_up M.2.1 q (ax_vi v j).toNatClampNeg (some c), M.2.2) := by
  refine ax_kn_cons1 (fun e he => ?_) ⟨hj, Or.inr (Or.inl ⟨hw, by show rx_up M.2.1 q _ (some c) q _ = _; unfold rx_up; rw [if_pos rfl, if_pos rfl, hc]⟩)⟩
  obtain ⟨h1, h2⟩ := List.mem_filter.mp he
  rw [Bool.and_eq_true] at h2
  have h3 := ax_drop_ne (v := v) h2.2
  refine ⟨(h e h1).1, ?_⟩
  rcases (h e h1).2 with k1 | k1 | k1
  · exact Or.inl k1
  · refine Or.inr (Or.inl ⟨k1.1, ?_⟩)
    show rx_up M.2.1 q _ (some c) e.1 (ax_vi v e.2.1).toNatClampNeg = _
    unfold rx_up
    by_cases hq : e.1 = q
    · rw [if_pos hq, if_neg (fun z => h3 ⟨hq, z⟩)]
      exact k1.2
    · rw [if_neg hq]
      exact k1.2
  · exact Or.inr (Or.inr k1)
theorem ax_J_up {W : ax_W} {sp : Nat → Nat → Int × Int} {rf : Nat → Nat → Option Nat} {M : rx_M} {q j : Nat} {z : Int32} (h : ax_J W sp rf M) (hw : ax_wd W.1 q j) (hG : ax_GG (rx_up M.1 q j z)) (hz : (sp q j).1 ≤ z.toInt ∧ z.toInt ≤ (sp q j).2) : ax_J W sp rf (rx_up M.1 q j z, M.2.1, M.2.2) := by
  refine ⟨fun p i => ?_, h.2.1, fun p i hn => ⟨?_, (h.2.2.1 p i hn).2⟩, hG⟩
  rotate_left
  · show rx_up M.1 q j z p i = _
    unfold rx_up
    by_cases hp : p = q
    · rw [if_pos hp]
      by_cases hi : i = j
      · rw [hp, hi] at hn
        exact absurd hw hn
      · rw [if_neg hi]
        exact (h.2.2.1 p i hn).1
    · rw [if_neg hp]
      exact (h.2.2.1 p i hn).1
  show (sp p i).1 ≤ (rx_up M.1 q j z p i).toInt ∧ (rx_up M.1 q j z p i).toInt ≤ (sp p i).2
  unfold rx_up
  by_cases hp : p = q
  · rw [if_pos hp]
    by_cases hi : i = j
    · rw [if_pos hi, hp, hi]
      exact hz
    · rw [if_neg hi]
      exact h.1 p i
  · rw [if_neg hp]
    exact h.1 p i
theorem ax_J_upr {W : ax_W} {sp : Nat → Nat → Int × Int} {rf : Nat → Nat → Option Nat} {M : rx_M} {q j c : Nat} (h : ax_J W sp rf M) (hw : ax_wd W.1 q j) (hr : rf q j = none) : ax_J W sp rf (M.1, rx_up M.2.1 q j (some c), M.2.2) := by
  refine ⟨h.1, fun p i z hz => ?_, fun p i hn => ⟨(h.2.2.1 p i hn).1, ?_⟩, h.2.2.2⟩
  · show rx_up M.2.1 q j (some c) p i = _
    unfold rx_up
    by_cases hp : p = q
    · rw [if_pos hp]
      by_cases hi : i = j
      · rw [hp, hi, hr] at hz
        cases hz
      · rw [if_neg hi]
        exact h.2.1 p i z hz
    · rw [if_neg hp]
      exact h.2.1 p i z hz
  · show rx_up M.2.1 q j (some c) p i = _
    unfold rx_up
    by_cases hp : p = q
    · rw [if_pos hp]
      by_cases hi : i = j
      · rw [hp, hi] at hn
        exact absurd hw hn
      · rw [if_neg hi]
        exact (h.2.2.1 p i hn).2
    · rw [if_neg hp]
      exact (h.2.2.1 p i hn).2
