/-! the core: what the abstract machine does at an access, the place being in bounds -/
/-- the rows of a matrix: the first, the last, how long, the bounds of their elements -/
abbrev ax_X : Type := List (Nat × Nat × Nat × (Int × Int))
noncomputable def ax_mxok (sp : Nat → Nat → Int × Int) (mx : ax_X) : Prop := ∀ e ∈ mx, ∀ q, e.1 ≤ q → q ≤ e.2.1 → rx_lay q = some (.inr (0, e.2.2.1)) ∧ ∀ j, sp q j = e.2.2.2
noncomputable def ax_mxf (lo hi : Int) (mx : ax_X) : Option (Nat × (Int × Int)) := List.rec (motive := fun _ => Option (Nat × (Int × Int))) none (fun e _ ih => cond (decide ((e.1 : Int) ≤ lo) && decide (hi ≤ (e.2.1 : Int))) (some (e.2.2.1, e.2.2.2)) ih) mx
theorem ax_mxf_ok {sp : Nat → Nat → Int × Int} {lo hi : Int} {n : Nat} {b : Int × Int} : ∀ mx : ax_X, ax_mxok sp mx → ax_mxf lo hi mx = some (n, b) → ∀ q : Nat, lo ≤ (q : Int) → (q : Int) ≤ hi → rx_lay q = some (.inr (0, n)) ∧ ∀ j, sp q j = b
  | [], _, h => by cases h
  | e :: t, hm, h => by
    have ih := ax_mxf_ok (lo := lo) (hi := hi) (n := n) (b := b) t (fun z hz => hm z (List.mem_cons_of_mem _ hz))
    have h' : cond (decide ((e.1 : Int) ≤ lo) && decide (hi ≤ (e.2.1 : Int))) (some (e.2.2.1, e.2.2.2)) (ax_mxf lo hi t) = some (n, b) := h
    cases hc : (decide ((e.1 : Int) ≤ lo) && decide (hi ≤ (e.2.1 : Int))) with
    | true =>
      rw [hc] at h'
      rw [Bool.and_eq_true] at hc
      have c1 := of_decide_eq_true hc.1
      have c2 := of_decide_eq_true hc.2
      cases h'
      intro q h1 h2
      exact hm e List.mem_cons_self q (by omega) (by omega)
    | false =>
      rw [hc] at h'
      exact ih h'
theorem ax_lay_lt {q : Nat} {z : Nat ⊕ (Nat × Nat)} (h : rx_lay q = some z) : q < rx_cells := by
  unfold rx_lay at h
  cases hb : Nat.blt q rx_cells with
  | true => exact Nat.blt_eq.mp hb
  | false => rw [hb] at h; cases h
section AXD
variable {X : Nat × (Nat → Int32)} {i : Nat} {W : ax_W} {sp : Nat → Nat → Int × Int} {rf : Nat → Nat → Option Nat} {mx : ax_X} {v : ax_V} {E : ax_E} {a : rx_K} {M : rx_M} {pc : Nat} {l : List (Option Value)} {s : List Value}
/-- a row: a literal cell, or one of a matrix' rows -/
noncomputable def ax_ary (mx : ax_X) (E : ax_E) (w : Value) : Option (Nat × Nat) := match w with
  | .ref q => (match rx_lay q with
    | some (.inr (u, n)) => some (u, n)
    | _ => none)
  | .float b => (match ax_mxf (ax_b E b.toNat).1 (ax_ivh E (.retAddr b.toNat)).2 mx with
    | some (n, _) => cond (decide (0 ≤ (ax_b E b.toNat).1)) (some (0, n)) none
    | none => none)
  | _ => none
theorem ax_ary_ok (hE : ax_ok v E) (hm : ax_mxok sp mx) {w : Value} {u n : Nat} (h : ax_ary mx E w = some (u, n)) : ax_v v w = .ref (ax_cell v w) ∧ rx_lay (ax_cell v w) = some (.inr (u, n)) := by
  unfold ax_ary at h
  split at h
  · rename_i q
    split at h
    · rename_i u' n' hl
      cases h
      exact ⟨rfl, hl⟩
    · cases h
  · rename_i b
    split at h
    · rename_i n' bb hf
      obtain ⟨h0, h⟩ := sx_cT (by intro z; cases z) h
      cases h
      have h0 := of_decide_eq_true h0
      have h1 := hE.1 b.toNat
      have h2 := (ax_ivh_ok hE (w := .retAddr b.toNat) rfl).2
      have h3 := ax_clamp (x := (v b.toNat).1) (by omega)
      exact ⟨rfl, (ax_mxf_ok mx hm hf _ (by show _ ≤ (((v b.toNat).1.toNatClampNeg : Nat) : Int); omega) (by show (((v b.toNat).1.toNatClampNeg : Nat) : Int) ≤ _; rw [h3]; exact h2)).1⟩
    · cases h
  · cases h
/-- a place in bounds -/
noncomputable def ax_in (E : ax_E) (y : Value) (n : Nat) : Bool := sx_isI y && (decide (0 ≤ (ax_iv E y).1) && decide ((ax_ivh E y).2 < (n : Int)))
theorem ax_in_ok (hE : ax_ok v E) {y : Value} {n : Nat} (h : ax_in E y n = true) : ax_v v y = .int (ax_vi v y) ∧ ¬ (ax_vi v y < 0 ∨ n ≤ (ax_vi v y).toNatClampNeg) := by
  unfold ax_in at h
  simp only [Bool.and_eq_true] at h
  have h1 := of_decide_eq_true h.2.1
  have h2 := of_decide_eq_true h.2.2
  have h3 := ax_iv_ok hE h.1
  have h4 := ax_ivh_ok hE h.1
  have h5 := ax_clamp (x := ax_vi v y) (by omega)
  refine ⟨ax_vI h.1, ?_⟩
  rintro (q | q)
  · have := ax_neg.mp q
    omega
  · omega
theorem ax_al_ok (ha : a.1 = rx_cells) (hE : ax_ok v E) (hm : ax_mxok sp mx) {y w : Value} {t n : Nat} (ht : t ≠ 2 ∧ t ≠ 3) (hw : ax_ary mx E w = some (t, n)) (hy : ax_in E y n = true) : rx_al X i t pc l (ax_v v y :: ax_v v w :: s) a M = rx_nx (pc + 1) l (.int (M.1 (ax_cell v w) (ax_vi v y).toNatClampNeg) :: s) a M := by
  obtain ⟨e1, e2⟩ := ax_ary_ok hE hm hw
  obtain ⟨e3, e4⟩ := ax_in_ok hE hy
  have hlt := ax_lay_lt e2
  rw [e1, e3]
  unfold rx_al
  dsimp only
  rw [e2]
  dsimp only
  rw [if_pos (by rw [ha]; exact hlt), if_pos rfl, if_neg e4]
  split
  · exact absurd rfl ht.1
  · exact absurd rfl ht.2
  · rfl
theorem ax_al2_ok (ha : a.1 = rx_cells) (hE : ax_ok v E) (hm : ax_mxok sp mx) {y w : Value} {n : Nat} (hw : ax_ary mx E w = some (2, n)) (hy : ax_in E y n = true) : rx_al X i 2 pc l (ax_v v y :: ax_v v w :: s) a M = rx_nx (pc + 1) l (va_rf (M.2.1 (ax_cell v w) (ax_vi v y).toNatClampNeg) :: s) a M := by
  obtain ⟨e1, e2⟩ := ax_ary_ok hE hm hw
  obtain ⟨e3, e4⟩ := ax_in_ok hE hy
  have hlt := ax_lay_lt e2
  rw [e1, e3]
  unfold rx_al
  dsimp only
  rw [e2]
  dsimp only
  rw [if_pos (by rw [ha]; exact hlt), if_pos rfl, if_neg e4]
  rfl
theorem ax_as_ok (ha : a.1 = rx_cells) (hE : ax_ok v E) (hm : ax_mxok sp mx) {x y w : Value} {t n : Nat} (ht : t = 0 ∨ t = 1 ∧ (ax_vi v x = 0 ∨ ax_vi v x = 1)) (hw : ax_ary mx E w = some (t, n)) (hy : ax_in E y n = true) (hx : sx_isI x = true) : rx_as t pc l (ax_v v x :: ax_v v y :: ax_v v w :: s) a M = rx_nx (pc + 1) l s a (rx_up M.1 (ax_cell v w) (ax_vi v y).toNatClampNeg (ax_vi v x), M.2.1, M.2.2) := by
  obtain ⟨e1, e2⟩ := ax_ary_ok hE hm hw
  obtain ⟨e3, e4⟩ := ax_in_ok hE hy
  have hlt := ax_lay_lt e2
  rw [e1, e3, ax_vI hx]
  unfold rx_as
  dsimp only
  rw [e2]
  dsimp only
  rw [if_pos (by rw [ha]; exact hlt), if_pos rfl, if_neg e4]
  rcases ht with rfl | ⟨rfl, h01⟩
  · rfl
  · exact if_pos h01
theorem ax_aln_ok (ha : a.1 = rx_cells) (hE : ax_ok v E) (hm : ax_mxok sp mx) {w : Value} {u n : Nat} (hu : u < 4) (hw : ax_ary mx E w = some (u, n)) : rx_aln X i pc l (ax_v v w :: s) a M = rx_nx (pc + 1) l (.int (Int32.ofNat n) :: s) a M := by
  obtain ⟨e1, e2⟩ := ax_ary_ok hE hm hw
  have hlt := ax_lay_lt e2
  rw [e1]
  unfold rx_aln
  dsimp only
  rw [e2]
  dsimp only
  rw [if_pos ⟨by rw [ha]; exact hlt, hu⟩]
/-- a field of a literal cell -/
theorem ax_gf_ok (ha : a.1 = rx_cells) {cn x q ci k t : Nat} {fin : Bool} (hf : rx_fl cn x = some (ci, k, t, fin)) (hl : rx_lay q = some (.inl ci)) (ht : t ≠ 2) : rx_gf cn x pc l (.ref q :: s) a M = rx_nx (pc + 3) l (.int (M.1 q k) :: s) a M := by
  have hlt := ax_lay_lt hl
  unfold rx_gf
  dsimp only
  rw [hf]
  dsimp only
  rw [hl]
  dsimp only
  rw [if_pos (by rw [ha]; exact hlt), if_pos rfl]
  split
  · exact absurd rfl ht
  · rfl
theorem ax_gf2_ok (ha : a.1 = rx_cells) {cn x q ci k : Nat} {fin : Bool} (hf : rx_fl cn x = some (ci, k, 2, fin)) (hl : rx_lay q = some (.inl ci)) : rx_gf cn x pc l (.ref q :: s) a M = rx_nx (pc + 3) l (va_rf (M.2.1 q k) :: s) a M := by
  have hlt := ax_lay_lt hl
  unfold rx_gf
  dsimp only
  rw [hf]
  dsimp only
  rw [hl]
  dsimp only
  rw [if_pos (by rw [ha]; exact hlt), if_pos rfl]
  rfl
theorem ax_pf_ok (ha : a.1 = rx_cells) {ini : Bool} {cn x q ci k t : Nat} {z : Int32} (hf : rx_fl cn x = some (ci, k, t, false)) (hl : rx_lay q = some (.inl ci)) (ht : t = 0 ∨ t = 1 ∧ (z = 0 ∨ z = 1)) : rx_pf ini cn x pc l (.int z :: .ref q :: s) a M = rx_nx (pc + 3) l s a (rx_up M.1 q k z, M.2.1, M.2.2) := by
  have hlt := ax_lay_lt hl
  unfold rx_pf
  dsimp only
  rw [hf]
  dsimp only
  rw [hl]
  dsimp only
  rw [if_pos (by rw [ha]; exact hlt), if_pos rfl, if_neg (fun h => by cases h.1)]
  rcases ht with rfl | ⟨rfl, h01⟩
  · rfl
  · exact if_pos h01
/-- a row of a matrix by its place: its cell is the matrix' and one and the place -/
theorem ax_row_ok {q n : Nat} {y : Value} (hJ : ax_J W sp rf M) (hr : ∀ j, j < n → rf q j = some (q + 1 + j)) (h : (ax_vi v y).toNatClampNeg < n) : va_rf (M.2.1 q (ax_vi v y).toNatClampNeg) = .ref (q + 1 + (ax_vi v y).toNatClampNeg) := by
  rw [hJ.2.1 q _ _ (hr _ h)]
  rfl
end AXD
