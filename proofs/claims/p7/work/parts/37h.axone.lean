/-! the core: summaries one by one -/
noncomputable def ax_Y1 (X : Nat × (Nat → Int32)) (sp : Nat → Nat → Int × Int) (rf : Nat → Nat → Option Nat) (s : Nat × (ax_E → ax_K → Nat → List (Option Value) → Bool) × ax_D × ax_po) : Prop := ∀ W E K d ls v M a, s.2.1 E K d ls = true → ax_St W sp rf v E K M a [] → ax_C X (ax_Q sp rf s.2.2.1 s.2.2.2 (ax_mA a M)) v d [] s.1 (0, ax_ls v ls, [], a, M)
theorem ax_Yn {X : Nat × (Nat → Int32)} {sp : Nat → Nat → Int × Int} {rf : Nat → Nat → Option Nat} : ax_Yok X sp rf [] := fun s h => by cases h
theorem ax_Yc {X : Nat × (Nat → Int32)} {sp : Nat → Nat → Int × Int} {rf : Nat → Nat → Option Nat} {s : Nat × (ax_E → ax_K → Nat → List (Option Value) → Bool) × ax_D × ax_po} {r : ax_Y} (h : ax_Y1 X sp rf s) (k : ax_Yok X sp rf r) : ax_Yok X sp rf (s :: r) := fun z hz => by
  rcases List.mem_cons.mp hz with q | q
  · rw [q]; exact h
  · exact k z q
theorem ax_Y1o {X : Nat × (Nat → Int32)} {sp : Nat → Nat → Int × Int} {rf : Nat → Nat → Option Nat} {s : Nat × (ax_E → ax_K → Nat → List (Option Value) → Bool) × ax_D × ax_po} {r : ax_Y} (h : ax_Yok X sp rf (s :: r)) : ax_Y1 X sp rf s := h s List.mem_cons_self
/-- all of a list, one by one -/
noncomputable def ax_ea (P : ax_ct → Prop) : List ax_ct → Prop
  | [] => True
  | c :: r => P c ∧ ax_ea P r
theorem ax_ea_ok {P : ax_ct → Prop} : ∀ L : List ax_ct, ax_ea P L → ∀ c ∈ L, P c
  | [], _, c, h => by cases h
  | x :: r, h, c, hc => by
    rcases List.mem_cons.mp hc with q | q
    · rw [q]; exact h.1
    · exact ax_ea_ok r h.2 c q
