/-! the core: a method by its states, over the tables -/
abbrev ax_s9 : Type := Nat × (ax_E → ax_K → Nat → List (Option Value) → Bool) × ax_D × ax_po
noncomputable def ax_cr9 (wd : ax_D) (sum : ax_Y) (T : List ax_ct) (j D f : Nat) (po : ax_po) (c : ax_ct) : Bool := ax_cr wd ax_sp ax_rf ax_mx ax_mt ax_hn sum T j D f po c
theorem ax_meth9 {X : Nat × (Nat → Int32)} {wd : ax_D} {sum : ax_Y} {T : List ax_ct} {j D f : Nat} {po : ax_po} {c : ax_ct} (hY : ax_Yok X ax_sp ax_rf sum) (hT : ax_ea (fun c => ax_cr9 wd sum T j D f po c = true) T) (hc : c ∈ T) (h0 : c.1 = 0) : ax_Y1 X ax_sp ax_rf (j, ax_sumc ax_sp c D, wd, po) := ax_Y1o (ax_sum_ok ax_mx_ok ax_mt_ok ax_sa_ok hY (ax_ea_ok T hT) hc h0)
