/-! the law's loop, all of it -/
theorem ri_free : ∀ q j, (q = 230 ∨ q = 233 ∨ q = 234 ∨ (236 ≤ q ∧ q ≤ 243) ∨ q = 283 ∨ q = 285 ∨ q = 286 ∨ q = 287) → ¬ ax_wd ax_w_law q j := by
  intro q j hq h
  have c1 : ax_w_law.1.all (fun e => [230, 233, 234, 236, 237, 238, 239, 240, 241, 242, 243, 283, 285, 286, 287].all (fun x => !(Nat.beq e.1 x))) = true := by decide
  have c2 : ax_w_law.2.all (fun e => [230, 233, 234, 236, 237, 238, 239, 240, 241, 242, 243, 283, 285, 286, 287].all (fun x : Nat => decide ((x : Int) < e.1) || decide (e.2 < (x : Int)))) = true := by decide
  have hm : q ∈ [230, 233, 234, 236, 237, 238, 239, 240, 241, 242, 243, 283, 285, 286, 287] := by
    simp only [List.mem_cons, List.not_mem_nil, or_false]
    omega
  rcases h with h | ⟨e, he, h1, h2⟩
  · unfold ax_wsl at h
    obtain ⟨e, he, h⟩ := List.any_eq_true.mp h
    rw [Bool.and_eq_true] at h
    have k := List.all_eq_true.mp (List.all_eq_true.mp c1 e he) q hm
    rw [h.1] at k
    cases k
  · have k := List.all_eq_true.mp (List.all_eq_true.mp c2 e he) q hm
    rw [Bool.or_eq_true, decide_eq_true_eq, decide_eq_true_eq] at k
    omega
theorem ax_law {X : Nat × (Nat → Int32)} (hX : X.1 ≤ 3072) (hm : ax_Y1 X ax_sp ax_rf ax_s_188) {B : Nat × Nat} {v : ax_V} {M : rx_M} {a : rx_K} {l : List (Option Value)} (hst : ax_Ls X ax_sp ax_rf ax_c_law B v M a l) (hst2 : ri_R M) : ax_C X (ax_PL (B.1 + 307800, B.2 + 1846800)) v 45 [] 249 (23, l, [], a, M) := ax_lawcutR (RI := ri_R) ax_mx_ok ax_mt_ok ax_sa_ok (ax_y_law hm) hX ax_k_law (ri_hR ri_free) (fun pc hpc v2 M a l h1 h2 h3 hR h4 h5 h6 h7 h8 h9 v9 => wk_HB hX pc hpc v2 M a l h1 h2 h3 hR h4 h5 h6 h7 h8 h9 v9) hst hst2 rfl
