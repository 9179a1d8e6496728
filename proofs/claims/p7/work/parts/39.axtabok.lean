/-! the core: the tables are as the engine wants them -/
noncomputable def ax_okX1 (e : Nat × Nat × Nat × (Int × Int)) : Bool := (List.range (e.2.1 + 1 - e.1)).all (fun k => decide (rx_lay (e.1 + k) = some (.inr (0, e.2.2.1))) && decide (ax_sa (e.1 + k) = some e.2.2.2))
set_option maxRecDepth 100000 in
theorem ax_okX2 : ax_mx.all ax_okX1 = true := by decide +kernel
theorem ax_mx_ok : ax_mxok ax_sp ax_mx := by
  intro e he q h1 h2
  have h3 := List.all_eq_true.mp ax_okX2 e he
  have h4 := List.all_eq_true.mp h3 (q - e.1) (List.mem_range.mpr (by omega))
  rw [Bool.and_eq_true, show e.1 + (q - e.1) = q by omega] at h4
  refine ⟨of_decide_eq_true h4.1, fun j => ?_⟩
  unfold ax_sp
  rw [of_decide_eq_true h4.2]
set_option maxRecDepth 100000 in
theorem ax_okA : (List.range rx_cells).all (fun q => match rx_lay q with
  | some (.inr _) => (ax_sa q).isSome
  | _ => true) = true := by decide +kernel
theorem ax_sa_ok : ∀ q u n, rx_lay q = some (.inr (u, n)) → ∀ j, ax_sp q j = ax_sp q 0 := by
  intro q u n h j
  have h1 := List.all_eq_true.mp ax_okA q (List.mem_range.mpr (ax_lay_lt h))
  rw [h] at h1
  unfold ax_sp
  cases hs : ax_sa q with
  | none => rw [hs] at h1; cases h1
  | some b => rfl
set_option maxRecDepth 100000 in
theorem ax_okM : ax_mt.all (fun e => Nat.ble (e.1 + 1 + e.2) 100000 && (List.range e.2).all (fun j => decide (ax_rf e.1 j = some (e.1 + 1 + j)))) = true := by decide +kernel
theorem ax_mt_ok : ax_mtok ax_rf ax_mt := by
  intro e he
  have h1 := List.all_eq_true.mp ax_okM e he
  rw [Bool.and_eq_true] at h1
  refine ⟨Nat.le_of_ble_eq_true h1.1, fun j hj => ?_⟩
  exact of_decide_eq_true (List.all_eq_true.mp h1.2 j (List.mem_range.mpr hj))
