/-! runs by hand: the references -/
/-- the references are as they are in all runs -/
noncomputable def hp_R (M : rx_M) : Prop := ∀ q j z, ax_rf q j = some z → M.2.1 q j = some z
theorem hp_Re {M M1 : rx_M} (h : hp_R M) (e : M1.2 = M.2) : hp_R M1 := fun q j z hz => by
  rw [e]
  exact h q j z hz
