/-! copy, of both sides, by hand: small ones -/
section CP
variable {X : Nat × (Nat → Int32)} {d D G I : Nat} {a : rx_K} {M : rx_M} {P : rx_O → Prop} {x1 x2 x3 x4 x5 : Int32}
theorem bl_ok : hp X d 144 0 [some (.int x1), some (.int x2)] [] a M (fun o => ∃ r : Int32, o = (some (.int r), a, M) ∧ (r.toInt = 0 ∨ r.toInt = 1) ∧ (r.toInt ≠ 0 ↔ (0 ≤ (x1 : Int32).toInt ∧ (x1 : Int32).toInt < (x2 : Int32).toInt))) := by
  have z0 : (0 : Int32).toInt = 0 := rfl
  have z1 : (1 : Int32).toInt = 1 := rfl
  refine hp_il (pc' := 1) (j := 0) (Or.inr ⟨0, rfl, rfl, rfl⟩) rfl ?_
  refine hp_zlt (t := 13) (pc' := 4) rfl rfl rfl (fun c1 => ?_) (fun c1 => ?_)
  · refine hp_ic (pc' := 14) (x := 0) rfl rfl rfl ?_
    refine hp_rb rfl rfl (by decide) ?_
    exact ⟨_, rfl, by omega, by omega⟩
  · refine hp_il (pc' := 5) (j := 0) (Or.inr ⟨0, rfl, rfl, rfl⟩) rfl ?_
    refine hp_il (pc' := 6) (j := 1) (Or.inr ⟨1, rfl, rfl, rfl⟩) rfl ?_
    refine hp_ige (t := 13) (pc' := 9) rfl rfl rfl (fun c2 => ?_) (fun c2 => ?_)
    · refine hp_ic (pc' := 14) (x := 0) rfl rfl rfl ?_
      refine hp_rb rfl rfl (by decide) ?_
      exact ⟨_, rfl, by omega, by omega⟩
    · refine hp_ic (pc' := 10) (x := 1) rfl rfl rfl ?_
      refine hp_go (t := 14) rfl rfl ?_
      refine hp_rb rfl rfl (by decide) ?_
      exact ⟨_, rfl, by omega, by omega⟩
theorem wi_ok : hp X d 145 0 [some (.int x1), some (.int x2), some (.int x3)] [] a M (fun o => ∃ r : Int32, o = (some (.int r), a, M) ∧ (r.toInt = 0 ∨ r.toInt = 1) ∧ (r.toInt ≠ 0 ↔ ((x2 : Int32).toInt ≤ (x1 : Int32).toInt ∧ (x1 : Int32).toInt ≤ (x3 : Int32).toInt))) := by
  have z0 : (0 : Int32).toInt = 0 := rfl
  have z1 : (1 : Int32).toInt = 1 := rfl
  refine hp_il (pc' := 1) (j := 0) (Or.inr ⟨0, rfl, rfl, rfl⟩) rfl ?_
  refine hp_il (pc' := 2) (j := 1) (Or.inr ⟨1, rfl, rfl, rfl⟩) rfl ?_
  refine hp_ilt (t := 14) (pc' := 5) rfl rfl rfl (fun c1 => ?_) (fun c1 => ?_)
  · refine hp_ic (pc' := 15) (x := 0) rfl rfl rfl ?_
    refine hp_rb rfl rfl (by decide) ?_
    exact ⟨_, rfl, by omega, by omega⟩
  · refine hp_il (pc' := 6) (j := 0) (Or.inr ⟨0, rfl, rfl, rfl⟩) rfl ?_
    refine hp_il (pc' := 7) (j := 2) (Or.inr ⟨2, rfl, rfl, rfl⟩) rfl ?_
    refine hp_igt (t := 14) (pc' := 10) rfl rfl rfl (fun c2 => ?_) (fun c2 => ?_)
    · refine hp_ic (pc' := 15) (x := 0) rfl rfl rfl ?_
      refine hp_rb rfl rfl (by decide) ?_
      exact ⟨_, rfl, by omega, by omega⟩
    · refine hp_ic (pc' := 11) (x := 1) rfl rfl rfl ?_
      refine hp_go (t := 15) rfl rfl ?_
      refine hp_rb rfl rfl (by decide) ?_
      exact ⟨_, rfl, by omega, by omega⟩
end CP
