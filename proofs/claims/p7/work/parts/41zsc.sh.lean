/-! shelf -/
section CP2
variable {X : Nat × (Nat → Int32)} {d D G I : Nat} {a : rx_K} {M : rx_M} {P : rx_O → Prop} {x1 x2 x3 x4 x5 : Int32}
theorem sh_ok (ha : a.1 = rx_cells) : hp X (d + 1) 236 0 [some (.ref 244), some (.int x1)] [] a M (fun o => ∃ r : Int32, o = (some (.int r), a, M) ∧ (r.toInt = 0 ∨ r.toInt = 1) ∧ (r.toInt ≠ 0 ↔ (0 ≤ (x1 : Int32).toInt ∧ (x1 : Int32).toInt ≤ 7))) := by
  have z0 : (0 : Int32).toInt = 0 := rfl
  have z7 : (7 : Int32).toInt = 7 := rfl
  refine hp_al (pc' := 1) (j := 0) (Or.inr ⟨0, rfl, rfl, rfl⟩) rfl ?_
  refine hp_il (pc' := 2) (j := 1) (Or.inr ⟨1, rfl, rfl, rfl⟩) rfl ?_
  refine hp_ic (pc' := 3) (x := 0) rfl rfl rfl ?_
  refine hp_bi (pc' := 5) (x := 7) rfl rfl rfl ?_
  refine hp_cv (Q := fun o => ∃ r : Int32, o = (some (.int r), a, M) ∧ (r.toInt = 0 ∨ r.toInt = 1) ∧ (r.toInt ≠ 0 ↔ (((0 : Int32) : Int32).toInt ≤ (x1 : Int32).toInt ∧ (x1 : Int32).toInt ≤ ((7 : Int32) : Int32).toInt))) (pc' := 8) (e := d) (vs := [.int x1, .int (0 : Int32), .int (7 : Int32)]) (r := []) ha rfl rfl rfl rfl rfl rfl rfl rfl in_ok (fun o ho => ?_)
  obtain ⟨r1, eo, qr1⟩ := ho
  subst eo
  refine ⟨_, rfl, ?_⟩
  show hp X (d + 1) 236 8 [some (.ref 244), some (.int x1)] [.int r1] a M _
  refine hp_rb rfl rfl (rb_ok qr1.1) ?_
  exact ⟨_, rfl, qr1.1, by omega⟩
end CP2
