/-! the core: summaries of methods, used at a callee's entry -/
section AXU
variable {X : Nat × (Nat → Int32)} {P : Option Value → rx_M → Prop} {W : ax_W} {sp : Nat → Nat → Int × Int} {rf : Nat → Nat → Option Nat} {ih : ax_S} {v : ax_V} {E : ax_E} {K : ax_K} {M : rx_M} {a : rx_K} {d i pc : Nat} {fr : ax_F} {ls : List (Option Value)} {st : List Value}
/-- what is known still after writes in w; nc: cells none of whose slots is written -/
noncomputable def ax_kp (w : ax_D) (nc : Nat → Bool) (e : Nat × Value × Value) : Bool := !(w.2.any (fun b => decide (b.1 ≤ (e.1 : Int)) && decide ((e.1 : Int) ≤ b.2))) && (nc e.1 || (match e.2.1 with
  | .int x => !(w.1 e.1 x.toNatClampNeg)
  | _ => false))
theorem ax_kp_ok {w : ax_D} {nc : Nat → Bool} (hnc : ∀ q, nc q = true → ∀ j, w.1 q j = false) {e : Nat × Value × Value} (h : ax_kp w nc e = true) : ¬ ax_wd w e.1 (ax_vi v e.2.1).toNatClampNeg := by
  unfold ax_kp at h
  rw [Bool.and_eq_true, Bool.not_eq_true', Bool.or_eq_true] at h
  obtain ⟨h1, h2⟩ := h
  rintro (h3 | ⟨b, hb, h4, h5⟩)
  · rcases h2 with h2 | h2
    · rw [hnc _ h2] at h3
      cases h3
    · obtain ⟨q, j, z⟩ := e
      dsimp only at h2 h3
      split at h2
      · rename_i x
        have h3 : w.1 q x.toNatClampNeg = true := h3
        rw [h3] at h2
        cases h2
      · cases h2
  · rw [List.any_eq_false] at h1
    refine h1 b hb ?_
    rw [Bool.and_eq_true]
    exact ⟨decide_eq_true h4, decide_eq_true h5⟩
/-- what a call leaves: the answer in bounds, the memory in bounds, and nothing changed outside w -/
noncomputable def ax_Q (sp : Nat → Nat → Int × Int) (rf : Nat → Nat → Option Nat) (w : ax_D) (an : Option (Int × Int)) (M0 : rx_M) (o : Option Value) (M : rx_M) : Prop := (match an with
  | none => o = none
  | some b => ∃ z : Int32, o = some (.int z) ∧ b.1 ≤ z.toInt ∧ z.toInt ≤ b.2) ∧ ax_J (w, M0.1, 0, fun _ => (0, 0)) sp rf M
noncomputable def ax_sm (w : ax_D) (nc : Nat → Bool) (an : Option (Int × Int)) (ih : ax_S) (E : ax_E) (K : ax_K) (d i pc : Nat) (ls : List (Option Value)) (st : List Value) (r : ax_F) : Bool := match an with
  | none => ih E (K.filter (ax_kp w nc)) (d + 1) r i pc ls st
  | some b => ax_psh ih E (K.filter (ax_kp w nc)) (d + 1) r i pc ls st (b, none, none) none
theorem ax_sm_ok (H : ax_H X P W sp rf ih) {w : ax_D} {nc : Nat → Bool} {an : Option (Int × Int)} {j : Nat} {c : rx_C} {r : ax_F} (hnc : ∀ q, nc q = true → ∀ j, w.1 q j = false) (hsub : ∀ q j, ax_wd w q j → ax_wd W.1 q j)
    (hQ : ax_C X (ax_Q sp rf w an M) v d [] j c) (h : ax_sm w nc an ih E K d i pc ls st r = true) (S : ax_St W sp rf v E K M a ((i, pc, ls, st) :: r)) : ax_C X P v d ((i, pc, ls, st) :: r) j c := by
  obtain ⟨s1, s2, s3, s4, s5, s6, s7⟩ := S
  obtain ⟨f, o, h1, h2, h3⟩ := hQ
  obtain ⟨h4, h5⟩ := h2
  have hf : ax_scF E.1 r = true := by
    have s8 := s7.1
    unfold ax_scF at s8 ⊢
    rw [List.all_cons, Bool.and_eq_true] at s8
    exact s8.2
  have S9 : ax_St W sp rf v E (K.filter (ax_kp w nc)) o.2.2 o.2.1 r := by
    refine ⟨s1, s2, fun e he => s3 e (List.mem_filter.mp he).1, ⟨h5.1, h5.2.1, fun q k hn => ?_⟩, fun e he => ?_, h3, hf, s7.2⟩
    · rw [h5.2.2 q k (fun z => hn (hsub q k z))]
      exact s4.2.2 q k hn
    · obtain ⟨k1, k2⟩ := List.mem_filter.mp he
      refine ⟨?_, (s5 e k1).2⟩
      rw [h5.2.2 _ _ (ax_kp_ok hnc k2)]
      exact (s5 e k1).1
  refine ⟨f, o, h1, ?_⟩
  obtain ⟨o1, o2, o3⟩ := o
  unfold ax_sm at h
  cases an with
  | none =>
    have e0 : o1 = none := h4
    subst e0
    obtain ⟨f2, p, k1, k2⟩ := H _ _ _ _ _ _ _ _ h v _ _ S9
    exact ⟨_, rfl, f2, p, k1, k2⟩
  | some b =>
    obtain ⟨z, e0, b1, b2⟩ := h4
    have e0 : o1 = some (.int z) := e0
    subst e0
    obtain ⟨f2, p, k1, k2⟩ := ax_psh_ok H h S9 (z := z) ⟨⟨b1, b2⟩, (fun b o hb => by cases hb), fun p q hb => by cases hb⟩ (fun q j hq => by cases hq)
    exact ⟨_, rfl, f2, p, k1, k2⟩
end AXU
