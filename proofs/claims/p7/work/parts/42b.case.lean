/-! the law's cases of keep, row, put, copy and element, by hand -/
/-- what both sides hold alike: kinds, sorts, sizes, elements -/
noncomputable def ri_R (M : rx_M) : Prop := (∀ D, D < 8 → M.1 230 D = M.1 283 D ∧ M.1 233 D = M.1 285 D ∧ M.1 234 D = M.1 286 D) ∧ ∀ D i, D < 8 → i < 80 → M.1 (236 + D) i = M.1 287 (80 * D + i)
noncomputable def ri_N (M M2 : rx_M) : Prop := ri_R M2 ∧ M2.1 14 16 = M.1 14 16 ∧ M2.1 14 12 = M.1 14 12 ∧ M2.1 244 1 = M2.1 1 4
theorem ri_hR {w : ax_D} (h : ∀ q j, (q = 230 ∨ q = 233 ∨ q = 234 ∨ (236 ≤ q ∧ q ≤ 243) ∨ q = 283 ∨ q = 285 ∨ q = 286 ∨ q = 287) → ¬ ax_wd w q j) (M M' : rx_M) (e : ∀ q j, ¬ ax_wd w q j → M'.1 q j = M.1 q j) (hR : ri_R M) : ri_R M' := by
  have e : ∀ q j, (q = 230 ∨ q = 233 ∨ q = 234 ∨ (236 ≤ q ∧ q ≤ 243) ∨ q = 283 ∨ q = 285 ∨ q = 286 ∨ q = 287) → M'.1 q j = M.1 q j := fun q j hq => e q j (h q j hq)
  refine ⟨fun D hD => ?_, fun D i hD hi => ?_⟩
  · rw [e 230 D (by omega), e 233 D (by omega), e 234 D (by omega), e 283 D (by omega), e 285 D (by omega), e 286 D (by omega)]
    exact hR.1 D hD
  · rw [e (236 + D) i (by omega), e 287 _ (by omega)]
    exact hR.2 D i hD hi
/-- nothing that is alike is written -/
theorem ri_fr {M M2 : rx_M} (hR : ri_R M) (hc : M.1 244 1 = M.1 1 4) (e : ∀ q j, ((q = 230 ∨ q = 233 ∨ q = 234 ∨ (236 ≤ q ∧ q ≤ 243) ∨ q = 283 ∨ q = 285 ∨ q = 286 ∨ q = 287) ∨ q = 14 ∨ q = 1 ∨ (q = 244 ∧ j = 1)) → M2.1 q j = M.1 q j) : ri_N M M2 := by
  refine ⟨⟨fun D hD => ?_, fun D i hD hi => ?_⟩, e 14 16 (by omega), e 14 12 (by omega), ?_⟩
  · rw [e 230 D (by omega), e 233 D (by omega), e 234 D (by omega), e 283 D (by omega), e 285 D (by omega), e 286 D (by omega)]
    exact hR.1 D hD
  · rw [e (236 + D) i (by omega), e 287 _ (by omega)]
    exact hR.2 D i hD hi
  · rw [e 244 1 (by omega), e 1 4 (by omega)]
    exact hc
theorem kp_m {x1 x2 x3 r : Int32} {M M1 : rx_M} {G : Prop} (h : (¬ G ∧ r.toInt = -1 ∧ M1.1 = M.1) ∨ (G ∧ r.toInt = 0 ∧ kp_F 230 231 232 x1.toInt.toNat x2 x3 M M1)) : M1.1 244 1 = M.1 244 1 := by
  rcases h with ⟨-, -, e⟩ | ⟨-, -, e⟩
  · rw [e]
  · exact e.2.2 244 1 (by omega)
theorem kp_end {x1 x2 x3 r1 r2 : Int32} {M M1 M2 : rx_M} (hR : ri_R M) (hc : M.1 244 1 = M.1 1 4) (h1 : (¬ kp_ok x1.toInt x2.toInt x3.toInt (M.1 1 4).toInt ∧ r1.toInt = -1 ∧ M1.1 = M.1) ∨ (kp_ok x1.toInt x2.toInt x3.toInt (M.1 1 4).toInt ∧ r1.toInt = 0 ∧ kp_F 230 231 232 x1.toInt.toNat x2 x3 M M1)) (h2 : (¬ kp_ok x1.toInt x2.toInt x3.toInt (M1.1 244 1).toInt ∧ r2.toInt = -1 ∧ M2.1 = M1.1) ∨ (kp_ok x1.toInt x2.toInt x3.toInt (M1.1 244 1).toInt ∧ r2.toInt = 0 ∧ kp_F 283 284 288 x1.toInt.toNat x2 x3 M1 M2)) : r1.toInt = r2.toInt ∧ ri_N M M2 := by
  rw [(kp_m h1).trans hc] at h2
  rcases h1 with ⟨n1, q1, e1⟩ | ⟨o1, q1, f1, f2, f3⟩
  · rcases h2 with ⟨n2, q2, e2⟩ | ⟨o2, -⟩
    · have e : M2.1 = M.1 := e2.trans e1
      exact ⟨by omega, ri_fr hR hc (fun q j _ => by rw [e])⟩
    · exact absurd o2 n1
  · rcases h2 with ⟨n2, -⟩ | ⟨o2, q2, g1, g2, g3⟩
    · exact absurd o1 n2
    · have e : ∀ q j, ¬ (j = x1.toInt.toNat ∧ (q = 230 ∨ q = 231 ∨ q = 232 ∨ q = 283 ∨ q = 284 ∨ q = 288)) → M2.1 q j = M.1 q j := fun q j h => (g3 q j (by omega)).trans (f3 q j (by omega))
      refine ⟨by omega, ⟨fun D hD => ?_, fun D i hD hi => ?_⟩, e 14 16 (by omega), e 14 12 (by omega), ?_⟩
      · rw [e 233 D (by omega), e 234 D (by omega), e 285 D (by omega), e 286 D (by omega)]
        refine ⟨?_, (hR.1 D hD).2⟩
        by_cases c : D = x1.toInt.toNat
        · refine Int32.toInt_inj.mp ?_
          rw [c, g3 230 _ (by omega), f1, g1]
        · rw [e 230 D (by omega), e 283 D (by omega)]
          exact (hR.1 D hD).1
      · rw [e (236 + D) i (by omega), e 287 _ (by omega)]
        exact hR.2 D i hD hi
      · rw [e 244 1 (by omega), e 1 4 (by omega)]
        exact hc
theorem rw_bx {D j : Nat} (hD : D < 8) : ax_sp (236 + D) j = (-2147483648, 2147483647) := by
  match D, hD with
  | 0, _ => rfl
  | 1, _ => rfl
  | 2, _ => rfl
  | 3, _ => rfl
  | 4, _ => rfl
  | 5, _ => rfl
  | 6, _ => rfl
  | 7, _ => rfl
theorem rw_J {h s z q o D : Nat} {x2 x3 : Int32} {M M1 : rx_M} (hs : (h, s, z, q, o) = (230, 233, 234, 236 + D, 0) ∨ (h, s, z, q, o) = (283, 285, 286, 287, 80 * D)) (hD : D < 8) (h2 : 0 ≤ x2.toInt ∧ x2.toInt ≤ 2) (h3 : 0 ≤ x3.toInt ∧ x3.toInt ≤ 80) (hJ : ax_J0 ax_sp ax_rf M) (hF : rw_F h s z q o D x2 x3 M M1) : ax_J0 ax_sp ax_rf M1 := by
  obtain ⟨g, e1, e2, e3, e4, e5⟩ := hF
  have b2 : (2 : Int32).toInt = 2 := rfl
  have b0 : (0 : Int32).toInt = 0 := rfl
  have hq : ∀ j, ax_sp q j = (-2147483648, 2147483647) := by
    intro j
    rcases hs with hs | hs
    · injection hs with a1 a2
      injection a2 with a2 a3
      injection a3 with a3 a4
      injection a4 with a4 a5
      rw [a4]
      exact rw_bx hD
    · injection hs with a1 a2
      injection a2 with a2 a3
      injection a3 with a3 a4
      injection a4 with a4 a5
      rw [a4]
      rfl
  have hk : (h = 230 ∧ s = 233 ∧ z = 234 ∧ 236 ≤ q ∧ q ≤ 243) ∨ (h = 283 ∧ s = 285 ∧ z = 286 ∧ q = 287) := by
    rcases hs with hs | hs
    · injection hs with a1 a2
      injection a2 with a2 a3
      injection a3 with a3 a4
      injection a4 with a4 a5
      omega
    · injection hs with a1 a2
      injection a2 with a2 a3
      injection a3 with a3 a4
      injection a4 with a4 a5
      omega
  refine ⟨fun p j => ?_, hp_Re hJ.2.1 g, ?_⟩
  · by_cases c : j = D ∧ (p = h ∨ p = s ∨ p = z)
    · obtain ⟨c1, c2⟩ := c
      rcases hk with ⟨rfl, rfl, rfl, k⟩ | ⟨rfl, rfl, rfl, k⟩
      · rcases c2 with c2 | c2 | c2
        · rw [c1, c2, e1]
          show (0 : Int) ≤ (2 : Int32).toInt ∧ (2 : Int32).toInt ≤ 2
          omega
        · rw [c1, c2, e2]
          exact h2
        · rw [c1, c2, e3]
          exact h3
      · rcases c2 with c2 | c2 | c2
        · rw [c1, c2, e1]
          show (0 : Int) ≤ (2 : Int32).toInt ∧ (2 : Int32).toInt ≤ 2
          omega
        · rw [c1, c2, e2]
          exact h2
        · rw [c1, c2, e3]
          exact h3
    · by_cases c' : p = q ∧ o ≤ j ∧ j < o + 80
      · have e := e4 (j - o) (by omega)
        rw [show o + (j - o) = j by omega] at e
        rw [c'.1, e, hq]
        show (-2147483648 : Int) ≤ (0 : Int32).toInt ∧ (0 : Int32).toInt ≤ 2147483647
        omega
      · rw [e5 p j c c']
        exact hJ.1 p j
  · have e : ∀ p j, ¬ (p = 230 ∨ p = 233 ∨ p = 234 ∨ (236 ≤ p ∧ p ≤ 243) ∨ p = 283 ∨ p = 285 ∨ p = 286 ∨ p = 287) → M1.1 p j = M.1 p j := fun p j hp => e5 p j (by omega) (by omega)
    refine ax_G_of hJ.2.2 (e 14 16 (by omega)) (e 244 7 (by omega)) (fun k hk => ⟨e _ _ (by omega), e _ _ (by omega), e _ _ (by omega), e _ _ (by omega), fun h150 i => e _ _ (by omega)⟩) (fun k hk => ⟨e _ _ (by omega), e _ _ (by omega), e _ _ (by omega), e _ _ (by omega), e _ _ (by omega), fun h150 i hi => e _ _ (by omega)⟩) (fun i => ?_) (fun i => ?_)
    · rw [e 213 i (by omega)]
      exact hJ.2.2.2.2.1 i
    · rw [e 284 i (by omega)]
      by_cases c : i = D ∧ h = 283
      · intro w
        rw [c.1, ← c.2, e1] at w
        omega
      · rw [e5 283 i (by omega) (by omega)]
        exact hJ.2.2.2.2.2.1 i
theorem rw_Jx {x1 x2 x3 : Int32} {M M1 : rx_M} (hJ : ax_J0 ax_sp ax_rf M) (h : (¬ rw_ok x1 x2 x3 ∧ M1 = M) ∨ (rw_ok x1 x2 x3 ∧ rw_F 230 233 234 (236 + x1.toInt.toNat) 0 x1.toInt.toNat x2 x3 M M1)) : ax_J0 ax_sp ax_rf M1 := by
  rcases h with ⟨-, e⟩ | ⟨⟨a1, a2, a3, a4, a5, a6⟩, e⟩
  · rw [e]
    exact hJ
  · exact rw_J (Or.inl rfl) (by omega) ⟨a3, a4⟩ ⟨a5, a6⟩ hJ e
theorem rw_Jm {x1 x2 x3 : Int32} {M M1 : rx_M} (hJ : ax_J0 ax_sp ax_rf M) (h : (¬ rw_ok x1 x2 x3 ∧ M1 = M) ∨ (rw_ok x1 x2 x3 ∧ rw_F 283 285 286 287 (80 * x1.toInt.toNat) x1.toInt.toNat x2 x3 M M1)) : ax_J0 ax_sp ax_rf M1 := by
  rcases h with ⟨-, e⟩ | ⟨⟨a1, a2, a3, a4, a5, a6⟩, e⟩
  · rw [e]
    exact hJ
  · exact rw_J (Or.inr rfl) (by omega) ⟨a3, a4⟩ ⟨a5, a6⟩ hJ e
theorem rw_end {x1 x2 x3 : Int32} {M M1 M2 : rx_M} (hR : ri_R M) (hc : M.1 244 1 = M.1 1 4) (h1 : (¬ rw_ok x1 x2 x3 ∧ M1 = M) ∨ (rw_ok x1 x2 x3 ∧ rw_F 230 233 234 (236 + x1.toInt.toNat) 0 x1.toInt.toNat x2 x3 M M1)) (h2 : (¬ rw_ok x1 x2 x3 ∧ M2 = M1) ∨ (rw_ok x1 x2 x3 ∧ rw_F 283 285 286 287 (80 * x1.toInt.toNat) x1.toInt.toNat x2 x3 M1 M2)) : ri_N M M2 := by
  rcases h1 with ⟨n1, e1⟩ | ⟨o1, f0, f1, f2, f3, f4, f5⟩
  · rcases h2 with ⟨n2, e2⟩ | ⟨o2, -⟩
    · subst e1
      subst e2
      exact ⟨hR, rfl, rfl, hc⟩
    · exact absurd o2 n1
  · rcases h2 with ⟨n2, -⟩ | ⟨o2, g0, g1, g2, g3, g4, g5⟩
    · exact absurd o1 n2
    · obtain ⟨a1, a2, a3, a4, a5, a6⟩ := o1
      refine ⟨⟨fun D hD => ?_, fun D i hD hi => ?_⟩, (g5 14 16 (by omega) (by omega)).trans (f5 14 16 (by omega) (by omega)), (g5 14 12 (by omega) (by omega)).trans (f5 14 12 (by omega) (by omega)), ?_⟩
      · by_cases c : D = x1.toInt.toNat
        · rw [c, g5 230 _ (by omega) (by omega), g5 233 _ (by omega) (by omega), g5 234 _ (by omega) (by omega), f1, f2, f3, g1, g2, g3]
          exact ⟨rfl, rfl, rfl⟩
        · rw [g5 230 D (by omega) (by omega), g5 233 D (by omega) (by omega), g5 234 D (by omega) (by omega), g5 283 D (by omega) (by omega), g5 285 D (by omega) (by omega), g5 286 D (by omega) (by omega), f5 230 D (by omega) (by omega), f5 233 D (by omega) (by omega), f5 234 D (by omega) (by omega), f5 283 D (by omega) (by omega), f5 285 D (by omega) (by omega), f5 286 D (by omega) (by omega)]
          exact hR.1 D hD
      · by_cases c : D = x1.toInt.toNat
        · have k1 := f4 i hi
          have k2 := g4 i hi
          rw [Nat.zero_add] at k1
          rw [c, k2, g5 (236 + x1.toInt.toNat) i (by omega) (by omega), k1]
        · rw [g5 (236 + D) i (by omega) (by omega), g5 287 (80 * D + i) (by omega) (by omega), f5 (236 + D) i (by omega) (by omega), f5 287 (80 * D + i) (by omega) (by omega)]
          exact hR.2 D i hD hi
      · rw [g5 244 1 (by omega) (by omega), g5 1 4 (by omega) (by omega), f5 244 1 (by omega) (by omega), f5 1 4 (by omega) (by omega)]
        exact hc
/-- one slot of an element is written: bounds and guards stay -/
theorem pt_cp {q j : Nat} {x : Int32} {M M1 : rx_M} (g : M1.2 = M.2) (hq : (236 ≤ q ∧ q ≤ 243) ∨ q = 287) (h : pt_F q j x M M1) : cp_F M M1 := ⟨g, fun p k hp => h.2 p k (by omega)⟩
theorem pt_J1 {x1 x2 x3 : Int32} {M M1 : rx_M} {h z : Nat} {v : Int32} (hJ : ax_J0 ax_sp ax_rf M) (g : M1.2 = M.2) (k : (¬ pt_ok x1.toInt x2.toInt (M.1 h x1.toInt.toNat).toInt (M.1 z x1.toInt.toNat).toInt ∧ M1.1 = M.1) ∨ (pt_ok x1.toInt x2.toInt (M.1 h x1.toInt.toNat).toInt (M.1 z x1.toInt.toNat).toInt ∧ pt_F (236 + x1.toInt.toNat) x2.toInt.toNat v M M1)) : cp_F M M1 := by
  rcases k with ⟨-, e⟩ | ⟨o, f⟩
  · exact ⟨g, fun p k _ => by rw [e]⟩
  · obtain ⟨⟨o1, o2⟩, -⟩ := o
    exact pt_cp g (Or.inl ⟨by omega, by omega⟩) f
theorem pt_J2 {x1 x2 x3 : Int32} {M M1 : rx_M} {h z j : Nat} {v : Int32} (hJ : ax_J0 ax_sp ax_rf M) (g : M1.2 = M.2) (k : (¬ pt_ok x1.toInt x2.toInt (M.1 h x1.toInt.toNat).toInt (M.1 z x1.toInt.toNat).toInt ∧ M1.1 = M.1) ∨ (pt_ok x1.toInt x2.toInt (M.1 h x1.toInt.toNat).toInt (M.1 z x1.toInt.toNat).toInt ∧ pt_F 287 j v M M1)) : cp_F M M1 := by
  rcases k with ⟨-, e⟩ | ⟨o, f⟩
  · exact ⟨g, fun p k _ => by rw [e]⟩
  · exact pt_cp g (Or.inr rfl) f
theorem pt_end {x1 x2 x3 : Int32} {M M1 M2 : rx_M} (hR : ri_R M) (hJ : ax_J0 ax_sp ax_rf M) (hc : M.1 244 1 = M.1 1 4) (c1 : cp_F M M1) (h1 : (¬ pt_ok x1.toInt x2.toInt (M.1 230 x1.toInt.toNat).toInt (M.1 234 x1.toInt.toNat).toInt ∧ M1.1 = M.1) ∨ (pt_ok x1.toInt x2.toInt (M.1 230 x1.toInt.toNat).toInt (M.1 234 x1.toInt.toNat).toInt ∧ pt_F (236 + x1.toInt.toNat) x2.toInt.toNat (pt_v (M.1 233 x1.toInt.toNat) x3) M M1)) (h2 : (¬ pt_ok x1.toInt x2.toInt (M1.1 283 x1.toInt.toNat).toInt (M1.1 286 x1.toInt.toNat).toInt ∧ M2.1 = M1.1) ∨ (pt_ok x1.toInt x2.toInt (M1.1 283 x1.toInt.toNat).toInt (M1.1 286 x1.toInt.toNat).toInt ∧ pt_F 287 (80 * x1.toInt.toNat + x2.toInt.toNat) (pt_v (M1.1 285 x1.toInt.toNat) x3) M1 M2)) : ri_N M M2 := by
  rw [c1.2 283 _ (by omega), c1.2 285 _ (by omega), c1.2 286 _ (by omega)] at h2
  rcases h1 with ⟨n1, e1⟩ | ⟨o1, f1, f2⟩
  · rcases h2 with ⟨n2, e2⟩ | ⟨o2, -⟩
    · have e : M2.1 = M.1 := e2.trans e1
      exact ri_fr hR hc (fun q j _ => by rw [e])
    · refine absurd ?_ n1
      obtain ⟨k1, k2, k3⟩ := hR.1 x1.toInt.toNat (by have := o2.1; omega)
      rw [k1, k3]
      exact o2
  · obtain ⟨k1, k2, k3⟩ := hR.1 x1.toInt.toNat (by have := o1.1; omega)
    rcases h2 with ⟨n2, e2⟩ | ⟨o2, g1, g2⟩
    · refine absurd ?_ n2
      rw [← k1, ← k3]
      exact o1
    · have b : 0 ≤ (M.1 234 x1.toInt.toNat).toInt ∧ (M.1 234 x1.toInt.toNat).toInt ≤ 80 := hJ.1 234 x1.toInt.toNat
      obtain ⟨⟨w1, w2⟩, w3, w4, w5⟩ := o1
      refine ⟨⟨fun D hD => ?_, fun D i hD hi => ?_⟩, (g2 14 16 (by omega)).trans (f2 14 16 (by omega)), (g2 14 12 (by omega)).trans (f2 14 12 (by omega)), ?_⟩
      · rw [g2 230 D (by omega), g2 233 D (by omega), g2 234 D (by omega), g2 283 D (by omega), g2 285 D (by omega), g2 286 D (by omega), f2 230 D (by omega), f2 233 D (by omega), f2 234 D (by omega), f2 283 D (by omega), f2 285 D (by omega), f2 286 D (by omega)]
        exact hR.1 D hD
      · by_cases c : D = x1.toInt.toNat ∧ i = x2.toInt.toNat
        · rw [c.1, c.2, g1, g2 (236 + x1.toInt.toNat) _ (by omega), f1, k2]
        · rw [g2 (236 + D) i (by omega), g2 287 (80 * D + i) (by omega), f2 (236 + D) i (by omega), f2 287 (80 * D + i) (by omega)]
          exact hR.2 D i hD hi
      · rw [g2 244 1 (by omega), g2 1 4 (by omega), f2 244 1 (by omega), f2 1 4 (by omega)]
        exact hc
theorem pt_eq {x1 x2 r1 r2 : Int32} {M M1 : rx_M} (hR : ri_R M) (c1 : cp_F M M1) (v1 : r1.toInt = pt_a x1.toInt x2.toInt (M.1 230 x1.toInt.toNat).toInt (M.1 234 x1.toInt.toNat).toInt) (v2 : r2.toInt = pt_a x1.toInt x2.toInt (M1.1 283 x1.toInt.toNat).toInt (M1.1 286 x1.toInt.toNat).toInt) : r1.toInt = r2.toInt := by
  rw [c1.2 283 _ (by omega), c1.2 286 _ (by omega)] at v2
  rw [v1, v2]
  by_cases q : x1.toInt < 0 ∨ 7 < x1.toInt
  · unfold pt_a
    rw [if_pos q, if_pos q]
  · obtain ⟨k1, k2, k3⟩ := hR.1 x1.toInt.toNat (by omega)
    rw [k1, k3]
theorem cp_eq {M M1 : rx_M} {x1 x2 x3 x4 x5 : Int32} (h : ∀ D, D < 8 → M.1 230 D = M1.1 283 D ∧ M.1 233 D = M1.1 285 D ∧ M.1 234 D = M1.1 286 D) : cp_v x1.toInt x2.toInt x3.toInt x4.toInt x5.toInt (M.1 230 x1.toInt.toNat).toInt (M.1 230 x3.toInt.toNat).toInt (M.1 233 x1.toInt.toNat).toInt (M.1 233 x3.toInt.toNat).toInt (M.1 234 x1.toInt.toNat).toInt (M.1 234 x3.toInt.toNat).toInt = cp_v x1.toInt x2.toInt x3.toInt x4.toInt x5.toInt (M1.1 283 x1.toInt.toNat).toInt (M1.1 283 x3.toInt.toNat).toInt (M1.1 285 x1.toInt.toNat).toInt (M1.1 285 x3.toInt.toNat).toInt (M1.1 286 x1.toInt.toNat).toInt (M1.1 286 x3.toInt.toNat).toInt := by
  by_cases q : x1.toInt < 0 ∨ 7 < x1.toInt ∨ x3.toInt < 0 ∨ 7 < x3.toInt
  · unfold cp_v
    rw [if_pos q, if_pos q]
  · obtain ⟨a1, a2, a3⟩ := h x1.toInt.toNat (by omega)
    obtain ⟨b1, b2, b3⟩ := h x3.toInt.toNat (by omega)
    rw [a1, a2, a3, b1, b2, b3]
theorem cq_end {x1 x2 x3 x4 x5 r1 r2 : Int32} {M M1 M2 : rx_M} (hR : ri_R M) (hc : M.1 244 1 = M.1 1 4) (c1 : cp_F M M1) (v1 : r1.toInt = cp_v x1.toInt x2.toInt x3.toInt x4.toInt x5.toInt (M.1 230 x1.toInt.toNat).toInt (M.1 230 x3.toInt.toNat).toInt (M.1 233 x1.toInt.toNat).toInt (M.1 233 x3.toInt.toNat).toInt (M.1 234 x1.toInt.toNat).toInt (M.1 234 x3.toInt.toNat).toInt) (h1 : (r1.toInt < 0 ∧ M1.1 = M.1) ∨ (0 ≤ r1.toInt ∧ (((0 ≤ x1.toInt ∧ x1.toInt ≤ 7) ∧ 0 ≤ x3.toInt ∧ x3.toInt ≤ 7) ∧ (0 ≤ x2.toInt ∧ 0 ≤ x4.toInt ∧ 0 ≤ x5.toInt) ∧ x2.toInt + x5.toInt ≤ 80 ∧ x4.toInt + x5.toInt ≤ 80) ∧ cq_Xx x1.toInt.toNat x2.toInt.toNat x3.toInt.toNat x4.toInt.toNat x5.toInt.toNat M M1)) (v2 : r2.toInt = cp_v x1.toInt x2.toInt x3.toInt x4.toInt x5.toInt (M1.1 283 x1.toInt.toNat).toInt (M1.1 283 x3.toInt.toNat).toInt (M1.1 285 x1.toInt.toNat).toInt (M1.1 285 x3.toInt.toNat).toInt (M1.1 286 x1.toInt.toNat).toInt (M1.1 286 x3.toInt.toNat).toInt) (h2 : (r2.toInt < 0 ∧ M2.1 = M1.1) ∨ (0 ≤ r2.toInt ∧ (((0 ≤ x1.toInt ∧ x1.toInt ≤ 7) ∧ 0 ≤ x3.toInt ∧ x3.toInt ≤ 7) ∧ (0 ≤ x2.toInt ∧ 0 ≤ x4.toInt ∧ 0 ≤ x5.toInt) ∧ x2.toInt + x5.toInt ≤ 80 ∧ x4.toInt + x5.toInt ≤ 80) ∧ cq_Xm x1.toInt.toNat x2.toInt.toNat x3.toInt.toNat x4.toInt.toNat x5.toInt.toNat M1 M2)) : r1.toInt = r2.toInt ∧ ri_N M M2 := by
  have er : r1.toInt = r2.toInt := by
    rw [v1, v2]
    exact cp_eq (fun D hD => by
      rw [c1.2 283 D (by omega), c1.2 285 D (by omega), c1.2 286 D (by omega)]
      exact hR.1 D hD)
  refine ⟨er, ?_⟩
  rcases h1 with ⟨n1, e1⟩ | ⟨o1, ⟨⟨⟨w1, w2⟩, w3, w4⟩, ⟨w5, w6, w7⟩, w8, w9⟩, f1, f2⟩
  · rcases h2 with ⟨n2, e2⟩ | ⟨o2, -⟩
    · have e : M2.1 = M.1 := e2.trans e1
      exact ri_fr hR hc (fun q j _ => by rw [e])
    · exfalso
      omega
  · rcases h2 with ⟨n2, e2⟩ | ⟨o2, -, g1, g2⟩
    · exfalso
      omega
    · refine ⟨⟨fun D hD => ?_, fun D i hD hi => ?_⟩, (g2 14 16 (by omega) (by omega)).trans (f2 14 16 (by omega)), (g2 14 12 (by omega) (by omega)).trans (f2 14 12 (by omega)), ?_⟩
      · rw [g2 230 D (by omega) (by omega), g2 233 D (by omega) (by omega), g2 234 D (by omega) (by omega), g2 283 D (by omega) (by omega), g2 285 D (by omega) (by omega), g2 286 D (by omega) (by omega), f2 230 D (by omega), f2 233 D (by omega), f2 234 D (by omega), f2 283 D (by omega), f2 285 D (by omega), f2 286 D (by omega)]
        exact hR.1 D hD
      · by_cases c : D = x3.toInt.toNat ∧ x4.toInt.toNat ≤ i ∧ i < x4.toInt.toNat + x5.toInt.toNat
        · obtain ⟨c1', c2, c3⟩ := c
          have k1 := f1 (i - x4.toInt.toNat) (by omega)
          have k2 := g1 (i - x4.toInt.toNat) (by omega)
          rw [show x4.toInt.toNat + (i - x4.toInt.toNat) = i by omega] at k1
          rw [show 80 * x3.toInt.toNat + x4.toInt.toNat + (i - x4.toInt.toNat) = 80 * x3.toInt.toNat + i by omega] at k2
          rw [c1', k2, g2 (236 + x3.toInt.toNat) i (by omega) (by omega), k1, f2 287 _ (by omega)]
          have k3 := hR.2 x1.toInt.toNat (x2.toInt.toNat + (i - x4.toInt.toNat)) (by omega) (by omega)
          rw [k3, Nat.add_assoc]
        · rw [g2 (236 + D) i (by omega) (by omega), g2 287 (80 * D + i) (by omega) (by omega), f2 (236 + D) i (by omega), f2 287 (80 * D + i) (by omega)]
          exact hR.2 D i hD hi
      · rw [g2 244 1 (by omega) (by omega), g2 1 4 (by omega) (by omega), f2 244 1 (by omega), f2 1 4 (by omega)]
        exact hc
theorem fl_end {x1 r1 r2 : Int32} {M M1 M2 : rx_M} (hR : ri_R M) (hJ : ax_J0 ax_sp ax_rf M) (hc : M.1 244 1 = M.1 1 4) (h1 : (pf_r x1.toInt (M.1 230 x1.toInt.toNat).toInt (M.1 233 x1.toInt.toNat).toInt ≠ 0 ∧ r1.toInt = pf_r x1.toInt (M.1 230 x1.toInt.toNat).toInt (M.1 233 x1.toInt.toNat).toInt ∧ M1 = M) ∨ (pf_r x1.toInt (M.1 230 x1.toInt.toNat).toInt (M.1 233 x1.toInt.toNat).toInt = 0 ∧ pa_R (fun j => (M.1 (236 + x1.toInt.toNat) j).toInt) (M.1 234 x1.toInt.toNat).toInt.toNat 0 [] true r1.toInt ∧ pf_F M M1)) (h2 : (pf_r x1.toInt (M1.1 283 x1.toInt.toNat).toInt (M1.1 285 x1.toInt.toNat).toInt ≠ 0 ∧ r2.toInt = pf_r x1.toInt (M1.1 283 x1.toInt.toNat).toInt (M1.1 285 x1.toInt.toNat).toInt ∧ M2 = M1) ∨ (pf_r x1.toInt (M1.1 283 x1.toInt.toNat).toInt (M1.1 285 x1.toInt.toNat).toInt = 0 ∧ pa_R (fun j => (M1.1 287 (80 * x1.toInt.toNat + j)).toInt) (M1.1 286 x1.toInt.toNat).toInt.toNat 0 [] true r2.toInt ∧ mf_F M1 M2)) : r1.toInt = r2.toInt ∧ ri_N M M2 := by
  have e1 : ∀ q j, q ≠ 15 → M1.1 q j = M.1 q j := by
    rcases h1 with ⟨-, -, e⟩ | ⟨-, -, f⟩
    · intro q j _
      rw [e]
    · exact fun q j hq => f.1 q j (by omega)
  have e2 : ∀ q j, ¬ (q = 257 ∨ q = 258 ∨ (260 ≤ q ∧ q ≤ 267) ∨ (q = 244 ∧ (j = 19 ∨ j = 20 ∨ j = 21 ∨ j = 30))) → M2.1 q j = M1.1 q j := by
    rcases h2 with ⟨-, -, e⟩ | ⟨-, -, f⟩
    · intro q j _
      rw [e]
    · exact f.2.2
  rw [e1 283 _ (by omega), e1 285 _ (by omega)] at h2
  have er : pf_r x1.toInt (M.1 230 x1.toInt.toNat).toInt (M.1 233 x1.toInt.toNat).toInt = pf_r x1.toInt (M.1 283 x1.toInt.toNat).toInt (M.1 285 x1.toInt.toNat).toInt := by
    by_cases q : x1.toInt < 0 ∨ 7 < x1.toInt
    · unfold pf_r
      rw [if_pos q, if_pos q]
    · obtain ⟨k1, k2, k3⟩ := hR.1 x1.toInt.toNat (by omega)
      rw [k1, k2]
  rw [← er] at h2
  refine ⟨?_, ri_fr hR hc (fun q j hq => (e2 q j (by omega)).trans (e1 q j (by omega)))⟩
  rcases h1 with ⟨n1, v1, -⟩ | ⟨o1, v1, -⟩
  · rcases h2 with ⟨n2, v2, -⟩ | ⟨o2, -, -⟩
    · exact v1.trans v2.symm
    · exact absurd o2 n1
  · rcases h2 with ⟨n2, v2, -⟩ | ⟨o2, v2, -⟩
    · exact absurd o1 n2
    · have hx : 0 ≤ x1.toInt ∧ x1.toInt ≤ 7 := by
        unfold pf_r at o1
        split at o1
        · omega
        · omega
      obtain ⟨k1, k2, k3⟩ := hR.1 x1.toInt.toNat (by omega)
      have b : 0 ≤ (M.1 234 x1.toInt.toNat).toInt ∧ (M.1 234 x1.toInt.toNat).toInt ≤ 80 := hJ.1 234 x1.toInt.toNat
      rw [e1 286 _ (by omega), ← k3] at v2
      refine pa_det v1 (pa_R_c (fun j hj => ?_) v2)
      show (M1.1 287 _).toInt = (M.1 (236 + x1.toInt.toNat) j).toInt
      rw [e1 287 _ (by omega), ← hR.2 x1.toInt.toNat j (by omega) (by omega)]
/-- the unknowns, six ints further -/
noncomputable def wk_v (v : ax_V) (M : rx_M) : ax_V := fun k => if k = 1 then ((v 1).1 + Int32.ofInt 6, 0) else if k = 2 then (M.1 1 4, 0) else v k
theorem wk_next {v : ax_V} {M M3 : rx_M} (h1 : ax_ok v ax_c_law.2.1) (h2 : ax_kn v ax_c_law.2.2.1 M) (hJ3 : ax_J0 ax_sp ax_rf M3) (hi : 0 ≤ (v 1).1.toInt) (hi6 : (v 1).1.toInt + 6 ≤ 3072) (f1 : M3.1 14 16 = M.1 14 16) (f2 : M3.1 14 12 = M.1 14 12) (f3 : M3.1 244 1 = M3.1 1 4) : ax_ok (wk_v v M3) ax_c_law.2.1 ∧ ax_kn (wk_v v M3) ax_c_law.2.2.1 M3 ∧ (wk_v v M3 1).1.toInt = (v 1).1.toInt + 6 := by
  have e6 : (Int32.ofInt 6).toInt = 6 := rfl
  have e : (wk_v v M3 1).1.toInt = (v 1).1.toInt + 6 := by
    show ((v 1).1 + Int32.ofInt 6).toInt = _
    rw [ax_add (by omega) (by omega), e6]
  have key : ∀ e ∈ ([(14, .int 16, .retAddr 4), (14, .int 12, .retAddr 3), (244, .int 1, .retAddr 2), (1, .int 4, .retAddr 2)] : ax_K), ax_k1 v M e := h2
  have m1 : M.1 14 16 = (v 4).1 := ax_k1_i (key (14, .int 16, .retAddr 4) (by simp)) rfl
  have m2 : M.1 14 12 = (v 3).1 := ax_k1_i (key (14, .int 12, .retAddr 3) (by simp)) rfl
  refine ⟨⟨fun k => ?_, fun d hd => ?_, fun d hd => ?_, fun d hd => ?_⟩, fun q hq => ?_, e⟩
  · by_cases q : k = 1
    · rw [q, e]
      show (0 : Int) ≤ (v 1).1.toInt + 6 ∧ (v 1).1.toInt + 6 ≤ 3072
      omega
    · by_cases q2 : k = 2
      · rw [q2]
        exact hJ3.1 1 4
      · have e2 : wk_v v M3 k = v k := by
          unfold wk_v
          rw [if_neg q, if_neg q2]
        rw [e2]
        exact h1.1 k
  · cases hd
  · cases hd
  · cases List.mem_singleton.mp hd
    exact h1.2.2.2 _ (List.mem_singleton.mpr rfl)
  · have hq : q ∈ ([(14, .int 16, .retAddr 4), (14, .int 12, .retAddr 3), (244, .int 1, .retAddr 2), (1, .int 4, .retAddr 2)] : ax_K) := hq
    simp only [List.mem_cons, List.not_mem_nil, or_false] at hq
    rcases hq with r | r | r | r
    · subst r
      exact ⟨rfl, Or.inl ⟨rfl, f1.trans m1⟩⟩
    · subst r
      exact ⟨rfl, Or.inl ⟨rfl, f2.trans m2⟩⟩
    · subst r
      exact ⟨rfl, Or.inl ⟨rfl, f3⟩⟩
    · subst r
      exact ⟨rfl, Or.inl ⟨rfl, rfl⟩⟩
section WK
variable {X : Nat × (Nat → Int32)} {a : rx_K} {M : rx_M} {P : rx_O → Prop} {xi : Int32} {i : Nat}
theorem wk_keep (hxi : xi.toInt = (i : Int)) (hi : i + 6 ≤ X.1) (hX : X.1 ≤ 3072) (ha : a.1 = rx_cells) (hJ : ax_J0 ax_sp ax_rf M) (hR : ri_R M) (hc : M.1 244 1 = M.1 1 4) (KK : ∀ (M2 : rx_M) (a2 : rx_K), a2.1 = rx_cells → a2.2.1 ≤ a.2.1 → a2.2.2 ≤ a.2.2 → ax_J0 ax_sp ax_rf M2 → ri_N M M2 → hp X 45 249 23 [some (.ref 1000), some (.ref 0), some (.ref 244), some (.ref 290), some (.int (xi + Int32.ofInt 6)), none, none, none] [] a2 M2 P) : hp X 45 249 1374 [some (.ref 1000), some (.ref 0), some (.ref 244), some (.ref 290), some (.int xi), none, none, none] [] a M P := by
  refine hp_al (pc' := 1375) (j := 1) (Or.inr ⟨1, rfl, rfl, rfl⟩) rfl ?_
  refine hp_al (pc' := 1376) (j := 0) (Or.inr ⟨0, rfl, rfl, rfl⟩) rfl ?_
  refine hp_il (pc' := 1378) (j := 4) (Or.inl ⟨rfl, rfl⟩) rfl ?_
  refine hp_ic (pc' := 1379) (x := 1) rfl rfl rfl ?_
  refine hp_add (pc' := 1380) rfl rfl (fun z1 hz1 => ?_)
  have xz1 : z1.toInt = (((i + 1) : Nat) : Int) := hp_aa hxi rfl (by omega) hz1
  refine hp_sc (pc' := 1381) (j := (i + 1)) xz1 (by omega) rfl rfl ?_
  refine hp_al (pc' := 1382) (j := 0) (Or.inr ⟨0, rfl, rfl, rfl⟩) rfl ?_
  refine hp_il (pc' := 1384) (j := 4) (Or.inl ⟨rfl, rfl⟩) rfl ?_
  refine hp_ic (pc' := 1385) (x := 2) rfl rfl rfl ?_
  refine hp_add (pc' := 1386) rfl rfl (fun z2 hz2 => ?_)
  have xz2 : z2.toInt = (((i + 2) : Nat) : Int) := hp_aa hxi rfl (by omega) hz2
  refine hp_sc (pc' := 1387) (j := (i + 2)) xz2 (by omega) rfl rfl ?_
  refine hp_al (pc' := 1388) (j := 0) (Or.inr ⟨0, rfl, rfl, rfl⟩) rfl ?_
  refine hp_il (pc' := 1390) (j := 4) (Or.inl ⟨rfl, rfl⟩) rfl ?_
  refine hp_ic (pc' := 1391) (x := 3) rfl rfl rfl ?_
  refine hp_add (pc' := 1392) rfl rfl (fun z3 hz3 => ?_)
  have xz3 : z3.toInt = (((i + 3) : Nat) : Int) := hp_aa hxi rfl (by omega) hz3
  refine hp_sc (pc' := 1393) (j := (i + 3)) xz3 (by omega) rfl rfl ?_
  refine hp_cx (q := 0) (Q := kp_Q 230 231 232 (M.1 1 4).toInt (X.2 (i + 1)) (X.2 (i + 2)) (X.2 (i + 3)) a M) (pc' := 1396) (e := 44) (vs := [.int (X.2 (i + 1)), .int (X.2 (i + 2)), .int (X.2 (i + 3))]) (r := []) ha rfl rfl rfl rfl rfl rfl rfl rfl (xk_ok (d := 42) ha hJ) (fun o ho => ?_)
  obtain ⟨r1, M1, a1, eo, ha1, l1, l1b, jM1, fM1⟩ := ho
  subst eo
  refine ⟨_, rfl, ?_⟩
  show hp X 45 249 1396 [some (.ref 1000), some (.ref 0), some (.ref 244), some (.ref 290), some (.int xi), none, none, none] [.int r1] a1 M1 _
  refine hp_pop (pc' := 1397) rfl rfl rfl ?_
  refine hp_al (pc' := 1398) (j := 2) (Or.inr ⟨2, rfl, rfl, rfl⟩) rfl ?_
  refine hp_al (pc' := 1399) (j := 0) (Or.inr ⟨0, rfl, rfl, rfl⟩) rfl ?_
  refine hp_il (pc' := 1401) (j := 4) (Or.inl ⟨rfl, rfl⟩) rfl ?_
  refine hp_ic (pc' := 1402) (x := 1) rfl rfl rfl ?_
  refine hp_add (pc' := 1403) rfl rfl (fun z4 hz4 => ?_)
  have xz4 : z4.toInt = (((i + 1) : Nat) : Int) := hp_aa hxi rfl (by omega) hz4
  refine hp_sc (pc' := 1404) (j := (i + 1)) xz4 (by omega) rfl rfl ?_
  refine hp_al (pc' := 1405) (j := 0) (Or.inr ⟨0, rfl, rfl, rfl⟩) rfl ?_
  refine hp_il (pc' := 1407) (j := 4) (Or.inl ⟨rfl, rfl⟩) rfl ?_
  refine hp_ic (pc' := 1408) (x := 2) rfl rfl rfl ?_
  refine hp_add (pc' := 1409) rfl rfl (fun z5 hz5 => ?_)
  have xz5 : z5.toInt = (((i + 2) : Nat) : Int) := hp_aa hxi rfl (by omega) hz5
  refine hp_sc (pc' := 1410) (j := (i + 2)) xz5 (by omega) rfl rfl ?_
  refine hp_al (pc' := 1411) (j := 0) (Or.inr ⟨0, rfl, rfl, rfl⟩) rfl ?_
  refine hp_il (pc' := 1413) (j := 4) (Or.inl ⟨rfl, rfl⟩) rfl ?_
  refine hp_ic (pc' := 1414) (x := 3) rfl rfl rfl ?_
  refine hp_add (pc' := 1415) rfl rfl (fun z6 hz6 => ?_)
  have xz6 : z6.toInt = (((i + 3) : Nat) : Int) := hp_aa hxi rfl (by omega) hz6
  refine hp_sc (pc' := 1416) (j := (i + 3)) xz6 (by omega) rfl rfl ?_
  refine hp_cv (Q := kp_Q 283 284 288 (M1.1 244 1).toInt (X.2 (i + 1)) (X.2 (i + 2)) (X.2 (i + 3)) a1 M1) (pc' := 1419) (e := 44) (vs := [.int (X.2 (i + 1)), .int (X.2 (i + 2)), .int (X.2 (i + 3))]) (r := []) ha1 rfl rfl rfl rfl rfl rfl rfl rfl (mk_ok (d := 41) ha1 jM1) (fun o ho => ?_)
  obtain ⟨r2, M2, a2, eo, ha2, l2, l2b, jM2, fM2⟩ := ho
  subst eo
  refine ⟨_, rfl, ?_⟩
  show hp X 45 249 1419 [some (.ref 1000), some (.ref 0), some (.ref 244), some (.ref 290), some (.int xi), none, none, none] [.int r2] a2 M2 _
  refine hp_pop (pc' := 1420) rfl rfl rfl ?_
  refine hp_go (t := 1684) rfl rfl ?_
  refine hp_in (pc' := 1687) (j := 4) (ls' := [some (.ref 1000), some (.ref 0), some (.ref 244), some (.ref 290), some (.int (xi + Int32.ofInt (6))), none, none, none]) rfl rfl rfl rfl rfl ?_
  refine hp_go (t := 23) rfl rfl ?_
  exact KK M2 a2 ha2 (Nat.le_trans l2 l1) (Nat.le_trans l2b l1b) jM2 (kp_end hR hc fM1 fM2).2
theorem wk_row (hxi : xi.toInt = (i : Int)) (hi : i + 6 ≤ X.1) (hX : X.1 ≤ 3072) (ha : a.1 = rx_cells) (hJ : ax_J0 ax_sp ax_rf M) (hR : ri_R M) (hc : M.1 244 1 = M.1 1 4) (KK : ∀ (M2 : rx_M) (a2 : rx_K), a2.1 = rx_cells → a2.2.1 ≤ a.2.1 → a2.2.2 ≤ a.2.2 → ax_J0 ax_sp ax_rf M2 → ri_N M M2 → hp X 45 249 23 [some (.ref 1000), some (.ref 0), some (.ref 244), some (.ref 290), some (.int (xi + Int32.ofInt 6)), none, none, none] [] a2 M2 P) : hp X 45 249 1423 [some (.ref 1000), some (.ref 0), some (.ref 244), some (.ref 290), some (.int xi), none, none, none] [] a M P := by
  refine hp_al (pc' := 1424) (j := 1) (Or.inr ⟨1, rfl, rfl, rfl⟩) rfl ?_
  refine hp_al (pc' := 1425) (j := 0) (Or.inr ⟨0, rfl, rfl, rfl⟩) rfl ?_
  refine hp_il (pc' := 1427) (j := 4) (Or.inl ⟨rfl, rfl⟩) rfl ?_
  refine hp_ic (pc' := 1428) (x := 1) rfl rfl rfl ?_
  refine hp_add (pc' := 1429) rfl rfl (fun z1 hz1 => ?_)
  have xz1 : z1.toInt = (((i + 1) : Nat) : Int) := hp_aa hxi rfl (by omega) hz1
  refine hp_sc (pc' := 1430) (j := (i + 1)) xz1 (by omega) rfl rfl ?_
  refine hp_al (pc' := 1431) (j := 0) (Or.inr ⟨0, rfl, rfl, rfl⟩) rfl ?_
  refine hp_il (pc' := 1433) (j := 4) (Or.inl ⟨rfl, rfl⟩) rfl ?_
  refine hp_ic (pc' := 1434) (x := 2) rfl rfl rfl ?_
  refine hp_add (pc' := 1435) rfl rfl (fun z2 hz2 => ?_)
  have xz2 : z2.toInt = (((i + 2) : Nat) : Int) := hp_aa hxi rfl (by omega) hz2
  refine hp_sc (pc' := 1436) (j := (i + 2)) xz2 (by omega) rfl rfl ?_
  refine hp_al (pc' := 1437) (j := 0) (Or.inr ⟨0, rfl, rfl, rfl⟩) rfl ?_
  refine hp_il (pc' := 1439) (j := 4) (Or.inl ⟨rfl, rfl⟩) rfl ?_
  refine hp_ic (pc' := 1440) (x := 3) rfl rfl rfl ?_
  refine hp_add (pc' := 1441) rfl rfl (fun z3 hz3 => ?_)
  have xz3 : z3.toInt = (((i + 3) : Nat) : Int) := hp_aa hxi rfl (by omega) hz3
  refine hp_sc (pc' := 1442) (j := (i + 3)) xz3 (by omega) rfl rfl ?_
  refine hp_cx (q := 0) (Q := rw_Q 230 233 234 (fun D => 236 + D) (fun _ => 0) (X.2 (i + 1)) (X.2 (i + 2)) (X.2 (i + 3)) a M) (pc' := 1445) (e := 44) (vs := [.int (X.2 (i + 1)), .int (X.2 (i + 2)), .int (X.2 (i + 3))]) (r := []) ha rfl rfl rfl rfl rfl rfl rfl rfl (xr_ok (d := 42) ha hJ) (fun o ho => ?_)
  obtain ⟨r1, M1, eo, hr1, fM1⟩ := ho
  subst eo
  refine ⟨_, rfl, ?_⟩
  show hp X 45 249 1445 [some (.ref 1000), some (.ref 0), some (.ref 244), some (.ref 290), some (.int xi), none, none, none] [.int r1] a M1 _
  have jM1 := rw_Jx hJ fM1
  refine hp_pop (pc' := 1446) rfl rfl rfl ?_
  refine hp_al (pc' := 1447) (j := 2) (Or.inr ⟨2, rfl, rfl, rfl⟩) rfl ?_
  refine hp_al (pc' := 1448) (j := 0) (Or.inr ⟨0, rfl, rfl, rfl⟩) rfl ?_
  refine hp_il (pc' := 1450) (j := 4) (Or.inl ⟨rfl, rfl⟩) rfl ?_
  refine hp_ic (pc' := 1451) (x := 1) rfl rfl rfl ?_
  refine hp_add (pc' := 1452) rfl rfl (fun z4 hz4 => ?_)
  have xz4 : z4.toInt = (((i + 1) : Nat) : Int) := hp_aa hxi rfl (by omega) hz4
  refine hp_sc (pc' := 1453) (j := (i + 1)) xz4 (by omega) rfl rfl ?_
  refine hp_al (pc' := 1454) (j := 0) (Or.inr ⟨0, rfl, rfl, rfl⟩) rfl ?_
  refine hp_il (pc' := 1456) (j := 4) (Or.inl ⟨rfl, rfl⟩) rfl ?_
  refine hp_ic (pc' := 1457) (x := 2) rfl rfl rfl ?_
  refine hp_add (pc' := 1458) rfl rfl (fun z5 hz5 => ?_)
  have xz5 : z5.toInt = (((i + 2) : Nat) : Int) := hp_aa hxi rfl (by omega) hz5
  refine hp_sc (pc' := 1459) (j := (i + 2)) xz5 (by omega) rfl rfl ?_
  refine hp_al (pc' := 1460) (j := 0) (Or.inr ⟨0, rfl, rfl, rfl⟩) rfl ?_
  refine hp_il (pc' := 1462) (j := 4) (Or.inl ⟨rfl, rfl⟩) rfl ?_
  refine hp_ic (pc' := 1463) (x := 3) rfl rfl rfl ?_
  refine hp_add (pc' := 1464) rfl rfl (fun z6 hz6 => ?_)
  have xz6 : z6.toInt = (((i + 3) : Nat) : Int) := hp_aa hxi rfl (by omega) hz6
  refine hp_sc (pc' := 1465) (j := (i + 3)) xz6 (by omega) rfl rfl ?_
  refine hp_cv (Q := rw_Q 283 285 286 (fun _ => 287) (fun D => 80 * D) (X.2 (i + 1)) (X.2 (i + 2)) (X.2 (i + 3)) a M1) (pc' := 1468) (e := 44) (vs := [.int (X.2 (i + 1)), .int (X.2 (i + 2)), .int (X.2 (i + 3))]) (r := []) ha rfl rfl rfl rfl rfl rfl rfl rfl (mr_ok (d := 42) ha jM1) (fun o ho => ?_)
  obtain ⟨r2, M2, eo, hr2, fM2⟩ := ho
  subst eo
  refine ⟨_, rfl, ?_⟩
  show hp X 45 249 1468 [some (.ref 1000), some (.ref 0), some (.ref 244), some (.ref 290), some (.int xi), none, none, none] [.int r2] a M2 _
  have jM2 := rw_Jm jM1 fM2
  refine hp_pop (pc' := 1469) rfl rfl rfl ?_
  refine hp_go (t := 1684) rfl rfl ?_
  refine hp_in (pc' := 1687) (j := 4) (ls' := [some (.ref 1000), some (.ref 0), some (.ref 244), some (.ref 290), some (.int (xi + Int32.ofInt (6))), none, none, none]) rfl rfl rfl rfl rfl ?_
  refine hp_go (t := 23) rfl rfl ?_
  exact KK M2 a ha (Nat.le_refl _) (Nat.le_refl _) jM2 (rw_end hR hc fM1 fM2)
theorem wk_put (hxi : xi.toInt = (i : Int)) (hi : i + 6 ≤ X.1) (hX : X.1 ≤ 3072) (ha : a.1 = rx_cells) (hJ : ax_J0 ax_sp ax_rf M) (hR : ri_R M) (hc : M.1 244 1 = M.1 1 4) (KK : ∀ (M2 : rx_M) (a2 : rx_K), a2.1 = rx_cells → a2.2.1 ≤ a.2.1 → a2.2.2 ≤ a.2.2 → ax_J0 ax_sp ax_rf M2 → ri_N M M2 → hp X 45 249 23 [some (.ref 1000), some (.ref 0), some (.ref 244), some (.ref 290), some (.int (xi + Int32.ofInt 6)), none, none, none] [] a2 M2 P) : hp X 45 249 1472 [some (.ref 1000), some (.ref 0), some (.ref 244), some (.ref 290), some (.int xi), none, none, none] [] a M P := by
  refine hp_al (pc' := 1473) (j := 1) (Or.inr ⟨1, rfl, rfl, rfl⟩) rfl ?_
  refine hp_al (pc' := 1474) (j := 0) (Or.inr ⟨0, rfl, rfl, rfl⟩) rfl ?_
  refine hp_il (pc' := 1476) (j := 4) (Or.inl ⟨rfl, rfl⟩) rfl ?_
  refine hp_ic (pc' := 1477) (x := 1) rfl rfl rfl ?_
  refine hp_add (pc' := 1478) rfl rfl (fun z1 hz1 => ?_)
  have xz1 : z1.toInt = (((i + 1) : Nat) : Int) := hp_aa hxi rfl (by omega) hz1
  refine hp_sc (pc' := 1479) (j := (i + 1)) xz1 (by omega) rfl rfl ?_
  refine hp_al (pc' := 1480) (j := 0) (Or.inr ⟨0, rfl, rfl, rfl⟩) rfl ?_
  refine hp_il (pc' := 1482) (j := 4) (Or.inl ⟨rfl, rfl⟩) rfl ?_
  refine hp_ic (pc' := 1483) (x := 2) rfl rfl rfl ?_
  refine hp_add (pc' := 1484) rfl rfl (fun z2 hz2 => ?_)
  have xz2 : z2.toInt = (((i + 2) : Nat) : Int) := hp_aa hxi rfl (by omega) hz2
  refine hp_sc (pc' := 1485) (j := (i + 2)) xz2 (by omega) rfl rfl ?_
  refine hp_al (pc' := 1486) (j := 0) (Or.inr ⟨0, rfl, rfl, rfl⟩) rfl ?_
  refine hp_il (pc' := 1488) (j := 4) (Or.inl ⟨rfl, rfl⟩) rfl ?_
  refine hp_ic (pc' := 1489) (x := 3) rfl rfl rfl ?_
  refine hp_add (pc' := 1490) rfl rfl (fun z3 hz3 => ?_)
  have xz3 : z3.toInt = (((i + 3) : Nat) : Int) := hp_aa hxi rfl (by omega) hz3
  refine hp_sc (pc' := 1491) (j := (i + 3)) xz3 (by omega) rfl rfl ?_
  refine hp_cx (q := 0) (Q := pt_Q 230 233 234 (fun D I => pt_F (236 + D) I) (X.2 (i + 1)) (X.2 (i + 2)) (X.2 (i + 3)) a M) (pc' := 1494) (e := 44) (vs := [.int (X.2 (i + 1)), .int (X.2 (i + 2)), .int (X.2 (i + 3))]) (r := []) ha rfl rfl rfl rfl rfl rfl rfl rfl (xp_ok (d := 41) ha hJ) (fun o ho => ?_)
  obtain ⟨r1, M1, eo, gM1, vM1, fM1⟩ := ho
  subst eo
  refine ⟨_, rfl, ?_⟩
  show hp X 45 249 1494 [some (.ref 1000), some (.ref 0), some (.ref 244), some (.ref 290), some (.int xi), none, none, none] [.int r1] a M1 _
  have cM1 := pt_J1 (x3 := (X.2 (i + 3))) hJ gM1 fM1
  have jM1 := cp_J hJ cM1
  refine hp_pop (pc' := 1495) rfl rfl rfl ?_
  refine hp_al (pc' := 1496) (j := 2) (Or.inr ⟨2, rfl, rfl, rfl⟩) rfl ?_
  refine hp_al (pc' := 1497) (j := 0) (Or.inr ⟨0, rfl, rfl, rfl⟩) rfl ?_
  refine hp_il (pc' := 1499) (j := 4) (Or.inl ⟨rfl, rfl⟩) rfl ?_
  refine hp_ic (pc' := 1500) (x := 1) rfl rfl rfl ?_
  refine hp_add (pc' := 1501) rfl rfl (fun z4 hz4 => ?_)
  have xz4 : z4.toInt = (((i + 1) : Nat) : Int) := hp_aa hxi rfl (by omega) hz4
  refine hp_sc (pc' := 1502) (j := (i + 1)) xz4 (by omega) rfl rfl ?_
  refine hp_al (pc' := 1503) (j := 0) (Or.inr ⟨0, rfl, rfl, rfl⟩) rfl ?_
  refine hp_il (pc' := 1505) (j := 4) (Or.inl ⟨rfl, rfl⟩) rfl ?_
  refine hp_ic (pc' := 1506) (x := 2) rfl rfl rfl ?_
  refine hp_add (pc' := 1507) rfl rfl (fun z5 hz5 => ?_)
  have xz5 : z5.toInt = (((i + 2) : Nat) : Int) := hp_aa hxi rfl (by omega) hz5
  refine hp_sc (pc' := 1508) (j := (i + 2)) xz5 (by omega) rfl rfl ?_
  refine hp_al (pc' := 1509) (j := 0) (Or.inr ⟨0, rfl, rfl, rfl⟩) rfl ?_
  refine hp_il (pc' := 1511) (j := 4) (Or.inl ⟨rfl, rfl⟩) rfl ?_
  refine hp_ic (pc' := 1512) (x := 3) rfl rfl rfl ?_
  refine hp_add (pc' := 1513) rfl rfl (fun z6 hz6 => ?_)
  have xz6 : z6.toInt = (((i + 3) : Nat) : Int) := hp_aa hxi rfl (by omega) hz6
  refine hp_sc (pc' := 1514) (j := (i + 3)) xz6 (by omega) rfl rfl ?_
  refine hp_cv (Q := pt_Q 283 285 286 (fun D I => pt_F 287 (80 * D + I)) (X.2 (i + 1)) (X.2 (i + 2)) (X.2 (i + 3)) a M1) (pc' := 1517) (e := 44) (vs := [.int (X.2 (i + 1)), .int (X.2 (i + 2)), .int (X.2 (i + 3))]) (r := []) ha rfl rfl rfl rfl rfl rfl rfl rfl (mp_ok (d := 42) ha jM1) (fun o ho => ?_)
  obtain ⟨r2, M2, eo, gM2, vM2, fM2⟩ := ho
  subst eo
  refine ⟨_, rfl, ?_⟩
  show hp X 45 249 1517 [some (.ref 1000), some (.ref 0), some (.ref 244), some (.ref 290), some (.int xi), none, none, none] [.int r2] a M2 _
  have cM2 := pt_J2 (x3 := (X.2 (i + 3))) jM1 gM2 fM2
  have jM2 := cp_J jM1 cM2
  refine hp_pop (pc' := 1518) rfl rfl rfl ?_
  refine hp_go (t := 1684) rfl rfl ?_
  refine hp_in (pc' := 1687) (j := 4) (ls' := [some (.ref 1000), some (.ref 0), some (.ref 244), some (.ref 290), some (.int (xi + Int32.ofInt (6))), none, none, none]) rfl rfl rfl rfl rfl ?_
  refine hp_go (t := 23) rfl rfl ?_
  exact KK M2 a ha (Nat.le_refl _) (Nat.le_refl _) jM2 (pt_end hR hJ hc cM1 fM1 fM2)
theorem wk_copy (hxi : xi.toInt = (i : Int)) (hi : i + 6 ≤ X.1) (hX : X.1 ≤ 3072) (ha : a.1 = rx_cells) (hJ : ax_J0 ax_sp ax_rf M) (hR : ri_R M) (hc : M.1 244 1 = M.1 1 4) (KK : ∀ (M2 : rx_M) (a2 : rx_K), a2.1 = rx_cells → a2.2.1 ≤ a.2.1 → a2.2.2 ≤ a.2.2 → ax_J0 ax_sp ax_rf M2 → ri_N M M2 → hp X 45 249 23 [some (.ref 1000), some (.ref 0), some (.ref 244), some (.ref 290), some (.int (xi + Int32.ofInt 6)), none, none, none] [] a2 M2 P) : hp X 45 249 1561 [some (.ref 1000), some (.ref 0), some (.ref 244), some (.ref 290), some (.int xi), none, none, none] [] a M P := by
  refine hp_al (pc' := 1562) (j := 1) (Or.inr ⟨1, rfl, rfl, rfl⟩) rfl ?_
  refine hp_al (pc' := 1563) (j := 0) (Or.inr ⟨0, rfl, rfl, rfl⟩) rfl ?_
  refine hp_il (pc' := 1565) (j := 4) (Or.inl ⟨rfl, rfl⟩) rfl ?_
  refine hp_ic (pc' := 1566) (x := 1) rfl rfl rfl ?_
  refine hp_add (pc' := 1567) rfl rfl (fun z1 hz1 => ?_)
  have xz1 : z1.toInt = (((i + 1) : Nat) : Int) := hp_aa hxi rfl (by omega) hz1
  refine hp_sc (pc' := 1568) (j := (i + 1)) xz1 (by omega) rfl rfl ?_
  refine hp_al (pc' := 1569) (j := 0) (Or.inr ⟨0, rfl, rfl, rfl⟩) rfl ?_
  refine hp_il (pc' := 1571) (j := 4) (Or.inl ⟨rfl, rfl⟩) rfl ?_
  refine hp_ic (pc' := 1572) (x := 2) rfl rfl rfl ?_
  refine hp_add (pc' := 1573) rfl rfl (fun z2 hz2 => ?_)
  have xz2 : z2.toInt = (((i + 2) : Nat) : Int) := hp_aa hxi rfl (by omega) hz2
  refine hp_sc (pc' := 1574) (j := (i + 2)) xz2 (by omega) rfl rfl ?_
  refine hp_al (pc' := 1575) (j := 0) (Or.inr ⟨0, rfl, rfl, rfl⟩) rfl ?_
  refine hp_il (pc' := 1577) (j := 4) (Or.inl ⟨rfl, rfl⟩) rfl ?_
  refine hp_ic (pc' := 1578) (x := 3) rfl rfl rfl ?_
  refine hp_add (pc' := 1579) rfl rfl (fun z3 hz3 => ?_)
  have xz3 : z3.toInt = (((i + 3) : Nat) : Int) := hp_aa hxi rfl (by omega) hz3
  refine hp_sc (pc' := 1580) (j := (i + 3)) xz3 (by omega) rfl rfl ?_
  refine hp_al (pc' := 1581) (j := 0) (Or.inr ⟨0, rfl, rfl, rfl⟩) rfl ?_
  refine hp_il (pc' := 1583) (j := 4) (Or.inl ⟨rfl, rfl⟩) rfl ?_
  refine hp_ic (pc' := 1584) (x := 4) rfl rfl rfl ?_
  refine hp_add (pc' := 1585) rfl rfl (fun z4 hz4 => ?_)
  have xz4 : z4.toInt = (((i + 4) : Nat) : Int) := hp_aa hxi rfl (by omega) hz4
  refine hp_sc (pc' := 1586) (j := (i + 4)) xz4 (by omega) rfl rfl ?_
  refine hp_al (pc' := 1587) (j := 0) (Or.inr ⟨0, rfl, rfl, rfl⟩) rfl ?_
  refine hp_il (pc' := 1589) (j := 4) (Or.inl ⟨rfl, rfl⟩) rfl ?_
  refine hp_ic (pc' := 1590) (x := 5) rfl rfl rfl ?_
  refine hp_add (pc' := 1591) rfl rfl (fun z5 hz5 => ?_)
  have xz5 : z5.toInt = (((i + 5) : Nat) : Int) := hp_aa hxi rfl (by omega) hz5
  refine hp_sc (pc' := 1592) (j := (i + 5)) xz5 (by omega) rfl rfl ?_
  refine hp_cx (q := 0) (Q := cq_Q cq_Xx 230 233 234 (X.2 (i + 1)) (X.2 (i + 2)) (X.2 (i + 3)) (X.2 (i + 4)) (X.2 (i + 5)) a M) (pc' := 1595) (e := 44) (vs := [.int (X.2 (i + 1)), .int (X.2 (i + 2)), .int (X.2 (i + 3)), .int (X.2 (i + 4)), .int (X.2 (i + 5))]) (r := []) ha rfl rfl rfl rfl rfl rfl rfl rfl (xcq_ok (d := 42) ha hJ) (fun o ho => ?_)
  obtain ⟨r1, M1, eo, cM1, vM1, fM1⟩ := ho
  subst eo
  refine ⟨_, rfl, ?_⟩
  show hp X 45 249 1595 [some (.ref 1000), some (.ref 0), some (.ref 244), some (.ref 290), some (.int xi), none, none, none] [.int r1] a M1 _
  have jM1 := cp_J hJ cM1
  refine hp_pop (pc' := 1596) rfl rfl rfl ?_
  refine hp_al (pc' := 1597) (j := 2) (Or.inr ⟨2, rfl, rfl, rfl⟩) rfl ?_
  refine hp_al (pc' := 1598) (j := 0) (Or.inr ⟨0, rfl, rfl, rfl⟩) rfl ?_
  refine hp_il (pc' := 1600) (j := 4) (Or.inl ⟨rfl, rfl⟩) rfl ?_
  refine hp_ic (pc' := 1601) (x := 1) rfl rfl rfl ?_
  refine hp_add (pc' := 1602) rfl rfl (fun z6 hz6 => ?_)
  have xz6 : z6.toInt = (((i + 1) : Nat) : Int) := hp_aa hxi rfl (by omega) hz6
  refine hp_sc (pc' := 1603) (j := (i + 1)) xz6 (by omega) rfl rfl ?_
  refine hp_al (pc' := 1604) (j := 0) (Or.inr ⟨0, rfl, rfl, rfl⟩) rfl ?_
  refine hp_il (pc' := 1606) (j := 4) (Or.inl ⟨rfl, rfl⟩) rfl ?_
  refine hp_ic (pc' := 1607) (x := 2) rfl rfl rfl ?_
  refine hp_add (pc' := 1608) rfl rfl (fun z7 hz7 => ?_)
  have xz7 : z7.toInt = (((i + 2) : Nat) : Int) := hp_aa hxi rfl (by omega) hz7
  refine hp_sc (pc' := 1609) (j := (i + 2)) xz7 (by omega) rfl rfl ?_
  refine hp_al (pc' := 1610) (j := 0) (Or.inr ⟨0, rfl, rfl, rfl⟩) rfl ?_
  refine hp_il (pc' := 1612) (j := 4) (Or.inl ⟨rfl, rfl⟩) rfl ?_
  refine hp_ic (pc' := 1613) (x := 3) rfl rfl rfl ?_
  refine hp_add (pc' := 1614) rfl rfl (fun z8 hz8 => ?_)
  have xz8 : z8.toInt = (((i + 3) : Nat) : Int) := hp_aa hxi rfl (by omega) hz8
  refine hp_sc (pc' := 1615) (j := (i + 3)) xz8 (by omega) rfl rfl ?_
  refine hp_al (pc' := 1616) (j := 0) (Or.inr ⟨0, rfl, rfl, rfl⟩) rfl ?_
  refine hp_il (pc' := 1618) (j := 4) (Or.inl ⟨rfl, rfl⟩) rfl ?_
  refine hp_ic (pc' := 1619) (x := 4) rfl rfl rfl ?_
  refine hp_add (pc' := 1620) rfl rfl (fun z9 hz9 => ?_)
  have xz9 : z9.toInt = (((i + 4) : Nat) : Int) := hp_aa hxi rfl (by omega) hz9
  refine hp_sc (pc' := 1621) (j := (i + 4)) xz9 (by omega) rfl rfl ?_
  refine hp_al (pc' := 1622) (j := 0) (Or.inr ⟨0, rfl, rfl, rfl⟩) rfl ?_
  refine hp_il (pc' := 1624) (j := 4) (Or.inl ⟨rfl, rfl⟩) rfl ?_
  refine hp_ic (pc' := 1625) (x := 5) rfl rfl rfl ?_
  refine hp_add (pc' := 1626) rfl rfl (fun z10 hz10 => ?_)
  have xz10 : z10.toInt = (((i + 5) : Nat) : Int) := hp_aa hxi rfl (by omega) hz10
  refine hp_sc (pc' := 1627) (j := (i + 5)) xz10 (by omega) rfl rfl ?_
  refine hp_cv (Q := cq_Q cq_Xm 283 285 286 (X.2 (i + 1)) (X.2 (i + 2)) (X.2 (i + 3)) (X.2 (i + 4)) (X.2 (i + 5)) a M1) (pc' := 1630) (e := 44) (vs := [.int (X.2 (i + 1)), .int (X.2 (i + 2)), .int (X.2 (i + 3)), .int (X.2 (i + 4)), .int (X.2 (i + 5))]) (r := []) ha rfl rfl rfl rfl rfl rfl rfl rfl (mcq_ok (d := 42) ha jM1) (fun o ho => ?_)
  obtain ⟨r2, M2, eo, cM2, vM2, fM2⟩ := ho
  subst eo
  refine ⟨_, rfl, ?_⟩
  show hp X 45 249 1630 [some (.ref 1000), some (.ref 0), some (.ref 244), some (.ref 290), some (.int xi), none, none, none] [.int r2] a M2 _
  have jM2 := cp_J jM1 cM2
  refine hp_pop (pc' := 1631) rfl rfl rfl ?_
  refine hp_go (t := 1684) rfl rfl ?_
  refine hp_in (pc' := 1687) (j := 4) (ls' := [some (.ref 1000), some (.ref 0), some (.ref 244), some (.ref 290), some (.int (xi + Int32.ofInt (6))), none, none, none]) rfl rfl rfl rfl rfl ?_
  refine hp_go (t := 23) rfl rfl ?_
  exact KK M2 a ha (Nat.le_refl _) (Nat.le_refl _) jM2 (cq_end hR hc cM1 vM1 fM1 vM2 fM2).2
theorem wk_fault (hxi : xi.toInt = (i : Int)) (hi : i + 6 ≤ X.1) (hX : X.1 ≤ 3072) (ha : a.1 = rx_cells) (hJ : ax_J0 ax_sp ax_rf M) (hR : ri_R M) (hc : M.1 244 1 = M.1 1 4) (KK : ∀ (M2 : rx_M) (a2 : rx_K), a2.1 = rx_cells → a2.2.1 ≤ a.2.1 → a2.2.2 ≤ a.2.2 → ax_J0 ax_sp ax_rf M2 → ri_N M M2 → hp X 45 249 23 [some (.ref 1000), some (.ref 0), some (.ref 244), some (.ref 290), some (.int (xi + Int32.ofInt 6)), none, none, none] [] a2 M2 P) : hp X 45 249 417 [some (.ref 1000), some (.ref 0), some (.ref 244), some (.ref 290), some (.int xi), none, none, none] [] a M P := by
  refine hp_al (pc' := 418) (j := 1) (Or.inr ⟨1, rfl, rfl, rfl⟩) rfl ?_
  refine hp_al (pc' := 419) (j := 0) (Or.inr ⟨0, rfl, rfl, rfl⟩) rfl ?_
  refine hp_il (pc' := 421) (j := 4) (Or.inl ⟨rfl, rfl⟩) rfl ?_
  refine hp_ic (pc' := 422) (x := 1) rfl rfl rfl ?_
  refine hp_add (pc' := 423) rfl rfl (fun z1 hz1 => ?_)
  have xz1 : z1.toInt = (((i + 1) : Nat) : Int) := hp_aa hxi rfl (by omega) hz1
  refine hp_sc (pc' := 424) (j := (i + 1)) xz1 (by omega) rfl rfl ?_
  refine hp_cx (q := 0) (Q := xf_Q (X.2 (i + 1)) a M) (pc' := 427) (e := 44) (vs := [.int (X.2 (i + 1))]) (r := []) ha rfl rfl rfl rfl rfl rfl rfl rfl (xf2_ok (d := 4) ha hJ) (fun o ho => ?_)
  obtain ⟨r1, M1, eo, fM1⟩ := ho
  subst eo
  refine ⟨_, rfl, ?_⟩
  show hp X 45 249 427 [some (.ref 1000), some (.ref 0), some (.ref 244), some (.ref 290), some (.int xi), none, none, none] [.int r1] a M1 _
  have jM1 : ax_J0 ax_sp ax_rf M1 := by
    rcases fM1 with ⟨-, -, e⟩ | ⟨-, -, f⟩
    · rw [e]
      exact hJ
    · exact pf_J hJ f
  refine hp_al (pc' := 428) (j := 2) (Or.inr ⟨2, rfl, rfl, rfl⟩) rfl ?_
  refine hp_al (pc' := 429) (j := 0) (Or.inr ⟨0, rfl, rfl, rfl⟩) rfl ?_
  refine hp_il (pc' := 431) (j := 4) (Or.inl ⟨rfl, rfl⟩) rfl ?_
  refine hp_ic (pc' := 432) (x := 1) rfl rfl rfl ?_
  refine hp_add (pc' := 433) rfl rfl (fun z2 hz2 => ?_)
  have xz2 : z2.toInt = (((i + 1) : Nat) : Int) := hp_aa hxi rfl (by omega) hz2
  refine hp_sc (pc' := 434) (j := (i + 1)) xz2 (by omega) rfl rfl ?_
  refine hp_cv (Q := mf_Q (X.2 (i + 1)) a M1) (pc' := 437) (e := 44) (vs := [.int (X.2 (i + 1))]) (r := [.int r1]) ha rfl rfl rfl rfl rfl rfl rfl rfl (mfl_ok (d := 40) ha jM1) (fun o ho => ?_)
  obtain ⟨r2, M2, eo, fM2⟩ := ho
  subst eo
  refine ⟨_, rfl, ?_⟩
  show hp X 45 249 437 [some (.ref 1000), some (.ref 0), some (.ref 244), some (.ref 290), some (.int xi), none, none, none] [.int r2, .int r1] a M2 _
  have jM2 : ax_J0 ax_sp ax_rf M2 := by
    rcases fM2 with ⟨-, -, e⟩ | ⟨-, -, f⟩
    · rw [e]
      exact jM1
    · exact f.1
  refine hp_ieq (t := 1684) (pc' := 440) rfl rfl rfl (fun c3 => ?_) (fun c3 => ?_)
  · refine hp_in (pc' := 1687) (j := 4) (ls' := [some (.ref 1000), some (.ref 0), some (.ref 244), some (.ref 290), some (.int (xi + Int32.ofInt (6))), none, none, none]) rfl rfl rfl rfl rfl ?_
    refine hp_go (t := 23) rfl rfl ?_
    exact KK M2 a ha (Nat.le_refl _) (Nat.le_refl _) jM2 (fl_end hR hJ hc fM1 fM2).2
  · exact absurd (fl_end hR hJ hc fM1 fM2).1 c3
end WK
theorem wk_HB {X : Nat × (Nat → Int32)} (hX : X.1 ≤ 3072) {T : Nat × Nat} (pc : Nat) (hpc : [1374, 1423, 1472, 1561, 417].any (Nat.beq pc) = true) (v2 : ax_V) (M : rx_M) (a : rx_K) (l : List (Option Value)) (h1 : ax_ok v2 ax_c_law.2.1) (h2 : ax_kn v2 ax_c_law.2.2.1 M) (hJ : ax_J0 ax_sp ax_rf M) (hR : ri_R M) (hl : ax_lle (ax_ls v2 ax_c_law.2.2.2.1) l) (h0 : (v2 0).1.toInt = (X.1 : Int)) (hi : 0 ≤ (v2 1).1.toInt) (hi6 : (v2 1).1.toInt + 6 ≤ (X.1 : Int)) (ha : a.1 = rx_cells) (KK : ∀ (v3 : ax_V) (M3 : rx_M) (a3 : rx_K) (l3 : List (Option Value)), ax_ok v3 ax_c_law.2.1 → ax_kn v3 ax_c_law.2.2.1 M3 → ax_J0 ax_sp ax_rf M3 → ri_R M3 → ax_lle (ax_ls v3 ax_c_law.2.2.2.1) l3 → (v3 0).1.toInt = (X.1 : Int) → (v3 1).1.toInt = (v2 1).1.toInt + 6 → a3.1 = rx_cells → a3.2.1 ≤ a.2.1 → a3.2.2 ≤ a.2.2 → ∀ v9 : ax_V, ax_C X (ax_PL T) v9 45 [] 249 (23, l3, [], a3, M3)) (v9 : ax_V) : ax_C X (ax_PL T) v9 45 [] 249 (pc, l, [], a, M) := by
  have hc : M.1 244 1 = M.1 1 4 := by
    have key : ∀ e ∈ ([(14, .int 16, .retAddr 4), (14, .int 12, .retAddr 3), (244, .int 1, .retAddr 2), (1, .int 4, .retAddr 2)] : ax_K), ax_k1 v2 M e := h2
    have m1 : M.1 244 1 = (v2 2).1 := ax_k1_i (key (244, .int 1, .retAddr 2) (by simp)) rfl
    have m2 : M.1 1 4 = (v2 2).1 := ax_k1_i (key (1, .int 4, .retAddr 2) (by simp)) rfl
    exact m1.trans m2.symm
  have KK2 : ∀ (M2 : rx_M) (a2 : rx_K), a2.1 = rx_cells → a2.2.1 ≤ a.2.1 → a2.2.2 ≤ a.2.2 → ax_J0 ax_sp ax_rf M2 → ri_N M M2 → hp X 45 249 23 [some (.ref 1000), some (.ref 0), some (.ref 244), some (.ref 290), some (.int ((v2 1).1 + Int32.ofInt 6)), none, none, none] [] a2 M2 (ax_KT X (ax_PL T) v9 [] 45) := fun M2 a2 u1 u2 u3 u4 u5 => by
    obtain ⟨k1, k2, k3⟩ := wk_next h1 h2 u4 hi (by omega) u5.2.1 u5.2.2.1 u5.2.2.2
    exact KK (wk_v v2 M2) M2 a2 _ k1 k2 u4 u5.1 (ax_lle_rf _) (by show (v2 0).1.toInt = _; exact h0) k3 u1 u2 u3 v9
  have r : hp X 45 249 pc (ax_ls v2 ax_c_law.2.2.2.1) [] a M (ax_KT X (ax_PL T) v9 [] 45) := by
    have e : pc = 1374 ∨ pc = 1423 ∨ pc = 1472 ∨ pc = 1561 ∨ pc = 417 := by
      have k : (Nat.beq pc 1374 || (Nat.beq pc 1423 || (Nat.beq pc 1472 || (Nat.beq pc 1561 || (Nat.beq pc 417 || false))))) = true := hpc
      rw [Bool.or_false, Bool.or_eq_true, Bool.or_eq_true, Bool.or_eq_true, Bool.or_eq_true] at k
      rcases k with k | k | k | k | k
      · exact Or.inl (Nat.eq_of_beq_eq_true k)
      · exact Or.inr (Or.inl (Nat.eq_of_beq_eq_true k))
      · exact Or.inr (Or.inr (Or.inl (Nat.eq_of_beq_eq_true k)))
      · exact Or.inr (Or.inr (Or.inr (Or.inl (Nat.eq_of_beq_eq_true k))))
      · exact Or.inr (Or.inr (Or.inr (Or.inr (Nat.eq_of_beq_eq_true k))))
    rcases e with e | e | e | e | e
    · subst e
      exact wk_keep (X := X) (xi := (v2 1).1) (i := (v2 1).1.toInt.toNat) (by omega) (by omega) hX ha hJ hR hc KK2
    · subst e
      exact wk_row (X := X) (xi := (v2 1).1) (i := (v2 1).1.toInt.toNat) (by omega) (by omega) hX ha hJ hR hc KK2
    · subst e
      exact wk_put (X := X) (xi := (v2 1).1) (i := (v2 1).1.toInt.toNat) (by omega) (by omega) hX ha hJ hR hc KK2
    · subst e
      exact wk_copy (X := X) (xi := (v2 1).1) (i := (v2 1).1.toInt.toNat) (by omega) (by omega) hX ha hJ hR hc KK2
    · subst e
      exact wk_fault (X := X) (xi := (v2 1).1) (i := (v2 1).1.toInt.toNat) (by omega) (by omega) hX ha hJ hR hc KK2
  obtain ⟨f, o, q1, q2⟩ := r
  exact ⟨f, o, ax_go_mono _ _ _ _ _ _ _ _ _ _ q1 hl, q2⟩
