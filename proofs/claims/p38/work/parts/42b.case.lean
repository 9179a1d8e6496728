/-! the law's cases of folk, keep, row and weight, by hand -/
/-- what both sides hold alike: the folk, what is kept -/
noncomputable def ri_R (M : rx_M) : Prop := (∀ n, n < 12 → M.1 2 n = M.1 245 n ∧ M.1 3 n = M.1 246 n ∧ M.1 4 n = M.1 247 n) ∧ ∀ D, D < 8 → (M.1 230 D).toInt = (M.1 283 D).toInt ∧ ((M.1 230 D).toInt = 1 → M.1 231 D = M.1 284 D)
/-- what the law's head needs of a case -/
noncomputable def ri_N (M M2 : rx_M) : Prop := ri_R M2 ∧ M2.1 14 16 = M.1 14 16 ∧ M2.1 14 12 = M.1 14 12 ∧ M2.1 244 1 = M2.1 1 4
theorem ri_hR {w : ax_D} (h : ∀ q j, (q = 2 ∨ q = 3 ∨ q = 4 ∨ q = 245 ∨ q = 246 ∨ q = 247 ∨ q = 230 ∨ q = 231 ∨ q = 283 ∨ q = 284) → ¬ ax_wd w q j) (M M' : rx_M) (e : ∀ q j, ¬ ax_wd w q j → M'.1 q j = M.1 q j) (hR : ri_R M) : ri_R M' := by
  have e : ∀ q j, (q = 2 ∨ q = 3 ∨ q = 4 ∨ q = 245 ∨ q = 246 ∨ q = 247 ∨ q = 230 ∨ q = 231 ∨ q = 283 ∨ q = 284) → M'.1 q j = M.1 q j := fun q j hq => e q j (h q j hq)
  refine ⟨fun n hn => ?_, fun D hD => ?_⟩
  · rw [e 2 n (by omega), e 3 n (by omega), e 4 n (by omega), e 245 n (by omega), e 246 n (by omega), e 247 n (by omega)]
    exact hR.1 n hn
  · rw [e 230 D (by omega), e 231 D (by omega), e 283 D (by omega), e 284 D (by omega)]
    exact hR.2 D hD
theorem fk_J1 {k p s c w fl n : Nat} {x1 x2 x3 : Int32} {M M1 : rx_M} {G : Prop} (hJ : ax_J0 ax_sp ax_rf M) (h : (¬ G ∧ M1 = M) ∨ (G ∧ fk_F k p s c w fl n x1 x2 x3 M M1)) : ax_J0 ax_sp ax_rf M1 := by
  rcases h with ⟨-, e⟩ | ⟨-, e⟩
  · rw [e]
    exact hJ
  · exact e.2.2.2.2.2.1
theorem fk_m {n : Nat} {x1 x2 x3 : Int32} {M M1 : rx_M} {G : Prop} (h : (¬ G ∧ M1 = M) ∨ (G ∧ fk_F 2 3 4 1 5 4 n x1 x2 x3 M M1)) : M1.1 244 1 = M.1 244 1 := by
  rcases h with ⟨-, e⟩ | ⟨-, e⟩
  · rw [e]
  · exact e.2.2.2.2.2.2 244 1 (by omega) (by omega)
theorem fk_end {n : Nat} {x1 x2 x3 : Int32} {M M1 M2 : rx_M} {G : Prop} (hR : ri_R M) (hc : M.1 244 1 = M.1 1 4) (hn : (M.1 1 4).toInt = (n : Int)) (h1 : (¬ G ∧ M1 = M) ∨ (G ∧ fk_F 2 3 4 1 5 4 n x1 x2 x3 M M1)) (h2 : (¬ G ∧ M2 = M1) ∨ (G ∧ fk_F 245 246 247 244 245 1 n x1 x2 x3 M1 M2)) : ri_N M M2 := by
  rcases h1 with ⟨n1, e1⟩ | ⟨o1, f0, f1, f2, f3, f4, f5, f6⟩
  · rcases h2 with ⟨n2, e2⟩ | ⟨o2, -⟩
    · subst e1
      subst e2
      exact ⟨hR, rfl, rfl, hc⟩
    · exact absurd o2 n1
  · rcases h2 with ⟨n2, -⟩ | ⟨o2, g0, g1, g2, g3, g4, g5, g6⟩
    · exact absurd o1 n2
    · have e : ∀ q j, ¬ (j = n ∧ (q = 2 ∨ q = 3 ∨ q = 4 ∨ q = 5 ∨ q = 245 ∨ q = 246 ∨ q = 247)) → ¬ (q = 1 ∧ j = 4) → ¬ (q = 244 ∧ j = 1) → M2.1 q j = M.1 q j := fun q j z1 z2 z3 => (g6 q j (by omega) (by omega)).trans (f6 q j (by omega) (by omega))
      refine ⟨⟨fun k hk => ?_, fun D hD => ?_⟩, e 14 16 (by omega) (by omega) (by omega), e 14 12 (by omega) (by omega) (by omega), ?_⟩
      · by_cases c : k = n
        · rw [c, g6 2 n (by omega) (by omega), g6 3 n (by omega) (by omega), g6 4 n (by omega) (by omega), f1, f2, f3, g1, g2, g3]
          exact ⟨rfl, rfl, rfl⟩
        · rw [e 2 k (by omega) (by omega) (by omega), e 3 k (by omega) (by omega) (by omega), e 4 k (by omega) (by omega) (by omega), e 245 k (by omega) (by omega) (by omega), e 246 k (by omega) (by omega) (by omega), e 247 k (by omega) (by omega) (by omega)]
          exact hR.1 k hk
      · rw [e 230 D (by omega) (by omega) (by omega), e 231 D (by omega) (by omega) (by omega), e 283 D (by omega) (by omega) (by omega), e 284 D (by omega) (by omega) (by omega)]
        exact hR.2 D hD
      · refine Int32.toInt_inj.mp ?_
        rw [g4, g6 1 4 (by omega) (by omega), f4]
theorem kp_m {x1 x2 x3 r : Int32} {M M1 : rx_M} {G : Prop} (h : (¬ G ∧ r.toInt = -1 ∧ M1.1 = M.1) ∨ (G ∧ r.toInt = 0 ∧ kp_F 230 231 232 x1.toInt.toNat x2 x3 M M1)) : M1.1 244 1 = M.1 244 1 := by
  rcases h with ⟨-, -, e⟩ | ⟨-, -, e⟩
  · rw [e]
  · exact e.2.2 244 1 (by omega)
theorem kp_end {x1 x2 x3 r1 r2 : Int32} {M M1 M2 : rx_M} (hR : ri_R M) (hc : M.1 244 1 = M.1 1 4) (h1 : (¬ kp_ok x1.toInt x2.toInt x3.toInt (M.1 1 4).toInt ∧ r1.toInt = -1 ∧ M1.1 = M.1) ∨ (kp_ok x1.toInt x2.toInt x3.toInt (M.1 1 4).toInt ∧ r1.toInt = 0 ∧ kp_F 230 231 232 x1.toInt.toNat x2 x3 M M1)) (h2 : (¬ kp_ok x1.toInt x2.toInt x3.toInt (M1.1 244 1).toInt ∧ r2.toInt = -1 ∧ M2.1 = M1.1) ∨ (kp_ok x1.toInt x2.toInt x3.toInt (M1.1 244 1).toInt ∧ r2.toInt = 0 ∧ kp_F 283 284 288 x1.toInt.toNat x2 x3 M1 M2)) : r1.toInt = r2.toInt ∧ ri_N M M2 := by
  rw [(kp_m h1).trans hc] at h2
  rcases h1 with ⟨n1, q1, e1⟩ | ⟨o1, q1, f1, f2, f3⟩
  · rcases h2 with ⟨n2, q2, e2⟩ | ⟨o2, -⟩
    · have e : M2.1 = M.1 := e2.trans e1
      refine ⟨by omega, ?_⟩
      unfold ri_N ri_R
      rw [e]
      exact ⟨hR, rfl, rfl, hc⟩
    · exact absurd o2 n1
  · rcases h2 with ⟨n2, -⟩ | ⟨o2, q2, g1, g2, g3⟩
    · exact absurd o1 n2
    · have e : ∀ q j, ¬ (j = x1.toInt.toNat ∧ (q = 230 ∨ q = 231 ∨ q = 232 ∨ q = 283 ∨ q = 284 ∨ q = 288)) → M2.1 q j = M.1 q j := fun q j h => (g3 q j (by omega)).trans (f3 q j (by omega))
      refine ⟨by omega, ⟨fun n hn => ?_, fun D hD => ?_⟩, e 14 16 (by omega), e 14 12 (by omega), ?_⟩
      · rw [e 2 n (by omega), e 3 n (by omega), e 4 n (by omega), e 245 n (by omega), e 246 n (by omega), e 247 n (by omega)]
        exact hR.1 n hn
      · by_cases c : D = x1.toInt.toNat
        · rw [c, g3 230 _ (by omega), g3 231 _ (by omega)]
          refine ⟨by rw [f1, g1], fun w => ?_⟩
          rw [f1] at w
          rw [f2 w, g2 w]
        · rw [e 230 D (by omega), e 231 D (by omega), e 283 D (by omega), e 284 D (by omega)]
          exact hR.2 D hD
      · rw [e 244 1 (by omega), e 1 4 (by omega)]
        exact hc
theorem rw_bx {D j : Nat} (hD : D < 8) : ax_sp (236 + D) j = (-2147483648, 2147483647) := by
  match D, hD with
  | 0, _ => rfl
  | 1, _ => rfl
  | 2, _ => rfl
  | 3, _ => rfl
  | 4, _ => rfl
  | 5, _ => rfl
  | 6, _ => rfl
  | 7, _ => rfl
theorem rw_J {h s z q o D : Nat} {x2 x3 : Int32} {M M1 : rx_M} (hs : (h, s, z, q, o) = (230, 233, 234, 236 + D, 0) ∨ (h, s, z, q, o) = (283, 285, 286, 287, 80 * D)) (hD : D < 8) (h2 : 0 ≤ x2.toInt ∧ x2.toInt ≤ 2) (h3 : 0 ≤ x3.toInt ∧ x3.toInt ≤ 80) (hJ : ax_J0 ax_sp ax_rf M) (hF : rw_F h s z q o D x2 x3 M M1) : ax_J0 ax_sp ax_rf M1 := by
  obtain ⟨g, e1, e2, e3, e4, e5⟩ := hF
  have b2 : (2 : Int32).toInt = 2 := rfl
  have b0 : (0 : Int32).toInt = 0 := rfl
  have hq : ∀ j, ax_sp q j = (-2147483648, 2147483647) := by
    intro j
    rcases hs with hs | hs
    · injection hs with a1 a2
      injection a2 with a2 a3
      injection a3 with a3 a4
      injection a4 with a4 a5
      rw [a4]
      exact rw_bx hD
    · injection hs with a1 a2
      injection a2 with a2 a3
      injection a3 with a3 a4
      injection a4 with a4 a5
      rw [a4]
      rfl
  have hk : (h = 230 ∧ s = 233 ∧ z = 234 ∧ 236 ≤ q ∧ q ≤ 243) ∨ (h = 283 ∧ s = 285 ∧ z = 286 ∧ q = 287) := by
    rcases hs with hs | hs
    · injection hs with a1 a2
      injection a2 with a2 a3
      injection a3 with a3 a4
      injection a4 with a4 a5
      omega
    · injection hs with a1 a2
      injection a2 with a2 a3
      injection a3 with a3 a4
      injection a4 with a4 a5
      omega
  refine ⟨fun p j => ?_, hp_Re hJ.2.1 g, ?_⟩
  · by_cases c : j = D ∧ (p = h ∨ p = s ∨ p = z)
    · obtain ⟨c1, c2⟩ := c
      rcases hk with ⟨rfl, rfl, rfl, k⟩ | ⟨rfl, rfl, rfl, k⟩
      · rcases c2 with c2 | c2 | c2
        · rw [c1, c2, e1]
          show (0 : Int) ≤ (2 : Int32).toInt ∧ (2 : Int32).toInt ≤ 2
          omega
        · rw [c1, c2, e2]
          exact h2
        · rw [c1, c2, e3]
          exact h3
      · rcases c2 with c2 | c2 | c2
        · rw [c1, c2, e1]
          show (0 : Int) ≤ (2 : Int32).toInt ∧ (2 : Int32).toInt ≤ 2
          omega
        · rw [c1, c2, e2]
          exact h2
        · rw [c1, c2, e3]
          exact h3
    · by_cases c' : p = q ∧ o ≤ j ∧ j < o + 80
      · have e := e4 (j - o) (by omega)
        rw [show o + (j - o) = j by omega] at e
        rw [c'.1, e, hq]
        show (-2147483648 : Int) ≤ (0 : Int32).toInt ∧ (0 : Int32).toInt ≤ 2147483647
        omega
      · rw [e5 p j c c']
        exact hJ.1 p j
  · have e : ∀ p j, ¬ (p = 230 ∨ p = 233 ∨ p = 234 ∨ (236 ≤ p ∧ p ≤ 243) ∨ p = 283 ∨ p = 285 ∨ p = 286 ∨ p = 287) → M1.1 p j = M.1 p j := fun p j hp => e5 p j (by omega) (by omega)
    refine ax_G_of hJ.2.2 (e 14 16 (by omega)) (e 244 7 (by omega)) (fun k hk => ⟨e _ _ (by omega), e _ _ (by omega), e _ _ (by omega), e _ _ (by omega), fun h150 i => e _ _ (by omega)⟩) (fun k hk => ⟨e _ _ (by omega), e _ _ (by omega), e _ _ (by omega), e _ _ (by omega), e _ _ (by omega), fun h150 i hi => e _ _ (by omega)⟩) (fun i => ?_) (fun i => ?_)
    · rw [e 213 i (by omega)]
      exact hJ.2.2.2.2.1 i
    · rw [e 284 i (by omega)]
      by_cases c : i = D ∧ h = 283
      · intro w
        rw [c.1, ← c.2, e1] at w
        omega
      · rw [e5 283 i (by omega) (by omega)]
        exact hJ.2.2.2.2.2.1 i
theorem rw_Jx {x1 x2 x3 : Int32} {M M1 : rx_M} (hJ : ax_J0 ax_sp ax_rf M) (h : (¬ rw_ok x1 x2 x3 ∧ M1 = M) ∨ (rw_ok x1 x2 x3 ∧ rw_F 230 233 234 (236 + x1.toInt.toNat) 0 x1.toInt.toNat x2 x3 M M1)) : ax_J0 ax_sp ax_rf M1 := by
  rcases h with ⟨-, e⟩ | ⟨⟨a1, a2, a3, a4, a5, a6⟩, e⟩
  · rw [e]
    exact hJ
  · exact rw_J (Or.inl rfl) (by omega) ⟨a3, a4⟩ ⟨a5, a6⟩ hJ e
theorem rw_Jm {x1 x2 x3 : Int32} {M M1 : rx_M} (hJ : ax_J0 ax_sp ax_rf M) (h : (¬ rw_ok x1 x2 x3 ∧ M1 = M) ∨ (rw_ok x1 x2 x3 ∧ rw_F 283 285 286 287 (80 * x1.toInt.toNat) x1.toInt.toNat x2 x3 M M1)) : ax_J0 ax_sp ax_rf M1 := by
  rcases h with ⟨-, e⟩ | ⟨⟨a1, a2, a3, a4, a5, a6⟩, e⟩
  · rw [e]
    exact hJ
  · exact rw_J (Or.inr rfl) (by omega) ⟨a3, a4⟩ ⟨a5, a6⟩ hJ e
theorem rw_end {x1 x2 x3 : Int32} {M M1 M2 : rx_M} (hR : ri_R M) (hc : M.1 244 1 = M.1 1 4) (h1 : (¬ rw_ok x1 x2 x3 ∧ M1 = M) ∨ (rw_ok x1 x2 x3 ∧ rw_F 230 233 234 (236 + x1.toInt.toNat) 0 x1.toInt.toNat x2 x3 M M1)) (h2 : (¬ rw_ok x1 x2 x3 ∧ M2 = M1) ∨ (rw_ok x1 x2 x3 ∧ rw_F 283 285 286 287 (80 * x1.toInt.toNat) x1.toInt.toNat x2 x3 M1 M2)) : ri_N M M2 := by
  rcases h1 with ⟨n1, e1⟩ | ⟨o1, f0, f1, f2, f3, f4, f5⟩
  · rcases h2 with ⟨n2, e2⟩ | ⟨o2, -⟩
    · subst e1
      subst e2
      exact ⟨hR, rfl, rfl, hc⟩
    · exact absurd o2 n1
  · rcases h2 with ⟨n2, -⟩ | ⟨o2, g0, g1, g2, g3, g4, g5⟩
    · exact absurd o1 n2
    · obtain ⟨a1, a2, a3, a4, a5, a6⟩ := o1
      have e : ∀ q j, ¬ (j = x1.toInt.toNat ∧ (q = 230 ∨ q = 283)) → ¬ (233 ≤ q ∧ q ≤ 243) → ¬ (285 ≤ q ∧ q ≤ 287) → M2.1 q j = M.1 q j := fun q j z1 z2 z3 => (g5 q j (by omega) (by omega)).trans (f5 q j (by omega) (by omega))
      refine ⟨⟨fun n hn => ?_, fun D hD => ?_⟩, e 14 16 (by omega) (by omega) (by omega), e 14 12 (by omega) (by omega) (by omega), ?_⟩
      · rw [e 2 n (by omega) (by omega) (by omega), e 3 n (by omega) (by omega) (by omega), e 4 n (by omega) (by omega) (by omega), e 245 n (by omega) (by omega) (by omega), e 246 n (by omega) (by omega) (by omega), e 247 n (by omega) (by omega) (by omega)]
        exact hR.1 n hn
      · by_cases c : D = x1.toInt.toNat
        · have p1 : M2.1 230 D = 2 := by rw [c, g5 230 _ (by omega) (by omega), f1]
          have p2 : M2.1 283 D = 2 := by rw [c, g1]
          have b2 : (2 : Int32).toInt = 2 := rfl
          rw [p1, p2]
          exact ⟨rfl, fun w => by omega⟩
        · rw [e 230 D (by omega) (by omega) (by omega), e 231 D (by omega) (by omega) (by omega), e 283 D (by omega) (by omega) (by omega), e 284 D (by omega) (by omega) (by omega)]
          exact hR.2 D hD
      · rw [e 244 1 (by omega) (by omega) (by omega), e 1 4 (by omega) (by omega) (by omega)]
        exact hc
theorem wt_eq {x1 : Int32} {M : rx_M} (hR : ri_R M) (hJ : ax_J0 ax_sp ax_rf M) : wt_q x1.toInt (M.1 230 x1.toInt.toNat).toInt (M.1 2 (M.1 231 x1.toInt.toNat).toInt.toNat).toInt (M.1 3 (M.1 231 x1.toInt.toNat).toInt.toNat).toInt (M.1 4 (M.1 231 x1.toInt.toNat).toInt.toNat).toInt = wt_q x1.toInt (M.1 283 x1.toInt.toNat).toInt (M.1 245 (M.1 284 x1.toInt.toNat).toInt.toNat).toInt (M.1 246 (M.1 284 x1.toInt.toNat).toInt.toNat).toInt (M.1 247 (M.1 284 x1.toInt.toNat).toInt.toNat).toInt := by
  by_cases q : x1.toInt < 0 ∨ 7 < x1.toInt
  · unfold wt_q
    rw [if_pos q, if_pos q]
  · obtain ⟨a1, a2⟩ := hR.2 x1.toInt.toNat (by omega)
    by_cases w : (M.1 230 x1.toInt.toNat).toInt = 1
    · have k := a2 w
      have b : 0 ≤ (M.1 231 x1.toInt.toNat).toInt ∧ (M.1 231 x1.toInt.toNat).toInt ≤ 11 := hJ.1 231 x1.toInt.toNat
      obtain ⟨b1, b2, b3⟩ := hR.1 (M.1 231 x1.toInt.toNat).toInt.toNat (by omega)
      rw [a1, b1, b2, b3, k]
    · unfold wt_q
      rw [if_neg q, if_neg q, ← a1]
      by_cases z : (M.1 230 x1.toInt.toNat).toInt = 0
      · rw [if_pos z, if_pos z]
      · rw [if_neg z, if_neg w, if_neg z, if_neg w]
/-- the unknowns, six ints further -/
noncomputable def wk_v (v : ax_V) (M : rx_M) : ax_V := fun k => if k = 1 then ((v 1).1 + Int32.ofInt 6, 0) else if k = 2 then (M.1 1 4, 0) else v k
theorem wk_next {v : ax_V} {M M3 : rx_M} (h1 : ax_ok v ax_c_law.2.1) (h2 : ax_kn v ax_c_law.2.2.1 M) (hJ3 : ax_J0 ax_sp ax_rf M3) (hi : 0 ≤ (v 1).1.toInt) (hi6 : (v 1).1.toInt + 6 ≤ 3072) (f1 : M3.1 14 16 = M.1 14 16) (f2 : M3.1 14 12 = M.1 14 12) (f3 : M3.1 244 1 = M3.1 1 4) : ax_ok (wk_v v M3) ax_c_law.2.1 ∧ ax_kn (wk_v v M3) ax_c_law.2.2.1 M3 ∧ (wk_v v M3 1).1.toInt = (v 1).1.toInt + 6 := by
  have e6 : (Int32.ofInt 6).toInt = 6 := rfl
  have e : (wk_v v M3 1).1.toInt = (v 1).1.toInt + 6 := by
    show ((v 1).1 + Int32.ofInt 6).toInt = _
    rw [ax_add (by omega) (by omega), e6]
  have key : ∀ e ∈ ([(14, .int 16, .retAddr 4), (14, .int 12, .retAddr 3), (244, .int 1, .retAddr 2), (1, .int 4, .retAddr 2)] : ax_K), ax_k1 v M e := h2
  have m1 : M.1 14 16 = (v 4).1 := ax_k1_i (key (14, .int 16, .retAddr 4) (by simp)) rfl
  have m2 : M.1 14 12 = (v 3).1 := ax_k1_i (key (14, .int 12, .retAddr 3) (by simp)) rfl
  refine ⟨⟨fun k => ?_, fun d hd => ?_, fun d hd => ?_, fun d hd => ?_⟩, fun q hq => ?_, e⟩
  · by_cases q : k = 1
    · rw [q, e]
      show (0 : Int) ≤ (v 1).1.toInt + 6 ∧ (v 1).1.toInt + 6 ≤ 3072
      omega
    · by_cases q2 : k = 2
      · rw [q2]
        exact hJ3.1 1 4
      · have e2 : wk_v v M3 k = v k := by
          unfold wk_v
          rw [if_neg q, if_neg q2]
        rw [e2]
        exact h1.1 k
  · cases hd
  · cases hd
  · cases List.mem_singleton.mp hd
    exact h1.2.2.2 _ (List.mem_singleton.mpr rfl)
  · have hq : q ∈ ([(14, .int 16, .retAddr 4), (14, .int 12, .retAddr 3), (244, .int 1, .retAddr 2), (1, .int 4, .retAddr 2)] : ax_K) := hq
    simp only [List.mem_cons, List.not_mem_nil, or_false] at hq
    rcases hq with r | r | r | r
    · subst r
      exact ⟨rfl, Or.inl ⟨rfl, f1.trans m1⟩⟩
    · subst r
      exact ⟨rfl, Or.inl ⟨rfl, f2.trans m2⟩⟩
    · subst r
      exact ⟨rfl, Or.inl ⟨rfl, f3⟩⟩
    · subst r
      exact ⟨rfl, Or.inl ⟨rfl, rfl⟩⟩
section WK
variable {X : Nat × (Nat → Int32)} {a : rx_K} {M : rx_M} {P : rx_O → Prop} {xi : Int32} {i : Nat}
theorem wk_folk (hxi : xi.toInt = (i : Int)) (hi : i + 6 ≤ X.1) (hX : X.1 ≤ 3072) (ha : a.1 = rx_cells) (hJ : ax_J0 ax_sp ax_rf M) (hR : ri_R M) (hc : M.1 244 1 = M.1 1 4) (KK : ∀ (M2 : rx_M) (a2 : rx_K), a2.1 = rx_cells → a2.2.1 ≤ a.2.1 → a2.2.2 ≤ a.2.2 → ax_J0 ax_sp ax_rf M2 → ri_N M M2 → hp X 45 249 23 [some (.ref 1000), some (.ref 0), some (.ref 244), some (.ref 290), some (.int (xi + Int32.ofInt 6)), none, none, none] [] a2 M2 P) : hp X 45 249 208 [some (.ref 1000), some (.ref 0), some (.ref 244), some (.ref 290), some (.int xi), none, none, none] [] a M P := by
  obtain ⟨n, hn⟩ : ∃ n : Nat, (M.1 1 4).toInt = (n : Int) := ⟨(M.1 1 4).toInt.toNat, by
    have b : 0 ≤ (M.1 1 4).toInt ∧ (M.1 1 4).toInt ≤ 12 := hJ.1 1 4
    omega⟩
  have hn12 : n ≤ 12 := by
    have b : 0 ≤ (M.1 1 4).toInt ∧ (M.1 1 4).toInt ≤ 12 := hJ.1 1 4
    omega
  refine hp_al (pc' := 209) (j := 1) (Or.inr ⟨1, rfl, rfl, rfl⟩) rfl ?_
  refine hp_al (pc' := 210) (j := 0) (Or.inr ⟨0, rfl, rfl, rfl⟩) rfl ?_
  refine hp_il (pc' := 212) (j := 4) (Or.inl ⟨rfl, rfl⟩) rfl ?_
  refine hp_ic (pc' := 213) (x := 1) rfl rfl rfl ?_
  refine hp_add (pc' := 214) rfl rfl (fun z1 hz1 => ?_)
  have xz1 : z1.toInt = (((i + 1) : Nat) : Int) := hp_aa hxi rfl (by omega) hz1
  refine hp_sc (pc' := 215) (j := (i + 1)) xz1 (by omega) rfl rfl ?_
  refine hp_al (pc' := 216) (j := 0) (Or.inr ⟨0, rfl, rfl, rfl⟩) rfl ?_
  refine hp_il (pc' := 218) (j := 4) (Or.inl ⟨rfl, rfl⟩) rfl ?_
  refine hp_ic (pc' := 219) (x := 2) rfl rfl rfl ?_
  refine hp_add (pc' := 220) rfl rfl (fun z2 hz2 => ?_)
  have xz2 : z2.toInt = (((i + 2) : Nat) : Int) := hp_aa hxi rfl (by omega) hz2
  refine hp_sc (pc' := 221) (j := (i + 2)) xz2 (by omega) rfl rfl ?_
  refine hp_al (pc' := 222) (j := 0) (Or.inr ⟨0, rfl, rfl, rfl⟩) rfl ?_
  refine hp_il (pc' := 224) (j := 4) (Or.inl ⟨rfl, rfl⟩) rfl ?_
  refine hp_ic (pc' := 225) (x := 3) rfl rfl rfl ?_
  refine hp_add (pc' := 226) rfl rfl (fun z3 hz3 => ?_)
  have xz3 : z3.toInt = (((i + 3) : Nat) : Int) := hp_aa hxi rfl (by omega) hz3
  refine hp_sc (pc' := 227) (j := (i + 3)) xz3 (by omega) rfl rfl ?_
  refine hp_cx (q := 0) (Q := fk_Q 2 3 4 1 5 4 n (X.2 (i + 1)) (X.2 (i + 2)) (X.2 (i + 3)) a M) (pc' := 230) (e := 44) (vs := [.int (X.2 (i + 1)), .int (X.2 (i + 2)), .int (X.2 (i + 3))]) (r := []) ha rfl rfl rfl rfl rfl rfl rfl rfl (xf_ok (d := 43) ha (ei_0 hJ ha) hn hn12) (fun o ho => ?_)
  obtain ⟨r1, M1, eo, hr1, fM1⟩ := ho
  subst eo
  refine ⟨_, rfl, ?_⟩
  show hp X 45 249 230 [some (.ref 1000), some (.ref 0), some (.ref 244), some (.ref 290), some (.int xi), none, none, none] [.int r1] a M1 _
  have jM1 := fk_J1 hJ fM1
  have cM1 : (M1.1 244 1).toInt = (n : Int) := by
    rw [fk_m fM1, hc]
    exact hn
  refine hp_pop (pc' := 231) rfl rfl rfl ?_
  refine hp_al (pc' := 232) (j := 2) (Or.inr ⟨2, rfl, rfl, rfl⟩) rfl ?_
  refine hp_al (pc' := 233) (j := 0) (Or.inr ⟨0, rfl, rfl, rfl⟩) rfl ?_
  refine hp_il (pc' := 235) (j := 4) (Or.inl ⟨rfl, rfl⟩) rfl ?_
  refine hp_ic (pc' := 236) (x := 1) rfl rfl rfl ?_
  refine hp_add (pc' := 237) rfl rfl (fun z4 hz4 => ?_)
  have xz4 : z4.toInt = (((i + 1) : Nat) : Int) := hp_aa hxi rfl (by omega) hz4
  refine hp_sc (pc' := 238) (j := (i + 1)) xz4 (by omega) rfl rfl ?_
  refine hp_al (pc' := 239) (j := 0) (Or.inr ⟨0, rfl, rfl, rfl⟩) rfl ?_
  refine hp_il (pc' := 241) (j := 4) (Or.inl ⟨rfl, rfl⟩) rfl ?_
  refine hp_ic (pc' := 242) (x := 2) rfl rfl rfl ?_
  refine hp_add (pc' := 243) rfl rfl (fun z5 hz5 => ?_)
  have xz5 : z5.toInt = (((i + 2) : Nat) : Int) := hp_aa hxi rfl (by omega) hz5
  refine hp_sc (pc' := 244) (j := (i + 2)) xz5 (by omega) rfl rfl ?_
  refine hp_al (pc' := 245) (j := 0) (Or.inr ⟨0, rfl, rfl, rfl⟩) rfl ?_
  refine hp_il (pc' := 247) (j := 4) (Or.inl ⟨rfl, rfl⟩) rfl ?_
  refine hp_ic (pc' := 248) (x := 3) rfl rfl rfl ?_
  refine hp_add (pc' := 249) rfl rfl (fun z6 hz6 => ?_)
  have xz6 : z6.toInt = (((i + 3) : Nat) : Int) := hp_aa hxi rfl (by omega) hz6
  refine hp_sc (pc' := 250) (j := (i + 3)) xz6 (by omega) rfl rfl ?_
  refine hp_cv (Q := fk_Q 245 246 247 244 245 1 n (X.2 (i + 1)) (X.2 (i + 2)) (X.2 (i + 3)) a M1) (pc' := 253) (e := 44) (vs := [.int (X.2 (i + 1)), .int (X.2 (i + 2)), .int (X.2 (i + 3))]) (r := []) ha rfl rfl rfl rfl rfl rfl rfl rfl (mf_ok2 (d := 43) ha (ei_0 jM1 ha) cM1 hn12) (fun o ho => ?_)
  obtain ⟨r2, M2, eo, hr2, fM2⟩ := ho
  subst eo
  refine ⟨_, rfl, ?_⟩
  show hp X 45 249 253 [some (.ref 1000), some (.ref 0), some (.ref 244), some (.ref 290), some (.int xi), none, none, none] [.int r2] a M2 _
  have jM2 := fk_J1 jM1 fM2
  refine hp_pop (pc' := 254) rfl rfl rfl ?_
  refine hp_go (t := 1684) rfl rfl ?_
  refine hp_in (pc' := 1687) (j := 4) (ls' := [some (.ref 1000), some (.ref 0), some (.ref 244), some (.ref 290), some (.int (xi + Int32.ofInt (6))), none, none, none]) rfl rfl rfl rfl rfl ?_
  refine hp_go (t := 23) rfl rfl ?_
  exact KK M2 a ha (Nat.le_refl _) (Nat.le_refl _) jM2 (fk_end hR hc hn fM1 fM2)
theorem wk_keep (hxi : xi.toInt = (i : Int)) (hi : i + 6 ≤ X.1) (hX : X.1 ≤ 3072) (ha : a.1 = rx_cells) (hJ : ax_J0 ax_sp ax_rf M) (hR : ri_R M) (hc : M.1 244 1 = M.1 1 4) (KK : ∀ (M2 : rx_M) (a2 : rx_K), a2.1 = rx_cells → a2.2.1 ≤ a.2.1 → a2.2.2 ≤ a.2.2 → ax_J0 ax_sp ax_rf M2 → ri_N M M2 → hp X 45 249 23 [some (.ref 1000), some (.ref 0), some (.ref 244), some (.ref 290), some (.int (xi + Int32.ofInt 6)), none, none, none] [] a2 M2 P) : hp X 45 249 1374 [some (.ref 1000), some (.ref 0), some (.ref 244), some (.ref 290), some (.int xi), none, none, none] [] a M P := by
  refine hp_al (pc' := 1375) (j := 1) (Or.inr ⟨1, rfl, rfl, rfl⟩) rfl ?_
  refine hp_al (pc' := 1376) (j := 0) (Or.inr ⟨0, rfl, rfl, rfl⟩) rfl ?_
  refine hp_il (pc' := 1378) (j := 4) (Or.inl ⟨rfl, rfl⟩) rfl ?_
  refine hp_ic (pc' := 1379) (x := 1) rfl rfl rfl ?_
  refine hp_add (pc' := 1380) rfl rfl (fun z1 hz1 => ?_)
  have xz1 : z1.toInt = (((i + 1) : Nat) : Int) := hp_aa hxi rfl (by omega) hz1
  refine hp_sc (pc' := 1381) (j := (i + 1)) xz1 (by omega) rfl rfl ?_
  refine hp_al (pc' := 1382) (j := 0) (Or.inr ⟨0, rfl, rfl, rfl⟩) rfl ?_
  refine hp_il (pc' := 1384) (j := 4) (Or.inl ⟨rfl, rfl⟩) rfl ?_
  refine hp_ic (pc' := 1385) (x := 2) rfl rfl rfl ?_
  refine hp_add (pc' := 1386) rfl rfl (fun z2 hz2 => ?_)
  have xz2 : z2.toInt = (((i + 2) : Nat) : Int) := hp_aa hxi rfl (by omega) hz2
  refine hp_sc (pc' := 1387) (j := (i + 2)) xz2 (by omega) rfl rfl ?_
  refine hp_al (pc' := 1388) (j := 0) (Or.inr ⟨0, rfl, rfl, rfl⟩) rfl ?_
  refine hp_il (pc' := 1390) (j := 4) (Or.inl ⟨rfl, rfl⟩) rfl ?_
  refine hp_ic (pc' := 1391) (x := 3) rfl rfl rfl ?_
  refine hp_add (pc' := 1392) rfl rfl (fun z3 hz3 => ?_)
  have xz3 : z3.toInt = (((i + 3) : Nat) : Int) := hp_aa hxi rfl (by omega) hz3
  refine hp_sc (pc' := 1393) (j := (i + 3)) xz3 (by omega) rfl rfl ?_
  refine hp_cx (q := 0) (Q := kp_Q 230 231 232 (M.1 1 4).toInt (X.2 (i + 1)) (X.2 (i + 2)) (X.2 (i + 3)) a M) (pc' := 1396) (e := 44) (vs := [.int (X.2 (i + 1)), .int (X.2 (i + 2)), .int (X.2 (i + 3))]) (r := []) ha rfl rfl rfl rfl rfl rfl rfl rfl (xk_ok (d := 42) ha hJ) (fun o ho => ?_)
  obtain ⟨r1, M1, a1, eo, ha1, l1, l1b, jM1, fM1⟩ := ho
  subst eo
  refine ⟨_, rfl, ?_⟩
  show hp X 45 249 1396 [some (.ref 1000), some (.ref 0), some (.ref 244), some (.ref 290), some (.int xi), none, none, none] [.int r1] a1 M1 _
  refine hp_pop (pc' := 1397) rfl rfl rfl ?_
  refine hp_al (pc' := 1398) (j := 2) (Or.inr ⟨2, rfl, rfl, rfl⟩) rfl ?_
  refine hp_al (pc' := 1399) (j := 0) (Or.inr ⟨0, rfl, rfl, rfl⟩) rfl ?_
  refine hp_il (pc' := 1401) (j := 4) (Or.inl ⟨rfl, rfl⟩) rfl ?_
  refine hp_ic (pc' := 1402) (x := 1) rfl rfl rfl ?_
  refine hp_add (pc' := 1403) rfl rfl (fun z4 hz4 => ?_)
  have xz4 : z4.toInt = (((i + 1) : Nat) : Int) := hp_aa hxi rfl (by omega) hz4
  refine hp_sc (pc' := 1404) (j := (i + 1)) xz4 (by omega) rfl rfl ?_
  refine hp_al (pc' := 1405) (j := 0) (Or.inr ⟨0, rfl, rfl, rfl⟩) rfl ?_
  refine hp_il (pc' := 1407) (j := 4) (Or.inl ⟨rfl, rfl⟩) rfl ?_
  refine hp_ic (pc' := 1408) (x := 2) rfl rfl rfl ?_
  refine hp_add (pc' := 1409) rfl rfl (fun z5 hz5 => ?_)
  have xz5 : z5.toInt = (((i + 2) : Nat) : Int) := hp_aa hxi rfl (by omega) hz5
  refine hp_sc (pc' := 1410) (j := (i + 2)) xz5 (by omega) rfl rfl ?_
  refine hp_al (pc' := 1411) (j := 0) (Or.inr ⟨0, rfl, rfl, rfl⟩) rfl ?_
  refine hp_il (pc' := 1413) (j := 4) (Or.inl ⟨rfl, rfl⟩) rfl ?_
  refine hp_ic (pc' := 1414) (x := 3) rfl rfl rfl ?_
  refine hp_add (pc' := 1415) rfl rfl (fun z6 hz6 => ?_)
  have xz6 : z6.toInt = (((i + 3) : Nat) : Int) := hp_aa hxi rfl (by omega) hz6
  refine hp_sc (pc' := 1416) (j := (i + 3)) xz6 (by omega) rfl rfl ?_
  refine hp_cv (Q := kp_Q 283 284 288 (M1.1 244 1).toInt (X.2 (i + 1)) (X.2 (i + 2)) (X.2 (i + 3)) a1 M1) (pc' := 1419) (e := 44) (vs := [.int (X.2 (i + 1)), .int (X.2 (i + 2)), .int (X.2 (i + 3))]) (r := []) ha1 rfl rfl rfl rfl rfl rfl rfl rfl (mk_ok (d := 41) ha1 jM1) (fun o ho => ?_)
  obtain ⟨r2, M2, a2, eo, ha2, l2, l2b, jM2, fM2⟩ := ho
  subst eo
  refine ⟨_, rfl, ?_⟩
  show hp X 45 249 1419 [some (.ref 1000), some (.ref 0), some (.ref 244), some (.ref 290), some (.int xi), none, none, none] [.int r2] a2 M2 _
  refine hp_pop (pc' := 1420) rfl rfl rfl ?_
  refine hp_go (t := 1684) rfl rfl ?_
  refine hp_in (pc' := 1687) (j := 4) (ls' := [some (.ref 1000), some (.ref 0), some (.ref 244), some (.ref 290), some (.int (xi + Int32.ofInt (6))), none, none, none]) rfl rfl rfl rfl rfl ?_
  refine hp_go (t := 23) rfl rfl ?_
  exact KK M2 a2 ha2 (Nat.le_trans l2 l1) (Nat.le_trans l2b l1b) jM2 (kp_end hR hc fM1 fM2).2
theorem wk_row (hxi : xi.toInt = (i : Int)) (hi : i + 6 ≤ X.1) (hX : X.1 ≤ 3072) (ha : a.1 = rx_cells) (hJ : ax_J0 ax_sp ax_rf M) (hR : ri_R M) (hc : M.1 244 1 = M.1 1 4) (KK : ∀ (M2 : rx_M) (a2 : rx_K), a2.1 = rx_cells → a2.2.1 ≤ a.2.1 → a2.2.2 ≤ a.2.2 → ax_J0 ax_sp ax_rf M2 → ri_N M M2 → hp X 45 249 23 [some (.ref 1000), some (.ref 0), some (.ref 244), some (.ref 290), some (.int (xi + Int32.ofInt 6)), none, none, none] [] a2 M2 P) : hp X 45 249 1423 [some (.ref 1000), some (.ref 0), some (.ref 244), some (.ref 290), some (.int xi), none, none, none] [] a M P := by
  refine hp_al (pc' := 1424) (j := 1) (Or.inr ⟨1, rfl, rfl, rfl⟩) rfl ?_
  refine hp_al (pc' := 1425) (j := 0) (Or.inr ⟨0, rfl, rfl, rfl⟩) rfl ?_
  refine hp_il (pc' := 1427) (j := 4) (Or.inl ⟨rfl, rfl⟩) rfl ?_
  refine hp_ic (pc' := 1428) (x := 1) rfl rfl rfl ?_
  refine hp_add (pc' := 1429) rfl rfl (fun z1 hz1 => ?_)
  have xz1 : z1.toInt = (((i + 1) : Nat) : Int) := hp_aa hxi rfl (by omega) hz1
  refine hp_sc (pc' := 1430) (j := (i + 1)) xz1 (by omega) rfl rfl ?_
  refine hp_al (pc' := 1431) (j := 0) (Or.inr ⟨0, rfl, rfl, rfl⟩) rfl ?_
  refine hp_il (pc' := 1433) (j := 4) (Or.inl ⟨rfl, rfl⟩) rfl ?_
  refine hp_ic (pc' := 1434) (x := 2) rfl rfl rfl ?_
  refine hp_add (pc' := 1435) rfl rfl (fun z2 hz2 => ?_)
  have xz2 : z2.toInt = (((i + 2) : Nat) : Int) := hp_aa hxi rfl (by omega) hz2
  refine hp_sc (pc' := 1436) (j := (i + 2)) xz2 (by omega) rfl rfl ?_
  refine hp_al (pc' := 1437) (j := 0) (Or.inr ⟨0, rfl, rfl, rfl⟩) rfl ?_
  refine hp_il (pc' := 1439) (j := 4) (Or.inl ⟨rfl, rfl⟩) rfl ?_
  refine hp_ic (pc' := 1440) (x := 3) rfl rfl rfl ?_
  refine hp_add (pc' := 1441) rfl rfl (fun z3 hz3 => ?_)
  have xz3 : z3.toInt = (((i + 3) : Nat) : Int) := hp_aa hxi rfl (by omega) hz3
  refine hp_sc (pc' := 1442) (j := (i + 3)) xz3 (by omega) rfl rfl ?_
  refine hp_cx (q := 0) (Q := rw_Q 230 233 234 (fun D => 236 + D) (fun _ => 0) (X.2 (i + 1)) (X.2 (i + 2)) (X.2 (i + 3)) a M) (pc' := 1445) (e := 44) (vs := [.int (X.2 (i + 1)), .int (X.2 (i + 2)), .int (X.2 (i + 3))]) (r := []) ha rfl rfl rfl rfl rfl rfl rfl rfl (xr_ok (d := 42) ha hJ) (fun o ho => ?_)
  obtain ⟨r1, M1, eo, hr1, fM1⟩ := ho
  subst eo
  refine ⟨_, rfl, ?_⟩
  show hp X 45 249 1445 [some (.ref 1000), some (.ref 0), some (.ref 244), some (.ref 290), some (.int xi), none, none, none] [.int r1] a M1 _
  have jM1 := rw_Jx hJ fM1
  refine hp_pop (pc' := 1446) rfl rfl rfl ?_
  refine hp_al (pc' := 1447) (j := 2) (Or.inr ⟨2, rfl, rfl, rfl⟩) rfl ?_
  refine hp_al (pc' := 1448) (j := 0) (Or.inr ⟨0, rfl, rfl, rfl⟩) rfl ?_
  refine hp_il (pc' := 1450) (j := 4) (Or.inl ⟨rfl, rfl⟩) rfl ?_
  refine hp_ic (pc' := 1451) (x := 1) rfl rfl rfl ?_
  refine hp_add (pc' := 1452) rfl rfl (fun z4 hz4 => ?_)
  have xz4 : z4.toInt = (((i + 1) : Nat) : Int) := hp_aa hxi rfl (by omega) hz4
  refine hp_sc (pc' := 1453) (j := (i + 1)) xz4 (by omega) rfl rfl ?_
  refine hp_al (pc' := 1454) (j := 0) (Or.inr ⟨0, rfl, rfl, rfl⟩) rfl ?_
  refine hp_il (pc' := 1456) (j := 4) (Or.inl ⟨rfl, rfl⟩) rfl ?_
  refine hp_ic (pc' := 1457) (x := 2) rfl rfl rfl ?_
  refine hp_add (pc' := 1458) rfl rfl (fun z5 hz5 => ?_)
  have xz5 : z5.toInt = (((i + 2) : Nat) : Int) := hp_aa hxi rfl (by omega) hz5
  refine hp_sc (pc' := 1459) (j := (i + 2)) xz5 (by omega) rfl rfl ?_
  refine hp_al (pc' := 1460) (j := 0) (Or.inr ⟨0, rfl, rfl, rfl⟩) rfl ?_
  refine hp_il (pc' := 1462) (j := 4) (Or.inl ⟨rfl, rfl⟩) rfl ?_
  refine hp_ic (pc' := 1463) (x := 3) rfl rfl rfl ?_
  refine hp_add (pc' := 1464) rfl rfl (fun z6 hz6 => ?_)
  have xz6 : z6.toInt = (((i + 3) : Nat) : Int) := hp_aa hxi rfl (by omega) hz6
  refine hp_sc (pc' := 1465) (j := (i + 3)) xz6 (by omega) rfl rfl ?_
  refine hp_cv (Q := rw_Q 283 285 286 (fun _ => 287) (fun D => 80 * D) (X.2 (i + 1)) (X.2 (i + 2)) (X.2 (i + 3)) a M1) (pc' := 1468) (e := 44) (vs := [.int (X.2 (i + 1)), .int (X.2 (i + 2)), .int (X.2 (i + 3))]) (r := []) ha rfl rfl rfl rfl rfl rfl rfl rfl (mr_ok (d := 42) ha jM1) (fun o ho => ?_)
  obtain ⟨r2, M2, eo, hr2, fM2⟩ := ho
  subst eo
  refine ⟨_, rfl, ?_⟩
  show hp X 45 249 1468 [some (.ref 1000), some (.ref 0), some (.ref 244), some (.ref 290), some (.int xi), none, none, none] [.int r2] a M2 _
  have jM2 := rw_Jm jM1 fM2
  refine hp_pop (pc' := 1469) rfl rfl rfl ?_
  refine hp_go (t := 1684) rfl rfl ?_
  refine hp_in (pc' := 1687) (j := 4) (ls' := [some (.ref 1000), some (.ref 0), some (.ref 244), some (.ref 290), some (.int (xi + Int32.ofInt (6))), none, none, none]) rfl rfl rfl rfl rfl ?_
  refine hp_go (t := 23) rfl rfl ?_
  exact KK M2 a ha (Nat.le_refl _) (Nat.le_refl _) jM2 (rw_end hR hc fM1 fM2)
theorem wk_weight (hxi : xi.toInt = (i : Int)) (hi : i + 6 ≤ X.1) (hX : X.1 ≤ 3072) (ha : a.1 = rx_cells) (hJ : ax_J0 ax_sp ax_rf M) (hR : ri_R M) (hc : M.1 244 1 = M.1 1 4) (KK : ∀ (M2 : rx_M) (a2 : rx_K), a2.1 = rx_cells → a2.2.1 ≤ a.2.1 → a2.2.2 ≤ a.2.2 → ax_J0 ax_sp ax_rf M2 → ri_N M M2 → hp X 45 249 23 [some (.ref 1000), some (.ref 0), some (.ref 244), some (.ref 290), some (.int (xi + Int32.ofInt 6)), none, none, none] [] a2 M2 P) : hp X 45 249 1634 [some (.ref 1000), some (.ref 0), some (.ref 244), some (.ref 290), some (.int xi), none, none, none] [] a M P := by
  refine hp_al (pc' := 1635) (j := 1) (Or.inr ⟨1, rfl, rfl, rfl⟩) rfl ?_
  refine hp_al (pc' := 1636) (j := 0) (Or.inr ⟨0, rfl, rfl, rfl⟩) rfl ?_
  refine hp_il (pc' := 1638) (j := 4) (Or.inl ⟨rfl, rfl⟩) rfl ?_
  refine hp_ic (pc' := 1639) (x := 1) rfl rfl rfl ?_
  refine hp_add (pc' := 1640) rfl rfl (fun z1 hz1 => ?_)
  have xz1 : z1.toInt = (((i + 1) : Nat) : Int) := hp_aa hxi rfl (by omega) hz1
  refine hp_sc (pc' := 1641) (j := (i + 1)) xz1 (by omega) rfl rfl ?_
  refine hp_cx (q := 0) (Q := fun o => ∃ r : Int32, o = (some (.int r), a, M) ∧ r.toInt = wt_q (X.2 (i + 1)).toInt (M.1 230 (X.2 (i + 1)).toInt.toNat).toInt (M.1 2 (M.1 231 (X.2 (i + 1)).toInt.toNat).toInt.toNat).toInt (M.1 3 (M.1 231 (X.2 (i + 1)).toInt.toNat).toInt.toNat).toInt (M.1 4 (M.1 231 (X.2 (i + 1)).toInt.toNat).toInt.toNat).toInt) (pc' := 1644) (e := 44) (vs := [.int (X.2 (i + 1))]) (r := []) ha rfl rfl rfl rfl rfl rfl rfl rfl (xwe_ok (d := 41) ha hJ) (fun o ho => ?_)
  obtain ⟨r1, eo, hr1⟩ := ho
  subst eo
  refine ⟨_, rfl, ?_⟩
  show hp X 45 249 1644 [some (.ref 1000), some (.ref 0), some (.ref 244), some (.ref 290), some (.int xi), none, none, none] [.int r1] a M _
  refine hp_al (pc' := 1645) (j := 2) (Or.inr ⟨2, rfl, rfl, rfl⟩) rfl ?_
  refine hp_al (pc' := 1646) (j := 0) (Or.inr ⟨0, rfl, rfl, rfl⟩) rfl ?_
  refine hp_il (pc' := 1648) (j := 4) (Or.inl ⟨rfl, rfl⟩) rfl ?_
  refine hp_ic (pc' := 1649) (x := 1) rfl rfl rfl ?_
  refine hp_add (pc' := 1650) rfl rfl (fun z2 hz2 => ?_)
  have xz2 : z2.toInt = (((i + 1) : Nat) : Int) := hp_aa hxi rfl (by omega) hz2
  refine hp_sc (pc' := 1651) (j := (i + 1)) xz2 (by omega) rfl rfl ?_
  refine hp_cv (Q := fun o => ∃ r : Int32, o = (some (.int r), a, M) ∧ r.toInt = wt_q (X.2 (i + 1)).toInt (M.1 283 (X.2 (i + 1)).toInt.toNat).toInt (M.1 245 (M.1 284 (X.2 (i + 1)).toInt.toNat).toInt.toNat).toInt (M.1 246 (M.1 284 (X.2 (i + 1)).toInt.toNat).toInt.toNat).toInt (M.1 247 (M.1 284 (X.2 (i + 1)).toInt.toNat).toInt.toNat).toInt) (pc' := 1654) (e := 44) (vs := [.int (X.2 (i + 1))]) (r := [.int r1]) ha rfl rfl rfl rfl rfl rfl rfl rfl (mwe_ok (d := 41) ha hJ) (fun o ho => ?_)
  obtain ⟨r2, eo, hr2⟩ := ho
  subst eo
  refine ⟨_, rfl, ?_⟩
  show hp X 45 249 1654 [some (.ref 1000), some (.ref 0), some (.ref 244), some (.ref 290), some (.int xi), none, none, none] [.int r2, .int r1] a M _
  refine hp_ieq (t := 1684) (pc' := 1657) rfl rfl rfl (fun c3 => ?_) (fun c3 => ?_)
  · refine hp_in (pc' := 1687) (j := 4) (ls' := [some (.ref 1000), some (.ref 0), some (.ref 244), some (.ref 290), some (.int (xi + Int32.ofInt (6))), none, none, none]) rfl rfl rfl rfl rfl ?_
    refine hp_go (t := 23) rfl rfl ?_
    exact KK M a ha (Nat.le_refl _) (Nat.le_refl _) hJ ⟨hR, rfl, rfl, hc⟩
  · exact absurd (hr1.trans ((wt_eq hR hJ).trans hr2.symm)) c3
end WK
theorem wk_HB {X : Nat × (Nat → Int32)} (hX : X.1 ≤ 3072) {T : Nat × Nat} (pc : Nat) (hpc : [208, 1374, 1423, 1634].any (Nat.beq pc) = true) (v2 : ax_V) (M : rx_M) (a : rx_K) (l : List (Option Value)) (h1 : ax_ok v2 ax_c_law.2.1) (h2 : ax_kn v2 ax_c_law.2.2.1 M) (hJ : ax_J0 ax_sp ax_rf M) (hR : ri_R M) (hl : ax_lle (ax_ls v2 ax_c_law.2.2.2.1) l) (h0 : (v2 0).1.toInt = (X.1 : Int)) (hi : 0 ≤ (v2 1).1.toInt) (hi6 : (v2 1).1.toInt + 6 ≤ (X.1 : Int)) (ha : a.1 = rx_cells) (KK : ∀ (v3 : ax_V) (M3 : rx_M) (a3 : rx_K) (l3 : List (Option Value)), ax_ok v3 ax_c_law.2.1 → ax_kn v3 ax_c_law.2.2.1 M3 → ax_J0 ax_sp ax_rf M3 → ri_R M3 → ax_lle (ax_ls v3 ax_c_law.2.2.2.1) l3 → (v3 0).1.toInt = (X.1 : Int) → (v3 1).1.toInt = (v2 1).1.toInt + 6 → a3.1 = rx_cells → a3.2.1 ≤ a.2.1 → a3.2.2 ≤ a.2.2 → ∀ v9 : ax_V, ax_C X (ax_PL T) v9 45 [] 249 (23, l3, [], a3, M3)) (v9 : ax_V) : ax_C X (ax_PL T) v9 45 [] 249 (pc, l, [], a, M) := by
  have hc : M.1 244 1 = M.1 1 4 := by
    have key : ∀ e ∈ ([(14, .int 16, .retAddr 4), (14, .int 12, .retAddr 3), (244, .int 1, .retAddr 2), (1, .int 4, .retAddr 2)] : ax_K), ax_k1 v2 M e := h2
    have m1 : M.1 244 1 = (v2 2).1 := ax_k1_i (key (244, .int 1, .retAddr 2) (by simp)) rfl
    have m2 : M.1 1 4 = (v2 2).1 := ax_k1_i (key (1, .int 4, .retAddr 2) (by simp)) rfl
    exact m1.trans m2.symm
  have KK2 : ∀ (M2 : rx_M) (a2 : rx_K), a2.1 = rx_cells → a2.2.1 ≤ a.2.1 → a2.2.2 ≤ a.2.2 → ax_J0 ax_sp ax_rf M2 → ri_N M M2 → hp X 45 249 23 [some (.ref 1000), some (.ref 0), some (.ref 244), some (.ref 290), some (.int ((v2 1).1 + Int32.ofInt 6)), none, none, none] [] a2 M2 (ax_KT X (ax_PL T) v9 [] 45) := fun M2 a2 u1 u2 u3 u4 u5 => by
    obtain ⟨k1, k2, k3⟩ := wk_next h1 h2 u4 hi (by omega) u5.2.1 u5.2.2.1 u5.2.2.2
    exact KK (wk_v v2 M2) M2 a2 _ k1 k2 u4 u5.1 (ax_lle_rf _) (by show (v2 0).1.toInt = _; exact h0) k3 u1 u2 u3 v9
  have r : hp X 45 249 pc (ax_ls v2 ax_c_law.2.2.2.1) [] a M (ax_KT X (ax_PL T) v9 [] 45) := by
    have e : pc = 208 ∨ pc = 1374 ∨ pc = 1423 ∨ pc = 1634 := by
      have k : (Nat.beq pc 208 || (Nat.beq pc 1374 || (Nat.beq pc 1423 || (Nat.beq pc 1634 || false)))) = true := hpc
      rw [Bool.or_false, Bool.or_eq_true, Bool.or_eq_true, Bool.or_eq_true] at k
      rcases k with k | k | k | k
      · exact Or.inl (Nat.eq_of_beq_eq_true k)
      · exact Or.inr (Or.inl (Nat.eq_of_beq_eq_true k))
      · exact Or.inr (Or.inr (Or.inl (Nat.eq_of_beq_eq_true k)))
      · exact Or.inr (Or.inr (Or.inr (Nat.eq_of_beq_eq_true k)))
    rcases e with e | e | e | e
    · subst e
      exact wk_folk (X := X) (xi := (v2 1).1) (i := (v2 1).1.toInt.toNat) (by omega) (by omega) hX ha hJ hR hc KK2
    · subst e
      exact wk_keep (X := X) (xi := (v2 1).1) (i := (v2 1).1.toInt.toNat) (by omega) (by omega) hX ha hJ hR hc KK2
    · subst e
      exact wk_row (X := X) (xi := (v2 1).1) (i := (v2 1).1.toInt.toNat) (by omega) (by omega) hX ha hJ hR hc KK2
    · subst e
      exact wk_weight (X := X) (xi := (v2 1).1) (i := (v2 1).1.toInt.toNat) (by omega) (by omega) hX ha hJ hR hc KK2
  obtain ⟨f, o, q1, q2⟩ := r
  exact ⟨f, o, ax_go_mono _ _ _ _ _ _ _ _ _ _ q1 hl, q2⟩
