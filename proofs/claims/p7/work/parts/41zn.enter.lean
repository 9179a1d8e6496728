/-! the reference's book, by hand: an entry is told; a ring is told -/
section HP3
variable {X : Nat × (Nat → Int32)} {d i pc pc' : Nat} {ls : List (Option Value)} {st : List Value} {a : rx_K} {M : rx_M} {P : rx_O → Prop}
theorem hp_dup {v : Value} (ht : rx_tb i pc = some .dup) (h1 : Nat.beq v.category 1 = true) (e : pc + 1 = pc') (k : hp X d i pc' ls (v :: v :: st) a M P) : hp X d i pc ls (v :: st) a M P := by
  subst e
  refine hp_s ((hp_q ht).trans ?_) k
  show cond (Nat.beq v.category 1) (rx_nx (pc + 1) ls (v :: v :: st) a M) none = _
  rw [h1]
  rfl
theorem hp_pop {v : Value} (ht : rx_tb i pc = some .pop) (h1 : Nat.beq v.category 1 = true) (e : pc + 1 = pc') (k : hp X d i pc' ls st a M P) : hp X d i pc ls (v :: st) a M P := by
  subst e
  refine hp_s ((hp_q ht).trans ?_) k
  show cond (Nat.beq v.category 1) (rx_nx (pc + 1) ls st a M) none = _
  rw [h1]
  rfl
theorem hp_m6 {x z : Int32} {j : Nat} (hx : x.toInt = (j : Int)) (hj : j < 151) (hz : z = 6 * x) : z.toInt = ((6 * j : Nat) : Int) := by
  have e : (6 : Int32).toInt = 6 := rfl
  rw [hz, ax_mul (by rw [e]; omega) (by rw [e]; omega), e, hx]
  omega
theorem hp_m80 {x z : Int32} {j : Nat} (hx : x.toInt = (j : Int)) (hj : j < 151) (hz : z = 80 * x) : z.toInt = ((80 * j : Nat) : Int) := by
  have e : (80 : Int32).toInt = 80 := rfl
  rw [hz, ax_mul (by rw [e]; omega) (by rw [e]; omega), e, hx]
  omega
theorem hp_aa {x y z : Int32} {j k : Nat} (hx : x.toInt = (j : Int)) (hy : y.toInt = (k : Int)) (hj : j + k < 100000) (hz : z = x + y) : z.toInt = ((j + k : Nat) : Int) := by
  rw [hz, ax_add (by omega) (by omega)]
  omega
theorem hp_s1 {x z : Int32} {j : Nat} (hx : x.toInt = (j : Int)) (hj : 1 ≤ j) (hz : z = x - 1) : z.toInt = ((j - 1 : Nat) : Int) := by
  have e : (1 : Int32).toInt = 1 := rfl
  have r := ax_range x
  rw [hz, ax_sub (by rw [e]; omega) (by rw [e]; omega), e]
  omega
end HP3
/-- what holds while entries are told -/
noncomputable def ei_I (w : ax_D) (M0 : rx_M) (a0 : rx_K) (M : rx_M) (a : rx_K) : Prop := ax_J0 ax_sp ax_rf M ∧ (∀ q j, ¬ ax_wd w q j → M.1 q j = M0.1 q j ∧ M.2.1 q j = M0.2.1 q j) ∧ a.1 = rx_cells ∧ a.2.1 ≤ a0.2.1 ∧ a.2.2 ≤ a0.2.2
theorem ei_0 {w : ax_D} {M : rx_M} {a : rx_K} (hJ : ax_J0 ax_sp ax_rf M) (ha : a.1 = rx_cells) : ei_I w M a M a := ⟨hJ, fun _ _ _ => ⟨rfl, rfl⟩, ha, Nat.le_refl _, Nat.le_refl _⟩
theorem ei_w {w : ax_D} {M0 M M1 : rx_M} {a0 a : rx_K} {q j : Nat} {z : Int32} (h : ei_I w M0 a0 M a) (hw : ax_wd w q j) (hz : (ax_sp q j).1 ≤ z.toInt ∧ z.toInt ≤ (ax_sp q j).2) (hG : ax_GG (rx_up M.1 q j z)) (e : M1.1 = rx_up M.1 q j z) (g : M1.2 = M.2) : ei_I w M0 a0 M1 a := by
  refine ⟨⟨fun p k => ?_, hp_Re h.1.2.1 g, by rw [e]; exact hG⟩, fun p k hq => ⟨?_, ?_⟩, h.2.2⟩
  · rw [e]
    by_cases hk : p = q ∧ k = j
    · rw [hk.1, hk.2, hp_up_eq]
      exact hz
    · rw [hp_up_ne hk]
      exact h.1.1 p k
  · rw [e, hp_up_ne (fun v => hq (by rw [v.1, v.2]; exact hw))]
    exact (h.2.1 p k hq).1
  · rw [g]
    exact (h.2.1 p k hq).2
theorem ei_Q {w : ax_D} {M0 M : rx_M} {a0 a : rx_K} {b : Int × Int} {x : Int32} (h : ei_I w M0 a0 M a) (h1 : b.1 ≤ x.toInt ∧ x.toInt ≤ b.2) (h2 : b.1 ≠ -5) : hy_Q w (some (some b)) a0 M0 (some (.int x), a, M) := ⟨⟨x, rfl, h1, fun q => absurd q h2⟩, h.1, h.2.1, h.2.2⟩
theorem ei_G5 {f : Nat → Nat → Int32} {q j : Nat} {z : Int32} (hG : ax_GG f) (hq : (q = 255 ∧ (f 244 7).toInt ≤ (j : Int)) ∨ (q = 256 ∧ 6 * (f 244 7).toInt ≤ (j : Int))) : ax_GG (rx_up f q j z) := by
  refine ax_G_of hG (ax_up_ne (by omega)) (ax_up_ne (by omega)) (fun e he => ⟨ax_up_ne (by omega), ax_up_ne (by omega), ax_up_ne (by omega), ax_up_ne (by omega), fun h150 i => ax_up_ne (by omega)⟩) (fun e he => ⟨ax_up_ne (by omega), ax_up_ne (by omega), ax_up_ne (by omega), ax_up_ne (by omega), ax_up_ne (by omega), fun _ i hi => ax_up_ne (by omega)⟩) (fun i => ?_) (fun i => ?_)
  · rw [ax_up_ne (by omega)]
    exact hG.2.2.1 i
  · rw [ax_up_ne (by omega), ax_up_ne (by omega)]
    exact hG.2.2.2.1 i
theorem ei_gs : ∀ g ∈ ax_gs, g.1 = (244, 7) → g.2.1.2 = 5 → g.2.2 = (253, 0, 2147483647) := by
  intro g hg h1 h2
  have h : ax_gs.all (fun g => !(decide (g.1 = (244, 7)) && decide (g.2.1.2 = 5)) || decide (g.2.2 = (253, 0, 2147483647))) = true := by decide
  have h3 := List.all_eq_true.mp h g hg
  simpa [h1, h2] using h3
theorem ei_Gs {f : Nat → Nat → Int32} {E : Nat} {z : Int32} (hG : ax_GG f) (hE : (f 244 7).toInt = (E : Int)) (hz : z.toInt = (E : Int) + 1) (h249 : (f 249 E).toInt = 5) (h253 : 0 ≤ (f 253 E).toInt) (hd : ∀ i j : Nat, i < j → j < 6 → (j : Int) < (f 255 E).toInt → f 256 (6 * E + i) ≠ f 256 (6 * E + j)) : ax_GG (rx_up f 244 7 z) := by
  have up : rx_up f 244 7 z 244 7 = z := by unfold rx_up; rw [if_pos rfl, if_pos rfl]
  refine ⟨fun g hg e he hw => ?_, fun e h150 he hw i hi => ?_, fun i => ?_, fun i hi => ?_, fun e h150 he hw i j hij hj6 hj => ?_⟩
  rotate_right
  · rw [up] at he
    rw [ax_up_ne (by omega)] at hw hj
    rw [ax_up_ne (by omega), ax_up_ne (by omega)]
    by_cases hes : (e : Int) < (f 244 7).toInt
    · exact hG.2.2.2.2 e h150 hes hw i j hij hj6 hj
    · have e9 : e = E := by omega
      subst e9
      exact hd i j hij hj6 hj
  · rcases ax_gs_f g hg with ⟨a1, a2, a3⟩ | ⟨a1, a2, a3⟩
    · rw [ax_up_ne (by omega)] at hw
      rw [ax_up_ne (by omega)]
      rw [a1, ax_up_ne (by omega)] at he
      exact hG.1 g hg e (by rw [a1]; exact he) hw
    · rw [ax_up_ne (by omega)] at hw
      rw [ax_up_ne (by omega)]
      rw [a1, up] at he
      by_cases hes : (e : Int) < (f 244 7).toInt
      · exact hG.1 g hg e (by rw [a1]; exact hes) hw
      · have e9 : e = E := by omega
        subst e9
        rw [a2, h249] at hw
        rw [ei_gs g hg a1 hw.symm]
        have r := ax_range (f 253 e)
        exact ⟨h253, by show (f 253 e).toInt ≤ 2147483647; omega⟩
  · rw [ax_up_ne (by omega)] at he
    rw [ax_up_ne (by omega)] at hw
    rw [ax_up_ne (by omega)] at hi
    rw [ax_up_ne (by omega)]
    exact hG.2.1 e h150 he hw i hi
  · rw [ax_up_ne (by omega)]
    exact hG.2.2.1 i
  · rw [ax_up_ne (by omega)] at hi
    rw [ax_up_ne (by omega)]
    exact hG.2.2.2.1 i hi
section EI
variable {X : Nat × (Nat → Int32)} {d E D : Nat} {a a0 : rx_K} {M0 M : rx_M} {P : rx_O → Prop} {x1 x2 x3 x4 x5 x6 : Int32} {w : ax_D}
noncomputable def en_Q (w : ax_D) (M0 : rx_M) (a0 : rx_K) (E : Nat) (M : rx_M) (a : rx_K) (o : rx_O) : Prop := ∃ (y : Int32) (M1 : rx_M), o = (some (.int y), a, M1) ∧ y.toInt = (E : Int) ∧ ei_I w M0 a0 M1 a ∧ (M1.1 244 7).toInt = (E : Int) + 1 ∧ ∀ q j, ¬ (249 ≤ q ∧ q ≤ 254) → ¬ (q = 244 ∧ j = 7) → M1.1 q j = M.1 q j
theorem en_ok (hw : ∀ q j, (249 ≤ q ∧ q ≤ 256) ∨ (q = 244 ∧ j = 7) → ax_wd w q j) (ha : a.1 = rx_cells) (hM : ei_I w M0 a0 M a) (sM : (M.1 244 7).toInt = (E : Int)) (hE : E < 150) (h1 : x1.toInt = 5) (h2 : 0 ≤ x2.toInt ∧ x2.toInt ≤ 520) (h3 : -4 ≤ x3.toInt ∧ x3.toInt ≤ 149) (h4 : -4 ≤ x4.toInt ∧ x4.toInt ≤ 11) (h5 : 0 ≤ x5.toInt) (h66 : 0 ≤ x6.toInt ∧ x6.toInt ≤ 3) (h6 : ∀ i j : Nat, i < j → j < 6 → (j : Int) < (M.1 255 E).toInt → M.1 256 (6 * E + i) ≠ M.1 256 (6 * E + j)) : hp X d 168 0 [some (.ref 244), some (.int x1), some (.int x2), some (.int x3), some (.int x4), some (.int x5), some (.int x6)] [] a M (en_Q w M0 a0 E M a) := by
  have one1 : (1 : Int32).toInt = 1 := rfl
  refine hp_al (pc' := 1) (j := 0) (Or.inr ⟨0, rfl, rfl, rfl⟩) rfl ?_
  refine hp_gr (pc' := 4) ha (hM.1.2.1 244 8 249 rfl) rfl rfl rfl rfl ?_
  refine hp_al (pc' := 5) (j := 0) (Or.inr ⟨0, rfl, rfl, rfl⟩) rfl ?_
  refine hp_gi (pc' := 8) (j := 7) (t := 0) ha rfl rfl rfl (by decide) rfl ?_
  refine hp_il (pc' := 9) (j := 1) (Or.inr ⟨1, rfl, rfl, rfl⟩) rfl ?_
  refine hp_st (pc' := 10) (j := E) ha sM (by omega) rfl rfl rfl (fun M1 eM1 gM1 => ?_)
  have hM1 := ei_w hM (hw 249 E (by omega)) (show (0 : Int) ≤ (x1 : Int32).toInt ∧ (x1 : Int32).toInt ≤ 6 by omega) (ax_G_p2 hM.1.2.2 (by omega) (by omega)) eM1 gM1
  have sM1 : (M1.1 244 7).toInt = (E : Int) := by
    rw [eM1, hp_up_ne (by omega)]
    exact sM
  refine hp_al (pc' := 11) (j := 0) (Or.inr ⟨0, rfl, rfl, rfl⟩) rfl ?_
  refine hp_gr (pc' := 14) ha (hM1.1.2.1 244 9 250 rfl) rfl rfl rfl rfl ?_
  refine hp_al (pc' := 15) (j := 0) (Or.inr ⟨0, rfl, rfl, rfl⟩) rfl ?_
  refine hp_gi (pc' := 18) (j := 7) (t := 0) ha rfl rfl rfl (by decide) rfl ?_
  refine hp_il (pc' := 19) (j := 2) (Or.inr ⟨2, rfl, rfl, rfl⟩) rfl ?_
  refine hp_st (pc' := 20) (j := E) ha sM1 (by omega) rfl rfl rfl (fun M2 eM2 gM2 => ?_)
  have hM2 := ei_w hM1 (hw 250 E (by omega)) (show (0 : Int) ≤ (x2 : Int32).toInt ∧ (x2 : Int32).toInt ≤ 520 by omega) (ax_G_free (lo := 250) (hi := 250) hM1.1.2.2 (by decide) (by decide) (by decide) (by omega) (by omega)) eM2 gM2
  have sM2 : (M2.1 244 7).toInt = (E : Int) := by
    rw [eM2, hp_up_ne (by omega)]
    exact sM1
  refine hp_al (pc' := 21) (j := 0) (Or.inr ⟨0, rfl, rfl, rfl⟩) rfl ?_
  refine hp_gr (pc' := 24) ha (hM2.1.2.1 244 10 251 rfl) rfl rfl rfl rfl ?_
  refine hp_al (pc' := 25) (j := 0) (Or.inr ⟨0, rfl, rfl, rfl⟩) rfl ?_
  refine hp_gi (pc' := 28) (j := 7) (t := 0) ha rfl rfl rfl (by decide) rfl ?_
  refine hp_il (pc' := 29) (j := 3) (Or.inr ⟨3, rfl, rfl, rfl⟩) rfl ?_
  refine hp_st (pc' := 30) (j := E) ha sM2 (by omega) rfl rfl rfl (fun M3 eM3 gM3 => ?_)
  have hM3 := ei_w hM2 (hw 251 E (by omega)) (show (-4 : Int) ≤ (x3 : Int32).toInt ∧ (x3 : Int32).toInt ≤ 149 by omega) (ax_G_p2 hM2.1.2.2 (by omega) (by omega)) eM3 gM3
  have sM3 : (M3.1 244 7).toInt = (E : Int) := by
    rw [eM3, hp_up_ne (by omega)]
    exact sM2
  refine hp_al (pc' := 31) (j := 0) (Or.inr ⟨0, rfl, rfl, rfl⟩) rfl ?_
  refine hp_gr (pc' := 34) ha (hM3.1.2.1 244 11 252 rfl) rfl rfl rfl rfl ?_
  refine hp_al (pc' := 35) (j := 0) (Or.inr ⟨0, rfl, rfl, rfl⟩) rfl ?_
  refine hp_gi (pc' := 38) (j := 7) (t := 0) ha rfl rfl rfl (by decide) rfl ?_
  refine hp_il (pc' := 40) (j := 4) (Or.inl ⟨rfl, rfl⟩) rfl ?_
  refine hp_st (pc' := 41) (j := E) ha sM3 (by omega) rfl rfl rfl (fun M4 eM4 gM4 => ?_)
  have hM4 := ei_w hM3 (hw 252 E (by omega)) (show (-4 : Int) ≤ (x4 : Int32).toInt ∧ (x4 : Int32).toInt ≤ 11 by omega) (ax_G_p2 hM3.1.2.2 (by omega) (by omega)) eM4 gM4
  have sM4 : (M4.1 244 7).toInt = (E : Int) := by
    rw [eM4, hp_up_ne (by omega)]
    exact sM3
  refine hp_al (pc' := 42) (j := 0) (Or.inr ⟨0, rfl, rfl, rfl⟩) rfl ?_
  refine hp_gr (pc' := 45) ha (hM4.1.2.1 244 12 253 rfl) rfl rfl rfl rfl ?_
  refine hp_al (pc' := 46) (j := 0) (Or.inr ⟨0, rfl, rfl, rfl⟩) rfl ?_
  refine hp_gi (pc' := 49) (j := 7) (t := 0) ha rfl rfl rfl (by decide) rfl ?_
  refine hp_il (pc' := 51) (j := 5) (Or.inl ⟨rfl, rfl⟩) rfl ?_
  refine hp_st (pc' := 52) (j := E) ha sM4 (by omega) rfl rfl rfl (fun M5 eM5 gM5 => ?_)
  have hM5 := ei_w hM4 (hw 253 E (by omega)) (ax_full_ok _) (ax_G_p2 hM4.1.2.2 (by omega) (by omega)) eM5 gM5
  have sM5 : (M5.1 244 7).toInt = (E : Int) := by
    rw [eM5, hp_up_ne (by omega)]
    exact sM4
  refine hp_al (pc' := 53) (j := 0) (Or.inr ⟨0, rfl, rfl, rfl⟩) rfl ?_
  refine hp_gr (pc' := 56) ha (hM5.1.2.1 244 13 254 rfl) rfl rfl rfl rfl ?_
  refine hp_al (pc' := 57) (j := 0) (Or.inr ⟨0, rfl, rfl, rfl⟩) rfl ?_
  refine hp_gi (pc' := 60) (j := 7) (t := 0) ha rfl rfl rfl (by decide) rfl ?_
  refine hp_il (pc' := 62) (j := 6) (Or.inl ⟨rfl, rfl⟩) rfl ?_
  refine hp_st (pc' := 63) (j := E) ha sM5 (by omega) rfl rfl rfl (fun M6 eM6 gM6 => ?_)
  have hM6 := ei_w hM5 (hw 254 E (by omega)) (show (0 : Int) ≤ (x6 : Int32).toInt ∧ (x6 : Int32).toInt ≤ 3 by omega) (ax_G_free (lo := 254) (hi := 254) hM5.1.2.2 (by decide) (by decide) (by decide) (by omega) (by omega)) eM6 gM6
  have sM6 : (M6.1 244 7).toInt = (E : Int) := by
    rw [eM6, hp_up_ne (by omega)]
    exact sM5
  refine hp_al (pc' := 64) (j := 0) (Or.inr ⟨0, rfl, rfl, rfl⟩) rfl ?_
  refine hp_dup (pc' := 65) rfl rfl rfl ?_
  refine hp_gi (pc' := 68) (j := 7) (t := 0) ha rfl rfl rfl (by decide) rfl ?_
  refine hp_ic (pc' := 69) (x := 1) rfl rfl rfl ?_
  refine hp_add (pc' := 70) rfl rfl (fun z7 hz7 => ?_)
  have yz7 : z7.toInt = (E : Int) + 1 := by rw [hz7, ax_add (by rw [one1]; omega) (by rw [one1]; omega), one1, sM6]
  refine hp_pf (pc' := 73) (j := 7) ha rfl rfl rfl rfl (fun M8 eM8 gM8 => ?_)
  have fM8 : ∀ q j, ¬ (249 ≤ q ∧ q ≤ 254) → M6.1 q j = M.1 q j := fun q j hq => by rw [eM6, hp_up_ne (by omega), eM5, hp_up_ne (by omega), eM4, hp_up_ne (by omega), eM3, hp_up_ne (by omega), eM2, hp_up_ne (by omega), eM1, hp_up_ne (by omega)]
  have h249 : (M6.1 249 E).toInt = 5 := by
    rw [eM6, hp_up_ne (by omega), eM5, hp_up_ne (by omega), eM4, hp_up_ne (by omega), eM3, hp_up_ne (by omega), eM2, hp_up_ne (by omega), eM1, hp_up_eq]
    exact h1
  have h253 : 0 ≤ (M6.1 253 E).toInt := by
    rw [eM6, hp_up_ne (by omega), eM5, hp_up_eq]
    exact h5
  have hd : ∀ i j : Nat, i < j → j < 6 → (j : Int) < (M6.1 255 E).toInt → M6.1 256 (6 * E + i) ≠ M6.1 256 (6 * E + j) := fun i j q1 q2 q3 => by
    rw [fM8 255 E (by omega)] at q3
    rw [fM8 256 _ (by omega), fM8 256 _ (by omega)]
    exact h6 i j q1 q2 q3
  have hM8 := ei_w hM6 (hw 244 7 (by omega)) (show (0 : Int) ≤ z7.toInt ∧ z7.toInt ≤ 150 by omega) (ei_Gs hM6.1.2.2 sM6 (by omega) h249 h253 hd) eM8 gM8
  have sM8 : (M8.1 244 7).toInt = (E : Int) + 1 := by
    rw [eM8, hp_up_eq]
    omega
  have tM8 : ∀ q j, ¬ (249 ≤ q ∧ q ≤ 254) → ¬ (q = 244 ∧ j = 7) → M8.1 q j = M.1 q j := fun q j hq hk => by rw [eM8, hp_up_ne hk, fM8 q j hq]
  refine hp_al (pc' := 74) (j := 0) (Or.inr ⟨0, rfl, rfl, rfl⟩) rfl ?_
  refine hp_gi (pc' := 77) (j := 7) (t := 0) ha rfl rfl rfl (by decide) rfl ?_
  refine hp_ic (pc' := 78) (x := 1) rfl rfl rfl ?_
  refine hp_sub (pc' := 79) rfl rfl (fun z9 hz9 => ?_)
  have yz9 : z9.toInt = (E : Int) := by
    rw [hz9, ax_sub (by rw [one1]; omega) (by rw [one1]; omega), one1, sM8]
    omega
  refine hp_ri rfl rfl ?_
  exact ⟨_, M8, rfl, yz9, hM8, sM8, tM8⟩
theorem in_ok : hp X d 155 0 [some (.ref 244), some (.int x1), some (.int x2), some (.int x3)] [] a M (fun o => ∃ r : Int32, o = (some (.int r), a, M) ∧ (r.toInt = 0 ∨ r.toInt = 1) ∧ (r.toInt ≠ 0 ↔ (x2.toInt ≤ x1.toInt ∧ x1.toInt ≤ x3.toInt))) := by
  have z0 : (0 : Int32).toInt = 0 := rfl
  have z1 : (1 : Int32).toInt = 1 := rfl
  refine hp_il (pc' := 1) (j := 1) (Or.inr ⟨1, rfl, rfl, rfl⟩) rfl ?_
  refine hp_il (pc' := 2) (j := 2) (Or.inr ⟨2, rfl, rfl, rfl⟩) rfl ?_
  refine hp_ilt (t := 14) (pc' := 5) rfl rfl rfl (fun c1 => ?_) (fun c1 => ?_)
  · refine hp_ic (pc' := 15) (x := 0) rfl rfl rfl ?_
    refine hp_rb rfl rfl (by decide) ?_
    exact ⟨_, rfl, by omega, by omega⟩
  · refine hp_il (pc' := 6) (j := 1) (Or.inr ⟨1, rfl, rfl, rfl⟩) rfl ?_
    refine hp_il (pc' := 7) (j := 3) (Or.inr ⟨3, rfl, rfl, rfl⟩) rfl ?_
    refine hp_igt (t := 14) (pc' := 10) rfl rfl rfl (fun c2 => ?_) (fun c2 => ?_)
    · refine hp_ic (pc' := 15) (x := 0) rfl rfl rfl ?_
      refine hp_rb rfl rfl (by decide) ?_
      exact ⟨_, rfl, by omega, by omega⟩
    · refine hp_ic (pc' := 11) (x := 1) rfl rfl rfl ?_
      refine hp_go (t := 15) rfl rfl ?_
      refine hp_rb rfl rfl (by decide) ?_
      exact ⟨_, rfl, by omega, by omega⟩
theorem rb_ok {x : Int32} (h : x.toInt = 0 ∨ x.toInt = 1) : x = 0 ∨ x = 1 := h.elim (fun q => Or.inl (Int32.toInt_inj.mp q)) (fun q => Or.inr (Int32.toInt_inj.mp q))
theorem io_ok (ha : a.1 = rx_cells) (hJ : ax_J0 ax_sp ax_rf M) : hp X (d + 1) 156 0 [some (.ref 244), some (.int x1)] [] a M (fun o => ∃ r : Int32, o = (some (.int r), a, M) ∧ (r.toInt = 0 ∨ r.toInt = 1) ∧ (r.toInt ≠ 0 → 0 ≤ x1.toInt ∧ x1.toInt ≤ 11)) := by
  have one1 : (1 : Int32).toInt = 1 := rfl
  have z0 : (0 : Int32).toInt = 0 := rfl
  have hn : 0 ≤ (M.1 244 1).toInt ∧ (M.1 244 1).toInt ≤ 12 := hJ.1 244 1
  refine hp_al (pc' := 1) (j := 0) (Or.inr ⟨0, rfl, rfl, rfl⟩) rfl ?_
  refine hp_il (pc' := 2) (j := 1) (Or.inr ⟨1, rfl, rfl, rfl⟩) rfl ?_
  refine hp_ic (pc' := 3) (x := 0) rfl rfl rfl ?_
  refine hp_al (pc' := 4) (j := 0) (Or.inr ⟨0, rfl, rfl, rfl⟩) rfl ?_
  refine hp_gi (pc' := 7) (j := 1) (t := 0) ha rfl rfl rfl (by decide) rfl ?_
  refine hp_ic (pc' := 8) (x := 1) rfl rfl rfl ?_
  refine hp_sub (pc' := 9) rfl rfl (fun z1 hz1 => ?_)
  have yz1 : z1.toInt = (M.1 244 1).toInt - 1 := by rw [hz1, ax_sub (by rw [one1]; omega) (by rw [one1]; omega), one1]
  refine hp_cv (Q := fun o => ∃ r : Int32, o = (some (.int r), a, M) ∧ (r.toInt = 0 ∨ r.toInt = 1) ∧ (r.toInt ≠ 0 ↔ (((0 : Int32) : Int32).toInt ≤ (x1 : Int32).toInt ∧ (x1 : Int32).toInt ≤ (z1 : Int32).toInt))) (pc' := 12) (e := d) (vs := [.int x1, .int (0 : Int32), .int z1]) (r := []) ha rfl rfl rfl rfl rfl rfl rfl rfl in_ok (fun o ho => ?_)
  obtain ⟨r2, eo, qr2⟩ := ho
  subst eo
  refine ⟨_, rfl, ?_⟩
  show hp X (d + 1) 156 12 [some (.ref 244), some (.int x1)] [.int r2] a M _
  refine hp_rb rfl rfl (rb_ok qr2.1) ?_
  exact ⟨_, rfl, qr2.1, fun q => by
    have := qr2.2.mp q
    omega⟩
theorem lt_ok (ha : a.1 = rx_cells) (hR : hp_R M) : hp X (d + 1) 181 0 [some (.ref 244), some (.int x1), some (.int x2)] [] a M (fun o => ∃ r : Int32, o = (some (.int r), a, M) ∧ -12 ≤ r.toInt ∧ r.toInt ≤ 0) := by
  have z0 : (0 : Int32).toInt = 0 := rfl
  have z7 : (7 : Int32).toInt = 7 := rfl
  have hM : hp_R M ∧ True := ⟨hR, trivial⟩
  refine hp_al (pc' := 1) (j := 0) (Or.inr ⟨0, rfl, rfl, rfl⟩) rfl ?_
  refine hp_il (pc' := 2) (j := 1) (Or.inr ⟨1, rfl, rfl, rfl⟩) rfl ?_
  refine hp_ic (pc' := 3) (x := 0) rfl rfl rfl ?_
  refine hp_bi (pc' := 5) (x := 7) rfl rfl rfl ?_
  refine hp_cv (Q := fun o => ∃ r : Int32, o = (some (.int r), a, M) ∧ (r.toInt = 0 ∨ r.toInt = 1) ∧ (r.toInt ≠ 0 ↔ (((0 : Int32) : Int32).toInt ≤ (x1 : Int32).toInt ∧ (x1 : Int32).toInt ≤ ((7 : Int32) : Int32).toInt))) (pc' := 8) (e := d) (vs := [.int x1, .int (0 : Int32), .int (7 : Int32)]) (r := []) ha rfl rfl rfl rfl rfl rfl rfl rfl in_ok (fun o ho => ?_)
  obtain ⟨r1, eo, qr1⟩ := ho
  subst eo
  refine ⟨_, rfl, ?_⟩
  show hp X (d + 1) 181 8 [some (.ref 244), some (.int x1), some (.int x2)] [.int r1] a M _
  refine hp_zne (t := 15) (pc' := 11) rfl rfl rfl (fun c2 => ?_) (fun c2 => ?_)
  · have hD : 0 ≤ x1.toInt ∧ x1.toInt ≤ 7 := by
      have := qr1.2.mp (by assumption)
      omega
    obtain ⟨D, hx, hD8⟩ : ∃ D : Nat, x1.toInt = (D : Int) ∧ D < 8 := ⟨x1.toInt.toNat, by omega, by omega⟩
    refine hp_al (pc' := 16) (j := 0) (Or.inr ⟨0, rfl, rfl, rfl⟩) rfl ?_
    refine hp_gr (pc' := 19) ha (hM.1 244 50 283 rfl) rfl rfl rfl rfl ?_
    refine hp_il (pc' := 20) (j := 1) (Or.inr ⟨1, rfl, rfl, rfl⟩) rfl ?_
    refine hp_ld (pc' := 21) (j := D) ha hx (by omega) rfl rfl rfl ?_
    refine hp_zne (t := 29) (pc' := 24) rfl rfl rfl (fun c3 => ?_) (fun c3 => ?_)
    · refine hp_al (pc' := 30) (j := 0) (Or.inr ⟨0, rfl, rfl, rfl⟩) rfl ?_
      refine hp_gr (pc' := 33) ha (hM.1 244 50 283 rfl) rfl rfl rfl rfl ?_
      refine hp_il (pc' := 34) (j := 1) (Or.inr ⟨1, rfl, rfl, rfl⟩) rfl ?_
      refine hp_ld (pc' := 35) (j := D) ha hx (by omega) rfl rfl rfl ?_
      refine hp_ic (pc' := 36) (x := 2) rfl rfl rfl ?_
      refine hp_ine (t := 49) (pc' := 39) rfl rfl rfl (fun c4 => ?_) (fun c4 => ?_)
      · refine hp_bi (pc' := 51) (x := (-12)) rfl rfl rfl ?_
        refine hp_go (t := 55) rfl rfl ?_
        refine hp_ri rfl rfl ?_
        exact ⟨_, rfl, by decide⟩
      · refine hp_al (pc' := 40) (j := 0) (Or.inr ⟨0, rfl, rfl, rfl⟩) rfl ?_
        refine hp_gr (pc' := 43) ha (hM.1 244 52 285 rfl) rfl rfl rfl rfl ?_
        refine hp_il (pc' := 44) (j := 1) (Or.inr ⟨1, rfl, rfl, rfl⟩) rfl ?_
        refine hp_ld (pc' := 45) (j := D) ha hx (by omega) rfl rfl rfl ?_
        refine hp_il (pc' := 46) (j := 2) (Or.inr ⟨2, rfl, rfl, rfl⟩) rfl ?_
        refine hp_ieq (t := 54) (pc' := 49) rfl rfl rfl (fun c5 => ?_) (fun c5 => ?_)
        · refine hp_ic (pc' := 55) (x := 0) rfl rfl rfl ?_
          refine hp_ri rfl rfl ?_
          exact ⟨_, rfl, by decide⟩
        · refine hp_bi (pc' := 51) (x := (-12)) rfl rfl rfl ?_
          refine hp_go (t := 55) rfl rfl ?_
          refine hp_ri rfl rfl ?_
          exact ⟨_, rfl, by decide⟩
    · refine hp_bi (pc' := 26) (x := (-11)) rfl rfl rfl ?_
      refine hp_go (t := 55) rfl rfl ?_
      refine hp_ri rfl rfl ?_
      exact ⟨_, rfl, by decide⟩
  · refine hp_ic (pc' := 12) (x := (-1)) rfl rfl rfl ?_
    refine hp_go (t := 55) rfl rfl ?_
    refine hp_ri rfl rfl ?_
    exact ⟨_, rfl, by decide⟩
theorem di_2 (ha : a.1 = rx_cells) (hM : hp_R M ∧ True) {n : Nat} (hn : (M.1 244 7).toInt = (n : Int)) (hn150 : n ≤ 150) : ∀ (m k : Nat) (x2 : Int32), m + k = n → x2.toInt = (k : Int) → hp X d 161 2 [some (.ref 244), some (.int x1), some (.int x2)] [] a M (fun o => ∃ r : Int32, o = (some (.int r), a, M)) := by
  intro m
  induction m with
  | zero =>
    intro k x2 hb h2
    refine hp_il (pc' := 3) (j := 2) (Or.inr ⟨2, rfl, rfl, rfl⟩) rfl ?_
    refine hp_al (pc' := 4) (j := 0) (Or.inr ⟨0, rfl, rfl, rfl⟩) rfl ?_
    refine hp_gi (pc' := 7) (j := 7) (t := 0) ha rfl rfl rfl (by decide) rfl ?_
    refine hp_ige (t := 44) (pc' := 10) rfl rfl rfl (fun c1 => ?_) (fun c1 => ?_)
    · refine hp_bi (pc' := 46) (x := (-4)) rfl rfl rfl ?_
      refine hp_ri rfl rfl ?_
      exact ⟨_, rfl⟩
    · exfalso
      omega
  | succ m ih =>
    intro k x2 hb h2
    refine hp_il (pc' := 3) (j := 2) (Or.inr ⟨2, rfl, rfl, rfl⟩) rfl ?_
    refine hp_al (pc' := 4) (j := 0) (Or.inr ⟨0, rfl, rfl, rfl⟩) rfl ?_
    refine hp_gi (pc' := 7) (j := 7) (t := 0) ha rfl rfl rfl (by decide) rfl ?_
    refine hp_ige (t := 44) (pc' := 10) rfl rfl rfl (fun c1 => ?_) (fun c1 => ?_)
    · exfalso
      omega
    · refine hp_al (pc' := 11) (j := 0) (Or.inr ⟨0, rfl, rfl, rfl⟩) rfl ?_
      refine hp_gr (pc' := 14) ha (hM.1 244 8 249 rfl) rfl rfl rfl rfl ?_
      refine hp_il (pc' := 15) (j := 2) (Or.inr ⟨2, rfl, rfl, rfl⟩) rfl ?_
      refine hp_ld (pc' := 16) (j := k) ha h2 (by omega) rfl rfl rfl ?_
      refine hp_bi (pc' := 18) (x := 6) rfl rfl rfl ?_
      refine hp_ine (t := 38) (pc' := 21) rfl rfl rfl (fun c2 => ?_) (fun c2 => ?_)
      · refine hp_in (pc' := 41) (j := 2) (ls' := [some (.ref 244), some (.int x1), some (.int (x2 + Int32.ofInt 1))]) rfl rfl rfl rfl rfl ?_
        refine hp_go (t := 2) rfl rfl ?_
        exact ih (k + 1) _ (by omega) (hp_i1 h2 (by omega))
      · refine hp_al (pc' := 22) (j := 0) (Or.inr ⟨0, rfl, rfl, rfl⟩) rfl ?_
        refine hp_gr (pc' := 25) ha (hM.1 244 10 251 rfl) rfl rfl rfl rfl ?_
        refine hp_il (pc' := 26) (j := 2) (Or.inr ⟨2, rfl, rfl, rfl⟩) rfl ?_
        refine hp_ld (pc' := 27) (j := k) ha h2 (by omega) rfl rfl rfl ?_
        refine hp_il (pc' := 28) (j := 1) (Or.inr ⟨1, rfl, rfl, rfl⟩) rfl ?_
        refine hp_ine (t := 38) (pc' := 31) rfl rfl rfl (fun c3 => ?_) (fun c3 => ?_)
        · refine hp_in (pc' := 41) (j := 2) (ls' := [some (.ref 244), some (.int x1), some (.int (x2 + Int32.ofInt 1))]) rfl rfl rfl rfl rfl ?_
          refine hp_go (t := 2) rfl rfl ?_
          exact ih (k + 1) _ (by omega) (hp_i1 h2 (by omega))
        · refine hp_al (pc' := 32) (j := 0) (Or.inr ⟨0, rfl, rfl, rfl⟩) rfl ?_
          refine hp_gr (pc' := 35) ha (hM.1 244 9 250 rfl) rfl rfl rfl rfl ?_
          refine hp_il (pc' := 36) (j := 2) (Or.inr ⟨2, rfl, rfl, rfl⟩) rfl ?_
          refine hp_ld (pc' := 37) (j := k) ha h2 (by omega) rfl rfl rfl ?_
          refine hp_ri rfl rfl ?_
          exact ⟨_, rfl⟩
theorem di_ok (ha : a.1 = rx_cells) (hJ : ax_J0 ax_sp ax_rf M) : hp X d 161 0 [some (.ref 244), some (.int x1), none] [] a M (fun o => ∃ r : Int32, o = (some (.int r), a, M) ∧ True) := by
  have hE : 0 ≤ (M.1 244 7).toInt ∧ (M.1 244 7).toInt ≤ 150 := hJ.1 244 7
  refine hp_ic (pc' := 1) (x := 0) rfl rfl rfl ?_
  refine hp_is (pc' := 2) (j := 2) (ls' := [some (.ref 244), some (.int x1), some (.int (0 : Int32))]) (Or.inr ⟨2, rfl, rfl, rfl⟩) (by simp) rfl ?_
  exact hp_to (di_2 ha ⟨hJ.2.1, trivial⟩ (n := (M.1 244 7).toInt.toNat) (by omega) (by omega) _ 0 _ (Nat.add_zero _) rfl) (fun o ho => ho.elim (fun r e => ⟨r, e, trivial⟩))
theorem de_ok (ha : a.1 = rx_cells) (hJ : ax_J0 ax_sp ax_rf M) : hp X (d + 1) 162 0 [some (.ref 244), some (.int x1)] [] a M (fun o => ∃ r : Int32, o = (some (.int r), a, M) ∧ (r.toInt = 0 ∨ r.toInt = 1)) := by
  refine hp_al (pc' := 1) (j := 0) (Or.inr ⟨0, rfl, rfl, rfl⟩) rfl ?_
  refine hp_il (pc' := 2) (j := 1) (Or.inr ⟨1, rfl, rfl, rfl⟩) rfl ?_
  refine hp_cv (Q := fun o => ∃ r : Int32, o = (some (.int r), a, M) ∧ True) (pc' := 5) (e := d) (vs := [.int x1]) (r := []) ha rfl rfl rfl rfl rfl rfl rfl rfl (di_ok ha hJ) (fun o ho => ?_)
  obtain ⟨r1, eo, qr1⟩ := ho
  subst eo
  refine ⟨_, rfl, ?_⟩
  show hp X (d + 1) 162 5 [some (.ref 244), some (.int x1)] [.int r1] a M _
  refine hp_zlt (t := 12) (pc' := 8) rfl rfl rfl (fun c2 => ?_) (fun c2 => ?_)
  · refine hp_ic (pc' := 13) (x := 0) rfl rfl rfl ?_
    refine hp_rb rfl rfl (by decide) ?_
    exact ⟨_, rfl, by decide⟩
  · refine hp_ic (pc' := 9) (x := 1) rfl rfl rfl ?_
    refine hp_go (t := 13) rfl rfl ?_
    refine hp_rb rfl rfl (by decide) ?_
    exact ⟨_, rfl, by decide⟩
noncomputable def ir_K (M : rx_M) (D k : Nat) : Prop := (∀ i, i < k → 0 ≤ (M.1 287 (80 * D + i)).toInt ∧ (M.1 287 (80 * D + i)).toInt ≤ 11) ∧ ∀ i j, i < j → j < k → M.1 287 (80 * D + i) ≠ M.1 287 (80 * D + j)
noncomputable def ir_T (M : rx_M) (D : Nat) : Prop := ∃ s : Nat, (M.1 286 D).toInt = (s : Int) ∧ 2 ≤ s ∧ s ≤ 6 ∧ ir_K M D s
theorem ir_1 {k : Nat} (h : ir_K M D k) (h1 : 0 ≤ (M.1 287 (80 * D + k)).toInt ∧ (M.1 287 (80 * D + k)).toInt ≤ 11) (h2 : ∀ i, i < k → M.1 287 (80 * D + i) ≠ M.1 287 (80 * D + k)) : ir_K M D (k + 1) := by
  refine ⟨fun i hi => ?_, fun i j q1 q2 => ?_⟩
  · by_cases q : i = k
    · rw [q]
      exact h1
    · exact h.1 i (by omega)
  · by_cases q : j = k
    · rw [q]
      exact h2 i (by omega)
    · exact h.2 i j q1 (by omega)
theorem ir_52 (ha : a.1 = rx_cells) (hJ : ax_J0 ax_sp ax_rf M) (h1 : x1.toInt = (D : Int)) (hD : D < 8) {k : Nat} (h2 : x2.toInt = (k : Int)) (hk : k < 6) : ∀ (m j : Nat) (x3 : Int32), m + j = k → x3.toInt = (j : Int) → (∀ i, i < j → M.1 287 (80 * D + i) ≠ M.1 287 (80 * D + k)) → (∀ x3, (∀ i, i < k → M.1 287 (80 * D + i) ≠ M.1 287 (80 * D + k)) → hp X d 191 90 [some (.ref 244), some (.int x1), some (.int x2), some (.int x3)] [] a M (fun o => ∃ r : Int32, o = (some (.int r), a, M) ∧ (r.toInt = 0 ∨ r.toInt = 1) ∧ (r.toInt ≠ 0 → ir_T M D))) → hp X d 191 52 [some (.ref 244), some (.int x1), some (.int x2), some (.int x3)] [] a M (fun o => ∃ r : Int32, o = (some (.int r), a, M) ∧ (r.toInt = 0 ∨ r.toInt = 1) ∧ (r.toInt ≠ 0 → ir_T M D)) := by
  intro m
  induction m with
  | zero =>
    intro j x3 hb h3 hL kk
    have hM : hp_R M ∧ True := ⟨hJ.2.1, trivial⟩
    have z0 : (0 : Int32).toInt = 0 := rfl
    refine hp_il (pc' := 53) (j := 3) (Or.inr ⟨3, rfl, rfl, rfl⟩) rfl ?_
    refine hp_il (pc' := 54) (j := 2) (Or.inr ⟨2, rfl, rfl, rfl⟩) rfl ?_
    refine hp_ige (t := 90) (pc' := 57) rfl rfl rfl (fun c1 => ?_) (fun c1 => ?_)
    · exact kk _ (fun i hi => hL i (by omega))
    · exfalso
      omega
  | succ m ih =>
    intro j x3 hb h3 hL kk
    have hM : hp_R M ∧ True := ⟨hJ.2.1, trivial⟩
    have z0 : (0 : Int32).toInt = 0 := rfl
    refine hp_il (pc' := 53) (j := 3) (Or.inr ⟨3, rfl, rfl, rfl⟩) rfl ?_
    refine hp_il (pc' := 54) (j := 2) (Or.inr ⟨2, rfl, rfl, rfl⟩) rfl ?_
    refine hp_ige (t := 90) (pc' := 57) rfl rfl rfl (fun c1 => ?_) (fun c1 => ?_)
    · exfalso
      omega
    · refine hp_al (pc' := 58) (j := 0) (Or.inr ⟨0, rfl, rfl, rfl⟩) rfl ?_
      refine hp_gr (pc' := 61) ha (hM.1 244 54 287 rfl) rfl rfl rfl rfl ?_
      refine hp_bi (pc' := 63) (x := 80) rfl rfl rfl ?_
      refine hp_il (pc' := 64) (j := 1) (Or.inr ⟨1, rfl, rfl, rfl⟩) rfl ?_
      refine hp_mul (pc' := 65) rfl rfl (fun z2 hz2 => ?_)
      have xz2 : z2.toInt = (((80 * D) : Nat) : Int) := hp_m80 h1 (by omega) hz2
      refine hp_il (pc' := 66) (j := 3) (Or.inr ⟨3, rfl, rfl, rfl⟩) rfl ?_
      refine hp_add (pc' := 67) rfl rfl (fun z3 hz3 => ?_)
      have xz3 : z3.toInt = (((80 * D + j) : Nat) : Int) := hp_aa xz2 h3 (by omega) hz3
      refine hp_ld (pc' := 68) (j := (80 * D + j)) ha xz3 (by omega) rfl rfl rfl ?_
      refine hp_al (pc' := 69) (j := 0) (Or.inr ⟨0, rfl, rfl, rfl⟩) rfl ?_
      refine hp_gr (pc' := 72) ha (hM.1 244 54 287 rfl) rfl rfl rfl rfl ?_
      refine hp_bi (pc' := 74) (x := 80) rfl rfl rfl ?_
      refine hp_il (pc' := 75) (j := 1) (Or.inr ⟨1, rfl, rfl, rfl⟩) rfl ?_
      refine hp_mul (pc' := 76) rfl rfl (fun z4 hz4 => ?_)
      have xz4 : z4.toInt = (((80 * D) : Nat) : Int) := hp_m80 h1 (by omega) hz4
      refine hp_il (pc' := 77) (j := 2) (Or.inr ⟨2, rfl, rfl, rfl⟩) rfl ?_
      refine hp_add (pc' := 78) rfl rfl (fun z5 hz5 => ?_)
      have xz5 : z5.toInt = (((80 * D + k) : Nat) : Int) := hp_aa xz4 h2 (by omega) hz5
      refine hp_ld (pc' := 79) (j := (80 * D + k)) ha xz5 (by omega) rfl rfl rfl ?_
      refine hp_ine (t := 84) (pc' := 82) rfl rfl rfl (fun c6 => ?_) (fun c6 => ?_)
      · refine hp_in (pc' := 87) (j := 3) (ls' := [some (.ref 244), some (.int x1), some (.int x2), some (.int (x3 + Int32.ofInt 1))]) rfl rfl rfl rfl rfl ?_
        refine hp_go (t := 52) rfl rfl ?_
        exact ih (j + 1) _ (by omega) (hp_i1 h3 (by omega)) (fun i hi => by
          by_cases q : i = j
          · rw [q]
            intro q2
            have q3 := congrArg Int32.toInt q2
            omega
          · exact hL i (by omega)) kk
      · refine hp_ic (pc' := 83) (x := 0) rfl rfl rfl ?_
        refine hp_rb rfl rfl (by decide) ?_
        exact ⟨_, rfl, Or.inl rfl, fun q => absurd rfl q⟩
theorem ir_20 (ha : a.1 = rx_cells) (hJ : ax_J0 ax_sp ax_rf M) (h1 : x1.toInt = (D : Int)) (hD : D < 8) {s : Nat} (hs : (M.1 286 D).toInt = (s : Int)) (hs2 : 2 ≤ s) (hs6 : s ≤ 6) : ∀ (m k : Nat) (x2 : Int32) (o3 : Option Value), m + k = s → x2.toInt = (k : Int) → ir_K M D k → hp X (d + 2) 191 20 [some (.ref 244), some (.int x1), some (.int x2), o3] [] a M (fun o => ∃ r : Int32, o = (some (.int r), a, M) ∧ (r.toInt = 0 ∨ r.toInt = 1) ∧ (r.toInt ≠ 0 → ir_T M D)) := by
  intro m
  induction m with
  | zero =>
    intro k x2 o3 hb h2 hK
    have hM : hp_R M ∧ True := ⟨hJ.2.1, trivial⟩
    have z0 : (0 : Int32).toInt = 0 := rfl
    refine hp_il (pc' := 21) (j := 2) (Or.inr ⟨2, rfl, rfl, rfl⟩) rfl ?_
    refine hp_al (pc' := 22) (j := 0) (Or.inr ⟨0, rfl, rfl, rfl⟩) rfl ?_
    refine hp_gr (pc' := 25) ha (hM.1 244 53 286 rfl) rfl rfl rfl rfl ?_
    refine hp_il (pc' := 26) (j := 1) (Or.inr ⟨1, rfl, rfl, rfl⟩) rfl ?_
    refine hp_ld (pc' := 27) (j := D) ha h1 (by omega) rfl rfl rfl ?_
    refine hp_ige (t := 96) (pc' := 30) rfl rfl rfl (fun c1 => ?_) (fun c1 => ?_)
    · refine hp_ic (pc' := 97) (x := 1) rfl rfl rfl ?_
      refine hp_rb rfl rfl (by decide) ?_
      exact ⟨_, rfl, Or.inr rfl, fun _ => ⟨s, hs, hs2, hs6, by
        have e : k = s := by omega
        rw [← e]
        exact hK⟩⟩
    · exfalso
      omega
  | succ m ih =>
    intro k x2 o3 hb h2 hK
    have hM : hp_R M ∧ True := ⟨hJ.2.1, trivial⟩
    have z0 : (0 : Int32).toInt = 0 := rfl
    refine hp_il (pc' := 21) (j := 2) (Or.inr ⟨2, rfl, rfl, rfl⟩) rfl ?_
    refine hp_al (pc' := 22) (j := 0) (Or.inr ⟨0, rfl, rfl, rfl⟩) rfl ?_
    refine hp_gr (pc' := 25) ha (hM.1 244 53 286 rfl) rfl rfl rfl rfl ?_
    refine hp_il (pc' := 26) (j := 1) (Or.inr ⟨1, rfl, rfl, rfl⟩) rfl ?_
    refine hp_ld (pc' := 27) (j := D) ha h1 (by omega) rfl rfl rfl ?_
    refine hp_ige (t := 96) (pc' := 30) rfl rfl rfl (fun c1 => ?_) (fun c1 => ?_)
    · exfalso
      omega
    · refine hp_al (pc' := 31) (j := 0) (Or.inr ⟨0, rfl, rfl, rfl⟩) rfl ?_
      refine hp_al (pc' := 32) (j := 0) (Or.inr ⟨0, rfl, rfl, rfl⟩) rfl ?_
      refine hp_gr (pc' := 35) ha (hM.1 244 54 287 rfl) rfl rfl rfl rfl ?_
      refine hp_bi (pc' := 37) (x := 80) rfl rfl rfl ?_
      refine hp_il (pc' := 38) (j := 1) (Or.inr ⟨1, rfl, rfl, rfl⟩) rfl ?_
      refine hp_mul (pc' := 39) rfl rfl (fun z2 hz2 => ?_)
      have xz2 : z2.toInt = (((80 * D) : Nat) : Int) := hp_m80 h1 (by omega) hz2
      refine hp_il (pc' := 40) (j := 2) (Or.inr ⟨2, rfl, rfl, rfl⟩) rfl ?_
      refine hp_add (pc' := 41) rfl rfl (fun z3 hz3 => ?_)
      have xz3 : z3.toInt = (((80 * D + k) : Nat) : Int) := hp_aa xz2 h2 (by omega) hz3
      refine hp_ld (pc' := 42) (j := (80 * D + k)) ha xz3 (by omega) rfl rfl rfl ?_
      refine hp_cv (Q := fun o => ∃ r : Int32, o = (some (.int r), a, M) ∧ (r.toInt = 0 ∨ r.toInt = 1) ∧ (r.toInt ≠ 0 → 0 ≤ ((M.1 287 (80 * D + k)) : Int32).toInt ∧ ((M.1 287 (80 * D + k)) : Int32).toInt ≤ 11)) (pc' := 45) (e := (d + 1)) (vs := [.int (M.1 287 (80 * D + k))]) (r := []) ha rfl rfl rfl rfl rfl rfl rfl rfl (io_ok ha hJ) (fun o ho => ?_)
      obtain ⟨r4, eo, qr4⟩ := ho
      subst eo
      refine ⟨_, rfl, ?_⟩
      show hp X ((d + 1) + 1) 191 45 [some (.ref 244), some (.int x1), some (.int x2), o3] [.int r4] a M _
      refine hp_zne (t := 50) (pc' := 48) rfl rfl rfl (fun c5 => ?_) (fun c5 => ?_)
      · refine hp_ic (pc' := 51) (x := 0) rfl rfl rfl ?_
        refine hp_is (pc' := 52) (j := 3) (ls' := [some (.ref 244), some (.int x1), some (.int x2), some (.int (0 : Int32))]) (Or.inr ⟨3, rfl, rfl, rfl⟩) (by simp) rfl ?_
        refine ir_52 (d := d + 2) ha hJ h1 hD h2 (by omega) k 0 _ (Nat.add_zero _) rfl (fun i hi => absurd hi (Nat.not_lt_zero _)) (fun x3 hL => ?_)
        refine hp_in (pc' := 93) (j := 2) (ls' := [some (.ref 244), some (.int x1), some (.int (x2 + Int32.ofInt 1)), some (.int x3)]) rfl rfl rfl rfl rfl ?_
        refine hp_go (t := 20) rfl rfl ?_
        exact ih (k + 1) _ _ (by omega) (hp_i1 h2 (by omega)) (ir_1 hK (qr4.2 (by assumption)) hL)
      · refine hp_ic (pc' := 49) (x := 0) rfl rfl rfl ?_
        refine hp_rb rfl rfl (by decide) ?_
        exact ⟨_, rfl, Or.inl rfl, fun q => absurd rfl q⟩
theorem ir_ok (ha : a.1 = rx_cells) (hJ : ax_J0 ax_sp ax_rf M) (h1 : x1.toInt = (D : Int)) (hD : D < 8) : hp X (d + 2) 191 0 [some (.ref 244), some (.int x1), none, none] [] a M (fun o => ∃ r : Int32, o = (some (.int r), a, M) ∧ (r.toInt = 0 ∨ r.toInt = 1) ∧ (r.toInt ≠ 0 → ir_T M D)) := by
  have hM : hp_R M ∧ True := ⟨hJ.2.1, trivial⟩
  have z0 : (0 : Int32).toInt = 0 := rfl
  have z2 : (2 : Int32).toInt = 2 := rfl
  have z6 : (6 : Int32).toInt = 6 := rfl
  refine hp_al (pc' := 1) (j := 0) (Or.inr ⟨0, rfl, rfl, rfl⟩) rfl ?_
  refine hp_al (pc' := 2) (j := 0) (Or.inr ⟨0, rfl, rfl, rfl⟩) rfl ?_
  refine hp_gr (pc' := 5) ha (hM.1 244 53 286 rfl) rfl rfl rfl rfl ?_
  refine hp_il (pc' := 6) (j := 1) (Or.inr ⟨1, rfl, rfl, rfl⟩) rfl ?_
  refine hp_ld (pc' := 7) (j := D) ha h1 (by omega) rfl rfl rfl ?_
  refine hp_ic (pc' := 8) (x := 2) rfl rfl rfl ?_
  refine hp_bi (pc' := 10) (x := 6) rfl rfl rfl ?_
  refine hp_cv (Q := fun o => ∃ r : Int32, o = (some (.int r), a, M) ∧ (r.toInt = 0 ∨ r.toInt = 1) ∧ (r.toInt ≠ 0 ↔ (((2 : Int32) : Int32).toInt ≤ ((M.1 286 D) : Int32).toInt ∧ ((M.1 286 D) : Int32).toInt ≤ ((6 : Int32) : Int32).toInt))) (pc' := 13) (e := (d + 1)) (vs := [.int (M.1 286 D), .int (2 : Int32), .int (6 : Int32)]) (r := []) ha rfl rfl rfl rfl rfl rfl rfl rfl in_ok (fun o ho => ?_)
  obtain ⟨r1, eo, qr1⟩ := ho
  subst eo
  refine ⟨_, rfl, ?_⟩
  show hp X ((d + 1) + 1) 191 13 [some (.ref 244), some (.int x1), none, none] [.int r1] a M _
  refine hp_zne (t := 18) (pc' := 16) rfl rfl rfl (fun c2 => ?_) (fun c2 => ?_)
  · refine hp_ic (pc' := 19) (x := 0) rfl rfl rfl ?_
    refine hp_is (pc' := 20) (j := 2) (ls' := [some (.ref 244), some (.int x1), some (.int (0 : Int32)), none]) (Or.inr ⟨2, rfl, rfl, rfl⟩) (by simp) rfl ?_
    have hq := qr1.2.mp (by assumption)
    exact ir_20 ha hJ h1 hD (s := (M.1 286 D).toInt.toNat) (by omega) (by omega) (by omega) _ 0 _ _ (Nat.add_zero _) rfl ⟨fun i hi => absurd hi (Nat.not_lt_zero _), fun i j _ hj => absurd hj (Nat.not_lt_zero _)⟩
  · refine hp_ic (pc' := 17) (x := 0) rfl rfl rfl ?_
    refine hp_rb rfl rfl (by decide) ?_
    exact ⟨_, rfl, Or.inl rfl, fun q => absurd rfl q⟩
end EI
