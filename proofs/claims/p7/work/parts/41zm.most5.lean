/-! the reference's mostOf, by hand: all of it; what was shown by hand is a summary -/
theorem hy_Y {X : Nat × (Nat → Int32)} {j D : Nat} {c : ax_ct} {w : ax_D} {an : ax_an} (h : ∀ v M a d, D ≤ d → ax_ok v c.2.1 → ax_kn v c.2.2.1 M → ax_J0 ax_sp ax_rf M → a.1 = rx_cells → hp X d j 0 (ax_ls v c.2.2.2.1) [] a M (hy_Q w an a M)) : ax_Y1 X ax_sp ax_rf (j, ax_sumc ax_sp c D, w, (an, [], false, false, [])) := by
  intro W E K d ls v M a hs S
  have hs : (Nat.ble D d && ax_ar ax_sp c none none E K ls) = true := hs
  rw [Bool.and_eq_true] at hs
  obtain ⟨v2, q1, q2, q3, -, -⟩ := ax_ar_ok (M0 := M) ax_sa_ok hs.2 S (fun g hg => by cases hg) (fun _ => rfl) (fun o ho => by cases ho)
  obtain ⟨f, o, k1, k2⟩ := h v2 M a d (Nat.le_of_ble_eq_true hs.1) q1 q2 ⟨S.2.2.2.1.1, S.2.2.2.1.2.1, S.2.2.2.1.2.2.2⟩ S.2.2.2.2.2.1.1
  obtain ⟨p1, p2, p3, p4, p5, p6⟩ := k2
  exact ⟨f, o, ax_go_mono f d j 0 _ [] a M _ o k1 q3, ⟨p1, ⟨p2.1, p2.2.1, fun q j hq => p3 q j hq, p2.2.2⟩, fun x hx => (by cases hx), fun q => (by cases q), fun q => (by cases q), fun _ x hx => (by cases hx), ax_le_mA p5 p6⟩, p4⟩
theorem mf_nd {q j : Nat} (h : ¬ ax_wd ax_w_188 q j) : ¬ ax_wd ax_w_158 q j ∧ ¬ (q = 270 ∨ q = 271 ∨ q = 272 ∨ q = 273) := by
  refine ⟨fun k => h (ax_dsub_ok (by decide) q j k), fun k => h (Or.inr ⟨(270, 273), ?_, by dsimp only; omega, by dsimp only; omega⟩)⟩
  show (270, 273) ∈ [((259 : Int), (268 : Int)), (270, 273)]
  exact List.mem_cons_of_mem _ List.mem_cons_self
theorem mf_G {f g : Nat → Nat → Int32} (hG : ax_GG f) (h : ∀ q j, ¬ (q = 270 ∨ q = 271 ∨ q = 272 ∨ q = 273) → g q j = f q j) : ax_GG g :=
  ax_G_of hG (h _ _ (by omega)) (h _ _ (by omega)) (fun e he => ⟨h _ _ (by omega), h _ _ (by omega), h _ _ (by omega), h _ _ (by omega), fun h150 i => h _ _ (by omega)⟩) (fun e he => ⟨h _ _ (by omega), h _ _ (by omega), h _ _ (by omega), h _ _ (by omega), h _ _ (by omega), fun _ i _ => h _ _ (by omega)⟩) (fun i => by
    rw [h 213 i (by omega)]
    exact hG.2.2.1 i) (fun i => by
    rw [h 283 i (by omega), h 284 i (by omega)]
    exact hG.2.2.2.1 i)
section MF
variable {X : Nat × (Nat → Int32)} {d : Nat} {a a0 ao : rx_K} {M0 Mo : rx_M}
theorem mf_fin {o : rx_O} (hF : fo_I M0 a0 Mo ao) (ho : mo_Q ao Mo o) : hy_Q ax_w_188 (some (some ((-2147483648), 2147483647))) a0 M0 o := by
  obtain ⟨x, e1, e2, hM⟩ := ho
  obtain ⟨h1, h2, h3, h4⟩ := hM
  have r := ax_range x
  refine ⟨⟨x, e1, ⟨by dsimp only; omega, by dsimp only; omega⟩, fun q => absurd q (by decide)⟩, ⟨fun q j => ?_, h1, mf_G hF.2.1.2.2 h3⟩, fun q j hq => ?_, ?_⟩
  · by_cases k : q = 270 ∨ q = 271 ∨ q = 272 ∨ q = 273
    · rcases k with rfl | rfl | rfl | rfl
      · exact ax_full_ok _
      · exact ax_full_ok _
      · exact ax_full_ok _
      · exact h4 j
    · rw [h3 q j k]
      exact hF.2.1.1 q j
  · obtain ⟨k1, k2⟩ := mf_nd hq
    have k3 := hF.2.2.1 q j k1
    refine ⟨(h3 q j k2).trans k3.1, ?_⟩
    rw [h2]
    exact k3.2
  · rw [e2]
    exact hF.2.2.2
theorem mf_ok {M : rx_M} (hd : 5 ≤ d) (ha : a.1 = rx_cells) (hJ : ax_J0 ax_sp ax_rf M) : hp X (d + 3) 216 0 [some (.ref 244), none, none, none, none, none] [] a M (hy_Q ax_w_188 (some (some ((-2147483648), 2147483647))) a M) := by
  have hw : 0 ≤ (M.1 244 2).toInt ∧ (M.1 244 2).toInt ≤ 520 := hJ.1 244 2
  have he : 0 ≤ (M.1 244 7).toInt ∧ (M.1 244 7).toInt ≤ 150 := hJ.1 244 7
  refine hp_al (pc' := 1) (j := 0) (Or.inr ⟨0, rfl, rfl, rfl⟩) rfl ?_
  refine hp_al (pc' := 2) (j := 0) (Or.inr ⟨0, rfl, rfl, rfl⟩) rfl ?_
  refine hp_gi (pc' := 5) (j := 2) (t := 0) ha rfl rfl rfl (by decide) rfl ?_
  refine hp_al (pc' := 6) (j := 0) (Or.inr ⟨0, rfl, rfl, rfl⟩) rfl ?_
  refine hp_gi (pc' := 9) (j := 7) (t := 0) ha rfl rfl rfl (by decide) rfl ?_
  refine hp_ic (pc' := 10) (x := 0) rfl rfl rfl ?_
  refine hp_cv (Q := gb_Q M a 4698000) (pc' := 13) (e := d + 2) (vs := [.int (M.1 244 2), .int (M.1 244 7), .int (0 : Int32)]) (r := []) ha rfl rfl rfl rfl rfl rfl rfl rfl (ff_ok (e := (M.1 244 7).toInt.toNat) hd ha hJ (by omega) hw.2 (by omega) (by decide)) (fun o ho => ?_)
  obtain ⟨o1, ao, Mo⟩ := o
  obtain ⟨eo, hMo, hSo⟩ := ho
  dsimp only at eo hMo hSo
  subst eo
  refine ⟨_, rfl, ?_⟩
  have hao : ao.1 = rx_cells := hMo.2.2.2.1
  have ha := hao
  show hp X (d + 3) 216 13 [some (.ref 244), none, none, none, none, none] [] ao Mo _
  refine hp_al (pc' := 14) (j := 0) (Or.inr ⟨0, rfl, rfl, rfl⟩) rfl ?_
  refine hp_cv (Q := fun o => ∃ x, o = (some (.int x), ao, Mo)) (pc' := 17) (e := d + 2) (vs := []) (r := []) ha rfl rfl rfl rfl rfl rfl rfl rfl (al_ok ha hMo.1) (fun o ho => ?_)
  obtain ⟨x, eo⟩ := ho
  subst eo
  refine ⟨_, rfl, ?_⟩
  show hp X (d + 3) 216 17 [some (.ref 244), none, none, none, none, none] [.int x] ao Mo _
  refine hp_is (pc' := 18) (j := 1) (ls' := [some (.ref 244), some (.int x), none, none, none, none]) (Or.inr ⟨1, rfl, rfl, rfl⟩) (by simp) rfl ?_
  have hm : 0 ≤ (Mo.1 244 1).toInt ∧ (Mo.1 244 1).toInt ≤ 12 := hMo.2.1.1 244 1
  have hB : mo_B Mo := fun j hj => by
    have b := fo_Sl hSo hj
    omega
  exact hp_to (mo_18 (d := d + 2) (n := (Mo.1 244 1).toInt.toNat) ha (by omega) (by omega) hMo.1 hB (fun j => hMo.2.1.1 273 j)) (fun o ho => mf_fin hMo ho)
end MF
theorem ax_y_188 {X : Nat × (Nat → Int32)} : ax_Y1 X ax_sp ax_rf ax_s_188 := hy_Y (c := ax_c_188_0) (D := 8) (fun v M a d hd _ _ hJ ha => by
  obtain ⟨e, rfl⟩ : ∃ e, d = e + 3 := ⟨d - 3, by omega⟩
  exact mf_ok (d := e) (by omega) ha hJ)
