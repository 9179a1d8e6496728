/-! the reference's ring, by hand -/
theorem rg_nd {q j : Nat} (h : 256 < q ∨ (q = 244 ∧ j ≠ 7)) : ¬ ax_wd ax_w_94 q j := by
  rintro (k | ⟨e, he, k1, k2⟩)
  · unfold ax_wsl at k
    obtain ⟨s, hs, k2⟩ := List.any_eq_true.mp k
    rw [Bool.and_eq_true] at k2
    have e1 := Nat.eq_of_beq_eq_true k2.1
    have e2 := Nat.eq_of_beq_eq_true k2.2
    have hs : s ∈ [(244, 7)] := hs
    simp only [List.mem_cons, List.not_mem_nil, or_false] at hs
    subst hs
    dsimp only at e1 e2
    omega
  · have he : e ∈ [((249 : Int), (256 : Int))] := he
    simp only [List.mem_cons, List.not_mem_nil, or_false] at he
    subst he
    dsimp only at k1 k2
    omega
theorem rg_wd : ∀ q j, (249 ≤ q ∧ q ≤ 256) ∨ (q = 244 ∧ j = 7) → ax_wd ax_w_94 q j := by
  rintro q j (h | ⟨rfl, rfl⟩)
  · exact Or.inr ⟨(249, 256), List.mem_cons_self, by dsimp only; omega, by dsimp only; omega⟩
  · exact Or.inl (by decide)
theorem rg_e {M0 M : rx_M} {a0 a : rx_K} (h : ei_I ax_w_94 M0 a0 M a) {q j : Nat} (hq : 256 < q ∨ (q = 244 ∧ j ≠ 7)) : M.1 q j = M0.1 q j := (h.2.1 q j (rg_nd hq)).1
section RG
variable {X : Nat × (Nat → Int32)} {d E D : Nat} {a a0 : rx_K} {M0 M : rx_M} {P : rx_O → Prop} {x1 x2 x3 x4 x5 x6 : Int32}
theorem rg_I1 {M M1 : rx_M} {k : Nat} {z : Int32} (h : ∀ i, i < k → M.1 256 (6 * E + i) = M0.1 287 (80 * D + i)) (e : M1.1 = rx_up M.1 256 (6 * E + k) z) (hz : z = M0.1 287 (80 * D + k)) : ∀ i, i < k + 1 → M1.1 256 (6 * E + i) = M0.1 287 (80 * D + i) := by
  intro i hi
  rw [e]
  by_cases q : i = k
  · rw [q, hp_up_eq]
    exact hz
  · rw [hp_up_ne (by omega)]
    exact h i (by omega)
theorem rg_66 (ha : a.1 = rx_cells) (hJ : ax_J0 ax_sp ax_rf M) (h1 : x1.toInt = (D : Int)) (hD : D < 8) {s : Nat} (hs : (M.1 286 D).toInt = (s : Int)) (hs6 : s ≤ 6) : ∀ (m k : Nat) (x3 : Int32), m + k = s → x3.toInt = (k : Int) → (∀ x3, hp X (d + 3) 192 103 [some (.ref 244), some (.int x1), some (.int x2), some (.int x3)] [] a M P) → P (some (.int (-3)), a, M) → hp X (d + 3) 192 66 [some (.ref 244), some (.int x1), some (.int x2), some (.int x3)] [] a M P := by
  intro m
  induction m with
  | zero =>
    intro k x3 hb h3 kk k3
    have hM : hp_R M ∧ True := ⟨hJ.2.1, trivial⟩
    refine hp_il (pc' := 67) (j := 3) (Or.inr ⟨3, rfl, rfl, rfl⟩) rfl ?_
    refine hp_al (pc' := 68) (j := 0) (Or.inr ⟨0, rfl, rfl, rfl⟩) rfl ?_
    refine hp_gr (pc' := 71) ha (hM.1 244 53 286 rfl) rfl rfl rfl rfl ?_
    refine hp_il (pc' := 72) (j := 1) (Or.inr ⟨1, rfl, rfl, rfl⟩) rfl ?_
    refine hp_ld (pc' := 73) (j := D) ha h1 (by omega) rfl rfl rfl ?_
    refine hp_ige (t := 103) (pc' := 76) rfl rfl rfl (fun c1 => ?_) (fun c1 => ?_)
    · exact kk _
    · exfalso
      omega
  | succ m ih =>
    intro k x3 hb h3 kk k3
    have hM : hp_R M ∧ True := ⟨hJ.2.1, trivial⟩
    refine hp_il (pc' := 67) (j := 3) (Or.inr ⟨3, rfl, rfl, rfl⟩) rfl ?_
    refine hp_al (pc' := 68) (j := 0) (Or.inr ⟨0, rfl, rfl, rfl⟩) rfl ?_
    refine hp_gr (pc' := 71) ha (hM.1 244 53 286 rfl) rfl rfl rfl rfl ?_
    refine hp_il (pc' := 72) (j := 1) (Or.inr ⟨1, rfl, rfl, rfl⟩) rfl ?_
    refine hp_ld (pc' := 73) (j := D) ha h1 (by omega) rfl rfl rfl ?_
    refine hp_ige (t := 103) (pc' := 76) rfl rfl rfl (fun c1 => ?_) (fun c1 => ?_)
    · exfalso
      omega
    · refine hp_al (pc' := 77) (j := 0) (Or.inr ⟨0, rfl, rfl, rfl⟩) rfl ?_
      refine hp_al (pc' := 78) (j := 0) (Or.inr ⟨0, rfl, rfl, rfl⟩) rfl ?_
      refine hp_gr (pc' := 81) ha (hM.1 244 54 287 rfl) rfl rfl rfl rfl ?_
      refine hp_bi (pc' := 83) (x := 80) rfl rfl rfl ?_
      refine hp_il (pc' := 84) (j := 1) (Or.inr ⟨1, rfl, rfl, rfl⟩) rfl ?_
      refine hp_mul (pc' := 85) rfl rfl (fun z2 hz2 => ?_)
      have xz2 : z2.toInt = (((80 * D) : Nat) : Int) := hp_m80 h1 (by omega) hz2
      refine hp_il (pc' := 86) (j := 3) (Or.inr ⟨3, rfl, rfl, rfl⟩) rfl ?_
      refine hp_add (pc' := 87) rfl rfl (fun z3 hz3 => ?_)
      have xz3 : z3.toInt = (((80 * D + k) : Nat) : Int) := hp_aa xz2 h3 (by omega) hz3
      refine hp_ld (pc' := 88) (j := (80 * D + k)) ha xz3 (by omega) rfl rfl rfl ?_
      refine hp_cv (Q := fun o => ∃ r : Int32, o = (some (.int r), a, M) ∧ (r.toInt = 0 ∨ r.toInt = 1)) (pc' := 91) (e := (d + 2)) (vs := [.int (M.1 287 (80 * D + k))]) (r := []) ha rfl rfl rfl rfl rfl rfl rfl rfl (de_ok ha hJ) (fun o ho => ?_)
      obtain ⟨r4, eo, qr4⟩ := ho
      subst eo
      refine ⟨_, rfl, ?_⟩
      show hp X ((d + 2) + 1) 192 91 [some (.ref 244), some (.int x1), some (.int x2), some (.int x3)] [.int r4] a M _
      refine hp_zeq (t := 97) (pc' := 94) rfl rfl rfl (fun c5 => ?_) (fun c5 => ?_)
      · refine hp_in (pc' := 100) (j := 3) (ls' := [some (.ref 244), some (.int x1), some (.int x2), some (.int (x3 + Int32.ofInt 1))]) rfl rfl rfl rfl rfl ?_
        refine hp_go (t := 66) rfl rfl ?_
        exact ih (k + 1) _ (by omega) (hp_i1 h3 (by omega)) kk k3
      · refine hp_bi (pc' := 96) (x := (-3)) rfl rfl rfl ?_
        refine hp_ri rfl rfl ?_
        exact k3
theorem rg_120 (ha : a.1 = rx_cells) (h1 : x1.toInt = (D : Int)) (hD : D < 8) (hE : E < 150) {s : Nat} (hs6 : s ≤ 6) (hK : ir_K M0 D s) (hs0 : (M0.1 286 D).toInt = (s : Int)) : ∀ (m k : Nat) (x3 : Int32) (M : rx_M), m + k = s → x3.toInt = (k : Int) → ei_I ax_w_94 M0 a0 M a → (M.1 244 7).toInt = (E : Int) → (M.1 255 E).toInt = (s : Int) → (∀ i, i < k → M.1 256 (6 * E + i) = M0.1 287 (80 * D + i)) → (∀ x3 M, ei_I ax_w_94 M0 a0 M a → (M.1 244 7).toInt = (E : Int) → (M.1 255 E).toInt = (s : Int) → (∀ i, i < s → M.1 256 (6 * E + i) = M0.1 287 (80 * D + i)) → hp X d 192 161 [some (.ref 244), some (.int x1), some (.int x2), some (.int x3)] [] a M P) → hp X d 192 120 [some (.ref 244), some (.int x1), some (.int x2), some (.int x3)] [] a M P := by
  intro m
  induction m with
  | zero =>
    intro k x3 M hb h3 hM sM tM hI kk
    have e286 : M.1 286 D = M0.1 286 D := rg_e hM (Or.inl (by omega))
    have hs : (M.1 286 D).toInt = (s : Int) := by rw [e286]; exact hs0
    refine hp_il (pc' := 121) (j := 3) (Or.inr ⟨3, rfl, rfl, rfl⟩) rfl ?_
    refine hp_al (pc' := 122) (j := 0) (Or.inr ⟨0, rfl, rfl, rfl⟩) rfl ?_
    refine hp_gr (pc' := 125) ha (hM.1.2.1 244 53 286 rfl) rfl rfl rfl rfl ?_
    refine hp_il (pc' := 126) (j := 1) (Or.inr ⟨1, rfl, rfl, rfl⟩) rfl ?_
    refine hp_ld (pc' := 127) (j := D) ha h1 (by omega) rfl rfl rfl ?_
    refine hp_ige (t := 161) (pc' := 130) rfl rfl rfl (fun c1 => ?_) (fun c1 => ?_)
    · have e : k = s := by omega
      rw [e] at hI
      exact kk _ M hM sM tM hI
    · exfalso
      omega
  | succ m ih =>
    intro k x3 M hb h3 hM sM tM hI kk
    have e286 : M.1 286 D = M0.1 286 D := rg_e hM (Or.inl (by omega))
    have hs : (M.1 286 D).toInt = (s : Int) := by rw [e286]; exact hs0
    refine hp_il (pc' := 121) (j := 3) (Or.inr ⟨3, rfl, rfl, rfl⟩) rfl ?_
    refine hp_al (pc' := 122) (j := 0) (Or.inr ⟨0, rfl, rfl, rfl⟩) rfl ?_
    refine hp_gr (pc' := 125) ha (hM.1.2.1 244 53 286 rfl) rfl rfl rfl rfl ?_
    refine hp_il (pc' := 126) (j := 1) (Or.inr ⟨1, rfl, rfl, rfl⟩) rfl ?_
    refine hp_ld (pc' := 127) (j := D) ha h1 (by omega) rfl rfl rfl ?_
    refine hp_ige (t := 161) (pc' := 130) rfl rfl rfl (fun c1 => ?_) (fun c1 => ?_)
    · exfalso
      omega
    · refine hp_al (pc' := 131) (j := 0) (Or.inr ⟨0, rfl, rfl, rfl⟩) rfl ?_
      refine hp_gr (pc' := 134) ha (hM.1.2.1 244 15 256 rfl) rfl rfl rfl rfl ?_
      refine hp_bi (pc' := 136) (x := 6) rfl rfl rfl ?_
      refine hp_al (pc' := 137) (j := 0) (Or.inr ⟨0, rfl, rfl, rfl⟩) rfl ?_
      refine hp_gi (pc' := 140) (j := 7) (t := 0) ha rfl rfl rfl (by decide) rfl ?_
      refine hp_mul (pc' := 141) rfl rfl (fun z2 hz2 => ?_)
      have xz2 : z2.toInt = (((6 * E) : Nat) : Int) := hp_m6 sM (by omega) hz2
      refine hp_il (pc' := 142) (j := 3) (Or.inr ⟨3, rfl, rfl, rfl⟩) rfl ?_
      refine hp_add (pc' := 143) rfl rfl (fun z3 hz3 => ?_)
      have xz3 : z3.toInt = (((6 * E + k) : Nat) : Int) := hp_aa xz2 h3 (by omega) hz3
      refine hp_al (pc' := 144) (j := 0) (Or.inr ⟨0, rfl, rfl, rfl⟩) rfl ?_
      refine hp_gr (pc' := 147) ha (hM.1.2.1 244 54 287 rfl) rfl rfl rfl rfl ?_
      refine hp_bi (pc' := 149) (x := 80) rfl rfl rfl ?_
      refine hp_il (pc' := 150) (j := 1) (Or.inr ⟨1, rfl, rfl, rfl⟩) rfl ?_
      refine hp_mul (pc' := 151) rfl rfl (fun z4 hz4 => ?_)
      have xz4 : z4.toInt = (((80 * D) : Nat) : Int) := hp_m80 h1 (by omega) hz4
      refine hp_il (pc' := 152) (j := 3) (Or.inr ⟨3, rfl, rfl, rfl⟩) rfl ?_
      refine hp_add (pc' := 153) rfl rfl (fun z5 hz5 => ?_)
      have xz5 : z5.toInt = (((80 * D + k) : Nat) : Int) := hp_aa xz4 h3 (by omega) hz5
      refine hp_ld (pc' := 154) (j := (80 * D + k)) ha xz5 (by omega) rfl rfl rfl ?_
      refine hp_st (pc' := 155) (j := (6 * E + k)) ha xz3 (by omega) rfl rfl rfl (fun M6 eM6 gM6 => ?_)
      have e287 : M.1 287 (80 * D + k) = M0.1 287 (80 * D + k) := rg_e hM (Or.inl (by omega))
      have q287 := hK.1 k (by omega)
      have hM6 := ei_w hM (rg_wd 256 _ (by omega)) (show (0 : Int) ≤ ((M.1 287 (80 * D + k)) : Int32).toInt ∧ ((M.1 287 (80 * D + k)) : Int32).toInt ≤ 11 by rw [e287]; exact q287) (ei_G5 hM.1.2.2 (Or.inr ⟨rfl, by omega⟩)) eM6 gM6
      have sM6 : (M6.1 244 7).toInt = (E : Int) := by
        rw [eM6, hp_up_ne (by omega)]
        exact sM
      have tM6 : (M6.1 255 E).toInt = (s : Int) := by
        rw [eM6, hp_up_ne (by omega)]
        exact tM
      refine hp_in (pc' := 158) (j := 3) (ls' := [some (.ref 244), some (.int x1), some (.int x2), some (.int (x3 + Int32.ofInt 1))]) rfl rfl rfl rfl rfl ?_
      refine hp_go (t := 120) rfl rfl ?_
      exact ih (k + 1) _ M6 (by omega) (hp_i1 h3 (by omega)) hM6 sM6 tM6 (rg_I1 hI eM6 e287) kk
theorem rg_161 (ha : a.1 = rx_cells) (h1 : x1.toInt = (D : Int)) (hD : D < 8) (h2 : 1 ≤ x2.toInt) (hE : E < 150) {s : Nat} (hs2 : 2 ≤ s) (hs6 : s ≤ 6) (hK : ir_K M0 D s) (hM : ei_I ax_w_94 M0 a0 M a) (sM : (M.1 244 7).toInt = (E : Int)) (tM : (M.1 255 E).toInt = (s : Int)) (hI : (∀ i, i < s → M.1 256 (6 * E + i) = M0.1 287 (80 * D + i))) : hp X (d + 1) 192 161 [some (.ref 244), some (.int x1), some (.int x2), some (.int x3)] [] a M (hy_Q ax_w_94 (some (some ((-15), 149))) a0 M0) := by
  have i0 : M.1 287 (80 * D) = M0.1 287 (80 * D) := rg_e hM (Or.inl (by omega))
  have i1 : M.1 287 (80 * D + 1) = M0.1 287 (80 * D + 1) := rg_e hM (Or.inl (by omega))
  have b0 : 0 ≤ (M0.1 287 (80 * D)).toInt ∧ (M0.1 287 (80 * D)).toInt ≤ 11 := hK.1 0 (by omega)
  have b1 := hK.1 1 (by omega)
  refine hp_al (pc' := 162) (j := 0) (Or.inr ⟨0, rfl, rfl, rfl⟩) rfl ?_
  refine hp_ic (pc' := 163) (x := 5) rfl rfl rfl ?_
  refine hp_al (pc' := 164) (j := 0) (Or.inr ⟨0, rfl, rfl, rfl⟩) rfl ?_
  refine hp_gi (pc' := 167) (j := 2) (t := 0) ha rfl rfl rfl (by decide) rfl ?_
  refine hp_al (pc' := 168) (j := 0) (Or.inr ⟨0, rfl, rfl, rfl⟩) rfl ?_
  refine hp_gr (pc' := 171) ha (hM.1.2.1 244 54 287 rfl) rfl rfl rfl rfl ?_
  refine hp_bi (pc' := 173) (x := 80) rfl rfl rfl ?_
  refine hp_il (pc' := 174) (j := 1) (Or.inr ⟨1, rfl, rfl, rfl⟩) rfl ?_
  refine hp_mul (pc' := 175) rfl rfl (fun z1 hz1 => ?_)
  have xz1 : z1.toInt = (((80 * D) : Nat) : Int) := hp_m80 h1 (by omega) hz1
  refine hp_ld (pc' := 176) (j := (80 * D)) ha xz1 (by omega) rfl rfl rfl ?_
  refine hp_al (pc' := 177) (j := 0) (Or.inr ⟨0, rfl, rfl, rfl⟩) rfl ?_
  refine hp_gr (pc' := 180) ha (hM.1.2.1 244 54 287 rfl) rfl rfl rfl rfl ?_
  refine hp_bi (pc' := 182) (x := 80) rfl rfl rfl ?_
  refine hp_il (pc' := 183) (j := 1) (Or.inr ⟨1, rfl, rfl, rfl⟩) rfl ?_
  refine hp_mul (pc' := 184) rfl rfl (fun z2 hz2 => ?_)
  have xz2 : z2.toInt = (((80 * D) : Nat) : Int) := hp_m80 h1 (by omega) hz2
  refine hp_ic (pc' := 185) (x := 1) rfl rfl rfl ?_
  refine hp_add (pc' := 186) rfl rfl (fun z3 hz3 => ?_)
  have xz3 : z3.toInt = (((80 * D + 1) : Nat) : Int) := hp_aa xz2 rfl (by omega) hz3
  refine hp_ld (pc' := 187) (j := (80 * D + 1)) ha xz3 (by omega) rfl rfl rfl ?_
  refine hp_il (pc' := 188) (j := 2) (Or.inr ⟨2, rfl, rfl, rfl⟩) rfl ?_
  refine hp_ic (pc' := 189) (x := 0) rfl rfl rfl ?_
  refine hp_cv (Q := en_Q ax_w_94 M0 a0 E M a) (pc' := 192) (e := d) (vs := [.int (5 : Int32), .int (M.1 244 2), .int (M.1 287 (80 * D)), .int (M.1 287 (80 * D + 1)), .int x2, .int (0 : Int32)]) (r := []) ha rfl rfl rfl rfl rfl rfl rfl rfl (en_ok rg_wd ha hM sM hE rfl (hM.1.1 244 2) (by rw [i0]; omega) (by rw [i1]; omega) (by omega) (by decide) (fun i j q1 q2 q3 => by
      rw [hI i (by omega), hI j (by omega)]
      exact hK.2 i j q1 (by omega))) (fun o ho => ?_)
  obtain ⟨y4, M5, eo, hy4, hM5, sM5, tM5⟩ := ho
  subst eo
  refine ⟨_, rfl, ?_⟩
  show hp X (d + 1) 192 192 [some (.ref 244), some (.int x1), some (.int x2), some (.int x3)] [.int y4] a M5 _
  refine hp_ri rfl rfl ?_
  exact ei_Q hM5 (show (-15 : Int) ≤ (y4 : Int32).toInt ∧ (y4 : Int32).toInt ≤ 149 by omega) (by decide)
theorem rg_ok (ha : a.1 = rx_cells) (hJ : ax_J0 ax_sp ax_rf M) (h1 : x1.toInt = (D : Int)) (hD : D < 8) : hp X (d + 3) 192 0 [some (.ref 244), some (.int x1), some (.int x2), none] [] a M (hy_Q ax_w_94 (some (some ((-15), 149))) a M) := by
  have hM : ei_I ax_w_94 M a M a := ei_0 hJ ha
  have hE0 : 0 ≤ (M.1 244 7).toInt ∧ (M.1 244 7).toInt ≤ 150 := hJ.1 244 7
  have z0 : (0 : Int32).toInt = 0 := rfl
  have z1 : (1 : Int32).toInt = 1 := rfl
  have z7 : (7 : Int32).toInt = 7 := rfl
  have z150 : (150 : Int32).toInt = 150 := rfl
  have z1000 : (1000 : Int32).toInt = 1000 := rfl
  refine hp_al (pc' := 1) (j := 0) (Or.inr ⟨0, rfl, rfl, rfl⟩) rfl ?_
  refine hp_il (pc' := 2) (j := 1) (Or.inr ⟨1, rfl, rfl, rfl⟩) rfl ?_
  refine hp_ic (pc' := 3) (x := 0) rfl rfl rfl ?_
  refine hp_bi (pc' := 5) (x := 7) rfl rfl rfl ?_
  refine hp_cv (Q := fun o => ∃ r : Int32, o = (some (.int r), a, M) ∧ (r.toInt = 0 ∨ r.toInt = 1) ∧ (r.toInt ≠ 0 ↔ (((0 : Int32) : Int32).toInt ≤ (x1 : Int32).toInt ∧ (x1 : Int32).toInt ≤ ((7 : Int32) : Int32).toInt))) (pc' := 8) (e := (d + 2)) (vs := [.int x1, .int (0 : Int32), .int (7 : Int32)]) (r := []) ha rfl rfl rfl rfl rfl rfl rfl rfl in_ok (fun o ho => ?_)
  obtain ⟨r1, eo, qr1⟩ := ho
  subst eo
  refine ⟨_, rfl, ?_⟩
  show hp X ((d + 2) + 1) 192 8 [some (.ref 244), some (.int x1), some (.int x2), none] [.int r1] a M _
  refine hp_zeq (t := 23) (pc' := 11) rfl rfl rfl (fun c2 => ?_) (fun c2 => ?_)
  · refine hp_ic (pc' := 24) (x := (-1)) rfl rfl rfl ?_
    refine hp_ri rfl rfl ?_
    exact ei_Q hM (show (-15 : Int) ≤ ((-1 : Int32) : Int32).toInt ∧ ((-1 : Int32) : Int32).toInt ≤ 149 by first | decide | omega) (by decide)
  · refine hp_al (pc' := 12) (j := 0) (Or.inr ⟨0, rfl, rfl, rfl⟩) rfl ?_
    refine hp_il (pc' := 13) (j := 2) (Or.inr ⟨2, rfl, rfl, rfl⟩) rfl ?_
    refine hp_ic (pc' := 14) (x := 1) rfl rfl rfl ?_
    refine hp_si (pc' := 17) (x := 1000) rfl rfl rfl ?_
    refine hp_cv (Q := fun o => ∃ r : Int32, o = (some (.int r), a, M) ∧ (r.toInt = 0 ∨ r.toInt = 1) ∧ (r.toInt ≠ 0 ↔ (((1 : Int32) : Int32).toInt ≤ (x2 : Int32).toInt ∧ (x2 : Int32).toInt ≤ ((1000 : Int32) : Int32).toInt))) (pc' := 20) (e := (d + 2)) (vs := [.int x2, .int (1 : Int32), .int (1000 : Int32)]) (r := []) ha rfl rfl rfl rfl rfl rfl rfl rfl in_ok (fun o ho => ?_)
    obtain ⟨r3, eo, qr3⟩ := ho
    subst eo
    refine ⟨_, rfl, ?_⟩
    show hp X ((d + 2) + 1) 192 20 [some (.ref 244), some (.int x1), some (.int x2), none] [.int r3] a M _
    refine hp_zne (t := 25) (pc' := 23) rfl rfl rfl (fun c4 => ?_) (fun c4 => ?_)
    · have h2 : 1 ≤ x2.toInt ∧ x2.toInt ≤ 1000 := by
        have := qr3.2.mp (by assumption)
        omega
      refine hp_al (pc' := 26) (j := 0) (Or.inr ⟨0, rfl, rfl, rfl⟩) rfl ?_
      refine hp_gi (pc' := 29) (j := 7) (t := 0) ha rfl rfl rfl (by decide) rfl ?_
      refine hp_si (pc' := 32) (x := 150) rfl rfl rfl ?_
      refine hp_ine (t := 38) (pc' := 35) rfl rfl rfl (fun c5 => ?_) (fun c5 => ?_)
      · obtain ⟨E, sM, hE⟩ : ∃ E : Nat, (M.1 244 7).toInt = (E : Int) ∧ E < 150 := ⟨(M.1 244 7).toInt.toNat, by omega, by omega⟩
        refine hp_al (pc' := 39) (j := 0) (Or.inr ⟨0, rfl, rfl, rfl⟩) rfl ?_
        refine hp_il (pc' := 40) (j := 1) (Or.inr ⟨1, rfl, rfl, rfl⟩) rfl ?_
        refine hp_ic (pc' := 41) (x := 0) rfl rfl rfl ?_
        refine hp_cv (Q := fun o => ∃ r : Int32, o = (some (.int r), a, M) ∧ -12 ≤ r.toInt ∧ r.toInt ≤ 0) (pc' := 44) (e := (d + 2)) (vs := [.int x1, .int (0 : Int32)]) (r := []) ha rfl rfl rfl rfl rfl rfl rfl rfl (lt_ok ha hJ.2.1) (fun o ho => ?_)
        obtain ⟨r6, eo, qr6⟩ := ho
        subst eo
        refine ⟨_, rfl, ?_⟩
        show hp X ((d + 2) + 1) 192 44 [some (.ref 244), some (.int x1), some (.int x2), none] [.int r6] a M _
        refine hp_zeq (t := 54) (pc' := 47) rfl rfl rfl (fun c7 => ?_) (fun c7 => ?_)
        · refine hp_al (pc' := 55) (j := 0) (Or.inr ⟨0, rfl, rfl, rfl⟩) rfl ?_
          refine hp_il (pc' := 56) (j := 1) (Or.inr ⟨1, rfl, rfl, rfl⟩) rfl ?_
          refine hp_cv (Q := fun o => ∃ r : Int32, o = (some (.int r), a, M) ∧ (r.toInt = 0 ∨ r.toInt = 1) ∧ (r.toInt ≠ 0 → ir_T M D)) (pc' := 59) (e := (d + 2)) (vs := [.int x1]) (r := []) ha rfl rfl rfl rfl rfl rfl rfl rfl (ir_ok ha hJ h1 hD) (fun o ho => ?_)
          obtain ⟨r8, eo, qr8⟩ := ho
          subst eo
          refine ⟨_, rfl, ?_⟩
          show hp X ((d + 2) + 1) 192 59 [some (.ref 244), some (.int x1), some (.int x2), none] [.int r8] a M _
          refine hp_zne (t := 64) (pc' := 62) rfl rfl rfl (fun c9 => ?_) (fun c9 => ?_)
          · refine hp_ic (pc' := 65) (x := 0) rfl rfl rfl ?_
            refine hp_is (pc' := 66) (j := 3) (ls' := [some (.ref 244), some (.int x1), some (.int x2), some (.int (0 : Int32))]) (Or.inr ⟨3, rfl, rfl, rfl⟩) (by simp) rfl ?_
            obtain ⟨s, hs, hs2, hs6, hK⟩ := qr8.2 (by assumption)
            refine rg_66 ha hJ h1 hD hs hs6 s 0 _ (Nat.add_zero _) rfl (fun x3 => ?_) (ei_Q hM (by decide) (by decide))
            refine hp_al (pc' := 104) (j := 0) (Or.inr ⟨0, rfl, rfl, rfl⟩) rfl ?_
            refine hp_gr (pc' := 107) ha (hM.1.2.1 244 14 255 rfl) rfl rfl rfl rfl ?_
            refine hp_al (pc' := 108) (j := 0) (Or.inr ⟨0, rfl, rfl, rfl⟩) rfl ?_
            refine hp_gi (pc' := 111) (j := 7) (t := 0) ha rfl rfl rfl (by decide) rfl ?_
            refine hp_al (pc' := 112) (j := 0) (Or.inr ⟨0, rfl, rfl, rfl⟩) rfl ?_
            refine hp_gr (pc' := 115) ha (hM.1.2.1 244 53 286 rfl) rfl rfl rfl rfl ?_
            refine hp_il (pc' := 116) (j := 1) (Or.inr ⟨1, rfl, rfl, rfl⟩) rfl ?_
            refine hp_ld (pc' := 117) (j := D) ha h1 (by omega) rfl rfl rfl ?_
            refine hp_st (pc' := 118) (j := E) ha sM (by omega) rfl rfl rfl (fun M41 eM41 gM41 => ?_)
            have hM41 := ei_w hM (rg_wd 255 _ (by omega)) (show (0 : Int) ≤ ((M.1 286 D) : Int32).toInt ∧ ((M.1 286 D) : Int32).toInt ≤ 6 by omega) (ei_G5 hM.1.2.2 (Or.inl ⟨rfl, by omega⟩)) eM41 gM41
            have sM41 : (M41.1 244 7).toInt = (E : Int) := by
              rw [eM41, hp_up_ne (by omega)]
              exact sM
            have tM41 : (M41.1 255 E).toInt = (s : Int) := by
              rw [eM41, hp_up_eq]
              exact hs
            refine hp_ic (pc' := 119) (x := 0) rfl rfl rfl ?_
            refine hp_is (pc' := 120) (j := 3) (ls' := [some (.ref 244), some (.int x1), some (.int x2), some (.int (0 : Int32))]) (Or.inr ⟨3, rfl, rfl, rfl⟩) (by simp) rfl ?_
            refine rg_120 (d := d + 3) ha h1 hD hE hs6 hK hs s 0 _ M41 (Nat.add_zero _) rfl hM41 sM41 tM41 (fun i hi => absurd hi (Nat.not_lt_zero _)) (fun x3 M1 hM1 sM1 tM1 hI => ?_)
            exact rg_161 (d := d + 2) ha h1 hD h2.1 hE hs2 hs6 hK hM1 sM1 tM1 hI
          · refine hp_ic (pc' := 63) (x := (-1)) rfl rfl rfl ?_
            refine hp_ri rfl rfl ?_
            exact ei_Q hM (show (-15 : Int) ≤ ((-1 : Int32) : Int32).toInt ∧ ((-1 : Int32) : Int32).toInt ≤ 149 by first | decide | omega) (by decide)
        · refine hp_al (pc' := 48) (j := 0) (Or.inr ⟨0, rfl, rfl, rfl⟩) rfl ?_
          refine hp_il (pc' := 49) (j := 1) (Or.inr ⟨1, rfl, rfl, rfl⟩) rfl ?_
          refine hp_ic (pc' := 50) (x := 0) rfl rfl rfl ?_
          refine hp_cv (Q := fun o => ∃ r : Int32, o = (some (.int r), a, M) ∧ -12 ≤ r.toInt ∧ r.toInt ≤ 0) (pc' := 53) (e := (d + 2)) (vs := [.int x1, .int (0 : Int32)]) (r := []) ha rfl rfl rfl rfl rfl rfl rfl rfl (lt_ok ha hJ.2.1) (fun o ho => ?_)
          obtain ⟨r10, eo, qr10⟩ := ho
          subst eo
          refine ⟨_, rfl, ?_⟩
          show hp X ((d + 2) + 1) 192 53 [some (.ref 244), some (.int x1), some (.int x2), none] [.int r10] a M _
          refine hp_ri rfl rfl ?_
          exact ei_Q hM (show (-15 : Int) ≤ (r10 : Int32).toInt ∧ (r10 : Int32).toInt ≤ 149 by first | decide | omega) (by decide)
      · refine hp_bi (pc' := 37) (x := (-2)) rfl rfl rfl ?_
        refine hp_ri rfl rfl ?_
        exact ei_Q hM (show (-15 : Int) ≤ ((-2 : Int32) : Int32).toInt ∧ ((-2 : Int32) : Int32).toInt ≤ 149 by first | decide | omega) (by decide)
    · refine hp_ic (pc' := 24) (x := (-1)) rfl rfl rfl ?_
      refine hp_ri rfl rfl ?_
      exact ei_Q hM (show (-15 : Int) ≤ ((-1 : Int32) : Int32).toInt ∧ ((-1 : Int32) : Int32).toInt ≤ 149 by first | decide | omega) (by decide)
theorem rg_out {w : ax_D} (ha : a.1 = rx_cells) (hJ : ax_J0 ax_sp ax_rf M) (h1 : x1.toInt < 0 ∨ 7 < x1.toInt) : hp X (d + 1) 192 0 [some (.ref 244), some (.int x1), some (.int x2), none] [] a M (hy_Q w (some (some ((-1), (-1)))) a M) := by
  have z0 : (0 : Int32).toInt = 0 := rfl
  have z7 : (7 : Int32).toInt = 7 := rfl
  refine hp_al (pc' := 1) (j := 0) (Or.inr ⟨0, rfl, rfl, rfl⟩) rfl ?_
  refine hp_il (pc' := 2) (j := 1) (Or.inr ⟨1, rfl, rfl, rfl⟩) rfl ?_
  refine hp_ic (pc' := 3) (x := 0) rfl rfl rfl ?_
  refine hp_bi (pc' := 5) (x := 7) rfl rfl rfl ?_
  refine hp_cv (Q := fun o => ∃ r : Int32, o = (some (.int r), a, M) ∧ (r.toInt = 0 ∨ r.toInt = 1) ∧ (r.toInt ≠ 0 ↔ (((0 : Int32) : Int32).toInt ≤ (x1 : Int32).toInt ∧ (x1 : Int32).toInt ≤ ((7 : Int32) : Int32).toInt))) (pc' := 8) (e := d) (vs := [.int x1, .int (0 : Int32), .int (7 : Int32)]) (r := []) ha rfl rfl rfl rfl rfl rfl rfl rfl in_ok (fun o ho => ?_)
  obtain ⟨r1, eo, qr1⟩ := ho
  subst eo
  refine ⟨_, rfl, ?_⟩
  show hp X (d + 1) 192 8 [some (.ref 244), some (.int x1), some (.int x2), none] [.int r1] a M _
  refine hp_zeq (t := 23) (pc' := 11) rfl rfl rfl (fun c2 => ?_) (fun c2 => ?_)
  · refine hp_ic (pc' := 24) (x := (-1)) rfl rfl rfl ?_
    refine hp_ri rfl rfl ?_
    exact ei_Q (ei_0 hJ ha) (by decide) (by decide)
  · exfalso
    have := qr1.2.mp (by assumption)
    omega
end RG
theorem ax_y_92 {X : Nat × (Nat → Int32)} : ax_Y1 X ax_sp ax_rf ax_s_92 := hy_Y (c := ax_c_92_0) (D := 1) (fun v M a d hd hE _ hJ ha => by
  obtain ⟨e, rfl⟩ : ∃ e, d = e + 1 := ⟨d - 1, by omega⟩
  have hv : (-2147483648 : Int) ≤ (v 0).1.toInt ∧ (v 0).1.toInt ≤ -1 := hE.1 0
  exact rg_out (d := e) (x1 := (v 0).1) (x2 := (v 1).1) ha hJ (by omega))
theorem ax_y_93 {X : Nat × (Nat → Int32)} : ax_Y1 X ax_sp ax_rf ax_s_93 := hy_Y (c := ax_c_93_0) (D := 1) (fun v M a d hd hE _ hJ ha => by
  obtain ⟨e, rfl⟩ : ∃ e, d = e + 1 := ⟨d - 1, by omega⟩
  have hv : (8 : Int) ≤ (v 0).1.toInt ∧ (v 0).1.toInt ≤ 2147483647 := hE.1 0
  exact rg_out (d := e) (x1 := (v 0).1) (x2 := (v 1).1) ha hJ (by omega))
theorem ax_y_94 {X : Nat × (Nat → Int32)} : ax_Y1 X ax_sp ax_rf ax_s_94 := hy_Y (c := ax_c_94_0) (D := 3) (fun v M a d hd hE _ hJ ha => by
  obtain ⟨e, rfl⟩ : ∃ e, d = e + 3 := ⟨d - 3, by omega⟩
  have hv : (0 : Int) ≤ (v 0).1.toInt ∧ (v 0).1.toInt ≤ 0 := hE.1 0
  exact rg_ok (d := e) (D := 0) (x1 := (v 0).1) (x2 := (v 1).1) ha hJ (by omega) (by decide))
theorem ax_y_95 {X : Nat × (Nat → Int32)} : ax_Y1 X ax_sp ax_rf ax_s_95 := hy_Y (c := ax_c_95_0) (D := 3) (fun v M a d hd hE _ hJ ha => by
  obtain ⟨e, rfl⟩ : ∃ e, d = e + 3 := ⟨d - 3, by omega⟩
  have hv : (1 : Int) ≤ (v 0).1.toInt ∧ (v 0).1.toInt ≤ 1 := hE.1 0
  exact rg_ok (d := e) (D := 1) (x1 := (v 0).1) (x2 := (v 1).1) ha hJ (by omega) (by decide))
theorem ax_y_96 {X : Nat × (Nat → Int32)} : ax_Y1 X ax_sp ax_rf ax_s_96 := hy_Y (c := ax_c_96_0) (D := 3) (fun v M a d hd hE _ hJ ha => by
  obtain ⟨e, rfl⟩ : ∃ e, d = e + 3 := ⟨d - 3, by omega⟩
  have hv : (2 : Int) ≤ (v 0).1.toInt ∧ (v 0).1.toInt ≤ 2 := hE.1 0
  exact rg_ok (d := e) (D := 2) (x1 := (v 0).1) (x2 := (v 1).1) ha hJ (by omega) (by decide))
theorem ax_y_97 {X : Nat × (Nat → Int32)} : ax_Y1 X ax_sp ax_rf ax_s_97 := hy_Y (c := ax_c_97_0) (D := 3) (fun v M a d hd hE _ hJ ha => by
  obtain ⟨e, rfl⟩ : ∃ e, d = e + 3 := ⟨d - 3, by omega⟩
  have hv : (3 : Int) ≤ (v 0).1.toInt ∧ (v 0).1.toInt ≤ 3 := hE.1 0
  exact rg_ok (d := e) (D := 3) (x1 := (v 0).1) (x2 := (v 1).1) ha hJ (by omega) (by decide))
theorem ax_y_98 {X : Nat × (Nat → Int32)} : ax_Y1 X ax_sp ax_rf ax_s_98 := hy_Y (c := ax_c_98_0) (D := 3) (fun v M a d hd hE _ hJ ha => by
  obtain ⟨e, rfl⟩ : ∃ e, d = e + 3 := ⟨d - 3, by omega⟩
  have hv : (4 : Int) ≤ (v 0).1.toInt ∧ (v 0).1.toInt ≤ 4 := hE.1 0
  exact rg_ok (d := e) (D := 4) (x1 := (v 0).1) (x2 := (v 1).1) ha hJ (by omega) (by decide))
theorem ax_y_99 {X : Nat × (Nat → Int32)} : ax_Y1 X ax_sp ax_rf ax_s_99 := hy_Y (c := ax_c_99_0) (D := 3) (fun v M a d hd hE _ hJ ha => by
  obtain ⟨e, rfl⟩ : ∃ e, d = e + 3 := ⟨d - 3, by omega⟩
  have hv : (5 : Int) ≤ (v 0).1.toInt ∧ (v 0).1.toInt ≤ 5 := hE.1 0
  exact rg_ok (d := e) (D := 5) (x1 := (v 0).1) (x2 := (v 1).1) ha hJ (by omega) (by decide))
theorem ax_y_100 {X : Nat × (Nat → Int32)} : ax_Y1 X ax_sp ax_rf ax_s_100 := hy_Y (c := ax_c_100_0) (D := 3) (fun v M a d hd hE _ hJ ha => by
  obtain ⟨e, rfl⟩ : ∃ e, d = e + 3 := ⟨d - 3, by omega⟩
  have hv : (6 : Int) ≤ (v 0).1.toInt ∧ (v 0).1.toInt ≤ 6 := hE.1 0
  exact rg_ok (d := e) (D := 6) (x1 := (v 0).1) (x2 := (v 1).1) ha hJ (by omega) (by decide))
theorem ax_y_101 {X : Nat × (Nat → Int32)} : ax_Y1 X ax_sp ax_rf ax_s_101 := hy_Y (c := ax_c_101_0) (D := 3) (fun v M a d hd hE _ hJ ha => by
  obtain ⟨e, rfl⟩ : ∃ e, d = e + 3 := ⟨d - 3, by omega⟩
  have hv : (7 : Int) ≤ (v 0).1.toInt ∧ (v 0).1.toInt ≤ 7 := hE.1 0
  exact rg_ok (d := e) (D := 7) (x1 := (v 0).1) (x2 := (v 1).1) ha hJ (by omega) (by decide))
