/-! the reference's findOwed, by hand -/
section FFO
variable {X : Nat × (Nat → Int32)} {d e : Nat} {a a0 : rx_K} {M0 M : rx_M} {P : rx_O → Prop} {x1 x2 x3 x4 x5 : Int32} {o6 o7 : Option Value} {c : Int}
theorem ff_z {M M1 : rx_M} {k : Nat} (h : ∀ j, j < k → (M.1 268 j).toInt = 0) (e : M1.1 = rx_up M.1 268 k 0) : ∀ j, j < k + 1 → (M1.1 268 j).toInt = 0 := by
  intro j hj
  rw [e]
  by_cases q : j = k
  · rw [q, hp_up_eq]
    rfl
  · rw [hp_up_ne (fun z => q z.2)]
    exact h j (by omega)
theorem ff_T0 {f : Nat → Int32} : ∀ n, (∀ i, i < n → (f i).toInt = 0) → fo_T f n = 0
  | 0, _ => rfl
  | n + 1, h => by
    show fo_T f n + (f n).toInt = 0
    rw [ff_T0 n (fun i hi => h i (by omega)), h n (by omega)]
    rfl
theorem ff_S0 {M : rx_M} (h : ∀ j, j < 144 → (M.1 268 j).toInt = 0) : fo_S 0 M := ⟨fun j hj => by rw [h j hj]; exact Int.le_refl _, by rw [ff_T0 144 h]; exact Int.le_refl _⟩
theorem ff_3 (ha : a.1 = rx_cells) : ∀ (m j : Nat) (x4 : Int32) (M : rx_M), m + j = 144 → x4.toInt = (j : Int) → fo_I M0 a0 M a → (∀ i, i < j → (M.1 268 i).toInt = 0) → (∀ x M1, fo_I M0 a0 M1 a → (∀ i, i < 144 → (M1.1 268 i).toInt = 0) → hp X d 202 25 [some (.ref 244), some (.int x1), some (.int x2), some (.int x3), some (.int x), none, none, none] [] a M1 P) → hp X d 202 3 [some (.ref 244), some (.int x1), some (.int x2), some (.int x3), some (.int x4), none, none, none] [] a M P := by
  intro m
  induction m with
  | zero =>
    intro j x4 M hb h4 hM hI kk
    have c144 : (144 : Int32).toInt = 144 := rfl
    refine hp_il (pc' := 5) (j := 4) (Or.inl ⟨rfl, rfl⟩) rfl ?_
    refine hp_si (pc' := 8) (x := 144) rfl rfl rfl ?_
    refine hp_ige (t := 25) (pc' := 11) rfl rfl rfl (fun c1 => ?_) (fun c1 => ?_)
    · have e : j = 144 := by omega
      subst e
      exact kk x4 M hM hI
    · exfalso
      omega
  | succ m ih =>
    intro j x4 M hb h4 hM hI kk
    have c144 : (144 : Int32).toInt = 144 := rfl
    refine hp_il (pc' := 5) (j := 4) (Or.inl ⟨rfl, rfl⟩) rfl ?_
    refine hp_si (pc' := 8) (x := 144) rfl rfl rfl ?_
    refine hp_ige (t := 25) (pc' := 11) rfl rfl rfl (fun c1 => ?_) (fun c1 => ?_)
    · exfalso
      omega
    · refine hp_al (pc' := 12) (j := 0) (Or.inr ⟨0, rfl, rfl, rfl⟩) rfl ?_
      refine hp_gr (pc' := 15) ha (hM.1 244 31 268 rfl) rfl rfl rfl rfl ?_
      refine hp_il (pc' := 17) (j := 4) (Or.inl ⟨rfl, rfl⟩) rfl ?_
      refine hp_ic (pc' := 18) (x := 0) rfl rfl rfl ?_
      refine hp_st (pc' := 19) (j := j) ha h4 (by omega) rfl rfl rfl (fun M2 eM2 gM2 => ?_)
      have hM2 := fo_w hM eM2 gM2
      refine hp_in (pc' := 22) (j := 4) (ls' := [some (.ref 244), some (.int x1), some (.int x2), some (.int x3), some (.int (x4 + Int32.ofInt 1)), none, none, none]) rfl rfl rfl rfl rfl ?_
      refine hp_go (t := 3) rfl rfl ?_
      exact ih (j + 1) _ M2 (by omega) (hp_i1 h4 (by omega)) hM2 (ff_z hI eM2) kk
theorem ff_44 (ha : a.1 = rx_cells) (hM : hp_R M ∧ True) (h2 : x2.toInt = (e : Int)) (he : e ≤ 150) : ∀ (m i : Nat) (x6 x7 : Int32), m + i = e → x7.toInt = (i : Int) → x4.toInt < x6.toInt → x6.toInt ≤ 521 → (∀ x6 x7 : Int32, x4.toInt < x6.toInt → x6.toInt ≤ 521 → hp X d 202 89 [some (.ref 244), some (.int x1), some (.int x2), some (.int x3), some (.int x4), some (.int x5), some (.int x6), some (.int x7)] [] a M P) → hp X d 202 44 [some (.ref 244), some (.int x1), some (.int x2), some (.int x3), some (.int x4), some (.int x5), some (.int x6), some (.int x7)] [] a M P := by
  intro m
  induction m with
  | zero =>
    intro i x6 x7 hb h7 hl hh kk
    refine hp_il (pc' := 46) (j := 7) (Or.inl ⟨rfl, rfl⟩) rfl ?_
    refine hp_il (pc' := 47) (j := 2) (Or.inr ⟨2, rfl, rfl, rfl⟩) rfl ?_
    refine hp_ige (t := 89) (pc' := 50) rfl rfl rfl (fun c1 => ?_) (fun c1 => ?_)
    · exact kk _ _ hl hh
    · exfalso
      omega
  | succ m ih =>
    intro i x6 x7 hb h7 hl hh kk
    refine hp_il (pc' := 46) (j := 7) (Or.inl ⟨rfl, rfl⟩) rfl ?_
    refine hp_il (pc' := 47) (j := 2) (Or.inr ⟨2, rfl, rfl, rfl⟩) rfl ?_
    refine hp_ige (t := 89) (pc' := 50) rfl rfl rfl (fun c1 => ?_) (fun c1 => ?_)
    · exfalso
      omega
    · refine hp_al (pc' := 51) (j := 0) (Or.inr ⟨0, rfl, rfl, rfl⟩) rfl ?_
      refine hp_gr (pc' := 54) ha (hM.1 244 9 250 rfl) rfl rfl rfl rfl ?_
      refine hp_il (pc' := 56) (j := 7) (Or.inl ⟨rfl, rfl⟩) rfl ?_
      refine hp_ld (pc' := 57) (j := i) ha h7 (by omega) rfl rfl rfl ?_
      refine hp_il (pc' := 59) (j := 4) (Or.inl ⟨rfl, rfl⟩) rfl ?_
      refine hp_ile (t := 83) (pc' := 62) rfl rfl rfl (fun c2 => ?_) (fun c2 => ?_)
      · refine hp_in (pc' := 86) (j := 7) (ls' := [some (.ref 244), some (.int x1), some (.int x2), some (.int x3), some (.int x4), some (.int x5), some (.int x6), some (.int (x7 + Int32.ofInt 1))]) rfl rfl rfl rfl rfl ?_
        refine hp_go (t := 44) rfl rfl ?_
        exact ih (i + 1) _ _ (by omega) (hp_i1 h7 (by omega)) (by omega) (by omega) kk
      · refine hp_al (pc' := 63) (j := 0) (Or.inr ⟨0, rfl, rfl, rfl⟩) rfl ?_
        refine hp_gr (pc' := 66) ha (hM.1 244 9 250 rfl) rfl rfl rfl rfl ?_
        refine hp_il (pc' := 68) (j := 7) (Or.inl ⟨rfl, rfl⟩) rfl ?_
        refine hp_ld (pc' := 69) (j := i) ha h7 (by omega) rfl rfl rfl ?_
        refine hp_il (pc' := 71) (j := 6) (Or.inl ⟨rfl, rfl⟩) rfl ?_
        refine hp_ige (t := 83) (pc' := 74) rfl rfl rfl (fun c3 => ?_) (fun c3 => ?_)
        · refine hp_in (pc' := 86) (j := 7) (ls' := [some (.ref 244), some (.int x1), some (.int x2), some (.int x3), some (.int x4), some (.int x5), some (.int x6), some (.int (x7 + Int32.ofInt 1))]) rfl rfl rfl rfl rfl ?_
          refine hp_go (t := 44) rfl rfl ?_
          exact ih (i + 1) _ _ (by omega) (hp_i1 h7 (by omega)) (by omega) (by omega) kk
        · refine hp_al (pc' := 75) (j := 0) (Or.inr ⟨0, rfl, rfl, rfl⟩) rfl ?_
          refine hp_gr (pc' := 78) ha (hM.1 244 9 250 rfl) rfl rfl rfl rfl ?_
          refine hp_il (pc' := 80) (j := 7) (Or.inl ⟨rfl, rfl⟩) rfl ?_
          refine hp_ld (pc' := 81) (j := i) ha h7 (by omega) rfl rfl rfl ?_
          refine hp_is (pc' := 83) (j := 6) (ls' := [some (.ref 244), some (.int x1), some (.int x2), some (.int x3), some (.int x4), some (.int x5), some (.int (M.1 250 i)), some (.int x7)]) (Or.inl ⟨rfl, rfl⟩) (by simp) rfl ?_
          refine hp_in (pc' := 86) (j := 7) (ls' := [some (.ref 244), some (.int x1), some (.int x2), some (.int x3), some (.int x4), some (.int x5), some (.int (M.1 250 i)), some (.int (x7 + Int32.ofInt 1))]) rfl rfl rfl rfl rfl ?_
          refine hp_go (t := 44) rfl rfl ?_
          exact ih (i + 1) _ _ (by omega) (hp_i1 h7 (by omega)) (by omega) (by omega) kk
theorem ff_105 (hd : 5 ≤ d) (hJ0 : ax_J0 ax_sp ax_rf M0) (he : (e : Int) ≤ (M0.1 244 7).toInt) (h2 : x2.toInt = (e : Int)) (h3 : 0 ≤ x3.toInt ∧ x3.toInt ≤ 13) {x6 : Int32} : ∀ (m i : Nat) (x7 : Int32) (M : rx_M) (a : rx_K) (c : Int), m + i = e → x7.toInt = (i : Int) → a.1 = rx_cells → fo_I M0 a0 M a → fo_S c M → c + 60 * m ≤ 134217728 → (∀ M a x7, a.1 = rx_cells → fo_I M0 a0 M a → fo_S (c + 60 * m) M → hp X (d + 2) 202 142 [some (.ref 244), some (.int x1), some (.int x2), some (.int x3), some (.int x4), some (.int x5), some (.int x6), some (.int x7)] [] a M P) → hp X (d + 2) 202 105 [some (.ref 244), some (.int x1), some (.int x2), some (.int x3), some (.int x4), some (.int x5), some (.int x6), some (.int x7)] [] a M P := by
  intro m
  induction m with
  | zero =>
    intro i x7 M a c hb h7 ha hM hS hc kk
    have hE : 0 ≤ (M0.1 244 7).toInt ∧ (M0.1 244 7).toInt ≤ 150 := hJ0.1 244 7
    refine hp_il (pc' := 107) (j := 7) (Or.inl ⟨rfl, rfl⟩) rfl ?_
    refine hp_il (pc' := 108) (j := 2) (Or.inr ⟨2, rfl, rfl, rfl⟩) rfl ?_
    refine hp_ige (t := 142) (pc' := 111) rfl rfl rfl (fun c1 => ?_) (fun c1 => ?_)
    · exact kk _ _ _ ha hM (fo_Sm hS (by omega))
    · exfalso
      omega
  | succ m ih =>
    intro i x7 M a c hb h7 ha hM hS hc kk
    have hE : 0 ≤ (M0.1 244 7).toInt ∧ (M0.1 244 7).toInt ≤ 150 := hJ0.1 244 7
    refine hp_il (pc' := 107) (j := 7) (Or.inl ⟨rfl, rfl⟩) rfl ?_
    refine hp_il (pc' := 108) (j := 2) (Or.inr ⟨2, rfl, rfl, rfl⟩) rfl ?_
    refine hp_ige (t := 142) (pc' := 111) rfl rfl rfl (fun c1 => ?_) (fun c1 => ?_)
    · exact kk _ _ _ ha hM (fo_Sm hS (by omega))
    · refine hp_il (pc' := 113) (j := 5) (Or.inl ⟨rfl, rfl⟩) rfl ?_
      refine hp_zeq (t := 142) (pc' := 116) rfl rfl rfl (fun c2 => ?_) (fun c2 => ?_)
      · exact kk _ _ _ ha hM (fo_Sm hS (by omega))
      · refine hp_al (pc' := 117) (j := 0) (Or.inr ⟨0, rfl, rfl, rfl⟩) rfl ?_
        refine hp_gr (pc' := 120) ha (hM.1 244 9 250 rfl) rfl rfl rfl rfl ?_
        refine hp_il (pc' := 122) (j := 7) (Or.inl ⟨rfl, rfl⟩) rfl ?_
        refine hp_ld (pc' := 123) (j := i) ha h7 (by omega) rfl rfl rfl ?_
        refine hp_il (pc' := 125) (j := 6) (Or.inl ⟨rfl, rfl⟩) rfl ?_
        refine hp_ine (t := 136) (pc' := 128) rfl rfl rfl (fun c3 => ?_) (fun c3 => ?_)
        · refine hp_in (pc' := 139) (j := 7) (ls' := [some (.ref 244), some (.int x1), some (.int x2), some (.int x3), some (.int x4), some (.int x5), some (.int x6), some (.int (x7 + Int32.ofInt 1))]) rfl rfl rfl rfl rfl ?_
          refine hp_go (t := 105) rfl rfl ?_
          exact ih (i + 1) _ M a (c + 60) (by omega) (hp_i1 h7 (by omega)) ha hM (fo_Sm hS (by omega)) (by omega) (fun M1 a1 x q1 q2 q3 => kk M1 a1 x q1 q2 (fo_Sm q3 (by omega)))
        · refine hp_al (pc' := 129) (j := 0) (Or.inr ⟨0, rfl, rfl, rfl⟩) rfl ?_
          refine hp_il (pc' := 131) (j := 7) (Or.inl ⟨rfl, rfl⟩) rfl ?_
          refine hp_il (pc' := 132) (j := 2) (Or.inr ⟨2, rfl, rfl, rfl⟩) rfl ?_
          refine hp_il (pc' := 133) (j := 3) (Or.inr ⟨3, rfl, rfl, rfl⟩) rfl ?_
          refine hp_cv (Q := gb_Q M0 a0 (c + 60)) (pc' := 136) (e := d + 1) (vs := [.int x7, .int x2, .int x3]) (r := []) ha rfl rfl rfl rfl rfl rfl rfl rfl (gb_ok hd ha hJ0 (by omega) he h7 h2 h3 (by omega) hM hS) (fun o ho => ?_)
          obtain ⟨o1, ac, Mc⟩ := o
          obtain ⟨eo, hMc, hSc⟩ := ho
          dsimp only at eo hMc hSc
          subst eo
          refine ⟨_, rfl, ?_⟩
          have hac : ac.1 = rx_cells := hMc.2.2.2.1
          have ha := hac
          show hp X (d + 2) 202 136 [some (.ref 244), some (.int x1), some (.int x2), some (.int x3), some (.int x4), some (.int x5), some (.int x6), some (.int x7)] [] ac Mc _
          refine hp_in (pc' := 139) (j := 7) (ls' := [some (.ref 244), some (.int x1), some (.int x2), some (.int x3), some (.int x4), some (.int x5), some (.int x6), some (.int (x7 + Int32.ofInt 1))]) rfl rfl rfl rfl rfl ?_
          refine hp_go (t := 105) rfl rfl ?_
          exact ih (i + 1) _ Mc ac (c + 60) (by omega) (hp_i1 h7 (by omega)) ha hMc hSc (by omega) (fun M1 a1 x q1 q2 q3 => kk M1 a1 x q1 q2 (fo_Sm q3 (by omega)))
theorem ff_31 (hd : 5 ≤ d) (hJ0 : ax_J0 ax_sp ax_rf M0) (he : (e : Int) ≤ (M0.1 244 7).toInt) (h1 : x1.toInt ≤ 520) (h2 : x2.toInt = (e : Int)) (h3 : 0 ≤ x3.toInt ∧ x3.toInt ≤ 13) : ∀ (m : Nat) (x4 x5 : Int32) (o6 o7 : Option Value) (M : rx_M) (a : rx_K), 521 - x4.toInt < m → -1 ≤ x4.toInt → x4.toInt ≤ 521 → (x5.toInt ≠ 0 → x4.toInt ≤ 520) → a.1 = rx_cells → fo_I M0 a0 M a → fo_S (9000 * (x4.toInt + 1)) M → hp X (d + 2) 202 31 [some (.ref 244), some (.int x1), some (.int x2), some (.int x3), some (.int x4), some (.int x5), o6, o7] [] a M (gb_Q M0 a0 4698000) := by
  intro m
  induction m with
  | zero =>
    intro x4 x5 o6 o7 M a hm hl hh hx ha hM hS
    exfalso
    omega
  | succ m ih =>
    intro x4 x5 o6 o7 M a hm hl hh hx ha hM hS
    have hE : 0 ≤ (M0.1 244 7).toInt ∧ (M0.1 244 7).toInt ≤ 150 := hJ0.1 244 7
    have c521 : (521 : Int32).toInt = 521 := rfl
    refine hp_il (pc' := 33) (j := 5) (Or.inl ⟨rfl, rfl⟩) rfl ?_
    refine hp_zeq (t := 149) (pc' := 36) rfl rfl rfl (fun c1 => ?_) (fun c1 => ?_)
    · refine hp_rv rfl rfl ?_
      exact ⟨rfl, hM, fo_Sm hS (by omega)⟩
    · refine hp_si (pc' := 39) (x := 521) rfl rfl rfl ?_
      refine hp_is (pc' := 41) (j := 6) (ls' := [some (.ref 244), some (.int x1), some (.int x2), some (.int x3), some (.int x4), some (.int x5), some (.int (521 : Int32)), o7]) (Or.inl ⟨rfl, rfl⟩) (by simp) rfl ?_
      refine hp_ic (pc' := 42) (x := 0) rfl rfl rfl ?_
      refine hp_is (pc' := 44) (j := 7) (ls' := [some (.ref 244), some (.int x1), some (.int x2), some (.int x3), some (.int x4), some (.int x5), some (.int (521 : Int32)), some (.int (0 : Int32))]) (Or.inl ⟨rfl, rfl⟩) (by simp) rfl ?_
      refine ff_44 ha ⟨hM.1, trivial⟩ h2 (by omega) e 0 _ _ (Nat.add_zero _) rfl (by omega) (by omega) (fun x6 x7 hl hh => ?_)
      refine hp_il (pc' := 91) (j := 6) (Or.inl ⟨rfl, rfl⟩) rfl ?_
      refine hp_il (pc' := 92) (j := 1) (Or.inr ⟨1, rfl, rfl, rfl⟩) rfl ?_
      refine hp_igt (t := 99) (pc' := 95) rfl rfl rfl (fun c41 => ?_) (fun c41 => ?_)
      · refine hp_ic (pc' := 100) (x := 0) rfl rfl rfl ?_
        refine hp_is (pc' := 102) (j := 5) (ls' := [some (.ref 244), some (.int x1), some (.int x2), some (.int x3), some (.int x4), some (.int (0 : Int32)), some (.int x6), some (.int x7)]) (Or.inl ⟨rfl, rfl⟩) (by simp) rfl ?_
        refine hp_ic (pc' := 103) (x := 0) rfl rfl rfl ?_
        refine hp_is (pc' := 105) (j := 7) (ls' := [some (.ref 244), some (.int x1), some (.int x2), some (.int x3), some (.int x4), some (.int (0 : Int32)), some (.int x6), some (.int (0 : Int32))]) (Or.inl ⟨rfl, rfl⟩) (by simp) rfl ?_
        refine ff_105 hd hJ0 he h2 h3 e 0 _ M a _ (Nat.add_zero _) rfl ha hM hS (by omega) (fun Mn an x7 ha hMn hSn => ?_)
        refine hp_il (pc' := 144) (j := 6) (Or.inl ⟨rfl, rfl⟩) rfl ?_
        refine hp_is (pc' := 146) (j := 4) (ls' := [some (.ref 244), some (.int x1), some (.int x2), some (.int x3), some (.int x6), some (.int (0 : Int32)), some (.int x6), some (.int x7)]) (Or.inl ⟨rfl, rfl⟩) (by simp) rfl ?_
        refine hp_go (t := 31) rfl rfl ?_
        exact ih _ _ _ _ Mn an (by omega) (by omega) hh (fun q => absurd rfl q) ha hMn (fo_Sm hSn (by omega))
      · refine hp_ic (pc' := 96) (x := 1) rfl rfl rfl ?_
        refine hp_go (t := 100) rfl rfl ?_
        refine hp_is (pc' := 102) (j := 5) (ls' := [some (.ref 244), some (.int x1), some (.int x2), some (.int x3), some (.int x4), some (.int (1 : Int32)), some (.int x6), some (.int x7)]) (Or.inl ⟨rfl, rfl⟩) (by simp) rfl ?_
        refine hp_ic (pc' := 103) (x := 0) rfl rfl rfl ?_
        refine hp_is (pc' := 105) (j := 7) (ls' := [some (.ref 244), some (.int x1), some (.int x2), some (.int x3), some (.int x4), some (.int (1 : Int32)), some (.int x6), some (.int (0 : Int32))]) (Or.inl ⟨rfl, rfl⟩) (by simp) rfl ?_
        refine ff_105 hd hJ0 he h2 h3 e 0 _ M a _ (Nat.add_zero _) rfl ha hM hS (by omega) (fun Mn an x7 ha hMn hSn => ?_)
        refine hp_il (pc' := 144) (j := 6) (Or.inl ⟨rfl, rfl⟩) rfl ?_
        refine hp_is (pc' := 146) (j := 4) (ls' := [some (.ref 244), some (.int x1), some (.int x2), some (.int x3), some (.int x6), some (.int (1 : Int32)), some (.int x6), some (.int x7)]) (Or.inl ⟨rfl, rfl⟩) (by simp) rfl ?_
        refine hp_go (t := 31) rfl rfl ?_
        exact ih _ _ _ _ Mn an (by omega) (by omega) hh (fun _ => by omega) ha hMn (fo_Sm hSn (by omega))
theorem ff_ok (hd : 5 ≤ d) (ha : a.1 = rx_cells) (hJ0 : ax_J0 ax_sp ax_rf M0) (he : (e : Int) ≤ (M0.1 244 7).toInt) (h1 : x1.toInt ≤ 520) (h2 : x2.toInt = (e : Int)) (h3 : 0 ≤ x3.toInt ∧ x3.toInt ≤ 13) : hp X (d + 2) 202 0 [some (.ref 244), some (.int x1), some (.int x2), some (.int x3), none, none, none, none] [] a M0 (gb_Q M0 a 4698000) := by
  have hM : fo_I M0 a M0 a := ⟨hJ0.2.1, hJ0, fun _ _ _ => ⟨rfl, rfl⟩, ha, Nat.le_refl _, Nat.le_refl _⟩
  refine hp_ic (pc' := 1) (x := 0) rfl rfl rfl ?_
  refine hp_is (pc' := 3) (j := 4) (ls' := [some (.ref 244), some (.int x1), some (.int x2), some (.int x3), some (.int (0 : Int32)), none, none, none]) (Or.inl ⟨rfl, rfl⟩) (by simp) rfl ?_
  refine ff_3 ha 144 0 _ M0 (by omega) rfl hM (fun i hi => absurd hi (Nat.not_lt_zero _)) (fun x M1 hM1 hI => ?_)
  refine hp_ic (pc' := 26) (x := (-1)) rfl rfl rfl ?_
  refine hp_is (pc' := 28) (j := 4) (ls' := [some (.ref 244), some (.int x1), some (.int x2), some (.int x3), some (.int (-1 : Int32)), none, none, none]) (Or.inl ⟨rfl, rfl⟩) (by simp) rfl ?_
  refine hp_ic (pc' := 29) (x := 1) rfl rfl rfl ?_
  refine hp_is (pc' := 31) (j := 5) (ls' := [some (.ref 244), some (.int x1), some (.int x2), some (.int x3), some (.int (-1 : Int32)), some (.int (1 : Int32)), none, none]) (Or.inl ⟨rfl, rfl⟩) (by simp) rfl ?_
  exact ff_31 hd hJ0 he h1 h2 h3 523 _ _ _ _ M1 a (by decide) (by decide) (by decide) (fun _ => by decide) ha hM1 (fo_Sm (ff_S0 hI) (by decide))
end FFO
