/-! the reference's mostOf, by hand: after the debts are found, it ends -/
noncomputable def mo_inv (M0 M : rx_M) : Prop := hp_R M ∧ M.2 = M0.2 ∧ (∀ q j, ¬ (q = 270 ∨ q = 271 ∨ q = 272 ∨ q = 273) → M.1 q j = M0.1 q j) ∧ ∀ j, -1 ≤ (M.1 273 j).toInt ∧ (M.1 273 j).toInt ≤ 23
theorem mo_w {M0 M M1 : rx_M} {q j : Nat} {z : Int32} (h : mo_inv M0 M) (hq : q = 270 ∨ q = 271 ∨ q = 272) (e : M1.1 = rx_up M.1 q j z) (g : M1.2 = M.2) : mo_inv M0 M1 := by
  refine ⟨hp_Re h.1 g, g.trans h.2.1, fun p k hp => ?_, fun k => ?_⟩
  · rw [e, hp_up_ne (by omega)]
    exact h.2.2.1 p k hp
  · rw [e, hp_up_ne (by omega)]
    exact h.2.2.2 k
theorem mo_f {M0 M M1 : rx_M} (h : mo_inv M0 M) (k : fw_inv M M1) : mo_inv M0 M1 := ⟨k.1, k.2.1.trans h.2.1, fun q j hq => (k.2.2.1 q j (by omega)).trans (h.2.2.1 q j hq), k.2.2.2⟩
theorem mo_n {M0 M : rx_M} {n : Nat} (h : mo_inv M0 M) (hn : (M0.1 244 1).toInt = (n : Int)) : (M.1 244 1).toInt = (n : Int) := by
  rw [h.2.2.1 244 1 (by omega)]
  exact hn
/-- what a way has room for -/
noncomputable def mo_room (M : rx_M) (x : Nat) (c : Int) : Prop := (mo_P M x < 12 → c ≤ (M.1 268 (12 * gw_pr (mo_P M) x + x)).toInt - (M.1 270 (12 * gw_pr (mo_P M) x + x)).toInt) ∧ (12 ≤ mo_P M x → c ≤ (M.1 270 (12 * x + gw_pr (mo_P M) x)).toInt)
noncomputable def rm_Q (a : rx_K) (M : rx_M) (x : Nat) (o : rx_O) : Prop := ∃ z : Int32, o = (some (.int z), a, M) ∧ (mo_P M x < 12 → z.toInt = (M.1 268 (12 * gw_pr (mo_P M) x + x)).toInt - (M.1 270 (12 * gw_pr (mo_P M) x + x)).toInt) ∧ (12 ≤ mo_P M x → z.toInt = (M.1 270 (12 * x + gw_pr (mo_P M) x)).toInt)
section RM
variable {X : Nat × (Nat → Int32)} {d n : Nat} {a : rx_K} {M0 : rx_M} {P : rx_O → Prop}
theorem mo_pr {M : rx_M} {f : Nat} {z y : Int32} (h0 : 0 ≤ mo_P M f) (hy : y.toInt = 12) (hz : z.toInt = (M.1 273 f).toInt % y.toInt) : z.toInt = ((gw_pr (mo_P M) f : Nat) : Int) := by
  have e : mo_P M f = (M.1 273 f).toInt := rfl
  unfold gw_pr
  rw [hz, hy, e]
  rw [e] at h0
  omega
theorem mo_prl {P : Nat → Int} {f : Nat} : gw_pr P f < 12 := Nat.mod_lt _ (by decide)
theorem rm_ok (ha : a.1 = rx_cells) {M : rx_M} (hM : hp_R M ∧ True) {x : Int32} {f : Nat} (hx : x.toInt = (f : Int)) (hf : f < 12) (h0 : 0 ≤ mo_P M f) (h23 : mo_P M f < 24) (ht : ∀ j, j < 144 → 0 ≤ (M.1 270 j).toInt) (hR1 : mo_P M f < 12 → (M.1 270 (12 * gw_pr (mo_P M) f + f)).toInt < (M.1 268 (12 * gw_pr (mo_P M) f + f)).toInt) : hp X d 215 0 [some (.ref 244), some (.int x), none] [] a M (rm_Q a M f) := by
  have hpe : mo_P M f = (M.1 273 f).toInt := rfl
  have hpr : gw_pr (mo_P M) f = (M.1 273 f).toInt.toNat % 12 := rfl
  have hprl := mo_prl (P := mo_P M) (f := f)
  have ht1 := ht (12 * gw_pr (mo_P M) f + f) (by omega)
  have hor := ax_range (M.1 268 (12 * gw_pr (mo_P M) f + f))
  have c12 : (12 : Int32).toInt = 12 := rfl
  refine hp_al (pc' := 1) (j := 0) (Or.inr ⟨0, rfl, rfl, rfl⟩) rfl ?_
  refine hp_gr (pc' := 4) ha (hM.1 244 37 273 rfl) rfl rfl rfl rfl ?_
  refine hp_il (pc' := 5) (j := 1) (Or.inr ⟨1, rfl, rfl, rfl⟩) rfl ?_
  refine hp_ld (pc' := 6) (j := f) ha hx (by omega) rfl rfl rfl ?_
  refine hp_is (pc' := 7) (j := 2) (ls' := [some (.ref 244), some (.int x), some (.int (M.1 273 f))]) (Or.inr ⟨2, rfl, rfl, rfl⟩) (by simp) rfl ?_
  refine hp_il (pc' := 8) (j := 2) (Or.inr ⟨2, rfl, rfl, rfl⟩) rfl ?_
  refine hp_bi (pc' := 10) (x := 12) rfl rfl rfl ?_
  refine hp_ige (t := 39) (pc' := 13) rfl rfl rfl (fun c1 => ?_) (fun c1 => ?_)
  · refine hp_al (pc' := 40) (j := 0) (Or.inr ⟨0, rfl, rfl, rfl⟩) rfl ?_
    refine hp_gr (pc' := 43) ha (hM.1 244 34 270 rfl) rfl rfl rfl rfl ?_
    refine hp_bi (pc' := 45) (x := 12) rfl rfl rfl ?_
    refine hp_il (pc' := 46) (j := 1) (Or.inr ⟨1, rfl, rfl, rfl⟩) rfl ?_
    refine hp_mul (pc' := 47) rfl rfl (fun z71 hz71 => ?_)
    refine hp_il (pc' := 48) (j := 2) (Or.inr ⟨2, rfl, rfl, rfl⟩) rfl ?_
    refine hp_add (pc' := 49) rfl rfl (fun z72 hz72 => ?_)
    refine hp_bi (pc' := 51) (x := 12) rfl rfl rfl ?_
    refine hp_sub (pc' := 52) rfl rfl (fun z73 hz73 => ?_)
    have k12 : (12 : Int32).toInt = 12 := rfl
    have xv : z71.toInt = 12 * (f : Int) := by rw [hz71, ax_mul (by rw [k12]; omega) (by rw [k12]; omega), k12, hx]
    have xu : z72.toInt = 12 * (f : Int) + (M.1 273 f).toInt := by rw [hz72, ax_add (by omega) (by omega), xv]
    have xw : z73.toInt = ((12 * f + gw_pr (mo_P M) f : Nat) : Int) := by
      rw [hpr, hz73, ax_sub (by rw [k12]; omega) (by rw [k12]; omega), k12, xu]
      omega
    refine hp_ld (pc' := 53) (j := (12 * f + gw_pr (mo_P M) f)) ha xw (by omega) rfl rfl rfl ?_
    refine hp_ri rfl rfl ?_
    exact ⟨_, rfl, fun q => absurd q (by omega), fun _ => rfl⟩
  · have hp2 : (M.1 273 f).toInt = ((gw_pr (mo_P M) f : Nat) : Int) := by
      rw [hpr]
      omega
    have hr := hR1 (by omega)
    refine hp_al (pc' := 14) (j := 0) (Or.inr ⟨0, rfl, rfl, rfl⟩) rfl ?_
    refine hp_gr (pc' := 17) ha (hM.1 244 31 268 rfl) rfl rfl rfl rfl ?_
    refine hp_bi (pc' := 19) (x := 12) rfl rfl rfl ?_
    refine hp_il (pc' := 20) (j := 2) (Or.inr ⟨2, rfl, rfl, rfl⟩) rfl ?_
    refine hp_mul (pc' := 21) rfl rfl (fun z41 hz41 => ?_)
    refine hp_il (pc' := 22) (j := 1) (Or.inr ⟨1, rfl, rfl, rfl⟩) rfl ?_
    refine hp_add (pc' := 23) rfl rfl (fun z42 hz42 => ?_)
    have xz42 : z42.toInt = (((12 * gw_pr (mo_P M) f + f) : Nat) : Int) := hp_ix hp2 hx (by omega) (by omega) hz41 hz42
    refine hp_ld (pc' := 24) (j := (12 * gw_pr (mo_P M) f + f)) ha xz42 (by omega) rfl rfl rfl ?_
    refine hp_al (pc' := 25) (j := 0) (Or.inr ⟨0, rfl, rfl, rfl⟩) rfl ?_
    refine hp_gr (pc' := 28) ha (hM.1 244 34 270 rfl) rfl rfl rfl rfl ?_
    refine hp_bi (pc' := 30) (x := 12) rfl rfl rfl ?_
    refine hp_il (pc' := 31) (j := 2) (Or.inr ⟨2, rfl, rfl, rfl⟩) rfl ?_
    refine hp_mul (pc' := 32) rfl rfl (fun z43 hz43 => ?_)
    refine hp_il (pc' := 33) (j := 1) (Or.inr ⟨1, rfl, rfl, rfl⟩) rfl ?_
    refine hp_add (pc' := 34) rfl rfl (fun z44 hz44 => ?_)
    have xz44 : z44.toInt = (((12 * gw_pr (mo_P M) f + f) : Nat) : Int) := hp_ix hp2 hx (by omega) (by omega) hz43 hz44
    refine hp_ld (pc' := 35) (j := (12 * gw_pr (mo_P M) f + f)) ha xz44 (by omega) rfl rfl rfl ?_
    refine hp_sub (pc' := 36) rfl rfl (fun z45 hz45 => ?_)
    refine hp_go (t := 53) rfl rfl ?_
    refine hp_ri rfl rfl ?_
    exact ⟨_, rfl, fun _ => by rw [hz45, ax_sub (by omega) (by omega)], fun q => absurd q (by omega)⟩
theorem al_4 (ha : a.1 = rx_cells) {M : rx_M} (hM : hp_R M ∧ True) (kk : ∀ x, P (some (.int x), a, M)) : ∀ (m k : Nat) (x1 x2 : Int32), m + k = 144 → x2.toInt = (k : Int) → hp X d 206 4 [some (.ref 244), some (.int x1), some (.int x2)] [] a M P
  | 0, k, x1, x2, hb, h2 => by
    have c144 : (144 : Int32).toInt = 144 := rfl
    refine hp_il (pc' := 5) (j := 2) (Or.inr ⟨2, rfl, rfl, rfl⟩) rfl ?_
    refine hp_si (pc' := 8) (x := 144) rfl rfl rfl ?_
    refine hp_ige (t := 26) (pc' := 11) rfl rfl rfl (fun c1 => ?_) (fun c1 => ?_)
    · refine hp_il (pc' := 27) (j := 1) (Or.inr ⟨1, rfl, rfl, rfl⟩) rfl ?_
      refine hp_ri rfl rfl ?_
      exact kk _
    · exfalso
      omega
  | m + 1, k, x1, x2, hb, h2 => by
    have c144 : (144 : Int32).toInt = 144 := rfl
    refine hp_il (pc' := 5) (j := 2) (Or.inr ⟨2, rfl, rfl, rfl⟩) rfl ?_
    refine hp_si (pc' := 8) (x := 144) rfl rfl rfl ?_
    refine hp_ige (t := 26) (pc' := 11) rfl rfl rfl (fun c1 => ?_) (fun c1 => ?_)
    · exfalso
      omega
    · refine hp_il (pc' := 12) (j := 1) (Or.inr ⟨1, rfl, rfl, rfl⟩) rfl ?_
      refine hp_al (pc' := 13) (j := 0) (Or.inr ⟨0, rfl, rfl, rfl⟩) rfl ?_
      refine hp_gr (pc' := 16) ha (hM.1 244 31 268 rfl) rfl rfl rfl rfl ?_
      refine hp_il (pc' := 17) (j := 2) (Or.inr ⟨2, rfl, rfl, rfl⟩) rfl ?_
      refine hp_ld (pc' := 18) (j := k) ha h2 (by omega) rfl rfl rfl ?_
      refine hp_add (pc' := 19) rfl rfl (fun z2 hz2 => ?_)
      refine hp_is (pc' := 20) (j := 1) (ls' := [some (.ref 244), some (.int z2), some (.int x2)]) (Or.inr ⟨1, rfl, rfl, rfl⟩) (by simp) rfl ?_
      refine hp_in (pc' := 23) (j := 2) (ls' := [some (.ref 244), some (.int z2), some (.int (x2 + Int32.ofInt 1))]) rfl rfl rfl rfl rfl ?_
      refine hp_go (t := 4) rfl rfl ?_
      exact al_4 ha hM kk m (k + 1) _ _ (by omega) (hp_i1 h2 (by omega))
theorem al_ok (ha : a.1 = rx_cells) {M : rx_M} (hM : hp_R M) : hp X d 206 0 [some (.ref 244), none, none] [] a M (fun o => ∃ x, o = (some (.int x), a, M)) := by
  have hM : hp_R M ∧ True := ⟨hM, trivial⟩
  refine hp_ic (pc' := 1) (x := 0) rfl rfl rfl ?_
  refine hp_is (pc' := 2) (j := 1) (ls' := [some (.ref 244), some (.int (0 : Int32)), none]) (Or.inr ⟨1, rfl, rfl, rfl⟩) (by simp) rfl ?_
  refine hp_ic (pc' := 3) (x := 0) rfl rfl rfl ?_
  refine hp_is (pc' := 4) (j := 2) (ls' := [some (.ref 244), some (.int (0 : Int32)), some (.int (0 : Int32))]) (Or.inr ⟨2, rfl, rfl, rfl⟩) (by simp) rfl ?_
  exact al_4 ha hM (fun x => ⟨x, rfl⟩) 144 0 _ _ (by omega) rfl
theorem mo_z {M M1 : rx_M} {k : Nat} (h : ∀ j, j < k → (M.1 270 j).toInt = 0) (e : M1.1 = rx_up M.1 270 k 0) : ∀ j, j < k + 1 → (M1.1 270 j).toInt = 0 := by
  intro j hj
  rw [e]
  by_cases q : j = k
  · rw [q, hp_up_eq]
    rfl
  · rw [hp_up_ne (fun z => q z.2)]
    exact h j (by omega)
theorem mo_20 (ha : a.1 = rx_cells) {x1 : Int32} : ∀ (m k : Nat) (x2 : Int32) (M : rx_M), m + k = 144 → x2.toInt = (k : Int) → mo_inv M0 M → (∀ j, j < k → (M.1 270 j).toInt = 0) → (∀ x M1, mo_inv M0 M1 → (∀ j, j < 144 → (M1.1 270 j).toInt = 0) → hp X d 216 40 [some (.ref 244), some (.int x1), some (.int x), none, none, none] [] a M1 P) → hp X d 216 20 [some (.ref 244), some (.int x1), some (.int x2), none, none, none] [] a M P
  | 0, k, x2, M, hb, h2, hM, hI, kk => by
    have c144 : (144 : Int32).toInt = 144 := rfl
    refine hp_il (pc' := 21) (j := 2) (Or.inr ⟨2, rfl, rfl, rfl⟩) rfl ?_
    refine hp_si (pc' := 24) (x := 144) rfl rfl rfl ?_
    refine hp_ige (t := 40) (pc' := 27) rfl rfl rfl (fun c1 => ?_) (fun c1 => ?_)
    · have e : k = 144 := by omega
      subst e
      exact kk x2 M hM hI
    · exfalso
      omega
  | m + 1, k, x2, M, hb, h2, hM, hI, kk => by
    have c144 : (144 : Int32).toInt = 144 := rfl
    refine hp_il (pc' := 21) (j := 2) (Or.inr ⟨2, rfl, rfl, rfl⟩) rfl ?_
    refine hp_si (pc' := 24) (x := 144) rfl rfl rfl ?_
    refine hp_ige (t := 40) (pc' := 27) rfl rfl rfl (fun c1 => ?_) (fun c1 => ?_)
    · exfalso
      omega
    · refine hp_al (pc' := 28) (j := 0) (Or.inr ⟨0, rfl, rfl, rfl⟩) rfl ?_
      refine hp_gr (pc' := 31) ha (hM.1 244 34 270 rfl) rfl rfl rfl rfl ?_
      refine hp_il (pc' := 32) (j := 2) (Or.inr ⟨2, rfl, rfl, rfl⟩) rfl ?_
      refine hp_ic (pc' := 33) (x := 0) rfl rfl rfl ?_
      refine hp_st (pc' := 34) (j := k) ha h2 (by omega) rfl rfl rfl (fun M2 eM2 gM2 => ?_)
      have hM2 := mo_w hM (by decide) eM2 gM2
      refine hp_in (pc' := 37) (j := 2) (ls' := [some (.ref 244), some (.int x1), some (.int (x2 + Int32.ofInt 1)), none, none, none]) rfl rfl rfl rfl rfl ?_
      refine hp_go (t := 20) rfl rfl ?_
      exact mo_20 ha m (k + 1) _ M2 (by omega) (hp_i1 h2 (by omega)) hM2 (mo_z hI eM2) kk
/-- the debts are no more than so much, each -/
noncomputable def mo_B (M : rx_M) : Prop := ∀ j, j < 144 → 0 ≤ (M.1 268 j).toInt ∧ (M.1 268 j).toInt ≤ 134217728
noncomputable def mo_bd (k : Nat) (x : Int) : Prop := -((k : Int) * 134217728) ≤ x ∧ x ≤ (k : Int) * 134217728
theorem mo_bd0 {x : Int} (h : x = 0) : mo_bd 0 x := by
  unfold mo_bd
  omega
theorem mo_bds {k : Nat} {x y : Int} (h : mo_bd k x) (h1 : -134217728 ≤ y) (h2 : y ≤ 134217728) : mo_bd (k + 1) (x + y) := by
  unfold mo_bd at h ⊢
  omega
theorem mo_bdr {k : Nat} {x : Int} (h : mo_bd k x) (hk : k ≤ 12) : -1610612736 ≤ x ∧ x ≤ 1610612736 := by
  unfold mo_bd at h
  omega
theorem mo_bdx {k : Nat} {x : Int} (h : mo_bd k x) (hk : k ≤ 12) : -2147483648 < x := by
  have := mo_bdr h hk
  omega
theorem mo_l3 {M0 M : rx_M} {f k : Nat} {z w : Int32} (hB : mo_B M0) (hM : mo_inv M0 M) (hf : f < 12) (hk : k < 12) (hI : mo_bd k (M.1 271 f).toInt) (hz : z = M.1 268 (12 * f + k) - M.1 268 (12 * k + f)) (hw : w = M.1 271 f + z) : mo_bd (k + 1) w.toInt := by
  have b1 := hB (12 * f + k) (by omega)
  have b2 := hB (12 * k + f) (by omega)
  rw [← hM.2.2.1 268 (12 * f + k) (by omega)] at b1
  rw [← hM.2.2.1 268 (12 * k + f) (by omega)] at b2
  have hz2 : z.toInt = (M.1 268 (12 * f + k)).toInt - (M.1 268 (12 * k + f)).toInt := by rw [hz, ax_sub (by omega) (by omega)]
  have hr := mo_bdr hI (by omega)
  have hw2 : w.toInt = (M.1 271 f).toInt + z.toInt := by rw [hw, ax_add (by omega) (by omega)]
  rw [hw2]
  exact mo_bds hI (by omega) (by omega)
noncomputable def mo_L (M : rx_M) (f : Nat) : Prop := (∀ j, j < 144 → (M.1 270 j).toInt = 0) ∧ ∀ g, g < f → -2147483648 < (M.1 271 g).toInt
theorem mo_l1 {M M1 : rx_M} {f : Nat} {z : Int32} (h : mo_L M f) (e : M1.1 = rx_up M.1 271 f z) : mo_L M1 f := by
  refine ⟨fun j hj => ?_, fun g hg => ?_⟩
  · rw [e, hp_up_ne (by omega)]
    exact h.1 j hj
  · rw [e, hp_up_ne (by omega)]
    exact h.2 g hg
theorem mo_l2 {M : rx_M} {f : Nat} (h : mo_L M f) (k : -2147483648 < (M.1 271 f).toInt) : mo_L M (f + 1) := ⟨h.1, fun g hg => by
  by_cases q : g = f
  · rw [q]; exact k
  · exact h.2 g (by omega)⟩
set_option maxRecDepth 100000 in
theorem mo_59 (ha : a.1 = rx_cells) (hn : (M0.1 244 1).toInt = (n : Int)) (hn12 : n ≤ 12) (hB : mo_B M0) {x1 x2 : Int32} {f : Nat} (h2 : x2.toInt = (f : Int)) (hf : f < n) : ∀ (m k : Nat) (x3 : Int32) (M : rx_M), m + k = n → x3.toInt = (k : Int) → mo_inv M0 M → mo_L M f → (mo_bd k (M.1 271 f).toInt) → (∀ x M1, mo_inv M0 M1 → mo_L M1 (f + 1) → hp X d 216 105 [some (.ref 244), some (.int x1), some (.int x2), some (.int x), none, none] [] a M1 P) → hp X d 216 59 [some (.ref 244), some (.int x1), some (.int x2), some (.int x3), none, none] [] a M P := by
  intro m
  induction m with
  | zero =>
    intro k x3 M hb h3 hM hL hI kk
    refine hp_il (pc' := 60) (j := 3) (Or.inr ⟨3, rfl, rfl, rfl⟩) rfl ?_
    refine hp_al (pc' := 61) (j := 0) (Or.inr ⟨0, rfl, rfl, rfl⟩) rfl ?_
    have m61 := mo_n hM hn
    refine hp_gi (pc' := 64) (j := 1) (t := 0) ha rfl rfl rfl (by decide) rfl ?_
    refine hp_ige (t := 105) (pc' := 67) rfl rfl rfl (fun c1 => ?_) (fun c1 => ?_)
    · exact kk x3 M hM (mo_l2 hL (mo_bdx hI (by omega)))
    · exfalso
      omega
  | succ m ih =>
    intro k x3 M hb h3 hM hL hI kk
    refine hp_il (pc' := 60) (j := 3) (Or.inr ⟨3, rfl, rfl, rfl⟩) rfl ?_
    refine hp_al (pc' := 61) (j := 0) (Or.inr ⟨0, rfl, rfl, rfl⟩) rfl ?_
    have m61 := mo_n hM hn
    refine hp_gi (pc' := 64) (j := 1) (t := 0) ha rfl rfl rfl (by decide) rfl ?_
    refine hp_ige (t := 105) (pc' := 67) rfl rfl rfl (fun c1 => ?_) (fun c1 => ?_)
    · exfalso
      omega
    · refine hp_al (pc' := 68) (j := 0) (Or.inr ⟨0, rfl, rfl, rfl⟩) rfl ?_
      refine hp_gr (pc' := 71) ha (hM.1 244 35 271 rfl) rfl rfl rfl rfl ?_
      refine hp_il (pc' := 72) (j := 2) (Or.inr ⟨2, rfl, rfl, rfl⟩) rfl ?_
      refine hp_d2 (pc' := 73) rfl rfl ?_
      refine hp_ld (pc' := 74) (j := f) ha h2 (by omega) rfl rfl rfl ?_
      refine hp_al (pc' := 75) (j := 0) (Or.inr ⟨0, rfl, rfl, rfl⟩) rfl ?_
      refine hp_gr (pc' := 78) ha (hM.1 244 31 268 rfl) rfl rfl rfl rfl ?_
      refine hp_bi (pc' := 80) (x := 12) rfl rfl rfl ?_
      refine hp_il (pc' := 81) (j := 2) (Or.inr ⟨2, rfl, rfl, rfl⟩) rfl ?_
      refine hp_mul (pc' := 82) rfl rfl (fun z2 hz2 => ?_)
      refine hp_il (pc' := 83) (j := 3) (Or.inr ⟨3, rfl, rfl, rfl⟩) rfl ?_
      refine hp_add (pc' := 84) rfl rfl (fun z3 hz3 => ?_)
      have xz3 : z3.toInt = (((12 * f + k) : Nat) : Int) := hp_ix h2 h3 (by omega) (by omega) hz2 hz3
      refine hp_ld (pc' := 85) (j := (12 * f + k)) ha xz3 (by omega) rfl rfl rfl ?_
      refine hp_al (pc' := 86) (j := 0) (Or.inr ⟨0, rfl, rfl, rfl⟩) rfl ?_
      refine hp_gr (pc' := 89) ha (hM.1 244 31 268 rfl) rfl rfl rfl rfl ?_
      refine hp_bi (pc' := 91) (x := 12) rfl rfl rfl ?_
      refine hp_il (pc' := 92) (j := 3) (Or.inr ⟨3, rfl, rfl, rfl⟩) rfl ?_
      refine hp_mul (pc' := 93) rfl rfl (fun z4 hz4 => ?_)
      refine hp_il (pc' := 94) (j := 2) (Or.inr ⟨2, rfl, rfl, rfl⟩) rfl ?_
      refine hp_add (pc' := 95) rfl rfl (fun z5 hz5 => ?_)
      have xz5 : z5.toInt = (((12 * k + f) : Nat) : Int) := hp_ix h3 h2 (by omega) (by omega) hz4 hz5
      refine hp_ld (pc' := 96) (j := (12 * k + f)) ha xz5 (by omega) rfl rfl rfl ?_
      refine hp_sub (pc' := 97) rfl rfl (fun z6 hz6 => ?_)
      refine hp_add (pc' := 98) rfl rfl (fun z7 hz7 => ?_)
      refine hp_st (pc' := 99) (j := f) ha h2 (by omega) rfl rfl rfl (fun M8 eM8 gM8 => ?_)
      have hM8 := mo_w hM (by decide) eM8 gM8
      refine hp_in (pc' := 102) (j := 3) (ls' := [some (.ref 244), some (.int x1), some (.int x2), some (.int (x3 + Int32.ofInt 1)), none, none]) rfl rfl rfl rfl rfl ?_
      refine hp_go (t := 59) rfl rfl ?_
      have hq : mo_bd (k + 1) (M8.1 271 f).toInt := by
        rw [eM8, hp_up_eq]
        exact mo_l3 hB hM (by omega) (by omega) hI hz6 hz7
      exact ih (k + 1) _ M8 (by omega) (hp_i1 h3 (by omega)) hM8 (mo_l1 hL eM8) hq kk
set_option maxRecDepth 100000 in
theorem mo_42 (ha : a.1 = rx_cells) (hn : (M0.1 244 1).toInt = (n : Int)) (hn12 : n ≤ 12) (hB : mo_B M0) {x1 : Int32} : ∀ (m k : Nat) (x2 : Int32) (o3 : Option Value) (M : rx_M), m + k = n → x2.toInt = (k : Int) → mo_inv M0 M → mo_L M k → (∀ x o M1, mo_inv M0 M1 → mo_L M1 n → hp X d 216 111 [some (.ref 244), some (.int x1), some (.int x), o, none, none] [] a M1 P) → hp X d 216 42 [some (.ref 244), some (.int x1), some (.int x2), o3, none, none] [] a M P
  | 0, k, x2, o3, M, hb, h2, hM, hL, kk => by
    refine hp_il (pc' := 43) (j := 2) (Or.inr ⟨2, rfl, rfl, rfl⟩) rfl ?_
    refine hp_al (pc' := 44) (j := 0) (Or.inr ⟨0, rfl, rfl, rfl⟩) rfl ?_
    have m44 := mo_n hM hn
    refine hp_gi (pc' := 47) (j := 1) (t := 0) ha rfl rfl rfl (by decide) rfl ?_
    refine hp_ige (t := 111) (pc' := 50) rfl rfl rfl (fun c1 => ?_) (fun c1 => ?_)
    · have e : k = n := by omega
      subst e
      exact kk x2 o3 M hM hL
    · exfalso
      omega
  | m + 1, k, x2, o3, M, hb, h2, hM, hL, kk => by
    refine hp_il (pc' := 43) (j := 2) (Or.inr ⟨2, rfl, rfl, rfl⟩) rfl ?_
    refine hp_al (pc' := 44) (j := 0) (Or.inr ⟨0, rfl, rfl, rfl⟩) rfl ?_
    have m44 := mo_n hM hn
    refine hp_gi (pc' := 47) (j := 1) (t := 0) ha rfl rfl rfl (by decide) rfl ?_
    refine hp_ige (t := 111) (pc' := 50) rfl rfl rfl (fun c1 => ?_) (fun c1 => ?_)
    · exfalso
      omega
    · refine hp_al (pc' := 51) (j := 0) (Or.inr ⟨0, rfl, rfl, rfl⟩) rfl ?_
      refine hp_gr (pc' := 54) ha (hM.1 244 35 271 rfl) rfl rfl rfl rfl ?_
      refine hp_il (pc' := 55) (j := 2) (Or.inr ⟨2, rfl, rfl, rfl⟩) rfl ?_
      refine hp_ic (pc' := 56) (x := 0) rfl rfl rfl ?_
      refine hp_st (pc' := 57) (j := k) ha h2 (by omega) rfl rfl rfl (fun M2 eM2 gM2 => ?_)
      have hM2 := mo_w hM (by decide) eM2 gM2
      refine hp_ic (pc' := 58) (x := 0) rfl rfl rfl ?_
      refine hp_is (pc' := 59) (j := 3) (ls' := [some (.ref 244), some (.int x1), some (.int x2), some (.int (0 : Int32)), none, none]) (Or.inr ⟨3, rfl, rfl, rfl⟩) (by simp) rfl ?_
      refine mo_59 ha hn hn12 hB h2 (by omega) n 0 _ M2 (by omega) rfl hM2 (mo_l1 hL eM2) (mo_bd0 (by rw [eM2, hp_up_eq]; rfl)) (fun x M1 hM1 hL1 => ?_)
      refine hp_in (pc' := 108) (j := 2) (ls' := [some (.ref 244), some (.int x1), some (.int (x2 + Int32.ofInt 1)), some (.int x), none, none]) rfl rfl rfl rfl rfl ?_
      refine hp_go (t := 42) rfl rfl ?_
      exact mo_42 ha hn hn12 hB m (k + 1) _ _ M1 (by omega) (hp_i1 h2 (by omega)) hM1 hL1 kk
end RM
