/-! fault of the reference, by hand: signs -/
theorem ms_c_of {k : Nat} (h : k ≤ 3) : ms_c k = (k : Int) := if_neg (by omega)
theorem ms_c_d {k : Nat} (h : k ≤ 4) : (k = 4 ∧ ms_c k = -1) ∨ (k ≤ 3 ∧ ms_c k = (k : Int)) := by
  by_cases c : k = 4
  · exact Or.inl ⟨c, if_pos c⟩
  · exact Or.inr ⟨by omega, if_neg c⟩
section PS
variable {g : Nat → Int} {n p k : Nat} {s t : List Nat}
theorem pa_so (h : g p = 42 ∨ g p = 47 ∨ g p = 43 ∨ g p = 45) : pa_st g n p s false = some (p + 1, s, true) := by
  unfold pa_st
  rw [cond_false, if_pos h]
theorem pa_sc (h : (g p = 41 ∧ k = 4) ∨ (g p = 93 ∧ k = 3)) : pa_st g n p (k :: t) false = some (p + 1, t, false) := by
  unfold pa_st
  rw [cond_false, if_neg (by omega)]
  dsimp only
  rw [if_pos h]
theorem pa_sx (h : (g p = 60 ∧ k = 0) ∨ (g p = 63 ∧ k = 1) ∨ (g p = 58 ∧ k = 2)) : pa_st g n p (k :: t) false = some (p + 1, (k + 1) :: t, true) := by
  unfold pa_st
  rw [cond_false, if_neg (by omega)]
  dsimp only
  rw [if_neg (by omega), if_pos h]
theorem pa_sn (h : ¬ (g p = 42 ∨ g p = 47 ∨ g p = 43 ∨ g p = 45)) (h2 : ¬ ((g p = 41 ∧ k = 4) ∨ (g p = 93 ∧ k = 3))) (h3 : ¬ ((g p = 60 ∧ k = 0) ∨ (g p = 63 ∧ k = 1) ∨ (g p = 58 ∧ k = 2))) : pa_st g n p (k :: t) false = none := by
  unfold pa_st
  rw [cond_false, if_neg h]
  dsimp only
  rw [if_neg h2, if_neg h3]
theorem pa_s0 (h : ¬ (g p = 42 ∨ g p = 47 ∨ g p = 43 ∨ g p = 45)) : pa_st g n p [] false = none := by
  unfold pa_st
  rw [cond_false, if_neg h]
theorem pa_wo (h : g p = 40 ∨ g p = 91) (hs : s.length ≠ 8) : pa_st g n p s true = some (p + 1, (if g p = 40 then 4 else 0) :: s, true) := by
  unfold pa_st
  rw [cond_true, if_pos h, if_neg hs]
theorem pa_wd (h : g p = 40 ∨ g p = 91) (hs : s.length = 8) : pa_st g n p s true = none := by
  unfold pa_st
  rw [cond_true, if_pos h, if_pos hs]
theorem pa_wf (h : ¬ (g p = 40 ∨ g p = 91)) (h2 : pa_fb (g p) = true) : pa_st g n p s true = some (p + 1, s, false) := by
  unfold pa_st
  rw [cond_true, if_neg h, if_pos h2]
theorem pa_wg (h : 48 ≤ g p ∧ g p ≤ 57) : pa_st g n p s true = some (pa_num g n p, s, false) := by
  unfold pa_st
  rw [cond_true, if_neg (by omega), if_neg (fun z => by have := pa_fb_i z; omega), if_pos h]
theorem pa_wn (h : ¬ (g p = 40 ∨ g p = 91)) (h2 : ¬ pa_fb (g p) = true) (h3 : ¬ (48 ≤ g p ∧ g p ≤ 57)) : pa_st g n p s true = none := by
  unfold pa_st
  rw [cond_true, if_neg h, if_neg h2, if_neg h3]
end PS
theorem j0_w {q j : Nat} {z : Int32} {M M1 : rx_M} (lo hi : Int) (hJ : ax_J0 ax_sp ax_rf M) (hz : (ax_sp q j).1 ≤ z.toInt ∧ z.toInt ≤ (ax_sp q j).2) (h1 : ax_quiet lo hi = true) (h2 : lo ≤ (q : Int)) (h3 : (q : Int) ≤ hi) (h4 : ¬ (14 = q ∧ 16 = j)) (h5 : ¬ (244 = q ∧ 7 = j)) (e : M1.1 = rx_up M.1 q j z) (g : M1.2 = M.2) : ax_J0 ax_sp ax_rf M1 := by
  refine ⟨fun p k => ?_, hp_Re hJ.2.1 g, by rw [e]; exact ax_G_free hJ.2.2 h1 h2 h3 h4 h5⟩
  rw [e]
  by_cases hk : p = q ∧ k = j
  · rw [hk.1, hk.2, hp_up_eq]
    exact hz
  · rw [hp_up_ne hk]
    exact hJ.1 p k
section SG
variable {X : Nat × (Nat → Int32)} {d n p D : Nat} {w : Bool} {a : rx_K} {M0 M : rx_M} {P : rx_O → Prop} {x1 x2 x3 : Int32}
theorem ms_wn {z : Int32} (w1 : Bool) {M1 : rx_M} (h : ms_S n p D w M0 M) (e : M1.1 = rx_up M.1 244 30 z) (g : M1.2 = M.2) (hz : z.toInt = cond w1 1 0) : ms_S n p D w1 M0 M1 := by
  obtain ⟨h1, ⟨h3, h4⟩, h5, h6, h7, h8, h9, h10, h11⟩ := h
  refine ⟨j0_w 244 244 h1 ?_ (by decide) (by omega) (by omega) (by omega) (by omega) e g, ⟨g.trans h3, fun q k hq => by rw [e, hp_up_ne (by omega)]; exact h4 q k hq⟩, h5, by rw [e, hp_up_ne (by omega)]; exact h6, by rw [e, hp_up_ne (by omega)]; exact h7, by rw [e, hp_up_eq]; exact hz, h9, h10, h11⟩
  show (0 : Int) ≤ z.toInt ∧ z.toInt ≤ 1
  cases w1 with
  | true =>
    have hz : z.toInt = 1 := hz
    omega
  | false =>
    have hz : z.toInt = 0 := hz
    omega
theorem ms_dp {z : Int32} (D1 : Nat) {M1 : rx_M} (h : ms_S n p D w M0 M) (e : M1.1 = rx_up M.1 244 21 z) (g : M1.2 = M.2) (hz : z.toInt = (D1 : Int)) (hD : D1 ≤ 8) : ms_S n p D1 w M0 M1 := by
  obtain ⟨h1, ⟨h3, h4⟩, h5, h6, h7, h8, h9, h10, h11⟩ := h
  refine ⟨j0_w 244 244 h1 ?_ (by decide) (by omega) (by omega) (by omega) (by omega) e g, ⟨g.trans h3, fun q k hq => by rw [e, hp_up_ne (by omega)]; exact h4 q k hq⟩, h5, by rw [e, hp_up_ne (by omega)]; exact h6, by rw [e, hp_up_eq]; exact hz, by rw [e, hp_up_ne (by omega)]; exact h8, h9, h10, hD⟩
  show (0 : Int) ≤ z.toInt ∧ z.toInt ≤ 8
  omega
noncomputable def sg_Q (n p : Nat) (s : List Nat) (M0 : rx_M) (a : rx_K) (o : rx_O) : Prop := ∃ (z : Int32) (M1 : rx_M), o = (some (.int z), a, M1) ∧ ((z.toInt = 1 ∧ ∃ (p1 : Nat) (s1 : List Nat) (w1 : Bool), pa_st (ms_g M0) n p s false = some (p1, s1, w1) ∧ p < p1 ∧ ms_S n p1 s1.length w1 M0 M1 ∧ ms_k M1 s1) ∨ (z.toInt = 0 ∧ pa_st (ms_g M0) n p s false = none ∧ ∃ (D : Nat) (w1 : Bool), ms_S n p D w1 M0 M1))
theorem sg_ok {s : List Nat} (ha : a.1 = rx_cells) (hS : ms_S n p s.length false M0 M) (hk : ms_k M s) (hpn : p < n) : hp X (d + 1) 179 0 [some (.ref 244), none, none] [] a M (sg_Q n p s M0 a) := by
  have zz0 : (0 : Int32).toInt = 0 := rfl
  have zz1 : (1 : Int32).toInt = 1 := rfl
  have zz2 : (2 : Int32).toInt = 2 := rfl
  have zz3 : (3 : Int32).toInt = 3 := rfl
  have zz41 : (41 : Int32).toInt = 41 := rfl
  have zz42 : (42 : Int32).toInt = 42 := rfl
  have zz43 : (43 : Int32).toInt = 43 := rfl
  have zz45 : (45 : Int32).toInt = 45 := rfl
  have zz47 : (47 : Int32).toInt = 47 := rfl
  have zz58 : (58 : Int32).toInt = 58 := rfl
  have zz60 : (60 : Int32).toInt = 60 := rfl
  have zz63 : (63 : Int32).toInt = 63 := rfl
  have zz93 : (93 : Int32).toInt = 93 := rfl
  have zm1 : ((-1) : Int32).toInt = -1 := rfl
  obtain ⟨hM, s1, s2, s3, s4, s5⟩ := ms_f hS
  obtain ⟨-, -, -, -, -, s6, s7, s8, s9⟩ := id hS
  have W : ∀ (Mw : rx_M), ms_S n p s.length true M0 Mw → (∀ j, Mw.1 264 j = M.1 264 j) → ∀ r1 : Int32, r1.toInt = ms_g M0 p → hp X (d + 1) 179 10 [some (.ref 244), some (.int r1), none] [] a Mw (sg_Q n p s M0 a) := by
    intro Mw hMw cw r1 q1
    have hkw : ms_k Mw s := ms_ke s (fun j _ => cw j) hk
    obtain ⟨hMw_, -, -, t3Mw, tMw, -⟩ := ms_f hMw
    have K22 : (ms_g M0 p = 42 ∨ ms_g M0 p = 47) → hp X (d + 1) 179 22 [some (.ref 244), some (.int r1), none] [] a Mw (sg_Q n p s M0 a) := by
      intro hop
      refine hp_al (pc' := 23) (j := 0) (Or.inr ⟨0, rfl, rfl, rfl⟩) rfl ?_
      refine hp_gr (pc' := 26) ha (hMw_.2.1 244 25 263 rfl) rfl rfl rfl rfl ?_
      refine hp_al (pc' := 27) (j := 0) (Or.inr ⟨0, rfl, rfl, rfl⟩) rfl ?_
      refine hp_gi (pc' := 30) (j := 21) (t := 0) ha rfl rfl rfl (by decide) rfl ?_
      refine hp_il (pc' := 31) (j := 1) (Or.inr ⟨1, rfl, rfl, rfl⟩) rfl ?_
      refine hp_st (pc' := 32) (j := s.length) ha tMw (by omega) rfl rfl rfl (fun M21 eM21 gM21 => ?_)
      have hM21 := ms_w (q := 263) (j := s.length) (z := r1) hMw (by omega) (show (0 : Int) ≤ (r1 : Int32).toInt ∧ (r1 : Int32).toInt ≤ 60 by first | decide | omega) eM21 gM21
      obtain ⟨hM21_, -, -, t3M21, tM21, -⟩ := ms_f hM21
      have cM21 : ∀ j, M21.1 264 j = Mw.1 264 j := fun j => by rw [eM21, hp_up_ne (by omega)]
      refine hp_go (t := 381) rfl rfl ?_
      refine hp_al (pc' := 382) (j := 0) (Or.inr ⟨0, rfl, rfl, rfl⟩) rfl ?_
      refine hp_dup (pc' := 383) rfl rfl rfl ?_
      refine hp_gi (pc' := 386) (j := 20) (t := 0) ha rfl rfl rfl (by decide) rfl ?_
      refine hp_ic (pc' := 387) (x := 1) rfl rfl rfl ?_
      refine hp_add (pc' := 388) rfl rfl (fun z22 hz22 => ?_)
      have yz22 : z22.toInt = ((p + 1 : Nat) : Int) := by
        rw [hz22, ax_add (by omega) (by omega), zz1, t3M21]
        omega
      refine hp_pf (pc' := 391) (j := 20) ha rfl rfl rfl rfl (fun M23 eM23 gM23 => ?_)
      have hM23 := ms_at hM21 eM23 gM23 yz22 (by omega)
      obtain ⟨hM23_, -, -, t3M23, tM23, -⟩ := ms_f hM23
      have cM23 : ∀ j, M23.1 264 j = Mw.1 264 j := fun j => by rw [eM23, hp_up_ne (by omega)]; exact cM21 j
      refine hp_ic (pc' := 392) (x := 1) rfl rfl rfl ?_
      refine hp_rb rfl rfl (by decide) ?_
      exact ⟨_, _, rfl, Or.inl ⟨rfl, _, _, _, pa_so (by omega), Nat.lt_succ_self _, hM23, ms_ke s (fun j _ => cM23 j) hkw⟩⟩
    have K47 : (ms_g M0 p = 43 ∨ ms_g M0 p = 45) → hp X (d + 1) 179 47 [some (.ref 244), some (.int r1), none] [] a Mw (sg_Q n p s M0 a) := by
      intro hop
      refine hp_al (pc' := 48) (j := 0) (Or.inr ⟨0, rfl, rfl, rfl⟩) rfl ?_
      refine hp_gr (pc' := 51) ha (hMw_.2.1 244 22 260 rfl) rfl rfl rfl rfl ?_
      refine hp_al (pc' := 52) (j := 0) (Or.inr ⟨0, rfl, rfl, rfl⟩) rfl ?_
      refine hp_gi (pc' := 55) (j := 21) (t := 0) ha rfl rfl rfl (by decide) rfl ?_
      refine hp_al (pc' := 56) (j := 0) (Or.inr ⟨0, rfl, rfl, rfl⟩) rfl ?_
      refine hp_cv (Q := fun o => ∃ r : Int32, o = (some (.int r), a, Mw)) (pc' := 59) (e := d) (vs := []) (r := [.int (Mw.1 244 21), .ref 260]) ha rfl rfl rfl rfl rfl rfl rfl rfl (mt_ok ha hMw) (fun o ho => ?_)
      obtain ⟨r21, eo⟩ := ho
      subst eo
      refine ⟨_, rfl, ?_⟩
      show hp X (d + 1) 179 59 [some (.ref 244), some (.int r1), none] [.int r21, .int (Mw.1 244 21), .ref 260] a Mw _
      refine hp_st (pc' := 60) (j := s.length) ha tMw (by omega) rfl rfl rfl (fun M22 eM22 gM22 => ?_)
      have hM22 := ms_w (q := 260) (j := s.length) (z := r21) hMw (by omega) (ax_full_ok _) eM22 gM22
      obtain ⟨hM22_, -, -, t3M22, tM22, -⟩ := ms_f hM22
      have cM22 : ∀ j, M22.1 264 j = Mw.1 264 j := fun j => by rw [eM22, hp_up_ne (by omega)]
      refine hp_al (pc' := 61) (j := 0) (Or.inr ⟨0, rfl, rfl, rfl⟩) rfl ?_
      refine hp_gr (pc' := 64) ha (hM22_.2.1 244 23 261 rfl) rfl rfl rfl rfl ?_
      refine hp_al (pc' := 65) (j := 0) (Or.inr ⟨0, rfl, rfl, rfl⟩) rfl ?_
      refine hp_gi (pc' := 68) (j := 21) (t := 0) ha rfl rfl rfl (by decide) rfl ?_
      refine hp_il (pc' := 69) (j := 1) (Or.inr ⟨1, rfl, rfl, rfl⟩) rfl ?_
      refine hp_bi (pc' := 71) (x := 43) rfl rfl rfl ?_
      refine hp_ine (t := 78) (pc' := 74) rfl rfl rfl (fun c23 => ?_) (fun c23 => ?_)
      · refine hp_ic (pc' := 79) (x := (-1)) rfl rfl rfl ?_
        refine hp_st (pc' := 80) (j := s.length) ha tM22 (by omega) rfl rfl rfl (fun M24 eM24 gM24 => ?_)
        have hM24 := ms_w (q := 261) (j := s.length) (z := (-1 : Int32)) hM22 (by omega) (show (-1 : Int) ≤ ((-1 : Int32) : Int32).toInt ∧ ((-1 : Int32) : Int32).toInt ≤ 1 by first | decide | omega) eM24 gM24
        obtain ⟨hM24_, -, -, t3M24, tM24, -⟩ := ms_f hM24
        have cM24 : ∀ j, M24.1 264 j = Mw.1 264 j := fun j => by rw [eM24, hp_up_ne (by omega)]; exact cM22 j
        refine hp_al (pc' := 81) (j := 0) (Or.inr ⟨0, rfl, rfl, rfl⟩) rfl ?_
        refine hp_gr (pc' := 84) ha (hM24_.2.1 244 25 263 rfl) rfl rfl rfl rfl ?_
        refine hp_al (pc' := 85) (j := 0) (Or.inr ⟨0, rfl, rfl, rfl⟩) rfl ?_
        refine hp_gi (pc' := 88) (j := 21) (t := 0) ha rfl rfl rfl (by decide) rfl ?_
        refine hp_ic (pc' := 89) (x := 0) rfl rfl rfl ?_
        refine hp_st (pc' := 90) (j := s.length) ha tM24 (by omega) rfl rfl rfl (fun M25 eM25 gM25 => ?_)
        have hM25 := ms_w (q := 263) (j := s.length) (z := (0 : Int32)) hM24 (by omega) (show (0 : Int) ≤ ((0 : Int32) : Int32).toInt ∧ ((0 : Int32) : Int32).toInt ≤ 60 by first | decide | omega) eM25 gM25
        obtain ⟨hM25_, -, -, t3M25, tM25, -⟩ := ms_f hM25
        have cM25 : ∀ j, M25.1 264 j = Mw.1 264 j := fun j => by rw [eM25, hp_up_ne (by omega)]; exact cM24 j
        refine hp_go (t := 381) rfl rfl ?_
        refine hp_al (pc' := 382) (j := 0) (Or.inr ⟨0, rfl, rfl, rfl⟩) rfl ?_
        refine hp_dup (pc' := 383) rfl rfl rfl ?_
        refine hp_gi (pc' := 386) (j := 20) (t := 0) ha rfl rfl rfl (by decide) rfl ?_
        refine hp_ic (pc' := 387) (x := 1) rfl rfl rfl ?_
        refine hp_add (pc' := 388) rfl rfl (fun z26 hz26 => ?_)
        have yz26 : z26.toInt = ((p + 1 : Nat) : Int) := by
          rw [hz26, ax_add (by omega) (by omega), zz1, t3M25]
          omega
        refine hp_pf (pc' := 391) (j := 20) ha rfl rfl rfl rfl (fun M27 eM27 gM27 => ?_)
        have hM27 := ms_at hM25 eM27 gM27 yz26 (by omega)
        obtain ⟨hM27_, -, -, t3M27, tM27, -⟩ := ms_f hM27
        have cM27 : ∀ j, M27.1 264 j = Mw.1 264 j := fun j => by rw [eM27, hp_up_ne (by omega)]; exact cM25 j
        refine hp_ic (pc' := 392) (x := 1) rfl rfl rfl ?_
        refine hp_rb rfl rfl (by decide) ?_
        exact ⟨_, _, rfl, Or.inl ⟨rfl, _, _, _, pa_so (by omega), Nat.lt_succ_self _, hM27, ms_ke s (fun j _ => cM27 j) hkw⟩⟩
      · refine hp_ic (pc' := 75) (x := 1) rfl rfl rfl ?_
        refine hp_go (t := 79) rfl rfl ?_
        refine hp_st (pc' := 80) (j := s.length) ha tM22 (by omega) rfl rfl rfl (fun M28 eM28 gM28 => ?_)
        have hM28 := ms_w (q := 261) (j := s.length) (z := (1 : Int32)) hM22 (by omega) (show (-1 : Int) ≤ ((1 : Int32) : Int32).toInt ∧ ((1 : Int32) : Int32).toInt ≤ 1 by first | decide | omega) eM28 gM28
        obtain ⟨hM28_, -, -, t3M28, tM28, -⟩ := ms_f hM28
        have cM28 : ∀ j, M28.1 264 j = Mw.1 264 j := fun j => by rw [eM28, hp_up_ne (by omega)]; exact cM22 j
        refine hp_al (pc' := 81) (j := 0) (Or.inr ⟨0, rfl, rfl, rfl⟩) rfl ?_
        refine hp_gr (pc' := 84) ha (hM28_.2.1 244 25 263 rfl) rfl rfl rfl rfl ?_
        refine hp_al (pc' := 85) (j := 0) (Or.inr ⟨0, rfl, rfl, rfl⟩) rfl ?_
        refine hp_gi (pc' := 88) (j := 21) (t := 0) ha rfl rfl rfl (by decide) rfl ?_
        refine hp_ic (pc' := 89) (x := 0) rfl rfl rfl ?_
        refine hp_st (pc' := 90) (j := s.length) ha tM28 (by omega) rfl rfl rfl (fun M29 eM29 gM29 => ?_)
        have hM29 := ms_w (q := 263) (j := s.length) (z := (0 : Int32)) hM28 (by omega) (show (0 : Int) ≤ ((0 : Int32) : Int32).toInt ∧ ((0 : Int32) : Int32).toInt ≤ 60 by first | decide | omega) eM29 gM29
        obtain ⟨hM29_, -, -, t3M29, tM29, -⟩ := ms_f hM29
        have cM29 : ∀ j, M29.1 264 j = Mw.1 264 j := fun j => by rw [eM29, hp_up_ne (by omega)]; exact cM28 j
        refine hp_go (t := 381) rfl rfl ?_
        refine hp_al (pc' := 382) (j := 0) (Or.inr ⟨0, rfl, rfl, rfl⟩) rfl ?_
        refine hp_dup (pc' := 383) rfl rfl rfl ?_
        refine hp_gi (pc' := 386) (j := 20) (t := 0) ha rfl rfl rfl (by decide) rfl ?_
        refine hp_ic (pc' := 387) (x := 1) rfl rfl rfl ?_
        refine hp_add (pc' := 388) rfl rfl (fun z30 hz30 => ?_)
        have yz30 : z30.toInt = ((p + 1 : Nat) : Int) := by
          rw [hz30, ax_add (by omega) (by omega), zz1, t3M29]
          omega
        refine hp_pf (pc' := 391) (j := 20) ha rfl rfl rfl rfl (fun M31 eM31 gM31 => ?_)
        have hM31 := ms_at hM29 eM31 gM31 yz30 (by omega)
        obtain ⟨hM31_, -, -, t3M31, tM31, -⟩ := ms_f hM31
        have cM31 : ∀ j, M31.1 264 j = Mw.1 264 j := fun j => by rw [eM31, hp_up_ne (by omega)]; exact cM29 j
        refine hp_ic (pc' := 392) (x := 1) rfl rfl rfl ?_
        refine hp_rb rfl rfl (by decide) ?_
        exact ⟨_, _, rfl, Or.inl ⟨rfl, _, _, _, pa_so (by omega), Nat.lt_succ_self _, hM31, ms_ke s (fun j _ => cM31 j) hkw⟩⟩
    have K93 : ¬ (ms_g M0 p = 42 ∨ ms_g M0 p = 47 ∨ ms_g M0 p = 43 ∨ ms_g M0 p = 45) → hp X (d + 1) 179 93 [some (.ref 244), some (.int r1), none] [] a Mw (sg_Q n p s M0 a) := by
      intro hno
      clear K22 K47
      cases s with
      | nil =>
        have tMw : (Mw.1 244 21).toInt = ((0 : Nat) : Int) := tMw
        refine hp_al (pc' := 94) (j := 0) (Or.inr ⟨0, rfl, rfl, rfl⟩) rfl ?_
        refine hp_gi (pc' := 97) (j := 21) (t := 0) ha rfl rfl rfl (by decide) rfl ?_
        refine hp_zle (t := 219) (pc' := 100) rfl rfl rfl (fun c61 => ?_) (fun c61 => ?_)
        · refine hp_al (pc' := 220) (j := 0) (Or.inr ⟨0, rfl, rfl, rfl⟩) rfl ?_
          refine hp_gi (pc' := 223) (j := 21) (t := 0) ha rfl rfl rfl (by decide) rfl ?_
          refine hp_zle (t := 379) (pc' := 226) rfl rfl rfl (fun c62 => ?_) (fun c62 => ?_)
          · have NO : pa_st (ms_g M0) n p [] false = none := pa_s0 hno
            refine hp_ic (pc' := 380) (x := 0) rfl rfl rfl ?_
            refine hp_rb rfl rfl (by decide) ?_
            exact ⟨_, _, rfl, Or.inr ⟨rfl, NO, _, _, hMw⟩⟩
          · exfalso
            omega
        · exfalso
          omega
      | cons k t =>
        have hMw : ms_S n p (t.length + 1) true M0 Mw := hMw
        have tMw : (Mw.1 244 21).toInt = ((t.length + 1 : Nat) : Int) := tMw
        have hk4 : k ≤ 4 := hkw.1.1
        have t8 : t.length + 1 ≤ 8 := hMw.2.2.2.2.2.2.2.2
        have hst := ms_c_d hk4
        rw [← hkw.1.2] at hst
        have K138 : (ms_g M0 p = 41 ∧ k = 4) ∨ (ms_g M0 p = 93 ∧ k = 3) → hp X (d + 1) 179 138 [some (.ref 244), some (.int r1), none] [] a Mw (sg_Q n p (k :: t) M0 a) := by
          intro hc
          rcases id hc with ⟨g1, k1⟩ | ⟨g1, k1⟩
          · refine hp_al (pc' := 139) (j := 0) (Or.inr ⟨0, rfl, rfl, rfl⟩) rfl ?_
            refine hp_gr (pc' := 142) ha (hMw_.2.1 244 26 264 rfl) rfl rfl rfl rfl ?_
            refine hp_al (pc' := 143) (j := 0) (Or.inr ⟨0, rfl, rfl, rfl⟩) rfl ?_
            refine hp_gi (pc' := 146) (j := 21) (t := 0) ha rfl rfl rfl (by decide) rfl ?_
            refine hp_ld (pc' := 147) (j := (t.length + 1)) ha tMw (by omega) rfl rfl rfl ?_
            refine hp_ic (pc' := 148) (x := (-1)) rfl rfl rfl ?_
            refine hp_ine (t := 158) (pc' := 151) rfl rfl rfl (fun c21 => by exfalso; omega) (fun c21 => ?_)
            refine hp_al (pc' := 152) (j := 0) (Or.inr ⟨0, rfl, rfl, rfl⟩) rfl ?_
            refine hp_cv (Q := fun o => ∃ r : Int32, o = (some (.int r), a, Mw)) (pc' := 155) (e := d) (vs := []) (r := []) ha rfl rfl rfl rfl rfl rfl rfl rfl (mt_ok ha hMw) (fun o ho => ?_)
            obtain ⟨r22, eo⟩ := ho
            subst eo
            refine ⟨_, rfl, ?_⟩
            show hp X (d + 1) 179 155 [some (.ref 244), some (.int r1), none] [.int r22] a Mw _
            refine hp_go (t := 195) rfl rfl ?_
            refine hp_is (pc' := 196) (j := 2) (ls' := [some (.ref 244), some (.int r1), some (.int r22)]) (Or.inr ⟨2, rfl, rfl, rfl⟩) (by simp) rfl ?_
            refine hp_al (pc' := 197) (j := 0) (Or.inr ⟨0, rfl, rfl, rfl⟩) rfl ?_
            refine hp_dup (pc' := 198) rfl rfl rfl ?_
            refine hp_gi (pc' := 201) (j := 21) (t := 0) ha rfl rfl rfl (by decide) rfl ?_
            refine hp_ic (pc' := 202) (x := 1) rfl rfl rfl ?_
            refine hp_sub (pc' := 203) rfl rfl (fun z23 hz23 => ?_)
            have xz23 : z23.toInt = ((((t.length + 1) - 1) : Nat) : Int) := hp_s1 tMw (by omega) hz23
            refine hp_pf (pc' := 206) (j := 21) ha rfl rfl rfl rfl (fun M24 eM24 gM24 => ?_)
            have hM24 := ms_dp (z := z23) (t.length) hMw eM24 gM24 (by omega) (by omega)
            obtain ⟨hM24_, -, -, t3M24, tM24, -⟩ := ms_f hM24
            have cM24 : ∀ j, M24.1 264 j = Mw.1 264 j := fun j => by rw [eM24, hp_up_ne (by omega)]
            refine hp_al (pc' := 207) (j := 0) (Or.inr ⟨0, rfl, rfl, rfl⟩) rfl ?_
            refine hp_il (pc' := 208) (j := 2) (Or.inr ⟨2, rfl, rfl, rfl⟩) rfl ?_
            refine hp_cv (Q := fun o => ∃ M1 : rx_M, o = (none, a, M1) ∧ ms_S n p (t.length) true M0 M1 ∧ ∀ j, M1.1 264 j = M24.1 264 j) (pc' := 211) (e := d) (vs := [.int r22]) (r := []) ha rfl rfl rfl rfl rfl rfl rfl rfl (ma_ok ha hM24) (fun o ho => ?_)
            obtain ⟨N25, eo, hN25, kN25⟩ := ho
            subst eo
            refine ⟨_, rfl, ?_⟩
            obtain ⟨hN25_, -, -, t3N25, tN25, -⟩ := ms_f hN25
            have cN25 : ∀ j, N25.1 264 j = Mw.1 264 j := fun j => (kN25 j).trans (cM24 j)
            show hp X (d + 1) 179 211 [some (.ref 244), some (.int r1), some (.int r22)] [] a N25 _
            refine hp_al (pc' := 212) (j := 0) (Or.inr ⟨0, rfl, rfl, rfl⟩) rfl ?_
            refine hp_ic (pc' := 213) (x := 0) rfl rfl rfl ?_
            refine hp_pfb (pc' := 216) (j := 30) ha (by decide) rfl rfl rfl rfl (fun M26 eM26 gM26 => ?_)
            have hM26 := ms_wn (z := (0 : Int32)) false hN25 eM26 gM26 rfl
            obtain ⟨hM26_, -, -, t3M26, tM26, -⟩ := ms_f hM26
            have cM26 : ∀ j, M26.1 264 j = Mw.1 264 j := fun j => by rw [eM26, hp_up_ne (by omega)]; exact cN25 j
            refine hp_go (t := 381) rfl rfl ?_
            refine hp_al (pc' := 382) (j := 0) (Or.inr ⟨0, rfl, rfl, rfl⟩) rfl ?_
            refine hp_dup (pc' := 383) rfl rfl rfl ?_
            refine hp_gi (pc' := 386) (j := 20) (t := 0) ha rfl rfl rfl (by decide) rfl ?_
            refine hp_ic (pc' := 387) (x := 1) rfl rfl rfl ?_
            refine hp_add (pc' := 388) rfl rfl (fun z27 hz27 => ?_)
            have yz27 : z27.toInt = ((p + 1 : Nat) : Int) := by
              rw [hz27, ax_add (by omega) (by omega), zz1, t3M26]
              omega
            refine hp_pf (pc' := 391) (j := 20) ha rfl rfl rfl rfl (fun M28 eM28 gM28 => ?_)
            have hM28 := ms_at hM26 eM28 gM28 yz27 (by omega)
            obtain ⟨hM28_, -, -, t3M28, tM28, -⟩ := ms_f hM28
            have cM28 : ∀ j, M28.1 264 j = Mw.1 264 j := fun j => by rw [eM28, hp_up_ne (by omega)]; exact cM26 j
            refine hp_ic (pc' := 392) (x := 1) rfl rfl rfl ?_
            refine hp_rb rfl rfl (by decide) ?_
            exact ⟨_, _, rfl, Or.inl ⟨rfl, _, _, _, pa_sc hc, Nat.lt_succ_self _, hM28, ms_ke t (fun j _ => cM28 j) hkw.2⟩⟩
          · refine hp_al (pc' := 139) (j := 0) (Or.inr ⟨0, rfl, rfl, rfl⟩) rfl ?_
            refine hp_gr (pc' := 142) ha (hMw_.2.1 244 26 264 rfl) rfl rfl rfl rfl ?_
            refine hp_al (pc' := 143) (j := 0) (Or.inr ⟨0, rfl, rfl, rfl⟩) rfl ?_
            refine hp_gi (pc' := 146) (j := 21) (t := 0) ha rfl rfl rfl (by decide) rfl ?_
            refine hp_ld (pc' := 147) (j := (t.length + 1)) ha tMw (by omega) rfl rfl rfl ?_
            refine hp_ic (pc' := 148) (x := (-1)) rfl rfl rfl ?_
            refine hp_ine (t := 158) (pc' := 151) rfl rfl rfl (fun c21 => ?_) (fun c21 => by exfalso; omega)
            refine hp_al (pc' := 159) (j := 0) (Or.inr ⟨0, rfl, rfl, rfl⟩) rfl ?_
            refine hp_gr (pc' := 162) ha (hMw_.2.1 244 27 265 rfl) rfl rfl rfl rfl ?_
            refine hp_al (pc' := 163) (j := 0) (Or.inr ⟨0, rfl, rfl, rfl⟩) rfl ?_
            refine hp_gi (pc' := 166) (j := 21) (t := 0) ha rfl rfl rfl (by decide) rfl ?_
            refine hp_ld (pc' := 167) (j := (t.length + 1)) ha tMw (by omega) rfl rfl rfl ?_
            refine hp_al (pc' := 168) (j := 0) (Or.inr ⟨0, rfl, rfl, rfl⟩) rfl ?_
            refine hp_gr (pc' := 171) ha (hMw_.2.1 244 28 266 rfl) rfl rfl rfl rfl ?_
            refine hp_al (pc' := 172) (j := 0) (Or.inr ⟨0, rfl, rfl, rfl⟩) rfl ?_
            refine hp_gi (pc' := 175) (j := 21) (t := 0) ha rfl rfl rfl (by decide) rfl ?_
            refine hp_ld (pc' := 176) (j := (t.length + 1)) ha tMw (by omega) rfl rfl rfl ?_
            refine hp_ige (t := 191) (pc' := 179) rfl rfl rfl (fun c22 => ?_) (fun c22 => ?_)
            · refine hp_al (pc' := 192) (j := 0) (Or.inr ⟨0, rfl, rfl, rfl⟩) rfl ?_
              refine hp_cv (Q := fun o => ∃ r : Int32, o = (some (.int r), a, Mw)) (pc' := 195) (e := d) (vs := []) (r := []) ha rfl rfl rfl rfl rfl rfl rfl rfl (mt_ok ha hMw) (fun o ho => ?_)
              obtain ⟨r23, eo⟩ := ho
              subst eo
              refine ⟨_, rfl, ?_⟩
              show hp X (d + 1) 179 195 [some (.ref 244), some (.int r1), none] [.int r23] a Mw _
              refine hp_is (pc' := 196) (j := 2) (ls' := [some (.ref 244), some (.int r1), some (.int r23)]) (Or.inr ⟨2, rfl, rfl, rfl⟩) (by simp) rfl ?_
              refine hp_al (pc' := 197) (j := 0) (Or.inr ⟨0, rfl, rfl, rfl⟩) rfl ?_
              refine hp_dup (pc' := 198) rfl rfl rfl ?_
              refine hp_gi (pc' := 201) (j := 21) (t := 0) ha rfl rfl rfl (by decide) rfl ?_
              refine hp_ic (pc' := 202) (x := 1) rfl rfl rfl ?_
              refine hp_sub (pc' := 203) rfl rfl (fun z24 hz24 => ?_)
              have xz24 : z24.toInt = ((((t.length + 1) - 1) : Nat) : Int) := hp_s1 tMw (by omega) hz24
              refine hp_pf (pc' := 206) (j := 21) ha rfl rfl rfl rfl (fun M25 eM25 gM25 => ?_)
              have hM25 := ms_dp (z := z24) (t.length) hMw eM25 gM25 (by omega) (by omega)
              obtain ⟨hM25_, -, -, t3M25, tM25, -⟩ := ms_f hM25
              have cM25 : ∀ j, M25.1 264 j = Mw.1 264 j := fun j => by rw [eM25, hp_up_ne (by omega)]
              refine hp_al (pc' := 207) (j := 0) (Or.inr ⟨0, rfl, rfl, rfl⟩) rfl ?_
              refine hp_il (pc' := 208) (j := 2) (Or.inr ⟨2, rfl, rfl, rfl⟩) rfl ?_
              refine hp_cv (Q := fun o => ∃ M1 : rx_M, o = (none, a, M1) ∧ ms_S n p (t.length) true M0 M1 ∧ ∀ j, M1.1 264 j = M25.1 264 j) (pc' := 211) (e := d) (vs := [.int r23]) (r := []) ha rfl rfl rfl rfl rfl rfl rfl rfl (ma_ok ha hM25) (fun o ho => ?_)
              obtain ⟨N26, eo, hN26, kN26⟩ := ho
              subst eo
              refine ⟨_, rfl, ?_⟩
              obtain ⟨hN26_, -, -, t3N26, tN26, -⟩ := ms_f hN26
              have cN26 : ∀ j, N26.1 264 j = Mw.1 264 j := fun j => (kN26 j).trans (cM25 j)
              show hp X (d + 1) 179 211 [some (.ref 244), some (.int r1), some (.int r23)] [] a N26 _
              refine hp_al (pc' := 212) (j := 0) (Or.inr ⟨0, rfl, rfl, rfl⟩) rfl ?_
              refine hp_ic (pc' := 213) (x := 0) rfl rfl rfl ?_
              refine hp_pfb (pc' := 216) (j := 30) ha (by decide) rfl rfl rfl rfl (fun M27 eM27 gM27 => ?_)
              have hM27 := ms_wn (z := (0 : Int32)) false hN26 eM27 gM27 rfl
              obtain ⟨hM27_, -, -, t3M27, tM27, -⟩ := ms_f hM27
              have cM27 : ∀ j, M27.1 264 j = Mw.1 264 j := fun j => by rw [eM27, hp_up_ne (by omega)]; exact cN26 j
              refine hp_go (t := 381) rfl rfl ?_
              refine hp_al (pc' := 382) (j := 0) (Or.inr ⟨0, rfl, rfl, rfl⟩) rfl ?_
              refine hp_dup (pc' := 383) rfl rfl rfl ?_
              refine hp_gi (pc' := 386) (j := 20) (t := 0) ha rfl rfl rfl (by decide) rfl ?_
              refine hp_ic (pc' := 387) (x := 1) rfl rfl rfl ?_
              refine hp_add (pc' := 388) rfl rfl (fun z28 hz28 => ?_)
              have yz28 : z28.toInt = ((p + 1 : Nat) : Int) := by
                rw [hz28, ax_add (by omega) (by omega), zz1, t3M27]
                omega
              refine hp_pf (pc' := 391) (j := 20) ha rfl rfl rfl rfl (fun M29 eM29 gM29 => ?_)
              have hM29 := ms_at hM27 eM29 gM29 yz28 (by omega)
              obtain ⟨hM29_, -, -, t3M29, tM29, -⟩ := ms_f hM29
              have cM29 : ∀ j, M29.1 264 j = Mw.1 264 j := fun j => by rw [eM29, hp_up_ne (by omega)]; exact cM27 j
              refine hp_ic (pc' := 392) (x := 1) rfl rfl rfl ?_
              refine hp_rb rfl rfl (by decide) ?_
              exact ⟨_, _, rfl, Or.inl ⟨rfl, _, _, _, pa_sc hc, Nat.lt_succ_self _, hM29, ms_ke t (fun j _ => cM29 j) hkw.2⟩⟩
            · refine hp_al (pc' := 180) (j := 0) (Or.inr ⟨0, rfl, rfl, rfl⟩) rfl ?_
              refine hp_gr (pc' := 183) ha (hMw_.2.1 244 29 267 rfl) rfl rfl rfl rfl ?_
              refine hp_al (pc' := 184) (j := 0) (Or.inr ⟨0, rfl, rfl, rfl⟩) rfl ?_
              refine hp_gi (pc' := 187) (j := 21) (t := 0) ha rfl rfl rfl (by decide) rfl ?_
              refine hp_ld (pc' := 188) (j := (t.length + 1)) ha tMw (by omega) rfl rfl rfl ?_
              refine hp_go (t := 195) rfl rfl ?_
              refine hp_is (pc' := 196) (j := 2) (ls' := [some (.ref 244), some (.int r1), some (.int (Mw.1 267 (t.length + 1)))]) (Or.inr ⟨2, rfl, rfl, rfl⟩) (by simp) rfl ?_
              refine hp_al (pc' := 197) (j := 0) (Or.inr ⟨0, rfl, rfl, rfl⟩) rfl ?_
              refine hp_dup (pc' := 198) rfl rfl rfl ?_
              refine hp_gi (pc' := 201) (j := 21) (t := 0) ha rfl rfl rfl (by decide) rfl ?_
              refine hp_ic (pc' := 202) (x := 1) rfl rfl rfl ?_
              refine hp_sub (pc' := 203) rfl rfl (fun z30 hz30 => ?_)
              have xz30 : z30.toInt = ((((t.length + 1) - 1) : Nat) : Int) := hp_s1 tMw (by omega) hz30
              refine hp_pf (pc' := 206) (j := 21) ha rfl rfl rfl rfl (fun M31 eM31 gM31 => ?_)
              have hM31 := ms_dp (z := z30) (t.length) hMw eM31 gM31 (by omega) (by omega)
              obtain ⟨hM31_, -, -, t3M31, tM31, -⟩ := ms_f hM31
              have cM31 : ∀ j, M31.1 264 j = Mw.1 264 j := fun j => by rw [eM31, hp_up_ne (by omega)]
              refine hp_al (pc' := 207) (j := 0) (Or.inr ⟨0, rfl, rfl, rfl⟩) rfl ?_
              refine hp_il (pc' := 208) (j := 2) (Or.inr ⟨2, rfl, rfl, rfl⟩) rfl ?_
              refine hp_cv (Q := fun o => ∃ M1 : rx_M, o = (none, a, M1) ∧ ms_S n p (t.length) true M0 M1 ∧ ∀ j, M1.1 264 j = M31.1 264 j) (pc' := 211) (e := d) (vs := [.int (Mw.1 267 (t.length + 1))]) (r := []) ha rfl rfl rfl rfl rfl rfl rfl rfl (ma_ok ha hM31) (fun o ho => ?_)
              obtain ⟨N32, eo, hN32, kN32⟩ := ho
              subst eo
              refine ⟨_, rfl, ?_⟩
              obtain ⟨hN32_, -, -, t3N32, tN32, -⟩ := ms_f hN32
              have cN32 : ∀ j, N32.1 264 j = Mw.1 264 j := fun j => (kN32 j).trans (cM31 j)
              show hp X (d + 1) 179 211 [some (.ref 244), some (.int r1), some (.int (Mw.1 267 (t.length + 1)))] [] a N32 _
              refine hp_al (pc' := 212) (j := 0) (Or.inr ⟨0, rfl, rfl, rfl⟩) rfl ?_
              refine hp_ic (pc' := 213) (x := 0) rfl rfl rfl ?_
              refine hp_pfb (pc' := 216) (j := 30) ha (by decide) rfl rfl rfl rfl (fun M33 eM33 gM33 => ?_)
              have hM33 := ms_wn (z := (0 : Int32)) false hN32 eM33 gM33 rfl
              obtain ⟨hM33_, -, -, t3M33, tM33, -⟩ := ms_f hM33
              have cM33 : ∀ j, M33.1 264 j = Mw.1 264 j := fun j => by rw [eM33, hp_up_ne (by omega)]; exact cN32 j
              refine hp_go (t := 381) rfl rfl ?_
              refine hp_al (pc' := 382) (j := 0) (Or.inr ⟨0, rfl, rfl, rfl⟩) rfl ?_
              refine hp_dup (pc' := 383) rfl rfl rfl ?_
              refine hp_gi (pc' := 386) (j := 20) (t := 0) ha rfl rfl rfl (by decide) rfl ?_
              refine hp_ic (pc' := 387) (x := 1) rfl rfl rfl ?_
              refine hp_add (pc' := 388) rfl rfl (fun z34 hz34 => ?_)
              have yz34 : z34.toInt = ((p + 1 : Nat) : Int) := by
                rw [hz34, ax_add (by omega) (by omega), zz1, t3M33]
                omega
              refine hp_pf (pc' := 391) (j := 20) ha rfl rfl rfl rfl (fun M35 eM35 gM35 => ?_)
              have hM35 := ms_at hM33 eM35 gM35 yz34 (by omega)
              obtain ⟨hM35_, -, -, t3M35, tM35, -⟩ := ms_f hM35
              have cM35 : ∀ j, M35.1 264 j = Mw.1 264 j := fun j => by rw [eM35, hp_up_ne (by omega)]; exact cM33 j
              refine hp_ic (pc' := 392) (x := 1) rfl rfl rfl ?_
              refine hp_rb rfl rfl (by decide) ?_
              exact ⟨_, _, rfl, Or.inl ⟨rfl, _, _, _, pa_sc hc, Nat.lt_succ_self _, hM35, ms_ke t (fun j _ => cM35 j) hkw.2⟩⟩
        have K282 : (ms_g M0 p = 60 ∧ k = 0) ∨ (ms_g M0 p = 63 ∧ k = 1) ∨ (ms_g M0 p = 58 ∧ k = 2) → hp X (d + 1) 179 282 [some (.ref 244), some (.int r1), none] [] a Mw (sg_Q n p (k :: t) M0 a) := by
          intro hx
          rcases id hx with ⟨g1, k1⟩ | ⟨g1, k1⟩ | ⟨g1, k1⟩
          · refine hp_al (pc' := 283) (j := 0) (Or.inr ⟨0, rfl, rfl, rfl⟩) rfl ?_
            refine hp_gr (pc' := 286) ha (hMw_.2.1 244 26 264 rfl) rfl rfl rfl rfl ?_
            refine hp_al (pc' := 287) (j := 0) (Or.inr ⟨0, rfl, rfl, rfl⟩) rfl ?_
            refine hp_gi (pc' := 290) (j := 21) (t := 0) ha rfl rfl rfl (by decide) rfl ?_
            refine hp_ld (pc' := 291) (j := (t.length + 1)) ha tMw (by omega) rfl rfl rfl ?_
            refine hp_zne (t := 307) (pc' := 294) rfl rfl rfl (fun c21 => by exfalso; omega) (fun c21 => ?_)
            refine hp_al (pc' := 295) (j := 0) (Or.inr ⟨0, rfl, rfl, rfl⟩) rfl ?_
            refine hp_gr (pc' := 298) ha (hMw_.2.1 244 27 265 rfl) rfl rfl rfl rfl ?_
            refine hp_al (pc' := 299) (j := 0) (Or.inr ⟨0, rfl, rfl, rfl⟩) rfl ?_
            refine hp_gi (pc' := 302) (j := 21) (t := 0) ha rfl rfl rfl (by decide) rfl ?_
            refine hp_al (pc' := 303) (j := 0) (Or.inr ⟨0, rfl, rfl, rfl⟩) rfl ?_
            refine hp_cv (Q := fun o => ∃ r : Int32, o = (some (.int r), a, Mw)) (pc' := 306) (e := d) (vs := []) (r := [.int (Mw.1 244 21), .ref 265]) ha rfl rfl rfl rfl rfl rfl rfl rfl (mt_ok ha hMw) (fun o ho => ?_)
            obtain ⟨r22, eo⟩ := ho
            subst eo
            refine ⟨_, rfl, ?_⟩
            show hp X (d + 1) 179 306 [some (.ref 244), some (.int r1), none] [.int r22, .int (Mw.1 244 21), .ref 265] a Mw _
            refine hp_st (pc' := 307) (j := (t.length + 1)) ha tMw (by omega) rfl rfl rfl (fun M23 eM23 gM23 => ?_)
            have hM23 := ms_w (q := 265) (j := (t.length + 1)) (z := r22) hMw (by omega) (ax_full_ok _) eM23 gM23
            obtain ⟨hM23_, -, -, t3M23, tM23, -⟩ := ms_f hM23
            have cM23 : ∀ j, M23.1 264 j = Mw.1 264 j := fun j => by rw [eM23, hp_up_ne (by omega)]
            refine hp_al (pc' := 308) (j := 0) (Or.inr ⟨0, rfl, rfl, rfl⟩) rfl ?_
            refine hp_gr (pc' := 311) ha (hM23_.2.1 244 26 264 rfl) rfl rfl rfl rfl ?_
            refine hp_al (pc' := 312) (j := 0) (Or.inr ⟨0, rfl, rfl, rfl⟩) rfl ?_
            refine hp_gi (pc' := 315) (j := 21) (t := 0) ha rfl rfl rfl (by decide) rfl ?_
            refine hp_ld (pc' := 316) (j := (t.length + 1)) ha tM23 (by omega) rfl rfl rfl ?_
            have v315M23 : (M23.1 264 (t.length + 1)).toInt = (Mw.1 264 (t.length + 1)).toInt := by rw [cM23]
            refine hp_ic (pc' := 317) (x := 1) rfl rfl rfl ?_
            refine hp_ine (t := 333) (pc' := 320) rfl rfl rfl (fun c24 => ?_) (fun c24 => by exfalso; omega)
            refine hp_al (pc' := 334) (j := 0) (Or.inr ⟨0, rfl, rfl, rfl⟩) rfl ?_
            refine hp_gr (pc' := 337) ha (hM23_.2.1 244 26 264 rfl) rfl rfl rfl rfl ?_
            refine hp_al (pc' := 338) (j := 0) (Or.inr ⟨0, rfl, rfl, rfl⟩) rfl ?_
            refine hp_gi (pc' := 341) (j := 21) (t := 0) ha rfl rfl rfl (by decide) rfl ?_
            refine hp_ld (pc' := 342) (j := (t.length + 1)) ha tM23 (by omega) rfl rfl rfl ?_
            have v341M23 : (M23.1 264 (t.length + 1)).toInt = (Mw.1 264 (t.length + 1)).toInt := by rw [cM23]
            refine hp_ic (pc' := 343) (x := 2) rfl rfl rfl ?_
            refine hp_ine (t := 359) (pc' := 346) rfl rfl rfl (fun c25 => ?_) (fun c25 => by exfalso; omega)
            refine hp_al (pc' := 360) (j := 0) (Or.inr ⟨0, rfl, rfl, rfl⟩) rfl ?_
            refine hp_gr (pc' := 363) ha (hM23_.2.1 244 26 264 rfl) rfl rfl rfl rfl ?_
            refine hp_al (pc' := 364) (j := 0) (Or.inr ⟨0, rfl, rfl, rfl⟩) rfl ?_
            refine hp_gi (pc' := 367) (j := 21) (t := 0) ha rfl rfl rfl (by decide) rfl ?_
            refine hp_d2 (pc' := 368) rfl rfl ?_
            refine hp_ld (pc' := 369) (j := (t.length + 1)) ha tM23 (by omega) rfl rfl rfl ?_
            have v368M23 : (M23.1 264 (t.length + 1)).toInt = (Mw.1 264 (t.length + 1)).toInt := by rw [cM23]
            refine hp_ic (pc' := 370) (x := 1) rfl rfl rfl ?_
            refine hp_add (pc' := 371) rfl rfl (fun z26 hz26 => ?_)
            have yz26 : z26.toInt = (M23.1 264 (t.length + 1)).toInt + 1 := by rw [hz26, ax_add (by omega) (by omega), zz1]
            refine hp_st (pc' := 372) (j := (t.length + 1)) ha tM23 (by omega) rfl rfl rfl (fun M27 eM27 gM27 => ?_)
            have hM27 := ms_w (q := 264) (j := (t.length + 1)) (z := z26) hM23 (by omega) (show (-1 : Int) ≤ (z26 : Int32).toInt ∧ (z26 : Int32).toInt ≤ 3 by first | decide | omega) eM27 gM27
            obtain ⟨hM27_, -, -, t3M27, tM27, -⟩ := ms_f hM27
            have cM27 : ∀ j, j ≤ t.length → M27.1 264 j = Mw.1 264 j := fun j hj => by rw [eM27, hp_up_ne (by omega)]; exact cM23 j
            have uM27 : M27.1 264 (t.length + 1) = z26 := by rw [eM27, hp_up_eq]
            refine hp_al (pc' := 373) (j := 0) (Or.inr ⟨0, rfl, rfl, rfl⟩) rfl ?_
            refine hp_cv (Q := fun o => ∃ M1 : rx_M, o = (none, a, M1) ∧ ms_S n p (t.length + 1) true M0 M1 ∧ ∀ j, M1.1 264 j = M27.1 264 j) (pc' := 376) (e := d) (vs := []) (r := []) ha rfl rfl rfl rfl rfl rfl rfl rfl (mb_ok ha hM27) (fun o ho => ?_)
            obtain ⟨N28, eo, hN28, kN28⟩ := ho
            subst eo
            refine ⟨_, rfl, ?_⟩
            obtain ⟨hN28_, -, -, t3N28, tN28, -⟩ := ms_f hN28
            have cN28 : ∀ j, j ≤ t.length → N28.1 264 j = Mw.1 264 j := fun j hj => (kN28 j).trans (cM27 j hj)
            have uN28 : N28.1 264 (t.length + 1) = z26 := (kN28 _).trans uM27
            show hp X (d + 1) 179 376 [some (.ref 244), some (.int r1), none] [] a N28 _
            refine hp_go (t := 381) rfl rfl ?_
            refine hp_al (pc' := 382) (j := 0) (Or.inr ⟨0, rfl, rfl, rfl⟩) rfl ?_
            refine hp_dup (pc' := 383) rfl rfl rfl ?_
            refine hp_gi (pc' := 386) (j := 20) (t := 0) ha rfl rfl rfl (by decide) rfl ?_
            refine hp_ic (pc' := 387) (x := 1) rfl rfl rfl ?_
            refine hp_add (pc' := 388) rfl rfl (fun z29 hz29 => ?_)
            have yz29 : z29.toInt = ((p + 1 : Nat) : Int) := by
              rw [hz29, ax_add (by omega) (by omega), zz1, t3N28]
              omega
            refine hp_pf (pc' := 391) (j := 20) ha rfl rfl rfl rfl (fun M30 eM30 gM30 => ?_)
            have hM30 := ms_at hN28 eM30 gM30 yz29 (by omega)
            obtain ⟨hM30_, -, -, t3M30, tM30, -⟩ := ms_f hM30
            have cM30 : ∀ j, j ≤ t.length → M30.1 264 j = Mw.1 264 j := fun j hj => by rw [eM30, hp_up_ne (by omega)]; exact cN28 j hj
            refine hp_ic (pc' := 392) (x := 1) rfl rfl rfl ?_
            refine hp_rb rfl rfl (by decide) ?_
            exact ⟨_, _, rfl, Or.inl ⟨rfl, _, _, _, pa_sx hx, Nat.lt_succ_self _, hM30, ⟨by omega, by rw [eM30, hp_up_ne (by omega), uN28, ms_c_of (by omega)]; omega⟩, ms_ke t (fun j hj => cM30 j hj) hkw.2⟩⟩
          · refine hp_al (pc' := 283) (j := 0) (Or.inr ⟨0, rfl, rfl, rfl⟩) rfl ?_
            refine hp_gr (pc' := 286) ha (hMw_.2.1 244 26 264 rfl) rfl rfl rfl rfl ?_
            refine hp_al (pc' := 287) (j := 0) (Or.inr ⟨0, rfl, rfl, rfl⟩) rfl ?_
            refine hp_gi (pc' := 290) (j := 21) (t := 0) ha rfl rfl rfl (by decide) rfl ?_
            refine hp_ld (pc' := 291) (j := (t.length + 1)) ha tMw (by omega) rfl rfl rfl ?_
            refine hp_zne (t := 307) (pc' := 294) rfl rfl rfl (fun c21 => ?_) (fun c21 => by exfalso; omega)
            refine hp_al (pc' := 308) (j := 0) (Or.inr ⟨0, rfl, rfl, rfl⟩) rfl ?_
            refine hp_gr (pc' := 311) ha (hMw_.2.1 244 26 264 rfl) rfl rfl rfl rfl ?_
            refine hp_al (pc' := 312) (j := 0) (Or.inr ⟨0, rfl, rfl, rfl⟩) rfl ?_
            refine hp_gi (pc' := 315) (j := 21) (t := 0) ha rfl rfl rfl (by decide) rfl ?_
            refine hp_ld (pc' := 316) (j := (t.length + 1)) ha tMw (by omega) rfl rfl rfl ?_
            refine hp_ic (pc' := 317) (x := 1) rfl rfl rfl ?_
            refine hp_ine (t := 333) (pc' := 320) rfl rfl rfl (fun c22 => by exfalso; omega) (fun c22 => ?_)
            refine hp_al (pc' := 321) (j := 0) (Or.inr ⟨0, rfl, rfl, rfl⟩) rfl ?_
            refine hp_gr (pc' := 324) ha (hMw_.2.1 244 28 266 rfl) rfl rfl rfl rfl ?_
            refine hp_al (pc' := 325) (j := 0) (Or.inr ⟨0, rfl, rfl, rfl⟩) rfl ?_
            refine hp_gi (pc' := 328) (j := 21) (t := 0) ha rfl rfl rfl (by decide) rfl ?_
            refine hp_al (pc' := 329) (j := 0) (Or.inr ⟨0, rfl, rfl, rfl⟩) rfl ?_
            refine hp_cv (Q := fun o => ∃ r : Int32, o = (some (.int r), a, Mw)) (pc' := 332) (e := d) (vs := []) (r := [.int (Mw.1 244 21), .ref 266]) ha rfl rfl rfl rfl rfl rfl rfl rfl (mt_ok ha hMw) (fun o ho => ?_)
            obtain ⟨r23, eo⟩ := ho
            subst eo
            refine ⟨_, rfl, ?_⟩
            show hp X (d + 1) 179 332 [some (.ref 244), some (.int r1), none] [.int r23, .int (Mw.1 244 21), .ref 266] a Mw _
            refine hp_st (pc' := 333) (j := (t.length + 1)) ha tMw (by omega) rfl rfl rfl (fun M24 eM24 gM24 => ?_)
            have hM24 := ms_w (q := 266) (j := (t.length + 1)) (z := r23) hMw (by omega) (ax_full_ok _) eM24 gM24
            obtain ⟨hM24_, -, -, t3M24, tM24, -⟩ := ms_f hM24
            have cM24 : ∀ j, M24.1 264 j = Mw.1 264 j := fun j => by rw [eM24, hp_up_ne (by omega)]
            refine hp_al (pc' := 334) (j := 0) (Or.inr ⟨0, rfl, rfl, rfl⟩) rfl ?_
            refine hp_gr (pc' := 337) ha (hM24_.2.1 244 26 264 rfl) rfl rfl rfl rfl ?_
            refine hp_al (pc' := 338) (j := 0) (Or.inr ⟨0, rfl, rfl, rfl⟩) rfl ?_
            refine hp_gi (pc' := 341) (j := 21) (t := 0) ha rfl rfl rfl (by decide) rfl ?_
            refine hp_ld (pc' := 342) (j := (t.length + 1)) ha tM24 (by omega) rfl rfl rfl ?_
            have v341M24 : (M24.1 264 (t.length + 1)).toInt = (Mw.1 264 (t.length + 1)).toInt := by rw [cM24]
            refine hp_ic (pc' := 343) (x := 2) rfl rfl rfl ?_
            refine hp_ine (t := 359) (pc' := 346) rfl rfl rfl (fun c25 => ?_) (fun c25 => by exfalso; omega)
            refine hp_al (pc' := 360) (j := 0) (Or.inr ⟨0, rfl, rfl, rfl⟩) rfl ?_
            refine hp_gr (pc' := 363) ha (hM24_.2.1 244 26 264 rfl) rfl rfl rfl rfl ?_
            refine hp_al (pc' := 364) (j := 0) (Or.inr ⟨0, rfl, rfl, rfl⟩) rfl ?_
            refine hp_gi (pc' := 367) (j := 21) (t := 0) ha rfl rfl rfl (by decide) rfl ?_
            refine hp_d2 (pc' := 368) rfl rfl ?_
            refine hp_ld (pc' := 369) (j := (t.length + 1)) ha tM24 (by omega) rfl rfl rfl ?_
            have v368M24 : (M24.1 264 (t.length + 1)).toInt = (Mw.1 264 (t.length + 1)).toInt := by rw [cM24]
            refine hp_ic (pc' := 370) (x := 1) rfl rfl rfl ?_
            refine hp_add (pc' := 371) rfl rfl (fun z26 hz26 => ?_)
            have yz26 : z26.toInt = (M24.1 264 (t.length + 1)).toInt + 1 := by rw [hz26, ax_add (by omega) (by omega), zz1]
            refine hp_st (pc' := 372) (j := (t.length + 1)) ha tM24 (by omega) rfl rfl rfl (fun M27 eM27 gM27 => ?_)
            have hM27 := ms_w (q := 264) (j := (t.length + 1)) (z := z26) hM24 (by omega) (show (-1 : Int) ≤ (z26 : Int32).toInt ∧ (z26 : Int32).toInt ≤ 3 by first | decide | omega) eM27 gM27
            obtain ⟨hM27_, -, -, t3M27, tM27, -⟩ := ms_f hM27
            have cM27 : ∀ j, j ≤ t.length → M27.1 264 j = Mw.1 264 j := fun j hj => by rw [eM27, hp_up_ne (by omega)]; exact cM24 j
            have uM27 : M27.1 264 (t.length + 1) = z26 := by rw [eM27, hp_up_eq]
            refine hp_al (pc' := 373) (j := 0) (Or.inr ⟨0, rfl, rfl, rfl⟩) rfl ?_
            refine hp_cv (Q := fun o => ∃ M1 : rx_M, o = (none, a, M1) ∧ ms_S n p (t.length + 1) true M0 M1 ∧ ∀ j, M1.1 264 j = M27.1 264 j) (pc' := 376) (e := d) (vs := []) (r := []) ha rfl rfl rfl rfl rfl rfl rfl rfl (mb_ok ha hM27) (fun o ho => ?_)
            obtain ⟨N28, eo, hN28, kN28⟩ := ho
            subst eo
            refine ⟨_, rfl, ?_⟩
            obtain ⟨hN28_, -, -, t3N28, tN28, -⟩ := ms_f hN28
            have cN28 : ∀ j, j ≤ t.length → N28.1 264 j = Mw.1 264 j := fun j hj => (kN28 j).trans (cM27 j hj)
            have uN28 : N28.1 264 (t.length + 1) = z26 := (kN28 _).trans uM27
            show hp X (d + 1) 179 376 [some (.ref 244), some (.int r1), none] [] a N28 _
            refine hp_go (t := 381) rfl rfl ?_
            refine hp_al (pc' := 382) (j := 0) (Or.inr ⟨0, rfl, rfl, rfl⟩) rfl ?_
            refine hp_dup (pc' := 383) rfl rfl rfl ?_
            refine hp_gi (pc' := 386) (j := 20) (t := 0) ha rfl rfl rfl (by decide) rfl ?_
            refine hp_ic (pc' := 387) (x := 1) rfl rfl rfl ?_
            refine hp_add (pc' := 388) rfl rfl (fun z29 hz29 => ?_)
            have yz29 : z29.toInt = ((p + 1 : Nat) : Int) := by
              rw [hz29, ax_add (by omega) (by omega), zz1, t3N28]
              omega
            refine hp_pf (pc' := 391) (j := 20) ha rfl rfl rfl rfl (fun M30 eM30 gM30 => ?_)
            have hM30 := ms_at hN28 eM30 gM30 yz29 (by omega)
            obtain ⟨hM30_, -, -, t3M30, tM30, -⟩ := ms_f hM30
            have cM30 : ∀ j, j ≤ t.length → M30.1 264 j = Mw.1 264 j := fun j hj => by rw [eM30, hp_up_ne (by omega)]; exact cN28 j hj
            refine hp_ic (pc' := 392) (x := 1) rfl rfl rfl ?_
            refine hp_rb rfl rfl (by decide) ?_
            exact ⟨_, _, rfl, Or.inl ⟨rfl, _, _, _, pa_sx hx, Nat.lt_succ_self _, hM30, ⟨by omega, by rw [eM30, hp_up_ne (by omega), uN28, ms_c_of (by omega)]; omega⟩, ms_ke t (fun j hj => cM30 j hj) hkw.2⟩⟩
          · refine hp_al (pc' := 283) (j := 0) (Or.inr ⟨0, rfl, rfl, rfl⟩) rfl ?_
            refine hp_gr (pc' := 286) ha (hMw_.2.1 244 26 264 rfl) rfl rfl rfl rfl ?_
            refine hp_al (pc' := 287) (j := 0) (Or.inr ⟨0, rfl, rfl, rfl⟩) rfl ?_
            refine hp_gi (pc' := 290) (j := 21) (t := 0) ha rfl rfl rfl (by decide) rfl ?_
            refine hp_ld (pc' := 291) (j := (t.length + 1)) ha tMw (by omega) rfl rfl rfl ?_
            refine hp_zne (t := 307) (pc' := 294) rfl rfl rfl (fun c21 => ?_) (fun c21 => by exfalso; omega)
            refine hp_al (pc' := 308) (j := 0) (Or.inr ⟨0, rfl, rfl, rfl⟩) rfl ?_
            refine hp_gr (pc' := 311) ha (hMw_.2.1 244 26 264 rfl) rfl rfl rfl rfl ?_
            refine hp_al (pc' := 312) (j := 0) (Or.inr ⟨0, rfl, rfl, rfl⟩) rfl ?_
            refine hp_gi (pc' := 315) (j := 21) (t := 0) ha rfl rfl rfl (by decide) rfl ?_
            refine hp_ld (pc' := 316) (j := (t.length + 1)) ha tMw (by omega) rfl rfl rfl ?_
            refine hp_ic (pc' := 317) (x := 1) rfl rfl rfl ?_
            refine hp_ine (t := 333) (pc' := 320) rfl rfl rfl (fun c22 => ?_) (fun c22 => by exfalso; omega)
            refine hp_al (pc' := 334) (j := 0) (Or.inr ⟨0, rfl, rfl, rfl⟩) rfl ?_
            refine hp_gr (pc' := 337) ha (hMw_.2.1 244 26 264 rfl) rfl rfl rfl rfl ?_
            refine hp_al (pc' := 338) (j := 0) (Or.inr ⟨0, rfl, rfl, rfl⟩) rfl ?_
            refine hp_gi (pc' := 341) (j := 21) (t := 0) ha rfl rfl rfl (by decide) rfl ?_
            refine hp_ld (pc' := 342) (j := (t.length + 1)) ha tMw (by omega) rfl rfl rfl ?_
            refine hp_ic (pc' := 343) (x := 2) rfl rfl rfl ?_
            refine hp_ine (t := 359) (pc' := 346) rfl rfl rfl (fun c23 => by exfalso; omega) (fun c23 => ?_)
            refine hp_al (pc' := 347) (j := 0) (Or.inr ⟨0, rfl, rfl, rfl⟩) rfl ?_
            refine hp_gr (pc' := 350) ha (hMw_.2.1 244 29 267 rfl) rfl rfl rfl rfl ?_
            refine hp_al (pc' := 351) (j := 0) (Or.inr ⟨0, rfl, rfl, rfl⟩) rfl ?_
            refine hp_gi (pc' := 354) (j := 21) (t := 0) ha rfl rfl rfl (by decide) rfl ?_
            refine hp_al (pc' := 355) (j := 0) (Or.inr ⟨0, rfl, rfl, rfl⟩) rfl ?_
            refine hp_cv (Q := fun o => ∃ r : Int32, o = (some (.int r), a, Mw)) (pc' := 358) (e := d) (vs := []) (r := [.int (Mw.1 244 21), .ref 267]) ha rfl rfl rfl rfl rfl rfl rfl rfl (mt_ok ha hMw) (fun o ho => ?_)
            obtain ⟨r24, eo⟩ := ho
            subst eo
            refine ⟨_, rfl, ?_⟩
            show hp X (d + 1) 179 358 [some (.ref 244), some (.int r1), none] [.int r24, .int (Mw.1 244 21), .ref 267] a Mw _
            refine hp_st (pc' := 359) (j := (t.length + 1)) ha tMw (by omega) rfl rfl rfl (fun M25 eM25 gM25 => ?_)
            have hM25 := ms_w (q := 267) (j := (t.length + 1)) (z := r24) hMw (by omega) (ax_full_ok _) eM25 gM25
            obtain ⟨hM25_, -, -, t3M25, tM25, -⟩ := ms_f hM25
            have cM25 : ∀ j, M25.1 264 j = Mw.1 264 j := fun j => by rw [eM25, hp_up_ne (by omega)]
            refine hp_al (pc' := 360) (j := 0) (Or.inr ⟨0, rfl, rfl, rfl⟩) rfl ?_
            refine hp_gr (pc' := 363) ha (hM25_.2.1 244 26 264 rfl) rfl rfl rfl rfl ?_
            refine hp_al (pc' := 364) (j := 0) (Or.inr ⟨0, rfl, rfl, rfl⟩) rfl ?_
            refine hp_gi (pc' := 367) (j := 21) (t := 0) ha rfl rfl rfl (by decide) rfl ?_
            refine hp_d2 (pc' := 368) rfl rfl ?_
            refine hp_ld (pc' := 369) (j := (t.length + 1)) ha tM25 (by omega) rfl rfl rfl ?_
            have v368M25 : (M25.1 264 (t.length + 1)).toInt = (Mw.1 264 (t.length + 1)).toInt := by rw [cM25]
            refine hp_ic (pc' := 370) (x := 1) rfl rfl rfl ?_
            refine hp_add (pc' := 371) rfl rfl (fun z26 hz26 => ?_)
            have yz26 : z26.toInt = (M25.1 264 (t.length + 1)).toInt + 1 := by rw [hz26, ax_add (by omega) (by omega), zz1]
            refine hp_st (pc' := 372) (j := (t.length + 1)) ha tM25 (by omega) rfl rfl rfl (fun M27 eM27 gM27 => ?_)
            have hM27 := ms_w (q := 264) (j := (t.length + 1)) (z := z26) hM25 (by omega) (show (-1 : Int) ≤ (z26 : Int32).toInt ∧ (z26 : Int32).toInt ≤ 3 by first | decide | omega) eM27 gM27
            obtain ⟨hM27_, -, -, t3M27, tM27, -⟩ := ms_f hM27
            have cM27 : ∀ j, j ≤ t.length → M27.1 264 j = Mw.1 264 j := fun j hj => by rw [eM27, hp_up_ne (by omega)]; exact cM25 j
            have uM27 : M27.1 264 (t.length + 1) = z26 := by rw [eM27, hp_up_eq]
            refine hp_al (pc' := 373) (j := 0) (Or.inr ⟨0, rfl, rfl, rfl⟩) rfl ?_
            refine hp_cv (Q := fun o => ∃ M1 : rx_M, o = (none, a, M1) ∧ ms_S n p (t.length + 1) true M0 M1 ∧ ∀ j, M1.1 264 j = M27.1 264 j) (pc' := 376) (e := d) (vs := []) (r := []) ha rfl rfl rfl rfl rfl rfl rfl rfl (mb_ok ha hM27) (fun o ho => ?_)
            obtain ⟨N28, eo, hN28, kN28⟩ := ho
            subst eo
            refine ⟨_, rfl, ?_⟩
            obtain ⟨hN28_, -, -, t3N28, tN28, -⟩ := ms_f hN28
            have cN28 : ∀ j, j ≤ t.length → N28.1 264 j = Mw.1 264 j := fun j hj => (kN28 j).trans (cM27 j hj)
            have uN28 : N28.1 264 (t.length + 1) = z26 := (kN28 _).trans uM27
            show hp X (d + 1) 179 376 [some (.ref 244), some (.int r1), none] [] a N28 _
            refine hp_go (t := 381) rfl rfl ?_
            refine hp_al (pc' := 382) (j := 0) (Or.inr ⟨0, rfl, rfl, rfl⟩) rfl ?_
            refine hp_dup (pc' := 383) rfl rfl rfl ?_
            refine hp_gi (pc' := 386) (j := 20) (t := 0) ha rfl rfl rfl (by decide) rfl ?_
            refine hp_ic (pc' := 387) (x := 1) rfl rfl rfl ?_
            refine hp_add (pc' := 388) rfl rfl (fun z29 hz29 => ?_)
            have yz29 : z29.toInt = ((p + 1 : Nat) : Int) := by
              rw [hz29, ax_add (by omega) (by omega), zz1, t3N28]
              omega
            refine hp_pf (pc' := 391) (j := 20) ha rfl rfl rfl rfl (fun M30 eM30 gM30 => ?_)
            have hM30 := ms_at hN28 eM30 gM30 yz29 (by omega)
            obtain ⟨hM30_, -, -, t3M30, tM30, -⟩ := ms_f hM30
            have cM30 : ∀ j, j ≤ t.length → M30.1 264 j = Mw.1 264 j := fun j hj => by rw [eM30, hp_up_ne (by omega)]; exact cN28 j hj
            refine hp_ic (pc' := 392) (x := 1) rfl rfl rfl ?_
            refine hp_rb rfl rfl (by decide) ?_
            exact ⟨_, _, rfl, Or.inl ⟨rfl, _, _, _, pa_sx hx, Nat.lt_succ_self _, hM30, ⟨by omega, by rw [eM30, hp_up_ne (by omega), uN28, ms_c_of (by omega)]; omega⟩, ms_ke t (fun j hj => cM30 j hj) hkw.2⟩⟩
        have K379 : ¬ ((ms_g M0 p = 41 ∧ k = 4) ∨ (ms_g M0 p = 93 ∧ k = 3)) → ¬ ((ms_g M0 p = 60 ∧ k = 0) ∨ (ms_g M0 p = 63 ∧ k = 1) ∨ (ms_g M0 p = 58 ∧ k = 2)) → hp X (d + 1) 179 379 [some (.ref 244), some (.int r1), none] [] a Mw (sg_Q n p (k :: t) M0 a) := by
          intro h1 h2
          have NO : pa_st (ms_g M0) n p (k :: t) false = none := pa_sn hno h1 h2
          refine hp_ic (pc' := 380) (x := 0) rfl rfl rfl ?_
          refine hp_rb rfl rfl (by decide) ?_
          exact ⟨_, _, rfl, Or.inr ⟨rfl, NO, _, _, hMw⟩⟩
        refine hp_al (pc' := 94) (j := 0) (Or.inr ⟨0, rfl, rfl, rfl⟩) rfl ?_
        refine hp_gi (pc' := 97) (j := 21) (t := 0) ha rfl rfl rfl (by decide) rfl ?_
        refine hp_zle (t := 219) (pc' := 100) rfl rfl rfl (fun c61 => ?_) (fun c61 => ?_)
        · refine hp_al (pc' := 220) (j := 0) (Or.inr ⟨0, rfl, rfl, rfl⟩) rfl ?_
          refine hp_gi (pc' := 223) (j := 21) (t := 0) ha rfl rfl rfl (by decide) rfl ?_
          refine hp_zle (t := 379) (pc' := 226) rfl rfl rfl (fun c62 => ?_) (fun c62 => ?_)
          · exact K379 (by omega) (by omega)
          · refine hp_il (pc' := 227) (j := 1) (Or.inr ⟨1, rfl, rfl, rfl⟩) rfl ?_
            refine hp_bi (pc' := 229) (x := 60) rfl rfl rfl ?_
            refine hp_ine (t := 244) (pc' := 232) rfl rfl rfl (fun c63 => ?_) (fun c63 => ?_)
            · refine hp_il (pc' := 245) (j := 1) (Or.inr ⟨1, rfl, rfl, rfl⟩) rfl ?_
              refine hp_bi (pc' := 247) (x := 63) rfl rfl rfl ?_
              refine hp_ine (t := 263) (pc' := 250) rfl rfl rfl (fun c64 => ?_) (fun c64 => ?_)
              · refine hp_il (pc' := 264) (j := 1) (Or.inr ⟨1, rfl, rfl, rfl⟩) rfl ?_
                refine hp_bi (pc' := 266) (x := 58) rfl rfl rfl ?_
                refine hp_ine (t := 379) (pc' := 269) rfl rfl rfl (fun c65 => ?_) (fun c65 => ?_)
                · exact K379 (by omega) (by omega)
                · refine hp_al (pc' := 270) (j := 0) (Or.inr ⟨0, rfl, rfl, rfl⟩) rfl ?_
                  refine hp_gr (pc' := 273) ha (hMw_.2.1 244 26 264 rfl) rfl rfl rfl rfl ?_
                  refine hp_al (pc' := 274) (j := 0) (Or.inr ⟨0, rfl, rfl, rfl⟩) rfl ?_
                  refine hp_gi (pc' := 277) (j := 21) (t := 0) ha rfl rfl rfl (by decide) rfl ?_
                  refine hp_ld (pc' := 278) (j := (t.length + 1)) ha tMw (by omega) rfl rfl rfl ?_
                  refine hp_ic (pc' := 279) (x := 2) rfl rfl rfl ?_
                  refine hp_ine (t := 379) (pc' := 282) rfl rfl rfl (fun c66 => ?_) (fun c66 => ?_)
                  · exact K379 (by omega) (by omega)
                  · exact K282 (by omega)
              · refine hp_al (pc' := 251) (j := 0) (Or.inr ⟨0, rfl, rfl, rfl⟩) rfl ?_
                refine hp_gr (pc' := 254) ha (hMw_.2.1 244 26 264 rfl) rfl rfl rfl rfl ?_
                refine hp_al (pc' := 255) (j := 0) (Or.inr ⟨0, rfl, rfl, rfl⟩) rfl ?_
                refine hp_gi (pc' := 258) (j := 21) (t := 0) ha rfl rfl rfl (by decide) rfl ?_
                refine hp_ld (pc' := 259) (j := (t.length + 1)) ha tMw (by omega) rfl rfl rfl ?_
                refine hp_ic (pc' := 260) (x := 1) rfl rfl rfl ?_
                refine hp_ieq (t := 282) (pc' := 263) rfl rfl rfl (fun c67 => ?_) (fun c67 => ?_)
                · exact K282 (by omega)
                · refine hp_il (pc' := 264) (j := 1) (Or.inr ⟨1, rfl, rfl, rfl⟩) rfl ?_
                  refine hp_bi (pc' := 266) (x := 58) rfl rfl rfl ?_
                  refine hp_ine (t := 379) (pc' := 269) rfl rfl rfl (fun c68 => ?_) (fun c68 => ?_)
                  · exact K379 (by omega) (by omega)
                  · refine hp_al (pc' := 270) (j := 0) (Or.inr ⟨0, rfl, rfl, rfl⟩) rfl ?_
                    refine hp_gr (pc' := 273) ha (hMw_.2.1 244 26 264 rfl) rfl rfl rfl rfl ?_
                    refine hp_al (pc' := 274) (j := 0) (Or.inr ⟨0, rfl, rfl, rfl⟩) rfl ?_
                    refine hp_gi (pc' := 277) (j := 21) (t := 0) ha rfl rfl rfl (by decide) rfl ?_
                    refine hp_ld (pc' := 278) (j := (t.length + 1)) ha tMw (by omega) rfl rfl rfl ?_
                    refine hp_ic (pc' := 279) (x := 2) rfl rfl rfl ?_
                    refine hp_ine (t := 379) (pc' := 282) rfl rfl rfl (fun c69 => ?_) (fun c69 => ?_)
                    · exact K379 (by omega) (by omega)
                    · exact K282 (by omega)
            · refine hp_al (pc' := 233) (j := 0) (Or.inr ⟨0, rfl, rfl, rfl⟩) rfl ?_
              refine hp_gr (pc' := 236) ha (hMw_.2.1 244 26 264 rfl) rfl rfl rfl rfl ?_
              refine hp_al (pc' := 237) (j := 0) (Or.inr ⟨0, rfl, rfl, rfl⟩) rfl ?_
              refine hp_gi (pc' := 240) (j := 21) (t := 0) ha rfl rfl rfl (by decide) rfl ?_
              refine hp_ld (pc' := 241) (j := (t.length + 1)) ha tMw (by omega) rfl rfl rfl ?_
              refine hp_zeq (t := 282) (pc' := 244) rfl rfl rfl (fun c70 => ?_) (fun c70 => ?_)
              · exact K282 (by omega)
              · refine hp_il (pc' := 245) (j := 1) (Or.inr ⟨1, rfl, rfl, rfl⟩) rfl ?_
                refine hp_bi (pc' := 247) (x := 63) rfl rfl rfl ?_
                refine hp_ine (t := 263) (pc' := 250) rfl rfl rfl (fun c71 => ?_) (fun c71 => ?_)
                · refine hp_il (pc' := 264) (j := 1) (Or.inr ⟨1, rfl, rfl, rfl⟩) rfl ?_
                  refine hp_bi (pc' := 266) (x := 58) rfl rfl rfl ?_
                  refine hp_ine (t := 379) (pc' := 269) rfl rfl rfl (fun c72 => ?_) (fun c72 => ?_)
                  · exact K379 (by omega) (by omega)
                  · refine hp_al (pc' := 270) (j := 0) (Or.inr ⟨0, rfl, rfl, rfl⟩) rfl ?_
                    refine hp_gr (pc' := 273) ha (hMw_.2.1 244 26 264 rfl) rfl rfl rfl rfl ?_
                    refine hp_al (pc' := 274) (j := 0) (Or.inr ⟨0, rfl, rfl, rfl⟩) rfl ?_
                    refine hp_gi (pc' := 277) (j := 21) (t := 0) ha rfl rfl rfl (by decide) rfl ?_
                    refine hp_ld (pc' := 278) (j := (t.length + 1)) ha tMw (by omega) rfl rfl rfl ?_
                    refine hp_ic (pc' := 279) (x := 2) rfl rfl rfl ?_
                    refine hp_ine (t := 379) (pc' := 282) rfl rfl rfl (fun c73 => ?_) (fun c73 => ?_)
                    · exact K379 (by omega) (by omega)
                    · exact K282 (by omega)
                · refine hp_al (pc' := 251) (j := 0) (Or.inr ⟨0, rfl, rfl, rfl⟩) rfl ?_
                  refine hp_gr (pc' := 254) ha (hMw_.2.1 244 26 264 rfl) rfl rfl rfl rfl ?_
                  refine hp_al (pc' := 255) (j := 0) (Or.inr ⟨0, rfl, rfl, rfl⟩) rfl ?_
                  refine hp_gi (pc' := 258) (j := 21) (t := 0) ha rfl rfl rfl (by decide) rfl ?_
                  refine hp_ld (pc' := 259) (j := (t.length + 1)) ha tMw (by omega) rfl rfl rfl ?_
                  refine hp_ic (pc' := 260) (x := 1) rfl rfl rfl ?_
                  refine hp_ieq (t := 282) (pc' := 263) rfl rfl rfl (fun c74 => ?_) (fun c74 => ?_)
                  · exact K282 (by omega)
                  · refine hp_il (pc' := 264) (j := 1) (Or.inr ⟨1, rfl, rfl, rfl⟩) rfl ?_
                    refine hp_bi (pc' := 266) (x := 58) rfl rfl rfl ?_
                    refine hp_ine (t := 379) (pc' := 269) rfl rfl rfl (fun c75 => ?_) (fun c75 => ?_)
                    · exact K379 (by omega) (by omega)
                    · refine hp_al (pc' := 270) (j := 0) (Or.inr ⟨0, rfl, rfl, rfl⟩) rfl ?_
                      refine hp_gr (pc' := 273) ha (hMw_.2.1 244 26 264 rfl) rfl rfl rfl rfl ?_
                      refine hp_al (pc' := 274) (j := 0) (Or.inr ⟨0, rfl, rfl, rfl⟩) rfl ?_
                      refine hp_gi (pc' := 277) (j := 21) (t := 0) ha rfl rfl rfl (by decide) rfl ?_
                      refine hp_ld (pc' := 278) (j := (t.length + 1)) ha tMw (by omega) rfl rfl rfl ?_
                      refine hp_ic (pc' := 279) (x := 2) rfl rfl rfl ?_
                      refine hp_ine (t := 379) (pc' := 282) rfl rfl rfl (fun c76 => ?_) (fun c76 => ?_)
                      · exact K379 (by omega) (by omega)
                      · exact K282 (by omega)
        · refine hp_il (pc' := 101) (j := 1) (Or.inr ⟨1, rfl, rfl, rfl⟩) rfl ?_
          refine hp_bi (pc' := 103) (x := 41) rfl rfl rfl ?_
          refine hp_ine (t := 119) (pc' := 106) rfl rfl rfl (fun c77 => ?_) (fun c77 => ?_)
          · refine hp_il (pc' := 120) (j := 1) (Or.inr ⟨1, rfl, rfl, rfl⟩) rfl ?_
            refine hp_bi (pc' := 122) (x := 93) rfl rfl rfl ?_
            refine hp_ine (t := 219) (pc' := 125) rfl rfl rfl (fun c78 => ?_) (fun c78 => ?_)
            · refine hp_al (pc' := 220) (j := 0) (Or.inr ⟨0, rfl, rfl, rfl⟩) rfl ?_
              refine hp_gi (pc' := 223) (j := 21) (t := 0) ha rfl rfl rfl (by decide) rfl ?_
              refine hp_zle (t := 379) (pc' := 226) rfl rfl rfl (fun c79 => ?_) (fun c79 => ?_)
              · exact K379 (by omega) (by omega)
              · refine hp_il (pc' := 227) (j := 1) (Or.inr ⟨1, rfl, rfl, rfl⟩) rfl ?_
                refine hp_bi (pc' := 229) (x := 60) rfl rfl rfl ?_
                refine hp_ine (t := 244) (pc' := 232) rfl rfl rfl (fun c80 => ?_) (fun c80 => ?_)
                · refine hp_il (pc' := 245) (j := 1) (Or.inr ⟨1, rfl, rfl, rfl⟩) rfl ?_
                  refine hp_bi (pc' := 247) (x := 63) rfl rfl rfl ?_
                  refine hp_ine (t := 263) (pc' := 250) rfl rfl rfl (fun c81 => ?_) (fun c81 => ?_)
                  · refine hp_il (pc' := 264) (j := 1) (Or.inr ⟨1, rfl, rfl, rfl⟩) rfl ?_
                    refine hp_bi (pc' := 266) (x := 58) rfl rfl rfl ?_
                    refine hp_ine (t := 379) (pc' := 269) rfl rfl rfl (fun c82 => ?_) (fun c82 => ?_)
                    · exact K379 (by omega) (by omega)
                    · refine hp_al (pc' := 270) (j := 0) (Or.inr ⟨0, rfl, rfl, rfl⟩) rfl ?_
                      refine hp_gr (pc' := 273) ha (hMw_.2.1 244 26 264 rfl) rfl rfl rfl rfl ?_
                      refine hp_al (pc' := 274) (j := 0) (Or.inr ⟨0, rfl, rfl, rfl⟩) rfl ?_
                      refine hp_gi (pc' := 277) (j := 21) (t := 0) ha rfl rfl rfl (by decide) rfl ?_
                      refine hp_ld (pc' := 278) (j := (t.length + 1)) ha tMw (by omega) rfl rfl rfl ?_
                      refine hp_ic (pc' := 279) (x := 2) rfl rfl rfl ?_
                      refine hp_ine (t := 379) (pc' := 282) rfl rfl rfl (fun c83 => ?_) (fun c83 => ?_)
                      · exact K379 (by omega) (by omega)
                      · exact K282 (by omega)
                  · refine hp_al (pc' := 251) (j := 0) (Or.inr ⟨0, rfl, rfl, rfl⟩) rfl ?_
                    refine hp_gr (pc' := 254) ha (hMw_.2.1 244 26 264 rfl) rfl rfl rfl rfl ?_
                    refine hp_al (pc' := 255) (j := 0) (Or.inr ⟨0, rfl, rfl, rfl⟩) rfl ?_
                    refine hp_gi (pc' := 258) (j := 21) (t := 0) ha rfl rfl rfl (by decide) rfl ?_
                    refine hp_ld (pc' := 259) (j := (t.length + 1)) ha tMw (by omega) rfl rfl rfl ?_
                    refine hp_ic (pc' := 260) (x := 1) rfl rfl rfl ?_
                    refine hp_ieq (t := 282) (pc' := 263) rfl rfl rfl (fun c84 => ?_) (fun c84 => ?_)
                    · exact K282 (by omega)
                    · refine hp_il (pc' := 264) (j := 1) (Or.inr ⟨1, rfl, rfl, rfl⟩) rfl ?_
                      refine hp_bi (pc' := 266) (x := 58) rfl rfl rfl ?_
                      refine hp_ine (t := 379) (pc' := 269) rfl rfl rfl (fun c85 => ?_) (fun c85 => ?_)
                      · exact K379 (by omega) (by omega)
                      · refine hp_al (pc' := 270) (j := 0) (Or.inr ⟨0, rfl, rfl, rfl⟩) rfl ?_
                        refine hp_gr (pc' := 273) ha (hMw_.2.1 244 26 264 rfl) rfl rfl rfl rfl ?_
                        refine hp_al (pc' := 274) (j := 0) (Or.inr ⟨0, rfl, rfl, rfl⟩) rfl ?_
                        refine hp_gi (pc' := 277) (j := 21) (t := 0) ha rfl rfl rfl (by decide) rfl ?_
                        refine hp_ld (pc' := 278) (j := (t.length + 1)) ha tMw (by omega) rfl rfl rfl ?_
                        refine hp_ic (pc' := 279) (x := 2) rfl rfl rfl ?_
                        refine hp_ine (t := 379) (pc' := 282) rfl rfl rfl (fun c86 => ?_) (fun c86 => ?_)
                        · exact K379 (by omega) (by omega)
                        · exact K282 (by omega)
                · refine hp_al (pc' := 233) (j := 0) (Or.inr ⟨0, rfl, rfl, rfl⟩) rfl ?_
                  refine hp_gr (pc' := 236) ha (hMw_.2.1 244 26 264 rfl) rfl rfl rfl rfl ?_
                  refine hp_al (pc' := 237) (j := 0) (Or.inr ⟨0, rfl, rfl, rfl⟩) rfl ?_
                  refine hp_gi (pc' := 240) (j := 21) (t := 0) ha rfl rfl rfl (by decide) rfl ?_
                  refine hp_ld (pc' := 241) (j := (t.length + 1)) ha tMw (by omega) rfl rfl rfl ?_
                  refine hp_zeq (t := 282) (pc' := 244) rfl rfl rfl (fun c87 => ?_) (fun c87 => ?_)
                  · exact K282 (by omega)
                  · refine hp_il (pc' := 245) (j := 1) (Or.inr ⟨1, rfl, rfl, rfl⟩) rfl ?_
                    refine hp_bi (pc' := 247) (x := 63) rfl rfl rfl ?_
                    refine hp_ine (t := 263) (pc' := 250) rfl rfl rfl (fun c88 => ?_) (fun c88 => ?_)
                    · refine hp_il (pc' := 264) (j := 1) (Or.inr ⟨1, rfl, rfl, rfl⟩) rfl ?_
                      refine hp_bi (pc' := 266) (x := 58) rfl rfl rfl ?_
                      refine hp_ine (t := 379) (pc' := 269) rfl rfl rfl (fun c89 => ?_) (fun c89 => ?_)
                      · exact K379 (by omega) (by omega)
                      · refine hp_al (pc' := 270) (j := 0) (Or.inr ⟨0, rfl, rfl, rfl⟩) rfl ?_
                        refine hp_gr (pc' := 273) ha (hMw_.2.1 244 26 264 rfl) rfl rfl rfl rfl ?_
                        refine hp_al (pc' := 274) (j := 0) (Or.inr ⟨0, rfl, rfl, rfl⟩) rfl ?_
                        refine hp_gi (pc' := 277) (j := 21) (t := 0) ha rfl rfl rfl (by decide) rfl ?_
                        refine hp_ld (pc' := 278) (j := (t.length + 1)) ha tMw (by omega) rfl rfl rfl ?_
                        refine hp_ic (pc' := 279) (x := 2) rfl rfl rfl ?_
                        refine hp_ine (t := 379) (pc' := 282) rfl rfl rfl (fun c90 => ?_) (fun c90 => ?_)
                        · exact K379 (by omega) (by omega)
                        · exact K282 (by omega)
                    · refine hp_al (pc' := 251) (j := 0) (Or.inr ⟨0, rfl, rfl, rfl⟩) rfl ?_
                      refine hp_gr (pc' := 254) ha (hMw_.2.1 244 26 264 rfl) rfl rfl rfl rfl ?_
                      refine hp_al (pc' := 255) (j := 0) (Or.inr ⟨0, rfl, rfl, rfl⟩) rfl ?_
                      refine hp_gi (pc' := 258) (j := 21) (t := 0) ha rfl rfl rfl (by decide) rfl ?_
                      refine hp_ld (pc' := 259) (j := (t.length + 1)) ha tMw (by omega) rfl rfl rfl ?_
                      refine hp_ic (pc' := 260) (x := 1) rfl rfl rfl ?_
                      refine hp_ieq (t := 282) (pc' := 263) rfl rfl rfl (fun c91 => ?_) (fun c91 => ?_)
                      · exact K282 (by omega)
                      · refine hp_il (pc' := 264) (j := 1) (Or.inr ⟨1, rfl, rfl, rfl⟩) rfl ?_
                        refine hp_bi (pc' := 266) (x := 58) rfl rfl rfl ?_
                        refine hp_ine (t := 379) (pc' := 269) rfl rfl rfl (fun c92 => ?_) (fun c92 => ?_)
                        · exact K379 (by omega) (by omega)
                        · refine hp_al (pc' := 270) (j := 0) (Or.inr ⟨0, rfl, rfl, rfl⟩) rfl ?_
                          refine hp_gr (pc' := 273) ha (hMw_.2.1 244 26 264 rfl) rfl rfl rfl rfl ?_
                          refine hp_al (pc' := 274) (j := 0) (Or.inr ⟨0, rfl, rfl, rfl⟩) rfl ?_
                          refine hp_gi (pc' := 277) (j := 21) (t := 0) ha rfl rfl rfl (by decide) rfl ?_
                          refine hp_ld (pc' := 278) (j := (t.length + 1)) ha tMw (by omega) rfl rfl rfl ?_
                          refine hp_ic (pc' := 279) (x := 2) rfl rfl rfl ?_
                          refine hp_ine (t := 379) (pc' := 282) rfl rfl rfl (fun c93 => ?_) (fun c93 => ?_)
                          · exact K379 (by omega) (by omega)
                          · exact K282 (by omega)
            · refine hp_al (pc' := 126) (j := 0) (Or.inr ⟨0, rfl, rfl, rfl⟩) rfl ?_
              refine hp_gr (pc' := 129) ha (hMw_.2.1 244 26 264 rfl) rfl rfl rfl rfl ?_
              refine hp_al (pc' := 130) (j := 0) (Or.inr ⟨0, rfl, rfl, rfl⟩) rfl ?_
              refine hp_gi (pc' := 133) (j := 21) (t := 0) ha rfl rfl rfl (by decide) rfl ?_
              refine hp_ld (pc' := 134) (j := (t.length + 1)) ha tMw (by omega) rfl rfl rfl ?_
              refine hp_ic (pc' := 135) (x := 3) rfl rfl rfl ?_
              refine hp_ine (t := 219) (pc' := 138) rfl rfl rfl (fun c94 => ?_) (fun c94 => ?_)
              · refine hp_al (pc' := 220) (j := 0) (Or.inr ⟨0, rfl, rfl, rfl⟩) rfl ?_
                refine hp_gi (pc' := 223) (j := 21) (t := 0) ha rfl rfl rfl (by decide) rfl ?_
                refine hp_zle (t := 379) (pc' := 226) rfl rfl rfl (fun c95 => ?_) (fun c95 => ?_)
                · exact K379 (by omega) (by omega)
                · refine hp_il (pc' := 227) (j := 1) (Or.inr ⟨1, rfl, rfl, rfl⟩) rfl ?_
                  refine hp_bi (pc' := 229) (x := 60) rfl rfl rfl ?_
                  refine hp_ine (t := 244) (pc' := 232) rfl rfl rfl (fun c96 => ?_) (fun c96 => ?_)
                  · refine hp_il (pc' := 245) (j := 1) (Or.inr ⟨1, rfl, rfl, rfl⟩) rfl ?_
                    refine hp_bi (pc' := 247) (x := 63) rfl rfl rfl ?_
                    refine hp_ine (t := 263) (pc' := 250) rfl rfl rfl (fun c97 => ?_) (fun c97 => ?_)
                    · refine hp_il (pc' := 264) (j := 1) (Or.inr ⟨1, rfl, rfl, rfl⟩) rfl ?_
                      refine hp_bi (pc' := 266) (x := 58) rfl rfl rfl ?_
                      refine hp_ine (t := 379) (pc' := 269) rfl rfl rfl (fun c98 => ?_) (fun c98 => ?_)
                      · exact K379 (by omega) (by omega)
                      · refine hp_al (pc' := 270) (j := 0) (Or.inr ⟨0, rfl, rfl, rfl⟩) rfl ?_
                        refine hp_gr (pc' := 273) ha (hMw_.2.1 244 26 264 rfl) rfl rfl rfl rfl ?_
                        refine hp_al (pc' := 274) (j := 0) (Or.inr ⟨0, rfl, rfl, rfl⟩) rfl ?_
                        refine hp_gi (pc' := 277) (j := 21) (t := 0) ha rfl rfl rfl (by decide) rfl ?_
                        refine hp_ld (pc' := 278) (j := (t.length + 1)) ha tMw (by omega) rfl rfl rfl ?_
                        refine hp_ic (pc' := 279) (x := 2) rfl rfl rfl ?_
                        refine hp_ine (t := 379) (pc' := 282) rfl rfl rfl (fun c99 => ?_) (fun c99 => ?_)
                        · exact K379 (by omega) (by omega)
                        · exact K282 (by omega)
                    · refine hp_al (pc' := 251) (j := 0) (Or.inr ⟨0, rfl, rfl, rfl⟩) rfl ?_
                      refine hp_gr (pc' := 254) ha (hMw_.2.1 244 26 264 rfl) rfl rfl rfl rfl ?_
                      refine hp_al (pc' := 255) (j := 0) (Or.inr ⟨0, rfl, rfl, rfl⟩) rfl ?_
                      refine hp_gi (pc' := 258) (j := 21) (t := 0) ha rfl rfl rfl (by decide) rfl ?_
                      refine hp_ld (pc' := 259) (j := (t.length + 1)) ha tMw (by omega) rfl rfl rfl ?_
                      refine hp_ic (pc' := 260) (x := 1) rfl rfl rfl ?_
                      refine hp_ieq (t := 282) (pc' := 263) rfl rfl rfl (fun c100 => ?_) (fun c100 => ?_)
                      · exact K282 (by omega)
                      · refine hp_il (pc' := 264) (j := 1) (Or.inr ⟨1, rfl, rfl, rfl⟩) rfl ?_
                        refine hp_bi (pc' := 266) (x := 58) rfl rfl rfl ?_
                        refine hp_ine (t := 379) (pc' := 269) rfl rfl rfl (fun c101 => ?_) (fun c101 => ?_)
                        · exact K379 (by omega) (by omega)
                        · refine hp_al (pc' := 270) (j := 0) (Or.inr ⟨0, rfl, rfl, rfl⟩) rfl ?_
                          refine hp_gr (pc' := 273) ha (hMw_.2.1 244 26 264 rfl) rfl rfl rfl rfl ?_
                          refine hp_al (pc' := 274) (j := 0) (Or.inr ⟨0, rfl, rfl, rfl⟩) rfl ?_
                          refine hp_gi (pc' := 277) (j := 21) (t := 0) ha rfl rfl rfl (by decide) rfl ?_
                          refine hp_ld (pc' := 278) (j := (t.length + 1)) ha tMw (by omega) rfl rfl rfl ?_
                          refine hp_ic (pc' := 279) (x := 2) rfl rfl rfl ?_
                          refine hp_ine (t := 379) (pc' := 282) rfl rfl rfl (fun c102 => ?_) (fun c102 => ?_)
                          · exact K379 (by omega) (by omega)
                          · exact K282 (by omega)
                  · refine hp_al (pc' := 233) (j := 0) (Or.inr ⟨0, rfl, rfl, rfl⟩) rfl ?_
                    refine hp_gr (pc' := 236) ha (hMw_.2.1 244 26 264 rfl) rfl rfl rfl rfl ?_
                    refine hp_al (pc' := 237) (j := 0) (Or.inr ⟨0, rfl, rfl, rfl⟩) rfl ?_
                    refine hp_gi (pc' := 240) (j := 21) (t := 0) ha rfl rfl rfl (by decide) rfl ?_
                    refine hp_ld (pc' := 241) (j := (t.length + 1)) ha tMw (by omega) rfl rfl rfl ?_
                    refine hp_zeq (t := 282) (pc' := 244) rfl rfl rfl (fun c103 => ?_) (fun c103 => ?_)
                    · exact K282 (by omega)
                    · refine hp_il (pc' := 245) (j := 1) (Or.inr ⟨1, rfl, rfl, rfl⟩) rfl ?_
                      refine hp_bi (pc' := 247) (x := 63) rfl rfl rfl ?_
                      refine hp_ine (t := 263) (pc' := 250) rfl rfl rfl (fun c104 => ?_) (fun c104 => ?_)
                      · refine hp_il (pc' := 264) (j := 1) (Or.inr ⟨1, rfl, rfl, rfl⟩) rfl ?_
                        refine hp_bi (pc' := 266) (x := 58) rfl rfl rfl ?_
                        refine hp_ine (t := 379) (pc' := 269) rfl rfl rfl (fun c105 => ?_) (fun c105 => ?_)
                        · exact K379 (by omega) (by omega)
                        · refine hp_al (pc' := 270) (j := 0) (Or.inr ⟨0, rfl, rfl, rfl⟩) rfl ?_
                          refine hp_gr (pc' := 273) ha (hMw_.2.1 244 26 264 rfl) rfl rfl rfl rfl ?_
                          refine hp_al (pc' := 274) (j := 0) (Or.inr ⟨0, rfl, rfl, rfl⟩) rfl ?_
                          refine hp_gi (pc' := 277) (j := 21) (t := 0) ha rfl rfl rfl (by decide) rfl ?_
                          refine hp_ld (pc' := 278) (j := (t.length + 1)) ha tMw (by omega) rfl rfl rfl ?_
                          refine hp_ic (pc' := 279) (x := 2) rfl rfl rfl ?_
                          refine hp_ine (t := 379) (pc' := 282) rfl rfl rfl (fun c106 => ?_) (fun c106 => ?_)
                          · exact K379 (by omega) (by omega)
                          · exact K282 (by omega)
                      · refine hp_al (pc' := 251) (j := 0) (Or.inr ⟨0, rfl, rfl, rfl⟩) rfl ?_
                        refine hp_gr (pc' := 254) ha (hMw_.2.1 244 26 264 rfl) rfl rfl rfl rfl ?_
                        refine hp_al (pc' := 255) (j := 0) (Or.inr ⟨0, rfl, rfl, rfl⟩) rfl ?_
                        refine hp_gi (pc' := 258) (j := 21) (t := 0) ha rfl rfl rfl (by decide) rfl ?_
                        refine hp_ld (pc' := 259) (j := (t.length + 1)) ha tMw (by omega) rfl rfl rfl ?_
                        refine hp_ic (pc' := 260) (x := 1) rfl rfl rfl ?_
                        refine hp_ieq (t := 282) (pc' := 263) rfl rfl rfl (fun c107 => ?_) (fun c107 => ?_)
                        · exact K282 (by omega)
                        · refine hp_il (pc' := 264) (j := 1) (Or.inr ⟨1, rfl, rfl, rfl⟩) rfl ?_
                          refine hp_bi (pc' := 266) (x := 58) rfl rfl rfl ?_
                          refine hp_ine (t := 379) (pc' := 269) rfl rfl rfl (fun c108 => ?_) (fun c108 => ?_)
                          · exact K379 (by omega) (by omega)
                          · refine hp_al (pc' := 270) (j := 0) (Or.inr ⟨0, rfl, rfl, rfl⟩) rfl ?_
                            refine hp_gr (pc' := 273) ha (hMw_.2.1 244 26 264 rfl) rfl rfl rfl rfl ?_
                            refine hp_al (pc' := 274) (j := 0) (Or.inr ⟨0, rfl, rfl, rfl⟩) rfl ?_
                            refine hp_gi (pc' := 277) (j := 21) (t := 0) ha rfl rfl rfl (by decide) rfl ?_
                            refine hp_ld (pc' := 278) (j := (t.length + 1)) ha tMw (by omega) rfl rfl rfl ?_
                            refine hp_ic (pc' := 279) (x := 2) rfl rfl rfl ?_
                            refine hp_ine (t := 379) (pc' := 282) rfl rfl rfl (fun c109 => ?_) (fun c109 => ?_)
                            · exact K379 (by omega) (by omega)
                            · exact K282 (by omega)
              · exact K138 (by omega)
          · refine hp_al (pc' := 107) (j := 0) (Or.inr ⟨0, rfl, rfl, rfl⟩) rfl ?_
            refine hp_gr (pc' := 110) ha (hMw_.2.1 244 26 264 rfl) rfl rfl rfl rfl ?_
            refine hp_al (pc' := 111) (j := 0) (Or.inr ⟨0, rfl, rfl, rfl⟩) rfl ?_
            refine hp_gi (pc' := 114) (j := 21) (t := 0) ha rfl rfl rfl (by decide) rfl ?_
            refine hp_ld (pc' := 115) (j := (t.length + 1)) ha tMw (by omega) rfl rfl rfl ?_
            refine hp_ic (pc' := 116) (x := (-1)) rfl rfl rfl ?_
            refine hp_ieq (t := 138) (pc' := 119) rfl rfl rfl (fun c110 => ?_) (fun c110 => ?_)
            · exact K138 (by omega)
            · refine hp_il (pc' := 120) (j := 1) (Or.inr ⟨1, rfl, rfl, rfl⟩) rfl ?_
              refine hp_bi (pc' := 122) (x := 93) rfl rfl rfl ?_
              refine hp_ine (t := 219) (pc' := 125) rfl rfl rfl (fun c111 => ?_) (fun c111 => ?_)
              · refine hp_al (pc' := 220) (j := 0) (Or.inr ⟨0, rfl, rfl, rfl⟩) rfl ?_
                refine hp_gi (pc' := 223) (j := 21) (t := 0) ha rfl rfl rfl (by decide) rfl ?_
                refine hp_zle (t := 379) (pc' := 226) rfl rfl rfl (fun c112 => ?_) (fun c112 => ?_)
                · exact K379 (by omega) (by omega)
                · refine hp_il (pc' := 227) (j := 1) (Or.inr ⟨1, rfl, rfl, rfl⟩) rfl ?_
                  refine hp_bi (pc' := 229) (x := 60) rfl rfl rfl ?_
                  refine hp_ine (t := 244) (pc' := 232) rfl rfl rfl (fun c113 => ?_) (fun c113 => ?_)
                  · refine hp_il (pc' := 245) (j := 1) (Or.inr ⟨1, rfl, rfl, rfl⟩) rfl ?_
                    refine hp_bi (pc' := 247) (x := 63) rfl rfl rfl ?_
                    refine hp_ine (t := 263) (pc' := 250) rfl rfl rfl (fun c114 => ?_) (fun c114 => ?_)
                    · refine hp_il (pc' := 264) (j := 1) (Or.inr ⟨1, rfl, rfl, rfl⟩) rfl ?_
                      refine hp_bi (pc' := 266) (x := 58) rfl rfl rfl ?_
                      refine hp_ine (t := 379) (pc' := 269) rfl rfl rfl (fun c115 => ?_) (fun c115 => ?_)
                      · exact K379 (by omega) (by omega)
                      · refine hp_al (pc' := 270) (j := 0) (Or.inr ⟨0, rfl, rfl, rfl⟩) rfl ?_
                        refine hp_gr (pc' := 273) ha (hMw_.2.1 244 26 264 rfl) rfl rfl rfl rfl ?_
                        refine hp_al (pc' := 274) (j := 0) (Or.inr ⟨0, rfl, rfl, rfl⟩) rfl ?_
                        refine hp_gi (pc' := 277) (j := 21) (t := 0) ha rfl rfl rfl (by decide) rfl ?_
                        refine hp_ld (pc' := 278) (j := (t.length + 1)) ha tMw (by omega) rfl rfl rfl ?_
                        refine hp_ic (pc' := 279) (x := 2) rfl rfl rfl ?_
                        refine hp_ine (t := 379) (pc' := 282) rfl rfl rfl (fun c116 => ?_) (fun c116 => ?_)
                        · exact K379 (by omega) (by omega)
                        · exact K282 (by omega)
                    · refine hp_al (pc' := 251) (j := 0) (Or.inr ⟨0, rfl, rfl, rfl⟩) rfl ?_
                      refine hp_gr (pc' := 254) ha (hMw_.2.1 244 26 264 rfl) rfl rfl rfl rfl ?_
                      refine hp_al (pc' := 255) (j := 0) (Or.inr ⟨0, rfl, rfl, rfl⟩) rfl ?_
                      refine hp_gi (pc' := 258) (j := 21) (t := 0) ha rfl rfl rfl (by decide) rfl ?_
                      refine hp_ld (pc' := 259) (j := (t.length + 1)) ha tMw (by omega) rfl rfl rfl ?_
                      refine hp_ic (pc' := 260) (x := 1) rfl rfl rfl ?_
                      refine hp_ieq (t := 282) (pc' := 263) rfl rfl rfl (fun c117 => ?_) (fun c117 => ?_)
                      · exact K282 (by omega)
                      · refine hp_il (pc' := 264) (j := 1) (Or.inr ⟨1, rfl, rfl, rfl⟩) rfl ?_
                        refine hp_bi (pc' := 266) (x := 58) rfl rfl rfl ?_
                        refine hp_ine (t := 379) (pc' := 269) rfl rfl rfl (fun c118 => ?_) (fun c118 => ?_)
                        · exact K379 (by omega) (by omega)
                        · refine hp_al (pc' := 270) (j := 0) (Or.inr ⟨0, rfl, rfl, rfl⟩) rfl ?_
                          refine hp_gr (pc' := 273) ha (hMw_.2.1 244 26 264 rfl) rfl rfl rfl rfl ?_
                          refine hp_al (pc' := 274) (j := 0) (Or.inr ⟨0, rfl, rfl, rfl⟩) rfl ?_
                          refine hp_gi (pc' := 277) (j := 21) (t := 0) ha rfl rfl rfl (by decide) rfl ?_
                          refine hp_ld (pc' := 278) (j := (t.length + 1)) ha tMw (by omega) rfl rfl rfl ?_
                          refine hp_ic (pc' := 279) (x := 2) rfl rfl rfl ?_
                          refine hp_ine (t := 379) (pc' := 282) rfl rfl rfl (fun c119 => ?_) (fun c119 => ?_)
                          · exact K379 (by omega) (by omega)
                          · exact K282 (by omega)
                  · refine hp_al (pc' := 233) (j := 0) (Or.inr ⟨0, rfl, rfl, rfl⟩) rfl ?_
                    refine hp_gr (pc' := 236) ha (hMw_.2.1 244 26 264 rfl) rfl rfl rfl rfl ?_
                    refine hp_al (pc' := 237) (j := 0) (Or.inr ⟨0, rfl, rfl, rfl⟩) rfl ?_
                    refine hp_gi (pc' := 240) (j := 21) (t := 0) ha rfl rfl rfl (by decide) rfl ?_
                    refine hp_ld (pc' := 241) (j := (t.length + 1)) ha tMw (by omega) rfl rfl rfl ?_
                    refine hp_zeq (t := 282) (pc' := 244) rfl rfl rfl (fun c120 => ?_) (fun c120 => ?_)
                    · exact K282 (by omega)
                    · refine hp_il (pc' := 245) (j := 1) (Or.inr ⟨1, rfl, rfl, rfl⟩) rfl ?_
                      refine hp_bi (pc' := 247) (x := 63) rfl rfl rfl ?_
                      refine hp_ine (t := 263) (pc' := 250) rfl rfl rfl (fun c121 => ?_) (fun c121 => ?_)
                      · refine hp_il (pc' := 264) (j := 1) (Or.inr ⟨1, rfl, rfl, rfl⟩) rfl ?_
                        refine hp_bi (pc' := 266) (x := 58) rfl rfl rfl ?_
                        refine hp_ine (t := 379) (pc' := 269) rfl rfl rfl (fun c122 => ?_) (fun c122 => ?_)
                        · exact K379 (by omega) (by omega)
                        · refine hp_al (pc' := 270) (j := 0) (Or.inr ⟨0, rfl, rfl, rfl⟩) rfl ?_
                          refine hp_gr (pc' := 273) ha (hMw_.2.1 244 26 264 rfl) rfl rfl rfl rfl ?_
                          refine hp_al (pc' := 274) (j := 0) (Or.inr ⟨0, rfl, rfl, rfl⟩) rfl ?_
                          refine hp_gi (pc' := 277) (j := 21) (t := 0) ha rfl rfl rfl (by decide) rfl ?_
                          refine hp_ld (pc' := 278) (j := (t.length + 1)) ha tMw (by omega) rfl rfl rfl ?_
                          refine hp_ic (pc' := 279) (x := 2) rfl rfl rfl ?_
                          refine hp_ine (t := 379) (pc' := 282) rfl rfl rfl (fun c123 => ?_) (fun c123 => ?_)
                          · exact K379 (by omega) (by omega)
                          · exact K282 (by omega)
                      · refine hp_al (pc' := 251) (j := 0) (Or.inr ⟨0, rfl, rfl, rfl⟩) rfl ?_
                        refine hp_gr (pc' := 254) ha (hMw_.2.1 244 26 264 rfl) rfl rfl rfl rfl ?_
                        refine hp_al (pc' := 255) (j := 0) (Or.inr ⟨0, rfl, rfl, rfl⟩) rfl ?_
                        refine hp_gi (pc' := 258) (j := 21) (t := 0) ha rfl rfl rfl (by decide) rfl ?_
                        refine hp_ld (pc' := 259) (j := (t.length + 1)) ha tMw (by omega) rfl rfl rfl ?_
                        refine hp_ic (pc' := 260) (x := 1) rfl rfl rfl ?_
                        refine hp_ieq (t := 282) (pc' := 263) rfl rfl rfl (fun c124 => ?_) (fun c124 => ?_)
                        · exact K282 (by omega)
                        · refine hp_il (pc' := 264) (j := 1) (Or.inr ⟨1, rfl, rfl, rfl⟩) rfl ?_
                          refine hp_bi (pc' := 266) (x := 58) rfl rfl rfl ?_
                          refine hp_ine (t := 379) (pc' := 269) rfl rfl rfl (fun c125 => ?_) (fun c125 => ?_)
                          · exact K379 (by omega) (by omega)
                          · refine hp_al (pc' := 270) (j := 0) (Or.inr ⟨0, rfl, rfl, rfl⟩) rfl ?_
                            refine hp_gr (pc' := 273) ha (hMw_.2.1 244 26 264 rfl) rfl rfl rfl rfl ?_
                            refine hp_al (pc' := 274) (j := 0) (Or.inr ⟨0, rfl, rfl, rfl⟩) rfl ?_
                            refine hp_gi (pc' := 277) (j := 21) (t := 0) ha rfl rfl rfl (by decide) rfl ?_
                            refine hp_ld (pc' := 278) (j := (t.length + 1)) ha tMw (by omega) rfl rfl rfl ?_
                            refine hp_ic (pc' := 279) (x := 2) rfl rfl rfl ?_
                            refine hp_ine (t := 379) (pc' := 282) rfl rfl rfl (fun c126 => ?_) (fun c126 => ?_)
                            · exact K379 (by omega) (by omega)
                            · exact K282 (by omega)
              · refine hp_al (pc' := 126) (j := 0) (Or.inr ⟨0, rfl, rfl, rfl⟩) rfl ?_
                refine hp_gr (pc' := 129) ha (hMw_.2.1 244 26 264 rfl) rfl rfl rfl rfl ?_
                refine hp_al (pc' := 130) (j := 0) (Or.inr ⟨0, rfl, rfl, rfl⟩) rfl ?_
                refine hp_gi (pc' := 133) (j := 21) (t := 0) ha rfl rfl rfl (by decide) rfl ?_
                refine hp_ld (pc' := 134) (j := (t.length + 1)) ha tMw (by omega) rfl rfl rfl ?_
                refine hp_ic (pc' := 135) (x := 3) rfl rfl rfl ?_
                refine hp_ine (t := 219) (pc' := 138) rfl rfl rfl (fun c127 => ?_) (fun c127 => ?_)
                · refine hp_al (pc' := 220) (j := 0) (Or.inr ⟨0, rfl, rfl, rfl⟩) rfl ?_
                  refine hp_gi (pc' := 223) (j := 21) (t := 0) ha rfl rfl rfl (by decide) rfl ?_
                  refine hp_zle (t := 379) (pc' := 226) rfl rfl rfl (fun c128 => ?_) (fun c128 => ?_)
                  · exact K379 (by omega) (by omega)
                  · refine hp_il (pc' := 227) (j := 1) (Or.inr ⟨1, rfl, rfl, rfl⟩) rfl ?_
                    refine hp_bi (pc' := 229) (x := 60) rfl rfl rfl ?_
                    refine hp_ine (t := 244) (pc' := 232) rfl rfl rfl (fun c129 => ?_) (fun c129 => ?_)
                    · refine hp_il (pc' := 245) (j := 1) (Or.inr ⟨1, rfl, rfl, rfl⟩) rfl ?_
                      refine hp_bi (pc' := 247) (x := 63) rfl rfl rfl ?_
                      refine hp_ine (t := 263) (pc' := 250) rfl rfl rfl (fun c130 => ?_) (fun c130 => ?_)
                      · refine hp_il (pc' := 264) (j := 1) (Or.inr ⟨1, rfl, rfl, rfl⟩) rfl ?_
                        refine hp_bi (pc' := 266) (x := 58) rfl rfl rfl ?_
                        refine hp_ine (t := 379) (pc' := 269) rfl rfl rfl (fun c131 => ?_) (fun c131 => ?_)
                        · exact K379 (by omega) (by omega)
                        · refine hp_al (pc' := 270) (j := 0) (Or.inr ⟨0, rfl, rfl, rfl⟩) rfl ?_
                          refine hp_gr (pc' := 273) ha (hMw_.2.1 244 26 264 rfl) rfl rfl rfl rfl ?_
                          refine hp_al (pc' := 274) (j := 0) (Or.inr ⟨0, rfl, rfl, rfl⟩) rfl ?_
                          refine hp_gi (pc' := 277) (j := 21) (t := 0) ha rfl rfl rfl (by decide) rfl ?_
                          refine hp_ld (pc' := 278) (j := (t.length + 1)) ha tMw (by omega) rfl rfl rfl ?_
                          refine hp_ic (pc' := 279) (x := 2) rfl rfl rfl ?_
                          refine hp_ine (t := 379) (pc' := 282) rfl rfl rfl (fun c132 => ?_) (fun c132 => ?_)
                          · exact K379 (by omega) (by omega)
                          · exact K282 (by omega)
                      · refine hp_al (pc' := 251) (j := 0) (Or.inr ⟨0, rfl, rfl, rfl⟩) rfl ?_
                        refine hp_gr (pc' := 254) ha (hMw_.2.1 244 26 264 rfl) rfl rfl rfl rfl ?_
                        refine hp_al (pc' := 255) (j := 0) (Or.inr ⟨0, rfl, rfl, rfl⟩) rfl ?_
                        refine hp_gi (pc' := 258) (j := 21) (t := 0) ha rfl rfl rfl (by decide) rfl ?_
                        refine hp_ld (pc' := 259) (j := (t.length + 1)) ha tMw (by omega) rfl rfl rfl ?_
                        refine hp_ic (pc' := 260) (x := 1) rfl rfl rfl ?_
                        refine hp_ieq (t := 282) (pc' := 263) rfl rfl rfl (fun c133 => ?_) (fun c133 => ?_)
                        · exact K282 (by omega)
                        · refine hp_il (pc' := 264) (j := 1) (Or.inr ⟨1, rfl, rfl, rfl⟩) rfl ?_
                          refine hp_bi (pc' := 266) (x := 58) rfl rfl rfl ?_
                          refine hp_ine (t := 379) (pc' := 269) rfl rfl rfl (fun c134 => ?_) (fun c134 => ?_)
                          · exact K379 (by omega) (by omega)
                          · refine hp_al (pc' := 270) (j := 0) (Or.inr ⟨0, rfl, rfl, rfl⟩) rfl ?_
                            refine hp_gr (pc' := 273) ha (hMw_.2.1 244 26 264 rfl) rfl rfl rfl rfl ?_
                            refine hp_al (pc' := 274) (j := 0) (Or.inr ⟨0, rfl, rfl, rfl⟩) rfl ?_
                            refine hp_gi (pc' := 277) (j := 21) (t := 0) ha rfl rfl rfl (by decide) rfl ?_
                            refine hp_ld (pc' := 278) (j := (t.length + 1)) ha tMw (by omega) rfl rfl rfl ?_
                            refine hp_ic (pc' := 279) (x := 2) rfl rfl rfl ?_
                            refine hp_ine (t := 379) (pc' := 282) rfl rfl rfl (fun c135 => ?_) (fun c135 => ?_)
                            · exact K379 (by omega) (by omega)
                            · exact K282 (by omega)
                    · refine hp_al (pc' := 233) (j := 0) (Or.inr ⟨0, rfl, rfl, rfl⟩) rfl ?_
                      refine hp_gr (pc' := 236) ha (hMw_.2.1 244 26 264 rfl) rfl rfl rfl rfl ?_
                      refine hp_al (pc' := 237) (j := 0) (Or.inr ⟨0, rfl, rfl, rfl⟩) rfl ?_
                      refine hp_gi (pc' := 240) (j := 21) (t := 0) ha rfl rfl rfl (by decide) rfl ?_
                      refine hp_ld (pc' := 241) (j := (t.length + 1)) ha tMw (by omega) rfl rfl rfl ?_
                      refine hp_zeq (t := 282) (pc' := 244) rfl rfl rfl (fun c136 => ?_) (fun c136 => ?_)
                      · exact K282 (by omega)
                      · refine hp_il (pc' := 245) (j := 1) (Or.inr ⟨1, rfl, rfl, rfl⟩) rfl ?_
                        refine hp_bi (pc' := 247) (x := 63) rfl rfl rfl ?_
                        refine hp_ine (t := 263) (pc' := 250) rfl rfl rfl (fun c137 => ?_) (fun c137 => ?_)
                        · refine hp_il (pc' := 264) (j := 1) (Or.inr ⟨1, rfl, rfl, rfl⟩) rfl ?_
                          refine hp_bi (pc' := 266) (x := 58) rfl rfl rfl ?_
                          refine hp_ine (t := 379) (pc' := 269) rfl rfl rfl (fun c138 => ?_) (fun c138 => ?_)
                          · exact K379 (by omega) (by omega)
                          · refine hp_al (pc' := 270) (j := 0) (Or.inr ⟨0, rfl, rfl, rfl⟩) rfl ?_
                            refine hp_gr (pc' := 273) ha (hMw_.2.1 244 26 264 rfl) rfl rfl rfl rfl ?_
                            refine hp_al (pc' := 274) (j := 0) (Or.inr ⟨0, rfl, rfl, rfl⟩) rfl ?_
                            refine hp_gi (pc' := 277) (j := 21) (t := 0) ha rfl rfl rfl (by decide) rfl ?_
                            refine hp_ld (pc' := 278) (j := (t.length + 1)) ha tMw (by omega) rfl rfl rfl ?_
                            refine hp_ic (pc' := 279) (x := 2) rfl rfl rfl ?_
                            refine hp_ine (t := 379) (pc' := 282) rfl rfl rfl (fun c139 => ?_) (fun c139 => ?_)
                            · exact K379 (by omega) (by omega)
                            · exact K282 (by omega)
                        · refine hp_al (pc' := 251) (j := 0) (Or.inr ⟨0, rfl, rfl, rfl⟩) rfl ?_
                          refine hp_gr (pc' := 254) ha (hMw_.2.1 244 26 264 rfl) rfl rfl rfl rfl ?_
                          refine hp_al (pc' := 255) (j := 0) (Or.inr ⟨0, rfl, rfl, rfl⟩) rfl ?_
                          refine hp_gi (pc' := 258) (j := 21) (t := 0) ha rfl rfl rfl (by decide) rfl ?_
                          refine hp_ld (pc' := 259) (j := (t.length + 1)) ha tMw (by omega) rfl rfl rfl ?_
                          refine hp_ic (pc' := 260) (x := 1) rfl rfl rfl ?_
                          refine hp_ieq (t := 282) (pc' := 263) rfl rfl rfl (fun c140 => ?_) (fun c140 => ?_)
                          · exact K282 (by omega)
                          · refine hp_il (pc' := 264) (j := 1) (Or.inr ⟨1, rfl, rfl, rfl⟩) rfl ?_
                            refine hp_bi (pc' := 266) (x := 58) rfl rfl rfl ?_
                            refine hp_ine (t := 379) (pc' := 269) rfl rfl rfl (fun c141 => ?_) (fun c141 => ?_)
                            · exact K379 (by omega) (by omega)
                            · refine hp_al (pc' := 270) (j := 0) (Or.inr ⟨0, rfl, rfl, rfl⟩) rfl ?_
                              refine hp_gr (pc' := 273) ha (hMw_.2.1 244 26 264 rfl) rfl rfl rfl rfl ?_
                              refine hp_al (pc' := 274) (j := 0) (Or.inr ⟨0, rfl, rfl, rfl⟩) rfl ?_
                              refine hp_gi (pc' := 277) (j := 21) (t := 0) ha rfl rfl rfl (by decide) rfl ?_
                              refine hp_ld (pc' := 278) (j := (t.length + 1)) ha tMw (by omega) rfl rfl rfl ?_
                              refine hp_ic (pc' := 279) (x := 2) rfl rfl rfl ?_
                              refine hp_ine (t := 379) (pc' := 282) rfl rfl rfl (fun c142 => ?_) (fun c142 => ?_)
                              · exact K379 (by omega) (by omega)
                              · exact K282 (by omega)
                · exact K138 (by omega)
    refine hp_il (pc' := 11) (j := 1) (Or.inr ⟨1, rfl, rfl, rfl⟩) rfl ?_
    refine hp_bi (pc' := 13) (x := 42) rfl rfl rfl ?_
    refine hp_ieq (t := 22) (pc' := 16) rfl rfl rfl (fun c6 => ?_) (fun c6 => ?_)
    · exact K22 (by omega)
    · refine hp_il (pc' := 17) (j := 1) (Or.inr ⟨1, rfl, rfl, rfl⟩) rfl ?_
      refine hp_bi (pc' := 19) (x := 47) rfl rfl rfl ?_
      refine hp_ine (t := 35) (pc' := 22) rfl rfl rfl (fun c7 => ?_) (fun c7 => ?_)
      · refine hp_il (pc' := 36) (j := 1) (Or.inr ⟨1, rfl, rfl, rfl⟩) rfl ?_
        refine hp_bi (pc' := 38) (x := 43) rfl rfl rfl ?_
        refine hp_ieq (t := 47) (pc' := 41) rfl rfl rfl (fun c8 => ?_) (fun c8 => ?_)
        · exact K47 (by omega)
        · refine hp_il (pc' := 42) (j := 1) (Or.inr ⟨1, rfl, rfl, rfl⟩) rfl ?_
          refine hp_bi (pc' := 44) (x := 45) rfl rfl rfl ?_
          refine hp_ine (t := 93) (pc' := 47) rfl rfl rfl (fun c9 => ?_) (fun c9 => ?_)
          · exact K93 (by omega)
          · exact K47 (by omega)
      · exact K22 (by omega)
  refine hp_al (pc' := 1) (j := 0) (Or.inr ⟨0, rfl, rfl, rfl⟩) rfl ?_
  refine hp_cv (Q := fun o => ∃ r : Int32, o = (some (.int r), a, M) ∧ ((p < n ∧ r.toInt = ms_g M0 p) ∨ (¬ p < n ∧ r.toInt = -1))) (pc' := 4) (e := d) (vs := []) (r := []) ha rfl rfl rfl rfl rfl rfl rfl rfl (mn_ok ha hS) (fun o ho => ?_)
  obtain ⟨r1, eo, q1⟩ := ho
  subst eo
  refine ⟨_, rfl, ?_⟩
  have q1 : r1.toInt = ms_g M0 p := by omega
  show hp X (d + 1) 179 4 [some (.ref 244), none, none] [.int r1] a M _
  refine hp_is (pc' := 5) (j := 1) (ls' := [some (.ref 244), some (.int r1), none]) (Or.inr ⟨1, rfl, rfl, rfl⟩) (by simp) rfl ?_
  refine hp_al (pc' := 6) (j := 0) (Or.inr ⟨0, rfl, rfl, rfl⟩) rfl ?_
  refine hp_ic (pc' := 7) (x := 1) rfl rfl rfl ?_
  refine hp_pfb (pc' := 10) (j := 30) ha (by decide) rfl rfl rfl rfl (fun M1 eM1 gM1 => ?_)
  have hM1 := ms_wn (z := (1 : Int32)) true hS eM1 gM1 rfl
  obtain ⟨hM1_, -, -, t3M1, tM1, -⟩ := ms_f hM1
  have cM1 : ∀ j, M1.1 264 j = M.1 264 j := fun j => by rw [eM1, hp_up_ne (by omega)]
  exact W M1 hM1 cM1 r1 q1
end SG
