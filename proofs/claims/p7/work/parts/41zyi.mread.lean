/-! a custom's text as the reference reads it: small ones -/
/-- the reader: its size n, place p, depth D, whether an atom is wanted -/
noncomputable def ms_S (n p D : Nat) (w : Bool) (M0 M : rx_M) : Prop := ax_J0 ax_sp ax_rf M ∧ (M.2 = M0.2 ∧ ∀ q j, ¬ ((260 ≤ q ∧ q ≤ 267) ∨ (q = 244 ∧ (j = 20 ∨ j = 21 ∨ j = 30))) → M.1 q j = M0.1 q j) ∧ ((M0.1 244 19).toInt = 150 ∧ (M0.1 258 150).toInt = (n : Int)) ∧ (M.1 244 20).toInt = (p : Int) ∧ (M.1 244 21).toInt = (D : Int) ∧ (M.1 244 30).toInt = cond w 1 0 ∧ p ≤ n ∧ n ≤ 80 ∧ D ≤ 8
noncomputable def ms_g (M0 : rx_M) (j : Nat) : Int := (M0.1 257 (12000 + j)).toInt
/-- the stages that are open: 4 is a parenthesis -/
noncomputable def ms_c (k : Nat) : Int := if k = 4 then -1 else (k : Int)
noncomputable def ms_k (M : rx_M) : List Nat → Prop
  | [] => True
  | k :: t => (k ≤ 4 ∧ (M.1 264 (t.length + 1)).toInt = ms_c k) ∧ ms_k M t
theorem ms_ke {M M1 : rx_M} : ∀ (s : List Nat), (∀ j, j ≤ s.length → M1.1 264 j = M.1 264 j) → ms_k M s → ms_k M1 s
  | [], _, _ => trivial
  | k :: t, h, hk => by
    refine ⟨⟨hk.1.1, ?_⟩, ms_ke t (fun j hj => h j (by rw [List.length_cons]; omega)) hk.2⟩
    rw [h _ (by rw [List.length_cons]; omega)]
    exact hk.1.2
theorem ms_w {n p D q j : Nat} {w : Bool} {z : Int32} {M0 M M1 : rx_M} (h : ms_S n p D w M0 M) (h2 : 260 ≤ q ∧ q ≤ 267) (hz : (ax_sp q j).1 ≤ z.toInt ∧ z.toInt ≤ (ax_sp q j).2) (e : M1.1 = rx_up M.1 q j z) (g : M1.2 = M.2) : ms_S n p D w M0 M1 := by
  obtain ⟨h1, ⟨h3, h4⟩, h5, h6, h7, h8, h9⟩ := h
  have hq : ax_quiet 260 267 = true := by decide
  refine ⟨?_, ⟨g.trans h3, fun p k hp => by rw [e, hp_up_ne (by omega)]; exact h4 p k hp⟩, h5, by rw [e, hp_up_ne (by omega)]; exact h6, by rw [e, hp_up_ne (by omega)]; exact h7, by rw [e, hp_up_ne (by omega)]; exact h8, h9⟩
  refine ⟨fun p k => ?_, hp_Re h1.2.1 g, by rw [e]; exact ax_G_free h1.2.2 hq (by omega) (by omega) (by omega) (by omega)⟩
  rw [e]
  by_cases hk : p = q ∧ k = j
  · rw [hk.1, hk.2, hp_up_eq]
    exact hz
  · rw [hp_up_ne hk]
    exact h1.1 p k
section MS
variable {X : Nat × (Nat → Int32)} {d n p D : Nat} {w : Bool} {a : rx_K} {M0 M : rx_M} {P : rx_O → Prop} {x1 x2 x3 : Int32}
theorem ms_f (h : ms_S n p D w M0 M) : ax_J0 ax_sp ax_rf M ∧ (M.1 244 19).toInt = 150 ∧ (M.1 258 150).toInt = (n : Int) ∧ (M.1 244 20).toInt = (p : Int) ∧ (M.1 244 21).toInt = (D : Int) ∧ ∀ j, (M.1 257 (12000 + j)).toInt = ms_g M0 j := by
  obtain ⟨h1, ⟨h3, h4⟩, ⟨h5, h5'⟩, h6, h7, h8⟩ := h
  refine ⟨h1, by rw [h4 244 19 (by omega)]; exact h5, by rw [h4 258 150 (by omega)]; exact h5', h6, h7, fun j => ?_⟩
  rw [h4 257 _ (by omega)]
  rfl
theorem mn_ok (ha : a.1 = rx_cells) (hS : ms_S n p D w M0 M) : hp X d 172 0 [some (.ref 244)] [] a M (fun o => ∃ r : Int32, o = (some (.int r), a, M) ∧ ((p < n ∧ r.toInt = ms_g M0 p) ∨ (¬ p < n ∧ r.toInt = -1))) := by
  have zz80 : (80 : Int32).toInt = 80 := rfl
  have zm1 : ((-1) : Int32).toInt = -1 := rfl
  obtain ⟨hM, s1, s2, s3, s4, s5⟩ := ms_f hS
  obtain ⟨-, -, -, -, -, s6, s7, s8, s9⟩ := id hS
  refine hp_al (pc' := 1) (j := 0) (Or.inr ⟨0, rfl, rfl, rfl⟩) rfl ?_
  refine hp_gi (pc' := 4) (j := 20) (t := 0) ha rfl rfl rfl (by decide) rfl ?_
  refine hp_al (pc' := 5) (j := 0) (Or.inr ⟨0, rfl, rfl, rfl⟩) rfl ?_
  refine hp_gr (pc' := 8) ha (hM.2.1 244 17 258 rfl) rfl rfl rfl rfl ?_
  refine hp_al (pc' := 9) (j := 0) (Or.inr ⟨0, rfl, rfl, rfl⟩) rfl ?_
  refine hp_gi (pc' := 12) (j := 19) (t := 0) ha rfl rfl rfl (by decide) rfl ?_
  refine hp_ld (pc' := 13) (j := 150) ha s1 (by omega) rfl rfl rfl ?_
  refine hp_ige (t := 36) (pc' := 16) rfl rfl rfl (fun c1 => ?_) (fun c1 => ?_)
  · refine hp_ic (pc' := 37) (x := (-1)) rfl rfl rfl ?_
    refine hp_ri rfl rfl ?_
    exact ⟨_, rfl, Or.inr ⟨by omega, rfl⟩⟩
  · refine hp_al (pc' := 17) (j := 0) (Or.inr ⟨0, rfl, rfl, rfl⟩) rfl ?_
    refine hp_gr (pc' := 20) ha (hM.2.1 244 16 257 rfl) rfl rfl rfl rfl ?_
    refine hp_bi (pc' := 22) (x := 80) rfl rfl rfl ?_
    refine hp_al (pc' := 23) (j := 0) (Or.inr ⟨0, rfl, rfl, rfl⟩) rfl ?_
    refine hp_gi (pc' := 26) (j := 19) (t := 0) ha rfl rfl rfl (by decide) rfl ?_
    refine hp_mul (pc' := 27) rfl rfl (fun z2 hz2 => ?_)
    have yz2 : z2.toInt = ((12000 : Nat) : Int) := by
      rw [hz2, ax_mul (by rw [zz80, s1]; omega) (by rw [zz80, s1]; omega), zz80, s1]
      rfl
    refine hp_al (pc' := 28) (j := 0) (Or.inr ⟨0, rfl, rfl, rfl⟩) rfl ?_
    refine hp_gi (pc' := 31) (j := 20) (t := 0) ha rfl rfl rfl (by decide) rfl ?_
    refine hp_add (pc' := 32) rfl rfl (fun z3 hz3 => ?_)
    have yz3 : z3.toInt = ((12000 + p : Nat) : Int) := by
      rw [hz3, ax_add (by omega) (by omega), yz2, s3]
      omega
    refine hp_ld (pc' := 33) (j := (12000 + p)) ha yz3 (by omega) rfl rfl rfl ?_
    refine hp_go (t := 37) rfl rfl ?_
    refine hp_ri rfl rfl ?_
    exact ⟨_, rfl, Or.inl ⟨by omega, s5 p⟩⟩
theorem mb_ok (ha : a.1 = rx_cells) (hS : ms_S n p D w M0 M) : hp X d 173 0 [some (.ref 244)] [] a M (fun o => ∃ M1 : rx_M, o = (none, a, M1) ∧ ms_S n p D w M0 M1 ∧ ∀ j, M1.1 264 j = M.1 264 j) := by
  obtain ⟨hM, s1, s2, s3, s4, s5⟩ := ms_f hS
  obtain ⟨-, -, -, -, -, s6, s7, s8, s9⟩ := id hS
  refine hp_al (pc' := 1) (j := 0) (Or.inr ⟨0, rfl, rfl, rfl⟩) rfl ?_
  refine hp_gr (pc' := 4) ha (hM.2.1 244 22 260 rfl) rfl rfl rfl rfl ?_
  refine hp_al (pc' := 5) (j := 0) (Or.inr ⟨0, rfl, rfl, rfl⟩) rfl ?_
  refine hp_gi (pc' := 8) (j := 21) (t := 0) ha rfl rfl rfl (by decide) rfl ?_
  refine hp_ic (pc' := 9) (x := 0) rfl rfl rfl ?_
  refine hp_st (pc' := 10) (j := D) ha s4 (by omega) rfl rfl rfl (fun M1 eM1 gM1 => ?_)
  have hM1 := ms_w (q := 260) (j := D) (z := (0 : Int32)) hS (by omega) (show (-2147483648 : Int) ≤ ((0 : Int32) : Int32).toInt ∧ ((0 : Int32) : Int32).toInt ≤ 2147483647 by first | decide | omega) eM1 gM1
  obtain ⟨hM1_, -, -, -, tM1, -⟩ := ms_f hM1
  refine hp_al (pc' := 11) (j := 0) (Or.inr ⟨0, rfl, rfl, rfl⟩) rfl ?_
  refine hp_gr (pc' := 14) ha (hM1_.2.1 244 23 261 rfl) rfl rfl rfl rfl ?_
  refine hp_al (pc' := 15) (j := 0) (Or.inr ⟨0, rfl, rfl, rfl⟩) rfl ?_
  refine hp_gi (pc' := 18) (j := 21) (t := 0) ha rfl rfl rfl (by decide) rfl ?_
  refine hp_ic (pc' := 19) (x := 1) rfl rfl rfl ?_
  refine hp_st (pc' := 20) (j := D) ha tM1 (by omega) rfl rfl rfl (fun M2 eM2 gM2 => ?_)
  have hM2 := ms_w (q := 261) (j := D) (z := (1 : Int32)) hM1 (by omega) (show (-1 : Int) ≤ ((1 : Int32) : Int32).toInt ∧ ((1 : Int32) : Int32).toInt ≤ 1 by first | decide | omega) eM2 gM2
  obtain ⟨hM2_, -, -, -, tM2, -⟩ := ms_f hM2
  refine hp_al (pc' := 21) (j := 0) (Or.inr ⟨0, rfl, rfl, rfl⟩) rfl ?_
  refine hp_gr (pc' := 24) ha (hM2_.2.1 244 25 263 rfl) rfl rfl rfl rfl ?_
  refine hp_al (pc' := 25) (j := 0) (Or.inr ⟨0, rfl, rfl, rfl⟩) rfl ?_
  refine hp_gi (pc' := 28) (j := 21) (t := 0) ha rfl rfl rfl (by decide) rfl ?_
  refine hp_ic (pc' := 29) (x := 0) rfl rfl rfl ?_
  refine hp_st (pc' := 30) (j := D) ha tM2 (by omega) rfl rfl rfl (fun M3 eM3 gM3 => ?_)
  have hM3 := ms_w (q := 263) (j := D) (z := (0 : Int32)) hM2 (by omega) (show (0 : Int) ≤ ((0 : Int32) : Int32).toInt ∧ ((0 : Int32) : Int32).toInt ≤ 60 by first | decide | omega) eM3 gM3
  obtain ⟨hM3_, -, -, -, tM3, -⟩ := ms_f hM3
  refine hp_rv rfl rfl ?_
  exact ⟨_, rfl, hM3, fun j => by rw [eM3, hp_up_ne (by omega), eM2, hp_up_ne (by omega), eM1, hp_up_ne (by omega)]⟩
theorem mt_ok (ha : a.1 = rx_cells) (hS : ms_S n p D w M0 M) : hp X d 175 0 [some (.ref 244)] [] a M (fun o => ∃ r : Int32, o = (some (.int r), a, M)) := by
  obtain ⟨hM, s1, s2, s3, s4, s5⟩ := ms_f hS
  obtain ⟨-, -, -, -, -, s6, s7, s8, s9⟩ := id hS
  refine hp_al (pc' := 1) (j := 0) (Or.inr ⟨0, rfl, rfl, rfl⟩) rfl ?_
  refine hp_gr (pc' := 4) ha (hM.2.1 244 22 260 rfl) rfl rfl rfl rfl ?_
  refine hp_al (pc' := 5) (j := 0) (Or.inr ⟨0, rfl, rfl, rfl⟩) rfl ?_
  refine hp_gi (pc' := 8) (j := 21) (t := 0) ha rfl rfl rfl (by decide) rfl ?_
  refine hp_ld (pc' := 9) (j := D) ha s4 (by omega) rfl rfl rfl ?_
  refine hp_al (pc' := 10) (j := 0) (Or.inr ⟨0, rfl, rfl, rfl⟩) rfl ?_
  refine hp_gr (pc' := 13) ha (hM.2.1 244 23 261 rfl) rfl rfl rfl rfl ?_
  refine hp_al (pc' := 14) (j := 0) (Or.inr ⟨0, rfl, rfl, rfl⟩) rfl ?_
  refine hp_gi (pc' := 17) (j := 21) (t := 0) ha rfl rfl rfl (by decide) rfl ?_
  refine hp_ld (pc' := 18) (j := D) ha s4 (by omega) rfl rfl rfl ?_
  refine hp_al (pc' := 19) (j := 0) (Or.inr ⟨0, rfl, rfl, rfl⟩) rfl ?_
  refine hp_gr (pc' := 22) ha (hM.2.1 244 24 262 rfl) rfl rfl rfl rfl ?_
  refine hp_al (pc' := 23) (j := 0) (Or.inr ⟨0, rfl, rfl, rfl⟩) rfl ?_
  refine hp_gi (pc' := 26) (j := 21) (t := 0) ha rfl rfl rfl (by decide) rfl ?_
  refine hp_ld (pc' := 27) (j := D) ha s4 (by omega) rfl rfl rfl ?_
  refine hp_mul (pc' := 28) rfl rfl (fun z1 hz1 => ?_)
  refine hp_add (pc' := 29) rfl rfl (fun z2 hz2 => ?_)
  refine hp_ri rfl rfl ?_
  exact ⟨_, rfl⟩
theorem mo_ok2 : hp X d 176 0 [some (.ref 244), some (.int x1)] [] a M (fun o => ∃ r : Int32, o = (some (.int r), a, M) ∧ ((pa_fb x1.toInt = true ∧ (0 ≤ r.toInt ∧ r.toInt ≤ 6)) ∨ (¬ pa_fb x1.toInt = true ∧ r.toInt = -1))) := by
  have zz103 : (103 : Int32).toInt = 103 := rfl
  have zz104 : (104 : Int32).toInt = 104 := rfl
  have zz110 : (110 : Int32).toInt = 110 := rfl
  have zz115 : (115 : Int32).toInt = 115 := rfl
  have zz116 : (116 : Int32).toInt = 116 := rfl
  have zz119 : (119 : Int32).toInt = 119 := rfl
  have zz121 : (121 : Int32).toInt = 121 := rfl
  refine hp_il (pc' := 1) (j := 1) (Or.inr ⟨1, rfl, rfl, rfl⟩) rfl ?_
  refine hp_bi (pc' := 3) (x := 104) rfl rfl rfl ?_
  refine hp_ine (t := 10) (pc' := 6) rfl rfl rfl (fun c1 => ?_) (fun c1 => ?_)
  · refine hp_il (pc' := 11) (j := 1) (Or.inr ⟨1, rfl, rfl, rfl⟩) rfl ?_
    refine hp_bi (pc' := 13) (x := 110) rfl rfl rfl ?_
    refine hp_ine (t := 20) (pc' := 16) rfl rfl rfl (fun c2 => ?_) (fun c2 => ?_)
    · refine hp_il (pc' := 21) (j := 1) (Or.inr ⟨1, rfl, rfl, rfl⟩) rfl ?_
      refine hp_bi (pc' := 23) (x := 103) rfl rfl rfl ?_
      refine hp_ine (t := 30) (pc' := 26) rfl rfl rfl (fun c3 => ?_) (fun c3 => ?_)
      · refine hp_il (pc' := 31) (j := 1) (Or.inr ⟨1, rfl, rfl, rfl⟩) rfl ?_
        refine hp_bi (pc' := 33) (x := 116) rfl rfl rfl ?_
        refine hp_ine (t := 40) (pc' := 36) rfl rfl rfl (fun c4 => ?_) (fun c4 => ?_)
        · refine hp_il (pc' := 41) (j := 1) (Or.inr ⟨1, rfl, rfl, rfl⟩) rfl ?_
          refine hp_bi (pc' := 43) (x := 115) rfl rfl rfl ?_
          refine hp_ine (t := 50) (pc' := 46) rfl rfl rfl (fun c5 => ?_) (fun c5 => ?_)
          · refine hp_il (pc' := 51) (j := 1) (Or.inr ⟨1, rfl, rfl, rfl⟩) rfl ?_
            refine hp_bi (pc' := 53) (x := 119) rfl rfl rfl ?_
            refine hp_ine (t := 60) (pc' := 56) rfl rfl rfl (fun c6 => ?_) (fun c6 => ?_)
            · refine hp_il (pc' := 61) (j := 1) (Or.inr ⟨1, rfl, rfl, rfl⟩) rfl ?_
              refine hp_bi (pc' := 63) (x := 121) rfl rfl rfl ?_
              refine hp_ine (t := 71) (pc' := 66) rfl rfl rfl (fun c7 => ?_) (fun c7 => ?_)
              · refine hp_ic (pc' := 72) (x := (-1)) rfl rfl rfl ?_
                refine hp_ri rfl rfl ?_
                exact ⟨_, rfl, Or.inr ⟨fun z => by
                  have := pa_fb_i z
                  omega, rfl⟩⟩
              · refine hp_bi (pc' := 68) (x := 6) rfl rfl rfl ?_
                refine hp_go (t := 72) rfl rfl ?_
                refine hp_ri rfl rfl ?_
                exact ⟨_, rfl, Or.inl ⟨pa_fb_t (by omega), by decide⟩⟩
            · refine hp_ic (pc' := 57) (x := 5) rfl rfl rfl ?_
              refine hp_go (t := 72) rfl rfl ?_
              refine hp_ri rfl rfl ?_
              exact ⟨_, rfl, Or.inl ⟨pa_fb_t (by omega), by decide⟩⟩
          · refine hp_ic (pc' := 47) (x := 4) rfl rfl rfl ?_
            refine hp_go (t := 72) rfl rfl ?_
            refine hp_ri rfl rfl ?_
            exact ⟨_, rfl, Or.inl ⟨pa_fb_t (by omega), by decide⟩⟩
        · refine hp_ic (pc' := 37) (x := 3) rfl rfl rfl ?_
          refine hp_go (t := 72) rfl rfl ?_
          refine hp_ri rfl rfl ?_
          exact ⟨_, rfl, Or.inl ⟨pa_fb_t (by omega), by decide⟩⟩
      · refine hp_ic (pc' := 27) (x := 2) rfl rfl rfl ?_
        refine hp_go (t := 72) rfl rfl ?_
        refine hp_ri rfl rfl ?_
        exact ⟨_, rfl, Or.inl ⟨pa_fb_t (by omega), by decide⟩⟩
    · refine hp_ic (pc' := 17) (x := 1) rfl rfl rfl ?_
      refine hp_go (t := 72) rfl rfl ?_
      refine hp_ri rfl rfl ?_
      exact ⟨_, rfl, Or.inl ⟨pa_fb_t (by omega), by decide⟩⟩
  · refine hp_ic (pc' := 7) (x := 0) rfl rfl rfl ?_
    refine hp_go (t := 72) rfl rfl ?_
    refine hp_ri rfl rfl ?_
    exact ⟨_, rfl, Or.inl ⟨pa_fb_t (by omega), by decide⟩⟩
theorem ma_ok (ha : a.1 = rx_cells) (hS : ms_S n p D w M0 M) : hp X d 174 0 [some (.ref 244), some (.int x1)] [] a M (fun o => ∃ M1 : rx_M, o = (none, a, M1) ∧ ms_S n p D w M0 M1 ∧ ∀ j, M1.1 264 j = M.1 264 j) := by
  have zz0 : (0 : Int32).toInt = 0 := rfl
  have zz42 : (42 : Int32).toInt = 42 := rfl
  obtain ⟨hM, s1, s2, s3, s4, s5⟩ := ms_f hS
  obtain ⟨-, -, -, -, -, s6, s7, s8, s9⟩ := id hS
  refine hp_al (pc' := 1) (j := 0) (Or.inr ⟨0, rfl, rfl, rfl⟩) rfl ?_
  refine hp_gr (pc' := 4) ha (hM.2.1 244 25 263 rfl) rfl rfl rfl rfl ?_
  refine hp_al (pc' := 5) (j := 0) (Or.inr ⟨0, rfl, rfl, rfl⟩) rfl ?_
  refine hp_gi (pc' := 8) (j := 21) (t := 0) ha rfl rfl rfl (by decide) rfl ?_
  refine hp_ld (pc' := 9) (j := D) ha s4 (by omega) rfl rfl rfl ?_
  refine hp_zne (t := 25) (pc' := 12) rfl rfl rfl (fun c1 => ?_) (fun c1 => ?_)
  · refine hp_al (pc' := 26) (j := 0) (Or.inr ⟨0, rfl, rfl, rfl⟩) rfl ?_
    refine hp_gr (pc' := 29) ha (hM.2.1 244 25 263 rfl) rfl rfl rfl rfl ?_
    refine hp_al (pc' := 30) (j := 0) (Or.inr ⟨0, rfl, rfl, rfl⟩) rfl ?_
    refine hp_gi (pc' := 33) (j := 21) (t := 0) ha rfl rfl rfl (by decide) rfl ?_
    refine hp_ld (pc' := 34) (j := D) ha s4 (by omega) rfl rfl rfl ?_
    refine hp_bi (pc' := 36) (x := 42) rfl rfl rfl ?_
    refine hp_ine (t := 55) (pc' := 39) rfl rfl rfl (fun c2 => ?_) (fun c2 => ?_)
    · refine hp_al (pc' := 56) (j := 0) (Or.inr ⟨0, rfl, rfl, rfl⟩) rfl ?_
      refine hp_gr (pc' := 59) ha (hM.2.1 244 24 262 rfl) rfl rfl rfl rfl ?_
      refine hp_al (pc' := 60) (j := 0) (Or.inr ⟨0, rfl, rfl, rfl⟩) rfl ?_
      refine hp_gi (pc' := 63) (j := 21) (t := 0) ha rfl rfl rfl (by decide) rfl ?_
      refine hp_il (pc' := 64) (j := 1) (Or.inr ⟨1, rfl, rfl, rfl⟩) rfl ?_
      refine hp_zne (t := 71) (pc' := 67) rfl rfl rfl (fun c3 => ?_) (fun c3 => ?_)
      · refine hp_al (pc' := 72) (j := 0) (Or.inr ⟨0, rfl, rfl, rfl⟩) rfl ?_
        refine hp_gr (pc' := 75) ha (hM.2.1 244 24 262 rfl) rfl rfl rfl rfl ?_
        refine hp_al (pc' := 76) (j := 0) (Or.inr ⟨0, rfl, rfl, rfl⟩) rfl ?_
        refine hp_gi (pc' := 79) (j := 21) (t := 0) ha rfl rfl rfl (by decide) rfl ?_
        refine hp_ld (pc' := 80) (j := D) ha s4 (by omega) rfl rfl rfl ?_
        refine hp_il (pc' := 81) (j := 1) (Or.inr ⟨1, rfl, rfl, rfl⟩) rfl ?_
        have hy : ¬ x1 = 0 := fun w => c3 (by rw [w]; rfl)
        refine hp_s (pc' := 82) (ls' := [some (.ref 244), some (.int x1)]) (st' := [.int ((M.1 262 D) / x1), .int (M.1 244 21), .ref 262]) (a' := a) (M' := M) ((hp_q (ins := .idiv) rfl).trans (by show (if x1 = 0 then none else rx_nx (81 + 1) _ _ _ _) = _; rw [if_neg hy]; rfl)) ?_
        refine hp_st (pc' := 83) (j := D) ha s4 (by omega) rfl rfl rfl (fun M4 eM4 gM4 => ?_)
        have hM4 := ms_w (q := 262) (j := D) (z := ((M.1 262 D) / x1)) hS (by omega) (ax_full_ok _) eM4 gM4
        refine hp_rv rfl rfl ?_
        exact ⟨_, rfl, hM4, fun j => by rw [eM4, hp_up_ne (by omega)]⟩
      · refine hp_ic (pc' := 68) (x := 0) rfl rfl rfl ?_
        refine hp_go (t := 82) rfl rfl ?_
        refine hp_st (pc' := 83) (j := D) ha s4 (by omega) rfl rfl rfl (fun M5 eM5 gM5 => ?_)
        have hM5 := ms_w (q := 262) (j := D) (z := (0 : Int32)) hS (by omega) (ax_full_ok _) eM5 gM5
        refine hp_rv rfl rfl ?_
        exact ⟨_, rfl, hM5, fun j => by rw [eM5, hp_up_ne (by omega)]⟩
    · refine hp_al (pc' := 40) (j := 0) (Or.inr ⟨0, rfl, rfl, rfl⟩) rfl ?_
      refine hp_gr (pc' := 43) ha (hM.2.1 244 24 262 rfl) rfl rfl rfl rfl ?_
      refine hp_al (pc' := 44) (j := 0) (Or.inr ⟨0, rfl, rfl, rfl⟩) rfl ?_
      refine hp_gi (pc' := 47) (j := 21) (t := 0) ha rfl rfl rfl (by decide) rfl ?_
      refine hp_d2 (pc' := 48) rfl rfl ?_
      refine hp_ld (pc' := 49) (j := D) ha s4 (by omega) rfl rfl rfl ?_
      refine hp_il (pc' := 50) (j := 1) (Or.inr ⟨1, rfl, rfl, rfl⟩) rfl ?_
      refine hp_mul (pc' := 51) rfl rfl (fun z6 hz6 => ?_)
      refine hp_st (pc' := 52) (j := D) ha s4 (by omega) rfl rfl rfl (fun M7 eM7 gM7 => ?_)
      have hM7 := ms_w (q := 262) (j := D) (z := z6) hS (by omega) (ax_full_ok _) eM7 gM7
      refine hp_go (t := 83) rfl rfl ?_
      refine hp_rv rfl rfl ?_
      exact ⟨_, rfl, hM7, fun j => by rw [eM7, hp_up_ne (by omega)]⟩
  · refine hp_al (pc' := 13) (j := 0) (Or.inr ⟨0, rfl, rfl, rfl⟩) rfl ?_
    refine hp_gr (pc' := 16) ha (hM.2.1 244 24 262 rfl) rfl rfl rfl rfl ?_
    refine hp_al (pc' := 17) (j := 0) (Or.inr ⟨0, rfl, rfl, rfl⟩) rfl ?_
    refine hp_gi (pc' := 20) (j := 21) (t := 0) ha rfl rfl rfl (by decide) rfl ?_
    refine hp_il (pc' := 21) (j := 1) (Or.inr ⟨1, rfl, rfl, rfl⟩) rfl ?_
    refine hp_st (pc' := 22) (j := D) ha s4 (by omega) rfl rfl rfl (fun M8 eM8 gM8 => ?_)
    have hM8 := ms_w (q := 262) (j := D) (z := x1) hS (by omega) (ax_full_ok _) eM8 gM8
    refine hp_go (t := 83) rfl rfl ?_
    refine hp_rv rfl rfl ?_
    exact ⟨_, rfl, hM8, fun j => by rw [eM8, hp_up_ne (by omega)]⟩
theorem md_ok (ha : a.1 = rx_cells) (hS : ms_S n p D w M0 M) : hp X (d + 1) 177 0 [some (.ref 244)] [] a M (fun o => ∃ r : Int32, o = (some (.int r), a, M) ∧ ((r.toInt = 0 ∨ r.toInt = 1) ∧ (r.toInt ≠ 0 ↔ (p < n ∧ 48 ≤ ms_g M0 p ∧ ms_g M0 p ≤ 57)))) := by
  have zz48 : (48 : Int32).toInt = 48 := rfl
  have zz57 : (57 : Int32).toInt = 57 := rfl
  refine hp_al (pc' := 1) (j := 0) (Or.inr ⟨0, rfl, rfl, rfl⟩) rfl ?_
  refine hp_al (pc' := 2) (j := 0) (Or.inr ⟨0, rfl, rfl, rfl⟩) rfl ?_
  refine hp_cv (Q := fun o => ∃ r : Int32, o = (some (.int r), a, M) ∧ ((p < n ∧ r.toInt = ms_g M0 p) ∨ (¬ p < n ∧ r.toInt = -1))) (pc' := 5) (e := d) (vs := []) (r := [.ref 244]) ha rfl rfl rfl rfl rfl rfl rfl rfl (mn_ok ha hS) (fun o ho => ?_)
  obtain ⟨r1, eo, q1⟩ := ho
  subst eo
  refine ⟨_, rfl, ?_⟩
  show hp X (d + 1) 177 5 [some (.ref 244)] [.int r1, .ref 244] a M _
  refine hp_bi (pc' := 7) (x := 48) rfl rfl rfl ?_
  refine hp_bi (pc' := 9) (x := 57) rfl rfl rfl ?_
  refine hp_cv (Q := fun o => ∃ r : Int32, o = (some (.int r), a, M) ∧ (r.toInt = 0 ∨ r.toInt = 1) ∧ (r.toInt ≠ 0 ↔ (((48 : Int32) : Int32).toInt ≤ (r1 : Int32).toInt ∧ (r1 : Int32).toInt ≤ ((57 : Int32) : Int32).toInt))) (pc' := 12) (e := d) (vs := [.int r1, .int (48 : Int32), .int (57 : Int32)]) (r := []) ha rfl rfl rfl rfl rfl rfl rfl rfl in_ok (fun o ho => ?_)
  obtain ⟨r1, eo, qr1⟩ := ho
  subst eo
  refine ⟨_, rfl, ?_⟩
  show hp X (d + 1) 177 12 [some (.ref 244)] [.int r1] a M _
  refine hp_rb rfl rfl (rb_ok qr1.1) ?_
  exact ⟨_, rfl, qr1.1, by omega⟩
theorem ms_at {z : Int32} {p1 : Nat} {M1 : rx_M} (h : ms_S n p D w M0 M) (e : M1.1 = rx_up M.1 244 20 z) (g : M1.2 = M.2) (hz : z.toInt = (p1 : Int)) (hp : p1 ≤ n) : ms_S n p1 D w M0 M1 := by
  obtain ⟨h1, ⟨h3, h4⟩, h5, h6, h7, h8, h9, h10, h11⟩ := h
  have hq : ax_quiet 244 244 = true := by decide
  refine ⟨⟨fun q k => ?_, hp_Re h1.2.1 g, by rw [e]; exact ax_G_free h1.2.2 hq (by omega) (by omega) (by omega) (by omega)⟩, ⟨g.trans h3, fun q k hq => by rw [e, hp_up_ne (by omega)]; exact h4 q k hq⟩, h5, by rw [e, hp_up_eq]; exact hz, by rw [e, hp_up_ne (by omega)]; exact h7, by rw [e, hp_up_ne (by omega)]; exact h8, hp, h10, h11⟩
  rw [e]
  by_cases hk : q = 244 ∧ k = 20
  · rw [hk.1, hk.2, hp_up_eq]
    exact ⟨by show (0 : Int) ≤ z.toInt; omega, by show z.toInt ≤ (80 : Int); omega⟩
  · rw [hp_up_ne hk]
    exact h1.1 q k
theorem ms_t (h : ms_S n p D w M0 M) : (M.1 244 20).toInt = (p : Int) := h.2.2.2.1
theorem mta_ok (ha : a.1 = rx_cells) (hS : ms_S n p D w M0 M) (hpn : p < n) : hp X (d + 2) 178 0 [some (.ref 244), none, none, none] [] a M (fun o => ∃ (r : Int32) (M1 : rx_M) (p1 : Nat), o = (some (.int r), a, M1) ∧ ms_S n p1 D w M0 M1 ∧ (∀ j, M1.1 264 j = M.1 264 j) ∧ ((r.toInt = 1 ∧ ((pa_fb (ms_g M0 p) = true ∧ p1 = p + 1) ∨ ((48 ≤ ms_g M0 p ∧ ms_g M0 p ≤ 57) ∧ p1 = pa_num (ms_g M0) n p))) ∨ (r.toInt = 0 ∧ p1 = p ∧ ¬ pa_fb (ms_g M0 p) = true ∧ ¬ (48 ≤ ms_g M0 p ∧ ms_g M0 p ≤ 57)))) := by
  have zz0 : (0 : Int32).toInt = 0 := rfl
  have zz1 : (1 : Int32).toInt = 1 := rfl
  have zz3 : (3 : Int32).toInt = 3 := rfl
  have zz10 : (10 : Int32).toInt = 10 := rfl
  have zz48 : (48 : Int32).toInt = 48 := rfl
  obtain ⟨hM, s1, s2, s3, s4, s5⟩ := ms_f hS
  obtain ⟨-, -, -, -, -, s6, s7, s8, s9⟩ := id hS
  refine hp_al (pc' := 1) (j := 0) (Or.inr ⟨0, rfl, rfl, rfl⟩) rfl ?_
  refine hp_al (pc' := 2) (j := 0) (Or.inr ⟨0, rfl, rfl, rfl⟩) rfl ?_
  refine hp_cv (Q := fun o => ∃ r : Int32, o = (some (.int r), a, M) ∧ ((p < n ∧ r.toInt = ms_g M0 p) ∨ (¬ p < n ∧ r.toInt = -1))) (pc' := 5) (e := d + 1) (vs := []) (r := [.ref 244]) ha rfl rfl rfl rfl rfl rfl rfl rfl (mn_ok ha hS) (fun o ho => ?_)
  obtain ⟨r1, eo, qr1⟩ := ho
  subst eo
  refine ⟨_, rfl, ?_⟩
  show hp X (d + 2) 178 5 [some (.ref 244), none, none, none] [.int r1, .ref 244] a M _
  refine hp_cv (Q := fun o => ∃ r : Int32, o = (some (.int r), a, M) ∧ ((pa_fb r1.toInt = true ∧ (0 ≤ r.toInt ∧ r.toInt ≤ 6)) ∨ (¬ pa_fb r1.toInt = true ∧ r.toInt = -1))) (pc' := 8) (e := d + 1) (vs := [.int r1]) (r := []) ha rfl rfl rfl rfl rfl rfl rfl rfl mo_ok2 (fun o ho => ?_)
  obtain ⟨r2, eo, qr2⟩ := ho
  subst eo
  refine ⟨_, rfl, ?_⟩
  rw [show r1.toInt = ms_g M0 p by omega] at qr2
  show hp X (d + 2) 178 8 [some (.ref 244), none, none, none] [.int r2] a M _
  refine hp_is (pc' := 9) (j := 1) (ls' := [some (.ref 244), some (.int r2), none, none]) (Or.inr ⟨1, rfl, rfl, rfl⟩) (by simp) rfl ?_
  refine hp_il (pc' := 10) (j := 1) (Or.inr ⟨1, rfl, rfl, rfl⟩) rfl ?_
  refine hp_zlt (t := 35) (pc' := 13) rfl rfl rfl (fun c3 => ?_) (fun c3 => ?_)
  · refine hp_al (pc' := 36) (j := 0) (Or.inr ⟨0, rfl, rfl, rfl⟩) rfl ?_
    refine hp_cv (Q := fun o => ∃ r : Int32, o = (some (.int r), a, M) ∧ (r.toInt = 0 ∨ r.toInt = 1) ∧ (r.toInt ≠ 0 ↔ (p < n ∧ 48 ≤ ms_g M0 p ∧ ms_g M0 p ≤ 57))) (pc' := 39) (e := d + 1) (vs := []) (r := []) ha rfl rfl rfl rfl rfl rfl rfl rfl (md_ok ha hS) (fun o ho => ?_)
    obtain ⟨r4, eo, qr4⟩ := ho
    subst eo
    refine ⟨_, rfl, ?_⟩
    show hp X (d + 2) 178 39 [some (.ref 244), some (.int r2), none, none] [.int r4] a M _
    refine hp_zne (t := 44) (pc' := 42) rfl rfl rfl (fun c5 => ?_) (fun c5 => ?_)
    · refine hp_al (pc' := 45) (j := 0) (Or.inr ⟨0, rfl, rfl, rfl⟩) rfl ?_
      refine hp_cv (Q := fun o => ∃ r : Int32, o = (some (.int r), a, M) ∧ ((p < n ∧ r.toInt = ms_g M0 p) ∨ (¬ p < n ∧ r.toInt = -1))) (pc' := 48) (e := d + 1) (vs := []) (r := []) ha rfl rfl rfl rfl rfl rfl rfl rfl (mn_ok ha hS) (fun o ho => ?_)
      obtain ⟨r6, eo, qr6⟩ := ho
      subst eo
      refine ⟨_, rfl, ?_⟩
      show hp X (d + 2) 178 48 [some (.ref 244), some (.int r2), none, none] [.int r6] a M _
      refine hp_bi (pc' := 50) (x := 48) rfl rfl rfl ?_
      refine hp_sub (pc' := 51) rfl rfl (fun z7 hz7 => ?_)
      have yz7 : z7.toInt = ms_g M0 p - 48 := by
        rw [hz7, ax_sub (by omega) (by omega), zz48]
        omega
      refine hp_is (pc' := 52) (j := 2) (ls' := [some (.ref 244), some (.int r2), some (.int z7), none]) (Or.inr ⟨2, rfl, rfl, rfl⟩) (by simp) rfl ?_
      refine hp_al (pc' := 53) (j := 0) (Or.inr ⟨0, rfl, rfl, rfl⟩) rfl ?_
      refine hp_dup (pc' := 54) rfl rfl rfl ?_
      refine hp_gi (pc' := 57) (j := 20) (t := 0) ha rfl rfl rfl (by decide) rfl ?_
      refine hp_ic (pc' := 58) (x := 1) rfl rfl rfl ?_
      refine hp_add (pc' := 59) rfl rfl (fun z8 hz8 => ?_)
      have t0 := ms_t hS
      have yz8 : z8.toInt = ((p + 1 : Nat) : Int) := by
        rw [hz8, ax_add (by omega) (by omega), zz1, t0]
        omega
      refine hp_pf (pc' := 62) (j := 20) ha rfl rfl rfl rfl (fun M9 eM9 gM9 => ?_)
      have hM9 := ms_at hS eM9 gM9 yz8 (by omega)
      obtain ⟨hM9_, -⟩ := ms_f hM9
      have cM9 : ∀ j, M9.1 264 j = M.1 264 j := fun j => by rw [eM9, hp_up_ne (by omega)]
      refine hp_ic (pc' := 63) (x := 1) rfl rfl rfl ?_
      refine hp_is (pc' := 64) (j := 3) (ls' := [some (.ref 244), some (.int r2), some (.int z7), some (.int (1 : Int32))]) (Or.inr ⟨3, rfl, rfl, rfl⟩) (by simp) rfl ?_
      refine hp_il (pc' := 65) (j := 3) (Or.inr ⟨3, rfl, rfl, rfl⟩) rfl ?_
      refine hp_ic (pc' := 66) (x := 3) rfl rfl rfl ?_
      refine hp_ige (t := 109) (pc' := 69) rfl rfl rfl (fun c10 => ?_) (fun c10 => ?_)
      · exfalso
        omega
      · refine hp_il (pc' := 70) (j := 2) (Or.inr ⟨2, rfl, rfl, rfl⟩) rfl ?_
        refine hp_zle (t := 109) (pc' := 73) rfl rfl rfl (fun c11 => ?_) (fun c11 => ?_)
        · refine hp_al (pc' := 110) (j := 0) (Or.inr ⟨0, rfl, rfl, rfl⟩) rfl ?_
          refine hp_il (pc' := 111) (j := 2) (Or.inr ⟨2, rfl, rfl, rfl⟩) rfl ?_
          refine hp_cv (Q := fun o => ∃ M1 : rx_M, o = (none, a, M1) ∧ ms_S n (p + 1) D w M0 M1 ∧ ∀ j, M1.1 264 j = M9.1 264 j) (pc' := 114) (e := d + 1) (vs := [.int z7]) (r := []) ha rfl rfl rfl rfl rfl rfl rfl rfl (ma_ok ha hM9) (fun o ho => ?_)
          obtain ⟨N212, eo, hN212, kN212⟩ := ho
          subst eo
          refine ⟨_, rfl, ?_⟩
          show hp X (d + 2) 178 114 [some (.ref 244), some (.int r2), some (.int z7), some (.int (1 : Int32))] [] a N212 _
          refine hp_ic (pc' := 115) (x := 1) rfl rfl rfl ?_
          refine hp_rb rfl rfl (by decide) ?_
          have e : pa_num (ms_g M0) n p = p + 1 := by
            unfold pa_num
            repeat' split
            all_goals omega
          exact ⟨_, _, _, rfl, hN212, fun j => (kN212 j).trans (cM9 j), Or.inl ⟨rfl, Or.inr ⟨⟨by omega, by omega⟩, by rw [e]⟩⟩⟩
        · refine hp_al (pc' := 74) (j := 0) (Or.inr ⟨0, rfl, rfl, rfl⟩) rfl ?_
          refine hp_cv (Q := fun o => ∃ r : Int32, o = (some (.int r), a, M9) ∧ (r.toInt = 0 ∨ r.toInt = 1) ∧ (r.toInt ≠ 0 ↔ ((p + 1) < n ∧ 48 ≤ ms_g M0 (p + 1) ∧ ms_g M0 (p + 1) ≤ 57))) (pc' := 77) (e := d + 1) (vs := []) (r := []) ha rfl rfl rfl rfl rfl rfl rfl rfl (md_ok ha hM9) (fun o ho => ?_)
          obtain ⟨r12, eo, qr12⟩ := ho
          subst eo
          refine ⟨_, rfl, ?_⟩
          show hp X (d + 2) 178 77 [some (.ref 244), some (.int r2), some (.int z7), some (.int (1 : Int32))] [.int r12] a M9 _
          refine hp_zeq (t := 109) (pc' := 80) rfl rfl rfl (fun c13 => ?_) (fun c13 => ?_)
          · refine hp_al (pc' := 110) (j := 0) (Or.inr ⟨0, rfl, rfl, rfl⟩) rfl ?_
            refine hp_il (pc' := 111) (j := 2) (Or.inr ⟨2, rfl, rfl, rfl⟩) rfl ?_
            refine hp_cv (Q := fun o => ∃ M1 : rx_M, o = (none, a, M1) ∧ ms_S n (p + 1) D w M0 M1 ∧ ∀ j, M1.1 264 j = M9.1 264 j) (pc' := 114) (e := d + 1) (vs := [.int z7]) (r := []) ha rfl rfl rfl rfl rfl rfl rfl rfl (ma_ok ha hM9) (fun o ho => ?_)
            obtain ⟨N214, eo, hN214, kN214⟩ := ho
            subst eo
            refine ⟨_, rfl, ?_⟩
            show hp X (d + 2) 178 114 [some (.ref 244), some (.int r2), some (.int z7), some (.int (1 : Int32))] [] a N214 _
            refine hp_ic (pc' := 115) (x := 1) rfl rfl rfl ?_
            refine hp_rb rfl rfl (by decide) ?_
            have e : pa_num (ms_g M0) n p = p + 1 := by
              unfold pa_num
              repeat' split
              all_goals omega
            exact ⟨_, _, _, rfl, hN214, fun j => (kN214 j).trans (cM9 j), Or.inl ⟨rfl, Or.inr ⟨⟨by omega, by omega⟩, by rw [e]⟩⟩⟩
          · refine hp_bi (pc' := 82) (x := 10) rfl rfl rfl ?_
            refine hp_il (pc' := 83) (j := 2) (Or.inr ⟨2, rfl, rfl, rfl⟩) rfl ?_
            refine hp_mul (pc' := 84) rfl rfl (fun z14 hz14 => ?_)
            have yz14 : z14.toInt = 10 * z7.toInt := by
              rw [hz14, ax_mul (by rw [zz10]; omega) (by rw [zz10]; omega), zz10]
            refine hp_al (pc' := 85) (j := 0) (Or.inr ⟨0, rfl, rfl, rfl⟩) rfl ?_
            refine hp_cv (Q := fun o => ∃ r : Int32, o = (some (.int r), a, M9) ∧ (((p + 1) < n ∧ r.toInt = ms_g M0 (p + 1)) ∨ (¬ (p + 1) < n ∧ r.toInt = -1))) (pc' := 88) (e := d + 1) (vs := []) (r := [.int z14]) ha rfl rfl rfl rfl rfl rfl rfl rfl (mn_ok ha hM9) (fun o ho => ?_)
            obtain ⟨r15, eo, qr15⟩ := ho
            subst eo
            refine ⟨_, rfl, ?_⟩
            show hp X (d + 2) 178 88 [some (.ref 244), some (.int r2), some (.int z7), some (.int (1 : Int32))] [.int r15, .int z14] a M9 _
            refine hp_add (pc' := 89) rfl rfl (fun z16 hz16 => ?_)
            have yz16 : z16.toInt = 10 * z7.toInt + r15.toInt := by
              rw [hz16, ax_add (by omega) (by omega)]
              omega
            refine hp_bi (pc' := 91) (x := 48) rfl rfl rfl ?_
            refine hp_sub (pc' := 92) rfl rfl (fun z17 hz17 => ?_)
            have yz17 : z17.toInt = z16.toInt - 48 := by
              rw [hz17, ax_sub (by omega) (by omega), zz48]
            refine hp_is (pc' := 93) (j := 2) (ls' := [some (.ref 244), some (.int r2), some (.int z17), some (.int (1 : Int32))]) (Or.inr ⟨2, rfl, rfl, rfl⟩) (by simp) rfl ?_
            refine hp_al (pc' := 94) (j := 0) (Or.inr ⟨0, rfl, rfl, rfl⟩) rfl ?_
            refine hp_dup (pc' := 95) rfl rfl rfl ?_
            refine hp_gi (pc' := 98) (j := 20) (t := 0) ha rfl rfl rfl (by decide) rfl ?_
            refine hp_ic (pc' := 99) (x := 1) rfl rfl rfl ?_
            refine hp_add (pc' := 100) rfl rfl (fun z18 hz18 => ?_)
            have t0 := ms_t hM9
            have yz18 : z18.toInt = ((p + 2 : Nat) : Int) := by
              rw [hz18, ax_add (by omega) (by omega), zz1, t0]
              omega
            refine hp_pf (pc' := 103) (j := 20) ha rfl rfl rfl rfl (fun M19 eM19 gM19 => ?_)
            have hM19 := ms_at hM9 eM19 gM19 yz18 (by omega)
            obtain ⟨hM19_, -⟩ := ms_f hM19
            have cM19 : ∀ j, M19.1 264 j = M.1 264 j := fun j => by rw [eM19, hp_up_ne (by omega)]; exact cM9 j
            refine hp_in (pc' := 106) (j := 3) (ls' := [some (.ref 244), some (.int r2), some (.int z17), some (.int ((1 : Int32) + Int32.ofInt 1))]) rfl rfl rfl rfl rfl ?_
            refine hp_go (t := 64) rfl rfl ?_
            have k2 : ((1 : Int32) + Int32.ofInt 1).toInt = 2 := rfl
            refine hp_il (pc' := 65) (j := 3) (Or.inr ⟨3, rfl, rfl, rfl⟩) rfl ?_
            refine hp_ic (pc' := 66) (x := 3) rfl rfl rfl ?_
            refine hp_ige (t := 109) (pc' := 69) rfl rfl rfl (fun c20 => ?_) (fun c20 => ?_)
            · exfalso
              omega
            · refine hp_il (pc' := 70) (j := 2) (Or.inr ⟨2, rfl, rfl, rfl⟩) rfl ?_
              refine hp_zle (t := 109) (pc' := 73) rfl rfl rfl (fun c21 => ?_) (fun c21 => ?_)
              · exfalso
                omega
              · refine hp_al (pc' := 74) (j := 0) (Or.inr ⟨0, rfl, rfl, rfl⟩) rfl ?_
                refine hp_cv (Q := fun o => ∃ r : Int32, o = (some (.int r), a, M19) ∧ (r.toInt = 0 ∨ r.toInt = 1) ∧ (r.toInt ≠ 0 ↔ ((p + 2) < n ∧ 48 ≤ ms_g M0 (p + 2) ∧ ms_g M0 (p + 2) ≤ 57))) (pc' := 77) (e := d + 1) (vs := []) (r := []) ha rfl rfl rfl rfl rfl rfl rfl rfl (md_ok ha hM19) (fun o ho => ?_)
                obtain ⟨r22, eo, qr22⟩ := ho
                subst eo
                refine ⟨_, rfl, ?_⟩
                show hp X (d + 2) 178 77 [some (.ref 244), some (.int r2), some (.int z17), some (.int ((1 : Int32) + Int32.ofInt 1))] [.int r22] a M19 _
                refine hp_zeq (t := 109) (pc' := 80) rfl rfl rfl (fun c23 => ?_) (fun c23 => ?_)
                · refine hp_al (pc' := 110) (j := 0) (Or.inr ⟨0, rfl, rfl, rfl⟩) rfl ?_
                  refine hp_il (pc' := 111) (j := 2) (Or.inr ⟨2, rfl, rfl, rfl⟩) rfl ?_
                  refine hp_cv (Q := fun o => ∃ M1 : rx_M, o = (none, a, M1) ∧ ms_S n (p + 2) D w M0 M1 ∧ ∀ j, M1.1 264 j = M19.1 264 j) (pc' := 114) (e := d + 1) (vs := [.int z17]) (r := []) ha rfl rfl rfl rfl rfl rfl rfl rfl (ma_ok ha hM19) (fun o ho => ?_)
                  obtain ⟨N224, eo, hN224, kN224⟩ := ho
                  subst eo
                  refine ⟨_, rfl, ?_⟩
                  show hp X (d + 2) 178 114 [some (.ref 244), some (.int r2), some (.int z17), some (.int ((1 : Int32) + Int32.ofInt 1))] [] a N224 _
                  refine hp_ic (pc' := 115) (x := 1) rfl rfl rfl ?_
                  refine hp_rb rfl rfl (by decide) ?_
                  have e : pa_num (ms_g M0) n p = p + 2 := by
                    unfold pa_num
                    repeat' split
                    all_goals omega
                  exact ⟨_, _, _, rfl, hN224, fun j => (kN224 j).trans (cM19 j), Or.inl ⟨rfl, Or.inr ⟨⟨by omega, by omega⟩, by rw [e]⟩⟩⟩
                · refine hp_bi (pc' := 82) (x := 10) rfl rfl rfl ?_
                  refine hp_il (pc' := 83) (j := 2) (Or.inr ⟨2, rfl, rfl, rfl⟩) rfl ?_
                  refine hp_mul (pc' := 84) rfl rfl (fun z24 hz24 => ?_)
                  have yz24 : z24.toInt = 10 * z17.toInt := by
                    rw [hz24, ax_mul (by rw [zz10]; omega) (by rw [zz10]; omega), zz10]
                  refine hp_al (pc' := 85) (j := 0) (Or.inr ⟨0, rfl, rfl, rfl⟩) rfl ?_
                  refine hp_cv (Q := fun o => ∃ r : Int32, o = (some (.int r), a, M19) ∧ (((p + 2) < n ∧ r.toInt = ms_g M0 (p + 2)) ∨ (¬ (p + 2) < n ∧ r.toInt = -1))) (pc' := 88) (e := d + 1) (vs := []) (r := [.int z24]) ha rfl rfl rfl rfl rfl rfl rfl rfl (mn_ok ha hM19) (fun o ho => ?_)
                  obtain ⟨r25, eo, qr25⟩ := ho
                  subst eo
                  refine ⟨_, rfl, ?_⟩
                  show hp X (d + 2) 178 88 [some (.ref 244), some (.int r2), some (.int z17), some (.int ((1 : Int32) + Int32.ofInt 1))] [.int r25, .int z24] a M19 _
                  refine hp_add (pc' := 89) rfl rfl (fun z26 hz26 => ?_)
                  have yz26 : z26.toInt = 10 * z17.toInt + r25.toInt := by
                    rw [hz26, ax_add (by omega) (by omega)]
                    omega
                  refine hp_bi (pc' := 91) (x := 48) rfl rfl rfl ?_
                  refine hp_sub (pc' := 92) rfl rfl (fun z27 hz27 => ?_)
                  have yz27 : z27.toInt = z26.toInt - 48 := by
                    rw [hz27, ax_sub (by omega) (by omega), zz48]
                  refine hp_is (pc' := 93) (j := 2) (ls' := [some (.ref 244), some (.int r2), some (.int z27), some (.int ((1 : Int32) + Int32.ofInt 1))]) (Or.inr ⟨2, rfl, rfl, rfl⟩) (by simp) rfl ?_
                  refine hp_al (pc' := 94) (j := 0) (Or.inr ⟨0, rfl, rfl, rfl⟩) rfl ?_
                  refine hp_dup (pc' := 95) rfl rfl rfl ?_
                  refine hp_gi (pc' := 98) (j := 20) (t := 0) ha rfl rfl rfl (by decide) rfl ?_
                  refine hp_ic (pc' := 99) (x := 1) rfl rfl rfl ?_
                  refine hp_add (pc' := 100) rfl rfl (fun z28 hz28 => ?_)
                  have t0 := ms_t hM19
                  have yz28 : z28.toInt = ((p + 3 : Nat) : Int) := by
                    rw [hz28, ax_add (by omega) (by omega), zz1, t0]
                    omega
                  refine hp_pf (pc' := 103) (j := 20) ha rfl rfl rfl rfl (fun M29 eM29 gM29 => ?_)
                  have hM29 := ms_at hM19 eM29 gM29 yz28 (by omega)
                  obtain ⟨hM29_, -⟩ := ms_f hM29
                  have cM29 : ∀ j, M29.1 264 j = M.1 264 j := fun j => by rw [eM29, hp_up_ne (by omega)]; exact cM19 j
                  refine hp_in (pc' := 106) (j := 3) (ls' := [some (.ref 244), some (.int r2), some (.int z27), some (.int (((1 : Int32) + Int32.ofInt 1) + Int32.ofInt 1))]) rfl rfl rfl rfl rfl ?_
                  refine hp_go (t := 64) rfl rfl ?_
                  have k3 : (((1 : Int32) + Int32.ofInt 1) + Int32.ofInt 1).toInt = 3 := rfl
                  refine hp_il (pc' := 65) (j := 3) (Or.inr ⟨3, rfl, rfl, rfl⟩) rfl ?_
                  refine hp_ic (pc' := 66) (x := 3) rfl rfl rfl ?_
                  refine hp_ige (t := 109) (pc' := 69) rfl rfl rfl (fun c30 => ?_) (fun c30 => ?_)
                  · refine hp_al (pc' := 110) (j := 0) (Or.inr ⟨0, rfl, rfl, rfl⟩) rfl ?_
                    refine hp_il (pc' := 111) (j := 2) (Or.inr ⟨2, rfl, rfl, rfl⟩) rfl ?_
                    refine hp_cv (Q := fun o => ∃ M1 : rx_M, o = (none, a, M1) ∧ ms_S n (p + 3) D w M0 M1 ∧ ∀ j, M1.1 264 j = M29.1 264 j) (pc' := 114) (e := d + 1) (vs := [.int z27]) (r := []) ha rfl rfl rfl rfl rfl rfl rfl rfl (ma_ok ha hM29) (fun o ho => ?_)
                    obtain ⟨N231, eo, hN231, kN231⟩ := ho
                    subst eo
                    refine ⟨_, rfl, ?_⟩
                    show hp X (d + 2) 178 114 [some (.ref 244), some (.int r2), some (.int z27), some (.int (((1 : Int32) + Int32.ofInt 1) + Int32.ofInt 1))] [] a N231 _
                    refine hp_ic (pc' := 115) (x := 1) rfl rfl rfl ?_
                    refine hp_rb rfl rfl (by decide) ?_
                    have e : pa_num (ms_g M0) n p = p + 3 := by
                      unfold pa_num
                      repeat' split
                      all_goals omega
                    exact ⟨_, _, _, rfl, hN231, fun j => (kN231 j).trans (cM29 j), Or.inl ⟨rfl, Or.inr ⟨⟨by omega, by omega⟩, by rw [e]⟩⟩⟩
                  · refine hp_il (pc' := 70) (j := 2) (Or.inr ⟨2, rfl, rfl, rfl⟩) rfl ?_
                    refine hp_zle (t := 109) (pc' := 73) rfl rfl rfl (fun c31 => ?_) (fun c31 => ?_)
                    · refine hp_al (pc' := 110) (j := 0) (Or.inr ⟨0, rfl, rfl, rfl⟩) rfl ?_
                      refine hp_il (pc' := 111) (j := 2) (Or.inr ⟨2, rfl, rfl, rfl⟩) rfl ?_
                      refine hp_cv (Q := fun o => ∃ M1 : rx_M, o = (none, a, M1) ∧ ms_S n (p + 3) D w M0 M1 ∧ ∀ j, M1.1 264 j = M29.1 264 j) (pc' := 114) (e := d + 1) (vs := [.int z27]) (r := []) ha rfl rfl rfl rfl rfl rfl rfl rfl (ma_ok ha hM29) (fun o ho => ?_)
                      obtain ⟨N232, eo, hN232, kN232⟩ := ho
                      subst eo
                      refine ⟨_, rfl, ?_⟩
                      show hp X (d + 2) 178 114 [some (.ref 244), some (.int r2), some (.int z27), some (.int (((1 : Int32) + Int32.ofInt 1) + Int32.ofInt 1))] [] a N232 _
                      refine hp_ic (pc' := 115) (x := 1) rfl rfl rfl ?_
                      refine hp_rb rfl rfl (by decide) ?_
                      have e : pa_num (ms_g M0) n p = p + 3 := by
                        unfold pa_num
                        repeat' split
                        all_goals omega
                      exact ⟨_, _, _, rfl, hN232, fun j => (kN232 j).trans (cM29 j), Or.inl ⟨rfl, Or.inr ⟨⟨by omega, by omega⟩, by rw [e]⟩⟩⟩
                    · exfalso
                      omega
    · refine hp_ic (pc' := 43) (x := 0) rfl rfl rfl ?_
      refine hp_rb rfl rfl (by decide) ?_
      exact ⟨_, M, p, rfl, hS, fun _ => rfl, Or.inr ⟨rfl, rfl, fun z => by
        rcases qr2 with v | v
        · omega
        · exact v.1 z, fun z => by omega⟩⟩
  · refine hp_al (pc' := 14) (j := 0) (Or.inr ⟨0, rfl, rfl, rfl⟩) rfl ?_
    refine hp_dup (pc' := 15) rfl rfl rfl ?_
    refine hp_gi (pc' := 18) (j := 20) (t := 0) ha rfl rfl rfl (by decide) rfl ?_
    refine hp_ic (pc' := 19) (x := 1) rfl rfl rfl ?_
    refine hp_add (pc' := 20) rfl rfl (fun z10 hz10 => ?_)
    have t0 := ms_t hS
    have yz10 : z10.toInt = ((p + 1 : Nat) : Int) := by
      rw [hz10, ax_add (by omega) (by omega), zz1, t0]
      omega
    refine hp_pf (pc' := 23) (j := 20) ha rfl rfl rfl rfl (fun M11 eM11 gM11 => ?_)
    have hM11 := ms_at hS eM11 gM11 yz10 (by omega)
    obtain ⟨hM11_, -⟩ := ms_f hM11
    have cM11 : ∀ j, M11.1 264 j = M.1 264 j := fun j => by rw [eM11, hp_up_ne (by omega)]
    refine hp_al (pc' := 24) (j := 0) (Or.inr ⟨0, rfl, rfl, rfl⟩) rfl ?_
    refine hp_al (pc' := 25) (j := 0) (Or.inr ⟨0, rfl, rfl, rfl⟩) rfl ?_
    refine hp_gr (pc' := 28) ha (hM11_.2.1 244 18 259 rfl) rfl rfl rfl rfl ?_
    obtain ⟨f, hf, hf7⟩ : ∃ f : Nat, r2.toInt = (f : Int) ∧ f < 7 := ⟨r2.toInt.toNat, by omega, by omega⟩
    refine hp_il (pc' := 29) (j := 1) (Or.inr ⟨1, rfl, rfl, rfl⟩) rfl ?_
    refine hp_ld (pc' := 30) (j := f) ha hf (by omega) rfl rfl rfl ?_
    refine hp_cv (Q := fun o => ∃ M1 : rx_M, o = (none, a, M1) ∧ ms_S n (p + 1) D w M0 M1 ∧ ∀ j, M1.1 264 j = M11.1 264 j) (pc' := 33) (e := d + 1) (vs := [.int (M11.1 259 f)]) (r := []) ha rfl rfl rfl rfl rfl rfl rfl rfl (ma_ok ha hM11) (fun o ho => ?_)
    obtain ⟨N12, eo, hN12, kN12⟩ := ho
    subst eo
    refine ⟨_, rfl, ?_⟩
    show hp X (d + 2) 178 33 [some (.ref 244), some (.int r2), none, none] [] a N12 _
    refine hp_ic (pc' := 34) (x := 1) rfl rfl rfl ?_
    refine hp_rb rfl rfl (by decide) ?_
    exact ⟨_, _, _, rfl, hN12, fun j => (kN12 j).trans (cM11 j), Or.inl ⟨rfl, Or.inl ⟨(qr2.resolve_right (fun z => by omega)).1, rfl⟩⟩⟩
end MS
