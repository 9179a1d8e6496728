/-! fault of the reference, by hand: the whole of it -/
section GS
variable {X : Nat × (Nat → Int32)} {d n p D : Nat} {w : Bool} {a : rx_K} {M0 M : rx_M} {P : rx_O → Prop} {x1 x2 x3 : Int32}
noncomputable def gs_Q (n p : Nat) (s : List Nat) (w : Bool) (M0 : rx_M) (a : rx_K) (o : rx_O) : Prop := ∃ (z : Int32) (M1 : rx_M) (p1 D1 : Nat) (w1 : Bool), o = (some (.int z), a, M1) ∧ ms_S n p1 D1 w1 M0 M1 ∧ ((z.toInt = 0 ∧ pa_R (ms_g M0) n p s w (p1 : Int)) ∨ (z.toInt = 1 ∧ pa_R (ms_g M0) n p s w (-4)))
theorem gs_go {s s1 : List Nat} {w1 : Bool} {p1 : Nat} {o : rx_O} (hp : p < n) (e : pa_st (ms_g M0) n p s w = some (p1, s1, w1)) (h : gs_Q n p1 s1 w1 M0 a o) : gs_Q n p s w M0 a o := by
  obtain ⟨z, M1, p2, D1, w2, eo, hS, h⟩ := h
  refine ⟨z, M1, p2, D1, w2, eo, hS, ?_⟩
  rcases h with ⟨h1, h2⟩ | ⟨h1, h2⟩
  · exact Or.inl ⟨h1, pa_go hp e h2⟩
  · exact Or.inr ⟨h1, pa_go hp e h2⟩
theorem hp_imp {i pc : Nat} {ls : List (Option Value)} {st : List Value} {Q : rx_O → Prop} (h : hp X d i pc ls st a M Q) (k : ∀ o, Q o → P o) : hp X d i pc ls st a M P := by
  obtain ⟨f, o, h1, h2⟩ := h
  exact ⟨f, o, h1, k o h2⟩
theorem gl_ok (ha : a.1 = rx_cells) : ∀ (N p : Nat) (s : List Nat) (w : Bool) (M : rx_M) (o2 : Option Value), n - p < N → ms_S n p s.length w M0 M → ms_k M s → hp X (d + 3) 180 24 [some (.ref 244), some (.int x1), o2] [] a M (gs_Q n p s w M0 a) := by
  intro N
  induction N with
  | zero =>
    intro p s w M o2 hN
    exact absurd hN (Nat.not_lt_zero _)
  | succ N ih =>
    intro p s w M o2 hN hS hk
    have zz0 : (0 : Int32).toInt = 0 := rfl
    have zz1 : (1 : Int32).toInt = 1 := rfl
    have zz8 : (8 : Int32).toInt = 8 := rfl
    have zz40 : (40 : Int32).toInt = 40 := rfl
    have zz91 : (91 : Int32).toInt = 91 := rfl
    have zm1 : ((-1) : Int32).toInt = -1 := rfl
    obtain ⟨hM, s1, s2, s3, s4, s5⟩ := ms_f hS
    obtain ⟨-, -, -, -, -, s6, s7, s8, s9⟩ := id hS
    have hw : (w = true ∧ (M.1 244 30).toInt = 1) ∨ (w = false ∧ (M.1 244 30).toInt = 0) := by
      cases w with
      | true => exact Or.inl ⟨rfl, s6⟩
      | false => exact Or.inr ⟨rfl, s6⟩
    refine hp_al (pc' := 25) (j := 0) (Or.inr ⟨0, rfl, rfl, rfl⟩) rfl ?_
    refine hp_gi (pc' := 28) (j := 20) (t := 0) ha rfl rfl rfl (by decide) rfl ?_
    refine hp_al (pc' := 29) (j := 0) (Or.inr ⟨0, rfl, rfl, rfl⟩) rfl ?_
    refine hp_gr (pc' := 32) ha (hM.2.1 244 17 258 rfl) rfl rfl rfl rfl ?_
    refine hp_al (pc' := 33) (j := 0) (Or.inr ⟨0, rfl, rfl, rfl⟩) rfl ?_
    refine hp_gi (pc' := 36) (j := 19) (t := 0) ha rfl rfl rfl (by decide) rfl ?_
    refine hp_ld (pc' := 37) (j := 150) ha s1 (by omega) rfl rfl rfl ?_
    refine hp_ige (t := 148) (pc' := 40) rfl rfl rfl (fun c1 => ?_) (fun c1 => ?_)
    · refine hp_al (pc' := 149) (j := 0) (Or.inr ⟨0, rfl, rfl, rfl⟩) rfl ?_
      refine hp_gi (pc' := 152) (j := 30) (t := 1) ha rfl rfl rfl (by decide) rfl ?_
      refine hp_zne (t := 166) (pc' := 155) rfl rfl rfl (fun c2 => ?_) (fun c2 => ?_)
      · refine hp_ic (pc' := 167) (x := 0) rfl rfl rfl ?_
        refine hp_rb rfl rfl (by decide) ?_
        exact ⟨_, M, p, _, _, rfl, hS, Or.inl ⟨rfl, pa_end (by omega) (fun v => by
            have l : s.length = 0 := by
              rw [v.1]
              rfl
            rcases hw with ⟨h1, h2⟩ | ⟨h1, h2⟩
            · rw [v.2] at h1
              cases h1
            · omega)⟩⟩
      · refine hp_al (pc' := 156) (j := 0) (Or.inr ⟨0, rfl, rfl, rfl⟩) rfl ?_
        refine hp_gi (pc' := 159) (j := 21) (t := 0) ha rfl rfl rfl (by decide) rfl ?_
        refine hp_zne (t := 166) (pc' := 162) rfl rfl rfl (fun c3 => ?_) (fun c3 => ?_)
        · refine hp_ic (pc' := 167) (x := 0) rfl rfl rfl ?_
          refine hp_rb rfl rfl (by decide) ?_
          exact ⟨_, M, p, _, _, rfl, hS, Or.inl ⟨rfl, pa_end (by omega) (fun v => by
              have l : s.length = 0 := by
                rw [v.1]
                rfl
              rcases hw with ⟨h1, h2⟩ | ⟨h1, h2⟩
              · rw [v.2] at h1
                cases h1
              · omega)⟩⟩
        · refine hp_ic (pc' := 163) (x := 1) rfl rfl rfl ?_
          refine hp_go (t := 167) rfl rfl ?_
          refine hp_rb rfl rfl (by decide) ?_
          have hw0 : w = false := by
            rcases hw with ⟨h1, h2⟩ | ⟨h1, h2⟩
            · exfalso
              omega
            · exact h1
          have hs0 : s = [] := List.eq_nil_of_length_eq_zero (by omega)
          exact ⟨_, M, p, _, _, rfl, hS, Or.inr ⟨rfl, by
            rw [hs0, hw0]
            exact pa_ok (by omega)⟩⟩
    · refine hp_al (pc' := 41) (j := 0) (Or.inr ⟨0, rfl, rfl, rfl⟩) rfl ?_
      refine hp_gi (pc' := 44) (j := 30) (t := 1) ha rfl rfl rfl (by decide) rfl ?_
      refine hp_zne (t := 56) (pc' := 47) rfl rfl rfl (fun c2 => ?_) (fun c2 => ?_)
      · have hpn : p < n := by omega
        have hw0 : w = true := by
          rcases hw with ⟨h1, h2⟩ | ⟨h1, h2⟩
          · exact h1
          · exfalso
            omega
        subst hw0
        refine hp_al (pc' := 57) (j := 0) (Or.inr ⟨0, rfl, rfl, rfl⟩) rfl ?_
        refine hp_cv (Q := fun o => ∃ r : Int32, o = (some (.int r), a, M) ∧ ((p < n ∧ r.toInt = ms_g M0 p) ∨ (¬ p < n ∧ r.toInt = -1))) (pc' := 60) (e := d + 2) (vs := []) (r := []) ha rfl rfl rfl rfl rfl rfl rfl rfl (mn_ok ha hS) (fun o ho => ?_)
        obtain ⟨r1, eo, q1⟩ := ho
        subst eo
        refine ⟨_, rfl, ?_⟩
        have q1 : r1.toInt = ms_g M0 p := by omega
        show hp X (d + 3) 180 60 [some (.ref 244), some (.int x1), o2] [.int r1] a M _
        refine hp_is (pc' := 61) (j := 2) (ls' := [some (.ref 244), some (.int x1), some (.int r1)]) (Or.inr ⟨2, rfl, rfl, rfl⟩) (by simp) rfl ?_
        refine hp_il (pc' := 62) (j := 2) (Or.inr ⟨2, rfl, rfl, rfl⟩) rfl ?_
        refine hp_bi (pc' := 64) (x := 40) rfl rfl rfl ?_
        refine hp_ieq (t := 73) (pc' := 67) rfl rfl rfl (fun c3 => ?_) (fun c3 => ?_)
        · have hop : ms_g M0 p = 40 ∨ ms_g M0 p = 91 := by omega
          refine hp_al (pc' := 74) (j := 0) (Or.inr ⟨0, rfl, rfl, rfl⟩) rfl ?_
          refine hp_gi (pc' := 77) (j := 21) (t := 0) ha rfl rfl rfl (by decide) rfl ?_
          refine hp_bi (pc' := 79) (x := 8) rfl rfl rfl ?_
          refine hp_ine (t := 84) (pc' := 82) rfl rfl rfl (fun c4 => ?_) (fun c4 => ?_)
          · refine hp_al (pc' := 85) (j := 0) (Or.inr ⟨0, rfl, rfl, rfl⟩) rfl ?_
            refine hp_dup (pc' := 86) rfl rfl rfl ?_
            refine hp_gi (pc' := 89) (j := 21) (t := 0) ha rfl rfl rfl (by decide) rfl ?_
            refine hp_ic (pc' := 90) (x := 1) rfl rfl rfl ?_
            refine hp_add (pc' := 91) rfl rfl (fun z5 hz5 => ?_)
            have yz5 : z5.toInt = ((s.length + 1 : Nat) : Int) := by
              rw [hz5, ax_add (by omega) (by omega), zz1, s4]
              omega
            refine hp_pf (pc' := 94) (j := 21) ha rfl rfl rfl rfl (fun M6 eM6 gM6 => ?_)
            have hM6 := ms_dp (z := z5) (s.length + 1) hS eM6 gM6 yz5 (by omega)
            obtain ⟨hM6_, -, -, t3M6, tM6, -⟩ := ms_f hM6
            refine hp_al (pc' := 95) (j := 0) (Or.inr ⟨0, rfl, rfl, rfl⟩) rfl ?_
            refine hp_gr (pc' := 98) ha (hM6_.2.1 244 26 264 rfl) rfl rfl rfl rfl ?_
            refine hp_al (pc' := 99) (j := 0) (Or.inr ⟨0, rfl, rfl, rfl⟩) rfl ?_
            refine hp_gi (pc' := 102) (j := 21) (t := 0) ha rfl rfl rfl (by decide) rfl ?_
            refine hp_il (pc' := 103) (j := 2) (Or.inr ⟨2, rfl, rfl, rfl⟩) rfl ?_
            refine hp_bi (pc' := 105) (x := 40) rfl rfl rfl ?_
            refine hp_ine (t := 112) (pc' := 108) rfl rfl rfl (fun c7 => ?_) (fun c7 => ?_)
            · refine hp_ic (pc' := 113) (x := 0) rfl rfl rfl ?_
              refine hp_st (pc' := 114) (j := (s.length + 1)) ha tM6 (by omega) rfl rfl rfl (fun M8 eM8 gM8 => ?_)
              have hM8 := ms_w (q := 264) (j := (s.length + 1)) (z := (0 : Int32)) hM6 (by omega) (show (-1 : Int) ≤ ((0 : Int32) : Int32).toInt ∧ ((0 : Int32) : Int32).toInt ≤ 3 by first | decide | omega) eM8 gM8
              obtain ⟨hM8_, -, -, t3M8, tM8, -⟩ := ms_f hM8
              refine hp_al (pc' := 115) (j := 0) (Or.inr ⟨0, rfl, rfl, rfl⟩) rfl ?_
              refine hp_cv (Q := fun o => ∃ M1 : rx_M, o = (none, a, M1) ∧ ms_S n p (s.length + 1) true M0 M1 ∧ ∀ j, M1.1 264 j = M8.1 264 j) (pc' := 118) (e := d + 2) (vs := []) (r := []) ha rfl rfl rfl rfl rfl rfl rfl rfl (mb_ok ha hM8) (fun o ho => ?_)
              obtain ⟨N9, eo, hN9, kN9⟩ := ho
              subst eo
              refine ⟨_, rfl, ?_⟩
              obtain ⟨hN9_, -, -, t3N9, tN9, -⟩ := ms_f hN9
              show hp X (d + 3) 180 118 [some (.ref 244), some (.int x1), some (.int r1)] [] a N9 _
              refine hp_al (pc' := 119) (j := 0) (Or.inr ⟨0, rfl, rfl, rfl⟩) rfl ?_
              refine hp_dup (pc' := 120) rfl rfl rfl ?_
              refine hp_gi (pc' := 123) (j := 20) (t := 0) ha rfl rfl rfl (by decide) rfl ?_
              refine hp_ic (pc' := 124) (x := 1) rfl rfl rfl ?_
              refine hp_add (pc' := 125) rfl rfl (fun z10 hz10 => ?_)
              have yz10 : z10.toInt = ((p + 1 : Nat) : Int) := by
                rw [hz10, ax_add (by omega) (by omega), zz1, t3N9]
                omega
              refine hp_pf (pc' := 128) (j := 20) ha rfl rfl rfl rfl (fun M11 eM11 gM11 => ?_)
              have hM11 := ms_at hN9 eM11 gM11 yz10 (by omega)
              obtain ⟨hM11_, -, -, t3M11, tM11, -⟩ := ms_f hM11
              refine hp_go (t := 24) rfl rfl ?_
              have ek : (if ms_g M0 p = 40 then 4 else 0) = 0 := if_neg (by omega)
              have e := pa_wo (g := ms_g M0) (n := n) (p := p) (s := s) (by omega) (by omega)
              rw [ek] at e
              have kM : ∀ j, j ≤ s.length → M11.1 264 j = M.1 264 j := fun j hj => by rw [eM11, hp_up_ne (by omega), kN9, eM8, hp_up_ne (by omega), eM6, hp_up_ne (by omega)]
              have kT : (M11.1 264 (s.length + 1)).toInt = ms_c 0 := by
                rw [eM11, hp_up_ne (by omega), kN9, eM8, hp_up_eq]
                rfl
              exact hp_imp (ih (p + 1) (0 :: s) true M11 _ (by omega) hM11 ⟨⟨by omega, kT⟩, ms_ke s kM hk⟩) (fun o => gs_go hpn e)
            · refine hp_ic (pc' := 109) (x := (-1)) rfl rfl rfl ?_
              refine hp_go (t := 113) rfl rfl ?_
              refine hp_st (pc' := 114) (j := (s.length + 1)) ha tM6 (by omega) rfl rfl rfl (fun M12 eM12 gM12 => ?_)
              have hM12 := ms_w (q := 264) (j := (s.length + 1)) (z := (-1 : Int32)) hM6 (by omega) (show (-1 : Int) ≤ ((-1 : Int32) : Int32).toInt ∧ ((-1 : Int32) : Int32).toInt ≤ 3 by first | decide | omega) eM12 gM12
              obtain ⟨hM12_, -, -, t3M12, tM12, -⟩ := ms_f hM12
              refine hp_al (pc' := 115) (j := 0) (Or.inr ⟨0, rfl, rfl, rfl⟩) rfl ?_
              refine hp_cv (Q := fun o => ∃ M1 : rx_M, o = (none, a, M1) ∧ ms_S n p (s.length + 1) true M0 M1 ∧ ∀ j, M1.1 264 j = M12.1 264 j) (pc' := 118) (e := d + 2) (vs := []) (r := []) ha rfl rfl rfl rfl rfl rfl rfl rfl (mb_ok ha hM12) (fun o ho => ?_)
              obtain ⟨N13, eo, hN13, kN13⟩ := ho
              subst eo
              refine ⟨_, rfl, ?_⟩
              obtain ⟨hN13_, -, -, t3N13, tN13, -⟩ := ms_f hN13
              show hp X (d + 3) 180 118 [some (.ref 244), some (.int x1), some (.int r1)] [] a N13 _
              refine hp_al (pc' := 119) (j := 0) (Or.inr ⟨0, rfl, rfl, rfl⟩) rfl ?_
              refine hp_dup (pc' := 120) rfl rfl rfl ?_
              refine hp_gi (pc' := 123) (j := 20) (t := 0) ha rfl rfl rfl (by decide) rfl ?_
              refine hp_ic (pc' := 124) (x := 1) rfl rfl rfl ?_
              refine hp_add (pc' := 125) rfl rfl (fun z14 hz14 => ?_)
              have yz14 : z14.toInt = ((p + 1 : Nat) : Int) := by
                rw [hz14, ax_add (by omega) (by omega), zz1, t3N13]
                omega
              refine hp_pf (pc' := 128) (j := 20) ha rfl rfl rfl rfl (fun M15 eM15 gM15 => ?_)
              have hM15 := ms_at hN13 eM15 gM15 yz14 (by omega)
              obtain ⟨hM15_, -, -, t3M15, tM15, -⟩ := ms_f hM15
              refine hp_go (t := 24) rfl rfl ?_
              have ek : (if ms_g M0 p = 40 then 4 else 0) = 4 := if_pos (by omega)
              have e := pa_wo (g := ms_g M0) (n := n) (p := p) (s := s) (by omega) (by omega)
              rw [ek] at e
              have kM : ∀ j, j ≤ s.length → M15.1 264 j = M.1 264 j := fun j hj => by rw [eM15, hp_up_ne (by omega), kN13, eM12, hp_up_ne (by omega), eM6, hp_up_ne (by omega)]
              have kT : (M15.1 264 (s.length + 1)).toInt = ms_c 4 := by
                rw [eM15, hp_up_ne (by omega), kN13, eM12, hp_up_eq]
                rfl
              exact hp_imp (ih (p + 1) (4 :: s) true M15 _ (by omega) hM15 ⟨⟨by omega, kT⟩, ms_ke s kM hk⟩) (fun o => gs_go hpn e)
          · refine hp_ic (pc' := 83) (x := 0) rfl rfl rfl ?_
            refine hp_rb rfl rfl (by decide) ?_
            exact ⟨_, M, p, _, _, rfl, hS, Or.inl ⟨rfl, pa_none hpn (pa_wd (by omega) (by omega))⟩⟩
        · refine hp_il (pc' := 68) (j := 2) (Or.inr ⟨2, rfl, rfl, rfl⟩) rfl ?_
          refine hp_bi (pc' := 70) (x := 91) rfl rfl rfl ?_
          refine hp_ine (t := 131) (pc' := 73) rfl rfl rfl (fun c4 => ?_) (fun c4 => ?_)
          · have hno : ¬ (ms_g M0 p = 40 ∨ ms_g M0 p = 91) := by omega
            refine hp_al (pc' := 132) (j := 0) (Or.inr ⟨0, rfl, rfl, rfl⟩) rfl ?_
            refine hp_cv (Q := (fun o => ∃ (r : Int32) (M1 : rx_M) (p1 : Nat), o = (some (.int r), a, M1) ∧ ms_S n p1 s.length true M0 M1 ∧ (∀ j, M1.1 264 j = M.1 264 j) ∧ ((r.toInt = 1 ∧ ((pa_fb (ms_g M0 p) = true ∧ p1 = p + 1) ∨ ((48 ≤ ms_g M0 p ∧ ms_g M0 p ≤ 57) ∧ p1 = pa_num (ms_g M0) n p))) ∨ (r.toInt = 0 ∧ p1 = p ∧ ¬ pa_fb (ms_g M0 p) = true ∧ ¬ (48 ≤ ms_g M0 p ∧ ms_g M0 p ≤ 57))))) (pc' := 135) (e := d + 2) (vs := []) (r := []) ha rfl rfl rfl rfl rfl rfl rfl rfl (mta_ok ha hS hpn) (fun o ho => ?_)
            obtain ⟨r2, M2, p1, eo, hM2, kM2, ho⟩ := ho
            subst eo
            refine ⟨_, rfl, ?_⟩
            obtain ⟨hM2_, -, -, t3M2, tM2, -⟩ := ms_f hM2
            show hp X (d + 3) 180 135 [some (.ref 244), some (.int x1), some (.int r1)] [.int r2] a M2 _
            refine hp_zne (t := 140) (pc' := 138) rfl rfl rfl (fun c5 => ?_) (fun c5 => ?_)
            · refine hp_al (pc' := 141) (j := 0) (Or.inr ⟨0, rfl, rfl, rfl⟩) rfl ?_
              refine hp_ic (pc' := 142) (x := 0) rfl rfl rfl ?_
              refine hp_pfb (pc' := 145) (j := 30) ha (by decide) rfl rfl rfl rfl (fun M6 eM6 gM6 => ?_)
              have hM6 := ms_wn (z := (0 : Int32)) false hM2 eM6 gM6 rfl
              obtain ⟨hM6_, -, -, t3M6, tM6, -⟩ := ms_f hM6
              refine hp_go (t := 24) rfl rfl ?_
              have ho := (ho.resolve_right (fun v => by omega)).2
              have kM : ms_k M6 s := ms_ke s (fun j _ => by rw [eM6, hp_up_ne (by omega), kM2]) hk
              rcases ho with ⟨h1, h2⟩ | ⟨h1, h2⟩
              · rw [h2] at hM6
                exact hp_imp (ih (p + 1) s false M6 _ (by omega) hM6 kM) (fun o => gs_go hpn (pa_wf (by omega) h1))
              · have pl := pa_num_le (g := ms_g M0) hpn
                rw [← h2] at pl
                refine hp_imp (ih p1 s false M6 _ (by omega) hM6 kM) (fun o => gs_go hpn ?_)
                rw [h2]
                exact pa_wg h1
            · refine hp_ic (pc' := 139) (x := 0) rfl rfl rfl ?_
              refine hp_rb rfl rfl (by decide) ?_
              have ho := ho.resolve_left (fun v => by omega)
              obtain ⟨h1, h2, h3, h4⟩ := ho
              exact ⟨_, M2, p1, _, _, rfl, hM2, Or.inl ⟨rfl, by
                rw [h2]
                exact pa_none hpn (pa_wn (by omega) h3 h4)⟩⟩
          · have hop : ms_g M0 p = 40 ∨ ms_g M0 p = 91 := by omega
            refine hp_al (pc' := 74) (j := 0) (Or.inr ⟨0, rfl, rfl, rfl⟩) rfl ?_
            refine hp_gi (pc' := 77) (j := 21) (t := 0) ha rfl rfl rfl (by decide) rfl ?_
            refine hp_bi (pc' := 79) (x := 8) rfl rfl rfl ?_
            refine hp_ine (t := 84) (pc' := 82) rfl rfl rfl (fun c5 => ?_) (fun c5 => ?_)
            · refine hp_al (pc' := 85) (j := 0) (Or.inr ⟨0, rfl, rfl, rfl⟩) rfl ?_
              refine hp_dup (pc' := 86) rfl rfl rfl ?_
              refine hp_gi (pc' := 89) (j := 21) (t := 0) ha rfl rfl rfl (by decide) rfl ?_
              refine hp_ic (pc' := 90) (x := 1) rfl rfl rfl ?_
              refine hp_add (pc' := 91) rfl rfl (fun z6 hz6 => ?_)
              have yz6 : z6.toInt = ((s.length + 1 : Nat) : Int) := by
                rw [hz6, ax_add (by omega) (by omega), zz1, s4]
                omega
              refine hp_pf (pc' := 94) (j := 21) ha rfl rfl rfl rfl (fun M7 eM7 gM7 => ?_)
              have hM7 := ms_dp (z := z6) (s.length + 1) hS eM7 gM7 yz6 (by omega)
              obtain ⟨hM7_, -, -, t3M7, tM7, -⟩ := ms_f hM7
              refine hp_al (pc' := 95) (j := 0) (Or.inr ⟨0, rfl, rfl, rfl⟩) rfl ?_
              refine hp_gr (pc' := 98) ha (hM7_.2.1 244 26 264 rfl) rfl rfl rfl rfl ?_
              refine hp_al (pc' := 99) (j := 0) (Or.inr ⟨0, rfl, rfl, rfl⟩) rfl ?_
              refine hp_gi (pc' := 102) (j := 21) (t := 0) ha rfl rfl rfl (by decide) rfl ?_
              refine hp_il (pc' := 103) (j := 2) (Or.inr ⟨2, rfl, rfl, rfl⟩) rfl ?_
              refine hp_bi (pc' := 105) (x := 40) rfl rfl rfl ?_
              refine hp_ine (t := 112) (pc' := 108) rfl rfl rfl (fun c8 => ?_) (fun c8 => ?_)
              · refine hp_ic (pc' := 113) (x := 0) rfl rfl rfl ?_
                refine hp_st (pc' := 114) (j := (s.length + 1)) ha tM7 (by omega) rfl rfl rfl (fun M9 eM9 gM9 => ?_)
                have hM9 := ms_w (q := 264) (j := (s.length + 1)) (z := (0 : Int32)) hM7 (by omega) (show (-1 : Int) ≤ ((0 : Int32) : Int32).toInt ∧ ((0 : Int32) : Int32).toInt ≤ 3 by first | decide | omega) eM9 gM9
                obtain ⟨hM9_, -, -, t3M9, tM9, -⟩ := ms_f hM9
                refine hp_al (pc' := 115) (j := 0) (Or.inr ⟨0, rfl, rfl, rfl⟩) rfl ?_
                refine hp_cv (Q := fun o => ∃ M1 : rx_M, o = (none, a, M1) ∧ ms_S n p (s.length + 1) true M0 M1 ∧ ∀ j, M1.1 264 j = M9.1 264 j) (pc' := 118) (e := d + 2) (vs := []) (r := []) ha rfl rfl rfl rfl rfl rfl rfl rfl (mb_ok ha hM9) (fun o ho => ?_)
                obtain ⟨N10, eo, hN10, kN10⟩ := ho
                subst eo
                refine ⟨_, rfl, ?_⟩
                obtain ⟨hN10_, -, -, t3N10, tN10, -⟩ := ms_f hN10
                show hp X (d + 3) 180 118 [some (.ref 244), some (.int x1), some (.int r1)] [] a N10 _
                refine hp_al (pc' := 119) (j := 0) (Or.inr ⟨0, rfl, rfl, rfl⟩) rfl ?_
                refine hp_dup (pc' := 120) rfl rfl rfl ?_
                refine hp_gi (pc' := 123) (j := 20) (t := 0) ha rfl rfl rfl (by decide) rfl ?_
                refine hp_ic (pc' := 124) (x := 1) rfl rfl rfl ?_
                refine hp_add (pc' := 125) rfl rfl (fun z11 hz11 => ?_)
                have yz11 : z11.toInt = ((p + 1 : Nat) : Int) := by
                  rw [hz11, ax_add (by omega) (by omega), zz1, t3N10]
                  omega
                refine hp_pf (pc' := 128) (j := 20) ha rfl rfl rfl rfl (fun M12 eM12 gM12 => ?_)
                have hM12 := ms_at hN10 eM12 gM12 yz11 (by omega)
                obtain ⟨hM12_, -, -, t3M12, tM12, -⟩ := ms_f hM12
                refine hp_go (t := 24) rfl rfl ?_
                have ek : (if ms_g M0 p = 40 then 4 else 0) = 0 := if_neg (by omega)
                have e := pa_wo (g := ms_g M0) (n := n) (p := p) (s := s) (by omega) (by omega)
                rw [ek] at e
                have kM : ∀ j, j ≤ s.length → M12.1 264 j = M.1 264 j := fun j hj => by rw [eM12, hp_up_ne (by omega), kN10, eM9, hp_up_ne (by omega), eM7, hp_up_ne (by omega)]
                have kT : (M12.1 264 (s.length + 1)).toInt = ms_c 0 := by
                  rw [eM12, hp_up_ne (by omega), kN10, eM9, hp_up_eq]
                  rfl
                exact hp_imp (ih (p + 1) (0 :: s) true M12 _ (by omega) hM12 ⟨⟨by omega, kT⟩, ms_ke s kM hk⟩) (fun o => gs_go hpn e)
              · refine hp_ic (pc' := 109) (x := (-1)) rfl rfl rfl ?_
                refine hp_go (t := 113) rfl rfl ?_
                refine hp_st (pc' := 114) (j := (s.length + 1)) ha tM7 (by omega) rfl rfl rfl (fun M13 eM13 gM13 => ?_)
                have hM13 := ms_w (q := 264) (j := (s.length + 1)) (z := (-1 : Int32)) hM7 (by omega) (show (-1 : Int) ≤ ((-1 : Int32) : Int32).toInt ∧ ((-1 : Int32) : Int32).toInt ≤ 3 by first | decide | omega) eM13 gM13
                obtain ⟨hM13_, -, -, t3M13, tM13, -⟩ := ms_f hM13
                refine hp_al (pc' := 115) (j := 0) (Or.inr ⟨0, rfl, rfl, rfl⟩) rfl ?_
                refine hp_cv (Q := fun o => ∃ M1 : rx_M, o = (none, a, M1) ∧ ms_S n p (s.length + 1) true M0 M1 ∧ ∀ j, M1.1 264 j = M13.1 264 j) (pc' := 118) (e := d + 2) (vs := []) (r := []) ha rfl rfl rfl rfl rfl rfl rfl rfl (mb_ok ha hM13) (fun o ho => ?_)
                obtain ⟨N14, eo, hN14, kN14⟩ := ho
                subst eo
                refine ⟨_, rfl, ?_⟩
                obtain ⟨hN14_, -, -, t3N14, tN14, -⟩ := ms_f hN14
                show hp X (d + 3) 180 118 [some (.ref 244), some (.int x1), some (.int r1)] [] a N14 _
                refine hp_al (pc' := 119) (j := 0) (Or.inr ⟨0, rfl, rfl, rfl⟩) rfl ?_
                refine hp_dup (pc' := 120) rfl rfl rfl ?_
                refine hp_gi (pc' := 123) (j := 20) (t := 0) ha rfl rfl rfl (by decide) rfl ?_
                refine hp_ic (pc' := 124) (x := 1) rfl rfl rfl ?_
                refine hp_add (pc' := 125) rfl rfl (fun z15 hz15 => ?_)
                have yz15 : z15.toInt = ((p + 1 : Nat) : Int) := by
                  rw [hz15, ax_add (by omega) (by omega), zz1, t3N14]
                  omega
                refine hp_pf (pc' := 128) (j := 20) ha rfl rfl rfl rfl (fun M16 eM16 gM16 => ?_)
                have hM16 := ms_at hN14 eM16 gM16 yz15 (by omega)
                obtain ⟨hM16_, -, -, t3M16, tM16, -⟩ := ms_f hM16
                refine hp_go (t := 24) rfl rfl ?_
                have ek : (if ms_g M0 p = 40 then 4 else 0) = 4 := if_pos (by omega)
                have e := pa_wo (g := ms_g M0) (n := n) (p := p) (s := s) (by omega) (by omega)
                rw [ek] at e
                have kM : ∀ j, j ≤ s.length → M16.1 264 j = M.1 264 j := fun j hj => by rw [eM16, hp_up_ne (by omega), kN14, eM13, hp_up_ne (by omega), eM7, hp_up_ne (by omega)]
                have kT : (M16.1 264 (s.length + 1)).toInt = ms_c 4 := by
                  rw [eM16, hp_up_ne (by omega), kN14, eM13, hp_up_eq]
                  rfl
                exact hp_imp (ih (p + 1) (4 :: s) true M16 _ (by omega) hM16 ⟨⟨by omega, kT⟩, ms_ke s kM hk⟩) (fun o => gs_go hpn e)
            · refine hp_ic (pc' := 83) (x := 0) rfl rfl rfl ?_
              refine hp_rb rfl rfl (by decide) ?_
              exact ⟨_, M, p, _, _, rfl, hS, Or.inl ⟨rfl, pa_none hpn (pa_wd (by omega) (by omega))⟩⟩
      · have hpn : p < n := by omega
        have hw0 : w = false := by
          rcases hw with ⟨h1, h2⟩ | ⟨h1, h2⟩
          · exfalso
            omega
          · exact h1
        subst hw0
        refine hp_al (pc' := 48) (j := 0) (Or.inr ⟨0, rfl, rfl, rfl⟩) rfl ?_
        refine hp_cv (Q := sg_Q n p s M0 a) (pc' := 51) (e := d + 2) (vs := []) (r := []) ha rfl rfl rfl rfl rfl rfl rfl rfl (sg_ok (d := d + 1) ha hS hk hpn) (fun o ho => ?_)
        obtain ⟨z1, M1, eo, ho⟩ := ho
        subst eo
        refine ⟨_, rfl, ?_⟩
        show hp X (d + 3) 180 51 [some (.ref 244), some (.int x1), o2] [.int z1] a M1 _
        refine hp_zne (t := 24) (pc' := 54) rfl rfl rfl (fun c3 => ?_) (fun c3 => ?_)
        · rcases ho with ⟨h1, p1, s1, w1, h2, h3, h4, h5⟩ | ⟨h1, -⟩
          · exact hp_imp (ih p1 s1 w1 M1 _ (by omega) h4 h5) (fun o => gs_go hpn h2)
          · exfalso
            omega
        · refine hp_ic (pc' := 55) (x := 0) rfl rfl rfl ?_
          refine hp_rb rfl rfl (by decide) ?_
          rcases ho with ⟨h1, -⟩ | ⟨h1, h2, D2, w2, h3⟩
          · exfalso
            omega
          · exact ⟨_, M1, p, D2, w2, rfl, h3, Or.inl ⟨rfl, pa_none hpn h2⟩⟩
noncomputable def go_F (M M1 : rx_M) : Prop := ax_J0 ax_sp ax_rf M1 ∧ M1.2 = M.2 ∧ ∀ q j, ¬ ((260 ≤ q ∧ q ≤ 267) ∨ (q = 244 ∧ (j = 19 ∨ j = 20 ∨ j = 21 ∨ j = 30))) → M1.1 q j = M.1 q j
noncomputable def go_Q (n : Nat) (M : rx_M) (a : rx_K) (o : rx_O) : Prop := ∃ (z : Int32) (M1 : rx_M) (p1 : Nat), o = (some (.int z), a, M1) ∧ go_F M M1 ∧ (M1.1 244 20).toInt = (p1 : Int) ∧ ((z.toInt = 0 ∧ pa_R (ms_g M) n 0 [] true (p1 : Int)) ∨ (z.toInt = 1 ∧ pa_R (ms_g M) n 0 [] true (-4)))
theorem go_ok (ha : a.1 = rx_cells) (hJ : ax_J0 ax_sp ax_rf M) (hz : (M.1 258 150).toInt = (n : Int)) (hn : n ≤ 80) : hp X (d + 3) 180 0 [some (.ref 244), some (.int 150), none] [] a M (go_Q n M a) := by
  refine hp_al (pc' := 1) (j := 0) (Or.inr ⟨0, rfl, rfl, rfl⟩) rfl ?_
  refine hp_il (pc' := 2) (j := 1) (Or.inr ⟨1, rfl, rfl, rfl⟩) rfl ?_
  refine hp_pf (pc' := 5) (j := 19) ha rfl rfl rfl rfl (fun M1 e1 g1 => ?_)
  refine hp_al (pc' := 6) (j := 0) (Or.inr ⟨0, rfl, rfl, rfl⟩) rfl ?_
  refine hp_ic (pc' := 7) (x := 0) rfl rfl rfl ?_
  refine hp_pf (pc' := 10) (j := 20) ha rfl rfl rfl rfl (fun M2 e2 g2 => ?_)
  refine hp_al (pc' := 11) (j := 0) (Or.inr ⟨0, rfl, rfl, rfl⟩) rfl ?_
  refine hp_ic (pc' := 12) (x := 0) rfl rfl rfl ?_
  refine hp_pf (pc' := 15) (j := 21) ha rfl rfl rfl rfl (fun M3 e3 g3 => ?_)
  have j1 := j0_w (q := 244) (j := 19) (z := 150) 244 244 hJ (show (0 : Int) ≤ (150 : Int32).toInt ∧ (150 : Int32).toInt ≤ 150 by decide) (by decide) (by omega) (by omega) (by omega) (by omega) e1 g1
  have j2 := j0_w (q := 244) (j := 20) (z := 0) 244 244 j1 (show (0 : Int) ≤ (0 : Int32).toInt ∧ (0 : Int32).toInt ≤ 80 by decide) (by decide) (by omega) (by omega) (by omega) (by omega) e2 g2
  have j3 := j0_w (q := 244) (j := 21) (z := 0) 244 244 j2 (show (0 : Int) ≤ (0 : Int32).toInt ∧ (0 : Int32).toInt ≤ 8 by decide) (by decide) (by omega) (by omega) (by omega) (by omega) e3 g3
  obtain ⟨w, hw⟩ : ∃ w : Bool, (M3.1 244 30).toInt = cond w 1 0 := by
    have b : 0 ≤ (M3.1 244 30).toInt ∧ (M3.1 244 30).toInt ≤ 1 := j3.1 244 30
    by_cases c : (M3.1 244 30).toInt = 0
    · exact ⟨false, c⟩
    · exact ⟨true, show (M3.1 244 30).toInt = 1 by omega⟩
  have hS3 : ms_S n 0 0 w M1 M3 := ⟨j3, ⟨g3.trans g2, fun q j h => by rw [e3, hp_up_ne (by omega), e2, hp_up_ne (by omega)]⟩, ⟨by rw [e1, hp_up_eq]; rfl, by rw [e1, hp_up_ne (by omega)]; exact hz⟩, by rw [e3, hp_up_ne (by omega), e2, hp_up_eq]; rfl, by rw [e3, hp_up_eq]; rfl, hw, Nat.zero_le _, hn, by omega⟩
  refine hp_al (pc' := 16) (j := 0) (Or.inr ⟨0, rfl, rfl, rfl⟩) rfl ?_
  refine hp_cv (Q := fun o => ∃ N : rx_M, o = (none, a, N) ∧ ms_S n 0 0 w M1 N ∧ ∀ j, N.1 264 j = M3.1 264 j) (pc' := 19) (e := d + 2) (vs := []) (r := []) ha rfl rfl rfl rfl rfl rfl rfl rfl (mb_ok ha hS3) (fun o ho => ?_)
  obtain ⟨N4, eo, hN4, -⟩ := ho
  subst eo
  refine ⟨_, rfl, ?_⟩
  show hp X (d + 3) 180 19 [some (.ref 244), some (.int 150), none] [] a N4 _
  refine hp_al (pc' := 20) (j := 0) (Or.inr ⟨0, rfl, rfl, rfl⟩) rfl ?_
  refine hp_ic (pc' := 21) (x := 1) rfl rfl rfl ?_
  refine hp_pfb (pc' := 24) (j := 30) ha (by decide) rfl rfl rfl rfl (fun M5 e5 g5 => ?_)
  have hM5 := ms_wn (z := (1 : Int32)) true hN4 e5 g5 rfl
  refine hp_imp (gl_ok ha (n + 1) 0 [] true M5 none (by omega) hM5 trivial) (fun o h2 => ?_)
  obtain ⟨z, M6, p1, D1, w1, eo, hS6, h⟩ := h2
  have eg : ms_g M1 = ms_g M := funext (fun j => by
    show (M1.1 257 _).toInt = (M.1 257 _).toInt
    rw [e1, hp_up_ne (by omega)])
  rw [eg] at h
  refine ⟨z, M6, p1, eo, ⟨hS6.1, hS6.2.1.1.trans g1, fun q j hq => ?_⟩, hS6.2.2.2.1, h⟩
  rw [hS6.2.1.2 q j (by omega), e1, hp_up_ne (by omega)]
theorem mlt_ok (ha : a.1 = rx_cells) (hM : ax_J0 ax_sp ax_rf M) : hp X (d + 1) 181 0 [some (.ref 244), some (.int x1), some (.int 0)] [] a M (fun o => ∃ r : Int32, o = (some (.int r), a, M) ∧ (r.toInt = pf_r x1.toInt (M.1 283 x1.toInt.toNat).toInt (M.1 285 x1.toInt.toNat).toInt)) := by
  have zz0 : (0 : Int32).toInt = 0 := rfl
  have zz2 : (2 : Int32).toInt = 2 := rfl
  have zz7 : (7 : Int32).toInt = 7 := rfl
  have zm1 : ((-1) : Int32).toInt = -1 := rfl
  have zm11 : ((-11) : Int32).toInt = -11 := rfl
  have zm12 : ((-12) : Int32).toInt = -12 := rfl
  refine hp_al (pc' := 1) (j := 0) (Or.inr ⟨0, rfl, rfl, rfl⟩) rfl ?_
  refine hp_il (pc' := 2) (j := 1) (Or.inr ⟨1, rfl, rfl, rfl⟩) rfl ?_
  refine hp_ic (pc' := 3) (x := 0) rfl rfl rfl ?_
  refine hp_bi (pc' := 5) (x := 7) rfl rfl rfl ?_
  refine hp_cv (Q := fun o => ∃ r : Int32, o = (some (.int r), a, M) ∧ (r.toInt = 0 ∨ r.toInt = 1) ∧ (r.toInt ≠ 0 ↔ (((0 : Int32) : Int32).toInt ≤ (x1 : Int32).toInt ∧ (x1 : Int32).toInt ≤ ((7 : Int32) : Int32).toInt))) (pc' := 8) (e := d) (vs := [.int x1, .int (0 : Int32), .int (7 : Int32)]) (r := []) ha rfl rfl rfl rfl rfl rfl rfl rfl in_ok (fun o ho => ?_)
  obtain ⟨r1, eo, qr1⟩ := ho
  subst eo
  refine ⟨_, rfl, ?_⟩
  show hp X (d + 1) 181 8 [some (.ref 244), some (.int x1), some (.int (0 : Int32))] [.int r1] a M _
  refine hp_zne (t := 15) (pc' := 11) rfl rfl rfl (fun c2 => ?_) (fun c2 => ?_)
  · have hq1 := qr1.2.mp (by assumption)
    obtain ⟨D, hD, hD8⟩ : ∃ D : Nat, x1.toInt = (D : Int) ∧ D < 8 := ⟨x1.toInt.toNat, by omega, by omega⟩
    have eD : x1.toInt.toNat = D := by omega
    refine hp_al (pc' := 16) (j := 0) (Or.inr ⟨0, rfl, rfl, rfl⟩) rfl ?_
    refine hp_gr (pc' := 19) ha (hM.2.1 244 50 283 rfl) rfl rfl rfl rfl ?_
    refine hp_il (pc' := 20) (j := 1) (Or.inr ⟨1, rfl, rfl, rfl⟩) rfl ?_
    refine hp_ld (pc' := 21) (j := D) ha hD (by omega) rfl rfl rfl ?_
    refine hp_zne (t := 29) (pc' := 24) rfl rfl rfl (fun c3 => ?_) (fun c3 => ?_)
    · refine hp_al (pc' := 30) (j := 0) (Or.inr ⟨0, rfl, rfl, rfl⟩) rfl ?_
      refine hp_gr (pc' := 33) ha (hM.2.1 244 50 283 rfl) rfl rfl rfl rfl ?_
      refine hp_il (pc' := 34) (j := 1) (Or.inr ⟨1, rfl, rfl, rfl⟩) rfl ?_
      refine hp_ld (pc' := 35) (j := D) ha hD (by omega) rfl rfl rfl ?_
      refine hp_ic (pc' := 36) (x := 2) rfl rfl rfl ?_
      refine hp_ine (t := 49) (pc' := 39) rfl rfl rfl (fun c4 => ?_) (fun c4 => ?_)
      · refine hp_bi (pc' := 51) (x := (-12)) rfl rfl rfl ?_
        refine hp_go (t := 55) rfl rfl ?_
        refine hp_ri rfl rfl ?_
        exact ⟨_, rfl, by
          rw [eD]
          unfold pf_r
          repeat' split
          all_goals omega⟩
      · refine hp_al (pc' := 40) (j := 0) (Or.inr ⟨0, rfl, rfl, rfl⟩) rfl ?_
        refine hp_gr (pc' := 43) ha (hM.2.1 244 52 285 rfl) rfl rfl rfl rfl ?_
        refine hp_il (pc' := 44) (j := 1) (Or.inr ⟨1, rfl, rfl, rfl⟩) rfl ?_
        refine hp_ld (pc' := 45) (j := D) ha hD (by omega) rfl rfl rfl ?_
        refine hp_il (pc' := 46) (j := 2) (Or.inr ⟨2, rfl, rfl, rfl⟩) rfl ?_
        refine hp_ieq (t := 54) (pc' := 49) rfl rfl rfl (fun c5 => ?_) (fun c5 => ?_)
        · refine hp_ic (pc' := 55) (x := 0) rfl rfl rfl ?_
          refine hp_ri rfl rfl ?_
          exact ⟨_, rfl, by
            rw [eD]
            unfold pf_r
            repeat' split
            all_goals omega⟩
        · refine hp_bi (pc' := 51) (x := (-12)) rfl rfl rfl ?_
          refine hp_go (t := 55) rfl rfl ?_
          refine hp_ri rfl rfl ?_
          exact ⟨_, rfl, by
            rw [eD]
            unfold pf_r
            repeat' split
            all_goals omega⟩
    · refine hp_bi (pc' := 26) (x := (-11)) rfl rfl rfl ?_
      refine hp_go (t := 55) rfl rfl ?_
      refine hp_ri rfl rfl ?_
      exact ⟨_, rfl, by
        rw [eD]
        unfold pf_r
        repeat' split
        all_goals omega⟩
  · refine hp_ic (pc' := 12) (x := (-1)) rfl rfl rfl ?_
    refine hp_go (t := 55) rfl rfl ?_
    refine hp_ri rfl rfl ?_
    exact ⟨_, rfl, by
      unfold pf_r
      repeat' split
      all_goals omega⟩
noncomputable def br_I (n D k : Nat) (M0 M : rx_M) : Prop := ax_J0 ax_sp ax_rf M ∧ (M.2 = M0.2 ∧ (M.1 258 150).toInt = (n : Int)) ∧ (∀ j, j < k → M.1 257 (12000 + j) = M0.1 287 (80 * D + j)) ∧ ∀ q j, ¬ (q = 257 ∨ q = 258) → M.1 q j = M0.1 q j
theorem br_s {k : Nat} {z : Int32} {M1 : rx_M} (h : br_I n D k M0 M) (e : M1.1 = rx_up M.1 257 (12000 + k) z) (g : M1.2 = M.2) (hz : z = M.1 287 (80 * D + k)) : br_I n D (k + 1) M0 M1 := by
  obtain ⟨h1, ⟨h2, h3⟩, h4, h5⟩ := h
  refine ⟨j0_w (q := 257) (j := 12000 + k) (z := z) 257 257 h1 (ax_full_ok _) (by decide) (by omega) (by omega) (by omega) (by omega) e g, ⟨g.trans h2, by rw [e, hp_up_ne (by omega)]; exact h3⟩, fun j hj => ?_, fun q j hq => by rw [e, hp_up_ne (by omega)]; exact h5 q j hq⟩
  rw [e]
  by_cases c : j = k
  · rw [c, hp_up_eq, hz]
    exact h5 287 _ (by omega)
  · rw [hp_up_ne (by omega)]
    exact h4 j (by omega)
theorem br_16 (ha : a.1 = rx_cells) (h1 : x1.toInt = (D : Int)) (hD : D < 8) (hz : (M0.1 286 D).toInt = (n : Int)) (hn : n ≤ 80) : ∀ (m k : Nat) (x2 : Int32) (M : rx_M), m + k = n → x2.toInt = (k : Int) → br_I n D k M0 M → (∀ M1, br_I n D n M0 M1 → P (none, a, M1)) → hp X d 182 16 [some (.ref 244), some (.int x1), some (.int x2)] [] a M P := by
  intro m
  induction m with
  | zero =>
    intro k x2 M hb hk hI kk
    have hsz : (M.1 286 D).toInt = (n : Int) := by
      rw [hI.2.2.2 286 D (by omega)]
      exact hz
    have zz80 : (80 : Int32).toInt = 80 := rfl
    have zz12000 : (12000 : Int32).toInt = 12000 := rfl
    have hM := hI.1
    refine hp_il (pc' := 17) (j := 2) (Or.inr ⟨2, rfl, rfl, rfl⟩) rfl ?_
    refine hp_al (pc' := 18) (j := 0) (Or.inr ⟨0, rfl, rfl, rfl⟩) rfl ?_
    refine hp_gr (pc' := 21) ha (hM.2.1 244 53 286 rfl) rfl rfl rfl rfl ?_
    refine hp_il (pc' := 22) (j := 1) (Or.inr ⟨1, rfl, rfl, rfl⟩) rfl ?_
    refine hp_ld (pc' := 23) (j := D) ha h1 (by omega) rfl rfl rfl ?_
    refine hp_ige (t := 53) (pc' := 26) rfl rfl rfl (fun c1 => ?_) (fun c1 => ?_)
    · refine hp_rv rfl rfl ?_
      have e : k = n := by omega
      rw [e] at hI
      exact kk M hI
    · exfalso
      omega
  | succ m ih =>
    intro k x2 M hb hk hI kk
    have hsz : (M.1 286 D).toInt = (n : Int) := by
      rw [hI.2.2.2 286 D (by omega)]
      exact hz
    have zz80 : (80 : Int32).toInt = 80 := rfl
    have zz12000 : (12000 : Int32).toInt = 12000 := rfl
    have hM := hI.1
    refine hp_il (pc' := 17) (j := 2) (Or.inr ⟨2, rfl, rfl, rfl⟩) rfl ?_
    refine hp_al (pc' := 18) (j := 0) (Or.inr ⟨0, rfl, rfl, rfl⟩) rfl ?_
    refine hp_gr (pc' := 21) ha (hM.2.1 244 53 286 rfl) rfl rfl rfl rfl ?_
    refine hp_il (pc' := 22) (j := 1) (Or.inr ⟨1, rfl, rfl, rfl⟩) rfl ?_
    refine hp_ld (pc' := 23) (j := D) ha h1 (by omega) rfl rfl rfl ?_
    refine hp_ige (t := 53) (pc' := 26) rfl rfl rfl (fun c1 => ?_) (fun c1 => ?_)
    · refine hp_rv rfl rfl ?_
      exfalso
      omega
    · refine hp_al (pc' := 27) (j := 0) (Or.inr ⟨0, rfl, rfl, rfl⟩) rfl ?_
      refine hp_gr (pc' := 30) ha (hM.2.1 244 16 257 rfl) rfl rfl rfl rfl ?_
      refine hp_si (pc' := 33) (x := 12000) rfl rfl rfl ?_
      refine hp_il (pc' := 34) (j := 2) (Or.inr ⟨2, rfl, rfl, rfl⟩) rfl ?_
      refine hp_add (pc' := 35) rfl rfl (fun z2 hz2 => ?_)
      have yz2 : z2.toInt = ((12000 + k : Nat) : Int) := by
        rw [hz2, ax_add (by omega) (by omega), zz12000, hk]
        omega
      refine hp_al (pc' := 36) (j := 0) (Or.inr ⟨0, rfl, rfl, rfl⟩) rfl ?_
      refine hp_gr (pc' := 39) ha (hM.2.1 244 54 287 rfl) rfl rfl rfl rfl ?_
      refine hp_bi (pc' := 41) (x := 80) rfl rfl rfl ?_
      refine hp_il (pc' := 42) (j := 1) (Or.inr ⟨1, rfl, rfl, rfl⟩) rfl ?_
      refine hp_mul (pc' := 43) rfl rfl (fun z3 hz3 => ?_)
      have yz3 : z3.toInt = ((80 * D : Nat) : Int) := by
        rw [hz3, ax_mul (by rw [zz80, h1]; omega) (by rw [zz80, h1]; omega), zz80, h1]
        omega
      refine hp_il (pc' := 44) (j := 2) (Or.inr ⟨2, rfl, rfl, rfl⟩) rfl ?_
      refine hp_add (pc' := 45) rfl rfl (fun z4 hz4 => ?_)
      have yz4 : z4.toInt = ((80 * D + k : Nat) : Int) := by
        rw [hz4, ax_add (by omega) (by omega), yz3, hk]
        omega
      refine hp_ld (pc' := 46) (j := (80 * D + k)) ha yz4 (by omega) rfl rfl rfl ?_
      refine hp_st (pc' := 47) (j := (12000 + k)) ha yz2 (by omega) rfl rfl rfl (fun M5 eM5 gM5 => ?_)
      have hM5 := br_s hI eM5 gM5 rfl
      refine hp_in (pc' := 50) (j := 2) (ls' := [some (.ref 244), some (.int x1), some (.int (x2 + Int32.ofInt 1))]) rfl rfl rfl rfl rfl ?_
      refine hp_go (t := 16) rfl rfl ?_
      exact ih (k + 1) _ M5 (by omega) (hp_i1 hk (by omega)) hM5 kk
theorem br_ok (ha : a.1 = rx_cells) (hM : ax_J0 ax_sp ax_rf M) (h1 : x1.toInt = (D : Int)) (hD : D < 8) (hz : (M.1 286 D).toInt = (n : Int)) (hn : n ≤ 80) : hp X d 182 0 [some (.ref 244), some (.int x1), none] [] a M (fun o => ∃ M1 : rx_M, o = (none, a, M1) ∧ br_I n D n M M1) := by
  refine hp_al (pc' := 1) (j := 0) (Or.inr ⟨0, rfl, rfl, rfl⟩) rfl ?_
  refine hp_gr (pc' := 4) ha (hM.2.1 244 17 258 rfl) rfl rfl rfl rfl ?_
  refine hp_si (pc' := 7) (x := 150) rfl rfl rfl ?_
  refine hp_al (pc' := 8) (j := 0) (Or.inr ⟨0, rfl, rfl, rfl⟩) rfl ?_
  refine hp_gr (pc' := 11) ha (hM.2.1 244 53 286 rfl) rfl rfl rfl rfl ?_
  refine hp_il (pc' := 12) (j := 1) (Or.inr ⟨1, rfl, rfl, rfl⟩) rfl ?_
  refine hp_ld (pc' := 13) (j := D) ha h1 (by omega) rfl rfl rfl ?_
  refine hp_st (pc' := 14) (j := 150) ha rfl (by omega) rfl rfl rfl (fun M1 eM1 gM1 => ?_)
  have hI : br_I n D 0 M M1 := ⟨j0_w (q := 258) (j := 150) (z := (M.1 286 D)) 258 258 hM (show (0 : Int) ≤ ((M.1 286 D) : Int32).toInt ∧ ((M.1 286 D) : Int32).toInt ≤ 80 by omega) (by decide) (by omega) (by omega) (by omega) (by omega) eM1 gM1, ⟨gM1, by rw [eM1, hp_up_eq]; exact hz⟩, fun j hj => absurd hj (Nat.not_lt_zero _), fun q j hq => by rw [eM1, hp_up_ne (by omega)]⟩
  refine hp_ic (pc' := 15) (x := 0) rfl rfl rfl ?_
  refine hp_is (pc' := 16) (j := 2) (ls' := [some (.ref 244), some (.int x1), some (.int (0 : Int32))]) (Or.inr ⟨2, rfl, rfl, rfl⟩) (by simp) rfl ?_
  exact br_16 (P := fun o => ∃ M1 : rx_M, o = (none, a, M1) ∧ br_I n D n M M1) ha h1 hD hz hn n 0 _ _ (by omega) rfl hI (fun M1 h => ⟨M1, rfl, h⟩)
noncomputable def mf_F (M M1 : rx_M) : Prop := ax_J0 ax_sp ax_rf M1 ∧ M1.2 = M.2 ∧ ∀ q j, ¬ (q = 257 ∨ q = 258 ∨ (260 ≤ q ∧ q ≤ 267) ∨ (q = 244 ∧ (j = 19 ∨ j = 20 ∨ j = 21 ∨ j = 30))) → M1.1 q j = M.1 q j
noncomputable def mf_Q (x1 : Int32) (a : rx_K) (M : rx_M) (o : rx_O) : Prop := ∃ (r : Int32) (M1 : rx_M), o = (some (.int r), a, M1) ∧ ((pf_r x1.toInt (M.1 283 x1.toInt.toNat).toInt (M.1 285 x1.toInt.toNat).toInt ≠ 0 ∧ r.toInt = pf_r x1.toInt (M.1 283 x1.toInt.toNat).toInt (M.1 285 x1.toInt.toNat).toInt ∧ M1 = M) ∨ (pf_r x1.toInt (M.1 283 x1.toInt.toNat).toInt (M.1 285 x1.toInt.toNat).toInt = 0 ∧ pa_R (fun j => (M.1 287 (80 * x1.toInt.toNat + j)).toInt) (M.1 286 x1.toInt.toNat).toInt.toNat 0 [] true r.toInt ∧ mf_F M M1))
theorem mfl_ok (ha : a.1 = rx_cells) (hM : ax_J0 ax_sp ax_rf M) : hp X (d + 4) 183 0 [some (.ref 244), some (.int x1)] [] a M (mf_Q x1 a M) := by
  have zz0 : (0 : Int32).toInt = 0 := rfl
  have zm4 : ((-4) : Int32).toInt = -4 := rfl
  refine hp_al (pc' := 1) (j := 0) (Or.inr ⟨0, rfl, rfl, rfl⟩) rfl ?_
  refine hp_il (pc' := 2) (j := 1) (Or.inr ⟨1, rfl, rfl, rfl⟩) rfl ?_
  refine hp_ic (pc' := 3) (x := 0) rfl rfl rfl ?_
  refine hp_cv (Q := fun o => ∃ r : Int32, o = (some (.int r), a, M) ∧ r.toInt = pf_r x1.toInt (M.1 283 x1.toInt.toNat).toInt (M.1 285 x1.toInt.toNat).toInt) (pc' := 6) (e := (d + 3)) (vs := [.int x1, .int (0 : Int32)]) (r := []) ha rfl rfl rfl rfl rfl rfl rfl rfl (mlt_ok (d := d + 2) ha hM) (fun o ho => ?_)
  obtain ⟨r1, eo, qr1⟩ := ho
  subst eo
  refine ⟨_, rfl, ?_⟩
  show hp X ((d + 3) + 1) 183 6 [some (.ref 244), some (.int x1)] [.int r1] a M _
  refine hp_zeq (t := 16) (pc' := 9) rfl rfl rfl (fun c2 => ?_) (fun c2 => ?_)
  · have hq1 : 0 ≤ x1.toInt ∧ x1.toInt ≤ 7 := by
      have w0 : pf_r x1.toInt (M.1 283 x1.toInt.toNat).toInt (M.1 285 x1.toInt.toNat).toInt = 0 := by omega
      unfold pf_r at w0
      split at w0
      · omega
      · omega
    obtain ⟨D, hD, hD8⟩ : ∃ D : Nat, x1.toInt = (D : Int) ∧ D < 8 := ⟨x1.toInt.toNat, by omega, by omega⟩
    have eD : x1.toInt.toNat = D := by omega
    have bz : 0 ≤ (M.1 286 D).toInt ∧ (M.1 286 D).toInt ≤ 80 := hM.1 286 D
    obtain ⟨n, hn, hn8⟩ : ∃ n : Nat, (M.1 286 D).toInt = (n : Int) ∧ n ≤ 80 := ⟨(M.1 286 D).toInt.toNat, by omega, by omega⟩
    have e9 : (M.1 286 x1.toInt.toNat).toInt.toNat = n := by
      rw [eD]
      omega
    refine hp_al (pc' := 17) (j := 0) (Or.inr ⟨0, rfl, rfl, rfl⟩) rfl ?_
    refine hp_il (pc' := 18) (j := 1) (Or.inr ⟨1, rfl, rfl, rfl⟩) rfl ?_
    refine hp_cv (Q := fun o => ∃ M1 : rx_M, o = (none, a, M1) ∧ br_I n D n M M1) (pc' := 21) (e := d + 3) (vs := [.int x1]) (r := []) ha rfl rfl rfl rfl rfl rfl rfl rfl (br_ok ha hM hD hD8 hn hn8) (fun o ho => ?_)
    obtain ⟨M8, eo, i1, ⟨i2, i3⟩, i4, i5⟩ := ho
    subst eo
    refine ⟨_, rfl, ?_⟩
    show hp X (d + 4) 183 21 [some (.ref 244), some (.int x1)] [] a M8 _
    refine hp_al (pc' := 22) (j := 0) (Or.inr ⟨0, rfl, rfl, rfl⟩) rfl ?_
    refine hp_si (pc' := 25) (x := 150) rfl rfl rfl ?_
    refine hp_cv (Q := go_Q n M8 a) (pc' := 28) (e := d + 3) (vs := [.int 150]) (r := []) ha rfl rfl rfl rfl rfl rfl rfl rfl (go_ok ha i1 i3 hn8) (fun o ho => ?_)
    obtain ⟨z9, M9, p9, eo, ⟨f1, f2, f3⟩, h9, ho⟩ := ho
    subst eo
    refine ⟨_, rfl, ?_⟩
    have hF : mf_F M M9 := ⟨f1, f2.trans i2, fun q j hq => by rw [f3 q j (by omega), i5 q j (by omega)]⟩
    have cg : ∀ r, pa_R (ms_g M8) n 0 [] true r → pa_R (fun j => (M.1 287 (80 * x1.toInt.toNat + j)).toInt) (M.1 286 x1.toInt.toNat).toInt.toNat 0 [] true r := fun r hr => by
      rw [e9, eD]
      refine pa_R_c (fun j hj => ?_) hr
      show (M8.1 257 (12000 + j)).toInt = _
      rw [i4 j hj]
    show hp X (d + 4) 183 28 [some (.ref 244), some (.int x1)] [.int z9] a M9 _
    refine hp_zeq (t := 36) (pc' := 31) rfl rfl rfl (fun c3 => ?_) (fun c3 => ?_)
    · refine hp_al (pc' := 37) (j := 0) (Or.inr ⟨0, rfl, rfl, rfl⟩) rfl ?_
      refine hp_gi (pc' := 40) (j := 20) (t := 0) ha rfl rfl rfl (by decide) rfl ?_
      refine hp_ri rfl rfl ?_
      exact ⟨_, M9, rfl, Or.inr ⟨by rw [← qr1]; omega, by
        rw [h9]
        exact cg _ (ho.resolve_right (fun v => by omega)).2, hF⟩⟩
    · refine hp_bi (pc' := 33) (x := (-4)) rfl rfl rfl ?_
      refine hp_go (t := 40) rfl rfl ?_
      refine hp_ri rfl rfl ?_
      exact ⟨_, M9, rfl, Or.inr ⟨by rw [← qr1]; omega, cg _ (ho.resolve_left (fun v => by omega)).2, hF⟩⟩
  · refine hp_al (pc' := 10) (j := 0) (Or.inr ⟨0, rfl, rfl, rfl⟩) rfl ?_
    refine hp_il (pc' := 11) (j := 1) (Or.inr ⟨1, rfl, rfl, rfl⟩) rfl ?_
    refine hp_ic (pc' := 12) (x := 0) rfl rfl rfl ?_
    refine hp_cv (Q := fun o => ∃ r : Int32, o = (some (.int r), a, M) ∧ r.toInt = pf_r x1.toInt (M.1 283 x1.toInt.toNat).toInt (M.1 285 x1.toInt.toNat).toInt) (pc' := 15) (e := (d + 3)) (vs := [.int x1, .int (0 : Int32)]) (r := []) ha rfl rfl rfl rfl rfl rfl rfl rfl (mlt_ok (d := d + 2) ha hM) (fun o ho => ?_)
    obtain ⟨r4, eo, qr4⟩ := ho
    subst eo
    refine ⟨_, rfl, ?_⟩
    show hp X ((d + 3) + 1) 183 15 [some (.ref 244), some (.int x1)] [.int r4] a M _
    refine hp_ri rfl rfl ?_
    exact ⟨_, M, rfl, Or.inl ⟨by rw [← qr1]; omega, qr4, rfl⟩⟩
end GS
