/-! folk and keep, of both sides, by hand -/
noncomputable def fk_v (x1 x2 x3 n : Int) : Int := if x1 < 0 ∨ 4 < x1 ∨ x2 < 0 ∨ 5 < x2 ∨ x3 < 0 ∨ 31 < x3 then -1 else if n = 12 then -2 else n
noncomputable def fk_ok (x1 x2 x3 n : Int) : Prop := (0 ≤ x1 ∧ x1 ≤ 4) ∧ (0 ≤ x2 ∧ x2 ≤ 5) ∧ (0 ≤ x3 ∧ x3 ≤ 31) ∧ n ≠ 12
/-- one more of the folk: kind, place, skills, (cell and field) of how many, what else may be written -/
noncomputable def fk_F (k p s c w : Nat) (fl n : Nat) (x1 x2 x3 : Int32) (M M1 : rx_M) : Prop := M1.2 = M.2 ∧ M1.1 k n = x1 ∧ M1.1 p n = x2 ∧ M1.1 s n = x3 ∧ (M1.1 c fl).toInt = (n : Int) + 1 ∧ ax_J0 ax_sp ax_rf M1 ∧ ∀ q j, ¬ (j = n ∧ (q = k ∨ q = p ∨ q = s ∨ q = w)) → ¬ (q = c ∧ j = fl) → M1.1 q j = M.1 q j
noncomputable def fk_Q (k p s c w : Nat) (fl n : Nat) (x1 x2 x3 : Int32) (a : rx_K) (M : rx_M) (o : rx_O) : Prop := ∃ (r : Int32) (M1 : rx_M), o = (some (.int r), a, M1) ∧ r.toInt = fk_v x1.toInt x2.toInt x3.toInt (n : Int) ∧ ((¬ fk_ok x1.toInt x2.toInt x3.toInt (n : Int) ∧ M1 = M) ∨ (fk_ok x1.toInt x2.toInt x3.toInt (n : Int) ∧ fk_F k p s c w fl n x1 x2 x3 M M1))
/-- all may be written -/
noncomputable def wa_W : ax_D := ([], [(0, 300)])
theorem wa_wd {q j : Nat} (h : q ≤ 300) : ax_wd wa_W q j := Or.inr ⟨(0, 300), List.mem_cons_self, by dsimp only; omega, by dsimp only; omega⟩
theorem wa_w {M0 M M1 : rx_M} {a0 a : rx_K} {q j : Nat} {z : Int32} (lo hi : Int) (h : ei_I wa_W M0 a0 M a) (hq : q ≤ 300) (hz : (ax_sp q j).1 ≤ z.toInt ∧ z.toInt ≤ (ax_sp q j).2) (h1 : ax_quiet lo hi = true) (h2 : lo ≤ (q : Int)) (h3 : (q : Int) ≤ hi) (h4 : ¬ (14 = q ∧ 16 = j)) (h5 : ¬ (244 = q ∧ 7 = j)) (e : M1.1 = rx_up M.1 q j z) (g : M1.2 = M.2) : ei_I wa_W M0 a0 M1 a := ei_w h (wa_wd hq) hz (ax_G_free h.1.2.2 h1 h2 h3 h4 h5) e g
section FK
variable {X : Nat × (Nat → Int32)} {d n D : Nat} {a : rx_K} {M : rx_M} {P : rx_O → Prop} {x1 x2 x3 : Int32}
theorem ad_ok (ha : a.1 = rx_cells) (hM : ei_I wa_W M a M a) (sM : (M.1 1 4).toInt = (n : Int)) (hn : n < 12) (hk : (0 ≤ x1.toInt ∧ x1.toInt ≤ 4) ∧ (0 ≤ x2.toInt ∧ x2.toInt ≤ 5) ∧ (0 ≤ x3.toInt ∧ x3.toInt ≤ 31)) : hp X d 42 0 [some (.ref 1), some (.int x1), some (.int x2), some (.int x3)] [] a M (fun o => ∃ (r : Int32) (M1 : rx_M), o = (some (.int r), a, M1) ∧ r.toInt = (n : Int) ∧ fk_F 2 3 4 1 5 4 n x1 x2 x3 M M1) := by
  have one1 : (1 : Int32).toInt = 1 := rfl
  refine hp_al (pc' := 1) (j := 0) (Or.inr ⟨0, rfl, rfl, rfl⟩) rfl ?_
  refine hp_gr (pc' := 4) ha (hM.1.2.1 1 0 2 rfl) rfl rfl rfl rfl ?_
  refine hp_al (pc' := 5) (j := 0) (Or.inr ⟨0, rfl, rfl, rfl⟩) rfl ?_
  refine hp_gi (pc' := 8) (j := 4) (t := 0) ha rfl rfl rfl (by decide) rfl ?_
  refine hp_il (pc' := 9) (j := 1) (Or.inr ⟨1, rfl, rfl, rfl⟩) rfl ?_
  refine hp_st (pc' := 10) (j := n) ha sM (by omega) rfl rfl rfl (fun M1 eM1 gM1 => ?_)
  have hM1 := wa_w (q := 2) (j := n) (z := x1) 2 2 hM (by omega) (show (0 : Int) ≤ (x1 : Int32).toInt ∧ (x1 : Int32).toInt ≤ 4 by first | decide | omega) (by decide) (by decide) (by decide) (by omega) (by omega) eM1 gM1
  have sM1 : (M1.1 1 4).toInt = (n : Int) := by
    rw [eM1, hp_up_ne (by omega)]
    exact sM
  refine hp_al (pc' := 11) (j := 0) (Or.inr ⟨0, rfl, rfl, rfl⟩) rfl ?_
  refine hp_gr (pc' := 14) ha (hM1.1.2.1 1 1 3 rfl) rfl rfl rfl rfl ?_
  refine hp_al (pc' := 15) (j := 0) (Or.inr ⟨0, rfl, rfl, rfl⟩) rfl ?_
  refine hp_gi (pc' := 18) (j := 4) (t := 0) ha rfl rfl rfl (by decide) rfl ?_
  refine hp_il (pc' := 19) (j := 2) (Or.inr ⟨2, rfl, rfl, rfl⟩) rfl ?_
  refine hp_st (pc' := 20) (j := n) ha sM1 (by omega) rfl rfl rfl (fun M2 eM2 gM2 => ?_)
  have hM2 := wa_w (q := 3) (j := n) (z := x2) 3 3 hM1 (by omega) (show (0 : Int) ≤ (x2 : Int32).toInt ∧ (x2 : Int32).toInt ≤ 5 by first | decide | omega) (by decide) (by decide) (by decide) (by omega) (by omega) eM2 gM2
  have sM2 : (M2.1 1 4).toInt = (n : Int) := by
    rw [eM2, hp_up_ne (by omega)]
    exact sM1
  refine hp_al (pc' := 21) (j := 0) (Or.inr ⟨0, rfl, rfl, rfl⟩) rfl ?_
  refine hp_gr (pc' := 24) ha (hM2.1.2.1 1 2 4 rfl) rfl rfl rfl rfl ?_
  refine hp_al (pc' := 25) (j := 0) (Or.inr ⟨0, rfl, rfl, rfl⟩) rfl ?_
  refine hp_gi (pc' := 28) (j := 4) (t := 0) ha rfl rfl rfl (by decide) rfl ?_
  refine hp_il (pc' := 29) (j := 3) (Or.inr ⟨3, rfl, rfl, rfl⟩) rfl ?_
  refine hp_st (pc' := 30) (j := n) ha sM2 (by omega) rfl rfl rfl (fun M3 eM3 gM3 => ?_)
  have hM3 := wa_w (q := 4) (j := n) (z := x3) 4 4 hM2 (by omega) (show (0 : Int) ≤ (x3 : Int32).toInt ∧ (x3 : Int32).toInt ≤ 31 by first | decide | omega) (by decide) (by decide) (by decide) (by omega) (by omega) eM3 gM3
  have sM3 : (M3.1 1 4).toInt = (n : Int) := by
    rw [eM3, hp_up_ne (by omega)]
    exact sM2
  refine hp_al (pc' := 31) (j := 0) (Or.inr ⟨0, rfl, rfl, rfl⟩) rfl ?_
  refine hp_gr (pc' := 34) ha (hM3.1.2.1 1 3 5 rfl) rfl rfl rfl rfl ?_
  refine hp_al (pc' := 35) (j := 0) (Or.inr ⟨0, rfl, rfl, rfl⟩) rfl ?_
  refine hp_gi (pc' := 38) (j := 4) (t := 0) ha rfl rfl rfl (by decide) rfl ?_
  refine hp_bi (pc' := 40) (x := (-4)) rfl rfl rfl ?_
  refine hp_st (pc' := 41) (j := n) ha sM3 (by omega) rfl rfl rfl (fun M4 eM4 gM4 => ?_)
  have hM4 := wa_w (q := 5) (j := n) (z := (-4 : Int32)) 5 5 hM3 (by omega) (show (-4 : Int) ≤ ((-4 : Int32) : Int32).toInt ∧ ((-4 : Int32) : Int32).toInt ≤ 520 by first | decide | omega) (by decide) (by decide) (by decide) (by omega) (by omega) eM4 gM4
  have sM4 : (M4.1 1 4).toInt = (n : Int) := by
    rw [eM4, hp_up_ne (by omega)]
    exact sM3
  refine hp_al (pc' := 42) (j := 0) (Or.inr ⟨0, rfl, rfl, rfl⟩) rfl ?_
  refine hp_dup (pc' := 43) rfl rfl rfl ?_
  refine hp_gi (pc' := 46) (j := 4) (t := 0) ha rfl rfl rfl (by decide) rfl ?_
  refine hp_s (pc' := 47) (st' := [.int (M4.1 1 4), .ref 1, .int (M4.1 1 4)]) rfl ?_
  refine hp_ic (pc' := 48) (x := 1) rfl rfl rfl ?_
  refine hp_add (pc' := 49) rfl rfl (fun z5 hz5 => ?_)
  have yz5 : z5.toInt = (n : Int) + 1 := by rw [hz5, ax_add (by rw [one1]; omega) (by rw [one1]; omega), one1, sM4]
  refine hp_pf (pc' := 52) (j := 4) ha rfl rfl rfl rfl (fun M6 eM6 gM6 => ?_)
  have hM6 := wa_w (q := 1) (j := 4) (z := z5) 1 1 hM4 (by omega) (show (0 : Int) ≤ z5.toInt ∧ z5.toInt ≤ 12 by omega) (by decide) (by decide) (by decide) (by omega) (by omega) eM6 gM6
  refine hp_ri rfl rfl ?_
  exact ⟨_, M6, rfl, sM4, gM6.trans (gM4.trans (gM3.trans (gM2.trans (gM1)))), by rw [eM6, hp_up_ne (by omega), eM4, hp_up_ne (by omega), eM3, hp_up_ne (by omega), eM2, hp_up_ne (by omega), eM1, hp_up_eq], by rw [eM6, hp_up_ne (by omega), eM4, hp_up_ne (by omega), eM3, hp_up_ne (by omega), eM2, hp_up_eq], by rw [eM6, hp_up_ne (by omega), eM4, hp_up_ne (by omega), eM3, hp_up_eq], by rw [eM6, hp_up_eq]; exact yz5, hM6.1, fun q j h1 h2 => by rw [eM6, hp_up_ne (by omega), eM4, hp_up_ne (by omega), eM3, hp_up_ne (by omega), eM2, hp_up_ne (by omega), eM1, hp_up_ne (by omega)]⟩
theorem xf_ok (ha : a.1 = rx_cells) (hM : ei_I wa_W M a M a) (sM : (M.1 1 4).toInt = (n : Int)) (hn : n ≤ 12) : hp X (d + 1) 106 0 [some (.ref 0), some (.int x1), some (.int x2), some (.int x3)] [] a M (fk_Q 2 3 4 1 5 4 n x1 x2 x3 a M) := by
  have zz0 : (0 : Int32).toInt = 0 := rfl
  have zz5 : (5 : Int32).toInt = 5 := rfl
  have zz6 : (6 : Int32).toInt = 6 := rfl
  have zz12 : (12 : Int32).toInt = 12 := rfl
  have zz32 : (32 : Int32).toInt = 32 := rfl
  have zm1 : ((-1) : Int32).toInt = -1 := rfl
  have zm2 : ((-2) : Int32).toInt = -2 := rfl
  refine hp_il (pc' := 1) (j := 1) (Or.inr ⟨1, rfl, rfl, rfl⟩) rfl ?_
  refine hp_ic (pc' := 2) (x := 5) rfl rfl rfl ?_
  refine hp_cs (Q := fun o => ∃ r : Int32, o = (some (.int r), a, M) ∧ (r.toInt = 0 ∨ r.toInt = 1) ∧ (r.toInt ≠ 0 ↔ (0 ≤ (x1 : Int32).toInt ∧ (x1 : Int32).toInt < ((5 : Int32) : Int32).toInt))) (pc' := 5) (e := d) (vs := [.int x1, .int (5 : Int32)]) (r := []) rfl rfl (Or.inl rfl) rfl rfl rfl rfl rfl bl_ok (fun o ho => ?_)
  obtain ⟨r1, eo, qr1⟩ := ho
  subst eo
  refine ⟨_, rfl, ?_⟩
  show hp X (d + 1) 106 5 [some (.ref 0), some (.int x1), some (.int x2), some (.int x3)] [.int r1] a M _
  refine hp_zeq (t := 26) (pc' := 8) rfl rfl rfl (fun c2 => ?_) (fun c2 => ?_)
  · refine hp_ic (pc' := 27) (x := (-1)) rfl rfl rfl ?_
    refine hp_ri rfl rfl ?_
    exact ⟨_, M, rfl, by
      unfold fk_v
      repeat' split
      all_goals omega, Or.inl ⟨fun q => by
      unfold fk_ok at q
      omega, rfl⟩⟩
  · refine hp_il (pc' := 9) (j := 2) (Or.inr ⟨2, rfl, rfl, rfl⟩) rfl ?_
    refine hp_bi (pc' := 11) (x := 6) rfl rfl rfl ?_
    refine hp_cs (Q := fun o => ∃ r : Int32, o = (some (.int r), a, M) ∧ (r.toInt = 0 ∨ r.toInt = 1) ∧ (r.toInt ≠ 0 ↔ (0 ≤ (x2 : Int32).toInt ∧ (x2 : Int32).toInt < ((6 : Int32) : Int32).toInt))) (pc' := 14) (e := d) (vs := [.int x2, .int (6 : Int32)]) (r := []) rfl rfl (Or.inl rfl) rfl rfl rfl rfl rfl bl_ok (fun o ho => ?_)
    obtain ⟨r3, eo, qr3⟩ := ho
    subst eo
    refine ⟨_, rfl, ?_⟩
    show hp X (d + 1) 106 14 [some (.ref 0), some (.int x1), some (.int x2), some (.int x3)] [.int r3] a M _
    refine hp_zeq (t := 26) (pc' := 17) rfl rfl rfl (fun c4 => ?_) (fun c4 => ?_)
    · refine hp_ic (pc' := 27) (x := (-1)) rfl rfl rfl ?_
      refine hp_ri rfl rfl ?_
      exact ⟨_, M, rfl, by
        unfold fk_v
        repeat' split
        all_goals omega, Or.inl ⟨fun q => by
        unfold fk_ok at q
        omega, rfl⟩⟩
    · refine hp_il (pc' := 18) (j := 3) (Or.inr ⟨3, rfl, rfl, rfl⟩) rfl ?_
      refine hp_bi (pc' := 20) (x := 32) rfl rfl rfl ?_
      refine hp_cs (Q := fun o => ∃ r : Int32, o = (some (.int r), a, M) ∧ (r.toInt = 0 ∨ r.toInt = 1) ∧ (r.toInt ≠ 0 ↔ (0 ≤ (x3 : Int32).toInt ∧ (x3 : Int32).toInt < ((32 : Int32) : Int32).toInt))) (pc' := 23) (e := d) (vs := [.int x3, .int (32 : Int32)]) (r := []) rfl rfl (Or.inl rfl) rfl rfl rfl rfl rfl bl_ok (fun o ho => ?_)
      obtain ⟨r5, eo, qr5⟩ := ho
      subst eo
      refine ⟨_, rfl, ?_⟩
      show hp X (d + 1) 106 23 [some (.ref 0), some (.int x1), some (.int x2), some (.int x3)] [.int r5] a M _
      refine hp_zne (t := 28) (pc' := 26) rfl rfl rfl (fun c6 => ?_) (fun c6 => ?_)
      · refine hp_al (pc' := 29) (j := 0) (Or.inr ⟨0, rfl, rfl, rfl⟩) rfl ?_
        refine hp_gr (pc' := 32) ha (hM.1.2.1 0 0 1 rfl) rfl rfl rfl rfl ?_
        refine hp_gi (pc' := 35) (j := 4) (t := 0) ha rfl rfl rfl (by decide) rfl ?_
        refine hp_bi (pc' := 37) (x := 12) rfl rfl rfl ?_
        refine hp_ine (t := 45) (pc' := 40) rfl rfl rfl (fun c7 => ?_) (fun c7 => ?_)
        · refine hp_al (pc' := 46) (j := 0) (Or.inr ⟨0, rfl, rfl, rfl⟩) rfl ?_
          refine hp_gr (pc' := 49) ha (hM.1.2.1 0 0 1 rfl) rfl rfl rfl rfl ?_
          refine hp_il (pc' := 50) (j := 1) (Or.inr ⟨1, rfl, rfl, rfl⟩) rfl ?_
          refine hp_il (pc' := 51) (j := 2) (Or.inr ⟨2, rfl, rfl, rfl⟩) rfl ?_
          refine hp_il (pc' := 52) (j := 3) (Or.inr ⟨3, rfl, rfl, rfl⟩) rfl ?_
          refine hp_cx (q := 1) (Q := (fun o => ∃ (r : Int32) (M1 : rx_M), o = (some (.int r), a, M1) ∧ r.toInt = (n : Int) ∧ fk_F 2 3 4 1 5 4 n x1 x2 x3 M M1)) (pc' := 55) (e := d) (vs := [.int x1, .int x2, .int x3]) (r := []) ha rfl rfl rfl rfl rfl rfl rfl rfl (ad_ok ha hM sM (by omega) (by omega)) (fun o ho => ?_)
          obtain ⟨r9, M9, eo, q9, f9⟩ := ho
          subst eo
          refine ⟨_, rfl, ?_⟩
          show hp X (d + 1) 106 55 [some (.ref 0), some (.int x1), some (.int x2), some (.int x3)] [.int r9] a M9 _
          refine hp_ri rfl rfl ?_
          exact ⟨_, M9, rfl, by
            rw [q9]
            unfold fk_v
            repeat' split
            all_goals omega, Or.inr ⟨by
            unfold fk_ok
            omega, f9⟩⟩
        · refine hp_bi (pc' := 42) (x := (-2)) rfl rfl rfl ?_
          refine hp_go (t := 55) rfl rfl ?_
          refine hp_ri rfl rfl ?_
          exact ⟨_, M, rfl, by
            unfold fk_v
            repeat' split
            all_goals omega, Or.inl ⟨fun q => by
            unfold fk_ok at q
            omega, rfl⟩⟩
      · refine hp_ic (pc' := 27) (x := (-1)) rfl rfl rfl ?_
        refine hp_ri rfl rfl ?_
        exact ⟨_, M, rfl, by
          unfold fk_v
          repeat' split
          all_goals omega, Or.inl ⟨fun q => by
          unfold fk_ok at q
          omega, rfl⟩⟩
theorem mf_ok2 (ha : a.1 = rx_cells) (hM : ei_I wa_W M a M a) (sM : (M.1 244 1).toInt = (n : Int)) (hn : n ≤ 12) : hp X (d + 1) 160 0 [some (.ref 244), some (.int x1), some (.int x2), some (.int x3)] [] a M (fk_Q 245 246 247 244 245 1 n x1 x2 x3 a M) := by
  have one1 : (1 : Int32).toInt = 1 := rfl
  have zz0 : (0 : Int32).toInt = 0 := rfl
  have zz4 : (4 : Int32).toInt = 4 := rfl
  have zz5 : (5 : Int32).toInt = 5 := rfl
  have zz12 : (12 : Int32).toInt = 12 := rfl
  have zz31 : (31 : Int32).toInt = 31 := rfl
  have zm1 : ((-1) : Int32).toInt = -1 := rfl
  have zm2 : ((-2) : Int32).toInt = -2 := rfl
  refine hp_al (pc' := 1) (j := 0) (Or.inr ⟨0, rfl, rfl, rfl⟩) rfl ?_
  refine hp_il (pc' := 2) (j := 1) (Or.inr ⟨1, rfl, rfl, rfl⟩) rfl ?_
  refine hp_ic (pc' := 3) (x := 0) rfl rfl rfl ?_
  refine hp_ic (pc' := 4) (x := 4) rfl rfl rfl ?_
  refine hp_cv (Q := fun o => ∃ r : Int32, o = (some (.int r), a, M) ∧ (r.toInt = 0 ∨ r.toInt = 1) ∧ (r.toInt ≠ 0 ↔ (((0 : Int32) : Int32).toInt ≤ (x1 : Int32).toInt ∧ (x1 : Int32).toInt ≤ ((4 : Int32) : Int32).toInt))) (pc' := 7) (e := d) (vs := [.int x1, .int (0 : Int32), .int (4 : Int32)]) (r := []) ha rfl rfl rfl rfl rfl rfl rfl rfl in_ok (fun o ho => ?_)
  obtain ⟨r1, eo, qr1⟩ := ho
  subst eo
  refine ⟨_, rfl, ?_⟩
  show hp X (d + 1) 160 7 [some (.ref 244), some (.int x1), some (.int x2), some (.int x3)] [.int r1] a M _
  refine hp_zeq (t := 31) (pc' := 10) rfl rfl rfl (fun c2 => ?_) (fun c2 => ?_)
  · refine hp_ic (pc' := 32) (x := (-1)) rfl rfl rfl ?_
    refine hp_ri rfl rfl ?_
    exact ⟨_, M, rfl, by
      unfold fk_v
      repeat' split
      all_goals omega, Or.inl ⟨fun q => by
      unfold fk_ok at q
      omega, rfl⟩⟩
  · refine hp_al (pc' := 11) (j := 0) (Or.inr ⟨0, rfl, rfl, rfl⟩) rfl ?_
    refine hp_il (pc' := 12) (j := 2) (Or.inr ⟨2, rfl, rfl, rfl⟩) rfl ?_
    refine hp_ic (pc' := 13) (x := 0) rfl rfl rfl ?_
    refine hp_ic (pc' := 14) (x := 5) rfl rfl rfl ?_
    refine hp_cv (Q := fun o => ∃ r : Int32, o = (some (.int r), a, M) ∧ (r.toInt = 0 ∨ r.toInt = 1) ∧ (r.toInt ≠ 0 ↔ (((0 : Int32) : Int32).toInt ≤ (x2 : Int32).toInt ∧ (x2 : Int32).toInt ≤ ((5 : Int32) : Int32).toInt))) (pc' := 17) (e := d) (vs := [.int x2, .int (0 : Int32), .int (5 : Int32)]) (r := []) ha rfl rfl rfl rfl rfl rfl rfl rfl in_ok (fun o ho => ?_)
    obtain ⟨r3, eo, qr3⟩ := ho
    subst eo
    refine ⟨_, rfl, ?_⟩
    show hp X (d + 1) 160 17 [some (.ref 244), some (.int x1), some (.int x2), some (.int x3)] [.int r3] a M _
    refine hp_zeq (t := 31) (pc' := 20) rfl rfl rfl (fun c4 => ?_) (fun c4 => ?_)
    · refine hp_ic (pc' := 32) (x := (-1)) rfl rfl rfl ?_
      refine hp_ri rfl rfl ?_
      exact ⟨_, M, rfl, by
        unfold fk_v
        repeat' split
        all_goals omega, Or.inl ⟨fun q => by
        unfold fk_ok at q
        omega, rfl⟩⟩
    · refine hp_al (pc' := 21) (j := 0) (Or.inr ⟨0, rfl, rfl, rfl⟩) rfl ?_
      refine hp_il (pc' := 22) (j := 3) (Or.inr ⟨3, rfl, rfl, rfl⟩) rfl ?_
      refine hp_ic (pc' := 23) (x := 0) rfl rfl rfl ?_
      refine hp_bi (pc' := 25) (x := 31) rfl rfl rfl ?_
      refine hp_cv (Q := fun o => ∃ r : Int32, o = (some (.int r), a, M) ∧ (r.toInt = 0 ∨ r.toInt = 1) ∧ (r.toInt ≠ 0 ↔ (((0 : Int32) : Int32).toInt ≤ (x3 : Int32).toInt ∧ (x3 : Int32).toInt ≤ ((31 : Int32) : Int32).toInt))) (pc' := 28) (e := d) (vs := [.int x3, .int (0 : Int32), .int (31 : Int32)]) (r := []) ha rfl rfl rfl rfl rfl rfl rfl rfl in_ok (fun o ho => ?_)
      obtain ⟨r5, eo, qr5⟩ := ho
      subst eo
      refine ⟨_, rfl, ?_⟩
      show hp X (d + 1) 160 28 [some (.ref 244), some (.int x1), some (.int x2), some (.int x3)] [.int r5] a M _
      refine hp_zne (t := 33) (pc' := 31) rfl rfl rfl (fun c6 => ?_) (fun c6 => ?_)
      · refine hp_al (pc' := 34) (j := 0) (Or.inr ⟨0, rfl, rfl, rfl⟩) rfl ?_
        refine hp_gi (pc' := 37) (j := 1) (t := 0) ha rfl rfl rfl (by decide) rfl ?_
        refine hp_bi (pc' := 39) (x := 12) rfl rfl rfl ?_
        refine hp_ine (t := 45) (pc' := 42) rfl rfl rfl (fun c7 => ?_) (fun c7 => ?_)
        · refine hp_al (pc' := 46) (j := 0) (Or.inr ⟨0, rfl, rfl, rfl⟩) rfl ?_
          refine hp_gr (pc' := 49) ha (hM.1.2.1 244 3 245 rfl) rfl rfl rfl rfl ?_
          refine hp_al (pc' := 50) (j := 0) (Or.inr ⟨0, rfl, rfl, rfl⟩) rfl ?_
          refine hp_gi (pc' := 53) (j := 1) (t := 0) ha rfl rfl rfl (by decide) rfl ?_
          refine hp_il (pc' := 54) (j := 1) (Or.inr ⟨1, rfl, rfl, rfl⟩) rfl ?_
          refine hp_st (pc' := 55) (j := n) ha sM (by omega) rfl rfl rfl (fun M8 eM8 gM8 => ?_)
          have hM8 := wa_w (q := 245) (j := n) (z := x1) 245 245 hM (by omega) (show (0 : Int) ≤ (x1 : Int32).toInt ∧ (x1 : Int32).toInt ≤ 4 by first | decide | omega) (by decide) (by decide) (by decide) (by omega) (by omega) eM8 gM8
          have sM8 : (M8.1 244 1).toInt = (n : Int) := by
            rw [eM8, hp_up_ne (by omega)]
            exact sM
          refine hp_al (pc' := 56) (j := 0) (Or.inr ⟨0, rfl, rfl, rfl⟩) rfl ?_
          refine hp_gr (pc' := 59) ha (hM8.1.2.1 244 4 246 rfl) rfl rfl rfl rfl ?_
          refine hp_al (pc' := 60) (j := 0) (Or.inr ⟨0, rfl, rfl, rfl⟩) rfl ?_
          refine hp_gi (pc' := 63) (j := 1) (t := 0) ha rfl rfl rfl (by decide) rfl ?_
          refine hp_il (pc' := 64) (j := 2) (Or.inr ⟨2, rfl, rfl, rfl⟩) rfl ?_
          refine hp_st (pc' := 65) (j := n) ha sM8 (by omega) rfl rfl rfl (fun M9 eM9 gM9 => ?_)
          have hM9 := wa_w (q := 246) (j := n) (z := x2) 246 246 hM8 (by omega) (show (0 : Int) ≤ (x2 : Int32).toInt ∧ (x2 : Int32).toInt ≤ 5 by first | decide | omega) (by decide) (by decide) (by decide) (by omega) (by omega) eM9 gM9
          have sM9 : (M9.1 244 1).toInt = (n : Int) := by
            rw [eM9, hp_up_ne (by omega)]
            exact sM8
          refine hp_al (pc' := 66) (j := 0) (Or.inr ⟨0, rfl, rfl, rfl⟩) rfl ?_
          refine hp_gr (pc' := 69) ha (hM9.1.2.1 244 5 247 rfl) rfl rfl rfl rfl ?_
          refine hp_al (pc' := 70) (j := 0) (Or.inr ⟨0, rfl, rfl, rfl⟩) rfl ?_
          refine hp_gi (pc' := 73) (j := 1) (t := 0) ha rfl rfl rfl (by decide) rfl ?_
          refine hp_il (pc' := 74) (j := 3) (Or.inr ⟨3, rfl, rfl, rfl⟩) rfl ?_
          refine hp_st (pc' := 75) (j := n) ha sM9 (by omega) rfl rfl rfl (fun M10 eM10 gM10 => ?_)
          have hM10 := wa_w (q := 247) (j := n) (z := x3) 247 247 hM9 (by omega) (show (0 : Int) ≤ (x3 : Int32).toInt ∧ (x3 : Int32).toInt ≤ 31 by first | decide | omega) (by decide) (by decide) (by decide) (by omega) (by omega) eM10 gM10
          have sM10 : (M10.1 244 1).toInt = (n : Int) := by
            rw [eM10, hp_up_ne (by omega)]
            exact sM9
          refine hp_al (pc' := 76) (j := 0) (Or.inr ⟨0, rfl, rfl, rfl⟩) rfl ?_
          refine hp_dup (pc' := 77) rfl rfl rfl ?_
          refine hp_gi (pc' := 80) (j := 1) (t := 0) ha rfl rfl rfl (by decide) rfl ?_
          refine hp_ic (pc' := 81) (x := 1) rfl rfl rfl ?_
          refine hp_add (pc' := 82) rfl rfl (fun z11 hz11 => ?_)
          have yz11 : z11.toInt = (n : Int) + 1 := by rw [hz11, ax_add (by rw [one1]; omega) (by rw [one1]; omega), one1, sM10]
          refine hp_pf (pc' := 85) (j := 1) ha rfl rfl rfl rfl (fun M12 eM12 gM12 => ?_)
          have hM12 := wa_w (q := 244) (j := 1) (z := z11) 244 244 hM10 (by omega) (show (0 : Int) ≤ z11.toInt ∧ z11.toInt ≤ 12 by omega) (by decide) (by decide) (by decide) (by omega) (by omega) eM12 gM12
          refine hp_al (pc' := 86) (j := 0) (Or.inr ⟨0, rfl, rfl, rfl⟩) rfl ?_
          refine hp_gi (pc' := 89) (j := 1) (t := 0) ha rfl rfl rfl (by decide) rfl ?_
          refine hp_ic (pc' := 90) (x := 1) rfl rfl rfl ?_
          refine hp_sub (pc' := 91) rfl rfl (fun z13 hz13 => ?_)
          have wM12 : (M12.1 244 1).toInt = (n : Int) + 1 := by
            rw [eM12, hp_up_eq]
            exact yz11
          have yz13 : z13.toInt = (n : Int) := by
            rw [hz13, ax_sub (by rw [one1]; omega) (by rw [one1]; omega), one1, wM12]
            omega
          refine hp_ri rfl rfl ?_
          exact ⟨_, M12, rfl, by
            rw [yz13]
            unfold fk_v
            repeat' split
            all_goals omega, Or.inr ⟨by
            unfold fk_ok
            omega, gM12.trans (gM10.trans (gM9.trans (gM8))), by rw [eM12, hp_up_ne (by omega), eM10, hp_up_ne (by omega), eM9, hp_up_ne (by omega), eM8, hp_up_eq], by rw [eM12, hp_up_ne (by omega), eM10, hp_up_ne (by omega), eM9, hp_up_eq], by rw [eM12, hp_up_ne (by omega), eM10, hp_up_eq], wM12, hM12.1, fun q j h1 h2 => by rw [eM12, hp_up_ne (by omega), eM10, hp_up_ne (by omega), eM9, hp_up_ne (by omega), eM8, hp_up_ne (by omega)]⟩⟩
        · refine hp_bi (pc' := 44) (x := (-2)) rfl rfl rfl ?_
          refine hp_ri rfl rfl ?_
          exact ⟨_, M, rfl, by
            unfold fk_v
            repeat' split
            all_goals omega, Or.inl ⟨fun q => by
            unfold fk_ok at q
            omega, rfl⟩⟩
      · refine hp_ic (pc' := 32) (x := (-1)) rfl rfl rfl ?_
        refine hp_ri rfl rfl ?_
        exact ⟨_, M, rfl, by
          unfold fk_v
          repeat' split
          all_goals omega, Or.inl ⟨fun q => by
          unfold fk_ok at q
          omega, rfl⟩⟩
end FK
