/-! weight, of both sides, by hand -/
noncomputable def wt_h (k : Int) : Int := if k = 1 ∨ k = 4 then 5 else if k = 2 then 12 else if k = 3 then 7 else 10
noncomputable def wt_w (k : Int) : Int := if k = 1 then 7 else if k = 2 then 15 else if k = 4 then 12 else 10
noncomputable def wt_n (k p s : Int) : Int := 100 + wt_h k + wt_w k + (if k = 1 then 5 else if k = 2 then s else if 3 ≤ k then 10 * p else 0)
noncomputable def wt_v (k p s : Int) : Int := if k = 4 then 2 * wt_n k p s else wt_n k p s
theorem wt_5 {x : Int32} (h : 0 ≤ x.toInt ∧ x.toInt ≤ 4) : x = 0 ∨ x = 1 ∨ x = 2 ∨ x = 3 ∨ x = 4 := by
  have h5 : x.toInt = (0 : Int32).toInt ∨ x.toInt = (1 : Int32).toInt ∨ x.toInt = (2 : Int32).toInt ∨ x.toInt = (3 : Int32).toInt ∨ x.toInt = (4 : Int32).toInt := by
    have z0 : (0 : Int32).toInt = 0 := rfl
    have z1 : (1 : Int32).toInt = 1 := rfl
    have z2 : (2 : Int32).toInt = 2 := rfl
    have z3 : (3 : Int32).toInt = 3 := rfl
    have z4 : (4 : Int32).toInt = 4 := rfl
    omega
  rcases h5 with h | h | h | h | h
  · exact Or.inl (Int32.toInt_inj.mp h)
  · exact Or.inr (Or.inl (Int32.toInt_inj.mp h))
  · exact Or.inr (Or.inr (Or.inl (Int32.toInt_inj.mp h)))
  · exact Or.inr (Or.inr (Or.inr (Or.inl (Int32.toInt_inj.mp h))))
  · exact Or.inr (Or.inr (Or.inr (Or.inr (Int32.toInt_inj.mp h))))
theorem wt_10 {x z : Int32} (h : 0 ≤ x.toInt ∧ x.toInt ≤ 5) (hz : z = 10 * x) : z.toInt = 10 * x.toInt := by
  have e : (10 : Int32).toInt = 10 := rfl
  rw [hz, ax_mul (by rw [e]; omega) (by rw [e]; omega), e]
theorem wt_2 {x z : Int32} (h : 0 ≤ x.toInt ∧ x.toInt ≤ 1000) (hz : z = 2 * x) : z.toInt = 2 * x.toInt := by
  have e : (2 : Int32).toInt = 2 := rfl
  rw [hz, ax_mul (by rw [e]; omega) (by rw [e]; omega), e]
theorem wt_a {x y z : Int32} (hx : 0 ≤ x.toInt ∧ x.toInt ≤ 1000) (hy : 0 ≤ y.toInt ∧ y.toInt ≤ 1000) (hz : z = x + y) : z.toInt = x.toInt + y.toInt := by
  rw [hz, ax_add (by omega) (by omega)]
section WT
variable {X : Nat × (Nat → Int32)} {d f D : Nat} {a : rx_K} {M : rx_M} {P : rx_O → Prop} {x1 x2 x3 : Int32}
theorem xh_ok (ha : a.1 = rx_cells) (hJ : ax_J0 ax_sp ax_rf M) (h1 : x1.toInt = (f : Int)) (hf : f < 12) : hp X d 48 0 [some (.ref 1), some (.int x1)] [] a M (fun o => ∃ r : Int32, o = (some (.int r), a, M) ∧ r.toInt = wt_h (M.1 2 f).toInt) := by
  rcases wt_5 (hJ.1 2 f) with hk | hk | hk | hk | hk
  · refine hp_al (pc' := 1) (j := 0) (Or.inr ⟨0, rfl, rfl, rfl⟩) rfl ?_
    refine hp_gr (pc' := 4) ha (hJ.2.1 1 0 2 rfl) rfl rfl rfl rfl ?_
    refine hp_il (pc' := 5) (j := 1) (Or.inr ⟨1, rfl, rfl, rfl⟩) rfl ?_
    refine hp_ld (pc' := 6) (j := f) ha h1 (by omega) rfl rfl rfl ?_
    rw [hk]
    refine hp_s (pc' := 46) (st' := []) rfl ?_
    refine hp_bi (pc' := 48) (x := 10) rfl rfl rfl ?_
    refine hp_ri rfl rfl ?_
    exact ⟨_, rfl, rfl⟩
  · refine hp_al (pc' := 1) (j := 0) (Or.inr ⟨0, rfl, rfl, rfl⟩) rfl ?_
    refine hp_gr (pc' := 4) ha (hJ.2.1 1 0 2 rfl) rfl rfl rfl rfl ?_
    refine hp_il (pc' := 5) (j := 1) (Or.inr ⟨1, rfl, rfl, rfl⟩) rfl ?_
    refine hp_ld (pc' := 6) (j := f) ha h1 (by omega) rfl rfl rfl ?_
    rw [hk]
    refine hp_s (pc' := 36) (st' := []) rfl ?_
    refine hp_ic (pc' := 37) (x := 5) rfl rfl rfl ?_
    refine hp_ri rfl rfl ?_
    exact ⟨_, rfl, rfl⟩
  · refine hp_al (pc' := 1) (j := 0) (Or.inr ⟨0, rfl, rfl, rfl⟩) rfl ?_
    refine hp_gr (pc' := 4) ha (hJ.2.1 1 0 2 rfl) rfl rfl rfl rfl ?_
    refine hp_il (pc' := 5) (j := 1) (Or.inr ⟨1, rfl, rfl, rfl⟩) rfl ?_
    refine hp_ld (pc' := 6) (j := f) ha h1 (by omega) rfl rfl rfl ?_
    rw [hk]
    refine hp_s (pc' := 38) (st' := []) rfl ?_
    refine hp_bi (pc' := 40) (x := 12) rfl rfl rfl ?_
    refine hp_ri rfl rfl ?_
    exact ⟨_, rfl, rfl⟩
  · refine hp_al (pc' := 1) (j := 0) (Or.inr ⟨0, rfl, rfl, rfl⟩) rfl ?_
    refine hp_gr (pc' := 4) ha (hJ.2.1 1 0 2 rfl) rfl rfl rfl rfl ?_
    refine hp_il (pc' := 5) (j := 1) (Or.inr ⟨1, rfl, rfl, rfl⟩) rfl ?_
    refine hp_ld (pc' := 6) (j := f) ha h1 (by omega) rfl rfl rfl ?_
    rw [hk]
    refine hp_s (pc' := 41) (st' := []) rfl ?_
    refine hp_bi (pc' := 43) (x := 7) rfl rfl rfl ?_
    refine hp_ri rfl rfl ?_
    exact ⟨_, rfl, rfl⟩
  · refine hp_al (pc' := 1) (j := 0) (Or.inr ⟨0, rfl, rfl, rfl⟩) rfl ?_
    refine hp_gr (pc' := 4) ha (hJ.2.1 1 0 2 rfl) rfl rfl rfl rfl ?_
    refine hp_il (pc' := 5) (j := 1) (Or.inr ⟨1, rfl, rfl, rfl⟩) rfl ?_
    refine hp_ld (pc' := 6) (j := f) ha h1 (by omega) rfl rfl rfl ?_
    rw [hk]
    refine hp_s (pc' := 44) (st' := []) rfl ?_
    refine hp_ic (pc' := 45) (x := 5) rfl rfl rfl ?_
    refine hp_ri rfl rfl ?_
    exact ⟨_, rfl, rfl⟩

theorem xw_ok (ha : a.1 = rx_cells) (hJ : ax_J0 ax_sp ax_rf M) (h1 : x1.toInt = (f : Int)) (hf : f < 12) : hp X d 49 0 [some (.ref 1), some (.int x1)] [] a M (fun o => ∃ r : Int32, o = (some (.int r), a, M) ∧ r.toInt = wt_w (M.1 2 f).toInt) := by
  rcases wt_5 (hJ.1 2 f) with hk | hk | hk | hk | hk
  · refine hp_al (pc' := 1) (j := 0) (Or.inr ⟨0, rfl, rfl, rfl⟩) rfl ?_
    refine hp_gr (pc' := 4) ha (hJ.2.1 1 0 2 rfl) rfl rfl rfl rfl ?_
    refine hp_il (pc' := 5) (j := 1) (Or.inr ⟨1, rfl, rfl, rfl⟩) rfl ?_
    refine hp_ld (pc' := 6) (j := f) ha h1 (by omega) rfl rfl rfl ?_
    rw [hk]
    refine hp_s (pc' := 48) (st' := []) rfl ?_
    refine hp_bi (pc' := 50) (x := 10) rfl rfl rfl ?_
    refine hp_ri rfl rfl ?_
    exact ⟨_, rfl, rfl⟩
  · refine hp_al (pc' := 1) (j := 0) (Or.inr ⟨0, rfl, rfl, rfl⟩) rfl ?_
    refine hp_gr (pc' := 4) ha (hJ.2.1 1 0 2 rfl) rfl rfl rfl rfl ?_
    refine hp_il (pc' := 5) (j := 1) (Or.inr ⟨1, rfl, rfl, rfl⟩) rfl ?_
    refine hp_ld (pc' := 6) (j := f) ha h1 (by omega) rfl rfl rfl ?_
    rw [hk]
    refine hp_s (pc' := 36) (st' := []) rfl ?_
    refine hp_bi (pc' := 38) (x := 7) rfl rfl rfl ?_
    refine hp_ri rfl rfl ?_
    exact ⟨_, rfl, rfl⟩
  · refine hp_al (pc' := 1) (j := 0) (Or.inr ⟨0, rfl, rfl, rfl⟩) rfl ?_
    refine hp_gr (pc' := 4) ha (hJ.2.1 1 0 2 rfl) rfl rfl rfl rfl ?_
    refine hp_il (pc' := 5) (j := 1) (Or.inr ⟨1, rfl, rfl, rfl⟩) rfl ?_
    refine hp_ld (pc' := 6) (j := f) ha h1 (by omega) rfl rfl rfl ?_
    rw [hk]
    refine hp_s (pc' := 39) (st' := []) rfl ?_
    refine hp_bi (pc' := 41) (x := 15) rfl rfl rfl ?_
    refine hp_ri rfl rfl ?_
    exact ⟨_, rfl, rfl⟩
  · refine hp_al (pc' := 1) (j := 0) (Or.inr ⟨0, rfl, rfl, rfl⟩) rfl ?_
    refine hp_gr (pc' := 4) ha (hJ.2.1 1 0 2 rfl) rfl rfl rfl rfl ?_
    refine hp_il (pc' := 5) (j := 1) (Or.inr ⟨1, rfl, rfl, rfl⟩) rfl ?_
    refine hp_ld (pc' := 6) (j := f) ha h1 (by omega) rfl rfl rfl ?_
    rw [hk]
    refine hp_s (pc' := 42) (st' := []) rfl ?_
    refine hp_bi (pc' := 44) (x := 10) rfl rfl rfl ?_
    refine hp_ri rfl rfl ?_
    exact ⟨_, rfl, rfl⟩
  · refine hp_al (pc' := 1) (j := 0) (Or.inr ⟨0, rfl, rfl, rfl⟩) rfl ?_
    refine hp_gr (pc' := 4) ha (hJ.2.1 1 0 2 rfl) rfl rfl rfl rfl ?_
    refine hp_il (pc' := 5) (j := 1) (Or.inr ⟨1, rfl, rfl, rfl⟩) rfl ?_
    refine hp_ld (pc' := 6) (j := f) ha h1 (by omega) rfl rfl rfl ?_
    rw [hk]
    refine hp_s (pc' := 45) (st' := []) rfl ?_
    refine hp_bi (pc' := 47) (x := 12) rfl rfl rfl ?_
    refine hp_ri rfl rfl ?_
    exact ⟨_, rfl, rfl⟩

theorem mh_ok : hp X d 158 0 [some (.ref 244), some (.int x1)] [] a M (fun o => ∃ r : Int32, o = (some (.int r), a, M) ∧ r.toInt = wt_h x1.toInt) := by
  have zz1 : (1 : Int32).toInt = 1 := rfl
  have zz2 : (2 : Int32).toInt = 2 := rfl
  have zz3 : (3 : Int32).toInt = 3 := rfl
  have zz4 : (4 : Int32).toInt = 4 := rfl
  have zz5 : (5 : Int32).toInt = 5 := rfl
  have zz7 : (7 : Int32).toInt = 7 := rfl
  have zz10 : (10 : Int32).toInt = 10 := rfl
  have zz12 : (12 : Int32).toInt = 12 := rfl
  have zz15 : (15 : Int32).toInt = 15 := rfl
  refine hp_il (pc' := 1) (j := 1) (Or.inr ⟨1, rfl, rfl, rfl⟩) rfl ?_
  refine hp_ic (pc' := 2) (x := 1) rfl rfl rfl ?_
  refine hp_ieq (t := 10) (pc' := 5) rfl rfl rfl (fun c1 => ?_) (fun c1 => ?_)
  · refine hp_ic (pc' := 11) (x := 5) rfl rfl rfl ?_
    refine hp_go (t := 36) rfl rfl ?_
    refine hp_ri rfl rfl ?_
    exact ⟨_, rfl, by
      unfold wt_h
      repeat' split
      all_goals omega⟩
  · refine hp_il (pc' := 6) (j := 1) (Or.inr ⟨1, rfl, rfl, rfl⟩) rfl ?_
    refine hp_ic (pc' := 7) (x := 4) rfl rfl rfl ?_
    refine hp_ine (t := 14) (pc' := 10) rfl rfl rfl (fun c2 => ?_) (fun c2 => ?_)
    · refine hp_il (pc' := 15) (j := 1) (Or.inr ⟨1, rfl, rfl, rfl⟩) rfl ?_
      refine hp_ic (pc' := 16) (x := 2) rfl rfl rfl ?_
      refine hp_ine (t := 24) (pc' := 19) rfl rfl rfl (fun c3 => ?_) (fun c3 => ?_)
      · refine hp_il (pc' := 25) (j := 1) (Or.inr ⟨1, rfl, rfl, rfl⟩) rfl ?_
        refine hp_ic (pc' := 26) (x := 3) rfl rfl rfl ?_
        refine hp_ine (t := 34) (pc' := 29) rfl rfl rfl (fun c4 => ?_) (fun c4 => ?_)
        · refine hp_bi (pc' := 36) (x := 10) rfl rfl rfl ?_
          refine hp_ri rfl rfl ?_
          exact ⟨_, rfl, by
            unfold wt_h
            repeat' split
            all_goals omega⟩
        · refine hp_bi (pc' := 31) (x := 7) rfl rfl rfl ?_
          refine hp_go (t := 36) rfl rfl ?_
          refine hp_ri rfl rfl ?_
          exact ⟨_, rfl, by
            unfold wt_h
            repeat' split
            all_goals omega⟩
      · refine hp_bi (pc' := 21) (x := 12) rfl rfl rfl ?_
        refine hp_go (t := 36) rfl rfl ?_
        refine hp_ri rfl rfl ?_
        exact ⟨_, rfl, by
          unfold wt_h
          repeat' split
          all_goals omega⟩
    · refine hp_ic (pc' := 11) (x := 5) rfl rfl rfl ?_
      refine hp_go (t := 36) rfl rfl ?_
      refine hp_ri rfl rfl ?_
      exact ⟨_, rfl, by
        unfold wt_h
        repeat' split
        all_goals omega⟩
theorem mw_ok : hp X d 159 0 [some (.ref 244), some (.int x1)] [] a M (fun o => ∃ r : Int32, o = (some (.int r), a, M) ∧ r.toInt = wt_w x1.toInt) := by
  have zz1 : (1 : Int32).toInt = 1 := rfl
  have zz2 : (2 : Int32).toInt = 2 := rfl
  have zz3 : (3 : Int32).toInt = 3 := rfl
  have zz4 : (4 : Int32).toInt = 4 := rfl
  have zz5 : (5 : Int32).toInt = 5 := rfl
  have zz7 : (7 : Int32).toInt = 7 := rfl
  have zz10 : (10 : Int32).toInt = 10 := rfl
  have zz12 : (12 : Int32).toInt = 12 := rfl
  have zz15 : (15 : Int32).toInt = 15 := rfl
  refine hp_il (pc' := 1) (j := 1) (Or.inr ⟨1, rfl, rfl, rfl⟩) rfl ?_
  refine hp_ic (pc' := 2) (x := 1) rfl rfl rfl ?_
  refine hp_ine (t := 10) (pc' := 5) rfl rfl rfl (fun c1 => ?_) (fun c1 => ?_)
  · refine hp_il (pc' := 11) (j := 1) (Or.inr ⟨1, rfl, rfl, rfl⟩) rfl ?_
    refine hp_ic (pc' := 12) (x := 2) rfl rfl rfl ?_
    refine hp_ine (t := 20) (pc' := 15) rfl rfl rfl (fun c2 => ?_) (fun c2 => ?_)
    · refine hp_il (pc' := 21) (j := 1) (Or.inr ⟨1, rfl, rfl, rfl⟩) rfl ?_
      refine hp_ic (pc' := 22) (x := 4) rfl rfl rfl ?_
      refine hp_ine (t := 30) (pc' := 25) rfl rfl rfl (fun c3 => ?_) (fun c3 => ?_)
      · refine hp_bi (pc' := 32) (x := 10) rfl rfl rfl ?_
        refine hp_ri rfl rfl ?_
        exact ⟨_, rfl, by
          unfold wt_w
          repeat' split
          all_goals omega⟩
      · refine hp_bi (pc' := 27) (x := 12) rfl rfl rfl ?_
        refine hp_go (t := 32) rfl rfl ?_
        refine hp_ri rfl rfl ?_
        exact ⟨_, rfl, by
          unfold wt_w
          repeat' split
          all_goals omega⟩
    · refine hp_bi (pc' := 17) (x := 15) rfl rfl rfl ?_
      refine hp_go (t := 32) rfl rfl ?_
      refine hp_ri rfl rfl ?_
      exact ⟨_, rfl, by
        unfold wt_w
        repeat' split
        all_goals omega⟩
  · refine hp_bi (pc' := 7) (x := 7) rfl rfl rfl ?_
    refine hp_go (t := 32) rfl rfl ?_
    refine hp_ri rfl rfl ?_
    exact ⟨_, rfl, by
      unfold wt_w
      repeat' split
      all_goals omega⟩
theorem xwo_ok (ha : a.1 = rx_cells) (hJ : ax_J0 ax_sp ax_rf M) (h1 : x1.toInt = (f : Int)) (hf : f < 12) : hp X (d + 1) 50 0 [some (.ref 1), some (.int x1), none] [] a M (fun o => ∃ r : Int32, o = (some (.int r), a, M) ∧ r.toInt = wt_v (M.1 2 f).toInt (M.1 3 f).toInt (M.1 4 f).toInt) := by
  have bp : 0 ≤ (M.1 3 f).toInt ∧ (M.1 3 f).toInt ≤ 5 := hJ.1 3 f
  have bs : 0 ≤ (M.1 4 f).toInt ∧ (M.1 4 f).toInt ≤ 31 := hJ.1 4 f
  have zz0 : (0 : Int32).toInt = 0 := rfl
  have zz1 : (1 : Int32).toInt = 1 := rfl
  have zz2 : (2 : Int32).toInt = 2 := rfl
  have zz3 : (3 : Int32).toInt = 3 := rfl
  have zz4 : (4 : Int32).toInt = 4 := rfl
  have zz5 : (5 : Int32).toInt = 5 := rfl
  have zz10 : (10 : Int32).toInt = 10 := rfl
  have zz100 : (100 : Int32).toInt = 100 := rfl
  rcases wt_5 (hJ.1 2 f) with hk | hk | hk | hk | hk
  · refine hp_bi (pc' := 2) (x := 100) rfl rfl rfl ?_
    refine hp_al (pc' := 3) (j := 0) (Or.inr ⟨0, rfl, rfl, rfl⟩) rfl ?_
    refine hp_il (pc' := 4) (j := 1) (Or.inr ⟨1, rfl, rfl, rfl⟩) rfl ?_
    refine hp_cx (q := 1) (Q := fun o => ∃ r : Int32, o = (some (.int r), a, M) ∧ r.toInt = wt_h (M.1 2 f).toInt) (pc' := 7) (e := d) (vs := [.int x1]) (r := [.int (100 : Int32)]) ha rfl rfl rfl rfl rfl rfl rfl rfl (xh_ok ha hJ h1 hf) (fun o ho => ?_)
    obtain ⟨r1, eo, qr1⟩ := ho
    subst eo
    refine ⟨_, rfl, ?_⟩
    show hp X (d + 1) 50 7 [some (.ref 1), some (.int x1), none] [.int r1, .int (100 : Int32)] a M _
    refine hp_add (pc' := 8) rfl rfl (fun z2 hz2 => ?_)
    have e1 : r1.toInt = 10 := by
      rw [qr1, hk]
      rfl
    have yz2 := wt_a (x := 100) (y := r1) (by omega) (by omega) hz2
    refine hp_al (pc' := 9) (j := 0) (Or.inr ⟨0, rfl, rfl, rfl⟩) rfl ?_
    refine hp_il (pc' := 10) (j := 1) (Or.inr ⟨1, rfl, rfl, rfl⟩) rfl ?_
    refine hp_cx (q := 1) (Q := fun o => ∃ r : Int32, o = (some (.int r), a, M) ∧ r.toInt = wt_w (M.1 2 f).toInt) (pc' := 13) (e := d) (vs := [.int x1]) (r := [.int z2]) ha rfl rfl rfl rfl rfl rfl rfl rfl (xw_ok ha hJ h1 hf) (fun o ho => ?_)
    obtain ⟨r3, eo, qr3⟩ := ho
    subst eo
    refine ⟨_, rfl, ?_⟩
    show hp X (d + 1) 50 13 [some (.ref 1), some (.int x1), none] [.int r3, .int z2] a M _
    refine hp_add (pc' := 14) rfl rfl (fun z4 hz4 => ?_)
    have e2 : r3.toInt = 10 := by
      rw [qr3, hk]
      rfl
    have yz4 := wt_a (x := z2) (y := r3) (by omega) (by omega) hz4
    refine hp_is (pc' := 15) (j := 2) (ls' := [some (.ref 1), some (.int x1), some (.int z4)]) (Or.inr ⟨2, rfl, rfl, rfl⟩) (by simp) rfl ?_
    refine hp_al (pc' := 16) (j := 0) (Or.inr ⟨0, rfl, rfl, rfl⟩) rfl ?_
    refine hp_gr (pc' := 19) ha (hJ.2.1 1 0 2 rfl) rfl rfl rfl rfl ?_
    refine hp_il (pc' := 20) (j := 1) (Or.inr ⟨1, rfl, rfl, rfl⟩) rfl ?_
    refine hp_ld (pc' := 21) (j := f) ha h1 (by omega) rfl rfl rfl ?_
    rw [hk]
    refine hp_s (pc' := 91) (st' := []) rfl ?_
    refine hp_il (pc' := 92) (j := 2) (Or.inr ⟨2, rfl, rfl, rfl⟩) rfl ?_
    refine hp_ri rfl rfl ?_
    exact ⟨_, rfl, by
      unfold wt_v wt_n wt_h wt_w
      repeat' split
      all_goals omega⟩
  · refine hp_bi (pc' := 2) (x := 100) rfl rfl rfl ?_
    refine hp_al (pc' := 3) (j := 0) (Or.inr ⟨0, rfl, rfl, rfl⟩) rfl ?_
    refine hp_il (pc' := 4) (j := 1) (Or.inr ⟨1, rfl, rfl, rfl⟩) rfl ?_
    refine hp_cx (q := 1) (Q := fun o => ∃ r : Int32, o = (some (.int r), a, M) ∧ r.toInt = wt_h (M.1 2 f).toInt) (pc' := 7) (e := d) (vs := [.int x1]) (r := [.int (100 : Int32)]) ha rfl rfl rfl rfl rfl rfl rfl rfl (xh_ok ha hJ h1 hf) (fun o ho => ?_)
    obtain ⟨r1, eo, qr1⟩ := ho
    subst eo
    refine ⟨_, rfl, ?_⟩
    show hp X (d + 1) 50 7 [some (.ref 1), some (.int x1), none] [.int r1, .int (100 : Int32)] a M _
    refine hp_add (pc' := 8) rfl rfl (fun z2 hz2 => ?_)
    have e1 : r1.toInt = 5 := by
      rw [qr1, hk]
      rfl
    have yz2 := wt_a (x := 100) (y := r1) (by omega) (by omega) hz2
    refine hp_al (pc' := 9) (j := 0) (Or.inr ⟨0, rfl, rfl, rfl⟩) rfl ?_
    refine hp_il (pc' := 10) (j := 1) (Or.inr ⟨1, rfl, rfl, rfl⟩) rfl ?_
    refine hp_cx (q := 1) (Q := fun o => ∃ r : Int32, o = (some (.int r), a, M) ∧ r.toInt = wt_w (M.1 2 f).toInt) (pc' := 13) (e := d) (vs := [.int x1]) (r := [.int z2]) ha rfl rfl rfl rfl rfl rfl rfl rfl (xw_ok ha hJ h1 hf) (fun o ho => ?_)
    obtain ⟨r3, eo, qr3⟩ := ho
    subst eo
    refine ⟨_, rfl, ?_⟩
    show hp X (d + 1) 50 13 [some (.ref 1), some (.int x1), none] [.int r3, .int z2] a M _
    refine hp_add (pc' := 14) rfl rfl (fun z4 hz4 => ?_)
    have e2 : r3.toInt = 7 := by
      rw [qr3, hk]
      rfl
    have yz4 := wt_a (x := z2) (y := r3) (by omega) (by omega) hz4
    refine hp_is (pc' := 15) (j := 2) (ls' := [some (.ref 1), some (.int x1), some (.int z4)]) (Or.inr ⟨2, rfl, rfl, rfl⟩) (by simp) rfl ?_
    refine hp_al (pc' := 16) (j := 0) (Or.inr ⟨0, rfl, rfl, rfl⟩) rfl ?_
    refine hp_gr (pc' := 19) ha (hJ.2.1 1 0 2 rfl) rfl rfl rfl rfl ?_
    refine hp_il (pc' := 20) (j := 1) (Or.inr ⟨1, rfl, rfl, rfl⟩) rfl ?_
    refine hp_ld (pc' := 21) (j := f) ha h1 (by omega) rfl rfl rfl ?_
    rw [hk]
    refine hp_s (pc' := 52) (st' := []) rfl ?_
    refine hp_il (pc' := 53) (j := 2) (Or.inr ⟨2, rfl, rfl, rfl⟩) rfl ?_
    refine hp_ic (pc' := 54) (x := 5) rfl rfl rfl ?_
    refine hp_add (pc' := 55) rfl rfl (fun z5 hz5 => ?_)
    have yz5 := wt_a (x := z4) (y := 5) (by omega) (by omega) hz5
    refine hp_ri rfl rfl ?_
    exact ⟨_, rfl, by
      unfold wt_v wt_n wt_h wt_w
      repeat' split
      all_goals omega⟩
  · refine hp_bi (pc' := 2) (x := 100) rfl rfl rfl ?_
    refine hp_al (pc' := 3) (j := 0) (Or.inr ⟨0, rfl, rfl, rfl⟩) rfl ?_
    refine hp_il (pc' := 4) (j := 1) (Or.inr ⟨1, rfl, rfl, rfl⟩) rfl ?_
    refine hp_cx (q := 1) (Q := fun o => ∃ r : Int32, o = (some (.int r), a, M) ∧ r.toInt = wt_h (M.1 2 f).toInt) (pc' := 7) (e := d) (vs := [.int x1]) (r := [.int (100 : Int32)]) ha rfl rfl rfl rfl rfl rfl rfl rfl (xh_ok ha hJ h1 hf) (fun o ho => ?_)
    obtain ⟨r1, eo, qr1⟩ := ho
    subst eo
    refine ⟨_, rfl, ?_⟩
    show hp X (d + 1) 50 7 [some (.ref 1), some (.int x1), none] [.int r1, .int (100 : Int32)] a M _
    refine hp_add (pc' := 8) rfl rfl (fun z2 hz2 => ?_)
    have e1 : r1.toInt = 12 := by
      rw [qr1, hk]
      rfl
    have yz2 := wt_a (x := 100) (y := r1) (by omega) (by omega) hz2
    refine hp_al (pc' := 9) (j := 0) (Or.inr ⟨0, rfl, rfl, rfl⟩) rfl ?_
    refine hp_il (pc' := 10) (j := 1) (Or.inr ⟨1, rfl, rfl, rfl⟩) rfl ?_
    refine hp_cx (q := 1) (Q := fun o => ∃ r : Int32, o = (some (.int r), a, M) ∧ r.toInt = wt_w (M.1 2 f).toInt) (pc' := 13) (e := d) (vs := [.int x1]) (r := [.int z2]) ha rfl rfl rfl rfl rfl rfl rfl rfl (xw_ok ha hJ h1 hf) (fun o ho => ?_)
    obtain ⟨r3, eo, qr3⟩ := ho
    subst eo
    refine ⟨_, rfl, ?_⟩
    show hp X (d + 1) 50 13 [some (.ref 1), some (.int x1), none] [.int r3, .int z2] a M _
    refine hp_add (pc' := 14) rfl rfl (fun z4 hz4 => ?_)
    have e2 : r3.toInt = 15 := by
      rw [qr3, hk]
      rfl
    have yz4 := wt_a (x := z2) (y := r3) (by omega) (by omega) hz4
    refine hp_is (pc' := 15) (j := 2) (ls' := [some (.ref 1), some (.int x1), some (.int z4)]) (Or.inr ⟨2, rfl, rfl, rfl⟩) (by simp) rfl ?_
    refine hp_al (pc' := 16) (j := 0) (Or.inr ⟨0, rfl, rfl, rfl⟩) rfl ?_
    refine hp_gr (pc' := 19) ha (hJ.2.1 1 0 2 rfl) rfl rfl rfl rfl ?_
    refine hp_il (pc' := 20) (j := 1) (Or.inr ⟨1, rfl, rfl, rfl⟩) rfl ?_
    refine hp_ld (pc' := 21) (j := f) ha h1 (by omega) rfl rfl rfl ?_
    rw [hk]
    refine hp_s (pc' := 56) (st' := []) rfl ?_
    refine hp_il (pc' := 57) (j := 2) (Or.inr ⟨2, rfl, rfl, rfl⟩) rfl ?_
    refine hp_al (pc' := 58) (j := 0) (Or.inr ⟨0, rfl, rfl, rfl⟩) rfl ?_
    refine hp_gr (pc' := 61) ha (hJ.2.1 1 2 4 rfl) rfl rfl rfl rfl ?_
    refine hp_il (pc' := 62) (j := 1) (Or.inr ⟨1, rfl, rfl, rfl⟩) rfl ?_
    refine hp_ld (pc' := 63) (j := f) ha h1 (by omega) rfl rfl rfl ?_
    refine hp_add (pc' := 64) rfl rfl (fun z5 hz5 => ?_)
    have yz5 := wt_a (x := z4) (y := M.1 4 f) (by omega) (by omega) hz5
    refine hp_ri rfl rfl ?_
    exact ⟨_, rfl, by
      unfold wt_v wt_n wt_h wt_w
      repeat' split
      all_goals omega⟩
  · refine hp_bi (pc' := 2) (x := 100) rfl rfl rfl ?_
    refine hp_al (pc' := 3) (j := 0) (Or.inr ⟨0, rfl, rfl, rfl⟩) rfl ?_
    refine hp_il (pc' := 4) (j := 1) (Or.inr ⟨1, rfl, rfl, rfl⟩) rfl ?_
    refine hp_cx (q := 1) (Q := fun o => ∃ r : Int32, o = (some (.int r), a, M) ∧ r.toInt = wt_h (M.1 2 f).toInt) (pc' := 7) (e := d) (vs := [.int x1]) (r := [.int (100 : Int32)]) ha rfl rfl rfl rfl rfl rfl rfl rfl (xh_ok ha hJ h1 hf) (fun o ho => ?_)
    obtain ⟨r1, eo, qr1⟩ := ho
    subst eo
    refine ⟨_, rfl, ?_⟩
    show hp X (d + 1) 50 7 [some (.ref 1), some (.int x1), none] [.int r1, .int (100 : Int32)] a M _
    refine hp_add (pc' := 8) rfl rfl (fun z2 hz2 => ?_)
    have e1 : r1.toInt = 7 := by
      rw [qr1, hk]
      rfl
    have yz2 := wt_a (x := 100) (y := r1) (by omega) (by omega) hz2
    refine hp_al (pc' := 9) (j := 0) (Or.inr ⟨0, rfl, rfl, rfl⟩) rfl ?_
    refine hp_il (pc' := 10) (j := 1) (Or.inr ⟨1, rfl, rfl, rfl⟩) rfl ?_
    refine hp_cx (q := 1) (Q := fun o => ∃ r : Int32, o = (some (.int r), a, M) ∧ r.toInt = wt_w (M.1 2 f).toInt) (pc' := 13) (e := d) (vs := [.int x1]) (r := [.int z2]) ha rfl rfl rfl rfl rfl rfl rfl rfl (xw_ok ha hJ h1 hf) (fun o ho => ?_)
    obtain ⟨r3, eo, qr3⟩ := ho
    subst eo
    refine ⟨_, rfl, ?_⟩
    show hp X (d + 1) 50 13 [some (.ref 1), some (.int x1), none] [.int r3, .int z2] a M _
    refine hp_add (pc' := 14) rfl rfl (fun z4 hz4 => ?_)
    have e2 : r3.toInt = 10 := by
      rw [qr3, hk]
      rfl
    have yz4 := wt_a (x := z2) (y := r3) (by omega) (by omega) hz4
    refine hp_is (pc' := 15) (j := 2) (ls' := [some (.ref 1), some (.int x1), some (.int z4)]) (Or.inr ⟨2, rfl, rfl, rfl⟩) (by simp) rfl ?_
    refine hp_al (pc' := 16) (j := 0) (Or.inr ⟨0, rfl, rfl, rfl⟩) rfl ?_
    refine hp_gr (pc' := 19) ha (hJ.2.1 1 0 2 rfl) rfl rfl rfl rfl ?_
    refine hp_il (pc' := 20) (j := 1) (Or.inr ⟨1, rfl, rfl, rfl⟩) rfl ?_
    refine hp_ld (pc' := 21) (j := f) ha h1 (by omega) rfl rfl rfl ?_
    rw [hk]
    refine hp_s (pc' := 65) (st' := []) rfl ?_
    refine hp_il (pc' := 66) (j := 2) (Or.inr ⟨2, rfl, rfl, rfl⟩) rfl ?_
    refine hp_bi (pc' := 68) (x := 10) rfl rfl rfl ?_
    refine hp_al (pc' := 69) (j := 0) (Or.inr ⟨0, rfl, rfl, rfl⟩) rfl ?_
    refine hp_gr (pc' := 72) ha (hJ.2.1 1 1 3 rfl) rfl rfl rfl rfl ?_
    refine hp_il (pc' := 73) (j := 1) (Or.inr ⟨1, rfl, rfl, rfl⟩) rfl ?_
    refine hp_ld (pc' := 74) (j := f) ha h1 (by omega) rfl rfl rfl ?_
    refine hp_mul (pc' := 75) rfl rfl (fun z5 hz5 => ?_)
    have yz5 := wt_10 (x := M.1 3 f) (hJ.1 3 f) hz5
    refine hp_add (pc' := 76) rfl rfl (fun z6 hz6 => ?_)
    have yz6 := wt_a (x := z4) (y := z5) (by omega) (by omega) hz6
    refine hp_ri rfl rfl ?_
    exact ⟨_, rfl, by
      unfold wt_v wt_n wt_h wt_w
      repeat' split
      all_goals omega⟩
  · refine hp_bi (pc' := 2) (x := 100) rfl rfl rfl ?_
    refine hp_al (pc' := 3) (j := 0) (Or.inr ⟨0, rfl, rfl, rfl⟩) rfl ?_
    refine hp_il (pc' := 4) (j := 1) (Or.inr ⟨1, rfl, rfl, rfl⟩) rfl ?_
    refine hp_cx (q := 1) (Q := fun o => ∃ r : Int32, o = (some (.int r), a, M) ∧ r.toInt = wt_h (M.1 2 f).toInt) (pc' := 7) (e := d) (vs := [.int x1]) (r := [.int (100 : Int32)]) ha rfl rfl rfl rfl rfl rfl rfl rfl (xh_ok ha hJ h1 hf) (fun o ho => ?_)
    obtain ⟨r1, eo, qr1⟩ := ho
    subst eo
    refine ⟨_, rfl, ?_⟩
    show hp X (d + 1) 50 7 [some (.ref 1), some (.int x1), none] [.int r1, .int (100 : Int32)] a M _
    refine hp_add (pc' := 8) rfl rfl (fun z2 hz2 => ?_)
    have e1 : r1.toInt = 5 := by
      rw [qr1, hk]
      rfl
    have yz2 := wt_a (x := 100) (y := r1) (by omega) (by omega) hz2
    refine hp_al (pc' := 9) (j := 0) (Or.inr ⟨0, rfl, rfl, rfl⟩) rfl ?_
    refine hp_il (pc' := 10) (j := 1) (Or.inr ⟨1, rfl, rfl, rfl⟩) rfl ?_
    refine hp_cx (q := 1) (Q := fun o => ∃ r : Int32, o = (some (.int r), a, M) ∧ r.toInt = wt_w (M.1 2 f).toInt) (pc' := 13) (e := d) (vs := [.int x1]) (r := [.int z2]) ha rfl rfl rfl rfl rfl rfl rfl rfl (xw_ok ha hJ h1 hf) (fun o ho => ?_)
    obtain ⟨r3, eo, qr3⟩ := ho
    subst eo
    refine ⟨_, rfl, ?_⟩
    show hp X (d + 1) 50 13 [some (.ref 1), some (.int x1), none] [.int r3, .int z2] a M _
    refine hp_add (pc' := 14) rfl rfl (fun z4 hz4 => ?_)
    have e2 : r3.toInt = 12 := by
      rw [qr3, hk]
      rfl
    have yz4 := wt_a (x := z2) (y := r3) (by omega) (by omega) hz4
    refine hp_is (pc' := 15) (j := 2) (ls' := [some (.ref 1), some (.int x1), some (.int z4)]) (Or.inr ⟨2, rfl, rfl, rfl⟩) (by simp) rfl ?_
    refine hp_al (pc' := 16) (j := 0) (Or.inr ⟨0, rfl, rfl, rfl⟩) rfl ?_
    refine hp_gr (pc' := 19) ha (hJ.2.1 1 0 2 rfl) rfl rfl rfl rfl ?_
    refine hp_il (pc' := 20) (j := 1) (Or.inr ⟨1, rfl, rfl, rfl⟩) rfl ?_
    refine hp_ld (pc' := 21) (j := f) ha h1 (by omega) rfl rfl rfl ?_
    rw [hk]
    refine hp_s (pc' := 77) (st' := []) rfl ?_
    refine hp_ic (pc' := 78) (x := 2) rfl rfl rfl ?_
    refine hp_il (pc' := 79) (j := 2) (Or.inr ⟨2, rfl, rfl, rfl⟩) rfl ?_
    refine hp_bi (pc' := 81) (x := 10) rfl rfl rfl ?_
    refine hp_al (pc' := 82) (j := 0) (Or.inr ⟨0, rfl, rfl, rfl⟩) rfl ?_
    refine hp_gr (pc' := 85) ha (hJ.2.1 1 1 3 rfl) rfl rfl rfl rfl ?_
    refine hp_il (pc' := 86) (j := 1) (Or.inr ⟨1, rfl, rfl, rfl⟩) rfl ?_
    refine hp_ld (pc' := 87) (j := f) ha h1 (by omega) rfl rfl rfl ?_
    refine hp_mul (pc' := 88) rfl rfl (fun z5 hz5 => ?_)
    have yz5 := wt_10 (x := M.1 3 f) (hJ.1 3 f) hz5
    refine hp_add (pc' := 89) rfl rfl (fun z6 hz6 => ?_)
    have yz6 := wt_a (x := z4) (y := z5) (by omega) (by omega) hz6
    refine hp_mul (pc' := 90) rfl rfl (fun z7 hz7 => ?_)
    have yz7 := wt_2 (x := z6) (by omega) hz7
    refine hp_ri rfl rfl ?_
    exact ⟨_, rfl, by
      unfold wt_v wt_n wt_h wt_w
      repeat' split
      all_goals omega⟩

noncomputable def wt_r (d h w : Int) : Int := if d < 0 ∨ 7 < d then -1 else if h = 0 then -11 else if h = w then 0 else -12
noncomputable def wt_q (d h k p s : Int) : Int := if d < 0 ∨ 7 < d then -1 else if h = 0 then -11 else if h = 1 then wt_v k p s else -12
theorem wt_ne {d h k p s : Int} (w : wt_r d h 1 ≠ 0) : wt_q d h k p s = wt_r d h 1 := by
  unfold wt_q wt_r
  unfold wt_r at w
  by_cases h1 : d < 0 ∨ 7 < d
  · rw [if_pos h1, if_pos h1]
  · rw [if_neg h1] at w ⊢
    rw [if_neg h1]
    by_cases h2 : h = 0
    · rw [if_pos h2, if_pos h2]
    · rw [if_neg h2] at w ⊢
      rw [if_neg h2]
      by_cases h3 : h = 1
      · rw [if_pos h3] at w
        exact absurd rfl w
      · rw [if_neg h3, if_neg h3]
theorem ro_ok (ha : a.1 = rx_cells) (hJ : ax_J0 ax_sp ax_rf M) : hp X (d + 1) 102 0 [some (.ref 229), some (.int x1), some (.int x2)] [] a M (fun o => ∃ r : Int32, o = (some (.int r), a, M) ∧ r.toInt = wt_r x1.toInt (M.1 230 x1.toInt.toNat).toInt x2.toInt) := by
  have zz0 : (0 : Int32).toInt = 0 := rfl
  have zz8 : (8 : Int32).toInt = 8 := rfl
  have zm1 : ((-1) : Int32).toInt = -1 := rfl
  have zm11 : ((-11) : Int32).toInt = -11 := rfl
  have zm12 : ((-12) : Int32).toInt = -12 := rfl
  refine hp_il (pc' := 1) (j := 1) (Or.inr ⟨1, rfl, rfl, rfl⟩) rfl ?_
  refine hp_bi (pc' := 3) (x := 8) rfl rfl rfl ?_
  refine hp_cs (Q := fun o => ∃ r : Int32, o = (some (.int r), a, M) ∧ (r.toInt = 0 ∨ r.toInt = 1) ∧ (r.toInt ≠ 0 ↔ (0 ≤ (x1 : Int32).toInt ∧ (x1 : Int32).toInt < ((8 : Int32) : Int32).toInt))) (pc' := 6) (e := d) (vs := [.int x1, .int (8 : Int32)]) (r := []) rfl rfl (Or.inr rfl) rfl rfl rfl rfl rfl bl_ok (fun o ho => ?_)
  obtain ⟨r1, eo, qr1⟩ := ho
  subst eo
  refine ⟨_, rfl, ?_⟩
  show hp X (d + 1) 102 6 [some (.ref 229), some (.int x1), some (.int x2)] [.int r1] a M _
  refine hp_zne (t := 11) (pc' := 9) rfl rfl rfl (fun c2 => ?_) (fun c2 => ?_)
  · have hq1 := qr1.2.mp (by assumption)
    obtain ⟨D, hD, hD8⟩ : ∃ D : Nat, x1.toInt = (D : Int) ∧ D < 8 := ⟨x1.toInt.toNat, by omega, by omega⟩
    have eD : x1.toInt.toNat = D := by omega
    refine hp_al (pc' := 12) (j := 0) (Or.inr ⟨0, rfl, rfl, rfl⟩) rfl ?_
    refine hp_gr (pc' := 15) ha (hJ.2.1 229 0 230 rfl) rfl rfl rfl rfl ?_
    refine hp_il (pc' := 16) (j := 1) (Or.inr ⟨1, rfl, rfl, rfl⟩) rfl ?_
    refine hp_ld (pc' := 17) (j := D) ha hD (by omega) rfl rfl rfl ?_
    refine hp_zne (t := 23) (pc' := 20) rfl rfl rfl (fun c3 => ?_) (fun c3 => ?_)
    · refine hp_al (pc' := 24) (j := 0) (Or.inr ⟨0, rfl, rfl, rfl⟩) rfl ?_
      refine hp_gr (pc' := 27) ha (hJ.2.1 229 0 230 rfl) rfl rfl rfl rfl ?_
      refine hp_il (pc' := 28) (j := 1) (Or.inr ⟨1, rfl, rfl, rfl⟩) rfl ?_
      refine hp_ld (pc' := 29) (j := D) ha hD (by omega) rfl rfl rfl ?_
      refine hp_il (pc' := 30) (j := 2) (Or.inr ⟨2, rfl, rfl, rfl⟩) rfl ?_
      refine hp_ine (t := 37) (pc' := 33) rfl rfl rfl (fun c4 => ?_) (fun c4 => ?_)
      · refine hp_bi (pc' := 39) (x := (-12)) rfl rfl rfl ?_
        refine hp_ri rfl rfl ?_
        exact ⟨_, rfl, by
          rw [eD]
          unfold wt_r
          repeat' split
          all_goals omega⟩
      · refine hp_ic (pc' := 34) (x := 0) rfl rfl rfl ?_
        refine hp_go (t := 39) rfl rfl ?_
        refine hp_ri rfl rfl ?_
        exact ⟨_, rfl, by
          rw [eD]
          unfold wt_r
          repeat' split
          all_goals omega⟩
    · refine hp_bi (pc' := 22) (x := (-11)) rfl rfl rfl ?_
      refine hp_ri rfl rfl ?_
      exact ⟨_, rfl, by
        rw [eD]
        unfold wt_r
        repeat' split
        all_goals omega⟩
  · refine hp_ic (pc' := 10) (x := (-1)) rfl rfl rfl ?_
    refine hp_ri rfl rfl ?_
    exact ⟨_, rfl, by
      unfold wt_r
      repeat' split
      all_goals omega⟩
theorem roo_ok (ha : a.1 = rx_cells) (hJ : ax_J0 ax_sp ax_rf M) : hp X (d + 2) 101 0 [some (.ref 229), some (.int x1)] [] a M (fun o => ∃ r : Int32, o = (some (.int r), a, M) ∧ r.toInt = wt_r x1.toInt (M.1 230 x1.toInt.toNat).toInt 1) := by
  refine hp_al (pc' := 1) (j := 0) (Or.inr ⟨0, rfl, rfl, rfl⟩) rfl ?_
  refine hp_il (pc' := 2) (j := 1) (Or.inr ⟨1, rfl, rfl, rfl⟩) rfl ?_
  refine hp_ic (pc' := 3) (x := 1) rfl rfl rfl ?_
  refine hp_cx (q := 229) (Q := fun o => ∃ r : Int32, o = (some (.int r), a, M) ∧ r.toInt = wt_r x1.toInt (M.1 230 x1.toInt.toNat).toInt ((1 : Int32) : Int32).toInt) (pc' := 6) (e := (d + 1)) (vs := [.int x1, .int (1 : Int32)]) (r := []) ha rfl rfl rfl rfl rfl rfl rfl rfl (ro_ok (d := d) ha hJ) (fun o ho => ?_)
  obtain ⟨r1, eo, qr1⟩ := ho
  subst eo
  refine ⟨_, rfl, ?_⟩
  show hp X ((d + 1) + 1) 101 6 [some (.ref 229), some (.int x1)] [.int r1] a M _
  refine hp_ri rfl rfl ?_
  exact ⟨_, rfl, qr1⟩
theorem xwe_ok (ha : a.1 = rx_cells) (hJ : ax_J0 ax_sp ax_rf M) : hp X (d + 3) 142 0 [some (.ref 0), some (.int x1), none] [] a M (fun o => ∃ r : Int32, o = (some (.int r), a, M) ∧ r.toInt = wt_q x1.toInt (M.1 230 x1.toInt.toNat).toInt (M.1 2 (M.1 231 x1.toInt.toNat).toInt.toNat).toInt (M.1 3 (M.1 231 x1.toInt.toNat).toInt.toNat).toInt (M.1 4 (M.1 231 x1.toInt.toNat).toInt.toNat).toInt) := by
  refine hp_al (pc' := 1) (j := 0) (Or.inr ⟨0, rfl, rfl, rfl⟩) rfl ?_
  refine hp_gr (pc' := 4) ha (hJ.2.1 0 8 229 rfl) rfl rfl rfl rfl ?_
  refine hp_il (pc' := 5) (j := 1) (Or.inr ⟨1, rfl, rfl, rfl⟩) rfl ?_
  refine hp_cx (q := 229) (Q := fun o => ∃ r : Int32, o = (some (.int r), a, M) ∧ r.toInt = wt_r x1.toInt (M.1 230 x1.toInt.toNat).toInt 1) (pc' := 8) (e := (d + 2)) (vs := [.int x1]) (r := []) ha rfl rfl rfl rfl rfl rfl rfl rfl (roo_ok (d := d) ha hJ) (fun o ho => ?_)
  obtain ⟨r1, eo, qr1⟩ := ho
  subst eo
  refine ⟨_, rfl, ?_⟩
  show hp X ((d + 2) + 1) 142 8 [some (.ref 0), some (.int x1), none] [.int r1] a M _
  refine hp_is (pc' := 9) (j := 2) (ls' := [some (.ref 0), some (.int x1), some (.int r1)]) (Or.inr ⟨2, rfl, rfl, rfl⟩) (by simp) rfl ?_
  refine hp_il (pc' := 10) (j := 2) (Or.inr ⟨2, rfl, rfl, rfl⟩) rfl ?_
  refine hp_zeq (t := 17) (pc' := 13) rfl rfl rfl (fun c2 => ?_) (fun c2 => ?_)
  · have w0 : wt_r x1.toInt (M.1 230 x1.toInt.toNat).toInt 1 = 0 := by omega
    have hq1 : 0 ≤ x1.toInt ∧ x1.toInt ≤ 7 ∧ (M.1 230 x1.toInt.toNat).toInt = 1 := by
      unfold wt_r at w0
      repeat' split at w0
      all_goals omega
    obtain ⟨D, hD, hD8⟩ : ∃ D : Nat, x1.toInt = (D : Int) ∧ D < 8 := ⟨x1.toInt.toNat, by omega, by omega⟩
    have eD : x1.toInt.toNat = D := by omega
    rw [eD] at hq1
    have b1 : 0 ≤ (M.1 231 D).toInt ∧ (M.1 231 D).toInt ≤ 11 := hJ.1 231 D
    obtain ⟨f, hf, hf12⟩ : ∃ f : Nat, (M.1 231 D).toInt = (f : Int) ∧ f < 12 := ⟨(M.1 231 D).toInt.toNat, by omega, by omega⟩
    refine hp_al (pc' := 18) (j := 0) (Or.inr ⟨0, rfl, rfl, rfl⟩) rfl ?_
    refine hp_gr (pc' := 21) ha (hJ.2.1 0 0 1 rfl) rfl rfl rfl rfl ?_
    refine hp_al (pc' := 22) (j := 0) (Or.inr ⟨0, rfl, rfl, rfl⟩) rfl ?_
    refine hp_gr (pc' := 25) ha (hJ.2.1 0 8 229 rfl) rfl rfl rfl rfl ?_
    refine hp_gr (pc' := 28) ha (hJ.2.1 229 1 231 rfl) rfl rfl rfl rfl ?_
    refine hp_il (pc' := 29) (j := 1) (Or.inr ⟨1, rfl, rfl, rfl⟩) rfl ?_
    refine hp_ld (pc' := 30) (j := D) ha hD (by omega) rfl rfl rfl ?_
    refine hp_cx (q := 1) (Q := fun o => ∃ r : Int32, o = (some (.int r), a, M) ∧ r.toInt = wt_v (M.1 2 f).toInt (M.1 3 f).toInt (M.1 4 f).toInt) (pc' := 33) (e := (d + 2)) (vs := [.int (M.1 231 D)]) (r := []) ha rfl rfl rfl rfl rfl rfl rfl rfl (xwo_ok (d := d + 1) ha hJ hf hf12) (fun o ho => ?_)
    obtain ⟨r3, eo, qr3⟩ := ho
    subst eo
    refine ⟨_, rfl, ?_⟩
    show hp X ((d + 2) + 1) 142 33 [some (.ref 0), some (.int x1), some (.int r1)] [.int r3] a M _
    refine hp_ri rfl rfl ?_
    exact ⟨_, rfl, by
      rw [eD, qr3]
      unfold wt_q
      rw [if_neg (by omega), if_neg (by omega), if_pos hq1.2.2]
      have e : (M.1 231 D).toInt.toNat = f := by omega
      rw [e]⟩
  · refine hp_il (pc' := 14) (j := 2) (Or.inr ⟨2, rfl, rfl, rfl⟩) rfl ?_
    refine hp_go (t := 33) rfl rfl ?_
    refine hp_ri rfl rfl ?_
    exact ⟨_, rfl, qr1.trans (wt_ne (by omega)).symm⟩
theorem lo_ok (ha : a.1 = rx_cells) (hJ : ax_J0 ax_sp ax_rf M) : hp X (d + 2) 243 0 [some (.ref 244), some (.int x1)] [] a M (fun o => ∃ r : Int32, o = (some (.int r), a, M) ∧ r.toInt = wt_r x1.toInt (M.1 283 x1.toInt.toNat).toInt 1) := by
  have zz0 : (0 : Int32).toInt = 0 := rfl
  have zz2 : (2 : Int32).toInt = 2 := rfl
  have zm1 : ((-1) : Int32).toInt = -1 := rfl
  have zm11 : ((-11) : Int32).toInt = -11 := rfl
  have zm12 : ((-12) : Int32).toInt = -12 := rfl
  refine hp_al (pc' := 1) (j := 0) (Or.inr ⟨0, rfl, rfl, rfl⟩) rfl ?_
  refine hp_il (pc' := 2) (j := 1) (Or.inr ⟨1, rfl, rfl, rfl⟩) rfl ?_
  refine hp_cv (Q := fun o => ∃ r : Int32, o = (some (.int r), a, M) ∧ (r.toInt = 0 ∨ r.toInt = 1) ∧ (r.toInt ≠ 0 ↔ (0 ≤ (x1 : Int32).toInt ∧ (x1 : Int32).toInt ≤ 7))) (pc' := 5) (e := (d + 1)) (vs := [.int x1]) (r := []) ha rfl rfl rfl rfl rfl rfl rfl rfl (sh_ok ha) (fun o ho => ?_)
  obtain ⟨r1, eo, qr1⟩ := ho
  subst eo
  refine ⟨_, rfl, ?_⟩
  show hp X ((d + 1) + 1) 243 5 [some (.ref 244), some (.int x1)] [.int r1] a M _
  refine hp_zne (t := 12) (pc' := 8) rfl rfl rfl (fun c2 => ?_) (fun c2 => ?_)
  · have hq1 := qr1.2.mp (by assumption)
    obtain ⟨D, hD, hD8⟩ : ∃ D : Nat, x1.toInt = (D : Int) ∧ D < 8 := ⟨x1.toInt.toNat, by omega, by omega⟩
    have eD : x1.toInt.toNat = D := by omega
    refine hp_al (pc' := 13) (j := 0) (Or.inr ⟨0, rfl, rfl, rfl⟩) rfl ?_
    refine hp_gr (pc' := 16) ha (hJ.2.1 244 50 283 rfl) rfl rfl rfl rfl ?_
    refine hp_il (pc' := 17) (j := 1) (Or.inr ⟨1, rfl, rfl, rfl⟩) rfl ?_
    refine hp_ld (pc' := 18) (j := D) ha hD (by omega) rfl rfl rfl ?_
    refine hp_zne (t := 26) (pc' := 21) rfl rfl rfl (fun c3 => ?_) (fun c3 => ?_)
    · refine hp_al (pc' := 27) (j := 0) (Or.inr ⟨0, rfl, rfl, rfl⟩) rfl ?_
      refine hp_gr (pc' := 30) ha (hJ.2.1 244 50 283 rfl) rfl rfl rfl rfl ?_
      refine hp_il (pc' := 31) (j := 1) (Or.inr ⟨1, rfl, rfl, rfl⟩) rfl ?_
      refine hp_ld (pc' := 32) (j := D) ha hD (by omega) rfl rfl rfl ?_
      refine hp_ic (pc' := 33) (x := 2) rfl rfl rfl ?_
      refine hp_ine (t := 41) (pc' := 36) rfl rfl rfl (fun c4 => ?_) (fun c4 => ?_)
      · refine hp_ic (pc' := 42) (x := 0) rfl rfl rfl ?_
        refine hp_ri rfl rfl ?_
        exact ⟨_, rfl, by
          rw [eD]
          have bh : 0 ≤ (M.1 283 D).toInt ∧ (M.1 283 D).toInt ≤ 2 := hJ.1 283 D
          unfold wt_r
          repeat' split
          all_goals omega⟩
      · refine hp_bi (pc' := 38) (x := (-12)) rfl rfl rfl ?_
        refine hp_go (t := 42) rfl rfl ?_
        refine hp_ri rfl rfl ?_
        exact ⟨_, rfl, by
          rw [eD]
          have bh : 0 ≤ (M.1 283 D).toInt ∧ (M.1 283 D).toInt ≤ 2 := hJ.1 283 D
          unfold wt_r
          repeat' split
          all_goals omega⟩
    · refine hp_bi (pc' := 23) (x := (-11)) rfl rfl rfl ?_
      refine hp_go (t := 42) rfl rfl ?_
      refine hp_ri rfl rfl ?_
      exact ⟨_, rfl, by
        rw [eD]
        have bh : 0 ≤ (M.1 283 D).toInt ∧ (M.1 283 D).toInt ≤ 2 := hJ.1 283 D
        unfold wt_r
        repeat' split
        all_goals omega⟩
  · refine hp_ic (pc' := 9) (x := (-1)) rfl rfl rfl ?_
    refine hp_go (t := 42) rfl rfl ?_
    refine hp_ri rfl rfl ?_
    exact ⟨_, rfl, by
      unfold wt_r
      repeat' split
      all_goals omega⟩
theorem mwe_ok (ha : a.1 = rx_cells) (hJ : ax_J0 ax_sp ax_rf M) : hp X (d + 3) 244 0 [some (.ref 244), some (.int x1), none, none] [] a M (fun o => ∃ r : Int32, o = (some (.int r), a, M) ∧ r.toInt = wt_q x1.toInt (M.1 283 x1.toInt.toNat).toInt (M.1 245 (M.1 284 x1.toInt.toNat).toInt.toNat).toInt (M.1 246 (M.1 284 x1.toInt.toNat).toInt.toNat).toInt (M.1 247 (M.1 284 x1.toInt.toNat).toInt.toNat).toInt) := by
  have zz0 : (0 : Int32).toInt = 0 := rfl
  have zz1 : (1 : Int32).toInt = 1 := rfl
  have zz2 : (2 : Int32).toInt = 2 := rfl
  have zz3 : (3 : Int32).toInt = 3 := rfl
  have zz4 : (4 : Int32).toInt = 4 := rfl
  have zz5 : (5 : Int32).toInt = 5 := rfl
  have zz10 : (10 : Int32).toInt = 10 := rfl
  have zz100 : (100 : Int32).toInt = 100 := rfl
  refine hp_al (pc' := 1) (j := 0) (Or.inr ⟨0, rfl, rfl, rfl⟩) rfl ?_
  refine hp_il (pc' := 2) (j := 1) (Or.inr ⟨1, rfl, rfl, rfl⟩) rfl ?_
  refine hp_cv (Q := fun o => ∃ r : Int32, o = (some (.int r), a, M) ∧ r.toInt = wt_r x1.toInt (M.1 283 x1.toInt.toNat).toInt 1) (pc' := 5) (e := (d + 2)) (vs := [.int x1]) (r := []) ha rfl rfl rfl rfl rfl rfl rfl rfl (lo_ok (d := d) ha hJ) (fun o ho => ?_)
  obtain ⟨r1, eo, qr1⟩ := ho
  subst eo
  refine ⟨_, rfl, ?_⟩
  show hp X ((d + 2) + 1) 244 5 [some (.ref 244), some (.int x1), none, none] [.int r1] a M _
  refine hp_zeq (t := 14) (pc' := 8) rfl rfl rfl (fun c2 => ?_) (fun c2 => ?_)
  · have w0 : wt_r x1.toInt (M.1 283 x1.toInt.toNat).toInt 1 = 0 := by omega
    have hq1 : 0 ≤ x1.toInt ∧ x1.toInt ≤ 7 ∧ (M.1 283 x1.toInt.toNat).toInt = 1 := by
      unfold wt_r at w0
      repeat' split at w0
      all_goals omega
    obtain ⟨D, hD, hD8⟩ : ∃ D : Nat, x1.toInt = (D : Int) ∧ D < 8 := ⟨x1.toInt.toNat, by omega, by omega⟩
    have eD : x1.toInt.toNat = D := by omega
    rw [eD] at hq1
    have b1 : 0 ≤ (M.1 284 D).toInt ∧ (M.1 284 D).toInt ≤ 11 := hJ.2.2.2.2.2.1 D (by omega)
    obtain ⟨f, hf, hf12⟩ : ∃ f : Nat, (M.1 284 D).toInt = (f : Int) ∧ f < 12 := ⟨(M.1 284 D).toInt.toNat, by omega, by omega⟩
    refine hp_al (pc' := 15) (j := 0) (Or.inr ⟨0, rfl, rfl, rfl⟩) rfl ?_
    refine hp_gr (pc' := 18) ha (hJ.2.1 244 3 245 rfl) rfl rfl rfl rfl ?_
    refine hp_al (pc' := 19) (j := 0) (Or.inr ⟨0, rfl, rfl, rfl⟩) rfl ?_
    refine hp_gr (pc' := 22) ha (hJ.2.1 244 51 284 rfl) rfl rfl rfl rfl ?_
    refine hp_il (pc' := 23) (j := 1) (Or.inr ⟨1, rfl, rfl, rfl⟩) rfl ?_
    refine hp_ld (pc' := 24) (j := D) ha hD (by omega) rfl rfl rfl ?_
    refine hp_ld (pc' := 25) (j := f) ha hf (by omega) rfl rfl rfl ?_
    have bp : 0 ≤ (M.1 246 f).toInt ∧ (M.1 246 f).toInt ≤ 5 := hJ.1 246 f
    have bs : 0 ≤ (M.1 247 f).toInt ∧ (M.1 247 f).toInt ≤ 31 := hJ.1 247 f
    have bk : 0 ≤ (M.1 245 f).toInt ∧ (M.1 245 f).toInt ≤ 4 := hJ.1 245 f
    refine hp_is (pc' := 26) (j := 2) (ls' := [some (.ref 244), some (.int x1), some (.int (M.1 245 f)), none]) (Or.inr ⟨2, rfl, rfl, rfl⟩) (by simp) rfl ?_
    refine hp_bi (pc' := 28) (x := 100) rfl rfl rfl ?_
    refine hp_al (pc' := 29) (j := 0) (Or.inr ⟨0, rfl, rfl, rfl⟩) rfl ?_
    refine hp_il (pc' := 30) (j := 2) (Or.inr ⟨2, rfl, rfl, rfl⟩) rfl ?_
    refine hp_cv (Q := fun o => ∃ r : Int32, o = (some (.int r), a, M) ∧ r.toInt = wt_h ((M.1 245 f) : Int32).toInt) (pc' := 33) (e := (d + 2)) (vs := [.int (M.1 245 f)]) (r := [.int (100 : Int32)]) ha rfl rfl rfl rfl rfl rfl rfl rfl mh_ok (fun o ho => ?_)
    obtain ⟨r3, eo, qr3⟩ := ho
    subst eo
    refine ⟨_, rfl, ?_⟩
    show hp X ((d + 2) + 1) 244 33 [some (.ref 244), some (.int x1), some (.int (M.1 245 f)), none] [.int r3, .int (100 : Int32)] a M _
    refine hp_add (pc' := 34) rfl rfl (fun z4 hz4 => ?_)
    have br3 : 0 ≤ r3.toInt ∧ r3.toInt ≤ 12 := by
      rw [qr3]
      unfold wt_h
      repeat' split
      all_goals omega
    have yz4 := wt_a (x := 100) (y := r3) (by omega) (by omega) hz4
    refine hp_al (pc' := 35) (j := 0) (Or.inr ⟨0, rfl, rfl, rfl⟩) rfl ?_
    refine hp_il (pc' := 36) (j := 2) (Or.inr ⟨2, rfl, rfl, rfl⟩) rfl ?_
    refine hp_cv (Q := fun o => ∃ r : Int32, o = (some (.int r), a, M) ∧ r.toInt = wt_w ((M.1 245 f) : Int32).toInt) (pc' := 39) (e := (d + 2)) (vs := [.int (M.1 245 f)]) (r := [.int z4]) ha rfl rfl rfl rfl rfl rfl rfl rfl mw_ok (fun o ho => ?_)
    obtain ⟨r5, eo, qr5⟩ := ho
    subst eo
    refine ⟨_, rfl, ?_⟩
    show hp X ((d + 2) + 1) 244 39 [some (.ref 244), some (.int x1), some (.int (M.1 245 f)), none] [.int r5, .int z4] a M _
    refine hp_add (pc' := 40) rfl rfl (fun z6 hz6 => ?_)
    have br5 : 0 ≤ r5.toInt ∧ r5.toInt ≤ 15 := by
      rw [qr5]
      unfold wt_w
      repeat' split
      all_goals omega
    have yz6 := wt_a (x := z4) (y := r5) (by omega) (by omega) hz6
    refine hp_il (pc' := 41) (j := 2) (Or.inr ⟨2, rfl, rfl, rfl⟩) rfl ?_
    refine hp_ic (pc' := 42) (x := 1) rfl rfl rfl ?_
    refine hp_ine (t := 49) (pc' := 45) rfl rfl rfl (fun c7 => ?_) (fun c7 => ?_)
    · refine hp_il (pc' := 50) (j := 2) (Or.inr ⟨2, rfl, rfl, rfl⟩) rfl ?_
      refine hp_ic (pc' := 51) (x := 2) rfl rfl rfl ?_
      refine hp_ine (t := 68) (pc' := 54) rfl rfl rfl (fun c8 => ?_) (fun c8 => ?_)
      · refine hp_il (pc' := 69) (j := 2) (Or.inr ⟨2, rfl, rfl, rfl⟩) rfl ?_
        refine hp_ic (pc' := 70) (x := 3) rfl rfl rfl ?_
        refine hp_ilt (t := 90) (pc' := 73) rfl rfl rfl (fun c9 => ?_) (fun c9 => ?_)
        · refine hp_ic (pc' := 91) (x := 0) rfl rfl rfl ?_
          refine hp_add (pc' := 92) rfl rfl (fun z10 hz10 => ?_)
          have yz10 : z10.toInt = z6.toInt + ((0 : Int32) : Int32).toInt := wt_a (by omega) (by first | decide | omega) hz10
          refine hp_is (pc' := 93) (j := 3) (ls' := [some (.ref 244), some (.int x1), some (.int (M.1 245 f)), some (.int z10)]) (Or.inr ⟨3, rfl, rfl, rfl⟩) (by simp) rfl ?_
          refine hp_il (pc' := 94) (j := 2) (Or.inr ⟨2, rfl, rfl, rfl⟩) rfl ?_
          refine hp_ic (pc' := 95) (x := 4) rfl rfl rfl ?_
          refine hp_ine (t := 104) (pc' := 98) rfl rfl rfl (fun c11 => ?_) (fun c11 => ?_)
          · refine hp_il (pc' := 105) (j := 3) (Or.inr ⟨3, rfl, rfl, rfl⟩) rfl ?_
            refine hp_ri rfl rfl ?_
            exact ⟨_, rfl, by
              rw [eD]
              unfold wt_q
              have e : (M.1 284 D).toInt.toNat = f := by omega
              rw [if_neg (by omega), if_neg (by omega), if_pos hq1.2.2, e]
              unfold wt_v wt_n
              rw [← qr3, ← qr5]
              repeat' split
              all_goals omega⟩
          · refine hp_ic (pc' := 99) (x := 2) rfl rfl rfl ?_
            refine hp_il (pc' := 100) (j := 3) (Or.inr ⟨3, rfl, rfl, rfl⟩) rfl ?_
            refine hp_mul (pc' := 101) rfl rfl (fun z12 hz12 => ?_)
            have yz12 := wt_2 (x := z10) (by omega) hz12
            refine hp_go (t := 105) rfl rfl ?_
            refine hp_ri rfl rfl ?_
            exact ⟨_, rfl, by
              rw [eD]
              unfold wt_q
              have e : (M.1 284 D).toInt.toNat = f := by omega
              rw [if_neg (by omega), if_neg (by omega), if_pos hq1.2.2, e]
              unfold wt_v wt_n
              rw [← qr3, ← qr5]
              repeat' split
              all_goals omega⟩
        · refine hp_bi (pc' := 75) (x := 10) rfl rfl rfl ?_
          refine hp_al (pc' := 76) (j := 0) (Or.inr ⟨0, rfl, rfl, rfl⟩) rfl ?_
          refine hp_gr (pc' := 79) ha (hJ.2.1 244 4 246 rfl) rfl rfl rfl rfl ?_
          refine hp_al (pc' := 80) (j := 0) (Or.inr ⟨0, rfl, rfl, rfl⟩) rfl ?_
          refine hp_gr (pc' := 83) ha (hJ.2.1 244 51 284 rfl) rfl rfl rfl rfl ?_
          refine hp_il (pc' := 84) (j := 1) (Or.inr ⟨1, rfl, rfl, rfl⟩) rfl ?_
          refine hp_ld (pc' := 85) (j := D) ha hD (by omega) rfl rfl rfl ?_
          refine hp_ld (pc' := 86) (j := f) ha hf (by omega) rfl rfl rfl ?_
          refine hp_mul (pc' := 87) rfl rfl (fun z13 hz13 => ?_)
          have yz13 := wt_10 (x := M.1 246 f) bp hz13
          refine hp_go (t := 91) rfl rfl ?_
          refine hp_add (pc' := 92) rfl rfl (fun z14 hz14 => ?_)
          have yz14 : z14.toInt = z6.toInt + (z13 : Int32).toInt := wt_a (by omega) (by first | decide | omega) hz14
          refine hp_is (pc' := 93) (j := 3) (ls' := [some (.ref 244), some (.int x1), some (.int (M.1 245 f)), some (.int z14)]) (Or.inr ⟨3, rfl, rfl, rfl⟩) (by simp) rfl ?_
          refine hp_il (pc' := 94) (j := 2) (Or.inr ⟨2, rfl, rfl, rfl⟩) rfl ?_
          refine hp_ic (pc' := 95) (x := 4) rfl rfl rfl ?_
          refine hp_ine (t := 104) (pc' := 98) rfl rfl rfl (fun c15 => ?_) (fun c15 => ?_)
          · refine hp_il (pc' := 105) (j := 3) (Or.inr ⟨3, rfl, rfl, rfl⟩) rfl ?_
            refine hp_ri rfl rfl ?_
            exact ⟨_, rfl, by
              rw [eD]
              unfold wt_q
              have e : (M.1 284 D).toInt.toNat = f := by omega
              rw [if_neg (by omega), if_neg (by omega), if_pos hq1.2.2, e]
              unfold wt_v wt_n
              rw [← qr3, ← qr5]
              repeat' split
              all_goals omega⟩
          · refine hp_ic (pc' := 99) (x := 2) rfl rfl rfl ?_
            refine hp_il (pc' := 100) (j := 3) (Or.inr ⟨3, rfl, rfl, rfl⟩) rfl ?_
            refine hp_mul (pc' := 101) rfl rfl (fun z16 hz16 => ?_)
            have yz16 := wt_2 (x := z14) (by omega) hz16
            refine hp_go (t := 105) rfl rfl ?_
            refine hp_ri rfl rfl ?_
            exact ⟨_, rfl, by
              rw [eD]
              unfold wt_q
              have e : (M.1 284 D).toInt.toNat = f := by omega
              rw [if_neg (by omega), if_neg (by omega), if_pos hq1.2.2, e]
              unfold wt_v wt_n
              rw [← qr3, ← qr5]
              repeat' split
              all_goals omega⟩
      · refine hp_al (pc' := 55) (j := 0) (Or.inr ⟨0, rfl, rfl, rfl⟩) rfl ?_
        refine hp_gr (pc' := 58) ha (hJ.2.1 244 5 247 rfl) rfl rfl rfl rfl ?_
        refine hp_al (pc' := 59) (j := 0) (Or.inr ⟨0, rfl, rfl, rfl⟩) rfl ?_
        refine hp_gr (pc' := 62) ha (hJ.2.1 244 51 284 rfl) rfl rfl rfl rfl ?_
        refine hp_il (pc' := 63) (j := 1) (Or.inr ⟨1, rfl, rfl, rfl⟩) rfl ?_
        refine hp_ld (pc' := 64) (j := D) ha hD (by omega) rfl rfl rfl ?_
        refine hp_ld (pc' := 65) (j := f) ha hf (by omega) rfl rfl rfl ?_
        refine hp_go (t := 91) rfl rfl ?_
        refine hp_add (pc' := 92) rfl rfl (fun z17 hz17 => ?_)
        have yz17 : z17.toInt = z6.toInt + ((M.1 247 f) : Int32).toInt := wt_a (by omega) (by first | decide | omega) hz17
        refine hp_is (pc' := 93) (j := 3) (ls' := [some (.ref 244), some (.int x1), some (.int (M.1 245 f)), some (.int z17)]) (Or.inr ⟨3, rfl, rfl, rfl⟩) (by simp) rfl ?_
        refine hp_il (pc' := 94) (j := 2) (Or.inr ⟨2, rfl, rfl, rfl⟩) rfl ?_
        refine hp_ic (pc' := 95) (x := 4) rfl rfl rfl ?_
        refine hp_ine (t := 104) (pc' := 98) rfl rfl rfl (fun c18 => ?_) (fun c18 => ?_)
        · refine hp_il (pc' := 105) (j := 3) (Or.inr ⟨3, rfl, rfl, rfl⟩) rfl ?_
          refine hp_ri rfl rfl ?_
          exact ⟨_, rfl, by
            rw [eD]
            unfold wt_q
            have e : (M.1 284 D).toInt.toNat = f := by omega
            rw [if_neg (by omega), if_neg (by omega), if_pos hq1.2.2, e]
            unfold wt_v wt_n
            rw [← qr3, ← qr5]
            repeat' split
            all_goals omega⟩
        · refine hp_ic (pc' := 99) (x := 2) rfl rfl rfl ?_
          refine hp_il (pc' := 100) (j := 3) (Or.inr ⟨3, rfl, rfl, rfl⟩) rfl ?_
          refine hp_mul (pc' := 101) rfl rfl (fun z19 hz19 => ?_)
          have yz19 := wt_2 (x := z17) (by omega) hz19
          refine hp_go (t := 105) rfl rfl ?_
          refine hp_ri rfl rfl ?_
          exact ⟨_, rfl, by
            rw [eD]
            unfold wt_q
            have e : (M.1 284 D).toInt.toNat = f := by omega
            rw [if_neg (by omega), if_neg (by omega), if_pos hq1.2.2, e]
            unfold wt_v wt_n
            rw [← qr3, ← qr5]
            repeat' split
            all_goals omega⟩
    · refine hp_ic (pc' := 46) (x := 5) rfl rfl rfl ?_
      refine hp_go (t := 91) rfl rfl ?_
      refine hp_add (pc' := 92) rfl rfl (fun z20 hz20 => ?_)
      have yz20 : z20.toInt = z6.toInt + ((5 : Int32) : Int32).toInt := wt_a (by omega) (by first | decide | omega) hz20
      refine hp_is (pc' := 93) (j := 3) (ls' := [some (.ref 244), some (.int x1), some (.int (M.1 245 f)), some (.int z20)]) (Or.inr ⟨3, rfl, rfl, rfl⟩) (by simp) rfl ?_
      refine hp_il (pc' := 94) (j := 2) (Or.inr ⟨2, rfl, rfl, rfl⟩) rfl ?_
      refine hp_ic (pc' := 95) (x := 4) rfl rfl rfl ?_
      refine hp_ine (t := 104) (pc' := 98) rfl rfl rfl (fun c21 => ?_) (fun c21 => ?_)
      · refine hp_il (pc' := 105) (j := 3) (Or.inr ⟨3, rfl, rfl, rfl⟩) rfl ?_
        refine hp_ri rfl rfl ?_
        exact ⟨_, rfl, by
          rw [eD]
          unfold wt_q
          have e : (M.1 284 D).toInt.toNat = f := by omega
          rw [if_neg (by omega), if_neg (by omega), if_pos hq1.2.2, e]
          unfold wt_v wt_n
          rw [← qr3, ← qr5]
          repeat' split
          all_goals omega⟩
      · refine hp_ic (pc' := 99) (x := 2) rfl rfl rfl ?_
        refine hp_il (pc' := 100) (j := 3) (Or.inr ⟨3, rfl, rfl, rfl⟩) rfl ?_
        refine hp_mul (pc' := 101) rfl rfl (fun z22 hz22 => ?_)
        have yz22 := wt_2 (x := z20) (by omega) hz22
        refine hp_go (t := 105) rfl rfl ?_
        refine hp_ri rfl rfl ?_
        exact ⟨_, rfl, by
          rw [eD]
          unfold wt_q
          have e : (M.1 284 D).toInt.toNat = f := by omega
          rw [if_neg (by omega), if_neg (by omega), if_pos hq1.2.2, e]
          unfold wt_v wt_n
          rw [← qr3, ← qr5]
          repeat' split
          all_goals omega⟩
  · refine hp_al (pc' := 9) (j := 0) (Or.inr ⟨0, rfl, rfl, rfl⟩) rfl ?_
    refine hp_il (pc' := 10) (j := 1) (Or.inr ⟨1, rfl, rfl, rfl⟩) rfl ?_
    refine hp_cv (Q := fun o => ∃ r : Int32, o = (some (.int r), a, M) ∧ r.toInt = wt_r x1.toInt (M.1 283 x1.toInt.toNat).toInt 1) (pc' := 13) (e := (d + 2)) (vs := [.int x1]) (r := []) ha rfl rfl rfl rfl rfl rfl rfl rfl (lo_ok (d := d) ha hJ) (fun o ho => ?_)
    obtain ⟨r23, eo, qr23⟩ := ho
    subst eo
    refine ⟨_, rfl, ?_⟩
    show hp X ((d + 2) + 1) 244 13 [some (.ref 244), some (.int x1), none, none] [.int r23] a M _
    refine hp_ri rfl rfl ?_
    exact ⟨_, rfl, qr23.trans (wt_ne (by omega)).symm⟩
end WT
