/-! element, of both sides, by hand -/
section HP7
variable {X : Nat × (Nat → Int32)} {d i pc pc' : Nat} {ls : List (Option Value)} {st : List Value} {a : rx_K} {M : rx_M} {P : rx_O → Prop}
theorem hp_rl {x : Int64} (ht : rx_tb i pc = some .lreturn) (hr : rx_rt i = some .long) (k : P (some (.long x), a, M)) : hp X d i pc ls [.long x] a M P := by
  refine ⟨1, (some (.long x), a, M), ?_, k⟩
  unfold rx_go
  rw [hp_q ht, show rx_ins X i .lreturn pc ls [.long x] a M = (match rx_rt i with
      | some .long => some (.inr (.inr (some (.long x))))
      | _ => none) from rfl, hr]
/-- a throw -/
theorem hp_xn {x E : Nat} (ht : rx_tb i pc = some (.new x)) (hn : rx_nw (rx_cn i) x = some (.inr E)) (k : P (some (.retAddr E), a, M)) : hp X d i pc ls [] a M P := by
  refine ⟨1, (some (.retAddr E), a, M), ?_, k⟩
  unfold rx_go
  rw [hp_q ht]
  show (match rx_new (rx_cn i) x pc ls [] a M with
    | none => none
    | some (.inl c') => rx_go X 0 d i c'
    | some (.inr (.inr r)) => some (r, a, M)
    | some (.inr (.inl (j, vs, c'))) => _) = _
  unfold rx_new
  rw [hn]
theorem hp_lst {q n j : Nat} {y : Int32} {z : Int64} (ha : a.1 = rx_cells) (hy : y.toInt = (j : Int)) (hj : j < n) (ht : rx_tb i pc = some .lastore) (hl : rx_lay q = some (.inr (3, n))) (e : pc + 1 = pc') (k : hp X d i pc' ls st a (M.1, M.2.1, rx_up M.2.2 q j z) P) : hp X d i pc ls (.long z :: .int y :: .ref q :: st) a M P := by
  subst e
  have h9 := ax_clamp (x := y) (by omega)
  have hn : y.toNatClampNeg = j := by omega
  refine hp_s ((hp_q ht).trans ?_) k
  show rx_as 3 pc ls (.long z :: .int y :: .ref q :: st) a M = _
  unfold rx_as
  dsimp only
  rw [hl]
  dsimp only
  rw [if_pos (by rw [ha]; exact ax_lay_lt hl), if_pos rfl, if_neg (by
    rintro (w | w)
    · have := ax_neg.mp w
      omega
    · omega), hn]
  rfl
end HP7
theorem el_up {f : Nat → Nat → Int64} {z : Int64} : rx_up f 290 0 z 290 0 = z := by
  unfold rx_up
  rw [if_pos rfl, if_pos rfl]
/-- what element tells: 1 no such shelf, 2 no such element -/
noncomputable def el_c (x1 x2 h z : Int) : Int := if x1 < 0 ∨ 7 < x1 then 1 else if h = 2 ∧ 0 ≤ x2 ∧ x2 < z then 0 else 2
section EL
variable {X : Nat × (Nat → Int32)} {d n D I : Nat} {a : rx_K} {M : rx_M} {P : rx_O → Prop} {x1 x2 x3 : Int32}
theorem xe_ok (ha : a.1 = rx_cells) (hM : ax_J0 ax_sp ax_rf M) : hp X (d + 3) 140 0 [some (.ref 0), some (.int x1), some (.int x2)] [] a M (fun o => (el_c x1.toInt x2.toInt (M.1 230 x1.toInt.toNat).toInt (M.1 234 x1.toInt.toNat).toInt = 1 ∧ o = (some (.retAddr 1), a, M)) ∨ (el_c x1.toInt x2.toInt (M.1 230 x1.toInt.toNat).toInt (M.1 234 x1.toInt.toNat).toInt = 2 ∧ o = (some (.retAddr 2), a, M)) ∨ (el_c x1.toInt x2.toInt (M.1 230 x1.toInt.toNat).toInt (M.1 234 x1.toInt.toNat).toInt = 0 ∧ o = (some (.long (Int32.toInt64 (M.1 (236 + x1.toInt.toNat) x2.toInt.toNat))), a, M))) := by
  have zz0 : (0 : Int32).toInt = 0 := rfl
  have zz8 : (8 : Int32).toInt = 8 := rfl
  refine hp_il (pc' := 1) (j := 1) (Or.inr ⟨1, rfl, rfl, rfl⟩) rfl ?_
  refine hp_bi (pc' := 3) (x := 8) rfl rfl rfl ?_
  refine hp_cs (Q := fun o => ∃ r : Int32, o = (some (.int r), a, M) ∧ (r.toInt = 0 ∨ r.toInt = 1) ∧ (r.toInt ≠ 0 ↔ (0 ≤ (x1 : Int32).toInt ∧ (x1 : Int32).toInt < ((8 : Int32) : Int32).toInt))) (pc' := 6) (e := (d + 2)) (vs := [.int x1, .int (8 : Int32)]) (r := []) rfl rfl (Or.inl rfl) rfl rfl rfl rfl rfl bl_ok (fun o ho => ?_)
  obtain ⟨r1, eo, qr1⟩ := ho
  subst eo
  refine ⟨_, rfl, ?_⟩
  show hp X ((d + 2) + 1) 140 6 [some (.ref 0), some (.int x1), some (.int x2)] [.int r1] a M _
  refine hp_zne (t := 20) (pc' := 9) rfl rfl rfl (fun c2 => ?_) (fun c2 => ?_)
  · refine hp_al (pc' := 21) (j := 0) (Or.inr ⟨0, rfl, rfl, rfl⟩) rfl ?_
    refine hp_gr (pc' := 24) ha (hM.2.1 0 8 229 rfl) rfl rfl rfl rfl ?_
    refine hp_il (pc' := 25) (j := 1) (Or.inr ⟨1, rfl, rfl, rfl⟩) rfl ?_
    refine hp_ic (pc' := 26) (x := 3) rfl rfl rfl ?_
    refine hp_cx (q := 229) (Q := fun o => ∃ r : Int32, o = (some (.int r), a, M) ∧ r.toInt = wt_r x1.toInt (M.1 230 x1.toInt.toNat).toInt 2) (pc' := 29) (e := (d + 2)) (vs := [.int x1, .int (3 : Int32)]) (r := []) ha rfl rfl rfl rfl rfl rfl rfl rfl (rr_ok (d := d) ha hM) (fun o ho => ?_)
    obtain ⟨r3, eo, qr3⟩ := ho
    subst eo
    refine ⟨_, rfl, ?_⟩
    show hp X ((d + 2) + 1) 140 29 [some (.ref 0), some (.int x1), some (.int x2)] [.int r3] a M _
    refine hp_zne (t := 48) (pc' := 32) rfl rfl rfl (fun c4 => ?_) (fun c4 => ?_)
    · refine hp_xn rfl rfl ?_
      exact Or.inr (Or.inl ⟨by
        unfold el_c
        rw [if_neg (by omega), if_neg (fun w => by
          have w0 : wt_r x1.toInt (M.1 230 x1.toInt.toNat).toInt 2 = 0 := by
            unfold wt_r
            rw [if_neg (by omega), if_neg (by omega), if_pos w.1]
          omega)], rfl⟩)
    · have w0 : wt_r x1.toInt (M.1 230 x1.toInt.toNat).toInt 2 = 0 := by omega
      have hq1 : 0 ≤ x1.toInt ∧ x1.toInt ≤ 7 ∧ (M.1 230 x1.toInt.toNat).toInt = 2 := by
        unfold wt_r at w0
        repeat' split at w0
        all_goals omega
      obtain ⟨D, hD, hD8⟩ : ∃ D : Nat, x1.toInt = (D : Int) ∧ D < 8 := ⟨x1.toInt.toNat, by omega, by omega⟩
      have eD : x1.toInt.toNat = D := by omega
      rw [eD] at hq1
      have bz : 0 ≤ (M.1 234 D).toInt ∧ (M.1 234 D).toInt ≤ 80 := hM.1 234 D
      refine hp_il (pc' := 33) (j := 2) (Or.inr ⟨2, rfl, rfl, rfl⟩) rfl ?_
      refine hp_al (pc' := 34) (j := 0) (Or.inr ⟨0, rfl, rfl, rfl⟩) rfl ?_
      refine hp_gr (pc' := 37) ha (hM.2.1 0 8 229 rfl) rfl rfl rfl rfl ?_
      refine hp_gr (pc' := 40) ha (hM.2.1 229 4 234 rfl) rfl rfl rfl rfl ?_
      refine hp_il (pc' := 41) (j := 1) (Or.inr ⟨1, rfl, rfl, rfl⟩) rfl ?_
      refine hp_ld (pc' := 42) (j := D) ha hD (by omega) rfl rfl rfl ?_
      refine hp_cs (Q := fun o => ∃ r : Int32, o = (some (.int r), a, M) ∧ (r.toInt = 0 ∨ r.toInt = 1) ∧ (r.toInt ≠ 0 ↔ (0 ≤ (x2 : Int32).toInt ∧ (x2 : Int32).toInt < ((M.1 234 D) : Int32).toInt))) (pc' := 45) (e := (d + 2)) (vs := [.int x2, .int (M.1 234 D)]) (r := []) rfl rfl (Or.inl rfl) rfl rfl rfl rfl rfl bl_ok (fun o ho => ?_)
      obtain ⟨r5, eo, qr5⟩ := ho
      subst eo
      refine ⟨_, rfl, ?_⟩
      show hp X ((d + 2) + 1) 140 45 [some (.ref 0), some (.int x1), some (.int x2)] [.int r5] a M _
      refine hp_zne (t := 59) (pc' := 48) rfl rfl rfl (fun c6 => ?_) (fun c6 => ?_)
      · have hq2 := qr5.2.mp (by assumption)
        obtain ⟨I, hI, hI8⟩ : ∃ I : Nat, x2.toInt = (I : Int) ∧ I < 80 := ⟨x2.toInt.toNat, by omega, by omega⟩
        have eI : x2.toInt.toNat = I := by omega
        refine hp_al (pc' := 60) (j := 0) (Or.inr ⟨0, rfl, rfl, rfl⟩) rfl ?_
        refine hp_gr (pc' := 63) ha (hM.2.1 0 8 229 rfl) rfl rfl rfl rfl ?_
        refine hp_gr (pc' := 66) ha (hM.2.1 229 5 235 rfl) rfl rfl rfl rfl ?_
        refine hp_il (pc' := 67) (j := 1) (Or.inr ⟨1, rfl, rfl, rfl⟩) rfl ?_
        refine hp_aal (pc' := 68) (j := D) ha (hM.2.1 235 D (236 + D) (rw_rf (by omega))) hD (by omega) rfl rfl rfl ?_
        refine hp_il (pc' := 69) (j := 2) (Or.inr ⟨2, rfl, rfl, rfl⟩) rfl ?_
        refine hp_ld (pc' := 70) (j := I) ha hI (by omega) rfl (rw_lay (by omega)) rfl ?_
        refine hp_s (pc' := 71) (st' := [.long (Int32.toInt64 (M.1 (236 + D) I))]) rfl ?_
        refine hp_rl rfl rfl ?_
        exact Or.inr (Or.inr ⟨by
          rw [eD]
          unfold el_c
          rw [if_neg (by omega), if_pos ⟨by omega, by omega, by omega⟩], by rw [eD, eI]⟩)
      · refine hp_xn rfl rfl ?_
        exact Or.inr (Or.inl ⟨by
          rw [eD]
          unfold el_c
          rw [if_neg (by omega), if_neg (fun w => by omega)], rfl⟩)
  · refine hp_xn rfl rfl ?_
    exact Or.inl ⟨by
      unfold el_c
      rw [if_pos (by omega)], rfl⟩
theorem le_ok (ha : a.1 = rx_cells) (hM : ax_J0 ax_sp ax_rf M) : hp X (d + 4) 248 0 [some (.ref 0), some (.int x1), some (.int x2), some (.ref 290), none] [] a M (fun o => ∃ (r : Int32) (a1 : rx_K) (M1 : rx_M), o = (some (.int r), a1, M1) ∧ r.toInt = el_c x1.toInt x2.toInt (M.1 230 x1.toInt.toNat).toInt (M.1 234 x1.toInt.toNat).toInt ∧ a1.1 = rx_cells ∧ a1.2.1 ≤ a.2.1 + 1 ∧ a1.2.2 ≤ a.2.2 + 6 ∧ M1.1 = M.1 ∧ M1.2.1 = M.2.1 ∧ (el_c x1.toInt x2.toInt (M.1 230 x1.toInt.toNat).toInt (M.1 234 x1.toInt.toNat).toInt = 0 → M1.2.2 290 0 = Int32.toInt64 (M.1 (236 + x1.toInt.toNat) x2.toInt.toNat))) := by
  refine hp_al (pc' := 1) (j := 3) (Or.inr ⟨3, rfl, rfl, rfl⟩) rfl ?_
  refine hp_ic (pc' := 2) (x := 0) rfl rfl rfl ?_
  refine hp_al (pc' := 3) (j := 0) (Or.inr ⟨0, rfl, rfl, rfl⟩) rfl ?_
  refine hp_il (pc' := 4) (j := 1) (Or.inr ⟨1, rfl, rfl, rfl⟩) rfl ?_
  refine hp_il (pc' := 5) (j := 2) (Or.inr ⟨2, rfl, rfl, rfl⟩) rfl ?_
  refine hp_cx (q := 0) (Q := (fun o => (el_c x1.toInt x2.toInt (M.1 230 x1.toInt.toNat).toInt (M.1 234 x1.toInt.toNat).toInt = 1 ∧ o = (some (.retAddr 1), a, M)) ∨ (el_c x1.toInt x2.toInt (M.1 230 x1.toInt.toNat).toInt (M.1 234 x1.toInt.toNat).toInt = 2 ∧ o = (some (.retAddr 2), a, M)) ∨ (el_c x1.toInt x2.toInt (M.1 230 x1.toInt.toNat).toInt (M.1 234 x1.toInt.toNat).toInt = 0 ∧ o = (some (.long (Int32.toInt64 (M.1 (236 + x1.toInt.toNat) x2.toInt.toNat))), a, M)))) (pc' := 8) (e := d + 3) (vs := [.int x1, .int x2]) (r := [.int 0, .ref 290]) ha rfl rfl rfl rfl rfl rfl rfl rfl (xe_ok ha hM) (fun o ho => ?_)
  rcases ho with ⟨hc, eo⟩ | ⟨hc, eo⟩ | ⟨hc, eo⟩
  · subst eo
    refine ⟨_, rfl, ?_⟩
    show hp X (d + 4) 248 14 [some (.ref 0), some (.int x1), some (.int x2), some (.ref 290), none] [] (a.1, a.2.1 + 1, a.2.2 + 6) M _
    refine hp_ic (pc' := 15) (x := 1) rfl rfl rfl ?_
    refine hp_ri rfl rfl ?_
    exact ⟨_, _, _, rfl, by rw [hc]; rfl, ha, Nat.le_refl _, Nat.le_refl _, rfl, rfl, fun w => by omega⟩
  · subst eo
    refine ⟨_, rfl, ?_⟩
    show hp X (d + 4) 248 18 [some (.ref 0), some (.int x1), some (.int x2), some (.ref 290), none] [] (a.1, a.2.1 + 1, a.2.2 + 6) M _
    refine hp_ic (pc' := 19) (x := 2) rfl rfl rfl ?_
    refine hp_ri rfl rfl ?_
    exact ⟨_, _, _, rfl, by rw [hc]; rfl, ha, Nat.le_refl _, Nat.le_refl _, rfl, rfl, fun w => by omega⟩
  · subst eo
    refine ⟨_, rfl, ?_⟩
    show hp X (d + 4) 248 8 [some (.ref 0), some (.int x1), some (.int x2), some (.ref 290), none] [.long (Int32.toInt64 (M.1 (236 + x1.toInt.toNat) x2.toInt.toNat)), .int 0, .ref 290] a M _
    refine hp_lst (pc' := 9) (j := 0) ha rfl (by omega) rfl rfl rfl ?_
    refine hp_go (t := 20) rfl rfl ?_
    refine hp_ic (pc' := 21) (x := 0) rfl rfl rfl ?_
    refine hp_ri rfl rfl ?_
    refine ⟨_, _, _, rfl, by rw [hc]; rfl, ha, Nat.le_succ _, Nat.le_add_right _ _, rfl, rfl, fun _ => ?_⟩
    exact el_up (f := M.2.2) (z := Int32.toInt64 (M.1 (236 + x1.toInt.toNat) x2.toInt.toNat))
theorem me_ok (ha : a.1 = rx_cells) (hM : ax_J0 ax_sp ax_rf M) : hp X (d + 2) 241 0 [some (.ref 244), some (.int x1), some (.int x2)] [] a M (fun o => ∃ (w : Int64) (M1 : rx_M) (z : Int32), o = (some (.long w), a, M1) ∧ M1.2 = M.2 ∧ M1.1 = rx_up M.1 244 0 z ∧ z.toInt = el_c x1.toInt x2.toInt (M.1 283 x1.toInt.toNat).toInt (M.1 286 x1.toInt.toNat).toInt ∧ (el_c x1.toInt x2.toInt (M.1 283 x1.toInt.toNat).toInt (M.1 286 x1.toInt.toNat).toInt = 0 → w = Int32.toInt64 (M.1 287 (80 * x1.toInt.toNat + x2.toInt.toNat)))) := by
  have zz0 : (0 : Int32).toInt = 0 := rfl
  have zz1 : (1 : Int32).toInt = 1 := rfl
  have zz2 : (2 : Int32).toInt = 2 := rfl
  have zz80 : (80 : Int32).toInt = 80 := rfl
  refine hp_al (pc' := 1) (j := 0) (Or.inr ⟨0, rfl, rfl, rfl⟩) rfl ?_
  refine hp_al (pc' := 2) (j := 0) (Or.inr ⟨0, rfl, rfl, rfl⟩) rfl ?_
  refine hp_il (pc' := 3) (j := 1) (Or.inr ⟨1, rfl, rfl, rfl⟩) rfl ?_
  refine hp_cv (Q := fun o => ∃ r : Int32, o = (some (.int r), a, M) ∧ (r.toInt = 0 ∨ r.toInt = 1) ∧ (r.toInt ≠ 0 ↔ (0 ≤ (x1 : Int32).toInt ∧ (x1 : Int32).toInt ≤ 7))) (pc' := 6) (e := (d + 1)) (vs := [.int x1]) (r := [.ref 244]) ha rfl rfl rfl rfl rfl rfl rfl rfl (sh_ok (d := d) ha) (fun o ho => ?_)
  obtain ⟨r1, eo, qr1⟩ := ho
  subst eo
  refine ⟨_, rfl, ?_⟩
  show hp X ((d + 1) + 1) 241 6 [some (.ref 244), some (.int x1), some (.int x2)] [.int r1, .ref 244] a M _
  refine hp_zne (t := 13) (pc' := 9) rfl rfl rfl (fun c2 => ?_) (fun c2 => ?_)
  · have hq1 := qr1.2.mp (by assumption)
    obtain ⟨D, hD, hD8⟩ : ∃ D : Nat, x1.toInt = (D : Int) ∧ D < 8 := ⟨x1.toInt.toNat, by omega, by omega⟩
    have eD : x1.toInt.toNat = D := by omega
    have bz : 0 ≤ (M.1 286 D).toInt ∧ (M.1 286 D).toInt ≤ 80 := hM.1 286 D
    refine hp_al (pc' := 14) (j := 0) (Or.inr ⟨0, rfl, rfl, rfl⟩) rfl ?_
    refine hp_gr (pc' := 17) ha (hM.2.1 244 50 283 rfl) rfl rfl rfl rfl ?_
    refine hp_il (pc' := 18) (j := 1) (Or.inr ⟨1, rfl, rfl, rfl⟩) rfl ?_
    refine hp_ld (pc' := 19) (j := D) ha hD (by omega) rfl rfl rfl ?_
    refine hp_ic (pc' := 20) (x := 2) rfl rfl rfl ?_
    refine hp_ine (t := 40) (pc' := 23) rfl rfl rfl (fun c3 => ?_) (fun c3 => ?_)
    · refine hp_ic (pc' := 41) (x := 2) rfl rfl rfl ?_
      refine hp_go (t := 45) rfl rfl ?_
      have hc : el_c x1.toInt x2.toInt (M.1 283 x1.toInt.toNat).toInt (M.1 286 x1.toInt.toNat).toInt = 2 := by
        rw [eD]
        unfold el_c
        rw [if_neg (by omega), if_neg (fun w => by omega)]
      refine hp_pf (pc' := 48) (j := 0) ha rfl rfl rfl rfl (fun M4 eM4 gM4 => ?_)
      have tM4 : M4.1 244 0 = (2 : Int32) := by rw [eM4, hp_up_eq]
      have hM4 : True ∧ hp_R M4 ∧ True := ⟨trivial, hp_Re hM.2.1 gM4, trivial⟩
      refine hp_al (pc' := 49) (j := 0) (Or.inr ⟨0, rfl, rfl, rfl⟩) rfl ?_
      refine hp_gi (pc' := 52) (j := 0) (t := 0) ha rfl rfl rfl (by decide) rfl ?_
      refine hp_zle (t := 59) (pc' := 55) rfl rfl rfl (fun c5 => ?_) (fun c5 => ?_)
      · exfalso
        rw [tM4] at c5
        omega
      · refine hp_s (pc' := 56) (st' := [.long (0)]) rfl ?_
        refine hp_go (t := 71) rfl rfl ?_
        refine hp_rl rfl rfl ?_
        exact ⟨_, M4, _, rfl, gM4, eM4, by rw [hc]; rfl, fun w => by omega⟩
    · refine hp_al (pc' := 24) (j := 0) (Or.inr ⟨0, rfl, rfl, rfl⟩) rfl ?_
      refine hp_il (pc' := 25) (j := 2) (Or.inr ⟨2, rfl, rfl, rfl⟩) rfl ?_
      refine hp_ic (pc' := 26) (x := 0) rfl rfl rfl ?_
      refine hp_al (pc' := 27) (j := 0) (Or.inr ⟨0, rfl, rfl, rfl⟩) rfl ?_
      refine hp_gr (pc' := 30) ha (hM.2.1 244 53 286 rfl) rfl rfl rfl rfl ?_
      refine hp_il (pc' := 31) (j := 1) (Or.inr ⟨1, rfl, rfl, rfl⟩) rfl ?_
      refine hp_ld (pc' := 32) (j := D) ha hD (by omega) rfl rfl rfl ?_
      refine hp_ic (pc' := 33) (x := 1) rfl rfl rfl ?_
      refine hp_sub (pc' := 34) rfl rfl (fun z4 hz4 => ?_)
      have yz4 : z4.toInt = (M.1 286 D).toInt - 1 := by rw [hz4, ax_sub (by omega) (by omega), zz1]
      refine hp_cv (Q := fun o => ∃ r : Int32, o = (some (.int r), a, M) ∧ (r.toInt = 0 ∨ r.toInt = 1) ∧ (r.toInt ≠ 0 ↔ (((0 : Int32) : Int32).toInt ≤ (x2 : Int32).toInt ∧ (x2 : Int32).toInt ≤ (z4 : Int32).toInt))) (pc' := 37) (e := (d + 1)) (vs := [.int x2, .int (0 : Int32), .int z4]) (r := [.ref 244]) ha rfl rfl rfl rfl rfl rfl rfl rfl in_ok (fun o ho => ?_)
      obtain ⟨r5, eo, qr5⟩ := ho
      subst eo
      refine ⟨_, rfl, ?_⟩
      show hp X ((d + 1) + 1) 241 37 [some (.ref 244), some (.int x1), some (.int x2)] [.int r5, .ref 244] a M _
      refine hp_zne (t := 44) (pc' := 40) rfl rfl rfl (fun c6 => ?_) (fun c6 => ?_)
      · refine hp_ic (pc' := 45) (x := 0) rfl rfl rfl ?_
        have hc : el_c x1.toInt x2.toInt (M.1 283 x1.toInt.toNat).toInt (M.1 286 x1.toInt.toNat).toInt = 0 := by
          rw [eD]
          unfold el_c
          rw [if_neg (by omega), if_pos ⟨by omega, by omega, by omega⟩]
        have hq2 := qr5.2.mp (by assumption)
        obtain ⟨I, hI, hI8⟩ : ∃ I : Nat, x2.toInt = (I : Int) ∧ I < 80 := ⟨x2.toInt.toNat, by omega, by omega⟩
        have eI : x2.toInt.toNat = I := by omega
        refine hp_pf (pc' := 48) (j := 0) ha rfl rfl rfl rfl (fun M7 eM7 gM7 => ?_)
        have tM7 : M7.1 244 0 = (0 : Int32) := by rw [eM7, hp_up_eq]
        have hM7 : True ∧ hp_R M7 ∧ True := ⟨trivial, hp_Re hM.2.1 gM7, trivial⟩
        refine hp_al (pc' := 49) (j := 0) (Or.inr ⟨0, rfl, rfl, rfl⟩) rfl ?_
        refine hp_gi (pc' := 52) (j := 0) (t := 0) ha rfl rfl rfl (by decide) rfl ?_
        refine hp_zle (t := 59) (pc' := 55) rfl rfl rfl (fun c8 => ?_) (fun c8 => ?_)
        · refine hp_al (pc' := 60) (j := 0) (Or.inr ⟨0, rfl, rfl, rfl⟩) rfl ?_
          refine hp_gr (pc' := 63) ha (hM7.2.1 244 54 287 rfl) rfl rfl rfl rfl ?_
          refine hp_bi (pc' := 65) (x := 80) rfl rfl rfl ?_
          refine hp_il (pc' := 66) (j := 1) (Or.inr ⟨1, rfl, rfl, rfl⟩) rfl ?_
          refine hp_mul (pc' := 67) rfl rfl (fun z9 hz9 => ?_)
          have xz9 : z9.toInt = (((80 * D) : Nat) : Int) := hp_m80 hD (by omega) hz9
          refine hp_il (pc' := 68) (j := 2) (Or.inr ⟨2, rfl, rfl, rfl⟩) rfl ?_
          refine hp_add (pc' := 69) rfl rfl (fun z10 hz10 => ?_)
          have xz10 : z10.toInt = (((80 * D + I) : Nat) : Int) := hp_aa xz9 hI (by omega) hz10
          refine hp_ld (pc' := 70) (j := (80 * D + I)) ha xz10 (by omega) rfl rfl rfl ?_
          refine hp_s (pc' := 71) (st' := [.long (Int32.toInt64 (M7.1 287 (80 * D + I)))]) rfl ?_
          refine hp_rl rfl rfl ?_
          exact ⟨_, M7, _, rfl, gM7, eM7, by rw [hc]; rfl, fun _ => by
            rw [eD, eI, eM7, hp_up_ne (by omega)]⟩
        · exfalso
          rw [tM7] at c8
          omega
      · refine hp_ic (pc' := 41) (x := 2) rfl rfl rfl ?_
        refine hp_go (t := 45) rfl rfl ?_
        have hc : el_c x1.toInt x2.toInt (M.1 283 x1.toInt.toNat).toInt (M.1 286 x1.toInt.toNat).toInt = 2 := by
          rw [eD]
          unfold el_c
          rw [if_neg (by omega), if_neg (fun w => by omega)]
        refine hp_pf (pc' := 48) (j := 0) ha rfl rfl rfl rfl (fun M7 eM7 gM7 => ?_)
        have tM7 : M7.1 244 0 = (2 : Int32) := by rw [eM7, hp_up_eq]
        have hM7 : True ∧ hp_R M7 ∧ True := ⟨trivial, hp_Re hM.2.1 gM7, trivial⟩
        refine hp_al (pc' := 49) (j := 0) (Or.inr ⟨0, rfl, rfl, rfl⟩) rfl ?_
        refine hp_gi (pc' := 52) (j := 0) (t := 0) ha rfl rfl rfl (by decide) rfl ?_
        refine hp_zle (t := 59) (pc' := 55) rfl rfl rfl (fun c8 => ?_) (fun c8 => ?_)
        · exfalso
          rw [tM7] at c8
          omega
        · refine hp_s (pc' := 56) (st' := [.long (0)]) rfl ?_
          refine hp_go (t := 71) rfl rfl ?_
          refine hp_rl rfl rfl ?_
          exact ⟨_, M7, _, rfl, gM7, eM7, by rw [hc]; rfl, fun w => by omega⟩
  · refine hp_ic (pc' := 10) (x := 1) rfl rfl rfl ?_
    refine hp_go (t := 45) rfl rfl ?_
    have hc : el_c x1.toInt x2.toInt (M.1 283 x1.toInt.toNat).toInt (M.1 286 x1.toInt.toNat).toInt = 1 := by
      unfold el_c
      rw [if_pos (by omega)]
    refine hp_pf (pc' := 48) (j := 0) ha rfl rfl rfl rfl (fun M7 eM7 gM7 => ?_)
    have tM7 : M7.1 244 0 = (1 : Int32) := by rw [eM7, hp_up_eq]
    have hM7 : True ∧ hp_R M7 ∧ True := ⟨trivial, hp_Re hM.2.1 gM7, trivial⟩
    refine hp_al (pc' := 49) (j := 0) (Or.inr ⟨0, rfl, rfl, rfl⟩) rfl ?_
    refine hp_gi (pc' := 52) (j := 0) (t := 0) ha rfl rfl rfl (by decide) rfl ?_
    refine hp_zle (t := 59) (pc' := 55) rfl rfl rfl (fun c8 => ?_) (fun c8 => ?_)
    · exfalso
      rw [tM7] at c8
      omega
    · refine hp_s (pc' := 56) (st' := [.long (0)]) rfl ?_
      refine hp_go (t := 71) rfl rfl ?_
      refine hp_rl rfl rfl ?_
      exact ⟨_, M7, _, rfl, gM7, eM7, by rw [hc]; rfl, fun w => by omega⟩
end EL
