/-! the reference's mostOf, by hand: hours are sent along the way -/
noncomputable def mo_J3 (n : Nat) (V : Nat → Prop) (kr : Nat → Nat) (Ms M : rx_M) (g : Nat) : Prop := hp_R M ∧ M.2 = Ms.2 ∧ (∀ q j, q ≠ 270 → M.1 q j = Ms.1 q j) ∧ (∀ j, j < 144 → 0 ≤ (M.1 270 j).toInt) ∧ (∀ u w, u < n → w < n → M.1 270 (12 * u + w) = Ms.1 270 (12 * u + w) ∨ (mo_F Ms u ≠ 10000 ∧ mo_F Ms w ≠ 10000 ∧ mo_F Ms w = mo_F Ms u + 1)) ∧ ∀ x, V x → kr x ≤ kr g → 0 ≤ mo_P Ms x → (mo_P Ms x < 12 → M.1 270 (12 * gw_pr (mo_P Ms) x + x) = Ms.1 270 (12 * gw_pr (mo_P Ms) x + x)) ∧ (12 ≤ mo_P Ms x → M.1 270 (12 * x + gw_pr (mo_P Ms) x) = Ms.1 270 (12 * x + gw_pr (mo_P Ms) x))
/-- all who lie on the way -/
noncomputable def mo_W (n : Nat) (V : Nat → Prop) (Ms : rx_M) (f0 : Nat) (c : Int) : Prop := mo_P Ms f0 < 0 ∧ ∀ x, V x → x < n ∧ mo_F Ms x ≠ 10000 ∧ (x = f0 ∨ (0 ≤ mo_P Ms x ∧ V (gw_pr (mo_P Ms) x) ∧ mo_room Ms x c))
section M3
variable {X : Nat × (Nat → Int32)} {d n : Nat} {a : rx_K} {P : rx_O → Prop} {V : Nat → Prop} {kr : Nat → Nat} {Ms M M1 : rx_M} {g f0 : Nat} {c : Int} {R : Nat → Nat → Int → Prop} {r : Nat → Prop} {z : Int32}
theorem mo_P3 (hJ : mo_J3 n V kr Ms M g) (f : Nat) : mo_P M f = mo_P Ms f := by
  unfold mo_P
  rw [hJ.2.2.1 273 f (by omega)]
theorem mo_pr3 (hJ : mo_J3 n V kr Ms M g) (f : Nat) : gw_pr (mo_P M) f = gw_pr (mo_P Ms) f := by
  unfold gw_pr
  rw [mo_P3 hJ]
theorem mo_s (hn12 : n ≤ 12) (hk : ∀ f, f < n → 0 ≤ mo_P Ms f → kr (gw_pr (mo_P Ms) f) < kr f) (hE : gw_E n R r (mo_F Ms) (mo_P Ms)) (hW : mo_W n V Ms f0 c) (hJ : mo_J3 n V kr Ms M g) (hg : V g) (h0 : 0 ≤ mo_P Ms g) {j : Nat} (hj : (mo_P Ms g < 12 ∧ j = 12 * gw_pr (mo_P Ms) g + g) ∨ (12 ≤ mo_P Ms g ∧ j = 12 * g + gw_pr (mo_P Ms) g)) (e : M1.1 = rx_up M.1 270 j z) (e2 : M1.2 = M.2) (hz : 0 ≤ z.toInt) : mo_J3 n V kr Ms M1 (gw_pr (mo_P Ms) g) := by
  obtain ⟨j1, j2, j3, j4, j5, j6⟩ := hJ
  obtain ⟨g1, -, -⟩ := hW.2 g hg
  obtain ⟨t1, t2, t3, t4, t5⟩ := gw_tight hE g1 h0
  have hkg := hk g g1 h0
  have hpl := mo_prl (P := mo_P Ms) (f := g)
  refine ⟨hp_Re j1 e2, e2.trans j2, fun q k hq => ?_, fun k hk2 => ?_, fun u w hu hw => ?_, fun x hx hxk hx0 => ?_⟩
  · rw [e, hp_up_ne (by omega)]
    exact j3 q k hq
  · rw [e]
    by_cases q : k = j
    · rw [q, hp_up_eq]
      exact hz
    · rw [hp_up_ne (fun z => q z.2)]
      exact j4 k hk2
  · rw [e]
    by_cases q : 12 * u + w = j
    · refine Or.inr ?_
      rcases hj with ⟨p, hj⟩ | ⟨p, hj⟩
      · have e1 : gw_pc (mo_P Ms) g = 1 := if_pos p
        have eu : u = gw_pr (mo_P Ms) g := by omega
        have ew : w = g := by omega
        rw [eu, ew]
        rw [e1] at t4
        exact ⟨t3, t5, t4⟩
      · have e1 : gw_pc (mo_P Ms) g = -1 := if_neg (by omega)
        have eu : u = g := by omega
        have ew : w = gw_pr (mo_P Ms) g := by omega
        rw [eu, ew]
        rw [e1] at t4
        exact ⟨t5, t3, by omega⟩
    · rw [hp_up_ne (fun z => q z.2)]
      exact j5 u w hu hw
  · obtain ⟨x1, -, -⟩ := hW.2 x hx
    have hkx := hk x x1 hx0
    have hpx := mo_prl (P := mo_P Ms) (f := x)
    have k6 := j6 x hx (by omega) hx0
    have ne : x ≠ g := fun q => by
      rw [q] at hxk
      omega
    have ne2 : ¬ (x = gw_pr (mo_P Ms) g ∧ gw_pr (mo_P Ms) x = g) := fun q => by
      rw [q.2] at hkx
      omega
    refine ⟨fun q => ?_, fun q => ?_⟩
    · rw [e, hp_up_ne (fun w => by
        have w2 := w.2
        rcases hj with ⟨p, hj⟩ | ⟨p, hj⟩
        · exact ne (by omega)
        · exact ne2 ⟨by omega, by omega⟩)]
      exact k6.1 q
    · rw [e, hp_up_ne (fun w => by
        have w2 := w.2
        rcases hj with ⟨p, hj⟩ | ⟨p, hj⟩
        · exact ne2 ⟨by omega, by omega⟩
        · exact ne (by omega))]
      exact k6.2 q
theorem mo_303 (ha : a.1 = rx_cells) (hn12 : n ≤ 12) {x1 x2 x3 : Int32} (h1 : 1 ≤ x3.toInt) (hk : ∀ f, f < n → 0 ≤ mo_P Ms f → kr (gw_pr (mo_P Ms) f) < kr f) (hE : gw_E n R r (mo_F Ms) (mo_P Ms)) (hW : mo_W n V Ms f0 x3.toInt) : ∀ (m g : Nat) (x4 : Int32) (o5 : Option Value) (M : rx_M), kr g < m → V g → x4.toInt = (g : Int) → mo_J3 n V kr Ms M g → (∀ x4 o5 M g, mo_J3 n V kr Ms M g → hp X d 216 389 [some (.ref 244), some (.int x1), some (.int x2), some (.int x3), some (.int x4), o5] [] a M P) → hp X d 216 303 [some (.ref 244), some (.int x1), some (.int x2), some (.int x3), some (.int x4), o5] [] a M P := by
  intro m
  induction m with
  | zero =>
    intro g x4 o5 M hm hg h4 hJ kk
    exact absurd hm (Nat.not_lt_zero _)
  | succ m ih =>
    intro g x4 o5 M hm hg h4 hJ kk
    have hgn := (hW.2 g hg).1
    have hM := hJ
    refine hp_al (pc' := 304) (j := 0) (Or.inr ⟨0, rfl, rfl, rfl⟩) rfl ?_
    refine hp_gr (pc' := 307) ha (hM.1 244 37 273 rfl) rfl rfl rfl rfl ?_
    refine hp_il (pc' := 309) (j := 4) (Or.inl ⟨rfl, rfl⟩) rfl ?_
    refine hp_ld (pc' := 310) (j := g) ha h4 (by omega) rfl rfl rfl ?_
    refine hp_zlt (t := 389) (pc' := 313) rfl rfl rfl (fun c1 => ?_) (fun c1 => ?_)
    · exact kk x4 o5 M g hJ
    · have h0 : 0 ≤ mo_P Ms g := by
        rw [← mo_P3 hJ]
        exact Int.not_lt.mp c1
      obtain ⟨w1, w2, w3⟩ := hW.2 g hg
      obtain ⟨v1, v2, v3⟩ : 0 ≤ mo_P Ms g ∧ V (gw_pr (mo_P Ms) g) ∧ mo_room Ms g x3.toInt := by
        rcases w3 with e | w3
        · rw [e] at h0
          exact absurd hW.1 (Int.not_lt.mpr h0)
        · exact w3
      have hkr := hk g w1 h0
      obtain ⟨t1, t2, t3, t4, t5⟩ := gw_tight hE w1 h0
      have k6 := hJ.2.2.2.2.2 g hg (Nat.le_refl _) h0
      have h24 := (hE.1.1 g w1 h0).2.2.2.2
      have hpe : (M.1 273 g).toInt = mo_P Ms g := mo_P3 hJ g
      have hM := hJ
      have c12 : (12 : Int32).toInt = 12 := rfl
      have hJM := hJ
      refine hp_al (pc' := 314) (j := 0) (Or.inr ⟨0, rfl, rfl, rfl⟩) rfl ?_
      refine hp_gr (pc' := 317) ha (hM.1 244 37 273 rfl) rfl rfl rfl rfl ?_
      refine hp_il (pc' := 319) (j := 4) (Or.inl ⟨rfl, rfl⟩) rfl ?_
      refine hp_ld (pc' := 320) (j := g) ha h4 (by omega) rfl rfl rfl ?_
      refine hp_bi (pc' := 322) (x := 12) rfl rfl rfl ?_
      refine hp_rem (pc' := 323) rfl rfl (by first | omega | assumption) (by first | decide | omega) (fun z31 hz31 => ?_)
      have xz31 : z31.toInt = ((gw_pr (mo_P Ms) g : Nat) : Int) := by
        rw [← mo_pr3 hJ g]
        exact mo_pr (by rw [mo_P3 hJ]; exact h0) rfl hz31
      refine hp_is (pc' := 325) (j := 5) (ls' := [some (.ref 244), some (.int x1), some (.int x2), some (.int x3), some (.int x4), some (.int z31)]) (Or.inl ⟨rfl, rfl⟩) (by simp) rfl ?_
      refine hp_al (pc' := 326) (j := 0) (Or.inr ⟨0, rfl, rfl, rfl⟩) rfl ?_
      refine hp_gr (pc' := 329) ha (hM.1 244 37 273 rfl) rfl rfl rfl rfl ?_
      refine hp_il (pc' := 331) (j := 4) (Or.inl ⟨rfl, rfl⟩) rfl ?_
      refine hp_ld (pc' := 332) (j := g) ha h4 (by omega) rfl rfl rfl ?_
      refine hp_bi (pc' := 334) (x := 12) rfl rfl rfl ?_
      refine hp_ige (t := 357) (pc' := 337) rfl rfl rfl (fun c32 => ?_) (fun c32 => ?_)
      · refine hp_al (pc' := 358) (j := 0) (Or.inr ⟨0, rfl, rfl, rfl⟩) rfl ?_
        refine hp_gr (pc' := 361) ha (hM.1 244 34 270 rfl) rfl rfl rfl rfl ?_
        refine hp_bi (pc' := 363) (x := 12) rfl rfl rfl ?_
        refine hp_il (pc' := 365) (j := 4) (Or.inl ⟨rfl, rfl⟩) rfl ?_
        refine hp_mul (pc' := 366) rfl rfl (fun z33 hz33 => ?_)
        refine hp_il (pc' := 368) (j := 5) (Or.inl ⟨rfl, rfl⟩) rfl ?_
        refine hp_add (pc' := 369) rfl rfl (fun z34 hz34 => ?_)
        have xz34 : z34.toInt = (((12 * g + gw_pr (mo_P Ms) g) : Nat) : Int) := hp_ix h4 xz31 (by omega) (by omega) hz33 hz34
        refine hp_d2 (pc' := 370) rfl rfl ?_
        refine hp_ld (pc' := 371) (j := (12 * g + gw_pr (mo_P Ms) g)) ha xz34 (by omega) rfl rfl rfl ?_
        refine hp_il (pc' := 372) (j := 3) (Or.inr ⟨3, rfl, rfl, rfl⟩) rfl ?_
        refine hp_sub (pc' := 373) rfl rfl (fun z35 hz35 => ?_)
        have p12 : 12 ≤ mo_P Ms g := by omega
        have room := v3.2 p12
        have same := k6.2 p12
        have old := hJ.2.2.2.1 (12 * g + gw_pr (mo_P Ms) g) (by omega)
        rw [same] at old
        have rg := ax_range (Ms.1 270 (12 * g + gw_pr (mo_P Ms) g))
        have yz35 : z35.toInt = (Ms.1 270 (12 * g + gw_pr (mo_P Ms) g)).toInt - x3.toInt := by
          rw [hz35, same, ax_sub (by omega) (by omega)]
        refine hp_st (pc' := 374) (j := (12 * g + gw_pr (mo_P Ms) g)) ha xz34 (by omega) rfl rfl rfl (fun M36 eM36 gM36 => ?_)
        have hM36 := mo_s hn12 hk hE hW hJ hg h0 (Or.inr ⟨p12, rfl⟩) eM36 gM36 (by omega)
        have hpe2 : (M36.1 273 g).toInt = mo_P Ms g := mo_P3 hM36 g
        refine hp_al (pc' := 375) (j := 0) (Or.inr ⟨0, rfl, rfl, rfl⟩) rfl ?_
        refine hp_gr (pc' := 378) ha (hM36.1 244 37 273 rfl) rfl rfl rfl rfl ?_
        refine hp_il (pc' := 380) (j := 4) (Or.inl ⟨rfl, rfl⟩) rfl ?_
        refine hp_ld (pc' := 381) (j := g) ha h4 (by omega) rfl rfl rfl ?_
        refine hp_bi (pc' := 383) (x := 12) rfl rfl rfl ?_
        refine hp_rem (pc' := 384) rfl rfl (by first | omega | assumption) (by first | decide | omega) (fun z37 hz37 => ?_)
        have xz37 : z37.toInt = ((gw_pr (mo_P Ms) g : Nat) : Int) := by
          rw [← mo_pr3 hM36 g]
          exact mo_pr (by rw [mo_P3 hM36]; exact h0) rfl hz37
        refine hp_is (pc' := 386) (j := 4) (ls' := [some (.ref 244), some (.int x1), some (.int x2), some (.int x3), some (.int z37), some (.int z31)]) (Or.inl ⟨rfl, rfl⟩) (by simp) rfl ?_
        refine hp_go (t := 303) rfl rfl ?_
        exact ih (gw_pr (mo_P Ms) g) _ _ M36 (by omega) v2 xz37 hM36 kk
      · refine hp_al (pc' := 338) (j := 0) (Or.inr ⟨0, rfl, rfl, rfl⟩) rfl ?_
        refine hp_gr (pc' := 341) ha (hM.1 244 34 270 rfl) rfl rfl rfl rfl ?_
        refine hp_bi (pc' := 343) (x := 12) rfl rfl rfl ?_
        refine hp_il (pc' := 345) (j := 5) (Or.inl ⟨rfl, rfl⟩) rfl ?_
        refine hp_mul (pc' := 346) rfl rfl (fun z38 hz38 => ?_)
        refine hp_il (pc' := 348) (j := 4) (Or.inl ⟨rfl, rfl⟩) rfl ?_
        refine hp_add (pc' := 349) rfl rfl (fun z39 hz39 => ?_)
        have xz39 : z39.toInt = (((12 * gw_pr (mo_P Ms) g + g) : Nat) : Int) := hp_ix xz31 h4 (by omega) (by omega) hz38 hz39
        refine hp_d2 (pc' := 350) rfl rfl ?_
        refine hp_ld (pc' := 351) (j := (12 * gw_pr (mo_P Ms) g + g)) ha xz39 (by omega) rfl rfl rfl ?_
        refine hp_il (pc' := 352) (j := 3) (Or.inr ⟨3, rfl, rfl, rfl⟩) rfl ?_
        refine hp_add (pc' := 353) rfl rfl (fun z40 hz40 => ?_)
        have p12 : mo_P Ms g < 12 := by omega
        have room := v3.1 p12
        have same := k6.1 p12
        have old := hJ.2.2.2.1 (12 * gw_pr (mo_P Ms) g + g) (by omega)
        rw [same] at old
        have yz40 : z40.toInt = (Ms.1 270 (12 * gw_pr (mo_P Ms) g + g)).toInt + x3.toInt := by
          have rg := ax_range (Ms.1 268 (12 * gw_pr (mo_P Ms) g + g))
          rw [hz40, same, ax_add (by omega) (by omega)]
        refine hp_st (pc' := 354) (j := (12 * gw_pr (mo_P Ms) g + g)) ha xz39 (by omega) rfl rfl rfl (fun M41 eM41 gM41 => ?_)
        have hM41 := mo_s hn12 hk hE hW hJ hg h0 (Or.inl ⟨p12, rfl⟩) eM41 gM41 (by omega)
        refine hp_go (t := 374) rfl rfl ?_
        have hpe2 : (M41.1 273 g).toInt = mo_P Ms g := mo_P3 hM41 g
        refine hp_al (pc' := 375) (j := 0) (Or.inr ⟨0, rfl, rfl, rfl⟩) rfl ?_
        refine hp_gr (pc' := 378) ha (hM41.1 244 37 273 rfl) rfl rfl rfl rfl ?_
        refine hp_il (pc' := 380) (j := 4) (Or.inl ⟨rfl, rfl⟩) rfl ?_
        refine hp_ld (pc' := 381) (j := g) ha h4 (by omega) rfl rfl rfl ?_
        refine hp_bi (pc' := 383) (x := 12) rfl rfl rfl ?_
        refine hp_rem (pc' := 384) rfl rfl (by first | omega | assumption) (by first | decide | omega) (fun z42 hz42 => ?_)
        have xz42 : z42.toInt = ((gw_pr (mo_P Ms) g : Nat) : Int) := by
          rw [← mo_pr3 hM41 g]
          exact mo_pr (by rw [mo_P3 hM41]; exact h0) rfl hz42
        refine hp_is (pc' := 386) (j := 4) (ls' := [some (.ref 244), some (.int x1), some (.int x2), some (.int x3), some (.int z42), some (.int z31)]) (Or.inl ⟨rfl, rfl⟩) (by simp) rfl ?_
        refine hp_go (t := 303) rfl rfl ?_
        exact ih (gw_pr (mo_P Ms) g) _ _ M41 (by omega) v2 xz42 hM41 kk
end M3
