/-! the law's cases of road and reached, by hand -/
/-- what both sides hold alike: the roads -/
noncomputable def ri_R (M : rx_M) : Prop := ∀ p q, p < 6 → q < 6 → M.1 (8 + p) q = M.1 248 (6 * p + q)
noncomputable def ri_N (M M2 : rx_M) : Prop := ri_R M2 ∧ M2.1 14 16 = M.1 14 16 ∧ M2.1 14 12 = M.1 14 12 ∧ M2.1 244 1 = M2.1 1 4
theorem ri_hR {w : ax_D} (h : ∀ q j, ((8 ≤ q ∧ q ≤ 13) ∨ q = 248) → ¬ ax_wd w q j) (M M' : rx_M) (e : ∀ q j, ¬ ax_wd w q j → M'.1 q j = M.1 q j) (hR : ri_R M) : ri_R M' := by
  intro p q hp hq
  rw [e (8 + p) q (h _ _ (by omega)), e 248 _ (h _ _ (by omega))]
  exact hR p q hp hq
theorem rd_end {x1 x2 x3 r1 r2 : Int32} {M M1 M2 : rx_M} (hR : ri_R M) (hc : M.1 244 1 = M.1 1 4) (h1 : (¬ rd_ok x1.toInt x2.toInt x3.toInt ∧ r1.toInt = -1 ∧ M1.1 = M.1) ∨ (rd_ok x1.toInt x2.toInt x3.toInt ∧ r1 = rd_vx M x1.toInt.toNat x2.toInt.toNat ∧ rd_Fx x1.toInt.toNat x2.toInt.toNat x3 M M1)) (h2 : (¬ rd_ok x1.toInt x2.toInt x3.toInt ∧ r2.toInt = -1 ∧ M2.1 = M1.1) ∨ (rd_ok x1.toInt x2.toInt x3.toInt ∧ r2 = rd_vm M1 x1.toInt.toNat x2.toInt.toNat ∧ rd_Fm x1.toInt.toNat x2.toInt.toNat x3 M1 M2)) : r1.toInt = r2.toInt ∧ ri_N M M2 := by
  rcases h1 with ⟨n1, q1, e1⟩ | ⟨o1, q1, f1, f2, f3⟩
  · rcases h2 with ⟨n2, q2, e2⟩ | ⟨o2, -⟩
    · have e : M2.1 = M.1 := e2.trans e1
      exact ⟨by omega, fun p q hp hq => by rw [e]; exact hR p q hp hq, by rw [e], by rw [e], by rw [e]; exact hc⟩
    · exact absurd o2 n1
  · rcases h2 with ⟨n2, -⟩ | ⟨o2, q2, g1, g2, g3⟩
    · exact absurd o1 n2
    · obtain ⟨⟨a1, a2⟩, ⟨a3, a4⟩, a5, a6, a7⟩ := o1
      have e : ∀ q j, ¬ ((8 ≤ q ∧ q ≤ 13) ∨ q = 248) → M2.1 q j = M.1 q j := fun q j h => (g3 q j (by omega) (by omega)).trans (f3 q j (by omega) (by omega))
      refine ⟨?_, fun p q hp hq => ?_, e 14 16 (by omega), e 14 12 (by omega), ?_⟩
      · have k1 := hR x1.toInt.toNat x2.toInt.toNat (by omega) (by omega)
        have k2 := f3 248 (6 * x1.toInt.toNat + x2.toInt.toNat) (by omega) (by omega)
        rw [q1, q2]
        unfold rd_vx rd_vm
        rw [k1, k2]
      · by_cases c1 : p = x1.toInt.toNat ∧ q = x2.toInt.toNat
        · have k := g3 (8 + x1.toInt.toNat) x2.toInt.toNat (by omega) (by omega)
          rw [c1.1, c1.2, k, f1, g1]
        · by_cases c2 : p = x2.toInt.toNat ∧ q = x1.toInt.toNat
          · have k := g3 (8 + x2.toInt.toNat) x1.toInt.toNat (by omega) (by omega)
            rw [c2.1, c2.2, k, f2, g2]
          · rw [g3 (8 + p) q (by omega) (by omega), f3 (8 + p) q (by omega) (by omega), g3 248 (6 * p + q) (by omega) (by omega), f3 248 (6 * p + q) (by omega) (by omega)]
            exact hR p q hp hq
      · rw [e 244 1 (by omega), e 1 4 (by omega)]
        exact hc
/-- the unknowns, six ints further -/
noncomputable def wk_v (v : ax_V) (M : rx_M) : ax_V := fun k => if k = 1 then ((v 1).1 + Int32.ofInt 6, 0) else if k = 2 then (M.1 1 4, 0) else v k
theorem wk_next {v : ax_V} {M M3 : rx_M} (h1 : ax_ok v ax_c_law.2.1) (h2 : ax_kn v ax_c_law.2.2.1 M) (hJ3 : ax_J0 ax_sp ax_rf M3) (hi : 0 ≤ (v 1).1.toInt) (hi6 : (v 1).1.toInt + 6 ≤ 3072) (f1 : M3.1 14 16 = M.1 14 16) (f2 : M3.1 14 12 = M.1 14 12) (f3 : M3.1 244 1 = M3.1 1 4) : ax_ok (wk_v v M3) ax_c_law.2.1 ∧ ax_kn (wk_v v M3) ax_c_law.2.2.1 M3 ∧ (wk_v v M3 1).1.toInt = (v 1).1.toInt + 6 := by
  have e6 : (Int32.ofInt 6).toInt = 6 := rfl
  have e : (wk_v v M3 1).1.toInt = (v 1).1.toInt + 6 := by
    show ((v 1).1 + Int32.ofInt 6).toInt = _
    rw [ax_add (by omega) (by omega), e6]
  have key : ∀ e ∈ ([(14, .int 16, .retAddr 4), (14, .int 12, .retAddr 3), (244, .int 1, .retAddr 2), (1, .int 4, .retAddr 2)] : ax_K), ax_k1 v M e := h2
  have m1 : M.1 14 16 = (v 4).1 := ax_k1_i (key (14, .int 16, .retAddr 4) (by simp)) rfl
  have m2 : M.1 14 12 = (v 3).1 := ax_k1_i (key (14, .int 12, .retAddr 3) (by simp)) rfl
  refine ⟨⟨fun k => ?_, fun d hd => ?_, fun d hd => ?_, fun d hd => ?_⟩, fun q hq => ?_, e⟩
  · by_cases q : k = 1
    · rw [q, e]
      show (0 : Int) ≤ (v 1).1.toInt + 6 ∧ (v 1).1.toInt + 6 ≤ 3072
      omega
    · by_cases q2 : k = 2
      · rw [q2]
        exact hJ3.1 1 4
      · have e2 : wk_v v M3 k = v k := by
          unfold wk_v
          rw [if_neg q, if_neg q2]
        rw [e2]
        exact h1.1 k
  · cases hd
  · cases hd
  · cases List.mem_singleton.mp hd
    exact h1.2.2.2 _ (List.mem_singleton.mpr rfl)
  · have hq : q ∈ ([(14, .int 16, .retAddr 4), (14, .int 12, .retAddr 3), (244, .int 1, .retAddr 2), (1, .int 4, .retAddr 2)] : ax_K) := hq
    simp only [List.mem_cons, List.not_mem_nil, or_false] at hq
    rcases hq with r | r | r | r
    · subst r
      exact ⟨rfl, Or.inl ⟨rfl, f1.trans m1⟩⟩
    · subst r
      exact ⟨rfl, Or.inl ⟨rfl, f2.trans m2⟩⟩
    · subst r
      exact ⟨rfl, Or.inl ⟨rfl, f3⟩⟩
    · subst r
      exact ⟨rfl, Or.inl ⟨rfl, rfl⟩⟩
section WK
variable {X : Nat × (Nat → Int32)} {a : rx_K} {M : rx_M} {P : rx_O → Prop} {xi : Int32} {i : Nat}
theorem wk_road (hxi : xi.toInt = (i : Int)) (hi : i + 6 ≤ X.1) (hX : X.1 ≤ 3072) (ha : a.1 = rx_cells) (hJ : ax_J0 ax_sp ax_rf M) (hR : ri_R M) (hc : M.1 244 1 = M.1 1 4) (KK : ∀ (M2 : rx_M) (a2 : rx_K), a2.1 = rx_cells → a2.2.1 ≤ a.2.1 → a2.2.2 ≤ a.2.2 → ax_J0 ax_sp ax_rf M2 → ri_N M M2 → hp X 45 249 23 [some (.ref 1000), some (.ref 0), some (.ref 244), some (.ref 290), some (.int (xi + Int32.ofInt 6)), none, none, none] [] a2 M2 P) : hp X 45 249 294 [some (.ref 1000), some (.ref 0), some (.ref 244), some (.ref 290), some (.int xi), none, none, none] [] a M P := by
  refine hp_al (pc' := 295) (j := 1) (Or.inr ⟨1, rfl, rfl, rfl⟩) rfl ?_
  refine hp_al (pc' := 296) (j := 0) (Or.inr ⟨0, rfl, rfl, rfl⟩) rfl ?_
  refine hp_il (pc' := 298) (j := 4) (Or.inl ⟨rfl, rfl⟩) rfl ?_
  refine hp_ic (pc' := 299) (x := 1) rfl rfl rfl ?_
  refine hp_add (pc' := 300) rfl rfl (fun z1 hz1 => ?_)
  have xz1 : z1.toInt = (((i + 1) : Nat) : Int) := hp_aa hxi rfl (by omega) hz1
  refine hp_sc (pc' := 301) (j := (i + 1)) xz1 (by omega) rfl rfl ?_
  refine hp_al (pc' := 302) (j := 0) (Or.inr ⟨0, rfl, rfl, rfl⟩) rfl ?_
  refine hp_il (pc' := 304) (j := 4) (Or.inl ⟨rfl, rfl⟩) rfl ?_
  refine hp_ic (pc' := 305) (x := 2) rfl rfl rfl ?_
  refine hp_add (pc' := 306) rfl rfl (fun z2 hz2 => ?_)
  have xz2 : z2.toInt = (((i + 2) : Nat) : Int) := hp_aa hxi rfl (by omega) hz2
  refine hp_sc (pc' := 307) (j := (i + 2)) xz2 (by omega) rfl rfl ?_
  refine hp_al (pc' := 308) (j := 0) (Or.inr ⟨0, rfl, rfl, rfl⟩) rfl ?_
  refine hp_il (pc' := 310) (j := 4) (Or.inl ⟨rfl, rfl⟩) rfl ?_
  refine hp_ic (pc' := 311) (x := 3) rfl rfl rfl ?_
  refine hp_add (pc' := 312) rfl rfl (fun z3 hz3 => ?_)
  have xz3 : z3.toInt = (((i + 3) : Nat) : Int) := hp_aa hxi rfl (by omega) hz3
  refine hp_sc (pc' := 313) (j := (i + 3)) xz3 (by omega) rfl rfl ?_
  refine hp_cx (q := 0) (Q := rd_Q rd_vx rd_Fx (X.2 (i + 1)) (X.2 (i + 2)) (X.2 (i + 3)) a M) (pc' := 316) (e := 44) (vs := [.int (X.2 (i + 1)), .int (X.2 (i + 2)), .int (X.2 (i + 3))]) (r := []) ha rfl rfl rfl rfl rfl rfl rfl rfl (xrd_ok (d := 41) ha ⟨hJ.2.1, trivial⟩) (fun o ho => ?_)
  obtain ⟨r1, M1, eo, gM1, fM1⟩ := ho
  subst eo
  refine ⟨_, rfl, ?_⟩
  show hp X 45 249 316 [some (.ref 1000), some (.ref 0), some (.ref 244), some (.ref 290), some (.int xi), none, none, none] [.int r1] a M1 _
  have jM1 := rd_Jx hJ gM1 fM1
  refine hp_pop (pc' := 317) rfl rfl rfl ?_
  refine hp_al (pc' := 318) (j := 2) (Or.inr ⟨2, rfl, rfl, rfl⟩) rfl ?_
  refine hp_al (pc' := 319) (j := 0) (Or.inr ⟨0, rfl, rfl, rfl⟩) rfl ?_
  refine hp_il (pc' := 321) (j := 4) (Or.inl ⟨rfl, rfl⟩) rfl ?_
  refine hp_ic (pc' := 322) (x := 1) rfl rfl rfl ?_
  refine hp_add (pc' := 323) rfl rfl (fun z4 hz4 => ?_)
  have xz4 : z4.toInt = (((i + 1) : Nat) : Int) := hp_aa hxi rfl (by omega) hz4
  refine hp_sc (pc' := 324) (j := (i + 1)) xz4 (by omega) rfl rfl ?_
  refine hp_al (pc' := 325) (j := 0) (Or.inr ⟨0, rfl, rfl, rfl⟩) rfl ?_
  refine hp_il (pc' := 327) (j := 4) (Or.inl ⟨rfl, rfl⟩) rfl ?_
  refine hp_ic (pc' := 328) (x := 2) rfl rfl rfl ?_
  refine hp_add (pc' := 329) rfl rfl (fun z5 hz5 => ?_)
  have xz5 : z5.toInt = (((i + 2) : Nat) : Int) := hp_aa hxi rfl (by omega) hz5
  refine hp_sc (pc' := 330) (j := (i + 2)) xz5 (by omega) rfl rfl ?_
  refine hp_al (pc' := 331) (j := 0) (Or.inr ⟨0, rfl, rfl, rfl⟩) rfl ?_
  refine hp_il (pc' := 333) (j := 4) (Or.inl ⟨rfl, rfl⟩) rfl ?_
  refine hp_ic (pc' := 334) (x := 3) rfl rfl rfl ?_
  refine hp_add (pc' := 335) rfl rfl (fun z6 hz6 => ?_)
  have xz6 : z6.toInt = (((i + 3) : Nat) : Int) := hp_aa hxi rfl (by omega) hz6
  refine hp_sc (pc' := 336) (j := (i + 3)) xz6 (by omega) rfl rfl ?_
  refine hp_cv (Q := rd_Q rd_vm rd_Fm (X.2 (i + 1)) (X.2 (i + 2)) (X.2 (i + 3)) a M1) (pc' := 339) (e := 44) (vs := [.int (X.2 (i + 1)), .int (X.2 (i + 2)), .int (X.2 (i + 3))]) (r := []) ha rfl rfl rfl rfl rfl rfl rfl rfl (mrd_ok (d := 43) ha ⟨jM1.2.1, trivial⟩) (fun o ho => ?_)
  obtain ⟨r2, M2, eo, gM2, fM2⟩ := ho
  subst eo
  refine ⟨_, rfl, ?_⟩
  show hp X 45 249 339 [some (.ref 1000), some (.ref 0), some (.ref 244), some (.ref 290), some (.int xi), none, none, none] [.int r2] a M2 _
  have jM2 := rd_Jm jM1 gM2 fM2
  refine hp_pop (pc' := 340) rfl rfl rfl ?_
  refine hp_go (t := 1684) rfl rfl ?_
  refine hp_in (pc' := 1687) (j := 4) (ls' := [some (.ref 1000), some (.ref 0), some (.ref 244), some (.ref 290), some (.int (xi + Int32.ofInt (6))), none, none, none]) rfl rfl rfl rfl rfl ?_
  refine hp_go (t := 23) rfl rfl ?_
  exact KK M2 a ha (Nat.le_refl _) (Nat.le_refl _) jM2 (rd_end hR hc fM1 fM2).2
theorem wk_reached (hxi : xi.toInt = (i : Int)) (hi : i + 6 ≤ X.1) (hX : X.1 ≤ 3072) (ha : a.1 = rx_cells) (hJ : ax_J0 ax_sp ax_rf M) (hR : ri_R M) (hc : M.1 244 1 = M.1 1 4) (KK : ∀ (M2 : rx_M) (a2 : rx_K), a2.1 = rx_cells → a2.2.1 ≤ a.2.1 → a2.2.2 ≤ a.2.2 → ax_J0 ax_sp ax_rf M2 → ri_N M M2 → hp X 45 249 23 [some (.ref 1000), some (.ref 0), some (.ref 244), some (.ref 290), some (.int (xi + Int32.ofInt 6)), none, none, none] [] a2 M2 P) : hp X 45 249 343 [some (.ref 1000), some (.ref 0), some (.ref 244), some (.ref 290), some (.int xi), none, none, none] [] a M P := by
  refine hp_al (pc' := 344) (j := 1) (Or.inr ⟨1, rfl, rfl, rfl⟩) rfl ?_
  refine hp_al (pc' := 345) (j := 0) (Or.inr ⟨0, rfl, rfl, rfl⟩) rfl ?_
  refine hp_il (pc' := 347) (j := 4) (Or.inl ⟨rfl, rfl⟩) rfl ?_
  refine hp_ic (pc' := 348) (x := 1) rfl rfl rfl ?_
  refine hp_add (pc' := 349) rfl rfl (fun z1 hz1 => ?_)
  have xz1 : z1.toInt = (((i + 1) : Nat) : Int) := hp_aa hxi rfl (by omega) hz1
  refine hp_sc (pc' := 350) (j := (i + 1)) xz1 (by omega) rfl rfl ?_
  refine hp_al (pc' := 351) (j := 0) (Or.inr ⟨0, rfl, rfl, rfl⟩) rfl ?_
  refine hp_il (pc' := 353) (j := 4) (Or.inl ⟨rfl, rfl⟩) rfl ?_
  refine hp_ic (pc' := 354) (x := 2) rfl rfl rfl ?_
  refine hp_add (pc' := 355) rfl rfl (fun z2 hz2 => ?_)
  have xz2 : z2.toInt = (((i + 2) : Nat) : Int) := hp_aa hxi rfl (by omega) hz2
  refine hp_sc (pc' := 356) (j := (i + 2)) xz2 (by omega) rfl rfl ?_
  refine hp_al (pc' := 357) (j := 0) (Or.inr ⟨0, rfl, rfl, rfl⟩) rfl ?_
  refine hp_il (pc' := 359) (j := 4) (Or.inl ⟨rfl, rfl⟩) rfl ?_
  refine hp_ic (pc' := 360) (x := 3) rfl rfl rfl ?_
  refine hp_add (pc' := 361) rfl rfl (fun z3 hz3 => ?_)
  have xz3 : z3.toInt = (((i + 3) : Nat) : Int) := hp_aa hxi rfl (by omega) hz3
  refine hp_sc (pc' := 362) (j := (i + 3)) xz3 (by omega) rfl rfl ?_
  refine hp_cx (q := 0) (Q := fun o => ∃ r : Int32, o = (some (.int r), a, M) ∧ r.toInt = rc_v M 5 (X.2 (i + 1)) (X.2 (i + 2)) (X.2 (i + 3))) (pc' := 365) (e := 44) (vs := [.int (X.2 (i + 1)), .int (X.2 (i + 2)), .int (X.2 (i + 3))]) (r := []) ha rfl rfl rfl rfl rfl rfl rfl rfl (xrc_ok (d := 41) ha ⟨hJ.2.1, trivial⟩ hR) (fun o ho => ?_)
  obtain ⟨r1, eo, hr1⟩ := ho
  subst eo
  refine ⟨_, rfl, ?_⟩
  show hp X 45 249 365 [some (.ref 1000), some (.ref 0), some (.ref 244), some (.ref 290), some (.int xi), none, none, none] [.int r1] a M _
  refine hp_al (pc' := 366) (j := 2) (Or.inr ⟨2, rfl, rfl, rfl⟩) rfl ?_
  refine hp_al (pc' := 367) (j := 0) (Or.inr ⟨0, rfl, rfl, rfl⟩) rfl ?_
  refine hp_il (pc' := 369) (j := 4) (Or.inl ⟨rfl, rfl⟩) rfl ?_
  refine hp_ic (pc' := 370) (x := 1) rfl rfl rfl ?_
  refine hp_add (pc' := 371) rfl rfl (fun z4 hz4 => ?_)
  have xz4 : z4.toInt = (((i + 1) : Nat) : Int) := hp_aa hxi rfl (by omega) hz4
  refine hp_sc (pc' := 372) (j := (i + 1)) xz4 (by omega) rfl rfl ?_
  refine hp_al (pc' := 373) (j := 0) (Or.inr ⟨0, rfl, rfl, rfl⟩) rfl ?_
  refine hp_il (pc' := 375) (j := 4) (Or.inl ⟨rfl, rfl⟩) rfl ?_
  refine hp_ic (pc' := 376) (x := 2) rfl rfl rfl ?_
  refine hp_add (pc' := 377) rfl rfl (fun z5 hz5 => ?_)
  have xz5 : z5.toInt = (((i + 2) : Nat) : Int) := hp_aa hxi rfl (by omega) hz5
  refine hp_sc (pc' := 378) (j := (i + 2)) xz5 (by omega) rfl rfl ?_
  refine hp_al (pc' := 379) (j := 0) (Or.inr ⟨0, rfl, rfl, rfl⟩) rfl ?_
  refine hp_il (pc' := 381) (j := 4) (Or.inl ⟨rfl, rfl⟩) rfl ?_
  refine hp_ic (pc' := 382) (x := 3) rfl rfl rfl ?_
  refine hp_add (pc' := 383) rfl rfl (fun z6 hz6 => ?_)
  have xz6 : z6.toInt = (((i + 3) : Nat) : Int) := hp_aa hxi rfl (by omega) hz6
  refine hp_sc (pc' := 384) (j := (i + 3)) xz6 (by omega) rfl rfl ?_
  refine hp_cv (Q := fun o => ∃ r : Int32, o = (some (.int r), a, M) ∧ r.toInt = rc_v M 6 (X.2 (i + 1)) (X.2 (i + 2)) (X.2 (i + 3))) (pc' := 387) (e := 44) (vs := [.int (X.2 (i + 1)), .int (X.2 (i + 2)), .int (X.2 (i + 3))]) (r := [.int r1]) ha rfl rfl rfl rfl rfl rfl rfl rfl (mrc_ok (d := 42) ha ⟨hJ.2.1, trivial⟩) (fun o ho => ?_)
  obtain ⟨r2, eo, hr2⟩ := ho
  subst eo
  refine ⟨_, rfl, ?_⟩
  show hp X 45 249 387 [some (.ref 1000), some (.ref 0), some (.ref 244), some (.ref 290), some (.int xi), none, none, none] [.int r2, .int r1] a M _
  refine hp_ieq (t := 1684) (pc' := 390) rfl rfl rfl (fun c7 => ?_) (fun c7 => ?_)
  · refine hp_in (pc' := 1687) (j := 4) (ls' := [some (.ref 1000), some (.ref 0), some (.ref 244), some (.ref 290), some (.int (xi + Int32.ofInt (6))), none, none, none]) rfl rfl rfl rfl rfl ?_
    refine hp_go (t := 23) rfl rfl ?_
    exact KK M a ha (Nat.le_refl _) (Nat.le_refl _) hJ ⟨hR, rfl, rfl, hc⟩
  · exact absurd (hr1.trans (rc_56.symm.trans hr2.symm)) c7
end WK
theorem wk_HB {X : Nat × (Nat → Int32)} (hX : X.1 ≤ 3072) {T : Nat × Nat} (pc : Nat) (hpc : [294, 343].any (Nat.beq pc) = true) (v2 : ax_V) (M : rx_M) (a : rx_K) (l : List (Option Value)) (h1 : ax_ok v2 ax_c_law.2.1) (h2 : ax_kn v2 ax_c_law.2.2.1 M) (hJ : ax_J0 ax_sp ax_rf M) (hR : ri_R M) (hl : ax_lle (ax_ls v2 ax_c_law.2.2.2.1) l) (h0 : (v2 0).1.toInt = (X.1 : Int)) (hi : 0 ≤ (v2 1).1.toInt) (hi6 : (v2 1).1.toInt + 6 ≤ (X.1 : Int)) (ha : a.1 = rx_cells) (KK : ∀ (v3 : ax_V) (M3 : rx_M) (a3 : rx_K) (l3 : List (Option Value)), ax_ok v3 ax_c_law.2.1 → ax_kn v3 ax_c_law.2.2.1 M3 → ax_J0 ax_sp ax_rf M3 → ri_R M3 → ax_lle (ax_ls v3 ax_c_law.2.2.2.1) l3 → (v3 0).1.toInt = (X.1 : Int) → (v3 1).1.toInt = (v2 1).1.toInt + 6 → a3.1 = rx_cells → a3.2.1 ≤ a.2.1 → a3.2.2 ≤ a.2.2 → ∀ v9 : ax_V, ax_C X (ax_PL T) v9 45 [] 249 (23, l3, [], a3, M3)) (v9 : ax_V) : ax_C X (ax_PL T) v9 45 [] 249 (pc, l, [], a, M) := by
  have hc : M.1 244 1 = M.1 1 4 := by
    have key : ∀ e ∈ ([(14, .int 16, .retAddr 4), (14, .int 12, .retAddr 3), (244, .int 1, .retAddr 2), (1, .int 4, .retAddr 2)] : ax_K), ax_k1 v2 M e := h2
    have m1 : M.1 244 1 = (v2 2).1 := ax_k1_i (key (244, .int 1, .retAddr 2) (by simp)) rfl
    have m2 : M.1 1 4 = (v2 2).1 := ax_k1_i (key (1, .int 4, .retAddr 2) (by simp)) rfl
    exact m1.trans m2.symm
  have KK2 : ∀ (M2 : rx_M) (a2 : rx_K), a2.1 = rx_cells → a2.2.1 ≤ a.2.1 → a2.2.2 ≤ a.2.2 → ax_J0 ax_sp ax_rf M2 → ri_N M M2 → hp X 45 249 23 [some (.ref 1000), some (.ref 0), some (.ref 244), some (.ref 290), some (.int ((v2 1).1 + Int32.ofInt 6)), none, none, none] [] a2 M2 (ax_KT X (ax_PL T) v9 [] 45) := fun M2 a2 u1 u2 u3 u4 u5 => by
    obtain ⟨k1, k2, k3⟩ := wk_next h1 h2 u4 hi (by omega) u5.2.1 u5.2.2.1 u5.2.2.2
    exact KK (wk_v v2 M2) M2 a2 _ k1 k2 u4 u5.1 (ax_lle_rf _) (by show (v2 0).1.toInt = _; exact h0) k3 u1 u2 u3 v9
  have r : hp X 45 249 pc (ax_ls v2 ax_c_law.2.2.2.1) [] a M (ax_KT X (ax_PL T) v9 [] 45) := by
    have e : pc = 294 ∨ pc = 343 := by
      have k : (Nat.beq pc 294 || (Nat.beq pc 343 || false)) = true := hpc
      rw [Bool.or_false, Bool.or_eq_true] at k
      rcases k with k | k
      · exact Or.inl (Nat.eq_of_beq_eq_true k)
      · exact Or.inr (Nat.eq_of_beq_eq_true k)
    rcases e with e | e
    · subst e
      exact wk_road (X := X) (xi := (v2 1).1) (i := (v2 1).1.toInt.toNat) (by omega) (by omega) hX ha hJ hR hc KK2
    · subst e
      exact wk_reached (X := X) (xi := (v2 1).1) (i := (v2 1).1.toInt.toNat) (by omega) (by omega) hX ha hJ hR hc KK2
  obtain ⟨f, o, q1, q2⟩ := r
  exact ⟨f, o, ax_go_mono _ _ _ _ _ _ _ _ _ _ q1 hl, q2⟩
