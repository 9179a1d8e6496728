/-! the reference's goesBy, by hand -/
noncomputable def gb_Q (M0 : rx_M) (a0 : rx_K) (c : Int) (o : rx_O) : Prop := o.1 = none ∧ fo_I M0 a0 o.2.2 o.2.1 ∧ fo_S c o.2.2
theorem fo_Sz {c : Int} {M M1 : rx_M} {j : Nat} {z : Int32} (h : fo_S c M) (e : M1.1 = rx_up M.1 268 j z) (hj : j < 144) (hz : z.toInt = 0) : fo_S c M1 := by
  have b := h.1 j hj
  exact fo_Sw h e hj (by omega) (by omega)
section GB2
variable {X : Nat × (Nat → Int32)} {d n fa fb : Nat} {a a0 : rx_K} {M0 M : rx_M} {P : rx_O → Prop} {k e : Nat} {x1 x2 x3 x4 x5 x6 : Int32} {o6 o7 : Option Value} {c : Int}
theorem gb_263 (ha : a.1 = rx_cells) (hn : (M0.1 244 1).toInt = (n : Int)) (hn12 : n ≤ 12) (h4 : x4.toInt = (fa : Int)) (h5 : x5.toInt = (fb : Int)) (hfa : fa < 12) (hfb : fb < 12) (hc : c ≤ 134217728) : ∀ (m y : Nat) (x6 : Int32) (M : rx_M), m + y = n → x6.toInt = (y : Int) → fo_I M0 a0 M a → fo_S c M → hp X d 200 263 [some (.ref 244), some (.int x1), some (.int x2), some (.int x3), some (.int x4), some (.int x5), some (.int x6), o7] [] a M (gb_Q M0 a0 c) := by
  intro m
  induction m with
  | zero =>
    intro y x6 M hb h6 hM hS
    refine hp_il (pc' := 265) (j := 6) (Or.inl ⟨rfl, rfl⟩) rfl ?_
    have m265 : (M.1 244 1).toInt = (n : Int) := by
      rw [fo_e hM (Or.inr (Or.inr ⟨rfl, by omega⟩))]
      exact hn
    refine hp_al (pc' := 266) (j := 0) (Or.inr ⟨0, rfl, rfl, rfl⟩) rfl ?_
    refine hp_gi (pc' := 269) (j := 1) (t := 0) ha rfl rfl rfl (by decide) rfl ?_
    refine hp_ige (t := 349) (pc' := 272) rfl rfl rfl (fun c1 => ?_) (fun c1 => ?_)
    · refine hp_rv rfl rfl ?_
      exact ⟨rfl, hM, hS⟩
    · exfalso
      omega
  | succ m ih =>
    intro y x6 M hb h6 hM hS
    refine hp_il (pc' := 265) (j := 6) (Or.inl ⟨rfl, rfl⟩) rfl ?_
    have m265 : (M.1 244 1).toInt = (n : Int) := by
      rw [fo_e hM (Or.inr (Or.inr ⟨rfl, by omega⟩))]
      exact hn
    refine hp_al (pc' := 266) (j := 0) (Or.inr ⟨0, rfl, rfl, rfl⟩) rfl ?_
    refine hp_gi (pc' := 269) (j := 1) (t := 0) ha rfl rfl rfl (by decide) rfl ?_
    refine hp_ige (t := 349) (pc' := 272) rfl rfl rfl (fun c1 => ?_) (fun c1 => ?_)
    · exfalso
      omega
    · refine hp_il (pc' := 274) (j := 6) (Or.inl ⟨rfl, rfl⟩) rfl ?_
      refine hp_il (pc' := 276) (j := 5) (Or.inl ⟨rfl, rfl⟩) rfl ?_
      refine hp_ieq (t := 315) (pc' := 279) rfl rfl rfl (fun c2 => ?_) (fun c2 => ?_)
      · refine hp_al (pc' := 316) (j := 0) (Or.inr ⟨0, rfl, rfl, rfl⟩) rfl ?_
        refine hp_gr (pc' := 319) ha (hM.1 244 31 268 rfl) rfl rfl rfl rfl ?_
        refine hp_bi (pc' := 321) (x := 12) rfl rfl rfl ?_
        refine hp_il (pc' := 323) (j := 6) (Or.inl ⟨rfl, rfl⟩) rfl ?_
        refine hp_mul (pc' := 324) rfl rfl (fun z3 hz3 => ?_)
        refine hp_il (pc' := 326) (j := 4) (Or.inl ⟨rfl, rfl⟩) rfl ?_
        refine hp_add (pc' := 327) rfl rfl (fun z4 hz4 => ?_)
        have xz4 : z4.toInt = (((12 * y + fa) : Nat) : Int) := hp_ix h6 h4 (by omega) (by omega) hz3 hz4
        refine hp_ic (pc' := 328) (x := 0) rfl rfl rfl ?_
        refine hp_st (pc' := 329) (j := (12 * y + fa)) ha xz4 (by omega) rfl rfl rfl (fun M5 eM5 gM5 => ?_)
        have hM5 := fo_w hM eM5 gM5
        refine hp_al (pc' := 330) (j := 0) (Or.inr ⟨0, rfl, rfl, rfl⟩) rfl ?_
        refine hp_gr (pc' := 333) ha (hM5.1 244 31 268 rfl) rfl rfl rfl rfl ?_
        refine hp_bi (pc' := 335) (x := 12) rfl rfl rfl ?_
        refine hp_il (pc' := 337) (j := 4) (Or.inl ⟨rfl, rfl⟩) rfl ?_
        refine hp_mul (pc' := 338) rfl rfl (fun z6 hz6 => ?_)
        refine hp_il (pc' := 340) (j := 6) (Or.inl ⟨rfl, rfl⟩) rfl ?_
        refine hp_add (pc' := 341) rfl rfl (fun z7 hz7 => ?_)
        have xz7 : z7.toInt = (((12 * fa + y) : Nat) : Int) := hp_ix h4 h6 (by omega) (by omega) hz6 hz7
        refine hp_ic (pc' := 342) (x := 0) rfl rfl rfl ?_
        refine hp_st (pc' := 343) (j := (12 * fa + y)) ha xz7 (by omega) rfl rfl rfl (fun M8 eM8 gM8 => ?_)
        have hM8 := fo_w hM5 eM8 gM8
        refine hp_in (pc' := 346) (j := 6) (ls' := [some (.ref 244), some (.int x1), some (.int x2), some (.int x3), some (.int x4), some (.int x5), some (.int (x6 + Int32.ofInt 1)), o7]) rfl rfl rfl rfl rfl ?_
        refine hp_go (t := 263) rfl rfl ?_
        exact ih (y + 1) _ M8 (by omega) (hp_i1 h6 (by omega)) hM8 (fo_Sz (fo_Sz hS eM5 (by omega) rfl) eM8 (by omega) rfl)
      · refine hp_il (pc' := 281) (j := 6) (Or.inl ⟨rfl, rfl⟩) rfl ?_
        refine hp_il (pc' := 283) (j := 4) (Or.inl ⟨rfl, rfl⟩) rfl ?_
        refine hp_ieq (t := 315) (pc' := 286) rfl rfl rfl (fun c9 => ?_) (fun c9 => ?_)
        · refine hp_al (pc' := 316) (j := 0) (Or.inr ⟨0, rfl, rfl, rfl⟩) rfl ?_
          refine hp_gr (pc' := 319) ha (hM.1 244 31 268 rfl) rfl rfl rfl rfl ?_
          refine hp_bi (pc' := 321) (x := 12) rfl rfl rfl ?_
          refine hp_il (pc' := 323) (j := 6) (Or.inl ⟨rfl, rfl⟩) rfl ?_
          refine hp_mul (pc' := 324) rfl rfl (fun z10 hz10 => ?_)
          refine hp_il (pc' := 326) (j := 4) (Or.inl ⟨rfl, rfl⟩) rfl ?_
          refine hp_add (pc' := 327) rfl rfl (fun z11 hz11 => ?_)
          have xz11 : z11.toInt = (((12 * y + fa) : Nat) : Int) := hp_ix h6 h4 (by omega) (by omega) hz10 hz11
          refine hp_ic (pc' := 328) (x := 0) rfl rfl rfl ?_
          refine hp_st (pc' := 329) (j := (12 * y + fa)) ha xz11 (by omega) rfl rfl rfl (fun M12 eM12 gM12 => ?_)
          have hM12 := fo_w hM eM12 gM12
          refine hp_al (pc' := 330) (j := 0) (Or.inr ⟨0, rfl, rfl, rfl⟩) rfl ?_
          refine hp_gr (pc' := 333) ha (hM12.1 244 31 268 rfl) rfl rfl rfl rfl ?_
          refine hp_bi (pc' := 335) (x := 12) rfl rfl rfl ?_
          refine hp_il (pc' := 337) (j := 4) (Or.inl ⟨rfl, rfl⟩) rfl ?_
          refine hp_mul (pc' := 338) rfl rfl (fun z13 hz13 => ?_)
          refine hp_il (pc' := 340) (j := 6) (Or.inl ⟨rfl, rfl⟩) rfl ?_
          refine hp_add (pc' := 341) rfl rfl (fun z14 hz14 => ?_)
          have xz14 : z14.toInt = (((12 * fa + y) : Nat) : Int) := hp_ix h4 h6 (by omega) (by omega) hz13 hz14
          refine hp_ic (pc' := 342) (x := 0) rfl rfl rfl ?_
          refine hp_st (pc' := 343) (j := (12 * fa + y)) ha xz14 (by omega) rfl rfl rfl (fun M15 eM15 gM15 => ?_)
          have hM15 := fo_w hM12 eM15 gM15
          refine hp_in (pc' := 346) (j := 6) (ls' := [some (.ref 244), some (.int x1), some (.int x2), some (.int x3), some (.int x4), some (.int x5), some (.int (x6 + Int32.ofInt 1)), o7]) rfl rfl rfl rfl rfl ?_
          refine hp_go (t := 263) rfl rfl ?_
          exact ih (y + 1) _ M15 (by omega) (hp_i1 h6 (by omega)) hM15 (fo_Sz (fo_Sz hS eM12 (by omega) rfl) eM15 (by omega) rfl)
        · refine hp_al (pc' := 287) (j := 0) (Or.inr ⟨0, rfl, rfl, rfl⟩) rfl ?_
          refine hp_gr (pc' := 290) ha (hM.1 244 31 268 rfl) rfl rfl rfl rfl ?_
          refine hp_bi (pc' := 292) (x := 12) rfl rfl rfl ?_
          refine hp_il (pc' := 294) (j := 6) (Or.inl ⟨rfl, rfl⟩) rfl ?_
          refine hp_mul (pc' := 295) rfl rfl (fun z16 hz16 => ?_)
          refine hp_il (pc' := 297) (j := 5) (Or.inl ⟨rfl, rfl⟩) rfl ?_
          refine hp_add (pc' := 298) rfl rfl (fun z17 hz17 => ?_)
          have xz17 : z17.toInt = (((12 * y + fb) : Nat) : Int) := hp_ix h6 h5 (by omega) (by omega) hz16 hz17
          refine hp_d2 (pc' := 299) rfl rfl ?_
          refine hp_ld (pc' := 300) (j := (12 * y + fb)) ha xz17 (by omega) rfl rfl rfl ?_
          refine hp_al (pc' := 301) (j := 0) (Or.inr ⟨0, rfl, rfl, rfl⟩) rfl ?_
          refine hp_gr (pc' := 304) ha (hM.1 244 31 268 rfl) rfl rfl rfl rfl ?_
          refine hp_bi (pc' := 306) (x := 12) rfl rfl rfl ?_
          refine hp_il (pc' := 308) (j := 6) (Or.inl ⟨rfl, rfl⟩) rfl ?_
          refine hp_mul (pc' := 309) rfl rfl (fun z18 hz18 => ?_)
          refine hp_il (pc' := 311) (j := 4) (Or.inl ⟨rfl, rfl⟩) rfl ?_
          refine hp_add (pc' := 312) rfl rfl (fun z19 hz19 => ?_)
          have xz19 : z19.toInt = (((12 * y + fa) : Nat) : Int) := hp_ix h6 h4 (by omega) (by omega) hz18 hz19
          refine hp_ld (pc' := 313) (j := (12 * y + fa)) ha xz19 (by omega) rfl rfl rfl ?_
          refine hp_add (pc' := 314) rfl rfl (fun z20 hz20 => ?_)
          refine hp_st (pc' := 315) (j := (12 * y + fb)) ha xz17 (by omega) rfl rfl rfl (fun M21 eM21 gM21 => ?_)
          have hM21 := fo_w hM eM21 gM21
          refine hp_al (pc' := 316) (j := 0) (Or.inr ⟨0, rfl, rfl, rfl⟩) rfl ?_
          refine hp_gr (pc' := 319) ha (hM21.1 244 31 268 rfl) rfl rfl rfl rfl ?_
          refine hp_bi (pc' := 321) (x := 12) rfl rfl rfl ?_
          refine hp_il (pc' := 323) (j := 6) (Or.inl ⟨rfl, rfl⟩) rfl ?_
          refine hp_mul (pc' := 324) rfl rfl (fun z22 hz22 => ?_)
          refine hp_il (pc' := 326) (j := 4) (Or.inl ⟨rfl, rfl⟩) rfl ?_
          refine hp_add (pc' := 327) rfl rfl (fun z23 hz23 => ?_)
          have xz23 : z23.toInt = (((12 * y + fa) : Nat) : Int) := hp_ix h6 h4 (by omega) (by omega) hz22 hz23
          refine hp_ic (pc' := 328) (x := 0) rfl rfl rfl ?_
          refine hp_st (pc' := 329) (j := (12 * y + fa)) ha xz23 (by omega) rfl rfl rfl (fun M24 eM24 gM24 => ?_)
          have hM24 := fo_w hM21 eM24 gM24
          refine hp_al (pc' := 330) (j := 0) (Or.inr ⟨0, rfl, rfl, rfl⟩) rfl ?_
          refine hp_gr (pc' := 333) ha (hM24.1 244 31 268 rfl) rfl rfl rfl rfl ?_
          refine hp_bi (pc' := 335) (x := 12) rfl rfl rfl ?_
          refine hp_il (pc' := 337) (j := 4) (Or.inl ⟨rfl, rfl⟩) rfl ?_
          refine hp_mul (pc' := 338) rfl rfl (fun z25 hz25 => ?_)
          refine hp_il (pc' := 340) (j := 6) (Or.inl ⟨rfl, rfl⟩) rfl ?_
          refine hp_add (pc' := 341) rfl rfl (fun z26 hz26 => ?_)
          have xz26 : z26.toInt = (((12 * fa + y) : Nat) : Int) := hp_ix h4 h6 (by omega) (by omega) hz25 hz26
          refine hp_ic (pc' := 342) (x := 0) rfl rfl rfl ?_
          refine hp_st (pc' := 343) (j := (12 * fa + y)) ha xz26 (by omega) rfl rfl rfl (fun M27 eM27 gM27 => ?_)
          have hM27 := fo_w hM24 eM27 gM27
          refine hp_in (pc' := 346) (j := 6) (ls' := [some (.ref 244), some (.int x1), some (.int x2), some (.int x3), some (.int x4), some (.int x5), some (.int (x6 + Int32.ofInt 1)), o7]) rfl rfl rfl rfl rfl ?_
          refine hp_go (t := 263) rfl rfl ?_
          have b1 := fo_Sl hS (j := 12 * y + fb) (by omega)
          have b2 := fo_Sl hS (j := 12 * y + fa) (by omega)
          have q1 : z20.toInt = (M.1 268 (12 * y + fb)).toInt + (M.1 268 (12 * y + fa)).toInt := by rw [hz20, ax_add (by omega) (by omega)]
          exact ih (y + 1) _ M27 (by omega) (hp_i1 h6 (by omega)) hM27 (fo_Sz (fo_Sd hS eM21 eM24 (by omega) (by omega) q1 rfl) eM27 (by omega) rfl)
theorem gb_249 (ha : a.1 = rx_cells) (hJ0 : ax_J0 ax_sp ax_rf M0) (hke : k < e) (he : (e : Int) ≤ (M0.1 244 7).toInt) (h1 : x1.toInt = (k : Int)) (h4 : x4 = M0.1 251 k) (h5 : x5 = M0.1 252 k) (hc : c ≤ 134217728) (hM : fo_I M0 a0 M a) (hS : fo_S c M) : hp X d 200 249 [some (.ref 244), some (.int x1), some (.int x2), some (.int x3), some (.int x4), some (.int x5), o6, o7] [] a M (gb_Q M0 a0 c) := by
  have hk := fo_k150 hJ0 hke he
  have wk : (M.1 249 k).toInt = (M0.1 249 k).toInt := by rw [fo_e hM (Or.inl (by omega))]
  have c6 : (6 : Int32).toInt = 6 := rfl
  refine hp_al (pc' := 250) (j := 0) (Or.inr ⟨0, rfl, rfl, rfl⟩) rfl ?_
  refine hp_gr (pc' := 253) ha (hM.1 244 8 249 rfl) rfl rfl rfl rfl ?_
  refine hp_il (pc' := 254) (j := 1) (Or.inr ⟨1, rfl, rfl, rfl⟩) rfl ?_
  refine hp_ld (pc' := 255) (j := k) ha h1 (by omega) rfl rfl rfl ?_
  refine hp_bi (pc' := 257) (x := 6) rfl rfl rfl ?_
  refine hp_ine (t := 349) (pc' := 260) rfl rfl rfl (fun c1 => ?_) (fun c1 => ?_)
  · refine hp_rv rfl rfl ?_
    exact ⟨rfl, hM, hS⟩
  · refine hp_ic (pc' := 261) (x := 0) rfl rfl rfl ?_
    refine hp_is (pc' := 263) (j := 6) (ls' := [some (.ref 244), some (.int x1), some (.int x2), some (.int x3), some (.int x4), some (.int x5), some (.int (0 : Int32)), o7]) (Or.inl ⟨rfl, rfl⟩) (by simp) rfl ?_
    have hg := fo_gs hJ0 (w := 6) (Or.inr (Or.inr rfl)) hk.2 (by omega)
    obtain ⟨fa, hfa, hfa12⟩ := fo_nat h4 hg.1
    obtain ⟨fb, hfb, hfb12⟩ := fo_nat h5 hg.2
    have hn : 0 ≤ (M0.1 244 1).toInt ∧ (M0.1 244 1).toInt ≤ 12 := hJ0.1 244 1
    exact gb_263 (n := (M0.1 244 1).toInt.toNat) ha (by omega) (by omega) hfa hfb hfa12 hfb12 hc _ 0 _ _ (Nat.add_zero _) rfl hM hS
theorem gb_185 (ha : a.1 = rx_cells) (hJ0 : ax_J0 ax_sp ax_rf M0) (hke : k < e) (he : (e : Int) ≤ (M0.1 244 7).toInt) (h1 : x1.toInt = (k : Int)) (h4 : x4 = M0.1 251 k) (h5 : x5 = M0.1 252 k) (hc : c ≤ 134217728) (h55 : (M0.1 249 k).toInt = 5) (h60 : 0 ≤ x6.toInt) : ∀ (m i : Nat) (x7 : Int32) (M : rx_M), m + i = fo_m M0 k → x7.toInt = (i : Int) → fo_I M0 a0 M a → fo_S c M → (∀ j, i ≤ j → j < fo_m M0 k → x6.toInt ≤ (M.1 268 (fo_arc M0 k j)).toInt) → hp X d 200 185 [some (.ref 244), some (.int x1), some (.int x2), some (.int x3), some (.int x4), some (.int x5), some (.int x6), some (.int x7)] [] a M (gb_Q M0 a0 c) := by
  intro m
  induction m with
  | zero =>
    intro i x7 M hb h7 hM hS hL
    have hk := fo_k150 hJ0 hke he
    have one1 : (1 : Int32).toInt = 1 := rfl
    have mm : ∀ i, (M.1 256 (6 * k + i)).toInt = ((fo_mem M0 k i : Nat) : Int) := fun i => by
      rw [fo_e hM (Or.inl (by omega))]
      exact (fo_mem_lt hJ0).2
    have mr : (M.1 255 k).toInt = ((fo_m M0 k : Nat) : Int) := by
      rw [fo_e hM (Or.inl (by omega))]
      exact (fo_m_le hJ0).2
    have m6 := (fo_m_le hJ0 (k := k)).1
    have al := fo_arc_lt hJ0 (k := k) (i := i)
    refine hp_il (pc' := 187) (j := 7) (Or.inl ⟨rfl, rfl⟩) rfl ?_
    refine hp_al (pc' := 188) (j := 0) (Or.inr ⟨0, rfl, rfl, rfl⟩) rfl ?_
    refine hp_gr (pc' := 191) ha (hM.1 244 14 255 rfl) rfl rfl rfl rfl ?_
    refine hp_il (pc' := 192) (j := 1) (Or.inr ⟨1, rfl, rfl, rfl⟩) rfl ?_
    refine hp_ld (pc' := 193) (j := k) ha h1 (by omega) rfl rfl rfl ?_
    refine hp_ige (t := 249) (pc' := 196) rfl rfl rfl (fun c1 => ?_) (fun c1 => ?_)
    · exact gb_249 ha hJ0 hke he h1 h4 h5 hc hM hS
    · exfalso
      omega
  | succ m ih =>
    intro i x7 M hb h7 hM hS hL
    have hk := fo_k150 hJ0 hke he
    have one1 : (1 : Int32).toInt = 1 := rfl
    have mm : ∀ i, (M.1 256 (6 * k + i)).toInt = ((fo_mem M0 k i : Nat) : Int) := fun i => by
      rw [fo_e hM (Or.inl (by omega))]
      exact (fo_mem_lt hJ0).2
    have mr : (M.1 255 k).toInt = ((fo_m M0 k : Nat) : Int) := by
      rw [fo_e hM (Or.inl (by omega))]
      exact (fo_m_le hJ0).2
    have m6 := (fo_m_le hJ0 (k := k)).1
    have al := fo_arc_lt hJ0 (k := k) (i := i)
    refine hp_il (pc' := 187) (j := 7) (Or.inl ⟨rfl, rfl⟩) rfl ?_
    refine hp_al (pc' := 188) (j := 0) (Or.inr ⟨0, rfl, rfl, rfl⟩) rfl ?_
    refine hp_gr (pc' := 191) ha (hM.1 244 14 255 rfl) rfl rfl rfl rfl ?_
    refine hp_il (pc' := 192) (j := 1) (Or.inr ⟨1, rfl, rfl, rfl⟩) rfl ?_
    refine hp_ld (pc' := 193) (j := k) ha h1 (by omega) rfl rfl rfl ?_
    refine hp_ige (t := 249) (pc' := 196) rfl rfl rfl (fun c1 => ?_) (fun c1 => ?_)
    · exfalso
      omega
    · refine hp_al (pc' := 197) (j := 0) (Or.inr ⟨0, rfl, rfl, rfl⟩) rfl ?_
      refine hp_gr (pc' := 200) ha (hM.1 244 31 268 rfl) rfl rfl rfl rfl ?_
      refine hp_bi (pc' := 202) (x := 12) rfl rfl rfl ?_
      refine hp_al (pc' := 203) (j := 0) (Or.inr ⟨0, rfl, rfl, rfl⟩) rfl ?_
      refine hp_gr (pc' := 206) ha (hM.1 244 15 256 rfl) rfl rfl rfl rfl ?_
      refine hp_bi (pc' := 208) (x := 6) rfl rfl rfl ?_
      refine hp_il (pc' := 209) (j := 1) (Or.inr ⟨1, rfl, rfl, rfl⟩) rfl ?_
      refine hp_mul (pc' := 210) rfl rfl (fun z2 hz2 => ?_)
      refine hp_il (pc' := 212) (j := 7) (Or.inl ⟨rfl, rfl⟩) rfl ?_
      refine hp_add (pc' := 213) rfl rfl (fun z3 hz3 => ?_)
      have xz3 : z3.toInt = ((6 * k + i : Nat) : Int) := fo_6x h1 h7 (by omega) (by omega) hz2 hz3
      refine hp_ld (pc' := 214) (j := (6 * k + i)) ha xz3 (by omega) rfl rfl rfl ?_
      refine hp_mul (pc' := 215) rfl rfl (fun z4 hz4 => ?_)
      refine hp_al (pc' := 216) (j := 0) (Or.inr ⟨0, rfl, rfl, rfl⟩) rfl ?_
      refine hp_gr (pc' := 219) ha (hM.1 244 15 256 rfl) rfl rfl rfl rfl ?_
      refine hp_bi (pc' := 221) (x := 6) rfl rfl rfl ?_
      refine hp_il (pc' := 222) (j := 1) (Or.inr ⟨1, rfl, rfl, rfl⟩) rfl ?_
      refine hp_mul (pc' := 223) rfl rfl (fun z5 hz5 => ?_)
      refine hp_il (pc' := 225) (j := 7) (Or.inl ⟨rfl, rfl⟩) rfl ?_
      refine hp_ic (pc' := 226) (x := 1) rfl rfl rfl ?_
      refine hp_add (pc' := 227) rfl rfl (fun z6 hz6 => ?_)
      have xz6 : z6.toInt = (i : Int) + 1 := by rw [hz6, ax_add (by rw [one1]; omega) (by rw [one1]; omega), one1, h7]
      refine hp_al (pc' := 228) (j := 0) (Or.inr ⟨0, rfl, rfl, rfl⟩) rfl ?_
      refine hp_gr (pc' := 231) ha (hM.1 244 14 255 rfl) rfl rfl rfl rfl ?_
      refine hp_il (pc' := 232) (j := 1) (Or.inr ⟨1, rfl, rfl, rfl⟩) rfl ?_
      refine hp_ld (pc' := 233) (j := k) ha h1 (by omega) rfl rfl rfl ?_
      refine hp_rem (pc' := 234) rfl rfl (by first | omega | assumption) (by first | decide | omega) (fun z7 hz7 => ?_)
      have xz7 : z7.toInt = (((i + 1) % fo_m M0 k : Nat) : Int) := by
        rw [hz7, xz6, mr]
        exact (Int.natCast_emod (i + 1) (fo_m M0 k)).symm
      refine hp_add (pc' := 235) rfl rfl (fun z8 hz8 => ?_)
      have lz8 : (i + 1) % fo_m M0 k < 6 := Nat.lt_of_lt_of_le (Nat.mod_lt _ (by omega)) (by omega)
      have xz8 : z8.toInt = ((6 * k + (i + 1) % fo_m M0 k : Nat) : Int) := fo_6x h1 xz7 (by omega) (by omega) hz5 hz8
      refine hp_ld (pc' := 236) (j := (6 * k + (i + 1) % fo_m M0 k)) ha xz8 (by omega) rfl rfl rfl ?_
      refine hp_add (pc' := 237) rfl rfl (fun z9 hz9 => ?_)
      have xz9 : z9.toInt = ((fo_arc M0 k i : Nat) : Int) := hp_ix (mm i) (mm ((i + 1) % fo_m M0 k)) (fo_mem_lt hJ0).1 (fo_mem_lt hJ0).1 hz4 hz9
      refine hp_d2 (pc' := 238) rfl rfl ?_
      refine hp_ld (pc' := 239) (j := (fo_arc M0 k i)) ha xz9 (by omega) rfl rfl rfl ?_
      refine hp_il (pc' := 241) (j := 6) (Or.inl ⟨rfl, rfl⟩) rfl ?_
      refine hp_sub (pc' := 242) rfl rfl (fun z10 hz10 => ?_)
      have b1 := fo_Sl hS al
      have b2 := hL i (Nat.le_refl _) (by omega)
      have yz10 : z10.toInt = (M.1 268 (fo_arc M0 k i)).toInt - x6.toInt := by rw [hz10, ax_sub (by omega) (by omega)]
      refine hp_st (pc' := 243) (j := (fo_arc M0 k i)) ha xz9 (by omega) rfl rfl rfl (fun M11 eM11 gM11 => ?_)
      have hM11 := fo_w hM eM11 gM11
      refine hp_in (pc' := 246) (j := 7) (ls' := [some (.ref 244), some (.int x1), some (.int x2), some (.int x3), some (.int x4), some (.int x5), some (.int x6), some (.int (x7 + Int32.ofInt 1))]) rfl rfl rfl rfl rfl ?_
      refine hp_go (t := 185) rfl rfl ?_
      exact ih (i + 1) _ M11 (by omega) (hp_i1 h7 (by omega)) hM11 (fo_Sw hS eM11 al (by omega) (by omega)) (fun j q1 q2 => by
        rw [eM11, hp_up_ne (fun w => fo_arc_ne hJ0 hk.1 hk.2 h55 (i := i) (j := j) (by omega) q2 w.2)]
        exact hL j (by omega) q2)
theorem gb_139 (ha : a.1 = rx_cells) (hJ0 : ax_J0 ax_sp ax_rf M0) (hke : k < e) (he : (e : Int) ≤ (M0.1 244 7).toInt) (h1 : x1.toInt = (k : Int)) (h4 : x4 = M0.1 251 k) (h5 : x5 = M0.1 252 k) (hc : c ≤ 134217728) (hM : fo_I M0 a0 M a) (hS : fo_S c M) (h55 : (M0.1 249 k).toInt = 5) : ∀ (m i : Nat) (x6 x7 : Int32), m + i = fo_m M0 k → x7.toInt = (i : Int) → 0 ≤ x6.toInt → (∀ j, j < i → x6.toInt ≤ (M.1 268 (fo_arc M0 k j)).toInt) → hp X (d + 1) 200 139 [some (.ref 244), some (.int x1), some (.int x2), some (.int x3), some (.int x4), some (.int x5), some (.int x6), some (.int x7)] [] a M (gb_Q M0 a0 c) := by
  intro m
  induction m with
  | zero =>
    intro i x6 x7 hb h7 h60 hL
    have hk := fo_k150 hJ0 hke he
    have one1 : (1 : Int32).toInt = 1 := rfl
    have mm : ∀ i, (M.1 256 (6 * k + i)).toInt = ((fo_mem M0 k i : Nat) : Int) := fun i => by
      rw [fo_e hM (Or.inl (by omega))]
      exact (fo_mem_lt hJ0).2
    have mr : (M.1 255 k).toInt = ((fo_m M0 k : Nat) : Int) := by
      rw [fo_e hM (Or.inl (by omega))]
      exact (fo_m_le hJ0).2
    have m6 := (fo_m_le hJ0 (k := k)).1
    have al := fo_arc_lt hJ0 (k := k) (i := i)
    refine hp_il (pc' := 141) (j := 7) (Or.inl ⟨rfl, rfl⟩) rfl ?_
    refine hp_al (pc' := 142) (j := 0) (Or.inr ⟨0, rfl, rfl, rfl⟩) rfl ?_
    refine hp_gr (pc' := 145) ha (hM.1 244 14 255 rfl) rfl rfl rfl rfl ?_
    refine hp_il (pc' := 146) (j := 1) (Or.inr ⟨1, rfl, rfl, rfl⟩) rfl ?_
    refine hp_ld (pc' := 147) (j := k) ha h1 (by omega) rfl rfl rfl ?_
    refine hp_ige (t := 182) (pc' := 150) rfl rfl rfl (fun c1 => ?_) (fun c1 => ?_)
    · refine hp_ic (pc' := 183) (x := 0) rfl rfl rfl ?_
      refine hp_is (pc' := 185) (j := 7) (ls' := [some (.ref 244), some (.int x1), some (.int x2), some (.int x3), some (.int x4), some (.int x5), some (.int x6), some (.int (0 : Int32))]) (Or.inl ⟨rfl, rfl⟩) (by simp) rfl ?_
      exact gb_185 ha hJ0 hke he h1 h4 h5 hc h55 h60 (fo_m M0 k) 0 _ M (Nat.add_zero _) rfl hM hS (fun j _ hj => hL j (by omega))
    · exfalso
      omega
  | succ m ih =>
    intro i x6 x7 hb h7 h60 hL
    have hk := fo_k150 hJ0 hke he
    have one1 : (1 : Int32).toInt = 1 := rfl
    have mm : ∀ i, (M.1 256 (6 * k + i)).toInt = ((fo_mem M0 k i : Nat) : Int) := fun i => by
      rw [fo_e hM (Or.inl (by omega))]
      exact (fo_mem_lt hJ0).2
    have mr : (M.1 255 k).toInt = ((fo_m M0 k : Nat) : Int) := by
      rw [fo_e hM (Or.inl (by omega))]
      exact (fo_m_le hJ0).2
    have m6 := (fo_m_le hJ0 (k := k)).1
    have al := fo_arc_lt hJ0 (k := k) (i := i)
    refine hp_il (pc' := 141) (j := 7) (Or.inl ⟨rfl, rfl⟩) rfl ?_
    refine hp_al (pc' := 142) (j := 0) (Or.inr ⟨0, rfl, rfl, rfl⟩) rfl ?_
    refine hp_gr (pc' := 145) ha (hM.1 244 14 255 rfl) rfl rfl rfl rfl ?_
    refine hp_il (pc' := 146) (j := 1) (Or.inr ⟨1, rfl, rfl, rfl⟩) rfl ?_
    refine hp_ld (pc' := 147) (j := k) ha h1 (by omega) rfl rfl rfl ?_
    refine hp_ige (t := 182) (pc' := 150) rfl rfl rfl (fun c1 => ?_) (fun c1 => ?_)
    · exfalso
      omega
    · refine hp_al (pc' := 151) (j := 0) (Or.inr ⟨0, rfl, rfl, rfl⟩) rfl ?_
      refine hp_il (pc' := 152) (j := 1) (Or.inr ⟨1, rfl, rfl, rfl⟩) rfl ?_
      refine hp_il (pc' := 154) (j := 7) (Or.inl ⟨rfl, rfl⟩) rfl ?_
      refine hp_cv (Q := fun o => o = (some (.int (M.1 268 (fo_arc M0 k i))), a, M)) (pc' := 157) (e := d) (vs := [.int x1, .int x7]) (r := []) ha rfl rfl rfl rfl rfl rfl rfl rfl (oi_ok ha hJ0 hke he hM h1 h7 (by omega)) (fun o ho => ?_)
      subst ho
      refine ⟨_, rfl, ?_⟩
      show hp X (d + 1) 200 157 [some (.ref 244), some (.int x1), some (.int x2), some (.int x3), some (.int x4), some (.int x5), some (.int x6), some (.int x7)] [.int (M.1 268 (fo_arc M0 k i))] a M _
      refine hp_il (pc' := 159) (j := 6) (Or.inl ⟨rfl, rfl⟩) rfl ?_
      refine hp_ige (t := 172) (pc' := 162) rfl rfl rfl (fun c2 => ?_) (fun c2 => ?_)
      · refine hp_il (pc' := 174) (j := 6) (Or.inl ⟨rfl, rfl⟩) rfl ?_
        refine hp_is (pc' := 176) (j := 6) (ls' := [some (.ref 244), some (.int x1), some (.int x2), some (.int x3), some (.int x4), some (.int x5), some (.int x6), some (.int x7)]) (Or.inl ⟨rfl, rfl⟩) (by simp) rfl ?_
        refine hp_in (pc' := 179) (j := 7) (ls' := [some (.ref 244), some (.int x1), some (.int x2), some (.int x3), some (.int x4), some (.int x5), some (.int x6), some (.int (x7 + Int32.ofInt 1))]) rfl rfl rfl rfl rfl ?_
        refine hp_go (t := 139) rfl rfl ?_
        exact ih (i + 1) _ _ (by omega) (hp_i1 h7 (by omega)) (by omega) (fun j hj => by
          by_cases q : j = i
          · rw [q]
            omega
          · have := hL j (by omega)
            omega)
      · refine hp_al (pc' := 163) (j := 0) (Or.inr ⟨0, rfl, rfl, rfl⟩) rfl ?_
        refine hp_il (pc' := 164) (j := 1) (Or.inr ⟨1, rfl, rfl, rfl⟩) rfl ?_
        refine hp_il (pc' := 166) (j := 7) (Or.inl ⟨rfl, rfl⟩) rfl ?_
        refine hp_cv (Q := fun o => o = (some (.int (M.1 268 (fo_arc M0 k i))), a, M)) (pc' := 169) (e := d) (vs := [.int x1, .int x7]) (r := []) ha rfl rfl rfl rfl rfl rfl rfl rfl (oi_ok ha hJ0 hke he hM h1 h7 (by omega)) (fun o ho => ?_)
        subst ho
        refine ⟨_, rfl, ?_⟩
        show hp X (d + 1) 200 169 [some (.ref 244), some (.int x1), some (.int x2), some (.int x3), some (.int x4), some (.int x5), some (.int x6), some (.int x7)] [.int (M.1 268 (fo_arc M0 k i))] a M _
        refine hp_go (t := 174) rfl rfl ?_
        refine hp_is (pc' := 176) (j := 6) (ls' := [some (.ref 244), some (.int x1), some (.int x2), some (.int x3), some (.int x4), some (.int x5), some (.int (M.1 268 (fo_arc M0 k i))), some (.int x7)]) (Or.inl ⟨rfl, rfl⟩) (by simp) rfl ?_
        refine hp_in (pc' := 179) (j := 7) (ls' := [some (.ref 244), some (.int x1), some (.int x2), some (.int x3), some (.int x4), some (.int x5), some (.int (M.1 268 (fo_arc M0 k i))), some (.int (x7 + Int32.ofInt 1))]) rfl rfl rfl rfl rfl ?_
        refine hp_go (t := 139) rfl rfl ?_
        exact ih (i + 1) _ _ (by omega) (hp_i1 h7 (by omega)) (fo_Sl hS al).1 (fun j hj => by
          by_cases q : j = i
          · rw [q]
            omega
          · have := hL j (by omega)
            omega)
theorem gb_118 (ha : a.1 = rx_cells) (hJ0 : ax_J0 ax_sp ax_rf M0) (hke : k < e) (he : (e : Int) ≤ (M0.1 244 7).toInt) (h1 : x1.toInt = (k : Int)) (h4 : x4 = M0.1 251 k) (h5 : x5 = M0.1 252 k) (hc : c ≤ 134217728) (hM : fo_I M0 a0 M a) (hS : fo_S c M) : hp X (d + 1) 200 118 [some (.ref 244), some (.int x1), some (.int x2), some (.int x3), some (.int x4), some (.int x5), o6, o7] [] a M (gb_Q M0 a0 c) := by
  have hk := fo_k150 hJ0 hke he
  have wk : (M.1 249 k).toInt = (M0.1 249 k).toInt := by rw [fo_e hM (Or.inl (by omega))]
  have c5 : (5 : Int32).toInt = 5 := rfl
  refine hp_al (pc' := 119) (j := 0) (Or.inr ⟨0, rfl, rfl, rfl⟩) rfl ?_
  refine hp_gr (pc' := 122) ha (hM.1 244 8 249 rfl) rfl rfl rfl rfl ?_
  refine hp_il (pc' := 123) (j := 1) (Or.inr ⟨1, rfl, rfl, rfl⟩) rfl ?_
  refine hp_ld (pc' := 124) (j := k) ha h1 (by omega) rfl rfl rfl ?_
  refine hp_ic (pc' := 125) (x := 5) rfl rfl rfl ?_
  refine hp_ine (t := 249) (pc' := 128) rfl rfl rfl (fun c1 => ?_) (fun c1 => ?_)
  · exact gb_249 ha hJ0 hke he h1 h4 h5 hc hM hS
  · refine hp_al (pc' := 129) (j := 0) (Or.inr ⟨0, rfl, rfl, rfl⟩) rfl ?_
    refine hp_gr (pc' := 132) ha (hM.1 244 12 253 rfl) rfl rfl rfl rfl ?_
    refine hp_il (pc' := 133) (j := 1) (Or.inr ⟨1, rfl, rfl, rfl⟩) rfl ?_
    refine hp_ld (pc' := 134) (j := k) ha h1 (by omega) rfl rfl rfl ?_
    refine hp_is (pc' := 136) (j := 6) (ls' := [some (.ref 244), some (.int x1), some (.int x2), some (.int x3), some (.int x4), some (.int x5), some (.int (M.1 253 k)), o7]) (Or.inl ⟨rfl, rfl⟩) (by simp) rfl ?_
    refine hp_ic (pc' := 137) (x := 0) rfl rfl rfl ?_
    refine hp_is (pc' := 139) (j := 7) (ls' := [some (.ref 244), some (.int x1), some (.int x2), some (.int x3), some (.int x4), some (.int x5), some (.int (M.1 253 k)), some (.int (0 : Int32))]) (Or.inl ⟨rfl, rfl⟩) (by simp) rfl ?_
    have h55 : (M0.1 249 k).toInt = 5 := by omega
    have hh : 0 ≤ (M0.1 253 k).toInt := (hJ0.2.2.1 ((244, 7), (249, 5), (253, 0, 2147483647)) (by decide) k hk.2 h55).1
    have eh : (M.1 253 k).toInt = (M0.1 253 k).toInt := by rw [fo_e hM (Or.inl (by omega))]
    exact gb_139 ha hJ0 hke he h1 h4 h5 hc hM hS h55 (fo_m M0 k) 0 _ _ (Nat.add_zero _) rfl (by omega) (fun j hj => absurd hj (Nat.not_lt_zero _))
theorem gb_49 (ha : a.1 = rx_cells) (hJ0 : ax_J0 ax_sp ax_rf M0) (hke : k < e) (he : (e : Int) ≤ (M0.1 244 7).toInt) (h1 : x1.toInt = (k : Int)) (h4 : x4 = M0.1 251 k) (h5 : x5 = M0.1 252 k) (hc : c ≤ 134217728) (hM : fo_I M0 a0 M a) (hS : fo_S c M) : hp X (d + 1) 200 49 [some (.ref 244), some (.int x1), some (.int x2), some (.int x3), some (.int x4), some (.int x5), o6, o7] [] a M (gb_Q M0 a0 c) := by
  have hk := fo_k150 hJ0 hke he
  have wk : (M.1 249 k).toInt = (M0.1 249 k).toInt := by rw [fo_e hM (Or.inl (by omega))]
  have c4 : (4 : Int32).toInt = 4 := rfl
  refine hp_al (pc' := 50) (j := 0) (Or.inr ⟨0, rfl, rfl, rfl⟩) rfl ?_
  refine hp_gr (pc' := 53) ha (hM.1 244 8 249 rfl) rfl rfl rfl rfl ?_
  refine hp_il (pc' := 54) (j := 1) (Or.inr ⟨1, rfl, rfl, rfl⟩) rfl ?_
  refine hp_ld (pc' := 55) (j := k) ha h1 (by omega) rfl rfl rfl ?_
  refine hp_ic (pc' := 56) (x := 4) rfl rfl rfl ?_
  refine hp_ine (t := 118) (pc' := 59) rfl rfl rfl (fun c1 => ?_) (fun c1 => ?_)
  · exact gb_118 ha hJ0 hke he h1 h4 h5 hc hM hS
  · have hg := fo_gs hJ0 (w := 4) (Or.inr (Or.inl rfl)) hk.2 (by omega)
    obtain ⟨fa, hfa, hfa12⟩ := fo_nat h4 hg.1
    obtain ⟨fb, hfb, hfb12⟩ := fo_nat h5 hg.2
    have hh : 0 ≤ (M0.1 253 k).toInt := (hJ0.2.2.1 ((244, 7), (249, 4), (253, 0, 2147483647)) (by decide) k hk.2 (show (M0.1 249 k).toInt = 4 by omega)).1
    have eh : (M.1 253 k).toInt = (M0.1 253 k).toInt := by rw [fo_e hM (Or.inl (by omega))]
    have b1 := fo_Sl hS (j := 12 * fa + fb) (by omega)
    refine hp_al (pc' := 60) (j := 0) (Or.inr ⟨0, rfl, rfl, rfl⟩) rfl ?_
    refine hp_gr (pc' := 63) ha (hM.1 244 31 268 rfl) rfl rfl rfl rfl ?_
    refine hp_bi (pc' := 65) (x := 12) rfl rfl rfl ?_
    refine hp_il (pc' := 67) (j := 4) (Or.inl ⟨rfl, rfl⟩) rfl ?_
    refine hp_mul (pc' := 68) rfl rfl (fun z31 hz31 => ?_)
    refine hp_il (pc' := 70) (j := 5) (Or.inl ⟨rfl, rfl⟩) rfl ?_
    refine hp_add (pc' := 71) rfl rfl (fun z32 hz32 => ?_)
    have xz32 : z32.toInt = (((12 * fa + fb) : Nat) : Int) := hp_ix hfa hfb (by omega) (by omega) hz31 hz32
    refine hp_al (pc' := 72) (j := 0) (Or.inr ⟨0, rfl, rfl, rfl⟩) rfl ?_
    refine hp_gr (pc' := 75) ha (hM.1 244 31 268 rfl) rfl rfl rfl rfl ?_
    refine hp_bi (pc' := 77) (x := 12) rfl rfl rfl ?_
    refine hp_il (pc' := 79) (j := 4) (Or.inl ⟨rfl, rfl⟩) rfl ?_
    refine hp_mul (pc' := 80) rfl rfl (fun z33 hz33 => ?_)
    refine hp_il (pc' := 82) (j := 5) (Or.inl ⟨rfl, rfl⟩) rfl ?_
    refine hp_add (pc' := 83) rfl rfl (fun z34 hz34 => ?_)
    have xz34 : z34.toInt = (((12 * fa + fb) : Nat) : Int) := hp_ix hfa hfb (by omega) (by omega) hz33 hz34
    refine hp_ld (pc' := 84) (j := (12 * fa + fb)) ha xz34 (by omega) rfl rfl rfl ?_
    refine hp_al (pc' := 85) (j := 0) (Or.inr ⟨0, rfl, rfl, rfl⟩) rfl ?_
    refine hp_gr (pc' := 88) ha (hM.1 244 12 253 rfl) rfl rfl rfl rfl ?_
    refine hp_il (pc' := 89) (j := 1) (Or.inr ⟨1, rfl, rfl, rfl⟩) rfl ?_
    refine hp_ld (pc' := 90) (j := k) ha h1 (by omega) rfl rfl rfl ?_
    refine hp_ile (t := 116) (pc' := 93) rfl rfl rfl (fun c35 => ?_) (fun c35 => ?_)
    · refine hp_ic (pc' := 117) (x := 0) rfl rfl rfl ?_
      refine hp_st (pc' := 118) (j := (12 * fa + fb)) ha xz32 (by omega) rfl rfl rfl (fun M36 eM36 gM36 => ?_)
      have hM36 := fo_w hM eM36 gM36
      exact gb_118 ha hJ0 hke he h1 h4 h5 hc hM36 (fo_Sz hS eM36 (by omega) rfl)
    · refine hp_al (pc' := 94) (j := 0) (Or.inr ⟨0, rfl, rfl, rfl⟩) rfl ?_
      refine hp_gr (pc' := 97) ha (hM.1 244 31 268 rfl) rfl rfl rfl rfl ?_
      refine hp_bi (pc' := 99) (x := 12) rfl rfl rfl ?_
      refine hp_il (pc' := 101) (j := 4) (Or.inl ⟨rfl, rfl⟩) rfl ?_
      refine hp_mul (pc' := 102) rfl rfl (fun z37 hz37 => ?_)
      refine hp_il (pc' := 104) (j := 5) (Or.inl ⟨rfl, rfl⟩) rfl ?_
      refine hp_add (pc' := 105) rfl rfl (fun z38 hz38 => ?_)
      have xz38 : z38.toInt = (((12 * fa + fb) : Nat) : Int) := hp_ix hfa hfb (by omega) (by omega) hz37 hz38
      refine hp_ld (pc' := 106) (j := (12 * fa + fb)) ha xz38 (by omega) rfl rfl rfl ?_
      refine hp_al (pc' := 107) (j := 0) (Or.inr ⟨0, rfl, rfl, rfl⟩) rfl ?_
      refine hp_gr (pc' := 110) ha (hM.1 244 12 253 rfl) rfl rfl rfl rfl ?_
      refine hp_il (pc' := 111) (j := 1) (Or.inr ⟨1, rfl, rfl, rfl⟩) rfl ?_
      refine hp_ld (pc' := 112) (j := k) ha h1 (by omega) rfl rfl rfl ?_
      refine hp_sub (pc' := 113) rfl rfl (fun z39 hz39 => ?_)
      refine hp_go (t := 117) rfl rfl ?_
      refine hp_st (pc' := 118) (j := (12 * fa + fb)) ha xz32 (by omega) rfl rfl rfl (fun M40 eM40 gM40 => ?_)
      have hM40 := fo_w hM eM40 gM40
      have yz39 : z39.toInt = (M.1 268 (12 * fa + fb)).toInt - (M.1 253 k).toInt := by rw [hz39, ax_sub (by omega) (by omega)]
      exact gb_118 ha hJ0 hke he h1 h4 h5 hc hM40 (fo_Sw hS eM40 (by omega) (by omega) (by omega))
theorem fo_call {an : ax_an} {o : rx_O} (hM : fo_I M0 a0 M a) (ho : hy_Q ax_w_150 an a M o) : fo_I M0 a0 o.2.2 o.2.1 ∧ ∀ j, o.2.2.1 268 j = M.1 268 j := by
  obtain ⟨-, q2, q3, q4, q5, q6⟩ := ho
  refine ⟨⟨q2.2.1, q2, fun q j hq => ?_, q4, Nat.le_trans q5 hM.2.2.2.2.1, Nat.le_trans q6 hM.2.2.2.2.2⟩, fun j => (q3 268 j co_nd).1⟩
  have k1 := q3 q j (fun w => hq (co_sub q j w))
  have k2 := hM.2.2.1 q j hq
  exact ⟨k1.1.trans k2.1, k1.2.trans k2.2⟩
theorem gb_ok (hd : 5 ≤ d) (ha : a.1 = rx_cells) (hJ0 : ax_J0 ax_sp ax_rf M0) (hke : k < e) (he : (e : Int) ≤ (M0.1 244 7).toInt) (h1 : x1.toInt = (k : Int)) (h2 : x2.toInt = (e : Int)) (h3 : 0 ≤ x3.toInt ∧ x3.toInt ≤ 13) (hc : c + 60 ≤ 134217728) (hM : fo_I M0 a0 M a) (hS : fo_S c M) : hp X (d + 1) 200 0 [some (.ref 244), some (.int x1), some (.int x2), some (.int x3), none, none, none, none] [] a M (gb_Q M0 a0 (c + 60)) := by
  have hk := fo_k150 hJ0 hke he
  have wk : (M.1 249 k).toInt = (M0.1 249 k).toInt := by rw [fo_e hM (Or.inl (by omega))]
  have c1 : (1 : Int32).toInt = 1 := rfl
  refine hp_al (pc' := 1) (j := 0) (Or.inr ⟨0, rfl, rfl, rfl⟩) rfl ?_
  refine hp_gr (pc' := 4) ha (hM.1 244 10 251 rfl) rfl rfl rfl rfl ?_
  refine hp_il (pc' := 5) (j := 1) (Or.inr ⟨1, rfl, rfl, rfl⟩) rfl ?_
  refine hp_ld (pc' := 6) (j := k) ha h1 (by omega) rfl rfl rfl ?_
  refine hp_is (pc' := 8) (j := 4) (ls' := [some (.ref 244), some (.int x1), some (.int x2), some (.int x3), some (.int (M.1 251 k)), none, none, none]) (Or.inl ⟨rfl, rfl⟩) (by simp) rfl ?_
  refine hp_al (pc' := 9) (j := 0) (Or.inr ⟨0, rfl, rfl, rfl⟩) rfl ?_
  refine hp_gr (pc' := 12) ha (hM.1 244 11 252 rfl) rfl rfl rfl rfl ?_
  refine hp_il (pc' := 13) (j := 1) (Or.inr ⟨1, rfl, rfl, rfl⟩) rfl ?_
  refine hp_ld (pc' := 14) (j := k) ha h1 (by omega) rfl rfl rfl ?_
  refine hp_is (pc' := 16) (j := 5) (ls' := [some (.ref 244), some (.int x1), some (.int x2), some (.int x3), some (.int (M.1 251 k)), some (.int (M.1 252 k)), none, none]) (Or.inl ⟨rfl, rfl⟩) (by simp) rfl ?_
  refine hp_al (pc' := 17) (j := 0) (Or.inr ⟨0, rfl, rfl, rfl⟩) rfl ?_
  refine hp_gr (pc' := 20) ha (hM.1 244 8 249 rfl) rfl rfl rfl rfl ?_
  refine hp_il (pc' := 21) (j := 1) (Or.inr ⟨1, rfl, rfl, rfl⟩) rfl ?_
  refine hp_ld (pc' := 22) (j := k) ha h1 (by omega) rfl rfl rfl ?_
  refine hp_ic (pc' := 23) (x := 1) rfl rfl rfl ?_
  refine hp_ine (t := 49) (pc' := 26) rfl rfl rfl (fun c1 => ?_) (fun c1 => ?_)
  · have f4 : M.1 251 k = M0.1 251 k := fo_e hM (Or.inl (by omega))
    have f5 : M.1 252 k = M0.1 252 k := fo_e hM (Or.inl (by omega))
    exact gb_49 ha hJ0 hke he h1 f4 f5 (by omega) hM (fo_Sm hS (by omega))
  · have hg := fo_gs hJ0 (w := 1) (Or.inl rfl) hk.2 (by omega)
    have f4 : M.1 251 k = M0.1 251 k := fo_e hM (Or.inl (by omega))
    have f5 : M.1 252 k = M0.1 252 k := fo_e hM (Or.inl (by omega))
    obtain ⟨fa, hfa, hfa12⟩ := fo_nat f4 hg.1
    obtain ⟨fb, hfb, hfb12⟩ := fo_nat f5 hg.2
    have b1 := fo_Sl hS (j := 12 * fb + fa) (by omega)
    have heM : (e : Int) ≤ (M.1 244 7).toInt := by
      rw [fo_e hM (Or.inr (Or.inr ⟨rfl, by omega⟩))]
      exact he
    refine hp_al (pc' := 27) (j := 0) (Or.inr ⟨0, rfl, rfl, rfl⟩) rfl ?_
    refine hp_gr (pc' := 30) ha (hM.1 244 31 268 rfl) rfl rfl rfl rfl ?_
    refine hp_bi (pc' := 32) (x := 12) rfl rfl rfl ?_
    refine hp_il (pc' := 34) (j := 5) (Or.inl ⟨rfl, rfl⟩) rfl ?_
    refine hp_mul (pc' := 35) rfl rfl (fun z2 hz2 => ?_)
    refine hp_il (pc' := 37) (j := 4) (Or.inl ⟨rfl, rfl⟩) rfl ?_
    refine hp_add (pc' := 38) rfl rfl (fun z3 hz3 => ?_)
    have xz3 : z3.toInt = (((12 * fb + fa) : Nat) : Int) := hp_ix hfb hfa (by omega) (by omega) hz2 hz3
    refine hp_d2 (pc' := 39) rfl rfl ?_
    refine hp_ld (pc' := 40) (j := (12 * fb + fa)) ha xz3 (by omega) rfl rfl rfl ?_
    refine hp_al (pc' := 41) (j := 0) (Or.inr ⟨0, rfl, rfl, rfl⟩) rfl ?_
    refine hp_il (pc' := 42) (j := 1) (Or.inr ⟨1, rfl, rfl, rfl⟩) rfl ?_
    refine hp_il (pc' := 43) (j := 2) (Or.inr ⟨2, rfl, rfl, rfl⟩) rfl ?_
    refine hp_il (pc' := 44) (j := 3) (Or.inr ⟨3, rfl, rfl, rfl⟩) rfl ?_
    refine hp_cv (Q := hy_Q ax_w_150 (some (some (0, 60))) a M) (pc' := 47) (e := d) (vs := [.int x1, .int x2, .int x3]) (r := [.int (M.1 268 (12 * fb + fa)), .int z3, .ref 268]) ha rfl rfl rfl rfl rfl rfl rfl rfl (co_ok hd hM.2.1 ha h1 h2 hke heM h3 (by omega)) (fun o ho => ?_)
    obtain ⟨o1, ac, Mc⟩ := o
    obtain ⟨hMc, h8⟩ := fo_call hM ho
    obtain ⟨⟨cv, ecv, ⟨cv0, cv1⟩, -⟩, -⟩ := ho
    dsimp only at ecv cv0 cv1 h8 hMc
    subst ecv
    refine ⟨_, rfl, ?_⟩
    have hac : ac.1 = rx_cells := hMc.2.2.2.1
    have ha := hac
    have hSc : fo_S c Mc := fo_Se hS h8
    show hp X (d + 1) 200 47 [some (.ref 244), some (.int x1), some (.int x2), some (.int x3), some (.int (M.1 251 k)), some (.int (M.1 252 k)), none, none] [.int cv, .int (M.1 268 (12 * fb + fa)), .int z3, .ref 268] ac Mc _
    refine hp_add (pc' := 48) rfl rfl (fun z4 hz4 => ?_)
    refine hp_st (pc' := 49) (j := (12 * fb + fa)) ha xz3 (by omega) rfl rfl rfl (fun M5 eM5 gM5 => ?_)
    have hM5 := fo_w hMc eM5 gM5
    have yz4 : z4.toInt = (M.1 268 (12 * fb + fa)).toInt + cv.toInt := by rw [hz4, ax_add (by omega) (by omega)]
    have e8 : (Mc.1 268 (12 * fb + fa)).toInt = (M.1 268 (12 * fb + fa)).toInt := by rw [h8]
    exact gb_49 ha hJ0 hke he h1 f4 f5 (by omega) hM5 (fo_Sw hSc eM5 (by omega) (by omega) (by omega))
end GB2
