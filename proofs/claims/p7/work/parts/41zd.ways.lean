/-! the reference's findWays, by hand: it ends, and no arc makes any nearer -/
noncomputable def mo_F (M : rx_M) (b : Nat) : Int := (M.1 272 b).toInt
noncomputable def mo_P (M : rx_M) (b : Nat) : Int := (M.1 273 b).toInt
noncomputable def mo_R (M : rx_M) (a b : Nat) (c : Int) : Prop := (c = 1 ∧ (M.1 270 (12 * a + b)).toInt < (M.1 268 (12 * a + b)).toInt) ∨ (c = -1 ∧ 0 < (M.1 270 (12 * b + a)).toInt)
noncomputable def mo_r (M : rx_M) (b : Nat) : Prop := 0 < (M.1 271 b).toInt
noncomputable def fw_inv (M0 M : rx_M) : Prop := hp_R M ∧ M.2 = M0.2 ∧ (∀ q j, ¬ (q = 272 ∨ q = 273) → M.1 q j = M0.1 q j) ∧ ∀ j, -1 ≤ (M.1 273 j).toInt ∧ (M.1 273 j).toInt ≤ 23
theorem fw_w2 {M0 M M1 : rx_M} {j : Nat} {z : Int32} (h : fw_inv M0 M) (e : M1.1 = rx_up M.1 272 j z) (g : M1.2 = M.2) : fw_inv M0 M1 := by
  refine ⟨hp_Re h.1 g, g.trans h.2.1, fun q k hq => ?_, fun k => ?_⟩
  · rw [e, hp_up_ne (by omega)]
    exact h.2.2.1 q k hq
  · rw [e, hp_up_ne (by omega)]
    exact h.2.2.2 k
theorem fw_w3 {M0 M M1 : rx_M} {j : Nat} {z : Int32} (h : fw_inv M0 M) (hz : -1 ≤ z.toInt ∧ z.toInt ≤ 23) (e : M1.1 = rx_up M.1 273 j z) (g : M1.2 = M.2) : fw_inv M0 M1 := by
  refine ⟨hp_Re h.1 g, g.trans h.2.1, fun q k hq => ?_, fun k => ?_⟩
  · rw [e, hp_up_ne (by omega)]
    exact h.2.2.1 q k hq
  · rw [e]
    by_cases hk : k = j
    · rw [hk, hp_up_eq]
      exact hz
    · rw [hp_up_ne (fun z => hk z.2)]
      exact h.2.2.2 k
theorem fw_n {M0 M : rx_M} {n : Nat} (h : fw_inv M0 M) (hn : (M0.1 244 1).toInt = (n : Int)) : (M.1 244 1).toInt = (n : Int) := by
  rw [h.2.2.1 244 1 (by omega)]
  exact hn
noncomputable def gw_RH (q : Prop) (c : Int) (a b : Nat) (F P F' P' : Nat → Int) (v : Int) : Prop := (∀ x, x ≠ b → F' x = F x ∧ P' x = P x) ∧ ((F' b = F b ∧ P' b = P b ∧ (q → F b ≤ F a + c)) ∨ (q ∧ F' b = F a + c ∧ F' b < F b ∧ P' b = v))
theorem gw_RH2 {R : Nat → Nat → Int → Prop} {a b : Nat} {F P F1 P1 F2 P2 : Nat → Int} (hc : ∀ a b c, R a b c → c = 1 ∨ c = -1) (ha : F a ≠ 10000) (h1 : gw_RH (R a b 1) 1 a b F P F1 P1 (a : Int)) (h2 : gw_RH (R a b (-1)) (-1) a b F1 P1 F2 P2 (12 + (a : Int))) : gw_RX R a b F P F2 P2 := by
  obtain ⟨x1, y1⟩ := h1
  obtain ⟨x2, y2⟩ := h2
  have hF1 : F1 a = F a := by
    by_cases q : a = b
    · subst q
      rcases y1 with ⟨e, -, -⟩ | ⟨-, e1, e2, -⟩
      · exact e
      · omega
    · exact (x1 a q).1
  refine ⟨fun x hx => ⟨(x2 x hx).1.trans (x1 x hx).1, (x2 x hx).2.trans (x1 x hx).2⟩, ?_, fun _ c hR => ?_⟩
  · rcases y2 with ⟨e1, e2, -⟩ | ⟨q, e1, e2, e3⟩
    · rcases y1 with ⟨d1, d2, -⟩ | ⟨p, d1, d2, d3⟩
      · exact Or.inl ⟨e1.trans d1, e2.trans d2⟩
      · exact Or.inr ⟨1, Or.inl ⟨rfl, e2.trans d3⟩, p, ha, e1.trans d1, by omega⟩
    · refine Or.inr ⟨-1, Or.inr ⟨rfl, e3⟩, q, ha, by omega, ?_⟩
      rcases y1 with ⟨d1, -, -⟩ | ⟨p, d1, d2, d3⟩ <;> omega
  · rcases hc a b c hR with e | e
    · subst e
      have k1 : F1 b ≤ F a + 1 := by
        rcases y1 with ⟨d1, -, d3⟩ | ⟨p, d1, d2, d3⟩
        · have := d3 hR
          omega
        · omega
      rcases y2 with ⟨e1, e2, -⟩ | ⟨q, e1, e2, e3⟩ <;> omega
    · subst e
      rcases y2 with ⟨e1, e2, e3⟩ | ⟨q, e1, e2, e3⟩
      · have := e3 hR
        omega
      · omega
theorem mo_Rc {M : rx_M} : ∀ a b c, mo_R M a b c → c = 1 ∨ c = -1 := fun a b c h => h.elim (fun q => Or.inl q.1) (fun q => Or.inr q.1)
theorem mo_R1 {M : rx_M} {a b : Nat} : mo_R M a b 1 ↔ (M.1 270 (12 * a + b)).toInt < (M.1 268 (12 * a + b)).toInt := ⟨fun h => h.elim (fun q => q.2) (fun q => absurd q.1 (by decide)), fun h => Or.inl ⟨rfl, h⟩⟩
theorem mo_R2 {M : rx_M} {a b : Nat} : mo_R M a b (-1) ↔ 0 < (M.1 270 (12 * b + a)).toInt := ⟨fun h => h.elim (fun q => absurd q.1 (by decide)) (fun q => q.2), fun h => Or.inr ⟨rfl, h⟩⟩
/-- far and fromOf written at b -/
theorem fw_rh {M M1 M2 : rx_M} {q : Prop} {c v : Int} {a b : Nat} {z w : Int32} (h1 : q) (e1 : M1.1 = rx_up M.1 272 b z) (e2 : M2.1 = rx_up M1.1 273 b w) (hz : z.toInt = mo_F M a + c) (hl : z.toInt < mo_F M b) (hw : w.toInt = v) : gw_RH q c a b (mo_F M) (mo_P M) (mo_F M2) (mo_P M2) v := by
  have k1 : ∀ j, M2.1 272 j = rx_up M.1 272 b z 272 j := fun j => by rw [e2, hp_up_ne (by omega), e1]
  have k2 : ∀ j, M2.1 273 j = rx_up M.1 273 b w 273 j := fun j => by
    rw [e2, e1]
    by_cases hj : j = b
    · rw [hj, hp_up_eq, hp_up_eq]
    · rw [hp_up_ne (fun z => hj z.2), hp_up_ne (fun z => hj z.2), hp_up_ne (by omega)]
  refine ⟨fun x hx => ⟨?_, ?_⟩, Or.inr ⟨h1, ?_, ?_, ?_⟩⟩
  · show (M2.1 272 x).toInt = _
    rw [k1, hp_up_ne (fun z => hx z.2)]
    rfl
  · show (M2.1 273 x).toInt = _
    rw [k2, hp_up_ne (fun z => hx z.2)]
    rfl
  · show (M2.1 272 b).toInt = _
    rw [k1, hp_up_eq]
    exact hz
  · show (M2.1 272 b).toInt < _
    rw [k1, hp_up_eq]
    exact hl
  · show (M2.1 273 b).toInt = _
    rw [k2, hp_up_eq]
    exact hw
theorem fw_rs {M : rx_M} {q : Prop} {c v : Int} {a b : Nat} (h : q → mo_F M b ≤ mo_F M a + c) : gw_RH q c a b (mo_F M) (mo_P M) (mo_F M) (mo_P M) v := ⟨fun _ _ => ⟨rfl, rfl⟩, Or.inl ⟨rfl, rfl, h⟩⟩
section FW
variable {X : Nat × (Nat → Int32)} {d n : Nat} {a : rx_K} {M0 : rx_M} {P : rx_O → Prop}
theorem fw_90 (ha : a.1 = rx_cells) (hn12 : n ≤ 12) {x1 x2 x3 : Int32} {k b : Nat} (h2 : x2.toInt = (k : Int)) (h3 : x3.toInt = (b : Int)) (hk : k < n) (hb : b < n) {M : rx_M} (hM : fw_inv M0 M) (hf : -9000 ≤ (M.1 272 k).toInt ∧ (M.1 272 k).toInt ≤ 9000) (kk : ∀ M1, fw_inv M0 M1 → gw_RH (mo_R M0 k b 1) 1 k b (mo_F M) (mo_P M) (mo_F M1) (mo_P M1) (k : Int) → hp X d 214 153 [some (.ref 244), some (.int x1), some (.int x2), some (.int x3)] [] a M1 P) : hp X d 214 90 [some (.ref 244), some (.int x1), some (.int x2), some (.int x3)] [] a M P := by
  have one1 : (1 : Int32).toInt = 1 := rfl
  have twelve : (12 : Int32).toInt = 12 := rfl
  have f268a : (M.1 268 (12 * k + b)).toInt = (M0.1 268 (12 * k + b)).toInt := by rw [hM.2.2.1 268 _ (by omega)]
  have f268b : (M.1 268 (12 * b + k)).toInt = (M0.1 268 (12 * b + k)).toInt := by rw [hM.2.2.1 268 _ (by omega)]
  have f270a : (M.1 270 (12 * k + b)).toInt = (M0.1 270 (12 * k + b)).toInt := by rw [hM.2.2.1 270 _ (by omega)]
  have f270b : (M.1 270 (12 * b + k)).toInt = (M0.1 270 (12 * b + k)).toInt := by rw [hM.2.2.1 270 _ (by omega)]
  have v1 : mo_F M k = (M.1 272 k).toInt := rfl
  have v2 : mo_F M b = (M.1 272 b).toInt := rfl
  refine hp_al (pc' := 91) (j := 0) (Or.inr ⟨0, rfl, rfl, rfl⟩) rfl ?_
  refine hp_gr (pc' := 94) ha (hM.1 244 34 270 rfl) rfl rfl rfl rfl ?_
  refine hp_bi (pc' := 96) (x := 12) rfl rfl rfl ?_
  refine hp_il (pc' := 97) (j := 2) (Or.inr ⟨2, rfl, rfl, rfl⟩) rfl ?_
  refine hp_mul (pc' := 98) rfl rfl (fun z1 hz1 => ?_)
  refine hp_il (pc' := 99) (j := 3) (Or.inr ⟨3, rfl, rfl, rfl⟩) rfl ?_
  refine hp_add (pc' := 100) rfl rfl (fun z2 hz2 => ?_)
  have xz2 : z2.toInt = (((12 * k + b) : Nat) : Int) := hp_ix h2 h3 (by omega) (by omega) hz1 hz2
  refine hp_ld (pc' := 101) (j := (12 * k + b)) ha xz2 (by omega) rfl rfl rfl ?_
  refine hp_al (pc' := 102) (j := 0) (Or.inr ⟨0, rfl, rfl, rfl⟩) rfl ?_
  refine hp_gr (pc' := 105) ha (hM.1 244 31 268 rfl) rfl rfl rfl rfl ?_
  refine hp_bi (pc' := 107) (x := 12) rfl rfl rfl ?_
  refine hp_il (pc' := 108) (j := 2) (Or.inr ⟨2, rfl, rfl, rfl⟩) rfl ?_
  refine hp_mul (pc' := 109) rfl rfl (fun z3 hz3 => ?_)
  refine hp_il (pc' := 110) (j := 3) (Or.inr ⟨3, rfl, rfl, rfl⟩) rfl ?_
  refine hp_add (pc' := 111) rfl rfl (fun z4 hz4 => ?_)
  have xz4 : z4.toInt = (((12 * k + b) : Nat) : Int) := hp_ix h2 h3 (by omega) (by omega) hz3 hz4
  refine hp_ld (pc' := 112) (j := (12 * k + b)) ha xz4 (by omega) rfl rfl rfl ?_
  refine hp_ige (t := 153) (pc' := 115) rfl rfl rfl (fun c5 => ?_) (fun c5 => ?_)
  · exact kk M hM (fw_rs (fun q => by
      have q1 := mo_R1.mp q
      omega))
  · refine hp_al (pc' := 116) (j := 0) (Or.inr ⟨0, rfl, rfl, rfl⟩) rfl ?_
    refine hp_gr (pc' := 119) ha (hM.1 244 36 272 rfl) rfl rfl rfl rfl ?_
    refine hp_il (pc' := 120) (j := 2) (Or.inr ⟨2, rfl, rfl, rfl⟩) rfl ?_
    refine hp_ld (pc' := 121) (j := k) ha h2 (by omega) rfl rfl rfl ?_
    refine hp_ic (pc' := 122) (x := 1) rfl rfl rfl ?_
    refine hp_add (pc' := 123) rfl rfl (fun z6 hz6 => ?_)
    have yz6 : z6.toInt = (M.1 272 k).toInt + 1 := by rw [hz6, ax_add (by rw [one1]; omega) (by rw [one1]; omega), one1]
    refine hp_al (pc' := 124) (j := 0) (Or.inr ⟨0, rfl, rfl, rfl⟩) rfl ?_
    refine hp_gr (pc' := 127) ha (hM.1 244 36 272 rfl) rfl rfl rfl rfl ?_
    refine hp_il (pc' := 128) (j := 3) (Or.inr ⟨3, rfl, rfl, rfl⟩) rfl ?_
    refine hp_ld (pc' := 129) (j := b) ha h3 (by omega) rfl rfl rfl ?_
    refine hp_ige (t := 153) (pc' := 132) rfl rfl rfl (fun c7 => ?_) (fun c7 => ?_)
    · exact kk M hM (fw_rs (fun q => by
        have q1 := mo_R1.mp q
        omega))
    · refine hp_al (pc' := 133) (j := 0) (Or.inr ⟨0, rfl, rfl, rfl⟩) rfl ?_
      refine hp_gr (pc' := 136) ha (hM.1 244 36 272 rfl) rfl rfl rfl rfl ?_
      refine hp_il (pc' := 137) (j := 3) (Or.inr ⟨3, rfl, rfl, rfl⟩) rfl ?_
      refine hp_al (pc' := 138) (j := 0) (Or.inr ⟨0, rfl, rfl, rfl⟩) rfl ?_
      refine hp_gr (pc' := 141) ha (hM.1 244 36 272 rfl) rfl rfl rfl rfl ?_
      refine hp_il (pc' := 142) (j := 2) (Or.inr ⟨2, rfl, rfl, rfl⟩) rfl ?_
      refine hp_ld (pc' := 143) (j := k) ha h2 (by omega) rfl rfl rfl ?_
      refine hp_ic (pc' := 144) (x := 1) rfl rfl rfl ?_
      refine hp_add (pc' := 145) rfl rfl (fun z8 hz8 => ?_)
      have yz8 : z8.toInt = (M.1 272 k).toInt + 1 := by rw [hz8, ax_add (by rw [one1]; omega) (by rw [one1]; omega), one1]
      refine hp_st (pc' := 146) (j := b) ha h3 (by omega) rfl rfl rfl (fun M9 eM9 gM9 => ?_)
      have hM9 := fw_w2 hM eM9 gM9
      refine hp_al (pc' := 147) (j := 0) (Or.inr ⟨0, rfl, rfl, rfl⟩) rfl ?_
      refine hp_gr (pc' := 150) ha (hM9.1 244 37 273 rfl) rfl rfl rfl rfl ?_
      refine hp_il (pc' := 151) (j := 3) (Or.inr ⟨3, rfl, rfl, rfl⟩) rfl ?_
      refine hp_il (pc' := 152) (j := 2) (Or.inr ⟨2, rfl, rfl, rfl⟩) rfl ?_
      refine hp_st (pc' := 153) (j := b) ha h3 (by omega) rfl rfl rfl (fun M10 eM10 gM10 => ?_)
      have hb : (-1 : Int) ≤ (x2 : Int32).toInt ∧ (x2 : Int32).toInt ≤ 23 := by omega
      have hM10 := fw_w3 hM9 hb eM10 gM10
      exact kk M10 hM10 (fw_rh (mo_R1.mpr (by omega)) eM9 eM10 (by omega) (by omega) (by omega))
theorem fw_153 (ha : a.1 = rx_cells) (hn12 : n ≤ 12) {x1 x2 x3 : Int32} {k b : Nat} (h2 : x2.toInt = (k : Int)) (h3 : x3.toInt = (b : Int)) (hk : k < n) (hb : b < n) {M : rx_M} (hM : fw_inv M0 M) (hf : -9000 ≤ (M.1 272 k).toInt ∧ (M.1 272 k).toInt ≤ 9000) (kk : ∀ M1, fw_inv M0 M1 → gw_RH (mo_R M0 k b (-1)) (-1) k b (mo_F M) (mo_P M) (mo_F M1) (mo_P M1) (12 + (k : Int)) → hp X d 214 208 [some (.ref 244), some (.int x1), some (.int x2), some (.int x3)] [] a M1 P) : hp X d 214 153 [some (.ref 244), some (.int x1), some (.int x2), some (.int x3)] [] a M P := by
  have one1 : (1 : Int32).toInt = 1 := rfl
  have twelve : (12 : Int32).toInt = 12 := rfl
  have f268a : (M.1 268 (12 * k + b)).toInt = (M0.1 268 (12 * k + b)).toInt := by rw [hM.2.2.1 268 _ (by omega)]
  have f268b : (M.1 268 (12 * b + k)).toInt = (M0.1 268 (12 * b + k)).toInt := by rw [hM.2.2.1 268 _ (by omega)]
  have f270a : (M.1 270 (12 * k + b)).toInt = (M0.1 270 (12 * k + b)).toInt := by rw [hM.2.2.1 270 _ (by omega)]
  have f270b : (M.1 270 (12 * b + k)).toInt = (M0.1 270 (12 * b + k)).toInt := by rw [hM.2.2.1 270 _ (by omega)]
  have v1 : mo_F M k = (M.1 272 k).toInt := rfl
  have v2 : mo_F M b = (M.1 272 b).toInt := rfl
  refine hp_al (pc' := 154) (j := 0) (Or.inr ⟨0, rfl, rfl, rfl⟩) rfl ?_
  refine hp_gr (pc' := 157) ha (hM.1 244 34 270 rfl) rfl rfl rfl rfl ?_
  refine hp_bi (pc' := 159) (x := 12) rfl rfl rfl ?_
  refine hp_il (pc' := 160) (j := 3) (Or.inr ⟨3, rfl, rfl, rfl⟩) rfl ?_
  refine hp_mul (pc' := 161) rfl rfl (fun z1 hz1 => ?_)
  refine hp_il (pc' := 162) (j := 2) (Or.inr ⟨2, rfl, rfl, rfl⟩) rfl ?_
  refine hp_add (pc' := 163) rfl rfl (fun z2 hz2 => ?_)
  have xz2 : z2.toInt = (((12 * b + k) : Nat) : Int) := hp_ix h3 h2 (by omega) (by omega) hz1 hz2
  refine hp_ld (pc' := 164) (j := (12 * b + k)) ha xz2 (by omega) rfl rfl rfl ?_
  refine hp_zle (t := 208) (pc' := 167) rfl rfl rfl (fun c3 => ?_) (fun c3 => ?_)
  · exact kk M hM (fw_rs (fun q => by
      have q1 := mo_R2.mp q
      omega))
  · refine hp_al (pc' := 168) (j := 0) (Or.inr ⟨0, rfl, rfl, rfl⟩) rfl ?_
    refine hp_gr (pc' := 171) ha (hM.1 244 36 272 rfl) rfl rfl rfl rfl ?_
    refine hp_il (pc' := 172) (j := 2) (Or.inr ⟨2, rfl, rfl, rfl⟩) rfl ?_
    refine hp_ld (pc' := 173) (j := k) ha h2 (by omega) rfl rfl rfl ?_
    refine hp_ic (pc' := 174) (x := 1) rfl rfl rfl ?_
    refine hp_sub (pc' := 175) rfl rfl (fun z4 hz4 => ?_)
    have yz4 : z4.toInt = (M.1 272 k).toInt - 1 := by rw [hz4, ax_sub (by rw [one1]; omega) (by rw [one1]; omega), one1]
    refine hp_al (pc' := 176) (j := 0) (Or.inr ⟨0, rfl, rfl, rfl⟩) rfl ?_
    refine hp_gr (pc' := 179) ha (hM.1 244 36 272 rfl) rfl rfl rfl rfl ?_
    refine hp_il (pc' := 180) (j := 3) (Or.inr ⟨3, rfl, rfl, rfl⟩) rfl ?_
    refine hp_ld (pc' := 181) (j := b) ha h3 (by omega) rfl rfl rfl ?_
    refine hp_ige (t := 208) (pc' := 184) rfl rfl rfl (fun c5 => ?_) (fun c5 => ?_)
    · exact kk M hM (fw_rs (fun q => by
        have q1 := mo_R2.mp q
        omega))
    · refine hp_al (pc' := 185) (j := 0) (Or.inr ⟨0, rfl, rfl, rfl⟩) rfl ?_
      refine hp_gr (pc' := 188) ha (hM.1 244 36 272 rfl) rfl rfl rfl rfl ?_
      refine hp_il (pc' := 189) (j := 3) (Or.inr ⟨3, rfl, rfl, rfl⟩) rfl ?_
      refine hp_al (pc' := 190) (j := 0) (Or.inr ⟨0, rfl, rfl, rfl⟩) rfl ?_
      refine hp_gr (pc' := 193) ha (hM.1 244 36 272 rfl) rfl rfl rfl rfl ?_
      refine hp_il (pc' := 194) (j := 2) (Or.inr ⟨2, rfl, rfl, rfl⟩) rfl ?_
      refine hp_ld (pc' := 195) (j := k) ha h2 (by omega) rfl rfl rfl ?_
      refine hp_ic (pc' := 196) (x := 1) rfl rfl rfl ?_
      refine hp_sub (pc' := 197) rfl rfl (fun z6 hz6 => ?_)
      have yz6 : z6.toInt = (M.1 272 k).toInt - 1 := by rw [hz6, ax_sub (by rw [one1]; omega) (by rw [one1]; omega), one1]
      refine hp_st (pc' := 198) (j := b) ha h3 (by omega) rfl rfl rfl (fun M7 eM7 gM7 => ?_)
      have hM7 := fw_w2 hM eM7 gM7
      refine hp_al (pc' := 199) (j := 0) (Or.inr ⟨0, rfl, rfl, rfl⟩) rfl ?_
      refine hp_gr (pc' := 202) ha (hM7.1 244 37 273 rfl) rfl rfl rfl rfl ?_
      refine hp_il (pc' := 203) (j := 3) (Or.inr ⟨3, rfl, rfl, rfl⟩) rfl ?_
      refine hp_bi (pc' := 205) (x := 12) rfl rfl rfl ?_
      refine hp_il (pc' := 206) (j := 2) (Or.inr ⟨2, rfl, rfl, rfl⟩) rfl ?_
      refine hp_add (pc' := 207) rfl rfl (fun z8 hz8 => ?_)
      have yz8 : z8.toInt = 12 + (k : Int) := by rw [hz8, ax_add (by rw [twelve]; omega) (by rw [twelve]; omega), twelve, h2]
      refine hp_st (pc' := 208) (j := b) ha h3 (by omega) rfl rfl rfl (fun M9 eM9 gM9 => ?_)
      have hb : (-1 : Int) ≤ (z8 : Int32).toInt ∧ (z8 : Int32).toInt ≤ 23 := by omega
      have hM9 := fw_w3 hM7 hb eM9 gM9
      exact kk M9 hM9 (fw_rh (mo_R2.mpr (by omega)) eM7 eM9 (by omega) (by omega) (by omega))
theorem fw_67 (ha : a.1 = rx_cells) (hn : (M0.1 244 1).toInt = (n : Int)) (hn12 : n ≤ 12) {p : Nat → Int} (hp0 : ∀ a b c, a < n → b < n → mo_R M0 a b c → 0 ≤ c + p a - p b) {x1 x2 : Int32} {t k : Nat} (ht : t ≤ 12) (h2 : x2.toInt = (k : Int)) (hk : k < n) : ∀ (m b : Nat) (x3 : Int32) (M : rx_M) (s : Int), m + b = n → x3.toInt = (b : Int) → fw_inv M0 M → 0 ≤ s → s + m ≤ 5000 → gw_I n (mo_R M0) (mo_r M0) t k b s (mo_F M) (mo_P M) → (∀ M1 x s1, s1 ≤ s + m → 0 ≤ s1 → fw_inv M0 M1 → gw_I n (mo_R M0) (mo_r M0) t k n s1 (mo_F M1) (mo_P M1) → hp X d 214 214 [some (.ref 244), some (.int x1), some (.int x2), some (.int x)] [] a M1 P) → hp X d 214 67 [some (.ref 244), some (.int x1), some (.int x2), some (.int x3)] [] a M P
  | 0, b, x3, M, s, hb, h3, hM, h0, hs, hI, kk => by
    refine hp_il (pc' := 68) (j := 3) (Or.inr ⟨3, rfl, rfl, rfl⟩) rfl ?_
    refine hp_al (pc' := 69) (j := 0) (Or.inr ⟨0, rfl, rfl, rfl⟩) rfl ?_
    have m69 := fw_n hM hn
    refine hp_gi (pc' := 72) (j := 1) (t := 0) ha rfl rfl rfl (by decide) rfl ?_
    refine hp_ige (t := 214) (pc' := 75) rfl rfl rfl (fun c1 => ?_) (fun c1 => ?_)
    · have e : b = n := by omega
      subst e
      exact kk M x3 s (by omega) h0 hM hI
    · exfalso
      omega
  | m + 1, b, x3, M, s, hb, h3, hM, h0, hs, hI, kk => by
    refine hp_il (pc' := 68) (j := 3) (Or.inr ⟨3, rfl, rfl, rfl⟩) rfl ?_
    refine hp_al (pc' := 69) (j := 0) (Or.inr ⟨0, rfl, rfl, rfl⟩) rfl ?_
    have m69 := fw_n hM hn
    refine hp_gi (pc' := 72) (j := 1) (t := 0) ha rfl rfl rfl (by decide) rfl ?_
    refine hp_ige (t := 214) (pc' := 75) rfl rfl rfl (fun c1 => ?_) (fun c1 => ?_)
    · exfalso
      omega
    · refine hp_al (pc' := 76) (j := 0) (Or.inr ⟨0, rfl, rfl, rfl⟩) rfl ?_
      refine hp_gr (pc' := 79) ha (hM.1 244 36 272 rfl) rfl rfl rfl rfl ?_
      refine hp_il (pc' := 80) (j := 2) (Or.inr ⟨2, rfl, rfl, rfl⟩) rfl ?_
      refine hp_ld (pc' := 81) (j := k) ha h2 (by omega) rfl rfl rfl ?_
      refine hp_si (pc' := 84) (x := 10000) rfl rfl rfl ?_
      refine hp_ine (t := 90) (pc' := 87) rfl rfl rfl (fun c2 => ?_) (fun c2 => ?_)
      · have hf : -9000 ≤ (M.1 272 k).toInt ∧ (M.1 272 k).toInt ≤ 9000 := by
          rcases hI.2.2.2.2 k hk with q | q
          · exact absurd q c2
          · have q : -s ≤ (M.1 272 k).toInt ∧ (M.1 272 k).toInt ≤ s := q
            omega
        refine fw_90 ha hn12 h2 h3 hk (by omega) hM hf (fun M1 hM1 r1 => ?_)
        have hf1 : -9000 ≤ (M1.1 272 k).toInt ∧ (M1.1 272 k).toInt ≤ 9000 := by
          have q0 : mo_F M k = (M.1 272 k).toInt := rfl
          have q9 : mo_F M1 k = (M1.1 272 k).toInt := rfl
          by_cases q : k = b
          · rw [← q] at r1
            rcases r1.2 with ⟨w, -, -⟩ | ⟨-, w1, w2, -⟩ <;> omega
          · have w := (r1.1 k q).1
            omega
        refine fw_153 ha hn12 h2 h3 hk (by omega) hM1 hf1 (fun M2 hM2 r2 => ?_)
        refine hp_in (pc' := 211) (j := 3) (ls' := [some (.ref 244), some (.int x1), some (.int x2), some (.int (x3 + Int32.ofInt 1))]) rfl rfl rfl rfl rfl ?_
        refine hp_go (t := 67) rfl rfl ?_
        exact fw_67 ha hn hn12 hp0 ht h2 hk m (b + 1) _ M2 (s + 1) (by omega) (hp_i1 h3 (by omega)) hM2 (by omega) (by omega) (gw_I_step hp0 mo_Rc hn12 ht h0 (by omega) hk (by omega) hI (gw_RH2 mo_Rc c2 r1 r2)) (fun M1 x s1 q => kk M1 x s1 (by omega))
      · refine hp_go (t := 208) rfl rfl ?_
        refine hp_in (pc' := 211) (j := 3) (ls' := [some (.ref 244), some (.int x1), some (.int x2), some (.int (x3 + Int32.ofInt 1))]) rfl rfl rfl rfl rfl ?_
        refine hp_go (t := 67) rfl rfl ?_
        exact fw_67 ha hn hn12 hp0 ht h2 hk m (b + 1) _ M (s + 1) (by omega) (hp_i1 h3 (by omega)) hM (by omega) (by omega) (gw_I_step hp0 mo_Rc hn12 ht h0 (by omega) hk (by omega) hI ⟨fun _ _ => ⟨rfl, rfl⟩, Or.inl ⟨rfl, rfl⟩, fun q => absurd c2 q⟩) (fun M1 x s1 q => kk M1 x s1 (by omega))
theorem fw_57 (ha : a.1 = rx_cells) (hn : (M0.1 244 1).toInt = (n : Int)) (hn12 : n ≤ 12) {p : Nat → Int} (hp0 : ∀ a b c, a < n → b < n → mo_R M0 a b c → 0 ≤ c + p a - p b) {x1 : Int32} {t : Nat} (ht : t ≤ 12) : ∀ (m k : Nat) (x2 : Int32) (o3 : Option Value) (M : rx_M) (s : Int), m + k = n → (o3 = none ∨ ∃ y, o3 = some (.int y)) → x2.toInt = (k : Int) → fw_inv M0 M → 0 ≤ s → s + 12 * m ≤ 5000 → gw_I n (mo_R M0) (mo_r M0) t k 0 s (mo_F M) (mo_P M) → (∀ M1 x o s1, s1 ≤ s + 12 * m → 0 ≤ s1 → (o = none ∨ ∃ y, o = some (.int y)) → fw_inv M0 M1 → gw_I n (mo_R M0) (mo_r M0) t n 0 s1 (mo_F M1) (mo_P M1) → hp X d 214 220 [some (.ref 244), some (.int x1), some (.int x), o] [] a M1 P) → hp X d 214 57 [some (.ref 244), some (.int x1), some (.int x2), o3] [] a M P
  | 0, k, x2, o3, M, s, hb, ho, h2, hM, h0, hs, hI, kk => by
    refine hp_il (pc' := 58) (j := 2) (Or.inr ⟨2, rfl, rfl, rfl⟩) rfl ?_
    refine hp_al (pc' := 59) (j := 0) (Or.inr ⟨0, rfl, rfl, rfl⟩) rfl ?_
    have m59 := fw_n hM hn
    refine hp_gi (pc' := 62) (j := 1) (t := 0) ha rfl rfl rfl (by decide) rfl ?_
    refine hp_ige (t := 220) (pc' := 65) rfl rfl rfl (fun c1 => ?_) (fun c1 => ?_)
    · have e : k = n := by omega
      subst e
      exact kk M x2 o3 s (by omega) h0 ho hM hI
    · exfalso
      omega
  | m + 1, k, x2, o3, M, s, hb, ho, h2, hM, h0, hs, hI, kk => by
    refine hp_il (pc' := 58) (j := 2) (Or.inr ⟨2, rfl, rfl, rfl⟩) rfl ?_
    refine hp_al (pc' := 59) (j := 0) (Or.inr ⟨0, rfl, rfl, rfl⟩) rfl ?_
    have m59 := fw_n hM hn
    refine hp_gi (pc' := 62) (j := 1) (t := 0) ha rfl rfl rfl (by decide) rfl ?_
    refine hp_ige (t := 220) (pc' := 65) rfl rfl rfl (fun c1 => ?_) (fun c1 => ?_)
    · exfalso
      omega
    · rcases ho with e | ⟨y, e⟩
      · subst e
        refine hp_ic (pc' := 66) (x := 0) rfl rfl rfl ?_
        refine hp_is (pc' := 67) (j := 3) (ls' := [some (.ref 244), some (.int x1), some (.int x2), some (.int (0 : Int32))]) (Or.inr ⟨3, rfl, rfl, rfl⟩) (by simp) rfl ?_
        refine fw_67 ha hn hn12 hp0 ht h2 (by omega) n 0 _ M s (by omega) rfl hM h0 (by omega) hI (fun M1 x s1 q1 q2 hM1 hI1 => ?_)
        refine hp_in (pc' := 217) (j := 2) (ls' := [some (.ref 244), some (.int x1), some (.int (x2 + Int32.ofInt 1)), some (.int x)]) rfl rfl rfl rfl rfl ?_
        refine hp_go (t := 57) rfl rfl ?_
        exact fw_57 ha hn hn12 hp0 ht m (k + 1) _ _ M1 s1 (by omega) (Or.inr ⟨_, rfl⟩) (hp_i1 h2 (by omega)) hM1 q2 (by omega) (gw_I_a hI1) (fun M2 x o s2 q => kk M2 x o s2 (by omega))
      · subst e
        refine hp_ic (pc' := 66) (x := 0) rfl rfl rfl ?_
        refine hp_is (pc' := 67) (j := 3) (ls' := [some (.ref 244), some (.int x1), some (.int x2), some (.int (0 : Int32))]) (Or.inr ⟨3, rfl, rfl, rfl⟩) (by simp) rfl ?_
        refine fw_67 ha hn hn12 hp0 ht h2 (by omega) n 0 _ M s (by omega) rfl hM h0 (by omega) hI (fun M1 x s1 q1 q2 hM1 hI1 => ?_)
        refine hp_in (pc' := 217) (j := 2) (ls' := [some (.ref 244), some (.int x1), some (.int (x2 + Int32.ofInt 1)), some (.int x)]) rfl rfl rfl rfl rfl ?_
        refine hp_go (t := 57) rfl rfl ?_
        exact fw_57 ha hn hn12 hp0 ht m (k + 1) _ _ M1 s1 (by omega) (Or.inr ⟨_, rfl⟩) (hp_i1 h2 (by omega)) hM1 q2 (by omega) (gw_I_a hI1) (fun M2 x o s2 q => kk M2 x o s2 (by omega))
theorem fw_47 (ha : a.1 = rx_cells) (hn : (M0.1 244 1).toInt = (n : Int)) (hn12 : n ≤ 12) {p : Nat → Int} (hp0 : ∀ a b c, a < n → b < n → mo_R M0 a b c → 0 ≤ c + p a - p b) : ∀ (m t : Nat) (x1 : Int32) (o2 o3 : Option Value) (M : rx_M) (s : Int), m + t = n → (o2 = none ∨ ∃ y, o2 = some (.int y)) → (o3 = none ∨ ∃ y, o3 = some (.int y)) → x1.toInt = (t : Int) → fw_inv M0 M → 0 ≤ s → s + 144 * m ≤ 5000 → gw_I n (mo_R M0) (mo_r M0) t 0 0 s (mo_F M) (mo_P M) → (∀ M1 x o2 o3 s1, s1 ≤ 5000 → fw_inv M0 M1 → gw_I n (mo_R M0) (mo_r M0) n 0 0 s1 (mo_F M1) (mo_P M1) → hp X d 214 226 [some (.ref 244), some (.int x), o2, o3] [] a M1 P) → hp X d 214 47 [some (.ref 244), some (.int x1), o2, o3] [] a M P
  | 0, t, x1, o2, o3, M, s, hb, ho2, ho3, h1, hM, h0, hs, hI, kk => by
    refine hp_il (pc' := 48) (j := 1) (Or.inr ⟨1, rfl, rfl, rfl⟩) rfl ?_
    refine hp_al (pc' := 49) (j := 0) (Or.inr ⟨0, rfl, rfl, rfl⟩) rfl ?_
    have m49 := fw_n hM hn
    refine hp_gi (pc' := 52) (j := 1) (t := 0) ha rfl rfl rfl (by decide) rfl ?_
    refine hp_ige (t := 226) (pc' := 55) rfl rfl rfl (fun c1 => ?_) (fun c1 => ?_)
    · have e : t = n := by omega
      subst e
      exact kk M x1 o2 o3 s (by omega) hM hI
    · exfalso
      omega
  | m + 1, t, x1, o2, o3, M, s, hb, ho2, ho3, h1, hM, h0, hs, hI, kk => by
    refine hp_il (pc' := 48) (j := 1) (Or.inr ⟨1, rfl, rfl, rfl⟩) rfl ?_
    refine hp_al (pc' := 49) (j := 0) (Or.inr ⟨0, rfl, rfl, rfl⟩) rfl ?_
    have m49 := fw_n hM hn
    refine hp_gi (pc' := 52) (j := 1) (t := 0) ha rfl rfl rfl (by decide) rfl ?_
    refine hp_ige (t := 226) (pc' := 55) rfl rfl rfl (fun c1 => ?_) (fun c1 => ?_)
    · exfalso
      omega
    · rcases ho2 with e | ⟨y, e⟩
      · subst e
        refine hp_ic (pc' := 56) (x := 0) rfl rfl rfl ?_
        refine hp_is (pc' := 57) (j := 2) (ls' := [some (.ref 244), some (.int x1), some (.int (0 : Int32)), o3]) (Or.inr ⟨2, rfl, rfl, rfl⟩) (by simp) rfl ?_
        refine fw_57 ha hn hn12 hp0 (by omega) n 0 _ _ M s (by omega) ho3 rfl hM h0 (by omega) hI (fun M1 x o s1 q1 q2 ho hM1 hI1 => ?_)
        refine hp_in (pc' := 223) (j := 1) (ls' := [some (.ref 244), some (.int (x1 + Int32.ofInt 1)), some (.int x), o]) rfl rfl rfl rfl rfl ?_
        refine hp_go (t := 47) rfl rfl ?_
        exact fw_47 ha hn hn12 hp0 m (t + 1) _ _ _ M1 s1 (by omega) (Or.inr ⟨_, rfl⟩) ho (hp_i1 h1 (by omega)) hM1 q2 (by omega) (gw_I_t hI1) kk
      · subst e
        refine hp_ic (pc' := 56) (x := 0) rfl rfl rfl ?_
        refine hp_is (pc' := 57) (j := 2) (ls' := [some (.ref 244), some (.int x1), some (.int (0 : Int32)), o3]) (Or.inr ⟨2, rfl, rfl, rfl⟩) (by simp) rfl ?_
        refine fw_57 ha hn hn12 hp0 (by omega) n 0 _ _ M s (by omega) ho3 rfl hM h0 (by omega) hI (fun M1 x o s1 q1 q2 ho hM1 hI1 => ?_)
        refine hp_in (pc' := 223) (j := 1) (ls' := [some (.ref 244), some (.int (x1 + Int32.ofInt 1)), some (.int x), o]) rfl rfl rfl rfl rfl ?_
        refine hp_go (t := 47) rfl rfl ?_
        exact fw_47 ha hn hn12 hp0 m (t + 1) _ _ _ M1 s1 (by omega) (Or.inr ⟨_, rfl⟩) ho (hp_i1 h1 (by omega)) hM1 q2 (by omega) (gw_I_t hI1) kk
theorem fw_i1 {M0 M M1 M2 : rx_M} {k : Nat} {z w : Int32} (hM : fw_inv M0 M) (hI : ∀ f, f < k → ((mo_r M0 f ∧ mo_F M f = 0) ∨ (¬ mo_r M0 f ∧ mo_F M f = 10000)) ∧ mo_P M f = -1) (e1 : M1.1 = rx_up M.1 272 k z) (e2 : M2.1 = rx_up M1.1 273 k w) (hz : (0 < (M.1 271 k).toInt ∧ z.toInt = 0) ∨ (¬ 0 < (M.1 271 k).toInt ∧ z.toInt = 10000)) (hw : w.toInt = -1) : ∀ f, f < k + 1 → ((mo_r M0 f ∧ mo_F M2 f = 0) ∨ (¬ mo_r M0 f ∧ mo_F M2 f = 10000)) ∧ mo_P M2 f = -1 := by
  intro f hf
  unfold mo_r mo_F mo_P
  by_cases q : f = k
  · subst q
    rw [e2, hp_up_eq, hp_up_ne (by omega), e1, hp_up_eq, ← hM.2.2.1 271 f (by omega)]
    exact ⟨hz, hw⟩
  · rw [e2, hp_up_ne (fun z => q z.2), hp_up_ne (by omega), e1, hp_up_ne (fun z => q z.2), hp_up_ne (by omega)]
    exact hI f (by omega)
theorem fw_2 (ha : a.1 = rx_cells) (hn : (M0.1 244 1).toInt = (n : Int)) (hn12 : n ≤ 12) : ∀ (m k : Nat) (x1 : Int32) (M : rx_M), m + k = n → x1.toInt = (k : Int) → fw_inv M0 M → (∀ f, f < k → ((mo_r M0 f ∧ mo_F M f = 0) ∨ (¬ mo_r M0 f ∧ mo_F M f = 10000)) ∧ mo_P M f = -1) → (∀ M1 x, fw_inv M0 M1 → (∀ f, f < n → ((mo_r M0 f ∧ mo_F M1 f = 0) ∨ (¬ mo_r M0 f ∧ mo_F M1 f = 10000)) ∧ mo_P M1 f = -1) → hp X d 214 45 [some (.ref 244), some (.int x), none, none] [] a M1 P) → hp X d 214 2 [some (.ref 244), some (.int x1), none, none] [] a M P
  | 0, k, x1, M, hb, h1, hM, hI, kk => by
    refine hp_il (pc' := 3) (j := 1) (Or.inr ⟨1, rfl, rfl, rfl⟩) rfl ?_
    refine hp_al (pc' := 4) (j := 0) (Or.inr ⟨0, rfl, rfl, rfl⟩) rfl ?_
    have m4 := fw_n hM hn
    refine hp_gi (pc' := 7) (j := 1) (t := 0) ha rfl rfl rfl (by decide) rfl ?_
    refine hp_ige (t := 45) (pc' := 10) rfl rfl rfl (fun c1 => ?_) (fun c1 => ?_)
    · have e : k = n := by omega
      subst e
      exact kk M x1 hM hI
    · exfalso
      omega
  | m + 1, k, x1, M, hb, h1, hM, hI, kk => by
    refine hp_il (pc' := 3) (j := 1) (Or.inr ⟨1, rfl, rfl, rfl⟩) rfl ?_
    refine hp_al (pc' := 4) (j := 0) (Or.inr ⟨0, rfl, rfl, rfl⟩) rfl ?_
    have m4 := fw_n hM hn
    refine hp_gi (pc' := 7) (j := 1) (t := 0) ha rfl rfl rfl (by decide) rfl ?_
    refine hp_ige (t := 45) (pc' := 10) rfl rfl rfl (fun c1 => ?_) (fun c1 => ?_)
    · exfalso
      omega
    · refine hp_al (pc' := 11) (j := 0) (Or.inr ⟨0, rfl, rfl, rfl⟩) rfl ?_
      refine hp_gr (pc' := 14) ha (hM.1 244 36 272 rfl) rfl rfl rfl rfl ?_
      refine hp_il (pc' := 15) (j := 1) (Or.inr ⟨1, rfl, rfl, rfl⟩) rfl ?_
      refine hp_al (pc' := 16) (j := 0) (Or.inr ⟨0, rfl, rfl, rfl⟩) rfl ?_
      refine hp_gr (pc' := 19) ha (hM.1 244 35 271 rfl) rfl rfl rfl rfl ?_
      refine hp_il (pc' := 20) (j := 1) (Or.inr ⟨1, rfl, rfl, rfl⟩) rfl ?_
      refine hp_ld (pc' := 21) (j := k) ha h1 (by omega) rfl rfl rfl ?_
      refine hp_zle (t := 28) (pc' := 24) rfl rfl rfl (fun c2 => ?_) (fun c2 => ?_)
      · refine hp_si (pc' := 31) (x := 10000) rfl rfl rfl ?_
        refine hp_st (pc' := 32) (j := k) ha h1 (by omega) rfl rfl rfl (fun M3 eM3 gM3 => ?_)
        have hM3 := fw_w2 hM eM3 gM3
        refine hp_al (pc' := 33) (j := 0) (Or.inr ⟨0, rfl, rfl, rfl⟩) rfl ?_
        refine hp_gr (pc' := 36) ha (hM3.1 244 37 273 rfl) rfl rfl rfl rfl ?_
        refine hp_il (pc' := 37) (j := 1) (Or.inr ⟨1, rfl, rfl, rfl⟩) rfl ?_
        refine hp_ic (pc' := 38) (x := (-1)) rfl rfl rfl ?_
        refine hp_st (pc' := 39) (j := k) ha h1 (by omega) rfl rfl rfl (fun M4 eM4 gM4 => ?_)
        have hM4 := fw_w3 hM3 (by decide) eM4 gM4
        refine hp_in (pc' := 42) (j := 1) (ls' := [some (.ref 244), some (.int (x1 + Int32.ofInt 1)), none, none]) rfl rfl rfl rfl rfl ?_
        refine hp_go (t := 2) rfl rfl ?_
        exact fw_2 ha hn hn12 m (k + 1) _ M4 (by omega) (hp_i1 h1 (by omega)) hM4 (fw_i1 hM hI eM3 eM4 (by first | exact Or.inl ⟨by omega, rfl⟩ | exact Or.inr ⟨by omega, rfl⟩) rfl) kk
      · refine hp_ic (pc' := 25) (x := 0) rfl rfl rfl ?_
        refine hp_go (t := 31) rfl rfl ?_
        refine hp_st (pc' := 32) (j := k) ha h1 (by omega) rfl rfl rfl (fun M5 eM5 gM5 => ?_)
        have hM5 := fw_w2 hM eM5 gM5
        refine hp_al (pc' := 33) (j := 0) (Or.inr ⟨0, rfl, rfl, rfl⟩) rfl ?_
        refine hp_gr (pc' := 36) ha (hM5.1 244 37 273 rfl) rfl rfl rfl rfl ?_
        refine hp_il (pc' := 37) (j := 1) (Or.inr ⟨1, rfl, rfl, rfl⟩) rfl ?_
        refine hp_ic (pc' := 38) (x := (-1)) rfl rfl rfl ?_
        refine hp_st (pc' := 39) (j := k) ha h1 (by omega) rfl rfl rfl (fun M6 eM6 gM6 => ?_)
        have hM6 := fw_w3 hM5 (by decide) eM6 gM6
        refine hp_in (pc' := 42) (j := 1) (ls' := [some (.ref 244), some (.int (x1 + Int32.ofInt 1)), none, none]) rfl rfl rfl rfl rfl ?_
        refine hp_go (t := 2) rfl rfl ?_
        exact fw_2 ha hn hn12 m (k + 1) _ M6 (by omega) (hp_i1 h1 (by omega)) hM6 (fw_i1 hM hI eM5 eM6 (by first | exact Or.inl ⟨by omega, rfl⟩ | exact Or.inr ⟨by omega, rfl⟩) rfl) kk
/-- findWays ends, and what it leaves -/
noncomputable def fw_Q (n : Nat) (a : rx_K) (M0 : rx_M) (o : rx_O) : Prop := o.1 = none ∧ o.2.1 = a ∧ fw_inv M0 o.2.2 ∧ gw_E n (mo_R M0) (mo_r M0) (mo_F o.2.2) (mo_P o.2.2)
theorem fw_ok (ha : a.1 = rx_cells) (hn : (M0.1 244 1).toInt = (n : Int)) (hn12 : n ≤ 12) {p : Nat → Int} (hp0 : ∀ a b c, a < n → b < n → mo_R M0 a b c → 0 ≤ c + p a - p b) {M : rx_M} (hM : fw_inv M0 M) : hp X d 214 0 [some (.ref 244), none, none, none] [] a M (fw_Q n a M0) := by
  refine hp_ic (pc' := 1) (x := 0) rfl rfl rfl ?_
  refine hp_is (pc' := 2) (j := 1) (ls' := [some (.ref 244), some (.int (0 : Int32)), none, none]) (Or.inr ⟨1, rfl, rfl, rfl⟩) (by simp) rfl ?_
  refine fw_2 ha hn hn12 n 0 _ M (by omega) rfl hM (fun f hf => absurd hf (Nat.not_lt_zero f)) (fun M1 x hM1 hI1 => ?_)
  refine hp_ic (pc' := 46) (x := 0) rfl rfl rfl ?_
  refine hp_is (pc' := 47) (j := 1) (ls' := [some (.ref 244), some (.int (0 : Int32)), none, none]) (Or.inr ⟨1, rfl, rfl, rfl⟩) (by simp) rfl ?_
  refine fw_47 ha hn hn12 hp0 n 0 _ _ _ M1 0 (by omega) (Or.inl rfl) (Or.inl rfl) rfl hM1 (by omega) (by omega) (gw_I_0 (fun f hf => (hI1 f hf).1) (fun f hf => (hI1 f hf).2)) (fun M2 x o2 o3 s1 q hM2 hI2 => ?_)
  refine hp_rv rfl rfl ?_
  exact ⟨rfl, rfl, hM2, gw_I_end hp0 (by omega) hI2⟩
end FW
