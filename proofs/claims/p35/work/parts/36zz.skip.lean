/-! loops that are stepped over: all that they change is one array -/
section SK
variable {X : Nat × (Nat → Int32)} {d n D I J : Nat} {a : rx_K} {M0 : rx_M} {P : rx_O → Prop} {x1 x2 x3 x4 x5 : Int32}
theorem hp_m80 {x z : Int32} {j : Nat} (hx : x.toInt = (j : Int)) (hj : j < 151) (hz : z = 80 * x) : z.toInt = ((80 * j : Nat) : Int) := by
  have e : (80 : Int32).toInt = 80 := rfl
  rw [hz, ax_mul (by rw [e]; omega) (by rw [e]; omega), e, hx]
  omega
theorem hp_aa {x y z : Int32} {j k : Nat} (hx : x.toInt = (j : Int)) (hy : y.toInt = (k : Int)) (hj : j + k < 100000) (hz : z = x + y) : z.toInt = ((j + k : Nat) : Int) := by
  rw [hz, ax_add (by omega) (by omega)]
  omega
noncomputable def sk_I (c : Nat) (M0 M : rx_M) : Prop := (M.2.1 244 54 = some 287 ∧ M.2.1 244 56 = some 289) ∧ M.2 = M0.2 ∧ ∀ q j, q ≠ c → M.1 q j = M0.1 q j
theorem sk_w {c q j : Nat} {z : Int32} {M M1 : rx_M} (h : sk_I c M0 M) (hq : q = c) (e : M1.1 = rx_up M.1 q j z) (g : M1.2 = M.2) : sk_I c M0 M1 := by
  refine ⟨by rw [g]; exact h.1, g.trans h.2.1, fun p k hp => ?_⟩
  rw [e, hp_up_ne (by omega)]
  exact h.2.2 p k hp
theorem sk_57 (ha : a.1 = rx_cells) (h1 : x1.toInt = (D : Int)) (hD : D < 8) : ∀ (m k : Nat) (xk : Int32) (M : rx_M), m + k = 80 → xk.toInt = (k : Int) → sk_I 287 M0 M → (∀ x M, x.toInt = 80 → sk_I 287 M0 M → hp X d 238 83 [some (.ref 244), some (.int x1), some (.int x2), some (.int x3), some (.int x)] [] a M P) → hp X d 238 57 [some (.ref 244), some (.int x1), some (.int x2), some (.int x3), some (.int xk)] [] a M P := by
  intro m
  induction m with
  | zero =>
    intro k xk M hb hk hM kk
    have z80 : (80 : Int32).toInt = 80 := rfl
    refine hp_il (pc' := 59) (j := 4) (Or.inl ⟨rfl, rfl⟩) rfl ?_
    refine hp_bi (pc' := 61) (x := 80) rfl rfl rfl ?_
    refine hp_ige (t := 83) (pc' := 64) rfl rfl rfl (fun c1 => ?_) (fun c1 => ?_)
    · exact kk _ M (by omega) hM
    · exfalso
      omega
  | succ m ih =>
    intro k xk M hb hk hM kk
    have z80 : (80 : Int32).toInt = 80 := rfl
    refine hp_il (pc' := 59) (j := 4) (Or.inl ⟨rfl, rfl⟩) rfl ?_
    refine hp_bi (pc' := 61) (x := 80) rfl rfl rfl ?_
    refine hp_ige (t := 83) (pc' := 64) rfl rfl rfl (fun c1 => ?_) (fun c1 => ?_)
    · exfalso
      omega
    · refine hp_al (pc' := 65) (j := 0) (Or.inr ⟨0, rfl, rfl, rfl⟩) rfl ?_
      refine hp_gr (pc' := 68) ha hM.1.1 rfl rfl rfl rfl ?_
      refine hp_bi (pc' := 70) (x := 80) rfl rfl rfl ?_
      refine hp_il (pc' := 71) (j := 1) (Or.inr ⟨1, rfl, rfl, rfl⟩) rfl ?_
      refine hp_mul (pc' := 72) rfl rfl (fun z2 hz2 => ?_)
      have xz2 : z2.toInt = (((80 * D) : Nat) : Int) := hp_m80 h1 (by omega) hz2
      refine hp_il (pc' := 74) (j := 4) (Or.inl ⟨rfl, rfl⟩) rfl ?_
      refine hp_add (pc' := 75) rfl rfl (fun z3 hz3 => ?_)
      have xz3 : z3.toInt = (((80 * D + k) : Nat) : Int) := hp_aa xz2 hk (by omega) hz3
      refine hp_ic (pc' := 76) (x := 0) rfl rfl rfl ?_
      refine hp_st (pc' := 77) (j := (80 * D + k)) ha xz3 (by omega) rfl rfl rfl (fun M4 eM4 gM4 => ?_)
      have hM4 := sk_w hM rfl eM4 gM4
      refine hp_in (pc' := 80) (j := 4) (ls' := [some (.ref 244), some (.int x1), some (.int x2), some (.int x3), some (.int (xk + Int32.ofInt 1))]) rfl rfl rfl rfl rfl ?_
      refine hp_go (t := 57) rfl rfl ?_
      exact ih (k + 1) _ M4 (by omega) (hp_i1 hk (by omega)) hM4 kk
theorem sk_124 (ha : a.1 = rx_cells) (h1 : x1.toInt = (D : Int)) (hD : D < 8) (h2 : x2.toInt = (I : Int)) (h5 : x5.toInt = (n : Int)) (hI : I + n ≤ 80) : ∀ (m k : Nat) (xk : Int32) (M : rx_M), m + k = n → xk.toInt = (k : Int) → sk_I 289 M0 M → (∀ x M, x.toInt = x5.toInt → sk_I 289 M0 M → hp X d 242 158 [some (.ref 244), some (.int x1), some (.int x2), some (.int x3), some (.int x4), some (.int x5), some (.int x)] [] a M P) → hp X d 242 124 [some (.ref 244), some (.int x1), some (.int x2), some (.int x3), some (.int x4), some (.int x5), some (.int xk)] [] a M P := by
  intro m
  induction m with
  | zero =>
    intro k xk M hb hk hM kk
    have z80 : (80 : Int32).toInt = 80 := rfl
    refine hp_il (pc' := 126) (j := 6) (Or.inl ⟨rfl, rfl⟩) rfl ?_
    refine hp_il (pc' := 128) (j := 5) (Or.inl ⟨rfl, rfl⟩) rfl ?_
    refine hp_ige (t := 158) (pc' := 131) rfl rfl rfl (fun c1 => ?_) (fun c1 => ?_)
    · exact kk _ M (by omega) hM
    · exfalso
      omega
  | succ m ih =>
    intro k xk M hb hk hM kk
    have z80 : (80 : Int32).toInt = 80 := rfl
    refine hp_il (pc' := 126) (j := 6) (Or.inl ⟨rfl, rfl⟩) rfl ?_
    refine hp_il (pc' := 128) (j := 5) (Or.inl ⟨rfl, rfl⟩) rfl ?_
    refine hp_ige (t := 158) (pc' := 131) rfl rfl rfl (fun c1 => ?_) (fun c1 => ?_)
    · exfalso
      omega
    · refine hp_al (pc' := 132) (j := 0) (Or.inr ⟨0, rfl, rfl, rfl⟩) rfl ?_
      refine hp_gr (pc' := 135) ha hM.1.2 rfl rfl rfl rfl ?_
      refine hp_il (pc' := 137) (j := 6) (Or.inl ⟨rfl, rfl⟩) rfl ?_
      refine hp_al (pc' := 138) (j := 0) (Or.inr ⟨0, rfl, rfl, rfl⟩) rfl ?_
      refine hp_gr (pc' := 141) ha hM.1.1 rfl rfl rfl rfl ?_
      refine hp_bi (pc' := 143) (x := 80) rfl rfl rfl ?_
      refine hp_il (pc' := 144) (j := 1) (Or.inr ⟨1, rfl, rfl, rfl⟩) rfl ?_
      refine hp_mul (pc' := 145) rfl rfl (fun z2 hz2 => ?_)
      have xz2 : z2.toInt = (((80 * D) : Nat) : Int) := hp_m80 h1 (by omega) hz2
      refine hp_il (pc' := 146) (j := 2) (Or.inr ⟨2, rfl, rfl, rfl⟩) rfl ?_
      refine hp_add (pc' := 147) rfl rfl (fun z3 hz3 => ?_)
      have xz3 : z3.toInt = (((80 * D + I) : Nat) : Int) := hp_aa xz2 h2 (by omega) hz3
      refine hp_il (pc' := 149) (j := 6) (Or.inl ⟨rfl, rfl⟩) rfl ?_
      refine hp_add (pc' := 150) rfl rfl (fun z4 hz4 => ?_)
      have xz4 : z4.toInt = (((80 * D + I + k) : Nat) : Int) := hp_aa xz3 hk (by omega) hz4
      refine hp_ld (pc' := 151) (j := (80 * D + I + k)) ha xz4 (by omega) rfl rfl rfl ?_
      refine hp_st (pc' := 152) (j := k) ha hk (by omega) rfl rfl rfl (fun M5 eM5 gM5 => ?_)
      have hM5 := sk_w hM rfl eM5 gM5
      refine hp_in (pc' := 155) (j := 6) (ls' := [some (.ref 244), some (.int x1), some (.int x2), some (.int x3), some (.int x4), some (.int x5), some (.int (xk + Int32.ofInt 1))]) rfl rfl rfl rfl rfl ?_
      refine hp_go (t := 124) rfl rfl ?_
      exact ih (k + 1) _ M5 (by omega) (hp_i1 hk (by omega)) hM5 kk
theorem sk_161 (ha : a.1 = rx_cells) (h1 : x3.toInt = (D : Int)) (hD : D < 8) (h4 : x4.toInt = (J : Int)) (h5 : x5.toInt = (n : Int)) (hI : J + n ≤ 80) : ∀ (m k : Nat) (xk : Int32) (M : rx_M), m + k = n → xk.toInt = (k : Int) → sk_I 287 M0 M → (∀ x M, x.toInt = x5.toInt → sk_I 287 M0 M → hp X d 242 196 [some (.ref 244), some (.int x1), some (.int x2), some (.int x3), some (.int x4), some (.int x5), some (.int x)] [] a M P) → hp X d 242 161 [some (.ref 244), some (.int x1), some (.int x2), some (.int x3), some (.int x4), some (.int x5), some (.int xk)] [] a M P := by
  intro m
  induction m with
  | zero =>
    intro k xk M hb hk hM kk
    have z80 : (80 : Int32).toInt = 80 := rfl
    refine hp_il (pc' := 163) (j := 6) (Or.inl ⟨rfl, rfl⟩) rfl ?_
    refine hp_il (pc' := 165) (j := 5) (Or.inl ⟨rfl, rfl⟩) rfl ?_
    refine hp_ige (t := 196) (pc' := 168) rfl rfl rfl (fun c1 => ?_) (fun c1 => ?_)
    · exact kk _ M (by omega) hM
    · exfalso
      omega
  | succ m ih =>
    intro k xk M hb hk hM kk
    have z80 : (80 : Int32).toInt = 80 := rfl
    refine hp_il (pc' := 163) (j := 6) (Or.inl ⟨rfl, rfl⟩) rfl ?_
    refine hp_il (pc' := 165) (j := 5) (Or.inl ⟨rfl, rfl⟩) rfl ?_
    refine hp_ige (t := 196) (pc' := 168) rfl rfl rfl (fun c1 => ?_) (fun c1 => ?_)
    · exfalso
      omega
    · refine hp_al (pc' := 169) (j := 0) (Or.inr ⟨0, rfl, rfl, rfl⟩) rfl ?_
      refine hp_gr (pc' := 172) ha hM.1.1 rfl rfl rfl rfl ?_
      refine hp_bi (pc' := 174) (x := 80) rfl rfl rfl ?_
      refine hp_il (pc' := 175) (j := 3) (Or.inr ⟨3, rfl, rfl, rfl⟩) rfl ?_
      refine hp_mul (pc' := 176) rfl rfl (fun z2 hz2 => ?_)
      have xz2 : z2.toInt = (((80 * D) : Nat) : Int) := hp_m80 h1 (by omega) hz2
      refine hp_il (pc' := 178) (j := 4) (Or.inl ⟨rfl, rfl⟩) rfl ?_
      refine hp_add (pc' := 179) rfl rfl (fun z3 hz3 => ?_)
      have xz3 : z3.toInt = (((80 * D + J) : Nat) : Int) := hp_aa xz2 h4 (by omega) hz3
      refine hp_il (pc' := 181) (j := 6) (Or.inl ⟨rfl, rfl⟩) rfl ?_
      refine hp_add (pc' := 182) rfl rfl (fun z4 hz4 => ?_)
      have xz4 : z4.toInt = (((80 * D + J + k) : Nat) : Int) := hp_aa xz3 hk (by omega) hz4
      refine hp_al (pc' := 183) (j := 0) (Or.inr ⟨0, rfl, rfl, rfl⟩) rfl ?_
      refine hp_gr (pc' := 186) ha hM.1.2 rfl rfl rfl rfl ?_
      refine hp_il (pc' := 188) (j := 6) (Or.inl ⟨rfl, rfl⟩) rfl ?_
      refine hp_ld (pc' := 189) (j := k) ha hk (by omega) rfl rfl rfl ?_
      refine hp_st (pc' := 190) (j := (80 * D + J + k)) ha xz4 (by omega) rfl rfl rfl (fun M5 eM5 gM5 => ?_)
      have hM5 := sk_w hM rfl eM5 gM5
      refine hp_in (pc' := 193) (j := 6) (ls' := [some (.ref 244), some (.int x1), some (.int x2), some (.int x3), some (.int x4), some (.int x5), some (.int (xk + Int32.ofInt 1))]) rfl rfl rfl rfl rfl ?_
      refine hp_go (t := 161) rfl rfl ?_
      exact ih (k + 1) _ M5 (by omega) (hp_i1 hk (by omega)) hM5 kk
end SK
theorem sk_G {f g : Nat → Nat → Int32} {c : Nat} (hc : c = 287 ∨ c = 289) (hG : ax_GG f) (h : ∀ q j, q ≠ c → g q j = f q j) : ax_GG g :=
  ax_G_of hG (h _ _ (by omega)) (h _ _ (by omega)) (fun e he => ⟨h _ _ (by omega), h _ _ (by omega), h _ _ (by omega), h _ _ (by omega), fun h150 i => h _ _ (by omega)⟩) (fun e he => ⟨h _ _ (by omega), h _ _ (by omega), h _ _ (by omega), h _ _ (by omega), h _ _ (by omega), fun _ i _ => h _ _ (by omega)⟩) (fun i => by
    rw [h 213 i (by omega)]
    exact hG.2.2.1 i) (fun i => by
    rw [h 283 i (by omega), h 284 i (by omega)]
    exact hG.2.2.2.1 i)
section SKS
variable {X : Nat × (Nat → Int32)} {P : Option Value → rx_M → Prop} {W : ax_W} {sp : Nat → Nat → Int × Int} {rf : Nat → Nat → Option Nat} {ih : ax_S} {v : ax_V} {E : ax_E} {K : ax_K} {M : rx_M} {a : rx_K} {d i pc : Nat} {fr : ax_F} {ls : List (Option Value)} {st : List Value}
/-- what is known stays, but of the array -/
theorem sk_kn {c : Nat} (hc : c = 287 ∨ c = 289) {M M1 : rx_M} (h : ax_kn v K M) (e : M1.2 = M.2) (k : ∀ q j, q ≠ c → M1.1 q j = M.1 q j) : ax_kn v (ax_dropR (c : Int) (c : Int) K) M1 := by
  intro z hz
  obtain ⟨h1, h2⟩ := List.mem_filter.mp hz
  rw [Bool.and_eq_true, Bool.or_eq_true, decide_eq_true_eq, decide_eq_true_eq] at h2
  have hn : z.1 ≠ c := by omega
  obtain ⟨q1, q2⟩ := h z h1
  refine ⟨q1, ?_⟩
  rcases q2 with q2 | q2 | ⟨n, q2, q3, q4⟩
  · refine Or.inl ⟨q2.1, ?_⟩
    rw [k _ _ hn]
    exact q2.2
  · refine Or.inr (Or.inl ⟨q2.1, ?_⟩)
    rw [e]
    exact q2.2
  · refine Or.inr (Or.inr ⟨n, q2, q3, fun j hj => ?_⟩)
    have := q4 j hj
    rw [k _ _ (by omega)]
    exact this
theorem sk_St {c : Nat} (hc : c = 287 ∨ c = 289) (hsa : ∀ q u n, rx_lay q = some (.inr (u, n)) → ∀ j, sp q j = sp q 0) (hl : rx_lay c = some (.inr (0, 640)) ∨ rx_lay c = some (.inr (0, 80))) (hsp : sp c 0 = sx_full) (hw : ax_wrg W.1 (c : Int) (c : Int) = true) {M1 : rx_M} (S : ax_St W sp rf v E K M a fr) (e : M1.2 = M.2) (k : ∀ q j, q ≠ c → M1.1 q j = M.1 q j) : ax_St W sp rf v E (ax_dropR (c : Int) (c : Int) K) M1 a fr := by
  obtain ⟨s1, s2, s3, s4, s5, s6, s7⟩ := S
  refine ⟨s1, s2, ax_dropR_kw s3, ⟨fun q j => ?_, fun q j z hz => ?_, fun q j hq => ⟨?_, ?_⟩, sk_G hc s4.2.2.2 k⟩, sk_kn hc s5 e k, s6, s7⟩
  · by_cases hq : q = c
    · subst hq
      have e2 : sp q j = sx_full := by
        rcases hl with hl | hl
        · rw [hsa q _ _ hl j]
          exact hsp
        · rw [hsa q _ _ hl j]
          exact hsp
      rw [e2]
      exact ax_full_ok _
    · rw [k q j hq]
      exact s4.1 q j
  · rw [e]
    exact s4.2.1 q j z hz
  · have hn : q ≠ c := fun z => by
      subst z
      exact hq (ax_wrg_ok hw (Int.le_refl _) (Int.le_refl _) j)
    rw [k q j hn]
    exact (s4.2.2.1 q j hq).1
  · rw [e]
    exact (s4.2.2.1 q j hq).2
/-- x + y is no more than 80: a difference tells it -/
noncomputable def sk_le (E : ax_E) (x y : Value) : Bool := E.2.2.2.1.any (fun d => ax_leq E x (.retAddr d.1) 0 && (ax_eqv d.2.2 y && (sx_isI d.2.1 && decide ((ax_ivh E d.2.1).2 ≤ 80))))
theorem sk_le_ok (hE : ax_ok v E) {x y : Value} (h : sk_le E x y = true) : (ax_vi v x).toInt + (ax_vi v y).toInt ≤ 80 := by
  unfold sk_le at h
  obtain ⟨z, hz, h⟩ := List.any_eq_true.mp h
  rw [Bool.and_eq_true, Bool.and_eq_true, Bool.and_eq_true] at h
  obtain ⟨h1, h2, h3, h4⟩ := h
  obtain ⟨-, -, h5⟩ := ax_leq_ok hE h1
  have h6 := hE.2.2.1 z hz
  have h7 := (ax_eqv_ok h2).1
  have h8 := ax_ivh_ok hE h3
  have h9 := of_decide_eq_true h4
  rw [h7] at h6
  have h5 : (ax_vi v x).toInt + 0 ≤ (v z.1).1.toInt := h5
  omega
/-- 0 to 7; 0 and more -/
noncomputable def sk_8 (E : ax_E) (x : Value) : Bool := sx_isI x && (decide (0 ≤ (ax_iv E x).1) && decide ((ax_iv E x).2 ≤ 7))
noncomputable def sk_0 (E : ax_E) (x : Value) : Bool := sx_isI x && decide (0 ≤ (ax_iv E x).1)
theorem sk_8_ok (hE : ax_ok v E) {x : Value} (h : sk_8 E x = true) : ax_v v x = .int (ax_vi v x) ∧ ∃ D : Nat, (ax_vi v x).toInt = (D : Int) ∧ D < 8 := by
  unfold sk_8 at h
  rw [Bool.and_eq_true, Bool.and_eq_true, decide_eq_true_eq, decide_eq_true_eq] at h
  have i1 := ax_iv_ok hE h.1
  exact ⟨ax_vI h.1, (ax_vi v x).toInt.toNat, by omega, by omega⟩
theorem sk_0_ok (hE : ax_ok v E) {x : Value} (h : sk_0 E x = true) : ax_v v x = .int (ax_vi v x) ∧ ∃ D : Nat, (ax_vi v x).toInt = (D : Int) := by
  unfold sk_0 at h
  rw [Bool.and_eq_true, decide_eq_true_eq] at h
  have i1 := ax_iv_ok hE h.1
  exact ⟨ax_vI h.1, (ax_vi v x).toInt.toNat, by omega⟩
noncomputable def sk_t (wd : ax_D) (sp : Nat → Nat → Int × Int) (rf : Nat → Nat → Option Nat) (c : Nat) : Bool := decide (sp c 0 = sx_full) && (ax_wrg wd (c : Int) (c : Int) && (decide (rf 244 54 = some 287) && decide (rf 244 56 = some 289)))
noncomputable def ax_skS (wd : ax_D) (sp : Nat → Nat → Int × Int) (rf : Nat → Nat → Option Nat) (ih : ax_S) (E : ax_E) (K : ax_K) (d : Nat) (fr : ax_F) (i pc : Nat) (ls : List (Option Value)) (st : List Value) : Option Bool := match st with
  | [] => (match ls with
    | [some (.ref q), some x1, some x2, some x3, some (.int k)] => cond (Nat.beq i 238 && (Nat.beq pc 57 && (Nat.beq q 244 && (decide (k = 0) && (sk_8 E x1 && (sx_isI x2 && (sx_isI x3 && sk_t wd sp rf 287))))))) (some (ih E (ax_dropR 287 287 K) d fr 238 83 [some (.ref 244), some x1, some x2, some x3, some (.int 80)] [])) none
    | [some (.ref q), some x1, some x2, some x3, some x4, some x5, some (.int k)] => cond (Nat.beq i 242 && (Nat.beq q 244 && (decide (k = 0) && (sx_isI x1 && (sx_isI x2 && (sx_isI x3 && (sx_isI x4 && sk_0 E x5))))))) (cond (Nat.beq pc 124 && (sk_8 E x1 && (sk_0 E x2 && (sk_le E x2 x5 && sk_t wd sp rf 289)))) (some (ih E (ax_dropR 289 289 K) d fr 242 158 [some (.ref 244), some x1, some x2, some x3, some x4, some x5, some x5] [])) (cond (Nat.beq pc 161 && (sk_8 E x3 && (sk_0 E x4 && (sk_le E x4 x5 && sk_t wd sp rf 287)))) (some (ih E (ax_dropR 287 287 K) d fr 242 196 [some (.ref 244), some x1, some x2, some x3, some x4, some x5, some x5] [])) none)) none
    | _ => none)
  | _ => none
theorem sk_fin {c : Nat} (hc : c = 287 ∨ c = 289) (hl : rx_lay c = some (.inr (0, 640)) ∨ rx_lay c = some (.inr (0, 80))) (hsa : ∀ q u n, rx_lay q = some (.inr (u, n)) → ∀ j, sp q j = sp q 0) (ht : sk_t W.1 sp rf c = true) (S : ax_St W sp rf v E K M a fr) : sk_I c M M ∧ ∀ M1, sk_I c M M1 → ax_St W sp rf v E (ax_dropR (c : Int) (c : Int) K) M1 a fr := by
  unfold sk_t at ht
  rw [Bool.and_eq_true, Bool.and_eq_true, Bool.and_eq_true, decide_eq_true_eq, decide_eq_true_eq, decide_eq_true_eq] at ht
  obtain ⟨t1, t2, t3, t4⟩ := ht
  exact ⟨⟨⟨S.2.2.2.1.2.1 _ _ _ t3, S.2.2.2.1.2.1 _ _ _ t4⟩, rfl, fun _ _ _ => rfl⟩, fun M1 h => sk_St hc hsa hl t1 t2 S h.2.1 h.2.2⟩
theorem ax_skS_ok (hsa : ∀ q u n, rx_lay q = some (.inr (u, n)) → ∀ j, sp q j = sp q 0) (H : ax_H X P W sp rf ih) (h : ax_skS W.1 sp rf ih E K d fr i pc ls st = some true) (S : ax_St W sp rf v E K M a fr) : ax_C X P v d fr i (pc, ax_ls v ls, st.map (ax_v v), a, M) := by
  have hE := S.2.1
  have ha : a.1 = rx_cells := S.2.2.2.2.2.1.1
  have l287 : rx_lay 287 = some (.inr (0, 640)) := rfl
  have l289 : rx_lay 289 = some (.inr (0, 80)) := rfl
  unfold ax_skS at h
  split at h
  · split at h
    · rename_i q x1 x2 x3 k
      replace h := sx_cT (by intro q; cases q) h
      obtain ⟨hc, h⟩ := h
      have h := Option.some.inj h
      simp only [Bool.and_eq_true, decide_eq_true_eq] at hc
      obtain ⟨c1, c2, c3, c4, c5, c6, c7, c8⟩ := hc
      have c1 := Nat.eq_of_beq_eq_true c1
      have c2 := Nat.eq_of_beq_eq_true c2
      have c3 := Nat.eq_of_beq_eq_true c3
      subst c1 c2 c3 c4
      obtain ⟨e1, D, hD, hD8⟩ := sk_8_ok hE c5
      have e2 := ax_vI (v := v) c6
      have e3 := ax_vI (v := v) c7
      obtain ⟨m0, m1⟩ := sk_fin (Or.inl rfl) (Or.inl l287) hsa c8 S
      show ax_C X P v d fr 238 (57, [some (.ref 244), some (ax_v v x1), some (ax_v v x2), some (ax_v v x3), some (.int 0)], [], a, M)
      rw [e1, e2, e3]
      refine sk_57 (X := X) (d := d) (P := ax_KT X P v fr d) ha hD hD8 80 0 _ M (by omega) rfl m0 (fun x M1 hx hM1 => ?_)
      have k := H _ _ _ _ _ _ _ _ h v M1 a (m1 M1 hM1)
      have ex : x = 80 := Int32.toInt_inj.mp hx
      subst ex
      have k : ax_C X P v d fr 238 (83, [some (.ref 244), some (ax_v v x1), some (ax_v v x2), some (ax_v v x3), some (.int 80)], [], a, M1) := k
      rw [e1, e2, e3] at k
      exact k
    · rename_i q x1 x2 x3 x4 x5 k
      replace h := sx_cT (by intro q; cases q) h
      obtain ⟨hc, h⟩ := h
      simp only [Bool.and_eq_true, decide_eq_true_eq] at hc
      obtain ⟨c1, c3, c4, c5, c6, c7, c8, c9⟩ := hc
      have c1 := Nat.eq_of_beq_eq_true c1
      have c3 := Nat.eq_of_beq_eq_true c3
      subst c1 c3 c4
      have e1 := ax_vI (v := v) c5
      have e2 := ax_vI (v := v) c6
      have e3 := ax_vI (v := v) c7
      have e4 := ax_vI (v := v) c8
      obtain ⟨e5, n, hn⟩ := sk_0_ok hE c9
      cases hb : (Nat.beq pc 124 && (sk_8 E x1 && (sk_0 E x2 && (sk_le E x2 x5 && sk_t W.1 sp rf 289)))) with
      | true =>
        rw [hb, Bool.cond_true] at h
        have h := Option.some.inj h
        simp only [Bool.and_eq_true] at hb
        obtain ⟨b1, b2, b3, b4, b5⟩ := hb
        have b1 := Nat.eq_of_beq_eq_true b1
        subst b1
        obtain ⟨-, D, hD, hD8⟩ := sk_8_ok hE b2
        obtain ⟨-, I, hI⟩ := sk_0_ok hE b3
        have hle := sk_le_ok hE b4
        obtain ⟨m0, m1⟩ := sk_fin (Or.inr rfl) (Or.inr l289) hsa b5 S
        show ax_C X P v d fr 242 (124, [some (.ref 244), some (ax_v v x1), some (ax_v v x2), some (ax_v v x3), some (ax_v v x4), some (ax_v v x5), some (.int 0)], [], a, M)
        rw [e1, e2, e3, e4, e5]
        refine sk_124 (X := X) (d := d) (P := ax_KT X P v fr d) ha hD hD8 hI hn (by omega) n 0 _ M (by omega) rfl m0 (fun x M1 hx hM1 => ?_)
        have k := H _ _ _ _ _ _ _ _ h v M1 a (m1 M1 hM1)
        have ex : x = ax_vi v x5 := Int32.toInt_inj.mp hx
        subst ex
        have k : ax_C X P v d fr 242 (158, [some (.ref 244), some (ax_v v x1), some (ax_v v x2), some (ax_v v x3), some (ax_v v x4), some (ax_v v x5), some (ax_v v x5)], [], a, M1) := k
        rw [e1, e2, e3, e4, e5] at k
        exact k
      | false =>
        rw [hb, Bool.cond_false] at h
        replace h := sx_cT (by intro q; cases q) h
        obtain ⟨hb, h⟩ := h
        have h := Option.some.inj h
        simp only [Bool.and_eq_true] at hb
        obtain ⟨b1, b2, b3, b4, b5⟩ := hb
        have b1 := Nat.eq_of_beq_eq_true b1
        subst b1
        obtain ⟨-, D, hD, hD8⟩ := sk_8_ok hE b2
        obtain ⟨-, J, hJ⟩ := sk_0_ok hE b3
        have hle := sk_le_ok hE b4
        obtain ⟨m0, m1⟩ := sk_fin (Or.inl rfl) (Or.inl l287) hsa b5 S
        show ax_C X P v d fr 242 (161, [some (.ref 244), some (ax_v v x1), some (ax_v v x2), some (ax_v v x3), some (ax_v v x4), some (ax_v v x5), some (.int 0)], [], a, M)
        rw [e1, e2, e3, e4, e5]
        refine sk_161 (X := X) (d := d) (P := ax_KT X P v fr d) ha hD hD8 hJ hn (by omega) n 0 _ M (by omega) rfl m0 (fun x M1 hx hM1 => ?_)
        have k := H _ _ _ _ _ _ _ _ h v M1 a (m1 M1 hM1)
        have ex : x = ax_vi v x5 := Int32.toInt_inj.mp hx
        subst ex
        have k : ax_C X P v d fr 242 (196, [some (.ref 244), some (ax_v v x1), some (ax_v v x2), some (ax_v v x3), some (ax_v v x4), some (ax_v v x5), some (ax_v v x5)], [], a, M1) := k
        rw [e1, e2, e3, e4, e5] at k
        exact k
    · cases h
  · cases h
end SKS
