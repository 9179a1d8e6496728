/-! what can be reached: rounds over the places, as bits of a number below 64 -/
noncomputable def rc_st (R : Nat → Bool) (s k : Nat) : Nat := if s.testBit (k / 6) && R k then s ||| (1 <<< (k % 6)) else s
noncomputable def rc_tm (R : Nat → Bool) (s : Nat) : Nat → Nat
  | 0 => s
  | k + 1 => rc_st R (rc_tm R s k) k
noncomputable def rc_nx (R : Nat → Bool) (p : Nat) : Nat → Nat
  | 0 => 0
  | q + 1 => if R (6 * p + q) then rc_nx R p q ||| (1 <<< q) else rc_nx R p q
noncomputable def rc_rd (R : Nat → Bool) (s : Nat) : Nat → Nat
  | 0 => s
  | p + 1 => if (rc_rd R s p).testBit p then rc_rd R s p ||| rc_nx R p 6 else rc_rd R s p
noncomputable def rc_it (f : Nat → Nat) : Nat → Nat → Nat
  | 0, s => s
  | n + 1, s => f (rc_it f n s)
theorem rc_or {a b : Nat} (ha : a < 64) (hb : b < 64) : a ||| b < 64 := Nat.or_lt_two_pow (n := 6) ha hb
theorem rc_sh {q : Nat} (h : q < 6) : 1 <<< q < 64 := by
  match q, h with
  | 0, _ => decide
  | 1, _ => decide
  | 2, _ => decide
  | 3, _ => decide
  | 4, _ => decide
  | 5, _ => decide
theorem rc_nx64 {R : Nat → Bool} {p : Nat} : ∀ q, q ≤ 6 → rc_nx R p q < 64
  | 0, _ => by
    show (0 : Nat) < 64
    decide
  | q + 1, h => by
    show (if R (6 * p + q) then rc_nx R p q ||| (1 <<< q) else rc_nx R p q) < 64
    split
    · exact rc_or (rc_nx64 q (by omega)) (rc_sh (by omega))
    · exact rc_nx64 q (by omega)
theorem rc_rd64 {R : Nat → Bool} {s : Nat} (hs : s < 64) : ∀ p, rc_rd R s p < 64
  | 0 => hs
  | p + 1 => by
    show (if (rc_rd R s p).testBit p then rc_rd R s p ||| rc_nx R p 6 else rc_rd R s p) < 64
    split
    · exact rc_or (rc_rd64 hs p) (rc_nx64 6 (by omega))
    · exact rc_rd64 hs p
/-- a turn over all pairs is a round over the places -/
theorem rc_tq {R : Nat → Bool} {s p : Nat} (h : rc_tm R s (6 * p) = rc_rd R s p) : ∀ q, q ≤ 6 → rc_tm R s (6 * p + q) = if (rc_rd R s p).testBit p then rc_rd R s p ||| rc_nx R p q else rc_rd R s p
  | 0, _ => by
    show rc_tm R s (6 * p) = if (rc_rd R s p).testBit p then rc_rd R s p ||| 0 else rc_rd R s p
    rw [h, Nat.or_zero]
    split <;> rfl
  | q + 1, hq => by
    have ih := rc_tq h q (by omega)
    show rc_st R (rc_tm R s (6 * p + q)) (6 * p + q) = _
    have e1 : (6 * p + q) / 6 = p := by omega
    have e2 : (6 * p + q) % 6 = q := by omega
    unfold rc_st
    rw [e1, e2, ih]
    show _ = if (rc_rd R s p).testBit p then rc_rd R s p ||| (if R (6 * p + q) then rc_nx R p q ||| (1 <<< q) else rc_nx R p q) else rc_rd R s p
    cases hb : (rc_rd R s p).testBit p with
    | false => simp [hb]
    | true =>
      have hb2 : (rc_rd R s p ||| rc_nx R p q).testBit p = true := by
        rw [Nat.testBit_or, hb]
        rfl
      cases hr : R (6 * p + q) with
      | false => simp [hb2]
      | true => simp [hb2, Nat.or_assoc]
theorem rc_tp {R : Nat → Bool} {s : Nat} : ∀ p, rc_tm R s (6 * p) = rc_rd R s p
  | 0 => rfl
  | p + 1 => by
    have h := rc_tq (R := R) (s := s) (rc_tp (R := R) (s := s) p) 6 (Nat.le_refl _)
    have e : 6 * (p + 1) = 6 * p + 6 := by omega
    rw [e, h]
    rfl
/-- how many bits -/
noncomputable def rc_c (m : Nat) : Nat := (m.testBit 0).toNat + (m.testBit 1).toNat + (m.testBit 2).toNat + (m.testBit 3).toNat + (m.testBit 4).toNat + (m.testBit 5).toNat
set_option maxRecDepth 100000 in
theorem rc_cl : ∀ m : Fin 64, ∀ n : Fin 64, m.val ||| n.val = n.val → m.val ≠ n.val → rc_c m.val < rc_c n.val := by decide +kernel
set_option maxRecDepth 100000 in
theorem rc_c6 : ∀ m : Fin 64, 6 ≤ rc_c m.val → m.val = 63 := by decide +kernel
set_option maxRecDepth 100000 in
theorem rc_63 : ∀ m : Fin 64, 63 ||| m.val = m.val → m.val = 63 := by decide +kernel
theorem rc_sub {R : Nat → Bool} {s : Nat} : ∀ p, s ||| rc_rd R s p = rc_rd R s p
  | 0 => Nat.or_self s
  | p + 1 => by
    have ih := rc_sub (R := R) (s := s) p
    show s ||| (if (rc_rd R s p).testBit p then rc_rd R s p ||| rc_nx R p 6 else rc_rd R s p) = (if (rc_rd R s p).testBit p then rc_rd R s p ||| rc_nx R p 6 else rc_rd R s p)
    split
    · rw [← Nat.or_assoc, ih]
    · exact ih
theorem rc_it64 {R : Nat → Bool} {s : Nat} (hs : s < 64) : ∀ n, rc_it (fun s => rc_rd R s 6) n s < 64
  | 0 => hs
  | n + 1 => rc_rd64 (rc_it64 hs n) 6
theorem rc_fix {f : Nat → Nat} {s n : Nat} (h : f (rc_it f n s) = rc_it f n s) : ∀ k, rc_it f (n + k) s = rc_it f n s
  | 0 => rfl
  | k + 1 => by
    show f (rc_it f (n + k) s) = _
    rw [rc_fix h k]
    exact h
/-- five rounds are enough -/
theorem rc_five {R : Nat → Bool} {s : Nat} (hs : s < 64) (h1 : 1 ≤ rc_c s) : rc_it (fun s => rc_rd R s 6) 6 s = rc_it (fun s => rc_rd R s 6) 5 s := by
  have grow : ∀ n, n ≤ 5 → (∀ k, k < n → (fun s => rc_rd R s 6) (rc_it (fun s => rc_rd R s 6) k s) ≠ rc_it (fun s => rc_rd R s 6) k s) → n + 1 ≤ rc_c (rc_it (fun s => rc_rd R s 6) n s) := by
    intro n
    induction n with
    | zero => intro _ _; exact h1
    | succ n ih =>
      intro hn hk
      have i1 := ih (by omega) (fun k q => hk k (by omega))
      have i2 := hk n (Nat.lt_succ_self _)
      have a1 := rc_it64 (R := R) hs n
      have a2 := rc_it64 (R := R) hs (n + 1)
      have i3 := rc_cl ⟨_, a1⟩ ⟨_, a2⟩ (rc_sub 6) (fun z => i2 z.symm)
      have i3 : rc_c (rc_it (fun s => rc_rd R s 6) n s) < rc_c (rc_it (fun s => rc_rd R s 6) (n + 1) s) := i3
      omega
  by_cases h : ∃ k, k < 5 ∧ (fun s => rc_rd R s 6) (rc_it (fun s => rc_rd R s 6) k s) = rc_it (fun s => rc_rd R s 6) k s
  · obtain ⟨k, hk, e⟩ := h
    have f1 := rc_fix (f := fun s => rc_rd R s 6) e (5 - k)
    have f2 := rc_fix (f := fun s => rc_rd R s 6) e (6 - k)
    rw [show k + (5 - k) = 5 by omega] at f1
    rw [show k + (6 - k) = 6 by omega] at f2
    rw [f1, f2]
  · have g := grow 5 (Nat.le_refl _) (fun k hk e => h ⟨k, hk, e⟩)
    have a1 := rc_it64 (R := R) hs 5
    have a2 := rc_it64 (R := R) hs 6
    have e5 : rc_it (fun s => rc_rd R s 6) 5 s = 63 := rc_c6 ⟨_, a1⟩ g
    have e6 : rc_it (fun s => rc_rd R s 6) 6 s = rc_rd R (rc_it (fun s => rc_rd R s 6) 5 s) 6 := rfl
    have e7 := rc_sub (R := R) (s := rc_it (fun s => rc_rd R s 6) 5 s) 6
    rw [← e6, e5] at e7
    rw [e5]
    exact rc_63 ⟨_, a2⟩ e7
/-! the same, of the machine's ints -/
set_option maxRecDepth 100000 in
theorem rc_bt : ∀ m : Fin 64, ∀ p : Fin 6, (((Int32.ofNat m.val >>> (Int32.ofNat p.val &&& 31)) &&& 1) = 1) = (m.val.testBit p.val = true) := by
  intro m p
  have h : ∀ m : Fin 64, ∀ p : Fin 6, (decide (((Int32.ofNat m.val >>> (Int32.ofNat p.val &&& 31)) &&& 1) = 1)) = m.val.testBit p.val := by decide +kernel
  have k := h m p
  rw [← k]
  exact propext ⟨fun z => decide_eq_true z, fun z => of_decide_eq_true z⟩
set_option maxRecDepth 100000 in
theorem rc_bv : ∀ m : Fin 64, ∀ p : Fin 6, (Int32.ofNat m.val >>> (Int32.ofNat p.val &&& 31)) &&& 1 = if m.val.testBit p.val then 1 else 0 := by decide +kernel
set_option maxRecDepth 100000 in
theorem rc_io : ∀ m : Fin 64, ∀ n : Fin 64, Int32.ofNat m.val ||| Int32.ofNat n.val = Int32.ofNat (m.val ||| n.val) := by decide +kernel
set_option maxRecDepth 100000 in
theorem rc_is : ∀ p : Fin 6, (1 : Int32) <<< (Int32.ofNat p.val &&& 31) = Int32.ofNat (1 <<< p.val) := by decide +kernel
/-! runs by hand: bits, division -/
section HK3
variable {X : Nat × (Nat → Int32)} {d i pc pc' : Nat} {ls ls' : List (Option Value)} {st : List Value} {a : rx_K} {M : rx_M} {P : rx_O → Prop} {x y : Int32}
theorem hp_and (ht : rx_tb i pc = some .iand) (e : pc + 1 = pc') (k : ∀ z, z = x &&& y → hp X d i pc' ls (.int z :: st) a M P) : hp X d i pc ls (.int y :: .int x :: st) a M P := by
  subst e
  exact hp_s (hp_q ht) (k _ rfl)
theorem hp_or (ht : rx_tb i pc = some .ior) (e : pc + 1 = pc') (k : ∀ z, z = x ||| y → hp X d i pc' ls (.int z :: st) a M P) : hp X d i pc ls (.int y :: .int x :: st) a M P := by
  subst e
  exact hp_s (hp_q ht) (k _ rfl)
theorem hp_shl (ht : rx_tb i pc = some .ishl) (e : pc + 1 = pc') (k : ∀ z, z = x <<< (y &&& 31) → hp X d i pc' ls (.int z :: st) a M P) : hp X d i pc ls (.int y :: .int x :: st) a M P := by
  subst e
  exact hp_s (hp_q ht) (k _ rfl)
theorem hp_shr (ht : rx_tb i pc = some .ishr) (e : pc + 1 = pc') (k : ∀ z, z = x >>> (y &&& 31) → hp X d i pc' ls (.int z :: st) a M P) : hp X d i pc ls (.int y :: .int x :: st) a M P := by
  subst e
  exact hp_s (hp_q ht) (k _ rfl)
theorem hp_div (ht : rx_tb i pc = some .idiv) (e : pc + 1 = pc') (hy : y ≠ 0) (k : ∀ z, z = x / y → hp X d i pc' ls (.int z :: st) a M P) : hp X d i pc ls (.int y :: .int x :: st) a M P := by
  subst e
  exact hp_s ((hp_q ht).trans (if_neg hy)) (k _ rfl)
theorem hp_rm (ht : rx_tb i pc = some .irem) (e : pc + 1 = pc') (hy : y ≠ 0) (k : ∀ z, z = x - x / y * y → hp X d i pc' ls (.int z :: st) a M P) : hp X d i pc ls (.int y :: .int x :: st) a M P := by
  subst e
  exact hp_s ((hp_q ht).trans (if_neg hy)) (k _ rfl)
end HK3
theorem rr_lay {D : Nat} (h : D < 6) : rx_lay (8 + D) = some (.inr (0, 6)) := by
  match D, h with
  | 0, _ => rfl
  | 1, _ => rfl
  | 2, _ => rfl
  | 3, _ => rfl
  | 4, _ => rfl
  | 5, _ => rfl
theorem rr_rf {D : Nat} (h : D < 6) : ax_rf 7 D = some (8 + D) := by
  match D, h with
  | 0, _ => rfl
  | 1, _ => rfl
  | 2, _ => rfl
  | 3, _ => rfl
  | 4, _ => rfl
  | 5, _ => rfl
theorem rc_of {x : Int32} {k : Nat} (h : x.toInt = (k : Int)) (hk : k < 1000) : x = Int32.ofNat k := by
  apply Int32.toInt_inj.mp
  rw [h]
  exact (ax_ofInt (a := (k : Int)) (by omega) (by omega)).symm
set_option maxRecDepth 100000 in
theorem rc_dd : ∀ k : Fin 36, Int32.ofNat k.val / 6 = Int32.ofNat (k.val / 6) ∧ Int32.ofNat k.val - Int32.ofNat k.val / 6 * 6 = Int32.ofNat (k.val % 6) := by decide +kernel
theorem rc_d6 {x z : Int32} {k : Nat} (h : x.toInt = (k : Int)) (hk : k < 36) (hz : z = x / 6) : z = Int32.ofNat (k / 6) := by
  rw [hz, rc_of h (by omega)]
  exact (rc_dd ⟨k, hk⟩).1
theorem rc_m6 {x z : Int32} {k : Nat} (h : x.toInt = (k : Int)) (hk : k < 36) (hz : z = x - x / 6 * 6) : z = Int32.ofNat (k % 6) := by
  rw [hz, rc_of h (by omega)]
  exact (rc_dd ⟨k, hk⟩).2
noncomputable def rc_R (M : rx_M) (sea : Int32) (k : Nat) : Bool := decide ((M.1 248 k >>> (sea &&& 31)) &&& 1 = 1)
noncomputable def rc_sea (w : Int32) : Int32 := w / 13 - w / 13 / 4 * 4
noncomputable def rc_F (M : rx_M) (sea : Int32) : Nat → Nat := fun s => rc_rd (rc_R M sea) s 6
theorem rc_bs {m p : Nat} (hm : m < 64) (hp6 : p < 6) {x y z w : Int32} (hx : x = Int32.ofNat m) (hy : y = Int32.ofNat p) (hw : w = x >>> (y &&& 31)) (hz : z = w &&& 1) : z = if m.testBit p then 1 else 0 := by
  rw [hz, hw, hx, hy]
  exact rc_bv ⟨m, hm⟩ ⟨p, hp6⟩
theorem rc_1 {x : Int32} : x.toInt = (1 : Int32).toInt ↔ x = 1 := ⟨fun h => Int32.toInt_inj.mp h, fun h => by rw [h]⟩
section RC
variable {X : Nat × (Nat → Int32)} {d : Nat} {a : rx_K} {M : rx_M} {P : rx_O → Prop} {x1 x2 x3 x4 x5 : Int32}
theorem rc_tm64 {R : Nat → Bool} {s : Nat} (hs : s < 64) : ∀ k, k ≤ 36 → rc_tm R s k < 64
  | 0, _ => hs
  | k + 1, h => by
    show rc_st R (rc_tm R s k) k < 64
    unfold rc_st
    split
    · exact rc_or (rc_tm64 hs k (by omega)) (rc_sh (by omega))
    · exact rc_tm64 hs k (by omega)
theorem rf_17 (ha : a.1 = rx_cells) (hM : hp_R M ∧ True) {s : Nat} (hs : s < 64) : ∀ (m k : Nat) (x3 x5 : Int32), m + k = 36 → x5.toInt = (k : Int) → x3 = Int32.ofNat (rc_tm (rc_R M (rc_sea x2)) s k) → (∀ x3 x5, x3 = Int32.ofNat (rc_tm (rc_R M (rc_sea x2)) s 36) → hp X d 165 73 [some (.ref 244), some (.int x1), some (.int x2), some (.int x3), some (.int x4), some (.int x5)] [] a M P) → hp X d 165 17 [some (.ref 244), some (.int x1), some (.int x2), some (.int x3), some (.int x4), some (.int x5)] [] a M P := by
  intro m
  induction m with
  | zero =>
    intro k x3 x5 hb h5 h3 kk
    have z36 : (36 : Int32).toInt = 36 := rfl
    refine hp_il (pc' := 19) (j := 5) (Or.inl ⟨rfl, rfl⟩) rfl ?_
    refine hp_bi (pc' := 21) (x := 36) rfl rfl rfl ?_
    refine hp_ige (t := 73) (pc' := 24) rfl rfl rfl (fun c1 => ?_) (fun c1 => ?_)
    · have e : k = 36 := by omega
      rw [e] at h3
      exact kk _ _ h3
    · exfalso
      omega
  | succ m ih =>
    intro k x3 x5 hb h5 h3 kk
    have z36 : (36 : Int32).toInt = 36 := rfl
    have h64 : rc_tm (rc_R M (rc_sea x2)) s k < 64 := rc_tm64 hs k (by omega)
    refine hp_il (pc' := 19) (j := 5) (Or.inl ⟨rfl, rfl⟩) rfl ?_
    refine hp_bi (pc' := 21) (x := 36) rfl rfl rfl ?_
    refine hp_ige (t := 73) (pc' := 24) rfl rfl rfl (fun c1 => ?_) (fun c1 => ?_)
    · exfalso
      omega
    · refine hp_il (pc' := 25) (j := 3) (Or.inr ⟨3, rfl, rfl, rfl⟩) rfl ?_
      refine hp_il (pc' := 27) (j := 5) (Or.inl ⟨rfl, rfl⟩) rfl ?_
      refine hp_bi (pc' := 29) (x := 6) rfl rfl rfl ?_
      refine hp_div (pc' := 30) rfl rfl (by decide) (fun z2 hz2 => ?_)
      have dz2 := rc_d6 h5 (by omega) hz2
      refine hp_shr (pc' := 31) rfl rfl (fun z3 hz3 => ?_)
      refine hp_ic (pc' := 32) (x := 1) rfl rfl rfl ?_
      refine hp_and (pc' := 33) rfl rfl (fun z4 hz4 => ?_)
      have b1 := rc_bs h64 (by omega) h3 dz2 hz3 hz4
      refine hp_ic (pc' := 34) (x := 1) rfl rfl rfl ?_
      refine hp_ine (t := 67) (pc' := 37) rfl rfl rfl (fun c5 => ?_) (fun c5 => ?_)
      · refine hp_in (pc' := 70) (j := 5) (ls' := [some (.ref 244), some (.int x1), some (.int x2), some (.int x3), some (.int x4), some (.int (x5 + Int32.ofInt 1))]) rfl rfl rfl rfl rfl ?_
        refine hp_go (t := 17) rfl rfl ?_
        exact ih (k + 1) _ _ (by omega) (hp_i1 h5 (by omega)) (by
          have e : rc_tm (rc_R M (rc_sea x2)) s (k + 1) = rc_tm (rc_R M (rc_sea x2)) s k := by
            show rc_st _ _ k = _
            unfold rc_st
            refine if_neg (fun q => ?_)
            rw [Bool.and_eq_true] at q
            have q1 := q.1
            have q2 : z4 = 1 := by rw [b1, if_pos q1]
            exact absurd (rc_1.mpr q2) (by assumption)
          rw [e]
          exact h3) kk
      · refine hp_al (pc' := 38) (j := 0) (Or.inr ⟨0, rfl, rfl, rfl⟩) rfl ?_
        refine hp_gr (pc' := 41) ha (hM.1 244 6 248 rfl) rfl rfl rfl rfl ?_
        refine hp_il (pc' := 43) (j := 5) (Or.inl ⟨rfl, rfl⟩) rfl ?_
        refine hp_ld (pc' := 44) (j := k) ha h5 (by omega) rfl rfl rfl ?_
        refine hp_il (pc' := 45) (j := 2) (Or.inr ⟨2, rfl, rfl, rfl⟩) rfl ?_
        refine hp_bi (pc' := 47) (x := 13) rfl rfl rfl ?_
        refine hp_div (pc' := 48) rfl rfl (by decide) (fun z6 hz6 => ?_)
        refine hp_ic (pc' := 49) (x := 4) rfl rfl rfl ?_
        refine hp_rm (pc' := 50) rfl rfl (by decide) (fun z7 hz7 => ?_)
        have es : z7 = rc_sea x2 := by rw [hz7, hz6]; rfl
        refine hp_shr (pc' := 51) rfl rfl (fun z8 hz8 => ?_)
        refine hp_ic (pc' := 52) (x := 1) rfl rfl rfl ?_
        refine hp_and (pc' := 53) rfl rfl (fun z9 hz9 => ?_)
        have b2 : (rc_R M (rc_sea x2) k = true) = (z9 = 1) := by
          unfold rc_R
          rw [hz9, hz8, es]
          exact propext ⟨fun q => of_decide_eq_true q, fun q => decide_eq_true q⟩
        refine hp_ic (pc' := 54) (x := 1) rfl rfl rfl ?_
        refine hp_ine (t := 67) (pc' := 57) rfl rfl rfl (fun c10 => ?_) (fun c10 => ?_)
        · refine hp_in (pc' := 70) (j := 5) (ls' := [some (.ref 244), some (.int x1), some (.int x2), some (.int x3), some (.int x4), some (.int (x5 + Int32.ofInt 1))]) rfl rfl rfl rfl rfl ?_
          refine hp_go (t := 17) rfl rfl ?_
          exact ih (k + 1) _ _ (by omega) (hp_i1 h5 (by omega)) (by
            have e : rc_tm (rc_R M (rc_sea x2)) s (k + 1) = rc_tm (rc_R M (rc_sea x2)) s k := by
              show rc_st _ _ k = _
              unfold rc_st
              refine if_neg (fun q => ?_)
              rw [Bool.and_eq_true] at q
              have q1 := q.2
              rw [b2] at q1
              exact absurd (rc_1.mpr q1) (by assumption)
            rw [e]
            exact h3) kk
        · refine hp_il (pc' := 58) (j := 3) (Or.inr ⟨3, rfl, rfl, rfl⟩) rfl ?_
          refine hp_ic (pc' := 59) (x := 1) rfl rfl rfl ?_
          refine hp_il (pc' := 61) (j := 5) (Or.inl ⟨rfl, rfl⟩) rfl ?_
          refine hp_bi (pc' := 63) (x := 6) rfl rfl rfl ?_
          refine hp_rm (pc' := 64) rfl rfl (by decide) (fun z11 hz11 => ?_)
          have dz11 := rc_m6 h5 (by omega) hz11
          refine hp_shl (pc' := 65) rfl rfl (fun z12 hz12 => ?_)
          refine hp_or (pc' := 66) rfl rfl (fun z13 hz13 => ?_)
          refine hp_is (pc' := 67) (j := 3) (ls' := [some (.ref 244), some (.int x1), some (.int x2), some (.int z13), some (.int x4), some (.int x5)]) (Or.inr ⟨3, rfl, rfl, rfl⟩) (by simp) rfl ?_
          refine hp_in (pc' := 70) (j := 5) (ls' := [some (.ref 244), some (.int x1), some (.int x2), some (.int z13), some (.int x4), some (.int (x5 + Int32.ofInt 1))]) rfl rfl rfl rfl rfl ?_
          refine hp_go (t := 17) rfl rfl ?_
          exact ih (k + 1) _ _ (by omega) (hp_i1 h5 (by omega)) (by
            have t1 : (rc_tm (rc_R M (rc_sea x2)) s k).testBit (k / 6) = true := by
              cases hb : (rc_tm (rc_R M (rc_sea x2)) s k).testBit (k / 6) with
              | true => rfl
              | false =>
                exfalso
                have q1 : z4 = 1 := rc_1.mp (by assumption)
                rw [b1, hb] at q1
                exact absurd q1 (by decide)
            have t2 : rc_R M (rc_sea x2) k = true := by
              rw [b2]
              exact rc_1.mp (by assumption)
            have e : rc_tm (rc_R M (rc_sea x2)) s (k + 1) = rc_tm (rc_R M (rc_sea x2)) s k ||| (1 <<< (k % 6)) := by
              show rc_st _ _ k = _
              unfold rc_st
              rw [t1, t2]
              rfl
            rw [e, hz13, hz12, h3, dz11, rc_is ⟨k % 6, by omega⟩]
            exact rc_io ⟨_, h64⟩ ⟨_, rc_sh (by omega)⟩) kk
theorem rf_7 (ha : a.1 = rx_cells) (hM : hp_R M ∧ True) {s : Nat} (hs : s < 64) : ∀ (m t : Nat) (x3 x4 : Int32) (o5 : Option Value), m + t = 6 → x4.toInt = (t : Int) → x3 = Int32.ofNat (rc_it (rc_F M (rc_sea x2)) t s) → hp X d 165 7 [some (.ref 244), some (.int x1), some (.int x2), some (.int x3), some (.int x4), o5] [] a M (fun o => ∃ r : Int32, o = (some (.int r), a, M) ∧ r = Int32.ofNat (rc_it (rc_F M (rc_sea x2)) 6 s)) := by
  intro m
  induction m with
  | zero =>
    intro t x3 x4 o5 hb h4 h3
    have z6 : (6 : Int32).toInt = 6 := rfl
    refine hp_il (pc' := 9) (j := 4) (Or.inl ⟨rfl, rfl⟩) rfl ?_
    refine hp_bi (pc' := 11) (x := 6) rfl rfl rfl ?_
    refine hp_ige (t := 79) (pc' := 14) rfl rfl rfl (fun c1 => ?_) (fun c1 => ?_)
    · have e : t = 6 := by omega
      rw [e] at h3
      refine hp_il (pc' := 80) (j := 3) (Or.inr ⟨3, rfl, rfl, rfl⟩) rfl ?_
      refine hp_ri rfl rfl ?_
      exact ⟨x3, rfl, h3⟩
    · exfalso
      omega
  | succ m ih =>
    intro t x3 x4 o5 hb h4 h3
    have z6 : (6 : Int32).toInt = 6 := rfl
    refine hp_il (pc' := 9) (j := 4) (Or.inl ⟨rfl, rfl⟩) rfl ?_
    refine hp_bi (pc' := 11) (x := 6) rfl rfl rfl ?_
    refine hp_ige (t := 79) (pc' := 14) rfl rfl rfl (fun c1 => ?_) (fun c1 => ?_)
    · exfalso
      omega
    · refine hp_ic (pc' := 15) (x := 0) rfl rfl rfl ?_
      refine hp_is (pc' := 17) (j := 5) (ls' := [some (.ref 244), some (.int x1), some (.int x2), some (.int x3), some (.int x4), some (.int (0 : Int32))]) (Or.inl ⟨rfl, rfl⟩) (by simp) rfl ?_
      refine rf_17 (s := rc_it (rc_F M (rc_sea x2)) t s) ha hM (rc_it64 hs t) 36 0 _ _ (by omega) rfl h3 (fun y3 y5 h3y => ?_)
      refine hp_in (pc' := 76) (j := 4) (ls' := [some (.ref 244), some (.int x1), some (.int x2), some (.int y3), some (.int (x4 + Int32.ofInt 1)), some (.int y5)]) rfl rfl rfl rfl rfl ?_
      refine hp_go (t := 7) rfl rfl ?_
      exact ih (t + 1) _ _ _ (by omega) (hp_i1 h4 (by omega)) (by
        rw [h3y]
        exact congrArg Int32.ofNat (rc_tp 6))
theorem rf_ok {A : Nat} (ha : a.1 = rx_cells) (hM : hp_R M ∧ True) (h1 : x1.toInt = (A : Int)) (hA : A < 6) : hp X d 165 0 [some (.ref 244), some (.int x1), some (.int x2), none, none, none] [] a M (fun o => ∃ r : Int32, o = (some (.int r), a, M) ∧ r = Int32.ofNat (rc_it (rc_F M (rc_sea x2)) 6 (1 <<< A))) := by
  refine hp_ic (pc' := 1) (x := 1) rfl rfl rfl ?_
  refine hp_il (pc' := 2) (j := 1) (Or.inr ⟨1, rfl, rfl, rfl⟩) rfl ?_
  refine hp_shl (pc' := 3) rfl rfl (fun z1 hz1 => ?_)
  have hs0 : z1 = Int32.ofNat (1 <<< A) := by
    rw [hz1, rc_of h1 (by omega)]
    exact rc_is ⟨A, hA⟩
  refine hp_is (pc' := 4) (j := 3) (ls' := [some (.ref 244), some (.int x1), some (.int x2), some (.int z1), none, none]) (Or.inr ⟨3, rfl, rfl, rfl⟩) (by simp) rfl ?_
  refine hp_ic (pc' := 5) (x := 0) rfl rfl rfl ?_
  refine hp_is (pc' := 7) (j := 4) (ls' := [some (.ref 244), some (.int x1), some (.int x2), some (.int z1), some (.int (0 : Int32)), none]) (Or.inl ⟨rfl, rfl⟩) (by simp) rfl ?_
  exact rf_7 (s := 1 <<< A) ha hM (rc_sh hA) 6 0 _ _ _ rfl rfl hs0
theorem iw_ok (ha : a.1 = rx_cells) : hp X (d + 1) 157 0 [some (.ref 244), some (.int x1)] [] a M (fun o => ∃ r : Int32, o = (some (.int r), a, M) ∧ (r.toInt = 0 ∨ r.toInt = 1) ∧ (r.toInt ≠ 0 ↔ (0 ≤ (x1 : Int32).toInt ∧ (x1 : Int32).toInt ≤ 520))) := by
  have z0 : (0 : Int32).toInt = 0 := rfl
  have z520 : (520 : Int32).toInt = 520 := rfl
  refine hp_al (pc' := 1) (j := 0) (Or.inr ⟨0, rfl, rfl, rfl⟩) rfl ?_
  refine hp_il (pc' := 2) (j := 1) (Or.inr ⟨1, rfl, rfl, rfl⟩) rfl ?_
  refine hp_ic (pc' := 3) (x := 0) rfl rfl rfl ?_
  refine hp_si (pc' := 6) (x := 520) rfl rfl rfl ?_
  refine hp_cv (Q := fun o => ∃ r : Int32, o = (some (.int r), a, M) ∧ (r.toInt = 0 ∨ r.toInt = 1) ∧ (r.toInt ≠ 0 ↔ (((0 : Int32) : Int32).toInt ≤ (x1 : Int32).toInt ∧ (x1 : Int32).toInt ≤ ((520 : Int32) : Int32).toInt))) (pc' := 9) (e := d) (vs := [.int x1, .int (0 : Int32), .int (520 : Int32)]) (r := []) ha rfl rfl rfl rfl rfl rfl rfl rfl in_ok (fun o ho => ?_)
  obtain ⟨r1, eo, qr1⟩ := ho
  subst eo
  refine ⟨_, rfl, ?_⟩
  show hp X (d + 1) 157 9 [some (.ref 244), some (.int x1)] [.int r1] a M _
  refine hp_rb rfl rfl (rb_ok qr1.1) ?_
  exact ⟨_, rfl, qr1.1, by omega⟩
noncomputable def rc_v (M : rx_M) (n : Nat) (x1 x2 x3 : Int32) : Int := if x1.toInt < 0 ∨ 5 < x1.toInt ∨ x2.toInt < 0 ∨ 5 < x2.toInt ∨ x3.toInt < 0 ∨ 520 < x3.toInt then -1 else if (rc_it (rc_F M (rc_sea x3)) n (1 <<< x1.toInt.toNat)).testBit x2.toInt.toNat then 1 else 0
theorem mrc_ok (ha : a.1 = rx_cells) (hM : hp_R M ∧ True) : hp X (d + 2) 166 0 [some (.ref 244), some (.int x1), some (.int x2), some (.int x3)] [] a M (fun o => ∃ r : Int32, o = (some (.int r), a, M) ∧ r.toInt = rc_v M 6 x1 x2 x3) := by
  have z0 : (0 : Int32).toInt = 0 := rfl
  have z5 : (5 : Int32).toInt = 5 := rfl
  have z6 : (6 : Int32).toInt = 6 := rfl
  have m1 : (-1 : Int32).toInt = -1 := rfl
  have z520 : (520 : Int32).toInt = 520 := rfl
  refine hp_al (pc' := 1) (j := 0) (Or.inr ⟨0, rfl, rfl, rfl⟩) rfl ?_
  refine hp_il (pc' := 2) (j := 1) (Or.inr ⟨1, rfl, rfl, rfl⟩) rfl ?_
  refine hp_ic (pc' := 3) (x := 0) rfl rfl rfl ?_
  refine hp_ic (pc' := 4) (x := 5) rfl rfl rfl ?_
  refine hp_cv (Q := fun o => ∃ r : Int32, o = (some (.int r), a, M) ∧ (r.toInt = 0 ∨ r.toInt = 1) ∧ (r.toInt ≠ 0 ↔ (((0 : Int32) : Int32).toInt ≤ (x1 : Int32).toInt ∧ (x1 : Int32).toInt ≤ ((5 : Int32) : Int32).toInt))) (pc' := 7) (e := (d + 1)) (vs := [.int x1, .int (0 : Int32), .int (5 : Int32)]) (r := []) ha rfl rfl rfl rfl rfl rfl rfl rfl in_ok (fun o ho => ?_)
  obtain ⟨r1, eo, qr1⟩ := ho
  subst eo
  refine ⟨_, rfl, ?_⟩
  show hp X ((d + 1) + 1) 166 7 [some (.ref 244), some (.int x1), some (.int x2), some (.int x3)] [.int r1] a M _
  refine hp_zeq (t := 28) (pc' := 10) rfl rfl rfl (fun c2 => ?_) (fun c2 => ?_)
  · refine hp_ic (pc' := 29) (x := (-1)) rfl rfl rfl ?_
    refine hp_ri rfl rfl ?_
    exact ⟨_, rfl, by
      unfold rc_v
      rw [if_pos (by omega)]
      rfl⟩
  · refine hp_al (pc' := 11) (j := 0) (Or.inr ⟨0, rfl, rfl, rfl⟩) rfl ?_
    refine hp_il (pc' := 12) (j := 2) (Or.inr ⟨2, rfl, rfl, rfl⟩) rfl ?_
    refine hp_ic (pc' := 13) (x := 0) rfl rfl rfl ?_
    refine hp_ic (pc' := 14) (x := 5) rfl rfl rfl ?_
    refine hp_cv (Q := fun o => ∃ r : Int32, o = (some (.int r), a, M) ∧ (r.toInt = 0 ∨ r.toInt = 1) ∧ (r.toInt ≠ 0 ↔ (((0 : Int32) : Int32).toInt ≤ (x2 : Int32).toInt ∧ (x2 : Int32).toInt ≤ ((5 : Int32) : Int32).toInt))) (pc' := 17) (e := (d + 1)) (vs := [.int x2, .int (0 : Int32), .int (5 : Int32)]) (r := []) ha rfl rfl rfl rfl rfl rfl rfl rfl in_ok (fun o ho => ?_)
    obtain ⟨r3, eo, qr3⟩ := ho
    subst eo
    refine ⟨_, rfl, ?_⟩
    show hp X ((d + 1) + 1) 166 17 [some (.ref 244), some (.int x1), some (.int x2), some (.int x3)] [.int r3] a M _
    refine hp_zeq (t := 28) (pc' := 20) rfl rfl rfl (fun c4 => ?_) (fun c4 => ?_)
    · refine hp_ic (pc' := 29) (x := (-1)) rfl rfl rfl ?_
      refine hp_ri rfl rfl ?_
      exact ⟨_, rfl, by
        unfold rc_v
        rw [if_pos (by omega)]
        rfl⟩
    · refine hp_al (pc' := 21) (j := 0) (Or.inr ⟨0, rfl, rfl, rfl⟩) rfl ?_
      refine hp_il (pc' := 22) (j := 3) (Or.inr ⟨3, rfl, rfl, rfl⟩) rfl ?_
      refine hp_cv (Q := fun o => ∃ r : Int32, o = (some (.int r), a, M) ∧ (r.toInt = 0 ∨ r.toInt = 1) ∧ (r.toInt ≠ 0 ↔ (0 ≤ (x3 : Int32).toInt ∧ (x3 : Int32).toInt ≤ 520))) (pc' := 25) (e := (d + 1)) (vs := [.int x3]) (r := []) ha rfl rfl rfl rfl rfl rfl rfl rfl (iw_ok (d := d) ha) (fun o ho => ?_)
      obtain ⟨r5, eo, qr5⟩ := ho
      subst eo
      refine ⟨_, rfl, ?_⟩
      show hp X ((d + 1) + 1) 166 25 [some (.ref 244), some (.int x1), some (.int x2), some (.int x3)] [.int r5] a M _
      refine hp_zne (t := 30) (pc' := 28) rfl rfl rfl (fun c6 => ?_) (fun c6 => ?_)
      · have hq1 := qr1.2.mp (by assumption)
        have hq2 := qr3.2.mp (by assumption)
        have hq3 := qr5.2.mp (by assumption)
        obtain ⟨A, hA1, hA⟩ : ∃ A : Nat, x1.toInt = (A : Int) ∧ A < 6 := ⟨x1.toInt.toNat, by omega, by omega⟩
        obtain ⟨B, hB1, hB⟩ : ∃ B : Nat, x2.toInt = (B : Int) ∧ B < 6 := ⟨x2.toInt.toNat, by omega, by omega⟩
        have eA : x1.toInt.toNat = A := by omega
        have eB : x2.toInt.toNat = B := by omega
        refine hp_al (pc' := 31) (j := 0) (Or.inr ⟨0, rfl, rfl, rfl⟩) rfl ?_
        refine hp_il (pc' := 32) (j := 1) (Or.inr ⟨1, rfl, rfl, rfl⟩) rfl ?_
        refine hp_il (pc' := 33) (j := 3) (Or.inr ⟨3, rfl, rfl, rfl⟩) rfl ?_
        refine hp_cv (Q := fun o => ∃ r : Int32, o = (some (.int r), a, M) ∧ r = Int32.ofNat (rc_it (rc_F M (rc_sea x3)) 6 (1 <<< A))) (pc' := 36) (e := (d + 1)) (vs := [.int x1, .int x3]) (r := []) ha rfl rfl rfl rfl rfl rfl rfl rfl (rf_ok (d := d + 1) (A := A) ha hM hA1 hA) (fun o ho => ?_)
        obtain ⟨r7, eo, qr7⟩ := ho
        subst eo
        refine ⟨_, rfl, ?_⟩
        show hp X ((d + 1) + 1) 166 36 [some (.ref 244), some (.int x1), some (.int x2), some (.int x3)] [.int r7] a M _
        refine hp_il (pc' := 37) (j := 2) (Or.inr ⟨2, rfl, rfl, rfl⟩) rfl ?_
        refine hp_shr (pc' := 38) rfl rfl (fun z8 hz8 => ?_)
        refine hp_ic (pc' := 39) (x := 1) rfl rfl rfl ?_
        refine hp_and (pc' := 40) rfl rfl (fun z9 hz9 => ?_)
        refine hp_ri rfl rfl ?_
        have b := rc_bs (rc_it64 (rc_sh hA) 6) hB qr7 (rc_of hB1 (by omega)) hz8 hz9
        exact ⟨_, rfl, by
          unfold rc_v
          rw [if_neg (by omega), eA, eB, b]
          unfold rc_F
          split <;> rfl⟩
      · refine hp_ic (pc' := 29) (x := (-1)) rfl rfl rfl ?_
        refine hp_ri rfl rfl ?_
        exact ⟨_, rfl, by
          unfold rc_v
          rw [if_pos (by omega)]
          rfl⟩
theorem ho_ok : hp X d 148 0 [some (.int x1), some (.int x2)] [] a M (fun o => ∃ r : Int32, o = (some (.int r), a, M) ∧ (r.toInt = 0 ∨ r.toInt = 1) ∧ (r.toInt ≠ 0 ↔ ((x1 : Int32) >>> ((x2 : Int32) &&& 31)) &&& 1 = 1)) := by
  refine hp_il (pc' := 1) (j := 0) (Or.inr ⟨0, rfl, rfl, rfl⟩) rfl ?_
  refine hp_il (pc' := 2) (j := 1) (Or.inr ⟨1, rfl, rfl, rfl⟩) rfl ?_
  refine hp_shr (pc' := 3) rfl rfl (fun z1 hz1 => ?_)
  refine hp_ic (pc' := 4) (x := 1) rfl rfl rfl ?_
  refine hp_and (pc' := 5) rfl rfl (fun z2 hz2 => ?_)
  refine hp_ic (pc' := 6) (x := 1) rfl rfl rfl ?_
  refine hp_ine (t := 13) (pc' := 9) rfl rfl rfl (fun c3 => ?_) (fun c3 => ?_)
  · refine hp_ic (pc' := 14) (x := 0) rfl rfl rfl ?_
    refine hp_rb rfl rfl (by decide) ?_
    exact ⟨_, rfl, Or.inl rfl, fun q => absurd rfl q, fun q => by
      exfalso
      rw [← hz1, ← hz2] at q
      exact absurd (rc_1.mpr q) (by assumption)⟩
  · refine hp_ic (pc' := 10) (x := 1) rfl rfl rfl ?_
    refine hp_go (t := 14) rfl rfl ?_
    refine hp_rb rfl rfl (by decide) ?_
    exact ⟨_, rfl, Or.inr rfl, fun _ => by
      rw [← hz1, ← hz2]
      exact rc_1.mp (by assumption), fun _ => by decide⟩
theorem nt_5 {sea : Int32} {p : Nat} (ha : a.1 = rx_cells) (hM : hp_R M ∧ True) (hR : ∀ p q, p < 6 → q < 6 → M.1 (8 + p) q = M.1 248 (6 * p + q)) (h1 : x1.toInt = (p : Int)) (hp6 : p < 6) : ∀ (m q : Nat) (x3 x4 : Int32), m + q = 6 → x4.toInt = (q : Int) → x3 = Int32.ofNat (rc_nx (rc_R M sea) p q) → hp X (d + 1) 88 5 [some (.ref 6), some (.int x1), some (.int sea), some (.int x3), some (.int x4)] [] a M (fun o => ∃ r : Int32, o = (some (.int r), a, M) ∧ r = Int32.ofNat (rc_nx (rc_R M sea) p 6)) := by
  intro m
  induction m with
  | zero =>
    intro q x3 x4 hb h4 h3
    have z6 : (6 : Int32).toInt = 6 := rfl
    refine hp_il (pc' := 7) (j := 4) (Or.inl ⟨rfl, rfl⟩) rfl ?_
    refine hp_bi (pc' := 9) (x := 6) rfl rfl rfl ?_
    refine hp_ige (t := 41) (pc' := 12) rfl rfl rfl (fun c1 => ?_) (fun c1 => ?_)
    · have e : q = 6 := by omega
      rw [e] at h3
      refine hp_il (pc' := 42) (j := 3) (Or.inr ⟨3, rfl, rfl, rfl⟩) rfl ?_
      refine hp_ri rfl rfl ?_
      exact ⟨x3, rfl, h3⟩
    · exfalso
      omega
  | succ m ih =>
    intro q x3 x4 hb h4 h3
    have z6 : (6 : Int32).toInt = 6 := rfl
    refine hp_il (pc' := 7) (j := 4) (Or.inl ⟨rfl, rfl⟩) rfl ?_
    refine hp_bi (pc' := 9) (x := 6) rfl rfl rfl ?_
    refine hp_ige (t := 41) (pc' := 12) rfl rfl rfl (fun c1 => ?_) (fun c1 => ?_)
    · exfalso
      omega
    · refine hp_al (pc' := 13) (j := 0) (Or.inr ⟨0, rfl, rfl, rfl⟩) rfl ?_
      refine hp_gr (pc' := 16) ha (hM.1 6 0 7 rfl) rfl rfl rfl rfl ?_
      refine hp_il (pc' := 17) (j := 1) (Or.inr ⟨1, rfl, rfl, rfl⟩) rfl ?_
      refine hp_aal (pc' := 18) (j := p) ha (hM.1 7 p (8 + p) (rr_rf (by omega))) h1 (by omega) rfl rfl rfl ?_
      refine hp_il (pc' := 20) (j := 4) (Or.inl ⟨rfl, rfl⟩) rfl ?_
      refine hp_ld (pc' := 21) (j := q) ha h4 (by omega) rfl (rr_lay (by omega)) rfl ?_
      refine hp_il (pc' := 22) (j := 2) (Or.inr ⟨2, rfl, rfl, rfl⟩) rfl ?_
      refine hp_cs (Q := fun o => ∃ r : Int32, o = (some (.int r), a, M) ∧ (r.toInt = 0 ∨ r.toInt = 1) ∧ (r.toInt ≠ 0 ↔ (((M.1 (8 + p) q) : Int32) >>> ((sea : Int32) &&& 31)) &&& 1 = 1)) (pc' := 25) (e := d) (vs := [.int (M.1 (8 + p) q), .int sea]) (r := []) rfl rfl (Or.inr rfl) rfl rfl rfl rfl rfl ho_ok (fun o ho => ?_)
      obtain ⟨r2, eo, qr2⟩ := ho
      subst eo
      refine ⟨_, rfl, ?_⟩
      show hp X (d + 1) 88 25 [some (.ref 6), some (.int x1), some (.int sea), some (.int x3), some (.int x4)] [.int r2] a M _
      refine hp_zeq (t := 35) (pc' := 28) rfl rfl rfl (fun c3 => ?_) (fun c3 => ?_)
      · refine hp_in (pc' := 38) (j := 4) (ls' := [some (.ref 6), some (.int x1), some (.int sea), some (.int x3), some (.int (x4 + Int32.ofInt 1))]) rfl rfl rfl rfl rfl ?_
        refine hp_go (t := 5) rfl rfl ?_
        have hb0 : (rc_R M sea (6 * p + q) = true) = ((M.1 (8 + p) q >>> (sea &&& 31)) &&& 1 = 1) := by
          unfold rc_R
          rw [hR p q hp6 (by omega)]
          exact propext ⟨fun q => of_decide_eq_true q, fun q => decide_eq_true q⟩
        exact ih (q + 1) _ _ (by omega) (hp_i1 h4 (by omega)) (by
          have e : rc_nx (rc_R M sea) p (q + 1) = rc_nx (rc_R M sea) p q := by
            show (if rc_R M sea (6 * p + q) then _ else _) = _
            refine if_neg (fun w => ?_)
            rw [hb0] at w
            exact absurd (by assumption) (qr2.2.mpr w)
          rw [e]
          exact h3)
      · refine hp_il (pc' := 29) (j := 3) (Or.inr ⟨3, rfl, rfl, rfl⟩) rfl ?_
        refine hp_ic (pc' := 30) (x := 1) rfl rfl rfl ?_
        refine hp_il (pc' := 32) (j := 4) (Or.inl ⟨rfl, rfl⟩) rfl ?_
        refine hp_shl (pc' := 33) rfl rfl (fun z4 hz4 => ?_)
        refine hp_or (pc' := 34) rfl rfl (fun z5 hz5 => ?_)
        refine hp_is (pc' := 35) (j := 3) (ls' := [some (.ref 6), some (.int x1), some (.int sea), some (.int z5), some (.int x4)]) (Or.inr ⟨3, rfl, rfl, rfl⟩) (by simp) rfl ?_
        refine hp_in (pc' := 38) (j := 4) (ls' := [some (.ref 6), some (.int x1), some (.int sea), some (.int z5), some (.int (x4 + Int32.ofInt 1))]) rfl rfl rfl rfl rfl ?_
        refine hp_go (t := 5) rfl rfl ?_
        have hb0 : (rc_R M sea (6 * p + q) = true) = ((M.1 (8 + p) q >>> (sea &&& 31)) &&& 1 = 1) := by
          unfold rc_R
          rw [hR p q hp6 (by omega)]
          exact propext ⟨fun q => of_decide_eq_true q, fun q => decide_eq_true q⟩
        exact ih (q + 1) _ _ (by omega) (hp_i1 h4 (by omega)) (by
          have t : rc_R M sea (6 * p + q) = true := by
            rw [hb0]
            exact qr2.2.mp (by assumption)
          have e : rc_nx (rc_R M sea) p (q + 1) = rc_nx (rc_R M sea) p q ||| (1 <<< q) := by
            show (if rc_R M sea (6 * p + q) then _ else _) = _
            rw [if_pos t]
          rw [e, hz5, hz4, h3, rc_of h4 (by omega), rc_is ⟨q, by omega⟩]
          exact rc_io ⟨_, rc_nx64 q (by omega)⟩ ⟨_, rc_sh (by omega)⟩)
theorem nt_ok {sea : Int32} {p : Nat} (ha : a.1 = rx_cells) (hM : hp_R M ∧ True) (hR : ∀ p q, p < 6 → q < 6 → M.1 (8 + p) q = M.1 248 (6 * p + q)) (h1 : x1.toInt = (p : Int)) (hp6 : p < 6) : hp X (d + 1) 88 0 [some (.ref 6), some (.int x1), some (.int sea), none, none] [] a M (fun o => ∃ r : Int32, o = (some (.int r), a, M) ∧ r = Int32.ofNat (rc_nx (rc_R M sea) p 6)) := by
  refine hp_ic (pc' := 1) (x := 0) rfl rfl rfl ?_
  refine hp_is (pc' := 2) (j := 3) (ls' := [some (.ref 6), some (.int x1), some (.int sea), some (.int (0 : Int32)), none]) (Or.inr ⟨3, rfl, rfl, rfl⟩) (by simp) rfl ?_
  refine hp_ic (pc' := 3) (x := 0) rfl rfl rfl ?_
  refine hp_is (pc' := 5) (j := 4) (ls' := [some (.ref 6), some (.int x1), some (.int sea), some (.int (0 : Int32)), some (.int (0 : Int32))]) (Or.inl ⟨rfl, rfl⟩) (by simp) rfl ?_
  exact nt_5 ha hM hR h1 hp6 6 0 _ _ rfl rfl rfl
theorem fr2_17 {sea : Int32} (ha : a.1 = rx_cells) (hM : hp_R M ∧ True) (hR : ∀ p q, p < 6 → q < 6 → M.1 (8 + p) q = M.1 248 (6 * p + q)) {s : Nat} (hs : s < 64) : ∀ (m p : Nat) (x3 x5 : Int32), m + p = 6 → x5.toInt = (p : Int) → x3 = Int32.ofNat (rc_rd (rc_R M sea) s p) → (∀ x3 x5, x3 = Int32.ofNat (rc_rd (rc_R M sea) s 6) → hp X (d + 2) 87 49 [some (.ref 6), some (.int x1), some (.int sea), some (.int x3), some (.int x4), some (.int x5)] [] a M P) → hp X (d + 2) 87 17 [some (.ref 6), some (.int x1), some (.int sea), some (.int x3), some (.int x4), some (.int x5)] [] a M P := by
  intro m
  induction m with
  | zero =>
    intro p x3 x5 hb h5 h3 kk
    have z6 : (6 : Int32).toInt = 6 := rfl
    refine hp_il (pc' := 19) (j := 5) (Or.inl ⟨rfl, rfl⟩) rfl ?_
    refine hp_bi (pc' := 21) (x := 6) rfl rfl rfl ?_
    refine hp_ige (t := 49) (pc' := 24) rfl rfl rfl (fun c1 => ?_) (fun c1 => ?_)
    · have e : p = 6 := by omega
      rw [e] at h3
      exact kk _ _ h3
    · exfalso
      omega
  | succ m ih =>
    intro p x3 x5 hb h5 h3 kk
    have z6 : (6 : Int32).toInt = 6 := rfl
    have h64 : rc_rd (rc_R M sea) s p < 64 := rc_rd64 hs p
    refine hp_il (pc' := 19) (j := 5) (Or.inl ⟨rfl, rfl⟩) rfl ?_
    refine hp_bi (pc' := 21) (x := 6) rfl rfl rfl ?_
    refine hp_ige (t := 49) (pc' := 24) rfl rfl rfl (fun c1 => ?_) (fun c1 => ?_)
    · exfalso
      omega
    · refine hp_il (pc' := 25) (j := 3) (Or.inr ⟨3, rfl, rfl, rfl⟩) rfl ?_
      refine hp_il (pc' := 27) (j := 5) (Or.inl ⟨rfl, rfl⟩) rfl ?_
      refine hp_cs (Q := fun o => ∃ r : Int32, o = (some (.int r), a, M) ∧ (r.toInt = 0 ∨ r.toInt = 1) ∧ (r.toInt ≠ 0 ↔ ((x3 : Int32) >>> ((x5 : Int32) &&& 31)) &&& 1 = 1)) (pc' := 30) (e := (d + 1)) (vs := [.int x3, .int x5]) (r := []) rfl rfl (Or.inr rfl) rfl rfl rfl rfl rfl ho_ok (fun o ho => ?_)
      obtain ⟨r2, eo, qr2⟩ := ho
      subst eo
      refine ⟨_, rfl, ?_⟩
      show hp X ((d + 1) + 1) 87 30 [some (.ref 6), some (.int x1), some (.int sea), some (.int x3), some (.int x4), some (.int x5)] [.int r2] a M _
      refine hp_zeq (t := 43) (pc' := 33) rfl rfl rfl (fun c3 => ?_) (fun c3 => ?_)
      · refine hp_in (pc' := 46) (j := 5) (ls' := [some (.ref 6), some (.int x1), some (.int sea), some (.int x3), some (.int x4), some (.int (x5 + Int32.ofInt 1))]) rfl rfl rfl rfl rfl ?_
        refine hp_go (t := 17) rfl rfl ?_
        have b1 := rc_bt ⟨_, h64⟩ ⟨p, by omega⟩
        rw [← h3, ← rc_of h5 (by omega)] at b1
        exact ih (p + 1) _ _ (by omega) (hp_i1 h5 (by omega)) (by
          have e : rc_rd (rc_R M sea) s (p + 1) = rc_rd (rc_R M sea) s p := by
            show (if (rc_rd (rc_R M sea) s p).testBit p then _ else _) = _
            refine if_neg (fun w => ?_)
            rw [← b1] at w
            exact absurd (by assumption) (qr2.2.mpr w)
          rw [e]
          exact h3) kk
      · refine hp_il (pc' := 34) (j := 3) (Or.inr ⟨3, rfl, rfl, rfl⟩) rfl ?_
        refine hp_al (pc' := 35) (j := 0) (Or.inr ⟨0, rfl, rfl, rfl⟩) rfl ?_
        refine hp_il (pc' := 37) (j := 5) (Or.inl ⟨rfl, rfl⟩) rfl ?_
        refine hp_il (pc' := 38) (j := 2) (Or.inr ⟨2, rfl, rfl, rfl⟩) rfl ?_
        refine hp_cx (q := 6) (Q := fun o => ∃ r : Int32, o = (some (.int r), a, M) ∧ r = Int32.ofNat (rc_nx (rc_R M sea) p 6)) (pc' := 41) (e := (d + 1)) (vs := [.int x5, .int sea]) (r := [.int x3]) ha rfl rfl rfl rfl rfl rfl rfl rfl (nt_ok (d := d) ha hM hR h5 (by omega)) (fun o ho => ?_)
        obtain ⟨r4, eo, qr4⟩ := ho
        subst eo
        refine ⟨_, rfl, ?_⟩
        show hp X ((d + 1) + 1) 87 41 [some (.ref 6), some (.int x1), some (.int sea), some (.int x3), some (.int x4), some (.int x5)] [.int r4, .int x3] a M _
        refine hp_or (pc' := 42) rfl rfl (fun z5 hz5 => ?_)
        refine hp_is (pc' := 43) (j := 3) (ls' := [some (.ref 6), some (.int x1), some (.int sea), some (.int z5), some (.int x4), some (.int x5)]) (Or.inr ⟨3, rfl, rfl, rfl⟩) (by simp) rfl ?_
        refine hp_in (pc' := 46) (j := 5) (ls' := [some (.ref 6), some (.int x1), some (.int sea), some (.int z5), some (.int x4), some (.int (x5 + Int32.ofInt 1))]) rfl rfl rfl rfl rfl ?_
        refine hp_go (t := 17) rfl rfl ?_
        have b1 := rc_bt ⟨_, h64⟩ ⟨p, by omega⟩
        rw [← h3, ← rc_of h5 (by omega)] at b1
        exact ih (p + 1) _ _ (by omega) (hp_i1 h5 (by omega)) (by
          have t : (rc_rd (rc_R M sea) s p).testBit p = true := by
            rw [← b1]
            exact qr2.2.mp (by assumption)
          have e : rc_rd (rc_R M sea) s (p + 1) = rc_rd (rc_R M sea) s p ||| rc_nx (rc_R M sea) p 6 := by
            show (if (rc_rd (rc_R M sea) s p).testBit p then _ else _) = _
            rw [if_pos t]
          rw [e, hz5, qr4]
          rw [h3]
          exact rc_io ⟨_, h64⟩ ⟨_, rc_nx64 6 (by omega)⟩) kk
theorem fr2_7 {sea : Int32} (ha : a.1 = rx_cells) (hM : hp_R M ∧ True) (hR : ∀ p q, p < 6 → q < 6 → M.1 (8 + p) q = M.1 248 (6 * p + q)) {s : Nat} (hs : s < 64) : ∀ (m t : Nat) (x3 x4 : Int32) (o5 : Option Value), m + t = 5 → x4.toInt = ((t + 1 : Nat) : Int) → x3 = Int32.ofNat (rc_it (rc_F M sea) t s) → hp X (d + 2) 87 7 [some (.ref 6), some (.int x1), some (.int sea), some (.int x3), some (.int x4), o5] [] a M (fun o => ∃ r : Int32, o = (some (.int r), a, M) ∧ r = Int32.ofNat (rc_it (rc_F M sea) 5 s)) := by
  intro m
  induction m with
  | zero =>
    intro t x3 x4 o5 hb h4 h3
    have z6 : (6 : Int32).toInt = 6 := rfl
    refine hp_il (pc' := 9) (j := 4) (Or.inl ⟨rfl, rfl⟩) rfl ?_
    refine hp_bi (pc' := 11) (x := 6) rfl rfl rfl ?_
    refine hp_ige (t := 55) (pc' := 14) rfl rfl rfl (fun c1 => ?_) (fun c1 => ?_)
    · have e : t = 5 := by omega
      rw [e] at h3
      refine hp_il (pc' := 56) (j := 3) (Or.inr ⟨3, rfl, rfl, rfl⟩) rfl ?_
      refine hp_ri rfl rfl ?_
      exact ⟨x3, rfl, h3⟩
    · exfalso
      omega
  | succ m ih =>
    intro t x3 x4 o5 hb h4 h3
    have z6 : (6 : Int32).toInt = 6 := rfl
    refine hp_il (pc' := 9) (j := 4) (Or.inl ⟨rfl, rfl⟩) rfl ?_
    refine hp_bi (pc' := 11) (x := 6) rfl rfl rfl ?_
    refine hp_ige (t := 55) (pc' := 14) rfl rfl rfl (fun c1 => ?_) (fun c1 => ?_)
    · exfalso
      omega
    · refine hp_ic (pc' := 15) (x := 0) rfl rfl rfl ?_
      refine hp_is (pc' := 17) (j := 5) (ls' := [some (.ref 6), some (.int x1), some (.int sea), some (.int x3), some (.int x4), some (.int (0 : Int32))]) (Or.inl ⟨rfl, rfl⟩) (by simp) rfl ?_
      refine fr2_17 (s := rc_it (rc_F M sea) t s) ha hM hR (rc_it64 hs t) 6 0 _ _ (by omega) rfl h3 (fun y3 y5 h3y => ?_)
      refine hp_in (pc' := 52) (j := 4) (ls' := [some (.ref 6), some (.int x1), some (.int sea), some (.int y3), some (.int (x4 + Int32.ofInt 1)), some (.int y5)]) rfl rfl rfl rfl rfl ?_
      refine hp_go (t := 7) rfl rfl ?_
      exact ih (t + 1) _ _ _ (by omega) (hp_i1 h4 (by omega)) h3y
theorem fr2_ok {sea : Int32} {A : Nat} (ha : a.1 = rx_cells) (hM : hp_R M ∧ True) (hR : ∀ p q, p < 6 → q < 6 → M.1 (8 + p) q = M.1 248 (6 * p + q)) (h1 : x1.toInt = (A : Int)) (hA : A < 6) : hp X (d + 2) 87 0 [some (.ref 6), some (.int x1), some (.int sea), none, none, none] [] a M (fun o => ∃ r : Int32, o = (some (.int r), a, M) ∧ r = Int32.ofNat (rc_it (rc_F M sea) 5 (1 <<< A))) := by
  refine hp_ic (pc' := 1) (x := 1) rfl rfl rfl ?_
  refine hp_il (pc' := 2) (j := 1) (Or.inr ⟨1, rfl, rfl, rfl⟩) rfl ?_
  refine hp_shl (pc' := 3) rfl rfl (fun z1 hz1 => ?_)
  have hs0 : z1 = Int32.ofNat (1 <<< A) := by
    rw [hz1, rc_of h1 (by omega)]
    exact rc_is ⟨A, hA⟩
  refine hp_is (pc' := 4) (j := 3) (ls' := [some (.ref 6), some (.int x1), some (.int sea), some (.int z1), none, none]) (Or.inr ⟨3, rfl, rfl, rfl⟩) (by simp) rfl ?_
  refine hp_ic (pc' := 5) (x := 1) rfl rfl rfl ?_
  refine hp_is (pc' := 7) (j := 4) (ls' := [some (.ref 6), some (.int x1), some (.int sea), some (.int z1), some (.int (1 : Int32)), none]) (Or.inl ⟨rfl, rfl⟩) (by simp) rfl ?_
  exact fr2_7 (s := 1 <<< A) ha hM hR (rc_sh hA) 5 0 _ _ _ rfl rfl hs0
theorem so_ok : hp X d 147 0 [some (.int x1)] [] a M (fun o => ∃ r : Int32, o = (some (.int r), a, M) ∧ r = rc_sea x1) := by
  refine hp_il (pc' := 1) (j := 0) (Or.inr ⟨0, rfl, rfl, rfl⟩) rfl ?_
  refine hp_bi (pc' := 3) (x := 13) rfl rfl rfl ?_
  refine hp_div (pc' := 4) rfl rfl (by decide) (fun z1 hz1 => ?_)
  refine hp_ic (pc' := 5) (x := 4) rfl rfl rfl ?_
  refine hp_rm (pc' := 6) rfl rfl (by decide) (fun z2 hz2 => ?_)
  refine hp_ri rfl rfl ?_
  exact ⟨_, rfl, by rw [hz2, hz1]; rfl⟩
theorem xwr_ok : hp X (d + 1) 146 0 [some (.int x1)] [] a M (fun o => ∃ r : Int32, o = (some (.int r), a, M) ∧ (r.toInt = 0 ∨ r.toInt = 1) ∧ (r.toInt ≠ 0 ↔ (0 ≤ (x1 : Int32).toInt ∧ (x1 : Int32).toInt ≤ 520))) := by
  have z0 : (0 : Int32).toInt = 0 := rfl
  have z520 : (520 : Int32).toInt = 520 := rfl
  refine hp_il (pc' := 1) (j := 0) (Or.inr ⟨0, rfl, rfl, rfl⟩) rfl ?_
  refine hp_ic (pc' := 2) (x := 0) rfl rfl rfl ?_
  refine hp_si (pc' := 5) (x := 520) rfl rfl rfl ?_
  refine hp_cs (Q := fun o => ∃ r : Int32, o = (some (.int r), a, M) ∧ (r.toInt = 0 ∨ r.toInt = 1) ∧ (r.toInt ≠ 0 ↔ (((0 : Int32) : Int32).toInt ≤ (x1 : Int32).toInt ∧ (x1 : Int32).toInt ≤ ((520 : Int32) : Int32).toInt))) (pc' := 8) (e := d) (vs := [.int x1, .int (0 : Int32), .int (520 : Int32)]) (r := []) rfl rfl (Or.inl rfl) rfl rfl rfl rfl rfl wi_ok (fun o ho => ?_)
  obtain ⟨r1, eo, qr1⟩ := ho
  subst eo
  refine ⟨_, rfl, ?_⟩
  show hp X (d + 1) 146 8 [some (.int x1)] [.int r1] a M _
  refine hp_rb rfl rfl (rb_ok qr1.1) ?_
  exact ⟨_, rfl, qr1.1, by omega⟩
theorem xrc_ok (ha : a.1 = rx_cells) (hM : hp_R M ∧ True) (hR : ∀ p q, p < 6 → q < 6 → M.1 (8 + p) q = M.1 248 (6 * p + q)) : hp X (d + 3) 109 0 [some (.ref 0), some (.int x1), some (.int x2), some (.int x3)] [] a M (fun o => ∃ r : Int32, o = (some (.int r), a, M) ∧ r.toInt = rc_v M 5 x1 x2 x3) := by
  have z0 : (0 : Int32).toInt = 0 := rfl
  have z5 : (5 : Int32).toInt = 5 := rfl
  have z6 : (6 : Int32).toInt = 6 := rfl
  have m1 : (-1 : Int32).toInt = -1 := rfl
  have z520 : (520 : Int32).toInt = 520 := rfl
  refine hp_il (pc' := 1) (j := 1) (Or.inr ⟨1, rfl, rfl, rfl⟩) rfl ?_
  refine hp_bi (pc' := 3) (x := 6) rfl rfl rfl ?_
  refine hp_cs (Q := fun o => ∃ r : Int32, o = (some (.int r), a, M) ∧ (r.toInt = 0 ∨ r.toInt = 1) ∧ (r.toInt ≠ 0 ↔ (0 ≤ (x1 : Int32).toInt ∧ (x1 : Int32).toInt < ((6 : Int32) : Int32).toInt))) (pc' := 6) (e := (d + 2)) (vs := [.int x1, .int (6 : Int32)]) (r := []) rfl rfl (Or.inl rfl) rfl rfl rfl rfl rfl bl_ok (fun o ho => ?_)
  obtain ⟨r1, eo, qr1⟩ := ho
  subst eo
  refine ⟨_, rfl, ?_⟩
  show hp X ((d + 2) + 1) 109 6 [some (.ref 0), some (.int x1), some (.int x2), some (.int x3)] [.int r1] a M _
  refine hp_zeq (t := 25) (pc' := 9) rfl rfl rfl (fun c2 => ?_) (fun c2 => ?_)
  · refine hp_ic (pc' := 26) (x := (-1)) rfl rfl rfl ?_
    refine hp_ri rfl rfl ?_
    exact ⟨_, rfl, by
      unfold rc_v
      rw [if_pos (by omega)]
      rfl⟩
  · refine hp_il (pc' := 10) (j := 2) (Or.inr ⟨2, rfl, rfl, rfl⟩) rfl ?_
    refine hp_bi (pc' := 12) (x := 6) rfl rfl rfl ?_
    refine hp_cs (Q := fun o => ∃ r : Int32, o = (some (.int r), a, M) ∧ (r.toInt = 0 ∨ r.toInt = 1) ∧ (r.toInt ≠ 0 ↔ (0 ≤ (x2 : Int32).toInt ∧ (x2 : Int32).toInt < ((6 : Int32) : Int32).toInt))) (pc' := 15) (e := (d + 2)) (vs := [.int x2, .int (6 : Int32)]) (r := []) rfl rfl (Or.inl rfl) rfl rfl rfl rfl rfl bl_ok (fun o ho => ?_)
    obtain ⟨r3, eo, qr3⟩ := ho
    subst eo
    refine ⟨_, rfl, ?_⟩
    show hp X ((d + 2) + 1) 109 15 [some (.ref 0), some (.int x1), some (.int x2), some (.int x3)] [.int r3] a M _
    refine hp_zeq (t := 25) (pc' := 18) rfl rfl rfl (fun c4 => ?_) (fun c4 => ?_)
    · refine hp_ic (pc' := 26) (x := (-1)) rfl rfl rfl ?_
      refine hp_ri rfl rfl ?_
      exact ⟨_, rfl, by
        unfold rc_v
        rw [if_pos (by omega)]
        rfl⟩
    · refine hp_il (pc' := 19) (j := 3) (Or.inr ⟨3, rfl, rfl, rfl⟩) rfl ?_
      refine hp_cs (Q := fun o => ∃ r : Int32, o = (some (.int r), a, M) ∧ (r.toInt = 0 ∨ r.toInt = 1) ∧ (r.toInt ≠ 0 ↔ (0 ≤ (x3 : Int32).toInt ∧ (x3 : Int32).toInt ≤ 520))) (pc' := 22) (e := (d + 2)) (vs := [.int x3]) (r := []) rfl rfl (Or.inl rfl) rfl rfl rfl rfl rfl (xwr_ok (d := d + 1)) (fun o ho => ?_)
      obtain ⟨r5, eo, qr5⟩ := ho
      subst eo
      refine ⟨_, rfl, ?_⟩
      show hp X ((d + 2) + 1) 109 22 [some (.ref 0), some (.int x1), some (.int x2), some (.int x3)] [.int r5] a M _
      refine hp_zne (t := 27) (pc' := 25) rfl rfl rfl (fun c6 => ?_) (fun c6 => ?_)
      · have hq1 := qr1.2.mp (by assumption)
        have hq2 := qr3.2.mp (by assumption)
        have hq3 := qr5.2.mp (by assumption)
        obtain ⟨A, hA1, hA⟩ : ∃ A : Nat, x1.toInt = (A : Int) ∧ A < 6 := ⟨x1.toInt.toNat, by omega, by omega⟩
        obtain ⟨B, hB1, hB⟩ : ∃ B : Nat, x2.toInt = (B : Int) ∧ B < 6 := ⟨x2.toInt.toNat, by omega, by omega⟩
        have eA : x1.toInt.toNat = A := by omega
        have eB : x2.toInt.toNat = B := by omega
        refine hp_al (pc' := 28) (j := 0) (Or.inr ⟨0, rfl, rfl, rfl⟩) rfl ?_
        refine hp_gr (pc' := 31) ha (hM.1 0 1 6 rfl) rfl rfl rfl rfl ?_
        refine hp_il (pc' := 32) (j := 1) (Or.inr ⟨1, rfl, rfl, rfl⟩) rfl ?_
        refine hp_il (pc' := 33) (j := 3) (Or.inr ⟨3, rfl, rfl, rfl⟩) rfl ?_
        refine hp_cs (Q := fun o => ∃ r : Int32, o = (some (.int r), a, M) ∧ r = rc_sea x3) (pc' := 36) (e := (d + 2)) (vs := [.int x3]) (r := [.int x1, .ref 6]) rfl rfl (Or.inl rfl) rfl rfl rfl rfl rfl so_ok (fun o ho => ?_)
        obtain ⟨r7, eo, qr7⟩ := ho
        subst eo
        refine ⟨_, rfl, ?_⟩
        show hp X ((d + 2) + 1) 109 36 [some (.ref 0), some (.int x1), some (.int x2), some (.int x3)] [.int r7, .int x1, .ref 6] a M _
        refine hp_cx (q := 6) (Q := fun o => ∃ r : Int32, o = (some (.int r), a, M) ∧ r = Int32.ofNat (rc_it (rc_F M r7) 5 (1 <<< A))) (pc' := 39) (e := (d + 2)) (vs := [.int x1, .int r7]) (r := []) ha rfl rfl rfl rfl rfl rfl rfl rfl (fr2_ok (d := d) (A := A) (sea := r7) ha hM hR hA1 hA) (fun o ho => ?_)
        obtain ⟨r8, eo, qr8⟩ := ho
        subst eo
        refine ⟨_, rfl, ?_⟩
        show hp X ((d + 2) + 1) 109 39 [some (.ref 0), some (.int x1), some (.int x2), some (.int x3)] [.int r8] a M _
        refine hp_il (pc' := 40) (j := 2) (Or.inr ⟨2, rfl, rfl, rfl⟩) rfl ?_
        refine hp_cs (Q := fun o => ∃ r : Int32, o = (some (.int r), a, M) ∧ (r.toInt = 0 ∨ r.toInt = 1) ∧ (r.toInt ≠ 0 ↔ ((r8 : Int32) >>> ((x2 : Int32) &&& 31)) &&& 1 = 1)) (pc' := 43) (e := (d + 2)) (vs := [.int r8, .int x2]) (r := []) rfl rfl (Or.inl rfl) rfl rfl rfl rfl rfl ho_ok (fun o ho => ?_)
        obtain ⟨r9, eo, qr9⟩ := ho
        subst eo
        refine ⟨_, rfl, ?_⟩
        show hp X ((d + 2) + 1) 109 43 [some (.ref 0), some (.int x1), some (.int x2), some (.int x3)] [.int r9] a M _
        refine hp_zeq (t := 50) (pc' := 46) rfl rfl rfl (fun c10 => ?_) (fun c10 => ?_)
        · refine hp_ic (pc' := 51) (x := 0) rfl rfl rfl ?_
          refine hp_ri rfl rfl ?_
          have b := rc_bt ⟨_, rc_it64 (R := rc_R M (rc_sea x3)) (rc_sh hA) 5⟩ ⟨B, hB⟩
          have e5 : r8 = Int32.ofNat (rc_it (fun s => rc_rd (rc_R M (rc_sea x3)) s 6) 5 (1 <<< A)) := by
            rw [qr8, qr7]
            rfl
          rw [← e5, ← rc_of hB1 (by omega)] at b
          have t : ¬ (rc_it (rc_F M (rc_sea x3)) 5 (1 <<< A)).testBit B = true := fun w => by
            have w : (rc_it (fun s => rc_rd (rc_R M (rc_sea x3)) s 6) 5 (1 <<< A)).testBit B = true := w
            rw [← b] at w
            exact absurd (by assumption) (qr9.2.mpr w)
          exact ⟨_, rfl, by
            unfold rc_v
            rw [if_neg (by omega), eA, eB, if_neg t]
            rfl⟩
        · refine hp_ic (pc' := 47) (x := 1) rfl rfl rfl ?_
          refine hp_go (t := 51) rfl rfl ?_
          refine hp_ri rfl rfl ?_
          have b := rc_bt ⟨_, rc_it64 (R := rc_R M (rc_sea x3)) (rc_sh hA) 5⟩ ⟨B, hB⟩
          have e5 : r8 = Int32.ofNat (rc_it (fun s => rc_rd (rc_R M (rc_sea x3)) s 6) 5 (1 <<< A)) := by
            rw [qr8, qr7]
            rfl
          rw [← e5, ← rc_of hB1 (by omega)] at b
          have t := qr9.2.mp (by assumption)
          rw [b] at t
          have t : (rc_it (rc_F M (rc_sea x3)) 5 (1 <<< A)).testBit B = true := t
          exact ⟨_, rfl, by
            unfold rc_v
            rw [if_neg (by omega), eA, eB, if_pos t]
            rfl⟩
      · refine hp_ic (pc' := 26) (x := (-1)) rfl rfl rfl ?_
        refine hp_ri rfl rfl ?_
        exact ⟨_, rfl, by
          unfold rc_v
          rw [if_pos (by omega)]
          rfl⟩
theorem rc_56 {M : rx_M} {x1 x2 x3 : Int32} : rc_v M 6 x1 x2 x3 = rc_v M 5 x1 x2 x3 := by
  by_cases q : x1.toInt < 0 ∨ 5 < x1.toInt ∨ x2.toInt < 0 ∨ 5 < x2.toInt ∨ x3.toInt < 0 ∨ 520 < x3.toInt
  · unfold rc_v
    rw [if_pos q, if_pos q]
  · unfold rc_v
    rw [if_neg q, if_neg q]
    have hA : x1.toInt.toNat < 6 := by omega
    have h1 : 1 ≤ rc_c (1 <<< x1.toInt.toNat) := by
      have h : ∀ p : Fin 6, 1 ≤ rc_c (1 <<< p.val) := by decide +kernel
      exact h ⟨_, hA⟩
    have e := rc_five (R := rc_R M (rc_sea x3)) (rc_sh hA) h1
    have e : rc_it (rc_F M (rc_sea x3)) 6 (1 <<< x1.toInt.toNat) = rc_it (rc_F M (rc_sea x3)) 5 (1 <<< x1.toInt.toNat) := e
    rw [e]
end RC
