/-! the core: answers that are longs, System.arraycopy -/
section AXO
variable {X : Nat × (Nat → Int32)} {P : Option Value → rx_M → Prop} {W : ax_W} {sp : Nat → Nat → Int × Int} {rf : Nat → Nat → Option Nat} {mx : ax_X} {fin : ax_E → ax_K → Option Value → Bool} {ih : ax_S} {v : ax_V} {E : ax_E} {K : ax_K} {M : rx_M} {a : rx_K} {d i pc : Nat} {fr : ax_F} {ls : List (Option Value)} {st : List Value}
noncomputable def ax_lrS (fin : ax_E → ax_K → Option Value → Bool) (ih : ax_S) (E : ax_E) (K : ax_K) (d : Nat) (fr : ax_F) (i : Nat) (st : List Value) : Bool := match st with
  | [w] => (match rx_rt i with
    | some .long => cond (ax_sh 2 w) (ax_re fin ih E K d fr (some w)) false
    | _ => false)
  | _ => false
theorem ax_lrS_ok (H : ax_H X P W sp rf ih) (hfin : ∀ E K w v M a, fin E K w = true → ax_St W sp rf v E K M a [] → P (w.map (ax_v v)) (ax_mA a M)) (ht : rx_tb i pc = some .lreturn) (h : ax_lrS fin ih E K d fr i st = true) (S : ax_St W sp rf v E K M a fr) : ax_C X P v d fr i (pc, ax_ls v ls, st.map (ax_v v), a, M) := by
  have hs := ax_stp_eq (X := X) (v := v) (ls := ls) (st := st) (a := a) (M := M) ht
  unfold ax_lrS at h
  split at h
  · rename_i w
    split at h
    · rename_i hrt
      replace h := sx_cT (by intro q; cases q) h
      obtain ⟨hw, h⟩ := h
      obtain ⟨z, hz⟩ := ax_vL (v := v) hw
      refine ax_re_ok H hfin (w := some w) (hs.trans ?_) rfl rfl h S
      show (match [ax_v v w] with
        | [.long x] => (match rx_rt i with
          | some .long => some (.inr (.inr (some (.long x))))
          | _ => none)
        | _ => none) = some (Sum.inr (Sum.inr (some (ax_v v w))))
      rw [hz, hrt]
    · cases h
  · cases h
theorem ax_J_cp {q s e dd n : Nat} {bs bd : Int × Int} (h : ax_J W sp rf M) (hG : ax_GG (rx_cp M.1 q s e dd n)) (hw : ∀ j, ax_wd W.1 e j) (h1 : ∀ j, sp q j = bs) (h2 : ∀ j, sp e j = bd) (hb : bd.1 ≤ bs.1 ∧ bs.2 ≤ bd.2) : ax_J W sp rf (rx_cp M.1 q s e dd n, M.2.1, M.2.2) := by
  refine ⟨fun p j => ?_, h.2.1, fun p j hn => ⟨?_, (h.2.2.1 p j hn).2⟩, hG⟩
  rotate_left
  · show rx_cp M.1 q s e dd n p j = _
    unfold rx_cp va_cpy
    by_cases hp : p = e
    · rw [hp] at hn
      exact absurd (hw j) hn
    · rw [if_neg hp]
      exact (h.2.2.1 p j hn).1
  show (sp p j).1 ≤ (rx_cp M.1 q s e dd n p j).toInt ∧ (rx_cp M.1 q s e dd n p j).toInt ≤ (sp p j).2
  unfold rx_cp va_cpy
  by_cases hp : p = e
  · rw [if_pos hp]
    by_cases hj : dd ≤ j ∧ j < dd + n
    · rw [if_pos hj, hp, h2]
      have h3 := h.1 q (s + (j - dd))
      rw [h1] at h3
      omega
    · rw [if_neg hj, hp]
      exact h.1 e j
  · rw [if_neg hp]
    exact h.1 p j
theorem ax_dropR_cp {lo hi : Int} {q s e dd n : Nat} (h : ax_kn v K M) (h1 : lo ≤ (e : Int)) (h2 : (e : Int) ≤ hi) : ax_kn v (ax_dropR lo hi K) (rx_cp M.1 q s e dd n, M.2.1, M.2.2) := fun z hz => by
  obtain ⟨k1, k2⟩ := List.mem_filter.mp hz
  rw [Bool.and_eq_true, Bool.or_eq_true, decide_eq_true_eq, decide_eq_true_eq] at k2
  have k3 := h z k1
  have ne : ∀ p, ¬ p = e → ∀ i, rx_cp M.1 q s e dd n p i = M.1 p i := fun p hp i => by
    unfold rx_cp
    rw [if_neg hp]
  refine ⟨k3.1, ?_⟩
  rcases k3.2 with k | k | ⟨n9, k, k0, k4⟩
  · exact Or.inl ⟨k.1, by dsimp only; rw [ne _ (by omega)]; exact k.2⟩
  · exact Or.inr (Or.inl k)
  · refine Or.inr (Or.inr ⟨n9, k, k0, fun i h9 => ?_⟩)
    have k5 := k2.1
    rw [k] at k5
    have k5 : (decide (hi < 24) || decide (173 < lo)) = true := k5
    rw [Bool.or_eq_true, decide_eq_true_eq, decide_eq_true_eq] at k5
    dsimp only
    rw [ne _ (by omega)]
    exact k4 i h9
/-- the guards behind a copy -/
noncomputable def ax_gcp (E : ax_E) (K : ax_K) (lo hi : Int) (e : Value) : Bool := (ax_gszo lo hi && ax_quiet lo hi) || (decide (24 ≤ lo) && (decide (hi ≤ 173) && (match e with
  | .float b => decide ((ax_base E b.toNat).2 = 24) && ax_past E K 14 16 (.retAddr (ax_base E b.toNat).1)
  | _ => false)))
theorem ax_gcp_ok (hE : ax_ok v E) (hK : ax_kn v K M) (hG : ax_GG M.1) {w : Value} {lo hi : Int} {q s dd n : Nat} (h : ax_gcp E K lo hi w = true) (h1 : lo ≤ ((ax_cell v w : Nat) : Int)) (h2 : ((ax_cell v w : Nat) : Int) ≤ hi) : ax_GG (rx_cp M.1 q s (ax_cell v w) dd n) := by
  have ne : ∀ p, ¬ p = ax_cell v w → ∀ i, rx_cp M.1 q s (ax_cell v w) dd n p i = M.1 p i := fun p hp i => by
    unfold rx_cp
    rw [if_neg hp]
  unfold ax_gcp at h
  rw [Bool.or_eq_true, Bool.and_eq_true] at h
  rcases h with ⟨ha, h⟩ | h
  · unfold ax_gszo at ha
    unfold ax_quiet at h
    simp only [Bool.and_eq_true] at h ha
    obtain ⟨c0, c1, c2, c3, c4, c5, c6, c7, c8, c9, c10, c11, c12, c13⟩ := h
    have m9 := ax_out_ok c9 h1 h2
    have m11 := ax_out_ok c11 h1 h2
    have m12 := ax_out_ok c12 h1 h2
    have m13 := ax_out_ok c13 h1 h2
    have m10 := ax_out_ok c10 h1 h2
    have n0 := ax_out_ok ha.1 h1 h2
    have n9 := ax_out_ok ha.2 h1 h2
    have n1 := ax_out_ok c1 h1 h2
    have n2 := ax_out_ok c2 h1 h2
    have n3 := ax_out_ok c3 h1 h2
    have n4 := ax_out_ok c4 h1 h2
    have n5 := ax_out_ok c5 h1 h2
    have n6 := ax_out_ok c6 h1 h2
    have n7 := ax_out_ok c7 h1 h2
    have n8 := ax_out_ok c8 h1 h2
    rw [Bool.or_eq_true, decide_eq_true_eq, decide_eq_true_eq] at c0
    refine ax_G_of hG (ne _ n0 _) (ne _ n9 _) (fun e he => ⟨ne _ n1 _, ne _ n2 _, ne _ n3 _, ne _ n4 _, fun h150 i => ne _ (by omega) _⟩) (fun e he => ⟨ne _ n6 _, ne _ n7 _, ne _ n8 _, ne _ m11 _, ne _ m12 _, fun _ i _ => ne _ m13 _⟩) (fun i => ?_) (fun i => ?_)
    · rw [ne _ n5]
      exact hG.2.2.1 i
    · rw [ne _ m9, ne _ m10]
      exact hG.2.2.2.1 i
  · simp only [Bool.and_eq_true, decide_eq_true_eq] at h
    obtain ⟨b1, b2, h⟩ := h
    split at h
    · rename_i b
      rw [Bool.and_eq_true, decide_eq_true_eq] at h
      obtain ⟨p1, -⟩ := ax_past_ok hE hK (by omega) h.2
      have p1 : (M.1 14 16).toInt ≤ (v (ax_base E b.toNat).1).1.toInt := p1
      have hb := ax_base_ok hE b.toNat
      rw [h.1] at hb
      have ec : ((ax_cell v (.float b) : Nat) : Int) = max 0 (v b.toNat).1.toInt := by
        show (((v b.toNat).1.toInt.toNat : Nat) : Int) = _
        omega
      refine ax_G_of hG (ne _ (by omega) _) (ne _ (by omega) _) (fun e he => ⟨ne _ (by omega) _, ne _ (by omega) _, ne _ (by omega) _, ne _ (by omega) _, fun h150 i => ne _ (by omega) _⟩) (fun e he => ⟨ne _ (by omega) _, ne _ (by omega) _, ne _ (by omega) _, ne _ (by omega) _, ne _ (by omega) _, fun _ i _ => ne _ (by omega) _⟩) (fun i => ?_) (fun i => ?_)
      · rw [ne _ (by omega)]
        exact hG.2.2.1 i
      · rw [ne _ (by omega), ne _ (by omega)]
        exact hG.2.2.2.1 i
    · cases h
/-- the first elements of a row are known to be of 0 to 11 -/
noncomputable def ax_pfx (E : ax_E) (K : ax_K) (q n : Nat) : Bool := Nat.rec (motive := fun _ => Bool) true (fun j ih => ih && (Nat.beq (Int32.ofNat j).toNatClampNeg j && (match ax_fi q (ax_fx j) K with
  | some w => decide (0 ≤ (ax_iv E w).1) && decide ((ax_ivh E w).2 ≤ 11)
  | none => false))) n
theorem ax_pfx_ok (hE : ax_ok v E) (hK : ax_kn v K M) {q : Nat} : ∀ n, ax_pfx E K q n = true → ∀ j, j < n → 0 ≤ (M.1 q j).toInt ∧ (M.1 q j).toInt ≤ 11
  | 0, _, j, hj => by omega
  | n + 1, h, j, hj => by
    have h' : (ax_pfx E K q n && (Nat.beq (Int32.ofNat n).toNatClampNeg n && (match ax_fi q (ax_fx n) K with
      | some w => decide (0 ≤ (ax_iv E w).1) && decide ((ax_ivh E w).2 ≤ 11)
      | none => false))) = true := h
    rw [Bool.and_eq_true, Bool.and_eq_true] at h'
    obtain ⟨h1, h2, h3⟩ := h'
    by_cases hjn : j = n
    · subst hjn
      split at h3
      · rename_i w hw
        obtain ⟨w1, w2⟩ := ax_fi_ok hK hw
        have e : (ax_vi v (ax_fx j)).toNatClampNeg = j := Nat.eq_of_beq_eq_true h2
        rw [e] at w2
        rw [w2]
        have i1 := ax_iv_ok hE w1
        have i2 := ax_ivh_ok hE w1
        rw [Bool.and_eq_true, decide_eq_true_eq, decide_eq_true_eq] at h3
        omega
      · cases h3
    · exact ax_pfx_ok hE hK n h1 j (by omega)
noncomputable def ax_mkr (E : ax_E) (K : ax_K) (b q : Nat) (m dp s : Value) : Bool := match ax_lit E m with
  | some m => (match ax_lit E dp with
    | some dp => (match ax_lit E s with
      | some s => Nat.beq dp.toNatClampNeg 0 && (Nat.beq s.toNatClampNeg 0 && (decide ((ax_base E b).2 = 24) && (decide (24 ≤ (ax_b E b).1) && (decide ((ax_ivh E (.retAddr b)).2 ≤ 173) && (Nat.blt (ax_base E b).1 E.1 && ax_pfx E K q m.toNatClampNeg)))))
      | none => false)
    | none => false)
  | none => false
noncomputable def ax_acK (E : ax_E) (K K2 : ax_K) (m dp e s q : Value) : ax_K := match e with
  | .float b => (match q with
    | .ref q => cond (ax_mkr E K b.toNat q m dp s) (match ax_lit E m with
      | some m => (23, ax_cx E (.retAddr (ax_base E b.toNat).1), .long m.toInt64) :: K2
      | none => K2) K2
    | _ => K2)
  | _ => K2
theorem ax_cx_sc {n : Nat} {y : Value} (h : ax_sc n y = true) : ax_sc n (ax_cx E y) = true := by
  unfold ax_cx
  split
  · rfl
  · exact h
theorem ax_acK_ok (hE : ax_ok v E) (hK : ax_kn v K M) {K2 : ax_K} {m dp e s q : Value} (hK2 : ax_kn v K2 (rx_cp M.1 (ax_cell v q) (ax_vi v s).toNatClampNeg (ax_cell v e) (ax_vi v dp).toNatClampNeg (ax_vi v m).toNatClampNeg, M.2.1, M.2.2)) (hm : sx_isI m = true) (hdp : sx_isI dp = true) (hs : sx_isI s = true) :
    ax_kn v (ax_acK E K K2 m dp e s q) (rx_cp M.1 (ax_cell v q) (ax_vi v s).toNatClampNeg (ax_cell v e) (ax_vi v dp).toNatClampNeg (ax_vi v m).toNatClampNeg, M.2.1, M.2.2) := by
  unfold ax_acK
  split
  · rename_i b
    split
    · rename_i q
      cases hc : ax_mkr E K b.toNat q m dp s with
      | false => exact hK2
      | true =>
        rw [Bool.cond_true]
        unfold ax_mkr at hc
        split at hc
        · rename_i m0 hm0
          split at hc
          · rename_i d0 hd0
            split at hc
            · rename_i s0 hs0
              simp only [Bool.and_eq_true, decide_eq_true_eq] at hc
              obtain ⟨c1, c2, c3, c4, c5, c6, c7⟩ := hc
              have e1 := Nat.eq_of_beq_eq_true c1
              have e2 := Nat.eq_of_beq_eq_true c2
              rw [ax_vi_lit hE hm0 hm, ax_vi_lit hE hd0 hdp, ax_vi_lit hE hs0 hs, e1, e2] at hK2 ⊢
              obtain ⟨x1, x2⟩ := ax_cx_ok hE (y := .retAddr (ax_base E b.toNat).1) rfl
              have x1 : ax_vi v (ax_cx E (.retAddr (ax_base E b.toNat).1)) = (v (ax_base E b.toNat).1).1 := x1
              have hb := ax_base_ok hE b.toNat
              rw [c3] at hb
              have b1 := hE.1 b.toNat
              have b2 : (v b.toNat).1.toInt ≤ (ax_ivh E (.retAddr b.toNat)).2 := (ax_ivh_ok hE (w := .retAddr b.toNat) rfl).2
              have e0 : (((v (ax_base E b.toNat).1).1.toNatClampNeg : Nat) : Int) = max 0 (v (ax_base E b.toNat).1).1.toInt := by
                show (((v (ax_base E b.toNat).1).1.toInt.toNat : Nat) : Int) = _
                omega
              have ec : ((ax_cell v (.float b) : Nat) : Int) = max 0 (v b.toNat).1.toInt := by
                show (((v b.toNat).1.toInt.toNat : Nat) : Int) = _
                omega
              refine ax_kn_cons1 hK2 ⟨x2, Or.inr (Or.inr ⟨_, rfl, ?_, fun j hj => ?_⟩)⟩
              · show (ax_vi v (ax_cx E (.retAddr (ax_base E b.toNat).1))).toNatClampNeg < 150
                rw [x1]
                omega
              · rw [Int32.toInt_toInt64] at hj
                dsimp only
                rw [x1]
                have ej : ((m0.toNatClampNeg : Nat) : Int) = max 0 m0.toInt := by
                  show ((m0.toInt.toNat : Nat) : Int) = _
                  omega
                have e9 : 24 + (v (ax_base E b.toNat).1).1.toNatClampNeg = ax_cell v (.float b) := by omega
                rw [e9]
                unfold rx_cp va_cpy
                rw [if_pos rfl, if_pos ⟨Nat.zero_le _, by omega⟩]
                have k := ax_pfx_ok hE hK _ c7 j (by omega)
                rw [Nat.sub_zero, Nat.zero_add]
                exact k
            · cases hc
          · cases hc
        · cases hc
    · exact hK2
  · exact hK2
theorem ax_acK_kw {n : Nat} {K2 : ax_K} (h : ax_kw n K2) (hn : n = E.1) {m dp e s q : Value} : ax_kw n (ax_acK E K K2 m dp e s q) := by
  unfold ax_acK
  split
  · rename_i b
    split
    · rename_i q
      cases hc : ax_mkr E K b.toNat q m dp s with
      | false => exact h
      | true =>
        rw [Bool.cond_true]
        unfold ax_mkr at hc
        split at hc
        · rename_i m0 hm0
          split at hc
          · split at hc
            · simp only [Bool.and_eq_true] at hc
              intro z hz
              rcases List.mem_cons.mp hz with w | w
              · rw [w]
                exact ⟨ax_cx_sc (by rw [hn]; exact hc.2.2.2.2.2.1), rfl⟩
              · exact h z w
            · cases hc
          · cases hc
        · cases hc
    · exact h
  · exact h
/-- the bounds of a row's elements, and of its cell's number -/
noncomputable def ax_rb (sp : Nat → Nat → Int × Int) (mx : ax_X) (E : ax_E) (w : Value) : Option ((Int × Int) × (Int × Int)) := match w with
  | .ref q => some (sp q 0, ((q : Int), (q : Int)))
  | .float b => (match ax_mxf (ax_b E b.toNat).1 (ax_ivh E (.retAddr b.toNat)).2 mx with
    | some (_, bd) => some (bd, ((ax_b E b.toNat).1, (ax_ivh E (.retAddr b.toNat)).2))
    | none => none)
  | _ => none
theorem ax_rb_ok (hE : ax_ok v E) (hm : ax_mxok sp mx) (hsa : ∀ q u n, rx_lay q = some (.inr (u, n)) → ∀ j, sp q j = sp q 0) {w : Value} {u n : Nat} {b c : Int × Int} (hw : ax_ary mx E w = some (u, n)) (h : ax_rb sp mx E w = some (b, c)) : (∀ j, sp (ax_cell v w) j = b) ∧ c.1 ≤ ((ax_cell v w : Nat) : Int) ∧ ((ax_cell v w : Nat) : Int) ≤ c.2 := by
  have hlay := (ax_ary_ok (v := v) hE hm hw).2
  unfold ax_rb at h
  split at h
  · rename_i q
    cases h
    exact ⟨fun j => hsa q _ _ hlay j, Int.le_refl _, Int.le_refl _⟩
  · rename_i b'
    split at h
    · rename_i n' bd hf
      cases h
      have h0 := hw
      unfold ax_ary at h0
      dsimp only at h0
      rw [hf] at h0
      dsimp only at h0
      obtain ⟨h1, -⟩ := sx_cT (by intro q; cases q) h0
      have h1 := of_decide_eq_true h1
      have h2 := hE.1 b'.toNat
      have h3 := (ax_ivh_ok hE (w := .retAddr b'.toNat) rfl).2
      have h4 := ax_clamp (x := (v b'.toNat).1) (by omega)
      have p1 : (ax_b E b'.toNat).1 ≤ ((ax_cell v (.float b') : Nat) : Int) := by
        show _ ≤ (((v b'.toNat).1.toNatClampNeg : Nat) : Int)
        omega
      have p2 : ((ax_cell v (.float b') : Nat) : Int) ≤ (ax_ivh E (.retAddr b'.toNat)).2 := by
        show (((v b'.toNat).1.toNatClampNeg : Nat) : Int) ≤ _
        rw [h4]
        exact h3
      exact ⟨(ax_mxf_ok mx hm hf _ p1 p2).2, p1, p2⟩
    · cases h
  · cases h
/-- a part of a row, from s on, m long -/
noncomputable def ax_pt (E : ax_E) (s m : Value) (n : Nat) : Bool := sx_isI s && (sx_isI m && (decide (0 ≤ (ax_iv E s).1) && (decide (0 ≤ (ax_iv E m).1) && decide ((ax_ivh E s).2 + (ax_ivh E m).2 ≤ (n : Int)))))
theorem ax_pt_ok (hE : ax_ok v E) {s m : Value} {n : Nat} (h : ax_pt E s m n = true) : ax_v v s = .int (ax_vi v s) ∧ ax_v v m = .int (ax_vi v m) ∧ ¬ ax_vi v s < 0 ∧ ¬ ax_vi v m < 0 ∧ (ax_vi v s).toNatClampNeg + (ax_vi v m).toNatClampNeg ≤ n ∧ sx_isI m = true ∧ sx_isI s = true := by
  unfold ax_pt at h
  simp only [Bool.and_eq_true] at h
  obtain ⟨c1, c2, c3, c4, c5⟩ := h
  have c3 := of_decide_eq_true c3
  have c4 := of_decide_eq_true c4
  have c5 := of_decide_eq_true c5
  have i1 := ax_iv_ok hE c1
  have i2 := ax_iv_ok hE c2
  have j1 := ax_ivh_ok hE c1
  have j2 := ax_ivh_ok hE c2
  have k1 := ax_clamp (x := ax_vi v s) (by omega)
  have k2 := ax_clamp (x := ax_vi v m) (by omega)
  exact ⟨ax_vI c1, ax_vI c2, fun z => by have := ax_neg.mp z; omega, fun z => by have := ax_neg.mp z; omega, by omega, c2, c1⟩
noncomputable def ax_acS (wd : ax_D) (sp : Nat → Nat → Int × Int) (mx : ax_X) (ih : ax_S) (E : ax_E) (K : ax_K) (d : Nat) (fr : ax_F) (i pc : Nat) (ls : List (Option Value)) (st : List Value) : Bool := match st with
  | m :: dp :: e :: s :: q :: r => (match ax_ary mx E q with
    | some (u0, n0) => (match ax_ary mx E e with
      | some (u1, n1) => (match ax_rb sp mx E q with
        | some (bs, _) => (match ax_rb sp mx E e with
          | some (bd, c) => cond (Nat.beq u0 0 && (Nat.beq u1 0 && (ax_pt E s m n0 && (ax_pt E dp m n1 && (rx_c8 r && (decide (bd.1 ≤ bs.1) && (decide (bs.2 ≤ bd.2) && (ax_wrg wd c.1 c.2 && ax_gcp E K c.1 c.2 e)))))))) (ih E (ax_acK E K (ax_dropR c.1 c.2 K) m dp e s q) d fr i (pc + 3) ls r) false
          | none => false)
        | none => false)
      | none => false)
    | none => false)
  | _ => false
theorem ax_acS_ok (H : ax_H X P W sp rf ih) (hm : ax_mxok sp mx) (hsa : ∀ q u n, rx_lay q = some (.inr (u, n)) → ∀ j, sp q j = sp q 0) {x j n9 : Nat} (hl : rx_ml (rx_cn i) x = some (12, j, n9)) (ht : rx_tb i pc = some (.invokestatic x)) (h : ax_acS W.1 sp mx ih E K d fr i pc ls st = true) (S : ax_St W sp rf v E K M a fr) : ax_C X P v d fr i (pc, ax_ls v ls, st.map (ax_v v), a, M) := by
  have hs := ax_stp_eq (X := X) (v := v) (ls := ls) (st := st) (a := a) (M := M) ht
  obtain ⟨s1, s2, s3, s4, s5, s6, s7⟩ := S
  unfold ax_acS at h
  split at h
  · rename_i m dp e s q r
    split at h
    · rename_i u0 n0 hq
      split at h
      · rename_i u1 n1 he
        split at h
        · rename_i bs c0 hbq
          split at h
          · rename_i bd c hbe
            replace h := sx_cT (by intro q; cases q) h
            obtain ⟨hc, h⟩ := h
            simp only [Bool.and_eq_true] at hc
            obtain ⟨c1, c2, c3, c4, c5, c6, c7, c8, c9⟩ := hc
            have e0 := Nat.eq_of_beq_eq_true c1
            have e1 := Nat.eq_of_beq_eq_true c2
            subst e0
            subst e1
            obtain ⟨q1, q2⟩ := ax_ary_ok s2 hm hq
            obtain ⟨g1, g2⟩ := ax_ary_ok s2 hm he
            obtain ⟨t1, t2, t3, t4, t5, t6, t7⟩ := ax_pt_ok s2 c3
            obtain ⟨w1, -, w3, -, w5, -, w6⟩ := ax_pt_ok s2 c4
            obtain ⟨b1, -, -⟩ := ax_rb_ok s2 hm hsa hq hbq
            obtain ⟨b2, b3, b4⟩ := ax_rb_ok s2 hm hsa he hbe
            have g : rx_ins X i (.invokestatic x) pc (ax_ls v ls) ((m :: dp :: e :: s :: q :: r).map (ax_v v)) a M = rx_nx (pc + 3) (ax_ls v ls) (r.map (ax_v v)) a (rx_cp M.1 (ax_cell v q) (ax_vi v s).toNatClampNeg (ax_cell v e) (ax_vi v dp).toNatClampNeg (ax_vi v m).toNatClampNeg, M.2.1, M.2.2) := by
              show rx_inv 1 (rx_cn i) x pc (ax_ls v ls) (ax_v v m :: ax_v v dp :: ax_v v e :: ax_v v s :: ax_v v q :: r.map (ax_v v)) a M = _
              rw [t2, w1, g1, t1, q1]
              unfold rx_inv
              rw [hl]
              show (match rx_lay (ax_cell v q), rx_lay (ax_cell v e) with
                | some (.inr (0, n0)), some (.inr (0, n1)) => if ax_cell v q < a.1 ∧ ax_cell v e < a.1 ∧ ¬ ax_vi v s < 0 ∧ ¬ ax_vi v dp < 0 ∧ ¬ ax_vi v m < 0 ∧ (ax_vi v s).toNatClampNeg + (ax_vi v m).toNatClampNeg ≤ n0 ∧ (ax_vi v dp).toNatClampNeg + (ax_vi v m).toNatClampNeg ≤ n1 then cond (rx_c8 (r.map (ax_v v))) (rx_nx (pc + 3) (ax_ls v ls) (r.map (ax_v v)) a (rx_cp M.1 (ax_cell v q) (ax_vi v s).toNatClampNeg (ax_cell v e) (ax_vi v dp).toNatClampNeg (ax_vi v m).toNatClampNeg, M.2.1, M.2.2)) none else none
                | _, _ => none) = _
              rw [q2, g2]
              show (if ax_cell v q < a.1 ∧ ax_cell v e < a.1 ∧ ¬ ax_vi v s < 0 ∧ ¬ ax_vi v dp < 0 ∧ ¬ ax_vi v m < 0 ∧ (ax_vi v s).toNatClampNeg + (ax_vi v m).toNatClampNeg ≤ n0 ∧ (ax_vi v dp).toNatClampNeg + (ax_vi v m).toNatClampNeg ≤ n1 then cond (rx_c8 (r.map (ax_v v))) (rx_nx (pc + 3) (ax_ls v ls) (r.map (ax_v v)) a (rx_cp M.1 (ax_cell v q) (ax_vi v s).toNatClampNeg (ax_cell v e) (ax_vi v dp).toNatClampNeg (ax_vi v m).toNatClampNeg, M.2.1, M.2.2)) none else none) = _
              rw [if_pos ⟨by rw [s6.1]; exact ax_lay_lt q2, by rw [s6.1]; exact ax_lay_lt g2, t3, w3, t4, t5, w5⟩, ax_c8_map, c5]
              rfl
            exact ax_C_step (hs.trans g) (H _ _ d fr i (pc + 3) ls r h v _ a ⟨s1, s2, ax_acK_kw (ax_dropR_kw s3) rfl, ax_J_cp s4 (ax_gcp_ok s2 s5 s4.2.2.2 c9 b3 b4) (ax_wrg_ok c8 b3 b4) b1 b2 ⟨of_decide_eq_true c6, of_decide_eq_true c7⟩, ax_acK_ok s2 s5 (ax_dropR_cp s5 b3 b4) t6 w6 t7, s6, s7⟩)
          · cases h
        · cases h
      · cases h
    · cases h
  · cases h
end AXO
