/-! the core: answers that are longs, System.arraycopy -/
section AXO
variable {X : Nat × (Nat → Int32)} {P : Option Value → rx_M → Prop} {W : ax_W} {sp : Nat → Nat → Int × Int} {rf : Nat → Nat → Option Nat} {mx : ax_X} {fin : ax_E → ax_K → Option Value → Bool} {ih : ax_S} {v : ax_V} {E : ax_E} {K : ax_K} {M : rx_M} {a : rx_K} {d i pc : Nat} {fr : ax_F} {ls : List (Option Value)} {st : List Value}
noncomputable def ax_lrS (fin : ax_E → ax_K → Option Value → Bool) (ih : ax_S) (E : ax_E) (K : ax_K) (d : Nat) (fr : ax_F) (i : Nat) (st : List Value) : Bool := match st with
  | [w] => (match rx_rt i with
    | some .long => cond (ax_sh 2 w) (ax_re fin ih E K d fr (some w)) false
    | _ => false)
  | _ => false
theorem ax_lrS_ok (H : ax_H X P W sp rf ih) (hfin : ∀ E K w v M a, fin E K w = true → ax_St W sp rf v E K M a [] → P (w.map (ax_v v)) M) (ht : rx_tb i pc = some .lreturn) (h : ax_lrS fin ih E K d fr i st = true) (S : ax_St W sp rf v E K M a fr) : ax_C X P v d fr i (pc, ax_ls v ls, st.map (ax_v v), a, M) := by
  have hs := ax_stp_eq (X := X) (v := v) (ls := ls) (st := st) (a := a) (M := M) ht
  unfold ax_lrS at h
  split at h
  · rename_i w
    split at h
    · rename_i hrt
      replace h := sx_cT (by intro q; cases q) h
      obtain ⟨hw, h⟩ := h
      obtain ⟨z, hz⟩ := ax_vL (v := v) hw
      refine ax_re_ok H hfin (w := some w) (hs.trans ?_) rfl rfl h S
      show (match [ax_v v w] with
        | [.long x] => (match rx_rt i with
          | some .long => some (.inr (.inr (some (.long x))))
          | _ => none)
        | _ => none) = some (Sum.inr (Sum.inr (some (ax_v v w))))
      rw [hz, hrt]
    · cases h
  · cases h
theorem ax_J_cp {q s e dd n : Nat} {bs bd : Int × Int} (h : ax_J W sp rf M) (hw : ∀ j, ax_wd W.1 e j) (h1 : ∀ j, sp q j = bs) (h2 : ∀ j, sp e j = bd) (hb : bd.1 ≤ bs.1 ∧ bs.2 ≤ bd.2) : ax_J W sp rf (rx_cp M.1 q s e dd n, M.2.1, M.2.2) := by
  refine ⟨fun p j => ?_, h.2.1, fun p j hn => ?_⟩
  rotate_left
  · show rx_cp M.1 q s e dd n p j = _
    unfold rx_cp va_cpy
    by_cases hp : p = e
    · rw [hp] at hn
      exact absurd (hw j) hn
    · rw [if_neg hp]
      exact h.2.2 p j hn
  show (sp p j).1 ≤ (rx_cp M.1 q s e dd n p j).toInt ∧ (rx_cp M.1 q s e dd n p j).toInt ≤ (sp p j).2
  unfold rx_cp va_cpy
  by_cases hp : p = e
  · rw [if_pos hp]
    by_cases hj : dd ≤ j ∧ j < dd + n
    · rw [if_pos hj, hp, h2]
      have h3 := h.1 q (s + (j - dd))
      rw [h1] at h3
      omega
    · rw [if_neg hj, hp]
      exact h.1 e j
  · rw [if_neg hp]
    exact h.1 p j
theorem ax_dropR_cp {lo hi : Int} {q s e dd n : Nat} (h : ax_kn v K M) (h1 : lo ≤ (e : Int)) (h2 : (e : Int) ≤ hi) : ax_kn v (ax_dropR lo hi K) (rx_cp M.1 q s e dd n, M.2.1, M.2.2) := fun z hz => by
  obtain ⟨k1, k2⟩ := List.mem_filter.mp hz
  have k3 := h z k1
  refine ⟨?_, k3.2⟩
  rw [Bool.or_eq_true] at k2
  have hne : ¬ z.1 = e := by
    rcases k2 with k2 | k2
    · have := of_decide_eq_true k2
      omega
    · have := of_decide_eq_true k2
      omega
  show rx_cp M.1 q s e dd n z.1 _ = _
  unfold rx_cp
  rw [if_neg hne]
  exact k3.1
/-- the bounds of a row's elements, and of its cell's number -/
noncomputable def ax_rb (sp : Nat → Nat → Int × Int) (mx : ax_X) (E : ax_E) (w : Value) : Option ((Int × Int) × (Int × Int)) := match w with
  | .ref q => some (sp q 0, ((q : Int), (q : Int)))
  | .float b => (match ax_mxf (ax_b E b.toNat).1 (ax_ivh E (.retAddr b.toNat)).2 mx with
    | some (_, bd) => some (bd, ((ax_b E b.toNat).1, (ax_ivh E (.retAddr b.toNat)).2))
    | none => none)
  | _ => none
theorem ax_rb_ok (hE : ax_ok v E) (hm : ax_mxok sp mx) (hsa : ∀ q u n, rx_lay q = some (.inr (u, n)) → ∀ j, sp q j = sp q 0) {w : Value} {u n : Nat} {b c : Int × Int} (hw : ax_ary mx E w = some (u, n)) (h : ax_rb sp mx E w = some (b, c)) : (∀ j, sp (ax_cell v w) j = b) ∧ c.1 ≤ ((ax_cell v w : Nat) : Int) ∧ ((ax_cell v w : Nat) : Int) ≤ c.2 := by
  have hlay := (ax_ary_ok (v := v) hE hm hw).2
  unfold ax_rb at h
  split at h
  · rename_i q
    cases h
    exact ⟨fun j => hsa q _ _ hlay j, Int.le_refl _, Int.le_refl _⟩
  · rename_i b'
    split at h
    · rename_i n' bd hf
      cases h
      have h0 := hw
      unfold ax_ary at h0
      dsimp only at h0
      rw [hf] at h0
      dsimp only at h0
      obtain ⟨h1, -⟩ := sx_cT (by intro q; cases q) h0
      have h1 := of_decide_eq_true h1
      have h2 := hE.1 b'.toNat
      have h3 := (ax_ivh_ok hE (w := .retAddr b'.toNat) rfl).2
      have h4 := ax_clamp (x := (v b'.toNat).1) (by omega)
      have p1 : (ax_b E b'.toNat).1 ≤ ((ax_cell v (.float b') : Nat) : Int) := by
        show _ ≤ (((v b'.toNat).1.toNatClampNeg : Nat) : Int)
        omega
      have p2 : ((ax_cell v (.float b') : Nat) : Int) ≤ (ax_ivh E (.retAddr b'.toNat)).2 := by
        show (((v b'.toNat).1.toNatClampNeg : Nat) : Int) ≤ _
        rw [h4]
        exact h3
      exact ⟨(ax_mxf_ok mx hm hf _ p1 p2).2, p1, p2⟩
    · cases h
  · cases h
/-- a part of a row, from s on, m long -/
noncomputable def ax_pt (E : ax_E) (s m : Value) (n : Nat) : Bool := sx_isI s && (sx_isI m && (decide (0 ≤ (ax_iv E s).1) && (decide (0 ≤ (ax_iv E m).1) && decide ((ax_ivh E s).2 + (ax_ivh E m).2 ≤ (n : Int)))))
theorem ax_pt_ok (hE : ax_ok v E) {s m : Value} {n : Nat} (h : ax_pt E s m n = true) : ax_v v s = .int (ax_vi v s) ∧ ax_v v m = .int (ax_vi v m) ∧ ¬ ax_vi v s < 0 ∧ ¬ ax_vi v m < 0 ∧ (ax_vi v s).toNatClampNeg + (ax_vi v m).toNatClampNeg ≤ n := by
  unfold ax_pt at h
  simp only [Bool.and_eq_true] at h
  obtain ⟨c1, c2, c3, c4, c5⟩ := h
  have c3 := of_decide_eq_true c3
  have c4 := of_decide_eq_true c4
  have c5 := of_decide_eq_true c5
  have i1 := ax_iv_ok hE c1
  have i2 := ax_iv_ok hE c2
  have j1 := ax_ivh_ok hE c1
  have j2 := ax_ivh_ok hE c2
  have k1 := ax_clamp (x := ax_vi v s) (by omega)
  have k2 := ax_clamp (x := ax_vi v m) (by omega)
  exact ⟨ax_vI c1, ax_vI c2, fun z => by have := ax_neg.mp z; omega, fun z => by have := ax_neg.mp z; omega, by omega⟩
noncomputable def ax_acS (wd : ax_D) (sp : Nat → Nat → Int × Int) (mx : ax_X) (ih : ax_S) (E : ax_E) (K : ax_K) (d : Nat) (fr : ax_F) (i pc : Nat) (ls : List (Option Value)) (st : List Value) : Bool := match st with
  | m :: dp :: e :: s :: q :: r => (match ax_ary mx E q with
    | some (u0, n0) => (match ax_ary mx E e with
      | some (u1, n1) => (match ax_rb sp mx E q with
        | some (bs, _) => (match ax_rb sp mx E e with
          | some (bd, c) => cond (Nat.beq u0 0 && (Nat.beq u1 0 && (ax_pt E s m n0 && (ax_pt E dp m n1 && (rx_c8 r && (decide (bd.1 ≤ bs.1) && (decide (bs.2 ≤ bd.2) && ax_wrg wd c.1 c.2))))))) (ih E (ax_dropR c.1 c.2 K) d fr i (pc + 3) ls r) false
          | none => false)
        | none => false)
      | none => false)
    | none => false)
  | _ => false
theorem ax_acS_ok (H : ax_H X P W sp rf ih) (hm : ax_mxok sp mx) (hsa : ∀ q u n, rx_lay q = some (.inr (u, n)) → ∀ j, sp q j = sp q 0) {x j n9 : Nat} (hl : rx_ml (rx_cn i) x = some (12, j, n9)) (ht : rx_tb i pc = some (.invokestatic x)) (h : ax_acS W.1 sp mx ih E K d fr i pc ls st = true) (S : ax_St W sp rf v E K M a fr) : ax_C X P v d fr i (pc, ax_ls v ls, st.map (ax_v v), a, M) := by
  have hs := ax_stp_eq (X := X) (v := v) (ls := ls) (st := st) (a := a) (M := M) ht
  obtain ⟨s1, s2, s3, s4, s5, s6, s7⟩ := S
  unfold ax_acS at h
  split at h
  · rename_i m dp e s q r
    split at h
    · rename_i u0 n0 hq
      split at h
      · rename_i u1 n1 he
        split at h
        · rename_i bs c0 hbq
          split at h
          · rename_i bd c hbe
            replace h := sx_cT (by intro q; cases q) h
            obtain ⟨hc, h⟩ := h
            simp only [Bool.and_eq_true] at hc
            obtain ⟨c1, c2, c3, c4, c5, c6, c7, c8⟩ := hc
            have e0 := Nat.eq_of_beq_eq_true c1
            have e1 := Nat.eq_of_beq_eq_true c2
            subst e0
            subst e1
            obtain ⟨q1, q2⟩ := ax_ary_ok s2 hm hq
            obtain ⟨g1, g2⟩ := ax_ary_ok s2 hm he
            obtain ⟨t1, t2, t3, t4, t5⟩ := ax_pt_ok s2 c3
            obtain ⟨w1, -, w3, -, w5⟩ := ax_pt_ok s2 c4
            obtain ⟨b1, -, -⟩ := ax_rb_ok s2 hm hsa hq hbq
            obtain ⟨b2, b3, b4⟩ := ax_rb_ok s2 hm hsa he hbe
            have g : rx_ins X i (.invokestatic x) pc (ax_ls v ls) ((m :: dp :: e :: s :: q :: r).map (ax_v v)) a M = rx_nx (pc + 3) (ax_ls v ls) (r.map (ax_v v)) a (rx_cp M.1 (ax_cell v q) (ax_vi v s).toNatClampNeg (ax_cell v e) (ax_vi v dp).toNatClampNeg (ax_vi v m).toNatClampNeg, M.2.1, M.2.2) := by
              show rx_inv 1 (rx_cn i) x pc (ax_ls v ls) (ax_v v m :: ax_v v dp :: ax_v v e :: ax_v v s :: ax_v v q :: r.map (ax_v v)) a M = _
              rw [t2, w1, g1, t1, q1]
              unfold rx_inv
              rw [hl]
              show (match rx_lay (ax_cell v q), rx_lay (ax_cell v e) with
                | some (.inr (0, n0)), some (.inr (0, n1)) => if ax_cell v q < a.1 ∧ ax_cell v e < a.1 ∧ ¬ ax_vi v s < 0 ∧ ¬ ax_vi v dp < 0 ∧ ¬ ax_vi v m < 0 ∧ (ax_vi v s).toNatClampNeg + (ax_vi v m).toNatClampNeg ≤ n0 ∧ (ax_vi v dp).toNatClampNeg + (ax_vi v m).toNatClampNeg ≤ n1 then cond (rx_c8 (r.map (ax_v v))) (rx_nx (pc + 3) (ax_ls v ls) (r.map (ax_v v)) a (rx_cp M.1 (ax_cell v q) (ax_vi v s).toNatClampNeg (ax_cell v e) (ax_vi v dp).toNatClampNeg (ax_vi v m).toNatClampNeg, M.2.1, M.2.2)) none else none
                | _, _ => none) = _
              rw [q2, g2]
              show (if ax_cell v q < a.1 ∧ ax_cell v e < a.1 ∧ ¬ ax_vi v s < 0 ∧ ¬ ax_vi v dp < 0 ∧ ¬ ax_vi v m < 0 ∧ (ax_vi v s).toNatClampNeg + (ax_vi v m).toNatClampNeg ≤ n0 ∧ (ax_vi v dp).toNatClampNeg + (ax_vi v m).toNatClampNeg ≤ n1 then cond (rx_c8 (r.map (ax_v v))) (rx_nx (pc + 3) (ax_ls v ls) (r.map (ax_v v)) a (rx_cp M.1 (ax_cell v q) (ax_vi v s).toNatClampNeg (ax_cell v e) (ax_vi v dp).toNatClampNeg (ax_vi v m).toNatClampNeg, M.2.1, M.2.2)) none else none) = _
              rw [if_pos ⟨by rw [s6]; exact ax_lay_lt q2, by rw [s6]; exact ax_lay_lt g2, t3, w3, t4, t5, w5⟩, ax_c8_map, c5]
              rfl
            exact ax_C_step (hs.trans g) (H _ _ d fr i (pc + 3) ls r h v _ a ⟨s1, s2, ax_dropR_kw s3, ax_J_cp s4 (ax_wrg_ok c8 b3 b4) b1 b2 ⟨of_decide_eq_true c6, of_decide_eq_true c7⟩, ax_dropR_cp s5 b3 b4, s6, s7⟩)
          · cases h
        · cases h
      · cases h
    · cases h
  · cases h
end AXO
