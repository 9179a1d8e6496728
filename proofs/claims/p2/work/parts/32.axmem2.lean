/-! the core: reading and writing -/
section AXM
variable {X : Nat × (Nat → Int32)} {P : Option Value → rx_M → Prop} {W : ax_W} {sp : Nat → Nat → Int × Int} {rf : Nat → Nat → Option Nat} {mx : ax_X} {ih : ax_S} {v : ax_V} {E : ax_E} {K : ax_K} {M : rx_M} {a : rx_K} {d i pc : Nat} {fr : ax_F} {ls : List (Option Value)} {st : List Value}
theorem ax_stp_eq {ins : Instr} (ht : rx_tb i pc = some ins) : rx_stp X i (pc, ax_ls v ls, st.map (ax_v v), a, M) = rx_ins X i ins pc (ax_ls v ls) (st.map (ax_v v)) a M := by
  unfold rx_stp
  show (match rx_tb i pc with
    | none => none
    | some ins => rx_ins X i ins pc (ax_ls v ls) (st.map (ax_v v)) a M) = _
  rw [ht]
/-- a field's place -/
noncomputable def ax_fx (k : Nat) : Value := .int (Int32.ofNat k)
noncomputable def ax_gfS (sp : Nat → Nat → Int × Int) (rf : Nat → Nat → Option Nat) (ih : ax_S) (E : ax_E) (K : ax_K) (d : Nat) (fr : ax_F) (i x pc : Nat) (ls : List (Option Value)) (st : List Value) : Bool := match st with
  | .ref q :: r => (match rx_fl (rx_cn i) x with
    | some (ci, k, t, _) => cond (decide (rx_lay q = some (.inl ci))) (cond (Nat.beq t 2) (match rf q k with
      | some z => ih E K d fr i (pc + 3) ls (.ref z :: r)
      | none => false) (cond (Nat.beq (Int32.ofNat k).toNatClampNeg k) (match ax_find q (ax_fx k) K with
      | some w => ih E K d fr i (pc + 3) ls (w :: r)
      | none => ax_psh ih E K d fr i (pc + 3) ls r (sp q k, none, none) (some (q, ax_fx k))) false)) false
    | none => false)
  | _ => false
theorem ax_gfS_ok (H : ax_H X P W sp rf ih) {x : Nat} (ht : rx_tb i pc = some (.getfield x)) (h : ax_gfS sp rf ih E K d fr i x pc ls st = true) (S : ax_St W sp rf v E K M a fr) : ax_C X P v d fr i (pc, ax_ls v ls, st.map (ax_v v), a, M) := by
  have hs := ax_stp_eq (X := X) (v := v) (ls := ls) (st := st) (a := a) (M := M) ht
  have S0 := S
  obtain ⟨s1, s2, s3, s4, s5, s6, s7⟩ := S
  unfold ax_gfS at h
  split at h
  · rename_i q r
    split at h
    · rename_i ci k t fin hf
      replace h := sx_cT (by intro q; cases q) h
      obtain ⟨hl, h⟩ := h
      have hl := of_decide_eq_true hl
      cases h2 : Nat.beq t 2 with
      | true =>
        have et := Nat.eq_of_beq_eq_true h2
        rw [h2] at h
        replace h : (match rf q k with
          | some z => ih E K d fr i (pc + 3) ls (.ref z :: r)
          | none => false) = true := h
        subst et
        split at h
        · rename_i z hz
          refine ax_C_step (hs.trans ?_) (H _ _ d fr i (pc + 3) ls (.ref z :: r) h v M a S0)
          show rx_gf (rx_cn i) x pc (ax_ls v ls) (.ref q :: r.map (ax_v v)) a M = _
          rw [ax_gf2_ok s6 hf hl, s4.2.1 q k z hz]
          rfl
        · cases h
      | false =>
        rw [h2] at h
        have ht2 : t ≠ 2 := fun z => by rw [z] at h2; cases h2
        replace h := sx_cT (b := Nat.beq (Int32.ofNat k).toNatClampNeg k) (by intro q; cases q) h
        obtain ⟨hk, h⟩ := h
        have ek := Nat.eq_of_beq_eq_true hk
        have e9 : (ax_vi v (ax_fx k)).toNatClampNeg = k := ek
        have g : rx_ins X i (.getfield x) pc (ax_ls v ls) ((Value.ref q :: r).map (ax_v v)) a M = rx_nx (pc + 3) (ax_ls v ls) (.int (M.1 q k) :: r.map (ax_v v)) a M := ax_gf_ok s6 hf hl ht2
        split at h
        · rename_i w hw
          obtain ⟨f1, f2⟩ := ax_find_ok K s5 hw
          rw [e9] at f1
          refine ax_C_step (hs.trans g) ?_
          have k9 := H _ _ d fr i (pc + 3) ls (w :: r) h v M a S0
          rw [List.map_cons, ax_vI f2, ← f1] at k9
          exact k9
        · refine ax_C_step (hs.trans g) (ax_psh_ok H h S0 ⟨s4.1 q k, (fun b o hb => by cases hb), fun p q hb => by cases hb⟩ (fun q' j hq => ?_))
          cases hq
          exact ⟨by rw [e9], rfl⟩
    · cases h
  · cases h
/-- a value's bounds are within others -/
noncomputable def ax_wi (E : ax_E) (w : Value) (b : Int × Int) : Bool := sx_isI w && (ax_sc E.1 w && (decide (b.1 ≤ (ax_iv E w).1) && decide ((ax_ivh E w).2 ≤ b.2)))
theorem ax_wi_ok (hE : ax_ok v E) {w : Value} {b : Int × Int} (h : ax_wi E w b = true) : sx_isI w = true ∧ ax_sc E.1 w = true ∧ b.1 ≤ (ax_vi v w).toInt ∧ (ax_vi v w).toInt ≤ b.2 := by
  unfold ax_wi at h
  simp only [Bool.and_eq_true] at h
  have h1 := ax_iv_ok hE h.1
  have h2 := ax_ivh_ok hE h.1
  have h3 := of_decide_eq_true h.2.2.1
  have h4 := of_decide_eq_true h.2.2.2
  exact ⟨h.1, h.2.1, by omega, by omega⟩
theorem ax_01 {z : Int32} (h : 0 ≤ z.toInt ∧ z.toInt ≤ 1) : z = 0 ∨ z = 1 := by
  have h1 : z.toInt = 0 ∨ z.toInt = 1 := by omega
  rcases h1 with q | q
  · exact Or.inl (Int32.toInt_inj.mp q)
  · exact Or.inr (Int32.toInt_inj.mp q)
theorem ax_drop_kw {n q : Nat} {j w : Value} (h : ax_kw n K) (hj : ax_sc n j = true) (hw : ax_sc n w = true) : ax_kw n ((q, j, w) :: ax_drop q j K) := fun e he => by
  rcases List.mem_cons.mp he with z | z
  · rw [z]
    exact ⟨hj, hw⟩
  · exact h e (List.mem_filter.mp z).1
noncomputable def ax_pfS (wd : ax_D) (sp : Nat → Nat → Int × Int) (ih : ax_S) (E : ax_E) (K : ax_K) (d : Nat) (fr : ax_F) (i x pc : Nat) (ls : List (Option Value)) (st : List Value) : Bool := match st with
  | w :: .ref q :: r => (match rx_fl (rx_cn i) x with
    | some (ci, k, t, fin) => cond ((wd.1 q k && decide (rx_lay q = some (.inl ci))) && (!fin && (Nat.beq (Int32.ofNat k).toNatClampNeg k && (ax_wi E w (sp q k) && (Nat.beq t 0 || (Nat.beq t 1 && ax_wi E w (0, 1))))))) (ih E ((q, ax_fx k, w) :: ax_drop q (ax_fx k) K) d fr i (pc + 3) ls r) false
    | none => false)
  | _ => false
theorem ax_pfS_ok (H : ax_H X P W sp rf ih) {x : Nat} (ht : rx_tb i pc = some (.putfield x)) (h : ax_pfS W.1 sp ih E K d fr i x pc ls st = true) (S : ax_St W sp rf v E K M a fr) : ax_C X P v d fr i (pc, ax_ls v ls, st.map (ax_v v), a, M) := by
  have hs := ax_stp_eq (X := X) (v := v) (ls := ls) (st := st) (a := a) (M := M) ht
  obtain ⟨s1, s2, s3, s4, s5, s6, s7⟩ := S
  unfold ax_pfS at h
  split at h
  · rename_i w q r
    split at h
    · rename_i ci k t fin hf
      replace h := sx_cT (by intro q; cases q) h
      obtain ⟨hc, h⟩ := h
      simp only [Bool.and_eq_true, Bool.or_eq_true, Bool.not_eq_true'] at hc
      obtain ⟨⟨c0, c1⟩, c2, c3, c4, c5⟩ := hc
      have hl := of_decide_eq_true c1
      subst c2
      have e9 : (ax_vi v (ax_fx k)).toNatClampNeg = k := Nat.eq_of_beq_eq_true c3
      obtain ⟨w1, w2, w3⟩ := ax_wi_ok s2 c4
      have t9 : t = 0 ∨ t = 1 ∧ (ax_vi v w = 0 ∨ ax_vi v w = 1) := by
        rcases c5 with q | q
        · exact Or.inl (Nat.eq_of_beq_eq_true q)
        · exact Or.inr ⟨Nat.eq_of_beq_eq_true q.1, ax_01 (ax_wi_ok s2 q.2).2.2⟩
      have g : rx_ins X i (.putfield x) pc (ax_ls v ls) ((w :: Value.ref q :: r).map (ax_v v)) a M = rx_nx (pc + 3) (ax_ls v ls) (r.map (ax_v v)) a (rx_up M.1 q k (ax_vi v w), M.2.1, M.2.2) := by
        rw [List.map_cons, ax_vI w1]
        exact ax_pf_ok s6 hf hl t9
      have kn := ax_drop_ok (q := q) (j := ax_fx k) (w := w) s5 rfl w1 rfl
      rw [e9] at kn
      exact ax_C_step (hs.trans g) (H _ _ d fr i (pc + 3) ls r h v _ a ⟨s1, s2, ax_drop_kw s3 rfl w2, ax_J_up s4 (Or.inl c0) w3, kn, s6, s7⟩)
    · cases h
  · cases h
/-- an index, a literal where it is one -/
noncomputable def ax_cx (E : ax_E) (y : Value) : Value := match ax_lit E y with
  | some x => .int x
  | none => y
theorem ax_cx_ok (hE : ax_ok v E) {y : Value} (hy : sx_isI y = true) : ax_vi v (ax_cx E y) = ax_vi v y ∧ sx_isI (ax_cx E y) = true := by
  unfold ax_cx
  split
  · rename_i x hx
    exact ⟨(ax_vi_lit hE hx hy).symm, rfl⟩
  · exact ⟨rfl, hy⟩
noncomputable def ax_alS (sp : Nat → Nat → Int × Int) (mx : ax_X) (ih : ax_S) (E : ax_E) (K : ax_K) (d : Nat) (fr : ax_F) (i t pc : Nat) (ls : List (Option Value)) (st : List Value) : Bool := match st with
  | y :: w :: r => (match ax_ary mx E w with
    | some (u, n) => cond (Nat.beq u t && ax_in E y n) (match w with
      | .ref q => (match ax_find q (ax_cx E y) K with
        | some z => ih E K d fr i (pc + 1) ls (z :: r)
        | none => ax_psh ih E K d fr i (pc + 1) ls r (sp q 0, none, none) (some (q, ax_cx E y)))
      | .float b => (match ax_mxf (ax_b E b.toNat).1 (ax_ivh E (.retAddr b.toNat)).2 mx with
        | some (_, bd) => ax_psh ih E K d fr i (pc + 1) ls r (bd, none, none) none
        | none => false)
      | _ => false) false
    | none => false)
  | _ => false
theorem ax_alS_ok (H : ax_H X P W sp rf ih) (hm : ax_mxok sp mx) (hsa : ∀ q u n, rx_lay q = some (.inr (u, n)) → ∀ j, sp q j = sp q 0) {ins : Instr} {t : Nat} (ht : rx_tb i pc = some ins) (hi : (ins = .iaload ∧ t = 0) ∨ (ins = .baload ∧ t = 1)) (h : ax_alS sp mx ih E K d fr i t pc ls st = true) (S : ax_St W sp rf v E K M a fr) : ax_C X P v d fr i (pc, ax_ls v ls, st.map (ax_v v), a, M) := by
  have hs := ax_stp_eq (X := X) (v := v) (ls := ls) (st := st) (a := a) (M := M) ht
  have S0 := S
  obtain ⟨s1, s2, s3, s4, s5, s6, s7⟩ := S
  have ht9 : t ≠ 2 ∧ t ≠ 3 := by rcases hi with ⟨-, rfl⟩ | ⟨-, rfl⟩ <;> decide
  unfold ax_alS at h
  split at h
  · rename_i y w r
    split at h
    · rename_i u n hw
      replace h := sx_cT (by intro q; cases q) h
      obtain ⟨hc, h⟩ := h
      rw [Bool.and_eq_true] at hc
      have hu := Nat.eq_of_beq_eq_true hc.1
      subst hu
      have hyI : sx_isI y = true := by
        have h9 := hc.2
        unfold ax_in at h9
        rw [Bool.and_eq_true] at h9
        exact h9.1
      obtain ⟨x1, x2⟩ := ax_cx_ok s2 hyI
      have g : rx_ins X i ins pc (ax_ls v ls) ((y :: w :: r).map (ax_v v)) a M = rx_nx (pc + 1) (ax_ls v ls) (.int (M.1 (ax_cell v w) (ax_vi v y).toNatClampNeg) :: r.map (ax_v v)) a M := by
        rcases hi with ⟨rfl, rfl⟩ | ⟨rfl, rfl⟩
        · exact ax_al_ok s6 s2 hm ht9 hw hc.2
        · exact ax_al_ok s6 s2 hm ht9 hw hc.2
      have hlay := (ax_ary_ok s2 hm hw).2
      split at h
      · rename_i q
        have ec : ax_cell v (.ref q) = q := rfl
        rw [ec] at g hlay
        split at h
        · rename_i z hz
          obtain ⟨f1, f2⟩ := ax_find_ok K s5 hz
          rw [x1] at f1
          refine ax_C_step (hs.trans g) ?_
          have k9 := H _ _ d fr i (pc + 1) ls (z :: r) h v M a S0
          rw [List.map_cons, ax_vI f2, ← f1] at k9
          exact k9
        · refine ax_C_step (hs.trans g) (ax_psh_ok H h S0 ⟨by
            have h9 := s4.1 q (ax_vi v y).toNatClampNeg
            rw [hsa q _ _ hlay] at h9
            exact h9, (fun b o hb => by cases hb), fun p q hb => by cases hb⟩ (fun q' j hq => ?_))
          cases hq
          exact ⟨by rw [x1], x2⟩
      · rename_i b
        split at h
        · rename_i n' bd hf
          have h0 := hw
          unfold ax_ary at h0
          dsimp only at h0
          rw [hf] at h0
          dsimp only at h0
          obtain ⟨h1, -⟩ := sx_cT (by intro q; cases q) h0
          have h1 := of_decide_eq_true h1
          have h2 := s2.1 b.toNat
          have h3 := (ax_ivh_ok s2 (w := .retAddr b.toNat) rfl).2
          have h4 := ax_clamp (x := (v b.toNat).1) (by omega)
          have h5 := (ax_mxf_ok mx hm hf (ax_cell v (.float b)) (by show _ ≤ (((v b.toNat).1.toNatClampNeg : Nat) : Int); omega) (by show (((v b.toNat).1.toNatClampNeg : Nat) : Int) ≤ _; rw [h4]; exact h3)).2
          refine ax_C_step (hs.trans g) (ax_psh_ok H h S0 ⟨by
            have h9 := s4.1 (ax_cell v (.float b)) (ax_vi v y).toNatClampNeg
            rw [h5] at h9
            exact h9, (fun b o hb => by cases hb), fun p q hb => by cases hb⟩ (fun q' j hq => by cases hq))
        · cases h
      · cases h
    · cases h
  · cases h
end AXM
