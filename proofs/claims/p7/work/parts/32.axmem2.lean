/-! the core: reading and writing -/
section AXM
variable {X : Nat × (Nat → Int32)} {P : Option Value → rx_M → Prop} {W : ax_W} {sp : Nat → Nat → Int × Int} {rf : Nat → Nat → Option Nat} {mx : ax_X} {ih : ax_S} {v : ax_V} {E : ax_E} {K : ax_K} {M : rx_M} {a : rx_K} {d i pc : Nat} {fr : ax_F} {ls : List (Option Value)} {st : List Value}
theorem ax_stp_eq {ins : Instr} (ht : rx_tb i pc = some ins) : rx_stp X i (pc, ax_ls v ls, st.map (ax_v v), a, M) = rx_ins X i ins pc (ax_ls v ls) (st.map (ax_v v)) a M := by
  unfold rx_stp
  show (match rx_tb i pc with
    | none => none
    | some ins => rx_ins X i ins pc (ax_ls v ls) (st.map (ax_v v)) a M) = _
  rw [ht]
noncomputable def ax_gfS (sp : Nat → Nat → Int × Int) (rf : Nat → Nat → Option Nat) (ih : ax_S) (E : ax_E) (K : ax_K) (d : Nat) (fr : ax_F) (i x pc : Nat) (ls : List (Option Value)) (st : List Value) : Bool := match st with
  | .ref q :: r => (match rx_fl (rx_cn i) x with
    | some (ci, k, t, _) => cond (decide (rx_lay q = some (.inl ci)) && Nat.beq (Int32.ofNat k).toNatClampNeg k) (cond (Nat.beq t 2) (match rf q k with
      | some z => ih E K d fr i (pc + 3) ls (.ref z :: r)
      | none => (match ax_find q (ax_fx k) K with
        | some w => cond (ax_rfv w) (ih E K d fr i (pc + 3) ls (w :: r)) false
        | none => false)) (match ax_fi q (ax_fx k) K with
      | some w => ih E K d fr i (pc + 3) ls (w :: r)
      | none => ax_psh ih E K d fr i (pc + 3) ls r (sp q k, none, none) (some (q, ax_fx k)))) false
    | none => false)
  | _ => false
theorem ax_v_rf {w : Value} (h : ax_rfv w = true) : ax_v v w = .ref (ax_cell v w) := by
  cases w <;> first | rfl | (cases h; done)
theorem ax_gfS_ok (H : ax_H X P W sp rf ih) {x : Nat} (ht : rx_tb i pc = some (.getfield x)) (h : ax_gfS sp rf ih E K d fr i x pc ls st = true) (S : ax_St W sp rf v E K M a fr) : ax_C X P v d fr i (pc, ax_ls v ls, st.map (ax_v v), a, M) := by
  have hs := ax_stp_eq (X := X) (v := v) (ls := ls) (st := st) (a := a) (M := M) ht
  have S0 := S
  obtain ⟨s1, s2, s3, s4, s5, s6, s7⟩ := S
  unfold ax_gfS at h
  split at h
  · rename_i q r
    split at h
    · rename_i ci k t fin hf
      replace h := sx_cT (by intro q; cases q) h
      obtain ⟨hl, h⟩ := h
      rw [Bool.and_eq_true] at hl
      have ek := Nat.eq_of_beq_eq_true hl.2
      have hl := of_decide_eq_true hl.1
      have e9 : (ax_vi v (ax_fx k)).toNatClampNeg = k := ek
      cases h2 : Nat.beq t 2 with
      | true =>
        have et := Nat.eq_of_beq_eq_true h2
        rw [h2, Bool.cond_true] at h
        subst et
        split at h
        · rename_i z hz
          refine ax_C_step (hs.trans ?_) (H _ _ d fr i (pc + 3) ls (.ref z :: r) h v M a S0)
          show rx_gf (rx_cn i) x pc (ax_ls v ls) (.ref q :: r.map (ax_v v)) a M = _
          rw [ax_gf2_ok s6.1 hf hl, s4.2.1 q k z hz]
          rfl
        · split at h
          · rename_i w hw
            replace h := sx_cT (by intro q; cases q) h
            obtain ⟨hr, h⟩ := h
            have f1 := ax_k1_r (ax_find_ok K s5 hw) hr
            rw [e9] at f1
            refine ax_C_step (hs.trans ?_) (H _ _ d fr i (pc + 3) ls (w :: r) h v M a S0)
            show rx_gf (rx_cn i) x pc (ax_ls v ls) (.ref q :: r.map (ax_v v)) a M = _
            rw [ax_gf2_ok s6.1 hf hl, f1, List.map_cons, ax_v_rf hr]
            rfl
          · cases h
      | false =>
        rw [h2, Bool.cond_false] at h
        have ht2 : t ≠ 2 := fun z => by rw [z] at h2; cases h2
        have g : rx_ins X i (.getfield x) pc (ax_ls v ls) ((Value.ref q :: r).map (ax_v v)) a M = rx_nx (pc + 3) (ax_ls v ls) (.int (M.1 q k) :: r.map (ax_v v)) a M := ax_gf_ok s6.1 hf hl ht2
        split at h
        · rename_i w hw
          obtain ⟨f2, f1⟩ := ax_fi_ok s5 hw
          rw [e9] at f1
          refine ax_C_step (hs.trans g) ?_
          have k9 := H _ _ d fr i (pc + 3) ls (w :: r) h v M a S0
          rw [List.map_cons, ax_vI f2, ← f1] at k9
          exact k9
        · refine ax_C_step (hs.trans g) (ax_psh_ok H h S0 ⟨s4.1 q k, (fun b o hb => by cases hb), fun p q hb => by cases hb⟩ (fun q' j hq => ?_))
          cases hq
          exact ⟨by rw [e9], rfl⟩
    · cases h
  · cases h
/-- a value's bounds are within others -/
noncomputable def ax_wi (E : ax_E) (w : Value) (b : Int × Int) : Bool := sx_isI w && (ax_sc E.1 w && (decide (b.1 ≤ (ax_iv E w).1) && decide ((ax_ivh E w).2 ≤ b.2)))
theorem ax_wi_ok (hE : ax_ok v E) {w : Value} {b : Int × Int} (h : ax_wi E w b = true) : sx_isI w = true ∧ ax_sc E.1 w = true ∧ b.1 ≤ (ax_vi v w).toInt ∧ (ax_vi v w).toInt ≤ b.2 := by
  unfold ax_wi at h
  simp only [Bool.and_eq_true] at h
  have h1 := ax_iv_ok hE h.1
  have h2 := ax_ivh_ok hE h.1
  have h3 := of_decide_eq_true h.2.2.1
  have h4 := of_decide_eq_true h.2.2.2
  exact ⟨h.1, h.2.1, by omega, by omega⟩
theorem ax_01 {z : Int32} (h : 0 ≤ z.toInt ∧ z.toInt ≤ 1) : z = 0 ∨ z = 1 := by
  have h1 : z.toInt = 0 ∨ z.toInt = 1 := by omega
  rcases h1 with q | q
  · exact Or.inl (Int32.toInt_inj.mp q)
  · exact Or.inr (Int32.toInt_inj.mp q)
theorem ax_drop_kw {n q : Nat} {j w : Value} (h : ax_kw n K) (hj : ax_sc n j = true) (hw : ax_sc n w = true) : ax_kw n ((q, j, w) :: ax_drop q j K) := fun e he => by
  rcases List.mem_cons.mp he with z | z
  · rw [z]
    exact ⟨hj, hw⟩
  · exact h e (List.mem_filter.mp z).1
noncomputable def ax_pfS (wd : ax_D) (sp : Nat → Nat → Int × Int) (rf : Nat → Nat → Option Nat) (mx : ax_X) (ih : ax_S) (E : ax_E) (K : ax_K) (d : Nat) (fr : ax_F) (i x pc : Nat) (ls : List (Option Value)) (st : List Value) : Bool := match st with
  | w :: .ref q :: r => (match rx_fl (rx_cn i) x with
    | some (ci, k, t, fin) => cond ((ax_wsl wd q k && decide (rx_lay q = some (.inl ci))) && (!fin && Nat.beq (Int32.ofNat k).toNatClampNeg k)) (cond (Nat.beq t 2)
      (cond (decide (rf q k = none) && (ax_sc E.1 w && (ax_ary mx E w).isSome)) (ih E ((q, ax_fx k, w) :: ax_drop q (ax_fx k) K) d fr i (pc + 3) ls r) false)
      (cond (ax_wi E w (sp q k) && ((Nat.beq t 0 || (Nat.beq t 1 && ax_wi E w (0, 1))) && ax_gp E K q k w)) (ih E ((q, ax_fx k, w) :: ax_drop q (ax_fx k) K) d fr i (pc + 3) ls r) false)) false
    | none => false)
  | _ => false
theorem ax_ary_rfv {w : Value} (h : (ax_ary mx E w).isSome = true) : ax_rfv w = true := by
  cases w <;> first | rfl | (cases h; done)
theorem ax_pfS_ok (H : ax_H X P W sp rf ih) (hm : ax_mxok sp mx) {x : Nat} (ht : rx_tb i pc = some (.putfield x)) (h : ax_pfS W.1 sp rf mx ih E K d fr i x pc ls st = true) (S : ax_St W sp rf v E K M a fr) : ax_C X P v d fr i (pc, ax_ls v ls, st.map (ax_v v), a, M) := by
  have hs := ax_stp_eq (X := X) (v := v) (ls := ls) (st := st) (a := a) (M := M) ht
  obtain ⟨s1, s2, s3, s4, s5, s6, s7⟩ := S
  unfold ax_pfS at h
  split at h
  · rename_i w q r
    split at h
    · rename_i ci k t fin hf
      replace h := sx_cT (by intro q; cases q) h
      obtain ⟨hc, h⟩ := h
      simp only [Bool.and_eq_true, Bool.not_eq_true'] at hc
      obtain ⟨⟨c0, c1⟩, c2, c3⟩ := hc
      have hl := of_decide_eq_true c1
      subst c2
      have e9 : (ax_vi v (ax_fx k)).toNatClampNeg = k := Nat.eq_of_beq_eq_true c3
      cases h2 : Nat.beq t 2 with
      | true =>
        have et := Nat.eq_of_beq_eq_true h2
        rw [h2, Bool.cond_true] at h
        subst et
        replace h := sx_cT (by intro q; cases q) h
        obtain ⟨hc, h⟩ := h
        simp only [Bool.and_eq_true] at hc
        obtain ⟨d1, d2, d3⟩ := hc
        have hrf := of_decide_eq_true d1
        have hr := ax_ary_rfv d3
        obtain ⟨z, hz⟩ := Option.isSome_iff_exists.mp d3
        obtain ⟨u, n⟩ := z
        have hlay := (ax_ary_ok (v := v) s2 hm hz).2
        have hlt := ax_lay_lt hlay
        have hlt2 := ax_lay_lt hl
        have g : rx_ins X i (.putfield x) pc (ax_ls v ls) ((w :: Value.ref q :: r).map (ax_v v)) a M = rx_nx (pc + 3) (ax_ls v ls) (r.map (ax_v v)) a (M.1, rx_up M.2.1 q k (some (ax_cell v w)), M.2.2) := by
          rw [List.map_cons, ax_v_rf hr]
          show rx_pf (rx_ini i) (rx_cn i) x pc (ax_ls v ls) (.ref (ax_cell v w) :: .ref q :: r.map (ax_v v)) a M = _
          unfold rx_pf
          dsimp only
          rw [hf]
          dsimp only
          rw [hl]
          dsimp only
          rw [if_pos (by rw [s6.1]; exact hlt2), if_pos rfl, if_neg (fun h => by cases h.1)]
          exact if_pos (by rw [s6.1]; exact hlt)
        have kn := ax_dropr_ok (q := q) (j := ax_fx k) (w := w) s5 rfl hr rfl
        rw [e9] at kn
        exact ax_C_step (hs.trans g) (H _ _ d fr i (pc + 3) ls r h v _ a ⟨s1, s2, ax_drop_kw s3 rfl d2, ax_J_upr s4 (Or.inl c0) hrf, kn, s6, s7⟩)
      | false =>
        rw [h2, Bool.cond_false] at h
        replace h := sx_cT (by intro q; cases q) h
        obtain ⟨hc, h⟩ := h
        simp only [Bool.and_eq_true, Bool.or_eq_true] at hc
        obtain ⟨c4, c5, c6⟩ := hc
        obtain ⟨w1, w2, w3⟩ := ax_wi_ok s2 c4
        have t9 : t = 0 ∨ t = 1 ∧ (ax_vi v w = 0 ∨ ax_vi v w = 1) := by
          rcases c5 with q | q
          · exact Or.inl (Nat.eq_of_beq_eq_true q)
          · exact Or.inr ⟨Nat.eq_of_beq_eq_true q.1, ax_01 (ax_wi_ok s2 q.2).2.2⟩
        have g : rx_ins X i (.putfield x) pc (ax_ls v ls) ((w :: Value.ref q :: r).map (ax_v v)) a M = rx_nx (pc + 3) (ax_ls v ls) (r.map (ax_v v)) a (rx_up M.1 q k (ax_vi v w), M.2.1, M.2.2) := by
          rw [List.map_cons, ax_vI w1]
          exact ax_pf_ok s6.1 hf hl t9
        have kn := ax_drop_ok (q := q) (j := ax_fx k) (w := w) s5 rfl w1 rfl
        rw [e9] at kn
        exact ax_C_step (hs.trans g) (H _ _ d fr i (pc + 3) ls r h v _ a ⟨s1, s2, ax_drop_kw s3 rfl w2, ax_J_up s4 (Or.inl c0) (ax_gp_ok s2 s5 s4.2.2.2 c6) w3, kn, s6, s7⟩)
    · cases h
  · cases h
/-- an element of an entry's row of which a guard tells -/
noncomputable def ax_rowg (E : ax_E) (K : ax_K) (b : Nat) (y : Value) : Bool := Nat.blt (ax_base E b).1 b && (decide ((ax_base E b).2 = 24) && ((match ax_fi 17 (ax_cx E (.retAddr (ax_base E b).1)) K with
  | some z => decide ((ax_iv E z).1 = 5) && decide ((ax_iv E z).2 = 5)
  | none => false) && ((match ax_fi 174 (ax_cx E (.retAddr (ax_base E b).1)) K with
  | some n => ax_leq E y n 1
  | none => false) && ((match ax_fi 14 (ax_fx 16) K with
  | some s => ax_leq E (.retAddr (ax_base E b).1) s 1
  | none => false) && (decide (24 ≤ (ax_b E b).1) && (decide ((ax_ivh E (.retAddr b)).2 ≤ 173) && decide (0 ≤ (ax_iv E y).1)))))))
theorem ax_rowg_ok (hE : ax_ok v E) (hK : ax_kn v K M) (hG : ax_GG M.1) {b : Nat} {y : Value} (h : ax_rowg E K b y = true) : 0 ≤ (M.1 (v b).1.toNatClampNeg (ax_vi v y).toNatClampNeg).toInt ∧ (M.1 (v b).1.toNatClampNeg (ax_vi v y).toNatClampNeg).toInt ≤ 11 := by
  unfold ax_rowg at h
  simp only [Bool.and_eq_true] at h
  obtain ⟨-, c2, c3, c4, c5, c6, c7, c8⟩ := h
  have c2 := of_decide_eq_true c2
  have c6 := of_decide_eq_true c6
  have c7 := of_decide_eq_true c7
  have c8 := of_decide_eq_true c8
  have hb := ax_base_ok hE b
  have b1 := hE.1 b
  have b2 := (ax_ivh_ok hE (w := .retAddr b) rfl).2
  have b2 : (v b).1.toInt ≤ (ax_ivh E (.retAddr b)).2 := b2
  rw [c2] at hb
  obtain ⟨x1, x2⟩ := ax_cx_ok hE (y := .retAddr (ax_base E b).1) rfl
  have x1 : ax_vi v (ax_cx E (.retAddr (ax_base E b).1)) = (v (ax_base E b).1).1 := x1
  have e0 : (((v (ax_base E b).1).1.toNatClampNeg : Nat) : Int) = max 0 (v (ax_base E b).1).1.toInt := by
    show (((v (ax_base E b).1).1.toInt.toNat : Nat) : Int) = _
    omega
  have e1 : (((v b).1.toNatClampNeg : Nat) : Int) = max 0 (v b).1.toInt := by
    show (((v b).1.toInt.toNat : Nat) : Int) = _
    omega
  have ec : (v b).1.toNatClampNeg = 24 + (v (ax_base E b).1).1.toNatClampNeg := by omega
  split at c3
  · rename_i z hz
    obtain ⟨z1, z2⟩ := ax_fi_ok hK hz
    have i1 := ax_iv_ok hE z1
    rw [Bool.and_eq_true, decide_eq_true_eq, decide_eq_true_eq] at c3
    rw [x1] at z2
    split at c4
    · rename_i n hn
      obtain ⟨n1, n2⟩ := ax_fi_ok hK hn
      rw [x1] at n2
      obtain ⟨y1, -, y2⟩ := ax_leq_ok hE c4
      split at c5
      · rename_i s hs
        obtain ⟨t1, t2⟩ := ax_fi_ok hK hs
        have t2 : M.1 14 16 = ax_vi v s := t2
        obtain ⟨-, -, y3⟩ := ax_leq_ok hE c5
        have y3 : (v (ax_base E b).1).1.toInt + 1 ≤ (ax_vi v s).toInt := y3
        have i3 := ax_iv_ok hE y1
        have e3 := ax_clamp (x := ax_vi v y) (by omega)
        rw [ec]
        exact hG.2.1 _ (by omega) (by rw [t2]; omega) (by rw [z2]; omega) _ (by rw [n2]; omega)
      · cases c5
    · cases c4
  · cases c3
noncomputable def ax_alS (sp : Nat → Nat → Int × Int) (mx : ax_X) (ih : ax_S) (E : ax_E) (K : ax_K) (d : Nat) (fr : ax_F) (i t pc : Nat) (ls : List (Option Value)) (st : List Value) : Bool := match st with
  | y :: w :: r => (match ax_ary mx E w with
    | some (u, n) => cond (Nat.beq u t && ax_in E y n) (match w with
      | .ref q => (match ax_fi q (ax_cx E y) K with
        | some z => ih E K d fr i (pc + 1) ls (z :: r)
        | none => ax_psh ih E K d fr i (pc + 1) ls r (sp q 0, none, none) (some (q, ax_cx E y)))
      | .float b => (match ax_mxf (ax_b E b.toNat).1 (ax_ivh E (.retAddr b.toNat)).2 mx with
        | some (_, bd) => ax_psh ih E K d fr i (pc + 1) ls r (cond (ax_rowg E K b.toNat y) (0, 11) bd, none, none) none
        | none => false)
      | _ => false) false
    | none => false)
  | _ => false
theorem ax_alS_ok (H : ax_H X P W sp rf ih) (hm : ax_mxok sp mx) (hsa : ∀ q u n, rx_lay q = some (.inr (u, n)) → ∀ j, sp q j = sp q 0) {ins : Instr} {t : Nat} (ht : rx_tb i pc = some ins) (hi : (ins = .iaload ∧ t = 0) ∨ (ins = .baload ∧ t = 1)) (h : ax_alS sp mx ih E K d fr i t pc ls st = true) (S : ax_St W sp rf v E K M a fr) : ax_C X P v d fr i (pc, ax_ls v ls, st.map (ax_v v), a, M) := by
  have hs := ax_stp_eq (X := X) (v := v) (ls := ls) (st := st) (a := a) (M := M) ht
  have S0 := S
  obtain ⟨s1, s2, s3, s4, s5, s6, s7⟩ := S
  have ht9 : t ≠ 2 ∧ t ≠ 3 := by rcases hi with ⟨-, rfl⟩ | ⟨-, rfl⟩ <;> decide
  unfold ax_alS at h
  split at h
  · rename_i y w r
    split at h
    · rename_i u n hw
      replace h := sx_cT (by intro q; cases q) h
      obtain ⟨hc, h⟩ := h
      rw [Bool.and_eq_true] at hc
      have hu := Nat.eq_of_beq_eq_true hc.1
      subst hu
      have hyI : sx_isI y = true := by
        have h9 := hc.2
        unfold ax_in at h9
        rw [Bool.and_eq_true] at h9
        exact h9.1
      obtain ⟨x1, x2⟩ := ax_cx_ok s2 hyI
      have g : rx_ins X i ins pc (ax_ls v ls) ((y :: w :: r).map (ax_v v)) a M = rx_nx (pc + 1) (ax_ls v ls) (.int (M.1 (ax_cell v w) (ax_vi v y).toNatClampNeg) :: r.map (ax_v v)) a M := by
        rcases hi with ⟨rfl, rfl⟩ | ⟨rfl, rfl⟩
        · exact ax_al_ok s6.1 s2 hm ht9 hw hc.2
        · exact ax_al_ok s6.1 s2 hm ht9 hw hc.2
      have hlay := (ax_ary_ok s2 hm hw).2
      split at h
      · rename_i q
        have ec : ax_cell v (.ref q) = q := rfl
        rw [ec] at g hlay
        split at h
        · rename_i z hz
          obtain ⟨f2, f1⟩ := ax_fi_ok s5 hz
          rw [x1] at f1
          refine ax_C_step (hs.trans g) ?_
          have k9 := H _ _ d fr i (pc + 1) ls (z :: r) h v M a S0
          rw [List.map_cons, ax_vI f2, ← f1] at k9
          exact k9
        · refine ax_C_step (hs.trans g) (ax_psh_ok H h S0 ⟨by
            have h9 := s4.1 q (ax_vi v y).toNatClampNeg
            rw [hsa q _ _ hlay] at h9
            exact h9, (fun b o hb => by cases hb), fun p q hb => by cases hb⟩ (fun q' j hq => ?_))
          cases hq
          exact ⟨by rw [x1], x2⟩
      · rename_i b
        split at h
        · rename_i n' bd hf
          have h0 := hw
          unfold ax_ary at h0
          dsimp only at h0
          rw [hf] at h0
          dsimp only at h0
          obtain ⟨h1, -⟩ := sx_cT (by intro q; cases q) h0
          have h1 := of_decide_eq_true h1
          have h2 := s2.1 b.toNat
          have h3 := (ax_ivh_ok s2 (w := .retAddr b.toNat) rfl).2
          have h4 := ax_clamp (x := (v b.toNat).1) (by omega)
          have h5 := (ax_mxf_ok mx hm hf (ax_cell v (.float b)) (by show _ ≤ (((v b.toNat).1.toNatClampNeg : Nat) : Int); omega) (by show (((v b.toNat).1.toNatClampNeg : Nat) : Int) ≤ _; rw [h4]; exact h3)).2
          refine ax_C_step (hs.trans g) (ax_psh_ok H h S0 ⟨by
            have h9 := s4.1 (ax_cell v (.float b)) (ax_vi v y).toNatClampNeg
            rw [h5] at h9
            cases hg : ax_rowg E K b.toNat y with
            | true => exact ax_rowg_ok s2 s5 s4.2.2.2 hg
            | false => exact h9, (fun b o hb => by cases hb), fun p q hb => by cases hb⟩ (fun q' j hq => by cases hq))
        · cases h
      · cases h
    · cases h
  · cases h
end AXM
