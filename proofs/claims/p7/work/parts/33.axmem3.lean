/-! the core: writing elements, rows of a matrix, lengths, counting up -/
/-- what is known but of the cells from lo to hi -/
noncomputable def ax_dropR (lo hi : Int) (K : ax_K) : ax_K := K.filter (fun e => ax_mk lo hi e.2.2 && (decide ((e.1 : Int) < lo) || decide (hi < (e.1 : Int))))
theorem ax_dropR_ok {v : ax_V} {K : ax_K} {M : rx_M} {lo hi : Int} {q j : Nat} {z : Int32} (h : ax_kn v K M) (h1 : lo ≤ (q : Int)) (h2 : (q : Int) ≤ hi) : ax_kn v (ax_dropR lo hi K) (rx_up M.1 q j z, M.2.1, M.2.2) := fun e he => by
  obtain ⟨k1, k2⟩ := List.mem_filter.mp he
  rw [Bool.and_eq_true, Bool.or_eq_true, decide_eq_true_eq, decide_eq_true_eq] at k2
  exact ax_k1_wr (h e k1) (fun z => by omega) k2.1 h1 h2
theorem ax_dropR_kw {n : Nat} {lo hi : Int} {K : ax_K} (h : ax_kw n K) : ax_kw n (ax_dropR lo hi K) := fun e he => h e (List.mem_filter.mp he).1
section AXW
variable {X : Nat × (Nat → Int32)} {P : Option Value → rx_M → Prop} {W : ax_W} {sp : Nat → Nat → Int × Int} {rf : Nat → Nat → Option Nat} {mx : ax_X} {ih : ax_S} {v : ax_V} {E : ax_E} {K : ax_K} {M : rx_M} {a : rx_K} {d i pc : Nat} {fr : ax_F} {ls : List (Option Value)} {st : List Value}
noncomputable def ax_asS (wd : ax_D) (sp : Nat → Nat → Int × Int) (mx : ax_X) (ih : ax_S) (E : ax_E) (K : ax_K) (d : Nat) (fr : ax_F) (i t pc : Nat) (ls : List (Option Value)) (st : List Value) : Bool := match st with
  | x :: y :: w :: r => (match ax_ary mx E w with
    | some (u, n) => cond (Nat.beq u t && (ax_in E y n && (ax_sc E.1 (ax_cx E y) && (Nat.beq t 0 || ax_wi E x (0, 1))))) (match w with
      | .ref q => cond (ax_wi E x (sp q 0) && (ax_wrg wd q q && ax_gw E K q q (ax_cx E y) x)) (ih E ((q, ax_cx E y, x) :: ax_drop q (ax_cx E y) K) d fr i (pc + 1) ls r) false
      | .float b => (match ax_mxf (ax_b E b.toNat).1 (ax_ivh E (.retAddr b.toNat)).2 mx with
        | some (_, bd) => cond (ax_wi E x bd && (ax_wrg wd (ax_b E b.toNat).1 (ax_ivh E (.retAddr b.toNat)).2 && ax_gw E K (ax_b E b.toNat).1 (ax_ivh E (.retAddr b.toNat)).2 (ax_cx E y) x)) (ih E (ax_dropR (ax_b E b.toNat).1 (ax_ivh E (.retAddr b.toNat)).2 K) d fr i (pc + 1) ls r) false
        | none => false)
      | _ => false) false
    | none => false)
  | _ => false
theorem ax_asS_ok (H : ax_H X P W sp rf ih) (hm : ax_mxok sp mx) (hsa : ∀ q u n, rx_lay q = some (.inr (u, n)) → ∀ j, sp q j = sp q 0) {ins : Instr} {t : Nat} (ht : rx_tb i pc = some ins) (hi : (ins = .iastore ∧ t = 0) ∨ (ins = .bastore ∧ t = 1)) (h : ax_asS W.1 sp mx ih E K d fr i t pc ls st = true) (S : ax_St W sp rf v E K M a fr) : ax_C X P v d fr i (pc, ax_ls v ls, st.map (ax_v v), a, M) := by
  have hs := ax_stp_eq (X := X) (v := v) (ls := ls) (st := st) (a := a) (M := M) ht
  obtain ⟨s1, s2, s3, s4, s5, s6, s7⟩ := S
  unfold ax_asS at h
  split at h
  · rename_i x y w r
    split at h
    · rename_i u n hw
      replace h := sx_cT (by intro q; cases q) h
      obtain ⟨hc, h⟩ := h
      simp only [Bool.and_eq_true, Bool.or_eq_true] at hc
      obtain ⟨c1, c2, c3, c4⟩ := hc
      have hu := Nat.eq_of_beq_eq_true c1
      subst hu
      have hyI : sx_isI y = true := by
        have h9 := c2
        unfold ax_in at h9
        rw [Bool.and_eq_true] at h9
        exact h9.1
      obtain ⟨x1, x2⟩ := ax_cx_ok s2 hyI
      have hlay := (ax_ary_ok s2 hm hw).2
      have t9 : sx_isI x = true → (u = 0 ∨ u = 1 ∧ (ax_vi v x = 0 ∨ ax_vi v x = 1)) := fun _ => by
        rcases hi with ⟨-, rfl⟩ | ⟨-, rfl⟩
        · exact Or.inl rfl
        · rcases c4 with q | q
          · cases q
          · exact Or.inr ⟨rfl, ax_01 (ax_wi_ok s2 q).2.2⟩
      have g : sx_isI x = true → rx_ins X i ins pc (ax_ls v ls) ((x :: y :: w :: r).map (ax_v v)) a M = rx_nx (pc + 1) (ax_ls v ls) (r.map (ax_v v)) a (rx_up M.1 (ax_cell v w) (ax_vi v y).toNatClampNeg (ax_vi v x), M.2.1, M.2.2) := fun hx => by
        have t8 := t9 hx
        rcases hi with ⟨rfl, rfl⟩ | ⟨rfl, rfl⟩
        · exact ax_as_ok s6.1 s2 hm t8 hw c2 hx
        · exact ax_as_ok s6.1 s2 hm t8 hw c2 hx
      split at h
      · rename_i q
        have ec : ax_cell v (.ref q) = q := rfl
        rw [ec] at g hlay
        replace h := sx_cT (by intro q; cases q) h
        obtain ⟨hx, h⟩ := h
        rw [Bool.and_eq_true, Bool.and_eq_true] at hx
        obtain ⟨hx, hx0, hx9⟩ := hx
        have hG9 := ax_gw_ok (q := q) s2 s5 s4.2.2.2 hx9 (Int.le_refl _) (Int.le_refl _)
        rw [x1] at hG9
        obtain ⟨w1, w2, w3⟩ := ax_wi_ok s2 hx
        have kn := ax_drop_ok (q := q) (j := ax_cx E y) (w := x) s5 x2 w1 rfl
        rw [x1] at kn
        refine ax_C_step (hs.trans (g w1)) (H _ _ d fr i (pc + 1) ls r h v _ a ⟨s1, s2, ax_drop_kw s3 c3 w2, ax_J_up s4 (ax_wrg_ok hx0 (Int.le_refl _) (Int.le_refl _) _) hG9 ?_, kn, s6, s7⟩)
        rw [hsa q _ _ hlay]
        exact w3
      · rename_i b
        split at h
        · rename_i n9 bd hf
          replace h := sx_cT (by intro q; cases q) h
          obtain ⟨hx, h⟩ := h
          rw [Bool.and_eq_true, Bool.and_eq_true] at hx
          obtain ⟨hx, hx0, hx9⟩ := hx
          obtain ⟨w1, w2, w3⟩ := ax_wi_ok s2 hx
          have h0 := hw
          unfold ax_ary at h0
          dsimp only at h0
          rw [hf] at h0
          dsimp only at h0
          obtain ⟨h1, -⟩ := sx_cT (by intro q; cases q) h0
          have h1 := of_decide_eq_true h1
          have h2 := s2.1 b.toNat
          have h3 := (ax_ivh_ok s2 (w := .retAddr b.toNat) rfl).2
          have h4 := ax_clamp (x := (v b.toNat).1) (by omega)
          have p1 : (ax_b E b.toNat).1 ≤ ((ax_cell v (.float b) : Nat) : Int) := by
            show _ ≤ (((v b.toNat).1.toNatClampNeg : Nat) : Int)
            omega
          have p2 : ((ax_cell v (.float b) : Nat) : Int) ≤ (ax_ivh E (.retAddr b.toNat)).2 := by
            show (((v b.toNat).1.toNatClampNeg : Nat) : Int) ≤ _
            rw [h4]
            exact h3
          have h5 := (ax_mxf_ok mx hm hf (ax_cell v (.float b)) p1 p2).2
          have hG9 := ax_gw_ok (q := ax_cell v (.float b)) s2 s5 s4.2.2.2 hx9 p1 p2
          rw [x1] at hG9
          refine ax_C_step (hs.trans (g w1)) (H _ _ d fr i (pc + 1) ls r h v _ a ⟨s1, s2, ax_dropR_kw s3, ax_J_up s4 (ax_wrg_ok hx0 p1 p2 _) hG9 ?_, ax_dropR_ok s5 p1 p2, s6, s7⟩)
          rw [h5]
          exact w3
        · cases h
      · cases h
    · cases h
  · cases h
noncomputable def ax_alnS (mx : ax_X) (ih : ax_S) (E : ax_E) (K : ax_K) (d : Nat) (fr : ax_F) (i pc : Nat) (ls : List (Option Value)) (st : List Value) : Bool := match st with
  | w :: r => (match ax_ary mx E w with
    | some (u, n) => cond (Nat.blt u 4) (ih E K d fr i (pc + 1) ls (.int (Int32.ofNat n) :: r)) false
    | none => false)
  | _ => false
theorem ax_alnS_ok (H : ax_H X P W sp rf ih) (hm : ax_mxok sp mx) (ht : rx_tb i pc = some .arraylength) (h : ax_alnS mx ih E K d fr i pc ls st = true) (S : ax_St W sp rf v E K M a fr) : ax_C X P v d fr i (pc, ax_ls v ls, st.map (ax_v v), a, M) := by
  have hs := ax_stp_eq (X := X) (v := v) (ls := ls) (st := st) (a := a) (M := M) ht
  have S0 := S
  obtain ⟨s1, s2, s3, s4, s5, s6, s7⟩ := S
  unfold ax_alnS at h
  split at h
  · rename_i w r
    split at h
    · rename_i u n hw
      replace h := sx_cT (by intro q; cases q) h
      obtain ⟨hu, h⟩ := h
      have g : rx_ins X i .arraylength pc (ax_ls v ls) ((w :: r).map (ax_v v)) a M = rx_nx (pc + 1) (ax_ls v ls) (.int (Int32.ofNat n) :: r.map (ax_v v)) a M := ax_aln_ok s6.1 s2 hm (Nat.blt_eq.mp hu) hw
      exact ax_C_step (hs.trans g) (H _ _ d fr i (pc + 1) ls (.int (Int32.ofNat n) :: r) h v M a S0)
    · cases h
  · cases h
/-- a local counted up: as if it were loaded, added to, stored -/
noncomputable def ax_incS (ih : ax_S) (E : ax_E) (K : ax_K) (d : Nat) (fr : ax_F) (i k : Nat) (c : Int) (pc : Nat) (ls : List (Option Value)) (st : List Value) : Bool := match sx_at none ls k with
  | some w => cond (sx_isI w) (match ax_lit E w with
    | some x => ih E K d fr i (pc + 3) (rx_s1 ls k (.int (x + Int32.ofInt c))) st
    | none => cond (ax_scO E.1 ls && ax_scS E.1 st) (ih (ax_addN E (ax_bAdd E w (.int (Int32.ofInt c)))) K d fr i (pc + 3) (rx_s1 ls k (.retAddr E.1)) st) false) false
  | none => false
theorem ax_incS_ok (H : ax_H X P W sp rf ih) {k : Nat} {c : Int} (ht : rx_tb i pc = some (.iinc k c)) (h : ax_incS ih E K d fr i k c pc ls st = true) (S : ax_St W sp rf v E K M a fr) : ax_C X P v d fr i (pc, ax_ls v ls, st.map (ax_v v), a, M) := by
  have hs := ax_stp_eq (X := X) (v := v) (ls := ls) (st := st) (a := a) (M := M) ht
  have S0 := S
  obtain ⟨s1, s2, s3, s4, s5, s6, s7⟩ := S
  unfold ax_incS at h
  rw [sx_at_none] at h
  cases hk : ls[k]? with
  | none => rw [hk] at h; cases h
  | some o =>
    cases o with
    | none => rw [hk] at h; cases h
    | some w =>
      rw [hk] at h
      replace h := sx_cT (b := sx_isI w) (by intro q; cases q) h
      obtain ⟨hw, h⟩ := h
      have g : rx_ins X i (.iinc k c) pc (ax_ls v ls) (st.map (ax_v v)) a M = rx_nx (pc + 3) (rx_s1 (ax_ls v ls) k (.int (ax_vi v w + Int32.ofInt c))) (st.map (ax_v v)) a M := by
        show (match (ax_ls v ls)[k]? with
          | some (some (.int x)) => rx_nx (pc + 3) (rx_s1 (ax_ls v ls) k (.int (x + Int32.ofInt c))) (st.map (ax_v v)) a M
          | _ => none) = _
        rw [ax_ls_get hk, ax_vI hw]
      refine ax_C_step (hs.trans g) ?_
      split at h
      · rename_i x hx
        have k9 := H _ _ d fr i (pc + 3) _ st h v M a S0
        rw [ax_ls_s1] at k9
        rw [ax_vi_lit s2 hx hw]
        exact k9
      · replace h := sx_cT (by intro q; cases q) h
        obtain ⟨hc, h⟩ := h
        rw [Bool.and_eq_true] at hc
        obtain ⟨w1, w2⟩ := ax_addN_wf (N := ax_bAdd E w (.int (Int32.ofInt c))) s1
        have hz := ax_bAdd_ok s2 hw (y := .int (Int32.ofInt c)) rfl
        obtain ⟨f, o, h1, h2⟩ := H _ _ d fr i (pc + 3) _ st h (ax_up v E.1 (ax_vi v w + Int32.ofInt c, 0)) M a ⟨w1, ax_addN_ok s1 s2 hz, by rw [w2]; exact ax_kw_le s3 (Nat.le_succ _), s4, ax_kn_up s3 s5, s6, by rw [w2]; exact ax_sv_up s7⟩
        refine ⟨f, o, ?_, ax_KT_up fr d o s7.1 h2⟩
        rw [ax_ls_s1, ax_ls_up hc.1, ax_st_up hc.2] at h1
        have e : ax_v (ax_up v E.1 (ax_vi v w + Int32.ofInt c, 0)) (.retAddr E.1) = .int (ax_vi v w + Int32.ofInt c) := by
          show Value.int (ax_up v E.1 (ax_vi v w + Int32.ofInt c, 0) E.1).1 = _
          rw [ax_up_self]
        rw [e] at h1
        exact h1
end AXW
