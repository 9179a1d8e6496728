/-! the core: the law's own run: its script, exceptions that are caught; how much is made, by how many steps -/
section AXLW
variable {X : Nat × (Nat → Int32)} {P : Option Value → rx_M → Prop} {W : ax_W} {sp : Nat → Nat → Int × Int} {rf : Nat → Nat → Option Nat} {mx : ax_X} {mt : List (Nat × Nat)} {ih : ax_S} {v : ax_V} {E : ax_E} {K : ax_K} {M : rx_M} {a : rx_K} {d i pc : Nat} {fr : ax_F} {ls : List (Option Value)} {st : List Value}
/-- more may have been made -/
noncomputable def ax_wc (W : ax_W) (c : Nat × Nat) : ax_W := (W.1, (W.2.1.1, W.2.1.2.1, c), W.2.2)
theorem ax_St_c {c c' : Nat × Nat} (h1 : c.1 ≤ c'.1) (h2 : c.2 ≤ c'.2) (S : ax_St (ax_wc W c) sp rf v E K M a fr) : ax_St (ax_wc W c') sp rf v E K M a fr := by
  obtain ⟨s1, s2, s3, s4, s5, s6, s7⟩ := S
  exact ⟨s1, s2, s3, s4, s5, ⟨s6.1, Nat.le_trans s6.2.1 h1, Nat.le_trans s6.2.2 h2⟩, s7⟩
theorem ax_H_c {c c' : Nat × Nat} (h1 : c.1 ≤ c'.1) (h2 : c.2 ≤ c'.2) (H : ax_H X P (ax_wc W c') sp rf ih) : ax_H X P (ax_wc W c) sp rf ih := fun E K d fr i pc ls st h v M a S => H E K d fr i pc ls st h v M a (ax_St_c h1 h2 S)
/-- an exception that the frame below catches -/
noncomputable def ax_nwS (ih : ax_S) (E : ax_E) (K : ax_K) (d : Nat) (fr : ax_F) (i x : Nat) (st : List Value) : Bool := match rx_nw (rx_cn i) x with
  | some (.inr X) => (match st with
    | [] => (match fr with
      | [] => false
      | y :: r => (match rx_hd y.1 X with
        | some (h, n, k) => ih E K (d + 1) r y.1 (h + n) ((rx_kill y.2.2.1 k).set k none) []
        | none => false))
    | _ => false)
  | _ => false
theorem ax_nwS_ok {c c' : Nat × Nat} (hc1 : c.1 + 1 ≤ c'.1) (hc2 : c.2 + 6 ≤ c'.2) (H : ax_H X P (ax_wc W c') sp rf ih) {x : Nat} (ht : rx_tb i pc = some (.new x)) (h : ax_nwS ih E K d fr i x st = true) (S : ax_St (ax_wc W c) sp rf v E K M a fr) : ax_C X P v d fr i (pc, ax_ls v ls, st.map (ax_v v), a, M) := by
  have hs := ax_stp_eq (X := X) (v := v) (ls := ls) (st := st) (a := a) (M := M) ht
  obtain ⟨s1, s2, s3, s4, s5, s6, s7⟩ := S
  unfold ax_nwS at h
  split at h
  · rename_i Z hz
    split at h
    · split at h
      · cases h
      · rename_i y r
        split at h
        · rename_i h0 n0 k0 hh
          have g : rx_ins X i (.new x) pc (ax_ls v ls) (([] : List Value).map (ax_v v)) a M = some (.inr (.inr (some (.retAddr Z)))) := by
            show rx_new (rx_cn i) x pc (ax_ls v ls) [] a M = _
            unfold rx_new
            rw [hz]
          obtain ⟨f, o, k1, k2⟩ := H _ _ (d + 1) r y.1 (h0 + n0) _ [] h v M (a.1, a.2.1 + 1, a.2.2 + 6) ⟨s1, s2, s3, s4, s5, ⟨s6.1, Nat.le_trans (Nat.succ_le_succ s6.2.1) hc1, Nat.le_trans (Nat.add_le_add_right s6.2.2 6) hc2⟩, ax_scF_tl s7.1, s7.2⟩
          refine ⟨1, (some (.retAddr Z), a, M), ?_, (h0 + n0, (rx_kill (ax_ls v y.2.2.1) k0).set k0 none, [], (a.1, a.2.1 + 1, a.2.2 + 6), M), ?_, f, o, ?_, k2⟩
          · unfold rx_go
            rw [hs, g]
          · unfold rx_res ax_g
            dsimp only
            rw [hh]
          · rw [← ax_ls_kill]
            rw [ax_ls_set, Option.map_none] at k1
            exact k1
        · cases h
    · cases h
  · cases h
/-- unknown 0 is the script's length, unknown 1 the place in it, 5 to 10 are its ints from there on -/
noncomputable def ax_lw (X : Nat × (Nat → Int32)) (W : ax_W) : Prop := 11 ≤ W.2.2.1 ∧ ((W.2.2.2 0).1.toInt = (X.1 : Int) ∧ X.1 ≤ 100000) ∧ (0 ≤ (W.2.2.2 1).1.toInt ∧ ∀ c, c < 6 → (W.2.2.2 (5 + c)).1 = X.2 ((W.2.2.2 1).1.toInt.toNat + c))
noncomputable def ax_slS (ih : ax_S) (E : ax_E) (K : ax_K) (d : Nat) (fr : ax_F) (i pc : Nat) (ls : List (Option Value)) (st : List Value) : Bool := match st with
  | .ref q :: r => cond (Nat.beq q 1000 && Nat.beq i 249) (ih E K d fr i (pc + 1) ls (.retAddr 0 :: r)) false
  | _ => false
set_option maxRecDepth 100000 in
theorem ax_lay_s : rx_lay 1000 = none := by decide +kernel
theorem ax_v0 (hW : ax_lw X W) (S : ax_St W sp rf v E K M a fr) : (v 0).1.toInt = (X.1 : Int) := by
  rw [S.2.2.2.2.2.2.2.2 0 (Nat.lt_of_lt_of_le (by decide) hW.1)]
  exact hW.2.1.1
theorem ax_slS_ok (hW : ax_lw X W) (H : ax_H X P W sp rf ih) (ht : rx_tb i pc = some .arraylength) (h : ax_slS ih E K d fr i pc ls st = true) (S : ax_St W sp rf v E K M a fr) : ax_C X P v d fr i (pc, ax_ls v ls, st.map (ax_v v), a, M) := by
  have hs := ax_stp_eq (X := X) (v := v) (ls := ls) (st := st) (a := a) (M := M) ht
  have h0 := ax_v0 hW S
  unfold ax_slS at h
  split at h
  · rename_i q r
    replace h := sx_cT (by intro q; cases q) h
    obtain ⟨hc, h⟩ := h
    rw [Bool.and_eq_true] at hc
    have e1 := Nat.eq_of_beq_eq_true hc.1
    have e2 := Nat.eq_of_beq_eq_true hc.2
    subst e1
    subst e2
    have e3 : Int32.ofNat X.1 = (v 0).1 := by
      apply Int32.toInt_inj.mp
      rw [h0]
      exact ax_ofInt (a := (X.1 : Int)) (by omega) (by have := hW.2.1.2; omega)
    have g : rx_ins X 249 .arraylength pc (ax_ls v ls) ((Value.ref 1000 :: r).map (ax_v v)) a M = rx_nx (pc + 1) (ax_ls v ls) (.int (v 0).1 :: r.map (ax_v v)) a M := by
      show rx_aln X 249 pc (ax_ls v ls) (.ref 1000 :: r.map (ax_v v)) a M = _
      unfold rx_aln
      dsimp only
      rw [ax_lay_s]
      dsimp only
      rw [if_pos ⟨rfl, rfl⟩, e3]
    exact ax_C_step (hs.trans g) (H _ _ d fr 249 (pc + 1) ls (.retAddr 0 :: r) h v M a S)
  · cases h
noncomputable def ax_siS (ih : ax_S) (E : ax_E) (K : ax_K) (d : Nat) (fr : ax_F) (i pc : Nat) (ls : List (Option Value)) (st : List Value) : Bool := match st with
  | .retAddr u :: .ref q :: r => cond ((Nat.beq q 1000 && Nat.beq i 249) && ((ax_leq E (.retAddr u) (.retAddr 0) 1 && decide (0 ≤ (ax_iv E (.retAddr u)).1)) && (Nat.beq (ax_base E u).1 1 && (decide (0 ≤ (ax_base E u).2) && decide ((ax_base E u).2 < 6))))) (ih E K d fr i (pc + 1) ls (.retAddr (5 + (ax_base E u).2.toNat) :: r)) false
  | _ => false
theorem ax_siS_ok (hW : ax_lw X W) (H : ax_H X P W sp rf ih) (ht : rx_tb i pc = some .iaload) (h : ax_siS ih E K d fr i pc ls st = true) (S : ax_St W sp rf v E K M a fr) : ax_C X P v d fr i (pc, ax_ls v ls, st.map (ax_v v), a, M) := by
  have hs := ax_stp_eq (X := X) (v := v) (ls := ls) (st := st) (a := a) (M := M) ht
  have h0 := ax_v0 hW S
  unfold ax_siS at h
  split at h
  · rename_i u q r
    replace h := sx_cT (by intro q; cases q) h
    obtain ⟨hc, h⟩ := h
    simp only [Bool.and_eq_true, decide_eq_true_eq] at hc
    obtain ⟨⟨e1, e2⟩, ⟨hl, hy0⟩, b1, b2, b3⟩ := hc
    have e1 := Nat.eq_of_beq_eq_true e1
    have e2 := Nat.eq_of_beq_eq_true e2
    have b1 := Nat.eq_of_beq_eq_true b1
    subst e1
    subst e2
    obtain ⟨-, -, hlt⟩ := ax_leq_ok S.2.1 hl
    have hlt : (v u).1.toInt + 1 ≤ (v 0).1.toInt := hlt
    have i1 := S.2.1.1 u
    have hy0 : 0 ≤ (ax_b E u).1 := hy0
    have e3 := ax_clamp (x := (v u).1) (by omega)
    have hn : ¬ ((v u).1 < 0 ∨ X.1 ≤ (v u).1.toNatClampNeg) := by
      rintro (q | q)
      · have := ax_neg.mp q
        omega
      · omega
    have hb := ax_base_ok S.2.1 u
    rw [b1] at hb
    have ag := S.2.2.2.2.2.2.2.2
    have a1 : v 1 = W.2.2.2 1 := ag 1 (Nat.lt_of_lt_of_le (by decide) hW.1)
    have a5 : v (5 + (ax_base E u).2.toNat) = W.2.2.2 (5 + (ax_base E u).2.toNat) := ag _ (Nat.lt_of_lt_of_le (by omega) hW.1)
    have k := hW.2.2.2 (ax_base E u).2.toNat (by omega)
    have p := hW.2.2.1
    rw [← a5, ← a1] at k
    rw [← a1] at p
    have e4 : (v 1).1.toInt.toNat + (ax_base E u).2.toNat = (v u).1.toNatClampNeg := by omega
    rw [e4] at k
    have g : rx_ins X 249 .iaload pc (ax_ls v ls) ((Value.retAddr u :: Value.ref 1000 :: r).map (ax_v v)) a M = rx_nx (pc + 1) (ax_ls v ls) (.int (v (5 + (ax_base E u).2.toNat)).1 :: r.map (ax_v v)) a M := by
      show rx_al X 249 0 pc (ax_ls v ls) (.int (v u).1 :: .ref 1000 :: r.map (ax_v v)) a M = _
      unfold rx_al
      dsimp only
      rw [ax_lay_s]
      dsimp only
      rw [if_pos ⟨rfl, rfl⟩, if_pos rfl, if_neg hn, k]
    exact ax_C_step (hs.trans g) (H _ _ d fr 249 (pc + 1) ls (.retAddr (5 + (ax_base E u).2.toNat) :: r) h v M a S)
  · cases h
/-- a long is written, of which nothing is known -/
noncomputable def ax_lsS (mx : ax_X) (ih : ax_S) (E : ax_E) (K : ax_K) (d : Nat) (fr : ax_F) (i pc : Nat) (ls : List (Option Value)) (st : List Value) : Bool := match st with
  | x :: y :: .ref q :: r => (match ax_ary mx E (.ref q) with
    | some (u, n) => cond (Nat.beq u 3 && (ax_in E y n && ax_sh 2 x)) (ih E K d fr i (pc + 1) ls r) false
    | none => false)
  | _ => false
theorem ax_lsS_ok (H : ax_H X P W sp rf ih) (hm : ax_mxok sp mx) (ht : rx_tb i pc = some .lastore) (h : ax_lsS mx ih E K d fr i pc ls st = true) (S : ax_St W sp rf v E K M a fr) : ax_C X P v d fr i (pc, ax_ls v ls, st.map (ax_v v), a, M) := by
  have hs := ax_stp_eq (X := X) (v := v) (ls := ls) (st := st) (a := a) (M := M) ht
  obtain ⟨s1, s2, s3, s4, s5, s6, s7⟩ := S
  unfold ax_lsS at h
  split at h
  · rename_i x y q r
    split at h
    · rename_i u n hw
      replace h := sx_cT (by intro q; cases q) h
      obtain ⟨hc, h⟩ := h
      rw [Bool.and_eq_true, Bool.and_eq_true] at hc
      obtain ⟨c1, c2, c3⟩ := hc
      have hu := Nat.eq_of_beq_eq_true c1
      subst hu
      obtain ⟨z, hz⟩ := ax_vL (v := v) c3
      obtain ⟨-, e2⟩ := ax_ary_ok (v := v) s2 hm hw
      have e2 : rx_lay q = some (.inr (3, n)) := e2
      obtain ⟨e3, e4⟩ := ax_in_ok s2 c2
      have hlt := ax_lay_lt e2
      have g : rx_ins X i .lastore pc (ax_ls v ls) ((x :: y :: Value.ref q :: r).map (ax_v v)) a M = rx_nx (pc + 1) (ax_ls v ls) (r.map (ax_v v)) a (M.1, M.2.1, rx_up M.2.2 q (ax_vi v y).toNatClampNeg z) := by
        rw [List.map_cons, List.map_cons, hz, e3]
        show rx_as 3 pc (ax_ls v ls) (.long z :: .int (ax_vi v y) :: .ref q :: r.map (ax_v v)) a M = _
        unfold rx_as
        dsimp only
        rw [e2]
        dsimp only
        rw [if_pos (by rw [s6.1]; exact hlt), if_pos rfl, if_neg e4]
        rfl
      exact ax_C_step (hs.trans g) (H _ _ d fr i (pc + 1) ls r h v _ a ⟨s1, s2, s3, s4, s5, s6, s7⟩)
    · cases h
  · cases h
noncomputable def ax_isl (i : Nat) (st : List Value) : Bool := Nat.beq i 249 && (match st with
  | .ref q :: _ => Nat.beq q 1000
  | _ :: .ref q :: _ => Nat.beq q 1000
  | _ => false)
noncomputable def ax_stL (wd : ax_D) (sp : Nat → Nat → Int × Int) (rf : Nat → Nat → Option Nat) (mx : ax_X) (mt : List (Nat × Nat)) (fin : ax_E → ax_K → Option Value → Bool) (ih : ax_S) : ax_S := fun E K d fr i pc ls st => match rx_tb i pc with
  | some (.new x) => ax_nwS ih E K d fr i x st
  | some .lastore => ax_lsS mx ih E K d fr i pc ls st
  | some .arraylength => cond (ax_isl i st) (ax_slS ih E K d fr i pc ls st) (ax_step wd sp rf mx mt fin ih E K d fr i pc ls st)
  | some .iaload => cond (ax_isl i st) (ax_siS ih E K d fr i pc ls st) (ax_step wd sp rf mx mt fin ih E K d fr i pc ls st)
  | _ => ax_step wd sp rf mx mt fin ih E K d fr i pc ls st
theorem ax_stL_ok {fin : ax_E → ax_K → Option Value → Bool} {c c' : Nat × Nat} (hc1 : c.1 + 1 ≤ c'.1) (hc2 : c.2 + 6 ≤ c'.2) (hW : ax_lw X W) (hm : ax_mxok sp mx) (hmt : ax_mtok rf mt) (hsa : ∀ q u n, rx_lay q = some (.inr (u, n)) → ∀ j, sp q j = sp q 0) (hfin : ∀ E K w v M a, fin E K w = true → ax_St (ax_wc W c) sp rf v E K M a [] → P (w.map (ax_v v)) (ax_mA a M)) (H : ax_H X P (ax_wc W c') sp rf ih) : ax_H X P (ax_wc W c) sp rf (ax_stL W.1 sp rf mx mt fin ih) := by
  have H0 := ax_H_c (by omega : c.1 ≤ c'.1) (by omega : c.2 ≤ c'.2) H
  have N := ax_step_ok hm hmt hsa hfin H0
  intro E K d fr i pc ls st h v M a S
  unfold ax_stL at h
  split at h
  · rename_i x ht
    exact ax_nwS_ok hc1 hc2 H ht h S
  · rename_i ht
    exact ax_lsS_ok H0 hm ht h S
  · rename_i ht
    cases hb : ax_isl i st with
    | true => rw [hb] at h; exact ax_slS_ok (W := ax_wc W c) hW H0 ht h S
    | false => rw [hb] at h; exact N _ _ _ _ _ _ _ _ h v M a S
  · rename_i ht
    cases hb : ax_isl i st with
    | true => rw [hb] at h; exact ax_siS_ok (W := ax_wc W c) hW H0 ht h S
    | false => rw [hb] at h; exact N _ _ _ _ _ _ _ _ h v M a S
  · exact N _ _ _ _ _ _ _ _ h v M a S
noncomputable def ax_runL (wd : ax_D) (sp : Nat → Nat → Int × Int) (rf : Nat → Nat → Option Nat) (mx : ax_X) (mt : List (Nat × Nat)) (fin : ax_E → ax_K → Option Value → Bool) (hn : Nat → Nat → Nat) (tab : ax_T) (sum : ax_Y) (f : Nat) : ax_S := Nat.rec (motive := fun _ => ax_S) (fun _ _ _ _ _ _ _ _ => false) (fun _ ih => ax_hs wd sp sum ih (ax_hd tab (ax_hnt hn ih (ax_stL wd sp rf mx mt fin ih)))) f
/-- caps: c less one (and six) for each step that is left -/
noncomputable def ax_cf (c : Nat × Nat) (f : Nat) : Nat × Nat := (c.1 - f, c.2 - 6 * f)
theorem ax_runL_ok {fin : ax_E → ax_K → Option Value → Bool} {hn : Nat → Nat → Nat} {tab : ax_T} {sum : ax_Y} {c : Nat × Nat} (hW : ax_lw X W) (hm : ax_mxok sp mx) (hmt : ax_mtok rf mt) (hsa : ∀ q u n, rx_lay q = some (.inr (u, n)) → ∀ j, sp q j = sp q 0) (hfin : ∀ E K w v M a, fin E K w = true → ax_St (ax_wc W c) sp rf v E K M a [] → P (w.map (ax_v v)) (ax_mA a M)) (hT : ax_Tok X P (ax_wc W c) sp rf tab) (hY : ax_Yok X sp rf sum) : ∀ f, f ≤ c.1 → 6 * f ≤ c.2 → ax_H X P (ax_wc W (ax_cf c f)) sp rf (ax_runL W.1 sp rf mx mt fin hn tab sum f)
  | 0, _, _ => fun E K d fr i pc ls st h => by cases h
  | f + 1, h1, h2 => by
    have ih := ax_runL_ok (hn := hn) hW hm hmt hsa hfin hT hY f (by omega) (by omega)
    have e1 : (ax_cf c (f + 1)).1 + 1 ≤ (ax_cf c f).1 := by unfold ax_cf; dsimp only; omega
    have e2 : (ax_cf c (f + 1)).2 + 6 ≤ (ax_cf c f).2 := by unfold ax_cf; dsimp only; omega
    have l1 : (ax_cf c (f + 1)).1 ≤ c.1 := by unfold ax_cf; dsimp only; omega
    have l2 : (ax_cf c (f + 1)).2 ≤ c.2 := by unfold ax_cf; dsimp only; omega
    have H0 := ax_H_c (by omega : (ax_cf c (f + 1)).1 ≤ (ax_cf c f).1) (by omega : (ax_cf c (f + 1)).2 ≤ (ax_cf c f).2) ih
    have fin' : ∀ E K w v M a, fin E K w = true → ax_St (ax_wc W (ax_cf c (f + 1))) sp rf v E K M a [] → P (w.map (ax_v v)) (ax_mA a M) := fun E K w v M a h S => hfin E K w v M a h (ax_St_c l1 l2 S)
    have tok : ax_Tok X P (ax_wc W (ax_cf c (f + 1))) sp rf tab := fun i pc t ht E K d ls h v M a S => hT i pc t ht E K d ls h v M a (ax_St_c l1 l2 S)
    exact ax_hs_ok (W := ax_wc W (ax_cf c (f + 1))) hY H0 (ax_hd_ok tok (ax_hnt_ok H0 (ax_stL_ok e1 e2 hW hm hmt hsa fin' ih)))
end AXLW
