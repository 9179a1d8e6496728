/-! the core: rows of a matrix, answers; one step; a run without loops -/
section AXZ
variable {X : Nat × (Nat → Int32)} {P : Option Value → rx_M → Prop} {W : ax_W} {sp : Nat → Nat → Int × Int} {rf : Nat → Nat → Option Nat} {mx : ax_X} {mt : List (Nat × Nat)} {fin : ax_E → ax_K → Option Value → Bool} {ih : ax_S} {v : ax_V} {E : ax_E} {K : ax_K} {M : rx_M} {a : rx_K} {d i pc : Nat} {fr : ax_F} {ls : List (Option Value)} {st : List Value}
noncomputable def ax_pshR (ih : ax_S) (E : ax_E) (K : ax_K) (d : Nat) (fr : ax_F) (i pc : Nat) (ls : List (Option Value)) (st : List Value) (N : ax_N) : Bool := cond (ax_scO E.1 ls && (ax_scS E.1 st && Nat.beq (UInt32.ofNat E.1).toNat E.1)) (ih (ax_addN E N) K d fr i pc ls (.float (UInt32.ofNat E.1) :: st)) false
theorem ax_pshR_ok (H : ax_H X P W sp rf ih) {N : ax_N} (h : ax_pshR ih E K d fr i pc ls st N = true) (S : ax_St W sp rf v E K M a fr) {z : Int32} (hz : ax_Nok v N z) : ax_C X P v d fr i (pc, ax_ls v ls, .ref z.toNatClampNeg :: st.map (ax_v v), a, M) := by
  obtain ⟨s1, s2, s3, s4, s5, s6, s7⟩ := S
  unfold ax_pshR at h
  replace h := sx_cT (by intro q; cases q) h
  obtain ⟨hc, h⟩ := h
  simp only [Bool.and_eq_true] at hc
  obtain ⟨w1, w2⟩ := ax_addN_wf (N := N) s1
  obtain ⟨f, o, h1, h2⟩ := H _ _ d fr i pc ls _ h (ax_up v E.1 (z, 0)) M a ⟨w1, ax_addN_ok s1 s2 hz, by rw [w2]; exact ax_kw_le s3 (Nat.le_succ _), s4, ax_kn_up s3 s5, s6, by rw [w2]; exact ax_sv_up s7⟩
  refine ⟨f, o, ?_, ax_KT_up fr d o s7.1 h2⟩
  rw [ax_ls_up hc.1, List.map_cons, ax_st_up hc.2.1] at h1
  have e : ax_v (ax_up v E.1 (z, 0)) (.float (UInt32.ofNat E.1)) = .ref z.toNatClampNeg := by
    show Value.ref ((ax_up v E.1 (z, 0) (UInt32.ofNat E.1).toNat).1.toNatClampNeg) = _
    rw [Nat.eq_of_beq_eq_true hc.2.2, ax_up_self]
  rw [e] at h1
  exact h1
noncomputable def ax_mtok (rf : Nat → Nat → Option Nat) (mt : List (Nat × Nat)) : Prop := ∀ e ∈ mt, e.1 + 1 + e.2 ≤ 100000 ∧ ∀ j, j < e.2 → rf e.1 j = some (e.1 + 1 + j)
noncomputable def ax_aaS (rf : Nat → Nat → Option Nat) (mx : ax_X) (mt : List (Nat × Nat)) (ih : ax_S) (E : ax_E) (K : ax_K) (d : Nat) (fr : ax_F) (i pc : Nat) (ls : List (Option Value)) (st : List Value) : Bool := match st with
  | y :: .ref q :: r => (match ax_ary mx E (.ref q) with
    | some (u, n) => cond (Nat.beq u 2 && (ax_in E y n && mt.any (fun e => Nat.beq e.1 q && Nat.beq e.2 n))) (match ax_lit E y with
      | some x => ih E K d fr i (pc + 1) ls (.ref (q + 1 + x.toNatClampNeg) :: r)
      | none => ax_pshR ih E K d fr i (pc + 1) ls r ((((q : Int) + 1 + (ax_iv E y).1), ((q : Int) + 1 + (ax_ivh E y).2)), ax_off E y ((q : Int) + 1), none)) false
    | none => false)
  | _ => false
theorem ax_aaS_ok (H : ax_H X P W sp rf ih) (hm : ax_mxok sp mx) (hmt : ax_mtok rf mt) (ht : rx_tb i pc = some .aaload) (h : ax_aaS rf mx mt ih E K d fr i pc ls st = true) (S : ax_St W sp rf v E K M a fr) : ax_C X P v d fr i (pc, ax_ls v ls, st.map (ax_v v), a, M) := by
  have hs := ax_stp_eq (X := X) (v := v) (ls := ls) (st := st) (a := a) (M := M) ht
  have S0 := S
  obtain ⟨s1, s2, s3, s4, s5, s6, s7⟩ := S
  unfold ax_aaS at h
  split at h
  · rename_i y q r
    split at h
    · rename_i u n hw
      replace h := sx_cT (by intro q; cases q) h
      obtain ⟨hc, h⟩ := h
      simp only [Bool.and_eq_true] at hc
      obtain ⟨c1, c2, c3⟩ := hc
      have hu := Nat.eq_of_beq_eq_true c1
      subst hu
      obtain ⟨e, he, he2⟩ := List.any_eq_true.mp c3
      rw [Bool.and_eq_true] at he2
      obtain ⟨m1, m2⟩ := hmt e he
      rw [Nat.eq_of_beq_eq_true he2.1, Nat.eq_of_beq_eq_true he2.2] at m1 m2
      have hyI : sx_isI y = true := by
        have h9 := c2
        unfold ax_in at h9
        rw [Bool.and_eq_true] at h9
        exact h9.1
      have hin := (ax_in_ok s2 c2).2
      have hlt : (ax_vi v y).toNatClampNeg < n := by omega
      have h0 : 0 ≤ (ax_vi v y).toInt := by
        have : ¬ (ax_vi v y).toInt < 0 := fun z => hin (Or.inl (ax_neg.mpr z))
        omega
      have hcl := ax_clamp h0
      have g : rx_ins X i .aaload pc (ax_ls v ls) ((y :: Value.ref q :: r).map (ax_v v)) a M = rx_nx (pc + 1) (ax_ls v ls) (.ref (q + 1 + (ax_vi v y).toNatClampNeg) :: r.map (ax_v v)) a M := by
        have g1 := ax_al2_ok (X := X) (i := i) (pc := pc) (l := ax_ls v ls) (s := r.map (ax_v v)) (M := M) s6.1 s2 hm hw c2
        have g2 : M.2.1 (ax_cell v (.ref q)) (ax_vi v y).toNatClampNeg = some (q + 1 + (ax_vi v y).toNatClampNeg) := s4.2.1 q _ _ (m2 _ hlt)
        rw [g2] at g1
        exact g1
      refine ax_C_step (hs.trans g) ?_
      split at h
      · rename_i x hx
        have k9 := H _ _ d fr i (pc + 1) ls _ h v M a S0
        rw [ax_vi_lit s2 hx hyI]
        exact k9
      · have b1 := ax_iv_ok s2 hyI
        have b2 := ax_ivh_ok s2 hyI
        have z1 : (Int32.ofInt ((q + 1 + (ax_vi v y).toNatClampNeg : Nat) : Int)).toInt = ((q + 1 + (ax_vi v y).toNatClampNeg : Nat) : Int) := ax_ofInt (by omega) (by omega)
        have z2 : (Int32.ofInt ((q + 1 + (ax_vi v y).toNatClampNeg : Nat) : Int)).toNatClampNeg = q + 1 + (ax_vi v y).toNatClampNeg := by
          have := ax_clamp (x := Int32.ofInt ((q + 1 + (ax_vi v y).toNatClampNeg : Nat) : Int)) (by rw [z1]; omega)
          omega
        have k9 := ax_pshR_ok H h S0 (z := Int32.ofInt ((q + 1 + (ax_vi v y).toNatClampNeg : Nat) : Int)) ⟨by
          rw [z1]
          dsimp only
          omega, (fun b o hb => by
          have := ax_off_ok s2 hb
          rw [z1]
          omega), fun p q hb => by cases hb⟩
        rw [z2] at k9
        exact k9
    · cases h
  · cases h
noncomputable def ax_irS (fin : ax_E → ax_K → Option Value → Bool) (ih : ax_S) (E : ax_E) (K : ax_K) (d : Nat) (fr : ax_F) (i : Nat) (st : List Value) : Bool := match st with
  | [w] => (match rx_rt i with
    | some .int => cond (sx_isI w) (ax_re fin ih E K d fr (some w)) false
    | some .boolean => cond (ax_wi E w (0, 1)) (ax_re fin ih E K d fr (some w)) false
    | _ => false)
  | _ => false
theorem ax_irS_ok (H : ax_H X P W sp rf ih) (hfin : ∀ E K w v M a, fin E K w = true → ax_St W sp rf v E K M a [] → P (w.map (ax_v v)) (ax_mA a M)) (ht : rx_tb i pc = some .ireturn) (h : ax_irS fin ih E K d fr i st = true) (S : ax_St W sp rf v E K M a fr) : ax_C X P v d fr i (pc, ax_ls v ls, st.map (ax_v v), a, M) := by
  have hs := ax_stp_eq (X := X) (v := v) (ls := ls) (st := st) (a := a) (M := M) ht
  unfold ax_irS at h
  split at h
  · rename_i w
    split at h
    · rename_i hrt
      replace h := sx_cT (by intro q; cases q) h
      obtain ⟨hw, h⟩ := h
      refine ax_re_ok H hfin (w := some w) (hs.trans ?_) rfl rfl h S
      show (match [ax_v v w] with
        | [.int x] => (match rx_rt i with
          | some .int => some (.inr (.inr (some (.int x))))
          | some .boolean => if x = 0 ∨ x = 1 then some (.inr (.inr (some (.int x)))) else none
          | _ => none)
        | _ => none) = some (Sum.inr (Sum.inr (some (ax_v v w))))
      rw [ax_vI hw, hrt]
    · rename_i hrt
      replace h := sx_cT (by intro q; cases q) h
      obtain ⟨hw, h⟩ := h
      obtain ⟨w1, w2, w3⟩ := ax_wi_ok S.2.1 hw
      refine ax_re_ok H hfin (w := some w) (hs.trans ?_) rfl rfl h S
      show (match [ax_v v w] with
        | [.int x] => (match rx_rt i with
          | some .int => some (.inr (.inr (some (.int x))))
          | some .boolean => if x = 0 ∨ x = 1 then some (.inr (.inr (some (.int x)))) else none
          | _ => none)
        | _ => none) = some (Sum.inr (Sum.inr (some (ax_v v w))))
      rw [ax_vI w1, hrt]
      exact if_pos (ax_01 w3)
    · cases h
  · cases h
noncomputable def ax_vrS (fin : ax_E → ax_K → Option Value → Bool) (ih : ax_S) (E : ax_E) (K : ax_K) (d : Nat) (fr : ax_F) (i : Nat) (st : List Value) : Bool := match st with
  | [] => (match rx_rt i with
    | none => ax_re fin ih E K d fr none
    | _ => false)
  | _ => false
theorem ax_vrS_ok (H : ax_H X P W sp rf ih) (hfin : ∀ E K w v M a, fin E K w = true → ax_St W sp rf v E K M a [] → P (w.map (ax_v v)) (ax_mA a M)) (ht : rx_tb i pc = some .return_) (h : ax_vrS fin ih E K d fr i st = true) (S : ax_St W sp rf v E K M a fr) : ax_C X P v d fr i (pc, ax_ls v ls, st.map (ax_v v), a, M) := by
  have hs := ax_stp_eq (X := X) (v := v) (ls := ls) (st := st) (a := a) (M := M) ht
  unfold ax_vrS at h
  split at h
  · split at h
    · rename_i hrt
      refine ax_re_ok H hfin (w := none) (hs.trans ?_) rfl rfl h S
      show (match rx_rt i with
        | none => some (.inr (.inr none))
        | _ => none) = some (Sum.inr (Sum.inr none))
      rw [hrt]
    · cases h
  · cases h
end AXZ
