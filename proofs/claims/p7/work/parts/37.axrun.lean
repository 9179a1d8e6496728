/-! the core: one step, a run (loops are not cut yet) -/
noncomputable def ax_isS (wd : ax_D) (sp : Nat → Nat → Int × Int) (mx : ax_X) (ih : ax_S) (E : ax_E) (K : ax_K) (d : Nat) (fr : ax_F) (i x pc : Nat) (ls : List (Option Value)) (st : List Value) : Bool := match rx_ml (rx_cn i) x with
  | some (12, _, _) => ax_acS wd sp mx ih E K d fr i pc ls st
  | _ => ax_ivS ih E K d fr i 1 x pc ls st
theorem ax_isS_ok {X : Nat × (Nat → Int32)} {P : Option Value → rx_M → Prop} {W : ax_W} {sp : Nat → Nat → Int × Int} {rf : Nat → Nat → Option Nat} {mx : ax_X} {ih : ax_S} {v : ax_V} {E : ax_E} {K : ax_K} {M : rx_M} {a : rx_K} {d i x pc : Nat} {fr : ax_F} {ls : List (Option Value)} {st : List Value} (H : ax_H X P W sp rf ih) (hm : ax_mxok sp mx) (hsa : ∀ q u n, rx_lay q = some (.inr (u, n)) → ∀ j, sp q j = sp q 0) (ht : rx_tb i pc = some (.invokestatic x)) (h : ax_isS W.1 sp mx ih E K d fr i x pc ls st = true) (S : ax_St W sp rf v E K M a fr) : ax_C X P v d fr i (pc, ax_ls v ls, st.map (ax_v v), a, M) := by
  unfold ax_isS at h
  split at h
  · rename_i hl
    exact ax_acS_ok H hm hsa hl ht h S
  · exact ax_ivS_ok H (ax_stp_eq ht) h S
noncomputable def ax_step (wd : ax_D) (sp : Nat → Nat → Int × Int) (rf : Nat → Nat → Option Nat) (mx : ax_X) (mt : List (Nat × Nat)) (fin : ax_E → ax_K → Option Value → Bool) (ih : ax_S) : ax_S := fun E K d fr i pc ls st => match rx_tb i pc with
  | none => false
  | some ins => match ax_pins E ins pc ls st with
    | some o => ax_pst ih E K d fr i pc ls st o
    | none => match ins with
      | .iinc k c => ax_incS ih E K d fr i k c pc ls st
      | .getfield x => ax_gfS sp rf ih E K d fr i x pc ls st
      | .putfield x => ax_pfS wd sp rf mx ih E K d fr i x pc ls st
      | .iaload => ax_alS sp mx ih E K d fr i 0 pc ls st
      | .baload => ax_alS sp mx ih E K d fr i 1 pc ls st
      | .aaload => ax_aaS rf mx mt ih E K d fr i pc ls st
      | .iastore => cond (Nat.beq i 237 && Nat.beq pc 39) (ax_keS wd sp rf mx ih E K d fr i ls st) (ax_asS wd sp mx ih E K d fr i 0 pc ls st)
      | .bastore => ax_asS wd sp mx ih E K d fr i 1 pc ls st
      | .arraylength => ax_alnS mx ih E K d fr i pc ls st
      | .invokevirtual x => ax_ivS ih E K d fr i 0 x pc ls st
      | .invokestatic x => ax_isS wd sp mx ih E K d fr i x pc ls st
      | .invokespecial x => ax_ivS ih E K d fr i 2 x pc ls st
      | .ireturn => ax_irS fin ih E K d fr i st
      | .lreturn => ax_lrS fin ih E K d fr i st
      | .return_ => ax_vrS fin ih E K d fr i st
      | _ => false
theorem ax_step_ok {X : Nat × (Nat → Int32)} {P : Option Value → rx_M → Prop} {W : ax_W} {sp : Nat → Nat → Int × Int} {rf : Nat → Nat → Option Nat} {mx : ax_X} {mt : List (Nat × Nat)} {fin : ax_E → ax_K → Option Value → Bool} {ih : ax_S}
    (hm : ax_mxok sp mx) (hmt : ax_mtok rf mt) (hsa : ∀ q u n, rx_lay q = some (.inr (u, n)) → ∀ j, sp q j = sp q 0) (hfin : ∀ E K w v M a, fin E K w = true → ax_St W sp rf v E K M a [] → P (w.map (ax_v v)) (ax_mA a M)) (H : ax_H X P W sp rf ih) : ax_H X P W sp rf (ax_step W.1 sp rf mx mt fin ih) := by
  intro E K d fr i pc ls st h v M a S
  unfold ax_step at h
  split at h
  · cases h
  · rename_i ins ht
    split at h
    · rename_i o ho
      exact ax_pst_ok H ht ho h S
    · split at h
      · exact ax_incS_ok H ht h S
      · exact ax_gfS_ok H ht h S
      · exact ax_pfS_ok H hm ht h S
      · exact ax_alS_ok H hm hsa ht (Or.inl ⟨rfl, rfl⟩) h S
      · exact ax_alS_ok H hm hsa ht (Or.inr ⟨rfl, rfl⟩) h S
      · exact ax_aaS_ok H hm hmt ht h S
      · cases hb : (Nat.beq i 237 && Nat.beq pc 39) with
        | true =>
          rw [hb, Bool.cond_true] at h
          rw [Bool.and_eq_true] at hb
          have e1 := Nat.eq_of_beq_eq_true hb.1
          have e2 := Nat.eq_of_beq_eq_true hb.2
          subst e1
          subst e2
          exact ax_keS_ok H hm hsa h S
        | false =>
          rw [hb, Bool.cond_false] at h
          exact ax_asS_ok H hm hsa ht (Or.inl ⟨rfl, rfl⟩) h S
      · exact ax_asS_ok H hm hsa ht (Or.inr ⟨rfl, rfl⟩) h S
      · exact ax_alnS_ok H hm ht h S
      · exact ax_ivS_ok H (ax_stp_eq ht) h S
      · exact ax_isS_ok H hm hsa ht h S
      · exact ax_ivS_ok H (ax_stp_eq ht) h S
      · exact ax_irS_ok H hfin ht h S
      · exact ax_lrS_ok H hfin ht h S
      · exact ax_vrS_ok H hfin ht h S
      · cases h
noncomputable def ax_run (wd : ax_D) (sp : Nat → Nat → Int × Int) (rf : Nat → Nat → Option Nat) (mx : ax_X) (mt : List (Nat × Nat)) (fin : ax_E → ax_K → Option Value → Bool) (f : Nat) : ax_S := Nat.rec (motive := fun _ => ax_S) (fun _ _ _ _ _ _ _ _ => false) (fun _ ih => ax_step wd sp rf mx mt fin ih) f
theorem ax_run_ok {X : Nat × (Nat → Int32)} {P : Option Value → rx_M → Prop} {W : ax_W} {sp : Nat → Nat → Int × Int} {rf : Nat → Nat → Option Nat} {mx : ax_X} {mt : List (Nat × Nat)} {fin : ax_E → ax_K → Option Value → Bool}
    (hm : ax_mxok sp mx) (hmt : ax_mtok rf mt) (hsa : ∀ q u n, rx_lay q = some (.inr (u, n)) → ∀ j, sp q j = sp q 0) (hfin : ∀ E K w v M a, fin E K w = true → ax_St W sp rf v E K M a [] → P (w.map (ax_v v)) (ax_mA a M)) : ∀ f, ax_H X P W sp rf (ax_run W.1 sp rf mx mt fin f)
  | 0 => fun E K d fr i pc ls st h => by cases h
  | f + 1 => ax_step_ok hm hmt hsa hfin (ax_run_ok hm hmt hsa hfin f)
