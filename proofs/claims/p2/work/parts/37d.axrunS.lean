/-! the core: a run with heads of loops and summaries -/
abbrev ax_Y : Type := Nat → Option ((ax_E → ax_K → Nat → List (Option Value) → Bool) × ax_D × (Nat → Bool) × Option (Int × Int))
noncomputable def ax_hs (sum : ax_Y) (ih nx : ax_S) : ax_S := fun E K d fr i pc ls st => match fr with
  | [] => nx E K d [] i pc ls st
  | x :: r => match sum i with
    | some s => cond (Nat.beq pc 0 && st.isEmpty) (cond (s.1 E K d ls) (ax_sm s.2.1 s.2.2.1 s.2.2.2 ih E K d x.1 x.2.1 x.2.2.1 x.2.2.2 r) false) false
    | none => nx E K d (x :: r) i pc ls st
noncomputable def ax_Yok (X : Nat × (Nat → Int32)) (W : ax_W) (sp : Nat → Nat → Int × Int) (rf : Nat → Nat → Option Nat) (sum : ax_Y) : Prop := ∀ j s, sum j = some s → (∀ q, s.2.2.1 q = true → ∀ k, s.2.1.1 q k = false) ∧ (∀ q k, ax_wd s.2.1 q k → ax_wd W.1 q k) ∧ ∀ E K d ls v M a, s.1 E K d ls = true → ax_St W sp rf v E K M a [] → ax_C X (ax_Q sp rf s.2.1 s.2.2.2 M) v d [] j (0, ax_ls v ls, [], a, M)
theorem ax_hs_ok {X : Nat × (Nat → Int32)} {P : Option Value → rx_M → Prop} {W : ax_W} {sp : Nat → Nat → Int × Int} {rf : Nat → Nat → Option Nat} {sum : ax_Y} {ih nx : ax_S} (hY : ax_Yok X W sp rf sum) (H : ax_H X P W sp rf ih) (H2 : ax_H X P W sp rf nx) : ax_H X P W sp rf (ax_hs sum ih nx) := by
  intro E K d fr i pc ls st h v M a S
  unfold ax_hs at h
  split at h
  · exact H2 _ _ _ _ _ _ _ _ h v M a S
  · rename_i x r
    split at h
    · rename_i s hs
      replace h := sx_cT (by intro q; cases q) h
      obtain ⟨h0, h⟩ := h
      replace h := sx_cT (by intro q; cases q) h
      obtain ⟨hc, h⟩ := h
      rw [Bool.and_eq_true] at h0
      have e0 := Nat.eq_of_beq_eq_true h0.1
      have e1 : st = [] := List.isEmpty_iff.mp h0.2
      subst e0
      subst e1
      obtain ⟨y1, y2, y3⟩ := hY i s hs
      have S1 := S
      obtain ⟨s1, s2, s3, s4, s5, s6, s7⟩ := S1
      exact ax_sm_ok (i := x.1) (pc := x.2.1) (ls := x.2.2.1) (st := x.2.2.2) H y1 y2 (y3 E K d ls v M a hc ⟨s1, s2, s3, s4, s5, s6, rfl, s7.2⟩) h S
    · exact H2 _ _ _ _ _ _ _ _ h v M a S
noncomputable def ax_runS (wd : ax_D) (sp : Nat → Nat → Int × Int) (rf : Nat → Nat → Option Nat) (mx : ax_X) (mt : List (Nat × Nat)) (fin : ax_E → ax_K → Option Value → Bool) (tab : ax_T) (sum : ax_Y) (f : Nat) : ax_S := Nat.rec (motive := fun _ => ax_S) (fun _ _ _ _ _ _ _ _ => false) (fun _ ih => ax_hs sum ih (ax_hd tab (ax_step wd sp rf mx mt fin ih))) f
theorem ax_runS_ok {X : Nat × (Nat → Int32)} {P : Option Value → rx_M → Prop} {W : ax_W} {sp : Nat → Nat → Int × Int} {rf : Nat → Nat → Option Nat} {mx : ax_X} {mt : List (Nat × Nat)} {fin : ax_E → ax_K → Option Value → Bool} {tab : ax_T} {sum : ax_Y}
    (hm : ax_mxok sp mx) (hmt : ax_mtok rf mt) (hsa : ∀ q u n, rx_lay q = some (.inr (u, n)) → ∀ j, sp q j = sp q 0) (hfin : ∀ E K w v M a, fin E K w = true → ax_St W sp rf v E K M a [] → P (w.map (ax_v v)) M) (hT : ax_Tok X P W sp rf tab) (hY : ax_Yok X W sp rf sum) : ∀ f, ax_H X P W sp rf (ax_runS W.1 sp rf mx mt fin tab sum f)
  | 0 => fun E K d fr i pc ls st h => by cases h
  | f + 1 => ax_hs_ok hY (ax_runS_ok hm hmt hsa hfin hT hY f) (ax_hd_ok hT (ax_step_ok hm hmt hsa hfin (ax_runS_ok hm hmt hsa hfin hT hY f)))
