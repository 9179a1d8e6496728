/-! the core: a run with heads of loops and summaries -/
noncomputable def ax_dsub (w W : ax_D) : Bool := w.1.all (fun s => ax_wsl W s.1 s.2) && w.2.all (fun b => ax_wrg W b.1 b.2)
theorem ax_dsub_ok {w W : ax_D} (h : ax_dsub w W = true) : ∀ q j, ax_wd w q j → ax_wd W q j := by
  unfold ax_dsub at h
  rw [Bool.and_eq_true] at h
  rintro q j (h1 | ⟨b, hb, h1, h2⟩)
  · unfold ax_wsl at h1
    obtain ⟨s, hs, h2⟩ := List.any_eq_true.mp h1
    rw [Bool.and_eq_true] at h2
    have k := List.all_eq_true.mp h.1 s hs
    rw [Nat.eq_of_beq_eq_true h2.1, Nat.eq_of_beq_eq_true h2.2] at k
    exact Or.inl k
  · exact ax_wrg_ok (List.all_eq_true.mp h.2 b hb) h1 h2 j
/-- summaries: the method, what must hold at its entry, what it writes, what it leaves -/
abbrev ax_Y : Type := List (Nat × (ax_E → ax_K → Nat → List (Option Value) → Bool) × ax_D × ax_po)
noncomputable def ax_ysel (sum : ax_Y) (i : Nat) (E : ax_E) (K : ax_K) (d : Nat) (ls : List (Option Value)) : Option (ax_D × ax_po) := List.rec (motive := fun _ => Option (ax_D × ax_po)) none (fun s _ ih => cond (Nat.beq s.1 i) (cond (s.2.1 E K d ls) (some s.2.2) ih) ih) sum
theorem ax_ysel_ok {i : Nat} {E : ax_E} {K : ax_K} {d : Nat} {ls : List (Option Value)} {r : ax_D × ax_po} : ∀ sum : ax_Y, ax_ysel sum i E K d ls = some r → ∃ c, (i, c, r) ∈ sum ∧ c E K d ls = true
  | [], h => by cases h
  | s :: t, h => by
    have ih := ax_ysel_ok (i := i) (E := E) (K := K) (d := d) (ls := ls) (r := r) t
    have h' : cond (Nat.beq s.1 i) (cond (s.2.1 E K d ls) (some s.2.2) (ax_ysel t i E K d ls)) (ax_ysel t i E K d ls) = some r := h
    have rest : ax_ysel t i E K d ls = some r → ∃ c, (i, c, r) ∈ s :: t ∧ c E K d ls = true := fun k => by
      obtain ⟨c, c1, c2⟩ := ih k
      exact ⟨c, List.mem_cons_of_mem _ c1, c2⟩
    cases h1 : Nat.beq s.1 i with
    | false => rw [h1] at h'; exact rest h'
    | true =>
      rw [h1, Bool.cond_true] at h'
      cases h2 : s.2.1 E K d ls with
      | false => rw [h2] at h'; exact rest h'
      | true =>
        rw [h2] at h'
        cases h'
        refine ⟨s.2.1, ?_, h2⟩
        rw [← Nat.eq_of_beq_eq_true h1]
        exact List.mem_cons_self
noncomputable def ax_hs (wd : ax_D) (sp : Nat → Nat → Int × Int) (sum : ax_Y) (ih nx : ax_S) : ax_S := fun E K d fr i pc ls st => match fr with
  | [] => nx E K d [] i pc ls st
  | x :: r => cond (Nat.beq pc 0 && st.isEmpty) (match ax_ysel sum i E K d ls with
    | some s => cond (ax_dsub s.1 wd) (ax_sm sp s.1 s.2 ih E K d x.1 x.2.1 x.2.2.1 x.2.2.2 r) false
    | none => nx E K d (x :: r) i pc ls st) (nx E K d (x :: r) i pc ls st)
/-- summaries are right -/
noncomputable def ax_Yok (X : Nat × (Nat → Int32)) (sp : Nat → Nat → Int × Int) (rf : Nat → Nat → Option Nat) (sum : ax_Y) : Prop := ∀ s ∈ sum, ∀ W E K d ls v M a, s.2.1 E K d ls = true → ax_St W sp rf v E K M a [] → ax_C X (ax_Q sp rf s.2.2.1 s.2.2.2 (ax_mA a M)) v d [] s.1 (0, ax_ls v ls, [], a, M)
theorem ax_hs_ok {X : Nat × (Nat → Int32)} {P : Option Value → rx_M → Prop} {W : ax_W} {sp : Nat → Nat → Int × Int} {rf : Nat → Nat → Option Nat} {sum : ax_Y} {ih nx : ax_S} (hY : ax_Yok X sp rf sum) (H : ax_H X P W sp rf ih) (H2 : ax_H X P W sp rf nx) : ax_H X P W sp rf (ax_hs W.1 sp sum ih nx) := by
  intro E K d fr i pc ls st h v M a S
  unfold ax_hs at h
  split at h
  · exact H2 _ _ _ _ _ _ _ _ h v M a S
  · rename_i x r
    cases h0 : (Nat.beq pc 0 && st.isEmpty) with
    | false =>
      rw [h0] at h
      exact H2 _ _ _ _ _ _ _ _ h v M a S
    | true =>
      rw [h0, Bool.cond_true] at h
      split at h
      · rename_i s hs
        replace h := sx_cT (by intro q; cases q) h
        obtain ⟨hd, h⟩ := h
        rw [Bool.and_eq_true] at h0
        have e0 := Nat.eq_of_beq_eq_true h0.1
        have e1 : st = [] := List.isEmpty_iff.mp h0.2
        subst e0
        subst e1
        obtain ⟨c, c1, c2⟩ := ax_ysel_ok sum hs
        have S1 := S
        obtain ⟨s1, s2, s3, s4, s5, s6, s7⟩ := S1
        exact ax_sm_ok (i := x.1) (pc := x.2.1) (ls := x.2.2.1) (st := x.2.2.2) H (ax_dsub_ok hd) (hY _ c1 W E K d ls v M a c2 ⟨s1, s2, s3, s4, s5, s6, rfl, s7.2⟩) h S
      · exact H2 _ _ _ _ _ _ _ _ h v M a S
noncomputable def ax_runS (wd : ax_D) (sp : Nat → Nat → Int × Int) (rf : Nat → Nat → Option Nat) (mx : ax_X) (mt : List (Nat × Nat)) (fin : ax_E → ax_K → Option Value → Bool) (hn : Nat → Nat → Nat) (tab : ax_T) (sum : ax_Y) (f : Nat) : ax_S := Nat.rec (motive := fun _ => ax_S) (fun _ _ _ _ _ _ _ _ => false) (fun _ ih => ax_hs wd sp sum ih (ax_hd tab (ax_hnt hn ih (ax_step wd sp rf mx mt fin ih)))) f
theorem ax_runS_ok {X : Nat × (Nat → Int32)} {P : Option Value → rx_M → Prop} {W : ax_W} {sp : Nat → Nat → Int × Int} {rf : Nat → Nat → Option Nat} {mx : ax_X} {mt : List (Nat × Nat)} {fin : ax_E → ax_K → Option Value → Bool} {hn : Nat → Nat → Nat} {tab : ax_T} {sum : ax_Y}
    (hm : ax_mxok sp mx) (hmt : ax_mtok rf mt) (hsa : ∀ q u n, rx_lay q = some (.inr (u, n)) → ∀ j, sp q j = sp q 0) (hfin : ∀ E K w v M a, fin E K w = true → ax_St W sp rf v E K M a [] → P (w.map (ax_v v)) (ax_mA a M)) (hT : ax_Tok X P W sp rf tab) (hY : ax_Yok X sp rf sum) : ∀ f, ax_H X P W sp rf (ax_runS W.1 sp rf mx mt fin hn tab sum f)
  | 0 => fun E K d fr i pc ls st h => by cases h
  | f + 1 => ax_hs_ok hY (ax_runS_ok hm hmt hsa hfin hT hY f) (ax_hd_ok hT (ax_hnt_ok (ax_runS_ok hm hmt hsa hfin hT hY f) (ax_step_ok hm hmt hsa hfin (ax_runS_ok hm hmt hsa hfin hT hY f))))
