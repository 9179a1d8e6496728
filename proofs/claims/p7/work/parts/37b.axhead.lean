/-! the core: heads of loops, where a run ends because a statement about the head is known -/
abbrev ax_T : Type := Nat → Nat → Option (ax_E → ax_K → Nat → List (Option Value) → Bool)
noncomputable def ax_hd (tab : ax_T) (nx : ax_S) : ax_S := fun E K d fr i pc ls st => match fr with
  | [] => (match tab i pc with
    | some c => (match st with
      | [] => c E K d ls
      | _ => false)
    | none => nx E K d [] i pc ls st)
  | x :: r => nx E K d (x :: r) i pc ls st
noncomputable def ax_Tok (X : Nat × (Nat → Int32)) (P : Option Value → rx_M → Prop) (W : ax_W) (sp : Nat → Nat → Int × Int) (rf : Nat → Nat → Option Nat) (tab : ax_T) : Prop := ∀ i pc c, tab i pc = some c → ∀ E K d ls, c E K d ls = true → ∀ v M a, ax_St W sp rf v E K M a [] → ax_C X P v d [] i (pc, ax_ls v ls, [], a, M)
theorem ax_hd_ok {X : Nat × (Nat → Int32)} {P : Option Value → rx_M → Prop} {W : ax_W} {sp : Nat → Nat → Int × Int} {rf : Nat → Nat → Option Nat} {tab : ax_T} {nx : ax_S} (hT : ax_Tok X P W sp rf tab) (H : ax_H X P W sp rf nx) : ax_H X P W sp rf (ax_hd tab nx) := by
  intro E K d fr i pc ls st h v M a S
  unfold ax_hd at h
  split at h
  · split at h
    · rename_i c hc
      split at h
      · exact hT i pc c hc E K d ls h v M a S
      · cases h
    · exact H E K d [] i pc ls st h v M a S
  · exact H _ _ _ _ _ _ _ _ h v M a S
noncomputable def ax_runT (wd : ax_D) (sp : Nat → Nat → Int × Int) (rf : Nat → Nat → Option Nat) (mx : ax_X) (mt : List (Nat × Nat)) (fin : ax_E → ax_K → Option Value → Bool) (tab : ax_T) (f : Nat) : ax_S := Nat.rec (motive := fun _ => ax_S) (fun _ _ _ _ _ _ _ _ => false) (fun _ ih => ax_hd tab (ax_step wd sp rf mx mt fin ih)) f
theorem ax_runT_ok {X : Nat × (Nat → Int32)} {P : Option Value → rx_M → Prop} {W : ax_W} {sp : Nat → Nat → Int × Int} {rf : Nat → Nat → Option Nat} {mx : ax_X} {mt : List (Nat × Nat)} {fin : ax_E → ax_K → Option Value → Bool} {tab : ax_T}
    (hm : ax_mxok sp mx) (hmt : ax_mtok rf mt) (hsa : ∀ q u n, rx_lay q = some (.inr (u, n)) → ∀ j, sp q j = sp q 0) (hfin : ∀ E K w v M a, fin E K w = true → ax_St W sp rf v E K M a [] → P (w.map (ax_v v)) (ax_mA a M)) (hT : ax_Tok X P W sp rf tab) : ∀ f, ax_H X P W sp rf (ax_runT W.1 sp rf mx mt fin tab f)
  | 0 => fun E K d fr i pc ls st h => by cases h
  | f + 1 => ax_hd_ok hT (ax_step_ok hm hmt hsa hfin (ax_runT_ok hm hmt hsa hfin hT f))
/-- a loop: by strong induction over a measure; I: the states at the head, by their measure -/
theorem ax_loop {S : Type} (m : S → Nat) {I C : S → Prop} (h : ∀ s, I s → (∀ t, I t → m t < m s → C t) → C s) (s : S) (hs : I s) : C s := by
  have k : ∀ n s, m s = n → I s → C s := by
    intro n
    induction n using Nat.strongRecOn with
    | ind n ih =>
      intro s e hs
      exact h s hs (fun t ht hm => ih (m t) (e ▸ hm) t rfl ht)
  exact k _ s rfl hs
