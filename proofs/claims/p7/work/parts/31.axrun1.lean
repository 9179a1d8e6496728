/-! the core: going on, in a frame and below it -/
/-- the frames below: methods, where they go on -/
abbrev ax_F : Type := List (Nat × ax_G)
abbrev ax_S : Type := ax_E → ax_K → Nat → ax_F → Nat → Nat → List (Option Value) → List Value → Bool
noncomputable def ax_scF (n : Nat) (fr : ax_F) : Bool := fr.all (fun x => ax_scO n x.2.2.1 && ax_scS n x.2.2.2)
noncomputable def ax_psh (ih : ax_S) (E : ax_E) (K : ax_K) (d : Nat) (fr : ax_F) (i pc : Nat) (ls : List (Option Value)) (st : List Value) (N : ax_N) (rec : Option (Nat × Value)) : Bool := cond (ax_scO E.1 ls && ax_scS E.1 st) (ih (ax_addN E N) (match rec with
  | some (q, j) => cond (ax_sc E.1 j) ((q, j, .retAddr E.1) :: K) K
  | none => K) d fr i pc ls (.retAddr E.1 :: st)) false
noncomputable def ax_pshL (ih : ax_S) (E : ax_E) (K : ax_K) (d : Nat) (fr : ax_F) (i pc : Nat) (ls : List (Option Value)) (st : List Value) : Bool := cond (ax_scO E.1 ls && (ax_scS E.1 st && Nat.beq (UInt64.ofNat E.1).toNat E.1)) (ih (ax_addN E ax_free) K d fr i pc ls (.double (UInt64.ofNat E.1) :: st)) false
/-- what follows a step that keeps memory -/
noncomputable def ax_pst (ih : ax_S) (E : ax_E) (K : ax_K) (d : Nat) (fr : ax_F) (i pc : Nat) (ls : List (Option Value)) (st : List Value) (o : ax_O) : Bool := match o with
  | .inr (k, b) => ih (ax_lo E k b) K d fr i pc ls st && ih (ax_up2 E k b) K d fr i pc ls st
  | .inl r => match r with
    | none => false
    | some r => match r with
      | .inl (pc, ls, st) => ih E K d fr i pc ls st
      | .inr r => match r with
        | .inl ((pc, ls, st), N) => ax_psh ih E K d fr i pc ls st N none
        | .inr r => match r with
          | .inl (pc, ls, st) => ax_pshL ih E K d fr i pc ls st
          | .inr (((p1, l1, s1), F1), ((p2, l2, s2), F2)) => ih (ax_addF E F1) K d fr i p1 l1 s1 && ih (ax_addF E F2) K d fr i p2 l2 s2
/-- a memory that tells by its longs how much was made -/
noncomputable def ax_mA (a : rx_K) (M : rx_M) : rx_M := (M.1, M.2.1, fun q k => if q = 0 then (if k < a.2.1 then 1 else 0) else (if k < a.2.2 then 1 else 0))
/-- what the frames below make of an answer -/
noncomputable def ax_KT (X : Nat × (Nat → Int32)) (P : Option Value → rx_M → Prop) (v : ax_V) : ax_F → Nat → rx_O → Prop
  | [], _, o => P o.1 (ax_mA o.2.1 o.2.2) ∧ o.2.1.1 = rx_cells
  | x :: fr, d, o => ∃ c2, rx_res x.1 (ax_g v (0, 0, 0) (fun _ _ => 0, fun _ _ => none, fun _ _ => 0) x.2) o.1 o.2.1 o.2.2 = some c2 ∧ ∃ f o2, rx_go X f (d + 1) x.1 c2 = some o2 ∧ ax_KT X P v fr (d + 1) o2
noncomputable def ax_C (X : Nat × (Nat → Int32)) (P : Option Value → rx_M → Prop) (v : ax_V) (d : Nat) (fr : ax_F) (i : Nat) (c : rx_C) : Prop := ∃ f o, rx_go X f d i c = some o ∧ ax_KT X P v fr d o
/-- the unknowns that the run began with are still what they were -/
noncomputable def ax_sv (W : ax_W) (v : ax_V) (n : Nat) (fr : ax_F) : Prop := ax_scF n fr = true ∧ W.2.2.1 ≤ n ∧ ∀ k, k < W.2.2.1 → v k = W.2.2.2 k
/-- the cells are there, and no more was made than may have been -/
noncomputable def ax_ka (W : ax_W) (a : rx_K) : Prop := a.1 = rx_cells ∧ a.2.1 ≤ W.2.1.2.2.1 ∧ a.2.2 ≤ W.2.1.2.2.2
noncomputable def ax_St (W : ax_W) (sp : Nat → Nat → Int × Int) (rf : Nat → Nat → Option Nat) (v : ax_V) (E : ax_E) (K : ax_K) (M : rx_M) (a : rx_K) (fr : ax_F) : Prop := ax_wf E ∧ ax_ok v E ∧ ax_kw E.1 K ∧ ax_J W sp rf M ∧ ax_kn v K M ∧ ax_ka W a ∧ ax_sv W v E.1 fr
/-- going on is right -/
noncomputable def ax_H (X : Nat × (Nat → Int32)) (P : Option Value → rx_M → Prop) (W : ax_W) (sp : Nat → Nat → Int × Int) (rf : Nat → Nat → Option Nat) (ih : ax_S) : Prop := ∀ E K d fr i pc ls st, ih E K d fr i pc ls st = true → ∀ v M a, ax_St W sp rf v E K M a fr → ax_C X P v d fr i (pc, ax_ls v ls, st.map (ax_v v), a, M)
theorem ax_scF_le {n m : Nat} {fr : ax_F} (h : ax_scF n fr = true) (hm : n ≤ m) : ax_scF m fr = true := by
  unfold ax_scF at h ⊢
  rw [List.all_eq_true] at h ⊢
  intro x hx
  have h1 := h x hx
  rw [Bool.and_eq_true] at h1 ⊢
  exact ⟨ax_scO_le h1.1 hm, ax_scS_le h1.2 hm⟩
theorem ax_sv_up {W : ax_W} {v : ax_V} {n : Nat} {x : Int32 × Int64} {fr : ax_F} (h : ax_sv W v n fr) : ax_sv W (ax_up v n x) (n + 1) fr := by
  refine ⟨ax_scF_le h.1 (Nat.le_succ _), Nat.le_succ_of_le h.2.1, fun k hk => ?_⟩
  have h1 := h.2.1
  show (if k = n then x else v k) = _
  rw [if_neg (by omega)]
  exact h.2.2 k hk
section AXR
variable {X : Nat × (Nat → Int32)} {P : Option Value → rx_M → Prop} {W : ax_W} {sp : Nat → Nat → Int × Int} {rf : Nat → Nat → Option Nat} {ih : ax_S} {v : ax_V} {E : ax_E} {K : ax_K} {M : rx_M} {a : rx_K} {d i pc : Nat} {fr : ax_F} {ls : List (Option Value)} {st : List Value}
theorem ax_KT_up {n : Nat} {x : Int32 × Int64} : ∀ (fr : ax_F) (d : Nat) (o : rx_O), ax_scF n fr = true → ax_KT X P (ax_up v n x) fr d o → ax_KT X P v fr d o
  | [], _, _, _, h => h
  | y :: r, d, o, hs, h => by
    unfold ax_scF at hs
    rw [List.all_cons, Bool.and_eq_true, Bool.and_eq_true] at hs
    obtain ⟨c2, h1, f, o2, h2, h3⟩ := h
    have e : ax_g (ax_up v n x) (0, 0, 0) (fun _ _ => 0, fun _ _ => none, fun _ _ => 0) y.2 = ax_g v (0, 0, 0) (fun _ _ => 0, fun _ _ => none, fun _ _ => 0) y.2 := by
      unfold ax_g
      rw [ax_ls_up hs.1.1, ax_st_up hs.1.2]
    rw [e] at h1
    exact ⟨c2, h1, f, o2, h2, ax_KT_up r (d + 1) o2 hs.2 h3⟩
theorem ax_C_step {c c' : rx_C} (h : rx_stp X i c = some (.inl c')) (k : ax_C X P v d fr i c') : ax_C X P v d fr i c := by
  obtain ⟨f, o, h1, h2⟩ := k
  refine ⟨f + 1, o, ?_, h2⟩
  unfold rx_go
  rw [h]
  exact h1
theorem ax_psh_ok (H : ax_H X P W sp rf ih) {N : ax_N} {rec : Option (Nat × Value)} (h : ax_psh ih E K d fr i pc ls st N rec = true) (S : ax_St W sp rf v E K M a fr) {z : Int32} (hz : ax_Nok v N z) (hr : ∀ q j, rec = some (q, j) → M.1 q (ax_vi v j).toNatClampNeg = z ∧ sx_isI j = true) : ax_C X P v d fr i (pc, ax_ls v ls, .int z :: st.map (ax_v v), a, M) := by
  obtain ⟨s1, s2, s3, s4, s5, s6, s7⟩ := S
  unfold ax_psh at h
  obtain ⟨hc, h⟩ := sx_cT (by intro q; cases q) h
  rw [Bool.and_eq_true] at hc
  obtain ⟨w1, w2⟩ := ax_addN_wf (N := N) s1
  have k1 : ax_kw (E.1 + 1) K := ax_kw_le s3 (Nat.le_succ _)
  have k2 : ax_kn (ax_up v E.1 (z, 0)) K M := ax_kn_up s3 s5
  have K9 := H _ _ d fr i pc ls _ h (ax_up v E.1 (z, 0)) M a ⟨w1, ax_addN_ok s1 s2 hz, by
    rw [w2]
    split
    · rename_i q j _
      cases hj : ax_sc E.1 j
      · exact k1
      · intro e he
        rcases List.mem_cons.mp he with q9 | q9
        · rw [q9]
          exact ⟨ax_sc_up hj (Nat.le_succ _), Nat.blt_eq.mpr (Nat.lt_succ_self _)⟩
        · exact k1 e q9
    · exact k1, s4, by
    split
    · rename_i q j _
      cases hj : ax_sc E.1 j
      · exact k2
      · obtain ⟨r1, r2⟩ := hr q j rfl
        refine ax_kn_cons k2 ?_ r2 rfl
        rw [ax_vi_up hj, r1]
        show z = (ax_up v E.1 (z, 0) E.1).1
        rw [ax_up_self]
    · exact k2, s6, by rw [w2]; exact ax_sv_up s7⟩
  obtain ⟨f, o, h1, h2⟩ := K9
  refine ⟨f, o, ?_, ax_KT_up fr d o s7.1 h2⟩
  rw [ax_ls_up hc.1, List.map_cons, ax_st_up hc.2] at h1
  have e : ax_v (ax_up v E.1 (z, 0)) (.retAddr E.1) = .int z := by
    show Value.int (ax_up v E.1 (z, 0) E.1).1 = _
    rw [ax_up_self]
  rw [e] at h1
  exact h1
theorem ax_pshL_ok (H : ax_H X P W sp rf ih) (h : ax_pshL ih E K d fr i pc ls st = true) (S : ax_St W sp rf v E K M a fr) {z : Int64} : ax_C X P v d fr i (pc, ax_ls v ls, .long z :: st.map (ax_v v), a, M) := by
  obtain ⟨s1, s2, s3, s4, s5, s6, s7⟩ := S
  unfold ax_pshL at h
  obtain ⟨hc, h⟩ := sx_cT (by intro q; cases q) h
  simp only [Bool.and_eq_true] at hc
  obtain ⟨w1, w2⟩ := ax_addN_wf (N := ax_free) s1
  have K9 := H _ _ d fr i pc ls _ h (ax_up v E.1 (0, z)) M a ⟨w1, ax_addN_ok s1 s2 (ax_free_ok 0), by rw [w2]; exact ax_kw_le s3 (Nat.le_succ _), s4, ax_kn_up s3 s5, s6, by rw [w2]; exact ax_sv_up s7⟩
  obtain ⟨f, o, h1, h2⟩ := K9
  refine ⟨f, o, ?_, ax_KT_up fr d o s7.1 h2⟩
  rw [ax_ls_up hc.1, List.map_cons, ax_st_up hc.2.1] at h1
  have e : ax_v (ax_up v E.1 (0, z)) (.double (UInt64.ofNat E.1)) = .long z := by
    show Value.long (ax_up v E.1 (0, z) (UInt64.ofNat E.1).toNat).2 = _
    rw [Nat.eq_of_beq_eq_true hc.2.2, ax_up_self]
  rw [e] at h1
  exact h1
/-- a step that keeps memory -/
theorem ax_pst_ok (H : ax_H X P W sp rf ih) {ins : Instr} {o : ax_O} (ht : rx_tb i pc = some ins) (hp : ax_pins E ins pc ls st = some o) (h : ax_pst ih E K d fr i pc ls st o = true) (S : ax_St W sp rf v E K M a fr) : ax_C X P v d fr i (pc, ax_ls v ls, st.map (ax_v v), a, M) := by
  have hstp : rx_stp X i (pc, ax_ls v ls, st.map (ax_v v), a, M) = rx_ins X i ins pc (ax_ls v ls) (st.map (ax_v v)) a M := by
    unfold rx_stp
    show (match rx_tb i pc with
      | none => none
      | some ins => rx_ins X i ins pc (ax_ls v ls) (st.map (ax_v v)) a M) = _
    rw [ht]
  obtain ⟨s1, s2, s3, s4, s5, s6, s7⟩ := S
  unfold ax_pst at h
  split at h
  · rename_i k b
    rw [Bool.and_eq_true] at h
    by_cases hk : (v k).1.toInt ≤ b
    · obtain ⟨w1, w2⟩ := ax_lo_wf (k := k) (b := b) s1
      exact H _ _ d fr i pc ls st h.1 v M a ⟨w1, ax_lo_ok s2 hk, by rw [w2]; exact s3, s4, s5, s6, by rw [w2]; exact s7⟩
    · obtain ⟨w1, w2⟩ := ax_up2_wf (k := k) (b := b) s1
      exact H _ _ d fr i pc ls st h.2 v M a ⟨w1, ax_up2_ok s2 (by omega), by rw [w2]; exact s3, s4, s5, s6, by rw [w2]; exact s7⟩
  · split at h
    · cases h
    · rename_i R
      have hr := ax_pins_ok (X := X) (i := i) (v := v) (a := a) (M := M) (R := R) s2 hp rfl
      rw [← hstp] at hr
      split at h
      · rename_i p1 l1 q1
        exact ax_C_step hr (H _ _ d fr i p1 l1 q1 h v M a ⟨s1, s2, s3, s4, s5, s6, s7⟩)
      · split at h
        · rename_i p1 l1 q1 N
          obtain ⟨z, h1, h2⟩ := hr
          exact ax_C_step h1 (ax_psh_ok H h ⟨s1, s2, s3, s4, s5, s6, s7⟩ h2 (fun q j hq => by cases hq))
        · split at h
          · rename_i p1 l1 q1
            obtain ⟨z, h1⟩ := hr
            exact ax_C_step h1 (ax_pshL_ok H h ⟨s1, s2, s3, s4, s5, s6, s7⟩)
          · rename_i p1 l1 q1 F1 p2 l2 q2 F2
            rw [Bool.and_eq_true] at h
            rcases hr with ⟨h1, h2⟩ | ⟨h1, h2⟩
            · obtain ⟨w1, w2⟩ := ax_addF_wf (F := F1) s1
              exact ax_C_step h1 (H _ _ d fr i p1 l1 q1 h.1 v M a ⟨w1, ax_addF_ok s2 h2, by rw [w2]; exact s3, s4, s5, s6, by rw [w2]; exact s7⟩)
            · obtain ⟨w1, w2⟩ := ax_addF_wf (F := F2) s1
              exact ax_C_step h1 (H _ _ d fr i p2 l2 q2 h.2 v M a ⟨w1, ax_addF_ok s2 h2, by rw [w2]; exact s3, s4, s5, s6, by rw [w2]; exact s7⟩)
end AXR
