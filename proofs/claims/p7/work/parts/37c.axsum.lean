/-! the core: summaries of methods, used at a callee's entry -/
section AXU
variable {X : Nat × (Nat → Int32)} {P : Option Value → rx_M → Prop} {W : ax_W} {sp : Nat → Nat → Int × Int} {rf : Nat → Nat → Option Nat} {ih : ax_S} {v : ax_V} {E : ax_E} {K : ax_K} {M : rx_M} {a : rx_K} {d i pc : Nat} {fr : ax_F} {ls : List (Option Value)} {st : List Value}
/-- what is known still after writes in w -/
noncomputable def ax_kp (w : ax_D) (e : Nat × Value × Value) : Bool := !(w.2.any (fun b => decide (b.1 ≤ (e.1 : Int)) && decide ((e.1 : Int) ≤ b.2))) && ((match e.2.1 with
  | .int x => !(ax_wsl w e.1 x.toNatClampNeg)
  | _ => !(w.1.any (fun s => Nat.beq s.1 e.1))) && (match e.2.2 with
  | .long _ => w.2.all (fun b => decide (b.2 < 24) || decide (173 < b.1)) && w.1.all (fun s => Nat.blt s.1 24 || Nat.blt 173 s.1)
  | _ => true))
theorem ax_kp_ok {w : ax_D} {e : Nat × Value × Value} (h : ax_kp w e = true) : ¬ ax_wd w e.1 (ax_vi v e.2.1).toNatClampNeg := by
  unfold ax_kp at h
  rw [Bool.and_eq_true, Bool.and_eq_true, Bool.not_eq_true'] at h
  obtain ⟨h1, h2, -⟩ := h
  rintro (h3 | ⟨b, hb, h4, h5⟩)
  · split at h2
    · rename_i x hx
      rw [hx] at h3
      have h3 : ax_wsl w e.1 x.toNatClampNeg = true := h3
      rw [h3] at h2
      cases h2
    · rw [Bool.not_eq_true', List.any_eq_false] at h2
      unfold ax_wsl at h3
      obtain ⟨s, hs, h4⟩ := List.any_eq_true.mp h3
      rw [Bool.and_eq_true] at h4
      exact h2 s hs h4.1
  · rw [List.any_eq_false] at h1
    refine h1 b hb ?_
    rw [Bool.and_eq_true]
    exact ⟨decide_eq_true h4, decide_eq_true h5⟩
theorem ax_kp_long {w : ax_D} {e : Nat × Value × Value} {n : Int64} (h : ax_kp w e = true) (hn : e.2.2 = .long n) {q : Nat} (h1 : 24 ≤ q) (h2 : q ≤ 173) (j : Nat) : ¬ ax_wd w q j := by
  unfold ax_kp at h
  rw [Bool.and_eq_true, Bool.and_eq_true, hn] at h
  obtain ⟨-, -, h⟩ := h
  have h : (w.2.all (fun b => decide (b.2 < 24) || decide (173 < b.1)) && w.1.all (fun s => Nat.blt s.1 24 || Nat.blt 173 s.1)) = true := h
  rw [Bool.and_eq_true] at h
  rintro (h3 | ⟨b, hb, h4, h5⟩)
  · unfold ax_wsl at h3
    obtain ⟨s, hs, h4⟩ := List.any_eq_true.mp h3
    rw [Bool.and_eq_true] at h4
    have k := List.all_eq_true.mp h.2 s hs
    have e := Nat.eq_of_beq_eq_true h4.1
    rw [Bool.or_eq_true] at k
    rcases k with k | k
    · have := Nat.blt_eq.mp k
      omega
    · have := Nat.blt_eq.mp k
      omega
  · have k := List.all_eq_true.mp h.1 b hb
    rw [Bool.or_eq_true, decide_eq_true_eq, decide_eq_true_eq] at k
    omega
/-- an answer: none, a long, an int in bounds -/
abbrev ax_an : Type := Option (Option (Int × Int))
/-- an answer; slots that grow, and by how much; whether the customs told are no more than the entries; whether one that is kept is one of the folk; where the answer is 1, bounds of slots -/
abbrev ax_po : Type := ax_an × List (Nat × Nat × Int) × Bool × Bool × List (Nat × Nat × Int × Int)
noncomputable def ax_an1 (an : ax_an) (o : Option Value) : Prop := match an with
  | none => o = none
  | some none => ∃ z, o = some (.long z)
  | some (some b) => ∃ z : Int32, o = some (.int z) ∧ ((b.1 ≤ z.toInt ∧ z.toInt ≤ b.2) ∧ (b.1 = -5 → z.toInt = -4 ∨ 0 ≤ z.toInt))
/-- one that is kept on a shelf is one of the folk -/
noncomputable def ax_g3 (M1 : Nat → Nat → Int32) : Prop := ∀ j, j < 8 → (M1 283 j).toInt = 1 → 0 ≤ (M1 284 j).toInt ∧ (M1 284 j).toInt ≤ 11
noncomputable def ax_bi (M1 : Nat → Nat → Int32) : Prop := (M1 14 12).toInt ≤ (M1 14 16).toInt
/-- no more was made -/
noncomputable def ax_le2 (M M0 : rx_M) : Prop := ∀ q k, M.2.2 q k = 1 → M0.2.2 q k = 1
theorem ax_mA_le {a a0 : rx_K} {M M0 : rx_M} (h : ax_le2 (ax_mA a M) (ax_mA a0 M0)) : a.2.1 ≤ a0.2.1 ∧ a.2.2 ≤ a0.2.2 := by
  have h1 : ∀ k, k < a.2.1 → k < a0.2.1 := fun k hk => by
    have z := h 0 k (by show (if 0 = 0 then (if k < a.2.1 then (1 : Int64) else 0) else (if k < a.2.2 then 1 else 0)) = 1; rw [if_pos rfl, if_pos hk])
    have z : (if 0 = 0 then (if k < a0.2.1 then (1 : Int64) else 0) else (if k < a0.2.2 then 1 else 0)) = 1 := z
    rw [if_pos rfl] at z
    by_cases q : k < a0.2.1
    · exact q
    · rw [if_neg q] at z; cases z
  have h2 : ∀ k, k < a.2.2 → k < a0.2.2 := fun k hk => by
    have z := h 1 k (by show (if 1 = 0 then (if k < a.2.1 then (1 : Int64) else 0) else (if k < a.2.2 then 1 else 0)) = 1; rw [if_neg (by decide), if_pos hk])
    have z : (if 1 = 0 then (if k < a0.2.1 then (1 : Int64) else 0) else (if k < a0.2.2 then 1 else 0)) = 1 := z
    rw [if_neg (by decide)] at z
    by_cases q : k < a0.2.2
    · exact q
    · rw [if_neg q] at z; cases z
  refine ⟨Nat.le_of_not_lt fun q => ?_, Nat.le_of_not_lt fun q => ?_⟩
  · exact Nat.lt_irrefl _ (h1 _ q)
  · exact Nat.lt_irrefl _ (h2 _ q)
theorem ax_le_mA {a a0 : rx_K} {M M0 : rx_M} (h1 : a.2.1 ≤ a0.2.1) (h2 : a.2.2 ≤ a0.2.2) : ax_le2 (ax_mA a M) (ax_mA a0 M0) := fun q k h => by
  have h : (if q = 0 then (if k < a.2.1 then (1 : Int64) else 0) else (if k < a.2.2 then 1 else 0)) = 1 := h
  show (if q = 0 then (if k < a0.2.1 then (1 : Int64) else 0) else (if k < a0.2.2 then 1 else 0)) = 1
  by_cases hq : q = 0
  · rw [if_pos hq] at h ⊢
    by_cases hk : k < a.2.1
    · rw [if_pos (by omega)]
    · rw [if_neg hk] at h; cases h
  · rw [if_neg hq] at h ⊢
    by_cases hk : k < a.2.2
    · rw [if_pos (by omega)]
    · rw [if_neg hk] at h; cases h
/-- what a call leaves: the answer in bounds, the memory in bounds, and nothing changed outside w -/
noncomputable def ax_Q (sp : Nat → Nat → Int × Int) (rf : Nat → Nat → Option Nat) (w : ax_D) (po : ax_po) (M0 : rx_M) (o : Option Value) (M : rx_M) : Prop := ax_an1 po.1 o ∧ ax_J (w, (M0.1, M0.2.1, (0, 0)), 0, fun _ => (0, 0)) sp rf M ∧ (∀ x ∈ po.2.1, (M.1 x.1 x.2.1).toInt = (M0.1 x.1 x.2.1).toInt + x.2.2) ∧ (po.2.2.1 = true → ax_bi M.1) ∧ (po.2.2.2.1 = true → ax_g3 M0.1 → ax_g3 M.1) ∧ (o = some (.int 1) → ∀ x ∈ po.2.2.2.2, x.2.2.1 ≤ (M.1 x.1 x.2.1).toInt ∧ (M.1 x.1 x.2.1).toInt ≤ x.2.2.2) ∧ ax_le2 M M0
/-- a slot is read, whatever is known of it -/
theorem ax_rd_ok {q : Nat} {y : Value} {N : ax_N} {z : Int32} (S : ax_St W sp rf v E K M a fr) (hz : ax_Nok v N z) (hM : M.1 q (ax_vi v y).toNatClampNeg = z) (hy : sx_isI y = true) (hs : ax_sc E.1 y = true) : ax_St W sp rf (ax_up v E.1 (z, 0)) (ax_addN E N) ((q, y, .retAddr E.1) :: K) M a fr := by
  obtain ⟨s1, s2, s3, s4, s5, s6, s7⟩ := S
  obtain ⟨w1, w2⟩ := ax_addN_wf (N := N) s1
  refine ⟨w1, ax_addN_ok s1 s2 hz, ?_, s4, ax_kn_cons (ax_kn_up s3 s5) ?_ hy rfl, s6, by rw [w2]; exact ax_sv_up s7⟩
  · rw [w2]
    intro e he
    rcases List.mem_cons.mp he with q9 | q9
    · rw [q9]
      exact ⟨ax_sc_up hs (Nat.le_succ _), Nat.blt_eq.mpr (Nat.lt_succ_self _)⟩
    · exact ax_kw_le s3 (Nat.le_succ _) e q9
  · rw [ax_vi_up hs, hM]
    show z = (ax_up v E.1 (z, 0) E.1).1
    rw [ax_up_self]
noncomputable def ax_rdN (sp : Nat → Nat → Int × Int) (q j : Nat) : ax_N := (sp q j, none, none)
/-- slots that have grown are known again -/
noncomputable def ax_smi (sp : Nat → Nat → Int × Int) (K0 : ax_K) (k : ax_E → ax_K → Bool) (L : List (Nat × Nat × Int)) : ax_E → ax_K → Bool := List.rec (motive := fun _ => ax_E → ax_K → Bool) k (fun x _ ih E K => match ax_fi x.1 (ax_fx x.2.1) K0 with
  | some s => cond (Nat.beq (Int32.ofNat x.2.1).toNatClampNeg x.2.1) (ih (ax_addN E (sp x.1 x.2.1, ax_off E s x.2.2, none)) ((x.1, ax_fx x.2.1, .retAddr E.1) :: K)) (ih E K)
  | none => ih E K) L
/-- the customs told are no more than the entries -/
noncomputable def ax_smb (sp : Nat → Nat → Int × Int) (k : ax_E → ax_K → Bool) (b : Bool) (E : ax_E) (K : ax_K) : Bool := cond b (k (ax_le (ax_addN (ax_addN E (ax_rdN sp 14 12)) (ax_rdN sp 14 16)) E.1 (E.1 + 1) 0) ((14, ax_fx 16, .retAddr (E.1 + 1)) :: (14, ax_fx 12, .retAddr E.1) :: K)) (k E K)
noncomputable def ax_sma (ih : ax_S) (d i pc : Nat) (ls : List (Option Value)) (st : List Value) (r : ax_F) (an : ax_an) (E : ax_E) (K : ax_K) : Bool := match an with
  | none => ih E K (d + 1) r i pc ls st
  | some none => ax_pshL ih E K (d + 1) r i pc ls st
  | some (some b) => cond (decide (b.1 = -5)) (ax_psh ih E K (d + 1) r i pc ls st ((-4, -4), none, none) none && ax_psh ih E K (d + 1) r i pc ls st ((0, b.2), none, none) none) (ax_psh ih E K (d + 1) r i pc ls st (b, none, none) none)
/-- slots of which bounds are told -/
noncomputable def ax_smp (k : ax_E → ax_K → Bool) (L : List (Nat × Nat × Int × Int)) : ax_E → ax_K → Bool := List.rec (motive := fun _ => ax_E → ax_K → Bool) k (fun x _ ih E K => cond (Nat.beq (Int32.ofNat x.2.1).toNatClampNeg x.2.1) (ih (ax_addN E ((x.2.2.1, x.2.2.2), none, none)) ((x.1, ax_fx x.2.1, .retAddr E.1) :: K)) (ih E K)) L
noncomputable def ax_smq (ih : ax_S) (d i pc : Nat) (ls : List (Option Value)) (st : List Value) (r : ax_F) (an : ax_an) (L : List (Nat × Nat × Int × Int)) (E : ax_E) (K : ax_K) : Bool := cond L.isEmpty (ax_sma ih d i pc ls st r an E K) (match an with
  | some (some b) => cond (decide (b.1 = 0) && decide (b.2 = 1)) (ax_sma ih d i pc ls st r (some (some (0, 0))) E K && ax_smp (ax_sma ih d i pc ls st r (some (some (1, 1)))) L E K) false
  | _ => false)
noncomputable def ax_sm (sp : Nat → Nat → Int × Int) (w : ax_D) (po : ax_po) (ih : ax_S) (E : ax_E) (K : ax_K) (d i pc : Nat) (ls : List (Option Value)) (st : List Value) (r : ax_F) : Bool := ax_smi sp K (ax_smb sp (ax_smq ih d i pc ls st r po.1 po.2.2.2.2) po.2.2.1) po.2.1 E (K.filter (ax_kp w))
theorem ax_scF_tl {n : Nat} {x : Nat × ax_G} {r : ax_F} (h : ax_scF n (x :: r) = true) : ax_scF n r = true := by
  unfold ax_scF at h ⊢
  rw [List.all_cons, Bool.and_eq_true] at h
  exact h.2
theorem ax_sma_ok (H : ax_H X P W sp rf ih) {an : ax_an} {r : ax_F} {o : Option Value} (ho : ax_an1 an o) (h : ax_sma ih d i pc ls st r an E K = true) (S : ax_St W sp rf v E K M a ((i, pc, ls, st) :: r)) : ax_KT X P v ((i, pc, ls, st) :: r) d (o, a, M) := by
  obtain ⟨s1, s2, s3, s4, s5, s6, s7⟩ := S
  have S9 : ax_St W sp rf v E K M a r := ⟨s1, s2, s3, s4, s5, s6, ax_scF_tl s7.1, s7.2⟩
  unfold ax_sma at h
  match an, ho, h with
  | none, ho, h =>
    have e0 : o = none := ho
    subst e0
    obtain ⟨f2, p, k1, k2⟩ := H _ _ _ _ _ _ _ _ h v _ _ S9
    exact ⟨_, rfl, f2, p, k1, k2⟩
  | some none, ho, h =>
    obtain ⟨z, e0⟩ := ho
    subst e0
    obtain ⟨f2, p, k1, k2⟩ := ax_pshL_ok (z := z) H h S9
    exact ⟨_, rfl, f2, p, k1, k2⟩
  | some (some b), ho, h =>
    obtain ⟨z, e0, ⟨b1, b2⟩, b3⟩ := ho
    subst e0
    have go : ∀ {b : Int × Int}, ax_psh ih E K (d + 1) r i pc ls st (b, none, none) none = true → b.1 ≤ z.toInt → z.toInt ≤ b.2 → ax_KT X P v ((i, pc, ls, st) :: r) d (some (.int z), a, M) := fun h b1 b2 => by
      obtain ⟨f2, p, k1, k2⟩ := ax_psh_ok H h S9 (z := z) ⟨⟨b1, b2⟩, (fun b o hb => by cases hb), fun p q hb => by cases hb⟩ (fun q j hq => by cases hq)
      exact ⟨_, rfl, f2, p, k1, k2⟩
    have h : cond (decide (b.1 = -5)) (ax_psh ih E K (d + 1) r i pc ls st ((-4, -4), none, none) none && ax_psh ih E K (d + 1) r i pc ls st ((0, b.2), none, none) none) (ax_psh ih E K (d + 1) r i pc ls st (b, none, none) none) = true := h
    by_cases h5 : b.1 = -5
    · rw [decide_eq_true h5, Bool.cond_true, Bool.and_eq_true] at h
      rcases b3 h5 with q | q
      · exact go h.1 (by dsimp only; omega) (by dsimp only; omega)
      · exact go h.2 (by dsimp only; omega) (by dsimp only; omega)
    · rw [decide_eq_false h5, Bool.cond_false] at h
      exact go h b1 b2
theorem ax_smp_ok {o : rx_O} {k : ax_E → ax_K → Bool} (hk : ∀ E K v, k E K = true → ax_St W sp rf v E K M a fr → ax_KT X P v fr d o) : ∀ (L : List (Nat × Nat × Int × Int)), (∀ x ∈ L, x.2.2.1 ≤ (M.1 x.1 x.2.1).toInt ∧ (M.1 x.1 x.2.1).toInt ≤ x.2.2.2) → ∀ (E : ax_E) (K : ax_K) (v : ax_V), ax_smp k L E K = true → ax_St W sp rf v E K M a fr → ax_KT X P v fr d o
  | [], _, E, K, v, h, S => hk E K v h S
  | x :: r, hL, E, K, v, h, S => by
    have ihr := ax_smp_ok hk r (fun z hz => hL z (List.mem_cons_of_mem _ hz))
    have h' : cond (Nat.beq (Int32.ofNat x.2.1).toNatClampNeg x.2.1) (ax_smp k r (ax_addN E ((x.2.2.1, x.2.2.2), none, none)) ((x.1, ax_fx x.2.1, .retAddr E.1) :: K)) (ax_smp k r E K) = true := h
    cases hj : Nat.beq (Int32.ofNat x.2.1).toNatClampNeg x.2.1 with
    | false =>
      rw [hj] at h'
      exact ihr E K v h' S
    | true =>
      rw [hj, Bool.cond_true] at h'
      have ej := Nat.eq_of_beq_eq_true hj
      have S1 := ax_rd_ok (q := x.1) (y := ax_fx x.2.1) (N := ((x.2.2.1, x.2.2.2), none, none)) (z := M.1 x.1 x.2.1) S ⟨hL x List.mem_cons_self, (fun b o hb => by cases hb), fun p q hb => by cases hb⟩ (by
        have e8 : (ax_vi v (ax_fx x.2.1)).toNatClampNeg = x.2.1 := ej
        rw [e8]) rfl rfl
      exact ax_KT_up fr d o S.2.2.2.2.2.2.1 (ihr _ _ _ h' S1)
theorem ax_smq_ok (H : ax_H X P W sp rf ih) {an : ax_an} {r : ax_F} {o : Option Value} {L : List (Nat × Nat × Int × Int)} (ho : ax_an1 an o) (hL : o = some (.int 1) → ∀ x ∈ L, x.2.2.1 ≤ (M.1 x.1 x.2.1).toInt ∧ (M.1 x.1 x.2.1).toInt ≤ x.2.2.2) (h : ax_smq ih d i pc ls st r an L E K = true) (S : ax_St W sp rf v E K M a ((i, pc, ls, st) :: r)) : ax_KT X P v ((i, pc, ls, st) :: r) d (o, a, M) := by
  unfold ax_smq at h
  cases hl : L.isEmpty with
  | true =>
    rw [hl] at h
    exact ax_sma_ok H ho h S
  | false =>
    rw [hl, Bool.cond_false] at h
    split at h
    · rename_i b
      replace h := sx_cT (by intro q; cases q) h
      obtain ⟨hc, h⟩ := h
      rw [Bool.and_eq_true, decide_eq_true_eq, decide_eq_true_eq] at hc
      rw [Bool.and_eq_true] at h
      obtain ⟨z, e0, ⟨b1, b2⟩, b3⟩ := ho
      by_cases hz : z.toInt = 0
      · exact ax_sma_ok H (an := some (some (0, 0))) ⟨z, e0, ⟨by dsimp only; omega, by dsimp only; omega⟩, fun q => by cases q⟩ h.1 S
      · have e1 : z = 1 := Int32.toInt_inj.mp (by
          have : z.toInt = 1 := by omega
          rw [this]; rfl)
        subst e1
        exact ax_smp_ok (fun E K v hk S => ax_sma_ok H (an := some (some (1, 1))) ⟨1, e0, ⟨by decide, by decide⟩, fun q => by cases q⟩ hk S) L (hL e0) E K v h.2 S
    · cases h
theorem ax_smb_ok {o : rx_O} {k : ax_E → ax_K → Bool} (hk : ∀ E K v, k E K = true → ax_St W sp rf v E K M a fr → ax_KT X P v fr d o) {b : Bool} (hb : b = true → ax_bi M.1) (h : ax_smb sp k b E K = true) (S : ax_St W sp rf v E K M a fr) : ax_KT X P v fr d o := by
  unfold ax_smb at h
  cases b with
  | false => exact hk E K v h S
  | true =>
    rw [Bool.cond_true] at h
    have S1 := ax_rd_ok (q := 14) (y := ax_fx 12) (N := ax_rdN sp 14 12) (z := M.1 14 12) S ⟨S.2.2.2.1.1 14 12, (fun b o hb => by cases hb), fun p q hb => by cases hb⟩ rfl rfl rfl
    have e1 := (ax_addN_wf (N := ax_rdN sp 14 12) S.1).2
    have S2 := ax_rd_ok (q := 14) (y := ax_fx 16) (N := ax_rdN sp 14 16) (z := M.1 14 16) S1 ⟨S.2.2.2.1.1 14 16, (fun b o hb => by cases hb), fun p q hb => by cases hb⟩ rfl rfl rfl
    have e2 := (ax_addN_wf (N := ax_rdN sp 14 16) S1.1).2
    obtain ⟨s1, s2, s3, s4, s5, s6, s7⟩ := S2
    rw [e1] at s3 s5 s7 s2 e2
    have w9 := ax_le_wf (x := E.1) (y := E.1 + 1) (c := 0) s1
    have K2 := hk _ _ _ h ⟨w9.1, ax_le_ok s2 (by omega) (by
      have u1 : ax_up (ax_up v E.1 (M.1 14 12, 0)) (E.1 + 1) (M.1 14 16, 0) E.1 = (M.1 14 12, 0) := by
        rw [ax_up_lt _ _ (Nat.lt_succ_self _), ax_up_self]
      have u2 : ax_up (ax_up v E.1 (M.1 14 12, 0)) (E.1 + 1) (M.1 14 16, 0) (E.1 + 1) = (M.1 14 16, 0) := ax_up_self _ _ _
      rw [u1, u2]
      have := hb rfl
      unfold ax_bi at this
      dsimp only
      omega), by rw [w9.2]; exact s3, s4, s5, s6, by rw [w9.2]; exact s7⟩
    have K1 := ax_KT_up fr d o (by
      have := S1.2.2.2.2.2.2.1
      rw [e1] at this
      exact this) K2
    exact ax_KT_up fr d o S.2.2.2.2.2.2.1 K1
theorem ax_smi_ok {o : rx_O} {k : ax_E → ax_K → Bool} {K0 : ax_K} {M0 : rx_M} {v0 : ax_V} {n0 : Nat} (hK0 : ax_kn v0 K0 M0) (hw0 : ax_kw n0 K0) (hk : ∀ E K v, k E K = true → ax_St W sp rf v E K M a fr → ax_KT X P v fr d o) : ∀ (L : List (Nat × Nat × Int)), (∀ x ∈ L, (M.1 x.1 x.2.1).toInt = (M0.1 x.1 x.2.1).toInt + x.2.2) → ∀ (E : ax_E) (K : ax_K) (v : ax_V), n0 ≤ E.1 → (∀ k, k < n0 → v k = v0 k) → ax_smi sp K0 k L E K = true → ax_St W sp rf v E K M a fr → ax_KT X P v fr d o
  | [], _, E, K, v, _, _, h, S => hk E K v h S
  | x :: r, hL, E, K, v, hn, hv, h, S => by
    have ihr := ax_smi_ok hK0 hw0 hk r (fun z hz => hL z (List.mem_cons_of_mem _ hz))
    have h' : (match ax_fi x.1 (ax_fx x.2.1) K0 with
      | some s => cond (Nat.beq (Int32.ofNat x.2.1).toNatClampNeg x.2.1) (ax_smi sp K0 k r (ax_addN E (sp x.1 x.2.1, ax_off E s x.2.2, none)) ((x.1, ax_fx x.2.1, .retAddr E.1) :: K)) (ax_smi sp K0 k r E K)
      | none => ax_smi sp K0 k r E K) = true := h
    split at h'
    · rename_i s hs
      cases hj : Nat.beq (Int32.ofNat x.2.1).toNatClampNeg x.2.1 with
      | false =>
        rw [hj] at h'
        exact ihr E K v hn hv h' S
      | true =>
        rw [hj, Bool.cond_true] at h'
        have ej := Nat.eq_of_beq_eq_true hj
        obtain ⟨f1, f2⟩ := ax_fi_ok hK0 hs
        have e9 : (ax_vi v0 (ax_fx x.2.1)).toNatClampNeg = x.2.1 := ej
        rw [e9] at f2
        have hxx := hL x List.mem_cons_self
        have hsc : ax_sc n0 s = true := by
          have h1 := hs
          unfold ax_fi at h1
          split at h1
          · rename_i u hu
            cases hu2 : sx_isI u with
            | true => rw [hu2] at h1; cases h1; exact ax_find_sc K0 hw0 hu
            | false => rw [hu2] at h1; cases h1
          · cases h1
        have evs : ax_vi v s = ax_vi v0 s := by
          cases s with
          | retAddr k => show (v k).1 = (v0 k).1; rw [hv k (Nat.blt_eq.mp hsc)]
          | _ => rfl
        have S1 := ax_rd_ok (q := x.1) (y := ax_fx x.2.1) (N := (sp x.1 x.2.1, ax_off E s x.2.2, none)) (z := M.1 x.1 x.2.1) S ⟨S.2.2.2.1.1 _ _, (fun b o hb => by
          have k1 := ax_off_ok S.2.1 hb
          rw [evs, ← f2] at k1
          omega), fun p q hb => by cases hb⟩ (by
            have e8 : (ax_vi v (ax_fx x.2.1)).toNatClampNeg = x.2.1 := ej
            rw [e8]) rfl rfl
        have e1 := (ax_addN_wf (N := (sp x.1 x.2.1, ax_off E s x.2.2, none)) S.1).2
        exact ax_KT_up fr d o S.2.2.2.2.2.2.1 (ihr _ _ _ (by rw [e1]; omega) (fun k hk => by
          rw [ax_up_lt _ _ (by omega)]
          exact hv k hk) h' S1)
    · exact ihr E K v hn hv h' S
theorem ax_sm_ok (H : ax_H X P W sp rf ih) {w : ax_D} {po : ax_po} {j : Nat} {c : rx_C} {r : ax_F} (hsub : ∀ q j, ax_wd w q j → ax_wd W.1 q j)
    (hQ : ax_C X (ax_Q sp rf w po (ax_mA a M)) v d [] j c) (h : ax_sm sp w po ih E K d i pc ls st r = true) (S : ax_St W sp rf v E K M a ((i, pc, ls, st) :: r)) : ax_C X P v d ((i, pc, ls, st) :: r) j c := by
  obtain ⟨s1, s2, s3, s4, s5, s6, s7⟩ := S
  obtain ⟨f, o, h1, h2, h3⟩ := hQ
  obtain ⟨h4, h5, h6, h7, -, h8, h9⟩ := h2
  have hle := ax_mA_le h9
  have S9 : ax_St W sp rf v E (K.filter (ax_kp w)) o.2.2 o.2.1 ((i, pc, ls, st) :: r) := by
    refine ⟨s1, s2, fun e he => s3 e (List.mem_filter.mp he).1, ⟨h5.1, h5.2.1, fun q k hn => ?_, h5.2.2.2⟩, fun e he => ?_, ⟨h3, Nat.le_trans hle.1 s6.2.1, Nat.le_trans hle.2 s6.2.2⟩, s7⟩
    · have h8 := h5.2.2.1 q k (fun z => hn (hsub q k z))
      have h9 := s4.2.2.1 q k hn
      exact ⟨h8.1.trans h9.1, h8.2.trans h9.2⟩
    · obtain ⟨k1, k2⟩ := List.mem_filter.mp he
      have k3 := s5 e k1
      have k4 := h5.2.2.1 _ _ (ax_kp_ok (v := v) k2)
      refine ⟨k3.1, ?_⟩
      rcases k3.2 with k | k | ⟨n, k, k0, k5⟩
      · exact Or.inl ⟨k.1, k4.1.trans k.2⟩
      · exact Or.inr (Or.inl ⟨k.1, k4.2.trans k.2⟩)
      · refine Or.inr (Or.inr ⟨n, k, k0, fun j hj => ?_⟩)
        have k6 := h5.2.2.1 (24 + (ax_vi v e.2.1).toNatClampNeg) j (ax_kp_long k2 k (by omega) (by omega) j)
        have e9 : o.2.2.1 (24 + (ax_vi v e.2.1).toNatClampNeg) j = M.1 (24 + (ax_vi v e.2.1).toNatClampNeg) j := k6.1
        show 0 ≤ (o.2.2.1 (24 + (ax_vi v e.2.1).toNatClampNeg) j).toInt ∧ _
        rw [e9]
        exact k5 j hj
  refine ⟨f, o, h1, ?_⟩
  exact ax_smi_ok (o := o) (M := o.2.2) (M0 := M) s5 s3 (fun E K v hk S => ax_smb_ok (fun E K v hk S => ax_smq_ok H h4 h8 hk S) h7 hk S) po.2.1 h6 E _ v (Nat.le_refl _) (fun _ _ => rfl) h S9
end AXU
