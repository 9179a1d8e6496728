/-! the core: calls in line, answers -/
section AXL
variable {X : Nat × (Nat → Int32)} {P : Option Value → rx_M → Prop} {W : ax_W} {sp : Nat → Nat → Int × Int} {rf : Nat → Nat → Option Nat} {mx : ax_X} {ih : ax_S} {v : ax_V} {E : ax_E} {K : ax_K} {M : rx_M} {a : rx_K} {d i pc : Nat} {fr : ax_F} {ls : List (Option Value)} {st : List Value}
theorem ax_ent_eq {j : Nat} {vs : List Value} : (0, ax_ls v (vs.map some ++ List.replicate (rx_mx j - vs.length) none), ([] : List Value).map (ax_v v), a, M) = rx_ent j (vs.map (ax_v v)) a M := by
  unfold rx_ent ax_ls
  rw [List.map_append, List.map_map, List.map_replicate, List.length_map, List.map_map]
  rfl
theorem ax_C_call {j e : Nat} {vs : List Value} {G : ax_G} {c : rx_C} (h : rx_stp X i c = some (.inr (.inl (j, vs, ax_g v a M G)))) (k : ax_C X P v e ((i, G) :: fr) j (rx_ent j vs a M)) : ax_C X P v (e + 1) fr i c := by
  obtain ⟨f1, o1, k1, c2, k2, f2, o2, k3, k4⟩ := k
  refine ⟨max f1 f2 + 1, o2, ?_, k4⟩
  unfold rx_go
  rw [h]
  show (match rx_go X (max f1 f2) e j (rx_ent j vs a M) with
    | none => none
    | some (r, a', M') => match rx_res i (ax_g v a M G) r a' M' with
      | none => none
      | some c2 => rx_go X (max f1 f2) (e + 1) i c2) = some o2
  rw [rx_go_up (Nat.le_max_left f1 f2) k1]
  obtain ⟨r1, a1, M1⟩ := o1
  dsimp only at k2 ⊢
  have e9 : rx_res i (ax_g v a M G) r1 a1 M1 = rx_res i (ax_g v (0, 0, 0) (fun _ _ => 0, fun _ _ => none, fun _ _ => 0) G) r1 a1 M1 := by
    unfold rx_res ax_g
    rfl
  rw [e9, k2]
  exact rx_go_up (Nat.le_max_right f1 f2) k3
/-- a call: the callee's frame, the caller's waits -/
noncomputable def ax_ca (ih : ax_S) (E : ax_E) (K : ax_K) (d : Nat) (fr : ax_F) (i j : Nat) (vs : List Value) (pc : Nat) (ls : List (Option Value)) (r : List Value) : Bool := match d with
  | 0 => false
  | e + 1 => cond (ax_scO E.1 ls && ax_scS E.1 r) (sx_nf j (fun j => ih E K e ((i, pc, ls, r) :: fr) j 0 (vs.map some ++ List.replicate (rx_mx j - vs.length) none) [])) false
theorem ax_ca_ok (H : ax_H X P W sp rf ih) {j : Nat} {vs r : List Value} {c : rx_C} (hs : rx_stp X i c = some (.inr (.inl (j, vs.map (ax_v v), ax_g v a M (pc, ls, r))))) (h : ax_ca ih E K d fr i j vs pc ls r = true) (S : ax_St W sp rf v E K M a fr) : ax_C X P v d fr i c := by
  obtain ⟨s1, s2, s3, s4, s5, s6, s7⟩ := S
  unfold ax_ca at h
  split at h
  · cases h
  · rename_i e
    replace h := sx_cT (by intro q; cases q) h
    obtain ⟨hc, h⟩ := h
    rw [sx_nf_eq] at h
    have hf : ax_scF E.1 ((i, pc, ls, r) :: fr) = true := by
      have s8 := s7.1
      unfold ax_scF at s8 ⊢
      rw [List.all_cons, s8, Bool.and_true]
      exact hc
    have k9 := H _ _ e _ j 0 _ [] h v M a ⟨s1, s2, s3, s4, s5, s6, hf, s7.2⟩
    rw [ax_ent_eq] at k9
    exact ax_C_call hs k9
noncomputable def ax_mm (E : ax_E) (mn : Bool) (y z : Value) : ax_N := (cond mn (min (ax_iv E y).1 (ax_iv E z).1, min (ax_ivh E y).2 (ax_ivh E z).2) (max (ax_iv E y).1 (ax_iv E z).1, max (ax_ivh E y).2 (ax_ivh E z).2), none, none)
theorem ax_mm_ok (hE : ax_ok v E) {mn : Bool} {y z : Value} (hy : sx_isI y = true) (hz : sx_isI z = true) : ax_Nok v (ax_mm E mn y z) (cond mn (if ax_vi v y < ax_vi v z then ax_vi v y else ax_vi v z) (if ax_vi v z < ax_vi v y then ax_vi v y else ax_vi v z)) := by
  have h1 := ax_iv_ok hE hy
  have h2 := ax_iv_ok hE hz
  have h3 := ax_ivh_ok hE hy
  have h4 := ax_ivh_ok hE hz
  refine ⟨?_, (fun b o h => by cases h), fun p q h => by cases h⟩
  cases mn with
  | true =>
    show min (ax_iv E y).1 (ax_iv E z).1 ≤ (if ax_vi v y < ax_vi v z then ax_vi v y else ax_vi v z).toInt ∧ (if ax_vi v y < ax_vi v z then ax_vi v y else ax_vi v z).toInt ≤ min (ax_ivh E y).2 (ax_ivh E z).2
    by_cases h : ax_vi v y < ax_vi v z
    · rw [if_pos h]
      have := Int32.lt_iff_toInt_lt.mp h
      omega
    · rw [if_neg h]
      have : ¬ (ax_vi v y).toInt < (ax_vi v z).toInt := fun q => h (Int32.lt_iff_toInt_lt.mpr q)
      omega
  | false =>
    show max (ax_iv E y).1 (ax_iv E z).1 ≤ (if ax_vi v z < ax_vi v y then ax_vi v y else ax_vi v z).toInt ∧ (if ax_vi v z < ax_vi v y then ax_vi v y else ax_vi v z).toInt ≤ max (ax_ivh E y).2 (ax_ivh E z).2
    by_cases h : ax_vi v z < ax_vi v y
    · rw [if_pos h]
      have := Int32.lt_iff_toInt_lt.mp h
      omega
    · rw [if_neg h]
      have : ¬ (ax_vi v z).toInt < (ax_vi v y).toInt := fun q => h (Int32.lt_iff_toInt_lt.mpr q)
      omega
/-- an answer, to the frame below or to who asked -/
noncomputable def ax_re (fin : ax_E → ax_K → Option Value → Bool) (ih : ax_S) (E : ax_E) (K : ax_K) (d : Nat) (fr : ax_F) (w : Option Value) : Bool := match fr with
  | [] => fin E K w
  | (i, pc, ls, st) :: r => cond (match w with
    | none => true
    | some w => ax_sh 0 w || ax_sh 2 w) (sx_nf i (fun i => ih E K (d + 1) r i pc ls (w.toList ++ st))) false
theorem ax_re_ok (H : ax_H X P W sp rf ih) {fin : ax_E → ax_K → Option Value → Bool} (hfin : ∀ E K w v M a, fin E K w = true → ax_St W sp rf v E K M a [] → P (w.map (ax_v v)) (ax_mA a M)) {w : Option Value} {c : rx_C} (hs : rx_stp X i c = some (.inr (.inr (w.map (ax_v v))))) (hca : c.2.2.2.1 = a) (hcM : c.2.2.2.2 = M) (h : ax_re fin ih E K d fr w = true) (S : ax_St W sp rf v E K M a fr) : ax_C X P v d fr i c := by
  refine ⟨1, (w.map (ax_v v), a, M), ?_, ?_⟩
  · unfold rx_go
    rw [hs, hca, hcM]
  · have S0 := S
    obtain ⟨s1, s2, s3, s4, s5, s6, s7⟩ := S
    unfold ax_re at h
    split at h
    · exact ⟨hfin E K w v M a h S0, s6.1⟩
    · rename_i i' pc' ls' st' r
      replace h := sx_cT (by intro q; cases q) h
      obtain ⟨hw, h⟩ := h
      rw [sx_nf_eq] at h
      have hf : ax_scF E.1 r = true := by
        have s8 := s7.1
        unfold ax_scF at s8 ⊢
        rw [List.all_cons, Bool.and_eq_true] at s8
        exact s8.2
      obtain ⟨f, o, h1, h2⟩ := H _ _ (d + 1) r i' pc' ls' _ h v M a ⟨s1, s2, s3, s4, s5, s6, hf, s7.2⟩
      refine ⟨_, ?_, f, o, h1, h2⟩
      cases w with
      | none => rfl
      | some w =>
        cases w with
        | int x => rfl
        | retAddr x => rfl
        | long x => rfl
        | double x => rfl
        | _ => cases hw
end AXL
