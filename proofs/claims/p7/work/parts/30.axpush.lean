/-! the core: a new unknown -/
noncomputable def ax_scS (n : Nat) (st : List Value) : Bool := st.all (ax_sc n)
noncomputable def ax_scO (n : Nat) (ls : List (Option Value)) : Bool := ls.all (fun o => match o with
  | some w => ax_sc n w
  | none => true)
theorem ax_st_up {v : ax_V} {n : Nat} {x : Int32 × Int64} {st : List Value} (h : ax_scS n st = true) : st.map (ax_v (ax_up v n x)) = st.map (ax_v v) := by
  unfold ax_scS at h
  exact List.map_congr_left fun w hw => ax_v_up (List.all_eq_true.mp h w hw)
theorem ax_ls_up {v : ax_V} {n : Nat} {x : Int32 × Int64} {ls : List (Option Value)} (h : ax_scO n ls = true) : ax_ls (ax_up v n x) ls = ax_ls v ls := by
  unfold ax_scO at h
  unfold ax_ls
  refine List.map_congr_left fun o ho => ?_
  have h1 := List.all_eq_true.mp h o ho
  cases o with
  | none => rw [Option.map_none, Option.map_none]
  | some w =>
    have h2 : ax_sc n w = true := h1
    rw [Option.map_some, Option.map_some, ax_v_up h2]
theorem ax_scS_le {n m : Nat} {st : List Value} (h : ax_scS n st = true) (hm : n ≤ m) : ax_scS m st = true := by
  unfold ax_scS at h ⊢
  rw [List.all_eq_true] at h ⊢
  exact fun w hw => ax_sc_up (h w hw) hm
theorem ax_scO_le {n m : Nat} {ls : List (Option Value)} (h : ax_scO n ls = true) (hm : n ≤ m) : ax_scO m ls = true := by
  unfold ax_scO at h ⊢
  rw [List.all_eq_true] at h ⊢
  intro o ho
  have h1 := h o ho
  cases o with
  | none => rfl
  | some w =>
    have h2 : ax_sc n w = true := h1
    show ax_sc m w = true
    exact ax_sc_up h2 hm
theorem ax_kw_le {n m : Nat} {K : ax_K} (h : ax_kw n K) (hm : n ≤ m) : ax_kw m K := fun e he => ⟨ax_sc_up (h e he).1 hm, ax_sc_up (h e he).2 hm⟩
/-- what is told of the newest -/
noncomputable def ax_addD (E : ax_E) (n : Nat) (d : Option (Nat × Int)) : ax_E := match d with
  | some (b, o) => cond (Nat.blt b n) (ax_def E (n, b, o)) E
  | none => E
noncomputable def ax_addS (E : ax_E) (n : Nat) (d : Option (Value × Value)) : ax_E := match d with
  | some (p, q) => cond (ax_sc n p && ax_sc n q) (ax_dif E (n, p, q)) E
  | none => E
noncomputable def ax_addN (E : ax_E) (N : ax_N) : ax_E := ax_addS (ax_addD (ax_new E N.1) E.1 N.2.1) E.1 N.2.2
theorem ax_addN_ok {v : ax_V} {E : ax_E} {N : ax_N} {z : Int32} {y : Int64} (hw : ax_wf E) (h : ax_ok v E) (hz : ax_Nok v N z) : ax_ok (ax_up v E.1 (z, y)) (ax_addN E N) := by
  have h1 : ax_ok (ax_up v E.1 (z, y)) (ax_new E N.1) := ax_new_ok hw h hz.1
  have h2 : ax_ok (ax_up v E.1 (z, y)) (ax_addD (ax_new E N.1) E.1 N.2.1) := by
    unfold ax_addD
    split
    · rename_i b o hb
      cases hc : Nat.blt b E.1
      · exact h1
      · refine ax_def_ok h1 ?_
        dsimp only
        rw [ax_up_self, ax_up_lt v _ (Nat.blt_eq.mp hc)]
        exact hz.2.1 b o hb
    · exact h1
  unfold ax_addN ax_addS
  split
  · rename_i p q hb
    cases hc : (ax_sc E.1 p && ax_sc E.1 q)
    · exact h2
    · rw [Bool.and_eq_true] at hc
      refine ax_dif_ok h2 ?_
      dsimp only
      rw [ax_up_self, ax_vi_up hc.1, ax_vi_up hc.2]
      exact hz.2.2 p q hb
  · exact h2
theorem ax_addN_wf {E : ax_E} {N : ax_N} (hw : ax_wf E) : ax_wf (ax_addN E N) ∧ (ax_addN E N).1 = E.1 + 1 := by
  have h1 : ax_wf (ax_new E N.1) := ax_new_wf hw
  have h2 : ax_wf (ax_addD (ax_new E N.1) E.1 N.2.1) ∧ (ax_addD (ax_new E N.1) E.1 N.2.1).1 = E.1 + 1 := by
    unfold ax_addD
    split
    · rename_i b o hb
      cases hc : Nat.blt b E.1
      · exact ⟨h1, rfl⟩
      · exact ⟨ax_def_wf h1 ⟨Nat.lt_succ_self _, Nat.lt_succ_of_lt (Nat.blt_eq.mp hc)⟩, rfl⟩
    · exact ⟨h1, rfl⟩
  unfold ax_addN ax_addS
  split
  · rename_i p q hb
    cases hc : (ax_sc E.1 p && ax_sc E.1 q)
    · exact h2
    · rw [Bool.and_eq_true] at hc
      refine ⟨ax_dif_wf h2.1 ⟨?_, ?_, ?_⟩, h2.2⟩
      · show E.1 < _
        rw [h2.2]
        exact Nat.lt_succ_self _
      · rw [h2.2]
        exact ax_sc_up hc.1 (Nat.le_succ _)
      · rw [h2.2]
        exact ax_sc_up hc.2 (Nat.le_succ _)
  · exact h2
/-- a fork's two halves -/
noncomputable def ax_lo (E : ax_E) (k : Nat) (b : Int) : ax_E := ax_set E k ((ax_b E k).1, b)
noncomputable def ax_up2 (E : ax_E) (k : Nat) (b : Int) : ax_E := ax_prop (ax_set E k (b + 1, (ax_b E k).2)) k
theorem ax_lo_ok {v : ax_V} {E : ax_E} {k : Nat} {b : Int} (h : ax_ok v E) (hb : (v k).1.toInt ≤ b) : ax_ok v (ax_lo E k b) := ax_set_ok h ⟨(h.1 k).1, hb⟩
theorem ax_up2_ok {v : ax_V} {E : ax_E} {k : Nat} {b : Int} (h : ax_ok v E) (hb : b + 1 ≤ (v k).1.toInt) : ax_ok v (ax_up2 E k b) := ax_prop_ok (ax_set_ok h ⟨hb, (h.1 k).2⟩)
theorem ax_lo_wf {E : ax_E} {k : Nat} {b : Int} (h : ax_wf E) : ax_wf (ax_lo E k b) ∧ (ax_lo E k b).1 = E.1 := ⟨ax_set_wf h, ax_set_n⟩
theorem ax_up2_wf {E : ax_E} {k : Nat} {b : Int} (h : ax_wf E) : ax_wf (ax_up2 E k b) ∧ (ax_up2 E k b).1 = E.1 := by
  refine ⟨ax_prop_wf (ax_set_wf h), ?_⟩
  show (ax_prop _ k).1 = E.1
  rw [ax_prop_n (ax_set_wf h), ax_set_n]
/-- what a branch tells -/
noncomputable def ax_addF (E : ax_E) (F : Option (Nat × Nat × Int)) : ax_E := match F with
  | some (x, y, c) => ax_le E x y c
  | none => E
theorem ax_addF_ok {v : ax_V} {E : ax_E} {F : Option (Nat × Nat × Int)} (h : ax_ok v E) (hF : ax_Fok v F) : ax_ok v (ax_addF E F) := by
  unfold ax_addF
  split
  · rename_i x y c
    exact ax_le_ok h (hF x y c rfl).1 (hF x y c rfl).2
  · exact h
theorem ax_addF_wf {E : ax_E} {F : Option (Nat × Nat × Int)} (h : ax_wf E) : ax_wf (ax_addF E F) ∧ (ax_addF E F).1 = E.1 := by
  unfold ax_addF
  split
  · exact ax_le_wf h
  · exact ⟨h, rfl⟩
