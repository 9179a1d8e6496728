/-! the core: the call instructions -/
section AXV
variable {X : Nat × (Nat → Int32)} {P : Option Value → rx_M → Prop} {W : ax_W} {sp : Nat → Nat → Int × Int} {rf : Nat → Nat → Option Nat} {mx : ax_X} {ih : ax_S} {v : ax_V} {E : ax_E} {K : ax_K} {M : rx_M} {a : rx_K} {d i pc : Nat} {fr : ax_F} {ls : List (Option Value)} {st : List Value}
theorem ax_c8_map {r : List Value} : rx_c8 (r.map (ax_v v)) = rx_c8 r := by
  unfold rx_c8
  rw [List.map_map]
  have e : ((fun w : Value => w.category) ∘ ax_v v) = fun w => w.category := funext (ax_v_cat v)
  rw [e]
theorem ax_cat1_map {r : List Value} : rx_cat1 (r.map (ax_v v)) = rx_cat1 r := by
  unfold rx_cat1
  rw [List.all_map]
  have e : ((fun w : Value => Nat.beq w.category 1) ∘ ax_v v) = fun w => Nat.beq w.category 1 := funext fun w => by
    show Nat.beq (ax_v v w).category 1 = _
    rw [ax_v_cat]
  rw [e]
noncomputable def ax_cl (ih : ax_S) (E : ax_E) (K : ax_K) (d : Nat) (fr : ax_F) (i w kind j n pc : Nat) (ls : List (Option Value)) (st : List Value) : Bool := cond (Nat.beq w (rx_kw kind)) (cond (Nat.beq w 1)
    (cond (rx_cat1 (st.take n) && (rx_c8 (st.drop n) && Nat.beq (st.take n).length n)) (ax_ca ih E K d fr i j (st.take n).reverse (pc + 3) ls (st.drop n)) false)
    (match st.drop n with
      | .ref b :: r => cond (decide (rx_lay b = some (.inl (rx_cn j))) && (rx_cat1 (st.take n) && (rx_c8 r && Nat.beq (st.take n).length n))) (ax_ca ih E K d fr i j (.ref b :: (st.take n).reverse) (pc + 3) ls r) false
      | _ => false)) false
theorem ax_cl_ok (H : ax_H X P W sp rf ih) {w x kind j n : Nat} (hk : kind ≠ 10 ∧ kind ≠ 11 ∧ kind ≠ 12 ∧ kind ≠ 13) (hm : rx_ml (rx_cn i) x = some (kind, j, n)) {c : rx_C} (hs : rx_stp X i c = rx_inv w (rx_cn i) x pc (ax_ls v ls) (st.map (ax_v v)) a M) (h : ax_cl ih E K d fr i w kind j n pc ls st = true) (S : ax_St W sp rf v E K M a fr) : ax_C X P v d fr i c := by
  have S0 := S
  obtain ⟨s1, s2, s3, s4, s5, s6, s7⟩ := S
  have et : (st.map (ax_v v)).take n = (st.take n).map (ax_v v) := (List.map_take).symm
  have ed : (st.map (ax_v v)).drop n = (st.drop n).map (ax_v v) := (List.map_drop).symm
  unfold ax_cl at h
  replace h := sx_cT (by intro q; cases q) h
  obtain ⟨hw, h⟩ := h
  have g0 : rx_inv w (rx_cn i) x pc (ax_ls v ls) (st.map (ax_v v)) a M = cond (Nat.beq w (rx_kw kind)) (cond (Nat.beq w 1)
        (cond (rx_cat1 ((st.map (ax_v v)).take n) && rx_c8 ((st.map (ax_v v)).drop n) && Nat.beq ((st.map (ax_v v)).take n).length n) (some (.inr (.inl (j, ((st.map (ax_v v)).take n).reverse, (pc + 3, ax_ls v ls, (st.map (ax_v v)).drop n, a, M))))) none)
        (match (st.map (ax_v v)).drop n with
          | .ref b :: r => match rx_lay b with
            | some (.inl c) => if b < a.1 then (if c = rx_cn j then cond (rx_cat1 ((st.map (ax_v v)).take n) && rx_c8 r && Nat.beq ((st.map (ax_v v)).take n).length n) (some (.inr (.inl (j, .ref b :: ((st.map (ax_v v)).take n).reverse, (pc + 3, ax_ls v ls, r, a, M))))) none else none) else none
            | _ => none
          | _ => none)) none := by
    unfold rx_inv
    rw [hm]
    dsimp only
    split
    · exact absurd rfl hk.1
    · exact absurd rfl hk.2.1
    · exact absurd rfl hk.2.2.1
    · exact absurd rfl hk.2.2.2
    · rfl
  rw [hw, Bool.cond_true, et, ed, ax_cat1_map, List.length_map] at g0
  cases h1 : Nat.beq w 1 with
  | true =>
    rw [h1] at h
    rw [h1, Bool.cond_true, ax_c8_map] at g0
    replace h := sx_cT (b := (rx_cat1 (st.take n) && (rx_c8 (st.drop n) && Nat.beq (st.take n).length n))) (by intro q; cases q) h
    obtain ⟨hc, h⟩ := h
    rw [Bool.and_assoc, hc, Bool.cond_true] at g0
    refine ax_ca_ok H (vs := (st.take n).reverse) (r := st.drop n) (pc := pc + 3) (ls := ls) ?_ h S0
    rw [hs, g0, List.map_reverse]
    rfl
  | false =>
    rw [h1, Bool.cond_false] at h
    rw [h1, Bool.cond_false] at g0
    split at h
    · rename_i b r hdr
      replace h := sx_cT (by intro q; cases q) h
      obtain ⟨hc, h⟩ := h
      rw [Bool.and_eq_true] at hc
      have hl := of_decide_eq_true hc.1
      have hlt := ax_lay_lt hl
      rw [hdr] at g0
      have g1 : rx_inv w (rx_cn i) x pc (ax_ls v ls) (st.map (ax_v v)) a M = (match rx_lay b with
            | some (.inl c) => if b < a.1 then (if c = rx_cn j then cond (rx_cat1 (st.take n) && rx_c8 (r.map (ax_v v)) && Nat.beq (st.take n).length n) (some (Sum.inr (Sum.inl (j, Value.ref b :: ((st.take n).map (ax_v v)).reverse, (pc + 3, ax_ls v ls, r.map (ax_v v), a, M))))) none else none) else none
            | _ => (none : Option rx_R)) := g0
      rw [hl] at g1
      dsimp only at g1
      rw [if_pos (by rw [s6.1]; exact hlt), if_pos rfl, ax_c8_map, Bool.and_assoc, hc.2, Bool.cond_true] at g1
      refine ax_ca_ok H (vs := .ref b :: (st.take n).reverse) (r := r) (pc := pc + 3) (ls := ls) ?_ h S0
      rw [hs, g1, List.map_cons, List.map_reverse]
      rfl
    · cases h
noncomputable def ax_ivS (ih : ax_S) (E : ax_E) (K : ax_K) (d : Nat) (fr : ax_F) (i w x pc : Nat) (ls : List (Option Value)) (st : List Value) : Bool := match rx_ml (rx_cn i) x with
  | none => false
  | some (kind, j, n) => cond (Nat.beq kind 10 || Nat.beq kind 11) (match st with
    | y :: z :: r => cond (Nat.beq w 1 && (rx_c8 r && (sx_isI y && sx_isI z))) (ax_psh ih E K d fr i (pc + 3) ls r (ax_mm E (Nat.beq kind 11) y z) none) false
    | _ => false) (cond (Nat.beq kind 12 || Nat.beq kind 13) false (ax_cl ih E K d fr i w kind j n pc ls st))
theorem ax_ivS_ok (H : ax_H X P W sp rf ih) {w x : Nat} {c : rx_C} (hs : rx_stp X i c = rx_inv w (rx_cn i) x pc (ax_ls v ls) (st.map (ax_v v)) a M) (h : ax_ivS ih E K d fr i w x pc ls st = true) (S : ax_St W sp rf v E K M a fr) : ax_C X P v d fr i c := by
  have S0 := S
  obtain ⟨s1, s2, s3, s4, s5, s6, s7⟩ := S
  unfold ax_ivS at h
  split at h
  · cases h
  · rename_i kind j n hm
    cases hk : (Nat.beq kind 10 || Nat.beq kind 11) with
    | true =>
      rw [hk, Bool.cond_true] at h
      split at h
      · rename_i y z r
        replace h := sx_cT (by intro q; cases q) h
        obtain ⟨hc, h⟩ := h
        simp only [Bool.and_eq_true] at hc
        obtain ⟨c1, c2, c3, c4⟩ := hc
        have hz := ax_mm_ok s2 (mn := Nat.beq kind 11) c3 c4
        rw [Bool.or_eq_true] at hk
        rcases hk with q | q
        · have e := Nat.eq_of_beq_eq_true q
          subst e
          have g : rx_inv w (rx_cn i) x pc (ax_ls v ls) ((y :: z :: r).map (ax_v v)) a M = rx_nx (pc + 3) (ax_ls v ls) (.int (if ax_vi v z < ax_vi v y then ax_vi v y else ax_vi v z) :: r.map (ax_v v)) a M := by
            rw [List.map_cons, List.map_cons, ax_vI c3, ax_vI c4]
            unfold rx_inv
            rw [hm]
            dsimp only
            rw [if_pos (Nat.eq_of_beq_eq_true c1), ax_c8_map, c2]
            rfl
          exact ax_C_step (hs.trans g) (ax_psh_ok H h S0 hz (fun q' j' hq => by cases hq))
        · have e := Nat.eq_of_beq_eq_true q
          subst e
          have g : rx_inv w (rx_cn i) x pc (ax_ls v ls) ((y :: z :: r).map (ax_v v)) a M = rx_nx (pc + 3) (ax_ls v ls) (.int (if ax_vi v y < ax_vi v z then ax_vi v y else ax_vi v z) :: r.map (ax_v v)) a M := by
            rw [List.map_cons, List.map_cons, ax_vI c3, ax_vI c4]
            unfold rx_inv
            rw [hm]
            show (if w = 1 then cond (rx_c8 (r.map (ax_v v))) (rx_nx (pc + 3) (ax_ls v ls) (.int (if ax_vi v y < ax_vi v z then ax_vi v y else ax_vi v z) :: r.map (ax_v v)) a M) none else none) = _
            rw [if_pos (Nat.eq_of_beq_eq_true c1), ax_c8_map, c2]
            rfl
          exact ax_C_step (hs.trans g) (ax_psh_ok H h S0 hz (fun q' j' hq => by cases hq))
      · cases h
    | false =>
      rw [hk, Bool.cond_false] at h
      cases hk2 : (Nat.beq kind 12 || Nat.beq kind 13) with
      | true => rw [hk2] at h; cases h
      | false =>
        rw [hk2, Bool.cond_false] at h
        refine ax_cl_ok H ⟨fun z => ?_, fun z => ?_, fun z => ?_, fun z => ?_⟩ hm hs h S0
        · subst z; cases hk
        · subst z; cases hk
        · subst z; cases hk2
        · subst z; cases hk2
end AXV
