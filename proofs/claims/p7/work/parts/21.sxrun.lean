/-! a run with unknown ints that ends with 1 on every path: so does the abstract machine, for every value of them -/
section SXR
variable {X : Nat × (Nat → Int32)} {L : Nat} {v : Nat → Int32} {E : sx_E} {i : Nat}
variable {pc : Nat} {ls : List (Option Value)} {st r : List Value} {a : rx_K} {S : sx_M} {R : sx_R}
set_option maxHeartbeats 4000000 in
theorem sx_ins_ok (hE : sx_ok v E) (hV : sx_val v) (hX : X.1 = L) (hX2 : ∀ j, j < L → X.2 j = v j) {ins : Instr} (h : sx_ins L E i ins pc ls st a S = .inl (some R)) : rx_ins X i ins pc (sx_ls v ls) (st.map (sx_v v)) a (sx_m v S) = some (sx_cr v R) := by
  cases ins with
  | iconst n => exact sx_nx_ok h
  | bipush n => exact sx_nx_ok h
  | sipush n => exact sx_nx_ok h
  | lconst n => exact sx_nx_ok h
  | iload_n k => exact sx_ld_ok h
  | iload k => exact sx_ld_ok h
  | aload_n k => exact sx_ld_ok h
  | aload k => exact sx_ld_ok h
  | lload_n k => exact sx_ld_ok h
  | lload k => exact sx_ld_ok h
  | istore_n k => exact sx_sto_ok h
  | istore k => exact sx_sto_ok h
  | astore_n k => exact sx_sto_ok h
  | astore k => exact sx_sto_ok h
  | lstore_n k => exact sx_sto_ok h
  | lstore k => exact sx_sto_ok h
  | iinc k n =>
    unfold sx_ins at h
    unfold rx_ins
    dsimp only at h ⊢
    split at h
    · rename_i w hk
      obtain ⟨x, hw, h⟩ := sx_n1_ok hE h
      rw [sx_ls_get hk, hw]
      have K := sx_nr_ok (v := v) h
      rw [sx_ls_s1] at K
      exact K
    · exact (sx_no_no h).elim
  | iadd => exact sx_bin_ok hE h
  | isub => exact sx_bin_ok hE h
  | imul => exact sx_bin_ok hE h
  | iand => exact sx_and_ok hE hV h
  | ior => exact sx_bin_ok hE h
  | ishl => exact sx_bin_ok hE h
  | ishr => exact sx_shr_ok hE h
  | idiv =>
    obtain ⟨y, x, r, e, h0, k⟩ := sx_div_ok hE hV h
    rw [e]
    exact (if_neg h0).trans k
  | irem =>
    obtain ⟨y, x, r, e, h0, k⟩ := sx_rem_ok hE hV h
    rw [e]
    exact (if_neg h0).trans k
  | ineg =>
    obtain ⟨x, r, e, k⟩ := sx_un_ok hE (fun _ => rfl) h
    rw [e]
    exact k
  | i2b =>
    obtain ⟨x, r, e, k⟩ := sx_un_ok hE (fun _ => rfl) h
    rw [e]
    exact k
  | i2s =>
    obtain ⟨x, r, e, k⟩ := sx_un_ok hE (fun _ => rfl) h
    rw [e]
    exact k
  | i2l =>
    obtain ⟨x, r, e, k⟩ := sx_un_ok hE (fun _ => rfl) h
    rw [e]
    exact k
  | dup =>
    match st, h with
    | [], h => exact (sx_no_no h).elim
    | w :: r, h =>
      obtain ⟨hc, h⟩ := sx_cT (b := Nat.beq w.category 1) sx_non h
      show cond (Nat.beq (sx_v v w).category 1) (rx_nx (pc + 1) (sx_ls v ls) (sx_v v w :: sx_v v w :: r.map (sx_v v)) a (sx_m v S)) none = _
      rw [sx_v_cat, hc]
      exact sx_nx_ok h
  | pop =>
    match st, h with
    | [], h => exact (sx_no_no h).elim
    | w :: r, h =>
      obtain ⟨hc, h⟩ := sx_cT (b := Nat.beq w.category 1) sx_non h
      show cond (Nat.beq (sx_v v w).category 1) (rx_nx (pc + 1) (sx_ls v ls) (r.map (sx_v v)) a (sx_m v S)) none = _
      rw [sx_v_cat, hc]
      exact sx_nx_ok h
  | dup_x1 =>
    match st, h with
    | [], h => exact (sx_no_no h).elim
    | [_], h => exact (sx_no_no h).elim
    | w :: u :: r, h =>
      obtain ⟨hc, h⟩ := sx_cT (b := Nat.beq w.category 1 && Nat.beq u.category 1) sx_non h
      show cond (Nat.beq (sx_v v w).category 1 && Nat.beq (sx_v v u).category 1) (rx_nx (pc + 1) (sx_ls v ls) (sx_v v w :: sx_v v u :: sx_v v w :: r.map (sx_v v)) a (sx_m v S)) none = _
      rw [sx_v_cat, sx_v_cat, hc]
      exact sx_nx_ok h
  | dup2 =>
    match st, h with
    | [], h => exact (sx_no_no h).elim
    | [_], h => exact (sx_no_no h).elim
    | w :: u :: r, h =>
      obtain ⟨hc, h⟩ := sx_cT (b := Nat.beq w.category 1 && Nat.beq u.category 1) sx_non h
      show cond (Nat.beq (sx_v v w).category 1 && Nat.beq (sx_v v u).category 1) (rx_nx (pc + 1) (sx_ls v ls) (sx_v v w :: sx_v v u :: sx_v v w :: sx_v v u :: r.map (sx_v v)) a (sx_m v S)) none = _
      rw [sx_v_cat, sx_v_cat, hc]
      exact sx_nx_ok h
  | goto off => exact sx_jmp_ok h
  | ifCond c off =>
    match st, h with
    | [], h => exact (sx_no_no h).elim
    | w :: r, h =>
      obtain ⟨x', y', hx, hy, k⟩ := sx_br_ok hE h
      cases hy
      rw [List.map_cons, hx]
      cases c <;> exact k
  | if_icmp c off =>
    match st, h with
    | [], h => exact (sx_no_no h).elim
    | [_], h => exact (sx_no_no h).elim
    | y :: x :: r, h =>
      obtain ⟨x', y', hx, hy, k⟩ := sx_br_ok hE h
      rw [List.map_cons, List.map_cons, hx, hy]
      cases c <;> exact k
  | tableswitch d lo hi offs =>
    obtain ⟨x, r, e, k⟩ := sx_tsw_ok hE h
    rw [e]
    exact k
  | lookupswitch d ps =>
    match st, h with
    | [], h => exact (sx_no_no h).elim
    | w :: r, h =>
      obtain ⟨x, hw, h⟩ := sx_n1_ok hE h
      obtain ⟨hc, h⟩ := sx_cT (by intro z; cases z) h
      rw [List.map_cons, hw]
      show cond ((ps.toList.zip (ps.toList.drop 1)).all (fun (a, next) => a.1 < next.1)) (rx_jmp pc (Op.lookupswitch.offset ps.toList d x.toInt) (sx_ls v ls) (r.map (sx_v v)) a (sx_m v S)) none = _
      rw [hc]
      exact sx_jr_ok h
  | getfield x => exact sx_gf_ok h
  | putfield x => exact sx_pf_ok hE h
  | iaload => exact sx_al_ok hE hX hX2 h
  | baload => exact sx_al_ok hE hX hX2 h
  | aaload => exact sx_al_ok hE hX hX2 h
  | iastore => exact sx_as_ok hE h
  | bastore => exact sx_as_ok hE h
  | arraylength => exact sx_aln_ok hX h
  | newarray t => exact sx_nwa_ok h
  | multianewarray x n =>
    unfold sx_ins at h
    unfold rx_ins
    dsimp only at h ⊢
    split at h
    · rename_i hn
      rw [if_pos hn]
      exact sx_mna_ok h
    · exact (sx_no_no h).elim
  | new x => exact sx_new_ok h
  | invokevirtual x => exact sx_inv_ok hE h
  | invokestatic x => exact sx_inv_ok hE h
  | invokespecial x => exact sx_inv_ok hE h
  | ireturn =>
    unfold sx_ins at h
    unfold rx_ins
    dsimp only at h ⊢
    split at h
    · rename_i w
      split at h
      · rename_i hrt
        obtain ⟨hw, h⟩ := sx_cT sx_non h
        rw [List.map_cons, List.map_nil, sx_vI hw, hrt]
        cases h
        show some _ = some (Sum.inr (Sum.inr (some (sx_v v w))))
        rw [sx_vI hw]
      · rename_i hrt
        obtain ⟨x, hw, h⟩ := sx_n1_ok hE h
        rw [List.map_cons, List.map_nil, hw, hrt]
        dsimp only
        split at h
        · rename_i h01
          rw [if_pos h01]
          cases h
          rfl
        · cases h
      · exact (sx_no_no h).elim
    · exact (sx_no_no h).elim
  | lreturn =>
    unfold sx_ins at h
    unfold rx_ins
    dsimp only at h ⊢
    split at h
    · rename_i x
      split at h
      · rename_i hrt
        rw [List.map_cons, List.map_nil, hrt]
        cases h
        rfl
      · exact (sx_no_no h).elim
    · exact (sx_no_no h).elim
  | return_ =>
    unfold sx_ins at h
    unfold rx_ins
    dsimp only at h ⊢
    split at h
    · split at h
      · rename_i hrt
        rw [List.map_nil, hrt]
        cases h
        rfl
      · exact (sx_no_no h).elim
    · exact (sx_no_no h).elim
  | _ => exact (sx_no_no h).elim
theorem rx_go_fu : ∀ (f d i : Nat) (c : rx_C) (o : rx_O), rx_go X f d i c = some o → rx_go X (f + 1) d i c = some o
  | 0, _, _, _, _, h => by cases h
  | f + 1, d, i, c, o, h => by
    unfold rx_go at h
    unfold rx_go
    split at h
    · cases h
    · rename_i c' hs
      exact rx_go_fu f d i c' o h
    · rename_i rv hs
      exact h
    · rename_i j vs c' hs
      split at h
      · cases h
      · rename_i e
        split at h
        · cases h
        · rename_i rv a M hc
          rw [rx_go_fu f e j _ _ hc]
          dsimp only
          split at h
          · cases h
          · rename_i c2 hr
            exact rx_go_fu f _ i c2 o h
theorem rx_go_up {f f' d i : Nat} {c : rx_C} {o : rx_O} (hf : f ≤ f') (h : rx_go X f d i c = some o) : rx_go X f' d i c = some o := by
  induction hf with
  | refl => exact h
  | step _ ih => exact rx_go_fu _ _ _ _ _ ih
noncomputable def sx_P (o : rx_O) : Prop := o.1 = some (.int 1) ∧ o.2.1.2.1 ≤ 600002 ∧ o.2.1.2.2 ≤ 7302232
noncomputable def sx_K (X : Nat × (Nat → Int32)) (v : Nat → Int32) : sx_F → Nat → rx_O → Prop
  | [], _, o => sx_P o
  | x :: fr, d, o => ∃ c2, rx_res x.1 (sx_c v x.2) o.1 o.2.1 o.2.2 = some c2 ∧ ∃ f o2, rx_go X f (d + 1) x.1 c2 = some o2 ∧ sx_K X v fr (d + 1) o2
theorem sx_ls_ent {j : Nat} {vs : List Value} : sx_c v (0, vs.map some ++ List.replicate (rx_mx j - vs.length) none, [], a, S) = rx_ent j (vs.map (sx_v v)) a (sx_m v S) := by
  unfold sx_c rx_ent sx_ls
  dsimp only
  rw [List.map_append, List.map_map, List.map_replicate, List.length_map, List.map_map]
  rfl
theorem sx_lo_ok {k : Nat} {b : Int} (hE : sx_ok v E) (h : (v k).toInt ≤ b) : sx_ok v (sx_lo E k b) := by
  intro j
  unfold sx_lo
  rw [sx_at_put]
  by_cases e : j = k
  · subst e
    rw [if_pos rfl]
    exact ⟨(hE j).1, h⟩
  · rw [if_neg e]
    exact hE j
theorem sx_hi_ok {k : Nat} {b : Int} (hE : sx_ok v E) (h : b + 1 ≤ (v k).toInt) : sx_ok v (sx_hi E k b) := by
  intro j
  unfold sx_hi
  rw [sx_at_put]
  by_cases e : j = k
  · subst e
    rw [if_pos rfl]
    exact ⟨h, (hE j).2⟩
  · rw [if_neg e]
    exact hE j
theorem sx_run_ok (hV : sx_val v) (hX : X.1 = L) (hX2 : ∀ j, j < L → X.2 j = v j) : ∀ (f : Nat) (E : sx_E) (d : Nat) (fr : sx_F) (i pc : Nat) (ls : List (Option Value)) (st : List Value) (a : rx_K) (S : sx_M), sx_ok v E → sx_run L f E d fr i pc ls st a S = true → ∃ f o, rx_go X f d i (sx_c v (pc, ls, st, a, S)) = some o ∧ sx_K X v fr d o
  | 0, _, _, _, _, _, _, _, _, _, _, h => by cases h
  | f + 1, E, d, fr, i, pc, ls, st, a, S, hE, h => by
    have ih := sx_run_ok hV hX hX2 f
    have h0 : sx_one L (sx_run L f) E d fr i pc ls st a S = true := h
    clear h
    unfold sx_one at h0
    split at h0
    · cases h0
    · rename_i ins ht
      rw [sx_op_eq] at h0
      generalize ho : sx_ins L E i ins pc ls st a S = o at h0
      unfold sx_go at h0
      split at h0
      · rename_i k b
        rw [Bool.and_eq_true] at h0
        by_cases hk : (v k).toInt ≤ b
        · exact ih _ d fr i pc ls st a S (sx_lo_ok hE hk) h0.1
        · exact ih _ d fr i pc ls st a S (sx_hi_ok hE (by omega)) h0.2
      · split at h0
        · cases h0
        · rename_i R
          have hs : rx_stp X i (sx_c v (pc, ls, st, a, S)) = some (sx_cr v R) := by
            unfold rx_stp
            show (match rx_tb i pc with
              | none => none
              | some ins => rx_ins X i ins pc (sx_ls v ls) (st.map (sx_v v)) a (sx_m v S)) = _
            rw [ht]
            exact sx_ins_ok hE hV hX hX2 ho
          split at h0
          · rename_i pc' ls' st' a' S'
            rw [sx_on_eq] at h0
            obtain ⟨f1, o1, k1, k2⟩ := ih E d fr i pc' ls' st' a' S' hE h0
            refine ⟨f1 + 1, o1, ?_, k2⟩
            unfold rx_go
            rw [hs]
            exact k1
          · split at h0
            · rename_i j vs pc' ls' st' a' S'
              unfold sx_call at h0
              split at h0
              · cases h0
              · rename_i e
                rw [sx_nf_eq] at h0
                obtain ⟨f1, o1, k1, c2, k2, f2, o2, k3, k4⟩ := ih E e _ j 0 _ [] a' S' hE h0
                rw [sx_ls_ent] at k1
                refine ⟨max f1 f2 + 1, o2, ?_, k4⟩
                unfold rx_go
                rw [hs]
                show (match rx_go X (max f1 f2) e j (rx_ent j (vs.map (sx_v v)) a' (sx_m v S')) with
                  | none => none
                  | some (r, a, M) => match rx_res i (sx_c v (pc', ls', st', a', S')) r a M with
                    | none => none
                    | some c2 => rx_go X (max f1 f2) (e + 1) i c2) = some o2
                rw [rx_go_up (Nat.le_max_left f1 f2) k1]
                obtain ⟨r1, a1, M1⟩ := o1
                dsimp only at k2 ⊢
                rw [k2]
                exact rx_go_up (Nat.le_max_right f1 f2) k3
            · split at h0
              · rename_i rv
                refine ⟨1, (rv.map (sx_v v), a, sx_m v S), ?_, ?_⟩
                · unfold rx_go
                  rw [hs]
                  rfl
                · unfold sx_back at h0
                  split at h0
                  · unfold sx_fin at h0
                    split at h0
                    · rename_i x
                      simp only [Bool.and_eq_true] at h0
                      rw [of_decide_eq_true h0.1]
                      exact ⟨rfl, Nat.le_of_ble_eq_true h0.2.1, Nat.le_of_ble_eq_true h0.2.2⟩
                    · cases h0
                  · rename_i i' pc' ls' st' a' S' r'
                    obtain ⟨hr, h0⟩ := sx_cT (by intro z; cases z) h0
                    rw [sx_on_eq] at h0
                    obtain ⟨f1, o1, k1, k2⟩ := ih E (d + 1) r' i' pc' ls' _ a S hE h0
                    refine ⟨_, ?_, f1, o1, k1, k2⟩
                    cases rv with
                    | none => rfl
                    | some w =>
                      cases w with
                      | int x => rfl
                      | retAddr x => rfl
                      | long x => rfl
                      | _ => cases hr
              · rename_i Y
                refine ⟨1, (some (.retAddr Y), a, sx_m v S), ?_, ?_⟩
                · unfold rx_go
                  rw [hs]
                  rfl
                · unfold sx_exc at h0
                  split at h0
                  · cases h0
                  · rename_i i' pc' ls' st' a' S' r'
                    split at h0
                    · rename_i h n k hh
                      rw [sx_on_eq] at h0
                      obtain ⟨f1, o1, k1, k2⟩ := ih E (d + 1) r' i' _ _ _ _ S hE h0
                      refine ⟨_, ?_, f1, o1, k1, k2⟩
                      unfold rx_res
                      dsimp only
                      rw [hh]
                      show some (h + n, (rx_kill (sx_ls v ls') k).set k none, [], (a.1, a.2.1 + 1, a.2.2 + 6), sx_m v S) = some (h + n, sx_ls v ((rx_kill ls' k).set k none), [], (a.1, a.2.1 + 1, a.2.2 + 6), sx_m v S)
                      rw [sx_ls_set, sx_ls_kill]
                      rfl
                    · cases h0
end SXR
