/-! the law's beginning: both sides are made; then the head of its loop -/
noncomputable def sx_lik (ins : Instr) : Bool := match ins with
  | .iaload => true
  | .baload => true
  | .aaload => true
  | .laload => true
  | .arraylength => true
  | _ => false
noncomputable def bx_back (ih : sx_G) (E : sx_E) (d : Nat) (fr : sx_F) (a : rx_K) (S : sx_M) (rv : Option Value) : Bool := match fr with
  | [] => false
  | x :: r => sx_back ih E d (x :: r) a S rv
noncomputable def bx_go (ih : sx_G) (E : sx_E) (d : Nat) (fr : sx_F) (i pc : Nat) (ls : List (Option Value)) (st : List Value) (a : rx_K) (S : sx_M) (o : sx_O) : Bool := match o with
  | .inr (k, b) => ih (sx_lo E k b) d fr i pc ls st a S && ih (sx_hi E k b) d fr i pc ls st a S
  | .inl r => match r with
    | none => false
    | some r => match r with
      | .inl (pc, ls, st, a, S) => sx_on ih E d fr i pc ls st a S
      | .inr r => match r with
        | .inl (j, vs, pc, ls, st, a, S) => sx_call ih E d fr i j vs (pc, ls, st, a, S) a S
        | .inr r => match r with
          | .inl rv => bx_back ih E d fr a S rv
          | .inr X => sx_exc ih E d fr a S X
abbrev bx_T : Type := Nat → List (Option Value) → rx_K → sx_M → Bool
noncomputable def bx_one (chk : bx_T) (ih : sx_G) : sx_G := fun E d fr i pc ls st a S => cond (Nat.beq i 249 && (Nat.beq pc 23 && (fr.isEmpty && st.isEmpty))) (chk d ls a S) (match rx_tb i pc with
  | none => false
  | some ins => cond (Nat.beq i 249 && sx_lik ins) false (bx_go ih E d fr i pc ls st a S (sx_op ins 0 E i pc ls st a S)))
noncomputable def bx_run (chk : bx_T) (f : Nat) : sx_G := Nat.rec (motive := fun _ => sx_G) (fun _ _ _ _ _ _ _ _ _ => false) (fun _ ih => bx_one chk ih) f
section BX
variable {X : Nat × (Nat → Int32)} {v : Nat → Int32} {Q : rx_O → Prop}
theorem bx_al {X X' : Nat × (Nat → Int32)} {i0 t pc : Nat} {ls : List (Option Value)} {st : List Value} {a : rx_K} {M : rx_M} (h : ¬ i0 = rx_law) : rx_al X i0 t pc ls st a M = rx_al X' i0 t pc ls st a M := by
  unfold rx_al
  split
  · split
    · rfl
    · rfl
    · rw [if_neg (fun z => h z.2), if_neg (fun z => h z.2)]
  · rfl
theorem bx_aln {X X' : Nat × (Nat → Int32)} {i0 pc : Nat} {ls : List (Option Value)} {st : List Value} {a : rx_K} {M : rx_M} (h : ¬ i0 = rx_law) : rx_aln X i0 pc ls st a M = rx_aln X' i0 pc ls st a M := by
  unfold rx_aln
  split
  · split
    · rfl
    · rfl
    · rw [if_neg (fun z => h z.2), if_neg (fun z => h z.2)]
  · rfl
theorem bx_ins {X X' : Nat × (Nat → Int32)} {i pc : Nat} {ins : Instr} {ls : List (Option Value)} {st : List Value} {a : rx_K} {M : rx_M} (h : (Nat.beq i 249 && sx_lik ins) = false) : rx_ins X i ins pc ls st a M = rx_ins X' i ins pc ls st a M := by
  have hi : sx_lik ins = true → ¬ i = rx_law := fun hl z => by
    rw [hl, Bool.and_true, z] at h
    cases h
  cases ins with
  | iaload => exact bx_al (hi rfl)
  | baload => exact bx_al (hi rfl)
  | aaload => exact bx_al (hi rfl)
  | laload => exact bx_al (hi rfl)
  | arraylength => exact bx_aln (hi rfl)
  | _ => rfl
noncomputable def bx_K (X : Nat × (Nat → Int32)) (v : Nat → Int32) (Q : rx_O → Prop) : sx_F → Nat → rx_O → Prop
  | [], _, o => Q o
  | x :: fr, d, o => ∃ c2, rx_res x.1 (sx_c v x.2) o.1 o.2.1 o.2.2 = some c2 ∧ ∃ f o2, rx_go X f (d + 1) x.1 c2 = some o2 ∧ bx_K X v Q fr (d + 1) o2
theorem bx_run_ok {chk : bx_T} (hV : sx_val v) (hstop : ∀ d ls a S, chk d ls a S = true → ∃ f o, rx_go X f d 249 (sx_c v (23, ls, [], a, S)) = some o ∧ Q o) : ∀ (f : Nat) (E : sx_E) (d : Nat) (fr : sx_F) (i pc : Nat) (ls : List (Option Value)) (st : List Value) (a : rx_K) (S : sx_M), sx_ok v E → bx_run chk f E d fr i pc ls st a S = true → ∃ f o, rx_go X f d i (sx_c v (pc, ls, st, a, S)) = some o ∧ bx_K X v Q fr d o
  | 0, _, _, _, _, _, _, _, _, _, _, h => by cases h
  | f + 1, E, d, fr, i, pc, ls, st, a, S, hE, h => by
    have ih := bx_run_ok hV hstop f
    have h0 : bx_one chk (bx_run chk f) E d fr i pc ls st a S = true := h
    clear h
    unfold bx_one at h0
    cases hc : (Nat.beq i 249 && (Nat.beq pc 23 && (fr.isEmpty && st.isEmpty))) with
    | true =>
      rw [hc, Bool.cond_true] at h0
      rw [Bool.and_eq_true, Bool.and_eq_true, Bool.and_eq_true] at hc
      have e1 := Nat.eq_of_beq_eq_true hc.1
      have e2 := Nat.eq_of_beq_eq_true hc.2.1
      have e3 : fr = [] := List.isEmpty_iff.mp hc.2.2.1
      have e4 : st = [] := List.isEmpty_iff.mp hc.2.2.2
      subst e1
      subst e2
      subst e3
      subst e4
      exact hstop d ls a S h0
    | false =>
    rw [hc, Bool.cond_false] at h0
    split at h0
    · cases h0
    · rename_i ins ht
      cases hl : (Nat.beq i 249 && sx_lik ins) with
      | true => rw [hl] at h0; cases h0
      | false =>
      rw [hl, Bool.cond_false, sx_op_eq] at h0
      generalize ho : sx_ins 0 E i ins pc ls st a S = o at h0
      unfold bx_go at h0
      split at h0
      · rename_i k b
        rw [Bool.and_eq_true] at h0
        by_cases hk : (v k).toInt ≤ b
        · exact ih _ d fr i pc ls st a S (sx_lo_ok hE hk) h0.1
        · exact ih _ d fr i pc ls st a S (sx_hi_ok hE (by omega)) h0.2
      · split at h0
        · cases h0
        · rename_i R
          have hs : rx_stp X i (sx_c v (pc, ls, st, a, S)) = some (sx_cr v R) := by
            unfold rx_stp
            show (match rx_tb i pc with
              | none => none
              | some ins => rx_ins X i ins pc (sx_ls v ls) (st.map (sx_v v)) a (sx_m v S)) = _
            rw [ht]
            show rx_ins X i ins pc (sx_ls v ls) (st.map (sx_v v)) a (sx_m v S) = _
            rw [bx_ins (X' := (0, X.2)) hl]
            exact sx_ins_ok (X := (0, X.2)) hE hV rfl (fun j hj => absurd hj (Nat.not_lt_zero j)) ho
          split at h0
          · rename_i pc' ls' st' a' S'
            rw [sx_on_eq] at h0
            obtain ⟨f1, o1, k1, k2⟩ := ih E d fr i pc' ls' st' a' S' hE h0
            refine ⟨f1 + 1, o1, ?_, k2⟩
            unfold rx_go
            rw [hs]
            exact k1
          · split at h0
            · rename_i j vs pc' ls' st' a' S'
              unfold sx_call at h0
              split at h0
              · cases h0
              · rename_i e
                rw [sx_nf_eq] at h0
                obtain ⟨f1, o1, k1, c2, k2, f2, o2, k3, k4⟩ := ih E e _ j 0 _ [] a' S' hE h0
                rw [sx_ls_ent] at k1
                refine ⟨max f1 f2 + 1, o2, ?_, k4⟩
                unfold rx_go
                rw [hs]
                show (match rx_go X (max f1 f2) e j (rx_ent j (vs.map (sx_v v)) a' (sx_m v S')) with
                  | none => none
                  | some (r, a, M) => match rx_res i (sx_c v (pc', ls', st', a', S')) r a M with
                    | none => none
                    | some c2 => rx_go X (max f1 f2) (e + 1) i c2) = some o2
                rw [rx_go_up (Nat.le_max_left f1 f2) k1]
                obtain ⟨r1, a1, M1⟩ := o1
                dsimp only at k2 ⊢
                rw [k2]
                exact rx_go_up (Nat.le_max_right f1 f2) k3
            · split at h0
              · rename_i rv
                refine ⟨1, (rv.map (sx_v v), a, sx_m v S), ?_, ?_⟩
                · unfold rx_go
                  rw [hs]
                  rfl
                · unfold bx_back at h0
                  split at h0
                  · cases h0
                  · rename_i x9 r9
                    unfold sx_back at h0
                    obtain ⟨i', pc', ls', st', a', S'⟩ := x9
                    dsimp only at h0
                    obtain ⟨hr, h0⟩ := sx_cT (by intro z; cases z) h0
                    rw [sx_on_eq] at h0
                    obtain ⟨f1, o1, k1, k2⟩ := ih E (d + 1) r9 i' pc' ls' _ a S hE h0
                    refine ⟨_, ?_, f1, o1, k1, k2⟩
                    cases rv with
                    | none => rfl
                    | some w =>
                      cases w with
                      | int x => rfl
                      | retAddr x => rfl
                      | long x => rfl
                      | _ => cases hr
              · rename_i Y
                refine ⟨1, (some (.retAddr Y), a, sx_m v S), ?_, ?_⟩
                · unfold rx_go
                  rw [hs]
                  rfl
                · unfold sx_exc at h0
                  split at h0
                  · cases h0
                  · rename_i i' pc' ls' st' a' S' r'
                    split at h0
                    · rename_i h n k hh
                      rw [sx_on_eq] at h0
                      obtain ⟨f1, o1, k1, k2⟩ := ih E (d + 1) r' i' _ _ _ _ S hE h0
                      refine ⟨_, ?_, f1, o1, k1, k2⟩
                      unfold rx_res
                      dsimp only
                      rw [hh]
                      show some (h + n, (rx_kill (sx_ls v ls') k).set k none, [], (a.1, a.2.1 + 1, a.2.2 + 6), sx_m v S) = some (h + n, sx_ls v ((rx_kill ls' k).set k none), [], (a.1, a.2.1 + 1, a.2.2 + 6), sx_m v S)
                      rw [sx_ls_set, sx_ls_kill]
                      rfl
                    · cases h0
end BX
/-! what is to be seen at the head -/
noncomputable def bx_rws (S : sx_M) : Bool := (List.range 306).all (fun q => (sx_row S.1 q).all (fun e => match e.2 with
  | .int x => decide ((ax_sp q e.1).1 ≤ x.toInt) && decide (x.toInt ≤ (ax_sp q e.1).2)
  | _ => false))
noncomputable def bx_rfs (S : sx_M) : Bool := (List.range 291).all (fun q => (List.range 160).all (fun j => match ax_rf q j with
  | some z => (match sx_get S.2 q j with
    | some z' => Nat.beq z z'
    | none => false)
  | none => true))
noncomputable def bx_z (S : sx_M) (q j : Nat) : Bool := match sx_get S.1 q j with
  | none => true
  | some (.int x) => decide (x = 0)
  | _ => false
noncomputable def bx_zr (S : sx_M) (q : Nat) : Bool := (sx_row S.1 q).all (fun e => match e.2 with
  | .int x => decide (x = 0)
  | _ => false)
noncomputable def bx_ls : List (Option Value) := [some (.ref 1000), some (.ref 0), some (.ref 244), some (.ref 290), some (.int 0), none, none, none]
noncomputable def bx_z0 : List (Nat × Nat) := [(230, 0), (230, 1), (230, 2), (230, 3), (230, 4), (230, 5), (230, 6), (230, 7), (233, 0), (233, 1), (233, 2), (233, 3), (233, 4), (233, 5), (233, 6), (233, 7), (234, 0), (234, 1), (234, 2), (234, 3), (234, 4), (234, 5), (234, 6), (234, 7), (283, 0), (283, 1), (283, 2), (283, 3), (283, 4), (283, 5), (283, 6), (283, 7), (285, 0), (285, 1), (285, 2), (285, 3), (285, 4), (285, 5), (285, 6), (285, 7), (286, 0), (286, 1), (286, 2), (286, 3), (286, 4), (286, 5), (286, 6), (286, 7)]
noncomputable def bx_chk : bx_T := fun d ls a S => (Nat.beq d 45 && (decide (ls = bx_ls) && (Nat.beq a.1 rx_cells && (Nat.ble a.2.1 1000 && Nat.ble a.2.2 40000)))) && ((Nat.ble S.1.length 18 && (bx_rws S && bx_rfs S)) && ((bx_z S 14 16 && (bx_z S 14 12 && (bx_z S 244 7 && (bx_z S 244 1 && bx_z S 1 4)))) && (bx_zr S 213 && (bx_zr S 283 && (bx_z0.all (fun p => bx_z S p.1 p.2) && ([236, 237, 238, 239, 240, 241, 242, 243].all (fun q => bx_zr S q) && bx_zr S 287))))))
set_option maxRecDepth 1000000 in
theorem bx_boot : bx_run bx_chk 2000 [] 45 [] 249 0 ([some (.ref rx_scr)] ++ List.replicate (rx_mx 249 - 1) none) [] (0, 0, 0) ([], []) = true := by decide +kernel
