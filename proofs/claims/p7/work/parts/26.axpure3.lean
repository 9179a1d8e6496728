/-! the core: branches hold; all that keeps memory in one -/
noncomputable def ax_tr (c : ClassFile.Cond) (x y : Int) : Prop := match c with
  | .eq => x = y
  | .ne => ¬ x = y
  | .lt => x < y
  | .ge => y ≤ x
  | .gt => y < x
  | .le => x ≤ y
section AXB
variable {v : ax_V} {E : ax_E} {a : rx_K} {M : rx_M} {pc : Nat} {ls : List (Option Value)} {st r : List Value} {R : ax_R}
theorem ax_rbrT {c : ClassFile.Cond} {x y : Int32} {off : Int} {t : Nat} {l : List (Option Value)} {s : List Value} (ht : (pc : Int) + off = .ofNat t) (h : ax_tr c x.toInt y.toInt) : sx_rbr c x y pc off l s a M = rx_nx t l s a M := by
  unfold ax_tr at h
  unfold sx_rbr
  cases c with
  | eq => exact sx_brT ht (Int32.toInt_inj.mp h)
  | ne => exact sx_brT ht (fun z => h (by rw [z]))
  | lt => exact sx_brT ht (Int32.lt_iff_toInt_lt.mpr h)
  | ge => exact sx_brT ht (Int32.le_iff_toInt_le.mpr h)
  | gt => exact sx_brT ht (Int32.lt_iff_toInt_lt.mpr h)
  | le => exact sx_brT ht (Int32.le_iff_toInt_le.mpr h)
theorem ax_rbrF {c : ClassFile.Cond} {x y : Int32} {off : Int} {t : Nat} {l : List (Option Value)} {s : List Value} (ht : (pc : Int) + off = .ofNat t) (h : ¬ ax_tr c x.toInt y.toInt) : sx_rbr c x y pc off l s a M = rx_nx (pc + 3) l s a M := by
  unfold ax_tr at h
  unfold sx_rbr
  cases c with
  | eq => exact sx_brN ht (fun z => h (by rw [z]))
  | ne => exact sx_brN ht (fun z => h (fun q => z (Int32.toInt_inj.mp q)))
  | lt => exact sx_brN ht (fun z => h (Int32.lt_iff_toInt_lt.mp z))
  | ge => exact sx_brN ht (fun z => h (Int32.le_iff_toInt_le.mp z))
  | gt => exact sx_brN ht (fun z => h (Int32.lt_iff_toInt_lt.mp z))
  | le => exact sx_brN ht (fun z => h (Int32.le_iff_toInt_le.mp z))
theorem ax_dlt_ok (hE : ax_ok v E) {x y : Value} {b : Bool} (h : ax_dlt E x y = some b) (hx : sx_isI x = true) (hy : sx_isI y = true) : b = decide ((ax_vi v x).toInt < (ax_vi v y).toInt) := by
  unfold ax_dlt at h
  split at h
  · rename_i b' hb
    cases h
    exact sx_lt_ok hb (ax_iv_ok hE hx) (ax_iv_ok hE hy)
  · split at h
    · rename_i i _
      split at h
      · rename_i j _
        have ei : ax_vi v (.retAddr i) = (v i).1 := rfl
        have ej : ax_vi v (.retAddr j) = (v j).1 := rfl
        rw [ei, ej]
        cases h1 : (Nat.beq i j || ax_knows E j i 0) with
        | true =>
          rw [h1] at h
          cases h
          rw [Bool.or_eq_true] at h1
          refine (decide_eq_false ?_).symm
          rcases h1 with q | q
          · rw [Nat.eq_of_beq_eq_true q]; omega
          · have := ax_knows_ok hE q
            omega
        | false =>
          rw [h1] at h
          cases h2 : ax_knows E i j 1 with
          | true =>
            rw [h2] at h
            cases h
            have := ax_knows_ok hE h2
            exact (decide_eq_true (by omega)).symm
          | false =>
            rw [h2] at h
            cases h
      · cases h
    · cases h
theorem ax_deq_ok (hE : ax_ok v E) {x y : Value} {b : Bool} (h : ax_deq E x y = some b) (hx : sx_isI x = true) (hy : sx_isI y = true) : b = decide ((ax_vi v x).toInt = (ax_vi v y).toInt) := by
  unfold ax_deq at h
  split at h
  · rename_i b' hb
    cases h
    exact sx_eq_ok hb (ax_iv_ok hE hx) (ax_iv_ok hE hy)
  · split at h
    · rename_i i _
      split at h
      · rename_i j _
        have ei : ax_vi v (.retAddr i) = (v i).1 := rfl
        have ej : ax_vi v (.retAddr j) = (v j).1 := rfl
        rw [ei, ej]
        cases h1 : (Nat.beq i j || (Nat.beq (ax_base E i).1 (ax_base E j).1 && decide ((ax_base E i).2 = (ax_base E j).2))) with
        | true =>
          rw [h1] at h
          cases h
          refine (decide_eq_true ?_).symm
          rw [Bool.or_eq_true, Bool.and_eq_true] at h1
          rcases h1 with h1 | h1
          · rw [Nat.eq_of_beq_eq_true h1]
          · have bi := ax_base_ok hE i
            have bj := ax_base_ok hE j
            have e2 := of_decide_eq_true h1.2
            rw [Nat.eq_of_beq_eq_true h1.1] at bi
            omega
        | false =>
          rw [h1] at h
          cases h2 : (ax_knows E i j 1 || ax_knows E j i 1) with
          | true =>
            rw [h2] at h
            cases h
            rw [Bool.or_eq_true] at h2
            refine (decide_eq_false ?_).symm
            rcases h2 with q | q
            · have := ax_knows_ok hE q
              omega
            · have := ax_knows_ok hE q
              omega
          | false =>
            rw [h2] at h
            cases h
      · cases h
    · cases h
theorem ax_dec_ok (hE : ax_ok v E) {c : ClassFile.Cond} {x y : Value} {b : Bool} (h : ax_dec E c x y = some b) (hx : sx_isI x = true) (hy : sx_isI y = true) : (b = true → ax_tr c (ax_vi v x).toInt (ax_vi v y).toInt) ∧ (b = false → ¬ ax_tr c (ax_vi v x).toInt (ax_vi v y).toInt) := by
  unfold ax_dec at h
  unfold ax_tr
  cases c with
  | eq =>
    have e := ax_deq_ok hE h hx hy
    exact ⟨fun q => of_decide_eq_true (e.symm.trans q), fun q => of_decide_eq_false (e.symm.trans q)⟩
  | ne =>
    have e := ax_deq_ok hE (sx_neg_ok h) hx hy
    cases b
    · exact ⟨(fun q => by cases q), fun _ q => q (of_decide_eq_true e.symm)⟩
    · exact ⟨fun _ => of_decide_eq_false e.symm, fun q => by cases q⟩
  | lt =>
    have e := ax_dlt_ok hE h hx hy
    exact ⟨fun q => of_decide_eq_true (e.symm.trans q), fun q => of_decide_eq_false (e.symm.trans q)⟩
  | ge =>
    have e := ax_dlt_ok hE (sx_neg_ok h) hx hy
    cases b
    · have := of_decide_eq_true e.symm
      exact ⟨(fun q => by cases q), fun _ => by dsimp only; omega⟩
    · have := of_decide_eq_false e.symm
      exact ⟨(fun _ => by dsimp only; omega), fun q => by cases q⟩
  | gt =>
    have e := ax_dlt_ok hE h hy hx
    exact ⟨fun q => of_decide_eq_true (e.symm.trans q), fun q => of_decide_eq_false (e.symm.trans q)⟩
  | le =>
    have e := ax_dlt_ok hE (sx_neg_ok h) hy hx
    cases b
    · have := of_decide_eq_true e.symm
      exact ⟨(fun q => by cases q), fun _ => by dsimp only; omega⟩
    · have := of_decide_eq_false e.symm
      exact ⟨(fun _ => by dsimp only; omega), fun q => by cases q⟩
theorem ax_fne_ok (hE : ax_ok v E) {i j : Nat} (hij : i ≠ j) (h : ¬ (v i).1.toInt = (v j).1.toInt) : ax_Fok v (ax_fne E i j) := by
  unfold ax_fne
  intro x y c hF
  cases h1 : ax_knows E i j 0 with
  | true =>
    rw [h1] at hF
    cases hF
    have := ax_knows_ok hE h1
    exact ⟨hij, by omega⟩
  | false =>
    rw [h1] at hF
    cases h2 : ax_knows E j i 0 with
    | true =>
      rw [h2] at hF
      cases hF
      have := ax_knows_ok hE h2
      exact ⟨fun z => hij z.symm, by omega⟩
    | false =>
      rw [h2] at hF
      cases hF
theorem ax_fT_ok (hE : ax_ok v E) {c : ClassFile.Cond} {i j : Nat} (hij : i ≠ j) (h : ax_tr c (v i).1.toInt (v j).1.toInt) : ax_Fok v (ax_fT E c i j) := by
  unfold ax_tr at h
  unfold ax_fT
  cases c with
  | eq => intro x y c hF; cases hF
  | ne => exact ax_fne_ok hE hij h
  | lt => intro x y c hF; cases hF; dsimp only at h; exact ⟨hij, by omega⟩
  | ge => intro x y c hF; cases hF; dsimp only at h; exact ⟨fun z => hij z.symm, by omega⟩
  | gt => intro x y c hF; cases hF; dsimp only at h; exact ⟨fun z => hij z.symm, by omega⟩
  | le => intro x y c hF; cases hF; dsimp only at h; exact ⟨hij, by omega⟩
theorem ax_fF_ok (hE : ax_ok v E) {c : ClassFile.Cond} {i j : Nat} (hij : i ≠ j) (h : ¬ ax_tr c (v i).1.toInt (v j).1.toInt) : ax_Fok v (ax_fF E c i j) := by
  unfold ax_tr at h
  unfold ax_fF
  cases c with
  | eq => exact ax_fne_ok hE hij h
  | ne => intro x y c hF; cases hF
  | lt => intro x y c hF; cases hF; dsimp only at h; exact ⟨fun z => hij z.symm, by omega⟩
  | ge => intro x y c hF; cases hF; dsimp only at h; exact ⟨hij, by omega⟩
  | gt => intro x y c hF; cases hF; dsimp only at h; exact ⟨hij, by omega⟩
  | le => intro x y c hF; cases hF; dsimp only at h; exact ⟨fun z => hij z.symm, by omega⟩
theorem ax_two_ok (hE : ax_ok v E) {c : ClassFile.Cond} {x y : Value} {A B : ax_G} {o : Option rx_R} (h : ax_two E c x y A B = .inl (some R)) (hT : ax_tr c (ax_vi v x).toInt (ax_vi v y).toInt → o = some (.inl (ax_g v a M A))) (hF : ¬ ax_tr c (ax_vi v x).toInt (ax_vi v y).toInt → o = some (.inl (ax_g v a M B))) : ax_rel v a M R o := by
  unfold ax_two at h
  split at h
  · rename_i i
    cases h0 : decide ((ax_iv E (.retAddr i)).1 = (ax_iv E (.retAddr i)).2) with
    | true =>
      rw [h0] at h
      dsimp only [cond] at h
      split at h
      · cases h
      · exact (ax_no_no h).elim
    | false =>
      rw [h0] at h
      dsimp only [cond] at h
      split at h
      · rename_i j
        split at h
        · cases h
        · split at h
          · exact (ax_no_no h).elim
          · rename_i hij
            have hne : i ≠ j := fun z => by
              rw [z, Nat.beq_refl] at hij
              cases hij
            cases h
            by_cases ht : ax_tr c (v i).1.toInt (v j).1.toInt
            · exact Or.inl ⟨hT ht, ax_fT_ok hE hne ht⟩
            · exact Or.inr ⟨hF ht, ax_fF_ok hE hne ht⟩
      · cases h
  · split at h
    · cases h
    · exact (ax_no_no h).elim
theorem ax_br_ok (hE : ax_ok v E) {c : ClassFile.Cond} {x y : Value} {off : Int} (h : ax_br E c x y pc off ls st = .inl (some R)) : ∃ x' y', ax_v v x = .int x' ∧ ax_v v y = .int y' ∧ ax_rel v a M R (sx_rbr c x' y' pc off (ax_ls v ls) (st.map (ax_v v)) a M) := by
  unfold ax_br at h
  obtain ⟨hc, h⟩ := sx_cT ax_non h
  rw [Bool.and_eq_true] at hc
  refine ⟨_, _, ax_vI hc.1, ax_vI hc.2, ?_⟩
  split at h
  · rename_i t ht
    split at h
    · rename_i hb
      rw [ax_rbrT ht ((ax_dec_ok hE hb hc.1 hc.2).1 rfl)]
      exact ax_nx_ok h
    · rename_i hb
      rw [ax_rbrF ht ((ax_dec_ok hE hb hc.1 hc.2).2 rfl)]
      exact ax_nx_ok h
    · exact ax_two_ok hE h (fun hh => by rw [ax_rbrT ht hh]; rfl) (fun hh => by rw [ax_rbrF ht hh]; rfl)
  · exact (ax_no_no h).elim
noncomputable def ax_tsw (E : ax_E) (d lo hi : Int) (offs : Array Int) (pc : Nat) (ls : List (Option Value)) (st : List Value) : ax_O := match st with
  | x :: r => cond (sx_isI x && (decide ((ax_iv E x).2 < lo) || decide (hi < (ax_iv E x).1))) (ax_jmp pc d ls r) (match ax_lit E x with
    | some x => (if x.toInt < lo ∨ hi < x.toInt then ax_no else match offs[(x.toInt - lo).toNat]? with
      | some o => ax_jmp pc o ls r
      | none => ax_no)
    | none => (match x with
      | .retAddr k => .inr (k, cond (decide ((ax_iv E x).1 < lo)) (lo - 1) (cond (decide (hi < (ax_iv E x).2)) hi (ax_iv E x).1))
      | _ => ax_no))
  | _ => ax_no
theorem ax_tsw_ok (hE : ax_ok v E) {d lo hi : Int} {offs : Array Int} (h : ax_tsw E d lo hi offs pc ls st = .inl (some R)) : ∃ x r, st.map (ax_v v) = .int x :: r ∧ ax_rel v a M R (if x.toInt < lo ∨ hi < x.toInt then rx_jmp pc d (ax_ls v ls) r a M else match offs[(x.toInt - lo).toNat]? with
    | some o => rx_jmp pc o (ax_ls v ls) r a M
    | none => none) := by
  unfold ax_tsw at h
  split at h
  · rename_i w r
    cases hb : (sx_isI w && (decide ((ax_iv E w).2 < lo) || decide (hi < (ax_iv E w).1))) with
    | true =>
      rw [hb] at h
      rw [Bool.and_eq_true, Bool.or_eq_true] at hb
      have hi9 := ax_iv_ok hE hb.1
      refine ⟨ax_vi v w, r.map (ax_v v), by rw [List.map_cons, ax_vI hb.1], ?_⟩
      rw [if_pos (by rcases hb.2 with q | q <;> have q := of_decide_eq_true q <;> omega)]
      exact ax_jmp_ok h
    | false =>
      rw [hb] at h
      dsimp only [cond] at h
      split at h
      · rename_i x hx
        refine ⟨x, r.map (ax_v v), by rw [List.map_cons, ax_lit_ok hE hx], ?_⟩
        split at h
        · exact (ax_no_no h).elim
        · rename_i hn
          rw [if_neg hn]
          split at h
          · exact ax_jmp_ok h
          · exact (ax_no_no h).elim
      · split at h
        · cases h
        · exact (ax_no_no h).elim
  · exact (ax_no_no h).elim
/-- no key is within these bounds -/
noncomputable def ax_lsn (ps : List (Int × Int)) (b : Int × Int) : Bool := ps.all (fun p => decide (p.1 < b.1) || decide (b.2 < p.1))
theorem ax_lsn_ok {d x : Int} {b : Int × Int} (h1 : b.1 ≤ x) (h2 : x ≤ b.2) : ∀ ps : List (Int × Int), ax_lsn ps b = true → Op.lookupswitch.offset ps d x = d
  | [], _ => rfl
  | (k, o) :: r, h => by
    unfold ax_lsn at h
    rw [List.all_cons, Bool.and_eq_true, Bool.or_eq_true, decide_eq_true_eq, decide_eq_true_eq] at h
    show (if k = x then o else Op.lookupswitch.offset r d x) = d
    rw [if_neg (by omega)]
    exact ax_lsn_ok h1 h2 r h.2
noncomputable def ax_lsc (b : Int × Int) (ps : List (Int × Int)) : Int := List.rec (motive := fun _ => Int) b.1 (fun p _ ih => cond (decide (p.1 < b.1)) ih (cond (decide (p.1 = b.1)) b.1 (p.1 - 1))) ps
noncomputable def ax_lsw (E : ax_E) (d : Int) (ps : Array (Int × Int)) (pc : Nat) (ls : List (Option Value)) (st : List Value) : ax_O := match st with
  | x :: r => cond ((ps.toList.zip (ps.toList.drop 1)).all (fun (a, next) => a.1 < next.1)) (cond (sx_isI x && ax_lsn ps.toList (ax_iv E x)) (ax_jmp pc d ls r) (match ax_lit E x with
    | some x => ax_jmp pc (Op.lookupswitch.offset ps.toList d x.toInt) ls r
    | none => (match x with
      | .retAddr k => .inr (k, ax_lsc (ax_iv E x) ps.toList)
      | _ => ax_no))) ax_no
  | _ => ax_no
theorem ax_lsw_ok (hE : ax_ok v E) {d : Int} {ps : Array (Int × Int)} (h : ax_lsw E d ps pc ls st = .inl (some R)) : ∃ x r, st.map (ax_v v) = .int x :: r ∧ ax_rel v a M R (cond ((ps.toList.zip (ps.toList.drop 1)).all (fun (a, next) => a.1 < next.1)) (rx_jmp pc (Op.lookupswitch.offset ps.toList d x.toInt) (ax_ls v ls) r a M) none) := by
  unfold ax_lsw at h
  split at h
  · rename_i w r
    obtain ⟨hc, h⟩ := sx_cT ax_non h
    cases hn : (sx_isI w && ax_lsn ps.toList (ax_iv E w)) with
    | true =>
      rw [hn, Bool.cond_true] at h
      rw [Bool.and_eq_true] at hn
      have i1 := ax_iv_ok hE hn.1
      refine ⟨ax_vi v w, r.map (ax_v v), by rw [List.map_cons, ax_vI hn.1], ?_⟩
      rw [hc, ax_lsn_ok i1.1 i1.2 _ hn.2]
      exact ax_jmp_ok h
    | false =>
      rw [hn, Bool.cond_false] at h
      split at h
      · rename_i x hx
        refine ⟨x, r.map (ax_v v), by rw [List.map_cons, ax_lit_ok hE hx], ?_⟩
        rw [hc]
        exact ax_jmp_ok h
      · split at h
        · cases h
        · exact (ax_no_no h).elim
  · exact (ax_no_no h).elim
end AXB
