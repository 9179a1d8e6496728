/-! the core: a step that neither reads nor writes memory -/
/-- t = s - n: what t's bounds tell of n -/
noncomputable def ax_prop (E : ax_E) (t : Nat) : ax_E := List.rec (motive := fun _ => ax_E) E (fun d _ ih => cond (Nat.beq d.1 t && sx_isI d.2.1) (match d.2.2 with
  | .retAddr m => ax_set E m ((ax_b E m).1, min (ax_b E m).2 ((ax_iv E d.2.1).2 - (ax_b E t).1))
  | _ => ih) ih) E.2.2.2.1
theorem ax_prop_ok0 {v : ax_V} {E : ax_E} {t : Nat} (hE : ax_ok v E) : ∀ L : List (Nat × Value × Value), (∀ d ∈ L, (v d.1).1.toInt = (ax_vi v d.2.1).toInt - (ax_vi v d.2.2).toInt) → ax_ok v (List.rec (motive := fun _ => ax_E) E (fun d _ ih => cond (Nat.beq d.1 t && sx_isI d.2.1) (match d.2.2 with
  | .retAddr m => ax_set E m ((ax_b E m).1, min (ax_b E m).2 ((ax_iv E d.2.1).2 - (ax_b E t).1))
  | _ => ih) ih) L)
  | [], _ => hE
  | d :: r, h => by
    have ih := ax_prop_ok0 (t := t) hE r (fun z hz => h z (List.mem_cons_of_mem _ hz))
    dsimp only
    cases hd : (Nat.beq d.1 t && sx_isI d.2.1)
    · exact ih
    · rw [Bool.and_eq_true] at hd
      have h1 := h d List.mem_cons_self
      have h2 := ax_iv_ok hE hd.2
      have e := Nat.eq_of_beq_eq_true hd.1
      show ax_ok v (match d.2.2 with
        | .retAddr m => ax_set E m ((ax_b E m).1, min (ax_b E m).2 ((ax_iv E d.2.1).2 - (ax_b E t).1))
        | _ => _)
      split
      · rename_i m hm
        have h3 := hE.1 m
        have h4 := hE.1 t
        rw [hm, e] at h1
        have h5 : (ax_vi v (.retAddr m)) = (v m).1 := rfl
        rw [h5] at h1
        exact ax_set_ok hE ⟨h3.1, by show (v m).1.toInt ≤ min (ax_b E m).2 ((ax_iv E d.2.1).2 - (ax_b E t).1); omega⟩
      · exact ih
theorem ax_prop_ok {v : ax_V} {E : ax_E} {t : Nat} (hE : ax_ok v E) : ax_ok v (ax_prop E t) := ax_prop_ok0 hE _ hE.2.2.1
theorem ax_prop_wf0 {E : ax_E} {t : Nat} (hE : ax_wf E) : ∀ L : List (Nat × Value × Value), ax_wf (List.rec (motive := fun _ => ax_E) E (fun d _ ih => cond (Nat.beq d.1 t && sx_isI d.2.1) (match d.2.2 with
  | .retAddr m => ax_set E m ((ax_b E m).1, min (ax_b E m).2 ((ax_iv E d.2.1).2 - (ax_b E t).1))
  | _ => ih) ih) L) ∧ (List.rec (motive := fun _ => ax_E) E (fun d _ ih => cond (Nat.beq d.1 t && sx_isI d.2.1) (match d.2.2 with
  | .retAddr m => ax_set E m ((ax_b E m).1, min (ax_b E m).2 ((ax_iv E d.2.1).2 - (ax_b E t).1))
  | _ => ih) ih) L).1 = E.1
  | [] => ⟨hE, rfl⟩
  | d :: r => by
    have ih := ax_prop_wf0 (t := t) hE r
    dsimp only
    cases hd : (Nat.beq d.1 t && sx_isI d.2.1)
    · exact ih
    · show ax_wf (match d.2.2 with
        | .retAddr m => ax_set E m ((ax_b E m).1, min (ax_b E m).2 ((ax_iv E d.2.1).2 - (ax_b E t).1))
        | _ => _) ∧ (match d.2.2 with
        | .retAddr m => ax_set E m ((ax_b E m).1, min (ax_b E m).2 ((ax_iv E d.2.1).2 - (ax_b E t).1))
        | _ => _).1 = E.1
      split
      · exact ⟨ax_set_wf hE, ax_set_n⟩
      · exact ih
theorem ax_prop_wf {E : ax_E} {t : Nat} (hE : ax_wf E) : ax_wf (ax_prop E t) := (ax_prop_wf0 hE _).1
theorem ax_prop_n {E : ax_E} {t : Nat} (hE : ax_wf E) : (ax_prop E t).1 = E.1 := (ax_prop_wf0 hE _).2
/-- x + c <= y, and what it tells of their bounds -/
noncomputable def ax_le (E : ax_E) (x y : Nat) (c : Int) : ax_E := cond (Nat.blt x E.1 && Nat.blt y E.1) (ax_prop (ax_set (ax_set (ax_fact E (x, y, c)) x ((ax_b E x).1, min (ax_b E x).2 ((ax_b E y).2 - c))) y (max (ax_b E y).1 ((ax_b E x).1 + c), (ax_b E y).2)) y) E
theorem ax_le_ok {v : ax_V} {E : ax_E} {x y : Nat} {c : Int} (hE : ax_ok v E) (hxy : x ≠ y) (h : (v x).1.toInt + c ≤ (v y).1.toInt) : ax_ok v (ax_le E x y c) := by
  unfold ax_le
  cases (Nat.blt x E.1 && Nat.blt y E.1)
  · exact hE
  · have h1 := hE.1 x
    have h2 := hE.1 y
    refine ax_prop_ok (ax_set_ok (ax_set_ok (ax_fact_ok hE h) ?_) ?_)
    · dsimp only
      omega
    · dsimp only
      omega
theorem ax_le_wf {E : ax_E} {x y : Nat} {c : Int} (hE : ax_wf E) : ax_wf (ax_le E x y c) ∧ (ax_le E x y c).1 = E.1 := by
  unfold ax_le
  cases h : (Nat.blt x E.1 && Nat.blt y E.1)
  · exact ⟨hE, rfl⟩
  · rw [Bool.and_eq_true] at h
    have w := ax_fact_wf (d := (x, y, c)) hE ⟨Nat.blt_eq.mp h.1, Nat.blt_eq.mp h.2⟩
    refine ⟨ax_prop_wf (ax_set_wf (ax_set_wf w)), ?_⟩
    show (ax_prop _ y).1 = E.1
    rw [ax_prop_n (ax_set_wf (ax_set_wf w)), ax_set_n, ax_set_n]
    rfl
abbrev ax_G : Type := Nat × List (Option Value) × List Value
/-- a new int: its bounds; base and offset; a difference -/
abbrev ax_N : Type := (Int × Int) × Option (Nat × Int) × Option (Value × Value)
/-- it goes on; .. with a new int on the stack; .. with a new long; one of two, each with what is then known (x + c <= y) -/
abbrev ax_R : Type := ax_G ⊕ ((ax_G × ax_N) ⊕ (ax_G ⊕ ((ax_G × Option (Nat × Nat × Int)) × (ax_G × Option (Nat × Nat × Int)))))
abbrev ax_O : Type := Option ax_R ⊕ (Nat × Int)
noncomputable def ax_ls (v : ax_V) (ls : List (Option Value)) : List (Option Value) := ls.map (Option.map (ax_v v))
noncomputable def ax_Nok (v : ax_V) (N : ax_N) (z : Int32) : Prop := (N.1.1 ≤ z.toInt ∧ z.toInt ≤ N.1.2) ∧ (∀ b o, N.2.1 = some (b, o) → z.toInt = (v b).1.toInt + o) ∧ ∀ p q, N.2.2 = some (p, q) → z.toInt = (ax_vi v p).toInt - (ax_vi v q).toInt
noncomputable def ax_Fok (v : ax_V) (F : Option (Nat × Nat × Int)) : Prop := ∀ x y c, F = some (x, y, c) → x ≠ y ∧ (v x).1.toInt + c ≤ (v y).1.toInt
noncomputable def ax_g (v : ax_V) (a : rx_K) (M : rx_M) (G : ax_G) : rx_C := (G.1, ax_ls v G.2.1, G.2.2.map (ax_v v), a, M)
/-- the step that the abstract machine takes -/
noncomputable def ax_rel (v : ax_V) (a : rx_K) (M : rx_M) (R : ax_R) (o : Option rx_R) : Prop := match R with
  | .inl G => o = some (.inl (ax_g v a M G))
  | .inr (.inl (G, N)) => ∃ z, o = some (.inl (G.1, ax_ls v G.2.1, .int z :: G.2.2.map (ax_v v), a, M)) ∧ ax_Nok v N z
  | .inr (.inr (.inl G)) => ∃ z, o = some (.inl (G.1, ax_ls v G.2.1, .long z :: G.2.2.map (ax_v v), a, M))
  | .inr (.inr (.inr (A, B))) => (o = some (.inl (ax_g v a M A.1)) ∧ ax_Fok v A.2) ∨ (o = some (.inl (ax_g v a M B.1)) ∧ ax_Fok v B.2)
noncomputable def ax_no : ax_O := .inl none
noncomputable def ax_nx (pc : Nat) (ls : List (Option Value)) (st : List Value) : ax_O := .inl (some (.inl (pc, ls, st)))
noncomputable def ax_nw (pc : Nat) (ls : List (Option Value)) (st : List Value) (N : ax_N) : ax_O := .inl (some (.inr (.inl ((pc, ls, st), N))))
noncomputable def ax_free : ax_N := (sx_full, none, none)
section AXP
variable {v : ax_V} {E : ax_E} {a : rx_K} {M : rx_M} {pc : Nat} {ls : List (Option Value)} {st r : List Value} {R : ax_R}
theorem ax_non : ax_no ≠ .inl (some R) := fun h => by
  unfold ax_no at h
  cases h
theorem ax_no_no (h : ax_no = .inl (some R)) : False := ax_non h
theorem ax_nx_ok (h : ax_nx pc ls st = .inl (some R)) : ax_rel v a M R (rx_nx pc (ax_ls v ls) (st.map (ax_v v)) a M) := by
  unfold ax_nx at h
  cases h
  rfl
theorem ax_free_ok (z : Int32) : ax_Nok v ax_free z := ⟨ax_full_ok z, (fun b o h => by cases h), fun p q h => by cases h⟩
theorem ax_ls_get {k : Nat} {w : Value} (h : ls[k]? = some (some w)) : (ax_ls v ls)[k]? = some (some (ax_v v w)) := by
  unfold ax_ls
  rw [List.getElem?_map, h]
  rfl
theorem ax_ls_len : (ax_ls v ls).length = ls.length := List.length_map _
theorem ax_ls_set {k : Nat} {o : Option Value} : ax_ls v (ls.set k o) = (ax_ls v ls).set k (o.map (ax_v v)) := by
  unfold ax_ls
  rw [List.map_set]
theorem ax_ls_kill {k : Nat} : ax_ls v (rx_kill ls k) = rx_kill (ax_ls v ls) k := by
  unfold rx_kill
  cases k with
  | zero => rfl
  | succ j =>
    dsimp only
    have e : (ax_ls v ls)[j]? = (ls[j]?).map (Option.map (ax_v v)) := by unfold ax_ls; rw [List.getElem?_map]
    rw [e]
    cases ls[j]? with
    | none => rfl
    | some o =>
      cases o with
      | none => rfl
      | some w =>
        show ax_ls v (cond (Nat.beq w.category 2) (ls.set j none) ls) = cond (Nat.beq (ax_v v w).category 2) ((ax_ls v ls).set j none) (ax_ls v ls)
        rw [ax_v_cat]
        cases Nat.beq w.category 2
        · rfl
        · exact ax_ls_set
theorem ax_ls_s1 {k : Nat} {w : Value} : ax_ls v (rx_s1 ls k w) = rx_s1 (ax_ls v ls) k (ax_v v w) := by
  unfold rx_s1
  rw [ax_ls_set, ax_ls_kill]
  rfl
theorem ax_ls_s2 {k : Nat} {w : Value} : ax_ls v (rx_s2 ls k w) = rx_s2 (ax_ls v ls) k (ax_v v w) := by
  unfold rx_s2
  rw [ax_ls_set, ax_ls_set, ax_ls_kill]
  rfl
noncomputable def ax_sh (sh : Nat) (w : Value) : Bool := match w with
  | .int _ => Nat.beq sh 0
  | .retAddr _ => Nat.beq sh 0
  | .ref _ => Nat.beq sh 1
  | .float _ => Nat.beq sh 1
  | .long _ => Nat.beq sh 2
  | .double _ => Nat.beq sh 2
  | _ => false
noncomputable def ax_ld (ls : List (Option Value)) (k sh pc : Nat) (st : List Value) : ax_O := match sx_at none ls k with
  | some w => cond (ax_sh sh w) (ax_nx pc ls (w :: st)) ax_no
  | none => ax_no
theorem ax_ld_ok {k sh : Nat} (h : ax_ld ls k sh pc st = .inl (some R)) : ax_rel v a M R (rx_ld (ax_ls v ls) k sh pc (st.map (ax_v v)) a M) := by
  unfold ax_ld at h
  rw [sx_at_none] at h
  cases hk : ls[k]? with
  | none => rw [hk] at h; exact (ax_no_no h).elim
  | some o =>
    cases o with
    | none => rw [hk] at h; exact (ax_no_no h).elim
    | some w =>
      rw [hk] at h
      obtain ⟨hs, h⟩ := sx_cT (b := ax_sh sh w) ax_non h
      unfold rx_ld
      rw [ax_ls_get hk]
      have K := ax_nx_ok (v := v) (a := a) (M := M) h
      cases w with
      | int x => rw [Nat.eq_of_beq_eq_true hs]; exact K
      | retAddr x => rw [Nat.eq_of_beq_eq_true hs]; exact K
      | ref x => rw [Nat.eq_of_beq_eq_true hs]; exact K
      | float x => rw [Nat.eq_of_beq_eq_true hs]; exact K
      | long x => rw [Nat.eq_of_beq_eq_true hs]; exact K
      | double x => rw [Nat.eq_of_beq_eq_true hs]; exact K
      | _ => cases hs
noncomputable def ax_sto (ls : List (Option Value)) (k sh pc : Nat) (st : List Value) : ax_O := match st with
  | w :: r => cond (ax_sh sh w) (cond (Nat.beq sh 2) (cond (sx_hasF ls (k + 1)) (ax_nx pc (rx_s2 ls k w) r) ax_no) (cond (sx_hasF ls k) (ax_nx pc (sx_s1F ls k w) r) ax_no)) ax_no
  | [] => ax_no
theorem ax_sto_ok {k sh : Nat} (h : ax_sto ls k sh pc st = .inl (some R)) : ax_rel v a M R (rx_sto (ax_ls v ls) k sh pc (st.map (ax_v v)) a M) := by
  unfold ax_sto at h
  split at h
  · rename_i w r
    obtain ⟨hs, h⟩ := sx_cT ax_non h
    have k1 : ∀ y : Value, ax_v v w = y → Nat.beq sh 2 = false → k < (ax_ls v ls).length ∧ ax_rel v a M R (rx_nx pc (rx_s1 (ax_ls v ls) k y) (r.map (ax_v v)) a M) := fun y hy hb => by
      rw [hb] at h
      obtain ⟨hl, h⟩ := sx_cT ax_non h
      rw [sx_hasF_eq] at hl
      rw [sx_s1F_eq] at h
      have K := ax_nx_ok (v := v) (a := a) (M := M) h
      rw [ax_ls_s1, hy] at K
      exact ⟨by rw [ax_ls_len]; exact Nat.blt_eq.mp hl, K⟩
    have k2 : Nat.beq sh 2 = true → k + 1 < (ax_ls v ls).length ∧ ax_rel v a M R (rx_nx pc (rx_s2 (ax_ls v ls) k (ax_v v w)) (r.map (ax_v v)) a M) := fun hb => by
      rw [hb] at h
      obtain ⟨hl, h⟩ := sx_cT (b := sx_hasF ls (k + 1)) ax_non h
      rw [sx_hasF_eq] at hl
      have K := ax_nx_ok (v := v) (a := a) (M := M) h
      rw [ax_ls_s2] at K
      exact ⟨by rw [ax_ls_len]; exact Nat.blt_eq.mp hl, K⟩
    unfold rx_sto
    cases w with
    | int x =>
      have e := Nat.eq_of_beq_eq_true hs
      subst e
      obtain ⟨q1, q2⟩ := k1 _ rfl rfl
      show ax_rel v a M R (if k < (ax_ls v ls).length then _ else none)
      rw [if_pos q1]
      exact q2
    | retAddr x =>
      have e := Nat.eq_of_beq_eq_true hs
      subst e
      obtain ⟨q1, q2⟩ := k1 _ rfl rfl
      show ax_rel v a M R (if k < (ax_ls v ls).length then _ else none)
      rw [if_pos q1]
      exact q2
    | ref x =>
      have e := Nat.eq_of_beq_eq_true hs
      subst e
      obtain ⟨q1, q2⟩ := k1 _ rfl rfl
      show ax_rel v a M R (if k < (ax_ls v ls).length then _ else none)
      rw [if_pos q1]
      exact q2
    | float x =>
      have e := Nat.eq_of_beq_eq_true hs
      subst e
      obtain ⟨q1, q2⟩ := k1 _ rfl rfl
      show ax_rel v a M R (if k < (ax_ls v ls).length then _ else none)
      rw [if_pos q1]
      exact q2
    | long x =>
      have e := Nat.eq_of_beq_eq_true hs
      subst e
      obtain ⟨q1, q2⟩ := k2 rfl
      show ax_rel v a M R (if k + 1 < (ax_ls v ls).length then _ else none)
      rw [if_pos q1]
      exact q2
    | double x =>
      have e := Nat.eq_of_beq_eq_true hs
      subst e
      obtain ⟨q1, q2⟩ := k2 rfl
      show ax_rel v a M R (if k + 1 < (ax_ls v ls).length then _ else none)
      rw [if_pos q1]
      exact q2
    | _ => cases hs
  · exact (ax_no_no h).elim
end AXP
