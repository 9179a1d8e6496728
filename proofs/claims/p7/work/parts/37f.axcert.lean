/-! the core: a state at a head of a loop (or at a method's entry), what it must be to arrive there -/
/-- where an unknown of a state comes from: a local; a slot; a base -/
abbrev ax_sr : Type := Nat × Nat × Value
/-- a state: the place, what is known, locals, where its unknowns come from, measure, what the memory at first was -/
abbrev ax_ct : Type := Nat × ax_E × ax_K × List (Option Value) × List ax_sr × List (Bool × Value) × ax_K
noncomputable def ax_dfl : Value := .int 0
noncomputable def ax_sbs (s : List Value) (w : Value) : Value := match w with
  | .retAddr k => sx_at ax_dfl s k
  | .float b => sx_at ax_dfl s b.toNat
  | .double b => sx_at ax_dfl s b.toNat
  | u => u
noncomputable def ax_vl (v : ax_V) (w : Value) : Int32 × Int64 := match w with
  | .int x => (x, 0)
  | .retAddr k => ((v k).1, 0)
  | .ref q => (Int32.ofNat q, 0)
  | .float b => ((v b.toNat).1, 0)
  | .long z => (0, z)
  | .double b => (0, (v b.toNat).2)
  | _ => (0, 0)
noncomputable def ax_vv (v : ax_V) (s : List Value) : ax_V := fun k => ax_vl v (sx_at ax_dfl s k)
/-- a small reference, or one that is unknown -/
noncomputable def ax_rfs (w : Value) : Bool := match w with
  | .ref q => Nat.beq (Int32.ofNat q).toNatClampNeg q
  | .float _ => true
  | _ => false
noncomputable def ax_kd (s : List Value) (w : Value) : Bool := match w with
  | .retAddr k => sx_isI (sx_at ax_dfl s k)
  | .float b => ax_rfs (sx_at ax_dfl s b.toNat)
  | .double b => ax_sh 2 (sx_at ax_dfl s b.toNat)
  | _ => true
theorem ax_vl_i {v : ax_V} {w : Value} (h : sx_isI w = true) : (ax_vl v w).1 = ax_vi v w := by
  cases w <;> first | rfl | (cases h; done)
theorem ax_val_r {v : ax_V} {w : Value} (h : ax_rfs w = true) : (ax_vl v w).1.toNatClampNeg = ax_cell v w ∧ ax_rfv w = true := by
  cases w with
  | ref q => exact ⟨Nat.eq_of_beq_eq_true h, rfl⟩
  | float b => exact ⟨rfl, rfl⟩
  | _ => cases h
theorem ax_kd_ok {v : ax_V} {s : List Value} {w : Value} (h : ax_kd s w = true) : ax_v (ax_vv v s) w = ax_v v (ax_sbs s w) := by
  cases w with
  | retAddr k =>
    have h : sx_isI (sx_at ax_dfl s k) = true := h
    show Value.int (ax_vl v (sx_at ax_dfl s k)).1 = ax_v v (sx_at ax_dfl s k)
    rw [ax_vl_i h, ax_vI h]
  | float b =>
    have h : ax_rfs (sx_at ax_dfl s b.toNat) = true := h
    show Value.ref ((ax_vl v (sx_at ax_dfl s b.toNat)).1.toNatClampNeg) = ax_v v (sx_at ax_dfl s b.toNat)
    have k := ax_val_r (v := v) h
    rw [k.1, ax_v_rf k.2]
  | double b =>
    have h : ax_sh 2 (sx_at ax_dfl s b.toNat) = true := h
    show Value.long (ax_vl v (sx_at ax_dfl s b.toNat)).2 = ax_v v (sx_at ax_dfl s b.toNat)
    generalize sx_at ax_dfl s b.toNat = u at h ⊢
    cases u <;> first | rfl | (cases h; done)
  | _ => rfl
theorem ax_kd_i {v : ax_V} {s : List Value} {w : Value} (h : ax_kd s w = true) (hw : sx_isI w = true) : sx_isI (ax_sbs s w) = true ∧ ax_vi (ax_vv v s) w = ax_vi v (ax_sbs s w) := by
  have k := ax_kd_ok (v := v) h
  cases w with
  | int x => exact ⟨rfl, rfl⟩
  | retAddr j =>
    have h : sx_isI (sx_at ax_dfl s j) = true := h
    refine ⟨h, ?_⟩
    show (ax_vl v (sx_at ax_dfl s j)).1 = _
    rw [ax_vl_i h]
    rfl
  | _ => cases hw
theorem ax_kd_r {v : ax_V} {s : List Value} {w : Value} (h : ax_kd s w = true) (hw : ax_rfv w = true) : ax_rfv (ax_sbs s w) = true ∧ ax_cell (ax_vv v s) w = ax_cell v (ax_sbs s w) := by
  cases w with
  | ref q => exact ⟨rfl, rfl⟩
  | float b =>
    have h : ax_rfs (sx_at ax_dfl s b.toNat) = true := h
    have k := ax_val_r (v := v) h
    exact ⟨k.2, k.1⟩
  | _ => cases hw
/-- w of the state is this value -/
noncomputable def ax_ms (E : ax_E) (s : List Value) (w u : Value) : Bool := ax_kd s w && (match ax_sbs s w with
  | .ref q => (match u with
    | .ref q' => Nat.beq q q'
    | _ => false)
  | .float b => (match u with
    | .float b' => Nat.beq b.toNat b'.toNat
    | _ => false)
  | .double b => (match u with
    | .double b' => Nat.beq b.toNat b'.toNat
    | _ => false)
  | .long z => (match u with
    | .long z' => Nat.beq z.toBitVec.toNat z'.toBitVec.toNat
    | _ => false)
  | x => ax_same E x u)
theorem ax_ms_ok {v : ax_V} {E : ax_E} (hE : ax_ok v E) {s : List Value} {w u : Value} (h : ax_ms E s w u = true) : ax_v (ax_vv v s) w = ax_v v u := by
  unfold ax_ms at h
  rw [Bool.and_eq_true] at h
  obtain ⟨h0, h⟩ := h
  rw [ax_kd_ok h0]
  generalize ax_sbs s w = x at h ⊢
  have gen : ax_same E x u = true → ax_v v x = ax_v v u := fun k => by
    obtain ⟨k1, k2, k3⟩ := ax_same_ok hE k
    rw [ax_vI k1, ax_vI k2, k3]
  cases x with
  | ref q =>
    cases u with
    | ref q' => rw [Nat.eq_of_beq_eq_true h]
    | _ => cases h
  | float b =>
    cases u with
    | float b' =>
      show Value.ref (v b.toNat).1.toNatClampNeg = Value.ref (v b'.toNat).1.toNatClampNeg
      rw [Nat.eq_of_beq_eq_true h]
    | _ => cases h
  | double b =>
    cases u with
    | double b' =>
      show Value.long (v b.toNat).2 = Value.long (v b'.toNat).2
      rw [Nat.eq_of_beq_eq_true h]
    | _ => cases h
  | long z =>
    cases u with
    | long z' =>
      have e : z = z' := by
        apply Int64.toBitVec_inj.mp
        exact BitVec.eq_of_toNat_eq (Nat.eq_of_beq_eq_true h)
      rw [e]
    | _ => cases h
  | _ => exact gen h
noncomputable def ax_om (E : ax_E) (s : List Value) (o o' : Option Value) : Bool := match o with
  | none => true
  | some w => (match o' with
    | some u => ax_ms E s w u
    | none => false)
/-- locals: those of the state are these -/
noncomputable def ax_lsm (E : ax_E) (s : List Value) (l : List (Option Value)) : List (Option Value) → Bool := List.rec (motive := fun _ => List (Option Value) → Bool) (fun l' => l'.isEmpty) (fun o _ ih l' => match l' with
  | [] => false
  | o' :: r => cond (ax_om E s o o') (ih r) false) l
theorem ax_lsm_ok {v : ax_V} {E : ax_E} (hE : ax_ok v E) {s : List Value} : ∀ (l l' : List (Option Value)), ax_lsm E s l l' = true → ax_lle (ax_ls (ax_vv v s) l) (ax_ls v l')
  | [], l', h => by
    have e : l' = [] := List.isEmpty_iff.mp h
    rw [e]
    exact ax_lle_rf []
  | o :: r, [], h => by cases h
  | o :: r, o' :: r', h => by
    have h : cond (ax_om E s o o') (ax_lsm E s r r') false = true := h
    obtain ⟨h1, h2⟩ := sx_cT (by intro q; cases q) h
    have ih := ax_lsm_ok hE r r' h2
    refine ⟨by
      have := ih.1
      unfold ax_ls at this ⊢
      rw [List.map_cons, List.map_cons, List.length_cons, List.length_cons, this], fun k w hk => ?_⟩
    cases k with
    | zero =>
      cases o with
      | none => cases hk
      | some x =>
        cases o' with
        | none => cases h1
        | some u =>
          have h1 : ax_ms E s x u = true := h1
          have e := ax_ms_ok hE h1
          have hk : some (some (ax_v (ax_vv v s) x)) = some (some w) := hk
          show some (some (ax_v v u)) = some (some w)
          rw [← e]
          exact hk
    | succ j => exact ih.2 j w hk
/-- what is known, by a place or by its literal -/
noncomputable def ax_fi2 (E : ax_E) (q : Nat) (y : Value) (K : ax_K) : Option Value := match ax_find q y K with
  | some w => some w
  | none => ax_find q (ax_cx E y) K
theorem ax_fi2_ok {v : ax_V} {E : ax_E} {M : rx_M} {K : ax_K} (hE : ax_ok v E) (hK : ax_kn v K M) {q : Nat} {y w : Value} (hy : sx_isI y = true) (h : ax_fi2 E q y K = some w) : ax_k1 v M (q, y, w) := by
  unfold ax_fi2 at h
  split at h
  · rename_i u hu
    cases h
    exact ax_find_ok K hK hu
  · have k := ax_find_ok K hK h
    unfold ax_k1 at k ⊢
    dsimp only at k ⊢
    rw [(ax_cx_ok hE hy).1] at k
    exact ⟨hy, k.2⟩
/-- what the state knows of memory is known -/
noncomputable def ax_kc (E : ax_E) (K : ax_K) (s : List Value) (e : Nat × Value × Value) : Bool := (ax_kd s e.2.1 && sx_isI e.2.1) && (match ax_fi2 E e.1 (ax_sbs s e.2.1) K with
  | some w => (match e.2.2 with
    | .long n => (match w with
      | .long n' => decide (n.toInt ≤ n'.toInt)
      | _ => false)
    | u => (sx_isI u || ax_rfv u) && ax_ms E s u w)
  | none => false)
theorem ax_kc_ok {v : ax_V} {E : ax_E} {M : rx_M} {K : ax_K} (hE : ax_ok v E) (hK : ax_kn v K M) {s : List Value} {e : Nat × Value × Value} (h : ax_kc E K s e = true) : ax_k1 (ax_vv v s) M e := by
  obtain ⟨q, y, u⟩ := e
  unfold ax_kc at h
  dsimp only at h
  rw [Bool.and_eq_true, Bool.and_eq_true] at h
  obtain ⟨⟨h1, h2⟩, h3⟩ := h
  obtain ⟨y1, y2⟩ := ax_kd_i (v := v) h1 h2
  split at h3
  · rename_i w hw
    have k := ax_fi2_ok hE hK y1 hw
    refine ⟨h2, ?_⟩
    dsimp only
    rw [y2]
    have gen : ((sx_isI u || ax_rfv u) && ax_ms E s u w) = true → (sx_isI u = true ∧ M.1 q (ax_vi v (ax_sbs s y)).toNatClampNeg = ax_vi (ax_vv v s) u) ∨ (ax_rfv u = true ∧ M.2.1 q (ax_vi v (ax_sbs s y)).toNatClampNeg = some (ax_cell (ax_vv v s) u)) := fun h3 => by
      rw [Bool.and_eq_true, Bool.or_eq_true] at h3
      have m := ax_ms_ok hE h3.2
      rcases h3.1 with h4 | h4
      · rw [ax_vI h4] at m
        have hw : sx_isI w = true := by cases w <;> first | rfl | (cases m; done)
        refine Or.inl ⟨h4, ?_⟩
        rw [ax_vI hw] at m
        rw [ax_k1_i k hw]
        exact (Value.int.inj m).symm
      · rw [ax_v_rf h4] at m
        have hw : ax_rfv w = true := by cases w <;> first | rfl | (cases m; done)
        refine Or.inr ⟨h4, ?_⟩
        rw [ax_v_rf hw] at m
        rw [ax_k1_r k hw, Value.ref.inj m]
    split at h3
    · rename_i n
      split at h3
      · rename_i n'
        have h3 := of_decide_eq_true h3
        rcases k.2 with k | k | ⟨m, k, k0, k2⟩
        · cases k.1
        · cases k.1
        · cases k
          exact Or.inr (Or.inr ⟨n, rfl, k0, fun j hj => k2 j (by omega)⟩)
      · cases h3
    · rcases gen h3 with z | z
      · exact Or.inl z
      · exact Or.inr (Or.inl z)
  · cases h3
/-- bounds of an unknown's value -/
noncomputable def ax_ivr (E : ax_E) (w : Value) : Int × Int := match w with
  | .ref q => ((q : Int), (q : Int))
  | .float b => ax_ivh E (.retAddr b.toNat)
  | .long _ => (0, 0)
  | .double _ => (0, 0)
  | .int x => (x.toInt, x.toInt)
  | .retAddr k => ax_ivh E (.retAddr k)
  | _ => sx_full
theorem ax_small {q : Nat} (e : (Int32.ofNat q).toNatClampNeg = q) : (Int32.ofNat q).toInt = (q : Int) := by
  have e3 : ((Int32.ofNat q).toNatClampNeg : Int) = max 0 (Int32.ofNat q).toInt := by
    show (((Int32.ofNat q).toInt.toNat : Nat) : Int) = _
    omega
  by_cases h0 : 0 ≤ (Int32.ofNat q).toInt
  · omega
  · have hq : q = 0 := by omega
    subst hq
    rfl
theorem ax_ivr_ok {v : ax_V} {E : ax_E} (hE : ax_ok v E) {w : Value} (h : sx_isI w || (ax_rfs w || ax_sh 2 w)) : (ax_ivr E w).1 ≤ (ax_vl v w).1.toInt ∧ (ax_vl v w).1.toInt ≤ (ax_ivr E w).2 := by
  cases w with
  | int x => exact ⟨Int.le_refl _, Int.le_refl _⟩
  | retAddr k => exact ax_ivh_ok hE (w := .retAddr k) rfl
  | ref q =>
    have h : Nat.beq (Int32.ofNat q).toNatClampNeg q = true := by
      simpa [sx_isI, ax_rfs, ax_sh] using h
    have e2 := ax_small (Nat.eq_of_beq_eq_true h)
    show ((q : Int)) ≤ (Int32.ofNat q).toInt ∧ (Int32.ofNat q).toInt ≤ (q : Int)
    omega
  | float b => exact ax_ivh_ok hE (w := .retAddr b.toNat) rfl
  | long z => exact ⟨Int.le_refl _, Int.le_refl _⟩
  | double b => exact ⟨Int.le_refl _, Int.le_refl _⟩
  | _ => cases h
noncomputable def ax_bc (Ec E : ax_E) (s : List Value) (k : Nat) : Bool := (sx_isI (sx_at ax_dfl s k) || (ax_rfs (sx_at ax_dfl s k) || ax_sh 2 (sx_at ax_dfl s k))) && (decide ((ax_b Ec k).1 ≤ (ax_ivr E (sx_at ax_dfl s k)).1) && decide ((ax_ivr E (sx_at ax_dfl s k)).2 ≤ (ax_b Ec k).2))
/-- a base and an offset, of a reference, too -/
noncomputable def ax_bs (E : ax_E) (w : Value) : Option (Nat × Int) := match w with
  | .retAddr k => some (ax_base E k)
  | .float b => some (ax_base E b.toNat)
  | _ => none
theorem ax_bs_ok {v : ax_V} {E : ax_E} (hE : ax_ok v E) {w : Value} {b : Nat} {o : Int} (h : ax_bs E w = some (b, o)) : (ax_vl v w).1.toInt = (v b).1.toInt + o := by
  cases w with
  | retAddr k =>
    have h : some (ax_base E k) = some (b, o) := h
    have k1 := ax_base_ok hE k
    rw [Option.some.inj h] at k1
    exact k1
  | float c =>
    have h : some (ax_base E c.toNat) = some (b, o) := h
    have k1 := ax_base_ok hE c.toNat
    rw [Option.some.inj h] at k1
    exact k1
  | _ => cases h
noncomputable def ax_pnt (E : ax_E) (w : Value) : Option Int := cond ((sx_isI w || ax_rfs w) && decide ((ax_ivr E w).1 = (ax_ivr E w).2)) (some (ax_ivr E w).1) none
theorem ax_pnt_ok {v : ax_V} {E : ax_E} (hE : ax_ok v E) {w : Value} {x : Int} (h : ax_pnt E w = some x) : (ax_vl v w).1.toInt = x := by
  unfold ax_pnt at h
  cases hc : ((sx_isI w || ax_rfs w) && decide ((ax_ivr E w).1 = (ax_ivr E w).2)) with
  | false => rw [hc] at h; cases h
  | true =>
    rw [hc] at h
    cases h
    rw [Bool.and_eq_true, decide_eq_true_eq, Bool.or_eq_true] at hc
    have k := ax_ivr_ok (v := v) hE (w := w) (by
      rcases hc.1 with q | q
      · rw [q]; rfl
      · rw [q, Bool.true_or, Bool.or_true])
    omega
/-- x = b + o -/
noncomputable def ax_dc (E : ax_E) (x b : Value) (o : Int) : Bool := (match ax_bs E x with
  | some p => (match ax_bs E b with
    | some q => Nat.beq p.1 q.1 && decide (p.2 = q.2 + o)
    | none => false)
  | none => false) || (match ax_pnt E x with
  | some p => (match ax_pnt E b with
    | some q => decide (p = q + o)
    | none => false)
  | none => false)
theorem ax_dc_ok {v : ax_V} {E : ax_E} (hE : ax_ok v E) {x b : Value} {o : Int} (h : ax_dc E x b o = true) : (ax_vl v x).1.toInt = (ax_vl v b).1.toInt + o := by
  unfold ax_dc at h
  rw [Bool.or_eq_true] at h
  rcases h with h | h
  · split at h
    · rename_i p hp
      split at h
      · rename_i q hq
        rw [Bool.and_eq_true, decide_eq_true_eq] at h
        have k1 := ax_bs_ok (v := v) hE (b := p.1) (o := p.2) hp
        have k2 := ax_bs_ok (v := v) hE (b := q.1) (o := q.2) hq
        rw [Nat.eq_of_beq_eq_true h.1] at k1
        omega
      · cases h
    · cases h
  · split at h
    · rename_i p hp
      split at h
      · rename_i q hq
        rw [decide_eq_true_eq] at h
        have k1 := ax_pnt_ok (v := v) hE hp
        have k2 := ax_pnt_ok (v := v) hE hq
        omega
      · cases h
    · cases h
/-- x = p - q -/
noncomputable def ax_dd (E : ax_E) (x p q : Value) : Bool := (match ax_bs E x with
  | some b => E.2.2.2.1.any (fun d => Nat.beq d.1 b.1 && ((sx_isI d.2.1 && sx_isI d.2.2) && (match ax_pnt E p with
    | some u => (match ax_pnt E d.2.1 with
      | some u' => (match ax_bs E q with
        | some c => (match ax_bs E d.2.2 with
          | some c' => Nat.beq c.1 c'.1 && decide (u' - c'.2 + b.2 = u - c.2)
          | none => false)
        | none => false)
      | none => false)
    | none => false)))
  | none => false) || (match ax_pnt E x with
  | some a => (match ax_pnt E p with
    | some b => (match ax_pnt E q with
      | some c => decide (a = b - c)
      | none => false)
    | none => false)
  | none => false)
theorem ax_dd_ok {v : ax_V} {E : ax_E} (hE : ax_ok v E) {x p q : Value} (h : ax_dd E x p q = true) : (ax_vl v x).1.toInt = (ax_vl v p).1.toInt - (ax_vl v q).1.toInt := by
  unfold ax_dd at h
  rw [Bool.or_eq_true] at h
  rcases h with h | h
  · split at h
    · rename_i b hb
      have k0 := ax_bs_ok (v := v) hE (b := b.1) (o := b.2) hb
      obtain ⟨d, hd, h1⟩ := List.any_eq_true.mp h
      rw [Bool.and_eq_true, Bool.and_eq_true, Bool.and_eq_true] at h1
      obtain ⟨h1, ⟨i1, i2⟩, h2⟩ := h1
      have kd := hE.2.2.1 d hd
      rw [Nat.eq_of_beq_eq_true h1, ← ax_vl_i i1, ← ax_vl_i i2] at kd
      split at h2
      · rename_i u hu
        have k1 := ax_pnt_ok (v := v) hE hu
        split at h2
        · rename_i u' hu'
          have k2 := ax_pnt_ok (v := v) hE hu'
          split at h2
          · rename_i c hc
            have k3 := ax_bs_ok (v := v) hE (b := c.1) (o := c.2) hc
            split at h2
            · rename_i c' hc'
              have k4 := ax_bs_ok (v := v) hE (b := c'.1) (o := c'.2) hc'
              rw [Bool.and_eq_true, decide_eq_true_eq] at h2
              rw [Nat.eq_of_beq_eq_true h2.1] at k3
              omega
            · cases h2
          · cases h2
        · cases h2
      · cases h2
    · cases h
  · split at h
    · rename_i a ha
      split at h
      · rename_i b hb
        split at h
        · rename_i c hc
          rw [decide_eq_true_eq] at h
          have k1 := ax_pnt_ok (v := v) hE ha
          have k2 := ax_pnt_ok (v := v) hE hb
          have k3 := ax_pnt_ok (v := v) hE hc
          omega
        · cases h
      · cases h
    · cases h
/-- all that the state asks of its unknowns -/
noncomputable def ax_ec (Ec E : ax_E) (s : List Value) : Bool := (List.range Ec.1).all (ax_bc Ec E s) && (Ec.2.2.1.all (fun d => ax_dc E (sx_at ax_dfl s d.1) (sx_at ax_dfl s d.2.1) d.2.2) && (Ec.2.2.2.1.all (fun d => (ax_kd s d.2.1 && ax_kd s d.2.2) && ((sx_isI d.2.1 && sx_isI d.2.2) && ax_dd E (sx_at ax_dfl s d.1) (ax_sbs s d.2.1) (ax_sbs s d.2.2))) && Ec.2.2.2.2.all (fun d => ax_leq E (sx_at ax_dfl s d.1) (sx_at ax_dfl s d.2.1) d.2.2)))
theorem ax_ec_ok {v : ax_V} {Ec E : ax_E} (hE : ax_ok v E) {s : List Value} (h : ax_ec Ec E s = true) : ax_ok (ax_vv v s) Ec := by
  unfold ax_ec at h
  rw [Bool.and_eq_true, Bool.and_eq_true, Bool.and_eq_true] at h
  obtain ⟨h1, h2, h3, h4⟩ := h
  refine ⟨fun k => ?_, fun d hd => ?_, fun d hd => ?_, fun d hd => ?_⟩
  · by_cases hk : k < Ec.1
    · have k1 := List.all_eq_true.mp h1 k (List.mem_range.mpr hk)
      unfold ax_bc at k1
      rw [Bool.and_eq_true, Bool.and_eq_true, decide_eq_true_eq, decide_eq_true_eq] at k1
      have k2 := ax_ivr_ok (v := v) hE k1.1
      show (ax_b Ec k).1 ≤ (ax_vl v (sx_at ax_dfl s k)).1.toInt ∧ (ax_vl v (sx_at ax_dfl s k)).1.toInt ≤ (ax_b Ec k).2
      omega
    · rw [ax_b_ge hk]
      exact ax_full_ok _
  · exact ax_dc_ok hE (List.all_eq_true.mp h2 d hd)
  · have k := List.all_eq_true.mp h3 d hd
    rw [Bool.and_eq_true, Bool.and_eq_true, Bool.and_eq_true, Bool.and_eq_true] at k
    obtain ⟨⟨k1, k2⟩, ⟨k3, k4⟩, k5⟩ := k
    have k6 := ax_dd_ok (v := v) hE k5
    obtain ⟨p1, p2⟩ := ax_kd_i (v := v) k1 k3
    obtain ⟨q1, q2⟩ := ax_kd_i (v := v) k2 k4
    rw [ax_vl_i p1, ax_vl_i q1] at k6
    rw [p2, q2]
    exact k6
  · obtain ⟨k1, k2, k3⟩ := ax_leq_ok hE (List.all_eq_true.mp h4 d hd)
    rw [← ax_vl_i k1, ← ax_vl_i k2] at k3
    exact k3
