/-! a run with unknown ints: 'retAddr k' stands for the k-th unknown, of which bounds are known -/
abbrev sx_E : Type := List (Int × Int)
abbrev sx_T (α : Type) : Type := List (List (List (Nat × α)))
/-- ints (or unknowns); references -/
abbrev sx_M : Type := sx_T Value × sx_T Nat
abbrev sx_C : Type := Nat × List (Option Value) × List Value × rx_K × sx_M
/-- it goes on; a call; an end; an exception -/
abbrev sx_R : Type := sx_C ⊕ ((Nat × List Value × sx_C) ⊕ (Option Value ⊕ Nat))
/-- a step; or: the k-th unknown is to be split behind b -/
abbrev sx_O : Type := Option sx_R ⊕ (Nat × Int)
noncomputable def sx_at {α : Type} (d : α) (l : List α) : Nat → α := List.rec (motive := fun _ => Nat → α) (fun _ => d) (fun x _ ih n => Nat.rec (motive := fun _ => α) x (fun m _ => ih m) n) l
noncomputable def sx_put {α : Type} (d v : α) (n : Nat) : List α → List α := Nat.rec (motive := fun _ => List α → List α) (fun l => List.rec (motive := fun _ => List α) [v] (fun _ t _ => v :: t) l) (fun _ ih l => List.rec (motive := fun _ => List α) (d :: ih []) (fun x t _ => x :: ih t) l) n
theorem sx_at_put {α : Type} {d v : α} : ∀ (n : Nat) (l : List α) (m : Nat), sx_at d (sx_put d v n l) m = if m = n then v else sx_at d l m
  | 0, [], 0 => rfl
  | 0, [], m + 1 => rfl
  | 0, x :: t, 0 => rfl
  | 0, x :: t, m + 1 => rfl
  | n + 1, [], 0 => rfl
  | n + 1, [], m + 1 => by
    show sx_at d (sx_put d v n []) m = _
    rw [sx_at_put n [] m]
    by_cases h : m = n
    · rw [if_pos h, if_pos (by omega)]
    · rw [if_neg h, if_neg (by omega)]
      cases m <;> rfl
  | n + 1, x :: t, 0 => rfl
  | n + 1, x :: t, m + 1 => by
    show sx_at d (sx_put d v n t) m = _
    rw [sx_at_put n t m]
    by_cases h : m = n
    · rw [if_pos h, if_pos (by omega)]
    · rw [if_neg h, if_neg (by omega)]
      rfl
noncomputable def sx_ag {α : Type} (l : List (Nat × α)) (j : Nat) : Option α := List.rec (motive := fun _ => Option α) none (fun x _ ih => cond (Nat.beq x.1 j) (some x.2) ih) l
noncomputable def sx_ap {α : Type} (j : Nat) (v : α) (l : List (Nat × α)) : List (Nat × α) := List.rec (motive := fun _ => List (Nat × α)) [(j, v)] (fun x t ih => cond (Nat.beq x.1 j) ((j, v) :: t) (x :: ih)) l
theorem sx_beq {a b : Nat} : Nat.beq a b = decide (a = b) := by
  by_cases h : a = b
  · subst h
    rw [Nat.beq_refl, decide_eq_true rfl]
  · rw [decide_eq_false h]
    cases hb : Nat.beq a b
    · rfl
    · exact absurd (Nat.eq_of_beq_eq_true hb) h
theorem sx_ag_ap {α : Type} {j : Nat} {v : α} : ∀ (l : List (Nat × α)) (i : Nat), sx_ag (sx_ap j v l) i = if i = j then some v else sx_ag l i
  | [], i => by
    show cond (Nat.beq j i) (some v) none = _
    rw [sx_beq]
    by_cases h : i = j
    · rw [if_pos h, decide_eq_true h.symm]; rfl
    · rw [if_neg h, decide_eq_false (fun q => h q.symm)]; rfl
  | x :: t, i => by
    have ih := sx_ag_ap (j := j) (v := v) t i
    show sx_ag (cond (Nat.beq x.1 j) ((j, v) :: t) (x :: sx_ap j v t)) i = _
    rw [sx_beq]
    by_cases hx : x.1 = j
    · rw [decide_eq_true hx]
      show cond (Nat.beq j i) (some v) (sx_ag t i) = _
      rw [sx_beq]
      by_cases h : i = j
      · rw [if_pos h, decide_eq_true h.symm]; rfl
      · rw [if_neg h, decide_eq_false (fun q => h q.symm)]
        show sx_ag t i = cond (Nat.beq x.1 i) (some x.2) (sx_ag t i)
        rw [sx_beq, decide_eq_false (fun q => h (q.symm.trans hx))]
        rfl
    · rw [decide_eq_false hx]
      show cond (Nat.beq x.1 i) (some x.2) (sx_ag (sx_ap j v t) i) = if i = j then some v else cond (Nat.beq x.1 i) (some x.2) (sx_ag t i)
      rw [sx_beq, ih]
      by_cases h : i = j
      · rw [if_pos h, if_pos h, decide_eq_false (fun q => hx (q.trans h))]; rfl
      · rw [if_neg h, if_neg h]
noncomputable def sx_row {α : Type} (T : sx_T α) (q : Nat) : List (Nat × α) := sx_at [] (sx_at [] T (q / 17)) (q % 17)
noncomputable def sx_get {α : Type} (T : sx_T α) (q j : Nat) : Option α := sx_ag (sx_row T q) j
noncomputable def sx_srow {α : Type} (T : sx_T α) (q : Nat) (L : List (Nat × α)) : sx_T α := sx_put [] (sx_put [] L (q % 17) (sx_at [] T (q / 17))) (q / 17) T
noncomputable def sx_set {α : Type} (T : sx_T α) (q j : Nat) (v : α) : sx_T α := sx_srow T q (sx_ap j v (sx_row T q))
theorem sx_row_srow {α : Type} {T : sx_T α} {q p : Nat} {L : List (Nat × α)} : sx_row (sx_srow T q L) p = if p = q then L else sx_row T p := by
  unfold sx_row sx_srow
  rw [sx_at_put]
  by_cases h : p / 17 = q / 17
  · rw [if_pos h, sx_at_put]
    by_cases h2 : p % 17 = q % 17
    · rw [if_pos h2, if_pos (by omega)]
    · rw [if_neg h2, if_neg (by intro z; exact h2 (by rw [z])), h]
  · rw [if_neg h, if_neg (by intro z; exact h (by rw [z]))]
theorem sx_get_set {α : Type} {T : sx_T α} {q j p i : Nat} {v : α} : sx_get (sx_set T q j v) p i = if p = q then (if i = j then some v else sx_get T p i) else sx_get T p i := by
  unfold sx_get sx_set
  rw [sx_row_srow]
  by_cases h : p = q
  · rw [if_pos h, if_pos h, sx_ag_ap, h]
  · rw [if_neg h, if_neg h]
noncomputable def sx_rw (q n : Nat) : List (Nat × Nat) := (List.range n).map (fun j => (j, q + 1 + j))
theorem sx_ag_app {α : Type} {k : Nat} {x : α} {i : Nat} : ∀ l : List (Nat × α), sx_ag (l ++ [(k, x)]) i = match sx_ag l i with
    | some w => some w
    | none => if i = k then some x else none
  | [] => by
    show cond (Nat.beq k i) (some x) none = _
    rw [sx_beq]
    by_cases h : i = k
    · rw [decide_eq_true h.symm]; simp [sx_ag, h]
    · rw [decide_eq_false (fun q => h q.symm)]; simp [sx_ag, h]
  | y :: t => by
    have ih := sx_ag_app (k := k) (x := x) (i := i) t
    show cond (Nat.beq y.1 i) (some y.2) (sx_ag (t ++ [(k, x)]) i) = match cond (Nat.beq y.1 i) (some y.2) (sx_ag t i) with
      | some w => some w
      | none => if i = k then some x else none
    cases hb : Nat.beq y.1 i
    · exact ih
    · rfl
theorem sx_ag_rw {q : Nat} : ∀ (n j : Nat), sx_ag (sx_rw q n) j = if j < n then some (q + 1 + j) else none
  | 0, j => by rw [if_neg (Nat.not_lt_zero j)]; rfl
  | n + 1, j => by
    unfold sx_rw
    rw [List.range_succ, List.map_append, List.map_singleton, sx_ag_app, show sx_ag ((List.range n).map (fun j => (j, q + 1 + j))) j = _ from sx_ag_rw n j]
    by_cases h : j < n
    · rw [if_pos h]
      show some (q + 1 + j) = _
      rw [if_pos (show j < n + 1 by omega)]
    · rw [if_neg h]
      show (if j = n then some (q + 1 + n) else none) = _
      by_cases h2 : j = n
      · rw [if_pos h2, if_pos (show j < n + 1 by omega), h2]
      · rw [if_neg h2, if_neg (show ¬ j < n + 1 by omega)]
/-! what it stands for -/
noncomputable def sx_v (v : Nat → Int32) (w : Value) : Value := match w with
  | .retAddr k => .int (v k)
  | u => u
noncomputable def sx_vi (v : Nat → Int32) (w : Value) : Int32 := match w with
  | .int x => x
  | .retAddr k => v k
  | _ => 0
noncomputable def sx_mi (v : Nat → Int32) (T : sx_T Value) : Nat → Nat → Int32 := fun q j => match sx_get T q j with
  | some w => sx_vi v w
  | none => 0
noncomputable def sx_m (v : Nat → Int32) (S : sx_M) : rx_M := (sx_mi v S.1, fun q j => sx_get S.2 q j, fun _ _ => 0)
noncomputable def sx_ls (v : Nat → Int32) (ls : List (Option Value)) : List (Option Value) := ls.map (Option.map (sx_v v))
noncomputable def sx_c (v : Nat → Int32) (g : sx_C) : rx_C := (g.1, sx_ls v g.2.1, g.2.2.1.map (sx_v v), g.2.2.2.1, sx_m v g.2.2.2.2)
noncomputable def sx_cr (v : Nat → Int32) (r : sx_R) : rx_R := match r with
  | .inl g => .inl (sx_c v g)
  | .inr (.inl (j, vs, g)) => .inr (.inl (j, vs.map (sx_v v), sx_c v g))
  | .inr (.inr (.inl rv)) => .inr (.inr (rv.map (sx_v v)))
  | .inr (.inr (.inr E)) => .inr (.inr (some (.retAddr E)))
noncomputable def sx_full : Int × Int := (-2147483648, 2147483647)
noncomputable def sx_ok (v : Nat → Int32) (E : sx_E) : Prop := ∀ k, (sx_at sx_full E k).1 ≤ (v k).toInt ∧ (v k).toInt ≤ (sx_at sx_full E k).2
/-- the unknowns: six ints of the script, a call's number, a week's season -/
noncomputable def sx_val (v : Nat → Int32) : Prop := v 6 = v 0 &&& 63 ∧ (∀ k, 1 ≤ k → k ≤ 5 → v (k + 6) = v k / 13) ∧ ∀ k, 7 ≤ k → k ≤ 11 → v (k + 5) = v k - v k / 4 * 4
noncomputable def sx_isI (w : Value) : Bool := match w with
  | .int _ => true
  | .retAddr _ => true
  | _ => false
noncomputable def sx_sh (sh : Nat) (w : Value) : Bool := match w with
  | .int _ => Nat.beq sh 0
  | .retAddr _ => Nat.beq sh 0
  | .ref _ => Nat.beq sh 1
  | .long _ => Nat.beq sh 2
  | _ => false
noncomputable def sx_iv (E : sx_E) (w : Value) : Int × Int := match w with
  | .int x => (x.toInt, x.toInt)
  | .retAddr k => sx_at sx_full E k
  | _ => sx_full
noncomputable def sx_lit (E : sx_E) (w : Value) : Option Int32 := match w with
  | .int x => some x
  | .retAddr k => cond (decide ((sx_at sx_full E k).1 = (sx_at sx_full E k).2)) (some (Int32.ofInt (sx_at sx_full E k).1)) none
  | _ => none
noncomputable def sx_fk (E : sx_E) (w : Value) : sx_O := match w with
  | .retAddr k => .inr (k, (sx_at sx_full E k).1)
  | _ => .inl none
noncomputable def sx_n1 (E : sx_E) (w : Value) (f : Int32 → Option sx_R) : sx_O := match sx_lit E w with
  | some x => .inl (f x)
  | none => sx_fk E w
noncomputable def sx_n2 (E : sx_E) (y x : Value) (f : Int32 → Int32 → Option sx_R) : sx_O := match sx_lit E y with
  | some y' => (match sx_lit E x with
    | some x' => .inl (f y' x')
    | none => sx_fk E x)
  | none => sx_fk E y
noncomputable def sx_nr (pc : Nat) (ls : List (Option Value)) (st : List Value) (a : rx_K) (S : sx_M) : Option sx_R := some (.inl (pc, ls, st, a, S))
noncomputable def sx_nx (pc : Nat) (ls : List (Option Value)) (st : List Value) (a : rx_K) (S : sx_M) : sx_O := .inl (some (.inl (pc, ls, st, a, S)))
noncomputable def sx_no : sx_O := .inl none
noncomputable def sx_ld (ls : List (Option Value)) (k sh pc : Nat) (st : List Value) (a : rx_K) (S : sx_M) : sx_O := match ls[k]? with
  | some (some w) => cond (sx_sh sh w) (sx_nx pc ls (w :: st) a S) sx_no
  | _ => sx_no
noncomputable def sx_sto (ls : List (Option Value)) (k sh pc : Nat) (st : List Value) (a : rx_K) (S : sx_M) : sx_O := match st with
  | w :: r => cond (sx_sh sh w) (cond (Nat.beq sh 2) (cond (Nat.blt (k + 1) ls.length) (sx_nx pc (rx_s2 ls k w) r a S) sx_no) (cond (Nat.blt k ls.length) (sx_nx pc (rx_s1 ls k w) r a S) sx_no)) sx_no
  | [] => sx_no
noncomputable def sx_bin (E : sx_E) (f : Int32 → Int32 → Int32) (pc : Nat) (ls : List (Option Value)) (st : List Value) (a : rx_K) (S : sx_M) : sx_O := match st with
  | y :: x :: r => sx_n2 E y x (fun y x => sx_nr pc ls (.int (f x y) :: r) a S)
  | _ => sx_no
noncomputable def sx_and (E : sx_E) (pc : Nat) (ls : List (Option Value)) (st : List Value) (a : rx_K) (S : sx_M) : sx_O := match st with
  | .int c :: .retAddr 0 :: r => cond (decide (c = 63)) (sx_nx pc ls (.retAddr 6 :: r) a S) sx_no
  | st => sx_bin E (fun x y => x &&& y) pc ls st a S
noncomputable def sx_shr (E : sx_E) (pc : Nat) (ls : List (Option Value)) (st : List Value) (a : rx_K) (S : sx_M) : sx_O := match st with
  | .retAddr k :: .int c :: r => cond (decide (c = 0)) (sx_nx pc ls (.int 0 :: r) a S) (sx_bin E (fun x y => x >>> (y &&& 31)) pc ls (.retAddr k :: .int c :: r) a S)
  | st => sx_bin E (fun x y => x >>> (y &&& 31)) pc ls st a S
noncomputable def sx_div (E : sx_E) (pc : Nat) (ls : List (Option Value)) (st : List Value) (a : rx_K) (S : sx_M) : sx_O := match st with
  | y :: .retAddr k :: r => cond (decide (y = .int 13) && (Nat.ble 1 k && Nat.ble k 5)) (sx_nx pc ls (.retAddr (k + 6) :: r) a S) sx_no
  | y :: x :: r => sx_n2 E y x (fun y x => if y = 0 then none else sx_nr pc ls (.int (x / y) :: r) a S)
  | _ => sx_no
noncomputable def sx_rem (E : sx_E) (pc : Nat) (ls : List (Option Value)) (st : List Value) (a : rx_K) (S : sx_M) : sx_O := match st with
  | y :: .retAddr k :: r => cond (decide (y = .int 4) && (Nat.ble 7 k && Nat.ble k 11)) (sx_nx pc ls (.retAddr (k + 5) :: r) a S) sx_no
  | y :: x :: r => sx_n2 E y x (fun y x => if y = 0 then none else sx_nr pc ls (.int (x - x / y * y) :: r) a S)
  | _ => sx_no
noncomputable def sx_un (E : sx_E) (f : Int32 → Value) (pc : Nat) (ls : List (Option Value)) (st : List Value) (a : rx_K) (S : sx_M) : sx_O := match st with
  | x :: r => sx_n1 E x (fun x => sx_nr pc ls (f x :: r) a S)
  | _ => sx_no
noncomputable def sx_jr (pc : Nat) (off : Int) (ls : List (Option Value)) (st : List Value) (a : rx_K) (S : sx_M) : Option sx_R := match (pc : Int) + off with
  | .ofNat t => sx_nr t ls st a S
  | .negSucc _ => none
noncomputable def sx_jmp (pc : Nat) (off : Int) (ls : List (Option Value)) (st : List Value) (a : rx_K) (S : sx_M) : sx_O := .inl (sx_jr pc off ls st a S)
noncomputable def sx_lt (a b : Int × Int) : Option Bool := cond (decide (a.2 < b.1)) (some true) (cond (decide (b.2 ≤ a.1)) (some false) none)
noncomputable def sx_eq (a b : Int × Int) : Option Bool := cond (decide (a.2 < b.1) || decide (b.2 < a.1)) (some false) (cond (decide (a.1 = a.2) && decide (b.1 = b.2)) (some true) none)
noncomputable def sx_neg (b : Option Bool) : Option Bool := match b with
  | some true => some false
  | some false => some true
  | none => none
noncomputable def sx_cmp (c : ClassFile.Cond) (a b : Int × Int) : Option Bool := match c with
  | .eq => sx_eq a b
  | .ne => sx_neg (sx_eq a b)
  | .lt => sx_lt a b
  | .ge => sx_neg (sx_lt a b)
  | .gt => sx_lt b a
  | .le => sx_neg (sx_lt b a)
noncomputable def sx_cut (a b : Int × Int) : Int := cond (decide (b.1 = b.2) && decide (a.1 < b.1)) (b.1 - 1) a.1
noncomputable def sx_spl1 (E : sx_E) (y x : Value) : sx_O := match y with
  | .retAddr k => .inr (k, sx_cut (sx_iv E y) (sx_iv E x))
  | _ => sx_no
noncomputable def sx_spl (E : sx_E) (x y : Value) : sx_O := match x with
  | .retAddr k => cond (decide ((sx_iv E x).1 = (sx_iv E x).2)) (sx_spl1 E y x) (.inr (k, sx_cut (sx_iv E x) (sx_iv E y)))
  | _ => sx_spl1 E y x
noncomputable def sx_br (E : sx_E) (c : ClassFile.Cond) (x y : Value) (pc : Nat) (off : Int) (ls : List (Option Value)) (st : List Value) (a : rx_K) (S : sx_M) : sx_O :=
  cond (sx_isI x && sx_isI y) (match (pc : Int) + off with
    | .ofNat t => (match sx_cmp c (sx_iv E x) (sx_iv E y) with
      | some true => sx_nx t ls st a S
      | some false => sx_nx (pc + 3) ls st a S
      | none => sx_spl E x y)
    | .negSucc _ => sx_no) sx_no
noncomputable def sx_tsw (E : sx_E) (d lo hi : Int) (offs : Array Int) (pc : Nat) (ls : List (Option Value)) (st : List Value) (a : rx_K) (S : sx_M) : sx_O := match st with
  | x :: r => cond (sx_isI x && (decide ((sx_iv E x).2 < lo) || decide (hi < (sx_iv E x).1))) (sx_jmp pc d ls r a S) (match sx_lit E x with
    | some x => (if x.toInt < lo ∨ hi < x.toInt then sx_no else match offs[(x.toInt - lo).toNat]? with
      | some o => sx_jmp pc o ls r a S
      | none => sx_no)
    | none => (match x with
      | .retAddr k => .inr (k, cond (decide ((sx_iv E x).1 < lo)) (lo - 1) (cond (decide (hi < (sx_iv E x).2)) hi (sx_iv E x).1))
      | _ => sx_no))
  | _ => sx_no
noncomputable def sx_iv0 (T : sx_T Value) (q k : Nat) : Value := match sx_get T q k with
  | some w => w
  | none => .int 0
noncomputable def sx_pu (w : Value) (pc : Nat) (ls : List (Option Value)) (r : List Value) (a : rx_K) (S : sx_M) : Option sx_R := cond (sx_isI w) (sx_nr pc ls (w :: r) a S) none
noncomputable def sx_gf (cn x pc : Nat) (ls : List (Option Value)) (st : List Value) (a : rx_K) (S : sx_M) : sx_O := match st with
  | .ref q :: r => match rx_fl cn x with
    | some (ci, k, t, _) => match rx_lay q with
      | some (.inl c) => cond (Nat.blt q a.1 && Nat.beq c ci) (match t with
          | 2 => sx_nx (pc + 3) ls (va_rf (sx_get S.2 q k) :: r) a S
          | _ => .inl (sx_pu (sx_iv0 S.1 q k) (pc + 3) ls r a S)) sx_no
      | _ => sx_no
    | none => sx_no
  | _ => sx_no
noncomputable def sx_pf (E : sx_E) (ini : Bool) (cn x pc : Nat) (ls : List (Option Value)) (st : List Value) (a : rx_K) (S : sx_M) : sx_O := match st with
  | w :: .ref q :: r => match rx_fl cn x with
    | some (ci, k, t, fin) => match rx_lay q with
      | some (.inl c) => cond (Nat.blt q a.1 && Nat.beq c ci && !(fin && (!ini || !(Nat.beq ci cn)))) (match t with
          | 0 => cond (sx_isI w) (sx_nx (pc + 3) ls r a (sx_set S.1 q k w, S.2)) sx_no
          | 1 => sx_n1 E w (fun z => if z = 0 ∨ z = 1 then sx_nr (pc + 3) ls r a (sx_set S.1 q k (.int z), S.2) else none)
          | 2 => (match w with
            | .ref z => cond (Nat.blt z a.1) (sx_nx (pc + 3) ls r a (S.1, sx_set S.2 q k z)) sx_no
            | _ => sx_no)
          | _ => sx_no) sx_no
      | _ => sx_no
    | none => sx_no
  | _ => sx_no
noncomputable def sx_al (E : sx_E) (L i0 t pc : Nat) (ls : List (Option Value)) (st : List Value) (a : rx_K) (S : sx_M) : sx_O := match st with
  | w :: .ref q :: r => match rx_lay q with
    | some (.inr (u, n)) => cond (Nat.blt q a.1 && Nat.beq u t) (sx_n1 E w (fun i => if i < 0 ∨ n ≤ i.toNatClampNeg then none else (match t with
        | 2 => sx_nr (pc + 1) ls (va_rf (sx_get S.2 q i.toNatClampNeg) :: r) a S
        | 3 => none
        | _ => sx_pu (sx_iv0 S.1 q i.toNatClampNeg) (pc + 1) ls r a S))) sx_no
    | some (.inl _) => sx_no
    | none => cond (Nat.beq q rx_scr && Nat.beq i0 rx_law && Nat.beq t 0) (sx_n1 E w (fun i => if i < 0 ∨ L ≤ i.toNatClampNeg then none else sx_nr (pc + 1) ls (.retAddr i.toNatClampNeg :: r) a S)) sx_no
  | _ => sx_no
noncomputable def sx_as (E : sx_E) (t pc : Nat) (ls : List (Option Value)) (st : List Value) (a : rx_K) (S : sx_M) : sx_O := match st with
  | w :: y :: .ref q :: r => match rx_lay q with
    | some (.inr (u, n)) => cond (Nat.blt q a.1 && Nat.beq u t) (sx_n1 E y (fun i => if i < 0 ∨ n ≤ i.toNatClampNeg then none else (match t with
        | 0 => cond (sx_isI w) (sx_nr (pc + 1) ls r a (sx_set S.1 q i.toNatClampNeg w, S.2)) none
        | 1 => (match sx_lit E w with
          | some z => (if z = 0 ∨ z = 1 then sx_nr (pc + 1) ls r a (sx_set S.1 q i.toNatClampNeg (.int z), S.2) else none)
          | none => none)
        | _ => none))) sx_no
    | _ => sx_no
  | _ => sx_no
noncomputable def sx_aln (L i0 pc : Nat) (ls : List (Option Value)) (st : List Value) (a : rx_K) (S : sx_M) : sx_O := match st with
  | .ref q :: r => match rx_lay q with
    | some (.inr (u, n)) => cond (Nat.blt q a.1 && Nat.blt u 4) (sx_nx (pc + 1) ls (.int (Int32.ofNat n) :: r) a S) sx_no
    | some (.inl _) => sx_no
    | none => cond (Nat.beq q rx_scr && Nat.beq i0 rx_law) (sx_nx (pc + 1) ls (.int (Int32.ofNat L) :: r) a S) sx_no
  | _ => sx_no
noncomputable def sx_nwa (t : ArrayType) (pc : Nat) (ls : List (Option Value)) (st : List Value) (a : rx_K) (S : sx_M) : sx_O := match st with
  | .int n :: r => if n < 0 then sx_no else match rx_lay a.1 with
    | some (.inr (u, k)) => if u = rx_aty t ∧ k = n.toNatClampNeg ∧ k ≤ 100000 then sx_nx (pc + 2) ls (.ref a.1 :: r) (a.1 + 1, a.2.1 + 1, a.2.2 + k) S else sx_no
    | _ => sx_no
  | _ => sx_no
noncomputable def sx_mna (cn x pc : Nat) (ls : List (Option Value)) (st : List Value) (a : rx_K) (S : sx_M) : sx_O := match st with
  | .int k :: .int n :: r => if n < 0 ∨ k < 0 then sx_no else match rx_mn cn x with
    | none => sx_no
    | some _ => if rx_lay a.1 = some (.inr (2, n.toNatClampNeg)) ∧ (List.range n.toNatClampNeg).all (fun i => decide (rx_lay (a.1 + 1 + i) = some (.inr (0, k.toNatClampNeg)))) = true ∧ n.toNatClampNeg ≤ 1000 ∧ k.toNatClampNeg ≤ 1000 then
        sx_nx (pc + 4) ls (.ref a.1 :: r) (a.1 + 1 + n.toNatClampNeg, a.2.1 + 1 + n.toNatClampNeg, a.2.2 + n.toNatClampNeg + n.toNatClampNeg * k.toNatClampNeg) (S.1, sx_srow S.2 a.1 (sx_rw a.1 n.toNatClampNeg)) else sx_no
  | _ => sx_no
noncomputable def sx_new (cn x pc : Nat) (ls : List (Option Value)) (st : List Value) (a : rx_K) (S : sx_M) : sx_O := match rx_nw cn x with
  | some (.inl ci) => if rx_lay a.1 = some (.inl ci) then sx_nx (pc + 3) ls (.ref a.1 :: st) (a.1 + 1, a.2.1 + 1, a.2.2 + (rx_sty ci).length) S else sx_no
  | some (.inr E) => match st with
    | [] => .inl (some (.inr (.inr (.inr E))))
    | _ => sx_no
  | none => sx_no
noncomputable def sx_inv (E : sx_E) (w cn x pc : Nat) (ls : List (Option Value)) (st : List Value) (a : rx_K) (S : sx_M) : sx_O := match rx_ml cn x with
  | none => sx_no
  | some (kind, j, n) => match kind with
    | 10 => cond (Nat.beq w 1) (match st with
      | y :: z :: r => cond (rx_c8 r) (sx_n2 E y z (fun y z => sx_nr (pc + 3) ls (.int (if z < y then y else z) :: r) a S)) sx_no
      | _ => sx_no) sx_no
    | 11 => cond (Nat.beq w 1) (match st with
      | y :: z :: r => cond (rx_c8 r) (sx_n2 E y z (fun y z => sx_nr (pc + 3) ls (.int (if y < z then y else z) :: r) a S)) sx_no
      | _ => sx_no) sx_no
    | 12 => cond (Nat.beq w 1) (match st with
      | .int m :: .int dp :: .ref e :: .int sp :: .ref q :: r => (match rx_lay q, rx_lay e with
        | some (.inr (0, n0)), some (.inr (0, n1)) => if q < a.1 ∧ e < a.1 ∧ ¬ sp < 0 ∧ ¬ dp < 0 ∧ m = 0 ∧ sp.toNatClampNeg ≤ n0 ∧ dp.toNatClampNeg ≤ n1 then cond (rx_c8 r) (sx_nx (pc + 3) ls r a S) sx_no else sx_no
        | _, _ => sx_no)
      | _ => sx_no) sx_no
    | 13 => cond (Nat.beq w 2) (match st with
      | .ref _ :: r => cond (rx_c8 r) (sx_nx (pc + 3) ls r a S) sx_no
      | _ => sx_no) sx_no
    | _ => cond (Nat.beq w (rx_kw kind)) (cond (Nat.beq w 1)
        (cond (rx_cat1 (st.take n) && rx_c8 (st.drop n) && Nat.beq (st.take n).length n) (.inl (some (.inr (.inl (j, (st.take n).reverse, (pc + 3, ls, st.drop n, a, S)))))) sx_no)
        (match st.drop n with
          | .ref b :: r => match rx_lay b with
            | some (.inl c) => cond (Nat.blt b a.1 && Nat.beq c (rx_cn j)) (cond (rx_cat1 (st.take n) && rx_c8 r && Nat.beq (st.take n).length n) (.inl (some (.inr (.inl (j, .ref b :: (st.take n).reverse, (pc + 3, ls, r, a, S)))))) sx_no) sx_no
            | _ => sx_no
          | _ => sx_no)) sx_no
noncomputable def sx_ins (L : Nat) (E : sx_E) (i : Nat) (ins : Instr) (pc : Nat) (ls : List (Option Value)) (st : List Value) (a : rx_K) (S : sx_M) : sx_O := match ins with
  | .iconst n => sx_nx (pc + 1) ls (.int (Int32.ofInt n) :: st) a S
  | .bipush n => sx_nx (pc + 2) ls (.int (Int8.ofInt n).toInt32 :: st) a S
  | .sipush n => sx_nx (pc + 3) ls (.int (Int16.ofInt n).toInt32 :: st) a S
  | .lconst n => sx_nx (pc + 1) ls (.long (Int64.ofNat (n : Nat)) :: st) a S
  | .iload_n k => sx_ld ls k 0 (pc + 1) st a S
  | .iload k => sx_ld ls k 0 (pc + 2) st a S
  | .aload_n k => sx_ld ls k 1 (pc + 1) st a S
  | .aload k => sx_ld ls k 1 (pc + 2) st a S
  | .lload_n k => sx_ld ls k 2 (pc + 1) st a S
  | .lload k => sx_ld ls k 2 (pc + 2) st a S
  | .istore_n k => sx_sto ls k 0 (pc + 1) st a S
  | .istore k => sx_sto ls k 0 (pc + 2) st a S
  | .astore_n k => sx_sto ls k 1 (pc + 1) st a S
  | .astore k => sx_sto ls k 1 (pc + 2) st a S
  | .lstore_n k => sx_sto ls k 2 (pc + 1) st a S
  | .lstore k => sx_sto ls k 2 (pc + 2) st a S
  | .iinc k n => match ls[k]? with
    | some (some w) => sx_n1 E w (fun x => sx_nr (pc + 3) (rx_s1 ls k (.int (x + Int32.ofInt n))) st a S)
    | _ => sx_no
  | .iadd => sx_bin E (fun x y => x + y) (pc + 1) ls st a S
  | .isub => sx_bin E (fun x y => x - y) (pc + 1) ls st a S
  | .imul => sx_bin E (fun x y => x * y) (pc + 1) ls st a S
  | .iand => sx_and E (pc + 1) ls st a S
  | .ior => sx_bin E (fun x y => x ||| y) (pc + 1) ls st a S
  | .ishl => sx_bin E (fun x y => x <<< (y &&& 31)) (pc + 1) ls st a S
  | .ishr => sx_shr E (pc + 1) ls st a S
  | .idiv => sx_div E (pc + 1) ls st a S
  | .irem => sx_rem E (pc + 1) ls st a S
  | .ineg => sx_un E (fun x => .int (-x)) (pc + 1) ls st a S
  | .i2b => sx_un E (fun x => .int x.toInt8.toInt32) (pc + 1) ls st a S
  | .i2s => sx_un E (fun x => .int x.toInt16.toInt32) (pc + 1) ls st a S
  | .i2l => sx_un E (fun x => .long x.toInt64) (pc + 1) ls st a S
  | .dup => match st with
    | v :: r => cond (Nat.beq v.category 1) (sx_nx (pc + 1) ls (v :: v :: r) a S) sx_no
    | _ => sx_no
  | .pop => match st with
    | v :: r => cond (Nat.beq v.category 1) (sx_nx (pc + 1) ls r a S) sx_no
    | _ => sx_no
  | .dup_x1 => match st with
    | v :: w :: r => cond (Nat.beq v.category 1 && Nat.beq w.category 1) (sx_nx (pc + 1) ls (v :: w :: v :: r) a S) sx_no
    | _ => sx_no
  | .dup2 => match st with
    | v :: w :: r => cond (Nat.beq v.category 1 && Nat.beq w.category 1) (sx_nx (pc + 1) ls (v :: w :: v :: w :: r) a S) sx_no
    | _ => sx_no
  | .goto off => sx_jmp pc off ls st a S
  | .ifCond c off => match st with
    | x :: r => sx_br E c x (.int 0) pc off ls r a S
    | _ => sx_no
  | .if_icmp c off => match st with
    | y :: x :: r => sx_br E c x y pc off ls r a S
    | _ => sx_no
  | .tableswitch d lo hi offs => sx_tsw E d lo hi offs pc ls st a S
  | .lookupswitch d ps => match st with
    | x :: r => sx_n1 E x (fun x => cond ((ps.toList.zip (ps.toList.drop 1)).all (fun (a, next) => a.1 < next.1)) (sx_jr pc (Op.lookupswitch.offset ps.toList d x.toInt) ls r a S) none)
    | _ => sx_no
  | .getfield x => sx_gf (rx_cn i) x pc ls st a S
  | .putfield x => sx_pf E (rx_ini i) (rx_cn i) x pc ls st a S
  | .iaload => sx_al E L i 0 pc ls st a S
  | .baload => sx_al E L i 1 pc ls st a S
  | .aaload => sx_al E L i 2 pc ls st a S
  | .iastore => sx_as E 0 pc ls st a S
  | .bastore => sx_as E 1 pc ls st a S
  | .arraylength => sx_aln L i pc ls st a S
  | .newarray t => sx_nwa t pc ls st a S
  | .multianewarray x n => if n = 2 then sx_mna (rx_cn i) x pc ls st a S else sx_no
  | .new x => sx_new (rx_cn i) x pc ls st a S
  | .invokevirtual x => sx_inv E 0 (rx_cn i) x pc ls st a S
  | .invokestatic x => sx_inv E 1 (rx_cn i) x pc ls st a S
  | .invokespecial x => sx_inv E 2 (rx_cn i) x pc ls st a S
  | .ireturn => match st with
    | [w] => match rx_rt i with
      | some .int => cond (sx_isI w) (.inl (some (.inr (.inr (.inl (some w)))))) sx_no
      | some .boolean => sx_n1 E w (fun x => if x = 0 ∨ x = 1 then some (.inr (.inr (.inl (some (.int x))))) else none)
      | _ => sx_no
    | _ => sx_no
  | .lreturn => match st with
    | [.long x] => match rx_rt i with
      | some .long => .inl (some (.inr (.inr (.inl (some (.long x))))))
      | _ => sx_no
    | _ => sx_no
  | .return_ => match st with
    | [] => match rx_rt i with
      | none => .inl (some (.inr (.inr (.inl none))))
      | _ => sx_no
    | _ => sx_no
  | _ => sx_no
noncomputable def sx_nf {β : Type} (n : Nat) (k : Nat → β) : β := Nat.rec (motive := fun _ => β) (k 0) (fun m _ => k (Nat.succ m)) n
noncomputable def sx_iN {β : Type} (x : Int32) (k : Int32 → β) : β := sx_nf x.toBitVec.toNat (fun n => k (Int32.ofNat n))
theorem sx_nf_eq {β : Type} (n : Nat) (k : Nat → β) : sx_nf n k = k n := by cases n <;> rfl
theorem sx_of_nat (x : Int32) : Int32.ofNat x.toBitVec.toNat = x := by
  apply Int32.toBitVec_inj.mp
  show BitVec.ofNat 32 x.toBitVec.toNat = x.toBitVec
  rw [BitVec.ofNat_toNat, BitVec.setWidth_eq]
theorem sx_iN_eq {β : Type} (x : Int32) (k : Int32 → β) : sx_iN x k = k x := by
  unfold sx_iN
  rw [sx_nf_eq, sx_of_nat]
/-! the same, faster for the kernel -/
theorem sx_at_none {α : Type} : ∀ (ls : List (Option α)) (k : Nat), sx_at none ls k = match ls[k]? with
    | some o => o
    | none => none
  | [], _ => rfl
  | x :: t, 0 => rfl
  | x :: t, k + 1 => by
    show sx_at none t k = _
    rw [sx_at_none t k, List.getElem?_cons_succ]
noncomputable def sx_sl {α : Type} (k : Nat) (v : α) : List α → List α := Nat.rec (motive := fun _ => List α → List α) (fun l => List.rec (motive := fun _ => List α) [] (fun _ t _ => v :: t) l) (fun _ ih l => List.rec (motive := fun _ => List α) [] (fun x t _ => x :: ih t) l) k
theorem sx_sl_eq {α : Type} {v : α} : ∀ (k : Nat) (l : List α), sx_sl k v l = l.set k v
  | 0, [] => rfl
  | 0, x :: t => rfl
  | k + 1, [] => rfl
  | k + 1, x :: t => congrArg (x :: ·) (sx_sl_eq k t)
noncomputable def sx_kl (ls : List (Option Value)) (k : Nat) : List (Option Value) := Nat.rec (motive := fun _ => List (Option Value)) ls (fun j _ => match sx_at none ls j with
  | some v => cond (Nat.beq v.category 2) (ls.set j none) ls
  | none => ls) k
theorem sx_kl_eq (ls : List (Option Value)) (k : Nat) : sx_kl ls k = rx_kill ls k := by
  cases k with
  | zero => rfl
  | succ j =>
    show (match sx_at none ls j with
      | some v => cond (Nat.beq v.category 2) (ls.set j none) ls
      | none => ls) = _
    rw [sx_at_none]
    unfold rx_kill
    dsimp only
    cases ls[j]? with
    | none => rfl
    | some o => cases o <;> rfl
noncomputable def sx_s1F (ls : List (Option Value)) (k : Nat) (v : Value) : List (Option Value) := sx_sl k (some v) (sx_kl ls k)
theorem sx_s1F_eq (ls : List (Option Value)) (k : Nat) (v : Value) : sx_s1F ls k v = rx_s1 ls k v := by
  unfold sx_s1F rx_s1
  rw [sx_sl_eq, sx_kl_eq]
noncomputable def sx_hasF (ls : List (Option Value)) : Nat → Bool := List.rec (motive := fun _ => Nat → Bool) (fun _ => false) (fun _ _ ih n => Nat.rec (motive := fun _ => Bool) true (fun m _ => ih m) n) ls
theorem sx_hasF_eq : ∀ (ls : List (Option Value)) (k : Nat), sx_hasF ls k = Nat.blt k ls.length
  | [], k => by
    show false = _
    cases h : Nat.blt k ([] : List (Option Value)).length
    · rfl
    · exact absurd (Nat.blt_eq.mp h) (Nat.not_lt_zero _)
  | x :: t, 0 => by
    show true = _
    exact (Nat.blt_eq.mpr (Nat.succ_pos _)).symm
  | x :: t, k + 1 => by
    show sx_hasF t k = _
    rw [sx_hasF_eq t k]
    rfl
noncomputable def sx_ldF (ls : List (Option Value)) (k sh pc : Nat) (st : List Value) (a : rx_K) (S : sx_M) : sx_O := match sx_at none ls k with
  | some w => cond (sx_sh sh w) (sx_nx pc ls (w :: st) a S) sx_no
  | none => sx_no
theorem sx_ldF_eq (ls : List (Option Value)) (k sh pc : Nat) (st : List Value) (a : rx_K) (S : sx_M) : sx_ldF ls k sh pc st a S = sx_ld ls k sh pc st a S := by
  unfold sx_ldF sx_ld
  rw [sx_at_none]
  cases ls[k]? with
  | none => rfl
  | some o => cases o <;> rfl
noncomputable def sx_stoF (ls : List (Option Value)) (k sh pc : Nat) (st : List Value) (a : rx_K) (S : sx_M) : sx_O := match st with
  | w :: r => cond (sx_sh sh w) (cond (Nat.beq sh 2) (cond (Nat.blt (k + 1) ls.length) (sx_nx pc (rx_s2 ls k w) r a S) sx_no) (cond (sx_hasF ls k) (sx_nx pc (sx_s1F ls k w) r a S) sx_no)) sx_no
  | [] => sx_no
theorem sx_stoF_eq (ls : List (Option Value)) (k sh pc : Nat) (st : List Value) (a : rx_K) (S : sx_M) : sx_stoF ls k sh pc st a S = sx_sto ls k sh pc st a S := by
  unfold sx_stoF sx_sto
  simp only [sx_hasF_eq, sx_s1F_eq]
noncomputable def sx_bi (x : Int32) : Nat := (x.toBitVec.toNat + 2147483648) % 4294967296
theorem sx_bi_eq (x : Int32) : (sx_bi x : Int) = x.toInt + 2147483648 := by
  have h : x.toInt = x.toBitVec.toInt := rfl
  rw [h, BitVec.toInt_eq_toNat_cond]
  unfold sx_bi
  have h2 := x.toBitVec.isLt
  split <;> omega
noncomputable def sx_fc (c : ClassFile.Cond) (x y : Int32) : Bool := match c with
  | .eq => Nat.beq (sx_bi x) (sx_bi y)
  | .ne => !(Nat.beq (sx_bi x) (sx_bi y))
  | .lt => Nat.blt (sx_bi x) (sx_bi y)
  | .ge => Nat.ble (sx_bi y) (sx_bi x)
  | .gt => Nat.blt (sx_bi y) (sx_bi x)
  | .le => Nat.ble (sx_bi x) (sx_bi y)
theorem sx_blt {a b : Nat} : Nat.blt a b = decide (a < b) := by
  by_cases h : a < b
  · rw [decide_eq_true h]; exact Nat.blt_eq.mpr h
  · rw [decide_eq_false h]
    cases hb : Nat.blt a b
    · rfl
    · exact absurd (Nat.blt_eq.mp hb) h
theorem sx_ble {a b : Nat} : Nat.ble a b = decide (a ≤ b) := by
  by_cases h : a ≤ b
  · rw [decide_eq_true h]; exact Nat.ble_eq.mpr h
  · rw [decide_eq_false h]
    cases hb : Nat.ble a b
    · rfl
    · exact absurd (Nat.ble_eq.mp hb) h
theorem sx_lt_one (a b : Int) : sx_lt (a, a) (b, b) = some (decide (a < b)) := by
  unfold sx_lt
  dsimp only
  by_cases h : a < b
  · rw [decide_eq_true h]; rfl
  · rw [decide_eq_false h, decide_eq_true (show b ≤ a by omega)]; rfl
theorem sx_eq_one (a b : Int) : sx_eq (a, a) (b, b) = some (decide (a = b)) := by
  unfold sx_eq
  dsimp only
  by_cases h : a = b
  · subst h
    rw [decide_eq_false (Int.lt_irrefl a), decide_eq_true rfl]; rfl
  · rw [decide_eq_false h]
    by_cases h2 : a < b
    · rw [decide_eq_true h2]; rfl
    · rw [decide_eq_false h2, decide_eq_true (show b < a by omega)]; rfl
theorem sx_fc_eq (c : ClassFile.Cond) (x y : Int32) : sx_cmp c (x.toInt, x.toInt) (y.toInt, y.toInt) = some (sx_fc c x y) := by
  have hx := sx_bi_eq x
  have hy := sx_bi_eq y
  cases c
  all_goals (unfold sx_cmp sx_fc; simp only [sx_lt_one, sx_eq_one, sx_neg, sx_beq, sx_blt, sx_ble])
  · exact congrArg some (decide_eq_decide.mpr (by omega))
  · by_cases h : x.toInt = y.toInt
    · rw [decide_eq_true h, decide_eq_true (show sx_bi x = sx_bi y by omega)]; rfl
    · rw [decide_eq_false h, decide_eq_false (show ¬ sx_bi x = sx_bi y by omega)]; rfl
  · exact congrArg some (decide_eq_decide.mpr (by omega))
  · by_cases h : x.toInt < y.toInt
    · rw [decide_eq_true h, decide_eq_false (show ¬ sx_bi y ≤ sx_bi x by omega)]
    · rw [decide_eq_false h, decide_eq_true (show sx_bi y ≤ sx_bi x by omega)]
  · exact congrArg some (decide_eq_decide.mpr (by omega))
  · by_cases h : y.toInt < x.toInt
    · rw [decide_eq_true h, decide_eq_false (show ¬ sx_bi x ≤ sx_bi y by omega)]
    · rw [decide_eq_false h, decide_eq_true (show sx_bi x ≤ sx_bi y by omega)]
noncomputable def sx_brF (E : sx_E) (c : ClassFile.Cond) (x y : Value) (pc : Nat) (off : Int) (ls : List (Option Value)) (st : List Value) (a : rx_K) (S : sx_M) : sx_O := match x with
  | .int x' => (match y with
    | .int y' => (match (pc : Int) + off with
      | .ofNat t => cond (sx_fc c x' y') (sx_nx t ls st a S) (sx_nx (pc + 3) ls st a S)
      | .negSucc _ => sx_no)
    | y' => sx_br E c (.int x') y' pc off ls st a S)
  | x' => sx_br E c x' y pc off ls st a S
theorem sx_brF_eq (E : sx_E) (c : ClassFile.Cond) (x y : Value) (pc : Nat) (off : Int) (ls : List (Option Value)) (st : List Value) (a : rx_K) (S : sx_M) : sx_brF E c x y pc off ls st a S = sx_br E c x y pc off ls st a S := by
  unfold sx_brF
  split
  · split
    · rename_i x' _ y'
      unfold sx_br
      show _ = (match (pc : Int) + off with
        | .ofNat t => (match sx_cmp c (x'.toInt, x'.toInt) (y'.toInt, y'.toInt) with
          | some true => sx_nx t ls st a S
          | some false => sx_nx (pc + 3) ls st a S
          | none => sx_spl E (.int x') (.int y'))
        | .negSucc _ => sx_no)
      rw [sx_fc_eq]
      split
      · cases sx_fc c x' y' <;> rfl
      · rfl
    · rfl
  · rfl
noncomputable def sx_op (ins : Instr) : Nat → sx_E → Nat → Nat → List (Option Value) → List Value → rx_K → sx_M → sx_O := Instr.rec (motive := fun _ => Nat → sx_E → Nat → Nat → List (Option Value) → List Value → rx_K → sx_M → sx_O)
  (fun L E i pc ls st a S => sx_al E L i 2 pc ls st a S)
  (fun _ _ _ _ _ _ _ _ => sx_no)
  (fun _ _ _ _ _ _ _ _ => sx_no)
  (fun k L E i pc ls st a S => sx_ldF ls k 1 (pc + 2) st a S)
  (fun k L E i pc ls st a S => sx_ldF ls k 1 (pc + 1) st a S)
  (fun _ _ _ _ _ _ _ _ _ => sx_no)
  (fun _ _ _ _ _ _ _ _ => sx_no)
  (fun L E i pc ls st a S => sx_aln L i pc ls st a S)
  (fun k L E i pc ls st a S => sx_stoF ls k 1 (pc + 2) st a S)
  (fun k L E i pc ls st a S => sx_stoF ls k 1 (pc + 1) st a S)
  (fun _ _ _ _ _ _ _ _ => sx_no)
  (fun L E i pc ls st a S => sx_al E L i 1 pc ls st a S)
  (fun L E i pc ls st a S => sx_as E 1 pc ls st a S)
  (fun n L E i pc ls st a S => sx_nx (pc + 2) ls (.int (Int8.ofInt n).toInt32 :: st) a S)
  (fun _ _ _ _ _ _ _ _ => sx_no)
  (fun _ _ _ _ _ _ _ _ => sx_no)
  (fun _ _ _ _ _ _ _ _ _ => sx_no)
  (fun _ _ _ _ _ _ _ _ => sx_no)
  (fun _ _ _ _ _ _ _ _ => sx_no)
  (fun _ _ _ _ _ _ _ _ => sx_no)
  (fun _ _ _ _ _ _ _ _ => sx_no)
  (fun _ _ _ _ _ _ _ _ => sx_no)
  (fun _ _ _ _ _ _ _ _ => sx_no)
  (fun _ _ _ _ _ _ _ _ _ => sx_no)
  (fun _ _ _ _ _ _ _ _ _ => sx_no)
  (fun _ _ _ _ _ _ _ _ => sx_no)
  (fun _ _ _ _ _ _ _ _ _ => sx_no)
  (fun _ _ _ _ _ _ _ _ _ => sx_no)
  (fun _ _ _ _ _ _ _ _ => sx_no)
  (fun _ _ _ _ _ _ _ _ => sx_no)
  (fun _ _ _ _ _ _ _ _ => sx_no)
  (fun _ _ _ _ _ _ _ _ => sx_no)
  (fun _ _ _ _ _ _ _ _ _ => sx_no)
  (fun _ _ _ _ _ _ _ _ _ => sx_no)
  (fun _ _ _ _ _ _ _ _ => sx_no)
  (fun L E i pc ls st a S => match st with
    | v :: r => cond (Nat.beq v.category 1) (sx_nx (pc + 1) ls (v :: v :: r) a S) sx_no
    | _ => sx_no)
  (fun L E i pc ls st a S => match st with
    | v :: w :: r => cond (Nat.beq v.category 1 && Nat.beq w.category 1) (sx_nx (pc + 1) ls (v :: w :: v :: r) a S) sx_no
    | _ => sx_no)
  (fun _ _ _ _ _ _ _ _ => sx_no)
  (fun L E i pc ls st a S => match st with
    | v :: w :: r => cond (Nat.beq v.category 1 && Nat.beq w.category 1) (sx_nx (pc + 1) ls (v :: w :: v :: w :: r) a S) sx_no
    | _ => sx_no)
  (fun _ _ _ _ _ _ _ _ => sx_no)
  (fun _ _ _ _ _ _ _ _ => sx_no)
  (fun _ _ _ _ _ _ _ _ => sx_no)
  (fun _ _ _ _ _ _ _ _ => sx_no)
  (fun _ _ _ _ _ _ _ _ => sx_no)
  (fun _ _ _ _ _ _ _ _ => sx_no)
  (fun _ _ _ _ _ _ _ _ => sx_no)
  (fun _ _ _ _ _ _ _ _ => sx_no)
  (fun _ _ _ _ _ _ _ _ _ => sx_no)
  (fun _ _ _ _ _ _ _ _ _ => sx_no)
  (fun _ _ _ _ _ _ _ _ => sx_no)
  (fun _ _ _ _ _ _ _ _ _ => sx_no)
  (fun _ _ _ _ _ _ _ _ _ => sx_no)
  (fun _ _ _ _ _ _ _ _ => sx_no)
  (fun _ _ _ _ _ _ _ _ => sx_no)
  (fun _ _ _ _ _ _ _ _ => sx_no)
  (fun _ _ _ _ _ _ _ _ => sx_no)
  (fun _ _ _ _ _ _ _ _ _ => sx_no)
  (fun _ _ _ _ _ _ _ _ _ => sx_no)
  (fun _ _ _ _ _ _ _ _ => sx_no)
  (fun x L E i pc ls st a S => sx_gf (rx_cn i) x pc ls st a S)
  (fun _ _ _ _ _ _ _ _ _ => sx_no)
  (fun off L E i pc ls st a S => sx_jmp pc off ls st a S)
  (fun _ _ _ _ _ _ _ _ _ => sx_no)
  (fun L E i pc ls st a S => sx_un E (fun x => .int x.toInt8.toInt32) (pc + 1) ls st a S)
  (fun _ _ _ _ _ _ _ _ => sx_no)
  (fun _ _ _ _ _ _ _ _ => sx_no)
  (fun _ _ _ _ _ _ _ _ => sx_no)
  (fun L E i pc ls st a S => sx_un E (fun x => .long x.toInt64) (pc + 1) ls st a S)
  (fun L E i pc ls st a S => sx_un E (fun x => .int x.toInt16.toInt32) (pc + 1) ls st a S)
  (fun L E i pc ls st a S => sx_bin E (fun x y => x + y) (pc + 1) ls st a S)
  (fun L E i pc ls st a S => sx_al E L i 0 pc ls st a S)
  (fun L E i pc ls st a S => sx_and E (pc + 1) ls st a S)
  (fun L E i pc ls st a S => sx_as E 0 pc ls st a S)
  (fun n L E i pc ls st a S => sx_nx (pc + 1) ls (.int (Int32.ofInt n) :: st) a S)
  (fun L E i pc ls st a S => sx_div E (pc + 1) ls st a S)
  (fun _ _ _ _ _ _ _ _ _ _ => sx_no)
  (fun c off L E i pc ls st a S => match st with
    | y :: x :: r => sx_brF E c x y pc off ls r a S
    | _ => sx_no)
  (fun c off L E i pc ls st a S => match st with
    | x :: r => sx_brF E c x (.int 0) pc off ls r a S
    | _ => sx_no)
  (fun _ _ _ _ _ _ _ _ _ => sx_no)
  (fun _ _ _ _ _ _ _ _ _ => sx_no)
  (fun k n L E i pc ls st a S => match sx_at none ls k with
    | some w => sx_n1 E w (fun x => sx_iN (x + Int32.ofInt n) (fun z => sx_nr (pc + 3) (sx_s1F ls k (.int z)) st a S))
    | none => sx_no)
  (fun k L E i pc ls st a S => sx_ldF ls k 0 (pc + 2) st a S)
  (fun k L E i pc ls st a S => sx_ldF ls k 0 (pc + 1) st a S)
  (fun L E i pc ls st a S => sx_bin E (fun x y => x * y) (pc + 1) ls st a S)
  (fun L E i pc ls st a S => sx_un E (fun x => .int (-x)) (pc + 1) ls st a S)
  (fun _ _ _ _ _ _ _ _ _ => sx_no)
  (fun _ _ _ _ _ _ _ _ _ => sx_no)
  (fun _ _ _ _ _ _ _ _ _ _ => sx_no)
  (fun x L E i pc ls st a S => sx_inv E 2 (rx_cn i) x pc ls st a S)
  (fun x L E i pc ls st a S => sx_inv E 1 (rx_cn i) x pc ls st a S)
  (fun x L E i pc ls st a S => sx_inv E 0 (rx_cn i) x pc ls st a S)
  (fun L E i pc ls st a S => sx_bin E (fun x y => x ||| y) (pc + 1) ls st a S)
  (fun L E i pc ls st a S => sx_rem E (pc + 1) ls st a S)
  (fun L E i pc ls st a S => match st with
    | [w] => match rx_rt i with
      | some .int => cond (sx_isI w) (.inl (some (.inr (.inr (.inl (some w)))))) sx_no
      | some .boolean => sx_n1 E w (fun x => if x = 0 ∨ x = 1 then some (.inr (.inr (.inl (some (.int x))))) else none)
      | _ => sx_no
    | _ => sx_no)
  (fun L E i pc ls st a S => sx_bin E (fun x y => x <<< (y &&& 31)) (pc + 1) ls st a S)
  (fun L E i pc ls st a S => sx_shr E (pc + 1) ls st a S)
  (fun k L E i pc ls st a S => sx_stoF ls k 0 (pc + 2) st a S)
  (fun k L E i pc ls st a S => sx_stoF ls k 0 (pc + 1) st a S)
  (fun L E i pc ls st a S => sx_bin E (fun x y => x - y) (pc + 1) ls st a S)
  (fun _ _ _ _ _ _ _ _ => sx_no)
  (fun _ _ _ _ _ _ _ _ => sx_no)
  (fun _ _ _ _ _ _ _ _ _ => sx_no)
  (fun _ _ _ _ _ _ _ _ _ => sx_no)
  (fun _ _ _ _ _ _ _ _ => sx_no)
  (fun _ _ _ _ _ _ _ _ => sx_no)
  (fun _ _ _ _ _ _ _ _ => sx_no)
  (fun _ _ _ _ _ _ _ _ => sx_no)
  (fun _ _ _ _ _ _ _ _ => sx_no)
  (fun _ _ _ _ _ _ _ _ => sx_no)
  (fun _ _ _ _ _ _ _ _ => sx_no)
  (fun _ _ _ _ _ _ _ _ => sx_no)
  (fun n L E i pc ls st a S => sx_nx (pc + 1) ls (.long (Int64.ofNat (n : Nat)) :: st) a S)
  (fun _ _ _ _ _ _ _ _ _ => sx_no)
  (fun _ _ _ _ _ _ _ _ _ => sx_no)
  (fun _ _ _ _ _ _ _ _ _ => sx_no)
  (fun _ _ _ _ _ _ _ _ => sx_no)
  (fun k L E i pc ls st a S => sx_ldF ls k 2 (pc + 2) st a S)
  (fun k L E i pc ls st a S => sx_ldF ls k 2 (pc + 1) st a S)
  (fun _ _ _ _ _ _ _ _ => sx_no)
  (fun _ _ _ _ _ _ _ _ => sx_no)
  (fun d ps L E i pc ls st a S => match st with
    | x :: r => sx_n1 E x (fun x => cond ((ps.toList.zip (ps.toList.drop 1)).all (fun (a, next) => a.1 < next.1)) (sx_jr pc (Op.lookupswitch.offset ps.toList d x.toInt) ls r a S) none)
    | _ => sx_no)
  (fun _ _ _ _ _ _ _ _ => sx_no)
  (fun _ _ _ _ _ _ _ _ => sx_no)
  (fun L E i pc ls st a S => match st with
    | [.long x] => match rx_rt i with
      | some .long => .inl (some (.inr (.inr (.inl (some (.long x))))))
      | _ => sx_no
    | _ => sx_no)
  (fun _ _ _ _ _ _ _ _ => sx_no)
  (fun _ _ _ _ _ _ _ _ => sx_no)
  (fun k L E i pc ls st a S => sx_stoF ls k 2 (pc + 2) st a S)
  (fun k L E i pc ls st a S => sx_stoF ls k 2 (pc + 1) st a S)
  (fun _ _ _ _ _ _ _ _ => sx_no)
  (fun _ _ _ _ _ _ _ _ => sx_no)
  (fun _ _ _ _ _ _ _ _ => sx_no)
  (fun _ _ _ _ _ _ _ _ => sx_no)
  (fun _ _ _ _ _ _ _ _ => sx_no)
  (fun x n L E i pc ls st a S => if n = 2 then sx_mna (rx_cn i) x pc ls st a S else sx_no)
  (fun x L E i pc ls st a S => sx_new (rx_cn i) x pc ls st a S)
  (fun t L E i pc ls st a S => sx_nwa t pc ls st a S)
  (fun _ _ _ _ _ _ _ _ => sx_no)
  (fun L E i pc ls st a S => match st with
    | v :: r => cond (Nat.beq v.category 1) (sx_nx (pc + 1) ls r a S) sx_no
    | _ => sx_no)
  (fun _ _ _ _ _ _ _ _ => sx_no)
  (fun x L E i pc ls st a S => sx_pf E (rx_ini i) (rx_cn i) x pc ls st a S)
  (fun _ _ _ _ _ _ _ _ _ => sx_no)
  (fun _ _ _ _ _ _ _ _ _ => sx_no)
  (fun L E i pc ls st a S => match st with
    | [] => match rx_rt i with
      | none => .inl (some (.inr (.inr (.inl none))))
      | _ => sx_no
    | _ => sx_no)
  (fun _ _ _ _ _ _ _ _ => sx_no)
  (fun _ _ _ _ _ _ _ _ => sx_no)
  (fun n L E i pc ls st a S => sx_nx (pc + 3) ls (.int (Int16.ofInt n).toInt32 :: st) a S)
  (fun _ _ _ _ _ _ _ _ => sx_no)
  (fun d lo hi offs L E i pc ls st a S => sx_tsw E d lo hi offs pc ls st a S) ins
theorem sx_op_eq (L : Nat) (E : sx_E) (i : Nat) (ins : Instr) (pc : Nat) (ls : List (Option Value)) (st : List Value) (a : rx_K) (S : sx_M) : sx_op ins L E i pc ls st a S = sx_ins L E i ins pc ls st a S := by
  cases ins <;> first
    | rfl
    | exact sx_ldF_eq _ _ _ _ _ _ _
    | exact sx_stoF_eq _ _ _ _ _ _ _
    | (show (match st with
        | x :: r => sx_brF E _ x (.int 0) pc _ ls r a S
        | _ => sx_no) = _
       simp only [sx_brF_eq]
       rfl)
    | (show (match st with
        | y :: x :: r => sx_brF E _ x y pc _ ls r a S
        | _ => sx_no) = _
       simp only [sx_brF_eq]
       rfl)
    | (rename_i k n
       show (match sx_at none ls k with
         | some w => sx_n1 E w (fun x => sx_iN (x + Int32.ofInt n) (fun z => sx_nr (pc + 3) (sx_s1F ls k (.int z)) st a S))
         | none => sx_no) = (match ls[k]? with
         | some (some w) => sx_n1 E w (fun x => sx_nr (pc + 3) (rx_s1 ls k (.int (x + Int32.ofInt n))) st a S)
         | _ => sx_no)
       simp only [sx_iN_eq, sx_s1F_eq, sx_at_none]
       cases ls[k]? with
       | none => rfl
       | some o => cases o <;> rfl)
noncomputable def sx_stp (L : Nat) (E : sx_E) (i : Nat) (g : sx_C) : sx_O := match rx_tb i g.1 with
  | none => sx_no
  | some ins => sx_ins L E i ins g.1 g.2.1 g.2.2.1 g.2.2.2.1 g.2.2.2.2
/-- both halves of what may be -/
noncomputable def sx_lo (E : sx_E) (k : Nat) (b : Int) : sx_E := sx_put sx_full ((sx_at sx_full E k).1, b) k E
noncomputable def sx_hi (E : sx_E) (k : Nat) (b : Int) : sx_E := sx_put sx_full (b + 1, (sx_at sx_full E k).2) k E
/-- the frames below: where they go on; d calls more may be made -/
abbrev sx_F : Type := List (Nat × sx_C)
noncomputable def sx_fin (a : rx_K) (w : Option Value) : Bool := match w with
  | some (.int x) => decide (x = 1) && (Nat.ble a.2.1 600002 && Nat.ble a.2.2 7302232)
  | _ => false
noncomputable def sx_top {β : Type} (st : List Value) (k : List Value → β) : β := match st with
  | [] => k []
  | w :: r => match w with
    | .int x => sx_iN x (fun z => k (.int z :: r))
    | .ref q => sx_nf q (fun z => k (.ref z :: r))
    | u => k (u :: r)
theorem sx_top_eq {β : Type} (st : List Value) (k : List Value → β) : sx_top st k = k st := by
  unfold sx_top
  split
  · rfl
  · split
    · rw [sx_iN_eq]
    · rw [sx_nf_eq]
    · rfl
abbrev sx_G : Type := sx_E → Nat → sx_F → Nat → Nat → List (Option Value) → List Value → rx_K → sx_M → Bool
/-- go on with what is worked out -/
noncomputable def sx_on (ih : sx_G) (E : sx_E) (d : Nat) (fr : sx_F) (i : Nat) (pc : Nat) (ls : List (Option Value)) (st : List Value) (a : rx_K) (S : sx_M) : Bool := match a with
  | (a1, a2, a3) => sx_nf pc (fun pc => sx_nf a1 (fun a1 => sx_nf a2 (fun a2 => sx_nf a3 (fun a3 => sx_top st (fun st => ih E d fr i pc ls st (a1, a2, a3) S)))))
theorem sx_on_eq (ih : sx_G) (E : sx_E) (d : Nat) (fr : sx_F) (i : Nat) (pc : Nat) (ls : List (Option Value)) (st : List Value) (a : rx_K) (S : sx_M) : sx_on ih E d fr i pc ls st a S = ih E d fr i pc ls st a S := by
  unfold sx_on
  obtain ⟨a1, a2, a3⟩ := a
  dsimp only
  rw [sx_nf_eq, sx_nf_eq, sx_nf_eq, sx_nf_eq, sx_top_eq]
noncomputable def sx_call (ih : sx_G) (E : sx_E) (d : Nat) (fr : sx_F) (i j : Nat) (vs : List Value) (g : sx_C) (a : rx_K) (S : sx_M) : Bool := match d with
  | 0 => false
  | e + 1 => sx_nf j (fun j => ih E e ((i, g) :: fr) j 0 (vs.map some ++ List.replicate (rx_mx j - vs.length) none) [] a S)
noncomputable def sx_back (ih : sx_G) (E : sx_E) (d : Nat) (fr : sx_F) (a : rx_K) (S : sx_M) (rv : Option Value) : Bool := match fr with
  | [] => sx_fin a rv
  | (i, pc, ls, st, _, _) :: r => cond (match rv with
    | none => true
    | some w => sx_sh 0 w || sx_sh 2 w) (sx_on ih E (d + 1) r i pc ls (rv.toList ++ st) a S) false
noncomputable def sx_exc (ih : sx_G) (E : sx_E) (d : Nat) (fr : sx_F) (a : rx_K) (S : sx_M) (X : Nat) : Bool := match fr with
  | [] => false
  | (i, _, ls, _, _, _) :: r => match rx_hd i X with
    | some (h, n, k) => sx_on ih E (d + 1) r i (h + n) ((rx_kill ls k).set k none) [] (a.1, a.2.1 + 1, a.2.2 + 6) S
    | none => false
noncomputable def sx_go (ih : sx_G) (E : sx_E) (d : Nat) (fr : sx_F) (i pc : Nat) (ls : List (Option Value)) (st : List Value) (a : rx_K) (S : sx_M) (o : sx_O) : Bool := match o with
  | .inr (k, b) => ih (sx_lo E k b) d fr i pc ls st a S && ih (sx_hi E k b) d fr i pc ls st a S
  | .inl r => match r with
    | none => false
    | some r => match r with
      | .inl (pc, ls, st, a, S) => sx_on ih E d fr i pc ls st a S
      | .inr r => match r with
        | .inl (j, vs, pc, ls, st, a, S) => sx_call ih E d fr i j vs (pc, ls, st, a, S) a S
        | .inr r => match r with
          | .inl rv => sx_back ih E d fr a S rv
          | .inr X => sx_exc ih E d fr a S X
noncomputable def sx_one (L : Nat) (ih : sx_G) : sx_G := fun E d fr i pc ls st a S => match rx_tb i pc with
  | none => false
  | some ins => sx_go ih E d fr i pc ls st a S (sx_op ins L E i pc ls st a S)
noncomputable def sx_run (L : Nat) (f : Nat) : sx_G := Nat.rec (motive := fun _ => sx_G) (fun _ _ _ _ _ _ _ _ _ => false) (fun _ ih => sx_one L ih) f
