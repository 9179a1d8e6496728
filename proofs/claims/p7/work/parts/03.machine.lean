/-! the abstract machine: cells by numbers; ints, references and longs in three memories; a frame is a pc, locals, a stack -/
abbrev rx_M : Type := (Nat → Nat → Int32) × (Nat → Nat → Option Nat) × (Nat → Nat → Int64)
/-- the world's cells; cells made, their slots -/
abbrev rx_K : Type := Nat × Nat × Nat
abbrev rx_C : Type := Nat × List (Option Value) × List Value × rx_K × rx_M
abbrev rx_O : Type := Option Value × rx_K × rx_M
abbrev rx_R : Type := rx_C ⊕ ((Nat × List Value × rx_C) ⊕ Option Value)
noncomputable def rx_scr : Nat := 1000
noncomputable def rx_up {α : Type} (f : Nat → Nat → α) (k j : Nat) (v : α) : Nat → Nat → α := fun a b => if a = k then (if b = j then v else f a b) else f a b
noncomputable def rx_mrow (f : Nat → Nat → Option Nat) (q n : Nat) : Nat → Nat → Option Nat := fun p j => if p = q then (if j < n then some (q + 1 + j) else none) else f p j
/-- n elements of row k from s on come to row e from d on -/
noncomputable def rx_cp (f : Nat → Nat → Int32) (k s e d n : Nat) : Nat → Nat → Int32 := fun a b => if a = e then va_cpy (f k) (f e) s d n b else f a b
noncomputable def rx_kill (ls : List (Option Value)) (k : Nat) : List (Option Value) := match k with
  | 0 => ls
  | j + 1 => match ls[j]? with
    | some (some v) => cond (Nat.beq v.category 2) (ls.set j none) ls
    | _ => ls
noncomputable def rx_s1 (ls : List (Option Value)) (k : Nat) (v : Value) : List (Option Value) := (rx_kill ls k).set k (some v)
noncomputable def rx_s2 (ls : List (Option Value)) (k : Nat) (v : Value) : List (Option Value) := ((rx_kill ls k).set k (some v)).set (k + 1) none
noncomputable def rx_nx (pc : Nat) (ls : List (Option Value)) (st : List Value) (a : rx_K) (M : rx_M) : Option rx_R := some (.inl (pc, ls, st, a, M))
noncomputable def rx_jmp (pc : Nat) (off : Int) (ls : List (Option Value)) (st : List Value) (a : rx_K) (M : rx_M) : Option rx_R := match (pc : Int) + off with
  | .ofNat t => rx_nx t ls st a M
  | .negSucc _ => none
noncomputable def rx_br (c : Prop) [Decidable c] (pc : Nat) (off : Int) (ls : List (Option Value)) (st : List Value) (a : rx_K) (M : rx_M) : Option rx_R :=
  match (pc : Int) + off with
  | .ofNat t => if c then rx_nx t ls st a M else rx_nx (pc + 3) ls st a M
  | .negSucc _ => none
noncomputable def rx_cat1 (vs : List Value) : Bool := vs.all (fun v => Nat.beq v.category 1)
noncomputable def rx_c8 (vs : List Value) : Bool := Nat.ble ((vs.map fun v => v.category).sum) 8
noncomputable def rx_ld (ls : List (Option Value)) (k : Nat) (sh : Nat) (pc : Nat) (st : List Value) (a : rx_K) (M : rx_M) : Option rx_R := match ls[k]? with
  | some (some v) => match sh, v with
    | 0, .int x => rx_nx pc ls (.int x :: st) a M
    | 1, .ref x => rx_nx pc ls (.ref x :: st) a M
    | 2, .long x => rx_nx pc ls (.long x :: st) a M
    | _, _ => none
  | _ => none
noncomputable def rx_sto (ls : List (Option Value)) (k : Nat) (sh : Nat) (pc : Nat) (st : List Value) (a : rx_K) (M : rx_M) : Option rx_R := match st with
  | v :: r => match sh, v with
    | 0, .int x => if k < ls.length then rx_nx pc (rx_s1 ls k (.int x)) r a M else none
    | 1, .ref x => if k < ls.length then rx_nx pc (rx_s1 ls k (.ref x)) r a M else none
    | 2, .long x => if k + 1 < ls.length then rx_nx pc (rx_s2 ls k (.long x)) r a M else none
    | _, _ => none
  | _ => none
noncomputable def rx_bin (f : Int32 → Int32 → Int32) (pc : Nat) (ls : List (Option Value)) (st : List Value) (a : rx_K) (M : rx_M) : Option rx_R := match st with
  | .int y :: .int x :: r => rx_nx pc ls (.int (f x y) :: r) a M
  | _ => none
noncomputable def rx_gf (cn x pc : Nat) (ls : List (Option Value)) (st : List Value) (a : rx_K) (M : rx_M) : Option rx_R := match st with
  | .ref q :: r => match rx_fl cn x with
    | some (ci, k, t, _) => match rx_lay q with
      | some (.inl c) => if q < a.1 then (if c = ci then (match t with
          | 2 => rx_nx (pc + 3) ls (va_rf (M.2.1 q k) :: r) a M
          | _ => rx_nx (pc + 3) ls (.int (M.1 q k) :: r) a M) else none) else none
      | _ => none
    | none => none
  | _ => none
noncomputable def rx_pf (ini : Bool) (cn x pc : Nat) (ls : List (Option Value)) (st : List Value) (a : rx_K) (M : rx_M) : Option rx_R := match st with
  | v :: .ref q :: r => match rx_fl cn x with
    | some (ci, k, t, fin) => match rx_lay q with
      | some (.inl c) => if q < a.1 then (if c = ci then (if fin = true ∧ (ini = false ∨ ci ≠ cn) then none else (match t, v with
          | 0, .int z => rx_nx (pc + 3) ls r a (rx_up M.1 q k z, M.2.1, M.2.2)
          | 1, .int z => if z = 0 ∨ z = 1 then rx_nx (pc + 3) ls r a (rx_up M.1 q k z, M.2.1, M.2.2) else none
          | 2, .ref z => if z < a.1 then rx_nx (pc + 3) ls r a (M.1, rx_up M.2.1 q k (some z), M.2.2) else none
          | _, _ => none)) else none) else none
      | _ => none
    | none => none
  | _ => none
/-- an element of a row: t what it must be -/
noncomputable def rx_al (X : Nat × (Nat → Int32)) (i0 t : Nat) (pc : Nat) (ls : List (Option Value)) (st : List Value) (a : rx_K) (M : rx_M) : Option rx_R := match st with
  | .int i :: .ref q :: r => match rx_lay q with
    | some (.inr (u, n)) => if q < a.1 then (if u = t then (if i < 0 ∨ n ≤ i.toNatClampNeg then none else (match t with
        | 2 => rx_nx (pc + 1) ls (va_rf (M.2.1 q i.toNatClampNeg) :: r) a M
        | 3 => rx_nx (pc + 1) ls (.long (M.2.2 q i.toNatClampNeg) :: r) a M
        | _ => rx_nx (pc + 1) ls (.int (M.1 q i.toNatClampNeg) :: r) a M)) else none) else none
    | some (.inl _) => none
    | none => if q = rx_scr ∧ i0 = rx_law then (if t = 0 then (if i < 0 ∨ X.1 ≤ i.toNatClampNeg then none else rx_nx (pc + 1) ls (.int (X.2 i.toNatClampNeg) :: r) a M) else none) else none
  | _ => none
noncomputable def rx_as (t : Nat) (pc : Nat) (ls : List (Option Value)) (st : List Value) (a : rx_K) (M : rx_M) : Option rx_R := match st with
  | v :: .int i :: .ref q :: r => match rx_lay q with
    | some (.inr (u, n)) => if q < a.1 then (if u = t then (if i < 0 ∨ n ≤ i.toNatClampNeg then none else (match t, v with
        | 0, .int z => rx_nx (pc + 1) ls r a (rx_up M.1 q i.toNatClampNeg z, M.2.1, M.2.2)
        | 1, .int z => if z = 0 ∨ z = 1 then rx_nx (pc + 1) ls r a (rx_up M.1 q i.toNatClampNeg z, M.2.1, M.2.2) else none
        | 3, .long z => rx_nx (pc + 1) ls r a (M.1, M.2.1, rx_up M.2.2 q i.toNatClampNeg z)
        | _, _ => none)) else none) else none
    | _ => none
  | _ => none
noncomputable def rx_aln (X : Nat × (Nat → Int32)) (i0 pc : Nat) (ls : List (Option Value)) (st : List Value) (a : rx_K) (M : rx_M) : Option rx_R := match st with
  | .ref q :: r => match rx_lay q with
    | some (.inr (u, n)) => if q < a.1 ∧ u < 4 then rx_nx (pc + 1) ls (.int (Int32.ofNat n) :: r) a M else none
    | some (.inl _) => none
    | none => if q = rx_scr ∧ i0 = rx_law then rx_nx (pc + 1) ls (.int (Int32.ofNat X.1) :: r) a M else none
  | _ => none
noncomputable def rx_aty (t : ArrayType) : Nat := match t with
  | .int => 0
  | .boolean => 1
  | .long => 3
  | _ => 9
noncomputable def rx_nwa (t : ArrayType) (pc : Nat) (ls : List (Option Value)) (st : List Value) (a : rx_K) (M : rx_M) : Option rx_R := match st with
  | .int n :: r => if n < 0 then none else match rx_lay a.1 with
    | some (.inr (u, k)) => if u = rx_aty t ∧ k = n.toNatClampNeg ∧ k ≤ 100000 then rx_nx (pc + 2) ls (.ref a.1 :: r) (a.1 + 1, a.2.1 + 1, a.2.2 + k) M else none
    | _ => none
  | _ => none
noncomputable def rx_mna (cn x pc : Nat) (ls : List (Option Value)) (st : List Value) (a : rx_K) (M : rx_M) : Option rx_R := match st with
  | .int k :: .int n :: r => if n < 0 ∨ k < 0 then none else match rx_mn cn x with
    | none => none
    | some _ => if rx_lay a.1 = some (.inr (2, n.toNatClampNeg)) ∧ (List.range n.toNatClampNeg).all (fun i => decide (rx_lay (a.1 + 1 + i) = some (.inr (0, k.toNatClampNeg)))) = true ∧ n.toNatClampNeg ≤ 1000 ∧ k.toNatClampNeg ≤ 1000 then
        rx_nx (pc + 4) ls (.ref a.1 :: r) (a.1 + 1 + n.toNatClampNeg, a.2.1 + 1 + n.toNatClampNeg, a.2.2 + n.toNatClampNeg + n.toNatClampNeg * k.toNatClampNeg) (M.1, rx_mrow M.2.1 a.1 n.toNatClampNeg, M.2.2) else none
  | _ => none
noncomputable def rx_new (cn x pc : Nat) (ls : List (Option Value)) (st : List Value) (a : rx_K) (M : rx_M) : Option rx_R := match rx_nw cn x with
  | some (.inl ci) => if rx_lay a.1 = some (.inl ci) then rx_nx (pc + 3) ls (.ref a.1 :: st) (a.1 + 1, a.2.1 + 1, a.2.2 + (rx_sty ci).length) M else none
  | some (.inr E) => match st with
    | [] => some (.inr (.inr (some (.retAddr E))))
    | _ => none
  | none => none
/-- a call: w which instruction (0 virtual, 1 static, 2 special) -/
noncomputable def rx_inv (w cn x pc : Nat) (ls : List (Option Value)) (st : List Value) (a : rx_K) (M : rx_M) : Option rx_R := match rx_ml cn x with
  | none => none
  | some (kind, j, n) => match kind with
    | 10 => if w = 1 then (match st with | .int y :: .int z :: r => cond (rx_c8 r) (rx_nx (pc + 3) ls (.int (if z < y then y else z) :: r) a M) none | _ => none) else none
    | 11 => if w = 1 then (match st with | .int y :: .int z :: r => cond (rx_c8 r) (rx_nx (pc + 3) ls (.int (if y < z then y else z) :: r) a M) none | _ => none) else none
    | 12 => if w = 1 then (match st with
        | .int m :: .int dp :: .ref e :: .int sp :: .ref q :: r => match rx_lay q, rx_lay e with
          | some (.inr (0, n0)), some (.inr (0, n1)) => if q < a.1 ∧ e < a.1 ∧ ¬ sp < 0 ∧ ¬ dp < 0 ∧ ¬ m < 0 ∧ sp.toNatClampNeg + m.toNatClampNeg ≤ n0 ∧ dp.toNatClampNeg + m.toNatClampNeg ≤ n1 then cond (rx_c8 r) (rx_nx (pc + 3) ls r a (rx_cp M.1 q sp.toNatClampNeg e dp.toNatClampNeg m.toNatClampNeg, M.2.1, M.2.2)) none else none
          | _, _ => none
        | _ => none) else none
    | 13 => if w = 2 then (match st with | .ref _ :: r => cond (rx_c8 r) (rx_nx (pc + 3) ls r a M) none | _ => none) else none
    | _ => cond (Nat.beq w (rx_kw kind)) (cond (Nat.beq w 1)
        (cond (rx_cat1 (st.take n) && rx_c8 (st.drop n) && Nat.beq (st.take n).length n) (some (.inr (.inl (j, (st.take n).reverse, (pc + 3, ls, st.drop n, a, M))))) none)
        (match st.drop n with
          | .ref b :: r => match rx_lay b with
            | some (.inl c) => if b < a.1 then (if c = rx_cn j then cond (rx_cat1 (st.take n) && rx_c8 r && Nat.beq (st.take n).length n) (some (.inr (.inl (j, .ref b :: (st.take n).reverse, (pc + 3, ls, r, a, M))))) none else none) else none
            | _ => none
          | _ => none)) none
noncomputable def rx_ins (X : Nat × (Nat → Int32)) (i : Nat) (ins : Instr) (pc : Nat) (ls : List (Option Value)) (st : List Value) (a : rx_K) (M : rx_M) : Option rx_R := match ins with
  | .iconst n => rx_nx (pc + 1) ls (.int (Int32.ofInt n) :: st) a M
  | .bipush n => rx_nx (pc + 2) ls (.int (Int8.ofInt n).toInt32 :: st) a M
  | .sipush n => rx_nx (pc + 3) ls (.int (Int16.ofInt n).toInt32 :: st) a M
  | .lconst n => rx_nx (pc + 1) ls (.long (Int64.ofNat (n : Nat)) :: st) a M
  | .iload_n k => rx_ld ls k 0 (pc + 1) st a M
  | .iload k => rx_ld ls k 0 (pc + 2) st a M
  | .aload_n k => rx_ld ls k 1 (pc + 1) st a M
  | .aload k => rx_ld ls k 1 (pc + 2) st a M
  | .lload_n k => rx_ld ls k 2 (pc + 1) st a M
  | .lload k => rx_ld ls k 2 (pc + 2) st a M
  | .istore_n k => rx_sto ls k 0 (pc + 1) st a M
  | .istore k => rx_sto ls k 0 (pc + 2) st a M
  | .astore_n k => rx_sto ls k 1 (pc + 1) st a M
  | .astore k => rx_sto ls k 1 (pc + 2) st a M
  | .lstore_n k => rx_sto ls k 2 (pc + 1) st a M
  | .lstore k => rx_sto ls k 2 (pc + 2) st a M
  | .iinc k n => match ls[k]? with
    | some (some (.int x)) => rx_nx (pc + 3) (rx_s1 ls k (.int (x + Int32.ofInt n))) st a M
    | _ => none
  | .iadd => rx_bin (fun x y => x + y) (pc + 1) ls st a M
  | .isub => rx_bin (fun x y => x - y) (pc + 1) ls st a M
  | .imul => rx_bin (fun x y => x * y) (pc + 1) ls st a M
  | .iand => rx_bin (fun x y => x &&& y) (pc + 1) ls st a M
  | .ior => rx_bin (fun x y => x ||| y) (pc + 1) ls st a M
  | .ishl => rx_bin (fun x y => x <<< (y &&& 31)) (pc + 1) ls st a M
  | .ishr => rx_bin (fun x y => x >>> (y &&& 31)) (pc + 1) ls st a M
  | .idiv => match st with
    | .int y :: .int x :: r => if y = 0 then none else rx_nx (pc + 1) ls (.int (x / y) :: r) a M
    | _ => none
  | .irem => match st with
    | .int y :: .int x :: r => if y = 0 then none else rx_nx (pc + 1) ls (.int (x - x / y * y) :: r) a M
    | _ => none
  | .ineg => match st with
    | .int x :: r => rx_nx (pc + 1) ls (.int (-x) :: r) a M
    | _ => none
  | .i2b => match st with
    | .int x :: r => rx_nx (pc + 1) ls (.int x.toInt8.toInt32 :: r) a M
    | _ => none
  | .i2s => match st with
    | .int x :: r => rx_nx (pc + 1) ls (.int x.toInt16.toInt32 :: r) a M
    | _ => none
  | .i2l => match st with
    | .int x :: r => rx_nx (pc + 1) ls (.long x.toInt64 :: r) a M
    | _ => none
  | .ladd => match st with
    | .long y :: .long x :: r => rx_nx (pc + 1) ls (.long (x + y) :: r) a M
    | _ => none
  | .lcmp => match st with
    | .long y :: .long x :: r => rx_nx (pc + 1) ls (.int (lg_cmp x y) :: r) a M
    | _ => none
  | .dup => match st with
    | v :: r => cond (Nat.beq v.category 1) (rx_nx (pc + 1) ls (v :: v :: r) a M) none
    | _ => none
  | .pop => match st with
    | v :: r => cond (Nat.beq v.category 1) (rx_nx (pc + 1) ls r a M) none
    | _ => none
  | .dup_x1 => match st with
    | v :: w :: r => cond (Nat.beq v.category 1 && Nat.beq w.category 1) (rx_nx (pc + 1) ls (v :: w :: v :: r) a M) none
    | _ => none
  | .dup2 => match st with
    | v :: w :: r => cond (Nat.beq v.category 1 && Nat.beq w.category 1) (rx_nx (pc + 1) ls (v :: w :: v :: w :: r) a M) none
    | _ => none
  | .goto off => rx_jmp pc off ls st a M
  | .ifCond c off => match st with
    | .int x :: r => match c with
      | .eq => rx_br (x = 0) pc off ls r a M
      | .ne => rx_br (¬ x = 0) pc off ls r a M
      | .lt => rx_br (x < 0) pc off ls r a M
      | .ge => rx_br (0 ≤ x) pc off ls r a M
      | .gt => rx_br (0 < x) pc off ls r a M
      | .le => rx_br (x ≤ 0) pc off ls r a M
    | _ => none
  | .if_icmp c off => match st with
    | .int y :: .int x :: r => match c with
      | .eq => rx_br (x = y) pc off ls r a M
      | .ne => rx_br (¬ x = y) pc off ls r a M
      | .lt => rx_br (x < y) pc off ls r a M
      | .ge => rx_br (y ≤ x) pc off ls r a M
      | .gt => rx_br (y < x) pc off ls r a M
      | .le => rx_br (x ≤ y) pc off ls r a M
    | _ => none
  | .tableswitch d lo hi offs => match st with
    | .int x :: r => if x.toInt < lo ∨ hi < x.toInt then rx_jmp pc d ls r a M else match offs[(x.toInt - lo).toNat]? with
      | some o => rx_jmp pc o ls r a M
      | none => none
    | _ => none
  | .lookupswitch d ps => match st with
    | .int x :: r => cond ((ps.toList.zip (ps.toList.drop 1)).all (fun (a, next) => a.1 < next.1)) (rx_jmp pc (Op.lookupswitch.offset ps.toList d x.toInt) ls r a M) none
    | _ => none
  | .getfield x => rx_gf (rx_cn i) x pc ls st a M
  | .putfield x => rx_pf (rx_ini i) (rx_cn i) x pc ls st a M
  | .iaload => rx_al X i 0 pc ls st a M
  | .baload => rx_al X i 1 pc ls st a M
  | .aaload => rx_al X i 2 pc ls st a M
  | .laload => rx_al X i 3 pc ls st a M
  | .iastore => rx_as 0 pc ls st a M
  | .bastore => rx_as 1 pc ls st a M
  | .lastore => rx_as 3 pc ls st a M
  | .arraylength => rx_aln X i pc ls st a M
  | .newarray t => rx_nwa t pc ls st a M
  | .multianewarray x n => if n = 2 then rx_mna (rx_cn i) x pc ls st a M else none
  | .new x => rx_new (rx_cn i) x pc ls st a M
  | .invokevirtual x => rx_inv 0 (rx_cn i) x pc ls st a M
  | .invokestatic x => rx_inv 1 (rx_cn i) x pc ls st a M
  | .invokespecial x => rx_inv 2 (rx_cn i) x pc ls st a M
  | .ireturn => match st with
    | [.int x] => match rx_rt i with
      | some .int => some (.inr (.inr (some (.int x))))
      | some .boolean => if x = 0 ∨ x = 1 then some (.inr (.inr (some (.int x)))) else none
      | _ => none
    | _ => none
  | .lreturn => match st with
    | [.long x] => match rx_rt i with
      | some .long => some (.inr (.inr (some (.long x))))
      | _ => none
    | _ => none
  | .return_ => match st with
    | [] => match rx_rt i with
      | none => some (.inr (.inr none))
      | _ => none
    | _ => none
  | _ => none
noncomputable def rx_stp (X : Nat × (Nat → Int32)) (i : Nat) (c : rx_C) : Option rx_R := match rx_tb i c.1 with
  | none => none
  | some ins => rx_ins X i ins c.1 c.2.1 c.2.2.1 c.2.2.2.1 c.2.2.2.2
/-- a method's first frame -/
noncomputable def rx_ent (j : Nat) (vs : List Value) (a : rx_K) (M : rx_M) : rx_C := (0, vs.map some ++ List.replicate (rx_mx j - vs.length) none, [], a, M)
/-- where the caller goes on: with the answer, or at its handler -/
noncomputable def rx_res (i : Nat) (c : rx_C) (r : Option Value) (a : rx_K) (M : rx_M) : Option rx_C := match r with
  | none => some (c.1, c.2.1, c.2.2.1, a, M)
  | some v => match v with
    | .int x => some (c.1, c.2.1, .int x :: c.2.2.1, a, M)
    | .long x => some (c.1, c.2.1, .long x :: c.2.2.1, a, M)
    | .retAddr E => match rx_hd i E with
      | some (h, n, k) => some (h + n, (rx_kill c.2.1 k).set k none, [], (a.1, a.2.1 + 1, a.2.2 + 6), M)
      | none => none
    | _ => none
noncomputable def rx_go (X : Nat × (Nat → Int32)) : Nat → Nat → Nat → rx_C → Option rx_O
  | 0, _, _, _ => none
  | f + 1, d, i, c => match rx_stp X i c with
    | none => none
    | some (.inl c') => rx_go X f d i c'
    | some (.inr (.inr r)) => some (r, c.2.2.2.1, c.2.2.2.2)
    | some (.inr (.inl (j, vs, c'))) => match d with
      | 0 => none
      | e + 1 => match rx_go X f e j (rx_ent j vs c'.2.2.2.1 c'.2.2.2.2) with
        | none => none
        | some (r, a, M) => match rx_res i c' r a M with
          | none => none
          | some c2 => rx_go X f d i c2
