noncomputable def rx_lenI (i : Instr) : Nat := match i with
  | .iload _ => 2 | .aload _ => 2 | .lload _ => 2 | .istore _ => 2 | .astore _ => 2 | .lstore _ => 2 | .bipush _ => 2 | .ldc _ => 2 | .newarray _ => 2
  | .sipush _ => 3 | .iinc _ _ => 3 | .ifCond _ _ => 3 | .if_icmp _ _ => 3 | .goto _ => 3 | .getfield _ => 3 | .putfield _ => 3 | .invokevirtual _ => 3 | .invokespecial _ => 3 | .invokestatic _ => 3 | .new _ => 3 | .ldc_w _ => 3
  | .multianewarray _ _ => 4
  | _ => 1
noncomputable def rx_isw (i : Instr) : Bool := match i with
  | .tableswitch _ _ _ _ => true
  | .lookupswitch _ _ => true
  | _ => false
noncomputable def rx_okP (i pc : Nat) : Bool := match rx_tb i pc with
  | none => true
  | some ins => match decode (rx_c i) pc with
    | .ok (j, n) => decide (j = ins) && (Nat.beq n (rx_lenI ins) || rx_isw ins)
    | _ => false
noncomputable def rx_okD (i : Nat) : Bool := (List.range (rx_len i)).all (rx_okP i)
/-- what comes behind the opcode -/
noncomputable def fq_Kp (pc : Nat) : { K : Nat → Jvm.ClassFile.Decoder Instr // Jvm.ClassFile.Decoder.instr pc = ((Jvm.ClassFile.Reader.u1 : Jvm.ClassFile.Decoder Nat) >>= K) } := ⟨_, rfl⟩
noncomputable def fq_K (pc : Nat) : Nat → Jvm.ClassFile.Decoder Instr := (fq_Kp pc).1
theorem fq_u1 {c : ByteArray} {p : Nat} {x : UInt8} {r : List UInt8} (h : c.data.toList.drop p = x :: r) : Jvm.ClassFile.Reader.runAt (Jvm.ClassFile.Reader.u1 : Jvm.ClassFile.Decoder Nat) c p = .ok (x.toNat, p + 1) := by
  have hp : p < c.data.toList.length := by
    refine Nat.lt_of_not_le fun hle => ?_
    rw [List.drop_eq_nil_of_le hle] at h
    cases h
  have hs : p < c.size := hp
  have hx : c[p] = x := by
    have e := List.drop_eq_getElem_cons hp
    rw [e] at h
    exact (List.cons.inj h).1
  show (if h : p < c.size then _ else _ : Jvm.ClassFile.Decoder Nat) c p = _
  rw [dif_pos hs]
  show Except.ok (c[p].toNat, p + 1) = _
  rw [hx]
theorem fq_nx {c : ByteArray} {p : Nat} {x : UInt8} {r : List UInt8} (h : c.data.toList.drop p = x :: r) : c.data.toList.drop (p + 1) = r := by
  rw [← List.tail_drop, h]
  rfl
theorem fq_u2 {c : ByteArray} {p : Nat} {x y : UInt8} {r : List UInt8} (h : c.data.toList.drop p = x :: y :: r) : Jvm.ClassFile.Reader.runAt (Jvm.ClassFile.Reader.u2 : Jvm.ClassFile.Decoder Nat) c p = .ok (x.toNat * 256 + y.toNat, p + 1 + 1) := by
  have h1 := fq_u1 h
  have h2 := fq_u1 (fq_nx h)
  show Except.bind (Jvm.ClassFile.Reader.runAt (Jvm.ClassFile.Reader.u1 : Jvm.ClassFile.Decoder Nat) c p) (fun z => Except.bind (Jvm.ClassFile.Reader.runAt (Jvm.ClassFile.Reader.u1 : Jvm.ClassFile.Decoder Nat) c z.2) (fun w => .ok (z.1 * 256 + w.1, w.2))) = _
  rw [h1]
  show Except.bind (Jvm.ClassFile.Reader.runAt (Jvm.ClassFile.Reader.u1 : Jvm.ClassFile.Decoder Nat) c (p + 1)) _ = _
  rw [h2]
  rfl
theorem fq_s1 {c : ByteArray} {p : Nat} {x : UInt8} {r : List UInt8} (h : c.data.toList.drop p = x :: r) : Jvm.ClassFile.Reader.runAt (Jvm.ClassFile.Reader.s1 : Jvm.ClassFile.Decoder Int) c p = .ok (Jvm.ClassFile.Reader.signed 8 x.toNat, p + 1) := by
  have h1 := fq_u1 h
  show Except.bind (Jvm.ClassFile.Reader.runAt (Jvm.ClassFile.Reader.u1 : Jvm.ClassFile.Decoder Nat) c p) (fun z => .ok (Jvm.ClassFile.Reader.signed 8 z.1, z.2)) = _
  rw [h1]
  rfl
theorem fq_s2 {c : ByteArray} {p : Nat} {x y : UInt8} {r : List UInt8} (h : c.data.toList.drop p = x :: y :: r) : Jvm.ClassFile.Reader.runAt (Jvm.ClassFile.Reader.s2 : Jvm.ClassFile.Decoder Int) c p = .ok (Jvm.ClassFile.Reader.signed 16 (x.toNat * 256 + y.toNat), p + 1 + 1) := by
  have h1 := fq_u2 h
  show Except.bind (Jvm.ClassFile.Reader.runAt (Jvm.ClassFile.Reader.u2 : Jvm.ClassFile.Decoder Nat) c p) (fun z => .ok (Jvm.ClassFile.Reader.signed 16 z.1, z.2)) = _
  rw [h1]
  rfl
theorem fq_m {c : ByteArray} {pc v s : Nat} {q : Instr × Nat} (h : Jvm.ClassFile.Reader.runAt (Jvm.ClassFile.Reader.u1 : Jvm.ClassFile.Decoder Nat) c pc = .ok (v, s)) (k : Jvm.ClassFile.Reader.runAt (fq_K pc v) c s = .ok q) : decode c pc = .ok (q.1, q.2 - pc) := by
  have e : decode c pc = Except.bind (Except.bind (Jvm.ClassFile.Reader.runAt (Jvm.ClassFile.Reader.u1 : Jvm.ClassFile.Decoder Nat) c pc) (fun z => Jvm.ClassFile.Reader.runAt (fq_K pc z.1) c z.2)) (fun z => .ok (z.1, z.2 - pc)) := rfl
  rw [e, h]
  show Except.bind (Jvm.ClassFile.Reader.runAt (fq_K pc v) c s) _ = _
  rw [k]
  rfl
/-- an entry of the walk's table tells what decode tells -/
noncomputable def fq_E (e : Nat × (List UInt8 → Option (Instr × Nat))) : Prop := ∀ (r : List UInt8) (q : Instr × Nat), e.2 r = some q → ∀ (c : ByteArray) (pc : Nat) (x : UInt8), c.data.toList.drop pc = x :: r → x.toNat = e.1 → decode c pc = .ok q
noncomputable def fq_o1 (r : List UInt8) (g : Nat → Instr × Nat) : Option (Instr × Nat) := match r with
  | y :: _ => some (g y.toNat)
  | [] => none
noncomputable def fq_o2 (r : List UInt8) (g : Nat → Instr × Nat) : Option (Instr × Nat) := match r with
  | y :: z :: _ => some (g (y.toNat * 256 + z.toNat))
  | _ => none
noncomputable def fq_oi (r : List UInt8) : Option (Instr × Nat) := match r with
  | y :: z :: _ => some (Instr.iinc y.toNat (Jvm.ClassFile.Reader.signed 8 z.toNat), 3)
  | _ => none
theorem fq_A {op : Nat} {j : Instr} (hK : ∀ pc, fq_K pc op = Pure.pure j) : fq_E (op, fun _ => some (j, 1)) := by
  intro r q hq c pc x hA hx
  have hx : x.toNat = op := hx
  have hq : some (j, 1) = some q := hq
  cases hq
  have h := fq_u1 hA
  rw [hx] at h
  have k := fq_m (q := (j, pc + 1)) h (by
    rw [hK]
    rfl)
  rw [k]
  show Except.ok (j, pc + 1 - pc) = Except.ok (j, 1)
  rw [Nat.add_sub_cancel_left]
theorem fq_G {op : Nat} {α : Type} {m : Jvm.ClassFile.Decoder α} {f : α → Instr} (hK : ∀ pc, fq_K pc op = (m >>= fun y => Pure.pure (f y))) {c : ByteArray} {pc s : Nat} {x : UInt8} {r : List UInt8} {v : α} (hA : c.data.toList.drop pc = x :: r) (hx : x.toNat = op) (hm : Jvm.ClassFile.Reader.runAt m c (pc + 1) = .ok (v, s)) : decode c pc = .ok (f v, s - pc) := by
  have h := fq_u1 hA
  rw [hx] at h
  refine fq_m (q := (f v, s)) h ?_
  rw [hK]
  show Except.bind (Jvm.ClassFile.Reader.runAt m c (pc + 1)) (fun z => .ok (f z.1, z.2)) = _
  rw [hm]
  rfl
theorem fq_B {op : Nat} {f : Nat → Instr} (hK : ∀ pc, fq_K pc op = ((Jvm.ClassFile.Reader.u1 : Jvm.ClassFile.Decoder Nat) >>= fun y => Pure.pure (f y))) : fq_E (op, fun r => fq_o1 r (fun y => (f y, 2))) := by
  intro r q hq c pc x hA hx
  cases r with
  | nil => cases hq
  | cons y t =>
    have hq : some (f y.toNat, 2) = some q := hq
    cases hq
    rw [fq_G hK hA hx (fq_u1 (fq_nx hA)), show pc + 1 + 1 - pc = 2 by omega]
theorem fq_S {op : Nat} {f : Int → Instr} (hK : ∀ pc, fq_K pc op = ((Jvm.ClassFile.Reader.s1 : Jvm.ClassFile.Decoder Int) >>= fun y => Pure.pure (f y))) : fq_E (op, fun r => fq_o1 r (fun y => (f (Jvm.ClassFile.Reader.signed 8 y), 2))) := by
  intro r q hq c pc x hA hx
  cases r with
  | nil => cases hq
  | cons y t =>
    have hq : some (f (Jvm.ClassFile.Reader.signed 8 y.toNat), 2) = some q := hq
    cases hq
    rw [fq_G hK hA hx (fq_s1 (fq_nx hA)), show pc + 1 + 1 - pc = 2 by omega]
theorem fq_C {op : Nat} {f : Nat → Instr} (hK : ∀ pc, fq_K pc op = ((Jvm.ClassFile.Reader.u2 : Jvm.ClassFile.Decoder Nat) >>= fun y => Pure.pure (f y))) : fq_E (op, fun r => fq_o2 r (fun y => (f y, 3))) := by
  intro r q hq c pc x hA hx
  match r, hq, hA with
  | [], hq, _ => cases hq
  | [_], hq, _ => cases hq
  | y :: z :: t, hq, hA =>
    have hq : some (f (y.toNat * 256 + z.toNat), 3) = some q := hq
    cases hq
    rw [fq_G hK hA hx (fq_u2 (fq_nx hA)), show pc + 1 + 1 + 1 - pc = 3 by omega]
theorem fq_D {op : Nat} {f : Int → Instr} (hK : ∀ pc, fq_K pc op = ((Jvm.ClassFile.Reader.s2 : Jvm.ClassFile.Decoder Int) >>= fun y => Pure.pure (f y))) : fq_E (op, fun r => fq_o2 r (fun y => (f (Jvm.ClassFile.Reader.signed 16 y), 3))) := by
  intro r q hq c pc x hA hx
  match r, hq, hA with
  | [], hq, _ => cases hq
  | [_], hq, _ => cases hq
  | y :: z :: t, hq, hA =>
    have hq : some (f (Jvm.ClassFile.Reader.signed 16 (y.toNat * 256 + z.toNat)), 3) = some q := hq
    cases hq
    rw [fq_G hK hA hx (fq_s2 (fq_nx hA)), show pc + 1 + 1 + 1 - pc = 3 by omega]
theorem fq_I {op : Nat} (hK : ∀ pc, fq_K pc op = ((Jvm.ClassFile.Reader.u1 : Jvm.ClassFile.Decoder Nat) >>= fun y => (Jvm.ClassFile.Reader.s1 : Jvm.ClassFile.Decoder Int) >>= fun z => Pure.pure (Instr.iinc y z))) : fq_E (op, fq_oi) := by
  intro r q hq c pc x hA hx
  match r, hq, hA with
  | [], hq, _ => cases hq
  | [_], hq, _ => cases hq
  | y :: z :: t, hq, hA =>
    have hq : some (Instr.iinc y.toNat (Jvm.ClassFile.Reader.signed 8 z.toNat), 3) = some q := hq
    cases hq
    have hx : x.toNat = op := hx
    have h := fq_u1 hA
    rw [hx] at h
    have h1 := fq_u1 (fq_nx hA)
    have h2 := fq_s1 (fq_nx (fq_nx hA))
    rw [fq_m (q := (Instr.iinc y.toNat (Jvm.ClassFile.Reader.signed 8 z.toNat), pc + 1 + 1 + 1)) h (by
      rw [hK]
      show Except.bind (Jvm.ClassFile.Reader.runAt (Jvm.ClassFile.Reader.u1 : Jvm.ClassFile.Decoder Nat) c (pc + 1)) (fun z => Except.bind (Jvm.ClassFile.Reader.runAt (Jvm.ClassFile.Reader.s1 : Jvm.ClassFile.Decoder Int) c z.2) (fun w => .ok (Instr.iinc z.1 w.1, w.2))) = _
      rw [h1]
      show Except.bind (Jvm.ClassFile.Reader.runAt (Jvm.ClassFile.Reader.s1 : Jvm.ClassFile.Decoder Int) c (pc + 1 + 1)) _ = _
      rw [h2]
      rfl)]
    show Except.ok (_, pc + 1 + 1 + 1 - pc) = _
    rw [show pc + 1 + 1 + 1 - pc = 3 by omega]
noncomputable def fq_e0 : Nat × (List UInt8 → Option (Instr × Nat)) := (42, fun _ => some (.aload_n 0, 1))
theorem fq_p0 : fq_E fq_e0 := fq_A (fun _ => rfl)
noncomputable def fq_e1 : Nat × (List UInt8 → Option (Instr × Nat)) := (27, fun _ => some (.iload_n 1, 1))
theorem fq_p1 : fq_E fq_e1 := fq_A (fun _ => rfl)
noncomputable def fq_e2 : Nat × (List UInt8 → Option (Instr × Nat)) := (28, fun _ => some (.iload_n 2, 1))
theorem fq_p2 : fq_E fq_e2 := fq_A (fun _ => rfl)
noncomputable def fq_e3 : Nat × (List UInt8 → Option (Instr × Nat)) := (180, fun r => fq_o2 r (fun y => (.getfield y, 3)))
theorem fq_p3 : fq_E fq_e3 := fq_C (f := fun y => .getfield y) (fun _ => rfl)
noncomputable def fq_e4 : Nat × (List UInt8 → Option (Instr × Nat)) := (3, fun _ => some (.iconst 0, 1))
theorem fq_p4 : fq_E fq_e4 := fq_A (fun _ => rfl)
noncomputable def fq_e5 : Nat × (List UInt8 → Option (Instr × Nat)) := (29, fun _ => some (.iload_n 3, 1))
theorem fq_p5 : fq_E fq_e5 := fq_A (fun _ => rfl)
noncomputable def fq_e6 : Nat × (List UInt8 → Option (Instr × Nat)) := (46, fun _ => some (.iaload, 1))
theorem fq_p6 : fq_E fq_e6 := fq_A (fun _ => rfl)
noncomputable def fq_e7 : Nat × (List UInt8 → Option (Instr × Nat)) := (26, fun _ => some (.iload_n 0, 1))
theorem fq_p7 : fq_E fq_e7 := fq_A (fun _ => rfl)
noncomputable def fq_e8 : Nat × (List UInt8 → Option (Instr × Nat)) := (182, fun r => fq_o2 r (fun y => (.invokevirtual y, 3)))
theorem fq_p8 : fq_E fq_e8 := fq_C (f := fun y => .invokevirtual y) (fun _ => rfl)
noncomputable def fq_e9 : Nat × (List UInt8 → Option (Instr × Nat)) := (172, fun _ => some (.ireturn, 1))
theorem fq_p9 : fq_E fq_e9 := fq_A (fun _ => rfl)
noncomputable def fq_e10 : Nat × (List UInt8 → Option (Instr × Nat)) := (21, fun r => fq_o1 r (fun y => (.iload y, 2)))
theorem fq_p10 : fq_E fq_e10 := fq_B (f := fun y => .iload y) (fun _ => rfl)
noncomputable def fq_e11 : Nat × (List UInt8 → Option (Instr × Nat)) := (4, fun _ => some (.iconst 1, 1))
theorem fq_p11 : fq_E fq_e11 := fq_A (fun _ => rfl)
noncomputable def fq_e12 : Nat × (List UInt8 → Option (Instr × Nat)) := (96, fun _ => some (.iadd, 1))
theorem fq_p12 : fq_E fq_e12 := fq_A (fun _ => rfl)
noncomputable def fq_e13 : Nat × (List UInt8 → Option (Instr × Nat)) := (16, fun r => fq_o1 r (fun y => (.bipush (Jvm.ClassFile.Reader.signed 8 y), 2)))
theorem fq_p13 : fq_E fq_e13 := fq_S (f := fun y => .bipush y) (fun _ => rfl)
noncomputable def fq_e14 : Nat × (List UInt8 → Option (Instr × Nat)) := (5, fun _ => some (.iconst 2, 1))
theorem fq_p14 : fq_E fq_e14 := fq_A (fun _ => rfl)
noncomputable def fq_e15 : Nat × (List UInt8 → Option (Instr × Nat)) := (167, fun r => fq_o2 r (fun y => (.goto (Jvm.ClassFile.Reader.signed 16 y), 3)))
theorem fq_p15 : fq_E fq_e15 := fq_D (f := fun y => .goto y) (fun _ => rfl)
noncomputable def fq_e16 : Nat × (List UInt8 → Option (Instr × Nat)) := (61, fun _ => some (.istore_n 2, 1))
theorem fq_p16 : fq_E fq_e16 := fq_A (fun _ => rfl)
noncomputable def fq_e17 : Nat × (List UInt8 → Option (Instr × Nat)) := (62, fun _ => some (.istore_n 3, 1))
theorem fq_p17 : fq_E fq_e17 := fq_A (fun _ => rfl)
noncomputable def fq_e18 : Nat × (List UInt8 → Option (Instr × Nat)) := (181, fun r => fq_o2 r (fun y => (.putfield y, 3)))
theorem fq_p18 : fq_E fq_e18 := fq_C (f := fun y => .putfield y) (fun _ => rfl)
noncomputable def fq_e19 : Nat × (List UInt8 → Option (Instr × Nat)) := (153, fun r => fq_o2 r (fun y => (.ifCond .eq (Jvm.ClassFile.Reader.signed 16 y), 3)))
theorem fq_p19 : fq_E fq_e19 := fq_D (f := fun y => .ifCond .eq y) (fun _ => rfl)
noncomputable def fq_e20 : Nat × (List UInt8 → Option (Instr × Nat)) := (79, fun _ => some (.iastore, 1))
theorem fq_p20 : fq_E fq_e20 := fq_A (fun _ => rfl)
noncomputable def fq_e21 : Nat × (List UInt8 → Option (Instr × Nat)) := (43, fun _ => some (.aload_n 1, 1))
theorem fq_p21 : fq_E fq_e21 := fq_A (fun _ => rfl)
noncomputable def fq_e22 : Nat × (List UInt8 → Option (Instr × Nat)) := (162, fun r => fq_o2 r (fun y => (.if_icmp .ge (Jvm.ClassFile.Reader.signed 16 y), 3)))
theorem fq_p22 : fq_E fq_e22 := fq_D (f := fun y => .if_icmp .ge y) (fun _ => rfl)
noncomputable def fq_e23 : Nat × (List UInt8 → Option (Instr × Nat)) := (160, fun r => fq_o2 r (fun y => (.if_icmp .ne (Jvm.ClassFile.Reader.signed 16 y), 3)))
theorem fq_p23 : fq_E fq_e23 := fq_D (f := fun y => .if_icmp .ne y) (fun _ => rfl)
noncomputable def fq_e24 : Nat × (List UInt8 → Option (Instr × Nat)) := (44, fun _ => some (.aload_n 2, 1))
theorem fq_p24 : fq_E fq_e24 := fq_A (fun _ => rfl)
noncomputable def fq_e25 : Nat × (List UInt8 → Option (Instr × Nat)) := (154, fun r => fq_o2 r (fun y => (.ifCond .ne (Jvm.ClassFile.Reader.signed 16 y), 3)))
theorem fq_p25 : fq_E fq_e25 := fq_D (f := fun y => .ifCond .ne y) (fun _ => rfl)
noncomputable def fq_e26 : Nat × (List UInt8 → Option (Instr × Nat)) := (6, fun _ => some (.iconst 3, 1))
theorem fq_p26 : fq_E fq_e26 := fq_A (fun _ => rfl)
noncomputable def fq_e27 : Nat × (List UInt8 → Option (Instr × Nat)) := (132, fq_oi)
theorem fq_p27 : fq_E fq_e27 := fq_I (fun _ => rfl)
noncomputable def fq_e28 : Nat × (List UInt8 → Option (Instr × Nat)) := (7, fun _ => some (.iconst 4, 1))
theorem fq_p28 : fq_E fq_e28 := fq_A (fun _ => rfl)
noncomputable def fq_e29 : Nat × (List UInt8 → Option (Instr × Nat)) := (8, fun _ => some (.iconst 5, 1))
theorem fq_p29 : fq_E fq_e29 := fq_A (fun _ => rfl)
noncomputable def fq_e30 : Nat × (List UInt8 → Option (Instr × Nat)) := (45, fun _ => some (.aload_n 3, 1))
theorem fq_p30 : fq_E fq_e30 := fq_A (fun _ => rfl)
noncomputable def fq_e31 : Nat × (List UInt8 → Option (Instr × Nat)) := (2, fun _ => some (.iconst (-1), 1))
theorem fq_p31 : fq_E fq_e31 := fq_A (fun _ => rfl)
noncomputable def fq_e32 : Nat × (List UInt8 → Option (Instr × Nat)) := (60, fun _ => some (.istore_n 1, 1))
theorem fq_p32 : fq_E fq_e32 := fq_A (fun _ => rfl)
noncomputable def fq_e33 : Nat × (List UInt8 → Option (Instr × Nat)) := (59, fun _ => some (.istore_n 0, 1))
theorem fq_p33 : fq_E fq_e33 := fq_A (fun _ => rfl)
noncomputable def fq_e34 : Nat × (List UInt8 → Option (Instr × Nat)) := (87, fun _ => some (.pop, 1))
theorem fq_p34 : fq_E fq_e34 := fq_A (fun _ => rfl)
noncomputable def fq_e35 : Nat × (List UInt8 → Option (Instr × Nat)) := (104, fun _ => some (.imul, 1))
theorem fq_p35 : fq_E fq_e35 := fq_A (fun _ => rfl)
noncomputable def fq_e36 : Nat × (List UInt8 → Option (Instr × Nat)) := (100, fun _ => some (.isub, 1))
theorem fq_p36 : fq_E fq_e36 := fq_A (fun _ => rfl)
noncomputable def fq_e37 : Nat × (List UInt8 → Option (Instr × Nat)) := (50, fun _ => some (.aaload, 1))
theorem fq_p37 : fq_E fq_e37 := fq_A (fun _ => rfl)
noncomputable def fq_e38 : Nat × (List UInt8 → Option (Instr × Nat)) := (177, fun _ => some (.return_, 1))
theorem fq_p38 : fq_E fq_e38 := fq_A (fun _ => rfl)
noncomputable def fq_e39 : Nat × (List UInt8 → Option (Instr × Nat)) := (89, fun _ => some (.dup, 1))
theorem fq_p39 : fq_E fq_e39 := fq_A (fun _ => rfl)
noncomputable def fq_e40 : Nat × (List UInt8 → Option (Instr × Nat)) := (92, fun _ => some (.dup2, 1))
theorem fq_p40 : fq_E fq_e40 := fq_A (fun _ => rfl)
noncomputable def fq_e41 : Nat × (List UInt8 → Option (Instr × Nat)) := (112, fun _ => some (.irem, 1))
theorem fq_p41 : fq_E fq_e41 := fq_A (fun _ => rfl)
noncomputable def fq_e42 : Nat × (List UInt8 → Option (Instr × Nat)) := (126, fun _ => some (.iand, 1))
theorem fq_p42 : fq_E fq_e42 := fq_A (fun _ => rfl)
noncomputable def fq_e43 : Nat × (List UInt8 → Option (Instr × Nat)) := (51, fun _ => some (.baload, 1))
theorem fq_p43 : fq_E fq_e43 := fq_A (fun _ => rfl)
noncomputable def fq_e44 : Nat × (List UInt8 → Option (Instr × Nat)) := (122, fun _ => some (.ishr, 1))
theorem fq_p44 : fq_E fq_e44 := fq_A (fun _ => rfl)
noncomputable def fq_e45 : Nat × (List UInt8 → Option (Instr × Nat)) := (108, fun _ => some (.idiv, 1))
theorem fq_p45 : fq_E fq_e45 := fq_A (fun _ => rfl)
noncomputable def fq_e46 : Nat × (List UInt8 → Option (Instr × Nat)) := (120, fun _ => some (.ishl, 1))
theorem fq_p46 : fq_E fq_e46 := fq_A (fun _ => rfl)
noncomputable def fq_e47 : Nat × (List UInt8 → Option (Instr × Nat)) := (128, fun _ => some (.ior, 1))
theorem fq_p47 : fq_E fq_e47 := fq_A (fun _ => rfl)
noncomputable def fq_e48 : Nat × (List UInt8 → Option (Instr × Nat)) := (173, fun _ => some (.lreturn, 1))
theorem fq_p48 : fq_E fq_e48 := fq_A (fun _ => rfl)
noncomputable def fq_e49 : Nat × (List UInt8 → Option (Instr × Nat)) := (84, fun _ => some (.bastore, 1))
theorem fq_p49 : fq_E fq_e49 := fq_A (fun _ => rfl)
noncomputable def fq_e50 : Nat × (List UInt8 → Option (Instr × Nat)) := (133, fun _ => some (.i2l, 1))
theorem fq_p50 : fq_E fq_e50 := fq_A (fun _ => rfl)
noncomputable def fq_e51 : Nat × (List UInt8 → Option (Instr × Nat)) := (90, fun _ => some (.dup_x1, 1))
theorem fq_p51 : fq_E fq_e51 := fq_A (fun _ => rfl)
noncomputable def fq_e52 : Nat × (List UInt8 → Option (Instr × Nat)) := (116, fun _ => some (.ineg, 1))
theorem fq_p52 : fq_E fq_e52 := fq_A (fun _ => rfl)
noncomputable def fq_e53 : Nat × (List UInt8 → Option (Instr × Nat)) := (191, fun _ => some (.athrow, 1))
theorem fq_p53 : fq_E fq_e53 := fq_A (fun _ => rfl)
noncomputable def fq_e54 : Nat × (List UInt8 → Option (Instr × Nat)) := (190, fun _ => some (.arraylength, 1))
theorem fq_p54 : fq_E fq_e54 := fq_A (fun _ => rfl)
noncomputable def fq_e55 : Nat × (List UInt8 → Option (Instr × Nat)) := (9, fun _ => some (.lconst 0, 1))
theorem fq_p55 : fq_E fq_e55 := fq_A (fun _ => rfl)
noncomputable def fq_e56 : Nat × (List UInt8 → Option (Instr × Nat)) := (10, fun _ => some (.lconst 1, 1))
theorem fq_p56 : fq_E fq_e56 := fq_A (fun _ => rfl)
noncomputable def fq_e57 : Nat × (List UInt8 → Option (Instr × Nat)) := (75, fun _ => some (.astore_n 0, 1))
theorem fq_p57 : fq_E fq_e57 := fq_A (fun _ => rfl)
noncomputable def fq_e58 : Nat × (List UInt8 → Option (Instr × Nat)) := (76, fun _ => some (.astore_n 1, 1))
theorem fq_p58 : fq_E fq_e58 := fq_A (fun _ => rfl)
noncomputable def fq_e59 : Nat × (List UInt8 → Option (Instr × Nat)) := (77, fun _ => some (.astore_n 2, 1))
theorem fq_p59 : fq_E fq_e59 := fq_A (fun _ => rfl)
noncomputable def fq_e60 : Nat × (List UInt8 → Option (Instr × Nat)) := (78, fun _ => some (.astore_n 3, 1))
theorem fq_p60 : fq_E fq_e60 := fq_A (fun _ => rfl)
noncomputable def fq_e61 : Nat × (List UInt8 → Option (Instr × Nat)) := (80, fun _ => some (.lastore, 1))
theorem fq_p61 : fq_E fq_e61 := fq_A (fun _ => rfl)
noncomputable def fq_e62 : Nat × (List UInt8 → Option (Instr × Nat)) := (147, fun _ => some (.i2s, 1))
theorem fq_p62 : fq_E fq_e62 := fq_A (fun _ => rfl)
noncomputable def fq_e63 : Nat × (List UInt8 → Option (Instr × Nat)) := (145, fun _ => some (.i2b, 1))
theorem fq_p63 : fq_E fq_e63 := fq_A (fun _ => rfl)
noncomputable def fq_e64 : Nat × (List UInt8 → Option (Instr × Nat)) := (148, fun _ => some (.lcmp, 1))
theorem fq_p64 : fq_E fq_e64 := fq_A (fun _ => rfl)
noncomputable def fq_e65 : Nat × (List UInt8 → Option (Instr × Nat)) := (47, fun _ => some (.laload, 1))
theorem fq_p65 : fq_E fq_e65 := fq_A (fun _ => rfl)
noncomputable def fq_e66 : Nat × (List UInt8 → Option (Instr × Nat)) := (97, fun _ => some (.ladd, 1))
theorem fq_p66 : fq_E fq_e66 := fq_A (fun _ => rfl)
noncomputable def fq_e67 : Nat × (List UInt8 → Option (Instr × Nat)) := (54, fun r => fq_o1 r (fun y => (.istore y, 2)))
theorem fq_p67 : fq_E fq_e67 := fq_B (f := fun y => .istore y) (fun _ => rfl)
noncomputable def fq_e68 : Nat × (List UInt8 → Option (Instr × Nat)) := (18, fun r => fq_o1 r (fun y => (.ldc y, 2)))
theorem fq_p68 : fq_E fq_e68 := fq_B (f := fun y => .ldc y) (fun _ => rfl)
noncomputable def fq_e69 : Nat × (List UInt8 → Option (Instr × Nat)) := (25, fun r => fq_o1 r (fun y => (.aload y, 2)))
theorem fq_p69 : fq_E fq_e69 := fq_B (f := fun y => .aload y) (fun _ => rfl)
noncomputable def fq_e70 : Nat × (List UInt8 → Option (Instr × Nat)) := (58, fun r => fq_o1 r (fun y => (.astore y, 2)))
theorem fq_p70 : fq_E fq_e70 := fq_B (f := fun y => .astore y) (fun _ => rfl)
noncomputable def fq_e71 : Nat × (List UInt8 → Option (Instr × Nat)) := (22, fun r => fq_o1 r (fun y => (.lload y, 2)))
theorem fq_p71 : fq_E fq_e71 := fq_B (f := fun y => .lload y) (fun _ => rfl)
noncomputable def fq_e72 : Nat × (List UInt8 → Option (Instr × Nat)) := (55, fun r => fq_o1 r (fun y => (.lstore y, 2)))
theorem fq_p72 : fq_E fq_e72 := fq_B (f := fun y => .lstore y) (fun _ => rfl)
noncomputable def fq_e73 : Nat × (List UInt8 → Option (Instr × Nat)) := (184, fun r => fq_o2 r (fun y => (.invokestatic y, 3)))
theorem fq_p73 : fq_E fq_e73 := fq_C (f := fun y => .invokestatic y) (fun _ => rfl)
noncomputable def fq_e74 : Nat × (List UInt8 → Option (Instr × Nat)) := (183, fun r => fq_o2 r (fun y => (.invokespecial y, 3)))
theorem fq_p74 : fq_E fq_e74 := fq_C (f := fun y => .invokespecial y) (fun _ => rfl)
noncomputable def fq_e75 : Nat × (List UInt8 → Option (Instr × Nat)) := (187, fun r => fq_o2 r (fun y => (.new y, 3)))
theorem fq_p75 : fq_E fq_e75 := fq_C (f := fun y => .new y) (fun _ => rfl)
noncomputable def fq_e76 : Nat × (List UInt8 → Option (Instr × Nat)) := (19, fun r => fq_o2 r (fun y => (.ldc_w y, 3)))
theorem fq_p76 : fq_E fq_e76 := fq_C (f := fun y => .ldc_w y) (fun _ => rfl)
noncomputable def fq_e77 : Nat × (List UInt8 → Option (Instr × Nat)) := (17, fun r => fq_o2 r (fun y => (.sipush (Jvm.ClassFile.Reader.signed 16 y), 3)))
theorem fq_p77 : fq_E fq_e77 := fq_D (f := fun y => .sipush y) (fun _ => rfl)
noncomputable def fq_e78 : Nat × (List UInt8 → Option (Instr × Nat)) := (159, fun r => fq_o2 r (fun y => (.if_icmp .eq (Jvm.ClassFile.Reader.signed 16 y), 3)))
theorem fq_p78 : fq_E fq_e78 := fq_D (f := fun y => .if_icmp .eq y) (fun _ => rfl)
noncomputable def fq_e79 : Nat × (List UInt8 → Option (Instr × Nat)) := (158, fun r => fq_o2 r (fun y => (.ifCond .le (Jvm.ClassFile.Reader.signed 16 y), 3)))
theorem fq_p79 : fq_E fq_e79 := fq_D (f := fun y => .ifCond .le y) (fun _ => rfl)
noncomputable def fq_e80 : Nat × (List UInt8 → Option (Instr × Nat)) := (155, fun r => fq_o2 r (fun y => (.ifCond .lt (Jvm.ClassFile.Reader.signed 16 y), 3)))
theorem fq_p80 : fq_E fq_e80 := fq_D (f := fun y => .ifCond .lt y) (fun _ => rfl)
noncomputable def fq_e81 : Nat × (List UInt8 → Option (Instr × Nat)) := (163, fun r => fq_o2 r (fun y => (.if_icmp .gt (Jvm.ClassFile.Reader.signed 16 y), 3)))
theorem fq_p81 : fq_E fq_e81 := fq_D (f := fun y => .if_icmp .gt y) (fun _ => rfl)
noncomputable def fq_e82 : Nat × (List UInt8 → Option (Instr × Nat)) := (164, fun r => fq_o2 r (fun y => (.if_icmp .le (Jvm.ClassFile.Reader.signed 16 y), 3)))
theorem fq_p82 : fq_E fq_e82 := fq_D (f := fun y => .if_icmp .le y) (fun _ => rfl)
noncomputable def fq_e83 : Nat × (List UInt8 → Option (Instr × Nat)) := (161, fun r => fq_o2 r (fun y => (.if_icmp .lt (Jvm.ClassFile.Reader.signed 16 y), 3)))
theorem fq_p83 : fq_E fq_e83 := fq_D (f := fun y => .if_icmp .lt y) (fun _ => rfl)
noncomputable def fq_e84 : Nat × (List UInt8 → Option (Instr × Nat)) := (156, fun r => fq_o2 r (fun y => (.ifCond .ge (Jvm.ClassFile.Reader.signed 16 y), 3)))
theorem fq_p84 : fq_E fq_e84 := fq_D (f := fun y => .ifCond .ge y) (fun _ => rfl)
noncomputable def fq_e85 : Nat × (List UInt8 → Option (Instr × Nat)) := (157, fun r => fq_o2 r (fun y => (.ifCond .gt (Jvm.ClassFile.Reader.signed 16 y), 3)))
theorem fq_p85 : fq_E fq_e85 := fq_D (f := fun y => .ifCond .gt y) (fun _ => rfl)
noncomputable def fq_T : List (Nat × (List UInt8 → Option (Instr × Nat))) := [fq_e0, fq_e1, fq_e2, fq_e3, fq_e4, fq_e5, fq_e6, fq_e7, fq_e8, fq_e9, fq_e10, fq_e11, fq_e12, fq_e13, fq_e14, fq_e15, fq_e16, fq_e17, fq_e18, fq_e19, fq_e20, fq_e21, fq_e22, fq_e23, fq_e24, fq_e25, fq_e26, fq_e27, fq_e28, fq_e29, fq_e30, fq_e31, fq_e32, fq_e33, fq_e34, fq_e35, fq_e36, fq_e37, fq_e38, fq_e39, fq_e40, fq_e41, fq_e42, fq_e43, fq_e44, fq_e45, fq_e46, fq_e47, fq_e48, fq_e49, fq_e50, fq_e51, fq_e52, fq_e53, fq_e54, fq_e55, fq_e56, fq_e57, fq_e58, fq_e59, fq_e60, fq_e61, fq_e62, fq_e63, fq_e64, fq_e65, fq_e66, fq_e67, fq_e68, fq_e69, fq_e70, fq_e71, fq_e72, fq_e73, fq_e74, fq_e75, fq_e76, fq_e77, fq_e78, fq_e79, fq_e80, fq_e81, fq_e82, fq_e83, fq_e84, fq_e85]
theorem fq_T_ok : ∀ e ∈ fq_T, fq_E e := List.forall_mem_cons.mpr ⟨fq_p0, List.forall_mem_cons.mpr ⟨fq_p1, List.forall_mem_cons.mpr ⟨fq_p2, List.forall_mem_cons.mpr ⟨fq_p3, List.forall_mem_cons.mpr ⟨fq_p4, List.forall_mem_cons.mpr ⟨fq_p5, List.forall_mem_cons.mpr ⟨fq_p6, List.forall_mem_cons.mpr ⟨fq_p7, List.forall_mem_cons.mpr ⟨fq_p8, List.forall_mem_cons.mpr ⟨fq_p9, List.forall_mem_cons.mpr ⟨fq_p10, List.forall_mem_cons.mpr ⟨fq_p11, List.forall_mem_cons.mpr ⟨fq_p12, List.forall_mem_cons.mpr ⟨fq_p13, List.forall_mem_cons.mpr ⟨fq_p14, List.forall_mem_cons.mpr ⟨fq_p15, List.forall_mem_cons.mpr ⟨fq_p16, List.forall_mem_cons.mpr ⟨fq_p17, List.forall_mem_cons.mpr ⟨fq_p18, List.forall_mem_cons.mpr ⟨fq_p19, List.forall_mem_cons.mpr ⟨fq_p20, List.forall_mem_cons.mpr ⟨fq_p21, List.forall_mem_cons.mpr ⟨fq_p22, List.forall_mem_cons.mpr ⟨fq_p23, List.forall_mem_cons.mpr ⟨fq_p24, List.forall_mem_cons.mpr ⟨fq_p25, List.forall_mem_cons.mpr ⟨fq_p26, List.forall_mem_cons.mpr ⟨fq_p27, List.forall_mem_cons.mpr ⟨fq_p28, List.forall_mem_cons.mpr ⟨fq_p29, List.forall_mem_cons.mpr ⟨fq_p30, List.forall_mem_cons.mpr ⟨fq_p31, List.forall_mem_cons.mpr ⟨fq_p32, List.forall_mem_cons.mpr ⟨fq_p33, List.forall_mem_cons.mpr ⟨fq_p34, List.forall_mem_cons.mpr ⟨fq_p35, List.forall_mem_cons.mpr ⟨fq_p36, List.forall_mem_cons.mpr ⟨fq_p37, List.forall_mem_cons.mpr ⟨fq_p38, List.forall_mem_cons.mpr ⟨fq_p39, List.forall_mem_cons.mpr ⟨fq_p40, List.forall_mem_cons.mpr ⟨fq_p41, List.forall_mem_cons.mpr ⟨fq_p42, List.forall_mem_cons.mpr ⟨fq_p43, List.forall_mem_cons.mpr ⟨fq_p44, List.forall_mem_cons.mpr ⟨fq_p45, List.forall_mem_cons.mpr ⟨fq_p46, List.forall_mem_cons.mpr ⟨fq_p47, List.forall_mem_cons.mpr ⟨fq_p48, List.forall_mem_cons.mpr ⟨fq_p49, List.forall_mem_cons.mpr ⟨fq_p50, List.forall_mem_cons.mpr ⟨fq_p51, List.forall_mem_cons.mpr ⟨fq_p52, List.forall_mem_cons.mpr ⟨fq_p53, List.forall_mem_cons.mpr ⟨fq_p54, List.forall_mem_cons.mpr ⟨fq_p55, List.forall_mem_cons.mpr ⟨fq_p56, List.forall_mem_cons.mpr ⟨fq_p57, List.forall_mem_cons.mpr ⟨fq_p58, List.forall_mem_cons.mpr ⟨fq_p59, List.forall_mem_cons.mpr ⟨fq_p60, List.forall_mem_cons.mpr ⟨fq_p61, List.forall_mem_cons.mpr ⟨fq_p62, List.forall_mem_cons.mpr ⟨fq_p63, List.forall_mem_cons.mpr ⟨fq_p64, List.forall_mem_cons.mpr ⟨fq_p65, List.forall_mem_cons.mpr ⟨fq_p66, List.forall_mem_cons.mpr ⟨fq_p67, List.forall_mem_cons.mpr ⟨fq_p68, List.forall_mem_cons.mpr ⟨fq_p69, List.forall_mem_cons.mpr ⟨fq_p70, List.forall_mem_cons.mpr ⟨fq_p71, List.forall_mem_cons.mpr ⟨fq_p72, List.forall_mem_cons.mpr ⟨fq_p73, List.forall_mem_cons.mpr ⟨fq_p74, List.forall_mem_cons.mpr ⟨fq_p75, List.forall_mem_cons.mpr ⟨fq_p76, List.forall_mem_cons.mpr ⟨fq_p77, List.forall_mem_cons.mpr ⟨fq_p78, List.forall_mem_cons.mpr ⟨fq_p79, List.forall_mem_cons.mpr ⟨fq_p80, List.forall_mem_cons.mpr ⟨fq_p81, List.forall_mem_cons.mpr ⟨fq_p82, List.forall_mem_cons.mpr ⟨fq_p83, List.forall_mem_cons.mpr ⟨fq_p84, List.forall_mem_cons.mpr ⟨fq_p85, fun _ h => nomatch h⟩⟩⟩⟩⟩⟩⟩⟩⟩⟩⟩⟩⟩⟩⟩⟩⟩⟩⟩⟩⟩⟩⟩⟩⟩⟩⟩⟩⟩⟩⟩⟩⟩⟩⟩⟩⟩⟩⟩⟩⟩⟩⟩⟩⟩⟩⟩⟩⟩⟩⟩⟩⟩⟩⟩⟩⟩⟩⟩⟩⟩⟩⟩⟩⟩⟩⟩⟩⟩⟩⟩⟩⟩⟩⟩⟩⟩⟩⟩⟩⟩⟩⟩⟩⟩⟩
noncomputable def fq_lk (op : Nat) (r : List UInt8) (l : List (Nat × (List UInt8 → Option (Instr × Nat)))) : Option (Instr × Nat) := List.rec none (fun e _ ih => cond (Nat.beq e.1 op) (e.2 r) ih) l
theorem fq_lk_ok {op : Nat} {r : List UInt8} {q : Instr × Nat} : ∀ l : List (Nat × (List UInt8 → Option (Instr × Nat))), (∀ e ∈ l, fq_E e) → fq_lk op r l = some q → ∀ (c : ByteArray) (pc : Nat) (x : UInt8), c.data.toList.drop pc = x :: r → x.toNat = op → decode c pc = .ok q
  | [], _, h => by cases h
  | e :: l, hl, h => by
    intro c pc x hA hx
    have h : cond (Nat.beq e.1 op) (e.2 r) (fq_lk op r l) = some q := h
    cases hb : Nat.beq e.1 op with
    | true =>
      rw [hb] at h
      exact hl e (List.mem_cons_self ..) r q h c pc x hA (hx.trans (Nat.eq_of_beq_eq_true hb).symm)
    | false =>
      rw [hb] at h
      exact fq_lk_ok l (fun e he => hl e (List.mem_cons_of_mem _ he)) h c pc x hA hx
/-- a number, worked out -/
noncomputable def fq_nf (n : Nat) (f : Nat → Bool) : Bool := Nat.rec (f 0) (fun k _ => f (k + 1)) n
theorem fq_nf_ok (n : Nat) (f : Nat → Bool) : fq_nf n f = f n := by
  cases n with
  | zero => rfl
  | succ n => rfl
noncomputable def fq_1 (i : Nat) (x : UInt8) (r : List UInt8) (pc : Nat) : Bool := match rx_tb i pc with
  | none => true
  | some ins => match fq_nf x.toNat (fun op => match fq_lk op r fq_T with
    | some q => decide (q.1 = ins) && Nat.beq q.2 (rx_lenI ins)
    | none => rx_okP i pc) with
    | true => true
    | false => false
noncomputable def fq_go (i : Nat) (l : List UInt8) (pc : Nat) : Bool := List.rec (motive := fun _ => Nat → Bool) (fun pc => Nat.ble (rx_len i) pc) (fun x r ih pc => cond (fq_1 i x r pc) (fq_nf (pc + 1) ih) false) l pc
theorem fq_1_ok {i pc : Nat} {x : UInt8} {r : List UInt8} (hA : (rx_c i).data.toList.drop pc = x :: r) (h : fq_1 i x r pc = true) : rx_okP i pc = true := by
  unfold fq_1 at h
  unfold rx_okP
  cases ht : rx_tb i pc with
  | none => rfl
  | some ins =>
    rw [ht] at h
    dsimp only at h ⊢
    rw [fq_nf_ok] at h
    cases hl : fq_lk x.toNat r fq_T with
    | none =>
      rw [hl] at h
      dsimp only at h
      cases hk : rx_okP i pc with
      | false =>
        rw [hk] at h
        cases h
      | true =>
        unfold rx_okP at hk
        rw [ht] at hk
        exact hk
    | some q =>
      rw [hl] at h
      dsimp only at h
      cases hk : (decide (q.1 = ins) && Nat.beq q.2 (rx_lenI ins)) with
      | false =>
        rw [hk] at h
        cases h
      | true =>
        rw [fq_lk_ok fq_T fq_T_ok hl _ _ _ hA rfl]
        rw [Bool.and_eq_true] at hk
        show (decide (q.1 = ins) && (Nat.beq q.2 (rx_lenI ins) || rx_isw ins)) = true
        rw [hk.1, hk.2]
        rfl
theorem fq_go_ok {i : Nat} : ∀ (l : List UInt8) (pc : Nat), (rx_c i).data.toList.drop pc = l → fq_go i l pc = true → ∀ k, pc ≤ k → k < rx_len i → rx_okP i k = true
  | [], pc, _, h, k, h1, h2 => by
    have h : Nat.ble (rx_len i) pc = true := h
    have := Nat.le_of_ble_eq_true h
    omega
  | x :: r, pc, hA, h, k, h1, h2 => by
    have h : cond (fq_1 i x r pc) (fq_nf (pc + 1) (fq_go i r)) false = true := h
    cases hb : fq_1 i x r pc with
    | false =>
      rw [hb] at h
      cases h
    | true =>
      rw [hb, cond_true, fq_nf_ok] at h
      by_cases c : k = pc
      · rw [c]
        exact fq_1_ok hA hb
      · exact fq_go_ok r (pc + 1) (fq_nx hA) h k (by omega) h2
noncomputable def fq_ck (i : Nat) : Bool := fq_go i (rx_c i).data.toList 0
theorem fq_ck_ok {i : Nat} (h : fq_nf i fq_ck = true) : rx_okD i = true := by
  rw [fq_nf_ok] at h
  exact List.all_eq_true.mpr fun k hk => fq_go_ok _ 0 rfl h k (Nat.zero_le _) (List.mem_range.mp hk)
set_option maxRecDepth 100000 in
theorem rx_dk_0 : (List.range 25).all (fun k => fq_nf (0 + k) fq_ck) = true := by decide +kernel
set_option maxRecDepth 100000 in
theorem rx_dk_1 : (List.range 25).all (fun k => fq_nf (25 + k) fq_ck) = true := by decide +kernel
set_option maxRecDepth 100000 in
theorem rx_dk_2 : (List.range 25).all (fun k => fq_nf (50 + k) fq_ck) = true := by decide +kernel
set_option maxRecDepth 100000 in
theorem rx_dk_3 : (List.range 25).all (fun k => fq_nf (75 + k) fq_ck) = true := by decide +kernel
set_option maxRecDepth 100000 in
theorem rx_dk_4 : (List.range 25).all (fun k => fq_nf (100 + k) fq_ck) = true := by decide +kernel
set_option maxRecDepth 100000 in
theorem rx_dk_5 : (List.range 25).all (fun k => fq_nf (125 + k) fq_ck) = true := by decide +kernel
set_option maxRecDepth 100000 in
theorem rx_dk_6 : (List.range 25).all (fun k => fq_nf (150 + k) fq_ck) = true := by decide +kernel
set_option maxRecDepth 100000 in
theorem rx_dk_7 : (List.range 25).all (fun k => fq_nf (175 + k) fq_ck) = true := by decide +kernel
set_option maxRecDepth 100000 in
theorem rx_dk_8 : (List.range 25).all (fun k => fq_nf (200 + k) fq_ck) = true := by decide +kernel
set_option maxRecDepth 100000 in
theorem rx_dk_9 : (List.range 25).all (fun k => fq_nf (225 + k) fq_ck) = true := by decide +kernel
theorem rx_dk {i : Nat} (hi : i < rx_n) : rx_okD i = true := by
  have h := fun (b k : Nat) (hk : k < 25) (hf : (List.range 25).all (fun k => fq_nf (b + k) fq_ck) = true) => fq_ck_ok (List.all_eq_true.mp hf k (List.mem_range.mpr hk))
  have e : i = 25 * (i / 25) + i % 25 := (Nat.div_add_mod i 25).symm
  have hm : i % 25 < 25 := Nat.mod_lt _ (by decide)
  have hq : i / 25 < 10 := by
    have : i < 250 := hi
    omega
  rw [e]
  revert hm hq
  generalize i % 25 = k
  generalize i / 25 = q
  intro hm hq
  match q, hq with
  | 0, _ => exact h 0 k hm rx_dk_0
  | 1, _ => exact h 25 k hm rx_dk_1
  | 2, _ => exact h 50 k hm rx_dk_2
  | 3, _ => exact h 75 k hm rx_dk_3
  | 4, _ => exact h 100 k hm rx_dk_4
  | 5, _ => exact h 125 k hm rx_dk_5
  | 6, _ => exact h 150 k hm rx_dk_6
  | 7, _ => exact h 175 k hm rx_dk_7
  | 8, _ => exact h 200 k hm rx_dk_8
  | 9, _ => exact h 225 k hm rx_dk_9
  | c + 10, hc => exact absurd hc (by omega)
