noncomputable def rx_lenI (i : Instr) : Nat := match i with
  | .iload _ => 2 | .aload _ => 2 | .lload _ => 2 | .istore _ => 2 | .astore _ => 2 | .lstore _ => 2 | .bipush _ => 2 | .ldc _ => 2 | .newarray _ => 2
  | .sipush _ => 3 | .iinc _ _ => 3 | .ifCond _ _ => 3 | .if_icmp _ _ => 3 | .goto _ => 3 | .getfield _ => 3 | .putfield _ => 3 | .invokevirtual _ => 3 | .invokespecial _ => 3 | .invokestatic _ => 3 | .new _ => 3 | .ldc_w _ => 3
  | .multianewarray _ _ => 4
  | _ => 1
noncomputable def rx_isw (i : Instr) : Bool := match i with
  | .tableswitch _ _ _ _ => true
  | .lookupswitch _ _ => true
  | _ => false
noncomputable def rx_okP (i pc : Nat) : Bool := match rx_tb i pc with
  | none => true
  | some ins => match decode (rx_c i) pc with
    | .ok (j, n) => decide (j = ins) && (Nat.beq n (rx_lenI ins) || rx_isw ins)
    | _ => false
noncomputable def rx_okD (i : Nat) : Bool := (List.range (rx_len i)).all (rx_okP i)
set_option maxRecDepth 100000 in
theorem rx_dk_0 : (List.range 25).all (fun k => rx_okD (0 + k)) = true := by decide +kernel
set_option maxRecDepth 100000 in
theorem rx_dk_1 : (List.range 25).all (fun k => rx_okD (25 + k)) = true := by decide +kernel
set_option maxRecDepth 100000 in
theorem rx_dk_2 : (List.range 25).all (fun k => rx_okD (50 + k)) = true := by decide +kernel
set_option maxRecDepth 100000 in
theorem rx_dk_3 : (List.range 25).all (fun k => rx_okD (75 + k)) = true := by decide +kernel
set_option maxRecDepth 100000 in
theorem rx_dk_4 : (List.range 25).all (fun k => rx_okD (100 + k)) = true := by decide +kernel
