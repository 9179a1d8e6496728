
/-! the data held against the claim's code and tables -/
noncomputable def rx_tc (k : Nat) : List Cond := (cond (Nat.blt k 4) (cond (Nat.blt k 2) (cond (Nat.blt k 1) (k2_sels lw_privs) tables_1_1) (cond (Nat.blt k 3) tables_1_2 tables_1_3)) (cond (Nat.blt k 6) (cond (Nat.blt k 5) tables_1_4 tables_1_5) (cond (Nat.blt k 7) tables_1_6 (cond (Nat.blt k 8) tables_1_7 []))))
noncomputable def rx_tt (p : Nat) (w : Cond) : Bool := decide ((rx_tc (p / 1000))[p % 1000]? = some w)
noncomputable def rx_okT (t : Nat) (ty : Option FieldType) : Bool := match ty with
  | some .int => Nat.beq t 0
  | some .boolean => Nat.beq t 1
  | some (.object _) => Nat.beq t 2
  | some (.array _) => Nat.beq t 2
  | _ => false
noncomputable def rx_okF (c x : Nat) : Bool := match rx_fl c x with
  | none => true
  | some (ci, k, t, fin) => match vwCl[ci]? with
    | none => false
    | some r => Nat.blt k r.2.2 && decide ((r.2.1 k).1 = r.1) && decide ((r.2.1 k).2.2.2 = fin) && decide ((rx_sty ci)[k]? = some t) &&
      (cond (rx_flp c x).2 (rx_tt (rx_flp c x).1 (.fieldLinkNest (rx_cls c) x r.1 (r.2.1 k).2.1 (r.2.1 k).2.2.1 "HourValley") && !(Nat.beq ci c)) (rx_tt (rx_flp c x).1 (.fieldLink (rx_cls c) x r.1 (r.2.1 k).2.1 (r.2.1 k).2.2.1)))
noncomputable def rx_hh (j : Nat) : List (Nat × Nat × Nat × Nat) := (cond (Nat.blt j 248) (cond (Nat.beq j 247) [(0, 13, 16, 13)] []) (cond (Nat.beq j 248) [(0, 9, 12, 13), (0, 9, 16, 19)] []))
/-- which instruction a kind of call goes by -/
noncomputable def rx_kw (k : Nat) : Nat := match k with
  | 0 => 0
  | 1 => 1
  | 2 => 2
  | 3 => 0
  | 4 => 1
  | 5 => 2
  | 6 => 1
  | _ => 9
noncomputable def rx_okC (kind j n : Nat) : Bool := Nat.beq n (rx_na j) && Nat.beq (rx_kw kind) (rx_knd j) && rx_cal j && (Nat.beq kind 6 == rx_cat j)
noncomputable def rx_okM (c x : Nat) : Bool := match rx_ml c x with
  | none => true
  | some (kind, j, n) => match rx_mlp c x with
    | (p0, p1, p2, p3, _) => match kind with
      | 0 => rx_okC kind j n && rx_tt p0 (.methodLink (rx_cls c) x (rx_y j))
      | 1 => rx_okC kind j n && rx_tt p0 (.methodLink (rx_cls c) x (rx_y j))
      | 2 => rx_okC kind j n && rx_tt p0 (.methodLink (rx_cls c) x (rx_y j))
      | 3 => rx_okC kind j n && rx_tt p0 (.methodLinkNest (rx_cls c) x (rx_y j) "HourValley")
      | 4 => rx_okC kind j n && rx_tt p0 (.methodLinkNest (rx_cls c) x (rx_y j) "HourValley")
      | 5 => rx_okC kind j n && rx_tt p0 (.methodLinkNest (rx_cls c) x (rx_y j) "HourValley")
      | 6 => rx_okC kind j n && rx_tt p0 (.methodLink (rx_cls c) x (rx_y j))
      | 10 => rx_tt p0 (.methodLink (rx_cls c) x Lib.Math.max.name) && rx_tt p1 (.static Lib.Math.max.name) && rx_tt p2 (.initialized "java/lang/Math") && rx_tt p3 (.code Lib.Math.max.name Lib.Math.max.code 2 (some .int))
      | 11 => rx_tt p0 (.methodLink (rx_cls c) x Lib.Math.min.name) && rx_tt p1 (.static Lib.Math.min.name) && rx_tt p2 (.initialized "java/lang/Math") && rx_tt p3 (.code Lib.Math.min.name Lib.Math.min.code 2 (some .int))
      | 12 => rx_tt p0 (.methodLink (rx_cls c) x arraycopyName) && rx_tt p1 (.native arraycopyName) && rx_tt p2 (.static arraycopyName) && rx_tt p3 (.initialized "java/lang/System")
      | 13 => rx_tt p0 (.methodLink (rx_cls c) x Lib.objectInit) && rx_tt p1 (.instanceMethod Lib.objectInit) && rx_tt p2 (.code Lib.objectInit ⟨#[0xb1]⟩ 1 none)
      | _ => false
noncomputable def rx_okJ (j : Nat) : Bool := plainName (rx_y j).cls && decide ((rx_y j).cls = rx_cls (rx_cn j)) && (!rx_ini j || decide ((rx_y j).name = "<init>")) && Nat.ble (rx_mx j) 45 &&
  (!rx_cal j || (decide ((rx_y j).cls ≠ "java/lang/invoke/MethodHandle") && decide ((rx_y j).cls ≠ "java/lang/invoke/VarHandle") && decide ((parseMethodDescriptor (rx_y j).desc).map (fun d => d.parameters.length) = some (rx_na j)) &&
    (match rx_knd j with
      | 0 => rx_tt (rx_jp j).1 (.instanceMethod (rx_y j)) && rx_tt (rx_jp j).2.1 (.selects (rx_y j).cls (rx_y j) (rx_y j)) && Nat.blt (rx_cn j) 12
      | 1 => rx_tt (rx_jp j).1 (.static (rx_y j))
      | _ => rx_tt (rx_jp j).1 (.instanceMethod (rx_y j)) && rx_ini j && decide (rx_rt j = none) && Nat.blt (rx_cn j) 12) &&
    rx_tt (rx_jp j).2.2.1 (.initialized (rx_y j).cls) && rx_tt (rx_jp j).2.2.2 (cond (rx_cat j) (.codeWith (rx_y j) (rx_c j) (rx_mx j) (rx_rt j) (rx_hh j)) (.code (rx_y j) (rx_c j) (rx_mx j) (rx_rt j))) &&
    Nat.ble (rx_na j + (cond (Nat.beq (rx_knd j) 1) 0 1)) (rx_mx j)))
noncomputable def rx_okN (c x : Nat) : Bool := match rx_nw c x with
  | some (.inl ci) => match vwCl[ci]? with
    | none => false
    | some r => rx_tt (rx_nwp c x).1 (.classLink (rx_cls c) x r.1) && rx_tt (rx_nwp c x).2.1 (.instantiable r.1 r.2.2) && rx_tt (rx_nwp c x).2.2 (.initialized r.1)
  | _ => true
noncomputable def rx_okW (c x : Nat) : Bool := match rx_mn c x with
  | none => true
  | some p => rx_tt p (.classLink (rx_cls c) x "[[I")

set_option maxRecDepth 100000 in
theorem rx_fk : (List.range 14).all (fun c => (List.range rx_mi).all (fun x => rx_okF c x)) = true := by decide +kernel
set_option maxRecDepth 100000 in
theorem rx_mk_0 : (List.range rx_mi).all (fun x => rx_okM 0 x) = true := by decide +kernel
set_option maxRecDepth 100000 in
theorem rx_mk_1 : (List.range rx_mi).all (fun x => rx_okM 1 x) = true := by decide +kernel
set_option maxRecDepth 100000 in
theorem rx_mk_2 : (List.range rx_mi).all (fun x => rx_okM 2 x) = true := by decide +kernel
set_option maxRecDepth 100000 in
theorem rx_mk_3 : (List.range rx_mi).all (fun x => rx_okM 3 x) = true := by decide +kernel
set_option maxRecDepth 100000 in
theorem rx_mk_4 : (List.range rx_mi).all (fun x => rx_okM 4 x) = true := by decide +kernel
set_option maxRecDepth 100000 in
theorem rx_mk_5 : (List.range rx_mi).all (fun x => rx_okM 5 x) = true := by decide +kernel
set_option maxRecDepth 100000 in
theorem rx_mk_6 : (List.range rx_mi).all (fun x => rx_okM 6 x) = true := by decide +kernel
set_option maxRecDepth 100000 in
theorem rx_mk_7 : (List.range rx_mi).all (fun x => rx_okM 7 x) = true := by decide +kernel
set_option maxRecDepth 100000 in
theorem rx_mk_8 : (List.range rx_mi).all (fun x => rx_okM 8 x) = true := by decide +kernel
set_option maxRecDepth 100000 in
theorem rx_mk_9 : (List.range rx_mi).all (fun x => rx_okM 9 x) = true := by decide +kernel
set_option maxRecDepth 100000 in
theorem rx_mk_10 : (List.range rx_mi).all (fun x => rx_okM 10 x) = true := by decide +kernel
set_option maxRecDepth 100000 in
theorem rx_mk_11 : (List.range rx_mi).all (fun x => rx_okM 11 x) = true := by decide +kernel
set_option maxRecDepth 100000 in
theorem rx_mk_12 : (List.range rx_mi).all (fun x => rx_okM 12 x) = true := by decide +kernel
set_option maxRecDepth 100000 in
theorem rx_mk_13 : (List.range rx_mi).all (fun x => rx_okM 13 x) = true := by decide +kernel
set_option maxRecDepth 100000 in
theorem rx_nk : (List.range 14).all (fun c => (List.range rx_mi).all (fun x => rx_okN c x && rx_okW c x)) = true := by decide +kernel
