theorem rx_mk {c x : Nat} (hc : c < 14) (hx : x < rx_mi) : rx_okM c x = true := by
  have h := fun (f : Nat → Bool) (hf : (List.range rx_mi).all f = true) => List.all_eq_true.mp hf x (List.mem_range.mpr hx)
  match c, hc with
  | 0, _ => exact h _ rx_mk_0
  | 1, _ => exact h _ rx_mk_1
  | 2, _ => exact h _ rx_mk_2
  | 3, _ => exact h _ rx_mk_3
  | 4, _ => exact h _ rx_mk_4
  | 5, _ => exact h _ rx_mk_5
  | 6, _ => exact h _ rx_mk_6
  | 7, _ => exact h _ rx_mk_7
  | 8, _ => exact h _ rx_mk_8
  | 9, _ => exact h _ rx_mk_9
  | 10, _ => exact h _ rx_mk_10
  | 11, _ => exact h _ rx_mk_11
  | 12, _ => exact h _ rx_mk_12
  | 13, _ => exact h _ rx_mk_13
  | c + 14, hc => exact absurd hc (by omega)
set_option maxRecDepth 100000 in
theorem rx_yk : (List.range 12).all (fun c => match vwCl[c]? with | some r => decide (r.1 = rx_cls c) && decide ((rx_sty c).length = r.2.2) && (List.range r.2.2).all (fun k => rx_okT ((rx_sty c).getD k 9) (parseFieldDescriptor (r.2.1 k).2.2.1)) | none => false) = true := by decide +kernel
set_option maxRecDepth 100000 in
theorem rx_uk : (List.range 12).all (fun c => match vwCl[c]? with | some r => (u_ws r.1 r.2.1 r.2.2).all (fun w => decide (w ∈ lw_tbl) && goodWord w) && (List.range r.2.2).all (fun a => (List.range r.2.2).all (fun b => Nat.beq a b || decide ((r.2.1 a).2.1 ≠ (r.2.1 b).2.1))) | none => false) = true := by decide +kernel
set_option maxRecDepth 100000 in
theorem rx_jk_0 : (List.range 5).all (fun k => rx_okJ (0 + k)) = true := by decide +kernel
set_option maxRecDepth 100000 in
theorem rx_jk_1 : (List.range 5).all (fun k => rx_okJ (5 + k)) = true := by decide +kernel
set_option maxRecDepth 100000 in
theorem rx_jk_2 : (List.range 5).all (fun k => rx_okJ (10 + k)) = true := by decide +kernel
set_option maxRecDepth 100000 in
theorem rx_jk_3 : (List.range 5).all (fun k => rx_okJ (15 + k)) = true := by decide +kernel
set_option maxRecDepth 100000 in
theorem rx_jk_4 : (List.range 5).all (fun k => rx_okJ (20 + k)) = true := by decide +kernel
set_option maxRecDepth 100000 in
theorem rx_jk_5 : (List.range 5).all (fun k => rx_okJ (25 + k)) = true := by decide +kernel
set_option maxRecDepth 100000 in
theorem rx_jk_6 : (List.range 5).all (fun k => rx_okJ (30 + k)) = true := by decide +kernel
set_option maxRecDepth 100000 in
theorem rx_jk_7 : (List.range 5).all (fun k => rx_okJ (35 + k)) = true := by decide +kernel
set_option maxRecDepth 100000 in
theorem rx_jk_8 : (List.range 5).all (fun k => rx_okJ (40 + k)) = true := by decide +kernel
set_option maxRecDepth 100000 in
theorem rx_jk_9 : (List.range 5).all (fun k => rx_okJ (45 + k)) = true := by decide +kernel
set_option maxRecDepth 100000 in
theorem rx_jk_10 : (List.range 5).all (fun k => rx_okJ (50 + k)) = true := by decide +kernel
set_option maxRecDepth 100000 in
theorem rx_jk_11 : (List.range 5).all (fun k => rx_okJ (55 + k)) = true := by decide +kernel
set_option maxRecDepth 100000 in
theorem rx_jk_12 : (List.range 5).all (fun k => rx_okJ (60 + k)) = true := by decide +kernel
set_option maxRecDepth 100000 in
theorem rx_jk_13 : (List.range 5).all (fun k => rx_okJ (65 + k)) = true := by decide +kernel
set_option maxRecDepth 100000 in
theorem rx_jk_14 : (List.range 5).all (fun k => rx_okJ (70 + k)) = true := by decide +kernel
set_option maxRecDepth 100000 in
theorem rx_jk_15 : (List.range 5).all (fun k => rx_okJ (75 + k)) = true := by decide +kernel
set_option maxRecDepth 100000 in
theorem rx_jk_16 : (List.range 5).all (fun k => rx_okJ (80 + k)) = true := by decide +kernel
set_option maxRecDepth 100000 in
theorem rx_jk_17 : (List.range 5).all (fun k => rx_okJ (85 + k)) = true := by decide +kernel
set_option maxRecDepth 100000 in
theorem rx_jk_18 : (List.range 5).all (fun k => rx_okJ (90 + k)) = true := by decide +kernel
set_option maxRecDepth 100000 in
theorem rx_jk_19 : (List.range 5).all (fun k => rx_okJ (95 + k)) = true := by decide +kernel
set_option maxRecDepth 100000 in
theorem rx_jk_20 : (List.range 5).all (fun k => rx_okJ (100 + k)) = true := by decide +kernel
set_option maxRecDepth 100000 in
theorem rx_jk_21 : (List.range 5).all (fun k => rx_okJ (105 + k)) = true := by decide +kernel
set_option maxRecDepth 100000 in
theorem rx_jk_22 : (List.range 5).all (fun k => rx_okJ (110 + k)) = true := by decide +kernel
set_option maxRecDepth 100000 in
theorem rx_jk_23 : (List.range 5).all (fun k => rx_okJ (115 + k)) = true := by decide +kernel
set_option maxRecDepth 100000 in
theorem rx_jk_24 : (List.range 5).all (fun k => rx_okJ (120 + k)) = true := by decide +kernel
