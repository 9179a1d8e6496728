theorem rx_mk {c x : Nat} (hc : c < 14) (hx : x < rx_mi) : rx_okM c x = true := by
  have h := fun (f : Nat → Bool) (hf : (List.range rx_mi).all f = true) => List.all_eq_true.mp hf x (List.mem_range.mpr hx)
  match c, hc with
  | 0, _ => exact h _ rx_mk_0
  | 1, _ => exact h _ rx_mk_1
  | 2, _ => exact h _ rx_mk_2
  | 3, _ => exact h _ rx_mk_3
  | 4, _ => exact h _ rx_mk_4
  | 5, _ => exact h _ rx_mk_5
  | 6, _ => exact h _ rx_mk_6
  | 7, _ => exact h _ rx_mk_7
  | 8, _ => exact h _ rx_mk_8
  | 9, _ => exact h _ rx_mk_9
  | 10, _ => exact h _ rx_mk_10
  | 11, _ => exact h _ rx_mk_11
  | 12, _ => exact h _ rx_mk_12
  | 13, _ => exact h _ rx_mk_13
  | c + 14, hc => exact absurd hc (by omega)
set_option maxRecDepth 100000 in
theorem rx_yk : (List.range 12).all (fun c => match vwCl[c]? with | some r => decide (r.1 = rx_cls c) && decide ((rx_sty c).length = r.2.2) && (List.range r.2.2).all (fun k => rx_okT ((rx_sty c).getD k 9) (parseFieldDescriptor (r.2.1 k).2.2.1)) | none => false) = true := by decide +kernel
set_option maxRecDepth 100000 in
theorem rx_uk : (List.range 12).all (fun c => match vwCl[c]? with | some r => (u_ws r.1 r.2.1 r.2.2).all (fun w => decide (w ∈ lw_tbl) && goodWord w) && (List.range r.2.2).all (fun a => (List.range r.2.2).all (fun b => Nat.beq a b || decide ((r.2.1 a).2.1 ≠ (r.2.1 b).2.1))) | none => false) = true := by decide +kernel
set_option maxRecDepth 100000 in
theorem rx_jk_0 : (List.range 25).all (fun k => rx_okJ (0 + k)) = true := by decide +kernel
set_option maxRecDepth 100000 in
theorem rx_jk_1 : (List.range 25).all (fun k => rx_okJ (25 + k)) = true := by decide +kernel
set_option maxRecDepth 100000 in
theorem rx_jk_2 : (List.range 25).all (fun k => rx_okJ (50 + k)) = true := by decide +kernel
set_option maxRecDepth 100000 in
theorem rx_jk_3 : (List.range 25).all (fun k => rx_okJ (75 + k)) = true := by decide +kernel
set_option maxRecDepth 100000 in
theorem rx_jk_4 : (List.range 25).all (fun k => rx_okJ (100 + k)) = true := by decide +kernel
set_option maxRecDepth 100000 in
theorem rx_jk_5 : (List.range 25).all (fun k => rx_okJ (125 + k)) = true := by decide +kernel
set_option maxRecDepth 100000 in
theorem rx_jk_6 : (List.range 25).all (fun k => rx_okJ (150 + k)) = true := by decide +kernel
set_option maxRecDepth 100000 in
theorem rx_jk_7 : (List.range 25).all (fun k => rx_okJ (175 + k)) = true := by decide +kernel
set_option maxRecDepth 100000 in
theorem rx_jk_8 : (List.range 25).all (fun k => rx_okJ (200 + k)) = true := by decide +kernel
set_option maxRecDepth 100000 in
theorem rx_jk_9 : (List.range 25).all (fun k => rx_okJ (225 + k)) = true := by decide +kernel
theorem rx_jk {i : Nat} (hi : i < rx_n) : rx_okJ i = true := by
  have h := fun (b k : Nat) (hk : k < 25) (hf : (List.range 25).all (fun k => rx_okJ (b + k)) = true) => List.all_eq_true.mp hf k (List.mem_range.mpr hk)
  have e : i = 25 * (i / 25) + i % 25 := (Nat.div_add_mod i 25).symm
  have hm : i % 25 < 25 := Nat.mod_lt _ (by decide)
  have hq : i / 25 < 10 := by
    have : i < 250 := hi
    omega
  rw [e]
  revert hm hq
  generalize i % 25 = k
  generalize i / 25 = q
  intro hm hq
  match q, hq with
  | 0, _ => exact h 0 k hm rx_jk_0
  | 1, _ => exact h 25 k hm rx_jk_1
  | 2, _ => exact h 50 k hm rx_jk_2
  | 3, _ => exact h 75 k hm rx_jk_3
  | 4, _ => exact h 100 k hm rx_jk_4
  | 5, _ => exact h 125 k hm rx_jk_5
  | 6, _ => exact h 150 k hm rx_jk_6
  | 7, _ => exact h 175 k hm rx_jk_7
  | 8, _ => exact h 200 k hm rx_jk_8
  | 9, _ => exact h 225 k hm rx_jk_9
  | c + 10, hc => exact absurd hc (by omega)
theorem rx_tc_in {k : Nat} {w : Cond} (h : w ∈ rx_tc k) : w ∈ lw_tbl := by
  unfold rx_tc at h
  unfold lw_tbl tables_1
  simp only [Bool.cond_eq_ite] at h
  repeat' (split at h)
  all_goals simp only [List.mem_append]
  all_goals first
    | (cases h; done)
    | simp [h]
