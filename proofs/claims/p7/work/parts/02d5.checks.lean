set_option maxRecDepth 100000 in
theorem rx_jk_45 : (List.range 5).all (fun k => rx_okJ (225 + k)) = true := by decide +kernel
set_option maxRecDepth 100000 in
theorem rx_jk_46 : (List.range 5).all (fun k => rx_okJ (230 + k)) = true := by decide +kernel
set_option maxRecDepth 100000 in
theorem rx_jk_47 : (List.range 5).all (fun k => rx_okJ (235 + k)) = true := by decide +kernel
set_option maxRecDepth 100000 in
theorem rx_jk_48 : (List.range 5).all (fun k => rx_okJ (240 + k)) = true := by decide +kernel
set_option maxRecDepth 100000 in
theorem rx_jk_49 : (List.range 5).all (fun k => rx_okJ (245 + k)) = true := by decide +kernel
theorem rx_jk {i : Nat} (hi : i < rx_n) : rx_okJ i = true := by
  have h := fun (b k : Nat) (hk : k < 5) (hf : (List.range 5).all (fun k => rx_okJ (b + k)) = true) => List.all_eq_true.mp hf k (List.mem_range.mpr hk)
  have e : i = 5 * (i / 5) + i % 5 := (Nat.div_add_mod i 5).symm
  have hm : i % 5 < 5 := Nat.mod_lt _ (by decide)
  have hq : i / 5 < 50 := by
    have : i < 250 := hi
    omega
  rw [e]
  revert hm hq
  generalize i % 5 = k
  generalize i / 5 = q
  intro hm hq
  match q, hq with
  | 0, _ => exact h 0 k hm rx_jk_0
  | 1, _ => exact h 5 k hm rx_jk_1
  | 2, _ => exact h 10 k hm rx_jk_2
  | 3, _ => exact h 15 k hm rx_jk_3
  | 4, _ => exact h 20 k hm rx_jk_4
  | 5, _ => exact h 25 k hm rx_jk_5
  | 6, _ => exact h 30 k hm rx_jk_6
  | 7, _ => exact h 35 k hm rx_jk_7
  | 8, _ => exact h 40 k hm rx_jk_8
  | 9, _ => exact h 45 k hm rx_jk_9
  | 10, _ => exact h 50 k hm rx_jk_10
  | 11, _ => exact h 55 k hm rx_jk_11
  | 12, _ => exact h 60 k hm rx_jk_12
  | 13, _ => exact h 65 k hm rx_jk_13
  | 14, _ => exact h 70 k hm rx_jk_14
  | 15, _ => exact h 75 k hm rx_jk_15
  | 16, _ => exact h 80 k hm rx_jk_16
  | 17, _ => exact h 85 k hm rx_jk_17
  | 18, _ => exact h 90 k hm rx_jk_18
  | 19, _ => exact h 95 k hm rx_jk_19
  | 20, _ => exact h 100 k hm rx_jk_20
  | 21, _ => exact h 105 k hm rx_jk_21
  | 22, _ => exact h 110 k hm rx_jk_22
  | 23, _ => exact h 115 k hm rx_jk_23
  | 24, _ => exact h 120 k hm rx_jk_24
  | 25, _ => exact h 125 k hm rx_jk_25
  | 26, _ => exact h 130 k hm rx_jk_26
  | 27, _ => exact h 135 k hm rx_jk_27
  | 28, _ => exact h 140 k hm rx_jk_28
  | 29, _ => exact h 145 k hm rx_jk_29
  | 30, _ => exact h 150 k hm rx_jk_30
  | 31, _ => exact h 155 k hm rx_jk_31
  | 32, _ => exact h 160 k hm rx_jk_32
  | 33, _ => exact h 165 k hm rx_jk_33
  | 34, _ => exact h 170 k hm rx_jk_34
  | 35, _ => exact h 175 k hm rx_jk_35
  | 36, _ => exact h 180 k hm rx_jk_36
  | 37, _ => exact h 185 k hm rx_jk_37
  | 38, _ => exact h 190 k hm rx_jk_38
  | 39, _ => exact h 195 k hm rx_jk_39
  | 40, _ => exact h 200 k hm rx_jk_40
  | 41, _ => exact h 205 k hm rx_jk_41
  | 42, _ => exact h 210 k hm rx_jk_42
  | 43, _ => exact h 215 k hm rx_jk_43
  | 44, _ => exact h 220 k hm rx_jk_44
  | 45, _ => exact h 225 k hm rx_jk_45
  | 46, _ => exact h 230 k hm rx_jk_46
  | 47, _ => exact h 235 k hm rx_jk_47
  | 48, _ => exact h 240 k hm rx_jk_48
  | 49, _ => exact h 245 k hm rx_jk_49
  | c + 50, hc => exact absurd hc (by omega)
theorem rx_tc_in {k : Nat} {w : Cond} (h : w ∈ rx_tc k) : w ∈ lw_tbl := by
  unfold rx_tc at h
  unfold lw_tbl tables_1
  simp only [Bool.cond_eq_ite] at h
  repeat' (split at h)
  all_goals simp only [List.mem_append]
  all_goals first
    | (cases h; done)
    | simp [h]
