/-! the core: every instruction that keeps memory -/
noncomputable def ax_nl (pc : Nat) (ls : List (Option Value)) (st : List Value) : ax_O := .inl (some (.inr (.inr (.inl (pc, ls, st)))))
/-- none: not such an instruction -/
noncomputable def ax_pins (E : ax_E) (ins : Instr) (pc : Nat) (ls : List (Option Value)) (st : List Value) : Option ax_O := match ins with
  | .iconst n => some (ax_nx (pc + 1) ls (.int (Int32.ofInt n) :: st))
  | .bipush n => some (ax_nx (pc + 2) ls (.int (Int8.ofInt n).toInt32 :: st))
  | .sipush n => some (ax_nx (pc + 3) ls (.int (Int16.ofInt n).toInt32 :: st))
  | .lconst n => some (ax_nx (pc + 1) ls (.long (Int64.ofNat (n : Nat)) :: st))
  | .iload_n k => some (ax_ld ls k 0 (pc + 1) st)
  | .iload k => some (ax_ld ls k 0 (pc + 2) st)
  | .aload_n k => some (ax_ld ls k 1 (pc + 1) st)
  | .aload k => some (ax_ld ls k 1 (pc + 2) st)
  | .lload_n k => some (ax_ld ls k 2 (pc + 1) st)
  | .lload k => some (ax_ld ls k 2 (pc + 2) st)
  | .istore_n k => some (ax_sto ls k 0 (pc + 1) st)
  | .istore k => some (ax_sto ls k 0 (pc + 2) st)
  | .astore_n k => some (ax_sto ls k 1 (pc + 1) st)
  | .astore k => some (ax_sto ls k 1 (pc + 2) st)
  | .lstore_n k => some (ax_sto ls k 2 (pc + 1) st)
  | .lstore k => some (ax_sto ls k 2 (pc + 2) st)
  | .iadd => some (ax_bin E (fun x y => x + y) ax_bAdd (pc + 1) ls st)
  | .isub => some (ax_bin E (fun x y => x - y) ax_bSub (pc + 1) ls st)
  | .imul => some (ax_bin E (fun x y => x * y) ax_bMul (pc + 1) ls st)
  | .iand => some (ax_bin E (fun x y => x &&& y) ax_bAnd (pc + 1) ls st)
  | .ior => some (ax_bin E (fun x y => x ||| y) ax_bAny (pc + 1) ls st)
  | .ishl => some (ax_bin E (fun x y => x <<< (y &&& 31)) ax_bAny (pc + 1) ls st)
  | .ishr => some (ax_bin E (fun x y => x >>> (y &&& 31)) ax_bAny (pc + 1) ls st)
  | .idiv => some (ax_dv E (fun x y => x / y) ax_bAny (pc + 1) ls st)
  | .irem => some (ax_dv E (fun x y => x - x / y * y) ax_bRem (pc + 1) ls st)
  | .ineg => some (ax_un E (fun x => -x) (pc + 1) ls st)
  | .i2b => some (ax_un E (fun x => x.toInt8.toInt32) (pc + 1) ls st)
  | .i2s => some (ax_un E (fun x => x.toInt16.toInt32) (pc + 1) ls st)
  | .i2l => some (match st with
    | x :: r => cond (sx_isI x) (ax_nl (pc + 1) ls r) ax_no
    | _ => ax_no)
  | .ladd => some (match st with
    | y :: x :: r => cond (ax_sh 2 y && ax_sh 2 x) (ax_nl (pc + 1) ls r) ax_no
    | _ => ax_no)
  | .lcmp => some (match st with
    | y :: x :: r => cond (ax_sh 2 y && ax_sh 2 x) (ax_nw (pc + 1) ls r ax_free) ax_no
    | _ => ax_no)
  | .dup => some (match st with
    | w :: r => cond (Nat.beq w.category 1) (ax_nx (pc + 1) ls (w :: w :: r)) ax_no
    | _ => ax_no)
  | .pop => some (match st with
    | w :: r => cond (Nat.beq w.category 1) (ax_nx (pc + 1) ls r) ax_no
    | _ => ax_no)
  | .dup_x1 => some (match st with
    | w :: u :: r => cond (Nat.beq w.category 1 && Nat.beq u.category 1) (ax_nx (pc + 1) ls (w :: u :: w :: r)) ax_no
    | _ => ax_no)
  | .dup2 => some (match st with
    | w :: u :: r => cond (Nat.beq w.category 1 && Nat.beq u.category 1) (ax_nx (pc + 1) ls (w :: u :: w :: u :: r)) ax_no
    | _ => ax_no)
  | .goto off => some (ax_jmp pc off ls st)
  | .ifCond c off => some (match st with
    | x :: r => ax_br E c x (.int 0) pc off ls r
    | _ => ax_no)
  | .if_icmp c off => some (match st with
    | y :: x :: r => ax_br E c x y pc off ls r
    | _ => ax_no)
  | .tableswitch d lo hi offs => some (ax_tsw E d lo hi offs pc ls st)
  | .lookupswitch d ps => some (ax_lsw E d ps pc ls st)
  | _ => none
section AXI
variable {X : Nat × (Nat → Int32)} {i : Nat} {v : ax_V} {E : ax_E} {a : rx_K} {M : rx_M} {pc : Nat} {ls : List (Option Value)} {st r : List Value} {R : ax_R} {o : ax_O}
theorem ax_vL {w : Value} (h : ax_sh 2 w = true) : ∃ z, ax_v v w = .long z := by
  cases w with
  | long x => exact ⟨x, rfl⟩
  | double x => exact ⟨_, rfl⟩
  | _ => cases h
theorem ax_nl_ok {z : Int64} (h : ax_nl pc ls st = .inl (some R)) : ax_rel v a M R (rx_nx pc (ax_ls v ls) (.long z :: st.map (ax_v v)) a M) := by
  unfold ax_nl at h
  cases h
  exact ⟨z, rfl⟩
set_option maxHeartbeats 4000000 in
theorem ax_pins_ok (hE : ax_ok v E) {ins : Instr} (h0 : ax_pins E ins pc ls st = some o) (h : o = .inl (some R)) : ax_rel v a M R (rx_ins X i ins pc (ax_ls v ls) (st.map (ax_v v)) a M) := by
  cases ins with
  | iconst n => cases h0; exact ax_nx_ok h
  | bipush n => cases h0; exact ax_nx_ok h
  | sipush n => cases h0; exact ax_nx_ok h
  | lconst n => cases h0; exact ax_nx_ok h
  | iload_n k => cases h0; exact ax_ld_ok h
  | iload k => cases h0; exact ax_ld_ok h
  | aload_n k => cases h0; exact ax_ld_ok h
  | aload k => cases h0; exact ax_ld_ok h
  | lload_n k => cases h0; exact ax_ld_ok h
  | lload k => cases h0; exact ax_ld_ok h
  | istore_n k => cases h0; exact ax_sto_ok h
  | istore k => cases h0; exact ax_sto_ok h
  | astore_n k => cases h0; exact ax_sto_ok h
  | astore k => cases h0; exact ax_sto_ok h
  | lstore_n k => cases h0; exact ax_sto_ok h
  | lstore k => cases h0; exact ax_sto_ok h
  | iadd => cases h0; exact ax_bin_ok hE (fun _ _ hx hy => ax_bAdd_ok hE hx hy) h
  | isub => cases h0; exact ax_bin_ok hE (fun _ _ hx hy => ax_bSub_ok hE hx hy) h
  | imul => cases h0; exact ax_bin_ok hE (fun _ _ hx hy => ax_bMul_ok hE hx hy) h
  | iand => cases h0; exact ax_bin_ok hE (fun _ _ hx hy => ax_bAnd_ok hE hx hy) h
  | ior => cases h0; exact ax_bin_ok hE (fun _ _ _ _ => ax_free_ok _) h
  | ishl => cases h0; exact ax_bin_ok hE (fun _ _ _ _ => ax_free_ok _) h
  | ishr => cases h0; exact ax_bin_ok hE (fun _ _ _ _ => ax_free_ok _) h
  | idiv =>
    cases h0
    obtain ⟨y, x, r, e, hn, k⟩ := ax_dv_ok hE (fun _ _ _ _ => ax_free_ok _) h
    rw [e]
    show ax_rel v a M R (if y = 0 then none else _)
    rw [if_neg hn]
    exact k
  | irem =>
    cases h0
    obtain ⟨y, x, r, e, hn, k⟩ := ax_dv_ok hE (fun _ _ hx hy => ax_bRem_ok hE hx hy) h
    rw [e]
    show ax_rel v a M R (if y = 0 then none else _)
    rw [if_neg hn]
    exact k
  | ineg =>
    cases h0
    obtain ⟨x, r, e, k⟩ := ax_un_ok hE h
    rw [e]
    exact k
  | i2b =>
    cases h0
    obtain ⟨x, r, e, k⟩ := ax_un_ok hE h
    rw [e]
    exact k
  | i2s =>
    cases h0
    obtain ⟨x, r, e, k⟩ := ax_un_ok hE h
    rw [e]
    exact k
  | i2l =>
    cases h0
    match st, h with
    | [], h => exact (ax_no_no h).elim
    | w :: r, h =>
      obtain ⟨hc, h⟩ := sx_cT (b := sx_isI w) ax_non h
      rw [List.map_cons, ax_vI hc]
      exact ax_nl_ok h
  | ladd =>
    cases h0
    match st, h with
    | [], h => exact (ax_no_no h).elim
    | [_], h => exact (ax_no_no h).elim
    | y :: x :: r, h =>
      obtain ⟨hc, h⟩ := sx_cT (b := ax_sh 2 y && ax_sh 2 x) ax_non h
      rw [Bool.and_eq_true] at hc
      obtain ⟨y', hy⟩ := ax_vL (v := v) hc.1
      obtain ⟨x', hx⟩ := ax_vL (v := v) hc.2
      rw [List.map_cons, List.map_cons, hy, hx]
      exact ax_nl_ok h
  | lcmp =>
    cases h0
    match st, h with
    | [], h => exact (ax_no_no h).elim
    | [_], h => exact (ax_no_no h).elim
    | y :: x :: r, h =>
      obtain ⟨hc, h⟩ := sx_cT (b := ax_sh 2 y && ax_sh 2 x) ax_non h
      rw [Bool.and_eq_true] at hc
      obtain ⟨y', hy⟩ := ax_vL (v := v) hc.1
      obtain ⟨x', hx⟩ := ax_vL (v := v) hc.2
      rw [List.map_cons, List.map_cons, hy, hx]
      exact ax_nw_ok h (ax_free_ok _)
  | dup =>
    cases h0
    match st, h with
    | [], h => exact (ax_no_no h).elim
    | w :: r, h =>
      obtain ⟨hc, h⟩ := sx_cT (b := Nat.beq w.category 1) ax_non h
      show ax_rel v a M R (cond (Nat.beq (ax_v v w).category 1) (rx_nx (pc + 1) (ax_ls v ls) (ax_v v w :: ax_v v w :: r.map (ax_v v)) a M) none)
      rw [ax_v_cat, hc]
      exact ax_nx_ok h
  | pop =>
    cases h0
    match st, h with
    | [], h => exact (ax_no_no h).elim
    | w :: r, h =>
      obtain ⟨hc, h⟩ := sx_cT (b := Nat.beq w.category 1) ax_non h
      show ax_rel v a M R (cond (Nat.beq (ax_v v w).category 1) (rx_nx (pc + 1) (ax_ls v ls) (r.map (ax_v v)) a M) none)
      rw [ax_v_cat, hc]
      exact ax_nx_ok h
  | dup_x1 =>
    cases h0
    match st, h with
    | [], h => exact (ax_no_no h).elim
    | [_], h => exact (ax_no_no h).elim
    | w :: u :: r, h =>
      obtain ⟨hc, h⟩ := sx_cT (b := Nat.beq w.category 1 && Nat.beq u.category 1) ax_non h
      show ax_rel v a M R (cond (Nat.beq (ax_v v w).category 1 && Nat.beq (ax_v v u).category 1) (rx_nx (pc + 1) (ax_ls v ls) (ax_v v w :: ax_v v u :: ax_v v w :: r.map (ax_v v)) a M) none)
      rw [ax_v_cat, ax_v_cat, hc]
      exact ax_nx_ok h
  | dup2 =>
    cases h0
    match st, h with
    | [], h => exact (ax_no_no h).elim
    | [_], h => exact (ax_no_no h).elim
    | w :: u :: r, h =>
      obtain ⟨hc, h⟩ := sx_cT (b := Nat.beq w.category 1 && Nat.beq u.category 1) ax_non h
      show ax_rel v a M R (cond (Nat.beq (ax_v v w).category 1 && Nat.beq (ax_v v u).category 1) (rx_nx (pc + 1) (ax_ls v ls) (ax_v v w :: ax_v v u :: ax_v v w :: ax_v v u :: r.map (ax_v v)) a M) none)
      rw [ax_v_cat, ax_v_cat, hc]
      exact ax_nx_ok h
  | goto off => cases h0; exact ax_jmp_ok h
  | ifCond c off =>
    cases h0
    match st, h with
    | [], h => exact (ax_no_no h).elim
    | w :: r, h =>
      obtain ⟨x', y', hx, hy, k⟩ := ax_br_ok hE h
      cases hy
      rw [List.map_cons, hx]
      cases c <;> exact k
  | if_icmp c off =>
    cases h0
    match st, h with
    | [], h => exact (ax_no_no h).elim
    | [_], h => exact (ax_no_no h).elim
    | y :: x :: r, h =>
      obtain ⟨x', y', hx, hy, k⟩ := ax_br_ok hE h
      rw [List.map_cons, List.map_cons, hx, hy]
      cases c <;> exact k
  | tableswitch d lo hi offs =>
    cases h0
    obtain ⟨x, r, e, k⟩ := ax_tsw_ok hE h
    rw [e]
    exact k
  | lookupswitch d ps =>
    cases h0
    obtain ⟨x, r, e, k⟩ := ax_lsw_ok hE h
    rw [e]
    exact k
  | _ => cases h0
end AXI
