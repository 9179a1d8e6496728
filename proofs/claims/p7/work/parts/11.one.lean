/-! one step that stays in the frame -/
theorem rx_dec {i pc : Nat} {ins : Instr} (h : rx_tb i pc = some ins) : i < rx_n ∧ ∃ n, decode (rx_c i) pc = .ok (ins, n) ∧ (n = rx_lenI ins ∨ rx_isw ins = true) := by
  unfold rx_tb at h
  cases hb : (Nat.blt i rx_n && Nat.blt pc (rx_len i)) with
  | false => rw [hb] at h; cases h
  | true =>
    have h0 := hb
    rw [Bool.and_eq_true] at hb
    have h1 := rx_dk (Nat.blt_eq.mp hb.1)
    have h2 := List.all_eq_true.mp h1 pc (List.mem_range.mpr (Nat.blt_eq.mp hb.2))
    have h3 : rx_tb i pc = some ins := by
      unfold rx_tb
      rw [h0]
      rw [h0] at h
      exact h
    unfold rx_okP at h2
    rw [h3] at h2
    dsimp only at h2
    refine ⟨Nat.blt_eq.mp hb.1, ?_⟩
    split at h2
    · rename_i j n hj
      rw [Bool.and_eq_true, Bool.or_eq_true] at h2
      have e : j = ins := of_decide_eq_true h2.1
      subst e
      refine ⟨n, hj, ?_⟩
      rcases h2.2 with q | q
      · exact Or.inl (Nat.eq_of_beq_eq_true q)
      · exact Or.inr q
    · cases h2
theorem rx_dec1 {i pc : Nat} {ins : Instr} (h : rx_tb i pc = some ins) (hs : rx_isw ins = false) : decode (rx_c i) pc = .ok (ins, rx_lenI ins) := by
  obtain ⟨-, n, h1, h2⟩ := rx_dec h
  rcases h2 with h2 | h2
  · rw [← h2]; exact h1
  · rw [hs] at h2; cases h2
noncomputable def rx_acs : Prop := (∀ t, rx_aty t < 4 → Cond.arrayClass (newarray.typeOf t) ∈ rx_B)
theorem rx_acs_ok : rx_acs := by
  intro t ht
  have h : ∀ w ∈ [Cond.arrayClass .int, Cond.arrayClass .boolean, Cond.arrayClass .long], w ∈ lw_tbl := by decide +kernel
  cases t with
  | int => exact rx_B_mem (h (.arrayClass .int) (by simp)) rfl
  | boolean => exact rx_B_mem (h (.arrayClass .boolean) (by simp)) rfl
  | long => exact rx_B_mem (h (.arrayClass .long) (by simp)) rfl
  | _ => exact absurd ht (by decide)
section RXO
variable {X : Nat × (Nat → Int32)} {p : Program} {l : Launch} {e : Env} {R : Room} {s : State} {m : MethodId} {args : Array Value} {below : List Frame} {meth : Method} {c : Code} {Q : State → Prop} {i d : Nat} {A : Nat → Prop} {D : va_G} {I : rx_I} {k0 : Nat × Nat} {ρ0 : Nat → Nat} {n0 : Nat}
variable {pc : Nat} {ls : List (Option Value)} {st r : List Value} {a : rx_K} {M : rx_M}
theorem rx_row_ld {sh : Nat} {v : Value} {ρ : Nat → Nat} (h : (sh = 0 ∧ ∃ x, v = .int x) ∨ (sh = 1 ∧ ∃ x, v = .ref x) ∨ (sh = 2 ∧ ∃ x, v = .long x)) : (sh = 0 ∧ ∃ x, rx_tr ρ v = .int x) ∨ (sh = 1 ∧ ∃ x, rx_tr ρ v = .ref x) ∨ (sh = 2 ∧ ∃ x, rx_tr ρ v = .long x) := by
  rcases h with ⟨h1, x, rfl⟩ | ⟨h1, x, rfl⟩ | ⟨h1, x, rfl⟩
  · exact Or.inl ⟨h1, x, rfl⟩
  · exact Or.inr (Or.inl ⟨h1, ρ x, rfl⟩)
  · exact Or.inr (Or.inr ⟨h1, x, rfl⟩)
theorem rx_p_cons {v : Value} {w : Value} (hv : rx_rk a.1 v → rx_rk a.1 w) {r : List Value} : (∀ z ∈ v :: r, rx_rk a.1 z) → (∀ z, some z ∈ ls → rx_rk a.1 z) → ∀ z ∈ w :: r, rx_rk a.1 z := fun h _ => rx_cs (hv (rx_hd1 h)) (rx_tl h)
theorem rx_one (S : rx_St p R s m args meth c i d A D I) {g : rx_C} (h : rx_stp X i (pc, ls, st, a, M) = some (.inl g)) (hc : g.2.2.2.1.2.1 ≤ k0.1 + R.cells) (hs : g.2.2.2.1.2.2 ≤ k0.2 + R.slots) (kk : rx_WA X p l e R s m args below meth c Q i A D I k0 ρ0 n0 g) : rx_WA X p l e R s m args below meth c Q i A D I k0 ρ0 n0 (pc, ls, st, a, M) := by
  unfold rx_stp at h
  dsimp only at h
  split at h
  · cases h
  · rename_i ins ht
    have hd := rx_dec1 (i := i) (pc := pc) ht
    obtain ⟨-, nn, hdn, -⟩ := rx_dec ht
    unfold rx_ins at h
    split at h
    -- iconst bipush sipush lconst
    · unfold rx_nx at h; cases h
      exact rx_w _ _ (fun h1 _ => rx_cs rx_rk_i h1) (fun ρ H locs lsr cells slots _ hk => lv_iconst S.1 S.2.1 (hd rfl) rfl hk) kk
    · unfold rx_nx at h; cases h
      exact rx_w _ _ (fun h1 _ => rx_cs rx_rk_i h1) (fun ρ H locs lsr cells slots _ hk => lv_bipush S.1 S.2.1 (hd rfl) rfl hk) kk
    · unfold rx_nx at h; cases h
      exact rx_w _ _ (fun h1 _ => rx_cs rx_rk_i h1) (fun ρ H locs lsr cells slots _ hk => lv_sipush S.1 S.2.1 (hd rfl) rfl hk) kk
    · unfold rx_nx at h; cases h
      exact rx_w _ _ (fun h1 _ => rx_cs rx_rk_l h1) (fun ρ H locs lsr cells slots _ hk => lv_lconst S.1 S.2.1 (hd rfl) rfl hk) kk
    -- loads
    · refine rx_load h (fun ρ H locs lsr cells slots v hv hsh hk => ?_) kk
      rcases hsh with ⟨-, x, rfl⟩ | ⟨q, -⟩ | ⟨q, -⟩
      · exact lv_iload_n S.1 S.2.1 (hd rfl) rfl hv hk
      · cases q
      · cases q
    · refine rx_load h (fun ρ H locs lsr cells slots v hv hsh hk => ?_) kk
      rcases hsh with ⟨-, x, rfl⟩ | ⟨q, -⟩ | ⟨q, -⟩
      · exact lv_iload S.1 S.2.1 (hd rfl) hv hk
      · cases q
      · cases q
    · refine rx_load h (fun ρ H locs lsr cells slots v hv hsh hk => ?_) kk
      rcases hsh with ⟨q, -⟩ | ⟨-, x, rfl⟩ | ⟨q, -⟩
      · cases q
      · exact lv_aload_n S.1 S.2.1 (hd rfl) rfl hv hk
      · cases q
    · refine rx_load h (fun ρ H locs lsr cells slots v hv hsh hk => ?_) kk
      rcases hsh with ⟨q, -⟩ | ⟨-, x, rfl⟩ | ⟨q, -⟩
      · cases q
      · exact lv_aload S.1 S.2.1 (hd rfl) hv hk
      · cases q
    · refine rx_load h (fun ρ H locs lsr cells slots v hv hsh hk => ?_) kk
      rcases hsh with ⟨q, -⟩ | ⟨q, -⟩ | ⟨-, x, rfl⟩
      · cases q
      · cases q
      · exact lv_lload_n S.1 S.2.1 (hd rfl) rfl hv hk
    · refine rx_load h (fun ρ H locs lsr cells slots v hv hsh hk => ?_) kk
      rcases hsh with ⟨q, -⟩ | ⟨q, -⟩ | ⟨-, x, rfl⟩
      · cases q
      · cases q
      · exact lv_lload S.1 S.2.1 (hd rfl) hv hk
    -- stores
    · obtain ⟨v, r, rfl, ⟨-, hk, ⟨x, rfl⟩, rfl⟩ | ⟨q, -⟩ | ⟨q, -⟩⟩ := rx_sto_ok h
      · exact rx_stor1 hk (fun ρ H locs lsr cells slots hl hk' k9 => lv_istore_n S.1 S.2.1 (hd rfl) rfl hl hk' rfl k9) kk
      · cases q
      · cases q
    · obtain ⟨v, r, rfl, ⟨-, hk, ⟨x, rfl⟩, rfl⟩ | ⟨q, -⟩ | ⟨q, -⟩⟩ := rx_sto_ok h
      · exact rx_stor1 hk (fun ρ H locs lsr cells slots hl hk' k9 => lv_istore S.1 S.2.1 (hd rfl) hl hk' rfl k9) kk
      · cases q
      · cases q
    · obtain ⟨v, r, rfl, ⟨q, -⟩ | ⟨-, hk, ⟨x, rfl⟩, rfl⟩ | ⟨q, -⟩⟩ := rx_sto_ok h
      · cases q
      · exact rx_stor1 hk (fun ρ H locs lsr cells slots hl hk' k9 => lv_astore_n S.1 S.2.1 (hd rfl) rfl hl hk' rfl k9) kk
      · cases q
    · obtain ⟨v, r, rfl, ⟨q, -⟩ | ⟨-, hk, ⟨x, rfl⟩, rfl⟩ | ⟨q, -⟩⟩ := rx_sto_ok h
      · cases q
      · exact rx_stor1 hk (fun ρ H locs lsr cells slots hl hk' k9 => lv_astore S.1 S.2.1 (hd rfl) hl hk' rfl k9) kk
      · cases q
    · obtain ⟨v, r, rfl, ⟨q, -⟩ | ⟨q, -⟩ | ⟨-, hk, ⟨x, rfl⟩, rfl⟩⟩ := rx_sto_ok h
      · cases q
      · cases q
      · exact rx_stor2 hk (fun ρ H locs lsr cells slots hl hk' k9 => lv_lstore_n S.1 S.2.1 (hd rfl) rfl hl hk' rfl k9) kk
    · obtain ⟨v, r, rfl, ⟨q, -⟩ | ⟨q, -⟩ | ⟨-, hk, ⟨x, rfl⟩, rfl⟩⟩ := rx_sto_ok h
      · cases q
      · cases q
      · exact rx_stor2 hk (fun ρ H locs lsr cells slots hl hk' k9 => lv_lstore S.1 S.2.1 (hd rfl) hl hk' rfl k9) kk
    -- iinc
    · rename_i k n
      split at h
      · rename_i x hx
        unfold rx_nx at h; cases h
        intro ρ H locs lsr cells slots hρ hD hcl hsl
        have hl := hD.2.2.2.1
        have hkl : k < rx_mx i := by rw [← hl.1]; exact (List.getElem?_eq_some_iff.mp hx).1
        have hmem : (k, Value.int x) ∈ rx_lp ρ ls := rx_lp_mem.mpr ⟨.int x, hx, rfl⟩
        obtain ⟨k9, hk9⟩ := List.getElem?_of_mem hmem
        refine lv_iinc S.1 S.2.1 (hd rfl) (rx_lv_has hl) hk9 rfl hkl rfl (fun lsr' h' => ?_)
        refine kk ρ H locs lsr' cells slots hρ (hD.loc (rx_lv_s1 (v := .int (x + Int32.ofInt n)) hl.1 hkl h') (fun w hw => ?_) hD.st) hcl hsl
        rcases rx_s1_mem hw with q | q
        · rw [q]; trivial
        · exact hD.2.2.2.2.2.2.1 w q
      · cases h
    -- two ints
    · exact rx_bin1 h (fun H locs lsr cells slots x y rest hk => lv_iadd S.1 S.2.1 (hd rfl) hk) kk
    · exact rx_bin1 h (fun H locs lsr cells slots x y rest hk => lv_isub S.1 S.2.1 (hd rfl) hk) kk
    · exact rx_bin1 h (fun H locs lsr cells slots x y rest hk => lv_imul S.1 S.2.1 (hd rfl) hk) kk
    · exact rx_bin1 h (fun H locs lsr cells slots x y rest hk => lv_iand S.1 S.2.1 (hd rfl) hk) kk
    · exact rx_bin1 h (fun H locs lsr cells slots x y rest hk => lv_ior S.1 S.2.1 (hd rfl) hk) kk
    · exact rx_bin1 h (fun H locs lsr cells slots x y rest hk => lv_ishl S.1 S.2.1 (hd rfl) hk) kk
    · exact rx_bin1 h (fun H locs lsr cells slots x y rest hk => lv_ishr S.1 S.2.1 (hd rfl) hk) kk
    · split at h
      · split at h
        · cases h
        · rename_i hz
          unfold rx_nx at h; cases h
          exact rx_w _ _ (fun h1 _ => rx_cs rx_rk_i (rx_tl (rx_tl h1))) (fun ρ H locs lsr cells slots _ hk => lv_idiv S.1 S.2.1 (hd rfl) hz hk) kk
      · cases h
    · split at h
      · split at h
        · cases h
        · rename_i hz
          unfold rx_nx at h; cases h
          exact rx_w _ _ (fun h1 _ => rx_cs rx_rk_i (rx_tl (rx_tl h1))) (fun ρ H locs lsr cells slots _ hk => lv_irem S.1 S.2.1 (hd rfl) hz hk) kk
      · cases h
    -- ineg i2b i2s i2l
    · split at h
      · unfold rx_nx at h; cases h
        exact rx_w _ _ (fun h1 _ => rx_cs rx_rk_i (rx_tl h1)) (fun ρ H locs lsr cells slots _ hk => lv_ineg S.1 S.2.1 (hd rfl) hk) kk
      · cases h
    · split at h
      · unfold rx_nx at h; cases h
        exact rx_w _ _ (fun h1 _ => rx_cs rx_rk_i (rx_tl h1)) (fun ρ H locs lsr cells slots _ hk => lv_i2b S.1 S.2.1 (hd rfl) rfl hk) kk
      · cases h
    · split at h
      · unfold rx_nx at h; cases h
        exact rx_w _ _ (fun h1 _ => rx_cs rx_rk_i (rx_tl h1)) (fun ρ H locs lsr cells slots _ hk => lv_i2s S.1 S.2.1 (hd rfl) rfl hk) kk
      · cases h
    · split at h
      · unfold rx_nx at h; cases h
        exact rx_w _ _ (fun h1 _ => rx_cs rx_rk_l (rx_tl h1)) (fun ρ H locs lsr cells slots _ hk => lv_i2l S.1 S.2.1 (hd rfl) rfl hk) kk
      · cases h
    · split at h
      · unfold rx_nx at h; cases h
        exact rx_w _ _ (fun h1 _ => rx_cs rx_rk_l (rx_tl (rx_tl h1))) (fun ρ H locs lsr cells slots _ hk => lv_ladd S.1 S.2.1 (hd rfl) hk) kk
      · cases h
    · split at h
      · unfold rx_nx at h; cases h
        exact rx_w _ _ (fun h1 _ => rx_cs rx_rk_i (rx_tl (rx_tl h1))) (fun ρ H locs lsr cells slots _ hk => W.lcmp S.1 S.2.1 (hd rfl) hk) kk
      · cases h
    -- dup pop dup_x1 dup2
    · split at h
      · rename_i v r
        cases h1 : Nat.beq v.category 1 with
        | false => rw [h1] at h; cases h
        | true =>
          rw [h1] at h
          unfold rx_nx at h; cases h
          exact rx_w _ _ (fun h2 _ => rx_cs (rx_hd1 h2) h2) (fun ρ H locs lsr cells slots _ hk => lv_dup S.1 S.2.1 (hd rfl) (by rw [rx_tr_cat]; exact Nat.eq_of_beq_eq_true h1) hk) kk
      · cases h
    · split at h
      · rename_i v r
        cases h1 : Nat.beq v.category 1 with
        | false => rw [h1] at h; cases h
        | true =>
          rw [h1] at h
          unfold rx_nx at h; cases h
          exact rx_w _ _ (fun h2 _ => rx_tl h2) (fun ρ H locs lsr cells slots _ hk => lv_pop S.1 S.2.1 (hd rfl) (by rw [rx_tr_cat]; exact Nat.eq_of_beq_eq_true h1) hk) kk
      · cases h
    · split at h
      · rename_i v w r
        cases h1 : (Nat.beq v.category 1 && Nat.beq w.category 1) with
        | false => rw [h1] at h; cases h
        | true =>
          rw [h1] at h
          rw [Bool.and_eq_true] at h1
          unfold rx_nx at h; cases h
          exact rx_w _ _ (fun h2 _ => rx_cs (rx_hd1 h2) (rx_cs (rx_hd1 (rx_tl h2)) (rx_cs (rx_hd1 h2) (rx_tl (rx_tl h2))))) (fun ρ H locs lsr cells slots _ hk => lv_dup_x1 S.1 S.2.1 (hd rfl) (by rw [rx_tr_cat]; exact Nat.eq_of_beq_eq_true h1.1) (by rw [rx_tr_cat]; exact Nat.eq_of_beq_eq_true h1.2) hk) kk
      · cases h
    · split at h
      · rename_i v w r
        cases h1 : (Nat.beq v.category 1 && Nat.beq w.category 1) with
        | false => rw [h1] at h; cases h
        | true =>
          rw [h1] at h
          rw [Bool.and_eq_true] at h1
          unfold rx_nx at h; cases h
          exact rx_w _ _ (fun h2 _ => rx_cs (rx_hd1 h2) (rx_cs (rx_hd1 (rx_tl h2)) h2)) (fun ρ H locs lsr cells slots _ hk => lv_dup2_11 S.1 S.2.1 (hd rfl) (by rw [rx_tr_cat]; exact Nat.eq_of_beq_eq_true h1.1) (by rw [rx_tr_cat]; exact Nat.eq_of_beq_eq_true h1.2) hk) kk
      · cases h
    -- goto, branches
    · obtain ⟨t, ht9, rfl⟩ := rx_jmp_ok h
      exact rx_w _ _ (fun h1 _ => h1) (fun ρ H locs lsr cells slots _ hk => lv_goto S.1 S.2.1 (hd rfl) ht9 hk) kk
    · split at h
      · split at h
        · exact rx_bra h (fun h1 => rx_tl h1) (fun H locs lsr cells slots ρ t ht9 k1 k2 => lv_if_eq S.1 S.2.1 (hd rfl) ht9 k1 k2) kk
        · exact rx_bra h (fun h1 => rx_tl h1) (fun H locs lsr cells slots ρ t ht9 k1 k2 => lv_if_ne S.1 S.2.1 (hd rfl) ht9 k1 (fun z => k2 (fun y => y z))) kk
        · exact rx_bra h (fun h1 => rx_tl h1) (fun H locs lsr cells slots ρ t ht9 k1 k2 => lv_if_lt S.1 S.2.1 (hd rfl) ht9 k1 k2) kk
        · exact rx_bra h (fun h1 => rx_tl h1) (fun H locs lsr cells slots ρ t ht9 k1 k2 => lv_if_ge S.1 S.2.1 (hd rfl) ht9 k1 k2) kk
        · exact rx_bra h (fun h1 => rx_tl h1) (fun H locs lsr cells slots ρ t ht9 k1 k2 => lv_if_gt S.1 S.2.1 (hd rfl) ht9 k1 k2) kk
        · exact rx_bra h (fun h1 => rx_tl h1) (fun H locs lsr cells slots ρ t ht9 k1 k2 => lv_if_le S.1 S.2.1 (hd rfl) ht9 k1 k2) kk
      · cases h
    · split at h
      · split at h
        · exact rx_bra h (fun h1 => rx_tl (rx_tl h1)) (fun H locs lsr cells slots ρ t ht9 k1 k2 => lv_icmp_eq S.1 S.2.1 (hd rfl) ht9 k1 k2) kk
        · exact rx_bra h (fun h1 => rx_tl (rx_tl h1)) (fun H locs lsr cells slots ρ t ht9 k1 k2 => lv_icmp_ne S.1 S.2.1 (hd rfl) ht9 k1 (fun z => k2 (fun y => y z))) kk
        · exact rx_bra h (fun h1 => rx_tl (rx_tl h1)) (fun H locs lsr cells slots ρ t ht9 k1 k2 => lv_icmp_lt S.1 S.2.1 (hd rfl) ht9 k1 k2) kk
        · exact rx_bra h (fun h1 => rx_tl (rx_tl h1)) (fun H locs lsr cells slots ρ t ht9 k1 k2 => lv_icmp_ge S.1 S.2.1 (hd rfl) ht9 k1 k2) kk
        · exact rx_bra h (fun h1 => rx_tl (rx_tl h1)) (fun H locs lsr cells slots ρ t ht9 k1 k2 => lv_icmp_gt S.1 S.2.1 (hd rfl) ht9 k1 k2) kk
        · exact rx_bra h (fun h1 => rx_tl (rx_tl h1)) (fun H locs lsr cells slots ρ t ht9 k1 k2 => lv_icmp_le S.1 S.2.1 (hd rfl) ht9 k1 k2) kk
      · cases h
    -- switches
    · split at h
      · split at h
        · rename_i hx
          obtain ⟨t, ht9, rfl⟩ := rx_jmp_ok h
          exact rx_w _ _ (fun h1 _ => rx_tl h1) (fun ρ H locs lsr cells slots _ hk => lv_tableOut S.1 S.2.1 hdn hx ht9 hk) kk
        · rename_i hx
          split at h
          · rename_i o ho
            obtain ⟨t, ht9, rfl⟩ := rx_jmp_ok h
            exact rx_w _ _ (fun h1 _ => rx_tl h1) (fun ρ H locs lsr cells slots _ hk => lv_tableIn S.1 S.2.1 hdn (fun z => hx (Or.inl z)) (fun z => hx (Or.inr z)) ho ht9 hk) kk
          · cases h
      · cases h
    · split at h
      · rename_i dd ps _ x r
        generalize hpp : ((ps.toList.zip (ps.toList.drop 1)).all (fun (a, next) => a.1 < next.1)) = bb at h
        cases bb with
        | false => cases h
        | true =>
          dsimp only [cond] at h
          obtain ⟨t, ht9, rfl⟩ := rx_jmp_ok h
          exact rx_w _ _ (fun h1 _ => rx_tl h1) (fun ρ H locs lsr cells slots _ hk => lv_lookup S.1 S.2.1 hdn hpp rfl ht9 hk) kk
      · cases h
    -- memory
    · exact rx_s_get S (hd rfl) h kk
    · exact rx_s_put S (hd rfl) h kk
    · exact rx_s_ald S (t := 0) (by decide) (hd rfl) h kk
    · exact rx_s_ald S (t := 1) (by decide) (hd rfl) h kk
    · exact rx_s_ald S (t := 2) (by decide) (hd rfl) h kk
    · exact rx_s_ald S (t := 3) (by decide) (hd rfl) h kk
    · exact rx_s_ast S (t := 0) (hd rfl) h kk
    · exact rx_s_ast S (t := 1) (hd rfl) h kk
    · exact rx_s_ast S (t := 3) (hd rfl) h kk
    · exact rx_s_alen S (hd rfl) h kk
    · exact rx_s_nwa S rx_acs_ok (hd rfl) h hc hs kk
    · split at h
      · rename_i hn2
        subst hn2
        exact rx_s_mna S (rx_acs_ok .int (by decide)) (hd rfl) h hc hs kk
      · cases h
    · exact rx_s_new S (hd rfl) h hc hs kk
    · exact rx_s_inv S (w := 0) (hd rfl) h hc hs kk
    · exact rx_s_inv S (w := 1) (hd rfl) h hc hs kk
    · exact rx_s_inv S (w := 2) (hd rfl) h hc hs kk
    -- returns
    · split at h
      · split at h
        · cases h
        · split at h <;> cases h
        · cases h
      · cases h
    · split at h
      · split at h <;> cases h
      · cases h
    · split at h
      · split at h <;> cases h
      · cases h
    · cases h
end RXO
