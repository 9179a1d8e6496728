/-! where the system throws: three sites -/
noncomputable def rx_okX1 (i pc : Nat) : Bool := match rx_tb i pc with
  | some (.new x) => (match rx_nw (rx_cn i) x with
    | some (.inr E) => (Nat.beq i 122 && Nat.beq pc 22 && Nat.beq x 228 && Nat.beq E 1) || (Nat.beq i 140 && Nat.beq pc 9 && Nat.beq x 228 && Nat.beq E 1) || (Nat.beq i 140 && Nat.beq pc 48 && Nat.beq x 333 && Nat.beq E 2)
    | _ => true)
  | _ => true
noncomputable def rx_okX (i : Nat) : Bool := (List.range (rx_len i)).all (rx_okX1 i)
set_option maxRecDepth 100000 in
theorem rx_xk_0 : (List.range 25).all (fun k => rx_okX (0 + k)) = true := by decide +kernel
set_option maxRecDepth 100000 in
theorem rx_xk_1 : (List.range 25).all (fun k => rx_okX (25 + k)) = true := by decide +kernel
set_option maxRecDepth 100000 in
theorem rx_xk_2 : (List.range 25).all (fun k => rx_okX (50 + k)) = true := by decide +kernel
set_option maxRecDepth 100000 in
theorem rx_xk_3 : (List.range 25).all (fun k => rx_okX (75 + k)) = true := by decide +kernel
set_option maxRecDepth 100000 in
theorem rx_xk_4 : (List.range 25).all (fun k => rx_okX (100 + k)) = true := by decide +kernel
set_option maxRecDepth 100000 in
theorem rx_xk_5 : (List.range 25).all (fun k => rx_okX (125 + k)) = true := by decide +kernel
set_option maxRecDepth 100000 in
theorem rx_xk_6 : (List.range 25).all (fun k => rx_okX (150 + k)) = true := by decide +kernel
set_option maxRecDepth 100000 in
theorem rx_xk_7 : (List.range 25).all (fun k => rx_okX (175 + k)) = true := by decide +kernel
set_option maxRecDepth 100000 in
theorem rx_xk_8 : (List.range 25).all (fun k => rx_okX (200 + k)) = true := by decide +kernel
set_option maxRecDepth 100000 in
theorem rx_xk_9 : (List.range 24).all (fun k => rx_okX (225 + k)) = true := by decide +kernel
set_option maxRecDepth 100000 in
theorem rx_xl : rx_okX 249 = true := by decide +kernel
theorem rx_xk {i : Nat} (hi : i < rx_n) : rx_okX i = true := by
  have h := fun (b n k : Nat) (hk : k < n) (hf : (List.range n).all (fun k => rx_okX (b + k)) = true) => List.all_eq_true.mp hf k (List.mem_range.mpr hk)
  have e : i = 25 * (i / 25) + i % 25 := (Nat.div_add_mod i 25).symm
  have hm : i % 25 < 25 := Nat.mod_lt _ (by decide)
  have hq : i / 25 < 10 := by
    have : i < 250 := hi
    omega
  rw [e]
  revert hm hq
  generalize i % 25 = k
  generalize i / 25 = q
  intro hm hq
  match q, hq with
  | 0, _ => exact h 0 25 k hm rx_xk_0
  | 1, _ => exact h 25 25 k hm rx_xk_1
  | 2, _ => exact h 50 25 k hm rx_xk_2
  | 3, _ => exact h 75 25 k hm rx_xk_3
  | 4, _ => exact h 100 25 k hm rx_xk_4
  | 5, _ => exact h 125 25 k hm rx_xk_5
  | 6, _ => exact h 150 25 k hm rx_xk_6
  | 7, _ => exact h 175 25 k hm rx_xk_7
  | 8, _ => exact h 200 25 k hm rx_xk_8
  | 9, _ =>
    by_cases h24 : k < 24
    · exact h 225 24 k h24 rx_xk_9
    · have e24 : k = 24 := by omega
      subst e24
      exact rx_xl
  | c + 10, hc => exact absurd hc (by omega)
section RXT
variable {X : Nat × (Nat → Int32)} {i : Nat} {pc : Nat} {ls : List (Option Value)} {st : List Value} {a : rx_K} {M : rx_M}
set_option maxHeartbeats 4000000 in
theorem rx_ins_thr {ins : Instr} {E : Nat} (h : rx_ins X i ins pc ls st a M = some (.inr (.inr (some (.retAddr E))))) : ∃ x, ins = .new x ∧ st = [] ∧ rx_nw (rx_cn i) x = some (.inr E) := by
  unfold rx_ins at h
  split at h
  all_goals first
    | exact absurd h (fun z => rx_ld_no z)
    | exact absurd h (fun z => rx_sto_no z)
    | exact absurd h (fun z => rx_bin_no z)
    | exact absurd h (fun z => rx_jmp_no z)
    | (cases h; done)
    | (try (simp only [rx_nx, rx_jmp, rx_br, rx_gf, rx_pf, rx_al, rx_as, rx_aln, rx_nwa, rx_mna, rx_new, rx_inv, Bool.cond_eq_ite] at h)
       repeat' (split at h)
       all_goals first
         | (cases h; done)
         | (cases h; exact ⟨_, rfl, rfl, by assumption⟩))
theorem rx_thr_site {E : Nat} (h : rx_stp X i (pc, ls, st, a, M) = some (.inr (.inr (some (.retAddr E))))) : st = [] ∧ ((i = 122 ∧ pc = 22 ∧ E = 1) ∨ (i = 140 ∧ pc = 9 ∧ E = 1) ∨ (i = 140 ∧ pc = 48 ∧ E = 2)) := by
  unfold rx_stp at h
  dsimp only at h
  split at h
  · cases h
  · rename_i ins ht
    obtain ⟨x, rfl, hs, hn⟩ := rx_ins_thr h
    refine ⟨hs, ?_⟩
    have hi := (rx_dec ht).1
    have hp : pc < rx_len i := by
      have h9 := ht
      unfold rx_tb at h9
      cases hb : (Nat.blt i rx_n && Nat.blt pc (rx_len i)) with
      | false => rw [hb] at h9; cases h9
      | true =>
        rw [Bool.and_eq_true] at hb
        exact Nat.blt_eq.mp hb.2
    have h1 := List.all_eq_true.mp (rx_xk hi) pc (List.mem_range.mpr hp)
    unfold rx_okX1 at h1
    rw [ht] at h1
    dsimp only at h1
    rw [hn] at h1
    simp only [Bool.or_eq_true, Bool.and_eq_true] at h1
    rcases h1 with (⟨⟨⟨e1, e2⟩, -⟩, e4⟩ | ⟨⟨⟨e1, e2⟩, -⟩, e4⟩) | ⟨⟨⟨e1, e2⟩, -⟩, e4⟩
    · exact Or.inl ⟨Nat.eq_of_beq_eq_true e1, Nat.eq_of_beq_eq_true e2, Nat.eq_of_beq_eq_true e4⟩
    · exact Or.inr (Or.inl ⟨Nat.eq_of_beq_eq_true e1, Nat.eq_of_beq_eq_true e2, Nat.eq_of_beq_eq_true e4⟩)
    · exact Or.inr (Or.inr ⟨Nat.eq_of_beq_eq_true e1, Nat.eq_of_beq_eq_true e2, Nat.eq_of_beq_eq_true e4⟩)
end RXT
