/-! the reference's goesBy, by hand -/
theorem fo_6x {x y z w : Int32} {j k : Nat} (hx : x.toInt = (j : Int)) (hy : y.toInt = (k : Int)) (hj : j < 150) (hk : k < 7) (hz : z = 6 * x) (hw : w = z + y) : w.toInt = ((6 * j + k : Nat) : Int) := by
  have e : (6 : Int32).toInt = 6 := rfl
  have hz2 : z.toInt = 6 * (j : Int) := by
    rw [hz, ax_mul (by rw [e]; omega) (by rw [e]; omega), e, hx]
  rw [hw, ax_add (by omega) (by omega)]
  omega
theorem co_nd {j : Nat} : ¬ ax_wd ax_w_150 268 j := by
  rintro (k | ⟨e, he, k1, k2⟩)
  · unfold ax_wsl at k
    obtain ⟨s, hs, k2⟩ := List.any_eq_true.mp k
    rw [Bool.and_eq_true] at k2
    have e1 := Nat.eq_of_beq_eq_true k2.1
    have hs : s ∈ [(244, 19), (244, 20), (244, 21), (244, 30)] := hs
    simp only [List.mem_cons, List.not_mem_nil, or_false] at hs
    rcases hs with r | r | r | r <;> (subst r; dsimp only at e1; omega)
  · have he : e ∈ [((259 : Int), (267 : Int))] := he
    simp only [List.mem_cons, List.not_mem_nil, or_false] at he
    subst he
    dsimp only at k1 k2
    omega
theorem co_sub : ∀ q j, ax_wd ax_w_150 q j → ax_wd ax_w_158 q j := ax_dsub_ok (by decide)
section CO
variable {X : Nat × (Nat → Int32)} {d : Nat} {a : rx_K} {M : rx_M}
theorem co_ok (hd : 5 ≤ d) (hJ : ax_J0 ax_sp ax_rf M) (ha : a.1 = rx_cells) {x1 x2 x3 : Int32} {k e : Nat} (h1 : x1.toInt = (k : Int)) (h2 : x2.toInt = (e : Int)) (hke : k < e) (he : (e : Int) ≤ (M.1 244 7).toInt) (h3 : 0 ≤ x3.toInt ∧ x3.toInt ≤ 13) (hw : (M.1 249 k).toInt = 1) : hp X d 197 0 [some (.ref 244), some (.int x1), some (.int x2), some (.int x3), none, none] [] a M (hy_Q ax_w_150 (some (some (0, 60))) a M) := by
  have hm : 0 ≤ (M.1 244 1).toInt ∧ (M.1 244 1).toInt ≤ 12 := hJ.1 244 1
  have hn : 0 ≤ (M.1 244 7).toInt ∧ (M.1 244 7).toInt ≤ 150 := hJ.1 244 7
  let v : ax_V := fun i => match i with
    | 0 => (x1, 0)
    | 1 => (x2, 0)
    | 2 => (x3, 0)
    | 3 => (M.1 244 1, 0)
    | 4 => (M.1 244 7, 0)
    | _ => (M.1 249 k, 0)
  refine hy_go (s := ax_s_150) (E := ax_c_150_0.2.1) (K := ax_c_150_0.2.2.1) (ls := ax_c_150_0.2.2.2.1) (v := v) ax_y_150 ?_ (ax_wfb_ok (by decide)) ⟨fun i => ?_, fun q hq => ?_, fun q hq => ?_, fun q hq => ?_⟩ (ax_kwb_ok (by decide)) hJ (fun q hq => ?_) ha
  · show (Nat.ble 5 d && ax_ar ax_sp ax_c_150_0 none none ax_c_150_0.2.1 ax_c_150_0.2.2.1 ax_c_150_0.2.2.2.1) = true
    rw [Bool.and_eq_true]
    exact ⟨Nat.ble_eq.mpr hd, by decide +kernel⟩
  · match i with
    | 0 => show (0 : Int) ≤ x1.toInt ∧ x1.toInt ≤ 149; omega
    | 1 => show (1 : Int) ≤ x2.toInt ∧ x2.toInt ≤ 150; omega
    | 2 => show (0 : Int) ≤ x3.toInt ∧ x3.toInt ≤ 13; omega
    | 3 => show (0 : Int) ≤ (M.1 244 1).toInt ∧ (M.1 244 1).toInt ≤ 12; omega
    | 4 => show (0 : Int) ≤ (M.1 244 7).toInt ∧ (M.1 244 7).toInt ≤ 150; omega
    | 5 => show (1 : Int) ≤ (M.1 249 k).toInt ∧ (M.1 249 k).toInt ≤ 1; omega
    | n + 6 =>
      rw [ax_b_ge (by show ¬ n + 6 < 6; omega)]
      exact ax_full_ok _
  · cases hq
  · cases hq
  · have hq : q ∈ [(1, 4, (0 : Int)), (0, 4, 1), (0, 1, 1)] := hq
    simp only [List.mem_cons, List.not_mem_nil, or_false] at hq
    rcases hq with r | r | r
    · subst r; show x2.toInt + 0 ≤ (M.1 244 7).toInt; omega
    · subst r; show x1.toInt + 1 ≤ (M.1 244 7).toInt; omega
    · subst r; show x1.toInt + 1 ≤ x2.toInt; omega
  · have hq : q ∈ [(249, Value.retAddr 0, Value.retAddr 5), (244, .int 7, .retAddr 4), (244, .int 1, .retAddr 3)] := hq
    simp only [List.mem_cons, List.not_mem_nil, or_false] at hq
    rcases hq with r | r | r
    · subst r
      refine hy_k rfl rfl ?_
      show M.1 249 x1.toNatClampNeg = M.1 249 k
      rw [hy_n h1]
    · subst r
      exact hy_k rfl rfl rfl
    · subst r
      exact hy_k rfl rfl rfl
end CO
/-- the arcs of a ring -/
noncomputable def fo_mem (M : rx_M) (k i : Nat) : Nat := (M.1 256 (6 * k + i)).toInt.toNat
noncomputable def fo_m (M : rx_M) (k : Nat) : Nat := (M.1 255 k).toInt.toNat
noncomputable def fo_arc (M : rx_M) (k i : Nat) : Nat := 12 * fo_mem M k i + fo_mem M k ((i + 1) % fo_m M k)
theorem fo_mem_lt {M : rx_M} (hJ : ax_J0 ax_sp ax_rf M) {k i : Nat} : fo_mem M k i < 12 ∧ (M.1 256 (6 * k + i)).toInt = (fo_mem M k i : Int) := by
  have h : 0 ≤ (M.1 256 (6 * k + i)).toInt ∧ (M.1 256 (6 * k + i)).toInt ≤ 11 := hJ.1 256 (6 * k + i)
  unfold fo_mem
  omega
theorem fo_m_le {M : rx_M} (hJ : ax_J0 ax_sp ax_rf M) {k : Nat} : fo_m M k ≤ 6 ∧ (M.1 255 k).toInt = (fo_m M k : Int) := by
  have h : 0 ≤ (M.1 255 k).toInt ∧ (M.1 255 k).toInt ≤ 6 := hJ.1 255 k
  unfold fo_m
  omega
theorem fo_arc_lt {M : rx_M} (hJ : ax_J0 ax_sp ax_rf M) {k i : Nat} : fo_arc M k i < 144 := by
  have h1 := (fo_mem_lt hJ (k := k) (i := i)).1
  have h2 := (fo_mem_lt hJ (k := k) (i := (i + 1) % fo_m M k)).1
  unfold fo_arc
  omega
theorem fo_arc_ne {M : rx_M} (hJ : ax_J0 ax_sp ax_rf M) {k i j : Nat} (hk : k < 150) (hE : (k : Int) < (M.1 244 7).toInt) (h5 : (M.1 249 k).toInt = 5) (hij : i < j) (hj : j < fo_m M k) : fo_arc M k j ≠ fo_arc M k i := by
  have hm := fo_m_le hJ (k := k)
  have h := hJ.2.2.2.2.2.2 k hk hE h5 i j hij (by omega) (by omega)
  have h1 := fo_mem_lt hJ (k := k) (i := i)
  have h2 := fo_mem_lt hJ (k := k) (i := j)
  have h3 := (fo_mem_lt hJ (k := k) (i := (i + 1) % fo_m M k)).1
  have h4 := (fo_mem_lt hJ (k := k) (i := (j + 1) % fo_m M k)).1
  have h9 : fo_mem M k i ≠ fo_mem M k j := fun q => h (Int32.toInt_inj.mp (by rw [h1.2, h2.2, q]))
  unfold fo_arc
  omega
section GB
variable {X : Nat × (Nat → Int32)} {d : Nat} {a a0 : rx_K} {M0 M : rx_M} {P : rx_O → Prop} {k e : Nat} {x1 x2 x3 x4 x5 : Int32} {c : Int}
theorem fo_k150 (hJ : ax_J0 ax_sp ax_rf M0) (hke : k < e) (he : (e : Int) ≤ (M0.1 244 7).toInt) : k < 150 ∧ (k : Int) < (M0.1 244 7).toInt := by
  have h : 0 ≤ (M0.1 244 7).toInt ∧ (M0.1 244 7).toInt ≤ 150 := hJ.1 244 7
  omega
theorem fo_Sm {c c' : Int} (h : fo_S c M) (hc : c ≤ c') : fo_S c' M := ⟨h.1, Int.le_trans h.2 hc⟩
theorem fo_gs (hJ : ax_J0 ax_sp ax_rf M0) {w : Int} (hw : w = 1 ∨ w = 4 ∨ w = 6) (hE : (k : Int) < (M0.1 244 7).toInt) (h : (M0.1 249 k).toInt = w) : (0 ≤ (M0.1 251 k).toInt ∧ (M0.1 251 k).toInt ≤ 11) ∧ (0 ≤ (M0.1 252 k).toInt ∧ (M0.1 252 k).toInt ≤ 11) := by
  rcases hw with q | q | q
  · subst q
    exact ⟨hJ.2.2.1 ((244, 7), (249, 1), (251, 0, 11)) (by decide) k hE h, hJ.2.2.1 ((244, 7), (249, 1), (252, 0, 11)) (by decide) k hE h⟩
  · subst q
    exact ⟨hJ.2.2.1 ((244, 7), (249, 4), (251, 0, 11)) (by decide) k hE h, hJ.2.2.1 ((244, 7), (249, 4), (252, 0, 11)) (by decide) k hE h⟩
  · subst q
    exact ⟨hJ.2.2.1 ((244, 7), (249, 6), (251, 0, 11)) (by decide) k hE h, hJ.2.2.1 ((244, 7), (249, 6), (252, 0, 11)) (by decide) k hE h⟩
theorem fo_nat {x y : Int32} (e : x = y) (h : 0 ≤ y.toInt ∧ y.toInt ≤ 11) : ∃ f : Nat, x.toInt = (f : Int) ∧ f < 12 := ⟨y.toInt.toNat, by rw [e]; omega, by omega⟩
theorem oi_ok (ha : a.1 = rx_cells) (hJ0 : ax_J0 ax_sp ax_rf M0) (hke : k < e) (he : (e : Int) ≤ (M0.1 244 7).toInt) (hM : fo_I M0 a0 M a) {x7 : Int32} {i : Nat} (h1 : x1.toInt = (k : Int)) (h7 : x7.toInt = (i : Int)) (hi : i < fo_m M0 k) : hp X d 201 0 [some (.ref 244), some (.int x1), some (.int x7)] [] a M (fun o => o = (some (.int (M.1 268 (fo_arc M0 k i))), a, M)) := by
  have hk := fo_k150 hJ0 hke he
  have one1 : (1 : Int32).toInt = 1 := rfl
  have mm : ∀ i, (M.1 256 (6 * k + i)).toInt = ((fo_mem M0 k i : Nat) : Int) := fun i => by
    rw [fo_e hM (Or.inl (by omega))]
    exact (fo_mem_lt hJ0).2
  have mr : (M.1 255 k).toInt = ((fo_m M0 k : Nat) : Int) := by
    rw [fo_e hM (Or.inl (by omega))]
    exact (fo_m_le hJ0).2
  have m6 := (fo_m_le hJ0 (k := k)).1
  have al := fo_arc_lt hJ0 (k := k) (i := i)
  refine hp_al (pc' := 1) (j := 0) (Or.inr ⟨0, rfl, rfl, rfl⟩) rfl ?_
  refine hp_gr (pc' := 4) ha (hM.1 244 31 268 rfl) rfl rfl rfl rfl ?_
  refine hp_bi (pc' := 6) (x := 12) rfl rfl rfl ?_
  refine hp_al (pc' := 7) (j := 0) (Or.inr ⟨0, rfl, rfl, rfl⟩) rfl ?_
  refine hp_gr (pc' := 10) ha (hM.1 244 15 256 rfl) rfl rfl rfl rfl ?_
  refine hp_bi (pc' := 12) (x := 6) rfl rfl rfl ?_
  refine hp_il (pc' := 13) (j := 1) (Or.inr ⟨1, rfl, rfl, rfl⟩) rfl ?_
  refine hp_mul (pc' := 14) rfl rfl (fun z1 hz1 => ?_)
  refine hp_il (pc' := 15) (j := 2) (Or.inr ⟨2, rfl, rfl, rfl⟩) rfl ?_
  refine hp_add (pc' := 16) rfl rfl (fun z2 hz2 => ?_)
  have xz2 : z2.toInt = ((6 * k + i : Nat) : Int) := fo_6x h1 h7 (by omega) (by omega) hz1 hz2
  refine hp_ld (pc' := 17) (j := (6 * k + i)) ha xz2 (by omega) rfl rfl rfl ?_
  refine hp_mul (pc' := 18) rfl rfl (fun z3 hz3 => ?_)
  refine hp_al (pc' := 19) (j := 0) (Or.inr ⟨0, rfl, rfl, rfl⟩) rfl ?_
  refine hp_gr (pc' := 22) ha (hM.1 244 15 256 rfl) rfl rfl rfl rfl ?_
  refine hp_bi (pc' := 24) (x := 6) rfl rfl rfl ?_
  refine hp_il (pc' := 25) (j := 1) (Or.inr ⟨1, rfl, rfl, rfl⟩) rfl ?_
  refine hp_mul (pc' := 26) rfl rfl (fun z4 hz4 => ?_)
  refine hp_il (pc' := 27) (j := 2) (Or.inr ⟨2, rfl, rfl, rfl⟩) rfl ?_
  refine hp_ic (pc' := 28) (x := 1) rfl rfl rfl ?_
  refine hp_add (pc' := 29) rfl rfl (fun z5 hz5 => ?_)
  have xz5 : z5.toInt = (i : Int) + 1 := by rw [hz5, ax_add (by rw [one1]; omega) (by rw [one1]; omega), one1, h7]
  refine hp_al (pc' := 30) (j := 0) (Or.inr ⟨0, rfl, rfl, rfl⟩) rfl ?_
  refine hp_gr (pc' := 33) ha (hM.1 244 14 255 rfl) rfl rfl rfl rfl ?_
  refine hp_il (pc' := 34) (j := 1) (Or.inr ⟨1, rfl, rfl, rfl⟩) rfl ?_
  refine hp_ld (pc' := 35) (j := k) ha h1 (by omega) rfl rfl rfl ?_
  refine hp_rem (pc' := 36) rfl rfl (by first | omega | assumption) (by first | decide | omega) (fun z6 hz6 => ?_)
  have xz6 : z6.toInt = (((i + 1) % fo_m M0 k : Nat) : Int) := by
    rw [hz6, xz5, mr]
    exact (Int.natCast_emod (i + 1) (fo_m M0 k)).symm
  refine hp_add (pc' := 37) rfl rfl (fun z7 hz7 => ?_)
  have lz7 : (i + 1) % fo_m M0 k < 6 := Nat.lt_of_lt_of_le (Nat.mod_lt _ (by omega)) (by omega)
  have xz7 : z7.toInt = ((6 * k + (i + 1) % fo_m M0 k : Nat) : Int) := fo_6x h1 xz6 (by omega) (by omega) hz4 hz7
  refine hp_ld (pc' := 38) (j := (6 * k + (i + 1) % fo_m M0 k)) ha xz7 (by omega) rfl rfl rfl ?_
  refine hp_add (pc' := 39) rfl rfl (fun z8 hz8 => ?_)
  have xz8 : z8.toInt = ((fo_arc M0 k i : Nat) : Int) := hp_ix (mm i) (mm ((i + 1) % fo_m M0 k)) (fo_mem_lt hJ0).1 (fo_mem_lt hJ0).1 hz3 hz8
  refine hp_ld (pc' := 40) (j := (fo_arc M0 k i)) ha xz8 (by omega) rfl rfl rfl ?_
  refine hp_ri rfl rfl ?_
  rfl
end GB
