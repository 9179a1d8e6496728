/-! the core: the law's loop: the state at its head holds again, six ints further -/
section AXLC
variable {X : Nat × (Nat → Int32)} {sp : Nat → Nat → Int × Int} {rf : Nat → Nat → Option Nat} {mx : ax_X} {mt : List (Nat × Nat)} {v : ax_V} {E : ax_E} {K : ax_K} {M : rx_M} {a : rx_K}
noncomputable def ax_J0 (sp : Nat → Nat → Int × Int) (rf : Nat → Nat → Option Nat) (M : rx_M) : Prop := (∀ q j, (sp q j).1 ≤ (M.1 q j).toInt ∧ (M.1 q j).toInt ≤ (sp q j).2) ∧ (∀ q j z, rf q j = some z → M.2.1 q j = some z) ∧ ax_GG M.1
/-- the law answers 1, and not much was made -/
noncomputable def ax_PL (T : Nat × Nat) (o : Option Value) (M : rx_M) : Prop := o = some (.int 1) ∧ ax_le2 M (ax_mA (0, T.1, T.2) M)
noncomputable def ax_one1 (E : ax_E) (_ : ax_K) (w : Option Value) : Bool := match w with
  | some u => (match ax_lit E u with
    | some x => decide (x = 1)
    | none => false)
  | none => false
/-- back at the head: the state holds, the place is six further -/
noncomputable def ax_law6 (sp : Nat → Nat → Int × Int) (c : ax_ct) (D : Nat) (E : ax_E) (K : ax_K) (d : Nat) (ls : List (Option Value)) : Bool := (Nat.beq d D && Nat.blt 0 E.1) && ax_ar sp c (some [(true, .retAddr 1)]) none E K ls && (Nat.beq c.2.2.2.2.2.2.length 0 && (match sx_at none ls 4 with
  | some w => sx_isI w && ax_leq E (.retAddr 1) w 6
  | none => false))
theorem ax_law6_ok (hsa : ∀ q u n, rx_lay q = some (.inr (u, n)) → ∀ j, sp q j = sp q 0) {c : ax_ct} {D d : Nat} {ls : List (Option Value)} {W : ax_W} {y0 y1 : Value} {r : List ax_sr} (hsrc : c.2.2.2.2.1 = (2, 0, y0) :: (0, 4, y1) :: r) (h : ax_law6 sp c D E K d ls = true) (S : ax_St W sp rf v E K M a []) : ∃ v', ax_ok v' c.2.1 ∧ ax_kn v' c.2.2.1 M ∧ ax_lle (ax_ls v' c.2.2.2.1) (ax_ls v ls) ∧ (v' 0).1 = (v 0).1 ∧ ∃ w, sx_at none ls 4 = some w ∧ sx_isI w = true ∧ (v' 1).1 = ax_vi v w := by
  unfold ax_law6 at h
  rw [Bool.and_eq_true, Bool.and_eq_true, Bool.and_eq_true, Bool.and_eq_true] at h
  obtain ⟨⟨⟨-, h0⟩, h⟩, -, h4⟩ := h
  have h0 := Nat.blt_eq.mp h0
  split at h4
  · rename_i w hw
    rw [Bool.and_eq_true] at h4
    unfold ax_ar at h
    replace h := sx_cT (by intro q; cases q) h
    obtain ⟨hc, h⟩ := h
    rw [hsrc] at h
    have e2 : ∀ k, ax_ars sp ls k ((2, 0, y0) :: (0, 4, y1) :: r) [] E K = (match sx_at none ls 4 with
      | some w => ax_ars sp ls k r [.retAddr 0, w] E K
      | none => false) := fun k => rfl
    rw [e2, hw] at h
    have h := ax_ars_pre (k' := fun s E' K' => (ax_ec c.2.1 E' s && (c.2.2.1.all (ax_kc E' K' s) && ax_lsm E' s c.2.2.2.1 ls)) && decide (sx_at ax_dfl s 0 = .retAddr 0 ∧ sx_at ax_dfl s 1 = w)) r [.retAddr 0, w] E K (fun t E K hk => by
      rw [Bool.and_eq_true, Bool.and_eq_true, Bool.and_eq_true] at hk
      rw [Bool.and_eq_true, Bool.and_eq_true, Bool.and_eq_true]
      exact ⟨⟨hk.1, hk.2.1, hk.2.2.1⟩, decide_eq_true ⟨rfl, rfl⟩⟩) h
    refine ax_ars_ok (ls := ls) (n := E.1) (v := v) hsa (fun s E' K' v' hk S' hn hv => ?_) r _ E K v h S (Nat.le_refl _) (fun _ _ => rfl)
    rw [Bool.and_eq_true, Bool.and_eq_true, Bool.and_eq_true] at hk
    obtain ⟨⟨k1, k2, k3⟩, k4⟩ := hk
    obtain ⟨k4, k5⟩ := of_decide_eq_true k4
    have hE := S'.2.1
    have hsw : ax_sc E.1 w = true := by
      unfold ax_scO at hc
      rw [List.all_eq_true] at hc
      have : some w ∈ ls := by
        rw [sx_at_none] at hw
        cases hl : ls[4]? with
        | none => rw [hl] at hw; cases hw
        | some o =>
          rw [hl] at hw
          have e : o = some w := hw
          rw [e] at hl
          exact List.mem_of_getElem? hl
      exact hc _ this
    refine ⟨ax_vv v' s, ax_ec_ok hE k1, fun e he => ax_kc_ok hE S'.2.2.2.2.1 (List.all_eq_true.mp k2 e he), ?_, ?_, w, hw, h4.1, ?_⟩
    · rw [← ax_ag_ls hv hc]
      exact ax_lsm_ok hE _ _ k3
    · show (ax_vl v' (sx_at ax_dfl s 0)).1 = _
      rw [k4, ← hv 0 h0]
      rfl
    · show (ax_vl v' (sx_at ax_dfl s 1)).1 = _
      rw [k5, ax_vl_i h4.1, ax_ag_vi hv hsw]
  · cases h4
noncomputable def ax_tbL (sp : Nat → Nat → Int × Int) (c : ax_ct) (D : Nat) : ax_T := fun i pc => cond (Nat.beq i 249 && Nat.beq pc 23) (some (fun E K d ls => ax_law6 sp c D E K d ls)) none
noncomputable def ax_lr (wd : ax_D) (sp : Nat → Nat → Int × Int) (rf : Nat → Nat → Option Nat) (mx : ax_X) (mt : List (Nat × Nat)) (hn : Nat → Nat → Nat) (sum : ax_Y) (D : Nat) (c : ax_ct) : Bool := (ax_wfb (5, c.2.1.2) && (ax_kwb 5 c.2.2.1 && (Nat.beq c.2.1.1 11 && (ax_scO 5 c.2.2.2.1 && (List.range 6).all (fun k => decide (ax_b c.2.1 (5 + k) = sx_full)))))) && ((decide (0 ≤ (ax_b c.2.1 1).1) && decide ((ax_b c.2.1 1).2 ≤ 3072)) && (decide (c.2.2.2.2.2.1 = [(true, .retAddr 1)]) && (decide (sx_at none c.2.2.2.1 4 = some (.retAddr 1)) && ax_stL wd sp rf mx mt ax_one1 (ax_runL wd sp rf mx mt ax_one1 hn (ax_tbL sp c D) sum 599) c.2.1 c.2.2.1 D [] 249 23 c.2.2.2.1 [])))
/-- the script's ints in the place of unknowns 5 to 10 -/
noncomputable def ax_vs (X : Nat × (Nat → Int32)) (v : ax_V) : ax_V := fun k => if 5 ≤ k ∧ k < 11 then (X.2 ((v 1).1.toInt.toNat + (k - 5)), 0) else v k
theorem ax_vs_lt {k : Nat} (h : k < 5) : ax_vs X v k = v k := if_neg (by omega)
theorem ax_vs_5 {c : Nat} (h : c < 6) : (ax_vs X v (5 + c)).1 = X.2 ((v 1).1.toInt.toNat + c) := by
  unfold ax_vs
  rw [if_pos (by omega), show 5 + c - 5 = c by omega]
theorem ax_wfb_le {E : ax_E} (h : ax_wfb (5, E.2) = true) (hn : 5 ≤ E.1) : ax_wf E := by
  have k := ax_wfb_ok h
  exact ⟨fun d hd => ⟨Nat.lt_of_lt_of_le (k.1 d hd).1 hn, Nat.lt_of_lt_of_le (k.1 d hd).2 hn⟩, fun d hd => ⟨Nat.lt_of_lt_of_le (k.2.1 d hd).1 hn, ax_sc_up (k.2.1 d hd).2.1 hn, ax_sc_up (k.2.1 d hd).2.2 hn⟩, fun d hd => ⟨Nat.lt_of_lt_of_le (k.2.2 d hd).1 hn, Nat.lt_of_lt_of_le (k.2.2 d hd).2 hn⟩⟩
theorem ax_vs_ok {E : ax_E} (h : ax_wfb (5, E.2) = true) (hb : (List.range 6).all (fun k => decide (ax_b E (5 + k) = sx_full)) = true) (hE : ax_ok v E) : ax_ok (ax_vs X v) E := by
  have k := ax_wfb_ok h
  have lt : ∀ {j : Nat}, j < (5, E.2).1 → ax_vs X v j = v j := fun h => ax_vs_lt h
  refine ⟨fun j => ?_, fun d hd => ?_, fun d hd => ?_, fun d hd => ?_⟩
  · by_cases hj : 5 ≤ j ∧ j < 11
    · have e := of_decide_eq_true (List.all_eq_true.mp hb (j - 5) (List.mem_range.mpr (by omega)))
      rw [show 5 + (j - 5) = j by omega] at e
      rw [e]
      exact ax_full_ok _
    · have e : ax_vs X v j = v j := if_neg hj
      rw [e]
      exact hE.1 j
  · rw [lt (k.1 d hd).1, lt (k.1 d hd).2]
    exact hE.2.1 d hd
  · rw [lt (k.2.1 d hd).1, ax_ag_vi (n := 5) (fun j hj => ax_vs_lt hj) (k.2.1 d hd).2.1, ax_ag_vi (n := 5) (fun j hj => ax_vs_lt hj) (k.2.1 d hd).2.2]
    exact hE.2.2.1 d hd
  · rw [lt (k.2.2 d hd).1, lt (k.2.2 d hd).2]
    exact hE.2.2.2 d hd
/-- a state of the loop -/
noncomputable def ax_Ls (X : Nat × (Nat → Int32)) (sp : Nat → Nat → Int × Int) (rf : Nat → Nat → Option Nat) (c : ax_ct) (B : Nat × Nat) (v : ax_V) (M : rx_M) (a : rx_K) (l : List (Option Value)) : Prop := ax_ok v c.2.1 ∧ ax_kn v c.2.2.1 M ∧ ax_J0 sp rf M ∧ ax_lle (ax_ls v c.2.2.2.1) l ∧ (v 0).1.toInt = (X.1 : Int) ∧ a.1 = rx_cells ∧ a.2.1 ≤ B.1 + 100 * (v 1).1.toInt.toNat ∧ a.2.2 ≤ B.2 + 600 * (v 1).1.toInt.toNat
theorem ax_lawcut (hm : ax_mxok sp mx) (hmt : ax_mtok rf mt) (hsa : ∀ q u n, rx_lay q = some (.inr (u, n)) → ∀ j, sp q j = sp q 0) {sum : ax_Y} (hY : ax_Yok X sp rf sum) {hn : Nat → Nat → Nat} {wd : ax_D} {D : Nat} {c : ax_ct} {B : Nat × Nat} (hX : X.1 ≤ 3072) (hr : ax_lr wd sp rf mx mt hn sum D c = true)
    {l : List (Option Value)} (hst : ax_Ls X sp rf c B v M a l) {y0 y1 : Value} {r0 : List ax_sr} (hsrc : c.2.2.2.2.1 = (2, 0, y0) :: (0, 4, y1) :: r0) :
    ax_C X (ax_PL (B.1 + 307800, B.2 + 1846800)) v D [] 249 (23, l, [], a, M) := by
  unfold ax_lr at hr
  simp only [Bool.and_eq_true, decide_eq_true_eq] at hr
  obtain ⟨⟨b1, b2, b3, b8, b9⟩, ⟨b4, b5⟩, b6, b7, hr⟩ := hr
  have b3 : c.2.1.1 = 11 := Nat.eq_of_beq_eq_true b3
  refine ax_loop (S := ax_V × rx_M × rx_K × List (Option Value)) (fun s => 100000 - (s.1 1).1.toInt.toNat) (I := fun s => ax_Ls X sp rf c B s.1 s.2.1 s.2.2.1 s.2.2.2) (C := fun s => ∀ v9 : ax_V, ax_C X (ax_PL (B.1 + 307800, B.2 + 1846800)) v9 D [] 249 (23, s.2.2.2, [], s.2.2.1, s.2.1)) ?_ (v, M, a, l) hst v
  rintro ⟨v, M, a, l⟩ ⟨h1, h2, h3, h4, h5, h6, h7, h8⟩ IH v9
  dsimp only at h1 h2 h3 h4 h5 h6 h7 h8 IH
  have hs1 : ax_vs X v 1 = v 1 := ax_vs_lt (by decide)
  have hs5 : ∀ c, c < 6 → (ax_vs X v (5 + c)).1 = X.2 ((ax_vs X v 1).1.toInt.toNat + c) := fun c hc => by rw [hs1]; exact ax_vs_5 hc
  have h1 := ax_vs_ok (X := X) b1 b9 h1
  have h2 := ax_ag_kn (v' := ax_vs X v) (n := 5) (fun j hj => ax_vs_lt hj) (ax_kwb_ok b2) h2
  have h4 : ax_lle (ax_ls (ax_vs X v) c.2.2.2.1) l := by rw [ax_ag_ls (n := 5) (fun j hj => ax_vs_lt hj) b8]; exact h4
  have h5 : (ax_vs X v 0).1.toInt = (X.1 : Int) := by rw [ax_vs_lt (by decide)]; exact h5
  have h7 : a.2.1 ≤ B.1 + 100 * (ax_vs X v 1).1.toInt.toNat := by rw [hs1]; exact h7
  have h8 : a.2.2 ≤ B.2 + 600 * (ax_vs X v 1).1.toInt.toNat := by rw [hs1]; exact h8
  have IH : ∀ t : ax_V × rx_M × rx_K × List (Option Value), ax_Ls X sp rf c B t.1 t.2.1 t.2.2.1 t.2.2.2 → 100000 - (t.1 1).1.toInt.toNat < 100000 - (ax_vs X v 1).1.toInt.toNat → ∀ v9 : ax_V, ax_C X (ax_PL (B.1 + 307800, B.2 + 1846800)) v9 D [] 249 (23, t.2.2.2, [], t.2.2.1, t.2.1) := by rw [hs1]; exact IH
  clear hs1
  revert hs5 h1 h2 h4 h5 h7 h8 IH
  generalize ax_vs X v = v
  intro hs5 h1 h2 h4 h5 h7 h8 IH
  have i1 := h1.1 1
  have hi : ((v 1).1.toInt.toNat : Int) = (v 1).1.toInt := by omega
  have hi2 : (v 1).1.toInt.toNat ≤ 3072 := by omega
  let n := (v 1).1.toInt.toNat
  let W : ax_W := (wd, (M.1, M.2.1, (0, 0)), (c.2.1.1, v))
  let C : Nat × Nat := (B.1 + 100 * n + 600, B.2 + 600 * n + 3600)
  have hW : ax_lw X W := ⟨Nat.le_of_eq b3.symm, ⟨h5, by omega⟩, by show 0 ≤ (v 1).1.toInt; omega, hs5⟩
  have hfin : ∀ E K w v' M' a', ax_one1 E K w = true → ax_St (ax_wc W C) sp rf v' E K M' a' [] → ax_PL (B.1 + 307800, B.2 + 1846800) (w.map (ax_v v')) (ax_mA a' M') := fun E K w v' M' a' h S => by
    unfold ax_one1 at h
    split at h
    · rename_i u
      split at h
      · rename_i x hx
        have h := of_decide_eq_true h
        refine ⟨?_, ?_⟩
        · rw [Option.map_some, ax_lit_ok S.2.1 hx, h]
        · have s6 := S.2.2.2.2.2.1
          have q1 : a'.2.1 ≤ B.1 + 100 * n + 600 := s6.2.1
          have q2 : a'.2.2 ≤ B.2 + 600 * n + 3600 := s6.2.2
          exact ax_le_mA (by dsimp only; omega) (by dsimp only; omega)
      · cases h
    · cases h
  have hTok : ax_Tok X (ax_PL (B.1 + 307800, B.2 + 1846800)) (ax_wc W C) sp rf (ax_tbL sp c D) := by
    intro i pc chk hchk E K d ls hh v' M' a' S
    unfold ax_tbL at hchk
    cases hb : (Nat.beq i 249 && Nat.beq pc 23) with
    | false => rw [hb] at hchk; cases hchk
    | true =>
      rw [hb] at hchk
      cases hchk
      rw [Bool.and_eq_true] at hb
      have e1 := Nat.eq_of_beq_eq_true hb.1
      have e2 := Nat.eq_of_beq_eq_true hb.2
      subst e1
      subst e2
      have hh0 := hh
      unfold ax_law6 at hh
      simp only [Bool.and_eq_true] at hh
      obtain ⟨⟨⟨g1, -⟩, g2⟩, g3, g4⟩ := hh
      have g1 := Nat.eq_of_beq_eq_true g1
      subst g1
      obtain ⟨v2, p1, p2, p3, p4, w, p5, p6, p7⟩ := ax_law6_ok hsa hsrc hh0 S
      rw [p5] at g4
      dsimp only at g4
      rw [Bool.and_eq_true] at g4
      obtain ⟨-, -, q6⟩ := ax_leq_ok S.2.1 g4.2
      have q6 : (v' 1).1.toInt + 6 ≤ (ax_vi v' w).toInt := q6
      have ag := S.2.2.2.2.2.2.2.2
      have a0 : v' 0 = v 0 := ag 0 (by show 0 < c.2.1.1; omega)
      have a1 : v' 1 = v 1 := ag 1 (by show 1 < c.2.1.1; omega)
      rw [a1, ← p7] at q6
      have s6 := S.2.2.2.2.2.1
      have q1 : a'.2.1 ≤ B.1 + 100 * n + 600 := s6.2.1
      have q2 : a'.2.2 ≤ B.2 + 600 * n + 3600 := s6.2.2
      have hn2 : (n : Int) = (v 1).1.toInt := hi
      exact IH (v2, M', a', ax_ls v' ls) ⟨p1, p2, ⟨S.2.2.2.1.1, S.2.2.2.1.2.1, S.2.2.2.1.2.2.2⟩, p3, by rw [p4, a0]; exact h5, s6.1, by dsimp only; omega, by dsimp only; omega⟩ (by dsimp only; omega) v'
  have HS := ax_runL_ok (W := W) (c := C) (hn := hn) (fin := ax_one1) hW hm hmt hsa hfin hTok hY 599 (by show 599 ≤ B.1 + 100 * n + 600; omega) (by show 6 * 599 ≤ B.2 + 600 * n + 3600; omega)
  have f1 : (ax_cf C 599).1 = B.1 + 100 * n + 1 := by show B.1 + 100 * n + 600 - 599 = _; omega
  have f2 : (ax_cf C 599).2 = B.2 + 600 * n + 6 := by show B.2 + 600 * n + 3600 - 6 * 599 = _; omega
  have H0 := ax_stL_ok (W := W) (c := (B.1 + 100 * n, B.2 + 600 * n)) (c' := ax_cf C 599) (fin := ax_one1) (by rw [f1]; exact Nat.le_refl _) (by rw [f2]; exact Nat.le_refl _) hW hm hmt hsa (fun E K w v' M' a' h S => hfin E K w v' M' a' h (ax_St_c (by show B.1 + 100 * n ≤ B.1 + 100 * n + 600; omega) (by show B.2 + 600 * n ≤ B.2 + 600 * n + 3600; omega) S)) HS
  have k := H0 _ _ _ _ _ _ _ _ hr v M a ⟨ax_wfb_le b1 (by omega), h1, ax_kw_le (ax_kwb_ok b2) (by omega), ⟨h3.1, h3.2.1, fun _ _ _ => ⟨rfl, rfl⟩, h3.2.2⟩, h2, ⟨h6, h7, h8⟩, rfl, Nat.le_refl _, fun _ _ => rfl⟩
  obtain ⟨f3, o, k1, k2⟩ := k
  exact ⟨f3, o, ax_go_mono _ _ _ _ _ _ _ _ _ _ k1 h4, k2⟩
end AXLC
