/-! the law's loop, cut at cases that are walked by hand -/
section AXLK
variable {X : Nat × (Nat → Int32)} {sp : Nat → Nat → Int × Int} {rf : Nat → Nat → Option Nat} {mx : ax_X} {mt : List (Nat × Nat)} {v : ax_V} {E : ax_E} {K : ax_K} {M : rx_M} {a : rx_K}
/-- at a case that is walked by hand: the state holds still -/
noncomputable def ax_lawC (sp : Nat → Nat → Int × Int) (c : ax_ct) (D : Nat) (E : ax_E) (K : ax_K) (d : Nat) (ls : List (Option Value)) : Bool := (Nat.beq d D && Nat.blt 0 E.1) && ax_ar sp c none none E K ls && (Nat.beq c.2.2.2.2.2.2.length 0 && (match sx_at none ls 4 with
  | some w => sx_isI w && (ax_leq E w (.retAddr 1) 0 && (ax_leq E (.retAddr 1) w 0 && ax_leq E (.retAddr 1) (.retAddr 0) 6))
  | none => false))
theorem ax_lawC_ok (hsa : ∀ q u n, rx_lay q = some (.inr (u, n)) → ∀ j, sp q j = sp q 0) {c : ax_ct} {D d : Nat} {ls : List (Option Value)} {W : ax_W} {y0 y1 : Value} {r : List ax_sr} (hsrc : c.2.2.2.2.1 = (2, 0, y0) :: (0, 4, y1) :: r) (h : ax_lawC sp c D E K d ls = true) (S : ax_St W sp rf v E K M a []) : ∃ v', ax_ok v' c.2.1 ∧ ax_kn v' c.2.2.1 M ∧ ax_lle (ax_ls v' c.2.2.2.1) (ax_ls v ls) ∧ (v' 0).1 = (v 0).1 ∧ ∃ w, sx_at none ls 4 = some w ∧ sx_isI w = true ∧ (v' 1).1 = ax_vi v w := by
  unfold ax_lawC at h
  rw [Bool.and_eq_true, Bool.and_eq_true, Bool.and_eq_true, Bool.and_eq_true] at h
  obtain ⟨⟨⟨-, h0⟩, h⟩, -, h4⟩ := h
  have h0 := Nat.blt_eq.mp h0
  split at h4
  · rename_i w hw
    rw [Bool.and_eq_true] at h4
    unfold ax_ar at h
    replace h := sx_cT (by intro q; cases q) h
    obtain ⟨hc, h⟩ := h
    rw [hsrc] at h
    have e2 : ∀ k, ax_ars sp ls k ((2, 0, y0) :: (0, 4, y1) :: r) [] E K = (match sx_at none ls 4 with
      | some w => ax_ars sp ls k r [.retAddr 0, w] E K
      | none => false) := fun k => rfl
    rw [e2, hw] at h
    have h := ax_ars_pre (k' := fun s E' K' => (ax_ec c.2.1 E' s && (c.2.2.1.all (ax_kc E' K' s) && ax_lsm E' s c.2.2.2.1 ls)) && decide (sx_at ax_dfl s 0 = .retAddr 0 ∧ sx_at ax_dfl s 1 = w)) r [.retAddr 0, w] E K (fun t E K hk => by
      rw [Bool.and_eq_true, Bool.and_eq_true, Bool.and_eq_true] at hk
      rw [Bool.and_eq_true, Bool.and_eq_true, Bool.and_eq_true]
      exact ⟨⟨hk.1, hk.2.1, hk.2.2.1⟩, decide_eq_true ⟨rfl, rfl⟩⟩) h
    refine ax_ars_ok (ls := ls) (n := E.1) (v := v) hsa (fun s E' K' v' hk S' hn hv => ?_) r _ E K v h S (Nat.le_refl _) (fun _ _ => rfl)
    rw [Bool.and_eq_true, Bool.and_eq_true, Bool.and_eq_true] at hk
    obtain ⟨⟨k1, k2, k3⟩, k4⟩ := hk
    obtain ⟨k4, k5⟩ := of_decide_eq_true k4
    have hE := S'.2.1
    have hsw : ax_sc E.1 w = true := by
      unfold ax_scO at hc
      rw [List.all_eq_true] at hc
      have : some w ∈ ls := by
        rw [sx_at_none] at hw
        cases hl : ls[4]? with
        | none => rw [hl] at hw; cases hw
        | some o =>
          rw [hl] at hw
          have e : o = some w := hw
          rw [e] at hl
          exact List.mem_of_getElem? hl
      exact hc _ this
    refine ⟨ax_vv v' s, ax_ec_ok hE k1, fun e he => ax_kc_ok hE S'.2.2.2.2.1 (List.all_eq_true.mp k2 e he), ?_, ?_, w, hw, h4.1, ?_⟩
    · rw [← ax_ag_ls hv hc]
      exact ax_lsm_ok hE _ _ k3
    · show (ax_vl v' (sx_at ax_dfl s 0)).1 = _
      rw [k4, ← hv 0 h0]
      rfl
    · show (ax_vl v' (sx_at ax_dfl s 1)).1 = _
      rw [k5, ax_vl_i h4.1, ax_ag_vi hv hsw]
  · cases h4
noncomputable def ax_tbC (pcs : List Nat) (sp : Nat → Nat → Int × Int) (c : ax_ct) (D : Nat) : ax_T := fun i pc => cond (Nat.beq i 249 && Nat.beq pc 23) (some (fun E K d ls => ax_law6 sp c D E K d ls)) (cond (Nat.beq i 249 && pcs.any (Nat.beq pc)) (some (fun E K d ls => ax_lawC sp c D E K d ls)) none)
noncomputable def ax_lrC (pcs : List Nat) (wd : ax_D) (sp : Nat → Nat → Int × Int) (rf : Nat → Nat → Option Nat) (mx : ax_X) (mt : List (Nat × Nat)) (hn : Nat → Nat → Nat) (sum : ax_Y) (D : Nat) (c : ax_ct) : Bool := (ax_wfb (5, c.2.1.2) && (ax_kwb 5 c.2.2.1 && (Nat.beq c.2.1.1 11 && (ax_scO 5 c.2.2.2.1 && (List.range 6).all (fun k => decide (ax_b c.2.1 (5 + k) = sx_full)))))) && ((decide (0 ≤ (ax_b c.2.1 1).1) && decide ((ax_b c.2.1 1).2 ≤ 3072)) && (decide (c.2.2.2.2.2.1 = [(true, .retAddr 1)]) && (decide (sx_at none c.2.2.2.1 4 = some (.retAddr 1)) && ax_stL wd sp rf mx mt ax_one1 (ax_runL wd sp rf mx mt ax_one1 hn (ax_tbC pcs sp c D) sum 599) c.2.1 c.2.2.1 D [] 249 23 c.2.2.2.1 [])))
theorem ax_lawcutR {RI : rx_M → Prop} {pcs : List Nat} (hm : ax_mxok sp mx) (hmt : ax_mtok rf mt) (hsa : ∀ q u n, rx_lay q = some (.inr (u, n)) → ∀ j, sp q j = sp q 0) {sum : ax_Y} (hY : ax_Yok X sp rf sum) {hn : Nat → Nat → Nat} {wd : ax_D} {D : Nat} {c : ax_ct} {B : Nat × Nat} (hX : X.1 ≤ 3072) (hr : ax_lrC pcs wd sp rf mx mt hn sum D c = true)
    (hRI : ∀ M M' : rx_M, (∀ q j, ¬ ax_wd wd q j → M'.1 q j = M.1 q j) → RI M → RI M')
    (HB : ∀ pc : Nat, pcs.any (Nat.beq pc) = true → ∀ (v2 : ax_V) (M : rx_M) (a : rx_K) (l : List (Option Value)), ax_ok v2 c.2.1 → ax_kn v2 c.2.2.1 M → ax_J0 sp rf M → RI M → ax_lle (ax_ls v2 c.2.2.2.1) l → (v2 0).1.toInt = (X.1 : Int) → 0 ≤ (v2 1).1.toInt → (v2 1).1.toInt + 6 ≤ (X.1 : Int) → a.1 = rx_cells → (∀ (v3 : ax_V) (M3 : rx_M) (a3 : rx_K) (l3 : List (Option Value)), ax_ok v3 c.2.1 → ax_kn v3 c.2.2.1 M3 → ax_J0 sp rf M3 → RI M3 → ax_lle (ax_ls v3 c.2.2.2.1) l3 → (v3 0).1.toInt = (X.1 : Int) → (v3 1).1.toInt = (v2 1).1.toInt + 6 → a3.1 = rx_cells → a3.2.1 ≤ a.2.1 → a3.2.2 ≤ a.2.2 → ∀ v9 : ax_V, ax_C X (ax_PL (B.1 + 307800, B.2 + 1846800)) v9 D [] 249 (23, l3, [], a3, M3)) → ∀ v9 : ax_V, ax_C X (ax_PL (B.1 + 307800, B.2 + 1846800)) v9 D [] 249 (pc, l, [], a, M))
    {l : List (Option Value)} (hst : ax_Ls X sp rf c B v M a l) (hst2 : RI M) {y0 y1 : Value} {r0 : List ax_sr} (hsrc : c.2.2.2.2.1 = (2, 0, y0) :: (0, 4, y1) :: r0) :
    ax_C X (ax_PL (B.1 + 307800, B.2 + 1846800)) v D [] 249 (23, l, [], a, M) := by
  unfold ax_lrC at hr
  simp only [Bool.and_eq_true, decide_eq_true_eq] at hr
  obtain ⟨⟨b1, b2, b3, b8, b9⟩, ⟨b4, b5⟩, b6, b7, hr⟩ := hr
  have b3 : c.2.1.1 = 11 := Nat.eq_of_beq_eq_true b3
  refine ax_loop (S := ax_V × rx_M × rx_K × List (Option Value)) (fun s => 100000 - (s.1 1).1.toInt.toNat) (I := fun s => ax_Ls X sp rf c B s.1 s.2.1 s.2.2.1 s.2.2.2 ∧ RI s.2.1) (C := fun s => ∀ v9 : ax_V, ax_C X (ax_PL (B.1 + 307800, B.2 + 1846800)) v9 D [] 249 (23, s.2.2.2, [], s.2.2.1, s.2.1)) ?_ (v, M, a, l) ⟨hst, hst2⟩ v
  rintro ⟨v, M, a, l⟩ ⟨⟨h1, h2, h3, h4, h5, h6, h7, h8⟩, h10⟩ IH v9
  dsimp only at h1 h2 h3 h4 h5 h6 h7 h8 h10 IH
  have hs1 : ax_vs X v 1 = v 1 := ax_vs_lt (by decide)
  have hs5 : ∀ c, c < 6 → (ax_vs X v (5 + c)).1 = X.2 ((ax_vs X v 1).1.toInt.toNat + c) := fun c hc => by rw [hs1]; exact ax_vs_5 hc
  have h1 := ax_vs_ok (X := X) b1 b9 h1
  have h2 := ax_ag_kn (v' := ax_vs X v) (n := 5) (fun j hj => ax_vs_lt hj) (ax_kwb_ok b2) h2
  have h4 : ax_lle (ax_ls (ax_vs X v) c.2.2.2.1) l := by rw [ax_ag_ls (n := 5) (fun j hj => ax_vs_lt hj) b8]; exact h4
  have h5 : (ax_vs X v 0).1.toInt = (X.1 : Int) := by rw [ax_vs_lt (by decide)]; exact h5
  have h7 : a.2.1 ≤ B.1 + 100 * (ax_vs X v 1).1.toInt.toNat := by rw [hs1]; exact h7
  have h8 : a.2.2 ≤ B.2 + 600 * (ax_vs X v 1).1.toInt.toNat := by rw [hs1]; exact h8
  have IH : ∀ t : ax_V × rx_M × rx_K × List (Option Value), ax_Ls X sp rf c B t.1 t.2.1 t.2.2.1 t.2.2.2 ∧ RI t.2.1 → 100000 - (t.1 1).1.toInt.toNat < 100000 - (ax_vs X v 1).1.toInt.toNat → ∀ v9 : ax_V, ax_C X (ax_PL (B.1 + 307800, B.2 + 1846800)) v9 D [] 249 (23, t.2.2.2, [], t.2.2.1, t.2.1) := by rw [hs1]; exact IH
  clear hs1
  revert hs5 h1 h2 h4 h5 h7 h8 IH
  generalize ax_vs X v = v
  intro hs5 h1 h2 h4 h5 h7 h8 IH
  have i1 := h1.1 1
  have hi : ((v 1).1.toInt.toNat : Int) = (v 1).1.toInt := by omega
  have hi2 : (v 1).1.toInt.toNat ≤ 3072 := by omega
  let n := (v 1).1.toInt.toNat
  let W : ax_W := (wd, (M.1, M.2.1, (0, 0)), (c.2.1.1, v))
  let C : Nat × Nat := (B.1 + 100 * n + 600, B.2 + 600 * n + 3600)
  have hW : ax_lw X W := ⟨Nat.le_of_eq b3.symm, ⟨h5, by omega⟩, by show 0 ≤ (v 1).1.toInt; omega, hs5⟩
  have hfin : ∀ E K w v' M' a', ax_one1 E K w = true → ax_St (ax_wc W C) sp rf v' E K M' a' [] → ax_PL (B.1 + 307800, B.2 + 1846800) (w.map (ax_v v')) (ax_mA a' M') := fun E K w v' M' a' h S => by
    unfold ax_one1 at h
    split at h
    · rename_i u
      split at h
      · rename_i x hx
        have h := of_decide_eq_true h
        refine ⟨?_, ?_⟩
        · rw [Option.map_some, ax_lit_ok S.2.1 hx, h]
        · have s6 := S.2.2.2.2.2.1
          have q1 : a'.2.1 ≤ B.1 + 100 * n + 600 := s6.2.1
          have q2 : a'.2.2 ≤ B.2 + 600 * n + 3600 := s6.2.2
          exact ax_le_mA (by dsimp only; omega) (by dsimp only; omega)
      · cases h
    · cases h
  have hTok : ax_Tok X (ax_PL (B.1 + 307800, B.2 + 1846800)) (ax_wc W C) sp rf (ax_tbC pcs sp c D) := by
    intro i pc chk hchk E K d ls hh v' M' a' S
    unfold ax_tbC at hchk
    cases hb : (Nat.beq i 249 && Nat.beq pc 23) with
    | false =>
      rw [hb, Bool.cond_false] at hchk
      cases hb2 : (Nat.beq i 249 && pcs.any (Nat.beq pc)) with
      | false => rw [hb2] at hchk; cases hchk
      | true =>
        rw [hb2] at hchk
        cases hchk
        rw [Bool.and_eq_true] at hb2
        have e1 := Nat.eq_of_beq_eq_true hb2.1
        subst e1
        have hh0 := hh
        unfold ax_lawC at hh
        simp only [Bool.and_eq_true] at hh
        obtain ⟨⟨⟨g1, -⟩, g2⟩, g3, g4⟩ := hh
        have g1 := Nat.eq_of_beq_eq_true g1
        subst g1
        obtain ⟨v2, p1, p2, p3, p4, w, p5, p6, p7⟩ := ax_lawC_ok hsa hsrc hh0 S
        rw [p5] at g4
        dsimp only at g4
        rw [Bool.and_eq_true, Bool.and_eq_true, Bool.and_eq_true] at g4
        obtain ⟨-, -, q4⟩ := ax_leq_ok S.2.1 g4.2.1
        obtain ⟨-, -, q5⟩ := ax_leq_ok S.2.1 g4.2.2.1
        obtain ⟨-, -, q6⟩ := ax_leq_ok S.2.1 g4.2.2.2
        have q4 : (ax_vi v' w).toInt + 0 ≤ (v' 1).1.toInt := q4
        have q5 : (v' 1).1.toInt + 0 ≤ (ax_vi v' w).toInt := q5
        have q6 : (v' 1).1.toInt + 6 ≤ (v' 0).1.toInt := q6
        have ag := S.2.2.2.2.2.2.2.2
        have a0 : v' 0 = v 0 := ag 0 (by show 0 < c.2.1.1; omega)
        have a1 : v' 1 = v 1 := ag 1 (by show 1 < c.2.1.1; omega)
        rw [← p7] at q4 q5
        have s6 := S.2.2.2.2.2.1
        have q1 : a'.2.1 ≤ B.1 + 100 * n + 600 := s6.2.1
        have q2 : a'.2.2 ≤ B.2 + 600 * n + 3600 := s6.2.2
        have hn2 : (n : Int) = (v 1).1.toInt := hi
        rw [a1] at q4 q5 q6
        rw [a0] at q6
        have hR := hRI M M' (fun q j hq => (S.2.2.2.1.2.2.1 q j hq).1) h10
        exact HB pc hb2.2 v2 M' a' (ax_ls v' ls) p1 p2 ⟨S.2.2.2.1.1, S.2.2.2.1.2.1, S.2.2.2.1.2.2.2⟩ hR p3 (by rw [p4, a0]; exact h5) (by omega) (by omega) s6.1 (fun v3 M3 a3 l3 k1 k2 k3 k10 k4 k5 k6 k7 k8 k9 v9 => IH (v3, M3, a3, l3) ⟨⟨k1, k2, k3, k4, k5, k7, by dsimp only; omega, by dsimp only; omega⟩, k10⟩ (by dsimp only; omega) v9) v'
    | true =>
      rw [hb] at hchk
      cases hchk
      rw [Bool.and_eq_true] at hb
      have e1 := Nat.eq_of_beq_eq_true hb.1
      have e2 := Nat.eq_of_beq_eq_true hb.2
      subst e1
      subst e2
      have hh0 := hh
      unfold ax_law6 at hh
      simp only [Bool.and_eq_true] at hh
      obtain ⟨⟨⟨g1, -⟩, g2⟩, g3, g4⟩ := hh
      have g1 := Nat.eq_of_beq_eq_true g1
      subst g1
      obtain ⟨v2, p1, p2, p3, p4, w, p5, p6, p7⟩ := ax_law6_ok hsa hsrc hh0 S
      rw [p5] at g4
      dsimp only at g4
      rw [Bool.and_eq_true] at g4
      obtain ⟨-, -, q6⟩ := ax_leq_ok S.2.1 g4.2
      have q6 : (v' 1).1.toInt + 6 ≤ (ax_vi v' w).toInt := q6
      have ag := S.2.2.2.2.2.2.2.2
      have a0 : v' 0 = v 0 := ag 0 (by show 0 < c.2.1.1; omega)
      have a1 : v' 1 = v 1 := ag 1 (by show 1 < c.2.1.1; omega)
      rw [a1, ← p7] at q6
      have s6 := S.2.2.2.2.2.1
      have q1 : a'.2.1 ≤ B.1 + 100 * n + 600 := s6.2.1
      have q2 : a'.2.2 ≤ B.2 + 600 * n + 3600 := s6.2.2
      have hn2 : (n : Int) = (v 1).1.toInt := hi
      have hR := hRI M M' (fun q j hq => (S.2.2.2.1.2.2.1 q j hq).1) h10
      exact IH (v2, M', a', ax_ls v' ls) ⟨⟨p1, p2, ⟨S.2.2.2.1.1, S.2.2.2.1.2.1, S.2.2.2.1.2.2.2⟩, p3, by rw [p4, a0]; exact h5, s6.1, by dsimp only; omega, by dsimp only; omega⟩, hR⟩ (by dsimp only; omega) v'
  have HS := ax_runL_ok (W := W) (c := C) (hn := hn) (fin := ax_one1) hW hm hmt hsa hfin hTok hY 599 (by show 599 ≤ B.1 + 100 * n + 600; omega) (by show 6 * 599 ≤ B.2 + 600 * n + 3600; omega)
  have f1 : (ax_cf C 599).1 = B.1 + 100 * n + 1 := by show B.1 + 100 * n + 600 - 599 = _; omega
  have f2 : (ax_cf C 599).2 = B.2 + 600 * n + 6 := by show B.2 + 600 * n + 3600 - 6 * 599 = _; omega
  have H0 := ax_stL_ok (W := W) (c := (B.1 + 100 * n, B.2 + 600 * n)) (c' := ax_cf C 599) (fin := ax_one1) (by rw [f1]; exact Nat.le_refl _) (by rw [f2]; exact Nat.le_refl _) hW hm hmt hsa (fun E K w v' M' a' h S => hfin E K w v' M' a' h (ax_St_c (by show B.1 + 100 * n ≤ B.1 + 100 * n + 600; omega) (by show B.2 + 600 * n ≤ B.2 + 600 * n + 3600; omega) S)) HS
  have k := H0 _ _ _ _ _ _ _ _ hr v M a ⟨ax_wfb_le b1 (by omega), h1, ax_kw_le (ax_kwb_ok b2) (by omega), ⟨h3.1, h3.2.1, fun _ _ _ => ⟨rfl, rfl⟩, h3.2.2⟩, h2, ⟨h6, h7, h8⟩, rfl, Nat.le_refl _, fun _ _ => rfl⟩
  obtain ⟨f3, o, k1, k2⟩ := k
  exact ⟨f3, o, ax_go_mono _ _ _ _ _ _ _ _ _ _ k1 h4, k2⟩
end AXLK
