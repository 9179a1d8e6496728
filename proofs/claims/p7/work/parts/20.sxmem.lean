/-! .. what reads and writes cells, calls, ends; a step -/
section SXM
variable {X : Nat × (Nat → Int32)} {L : Nat} {v : Nat → Int32} {E : sx_E} {i : Nat}
variable {pc : Nat} {ls : List (Option Value)} {st r : List Value} {a : rx_K} {S : sx_M} {R : sx_R}
theorem sx_v_rf (o : Option Nat) : sx_v v (va_rf o) = va_rf o := by cases o <;> rfl
theorem sx_m_i (q k : Nat) : (sx_m v S).1 q k = sx_vi v (sx_iv0 S.1 q k) := by
  show sx_mi v S.1 q k = _
  unfold sx_mi sx_iv0
  cases sx_get S.1 q k <;> rfl
theorem sx_m_set {q k : Nat} {w : Value} {z : Int32} (hw : sx_v v w = .int z) : sx_m v (sx_set S.1 q k w, S.2) = (rx_up (sx_m v S).1 q k z, (sx_m v S).2.1, (sx_m v S).2.2) := by
  have hz : sx_vi v w = z := by
    cases w with
    | int x => cases hw; rfl
    | retAddr x => cases hw; rfl
    | _ => cases hw
  have e : sx_mi v (sx_set S.1 q k w) = rx_up (sx_mi v S.1) q k z := by
    funext p j
    unfold sx_mi rx_up
    rw [sx_get_set]
    by_cases h : p = q
    · rw [if_pos h, if_pos h]
      by_cases h2 : j = k
      · rw [if_pos h2, if_pos h2]
        exact hz
      · rw [if_neg h2, if_neg h2]
    · rw [if_neg h, if_neg h]
  show (sx_mi v (sx_set S.1 q k w), _, _) = (rx_up (sx_mi v S.1) q k z, _, _)
  rw [e]
  rfl
theorem sx_m_setr {q k z : Nat} : sx_m v (S.1, sx_set S.2 q k z) = ((sx_m v S).1, rx_up (sx_m v S).2.1 q k (some z), (sx_m v S).2.2) := by
  have e : (fun p j => sx_get (sx_set S.2 q k z) p j) = rx_up (fun p j => sx_get S.2 p j) q k (some z) := by
    funext p j
    unfold rx_up
    rw [sx_get_set]
  show (_, (fun p j => sx_get (sx_set S.2 q k z) p j), _) = (_, rx_up (fun p j => sx_get S.2 p j) q k (some z), _)
  rw [e]
  rfl
theorem sx_m_srow {q n : Nat} : sx_m v (S.1, sx_srow S.2 q (sx_rw q n)) = ((sx_m v S).1, rx_mrow (sx_m v S).2.1 q n, (sx_m v S).2.2) := by
  have e : (fun p j => sx_get (sx_srow S.2 q (sx_rw q n)) p j) = rx_mrow (fun p j => sx_get S.2 p j) q n := by
    funext p j
    unfold rx_mrow sx_get
    rw [sx_row_srow]
    by_cases h : p = q
    · rw [if_pos h, if_pos h, sx_ag_rw]
    · rw [if_neg h, if_neg h]
  show (_, (fun p j => sx_get (sx_srow S.2 q (sx_rw q n)) p j), _) = (_, rx_mrow (fun p j => sx_get S.2 p j) q n, _)
  rw [e]
  rfl
theorem sx_pu_ok {w : Value} {z : Int32} (hz : sx_vi v w = z) (h : sx_pu w pc ls st a S = some R) : rx_nx pc (sx_ls v ls) (.int z :: st.map (sx_v v)) a (sx_m v S) = some (sx_cr v R) := by
  unfold sx_pu at h
  obtain ⟨hw, h⟩ := sx_cT (by intro z; cases z) h
  have K := sx_nr_ok (v := v) h
  rw [List.map_cons, sx_vI hw, hz] at K
  exact K
theorem sx_gf_ok {cn x : Nat} (h : sx_gf cn x pc ls st a S = .inl (some R)) : rx_gf cn x pc (sx_ls v ls) (st.map (sx_v v)) a (sx_m v S) = some (sx_cr v R) := by
  unfold sx_gf at h
  split at h
  · rename_i q r
    show rx_gf cn x pc (sx_ls v ls) (.ref q :: r.map (sx_v v)) a (sx_m v S) = _
    unfold rx_gf
    dsimp only
    split at h
    · rename_i ci k t fin hfl
      rw [hfl]
      dsimp only
      split at h
      · rename_i c hlay
        rw [hlay]
        dsimp only
        obtain ⟨hc, h⟩ := sx_cT sx_non h
        rw [Bool.and_eq_true] at hc
        rw [if_pos (Nat.blt_eq.mp hc.1), if_pos (Nat.eq_of_beq_eq_true hc.2)]
        split at h
        · have K := sx_nx_ok (v := v) h
          rw [List.map_cons, sx_v_rf] at K
          exact K
        · rename_i ht
          have K := sx_pu_ok (v := v) (sx_m_i q k).symm (Sum.inl.inj h)
          split
          · exact absurd rfl ht
          · exact K
      · exact (sx_no_no h).elim
    · exact (sx_no_no h).elim
  · exact (sx_no_no h).elim
theorem sx_pf_ok (hE : sx_ok v E) {ini : Bool} {cn x : Nat} (h : sx_pf E ini cn x pc ls st a S = .inl (some R)) : rx_pf ini cn x pc (sx_ls v ls) (st.map (sx_v v)) a (sx_m v S) = some (sx_cr v R) := by
  unfold sx_pf at h
  split at h
  · rename_i w q r
    show rx_pf ini cn x pc (sx_ls v ls) (sx_v v w :: .ref q :: r.map (sx_v v)) a (sx_m v S) = _
    unfold rx_pf
    dsimp only
    split at h
    · rename_i ci k t fin hfl
      rw [hfl]
      dsimp only
      split at h
      · rename_i c hlay
        rw [hlay]
        dsimp only
        obtain ⟨hc, h⟩ := sx_cT sx_non h
        simp only [Bool.and_eq_true] at hc
        have hn : ¬ (fin = true ∧ (ini = false ∨ ci ≠ cn)) := by
          rintro ⟨rfl, z⟩
          have h3 := hc.2
          rcases z with rfl | z
          · cases h3
          · rw [sx_beq, decide_eq_false z] at h3
            cases ini <;> cases h3
        rw [if_pos (Nat.blt_eq.mp hc.1.1), if_pos (Nat.eq_of_beq_eq_true hc.1.2), if_neg hn]
        split at h
        · obtain ⟨hw, h⟩ := sx_cT sx_non h
          have K := sx_nx_ok (v := v) h
          rw [sx_m_set (sx_vI hw)] at K
          rw [sx_vI hw]
          exact K
        · obtain ⟨z, hw, h⟩ := sx_n1_ok hE h
          split at h
          · rename_i hz
            have K := sx_nr_ok (v := v) h
            rw [sx_m_set (w := .int z) rfl] at K
            rw [hw]
            exact (if_pos hz).trans K
          · cases h
        · split at h
          · rename_i z
            obtain ⟨hz, h⟩ := sx_cT sx_non h
            have K := sx_nx_ok (v := v) h
            rw [sx_m_setr] at K
            exact (if_pos (Nat.blt_eq.mp hz)).trans K
          · exact (sx_no_no h).elim
        · exact (sx_no_no h).elim
      · exact (sx_no_no h).elim
    · exact (sx_no_no h).elim
  · exact (sx_no_no h).elim
theorem sx_al_ok (hE : sx_ok v E) (hX : X.1 = L) (hX2 : ∀ j, j < L → X.2 j = v j) {i0 t : Nat} (h : sx_al E L i0 t pc ls st a S = .inl (some R)) : rx_al X i0 t pc (sx_ls v ls) (st.map (sx_v v)) a (sx_m v S) = some (sx_cr v R) := by
  unfold sx_al at h
  split at h
  · rename_i w q r
    show rx_al X i0 t pc (sx_ls v ls) (sx_v v w :: .ref q :: r.map (sx_v v)) a (sx_m v S) = _
    split at h
    · rename_i u n hlay
      obtain ⟨hc, h⟩ := sx_cT sx_non h
      rw [Bool.and_eq_true] at hc
      obtain ⟨j, hw, h⟩ := sx_n1_ok hE h
      split at h
      · cases h
      · rename_i hj
        rw [hw]
        unfold rx_al
        dsimp only
        rw [hlay]
        dsimp only
        rw [if_pos (Nat.blt_eq.mp hc.1), if_pos (Nat.eq_of_beq_eq_true hc.2), if_neg hj]
        split at h
        · have K := sx_nr_ok (v := v) h
          rw [List.map_cons, sx_v_rf] at K
          exact K
        · cases h
        · rename_i h2 h3
          have K := sx_pu_ok (v := v) (sx_m_i q j.toNatClampNeg).symm h
          split
          · exact absurd rfl h2
          · exact absurd rfl h3
          · exact K
    · exact (sx_no_no h).elim
    · rename_i hlay
      obtain ⟨hc, h⟩ := sx_cT sx_non h
      simp only [Bool.and_eq_true] at hc
      obtain ⟨j, hw, h⟩ := sx_n1_ok hE h
      split at h
      · cases h
      · rename_i hj
        rw [hw]
        unfold rx_al
        dsimp only
        rw [hlay]
        dsimp only
        rw [if_pos ⟨Nat.eq_of_beq_eq_true hc.1.1, Nat.eq_of_beq_eq_true hc.1.2⟩, if_pos (Nat.eq_of_beq_eq_true hc.2), hX, if_neg hj, hX2 _ (by omega)]
        exact sx_nr_ok h
  · exact (sx_no_no h).elim
theorem sx_as_ok (hE : sx_ok v E) {t : Nat} (h : sx_as E t pc ls st a S = .inl (some R)) : rx_as t pc (sx_ls v ls) (st.map (sx_v v)) a (sx_m v S) = some (sx_cr v R) := by
  unfold sx_as at h
  split at h
  · rename_i w y q r
    show rx_as t pc (sx_ls v ls) (sx_v v w :: sx_v v y :: .ref q :: r.map (sx_v v)) a (sx_m v S) = _
    split at h
    · rename_i u n hlay
      obtain ⟨hc, h⟩ := sx_cT sx_non h
      rw [Bool.and_eq_true] at hc
      obtain ⟨j, hy, h⟩ := sx_n1_ok hE h
      split at h
      · cases h
      · rename_i hj
        rw [hy]
        unfold rx_as
        dsimp only
        rw [hlay]
        dsimp only
        rw [if_pos (Nat.blt_eq.mp hc.1), if_pos (Nat.eq_of_beq_eq_true hc.2), if_neg hj]
        split at h
        · obtain ⟨hw, h⟩ := sx_cT (by intro z; cases z) h
          have K := sx_nr_ok (v := v) h
          rw [sx_m_set (sx_vI hw)] at K
          rw [sx_vI hw]
          exact K
        · split at h
          · rename_i z hz
            rw [sx_lit_ok hE hz]
            split at h
            · rename_i h01
              have K := sx_nr_ok (v := v) h
              rw [sx_m_set (w := .int z) rfl] at K
              exact (if_pos h01).trans K
            · cases h
          · cases h
        · cases h
    · exact (sx_no_no h).elim
  · exact (sx_no_no h).elim
theorem sx_aln_ok (hX : X.1 = L) {i0 : Nat} (h : sx_aln L i0 pc ls st a S = .inl (some R)) : rx_aln X i0 pc (sx_ls v ls) (st.map (sx_v v)) a (sx_m v S) = some (sx_cr v R) := by
  unfold sx_aln at h
  split at h
  · rename_i q r
    show rx_aln X i0 pc (sx_ls v ls) (.ref q :: r.map (sx_v v)) a (sx_m v S) = _
    unfold rx_aln
    dsimp only
    split at h
    · rename_i u n hlay
      obtain ⟨hc, h⟩ := sx_cT sx_non h
      rw [Bool.and_eq_true] at hc
      rw [hlay]
      dsimp only
      rw [if_pos ⟨Nat.blt_eq.mp hc.1, Nat.blt_eq.mp hc.2⟩]
      exact sx_nx_ok h
    · exact (sx_no_no h).elim
    · rename_i hlay
      obtain ⟨hc, h⟩ := sx_cT sx_non h
      rw [Bool.and_eq_true] at hc
      rw [hlay]
      dsimp only
      rw [if_pos ⟨Nat.eq_of_beq_eq_true hc.1, Nat.eq_of_beq_eq_true hc.2⟩, hX]
      exact sx_nx_ok h
  · exact (sx_no_no h).elim
theorem sx_nwa_ok {t : ArrayType} (h : sx_nwa t pc ls st a S = .inl (some R)) : rx_nwa t pc (sx_ls v ls) (st.map (sx_v v)) a (sx_m v S) = some (sx_cr v R) := by
  unfold sx_nwa at h
  split at h
  · rename_i n r
    show rx_nwa t pc (sx_ls v ls) (.int n :: r.map (sx_v v)) a (sx_m v S) = _
    unfold rx_nwa
    dsimp only
    split at h
    · exact (sx_no_no h).elim
    · rename_i hn
      rw [if_neg hn]
      split at h
      · rename_i u k hlay
        rw [hlay]
        dsimp only
        split at h
        · rename_i hc
          rw [if_pos hc]
          exact sx_nx_ok h
        · exact (sx_no_no h).elim
      · exact (sx_no_no h).elim
  · exact (sx_no_no h).elim
theorem sx_mna_ok {cn x : Nat} (h : sx_mna cn x pc ls st a S = .inl (some R)) : rx_mna cn x pc (sx_ls v ls) (st.map (sx_v v)) a (sx_m v S) = some (sx_cr v R) := by
  unfold sx_mna at h
  split at h
  · rename_i k n r
    show rx_mna cn x pc (sx_ls v ls) (.int k :: .int n :: r.map (sx_v v)) a (sx_m v S) = _
    unfold rx_mna
    dsimp only
    split at h
    · exact (sx_no_no h).elim
    · rename_i hn
      rw [if_neg hn]
      split at h
      · exact (sx_no_no h).elim
      · rename_i u hm
        rw [hm]
        dsimp only
        split at h
        · rename_i hc
          rw [if_pos hc]
          have K := sx_nx_ok (v := v) h
          rw [sx_m_srow] at K
          exact K
        · exact (sx_no_no h).elim
  · exact (sx_no_no h).elim
theorem sx_new_ok {cn x : Nat} (h : sx_new cn x pc ls st a S = .inl (some R)) : rx_new cn x pc (sx_ls v ls) (st.map (sx_v v)) a (sx_m v S) = some (sx_cr v R) := by
  unfold sx_new at h
  unfold rx_new
  split at h
  · rename_i ci hw
    rw [hw]
    dsimp only
    split at h
    · rename_i hc
      rw [if_pos hc]
      exact sx_nx_ok h
    · exact (sx_no_no h).elim
  · rename_i X hw
    rw [hw]
    dsimp only
    split at h
    · cases h; rfl
    · exact (sx_no_no h).elim
  · exact (sx_no_no h).elim
theorem sx_tsw_ok (hE : sx_ok v E) {d lo hi : Int} {offs : Array Int} (h : sx_tsw E d lo hi offs pc ls st a S = .inl (some R)) : ∃ x r, st.map (sx_v v) = .int x :: r ∧ (if x.toInt < lo ∨ hi < x.toInt then rx_jmp pc d (sx_ls v ls) r a (sx_m v S) else match offs[(x.toInt - lo).toNat]? with
    | some o => rx_jmp pc o (sx_ls v ls) r a (sx_m v S)
    | none => none) = some (sx_cr v R) := by
  unfold sx_tsw at h
  split at h
  · rename_i w r
    cases hb : (sx_isI w && (decide ((sx_iv E w).2 < lo) || decide (hi < (sx_iv E w).1))) with
    | true =>
      rw [hb] at h
      rw [Bool.and_eq_true, Bool.or_eq_true] at hb
      have hi9 := sx_iv_ok hE hb.1
      refine ⟨sx_vi v w, r.map (sx_v v), by rw [List.map_cons, sx_vI hb.1], ?_⟩
      rw [if_pos (by rcases hb.2 with q | q <;> have q := of_decide_eq_true q <;> omega)]
      exact sx_jmp_ok h
    | false =>
      rw [hb] at h
      dsimp only [cond] at h
      split at h
      · rename_i x hx
        refine ⟨x, r.map (sx_v v), by rw [List.map_cons, sx_lit_ok hE hx], ?_⟩
        split at h
        · exact (sx_no_no h).elim
        · rename_i hn
          rw [if_neg hn]
          split at h
          · rename_i o ho
            rw [ho]
            exact sx_jmp_ok h
          · exact (sx_no_no h).elim
      · split at h
        · cases h
        · exact (sx_no_no h).elim
  · exact (sx_no_no h).elim
theorem sx_c8_map {r : List Value} : rx_c8 (r.map (sx_v v)) = rx_c8 r := by
  unfold rx_c8
  rw [List.map_map]
  have e : ((fun w : Value => w.category) ∘ sx_v v) = fun w => w.category := funext sx_v_cat
  rw [e]
theorem sx_cat1_map {r : List Value} : rx_cat1 (r.map (sx_v v)) = rx_cat1 r := by
  unfold rx_cat1
  rw [List.all_map]
  have e : ((fun w : Value => Nat.beq w.category 1) ∘ sx_v v) = fun w => Nat.beq w.category 1 := funext fun w => by
    show Nat.beq (sx_v v w).category 1 = _
    rw [sx_v_cat]
  rw [e]
theorem sx_cp0 {f : Nat → Nat → Int32} {k s e d : Nat} : rx_cp f k s e d 0 = f := by
  funext p j
  unfold rx_cp va_cpy
  by_cases h : p = e
  · rw [if_pos h, if_neg (by omega), h]
  · rw [if_neg h]
theorem sx_inv2 (hE : sx_ok v E) {f : Int32 → Int32 → Int32} (h : (match st with
      | y :: z :: r => cond (rx_c8 r) (sx_n2 E y z (fun y z => sx_nr (pc + 3) ls (.int (f y z) :: r) a S)) sx_no
      | _ => sx_no) = .inl (some R)) : (match st.map (sx_v v) with
      | .int y :: .int z :: r => cond (rx_c8 r) (rx_nx (pc + 3) (sx_ls v ls) (.int (f y z) :: r) a (sx_m v S)) none
      | _ => none) = some (sx_cr v R) := by
  match st, h with
  | [], h => exact (sx_no_no h).elim
  | [_], h => exact (sx_no_no h).elim
  | y :: z :: r, h =>
    obtain ⟨h8, h⟩ := sx_cT (b := rx_c8 r) sx_non h
    obtain ⟨y', z', hy, hz, h⟩ := sx_n2_ok hE h
    rw [List.map_cons, List.map_cons, hy, hz]
    dsimp only
    rw [sx_c8_map, h8]
    exact sx_nr_ok h
theorem sx_inv12 (h : (match st with
      | .int m :: .int dp :: .ref e :: .int sp :: .ref q :: r => (match rx_lay q, rx_lay e with
        | some (.inr (0, n0)), some (.inr (0, n1)) => if q < a.1 ∧ e < a.1 ∧ ¬ sp < 0 ∧ ¬ dp < 0 ∧ m = 0 ∧ sp.toNatClampNeg ≤ n0 ∧ dp.toNatClampNeg ≤ n1 then cond (rx_c8 r) (sx_nx (pc + 3) ls r a S) sx_no else sx_no
        | _, _ => sx_no)
      | _ => sx_no) = .inl (some R)) : (match st.map (sx_v v) with
        | .int m :: .int dp :: .ref e :: .int sp :: .ref q :: r => match rx_lay q, rx_lay e with
          | some (.inr (0, n0)), some (.inr (0, n1)) => if q < a.1 ∧ e < a.1 ∧ ¬ sp < 0 ∧ ¬ dp < 0 ∧ ¬ m < 0 ∧ sp.toNatClampNeg + m.toNatClampNeg ≤ n0 ∧ dp.toNatClampNeg + m.toNatClampNeg ≤ n1 then cond (rx_c8 r) (rx_nx (pc + 3) (sx_ls v ls) r a (rx_cp (sx_m v S).1 q sp.toNatClampNeg e dp.toNatClampNeg m.toNatClampNeg, (sx_m v S).2.1, (sx_m v S).2.2)) none else none
          | _, _ => none
        | _ => none) = some (sx_cr v R) := by
  split at h
  · rename_i m dp e sp q r
    show (match rx_lay q, rx_lay e with
          | some (.inr (0, n0)), some (.inr (0, n1)) => if q < a.1 ∧ e < a.1 ∧ ¬ sp < 0 ∧ ¬ dp < 0 ∧ ¬ m < 0 ∧ sp.toNatClampNeg + m.toNatClampNeg ≤ n0 ∧ dp.toNatClampNeg + m.toNatClampNeg ≤ n1 then cond (rx_c8 (r.map (sx_v v))) (rx_nx (pc + 3) (sx_ls v ls) (r.map (sx_v v)) a (rx_cp (sx_m v S).1 q sp.toNatClampNeg e dp.toNatClampNeg m.toNatClampNeg, (sx_m v S).2.1, (sx_m v S).2.2)) none else none
          | _, _ => none) = some (sx_cr v R)
    split at h
    · rename_i n0 n1 hq he
      split at h
      · rename_i hc
        obtain ⟨c1, c2, c3, c4, rfl, c6, c7⟩ := hc
        obtain ⟨h8, h⟩ := sx_cT sx_non h
        have m0 : (0 : Int32).toNatClampNeg = 0 := rfl
        rw [if_pos ⟨c1, c2, c3, c4, by decide, by rw [m0]; exact c6, by rw [m0]; exact c7⟩, sx_c8_map, h8, m0, sx_cp0]
        exact sx_nx_ok h
      · exact (sx_no_no h).elim
    · exact (sx_no_no h).elim
  · exact (sx_no_no h).elim
theorem sx_inv13 (h : (match st with
      | .ref _ :: r => cond (rx_c8 r) (sx_nx (pc + 3) ls r a S) sx_no
      | _ => sx_no) = .inl (some R)) : (match st.map (sx_v v) with | .ref _ :: r => cond (rx_c8 r) (rx_nx (pc + 3) (sx_ls v ls) r a (sx_m v S)) none | _ => none) = some (sx_cr v R) := by
  split at h
  · rename_i q r
    obtain ⟨h8, h⟩ := sx_cT (b := rx_c8 r) sx_non h
    show cond (rx_c8 (r.map (sx_v v))) (rx_nx (pc + 3) (sx_ls v ls) (r.map (sx_v v)) a (sx_m v S)) none = _
    rw [sx_c8_map, h8]
    exact sx_nx_ok h
  · exact (sx_no_no h).elim
theorem sx_invc {w kind j n : Nat} (h : cond (Nat.beq w (rx_kw kind)) (cond (Nat.beq w 1)
        (cond (rx_cat1 (st.take n) && rx_c8 (st.drop n) && Nat.beq (st.take n).length n) (.inl (some (.inr (.inl (j, (st.take n).reverse, (pc + 3, ls, st.drop n, a, S)))))) sx_no)
        (match st.drop n with
          | .ref b :: r => match rx_lay b with
            | some (.inl c) => cond (Nat.blt b a.1 && Nat.beq c (rx_cn j)) (cond (rx_cat1 (st.take n) && rx_c8 r && Nat.beq (st.take n).length n) (.inl (some (.inr (.inl (j, .ref b :: (st.take n).reverse, (pc + 3, ls, r, a, S)))))) sx_no) sx_no
            | _ => sx_no
          | _ => sx_no)) sx_no = .inl (some R)) : cond (Nat.beq w (rx_kw kind)) (cond (Nat.beq w 1)
        (cond (rx_cat1 ((st.map (sx_v v)).take n) && rx_c8 ((st.map (sx_v v)).drop n) && Nat.beq ((st.map (sx_v v)).take n).length n) (some (.inr (.inl (j, ((st.map (sx_v v)).take n).reverse, (pc + 3, sx_ls v ls, (st.map (sx_v v)).drop n, a, sx_m v S))))) none)
        (match (st.map (sx_v v)).drop n with
          | .ref b :: r => match rx_lay b with
            | some (.inl c) => if b < a.1 then (if c = rx_cn j then cond (rx_cat1 ((st.map (sx_v v)).take n) && rx_c8 r && Nat.beq ((st.map (sx_v v)).take n).length n) (some (.inr (.inl (j, .ref b :: ((st.map (sx_v v)).take n).reverse, (pc + 3, sx_ls v ls, r, a, sx_m v S))))) none else none) else none
            | _ => none
          | _ => none)) none = some (sx_cr v R) := by
  obtain ⟨hw, h⟩ := sx_cT sx_non h
  rw [hw, Bool.cond_true]
  have et : (st.map (sx_v v)).take n = (st.take n).map (sx_v v) := (List.map_take).symm
  have ed : (st.map (sx_v v)).drop n = (st.drop n).map (sx_v v) := (List.map_drop).symm
  rw [et, ed, sx_cat1_map, List.length_map]
  cases h1 : Nat.beq w 1 with
  | true =>
    rw [h1] at h
    obtain ⟨hc, h⟩ := sx_cT (b := (rx_cat1 (st.take n) && rx_c8 (st.drop n) && Nat.beq (st.take n).length n)) sx_non h
    rw [sx_c8_map, Bool.cond_true, hc]
    cases h
    show some _ = some _
    unfold sx_cr
    dsimp only
    rw [List.map_reverse]
    rfl
  | false =>
    rw [h1, Bool.cond_false] at h
    rw [Bool.cond_false]
    split at h
    · rename_i b r hdr
      rw [hdr]
      rw [List.map_cons]
      dsimp only [sx_v]
      split at h
      · rename_i c hlay
        obtain ⟨hb, h⟩ := sx_cT sx_non h
        rw [Bool.and_eq_true] at hb
        obtain ⟨hc, h⟩ := sx_cT sx_non h
        rw [if_pos (Nat.blt_eq.mp hb.1), if_pos (Nat.eq_of_beq_eq_true hb.2), sx_c8_map, hc]
        cases h
        show some _ = some _
        unfold sx_cr
        dsimp only
        rw [List.map_cons, List.map_reverse]
        rfl
      · exact (sx_no_no h).elim
    · exact (sx_no_no h).elim
theorem sx_inv_ok (hE : sx_ok v E) {w cn x : Nat} (h : sx_inv E w cn x pc ls st a S = .inl (some R)) : rx_inv w cn x pc (sx_ls v ls) (st.map (sx_v v)) a (sx_m v S) = some (sx_cr v R) := by
  unfold sx_inv at h
  unfold rx_inv
  cases hm : rx_ml cn x with
  | none => rw [hm] at h; exact (sx_no_no h).elim
  | some z =>
    obtain ⟨kind, j, n⟩ := z
    rw [hm] at h
    by_cases k10 : kind = 10
    · subst k10
      obtain ⟨hw, h⟩ := sx_cT (b := Nat.beq w 1) sx_non h
      exact (if_pos (Nat.eq_of_beq_eq_true hw)).trans (sx_inv2 hE (f := fun y z => if z < y then y else z) h)
    · by_cases k11 : kind = 11
      · subst k11
        obtain ⟨hw, h⟩ := sx_cT (b := Nat.beq w 1) sx_non h
        exact (if_pos (Nat.eq_of_beq_eq_true hw)).trans (sx_inv2 hE (f := fun y z => if y < z then y else z) h)
      · by_cases k12 : kind = 12
        · subst k12
          obtain ⟨hw, h⟩ := sx_cT (b := Nat.beq w 1) sx_non h
          exact (if_pos (Nat.eq_of_beq_eq_true hw)).trans (sx_inv12 h)
        · by_cases k13 : kind = 13
          · subst k13
            obtain ⟨hw, h⟩ := sx_cT (b := Nat.beq w 2) sx_non h
            exact (if_pos (Nat.eq_of_beq_eq_true hw)).trans (sx_inv13 h)
          · dsimp only at h ⊢
            split at h
            · exact absurd rfl k10
            · exact absurd rfl k11
            · exact absurd rfl k12
            · exact absurd rfl k13
            · split
              · exact absurd rfl k10
              · exact absurd rfl k11
              · exact absurd rfl k12
              · exact absurd rfl k13
              · exact sx_invc h
end SXM
