/-! what a run with unknown ints tells holds for every value of them: the parts of a step -/
section SXO
variable {X : Nat × (Nat → Int32)} {L : Nat} {v : Nat → Int32} {E : sx_E} {i : Nat}
variable {pc : Nat} {ls : List (Option Value)} {st r : List Value} {a : rx_K} {S : sx_M} {R : sx_R}
theorem sx_vI {w : Value} (h : sx_isI w = true) : sx_v v w = .int (sx_vi v w) := by
  cases w <;> first | rfl | cases h
theorem sx_iv_ok (hE : sx_ok v E) {w : Value} (h : sx_isI w = true) : (sx_iv E w).1 ≤ (sx_vi v w).toInt ∧ (sx_vi v w).toInt ≤ (sx_iv E w).2 := by
  cases w with
  | int x => exact ⟨Int.le_refl _, Int.le_refl _⟩
  | retAddr k => exact hE k
  | _ => cases h
theorem sx_lit_ok (hE : sx_ok v E) {w : Value} {x : Int32} (h : sx_lit E w = some x) : sx_v v w = .int x := by
  cases w with
  | int y => cases h; rfl
  | retAddr k =>
    have h' : cond (decide ((sx_at sx_full E k).1 = (sx_at sx_full E k).2)) (some (Int32.ofInt (sx_at sx_full E k).1)) none = some x := h
    by_cases e : (sx_at sx_full E k).1 = (sx_at sx_full E k).2
    · rw [decide_eq_true e] at h'
      cases h'
      have hk := hE k
      have e2 : (v k).toInt = (sx_at sx_full E k).1 := by omega
      show Value.int (v k) = _
      rw [← e2, Int32.ofInt_toInt]
    · rw [decide_eq_false e] at h'
      cases h'
  | _ => cases h
theorem sx_fk_no {w : Value} (h : sx_fk E w = .inl (some R)) : False := by
  cases w <;> cases h
theorem sx_n1_ok (hE : sx_ok v E) {w : Value} {f : Int32 → Option sx_R} (h : sx_n1 E w f = .inl (some R)) : ∃ x, sx_v v w = .int x ∧ f x = some R := by
  unfold sx_n1 at h
  split at h
  · rename_i x hx
    exact ⟨x, sx_lit_ok hE hx, Sum.inl.inj h⟩
  · exact (sx_fk_no h).elim
theorem sx_n2_ok (hE : sx_ok v E) {y x : Value} {f : Int32 → Int32 → Option sx_R} (h : sx_n2 E y x f = .inl (some R)) : ∃ y' x', sx_v v y = .int y' ∧ sx_v v x = .int x' ∧ f y' x' = some R := by
  unfold sx_n2 at h
  split at h
  · rename_i y' hy
    split at h
    · rename_i x' hx
      exact ⟨y', x', sx_lit_ok hE hy, sx_lit_ok hE hx, Sum.inl.inj h⟩
    · exact (sx_fk_no h).elim
  · exact (sx_fk_no h).elim
theorem sx_nr_ok (h : sx_nr pc ls st a S = some R) : rx_nx pc (sx_ls v ls) (st.map (sx_v v)) a (sx_m v S) = some (sx_cr v R) := by
  unfold sx_nr at h
  cases h
  rfl
theorem sx_nx_ok (h : sx_nx pc ls st a S = .inl (some R)) : rx_nx pc (sx_ls v ls) (st.map (sx_v v)) a (sx_m v S) = some (sx_cr v R) := by
  unfold sx_nx at h
  cases h
  rfl
theorem sx_no_no (h : sx_no = .inl (some R)) : False := by
  unfold sx_no at h
  cases h
theorem sx_ls_get {k : Nat} {w : Value} (h : ls[k]? = some (some w)) : (sx_ls v ls)[k]? = some (some (sx_v v w)) := by
  unfold sx_ls
  rw [List.getElem?_map, h]
  rfl
theorem sx_v_cat (w : Value) : (sx_v v w).category = w.category := by cases w <;> rfl
theorem sx_ls_len : (sx_ls v ls).length = ls.length := List.length_map _
theorem sx_ls_kill {k : Nat} : sx_ls v (rx_kill ls k) = rx_kill (sx_ls v ls) k := by
  unfold rx_kill
  cases k with
  | zero => rfl
  | succ j =>
    dsimp only
    have e : (sx_ls v ls)[j]? = (ls[j]?).map (Option.map (sx_v v)) := by unfold sx_ls; rw [List.getElem?_map]
    rw [e]
    cases ls[j]? with
    | none => rfl
    | some o =>
      cases o with
      | none => rfl
      | some w =>
        show sx_ls v (cond (Nat.beq w.category 2) (ls.set j none) ls) = cond (Nat.beq (sx_v v w).category 2) ((sx_ls v ls).set j none) (sx_ls v ls)
        rw [sx_v_cat]
        cases Nat.beq w.category 2
        · rfl
        · show sx_ls v (ls.set j none) = (sx_ls v ls).set j none
          unfold sx_ls
          rw [List.map_set]
          rfl
theorem sx_ls_set {k : Nat} {o : Option Value} : sx_ls v (ls.set k o) = (sx_ls v ls).set k (o.map (sx_v v)) := by
  unfold sx_ls
  rw [List.map_set]
theorem sx_ls_s1 {k : Nat} {w : Value} : sx_ls v (rx_s1 ls k w) = rx_s1 (sx_ls v ls) k (sx_v v w) := by
  unfold rx_s1
  rw [sx_ls_set, sx_ls_kill]
  rfl
theorem sx_ls_s2 {k : Nat} {w : Value} : sx_ls v (rx_s2 ls k w) = rx_s2 (sx_ls v ls) k (sx_v v w) := by
  unfold rx_s2
  rw [sx_ls_set, sx_ls_set, sx_ls_kill]
  rfl
theorem sx_cT {α : Type} {b : Bool} {x y z : α} (hy : y ≠ z) (h : cond b x y = z) : b = true ∧ x = z := by
  cases b
  · exact absurd h hy
  · exact ⟨rfl, h⟩
theorem sx_non : sx_no ≠ .inl (some R) := fun h => sx_no_no h
theorem sx_ld_ok {k sh : Nat} (h : sx_ld ls k sh pc st a S = .inl (some R)) : rx_ld (sx_ls v ls) k sh pc (st.map (sx_v v)) a (sx_m v S) = some (sx_cr v R) := by
  unfold sx_ld at h
  split at h
  · rename_i w hw
    obtain ⟨hs, h⟩ := sx_cT sx_non h
    unfold rx_ld
    rw [sx_ls_get hw]
    have K := sx_nx_ok (v := v) h
    cases w with
    | int x => rw [Nat.eq_of_beq_eq_true hs]; exact K
    | retAddr x => rw [Nat.eq_of_beq_eq_true hs]; exact K
    | ref x => rw [Nat.eq_of_beq_eq_true hs]; exact K
    | long x => rw [Nat.eq_of_beq_eq_true hs]; exact K
    | _ => cases hs
  · exact (sx_no_no h).elim
theorem sx_sto_ok {k sh : Nat} (h : sx_sto ls k sh pc st a S = .inl (some R)) : rx_sto (sx_ls v ls) k sh pc (st.map (sx_v v)) a (sx_m v S) = some (sx_cr v R) := by
  unfold sx_sto at h
  split at h
  · rename_i w r
    obtain ⟨hs, h⟩ := sx_cT sx_non h
    have k1 : ∀ y : Value, sx_v v w = y → Nat.beq sh 2 = false → k < (sx_ls v ls).length ∧ rx_nx pc (rx_s1 (sx_ls v ls) k y) (r.map (sx_v v)) a (sx_m v S) = some (sx_cr v R) := fun y hy hb => by
      rw [hb] at h
      obtain ⟨hl, h⟩ := sx_cT sx_non h
      have K := sx_nx_ok (v := v) h
      rw [sx_ls_s1, hy] at K
      exact ⟨by rw [sx_ls_len]; exact Nat.blt_eq.mp hl, K⟩
    unfold rx_sto
    cases w with
    | int x =>
      have e := Nat.eq_of_beq_eq_true hs
      subst e
      obtain ⟨q1, q2⟩ := k1 _ rfl rfl
      exact (if_pos q1).trans q2
    | retAddr x =>
      have e := Nat.eq_of_beq_eq_true hs
      subst e
      obtain ⟨q1, q2⟩ := k1 _ rfl rfl
      exact (if_pos q1).trans q2
    | ref x =>
      have e := Nat.eq_of_beq_eq_true hs
      subst e
      obtain ⟨q1, q2⟩ := k1 _ rfl rfl
      exact (if_pos q1).trans q2
    | long x =>
      have e := Nat.eq_of_beq_eq_true hs
      subst e
      obtain ⟨hl, h⟩ := sx_cT (b := Nat.blt (k + 1) ls.length) sx_non h
      have K := sx_nx_ok (v := v) h
      rw [sx_ls_s2] at K
      exact (if_pos (show k + 1 < (sx_ls v ls).length by rw [sx_ls_len]; exact Nat.blt_eq.mp hl)).trans K
    | _ => cases hs
  · exact (sx_no_no h).elim
theorem sx_bin_ok (hE : sx_ok v E) {f : Int32 → Int32 → Int32} (h : sx_bin E f pc ls st a S = .inl (some R)) : rx_bin f pc (sx_ls v ls) (st.map (sx_v v)) a (sx_m v S) = some (sx_cr v R) := by
  unfold sx_bin at h
  split at h
  · rename_i y x r
    obtain ⟨y', x', hy, hx, h⟩ := sx_n2_ok hE h
    show rx_bin f pc (sx_ls v ls) (sx_v v y :: sx_v v x :: r.map (sx_v v)) a (sx_m v S) = _
    rw [hy, hx]
    exact sx_nr_ok h
  · exact (sx_no_no h).elim
theorem sx_and_ok (hE : sx_ok v E) (hV : sx_val v) (h : sx_and E pc ls st a S = .inl (some R)) : rx_bin (fun x y => x &&& y) pc (sx_ls v ls) (st.map (sx_v v)) a (sx_m v S) = some (sx_cr v R) := by
  unfold sx_and at h
  split at h
  · rename_i c r
    obtain ⟨hc, h⟩ := sx_cT sx_non h
    rw [of_decide_eq_true hc]
    have K := sx_nx_ok (v := v) h
    have e : List.map (sx_v v) (Value.retAddr 6 :: r) = .int (v 0 &&& 63) :: r.map (sx_v v) := by rw [← hV.1]; rfl
    rw [e] at K
    exact K
  · exact sx_bin_ok hE h
theorem sx_zero_shr (y : Int32) : (0 : Int32) >>> y = 0 := by simp
theorem sx_shr_ok (hE : sx_ok v E) (h : sx_shr E pc ls st a S = .inl (some R)) : rx_bin (fun x y => x >>> (y &&& 31)) pc (sx_ls v ls) (st.map (sx_v v)) a (sx_m v S) = some (sx_cr v R) := by
  unfold sx_shr at h
  split at h
  · rename_i k c r
    by_cases hc : c = 0
    · rw [decide_eq_true hc] at h
      have K := sx_nx_ok (v := v) h
      subst hc
      have e : List.map (sx_v v) (Value.int 0 :: r) = .int ((0 : Int32) >>> (v k &&& 31)) :: r.map (sx_v v) := by rw [sx_zero_shr]; rfl
      rw [e] at K
      exact K
    · rw [decide_eq_false hc] at h
      exact sx_bin_ok hE h
  · exact sx_bin_ok hE h
theorem sx_div_ok (hE : sx_ok v E) (hV : sx_val v) (h : sx_div E pc ls st a S = .inl (some R)) : ∃ y x r, st.map (sx_v v) = .int y :: .int x :: r ∧ ¬ y = 0 ∧ rx_nx pc (sx_ls v ls) (.int (x / y) :: r) a (sx_m v S) = some (sx_cr v R) := by
  unfold sx_div at h
  split at h
  · rename_i y k r
    obtain ⟨hc, h⟩ := sx_cT sx_non h
    simp only [Bool.and_eq_true] at hc
    have K := sx_nx_ok (v := v) h
    have e : List.map (sx_v v) (Value.retAddr (k + 6) :: r) = .int (v k / 13) :: r.map (sx_v v) := by rw [← hV.2.1 k (Nat.le_of_ble_eq_true hc.2.1) (Nat.le_of_ble_eq_true hc.2.2)]; rfl
    rw [e] at K
    rw [of_decide_eq_true hc.1]
    exact ⟨13, v k, r.map (sx_v v), rfl, by decide, K⟩
  · rename_i y x r _
    obtain ⟨y', x', hy, hx, h⟩ := sx_n2_ok hE h
    split at h
    · cases h
    · rename_i h0
      refine ⟨y', x', r.map (sx_v v), ?_, h0, sx_nr_ok h⟩
      show sx_v v y :: sx_v v x :: r.map (sx_v v) = _
      rw [hy, hx]
  · exact (sx_no_no h).elim
theorem sx_rem_ok (hE : sx_ok v E) (hV : sx_val v) (h : sx_rem E pc ls st a S = .inl (some R)) : ∃ y x r, st.map (sx_v v) = .int y :: .int x :: r ∧ ¬ y = 0 ∧ rx_nx pc (sx_ls v ls) (.int (x - x / y * y) :: r) a (sx_m v S) = some (sx_cr v R) := by
  unfold sx_rem at h
  split at h
  · rename_i y k r
    obtain ⟨hc, h⟩ := sx_cT sx_non h
    simp only [Bool.and_eq_true] at hc
    have K := sx_nx_ok (v := v) h
    have e : List.map (sx_v v) (Value.retAddr (k + 5) :: r) = .int (v k - v k / 4 * 4) :: r.map (sx_v v) := by rw [← hV.2.2 k (Nat.le_of_ble_eq_true hc.2.1) (Nat.le_of_ble_eq_true hc.2.2)]; rfl
    rw [e] at K
    rw [of_decide_eq_true hc.1]
    exact ⟨4, v k, r.map (sx_v v), rfl, by decide, K⟩
  · rename_i y x r _
    obtain ⟨y', x', hy, hx, h⟩ := sx_n2_ok hE h
    split at h
    · cases h
    · rename_i h0
      refine ⟨y', x', r.map (sx_v v), ?_, h0, sx_nr_ok h⟩
      show sx_v v y :: sx_v v x :: r.map (sx_v v) = _
      rw [hy, hx]
  · exact (sx_no_no h).elim
theorem sx_un_ok (hE : sx_ok v E) {f : Int32 → Value} (hf : ∀ x, sx_v v (f x) = f x) (h : sx_un E f pc ls st a S = .inl (some R)) : ∃ x r, st.map (sx_v v) = .int x :: r ∧ rx_nx pc (sx_ls v ls) (f x :: r) a (sx_m v S) = some (sx_cr v R) := by
  unfold sx_un at h
  split at h
  · rename_i w r
    obtain ⟨x, hw, h⟩ := sx_n1_ok hE h
    have K := sx_nr_ok (v := v) h
    rw [List.map_cons, hf] at K
    exact ⟨x, r.map (sx_v v), by rw [List.map_cons, hw], K⟩
  · exact (sx_no_no h).elim
theorem sx_jr_ok {off : Int} (h : sx_jr pc off ls st a S = some R) : rx_jmp pc off (sx_ls v ls) (st.map (sx_v v)) a (sx_m v S) = some (sx_cr v R) := by
  unfold sx_jr at h
  unfold rx_jmp
  split at h
  · rename_i t ht
    rw [ht]
    exact sx_nr_ok h
  · cases h
theorem sx_jmp_ok {off : Int} (h : sx_jmp pc off ls st a S = .inl (some R)) : rx_jmp pc off (sx_ls v ls) (st.map (sx_v v)) a (sx_m v S) = some (sx_cr v R) := sx_jr_ok (Sum.inl.inj h)
theorem sx_brT {P : Prop} [Decidable P] {off : Int} {t : Nat} {l : List (Option Value)} {s : List Value} {M : rx_M} (ht : (pc : Int) + off = .ofNat t) (hp : P) : rx_br P pc off l s a M = rx_nx t l s a M := by
  unfold rx_br
  rw [ht]
  exact if_pos hp
theorem sx_brN {P : Prop} [Decidable P] {off : Int} {t : Nat} {l : List (Option Value)} {s : List Value} {M : rx_M} (ht : (pc : Int) + off = .ofNat t) (hp : ¬ P) : rx_br P pc off l s a M = rx_nx (pc + 3) l s a M := by
  unfold rx_br
  rw [ht]
  exact if_neg hp
theorem sx_lt_ok {p q : Int × Int} {x y : Int32} {b : Bool} (h : sx_lt p q = some b) (hx : p.1 ≤ x.toInt ∧ x.toInt ≤ p.2) (hy : q.1 ≤ y.toInt ∧ y.toInt ≤ q.2) : b = decide (x.toInt < y.toInt) := by
  unfold sx_lt at h
  by_cases c1 : p.2 < q.1
  · rw [decide_eq_true c1] at h
    cases h
    exact (decide_eq_true (by omega)).symm
  · rw [decide_eq_false c1] at h
    by_cases c2 : q.2 ≤ p.1
    · rw [decide_eq_true c2] at h
      cases h
      exact (decide_eq_false (by omega)).symm
    · rw [decide_eq_false c2] at h
      cases h
theorem sx_eq_ok {p q : Int × Int} {x y : Int32} {b : Bool} (h : sx_eq p q = some b) (hx : p.1 ≤ x.toInt ∧ x.toInt ≤ p.2) (hy : q.1 ≤ y.toInt ∧ y.toInt ≤ q.2) : b = decide (x.toInt = y.toInt) := by
  unfold sx_eq at h
  by_cases c1 : p.2 < q.1
  · rw [decide_eq_true c1] at h
    cases h
    exact (decide_eq_false (by omega)).symm
  · rw [decide_eq_false c1] at h
    by_cases c2 : q.2 < p.1
    · rw [decide_eq_true c2] at h
      cases h
      exact (decide_eq_false (by omega)).symm
    · rw [decide_eq_false c2] at h
      by_cases c3 : p.1 = p.2
      · by_cases c4 : q.1 = q.2
        · rw [decide_eq_true c3, decide_eq_true c4] at h
          cases h
          exact (decide_eq_true (by omega)).symm
        · rw [decide_eq_true c3, decide_eq_false c4] at h
          cases h
      · rw [decide_eq_false c3] at h
        cases h
noncomputable def sx_rbr (c : ClassFile.Cond) (x y : Int32) (pc : Nat) (off : Int) (l : List (Option Value)) (s : List Value) (a : rx_K) (M : rx_M) : Option rx_R := match c with
  | .eq => rx_br (x = y) pc off l s a M
  | .ne => rx_br (¬ x = y) pc off l s a M
  | .lt => rx_br (x < y) pc off l s a M
  | .ge => rx_br (y ≤ x) pc off l s a M
  | .gt => rx_br (y < x) pc off l s a M
  | .le => rx_br (x ≤ y) pc off l s a M
theorem sx_neg_ok {o : Option Bool} {b : Bool} (h : sx_neg o = some b) : o = some (!b) := by
  unfold sx_neg at h
  split at h <;> cases h <;> rfl
theorem sx_rbr_ok {c : ClassFile.Cond} {p q : Int × Int} {x y : Int32} {b : Bool} {off : Int} {t : Nat} {l : List (Option Value)} {s : List Value} {M : rx_M} (ht : (pc : Int) + off = .ofNat t) (h : sx_cmp c p q = some b) (hx : p.1 ≤ x.toInt ∧ x.toInt ≤ p.2) (hy : q.1 ≤ y.toInt ∧ y.toInt ≤ q.2) :
    sx_rbr c x y pc off l s a M = cond b (rx_nx t l s a M) (rx_nx (pc + 3) l s a M) := by
  have ee : x = y ↔ x.toInt = y.toInt := ⟨fun z => by rw [z], fun z => Int32.toInt_inj.mp z⟩
  unfold sx_cmp at h
  unfold sx_rbr
  cases c with
  | eq =>
    have e := sx_eq_ok h hx hy
    by_cases z : x.toInt = y.toInt
    · rw [decide_eq_true z] at e; rw [e]; exact sx_brT ht (ee.mpr z)
    · rw [decide_eq_false z] at e; rw [e]; exact sx_brN ht (fun k => z (ee.mp k))
  | ne =>
    have e := sx_eq_ok (sx_neg_ok h) hx hy
    by_cases z : x.toInt = y.toInt
    · rw [decide_eq_true z] at e; rw [show b = false by cases b <;> first | rfl | cases e]; exact sx_brN ht (fun k => k (ee.mpr z))
    · rw [decide_eq_false z] at e; rw [show b = true by cases b <;> first | rfl | cases e]; exact sx_brT ht (fun k => z (ee.mp k))
  | lt =>
    have e := sx_lt_ok h hx hy
    by_cases z : x.toInt < y.toInt
    · rw [decide_eq_true z] at e; rw [e]; exact sx_brT ht (Int32.lt_iff_toInt_lt.mpr z)
    · rw [decide_eq_false z] at e; rw [e]; exact sx_brN ht (fun k => z (Int32.lt_iff_toInt_lt.mp k))
  | ge =>
    have e := sx_lt_ok (sx_neg_ok h) hx hy
    by_cases z : x.toInt < y.toInt
    · rw [decide_eq_true z] at e; rw [show b = false by cases b <;> first | rfl | cases e]; exact sx_brN ht (fun k => absurd (Int32.le_iff_toInt_le.mp k) (by omega))
    · rw [decide_eq_false z] at e; rw [show b = true by cases b <;> first | rfl | cases e]; exact sx_brT ht (Int32.le_iff_toInt_le.mpr (by omega))
  | gt =>
    have e := sx_lt_ok h hy hx
    by_cases z : y.toInt < x.toInt
    · rw [decide_eq_true z] at e; rw [e]; exact sx_brT ht (Int32.lt_iff_toInt_lt.mpr z)
    · rw [decide_eq_false z] at e; rw [e]; exact sx_brN ht (fun k => z (Int32.lt_iff_toInt_lt.mp k))
  | le =>
    have e := sx_lt_ok (sx_neg_ok h) hy hx
    by_cases z : y.toInt < x.toInt
    · rw [decide_eq_true z] at e; rw [show b = false by cases b <;> first | rfl | cases e]; exact sx_brN ht (fun k => absurd (Int32.le_iff_toInt_le.mp k) (by omega))
    · rw [decide_eq_false z] at e; rw [show b = true by cases b <;> first | rfl | cases e]; exact sx_brT ht (Int32.le_iff_toInt_le.mpr (by omega))
theorem sx_spl1_no {x y : Value} (h : sx_spl1 E y x = .inl (some R)) : False := by
  unfold sx_spl1 at h
  split at h
  · cases h
  · exact sx_no_no h
theorem sx_spl_no {x y : Value} (h : sx_spl E x y = .inl (some R)) : False := by
  unfold sx_spl at h
  split at h
  · rename_i k
    cases hb : decide ((sx_iv E (.retAddr k)).1 = (sx_iv E (.retAddr k)).2) <;> rw [hb] at h
    · cases h
    · exact sx_spl1_no h
  · exact sx_spl1_no h
theorem sx_br_ok (hE : sx_ok v E) {c : ClassFile.Cond} {x y : Value} {off : Int} (h : sx_br E c x y pc off ls st a S = .inl (some R)) : ∃ x' y', sx_v v x = .int x' ∧ sx_v v y = .int y' ∧ sx_rbr c x' y' pc off (sx_ls v ls) (st.map (sx_v v)) a (sx_m v S) = some (sx_cr v R) := by
  unfold sx_br at h
  obtain ⟨hc, h⟩ := sx_cT sx_non h
  rw [Bool.and_eq_true] at hc
  refine ⟨_, _, sx_vI hc.1, sx_vI hc.2, ?_⟩
  split at h
  · rename_i t ht
    split at h
    · rename_i hb
      rw [sx_rbr_ok ht hb (sx_iv_ok hE hc.1) (sx_iv_ok hE hc.2)]
      exact sx_nx_ok h
    · rename_i hb
      rw [sx_rbr_ok ht hb (sx_iv_ok hE hc.1) (sx_iv_ok hE hc.2)]
      exact sx_nx_ok h
    · exact (sx_spl_no h).elim
  · exact (sx_no_no h).elim
end SXO
