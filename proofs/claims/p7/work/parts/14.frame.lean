/-! a frame runs to its end -/
theorem rx_catj {j : Nat} (h : rx_cat j = true) : j = 247 ∨ j = 248 := by
  unfold rx_cat at h
  rw [Bool.or_eq_true] at h
  rcases h with h | h
  · exact Or.inl (Nat.eq_of_beq_eq_true h)
  · exact Or.inr (Nat.eq_of_beq_eq_true h)
theorem rx_okC_ok {kind j n : Nat} (h : rx_okC kind j n = true) : n = rx_na j ∧ rx_kw kind = rx_knd j ∧ rx_cal j = true ∧ (Nat.beq kind 6 = rx_cat j) := by
  unfold rx_okC at h
  simp only [Bool.and_eq_true] at h
  exact ⟨Nat.eq_of_beq_eq_true h.1.1.1, Nat.eq_of_beq_eq_true h.1.1.2, h.1.2, eq_of_beq h.2⟩
theorem rx_jf {j : Nat} (hj : j < rx_n) (hc : rx_cal j = true) : (rx_y j).cls ≠ "java/lang/invoke/MethodHandle" ∧ (rx_y j).cls ≠ "java/lang/invoke/VarHandle" ∧ (parseMethodDescriptor (rx_y j).desc).map (fun d => d.parameters.length) = some (rx_na j) ∧ Cond.initialized (rx_y j).cls ∈ lw_tbl ∧ rx_cw j ∈ lw_tbl ∧
    (rx_knd j = 0 → Cond.instanceMethod (rx_y j) ∈ lw_tbl ∧ Cond.selects (rx_y j).cls (rx_y j) (rx_y j) ∈ lw_tbl ∧ rx_cn j < 12) ∧ (rx_knd j = 1 → Cond.static (rx_y j) ∈ lw_tbl) ∧ (rx_knd j = 2 → Cond.instanceMethod (rx_y j) ∈ lw_tbl ∧ rx_ini j = true ∧ rx_rt j = none ∧ rx_cn j < 12) ∧ rx_na j + (cond (Nat.beq (rx_knd j) 1) 0 1) ≤ rx_mx j := by
  have h := rx_jk hj
  unfold rx_okJ at h
  rw [hc] at h
  simp only [Bool.and_eq_true, Bool.not_true, Bool.false_or] at h
  obtain ⟨-, ⟨⟨⟨⟨⟨h1, h2⟩, h3⟩, h4⟩, h5⟩, h6⟩, h7⟩ := h
  refine ⟨of_decide_eq_true h1, of_decide_eq_true h2, of_decide_eq_true h3, rx_tt_mem h5, rx_tt_mem h6, fun hk => ?_, fun hk => ?_, fun hk => ?_, Nat.le_of_ble_eq_true h7⟩
  · rw [hk] at h4
    simp only [Bool.and_eq_true] at h4
    exact ⟨rx_tt_mem h4.1.1, rx_tt_mem h4.1.2, Nat.blt_eq.mp h4.2⟩
  · rw [hk] at h4
    exact rx_tt_mem h4
  · rw [hk] at h4
    simp only [Bool.and_eq_true] at h4
    exact ⟨rx_tt_mem h4.1.1.1, h4.1.1.2, of_decide_eq_true h4.1.2, Nat.blt_eq.mp h4.2⟩
theorem rx_gcw (j : Nat) : goodWord (rx_cw j) = true := by
  unfold rx_cw
  cases rx_cat j <;> rfl
theorem rx_room {d x mc ms : Nat} {R : Room} (h1 : d + 1 + 8 ≤ R.frames) (h2 : 64 * (d + 1) + 300 ≤ R.locals) (hx : x ≤ 45) : (rx_rm d mc ms).frames + 1 ≤ R.frames ∧ 8 + (x + 11) + (rx_rm d mc ms).locals ≤ R.locals := by
  unfold rx_rm
  dsimp only
  omega
theorem rx_andp {a b : Bool} (h : (a && b) = true) : a = true ∧ b = true := by
  rw [Bool.and_eq_true] at h
  exact h
section RXF
variable {X : Nat × (Nat → Int32)} {p : Program} {l : Launch} {e : Env} {R : Room} {s : State} {m : MethodId} {args : Array Value} {below : List Frame} {meth : Method} {c : Code} {Q : State → Prop} {i d : Nat} {A : Nat → Prop} {D : va_G} {I : rx_I} {k0 : Nat × Nat} {ρ0 : Nat → Nat} {n0 : Nat}
variable {pc : Nat} {ls : List (Option Value)} {st r : List Value} {a : rx_K} {M : rx_M}
theorem rx_gws {j : Nat} (h : rx_cw j ∈ lw_tbl) : GoodIn rx_B (rx_ws j) := fun w hw => by
  rcases List.mem_cons.mp hw with e9 | h9
  · rw [e9]; exact rx_gw h (rx_gcw j)
  · exact rx_gB w h9
theorem rx_g4 {B L : List Cond} {w1 w2 w3 w4 : Cond} (h1 : w1 ∈ B ∧ ((w1.onTables && w1.keeps) = true ∨ ∃ ty, w1 = .arrayClass ty)) (h2 : w2 ∈ B ∧ ((w2.onTables && w2.keeps) = true ∨ ∃ ty, w2 = .arrayClass ty)) (h3 : w3 ∈ B ∧ ((w3.onTables && w3.keeps) = true ∨ ∃ ty, w3 = .arrayClass ty)) (h4 : w4 ∈ B ∧ ((w4.onTables && w4.keeps) = true ∨ ∃ ty, w4 = .arrayClass ty)) (h : GoodIn B L) : GoodIn B ([w1, w2, w3, w4] ++ L) := fun w hw => by
  rcases List.mem_append.mp hw with q | q
  · simp only [List.mem_cons, List.not_mem_nil, or_false] at q
    rcases q with rfl | rfl | rfl | rfl
    · exact h1
    · exact h2
    · exact h3
    · exact h4
  · exact h w q
theorem rx_g3 {B L : List Cond} {w1 w2 w3 : Cond} (h1 : w1 ∈ B ∧ ((w1.onTables && w1.keeps) = true ∨ ∃ ty, w1 = .arrayClass ty)) (h2 : w2 ∈ B ∧ ((w2.onTables && w2.keeps) = true ∨ ∃ ty, w2 = .arrayClass ty)) (h3 : w3 ∈ B ∧ ((w3.onTables && w3.keeps) = true ∨ ∃ ty, w3 = .arrayClass ty)) (h : GoodIn B L) : GoodIn B ([w1, w2, w3] ++ L) := fun w hw => by
  rcases List.mem_append.mp hw with q | q
  · simp only [List.mem_cons, List.not_mem_nil, or_false] at q
    rcases q with rfl | rfl | rfl
    · exact h1
    · exact h2
    · exact h3
  · exact h w q
theorem rx_tr_nr {ρ : Nat → Nat} {rv : Option Value} (h : rx_nr rv) : rv.map (rx_tr ρ) = rv := by
  rcases h with rfl | ⟨x, rfl⟩ | ⟨x, rfl⟩ <;> rfl
theorem rx_drop_map {n : Nat} {ρ : Nat → Nat} {st : List Value} : (st.take n).map (rx_tr ρ) ++ (st.drop n).map (rx_tr ρ) = st.map (rx_tr ρ) := by
  rw [← List.map_append, List.take_append_drop]
/-- what a call site has: its link, its callee's words, its arguments -/
theorem rx_site {j : Nat} {vs : List Value} {c2 : rx_C} (hst : rx_stp X i (pc, ls, st, a, M) = some (.inr (.inl (j, vs, c2)))) :
    ∃ (x kind n : Nat) (r : List Value), decode (rx_c i) pc = .ok (rx_ivi (rx_kw kind) x, 3) ∧ c2 = (pc + 3, ls, r, a, M) ∧ rx_c8 r = true ∧ rx_cat1 (st.take n) = true ∧ (st.take n).length = n ∧ n = rx_na j ∧ rx_kw kind = rx_knd j ∧ rx_cal j = true ∧ (Nat.beq kind 6 = rx_cat j) ∧
      ((kind < 3 ∨ kind = 6) ∧ Cond.methodLink (rx_cls (rx_cn i)) x (rx_y j) ∈ lw_tbl ∨ (3 ≤ kind ∧ kind < 6) ∧ Cond.methodLinkNest (rx_cls (rx_cn i)) x (rx_y j) "HourValley" ∈ lw_tbl) ∧
      ((rx_kw kind = 1 ∧ vs = (st.take n).reverse ∧ st.drop n = r) ∨ (rx_kw kind ≠ 1 ∧ ∃ b, vs = .ref b :: (st.take n).reverse ∧ st.drop n = .ref b :: r ∧ rx_lay b = some (.inl (rx_cn j)) ∧ b < a.1)) := by
  obtain ⟨w, x, kind, n, ht, hm, hw, hw3, k1, k2, k3, k4, r, rfl, h8, hc1, hn9, hcase⟩ := rx_stp_call hst
  have hdd := rx_dec1 ht (by match w, hw3 with | 0, _ => rfl | 1, _ => rfl | 2, _ => rfl)
  have hd3 : decode (rx_c i) pc = .ok (rx_ivi w x, 3) := by
    match w, hw3, hdd with
    | 0, _, h => exact h
    | 1, _, h => exact h
    | 2, _, h => exact h
  have hM := rx_ml_ok hm
  unfold rx_okM at hM
  rw [hm] at hM
  generalize hp : rx_mlp (rx_cn i) x = P at hM
  obtain ⟨p0, p1, p2, p3, p4⟩ := P
  have key : rx_okC kind j n = true ∧ ((kind < 3 ∨ kind = 6) ∧ Cond.methodLink (rx_cls (rx_cn i)) x (rx_y j) ∈ lw_tbl ∨ (3 ≤ kind ∧ kind < 6) ∧ Cond.methodLinkNest (rx_cls (rx_cn i)) x (rx_y j) "HourValley" ∈ lw_tbl) := by
    match kind, hw, hw3, k1, k2, k3, k4, hM with
    | 0, _, _, _, _, _, _, hM =>
      have h9 := rx_andp hM
      exact ⟨h9.1, Or.inl ⟨Or.inl (by decide), rx_tt_mem h9.2⟩⟩
    | 1, _, _, _, _, _, _, hM =>
      have h9 := rx_andp hM
      exact ⟨h9.1, Or.inl ⟨Or.inl (by decide), rx_tt_mem h9.2⟩⟩
    | 2, _, _, _, _, _, _, hM =>
      have h9 := rx_andp hM
      exact ⟨h9.1, Or.inl ⟨Or.inl (by decide), rx_tt_mem h9.2⟩⟩
    | 3, _, _, _, _, _, _, hM =>
      have h9 := rx_andp hM
      exact ⟨h9.1, Or.inr ⟨⟨by decide, by decide⟩, rx_tt_mem h9.2⟩⟩
    | 4, _, _, _, _, _, _, hM =>
      have h9 := rx_andp hM
      exact ⟨h9.1, Or.inr ⟨⟨by decide, by decide⟩, rx_tt_mem h9.2⟩⟩
    | 5, _, _, _, _, _, _, hM =>
      have h9 := rx_andp hM
      exact ⟨h9.1, Or.inr ⟨⟨by decide, by decide⟩, rx_tt_mem h9.2⟩⟩
    | 6, _, _, _, _, _, _, hM =>
      have h9 := rx_andp hM
      exact ⟨h9.1, Or.inl ⟨Or.inr rfl, rx_tt_mem h9.2⟩⟩
    | kd + 7, hw, hw3, _, _, _, _, _ =>
      rw [hw] at hw3
      exact absurd hw3 (by show ¬ 9 < 3; decide)
  obtain ⟨hC, hl⟩ := key
  obtain ⟨c1, c2, c3, c4⟩ := rx_okC_ok hC
  subst hw
  exact ⟨x, kind, n, r, hd3, rfl, h8, hc1, hn9, c1, c2, c3, c4, hl, hcase⟩
/-- the run of a call whose callee returns -/
theorem rx_callrun {f : Nat} (hFL : rx_FLs X l f) (S : rx_St p R s m args meth c i (d + 1) A D I) {j : Nat} {vs : List Value} {c2 : rx_C} (hst : rx_stp X i (pc, ls, st, a, M) = some (.inr (.inl (j, vs, c2)))) {rv : Option Value} {a2 : rx_K} {M2 : rx_M} (hgo : rx_go X f d j (rx_ent j vs a M) = some (rv, a2, M2)) (hnr : rx_nr rv)
    (hlaw : j ≠ rx_law) {ρ : Nat → Nat} {H : Heap} {locs : List Loc} {lsr : Array Slot} {cells slots : Nat} (hD : rx_Dy X s A D I ρ n0 i ls st a M H locs lsr) (hc : cells + (a2.2.1 - a.2.1) ≤ R.cells) (hs : slots + (a2.2.2 - a.2.2) ≤ R.slots) :
    ∃ r av, c2 = (pc + 3, ls, r, a, M) ∧ (∀ v ∈ r, rx_rk a.1 v) ∧ va_Run p l e R s m args below meth c H locs cells slots (a2.2.1 - a.2.1) (a2.2.2 - a.2.2) (F0 m pc lsr (st.map (rx_tr ρ))) (r.map (rx_tr ρ)) (rx_Qc D I ρ a M H.size rv a2 M2 av) (va_A (rx_wl I ρ M a.1) H.size) := by
  obtain ⟨x, kind, n, r, hd3, rfl, h8, hc1, hn9, hna, hkn, hcal, hcat, hlink, hcase⟩ := rx_site hst
  have hjn : j < rx_n := rx_go_lt hgo
  obtain ⟨z1, z2, z3, yI, yC, y0, y1, y2, ymx⟩ := rx_jf hjn hcal
  rw [← hna] at z3 ymx
  have hstk : ∀ v ∈ st, rx_rk a.1 v := hD.st
  have hrks : ∀ v ∈ st.take n, rx_rk a.1 v := fun v hv => hstk v (List.mem_of_mem_take hv)
  have hrkd : ∀ v ∈ st.drop n, rx_rk a.1 v := fun v hv => hstk v (List.mem_of_mem_drop hv)
  have hc1r : rx_cat1 (st.take n).reverse = true := by
    unfold rx_cat1 at hc1 ⊢
    rw [List.all_eq_true] at hc1 ⊢
    exact fun v hv => hc1 v (List.mem_reverse.mp hv)
  have hmok := hD.2.2.2.2.2.2.2.2.1
  have hcel := hD.2.2.2.2.2.1
  have hl := hD.2.2.2.1
  have hfix : CallFix p m c (rx_c i) (rx_mx i) s args rx_B (rx_cls (rx_cn i)) := ⟨S.1, S.2.1, S.2.2.1, S.2.2.2.1, S.2.2.2.2.1⟩
  have hfr := S.2.2.2.2.2.2.2.2.1
  have hlo := S.2.2.2.2.2.2.2.2.2.1
  have h82 := rx_c8_ok (ρ := ρ) h8
  have hmx : rx_mx j ≤ 45 := by
    have h := rx_jk hjn
    unfold rx_okJ at h
    simp only [Bool.and_eq_true] at h
    exact Nat.le_of_ble_eq_true h.1.2
  have hRM : (rx_rm d (a2.2.1 - a.2.1) (a2.2.2 - a.2.2)).frames + 1 ≤ R.frames ∧ 8 + (rx_mx j + 11) + (rx_rm d (a2.2.1 - a.2.1) (a2.2.2 - a.2.2)).locals ≤ R.locals := rx_room hfr hlo hmx
  have hpre : ∀ U : State, U.heap = H → s.WarmedH U.vm → rx_Pre D I ρ a M H.size U := fun U hU hW => ⟨by rw [hU], by rw [hU]; exact hD.1, va_K.moved hW.alike S.2.2.2.2.2.2.1, hD.2.1.weaken (fun _ _ _ _ => trivial), rx_NW.warm hW S.2.2.2.2.2.1, S.2.2.2.2.2.2.2.2.2.2.2.1.step hD.2.2.1 (rx_wl_A hD.2.1 hD.2.2.1 S.2.2.2.2.2.2.2.2.2.2.1) hU hW⟩
  have hmap : ∀ (q : List Value), (st.drop n) = q → ((st.take n).reverse.map (rx_tr ρ)).reverse ++ q.map (rx_tr ρ) = st.map (rx_tr ρ) := fun q hq => by
    rw [← hq, ← List.map_reverse, List.reverse_reverse, rx_drop_map]
  have hgw := rx_gws yC
  have bI : (Cond.initialized (rx_y j).cls).before args s = true := S.2.2.2.2.1 _ (rx_B_mem yI rfl)
  have hnn : ((st.take n).reverse.map (rx_tr ρ)).length = n := by rw [List.length_map, List.length_reverse, hn9]
  have hcw0 : rx_cat j = false → rx_ws j = .code (rx_y j) (rx_c j) (rx_mx j) (rx_rt j) :: rx_B := fun h => by
    unfold rx_ws rx_cw
    rw [h]
    rfl
  have hcw1 : rx_cat j = true → rx_ws j = .codeWith (rx_y j) (rx_c j) (rx_mx j) (rx_rt j) (rx_hh j) :: rx_B := fun h => by
    unfold rx_ws rx_cw
    rw [h]
    rfl
  rcases hcase with ⟨hw1, rfl, hdr⟩ | ⟨hw1, b, rfl, hdr, hlay, hba⟩
  · have hlen : (st.take n).reverse.length ≤ rx_mx j := by
      rw [List.length_reverse, hn9]
      omega
    have hMet := rx_met hFL hgo hlaw hnr ρ H.size hc1r hlen (fun v hv => hrks v (List.mem_reverse.mp hv)) hmok hcel D I
    refine ⟨r, ((st.take n).reverse.map (rx_tr ρ)).toArray, rfl, fun v hv => hrkd v (by rw [hdr]; exact hv), ?_⟩
    have hps : PreS s H (va_Pc ((st.take n).reverse.map (rx_tr ρ)) (rx_Pre D I ρ a M H.size)) ((st.take n).reverse.map (rx_tr ρ)) := ⟨rx_Pre.blind, fun U hU hW => ⟨rfl, hpre U hU hW⟩⟩
    have hst9 : st.map (rx_tr ρ) = ((st.take n).reverse.map (rx_tr ρ)).reverse ++ r.map (rx_tr ρ) := (hmap r hdr).symm
    have ys := y1 (hkn.symm.trans hw1)
    rw [hw1] at hd3
    rcases hlink with ⟨hk, hlk⟩ | ⟨hk, hlk⟩
    · cases hct : rx_cat j with
      | false =>
        have cw := va_cwS (R := R) (s := s) (args := args) (own := rx_cls (rx_cn i)) (index := x) n S.2.2.2.2.1 (rm := rx_rm d (a2.2.1 - a.2.1) (a2.2.2 - a.2.2)) (rx_g3 (rx_gw hlk rfl) (rx_gw ys rfl) (rx_gw yI rfl) hgw) (hcw0 hct) rfl rfl ⟨z1, z2, z3⟩ hRM
        exact va_runS hfix hMet cw hps rfl hnn hl.2.1 hst9 (lv_room h82) hd3 ⟨hc, hs⟩
      | true =>
        have cw := vx_cwSW (R := R) (s := s) (args := args) (own := rx_cls (rx_cn i)) (index := x) n S.2.2.2.2.1 (rm := rx_rm d (a2.2.1 - a.2.1) (a2.2.2 - a.2.2)) (rx_g3 (rx_gw hlk rfl) (rx_gw ys rfl) (rx_gw yI rfl) hgw) (hcw1 hct) rfl rfl ⟨z1, z2, z3⟩ hRM
        exact vx_runSW hfix hMet cw hps rfl hnn hl.2.1 hst9 (lv_room h82) hd3 ⟨hc, hs⟩
    · have hct : rx_cat j = false := by
        rw [← hcat]
        cases hh : Nat.beq kind 6
        · rfl
        · have := Nat.eq_of_beq_eq_true hh
          omega
      have cn := va_cnB (R := R) (s := s) (args := args) n S.2.2.2.2.1 hgw (hcw0 hct) (rm := rx_rm d (a2.2.1 - a.2.1) (a2.2.2 - a.2.2)) rfl rfl (S.2.2.2.2.2.1.1 _ hlk rfl) bI ⟨z1, z2, z3⟩ hRM
      exact va_runSN hfix hMet ⟨cn, S.2.2.2.2.1 _ (rx_B_mem ys rfl), trivial⟩ hps rfl hnn hl.2.1 hst9 (lv_room h82) hd3 ⟨hc, hs⟩
  · have hkne : rx_knd j ≠ 1 := fun z => hw1 (hkn.trans z)
    have hct : rx_cat j = false := by
      cases hh : rx_cat j
      · rfl
      · rw [hh] at hcat
        have := Nat.eq_of_beq_eq_true hcat
        rw [this] at hw1
        exact absurd rfl hw1
    have hlen : (Value.ref b :: (st.take n).reverse).length ≤ rx_mx j := by
      rw [List.length_cons, List.length_reverse, hn9]
      have hcc : Nat.beq (rx_knd j) 1 = false := by
        cases hh : Nat.beq (rx_knd j) 1
        · rfl
        · exact absurd (Nat.eq_of_beq_eq_true hh) hkne
      rw [hcc] at ymx
      exact ymx
    have hrb : rx_rk a.1 (.ref b) := Or.inl hba
    have hMet := rx_met hFL hgo hlaw hnr ρ H.size (by unfold rx_cat1 at hc1r ⊢; rw [List.all_cons, hc1r]; rfl) hlen (rx_cs hrb (fun v hv => hrks v (List.mem_reverse.mp hv))) hmok hcel D I
    refine ⟨r, (Value.ref (ρ b) :: (st.take n).reverse.map (rx_tr ρ)).toArray, rfl, fun v hv => hrkd v (by rw [hdr]; exact List.mem_cons_of_mem _ hv), ?_⟩
    have hst9 : st.map (rx_tr ρ) = ((st.take n).reverse.map (rx_tr ρ)).reverse ++ .ref (ρ b) :: r.map (rx_tr ρ) := (hmap _ hdr).symm
    have hk3 : rx_kw kind = 0 ∨ rx_kw kind = 2 := by
      rcases hlink with ⟨hk, -⟩ | ⟨hk, -⟩
      · rcases hk with hk | hk
        · match kind, hk, hw1 with
          | 0, _, _ => exact Or.inl rfl
          | 1, _, h => exact absurd rfl h
          | 2, _, _ => exact Or.inr rfl
        · rw [hk] at hw1; exact absurd rfl hw1
      · match kind, hk, hw1 with
        | 3, _, _ => exact Or.inl rfl
        | 4, _, h => exact absurd rfl h
        | 5, _, _ => exact Or.inr rfl
    rcases hk3 with hk3 | hk3
    · obtain ⟨yi, ysel, y12⟩ := y0 (hkn.symm.trans hk3)
      rw [hk3] at hd3
      have hr9 : vwCl[rx_cn j]? = some (vwCl[rx_cn j]'y12) := List.getElem?_eq_getElem y12
      have hR := rx_cR_ok hr9
      have hrecv := va_recv S.2.2.2.2.2.2.1 hD.1 hr9 (q0 := b) (by rw [rx_wl_get hba, rx_ce_o hlay])
      have hcls : (vwCl[rx_cn j]'y12).1 = (rx_y j).cls := hR.2.1.trans (rx_pk_ok hjn).2.1.symm
      rw [hcls] at hrecv
      have hpv : PreV s H (rx_y j).cls (ρ b) (va_Pc ((Value.ref b :: (st.take n).reverse).map (rx_tr ρ)) (rx_Pre D I ρ a M H.size)) ((st.take n).reverse.map (rx_tr ρ)) := ⟨rx_Pre.blind, hrecv, fun U hU hW => ⟨rfl, hpre U hU hW⟩⟩
      rcases hlink with ⟨-, hlk⟩ | ⟨-, hlk⟩
      · have cw := cwV (R := R) (s := s) (args := args) (own := rx_cls (rx_cn i)) (index := x) (C := (rx_y j).cls) n S.2.2.2.2.1 (rm := rx_rm d (a2.2.1 - a.2.1) (a2.2.2 - a.2.2)) (rx_g4 (rx_gw hlk rfl) (rx_gw yi rfl) (rx_gw ysel rfl) (rx_gw yI rfl) hgw) (hcw0 hct) rfl rfl ⟨rfl, z1, z2, z3⟩ hRM
        exact va_runV hfix hMet cw hpv rfl hnn hl.2.1 hst9 (lv_room h82) hd3 ⟨hc, hs⟩
      · have cn := va_cnB (R := R) (s := s) (args := args) n S.2.2.2.2.1 hgw (hcw0 hct) (rm := rx_rm d (a2.2.1 - a.2.1) (a2.2.2 - a.2.2)) rfl rfl (S.2.2.2.2.2.1.1 _ hlk rfl) bI ⟨z1, z2, z3⟩ hRM
        exact va_runVN hfix hMet ⟨cn, S.2.2.2.2.1 _ (rx_B_mem yi rfl), S.2.2.2.2.1 _ (rx_B_mem ysel rfl)⟩ hpv rfl hnn hl.2.1 hst9 (lv_room h82) hd3 ⟨hc, hs⟩
    · obtain ⟨yi, yini, yrt, -⟩ := y2 (hkn.symm.trans hk3)
      rw [hk3] at hd3
      have hnm := (rx_pk_ok hjn).2.2 yini
      have hps : PreS s H (va_Pc ((Value.ref b :: (st.take n).reverse).map (rx_tr ρ)) (rx_Pre D I ρ a M H.size)) (.ref (ρ b) :: (st.take n).reverse.map (rx_tr ρ)) := ⟨rx_Pre.blind, fun U hU hW => ⟨rfl, hpre U hU hW⟩⟩
      have hcw2 := hcw0 hct
      rw [yrt] at hcw2
      rcases hlink with ⟨-, hlk⟩ | ⟨-, hlk⟩
      · have cw := cwI (R := R) (s := s) (args := args) (own := rx_cls (rx_cn i)) (index := x) n S.2.2.2.2.1 hgw hcw2 (rm := rx_rm d (a2.2.1 - a.2.1) (a2.2.2 - a.2.2)) rfl rfl bI (S.2.2.2.2.1 _ (rx_B_mem hlk rfl)) (S.2.2.2.2.1 _ (rx_B_mem yi rfl)) hnm ⟨z1, z2, z3⟩ hRM
        exact va_runI hfix hMet cw hps rfl hnn hl.2.1 hst9 (lv_room h82) hd3 ⟨hc, hs⟩
      · have cn := va_cnB (R := R) (s := s) (args := args) n S.2.2.2.2.1 hgw hcw2 (rm := rx_rm d (a2.2.1 - a.2.1) (a2.2.2 - a.2.2)) rfl rfl (S.2.2.2.2.2.1.1 _ hlk rfl) bI ⟨z1, z2, z3⟩ hRM
        exact va_runIN hfix hMet ⟨cn, hnm, S.2.2.2.2.1 _ (rx_B_mem yi rfl)⟩ hps rfl hnn hl.2.1 hst9 (lv_room h82) hd3 ⟨hc, hs⟩
/-- a throw, and its catching: what the frame theorem needs of the four methods that do it -/
noncomputable def rx_Thr (X : Nat × (Nat → Int32)) (l : Launch) (f : Nat) : Prop := ∀ (d i j : Nat) (pc : Nat) (ls : List (Option Value)) (st vs : List Value) (a : rx_K) (M : rx_M) (c2 g2 : rx_C) (E : Nat) (a2 : rx_K) (M2 : rx_M), rx_FLs X l f → rx_stp X i (pc, ls, st, a, M) = some (.inr (.inl (j, vs, c2))) → rx_go X f d j (rx_ent j vs a M) = some (some (.retAddr E), a2, M2) → rx_res i c2 (some (.retAddr E)) a2 M2 = some g2 →
  ∀ (p : Program) (e : Env) (R : Room) (s : State) (m : MethodId) (args : Array Value) (below : List Frame) (meth : Method) (c : Code) (Q : State → Prop) (A : Nat → Prop) (D : va_G) (I : rx_I) (k0 : Nat × Nat) (ρ0 : Nat → Nat) (n0 : Nat),
  rx_St p R s m args meth c i (d + 1) A D I → g2.2.2.2.1.2.1 ≤ k0.1 + R.cells → g2.2.2.2.1.2.2 ≤ k0.2 + R.slots → rx_WA X p l e R s m args below meth c Q i A D I k0 ρ0 n0 g2 → rx_WA X p l e R s m args below meth c Q i A D I k0 ρ0 n0 (pc, ls, st, a, M)
theorem rx_frame (hT : ∀ f, rx_Thr X l f) : ∀ f, rx_FLs X l f
  | 0 => fun d i g o h => by cases h
  | f + 1 => by
    intro d i g o h p e R s m args below meth c Q A D I k0 ρ0 n0 S hc hs fin
    have ih := rx_frame hT f
    obtain ⟨pc, ls, st, a, M⟩ := g
    unfold rx_go at h
    split at h
    · cases h
    · rename_i g' hst
      have hle : rx_le g'.2.2.2.1 o.2.1 := rx_go_le _ _ _ _ _ h
      exact rx_one S hst (Nat.le_trans hle.2.1 hc) (Nat.le_trans hle.2.2 hs) (ih d i g' o h p e R s m args below meth c Q A D I k0 ρ0 n0 S hc hs fin)
    · rename_i rv hst
      cases h
      exact fin pc ls st hst
    · rename_i j vs c2 hst
      split at h
      · cases h
      · rename_i d'
        split at h
        · cases h
        · rename_i rv a2 M2 hcal
          split at h
          · cases h
          · rename_i g2 hres
            have hle2 : rx_le g2.2.2.2.1 o.2.1 := rx_go_le _ _ _ _ _ h
            have hle1 : rx_le a2 g2.2.2.2.1 := rx_res_le hres
            have kk := ih (d' + 1) i g2 o h p e R s m args below meth c Q A D I k0 ρ0 n0 S hc hs fin
            obtain ⟨x9, kind9, n9, r9, -, e9, -⟩ := rx_site hst
            have hcal' : rx_go X f d' j (rx_ent j vs a M) = some (rv, a2, M2) := by rw [e9] at hcal; exact hcal
            have hle0 : rx_le a a2 := rx_go_le _ _ _ _ _ hcal'
            by_cases hE : ∃ E, rv = some (.retAddr E)
            · obtain ⟨E, rfl⟩ := hE
              exact hT f d' i j pc ls st vs a M c2 g2 E a2 M2 ih hst hcal' hres p e R s m args below meth c Q A D I k0 ρ0 n0 S (Nat.le_trans hle2.2.1 hc) (Nat.le_trans hle2.2.2 hs) kk
            · have hnr : rx_nr rv ∧ g2 = (c2.1, c2.2.1, rv.toList ++ c2.2.2.1, a2, M2) := by
                unfold rx_res at hres
                split at hres
                · cases hres; exact ⟨Or.inl rfl, rfl⟩
                · split at hres
                  · cases hres; exact ⟨Or.inr (Or.inl ⟨_, rfl⟩), rfl⟩
                  · cases hres; exact ⟨Or.inr (Or.inr ⟨_, rfl⟩), rfl⟩
                  · exact absurd ⟨_, rfl⟩ hE
                  · cases hres
              obtain ⟨hnr, rfl⟩ := hnr
              have hlaw : j ≠ rx_law := by
                intro z
                obtain ⟨_, _, _, _, _, _, _, _, _, _, _, hcal9, _⟩ := rx_site hst
                rw [z] at hcal9
                exact absurd hcal9 (by decide)
              intro ρ H locs lsr cells slots hρ hD hcl hsl
              dsimp only at hcl hsl hle2 hD
              obtain ⟨r, av, e2, hrk, hrun⟩ := rx_callrun (e := e) (below := below) ih S hst hcal' hnr hlaw hD (cells := cells) (slots := slots) (by have := hle0.2.1; have := hle2.2.1; omega) (by have := hle0.2.2; have := hle2.2.2; omega)
              subst e2
              refine rx_cont hrun hD.2.2.1 (rx_wl_A hD.2.1 hD.2.2.1 S.2.2.2.2.2.2.2.2.2.2.1) (fun ρ' H1 locs1 hρ' p1 p2 p3 ok1 ok2 => ?_)
              have hl := hD.2.2.2.1
              have K := kk ρ' H1 locs1 lsr (cells + (a2.2.1 - a.2.1)) (slots + (a2.2.2 - a.2.2)) (fun k hk => by
                rw [← hρ k hk]
                refine hρ' k ?_
                have := hD.2.2.2.2.1
                rcases hk with hk | hk
                · exact Or.inl (by omega)
                · exact Or.inr hk) ⟨p1, p2, p3, ⟨hl.1, hl.2.1, hl.2.2.1, fun k v hk => by
                  rw [rx_tr_eq hρ' (hD.2.2.2.2.2.2.1 v (List.mem_of_getElem? hk))]
                  exact hl.2.2.2 k v hk⟩, Nat.le_trans hD.2.2.2.2.1 hle0.1, ok1, fun v hv => rx_rk_up (hD.2.2.2.2.2.2.1 v hv) hle0.1, fun v hv => by
                    rcases List.mem_append.mp hv with q | q
                    · rcases hnr with rfl | ⟨x, rfl⟩ | ⟨x, rfl⟩
                      · cases q
                      · cases List.mem_singleton.mp q; trivial
                      · cases List.mem_singleton.mp q; trivial
                    · exact rx_rk_up (hrk v q) hle0.1, ok2, fun hi => by
                    have h9 := hD.2.2.2.2.2.2.2.2.2 hi
                    rw [← hρ' rx_scr (Or.inr rfl)] at h9
                    exact h9⟩ (by dsimp only; have := hle0.2.1; omega) (by dsimp only; have := hle0.2.2; omega)
              have e1 : (rv.toList ++ r).map (rx_tr ρ') = rv.toList ++ r.map (rx_tr ρ) := by
                rw [List.map_append, List.map_congr_left fun v hv => rx_tr_eq hρ' (hrk v hv)]
                rcases hnr with rfl | ⟨x, rfl⟩ | ⟨x, rfl⟩ <;> rfl
              dsimp only at K
              rw [e1] at K
              exact K
end RXF
