/-! a throw leaves its method, and its caller catches it -/
noncomputable def rx_en (E : Nat) : String := cond (Nat.beq E 1) rx_iae rx_ise
noncomputable def rx_XC (D : va_G) (I : rx_I) (ρ : Nat → Nat) (a : rx_K) (M : rx_M) (sz : Nat) (a2 : rx_K) (M2 : rx_M) (E : Nat) : String → State → State → Prop := fun C st t => C = rx_en E ∧ rx_Qb D I ρ a M sz a2 M2 st t
set_option maxRecDepth 100000 in
theorem rx_wc1 : Cond.castable rx_iae rx_iae ∈ lw_tbl := by decide +kernel
set_option maxRecDepth 100000 in
theorem rx_wc2 : Cond.castable rx_ise rx_ise ∈ lw_tbl := by decide +kernel
set_option maxRecDepth 100000 in
theorem rx_wk1 : Cond.classLink "HourValleyLaw" 13 rx_iae ∈ lw_tbl := by decide +kernel
set_option maxRecDepth 100000 in
theorem rx_wk2 : Cond.classLink "HourValleyLaw" 19 rx_ise ∈ lw_tbl := by decide +kernel
theorem rx_wg1 : (Cond.classLink "HourValley" 228 rx_iae :: Cond.initialized rx_iae :: vx_atS "HourValley" 232 rx_iae rx_sup).all (fun w => goodWord w || rx_nest w) = true := by decide +kernel
theorem rx_wg2 : (Cond.classLink "HourValley" 333 rx_ise :: Cond.initialized rx_ise :: vx_atS "HourValley" 337 rx_ise rx_sup).all (fun w => goodWord w || rx_nest w) = true := by decide +kernel
theorem rx_fit1 : Bundle.fit rx_iae = true := by decide +kernel
theorem rx_fit2 : Bundle.fit rx_ise = true := by decide +kernel
theorem rx_fit3 : ∀ n ∈ rx_sup, Bundle.fit n = true := by decide +kernel
theorem rx_hd_ok {i E : Nat} {z : Nat × Nat × Nat} (h : rx_hd i E = some z) : (i = 247 ∧ E = 1 ∧ z = (16, 2, 6)) ∨ (i = 248 ∧ E = 1 ∧ z = (12, 2, 4)) ∨ (i = 248 ∧ E = 2 ∧ z = (16, 2, 4)) := by
  by_cases e7 : i = 247
  · subst e7
    have h' : (cond (Nat.beq E 1) (some (16, 2, 6)) none : Option (Nat × Nat × Nat)) = some z := h
    cases hb : Nat.beq E 1 with
    | true => rw [hb] at h'; cases h'; exact Or.inl ⟨rfl, Nat.eq_of_beq_eq_true hb, rfl⟩
    | false => rw [hb] at h'; cases h'
  · by_cases e8 : i = 248
    · subst e8
      have h' : (cond (Nat.blt E 2) (cond (Nat.beq E 1) (some (12, 2, 4)) none) (cond (Nat.beq E 2) (some (16, 2, 4)) none) : Option (Nat × Nat × Nat)) = some z := h
      cases h2 : Nat.blt E 2 with
      | true =>
        rw [h2] at h'
        dsimp only [cond] at h'
        cases hb : Nat.beq E 1 with
        | true => rw [hb] at h'; cases h'; exact Or.inr (Or.inl ⟨rfl, Nat.eq_of_beq_eq_true hb, rfl⟩)
        | false => rw [hb] at h'; cases h'
      | false =>
        rw [h2] at h'
        dsimp only [cond] at h'
        cases hb : Nat.beq E 2 with
        | true => rw [hb] at h'; cases h'; exact Or.inr (Or.inr ⟨rfl, Nat.eq_of_beq_eq_true hb, rfl⟩)
        | false => rw [hb] at h'; cases h'
    · have b7 : Nat.beq i 247 = false := by
        cases hb : Nat.beq i 247
        · rfl
        · exact absurd (Nat.eq_of_beq_eq_true hb) e7
      have b8 : Nat.beq i 248 = false := by
        cases hb : Nat.beq i 248
        · rfl
        · exact absurd (Nat.eq_of_beq_eq_true hb) e8
      unfold rx_hd at h
      rw [b7, b8] at h
      cases hb : Nat.blt i 248 <;> rw [hb] at h <;> cases h
noncomputable def rx_okY (i p0 : Nat) : Bool := (List.range (rx_len i)).all (fun pc => match rx_tb i pc with
  | some (.invokevirtual _) => Nat.beq pc p0
  | some (.invokestatic _) => false
  | some (.invokespecial _) => false
  | _ => true)
theorem rx_yk7 : rx_okY 247 9 = true := by decide +kernel
theorem rx_yk8 : rx_okY 248 5 = true := by decide +kernel
theorem rx_ypc {i p0 w x pc : Nat} (h : rx_okY i p0 = true) (hw : w < 3) (ht : rx_tb i pc = some (rx_ivi w x)) : pc = p0 := by
  have hp : pc < rx_len i := by
    have h9 := ht
    unfold rx_tb at h9
    cases hb : (Nat.blt i rx_n && Nat.blt pc (rx_len i)) with
    | false => rw [hb] at h9; cases h9
    | true =>
      rw [Bool.and_eq_true] at hb
      exact Nat.blt_eq.mp hb.2
  have h1 := List.all_eq_true.mp h pc (List.mem_range.mpr hp)
  rw [ht] at h1
  match w, hw, h1 with
  | 0, _, h1 => exact Nat.eq_of_beq_eq_true h1
  | 1, _, h1 => cases h1
  | 2, _, h1 => cases h1
theorem rx_dt1 : decode (rx_c 122) 22 = .ok (.new 228, 3) ∧ decode (rx_c 122) 25 = .ok (.dup, 1) ∧ decode (rx_c 122) 26 = .ok (.ldc 230, 2) ∧ decode (rx_c 122) 28 = .ok (.invokespecial 232, 3) ∧ decode (rx_c 122) 31 = .ok (.athrow, 1) := by decide +kernel
theorem rx_dt2 : decode (rx_c 140) 9 = .ok (.new 228, 3) ∧ decode (rx_c 140) 12 = .ok (.dup, 1) ∧ decode (rx_c 140) 13 = .ok (.ldc_w 331, 3) ∧ decode (rx_c 140) 16 = .ok (.invokespecial 232, 3) ∧ decode (rx_c 140) 19 = .ok (.athrow, 1) := by decide +kernel
theorem rx_dt3 : decode (rx_c 140) 48 = .ok (.new 333, 3) ∧ decode (rx_c 140) 51 = .ok (.dup, 1) ∧ decode (rx_c 140) 52 = .ok (.ldc_w 335, 3) ∧ decode (rx_c 140) 55 = .ok (.invokespecial 337, 3) ∧ decode (rx_c 140) 58 = .ok (.athrow, 1) := by decide +kernel
section RXX
variable {X : Nat × (Nat → Int32)} {p : Program} {l : Launch} {e : Env} {R : Room} {s : State} {m : MethodId} {args : Array Value} {below : List Frame} {meth : Method} {c : Code} {Q : State → Prop} {i d : Nat} {A : Nat → Prop} {D : va_G} {I : rx_I} {k0 : Nat × Nat} {ρ0 : Nat → Nat} {n0 : Nat}
variable {pc : Nat} {ls : List (Option Value)} {st r : List Value} {a : rx_K} {M : rx_M}
theorem rx_go_end : ∀ (f d i : Nat) (g : rx_C) (rv : Option Value) (a2 : rx_K) (M2 : rx_M), rx_go X f d i g = some (rv, a2, M2) → ∃ pcr lr sr, rx_stp X i (pcr, lr, sr, a2, M2) = some (.inr (.inr rv))
  | 0, _, _, _, _, _, _, h => by cases h
  | f + 1, d, i, g, rv, a2, M2, h => by
    obtain ⟨pc, ls, st, a, M⟩ := g
    unfold rx_go at h
    split at h
    · cases h
    · exact rx_go_end f d i _ rv a2 M2 h
    · rename_i rv' hst
      cases h
      exact ⟨pc, ls, st, hst⟩
    · split at h
      · cases h
      · split at h
        · cases h
        · split at h
          · cases h
          · exact rx_go_end f _ i _ rv a2 M2 h
/-- a throw's words -/
theorem rx_wd {L : List Cond} {Y : String} (hY : Cond.castable Y Y ∈ lw_tbl) (h1 : L.all (fun w => vx_ot w && (decide (w ∈ lw_tbl) || decide (w = .castable Y Y))) = true) (h2 : L.all (fun w => goodWord w || rx_nest w) = true) (S : rx_St p R s m args meth c i d A D I) : ∀ w ∈ L, w.before args s = true ∧ vx_ot w = true := by
  intro w hw
  have k1 := List.all_eq_true.mp h1 w hw
  have k2 := List.all_eq_true.mp h2 w hw
  rw [Bool.and_eq_true, Bool.or_eq_true] at k1
  rw [Bool.or_eq_true] at k2
  have hm : w ∈ lw_tbl := by
    rcases k1.2 with q | q
    · exact of_decide_eq_true q
    · rw [of_decide_eq_true q]; exact hY
  refine ⟨?_, k1.1⟩
  rcases k2 with q | q
  · exact S.2.2.2.2.1 w (rx_B_mem hm q)
  · exact va_Nw.use (by cases w <;> first | rfl | cases q) (S.2.2.2.2.2.1.1 w hm q)
/-- the end of a method that throws -/
theorem rx_finX (hl : l.stackTraces = false) {j E : Nat} {a2 : rx_K} {M2 : rx_M} {ρ : Nat → Nat} {sz : Nat} (hlk : meth.locks = false) (hsz : s.heap.size = sz) (htab : ∀ x ∈ c.exceptionTable.toList, False) (S : rx_St p R s m args meth c j d (va_A (rx_wl I ρ M a.1) sz) D I) (hle : rx_le a a2)
    (hRc : a2.2.1 - a.2.1 + 1 ≤ R.cells) (hRs : a2.2.2 - a.2.2 + 6 ≤ R.slots) (pcr : Nat) (lr : List (Option Value)) (sr : List Value) (h : rx_stp X j (pcr, lr, sr, a2, M2) = some (.inr (.inr (some (.retAddr E))))) :
    rx_WA X p l e R s m args below meth c (vx_MQ below (fun _ _ _ _ => False) (rx_XC D I ρ a M sz a2 M2 E) args s (a2.2.1 - a.2.1 + 1) (a2.2.2 - a.2.2 + 6) (va_A (rx_wl I ρ M a.1) sz)) j (va_A (rx_wl I ρ M a.1) sz) D I (a.2.1, a.2.2) ρ a.1 (pcr, lr, sr, a2, M2) := by
  intro ρ' H locs lsr cells slots hρ hD hc hs
  dsimp only at hc hs hD
  have e1 : cells = a2.2.1 - a.2.1 := by omega
  have e2 : slots = a2.2.2 - a.2.2 := by omega
  obtain ⟨rfl, hcase⟩ := rx_thr_site h
  have hfr := S.2.2.2.2.2.2.2.2.1
  have hlo := S.2.2.2.2.2.2.2.2.2.1
  obtain ⟨hU, hN, ⟨s3, h3⟩, ⟨s4, h4⟩, ⟨s5, h5⟩, -⟩ := S.2.2.2.2.2.2.2.2.2.2.2.1
  have hsize : lsr.size = c.maxLocals := hD.2.2.2.1.2.1.trans S.2.2.1.symm
  have hR1 : rx_sup.length + 3 < R.frames := by
    show 2 + 3 < R.frames
    omega
  have hR2 : ((([] : List Value).map (rx_tr ρ')).map fun v => v.category).sum + (13 * (rx_sup.length + 1) + 43) ≤ R.locals := by
    show 0 + (13 * (2 + 1) + 43) ≤ R.locals
    omega
  have hx : ∀ cls : String, cls = rx_en E → ∀ t : State, s.vm.Alike t.vm → H.size ≤ t.heap.size → (∀ q : Nat, q < H.size → t.heap[q]? = H[q]?) → rx_XC D I ρ a M sz a2 M2 E cls s t := fun cls hcls t _ hz hk =>
    ⟨hcls, ⟨ρ', hρ, hD.1.kept (fun k q hq => hk q.1 (vx_lt hD.1 hq)), hD.2.1⟩, ⟨Nat.le_trans hD.2.2.1.1 hz, fun q h1 h2 => by rw [hk q (Nat.lt_of_lt_of_le h1 hD.2.2.1.1)]; exact hD.2.2.1.2.1 q h1 h2⟩, hD.2.2.2.2.2.1, hD.2.2.2.2.2.2.2.2.1⟩
  have hq1 := rx_wd rx_wc1 rx_w1 rx_wg1 S
  have hq2 := rx_wd rx_wc2 rx_w2 rx_wg2 S
  have m0 : ∀ {α : Type} {x y : α} {L : List α}, x ∈ x :: y :: L := fun {_ _ _ _} => List.mem_cons_self
  have m1 : ∀ {α : Type} {x y : α} {L : List α}, y ∈ x :: y :: L := fun {_ _ _ _} => List.mem_cons_of_mem _ List.mem_cons_self
  have hout : ∀ k : Nat, ∀ x ∈ c.exceptionTable.toList, covers x k = false := fun k x hx => (htab x hx).elim
  rcases hcase with ⟨rfl, rfl, rfl⟩ | ⟨rfl, rfl, rfl⟩ | ⟨rfl, rfl, rfl⟩
  · exact vx_throwS (own := "HourValley") (cls := rx_iae) (text := "no such one, week, entry or view") (names := rx_sup) (ik := 228) (is := 230) (ic := 232) S.1 S.2.1 hl S.2.2.2.1 rx_fit1 rx_fit3 (hq1 _ m0).1 (hq1 _ m1).1 h3 (fun w hw => (hq1 w (List.mem_cons_of_mem _ (List.mem_cons_of_mem _ hw))).1) (fun w hw => (hq1 w hw).2) hU hN hD.2.2.1 hsize
      rx_dt1.1 rx_dt1.2.1 rx_dt1.2.2.1 rx_dt1.2.2.2.1 rx_dt1.2.2.2.2 (hout _) hR1 hR2 (by omega) (by omega) hlk (hx rx_iae rfl) hD.2.2.1.2.2 (by omega) (by omega)
  · exact vx_throwSW (own := "HourValley") (cls := rx_iae) (text := "no such shelf") (names := rx_sup) (ik := 228) (is := 331) (ic := 232) S.1 S.2.1 hl S.2.2.2.1 rx_fit1 rx_fit3 (hq1 _ m0).1 (hq1 _ m1).1 h4 (fun w hw => (hq1 w (List.mem_cons_of_mem _ (List.mem_cons_of_mem _ hw))).1) (fun w hw => (hq1 w hw).2) hU hN hD.2.2.1 hsize
      rx_dt2.1 rx_dt2.2.1 rx_dt2.2.2.1 rx_dt2.2.2.2.1 rx_dt2.2.2.2.2 (hout _) hR1 hR2 (by omega) (by omega) hlk (hx rx_iae rfl) hD.2.2.1.2.2 (by omega) (by omega)
  · exact vx_throwSW (own := "HourValley") (cls := rx_ise) (text := "no row, or no such place in it") (names := rx_sup) (ik := 333) (is := 335) (ic := 337) S.1 S.2.1 hl S.2.2.2.1 rx_fit2 rx_fit3 (hq2 _ m0).1 (hq2 _ m1).1 h5 (fun w hw => (hq2 w (List.mem_cons_of_mem _ (List.mem_cons_of_mem _ hw))).1) (fun w hw => (hq2 w hw).2) hU hN hD.2.2.1 hsize
      rx_dt3.1 rx_dt3.2.1 rx_dt3.2.2.1 rx_dt3.2.2.2.1 rx_dt3.2.2.2.2 (hout _) hR1 hR2 (by omega) (by omega) hlk (hx rx_ise rfl) hD.2.2.1.2.2 (by omega) (by omega)
theorem rx_metX (hl : l.stackTraces = false) {f : Nat} (hFL : rx_FLs X l f) {j E : Nat} {vs : List Value} {a2 : rx_K} {M2 : rx_M} (hgo : rx_go X f d j (rx_ent j vs a M) = some (some (.retAddr E), a2, M2)) (hj : j = 122 ∨ j = 140) (ρ : Nat → Nat) (sz : Nat)
    (hc1 : rx_cat1 vs = true) (hlen : vs.length ≤ rx_mx j) (hrk : ∀ v ∈ vs, rx_rk a.1 v) (hmok : rx_mok a.1 M) (hcl : a.1 ≤ rx_cells) (D : va_G) (I : rx_I) :
    vx_Met l (rx_y j) (rx_ws j) (rx_rm d (a2.2.1 - a.2.1 + 1) (a2.2.2 - a.2.2 + 6)) (va_Pc (vs.map (rx_tr ρ)) (rx_Pre D I ρ a M sz)) (fun _ _ _ _ => False) (rx_XC D I ρ a M sz a2 M2 E) (a2.2.1 - a.2.1 + 1) (a2.2.2 - a.2.2 + 6) (va_A (rx_wl I ρ M a.1) sz) := by
  obtain ⟨hpn, -, -⟩ := rx_pk_ok (rx_go_lt hgo)
  have hle := rx_go_le _ _ _ _ _ hgo
  have hcat : rx_cat j = false := by rcases hj with rfl | rfl <;> rfl
  have hlaw : j ≠ rx_law := by
    rcases hj with rfl | rfl
    · decide
    · decide
  have hw : rx_ws j = .code (rx_y j) (rx_c j) (rx_mx j) (rx_rt j) :: rx_B := by
    unfold rx_ws rx_cw
    rw [hcat]
    rfl
  refine vx_ofW (cc := rx_c j) (maxL := rx_mx j) (ret := rx_rt j) hpn hw ?_
  intro p e s m args below meth c s₁ B hml htab hv
  obtain ⟨rfl, hpre⟩ := hv
  have hts := atoms_spec (ws := rx_ws j) B.pre
  exact rx_body (R := rx_rm d (a2.2.1 - a.2.1 + 1) (a2.2.2 - a.2.2 + 6)) hFL hgo hlaw hc1 hlen hrk hmok hcl (Nat.le_refl _) (Nat.le_refl _) (Nat.le_succ _) (Nat.le_add_right _ _) B.exec B.bytes hml (findClass_of_methodNamed B.named) (name_of_methodNamed B.named B.method).1 (fun w hw => hts w (List.mem_cons_of_mem _ hw)) hpre (fun z => by rw [hcat] at z; cases z) (fun S => rx_finX hl B.notSynchronized hpre.1 htab S hle (Nat.le_refl _) (Nat.le_refl _))
theorem rx_siteX {j p0 : Nat} {vs : List Value} {c2 : rx_C} (hst : rx_stp X i (pc, ls, st, a, M) = some (.inr (.inl (j, vs, c2)))) (hi : (i = 247 ∧ p0 = 9) ∨ (i = 248 ∧ p0 = 5)) :
    pc = p0 ∧ ∃ (x n : Nat) (r : List Value) (b : Nat), decode (rx_c i) pc = .ok (.invokevirtual x, 3) ∧ c2 = (pc + 3, ls, r, a, M) ∧ rx_c8 r = true ∧ rx_cat1 (st.take n) = true ∧ (st.take n).length = n ∧ n = rx_na j ∧ rx_knd j = 0 ∧ rx_cal j = true ∧ rx_cat j = false ∧ Cond.methodLink (rx_cls (rx_cn i)) x (rx_y j) ∈ lw_tbl ∧ vs = .ref b :: (st.take n).reverse ∧ st.drop n = .ref b :: r ∧ rx_lay b = some (.inl (rx_cn j)) ∧ b < a.1 := by
  obtain ⟨w, x, kind, n, ht, hm, hw, hw3, -, -, -, -, r, rfl, h8, hc1, hn9, hcase⟩ := rx_stp_call hst
  have hpk : pc = p0 ∧ kind = 0 := by
    rcases hi with ⟨rfl, rfl⟩ | ⟨rfl, rfl⟩
    · have e := rx_ypc rx_yk7 hw3 ht
      subst e
      refine ⟨rfl, ?_⟩
      have h1 : rx_tb 247 9 = some (.invokevirtual 7) := rfl
      have h2 : rx_ml (rx_cn 247) 7 = some (0, 122, 4) := rfl
      rw [h1] at ht
      match w, hw3, ht with
      | 0, _, ht =>
        have ht' : some (Instr.invokevirtual 7) = some (.invokevirtual x) := ht
        cases ht'
        rw [h2] at hm
        cases hm
        rfl
      | 1, _, ht =>
        have ht' : some (Instr.invokevirtual 7) = some (.invokestatic x) := ht
        cases ht'
      | 2, _, ht =>
        have ht' : some (Instr.invokevirtual 7) = some (.invokespecial x) := ht
        cases ht'
    · have e := rx_ypc rx_yk8 hw3 ht
      subst e
      refine ⟨rfl, ?_⟩
      have h1 : rx_tb 248 5 = some (.invokevirtual 15) := rfl
      have h2 : rx_ml (rx_cn 248) 15 = some (0, 140, 2) := rfl
      rw [h1] at ht
      match w, hw3, ht with
      | 0, _, ht =>
        have ht' : some (Instr.invokevirtual 15) = some (.invokevirtual x) := ht
        cases ht'
        rw [h2] at hm
        cases hm
        rfl
      | 1, _, ht =>
        have ht' : some (Instr.invokevirtual 15) = some (.invokestatic x) := ht
        cases ht'
      | 2, _, ht =>
        have ht' : some (Instr.invokevirtual 15) = some (.invokespecial x) := ht
        cases ht'
  obtain ⟨hpc, rfl⟩ := hpk
  have hw0 : w = 0 := hw
  subst hw0
  have hdd : decode (rx_c i) pc = .ok (.invokevirtual x, 3) := rx_dec1 ht rfl
  have hM := rx_ml_ok hm
  unfold rx_okM at hM
  rw [hm] at hM
  generalize hp : rx_mlp (rx_cn i) x = P at hM
  obtain ⟨q0, q1, q2, q3, q4⟩ := P
  have h9 := rx_andp hM
  obtain ⟨c1, c2, c3, c4⟩ := rx_okC_ok h9.1
  rcases hcase with ⟨hw1, -, -⟩ | ⟨-, b, hvs, hdr, hlay, hba⟩
  · cases hw1
  · exact ⟨hpc, x, n, r, b, hdd, rfl, h8, hc1, hn9, c1, c2.symm, c3, c4.symm, rx_tt_mem h9.2, hvs, hdr, hlay, hba⟩
/-- a throw of a callee, and its catching -/
theorem rx_thrT (hl : l.stackTraces = false) (f : Nat) : rx_Thr X l f := by
  intro d i j pc ls st vs a M c2 g2 E a2 M2 hFL hst hgo hres p e R s m args below meth c Q A D I k0 ρ0 n0 S hc hs kk
  obtain ⟨pcr, lr, sr, hend⟩ := rx_go_end _ _ _ _ _ _ _ hgo
  have hj : j = 122 ∨ j = 140 := by
    obtain ⟨-, h⟩ := rx_thr_site hend
    rcases h with h | h | h
    · exact Or.inl h.1
    · exact Or.inr h.1
    · exact Or.inr h.1
  have hz : ∃ h n' k, rx_hd i E = some (h, n', k) ∧ g2 = (h + n', (rx_kill c2.2.1 k).set k none, [], (a2.1, a2.2.1 + 1, a2.2.2 + 6), M2) := by
    unfold rx_res at hres
    dsimp only at hres
    split at hres
    · rename_i h n' k hh
      cases hres
      exact ⟨h, n', k, hh, rfl⟩
    · cases hres
  obtain ⟨h, n', k, hh, rfl⟩ := hz
  have hI := rx_hd_ok hh
  obtain ⟨p0, hi⟩ : ∃ p0, (i = 247 ∧ p0 = 9) ∨ (i = 248 ∧ p0 = 5) := by
    rcases hI with ⟨h, -⟩ | ⟨h, -⟩ | ⟨h, -⟩
    · exact ⟨9, Or.inl ⟨h, rfl⟩⟩
    · exact ⟨5, Or.inr ⟨h, rfl⟩⟩
    · exact ⟨5, Or.inr ⟨h, rfl⟩⟩
  have hdk : decode (rx_c i) h = .ok (.astore k, 2) ∧ k < rx_mx i ∧ n' = 2 := by
    rcases hI with ⟨rfl, -, hz⟩ | ⟨rfl, -, hz⟩ | ⟨rfl, -, hz⟩
    · cases hz; exact ⟨by decide +kernel, by decide +kernel, rfl⟩
    · cases hz; exact ⟨by decide +kernel, by decide +kernel, rfl⟩
    · cases hz; exact ⟨by decide +kernel, by decide +kernel, rfl⟩
  obtain ⟨hdec, hkm, rfl⟩ := hdk
  obtain ⟨hpc, x, n, r, b, hd3, rfl, h8, hc1, hn9, hna, hkn, hcal, hct, hlk, rfl, hdr, hlay, hba⟩ := rx_siteX hst hi
  have hil : i ≠ rx_law := by
    rcases hi with ⟨rfl, -⟩ | ⟨rfl, -⟩
    · decide
    · decide
  have hjn : j < rx_n := rx_go_lt hgo
  have hle0 : rx_le a a2 := rx_go_le _ _ _ _ _ hgo
  obtain ⟨z1, z2, z3, yI, yC, y0, -, -, ymx⟩ := rx_jf hjn hcal
  rw [← hna] at z3 ymx
  intro ρ H locs lsr cells slots hρ hD hcl hsl
  dsimp only at hcl hsl hD hc hs kk
  have hstk : ∀ v ∈ st, rx_rk a.1 v := hD.st
  have hrks : ∀ v ∈ st.take n, rx_rk a.1 v := fun v hv => hstk v (List.mem_of_mem_take hv)
  have hc1r : rx_cat1 (st.take n).reverse = true := by
    unfold rx_cat1 at hc1 ⊢
    rw [List.all_eq_true] at hc1 ⊢
    exact fun v hv => hc1 v (List.mem_reverse.mp hv)
  have hmok := hD.2.2.2.2.2.2.2.2.1
  have hcel := hD.2.2.2.2.2.1
  have hlv := hD.2.2.2.1
  have hfix : CallFix p m c (rx_c i) (rx_mx i) s args rx_B (rx_cls (rx_cn i)) := ⟨S.1, S.2.1, S.2.2.1, S.2.2.2.1, S.2.2.2.2.1⟩
  have hfr := S.2.2.2.2.2.2.2.2.1
  have hlo := S.2.2.2.2.2.2.2.2.2.1
  have h82 := rx_c8_ok (ρ := ρ) h8
  have hmx : rx_mx j ≤ 45 := by
    have h := rx_jk hjn
    unfold rx_okJ at h
    simp only [Bool.and_eq_true] at h
    exact Nat.le_of_ble_eq_true h.1.2
  have hRM : (rx_rm d (a2.2.1 - a.2.1 + 1) (a2.2.2 - a.2.2 + 6)).frames + 1 ≤ R.frames ∧ 8 + (rx_mx j + 11) + (rx_rm d (a2.2.1 - a.2.1 + 1) (a2.2.2 - a.2.2 + 6)).locals ≤ R.locals := rx_room hfr hlo hmx
  have hpre : ∀ U : State, U.heap = H → s.WarmedH U.vm → rx_Pre D I ρ a M H.size U := fun U hU hW => ⟨by rw [hU], by rw [hU]; exact hD.1, va_K.moved hW.alike S.2.2.2.2.2.2.1, hD.2.1.weaken (fun _ _ _ _ => trivial), rx_NW.warm hW S.2.2.2.2.2.1, S.2.2.2.2.2.2.2.2.2.2.2.1.step hD.2.2.1 (rx_wl_A hD.2.1 hD.2.2.1 S.2.2.2.2.2.2.2.2.2.2.1) hU hW⟩
  have hgw := rx_gws yC
  have hnn : ((st.take n).reverse.map (rx_tr ρ)).length = n := by rw [List.length_map, List.length_reverse, hn9]
  have hcw0 : rx_ws j = .code (rx_y j) (rx_c j) (rx_mx j) (rx_rt j) :: rx_B := by
    unfold rx_ws rx_cw
    rw [hct]
    rfl
  have hlen : (Value.ref b :: (st.take n).reverse).length ≤ rx_mx j := by
    rw [List.length_cons, List.length_reverse, hn9]
    have hcc : Nat.beq (rx_knd j) 1 = false := by rw [hkn]; rfl
    rw [hcc] at ymx
    exact ymx
  have hrb : rx_rk a.1 (.ref b) := Or.inl hba
  have hMet := rx_metX hl hFL hgo hj ρ H.size (by unfold rx_cat1 at hc1r ⊢; rw [List.all_cons, hc1r]; rfl) hlen (rx_cs hrb (fun v hv => hrks v (List.mem_reverse.mp hv))) hmok hcel D I
  have hst9 : st.map (rx_tr ρ) = ((st.take n).reverse.map (rx_tr ρ)).reverse ++ .ref (ρ b) :: r.map (rx_tr ρ) := by
    rw [← List.map_reverse, List.reverse_reverse, show (Value.ref (ρ b) :: r.map (rx_tr ρ)) = (st.drop n).map (rx_tr ρ) by rw [hdr]; rfl, rx_drop_map]
  obtain ⟨yi, ysel, y12⟩ := y0 hkn
  have hr9 : vwCl[rx_cn j]? = some (vwCl[rx_cn j]'y12) := List.getElem?_eq_getElem y12
  have hR := rx_cR_ok hr9
  have hrecv := va_recv S.2.2.2.2.2.2.1 hD.1 hr9 (q0 := b) (by rw [rx_wl_get hba, rx_ce_o hlay])
  have hcls : (vwCl[rx_cn j]'y12).1 = (rx_y j).cls := hR.2.1.trans (rx_pk_ok hjn).2.1.symm
  rw [hcls] at hrecv
  have hpv : PreV s H (rx_y j).cls (ρ b) (va_Pc ((Value.ref b :: (st.take n).reverse).map (rx_tr ρ)) (rx_Pre D I ρ a M H.size)) ((st.take n).reverse.map (rx_tr ρ)) := ⟨rx_Pre.blind, hrecv, fun U hU hW => ⟨rfl, hpre U hU hW⟩⟩
  have cw := cwV (R := R) (s := s) (args := args) (own := rx_cls (rx_cn i)) (index := x) (C := (rx_y j).cls) n S.2.2.2.2.1 (rm := rx_rm d (a2.2.1 - a.2.1 + 1) (a2.2.2 - a.2.2 + 6)) (rx_g4 (rx_gw hlk rfl) (rx_gw yi rfl) (rx_gw ysel rfl) (rx_gw yI rfl) hgw) hcw0 rfl rfl ⟨rfl, z1, z2, z3⟩ hRM
  have hle1 := hle0.2.1
  have hle2 := hle0.2.2
  have hrun := vx_runV (e := e) (below := below) (meth := meth) (locs := locs) (cells := cells) (slots := slots) (g := F0 m pc lsr (st.map (rx_tr ρ))) hfix hMet cw hpv rfl hnn hlv.2.1 hst9 (lv_room h82) hd3 ⟨by omega, by omega⟩
  have hA := rx_wl_A hD.2.1 hD.2.2.1 S.2.2.2.2.2.2.2.2.2.2.1
  have hX : ∀ (ρ' : Nat → Nat) (H1 : Heap) (locs1 : List Loc) (q : Addr) (ce : Cell), (∀ k, k < a.1 ∨ k = rx_scr → ρ' k = ρ k) → va_P D vwCl (rx_wl I ρ' M2 a2.1) H1 → va_D A (rx_wl I ρ' M2 a2.1) → va_S A s.heap H1 locs1 → a2.1 ≤ rx_cells → rx_mok a2.1 M2 → H1[q]? = some ce → ce.vm = .none → s.vm.findClass (rx_en E) = some ce.cls →
      vx_W p l e R s m args below meth c H1 locs1 (cells + (a2.2.1 - a.2.1 + 1)) (slots + (a2.2.2 - a.2.2 + 6)) Q (F0 m pc lsr (r.map (rx_tr ρ))) q := by
    intro ρ' H1 locs1 q ce hρ' p1 p2 p3 ok1 ok2 hce hcv hcl9
    have hlv' : rx_lv lsr (rx_mx i) ls ρ' := ⟨hlv.1, hlv.2.1, hlv.2.2.1, fun k v hk => by
      rw [rx_tr_eq hρ' (hD.2.2.2.2.2.2.1 v (List.mem_of_getElem? hk))]
      exact hlv.2.2.2 k v hk⟩
    have hdl : W p l e R s m args below meth c H1 locs1 (cells + (a2.2.1 - a.2.1 + 1)) (slots + (a2.2.2 - a.2.2 + 6)) Q (F0 m h lsr [.ref q]) := by
      refine lv_astore S.1 S.2.1 hdec (rx_lv_has hlv') hkm rfl (fun lsr' h' => ?_)
      exact kk ρ' H1 locs1 lsr' _ _ (fun k hk => by
        rw [← hρ k hk]
        refine hρ' k ?_
        have := hD.2.2.2.2.1
        rcases hk with hk | hk
        · exact Or.inl (by omega)
        · exact Or.inr hk) ⟨p1, p2, p3, rx_lv_no hlv'.1 hkm h', Nat.le_trans hD.2.2.2.2.1 hle0.1, ok1, fun v hv => rx_rk_up (hD.2.2.2.2.2.2.1 v (rx_no_mem hv)) hle0.1, (fun v hv => by cases hv), ok2, fun z => absurd z hil⟩ (by dsimp only; omega) (by dsimp only; omega)
    rcases hI with ⟨rfl, rfl, hz⟩ | ⟨rfl, rfl, hz⟩ | ⟨rfl, rfl, hz⟩
    · cases hz
      rcases hi with ⟨-, rfl⟩ | ⟨q9, -⟩
      · subst hpc
        exact vx_catch (own := "HourValleyLaw") (name := rx_iae) (E := rx_iae) S.2.2.2.1 [] ⟨0, 13, 16, 13⟩ [] (S.2.2.2.2.2.2.2.2.2.2.2.2 rfl) (fun z hz => by cases hz) (by decide) (by decide) (S.2.2.2.2.1 _ (rx_B_mem rx_wk1 rfl)) (va_Nw.use rfl (S.2.2.2.2.2.1.1 _ rx_wc1 rfl)) hce hcv hcl9 hdl
      · cases q9
    · cases hz
      rcases hi with ⟨q9, -⟩ | ⟨-, rfl⟩
      · cases q9
      · subst hpc
        exact vx_catch (own := "HourValleyLaw") (name := rx_iae) (E := rx_iae) S.2.2.2.1 [] ⟨0, 9, 12, 13⟩ [⟨0, 9, 16, 19⟩] (S.2.2.2.2.2.2.2.2.2.2.2.2 rfl) (fun z hz => by cases hz) (by decide) (by decide) (S.2.2.2.2.1 _ (rx_B_mem rx_wk1 rfl)) (va_Nw.use rfl (S.2.2.2.2.2.1.1 _ rx_wc1 rfl)) hce hcv hcl9 hdl
    · cases hz
      rcases hi with ⟨q9, -⟩ | ⟨-, rfl⟩
      · cases q9
      · subst hpc
        exact vx_catch (own := "HourValleyLaw") (name := rx_ise) (E := rx_ise) S.2.2.2.1 [⟨0, 9, 12, 13⟩] ⟨0, 9, 16, 19⟩ [] (S.2.2.2.2.2.2.2.2.2.2.2.2 rfl) (fun z hz => by
          rw [List.mem_singleton.mp hz]
          exact Or.inr ⟨by decide, rx_iae, S.2.2.2.2.1 _ (rx_B_mem rx_wk1 rfl), S.2.2.2.2.2.2.2.2.2.2.2.1.2.2.2.2.2⟩) (by decide) (by decide) (S.2.2.2.2.1 _ (rx_B_mem rx_wk2 rfl)) (va_Nw.use rfl (S.2.2.2.2.2.1.1 _ rx_wc2 rfl)) hce hcv hcl9 hdl
  intro T hT Xs
  rcases hrun T hT Xs with ⟨v, st₀, t, T', L, h0, X', hL, e1, e2, hF, st9⟩ | ⟨q, st₀, t, T', L, E', ce, h0, X', hL, e1, e2, ⟨rfl, ⟨ρ', hρ', hP, hDD⟩, hF, ok1, ok2⟩, hce, hcv, hcl9, st9⟩
  · exact hF.elim
  · obtain ⟨k1, k2, k3⟩ := vx_keep h0 e1 hD.2.2.1 (fun q _ h => hA q h) hA hL hF
    obtain ⟨t2, a1, b1⟩ := hX ρ' T'.heap (locs ++ L) q ce hρ' (by rw [e1]; exact hP) (hDD.weaken fun k q _ h => hA _ h) k3 ok1 ok2 (by rw [e1]; exact hce) hcv hcl9 T' rfl X'
    exact ⟨t2, st9.trans a1, b1⟩
/-- every run of the abstract machine is a run of the real one -/
theorem rx_sound (hl : l.stackTraces = false) (f : Nat) : rx_FLs X l f := rx_frame (rx_thrT hl) f
end RXX
