/-! calls, and a whole frame -/
noncomputable def rx_nr (r : Option Value) : Prop := r = none ∨ (∃ x, r = some (.int x)) ∨ ∃ x, r = some (.long x)
noncomputable def rx_cw (j : Nat) : Cond := cond (rx_cat j) (.codeWith (rx_y j) (rx_c j) (rx_mx j) (rx_rt j) (rx_hh j)) (.code (rx_y j) (rx_c j) (rx_mx j) (rx_rt j))
noncomputable def rx_ws (j : Nat) : List Cond := rx_cw j :: rx_B
noncomputable def rx_rm (d mc ms : Nat) : Room := { frames := d + 8, cells := mc, slots := ms, locals := 64 * d + 300 }
noncomputable def rx_Pre (D : va_G) (I : rx_I) (ρ : Nat → Nat) (a : rx_K) (M : rx_M) (sz : Nat) : State → Prop := fun U => U.heap.size = sz ∧ va_P D vwCl (rx_wl I ρ M a.1) U.heap ∧ va_K D vwCl (rx_ty I) U ∧ va_D (fun _ => True) (rx_wl I ρ M a.1) ∧ rx_NW U ∧ rx_Z U (va_A (rx_wl I ρ M a.1) sz)
noncomputable def rx_Qb (D : va_G) (I : rx_I) (ρ : Nat → Nat) (a : rx_K) (M : rx_M) (sz : Nat) (a2 : rx_K) (M2 : rx_M) (st t : State) : Prop := (∃ ρ' : Nat → Nat, (∀ k, k < a.1 ∨ k = rx_scr → ρ' k = ρ k) ∧ va_P D vwCl (rx_wl I ρ' M2 a2.1) t.heap ∧ va_D (va_A (rx_wl I ρ M a.1) sz) (rx_wl I ρ' M2 a2.1)) ∧ va_F (va_A (rx_wl I ρ M a.1) sz) st t ∧ a2.1 ≤ rx_cells ∧ rx_mok a2.1 M2
noncomputable def rx_Qc (D : va_G) (I : rx_I) (ρ : Nat → Nat) (a : rx_K) (M : rx_M) (sz : Nat) (r : Option Value) (a2 : rx_K) (M2 : rx_M) : Array Value → State → Outcome → State → Prop := fun _ st o t => o = .returned r ∧ rx_Qb D I ρ a M sz a2 M2 st t
theorem rx_aoa_moved {t : FieldType} {u U : State} (hvm : u.vm.Alike U.vm) (h : va_AOA t u) : va_AOA t U := by
  have e := Cond.arrayOver_setVmC (args := #[]) (s := u) hvm (.array t)
  unfold va_AOA at h ⊢
  exact e.trans h
theorem rx_NW.same {U V : State} (h : V.vm = U.vm) (hU : rx_NW U) : rx_NW V := ⟨fun w hw hn => va_Nw.same (by cases w <;> first | rfl | cases hn) h.symm (hU.1 w hw hn), rx_aoa_moved (by rw [h]; exact Vm.Alike.refl _) hU.2⟩
theorem rx_NW.warm {s U : State} (hW : s.WarmedH U.vm) (hs : rx_NW s) : rx_NW U := by
  refine ⟨fun w hw hn => ?_, ?_⟩
  · have h := hs.1 w hw hn
    cases w <;> first | exact va_Nw.warmF hW h | exact va_Nw.warmM hW h | exact va_Nw.warmD hW h | exact va_tabs rfl (rfl : (s.setVm U.vm).vm = U.vm) (by rw [Cond.castable_setVm hW.alike]; exact h) | cases hn
  · exact rx_aoa_moved hW.alike hs.2
theorem rx_Z.step {s U : State} {A : Nat → Prop} {H : Heap} {locs : List Loc} {ws : va_W} (h : rx_Z s A) (hS : va_S A s.heap H locs) (hA : ∀ q, va_A ws H.size q → A q) (hU : U.heap = H) (hW : s.WarmedH U.vm) : rx_Z U (va_A ws H.size) := by
  obtain ⟨h1, h2, ⟨s3, h3⟩, ⟨s4, h4⟩, ⟨s5, h5⟩, h6⟩ := h
  refine ⟨?_, ?_, ⟨s3, h3.warm hW⟩, ⟨s4, h4.warm hW⟩, ⟨s5, h5.warm hW⟩, h6.moved hW.alike⟩
  · rw [hU]
    exact ((h1.moved hW.alike).kept (fun a ha hn => hS.2.1 a ha hn)).narrow hA
  · rw [hU]
    exact ((h2.moved hW.alike).kept (fun a ha hn => hS.2.1 a ha hn)).narrow hA
theorem rx_Z.same {U V : State} {A : Nat → Prop} (hv : V.vm = U.vm) (hh : V.heap = U.heap) (h : rx_Z U A) : rx_Z V A := by
  obtain ⟨h1, h2, ⟨s3, h3⟩, ⟨s4, h4⟩, ⟨s5, h5⟩, h6⟩ := h
  have ha : U.vm.Alike V.vm := by rw [hv]; exact Vm.Alike.refl _
  exact ⟨by rw [hh]; exact h1.moved ha, by rw [hh]; exact h2.moved ha, ⟨s3, h3.same hv⟩, ⟨s4, h4.same hv⟩, ⟨s5, h5.same hv⟩, h6.moved ha⟩
theorem rx_Pre.blind {D : va_G} {I : rx_I} {ρ : Nat → Nat} {a : rx_K} {M : rx_M} {sz : Nat} {av : List Value} : FrameBlind (va_Pc av (rx_Pre D I ρ a M sz)) := fun b U g mk q => by
  obtain ⟨q0, q1, q2, q3, q4, q5, q6⟩ := q
  exact ⟨q0, q1, q2, va_K.moved (u := U) (U := U.calling g mk b) (Vm.Alike.refl U.vm) q3, q4, rx_NW.same (U := U) rfl q5, rx_Z.same (U := U) rfl rfl q6⟩
section RXC
variable {X : Nat × (Nat → Int32)} {p : Program} {l : Launch} {e : Env} {R : Room} {s : State} {m : MethodId} {args : Array Value} {below : List Frame} {meth : Method} {c : Code} {Q : State → Prop} {i d : Nat} {A : Nat → Prop} {D : va_G} {I : rx_I} {k0 : Nat × Nat} {ρ0 : Nat → Nat} {n0 : Nat}
variable {pc : Nat} {ls : List (Option Value)} {st r : List Value} {a : rx_K} {M : rx_M}
/-- behind a call -/
theorem rx_cont {H : Heap} {locs : List Loc} {cells slots mc ms : Nat} {lsr : Array Slot} {st0 rest : List Value} {ρ : Nat → Nat} {rv : Option Value} {a2 : rx_K} {M2 : rx_M} {av : Array Value}
    (hr : va_Run p l e R s m args below meth c H locs cells slots mc ms (F0 m pc lsr st0) rest (rx_Qc D I ρ a M H.size rv a2 M2 av) (va_A (rx_wl I ρ M a.1) H.size)) (hS : va_S A s.heap H locs) (hA : ∀ q, va_A (rx_wl I ρ M a.1) H.size q → A q)
    (kk : ∀ (ρ' : Nat → Nat) (H1 : Heap) (locs1 : List Loc), (∀ k, k < a.1 ∨ k = rx_scr → ρ' k = ρ k) → va_P D vwCl (rx_wl I ρ' M2 a2.1) H1 → va_D A (rx_wl I ρ' M2 a2.1) → va_S A s.heap H1 locs1 → a2.1 ≤ rx_cells → rx_mok a2.1 M2 → W p l e R s m args below meth c H1 locs1 (cells + mc) (slots + ms) Q (F0 m (pc + 3) lsr (rv.toList ++ rest))) : W p l e R s m args below meth c H locs cells slots Q (F0 m pc lsr st0) := by
  intro T hT Xs
  obtain ⟨v, st₀, t, T', L, h0, X', hL, e1, e2, ⟨hv, ⟨ρ', hρ, hP, hD⟩, ⟨hz, hk⟩, ok1, ok2⟩, st⟩ := hr T hT Xs
  cases hv
  rw [h0] at hz hk
  obtain ⟨t2, a1, b1⟩ := kk ρ' T'.heap (locs ++ L) hρ (by rw [e1]; exact hP) (hD.weaken fun k q _ h => hA _ h)
    ⟨Nat.le_trans hS.1 (by rw [e1]; exact hz), fun q h1 h2 => by rw [e1, hk q (Nat.lt_of_lt_of_le h1 hS.1) (fun z => h2 (hA q z))]; exact hS.2.1 q h1 h2, fun q hq => by
      rcases List.mem_append.mp hq with h | h
      · exact hS.2.2 q h
      · exact hA _ (hL q h)⟩ ok1 ok2 T' rfl X'
  exact ⟨t2, st t2 a1, b1⟩
theorem rx_wl_A {H : Heap} {locs : List Loc} {ρ : Nat → Nat} (hD : va_D A (rx_wl I ρ M a.1)) (hS : va_S A s.heap H locs) (hA : ∀ q, s.heap.size ≤ q → A q) : ∀ q, va_A (rx_wl I ρ M a.1) H.size q → A q := by
  intro q h
  rcases h with ⟨k, e9, h⟩ | h
  · exact hD.2 k (q, e9) h
  · exact hA q (Nat.le_trans hS.1 h)
theorem rx_gw {w : Cond} (h : w ∈ lw_tbl) (g : goodWord w = true) : w ∈ rx_B ∧ ((w.onTables && w.keeps) = true ∨ ∃ ty, w = .arrayClass ty) := ⟨rx_B_mem h g, good_of_word g⟩
theorem rx_gB : GoodIn rx_B rx_B := fun w hw => by
  obtain ⟨h1, h2⟩ := List.mem_filter.mp hw
  exact ⟨hw, good_of_word h2⟩
/-- the statement of a frame's soundness, at fuel f -/
noncomputable def rx_FLs (X : Nat × (Nat → Int32)) (l : Launch) (f : Nat) : Prop := ∀ (d i : Nat) (g : rx_C) (o : rx_O), rx_go X f d i g = some o → ∀ (p : Program) (e : Env) (R : Room) (s : State) (m : MethodId) (args : Array Value) (below : List Frame) (meth : Method) (c : Code) (Q : State → Prop) (A : Nat → Prop) (D : va_G) (I : rx_I) (k0 : Nat × Nat) (ρ0 : Nat → Nat) (n0 : Nat),
  rx_St p R s m args meth c i d A D I → o.2.1.2.1 ≤ k0.1 + R.cells → o.2.1.2.2 ≤ k0.2 + R.slots →
  (∀ (pcr : Nat) (lr : List (Option Value)) (sr : List Value), rx_stp X i (pcr, lr, sr, o.2.1, o.2.2) = some (.inr (.inr o.1)) → rx_WA X p l e R s m args below meth c Q i A D I k0 ρ0 n0 (pcr, lr, sr, o.2.1, o.2.2)) →
  rx_WA X p l e R s m args below meth c Q i A D I k0 ρ0 n0 g
theorem rx_fit {k n : Nat} {P : List Nat} (h : k = n) : k = n := h
theorem rx_lgsl : ∀ (vs : List Value), rx_cat1 vs = true → lg_sl vs = vs.map Slot.val
  | [], _ => rfl
  | v :: r, h => by
    unfold rx_cat1 at h
    rw [List.all_cons, Bool.and_eq_true] at h
    have h1 := Nat.eq_of_beq_eq_true h.1
    have ih := rx_lgsl r h.2
    unfold lg_sl at ih ⊢
    rw [List.flatMap_cons, ih, if_neg (by omega)]
    rfl
theorem rx_cat1_tr {ρ : Nat → Nat} : ∀ (vs : List Value), rx_cat1 vs = true → rx_cat1 (vs.map (rx_tr ρ)) = true
  | [], _ => rfl
  | v :: r, h => by
    unfold rx_cat1 at h ⊢
    rw [List.all_cons, Bool.and_eq_true] at h
    rw [List.map_cons, List.all_cons, Bool.and_eq_true, rx_tr_cat]
    exact ⟨h.1, rx_cat1_tr r h.2⟩
/-- the entry frame's locals -/
theorem rx_ent_lv {j : Nat} {vs : List Value} {ρ : Nat → Nat} (hc : rx_cat1 vs = true) (hl : vs.length ≤ rx_mx j) : rx_lv ((lg_sl (vs.map (rx_tr ρ)) ++ List.replicate (rx_mx j - (lg_sl (vs.map (rx_tr ρ))).length) Slot.unset).toArray) (rx_mx j) (vs.map some ++ List.replicate (rx_mx j - vs.length) none) ρ := by
  have e : lg_sl (vs.map (rx_tr ρ)) = (vs.map (rx_tr ρ)).map Slot.val := rx_lgsl _ (rx_cat1_tr vs hc)
  have hlen : (lg_sl (vs.map (rx_tr ρ))).length = vs.length := by rw [e, List.length_map, List.length_map]
  obtain ⟨h1, h2, -⟩ := lv_entry (vs.map (rx_tr ρ)) (n := rx_mx j) (by rw [hlen]; exact hl)
  refine ⟨by rw [List.length_append, List.length_map, List.length_replicate]; omega, h1, h2, fun k v hk => ?_⟩
  by_cases hk2 : k < vs.length
  · rw [List.getElem?_append_left (by rw [List.length_map]; exact hk2), List.getElem?_map] at hk
    have hv : vs[k]? = some v := by
      cases hz : vs[k]? with
      | none => rw [hz] at hk; cases hk
      | some w => rw [hz] at hk; cases hk; rfl
    rw [List.getElem?_toArray, List.getElem?_append_left (by rw [hlen]; exact hk2), e, List.getElem?_map, List.getElem?_map, hv]
    rfl
  · rw [List.getElem?_append_right (by rw [List.length_map]; omega)] at hk
    have := List.mem_of_getElem? hk
    cases (List.mem_replicate.mp this).2
set_option maxHeartbeats 4000000 in
theorem rx_ins_ret {ins : Instr} {rv : Option Value} (h : rx_ins X i ins pc ls st a M = some (.inr (.inr rv))) (hn : rx_nr rv) :
    (ins = .ireturn ∧ ∃ x, rv = some (.int x) ∧ st = [.int x] ∧ (rx_rt i = some .int ∨ (rx_rt i = some .boolean ∧ (x = 0 ∨ x = 1)))) ∨ (ins = .lreturn ∧ ∃ x, rv = some (.long x) ∧ st = [.long x] ∧ rx_rt i = some .long) ∨ (ins = .return_ ∧ rv = none ∧ st = [] ∧ rx_rt i = none) := by
  unfold rx_ins at h
  split at h
  all_goals first
    | exact absurd h (fun z => rx_ld_no z)
    | exact absurd h (fun z => rx_sto_no z)
    | exact absurd h (fun z => rx_bin_no z)
    | exact absurd h (fun z => rx_jmp_no z)
    | (cases h; done)
    | (try (simp only [rx_nx, rx_jmp, rx_br, rx_gf, rx_pf, rx_al, rx_as, rx_aln, rx_nwa, rx_mna, rx_new, rx_inv, Bool.cond_eq_ite] at h)
       repeat' (split at h)
       all_goals first
         | (cases h; done)
         | (cases h; exact Or.inl ⟨rfl, _, rfl, rfl, Or.inl (by assumption)⟩)
         | (cases h; exact Or.inl ⟨rfl, _, rfl, rfl, Or.inr ⟨by assumption, by assumption⟩⟩)
         | (cases h; exact Or.inr (Or.inl ⟨rfl, _, rfl, rfl, by assumption⟩))
         | (cases h; exact Or.inr (Or.inr ⟨rfl, rfl, rfl, by assumption⟩))
         | (cases h; exact absurd hn (by rintro (q | ⟨x, q⟩ | ⟨x, q⟩) <;> cases q)))
theorem rx_ret_ok {rv : Option Value} (h : rx_stp X i (pc, ls, st, a, M) = some (.inr (.inr rv))) (hn : rx_nr rv) :
    (decode (rx_c i) pc = .ok (.ireturn, 1) ∧ ∃ x, rv = some (.int x) ∧ st = [.int x] ∧ (rx_rt i = some .int ∨ (rx_rt i = some .boolean ∧ (x = 0 ∨ x = 1)))) ∨ (decode (rx_c i) pc = .ok (.lreturn, 1) ∧ ∃ x, rv = some (.long x) ∧ st = [.long x] ∧ rx_rt i = some .long) ∨ (decode (rx_c i) pc = .ok (.return_, 1) ∧ rv = none ∧ st = [] ∧ rx_rt i = none) := by
  unfold rx_stp at h
  dsimp only at h
  split at h
  · cases h
  · rename_i ins ht
    have hd := rx_dec1 (i := i) (pc := pc) ht
    rcases rx_ins_ret h hn with ⟨rfl, q⟩ | ⟨rfl, q⟩ | ⟨rfl, q⟩
    · exact Or.inl ⟨hd rfl, q⟩
    · exact Or.inr (Or.inl ⟨hd rfl, q⟩)
    · exact Or.inr (Or.inr ⟨hd rfl, q⟩)
/-- what holds of every method's name -/
theorem rx_pk_ok {j : Nat} (hj : j < rx_n) : plainName (rx_y j).cls = true ∧ (rx_y j).cls = rx_cls (rx_cn j) ∧ (rx_ini j = true → (rx_y j).name = "<init>") := by
  have h := rx_jk hj
  unfold rx_okJ at h
  simp only [Bool.and_eq_true, Bool.or_eq_true] at h
  refine ⟨h.1.1.1.1, of_decide_eq_true h.1.1.1.2, fun hi => ?_⟩
  rcases h.1.1.2 with q | q
  · rw [hi] at q; cases q
  · exact of_decide_eq_true q
theorem rx_go_lt {f : Nat} {g : rx_C} {o : rx_O} (h : rx_go X f d i g = some o) : i < rx_n := by
  cases f with
  | zero => cases h
  | succ f =>
    unfold rx_go at h
    cases ht : rx_tb i g.1 with
    | none =>
      have : rx_stp X i g = none := by
        unfold rx_stp
        rw [ht]
      rw [this] at h
      cases h
    | some ins => exact (rx_dec ht).1
/-- a method's body, from its entry, whatever its own end owes -/
theorem rx_body {f : Nat} (hFL : rx_FLs X l f) {j : Nat} {vs : List Value} {rv : Option Value} {a2 : rx_K} {M2 : rx_M} (hgo : rx_go X f d j (rx_ent j vs a M) = some (rv, a2, M2)) (hlaw : j ≠ rx_law) {ρ : Nat → Nat} {sz : Nat}
    (hc1 : rx_cat1 vs = true) (hlen : vs.length ≤ rx_mx j) (hrk : ∀ v ∈ vs, rx_rk a.1 v) (hmok : rx_mok a.1 M) (hcl : a.1 ≤ rx_cells)
    (hRf : d + 8 ≤ R.frames) (hRl : 64 * d + 300 ≤ R.locals) (hRc : a2.2.1 - a.2.1 ≤ R.cells) (hRs : a2.2.2 - a.2.2 ≤ R.slots) (hx : p.tables.exec = Jvm.exec) (hb : c.code = rx_c j) (hml : c.maxLocals = rx_mx j) (hn1 : s.vm.findClass (rx_y j).cls = some m.cls) (hn2 : meth.name = (rx_y j).name) (hts : ∀ w ∈ rx_B, w.before args s = true) (hpre : rx_Pre D I ρ a M sz s) (hxt : rx_cat j = true → c.exceptionTable.toList = tableOf (rx_hh j))
    (fin : rx_St p R s m args meth c j d (va_A (rx_wl I ρ M a.1) sz) D I → ∀ (pcr : Nat) (lr : List (Option Value)) (sr : List Value), rx_stp X j (pcr, lr, sr, a2, M2) = some (.inr (.inr rv)) → rx_WA X p l e R s m (args := args) below meth c Q j (va_A (rx_wl I ρ M a.1) sz) D I (a.2.1, a.2.2) ρ a.1 (pcr, lr, sr, a2, M2)) :
    W p l e R s m args below meth c s.heap [] 0 0 Q (entryFrame m (vs.map (rx_tr ρ)).toArray (rx_mx j)) := by
  obtain ⟨hsz, hP, hK, hD, hNW, hZ⟩ := hpre
  obtain ⟨-, hcls, hini⟩ := rx_pk_ok (rx_go_lt hgo)
  subst hsz
  have hle := rx_go_le _ _ _ _ _ hgo
  have hle : a.1 ≤ a2.1 ∧ a.2.1 ≤ a2.2.1 ∧ a.2.2 ≤ a2.2.2 := hle
  have S : rx_St p R s m args meth c j d (va_A (rx_wl I ρ M a.1) s.heap.size) D I := ⟨hx, hb, hml, by rw [← hcls]; exact hn1, hts, hNW, hK, fun hi => by rw [hn2]; exact hini hi, hRf, hRl, fun q h => Or.inr h, hZ, hxt⟩
  have K := hFL d j _ _ hgo p e R s m args below meth c Q (va_A (rx_wl I ρ M a.1) s.heap.size) D I (a.2.1, a.2.2) ρ a.1 S (show a2.2.1 ≤ a.2.1 + R.cells by omega) (show a2.2.2 ≤ a.2.2 + R.slots by omega) (fin S)
  rw [lg_entry_eq]
  refine K ρ s.heap [] _ 0 0 (fun k _ => rfl) ⟨hP, hD.self, va_S.rf, rx_ent_lv hc1 hlen, Nat.le_refl _, hcl, fun v hv => ?_, (fun v hv => by cases hv), hmok, fun h => absurd h hlaw⟩ (Nat.zero_add _) (Nat.zero_add _)
  rcases List.mem_append.mp hv with h | h
  · obtain ⟨w, hw, e9⟩ := List.mem_map.mp h
    cases e9
    exact hrk _ hw
  · cases (List.mem_replicate.mp h).2
/-- the end of a method that returns -/
theorem rx_fin {j : Nat} {rv : Option Value} {a2 : rx_K} {M2 : rx_M} {ρ : Nat → Nat} {sz : Nat} (hn : rx_nr rv) (hr : meth.sig.returnType = rx_rt j) (hlk : meth.locks = false) (hsz : s.heap.size = sz) (S : rx_St p R s m args meth c j d (va_A (rx_wl I ρ M a.1) sz) D I) (hle : rx_le a a2) (pcr : Nat) (lr : List (Option Value)) (sr : List Value) (h : rx_stp X j (pcr, lr, sr, a2, M2) = some (.inr (.inr rv))) :
    rx_WA X p l e R s m args below meth c (MQ below (rx_Qc D I ρ a M sz rv a2 M2) args s (a2.2.1 - a.2.1) (a2.2.2 - a.2.2) (va_A (rx_wl I ρ M a.1) sz)) j (va_A (rx_wl I ρ M a.1) sz) D I (a.2.1, a.2.2) ρ a.1 (pcr, lr, sr, a2, M2) := by
  intro ρ' H locs lsr cells slots hρ hD hc hs
  dsimp only at hc hs hD
  have e1 : cells = a2.2.1 - a.2.1 := by omega
  have e2 : slots = a2.2.2 - a.2.2 := by omega
  have hq : ∀ t : State, t.heap = H → s.WarmedH t.vm → rx_Qc D I ρ a M sz rv a2 M2 args s (.returned rv) t := fun t ht hW => ⟨rfl, ⟨ρ', hρ, by rw [ht]; exact hD.1, hD.2.1⟩, hD.2.2.1.F ht, hD.2.2.2.2.2.1, hD.2.2.2.2.2.2.2.2.1⟩
  rw [← e1, ← e2]
  rcases rx_ret_ok h hn with ⟨hd, x, rfl, rfl, q⟩ | ⟨hd, x, rfl, rfl, q⟩ | ⟨hd, rfl, rfl, q⟩
  · rcases q with q | ⟨q, hx⟩
    · exact W.iret (v := x) S.1 S.2.1 (hr.trans q) hq hD.2.2.1.2.2 hd hlk
    · exact W.zret (v := x) (ty := .boolean) S.1 S.2.1 (hr.trans q) (by rcases hx with rfl | rfl <;> rfl) hq hD.2.2.1.2.2 hd hlk
  · exact W.lret (v := x) S.1 S.2.1 (hr.trans q) hq hD.2.2.1.2.2 hd hlk
  · exact W.vret S.1 S.2.1 (hr.trans q) hq hD.2.2.1.2.2 hd hlk
theorem rx_met {f : Nat} (hFL : rx_FLs X l f) {j : Nat} {vs : List Value} {rv : Option Value} {a2 : rx_K} {M2 : rx_M} (hgo : rx_go X f d j (rx_ent j vs a M) = some (rv, a2, M2)) (hlaw : j ≠ rx_law) (hnr : rx_nr rv) (ρ : Nat → Nat) (sz : Nat)
    (hc1 : rx_cat1 vs = true) (hlen : vs.length ≤ rx_mx j) (hrk : ∀ v ∈ vs, rx_rk a.1 v) (hmok : rx_mok a.1 M) (hcl : a.1 ≤ rx_cells) (D : va_G) (I : rx_I) :
    Met l (rx_y j) (rx_ws j) (rx_rm d (a2.2.1 - a.2.1) (a2.2.2 - a.2.2)) (va_Pc (vs.map (rx_tr ρ)) (rx_Pre D I ρ a M sz)) (rx_Qc D I ρ a M sz rv a2 M2) (a2.2.1 - a.2.1) (a2.2.2 - a.2.2) (va_A (rx_wl I ρ M a.1) sz) := by
  obtain ⟨hpn, -, -⟩ := rx_pk_ok (rx_go_lt hgo)
  have hle := rx_go_le _ _ _ _ _ hgo
  cases hcat : rx_cat j with
  | false =>
    have hw : rx_ws j = .code (rx_y j) (rx_c j) (rx_mx j) (rx_rt j) :: rx_B := by
      unfold rx_ws rx_cw
      rw [hcat]
      rfl
    refine Met.ofW (cc := rx_c j) (maxL := rx_mx j) (ret := rx_rt j) hpn hw ?_
    intro p e s m args below meth c s₁ B hml hv
    obtain ⟨rfl, hpre⟩ := hv
    have hts := atoms_spec (ws := rx_ws j) B.pre
    exact rx_body (R := rx_rm d (a2.2.1 - a.2.1) (a2.2.2 - a.2.2)) hFL hgo hlaw hc1 hlen hrk hmok hcl (Nat.le_refl _) (Nat.le_refl _) (Nat.le_refl _) (Nat.le_refl _) B.exec B.bytes hml (findClass_of_methodNamed B.named) (name_of_methodNamed B.named B.method).1 (fun w hw => hts w (List.mem_cons_of_mem _ hw)) hpre (fun z => by rw [hcat] at z; cases z) (fun S => rx_fin hnr B.returns B.notSynchronized hpre.1 S hle)
  | true =>
    have hw : rx_ws j = .codeWith (rx_y j) (rx_c j) (rx_mx j) (rx_rt j) (rx_hh j) :: rx_B := by
      unfold rx_ws rx_cw
      rw [hcat]
      rfl
    refine MetFree.of_bodyS (code := rx_c j) (maxLocals := rx_mx j) (ret := rx_rt j) hpn ?_ ?_
    · intro args s m h hn
      obtain ⟨m9, meth, c, hn9, h1, h2, h3, h4, -, h5, h6, -⟩ := Cond.codeWith_spec (atoms_spec (ws := rx_ws j) h _ (by rw [hw]; exact List.mem_cons_self))
      cases hn.symm.trans hn9
      exact ⟨meth, c, h1, h2, h3, h4, h5, h6⟩
    · intro p e s m args below meth c s₁ B hml hv _
      have hh0 : s₁.heap = s.heap := by rw [B.state]; rfl
      obtain ⟨rfl, hpre⟩ := hv
      have hts := atoms_spec (ws := rx_ws j) B.pre
      have K := rx_body (R := rx_rm d (a2.2.1 - a.2.1) (a2.2.2 - a.2.2)) (e := e) (Q := MQ below (rx_Qc D I ρ a M sz rv a2 M2) (vs.map (rx_tr ρ)).toArray s (a2.2.1 - a.2.1) (a2.2.2 - a.2.2) (va_A (rx_wl I ρ M a.1) sz)) hFL hgo hlaw hc1 hlen hrk hmok hcl (Nat.le_refl _) (Nat.le_refl _) (Nat.le_refl _) (Nat.le_refl _) B.exec B.bytes hml (findClass_of_methodNamed B.named) (name_of_methodNamed B.named B.method).1 (fun w hw => hts w (List.mem_cons_of_mem _ hw)) hpre (fun _ => vx_table (x := rx_y j) B (hts _ (by rw [hw]; exact List.mem_cons_self))) (fun S => rx_fin (e := e) hnr B.returns B.notSynchronized hpre.1 S hle)
      obtain ⟨t, a1, o, b1, b2, b3, b4⟩ := K s₁ hh0 (Stand.of_body B)
      exact ⟨t, o, a1, b1, b2, b3, b4⟩
end RXC
