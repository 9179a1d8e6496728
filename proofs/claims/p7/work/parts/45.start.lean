/-! THE CLAIM OUT OF ONE WALK OF THE LAW'S BODY. Your part is whole_start (and what it stands on); all else here is the same for every law, but numbers. -/
def R_law : String := "HourValleyLaw"
def lw_P (b : Addr) (xs : List Int32) (args : Array Value) (s : State) : Prop := args = #[.ref b] ∧ s.IntsAt b xs ∧ xs.length ≤ 3072 ∧ (Jvm.Cond.and given_1 narrow_1).before args s = true
def lw_Q (_ : Array Value) (s : State) (o : Outcome) (t : State) : Prop := o = .returned (some (.int 1)) ∧ Framed s o t [] 601024 7293034
def lw_Z (below : List Frame) (a : Array Value) (s : State) : State → Prop := fun t => ∃ o, t.status = .running ∧ Ended t below o ∧ lw_Q a s o t
/-- the law's own end, with 1 on the stack, nothing written that was there before, its room as the claim has it -/
theorem lw_ret {p : Program} {l : Launch} {e : Env} {s : State} {m : MethodId} {below : List Frame} {meth : Method} {c : Code} {b : Nat} (hx : p.tables.exec = Jvm.exec) (hb : c.code = code) (hr : meth.sig.returnType = ret) (hlocks : meth.locks = false) {pc : Nat} {H : Heap} {ls : Array Slot} (hdg : decode code pc = .ok (.ireturn, 1)) : W p l e room_1 s m #[Value.ref b] below meth c H [] 601024 7293034 (lw_Z below #[Value.ref b] s) (F0 m pc ls [.int 1]) := by
  intro T hT X
  obtain ⟨fs, hret, hrun, hended, hW, hframe⟩ := X.leave (v := some (.int 1)) (hlocks := hlocks) (fun h => by rw [hr] at h; cases h)
  have hmeth' : T.vm.method? m = some meth := X.method'
  refine ⟨T.setFrames fs, ?_, .returned (some (.int 1)), hrun, hended, rfl, ⟨_, rfl⟩, hW, hframe⟩
  jvm_step X.here [X.here.top, hx, hb, hdg, hmeth', hr, ret, narrow_b1]
  (try refine ⟨rfl, ?_⟩); (try refine ⟨rfl, ?_⟩)
  first | (intro acts; rw [hret _ acts rfl rfl rfl]) | rw [hret _ _ rfl rfl rfl]
  exact Steps.refl _
/-- what holds at the law's entry: the machine, the code, the tables' words (any of lw_tbl by 'hts w (by decide +kernel)'), the script of L ints xs at the cell b, what the Statement gives of the start (any of its parts by flat_of_before) -/
def lw_At (p : Program) (s : State) (m : MethodId) (meth : Method) (c : Code) (b L : Nat) (xs : Nat → Int32) : Prop :=
  p.tables.exec = Jvm.exec ∧ c.code = code ∧ meth.sig.returnType = ret ∧ c.maxLocals = 8 ∧ s.vm.findClass R_law = some m.cls ∧ (∀ w ∈ lw_tbl, w.before #[Value.ref b] s = true) ∧ va_X b L xs s s.heap ∧ b < s.heap.size ∧ meth.locks = false ∧ (Jvm.Cond.and given_1 narrow_1).before #[Value.ref b] s = true
/-! .. then of the real one -/
theorem rx_ao {s : State} {t : FieldType} (h : va_AOA t s) : ∃ (comp : ClassId) (c : ClassId) (k : Class), s.vm.classes[c]? = some k ∧ k.kind = .array comp (.array t) ∧ s.vm.findClass ("[" ++ (FieldType.array t).toString) = some c := by
  have h' : (Cond.arrayOver (.array t)).holds #[] s none s [] = true := h
  simp only [Cond.holds, Cond.value, beq_iff_eq] at h'
  cases hc : s.vm.findClass (FieldType.array t).toString with
  | none => simp [hc] at h'
  | some comp =>
    simp only [hc, Option.bind_some, Option.bind_eq_some_iff, Option.map_eq_some_iff] at h'
    obtain ⟨c, hi, k, hk, hb⟩ := h'
    obtain ⟨hlt, hp, -⟩ := Array.findIdx?_eq_some_iff_getElem.mp hi
    have hkk : s.vm.classes[c] = k := (Array.getElem?_eq_some_iff.mp hk).2
    rw [hkk] at hp
    cases hkind : k.kind with
    | array component ty =>
      rw [hkind] at hb hp
      simp at hb hp
      exact ⟨comp, c, k, hk, by rw [hkind, hp, hb.1], hb.2⟩
    | _ => rw [hkind] at hb; simp at hb
theorem rx_ar {args : Array Value} {s : State} {ty : FieldType} (h : (Cond.arrayClass ty).before args s = true) : ∃ cA : ClassId, ArrOfT s cA ty ∧ s.vm.findClass ("[" ++ ty.toString) = some cA := by
  obtain ⟨c, k, comp, h1, h2, h3⟩ := Cond.arrayClass_spec (show (Cond.arrayClass ty).holds args s none s [] = true from h)
  exact ⟨c, fun N z => ⟨(fun q hq => by cases hq), k, h2, comp, h3⟩, h1⟩
set_option maxRecDepth 100000 in
theorem rx_ik : (List.range 12).all (fun c => match vwCl[c]? with | some r => decide (Cond.instantiable r.1 r.2.2 ∈ lw_tbl) | none => false) = true := by decide +kernel
set_option maxRecDepth 100000 in
theorem rx_wm : ∀ w ∈ [Cond.arrayClass .int, Cond.arrayClass .boolean, Cond.arrayClass .long, Cond.arrayOver (.array .int), Cond.stringRef "HourValley" 230 "no such one, week, entry or view", Cond.stringRef "HourValley" 331 "no such shelf", Cond.stringRef "HourValley" 335 "no row, or no such place in it", Cond.laysStatic Bundle.tN "UNASSIGNED_STACK" Bundle.steD, Cond.laysStatic Bundle.tN "SUPPRESSED_SENTINEL" Bundle.listD, Cond.initialized Bundle.tN, Cond.instantiable "HourValley" 9], w ∈ lw_tbl := by decide +kernel
set_option maxRecDepth 100000 in
theorem rx_wn : ∀ w ∈ [Cond.isRef (.static Bundle.tN "UNASSIGNED_STACK" Bundle.steD), Cond.isRef (.static Bundle.tN "SUPPRESSED_SENTINEL" Bundle.listD), Cond.not (.castable "java/lang/IllegalStateException" "java/lang/IllegalArgumentException")], w ∈ flatC (Jvm.Cond.and given_1 narrow_1) := by decide +kernel
theorem rx_tx {args : Array Value} {s : State} {k : Nat} {tx : String} {cur : ClassId} (hc : s.vm.findClass "HourValley" = some cur) (h : (Cond.stringRef "HourValley" k tx).before args s = true) : ∃ sa, vk_R "HourValley" k tx sa s := by
  have h' : (Cond.stringRef "HourValley" k tx).holds #[] s none s [] = true := h
  obtain ⟨_, _, _, a, -, -, -, -, -, h9⟩ := Cond.stringRef_spec hc h'
  exact ⟨a, vk_R.of (A := #[]) h' h9⟩
theorem rx_Kex {args : Array Value} {s : State} (hts : ∀ w ∈ lw_tbl, w.before args s = true) : ∃ (D : va_G) (I : rx_I), va_K D vwCl (rx_ty I) s := by
  have h1 : ∀ k : Nat, ∃ d : ClassId × (Nat → Nat), ∀ q, vwCl[k]? = some q → u_Kn s q.1 q.2.1 q.2.2 d.1 d.2 := by
    intro k
    cases hk : vwCl[k]? with
    | none => exact ⟨(0, fun _ => 0), fun q hq => by cases hq⟩
    | some q =>
      have hk12 : k < 12 := (List.getElem?_eq_some_iff.mp hk).1
      have h2 := rx_all_at rx_ik hk12
      rw [hk] at h2
      obtain ⟨cC, iS, h3⟩ := u_known (C := q.1) (T := q.2.1) (N := q.2.2) (n := q.2.2) hts (fun w hw => (List.mem_filter.mp ((rx_cR_ok hk).2.2.2.2.1 w hw)).1) (hts _ (of_decide_eq_true h2))
      exact ⟨(cC, iS), fun q' hq' => by cases hq'; exact h3⟩
  obtain ⟨g, hg⟩ := Classical.axiomOfChoice h1
  obtain ⟨c1, a1, f1⟩ := rx_ar (hts _ (rx_wm (.arrayClass .int) (by simp)))
  obtain ⟨c2, a2, f2⟩ := rx_ar (hts _ (rx_wm (.arrayClass .boolean) (by simp)))
  obtain ⟨c4, a4, f4⟩ := rx_ar (hts _ (rx_wm (.arrayClass .long) (by simp)))
  obtain ⟨comp, c3, k3, b1, b2, b3⟩ := rx_ao (t := .int) (s := s) (hts _ (rx_wm (.arrayOver (.array .int)) (by simp)))
  refine ⟨(fun k => (g k).1, fun k => (g k).2), (c1, c2, c3, c4), fun k q hq => hg k q hq, fun k q hq => ?_⟩
  match k, hq with
  | 0, hq => cases hq; exact ⟨a1, f1⟩
  | 1, hq => cases hq; exact ⟨a2, f2⟩
  | 2, hq => cases hq; exact ⟨fun N z => ⟨(fun q hq => by cases hq), k3, b1, comp, b2⟩, b3⟩
  | 3, hq => cases hq; exact ⟨a4, f4⟩
  | k + 4, hq => cases hq
theorem whole_start (hmo : ∀ (L : Nat) (xs : Nat → Int32), ax_Y1 (L, xs) ax_sp ax_rf ax_s_188) {p : Program} {e : Env} {s : State} {m : MethodId} {below : List Frame} {meth : Method} {c : Code} (l : Launch) (hflags : l.flags = flags0) {b L : Nat} {xs : Nat → Int32} (hL : L ≤ 3072) (C0 : lw_At p s m meth c b L xs) : W p l e room_1 s m #[Value.ref b] below meth c s.heap [] 0 0 (lw_Z below #[Value.ref b] s) (entryFrame m ([Value.ref b] : List Value).toArray 8) := by
  obtain ⟨hx, hb, hr, hml, hown, hts, hX, hbl, hlocks, hgv⟩ := id C0
  obtain ⟨f, o, hgo, hP1, hP2, hP3⟩ := bx_pure L xs hL (hmo L xs)
  obtain ⟨rv, a2, M2⟩ := o
  dsimp only at hP1 hP2 hP3
  subst hP1
  have hst : l.stackTraces = false := by
    unfold Launch.stackTraces
    rw [hflags]
    decide +kernel
  have hfl := flat_of_before _ hgv
  obtain ⟨D, I, hK⟩ := rx_Kex hts
  obtain ⟨cH, kH, hcH, -⟩ := Cond.instantiable_spec (show (Cond.instantiable "HourValley" 9).holds #[Value.ref b] s none s [] = true from hts _ (rx_wm (.instantiable "HourValley" 9) (by simp)))
  have hnA : ∀ q : Nat, q < s.heap.size → ¬ s.heap.size ≤ q := fun q h => Nat.not_le.mpr h
  have hini : (Cond.initialized Bundle.tN).before #[Value.ref b] s = true := hts _ (rx_wm (.initialized Bundle.tN) (by simp))
  have hZ : rx_Z s (fun q => s.heap.size ≤ q) := ⟨vx_Zqof (hts _ (rx_wm (.laysStatic Bundle.tN "UNASSIGNED_STACK" Bundle.steD) (by simp))) hini (hfl _ (rx_wn (.isRef (.static Bundle.tN "UNASSIGNED_STACK" Bundle.steD)) (by simp))) hnA,
    vx_Zqof (hts _ (rx_wm (.laysStatic Bundle.tN "SUPPRESSED_SENTINEL" Bundle.listD) (by simp))) hini (hfl _ (rx_wn (.isRef (.static Bundle.tN "SUPPRESSED_SENTINEL" Bundle.listD)) (by simp))) hnA,
    rx_tx hcH (hts _ (rx_wm (.stringRef "HourValley" 230 "no such one, week, entry or view") (by simp))), rx_tx hcH (hts _ (rx_wm (.stringRef "HourValley" 331 "no such shelf") (by simp))), rx_tx hcH (hts _ (rx_wm (.stringRef "HourValley" 335 "no row, or no such place in it") (by simp))),
    va_Nc.of (hfl _ (rx_wn (.not (.castable "java/lang/IllegalStateException" "java/lang/IllegalArgumentException")) (by simp)))⟩
  have hNW : rx_NW s := ⟨fun w hw hn => va_Nw.of (by cases w <;> first | rfl | cases hn) (hts w hw), hts _ (rx_wm (.arrayOver (.array .int)) (by simp))⟩
  have S : rx_St p room_1 s m #[Value.ref b] meth c 249 45 (fun q => s.heap.size ≤ q) D I := ⟨hx, hb, hml, hown, fun w hw => hts w (List.mem_filter.mp hw).1, hNW, hK, (fun z => by cases z), Nat.le_of_ble_eq_true rfl, Nat.le_of_ble_eq_true rfl, (fun q h => h), hZ, (fun z => by cases z)⟩
  have K := rx_sound (X := (L, xs)) hst f 45 249 _ _ hgo p e room_1 s m #[Value.ref b] below meth c (lw_Z below #[Value.ref b] s) (fun q => s.heap.size ≤ q) D I (0, 0) (fun _ => b) 0 S (by show a2.2.1 ≤ 0 + 601024; omega) (by show a2.2.2 ≤ 0 + 7293034; omega) (fun pcr lr sr hstp => by
    intro ρ' H locs lsr cells slots hρ hD hc hs
    dsimp only at hc hs hD hstp
    refine va_forget (fun q hq => hD.2.2.1.2.2 q hq) ?_
    refine W.widen (k := 601024) (n := 7293034) (by omega) (by omega) ?_
    rcases rx_ret_ok hstp (Or.inr (Or.inl ⟨1, rfl⟩)) with ⟨hd, x, e1, e2, -⟩ | ⟨-, x, e1, -⟩ | ⟨-, e1, -⟩
    · cases e1
      rw [e2]
      exact lw_ret hx hb hr hlocks hd
    · cases e1
    · cases e1)
  have hl : rx_lv ((lg_sl ([Value.ref b]) ++ List.replicate (8 - (lg_sl ([Value.ref b])).length) Slot.unset).toArray) (rx_mx 249) ([Value.ref rx_scr].map some ++ List.replicate (rx_mx 249 - 1) none) (fun _ => b) := by
    have h := rx_ent_lv (j := 249) (vs := [.ref rx_scr]) (ρ := fun _ => b) rfl (by decide)
    exact h
  rw [lg_entry_eq]
  exact K (fun _ => b) s.heap [] _ 0 0 (fun _ _ => rfl) ⟨fun k q h => (by cases h), ⟨fun i j p q h => (by cases h), fun k q h => (by cases h)⟩, va_S.rf, hl, Nat.le_refl _, Nat.zero_le _, (fun v hv => by
    rcases List.mem_append.mp hv with h | h
    · rw [List.map_cons, List.map_nil] at h
      cases List.mem_singleton.mp h
      exact Or.inr rfl
    · cases (List.mem_replicate.mp h).2), (fun v hv => by cases hv), ⟨fun q j z h => absurd h (Nat.not_lt_zero _), fun q _ => ⟨fun _ => rfl, fun _ => rfl, fun _ => rfl⟩⟩, fun _ => ⟨hX, hbl, Nat.not_le.mpr hbl⟩⟩ rfl rfl
set_option maxHeartbeats 4000000 in
theorem lw_walk (hmo : ∀ (L : Nat) (xs : Nat → Int32), ax_Y1 (L, xs) ax_sp ax_rf ax_s_188) (l : Launch) (hflags : l.flags = flags0) (b : Addr) (xs : List Int32) : MetFree l x (headSpec (Jvm.Cond.code x code maxLocals ret :: tables_1) room_1) (lw_P b xs) (fun _ _ _ _ _ => True) lw_Q := by
  refine MetFree.of_bodyS (code := code) (maxLocals := maxLocals) (ret := ret) (by decide) ?_ ?_
  · intro args s m h hn
    obtain ⟨meth, c, h1, h2, h3, h4, h5, h6, -, -⟩ := Cond.code_spec hn (atoms_spec (ws := Jvm.Cond.code x code maxLocals ret :: tables_1) h _ List.mem_cons_self)
    exact ⟨meth, c, h1, h2, h3, h4, h5, h6⟩
  · intro p e s m args below meth c s₁ B hml0 hP _
    obtain ⟨rfl, hx, hbd, hgv⟩ := hP
    obtain ⟨scr, harrAt, hlist, hof, hsmall⟩ := hx
    obtain ⟨hcb, hkn, -, -⟩ := State.arrayAt?_spec harrAt
    have hown : s.vm.findClass R_law = some m.cls := findClass_of_methodNamed B.named
    have hts0 : ∀ c ∈ (Jvm.Cond.code x code maxLocals ret :: tables_1), c.before #[Value.ref b] s = true := atoms_spec (ws := Jvm.Cond.code x code maxLocals ret :: tables_1) B.pre
    have hts : ∀ w ∈ lw_tbl, w.before #[Value.ref b] s = true := k2_hts_sels lw_privs (fun w hw => hts0 w (List.mem_cons_of_mem _ hw)) lw_privs_ok
    have hml : c.maxLocals = 8 := B.maxLocals_eq (hts0 _ List.mem_cons_self)
    have X₀ : Stand p l e room_1 s m #[Value.ref b] below meth c s₁ [] 0 0 := Stand.of_body B
    have hh0 : s₁.heap = s.heap := by rw [B.state]; rfl
    have hsz : scr.slots.size = xs.length := by rw [← Array.length_toList, hlist, List.length_map]
    have hval : ∀ j : Nat, j < xs.length → scr.slots[j]? = some (.int (xs.getD j 0)) := fun j hj => by
      rw [← Array.getElem?_toList, hlist]
      simp [hj]
    have hbl : b < s.heap.size := (Array.getElem?_eq_some_iff.mp hcb).1
    have hX : va_X b xs.length (fun j => xs.getD j 0) s s.heap := ⟨scr, hcb, hof, hkn, hsz, hval⟩
    have K : W p l e room_1 s m #[Value.ref b] below meth c s₁.heap [] 0 0 (lw_Z below #[Value.ref b] s) (entryFrame m ([Value.ref b] : List Value).toArray 8) := by
      rw [hh0]
      exact whole_start hmo l hflags hbd ⟨B.exec, B.bytes, B.returns, hml, hown, hts, hX, hbl, B.notSynchronized, hgv⟩
    obtain ⟨t, a1, o, b1, b2, b3⟩ := K s₁ rfl X₀
    exact ⟨t, o, a1, b1, b2, b3⟩
theorem lw_pre_spec {args : Array Value} {s : State} (h : (Jvm.Cond.and given_1 narrow_1).before args s = true) (hr : rest_1_c.before args s = true) : ∃ (b : Addr) (xs : List Int32), lw_P b xs args s := by
  have hs := flat_of_before _ h
  have hq := flat_of_before _ hr
  have hc : (Cond.count 1).before args s = true := hs _ (by decide +kernel)
  have harr : (Cond.arrayOf (.arg 0) .int).before args s = true := hs _ (by decide +kernel)
  have hle : (Cond.le (.length (.arg 0)) (.int 3072)).before args s = true := hs _ (by decide +kernel)
  have hlen : (Cond.isInt (.length (.arg 0))).before args s = true := hq _ (by decide +kernel)
  have hall : (Cond.all (.arg 0) (.isInt (.elem (.arg 0) (.index 0)))).before args s = true := hq _ (by decide +kernel)
  obtain ⟨b, xs, hb, hx⟩ := State.ints_of_pre rfl harr hlen hall
  have hsm : xs.length < 2 ^ 31 := hx.choose_spec.2.2.2
  have hev : (Term.length (.arg 0)).eval args s none [] s = some (.int xs.length.toInt32) := hx.length_eval hb
  have hv := Cond.le_ints hev (show (Term.int 3072).eval args s none [] s = some (.int 3072) from rfl)
  have hd : xs.length.toInt32 ≤ 3072 := by
    simpa [Cond.before, Cond.holds, hv] using hle
  have hN : xs.length ≤ 3072 := (Int32.ofNat_le_ofNat hsm (by decide)).mp (show Int32.ofNat xs.length ≤ Int32.ofNat 3072 from hd)
  exact ⟨b, xs, Cond.one_arg hc (show args[0]? = some (.ref b) from hb), hx, hN, h⟩
theorem lw_comes (hmo : ∀ (L : Nat) (xs : Nat → Int32), ax_Y1 (L, xs) ax_sp ax_rf ax_s_188) (l : Launch) (hflags : l.flags = flags0) : Comes l x (Jvm.Cond.code x code maxLocals ret :: tables_1) room_1 (fun tb e args s => Calls_1 tb e args s ∧ rest_1 tb e args s ∧ Pre_1 tb e args s)
    (fun _ _ args s o t => lw_Q args s o t) := by
  intro p e ha hc hk s m args below hf hfit hheap happ hpre
  obtain ⟨b, xs, hP⟩ := lw_pre_spec hpre.2.2 hpre.2.1
  obtain ⟨k, o, h1, h2, h3, hQ⟩ := lw_walk hmo l hflags b xs p e ha hc hk s m args below hf ((Spec.applies_iff_loose hf).mp happ).1 hP trivial
  exact ⟨k, o, h1, h2, h3, hQ⟩
theorem lw_frame {s t : State} {o : Outcome} {args : Array Value} (h : Framed s o t [] 601024 7293034) :
    Framed s o t (fieldLocs frame_1_writes args s ++ arrayLocs frame_1_arrays args s ++ staticLocs frame_1_statics s) 601024 7293034 := h
theorem lw_limb (hmo : ∀ (L : Nat) (xs : Nat → Int32), ax_Y1 (L, xs) ax_sp ax_rf ax_s_188) (L : Cond) (hL : ∀ (args : Array Value) (s t : State), L.after args s (.returned (some (.int 1))) t = true) :
    ArmFor flags0 classFile x code maxLocals ret World_1 tables_1 room_1 Calls_1 rest_1 Pre_1
      (fun tb e a s o t => postC L tb e a s o t ∧ Framed s o t (fieldLocs frame_1_writes a s ++ arrayLocs frame_1_arrays a s ++ staticLocs frame_1_statics s) 601024 7293034) := by
  intro l hflags _ _ p e ha hc hk s m args below hf hfit hheap happ hpre
  obtain ⟨k, o, h1, h2, h3, rfl, hF⟩ := lw_comes hmo l hflags p e ha hc hk s m args below hf hfit hheap happ hpre
  exact ⟨k, _, h1, h2, h3, hL args s _, lw_frame hF⟩
/-- the claim, but for the reference's mostOf -/
theorem i_vc0 (hmo : ∀ (L : Nat) (xs : Nat → Int32), ax_Y1 (L, xs) ax_sp ax_rf ax_s_188) : Claimed_1_1 ∧ Claimed_1_2 := ⟨lw_limb hmo limb_1_1 (fun args s t => by simp [limb_1_1, Cond.after, Cond.holds, Cond.value]), lw_limb hmo limb_1_2 (fun args s t => Cond.after_iff.mpr (by
  first | (rw [show limb_1_2 = Cond.eq .result (.int 1) from rfl, Cond.eq_ints (x := 1) (y := 1) rfl rfl]; simp; done) | (simp [limb_1_2, Cond.value, Term.eval]; done)))⟩
theorem i_vc : Claimed_1_1 ∧ Claimed_1_2 := i_vc0 (fun _ _ => ax_y_188)
