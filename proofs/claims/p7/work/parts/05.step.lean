/-! each instruction of the abstract machine, by the kit's row -/
noncomputable def rx_B : List Cond := lw_tbl.filter goodWord
noncomputable def rx_nest (w : Cond) : Bool := match w with
  | .fieldLinkNest _ _ _ _ _ _ => true
  | .methodLinkNest _ _ _ _ => true
  | .castable _ _ => true
  | .declares _ => true
  | _ => false
noncomputable def rx_NW (s : State) : Prop := (∀ w ∈ lw_tbl, rx_nest w = true → va_Nw w s) ∧ va_AOA .int s
noncomputable def rx_IAE : String := "java/lang/IllegalArgumentException"
noncomputable def rx_ISE : String := "java/lang/IllegalStateException"
/-- what a throw needs: two statics of Throwable's, three texts -/
noncomputable def rx_Z (s : State) (A : Nat → Prop) : Prop := vx_Zq Bundle.tN "UNASSIGNED_STACK" Bundle.steD A s s.heap ∧ vx_Zq Bundle.tN "SUPPRESSED_SENTINEL" Bundle.listD A s s.heap ∧ (∃ sa, vk_R "HourValley" 230 "no such one, week, entry or view" sa s) ∧ (∃ sa, vk_R "HourValley" 331 "no such shelf" sa s) ∧ (∃ sa, vk_R "HourValley" 335 "no row, or no such place in it" sa s) ∧ va_Nc rx_ISE rx_IAE s
noncomputable def rx_ty (I : rx_I) : List (ClassId × FieldType) := [(I.1, .int), (I.2.1, .boolean), (I.2.2.1, .array .int), (I.2.2.2, .long)]
noncomputable def rx_St (p : Program) (R : Room) (s : State) (m : MethodId) (args : Array Value) (meth : Method) (c : Code) (i d : Nat) (A : Nat → Prop) (D : va_G) (I : rx_I) : Prop :=
  p.tables.exec = Jvm.exec ∧ c.code = rx_c i ∧ c.maxLocals = rx_mx i ∧ s.vm.findClass (rx_cls (rx_cn i)) = some m.cls ∧ (∀ w ∈ rx_B, w.before args s = true) ∧ rx_NW s ∧ va_K D vwCl (rx_ty I) s ∧ (rx_ini i = true → meth.name = "<init>") ∧ d + 8 ≤ R.frames ∧ 64 * d + 300 ≤ R.locals ∧ (∀ q, s.heap.size ≤ q → A q) ∧ rx_Z s A ∧ (rx_cat i = true → c.exceptionTable.toList = tableOf (rx_hh i))
noncomputable def rx_Sc (X : Nat × (Nat → Int32)) (ρ : Nat → Nat) (A : Nat → Prop) (s : State) (i : Nat) : Prop := i = rx_law → (va_X (ρ rx_scr) X.1 X.2 s s.heap ∧ ρ rx_scr < s.heap.size ∧ ¬ A (ρ rx_scr))
noncomputable def rx_Dy (X : Nat × (Nat → Int32)) (s : State) (A : Nat → Prop) (D : va_G) (I : rx_I) (ρ : Nat → Nat) (n0 i : Nat) (ls : List (Option Value)) (st : List Value) (a : rx_K) (M : rx_M) (H : Heap) (locs : List Loc) (lsr : Array Slot) : Prop :=
  va_P D vwCl (rx_wl I ρ M a.1) H ∧ va_D A (rx_wl I ρ M a.1) ∧ va_S A s.heap H locs ∧ rx_lv lsr (rx_mx i) ls ρ ∧ n0 ≤ a.1 ∧ a.1 ≤ rx_cells ∧ (∀ v, some v ∈ ls → rx_rk a.1 v) ∧ (∀ v ∈ st, rx_rk a.1 v) ∧ rx_mok a.1 M ∧ rx_Sc X ρ A s i
/-- from every real state that the abstract one tells, Q is reached -/
noncomputable def rx_WA (X : Nat × (Nat → Int32)) (p : Program) (l : Launch) (e : Env) (R : Room) (s : State) (m : MethodId) (args : Array Value) (below : List Frame) (meth : Method) (c : Code) (Q : State → Prop) (i : Nat) (A : Nat → Prop) (D : va_G) (I : rx_I) (k0 : Nat × Nat) (ρ0 : Nat → Nat) (n0 : Nat) (g : rx_C) : Prop :=
  ∀ (ρ : Nat → Nat) (H : Heap) (locs : List Loc) (lsr : Array Slot) (cells slots : Nat), (∀ k, k < n0 ∨ k = rx_scr → ρ k = ρ0 k) → rx_Dy X s A D I ρ n0 i g.2.1 g.2.2.1 g.2.2.2.1 g.2.2.2.2 H locs lsr →
    cells + k0.1 = g.2.2.2.1.2.1 → slots + k0.2 = g.2.2.2.1.2.2 → W p l e R s m args below meth c H locs cells slots Q (F0 m g.1 lsr (g.2.2.1.map (rx_tr ρ)))
theorem rx_Dy.stk {X : Nat × (Nat → Int32)} {s : State} {A : Nat → Prop} {D : va_G} {I : rx_I} {ρ : Nat → Nat} {n0 i : Nat} {ls : List (Option Value)} {st st' : List Value} {a : rx_K} {M : rx_M} {H : Heap} {locs : List Loc} {lsr : Array Slot} (h : rx_Dy X s A D I ρ n0 i ls st a M H locs lsr) (hs : ∀ v ∈ st', rx_rk a.1 v) : rx_Dy X s A D I ρ n0 i ls st' a M H locs lsr :=
  ⟨h.1, h.2.1, h.2.2.1, h.2.2.2.1, h.2.2.2.2.1, h.2.2.2.2.2.1, h.2.2.2.2.2.2.1, hs, h.2.2.2.2.2.2.2.2.1, h.2.2.2.2.2.2.2.2.2⟩
theorem rx_Dy.st {X : Nat × (Nat → Int32)} {s : State} {A : Nat → Prop} {D : va_G} {I : rx_I} {ρ : Nat → Nat} {n0 i : Nat} {ls : List (Option Value)} {st : List Value} {a : rx_K} {M : rx_M} {H : Heap} {locs : List Loc} {lsr : Array Slot} (h : rx_Dy X s A D I ρ n0 i ls st a M H locs lsr) : ∀ v ∈ st, rx_rk a.1 v := h.2.2.2.2.2.2.2.1
theorem rx_Dy.loc {X : Nat × (Nat → Int32)} {s : State} {A : Nat → Prop} {D : va_G} {I : rx_I} {ρ : Nat → Nat} {n0 i : Nat} {ls ls' : List (Option Value)} {st st' : List Value} {a : rx_K} {M : rx_M} {H : Heap} {locs : List Loc} {lsr lsr' : Array Slot} (h : rx_Dy X s A D I ρ n0 i ls st a M H locs lsr) (hl : rx_lv lsr' (rx_mx i) ls' ρ) (hr : ∀ v, some v ∈ ls' → rx_rk a.1 v) (hs : ∀ v ∈ st', rx_rk a.1 v) : rx_Dy X s A D I ρ n0 i ls' st' a M H locs lsr' :=
  ⟨h.1, h.2.1, h.2.2.1, hl, h.2.2.2.2.1, h.2.2.2.2.2.1, hr, hs, h.2.2.2.2.2.2.2.2.1, h.2.2.2.2.2.2.2.2.2⟩
theorem rx_kill_mem {ls : List (Option Value)} {k : Nat} {v : Value} (h : some v ∈ rx_kill ls k) : some v ∈ ls := by
  obtain ⟨j, hj⟩ := List.getElem?_of_mem h
  exact List.mem_of_getElem? (rx_kill_get hj).1
theorem rx_s1_mem {ls : List (Option Value)} {k : Nat} {v w : Value} (h : some w ∈ rx_s1 ls k v) : w = v ∨ some w ∈ ls := by
  unfold rx_s1 at h
  rcases List.mem_or_eq_of_mem_set h with h | h
  · exact Or.inr (rx_kill_mem h)
  · exact Or.inl (Option.some.inj h)
theorem rx_s2_mem {ls : List (Option Value)} {k : Nat} {v w : Value} (h : some w ∈ rx_s2 ls k v) : w = v ∨ some w ∈ ls := by
  unfold rx_s2 at h
  rcases List.mem_or_eq_of_mem_set h with h | h
  · exact rx_s1_mem h
  · cases h
theorem rx_no_mem {ls : List (Option Value)} {k : Nat} {w : Value} (h : some w ∈ (rx_kill ls k).set k none) : some w ∈ ls := by
  rcases List.mem_or_eq_of_mem_set h with h | h
  · exact rx_kill_mem h
  · cases h
section RXS
variable {X : Nat × (Nat → Int32)} {p : Program} {l : Launch} {e : Env} {R : Room} {s : State} {m : MethodId} {args : Array Value} {below : List Frame} {meth : Method} {c : Code} {Q : State → Prop} {i d : Nat} {A : Nat → Prop} {D : va_G} {I : rx_I} {k0 : Nat × Nat} {ρ0 : Nat → Nat} {n0 : Nat}
variable {pc : Nat} {ls : List (Option Value)} {st r : List Value} {a : rx_K} {M : rx_M}
/-- a step that changes the stack alone -/
theorem rx_w (pc' : Nat) (st' : List Value) (hrk : (∀ v ∈ st, rx_rk a.1 v) → (∀ v, some v ∈ ls → rx_rk a.1 v) → ∀ v ∈ st', rx_rk a.1 v)
    (hstep : ∀ (ρ : Nat → Nat) (H : Heap) (locs : List Loc) (lsr : Array Slot) (cells slots : Nat), rx_lv lsr (rx_mx i) ls ρ → W p l e R s m args below meth c H locs cells slots Q (F0 m pc' lsr (st'.map (rx_tr ρ))) → W p l e R s m args below meth c H locs cells slots Q (F0 m pc lsr (st.map (rx_tr ρ))))
    (k : rx_WA X p l e R s m args below meth c Q i A D I k0 ρ0 n0 (pc', ls, st', a, M)) : rx_WA X p l e R s m args below meth c Q i A D I k0 ρ0 n0 (pc, ls, st, a, M) := by
  intro ρ H locs lsr cells slots hρ hD hc hs
  exact hstep ρ H locs lsr cells slots hD.2.2.2.1 (k ρ H locs lsr cells slots hρ (hD.stk (hrk hD.st hD.2.2.2.2.2.2.1)) hc hs)
theorem rx_tl {n : Nat} {v : Value} {r : List Value} (h : ∀ w ∈ v :: r, rx_rk n w) : ∀ w ∈ r, rx_rk n w := fun w hw => h w (List.mem_cons_of_mem _ hw)
theorem rx_hd1 {n : Nat} {v : Value} {r : List Value} (h : ∀ w ∈ v :: r, rx_rk n w) : rx_rk n v := h v List.mem_cons_self
theorem rx_cs {n : Nat} {v : Value} {r : List Value} (h : rx_rk n v) (hr : ∀ w ∈ r, rx_rk n w) : ∀ w ∈ v :: r, rx_rk n w := fun w hw => (List.mem_cons.mp hw).elim (fun q => by rw [q]; exact h) (hr w)
theorem rx_nxI {pc1 pc2 : Nat} {l1 l2 : List (Option Value)} {s1 s2 : List Value} {a1 a2 : rx_K} {M1 M2 : rx_M} (h : rx_nx pc1 l1 s1 a1 M1 = some (.inl (pc2, l2, s2, a2, M2))) : pc1 = pc2 ∧ l1 = l2 ∧ s1 = s2 ∧ a1 = a2 ∧ M1 = M2 := by
  unfold rx_nx at h
  cases h
  exact ⟨rfl, rfl, rfl, rfl, rfl⟩
theorem rx_ld_ok {k sh : Nat} {pc1 : Nat} {g : rx_C} (h : rx_ld ls k sh pc1 st a M = some (.inl g)) : ∃ v, ls[k]? = some (some v) ∧ g = (pc1, ls, v :: st, a, M) ∧ ((sh = 0 ∧ ∃ x, v = .int x) ∨ (sh = 1 ∧ ∃ x, v = .ref x) ∨ (sh = 2 ∧ ∃ x, v = .long x)) := by
  unfold rx_ld at h
  split at h
  · rename_i v hv
    split at h
    · unfold rx_nx at h; cases h; exact ⟨_, hv, rfl, Or.inl ⟨rfl, _, rfl⟩⟩
    · unfold rx_nx at h; cases h; exact ⟨_, hv, rfl, Or.inr (Or.inl ⟨rfl, _, rfl⟩)⟩
    · unfold rx_nx at h; cases h; exact ⟨_, hv, rfl, Or.inr (Or.inr ⟨rfl, _, rfl⟩)⟩
    · cases h
  · cases h
theorem rx_ld_no {k sh : Nat} {pc1 : Nat} {z} (h : rx_ld ls k sh pc1 st a M = some (.inr z)) : False := by
  unfold rx_ld at h
  split at h
  · split at h
    · unfold rx_nx at h; cases h
    · unfold rx_nx at h; cases h
    · unfold rx_nx at h; cases h
    · cases h
  · cases h
/-- a load: its own row given -/
theorem rx_load {k sh : Nat} {pc1 : Nat} {g : rx_C} (h : rx_ld ls k sh pc1 st a M = some (.inl g))
    (row : ∀ (ρ : Nat → Nat) (H : Heap) (locs : List Loc) (lsr : Array Slot) (cells slots : Nat) (v : Value), lsr[k]? = some (.val (rx_tr ρ v)) → ((sh = 0 ∧ ∃ x, v = .int x) ∨ (sh = 1 ∧ ∃ x, v = .ref x) ∨ (sh = 2 ∧ ∃ x, v = .long x)) →
      W p l e R s m args below meth c H locs cells slots Q (F0 m pc1 lsr (rx_tr ρ v :: st.map (rx_tr ρ))) → W p l e R s m args below meth c H locs cells slots Q (F0 m pc lsr (st.map (rx_tr ρ))))
    (kk : rx_WA X p l e R s m args below meth c Q i A D I k0 ρ0 n0 g) : rx_WA X p l e R s m args below meth c Q i A D I k0 ρ0 n0 (pc, ls, st, a, M) := by
  obtain ⟨v, hv, rfl, hsh⟩ := rx_ld_ok h
  refine rx_w pc1 (v :: st) (fun h1 h2 => rx_cs (h2 v (List.mem_of_getElem? hv)) h1) (fun ρ H locs lsr cells slots hl hk => ?_) kk
  exact row ρ H locs lsr cells slots v (hl.2.2.2 k v hv) hsh hk
theorem rx_sto_ok {k sh : Nat} {pc1 : Nat} {g : rx_C} (h : rx_sto ls k sh pc1 st a M = some (.inl g)) : ∃ v r, st = v :: r ∧ ((sh = 0 ∧ k < ls.length ∧ (∃ x, v = .int x) ∧ g = (pc1, rx_s1 ls k v, r, a, M)) ∨ (sh = 1 ∧ k < ls.length ∧ (∃ x, v = .ref x) ∧ g = (pc1, rx_s1 ls k v, r, a, M)) ∨ (sh = 2 ∧ k + 1 < ls.length ∧ (∃ x, v = .long x) ∧ g = (pc1, rx_s2 ls k v, r, a, M))) := by
  unfold rx_sto at h
  split at h
  · rename_i v r
    refine ⟨v, r, rfl, ?_⟩
    split at h
    · split at h
      · unfold rx_nx at h; cases h; exact Or.inl ⟨rfl, by assumption, ⟨_, rfl⟩, rfl⟩
      · cases h
    · split at h
      · unfold rx_nx at h; cases h; exact Or.inr (Or.inl ⟨rfl, by assumption, ⟨_, rfl⟩, rfl⟩)
      · cases h
    · split at h
      · unfold rx_nx at h; cases h; exact Or.inr (Or.inr ⟨rfl, by assumption, ⟨_, rfl⟩, rfl⟩)
      · cases h
    · cases h
  · cases h
theorem rx_sto_no {k sh : Nat} {pc1 : Nat} {z} (h : rx_sto ls k sh pc1 st a M = some (.inr z)) : False := by
  unfold rx_sto at h
  split at h
  · split at h
    · split at h
      · unfold rx_nx at h; cases h
      · cases h
    · split at h
      · unfold rx_nx at h; cases h
      · cases h
    · split at h
      · unfold rx_nx at h; cases h
      · cases h
    · cases h
  · cases h
/-- a store of one word: its own row given -/
theorem rx_stor1 {k : Nat} {pc1 : Nat} {v : Value} (hk : k < ls.length)
    (row : ∀ (ρ : Nat → Nat) (H : Heap) (locs : List Loc) (lsr : Array Slot) (cells slots : Nat), lv_has lsr (rx_mx i) (rx_lp ρ ls) → k < rx_mx i →
      (∀ lsr' : Array Slot, lv_has lsr' (rx_mx i) ((k, rx_tr ρ v) :: (rx_lp ρ ls).filter (fun q => !(q.1 == k) && !(q.1 + 1 == k && q.2.category == 2))) → W p l e R s m args below meth c H locs cells slots Q (F0 m pc1 lsr' (r.map (rx_tr ρ)))) → W p l e R s m args below meth c H locs cells slots Q (F0 m pc lsr (rx_tr ρ v :: r.map (rx_tr ρ))))
    (kk : rx_WA X p l e R s m args below meth c Q i A D I k0 ρ0 n0 (pc1, rx_s1 ls k v, r, a, M)) : rx_WA X p l e R s m args below meth c Q i A D I k0 ρ0 n0 (pc, ls, v :: r, a, M) := by
  intro ρ H locs lsr cells slots hρ hD hc hs
  have hl := hD.2.2.2.1
  have hk' : k < rx_mx i := by rw [← hl.1]; exact hk
  refine row ρ H locs lsr cells slots (rx_lv_has hl) hk' (fun lsr' h' => ?_)
  refine kk ρ H locs lsr' cells slots hρ (hD.loc (rx_lv_s1 hl.1 hk' h') (fun w hw => ?_) (rx_tl hD.st)) hc hs
  rcases rx_s1_mem hw with q | q
  · rw [q]; exact rx_hd1 hD.st
  · exact hD.2.2.2.2.2.2.1 w q
theorem rx_stor2 {k : Nat} {pc1 : Nat} {v : Value} (hk : k + 1 < ls.length)
    (row : ∀ (ρ : Nat → Nat) (H : Heap) (locs : List Loc) (lsr : Array Slot) (cells slots : Nat), lv_has lsr (rx_mx i) (rx_lp ρ ls) → k + 1 < rx_mx i →
      (∀ lsr' : Array Slot, lv_has lsr' (rx_mx i) ((k, rx_tr ρ v) :: (rx_lp ρ ls).filter (fun q => !(q.1 == k) && (!(q.1 == k + 1) && !(q.1 + 1 == k && q.2.category == 2)))) → W p l e R s m args below meth c H locs cells slots Q (F0 m pc1 lsr' (r.map (rx_tr ρ)))) → W p l e R s m args below meth c H locs cells slots Q (F0 m pc lsr (rx_tr ρ v :: r.map (rx_tr ρ))))
    (kk : rx_WA X p l e R s m args below meth c Q i A D I k0 ρ0 n0 (pc1, rx_s2 ls k v, r, a, M)) : rx_WA X p l e R s m args below meth c Q i A D I k0 ρ0 n0 (pc, ls, v :: r, a, M) := by
  intro ρ H locs lsr cells slots hρ hD hc hs
  have hl := hD.2.2.2.1
  have hk' : k + 1 < rx_mx i := by rw [← hl.1]; exact hk
  refine row ρ H locs lsr cells slots (rx_lv_has hl) hk' (fun lsr' h' => ?_)
  refine kk ρ H locs lsr' cells slots hρ (hD.loc (rx_lv_s2 hl.1 hk' h') (fun w hw => ?_) (rx_tl hD.st)) hc hs
  rcases rx_s2_mem hw with q | q
  · rw [q]; exact rx_hd1 hD.st
  · exact hD.2.2.2.2.2.2.1 w q
theorem rx_bin_ok {f : Int32 → Int32 → Int32} {pc1 : Nat} {g : rx_C} (h : rx_bin f pc1 ls st a M = some (.inl g)) : ∃ x y r, st = .int y :: .int x :: r ∧ g = (pc1, ls, .int (f x y) :: r, a, M) := by
  unfold rx_bin at h
  split at h
  · unfold rx_nx at h; cases h; exact ⟨_, _, _, rfl, rfl⟩
  · cases h
theorem rx_bin_no {f : Int32 → Int32 → Int32} {pc1 : Nat} {z} (h : rx_bin f pc1 ls st a M = some (.inr z)) : False := by
  unfold rx_bin at h
  split at h
  · unfold rx_nx at h; cases h
  · cases h
theorem rx_bin1 {f : Int32 → Int32 → Int32} {pc1 : Nat} {g : rx_C} (h : rx_bin f pc1 ls st a M = some (.inl g))
    (row : ∀ (H : Heap) (locs : List Loc) (lsr : Array Slot) (cells slots : Nat) (x y : Int32) (rest : List Value), W p l e R s m args below meth c H locs cells slots Q (F0 m pc1 lsr (.int (f x y) :: rest)) → W p l e R s m args below meth c H locs cells slots Q (F0 m pc lsr (.int y :: .int x :: rest)))
    (kk : rx_WA X p l e R s m args below meth c Q i A D I k0 ρ0 n0 g) : rx_WA X p l e R s m args below meth c Q i A D I k0 ρ0 n0 (pc, ls, st, a, M) := by
  obtain ⟨x, y, r, rfl, rfl⟩ := rx_bin_ok h
  exact rx_w pc1 (.int (f x y) :: r) (fun h1 _ => rx_cs rx_rk_i (rx_tl (rx_tl h1))) (fun ρ H locs lsr cells slots _ hk => row H locs lsr cells slots x y _ hk) kk
theorem rx_jmp_ok {off : Int} {g : rx_C} (h : rx_jmp pc off ls st a M = some (.inl g)) : ∃ t : Nat, (pc : Int) + off = (t : Int) ∧ g = (t, ls, st, a, M) := by
  unfold rx_jmp at h
  split at h
  · rename_i t ht
    unfold rx_nx at h
    cases h
    exact ⟨t, ht, rfl⟩
  · cases h
theorem rx_jmp_no {off : Int} {z} (h : rx_jmp pc off ls st a M = some (.inr z)) : False := by
  unfold rx_jmp at h
  split at h
  · unfold rx_nx at h; cases h
  · cases h
theorem rx_br_ok {q : Prop} [Decidable q] {off : Int} {g : rx_C} (h : rx_br q pc off ls st a M = some (.inl g)) : ∃ t : Nat, (pc : Int) + off = (t : Int) ∧ ((q ∧ g = (t, ls, st, a, M)) ∨ (¬ q ∧ g = (pc + 3, ls, st, a, M))) := by
  unfold rx_br at h
  split at h
  · rename_i t ht
    refine ⟨t, ht, ?_⟩
    split at h
    · unfold rx_nx at h; cases h; exact Or.inl ⟨by assumption, rfl⟩
    · unfold rx_nx at h; cases h; exact Or.inr ⟨by assumption, rfl⟩
  · cases h
theorem rx_br_no {q : Prop} [Decidable q] {off : Int} {z} (h : rx_br q pc off ls st a M = some (.inr z)) : False := by
  unfold rx_br at h
  split at h
  · split at h
    · unfold rx_nx at h; cases h
    · unfold rx_nx at h; cases h
  · cases h
/-- a branch: its own row given -/
theorem rx_bra {q : Prop} [Decidable q] {off : Int} {g : rx_C} (h : rx_br q pc off ls r a M = some (.inl g)) {st0 : List Value} (hst : (∀ w ∈ st0, rx_rk a.1 w) → ∀ w ∈ r, rx_rk a.1 w)
    (row : ∀ (H : Heap) (locs : List Loc) (lsr : Array Slot) (cells slots : Nat) (ρ : Nat → Nat) (t : Nat), (pc : Int) + off = (t : Int) → (q → W p l e R s m args below meth c H locs cells slots Q (F0 m t lsr (r.map (rx_tr ρ)))) → (¬ q → W p l e R s m args below meth c H locs cells slots Q (F0 m (pc + 3) lsr (r.map (rx_tr ρ)))) → W p l e R s m args below meth c H locs cells slots Q (F0 m pc lsr (st0.map (rx_tr ρ))))
    (kk : rx_WA X p l e R s m args below meth c Q i A D I k0 ρ0 n0 g) : rx_WA X p l e R s m args below meth c Q i A D I k0 ρ0 n0 (pc, ls, st0, a, M) := by
  obtain ⟨t, ht, ⟨hq, rfl⟩ | ⟨hq, rfl⟩⟩ := rx_br_ok h
  · exact rx_w t r (fun h1 _ => hst h1) (fun ρ H locs lsr cells slots _ hk => row H locs lsr cells slots ρ t ht (fun _ => hk) (fun z => absurd hq z)) kk
  · exact rx_w (pc + 3) r (fun h1 _ => hst h1) (fun ρ H locs lsr cells slots _ hk => row H locs lsr cells slots ρ t ht (fun z => absurd z hq) (fun _ => hk)) kk
end RXS
