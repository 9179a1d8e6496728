/-! the core: arriving at a state; methods by their states (heads of loops, the entry), their measure falling -/
section AXAG
variable {v v' : ax_V} {n : Nat}
theorem ax_ag_vi (h : ∀ k, k < n → v' k = v k) {w : Value} (hw : ax_sc n w = true) : ax_vi v' w = ax_vi v w := by
  cases w with
  | retAddr k => show (v' k).1 = (v k).1; rw [h k (Nat.blt_eq.mp hw)]
  | _ => rfl
theorem ax_ag_cell (h : ∀ k, k < n → v' k = v k) {w : Value} (hw : ax_sc n w = true) : ax_cell v' w = ax_cell v w := by
  cases w with
  | float b => show (v' b.toNat).1.toNatClampNeg = (v b.toNat).1.toNatClampNeg; rw [h b.toNat (Nat.blt_eq.mp hw)]
  | _ => rfl
theorem ax_ag_v (h : ∀ k, k < n → v' k = v k) {w : Value} (hw : ax_sc n w = true) : ax_v v' w = ax_v v w := by
  cases w with
  | retAddr k => show Value.int (v' k).1 = Value.int (v k).1; rw [h k (Nat.blt_eq.mp hw)]
  | float b => show Value.ref (v' b.toNat).1.toNatClampNeg = Value.ref (v b.toNat).1.toNatClampNeg; rw [h b.toNat (Nat.blt_eq.mp hw)]
  | double b => show Value.long (v' b.toNat).2 = Value.long (v b.toNat).2; rw [h b.toNat (Nat.blt_eq.mp hw)]
  | _ => rfl
theorem ax_ag_ls (h : ∀ k, k < n → v' k = v k) {ls : List (Option Value)} (hw : ax_scO n ls = true) : ax_ls v' ls = ax_ls v ls := by
  unfold ax_scO at hw
  unfold ax_ls
  refine List.map_congr_left fun o ho => ?_
  have h1 := List.all_eq_true.mp hw o ho
  cases o with
  | none => rw [Option.map_none, Option.map_none]
  | some w =>
    have h2 : ax_sc n w = true := h1
    rw [Option.map_some, Option.map_some, ax_ag_v h h2]
theorem ax_ag_kn (h : ∀ k, k < n → v' k = v k) {K : ax_K} {M : rx_M} (hw : ax_kw n K) (hK : ax_kn v K M) : ax_kn v' K M := fun e he => by
  have k := hK e he
  unfold ax_k1 at k ⊢
  rw [ax_ag_vi h (hw e he).1, ax_ag_vi h (hw e he).2, ax_ag_cell h (hw e he).2]
  exact k
end AXAG
noncomputable def ax_bdq (sp : Nat → Nat → Int × Int) (q : Nat) (y : Value) : Int × Int := match y with
  | .int x => sp q x.toNatClampNeg
  | _ => (match rx_lay q with
    | some (.inr _) => sp q 0
    | _ => sx_full)
/-- where the unknowns come from; what isn't known of memory is read -/
noncomputable def ax_ars (sp : Nat → Nat → Int × Int) (ls : List (Option Value)) (k : List Value → ax_E → ax_K → Bool) (L : List ax_sr) : List Value → ax_E → ax_K → Bool := List.rec (motive := fun _ => List Value → ax_E → ax_K → Bool) k (fun x _ ih s E K => match x.1 with
  | 0 => (match sx_at none ls x.2.1 with
    | some w => ih (s ++ [w]) E K
    | none => false)
  | 1 => cond (sx_isI (ax_cx E (ax_sbs s x.2.2)) && ax_sc E.1 (ax_cx E (ax_sbs s x.2.2))) (match ax_fi2 E x.2.1 (ax_cx E (ax_sbs s x.2.2)) K with
    | some w => ih (s ++ [w]) E K
    | none => ih (s ++ [.retAddr E.1]) (ax_addN E (ax_bdq sp x.2.1 (ax_cx E (ax_sbs s x.2.2)), none, none)) ((x.2.1, ax_cx E (ax_sbs s x.2.2), .retAddr E.1) :: K)) false
  | 2 => ih (s ++ [.retAddr x.2.1]) E K
  | _ => (match ax_bs E (sx_at ax_dfl s x.2.1) with
    | some b => ih (s ++ [.retAddr b.1]) E K
    | none => (match sx_at ax_dfl s x.2.1 with
      | .ref q => ih (s ++ [.int (Int32.ofInt ((q : Int) - (ax_vi (fun _ => (0, 0)) x.2.2).toInt))]) E K
      | _ => false))) L
/-- its measure is less -/
noncomputable def ax_mlt (E : ax_E) (s : List Value) (L : List (Bool × Value)) : List (Bool × Value) → Bool := List.rec (motive := fun _ => List (Bool × Value) → Bool) (fun _ => false) (fun x _ ih o => match o with
  | [] => false
  | y :: r => (ax_kd s x.2 && (sx_isI x.2 && (cond x.1 y.1 (!y.1)))) && ((cond x.1 (ax_leq E y.2 (ax_sbs s x.2) 1) (ax_leq E (ax_sbs s x.2) y.2 1)) || (ax_same E (ax_sbs s x.2) y.2 && ih r))) L
noncomputable def ax_ar (sp : Nat → Nat → Int × Int) (c : ax_ct) (old : Option (List (Bool × Value))) (gh : Option ax_K) (E : ax_E) (K : ax_K) (ls : List (Option Value)) : Bool := cond (ax_scO E.1 ls) (ax_ars sp ls (fun s E K => ax_ec c.2.1 E s && (c.2.2.1.all (ax_kc E K s) && (ax_lsm E s c.2.2.2.1 ls && ((match old with
  | none => true
  | some o => Nat.beq c.2.2.2.2.2.1.length o.length && ax_mlt E s c.2.2.2.2.2.1 o) && c.2.2.2.2.2.2.all (ax_kc E (match gh with
    | some g => g
    | none => K) s))))) c.2.2.2.2.1 [] E K) false
noncomputable def ax_mv (v : ax_V) (L : List (Bool × Value)) : List Int := L.map (fun x => cond x.1 (-(ax_vi v x.2).toInt) (ax_vi v x.2).toInt)
noncomputable def ax_lx : List Int → List Int → Prop
  | x :: r, y :: t => x < y ∨ (x = y ∧ ax_lx r t)
  | _, _ => False
noncomputable def ax_enc : List Int → Nat
  | [] => 0
  | x :: r => (x + 2147483648).toNat * 4294967297 ^ r.length + ax_enc r
theorem ax_enc_lt : ∀ l : List Int, (∀ x ∈ l, -2147483648 ≤ x ∧ x ≤ 2147483648) → ax_enc l < 4294967297 ^ l.length
  | [], _ => by show 0 < 4294967297 ^ 0; omega
  | x :: r, h => by
    have ih := ax_enc_lt r (fun z hz => h z (List.mem_cons_of_mem _ hz))
    have hx := h x List.mem_cons_self
    show (x + 2147483648).toNat * 4294967297 ^ r.length + ax_enc r < 4294967297 ^ (r.length + 1)
    have e : (x + 2147483648).toNat ≤ 4294967296 := by omega
    have m := Nat.mul_le_mul_right (4294967297 ^ r.length) e
    rw [Nat.pow_succ]
    omega
theorem ax_enc_lx : ∀ l m : List Int, l.length = m.length → (∀ x ∈ l, -2147483648 ≤ x ∧ x ≤ 2147483648) → (∀ x ∈ m, -2147483648 ≤ x ∧ x ≤ 2147483648) → ax_lx l m → ax_enc l < ax_enc m
  | [], _, _, _, _, h => by unfold ax_lx at h; exact h.elim
  | _ :: _, [], _, _, _, h => by unfold ax_lx at h; exact h.elim
  | x :: r, y :: t, hl, h1, h2, h => by
    have hl2 : r.length = t.length := Nat.succ.inj hl
    have hx := h1 x List.mem_cons_self
    have hy := h2 y List.mem_cons_self
    unfold ax_lx at h
    show (x + 2147483648).toNat * 4294967297 ^ r.length + ax_enc r < (y + 2147483648).toNat * 4294967297 ^ t.length + ax_enc t
    rcases h with h | ⟨h, k⟩
    · have b := ax_enc_lt r (fun z hz => h1 z (List.mem_cons_of_mem _ hz))
      have e : (x + 2147483648).toNat + 1 ≤ (y + 2147483648).toNat := by omega
      have m := Nat.mul_le_mul_right (4294967297 ^ r.length) e
      rw [Nat.succ_mul] at m
      rw [← hl2]
      omega
    · have ih := ax_enc_lx r t hl2 (fun z hz => h1 z (List.mem_cons_of_mem _ hz)) (fun z hz => h2 z (List.mem_cons_of_mem _ hz)) k
      rw [h, hl2]
      omega
theorem ax_mv_rng (v : ax_V) (L : List (Bool × Value)) : ∀ x ∈ ax_mv v L, -2147483648 ≤ x ∧ x ≤ 2147483648 := by
  intro x hx
  unfold ax_mv at hx
  obtain ⟨y, -, e⟩ := List.mem_map.mp hx
  have r := ax_range (ax_vi v y.2)
  rw [← e]
  cases y.1
  · rw [Bool.cond_false]; omega
  · rw [Bool.cond_true]; omega
theorem ax_mlt_ok {v : ax_V} {E : ax_E} (hE : ax_ok v E) {s : List Value} : ∀ (L o : List (Bool × Value)), ax_mlt E s L o = true → ax_lx (ax_mv (ax_vv v s) L) (ax_mv v o)
  | [], _, h => by cases h
  | _ :: _, [], h => by cases h
  | x :: r, y :: t, h => by
    have h : ((ax_kd s x.2 && (sx_isI x.2 && (cond x.1 y.1 (!y.1)))) && ((cond x.1 (ax_leq E y.2 (ax_sbs s x.2) 1) (ax_leq E (ax_sbs s x.2) y.2 1)) || (ax_same E (ax_sbs s x.2) y.2 && ax_mlt E s r t))) = true := h
    rw [Bool.and_eq_true, Bool.and_eq_true, Bool.and_eq_true, Bool.or_eq_true, Bool.and_eq_true] at h
    obtain ⟨⟨h1, h2, h3⟩, h4⟩ := h
    obtain ⟨-, k2⟩ := ax_kd_i (v := v) h1 h2
    show (cond x.1 (-(ax_vi (ax_vv v s) x.2).toInt) (ax_vi (ax_vv v s) x.2).toInt) < (cond y.1 (-(ax_vi v y.2).toInt) (ax_vi v y.2).toInt) ∨ _ ∧ _
    rw [k2]
    rcases h4 with h4 | ⟨h4, h5⟩
    · refine Or.inl ?_
      cases hx : x.1 with
      | true =>
        rw [hx, Bool.cond_true] at h3 h4
        rw [h3]
        obtain ⟨-, -, k⟩ := ax_leq_ok hE h4
        rw [Bool.cond_true, Bool.cond_true]
        omega
      | false =>
        rw [hx, Bool.cond_false] at h3 h4
        have h3 : y.1 = false := by rw [Bool.not_eq_true'] at h3; exact h3
        rw [h3]
        obtain ⟨-, -, k⟩ := ax_leq_ok hE h4
        rw [Bool.cond_false, Bool.cond_false]
        omega
    · obtain ⟨-, -, k⟩ := ax_same_ok hE h4
      refine Or.inr ⟨?_, ax_mlt_ok hE r t h5⟩
      show (cond x.1 (-(ax_vi (ax_vv v s) x.2).toInt) (ax_vi (ax_vv v s) x.2).toInt) = (cond y.1 (-(ax_vi v y.2).toInt) (ax_vi v y.2).toInt)
      rw [k2, k]
      cases hx : x.1 with
      | true =>
        rw [hx, Bool.cond_true] at h3
        rw [h3]
      | false =>
        rw [hx, Bool.cond_false] at h3
        have h3 : y.1 = false := by rw [Bool.not_eq_true'] at h3; exact h3
        rw [h3]
section AXCU
variable {X : Nat × (Nat → Int32)} {P : Option Value → rx_M → Prop} {W : ax_W} {sp : Nat → Nat → Int × Int} {rf : Nat → Nat → Option Nat} {mx : ax_X} {mt : List (Nat × Nat)} {v : ax_V} {E : ax_E} {K : ax_K} {M M0 : rx_M} {a : rx_K}
theorem ax_bdq_ok (hsa : ∀ q u n, rx_lay q = some (.inr (u, n)) → ∀ j, sp q j = sp q 0) (hJ : ax_J W sp rf M) {q : Nat} {y : Value} : (ax_bdq sp q y).1 ≤ (M.1 q (ax_vi v y).toNatClampNeg).toInt ∧ (M.1 q (ax_vi v y).toNatClampNeg).toInt ≤ (ax_bdq sp q y).2 := by
  unfold ax_bdq
  split
  · exact hJ.1 q _
  · split
    · rename_i z hz
      have k := hJ.1 q (ax_vi v y).toNatClampNeg
      rw [hsa q z.1 z.2 hz] at k
      exact k
    · exact ax_full_ok _
theorem ax_ars_ok (hsa : ∀ q u n, rx_lay q = some (.inr (u, n)) → ∀ j, sp q j = sp q 0) {ls : List (Option Value)} {k : List Value → ax_E → ax_K → Bool} {G : Prop} {n : Nat} (hk : ∀ s E K v', k s E K = true → ax_St W sp rf v' E K M a [] → n ≤ E.1 → (∀ i, i < n → v' i = v i) → G) : ∀ (L : List ax_sr) (s : List Value) (E : ax_E) (K : ax_K) (v' : ax_V), ax_ars sp ls k L s E K = true → ax_St W sp rf v' E K M a [] → n ≤ E.1 → (∀ i, i < n → v' i = v i) → G
  | [], s, E, K, v', h, S, hn, hv => hk s E K v' h S hn hv
  | x :: r, s, E, K, v', h, S, hn, hv => by
    have ih := ax_ars_ok (ls := ls) hsa hk r
    have h : (match x.1 with
      | 0 => (match sx_at none ls x.2.1 with
        | some w => ax_ars sp ls k r (s ++ [w]) E K
        | none => false)
      | 1 => cond (sx_isI (ax_cx E (ax_sbs s x.2.2)) && ax_sc E.1 (ax_cx E (ax_sbs s x.2.2))) (match ax_fi2 E x.2.1 (ax_cx E (ax_sbs s x.2.2)) K with
        | some w => ax_ars sp ls k r (s ++ [w]) E K
        | none => ax_ars sp ls k r (s ++ [.retAddr E.1]) (ax_addN E (ax_bdq sp x.2.1 (ax_cx E (ax_sbs s x.2.2)), none, none)) ((x.2.1, ax_cx E (ax_sbs s x.2.2), .retAddr E.1) :: K)) false
      | 2 => ax_ars sp ls k r (s ++ [.retAddr x.2.1]) E K
      | _ => (match ax_bs E (sx_at ax_dfl s x.2.1) with
        | some b => ax_ars sp ls k r (s ++ [.retAddr b.1]) E K
        | none => (match sx_at ax_dfl s x.2.1 with
          | .ref q => ax_ars sp ls k r (s ++ [.int (Int32.ofInt ((q : Int) - (ax_vi (fun _ => (0, 0)) x.2.2).toInt))]) E K
          | _ => false))) = true := h
    split at h
    · split at h
      · exact ih _ _ _ _ h S hn hv
      · cases h
    · replace h := sx_cT (by intro q; cases q) h
      obtain ⟨hc, h⟩ := h
      rw [Bool.and_eq_true] at hc
      split at h
      · exact ih _ _ _ _ h S hn hv
      · have S1 := ax_rd_ok (q := x.2.1) (N := (ax_bdq sp x.2.1 (ax_cx E (ax_sbs s x.2.2)), none, none)) S ⟨ax_bdq_ok hsa S.2.2.2.1, (fun b o hb => by cases hb), fun p q hb => by cases hb⟩ rfl hc.1 hc.2
        have e1 := (ax_addN_wf (N := (ax_bdq sp x.2.1 (ax_cx E (ax_sbs s x.2.2)), none, none)) S.1).2
        exact ih _ _ _ _ h S1 (by rw [e1]; omega) (fun i hi => by
          rw [ax_up_lt _ _ (by omega)]
          exact hv i hi)
    · exact ih _ _ _ _ h S hn hv
    · split at h
      · exact ih _ _ _ _ h S hn hv
      · split at h
        · exact ih _ _ _ _ h S hn hv
        · cases h
/-- the values found first stay first -/
theorem ax_ars_pre {ls : List (Option Value)} {k k' : List Value → ax_E → ax_K → Bool} : ∀ (L : List ax_sr) (s : List Value) (E : ax_E) (K : ax_K), (∀ t E K, k (s ++ t) E K = true → k' (s ++ t) E K = true) → ax_ars sp ls k L s E K = true → ax_ars sp ls k' L s E K = true
  | [], s, E, K, hk, h => by
    have h1 := hk [] E K
    rw [List.append_nil] at h1
    exact h1 h
  | x :: r, s, E, K, hk, h => by
    have ih : ∀ w E K, ax_ars sp ls k r (s ++ [w]) E K = true → ax_ars sp ls k' r (s ++ [w]) E K = true := fun w E K h => ax_ars_pre r (s ++ [w]) E K (fun t E K h => by
      rw [List.append_assoc] at h ⊢
      exact hk _ E K h) h
    have e : ∀ k, ax_ars sp ls k (x :: r) s E K = (match x.1 with
      | 0 => (match sx_at none ls x.2.1 with
        | some w => ax_ars sp ls k r (s ++ [w]) E K
        | none => false)
      | 1 => cond (sx_isI (ax_cx E (ax_sbs s x.2.2)) && ax_sc E.1 (ax_cx E (ax_sbs s x.2.2))) (match ax_fi2 E x.2.1 (ax_cx E (ax_sbs s x.2.2)) K with
        | some w => ax_ars sp ls k r (s ++ [w]) E K
        | none => ax_ars sp ls k r (s ++ [.retAddr E.1]) (ax_addN E (ax_bdq sp x.2.1 (ax_cx E (ax_sbs s x.2.2)), none, none)) ((x.2.1, ax_cx E (ax_sbs s x.2.2), .retAddr E.1) :: K)) false
      | 2 => ax_ars sp ls k r (s ++ [.retAddr x.2.1]) E K
      | _ => (match ax_bs E (sx_at ax_dfl s x.2.1) with
        | some b => ax_ars sp ls k r (s ++ [.retAddr b.1]) E K
        | none => (match sx_at ax_dfl s x.2.1 with
          | .ref q => ax_ars sp ls k r (s ++ [.int (Int32.ofInt ((q : Int) - (ax_vi (fun _ => (0, 0)) x.2.2).toInt))]) E K
          | _ => false))) := fun k => rfl
    rw [e] at h ⊢
    split at h
    · split at h
      · exact ih _ _ _ h
      · cases h
    · replace h := sx_cT (by intro q; cases q) h
      obtain ⟨hc, h⟩ := h
      rw [hc, Bool.cond_true]
      split at h
      · exact ih _ _ _ h
      · exact ih _ _ _ h
    · exact ih _ _ _ h
    · split at h
      · exact ih _ _ _ h
      · split at h
        · exact ih _ _ _ h
        · cases h
noncomputable def ax_wfb (E : ax_E) : Bool := E.2.2.1.all (fun d => Nat.blt d.1 E.1 && Nat.blt d.2.1 E.1) && (E.2.2.2.1.all (fun d => Nat.blt d.1 E.1 && (ax_sc E.1 d.2.1 && ax_sc E.1 d.2.2)) && E.2.2.2.2.all (fun d => Nat.blt d.1 E.1 && Nat.blt d.2.1 E.1))
theorem ax_wfb_ok (h : ax_wfb E = true) : ax_wf E := by
  unfold ax_wfb at h
  rw [Bool.and_eq_true, Bool.and_eq_true] at h
  refine ⟨fun d hd => ?_, fun d hd => ?_, fun d hd => ?_⟩
  · have k := List.all_eq_true.mp h.1 d hd
    rw [Bool.and_eq_true] at k
    exact ⟨Nat.blt_eq.mp k.1, Nat.blt_eq.mp k.2⟩
  · have k := List.all_eq_true.mp h.2.1 d hd
    rw [Bool.and_eq_true, Bool.and_eq_true] at k
    exact ⟨Nat.blt_eq.mp k.1, k.2.1, k.2.2⟩
  · have k := List.all_eq_true.mp h.2.2 d hd
    rw [Bool.and_eq_true] at k
    exact ⟨Nat.blt_eq.mp k.1, Nat.blt_eq.mp k.2⟩
noncomputable def ax_kwb (n : Nat) (K : ax_K) : Bool := K.all (fun e => ax_sc n e.2.1 && ax_sc n e.2.2)
theorem ax_kwb_ok {n : Nat} (h : ax_kwb n K = true) : ax_kw n K := fun e he => by
  have k := List.all_eq_true.mp h e he
  rw [Bool.and_eq_true] at k
  exact k
noncomputable def ax_mwb (n : Nat) (L : List (Bool × Value)) : Bool := L.all (fun x => ax_sc n x.2)
theorem ax_mv_ag {n : Nat} {v v' : ax_V} (h : ∀ k, k < n → v' k = v k) {L : List (Bool × Value)} (hL : ax_mwb n L = true) : ax_mv v' L = ax_mv v L := by
  unfold ax_mv
  refine List.map_congr_left fun x hx => ?_
  rw [ax_ag_vi h (List.all_eq_true.mp hL x hx)]
/-- a state holds: of memory, locals -/
noncomputable def ax_cst (wd : ax_D) (sp : Nat → Nat → Int × Int) (rf : Nat → Nat → Option Nat) (M0 : rx_M) (c : ax_ct) (v : ax_V) (M : rx_M) (l : List (Option Value)) : Prop := ax_ok v c.2.1 ∧ ax_kn v c.2.2.1 M ∧ ax_J (wd, (M0.1, M0.2.1, (0, 0)), 0, fun _ => (0, 0)) sp rf M ∧ ax_lle (ax_ls v c.2.2.2.1) l ∧ ax_kn v c.2.2.2.2.2.2 M0
theorem ax_ar_ok (hsa : ∀ q u n, rx_lay q = some (.inr (u, n)) → ∀ j, sp q j = sp q 0) {c : ax_ct} {old : Option (List (Bool × Value))} {gh : Option ax_K} {ls : List (Option Value)} (h : ax_ar sp c old gh E K ls = true) (S : ax_St W sp rf v E K M a []) (hg : ∀ g, gh = some g → ax_kw E.1 g ∧ ax_kn v g M0) (hg0 : gh = none → M0 = M) (ho : ∀ o, old = some o → ax_mwb E.1 o = true) :
    ∃ v', ax_ok v' c.2.1 ∧ ax_kn v' c.2.2.1 M ∧ ax_lle (ax_ls v' c.2.2.2.1) (ax_ls v ls) ∧ ax_kn v' c.2.2.2.2.2.2 M0 ∧ ∀ o, old = some o → c.2.2.2.2.2.1.length = o.length ∧ ax_lx (ax_mv v' c.2.2.2.2.2.1) (ax_mv v o) := by
  unfold ax_ar at h
  replace h := sx_cT (by intro q; cases q) h
  obtain ⟨hc, h⟩ := h
  refine ax_ars_ok (n := E.1) (v := v) hsa (fun s E' K' v' hk S' hn hv => ?_) _ [] E K v h S (Nat.le_refl _) (fun _ _ => rfl)
  rw [Bool.and_eq_true, Bool.and_eq_true, Bool.and_eq_true, Bool.and_eq_true] at hk
  obtain ⟨k1, k2, k3, k4, k5⟩ := hk
  have hE := S'.2.1
  refine ⟨ax_vv v' s, ax_ec_ok hE k1, fun e he => ax_kc_ok hE S'.2.2.2.2.1 (List.all_eq_true.mp k2 e he), ?_, fun e he => ?_, fun o hold => ?_⟩
  · rw [← ax_ag_ls hv hc]
    exact ax_lsm_ok hE _ _ k3
  · have k6 := List.all_eq_true.mp k5 e he
    cases hgh : gh with
    | none =>
      rw [hgh] at k6
      rw [hg0 hgh]
      exact ax_kc_ok hE S'.2.2.2.2.1 k6
    | some g =>
      rw [hgh] at k6
      obtain ⟨g1, g2⟩ := hg g hgh
      exact ax_kc_ok hE (ax_ag_kn hv g1 g2) k6
  · rw [hold] at k4
    rw [Bool.and_eq_true] at k4
    refine ⟨Nat.eq_of_beq_eq_true k4.1, ?_⟩
    rw [← ax_mv_ag hv (ho o hold)]
    exact ax_mlt_ok hE _ _ k4.2
/-- the end: the answer, what has grown -/
noncomputable def ax_fna (an : ax_an) (E : ax_E) (w : Option Value) : Bool := match an with
  | none => (match w with
    | none => true
    | some _ => false)
  | some none => (match w with
    | some u => ax_sh 2 u
    | none => false)
  | some (some b) => (match w with
    | some u => cond (decide (b.1 = -5)) (ax_wi E u b && (ax_wi E u (-4, -4) || ax_wi E u (0, b.2))) (ax_wi E u b)
    | none => false)
noncomputable def ax_fni (E : ax_E) (K gh : ax_K) (x : Nat × Nat × Int) : Bool := Nat.beq (Int32.ofNat x.2.1).toNatClampNeg x.2.1 && (match ax_fi x.1 (ax_fx x.2.1) K with
  | some w => (match ax_fi x.1 (ax_fx x.2.1) gh with
    | some g => ax_leq E w g (-x.2.2) && ax_leq E g w x.2.2
    | none => false)
  | none => false)
noncomputable def ax_fnb (E : ax_E) (K : ax_K) : Bool := match ax_fi 14 (ax_fx 12) K with
  | some w => (match ax_fi 14 (ax_fx 16) K with
    | some g => ax_leq E w g 0
    | none => false)
  | none => false
/-- one that is kept: as it was, or of the folk, or none is kept -/
noncomputable def ax_fn3 (E : ax_E) (K gh : ax_K) (j : Nat) : Bool := Nat.beq (Int32.ofNat j).toNatClampNeg j && (match ax_fi 283 (ax_fx j) K with
  | some h => (match ax_fi 284 (ax_fx j) K with
    | some k => ((decide (1 < (ax_iv E h).1) || decide ((ax_ivh E h).2 < 1)) || (decide (0 ≤ (ax_iv E k).1) && decide ((ax_ivh E k).2 ≤ 11))) || (match ax_fi 283 (ax_fx j) gh with
      | some h0 => (match ax_fi 284 (ax_fx j) gh with
        | some k0 => ax_same E h h0 && ax_same E k k0
        | none => false)
      | none => false)
    | none => false)
  | none => false)
/-- where the answer is 1, slots are in bounds -/
noncomputable def ax_fnp (E : ax_E) (K : ax_K) (w : Option Value) (L : List (Nat × Nat × Int × Int)) : Bool := L.isEmpty || ((match w with
  | some u => sx_isI u && (decide (1 < (ax_iv E u).1) || decide ((ax_iv E u).2 < 1))
  | none => true) || L.all (fun x => Nat.beq (Int32.ofNat x.2.1).toNatClampNeg x.2.1 && (match ax_fi x.1 (ax_fx x.2.1) K with
    | some u => ax_wi E u (x.2.2.1, x.2.2.2)
    | none => false)))
noncomputable def ax_fnl (po : ax_po) (gh : ax_K) (E : ax_E) (K : ax_K) (w : Option Value) : Bool := ax_fna po.1 E w && (po.2.1.all (ax_fni E K gh) && (cond po.2.2.1 (ax_fnb E K) true && (cond po.2.2.2.1 ((List.range 8).all (ax_fn3 E K gh)) true && ax_fnp E K w po.2.2.2.2)))
theorem ax_fna_ok (hE : ax_ok v E) {an : ax_an} {w : Option Value} (h : ax_fna an E w = true) : ax_an1 an (w.map (ax_v v)) := by
  match an, h with
  | none, h =>
    cases w with
    | none => rfl
    | some u => cases h
  | some none, h =>
    cases w with
    | none => cases h
    | some u =>
      have h : ax_sh 2 u = true := h
      obtain ⟨z, hz⟩ := ax_vL (v := v) h
      exact ⟨z, congrArg some hz⟩
  | some (some b), h =>
    cases w with
    | none => cases h
    | some u =>
      have h : cond (decide (b.1 = -5)) (ax_wi E u b && (ax_wi E u (-4, -4) || ax_wi E u (0, b.2))) (ax_wi E u b) = true := h
      by_cases h5 : b.1 = -5
      · rw [decide_eq_true h5, Bool.cond_true, Bool.and_eq_true, Bool.or_eq_true] at h
        obtain ⟨h1, h2, h3⟩ := ax_wi_ok hE h.1
        refine ⟨ax_vi v u, congrArg some (ax_vI h1), h3, fun _ => ?_⟩
        rcases h.2 with q | q
        · have := (ax_wi_ok hE q).2.2
          dsimp only at this
          omega
        · have := (ax_wi_ok hE q).2.2
          dsimp only at this
          omega
      · rw [decide_eq_false h5, Bool.cond_false] at h
        obtain ⟨h1, h2, h3⟩ := ax_wi_ok hE h
        exact ⟨ax_vi v u, congrArg some (ax_vI h1), h3, fun z => absurd z h5⟩
theorem ax_fnl_ok {wd : ax_D} {po : ax_po} {gh : ax_K} {w : Option Value} (h : ax_fnl po gh E K w = true) (hE : ax_ok v E) (hK : ax_kn v K M) (hg : ax_kn v gh M0) (hJ : ax_J (wd, (M0.1, M0.2.1, (0, 0)), 0, fun _ => (0, 0)) sp rf M) (hl2 : ax_le2 M M0) : ax_Q sp rf wd po M0 (w.map (ax_v v)) M := by
  unfold ax_fnl at h
  rw [Bool.and_eq_true, Bool.and_eq_true, Bool.and_eq_true, Bool.and_eq_true] at h
  obtain ⟨h1, h2, h3, h4, h9⟩ := h
  refine ⟨ax_fna_ok hE h1, hJ, fun x hx => ?_, fun hb => ?_, fun hb hg3 j hj hw => ?_, fun ho x hx => ?_, hl2⟩
  rotate_left 3
  · unfold ax_fnp at h9
    rw [Bool.or_eq_true, Bool.or_eq_true] at h9
    rcases h9 with h9 | h9 | h9
    · rw [List.isEmpty_iff.mp h9] at hx
      cases hx
    · cases w with
      | none => cases ho
      | some u =>
        have h9 : (sx_isI u && (decide (1 < (ax_iv E u).1) || decide ((ax_iv E u).2 < 1))) = true := h9
        rw [Bool.and_eq_true, Bool.or_eq_true, decide_eq_true_eq, decide_eq_true_eq] at h9
        have i1 := ax_iv_ok hE h9.1
        have e1 : ax_v v u = .int 1 := Option.some.inj ho
        rw [ax_vI h9.1] at e1
        have e2 : ax_vi v u = 1 := Value.int.inj e1
        have e3 : (ax_vi v u).toInt = 1 := by rw [e2]; rfl
        omega
    · have k := List.all_eq_true.mp h9 x hx
      rw [Bool.and_eq_true] at k
      have ej : (ax_vi v (ax_fx x.2.1)).toNatClampNeg = x.2.1 := Nat.eq_of_beq_eq_true k.1
      have k := k.2
      split at k
      · rename_i u hu
        obtain ⟨u1, u2⟩ := ax_fi_ok hK hu
        rw [ej] at u2
        rw [u2]
        exact (ax_wi_ok hE k).2.2
      · cases k
  rotate_left 2
  · rw [hb, Bool.cond_true] at h4
    have k := List.all_eq_true.mp h4 j (List.mem_range.mpr hj)
    unfold ax_fn3 at k
    rw [Bool.and_eq_true] at k
    have ej : (ax_vi v (ax_fx j)).toNatClampNeg = j := Nat.eq_of_beq_eq_true k.1
    have k := k.2
    split at k
    · rename_i u hu
      split at k
      · rename_i t ht
        obtain ⟨u1, u2⟩ := ax_fi_ok hK hu
        obtain ⟨t1, t2⟩ := ax_fi_ok hK ht
        rw [ej] at u2 t2
        rw [u2] at hw
        rw [t2]
        have i1 := ax_iv_ok hE u1
        have i2 := ax_ivh_ok hE u1
        have i3 := ax_iv_ok hE t1
        have i4 := ax_ivh_ok hE t1
        simp only [Bool.or_eq_true, Bool.and_eq_true, decide_eq_true_eq] at k
        rcases k with ((k | k) | k) | k
        · omega
        · omega
        · omega
        · split at k
          · rename_i h0 hh0
            split at k
            · rename_i k0 hk0
              rw [Bool.and_eq_true] at k
              obtain ⟨-, -, e1⟩ := ax_same_ok hE k.1
              obtain ⟨-, -, e2⟩ := ax_same_ok hE k.2
              obtain ⟨-, p2⟩ := ax_fi_ok hg hh0
              obtain ⟨-, q2⟩ := ax_fi_ok hg hk0
              rw [ej, ← e1] at p2
              rw [ej, ← e2] at q2
              have z := hg3 j hj (by rw [p2]; exact hw)
              rw [q2] at z
              exact z
            · cases k
          · cases k
      · cases k
    · cases k
  · have k := List.all_eq_true.mp h2 x hx
    unfold ax_fni at k
    rw [Bool.and_eq_true] at k
    have ej : (ax_vi v (ax_fx x.2.1)).toNatClampNeg = x.2.1 := Nat.eq_of_beq_eq_true k.1
    have k := k.2
    split at k
    · rename_i w hw
      split at k
      · rename_i g hg9
        rw [Bool.and_eq_true] at k
        obtain ⟨w1, w2⟩ := ax_fi_ok hK hw
        obtain ⟨g1, g2⟩ := ax_fi_ok hg hg9
        rw [ej] at w2 g2
        obtain ⟨-, -, l1⟩ := ax_leq_ok hE k.1
        obtain ⟨-, -, l2⟩ := ax_leq_ok hE k.2
        rw [w2, g2]
        omega
      · cases k
    · cases k
  · rw [hb, Bool.cond_true] at h3
    unfold ax_fnb at h3
    split at h3
    · rename_i w hw
      split at h3
      · rename_i g hg9
        obtain ⟨w1, w2⟩ := ax_fi_ok hK hw
        obtain ⟨g1, g2⟩ := ax_fi_ok hK hg9
        have w2 : M.1 14 12 = ax_vi v w := w2
        have g2 : M.1 14 16 = ax_vi v g := g2
        obtain ⟨-, -, l1⟩ := ax_leq_ok hE h3
        unfold ax_bi
        rw [w2, g2]
        omega
      · cases h3
    · cases h3
noncomputable def ax_tbT (sp : Nat → Nat → Int × Int) (T : List ax_ct) (j D : Nat) (m : List (Bool × Value)) (gh : ax_K) : ax_T := fun i pc => cond (Nat.beq i j && T.any (fun c => Nat.beq c.1 pc)) (some (fun E K d ls => Nat.beq d D && T.any (fun c => Nat.beq c.1 pc && ax_ar sp c (some m) (some gh) E K ls))) none
/-- the run from a state, to the states that follow -/
noncomputable def ax_cr (wd : ax_D) (sp : Nat → Nat → Int × Int) (rf : Nat → Nat → Option Nat) (mx : ax_X) (mt : List (Nat × Nat)) (hn : Nat → Nat → Nat) (sum : ax_Y) (T : List ax_ct) (j D f : Nat) (po : ax_po) (c : ax_ct) : Bool := (ax_wfb c.2.1 && (ax_kwb c.2.1.1 c.2.2.1 && (ax_kwb c.2.1.1 c.2.2.2.2.2.2 && ax_mwb c.2.1.1 c.2.2.2.2.2.1))) && ax_hnt hn (ax_runS wd sp rf mx mt (ax_fnl po c.2.2.2.2.2.2) hn (ax_tbT sp T j D c.2.2.2.2.2.1 c.2.2.2.2.2.2) sum f) (ax_step wd sp rf mx mt (ax_fnl po c.2.2.2.2.2.2) (ax_runS wd sp rf mx mt (ax_fnl po c.2.2.2.2.2.2) hn (ax_tbT sp T j D c.2.2.2.2.2.1 c.2.2.2.2.2.2) sum f)) c.2.1 c.2.2.1 D [] j c.1 c.2.2.2.1 []
theorem ax_cut (hm : ax_mxok sp mx) (hmt : ax_mtok rf mt) (hsa : ∀ q u n, rx_lay q = some (.inr (u, n)) → ∀ j, sp q j = sp q 0) {sum : ax_Y} (hY : ax_Yok X sp rf sum) {hn : Nat → Nat → Nat} {wd : ax_D} {T : List ax_ct} {j D f : Nat} {po : ax_po} (hT : ∀ c ∈ T, ax_cr wd sp rf mx mt hn sum T j D f po c = true) {M0 : rx_M} {c : ax_ct} (hc : c ∈ T) {l : List (Option Value)} (hst : ax_cst wd sp rf M0 c v M l) {cap : Nat × Nat} (ha : a.1 = rx_cells ∧ a.2.1 ≤ cap.1 ∧ a.2.2 ≤ cap.2) (hcap : ∀ (a : rx_K) (M : rx_M), a.2.1 ≤ cap.1 → a.2.2 ≤ cap.2 → ax_le2 (ax_mA a M) M0) : ax_C X (ax_Q sp rf wd po M0) v D [] j (c.1, l, [], a, M) := by
  refine ax_loop (S := ax_ct × ax_V × rx_M × rx_K × List (Option Value)) (fun s => ax_enc (ax_mv s.2.1 s.1.2.2.2.2.2.1)) (I := fun s => s.1 ∈ T ∧ ax_cst wd sp rf M0 s.1 s.2.1 s.2.2.1 s.2.2.2.2 ∧ (s.2.2.2.1.1 = rx_cells ∧ s.2.2.2.1.2.1 ≤ cap.1 ∧ s.2.2.2.1.2.2 ≤ cap.2)) (C := fun s => ∀ v9 : ax_V, ax_C X (ax_Q sp rf wd po M0) v9 D [] j (s.1.1, s.2.2.2.2, [], s.2.2.2.1, s.2.2.1)) ?_ (c, v, M, a, l) ⟨hc, hst, ha⟩ v
  rintro ⟨c, v, M, a, l⟩ ⟨hc, ⟨h1, h2, h3, h4, h5⟩, ha⟩ IH v9
  dsimp only at hc h1 h2 h3 h4 h5 ha
  have hr := hT c hc
  unfold ax_cr at hr
  rw [Bool.and_eq_true, Bool.and_eq_true, Bool.and_eq_true, Bool.and_eq_true] at hr
  obtain ⟨⟨b1, b2, b3, b4⟩, hr⟩ := hr
  have hfin : ∀ E K w v' M' a, ax_fnl po c.2.2.2.2.2.2 E K w = true → ax_St (wd, (M0.1, M0.2.1, cap), (c.2.1.1, v)) sp rf v' E K M' a [] → ax_Q sp rf wd po M0 (w.map (ax_v v')) (ax_mA a M') := fun E K w v' M' a h S => by
    exact ax_fnl_ok (M := ax_mA a M') h S.2.1 S.2.2.2.2.1 (ax_ag_kn S.2.2.2.2.2.2.2.2 (ax_kwb_ok b3) h5) S.2.2.2.1 (hcap a M' S.2.2.2.2.2.1.2.1 S.2.2.2.2.2.1.2.2)
  have hTok : ax_Tok X (ax_Q sp rf wd po M0) (wd, (M0.1, M0.2.1, cap), (c.2.1.1, v)) sp rf (ax_tbT sp T j D c.2.2.2.2.2.1 c.2.2.2.2.2.2) := by
    intro i pc chk hchk E K d ls hh v' M' a' S
    unfold ax_tbT at hchk
    cases hb : (Nat.beq i j && T.any (fun c => Nat.beq c.1 pc)) with
    | false => rw [hb] at hchk; cases hchk
    | true =>
      rw [hb] at hchk
      cases hchk
      rw [Bool.and_eq_true] at hb hh
      have e1 := Nat.eq_of_beq_eq_true hb.1
      have e2 := Nat.eq_of_beq_eq_true hh.1
      subst e1
      subst e2
      obtain ⟨c', hc', hh2⟩ := List.any_eq_true.mp hh.2
      rw [Bool.and_eq_true] at hh2
      have e3 := Nat.eq_of_beq_eq_true hh2.1
      have hle := S.2.2.2.2.2.2.2.1
      have hag := S.2.2.2.2.2.2.2.2
      obtain ⟨v2, q1, q2, q3, q4, q5⟩ := ax_ar_ok (M0 := M0) hsa hh2.2 S (fun g hg => by
        cases hg
        exact ⟨ax_kw_le (ax_kwb_ok b3) hle, ax_ag_kn hag (ax_kwb_ok b3) h5⟩) (fun h => by cases h) (fun o ho => by
        cases ho
        unfold ax_mwb at b4 ⊢
        rw [List.all_eq_true] at b4 ⊢
        exact fun x hx => ax_sc_up (b4 x hx) hle)
      obtain ⟨q6, q7⟩ := q5 _ rfl
      have k := IH (c', v2, M', a', ax_ls v' ls) ⟨hc', ⟨q1, q2, S.2.2.2.1, q3, q4⟩, S.2.2.2.2.2.1⟩ (by
        show ax_enc (ax_mv v2 c'.2.2.2.2.2.1) < ax_enc (ax_mv v c.2.2.2.2.2.1)
        rw [← ax_mv_ag hag b4]
        refine ax_enc_lx _ _ ?_ (ax_mv_rng _ _) (ax_mv_rng _ _) q7
        unfold ax_mv
        rw [List.length_map, List.length_map]
        exact q6) v'
      rw [← e3]
      exact k
  have HS := ax_runS_ok hm hmt hsa hfin hTok hY (hn := hn) f
  have H0 := ax_hnt_ok (hn := hn) HS (ax_step_ok hm hmt hsa hfin HS)
  have k := H0 _ _ _ _ _ _ _ _ hr v M a ⟨ax_wfb_ok b1, h1, ax_kwb_ok b2, h3, h2, ha, rfl, Nat.le_refl _, fun _ _ => rfl⟩
  obtain ⟨f2, o, k1, k2⟩ := k
  exact ⟨f2, o, ax_go_mono _ _ _ _ _ _ _ _ _ _ k1 h4, k2⟩
/-- a summary out of a method's states -/
noncomputable def ax_sumc (sp : Nat → Nat → Int × Int) (c : ax_ct) (D : Nat) (E : ax_E) (K : ax_K) (d : Nat) (ls : List (Option Value)) : Bool := Nat.ble D d && ax_ar sp c none none E K ls
theorem ax_sum_ok (hm : ax_mxok sp mx) (hmt : ax_mtok rf mt) (hsa : ∀ q u n, rx_lay q = some (.inr (u, n)) → ∀ j, sp q j = sp q 0) {sum : ax_Y} (hY : ax_Yok X sp rf sum) {hn : Nat → Nat → Nat} {wd : ax_D} {T : List ax_ct} {j D f : Nat} {po : ax_po} (hT : ∀ c ∈ T, ax_cr wd sp rf mx mt hn sum T j D f po c = true) {c : ax_ct} (hc : c ∈ T) (h0 : c.1 = 0) : ax_Yok X sp rf ((j, ax_sumc sp c D, wd, po) :: sum) := by
  intro s hs
  rcases List.mem_cons.mp hs with q | q
  · subst q
    intro W E K d ls v M a h S
    unfold ax_sumc at h
    rw [Bool.and_eq_true] at h
    obtain ⟨v2, q1, q2, q3, q4, -⟩ := ax_ar_ok (M0 := M) hsa h.2 S (fun g hg => by cases hg) (fun _ => rfl) (fun o ho => by cases ho)
    obtain ⟨f2, o, k1, k2⟩ := ax_cut (M0 := ax_mA a M) (cap := (a.2.1, a.2.2)) (l := ax_ls v ls) (v := v2) (M := M) (a := a) hm hmt hsa hY hT hc ⟨q1, q2, ⟨S.2.2.2.1.1, S.2.2.2.1.2.1, fun _ _ _ => ⟨rfl, rfl⟩, S.2.2.2.1.2.2.2⟩, q3, q4⟩ ⟨S.2.2.2.2.2.1.1, Nat.le_refl _, Nat.le_refl _⟩ (fun a' M' h1 h2 => ax_le_mA h1 h2)
    rw [h0] at k1
    exact ⟨f2, o, ax_go_dep _ _ _ _ _ k1 d (Nat.le_of_ble_eq_true h.1), k2⟩
  · exact hY s q
end AXCU
