/-! the core: writes that keep the guards -/
/-- a field's place -/
noncomputable def ax_fx (k : Nat) : Value := .int (Int32.ofNat k)
/-- an index, a literal where it is one -/
noncomputable def ax_cx (E : ax_E) (y : Value) : Value := match ax_lit E y with
  | some x => .int x
  | none => y
theorem ax_cx_ok {v : ax_V} {E : ax_E} (hE : ax_ok v E) {y : Value} (hy : sx_isI y = true) : ax_vi v (ax_cx E y) = ax_vi v y ∧ sx_isI (ax_cx E y) = true := by
  unfold ax_cx
  split
  · rename_i x hx
    exact ⟨(ax_vi_lit hE hx hy).symm, rfl⟩
  · exact ⟨rfl, hy⟩
/-- a known int -/
noncomputable def ax_fi (q : Nat) (j : Value) (K : ax_K) : Option Value := match ax_find q j K with
  | some w => cond (sx_isI w) (some w) none
  | none => none
theorem ax_fi_ok {v : ax_V} {M : rx_M} {q : Nat} {j w : Value} {K : ax_K} (hK : ax_kn v K M) (h : ax_fi q j K = some w) : sx_isI w = true ∧ M.1 q (ax_vi v j).toNatClampNeg = ax_vi v w := by
  unfold ax_fi at h
  split at h
  · rename_i u hu
    cases hw : sx_isI u with
    | true =>
      rw [hw] at h
      cases h
      exact ⟨hw, ax_k1_i (ax_find_ok K hK hu) hw⟩
    | false => rw [hw] at h; cases h
  · cases h
noncomputable def ax_out (lo hi : Int) (q : Nat) : Bool := decide (hi < (q : Int)) || decide ((q : Int) < lo)
theorem ax_out_ok {lo hi : Int} {q p : Nat} (h : ax_out lo hi q = true) (h1 : lo ≤ (p : Int)) (h2 : (p : Int) ≤ hi) : ¬ q = p := by
  unfold ax_out at h
  rw [Bool.or_eq_true] at h
  rcases h with h | h
  · have := of_decide_eq_true h
    omega
  · have := of_decide_eq_true h
    omega
/-- the place is a field's, of which the size (c, f) is told, at or past it -/
noncomputable def ax_past (E : ax_E) (K : ax_K) (c f : Nat) (y : Value) : Bool := match ax_fi c (ax_fx f) K with
  | some s => ax_leq E s y 0
  | none => false
theorem ax_fx_16 : (ax_vi (fun _ => (0, 0)) (ax_fx 16)).toNatClampNeg = 16 := rfl
theorem ax_past_ok {v : ax_V} {E : ax_E} {K : ax_K} {M : rx_M} (hE : ax_ok v E) (hK : ax_kn v K M) {c f : Nat} {y : Value} (hf : f < 100) (h : ax_past E K c f y = true) : (M.1 c f).toInt ≤ (ax_vi v y).toInt ∧ sx_isI y = true := by
  unfold ax_past at h
  split at h
  · rename_i s hs
    obtain ⟨h1, h2⟩ := ax_fi_ok hK hs
    obtain ⟨-, h3, h4⟩ := ax_leq_ok hE h
    have e : (ax_vi v (ax_fx f)).toNatClampNeg = f := by
      have h5 : (Int32.ofNat f).toInt = (f : Int) := by
        show (Int32.ofInt (f : Int)).toInt = _
        exact ax_ofInt (by omega) (by omega)
      show (Int32.ofNat f).toInt.toNat = f
      rw [h5]
      rfl
    rw [e] at h2
    rw [h2]
    exact ⟨by omega, h3⟩
  · cases h
/-- none of the guards' arrays -/
noncomputable def ax_quiet (lo hi : Int) : Bool := (decide (hi < 24) || decide (173 < lo)) && (ax_out lo hi 17 && (ax_out lo hi 19 && (ax_out lo hi 20 && (ax_out lo hi 174 && (ax_out lo hi 213 && (ax_out lo hi 249 && (ax_out lo hi 251 && (ax_out lo hi 252 && (ax_out lo hi 283 && (ax_out lo hi 284 && (ax_out lo hi 253 && (ax_out lo hi 255 && ax_out lo hi 256))))))))))))
noncomputable def ax_gszo (lo hi : Int) : Bool := ax_out lo hi 14 && ax_out lo hi 244
theorem ax_gs_f : ∀ g ∈ ax_gs, (g.1 = (14, 16) ∧ g.2.1.1 = 17 ∧ (g.2.2.1 = 19 ∨ g.2.2.1 = 20 ∨ g.2.2.1 = 174)) ∨ (g.1 = (244, 7) ∧ g.2.1.1 = 249 ∧ (g.2.2.1 = 251 ∨ g.2.2.1 = 252 ∨ g.2.2.1 = 253)) := by
  intro g hg
  have h : ax_gs.all (fun g => (decide (g.1 = (14, 16)) && (decide (g.2.1.1 = 17) && (decide (g.2.2.1 = 19) || (decide (g.2.2.1 = 20) || decide (g.2.2.1 = 174))))) || (decide (g.1 = (244, 7)) && (decide (g.2.1.1 = 249) && (decide (g.2.2.1 = 251) || (decide (g.2.2.1 = 252) || decide (g.2.2.1 = 253)))))) = true := by decide
  have h1 := List.all_eq_true.mp h g hg
  simp only [Bool.and_eq_true, Bool.or_eq_true, decide_eq_true_eq] at h1
  exact h1
section AXG
variable {v : ax_V} {E : ax_E} {K : ax_K} {M : rx_M} {q j : Nat} {z : Int32} {lo hi : Int}
theorem ax_up_ne {f : Nat → Nat → Int32} {p i : Nat} (h : ¬ (p = q ∧ i = j)) : rx_up f q j z p i = f p i := by
  unfold rx_up
  by_cases hp : p = q
  · rw [if_pos hp, if_neg (fun z => h ⟨hp, z⟩)]
  · rw [if_neg hp]
/-- G where a write changes nothing of what the guards read -/
theorem ax_G_of {f g : Nat → Nat → Int32} (hG : ax_GG f) (hs1 : g 14 16 = f 14 16) (hs2 : g 244 7 = f 244 7)
    (h1 : ∀ e : Nat, (e : Int) < (f 14 16).toInt → g 17 e = f 17 e ∧ g 19 e = f 19 e ∧ g 20 e = f 20 e ∧ g 174 e = f 174 e ∧ (e < 150 → ∀ i, g (24 + e) i = f (24 + e) i))
    (h2 : ∀ e : Nat, (e : Int) < (f 244 7).toInt → g 249 e = f 249 e ∧ g 251 e = f 251 e ∧ g 252 e = f 252 e ∧ g 253 e = f 253 e ∧ g 255 e = f 255 e ∧ (e < 150 → ∀ i, i < 6 → g 256 (6 * e + i) = f 256 (6 * e + i)))
    (h3 : ∀ i, (g 213 i).toInt = -4 ∨ 0 ≤ (g 213 i).toInt) (h4 : ∀ i, (g 283 i).toInt = 1 → 0 ≤ (g 284 i).toInt ∧ (g 284 i).toInt ≤ 11) : ax_GG g := by
  refine ⟨fun d hd e he hs => ?_, fun e h150 he hs i hi => ?_, h3, h4, fun e h150 he hs i j hij hj6 hj => ?_⟩
  rotate_right
  · have he2 : (e : Int) < (f 244 7).toInt := by rw [← hs2]; exact he
    obtain ⟨b1, -, -, -, b5, b6⟩ := h2 e he2
    rw [b1] at hs
    rw [b5] at hj
    rw [b6 h150 i (by omega), b6 h150 j hj6]
    exact hG.2.2.2.2 e h150 he2 hs i j hij hj6 hj
  · have k := hG.1 d hd e
    rcases ax_gs_f d hd with ⟨a1, a2, a3⟩ | ⟨a1, a2, a3⟩
    · rw [a1] at he
      have he2 : (e : Int) < (f 14 16).toInt := by rw [← hs1]; exact he
      obtain ⟨b1, b2, b3, b4, -⟩ := h1 e he2
      rw [a2, b1] at hs
      have k2 := k (by rw [a1]; exact he2) (by rw [a2]; exact hs)
      rcases a3 with a3 | a3 | a3
      · rw [a3] at k2 ⊢; rw [b2]; exact k2
      · rw [a3] at k2 ⊢; rw [b3]; exact k2
      · rw [a3] at k2 ⊢; rw [b4]; exact k2
    · rw [a1] at he
      have he2 : (e : Int) < (f 244 7).toInt := by rw [← hs2]; exact he
      obtain ⟨b1, b2, b3, b4, -⟩ := h2 e he2
      rw [a2, b1] at hs
      have k2 := k (by rw [a1]; exact he2) (by rw [a2]; exact hs)
      rcases a3 with a3 | a3 | a3
      · rw [a3] at k2 ⊢; rw [b2]; exact k2
      · rw [a3] at k2 ⊢; rw [b3]; exact k2
      · rw [a3] at k2 ⊢; rw [b4]; exact k2
  · have he2 : (e : Int) < (f 14 16).toInt := by rw [← hs1]; exact he
    obtain ⟨b1, b2, b3, b4, b5⟩ := h1 e he2
    rw [b1] at hs
    rw [b4] at hi
    rw [b5 h150 i]
    exact hG.2.1 e h150 he2 hs i hi
/-- a slot that no guard speaks of -/
theorem ax_G_free {f : Nat → Nat → Int32} (hG : ax_GG f) (h : ax_quiet lo hi = true) (h1 : lo ≤ (q : Int)) (h2 : (q : Int) ≤ hi) (h3 : ¬ (14 = q ∧ 16 = j)) (h4 : ¬ (244 = q ∧ 7 = j)) : ax_GG (rx_up f q j z) := by
  unfold ax_quiet at h
  simp only [Bool.and_eq_true] at h
  obtain ⟨c0, c1, c2, c3, c4, c5, c6, c7, c8, c9, c10, c11, c12, c13⟩ := h
  have n11 := ax_out_ok c11 h1 h2
  have n12 := ax_out_ok c12 h1 h2
  have n13 := ax_out_ok c13 h1 h2
  have n9 := ax_out_ok c9 h1 h2
  have n10 := ax_out_ok c10 h1 h2
  have n1 := ax_out_ok c1 h1 h2
  have n2 := ax_out_ok c2 h1 h2
  have n3 := ax_out_ok c3 h1 h2
  have n4 := ax_out_ok c4 h1 h2
  have n5 := ax_out_ok c5 h1 h2
  have n6 := ax_out_ok c6 h1 h2
  have n7 := ax_out_ok c7 h1 h2
  have n8 := ax_out_ok c8 h1 h2
  have nrow : ¬ (24 ≤ q ∧ q ≤ 173) := by
    rw [Bool.or_eq_true] at c0
    rcases c0 with c0 | c0
    · have := of_decide_eq_true c0; omega
    · have := of_decide_eq_true c0; omega
  refine ax_G_of hG (ax_up_ne h3) (ax_up_ne h4) (fun e he => ⟨ax_up_ne (fun z => n1 z.1), ax_up_ne (fun z => n2 z.1), ax_up_ne (fun z => n3 z.1), ax_up_ne (fun z => n4 z.1), fun h150 i => ax_up_ne (fun z => by omega)⟩) (fun e he => ⟨ax_up_ne (fun z => n6 z.1), ax_up_ne (fun z => n7 z.1), ax_up_ne (fun z => n8 z.1), ax_up_ne (fun z => n11 z.1), ax_up_ne (fun z => n12 z.1), fun _ i _ => ax_up_ne (fun z => n13 z.1)⟩) (fun i => ?_) (fun i => ?_)
  · rw [ax_up_ne (fun z => n5 z.1)]
    exact hG.2.2.1 i
  · rw [ax_up_ne (fun z => n9 z.1), ax_up_ne (fun z => n10 z.1)]
    exact hG.2.2.2.1 i
/-- the array of a guard, at or past its size -/
theorem ax_G_p1 {f : Nat → Nat → Int32} (hG : ax_GG f) (hq : q = 17 ∨ q = 19 ∨ q = 20 ∨ q = 174) (h : (f 14 16).toInt ≤ (j : Int)) : ax_GG (rx_up f q j z) := by
  refine ax_G_of hG (ax_up_ne (by omega)) (ax_up_ne (by omega)) (fun e he => ⟨ax_up_ne (by omega), ax_up_ne (by omega), ax_up_ne (by omega), ax_up_ne (by omega), fun h150 i => ax_up_ne (by omega)⟩) (fun e he => ⟨ax_up_ne (by omega), ax_up_ne (by omega), ax_up_ne (by omega), ax_up_ne (by omega), ax_up_ne (by omega), fun _ i _ => ax_up_ne (by omega)⟩) (fun i => ?_) (fun i => ?_)
  · rw [ax_up_ne (by omega)]
    exact hG.2.2.1 i
  · rw [ax_up_ne (by omega), ax_up_ne (by omega)]
    exact hG.2.2.2.1 i
theorem ax_G_p2 {f : Nat → Nat → Int32} (hG : ax_GG f) (hq : q = 249 ∨ q = 251 ∨ q = 252 ∨ q = 253) (h : (f 244 7).toInt ≤ (j : Int)) : ax_GG (rx_up f q j z) := by
  refine ax_G_of hG (ax_up_ne (by omega)) (ax_up_ne (by omega)) (fun e he => ⟨ax_up_ne (by omega), ax_up_ne (by omega), ax_up_ne (by omega), ax_up_ne (by omega), fun h150 i => ax_up_ne (by omega)⟩) (fun e he => ⟨ax_up_ne (by omega), ax_up_ne (by omega), ax_up_ne (by omega), ax_up_ne (by omega), ax_up_ne (by omega), fun _ i _ => ax_up_ne (by omega)⟩) (fun i => ?_) (fun i => ?_)
  · rw [ax_up_ne (by omega)]
    exact hG.2.2.1 i
  · rw [ax_up_ne (by omega), ax_up_ne (by omega)]
    exact hG.2.2.2.1 i
theorem ax_G_from {f : Nat → Nat → Int32} (hG : ax_GG f) (h : z.toInt = -4 ∨ 0 ≤ z.toInt) : ax_GG (rx_up f 213 j z) := by
  refine ax_G_of hG (ax_up_ne (by omega)) (ax_up_ne (by omega)) (fun e he => ⟨ax_up_ne (by omega), ax_up_ne (by omega), ax_up_ne (by omega), ax_up_ne (by omega), fun h150 i => ax_up_ne (by omega)⟩) (fun e he => ⟨ax_up_ne (by omega), ax_up_ne (by omega), ax_up_ne (by omega), ax_up_ne (by omega), ax_up_ne (by omega), fun _ i _ => ax_up_ne (by omega)⟩) (fun i => ?_) (fun i => ?_)
  · by_cases hi : i = j
    · rw [hi]
      show (rx_up f 213 j z 213 j).toInt = -4 ∨ _
      unfold rx_up
      rw [if_pos rfl, if_pos rfl]
      exact h
    · rw [ax_up_ne (fun z => hi z.2)]
      exact hG.2.2.1 i
  · rw [ax_up_ne (by omega), ax_up_ne (by omega)]
    exact hG.2.2.2.1 i
theorem ax_G_held {f : Nat → Nat → Int32} (hG : ax_GG f) (h : z.toInt = 1 → 0 ≤ (f 284 j).toInt ∧ (f 284 j).toInt ≤ 11) : ax_GG (rx_up f 283 j z) := by
  refine ax_G_of hG (ax_up_ne (by omega)) (ax_up_ne (by omega)) (fun e he => ⟨ax_up_ne (by omega), ax_up_ne (by omega), ax_up_ne (by omega), ax_up_ne (by omega), fun h150 i => ax_up_ne (by omega)⟩) (fun e he => ⟨ax_up_ne (by omega), ax_up_ne (by omega), ax_up_ne (by omega), ax_up_ne (by omega), ax_up_ne (by omega), fun _ i _ => ax_up_ne (by omega)⟩) (fun i => ?_) (fun i => ?_)
  · rw [ax_up_ne (by omega)]
    exact hG.2.2.1 i
  · rw [ax_up_ne (p := 284) (by omega)]
    by_cases hi : i = j
    · rw [hi]
      have e : rx_up f 283 j z 283 j = z := by unfold rx_up; rw [if_pos rfl, if_pos rfl]
      rw [e]
      exact h
    · rw [ax_up_ne (fun z => hi z.2)]
      exact hG.2.2.2.1 i
theorem ax_G_kept {f : Nat → Nat → Int32} (hG : ax_GG f) (h : (f 283 j).toInt = 1 → 0 ≤ z.toInt ∧ z.toInt ≤ 11) : ax_GG (rx_up f 284 j z) := by
  refine ax_G_of hG (ax_up_ne (by omega)) (ax_up_ne (by omega)) (fun e he => ⟨ax_up_ne (by omega), ax_up_ne (by omega), ax_up_ne (by omega), ax_up_ne (by omega), fun h150 i => ax_up_ne (by omega)⟩) (fun e he => ⟨ax_up_ne (by omega), ax_up_ne (by omega), ax_up_ne (by omega), ax_up_ne (by omega), ax_up_ne (by omega), fun _ i _ => ax_up_ne (by omega)⟩) (fun i => ?_) (fun i => ?_)
  · rw [ax_up_ne (by omega)]
    exact hG.2.2.1 i
  · rw [ax_up_ne (p := 283) (by omega)]
    by_cases hi : i = j
    · rw [hi]
      have e : rx_up f 284 j z 284 j = z := by unfold rx_up; rw [if_pos rfl, if_pos rfl]
      rw [e]
      exact h
    · rw [ax_up_ne (p := 284) (fun z => hi z.2)]
      exact hG.2.2.2.1 i
/-- it isn't w -/
noncomputable def ax_isn (E : ax_E) (x : Value) (w : Int) : Bool := sx_isI x && (decide (w < (ax_iv E x).1) || decide ((ax_ivh E x).2 < w))
theorem ax_isn_ok (hE : ax_ok v E) {x : Value} {w : Int} (h : ax_isn E x w = true) : ¬ (ax_vi v x).toInt = w := by
  unfold ax_isn at h
  rw [Bool.and_eq_true, Bool.or_eq_true, decide_eq_true_eq, decide_eq_true_eq] at h
  have i1 := ax_iv_ok hE h.1
  have i2 := ax_ivh_ok hE h.1
  omega
noncomputable def ax_i11 (E : ax_E) (x : Value) : Bool := sx_isI x && (decide (0 ≤ (ax_iv E x).1) && decide ((ax_ivh E x).2 ≤ 11))
theorem ax_i11_ok (hE : ax_ok v E) {x : Value} (h : ax_i11 E x = true) : 0 ≤ (ax_vi v x).toInt ∧ (ax_vi v x).toInt ≤ 11 := by
  unfold ax_i11 at h
  rw [Bool.and_eq_true, Bool.and_eq_true, decide_eq_true_eq, decide_eq_true_eq] at h
  have i1 := ax_iv_ok hE h.1
  have i2 := ax_ivh_ok hE h.1
  omega
/-- the write of an element -/
noncomputable def ax_gw (E : ax_E) (K : ax_K) (lo hi : Int) (y x : Value) : Bool := ax_gszo lo hi && (ax_quiet lo hi || (decide (lo = hi) && (((decide (lo = 17) || (decide (lo = 19) || (decide (lo = 20) || decide (lo = 174)))) && ax_past E K 14 16 y) || (((decide (lo = 249) || (decide (lo = 251) || (decide (lo = 252) || decide (lo = 253)))) && ax_past E K 244 7 y) || (decide (lo = 213) && (sx_isI x && ((decide (-4 ≤ (ax_iv E x).1) && decide ((ax_iv E x).2 ≤ -4)) || decide (0 ≤ (ax_iv E x).1)))) || ((decide (lo = 283) && (ax_isn E x 1 || (match ax_fi 284 y K with
  | some k => ax_i11 E k
  | none => false))) || (decide (lo = 284) && (sx_isI x && (ax_i11 E x || (match ax_fi 283 y K with
  | some k => ax_isn E k 1
  | none => false)))))))))
theorem ax_gw_ok (hE : ax_ok v E) (hK : ax_kn v K M) (hG : ax_GG M.1) {y x : Value} (h : ax_gw E K lo hi y x = true) (h1 : lo ≤ (q : Int)) (h2 : (q : Int) ≤ hi) : ax_GG (rx_up M.1 q (ax_vi v y).toNatClampNeg (ax_vi v x)) := by
  unfold ax_gw ax_gszo at h
  simp only [Bool.and_eq_true, Bool.or_eq_true, decide_eq_true_eq] at h
  obtain ⟨⟨a1, a2⟩, h⟩ := h
  have n1 := ax_out_ok a1 h1 h2
  have n2 := ax_out_ok a2 h1 h2
  rcases h with h | ⟨e0, h⟩
  · exact ax_G_free hG h h1 h2 (fun z => n1 z.1) (fun z => n2 z.1)
  · rcases h with ⟨h, hp⟩ | (⟨h, hp⟩ | ⟨h, hx, hp⟩) | ⟨h, hp⟩ | ⟨h, hx, hp⟩
    · obtain ⟨p1, p2⟩ := ax_past_ok hE hK (by omega) hp
      refine ax_G_p1 hG (by omega) ?_
      have : ((ax_vi v y).toNatClampNeg : Int) = max 0 (ax_vi v y).toInt := by
        show (((ax_vi v y).toInt.toNat : Nat) : Int) = _
        omega
      omega
    · obtain ⟨p1, p2⟩ := ax_past_ok hE hK (by omega) hp
      refine ax_G_p2 hG (by omega) ?_
      have : ((ax_vi v y).toNatClampNeg : Int) = max 0 (ax_vi v y).toInt := by
        show (((ax_vi v y).toInt.toNat : Nat) : Int) = _
        omega
      omega
    · have e : q = 213 := by omega
      subst e
      have i1 := ax_iv_ok hE hx
      exact ax_G_from hG (by omega)
    · have e : q = 283 := by omega
      subst e
      refine ax_G_held hG (fun h1 => ?_)
      rcases hp with hp | hp
      · exact absurd h1 (ax_isn_ok hE hp)
      · split at hp
        · rename_i k hk
          obtain ⟨k1, k2⟩ := ax_fi_ok hK hk
          rw [k2]
          exact ax_i11_ok hE hp
        · cases hp
    · have e : q = 284 := by omega
      subst e
      refine ax_G_kept hG (fun h1 => ?_)
      rcases hp with hp | hp
      · exact ax_i11_ok hE hp
      · split at hp
        · rename_i k hk
          obtain ⟨k1, k2⟩ := ax_fi_ok hK hk
          rw [k2] at h1
          exact absurd h1 (ax_isn_ok hE hp)
        · cases hp
/-- a guard at an entry -/
noncomputable def ax_gat (E : ax_E) (K : ax_K) (s : Value) (g : ax_gt) : Bool := (match ax_fi g.2.1.1 (ax_cx E s) K with
  | some z => decide (g.2.1.2 < (ax_iv E z).1) || decide ((ax_ivh E z).2 < g.2.1.2)
  | none => false) || (match ax_fi g.2.2.1 (ax_cx E s) K with
  | some y => decide (g.2.2.2.1 ≤ (ax_iv E y).1) && decide ((ax_ivh E y).2 ≤ g.2.2.2.2)
  | none => false)
theorem ax_gat_ok (hE : ax_ok v E) (hK : ax_kn v K M) {s : Value} (hs : sx_isI s = true) {g : ax_gt} (h : ax_gat E K s g = true) : ax_g1 M.1 g (ax_vi v s).toNatClampNeg := by
  intro hw
  unfold ax_gat at h
  obtain ⟨c1, c2⟩ := ax_cx_ok hE hs
  rw [Bool.or_eq_true] at h
  rcases h with h | h
  · split at h
    · rename_i z hz
      obtain ⟨z1, z2⟩ := ax_fi_ok hK hz
      rw [c1] at z2
      rw [z2] at hw
      have i1 := ax_iv_ok hE z1
      have i2 := ax_ivh_ok hE z1
      rw [Bool.or_eq_true, decide_eq_true_eq, decide_eq_true_eq] at h
      omega
    · cases h
  · split at h
    · rename_i z hz
      obtain ⟨z1, z2⟩ := ax_fi_ok hK hz
      rw [c1] at z2
      rw [z2]
      have i1 := ax_iv_ok hE z1
      have i2 := ax_ivh_ok hE z1
      rw [Bool.and_eq_true, decide_eq_true_eq, decide_eq_true_eq] at h
      omega
    · cases h
noncomputable def ax_gat2 (E : ax_E) (K : ax_K) (s : Value) : Bool := (match ax_fi 17 (ax_cx E s) K with
  | some z => decide (5 < (ax_iv E z).1) || decide ((ax_ivh E z).2 < 5)
  | none => false) || (match ax_fi 174 (ax_cx E s) K with
  | some y => (match ax_find 23 (ax_cx E s) K with
    | some (.long n) => decide ((ax_ivh E y).2 ≤ n.toInt)
    | _ => false)
  | none => false)
theorem ax_gat2_ok (hE : ax_ok v E) (hK : ax_kn v K M) {s : Value} (hs : sx_isI s = true) (h : ax_gat2 E K s = true) : ax_g2 M.1 (ax_vi v s).toNatClampNeg := by
  intro hw
  unfold ax_gat2 at h
  obtain ⟨c1, c2⟩ := ax_cx_ok hE hs
  rw [Bool.or_eq_true] at h
  rcases h with h | h
  · split at h
    · rename_i z hz
      obtain ⟨z1, z2⟩ := ax_fi_ok hK hz
      rw [c1] at z2
      rw [z2] at hw
      have i1 := ax_iv_ok hE z1
      have i2 := ax_ivh_ok hE z1
      rw [Bool.or_eq_true, decide_eq_true_eq, decide_eq_true_eq] at h
      omega
    · cases h
  · split at h
    · rename_i y hy
      obtain ⟨z1, z2⟩ := ax_fi_ok hK hy
      rw [c1] at z2
      split at h
      · rename_i n hn
        have h := of_decide_eq_true h
        have i2 := ax_ivh_ok hE z1
        have k := ax_find_ok K hK hn
        rcases k.2 with k | k | ⟨m, k, k0, k2⟩
        · cases k.1
        · cases k.1
        · cases k
          dsimp only at k2
          rw [c1] at k2
          intro i hi
          rw [z2] at hi
          exact k2 i (by omega)
      · cases h
    · cases h
/-- no ring comes in -/
noncomputable def ax_gat5 (E : ax_E) (K : ax_K) (s : Value) : Bool := match ax_fi 249 (ax_cx E s) K with
  | some z => decide (5 < (ax_iv E z).1) || decide ((ax_ivh E z).2 < 5)
  | none => false
theorem ax_gat5_ok (hE : ax_ok v E) (hK : ax_kn v K M) {s : Value} (hs : sx_isI s = true) (h : ax_gat5 E K s = true) : ax_g5 M.1 (ax_vi v s).toNatClampNeg := by
  intro hw
  unfold ax_gat5 at h
  obtain ⟨c1, c2⟩ := ax_cx_ok hE hs
  split at h
  · rename_i z hz
    obtain ⟨z1, z2⟩ := ax_fi_ok hK hz
    rw [c1] at z2
    rw [z2] at hw
    have i1 := ax_iv_ok hE z1
    have i2 := ax_ivh_ok hE z1
    rw [Bool.or_eq_true, decide_eq_true_eq, decide_eq_true_eq] at h
    omega
  · cases h
/-- a field is written: not a size, or a size by one more, the guards being right of the one that comes in -/
noncomputable def ax_gp (E : ax_E) (K : ax_K) (q k : Nat) (w : Value) : Bool := ax_quiet (q : Int) (q : Int) && (cond (Nat.beq q 14 && Nat.beq k 16) (match ax_fi 14 (ax_fx 16) K with
  | some s => ax_leq E w s (-1) && (ax_gs.all (fun g => !(Nat.beq g.1.1 14) || ax_gat E K s g) && ax_gat2 E K s)
  | none => false) (cond (Nat.beq q 244 && Nat.beq k 7) (match ax_fi 244 (ax_fx 7) K with
  | some s => ax_leq E w s (-1) && (ax_gs.all (fun g => !(Nat.beq g.1.1 244) || ax_gat E K s g) && ax_gat5 E K s)
  | none => false) true))
theorem ax_gp_ok (hE : ax_ok v E) (hK : ax_kn v K M) (hG : ax_GG M.1) {k : Nat} {w : Value} (h : ax_gp E K q k w = true) : ax_GG (rx_up M.1 q k (ax_vi v w)) := by
  unfold ax_gp at h
  rw [Bool.and_eq_true] at h
  obtain ⟨h0, h⟩ := h
  have hq := h0
  unfold ax_quiet at hq
  simp only [Bool.and_eq_true] at hq
  obtain ⟨c0, c1, c2, c3, c4, c5, c6, c7, c8, -, -, -, -, -⟩ := hq
  have r1 : (q : Int) ≤ q := Int.le_refl _
  cases ha : (Nat.beq q 14 && Nat.beq k 16) with
  | true =>
    rw [ha] at h
    rw [Bool.and_eq_true] at ha
    have e1 := Nat.eq_of_beq_eq_true ha.1
    have e2 := Nat.eq_of_beq_eq_true ha.2
    subst e1
    subst e2
    rw [Bool.cond_true] at h
    split at h
    · rename_i s hs
      obtain ⟨s1, s2⟩ := ax_fi_ok hK hs
      have s2 : M.1 14 16 = ax_vi v s := s2
      simp only [Bool.and_eq_true] at h
      obtain ⟨l1, l2, l3⟩ := h
      obtain ⟨-, -, l1⟩ := ax_leq_ok hE l1
      have up : rx_up M.1 14 16 (ax_vi v w) 14 16 = ax_vi v w := by unfold rx_up; rw [if_pos rfl, if_pos rfl]
      have hcl : (((ax_vi v s).toNatClampNeg : Nat) : Int) = max 0 (ax_vi v s).toInt := by
        show (((ax_vi v s).toInt.toNat : Nat) : Int) = _
        omega
      refine ⟨fun d hd e he hw => ?_, fun e h150 he hw i hi => ?_, fun i => ?_, fun i hi => ?_, fun e h150 he hw i j hij hj6 hj => ?_⟩
      rotate_right
      · rw [ax_up_ne (by omega)] at he hw hj
        rw [ax_up_ne (by omega), ax_up_ne (by omega)]
        exact hG.2.2.2.2 e h150 he hw i j hij hj6 hj
      · rcases ax_gs_f d hd with ⟨a1, a2, a3⟩ | ⟨a1, a2, a3⟩
        · rw [ax_up_ne (by omega)] at hw
          rw [ax_up_ne (by omega)]
          rw [a1, up] at he
          by_cases hes : (e : Int) < (ax_vi v s).toInt
          · exact hG.1 d hd e (by rw [a1, s2]; exact hes) hw
          · have e9 : e = (ax_vi v s).toNatClampNeg := by omega
            have k1 := List.all_eq_true.mp l2 d hd
            rw [a1] at k1
            have k2 := ax_gat_ok hE hK s1 (g := d) (by simpa using k1)
            rw [← e9] at k2
            exact k2 hw
        · rw [ax_up_ne (by omega)] at hw
          rw [ax_up_ne (by omega)]
          rw [a1, ax_up_ne (by omega)] at he
          exact hG.1 d hd e (by rw [a1]; exact he) hw
      · rw [up] at he
        rw [ax_up_ne (by omega)] at hw
        rw [ax_up_ne (by omega)] at hi
        rw [ax_up_ne (by omega)]
        by_cases hes : (e : Int) < (ax_vi v s).toInt
        · exact hG.2.1 e h150 (by rw [s2]; exact hes) hw i hi
        · have e9 : e = (ax_vi v s).toNatClampNeg := by omega
          have k2 := ax_gat2_ok hE hK s1 l3
          rw [← e9] at k2
          exact k2 hw i hi
      · rw [ax_up_ne (by omega)]
        exact hG.2.2.1 i
      · rw [ax_up_ne (by omega)] at hi
        rw [ax_up_ne (by omega)]
        exact hG.2.2.2.1 i hi
    · cases h
  | false =>
    rw [ha, Bool.cond_false] at h
    have na : ¬ (14 = q ∧ 16 = k) := by
      rintro ⟨rfl, rfl⟩
      cases ha
    cases hb : (Nat.beq q 244 && Nat.beq k 7) with
    | true =>
      rw [hb] at h
      rw [Bool.and_eq_true] at hb
      have e1 := Nat.eq_of_beq_eq_true hb.1
      have e2 := Nat.eq_of_beq_eq_true hb.2
      subst e1
      subst e2
      rw [Bool.cond_true] at h
      split at h
      · rename_i s hs
        obtain ⟨s1, s2⟩ := ax_fi_ok hK hs
        have s2 : M.1 244 7 = ax_vi v s := s2
        rw [Bool.and_eq_true] at h
        rw [Bool.and_eq_true] at h
        obtain ⟨l1, l2, l5⟩ := h
        obtain ⟨-, -, l1⟩ := ax_leq_ok hE l1
        have up : rx_up M.1 244 7 (ax_vi v w) 244 7 = ax_vi v w := by unfold rx_up; rw [if_pos rfl, if_pos rfl]
        have hcl : (((ax_vi v s).toNatClampNeg : Nat) : Int) = max 0 (ax_vi v s).toInt := by
          show (((ax_vi v s).toInt.toNat : Nat) : Int) = _
          omega
        refine ⟨fun d hd e he hw => ?_, fun e h150 he hw i hi => ?_, fun i => ?_, fun i hi => ?_, fun e h150 he hw i j hij hj6 hj => ?_⟩
        rotate_right
        · rw [up] at he
          rw [ax_up_ne (by omega)] at hw hj
          rw [ax_up_ne (by omega), ax_up_ne (by omega)]
          by_cases hes : (e : Int) < (ax_vi v s).toInt
          · exact hG.2.2.2.2 e h150 (by rw [s2]; exact hes) hw i j hij hj6 hj
          · have e9 : e = (ax_vi v s).toNatClampNeg := by omega
            have k2 := ax_gat5_ok hE hK s1 l5
            rw [← e9] at k2
            exact k2 hw i j hij hj6 hj
        · rcases ax_gs_f d hd with ⟨a1, a2, a3⟩ | ⟨a1, a2, a3⟩
          · rw [ax_up_ne (by omega)] at hw
            rw [ax_up_ne (by omega)]
            rw [a1, ax_up_ne (by omega)] at he
            exact hG.1 d hd e (by rw [a1]; exact he) hw
          · rw [ax_up_ne (by omega)] at hw
            rw [ax_up_ne (by omega)]
            rw [a1, up] at he
            by_cases hes : (e : Int) < (ax_vi v s).toInt
            · exact hG.1 d hd e (by rw [a1, s2]; exact hes) hw
            · have e9 : e = (ax_vi v s).toNatClampNeg := by omega
              have k1 := List.all_eq_true.mp l2 d hd
              rw [a1] at k1
              have k2 := ax_gat_ok hE hK s1 (g := d) (by simpa using k1)
              rw [← e9] at k2
              exact k2 hw
        · rw [ax_up_ne (by omega)] at he
          rw [ax_up_ne (by omega)] at hw
          rw [ax_up_ne (by omega)] at hi
          rw [ax_up_ne (by omega)]
          exact hG.2.1 e h150 he hw i hi
        · rw [ax_up_ne (by omega)]
          exact hG.2.2.1 i
        · rw [ax_up_ne (by omega)] at hi
          rw [ax_up_ne (by omega)]
          exact hG.2.2.2.1 i hi
      · cases h
    | false =>
      have nb : ¬ (244 = q ∧ 7 = k) := by
        rintro ⟨rfl, rfl⟩
        cases hb
      exact ax_G_free hG h0 r1 r1 na nb
end AXG
