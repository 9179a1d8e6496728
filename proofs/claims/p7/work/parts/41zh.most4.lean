/-! the reference's mostOf, by hand: all of it after the debts are found -/
noncomputable def mo_S (M : rx_M) : Nat → Nat
  | 0 => 0
  | n + 1 => mo_S M n + (M.1 271 n).toInt.toNat
theorem mo_Se {M M1 : rx_M} : ∀ n, (∀ f, f < n → M1.1 271 f = M.1 271 f) → mo_S M1 n = mo_S M n
  | 0, _ => rfl
  | n + 1, h => by
    show mo_S M1 n + (M1.1 271 n).toInt.toNat = mo_S M n + (M.1 271 n).toInt.toNat
    rw [mo_Se n (fun f hf => h f (by omega)), h n (by omega)]
theorem mo_Su {M M1 : rx_M} {k : Nat} {z : Int32} (e : M1.1 = rx_up M.1 271 k z) : ∀ n, k < n → mo_S M1 n + (M.1 271 k).toInt.toNat = mo_S M n + z.toInt.toNat
  | 0, h => absurd h (Nat.not_lt_zero _)
  | n + 1, h => by
    show mo_S M1 n + (M1.1 271 n).toInt.toNat + _ = mo_S M n + (M.1 271 n).toInt.toNat + _
    by_cases q : k = n
    · have e1 : mo_S M1 n = mo_S M n := mo_Se n (fun f hf => by rw [e, hp_up_ne (by omega)])
      rw [e1, e, q, hp_up_eq]
      omega
    · have ih := mo_Su e n (by omega)
      have e1 : M1.1 271 n = M.1 271 n := by rw [e, hp_up_ne (by omega)]
      rw [e1]
      omega
theorem mo_Req {M M1 : rx_M} (h : ∀ q j, q = 268 ∨ q = 270 → M1.1 q j = M.1 q j) : mo_R M1 = mo_R M := by
  funext a b c
  unfold mo_R
  rw [h 270 _ (Or.inr rfl), h 268 _ (Or.inl rfl), h 270 _ (Or.inr rfl)]
theorem mo_req {M M1 : rx_M} (h : ∀ j, M1.1 271 j = M.1 271 j) : mo_r M1 = mo_r M := by
  funext b
  unfold mo_r
  rw [h]
theorem mo_Feq {M M1 : rx_M} (h : ∀ j, M1.1 272 j = M.1 272 j) : mo_F M1 = mo_F M := by
  funext b
  unfold mo_F
  rw [h]
theorem mo_Peq {M M1 : rx_M} (h : ∀ j, M1.1 273 j = M.1 273 j) : mo_P M1 = mo_P M := by
  funext b
  unfold mo_P
  rw [h]
theorem mo_neg {x z : Int32} (hx : -2147483648 < x.toInt) (hz : z = -x) : z.toInt = -x.toInt := by
  have r := ax_range x
  rw [hz, Int32.toInt_neg, ax_bmod (by omega) (by omega)]
noncomputable def mo_V (n : Nat) (M : rx_M) (en f : Nat) (c : Int) : Prop := ∃ V : Nat → Prop, V en ∧ V f ∧ ∀ x, V x → x < n ∧ mo_F M x ≠ 10000 ∧ (x = f ∨ (0 ≤ mo_P M x ∧ V (gw_pr (mo_P M) x) ∧ mo_room M x c))
/-- what holds whenever ways are sought -/
noncomputable def mo_H (n : Nat) (M0 M : rx_M) : Prop := mo_inv M0 M ∧ (∀ j, j < 144 → 0 ≤ (M.1 270 j).toInt) ∧ (∀ g, g < n → -2147483648 < (M.1 271 g).toInt) ∧ ∃ p : Nat → Int, ∀ a b c, a < n → b < n → mo_R M a b c → 0 ≤ c + p a - p b
section M4
variable {X : Nat × (Nat → Int32)} {d n : Nat} {a : rx_K} {M0 : rx_M} {P : rx_O → Prop}
/-- what stands after hours were sent -/
theorem mo_after {Mf M1 M2 M3 : rx_M} {V : Nat → Prop} {kr : Nat → Nat} {en f g : Nat} {c : Int} {z w : Int32} (hH : mo_H n M0 Mf) (hE : gw_E n (mo_R Mf) (mo_r Mf) (mo_F Mf) (mo_P Mf)) (hen : en < n) (hf : f < n) (hne : f ≠ en) (hc : 1 ≤ c) (hce : c ≤ -(Mf.1 271 en).toInt) (hcf : c ≤ (Mf.1 271 f).toInt) (e1 : M1.1 = rx_up Mf.1 271 f z) (g1 : M1.2 = Mf.2) (hz : z.toInt = (Mf.1 271 f).toInt - c) (e2 : M2.1 = rx_up M1.1 271 en w) (g2 : M2.2 = M1.2) (hw : w.toInt = (M1.1 271 en).toInt + c) (hJ : mo_J3 n V kr M2 M3 g) : mo_H n M0 M3 ∧ mo_S M3 n < mo_S Mf n := by
  obtain ⟨hM, ht, hl, p, hp0⟩ := hH
  have hM1 := mo_w hM (Or.inr (Or.inl rfl)) e1 g1
  have hM2 := mo_w hM1 (Or.inr (Or.inl rfl)) e2 g2
  obtain ⟨j1, j2, j3, j4, j5, j6⟩ := hJ
  have k1 : M1.1 271 en = Mf.1 271 en := by rw [e1, hp_up_ne (fun q => hne q.2.symm)]
  have k2 : ∀ q j, q ≠ 271 → M2.1 q j = Mf.1 q j := fun q j hq => by rw [e2, hp_up_ne (fun w => hq w.1), e1, hp_up_ne (fun w => hq w.1)]
  have k3 : ∀ j, M3.1 271 j = M2.1 271 j := fun j => j3 271 j (by omega)
  have eF : mo_F M2 = mo_F Mf := mo_Feq (fun j => k2 272 j (by omega))
  refine ⟨⟨⟨j1, j2.trans hM2.2.1, fun q j hq => (j3 q j (by omega)).trans (hM2.2.2.1 q j hq), fun j => by rw [j3 273 j (by omega)]; exact hM2.2.2.2 j⟩, j4, fun x hx => ?_, ?_⟩, ?_⟩
  · rw [k3, e2]
    by_cases q : x = en
    · rw [q, hp_up_eq, hw, k1]
      have := hl en hen
      omega
    · rw [hp_up_ne (fun w => q w.2), e1]
      by_cases q2 : x = f
      · rw [q2, hp_up_eq, hz]
        omega
      · rw [hp_up_ne (fun w => q2 w.2)]
        exact hl x hx
  · refine gw_next hp0 mo_Rc hE (fun u v c hu hv hR => ?_)
    rcases hR with ⟨rfl, hR⟩ | ⟨rfl, hR⟩
    · rcases j5 u v hu hv with q | ⟨q1, q2, q3⟩
      · refine Or.inl (mo_R1.mpr ?_)
        rw [q, j3 268 _ (by omega), k2 270 _ (by omega), k2 268 _ (by omega)] at hR
        exact hR
      · rw [eF] at q1 q2 q3
        exact Or.inr ⟨q1, q2, q3⟩
    · rcases j5 v u hv hu with q | ⟨q1, q2, q3⟩
      · refine Or.inl (mo_R2.mpr ?_)
        rw [q, k2 270 _ (by omega)] at hR
        exact hR
      · rw [eF] at q1 q2 q3
        exact Or.inr ⟨q2, q1, by omega⟩
  · have s1 := mo_Su e1 n hf
    have s2 := mo_Su e2 n hen
    have s3 := mo_Se (M := M2) (M1 := M3) n (fun x _ => k3 x)
    rw [s3]
    rw [k1] at s2 hw
    omega
theorem mo_268 (ha : a.1 = rx_cells) (hn12 : n ≤ 12) {Mf : rx_M} (hH : mo_H n M0 Mf) (hE : gw_E n (mo_R Mf) (mo_r Mf) (mo_F Mf) (mo_P Mf)) {kr : Nat → Nat} (hk : ∀ f, f < n → 0 ≤ mo_P Mf f → kr (gw_pr (mo_P Mf) f) < kr f) {x1 x2 x3 x4 : Int32} {o5 : Option Value} {en f : Nat} (h2 : x2.toInt = (en : Int)) (h4 : x4.toInt = (f : Int)) (hen : en < n) (hf : f < n) (hne : f ≠ en) (hP : mo_P Mf f < 0) (hx1 : 1 ≤ x3.toInt) (hxe : x3.toInt ≤ -(Mf.1 271 en).toInt) (hxf : x3.toInt ≤ (Mf.1 271 f).toInt) (hV : mo_V n Mf en f x3.toInt) (kk : ∀ x1 x2 o3 o4 o5 M, mo_H n M0 M → mo_S M n < mo_S Mf n → hp X d 216 113 [some (.ref 244), some (.int x1), some (.int x2), o3, o4, o5] [] a M P) : hp X d 216 268 [some (.ref 244), some (.int x1), some (.int x2), some (.int x3), some (.int x4), o5] [] a Mf P := by
  have hMf := hH.1
  have rf := ax_range (Mf.1 271 f)
  have re := ax_range (Mf.1 271 en)
  refine hp_al (pc' := 269) (j := 0) (Or.inr ⟨0, rfl, rfl, rfl⟩) rfl ?_
  refine hp_gr (pc' := 272) ha (hMf.1 244 35 271 rfl) rfl rfl rfl rfl ?_
  refine hp_il (pc' := 274) (j := 4) (Or.inl ⟨rfl, rfl⟩) rfl ?_
  refine hp_d2 (pc' := 275) rfl rfl ?_
  refine hp_ld (pc' := 276) (j := f) ha h4 (by omega) rfl rfl rfl ?_
  refine hp_il (pc' := 277) (j := 3) (Or.inr ⟨3, rfl, rfl, rfl⟩) rfl ?_
  refine hp_sub (pc' := 278) rfl rfl (fun z1 hz1 => ?_)
  have yz1 : z1.toInt = (Mf.1 271 f).toInt - x3.toInt := by rw [hz1, ax_sub (by omega) (by omega)]
  refine hp_st (pc' := 279) (j := f) ha h4 (by omega) rfl rfl rfl (fun M2 eM2 gM2 => ?_)
  have hM2 := mo_w hMf (by decide) eM2 gM2
  refine hp_al (pc' := 280) (j := 0) (Or.inr ⟨0, rfl, rfl, rfl⟩) rfl ?_
  refine hp_gr (pc' := 283) ha (hM2.1 244 35 271 rfl) rfl rfl rfl rfl ?_
  refine hp_il (pc' := 284) (j := 2) (Or.inr ⟨2, rfl, rfl, rfl⟩) rfl ?_
  refine hp_d2 (pc' := 285) rfl rfl ?_
  refine hp_ld (pc' := 286) (j := en) ha h2 (by omega) rfl rfl rfl ?_
  refine hp_il (pc' := 287) (j := 3) (Or.inr ⟨3, rfl, rfl, rfl⟩) rfl ?_
  refine hp_add (pc' := 288) rfl rfl (fun z3 hz3 => ?_)
  have k1 : M2.1 271 en = Mf.1 271 en := by rw [eM2, hp_up_ne (fun q => hne q.2.symm)]
  have yz3 : z3.toInt = (M2.1 271 en).toInt + x3.toInt := by rw [hz3, k1, ax_add (by omega) (by omega)]
  refine hp_st (pc' := 289) (j := en) ha h2 (by omega) rfl rfl rfl (fun M4 eM4 gM4 => ?_)
  have hM4 := mo_w hM2 (by decide) eM4 gM4
  refine hp_il (pc' := 290) (j := 1) (Or.inr ⟨1, rfl, rfl, rfl⟩) rfl ?_
  refine hp_il (pc' := 291) (j := 3) (Or.inr ⟨3, rfl, rfl, rfl⟩) rfl ?_
  refine hp_al (pc' := 292) (j := 0) (Or.inr ⟨0, rfl, rfl, rfl⟩) rfl ?_
  refine hp_gr (pc' := 295) ha (hM4.1 244 36 272 rfl) rfl rfl rfl rfl ?_
  refine hp_il (pc' := 296) (j := 2) (Or.inr ⟨2, rfl, rfl, rfl⟩) rfl ?_
  refine hp_ld (pc' := 297) (j := en) ha h2 (by omega) rfl rfl rfl ?_
  refine hp_mul (pc' := 298) rfl rfl (fun z5 hz5 => ?_)
  refine hp_sub (pc' := 299) rfl rfl (fun z6 hz6 => ?_)
  refine hp_is (pc' := 300) (j := 1) (ls' := [some (.ref 244), some (.int z6), some (.int x2), some (.int x3), some (.int x4), o5]) (Or.inr ⟨1, rfl, rfl, rfl⟩) (by simp) rfl ?_
  refine hp_il (pc' := 301) (j := 2) (Or.inr ⟨2, rfl, rfl, rfl⟩) rfl ?_
  refine hp_is (pc' := 303) (j := 4) (ls' := [some (.ref 244), some (.int z6), some (.int x2), some (.int x3), some (.int x2), o5]) (Or.inl ⟨rfl, rfl⟩) (by simp) rfl ?_
  have k2 : ∀ q j, q ≠ 271 → M4.1 q j = Mf.1 q j := fun q j hq => by rw [eM4, hp_up_ne (fun w => hq w.1), eM2, hp_up_ne (fun w => hq w.1)]
  have eF : mo_F M4 = mo_F Mf := mo_Feq (fun j => k2 272 j (by omega))
  have eP : mo_P M4 = mo_P Mf := mo_Peq (fun j => k2 273 j (by omega))
  obtain ⟨V, v1, v2, v3⟩ := hV
  have hW : mo_W n V M4 f x3.toInt := by
    unfold mo_W mo_room
    rw [eF, eP]
    refine ⟨hP, fun x hx => ?_⟩
    have q := v3 x hx
    unfold mo_room at q
    rw [k2 270 _ (by omega), k2 268 _ (by omega), k2 270 _ (by omega)]
    exact q
  refine mo_303 (kr := kr) (f0 := f) (V := V) (Ms := M4) ha hn12 hx1 (by rw [eP]; exact hk) (by rw [eF, eP]; exact hE) hW (kr en + 1) en _ _ M4 (Nat.lt_succ_self _) v1 h2 ⟨hM4.1, rfl, fun _ _ _ => rfl, fun j hj => by rw [k2 270 j (by omega)]; exact hH.2.1 j hj, fun _ _ _ _ => Or.inl rfl, fun _ _ _ _ => ⟨fun _ => rfl, fun _ => rfl⟩⟩ (fun x4 o5 M g hJ => ?_)
  have hA := mo_after hH hE hen hf hne hx1 hxe hxf eM2 gM2 yz1 eM4 gM4 yz3 hJ
  refine hp_go (t := 113) rfl rfl ?_
  exact kk _ _ _ _ _ M hA.1 hA.2
theorem mo_Vm {M : rx_M} {en f : Nat} {b c : Int} (h : mo_V n M en f b) (hc : c ≤ b) : mo_V n M en f c := by
  obtain ⟨V, v1, v2, v3⟩ := h
  refine ⟨V, v1, v2, fun x hx => ?_⟩
  obtain ⟨w1, w2, w3⟩ := v3 x hx
  exact ⟨w1, w2, w3.elim Or.inl (fun q => Or.inr ⟨q.1, q.2.1, mo_rm2 q.2.2 hc⟩)⟩
theorem mo_245 (ha : a.1 = rx_cells) (hn12 : n ≤ 12) {Mf : rx_M} (hH : mo_H n M0 Mf) (hE : gw_E n (mo_R Mf) (mo_r Mf) (mo_F Mf) (mo_P Mf)) {kr : Nat → Nat} (hk : ∀ f, f < n → 0 ≤ mo_P Mf f → kr (gw_pr (mo_P Mf) f) < kr f) {x1 x2 x3 x4 : Int32} {o5 : Option Value} {en f : Nat} (h2 : x2.toInt = (en : Int)) (h4 : x4.toInt = (f : Int)) (hen : en < n) (hf : f < n) (hP : mo_P Mf f < 0) (hF : mo_F Mf f ≠ 10000) (hle : (Mf.1 271 en).toInt < 0) (hx1 : 1 ≤ x3.toInt) (hxe : x3.toInt ≤ -(Mf.1 271 en).toInt) (hV : mo_V n Mf en f x3.toInt) (kk : ∀ x1 x2 o3 o4 o5 M, mo_H n M0 M → mo_S M n < mo_S Mf n → hp X d 216 113 [some (.ref 244), some (.int x1), some (.int x2), o3, o4, o5] [] a M P) : hp X d 216 245 [some (.ref 244), some (.int x1), some (.int x2), some (.int x3), some (.int x4), o5] [] a Mf P := by
  have hMf := hH.1
  have hr : 0 < (Mf.1 271 f).toInt := (hE.1.2.1 f hf hP hF).1
  have hne : f ≠ en := fun q => by
    rw [q] at hr
    omega
  refine hp_al (pc' := 246) (j := 0) (Or.inr ⟨0, rfl, rfl, rfl⟩) rfl ?_
  refine hp_gr (pc' := 249) ha (hMf.1 244 35 271 rfl) rfl rfl rfl rfl ?_
  refine hp_il (pc' := 251) (j := 4) (Or.inl ⟨rfl, rfl⟩) rfl ?_
  refine hp_ld (pc' := 252) (j := f) ha h4 (by omega) rfl rfl rfl ?_
  refine hp_il (pc' := 253) (j := 3) (Or.inr ⟨3, rfl, rfl, rfl⟩) rfl ?_
  refine hp_ige (t := 266) (pc' := 256) rfl rfl rfl (fun c1 => ?_) (fun c1 => ?_)
  · refine hp_il (pc' := 267) (j := 3) (Or.inr ⟨3, rfl, rfl, rfl⟩) rfl ?_
    refine hp_is (pc' := 268) (j := 3) (ls' := [some (.ref 244), some (.int x1), some (.int x2), some (.int x3), some (.int x4), o5]) (Or.inr ⟨3, rfl, rfl, rfl⟩) (by simp) rfl ?_
    exact mo_268 ha hn12 hH hE hk h2 h4 hen hf hne hP (by omega) (by omega) (by omega) (mo_Vm hV (by omega)) kk
  · refine hp_al (pc' := 257) (j := 0) (Or.inr ⟨0, rfl, rfl, rfl⟩) rfl ?_
    refine hp_gr (pc' := 260) ha (hMf.1 244 35 271 rfl) rfl rfl rfl rfl ?_
    refine hp_il (pc' := 262) (j := 4) (Or.inl ⟨rfl, rfl⟩) rfl ?_
    refine hp_ld (pc' := 263) (j := f) ha h4 (by omega) rfl rfl rfl ?_
    refine hp_go (t := 267) rfl rfl ?_
    refine hp_is (pc' := 268) (j := 3) (ls' := [some (.ref 244), some (.int x1), some (.int x2), some (.int (Mf.1 271 f)), some (.int x4), o5]) (Or.inr ⟨3, rfl, rfl, rfl⟩) (by simp) rfl ?_
    exact mo_268 ha hn12 hH hE hk h2 h4 hen hf hne hP (by omega) (by omega) (by omega) (mo_Vm hV (by omega)) kk
theorem mo_188 (ha : a.1 = rx_cells) (hn12 : n ≤ 12) {Mf : rx_M} (hH : mo_H n M0 Mf) (hE : gw_E n (mo_R Mf) (mo_r Mf) (mo_F Mf) (mo_P Mf)) {x1 x2 x3 : Int32} {o4 o5 : Option Value} {en : Nat} (h2 : x2.toInt = (en : Int)) (hen : en < n) (hFe : mo_F Mf en ≠ 10000) (hle : (Mf.1 271 en).toInt < 0) (kk : ∀ x1 x2 o3 o4 o5 M, mo_H n M0 M → mo_S M n < mo_S Mf n → hp X (d + 1) 216 113 [some (.ref 244), some (.int x1), some (.int x2), o3, o4, o5] [] a M P) : hp X (d + 1) 216 188 [some (.ref 244), some (.int x1), some (.int x2), some (.int x3), o4, o5] [] a Mf P := by
  have hMf := hH.1
  refine hp_al (pc' := 189) (j := 0) (Or.inr ⟨0, rfl, rfl, rfl⟩) rfl ?_
  refine hp_gr (pc' := 192) ha (hMf.1 244 35 271 rfl) rfl rfl rfl rfl ?_
  refine hp_il (pc' := 193) (j := 2) (Or.inr ⟨2, rfl, rfl, rfl⟩) rfl ?_
  refine hp_ld (pc' := 194) (j := en) ha h2 (by omega) rfl rfl rfl ?_
  refine hp_neg (pc' := 195) rfl rfl (fun z1 hz1 => ?_)
  have yz1 : z1.toInt = -(Mf.1 271 en).toInt := mo_neg (hH.2.2.1 en hen) hz1
  refine hp_is (pc' := 196) (j := 3) (ls' := [some (.ref 244), some (.int x1), some (.int x2), some (.int z1), o4, o5]) (Or.inr ⟨3, rfl, rfl, rfl⟩) (by simp) rfl ?_
  refine hp_il (pc' := 197) (j := 2) (Or.inr ⟨2, rfl, rfl, rfl⟩) rfl ?_
  refine hp_is (pc' := 199) (j := 4) (ls' := [some (.ref 244), some (.int x1), some (.int x2), some (.int z1), some (.int x2), o5]) (Or.inl ⟨rfl, rfl⟩) (by simp) rfl ?_
  obtain ⟨kr, hk⟩ := hE.1.2.2
  refine mo_199 ha hn12 hMf hE hk hH.2.1 (en := en) (lim := z1.toInt) (kr en + 1) en _ _ (Nat.lt_succ_self _) hen hFe h2 (by omega) (Int.le_refl _) ⟨fun x => x = en, rfl, rfl, fun x hx => ⟨by rw [hx]; exact hen, by rw [hx]; exact hFe, Or.inl hx⟩⟩ (fun f x3 x4 hf hF h4 hP hx1 hxl hV => ?_)
  exact mo_245 ha hn12 hH hE hk h2 h4 hen hf hP hF hle hx1 (by omega) hV kk
theorem mo_113 (hn : (M0.1 244 1).toInt = (n : Int)) (hn12 : n ≤ 12) : ∀ (m : Nat) (x1 x2 : Int32) (o3 o4 o5 : Option Value) (M : rx_M) , mo_S M n < m → mo_H n M0 M → (∀ x1 x2 o3 o4 o5 M, mo_inv M0 M → hp X (d + 1) 216 392 [some (.ref 244), some (.int x1), some (.int x2), o3, o4, o5] [] a M P) → a.1 = rx_cells → hp X (d + 1) 216 113 [some (.ref 244), some (.int x1), some (.int x2), o3, o4, o5] [] a M P := by
  intro m
  induction m with
  | zero =>
    intro x1 x2 o3 o4 o5 M hm hH kk ha
    exact absurd hm (Nat.not_lt_zero _)
  | succ m ih0 =>
    intro x1 x2 o3 o4 o5 M hm hH kk ha
    have ih := fun x1 x2 o3 o4 o5 M h1 h2 h3 => ih0 x1 x2 o3 o4 o5 M h1 h2 h3 ha
    obtain ⟨p, hp0⟩ := hH.2.2.2
    have hM := hH.1
    refine hp_il (pc' := 114) (j := 2) (Or.inr ⟨2, rfl, rfl, rfl⟩) rfl ?_
    refine hp_zlt (t := 392) (pc' := 117) rfl rfl rfl (fun c1 => ?_) (fun c1 => ?_)
    · exact kk _ _ _ _ _ _ hH.1
    · refine hp_al (pc' := 118) (j := 0) (Or.inr ⟨0, rfl, rfl, rfl⟩) rfl ?_
      refine hp_cv (Q := fw_Q n a M) (pc' := 121) (e := d) (vs := []) (r := []) ha rfl rfl rfl rfl rfl rfl rfl rfl (fw_ok ha (mo_n hH.1 hn) hn12 hp0 ⟨hH.1.1, rfl, fun _ _ _ => rfl, hH.1.2.2.2⟩) (fun o ho => ?_)
      obtain ⟨o1, o2, Mf⟩ := o
      obtain ⟨q1, q2, hw, hE⟩ := ho
      dsimp only at q1 q2 hw hE
      subst q1 q2
      refine ⟨_, rfl, ?_⟩
      show hp X (d + 1) 216 121 [some (.ref 244), some (.int x1), some (.int x2), o3, o4, o5] [] o2 Mf P
      have hM := mo_f hH.1 hw
      have eR : mo_R Mf = mo_R M := mo_Req (fun q j hq => hw.2.2.1 q j (by omega))
      have er : mo_r Mf = mo_r M := mo_req (fun j => hw.2.2.1 271 j (by omega))
      have hHf : mo_H n M0 Mf := ⟨hM, fun j hj => by rw [hw.2.2.1 270 j (by omega)]; exact hH.2.1 j hj, fun j hj => by rw [hw.2.2.1 271 j (by omega)]; exact hH.2.2.1 j hj, p, by rw [eR]; exact hp0⟩
      have hE2 : gw_E n (mo_R Mf) (mo_r Mf) (mo_F Mf) (mo_P Mf) := by rw [eR, er]; exact hE
      have eS : mo_S Mf n = mo_S M n := mo_Se n (fun j _ => hw.2.2.1 271 j (by omega))
      refine hp_ic (pc' := 122) (x := (-1)) rfl rfl rfl ?_
      refine hp_is (pc' := 123) (j := 2) (ls' := [some (.ref 244), some (.int x1), some (.int (-1 : Int32)), o3, o4, o5]) (Or.inr ⟨2, rfl, rfl, rfl⟩) (by simp) rfl ?_
      refine hp_ic (pc' := 124) (x := 0) rfl rfl rfl ?_
      refine hp_is (pc' := 125) (j := 3) (ls' := [some (.ref 244), some (.int x1), some (.int (-1 : Int32)), some (.int (0 : Int32)), o4, o5]) (Or.inr ⟨3, rfl, rfl, rfl⟩) (by simp) rfl ?_
      refine mo_125 ha hn hn12 hM n 0 _ _ (by omega) rfl (mo_e1 rfl) (fun y z he => ?_)
      refine hp_il (pc' := 182) (j := 2) (Or.inr ⟨2, rfl, rfl, rfl⟩) rfl ?_
      refine hp_zge (t := 188) (pc' := 185) rfl rfl rfl (fun c61 => ?_) (fun c61 => ?_)
      · rcases he with q | ⟨en, q1, q2, q3, q4⟩
        · exfalso
          omega
        · exact mo_188 ha hn12 hHf hE2 q1 q2 (fun q => by
            have q5 : mo_F Mf en = (Mf.1 272 en).toInt := rfl
            omega) q3 (fun x1 x2 o3 o4 o5 M hH9 hS9 => ih x1 x2 o3 o4 o5 M (by omega) hH9 kk)
      · refine hp_go (t := 113) rfl rfl ?_
        refine hp_il (pc' := 114) (j := 2) (Or.inr ⟨2, rfl, rfl, rfl⟩) rfl ?_
        refine hp_zlt (t := 392) (pc' := 117) rfl rfl rfl (fun c62 => ?_) (fun c62 => ?_)
        · exact kk _ _ _ _ _ _ hM
        · exfalso
          omega
noncomputable def mo_Q (a : rx_K) (M0 : rx_M) (o : rx_O) : Prop := ∃ x : Int32, o.1 = some (.int x) ∧ o.2.1 = a ∧ mo_inv M0 o.2.2
theorem mo_18 (ha : a.1 = rx_cells) (hn : (M0.1 244 1).toInt = (n : Int)) (hn12 : n ≤ 12) (hR0 : hp_R M0) (hB : mo_B M0) (h273 : ∀ j, -1 ≤ (M0.1 273 j).toInt ∧ (M0.1 273 j).toInt ≤ 23) {x1 : Int32} : hp X (d + 1) 216 18 [some (.ref 244), some (.int x1), none, none, none, none] [] a M0 (mo_Q a M0) := by
  refine hp_ic (pc' := 19) (x := 0) rfl rfl rfl ?_
  refine hp_is (pc' := 20) (j := 2) (ls' := [some (.ref 244), some (.int x1), some (.int (0 : Int32)), none, none, none]) (Or.inr ⟨2, rfl, rfl, rfl⟩) (by simp) rfl ?_
  refine mo_20 ha 144 0 _ M0 (by omega) rfl ⟨hR0, rfl, fun _ _ _ => rfl, h273⟩ (fun j hj => absurd hj (Nat.not_lt_zero _)) (fun x M1 hM1 hz => ?_)
  refine hp_ic (pc' := 41) (x := 0) rfl rfl rfl ?_
  refine hp_is (pc' := 42) (j := 2) (ls' := [some (.ref 244), some (.int x1), some (.int (0 : Int32)), none, none, none]) (Or.inr ⟨2, rfl, rfl, rfl⟩) (by simp) rfl ?_
  refine mo_42 ha hn hn12 hB n 0 _ _ M1 (by omega) rfl hM1 ⟨hz, fun g hg => absurd hg (Nat.not_lt_zero _)⟩ (fun x o M2 hM2 hL => ?_)
  refine hp_ic (pc' := 112) (x := 0) rfl rfl rfl ?_
  refine hp_is (pc' := 113) (j := 2) (ls' := [some (.ref 244), some (.int x1), some (.int (0 : Int32)), o, none, none]) (Or.inr ⟨2, rfl, rfl, rfl⟩) (by simp) rfl ?_
  have hH : mo_H n M0 M2 := ⟨hM2, fun j hj => by rw [hL.1 j hj]; exact Int.le_refl _, hL.2, fun _ => 0, fun u v c hu hv hR => by
    rcases hR with ⟨rfl, -⟩ | ⟨-, hR⟩
    · show (0 : Int) ≤ 1 + 0 - 0
      decide
    · rw [hL.1 (12 * v + u) (by omega)] at hR
      exact absurd hR (by decide)⟩
  refine mo_113 hn hn12 (mo_S M2 n + 1) _ _ _ _ _ M2 (Nat.lt_succ_self _) hH (fun x1 x2 o3 o4 o5 M hM => ?_) ha
  refine hp_il (pc' := 393) (j := 1) (Or.inr ⟨1, rfl, rfl, rfl⟩) rfl ?_
  refine hp_ri rfl rfl ?_
  exact ⟨x1, rfl, rfl, hM⟩
end M4
