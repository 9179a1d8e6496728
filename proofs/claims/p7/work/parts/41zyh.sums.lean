/-! a custom's text as the class reads it: atoms, products, sums, choices -/
/-- what a reading from p on, with the stages s open, comes to: o are the bytes that it goes on with -/
noncomputable def pd_r (q0 n : Nat) (M0 : rx_M) (s : List Nat) (o : Int → Prop) (p : Nat) (b : Bool) (p1 : Nat) (b1 : Bool) : Prop := (b = true → b1 = true ∧ p1 = p) ∧ (b = false → (b1 = true ∧ pa_R (pd_g q0 M0) n p s true (p1 : Int)) ∨ (b1 = false ∧ p < p1 ∧ (p1 < n → ¬ o (pd_g q0 M0 p1)) ∧ ∀ r, pa_R (pd_g q0 M0) n p1 s false r → pa_R (pd_g q0 M0) n p s true r))
noncomputable def pd_Q (q0 n : Nat) (M0 : rx_M) (s : List Nat) (o : Int → Prop) (p : Nat) (b : Bool) (a : rx_K) (w : rx_O) : Prop := ∃ (r : Int32) (M1 : rx_M) (p1 : Nat) (b1 : Bool), w = (some (.int r), a, M1) ∧ pd_S q0 n p1 b1 M0 M1 ∧ pd_r q0 n M0 s o p b p1 b1
noncomputable def pd_o1 (c : Int) : Prop := c = 42 ∨ c = 47
noncomputable def pd_o2 (c : Int) : Prop := c = 42 ∨ c = 47 ∨ c = 43 ∨ c = 45
noncomputable def pd_o0 (_ : Int) : Prop := False
section PDR
variable {q0 n p p1 p2 p3 : Nat} {b b1 b2 b3 : Bool} {M0 : rx_M} {s t : List Nat} {o : Int → Prop} {c : Int} {k : Nat}
/-- an operator, and what is behind it -/
theorem pd_rs (h : pd_r q0 n M0 s pd_o0 p b p1 false) (hb : b = false) (hp : p1 < n) (hc : pd_o2 (pd_g q0 M0 p1)) (h2 : pd_r q0 n M0 s o (p1 + 1) false p2 b2) : pd_r q0 n M0 s o p b p2 b2 := by
  subst hb
  have h := (h.2 rfl).resolve_left (fun z => by cases z.1)
  obtain ⟨-, h3, -, h4⟩ := h
  refine ⟨fun z => (by cases z), fun _ => ?_⟩
  have hc : pd_g q0 M0 p1 = 42 ∨ pd_g q0 M0 p1 = 47 ∨ pd_g q0 M0 p1 = 43 ∨ pd_g q0 M0 p1 = 45 := hc
  rcases h2.2 rfl with ⟨e, k⟩ | ⟨e, k1, k2, k3⟩
  · exact Or.inl ⟨e, h4 _ (pa_op hp hc k)⟩
  · exact Or.inr ⟨e, by omega, k2, fun r hr => h4 r (pa_op hp hc (k3 r hr))⟩
theorem pd_rw {o' : Int → Prop} (h : pd_r q0 n M0 s o p b p1 b1) (ho : b1 = false → p1 < n → ¬ o' (pd_g q0 M0 p1)) : pd_r q0 n M0 s o' p b p1 b1 := by
  refine ⟨h.1, fun hb => ?_⟩
  rcases h.2 hb with k | ⟨e, k1, k2, k3⟩
  · exact Or.inl k
  · exact Or.inr ⟨e, k1, ho e, k3⟩
theorem pd_rb (h : pd_r q0 n M0 s o p b p1 false) : b = false := by
  cases b with
  | true => cases (h.1 rfl).1
  | false => rfl
/-- how far a choice has come -/
noncomputable def pd_K (q0 n : Nat) (M0 : rx_M) (p : Nat) (t : List Nat) (k p1 : Nat) (b1 : Bool) : Prop := (b1 = true ∧ pa_R (pd_g q0 M0) n p (0 :: t) true (p1 : Int)) ∨ (b1 = false ∧ p ≤ p1 ∧ ∀ r, pa_R (pd_g q0 M0) n p1 (k :: t) true r → pa_R (pd_g q0 M0) n p (0 :: t) true r)
/-- a sum and a sign that must follow -/
theorem pd_e (h2 : pd_r q0 n M0 (k :: t) pd_o2 p1 b1 p2 b2) (hb : b1 = false) (hc : (c = 41 ∧ k = 4) ∨ (c = 93 ∧ k = 3) ∨ (c = 60 ∧ k = 0) ∨ (c = 63 ∧ k = 1) ∨ (c = 58 ∧ k = 2)) (he : (pd_nx q0 n p2 b2 M0 = c ∧ p3 = p2 + 1 ∧ b3 = b2) ∨ (¬ pd_nx q0 n p2 b2 M0 = c ∧ p3 = p2 ∧ b3 = true)) : (b3 = true ∧ pa_R (pd_g q0 M0) n p1 (k :: t) true (p3 : Int)) ∨ (b3 = false ∧ p3 = p2 + 1 ∧ p1 < p2 ∧ p2 < n ∧ pd_g q0 M0 p2 = c ∧ ∀ r, pa_R (pd_g q0 M0) n p2 (k :: t) false r → pa_R (pd_g q0 M0) n p1 (k :: t) true r) := by
  rcases h2.2 hb with ⟨e, j⟩ | ⟨e, j1, j2, j3⟩
  · subst e
    have z : pd_nx q0 n p2 true M0 = 0 := rfl
    rcases he with ⟨w, -, -⟩ | ⟨-, w1, w2⟩
    · exfalso
      omega
    · rw [w1]
      exact Or.inl ⟨w2, j⟩
  · subst e
    by_cases hp : p2 < n
    · have z : pd_nx q0 n p2 false M0 = pd_g q0 M0 p2 := by
        unfold pd_nx
        rw [cond_false, if_pos hp]
      rw [z] at he
      rcases he with ⟨w, w1, w2⟩ | ⟨w, w1, w2⟩
      · exact Or.inr ⟨w2, w1, j1, hp, w, j3⟩
      · rw [w1]
        have j2 : p2 < n → ¬ (pd_g q0 M0 p2 = 42 ∨ pd_g q0 M0 p2 = 47 ∨ pd_g q0 M0 p2 = 43 ∨ pd_g q0 M0 p2 = 45) := j2
        exact Or.inl ⟨w2, j3 _ (pa_shut j2 (fun _ => by omega))⟩
    · have z : pd_nx q0 n p2 false M0 = 0 := by
        unfold pd_nx
        rw [cond_false, if_neg hp]
      rcases he with ⟨w, -, -⟩ | ⟨w, w1, w2⟩
      · exfalso
        omega
      · rw [w1]
        exact Or.inl ⟨w2, j3 _ (pa_shut (fun v => absurd v hp) (fun v => absurd v hp))⟩
theorem pd_Ks (h : pd_K q0 n M0 p t k p1 b1) (h2 : pd_r q0 n M0 (k :: t) pd_o2 p1 b1 p2 b2) (hc : (c = 60 ∧ k = 0) ∨ (c = 63 ∧ k = 1) ∨ (c = 58 ∧ k = 2)) (he : (pd_nx q0 n p2 b2 M0 = c ∧ p3 = p2 + 1 ∧ b3 = b2) ∨ (¬ pd_nx q0 n p2 b2 M0 = c ∧ p3 = p2 ∧ b3 = true)) : pd_K q0 n M0 p t (k + 1) p3 b3 := by
  rcases h with ⟨e, j⟩ | ⟨e, j1, j2⟩
  · obtain ⟨k1, k2⟩ := h2.1 e
    subst k1
    have z : pd_nx q0 n p2 true M0 = 0 := rfl
    rcases he with ⟨w, -, -⟩ | ⟨-, w1, w2⟩
    · exfalso
      omega
    · rw [w1, k2]
      exact Or.inl ⟨w2, j⟩
  · rcases pd_e h2 e (by omega) he with ⟨w1, w2⟩ | ⟨w1, w2, w3, w4, w5, w6⟩
    · exact Or.inl ⟨w1, j2 _ w2⟩
    · refine Or.inr ⟨w1, by omega, fun r hr => j2 r (w6 r (pa_next w4 (by omega) ?_))⟩
      rw [← w2]
      exact hr
theorem pd_Kf (h : pd_K q0 n M0 p t 3 p1 b1) (h2 : pd_r q0 n M0 (3 :: t) pd_o2 p1 b1 p2 b2) (he : (pd_nx q0 n p2 b2 M0 = 93 ∧ p3 = p2 + 1 ∧ b3 = b2) ∨ (¬ pd_nx q0 n p2 b2 M0 = 93 ∧ p3 = p2 ∧ b3 = true)) : (b3 = true ∧ pa_R (pd_g q0 M0) n p (0 :: t) true (p3 : Int)) ∨ (b3 = false ∧ p < p3 ∧ ∀ r, pa_R (pd_g q0 M0) n p3 t false r → pa_R (pd_g q0 M0) n p (0 :: t) true r) := by
  rcases h with ⟨e, j⟩ | ⟨e, j1, j2⟩
  · obtain ⟨k1, k2⟩ := h2.1 e
    subst k1
    have z : pd_nx q0 n p2 true M0 = 0 := rfl
    rcases he with ⟨w, -, -⟩ | ⟨-, w1, w2⟩
    · exfalso
      omega
    · rw [w1, k2]
      exact Or.inl ⟨w2, j⟩
  · rcases pd_e h2 e (by omega) he with ⟨w1, w2⟩ | ⟨w1, w2, w3, w4, w5, w6⟩
    · exact Or.inl ⟨w1, j2 _ w2⟩
    · refine Or.inr ⟨w1, by omega, fun r hr => j2 r (w6 r (pa_close w4 (by omega) ?_))⟩
      rw [← w2]
      exact hr
theorem pd_x {M1 : rx_M} (h : (pd_nx q0 n p2 b2 M0 = c ∧ pd_S q0 n (p2 + 1) b2 M0 M1) ∨ (¬ pd_nx q0 n p2 b2 M0 = c ∧ pd_S q0 n p2 true M0 M1)) : ∃ p3 b3, pd_S q0 n p3 b3 M0 M1 ∧ ((pd_nx q0 n p2 b2 M0 = c ∧ p3 = p2 + 1 ∧ b3 = b2) ∨ (¬ pd_nx q0 n p2 b2 M0 = c ∧ p3 = p2 ∧ b3 = true)) := by
  rcases h with ⟨h1, h2⟩ | ⟨h1, h2⟩
  · exact ⟨p2 + 1, b2, h2, Or.inl ⟨h1, rfl, rfl⟩⟩
  · exact ⟨p2, true, h2, Or.inr ⟨h1, rfl, rfl⟩⟩
end PDR
section PDM
variable {X : Nat × (Nat → Int32)} {d q0 n : Nat} {M0 : rx_M}
/-- the method i reads from any place: an atom, a product, a sum -/
noncomputable def pd_H (X : Nat × (Nat → Int32)) (q0 n : Nat) (M0 : rx_M) (i k d : Nat) (o : Int → Prop) (s : List Nat) : Prop := ∀ (p : Nat) (b : Bool) (x1 : Int32) (a : rx_K) (M : rx_M), a.1 = rx_cells → pd_S q0 n p b M0 M → x1.toInt = (s.length : Int) → hp X d i 0 ([some (.ref 15), some (.int x1)] ++ List.replicate k none) [] a M (pd_Q q0 n M0 s o p b a)
/-- a choice, from behind its bracket on -/
noncomputable def pd_C (X : Nat × (Nat → Int32)) (q0 n : Nat) (M0 : rx_M) (d : Nat) (t : List Nat) : Prop := ∀ (p : Nat) (x1 : Int32) (a : rx_K) (M : rx_M), a.1 = rx_cells → pd_S q0 n p false M0 M → x1.toInt = (t.length : Int) + 1 → hp X d 74 0 [some (.ref 15), some (.int x1), none, none, none, none] [] a M (fun w => ∃ (r : Int32) (M1 : rx_M) (p1 : Nat) (b1 : Bool), w = (some (.int r), a, M1) ∧ pd_S q0 n p1 b1 M0 M1 ∧ ((b1 = true ∧ pa_R (pd_g q0 M0) n p (0 :: t) true (p1 : Int)) ∨ (b1 = false ∧ p < p1 ∧ ∀ r, pa_R (pd_g q0 M0) n p1 t false r → pa_R (pd_g q0 M0) n p (0 :: t) true r)))
theorem ch_ok {t : List Nat} (h0 : pd_H X q0 n M0 70 4 (d + 1) pd_o2 (0 :: t)) (h1 : pd_H X q0 n M0 70 4 (d + 1) pd_o2 (1 :: t)) (h2 : pd_H X q0 n M0 70 4 (d + 1) pd_o2 (2 :: t)) (h3 : pd_H X q0 n M0 70 4 (d + 1) pd_o2 (3 :: t)) : pd_C X q0 n M0 (d + 2) t := by
  intro p x1 a M ha hS hx
  have hx1 : x1.toInt = (((0 :: t).length : Nat) : Int) := by
    rw [hx, List.length_cons]
    omega
  have K0 : pd_K q0 n M0 p t 0 p false := Or.inr ⟨rfl, Nat.le_refl _, fun r hr => hr⟩
  have EX : ∀ {p : Nat} {b : Bool} {M : rx_M} {c : Int32}, pd_S q0 n p b M0 M → 0 < c.toInt → hp X (d + 1) 69 0 [some (.ref 15), some (.int c)] [] a M (fun o => ∃ M1 : rx_M, o = (none, a, M1) ∧ ((pd_nx q0 n p b M0 = c.toInt ∧ pd_S q0 n (p + 1) b M0 M1) ∨ (¬ pd_nx q0 n p b M0 = c.toInt ∧ pd_S q0 n p true M0 M1))) := fun hS hc => ex_ok ha hS hc
  refine hp_al (pc' := 1) (j := 0) (Or.inr ⟨0, rfl, rfl, rfl⟩) rfl ?_
  refine hp_il (pc' := 2) (j := 1) (Or.inr ⟨1, rfl, rfl, rfl⟩) rfl ?_
  refine hp_cx (q := 15) (Q := pd_Q q0 n M0 (0 :: t) pd_o2 p false a) (pc' := 5) (e := d + 1) (vs := [.int x1]) (r := []) ha rfl rfl rfl rfl rfl rfl rfl rfl (h0 _ _ x1 a M ha hS hx1) (fun o ho => ?_)
  obtain ⟨v0, N0, p0, b0, eo, hN0, r0⟩ := ho
  subst eo
  refine ⟨_, rfl, ?_⟩
  show hp X (d + 2) 74 5 [some (.ref 15), some (.int x1), none, none, none, none] [.int v0] a N0 _
  refine hp_is (pc' := 6) (j := 2) (ls' := [some (.ref 15), some (.int x1), some (.int v0), none, none, none]) (Or.inr ⟨2, rfl, rfl, rfl⟩) (by simp) rfl ?_
  refine hp_al (pc' := 7) (j := 0) (Or.inr ⟨0, rfl, rfl, rfl⟩) rfl ?_
  refine hp_bi (pc' := 9) (x := 60) rfl rfl rfl ?_
  refine hp_cx (q := 15) (Q := fun o => ∃ M1 : rx_M, o = (none, a, M1) ∧ ((pd_nx q0 n p0 b0 M0 = (60 : Int32).toInt ∧ pd_S q0 n (p0 + 1) b0 M0 M1) ∨ (¬ pd_nx q0 n p0 b0 M0 = (60 : Int32).toInt ∧ pd_S q0 n p0 true M0 M1))) (pc' := 12) (e := d + 1) (vs := [.int 60]) (r := []) ha rfl rfl rfl rfl rfl rfl rfl rfl (EX hN0 (by decide)) (fun o ho => ?_)
  obtain ⟨L0, eo, ho⟩ := ho
  subst eo
  obtain ⟨p0x, b0x, hL0, ex0⟩ := pd_x ho
  refine ⟨_, rfl, ?_⟩
  have K1 := pd_Ks (c := 60) K0 r0 (by omega) ex0
  show hp X (d + 2) 74 12 [some (.ref 15), some (.int x1), some (.int v0), none, none, none] [] a L0 _
  refine hp_al (pc' := 13) (j := 0) (Or.inr ⟨0, rfl, rfl, rfl⟩) rfl ?_
  refine hp_il (pc' := 14) (j := 1) (Or.inr ⟨1, rfl, rfl, rfl⟩) rfl ?_
  refine hp_cx (q := 15) (Q := pd_Q q0 n M0 (1 :: t) pd_o2 p0x b0x a) (pc' := 17) (e := d + 1) (vs := [.int x1]) (r := []) ha rfl rfl rfl rfl rfl rfl rfl rfl (h1 _ _ x1 a L0 ha hL0 hx1) (fun o ho => ?_)
  obtain ⟨v1, N1, p1, b1, eo, hN1, r1⟩ := ho
  subst eo
  refine ⟨_, rfl, ?_⟩
  show hp X (d + 2) 74 17 [some (.ref 15), some (.int x1), some (.int v0), none, none, none] [.int v1] a N1 _
  refine hp_is (pc' := 18) (j := 3) (ls' := [some (.ref 15), some (.int x1), some (.int v0), some (.int v1), none, none]) (Or.inr ⟨3, rfl, rfl, rfl⟩) (by simp) rfl ?_
  refine hp_al (pc' := 19) (j := 0) (Or.inr ⟨0, rfl, rfl, rfl⟩) rfl ?_
  refine hp_bi (pc' := 21) (x := 63) rfl rfl rfl ?_
  refine hp_cx (q := 15) (Q := fun o => ∃ M1 : rx_M, o = (none, a, M1) ∧ ((pd_nx q0 n p1 b1 M0 = (63 : Int32).toInt ∧ pd_S q0 n (p1 + 1) b1 M0 M1) ∨ (¬ pd_nx q0 n p1 b1 M0 = (63 : Int32).toInt ∧ pd_S q0 n p1 true M0 M1))) (pc' := 24) (e := d + 1) (vs := [.int 63]) (r := []) ha rfl rfl rfl rfl rfl rfl rfl rfl (EX hN1 (by decide)) (fun o ho => ?_)
  obtain ⟨L1, eo, ho⟩ := ho
  subst eo
  obtain ⟨p1x, b1x, hL1, ex1⟩ := pd_x ho
  refine ⟨_, rfl, ?_⟩
  have K2 := pd_Ks (c := 63) K1 r1 (by omega) ex1
  show hp X (d + 2) 74 24 [some (.ref 15), some (.int x1), some (.int v0), some (.int v1), none, none] [] a L1 _
  refine hp_al (pc' := 25) (j := 0) (Or.inr ⟨0, rfl, rfl, rfl⟩) rfl ?_
  refine hp_il (pc' := 26) (j := 1) (Or.inr ⟨1, rfl, rfl, rfl⟩) rfl ?_
  refine hp_cx (q := 15) (Q := pd_Q q0 n M0 (2 :: t) pd_o2 p1x b1x a) (pc' := 29) (e := d + 1) (vs := [.int x1]) (r := []) ha rfl rfl rfl rfl rfl rfl rfl rfl (h2 _ _ x1 a L1 ha hL1 hx1) (fun o ho => ?_)
  obtain ⟨v2, N2, p2, b2, eo, hN2, r2⟩ := ho
  subst eo
  refine ⟨_, rfl, ?_⟩
  show hp X (d + 2) 74 29 [some (.ref 15), some (.int x1), some (.int v0), some (.int v1), none, none] [.int v2] a N2 _
  refine hp_is (pc' := 31) (j := 4) (ls' := [some (.ref 15), some (.int x1), some (.int v0), some (.int v1), some (.int v2), none]) (Or.inl ⟨rfl, rfl⟩) (by simp) rfl ?_
  refine hp_al (pc' := 32) (j := 0) (Or.inr ⟨0, rfl, rfl, rfl⟩) rfl ?_
  refine hp_bi (pc' := 34) (x := 58) rfl rfl rfl ?_
  refine hp_cx (q := 15) (Q := fun o => ∃ M1 : rx_M, o = (none, a, M1) ∧ ((pd_nx q0 n p2 b2 M0 = (58 : Int32).toInt ∧ pd_S q0 n (p2 + 1) b2 M0 M1) ∨ (¬ pd_nx q0 n p2 b2 M0 = (58 : Int32).toInt ∧ pd_S q0 n p2 true M0 M1))) (pc' := 37) (e := d + 1) (vs := [.int 58]) (r := []) ha rfl rfl rfl rfl rfl rfl rfl rfl (EX hN2 (by decide)) (fun o ho => ?_)
  obtain ⟨L2, eo, ho⟩ := ho
  subst eo
  obtain ⟨p2x, b2x, hL2, ex2⟩ := pd_x ho
  refine ⟨_, rfl, ?_⟩
  have K3 := pd_Ks (c := 58) K2 r2 (by omega) ex2
  show hp X (d + 2) 74 37 [some (.ref 15), some (.int x1), some (.int v0), some (.int v1), some (.int v2), none] [] a L2 _
  refine hp_al (pc' := 38) (j := 0) (Or.inr ⟨0, rfl, rfl, rfl⟩) rfl ?_
  refine hp_il (pc' := 39) (j := 1) (Or.inr ⟨1, rfl, rfl, rfl⟩) rfl ?_
  refine hp_cx (q := 15) (Q := pd_Q q0 n M0 (3 :: t) pd_o2 p2x b2x a) (pc' := 42) (e := d + 1) (vs := [.int x1]) (r := []) ha rfl rfl rfl rfl rfl rfl rfl rfl (h3 _ _ x1 a L2 ha hL2 hx1) (fun o ho => ?_)
  obtain ⟨v3, N3, p3, b3, eo, hN3, r3⟩ := ho
  subst eo
  refine ⟨_, rfl, ?_⟩
  show hp X (d + 2) 74 42 [some (.ref 15), some (.int x1), some (.int v0), some (.int v1), some (.int v2), none] [.int v3] a N3 _
  refine hp_is (pc' := 44) (j := 5) (ls' := [some (.ref 15), some (.int x1), some (.int v0), some (.int v1), some (.int v2), some (.int v3)]) (Or.inl ⟨rfl, rfl⟩) (by simp) rfl ?_
  refine hp_al (pc' := 45) (j := 0) (Or.inr ⟨0, rfl, rfl, rfl⟩) rfl ?_
  refine hp_bi (pc' := 47) (x := 93) rfl rfl rfl ?_
  refine hp_cx (q := 15) (Q := fun o => ∃ M1 : rx_M, o = (none, a, M1) ∧ ((pd_nx q0 n p3 b3 M0 = (93 : Int32).toInt ∧ pd_S q0 n (p3 + 1) b3 M0 M1) ∨ (¬ pd_nx q0 n p3 b3 M0 = (93 : Int32).toInt ∧ pd_S q0 n p3 true M0 M1))) (pc' := 50) (e := d + 1) (vs := [.int 93]) (r := []) ha rfl rfl rfl rfl rfl rfl rfl rfl (EX hN3 (by decide)) (fun o ho => ?_)
  obtain ⟨L3, eo, ho⟩ := ho
  subst eo
  obtain ⟨p3x, b3x, hL3, ex3⟩ := pd_x ho
  refine ⟨_, rfl, ?_⟩
  have KF := pd_Kf K3 r3 ex3
  show hp X (d + 2) 74 50 [some (.ref 15), some (.int x1), some (.int v0), some (.int v1), some (.int v2), some (.int v3)] [] a L3 _
  refine hp_il (pc' := 51) (j := 2) (Or.inr ⟨2, rfl, rfl, rfl⟩) rfl ?_
  refine hp_il (pc' := 52) (j := 3) (Or.inr ⟨3, rfl, rfl, rfl⟩) rfl ?_
  refine hp_ige (t := 60) (pc' := 55) rfl rfl rfl (fun c1 => ?_) (fun c1 => ?_)
  · refine hp_il (pc' := 62) (j := 5) (Or.inl ⟨rfl, rfl⟩) rfl ?_
    refine hp_ri rfl rfl ?_
    exact ⟨_, _, _, _, rfl, hL3, KF⟩
  · refine hp_il (pc' := 57) (j := 4) (Or.inl ⟨rfl, rfl⟩) rfl ?_
    refine hp_go (t := 62) rfl rfl ?_
    refine hp_ri rfl rfl ?_
    exact ⟨_, _, _, _, rfl, hL3, KF⟩
theorem dv_ok {x1 x2 : Int32} {a : rx_K} {M : rx_M} : hp X d 72 0 [some (.int x1), some (.int x2)] [] a M (fun o => ∃ r : Int32, o = (some (.int r), a, M)) := by
  refine hp_il (pc' := 1) (j := 1) (Or.inr ⟨1, rfl, rfl, rfl⟩) rfl ?_
  refine hp_zne (t := 8) (pc' := 4) rfl rfl rfl (fun c1 => ?_) (fun c1 => ?_)
  · refine hp_il (pc' := 9) (j := 0) (Or.inr ⟨0, rfl, rfl, rfl⟩) rfl ?_
    refine hp_il (pc' := 10) (j := 1) (Or.inr ⟨1, rfl, rfl, rfl⟩) rfl ?_
    have hy : ¬ x2 = 0 := fun w => c1 (by rw [w]; rfl)
    refine hp_s (pc' := 11) (ls' := [some (.int x1), some (.int x2)]) (st' := [.int (x1 / x2)]) (a' := a) (M' := M) ((hp_q (ins := .idiv) rfl).trans ?_) ?_
    · show (if x2 = 0 then none else rx_nx (10 + 1) _ _ _ _) = _
      rw [if_neg hy]
      rfl
    refine hp_ri rfl rfl ?_
    exact ⟨_, rfl⟩
  · refine hp_ic (pc' := 5) (x := 0) rfl rfl rfl ?_
    refine hp_go (t := 11) rfl rfl ?_
    refine hp_ri rfl rfl ?_
    exact ⟨_, rfl⟩
theorem pd_nz {p : Nat} {b : Bool} (h : ¬ pd_nx q0 n p b M0 = 0) : b = false ∧ p < n ∧ pd_nx q0 n p b M0 = pd_g q0 M0 p := by
  cases b with
  | true => exact absurd rfl h
  | false =>
    by_cases hp : p < n
    · refine ⟨rfl, hp, ?_⟩
      unfold pd_nx
      rw [cond_false, if_pos hp]
    · refine absurd ?_ h
      unfold pd_nx
      rw [cond_false, if_neg hp]
theorem pd_nf {p : Nat} {b : Bool} (hb : b = false) (hp : p < n) : pd_nx q0 n p b M0 = pd_g q0 M0 p := by
  subst hb
  unfold pd_nx
  rw [cond_false, if_pos hp]
theorem pd_r2 {s : List Nat} {p p1 p2 : Nat} {b b2 : Bool} (h : pd_r q0 n M0 s pd_o1 p b p1 false) (hp : p1 < n) (hc : pd_o2 (pd_g q0 M0 p1)) (h2 : pd_r q0 n M0 s pd_o1 (p1 + 1) false p2 b2) : pd_r q0 n M0 s pd_o1 p b p2 b2 := pd_rs (pd_rw h (fun _ _ w => w)) (pd_rb h) hp hc h2
theorem pr_8 {s : List Nat} {p : Nat} {b : Bool} {x1 : Int32} {a : rx_K} (ha : a.1 = rx_cells) (hx : x1.toInt = (s.length : Int)) (hA : pd_H X q0 n M0 73 2 (d + 1) pd_o0 s) : ∀ (N p1 : Nat) (b1 : Bool) (v t : Int32) (tn : Nat) (o4 o5 : Option Value) (M : rx_M), cond b1 0 (n - p1 + 1) < N → pd_S q0 n p1 b1 M0 M → pd_r q0 n M0 s pd_o0 p b p1 b1 → t.toInt = (tn : Int) → (b1 = false → tn ≤ p1) → hp X (d + 2) 71 8 [some (.ref 15), some (.int x1), some (.int v), some (.int t), o4, o5] [] a M (pd_Q q0 n M0 s pd_o1 p b a) := by
  intro N
  induction N with
  | zero =>
    intro p1 b1 v t tn o4 o5 M hN
    exact absurd hN (Nat.not_lt_zero _)
  | succ N ih =>
    intro p1 b1 v t tn o4 o5 M hN hS hr ht ht2
    have zz0 : (0 : Int32).toInt = 0 := rfl
    have zz1 : (1 : Int32).toInt = 1 := rfl
    have zz42 : (42 : Int32).toInt = 42 := rfl
    have zz47 : (47 : Int32).toInt = 47 := rfl
    have s6 := hS.2.2.1
    have s9 := hS.2.2.2.2.2.1
    have s10 := hS.2.2.2.2.2.2
    have K50 : ∀ w4 : Int32, pd_o1 (pd_g q0 M0 p1) → p1 < n → b1 = false → hp X (d + 2) 71 50 [some (.ref 15), some (.int x1), some (.int v), some (.int t), some (.int w4), o5] [] a M (pd_Q q0 n M0 s pd_o1 p b a) := by
      intro w4 hop hpn hb1
      have hN : n - p1 + 1 < N + 1 := by
        rw [hb1] at hN
        exact hN
      have ht2 := ht2 hb1
      refine hp_al (pc' := 51) (j := 0) (Or.inr ⟨0, rfl, rfl, rfl⟩) rfl ?_
      refine hp_dup (pc' := 52) rfl rfl rfl ?_
      refine hp_gi (pc' := 55) (j := 2) (t := 0) ha rfl rfl rfl (by decide) rfl ?_
      refine hp_ic (pc' := 56) (x := 1) rfl rfl rfl ?_
      refine hp_add (pc' := 57) rfl rfl (fun z101 hz101 => ?_)
      have t7 := hS.2.2.2.1
      have yz101 : z101.toInt = ((p1 + 1 : Nat) : Int) := by
        rw [hz101, ax_add (by omega) (by omega), zz1, t7]
        omega
      refine hp_pf (pc' := 60) (j := 2) ha rfl rfl rfl rfl (fun M102 eM102 gM102 => ?_)
      have hM102 := pd_at hS eM102 gM102 yz101 (by omega)
      refine hp_al (pc' := 61) (j := 0) (Or.inr ⟨0, rfl, rfl, rfl⟩) rfl ?_
      refine hp_il (pc' := 62) (j := 1) (Or.inr ⟨1, rfl, rfl, rfl⟩) rfl ?_
      refine hp_cx (q := 15) (Q := pd_Q q0 n M0 s pd_o0 (p1 + 1) b1 a) (pc' := 65) (e := d + 1) (vs := [.int x1]) (r := []) ha rfl rfl rfl rfl rfl rfl rfl rfl (hA _ _ x1 a M102 ha hM102 hx) (fun o ho => ?_)
      obtain ⟨v2, N2, p2, b2, eo, hN2, r2⟩ := ho
      subst eo
      refine ⟨_, rfl, ?_⟩
      show hp X (d + 2) 71 65 [some (.ref 15), some (.int x1), some (.int v), some (.int t), some (.int w4), o5] [.int v2] a N2 _
      refine hp_is (pc' := 67) (j := 5) (ls' := [some (.ref 15), some (.int x1), some (.int v), some (.int t), some (.int w4), some (.int v2)]) (Or.inl ⟨rfl, rfl⟩) (by simp) rfl ?_
      refine hp_il (pc' := 69) (j := 4) (Or.inl ⟨rfl, rfl⟩) rfl ?_
      refine hp_zeq (t := 79) (pc' := 72) rfl rfl rfl (fun c103 => ?_) (fun c103 => ?_)
      · refine hp_il (pc' := 80) (j := 2) (Or.inr ⟨2, rfl, rfl, rfl⟩) rfl ?_
        refine hp_il (pc' := 82) (j := 5) (Or.inl ⟨rfl, rfl⟩) rfl ?_
        refine hp_cs (Q := fun o => ∃ r : Int32, o = (some (.int r), a, N2)) (pc' := 85) (e := d + 1) (vs := [.int v, .int v2]) (r := []) rfl rfl (Or.inl rfl) rfl rfl rfl rfl rfl dv_ok (fun o ho => ?_)
        obtain ⟨v3, eo⟩ := ho
        subst eo
        refine ⟨_, rfl, ?_⟩
        show hp X (d + 2) 71 85 [some (.ref 15), some (.int x1), some (.int v), some (.int t), some (.int w4), some (.int v2)] [.int v3] a N2 _
        refine hp_is (pc' := 86) (j := 2) (ls' := [some (.ref 15), some (.int x1), some (.int v3), some (.int t), some (.int w4), some (.int v2)]) (Or.inr ⟨2, rfl, rfl, rfl⟩) (by simp) rfl ?_
        refine hp_in (pc' := 89) (j := 3) (ls' := [some (.ref 15), some (.int x1), some (.int v3), some (.int (t + Int32.ofInt 1)), some (.int w4), some (.int v2)]) rfl rfl rfl rfl rfl ?_
        refine hp_go (t := 8) rfl rfl ?_
        exact ih p2 b2 _ _ (tn + 1) _ _ N2 (by
          cases b2 with
          | true =>
            show 0 < N
            omega
          | false =>
            have := (r2.2 hb1).resolve_left (fun z => by cases z.1)
            show n - p2 + 1 < N
            omega) hN2 (pd_rs (by rw [← hb1]; exact hr) (pd_rb (by rw [← hb1]; exact hr)) hpn (by have := hop; unfold pd_o1 at this; unfold pd_o2; omega) (by rw [← hb1]; exact r2)) (hp_i1 ht (by omega)) (fun w => by
          have := (r2.2 hb1).resolve_left (fun z => by
            rw [w] at z
            cases z.1)
          omega)
      · refine hp_il (pc' := 73) (j := 2) (Or.inr ⟨2, rfl, rfl, rfl⟩) rfl ?_
        refine hp_il (pc' := 75) (j := 5) (Or.inl ⟨rfl, rfl⟩) rfl ?_
        refine hp_mul (pc' := 76) rfl rfl (fun z104 hz104 => ?_)
        refine hp_go (t := 85) rfl rfl ?_
        refine hp_is (pc' := 86) (j := 2) (ls' := [some (.ref 15), some (.int x1), some (.int z104), some (.int t), some (.int w4), some (.int v2)]) (Or.inr ⟨2, rfl, rfl, rfl⟩) (by simp) rfl ?_
        refine hp_in (pc' := 89) (j := 3) (ls' := [some (.ref 15), some (.int x1), some (.int z104), some (.int (t + Int32.ofInt 1)), some (.int w4), some (.int v2)]) rfl rfl rfl rfl rfl ?_
        refine hp_go (t := 8) rfl rfl ?_
        exact ih p2 b2 _ _ (tn + 1) _ _ N2 (by
          cases b2 with
          | true =>
            show 0 < N
            omega
          | false =>
            have := (r2.2 hb1).resolve_left (fun z => by cases z.1)
            show n - p2 + 1 < N
            omega) hN2 (pd_rs (by rw [← hb1]; exact hr) (pd_rb (by rw [← hb1]; exact hr)) hpn (by have := hop; unfold pd_o1 at this; unfold pd_o2; omega) (by rw [← hb1]; exact r2)) (hp_i1 ht (by omega)) (fun w => by
          have := (r2.2 hb1).resolve_left (fun z => by
            rw [w] at z
            cases z.1)
          omega)
    refine hp_il (pc' := 9) (j := 3) (Or.inr ⟨3, rfl, rfl, rfl⟩) rfl ?_
    refine hp_al (pc' := 10) (j := 0) (Or.inr ⟨0, rfl, rfl, rfl⟩) rfl ?_
    refine hp_gi (pc' := 13) (j := 1) (t := 0) ha rfl rfl rfl (by decide) rfl ?_
    refine hp_ige (t := 92) (pc' := 16) rfl rfl rfl (fun c1 => ?_) (fun c1 => ?_)
    · refine hp_il (pc' := 93) (j := 2) (Or.inr ⟨2, rfl, rfl, rfl⟩) rfl ?_
      refine hp_ri rfl rfl ?_
      exact ⟨_, _, _, _, rfl, hS, pd_rw hr (fun w1 w2 => absurd (ht2 w1) (by omega))⟩
    · refine hp_al (pc' := 17) (j := 0) (Or.inr ⟨0, rfl, rfl, rfl⟩) rfl ?_
      refine hp_cx (q := 15) (Q := fun o => ∃ r : Int32, o = (some (.int r), a, M) ∧ r.toInt = pd_nx q0 n p1 b1 M0) (pc' := 20) (e := d + 1) (vs := []) (r := []) ha rfl rfl rfl rfl rfl rfl rfl rfl (nx_ok ha hS) (fun o ho => ?_)
      obtain ⟨r2, eo, qr2⟩ := ho
      subst eo
      refine ⟨_, rfl, ?_⟩
      show hp X (d + 2) 71 20 [some (.ref 15), some (.int x1), some (.int v), some (.int t), o4, o5] [.int r2] a M _
      refine hp_bi (pc' := 22) (x := 42) rfl rfl rfl ?_
      refine hp_ieq (t := 34) (pc' := 25) rfl rfl rfl (fun c3 => ?_) (fun c3 => ?_)
      · refine hp_al (pc' := 35) (j := 0) (Or.inr ⟨0, rfl, rfl, rfl⟩) rfl ?_
        refine hp_cx (q := 15) (Q := fun o => ∃ r : Int32, o = (some (.int r), a, M) ∧ r.toInt = pd_nx q0 n p1 b1 M0) (pc' := 38) (e := d + 1) (vs := []) (r := []) ha rfl rfl rfl rfl rfl rfl rfl rfl (nx_ok ha hS) (fun o ho => ?_)
        obtain ⟨r4, eo, qr4⟩ := ho
        subst eo
        refine ⟨_, rfl, ?_⟩
        show hp X (d + 2) 71 38 [some (.ref 15), some (.int x1), some (.int v), some (.int t), o4, o5] [.int r4] a M _
        refine hp_bi (pc' := 40) (x := 42) rfl rfl rfl ?_
        refine hp_ine (t := 47) (pc' := 43) rfl rfl rfl (fun c5 => ?_) (fun c5 => ?_)
        · refine hp_ic (pc' := 48) (x := 0) rfl rfl rfl ?_
          refine hp_is (pc' := 50) (j := 4) (ls' := [some (.ref 15), some (.int x1), some (.int v), some (.int t), some (.int (0 : Int32)), o5]) (Or.inl ⟨rfl, rfl⟩) (by simp) rfl ?_
          obtain ⟨w1, w2, w3⟩ := pd_nz (q0 := q0) (n := n) (M0 := M0) (p := p1) (b := b1) (by omega)
          exact K50 _ (by unfold pd_o1; omega) w2 w1
        · refine hp_ic (pc' := 44) (x := 1) rfl rfl rfl ?_
          refine hp_go (t := 48) rfl rfl ?_
          refine hp_is (pc' := 50) (j := 4) (ls' := [some (.ref 15), some (.int x1), some (.int v), some (.int t), some (.int (1 : Int32)), o5]) (Or.inl ⟨rfl, rfl⟩) (by simp) rfl ?_
          obtain ⟨w1, w2, w3⟩ := pd_nz (q0 := q0) (n := n) (M0 := M0) (p := p1) (b := b1) (by omega)
          exact K50 _ (by unfold pd_o1; omega) w2 w1
      · refine hp_al (pc' := 26) (j := 0) (Or.inr ⟨0, rfl, rfl, rfl⟩) rfl ?_
        refine hp_cx (q := 15) (Q := fun o => ∃ r : Int32, o = (some (.int r), a, M) ∧ r.toInt = pd_nx q0 n p1 b1 M0) (pc' := 29) (e := d + 1) (vs := []) (r := []) ha rfl rfl rfl rfl rfl rfl rfl rfl (nx_ok ha hS) (fun o ho => ?_)
        obtain ⟨r6, eo, qr6⟩ := ho
        subst eo
        refine ⟨_, rfl, ?_⟩
        show hp X (d + 2) 71 29 [some (.ref 15), some (.int x1), some (.int v), some (.int t), o4, o5] [.int r6] a M _
        refine hp_bi (pc' := 31) (x := 47) rfl rfl rfl ?_
        refine hp_ine (t := 92) (pc' := 34) rfl rfl rfl (fun c7 => ?_) (fun c7 => ?_)
        · refine hp_il (pc' := 93) (j := 2) (Or.inr ⟨2, rfl, rfl, rfl⟩) rfl ?_
          refine hp_ri rfl rfl ?_
          exact ⟨_, _, _, _, rfl, hS, pd_rw hr (fun w1 w2 w3 => by
            have w4 := pd_nf (q0 := q0) (M0 := M0) w1 w2
            unfold pd_o1 at w3
            omega)⟩
        · refine hp_al (pc' := 35) (j := 0) (Or.inr ⟨0, rfl, rfl, rfl⟩) rfl ?_
          refine hp_cx (q := 15) (Q := fun o => ∃ r : Int32, o = (some (.int r), a, M) ∧ r.toInt = pd_nx q0 n p1 b1 M0) (pc' := 38) (e := d + 1) (vs := []) (r := []) ha rfl rfl rfl rfl rfl rfl rfl rfl (nx_ok ha hS) (fun o ho => ?_)
          obtain ⟨r8, eo, qr8⟩ := ho
          subst eo
          refine ⟨_, rfl, ?_⟩
          show hp X (d + 2) 71 38 [some (.ref 15), some (.int x1), some (.int v), some (.int t), o4, o5] [.int r8] a M _
          refine hp_bi (pc' := 40) (x := 42) rfl rfl rfl ?_
          refine hp_ine (t := 47) (pc' := 43) rfl rfl rfl (fun c9 => ?_) (fun c9 => ?_)
          · refine hp_ic (pc' := 48) (x := 0) rfl rfl rfl ?_
            refine hp_is (pc' := 50) (j := 4) (ls' := [some (.ref 15), some (.int x1), some (.int v), some (.int t), some (.int (0 : Int32)), o5]) (Or.inl ⟨rfl, rfl⟩) (by simp) rfl ?_
            obtain ⟨w1, w2, w3⟩ := pd_nz (q0 := q0) (n := n) (M0 := M0) (p := p1) (b := b1) (by omega)
            exact K50 _ (by unfold pd_o1; omega) w2 w1
          · refine hp_ic (pc' := 44) (x := 1) rfl rfl rfl ?_
            refine hp_go (t := 48) rfl rfl ?_
            refine hp_is (pc' := 50) (j := 4) (ls' := [some (.ref 15), some (.int x1), some (.int v), some (.int t), some (.int (1 : Int32)), o5]) (Or.inl ⟨rfl, rfl⟩) (by simp) rfl ?_
            obtain ⟨w1, w2, w3⟩ := pd_nz (q0 := q0) (n := n) (M0 := M0) (p := p1) (b := b1) (by omega)
            exact K50 _ (by unfold pd_o1; omega) w2 w1
theorem su_8 {s : List Nat} {p : Nat} {b : Bool} {x1 : Int32} {a : rx_K} (ha : a.1 = rx_cells) (hx : x1.toInt = (s.length : Int)) (hA : pd_H X q0 n M0 71 4 (d + 1) pd_o1 s) : ∀ (N p1 : Nat) (b1 : Bool) (v t : Int32) (tn : Nat) (o4 o5 : Option Value) (M : rx_M), cond b1 0 (n - p1 + 1) < N → pd_S q0 n p1 b1 M0 M → pd_r q0 n M0 s pd_o1 p b p1 b1 → t.toInt = (tn : Int) → (b1 = false → tn ≤ p1) → hp X (d + 2) 70 8 [some (.ref 15), some (.int x1), some (.int v), some (.int t), o4, o5] [] a M (pd_Q q0 n M0 s pd_o2 p b a) := by
  intro N
  induction N with
  | zero =>
    intro p1 b1 v t tn o4 o5 M hN
    exact absurd hN (Nat.not_lt_zero _)
  | succ N ih =>
    intro p1 b1 v t tn o4 o5 M hN hS hr ht ht2
    have zz0 : (0 : Int32).toInt = 0 := rfl
    have zz1 : (1 : Int32).toInt = 1 := rfl
    have zz43 : (43 : Int32).toInt = 43 := rfl
    have zz45 : (45 : Int32).toInt = 45 := rfl
    have s6 := hS.2.2.1
    have s9 := hS.2.2.2.2.2.1
    have s10 := hS.2.2.2.2.2.2
    have K50 : ∀ w4 : Int32, pd_o2 (pd_g q0 M0 p1) → p1 < n → b1 = false → hp X (d + 2) 70 50 [some (.ref 15), some (.int x1), some (.int v), some (.int t), some (.int w4), o5] [] a M (pd_Q q0 n M0 s pd_o2 p b a) := by
      intro w4 hop hpn hb1
      have hN : n - p1 + 1 < N + 1 := by
        rw [hb1] at hN
        exact hN
      have ht2 := ht2 hb1
      refine hp_al (pc' := 51) (j := 0) (Or.inr ⟨0, rfl, rfl, rfl⟩) rfl ?_
      refine hp_dup (pc' := 52) rfl rfl rfl ?_
      refine hp_gi (pc' := 55) (j := 2) (t := 0) ha rfl rfl rfl (by decide) rfl ?_
      refine hp_ic (pc' := 56) (x := 1) rfl rfl rfl ?_
      refine hp_add (pc' := 57) rfl rfl (fun z101 hz101 => ?_)
      have t7 := hS.2.2.2.1
      have yz101 : z101.toInt = ((p1 + 1 : Nat) : Int) := by
        rw [hz101, ax_add (by omega) (by omega), zz1, t7]
        omega
      refine hp_pf (pc' := 60) (j := 2) ha rfl rfl rfl rfl (fun M102 eM102 gM102 => ?_)
      have hM102 := pd_at hS eM102 gM102 yz101 (by omega)
      refine hp_al (pc' := 61) (j := 0) (Or.inr ⟨0, rfl, rfl, rfl⟩) rfl ?_
      refine hp_il (pc' := 62) (j := 1) (Or.inr ⟨1, rfl, rfl, rfl⟩) rfl ?_
      refine hp_cx (q := 15) (Q := pd_Q q0 n M0 s pd_o1 (p1 + 1) b1 a) (pc' := 65) (e := d + 1) (vs := [.int x1]) (r := []) ha rfl rfl rfl rfl rfl rfl rfl rfl (hA _ _ x1 a M102 ha hM102 hx) (fun o ho => ?_)
      obtain ⟨v2, N2, p2, b2, eo, hN2, r2⟩ := ho
      subst eo
      refine ⟨_, rfl, ?_⟩
      show hp X (d + 2) 70 65 [some (.ref 15), some (.int x1), some (.int v), some (.int t), some (.int w4), o5] [.int v2] a N2 _
      refine hp_is (pc' := 67) (j := 5) (ls' := [some (.ref 15), some (.int x1), some (.int v), some (.int t), some (.int w4), some (.int v2)]) (Or.inl ⟨rfl, rfl⟩) (by simp) rfl ?_
      refine hp_il (pc' := 69) (j := 4) (Or.inl ⟨rfl, rfl⟩) rfl ?_
      refine hp_zeq (t := 79) (pc' := 72) rfl rfl rfl (fun c103 => ?_) (fun c103 => ?_)
      · refine hp_il (pc' := 80) (j := 2) (Or.inr ⟨2, rfl, rfl, rfl⟩) rfl ?_
        refine hp_il (pc' := 82) (j := 5) (Or.inl ⟨rfl, rfl⟩) rfl ?_
        refine hp_sub (pc' := 83) rfl rfl (fun z104 hz104 => ?_)
        refine hp_is (pc' := 84) (j := 2) (ls' := [some (.ref 15), some (.int x1), some (.int z104), some (.int t), some (.int w4), some (.int v2)]) (Or.inr ⟨2, rfl, rfl, rfl⟩) (by simp) rfl ?_
        refine hp_in (pc' := 87) (j := 3) (ls' := [some (.ref 15), some (.int x1), some (.int z104), some (.int (t + Int32.ofInt 1)), some (.int w4), some (.int v2)]) rfl rfl rfl rfl rfl ?_
        refine hp_go (t := 8) rfl rfl ?_
        exact ih p2 b2 _ _ (tn + 1) _ _ N2 (by
          cases b2 with
          | true =>
            show 0 < N
            omega
          | false =>
            have := (r2.2 hb1).resolve_left (fun z => by cases z.1)
            show n - p2 + 1 < N
            omega) hN2 (pd_r2 (by rw [← hb1]; exact hr) hpn hop (by rw [← hb1]; exact r2)) (hp_i1 ht (by omega)) (fun w => by
          have := (r2.2 hb1).resolve_left (fun z => by
            rw [w] at z
            cases z.1)
          omega)
      · refine hp_il (pc' := 73) (j := 2) (Or.inr ⟨2, rfl, rfl, rfl⟩) rfl ?_
        refine hp_il (pc' := 75) (j := 5) (Or.inl ⟨rfl, rfl⟩) rfl ?_
        refine hp_add (pc' := 76) rfl rfl (fun z105 hz105 => ?_)
        refine hp_go (t := 83) rfl rfl ?_
        refine hp_is (pc' := 84) (j := 2) (ls' := [some (.ref 15), some (.int x1), some (.int z105), some (.int t), some (.int w4), some (.int v2)]) (Or.inr ⟨2, rfl, rfl, rfl⟩) (by simp) rfl ?_
        refine hp_in (pc' := 87) (j := 3) (ls' := [some (.ref 15), some (.int x1), some (.int z105), some (.int (t + Int32.ofInt 1)), some (.int w4), some (.int v2)]) rfl rfl rfl rfl rfl ?_
        refine hp_go (t := 8) rfl rfl ?_
        exact ih p2 b2 _ _ (tn + 1) _ _ N2 (by
          cases b2 with
          | true =>
            show 0 < N
            omega
          | false =>
            have := (r2.2 hb1).resolve_left (fun z => by cases z.1)
            show n - p2 + 1 < N
            omega) hN2 (pd_r2 (by rw [← hb1]; exact hr) hpn hop (by rw [← hb1]; exact r2)) (hp_i1 ht (by omega)) (fun w => by
          have := (r2.2 hb1).resolve_left (fun z => by
            rw [w] at z
            cases z.1)
          omega)
    refine hp_il (pc' := 9) (j := 3) (Or.inr ⟨3, rfl, rfl, rfl⟩) rfl ?_
    refine hp_al (pc' := 10) (j := 0) (Or.inr ⟨0, rfl, rfl, rfl⟩) rfl ?_
    refine hp_gi (pc' := 13) (j := 1) (t := 0) ha rfl rfl rfl (by decide) rfl ?_
    refine hp_ige (t := 90) (pc' := 16) rfl rfl rfl (fun c1 => ?_) (fun c1 => ?_)
    · refine hp_il (pc' := 91) (j := 2) (Or.inr ⟨2, rfl, rfl, rfl⟩) rfl ?_
      refine hp_ri rfl rfl ?_
      exact ⟨_, _, _, _, rfl, hS, pd_rw hr (fun w1 w2 => absurd (ht2 w1) (by omega))⟩
    · refine hp_al (pc' := 17) (j := 0) (Or.inr ⟨0, rfl, rfl, rfl⟩) rfl ?_
      refine hp_cx (q := 15) (Q := fun o => ∃ r : Int32, o = (some (.int r), a, M) ∧ r.toInt = pd_nx q0 n p1 b1 M0) (pc' := 20) (e := d + 1) (vs := []) (r := []) ha rfl rfl rfl rfl rfl rfl rfl rfl (nx_ok ha hS) (fun o ho => ?_)
      obtain ⟨r2, eo, qr2⟩ := ho
      subst eo
      refine ⟨_, rfl, ?_⟩
      show hp X (d + 2) 70 20 [some (.ref 15), some (.int x1), some (.int v), some (.int t), o4, o5] [.int r2] a M _
      refine hp_bi (pc' := 22) (x := 43) rfl rfl rfl ?_
      refine hp_ieq (t := 34) (pc' := 25) rfl rfl rfl (fun c3 => ?_) (fun c3 => ?_)
      · refine hp_al (pc' := 35) (j := 0) (Or.inr ⟨0, rfl, rfl, rfl⟩) rfl ?_
        refine hp_cx (q := 15) (Q := fun o => ∃ r : Int32, o = (some (.int r), a, M) ∧ r.toInt = pd_nx q0 n p1 b1 M0) (pc' := 38) (e := d + 1) (vs := []) (r := []) ha rfl rfl rfl rfl rfl rfl rfl rfl (nx_ok ha hS) (fun o ho => ?_)
        obtain ⟨r4, eo, qr4⟩ := ho
        subst eo
        refine ⟨_, rfl, ?_⟩
        show hp X (d + 2) 70 38 [some (.ref 15), some (.int x1), some (.int v), some (.int t), o4, o5] [.int r4] a M _
        refine hp_bi (pc' := 40) (x := 43) rfl rfl rfl ?_
        refine hp_ine (t := 47) (pc' := 43) rfl rfl rfl (fun c5 => ?_) (fun c5 => ?_)
        · refine hp_ic (pc' := 48) (x := 0) rfl rfl rfl ?_
          refine hp_is (pc' := 50) (j := 4) (ls' := [some (.ref 15), some (.int x1), some (.int v), some (.int t), some (.int (0 : Int32)), o5]) (Or.inl ⟨rfl, rfl⟩) (by simp) rfl ?_
          obtain ⟨w1, w2, w3⟩ := pd_nz (q0 := q0) (n := n) (M0 := M0) (p := p1) (b := b1) (by omega)
          exact K50 _ (by unfold pd_o2; omega) w2 w1
        · refine hp_ic (pc' := 44) (x := 1) rfl rfl rfl ?_
          refine hp_go (t := 48) rfl rfl ?_
          refine hp_is (pc' := 50) (j := 4) (ls' := [some (.ref 15), some (.int x1), some (.int v), some (.int t), some (.int (1 : Int32)), o5]) (Or.inl ⟨rfl, rfl⟩) (by simp) rfl ?_
          obtain ⟨w1, w2, w3⟩ := pd_nz (q0 := q0) (n := n) (M0 := M0) (p := p1) (b := b1) (by omega)
          exact K50 _ (by unfold pd_o2; omega) w2 w1
      · refine hp_al (pc' := 26) (j := 0) (Or.inr ⟨0, rfl, rfl, rfl⟩) rfl ?_
        refine hp_cx (q := 15) (Q := fun o => ∃ r : Int32, o = (some (.int r), a, M) ∧ r.toInt = pd_nx q0 n p1 b1 M0) (pc' := 29) (e := d + 1) (vs := []) (r := []) ha rfl rfl rfl rfl rfl rfl rfl rfl (nx_ok ha hS) (fun o ho => ?_)
        obtain ⟨r6, eo, qr6⟩ := ho
        subst eo
        refine ⟨_, rfl, ?_⟩
        show hp X (d + 2) 70 29 [some (.ref 15), some (.int x1), some (.int v), some (.int t), o4, o5] [.int r6] a M _
        refine hp_bi (pc' := 31) (x := 45) rfl rfl rfl ?_
        refine hp_ine (t := 90) (pc' := 34) rfl rfl rfl (fun c7 => ?_) (fun c7 => ?_)
        · refine hp_il (pc' := 91) (j := 2) (Or.inr ⟨2, rfl, rfl, rfl⟩) rfl ?_
          refine hp_ri rfl rfl ?_
          exact ⟨_, _, _, _, rfl, hS, pd_rw hr (fun w1 w2 w3 => by
            have w4 := pd_nf (q0 := q0) (M0 := M0) w1 w2
            subst w1
            have w5 := ((hr.2 (pd_rb hr)).resolve_left (fun z => by cases z.1)).2.2.1 w2
            unfold pd_o1 at w5
            unfold pd_o2 at w3
            omega)⟩
        · refine hp_al (pc' := 35) (j := 0) (Or.inr ⟨0, rfl, rfl, rfl⟩) rfl ?_
          refine hp_cx (q := 15) (Q := fun o => ∃ r : Int32, o = (some (.int r), a, M) ∧ r.toInt = pd_nx q0 n p1 b1 M0) (pc' := 38) (e := d + 1) (vs := []) (r := []) ha rfl rfl rfl rfl rfl rfl rfl rfl (nx_ok ha hS) (fun o ho => ?_)
          obtain ⟨r8, eo, qr8⟩ := ho
          subst eo
          refine ⟨_, rfl, ?_⟩
          show hp X (d + 2) 70 38 [some (.ref 15), some (.int x1), some (.int v), some (.int t), o4, o5] [.int r8] a M _
          refine hp_bi (pc' := 40) (x := 43) rfl rfl rfl ?_
          refine hp_ine (t := 47) (pc' := 43) rfl rfl rfl (fun c9 => ?_) (fun c9 => ?_)
          · refine hp_ic (pc' := 48) (x := 0) rfl rfl rfl ?_
            refine hp_is (pc' := 50) (j := 4) (ls' := [some (.ref 15), some (.int x1), some (.int v), some (.int t), some (.int (0 : Int32)), o5]) (Or.inl ⟨rfl, rfl⟩) (by simp) rfl ?_
            obtain ⟨w1, w2, w3⟩ := pd_nz (q0 := q0) (n := n) (M0 := M0) (p := p1) (b := b1) (by omega)
            exact K50 _ (by unfold pd_o2; omega) w2 w1
          · refine hp_ic (pc' := 44) (x := 1) rfl rfl rfl ?_
            refine hp_go (t := 48) rfl rfl ?_
            refine hp_is (pc' := 50) (j := 4) (ls' := [some (.ref 15), some (.int x1), some (.int v), some (.int t), some (.int (1 : Int32)), o5]) (Or.inl ⟨rfl, rfl⟩) (by simp) rfl ?_
            obtain ⟨w1, w2, w3⟩ := pd_nz (q0 := q0) (n := n) (M0 := M0) (p := p1) (b := b1) (by omega)
            exact K50 _ (by unfold pd_o2; omega) w2 w1
theorem pr_ok {s : List Nat} (hA : pd_H X q0 n M0 73 2 (d + 1) pd_o0 s) : pd_H X q0 n M0 71 4 (d + 2) pd_o1 s := by
  intro p b x1 a M ha hS hx
  show hp X (d + 2) 71 0 [some (.ref 15), some (.int x1), none, none, none, none] [] a M _
  refine hp_al (pc' := 1) (j := 0) (Or.inr ⟨0, rfl, rfl, rfl⟩) rfl ?_
  refine hp_il (pc' := 2) (j := 1) (Or.inr ⟨1, rfl, rfl, rfl⟩) rfl ?_
  refine hp_cx (q := 15) (Q := pd_Q q0 n M0 s pd_o0 p b a) (pc' := 5) (e := d + 1) (vs := [.int x1]) (r := []) ha rfl rfl rfl rfl rfl rfl rfl rfl (hA _ _ x1 a M ha hS hx) (fun o ho => ?_)
  obtain ⟨v1, N1, p1, b1, eo, hN1, r1⟩ := ho
  subst eo
  refine ⟨_, rfl, ?_⟩
  show hp X (d + 2) 71 5 [some (.ref 15), some (.int x1), none, none, none, none] [.int v1] a N1 _
  refine hp_is (pc' := 6) (j := 2) (ls' := [some (.ref 15), some (.int x1), some (.int v1), none, none, none]) (Or.inr ⟨2, rfl, rfl, rfl⟩) (by simp) rfl ?_
  refine hp_ic (pc' := 7) (x := 0) rfl rfl rfl ?_
  refine hp_is (pc' := 8) (j := 3) (ls' := [some (.ref 15), some (.int x1), some (.int v1), some (.int (0 : Int32)), none, none]) (Or.inr ⟨3, rfl, rfl, rfl⟩) (by simp) rfl ?_
  exact pr_8 ha hx hA _ p1 b1 _ _ 0 _ _ N1 (Nat.lt_succ_self _) hN1 r1 rfl (fun _ => Nat.zero_le _)
theorem su_ok {s : List Nat} (hA : pd_H X q0 n M0 71 4 (d + 1) pd_o1 s) : pd_H X q0 n M0 70 4 (d + 2) pd_o2 s := by
  intro p b x1 a M ha hS hx
  show hp X (d + 2) 70 0 [some (.ref 15), some (.int x1), none, none, none, none] [] a M _
  refine hp_al (pc' := 1) (j := 0) (Or.inr ⟨0, rfl, rfl, rfl⟩) rfl ?_
  refine hp_il (pc' := 2) (j := 1) (Or.inr ⟨1, rfl, rfl, rfl⟩) rfl ?_
  refine hp_cx (q := 15) (Q := pd_Q q0 n M0 s pd_o1 p b a) (pc' := 5) (e := d + 1) (vs := [.int x1]) (r := []) ha rfl rfl rfl rfl rfl rfl rfl rfl (hA _ _ x1 a M ha hS hx) (fun o ho => ?_)
  obtain ⟨v1, N1, p1, b1, eo, hN1, r1⟩ := ho
  subst eo
  refine ⟨_, rfl, ?_⟩
  show hp X (d + 2) 70 5 [some (.ref 15), some (.int x1), none, none, none, none] [.int v1] a N1 _
  refine hp_is (pc' := 6) (j := 2) (ls' := [some (.ref 15), some (.int x1), some (.int v1), none, none, none]) (Or.inr ⟨2, rfl, rfl, rfl⟩) (by simp) rfl ?_
  refine hp_ic (pc' := 7) (x := 0) rfl rfl rfl ?_
  refine hp_is (pc' := 8) (j := 3) (ls' := [some (.ref 15), some (.int x1), some (.int v1), some (.int (0 : Int32)), none, none]) (Or.inr ⟨3, rfl, rfl, rfl⟩) (by simp) rfl ?_
  exact su_8 ha hx hA _ p1 b1 _ _ 0 _ _ N1 (Nat.lt_succ_self _) hN1 r1 rfl (fun _ => Nat.zero_le _)
theorem at_ok {s : List Nat} (hl : s.length ≤ 8) (hsum : s.length < 8 → pd_H X q0 n M0 70 4 (d + 2) pd_o2 (4 :: s)) (hch : s.length < 8 → pd_C X q0 n M0 (d + 2) s) : pd_H X q0 n M0 73 2 (d + 3) pd_o0 s := by
  intro p b x1 a M ha hS hx
  show hp X (d + 3) 73 0 [some (.ref 15), some (.int x1), none, none] [] a M _
  have s9 := hS.2.2.2.2.2.1
  have s10 := hS.2.2.2.2.2.2
  have zz0 : (0 : Int32).toInt = 0 := rfl
  have zz1 : (1 : Int32).toInt = 1 := rfl
  have zz8 : (8 : Int32).toInt = 8 := rfl
  have zz40 : (40 : Int32).toInt = 40 := rfl
  have zz91 : (91 : Int32).toInt = 91 := rfl
  refine hp_al (pc' := 1) (j := 0) (Or.inr ⟨0, rfl, rfl, rfl⟩) rfl ?_
  refine hp_cx (q := 15) (Q := fun o => ∃ r : Int32, o = (some (.int r), a, M) ∧ r.toInt = pd_nx q0 n p b M0) (pc' := 4) (e := d + 2) (vs := []) (r := []) ha rfl rfl rfl rfl rfl rfl rfl rfl (nx_ok ha hS) (fun o ho => ?_)
  obtain ⟨r1, eo, q1⟩ := ho
  subst eo
  refine ⟨_, rfl, ?_⟩
  show hp X (d + 3) 73 4 [some (.ref 15), some (.int x1), none, none] [.int r1] a M _
  refine hp_is (pc' := 5) (j := 2) (ls' := [some (.ref 15), some (.int x1), some (.int r1), none]) (Or.inr ⟨2, rfl, rfl, rfl⟩) (by simp) rfl ?_
  refine hp_il (pc' := 6) (j := 2) (Or.inr ⟨2, rfl, rfl, rfl⟩) rfl ?_
  refine hp_cs (Q := fun o => ∃ r : Int32, o = (some (.int r), a, M) ∧ (r.toInt = 0 ∨ r.toInt = 1) ∧ (r.toInt ≠ 0 ↔ (48 ≤ r1.toInt ∧ r1.toInt ≤ 57))) (pc' := 9) (e := d + 2) (vs := [.int r1]) (r := []) rfl rfl (Or.inl rfl) rfl rfl rfl rfl rfl dg_ok (fun o ho => ?_)
  obtain ⟨r2, eo, q2⟩ := ho
  subst eo
  refine ⟨_, rfl, ?_⟩
  show hp X (d + 3) 73 9 [some (.ref 15), some (.int x1), some (.int r1), none] [.int r2] a M _
  refine hp_zeq (t := 17) (pc' := 12) rfl rfl rfl (fun c1 => ?_) (fun c1 => ?_)
  · refine hp_il (pc' := 18) (j := 2) (Or.inr ⟨2, rfl, rfl, rfl⟩) rfl ?_
    refine hp_bi (pc' := 20) (x := 40) rfl rfl rfl ?_
    refine hp_ine (t := 55) (pc' := 23) rfl rfl rfl (fun c2 => ?_) (fun c2 => ?_)
    · refine hp_il (pc' := 56) (j := 2) (Or.inr ⟨2, rfl, rfl, rfl⟩) rfl ?_
      refine hp_bi (pc' := 58) (x := 91) rfl rfl rfl ?_
      refine hp_ine (t := 85) (pc' := 61) rfl rfl rfl (fun c3 => ?_) (fun c3 => ?_)
      · refine hp_al (pc' := 86) (j := 0) (Or.inr ⟨0, rfl, rfl, rfl⟩) rfl ?_
        refine hp_il (pc' := 87) (j := 2) (Or.inr ⟨2, rfl, rfl, rfl⟩) rfl ?_
        refine hp_cx (q := 15) (Q := fun o => ∃ (r : Int32) (M1 : rx_M), o = (some (.int r), a, M1) ∧ ((pa_fb (pd_nx q0 n p b M0) = true ∧ p < n ∧ pd_S q0 n (p + 1) b M0 M1) ∨ (¬ pa_fb (pd_nx q0 n p b M0) = true ∧ pd_S q0 n p true M0 M1))) (pc' := 90) (e := d + 2) (vs := [.int r1]) (r := []) ha rfl rfl rfl rfl rfl rfl rfl rfl (fd_ok ha hS q1) (fun o ho => ?_)
        obtain ⟨v4, N4, eo, f4⟩ := ho
        subst eo
        refine ⟨_, rfl, ?_⟩
        show hp X (d + 3) 73 90 [some (.ref 15), some (.int x1), some (.int r1), none] [.int v4] a N4 _
        refine hp_ri rfl rfl ?_
        rcases f4 with ⟨j1, j2, j3⟩ | ⟨j1, j2⟩
        · obtain ⟨w1, w2, w3⟩ := pd_nz (q0 := q0) (n := n) (M0 := M0) (p := p) (b := b) (by have := pa_fb_i j1; omega)
          rw [w3] at j1
          exact ⟨_, N4, _, b, rfl, j3, fun z => absurd z (by rw [w1]; decide), fun _ => Or.inr ⟨w1, Nat.lt_succ_self _, fun _ z => z, fun r hr => pa_field w2 j1 hr⟩⟩
        · refine ⟨_, N4, p, true, rfl, j2, fun _ => ⟨rfl, rfl⟩, fun hb => Or.inl ⟨rfl, ?_⟩⟩
          by_cases hp : p < n
          · have w3 := pd_nf (q0 := q0) (M0 := M0) hb hp
            rw [w3] at j1 q1
            by_cases hd8 : (pd_g q0 M0 p = 40 ∨ pd_g q0 M0 p = 91) ∧ s.length = 8
            · exact pa_deep hp hd8.1 hd8.2
            · exact pa_bad (fun _ => ⟨fun z => hd8 ⟨z, by omega⟩, j1, fun z => by omega⟩)
          · exact pa_bad (fun z => absurd z hp)
      · refine hp_il (pc' := 62) (j := 1) (Or.inr ⟨1, rfl, rfl, rfl⟩) rfl ?_
        refine hp_bi (pc' := 64) (x := 8) rfl rfl rfl ?_
        refine hp_ige (t := 85) (pc' := 67) rfl rfl rfl (fun c4 => ?_) (fun c4 => ?_)
        · refine hp_al (pc' := 86) (j := 0) (Or.inr ⟨0, rfl, rfl, rfl⟩) rfl ?_
          refine hp_il (pc' := 87) (j := 2) (Or.inr ⟨2, rfl, rfl, rfl⟩) rfl ?_
          refine hp_cx (q := 15) (Q := fun o => ∃ (r : Int32) (M1 : rx_M), o = (some (.int r), a, M1) ∧ ((pa_fb (pd_nx q0 n p b M0) = true ∧ p < n ∧ pd_S q0 n (p + 1) b M0 M1) ∨ (¬ pa_fb (pd_nx q0 n p b M0) = true ∧ pd_S q0 n p true M0 M1))) (pc' := 90) (e := d + 2) (vs := [.int r1]) (r := []) ha rfl rfl rfl rfl rfl rfl rfl rfl (fd_ok ha hS q1) (fun o ho => ?_)
          obtain ⟨v4, N4, eo, f4⟩ := ho
          subst eo
          refine ⟨_, rfl, ?_⟩
          show hp X (d + 3) 73 90 [some (.ref 15), some (.int x1), some (.int r1), none] [.int v4] a N4 _
          refine hp_ri rfl rfl ?_
          rcases f4 with ⟨j1, j2, j3⟩ | ⟨j1, j2⟩
          · obtain ⟨w1, w2, w3⟩ := pd_nz (q0 := q0) (n := n) (M0 := M0) (p := p) (b := b) (by have := pa_fb_i j1; omega)
            rw [w3] at j1
            exact ⟨_, N4, _, b, rfl, j3, fun z => absurd z (by rw [w1]; decide), fun _ => Or.inr ⟨w1, Nat.lt_succ_self _, fun _ z => z, fun r hr => pa_field w2 j1 hr⟩⟩
          · refine ⟨_, N4, p, true, rfl, j2, fun _ => ⟨rfl, rfl⟩, fun hb => Or.inl ⟨rfl, ?_⟩⟩
            by_cases hp : p < n
            · have w3 := pd_nf (q0 := q0) (M0 := M0) hb hp
              rw [w3] at j1 q1
              by_cases hd8 : (pd_g q0 M0 p = 40 ∨ pd_g q0 M0 p = 91) ∧ s.length = 8
              · exact pa_deep hp hd8.1 hd8.2
              · exact pa_bad (fun _ => ⟨fun z => hd8 ⟨z, by omega⟩, j1, fun z => by omega⟩)
            · exact pa_bad (fun z => absurd z hp)
        · refine hp_al (pc' := 68) (j := 0) (Or.inr ⟨0, rfl, rfl, rfl⟩) rfl ?_
          refine hp_dup (pc' := 69) rfl rfl rfl ?_
          refine hp_gi (pc' := 72) (j := 2) (t := 0) ha rfl rfl rfl (by decide) rfl ?_
          refine hp_ic (pc' := 73) (x := 1) rfl rfl rfl ?_
          refine hp_add (pc' := 74) rfl rfl (fun z5 hz5 => ?_)
          obtain ⟨w1, w2, w3⟩ := pd_nz (q0 := q0) (n := n) (M0 := M0) (p := p) (b := b) (by omega)
          have t7 := hS.2.2.2.1
          have yz5 : z5.toInt = ((p + 1 : Nat) : Int) := by
            rw [hz5, ax_add (by omega) (by omega), zz1, t7]
            omega
          refine hp_pf (pc' := 77) (j := 2) ha rfl rfl rfl rfl (fun M6 eM6 gM6 => ?_)
          have hM6 := pd_at hS eM6 gM6 yz5 (by omega)
          refine hp_al (pc' := 78) (j := 0) (Or.inr ⟨0, rfl, rfl, rfl⟩) rfl ?_
          refine hp_il (pc' := 79) (j := 1) (Or.inr ⟨1, rfl, rfl, rfl⟩) rfl ?_
          refine hp_ic (pc' := 80) (x := 1) rfl rfl rfl ?_
          refine hp_add (pc' := 81) rfl rfl (fun z7 hz7 => ?_)
          have yz7 : z7.toInt = (s.length : Int) + 1 := by
            rw [hz7, ax_add (by omega) (by omega), zz1, hx]
          rw [w1] at hM6
          refine hp_cx (q := 15) (Q := fun w => ∃ (r : Int32) (M1 : rx_M) (p1 : Nat) (b1 : Bool), w = (some (.int r), a, M1) ∧ pd_S q0 n p1 b1 M0 M1 ∧ ((b1 = true ∧ pa_R (pd_g q0 M0) n (p + 1) (0 :: s) true (p1 : Int)) ∨ (b1 = false ∧ p + 1 < p1 ∧ ∀ r, pa_R (pd_g q0 M0) n p1 s false r → pa_R (pd_g q0 M0) n (p + 1) (0 :: s) true r))) (pc' := 84) (e := d + 2) (vs := [.int z7]) (r := []) ha rfl rfl rfl rfl rfl rfl rfl rfl (hch (by omega) _ z7 a M6 ha hM6 yz7) (fun o ho => ?_)
          obtain ⟨v7, N7, p3, b3, eo, hN7, k7⟩ := ho
          subst eo
          refine ⟨_, rfl, ?_⟩
          show hp X (d + 3) 73 84 [some (.ref 15), some (.int x1), some (.int r1), none] [.int v7] a N7 _
          refine hp_ri rfl rfl ?_
          refine ⟨_, N7, p3, b3, rfl, hN7, fun z => absurd z (by rw [w1]; decide), fun _ => ?_⟩
          have e4 : (if pd_g q0 M0 p = 40 then 4 else 0) = 0 := if_neg (by omega)
          have op : ∀ r, pa_R (pd_g q0 M0) n (p + 1) (0 :: s) true r → pa_R (pd_g q0 M0) n p s true r := fun r hr => pa_open w2 (Or.inr (by omega)) (by omega) (by rw [e4]; exact hr)
          rcases k7 with ⟨j1, j2⟩ | ⟨j1, j2, j3⟩
          · exact Or.inl ⟨j1, op _ j2⟩
          · exact Or.inr ⟨j1, by omega, fun _ z => z, fun r hr => op r (j3 r hr)⟩
    · refine hp_il (pc' := 24) (j := 1) (Or.inr ⟨1, rfl, rfl, rfl⟩) rfl ?_
      refine hp_bi (pc' := 26) (x := 8) rfl rfl rfl ?_
      refine hp_ige (t := 55) (pc' := 29) rfl rfl rfl (fun c8 => ?_) (fun c8 => ?_)
      · refine hp_il (pc' := 56) (j := 2) (Or.inr ⟨2, rfl, rfl, rfl⟩) rfl ?_
        refine hp_bi (pc' := 58) (x := 91) rfl rfl rfl ?_
        refine hp_ine (t := 85) (pc' := 61) rfl rfl rfl (fun c9 => ?_) (fun c9 => ?_)
        · refine hp_al (pc' := 86) (j := 0) (Or.inr ⟨0, rfl, rfl, rfl⟩) rfl ?_
          refine hp_il (pc' := 87) (j := 2) (Or.inr ⟨2, rfl, rfl, rfl⟩) rfl ?_
          refine hp_cx (q := 15) (Q := fun o => ∃ (r : Int32) (M1 : rx_M), o = (some (.int r), a, M1) ∧ ((pa_fb (pd_nx q0 n p b M0) = true ∧ p < n ∧ pd_S q0 n (p + 1) b M0 M1) ∨ (¬ pa_fb (pd_nx q0 n p b M0) = true ∧ pd_S q0 n p true M0 M1))) (pc' := 90) (e := d + 2) (vs := [.int r1]) (r := []) ha rfl rfl rfl rfl rfl rfl rfl rfl (fd_ok ha hS q1) (fun o ho => ?_)
          obtain ⟨v4, N4, eo, f4⟩ := ho
          subst eo
          refine ⟨_, rfl, ?_⟩
          show hp X (d + 3) 73 90 [some (.ref 15), some (.int x1), some (.int r1), none] [.int v4] a N4 _
          refine hp_ri rfl rfl ?_
          rcases f4 with ⟨j1, j2, j3⟩ | ⟨j1, j2⟩
          · obtain ⟨w1, w2, w3⟩ := pd_nz (q0 := q0) (n := n) (M0 := M0) (p := p) (b := b) (by have := pa_fb_i j1; omega)
            rw [w3] at j1
            exact ⟨_, N4, _, b, rfl, j3, fun z => absurd z (by rw [w1]; decide), fun _ => Or.inr ⟨w1, Nat.lt_succ_self _, fun _ z => z, fun r hr => pa_field w2 j1 hr⟩⟩
          · refine ⟨_, N4, p, true, rfl, j2, fun _ => ⟨rfl, rfl⟩, fun hb => Or.inl ⟨rfl, ?_⟩⟩
            by_cases hp : p < n
            · have w3 := pd_nf (q0 := q0) (M0 := M0) hb hp
              rw [w3] at j1 q1
              by_cases hd8 : (pd_g q0 M0 p = 40 ∨ pd_g q0 M0 p = 91) ∧ s.length = 8
              · exact pa_deep hp hd8.1 hd8.2
              · exact pa_bad (fun _ => ⟨fun z => hd8 ⟨z, by omega⟩, j1, fun z => by omega⟩)
            · exact pa_bad (fun z => absurd z hp)
        · refine hp_il (pc' := 62) (j := 1) (Or.inr ⟨1, rfl, rfl, rfl⟩) rfl ?_
          refine hp_bi (pc' := 64) (x := 8) rfl rfl rfl ?_
          refine hp_ige (t := 85) (pc' := 67) rfl rfl rfl (fun c10 => ?_) (fun c10 => ?_)
          · refine hp_al (pc' := 86) (j := 0) (Or.inr ⟨0, rfl, rfl, rfl⟩) rfl ?_
            refine hp_il (pc' := 87) (j := 2) (Or.inr ⟨2, rfl, rfl, rfl⟩) rfl ?_
            refine hp_cx (q := 15) (Q := fun o => ∃ (r : Int32) (M1 : rx_M), o = (some (.int r), a, M1) ∧ ((pa_fb (pd_nx q0 n p b M0) = true ∧ p < n ∧ pd_S q0 n (p + 1) b M0 M1) ∨ (¬ pa_fb (pd_nx q0 n p b M0) = true ∧ pd_S q0 n p true M0 M1))) (pc' := 90) (e := d + 2) (vs := [.int r1]) (r := []) ha rfl rfl rfl rfl rfl rfl rfl rfl (fd_ok ha hS q1) (fun o ho => ?_)
            obtain ⟨v4, N4, eo, f4⟩ := ho
            subst eo
            refine ⟨_, rfl, ?_⟩
            show hp X (d + 3) 73 90 [some (.ref 15), some (.int x1), some (.int r1), none] [.int v4] a N4 _
            refine hp_ri rfl rfl ?_
            rcases f4 with ⟨j1, j2, j3⟩ | ⟨j1, j2⟩
            · obtain ⟨w1, w2, w3⟩ := pd_nz (q0 := q0) (n := n) (M0 := M0) (p := p) (b := b) (by have := pa_fb_i j1; omega)
              rw [w3] at j1
              exact ⟨_, N4, _, b, rfl, j3, fun z => absurd z (by rw [w1]; decide), fun _ => Or.inr ⟨w1, Nat.lt_succ_self _, fun _ z => z, fun r hr => pa_field w2 j1 hr⟩⟩
            · refine ⟨_, N4, p, true, rfl, j2, fun _ => ⟨rfl, rfl⟩, fun hb => Or.inl ⟨rfl, ?_⟩⟩
              by_cases hp : p < n
              · have w3 := pd_nf (q0 := q0) (M0 := M0) hb hp
                rw [w3] at j1 q1
                by_cases hd8 : (pd_g q0 M0 p = 40 ∨ pd_g q0 M0 p = 91) ∧ s.length = 8
                · exact pa_deep hp hd8.1 hd8.2
                · exact pa_bad (fun _ => ⟨fun z => hd8 ⟨z, by omega⟩, j1, fun z => by omega⟩)
              · exact pa_bad (fun z => absurd z hp)
          · refine hp_al (pc' := 68) (j := 0) (Or.inr ⟨0, rfl, rfl, rfl⟩) rfl ?_
            refine hp_dup (pc' := 69) rfl rfl rfl ?_
            refine hp_gi (pc' := 72) (j := 2) (t := 0) ha rfl rfl rfl (by decide) rfl ?_
            refine hp_ic (pc' := 73) (x := 1) rfl rfl rfl ?_
            refine hp_add (pc' := 74) rfl rfl (fun z11 hz11 => ?_)
            obtain ⟨w1, w2, w3⟩ := pd_nz (q0 := q0) (n := n) (M0 := M0) (p := p) (b := b) (by omega)
            have t7 := hS.2.2.2.1
            have yz11 : z11.toInt = ((p + 1 : Nat) : Int) := by
              rw [hz11, ax_add (by omega) (by omega), zz1, t7]
              omega
            refine hp_pf (pc' := 77) (j := 2) ha rfl rfl rfl rfl (fun M12 eM12 gM12 => ?_)
            have hM12 := pd_at hS eM12 gM12 yz11 (by omega)
            refine hp_al (pc' := 78) (j := 0) (Or.inr ⟨0, rfl, rfl, rfl⟩) rfl ?_
            refine hp_il (pc' := 79) (j := 1) (Or.inr ⟨1, rfl, rfl, rfl⟩) rfl ?_
            refine hp_ic (pc' := 80) (x := 1) rfl rfl rfl ?_
            refine hp_add (pc' := 81) rfl rfl (fun z13 hz13 => ?_)
            have yz13 : z13.toInt = (s.length : Int) + 1 := by
              rw [hz13, ax_add (by omega) (by omega), zz1, hx]
            rw [w1] at hM12
            refine hp_cx (q := 15) (Q := fun w => ∃ (r : Int32) (M1 : rx_M) (p1 : Nat) (b1 : Bool), w = (some (.int r), a, M1) ∧ pd_S q0 n p1 b1 M0 M1 ∧ ((b1 = true ∧ pa_R (pd_g q0 M0) n (p + 1) (0 :: s) true (p1 : Int)) ∨ (b1 = false ∧ p + 1 < p1 ∧ ∀ r, pa_R (pd_g q0 M0) n p1 s false r → pa_R (pd_g q0 M0) n (p + 1) (0 :: s) true r))) (pc' := 84) (e := d + 2) (vs := [.int z13]) (r := []) ha rfl rfl rfl rfl rfl rfl rfl rfl (hch (by omega) _ z13 a M12 ha hM12 yz13) (fun o ho => ?_)
            obtain ⟨v7, N7, p3, b3, eo, hN7, k7⟩ := ho
            subst eo
            refine ⟨_, rfl, ?_⟩
            show hp X (d + 3) 73 84 [some (.ref 15), some (.int x1), some (.int r1), none] [.int v7] a N7 _
            refine hp_ri rfl rfl ?_
            refine ⟨_, N7, p3, b3, rfl, hN7, fun z => absurd z (by rw [w1]; decide), fun _ => ?_⟩
            have e4 : (if pd_g q0 M0 p = 40 then 4 else 0) = 0 := if_neg (by omega)
            have op : ∀ r, pa_R (pd_g q0 M0) n (p + 1) (0 :: s) true r → pa_R (pd_g q0 M0) n p s true r := fun r hr => pa_open w2 (Or.inr (by omega)) (by omega) (by rw [e4]; exact hr)
            rcases k7 with ⟨j1, j2⟩ | ⟨j1, j2, j3⟩
            · exact Or.inl ⟨j1, op _ j2⟩
            · exact Or.inr ⟨j1, by omega, fun _ z => z, fun r hr => op r (j3 r hr)⟩
      · refine hp_al (pc' := 30) (j := 0) (Or.inr ⟨0, rfl, rfl, rfl⟩) rfl ?_
        refine hp_dup (pc' := 31) rfl rfl rfl ?_
        refine hp_gi (pc' := 34) (j := 2) (t := 0) ha rfl rfl rfl (by decide) rfl ?_
        refine hp_ic (pc' := 35) (x := 1) rfl rfl rfl ?_
        refine hp_add (pc' := 36) rfl rfl (fun z14 hz14 => ?_)
        obtain ⟨w1, w2, w3⟩ := pd_nz (q0 := q0) (n := n) (M0 := M0) (p := p) (b := b) (by omega)
        have t7 := hS.2.2.2.1
        have yz14 : z14.toInt = ((p + 1 : Nat) : Int) := by
          rw [hz14, ax_add (by omega) (by omega), zz1, t7]
          omega
        refine hp_pf (pc' := 39) (j := 2) ha rfl rfl rfl rfl (fun M15 eM15 gM15 => ?_)
        have hM15 := pd_at hS eM15 gM15 yz14 (by omega)
        refine hp_al (pc' := 40) (j := 0) (Or.inr ⟨0, rfl, rfl, rfl⟩) rfl ?_
        refine hp_il (pc' := 41) (j := 1) (Or.inr ⟨1, rfl, rfl, rfl⟩) rfl ?_
        refine hp_ic (pc' := 42) (x := 1) rfl rfl rfl ?_
        refine hp_add (pc' := 43) rfl rfl (fun z16 hz16 => ?_)
        have yz16 : z16.toInt = (s.length : Int) + 1 := by
          rw [hz16, ax_add (by omega) (by omega), zz1, hx]
        rw [w1] at hM15
        refine hp_cx (q := 15) (Q := pd_Q q0 n M0 (4 :: s) pd_o2 (p + 1) false a) (pc' := 46) (e := d + 2) (vs := [.int z16]) (r := []) ha rfl rfl rfl rfl rfl rfl rfl rfl (hsum (by omega) _ _ z16 a M15 ha hM15 (by rw [List.length_cons]; omega)) (fun o ho => ?_)
        obtain ⟨v5, N5, p2, b2, eo, hN5, r5⟩ := ho
        subst eo
        refine ⟨_, rfl, ?_⟩
        show hp X (d + 3) 73 46 [some (.ref 15), some (.int x1), some (.int r1), none] [.int v5] a N5 _
        refine hp_is (pc' := 47) (j := 3) (ls' := [some (.ref 15), some (.int x1), some (.int r1), some (.int v5)]) (Or.inr ⟨3, rfl, rfl, rfl⟩) (by simp) rfl ?_
        refine hp_al (pc' := 48) (j := 0) (Or.inr ⟨0, rfl, rfl, rfl⟩) rfl ?_
        refine hp_bi (pc' := 50) (x := 41) rfl rfl rfl ?_
        refine hp_cx (q := 15) (Q := fun o => ∃ M1 : rx_M, o = (none, a, M1) ∧ ((pd_nx q0 n p2 b2 M0 = (41 : Int32).toInt ∧ pd_S q0 n (p2 + 1) b2 M0 M1) ∨ (¬ pd_nx q0 n p2 b2 M0 = (41 : Int32).toInt ∧ pd_S q0 n p2 true M0 M1))) (pc' := 53) (e := d + 2) (vs := [.int 41]) (r := []) ha rfl rfl rfl rfl rfl rfl rfl rfl (ex_ok ha hN5 (by decide)) (fun o ho => ?_)
        obtain ⟨N6, eo, ho⟩ := ho
        subst eo
        obtain ⟨p3, b3, hN6, x6⟩ := pd_x ho
        refine ⟨_, rfl, ?_⟩
        have k6 := pd_e (c := 41) (k := 4) r5 rfl (by omega) x6
        show hp X (d + 3) 73 53 [some (.ref 15), some (.int x1), some (.int r1), some (.int v5)] [] a N6 _
        refine hp_il (pc' := 54) (j := 3) (Or.inr ⟨3, rfl, rfl, rfl⟩) rfl ?_
        refine hp_ri rfl rfl ?_
        refine ⟨_, N6, p3, b3, rfl, hN6, fun z => absurd z (by rw [w1]; decide), fun _ => ?_⟩
        have e4 : (if pd_g q0 M0 p = 40 then 4 else 0) = 4 := if_pos (by omega)
        have op : ∀ r, pa_R (pd_g q0 M0) n (p + 1) (4 :: s) true r → pa_R (pd_g q0 M0) n p s true r := fun r hr => pa_open w2 (Or.inl (by omega)) (by omega) (by rw [e4]; exact hr)
        rcases k6 with ⟨j1, j2⟩ | ⟨j1, j2, j3, j4, j5, j6⟩
        · exact Or.inl ⟨j1, op _ j2⟩
        · exact Or.inr ⟨j1, by omega, fun _ z => z, fun r hr => op r (j6 r (pa_close j4 (by omega) (by rw [← j2]; exact hr)))⟩
  · refine hp_al (pc' := 13) (j := 0) (Or.inr ⟨0, rfl, rfl, rfl⟩) rfl ?_
    obtain ⟨w1, w2, w3⟩ := pd_nz (q0 := q0) (n := n) (M0 := M0) (p := p) (b := b) (by omega)
    refine hp_cx (q := 15) (Q := fun o => ∃ (r : Int32) (M1 : rx_M), o = (some (.int r), a, M1) ∧ pd_S q0 n (pa_num (pd_g q0 M0) n p) b M0 M1) (pc' := 16) (e := d + 2) (vs := []) (r := []) ha rfl rfl rfl rfl rfl rfl rfl rfl (nu_ok ha hS (by rw [w1]; decide) w2 ⟨by omega, by omega⟩) (fun o ho => ?_)
    obtain ⟨v3, N3, eo, hN3⟩ := ho
    subst eo
    refine ⟨_, rfl, ?_⟩
    show hp X (d + 3) 73 16 [some (.ref 15), some (.int x1), some (.int r1), none] [.int v3] a N3 _
    refine hp_ri rfl rfl ?_
    exact ⟨_, N3, _, b, rfl, hN3, fun z => absurd z (by rw [w1]; decide), fun _ => Or.inr ⟨w1, (pa_num_le w2).1, fun _ z => z, fun r hr => pa_digit w2 ⟨by omega, by omega⟩ hr⟩⟩
theorem at_all : ∀ (L : Nat) (s : List Nat) (d : Nat), s.length + L = 8 → pd_H X q0 n M0 73 2 (d + 4 * L + 3) pd_o0 s
  | 0, s, d, h => at_ok (by omega) (fun w => absurd w (by omega)) (fun w => absurd w (by omega))
  | L + 1, s, d, h => by
    have A : ∀ k d : Nat, pd_H X q0 n M0 70 4 (d + 4 * L + 3 + 2) pd_o2 (k :: s) := fun k d => su_ok (pr_ok (at_all L (k :: s) d (by rw [List.length_cons]; omega)))
    have e : d + 4 * (L + 1) + 3 = (d + 4 * L + 4) + 3 := by omega
    rw [e]
    refine at_ok (by omega) (fun _ => ?_) (fun _ => ?_)
    · have B := A 4 (d + 1)
      rw [show d + 1 + 4 * L + 3 + 2 = d + 4 * L + 4 + 2 by omega] at B
      exact B
    · exact ch_ok (d := d + 4 * L + 4) (A 0 d) (A 1 d) (A 2 d) (A 3 d)
end PDM
