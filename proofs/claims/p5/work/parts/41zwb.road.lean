/-! road, of both sides, by hand -/
noncomputable def rd_ok (x1 x2 x3 : Int) : Prop := (0 ≤ x1 ∧ x1 ≤ 5) ∧ (0 ≤ x2 ∧ x2 ≤ 5) ∧ x1 ≠ x2 ∧ 0 ≤ x3 ∧ x3 ≤ 15
noncomputable def rd_vx (M : rx_M) (A B : Nat) : Int32 := M.1 (8 + A) B
noncomputable def rd_vm (M : rx_M) (A B : Nat) : Int32 := M.1 248 (6 * A + B)
noncomputable def rd_Fx (A B : Nat) (x : Int32) (M M1 : rx_M) : Prop := M1.1 (8 + A) B = x ∧ M1.1 (8 + B) A = x ∧ ∀ q j, ¬ (q = 8 + A ∧ j = B) → ¬ (q = 8 + B ∧ j = A) → M1.1 q j = M.1 q j
noncomputable def rd_Fm (A B : Nat) (x : Int32) (M M1 : rx_M) : Prop := M1.1 248 (6 * A + B) = x ∧ M1.1 248 (6 * B + A) = x ∧ ∀ q j, ¬ (q = 248 ∧ j = 6 * A + B) → ¬ (q = 248 ∧ j = 6 * B + A) → M1.1 q j = M.1 q j
noncomputable def rd_Q (v : rx_M → Nat → Nat → Int32) (F : Nat → Nat → Int32 → rx_M → rx_M → Prop) (x1 x2 x3 : Int32) (a : rx_K) (M : rx_M) (o : rx_O) : Prop := ∃ (r : Int32) (M1 : rx_M), o = (some (.int r), a, M1) ∧ M1.2 = M.2 ∧ ((¬ rd_ok x1.toInt x2.toInt x3.toInt ∧ r.toInt = -1 ∧ M1.1 = M.1) ∨ (rd_ok x1.toInt x2.toInt x3.toInt ∧ r = v M x1.toInt.toNat x2.toInt.toNat ∧ F x1.toInt.toNat x2.toInt.toNat x3 M M1))
theorem rd_sp {q j : Nat} (h : (8 ≤ q ∧ q ≤ 13) ∨ q = 248) : ax_sp q j = (0, 15) := by
  have h : q = 8 ∨ q = 9 ∨ q = 10 ∨ q = 11 ∨ q = 12 ∨ q = 13 ∨ q = 248 := by omega
  rcases h with rfl | rfl | rfl | rfl | rfl | rfl | rfl <;> rfl
theorem rd_J {M M1 : rx_M} (hJ : ax_J0 ax_sp ax_rf M) (g : M1.2 = M.2) (h : ∀ q j, M1.1 q j = M.1 q j ∨ (((8 ≤ q ∧ q ≤ 13) ∨ q = 248) ∧ 0 ≤ (M1.1 q j).toInt ∧ (M1.1 q j).toInt ≤ 15)) : ax_J0 ax_sp ax_rf M1 := by
  have k : ∀ q j, ¬ ((8 ≤ q ∧ q ≤ 13) ∨ q = 248) → M1.1 q j = M.1 q j := fun q j hq => by
    rcases h q j with e | ⟨w, -⟩
    · exact e
    · exact absurd w hq
  refine ⟨fun q j => ?_, fun q j z hz => ?_, ?_⟩
  · rcases h q j with e | ⟨w, w1, w2⟩
    · rw [e]
      exact hJ.1 q j
    · rw [rd_sp w]
      exact ⟨w1, w2⟩
  · rw [g]
    exact hJ.2.1 q j z hz
  · exact ax_G_of hJ.2.2 (k _ _ (by omega)) (k _ _ (by omega)) (fun e he => ⟨k _ _ (by omega), k _ _ (by omega), k _ _ (by omega), k _ _ (by omega), fun h150 i => k _ _ (by omega)⟩) (fun e he => ⟨k _ _ (by omega), k _ _ (by omega), k _ _ (by omega), k _ _ (by omega), k _ _ (by omega), fun _ i _ => k _ _ (by omega)⟩) (fun i => by
      rw [k 213 i (by omega)]
      exact hJ.2.2.2.2.1 i) (fun i => by
      rw [k 283 i (by omega), k 284 i (by omega)]
      exact hJ.2.2.2.2.2.1 i)
theorem rd_Jx {x1 x2 x3 r : Int32} {M M1 : rx_M} (hJ : ax_J0 ax_sp ax_rf M) (g : M1.2 = M.2) (h : (¬ rd_ok x1.toInt x2.toInt x3.toInt ∧ r.toInt = -1 ∧ M1.1 = M.1) ∨ (rd_ok x1.toInt x2.toInt x3.toInt ∧ r = rd_vx M x1.toInt.toNat x2.toInt.toNat ∧ rd_Fx x1.toInt.toNat x2.toInt.toNat x3 M M1)) : ax_J0 ax_sp ax_rf M1 := by
  refine rd_J hJ g (fun q j => ?_)
  rcases h with ⟨-, -, e⟩ | ⟨⟨o1, o2, o3, o4⟩, -, f1, f2, f3⟩
  · exact Or.inl (by rw [e])
  · by_cases c1 : q = 8 + x1.toInt.toNat ∧ j = x2.toInt.toNat
    · rw [c1.1, c1.2, f1]
      exact Or.inr ⟨by omega, o4⟩
    · by_cases c2 : q = 8 + x2.toInt.toNat ∧ j = x1.toInt.toNat
      · rw [c2.1, c2.2, f2]
        exact Or.inr ⟨by omega, o4⟩
      · exact Or.inl (f3 q j c1 c2)
theorem rd_Jm {x1 x2 x3 r : Int32} {M M1 : rx_M} (hJ : ax_J0 ax_sp ax_rf M) (g : M1.2 = M.2) (h : (¬ rd_ok x1.toInt x2.toInt x3.toInt ∧ r.toInt = -1 ∧ M1.1 = M.1) ∨ (rd_ok x1.toInt x2.toInt x3.toInt ∧ r = rd_vm M x1.toInt.toNat x2.toInt.toNat ∧ rd_Fm x1.toInt.toNat x2.toInt.toNat x3 M M1)) : ax_J0 ax_sp ax_rf M1 := by
  refine rd_J hJ g (fun q j => ?_)
  rcases h with ⟨-, -, e⟩ | ⟨⟨o1, o2, o3, o4⟩, -, f1, f2, f3⟩
  · exact Or.inl (by rw [e])
  · by_cases c1 : q = 248 ∧ j = 6 * x1.toInt.toNat + x2.toInt.toNat
    · rw [c1.1, c1.2, f1]
      exact Or.inr ⟨by omega, o4⟩
    · by_cases c2 : q = 248 ∧ j = 6 * x2.toInt.toNat + x1.toInt.toNat
      · rw [c2.1, c2.2, f2]
        exact Or.inr ⟨by omega, o4⟩
      · exact Or.inl (f3 q j c1 c2)
section RD
variable {X : Nat × (Nat → Int32)} {d A B : Nat} {a : rx_K} {M : rx_M} {P : rx_O → Prop} {x1 x2 x3 : Int32}
theorem ro86_ok (ha : a.1 = rx_cells) (hM : hp_R M ∧ True) (h1 : x1.toInt = (A : Int)) (hA : A < 6) (h2 : x2.toInt = (B : Int)) (hB : B < 6) (hne : A ≠ B) : hp X d 86 0 [some (.ref 6), some (.int x1), some (.int x2), some (.int x3), none] [] a M (fun o => ∃ M1 : rx_M, o = (some (.int (M.1 (8 + A) B)), a, M1) ∧ M1.2 = M.2 ∧ rd_Fx A B x3 M M1) := by
  refine hp_al (pc' := 1) (j := 0) (Or.inr ⟨0, rfl, rfl, rfl⟩) rfl ?_
  refine hp_gr (pc' := 4) ha (hM.1 6 0 7 rfl) rfl rfl rfl rfl ?_
  refine hp_il (pc' := 5) (j := 1) (Or.inr ⟨1, rfl, rfl, rfl⟩) rfl ?_
  refine hp_aal (pc' := 6) (j := A) ha (hM.1 7 A (8 + A) (rr_rf (by omega))) h1 (by omega) rfl rfl rfl ?_
  refine hp_il (pc' := 7) (j := 2) (Or.inr ⟨2, rfl, rfl, rfl⟩) rfl ?_
  refine hp_ld (pc' := 8) (j := B) ha h2 (by omega) rfl (rr_lay (by omega)) rfl ?_
  refine hp_is (pc' := 10) (j := 4) (ls' := [some (.ref 6), some (.int x1), some (.int x2), some (.int x3), some (.int (M.1 (8 + A) B))]) (Or.inl ⟨rfl, rfl⟩) (by simp) rfl ?_
  refine hp_al (pc' := 11) (j := 0) (Or.inr ⟨0, rfl, rfl, rfl⟩) rfl ?_
  refine hp_gr (pc' := 14) ha (hM.1 6 0 7 rfl) rfl rfl rfl rfl ?_
  refine hp_il (pc' := 15) (j := 1) (Or.inr ⟨1, rfl, rfl, rfl⟩) rfl ?_
  refine hp_aal (pc' := 16) (j := A) ha (hM.1 7 A (8 + A) (rr_rf (by omega))) h1 (by omega) rfl rfl rfl ?_
  refine hp_il (pc' := 17) (j := 2) (Or.inr ⟨2, rfl, rfl, rfl⟩) rfl ?_
  refine hp_il (pc' := 18) (j := 3) (Or.inr ⟨3, rfl, rfl, rfl⟩) rfl ?_
  refine hp_st (pc' := 19) (j := B) ha h2 (by omega) rfl (rr_lay (by omega)) rfl (fun M1 eM1 gM1 => ?_)
  have hM1 : hp_R M1 ∧ True := ⟨hp_Re hM.1 gM1, trivial⟩
  refine hp_al (pc' := 20) (j := 0) (Or.inr ⟨0, rfl, rfl, rfl⟩) rfl ?_
  refine hp_gr (pc' := 23) ha (hM1.1 6 0 7 rfl) rfl rfl rfl rfl ?_
  refine hp_il (pc' := 24) (j := 2) (Or.inr ⟨2, rfl, rfl, rfl⟩) rfl ?_
  refine hp_aal (pc' := 25) (j := B) ha (hM1.1 7 B (8 + B) (rr_rf (by omega))) h2 (by omega) rfl rfl rfl ?_
  refine hp_il (pc' := 26) (j := 1) (Or.inr ⟨1, rfl, rfl, rfl⟩) rfl ?_
  refine hp_il (pc' := 27) (j := 3) (Or.inr ⟨3, rfl, rfl, rfl⟩) rfl ?_
  refine hp_st (pc' := 28) (j := A) ha h1 (by omega) rfl (rr_lay (by omega)) rfl (fun M2 eM2 gM2 => ?_)
  have hM2 : hp_R M2 ∧ True := ⟨hp_Re hM1.1 gM2, trivial⟩
  refine hp_il (pc' := 30) (j := 4) (Or.inl ⟨rfl, rfl⟩) rfl ?_
  refine hp_ri rfl rfl ?_
  exact ⟨M2, rfl, gM2.trans gM1, by rw [eM2, hp_up_ne (by omega), eM1, hp_up_eq], by rw [eM2, hp_up_eq], fun q j w1 w2 => by rw [eM2, hp_up_ne (by omega), eM1, hp_up_ne (by omega)]⟩
theorem xrd_ok (ha : a.1 = rx_cells) (hM : hp_R M ∧ True) : hp X (d + 3) 108 0 [some (.ref 0), some (.int x1), some (.int x2), some (.int x3)] [] a M (rd_Q rd_vx rd_Fx x1 x2 x3 a M) := by
  have zz0 : (0 : Int32).toInt = 0 := rfl
  have zz6 : (6 : Int32).toInt = 6 := rfl
  have zz16 : (16 : Int32).toInt = 16 := rfl
  have zm1 : ((-1) : Int32).toInt = -1 := rfl
  refine hp_il (pc' := 1) (j := 1) (Or.inr ⟨1, rfl, rfl, rfl⟩) rfl ?_
  refine hp_bi (pc' := 3) (x := 6) rfl rfl rfl ?_
  refine hp_cs (Q := fun o => ∃ r : Int32, o = (some (.int r), a, M) ∧ (r.toInt = 0 ∨ r.toInt = 1) ∧ (r.toInt ≠ 0 ↔ (0 ≤ (x1 : Int32).toInt ∧ (x1 : Int32).toInt < ((6 : Int32) : Int32).toInt))) (pc' := 6) (e := (d + 2)) (vs := [.int x1, .int (6 : Int32)]) (r := []) rfl rfl (Or.inl rfl) rfl rfl rfl rfl rfl bl_ok (fun o ho => ?_)
  obtain ⟨r1, eo, qr1⟩ := ho
  subst eo
  refine ⟨_, rfl, ?_⟩
  show hp X ((d + 2) + 1) 108 6 [some (.ref 0), some (.int x1), some (.int x2), some (.int x3)] [.int r1] a M _
  refine hp_zeq (t := 32) (pc' := 9) rfl rfl rfl (fun c2 => ?_) (fun c2 => ?_)
  · refine hp_ic (pc' := 33) (x := (-1)) rfl rfl rfl ?_
    refine hp_ri rfl rfl ?_
    exact ⟨_, M, rfl, rfl, Or.inl ⟨fun w => by
      obtain ⟨w1, w2, w3, w4⟩ := w
      omega, rfl, rfl⟩⟩
  · refine hp_il (pc' := 10) (j := 2) (Or.inr ⟨2, rfl, rfl, rfl⟩) rfl ?_
    refine hp_bi (pc' := 12) (x := 6) rfl rfl rfl ?_
    refine hp_cs (Q := fun o => ∃ r : Int32, o = (some (.int r), a, M) ∧ (r.toInt = 0 ∨ r.toInt = 1) ∧ (r.toInt ≠ 0 ↔ (0 ≤ (x2 : Int32).toInt ∧ (x2 : Int32).toInt < ((6 : Int32) : Int32).toInt))) (pc' := 15) (e := (d + 2)) (vs := [.int x2, .int (6 : Int32)]) (r := []) rfl rfl (Or.inl rfl) rfl rfl rfl rfl rfl bl_ok (fun o ho => ?_)
    obtain ⟨r3, eo, qr3⟩ := ho
    subst eo
    refine ⟨_, rfl, ?_⟩
    show hp X ((d + 2) + 1) 108 15 [some (.ref 0), some (.int x1), some (.int x2), some (.int x3)] [.int r3] a M _
    refine hp_zeq (t := 32) (pc' := 18) rfl rfl rfl (fun c4 => ?_) (fun c4 => ?_)
    · refine hp_ic (pc' := 33) (x := (-1)) rfl rfl rfl ?_
      refine hp_ri rfl rfl ?_
      exact ⟨_, M, rfl, rfl, Or.inl ⟨fun w => by
        obtain ⟨w1, w2, w3, w4⟩ := w
        omega, rfl, rfl⟩⟩
    · refine hp_il (pc' := 19) (j := 1) (Or.inr ⟨1, rfl, rfl, rfl⟩) rfl ?_
      refine hp_il (pc' := 20) (j := 2) (Or.inr ⟨2, rfl, rfl, rfl⟩) rfl ?_
      refine hp_ieq (t := 32) (pc' := 23) rfl rfl rfl (fun c5 => ?_) (fun c5 => ?_)
      · refine hp_ic (pc' := 33) (x := (-1)) rfl rfl rfl ?_
        refine hp_ri rfl rfl ?_
        exact ⟨_, M, rfl, rfl, Or.inl ⟨fun w => by
          obtain ⟨w1, w2, w3, w4⟩ := w
          omega, rfl, rfl⟩⟩
      · refine hp_il (pc' := 24) (j := 3) (Or.inr ⟨3, rfl, rfl, rfl⟩) rfl ?_
        refine hp_bi (pc' := 26) (x := 16) rfl rfl rfl ?_
        refine hp_cs (Q := fun o => ∃ r : Int32, o = (some (.int r), a, M) ∧ (r.toInt = 0 ∨ r.toInt = 1) ∧ (r.toInt ≠ 0 ↔ (0 ≤ (x3 : Int32).toInt ∧ (x3 : Int32).toInt < ((16 : Int32) : Int32).toInt))) (pc' := 29) (e := (d + 2)) (vs := [.int x3, .int (16 : Int32)]) (r := []) rfl rfl (Or.inl rfl) rfl rfl rfl rfl rfl bl_ok (fun o ho => ?_)
        obtain ⟨r6, eo, qr6⟩ := ho
        subst eo
        refine ⟨_, rfl, ?_⟩
        show hp X ((d + 2) + 1) 108 29 [some (.ref 0), some (.int x1), some (.int x2), some (.int x3)] [.int r6] a M _
        refine hp_zne (t := 34) (pc' := 32) rfl rfl rfl (fun c7 => ?_) (fun c7 => ?_)
        · have hq1 := qr1.2.mp (by assumption)
          have hq2 := qr3.2.mp (by assumption)
          have hq3 := qr6.2.mp (by assumption)
          obtain ⟨A, h1, hA⟩ : ∃ A : Nat, x1.toInt = (A : Int) ∧ A < 6 := ⟨x1.toInt.toNat, by omega, by omega⟩
          obtain ⟨B, h2, hB⟩ : ∃ B : Nat, x2.toInt = (B : Int) ∧ B < 6 := ⟨x2.toInt.toNat, by omega, by omega⟩
          have eA : x1.toInt.toNat = A := by omega
          have eB : x2.toInt.toNat = B := by omega
          have hne : A ≠ B := fun w => by omega
          have hok : rd_ok x1.toInt x2.toInt x3.toInt := ⟨⟨by omega, by omega⟩, ⟨by omega, by omega⟩, by omega, by omega, by omega⟩
          refine hp_al (pc' := 35) (j := 0) (Or.inr ⟨0, rfl, rfl, rfl⟩) rfl ?_
          refine hp_gr (pc' := 38) ha (hM.1 0 1 6 rfl) rfl rfl rfl rfl ?_
          refine hp_il (pc' := 39) (j := 1) (Or.inr ⟨1, rfl, rfl, rfl⟩) rfl ?_
          refine hp_il (pc' := 40) (j := 2) (Or.inr ⟨2, rfl, rfl, rfl⟩) rfl ?_
          refine hp_il (pc' := 41) (j := 3) (Or.inr ⟨3, rfl, rfl, rfl⟩) rfl ?_
          refine hp_cx (q := 6) (Q := (fun o => ∃ M1 : rx_M, o = (some (.int (M.1 (8 + A) B)), a, M1) ∧ M1.2 = M.2 ∧ rd_Fx A B x3 M M1)) (pc' := 44) (e := d + 2) (vs := [.int x1, .int x2, .int x3]) (r := []) ha rfl rfl rfl rfl rfl rfl rfl rfl (ro86_ok ha hM h1 hA h2 hB hne) (fun o ho => ?_)
          obtain ⟨M9, eo, g9, f9⟩ := ho
          subst eo
          refine ⟨_, rfl, ?_⟩
          show hp X (d + 3) 108 44 [some (.ref 0), some (.int x1), some (.int x2), some (.int x3)] [.int (M.1 (8 + A) B)] a M9 _
          refine hp_ri rfl rfl ?_
          exact ⟨_, M9, rfl, g9, Or.inr ⟨hok, by rw [eA, eB]; rfl, by rw [eA, eB]; exact f9⟩⟩
        · refine hp_ic (pc' := 33) (x := (-1)) rfl rfl rfl ?_
          refine hp_ri rfl rfl ?_
          exact ⟨_, M, rfl, rfl, Or.inl ⟨fun w => by
            obtain ⟨w1, w2, w3, w4⟩ := w
            omega, rfl, rfl⟩⟩
theorem mrd_ok (ha : a.1 = rx_cells) (hM : hp_R M ∧ True) : hp X (d + 1) 164 0 [some (.ref 244), some (.int x1), some (.int x2), some (.int x3), none] [] a M (rd_Q rd_vm rd_Fm x1 x2 x3 a M) := by
  have zz0 : (0 : Int32).toInt = 0 := rfl
  have zz5 : (5 : Int32).toInt = 5 := rfl
  have zz15 : (15 : Int32).toInt = 15 := rfl
  have zm1 : ((-1) : Int32).toInt = -1 := rfl
  refine hp_al (pc' := 1) (j := 0) (Or.inr ⟨0, rfl, rfl, rfl⟩) rfl ?_
  refine hp_il (pc' := 2) (j := 1) (Or.inr ⟨1, rfl, rfl, rfl⟩) rfl ?_
  refine hp_ic (pc' := 3) (x := 0) rfl rfl rfl ?_
  refine hp_ic (pc' := 4) (x := 5) rfl rfl rfl ?_
  refine hp_cv (Q := fun o => ∃ r : Int32, o = (some (.int r), a, M) ∧ (r.toInt = 0 ∨ r.toInt = 1) ∧ (r.toInt ≠ 0 ↔ (((0 : Int32) : Int32).toInt ≤ (x1 : Int32).toInt ∧ (x1 : Int32).toInt ≤ ((5 : Int32) : Int32).toInt))) (pc' := 7) (e := d) (vs := [.int x1, .int (0 : Int32), .int (5 : Int32)]) (r := []) ha rfl rfl rfl rfl rfl rfl rfl rfl in_ok (fun o ho => ?_)
  obtain ⟨r1, eo, qr1⟩ := ho
  subst eo
  refine ⟨_, rfl, ?_⟩
  show hp X (d + 1) 164 7 [some (.ref 244), some (.int x1), some (.int x2), some (.int x3), none] [.int r1] a M _
  refine hp_zeq (t := 36) (pc' := 10) rfl rfl rfl (fun c2 => ?_) (fun c2 => ?_)
  · refine hp_ic (pc' := 37) (x := (-1)) rfl rfl rfl ?_
    refine hp_ri rfl rfl ?_
    exact ⟨_, M, rfl, rfl, Or.inl ⟨fun w => by
      obtain ⟨w1, w2, w3, w4⟩ := w
      omega, rfl, rfl⟩⟩
  · refine hp_al (pc' := 11) (j := 0) (Or.inr ⟨0, rfl, rfl, rfl⟩) rfl ?_
    refine hp_il (pc' := 12) (j := 2) (Or.inr ⟨2, rfl, rfl, rfl⟩) rfl ?_
    refine hp_ic (pc' := 13) (x := 0) rfl rfl rfl ?_
    refine hp_ic (pc' := 14) (x := 5) rfl rfl rfl ?_
    refine hp_cv (Q := fun o => ∃ r : Int32, o = (some (.int r), a, M) ∧ (r.toInt = 0 ∨ r.toInt = 1) ∧ (r.toInt ≠ 0 ↔ (((0 : Int32) : Int32).toInt ≤ (x2 : Int32).toInt ∧ (x2 : Int32).toInt ≤ ((5 : Int32) : Int32).toInt))) (pc' := 17) (e := d) (vs := [.int x2, .int (0 : Int32), .int (5 : Int32)]) (r := []) ha rfl rfl rfl rfl rfl rfl rfl rfl in_ok (fun o ho => ?_)
    obtain ⟨r3, eo, qr3⟩ := ho
    subst eo
    refine ⟨_, rfl, ?_⟩
    show hp X (d + 1) 164 17 [some (.ref 244), some (.int x1), some (.int x2), some (.int x3), none] [.int r3] a M _
    refine hp_zeq (t := 36) (pc' := 20) rfl rfl rfl (fun c4 => ?_) (fun c4 => ?_)
    · refine hp_ic (pc' := 37) (x := (-1)) rfl rfl rfl ?_
      refine hp_ri rfl rfl ?_
      exact ⟨_, M, rfl, rfl, Or.inl ⟨fun w => by
        obtain ⟨w1, w2, w3, w4⟩ := w
        omega, rfl, rfl⟩⟩
    · refine hp_il (pc' := 21) (j := 1) (Or.inr ⟨1, rfl, rfl, rfl⟩) rfl ?_
      refine hp_il (pc' := 22) (j := 2) (Or.inr ⟨2, rfl, rfl, rfl⟩) rfl ?_
      refine hp_ieq (t := 36) (pc' := 25) rfl rfl rfl (fun c5 => ?_) (fun c5 => ?_)
      · refine hp_ic (pc' := 37) (x := (-1)) rfl rfl rfl ?_
        refine hp_ri rfl rfl ?_
        exact ⟨_, M, rfl, rfl, Or.inl ⟨fun w => by
          obtain ⟨w1, w2, w3, w4⟩ := w
          omega, rfl, rfl⟩⟩
      · refine hp_al (pc' := 26) (j := 0) (Or.inr ⟨0, rfl, rfl, rfl⟩) rfl ?_
        refine hp_il (pc' := 27) (j := 3) (Or.inr ⟨3, rfl, rfl, rfl⟩) rfl ?_
        refine hp_ic (pc' := 28) (x := 0) rfl rfl rfl ?_
        refine hp_bi (pc' := 30) (x := 15) rfl rfl rfl ?_
        refine hp_cv (Q := fun o => ∃ r : Int32, o = (some (.int r), a, M) ∧ (r.toInt = 0 ∨ r.toInt = 1) ∧ (r.toInt ≠ 0 ↔ (((0 : Int32) : Int32).toInt ≤ (x3 : Int32).toInt ∧ (x3 : Int32).toInt ≤ ((15 : Int32) : Int32).toInt))) (pc' := 33) (e := d) (vs := [.int x3, .int (0 : Int32), .int (15 : Int32)]) (r := []) ha rfl rfl rfl rfl rfl rfl rfl rfl in_ok (fun o ho => ?_)
        obtain ⟨r6, eo, qr6⟩ := ho
        subst eo
        refine ⟨_, rfl, ?_⟩
        show hp X (d + 1) 164 33 [some (.ref 244), some (.int x1), some (.int x2), some (.int x3), none] [.int r6] a M _
        refine hp_zne (t := 38) (pc' := 36) rfl rfl rfl (fun c7 => ?_) (fun c7 => ?_)
        · have hq1 := qr1.2.mp (by assumption)
          have hq2 := qr3.2.mp (by assumption)
          have hq3 := qr6.2.mp (by assumption)
          obtain ⟨A, h1, hA⟩ : ∃ A : Nat, x1.toInt = (A : Int) ∧ A < 6 := ⟨x1.toInt.toNat, by omega, by omega⟩
          obtain ⟨B, h2, hB⟩ : ∃ B : Nat, x2.toInt = (B : Int) ∧ B < 6 := ⟨x2.toInt.toNat, by omega, by omega⟩
          have eA : x1.toInt.toNat = A := by omega
          have eB : x2.toInt.toNat = B := by omega
          have hne : A ≠ B := fun w => by omega
          have hok : rd_ok x1.toInt x2.toInt x3.toInt := ⟨⟨by omega, by omega⟩, ⟨by omega, by omega⟩, by omega, by omega, by omega⟩
          refine hp_al (pc' := 39) (j := 0) (Or.inr ⟨0, rfl, rfl, rfl⟩) rfl ?_
          refine hp_gr (pc' := 42) ha (hM.1 244 6 248 rfl) rfl rfl rfl rfl ?_
          refine hp_bi (pc' := 44) (x := 6) rfl rfl rfl ?_
          refine hp_il (pc' := 45) (j := 1) (Or.inr ⟨1, rfl, rfl, rfl⟩) rfl ?_
          refine hp_mul (pc' := 46) rfl rfl (fun z8 hz8 => ?_)
          have xz8 : z8.toInt = (((6 * A) : Nat) : Int) := hp_m6 h1 (by omega) hz8
          refine hp_il (pc' := 47) (j := 2) (Or.inr ⟨2, rfl, rfl, rfl⟩) rfl ?_
          refine hp_add (pc' := 48) rfl rfl (fun z9 hz9 => ?_)
          have xz9 : z9.toInt = (((6 * A + B) : Nat) : Int) := hp_aa xz8 h2 (by omega) hz9
          refine hp_ld (pc' := 49) (j := (6 * A + B)) ha xz9 (by omega) rfl rfl rfl ?_
          refine hp_is (pc' := 51) (j := 4) (ls' := [some (.ref 244), some (.int x1), some (.int x2), some (.int x3), some (.int (M.1 248 (6 * A + B)))]) (Or.inl ⟨rfl, rfl⟩) (by simp) rfl ?_
          refine hp_al (pc' := 52) (j := 0) (Or.inr ⟨0, rfl, rfl, rfl⟩) rfl ?_
          refine hp_gr (pc' := 55) ha (hM.1 244 6 248 rfl) rfl rfl rfl rfl ?_
          refine hp_bi (pc' := 57) (x := 6) rfl rfl rfl ?_
          refine hp_il (pc' := 58) (j := 1) (Or.inr ⟨1, rfl, rfl, rfl⟩) rfl ?_
          refine hp_mul (pc' := 59) rfl rfl (fun z10 hz10 => ?_)
          have xz10 : z10.toInt = (((6 * A) : Nat) : Int) := hp_m6 h1 (by omega) hz10
          refine hp_il (pc' := 60) (j := 2) (Or.inr ⟨2, rfl, rfl, rfl⟩) rfl ?_
          refine hp_add (pc' := 61) rfl rfl (fun z11 hz11 => ?_)
          have xz11 : z11.toInt = (((6 * A + B) : Nat) : Int) := hp_aa xz10 h2 (by omega) hz11
          refine hp_il (pc' := 62) (j := 3) (Or.inr ⟨3, rfl, rfl, rfl⟩) rfl ?_
          refine hp_st (pc' := 63) (j := (6 * A + B)) ha xz11 (by omega) rfl rfl rfl (fun M12 eM12 gM12 => ?_)
          have hM12 : hp_R M12 ∧ True := ⟨hp_Re hM.1 gM12, trivial⟩
          refine hp_al (pc' := 64) (j := 0) (Or.inr ⟨0, rfl, rfl, rfl⟩) rfl ?_
          refine hp_gr (pc' := 67) ha (hM12.1 244 6 248 rfl) rfl rfl rfl rfl ?_
          refine hp_bi (pc' := 69) (x := 6) rfl rfl rfl ?_
          refine hp_il (pc' := 70) (j := 2) (Or.inr ⟨2, rfl, rfl, rfl⟩) rfl ?_
          refine hp_mul (pc' := 71) rfl rfl (fun z13 hz13 => ?_)
          have xz13 : z13.toInt = (((6 * B) : Nat) : Int) := hp_m6 h2 (by omega) hz13
          refine hp_il (pc' := 72) (j := 1) (Or.inr ⟨1, rfl, rfl, rfl⟩) rfl ?_
          refine hp_add (pc' := 73) rfl rfl (fun z14 hz14 => ?_)
          have xz14 : z14.toInt = (((6 * B + A) : Nat) : Int) := hp_aa xz13 h1 (by omega) hz14
          refine hp_il (pc' := 74) (j := 3) (Or.inr ⟨3, rfl, rfl, rfl⟩) rfl ?_
          refine hp_st (pc' := 75) (j := (6 * B + A)) ha xz14 (by omega) rfl rfl rfl (fun M15 eM15 gM15 => ?_)
          have hM15 : hp_R M15 ∧ True := ⟨hp_Re hM12.1 gM15, trivial⟩
          refine hp_il (pc' := 77) (j := 4) (Or.inl ⟨rfl, rfl⟩) rfl ?_
          refine hp_ri rfl rfl ?_
          exact ⟨_, M15, rfl, gM15.trans gM12, Or.inr ⟨hok, by rw [eA, eB]; rfl, by
            rw [eA, eB]
            exact ⟨by rw [eM15, hp_up_ne (by omega), eM12, hp_up_eq], by rw [eM15, hp_up_eq], fun q j w1 w2 => by rw [eM15, hp_up_ne (by omega), eM12, hp_up_ne (by omega)]⟩⟩⟩
        · refine hp_ic (pc' := 37) (x := (-1)) rfl rfl rfl ?_
          refine hp_ri rfl rfl ?_
          exact ⟨_, M, rfl, rfl, Or.inl ⟨fun w => by
            obtain ⟨w1, w2, w3, w4⟩ := w
            omega, rfl, rfl⟩⟩
end RD
