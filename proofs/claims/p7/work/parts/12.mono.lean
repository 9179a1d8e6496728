/-! what is made stays made -/
theorem rx_nx_a {pc : Nat} {ls : List (Option Value)} {st : List Value} {a : rx_K} {M : rx_M} {g : rx_C} (h : rx_nx pc ls st a M = some (.inl g)) : g.2.2.2.1 = a := by
  unfold rx_nx at h
  cases h
  rfl
noncomputable def rx_le (a b : rx_K) : Prop := a.1 ≤ b.1 ∧ a.2.1 ≤ b.2.1 ∧ a.2.2 ≤ b.2.2
theorem rx_le_rf (a : rx_K) : rx_le a a := ⟨Nat.le_refl _, Nat.le_refl _, Nat.le_refl _⟩
theorem rx_le_tr {a b c : rx_K} (h : rx_le a b) (k : rx_le b c) : rx_le a c := ⟨Nat.le_trans h.1 k.1, Nat.le_trans h.2.1 k.2.1, Nat.le_trans h.2.2 k.2.2⟩
theorem rx_le_nx {pc : Nat} {ls : List (Option Value)} {st : List Value} {a b : rx_K} {M : rx_M} {g : rx_C} (hb : rx_le a b) (h : rx_nx pc ls st b M = some (.inl g)) : rx_le a g.2.2.2.1 := by
  rw [rx_nx_a h]
  exact hb
set_option maxHeartbeats 4000000 in
theorem rx_stp_le {X : Nat × (Nat → Int32)} {i pc : Nat} {ls : List (Option Value)} {st : List Value} {a : rx_K} {M : rx_M} {g : rx_C} (h : rx_stp X i (pc, ls, st, a, M) = some (.inl g)) : rx_le a g.2.2.2.1 := by
  have hr := rx_le_rf a
  unfold rx_stp at h
  dsimp only at h
  split at h
  · cases h
  · unfold rx_ins at h
    simp only [rx_ld, rx_sto, rx_bin, rx_jmp, rx_br, rx_gf, rx_pf, rx_al, rx_as, rx_aln, rx_nwa, rx_mna, rx_new, rx_inv, Bool.cond_eq_ite] at h
    repeat' (split at h)
    all_goals first
      | (cases h; done)
      | exact rx_le_nx hr h
      | exact rx_le_nx ⟨by dsimp only; omega, by dsimp only; omega, by dsimp only; omega⟩ h
theorem rx_res_le {i : Nat} {c : rx_C} {r : Option Value} {a : rx_K} {M : rx_M} {g : rx_C} (h : rx_res i c r a M = some g) : rx_le a g.2.2.2.1 := by
  unfold rx_res at h
  split at h
  · cases h; exact rx_le_rf a
  · split at h
    · cases h; exact rx_le_rf a
    · cases h; exact rx_le_rf a
    · split at h
      · cases h
        exact ⟨Nat.le_refl _, by dsimp only; omega, by dsimp only; omega⟩
      · cases h
    · cases h
/-- a call's arguments stand on the stack, what is made doesn't change -/
theorem rx_stp_call {X : Nat × (Nat → Int32)} {i j pc : Nat} {ls : List (Option Value)} {st vs : List Value} {a : rx_K} {M : rx_M} {c2 : rx_C} (h : rx_stp X i (pc, ls, st, a, M) = some (.inr (.inl (j, vs, c2)))) :
    ∃ (w x kind n : Nat), rx_tb i pc = some (rx_ivi w x) ∧ rx_ml (rx_cn i) x = some (kind, j, n) ∧ w = rx_kw kind ∧ w < 3 ∧ kind ≠ 10 ∧ kind ≠ 11 ∧ kind ≠ 12 ∧ kind ≠ 13 ∧ ∃ r, c2 = (pc + 3, ls, r, a, M) ∧ rx_c8 r = true ∧ rx_cat1 (st.take n) = true ∧ (st.take n).length = n ∧
      ((w = 1 ∧ vs = (st.take n).reverse ∧ st.drop n = r) ∨ (w ≠ 1 ∧ ∃ b, vs = .ref b :: (st.take n).reverse ∧ st.drop n = .ref b :: r ∧ rx_lay b = some (.inl (rx_cn j)) ∧ b < a.1)) := by
  have inv : ∀ w x, w < 3 → rx_tb i pc = some (rx_ivi w x) → rx_inv w (rx_cn i) x pc ls st a M = some (.inr (.inl (j, vs, c2))) → ∃ (w x kind n : Nat), rx_tb i pc = some (rx_ivi w x) ∧ rx_ml (rx_cn i) x = some (kind, j, n) ∧ w = rx_kw kind ∧ w < 3 ∧ kind ≠ 10 ∧ kind ≠ 11 ∧ kind ≠ 12 ∧ kind ≠ 13 ∧ ∃ r, c2 = (pc + 3, ls, r, a, M) ∧ rx_c8 r = true ∧ rx_cat1 (st.take n) = true ∧ (st.take n).length = n ∧
      ((w = 1 ∧ vs = (st.take n).reverse ∧ st.drop n = r) ∨ (w ≠ 1 ∧ ∃ b, vs = .ref b :: (st.take n).reverse ∧ st.drop n = .ref b :: r ∧ rx_lay b = some (.inl (rx_cn j)) ∧ b < a.1)) := by
    intro w x hw3 ht h
    unfold rx_inv at h
    split at h
    · cases h
    · rename_i kind j' n hm
      have nope : ∀ {b : Bool} {pc' : Nat} {l' : List (Option Value)} {s' : List Value} {M' : rx_M}, cond b (rx_nx pc' l' s' a M') none = some (.inr (.inl (j, vs, c2))) → False := by
        intro b pc' l' s' M' h
        unfold rx_nx at h
        cases b <;> cases h
      split at h
      · split at h
        · split at h
          · exact absurd h (fun z => nope z)
          · cases h
        · cases h
      · split at h
        · split at h
          · exact absurd h (fun z => nope z)
          · cases h
        · cases h
      · split at h
        · split at h
          · split at h
            · split at h
              · exact absurd h (fun z => nope z)
              · cases h
            · cases h
          · cases h
        · cases h
      · split at h
        · split at h
          · exact absurd h (fun z => nope z)
          · cases h
        · cases h
      · rename_i k1 k2 k3 k4
        cases hw : Nat.beq w (rx_kw kind) with
        | false => rw [hw] at h; cases h
        | true =>
          rw [hw] at h
          dsimp only [cond] at h
          cases hw1 : Nat.beq w 1 with
          | true =>
            rw [hw1] at h
            dsimp only at h
            cases hb : (rx_cat1 (st.take n) && rx_c8 (st.drop n) && Nat.beq (st.take n).length n) with
            | false => rw [hb] at h; cases h
            | true =>
              rw [hb] at h
              cases h
              rw [Bool.and_eq_true, Bool.and_eq_true] at hb
              exact ⟨w, x, kind, n, ht, hm, Nat.eq_of_beq_eq_true hw, hw3, k1, k2, k3, k4, _, rfl, hb.1.2, hb.1.1, Nat.eq_of_beq_eq_true hb.2, Or.inl ⟨Nat.eq_of_beq_eq_true hw1, rfl, rfl⟩⟩
          | false =>
            rw [hw1] at h
            dsimp only at h
            split at h
            · rename_i b r hdr
              split at h
              · rename_i cc hl
                split at h
                · rename_i hba
                  split at h
                  · rename_i hcc
                    cases hb : (rx_cat1 (st.take n) && rx_c8 r && Nat.beq (st.take n).length n) with
                    | false => rw [hb] at h; cases h
                    | true =>
                      rw [hb] at h
                      cases h
                      rw [Bool.and_eq_true, Bool.and_eq_true] at hb
                      refine ⟨w, x, kind, n, ht, hm, Nat.eq_of_beq_eq_true hw, hw3, k1, k2, k3, k4, r, rfl, hb.1.2, hb.1.1, Nat.eq_of_beq_eq_true hb.2, Or.inr ⟨fun z => ?_, b, rfl, hdr, by rw [hl, hcc], hba⟩⟩
                      rw [z] at hw1
                      exact absurd hw1 (by decide)
                  · cases h
                · cases h
              · cases h
            · cases h
  unfold rx_stp at h
  dsimp only at h
  split at h
  · cases h
  · rename_i ins ht
    unfold rx_ins at h
    split at h
    all_goals first
      | exact inv 0 _ (by decide) ht h
      | exact inv 1 _ (by decide) ht h
      | exact inv 2 _ (by decide) ht h
      | exact absurd h (fun z => rx_ld_no z)
      | exact absurd h (fun z => rx_sto_no z)
      | exact absurd h (fun z => rx_bin_no z)
      | exact absurd h (fun z => rx_jmp_no z)
      | (cases h; done)
      | (try (simp only [rx_nx, rx_jmp, rx_br, rx_gf, rx_pf, rx_al, rx_as, rx_aln, rx_nwa, rx_mna, rx_new, Bool.cond_eq_ite] at h)
         repeat' (split at h)
         all_goals (cases h))
theorem rx_go_le {X : Nat × (Nat → Int32)} : ∀ (f d i : Nat) (g : rx_C) (o : rx_O), rx_go X f d i g = some o → rx_le g.2.2.2.1 o.2.1
  | 0, _, _, _, _, h => by cases h
  | f + 1, d, i, g, o, h => by
    obtain ⟨pc, ls, st, a, M⟩ := g
    unfold rx_go at h
    split at h
    · cases h
    · rename_i g' hst
      exact rx_le_tr (rx_stp_le hst) (rx_go_le f d i g' o h)
    · cases h
      exact rx_le_rf _
    · rename_i j vs c2 hst
      split at h
      · cases h
      · rename_i e
        split at h
        · cases h
        · rename_i r a2 M2 hcal
          split at h
          · cases h
          · rename_i g2 hres
            have h1 := rx_go_le f e j _ _ hcal
            have h2 := rx_res_le hres
            have h3 := rx_go_le f _ i g2 o h
            obtain ⟨_, _, _, _, _, _, _, _, _, _, _, _, r9, rfl, -⟩ := rx_stp_call hst
            exact rx_le_tr h1 (rx_le_tr h2 h3)
