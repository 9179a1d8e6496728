/-! calls that the kit's own rows walk: max, min, arraycopy, Object.<init> -/
theorem rx_ml_ok {c x : Nat} {q : Nat × Nat × Nat} (h : rx_ml c x = some q) : rx_okM c x = true := by
  obtain ⟨hc, hx, -⟩ := rx_in2 h
  exact rx_mk hc hx
theorem rx_c8_ok {ρ : Nat → Nat} {vs : List Value} (h : rx_c8 vs = true) : ((vs.map (rx_tr ρ)).map fun v => v.category).sum ≤ 8 := by
  rw [List.map_map, show ((fun v => v.category) ∘ rx_tr ρ) = fun v : Value => v.category from funext fun v => rx_tr_cat ρ v]
  exact Nat.le_of_ble_eq_true h
theorem rx_cp_ne {f : Nat → Nat → Int32} {k s e d n j : Nat} (hj : j ≠ e) : rx_cp f k s e d n j = f j := by
  funext b
  unfold rx_cp
  rw [if_neg hj]
theorem rx_cnd_no {b : Bool} {z : (Nat × List Value × rx_C) ⊕ Option Value} {g : rx_C} (h : cond b (some (Sum.inr z : rx_R)) none = some (.inl g)) : False := by cases b <;> cases h
section RXI
variable {X : Nat × (Nat → Int32)} {p : Program} {l : Launch} {e : Env} {R : Room} {s : State} {m : MethodId} {args : Array Value} {below : List Frame} {meth : Method} {c : Code} {Q : State → Prop} {i d : Nat} {A : Nat → Prop} {D : va_G} {I : rx_I} {k0 : Nat × Nat} {ρ0 : Nat → Nat} {n0 : Nat}
variable {pc : Nat} {ls : List (Option Value)} {st r : List Value} {a : rx_K} {M : rx_M}
noncomputable def rx_ivi (w x : Nat) : Instr := match w with
  | 0 => .invokevirtual x
  | 1 => .invokestatic x
  | _ => .invokespecial x
theorem rx_cpy_fits {ty : FieldType} (h : ty = .int) (f : Nat → Int32) (sp : Int32) (n : Nat) : ∀ i, i < n → fits ty (.int (f (sp.toNatClampNeg + i))) = true := fun _ _ => by rw [h]; rfl
theorem rx_s_inv (S : rx_St p R s m args meth c i d A D I) {w x : Nat} {g : rx_C} (hd : decode (rx_c i) pc = .ok (rx_ivi w x, 3)) (h : rx_inv w (rx_cn i) x pc ls st a M = some (.inl g)) (hc : g.2.2.2.1.2.1 ≤ k0.1 + R.cells) (hs : g.2.2.2.1.2.2 ≤ k0.2 + R.slots) (kk : rx_WA X p l e R s m args below meth c Q i A D I k0 ρ0 n0 g) : rx_WA X p l e R s m args below meth c Q i A D I k0 ρ0 n0 (pc, ls, st, a, M) := by
  unfold rx_inv at h
  split at h
  · cases h
  · rename_i kind j n hm
    have hM := rx_ml_ok hm
    unfold rx_okM at hM
    rw [hm] at hM
    generalize hp : rx_mlp (rx_cn i) x = P at hM
    obtain ⟨p0, p1, p2, p3, p4⟩ := P
    have hfr := S.2.2.2.2.2.2.2.2.1
    have hlo := S.2.2.2.2.2.2.2.2.2.1
    split at h
    · simp only [Bool.and_eq_true] at hM
      obtain ⟨⟨⟨w1, w2⟩, w3⟩, w4⟩ := hM
      split at h
      · rename_i hw
        subst hw
        split at h
        · rename_i y z r
          cases h8 : rx_c8 r with
          | false => rw [h8] at h; cases h
          | true =>
            rw [h8] at h
            unfold rx_nx at h
            cases h
            intro ρ H locs lsr cells slots hρ hD hcl hsl
            dsimp only at hcl hsl hD
            have hsz : c.maxLocals = lsr.size := S.2.2.1.trans hD.2.2.2.1.2.1.symm
            have h82 := rx_c8_ok (ρ := ρ) h8
            dsimp only at hc hs
            exact va_mmax S.1 S.2.1 hsz S.2.2.2.1 (S.2.2.2.2.1 _ (rx_B_mem (rx_tt_mem w1) rfl)) (S.2.2.2.2.1 _ (rx_B_mem (rx_tt_mem w2) rfl)) (S.2.2.2.2.1 _ (rx_B_mem (rx_tt_mem w3) rfl)) (S.2.2.2.2.1 _ (rx_B_mem (rx_tt_mem w4) rfl)) (by omega) (by omega) (by omega) (by omega) hd (kk ρ H locs lsr cells slots hρ (hD.stk (rx_cs rx_rk_i (rx_tl (rx_tl hD.st)))) hcl hsl)
        · cases h
      · cases h
    · simp only [Bool.and_eq_true] at hM
      obtain ⟨⟨⟨w1, w2⟩, w3⟩, w4⟩ := hM
      split at h
      · rename_i hw
        subst hw
        split at h
        · rename_i y z r
          cases h8 : rx_c8 r with
          | false => rw [h8] at h; cases h
          | true =>
            rw [h8] at h
            unfold rx_nx at h
            cases h
            intro ρ H locs lsr cells slots hρ hD hcl hsl
            dsimp only at hcl hsl hD
            have hsz : c.maxLocals = lsr.size := S.2.2.1.trans hD.2.2.2.1.2.1.symm
            have h82 := rx_c8_ok (ρ := ρ) h8
            dsimp only at hc hs
            exact va_mmin S.1 S.2.1 hsz S.2.2.2.1 (S.2.2.2.2.1 _ (rx_B_mem (rx_tt_mem w1) rfl)) (S.2.2.2.2.1 _ (rx_B_mem (rx_tt_mem w2) rfl)) (S.2.2.2.2.1 _ (rx_B_mem (rx_tt_mem w3) rfl)) (S.2.2.2.2.1 _ (rx_B_mem (rx_tt_mem w4) rfl)) (by omega) (by omega) (by omega) (by omega) hd (kk ρ H locs lsr cells slots hρ (hD.stk (rx_cs rx_rk_i (rx_tl (rx_tl hD.st)))) hcl hsl)
        · cases h
      · cases h
    · simp only [Bool.and_eq_true] at hM
      obtain ⟨⟨⟨w1, w2⟩, w3⟩, w4⟩ := hM
      split at h
      · rename_i hw
        subst hw
        split at h
        · rename_i cnt dp e9 sp q r
          split at h
          · rename_i nA nB hl0 hl1
            split at h
            · rename_i hh
              obtain ⟨hq, he, g1, g2, g3, g4, g5⟩ := hh
              cases h8 : rx_c8 r with
              | false => rw [h8] at h; cases h
              | true =>
                rw [h8] at h
                unfold rx_nx at h
                cases h
                intro ρ H locs lsr cells slots hρ hD hcl hsl
                dsimp only at hcl hsl hD
                have hsz : c.maxLocals = lsr.size := S.2.2.1.trans hD.2.2.2.1.2.1.symm
                have h82 := rx_c8_ok (ρ := ρ) h8
                dsimp only at hc hs
                have a0 : (rx_wl I ρ M a.1)[q]? = some (ρ q, .inl (I.1, nA, .inl (M.1 q))) := by rw [rx_wl_get hq, rx_ce_0 hl0]
                have a1 : (rx_wl I ρ M a.1)[e9]? = some (ρ e9, .inl (I.1, nB, .inl (M.1 e9))) := by rw [rx_wl_get he, rx_ce_0 hl1]
                have hset : (rx_wl I ρ M a.1).set e9 (ρ e9, .inl (I.1, nB, .inl (va_cpy (M.1 q) (M.1 e9) sp.toNatClampNeg dp.toNatClampNeg cnt.toNatClampNeg))) = rx_wl I ρ (rx_cp M.1 q sp.toNatClampNeg e9 dp.toNatClampNeg cnt.toNatClampNeg, M.2.1, M.2.2) a.1 := rx_put_world (M := M) (M' := (rx_cp M.1 q sp.toNatClampNeg e9 dp.toNatClampNeg cnt.toNatClampNeg, M.2.1, M.2.2)) he (fun j hj => rx_cp_ne hj) (fun _ _ => rfl) (fun _ _ => rfl) (by
                  rw [rx_ce_0 hl1]
                  have : rx_cp M.1 q sp.toNatClampNeg e9 dp.toNatClampNeg cnt.toNatClampNeg e9 = va_cpy (M.1 q) (M.1 e9) sp.toNatClampNeg dp.toNatClampNeg cnt.toNatClampNeg := by
                    funext b
                    unfold rx_cp
                    rw [if_pos rfl]
                  exact congrArg (fun z => (Sum.inl (I.1, nB, Sum.inl z) : va_E)) this.symm)
                have hloc : ((r.map (rx_tr ρ)).map fun v => v.category).sum + (nativeFrameWords "java/lang/System" "arraycopy" 5 + 11) ≤ R.locals := by
                  have : nativeFrameWords "java/lang/System" "arraycopy" 5 ≤ 100 := by decide
                  omega
                refine va_copyi (ty := .int) S.1 S.2.1 hsz S.2.2.2.1 (S.2.2.2.2.1 _ (rx_B_mem (rx_tt_mem w1) rfl)) (S.2.2.2.2.1 _ (rx_B_mem (rx_tt_mem w2) rfl)) (S.2.2.2.2.1 _ (rx_B_mem (rx_tt_mem w3) rfl)) (S.2.2.2.2.1 _ (rx_B_mem (rx_tt_mem w4) rfl)) S.2.2.2.2.2.2.1 hD.1 hD.2.1 hD.2.2.1 q e9 0 0 a0 a1 rfl rfl rfl g1 g2 g3 g4 g5 (rx_cpy_fits rfl _ _ _) (by omega) hloc hd (fun H1 locs1 q1 q2 q3 => ?_)
                rw [hset] at q1 q2
                exact kk ρ H1 locs1 lsr cells slots hρ ⟨q1, q2, q3, hD.2.2.2.1, hD.2.2.2.2.1, hD.2.2.2.2.2.1, hD.2.2.2.2.2.2.1, rx_tl (rx_tl (rx_tl (rx_tl (rx_tl hD.st)))), rx_mok_i hD.2.2.2.2.2.2.2.2.1 he (fun k hk => rx_cp_ne hk), hD.2.2.2.2.2.2.2.2.2⟩ hcl hsl
            · cases h
          · cases h
        · cases h
      · cases h
    · simp only [Bool.and_eq_true] at hM
      obtain ⟨⟨w1, w2⟩, w3⟩ := hM
      split at h
      · rename_i hw
        subst hw
        split at h
        · rename_i b r
          cases h8 : rx_c8 r with
          | false => rw [h8] at h; cases h
          | true =>
            rw [h8] at h
            unfold rx_nx at h
            cases h
            intro ρ H locs lsr cells slots hρ hD hcl hsl
            dsimp only at hcl hsl hD
            have hsz : c.maxLocals = lsr.size := S.2.2.1.trans hD.2.2.2.1.2.1.symm
            have h82 := rx_c8_ok (ρ := ρ) h8
            refine W.objInit S.1 S.2.1 S.2.2.2.1 (S.2.2.2.2.1 _ (rx_B_mem (rx_tt_mem w1) rfl)) (S.2.2.2.2.1 _ (rx_B_mem (rx_tt_mem w2) rfl)) (S.2.2.2.2.1 _ (rx_B_mem (rx_tt_mem w3) rfl)) (g := F0 m pc lsr (.ref (ρ b) :: r.map (rx_tr ρ))) rfl hsz.symm rfl hd (by omega) (by show 2 * 0 + _ + 12 ≤ _; omega) ?_
            exact kk ρ H locs lsr cells slots hρ (hD.stk (rx_tl hD.st)) hcl hsl
        · cases h
      · cases h
    · cases hw : Nat.beq w (rx_kw kind) with
      | false => rw [hw] at h; cases h
      | true =>
        rw [hw] at h
        simp only [cond_true] at h
        cases hw1 : Nat.beq w 1 with
        | true =>
          rw [hw1] at h
          simp only [cond_true] at h
          exact absurd h (fun z => rx_cnd_no z)
        | false =>
          rw [hw1] at h
          simp only [cond_false] at h
          split at h
          · split at h
            · split at h
              · split at h
                · exact absurd h (fun z => rx_cnd_no z)
                · cases h
              · cases h
            · cases h
          · cases h
end RXI
