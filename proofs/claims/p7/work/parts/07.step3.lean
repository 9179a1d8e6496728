/-! rows: reading, writing, their length -/
section RXA
variable {X : Nat × (Nat → Int32)} {p : Program} {l : Launch} {e : Env} {R : Room} {s : State} {m : MethodId} {args : Array Value} {below : List Frame} {meth : Method} {c : Code} {Q : State → Prop} {i d : Nat} {A : Nat → Prop} {D : va_G} {I : rx_I} {k0 : Nat × Nat} {ρ0 : Nat → Nat} {n0 : Nat}
variable {pc : Nat} {ls : List (Option Value)} {st r : List Value} {a : rx_K} {M : rx_M}
/-- which instruction reads rows of a kind -/
noncomputable def rx_ldi (t : Nat) : Instr := match t with
  | 0 => .iaload
  | 1 => .baload
  | 2 => .aaload
  | _ => .laload
theorem rx_s_ald (S : rx_St p R s m args meth c i d A D I) {t : Nat} (ht4 : t < 4) {g : rx_C} (hd : decode (rx_c i) pc = .ok (rx_ldi t, 1)) (h : rx_al X i t pc ls st a M = some (.inl g)) (kk : rx_WA X p l e R s m args below meth c Q i A D I k0 ρ0 n0 g) : rx_WA X p l e R s m args below meth c Q i A D I k0 ρ0 n0 (pc, ls, st, a, M) := by
  unfold rx_al at h
  split at h
  · rename_i x q r
    split at h
    · rename_i u n hl
      split at h
      · rename_i hq
        split at h
        · rename_i hu
          subst hu
          split at h
          · cases h
          · rename_i hin
            split at h
            · unfold rx_nx at h
              cases h
              intro ρ H locs lsr cells slots hρ hD hcl hsl
              have hrk : rx_rk a.1 (va_rf (M.2.1 q x.toNatClampNeg)) := by
                cases hz : M.2.1 q x.toNatClampNeg with
                | none => trivial
                | some z => exact Or.inl (hD.2.2.2.2.2.2.2.2.1.1 q _ z hq hz)
              have K := kk ρ H locs lsr cells slots hρ (hD.stk (rx_cs hrk (rx_tl (rx_tl hD.st)))) hcl hsl
              have he : (rx_wl I ρ M a.1)[q]? = some (ρ q, .inl (I.2.2.1, n, .inr (.inr (.inr (.inr (fun j => (M.2.1 q j).map ρ)))))) := by rw [rx_wl_get hq, rx_ce_2 hl]
              have hlt : x.toNatClampNeg < n := Nat.not_le.mp fun z => hin (Or.inr z)
              have hv : va_rf ((M.2.1 q x.toNatClampNeg).map ρ) = rx_tr ρ (va_rf (M.2.1 q x.toNatClampNeg)) := by cases M.2.1 q x.toNatClampNeg <;> rfl
              refine W.aald (v := va_rf ((M.2.1 q x.toNatClampNeg).map ρ)) (ty := .array .int) S.1 S.2.1 (hD.1 q _ he) ((S.2.2.2.2.2.2.1.2 2 (I.2.2.1, .array .int) rfl).1 n (fun j => va_rf ((M.2.1 q j).map ρ))) rfl (fun z => by cases z) (by show ¬ (x < 0 ∨ (arrV _ _ _).slots.size ≤ _); rw [arrV_size]; exact hin) (by show (arrV _ _ _).slots[_]? = _; rw [arrV_read _ _ hlt]) rfl rfl hd ?_
              rw [hv]
              exact K
            · unfold rx_nx at h
              cases h
              intro ρ H locs lsr cells slots hρ hD hcl hsl
              have K := kk ρ H locs lsr cells slots hρ (hD.stk (rx_cs rx_rk_l (rx_tl (rx_tl hD.st)))) hcl hsl
              have he : (rx_wl I ρ M a.1)[q]? = some (ρ q, .inl (I.2.2.2, n, .inr (.inl (M.2.2 q)))) := by rw [rx_wl_get hq, rx_ce_3 hl]
              exact va_lald S.1 S.2.1 S.2.2.2.2.2.2.1 hD.1 q 3 he rfl hin hd K
            · rename_i h2 h3
              unfold rx_nx at h
              cases h
              intro ρ H locs lsr cells slots hρ hD hcl hsl
              have K := kk ρ H locs lsr cells slots hρ (hD.stk (rx_cs rx_rk_i (rx_tl (rx_tl hD.st)))) hcl hsl
              match u, ht4, h2, h3, hd, hl with
              | 0, _, _, _, hd, hl =>
                have he : (rx_wl I ρ M a.1)[q]? = some (ρ q, .inl (I.1, n, .inl (M.1 q))) := by rw [rx_wl_get hq, rx_ce_0 hl]
                exact va_iald S.1 S.2.1 S.2.2.2.2.2.2.1 hD.1 q 0 he rfl hin hd K
              | 1, _, _, _, hd, hl =>
                have he : (rx_wl I ρ M a.1)[q]? = some (ρ q, .inl (I.2.1, n, .inl (M.1 q))) := by rw [rx_wl_get hq, rx_ce_1 hl]
                exact va_zald S.1 S.2.1 S.2.2.2.2.2.2.1 hD.1 q 1 he rfl hin hd K
              | 2, _, h2, _, _, _ => exact absurd rfl h2
              | 3, _, _, h3, _, _ => exact absurd rfl h3
              | u + 4, hu, _, _, _, _ => exact absurd hu (by omega)
        · cases h
      · cases h
    · cases h
    · split at h
      · rename_i hq
        split at h
        · rename_i ht
          subst ht
          split at h
          · cases h
          · rename_i hin
            unfold rx_nx at h
            cases h
            intro ρ H locs lsr cells slots hρ hD hcl hsl
            have K := kk ρ H locs lsr cells slots hρ (hD.stk (rx_cs rx_rk_i (rx_tl (rx_tl hD.st)))) hcl hsl
            obtain ⟨hX, hb, hA⟩ := hD.2.2.2.2.2.2.2.2.2 hq.2
            rw [hq.1]
            exact va_sld S.1 S.2.1 hX hb hA hD.2.2.1 hin hd K
        · cases h
      · cases h
  · cases h
theorem rx_s_alen (S : rx_St p R s m args meth c i d A D I) {g : rx_C} (hd : decode (rx_c i) pc = .ok (.arraylength, 1)) (h : rx_aln X i pc ls st a M = some (.inl g)) (kk : rx_WA X p l e R s m args below meth c Q i A D I k0 ρ0 n0 g) : rx_WA X p l e R s m args below meth c Q i A D I k0 ρ0 n0 (pc, ls, st, a, M) := by
  unfold rx_aln at h
  split at h
  · rename_i q r
    split at h
    · rename_i u n hl
      split at h
      · rename_i hq
        unfold rx_nx at h
        cases h
        intro ρ H locs lsr cells slots hρ hD hcl hsl
        have K := kk ρ H locs lsr cells slots hρ (hD.stk (rx_cs rx_rk_i (rx_tl hD.st))) hcl hsl
        obtain ⟨hq, hu⟩ := hq
        match u, hu, hl with
        | 0, _, hl =>
          have he : (rx_wl I ρ M a.1)[q]? = some (ρ q, .inl (I.1, n, .inl (M.1 q))) := by rw [rx_wl_get hq, rx_ce_0 hl]
          exact va_alen S.1 S.2.1 S.2.2.2.2.2.2.1 hD.1 q 0 he (ty := .int) rfl rfl hd K
        | 1, _, hl =>
          have he : (rx_wl I ρ M a.1)[q]? = some (ρ q, .inl (I.2.1, n, .inl (M.1 q))) := by rw [rx_wl_get hq, rx_ce_1 hl]
          exact va_alen S.1 S.2.1 S.2.2.2.2.2.2.1 hD.1 q 1 he (ty := .boolean) rfl rfl hd K
        | 2, _, hl =>
          have he : (rx_wl I ρ M a.1)[q]? = some (ρ q, .inl (I.2.2.1, n, .inr (.inr (.inr (.inr (fun j => (M.2.1 q j).map ρ)))))) := by rw [rx_wl_get hq, rx_ce_2 hl]
          exact va_alen S.1 S.2.1 S.2.2.2.2.2.2.1 hD.1 q 2 he (ty := .array .int) rfl rfl hd K
        | 3, _, hl =>
          have he : (rx_wl I ρ M a.1)[q]? = some (ρ q, .inl (I.2.2.2, n, .inr (.inl (M.2.2 q)))) := by rw [rx_wl_get hq, rx_ce_3 hl]
          exact va_alen S.1 S.2.1 S.2.2.2.2.2.2.1 hD.1 q 3 he (ty := .long) rfl rfl hd K
        | u + 4, hu, _ => exact absurd hu (by omega)
      · cases h
    · cases h
    · split at h
      · rename_i hq
        unfold rx_nx at h
        cases h
        intro ρ H locs lsr cells slots hρ hD hcl hsl
        have K := kk ρ H locs lsr cells slots hρ (hD.stk (rx_cs rx_rk_i (rx_tl hD.st))) hcl hsl
        obtain ⟨hX, hb, hA⟩ := hD.2.2.2.2.2.2.2.2.2 hq.2
        rw [hq.1]
        exact va_slen S.1 S.2.1 hX hb hA hD.2.2.1 hd K
      · cases h
  · cases h
/-- which instruction writes rows of a kind -/
noncomputable def rx_sti (t : Nat) : Instr := match t with
  | 0 => .iastore
  | 1 => .bastore
  | _ => .lastore
theorem rx_s_ast (S : rx_St p R s m args meth c i d A D I) {t : Nat} {g : rx_C} (hd : decode (rx_c i) pc = .ok (rx_sti t, 1)) (h : rx_as t pc ls st a M = some (.inl g)) (kk : rx_WA X p l e R s m args below meth c Q i A D I k0 ρ0 n0 g) : rx_WA X p l e R s m args below meth c Q i A D I k0 ρ0 n0 (pc, ls, st, a, M) := by
  unfold rx_as at h
  split at h
  · rename_i v x q r
    split at h
    · rename_i u n hl
      split at h
      · rename_i hq
        split at h
        · rename_i hu
          subst hu
          split at h
          · cases h
          · rename_i hin
            split at h
            · rename_i z
              unfold rx_nx at h
              cases h
              intro ρ H locs lsr cells slots hρ hD hcl hsl
              have he : (rx_wl I ρ M a.1)[q]? = some (ρ q, .inl (I.1, n, .inl (M.1 q))) := by rw [rx_wl_get hq, rx_ce_0 hl]
              have hset : (rx_wl I ρ M a.1).set q (ρ q, .inl (I.1, n, .inl (upd (M.1 q) x.toNatClampNeg z))) = rx_wl I ρ (rx_up M.1 q x.toNatClampNeg z, M.2.1, M.2.2) a.1 := by
                refine rx_put_world (M := M) (M' := (rx_up M.1 q x.toNatClampNeg z, M.2.1, M.2.2)) hq (fun j hj => rx_up_ne hj) (fun _ _ => rfl) (fun _ _ => rfl) ?_
                rw [rx_ce_0 hl]
                dsimp only
                rw [rx_up_row]
                rfl
              refine va_iast S.1 S.2.1 S.2.2.2.2.2.2.1 hD.1 hD.2.1 hD.2.2.1 q 0 he rfl hin hd (fun H1 locs1 p1 p2 p3 => ?_)
              rw [hset] at p1 p2
              exact kk ρ H1 locs1 lsr cells slots hρ ⟨p1, p2, p3, hD.2.2.2.1, hD.2.2.2.2.1, hD.2.2.2.2.2.1, hD.2.2.2.2.2.2.1, rx_tl (rx_tl (rx_tl hD.st)), rx_mok_i hD.2.2.2.2.2.2.2.2.1 hq (fun k hk => rx_up_ne hk), hD.2.2.2.2.2.2.2.2.2⟩ hcl hsl
            · rename_i z
              split at h
              · rename_i hz
                unfold rx_nx at h
                cases h
                intro ρ H locs lsr cells slots hρ hD hcl hsl
                have he : (rx_wl I ρ M a.1)[q]? = some (ρ q, .inl (I.2.1, n, .inl (M.1 q))) := by rw [rx_wl_get hq, rx_ce_1 hl]
                have hnar : vp_nar .boolean z = z := by rcases hz with rfl | rfl <;> rfl
                have hset : (rx_wl I ρ M a.1).set q (ρ q, .inl (I.2.1, n, .inl (upd (M.1 q) x.toNatClampNeg (vp_nar .boolean z)))) = rx_wl I ρ (rx_up M.1 q x.toNatClampNeg z, M.2.1, M.2.2) a.1 := by
                  refine rx_put_world (M := M) (M' := (rx_up M.1 q x.toNatClampNeg z, M.2.1, M.2.2)) hq (fun j hj => rx_up_ne hj) (fun _ _ => rfl) (fun _ _ => rfl) ?_
                  rw [rx_ce_1 hl]
                  dsimp only
                  rw [rx_up_row, hnar]
                  rfl
                refine va_zast S.1 S.2.1 S.2.2.2.2.2.2.1 hD.1 hD.2.1 hD.2.2.1 q 1 he rfl hin hd (fun H1 locs1 p1 p2 p3 => ?_)
                rw [hset] at p1 p2
                exact kk ρ H1 locs1 lsr cells slots hρ ⟨p1, p2, p3, hD.2.2.2.1, hD.2.2.2.2.1, hD.2.2.2.2.2.1, hD.2.2.2.2.2.2.1, rx_tl (rx_tl (rx_tl hD.st)), rx_mok_i hD.2.2.2.2.2.2.2.2.1 hq (fun k hk => rx_up_ne hk), hD.2.2.2.2.2.2.2.2.2⟩ hcl hsl
              · cases h
            · rename_i z
              unfold rx_nx at h
              cases h
              intro ρ H locs lsr cells slots hρ hD hcl hsl
              have he : (rx_wl I ρ M a.1)[q]? = some (ρ q, .inl (I.2.2.2, n, .inr (.inl (M.2.2 q)))) := by rw [rx_wl_get hq, rx_ce_3 hl]
              have hset : (rx_wl I ρ M a.1).set q (ρ q, .inl (I.2.2.2, n, .inr (.inl (vp_updL (M.2.2 q) x.toNatClampNeg z)))) = rx_wl I ρ (M.1, M.2.1, rx_up M.2.2 q x.toNatClampNeg z) a.1 := by
                refine rx_put_world (M := M) (M' := (M.1, M.2.1, rx_up M.2.2 q x.toNatClampNeg z)) hq (fun _ _ => rfl) (fun _ _ => rfl) (fun j hj => rx_up_ne hj) ?_
                rw [rx_ce_3 hl]
                dsimp only
                rw [rx_up_row]
                rfl
              refine va_last S.1 S.2.1 S.2.2.2.2.2.2.1 hD.1 hD.2.1 hD.2.2.1 q 3 he rfl hin hd (fun H1 locs1 p1 p2 p3 => ?_)
              rw [hset] at p1 p2
              exact kk ρ H1 locs1 lsr cells slots hρ ⟨p1, p2, p3, hD.2.2.2.1, hD.2.2.2.2.1, hD.2.2.2.2.2.1, hD.2.2.2.2.2.2.1, rx_tl (rx_tl (rx_tl hD.st)), rx_mok_l hD.2.2.2.2.2.2.2.2.1 hq (fun k hk => rx_up_ne hk), hD.2.2.2.2.2.2.2.2.2⟩ hcl hsl
            · cases h
        · cases h
      · cases h
    · cases h
  · cases h
end RXA
