/-! new cells -/
theorem rx_in3 {c x : Nat} (h : ∃ q, rx_nw c x = some q) : rx_okN c x = true ∧ rx_okW c x = true := by
  obtain ⟨q, h⟩ := h
  obtain ⟨hc, hx, -⟩ := rx_in2 h
  have h1 := rx_all_at (rx_all_at rx_nk hc) hx
  rw [Bool.and_eq_true] at h1
  exact h1
theorem rx_mn_ok {c x q : Nat} (h : rx_mn c x = some q) : Cond.classLink (rx_cls c) x "[[I" ∈ lw_tbl := by
  obtain ⟨hc, hx, -⟩ := rx_in2 h
  have h1 := rx_all_at (rx_all_at rx_nk hc) hx
  rw [Bool.and_eq_true] at h1
  have h2 := h1.2
  unfold rx_okW at h2
  rw [h] at h2
  exact rx_tt_mem h2
theorem rx_lay_lt {q : Nat} (h : rx_lay q ≠ none) : q < rx_cells := by
  cases hb : Nat.blt q rx_cells with
  | true => exact Nat.blt_eq.mp hb
  | false =>
    refine absurd ?_ h
    unfold rx_lay
    rw [hb]
    rfl
theorem rx_lay_9 {q n : Nat} (h : rx_lay q = some (.inr (9, n))) : False := by
  have hq : q < rx_cells := rx_lay_lt (by rw [h]; exact fun z => by cases z)
  have h1 : (List.range rx_cells).all (fun q => match rx_lay q with | some (.inr (9, _)) => false | _ => true) = true := by decide +kernel
  have h2 := rx_all_at h1 hq
  rw [h] at h2
  cases h2
section RXN
variable {X : Nat × (Nat → Int32)} {p : Program} {l : Launch} {e : Env} {R : Room} {s : State} {m : MethodId} {args : Array Value} {below : List Frame} {meth : Method} {c : Code} {Q : State → Prop} {i d : Nat} {A : Nat → Prop} {D : va_G} {I : rx_I} {k0 : Nat × Nat} {ρ0 : Nat → Nat} {n0 : Nat}
variable {pc : Nat} {ls : List (Option Value)} {st r : List Value} {a : rx_K} {M : rx_M}
noncomputable def rx_rho (ρ : Nat → Nat) (n q : Nat) : Nat → Nat := fun k => if k = n then q else ρ k
theorem rx_rho_n {ρ : Nat → Nat} {n q : Nat} : rx_rho ρ n q n = q := if_pos rfl
theorem rx_rho_ne {ρ : Nat → Nat} {n q k : Nat} (h : k ≠ n) : rx_rho ρ n q k = ρ k := if_neg h
/-- behind the making of one cell: the next world -/
theorem rx_Dy.made {ρ : Nat → Nat} {H H1 : Heap} {locs : List Loc} {lsr : Array Slot} {q : Nat} {e9 : va_E} (hD : rx_Dy X s A D I ρ n0 i ls st a M H locs lsr) (hlt : a.1 < rx_cells) (b1 b2 : Nat)
    (he : rx_ce I (rx_rho ρ a.1 q) M a.1 = e9)
    (hP : va_P D vwCl (rx_wl I ρ M a.1 ++ [(q, e9)]) H1) (hDD : va_D A (rx_wl I ρ M a.1 ++ [(q, e9)])) (hS : va_S A s.heap H1 locs) (hst : st = r ∨ ∃ v, st = v :: r) :
    rx_Dy X s A D I (rx_rho ρ a.1 q) n0 i ls (.ref a.1 :: r) (a.1 + 1, b1, b2) M H1 locs lsr ∧ (r.map (rx_tr (rx_rho ρ a.1 q)) = r.map (rx_tr ρ)) := by
  have hne : ∀ k, k < a.1 ∨ k = rx_scr → rx_rho ρ a.1 q k = ρ k := fun k hk => rx_rho_ne (by
    rcases hk with hk | hk
    · omega
    · rw [hk]
      have : rx_cells = 291 := rfl
      have : rx_scr = 1000 := rfl
      omega)
  have hmok := hD.2.2.2.2.2.2.2.2.1
  have hw : rx_wl I (rx_rho ρ a.1 q) M (a.1 + 1) = rx_wl I ρ M a.1 ++ [(q, e9)] := by
    rw [rx_wl_push (ρ := ρ) (M := M) (fun k hk => hne k (Or.inl hk)) (fun k hk => rx_ce_eq hne hmok hk), rx_rho_n, he]
  have hr : ∀ v ∈ r, rx_rk a.1 v := by
    rcases hst with rfl | ⟨v, rfl⟩
    · exact hD.st
    · exact rx_tl hD.st
  have hl := hD.2.2.2.1
  refine ⟨⟨by rw [← hw] at hP; exact hP, by rw [← hw] at hDD; exact hDD, hS, ⟨hl.1, hl.2.1, hl.2.2.1, fun k v hk => ?_⟩, Nat.le_succ_of_le hD.2.2.2.2.1, hlt, fun v hv => rx_rk_up (hD.2.2.2.2.2.2.1 v hv) (Nat.le_succ _), rx_cs (Or.inl (Nat.lt_succ_self _)) (fun v hv => rx_rk_up (hr v hv) (Nat.le_succ _)), ⟨fun q' j z hq' hz => ?_, fun q' hq' => hmok.2 q' (Nat.le_of_succ_le hq')⟩, fun hi => ?_⟩, ?_⟩
  · rw [rx_tr_eq hne (hD.2.2.2.2.2.2.1 v (List.mem_of_getElem? hk))]
    exact hl.2.2.2 k v hk
  · by_cases hq : q' < a.1
    · exact Nat.lt_succ_of_lt (hmok.1 q' j z hq hz)
    · have e : q' = a.1 := by omega
      rw [e, (hmok.2 a.1 (Nat.le_refl _)).2.1] at hz
      cases hz
  · have h := hD.2.2.2.2.2.2.2.2.2 hi
    rw [← hne rx_scr (Or.inr rfl)] at h
    exact h
  · exact List.map_congr_left fun v hv => rx_tr_eq hne (hr v hv)
theorem rx_s_new (S : rx_St p R s m args meth c i d A D I) {x : Nat} {g : rx_C} (hd : decode (rx_c i) pc = .ok (.new x, 3)) (h : rx_new (rx_cn i) x pc ls st a M = some (.inl g)) (hc : g.2.2.2.1.2.1 ≤ k0.1 + R.cells) (hs : g.2.2.2.1.2.2 ≤ k0.2 + R.slots) (kk : rx_WA X p l e R s m args below meth c Q i A D I k0 ρ0 n0 g) : rx_WA X p l e R s m args below meth c Q i A D I k0 ρ0 n0 (pc, ls, st, a, M) := by
  unfold rx_new at h
  split at h
  · rename_i ci hn
    split at h
    · rename_i hl
      unfold rx_nx at h
      cases h
      have hN := (rx_in3 ⟨_, hn⟩).1
      unfold rx_okN at hN
      rw [hn] at hN
      dsimp only at hN
      split at hN
      · cases hN
      · rename_i rr hr
        simp only [Bool.and_eq_true] at hN
        obtain ⟨⟨w1, w2⟩, w3⟩ := hN
        have hR := rx_cR_ok hr
        intro ρ H locs lsr cells slots hρ hD hcl hsl
        dsimp only at hcl hsl hD
        have hlt : a.1 < rx_cells := rx_lay_lt (by rw [hl]; exact fun z => by cases z)
        have hty : ∀ k9, k9 < rr.2.2 → parseFieldDescriptor (rr.2.1 k9).2.2.1 = some ((fun z => (parseFieldDescriptor (rr.2.1 z).2.2.1).getD .int) k9) := fun k9 h9 => by
          obtain ⟨z, hz⟩ := rx_okT_some (hR.2.2.2.1 k9 h9)
          dsimp only
          rw [hz]
          rfl
        have hmz := hD.2.2.2.2.2.2.2.2.1.2 a.1 (Nat.le_refl _)
        have hfs : ∀ j, j < rr.2.2 → defaultValue ((fun z => (parseFieldDescriptor (rr.2.1 z).2.2.1).getD .int) j) = vp_V (rx_fs (rx_rho ρ a.1 0) M a.1 (rx_sty ci)) j := by
          intro j hj
          have ht : j < (rx_sty ci).length := by rw [hR.2.2.1]; exact hj
          have ht2 : (rx_sty ci)[j]? = some ((rx_sty ci)[j]) := List.getElem?_eq_getElem ht
          have hok := hR.2.2.2.1 j hj
          rw [rx_getD ht2] at hok
          unfold vp_V
          rw [List.getD_eq_getElem?_getD, rx_fs_get ht2]
          unfold rx_fv
          rw [(hmz.2.1 j), (hmz.1 j)]
          dsimp only
          generalize (rx_sty ci)[j] = t at hok
          unfold rx_okT at hok
          split at hok
          · rename_i hp
            rw [hp]
            rw [if_neg (by intro z; rw [z] at hok; exact absurd hok (by decide))]
            rfl
          · rename_i hp
            rw [hp]
            rw [if_neg (by intro z; rw [z] at hok; exact absurd hok (by decide))]
            rfl
          · rename_i hp
            rw [hp, if_pos (Nat.eq_of_beq_eq_true hok)]
            rfl
          · rename_i hp
            rw [hp, if_pos (Nat.eq_of_beq_eq_true hok)]
            rfl
          · cases hok
        have eN : rr.2.2 = (rx_sty ci).length := hR.2.2.1.symm
        dsimp only at hc hs
        refine va_new (C := rr.1) (T := rr.2.1) (N := rr.2.2) S.1 S.2.1 S.2.2.2.2.1 hR.2.2.2.2.1 _ hty S.2.2.2.1 (S.2.2.2.2.1 _ (rx_B_mem (rx_tt_mem w1) rfl)) (S.2.2.2.2.1 _ (rx_B_mem (rx_tt_mem w2) rfl)) (S.2.2.2.2.1 _ (rx_B_mem (rx_tt_mem w3) rfl)) S.2.2.2.2.2.2.1 hD.1 hD.2.1 hD.2.2.1 S.2.2.2.2.2.2.2.2.2.2.1 hR.1 hfs (by omega) (by omega) hd (fun q H1 p1 p2 p3 => ?_)
        have e0 : rx_fs (rx_rho ρ a.1 0) M a.1 (rx_sty ci) = rx_fs (rx_rho ρ a.1 q) M a.1 (rx_sty ci) := by
          unfold rx_fs rx_fv
          simp only [hmz.2.1]
          rfl
        rw [e0] at p1 p2
        obtain ⟨d1, d2⟩ := hD.made (r := st) hlt (a.2.1 + 1) (a.2.2 + (rx_sty ci).length) (rx_ce_o hl) p1 p2 p3 (Or.inl rfl)
        have K := kk (rx_rho ρ a.1 q) H1 locs lsr (cells + 1) (slots + rr.2.2) (fun k hk => by
          rw [← hρ k hk]
          refine rx_rho_ne ?_
          have := hD.2.2.2.2.1
          rcases hk with hk | hk
          · omega
          · rw [hk]
            have : rx_cells = 291 := rfl
            have : rx_scr = 1000 := rfl
            omega) d1 (by dsimp only; omega) (by dsimp only; omega)
        have e1 : (Value.ref a.1 :: st).map (rx_tr (rx_rho ρ a.1 q)) = .ref q :: st.map (rx_tr ρ) := by
          rw [List.map_cons, d2]
          show Value.ref (rx_rho ρ a.1 q a.1) :: _ = _
          rw [rx_rho_n]
        dsimp only at K
        rw [e1] at K
        exact K
    · cases h
  · split at h
    · cases h
    · cases h
  · cases h
theorem rx_s_nwa (S : rx_St p R s m args meth c i d A D I) (hac : ∀ t, rx_aty t < 4 → Cond.arrayClass (newarray.typeOf t) ∈ rx_B) {t : ArrayType} {g : rx_C} (hd : decode (rx_c i) pc = .ok (.newarray t, 2)) (h : rx_nwa t pc ls st a M = some (.inl g)) (hc : g.2.2.2.1.2.1 ≤ k0.1 + R.cells) (hs : g.2.2.2.1.2.2 ≤ k0.2 + R.slots) (kk : rx_WA X p l e R s m args below meth c Q i A D I k0 ρ0 n0 g) : rx_WA X p l e R s m args below meth c Q i A D I k0 ρ0 n0 (pc, ls, st, a, M) := by
  unfold rx_nwa at h
  split at h
  · rename_i z r
    split at h
    · cases h
    · rename_i hz
      split at h
      · rename_i u k hl
        split at h
        · rename_i hu
          obtain ⟨hu, hk, hk1⟩ := hu
          unfold rx_nx at h
          cases h
          intro ρ H locs lsr cells slots hρ hD hcl hsl
          dsimp only at hcl hsl hD
          have hlt : a.1 < rx_cells := rx_lay_lt (by rw [hl]; exact fun z => by cases z)
          dsimp only at hc hs
          have fin : ∀ (ty : FieldType) (cI : ClassId) (t0 : Nat) (a0 : vp_A), newarray.typeOf t = ty → (rx_ty I)[t0]? = some (cI, ty) → (∀ cA U, va_RA U cA ty → U.vm.findClass ("[" ++ ty.toString) = some cA) → (∀ cA : ClassId, vp_cell cA a0 = arrV cA k (fun _ => defaultValue ty)) → k * componentBytes ty ≤ 536870912 → rx_aty t < 4 →
              (∀ q, rx_ce I (rx_rho ρ a.1 q) M a.1 = .inl (cI, a0)) → W p l e R s m args below meth c H locs cells slots Q (F0 m pc lsr ((Value.int z :: r).map (rx_tr ρ))) := by
            intro ty cI t0 a0 hty ht0 hra ha hb h4 he
            refine va_newa (ty := ty) (N' := k) (a0 := a0) S.1 S.2.1 (S.2.2.2.2.1 _ (hac t h4)) hty S.2.2.2.2.2.2.1 hD.1 hD.2.1 hD.2.2.1 S.2.2.2.2.2.2.2.2.2.2.1 ha hz hk.symm hb (by omega) (by omega) hd (fun q cA H1 q0 p1 p2 p3 => ?_)
            have ecA : cA = cI := by
              have h1 := (S.2.2.2.2.2.2.1.2 t0 _ ht0).2
              have h2 := (q0.2 (rx_ty I).length (cA, ty) (by rw [List.getElem?_append_right (Nat.le_refl _), Nat.sub_self]; rfl)).2
              exact Option.some.inj ((hra _ _ h2).symm.trans (hra _ _ h1))
            rw [ecA] at p1 p2
            obtain ⟨d1, d2⟩ := hD.made (r := r) hlt (a.2.1 + 1) (a.2.2 + k) (he q) p1 p2 p3 (Or.inr ⟨_, rfl⟩)
            have K := kk (rx_rho ρ a.1 q) H1 locs lsr (cells + 1) (slots + k) (fun k9 hk9 => by
              rw [← hρ k9 hk9]
              refine rx_rho_ne ?_
              have := hD.2.2.2.2.1
              rcases hk9 with hk9 | hk9
              · omega
              · rw [hk9]
                have : rx_cells = 291 := rfl
                have : rx_scr = 1000 := rfl
                omega) d1 (by dsimp only; omega) (by dsimp only; omega)
            have e1 : (Value.ref a.1 :: r).map (rx_tr (rx_rho ρ a.1 q)) = .ref q :: r.map (rx_tr ρ) := by
              rw [List.map_cons, d2]
              show Value.ref (rx_rho ρ a.1 q a.1) :: _ = _
              rw [rx_rho_n]
            dsimp only at K
            rw [e1] at K
            exact K
          have hmz := hD.2.2.2.2.2.2.2.2.1.2 a.1 (Nat.le_refl _)
          have z1 : M.1 a.1 = fun _ => 0 := funext hmz.1
          have z3 : M.2.2 a.1 = fun _ => 0 := funext hmz.2.2
          cases t with
          | int =>
            have hu : u = 0 := hu
            subst hu
            exact fin .int I.1 0 (k, .inl (fun _ => 0)) rfl rfl (fun _ _ h => h) (fun _ => rfl) (by show k * 4 ≤ _; omega) (by decide) (fun q => by rw [rx_ce_0 hl, z1])
          | boolean =>
            have hu : u = 1 := hu
            subst hu
            exact fin .boolean I.2.1 1 (k, .inl (fun _ => 0)) rfl rfl (fun _ _ h => h) (fun _ => rfl) (by show k * 1 ≤ _; omega) (by decide) (fun q => by rw [rx_ce_1 hl, z1])
          | long =>
            have hu : u = 3 := hu
            subst hu
            exact fin .long I.2.2.2 3 (k, .inr (.inl (fun _ => 0))) rfl rfl (fun _ _ h => h) (fun _ => rfl) (by show k * 8 ≤ _; omega) (by decide) (fun q => by rw [rx_ce_3 hl, z3])
          | _ =>
            have hu : u = 9 := hu
            subst hu
            exact absurd (rx_lay_9 hl) id
        · cases h
      · cases h
  · cases h
end RXN
