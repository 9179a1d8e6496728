/-! the memory: fields, rows -/
theorem rx_all_at {n k : Nat} {f : Nat → Bool} (h : (List.range n).all f = true) (hk : k < n) : f k = true := List.all_eq_true.mp h k (List.mem_range.mpr hk)
theorem rx_tt_mem {q : Nat} {w : Cond} (h : rx_tt q w = true) : w ∈ lw_tbl := rx_tc_in (List.mem_of_getElem? (of_decide_eq_true h))
theorem rx_B_mem {w : Cond} (h : w ∈ lw_tbl) (hg : goodWord w = true) : w ∈ rx_B := List.mem_filter.mpr ⟨h, hg⟩
theorem rx_in2 {c x : Nat} {α : Type} {f : Option α} {q : α} (h : cond (Nat.blt c 14 && Nat.blt x rx_mi) f none = some q) : c < 14 ∧ x < rx_mi ∧ f = some q := by
  cases hb : (Nat.blt c 14 && Nat.blt x rx_mi) with
  | false => rw [hb] at h; cases h
  | true =>
    rw [hb] at h
    rw [Bool.and_eq_true] at hb
    exact ⟨Nat.blt_eq.mp hb.1, Nat.blt_eq.mp hb.2, h⟩
noncomputable def rx_cR (c : Nat) (r : vw_C) : Prop := vwCl[c]? = some r ∧ r.1 = rx_cls c ∧ (rx_sty c).length = r.2.2 ∧ (∀ k, k < r.2.2 → rx_okT ((rx_sty c).getD k 9) (parseFieldDescriptor (r.2.1 k).2.2.1) = true) ∧ (∀ w ∈ u_ws r.1 r.2.1 r.2.2, w ∈ rx_B) ∧ (∀ a, a < r.2.2 → ∀ b, b < r.2.2 → a ≠ b → (r.2.1 a).2.1 ≠ (r.2.1 b).2.1)
theorem rx_cR_ok {c : Nat} {r : vw_C} (h : vwCl[c]? = some r) : rx_cR c r := by
  have hc : c < 12 := (List.getElem?_eq_some_iff.mp h).1
  have h1 := rx_all_at rx_yk hc
  have h2 := rx_all_at rx_uk hc
  rw [h] at h1 h2
  simp only [Bool.and_eq_true] at h1 h2
  refine ⟨h, of_decide_eq_true h1.1.1, of_decide_eq_true h1.1.2, fun k hk => rx_all_at h1.2 hk, fun w hw => ?_, fun a ha b hb hab => ?_⟩
  · have h3 := List.all_eq_true.mp h2.1 w hw
    rw [Bool.and_eq_true] at h3
    exact rx_B_mem (of_decide_eq_true h3.1) h3.2
  · have h3 := rx_all_at (rx_all_at h2.2 ha) hb
    rw [Bool.or_eq_true] at h3
    rcases h3 with h3 | h3
    · exact absurd (Nat.eq_of_beq_eq_true h3) hab
    · exact of_decide_eq_true h3
theorem rx_fl_ok {c x ci k t : Nat} {fin : Bool} (h : rx_fl c x = some (ci, k, t, fin)) : ∃ r, rx_cR ci r ∧ k < r.2.2 ∧ (r.2.1 k).1 = r.1 ∧ (r.2.1 k).2.2.2 = fin ∧ (rx_sty ci)[k]? = some t ∧
    ((Cond.fieldLinkNest (rx_cls c) x r.1 (r.2.1 k).2.1 (r.2.1 k).2.2.1 "HourValley" ∈ lw_tbl ∧ ci ≠ c) ∨ Cond.fieldLink (rx_cls c) x r.1 (r.2.1 k).2.1 (r.2.1 k).2.2.1 ∈ lw_tbl) := by
  obtain ⟨hc, hx, -⟩ := rx_in2 h
  have h1 := rx_all_at (rx_all_at rx_fk hc) hx
  unfold rx_okF at h1
  rw [h] at h1
  dsimp only at h1
  split at h1
  · cases h1
  · rename_i r hr
    simp only [Bool.and_eq_true] at h1
    obtain ⟨⟨⟨⟨h2, h3⟩, h4⟩, h5⟩, h6⟩ := h1
    refine ⟨r, rx_cR_ok hr, Nat.blt_eq.mp h2, of_decide_eq_true h3, of_decide_eq_true h4, of_decide_eq_true h5, ?_⟩
    cases hn : (rx_flp c x).2 with
    | true =>
      rw [hn] at h6
      simp only [cond_true, Bool.and_eq_true, Bool.not_eq_true'] at h6
      refine Or.inl ⟨rx_tt_mem h6.1, fun z => ?_⟩
      rw [z, Nat.beq_refl] at h6
      exact absurd h6.2 (by decide)
    | false =>
      rw [hn] at h6
      exact Or.inr (rx_tt_mem h6)
/-- what a slot holds -/
theorem rx_fs_get {ρ : Nat → Nat} {M : rx_M} {q k t : Nat} {ts : List Nat} (h : ts[k]? = some t) : (rx_fs ρ M q ts)[k]? = some (rx_fv ρ M q t k) := by
  unfold rx_fs
  rw [List.getElem?_mapIdx, h]
  rfl
theorem rx_fs_len {ρ : Nat → Nat} {M : rx_M} {q : Nat} {ts : List Nat} : (rx_fs ρ M q ts).length = ts.length := by
  unfold rx_fs
  rw [List.length_mapIdx]
theorem rx_ce_o {I : rx_I} {ρ : Nat → Nat} {M : rx_M} {q ci : Nat} (h : rx_lay q = some (.inl ci)) : rx_ce I ρ M q = .inr (ci, rx_fs ρ M q (rx_sty ci)) := by
  unfold rx_ce
  rw [h]
theorem rx_ce_0 {I : rx_I} {ρ : Nat → Nat} {M : rx_M} {q n : Nat} (h : rx_lay q = some (.inr (0, n))) : rx_ce I ρ M q = .inl (I.1, n, .inl (M.1 q)) := by
  unfold rx_ce
  rw [h]
  rfl
theorem rx_ce_1 {I : rx_I} {ρ : Nat → Nat} {M : rx_M} {q n : Nat} (h : rx_lay q = some (.inr (1, n))) : rx_ce I ρ M q = .inl (I.2.1, n, .inl (M.1 q)) := by
  unfold rx_ce
  rw [h]
  rfl
theorem rx_ce_2 {I : rx_I} {ρ : Nat → Nat} {M : rx_M} {q n : Nat} (h : rx_lay q = some (.inr (2, n))) : rx_ce I ρ M q = .inl (I.2.2.1, n, .inr (.inr (.inr (.inr (fun j => (M.2.1 q j).map ρ))))) := by
  unfold rx_ce
  rw [h]
  rfl
theorem rx_ce_3 {I : rx_I} {ρ : Nat → Nat} {M : rx_M} {q n : Nat} (h : rx_lay q = some (.inr (3, n))) : rx_ce I ρ M q = .inl (I.2.2.2, n, .inr (.inl (M.2.2 q))) := by
  unfold rx_ce
  rw [h]
  rfl
theorem rx_up_row {α : Type} {f : Nat → Nat → α} {k j : Nat} {v : α} : rx_up f k j v k = fun b => if b = j then v else f k b := by
  funext b
  unfold rx_up
  rw [if_pos rfl]
theorem rx_up_at {α : Type} {f : Nat → Nat → α} {k j : Nat} {v : α} : rx_up f k j v k j = v := by
  unfold rx_up
  rw [if_pos rfl, if_pos rfl]
theorem rx_up_off {α : Type} {f : Nat → Nat → α} {k j b : Nat} {v : α} (h : b ≠ j) : rx_up f k j v k b = f k b := by
  unfold rx_up
  rw [if_pos rfl, if_neg h]
theorem rx_up_ne {α : Type} {f : Nat → Nat → α} {k j q : Nat} {v : α} (h : q ≠ k) : rx_up f k j v q = f q := by
  funext b
  unfold rx_up
  rw [if_neg h]
theorem rx_mok_i {n q : Nat} {M : rx_M} {f : Nat → Nat → Int32} (h : rx_mok n M) (hq : q < n) (hf : ∀ k, k ≠ q → f k = M.1 k) : rx_mok n (f, M.2.1, M.2.2) := ⟨h.1, fun k hk => ⟨fun j => by dsimp only; rw [hf k (by omega)]; exact (h.2 k hk).1 j, (h.2 k hk).2⟩⟩
theorem rx_mok_l {n q : Nat} {M : rx_M} {f : Nat → Nat → Int64} (h : rx_mok n M) (hq : q < n) (hf : ∀ k, k ≠ q → f k = M.2.2 k) : rx_mok n (M.1, M.2.1, f) := ⟨h.1, fun k hk => ⟨(h.2 k hk).1, (h.2 k hk).2.1, fun j => by dsimp only; rw [hf k (by omega)]; exact (h.2 k hk).2.2 j⟩⟩
theorem rx_okT_0 {ty : Option FieldType} (h : rx_okT 0 ty = true) : ty = some .int := by
  unfold rx_okT at h
  split at h <;> first | rfl | (exact absurd h (by decide)) | cases h
theorem rx_okT_1 {ty : Option FieldType} (h : rx_okT 1 ty = true) : ty = some .boolean := by
  unfold rx_okT at h
  split at h <;> first | rfl | (exact absurd h (by decide)) | cases h
theorem rx_okT_2 {ty : Option FieldType} (h : rx_okT 2 ty = true) : ∃ t, ty = some t ∧ (∀ z, narrow t (.ref z) = .ref z) ∧ ∀ z, fits t (.ref z) = true := by
  unfold rx_okT at h
  split at h
  · exact absurd h (by decide)
  · exact absurd h (by decide)
  · exact ⟨_, rfl, fun _ => rfl, fun _ => rfl⟩
  · exact ⟨_, rfl, fun _ => rfl, fun _ => rfl⟩
  · cases h
theorem rx_okT_some {t : Nat} {ty : Option FieldType} (h : rx_okT t ty = true) : ∃ z, ty = some z := by
  cases ty with
  | none => cases h
  | some z => exact ⟨z, rfl⟩
theorem rx_getD {l : List Nat} {k t d : Nat} (h : l[k]? = some t) : l.getD k d = t := by
  rw [List.getD_eq_getElem?_getD, h]
  rfl
section RXM
variable {X : Nat × (Nat → Int32)} {p : Program} {l : Launch} {e : Env} {R : Room} {s : State} {m : MethodId} {args : Array Value} {below : List Frame} {meth : Method} {c : Code} {Q : State → Prop} {i d : Nat} {A : Nat → Prop} {D : va_G} {I : rx_I} {k0 : Nat × Nat} {ρ0 : Nat → Nat} {n0 : Nat}
variable {pc : Nat} {ls : List (Option Value)} {st r : List Value} {a : rx_K} {M : rx_M}
theorem rx_s_get (S : rx_St p R s m args meth c i d A D I) {x : Nat} {g : rx_C} (hd : decode (rx_c i) pc = .ok (.getfield x, 3)) (h : rx_gf (rx_cn i) x pc ls st a M = some (.inl g)) (kk : rx_WA X p l e R s m args below meth c Q i A D I k0 ρ0 n0 g) : rx_WA X p l e R s m args below meth c Q i A D I k0 ρ0 n0 (pc, ls, st, a, M) := by
  unfold rx_gf at h
  split at h
  · rename_i q r
    split at h
    · rename_i ci k t fin hf
      split at h
      · rename_i c9 hl
        split at h
        · rename_i hq
          split at h
          · rename_i hc
            subst hc
            have key : ∃ v, g = (pc + 3, ls, v :: r, a, M) ∧ (∀ ρ, rx_tr ρ v = rx_fv ρ M q t k) ∧ (rx_mok a.1 M → rx_rk a.1 v) := by
              split at h
              · unfold rx_nx at h
                cases h
                refine ⟨_, rfl, fun ρ => ?_, fun hm => ?_⟩
                · unfold rx_fv
                  rw [if_pos rfl]
                  cases M.2.1 q k <;> rfl
                · cases hz : M.2.1 q k with
                  | none => trivial
                  | some z => exact Or.inl (hm.1 q k z hq hz)
              · rename_i ht
                unfold rx_nx at h
                cases h
                refine ⟨_, rfl, fun ρ => ?_, fun _ => trivial⟩
                unfold rx_fv
                rw [if_neg ht]
                rfl
            obtain ⟨v, rfl, hv, hr⟩ := key
            obtain ⟨rr, hR, hk, h1, h2, h3, h4⟩ := rx_fl_ok hf
            intro ρ H locs lsr cells slots hρ hD hcl hsl
            have K := kk ρ H locs lsr cells slots hρ (hD.stk (rx_cs (hr hD.2.2.2.2.2.2.2.2.1) (rx_tl hD.st))) hcl hsl
            have he : (rx_wl I ρ M a.1)[q]? = some (ρ q, .inr (c9, rx_fs ρ M q (rx_sty c9))) := by rw [rx_wl_get hq, rx_ce_o hl]
            have hfs : (rx_fs ρ M q (rx_sty c9))[k]? = some (rx_tr ρ v) := by rw [rx_fs_get h3, hv]
            rcases h4 with ⟨h4, -⟩ | h4
            · exact va_getN (C := rr.1) (T := rr.2.1) (N := rr.2.2) S.1 S.2.1 S.2.2.2.2.1 hR.2.2.2.2.1 S.2.2.2.1 S.2.2.2.2.2.2.1 hD.1 q he hR.1 k hk (va_Nw.use rfl (S.2.2.2.2.2.1.1 _ h4 rfl)) (fun z hz => by rw [h1] at hz; exact hz) hfs hd K
            · exact va_get (C := rr.1) (T := rr.2.1) (N := rr.2.2) S.1 S.2.1 S.2.2.2.2.1 hR.2.2.2.2.1 S.2.2.2.1 S.2.2.2.2.2.2.1 hD.1 q he hR.1 k hk (S.2.2.2.2.1 _ (rx_B_mem h4 rfl)) (fun z hz => by rw [h1] at hz; exact hz) hfs hd K
          · cases h
        · cases h
      · cases h
    · cases h
  · cases h
/-- a slot of a cell is written -/
theorem rx_put_world {ρ : Nat → Nat} {M' : rx_M} {n q : Nat} (hq : q < n) (h1 : ∀ j, j ≠ q → M'.1 j = M.1 j) (h2 : ∀ j, j ≠ q → M'.2.1 j = M.2.1 j) (h3 : ∀ j, j ≠ q → M'.2.2 j = M.2.2 j) {e9 : va_E} (he : e9 = rx_ce I ρ M' q) : (rx_wl I ρ M n).set q (ρ q, e9) = rx_wl I ρ M' n := by
  rw [he]
  exact rx_wl_set hq (fun j hj => rx_ce_ne (h1 j hj) (h2 j hj) (h3 j hj))
theorem rx_fs_set {ρ : Nat → Nat} {M M' : rx_M} {q k t : Nat} {ts : List Nat} {v : Value} (hk : ts[k]? = some t) (hv : v = rx_fv ρ M' q t k) (hne : ∀ j t', j ≠ k → rx_fv ρ M' q t' j = rx_fv ρ M q t' j) : (rx_fs ρ M q ts).set k v = rx_fs ρ M' q ts := by
  have hl : k < ts.length := (List.getElem?_eq_some_iff.mp hk).1
  refine List.ext_getElem? fun j => ?_
  by_cases e : j = k
  · subst e
    rw [List.getElem?_set_self (by rw [rx_fs_len]; exact hl), rx_fs_get hk, hv]
  · rw [List.getElem?_set_ne (fun z => e z.symm)]
    cases hj : ts[j]? with
    | none =>
      have hl2 : ts.length ≤ j := List.getElem?_eq_none_iff.mp hj
      rw [List.getElem?_eq_none (by rw [rx_fs_len]; exact hl2), List.getElem?_eq_none (by rw [rx_fs_len]; exact hl2)]
    | some t' => rw [rx_fs_get hj, rx_fs_get hj, hne j t' e]
theorem rx_s_put (S : rx_St p R s m args meth c i d A D I) {x : Nat} {g : rx_C} (hd : decode (rx_c i) pc = .ok (.putfield x, 3)) (h : rx_pf (rx_ini i) (rx_cn i) x pc ls st a M = some (.inl g)) (kk : rx_WA X p l e R s m args below meth c Q i A D I k0 ρ0 n0 g) : rx_WA X p l e R s m args below meth c Q i A D I k0 ρ0 n0 (pc, ls, st, a, M) := by
  unfold rx_pf at h
  split at h
  · rename_i v q r
    split at h
    · rename_i ci k t fin hf
      split at h
      · rename_i c9 hl
        split at h
        · rename_i hq
          split at h
          · rename_i hc
            subst hc
            split at h
            · cases h
            · rename_i hfin
              obtain ⟨rr, hR, hk, h1, h2, h3, h4⟩ := rx_fl_ok hf
              have hokT := hR.2.2.2.1 k hk
              rw [rx_getD h3] at hokT
              have key : ∃ (M' : rx_M) (ty : FieldType), g = (pc + 3, ls, r, a, M') ∧ parseFieldDescriptor (rr.2.1 k).2.2.1 = some ty ∧ (∀ ρ, narrow ty (rx_tr ρ v) = rx_tr ρ v ∧ fits ty (rx_tr ρ v) = true) ∧ (∀ j, j ≠ q → M'.1 j = M.1 j) ∧ (∀ j, j ≠ q → M'.2.1 j = M.2.1 j) ∧ (∀ j, j ≠ q → M'.2.2 j = M.2.2 j) ∧
                  (∀ ρ, rx_tr ρ v = rx_fv ρ M' q t k) ∧ (∀ ρ j t', j ≠ k → rx_fv ρ M' q t' j = rx_fv ρ M q t' j) ∧ (rx_mok a.1 M → rx_mok a.1 M') := by
                split at h
                · unfold rx_nx at h
                  cases h
                  refine ⟨_, .int, rfl, rx_okT_0 hokT, fun _ => ⟨rfl, rfl⟩, fun j hj => rx_up_ne hj, fun _ _ => rfl, fun _ _ => rfl, fun ρ => ?_, fun ρ j t' hj => ?_, fun hm => rx_mok_i hm hq (fun k hk => rx_up_ne hk)⟩
                  · unfold rx_fv
                    rw [if_neg (by decide)]
                    dsimp only
                    rw [rx_up_at]
                    rfl
                  · unfold rx_fv
                    dsimp only
                    rw [rx_up_off hj]
                · rename_i z
                  split at h
                  · rename_i hz
                    unfold rx_nx at h
                    cases h
                    refine ⟨_, .boolean, rfl, rx_okT_1 hokT, fun _ => ?_, fun j hj => rx_up_ne hj, fun _ _ => rfl, fun _ _ => rfl, fun ρ => ?_, fun ρ j t' hj => ?_, fun hm => rx_mok_i hm hq (fun k hk => rx_up_ne hk)⟩
                    · rcases hz with rfl | rfl
                      · exact ⟨rfl, rfl⟩
                      · exact ⟨rfl, rfl⟩
                    · unfold rx_fv
                      rw [if_neg (by decide)]
                      dsimp only
                      rw [rx_up_at]
                      rfl
                    · unfold rx_fv
                      dsimp only
                      rw [rx_up_off hj]
                  · cases h
                · rename_i z
                  split at h
                  · rename_i hz
                    unfold rx_nx at h
                    cases h
                    obtain ⟨ty, ht, hn, hfi⟩ := rx_okT_2 hokT
                    refine ⟨_, ty, rfl, ht, fun ρ => ⟨hn _, hfi _⟩, fun _ _ => rfl, fun j hj => rx_up_ne hj, fun _ _ => rfl, fun ρ => ?_, fun ρ j t' hj => ?_, fun hm => ⟨fun q' j z' hq' hz' => ?_, fun k9 hk9 => ⟨(hm.2 k9 hk9).1, fun j => by dsimp only; rw [rx_up_ne (fun z : k9 = q => absurd hq (Nat.not_lt.mpr (by rw [← z]; exact hk9)))]; exact (hm.2 k9 hk9).2.1 j, (hm.2 k9 hk9).2.2⟩⟩⟩
                    · unfold rx_fv
                      rw [if_pos rfl]
                      dsimp only
                      rw [rx_up_at]
                      rfl
                    · unfold rx_fv
                      dsimp only
                      rw [rx_up_off hj]
                    · dsimp only [rx_up] at hz'
                      split at hz'
                      · split at hz'
                        · cases hz'; exact hz
                        · exact hm.1 q' j z' hq' hz'
                      · exact hm.1 q' j z' hq' hz'
                  · cases h
                · cases h
              obtain ⟨M', ty, rfl, hp, hnf, e1, e2, e3, hv, hne, hmok⟩ := key
              intro ρ H locs lsr cells slots hρ hD hcl hsl
              have he : (rx_wl I ρ M a.1)[q]? = some (ρ q, .inr (c9, rx_fs ρ M q (rx_sty c9))) := by rw [rx_wl_get hq, rx_ce_o hl]
              have hset : (rx_wl I ρ M a.1).set q (ρ q, .inr (c9, (rx_fs ρ M q (rx_sty c9)).set k (rx_tr ρ v))) = rx_wl I ρ M' a.1 := rx_put_world hq e1 e2 e3 (by rw [rx_ce_o hl, rx_fs_set h3 (hv ρ) (hne ρ)])
              have K : ∀ (H1 : Heap) (locs1 : List Loc), va_P D vwCl ((rx_wl I ρ M a.1).set q (ρ q, .inr (c9, (rx_fs ρ M q (rx_sty c9)).set k (rx_tr ρ v)))) H1 → va_D A ((rx_wl I ρ M a.1).set q (ρ q, .inr (c9, (rx_fs ρ M q (rx_sty c9)).set k (rx_tr ρ v)))) → va_S A s.heap H1 locs1 →
                  W p l e R s m args below meth c H1 locs1 cells slots Q (F0 m (pc + 3) lsr (r.map (rx_tr ρ))) := by
                intro H1 locs1 p1 p2 p3
                rw [hset] at p1 p2
                exact kk ρ H1 locs1 lsr cells slots hρ ⟨p1, p2, p3, hD.2.2.2.1, hD.2.2.2.2.1, hD.2.2.2.2.2.1, hD.2.2.2.2.2.2.1, rx_tl (rx_tl hD.st), hmok hD.2.2.2.2.2.2.2.2.1, hD.2.2.2.2.2.2.2.2.2⟩ hcl hsl
              have hty : ∀ k9, k9 < rr.2.2 → parseFieldDescriptor (rr.2.1 k9).2.2.1 = some ((fun z => (parseFieldDescriptor (rr.2.1 z).2.2.1).getD .int) k9) := fun k9 h9 => by
                obtain ⟨z, hz⟩ := rx_okT_some (hR.2.2.2.1 k9 h9)
                dsimp only
                rw [hz]
                rfl
              have hlen : k < (rx_fs ρ M q (rx_sty c9)).length := by
                rw [rx_fs_len]
                exact (List.getElem?_eq_some_iff.mp h3).1
              cases hfn : fin with
              | true =>
                have h6 : rx_ini i = true := by
                  cases hh : rx_ini i
                  · exact absurd ⟨hfn, Or.inl hh⟩ hfin
                  · rfl
                have h7 : c9 = rx_cn i := Decidable.byContradiction fun z => hfin ⟨hfn, Or.inr z⟩
                have h5 : rr.1 = rx_cls (rx_cn i) := by rw [← h7]; exact hR.2.1
                rcases h4 with ⟨-, h4⟩ | h4
                · exact absurd h7 h4
                · exact va_putF (C := rr.1) (T := rr.2.1) (N := rr.2.2) S.1 S.2.1 S.2.2.2.2.1 hR.2.2.2.2.1 _ hty hR.2.2.2.2.2 S.2.2.2.1 S.2.2.2.2.2.2.1 hD.1 hD.2.1 hD.2.2.1 q he hR.1 k hk (S.2.2.2.2.1 _ (rx_B_mem h4 rfl)) (fun z hz => by rw [h1] at hz; exact hz) (h2.trans hfn) (S.2.2.2.2.2.2.2.1 h6) (h1.trans h5) hp (hnf ρ).1 (hnf ρ).2 hlen hd K
              | false =>
                rcases h4 with ⟨h4, -⟩ | h4
                · exact va_putN (C := rr.1) (T := rr.2.1) (N := rr.2.2) S.1 S.2.1 S.2.2.2.2.1 hR.2.2.2.2.1 _ hty hR.2.2.2.2.2 S.2.2.2.1 S.2.2.2.2.2.2.1 hD.1 hD.2.1 hD.2.2.1 q he hR.1 k hk (va_Nw.use rfl (S.2.2.2.2.2.1.1 _ h4 rfl)) (fun z hz => by rw [h1] at hz; exact hz) (h2.trans hfn) hp (hnf ρ).1 (hnf ρ).2 hlen hd K
                · exact va_put (C := rr.1) (T := rr.2.1) (N := rr.2.2) S.1 S.2.1 S.2.2.2.2.1 hR.2.2.2.2.1 _ hty hR.2.2.2.2.2 S.2.2.2.1 S.2.2.2.2.2.2.1 hD.1 hD.2.1 hD.2.2.1 q he hR.1 k hk (S.2.2.2.2.1 _ (rx_B_mem h4 rfl)) (fun z hz => by rw [h1] at hz; exact hz) (h2.trans hfn) hp (hnf ρ).1 (hnf ρ).2 hlen hd K
          · cases h
        · cases h
      · cases h
    · cases h
  · cases h
end RXM
