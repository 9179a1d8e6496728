/-! new int[n][k] -/
section RXG
variable {X : Nat × (Nat → Int32)} {p : Program} {l : Launch} {e : Env} {R : Room} {s : State} {m : MethodId} {args : Array Value} {below : List Frame} {meth : Method} {c : Code} {Q : State → Prop} {i d : Nat} {A : Nat → Prop} {D : va_G} {I : rx_I} {k0 : Nat × Nat} {ρ0 : Nat → Nat} {n0 : Nat}
variable {pc : Nat} {ls : List (Option Value)} {st r : List Value} {a : rx_K} {M : rx_M}
noncomputable def rx_rh2 (ρ : Nat → Nat) (n N q : Nat) (r : Nat → Nat) : Nat → Nat := fun k => if k = n then q else if n < k ∧ k < n + 1 + N then r (k - n - 1) else ρ k
theorem rx_s_mna (S : rx_St p R s m args meth c i d A D I) (hac : Cond.arrayClass .int ∈ rx_B) {x : Nat} {g : rx_C} (hd : decode (rx_c i) pc = .ok (.multianewarray x 2, 4)) (h : rx_mna (rx_cn i) x pc ls st a M = some (.inl g)) (hc : g.2.2.2.1.2.1 ≤ k0.1 + R.cells) (hs : g.2.2.2.1.2.2 ≤ k0.2 + R.slots) (kk : rx_WA X p l e R s m args below meth c Q i A D I k0 ρ0 n0 g) : rx_WA X p l e R s m args below meth c Q i A D I k0 ρ0 n0 (pc, ls, st, a, M) := by
  unfold rx_mna at h
  split at h
  · rename_i K0 N0 r
    split at h
    · cases h
    · rename_i hneg
      split at h
      · cases h
      · rename_i w0 hw0
        split at h
        · rename_i hh
          obtain ⟨hl, hin, hN1, hK1⟩ := hh
          unfold rx_nx at h
          cases h
          intro ρ H locs lsr cells slots hρ hD hcl hsl
          dsimp only at hcl hsl hD
          dsimp only at hc hs
          generalize hN : N0.toNatClampNeg = N at *
          generalize hK : K0.toNatClampNeg = K at *
          have hlay : ∀ j, j < N → rx_lay (a.1 + 1 + j) = some (.inr (0, K)) := fun j hj => of_decide_eq_true (List.all_eq_true.mp hin j (List.mem_range.mpr hj))
          have hlt : a.1 + 1 + N ≤ rx_cells := by
            cases N with
            | zero => exact rx_lay_lt (by rw [hl]; exact fun z => by cases z)
            | succ N =>
              have h9 : a.1 + 1 + N < rx_cells := rx_lay_lt (by rw [hlay N (Nat.lt_succ_self _)]; exact fun z => by cases z)
              exact h9
          have cy0 : s.vm.findClass (FieldType.array .int).toString = some I.1 := (S.2.2.2.2.2.2.1.2 0 (I.1, .int) rfl).2
          refine va_mna (X := rx_wl I ρ M a.1) (L := []) (f := fun _ => .inr (0, [])) (ty := .int) (cy := I.1) (N' := N) (K' := K) (z := (K, .inl (fun _ => 0))) S.1 S.2.1 S.2.2.2.1 (S.2.2.2.2.1 _ (rx_B_mem (rx_mn_ok hw0) rfl)) S.2.2.2.2.2.1.2 (S.2.2.2.2.1 _ hac) cy0 S.2.2.2.2.2.2.1 (by rw [show va_pl [] (fun _ => (Sum.inr (0, []) : va_E)) = [] from rfl, List.append_nil]; exact hD.1) (by rw [show va_pl [] (fun _ => (Sum.inr (0, []) : va_E)) = [] from rfl, List.append_nil]; exact hD.2.1) hD.2.2.1 S.2.2.2.2.2.2.2.2.2.2.1 (fun z => hneg (Or.inl z)) (fun z => hneg (Or.inr z)) hN hK (by omega) (by show K * 4 ≤ _; omega) (by omega) rfl rfl (by omega) (by omega) (fun cc => by show _ = arrV cc K (fun _ => .int 0); exact arrV_new cc K (.int 0)) hd (fun q rr cA H1 hinj hfr q0 p1 p2 p3 => ?_)
          have ecA : cA = I.2.2.1 := by
            have h1 := (S.2.2.2.2.2.2.1.2 2 (I.2.2.1, .array .int) rfl).2
            have h2 := (q0.2 (rx_ty I).length (cA, .array .int) (by rw [List.getElem?_append_right (Nat.le_refl _), Nat.sub_self]; rfl)).2
            exact Option.some.inj (h2.symm.trans h1)
          have hne : ∀ k, k < a.1 ∨ k = rx_scr → rx_rh2 ρ a.1 N q rr k = ρ k := fun k hk => by
            unfold rx_rh2
            have : rx_cells = 291 := rfl
            have : rx_scr = 1000 := rfl
            rw [if_neg (by omega), if_neg (by omega)]
          have hmok := hD.2.2.2.2.2.2.2.2.1
          have m2 : ∀ j, j ≠ a.1 → rx_mrow M.2.1 a.1 N j = M.2.1 j := fun j hj => by
            funext b
            unfold rx_mrow
            rw [if_neg hj]
          have m4 : ∀ j, rx_mrow M.2.1 a.1 N a.1 j = if j < N then some (a.1 + 1 + j) else none := fun j => by
            unfold rx_mrow
            rw [if_pos rfl]
          have m5 : ∀ j, a.1 ≤ j → M.1 j = fun _ => 0 := fun j h1 => funext (hmok.2 j h1).1
          generalize hM' : ((M.1, rx_mrow M.2.1 a.1 N, M.2.2) : rx_M) = M' at *
          have n1 : M'.1 = M.1 := by rw [← hM']
          have n2 : M'.2.1 = rx_mrow M.2.1 a.1 N := by rw [← hM']
          have n3 : M'.2.2 = M.2.2 := by rw [← hM']
          have hw : rx_wl I (rx_rh2 ρ a.1 N q rr) M' (a.1 + 1 + N) = (rx_wl I ρ M a.1 ++ [(q, .inl (cA, N, .inr (.inr (.inr (.inr (fun i => if i < N then some (rr i) else none))))))]) ++ va_pl ([] ++ (List.range N).map rr) (vr_up (fun _ => .inr (0, [])) ((List.range N).map rr) (.inl (I.1, (K, .inl (fun _ => 0))))) := by
            refine List.ext_getElem? fun j => ?_
            have hlen : (rx_wl I ρ M a.1 ++ [((q, .inl (cA, N, .inr (.inr (.inr (.inr (fun i => if i < N then some (rr i) else none)))))) : Nat × va_E)]).length = a.1 + 1 := by
              rw [List.length_append, rx_wl_len]
              rfl
            by_cases j1 : j < a.1 + 1
            · rw [List.getElem?_append_left (by rw [hlen]; exact j1), rx_wl_get (by omega)]
              by_cases j2 : j < a.1
              · rw [List.getElem?_append_left (by rw [rx_wl_len]; exact j2), rx_wl_get j2, hne j (Or.inl j2), ← rx_ce_eq hne hmok j2]
                exact congrArg (fun z => some (ρ j, z)) (rx_ce_ne (M := M) (M' := M') (congrFun n1 j) (by rw [n2, m2 j (by omega)]) (congrFun n3 j))
              · have e9 : j = a.1 := by omega
                subst e9
                rw [List.getElem?_append_right (by rw [rx_wl_len]; exact Nat.le_refl _), rx_wl_len, Nat.sub_self, rx_ce_2 hl]
                have f1 : rx_rh2 ρ a.1 N q rr a.1 = q := if_pos rfl
                have f2 : (fun j => (M'.2.1 a.1 j).map (rx_rh2 ρ a.1 N q rr)) = (fun i => if i < N then some (rr i) else none) := by
                  funext j
                  rw [n2, m4]
                  by_cases hj : j < N
                  · rw [if_pos hj, if_pos hj]
                    refine congrArg some ?_
                    unfold rx_rh2
                    rw [if_neg (by omega), if_pos (by omega)]
                    exact congrArg rr (by omega)
                  · rw [if_neg hj, if_neg hj]
                    rfl
                rw [f1, f2, ecA]
                rfl
            · rw [List.getElem?_append_right (by rw [hlen]; omega), hlen]
              by_cases j2 : j < a.1 + 1 + N
              · rw [rx_wl_get j2]
                have g1 : (va_pl ([] ++ (List.range N).map rr) (vr_up (fun _ => (.inr (0, []) : va_E)) ((List.range N).map rr) (.inl (I.1, (K, .inl (fun _ => 0))))))[j - (a.1 + 1)]? = some (rr (j - (a.1 + 1)), .inl (I.1, (K, .inl (fun _ => 0)))) := by
                  unfold va_pl
                  rw [List.nil_append, List.getElem?_map, List.getElem?_map, List.getElem?_range (by omega)]
                  show some (_, _) = _
                  rw [vr_up_in (List.mem_map.mpr ⟨j - (a.1 + 1), List.mem_range.mpr (by omega), rfl⟩)]
                rw [g1]
                have f1 : rx_rh2 ρ a.1 N q rr j = rr (j - (a.1 + 1)) := by
                  unfold rx_rh2
                  rw [if_neg (by omega), if_pos (by omega)]
                  exact congrArg rr (by omega)
                have f3 : rx_lay j = some (.inr (0, K)) := by
                  have := hlay (j - (a.1 + 1)) (by omega)
                  rwa [show a.1 + 1 + (j - (a.1 + 1)) = j by omega] at this
                rw [f1, rx_ce_0 f3, n1, m5 j (by omega)]
              · rw [rx_wl_none (by omega)]
                refine (List.getElem?_eq_none ?_).symm
                unfold va_pl
                rw [List.length_map, List.nil_append, List.length_map, List.length_range]
                omega
          rw [← hw] at p1 p2
          have hr : ∀ v ∈ r, rx_rk a.1 v := rx_tl (rx_tl hD.st)
          have hlv := hD.2.2.2.1
          have hm2 : rx_mok (a.1 + 1 + N) M' := by
            refine ⟨fun q' j z hq' hz => ?_, fun q' hq' => ?_⟩
            · rw [n2] at hz
              by_cases hq : q' < a.1
              · rw [m2 q' (by omega)] at hz
                have := hmok.1 q' j z hq hz
                omega
              · by_cases hq2 : q' = a.1
                · rw [hq2, m4] at hz
                  split at hz
                  · cases hz
                    omega
                  · cases hz
                · rw [m2 q' hq2, (hmok.2 q' (by omega)).2.1] at hz
                  cases hz
            · have h9 := hmok.2 q' (by omega)
              exact ⟨fun j => by rw [n1]; exact h9.1 j, fun j => by rw [n2, m2 q' (by omega)]; exact h9.2.1 j, fun j => by rw [n3]; exact h9.2.2 j⟩
          have Kx := kk (rx_rh2 ρ a.1 N q rr) H1 locs lsr (cells + 1 + N) (slots + N + N * K) (fun k hk => by
            rw [← hρ k hk]
            refine hne k ?_
            have := hD.2.2.2.2.1
            rcases hk with hk | hk
            · exact Or.inl (by omega)
            · exact Or.inr hk) ⟨p1, p2, p3, ⟨hlv.1, hlv.2.1, hlv.2.2.1, fun k v hk => by
              rw [rx_tr_eq hne (hD.2.2.2.2.2.2.1 v (List.mem_of_getElem? hk))]
              exact hlv.2.2.2 k v hk⟩, by dsimp only; have := hD.2.2.2.2.1; omega, hlt, fun v hv => rx_rk_up (hD.2.2.2.2.2.2.1 v hv) (show a.1 ≤ a.1 + 1 + N by omega), rx_cs (Or.inl (show a.1 < a.1 + 1 + N by omega)) (fun v hv => rx_rk_up (hr v hv) (show a.1 ≤ a.1 + 1 + N by omega)), hm2, fun hi => by
                have h9 := hD.2.2.2.2.2.2.2.2.2 hi
                rw [← hne rx_scr (Or.inr rfl)] at h9
                exact h9⟩ (by dsimp only; omega) (by dsimp only; omega)
          have e1 : (Value.ref a.1 :: r).map (rx_tr (rx_rh2 ρ a.1 N q rr)) = .ref q :: r.map (rx_tr ρ) := by
            rw [List.map_cons]
            have f1 : rx_tr (rx_rh2 ρ a.1 N q rr) (.ref a.1) = .ref q := congrArg Value.ref (if_pos rfl)
            rw [f1, List.map_congr_left fun v hv => rx_tr_eq hne (hr v hv)]
          dsimp only at Kx
          rw [e1] at Kx
          exact Kx
        · cases h
  · cases h
end RXG
