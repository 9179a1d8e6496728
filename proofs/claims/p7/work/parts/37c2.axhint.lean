/-! the core: hints at a place of the code: what the guards tell, cases -/
noncomputable def ax_rf1 (K : ax_K) (g : ax_gt) (E : ax_E) (e : Nat × Value × Value) : ax_E := cond ((Nat.beq e.1 g.2.1.1 && (sx_isI e.2.2 && (decide ((ax_iv E e.2.2).1 = g.2.1.2) && decide ((ax_iv E e.2.2).2 = g.2.1.2)))) && ((match ax_fi g.1.1 (ax_fx g.1.2) K with
  | some s => ax_leq E e.2.1 s 1
  | none => false) && decide (0 ≤ (ax_iv E e.2.1).1))) (match ax_fi g.2.2.1 e.2.1 K with
  | some (.retAddr k) => ax_set E k (max g.2.2.2.1 (ax_b E k).1, min g.2.2.2.2 (ax_b E k).2)
  | _ => E) E
noncomputable def ax_rfg (K : ax_K) (g : ax_gt) (E : ax_E) (L : ax_K) : ax_E := List.rec (motive := fun _ => ax_E → ax_E) (fun E => E) (fun e _ ih E => ih (ax_rf1 K g E e)) L E
/-- one that is kept is one of the folk -/
noncomputable def ax_rf3 (K : ax_K) (E : ax_E) (e : Nat × Value × Value) : ax_E := cond (Nat.beq e.1 283 && (sx_isI e.2.2 && (decide ((ax_iv E e.2.2).1 = 1) && decide ((ax_iv E e.2.2).2 = 1)))) (match ax_fi 284 e.2.1 K with
  | some (.retAddr k) => ax_set E k (max 0 (ax_b E k).1, min 11 (ax_b E k).2)
  | _ => E) E
noncomputable def ax_rf3s (K : ax_K) (E : ax_E) (L : ax_K) : ax_E := List.rec (motive := fun _ => ax_E → ax_E) (fun E => E) (fun e _ ih E => ih (ax_rf3 K E e)) L E
noncomputable def ax_rfn (K : ax_K) (E : ax_E) : ax_E := List.rec (motive := fun _ => ax_E → ax_E) (fun E => ax_rf3s K E K) (fun g _ ih E => ih (ax_rfg K g E K)) ax_gs E
section AXHN
variable {X : Nat × (Nat → Int32)} {P : Option Value → rx_M → Prop} {W : ax_W} {sp : Nat → Nat → Int × Int} {rf : Nat → Nat → Option Nat} {ih nx : ax_S} {v : ax_V} {E : ax_E} {K : ax_K} {M : rx_M} {a : rx_K} {d i pc : Nat} {fr : ax_F} {ls : List (Option Value)} {st : List Value}
/-- bounds alone are closer -/
noncomputable def ax_cl1 (v : ax_V) (E E' : ax_E) : Prop := (ax_ok v E → ax_ok v E') ∧ (ax_wf E → ax_wf E') ∧ E'.1 = E.1
theorem ax_cl1_rf : ax_cl1 v E E := ⟨fun h => h, fun h => h, rfl⟩
theorem ax_cl1_tr {E1 E2 E3 : ax_E} (h : ax_cl1 v E1 E2) (k : ax_cl1 v E2 E3) : ax_cl1 v E1 E3 := ⟨fun z => k.1 (h.1 z), fun z => k.2.1 (h.2.1 z), k.2.2.trans h.2.2⟩
theorem ax_rf1_ok (hK : ax_kn v K M) (hG : ax_GG M.1) {g : ax_gt} (hg : g ∈ ax_gs) {e : Nat × Value × Value} (he : e ∈ K) (hE : ax_ok v E) : ax_cl1 v E (ax_rf1 K g E e) := by
  unfold ax_rf1
  cases hc : ((Nat.beq e.1 g.2.1.1 && (sx_isI e.2.2 && (decide ((ax_iv E e.2.2).1 = g.2.1.2) && decide ((ax_iv E e.2.2).2 = g.2.1.2)))) && ((match ax_fi g.1.1 (ax_fx g.1.2) K with
    | some s => ax_leq E e.2.1 s 1
    | none => false) && decide (0 ≤ (ax_iv E e.2.1).1))) with
  | false => exact ax_cl1_rf
  | true =>
    rw [Bool.cond_true]
    split
    · rename_i k hk
      simp only [Bool.and_eq_true, decide_eq_true_eq] at hc
      obtain ⟨⟨c1, c2, c3, c4⟩, c5, c6⟩ := hc
      obtain ⟨q, y, z⟩ := e
      have eq := Nat.eq_of_beq_eq_true c1
      dsimp only at eq c2 c3 c4 c5 c6 hk
      subst eq
      have k1 := ax_k1_i (hK _ he) c2
      have i1 := ax_iv_ok hE c2
      split at c5
      · rename_i s hs
        obtain ⟨s1, s2⟩ := ax_fi_ok hK hs
        obtain ⟨y1, -, y2⟩ := ax_leq_ok hE c5
        have i2 := ax_iv_ok hE y1
        have e3 := ax_clamp (x := ax_vi v y) (by omega)
        have ef : (ax_vi v (ax_fx g.1.2)).toNatClampNeg = g.1.2 := by
          rcases ax_gs_f g hg with ⟨w, -, -⟩ | ⟨w, -, -⟩
          · rw [w]; rfl
          · rw [w]; rfl
        rw [ef] at s2
        obtain ⟨f1, f2⟩ := ax_fi_ok hK hk
        have f2 : M.1 g.2.2.1 (ax_vi v y).toNatClampNeg = (v k).1 := f2
        have k9 := hG.1 g hg (ax_vi v y).toNatClampNeg (by rw [s2]; omega) (by rw [k1]; omega)
        rw [f2] at k9
        refine ⟨fun h => ax_set_ok h ?_, fun h => ax_set_wf h, ax_set_n⟩
        have b := h.1 k
        dsimp only
        omega
      · cases c5
    · exact ax_cl1_rf
theorem ax_rfg_ok (hK : ax_kn v K M) (hG : ax_GG M.1) {g : ax_gt} (hg : g ∈ ax_gs) : ∀ (L : ax_K) (E : ax_E), (∀ e ∈ L, e ∈ K) → ax_ok v E → ax_cl1 v E (ax_rfg K g E L)
  | [], E, _, _ => ax_cl1_rf
  | e :: t, E, hL, hE => by
    have h1 := ax_rf1_ok hK hG hg (hL e List.mem_cons_self) hE
    exact ax_cl1_tr h1 (ax_rfg_ok hK hG hg t _ (fun z hz => hL z (List.mem_cons_of_mem _ hz)) (h1.1 hE))
theorem ax_rf3_ok (hK : ax_kn v K M) (hG : ax_GG M.1) {e : Nat × Value × Value} (he : e ∈ K) (hE : ax_ok v E) : ax_cl1 v E (ax_rf3 K E e) := by
  unfold ax_rf3
  cases hc : (Nat.beq e.1 283 && (sx_isI e.2.2 && (decide ((ax_iv E e.2.2).1 = 1) && decide ((ax_iv E e.2.2).2 = 1)))) with
  | false => exact ax_cl1_rf
  | true =>
    rw [Bool.cond_true]
    split
    · rename_i k hk
      simp only [Bool.and_eq_true, decide_eq_true_eq] at hc
      obtain ⟨c1, c2, c3, c4⟩ := hc
      obtain ⟨q, y, z⟩ := e
      have eq := Nat.eq_of_beq_eq_true c1
      dsimp only at eq c2 c3 c4 hk
      subst eq
      have k1 := ax_k1_i (hK _ he) c2
      have i1 := ax_iv_ok hE c2
      obtain ⟨f1, f2⟩ := ax_fi_ok hK hk
      have f2 : M.1 284 (ax_vi v y).toNatClampNeg = (v k).1 := f2
      have k9 := hG.2.2.2.1 (ax_vi v y).toNatClampNeg (by rw [k1]; omega)
      rw [f2] at k9
      refine ⟨fun h => ax_set_ok h ?_, fun h => ax_set_wf h, ax_set_n⟩
      have b := h.1 k
      dsimp only
      omega
    · exact ax_cl1_rf
theorem ax_rf3s_ok (hK : ax_kn v K M) (hG : ax_GG M.1) : ∀ (L : ax_K) (E : ax_E), (∀ e ∈ L, e ∈ K) → ax_ok v E → ax_cl1 v E (ax_rf3s K E L)
  | [], E, _, _ => ax_cl1_rf
  | e :: t, E, hL, hE => by
    have h1 := ax_rf3_ok hK hG (hL e List.mem_cons_self) hE
    exact ax_cl1_tr h1 (ax_rf3s_ok hK hG t _ (fun z hz => hL z (List.mem_cons_of_mem _ hz)) (h1.1 hE))
theorem ax_rfn_ok0 (hK : ax_kn v K M) (hG : ax_GG M.1) : ∀ (L : List ax_gt) (E : ax_E), (∀ g ∈ L, g ∈ ax_gs) → ax_ok v E → ax_cl1 v E (List.rec (motive := fun _ => ax_E → ax_E) (fun E => ax_rf3s K E K) (fun g _ ih E => ih (ax_rfg K g E K)) L E)
  | [], E, _, hE => ax_rf3s_ok hK hG K E (fun _ h => h) hE
  | g :: t, E, hL, hE => by
    have h1 := ax_rfg_ok hK hG (hL g List.mem_cons_self) K E (fun _ h => h) hE
    exact ax_cl1_tr h1 (ax_rfn_ok0 hK hG t _ (fun z hz => hL z (List.mem_cons_of_mem _ hz)) (h1.1 hE))
theorem ax_rfn_ok (hK : ax_kn v K M) (hG : ax_GG M.1) (hE : ax_ok v E) : ax_cl1 v E (ax_rfn K E) := ax_rfn_ok0 hK hG ax_gs E (fun _ h => h) hE
theorem ax_cl1_St {E' : ax_E} (S : ax_St W sp rf v E K M a fr) (h : ax_cl1 v E E') : ax_St W sp rf v E' K M a fr := by
  obtain ⟨s1, s2, s3, s4, s5, s6, s7⟩ := S
  exact ⟨h.2.1 s1, h.1 s2, by rw [h.2.2]; exact s3, s4, s5, s6, by rw [h.2.2]; exact s7⟩
/-- 0 none, 1 what the guards tell, 2 the place 213 or none (-4), 16 h + k + 1000 local k below 0, up to h, above; k + 3 the cases of local k -/
noncomputable def ax_spl (ih nx : ax_S) (h : Int) (u : Nat) : ax_S := fun E K d fr i pc ls st => cond (decide ((ax_b E u).1 < 0) && decide (0 ≤ (ax_b E u).2)) (ih (ax_lo E u (-1)) K d fr i pc ls st && ih (ax_up2 E u (-1)) K d fr i pc ls st) (cond (decide ((ax_b E u).1 ≤ h) && decide (h < (ax_b E u).2)) (ih (ax_lo E u h) K d fr i pc ls st && ih (ax_up2 E u h) K d fr i pc ls st) (nx E K d fr i pc ls st))
noncomputable def ax_hnt (hn : Nat → Nat → Nat) (ih nx : ax_S) : ax_S := fun E K d fr i pc ls st => match hn i pc with
  | 0 => nx E K d fr i pc ls st
  | 1 => nx (ax_rfn K E) K d fr i pc ls st
  | 2 => (match st with
    | .retAddr u :: _ => cond (K.any (fun e => Nat.beq e.1 213 && ax_eqv e.2.2 (.retAddr u)) && (decide ((ax_b E u).1 < 0) && decide (0 ≤ (ax_b E u).2))) (nx (ax_set E u (-4, -4)) K d fr i pc ls st && nx (ax_set E u (0, (ax_b E u).2)) K d fr i pc ls st) (nx E K d fr i pc ls st)
    | _ => nx E K d fr i pc ls st)
  | k + 3 => cond (Nat.ble 1997 k) (match sx_at none ls ((k - 1997) % 16) with
    | some (.retAddr u) => ax_spl ih (fun E K d fr i pc ls st => cond (decide (0 ≤ (ax_b E u).1) && (decide ((ax_b E u).2 ≤ (((k - 1997) / 16 : Nat) : Int)) && decide ((ax_b E u).1 < (ax_b E u).2))) (ih (ax_lo E u (ax_b E u).1) K d fr i pc ls st && ih (ax_up2 E u (ax_b E u).1) K d fr i pc ls st) (nx E K d fr i pc ls st)) (((k - 1997) / 16 : Nat) : Int) u E K d fr i pc ls st
    | _ => nx E K d fr i pc ls st) (cond (Nat.ble 997 k) (match sx_at none ls ((k - 997) % 16) with
    | some (.retAddr u) => ax_spl ih nx (((k - 997) / 16 : Nat) : Int) u E K d fr i pc ls st
    | _ => nx E K d fr i pc ls st) (match sx_at none ls k with
    | some (.retAddr u) => cond (decide ((ax_b E u).1 < (ax_b E u).2)) (ih (ax_lo E u (ax_b E u).1) K d fr i pc ls st && ih (ax_up2 E u (ax_b E u).1) K d fr i pc ls st) (nx E K d fr i pc ls st)
    | _ => nx E K d fr i pc ls st))
theorem ax_hnt_ok {hn : Nat → Nat → Nat} (H : ax_H X P W sp rf ih) (H2 : ax_H X P W sp rf nx) : ax_H X P W sp rf (ax_hnt hn ih nx) := by
  intro E K d fr i pc ls st h v M a S
  have N : ∀ {E : ax_E}, nx E K d fr i pc ls st = true → ax_St W sp rf v E K M a fr → ax_C X P v d fr i (pc, ax_ls v ls, st.map (ax_v v), a, M) := fun h S => H2 _ _ _ _ _ _ _ _ h v M a S
  unfold ax_hnt at h
  split at h
  · exact N h S
  · exact N h (ax_cl1_St S (ax_rfn_ok S.2.2.2.2.1 S.2.2.2.1.2.2.2 S.2.1))
  · split at h
    · rename_i u r
      cases hc : (K.any (fun e => Nat.beq e.1 213 && ax_eqv e.2.2 (.retAddr u)) && (decide ((ax_b E u).1 < 0) && decide (0 ≤ (ax_b E u).2))) with
      | false => rw [hc] at h; exact N h S
      | true =>
        rw [hc, Bool.cond_true, Bool.and_eq_true] at h
        rw [Bool.and_eq_true] at hc
        obtain ⟨e, he, h1⟩ := List.any_eq_true.mp hc.1
        rw [Bool.and_eq_true] at h1
        obtain ⟨q, y, z⟩ := e
        have e1 : q = 213 := Nat.eq_of_beq_eq_true h1.1
        have e2 : z = .retAddr u := (ax_eqv_ok h1.2).1
        subst e1
        subst e2
        have k1 := ax_k1_i (S.2.2.2.2.1 _ he) rfl
        have k1 : M.1 213 (ax_vi v y).toNatClampNeg = (v u).1 := k1
        have g := S.2.2.2.1.2.2.2.2.2.1 (ax_vi v y).toNatClampNeg
        rw [k1] at g
        have b := S.2.1.1 u
        rcases g with g | g
        · exact N h.1 (ax_cl1_St S ⟨fun w => ax_set_ok w (by dsimp only; omega), ax_set_wf, ax_set_n⟩)
        · exact N h.2 (ax_cl1_St S ⟨fun w => ax_set_ok w (by dsimp only; omega), ax_set_wf, ax_set_n⟩)
    · exact N h S
  · rename_i k _
    have cut : ∀ (u : Nat) (c : Int), (ih (ax_lo E u c) K d fr i pc ls st && ih (ax_up2 E u c) K d fr i pc ls st) = true → ax_C X P v d fr i (pc, ax_ls v ls, st.map (ax_v v), a, M) := fun u c h => by
      rw [Bool.and_eq_true] at h
      by_cases hk : (v u).1.toInt ≤ c
      · have w := ax_lo_wf (k := u) (b := c) S.1
        exact H _ _ _ _ _ _ _ _ h.1 v M a (ax_cl1_St S ⟨fun z => ax_lo_ok z hk, fun z => (ax_lo_wf z).1, w.2⟩)
      · have w := ax_up2_wf (k := u) (b := c) S.1
        exact H _ _ _ _ _ _ _ _ h.2 v M a (ax_cl1_St S ⟨fun z => ax_up2_ok z (by omega), fun z => (ax_up2_wf z).1, w.2⟩)
    have spl : ∀ (u : Nat) (c : Int) (nx2 : ax_S), (nx2 E K d fr i pc ls st = true → ax_C X P v d fr i (pc, ax_ls v ls, st.map (ax_v v), a, M)) → ax_spl ih nx2 c u E K d fr i pc ls st = true → ax_C X P v d fr i (pc, ax_ls v ls, st.map (ax_v v), a, M) := fun u c nx2 hn h => by
      unfold ax_spl at h
      cases hc : (decide ((ax_b E u).1 < 0) && decide (0 ≤ (ax_b E u).2)) with
      | true => rw [hc] at h; exact cut u (-1) h
      | false =>
        rw [hc, Bool.cond_false] at h
        cases hc2 : (decide ((ax_b E u).1 ≤ c) && decide (c < (ax_b E u).2)) with
        | true => rw [hc2] at h; exact cut u _ h
        | false => rw [hc2] at h; exact hn h
    cases hk2 : Nat.ble 1997 k with
    | true =>
      rw [hk2, Bool.cond_true] at h
      split at h
      · rename_i u _
        refine spl u _ _ (fun h => ?_) h
        generalize (decide (0 ≤ (ax_b E u).1) && (decide ((ax_b E u).2 ≤ (((k - 1997) / 16 : Nat) : Int)) && decide ((ax_b E u).1 < (ax_b E u).2))) = b at h
        cases b with
        | true => exact cut u _ h
        | false => exact N h S
      · exact N h S
    | false =>
    rw [hk2, Bool.cond_false] at h
    cases hk : Nat.ble 997 k with
    | true =>
      rw [hk, Bool.cond_true] at h
      split at h
      · rename_i u _
        unfold ax_spl at h
        cases hc : (decide ((ax_b E u).1 < 0) && decide (0 ≤ (ax_b E u).2)) with
        | true => rw [hc] at h; exact cut u (-1) h
        | false =>
          rw [hc, Bool.cond_false] at h
          cases hc2 : (decide ((ax_b E u).1 ≤ (((k - 997) / 16 : Nat) : Int)) && decide ((((k - 997) / 16 : Nat) : Int) < (ax_b E u).2)) with
          | true => rw [hc2] at h; exact cut u _ h
          | false => rw [hc2] at h; exact N h S
      · exact N h S
    | false =>
      rw [hk, Bool.cond_false] at h
      split at h
      · rename_i u _
        cases hc : decide ((ax_b E u).1 < (ax_b E u).2) with
        | false => rw [hc] at h; exact N h S
        | true =>
          rw [hc, Bool.cond_true] at h
          exact cut u _ h
      · exact N h S
end AXHN
