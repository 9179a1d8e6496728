/-! the reference's mostOf, by hand: the end, the way back, what is sent on -/
section MO
variable {X : Nat × (Nat → Int32)} {d n : Nat} {a : rx_K} {M0 : rx_M} {P : rx_O → Prop}
noncomputable def mo_e (M : rx_M) (n : Nat) (x : Int32) : Prop := x.toInt = -1 ∨ ∃ e : Nat, x.toInt = (e : Int) ∧ e < n ∧ (M.1 271 e).toInt < 0 ∧ (M.1 272 e).toInt < 10000
theorem mo_e1 {M : rx_M} {x : Int32} (h : x.toInt = -1) : mo_e M n x := Or.inl h
theorem mo_125 (ha : a.1 = rx_cells) (hn : (M0.1 244 1).toInt = (n : Int)) (hn12 : n ≤ 12) {x1 : Int32} {o4 o5 : Option Value} {M : rx_M} (hM : mo_inv M0 M) : ∀ (m k : Nat) (x2 x3 : Int32), m + k = n → x3.toInt = (k : Int) → mo_e M n x2 → (∀ y z, mo_e M n y → hp X d 216 181 [some (.ref 244), some (.int x1), some (.int y), some (.int z), o4, o5] [] a M P) → hp X d 216 125 [some (.ref 244), some (.int x1), some (.int x2), some (.int x3), o4, o5] [] a M P := by
  intro m
  induction m with
  | zero =>
    intro k x2 x3 hb h3 he kk
    refine hp_il (pc' := 126) (j := 3) (Or.inr ⟨3, rfl, rfl, rfl⟩) rfl ?_
    refine hp_al (pc' := 127) (j := 0) (Or.inr ⟨0, rfl, rfl, rfl⟩) rfl ?_
    have m127 := mo_n hM hn
    refine hp_gi (pc' := 130) (j := 1) (t := 0) ha rfl rfl rfl (by decide) rfl ?_
    refine hp_ige (t := 181) (pc' := 133) rfl rfl rfl (fun c1 => ?_) (fun c1 => ?_)
    · exact kk _ _ he
    · exfalso
      omega
  | succ m ih =>
    intro k x2 x3 hb h3 he kk
    have c10 : (10000 : Int32).toInt = 10000 := rfl
    have he0 := he
    rcases he0 with q0 | ⟨e, q1, q2, q3, q4⟩
    · refine hp_il (pc' := 126) (j := 3) (Or.inr ⟨3, rfl, rfl, rfl⟩) rfl ?_
      refine hp_al (pc' := 127) (j := 0) (Or.inr ⟨0, rfl, rfl, rfl⟩) rfl ?_
      have m127 := mo_n hM hn
      refine hp_gi (pc' := 130) (j := 1) (t := 0) ha rfl rfl rfl (by decide) rfl ?_
      refine hp_ige (t := 181) (pc' := 133) rfl rfl rfl (fun c1 => ?_) (fun c1 => ?_)
      · exfalso
        omega
      · refine hp_al (pc' := 134) (j := 0) (Or.inr ⟨0, rfl, rfl, rfl⟩) rfl ?_
        refine hp_gr (pc' := 137) ha (hM.1 244 35 271 rfl) rfl rfl rfl rfl ?_
        refine hp_il (pc' := 138) (j := 3) (Or.inr ⟨3, rfl, rfl, rfl⟩) rfl ?_
        refine hp_ld (pc' := 139) (j := k) ha h3 (by omega) rfl rfl rfl ?_
        refine hp_zge (t := 175) (pc' := 142) rfl rfl rfl (fun c2 => ?_) (fun c2 => ?_)
        · refine hp_in (pc' := 178) (j := 3) (ls' := [some (.ref 244), some (.int x1), some (.int x2), some (.int (x3 + Int32.ofInt 1)), o4, o5]) rfl rfl rfl rfl rfl ?_
          refine hp_go (t := 125) rfl rfl ?_
          exact ih (k + 1) _ _ (by omega) (hp_i1 h3 (by omega)) he kk
        · refine hp_al (pc' := 143) (j := 0) (Or.inr ⟨0, rfl, rfl, rfl⟩) rfl ?_
          refine hp_gr (pc' := 146) ha (hM.1 244 36 272 rfl) rfl rfl rfl rfl ?_
          refine hp_il (pc' := 147) (j := 3) (Or.inr ⟨3, rfl, rfl, rfl⟩) rfl ?_
          refine hp_ld (pc' := 148) (j := k) ha h3 (by omega) rfl rfl rfl ?_
          refine hp_si (pc' := 151) (x := 10000) rfl rfl rfl ?_
          refine hp_ige (t := 175) (pc' := 154) rfl rfl rfl (fun c3 => ?_) (fun c3 => ?_)
          · refine hp_in (pc' := 178) (j := 3) (ls' := [some (.ref 244), some (.int x1), some (.int x2), some (.int (x3 + Int32.ofInt 1)), o4, o5]) rfl rfl rfl rfl rfl ?_
            refine hp_go (t := 125) rfl rfl ?_
            exact ih (k + 1) _ _ (by omega) (hp_i1 h3 (by omega)) he kk
          · refine hp_il (pc' := 155) (j := 2) (Or.inr ⟨2, rfl, rfl, rfl⟩) rfl ?_
            refine hp_zlt (t := 173) (pc' := 158) rfl rfl rfl (fun c4 => ?_) (fun c4 => ?_)
            · refine hp_il (pc' := 174) (j := 3) (Or.inr ⟨3, rfl, rfl, rfl⟩) rfl ?_
              refine hp_is (pc' := 175) (j := 2) (ls' := [some (.ref 244), some (.int x1), some (.int x3), some (.int x3), o4, o5]) (Or.inr ⟨2, rfl, rfl, rfl⟩) (by simp) rfl ?_
              refine hp_in (pc' := 178) (j := 3) (ls' := [some (.ref 244), some (.int x1), some (.int x3), some (.int (x3 + Int32.ofInt 1)), o4, o5]) rfl rfl rfl rfl rfl ?_
              refine hp_go (t := 125) rfl rfl ?_
              exact ih (k + 1) _ _ (by omega) (hp_i1 h3 (by omega)) (Or.inr ⟨k, h3, by omega, by omega, by omega⟩) kk
            · exfalso
              omega
    · refine hp_il (pc' := 126) (j := 3) (Or.inr ⟨3, rfl, rfl, rfl⟩) rfl ?_
      refine hp_al (pc' := 127) (j := 0) (Or.inr ⟨0, rfl, rfl, rfl⟩) rfl ?_
      have m127 := mo_n hM hn
      refine hp_gi (pc' := 130) (j := 1) (t := 0) ha rfl rfl rfl (by decide) rfl ?_
      refine hp_ige (t := 181) (pc' := 133) rfl rfl rfl (fun c1 => ?_) (fun c1 => ?_)
      · exfalso
        omega
      · refine hp_al (pc' := 134) (j := 0) (Or.inr ⟨0, rfl, rfl, rfl⟩) rfl ?_
        refine hp_gr (pc' := 137) ha (hM.1 244 35 271 rfl) rfl rfl rfl rfl ?_
        refine hp_il (pc' := 138) (j := 3) (Or.inr ⟨3, rfl, rfl, rfl⟩) rfl ?_
        refine hp_ld (pc' := 139) (j := k) ha h3 (by omega) rfl rfl rfl ?_
        refine hp_zge (t := 175) (pc' := 142) rfl rfl rfl (fun c2 => ?_) (fun c2 => ?_)
        · refine hp_in (pc' := 178) (j := 3) (ls' := [some (.ref 244), some (.int x1), some (.int x2), some (.int (x3 + Int32.ofInt 1)), o4, o5]) rfl rfl rfl rfl rfl ?_
          refine hp_go (t := 125) rfl rfl ?_
          exact ih (k + 1) _ _ (by omega) (hp_i1 h3 (by omega)) he kk
        · refine hp_al (pc' := 143) (j := 0) (Or.inr ⟨0, rfl, rfl, rfl⟩) rfl ?_
          refine hp_gr (pc' := 146) ha (hM.1 244 36 272 rfl) rfl rfl rfl rfl ?_
          refine hp_il (pc' := 147) (j := 3) (Or.inr ⟨3, rfl, rfl, rfl⟩) rfl ?_
          refine hp_ld (pc' := 148) (j := k) ha h3 (by omega) rfl rfl rfl ?_
          refine hp_si (pc' := 151) (x := 10000) rfl rfl rfl ?_
          refine hp_ige (t := 175) (pc' := 154) rfl rfl rfl (fun c3 => ?_) (fun c3 => ?_)
          · refine hp_in (pc' := 178) (j := 3) (ls' := [some (.ref 244), some (.int x1), some (.int x2), some (.int (x3 + Int32.ofInt 1)), o4, o5]) rfl rfl rfl rfl rfl ?_
            refine hp_go (t := 125) rfl rfl ?_
            exact ih (k + 1) _ _ (by omega) (hp_i1 h3 (by omega)) he kk
          · refine hp_il (pc' := 155) (j := 2) (Or.inr ⟨2, rfl, rfl, rfl⟩) rfl ?_
            refine hp_zlt (t := 173) (pc' := 158) rfl rfl rfl (fun c4 => ?_) (fun c4 => ?_)
            · refine hp_il (pc' := 174) (j := 3) (Or.inr ⟨3, rfl, rfl, rfl⟩) rfl ?_
              refine hp_is (pc' := 175) (j := 2) (ls' := [some (.ref 244), some (.int x1), some (.int x3), some (.int x3), o4, o5]) (Or.inr ⟨2, rfl, rfl, rfl⟩) (by simp) rfl ?_
              refine hp_in (pc' := 178) (j := 3) (ls' := [some (.ref 244), some (.int x1), some (.int x3), some (.int (x3 + Int32.ofInt 1)), o4, o5]) rfl rfl rfl rfl rfl ?_
              refine hp_go (t := 125) rfl rfl ?_
              exact ih (k + 1) _ _ (by omega) (hp_i1 h3 (by omega)) (Or.inr ⟨k, h3, by omega, by omega, by omega⟩) kk
            · refine hp_al (pc' := 159) (j := 0) (Or.inr ⟨0, rfl, rfl, rfl⟩) rfl ?_
              refine hp_gr (pc' := 162) ha (hM.1 244 36 272 rfl) rfl rfl rfl rfl ?_
              refine hp_il (pc' := 163) (j := 3) (Or.inr ⟨3, rfl, rfl, rfl⟩) rfl ?_
              refine hp_ld (pc' := 164) (j := k) ha h3 (by omega) rfl rfl rfl ?_
              refine hp_al (pc' := 165) (j := 0) (Or.inr ⟨0, rfl, rfl, rfl⟩) rfl ?_
              refine hp_gr (pc' := 168) ha (hM.1 244 36 272 rfl) rfl rfl rfl rfl ?_
              refine hp_il (pc' := 169) (j := 2) (Or.inr ⟨2, rfl, rfl, rfl⟩) rfl ?_
              refine hp_ld (pc' := 170) (j := e) ha q1 (by omega) rfl rfl rfl ?_
              refine hp_ige (t := 175) (pc' := 173) rfl rfl rfl (fun c5 => ?_) (fun c5 => ?_)
              · refine hp_in (pc' := 178) (j := 3) (ls' := [some (.ref 244), some (.int x1), some (.int x2), some (.int (x3 + Int32.ofInt 1)), o4, o5]) rfl rfl rfl rfl rfl ?_
                refine hp_go (t := 125) rfl rfl ?_
                exact ih (k + 1) _ _ (by omega) (hp_i1 h3 (by omega)) he kk
              · refine hp_il (pc' := 174) (j := 3) (Or.inr ⟨3, rfl, rfl, rfl⟩) rfl ?_
                refine hp_is (pc' := 175) (j := 2) (ls' := [some (.ref 244), some (.int x1), some (.int x3), some (.int x3), o4, o5]) (Or.inr ⟨2, rfl, rfl, rfl⟩) (by simp) rfl ?_
                refine hp_in (pc' := 178) (j := 3) (ls' := [some (.ref 244), some (.int x1), some (.int x3), some (.int (x3 + Int32.ofInt 1)), o4, o5]) rfl rfl rfl rfl rfl ?_
                refine hp_go (t := 125) rfl rfl ?_
                exact ih (k + 1) _ _ (by omega) (hp_i1 h3 (by omega)) (Or.inr ⟨k, h3, by omega, by omega, by omega⟩) kk
theorem mo_rm1 {M : rx_M} {f : Nat} {z : Int32} {c : Int} (h1 : mo_P M f < 12 → z.toInt = (M.1 268 (12 * gw_pr (mo_P M) f + f)).toInt - (M.1 270 (12 * gw_pr (mo_P M) f + f)).toInt) (h2 : 12 ≤ mo_P M f → z.toInt = (M.1 270 (12 * f + gw_pr (mo_P M) f)).toInt) (hc : c ≤ z.toInt) : mo_room M f c := ⟨fun q => by rw [← h1 q]; exact hc, fun q => by rw [← h2 q]; exact hc⟩
theorem mo_rm2 {M : rx_M} {f : Nat} {b c : Int} (h : mo_room M f b) (hc : c ≤ b) : mo_room M f c := ⟨fun q => Int.le_trans hc (h.1 q), fun q => Int.le_trans hc (h.2 q)⟩
theorem mo_ge1 {M : rx_M} {n f : Nat} (hE : gw_E n (mo_R M) (mo_r M) (mo_F M) (mo_P M)) (hf : f < n) (h0 : 0 ≤ mo_P M f) {z : Int32} (h1 : mo_P M f < 12 → z.toInt = (M.1 268 (12 * gw_pr (mo_P M) f + f)).toInt - (M.1 270 (12 * gw_pr (mo_P M) f + f)).toInt) (h2 : 12 ≤ mo_P M f → z.toInt = (M.1 270 (12 * f + gw_pr (mo_P M) f)).toInt) : 1 ≤ z.toInt := by
  obtain ⟨t1, t2, t3, t4, t5⟩ := gw_tight hE hf h0
  by_cases q : mo_P M f < 12
  · have e : gw_pc (mo_P M) f = 1 := if_pos q
    rw [e] at t2
    have := mo_R1.mp t2
    have := h1 q
    omega
  · have e : gw_pc (mo_P M) f = -1 := if_neg q
    rw [e] at t2
    have := mo_R2.mp t2
    have := h2 (by omega)
    omega
/-- one step back -/
theorem mo_V1 {M : rx_M} {n en f : Nat} {c c' : Int} (hE : gw_E n (mo_R M) (mo_r M) (mo_F M) (mo_P M)) (hf : f < n) (h0 : 0 ≤ mo_P M f) (hcc : c' ≤ c) (hr : mo_room M f c') (h : ∃ V : Nat → Prop, V en ∧ V f ∧ ∀ x, V x → x < n ∧ mo_F M x ≠ 10000 ∧ (x = f ∨ (0 ≤ mo_P M x ∧ V (gw_pr (mo_P M) x) ∧ mo_room M x c))) : ∃ V : Nat → Prop, V en ∧ V (gw_pr (mo_P M) f) ∧ ∀ x, V x → x < n ∧ mo_F M x ≠ 10000 ∧ (x = gw_pr (mo_P M) f ∨ (0 ≤ mo_P M x ∧ V (gw_pr (mo_P M) x) ∧ mo_room M x c')) := by
  obtain ⟨V, v1, v2, v3⟩ := h
  obtain ⟨t1, t2, t3, t4, t5⟩ := gw_tight hE hf h0
  refine ⟨fun x => V x ∨ x = gw_pr (mo_P M) f, Or.inl v1, Or.inr rfl, fun x hx => ?_⟩
  by_cases q : x = gw_pr (mo_P M) f
  · rw [q]
    exact ⟨t1, t3, Or.inl rfl⟩
  · have hx : V x := hx.elim (fun z => z) (fun z => absurd z q)
    obtain ⟨w1, w2, w3⟩ := v3 x hx
    refine ⟨w1, w2, Or.inr ?_⟩
    rcases w3 with e | ⟨w4, w5, w6⟩
    · rw [e]
      exact ⟨h0, Or.inr rfl, hr⟩
    · exact ⟨w4, Or.inl w5, mo_rm2 w6 hcc⟩
theorem mo_199 (ha : a.1 = rx_cells) (hn12 : n ≤ 12) {x1 x2 : Int32} {o5 : Option Value} {M : rx_M} (hM : mo_inv M0 M) (hE : gw_E n (mo_R M) (mo_r M) (mo_F M) (mo_P M)) {kr : Nat → Nat} (hk : ∀ f, f < n → 0 ≤ mo_P M f → kr (gw_pr (mo_P M) f) < kr f) (ht : ∀ j, j < 144 → 0 ≤ (M.1 270 j).toInt) {en : Nat} {lim : Int} : ∀ (m f : Nat) (x3 x4 : Int32), kr f < m → f < n → mo_F M f ≠ 10000 → x4.toInt = (f : Int) → 1 ≤ x3.toInt → x3.toInt ≤ lim → (∃ V : Nat → Prop, V en ∧ V f ∧ ∀ x, V x → x < n ∧ mo_F M x ≠ 10000 ∧ (x = f ∨ (0 ≤ mo_P M x ∧ V (gw_pr (mo_P M) x) ∧ mo_room M x x3.toInt))) → (∀ f x3 x4, f < n → mo_F M f ≠ 10000 → x4.toInt = (f : Int) → mo_P M f < 0 → 1 ≤ x3.toInt → x3.toInt ≤ lim → (∃ V : Nat → Prop, V en ∧ V f ∧ ∀ x, V x → x < n ∧ mo_F M x ≠ 10000 ∧ (x = f ∨ (0 ≤ mo_P M x ∧ V (gw_pr (mo_P M) x) ∧ mo_room M x x3.toInt))) → hp X (d + 1) 216 245 [some (.ref 244), some (.int x1), some (.int x2), some (.int x3), some (.int x4), o5] [] a M P) → hp X (d + 1) 216 199 [some (.ref 244), some (.int x1), some (.int x2), some (.int x3), some (.int x4), o5] [] a M P := by
  intro m
  induction m with
  | zero =>
    intro f x3 x4 hm hf hF h4 h1 hl hV kk
    exact absurd hm (Nat.not_lt_zero _)
  | succ m ih =>
    intro f x3 x4 hm hf hF h4 h1 hl hV kk
    have hpe : mo_P M f = (M.1 273 f).toInt := rfl
    refine hp_al (pc' := 200) (j := 0) (Or.inr ⟨0, rfl, rfl, rfl⟩) rfl ?_
    refine hp_gr (pc' := 203) ha (hM.1 244 37 273 rfl) rfl rfl rfl rfl ?_
    refine hp_il (pc' := 205) (j := 4) (Or.inl ⟨rfl, rfl⟩) rfl ?_
    refine hp_ld (pc' := 206) (j := f) ha h4 (by omega) rfl rfl rfl ?_
    refine hp_zlt (t := 245) (pc' := 209) rfl rfl rfl (fun c1 => ?_) (fun c1 => ?_)
    · exact kk f x3 x4 hf hF h4 (by omega) h1 hl hV
    · have h0 : 0 ≤ mo_P M f := by
        have q : mo_P M f = (M.1 273 f).toInt := rfl
        omega
      have hkr := hk f hf h0
      obtain ⟨t1, t2, t3, t4, t5⟩ := gw_tight hE hf h0
      have h24 := (hE.1.1 f hf h0).2.2.2.2
      have hR1 : mo_P M f < 12 → (M.1 270 (12 * gw_pr (mo_P M) f + f)).toInt < (M.1 268 (12 * gw_pr (mo_P M) f + f)).toInt := fun q => by
        have e : gw_pc (mo_P M) f = 1 := if_pos q
        rw [e] at t2
        exact mo_R1.mp t2
      refine hp_al (pc' := 210) (j := 0) (Or.inr ⟨0, rfl, rfl, rfl⟩) rfl ?_
      refine hp_il (pc' := 212) (j := 4) (Or.inl ⟨rfl, rfl⟩) rfl ?_
      refine hp_cv (Q := rm_Q a M f) (pc' := 215) (e := d) (vs := [.int x4]) (r := []) ha rfl rfl rfl rfl rfl rfl rfl rfl (rm_ok ha ⟨hM.1, trivial⟩ h4 (by omega) h0 (by omega) ht hR1) (fun o ho => ?_)
      obtain ⟨r1, eo1, r1a, r1b⟩ := ho
      subst eo1
      refine ⟨_, rfl, ?_⟩
      show hp X (d + 1) 216 215 [some (.ref 244), some (.int x1), some (.int x2), some (.int x3), some (.int x4), o5] [.int r1] a M P
      refine hp_il (pc' := 216) (j := 3) (Or.inr ⟨3, rfl, rfl, rfl⟩) rfl ?_
      refine hp_ige (t := 228) (pc' := 219) rfl rfl rfl (fun c21 => ?_) (fun c21 => ?_)
      · refine hp_il (pc' := 229) (j := 3) (Or.inr ⟨3, rfl, rfl, rfl⟩) rfl ?_
        refine hp_is (pc' := 230) (j := 3) (ls' := [some (.ref 244), some (.int x1), some (.int x2), some (.int x3), some (.int x4), o5]) (Or.inr ⟨3, rfl, rfl, rfl⟩) (by simp) rfl ?_
        refine hp_al (pc' := 231) (j := 0) (Or.inr ⟨0, rfl, rfl, rfl⟩) rfl ?_
        refine hp_gr (pc' := 234) ha (hM.1 244 37 273 rfl) rfl rfl rfl rfl ?_
        refine hp_il (pc' := 236) (j := 4) (Or.inl ⟨rfl, rfl⟩) rfl ?_
        refine hp_ld (pc' := 237) (j := f) ha h4 (by omega) rfl rfl rfl ?_
        refine hp_bi (pc' := 239) (x := 12) rfl rfl rfl ?_
        refine hp_rem (pc' := 240) rfl rfl (by first | omega | assumption) (by first | decide | omega) (fun z22 hz22 => ?_)
        have xz22 := mo_pr (M := M) (f := f) h0 rfl hz22
        refine hp_is (pc' := 242) (j := 4) (ls' := [some (.ref 244), some (.int x1), some (.int x2), some (.int x3), some (.int z22), o5]) (Or.inl ⟨rfl, rfl⟩) (by simp) rfl ?_
        refine hp_go (t := 199) rfl rfl ?_
        have g1 := mo_ge1 hE hf h0 r1a r1b
        exact ih (gw_pr (mo_P M) f) x3 _ (by omega) t1 t3 xz22 h1 hl (mo_V1 hE hf h0 (Int.le_refl _) (mo_rm1 r1a r1b (by omega)) hV) kk
      · refine hp_al (pc' := 220) (j := 0) (Or.inr ⟨0, rfl, rfl, rfl⟩) rfl ?_
        refine hp_il (pc' := 222) (j := 4) (Or.inl ⟨rfl, rfl⟩) rfl ?_
        refine hp_cv (Q := rm_Q a M f) (pc' := 225) (e := d) (vs := [.int x4]) (r := []) ha rfl rfl rfl rfl rfl rfl rfl rfl (rm_ok ha ⟨hM.1, trivial⟩ h4 (by omega) h0 (by omega) ht hR1) (fun o ho => ?_)
        obtain ⟨r2, eo2, r2a, r2b⟩ := ho
        subst eo2
        refine ⟨_, rfl, ?_⟩
        show hp X (d + 1) 216 225 [some (.ref 244), some (.int x1), some (.int x2), some (.int x3), some (.int x4), o5] [.int r2] a M P
        refine hp_go (t := 229) rfl rfl ?_
        refine hp_is (pc' := 230) (j := 3) (ls' := [some (.ref 244), some (.int x1), some (.int x2), some (.int r2), some (.int x4), o5]) (Or.inr ⟨3, rfl, rfl, rfl⟩) (by simp) rfl ?_
        refine hp_al (pc' := 231) (j := 0) (Or.inr ⟨0, rfl, rfl, rfl⟩) rfl ?_
        refine hp_gr (pc' := 234) ha (hM.1 244 37 273 rfl) rfl rfl rfl rfl ?_
        refine hp_il (pc' := 236) (j := 4) (Or.inl ⟨rfl, rfl⟩) rfl ?_
        refine hp_ld (pc' := 237) (j := f) ha h4 (by omega) rfl rfl rfl ?_
        refine hp_bi (pc' := 239) (x := 12) rfl rfl rfl ?_
        refine hp_rem (pc' := 240) rfl rfl (by first | omega | assumption) (by first | decide | omega) (fun z23 hz23 => ?_)
        have xz23 := mo_pr (M := M) (f := f) h0 rfl hz23
        refine hp_is (pc' := 242) (j := 4) (ls' := [some (.ref 244), some (.int x1), some (.int x2), some (.int r2), some (.int z23), o5]) (Or.inl ⟨rfl, rfl⟩) (by simp) rfl ?_
        refine hp_go (t := 199) rfl rfl ?_
        have g1 := mo_ge1 hE hf h0 r2a r2b
        have e12 : r2.toInt = r1.toInt := by
          by_cases q : mo_P M f < 12
          · rw [r1a q, r2a q]
          · rw [r1b (by omega), r2b (by omega)]
        exact ih (gw_pr (mo_P M) f) r2 _ (by omega) t1 t3 xz23 g1 (by omega) (mo_V1 hE hf h0 (by omega) (mo_rm1 r2a r2b (Int.le_refl _)) hV) kk
end MO
