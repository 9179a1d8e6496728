/-! the core: the two writes by which one is kept on a shelf (method 237, from pc 39 on), at once -/
section AXKE
variable {X : Nat × (Nat → Int32)} {P : Option Value → rx_M → Prop} {W : ax_W} {sp : Nat → Nat → Int × Int} {rf : Nat → Nat → Option Nat} {mx : ax_X} {ih : ax_S} {v : ax_V} {E : ax_E} {K : ax_K} {M : rx_M} {a : rx_K} {d i pc : Nat} {fr : ax_F} {ls : List (Option Value)} {st : List Value}
set_option maxRecDepth 100000 in
theorem ax_ke_t : rx_tb 237 39 = some .iastore ∧ rx_tb 237 40 = some (.aload_n 0) ∧ rx_tb 237 41 = some (.getfield 166) ∧ rx_tb 237 44 = some (.iload_n 1) ∧ rx_tb 237 45 = some (.iload_n 3) ∧ rx_tb 237 46 = some .iastore := ⟨rfl, rfl, rfl, rfl, rfl, rfl⟩
set_option maxRecDepth 100000 in
theorem ax_ke_f : rx_fl (rx_cn 237) 166 = some (11, 51, 2, true) ∧ rx_lay 244 = some (.inl 11) := by decide +kernel
theorem ax_up_comm {f : Nat → Nat → Int32} {q p j i : Nat} {x z : Int32} (h : ¬ q = p) : rx_up (rx_up f q j x) p i z = rx_up (rx_up f p i z) q j x := by
  funext a b
  unfold rx_up
  by_cases h1 : a = p
  · have h2 : ¬ a = q := fun w => h (w.symm.trans h1)
    simp only [if_pos h1, if_neg h2]
  · simp only [if_neg h1]
noncomputable def ax_keS (wd : ax_D) (sp : Nat → Nat → Int × Int) (rf : Nat → Nat → Option Nat) (mx : ax_X) (ih : ax_S) (E : ax_E) (K : ax_K) (d : Nat) (fr : ax_F) (i : Nat) (ls : List (Option Value)) (st : List Value) : Bool := match st with
  | [x, y, .ref q] => (match sx_at none ls 0 with
    | some (.ref t) => (match sx_at none ls 1 with
      | some y2 => (match sx_at none ls 3 with
        | some z => cond ((Nat.beq q 283 && (Nat.beq t 244 && ax_eqv y y2)) && ((ax_in E y 8 && (ax_sc E.1 (ax_cx E y) && (ax_wi E x (sp 283 0) && ax_wi E z (sp 284 0)))) && ((ax_wrg wd 283 283 && ax_wrg wd 284 284) && ((decide (ax_ary mx E (.ref 283) = some (0, 8)) && (decide (ax_ary mx E (.ref 284) = some (0, 8)) && decide (rf 244 51 = some 284))) && (ax_isn E x 1 || ax_i11 E z))))) (ih E ((284, ax_cx E y, z) :: ax_drop 284 (ax_cx E y) ((283, ax_cx E y, x) :: ax_drop 283 (ax_cx E y) K)) d fr i 47 ls []) false
        | none => false)
      | none => false)
    | _ => false)
  | _ => false
theorem ax_keS_ok (H : ax_H X P W sp rf ih) (hm : ax_mxok sp mx) (hsa : ∀ q u n, rx_lay q = some (.inr (u, n)) → ∀ j, sp q j = sp q 0) (h : ax_keS W.1 sp rf mx ih E K d fr 237 ls st = true) (S : ax_St W sp rf v E K M a fr) : ax_C X P v d fr 237 (39, ax_ls v ls, st.map (ax_v v), a, M) := by
  obtain ⟨s1, s2, s3, s4, s5, s6, s7⟩ := S
  obtain ⟨t1, t2, t3, t4, t5, t6⟩ := ax_ke_t
  unfold ax_keS at h
  split at h
  · rename_i x y q
    split at h
    · rename_i t ht
      split at h
      · rename_i y2 hy2
        split at h
        · rename_i z hz
          replace h := sx_cT (by intro q; cases q) h
          obtain ⟨hc, h⟩ := h
          simp only [Bool.and_eq_true, Bool.or_eq_true, decide_eq_true_eq] at hc
          obtain ⟨⟨e1, e2, e3⟩, ⟨c1, c2, c3, c4⟩, ⟨c5, c6⟩, ⟨c7, c8, c9⟩, c10⟩ := hc
          have e1 := Nat.eq_of_beq_eq_true e1
          have e2 := Nat.eq_of_beq_eq_true e2
          have e3 := (ax_eqv_ok e3).1
          subst e1
          subst e2
          subst e3
          have hyI : sx_isI y = true := by
            have h9 := c1
            unfold ax_in at h9
            rw [Bool.and_eq_true] at h9
            exact h9.1
          obtain ⟨x1, x2⟩ := ax_cx_ok s2 hyI
          obtain ⟨wx, wx2, wx3⟩ := ax_wi_ok s2 c3
          obtain ⟨wz, wz2, wz3⟩ := ax_wi_ok s2 c4
          have l0 := ax_ls_get (v := v) (ls := ls) (k := 0) (w := .ref 244) (by rw [sx_at_none] at ht; generalize ls[0]? = o at ht ⊢; cases o with | none => cases ht | some o => rw [show o = some (.ref 244) from ht])
          have l1 := ax_ls_get (v := v) (ls := ls) (k := 1) (w := y) (by rw [sx_at_none] at hy2; generalize ls[1]? = o at hy2 ⊢; cases o with | none => cases hy2 | some o => rw [show o = some y from hy2])
          have l3 := ax_ls_get (v := v) (ls := ls) (k := 3) (w := z) (by rw [sx_at_none] at hz; generalize ls[3]? = o at hz ⊢; cases o with | none => cases hz | some o => rw [show o = some z from hz])
          have lay3 := (ax_ary_ok (v := v) s2 hm c7).2
          have lay4 := (ax_ary_ok (v := v) s2 hm c8).2
          have lay3 : rx_lay 283 = some (.inr (0, 8)) := lay3
          have lay4 : rx_lay 284 = some (.inr (0, 8)) := lay4
          -- memory behind both
          let M1 : rx_M := (rx_up M.1 283 (ax_vi v y).toNatClampNeg (ax_vi v x), M.2.1, M.2.2)
          let M2 : rx_M := (rx_up M1.1 284 (ax_vi v y).toNatClampNeg (ax_vi v z), M.2.1, M.2.2)
          have kn1 := ax_drop_ok (q := 283) (j := ax_cx E y) (w := x) s5 x2 wx rfl
          have kn2 := ax_drop_ok (q := 284) (j := ax_cx E y) (w := z) kn1 x2 wz rfl
          rw [x1] at kn2
          have w3 : ∀ j, ax_wd W.1 283 j := fun j => ax_wrg_ok c5 (Int.le_refl _) (Int.le_refl _) j
          have w4 : ∀ j, ax_wd W.1 284 j := fun j => ax_wrg_ok c6 (Int.le_refl _) (Int.le_refl _) j
          have b3 : (sp 283 (ax_vi v y).toNatClampNeg).1 ≤ (ax_vi v x).toInt ∧ (ax_vi v x).toInt ≤ (sp 283 (ax_vi v y).toNatClampNeg).2 := by rw [hsa 283 _ _ lay3]; exact wx3
          have b4 : (sp 284 (ax_vi v y).toNatClampNeg).1 ≤ (ax_vi v z).toInt ∧ (ax_vi v z).toInt ≤ (sp 284 (ax_vi v y).toNatClampNeg).2 := by rw [hsa 284 _ _ lay4]; exact wz3
          have J2 : ax_J W sp rf M2 := by
            rcases c10 with c10 | c10
            · have hx := ax_isn_ok s2 c10
              have J1 := ax_J_up (q := 283) (j := (ax_vi v y).toNatClampNeg) (z := ax_vi v x) s4 (w3 _) (ax_G_held s4.2.2.2 (fun q => absurd q hx)) b3
              exact ax_J_up (q := 284) (j := (ax_vi v y).toNatClampNeg) (z := ax_vi v z) J1 (w4 _) (ax_G_kept J1.2.2.2 (fun q => by
                have e : rx_up M.1 283 (ax_vi v y).toNatClampNeg (ax_vi v x) 283 (ax_vi v y).toNatClampNeg = ax_vi v x := by unfold rx_up; rw [if_pos rfl, if_pos rfl]
                have q : (rx_up M.1 283 (ax_vi v y).toNatClampNeg (ax_vi v x) 283 (ax_vi v y).toNatClampNeg).toInt = 1 := q
                rw [e] at q
                exact absurd q hx)) b4
            · have hz := ax_i11_ok s2 c10
              have J1 := ax_J_up (q := 284) (j := (ax_vi v y).toNatClampNeg) (z := ax_vi v z) s4 (w4 _) (ax_G_kept s4.2.2.2 (fun _ => hz)) b4
              have J2 := ax_J_up (q := 283) (j := (ax_vi v y).toNatClampNeg) (z := ax_vi v x) J1 (w3 _) (ax_G_held J1.2.2.2 (fun _ => by
                have e : rx_up M.1 284 (ax_vi v y).toNatClampNeg (ax_vi v z) 284 (ax_vi v y).toNatClampNeg = ax_vi v z := by unfold rx_up; rw [if_pos rfl, if_pos rfl]
                show 0 ≤ (rx_up M.1 284 (ax_vi v y).toNatClampNeg (ax_vi v z) 284 (ax_vi v y).toNatClampNeg).toInt ∧ (rx_up M.1 284 (ax_vi v y).toNatClampNeg (ax_vi v z) 284 (ax_vi v y).toNatClampNeg).toInt ≤ 11
                rw [e]
                exact hz)) b3
              show ax_J W sp rf (rx_up (rx_up M.1 283 _ _) 284 _ _, M.2.1, M.2.2)
              rw [ax_up_comm (by decide : ¬ 283 = 284)]
              exact J2
          have k9 := H _ _ d fr 237 47 ls [] h v M2 a ⟨s1, s2, ax_drop_kw (ax_drop_kw s3 c2 wx2) c2 wz2, J2, kn2, s6, s7⟩
          have stp : ∀ {pc : Nat} {ins : Instr} {l : List (Option Value)} {s : List Value} {N : rx_M}, rx_tb 237 pc = some ins → rx_stp X 237 (pc, l, s, a, N) = rx_ins X 237 ins pc l s a N := fun {pc ins l s N} ht => by
            unfold rx_stp
            show (match rx_tb 237 pc with
              | none => none
              | some ins => rx_ins X 237 ins pc l s a N) = _
            rw [ht]
          -- back, step by step
          have g6 : rx_ins X 237 .iastore 46 (ax_ls v ls) [ax_v v z, ax_v v y, .ref 284] a M1 = rx_nx 47 (ax_ls v ls) [] a M2 := ax_as_ok s6.1 s2 hm (w := .ref 284) (s := []) (M := M1) (Or.inl rfl) c8 c1 wz
          have c6' := ax_C_step ((stp t6).trans g6) k9
          have g5 : rx_ins X 237 (.iload_n 3) 45 (ax_ls v ls) [ax_v v y, .ref 284] a M1 = rx_nx 46 (ax_ls v ls) [ax_v v z, ax_v v y, .ref 284] a M1 := by
            show rx_ld (ax_ls v ls) 3 0 46 [ax_v v y, .ref 284] a M1 = _
            unfold rx_ld
            rw [l3, ax_vI wz]
            rfl
          have c5' := ax_C_step ((stp t5).trans g5) c6'
          have g4 : rx_ins X 237 (.iload_n 1) 44 (ax_ls v ls) [.ref 284] a M1 = rx_nx 45 (ax_ls v ls) [ax_v v y, .ref 284] a M1 := by
            show rx_ld (ax_ls v ls) 1 0 45 [.ref 284] a M1 = _
            unfold rx_ld
            rw [l1, ax_vI hyI]
            rfl
          have c4' := ax_C_step ((stp t4).trans g4) c5'
          have g3 : rx_ins X 237 (.getfield 166) 41 (ax_ls v ls) [.ref 244] a M1 = rx_nx 44 (ax_ls v ls) [.ref 284] a M1 := by
            show rx_gf (rx_cn 237) 166 41 (ax_ls v ls) [.ref 244] a M1 = _
            rw [ax_gf2_ok s6.1 ax_ke_f.1 ax_ke_f.2, show M1.2.1 244 51 = some 284 from s4.2.1 244 51 284 c9]
            rfl
          have c3' := ax_C_step ((stp t3).trans g3) c4'
          have g2 : rx_ins X 237 (.aload_n 0) 40 (ax_ls v ls) [] a M1 = rx_nx 41 (ax_ls v ls) [.ref 244] a M1 := by
            show rx_ld (ax_ls v ls) 0 1 41 [] a M1 = _
            unfold rx_ld
            rw [l0]
            rfl
          have c2' := ax_C_step ((stp t2).trans g2) c3'
          have g1 : rx_ins X 237 .iastore 39 (ax_ls v ls) [ax_v v x, ax_v v y, .ref 283] a M = rx_nx 40 (ax_ls v ls) [] a M1 := ax_as_ok s6.1 s2 hm (w := .ref 283) (s := []) (M := M) (Or.inl rfl) c7 c1 wx
          exact ax_C_step ((stp t1).trans g1) c2'
        · cases h
      · cases h
    · cases h
  · cases h
end AXKE
