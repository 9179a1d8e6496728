/-! the core: a run with more locals, or with more depth, is the same -/
noncomputable def ax_lle (l l' : List (Option Value)) : Prop := l.length = l'.length ∧ ∀ (k : Nat) (w : Value), l[k]? = some (some w) → l'[k]? = some (some w)
theorem ax_lle_rf (l : List (Option Value)) : ax_lle l l := ⟨rfl, fun _ _ h => h⟩
theorem ax_lle_tr {l m n : List (Option Value)} (h : ax_lle l m) (k : ax_lle m n) : ax_lle l n := ⟨h.1.trans k.1, fun i w hi => k.2 i w (h.2 i w hi)⟩
theorem ax_lle_set {l l' : List (Option Value)} {k : Nat} {o : Option Value} (h : ax_lle l l') : ax_lle (l.set k o) (l'.set k o) := by
  refine ⟨by rw [List.length_set, List.length_set]; exact h.1, fun i w hi => ?_⟩
  rw [List.getElem?_set] at hi ⊢
  by_cases hk : k = i
  · rw [if_pos hk] at hi ⊢
    rw [← h.1]
    exact hi
  · rw [if_neg hk] at hi ⊢
    exact h.2 i w hi
theorem ax_lle_none {l l' : List (Option Value)} {k : Nat} (h : ax_lle l l') (hk : ∀ w, l[k]? ≠ some (some w)) : ax_lle l (l'.set k none) := by
  refine ⟨by rw [List.length_set]; exact h.1, fun i w hi => ?_⟩
  rw [List.getElem?_set]
  by_cases e : k = i
  · rw [e] at hk
    exact absurd hi (hk w)
  · rw [if_neg e]
    exact h.2 i w hi
theorem ax_lle_kill {l l' : List (Option Value)} {k : Nat} (h : ax_lle l l') : ax_lle (rx_kill l k) (rx_kill l' k) := by
  unfold rx_kill
  cases k with
  | zero => exact h
  | succ j =>
    dsimp only
    cases hl : l[j]? with
    | some o =>
      cases o with
      | some v =>
        rw [h.2 j v hl]
        dsimp only
        cases Nat.beq v.category 2
        · exact h
        · exact ax_lle_set h
      | none =>
        dsimp only
        have hn : ∀ w, l[j]? ≠ some (some w) := fun w z => by rw [hl] at z; cases z
        split
        · rename_i v _
          cases Nat.beq v.category 2
          · exact h
          · exact ax_lle_none h hn
        · exact h
    | none =>
      dsimp only
      have hn : ∀ w, l[j]? ≠ some (some w) := fun w z => by rw [hl] at z; cases z
      split
      · rename_i v _
        cases Nat.beq v.category 2
        · exact h
        · exact ax_lle_none h hn
      · exact h
theorem ax_lle_s1 {l l' : List (Option Value)} {k : Nat} {v : Value} (h : ax_lle l l') : ax_lle (rx_s1 l k v) (rx_s1 l' k v) := ax_lle_set (ax_lle_kill h)
theorem ax_lle_s2 {l l' : List (Option Value)} {k : Nat} {v : Value} (h : ax_lle l l') : ax_lle (rx_s2 l k v) (rx_s2 l' k v) := ax_lle_set (ax_lle_set (ax_lle_kill h))
/-- the same step, with other locals -/
noncomputable def ax_sl (l' : List (Option Value)) (r : rx_R) : rx_R := match r with
  | .inl g => .inl (g.1, l', g.2.2)
  | .inr (.inl (j, vs, g)) => .inr (.inl (j, vs, (g.1, l', g.2.2)))
  | .inr (.inr o) => .inr (.inr o)
section AXSL
variable {X : Nat × (Nat → Int32)} {i pc x w cn t : Nat} {l l' : List (Option Value)} {st : List Value} {a : rx_K} {M : rx_M}
theorem ax_sl_nx : rx_nx pc l' st a M = (rx_nx pc l st a M).map (ax_sl l') := rfl
theorem ax_sl_jmp {off : Int} : rx_jmp pc off l' st a M = (rx_jmp pc off l st a M).map (ax_sl l') := by
  unfold rx_jmp
  split <;> rfl
theorem ax_sl_br {c : Prop} [Decidable c] {off : Int} : rx_br c pc off l' st a M = (rx_br c pc off l st a M).map (ax_sl l') := by
  unfold rx_br
  split
  · split <;> rfl
  · rfl
theorem ax_sl_bin {f : Int32 → Int32 → Int32} : rx_bin f pc l' st a M = (rx_bin f pc l st a M).map (ax_sl l') := by
  unfold rx_bin
  split <;> rfl
theorem ax_sl_gf : rx_gf cn x pc l' st a M = (rx_gf cn x pc l st a M).map (ax_sl l') := by
  unfold rx_gf
  repeat' split
  all_goals first | rfl | simp_all
theorem ax_sl_pf {ini : Bool} : rx_pf ini cn x pc l' st a M = (rx_pf ini cn x pc l st a M).map (ax_sl l') := by
  unfold rx_pf
  repeat' split
  all_goals first | rfl | simp_all
theorem ax_sl_al : rx_al X i t pc l' st a M = (rx_al X i t pc l st a M).map (ax_sl l') := by
  unfold rx_al
  repeat' split
  all_goals first | rfl | simp_all
theorem ax_sl_as : rx_as t pc l' st a M = (rx_as t pc l st a M).map (ax_sl l') := by
  unfold rx_as
  repeat' split
  all_goals first | rfl | simp_all
theorem ax_sl_aln : rx_aln X i pc l' st a M = (rx_aln X i pc l st a M).map (ax_sl l') := by
  unfold rx_aln
  repeat' split
  all_goals first | rfl | simp_all
theorem ax_sl_nwa {t : ArrayType} : rx_nwa t pc l' st a M = (rx_nwa t pc l st a M).map (ax_sl l') := by
  unfold rx_nwa
  repeat' split
  all_goals first | rfl | simp_all
theorem ax_sl_mna : rx_mna cn x pc l' st a M = (rx_mna cn x pc l st a M).map (ax_sl l') := by
  unfold rx_mna
  repeat' split
  all_goals first | rfl | simp_all
theorem ax_sl_new : rx_new cn x pc l' st a M = (rx_new cn x pc l st a M).map (ax_sl l') := by
  unfold rx_new
  repeat' split
  all_goals first | rfl | simp_all
theorem ax_sl_cond {b : Bool} {o o' : Option rx_R} (h : o' = o.map (ax_sl l')) : cond b o' none = (cond b o none).map (ax_sl l') := by
  cases b
  · rfl
  · exact h
theorem ax_sl_inv : rx_inv w cn x pc l' st a M = (rx_inv w cn x pc l st a M).map (ax_sl l') := by
  unfold rx_inv
  split
  · rfl
  · split
    · split
      · split
        · exact ax_sl_cond rfl
        · rfl
      · rfl
    · split
      · split
        · exact ax_sl_cond rfl
        · rfl
      · rfl
    · split
      · split
        · split
          · split
            · exact ax_sl_cond rfl
            · rfl
          · rfl
        · rfl
      · rfl
    · split
      · split
        · exact ax_sl_cond rfl
        · rfl
      · rfl
    · refine ax_sl_cond ?_
      cases Nat.beq w 1
      · rw [Bool.cond_false, Bool.cond_false]
        split
        · split
          · split
            · split
              · exact ax_sl_cond rfl
              · rfl
            · rfl
          · rfl
        · rfl
      · rw [Bool.cond_true, Bool.cond_true]
        exact ax_sl_cond rfl
noncomputable def ax_loc (ins : Instr) : Bool := match ins with
  | .iload_n _ => true
  | .iload _ => true
  | .aload_n _ => true
  | .aload _ => true
  | .lload_n _ => true
  | .lload _ => true
  | .istore_n _ => true
  | .istore _ => true
  | .astore_n _ => true
  | .astore _ => true
  | .lstore_n _ => true
  | .lstore _ => true
  | .iinc _ _ => true
  | _ => false
set_option maxHeartbeats 4000000 in
theorem ax_ins_sl {ins : Instr} (h : ax_loc ins = false) : rx_ins X i ins pc l' st a M = (rx_ins X i ins pc l st a M).map (ax_sl l') := by
  cases ins
  all_goals first
    | (cases h; done)
    | rfl
    | exact ax_sl_bin
    | exact ax_sl_jmp
    | exact ax_sl_gf
    | exact ax_sl_pf
    | exact ax_sl_al
    | exact ax_sl_as
    | exact ax_sl_aln
    | exact ax_sl_nwa
    | exact ax_sl_new
    | exact ax_sl_inv
    | (unfold rx_ins; dsimp only; repeat' split
       all_goals first
         | rfl
         | exact ax_sl_br
         | exact ax_sl_jmp
         | exact ax_sl_mna
         | exact ax_sl_cond rfl
         | exact ax_sl_cond ax_sl_jmp
         | (simp_all; done))
/-- steps that go on alike, the locals being more -/
noncomputable def ax_rls (r : rx_R) : List (Option Value) := match r with
  | .inl g => g.2.1
  | .inr (.inl (_, _, g)) => g.2.1
  | .inr (.inr _) => []
noncomputable def ax_rle (r r' : rx_R) : Prop := ∃ l', ax_lle (ax_rls r) l' ∧ r' = ax_sl l' r
theorem ax_ld_mono {k sh : Nat} {r : rx_R} (h : rx_ld l k sh pc st a M = some r) (hl : ax_lle l l') : ∃ r', rx_ld l' k sh pc st a M = some r' ∧ ax_rle r r' := by
  unfold rx_ld at h ⊢
  split at h
  · rename_i v hv
    rw [hl.2 k v hv]
    dsimp only
    split at h
    · cases h; exact ⟨_, rfl, l', hl, rfl⟩
    · cases h; exact ⟨_, rfl, l', hl, rfl⟩
    · cases h; exact ⟨_, rfl, l', hl, rfl⟩
    · cases h
  · cases h
theorem ax_sto_mono {k sh : Nat} {r : rx_R} (h : rx_sto l k sh pc st a M = some r) (hl : ax_lle l l') : ∃ r', rx_sto l' k sh pc st a M = some r' ∧ ax_rle r r' := by
  unfold rx_sto at h ⊢
  split at h
  · split at h
    · split at h
      · cases h
        rename_i hk
        rw [if_pos (by rw [← hl.1]; exact hk)]
        exact ⟨_, rfl, _, ax_lle_s1 hl, rfl⟩
      · cases h
    · split at h
      · cases h
        rename_i hk
        rw [if_pos (by rw [← hl.1]; exact hk)]
        exact ⟨_, rfl, _, ax_lle_s1 hl, rfl⟩
      · cases h
    · split at h
      · cases h
        rename_i hk
        rw [if_pos (by rw [← hl.1]; exact hk)]
        exact ⟨_, rfl, _, ax_lle_s2 hl, rfl⟩
      · cases h
    · cases h
  · cases h
theorem ax_inc_mono {k : Nat} {n : Int} {r : rx_R} (h : rx_ins X i (.iinc k n) pc l st a M = some r) (hl : ax_lle l l') : ∃ r', rx_ins X i (.iinc k n) pc l' st a M = some r' ∧ ax_rle r r' := by
  have e : ∀ l, rx_ins X i (.iinc k n) pc l st a M = (match l[k]? with
    | some (some (.int x)) => rx_nx (pc + 3) (rx_s1 l k (.int (x + Int32.ofInt n))) st a M
    | _ => none) := fun l => rfl
  rw [e] at h ⊢
  split at h
  · rename_i x hx
    rw [hl.2 k _ hx]
    cases h
    exact ⟨_, rfl, _, ax_lle_s1 hl, rfl⟩
  · cases h
theorem ax_sl_rls (l9 : List (Option Value)) (r : rx_R) : ax_rls (ax_sl l9 r) = l9 ∨ (ax_rls r = [] ∧ ∀ l8, ax_sl l8 r = r) := by
  rcases r with g | ⟨j, vs, g⟩ | r
  · exact Or.inl rfl
  · exact Or.inl rfl
  · exact Or.inr ⟨rfl, fun _ => rfl⟩
theorem ax_oth_mono {ins : Instr} {r : rx_R} (hi : ax_loc ins = false) (h : rx_ins X i ins pc l st a M = some r) (hl : ax_lle l l') : ∃ r', rx_ins X i ins pc l' st a M = some r' ∧ ax_rle r r' := by
  have k := ax_ins_sl (X := X) (i := i) (pc := pc) (l := l) (l' := l) (st := st) (a := a) (M := M) hi
  rw [h] at k
  have k2 : r = ax_sl l r := Option.some.inj k
  rw [ax_ins_sl (l := l) hi, h]
  rcases ax_sl_rls l r with q | ⟨q1, q2⟩
  · rw [← k2] at q
    exact ⟨_, rfl, l', by rw [q]; exact hl, rfl⟩
  · exact ⟨_, rfl, [], by rw [q1]; exact ax_lle_rf [], by rw [q2, q2]⟩
theorem ax_stp_mono {r : rx_R} (h : rx_stp X i (pc, l, st, a, M) = some r) (hl : ax_lle l l') : ∃ r', rx_stp X i (pc, l', st, a, M) = some r' ∧ ax_rle r r' := by
  unfold rx_stp at h ⊢
  dsimp only at h ⊢
  split at h
  · cases h
  · rename_i ins _
    cases hc : ax_loc ins with
    | false => exact ax_oth_mono hc h hl
    | true =>
      cases ins with
      | iload_n k => exact ax_ld_mono h hl
      | iload k => exact ax_ld_mono h hl
      | aload_n k => exact ax_ld_mono h hl
      | aload k => exact ax_ld_mono h hl
      | lload_n k => exact ax_ld_mono h hl
      | lload k => exact ax_ld_mono h hl
      | istore_n k => exact ax_sto_mono h hl
      | istore k => exact ax_sto_mono h hl
      | astore_n k => exact ax_sto_mono h hl
      | astore k => exact ax_sto_mono h hl
      | lstore_n k => exact ax_sto_mono h hl
      | lstore k => exact ax_sto_mono h hl
      | iinc k n => exact ax_inc_mono h hl
      | _ => cases hc
theorem ax_res_mono {c c2 : rx_C} {r : Option Value} (h : rx_res i c r a M = some c2) (hl : ax_lle c.2.1 l') : ∃ l2, rx_res i (c.1, l', c.2.2) r a M = some (c2.1, l2, c2.2.2) ∧ ax_lle c2.2.1 l2 := by
  unfold rx_res at h ⊢
  split at h
  · cases h; exact ⟨_, rfl, hl⟩
  · split at h
    · cases h; exact ⟨_, rfl, hl⟩
    · cases h; exact ⟨_, rfl, hl⟩
    · split at h
      · rename_i hh
        cases h
        exact ⟨_, rfl, ax_lle_set (ax_lle_kill hl)⟩
      · cases h
    · cases h
theorem ax_go_mono : ∀ (f d i pc : Nat) (l : List (Option Value)) (st : List Value) (a : rx_K) (M : rx_M) (l' : List (Option Value)) (o : rx_O), rx_go X f d i (pc, l, st, a, M) = some o → ax_lle l l' → rx_go X f d i (pc, l', st, a, M) = some o
  | 0, _, _, _, _, _, _, _, _, _, h, _ => by cases h
  | f + 1, d, i, pc, l, st, a, M, l', o, h, hl => by
    unfold rx_go at h ⊢
    split at h
    · cases h
    · rename_i c' hs
      obtain ⟨r', k1, l2, k2, k3⟩ := ax_stp_mono hs hl
      rw [k1, k3]
      obtain ⟨p1, p2, p3, p4, p5⟩ := c'
      exact ax_go_mono f d i p1 p2 p3 p4 p5 l2 o h k2
    · rename_i r hs
      obtain ⟨r', k1, l2, k2, k3⟩ := ax_stp_mono hs hl
      rw [k1, k3]
      exact h
    · rename_i j vs c' hs
      obtain ⟨r', k1, l2, k2, k3⟩ := ax_stp_mono hs hl
      rw [k1, k3]
      dsimp only [ax_sl]
      split at h
      · cases h
      · split at h
        · cases h
        · rename_i r a2 M2 hgo
          split at h
          · cases h
          · rename_i c2 hres
            obtain ⟨l3, q1, q2⟩ := ax_res_mono hres k2
            rw [q1]
            obtain ⟨p1, p2, p3, p4, p5⟩ := c2
            exact ax_go_mono f _ i p1 p2 p3 p4 p5 l3 o h q2
theorem ax_go_dep : ∀ (f d i : Nat) (g : rx_C) (o : rx_O), rx_go X f d i g = some o → ∀ d', d ≤ d' → rx_go X f d' i g = some o
  | 0, _, _, _, _, h, _, _ => by cases h
  | f + 1, d, i, g, o, h, d', hd => by
    unfold rx_go at h ⊢
    split at h
    · cases h
    · rename_i c' hs
      exact ax_go_dep f d i _ o h d' hd
    · rename_i r hs
      exact h
    · rename_i j vs c' hs
      match d, d', hd, h with
      | 0, _, _, h => cases h
      | e + 1, 0, hd, _ => omega
      | e + 1, e' + 1, hd, h =>
        dsimp only at h ⊢
        split at h
        · cases h
        · rename_i r a2 M2 hgo
          rw [ax_go_dep f e j _ _ hgo e' (by omega)]
          dsimp only
          split at h
          · cases h
          · rename_i c2 hres
            exact ax_go_dep f (e + 1) i _ o h (e' + 1) hd
end AXSL
