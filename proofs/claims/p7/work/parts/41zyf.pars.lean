/-! a custom's text: which places are read, by a machine with a stack -/
noncomputable def pa_fb (c : Int) : Bool := decide (c = 104 ∨ c = 110 ∨ c = 103 ∨ c = 116 ∨ c = 115 ∨ c = 119 ∨ c = 121)
theorem pa_fb_i {c : Int} (h : pa_fb c = true) : c = 104 ∨ c = 110 ∨ c = 103 ∨ c = 116 ∨ c = 115 ∨ c = 119 ∨ c = 121 := of_decide_eq_true h
theorem pa_fb_t {c : Int} (h : c = 104 ∨ c = 110 ∨ c = 103 ∨ c = 116 ∨ c = 115 ∨ c = 119 ∨ c = 121) : pa_fb c = true := decide_eq_true h
/-- where a number ends that begins at p -/
noncomputable def pa_num (g : Nat → Int) (n p : Nat) : Nat := if g p = 48 then p + 1 else if p + 1 < n ∧ 48 ≤ g (p + 1) ∧ g (p + 1) ≤ 57 then (if p + 2 < n ∧ 48 ≤ g (p + 2) ∧ g (p + 2) ≤ 57 then p + 3 else p + 2) else p + 1
/-- one step: the place, the stages that are open, whether an atom is wanted -/
noncomputable def pa_st (g : Nat → Int) (n p : Nat) (s : List Nat) (w : Bool) : Option (Nat × List Nat × Bool) :=
  cond w
    (if g p = 40 ∨ g p = 91 then (if s.length = 8 then none else some (p + 1, (if g p = 40 then 4 else 0) :: s, true))
      else if pa_fb (g p) = true then some (p + 1, s, false)
      else if 48 ≤ g p ∧ g p ≤ 57 then some (pa_num g n p, s, false)
      else none)
    (if g p = 42 ∨ g p = 47 ∨ g p = 43 ∨ g p = 45 then some (p + 1, s, true)
      else match s with
        | [] => none
        | k :: t => if (g p = 41 ∧ k = 4) ∨ (g p = 93 ∧ k = 3) then some (p + 1, t, false)
          else if (g p = 60 ∧ k = 0) ∨ (g p = 63 ∧ k = 1) ∨ (g p = 58 ∧ k = 2) then some (p + 1, (k + 1) :: t, true) else none)
/-- what it tells: -4, or the place of the fault -/
noncomputable def pa_run (g : Nat → Int) (n : Nat) : Nat → Nat → List Nat → Bool → Option Int
  | 0, _, _, _ => none
  | k + 1, p, s, w => if p < n then (match pa_st g n p s w with
    | none => some (p : Int)
    | some q => pa_run g n k q.1 q.2.1 q.2.2) else some (if s = [] ∧ w = false then -4 else (p : Int))
noncomputable def pa_R (g : Nat → Int) (n p : Nat) (s : List Nat) (w : Bool) (r : Int) : Prop := ∃ k, pa_run g n k p s w = some r
section PA
variable {g : Nat → Int} {n p : Nat} {s : List Nat} {w : Bool} {r r2 : Int}
theorem pa_s1 : ∀ (k p : Nat) (s : List Nat) (w : Bool), pa_run g n k p s w = some r → pa_run g n (k + 1) p s w = some r
  | 0, _, _, _, h => by cases h
  | k + 1, p, s, w, h => by
    unfold pa_run at h ⊢
    split
    · rename_i hp
      rw [if_pos hp] at h
      cases e : pa_st g n p s w with
      | none =>
        rw [e] at h
        exact h
      | some q =>
        rw [e] at h
        exact pa_s1 k _ _ _ h
    · rename_i hp
      rw [if_neg hp] at h
      exact h
theorem pa_up {k : Nat} (h : pa_run g n k p s w = some r) : ∀ j, pa_run g n (k + j) p s w = some r
  | 0 => h
  | j + 1 => pa_s1 _ _ _ _ (pa_up h j)
theorem pa_det (h : pa_R g n p s w r) (h2 : pa_R g n p s w r2) : r = r2 := by
  obtain ⟨k, h⟩ := h
  obtain ⟨j, h2⟩ := h2
  have a := pa_up h j
  have b := pa_up h2 k
  rw [Nat.add_comm] at b
  rw [a] at b
  exact Option.some.inj b
theorem pa_none (hp : p < n) (h : pa_st g n p s w = none) : pa_R g n p s w (p : Int) := by
  refine ⟨1, ?_⟩
  unfold pa_run
  rw [if_pos hp, h]
theorem pa_go {q : Nat × List Nat × Bool} (hp : p < n) (h : pa_st g n p s w = some q) (k : pa_R g n q.1 q.2.1 q.2.2 r) : pa_R g n p s w r := by
  obtain ⟨k, hk⟩ := k
  refine ⟨k + 1, ?_⟩
  unfold pa_run
  rw [if_pos hp, h]
  exact hk
theorem pa_end (hp : ¬ p < n) (h : ¬ (s = [] ∧ w = false)) : pa_R g n p s w (p : Int) := by
  refine ⟨1, ?_⟩
  unfold pa_run
  rw [if_neg hp, if_neg h]
theorem pa_ok (hp : ¬ p < n) : pa_R g n p [] false (-4) := by
  refine ⟨1, ?_⟩
  unfold pa_run
  rw [if_neg hp, if_pos ⟨rfl, rfl⟩]
/-- behind an atom, where no operator is and what would close isn't there, it is a fault -/
theorem pa_shut {k : Nat} {t : List Nat} (h : p < n → ¬ (g p = 42 ∨ g p = 47 ∨ g p = 43 ∨ g p = 45)) (h2 : p < n → ¬ ((g p = 41 ∧ k = 4) ∨ (g p = 93 ∧ k = 3) ∨ (g p = 60 ∧ k = 0) ∨ (g p = 63 ∧ k = 1) ∨ (g p = 58 ∧ k = 2))) : pa_R g n p (k :: t) false (p : Int) := by
  by_cases hp : p < n
  · refine pa_none hp ?_
    unfold pa_st
    rw [cond_false, if_neg (h hp)]
    dsimp only
    have := h2 hp
    rw [if_neg (by omega), if_neg (by omega)]
  · exact pa_end hp (fun z => by cases z.1)
theorem pa_op (hp : p < n) (h : g p = 42 ∨ g p = 47 ∨ g p = 43 ∨ g p = 45) (k : pa_R g n (p + 1) s true r) : pa_R g n p s false r := by
  refine pa_go (q := (p + 1, s, true)) hp ?_ k
  unfold pa_st
  rw [cond_false, if_pos h]
theorem pa_close {k : Nat} {t : List Nat} (hp : p < n) (h : (g p = 41 ∧ k = 4) ∨ (g p = 93 ∧ k = 3)) (j : pa_R g n (p + 1) t false r) : pa_R g n p (k :: t) false r := by
  refine pa_go (q := (p + 1, t, false)) hp ?_ j
  unfold pa_st
  rw [cond_false, if_neg (by omega)]
  dsimp only
  rw [if_pos h]
theorem pa_next {k : Nat} {t : List Nat} (hp : p < n) (h : (g p = 60 ∧ k = 0) ∨ (g p = 63 ∧ k = 1) ∨ (g p = 58 ∧ k = 2)) (j : pa_R g n (p + 1) ((k + 1) :: t) true r) : pa_R g n p (k :: t) false r := by
  refine pa_go (q := (p + 1, (k + 1) :: t, true)) hp ?_ j
  unfold pa_st
  rw [cond_false, if_neg (by omega)]
  dsimp only
  rw [if_neg (by omega), if_pos h]
theorem pa_top (hp : p < n) (h : ¬ (g p = 42 ∨ g p = 47 ∨ g p = 43 ∨ g p = 45)) : pa_R g n p [] false (p : Int) := by
  refine pa_none hp ?_
  unfold pa_st
  rw [cond_false, if_neg h]
theorem pa_open (hp : p < n) (h : g p = 40 ∨ g p = 91) (hs : s.length ≠ 8) (k : pa_R g n (p + 1) ((if g p = 40 then 4 else 0) :: s) true r) : pa_R g n p s true r := by
  refine pa_go (q := (p + 1, (if g p = 40 then 4 else 0) :: s, true)) hp ?_ k
  unfold pa_st
  rw [cond_true, if_pos h, if_neg hs]
theorem pa_deep (hp : p < n) (h : g p = 40 ∨ g p = 91) (hs : s.length = 8) : pa_R g n p s true (p : Int) := by
  refine pa_none hp ?_
  unfold pa_st
  rw [cond_true, if_pos h, if_pos hs]
theorem pa_field (hp : p < n) (h : pa_fb (g p) = true) (k : pa_R g n (p + 1) s false r) : pa_R g n p s true r := by
  refine pa_go (q := (p + 1, s, false)) hp ?_ k
  unfold pa_st
  rw [cond_true, if_neg (by have := pa_fb_i h; omega), if_pos h]
theorem pa_digit (hp : p < n) (h : 48 ≤ g p ∧ g p ≤ 57) (k : pa_R g n (pa_num g n p) s false r) : pa_R g n p s true r := by
  refine pa_go (q := (pa_num g n p, s, false)) hp ?_ k
  unfold pa_st
  rw [cond_true, if_neg (by omega), if_neg (fun z => by have := pa_fb_i z; omega), if_pos h]
theorem pa_bad (h : p < n → ¬ (g p = 40 ∨ g p = 91) ∧ ¬ pa_fb (g p) = true ∧ ¬ (48 ≤ g p ∧ g p ≤ 57)) : pa_R g n p s true (p : Int) := by
  by_cases hp : p < n
  · obtain ⟨h1, h2, h3⟩ := h hp
    refine pa_none hp ?_
    unfold pa_st
    rw [cond_true, if_neg h1, if_neg h2, if_neg h3]
  · exact pa_end hp (fun z => by cases z.2)
theorem pa_num_le (hp : p < n) : p < pa_num g n p ∧ pa_num g n p ≤ n := by
  unfold pa_num
  repeat' split
  all_goals omega
end PA
