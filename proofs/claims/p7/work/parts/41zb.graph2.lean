/-! the reference's mostOf: all arcs gone over n times: no arc makes any nearer; the next prices -/
/-- turn t, at the arc from a to b: steps bound how far -/
noncomputable def gw_I (n : Nat) (R : Nat → Nat → Int → Prop) (r : Nat → Prop) (t a b : Nat) (s : Int) (F P : Nat → Int) : Prop := gw_T n R r F P ∧ (∀ f, f < n → F f ≠ 10000 → ∃ m, gw_walk n R r m f (F f)) ∧ (∀ f m x, f < n → m ≤ t → gw_walk n R r m f x → F f ≤ x) ∧ (∀ a' b' m x c, a' < n → b' < n → (a' < a ∨ (a' = a ∧ b' < b)) → m ≤ t → gw_walk n R r m a' x → R a' b' c → F b' ≤ x + c) ∧ ∀ f, f < n → F f = 10000 ∨ (-s ≤ F f ∧ F f ≤ s)
section GI
variable {n : Nat} {R : Nat → Nat → Int → Prop} {r : Nat → Prop} {p : Nat → Int} {F P F' P' : Nat → Int} {t a b : Nat} {s : Int}
theorem gw_cost (hc : ∀ a b c, R a b c → c = 1 ∨ c = -1) : ∀ m f x, gw_walk n R r m f x → x ≤ (m : Int)
  | 0, f, x, h => by
    have e := (gw_0r h).2
    omega
  | m + 1, f, x, h => by
    obtain ⟨a, c, -, h1, h2⟩ := gw_l h
    have ih := gw_cost hc m a _ h2
    rcases hc _ _ _ h1 with e | e <;> omega
theorem gw_I_ge {f : Nat} (h : gw_I n R r t a b s F P) (hs : s ≤ 5000) (hf : f < n) : F f ≤ 10000 := by
  rcases h.2.2.2.2 f hf with q | q <;> omega
theorem gw_I_step (hp : ∀ a b c, a < n → b < n → R a b c → 0 ≤ c + p a - p b) (hc : ∀ a b c, R a b c → c = 1 ∨ c = -1) (hn : n ≤ 12) (ht : t ≤ 12) (hs0 : 0 ≤ s) (hs : s ≤ 5000) (ha : a < n) (hb : b < n) (h : gw_I n R r t a b s F P) (hX : gw_RX R a b F P F' P') : gw_I n R r t a (b + 1) (s + 1) F' P' := by
  have hF : ∀ f, f < n → F f ≤ 10000 := fun f hf => gw_I_ge h hs hf
  have hsm : ∀ f, f < n → F f ≠ 10000 → F f + 1 < 10000 := fun f hf q => by
    rcases h.2.2.2.2 f hf with z | z
    · exact absurd z q
    · omega
  have hT := gw_T_RX hp hn ha hb hF (hsm a ha) h.1 hX
  obtain ⟨x1, x2, x3⟩ := hX
  have hle : ∀ x, F' x ≤ F x := fun x => by
    by_cases q : x = b
    · rw [q]
      rcases x2 with ⟨e, -⟩ | ⟨c, -, -, -, -, e⟩
      · omega
      · omega
    · rw [(x1 x q).1]
      exact Int.le_refl _
  refine ⟨hT, fun f hf hi => ?_, fun f m x hf hm hw => Int.le_trans (hle f) (h.2.2.1 f m x hf hm hw), fun a' b' m x c h1 h2 h3 hm hw hR => ?_, fun f hf => ?_⟩
  · by_cases q : f = b
    · subst q
      rcases x2 with ⟨e, -⟩ | ⟨c, -, hR, hia, e, -⟩
      · rw [e] at hi ⊢
        exact h.2.1 f hf hi
      · obtain ⟨m, hm⟩ := h.2.1 a ha hia
        rw [e]
        exact ⟨m + 1, gw_s hb hm hR⟩
    · rw [(x1 f q).1] at hi ⊢
      exact h.2.1 f hf hi
  · by_cases q : a' = a ∧ b' = b
    · obtain ⟨q1, q2⟩ := q
      subst q1
      subst q2
      have u := h.2.2.1 a' m x h1 hm hw
      have w := gw_cost hc m a' x hw
      have z := x3 (by omega) c hR
      omega
    · exact Int.le_trans (hle b') (h.2.2.2.1 a' b' m x c h1 h2 (by omega) hm hw hR)
  · by_cases q : f = b
    · subst q
      rcases x2 with ⟨e, -⟩ | ⟨c, -, hR, hia, e, -⟩
      · rw [e]
        rcases h.2.2.2.2 f hf with z | z
        · exact Or.inl z
        · exact Or.inr (by omega)
      · rcases h.2.2.2.2 a ha with z | z
        · exact absurd z hia
        · rcases hc _ _ _ hR with e2 | e2
          · exact Or.inr (by omega)
          · exact Or.inr (by omega)
    · rw [(x1 f q).1]
      rcases h.2.2.2.2 f hf with z | z
      · exact Or.inl z
      · exact Or.inr (by omega)
theorem gw_I_a (h : gw_I n R r t a n s F P) : gw_I n R r t (a + 1) 0 s F P := ⟨h.1, h.2.1, h.2.2.1, fun a' b' m x c h1 h2 h3 hm hw hR => h.2.2.2.1 a' b' m x c h1 h2 (by omega) hm hw hR, h.2.2.2.2⟩
theorem gw_I_t (h : gw_I n R r t n 0 s F P) : gw_I n R r (t + 1) 0 0 s F P := by
  refine ⟨h.1, h.2.1, fun f m x hf hm hw => ?_, fun a' b' m x c h1 h2 h3 => absurd h3 (by omega), h.2.2.2.2⟩
  by_cases q : m ≤ t
  · exact h.2.2.1 f m x hf q hw
  · have e : m = t + 1 := by omega
    subst e
    obtain ⟨a, c, k1, k2, k3⟩ := gw_l hw
    have z := h.2.2.2.1 a f t (x - c) c k1 hf (Or.inl k1) (Nat.le_refl _) k3 k2
    omega
/-- the first state -/
theorem gw_I_0 (hF : ∀ f, f < n → (r f ∧ F f = 0) ∨ (¬ r f ∧ F f = 10000)) (hP : ∀ f, f < n → P f = -1) : gw_I n R r 0 0 0 0 F P := by
  refine ⟨⟨fun f hf h => ?_, fun f hf h1 h2 => ?_, fun _ => 0, fun f hf h => ?_⟩, fun f hf hi => ?_, fun f m x hf hm hw => ?_, fun a' b' m x c h1 h2 h3 => absurd h3 (by omega), fun f hf => ?_⟩
  · rw [hP f hf] at h; omega
  · rcases hF f hf with q | q
    · exact q
    · exact absurd q.2 h2
  · rw [hP f hf] at h; omega
  · rcases hF f hf with q | q
    · rw [q.2]; exact ⟨0, gw_0 hf q.1⟩
    · exact absurd q.2 hi
  · have e : m = 0 := by omega
    subst e
    obtain ⟨q1, q2⟩ := gw_0r hw
    rcases hF f hf with q | q
    · omega
    · exact absurd q1 q.1
  · rcases hF f hf with q | q
    · exact Or.inr (by omega)
    · exact Or.inl q.2
/-- what stands at the end -/
noncomputable def gw_E (n : Nat) (R : Nat → Nat → Int → Prop) (r : Nat → Prop) (F P : Nat → Int) : Prop := gw_T n R r F P ∧ (∀ a b c, a < n → b < n → R a b c → F a ≠ 10000 → F b ≤ F a + c) ∧ ∀ f, f < n → F f = 10000 ∨ (-5000 ≤ F f ∧ F f ≤ 5000)
theorem gw_I_end (hp : ∀ a b c, a < n → b < n → R a b c → 0 ≤ c + p a - p b) (hs : s ≤ 5000) (h : gw_I n R r n 0 0 s F P) : gw_E n R r F P := by
  refine ⟨h.1, fun a b c ha hb hR hi => ?_, fun f hf => ?_⟩
  · obtain ⟨m, hm⟩ := h.2.1 a ha hi
    obtain ⟨m', y, q1, q2, q3⟩ := gw_short hp m a _ hm
    have z := h.2.2.1 b (m' + 1) (y + c) hb (by omega) (gw_s hb q3 hR)
    omega
  · rcases h.2.2.2.2 f hf with z | z
    · exact Or.inl z
    · exact Or.inr (by omega)
theorem gw_bnd (g : Nat → Int) : ∀ n : Nat, ∃ C : Int, ∀ i, i < n → g i ≤ C
  | 0 => ⟨0, fun i h => absurd h (Nat.not_lt_zero _)⟩
  | n + 1 => by
    obtain ⟨C, hC⟩ := gw_bnd g n
    refine ⟨max C (g n), fun i hi => ?_⟩
    by_cases q : i = n
    · rw [q]; omega
    · have := hC i (by omega)
      omega
/-- the arcs that are left, and those back along ways that were gone: prices for them -/
theorem gw_next {R' : Nat → Nat → Int → Prop} (hp : ∀ a b c, a < n → b < n → R a b c → 0 ≤ c + p a - p b) (hc : ∀ a b c, R a b c → c = 1 ∨ c = -1) (h : gw_E n R r F P) (hR' : ∀ a b c, a < n → b < n → R' a b c → R a b c ∨ (F a ≠ 10000 ∧ F b ≠ 10000 ∧ F b = F a + c)) : ∃ p' : Nat → Int, ∀ a b c, a < n → b < n → R' a b c → 0 ≤ c + p' a - p' b := by
  obtain ⟨C, hC⟩ := gw_bnd (fun i => - p i) n
  refine ⟨fun f => @ite _ (F f = 10000) (Classical.propDecidable _) (p f + (C + 5001)) (F f), fun a b c ha hb hab => ?_⟩
  dsimp only
  have hCa := hC a ha
  have hCb := hC b hb
  rcases hR' a b c ha hb hab with q | ⟨q1, q2, q3⟩
  · by_cases ea : F a = 10000
    · rw [if_pos ea]
      by_cases eb : F b = 10000
      · rw [if_pos eb]
        have := hp a b c ha hb q
        omega
      · rw [if_neg eb]
        rcases h.2.2 b hb with z | z
        · exact absurd z eb
        · rcases hc _ _ _ q with e | e <;> omega
    · rw [if_neg ea]
      have z := h.2.1 a b c ha hb q ea
      have za := h.2.2 a ha
      have eb : F b ≠ 10000 := by
        rcases hc _ _ _ q with e | e <;> omega
      rw [if_neg eb]
      omega
  · rw [if_neg q1, if_neg q2]
    omega
/-- an arc by which one was come to is neither longer nor shorter than it must be -/
theorem gw_tight (h : gw_E n R r F P) {f : Nat} (hf : f < n) (h0 : 0 ≤ P f) : gw_pr P f < n ∧ R (gw_pr P f) f (gw_pc P f) ∧ F (gw_pr P f) ≠ 10000 ∧ F f = F (gw_pr P f) + gw_pc P f ∧ F f ≠ 10000 := by
  obtain ⟨t1, t2, t3, t4, -⟩ := h.1.1 f hf h0
  have z := h.2.1 _ f _ t1 hf t2 t3
  have w := h.2.2 _ t1
  have e : gw_pc P f = 1 ∨ gw_pc P f = -1 := by
    unfold gw_pc
    by_cases q : P f < 12
    · rw [if_pos q]; exact Or.inl rfl
    · rw [if_neg q]; exact Or.inr rfl
  exact ⟨t1, t2, t3, by omega, by omega⟩
end GI
