/-! the reference's mostOf: ways of least cost, found by going over all arcs as often as there are folk -/
/-- a way of t arcs from a root to b, of cost x: its places u, its costs k -/
noncomputable def gw_walk (n : Nat) (R : Nat → Nat → Int → Prop) (r : Nat → Prop) (t b : Nat) (x : Int) : Prop := ∃ (u : Nat → Nat) (k : Nat → Int), r (u 0) ∧ k 0 = 0 ∧ (∀ i, i ≤ t → u i < n) ∧ (∀ i, i < t → R (u i) (u (i + 1)) (k (i + 1) - k i)) ∧ u t = b ∧ k t = x
theorem gw_pigeon : ∀ (n : Nat) (u : Nat → Nat), (∀ i, i ≤ n → u i < n) → ∃ i j, i < j ∧ j ≤ n ∧ u i = u j
  | 0, u, h => absurd (h 0 (Nat.le_refl _)) (Nat.not_lt_zero _)
  | n + 1, u, h => by
    by_cases hx : ∃ i, i ≤ n ∧ u i = u (n + 1)
    · obtain ⟨i, h1, h2⟩ := hx
      exact ⟨i, n + 1, by omega, Nat.le_refl _, h2⟩
    · have hp : ∀ i, i ≤ n → u i ≠ u (n + 1) := fun i hi z => hx ⟨i, hi, z⟩
      have hl := h (n + 1) (Nat.le_refl _)
      obtain ⟨i, j, h1, h2, h3⟩ := gw_pigeon n (fun i => if u i = n then u (n + 1) else u i) (fun i hi => by
        have a := h i (by omega)
        have b := hp i hi
        by_cases e : u i = n
        · rw [if_pos e]
          omega
        · rw [if_neg e]
          omega)
      refine ⟨i, j, h1, by omega, ?_⟩
      have bi := hp i (by omega)
      have bj := hp j h2
      by_cases ei : u i = n
      · by_cases ej : u j = n
        · rw [ei, ej]
        · rw [if_pos ei, if_neg ej] at h3
          exact absurd h3.symm bj
      · by_cases ej : u j = n
        · rw [if_neg ei, if_pos ej] at h3
          exact absurd h3 bi
        · rw [if_neg ei, if_neg ej] at h3
          exact h3
section GW
variable {n : Nat} {R : Nat → Nat → Int → Prop} {r : Nat → Prop} {p : Nat → Int}
theorem gw_tele {u : Nat → Nat} {k : Nat → Int} {t : Nat} (hp : ∀ a b c, a < n → b < n → R a b c → 0 ≤ c + p a - p b) (hu : ∀ i, i ≤ t → u i < n) (hR : ∀ i, i < t → R (u i) (u (i + 1)) (k (i + 1) - k i)) (i : Nat) : ∀ d, i + d ≤ t → p (u (i + d)) - p (u i) ≤ k (i + d) - k i
  | 0, _ => by simp
  | d + 1, h => by
    have ih := gw_tele hp hu hR i d (by omega)
    have a := hp _ _ _ (hu (i + d) (by omega)) (hu (i + d + 1) (by omega)) (hR (i + d) (by omega))
    rw [show i + (d + 1) = i + d + 1 by omega]
    omega
/-- a way that is long comes by a place twice: what lies between is left out -/
theorem gw_short (hp : ∀ a b c, a < n → b < n → R a b c → 0 ≤ c + p a - p b) : ∀ t b x, gw_walk n R r t b x → ∃ s y, s < n ∧ y ≤ x ∧ gw_walk n R r s b y := by
  intro t
  induction t using Nat.strongRecOn with
  | ind t ih =>
    intro b x hw
    by_cases ht : t < n
    · exact ⟨t, x, ht, Int.le_refl _, hw⟩
    · obtain ⟨u, k, h1, h2, h3, h4, h5, h6⟩ := hw
      obtain ⟨i, j, hij, hj, e⟩ := gw_pigeon n u (fun i hi => h3 i (by omega))
      have hc := gw_tele hp h3 h4 i (j - i) (by omega)
      rw [show i + (j - i) = j by omega, ← e] at hc
      obtain ⟨s, y, q1, q2, q3⟩ := ih (t - (j - i)) (by omega) b (x - (k j - k i)) ⟨fun m => if m ≤ i then u m else u (m + (j - i)), fun m => if m ≤ i then k m else k (m + (j - i)) - (k j - k i), by
        dsimp only
        rw [if_pos (Nat.zero_le _)]
        exact h1, by
        dsimp only
        rw [if_pos (Nat.zero_le _)]
        exact h2, fun m hm => by
        dsimp only
        by_cases hmi : m ≤ i
        · rw [if_pos hmi]
          exact h3 m (by omega)
        · rw [if_neg hmi]
          exact h3 _ (by omega), fun m hm => by
        dsimp only
        by_cases hmi : m + 1 ≤ i
        · rw [if_pos hmi, if_pos (by omega : m ≤ i), if_pos hmi]
          rw [if_pos (by omega : m ≤ i)]
          exact h4 m (by omega)
        · by_cases hm2 : m = i
          · subst hm2
            rw [if_neg hmi, if_pos (Nat.le_refl _), if_neg hmi]
            rw [if_pos (Nat.le_refl _)]
            have a := h4 j (by omega)
            rw [← e] at a
            rw [show m + 1 + (j - m) = j + 1 by omega, show k (j + 1) - (k j - k m) - k m = k (j + 1) - k j by omega]
            exact a
          · rw [if_neg hmi, if_neg (by omega : ¬ m ≤ i), if_neg hmi]
            rw [if_neg (by omega : ¬ m ≤ i)]
            have a := h4 (m + (j - i)) (by omega)
            rw [show m + 1 + (j - i) = m + (j - i) + 1 by omega, show k (m + (j - i) + 1) - (k j - k i) - (k (m + (j - i)) - (k j - k i)) = k (m + (j - i) + 1) - k (m + (j - i)) by omega]
            exact a, by
        dsimp only
        by_cases hti : t - (j - i) ≤ i
        · have : t = j := by omega
          rw [if_pos hti]
          rw [show t - (j - i) = i by omega, e, ← this]
          exact h5
        · rw [if_neg hti, show t - (j - i) + (j - i) = t by omega]
          exact h5, by
        dsimp only
        by_cases hti : t - (j - i) ≤ i
        · have : t = j := by omega
          rw [if_pos hti]
          rw [show t - (j - i) = i by omega, ← h6, this]
          omega
        · rw [if_neg hti, show t - (j - i) + (j - i) = t by omega, h6]⟩
      exact ⟨s, y, q1, by omega, q3⟩
theorem gw_0 {b : Nat} (hb : b < n) (h : r b) : gw_walk n R r 0 b 0 := ⟨fun _ => b, fun _ => 0, h, rfl, fun _ _ => hb, (fun i hi => absurd hi (Nat.not_lt_zero _)), rfl, rfl⟩
theorem gw_0r {b : Nat} {x : Int} (h : gw_walk n R r 0 b x) : r b ∧ x = 0 := by
  obtain ⟨u, k, h1, h2, -, -, h5, h6⟩ := h
  rw [← h5, ← h6]
  exact ⟨h1, h2⟩
/-- one arc more -/
theorem gw_s {t a b : Nat} {x c : Int} (hb : b < n) (h : gw_walk n R r t a x) (hR : R a b c) : gw_walk n R r (t + 1) b (x + c) := by
  obtain ⟨u, k, h1, h2, h3, h4, h5, h6⟩ := h
  refine ⟨fun m => if m ≤ t then u m else b, fun m => if m ≤ t then k m else x + c, ?_, ?_, fun i hi => ?_, fun i hi => ?_, ?_, ?_⟩
  · dsimp only
    rw [if_pos (Nat.zero_le _)]
    exact h1
  · dsimp only
    rw [if_pos (Nat.zero_le _)]
    exact h2
  · dsimp only
    by_cases q : i ≤ t
    · rw [if_pos q]
      exact h3 i q
    · rw [if_neg q]
      exact hb
  · dsimp only
    by_cases q : i + 1 ≤ t
    · rw [if_pos q, if_pos (by omega : i ≤ t), if_pos q]
      rw [if_pos (by omega : i ≤ t)]
      exact h4 i (by omega)
    · have e : i = t := by omega
      subst e
      rw [if_neg q, if_pos (Nat.le_refl _), if_neg q]
      rw [if_pos (Nat.le_refl _), h5, h6, show x + c - x = c by omega]
      exact hR
  · dsimp only
    rw [if_neg (by omega)]
  · dsimp only
    rw [if_neg (by omega)]
/-- the last arc -/
theorem gw_l {t b : Nat} {x : Int} (h : gw_walk n R r (t + 1) b x) : ∃ a c, a < n ∧ R a b c ∧ gw_walk n R r t a (x - c) := by
  obtain ⟨u, k, h1, h2, h3, h4, h5, h6⟩ := h
  refine ⟨u t, k (t + 1) - k t, h3 t (by omega), ?_, u, k, h1, h2, fun i hi => h3 i (by omega), fun i hi => h4 i (by omega), rfl, by omega⟩
  have a := h4 t (Nat.lt_succ_self _)
  rw [h5] at a
  exact a
end GW
/-! how far, and from where: the state while it is found -/
noncomputable def gw_pr (P : Nat → Int) (f : Nat) : Nat := (P f).toNat % 12
noncomputable def gw_pc (P : Nat → Int) (f : Nat) : Int := if P f < 12 then 1 else -1
/-- from where each was come to: by an arc, no nearer than by it; who was come to by none is a root; no ring -/
noncomputable def gw_T (n : Nat) (R : Nat → Nat → Int → Prop) (r : Nat → Prop) (F P : Nat → Int) : Prop := (∀ f, f < n → 0 ≤ P f → gw_pr P f < n ∧ R (gw_pr P f) f (gw_pc P f) ∧ F (gw_pr P f) ≠ 10000 ∧ F (gw_pr P f) + gw_pc P f ≤ F f ∧ P f < 24) ∧ (∀ f, f < n → P f < 0 → F f ≠ 10000 → r f ∧ F f = 0) ∧ ∃ k : Nat → Nat, ∀ f, f < n → 0 ≤ P f → k (gw_pr P f) < k f
/-- one look at an arc from a to b: nothing else changes; b is nearer by it or as it was; and then no arc from a makes it nearer -/
noncomputable def gw_RX (R : Nat → Nat → Int → Prop) (a b : Nat) (F P F' P' : Nat → Int) : Prop := (∀ x, x ≠ b → F' x = F x ∧ P' x = P x) ∧ ((F' b = F b ∧ P' b = P b) ∨ ∃ c, ((c = 1 ∧ P' b = (a : Int)) ∨ (c = -1 ∧ P' b = 12 + (a : Int))) ∧ R a b c ∧ F a ≠ 10000 ∧ F' b = F a + c ∧ F' b < F b) ∧ (F a ≠ 10000 → ∀ c, R a b c → F' b ≤ F a + c)
section GT
variable {n : Nat} {R : Nat → Nat → Int → Prop} {r : Nat → Prop} {p : Nat → Int} {F P F' P' : Nat → Int} {a b : Nat}
/-- x comes from b, in k steps -/
noncomputable def gw_D (P : Nat → Int) (n b : Nat) : Nat → Nat → Prop
  | 0, x => x = b
  | k + 1, x => x < n ∧ 0 ≤ P x ∧ gw_D P n b k (gw_pr P x)
theorem gw_D_le (hp : ∀ a b c, a < n → b < n → R a b c → 0 ≤ c + p a - p b) (hT : gw_T n R r F P) : ∀ k x, gw_D P n b k x → F b - p b ≤ F x - p x
  | 0, x, h => by
    have e : x = b := h
    rw [e]
    exact Int.le_refl _
  | k + 1, x, h => by
    obtain ⟨h1, h2, h3⟩ := h
    have ih := gw_D_le hp hT k _ h3
    obtain ⟨t1, t2, -, t4, -⟩ := hT.1 x h1 h2
    have q := hp _ _ _ t1 h1 t2
    omega
theorem gw_T_RX (hp : ∀ a b c, a < n → b < n → R a b c → 0 ≤ c + p a - p b) (hn : n ≤ 12) (ha : a < n) (hb : b < n) (hF : ∀ f, f < n → F f ≤ 10000) (hs : F a ≠ 10000 → F a + 1 < 10000) (hT : gw_T n R r F P) (hX : gw_RX R a b F P F' P') : gw_T n R r F' P' := by
  obtain ⟨x1, x2, -⟩ := hX
  obtain ⟨t1, t2, k, t3⟩ := hT
  rcases x2 with ⟨e1, e2⟩ | ⟨c, hc, hR, hi, hF', hlt⟩
  · have eF : ∀ x, F' x = F x := fun x => by
      by_cases h : x = b
      · rw [h]; exact e1
      · exact (x1 x h).1
    have eP : ∀ x, P' x = P x := fun x => by
      by_cases h : x = b
      · rw [h]; exact e2
      · exact (x1 x h).2
    have epr : ∀ x, gw_pr P' x = gw_pr P x := fun x => by unfold gw_pr; rw [eP]
    have epc : ∀ x, gw_pc P' x = gw_pc P x := fun x => by unfold gw_pc; rw [eP]
    refine ⟨fun f hf h => ?_, fun f hf h1 h2 => ?_, k, fun f hf h => ?_⟩
    · rw [epr, epc, eF, eF, eP]
      exact t1 f hf (by rw [← eP]; exact h)
    · rw [eF] at h2 ⊢
      rw [eP] at h1
      exact t2 f hf h1 h2
    · rw [epr]
      exact t3 f hf (by rw [← eP]; exact h)
  · have hnD : ∀ j, ¬ gw_D P n b j a := fun j h => by
      have q := gw_D_le hp ⟨t1, t2, k, t3⟩ j a h
      have q2 := hp _ _ _ ha hb hR
      omega
    have hc2 : P' b = (a : Int) ∧ c = 1 ∨ P' b = 12 + (a : Int) ∧ c = -1 := by
      rcases hc with ⟨q1, q2⟩ | ⟨q1, q2⟩
      · exact Or.inl ⟨q2, q1⟩
      · exact Or.inr ⟨q2, q1⟩
    have eprb : gw_pr P' b = a := by
      unfold gw_pr
      rcases hc2 with ⟨q, -⟩ | ⟨q, -⟩
      · rw [q]; omega
      · rw [q]; omega
    have epcb : gw_pc P' b = c := by
      unfold gw_pc
      rcases hc2 with ⟨q, q2⟩ | ⟨q, q2⟩
      · rw [q, if_pos (by omega), q2]
      · rw [q, if_neg (by omega), q2]
    have epr : ∀ x, x ≠ b → gw_pr P' x = gw_pr P x := fun x h => by unfold gw_pr; rw [(x1 x h).2]
    have epc : ∀ x, x ≠ b → gw_pc P' x = gw_pc P x := fun x h => by unfold gw_pc; rw [(x1 x h).2]
    have hab : a ≠ b := fun z => hnD 0 z
    have hle : ∀ x, F' x ≤ F x := fun x => by
      by_cases h : x = b
      · rw [h]; omega
      · rw [(x1 x h).1]; exact Int.le_refl _
    have hni : ∀ x, x < n → F x ≠ 10000 → F' x ≠ 10000 := fun x hx h => by
      have q1 := hle x
      have q2 := hF x hx
      omega
    refine ⟨fun f hf h => ?_, fun f hf h1 h2 => ?_, ?_⟩
    · by_cases hfb : f = b
      · rw [hfb, eprb, epcb, (x1 a hab).1]
        refine ⟨ha, hR, hi, by omega, ?_⟩
        rcases hc2 with ⟨q, -⟩ | ⟨q, -⟩
        · rw [q]; omega
        · rw [q]; omega
      · rw [(x1 f hfb).2] at h
        obtain ⟨s1, s2, s3, s4, s5⟩ := t1 f hf h
        rw [epr f hfb, epc f hfb, (x1 f hfb).1, (x1 f hfb).2]
        exact ⟨s1, s2, hni _ s1 s3, by have := hle (gw_pr P f); omega, s5⟩
    · by_cases hfb : f = b
      · rw [hfb] at h1
        rcases hc2 with ⟨q, -⟩ | ⟨q, -⟩
        · rw [q] at h1; omega
        · rw [q] at h1; omega
      · rw [(x1 f hfb).2] at h1
        rw [(x1 f hfb).1] at h2 ⊢
        exact t2 f hf h1 h2
    · have hdec : ∀ x, Decidable (∃ j, gw_D P n b j x) := fun x => Classical.propDecidable _
      refine ⟨fun x => @ite _ (∃ j, gw_D P n b j x) (hdec x) (k x + k a + 1) (k x), fun f hf h => ?_⟩
      dsimp only
      by_cases hfb : f = b
      · rw [hfb, eprb, if_neg (fun ⟨j, q⟩ => hnD j q), if_pos ⟨0, rfl⟩]
        omega
      · rw [(x1 f hfb).2] at h
        have q := t3 f hf h
        rw [epr f hfb]
        by_cases hd : ∃ j, gw_D P n b j (gw_pr P f)
        · obtain ⟨j, hj⟩ := hd
          rw [if_pos ⟨j, hj⟩, if_pos ⟨j + 1, hf, h, hj⟩]
          omega
        · rw [if_neg hd]
          by_cases hd2 : ∃ j, gw_D P n b j f
          · rw [if_pos hd2]; omega
          · rw [if_neg hd2]; exact q
end GT
