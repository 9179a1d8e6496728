/-! the memory: fields, rows -/
def rx_all (n : Nat) (f : Nat → Bool) : Bool := (List.range n).all f
theorem rx_all_at {n k : Nat} {f : Nat → Bool} (h : (List.range n).all f = true) (hk : k < n) : f k = true := List.all_eq_true.mp h k (List.mem_range.mpr hk)
theorem rx_tt_mem {q : Nat} {w : Cond} (h : rx_tt q w = true) : w ∈ lw_tbl := List.mem_of_getElem? (of_decide_eq_true h)
theorem rx_B_mem {w : Cond} (h : w ∈ lw_tbl) (hg : goodWord w = true) : w ∈ rx_B := List.mem_filter.mpr ⟨h, hg⟩
theorem rx_fl_ok {c x : Nat} {q : Nat × Nat × Nat × Bool} (h : rx_fl c x = some q) : rx_okF c x = true := by
  by_cases hc : c < 14
  · by_cases hx : x < 363
    · exact rx_all_at (rx_all_at rx_fk hc) hx
    · exact absurd h (by sorry)
  · sorry
