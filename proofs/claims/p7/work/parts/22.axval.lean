/-! the core: values with unknown ints, references and longs; what arithmetic keeps of bounds -/
abbrev ax_V : Type := Nat → Int32 × Int64
/-- literals; 'retAddr k' the k-th unknown as an int, 'float k' as a reference (a cell's number), 'double k' as a long -/
noncomputable def ax_v (v : ax_V) (w : Value) : Value := match w with
  | .retAddr k => .int (v k).1
  | .float b => .ref ((v b.toNat).1.toNatClampNeg)
  | .double b => .long (v b.toNat).2
  | u => u
noncomputable def ax_vi (v : ax_V) (w : Value) : Int32 := match w with
  | .int x => x
  | .retAddr k => (v k).1
  | _ => 0
theorem ax_v_cat (v : ax_V) (w : Value) : (ax_v v w).category = w.category := by cases w <;> rfl
theorem ax_vI {v : ax_V} {w : Value} (h : sx_isI w = true) : ax_v v w = .int (ax_vi v w) := by
  cases w <;> first | rfl | cases h
/-- the valuation with one more unknown -/
noncomputable def ax_up (v : ax_V) (n : Nat) (x : Int32 × Int64) : ax_V := fun k => if k = n then x else v k
theorem ax_up_self (v : ax_V) (n : Nat) (x : Int32 × Int64) : ax_up v n x n = x := if_pos rfl
theorem ax_up_lt (v : ax_V) {n k : Nat} (x : Int32 × Int64) (h : k < n) : ax_up v n x k = v k := if_neg (Nat.ne_of_lt h)
/-- its unknowns are among the first n -/
noncomputable def ax_sc (n : Nat) (w : Value) : Bool := match w with
  | .retAddr k => Nat.blt k n
  | .float b => Nat.blt b.toNat n
  | .double b => Nat.blt b.toNat n
  | _ => true
theorem ax_v_up {v : ax_V} {n : Nat} {x : Int32 × Int64} {w : Value} (h : ax_sc n w = true) : ax_v (ax_up v n x) w = ax_v v w := by
  cases w with
  | retAddr k => show Value.int (ax_up v n x k).1 = _; rw [ax_up_lt v x (Nat.blt_eq.mp h)]; rfl
  | float b => show Value.ref ((ax_up v n x b.toNat).1.toNatClampNeg) = _; rw [ax_up_lt v x (Nat.blt_eq.mp h)]; rfl
  | double b => show Value.long (ax_up v n x b.toNat).2 = _; rw [ax_up_lt v x (Nat.blt_eq.mp h)]; rfl
  | _ => rfl
theorem ax_vi_up {v : ax_V} {n : Nat} {x : Int32 × Int64} {w : Value} (h : ax_sc n w = true) : ax_vi (ax_up v n x) w = ax_vi v w := by
  cases w with
  | retAddr k => show (ax_up v n x k).1 = _; rw [ax_up_lt v x (Nat.blt_eq.mp h)]; rfl
  | _ => rfl
theorem ax_bmod {a : Int} (h1 : -2147483648 ≤ a) (h2 : a ≤ 2147483647) : a.bmod (2 ^ 32) = a := by
  unfold Int.bmod
  have e : ((2 ^ 32 : Nat) : Int) = 4294967296 := rfl
  rw [e]
  dsimp only
  split <;> omega
theorem ax_range (x : Int32) : -2147483648 ≤ x.toInt ∧ x.toInt ≤ 2147483647 := by
  have h1 := Int32.le_toInt x
  have h2 := Int32.toInt_lt x
  omega
theorem ax_add {x y : Int32} (h1 : -2147483648 ≤ x.toInt + y.toInt) (h2 : x.toInt + y.toInt ≤ 2147483647) : (x + y).toInt = x.toInt + y.toInt := by
  rw [Int32.toInt_add, ax_bmod h1 h2]
theorem ax_sub {x y : Int32} (h1 : -2147483648 ≤ x.toInt - y.toInt) (h2 : x.toInt - y.toInt ≤ 2147483647) : (x - y).toInt = x.toInt - y.toInt := by
  rw [Int32.toInt_sub, ax_bmod h1 h2]
theorem ax_mul {x y : Int32} (h1 : -2147483648 ≤ x.toInt * y.toInt) (h2 : x.toInt * y.toInt ≤ 2147483647) : (x * y).toInt = x.toInt * y.toInt := by
  rw [Int32.toInt_mul, ax_bmod h1 h2]
theorem ax_rem {x y : Int32} (hx : 0 ≤ x.toInt) (hy : 0 < y.toInt) : 0 ≤ (x - x / y * y).toInt ∧ (x - x / y * y).toInt ≤ y.toInt - 1 := by
  have rx := ax_range x
  have h1 : (x.toInt.tdiv y.toInt) = x.toInt / y.toInt := Int.tdiv_eq_ediv_of_nonneg hx
  have h2 : 0 ≤ x.toInt / y.toInt := Int.ediv_nonneg hx (Int.le_of_lt hy)
  have h3 : x.toInt / y.toInt ≤ x.toInt := Int.ediv_le_self _ hx
  have hd : (x / y).toInt = x.toInt / y.toInt := by
    rw [Int32.toInt_div, h1, ax_bmod (by omega) (by omega)]
  have h4 : x.toInt / y.toInt * y.toInt ≤ x.toInt := Int.ediv_mul_le _ (by omega)
  have h5 : 0 ≤ x.toInt / y.toInt * y.toInt := Int.mul_nonneg h2 (Int.le_of_lt hy)
  have hm : (x / y * y).toInt = x.toInt / y.toInt * y.toInt := by
    rw [ax_mul (by rw [hd]; omega) (by rw [hd]; omega), hd]
  have he := Int.emod_add_mul_ediv x.toInt y.toInt
  have h6 := Int.emod_nonneg x.toInt (by omega : y.toInt ≠ 0)
  have h7 := Int.emod_lt_of_pos x.toInt hy
  have hc : y.toInt * (x.toInt / y.toInt) = x.toInt / y.toInt * y.toInt := Int.mul_comm _ _
  rw [ax_sub (by rw [hm]; omega) (by rw [hm]; omega), hm]
  omega
theorem ax_and {x c : Int32} (hc : 0 ≤ c.toInt) : 0 ≤ (x &&& c).toInt ∧ (x &&& c).toInt ≤ c.toInt := by
  have e1 : (x &&& c).toInt = (x.toBitVec &&& c.toBitVec).toInt := rfl
  have e2 : c.toInt = c.toBitVec.toInt := rfl
  have h : (x.toBitVec &&& c.toBitVec).toNat ≤ c.toBitVec.toNat := by
    rw [BitVec.toNat_and]
    exact Nat.and_le_right
  rw [e2, BitVec.toInt_eq_toNat_cond] at hc
  have h9 := c.toBitVec.isLt
  rw [e1, e2, BitVec.toInt_eq_toNat_cond, BitVec.toInt_eq_toNat_cond]
  split at hc
  · rw [if_pos (by omega), if_pos (by omega)]
    omega
  · omega
theorem ax_and2 {x c : Int32} (hc : 0 ≤ c.toInt) : 0 ≤ (c &&& x).toInt ∧ (c &&& x).toInt ≤ c.toInt := by
  have e : c &&& x = x &&& c := by
    apply Int32.toBitVec_inj.mp
    rw [Int32.toBitVec_and, Int32.toBitVec_and, BitVec.and_comm]
  rw [e]
  exact ax_and hc
theorem ax_ofInt {a : Int} (h1 : -2147483648 ≤ a) (h2 : a ≤ 2147483647) : (Int32.ofInt a).toInt = a := by
  rw [Int32.toInt_ofInt, ax_bmod h1 h2]
theorem ax_clamp {x : Int32} (h : 0 ≤ x.toInt) : (x.toNatClampNeg : Int) = x.toInt := by
  show ((x.toInt.toNat : Nat) : Int) = x.toInt
  omega
theorem ax_neg {x : Int32} : x < 0 ↔ x.toInt < 0 := Int32.lt_iff_toInt_lt
