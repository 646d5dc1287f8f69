section TI
theorem ti_bmod {n : Int} (h1 : -2147483648 ≤ n) (h2 : n ≤ 2147483647) : n.bmod (2 ^ 32) = n := by
  apply Int.bmod_eq_of_le <;> omega
theorem ti_add {x y : Int32} {a b : Int} (ha : x.toInt = a) (hb : y.toInt = b) (h1 : -2147483648 ≤ a + b) (h2 : a + b ≤ 2147483647) : (x + y).toInt = a + b := by
  rw [Int32.toInt_add, ha, hb]; exact ti_bmod h1 h2
theorem ti_sub {x y : Int32} {a b : Int} (ha : x.toInt = a) (hb : y.toInt = b) (h1 : -2147483648 ≤ a - b) (h2 : a - b ≤ 2147483647) : (x - y).toInt = a - b := by
  rw [Int32.toInt_sub, ha, hb]; exact ti_bmod h1 h2
theorem ti_mul {x y : Int32} {a b : Int} (ha : x.toInt = a) (hb : y.toInt = b) (h1 : -2147483648 ≤ a * b) (h2 : a * b ≤ 2147483647) : (x * y).toInt = a * b := by
  rw [Int32.toInt_mul, ha, hb]; exact ti_bmod h1 h2
theorem ti_neg {x : Int32} {a : Int} (ha : x.toInt = a) (h1 : -2147483648 ≤ -a) (h2 : -a ≤ 2147483647) : (-x).toInt = -a := by
  rw [Int32.toInt_neg, ha]; exact ti_bmod h1 h2
theorem ti_lo (x : Int32) : -2147483648 ≤ x.toInt := by have := Int32.le_toInt x; omega
theorem ti_hi (x : Int32) : x.toInt ≤ 2147483647 := by have := Int32.toInt_lt x; omega
theorem ti_div {x y : Int32} {a b : Int} (ha : x.toInt = a) (hb : y.toInt = b) (h0 : 0 ≤ a) (h1 : 0 < b) : (x / y).toInt = a / b := by
  have hx := ti_hi x
  rw [Int32.toInt_div, ha, hb, Int.tdiv_eq_ediv_of_nonneg h0]
  have h2 : 0 ≤ a / b := Int.ediv_nonneg h0 (by omega)
  have h3 : a / b ≤ a := Int.ediv_le_self b h0
  exact ti_bmod (by omega) (by omega)
theorem ti_rem {x y : Int32} {a b : Int} (ha : x.toInt = a) (hb : y.toInt = b) (h0 : 0 ≤ a) (h1 : 0 < b) : (x - x / y * y).toInt = a % b := by
  have hx := ti_hi x
  have hd := ti_div ha hb h0 h1
  have h2 : 0 ≤ a / b := Int.ediv_nonneg h0 (by omega)
  have h4 := Int.emod_add_mul_ediv a b
  have h5 := Int.emod_nonneg a (show b ≠ 0 by omega)
  have h6 : 0 ≤ b * (a / b) := Int.mul_nonneg (by omega) h2
  have e : (a / b) * b = b * (a / b) := Int.mul_comm _ _
  have hm := ti_mul hd hb (by omega) (by omega)
  rw [ti_sub ha hm (by omega) (by omega)]
  omega
theorem ti_lt {x y : Int32} (h : x < y) : x.toInt < y.toInt := Int32.lt_iff_toInt_lt.mp h
theorem ti_le {x y : Int32} (h : x ≤ y) : x.toInt ≤ y.toInt := Int32.le_iff_toInt_le.mp h
theorem ti_nlt {x y : Int32} (h : ¬ x < y) : y.toInt ≤ x.toInt := by
  have := mt (Int32.lt_iff_toInt_lt (x := x) (y := y)).mpr h
  omega
theorem ti_nle {x y : Int32} (h : ¬ x ≤ y) : y.toInt < x.toInt := by
  have := mt (Int32.le_iff_toInt_le (x := x) (y := y)).mpr h
  omega
theorem ti_ne {x y : Int32} (h : ¬ x = y) : x.toInt ≠ y.toInt := fun e => h (Int32.toInt_inj.mp e)
theorem ti_in {x : Int32} {n : Nat} (h0 : 0 ≤ x.toInt) (h1 : x.toInt < n) : vp_in x n := vp_in_iff.mpr ⟨h0, h1⟩
theorem ti_cl {x : Int32} (h0 : 0 ≤ x.toInt) : (x.toNatClampNeg : Int) = x.toInt := by
  rw [Int32.toNatClampNeg, Int.toNat_of_nonneg h0]
theorem ti_mulr {a b A B : Int} (h0 : 0 ≤ a) (h1 : a ≤ A) (h2 : 0 ≤ b) (h3 : b ≤ B) : 0 ≤ a * b ∧ a * b ≤ A * B :=
  ⟨Int.mul_nonneg h0 h2, Int.mul_le_mul h1 h3 h2 (by omega)⟩
theorem ti_min {x y : Int32} {a b : Int} (ha : x.toInt = a) (hb : y.toInt = b) : (if x ≤ y then x else y).toInt = min a b := by
  split
  · rename_i h; have := ti_le h; omega
  · rename_i h; have := ti_nle h; omega
end TI
