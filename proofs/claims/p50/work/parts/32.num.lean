def iN (z : Int) : Int32 := Int32.ofInt z
abbrev yi (z : Int) : Value := .int (iN z)
theorem iN_toInt {z : Int} (h : -2147483648 ≤ z ∧ z ≤ 2147483647) : (iN z).toInt = z := Int32.toInt_ofInt_of_le (by omega) (by omega)
theorem iN_of (x : Int32) : iN x.toInt = x := Int32.ofInt_toInt x
theorem iN_rng (x : Int32) : -2147483648 ≤ x.toInt ∧ x.toInt ≤ 2147483647 := ⟨Int32.le_toInt x, by have := Int32.toInt_lt x; omega⟩
theorem iN_lt {a b : Int} (h : -2147483648 ≤ a ∧ a ≤ 2147483647 ∧ -2147483648 ≤ b ∧ b ≤ 2147483647) : iN a < iN b ↔ a < b := by
  rw [Int32.lt_iff_toInt_lt, iN_toInt ⟨h.1, h.2.1⟩, iN_toInt h.2.2]
theorem iN_le {a b : Int} (h : -2147483648 ≤ a ∧ a ≤ 2147483647 ∧ -2147483648 ≤ b ∧ b ≤ 2147483647) : iN a ≤ iN b ↔ a ≤ b := by
  rw [Int32.le_iff_toInt_le, iN_toInt ⟨h.1, h.2.1⟩, iN_toInt h.2.2]
theorem iN_eq {a b : Int} (h : -2147483648 ≤ a ∧ a ≤ 2147483647 ∧ -2147483648 ≤ b ∧ b ≤ 2147483647) : iN a = iN b ↔ a = b := by
  constructor
  · intro e
    rw [← iN_toInt ⟨h.1, h.2.1⟩, e, iN_toInt h.2.2]
  · rintro rfl
    rfl
theorem iN_add (a b : Int) : iN a + iN b = iN (a + b) := (Int32.ofInt_add a b).symm
theorem iN_sub (a b : Int) : iN a - iN b = iN (a - b) := (Int32.ofInt_sub a b).symm
theorem iN_mul (a b : Int) : iN a * iN b = iN (a * b) := (Int32.ofInt_mul a b).symm
theorem iN_neg (a : Int) : -iN a = iN (-a) := (Int32.ofInt_neg a).symm
theorem iN_nat {z : Int} (h : -2147483648 ≤ z ∧ z ≤ 2147483647) : (iN z).toNatClampNeg = z.toNat := by
  rw [Int32.toNatClampNeg, iN_toInt h]
theorem iN_ofInt {x : Int32} {z : Int} (h : x.toInt = z) : x = iN z := by rw [← h, iN_of]
theorem iN_div {a b : Int} (h : 0 ≤ a ∧ a ≤ 2147483647 ∧ 0 < b ∧ b ≤ 2147483647) : iN a / iN b = iN (a / b) := by
  apply iN_ofInt
  have h1 : a.tdiv b = a / b := Int.tdiv_eq_ediv_of_nonneg h.1
  have h2 : 0 ≤ a / b := Int.ediv_nonneg h.1 (by omega)
  have h3 : a / b ≤ a := Int.ediv_le_self b h.1
  rw [Int32.toInt_div, iN_toInt (by omega), iN_toInt (by omega), h1, Int.bmod_eq_of_le (by omega) (by omega)]
theorem iN_rem {a b : Int} (h : 0 ≤ a ∧ a ≤ 2147483647 ∧ 0 < b ∧ b ≤ 2147483647) : iN a - iN a / iN b * iN b = iN (a % b) := by
  rw [iN_div h, iN_mul, iN_sub, Int.emod_def, Int.mul_comm b]
