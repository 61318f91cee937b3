/-- the least cost from the first pair to (i, j): D unlike, w the price of a hold, b the bound; 100000000: there is none -/
def fw (D : Int → Int → Int) (w b i j : Int) : Int :=
  if h : i < 0 ∨ j < 0 then 100000000 else
    if -b ≤ i - j ∧ i - j ≤ b ∧ (if i = 0 ∧ j = 0 then 0 else least (fw D w b (i - 1) (j - 1)) (least (fw D w b (i - 1) j) (fw D w b i (j - 1)) + w)) < 100000000 then
      (if i = 0 ∧ j = 0 then 0 else least (fw D w b (i - 1) (j - 1)) (least (fw D w b (i - 1) j) (fw D w b i (j - 1)) + w)) + D i j
    else 100000000
termination_by ((i + 1).toNat + (j + 1).toNat)
decreasing_by all_goals omega
def fwf (D : Int → Int → Int) (w b i j : Int) : Int := if i = 0 ∧ j = 0 then 0 else least (fw D w b (i - 1) (j - 1)) (least (fw D w b (i - 1) j) (fw D w b i (j - 1)) + w)
theorem fw_out {D : Int → Int → Int} {w b i j : Int} (h : i < 0 ∨ j < 0) : fw D w b i j = 100000000 := by
  rw [fw, dif_pos h]
theorem fw_in {D : Int → Int → Int} {w b i j : Int} (h : 0 ≤ i ∧ 0 ≤ j) : fw D w b i j = if -b ≤ i - j ∧ i - j ≤ b ∧ fwf D w b i j < 100000000 then fwf D w b i j + D i j else 100000000 := by
  rw [fw, dif_neg (by omega)]
  rfl
theorem least_rng (a b : Int) : (least a b = a ∧ a < b) ∨ (least a b = b ∧ b ≤ a) := by
  unfold least
  split
  · exact Or.inl ⟨rfl, by assumption⟩
  · exact Or.inr ⟨rfl, by omega⟩
theorem fw_rng {D : Int → Int → Int} {w b m n : Int} (hw : 0 ≤ w ∧ w ≤ 50) (hD : ∀ i j, 0 ≤ i → i < m → 0 ≤ j → j < n → 0 ≤ D i j ∧ D i j ≤ 5184) : ∀ (N : Nat) (i j : Int), i < m → j < n → (i + 1).toNat + (j + 1).toNat = N → 0 ≤ fw D w b i j ∧ (fw D w b i j = 100000000 ∨ (0 ≤ i ∧ 0 ≤ j ∧ fw D w b i j ≤ 5234 * (i + j + 1))) := by
  intro N
  induction N using Nat.strongRecOn with
  | ind N ih =>
    intro i j hi hj hN
    by_cases h : i < 0 ∨ j < 0
    · rw [fw_out h]
      omega
    · rw [fw_in (by omega)]
      have hd := hD i j (by omega) hi (by omega) hj
      have a1 := ih _ (by omega) (i - 1) (j - 1) (by omega) (by omega) rfl
      have a2 := ih _ (by omega) (i - 1) j (by omega) (by omega) rfl
      have a3 := ih _ (by omega) i (j - 1) (by omega) (by omega) rfl
      unfold fwf
      have b1 := least_rng (fw D w b (i - 1) j) (fw D w b i (j - 1))
      have b2 := least_rng (fw D w b (i - 1) (j - 1)) (least (fw D w b (i - 1) j) (fw D w b i (j - 1)) + w)
      by_cases e0 : i = 0 ∧ j = 0
      · rw [if_pos e0]
        split <;> omega
      · rw [if_neg e0]
        split <;> omega
theorem unl_rng {S : Int → Int} {b i j : Int} (hz : 0 ≤ S 0 ∧ S 0 ≤ 20 ∧ 0 ≤ S 1 ∧ S 1 ≤ 20 ∧ 0 ≤ S 2 ∧ S 2 ≤ 20 ∧ 0 ≤ S 3 ∧ S 3 ≤ 50 ∧ 0 ≤ S 4 ∧ S 4 ≤ 3) (h0 : ∀ q, 0 ≤ q → q < S 0 → 0 ≤ S (7 + q) ∧ S (7 + q) ≤ 60) (h1 : ∀ q, 0 ≤ q → q < S 1 → 0 ≤ S (27 + q) ∧ S (27 + q) ≤ 60) (hb : -12 ≤ b ∧ b ≤ 12) (hi : 0 ≤ i) (hi2 : i < S 0) (hj : 0 ≤ j) (hj2 : j < S 1) : 0 ≤ unl S b i j ∧ unl S b i j ≤ 5184 := by
  have w1 := h0 i hi hi2
  have w2 := h1 j hj hj2
  exact jud_rng (by omega)
