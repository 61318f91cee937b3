/-- the least cost from (i, j) to the last pair (m - 1, n - 1) -/
def bw (D : Int → Int → Int) (w b m n i j : Int) : Int :=
  if h : m ≤ i ∨ n ≤ j then 100000000 else
    if -b ≤ i - j ∧ i - j ≤ b ∧ (if i = m - 1 ∧ j = n - 1 then 0 else least (bw D w b m n (i + 1) (j + 1)) (least (bw D w b m n (i + 1) j) (bw D w b m n i (j + 1)) + w)) < 100000000 then
      (if i = m - 1 ∧ j = n - 1 then 0 else least (bw D w b m n (i + 1) (j + 1)) (least (bw D w b m n (i + 1) j) (bw D w b m n i (j + 1)) + w)) + D i j
    else 100000000
termination_by ((m - i).toNat + (n - j).toNat)
decreasing_by all_goals omega
def bwt (D : Int → Int → Int) (w b m n i j : Int) : Int := if i = m - 1 ∧ j = n - 1 then 0 else least (bw D w b m n (i + 1) (j + 1)) (least (bw D w b m n (i + 1) j) (bw D w b m n i (j + 1)) + w)
theorem bw_out {D : Int → Int → Int} {w b m n i j : Int} (h : m ≤ i ∨ n ≤ j) : bw D w b m n i j = 100000000 := by
  rw [bw, dif_pos h]
theorem bw_in {D : Int → Int → Int} {w b m n i j : Int} (h : i < m ∧ j < n) : bw D w b m n i j = if -b ≤ i - j ∧ i - j ≤ b ∧ bwt D w b m n i j < 100000000 then bwt D w b m n i j + D i j else 100000000 := by
  rw [bw, dif_neg (by omega)]
  rfl
theorem bw_rng {D : Int → Int → Int} {w b m n : Int} (hw : 0 ≤ w ∧ w ≤ 50) (hD : ∀ i j, 0 ≤ i → i < m → 0 ≤ j → j < n → 0 ≤ D i j ∧ D i j ≤ 5184) : ∀ (N : Nat) (i j : Int), 0 ≤ i → 0 ≤ j → (m - i).toNat + (n - j).toNat = N → 0 ≤ bw D w b m n i j ∧ (bw D w b m n i j = 100000000 ∨ (i < m ∧ j < n ∧ bw D w b m n i j ≤ 5234 * (m - i + n - j))) := by
  intro N
  induction N using Nat.strongRecOn with
  | ind N ih =>
    intro i j hi hj hN
    by_cases h : m ≤ i ∨ n ≤ j
    · rw [bw_out h]
      omega
    · rw [bw_in (by omega)]
      have hd := hD i j hi (by omega) hj (by omega)
      have a1 := ih _ (by omega) (i + 1) (j + 1) (by omega) (by omega) rfl
      have a2 := ih _ (by omega) (i + 1) j (by omega) (by omega) rfl
      have a3 := ih _ (by omega) i (j + 1) (by omega) (by omega) rfl
      unfold bwt
      have b1 := least_rng (bw D w b m n (i + 1) j) (bw D w b m n i (j + 1))
      have b2 := least_rng (bw D w b m n (i + 1) (j + 1)) (least (bw D w b m n (i + 1) j) (bw D w b m n i (j + 1)) + w)
      by_cases e0 : i = m - 1 ∧ j = n - 1
      · rw [if_pos e0]
        split <;> omega
      · rw [if_neg e0]
        split <;> omega
/-- how many best ways there are from (i, j) to the end, a million at the most -/
def wy (D : Int → Int → Int) (w b m n i j : Int) : Int :=
  if h : m ≤ i ∨ n ≤ j then 0 else
    if i = m - 1 ∧ j = n - 1 then 1 else
      if (if bwt D w b m n i j < 100000000 ∧ bw D w b m n (i + 1) (j + 1) = bwt D w b m n i j then wy D w b m n (i + 1) (j + 1) else 0) + (if bwt D w b m n i j - w < 100000000 ∧ bw D w b m n (i + 1) j = bwt D w b m n i j - w then wy D w b m n (i + 1) j else 0) + (if bwt D w b m n i j - w < 100000000 ∧ bw D w b m n i (j + 1) = bwt D w b m n i j - w then wy D w b m n i (j + 1) else 0) < 1000000 then
        (if bwt D w b m n i j < 100000000 ∧ bw D w b m n (i + 1) (j + 1) = bwt D w b m n i j then wy D w b m n (i + 1) (j + 1) else 0) + (if bwt D w b m n i j - w < 100000000 ∧ bw D w b m n (i + 1) j = bwt D w b m n i j - w then wy D w b m n (i + 1) j else 0) + (if bwt D w b m n i j - w < 100000000 ∧ bw D w b m n i (j + 1) = bwt D w b m n i j - w then wy D w b m n i (j + 1) else 0)
      else 1000000
termination_by ((m - i).toNat + (n - j).toNat)
decreasing_by all_goals omega
def wo (D : Int → Int → Int) (w b m n i j c : Int) : Int := if c < 100000000 ∧ bw D w b m n i j = c then wy D w b m n i j else 0
theorem wy_in {D : Int → Int → Int} {w b m n i j : Int} (h : i < m ∧ j < n) : wy D w b m n i j = if i = m - 1 ∧ j = n - 1 then 1 else
    if wo D w b m n (i + 1) (j + 1) (bwt D w b m n i j) + wo D w b m n (i + 1) j (bwt D w b m n i j - w) + wo D w b m n i (j + 1) (bwt D w b m n i j - w) < 1000000 then
      wo D w b m n (i + 1) (j + 1) (bwt D w b m n i j) + wo D w b m n (i + 1) j (bwt D w b m n i j - w) + wo D w b m n i (j + 1) (bwt D w b m n i j - w) else 1000000 := by
  rw [wy, dif_neg (by omega)]
  rfl
theorem wy_rng {D : Int → Int → Int} {w b m n : Int} : ∀ (N : Nat) (i j : Int), (m - i).toNat + (n - j).toNat = N → 0 ≤ wy D w b m n i j ∧ wy D w b m n i j ≤ 1000000 := by
  intro N
  induction N using Nat.strongRecOn with
  | ind N ih =>
    intro i j hN
    by_cases h : m ≤ i ∨ n ≤ j
    · rw [wy, dif_pos h]
      omega
    · rw [wy_in (by omega)]
      have a1 := ih _ (by omega) (i + 1) (j + 1) rfl
      have a2 := ih _ (by omega) (i + 1) j rfl
      have a3 := ih _ (by omega) i (j + 1) rfl
      have w1 : ∀ x y c, 0 ≤ wy D w b m n x y → 0 ≤ wo D w b m n x y c := by
        intro x y c h
        unfold wo
        split <;> omega
      have w2 := w1 (i + 1) (j + 1) (bwt D w b m n i j) a1.1
      have w3 := w1 (i + 1) j (bwt D w b m n i j - w) a2.1
      have w4 := w1 i (j + 1) (bwt D w b m n i j - w) a3.1
      split
      · omega
      · split <;> omega
