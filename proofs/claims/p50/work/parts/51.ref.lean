/-- part matches: the least cost of one that ends with (i, j) -/
def pc (D : Int → Int → Int) (w i j : Int) : Int :=
  if h : i < 0 ∨ j < 0 then 100000000 else
    (if i = 0 then 0 else least (pc D w (i - 1) (j - 1)) (least (pc D w (i - 1) j) (pc D w i (j - 1)) + w)) + D i j
termination_by ((i + 1).toNat + (j + 1).toNat)
decreasing_by all_goals omega
def pcf (D : Int → Int → Int) (w i j : Int) : Int := if i = 0 then 0 else least (pc D w (i - 1) (j - 1)) (least (pc D w (i - 1) j) (pc D w i (j - 1)) + w)
theorem pc_out {D : Int → Int → Int} {w i j : Int} (h : i < 0 ∨ j < 0) : pc D w i j = 100000000 := by
  rw [pc, dif_pos h]
theorem pc_in {D : Int → Int → Int} {w i j : Int} (h : 0 ≤ i ∧ 0 ≤ j) : pc D w i j = pcf D w i j + D i j := by
  rw [pc, dif_neg (by omega)]
  rfl
theorem pc_rng {D : Int → Int → Int} {w m n : Int} (hw : 0 ≤ w ∧ w ≤ 50) (hm : m ≤ 20) (hD : ∀ i j, 0 ≤ i → i < m → 0 ≤ j → j < n → 0 ≤ D i j ∧ D i j ≤ 5184) : ∀ (N : Nat) (i j : Int), i < m → j < n → (i + 1).toNat + (j + 1).toNat = N → 0 ≤ pc D w i j ∧ ((i < 0 ∨ j < 0) ∧ pc D w i j = 100000000 ∨ 0 ≤ i ∧ 0 ≤ j ∧ pc D w i j ≤ 5234 * (i + 1)) := by
  intro N
  induction N using Nat.strongRecOn with
  | ind N ih =>
    intro i j hi hj hN
    by_cases h : i < 0 ∨ j < 0
    · rw [pc_out h]
      omega
    · rw [pc_in (by omega)]
      have hd := hD i j (by omega) hi (by omega) hj
      have a1 := ih _ (by omega) (i - 1) (j - 1) (by omega) (by omega) rfl
      have a2 := ih _ (by omega) (i - 1) j (by omega) (by omega) rfl
      have a3 := ih _ (by omega) i (j - 1) (by omega) (by omega) rfl
      unfold pcf
      have b1 := least_rng (pc D w (i - 1) j) (pc D w i (j - 1))
      have b2 := least_rng (pc D w (i - 1) (j - 1)) (least (pc D w (i - 1) j) (pc D w i (j - 1)) + w)
      by_cases e0 : i = 0
      · rw [if_pos e0]
        omega
      · rw [if_neg e0]
        omega
def mxb (P : Prop) [Decidable P] (x s : Int) : Int := if P ∧ s < x then x else s
/-- ... and where such a one begins, the latest -/
def pb (D : Int → Int → Int) (w i j : Int) : Int :=
  if h : i < 0 ∨ j < 0 then 0 else
    mxb (0 ≤ i ∧ 0 ≤ j - 1 ∧ pc D w i (j - 1) = pcf D w i j - w) (pb D w i (j - 1)) (mxb (0 ≤ i - 1 ∧ 0 ≤ j ∧ pc D w (i - 1) j = pcf D w i j - w) (pb D w (i - 1) j) (mxb (0 ≤ i - 1 ∧ 0 ≤ j - 1 ∧ pc D w (i - 1) (j - 1) = pcf D w i j) (pb D w (i - 1) (j - 1)) (if i = 0 then j else -1)))
termination_by ((i + 1).toNat + (j + 1).toNat)
decreasing_by all_goals omega
theorem mxb_rng {P : Prop} {_ : Decidable P} {x s : Int} (hs : -1 ≤ s ∧ s ≤ 20) (hx : -1 ≤ x ∧ x ≤ 20) : -1 ≤ mxb P x s ∧ mxb P x s ≤ 20 := by
  unfold mxb
  split <;> omega
theorem pb_in {D : Int → Int → Int} {w i j : Int} (h : 0 ≤ i ∧ 0 ≤ j) : pb D w i j = mxb (0 ≤ i ∧ 0 ≤ j - 1 ∧ pc D w i (j - 1) = pcf D w i j - w) (pb D w i (j - 1)) (mxb (0 ≤ i - 1 ∧ 0 ≤ j ∧ pc D w (i - 1) j = pcf D w i j - w) (pb D w (i - 1) j) (mxb (0 ≤ i - 1 ∧ 0 ≤ j - 1 ∧ pc D w (i - 1) (j - 1) = pcf D w i j) (pb D w (i - 1) (j - 1)) (if i = 0 then j else -1))) := by
  rw [pb, dif_neg (by omega)]
theorem pb_rng {D : Int → Int → Int} {w : Int} : ∀ (N : Nat) (i j : Int), j ≤ 20 → (i + 1).toNat + (j + 1).toNat = N → -1 ≤ pb D w i j ∧ pb D w i j ≤ 20 := by
  intro N
  induction N using Nat.strongRecOn with
  | ind N ih =>
    intro i j hj hN
    by_cases h : i < 0 ∨ j < 0
    · rw [pb, dif_pos h]
      omega
    · rw [pb_in (by omega)]
      exact mxb_rng (mxb_rng (mxb_rng (by split <;> omega) (ih _ (by omega) _ _ (by omega) rfl)) (ih _ (by omega) _ _ (by omega) rfl)) (ih _ (by omega) _ _ (by omega) rfl)
/-- the first place of the least of n + 1 numbers -/
def pes (F : Int → Int) : Nat → Int
  | 0 => 0
  | k + 1 => if F ((k : Int) + 1) < F (pes F k) then (k : Int) + 1 else pes F k
theorem pes_s {F : Int → Int} {i : Int} (h : 1 ≤ i) : pes F (i + 1 - 1).toNat = if F i < F (pes F (i - 1).toNat) then i else pes F (i - 1).toNat := by
  rw [show (i + 1 - 1).toNat = (i - 1).toNat + 1 by omega]
  show (if F (((i - 1).toNat : Int) + 1) < F (pes F (i - 1).toNat) then ((i - 1).toNat : Int) + 1 else pes F (i - 1).toNat) = _
  rw [show (((i - 1).toNat : Nat) : Int) = i - 1 by omega, show i - 1 + 1 = i by omega]
/-- where the best part match ends -/
def pend (S : Int → Int) : Int := pes (fun y => pc (unl S 0) (S 3) (S 0 - 1) y) (S 1 - 1).toNat
