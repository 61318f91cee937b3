/-- the next pair of the first best match -/
def stp (D : Int → Int → Int) (w b m n : Int) (p : Int × Int) : Int × Int :=
  if bw D w b m n (p.1 + 1) (p.2 + 1) = bw D w b m n p.1 p.2 - D p.1 p.2 then (p.1 + 1, p.2 + 1) else
    if bw D w b m n (p.1 + 1) p.2 + w = bw D w b m n p.1 p.2 - D p.1 p.2 then (p.1 + 1, p.2) else (p.1, p.2 + 1)
def pth (D : Int → Int → Int) (w b m n : Int) : Nat → Int × Int
  | 0 => (0, 0)
  | k + 1 => stp D w b m n (pth D w b m n k)
theorem bw_fin {D : Int → Int → Int} {w b m n : Int} (hw : 0 ≤ w ∧ w ≤ 50) (hm : m ≤ 20 ∧ n ≤ 20) (hD : ∀ i j, 0 ≤ i → i < m → 0 ≤ j → j < n → 0 ≤ D i j ∧ D i j ≤ 5184) (hn : -b ≤ m - n ∧ m - n ≤ b) : ∀ (N : Nat) (i j : Int), 0 ≤ i → 0 ≤ j → i < m → j < n → -b ≤ i - j → i - j ≤ b → (m - i).toNat + (n - j).toNat = N → bw D w b m n i j < 100000000 := by
  intro N
  induction N using Nat.strongRecOn with
  | ind N ih =>
    intro i j hi hj hi2 hj2 hb1 hb2 hN
    have hd := hD i j hi (by omega) hj (by omega)
    have a1 := bw_rng (b := b) hw hD _ (i + 1) (j + 1) (by omega) (by omega) rfl
    have a2 := bw_rng (b := b) hw hD _ (i + 1) j (by omega) (by omega) rfl
    have a3 := bw_rng (b := b) hw hD _ i (j + 1) (by omega) (by omega) rfl
    have b1 := least_rng (bw D w b m n (i + 1) j) (bw D w b m n i (j + 1))
    have b2 := least_rng (bw D w b m n (i + 1) (j + 1)) (least (bw D w b m n (i + 1) j) (bw D w b m n i (j + 1)) + w)
    have key : bwt D w b m n i j ≤ 300000 := by
      unfold bwt
      by_cases e0 : i = m - 1 ∧ j = n - 1
      · rw [if_pos e0]
        decide
      · rw [if_neg e0]
        by_cases e1 : i < m - 1
        · by_cases e2 : j < n - 1
          · have h := ih _ (by omega) (i + 1) (j + 1) (by omega) (by omega) (by omega) (by omega) (by omega) (by omega) rfl
            omega
          · have h := ih _ (by omega) (i + 1) j (by omega) (by omega) (by omega) (by omega) (by omega) (by omega) rfl
            omega
        · have h := ih _ (by omega) i (j + 1) (by omega) (by omega) (by omega) (by omega) (by omega) (by omega) rfl
          omega
    have r := bw_rng (b := b) hw hD _ i j hi hj rfl
    rw [bw_in ⟨hi2, hj2⟩, if_pos ⟨hb1, hb2, by omega⟩] at r ⊢
    omega
theorem stp_ok {D : Int → Int → Int} {w b m n i j : Int} (hw : 0 ≤ w ∧ w ≤ 50) (hm : m ≤ 20 ∧ n ≤ 20) (hD : ∀ i j, 0 ≤ i → i < m → 0 ≤ j → j < n → 0 ≤ D i j ∧ D i j ≤ 5184) (h : 0 ≤ i ∧ 0 ≤ j ∧ i < m ∧ j < n) (hl : ¬ (i = m - 1 ∧ j = n - 1)) (hf : bw D w b m n i j < 100000000) :
    (bw D w b m n (i + 1) (j + 1) = bw D w b m n i j - D i j → i + 1 < m ∧ j + 1 < n ∧ bw D w b m n (i + 1) (j + 1) < 100000000) ∧
    (bw D w b m n (i + 1) j + w = bw D w b m n i j - D i j → i + 1 < m ∧ bw D w b m n (i + 1) j < 100000000) ∧
    (¬ bw D w b m n (i + 1) (j + 1) = bw D w b m n i j - D i j → ¬ bw D w b m n (i + 1) j + w = bw D w b m n i j - D i j → j + 1 < n ∧ bw D w b m n i (j + 1) < 100000000) := by
  have hd := hD i j h.1 h.2.2.1 h.2.1 h.2.2.2
  have a1 := bw_rng (b := b) hw hD _ (i + 1) (j + 1) (by omega) (by omega) rfl
  have a2 := bw_rng (b := b) hw hD _ (i + 1) j (by omega) (by omega) rfl
  have a3 := bw_rng (b := b) hw hD _ i (j + 1) (by omega) (by omega) rfl
  have b1 := least_rng (bw D w b m n (i + 1) j) (bw D w b m n i (j + 1))
  have b2 := least_rng (bw D w b m n (i + 1) (j + 1)) (least (bw D w b m n (i + 1) j) (bw D w b m n i (j + 1)) + w)
  have e := bw_in (D := D) (w := w) (b := b) (m := m) (n := n) (i := i) (j := j) ⟨h.2.2.1, h.2.2.2⟩
  have t : bwt D w b m n i j = least (bw D w b m n (i + 1) (j + 1)) (least (bw D w b m n (i + 1) j) (bw D w b m n i (j + 1)) + w) := if_neg hl
  have r : bw D w b m n i j = bwt D w b m n i j + D i j ∧ bwt D w b m n i j < 100000000 := by
    split at e
    · rename_i g
      exact ⟨e, g.2.2⟩
    · omega
  rw [t] at r
  refine ⟨fun g => ?_, fun g => ?_, fun g g2 => ?_⟩ <;> omega
def mat (S : Int → Int) : Prop := 0 < S 0 ∧ 0 < S 1 ∧ -S 2 ≤ S 0 - S 1 ∧ S 0 - S 1 ≤ S 2
abbrev spt (S : Int → Int) (k : Nat) : Int × Int := pth (unl S 0) (S 3) (S 2) (S 0) (S 1) k
/-- the pairs of the first best match: c of them -/
def mtc (S : Int → Int) (c : Int) (p q : Int → Int) : Prop := (¬ mat S ∧ c = 0) ∨ (mat S ∧ 1 ≤ c ∧ c ≤ 39 ∧ spt S (c - 1).toNat = (S 0 - 1, S 1 - 1) ∧ ∀ x, 0 ≤ x → x < c → p x = (spt S x.toNat).1 ∧ q x = (spt S x.toNat).2 ∧ 0 ≤ p x ∧ p x < S 0 ∧ 0 ≤ q x ∧ q x < S 1)
