/-! The same cost from the beginning and from the end; one first best match. -/
section DU
variable {D : Int → Int → Int} {w b m n : Int}
theorem fw_le (hw : 0 ≤ w ∧ w ≤ 50) (hm : m ≤ 20 ∧ n ≤ 20) (hD : ∀ i j, 0 ≤ i → i < m → 0 ≤ j → j < n → 0 ≤ D i j ∧ D i j ≤ 5184) {i j i' j' p : Int} (h : 0 ≤ i ∧ 0 ≤ j ∧ i' < m ∧ j' < n) (hs : (i' = i + 1 ∧ j' = j + 1 ∧ p = 0) ∨ (i' = i + 1 ∧ j' = j ∧ p = w) ∨ (i' = i ∧ j' = j + 1 ∧ p = w)) (hb : -b ≤ i' - j' ∧ i' - j' ≤ b) (hf : fw D w b i j < 100000000) :
    fw D w b i' j' ≤ fw D w b i j + p + D i' j' ∧ fw D w b i' j' < 100000000 := by
  have hd := hD i' j' (by omega) h.2.2.1 (by omega) h.2.2.2
  have r0 := fw_rng (b := b) hw hD _ i j (by omega) (by omega) rfl
  have s1 := least_rng (fw D w b (i' - 1) j') (fw D w b i' (j' - 1))
  have s2 := least_rng (fw D w b (i' - 1) (j' - 1)) (least (fw D w b (i' - 1) j') (fw D w b i' (j' - 1)) + w)
  have ff : fwf D w b i' j' = least (fw D w b (i' - 1) (j' - 1)) (least (fw D w b (i' - 1) j') (fw D w b i' (j' - 1)) + w) := if_neg (by omega)
  have key : fwf D w b i' j' ≤ fw D w b i j + p := by
    rw [ff]
    rcases hs with ⟨rfl, rfl, rfl⟩ | ⟨rfl, rfl, rfl⟩ | ⟨rfl, rfl, rfl⟩
    · rw [show i + 1 - 1 = i by omega, show j + 1 - 1 = j by omega] at *
      omega
    · rw [show i + 1 - 1 = i by omega] at *
      omega
    · rw [show j + 1 - 1 = j by omega] at *
      omega
  have e : fw D w b i' j' = if -b ≤ i' - j' ∧ i' - j' ≤ b ∧ fwf D w b i' j' < 100000000 then fwf D w b i' j' + D i' j' else 100000000 := fw_in (by omega)
  rw [if_pos ⟨hb.1, hb.2, by omega⟩] at e
  omega
theorem bw_le (hw : 0 ≤ w ∧ w ≤ 50) (hm : m ≤ 20 ∧ n ≤ 20) (hD : ∀ i j, 0 ≤ i → i < m → 0 ≤ j → j < n → 0 ≤ D i j ∧ D i j ≤ 5184) {i j i' j' p : Int} (h : 0 ≤ i ∧ 0 ≤ j ∧ i' < m ∧ j' < n) (hs : (i' = i + 1 ∧ j' = j + 1 ∧ p = 0) ∨ (i' = i + 1 ∧ j' = j ∧ p = w) ∨ (i' = i ∧ j' = j + 1 ∧ p = w)) (hb : -b ≤ i - j ∧ i - j ≤ b) (hf : bw D w b m n i' j' < 100000000) :
    bw D w b m n i j ≤ bw D w b m n i' j' + p + D i j ∧ bw D w b m n i j < 100000000 := by
  have hd := hD i j (by omega) (by omega) (by omega) (by omega)
  have r0 := bw_rng (b := b) hw hD _ i' j' (by omega) (by omega) rfl
  have s1 := least_rng (bw D w b m n (i + 1) j) (bw D w b m n i (j + 1))
  have s2 := least_rng (bw D w b m n (i + 1) (j + 1)) (least (bw D w b m n (i + 1) j) (bw D w b m n i (j + 1)) + w)
  have ff : bwt D w b m n i j = least (bw D w b m n (i + 1) (j + 1)) (least (bw D w b m n (i + 1) j) (bw D w b m n i (j + 1)) + w) := if_neg (by omega)
  have key : bwt D w b m n i j ≤ bw D w b m n i' j' + p := by
    rw [ff]
    rcases hs with ⟨rfl, rfl, rfl⟩ | ⟨rfl, rfl, rfl⟩ | ⟨rfl, rfl, rfl⟩ <;> omega
  have e : bw D w b m n i j = if -b ≤ i - j ∧ i - j ≤ b ∧ bwt D w b m n i j < 100000000 then bwt D w b m n i j + D i j else 100000000 := bw_in (by omega)
  rw [if_pos ⟨hb.1, hb.2, by omega⟩] at e
  omega
theorem fw_inb {i j : Int} (h : 0 ≤ i ∧ 0 ≤ j) (hf : fw D w b i j < 100000000) : -b ≤ i - j ∧ i - j ≤ b ∧ fwf D w b i j < 100000000 ∧ fw D w b i j = fwf D w b i j + D i j := by
  have e : fw D w b i j = if -b ≤ i - j ∧ i - j ≤ b ∧ fwf D w b i j < 100000000 then fwf D w b i j + D i j else 100000000 := fw_in h
  by_cases q : -b ≤ i - j ∧ i - j ≤ b ∧ fwf D w b i j < 100000000
  · rw [if_pos q] at e
    exact ⟨q.1, q.2.1, q.2.2, e⟩
  · rw [if_neg q] at e
    omega
theorem bw_inb {i j : Int} (h : i < m ∧ j < n) (hf : bw D w b m n i j < 100000000) : -b ≤ i - j ∧ i - j ≤ b ∧ bwt D w b m n i j < 100000000 ∧ bw D w b m n i j = bwt D w b m n i j + D i j := by
  have e : bw D w b m n i j = if -b ≤ i - j ∧ i - j ≤ b ∧ bwt D w b m n i j < 100000000 then bwt D w b m n i j + D i j else 100000000 := bw_in h
  by_cases q : -b ≤ i - j ∧ i - j ≤ b ∧ bwt D w b m n i j < 100000000
  · rw [if_pos q] at e
    exact ⟨q.1, q.2.1, q.2.2, e⟩
  · rw [if_neg q] at e
    omega
theorem dual1 (hw : 0 ≤ w ∧ w ≤ 50) (hm : m ≤ 20 ∧ n ≤ 20) (hD : ∀ i j, 0 ≤ i → i < m → 0 ≤ j → j < n → 0 ≤ D i j ∧ D i j ≤ 5184) : ∀ (N : Nat) (i j : Int), 0 ≤ i → 0 ≤ j → i < m → j < n → (m - i).toNat + (n - j).toNat = N → fw D w b i j < 100000000 → bw D w b m n i j < 100000000 → fw D w b (m - 1) (n - 1) ≤ fw D w b i j + bw D w b m n i j - D i j := by
  intro N
  induction N using Nat.strongRecOn with
  | ind N ih =>
    intro i j hi hj hi2 hj2 hN hf hb
    obtain ⟨b1, b2, b3, b4⟩ := bw_inb ⟨hi2, hj2⟩ hb
    by_cases l : i = m - 1 ∧ j = n - 1
    · have t : bwt D w b m n i j = 0 := if_pos l
      obtain ⟨l1, l2⟩ := l
      subst l1
      subst l2
      omega
    · have t : bwt D w b m n i j = least (bw D w b m n (i + 1) (j + 1)) (least (bw D w b m n (i + 1) j) (bw D w b m n i (j + 1)) + w) := if_neg l
      have s1 := least_rng (bw D w b m n (i + 1) j) (bw D w b m n i (j + 1))
      have s2 := least_rng (bw D w b m n (i + 1) (j + 1)) (least (bw D w b m n (i + 1) j) (bw D w b m n i (j + 1)) + w)
      have go : ∀ i' j' p, (i' = i + 1 ∧ j' = j + 1 ∧ p = 0) ∨ (i' = i + 1 ∧ j' = j ∧ p = w) ∨ (i' = i ∧ j' = j + 1 ∧ p = w) → bw D w b m n i' j' < 100000000 → bwt D w b m n i j = bw D w b m n i' j' + p → fw D w b (m - 1) (n - 1) ≤ fw D w b i j + bw D w b m n i j - D i j := by
        intro i' j' p hs hb' hp
        have hin : i' < m ∧ j' < n := by
          by_cases z : m ≤ i' ∨ n ≤ j'
          · rw [bw_out z] at hb'
            omega
          · omega
        obtain ⟨c1, c2, c3, c4⟩ := bw_inb hin hb'
        have st := fw_le hw hm hD (i := i) (j := j) ⟨hi, hj, hin.1, hin.2⟩ hs ⟨c1, c2⟩ hf
        have r := ih _ (by omega) i' j' (by omega) (by omega) hin.1 hin.2 rfl st.2 hb'
        omega
      rcases s2 with ⟨e2, -⟩ | ⟨e2, -⟩
      · exact go (i + 1) (j + 1) 0 (Or.inl ⟨rfl, rfl, rfl⟩) (by omega) (by omega)
      · rcases s1 with ⟨e1, -⟩ | ⟨e1, -⟩
        · exact go (i + 1) j w (Or.inr (Or.inl ⟨rfl, rfl, rfl⟩)) (by omega) (by omega)
        · exact go i (j + 1) w (Or.inr (Or.inr ⟨rfl, rfl, rfl⟩)) (by omega) (by omega)
theorem dual2 (hw : 0 ≤ w ∧ w ≤ 50) (hm : m ≤ 20 ∧ n ≤ 20) (hD : ∀ i j, 0 ≤ i → i < m → 0 ≤ j → j < n → 0 ≤ D i j ∧ D i j ≤ 5184) : ∀ (N : Nat) (i j : Int), 0 ≤ i → 0 ≤ j → i < m → j < n → (i + 1).toNat + (j + 1).toNat = N → fw D w b i j < 100000000 → bw D w b m n i j < 100000000 → bw D w b m n 0 0 ≤ fw D w b i j + bw D w b m n i j - D i j := by
  intro N
  induction N using Nat.strongRecOn with
  | ind N ih =>
    intro i j hi hj hi2 hj2 hN hf hb
    obtain ⟨b1, b2, b3, b4⟩ := fw_inb ⟨hi, hj⟩ hf
    by_cases l : i = 0 ∧ j = 0
    · have t : fwf D w b i j = 0 := if_pos l
      obtain ⟨l1, l2⟩ := l
      subst l1
      subst l2
      omega
    · have t : fwf D w b i j = least (fw D w b (i - 1) (j - 1)) (least (fw D w b (i - 1) j) (fw D w b i (j - 1)) + w) := if_neg l
      have s1 := least_rng (fw D w b (i - 1) j) (fw D w b i (j - 1))
      have s2 := least_rng (fw D w b (i - 1) (j - 1)) (least (fw D w b (i - 1) j) (fw D w b i (j - 1)) + w)
      have go : ∀ i' j' p, (i = i' + 1 ∧ j = j' + 1 ∧ p = 0) ∨ (i = i' + 1 ∧ j = j' ∧ p = w) ∨ (i = i' ∧ j = j' + 1 ∧ p = w) → fw D w b i' j' < 100000000 → fwf D w b i j = fw D w b i' j' + p → bw D w b m n 0 0 ≤ fw D w b i j + bw D w b m n i j - D i j := by
        intro i' j' p hs hf' hp
        have hin : 0 ≤ i' ∧ 0 ≤ j' := by
          by_cases z : i' < 0 ∨ j' < 0
          · rw [fw_out z] at hf'
            omega
          · omega
        obtain ⟨c1, c2, c3, c4⟩ := fw_inb hin hf'
        have st := bw_le hw hm hD (i := i') (j := j') ⟨hin.1, hin.2, hi2, hj2⟩ hs ⟨c1, c2⟩ hb
        have r := ih _ (by omega) i' j' hin.1 hin.2 (by omega) (by omega) rfl hf' st.2
        omega
      rcases s2 with ⟨e2, -⟩ | ⟨e2, -⟩
      · exact go (i - 1) (j - 1) 0 (Or.inl ⟨by omega, by omega, rfl⟩) (by omega) (by omega)
      · rcases s1 with ⟨e1, -⟩ | ⟨e1, -⟩
        · exact go (i - 1) j w (Or.inr (Or.inl ⟨by omega, rfl, rfl⟩)) (by omega) (by omega)
        · exact go i (j - 1) w (Or.inr (Or.inr ⟨rfl, by omega, rfl⟩)) (by omega) (by omega)
end DU
/-- the cost from the end is the cost -/
theorem bw_cst {S : Int → Int} (hz : 0 ≤ S 0 ∧ S 0 ≤ 20 ∧ 0 ≤ S 1 ∧ S 1 ≤ 20 ∧ 0 ≤ S 2 ∧ S 2 ≤ 20 ∧ 0 ≤ S 3 ∧ S 3 ≤ 50 ∧ 0 ≤ S 4 ∧ S 4 ≤ 3) (h0 : ∀ q, 0 ≤ q → q < S 0 → 0 ≤ S (7 + q) ∧ S (7 + q) ≤ 60) (h1 : ∀ q, 0 ≤ q → q < S 1 → 0 ≤ S (27 + q) ∧ S (27 + q) ≤ 60) (hm : 0 < S 0 ∧ 0 < S 1 ∧ -S 2 ≤ S 0 - S 1 ∧ S 0 - S 1 ≤ S 2) : bw (unl S 0) (S 3) (S 2) (S 0) (S 1) 0 0 = cst S 0 (S 2) := by
  have hD : ∀ i j, 0 ≤ i → i < S 0 → 0 ≤ j → j < S 1 → 0 ≤ unl S 0 i j ∧ unl S 0 i j ≤ 5184 := fun i j a1 a2 a3 a4 => unl_rng hz h0 h1 (by omega) a1 a2 a3 a4
  have f1 := fw_fin (D := unl S 0) (w := S 3) (b := S 2) (m := S 0) (n := S 1) (by omega) (by omega) (by omega) hD _ (S 0 - 1) (S 1 - 1) (by omega) (by omega) (by omega) (by omega) (by omega) (by omega) rfl
  have f0 := fw_fin (D := unl S 0) (w := S 3) (b := S 2) (m := S 0) (n := S 1) (by omega) (by omega) (by omega) hD _ 0 0 (by omega) (by omega) (by omega) (by omega) (by omega) (by omega) rfl
  have g0 := bw_fin (D := unl S 0) (w := S 3) (b := S 2) (m := S 0) (n := S 1) (by omega) (by omega) hD (by omega) _ 0 0 (by omega) (by omega) (by omega) (by omega) (by omega) (by omega) rfl
  have g1 := bw_fin (D := unl S 0) (w := S 3) (b := S 2) (m := S 0) (n := S 1) (by omega) (by omega) hD (by omega) _ (S 0 - 1) (S 1 - 1) (by omega) (by omega) (by omega) (by omega) (by omega) (by omega) rfl
  have d1 := dual1 (D := unl S 0) (w := S 3) (b := S 2) (m := S 0) (n := S 1) (by omega) (by omega) hD _ 0 0 (by omega) (by omega) (by omega) (by omega) rfl f0 g0
  have d2 := dual2 (D := unl S 0) (w := S 3) (b := S 2) (m := S 0) (n := S 1) (by omega) (by omega) hD _ (S 0 - 1) (S 1 - 1) (by omega) (by omega) (by omega) (by omega) rfl f1 g1
  have e0 := fw_inb (D := unl S 0) (w := S 3) (b := S 2) (i := 0) (j := 0) (by omega) f0
  have e1 := bw_inb (D := unl S 0) (w := S 3) (b := S 2) (m := S 0) (n := S 1) (i := S 0 - 1) (j := S 1 - 1) (by omega) g1
  have t0 : fwf (unl S 0) (S 3) (S 2) 0 0 = 0 := if_pos ⟨rfl, rfl⟩
  have t1 : bwt (unl S 0) (S 3) (S 2) (S 0) (S 1) (S 0 - 1) (S 1 - 1) = 0 := if_pos ⟨rfl, rfl⟩
  have c : cst S 0 (S 2) = fw (unl S 0) (S 3) (S 2) (S 0 - 1) (S 1 - 1) := if_neg (by omega)
  rw [c]
  omega
theorem spt_end {S : Int → Int} {k : Nat} (h : spt S k = (S 0 - 1, S 1 - 1)) : ¬ ((spt S (k + 1)).1 < S 0 ∧ (spt S (k + 1)).2 < S 1) := by
  have e : spt S (k + 1) = stp (unl S 0) (S 3) (S 2) (S 0) (S 1) (spt S k) := rfl
  rw [e, h]
  unfold stp
  split
  · show ¬ (S 0 - 1 + 1 < S 0 ∧ S 1 - 1 + 1 < S 1)
    omega
  · split
    · show ¬ (S 0 - 1 + 1 < S 0 ∧ S 1 - 1 < S 1)
      omega
    · show ¬ (S 0 - 1 < S 0 ∧ S 1 - 1 + 1 < S 1)
      omega
theorem mtc_uni {S p q p' q' : Int → Int} {c c' : Int} (h : mtc S c p q) (h' : mtc S c' p' q') : c = c' ∧ ∀ x, 0 ≤ x → x < c → p x = p' x ∧ q x = q' x := by
  rcases h with ⟨a, e⟩ | ⟨a, a1, a2, a3, a4⟩
  · rcases h' with ⟨-, e'⟩ | ⟨a', -⟩
    · exact ⟨by omega, fun x x1 x2 => absurd x1 (by omega)⟩
    · exact absurd a' a
  · rcases h' with ⟨a', -⟩ | ⟨-, b1, b2, b3, b4⟩
    · exact absurd a a'
    · have ce : c = c' := by
        rcases (by omega : c < c' ∨ c = c' ∨ c' < c) with z | z | z
        · have w := b4 c (by omega) z
          have w2 := spt_end a3
          rw [show (c - 1).toNat + 1 = c.toNat by omega] at w2
          omega
        · exact z
        · have w := a4 c' (by omega) z
          have w2 := spt_end b3
          rw [show (c' - 1).toNat + 1 = c'.toNat by omega] at w2
          omega
      refine ⟨ce, fun x x1 x2 => ?_⟩
      have w1 := a4 x x1 x2
      have w2 := b4 x x1 (by omega)
      exact ⟨w1.1.trans w2.1.symm, w1.2.1.trans w2.2.1.symm⟩
