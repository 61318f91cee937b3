/-- the least cost from (i, j) to the last pair (m - 1, n - 1) -/
def bw (D : Int → Int → Int) (w b m n i j : Int) : Int :=
  if h : m ≤ i ∨ n ≤ j then 100000000 else
    if -b ≤ i - j ∧ i - j ≤ b ∧ (if i = m - 1 ∧ j = n - 1 then 0 else least (bw D w b m n (i + 1) (j + 1)) (least (bw D w b m n (i + 1) j) (bw D w b m n i (j + 1)) + w)) < 100000000 then
      (if i = m - 1 ∧ j = n - 1 then 0 else least (bw D w b m n (i + 1) (j + 1)) (least (bw D w b m n (i + 1) j) (bw D w b m n i (j + 1)) + w)) + D i j
    else 100000000
termination_by ((m - i).toNat + (n - j).toNat)
decreasing_by all_goals omega
def bwt (D : Int → Int → Int) (w b m n i j : Int) : Int := if i = m - 1 ∧ j = n - 1 then 0 else least (bw D w b m n (i + 1) (j + 1)) (least (bw D w b m n (i + 1) j) (bw D w b m n i (j + 1)) + w)
theorem bw_out {D : Int → Int → Int} {w b m n i j : Int} (h : m ≤ i ∨ n ≤ j) : bw D w b m n i j = 100000000 := by
  rw [bw, dif_pos h]
theorem bw_in {D : Int → Int → Int} {w b m n i j : Int} (h : i < m ∧ j < n) : bw D w b m n i j = if -b ≤ i - j ∧ i - j ≤ b ∧ bwt D w b m n i j < 100000000 then bwt D w b m n i j + D i j else 100000000 := by
  rw [bw, dif_neg (by omega)]
  rfl
theorem bw_rng {D : Int → Int → Int} {w b m n : Int} (hw : 0 ≤ w ∧ w ≤ 50) (hD : ∀ i j, 0 ≤ i → i < m → 0 ≤ j → j < n → 0 ≤ D i j ∧ D i j ≤ 5184) : ∀ (N : Nat) (i j : Int), 0 ≤ i → 0 ≤ j → (m - i).toNat + (n - j).toNat = N → 0 ≤ bw D w b m n i j ∧ (bw D w b m n i j = 100000000 ∨ (i < m ∧ j < n ∧ bw D w b m n i j ≤ 5234 * (m - i + n - j))) := by
  intro N
  induction N using Nat.strongRecOn with
  | ind N ih =>
    intro i j hi hj hN
    by_cases h : m ≤ i ∨ n ≤ j
    · rw [bw_out h]
      omega
    · rw [bw_in (by omega)]
      have hd := hD i j hi (by omega) hj (by omega)
      have a1 := ih _ (by omega) (i + 1) (j + 1) (by omega) (by omega) rfl
      have a2 := ih _ (by omega) (i + 1) j (by omega) (by omega) rfl
      have a3 := ih _ (by omega) i (j + 1) (by omega) (by omega) rfl
      unfold bwt
      have b1 := least_rng (bw D w b m n (i + 1) j) (bw D w b m n i (j + 1))
      have b2 := least_rng (bw D w b m n (i + 1) (j + 1)) (least (bw D w b m n (i + 1) j) (bw D w b m n i (j + 1)) + w)
      by_cases e0 : i = m - 1 ∧ j = n - 1
      · rw [if_pos e0]
        split <;> omega
      · rw [if_neg e0]
        split <;> omega
/-- how many best ways there are from (i, j) to the end, a million at the most -/
def wy (D : Int → Int → Int) (w b m n i j : Int) : Int :=
  if h : m ≤ i ∨ n ≤ j then 0 else
    if i = m - 1 ∧ j = n - 1 then 1 else
      if (if bwt D w b m n i j < 100000000 ∧ bw D w b m n (i + 1) (j + 1) = bwt D w b m n i j then wy D w b m n (i + 1) (j + 1) else 0) + (if bwt D w b m n i j - w < 100000000 ∧ bw D w b m n (i + 1) j = bwt D w b m n i j - w then wy D w b m n (i + 1) j else 0) + (if bwt D w b m n i j - w < 100000000 ∧ bw D w b m n i (j + 1) = bwt D w b m n i j - w then wy D w b m n i (j + 1) else 0) < 1000000 then
        (if bwt D w b m n i j < 100000000 ∧ bw D w b m n (i + 1) (j + 1) = bwt D w b m n i j then wy D w b m n (i + 1) (j + 1) else 0) + (if bwt D w b m n i j - w < 100000000 ∧ bw D w b m n (i + 1) j = bwt D w b m n i j - w then wy D w b m n (i + 1) j else 0) + (if bwt D w b m n i j - w < 100000000 ∧ bw D w b m n i (j + 1) = bwt D w b m n i j - w then wy D w b m n i (j + 1) else 0)
      else 1000000
termination_by ((m - i).toNat + (n - j).toNat)
decreasing_by all_goals omega
def wo (D : Int → Int → Int) (w b m n i j c : Int) : Int := if c < 100000000 ∧ bw D w b m n i j = c then wy D w b m n i j else 0
theorem wy_in {D : Int → Int → Int} {w b m n i j : Int} (h : i < m ∧ j < n) : wy D w b m n i j = if i = m - 1 ∧ j = n - 1 then 1 else
    if wo D w b m n (i + 1) (j + 1) (bwt D w b m n i j) + wo D w b m n (i + 1) j (bwt D w b m n i j - w) + wo D w b m n i (j + 1) (bwt D w b m n i j - w) < 1000000 then
      wo D w b m n (i + 1) (j + 1) (bwt D w b m n i j) + wo D w b m n (i + 1) j (bwt D w b m n i j - w) + wo D w b m n i (j + 1) (bwt D w b m n i j - w) else 1000000 := by
  rw [wy, dif_neg (by omega)]
  rfl
theorem wy_rng {D : Int → Int → Int} {w b m n : Int} : ∀ (N : Nat) (i j : Int), (m - i).toNat + (n - j).toNat = N → 0 ≤ wy D w b m n i j ∧ wy D w b m n i j ≤ 1000000 := by
  intro N
  induction N using Nat.strongRecOn with
  | ind N ih =>
    intro i j hN
    by_cases h : m ≤ i ∨ n ≤ j
    · rw [wy, dif_pos h]
      omega
    · rw [wy_in (by omega)]
      have a1 := ih _ (by omega) (i + 1) (j + 1) rfl
      have a2 := ih _ (by omega) (i + 1) j rfl
      have a3 := ih _ (by omega) i (j + 1) rfl
      have w1 : ∀ x y c, 0 ≤ wy D w b m n x y → 0 ≤ wo D w b m n x y c := by
        intro x y c h
        unfold wo
        split <;> omega
      have w2 := w1 (i + 1) (j + 1) (bwt D w b m n i j) a1.1
      have w3 := w1 (i + 1) j (bwt D w b m n i j - w) a2.1
      have w4 := w1 i (j + 1) (bwt D w b m n i j - w) a3.1
      split
      · omega
      · split <;> omega
theorem wo_rng {D : Int → Int → Int} {w b m n i j c : Int} : 0 ≤ wo D w b m n i j c ∧ wo D w b m n i j c ≤ 1000000 := by
  have h := wy_rng (D := D) (w := w) (b := b) (m := m) (n := n) _ i j rfl
  unfold wo
  split <;> omega
theorem beh_bw {f : Int → Int} {D : Int → Int → Int} {w b m n i j : Int} (h : i < m → j < n → f (20 * i + j) = bw D w b m n i j) : behAt m n f i j = bw D w b m n i j := by
  unfold behAt
  split
  · exact h (by omega) (by omega)
  · rw [bw_out (by omega)]
def wayAt (m n : Int) (f W : Int → Int) (i j c : Int) : Int := if c < 100000000 ∧ behAt m n f i j = c then W (20 * i + j) else 0
theorem way_wo {f W : Int → Int} {D : Int → Int → Int} {w b m n i j c : Int} (h : behAt m n f i j = bw D w b m n i j) (h2 : i < m → j < n → W (20 * i + j) = wy D w b m n i j) : wayAt m n f W i j c = wo D w b m n i j c := by
  unfold wayAt wo
  rw [h]
  split
  · rename_i g
    by_cases g2 : i < m ∧ j < n
    · exact h2 g2.1 g2.2
    · have := bw_out (D := D) (w := w) (b := b) (m := m) (n := n) (i := i) (j := j) (by omega)
      omega
  · rfl
theorem c_X9_waysOf {d : Nat} {hp : xH} {v : Nat → Int} (hM : xat hp 63 = some (yMo v)) {S : Int → Int} (hS : xat hp 64 = some (yI 47 S)) (hl : 0 ≤ S 0 ∧ S 0 ≤ 20 ∧ 0 ≤ S 1 ∧ S 1 ≤ 20) {f W : Int → Int} (hA : xat hp 71 = some (yI 400 f)) (hW : xat hp 72 = some (yI 400 W)) {i j c : Int} (hi : 0 ≤ i ∧ i ≤ 20 ∧ 0 ≤ j ∧ j ≤ 20) (hc : -2147483648 ≤ c ∧ c ≤ 2147483647) (hr : -2147483648 ≤ behAt (S 0) (S 1) f i j ∧ behAt (S 0) (S 1) f i j ≤ 2147483647) (hd : 2 ≤ d) : Cv d 163 [.ref 63, yi i, yi j, yi c] hp (yP (some (yi (wayAt (S 0) (S 1) f W i j c))) hp) := by
  have hk : xtab 163 = (xc_163, 4, 1, []) := rfl
  obtain ⟨d, rfl⟩ : ∃ e, d = e + 1 := ⟨d - 1, by omega⟩
  show Ev (d + 1) 163 0 [(0, .ref 63), (1, yi i), (2, yi j), (3, yi c)] [] hp _
  refine E_run hk 2 (j' := 2) (lv' := [(0, .ref 63), (1, yi i), (2, yi j), (3, yi c)]) (st' := [yi 100000000, yi c]) (hp' := hp) rfl ?_
  refine Y_ic_ge (a := c) (b := 100000000) (by omega) hk rfl (fun g1 => ?_) (fun g1 => ?_)
  ·
    refine E_run hk 1 (j' := 19) (lv' := [(0, .ref 63), (1, yi i), (2, yi j), (3, yi c)]) (st' := [yi 0]) (hp' := hp) rfl ?_
    exact E_ret hk rfl rfl (li (by unfold wayAt; first | rw [if_pos (by omega)] | rw [if_neg (by omega)]))
  ·
    refine E_run hk 3 (j' := 6) (lv' := [(0, .ref 63), (1, yi i), (2, yi j), (3, yi c)]) (st' := [yi j, yi i, .ref 63]) (hp' := hp) rfl ?_
    refine Y_callP hk rfl (as := [.ref 63, yi i, yi j]) (rest := []) (v := some (yi (behAt (S 0) (S 1) f i j))) rfl rfl (Nat.le_of_ble_eq_true rfl) (rcv0 hM) (Nat.le_of_ble_eq_true rfl) (c_X9_behindOf (i := i) (j := j) (v := v) hM hS (by omega) hA (by omega) (hd := by omega)) ?_
    refine E_run hk 1 (j' := 8) (lv' := [(0, .ref 63), (1, yi i), (2, yi j), (3, yi c)]) (st' := [yi c, yi (behAt (S 0) (S 1) f i j)]) (hp' := hp) rfl ?_
    refine Y_ic_ne (a := (behAt (S 0) (S 1) f i j)) (b := c) (by omega) hk rfl (fun g2 => ?_) (fun g2 => ?_)
    ·
      refine E_run hk 1 (j' := 19) (lv' := [(0, .ref 63), (1, yi i), (2, yi j), (3, yi c)]) (st' := [yi 0]) (hp' := hp) rfl ?_
      exact E_ret hk rfl rfl (li (by unfold wayAt; first | rw [if_pos (by omega)] | rw [if_neg (by omega)]))
    ·
      have w0 : i < S 0 ∧ j < S 1 := by
        by_cases q : i < S 0 ∧ j < S 1
        · exact q
        · have q2 : behAt (S 0) (S 1) f i j = 100000000 := if_neg q
          omega
      refine E_run hk 1 (j' := 10) (lv' := [(0, .ref 63), (1, yi i), (2, yi j), (3, yi c)]) (st' := [.ref 63]) (hp' := hp) rfl ?_
      refine E_get (v := .ref 72) hk rfl hM rfl ?_
      refine E_run hk 2 (j' := 13) (lv' := [(0, .ref 63), (1, yi i), (2, yi j), (3, yi c)]) (st' := [yi i, yi 20, .ref 72]) (hp' := hp) rfl ?_
      refine Y_imul (a := 20) (b := i) hk rfl ?_
      refine E_run hk 1 (j' := 15) (lv' := [(0, .ref 63), (1, yi i), (2, yi j), (3, yi c)]) (st' := [yi j, yi (20 * i), .ref 72]) (hp' := hp) rfl ?_
      refine Y_iadd (a := (20 * i)) (b := j) hk rfl ?_
      refine Y_iald (a := ((20 * i) + j)) (by omega) (by decide) hk rfl hW ?_
      refine E_run hk 1 (j' := 19) (lv' := [(0, .ref 63), (1, yi i), (2, yi j), (3, yi c)]) (st' := [yi (W ((20 * i) + j))]) (hp' := hp) rfl ?_
      exact E_ret hk rfl rfl (li (by unfold wayAt; first | rw [if_pos (by omega)] | rw [if_neg (by omega)]))
