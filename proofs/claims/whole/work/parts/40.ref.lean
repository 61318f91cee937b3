/-! The reference's small methods. -/
/-- the reference's object -/
def yMo (v : Nat → Int) : xC := .inr (9, [yi (v 0), .ref 64, .ref 65, yi (v 3), .ref 66, yi (v 5), .ref 67, yi (v 7), yi (v 8), yi (v 9), .ref 68, yi (v 11), .ref 69, yi (v 13), .ref 70, .ref 71, .ref 72, .ref 73, .ref 74, .ref 75, yi (v 20), yi (v 21)])
def vup (v : Nat → Int) (k : Nat) (x : Int) : Nat → Int := fun q => if q = k then x else v q
theorem lb1 {P : Prop} {_ : Decidable P} {hp : xH} (h : P) : yP (some (yi (b2 P))) hp (.inl (some (yi 1))) hp := ⟨by rw [b2_t h], rfl⟩
theorem lb0 {P : Prop} {_ : Decidable P} {hp : xH} (h : ¬ P) : yP (some (yi (b2 P))) hp (.inl (some (yi 0))) hp := ⟨by rw [b2_f h], rfl⟩
theorem lbi {P P' : Prop} {_ : Decidable P} {_ : Decidable P'} {hp : xH} (h : P' ↔ P) : yP (some (yi (b2 P))) hp (.inl (some (yi (b2 P')))) hp := by
  refine ⟨?_, rfl⟩
  by_cases g : P
  · rw [b2_t g, b2_t (h.mpr g)]
  · rw [b2_f g, b2_f (fun x => g (h.mp x))]
theorem li {a b : Int} {hp : xH} (h : a = b) : yP (some (yi b)) hp (.inl (some (yi a))) hp := ⟨by rw [h], rfl⟩
def least (a b : Int) : Int := if a < b then a else b
/-- a table's number, or NEVER -/
def tabAt (f : Int → Int) (i j : Int) : Int := if 0 ≤ i ∧ 0 ≤ j then f (20 * i + j) else 100000000
def behAt (m n : Int) (f : Int → Int) (i j : Int) : Int := if i < m ∧ j < n then f (20 * i + j) else 100000000
theorem c_X9_in {d : Nat} {hp : xH} {v l m : Int} (hr : -2147483648 ≤ v ∧ v ≤ 2147483647 ∧ -2147483648 ≤ l ∧ l ≤ 2147483647 ∧ -2147483648 ≤ m ∧ m ≤ 2147483647) : Cv d 148 [yi v, yi l, yi m] hp (yP (some (yi (b2 (l ≤ v ∧ v ≤ m)))) hp) := by
  have hk : xtab 148 = (xc_148, 3, 2, []) := rfl
  show Ev d 148 0 [(0, yi v), (1, yi l), (2, yi m)] [] hp _
  refine E_run hk 2 (j' := 2) (lv' := [(0, yi v), (1, yi l), (2, yi m)]) (st' := [yi l, yi v]) (hp' := hp) rfl ?_
  refine Y_ic_lt (a := v) (b := l) (by omega) hk rfl (fun g1 => ?_) (fun g1 => ?_)
  ·
    refine E_run hk 1 (j' := 9) (lv' := [(0, yi v), (1, yi l), (2, yi m)]) (st' := [yi 0]) (hp' := hp) rfl ?_
    exact E_ret hk rfl rfl (lb0 (by omega))
  ·
    refine E_run hk 2 (j' := 5) (lv' := [(0, yi v), (1, yi l), (2, yi m)]) (st' := [yi m, yi v]) (hp' := hp) rfl ?_
    refine Y_ic_gt (a := v) (b := m) (by omega) hk rfl (fun g2 => ?_) (fun g2 => ?_)
    ·
      refine E_run hk 1 (j' := 9) (lv' := [(0, yi v), (1, yi l), (2, yi m)]) (st' := [yi 0]) (hp' := hp) rfl ?_
      exact E_ret hk rfl rfl (lb0 (by omega))
    ·
      refine E_run hk 2 (j' := 9) (lv' := [(0, yi v), (1, yi l), (2, yi m)]) (st' := [yi 1]) (hp' := hp) rfl ?_
      exact E_ret hk rfl rfl (lb1 (by omega))
theorem c_X9_isTune {d : Nat} {hp : xH} {t : Int} (hr : -2147483648 ≤ t ∧ t ≤ 2147483647) (hd : 1 ≤ d) : Cv d 149 [yi t] hp (yP (some (yi (b2 (0 ≤ t ∧ t ≤ 1)))) hp) := by
  have hk : xtab 149 = (xc_149, 1, 2, []) := rfl
  obtain ⟨d, rfl⟩ : ∃ e, d = e + 1 := ⟨d - 1, by omega⟩
  show Ev (d + 1) 149 0 [(0, yi t)] [] hp _
  refine E_run hk 3 (j' := 3) (lv' := [(0, yi t)]) (st' := [yi 1, yi 0, yi t]) (hp' := hp) rfl ?_
  refine Y_callP hk rfl (as := [yi t, yi 0, yi 1]) (rest := []) (v := some (yi (b2 (0 ≤ t ∧ t ≤ 1)))) rfl rfl (Nat.le_of_ble_eq_true rfl) rfl (Nat.le_of_ble_eq_true rfl) (c_X9_in (v := t) (l := 0) (m := 1) (by omega)) ?_
  exact E_ret hk rfl xret_b2 ⟨rfl, rfl⟩
theorem c_X9_isPitch {d : Nat} {hp : xH} {t : Int} (hr : -2147483648 ≤ t ∧ t ≤ 2147483647) (hd : 1 ≤ d) : Cv d 152 [yi t] hp (yP (some (yi (b2 (0 ≤ t ∧ t ≤ 60)))) hp) := by
  have hk : xtab 152 = (xc_152, 1, 2, []) := rfl
  obtain ⟨d, rfl⟩ : ∃ e, d = e + 1 := ⟨d - 1, by omega⟩
  show Ev (d + 1) 152 0 [(0, yi t)] [] hp _
  refine E_run hk 3 (j' := 3) (lv' := [(0, yi t)]) (st' := [yi 60, yi 0, yi t]) (hp' := hp) rfl ?_
  refine Y_callP hk rfl (as := [yi t, yi 0, yi 60]) (rest := []) (v := some (yi (b2 (0 ≤ t ∧ t ≤ 60)))) rfl rfl (Nat.le_of_ble_eq_true rfl) rfl (Nat.le_of_ble_eq_true rfl) (c_X9_in (v := t) (l := 0) (m := 60) (by omega)) ?_
  exact E_ret hk rfl xret_b2 ⟨rfl, rfl⟩
theorem c_X9_isNear {d : Nat} {hp : xH} {i j b : Int} (hr : -2147483648 ≤ (i - j) ∧ (i - j) ≤ 2147483647 ∧ -2147483648 ≤ (-b) ∧ (-b) ≤ 2147483647 ∧ -2147483648 ≤ b ∧ b ≤ 2147483647) (hd : 1 ≤ d) : Cv d 157 [yi i, yi j, yi b] hp (yP (some (yi (b2 (-b ≤ i - j ∧ i - j ≤ b)))) hp) := by
  have hk : xtab 157 = (xc_157, 3, 2, []) := rfl
  obtain ⟨d, rfl⟩ : ∃ e, d = e + 1 := ⟨d - 1, by omega⟩
  show Ev (d + 1) 157 0 [(0, yi i), (1, yi j), (2, yi b)] [] hp _
  refine E_run hk 2 (j' := 2) (lv' := [(0, yi i), (1, yi j), (2, yi b)]) (st' := [yi j, yi i]) (hp' := hp) rfl ?_
  refine Y_isub (a := i) (b := j) hk rfl ?_
  refine E_run hk 1 (j' := 4) (lv' := [(0, yi i), (1, yi j), (2, yi b)]) (st' := [yi b, yi (i - j)]) (hp' := hp) rfl ?_
  refine Y_ineg (a := b) hk rfl ?_
  refine E_run hk 1 (j' := 6) (lv' := [(0, yi i), (1, yi j), (2, yi b)]) (st' := [yi b, yi (-b), yi (i - j)]) (hp' := hp) rfl ?_
  refine Y_callP hk rfl (as := [yi (i - j), yi (-b), yi b]) (rest := []) (v := some (yi (b2 ((-b) ≤ (i - j) ∧ (i - j) ≤ b)))) rfl rfl (Nat.le_of_ble_eq_true rfl) rfl (Nat.le_of_ble_eq_true rfl) (c_X9_in (v := (i - j)) (l := (-b)) (m := b) (by omega)) ?_
  exact E_ret hk rfl xret_b2 ⟨rfl, rfl⟩
theorem c_X9_least {d : Nat} {hp : xH} {a b : Int} (hr : -2147483648 ≤ a ∧ a ≤ 2147483647 ∧ -2147483648 ≤ b ∧ b ≤ 2147483647) : Cv d 158 [yi a, yi b] hp (yP (some (yi (least a b))) hp) := by
  have hk : xtab 158 = (xc_158, 2, 1, []) := rfl
  show Ev d 158 0 [(0, yi a), (1, yi b)] [] hp _
  refine E_run hk 2 (j' := 2) (lv' := [(0, yi a), (1, yi b)]) (st' := [yi b, yi a]) (hp' := hp) rfl ?_
  refine Y_ic_ge (a := a) (b := b) (by omega) hk rfl (fun g1 => ?_) (fun g1 => ?_)
  ·
    refine E_run hk 1 (j' := 6) (lv' := [(0, yi a), (1, yi b)]) (st' := [yi b]) (hp' := hp) rfl ?_
    exact E_ret hk rfl rfl (li (by unfold least; first | rw [if_pos (by omega)] | rw [if_neg (by omega)]))
  ·
    refine E_run hk 2 (j' := 6) (lv' := [(0, yi a), (1, yi b)]) (st' := [yi a]) (hp' := hp) rfl ?_
    exact E_ret hk rfl rfl (li (by unfold least; first | rw [if_pos (by omega)] | rw [if_neg (by omega)]))
theorem c_X9_isThere {d : Nat} {hp : xH} {a b : Int} (hr : -2147483648 ≤ a ∧ a ≤ 2147483647 ∧ -2147483648 ≤ b ∧ b ≤ 2147483647) : Cv d 159 [yi a, yi b] hp (yP (some (yi (b2 (0 ≤ a ∧ 0 ≤ b)))) hp) := by
  have hk : xtab 159 = (xc_159, 2, 2, []) := rfl
  show Ev d 159 0 [(0, yi a), (1, yi b)] [] hp _
  refine E_run hk 1 (j' := 1) (lv' := [(0, yi a), (1, yi b)]) (st' := [yi a]) (hp' := hp) rfl ?_
  refine Y_if_lt (a := a) (by omega) hk rfl (fun g1 => ?_) (fun g1 => ?_)
  ·
    refine E_run hk 1 (j' := 7) (lv' := [(0, yi a), (1, yi b)]) (st' := [yi 0]) (hp' := hp) rfl ?_
    exact E_ret hk rfl rfl (lb0 (by omega))
  ·
    refine E_run hk 1 (j' := 3) (lv' := [(0, yi a), (1, yi b)]) (st' := [yi b]) (hp' := hp) rfl ?_
    refine Y_if_lt (a := b) (by omega) hk rfl (fun g2 => ?_) (fun g2 => ?_)
    ·
      refine E_run hk 1 (j' := 7) (lv' := [(0, yi a), (1, yi b)]) (st' := [yi 0]) (hp' := hp) rfl ?_
      exact E_ret hk rfl rfl (lb0 (by omega))
    ·
      refine E_run hk 2 (j' := 7) (lv' := [(0, yi a), (1, yi b)]) (st' := [yi 1]) (hp' := hp) rfl ?_
      exact E_ret hk rfl rfl (lb1 (by omega))
theorem c_X9_many {d : Nat} {hp : xH} {v : Nat → Int} (hM : xat hp 63 = some (yMo v)) {S : Int → Int} (hS : xat hp 64 = some (yI 47 S)) {t : Int} (ht : 0 ≤ t ∧ t ≤ 1) : Cv d 150 [.ref 63, yi t] hp (yP (some (yi (S (0 + t)))) hp) := by
  have hk : xtab 150 = (xc_150, 2, 1, []) := rfl
  show Ev d 150 0 [(0, .ref 63), (1, yi t)] [] hp _
  refine E_run hk 1 (j' := 1) (lv' := [(0, .ref 63), (1, yi t)]) (st' := [.ref 63]) (hp' := hp) rfl ?_
  refine E_get (v := .ref 64) hk rfl hM rfl ?_
  refine E_run hk 2 (j' := 4) (lv' := [(0, .ref 63), (1, yi t)]) (st' := [yi t, yi 0, .ref 64]) (hp' := hp) rfl ?_
  refine Y_iadd (a := 0) (b := t) hk rfl ?_
  refine Y_iald (a := (0 + t)) (by omega) (by decide) hk rfl hS ?_
  exact E_ret hk rfl rfl ⟨rfl, rfl⟩
theorem c_X9_of {d : Nat} {hp : xH} {v : Nat → Int} (hM : xat hp 63 = some (yMo v)) {S : Int → Int} (hS : xat hp 64 = some (yI 47 S)) {t i : Int} (ht : 0 ≤ t ∧ t ≤ 1 ∧ 0 ≤ i ∧ i ≤ 19) : Cv d 153 [.ref 63, yi t, yi i] hp (yP (some (yi (S (7 + 20 * t + i)))) hp) := by
  have hk : xtab 153 = (xc_153, 3, 1, []) := rfl
  show Ev d 153 0 [(0, .ref 63), (1, yi t), (2, yi i)] [] hp _
  refine E_run hk 1 (j' := 1) (lv' := [(0, .ref 63), (1, yi t), (2, yi i)]) (st' := [.ref 63]) (hp' := hp) rfl ?_
  refine E_get (v := .ref 64) hk rfl hM rfl ?_
  refine E_run hk 3 (j' := 5) (lv' := [(0, .ref 63), (1, yi t), (2, yi i)]) (st' := [yi t, yi 20, yi 7, .ref 64]) (hp' := hp) rfl ?_
  refine Y_imul (a := 20) (b := t) hk rfl ?_
  refine Y_iadd (a := 7) (b := (20 * t)) hk rfl ?_
  refine E_run hk 1 (j' := 8) (lv' := [(0, .ref 63), (1, yi t), (2, yi i)]) (st' := [yi i, yi (7 + (20 * t)), .ref 64]) (hp' := hp) rfl ?_
  refine Y_iadd (a := (7 + (20 * t))) (b := i) hk rfl ?_
  refine Y_iald (a := ((7 + (20 * t)) + i)) (by omega) (by decide) hk rfl hS ?_
  exact E_ret hk rfl rfl ⟨rfl, rfl⟩
theorem c_X9_aheadOf {d : Nat} {hp : xH} {v : Nat → Int} (hM : xat hp 63 = some (yMo v)) {f : Int → Int} (hA : xat hp 70 = some (yI 400 f)) {i j : Int} (hi : -1 ≤ i ∧ i < 20 ∧ -1 ≤ j ∧ j < 20) (hd : 1 ≤ d) : Cv d 160 [.ref 63, yi i, yi j] hp (yP (some (yi (tabAt f i j))) hp) := by
  have hk : xtab 160 = (xc_160, 3, 1, []) := rfl
  obtain ⟨d, rfl⟩ : ∃ e, d = e + 1 := ⟨d - 1, by omega⟩
  show Ev (d + 1) 160 0 [(0, .ref 63), (1, yi i), (2, yi j)] [] hp _
  refine E_run hk 2 (j' := 2) (lv' := [(0, .ref 63), (1, yi i), (2, yi j)]) (st' := [yi j, yi i]) (hp' := hp) rfl ?_
  refine Y_callP hk rfl (as := [yi i, yi j]) (rest := []) (v := some (yi (b2 (0 ≤ i ∧ 0 ≤ j)))) rfl rfl (Nat.le_of_ble_eq_true rfl) rfl (Nat.le_of_ble_eq_true rfl) (c_X9_isThere (a := i) (b := j) (by omega)) ?_
  refine Y_b_eq hk rfl (fun g1 => ?_) (fun g1 => ?_)
  ·
    refine E_run hk 1 (j' := 14) (lv' := [(0, .ref 63), (1, yi i), (2, yi j)]) (st' := [yi 100000000]) (hp' := hp) rfl ?_
    exact E_ret hk rfl rfl (li (by unfold tabAt; first | rw [if_pos (by omega)] | rw [if_neg (by omega)]))
  ·
    refine E_run hk 1 (j' := 5) (lv' := [(0, .ref 63), (1, yi i), (2, yi j)]) (st' := [.ref 63]) (hp' := hp) rfl ?_
    refine E_get (v := .ref 70) hk rfl hM rfl ?_
    refine E_run hk 2 (j' := 8) (lv' := [(0, .ref 63), (1, yi i), (2, yi j)]) (st' := [yi i, yi 20, .ref 70]) (hp' := hp) rfl ?_
    refine Y_imul (a := 20) (b := i) hk rfl ?_
    refine E_run hk 1 (j' := 10) (lv' := [(0, .ref 63), (1, yi i), (2, yi j)]) (st' := [yi j, yi (20 * i), .ref 70]) (hp' := hp) rfl ?_
    refine Y_iadd (a := (20 * i)) (b := j) hk rfl ?_
    refine Y_iald (a := ((20 * i) + j)) (by omega) (by decide) hk rfl hA ?_
    refine E_run hk 1 (j' := 14) (lv' := [(0, .ref 63), (1, yi i), (2, yi j)]) (st' := [yi (f ((20 * i) + j))]) (hp' := hp) rfl ?_
    exact E_ret hk rfl rfl (li (by unfold tabAt; first | rw [if_pos (by omega)] | rw [if_neg (by omega)]))
theorem c_X9_isBare {d : Nat} {hp : xH} {v : Nat → Int} (hM : xat hp 63 = some (yMo v)) {S : Int → Int} (hS : xat hp 64 = some (yI 47 S)) (hl : 0 ≤ S 0 ∧ S 0 ≤ 20 ∧ 0 ≤ S 1 ∧ S 1 ≤ 20) (hd : 1 ≤ d) : Cv d 176 [.ref 63] hp (yP (some (yi (b2 (S 0 = 0 ∨ S 1 = 0)))) hp) := by
  have hk : xtab 176 = (xc_176, 1, 2, []) := rfl
  obtain ⟨d, rfl⟩ : ∃ e, d = e + 1 := ⟨d - 1, by omega⟩
  show Ev (d + 1) 176 0 [(0, .ref 63)] [] hp _
  refine E_run hk 2 (j' := 2) (lv' := [(0, .ref 63)]) (st' := [yi 0, .ref 63]) (hp' := hp) rfl ?_
  refine Y_callP hk rfl (as := [.ref 63, yi 0]) (rest := []) (v := some (yi (S 0))) rfl rfl (Nat.le_of_ble_eq_true rfl) (rcv0 hM) (Nat.le_of_ble_eq_true rfl) (c_X9_many (t := 0) (v := v) hM hS (by omega)) ?_
  refine Y_if_eq (a := (S 0)) (by omega) hk rfl (fun g1 => ?_) (fun g1 => ?_)
  ·
    refine E_run hk 2 (j' := 11) (lv' := [(0, .ref 63)]) (st' := [yi 1]) (hp' := hp) rfl ?_
    exact E_ret hk rfl rfl (lb1 (by omega))
  ·
    refine E_run hk 2 (j' := 6) (lv' := [(0, .ref 63)]) (st' := [yi 1, .ref 63]) (hp' := hp) rfl ?_
    refine Y_callP hk rfl (as := [.ref 63, yi 1]) (rest := []) (v := some (yi (S 1))) rfl rfl (Nat.le_of_ble_eq_true rfl) (rcv0 hM) (Nat.le_of_ble_eq_true rfl) (c_X9_many (t := 1) (v := v) hM hS (by omega)) ?_
    refine Y_if_ne (a := (S 1)) (by omega) hk rfl (fun g2 => ?_) (fun g2 => ?_)
    ·
      refine E_run hk 1 (j' := 11) (lv' := [(0, .ref 63)]) (st' := [yi 0]) (hp' := hp) rfl ?_
      exact E_ret hk rfl rfl (lb0 (by omega))
    ·
      refine E_run hk 2 (j' := 11) (lv' := [(0, .ref 63)]) (st' := [yi 1]) (hp' := hp) rfl ?_
      exact E_ret hk rfl rfl (lb1 (by omega))
theorem c_X9_matches {d : Nat} {hp : xH} {v : Nat → Int} (hM : xat hp 63 = some (yMo v)) {S : Int → Int} (hS : xat hp 64 = some (yI 47 S)) (hl : 0 ≤ S 0 ∧ S 0 ≤ 20 ∧ 0 ≤ S 1 ∧ S 1 ≤ 20) (hb : 0 ≤ S 2 ∧ S 2 ≤ 20) (hd : 2 ≤ d) : Cv d 165 [.ref 63] hp (yP (some (yi (b2 (0 < S 0 ∧ 0 < S 1 ∧ -S 2 ≤ S 0 - S 1 ∧ S 0 - S 1 ≤ S 2)))) hp) := by
  have hk : xtab 165 = (xc_165, 1, 2, []) := rfl
  obtain ⟨d, rfl⟩ : ∃ e, d = e + 1 := ⟨d - 1, by omega⟩
  show Ev (d + 1) 165 0 [(0, .ref 63)] [] hp _
  refine E_run hk 2 (j' := 2) (lv' := [(0, .ref 63)]) (st' := [yi 0, .ref 63]) (hp' := hp) rfl ?_
  refine Y_callP hk rfl (as := [.ref 63, yi 0]) (rest := []) (v := some (yi (S 0))) rfl rfl (Nat.le_of_ble_eq_true rfl) (rcv0 hM) (Nat.le_of_ble_eq_true rfl) (c_X9_many (t := 0) (v := v) hM hS (by omega)) ?_
  refine Y_if_le (a := (S 0)) (by omega) hk rfl (fun g1 => ?_) (fun g1 => ?_)
  ·
    refine E_run hk 1 (j' := 23) (lv' := [(0, .ref 63)]) (st' := [yi 0]) (hp' := hp) rfl ?_
    exact E_ret hk rfl rfl (lb0 (by omega))
  ·
    refine E_run hk 2 (j' := 6) (lv' := [(0, .ref 63)]) (st' := [yi 1, .ref 63]) (hp' := hp) rfl ?_
    refine Y_callP hk rfl (as := [.ref 63, yi 1]) (rest := []) (v := some (yi (S 1))) rfl rfl (Nat.le_of_ble_eq_true rfl) (rcv0 hM) (Nat.le_of_ble_eq_true rfl) (c_X9_many (t := 1) (v := v) hM hS (by omega)) ?_
    refine Y_if_le (a := (S 1)) (by omega) hk rfl (fun g2 => ?_) (fun g2 => ?_)
    ·
      refine E_run hk 1 (j' := 23) (lv' := [(0, .ref 63)]) (st' := [yi 0]) (hp' := hp) rfl ?_
      exact E_ret hk rfl rfl (lb0 (by omega))
    ·
      refine E_run hk 2 (j' := 10) (lv' := [(0, .ref 63)]) (st' := [yi 0, .ref 63]) (hp' := hp) rfl ?_
      refine Y_callP hk rfl (as := [.ref 63, yi 0]) (rest := []) (v := some (yi (S 0))) rfl rfl (Nat.le_of_ble_eq_true rfl) (rcv0 hM) (Nat.le_of_ble_eq_true rfl) (c_X9_many (t := 0) (v := v) hM hS (by omega)) ?_
      refine E_run hk 2 (j' := 13) (lv' := [(0, .ref 63)]) (st' := [yi 1, .ref 63, yi (S 0)]) (hp' := hp) rfl ?_
      refine Y_callP hk rfl (as := [.ref 63, yi 1]) (rest := [yi (S 0)]) (v := some (yi (S 1))) rfl rfl (Nat.le_of_ble_eq_true rfl) (rcv0 hM) (Nat.le_of_ble_eq_true rfl) (c_X9_many (t := 1) (v := v) hM hS (by omega)) ?_
      refine E_run hk 1 (j' := 15) (lv' := [(0, .ref 63)]) (st' := [.ref 63, yi (S 1), yi (S 0)]) (hp' := hp) rfl ?_
      refine E_get (v := .ref 64) hk rfl hM rfl ?_
      refine E_run hk 1 (j' := 17) (lv' := [(0, .ref 63)]) (st' := [yi 2, .ref 64, yi (S 1), yi (S 0)]) (hp' := hp) rfl ?_
      refine Y_iald (a := 2) (by omega) (by decide) hk rfl hS ?_
      refine Y_callP hk rfl (as := [yi (S 0), yi (S 1), yi (S 2)]) (rest := []) (v := some (yi (b2 (-(S 2) ≤ (S 0) - (S 1) ∧ (S 0) - (S 1) ≤ (S 2))))) rfl rfl (Nat.le_of_ble_eq_true rfl) rfl (Nat.le_of_ble_eq_true rfl) (c_X9_isNear (i := (S 0)) (j := (S 1)) (b := (S 2)) (by omega) (hd := by omega)) ?_
      refine Y_b_eq hk rfl (fun g3 => ?_) (fun g3 => ?_)
      ·
        refine E_run hk 1 (j' := 23) (lv' := [(0, .ref 63)]) (st' := [yi 0]) (hp' := hp) rfl ?_
        exact E_ret hk rfl rfl (lb0 (by omega))
      ·
        refine E_run hk 2 (j' := 23) (lv' := [(0, .ref 63)]) (st' := [yi 1]) (hp' := hp) rfl ?_
        exact E_ret hk rfl rfl (lb1 (by omega))
theorem c_X9_behindOf {d : Nat} {hp : xH} {v : Nat → Int} (hM : xat hp 63 = some (yMo v)) {S : Int → Int} (hS : xat hp 64 = some (yI 47 S)) (hl : 0 ≤ S 0 ∧ S 0 ≤ 20 ∧ 0 ≤ S 1 ∧ S 1 ≤ 20) {f : Int → Int} (hA : xat hp 71 = some (yI 400 f)) {i j : Int} (hi : 0 ≤ i ∧ i ≤ 20 ∧ 0 ≤ j ∧ j ≤ 20) (hd : 1 ≤ d) : Cv d 162 [.ref 63, yi i, yi j] hp (yP (some (yi (behAt (S 0) (S 1) f i j))) hp) := by
  have hk : xtab 162 = (xc_162, 3, 1, []) := rfl
  obtain ⟨d, rfl⟩ : ∃ e, d = e + 1 := ⟨d - 1, by omega⟩
  show Ev (d + 1) 162 0 [(0, .ref 63), (1, yi i), (2, yi j)] [] hp _
  refine E_run hk 3 (j' := 3) (lv' := [(0, .ref 63), (1, yi i), (2, yi j)]) (st' := [yi 0, .ref 63, yi i]) (hp' := hp) rfl ?_
  refine Y_callP hk rfl (as := [.ref 63, yi 0]) (rest := [yi i]) (v := some (yi (S 0))) rfl rfl (Nat.le_of_ble_eq_true rfl) (rcv0 hM) (Nat.le_of_ble_eq_true rfl) (c_X9_many (t := 0) (v := v) hM hS (by omega)) ?_
  refine Y_ic_ge (a := i) (b := (S 0)) (by omega) hk rfl (fun g1 => ?_) (fun g1 => ?_)
  ·
    refine E_run hk 1 (j' := 20) (lv' := [(0, .ref 63), (1, yi i), (2, yi j)]) (st' := [yi 100000000]) (hp' := hp) rfl ?_
    exact E_ret hk rfl rfl (li (by unfold behAt; first | rw [if_pos (by omega)] | rw [if_neg (by omega)]))
  ·
    refine E_run hk 3 (j' := 8) (lv' := [(0, .ref 63), (1, yi i), (2, yi j)]) (st' := [yi 1, .ref 63, yi j]) (hp' := hp) rfl ?_
    refine Y_callP hk rfl (as := [.ref 63, yi 1]) (rest := [yi j]) (v := some (yi (S 1))) rfl rfl (Nat.le_of_ble_eq_true rfl) (rcv0 hM) (Nat.le_of_ble_eq_true rfl) (c_X9_many (t := 1) (v := v) hM hS (by omega)) ?_
    refine Y_ic_ge (a := j) (b := (S 1)) (by omega) hk rfl (fun g2 => ?_) (fun g2 => ?_)
    ·
      refine E_run hk 1 (j' := 20) (lv' := [(0, .ref 63), (1, yi i), (2, yi j)]) (st' := [yi 100000000]) (hp' := hp) rfl ?_
      exact E_ret hk rfl rfl (li (by unfold behAt; first | rw [if_pos (by omega)] | rw [if_neg (by omega)]))
    ·
      refine E_run hk 1 (j' := 11) (lv' := [(0, .ref 63), (1, yi i), (2, yi j)]) (st' := [.ref 63]) (hp' := hp) rfl ?_
      refine E_get (v := .ref 71) hk rfl hM rfl ?_
      refine E_run hk 2 (j' := 14) (lv' := [(0, .ref 63), (1, yi i), (2, yi j)]) (st' := [yi i, yi 20, .ref 71]) (hp' := hp) rfl ?_
      refine Y_imul (a := 20) (b := i) hk rfl ?_
      refine E_run hk 1 (j' := 16) (lv' := [(0, .ref 63), (1, yi i), (2, yi j)]) (st' := [yi j, yi (20 * i), .ref 71]) (hp' := hp) rfl ?_
      refine Y_iadd (a := (20 * i)) (b := j) hk rfl ?_
      refine Y_iald (a := ((20 * i) + j)) (by omega) (by decide) hk rfl hA ?_
      refine E_run hk 1 (j' := 20) (lv' := [(0, .ref 63), (1, yi i), (2, yi j)]) (st' := [yi (f ((20 * i) + j))]) (hp' := hp) rfl ?_
      exact E_ret hk rfl rfl (li (by unfold behAt; first | rw [if_pos (by omega)] | rw [if_neg (by omega)]))
theorem c_X9_canSlow {d : Nat} {hp : xH} {v : Nat → Int} (hM : xat hp 63 = some (yMo v)) {S : Int → Int} (hS : xat hp 64 = some (yI 47 S)) {t : Int} (ht : 0 ≤ t ∧ t ≤ 1) (hl : 0 ≤ S (0 + t) ∧ S (0 + t) ≤ 20) (hd : 1 ≤ d) : Cv d 182 [.ref 63, yi t] hp (yP (some (yi (b2 (2 * S (0 + t) ≤ 20)))) hp) := by
  have hk : xtab 182 = (xc_182, 2, 2, []) := rfl
  obtain ⟨d, rfl⟩ : ∃ e, d = e + 1 := ⟨d - 1, by omega⟩
  show Ev (d + 1) 182 0 [(0, .ref 63), (1, yi t)] [] hp _
  refine E_run hk 3 (j' := 3) (lv' := [(0, .ref 63), (1, yi t)]) (st' := [yi t, .ref 63, yi 2]) (hp' := hp) rfl ?_
  refine Y_callP hk rfl (as := [.ref 63, yi t]) (rest := [yi 2]) (v := some (yi (S (0 + t)))) rfl rfl (Nat.le_of_ble_eq_true rfl) (rcv0 hM) (Nat.le_of_ble_eq_true rfl) (c_X9_many (t := t) (v := v) hM hS (by omega)) ?_
  refine Y_imul (a := 2) (b := (S (0 + t))) hk rfl ?_
  refine E_run hk 1 (j' := 6) (lv' := [(0, .ref 63), (1, yi t)]) (st' := [yi 20, yi (2 * (S (0 + t)))]) (hp' := hp) rfl ?_
  refine Y_ic_gt (a := (2 * (S (0 + t)))) (b := 20) (by omega) hk rfl (fun g1 => ?_) (fun g1 => ?_)
  ·
    refine E_run hk 1 (j' := 10) (lv' := [(0, .ref 63), (1, yi t)]) (st' := [yi 0]) (hp' := hp) rfl ?_
    exact E_ret hk rfl rfl (lb0 (by omega))
  ·
    refine E_run hk 2 (j' := 10) (lv' := [(0, .ref 63), (1, yi t)]) (st' := [yi 1]) (hp' := hp) rfl ?_
    exact E_ret hk rfl rfl (lb1 (by omega))
