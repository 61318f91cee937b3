/-! The class: its grids. A grid is the object a, its cells the array a + 1. -/
/-- a grid's number, or FAR -/
def gat (f : Int → Int) (i j : Int) : Int := if 0 ≤ i ∧ i < 20 ∧ 0 ≤ j ∧ j < 20 then f (20 * i + j) else 1000000000
def far (x : Int) : Int := if x < 100000000 then x else 1000000000
theorem far_rng (x : Int) : (far x = x ∧ x < 100000000) ∨ (far x = 1000000000 ∧ 100000000 ≤ x) := by
  unfold far
  split
  · exact Or.inl ⟨rfl, by assumption⟩
  · exact Or.inr ⟨rfl, by omega⟩
theorem gat_fw {f : Int → Int} {D : Int → Int → Int} {w b i j : Int} (hi : i < 20 ∧ j < 20) (h : 0 ≤ i → 0 ≤ j → f (20 * i + j) = far (fw D w b i j)) : gat f i j = far (fw D w b i j) := by
  unfold gat
  by_cases g : 0 ≤ i ∧ 0 ≤ j
  · rw [if_pos (by omega)]
    exact h g.1 g.2
  · rw [if_neg (by omega), fw_out (by omega)]
    rfl
theorem gat_bw {f : Int → Int} {D : Int → Int → Int} {w b m n i j : Int} (hi : 0 ≤ i ∧ 0 ≤ j ∧ m ≤ 20 ∧ n ≤ 20) (h : i < m → j < n → f (20 * i + j) = far (bw D w b m n i j)) (hF : m ≤ i ∨ n ≤ j → i < 20 → j < 20 → f (20 * i + j) = 1000000000) : gat f i j = far (bw D w b m n i j) := by
  unfold gat
  by_cases g : i < m ∧ j < n
  · rw [if_pos (by omega)]
    exact h g.1 g.2
  · rw [bw_out (by omega)]
    split
    · exact hF (by omega) (by omega) (by omega)
    · rfl
theorem fw_band {D : Int → Int → Int} {w b i j : Int} (h : i < 0 ∨ j < 0 ∨ i - j < -b ∨ b < i - j) : fw D w b i j = 100000000 := by
  by_cases g : 0 ≤ i ∧ 0 ≤ j
  · rw [fw_in g, if_neg (by omega)]
  · exact fw_out (by omega)
theorem bw_band {D : Int → Int → Int} {w b m n i j : Int} (h : m ≤ i ∨ n ≤ j ∨ i - j < -b ∨ b < i - j) : bw D w b m n i j = 100000000 := by
  by_cases g : i < m ∧ j < n
  · rw [bw_in g, if_neg (by omega)]
  · exact bw_out (by omega)
theorem c_X0_at {d : Nat} {hp : xH} {a p : Nat} (hap : 28 ≤ a ∧ 28 ≤ p ∧ a ≠ p) {k : Int → Int} (ha : xat hp a = some (.inr (1, [.ref p]))) (hk1 : xat hp p = some (yI 400 k)) {i j : Int} (hi : -1 ≤ i ∧ i ≤ 20 ∧ -1 ≤ j ∧ j ≤ 20) : Cv d 1 [.ref a, yi i, yi j] hp (yP (some (yi (gat k i j))) hp) := by
  have hk : xtab 1 = (xc_1, 5, 1, []) := rfl
  show Ev d 1 0 [(0, .ref a), (1, yi i), (2, yi j)] [] hp _
  refine E_run hk 2 (j' := 2) (lv' := [(0, .ref a), (1, yi i), (2, yi j)]) (st' := [yi 20, yi i]) (hp' := hp) rfl ?_
  refine Y_imul (a := i) (b := 20) hk rfl ?_
  refine E_run hk 1 (j' := 4) (lv' := [(0, .ref a), (1, yi i), (2, yi j)]) (st' := [yi j, yi (i * 20)]) (hp' := hp) rfl ?_
  refine Y_iadd (a := (i * 20)) (b := j) hk rfl ?_
  refine E_run hk 2 (j' := 7) (lv' := [(3, yi ((i * 20) + j)), (0, .ref a), (1, yi i), (2, yi j)]) (st' := [yi j]) (hp' := hp) rfl ?_
  refine Y_if_lt (a := j) (by omega) hk rfl (fun g1 => ?_) (fun g1 => ?_)
  ·
    refine E_run hk 3 (j' := 16) (lv' := [(4, yi 0), (3, yi ((i * 20) + j)), (0, .ref a), (1, yi i), (2, yi j)]) (st' := [yi 0]) (hp' := hp) rfl ?_
    refine Y_if_eq (a := 0) (by omega) hk rfl (fun g2 => ?_) (fun g2 => ?_)
    ·
      refine E_run hk 1 (j' := 30) (lv' := [(4, yi 0), (3, yi ((i * 20) + j)), (0, .ref a), (1, yi i), (2, yi j)]) (st' := [yi 1000000000]) (hp' := hp) rfl ?_
      exact E_ret hk rfl rfl (li (by unfold gat; first | (rw [if_pos (by omega), Int.mul_comm]; done) | (rw [if_neg (by omega)]; done)))
    · exfalso; omega
  ·
    refine E_run hk 2 (j' := 10) (lv' := [(3, yi ((i * 20) + j)), (0, .ref a), (1, yi i), (2, yi j)]) (st' := [yi 20, yi j]) (hp' := hp) rfl ?_
    refine Y_ic_ge (a := j) (b := 20) (by omega) hk rfl (fun g3 => ?_) (fun g3 => ?_)
    ·
      refine E_run hk 3 (j' := 16) (lv' := [(4, yi 0), (3, yi ((i * 20) + j)), (0, .ref a), (1, yi i), (2, yi j)]) (st' := [yi 0]) (hp' := hp) rfl ?_
      refine Y_if_eq (a := 0) (by omega) hk rfl (fun g4 => ?_) (fun g4 => ?_)
      ·
        refine E_run hk 1 (j' := 30) (lv' := [(4, yi 0), (3, yi ((i * 20) + j)), (0, .ref a), (1, yi i), (2, yi j)]) (st' := [yi 1000000000]) (hp' := hp) rfl ?_
        exact E_ret hk rfl rfl (li (by unfold gat; first | (rw [if_pos (by omega), Int.mul_comm]; done) | (rw [if_neg (by omega)]; done)))
      · exfalso; omega
    ·
      refine E_run hk 4 (j' := 16) (lv' := [(4, yi 1), (3, yi ((i * 20) + j)), (0, .ref a), (1, yi i), (2, yi j)]) (st' := [yi 1]) (hp' := hp) rfl ?_
      refine Y_if_eq (a := 1) (by omega) hk rfl (fun g5 => ?_) (fun g5 => ?_)
      · exfalso; omega
      ·
        refine E_run hk 1 (j' := 18) (lv' := [(4, yi 1), (3, yi ((i * 20) + j)), (0, .ref a), (1, yi i), (2, yi j)]) (st' := [yi ((i * 20) + j)]) (hp' := hp) rfl ?_
        refine Y_if_lt (a := ((i * 20) + j)) (by omega) hk rfl (fun g6 => ?_) (fun g6 => ?_)
        ·
          refine E_run hk 1 (j' := 30) (lv' := [(4, yi 1), (3, yi ((i * 20) + j)), (0, .ref a), (1, yi i), (2, yi j)]) (st' := [yi 1000000000]) (hp' := hp) rfl ?_
          exact E_ret hk rfl rfl (li (by unfold gat; first | (rw [if_pos (by omega), Int.mul_comm]; done) | (rw [if_neg (by omega)]; done)))
        ·
          refine E_run hk 2 (j' := 21) (lv' := [(4, yi 1), (3, yi ((i * 20) + j)), (0, .ref a), (1, yi i), (2, yi j)]) (st' := [.ref a, yi ((i * 20) + j)]) (hp' := hp) rfl ?_
          refine E_get (v := .ref p) hk rfl ha rfl ?_
          refine Y_alen (by decide) hk rfl hk1 ?_
          refine Y_ic_ge (a := ((i * 20) + j)) (b := 400) (by omega) hk rfl (fun g7 => ?_) (fun g7 => ?_)
          ·
            refine E_run hk 1 (j' := 30) (lv' := [(4, yi 1), (3, yi ((i * 20) + j)), (0, .ref a), (1, yi i), (2, yi j)]) (st' := [yi 1000000000]) (hp' := hp) rfl ?_
            exact E_ret hk rfl rfl (li (by unfold gat; first | (rw [if_pos (by omega), Int.mul_comm]; done) | (rw [if_neg (by omega)]; done)))
          ·
            refine E_run hk 1 (j' := 25) (lv' := [(4, yi 1), (3, yi ((i * 20) + j)), (0, .ref a), (1, yi i), (2, yi j)]) (st' := [.ref a]) (hp' := hp) rfl ?_
            refine E_get (v := .ref p) hk rfl ha rfl ?_
            refine E_run hk 1 (j' := 27) (lv' := [(4, yi 1), (3, yi ((i * 20) + j)), (0, .ref a), (1, yi i), (2, yi j)]) (st' := [yi ((i * 20) + j), .ref p]) (hp' := hp) rfl ?_
            refine Y_iald (a := ((i * 20) + j)) (by omega) (by decide) hk rfl hk1 ?_
            refine E_run hk 1 (j' := 30) (lv' := [(4, yi 1), (3, yi ((i * 20) + j)), (0, .ref a), (1, yi i), (2, yi j)]) (st' := [yi (k ((i * 20) + j))]) (hp' := hp) rfl ?_
            exact E_ret hk rfl rfl (li (by unfold gat; first | (rw [if_pos (by omega), Int.mul_comm]; done) | (rw [if_neg (by omega)]; done)))
theorem c_X0_put {d : Nat} {hp : xH} {a p : Nat} (hap : 28 ≤ a ∧ 28 ≤ p ∧ a ≠ p) {k : Int → Int} (ha : xat hp a = some (.inr (1, [.ref p]))) (hk1 : xat hp p = some (yI 400 k)) {i j x : Int} (hi : 0 ≤ i ∧ i < 20 ∧ 0 ≤ j ∧ j < 20) : Cv d 2 [.ref a, yi i, yi j, yi x] hp (yR none (fun h => xat h p = some (yI 400 (up k (20 * i + j) x)) ∧ yfr [p] hp h)) := by
  have hk : xtab 2 = (xc_2, 6, 0, []) := rfl
  show Ev d 2 0 [(0, .ref a), (1, yi i), (2, yi j), (3, yi x)] [] hp _
  refine E_run hk 2 (j' := 2) (lv' := [(0, .ref a), (1, yi i), (2, yi j), (3, yi x)]) (st' := [yi 20, yi i]) (hp' := hp) rfl ?_
  refine Y_imul (a := i) (b := 20) hk rfl ?_
  refine E_run hk 1 (j' := 4) (lv' := [(0, .ref a), (1, yi i), (2, yi j), (3, yi x)]) (st' := [yi j, yi (i * 20)]) (hp' := hp) rfl ?_
  refine Y_iadd (a := (i * 20)) (b := j) hk rfl ?_
  refine E_run hk 2 (j' := 7) (lv' := [(4, yi ((i * 20) + j)), (0, .ref a), (1, yi i), (2, yi j), (3, yi x)]) (st' := [yi j]) (hp' := hp) rfl ?_
  refine Y_if_lt (a := j) (by omega) hk rfl (fun g1 => ?_) (fun g1 => ?_)
  · exfalso; omega
  ·
    refine E_run hk 2 (j' := 10) (lv' := [(4, yi ((i * 20) + j)), (0, .ref a), (1, yi i), (2, yi j), (3, yi x)]) (st' := [yi 20, yi j]) (hp' := hp) rfl ?_
    refine Y_ic_ge (a := j) (b := 20) (by omega) hk rfl (fun g2 => ?_) (fun g2 => ?_)
    · exfalso; omega
    ·
      refine E_run hk 4 (j' := 16) (lv' := [(5, yi 1), (4, yi ((i * 20) + j)), (0, .ref a), (1, yi i), (2, yi j), (3, yi x)]) (st' := [yi 1]) (hp' := hp) rfl ?_
      refine Y_if_eq (a := 1) (by omega) hk rfl (fun g3 => ?_) (fun g3 => ?_)
      · exfalso; omega
      ·
        refine E_run hk 1 (j' := 18) (lv' := [(5, yi 1), (4, yi ((i * 20) + j)), (0, .ref a), (1, yi i), (2, yi j), (3, yi x)]) (st' := [yi ((i * 20) + j)]) (hp' := hp) rfl ?_
        refine Y_if_lt (a := ((i * 20) + j)) (by omega) hk rfl (fun g4 => ?_) (fun g4 => ?_)
        · exfalso; omega
        ·
          refine E_run hk 2 (j' := 21) (lv' := [(5, yi 1), (4, yi ((i * 20) + j)), (0, .ref a), (1, yi i), (2, yi j), (3, yi x)]) (st' := [.ref a, yi ((i * 20) + j)]) (hp' := hp) rfl ?_
          refine E_get (v := .ref p) hk rfl ha rfl ?_
          refine Y_alen (by decide) hk rfl hk1 ?_
          refine Y_ic_ge (a := ((i * 20) + j)) (b := 400) (by omega) hk rfl (fun g5 => ?_) (fun g5 => ?_)
          · exfalso; omega
          ·
            refine E_run hk 1 (j' := 25) (lv' := [(5, yi 1), (4, yi ((i * 20) + j)), (0, .ref a), (1, yi i), (2, yi j), (3, yi x)]) (st' := [.ref a]) (hp' := hp) rfl ?_
            refine E_get (v := .ref p) hk rfl ha rfl ?_
            refine E_run hk 2 (j' := 28) (lv' := [(5, yi 1), (4, yi ((i * 20) + j)), (0, .ref a), (1, yi i), (2, yi j), (3, yi x)]) (st' := [yi x, yi ((i * 20) + j), .ref p]) (hp' := hp) rfl ?_
            refine Y_iast (a := ((i * 20) + j)) (x := x) (by omega) (by decide) (show xNC ≤ p from (by omega : 28 ≤ p)) hk rfl hk1 (fun H6 e7 f8 => ?_)
            exact E_ret hk rfl rfl ⟨rfl, (by have w := e7; rw [Int.mul_comm i 20] at w; exact w), f8⟩
theorem c_J7_fill_53178 {d : Nat} {hp : xH} {p n : Nat} (hap : 28 ≤ p) (hn : n ≤ 400) {k : Int → Int} {x : Int} (hk1 : xat hp p = some (yI n k)) : Cv d 269 [.ref p, yi x] hp (yR none (fun h => ∃ g, xat h p = some (yI n g) ∧ (∀ q : Int, 0 ≤ q → q < n → g q = x) ∧ yfr [p] hp h)) := by
  have hk : xtab 269 = (xc_269, 4, 0, []) := rfl
  show Ev d 269 0 [(0, .ref p), (1, yi x)] [] hp _
  refine E_run hk 3 (j' := 3) (lv' := [(2, yi 0), (0, .ref p), (1, yi x)]) (st' := [.ref p]) (hp' := hp) rfl ?_
  refine Y_alen (by decide) hk rfl hk1 ?_
  refine E_run hk 1 (j' := 5) (lv' := [(3, yi n), (2, yi 0), (0, .ref p), (1, yi x)]) (st' := []) (hp' := hp) rfl ?_
  have loop5 : ∀ (N : Nat) (i : Int) (g : Int → Int) (hl5 : xH), (0 ≤ i ∧ i ≤ n) → (∀ q, 0 ≤ q → q < i → g q = x) → (xat hl5 p = some (yI n g)) → (yfr [p] hp hl5) → ((n : Int) - i).toNat = N → Ev d 269 5 [(0, .ref p), (1, yi x), (2, yi i), (3, yi n)] [] hl5 (yR none (fun h => ∃ g, xat h p = some (yI n g) ∧ (∀ q : Int, 0 ≤ q → q < n → g q = x) ∧ yfr [p] hp h)) := by
    intro N
    induction N using Nat.strongRecOn with
    | ind N ih5 =>
      intro i g hl5 J1 J2 ec5_p fr5 hm5
      refine E_run hk 1 (j' := 6) (lv' := [(0, .ref p), (1, yi x), (2, yi i), (3, yi n)]) (st' := [yi i]) (hp' := hl5) rfl ?_
      refine E_run hk 1 (j' := 7) (lv' := [(0, .ref p), (1, yi x), (2, yi i), (3, yi n)]) (st' := [yi n, yi i]) (hp' := hl5) rfl ?_
      refine Y_ic_ge (a := i) (b := n) (by omega) hk rfl (fun g1 => ?_) (fun g1 => ?_)
      ·
        exact E_ret hk rfl rfl ⟨rfl, _, ec5_p, fun q q1 q2 => J2 q q1 (by omega), fr5⟩
      ·
        refine E_run hk 3 (j' := 11) (lv' := [(0, .ref p), (1, yi x), (2, yi i), (3, yi n)]) (st' := [yi x, yi i, .ref p]) (hp' := hl5) rfl ?_
        refine Y_iast (a := i) (x := x) (by omega) (by decide) (show xNC ≤ p from (by omega : 28 ≤ p)) hk rfl ec5_p (fun H2 e3 f4 => ?_)
        refine Y_iinc (a := i) (z := 1) hk rfl rfl rfl (by decide) (lv' := [(2, yi (i + 1)), (0, .ref p), (1, yi x), (3, yi n)]) rfl ?_
        refine E_run hk 1 (j' := 5) (lv' := [(2, yi (i + 1)), (0, .ref p), (1, yi x), (3, yi n)]) (st' := []) (hp' := H2) rfl ?_
        exact Ev_le (xle_s rfl rfl (xle_s rfl rfl (xle_s rfl rfl (xle_s rfl rfl (xle_z _ rfl))))) (ih5 _ (by omega) (i + 1) (up g i x) H2 (by omega) (fun q q1 q2 => by
        by_cases e : q = i
        · subst e
          rw [up_self]
        · rw [up_ne _ _ e]
          exact J2 q q1 (by omega)) e3 (yfr.tr fr5 f4 (fun _ h => h) (by simp)) rfl)
  exact Ev_le (xle_s rfl rfl (xle_s rfl rfl (xle_s rfl rfl (xle_s rfl rfl (xle_z _ rfl))))) (loop5 _ 0 k hp (by omega) (fun q q1 q2 => absurd q1 (by omega)) hk1 (yfr.refl _ _) rfl)
theorem c_X0_clear {d : Nat} {hp : xH} {a p : Nat} (hap : 28 ≤ a ∧ 28 ≤ p ∧ a ≠ p) {k : Int → Int} (ha : xat hp a = some (.inr (1, [.ref p]))) (hk1 : xat hp p = some (yI 400 k)) (hd : 1 ≤ d) : Cv d 3 [.ref a] hp (yR none (fun h => ∃ g, xat h p = some (yI 400 g) ∧ (∀ q : Int, 0 ≤ q → q < 400 → g q = 1000000000) ∧ yfr [p] hp h)) := by
  have hk : xtab 3 = (xc_3, 1, 0, []) := rfl
  obtain ⟨d, rfl⟩ : ∃ e, d = e + 1 := ⟨d - 1, by omega⟩
  show Ev (d + 1) 3 0 [(0, .ref a)] [] hp _
  refine E_run hk 1 (j' := 1) (lv' := [(0, .ref a)]) (st' := [.ref a]) (hp' := hp) rfl ?_
  refine E_get (v := .ref p) hk rfl ha rfl ?_
  refine E_run hk 1 (j' := 3) (lv' := [(0, .ref a)]) (st' := [yi 1000000000, .ref p]) (hp' := hp) rfl ?_
  refine Y_call hk rfl (as := [.ref p, yi 1000000000]) (rest := []) (v := none) rfl rfl (Nat.le_of_ble_eq_true rfl) rfl (Nat.le_of_ble_eq_true rfl) (c_J7_fill_53178 (p := p) (n := 400) (x := 1000000000) (by omega) (by omega) hk1) (fun H1 r2 => ?_)
  obtain ⟨F_H1, e_H1, a_H1, f_H1⟩ := r2
  exact E_ret hk rfl rfl ⟨rfl, _, e_H1, fun q q1 q2 => a_H1 q q1 q2, f_H1⟩
theorem rowcell {D : Int → Int → Int} {w b i c : Int} (hw : 0 ≤ w ∧ w ≤ 50) (h : 0 ≤ i ∧ 0 ≤ c ∧ i < 20 ∧ c < 20 ∧ -b ≤ i - c ∧ i - c ≤ b) (hD : 0 ≤ D i c ∧ D i c ≤ 5184) (r1 : 0 ≤ fw D w b (i - 1) c ∧ (fw D w b (i - 1) c = 100000000 ∨ (0 ≤ i - 1 ∧ 0 ≤ c ∧ fw D w b (i - 1) c ≤ 5234 * (i - 1 + c + 1)))) (r2 : 0 ≤ fw D w b (i - 1) (c - 1) ∧ (fw D w b (i - 1) (c - 1) = 100000000 ∨ (0 ≤ i - 1 ∧ 0 ≤ c - 1 ∧ fw D w b (i - 1) (c - 1) ≤ 5234 * (i - 1 + (c - 1) + 1)))) (r3 : 0 ≤ fw D w b i (c - 1) ∧ (fw D w b i (c - 1) = 100000000 ∨ (0 ≤ i ∧ 0 ≤ c - 1 ∧ fw D w b i (c - 1) ≤ 5234 * (i + (c - 1) + 1)))) :
    far (fw D w b i c) = if i = 0 ∧ c = 0 then D i c else mn 1000000000 (mn (far (fw D w b (i - 1) (c - 1))) (mn (far (fw D w b (i - 1) c)) (far (fw D w b i (c - 1))) + w) + D i c) := by
  have k1 := far_rng (fw D w b (i - 1) c)
  have k2 := far_rng (fw D w b (i - 1) (c - 1))
  have k3 := far_rng (fw D w b i (c - 1))
  have s1 := least_rng (fw D w b (i - 1) c) (fw D w b i (c - 1))
  have s2 := least_rng (fw D w b (i - 1) (c - 1)) (least (fw D w b (i - 1) c) (fw D w b i (c - 1)) + w)
  have fe : fw D w b i c = if -b ≤ i - c ∧ i - c ≤ b ∧ fwf D w b i c < 100000000 then fwf D w b i c + D i c else 100000000 := fw_in (by omega)
  have ff : fwf D w b i c = if i = 0 ∧ c = 0 then 0 else least (fw D w b (i - 1) (c - 1)) (least (fw D w b (i - 1) c) (fw D w b i (c - 1)) + w) := rfl
  have m1 := mn_rng (far (fw D w b (i - 1) c)) (far (fw D w b i (c - 1)))
  have m2 := mn_rng (far (fw D w b (i - 1) (c - 1))) (mn (far (fw D w b (i - 1) c)) (far (fw D w b i (c - 1))) + w)
  have m3 := mn_rng 1000000000 (mn (far (fw D w b (i - 1) (c - 1))) (mn (far (fw D w b (i - 1) c)) (far (fw D w b i (c - 1))) + w) + D i c)
  have k4 := far_rng (fw D w b i c)
  by_cases e : i = 0 ∧ c = 0
  · rw [if_pos e] at ff ⊢
    rw [ff, if_pos (by omega)] at fe
    omega
  · rw [if_neg e] at ff ⊢
    split at fe <;> omega
theorem c_X0_tellRowFromBegin {d : Nat} {hp : xH} {a p : Nat} (hap : 28 ≤ a ∧ 28 ≤ p ∧ a ≠ p) {k : Int → Int} (ha : xat hp a = some (.inr (1, [.ref p]))) (hk1 : xat hp p = some (yI 400 k)) {s z o : Nat} {S f g : Int → Int} {r t : Int} (hS : yS hp s z o S f g r t) (hne : (a < s ∨ s + 5 ≤ a) ∧ (p < s ∨ s + 5 ≤ p)) (hz : 0 ≤ S 0 ∧ S 0 ≤ 20 ∧ 0 ≤ S 1 ∧ S 1 ≤ 20 ∧ 0 ≤ S 2 ∧ S 2 ≤ 20 ∧ 0 ≤ S 3 ∧ S 3 ≤ 50 ∧ 0 ≤ S 4 ∧ S 4 ≤ 3) (h0 : ∀ q, 0 ≤ q → q < S 0 → 0 ≤ S (7 + q) ∧ S (7 + q) ≤ 60) (h1 : ∀ q, 0 ≤ q → q < S 1 → 0 ≤ S (27 + q) ∧ S (27 + q) ≤ 60) {i b u : Int} (hb : -12 ≤ b ∧ b ≤ 12) (hu : 0 ≤ u ∧ u ≤ 20) (hi : 0 ≤ i ∧ i < S 0) (hJ : (∀ x y, 0 ≤ x → x < i → 0 ≤ y → y < S 1 → k (20 * x + y) = far (fw (unl S b) (S 3) u x y)) ∧ (∀ q, 20 * i ≤ q → q < 400 → k q = 1000000000)) (hd : 1 ≤ d) : Cv d 5 [.ref a, .ref s, yi i, yi b, yi u] hp (yR none (fun h => ∃ m, xat h p = some (yI 400 m) ∧ (∀ x y, 0 ≤ x → x < i + 1 → 0 ≤ y → y < S 1 → m (20 * x + y) = far (fw (unl S b) (S 3) u x y)) ∧ (∀ q, 20 * (i + 1) ≤ q → q < 400 → m q = 1000000000) ∧ yfr [p] hp h)) := by
  have hk : xtab 5 = (xc_5, 13, 0, []) := rfl
  obtain ⟨d, rfl⟩ : ∃ e, d = e + 1 := ⟨d - 1, by omega⟩
  obtain ⟨hid, hs_, hz_, ho_, hf_, hg_, ef, eg⟩ := hS
  have hDD : ∀ i j, 0 ≤ i → i < S 0 → 0 ≤ j → j < S 1 → 0 ≤ unl S b i j ∧ unl S b i j ≤ 5184 := fun i j a1 a2 a3 a4 => unl_rng hz h0 h1 hb a1 a2 a3 a4
  have w1 := h0 i (by omega) (by omega)
  have e1 := ef i (by omega) (by omega)
  have x1 := mx_rng 0 (i - u)
  have x2 := mn_rng (S 1 - 1) (i + u)
  show Ev (d + 1) 5 0 [(0, .ref a), (1, .ref s), (2, yi i), (3, yi b), (4, yi u)] [] hp _
  refine E_run hk 1 (j' := 1) (lv' := [(0, .ref a), (1, .ref s), (2, yi i), (3, yi b), (4, yi u)]) (st' := [.ref s]) (hp' := hp) rfl ?_
  refine E_get (v := .ref z) hk rfl hs_ rfl ?_
  refine E_run hk 1 (j' := 3) (lv' := [(0, .ref a), (1, .ref s), (2, yi i), (3, yi b), (4, yi u)]) (st' := [yi i, .ref z]) (hp' := hp) rfl ?_
  refine Y_callP hk rfl (as := [.ref z, yi i]) (rest := []) (v := some (yi (f i))) rfl rfl (Nat.le_of_ble_eq_true rfl) (rcv0 hz_) (Nat.le_of_ble_eq_true rfl) (c_X6_pitchOf (x := i) (a := z) (p := (z + 1)) (f := f) (n := (S 0)) ⟨by omega, by omega, by omega⟩ hz_ hf_ (by omega)) ?_
  refine E_run hk 1 (j' := 5) (lv' := [(0, .ref a), (1, .ref s), (2, yi i), (3, yi b), (4, yi u)]) (st' := [yi b, yi (f i)]) (hp' := hp) rfl ?_
  refine Y_isub (a := (f i)) (b := b) hk rfl ?_
  refine E_run hk 4 (j' := 10) (lv' := [(5, yi ((f i) - b)), (0, .ref a), (1, .ref s), (2, yi i), (3, yi b), (4, yi u)]) (st' := [yi u, yi i, yi 0]) (hp' := hp) rfl ?_
  refine Y_isub (a := i) (b := u) hk rfl ?_
  refine Y_max (a := 0) (b := (i - u)) (by omega) hk rfl (Nat.le_of_ble_eq_true rfl) ?_
  refine E_run hk 2 (j' := 14) (lv' := [(6, yi (mx 0 (i - u))), (5, yi ((f i) - b)), (0, .ref a), (1, .ref s), (2, yi i), (3, yi b), (4, yi u)]) (st' := [.ref s]) (hp' := hp) rfl ?_
  refine E_get (v := .ref o) hk rfl hs_ rfl ?_
  refine E_get (v := yi (S 1)) hk rfl ho_ rfl ?_
  refine E_run hk 1 (j' := 17) (lv' := [(6, yi (mx 0 (i - u))), (5, yi ((f i) - b)), (0, .ref a), (1, .ref s), (2, yi i), (3, yi b), (4, yi u)]) (st' := [yi 1, yi (S 1)]) (hp' := hp) rfl ?_
  refine Y_isub (a := (S 1)) (b := 1) hk rfl ?_
  refine E_run hk 2 (j' := 20) (lv' := [(6, yi (mx 0 (i - u))), (5, yi ((f i) - b)), (0, .ref a), (1, .ref s), (2, yi i), (3, yi b), (4, yi u)]) (st' := [yi u, yi i, yi ((S 1) - 1)]) (hp' := hp) rfl ?_
  refine Y_iadd (a := i) (b := u) hk rfl ?_
  refine Y_min (a := ((S 1) - 1)) (b := (i + u)) (by omega) hk rfl (Nat.le_of_ble_eq_true rfl) ?_
  refine E_run hk 6 (j' := 28) (lv' := [(8, yi 1000000000), (7, yi (mn ((S 1) - 1) (i + u))), (6, yi (mx 0 (i - u))), (5, yi ((f i) - b)), (0, .ref a), (1, .ref s), (2, yi i), (3, yi b), (4, yi u)]) (st' := [yi 1, yi i, .ref a]) (hp' := hp) rfl ?_
  refine Y_isub (a := i) (b := 1) hk rfl ?_
  refine E_run hk 2 (j' := 31) (lv' := [(8, yi 1000000000), (7, yi (mn ((S 1) - 1) (i + u))), (6, yi (mx 0 (i - u))), (5, yi ((f i) - b)), (0, .ref a), (1, .ref s), (2, yi i), (3, yi b), (4, yi u)]) (st' := [yi 1, yi (mx 0 (i - u)), yi (i - 1), .ref a]) (hp' := hp) rfl ?_
  refine Y_isub (a := (mx 0 (i - u))) (b := 1) hk rfl ?_
  refine Y_callP hk rfl (as := [.ref a, yi (i - 1), yi ((mx 0 (i - u)) - 1)]) (rest := []) (v := some (yi (gat k (i - 1) ((mx 0 (i - u)) - 1)))) rfl rfl (Nat.le_of_ble_eq_true rfl) (rcv0 ha) (Nat.le_of_ble_eq_true rfl) (c_X0_at (i := (i - 1)) (j := ((mx 0 (i - u)) - 1)) (a := a) (p := p) (k := k) ⟨by omega, by omega, by omega⟩ ha hk1 (by omega)) ?_
  refine E_run hk 3 (j' := 36) (lv' := [(10, yi (mx 0 (i - u))), (9, yi (gat k (i - 1) ((mx 0 (i - u)) - 1))), (8, yi 1000000000), (7, yi (mn ((S 1) - 1) (i + u))), (6, yi (mx 0 (i - u))), (5, yi ((f i) - b)), (0, .ref a), (1, .ref s), (2, yi i), (3, yi b), (4, yi u)]) (st' := []) (hp' := hp) rfl ?_
  have loop36 : ∀ (N : Nat) (c : Int) (l : Int) (al : Int) (m : Int → Int) (hl36 : xH), (mx 0 (i - u) ≤ c ∧ (c ≤ mn (S 1 - 1) (i + u) + 1 ∨ c = mx 0 (i - u))) → (∀ x y, 0 ≤ x → x < i → 0 ≤ y → y < S 1 → m (20 * x + y) = far (fw (unl S b) (S 3) u x y)) → (l = far (fw (unl S b) (S 3) u i (c - 1))) → (c < S 1 → al = far (fw (unl S b) (S 3) u (i - 1) (c - 1))) → (∀ y, 0 ≤ y → y < c → y < S 1 → m (20 * i + y) = far (fw (unl S b) (S 3) u i y)) → (∀ q, 20 * i + c ≤ q → q < 400 → m q = 1000000000) → (xat hl36 p = some (yI 400 m)) → (yfr [p] hp hl36) → (20 - c).toNat = N → Ev (d + 1) 5 36 [(0, .ref a), (1, .ref s), (2, yi i), (5, yi (f i - b)), (7, yi (mn (S 1 - 1) (i + u))), (8, yi l), (9, yi al), (10, yi c)] [] hl36 (yR none (fun h => ∃ m, xat h p = some (yI 400 m) ∧ (∀ x y, 0 ≤ x → x < i + 1 → 0 ≤ y → y < S 1 → m (20 * x + y) = far (fw (unl S b) (S 3) u x y)) ∧ (∀ q, 20 * (i + 1) ≤ q → q < 400 → m q = 1000000000) ∧ yfr [p] hp h)) := by
    intro N
    induction N using Nat.strongRecOn with
    | ind N ih36 =>
      intro c l al m hl36 J1 J2 J3 J4 J5 J6 ec36_p fr36 hm36
      refine E_run hk 1 (j' := 37) (lv' := [(0, .ref a), (1, .ref s), (2, yi i), (5, yi (f i - b)), (7, yi (mn (S 1 - 1) (i + u))), (8, yi l), (9, yi al), (10, yi c)]) (st' := [yi c]) (hp' := hl36) rfl ?_
      refine E_run hk 1 (j' := 38) (lv' := [(0, .ref a), (1, .ref s), (2, yi i), (5, yi (f i - b)), (7, yi (mn (S 1 - 1) (i + u))), (8, yi l), (9, yi al), (10, yi c)]) (st' := [yi (mn (S 1 - 1) (i + u)), yi c]) (hp' := hl36) rfl ?_
      refine Y_ic_gt (a := c) (b := (mn (S 1 - 1) (i + u))) (by omega) hk rfl (fun g1 => ?_) (fun g1 => ?_)
      ·
        exact E_ret hk rfl rfl ⟨rfl, _, ec36_p, fun x y x1 x2 y1 y2 => by
          by_cases e : x = i
          · rw [e]
            by_cases e2 : y < c
            · exact J5 y y1 e2
            · rw [J6 _ (by omega) (by omega), fw_band (by omega)]
              rfl
          · exact J2 x y x1 (by omega) y1 y2, fun q q1 q2 => J6 q (by omega) q2, fr36⟩
      ·
        have hD := unl_rng (b := b) hz h0 h1 hb (i := i) (j := c) (by omega) (by omega) (by omega) (by omega)
        have u1 : gat m (i - 1) c = far (fw (unl S b) (S 3) u (i - 1) c) := gat_fw (by omega) (fun q1 q2 => J2 _ _ (by omega) (by omega) (by omega) (by omega))
        have r1 := fw_rng (b := u) (w := S 3) (m := S 0) (n := S 1) (by omega) hDD _ (i - 1) c (by omega) (by omega) rfl
        have r2 := fw_rng (b := u) (w := S 3) (m := S 0) (n := S 1) (by omega) hDD _ (i - 1) (c - 1) (by omega) (by omega) rfl
        have r3 := fw_rng (b := u) (w := S 3) (m := S 0) (n := S 1) (by omega) hDD _ i (c - 1) (by omega) (by omega) rfl
        have cel := rowcell (D := unl S b) (w := S 3) (b := u) (i := i) (c := c) (by omega) (by omega) hD r1 r2 r3
        have m1 := mn_rng (gat m (i - 1) c) l
        have m2 := mn_rng al (mn (gat m (i - 1) c) l + S 3)
        have k1 := far_rng (fw (unl S b) (S 3) u (i - 1) c)
        have k2 := far_rng (fw (unl S b) (S 3) u (i - 1) (c - 1))
        have k3 := far_rng (fw (unl S b) (S 3) u i (c - 1))
        refine E_run hk 3 (j' := 42) (lv' := [(0, .ref a), (1, .ref s), (2, yi i), (5, yi (f i - b)), (7, yi (mn (S 1 - 1) (i + u))), (8, yi l), (9, yi al), (10, yi c)]) (st' := [yi 1, yi i, .ref a]) (hp' := hl36) rfl ?_
        refine Y_isub (a := i) (b := 1) hk rfl ?_
        refine E_run hk 1 (j' := 44) (lv' := [(0, .ref a), (1, .ref s), (2, yi i), (5, yi (f i - b)), (7, yi (mn (S 1 - 1) (i + u))), (8, yi l), (9, yi al), (10, yi c)]) (st' := [yi c, yi (i - 1), .ref a]) (hp' := hl36) rfl ?_
        refine Y_callP hk rfl (as := [.ref a, yi (i - 1), yi c]) (rest := []) (v := some (yi (gat m (i - 1) c))) rfl rfl (Nat.le_of_ble_eq_true rfl) (rcv0 (fr36.at (by simp only [List.mem_cons, List.not_mem_nil, or_false, not_or]; exact hap.2.2) ha)) (Nat.le_of_ble_eq_true rfl) (c_X0_at (i := (i - 1)) (j := c) (a := a) (p := p) (k := m) ⟨by omega, by omega, by omega⟩ (fr36.at (by simp only [List.mem_cons, List.not_mem_nil, or_false, not_or]; exact hap.2.2) ha) ec36_p (by omega)) ?_
        refine E_run hk 4 (j' := 49) (lv' := [(11, yi (gat m (i - 1) c)), (0, .ref a), (1, .ref s), (2, yi i), (5, yi (f i - b)), (7, yi (mn (S 1 - 1) (i + u))), (8, yi l), (9, yi al), (10, yi c)]) (st' := [yi l, yi (gat m (i - 1) c), yi al]) (hp' := hl36) rfl ?_
        refine Y_min (a := (gat m (i - 1) c)) (b := l) (by omega) hk rfl (Nat.le_of_ble_eq_true rfl) ?_
        refine E_run hk 1 (j' := 51) (lv' := [(11, yi (gat m (i - 1) c)), (0, .ref a), (1, .ref s), (2, yi i), (5, yi (f i - b)), (7, yi (mn (S 1 - 1) (i + u))), (8, yi l), (9, yi al), (10, yi c)]) (st' := [.ref s, yi (mn (gat m (i - 1) c) l), yi al]) (hp' := hl36) rfl ?_
        refine E_get (v := yi (S 3)) hk rfl (fr36.at (by simp only [List.mem_cons, List.not_mem_nil, or_false, not_or]; exact (by omega)) hs_) rfl ?_
        refine Y_iadd (a := (mn (gat m (i - 1) c) l)) (b := (S 3)) hk rfl ?_
        refine Y_min (a := al) (b := ((mn (gat m (i - 1) c) l) + (S 3))) (by omega) hk rfl (Nat.le_of_ble_eq_true rfl) ?_
        refine E_run hk 2 (j' := 56) (lv' := [(12, yi (mn al ((mn (gat m (i - 1) c) l) + (S 3)))), (11, yi (gat m (i - 1) c)), (0, .ref a), (1, .ref s), (2, yi i), (5, yi (f i - b)), (7, yi (mn (S 1 - 1) (i + u))), (8, yi l), (9, yi al), (10, yi c)]) (st' := [yi i]) (hp' := hl36) rfl ?_
        refine Y_if_ne (a := i) (by omega) hk rfl (fun g2 => ?_) (fun g2 => ?_)
        ·
          refine E_run hk 2 (j' := 63) (lv' := [(12, yi (mn al ((mn (gat m (i - 1) c) l) + (S 3)))), (11, yi (gat m (i - 1) c)), (0, .ref a), (1, .ref s), (2, yi i), (5, yi (f i - b)), (7, yi (mn (S 1 - 1) (i + u))), (8, yi l), (9, yi al), (10, yi c)]) (st' := [yi (mn al ((mn (gat m (i - 1) c) l) + (S 3))), yi 1000000000]) (hp' := hl36) rfl ?_
          have w1 := h0 i (by omega) (by omega)
          have w2 := h1 c (by omega) (by omega)
          have e1 := ef i (by omega) (by omega)
          have e2 := eg c (by omega) (by omega)
          have e3 : jud (S 4) (f i - b - g c) = unl S b i c := by unfold unl; rw [e1, e2]; congr 1; omega
          refine E_run hk 3 (j' := 66) (lv' := [(12, yi (mn al ((mn (gat m (i - 1) c) l) + (S 3)))), (11, yi (gat m (i - 1) c)), (0, .ref a), (1, .ref s), (2, yi i), (5, yi (f i - b)), (7, yi (mn (S 1 - 1) (i + u))), (8, yi l), (9, yi al), (10, yi c)]) (st' := [.ref s, yi (f i - b), .ref s, yi (mn al ((mn (gat m (i - 1) c) l) + (S 3))), yi 1000000000]) (hp' := hl36) rfl ?_
          refine E_get (v := .ref o) hk rfl (fr36.at (by simp only [List.mem_cons, List.not_mem_nil, or_false, not_or]; exact (by omega)) hs_) rfl ?_
          refine E_run hk 1 (j' := 68) (lv' := [(12, yi (mn al ((mn (gat m (i - 1) c) l) + (S 3)))), (11, yi (gat m (i - 1) c)), (0, .ref a), (1, .ref s), (2, yi i), (5, yi (f i - b)), (7, yi (mn (S 1 - 1) (i + u))), (8, yi l), (9, yi al), (10, yi c)]) (st' := [yi c, .ref o, yi (f i - b), .ref s, yi (mn al ((mn (gat m (i - 1) c) l) + (S 3))), yi 1000000000]) (hp' := hl36) rfl ?_
          refine Y_callP hk rfl (as := [.ref o, yi c]) (rest := [yi (f i - b), .ref s, yi (mn al ((mn (gat m (i - 1) c) l) + (S 3))), yi 1000000000]) (v := some (yi (g c))) rfl rfl (Nat.le_of_ble_eq_true rfl) (rcv0 (fr36.at (by simp only [List.mem_cons, List.not_mem_nil, or_false, not_or]; exact (by omega)) ho_)) (Nat.le_of_ble_eq_true rfl) (c_X6_pitchOf (x := c) (a := o) (p := (o + 1)) (f := g) (n := (S 1)) ⟨by omega, by omega, by omega⟩ (fr36.at (by simp only [List.mem_cons, List.not_mem_nil, or_false, not_or]; exact (by omega)) ho_) (fr36.at (by simp only [List.mem_cons, List.not_mem_nil, or_false, not_or]; exact (by omega)) hg_) (by omega)) ?_
          refine Y_isub (a := (f i - b)) (b := (g c)) hk rfl ?_
          refine Y_callP hk rfl (as := [.ref s, yi ((f i - b) - (g c))]) (rest := [yi (mn al ((mn (gat m (i - 1) c) l) + (S 3))), yi 1000000000]) (v := some (yi (jud (S 4) ((f i - b) - (g c))))) rfl rfl (Nat.le_of_ble_eq_true rfl) (rcv0 (fr36.at (by simp only [List.mem_cons, List.not_mem_nil, or_false, not_or]; exact (by omega)) hs_)) (Nat.le_of_ble_eq_true rfl) (c_X5_judged ⟨hid, (fr36.at (by simp only [List.mem_cons, List.not_mem_nil, or_false, not_or]; exact (by omega)) hs_), (fr36.at (by simp only [List.mem_cons, List.not_mem_nil, or_false, not_or]; exact (by omega)) hz_), (fr36.at (by simp only [List.mem_cons, List.not_mem_nil, or_false, not_or]; exact (by omega)) ho_), (fr36.at (by simp only [List.mem_cons, List.not_mem_nil, or_false, not_or]; exact (by omega)) hf_), (fr36.at (by simp only [List.mem_cons, List.not_mem_nil, or_false, not_or]; exact (by omega)) hg_), ef, eg⟩ (by omega) (x := ((f i - b) - (g c))) (by omega)) ?_
          rw [e3]
          refine Y_iadd (a := (mn al ((mn (gat m (i - 1) c) l) + (S 3)))) (b := (unl S b i c)) hk rfl ?_
          refine Y_min (a := 1000000000) (b := ((mn al ((mn (gat m (i - 1) c) l) + (S 3))) + (unl S b i c))) (by omega) hk rfl (Nat.le_of_ble_eq_true rfl) ?_
          refine E_run hk 1 (j' := 74) (lv' := [(8, yi (mn 1000000000 ((mn al ((mn (gat m (i - 1) c) l) + (S 3))) + (unl S b i c)))), (12, yi (mn al ((mn (gat m (i - 1) c) l) + (S 3)))), (11, yi (gat m (i - 1) c)), (0, .ref a), (1, .ref s), (2, yi i), (5, yi (f i - b)), (7, yi (mn (S 1 - 1) (i + u))), (9, yi al), (10, yi c)]) (st' := []) (hp' := hl36) rfl ?_
          have e9 : mn 1000000000 ((mn al ((mn (gat m (i - 1) c) l) + (S 3))) + (unl S b i c)) = far (fw (unl S b) (S 3) u i c) := by
            rw [cel, ← J3, ← J4 (by omega), ← u1]
            first
              | (rw [if_pos (by omega)]; have m3 := mn_rng 1000000000 (0 + unl S b i c); omega)
              | (rw [if_neg (by omega)]; done)
          refine E_run hk 4 (j' := 78) (lv' := [(8, yi (mn 1000000000 ((mn al ((mn (gat m (i - 1) c) l) + (S 3))) + (unl S b i c)))), (12, yi (mn al ((mn (gat m (i - 1) c) l) + (S 3)))), (11, yi (gat m (i - 1) c)), (0, .ref a), (1, .ref s), (2, yi i), (5, yi (f i - b)), (7, yi (mn (S 1 - 1) (i + u))), (9, yi al), (10, yi c)]) (st' := [yi (mn 1000000000 ((mn al ((mn (gat m (i - 1) c) l) + (S 3))) + (unl S b i c))), yi c, yi i, .ref a]) (hp' := hl36) rfl ?_
          refine Y_call hk rfl (as := [.ref a, yi i, yi c, yi (mn 1000000000 ((mn al ((mn (gat m (i - 1) c) l) + (S 3))) + (unl S b i c)))]) (rest := []) (v := none) rfl rfl (Nat.le_of_ble_eq_true rfl) (rcv0 (fr36.at (by simp only [List.mem_cons, List.not_mem_nil, or_false, not_or]; exact hap.2.2) ha)) (Nat.le_of_ble_eq_true rfl) (c_X0_put (i := i) (j := c) (x := (mn 1000000000 ((mn al ((mn (gat m (i - 1) c) l) + (S 3))) + (unl S b i c)))) (a := a) (p := p) (k := m) ⟨by omega, by omega, by omega⟩ (fr36.at (by simp only [List.mem_cons, List.not_mem_nil, or_false, not_or]; exact hap.2.2) ha) ec36_p (by omega)) (fun H3 r4 => ?_)
          obtain ⟨e_H3, f_H3⟩ := r4
          refine E_run hk 2 (j' := 81) (lv' := [(9, yi (gat m (i - 1) c)), (8, yi (mn 1000000000 ((mn al ((mn (gat m (i - 1) c) l) + (S 3))) + (unl S b i c)))), (12, yi (mn al ((mn (gat m (i - 1) c) l) + (S 3)))), (11, yi (gat m (i - 1) c)), (0, .ref a), (1, .ref s), (2, yi i), (5, yi (f i - b)), (7, yi (mn (S 1 - 1) (i + u))), (10, yi c)]) (st' := []) (hp' := H3) rfl ?_
          refine Y_iinc (a := c) (z := 1) hk rfl rfl rfl (by decide) (lv' := [(10, yi (c + 1)), (9, yi (gat m (i - 1) c)), (8, yi (mn 1000000000 ((mn al ((mn (gat m (i - 1) c) l) + (S 3))) + (unl S b i c)))), (12, yi (mn al ((mn (gat m (i - 1) c) l) + (S 3)))), (11, yi (gat m (i - 1) c)), (0, .ref a), (1, .ref s), (2, yi i), (5, yi (f i - b)), (7, yi (mn (S 1 - 1) (i + u)))]) rfl ?_
          refine E_run hk 1 (j' := 36) (lv' := [(10, yi (c + 1)), (9, yi (gat m (i - 1) c)), (8, yi (mn 1000000000 ((mn al ((mn (gat m (i - 1) c) l) + (S 3))) + (unl S b i c)))), (12, yi (mn al ((mn (gat m (i - 1) c) l) + (S 3)))), (11, yi (gat m (i - 1) c)), (0, .ref a), (1, .ref s), (2, yi i), (5, yi (f i - b)), (7, yi (mn (S 1 - 1) (i + u)))]) (st' := []) (hp' := H3) rfl ?_
          exact Ev_le (xle_s rfl rfl (xle_s rfl rfl (xle_s rfl rfl (xle_s rfl rfl (xle_s rfl rfl (xle_s rfl rfl (xle_s rfl rfl (xle_s rfl rfl (xle_z _ rfl))))))))) (ih36 _ (by omega) (c + 1) (mn 1000000000 ((mn al ((mn (gat m (i - 1) c) l) + (S 3))) + (unl S b i c))) (gat m (i - 1) c) (up m (20 * i + c) (mn 1000000000 ((mn al ((mn (gat m (i - 1) c) l) + (S 3))) + (unl S b i c)))) H3 (by omega) (fun x y x1 x2 y1 y2 => by
        rw [up_ne _ _ (by omega)]
        exact J2 x y x1 x2 y1 y2) (by rw [show c + 1 - 1 = c by omega]; exact e9) (fun _ => by rw [show c + 1 - 1 = c by omega]; exact u1) (fun y y1 y2 => by
        by_cases e : y = c
        · subst e
          rw [up_self]
          exact e9
        · rw [up_ne _ _ (by omega)]
          exact J5 y y1 (by omega)) (fun q q1 q2 => by
        rw [up_ne _ _ (by omega)]
        exact J6 q (by omega) q2) e_H3 (yfr.tr fr36 f_H3 (fun _ h => h) (by simp)) rfl)
        ·
          refine E_run hk 1 (j' := 58) (lv' := [(12, yi (mn al ((mn (gat m (i - 1) c) l) + (S 3)))), (11, yi (gat m (i - 1) c)), (0, .ref a), (1, .ref s), (2, yi i), (5, yi (f i - b)), (7, yi (mn (S 1 - 1) (i + u))), (8, yi l), (9, yi al), (10, yi c)]) (st' := [yi c]) (hp' := hl36) rfl ?_
          refine Y_if_ne (a := c) (by omega) hk rfl (fun g5 => ?_) (fun g5 => ?_)
          ·
            refine E_run hk 2 (j' := 63) (lv' := [(12, yi (mn al ((mn (gat m (i - 1) c) l) + (S 3)))), (11, yi (gat m (i - 1) c)), (0, .ref a), (1, .ref s), (2, yi i), (5, yi (f i - b)), (7, yi (mn (S 1 - 1) (i + u))), (8, yi l), (9, yi al), (10, yi c)]) (st' := [yi (mn al ((mn (gat m (i - 1) c) l) + (S 3))), yi 1000000000]) (hp' := hl36) rfl ?_
            have w1 := h0 i (by omega) (by omega)
            have w2 := h1 c (by omega) (by omega)
            have e1 := ef i (by omega) (by omega)
            have e2 := eg c (by omega) (by omega)
            have e3 : jud (S 4) (f i - b - g c) = unl S b i c := by unfold unl; rw [e1, e2]; congr 1; omega
            refine E_run hk 3 (j' := 66) (lv' := [(12, yi (mn al ((mn (gat m (i - 1) c) l) + (S 3)))), (11, yi (gat m (i - 1) c)), (0, .ref a), (1, .ref s), (2, yi i), (5, yi (f i - b)), (7, yi (mn (S 1 - 1) (i + u))), (8, yi l), (9, yi al), (10, yi c)]) (st' := [.ref s, yi (f i - b), .ref s, yi (mn al ((mn (gat m (i - 1) c) l) + (S 3))), yi 1000000000]) (hp' := hl36) rfl ?_
            refine E_get (v := .ref o) hk rfl (fr36.at (by simp only [List.mem_cons, List.not_mem_nil, or_false, not_or]; exact (by omega)) hs_) rfl ?_
            refine E_run hk 1 (j' := 68) (lv' := [(12, yi (mn al ((mn (gat m (i - 1) c) l) + (S 3)))), (11, yi (gat m (i - 1) c)), (0, .ref a), (1, .ref s), (2, yi i), (5, yi (f i - b)), (7, yi (mn (S 1 - 1) (i + u))), (8, yi l), (9, yi al), (10, yi c)]) (st' := [yi c, .ref o, yi (f i - b), .ref s, yi (mn al ((mn (gat m (i - 1) c) l) + (S 3))), yi 1000000000]) (hp' := hl36) rfl ?_
            refine Y_callP hk rfl (as := [.ref o, yi c]) (rest := [yi (f i - b), .ref s, yi (mn al ((mn (gat m (i - 1) c) l) + (S 3))), yi 1000000000]) (v := some (yi (g c))) rfl rfl (Nat.le_of_ble_eq_true rfl) (rcv0 (fr36.at (by simp only [List.mem_cons, List.not_mem_nil, or_false, not_or]; exact (by omega)) ho_)) (Nat.le_of_ble_eq_true rfl) (c_X6_pitchOf (x := c) (a := o) (p := (o + 1)) (f := g) (n := (S 1)) ⟨by omega, by omega, by omega⟩ (fr36.at (by simp only [List.mem_cons, List.not_mem_nil, or_false, not_or]; exact (by omega)) ho_) (fr36.at (by simp only [List.mem_cons, List.not_mem_nil, or_false, not_or]; exact (by omega)) hg_) (by omega)) ?_
            refine Y_isub (a := (f i - b)) (b := (g c)) hk rfl ?_
            refine Y_callP hk rfl (as := [.ref s, yi ((f i - b) - (g c))]) (rest := [yi (mn al ((mn (gat m (i - 1) c) l) + (S 3))), yi 1000000000]) (v := some (yi (jud (S 4) ((f i - b) - (g c))))) rfl rfl (Nat.le_of_ble_eq_true rfl) (rcv0 (fr36.at (by simp only [List.mem_cons, List.not_mem_nil, or_false, not_or]; exact (by omega)) hs_)) (Nat.le_of_ble_eq_true rfl) (c_X5_judged ⟨hid, (fr36.at (by simp only [List.mem_cons, List.not_mem_nil, or_false, not_or]; exact (by omega)) hs_), (fr36.at (by simp only [List.mem_cons, List.not_mem_nil, or_false, not_or]; exact (by omega)) hz_), (fr36.at (by simp only [List.mem_cons, List.not_mem_nil, or_false, not_or]; exact (by omega)) ho_), (fr36.at (by simp only [List.mem_cons, List.not_mem_nil, or_false, not_or]; exact (by omega)) hf_), (fr36.at (by simp only [List.mem_cons, List.not_mem_nil, or_false, not_or]; exact (by omega)) hg_), ef, eg⟩ (by omega) (x := ((f i - b) - (g c))) (by omega)) ?_
            rw [e3]
            refine Y_iadd (a := (mn al ((mn (gat m (i - 1) c) l) + (S 3)))) (b := (unl S b i c)) hk rfl ?_
            refine Y_min (a := 1000000000) (b := ((mn al ((mn (gat m (i - 1) c) l) + (S 3))) + (unl S b i c))) (by omega) hk rfl (Nat.le_of_ble_eq_true rfl) ?_
            refine E_run hk 1 (j' := 74) (lv' := [(8, yi (mn 1000000000 ((mn al ((mn (gat m (i - 1) c) l) + (S 3))) + (unl S b i c)))), (12, yi (mn al ((mn (gat m (i - 1) c) l) + (S 3)))), (11, yi (gat m (i - 1) c)), (0, .ref a), (1, .ref s), (2, yi i), (5, yi (f i - b)), (7, yi (mn (S 1 - 1) (i + u))), (9, yi al), (10, yi c)]) (st' := []) (hp' := hl36) rfl ?_
            have e9 : mn 1000000000 ((mn al ((mn (gat m (i - 1) c) l) + (S 3))) + (unl S b i c)) = far (fw (unl S b) (S 3) u i c) := by
              rw [cel, ← J3, ← J4 (by omega), ← u1]
              first
                | (rw [if_pos (by omega)]; have m3 := mn_rng 1000000000 (0 + unl S b i c); omega)
                | (rw [if_neg (by omega)]; done)
            refine E_run hk 4 (j' := 78) (lv' := [(8, yi (mn 1000000000 ((mn al ((mn (gat m (i - 1) c) l) + (S 3))) + (unl S b i c)))), (12, yi (mn al ((mn (gat m (i - 1) c) l) + (S 3)))), (11, yi (gat m (i - 1) c)), (0, .ref a), (1, .ref s), (2, yi i), (5, yi (f i - b)), (7, yi (mn (S 1 - 1) (i + u))), (9, yi al), (10, yi c)]) (st' := [yi (mn 1000000000 ((mn al ((mn (gat m (i - 1) c) l) + (S 3))) + (unl S b i c))), yi c, yi i, .ref a]) (hp' := hl36) rfl ?_
            refine Y_call hk rfl (as := [.ref a, yi i, yi c, yi (mn 1000000000 ((mn al ((mn (gat m (i - 1) c) l) + (S 3))) + (unl S b i c)))]) (rest := []) (v := none) rfl rfl (Nat.le_of_ble_eq_true rfl) (rcv0 (fr36.at (by simp only [List.mem_cons, List.not_mem_nil, or_false, not_or]; exact hap.2.2) ha)) (Nat.le_of_ble_eq_true rfl) (c_X0_put (i := i) (j := c) (x := (mn 1000000000 ((mn al ((mn (gat m (i - 1) c) l) + (S 3))) + (unl S b i c)))) (a := a) (p := p) (k := m) ⟨by omega, by omega, by omega⟩ (fr36.at (by simp only [List.mem_cons, List.not_mem_nil, or_false, not_or]; exact hap.2.2) ha) ec36_p (by omega)) (fun H6 r7 => ?_)
            obtain ⟨e_H6, f_H6⟩ := r7
            refine E_run hk 2 (j' := 81) (lv' := [(9, yi (gat m (i - 1) c)), (8, yi (mn 1000000000 ((mn al ((mn (gat m (i - 1) c) l) + (S 3))) + (unl S b i c)))), (12, yi (mn al ((mn (gat m (i - 1) c) l) + (S 3)))), (11, yi (gat m (i - 1) c)), (0, .ref a), (1, .ref s), (2, yi i), (5, yi (f i - b)), (7, yi (mn (S 1 - 1) (i + u))), (10, yi c)]) (st' := []) (hp' := H6) rfl ?_
            refine Y_iinc (a := c) (z := 1) hk rfl rfl rfl (by decide) (lv' := [(10, yi (c + 1)), (9, yi (gat m (i - 1) c)), (8, yi (mn 1000000000 ((mn al ((mn (gat m (i - 1) c) l) + (S 3))) + (unl S b i c)))), (12, yi (mn al ((mn (gat m (i - 1) c) l) + (S 3)))), (11, yi (gat m (i - 1) c)), (0, .ref a), (1, .ref s), (2, yi i), (5, yi (f i - b)), (7, yi (mn (S 1 - 1) (i + u)))]) rfl ?_
            refine E_run hk 1 (j' := 36) (lv' := [(10, yi (c + 1)), (9, yi (gat m (i - 1) c)), (8, yi (mn 1000000000 ((mn al ((mn (gat m (i - 1) c) l) + (S 3))) + (unl S b i c)))), (12, yi (mn al ((mn (gat m (i - 1) c) l) + (S 3)))), (11, yi (gat m (i - 1) c)), (0, .ref a), (1, .ref s), (2, yi i), (5, yi (f i - b)), (7, yi (mn (S 1 - 1) (i + u)))]) (st' := []) (hp' := H6) rfl ?_
            exact Ev_le (xle_s rfl rfl (xle_s rfl rfl (xle_s rfl rfl (xle_s rfl rfl (xle_s rfl rfl (xle_s rfl rfl (xle_s rfl rfl (xle_s rfl rfl (xle_z _ rfl))))))))) (ih36 _ (by omega) (c + 1) (mn 1000000000 ((mn al ((mn (gat m (i - 1) c) l) + (S 3))) + (unl S b i c))) (gat m (i - 1) c) (up m (20 * i + c) (mn 1000000000 ((mn al ((mn (gat m (i - 1) c) l) + (S 3))) + (unl S b i c)))) H6 (by omega) (fun x y x1 x2 y1 y2 => by
        rw [up_ne _ _ (by omega)]
        exact J2 x y x1 x2 y1 y2) (by rw [show c + 1 - 1 = c by omega]; exact e9) (fun _ => by rw [show c + 1 - 1 = c by omega]; exact u1) (fun y y1 y2 => by
        by_cases e : y = c
        · subst e
          rw [up_self]
          exact e9
        · rw [up_ne _ _ (by omega)]
          exact J5 y y1 (by omega)) (fun q q1 q2 => by
        rw [up_ne _ _ (by omega)]
        exact J6 q (by omega) q2) e_H6 (yfr.tr fr36 f_H6 (fun _ h => h) (by simp)) rfl)
          ·
            refine E_run hk 4 (j' := 63) (lv' := [(12, yi 0), (11, yi (gat m (i - 1) c)), (0, .ref a), (1, .ref s), (2, yi i), (5, yi (f i - b)), (7, yi (mn (S 1 - 1) (i + u))), (8, yi l), (9, yi al), (10, yi c)]) (st' := [yi 0, yi 1000000000]) (hp' := hl36) rfl ?_
            have w1 := h0 i (by omega) (by omega)
            have w2 := h1 c (by omega) (by omega)
            have e1 := ef i (by omega) (by omega)
            have e2 := eg c (by omega) (by omega)
            have e3 : jud (S 4) (f i - b - g c) = unl S b i c := by unfold unl; rw [e1, e2]; congr 1; omega
            refine E_run hk 3 (j' := 66) (lv' := [(12, yi 0), (11, yi (gat m (i - 1) c)), (0, .ref a), (1, .ref s), (2, yi i), (5, yi (f i - b)), (7, yi (mn (S 1 - 1) (i + u))), (8, yi l), (9, yi al), (10, yi c)]) (st' := [.ref s, yi (f i - b), .ref s, yi 0, yi 1000000000]) (hp' := hl36) rfl ?_
            refine E_get (v := .ref o) hk rfl (fr36.at (by simp only [List.mem_cons, List.not_mem_nil, or_false, not_or]; exact (by omega)) hs_) rfl ?_
            refine E_run hk 1 (j' := 68) (lv' := [(12, yi 0), (11, yi (gat m (i - 1) c)), (0, .ref a), (1, .ref s), (2, yi i), (5, yi (f i - b)), (7, yi (mn (S 1 - 1) (i + u))), (8, yi l), (9, yi al), (10, yi c)]) (st' := [yi c, .ref o, yi (f i - b), .ref s, yi 0, yi 1000000000]) (hp' := hl36) rfl ?_
            refine Y_callP hk rfl (as := [.ref o, yi c]) (rest := [yi (f i - b), .ref s, yi 0, yi 1000000000]) (v := some (yi (g c))) rfl rfl (Nat.le_of_ble_eq_true rfl) (rcv0 (fr36.at (by simp only [List.mem_cons, List.not_mem_nil, or_false, not_or]; exact (by omega)) ho_)) (Nat.le_of_ble_eq_true rfl) (c_X6_pitchOf (x := c) (a := o) (p := (o + 1)) (f := g) (n := (S 1)) ⟨by omega, by omega, by omega⟩ (fr36.at (by simp only [List.mem_cons, List.not_mem_nil, or_false, not_or]; exact (by omega)) ho_) (fr36.at (by simp only [List.mem_cons, List.not_mem_nil, or_false, not_or]; exact (by omega)) hg_) (by omega)) ?_
            refine Y_isub (a := (f i - b)) (b := (g c)) hk rfl ?_
            refine Y_callP hk rfl (as := [.ref s, yi ((f i - b) - (g c))]) (rest := [yi 0, yi 1000000000]) (v := some (yi (jud (S 4) ((f i - b) - (g c))))) rfl rfl (Nat.le_of_ble_eq_true rfl) (rcv0 (fr36.at (by simp only [List.mem_cons, List.not_mem_nil, or_false, not_or]; exact (by omega)) hs_)) (Nat.le_of_ble_eq_true rfl) (c_X5_judged ⟨hid, (fr36.at (by simp only [List.mem_cons, List.not_mem_nil, or_false, not_or]; exact (by omega)) hs_), (fr36.at (by simp only [List.mem_cons, List.not_mem_nil, or_false, not_or]; exact (by omega)) hz_), (fr36.at (by simp only [List.mem_cons, List.not_mem_nil, or_false, not_or]; exact (by omega)) ho_), (fr36.at (by simp only [List.mem_cons, List.not_mem_nil, or_false, not_or]; exact (by omega)) hf_), (fr36.at (by simp only [List.mem_cons, List.not_mem_nil, or_false, not_or]; exact (by omega)) hg_), ef, eg⟩ (by omega) (x := ((f i - b) - (g c))) (by omega)) ?_
            rw [e3]
            refine Y_iadd (a := 0) (b := (unl S b i c)) hk rfl ?_
            refine Y_min (a := 1000000000) (b := (0 + (unl S b i c))) (by omega) hk rfl (Nat.le_of_ble_eq_true rfl) ?_
            refine E_run hk 1 (j' := 74) (lv' := [(8, yi (mn 1000000000 (0 + (unl S b i c)))), (12, yi 0), (11, yi (gat m (i - 1) c)), (0, .ref a), (1, .ref s), (2, yi i), (5, yi (f i - b)), (7, yi (mn (S 1 - 1) (i + u))), (9, yi al), (10, yi c)]) (st' := []) (hp' := hl36) rfl ?_
            have e9 : mn 1000000000 (0 + (unl S b i c)) = far (fw (unl S b) (S 3) u i c) := by
              rw [cel, ← J3, ← J4 (by omega), ← u1]
              first
                | (rw [if_pos (by omega)]; have m3 := mn_rng 1000000000 (0 + unl S b i c); omega)
                | (rw [if_neg (by omega)]; done)
            refine E_run hk 4 (j' := 78) (lv' := [(8, yi (mn 1000000000 (0 + (unl S b i c)))), (12, yi 0), (11, yi (gat m (i - 1) c)), (0, .ref a), (1, .ref s), (2, yi i), (5, yi (f i - b)), (7, yi (mn (S 1 - 1) (i + u))), (9, yi al), (10, yi c)]) (st' := [yi (mn 1000000000 (0 + (unl S b i c))), yi c, yi i, .ref a]) (hp' := hl36) rfl ?_
            refine Y_call hk rfl (as := [.ref a, yi i, yi c, yi (mn 1000000000 (0 + (unl S b i c)))]) (rest := []) (v := none) rfl rfl (Nat.le_of_ble_eq_true rfl) (rcv0 (fr36.at (by simp only [List.mem_cons, List.not_mem_nil, or_false, not_or]; exact hap.2.2) ha)) (Nat.le_of_ble_eq_true rfl) (c_X0_put (i := i) (j := c) (x := (mn 1000000000 (0 + (unl S b i c)))) (a := a) (p := p) (k := m) ⟨by omega, by omega, by omega⟩ (fr36.at (by simp only [List.mem_cons, List.not_mem_nil, or_false, not_or]; exact hap.2.2) ha) ec36_p (by omega)) (fun H8 r9 => ?_)
            obtain ⟨e_H8, f_H8⟩ := r9
            refine E_run hk 2 (j' := 81) (lv' := [(9, yi (gat m (i - 1) c)), (8, yi (mn 1000000000 (0 + (unl S b i c)))), (12, yi 0), (11, yi (gat m (i - 1) c)), (0, .ref a), (1, .ref s), (2, yi i), (5, yi (f i - b)), (7, yi (mn (S 1 - 1) (i + u))), (10, yi c)]) (st' := []) (hp' := H8) rfl ?_
            refine Y_iinc (a := c) (z := 1) hk rfl rfl rfl (by decide) (lv' := [(10, yi (c + 1)), (9, yi (gat m (i - 1) c)), (8, yi (mn 1000000000 (0 + (unl S b i c)))), (12, yi 0), (11, yi (gat m (i - 1) c)), (0, .ref a), (1, .ref s), (2, yi i), (5, yi (f i - b)), (7, yi (mn (S 1 - 1) (i + u)))]) rfl ?_
            refine E_run hk 1 (j' := 36) (lv' := [(10, yi (c + 1)), (9, yi (gat m (i - 1) c)), (8, yi (mn 1000000000 (0 + (unl S b i c)))), (12, yi 0), (11, yi (gat m (i - 1) c)), (0, .ref a), (1, .ref s), (2, yi i), (5, yi (f i - b)), (7, yi (mn (S 1 - 1) (i + u)))]) (st' := []) (hp' := H8) rfl ?_
            exact Ev_le (xle_s rfl rfl (xle_s rfl rfl (xle_s rfl rfl (xle_s rfl rfl (xle_s rfl rfl (xle_s rfl rfl (xle_s rfl rfl (xle_s rfl rfl (xle_z _ rfl))))))))) (ih36 _ (by omega) (c + 1) (mn 1000000000 (0 + (unl S b i c))) (gat m (i - 1) c) (up m (20 * i + c) (mn 1000000000 (0 + (unl S b i c)))) H8 (by omega) (fun x y x1 x2 y1 y2 => by
        rw [up_ne _ _ (by omega)]
        exact J2 x y x1 x2 y1 y2) (by rw [show c + 1 - 1 = c by omega]; exact e9) (fun _ => by rw [show c + 1 - 1 = c by omega]; exact u1) (fun y y1 y2 => by
        by_cases e : y = c
        · subst e
          rw [up_self]
          exact e9
        · rw [up_ne _ _ (by omega)]
          exact J5 y y1 (by omega)) (fun q q1 q2 => by
        rw [up_ne _ _ (by omega)]
        exact J6 q (by omega) q2) e_H8 (yfr.tr fr36 f_H8 (fun _ h => h) (by simp)) rfl)
  exact Ev_le (xle_s rfl rfl (xle_s rfl rfl (xle_s rfl rfl (xle_s rfl rfl (xle_s rfl rfl (xle_s rfl rfl (xle_s rfl rfl (xle_s rfl rfl (xle_z _ rfl))))))))) (loop36 _ (mx 0 (i - u)) 1000000000 (gat k (i - 1) ((mx 0 (i - u)) - 1)) k hp (by omega) (hJ.1) (by rw [fw_band (by omega)]; rfl) (fun q0 => gat_fw (by omega) (fun q1 q2 => hJ.1 _ _ (by omega) (by omega) (by omega) (by omega))) (fun y y1 y2 => by rw [hJ.2 _ (by omega) (by omega), fw_band (by omega)]; rfl) (fun q q1 q2 => hJ.2 q (by omega) q2) hk1 (yfr.refl _ _) rfl)
theorem c_X0_tellFromBegin {d : Nat} {hp : xH} {a p : Nat} (hap : 28 ≤ a ∧ 28 ≤ p ∧ a ≠ p) {k : Int → Int} (ha : xat hp a = some (.inr (1, [.ref p]))) (hk1 : xat hp p = some (yI 400 k)) {s z o : Nat} {S f g : Int → Int} {r t : Int} (hS : yS hp s z o S f g r t) (hne : (a < s ∨ s + 5 ≤ a) ∧ (p < s ∨ s + 5 ≤ p)) (hz : 0 ≤ S 0 ∧ S 0 ≤ 20 ∧ 0 ≤ S 1 ∧ S 1 ≤ 20 ∧ 0 ≤ S 2 ∧ S 2 ≤ 20 ∧ 0 ≤ S 3 ∧ S 3 ≤ 50 ∧ 0 ≤ S 4 ∧ S 4 ≤ 3) (h0 : ∀ q, 0 ≤ q → q < S 0 → 0 ≤ S (7 + q) ∧ S (7 + q) ≤ 60) (h1 : ∀ q, 0 ≤ q → q < S 1 → 0 ≤ S (27 + q) ∧ S (27 + q) ≤ 60) {b u : Int} (hb : -12 ≤ b ∧ b ≤ 12) (hu : 0 ≤ u ∧ u ≤ 20) (hd : 2 ≤ d) : Cv d 4 [.ref a, .ref s, yi b, yi u] hp (yR none (fun h => ∃ m, xat h p = some (yI 400 m) ∧ (∀ x y, 0 ≤ x → x < S 0 → 0 ≤ y → y < S 1 → m (20 * x + y) = far (fw (unl S b) (S 3) u x y)) ∧ yfr [p] hp h)) := by
  have hk : xtab 4 = (xc_4, 5, 0, []) := rfl
  obtain ⟨d, rfl⟩ : ∃ e, d = e + 1 := ⟨d - 1, by omega⟩
  obtain ⟨hid, hs_, hz_, ho_, hf_, hg_, ef, eg⟩ := hS
  show Ev (d + 1) 4 0 [(0, .ref a), (1, .ref s), (2, yi b), (3, yi u)] [] hp _
  refine E_run hk 1 (j' := 1) (lv' := [(0, .ref a), (1, .ref s), (2, yi b), (3, yi u)]) (st' := [.ref a]) (hp' := hp) rfl ?_
  refine Y_call hk rfl (as := [.ref a]) (rest := []) (v := none) rfl rfl (Nat.le_of_ble_eq_true rfl) (rcv0 ha) (Nat.le_of_ble_eq_true rfl) (c_X0_clear (a := a) (p := p) (k := k) ⟨by omega, by omega, by omega⟩ ha hk1 (hd := by omega)) (fun H1 r2 => ?_)
  obtain ⟨F_H1, e_H1, a_H1, f_H1⟩ := r2
  refine E_run hk 2 (j' := 4) (lv' := [(4, yi 0), (0, .ref a), (1, .ref s), (2, yi b), (3, yi u)]) (st' := []) (hp' := H1) rfl ?_
  have loop4 : ∀ (N : Nat) (i : Int) (m : Int → Int) (hl4 : xH), (0 ≤ i ∧ i ≤ S 0) → (∀ x y, 0 ≤ x → x < i → 0 ≤ y → y < S 1 → m (20 * x + y) = far (fw (unl S b) (S 3) u x y)) → (∀ q, 20 * i ≤ q → q < 400 → m q = 1000000000) → (xat hl4 p = some (yI 400 m)) → (yfr [p] H1 hl4) → (S 0 - i).toNat = N → Ev (d + 1) 4 4 [(0, .ref a), (1, .ref s), (2, yi b), (3, yi u), (4, yi i)] [] hl4 (yR none (fun h => ∃ m, xat h p = some (yI 400 m) ∧ (∀ x y, 0 ≤ x → x < S 0 → 0 ≤ y → y < S 1 → m (20 * x + y) = far (fw (unl S b) (S 3) u x y)) ∧ yfr [p] hp h)) := by
    intro N
    induction N using Nat.strongRecOn with
    | ind N ih4 =>
      intro i m hl4 J1 J2 J6 ec4_p fr4 hm4
      refine E_run hk 1 (j' := 5) (lv' := [(0, .ref a), (1, .ref s), (2, yi b), (3, yi u), (4, yi i)]) (st' := [yi i]) (hp' := hl4) rfl ?_
      refine E_run hk 1 (j' := 6) (lv' := [(0, .ref a), (1, .ref s), (2, yi b), (3, yi u), (4, yi i)]) (st' := [.ref s, yi i]) (hp' := hl4) rfl ?_
      refine E_get (v := .ref z) hk rfl (fr4.at (by simp only [List.mem_cons, List.not_mem_nil, or_false, not_or]; exact (by omega)) (f_H1.at (by simp only [List.mem_cons, List.not_mem_nil, or_false, not_or]; exact (by omega)) hs_)) rfl ?_
      refine E_get (v := yi (S 0)) hk rfl (fr4.at (by simp only [List.mem_cons, List.not_mem_nil, or_false, not_or]; exact (by omega)) (f_H1.at (by simp only [List.mem_cons, List.not_mem_nil, or_false, not_or]; exact (by omega)) hz_)) rfl ?_
      refine Y_ic_ge (a := i) (b := (S 0)) (by omega) hk rfl (fun g3 => ?_) (fun g3 => ?_)
      ·
        exact E_ret hk rfl rfl ⟨rfl, _, ec4_p, fun x y x1 x2 y1 y2 => J2 x y x1 (by omega) y1 y2, (yfr.tr f_H1 fr4 (fun _ h => h) (by simp))⟩
      ·
        refine E_run hk 5 (j' := 14) (lv' := [(0, .ref a), (1, .ref s), (2, yi b), (3, yi u), (4, yi i)]) (st' := [yi u, yi b, yi i, .ref s, .ref a]) (hp' := hl4) rfl ?_
        refine Y_call hk rfl (as := [.ref a, .ref s, yi i, yi b, yi u]) (rest := []) (v := none) rfl rfl (Nat.le_of_ble_eq_true rfl) (rcv0 (fr4.at (by simp only [List.mem_cons, List.not_mem_nil, or_false, not_or]; exact hap.2.2) (f_H1.at (by simp only [List.mem_cons, List.not_mem_nil, or_false, not_or]; exact hap.2.2) ha))) (Nat.le_of_ble_eq_true rfl) (c_X0_tellRowFromBegin (i := i) (b := b) (u := u) (a := a) (p := p) (k := m) ⟨by omega, by omega, by omega⟩ (fr4.at (by simp only [List.mem_cons, List.not_mem_nil, or_false, not_or]; exact hap.2.2) (f_H1.at (by simp only [List.mem_cons, List.not_mem_nil, or_false, not_or]; exact hap.2.2) ha)) ec4_p ⟨hid, (fr4.at (by simp only [List.mem_cons, List.not_mem_nil, or_false, not_or]; exact (by omega)) (f_H1.at (by simp only [List.mem_cons, List.not_mem_nil, or_false, not_or]; exact (by omega)) hs_)), (fr4.at (by simp only [List.mem_cons, List.not_mem_nil, or_false, not_or]; exact (by omega)) (f_H1.at (by simp only [List.mem_cons, List.not_mem_nil, or_false, not_or]; exact (by omega)) hz_)), (fr4.at (by simp only [List.mem_cons, List.not_mem_nil, or_false, not_or]; exact (by omega)) (f_H1.at (by simp only [List.mem_cons, List.not_mem_nil, or_false, not_or]; exact (by omega)) ho_)), (fr4.at (by simp only [List.mem_cons, List.not_mem_nil, or_false, not_or]; exact (by omega)) (f_H1.at (by simp only [List.mem_cons, List.not_mem_nil, or_false, not_or]; exact (by omega)) hf_)), (fr4.at (by simp only [List.mem_cons, List.not_mem_nil, or_false, not_or]; exact (by omega)) (f_H1.at (by simp only [List.mem_cons, List.not_mem_nil, or_false, not_or]; exact (by omega)) hg_)), ef, eg⟩ (by omega) hz h0 h1 (by omega) (by omega) (by omega) ⟨J2, J6⟩ (hd := by omega)) (fun H4 r5 => ?_)
        obtain ⟨F_H4, e_H4, a_H4, b_H4, f_H4⟩ := r5
        refine Y_iinc (a := i) (z := 1) hk rfl rfl rfl (by decide) (lv' := [(4, yi (i + 1)), (0, .ref a), (1, .ref s), (2, yi b), (3, yi u)]) rfl ?_
        refine E_run hk 1 (j' := 4) (lv' := [(4, yi (i + 1)), (0, .ref a), (1, .ref s), (2, yi b), (3, yi u)]) (st' := []) (hp' := H4) rfl ?_
        exact Ev_le (xle_s rfl rfl (xle_s rfl rfl (xle_s rfl rfl (xle_s rfl rfl (xle_s rfl rfl (xle_z _ rfl)))))) (ih4 _ (by omega) (i + 1) F_H4 H4 (by omega) (fun x y x1 x2 y1 y2 => a_H4 x y x1 x2 y1 y2) (fun q q1 q2 => b_H4 q q1 q2) e_H4 (yfr.tr fr4 f_H4 (fun _ h => h) (by simp)) rfl)
  exact Ev_le (xle_s rfl rfl (xle_s rfl rfl (xle_s rfl rfl (xle_s rfl rfl (xle_s rfl rfl (xle_z _ rfl)))))) (loop4 _ 0 F_H1 H1 (by omega) (fun x y q1 q2 => absurd q1 (by omega)) (fun q q1 q2 => a_H1 q (by omega) q2) e_H1 (yfr.refl _ _) rfl)
theorem rowcell2 {D : Int → Int → Int} {w b m n i c : Int} (hw : 0 ≤ w ∧ w ≤ 50) (h : 0 ≤ i ∧ 0 ≤ c ∧ i < m ∧ c < n ∧ m ≤ 20 ∧ n ≤ 20 ∧ -b ≤ i - c ∧ i - c ≤ b) (hD : 0 ≤ D i c ∧ D i c ≤ 5184) (r1 : 0 ≤ bw D w b m n (i + 1) c ∧ (bw D w b m n (i + 1) c = 100000000 ∨ (i + 1 < m ∧ c < n ∧ bw D w b m n (i + 1) c ≤ 5234 * (m - (i + 1) + n - c)))) (r2 : 0 ≤ bw D w b m n (i + 1) (c + 1) ∧ (bw D w b m n (i + 1) (c + 1) = 100000000 ∨ (i + 1 < m ∧ c + 1 < n ∧ bw D w b m n (i + 1) (c + 1) ≤ 5234 * (m - (i + 1) + n - (c + 1))))) (r3 : 0 ≤ bw D w b m n i (c + 1) ∧ (bw D w b m n i (c + 1) = 100000000 ∨ (i < m ∧ c + 1 < n ∧ bw D w b m n i (c + 1) ≤ 5234 * (m - i + n - (c + 1))))) :
    far (bw D w b m n i c) = if i = m - 1 ∧ c = n - 1 then D i c else mn 1000000000 (mn (far (bw D w b m n (i + 1) (c + 1))) (mn (far (bw D w b m n (i + 1) c)) (far (bw D w b m n i (c + 1))) + w) + D i c) := by
  have k1 := far_rng (bw D w b m n (i + 1) c)
  have k2 := far_rng (bw D w b m n (i + 1) (c + 1))
  have k3 := far_rng (bw D w b m n i (c + 1))
  have s1 := least_rng (bw D w b m n (i + 1) c) (bw D w b m n i (c + 1))
  have s2 := least_rng (bw D w b m n (i + 1) (c + 1)) (least (bw D w b m n (i + 1) c) (bw D w b m n i (c + 1)) + w)
  have fe : bw D w b m n i c = if -b ≤ i - c ∧ i - c ≤ b ∧ bwt D w b m n i c < 100000000 then bwt D w b m n i c + D i c else 100000000 := bw_in (by omega)
  have ff : bwt D w b m n i c = if i = m - 1 ∧ c = n - 1 then 0 else least (bw D w b m n (i + 1) (c + 1)) (least (bw D w b m n (i + 1) c) (bw D w b m n i (c + 1)) + w) := rfl
  have m1 := mn_rng (far (bw D w b m n (i + 1) c)) (far (bw D w b m n i (c + 1)))
  have m2 := mn_rng (far (bw D w b m n (i + 1) (c + 1))) (mn (far (bw D w b m n (i + 1) c)) (far (bw D w b m n i (c + 1))) + w)
  have m3 := mn_rng 1000000000 (mn (far (bw D w b m n (i + 1) (c + 1))) (mn (far (bw D w b m n (i + 1) c)) (far (bw D w b m n i (c + 1))) + w) + D i c)
  have k4 := far_rng (bw D w b m n i c)
  by_cases e : i = m - 1 ∧ c = n - 1
  · rw [if_pos e] at ff ⊢
    rw [ff, if_pos (by omega)] at fe
    omega
  · rw [if_neg e] at ff ⊢
    split at fe <;> omega
theorem c_X0_tellRowFromEnd {d : Nat} {hp : xH} {a p : Nat} (hap : 28 ≤ a ∧ 28 ≤ p ∧ a ≠ p) {k : Int → Int} (ha : xat hp a = some (.inr (1, [.ref p]))) (hk1 : xat hp p = some (yI 400 k)) {s z o : Nat} {S f g : Int → Int} {r t : Int} (hS : yS hp s z o S f g r t) (hne : (a < s ∨ s + 5 ≤ a) ∧ (p < s ∨ s + 5 ≤ p)) (hz : 0 ≤ S 0 ∧ S 0 ≤ 20 ∧ 0 ≤ S 1 ∧ S 1 ≤ 20 ∧ 0 ≤ S 2 ∧ S 2 ≤ 20 ∧ 0 ≤ S 3 ∧ S 3 ≤ 50 ∧ 0 ≤ S 4 ∧ S 4 ≤ 3) (h0 : ∀ q, 0 ≤ q → q < S 0 → 0 ≤ S (7 + q) ∧ S (7 + q) ≤ 60) (h1 : ∀ q, 0 ≤ q → q < S 1 → 0 ≤ S (27 + q) ∧ S (27 + q) ≤ 60) {i : Int} (hi : 0 ≤ i ∧ i < S 0) (hJ : (∀ x y, i < x → x < S 0 → 0 ≤ y → y < S 1 → k (20 * x + y) = far (bw (unl S 0) (S 3) (S 2) (S 0) (S 1) x y)) ∧ (∀ x y, 0 ≤ x → x < 20 → 0 ≤ y → y < 20 → (x ≤ i ∨ S 0 ≤ x ∨ S 1 ≤ y) → k (20 * x + y) = 1000000000)) (hd : 2 ≤ d) : Cv d 7 [.ref a, .ref s, yi i] hp (yR none (fun h => ∃ m, xat h p = some (yI 400 m) ∧ (∀ x y, i - 1 < x → x < S 0 → 0 ≤ y → y < S 1 → m (20 * x + y) = far (bw (unl S 0) (S 3) (S 2) (S 0) (S 1) x y)) ∧ (∀ x y, 0 ≤ x → x < 20 → 0 ≤ y → y < 20 → (x ≤ i - 1 ∨ S 0 ≤ x ∨ S 1 ≤ y) → m (20 * x + y) = 1000000000) ∧ yfr [p] hp h)) := by
  have hk : xtab 7 = (xc_7, 10, 0, []) := rfl
  obtain ⟨d, rfl⟩ : ∃ e, d = e + 1 := ⟨d - 1, by omega⟩
  obtain ⟨hid, hs_, hz_, ho_, hf_, hg_, ef, eg⟩ := hS
  have hDD : ∀ i j, 0 ≤ i → i < S 0 → 0 ≤ j → j < S 1 → 0 ≤ unl S 0 i j ∧ unl S 0 i j ≤ 5184 := fun i j a1 a2 a3 a4 => unl_rng hz h0 h1 (by omega) a1 a2 a3 a4
  have x1 := mx_rng 0 (i - S 2)
  have x2 := mn_rng (S 1 - 1) (i + S 2)
  show Ev (d + 1) 7 0 [(0, .ref a), (1, .ref s), (2, yi i)] [] hp _
  refine E_run hk 3 (j' := 3) (lv' := [(0, .ref a), (1, .ref s), (2, yi i)]) (st' := [.ref s, yi i, yi 0]) (hp' := hp) rfl ?_
  refine E_get (v := yi (S 2)) hk rfl hs_ rfl ?_
  refine Y_isub (a := i) (b := (S 2)) hk rfl ?_
  refine Y_max (a := 0) (b := (i - (S 2))) (by omega) hk rfl (Nat.le_of_ble_eq_true rfl) ?_
  refine E_run hk 2 (j' := 8) (lv' := [(3, yi (mx 0 (i - (S 2)))), (0, .ref a), (1, .ref s), (2, yi i)]) (st' := [.ref s]) (hp' := hp) rfl ?_
  refine E_get (v := .ref o) hk rfl hs_ rfl ?_
  refine E_get (v := yi (S 1)) hk rfl ho_ rfl ?_
  refine E_run hk 1 (j' := 11) (lv' := [(3, yi (mx 0 (i - (S 2)))), (0, .ref a), (1, .ref s), (2, yi i)]) (st' := [yi 1, yi (S 1)]) (hp' := hp) rfl ?_
  refine Y_isub (a := (S 1)) (b := 1) hk rfl ?_
  refine E_run hk 2 (j' := 14) (lv' := [(3, yi (mx 0 (i - (S 2)))), (0, .ref a), (1, .ref s), (2, yi i)]) (st' := [.ref s, yi i, yi ((S 1) - 1)]) (hp' := hp) rfl ?_
  refine E_get (v := yi (S 2)) hk rfl hs_ rfl ?_
  refine Y_iadd (a := i) (b := (S 2)) hk rfl ?_
  refine Y_min (a := ((S 1) - 1)) (b := (i + (S 2))) (by omega) hk rfl (Nat.le_of_ble_eq_true rfl) ?_
  refine E_run hk 6 (j' := 23) (lv' := [(5, yi 1000000000), (4, yi (mn ((S 1) - 1) (i + (S 2)))), (3, yi (mx 0 (i - (S 2)))), (0, .ref a), (1, .ref s), (2, yi i)]) (st' := [yi 1, yi i, .ref a]) (hp' := hp) rfl ?_
  refine Y_iadd (a := i) (b := 1) hk rfl ?_
  refine E_run hk 2 (j' := 26) (lv' := [(5, yi 1000000000), (4, yi (mn ((S 1) - 1) (i + (S 2)))), (3, yi (mx 0 (i - (S 2)))), (0, .ref a), (1, .ref s), (2, yi i)]) (st' := [yi 1, yi (mn ((S 1) - 1) (i + (S 2))), yi (i + 1), .ref a]) (hp' := hp) rfl ?_
  refine Y_iadd (a := (mn ((S 1) - 1) (i + (S 2)))) (b := 1) hk rfl ?_
  refine Y_callP hk rfl (as := [.ref a, yi (i + 1), yi ((mn ((S 1) - 1) (i + (S 2))) + 1)]) (rest := []) (v := some (yi (gat k (i + 1) ((mn ((S 1) - 1) (i + (S 2))) + 1)))) rfl rfl (Nat.le_of_ble_eq_true rfl) (rcv0 ha) (Nat.le_of_ble_eq_true rfl) (c_X0_at (i := (i + 1)) (j := ((mn ((S 1) - 1) (i + (S 2))) + 1)) (a := a) (p := p) (k := k) ⟨by omega, by omega, by omega⟩ ha hk1 (by omega)) ?_
  refine E_run hk 3 (j' := 31) (lv' := [(7, yi (mn ((S 1) - 1) (i + (S 2)))), (6, yi (gat k (i + 1) ((mn ((S 1) - 1) (i + (S 2))) + 1))), (5, yi 1000000000), (4, yi (mn ((S 1) - 1) (i + (S 2)))), (3, yi (mx 0 (i - (S 2)))), (0, .ref a), (1, .ref s), (2, yi i)]) (st' := []) (hp' := hp) rfl ?_
  have loop31 : ∀ (N : Nat) (c : Int) (l : Int) (al : Int) (m : Int → Int) (hl31 : xH), (c ≤ mn (S 1 - 1) (i + S 2) ∧ (mx 0 (i - S 2) - 1 ≤ c ∨ c = mn (S 1 - 1) (i + S 2))) → (∀ x y, i < x → x < S 0 → 0 ≤ y → y < S 1 → m (20 * x + y) = far (bw (unl S 0) (S 3) (S 2) (S 0) (S 1) x y)) → (l = far (bw (unl S 0) (S 3) (S 2) (S 0) (S 1) i (c + 1))) → (al = far (bw (unl S 0) (S 3) (S 2) (S 0) (S 1) (i + 1) (c + 1))) → (∀ y, c < y → y < S 1 → m (20 * i + y) = far (bw (unl S 0) (S 3) (S 2) (S 0) (S 1) i y)) → (∀ x y, 0 ≤ x → x < 20 → 0 ≤ y → y < 20 → (x < i ∨ S 0 ≤ x ∨ S 1 ≤ y) → m (20 * x + y) = 1000000000) → (∀ y, 0 ≤ y → y < 20 → y ≤ c → m (20 * i + y) = 1000000000) → (xat hl31 p = some (yI 400 m)) → (yfr [p] hp hl31) → (c + 1).toNat = N → Ev (d + 1) 7 31 [(0, .ref a), (1, .ref s), (2, yi i), (3, yi (mx 0 (i - S 2))), (5, yi l), (6, yi al), (7, yi c)] [] hl31 (yR none (fun h => ∃ m, xat h p = some (yI 400 m) ∧ (∀ x y, i - 1 < x → x < S 0 → 0 ≤ y → y < S 1 → m (20 * x + y) = far (bw (unl S 0) (S 3) (S 2) (S 0) (S 1) x y)) ∧ (∀ x y, 0 ≤ x → x < 20 → 0 ≤ y → y < 20 → (x ≤ i - 1 ∨ S 0 ≤ x ∨ S 1 ≤ y) → m (20 * x + y) = 1000000000) ∧ yfr [p] hp h)) := by
    intro N
    induction N using Nat.strongRecOn with
    | ind N ih31 =>
      intro c l al m hl31 J1 J2 J3 J4 J5 J6 J7 ec31_p fr31 hm31
      refine E_run hk 1 (j' := 32) (lv' := [(0, .ref a), (1, .ref s), (2, yi i), (3, yi (mx 0 (i - S 2))), (5, yi l), (6, yi al), (7, yi c)]) (st' := [yi c]) (hp' := hl31) rfl ?_
      refine E_run hk 1 (j' := 33) (lv' := [(0, .ref a), (1, .ref s), (2, yi i), (3, yi (mx 0 (i - S 2))), (5, yi l), (6, yi al), (7, yi c)]) (st' := [yi (mx 0 (i - S 2)), yi c]) (hp' := hl31) rfl ?_
      refine Y_ic_lt (a := c) (b := (mx 0 (i - S 2))) (by omega) hk rfl (fun g1 => ?_) (fun g1 => ?_)
      ·
        exact E_ret hk rfl rfl ⟨rfl, _, ec31_p, fun x y x1 x2 y1 y2 => by
          by_cases e : x = i
          · rw [e]
            by_cases e2 : c < y
            · exact J5 y e2 y2
            · rw [J7 y y1 (by omega) (by omega), bw_band (by omega)]
              rfl
          · exact J2 x y (by omega) x2 y1 y2, fun x y x1 x2 y1 y2 q => J6 x y x1 x2 y1 y2 (by omega), fr31⟩
      ·
        have hD := unl_rng (b := 0) hz h0 h1 (by omega) (i := i) (j := c) (by omega) (by omega) (by omega) (by omega)
        have u1 : gat m (i + 1) c = far (bw (unl S 0) (S 3) (S 2) (S 0) (S 1) (i + 1) c) := gat_bw (by omega) (fun q1 q2 => J2 _ _ (by omega) q1 (by omega) q2) (fun q1 q2 q3 => J6 _ _ (by omega) q2 (by omega) q3 (by omega))
        have r1 := bw_rng (b := S 2) (w := S 3) (m := S 0) (n := S 1) (by omega) hDD _ (i + 1) c (by omega) (by omega) rfl
        have r2 := bw_rng (b := S 2) (w := S 3) (m := S 0) (n := S 1) (by omega) hDD _ (i + 1) (c + 1) (by omega) (by omega) rfl
        have r3 := bw_rng (b := S 2) (w := S 3) (m := S 0) (n := S 1) (by omega) hDD _ i (c + 1) (by omega) (by omega) rfl
        have cel := rowcell2 (D := unl S 0) (w := S 3) (b := S 2) (m := S 0) (n := S 1) (i := i) (c := c) (by omega) (by omega) hD r1 r2 r3
        have m1 := mn_rng (gat m (i + 1) c) l
        have m2 := mn_rng al (mn (gat m (i + 1) c) l + S 3)
        have k1 := far_rng (bw (unl S 0) (S 3) (S 2) (S 0) (S 1) (i + 1) c)
        have k2 := far_rng (bw (unl S 0) (S 3) (S 2) (S 0) (S 1) (i + 1) (c + 1))
        have k3 := far_rng (bw (unl S 0) (S 3) (S 2) (S 0) (S 1) i (c + 1))
        refine E_run hk 3 (j' := 37) (lv' := [(0, .ref a), (1, .ref s), (2, yi i), (3, yi (mx 0 (i - S 2))), (5, yi l), (6, yi al), (7, yi c)]) (st' := [yi 1, yi i, .ref a]) (hp' := hl31) rfl ?_
        refine Y_iadd (a := i) (b := 1) hk rfl ?_
        refine E_run hk 1 (j' := 39) (lv' := [(0, .ref a), (1, .ref s), (2, yi i), (3, yi (mx 0 (i - S 2))), (5, yi l), (6, yi al), (7, yi c)]) (st' := [yi c, yi (i + 1), .ref a]) (hp' := hl31) rfl ?_
        refine Y_callP hk rfl (as := [.ref a, yi (i + 1), yi c]) (rest := []) (v := some (yi (gat m (i + 1) c))) rfl rfl (Nat.le_of_ble_eq_true rfl) (rcv0 (fr31.at (by simp only [List.mem_cons, List.not_mem_nil, or_false, not_or]; exact hap.2.2) ha)) (Nat.le_of_ble_eq_true rfl) (c_X0_at (i := (i + 1)) (j := c) (a := a) (p := p) (k := m) ⟨by omega, by omega, by omega⟩ (fr31.at (by simp only [List.mem_cons, List.not_mem_nil, or_false, not_or]; exact hap.2.2) ha) ec31_p (by omega)) ?_
        refine E_run hk 4 (j' := 44) (lv' := [(8, yi (gat m (i + 1) c)), (0, .ref a), (1, .ref s), (2, yi i), (3, yi (mx 0 (i - S 2))), (5, yi l), (6, yi al), (7, yi c)]) (st' := [yi l, yi (gat m (i + 1) c), yi al]) (hp' := hl31) rfl ?_
        refine Y_min (a := (gat m (i + 1) c)) (b := l) (by omega) hk rfl (Nat.le_of_ble_eq_true rfl) ?_
        refine E_run hk 1 (j' := 46) (lv' := [(8, yi (gat m (i + 1) c)), (0, .ref a), (1, .ref s), (2, yi i), (3, yi (mx 0 (i - S 2))), (5, yi l), (6, yi al), (7, yi c)]) (st' := [.ref s, yi (mn (gat m (i + 1) c) l), yi al]) (hp' := hl31) rfl ?_
        refine E_get (v := yi (S 3)) hk rfl (fr31.at (by simp only [List.mem_cons, List.not_mem_nil, or_false, not_or]; exact (by omega)) hs_) rfl ?_
        refine Y_iadd (a := (mn (gat m (i + 1) c) l)) (b := (S 3)) hk rfl ?_
        refine Y_min (a := al) (b := ((mn (gat m (i + 1) c) l) + (S 3))) (by omega) hk rfl (Nat.le_of_ble_eq_true rfl) ?_
        refine E_run hk 4 (j' := 53) (lv' := [(9, yi (mn al ((mn (gat m (i + 1) c) l) + (S 3)))), (8, yi (gat m (i + 1) c)), (0, .ref a), (1, .ref s), (2, yi i), (3, yi (mx 0 (i - S 2))), (5, yi l), (6, yi al), (7, yi c)]) (st' := [yi c, yi i, .ref s]) (hp' := hl31) rfl ?_
        refine Y_callP hk rfl (as := [.ref s, yi i, yi c]) (rest := []) (v := some (yi (b2 (i = S 0 - 1 ∧ c = S 1 - 1)))) rfl rfl (Nat.le_of_ble_eq_true rfl) (rcv0 (fr31.at (by simp only [List.mem_cons, List.not_mem_nil, or_false, not_or]; exact (by omega)) hs_)) (Nat.le_of_ble_eq_true rfl) (c_X5_isLastPair ⟨hid, (fr31.at (by simp only [List.mem_cons, List.not_mem_nil, or_false, not_or]; exact (by omega)) hs_), (fr31.at (by simp only [List.mem_cons, List.not_mem_nil, or_false, not_or]; exact (by omega)) hz_), (fr31.at (by simp only [List.mem_cons, List.not_mem_nil, or_false, not_or]; exact (by omega)) ho_), (fr31.at (by simp only [List.mem_cons, List.not_mem_nil, or_false, not_or]; exact (by omega)) hf_), (fr31.at (by simp only [List.mem_cons, List.not_mem_nil, or_false, not_or]; exact (by omega)) hg_), ef, eg⟩ (i := i) (j := c) (by omega) (by omega)) ?_
        refine Y_b_eq hk rfl (fun g2 => ?_) (fun g2 => ?_)
        ·
          refine E_run hk 5 (j' := 62) (lv' := [(9, yi (mn al ((mn (gat m (i + 1) c) l) + (S 3)))), (8, yi (gat m (i + 1) c)), (0, .ref a), (1, .ref s), (2, yi i), (3, yi (mx 0 (i - S 2))), (5, yi l), (6, yi al), (7, yi c)]) (st' := [yi c, yi i, .ref s, yi (mn al ((mn (gat m (i + 1) c) l) + (S 3))), yi 1000000000]) (hp' := hl31) rfl ?_
          refine Y_callP hk rfl (as := [.ref s, yi i, yi c]) (rest := [yi (mn al ((mn (gat m (i + 1) c) l) + (S 3))), yi 1000000000]) (v := some (yi (unl S 0 i c))) rfl rfl (Nat.le_of_ble_eq_true rfl) (rcv0 (fr31.at (by simp only [List.mem_cons, List.not_mem_nil, or_false, not_or]; exact (by omega)) hs_)) (Nat.le_of_ble_eq_true rfl) (c_X5_difference ⟨hid, (fr31.at (by simp only [List.mem_cons, List.not_mem_nil, or_false, not_or]; exact (by omega)) hs_), (fr31.at (by simp only [List.mem_cons, List.not_mem_nil, or_false, not_or]; exact (by omega)) hz_), (fr31.at (by simp only [List.mem_cons, List.not_mem_nil, or_false, not_or]; exact (by omega)) ho_), (fr31.at (by simp only [List.mem_cons, List.not_mem_nil, or_false, not_or]; exact (by omega)) hf_), (fr31.at (by simp only [List.mem_cons, List.not_mem_nil, or_false, not_or]; exact (by omega)) hg_), ef, eg⟩ hz h0 h1 (i := i) (j := c) (by omega) (hd := by omega)) ?_
          refine Y_iadd (a := (mn al ((mn (gat m (i + 1) c) l) + (S 3)))) (b := (unl S 0 i c)) hk rfl ?_
          refine Y_min (a := 1000000000) (b := ((mn al ((mn (gat m (i + 1) c) l) + (S 3))) + (unl S 0 i c))) (by omega) hk rfl (Nat.le_of_ble_eq_true rfl) ?_
          refine E_run hk 1 (j' := 66) (lv' := [(5, yi (mn 1000000000 ((mn al ((mn (gat m (i + 1) c) l) + (S 3))) + (unl S 0 i c)))), (9, yi (mn al ((mn (gat m (i + 1) c) l) + (S 3)))), (8, yi (gat m (i + 1) c)), (0, .ref a), (1, .ref s), (2, yi i), (3, yi (mx 0 (i - S 2))), (6, yi al), (7, yi c)]) (st' := []) (hp' := hl31) rfl ?_
          have e9 : mn 1000000000 ((mn al ((mn (gat m (i + 1) c) l) + (S 3))) + (unl S 0 i c)) = far (bw (unl S 0) (S 3) (S 2) (S 0) (S 1) i c) := by
            rw [cel, ← J3, ← J4, ← u1]
            first
              | (rw [if_pos (by omega)]; have m3 := mn_rng 1000000000 (0 + unl S 0 i c); omega)
              | (rw [if_neg (by omega)]; done)
          refine E_run hk 4 (j' := 70) (lv' := [(5, yi (mn 1000000000 ((mn al ((mn (gat m (i + 1) c) l) + (S 3))) + (unl S 0 i c)))), (9, yi (mn al ((mn (gat m (i + 1) c) l) + (S 3)))), (8, yi (gat m (i + 1) c)), (0, .ref a), (1, .ref s), (2, yi i), (3, yi (mx 0 (i - S 2))), (6, yi al), (7, yi c)]) (st' := [yi (mn 1000000000 ((mn al ((mn (gat m (i + 1) c) l) + (S 3))) + (unl S 0 i c))), yi c, yi i, .ref a]) (hp' := hl31) rfl ?_
          refine Y_call hk rfl (as := [.ref a, yi i, yi c, yi (mn 1000000000 ((mn al ((mn (gat m (i + 1) c) l) + (S 3))) + (unl S 0 i c)))]) (rest := []) (v := none) rfl rfl (Nat.le_of_ble_eq_true rfl) (rcv0 (fr31.at (by simp only [List.mem_cons, List.not_mem_nil, or_false, not_or]; exact hap.2.2) ha)) (Nat.le_of_ble_eq_true rfl) (c_X0_put (i := i) (j := c) (x := (mn 1000000000 ((mn al ((mn (gat m (i + 1) c) l) + (S 3))) + (unl S 0 i c)))) (a := a) (p := p) (k := m) ⟨by omega, by omega, by omega⟩ (fr31.at (by simp only [List.mem_cons, List.not_mem_nil, or_false, not_or]; exact hap.2.2) ha) ec31_p (by omega)) (fun H3 r4 => ?_)
          obtain ⟨e_H3, f_H3⟩ := r4
          refine E_run hk 2 (j' := 73) (lv' := [(6, yi (gat m (i + 1) c)), (5, yi (mn 1000000000 ((mn al ((mn (gat m (i + 1) c) l) + (S 3))) + (unl S 0 i c)))), (9, yi (mn al ((mn (gat m (i + 1) c) l) + (S 3)))), (8, yi (gat m (i + 1) c)), (0, .ref a), (1, .ref s), (2, yi i), (3, yi (mx 0 (i - S 2))), (7, yi c)]) (st' := []) (hp' := H3) rfl ?_
          refine Y_iinc (a := c) (z := (-1)) hk rfl rfl rfl (by decide) (lv' := [(7, yi (c + (-1))), (6, yi (gat m (i + 1) c)), (5, yi (mn 1000000000 ((mn al ((mn (gat m (i + 1) c) l) + (S 3))) + (unl S 0 i c)))), (9, yi (mn al ((mn (gat m (i + 1) c) l) + (S 3)))), (8, yi (gat m (i + 1) c)), (0, .ref a), (1, .ref s), (2, yi i), (3, yi (mx 0 (i - S 2)))]) rfl ?_
          refine E_run hk 1 (j' := 31) (lv' := [(7, yi (c + (-1))), (6, yi (gat m (i + 1) c)), (5, yi (mn 1000000000 ((mn al ((mn (gat m (i + 1) c) l) + (S 3))) + (unl S 0 i c)))), (9, yi (mn al ((mn (gat m (i + 1) c) l) + (S 3)))), (8, yi (gat m (i + 1) c)), (0, .ref a), (1, .ref s), (2, yi i), (3, yi (mx 0 (i - S 2)))]) (st' := []) (hp' := H3) rfl ?_
          exact Ev_le (xle_s rfl rfl (xle_s rfl rfl (xle_s rfl rfl (xle_s rfl rfl (xle_s rfl rfl (xle_s rfl rfl (xle_s rfl rfl (xle_z _ rfl)))))))) (ih31 _ (by omega) (c + (-1)) (mn 1000000000 ((mn al ((mn (gat m (i + 1) c) l) + (S 3))) + (unl S 0 i c))) (gat m (i + 1) c) (up m (20 * i + c) (mn 1000000000 ((mn al ((mn (gat m (i + 1) c) l) + (S 3))) + (unl S 0 i c)))) H3 (by omega) (fun x y x1 x2 y1 y2 => by
        rw [up_ne _ _ (by omega)]
        exact J2 x y x1 x2 y1 y2) (by rw [show c + (-1) + 1 = c by omega]; exact e9) (by rw [show c + (-1) + 1 = c by omega]; exact u1) (fun y y1 y2 => by
        by_cases e : y = c
        · subst e
          rw [up_self]
          exact e9
        · rw [up_ne _ _ (by omega)]
          exact J5 y (by omega) y2) (fun x y x1 x2 y1 y2 q => by
        rw [up_ne _ _ (by omega)]
        exact J6 x y x1 x2 y1 y2 q) (fun y y1 y2 y3 => by
        rw [up_ne _ _ (by omega)]
        exact J7 y y1 y2 (by omega)) e_H3 (yfr.tr fr31 f_H3 (fun _ h => h) (by simp)) rfl)
        ·
          refine E_run hk 7 (j' := 62) (lv' := [(9, yi 0), (8, yi (gat m (i + 1) c)), (0, .ref a), (1, .ref s), (2, yi i), (3, yi (mx 0 (i - S 2))), (5, yi l), (6, yi al), (7, yi c)]) (st' := [yi c, yi i, .ref s, yi 0, yi 1000000000]) (hp' := hl31) rfl ?_
          refine Y_callP hk rfl (as := [.ref s, yi i, yi c]) (rest := [yi 0, yi 1000000000]) (v := some (yi (unl S 0 i c))) rfl rfl (Nat.le_of_ble_eq_true rfl) (rcv0 (fr31.at (by simp only [List.mem_cons, List.not_mem_nil, or_false, not_or]; exact (by omega)) hs_)) (Nat.le_of_ble_eq_true rfl) (c_X5_difference ⟨hid, (fr31.at (by simp only [List.mem_cons, List.not_mem_nil, or_false, not_or]; exact (by omega)) hs_), (fr31.at (by simp only [List.mem_cons, List.not_mem_nil, or_false, not_or]; exact (by omega)) hz_), (fr31.at (by simp only [List.mem_cons, List.not_mem_nil, or_false, not_or]; exact (by omega)) ho_), (fr31.at (by simp only [List.mem_cons, List.not_mem_nil, or_false, not_or]; exact (by omega)) hf_), (fr31.at (by simp only [List.mem_cons, List.not_mem_nil, or_false, not_or]; exact (by omega)) hg_), ef, eg⟩ hz h0 h1 (i := i) (j := c) (by omega) (hd := by omega)) ?_
          refine Y_iadd (a := 0) (b := (unl S 0 i c)) hk rfl ?_
          refine Y_min (a := 1000000000) (b := (0 + (unl S 0 i c))) (by omega) hk rfl (Nat.le_of_ble_eq_true rfl) ?_
          refine E_run hk 1 (j' := 66) (lv' := [(5, yi (mn 1000000000 (0 + (unl S 0 i c)))), (9, yi 0), (8, yi (gat m (i + 1) c)), (0, .ref a), (1, .ref s), (2, yi i), (3, yi (mx 0 (i - S 2))), (6, yi al), (7, yi c)]) (st' := []) (hp' := hl31) rfl ?_
          have e9 : mn 1000000000 (0 + (unl S 0 i c)) = far (bw (unl S 0) (S 3) (S 2) (S 0) (S 1) i c) := by
            rw [cel, ← J3, ← J4, ← u1]
            first
              | (rw [if_pos (by omega)]; have m3 := mn_rng 1000000000 (0 + unl S 0 i c); omega)
              | (rw [if_neg (by omega)]; done)
          refine E_run hk 4 (j' := 70) (lv' := [(5, yi (mn 1000000000 (0 + (unl S 0 i c)))), (9, yi 0), (8, yi (gat m (i + 1) c)), (0, .ref a), (1, .ref s), (2, yi i), (3, yi (mx 0 (i - S 2))), (6, yi al), (7, yi c)]) (st' := [yi (mn 1000000000 (0 + (unl S 0 i c))), yi c, yi i, .ref a]) (hp' := hl31) rfl ?_
          refine Y_call hk rfl (as := [.ref a, yi i, yi c, yi (mn 1000000000 (0 + (unl S 0 i c)))]) (rest := []) (v := none) rfl rfl (Nat.le_of_ble_eq_true rfl) (rcv0 (fr31.at (by simp only [List.mem_cons, List.not_mem_nil, or_false, not_or]; exact hap.2.2) ha)) (Nat.le_of_ble_eq_true rfl) (c_X0_put (i := i) (j := c) (x := (mn 1000000000 (0 + (unl S 0 i c)))) (a := a) (p := p) (k := m) ⟨by omega, by omega, by omega⟩ (fr31.at (by simp only [List.mem_cons, List.not_mem_nil, or_false, not_or]; exact hap.2.2) ha) ec31_p (by omega)) (fun H5 r6 => ?_)
          obtain ⟨e_H5, f_H5⟩ := r6
          refine E_run hk 2 (j' := 73) (lv' := [(6, yi (gat m (i + 1) c)), (5, yi (mn 1000000000 (0 + (unl S 0 i c)))), (9, yi 0), (8, yi (gat m (i + 1) c)), (0, .ref a), (1, .ref s), (2, yi i), (3, yi (mx 0 (i - S 2))), (7, yi c)]) (st' := []) (hp' := H5) rfl ?_
          refine Y_iinc (a := c) (z := (-1)) hk rfl rfl rfl (by decide) (lv' := [(7, yi (c + (-1))), (6, yi (gat m (i + 1) c)), (5, yi (mn 1000000000 (0 + (unl S 0 i c)))), (9, yi 0), (8, yi (gat m (i + 1) c)), (0, .ref a), (1, .ref s), (2, yi i), (3, yi (mx 0 (i - S 2)))]) rfl ?_
          refine E_run hk 1 (j' := 31) (lv' := [(7, yi (c + (-1))), (6, yi (gat m (i + 1) c)), (5, yi (mn 1000000000 (0 + (unl S 0 i c)))), (9, yi 0), (8, yi (gat m (i + 1) c)), (0, .ref a), (1, .ref s), (2, yi i), (3, yi (mx 0 (i - S 2)))]) (st' := []) (hp' := H5) rfl ?_
          exact Ev_le (xle_s rfl rfl (xle_s rfl rfl (xle_s rfl rfl (xle_s rfl rfl (xle_s rfl rfl (xle_s rfl rfl (xle_s rfl rfl (xle_z _ rfl)))))))) (ih31 _ (by omega) (c + (-1)) (mn 1000000000 (0 + (unl S 0 i c))) (gat m (i + 1) c) (up m (20 * i + c) (mn 1000000000 (0 + (unl S 0 i c)))) H5 (by omega) (fun x y x1 x2 y1 y2 => by
        rw [up_ne _ _ (by omega)]
        exact J2 x y x1 x2 y1 y2) (by rw [show c + (-1) + 1 = c by omega]; exact e9) (by rw [show c + (-1) + 1 = c by omega]; exact u1) (fun y y1 y2 => by
        by_cases e : y = c
        · subst e
          rw [up_self]
          exact e9
        · rw [up_ne _ _ (by omega)]
          exact J5 y (by omega) y2) (fun x y x1 x2 y1 y2 q => by
        rw [up_ne _ _ (by omega)]
        exact J6 x y x1 x2 y1 y2 q) (fun y y1 y2 y3 => by
        rw [up_ne _ _ (by omega)]
        exact J7 y y1 y2 (by omega)) e_H5 (yfr.tr fr31 f_H5 (fun _ h => h) (by simp)) rfl)
  exact Ev_le (xle_s rfl rfl (xle_s rfl rfl (xle_s rfl rfl (xle_s rfl rfl (xle_s rfl rfl (xle_s rfl rfl (xle_s rfl rfl (xle_z _ rfl)))))))) (loop31 _ (mn (S 1 - 1) (i + S 2)) 1000000000 (gat k (i + 1) ((mn ((S 1) - 1) (i + (S 2))) + 1)) k hp (by omega) (hJ.1) (by rw [bw_band (by omega)]; rfl) (gat_bw (by omega) (fun q1 q2 => hJ.1 _ _ (by omega) q1 (by omega) q2) (fun q1 q2 q3 => hJ.2 _ _ (by omega) q2 (by omega) q3 (by omega))) (fun y y1 y2 => by rw [hJ.2 _ _ (by omega) (by omega) (by omega) (by omega) (by omega), bw_band (by omega)]; rfl) (fun x y x1 x2 y1 y2 q => hJ.2 x y x1 x2 y1 y2 (by omega)) (fun y y1 y2 y3 => hJ.2 i y (by omega) (by omega) y1 y2 (by omega)) hk1 (yfr.refl _ _) rfl)
theorem c_X0_tellFromEnd {d : Nat} {hp : xH} {a p : Nat} (hap : 28 ≤ a ∧ 28 ≤ p ∧ a ≠ p) {k : Int → Int} (ha : xat hp a = some (.inr (1, [.ref p]))) (hk1 : xat hp p = some (yI 400 k)) {s z o : Nat} {S f g : Int → Int} {r t : Int} (hS : yS hp s z o S f g r t) (hne : (a < s ∨ s + 5 ≤ a) ∧ (p < s ∨ s + 5 ≤ p)) (hz : 0 ≤ S 0 ∧ S 0 ≤ 20 ∧ 0 ≤ S 1 ∧ S 1 ≤ 20 ∧ 0 ≤ S 2 ∧ S 2 ≤ 20 ∧ 0 ≤ S 3 ∧ S 3 ≤ 50 ∧ 0 ≤ S 4 ∧ S 4 ≤ 3) (h0 : ∀ q, 0 ≤ q → q < S 0 → 0 ≤ S (7 + q) ∧ S (7 + q) ≤ 60) (h1 : ∀ q, 0 ≤ q → q < S 1 → 0 ≤ S (27 + q) ∧ S (27 + q) ≤ 60) (hd : 3 ≤ d) : Cv d 6 [.ref a, .ref s] hp (yR none (fun h => ∃ m, xat h p = some (yI 400 m) ∧ (∀ x y, 0 ≤ x → x < S 0 → 0 ≤ y → y < S 1 → m (20 * x + y) = far (bw (unl S 0) (S 3) (S 2) (S 0) (S 1) x y)) ∧ (∀ x y, 0 ≤ x → x < 20 → 0 ≤ y → y < 20 → (S 0 ≤ x ∨ S 1 ≤ y) → m (20 * x + y) = 1000000000) ∧ yfr [p] hp h)) := by
  have hk : xtab 6 = (xc_6, 3, 0, []) := rfl
  obtain ⟨d, rfl⟩ : ∃ e, d = e + 1 := ⟨d - 1, by omega⟩
  obtain ⟨hid, hs_, hz_, ho_, hf_, hg_, ef, eg⟩ := hS
  show Ev (d + 1) 6 0 [(0, .ref a), (1, .ref s)] [] hp _
  refine E_run hk 1 (j' := 1) (lv' := [(0, .ref a), (1, .ref s)]) (st' := [.ref a]) (hp' := hp) rfl ?_
  refine Y_call hk rfl (as := [.ref a]) (rest := []) (v := none) rfl rfl (Nat.le_of_ble_eq_true rfl) (rcv0 ha) (Nat.le_of_ble_eq_true rfl) (c_X0_clear (a := a) (p := p) (k := k) ⟨by omega, by omega, by omega⟩ ha hk1 (hd := by omega)) (fun H1 r2 => ?_)
  obtain ⟨F_H1, e_H1, a_H1, f_H1⟩ := r2
  refine E_run hk 1 (j' := 3) (lv' := [(0, .ref a), (1, .ref s)]) (st' := [.ref s]) (hp' := H1) rfl ?_
  refine E_get (v := .ref z) hk rfl (f_H1.at (by simp only [List.mem_cons, List.not_mem_nil, or_false, not_or]; exact (by omega)) hs_) rfl ?_
  refine E_get (v := yi (S 0)) hk rfl (f_H1.at (by simp only [List.mem_cons, List.not_mem_nil, or_false, not_or]; exact (by omega)) hz_) rfl ?_
  refine E_run hk 1 (j' := 6) (lv' := [(0, .ref a), (1, .ref s)]) (st' := [yi 1, yi (S 0)]) (hp' := H1) rfl ?_
  refine Y_isub (a := (S 0)) (b := 1) hk rfl ?_
  refine E_run hk 1 (j' := 8) (lv' := [(2, yi ((S 0) - 1)), (0, .ref a), (1, .ref s)]) (st' := []) (hp' := H1) rfl ?_
  have loop8 : ∀ (N : Nat) (i : Int) (m : Int → Int) (hl8 : xH), (-1 ≤ i ∧ i ≤ S 0 - 1) → (∀ x y, i < x → x < S 0 → 0 ≤ y → y < S 1 → m (20 * x + y) = far (bw (unl S 0) (S 3) (S 2) (S 0) (S 1) x y)) → (∀ x y, 0 ≤ x → x < 20 → 0 ≤ y → y < 20 → (x ≤ i ∨ S 0 ≤ x ∨ S 1 ≤ y) → m (20 * x + y) = 1000000000) → (xat hl8 p = some (yI 400 m)) → (yfr [p] H1 hl8) → (i + 1).toNat = N → Ev (d + 1) 6 8 [(0, .ref a), (1, .ref s), (2, yi i)] [] hl8 (yR none (fun h => ∃ m, xat h p = some (yI 400 m) ∧ (∀ x y, 0 ≤ x → x < S 0 → 0 ≤ y → y < S 1 → m (20 * x + y) = far (bw (unl S 0) (S 3) (S 2) (S 0) (S 1) x y)) ∧ (∀ x y, 0 ≤ x → x < 20 → 0 ≤ y → y < 20 → (S 0 ≤ x ∨ S 1 ≤ y) → m (20 * x + y) = 1000000000) ∧ yfr [p] hp h)) := by
    intro N
    induction N using Nat.strongRecOn with
    | ind N ih8 =>
      intro i m hl8 J1 J2 J6 ec8_p fr8 hm8
      refine E_run hk 1 (j' := 9) (lv' := [(0, .ref a), (1, .ref s), (2, yi i)]) (st' := [yi i]) (hp' := hl8) rfl ?_
      refine Y_if_lt (a := i) (by omega) hk rfl (fun g3 => ?_) (fun g3 => ?_)
      ·
        exact E_ret hk rfl rfl ⟨rfl, _, ec8_p, fun x y x1 x2 y1 y2 => J2 x y (by omega) x2 y1 y2, fun x y x1 x2 y1 y2 q => J6 x y x1 x2 y1 y2 (by omega), (yfr.tr f_H1 fr8 (fun _ h => h) (by simp))⟩
      ·
        refine E_run hk 3 (j' := 13) (lv' := [(0, .ref a), (1, .ref s), (2, yi i)]) (st' := [yi i, .ref s, .ref a]) (hp' := hl8) rfl ?_
        refine Y_call hk rfl (as := [.ref a, .ref s, yi i]) (rest := []) (v := none) rfl rfl (Nat.le_of_ble_eq_true rfl) (rcv0 (fr8.at (by simp only [List.mem_cons, List.not_mem_nil, or_false, not_or]; exact hap.2.2) (f_H1.at (by simp only [List.mem_cons, List.not_mem_nil, or_false, not_or]; exact hap.2.2) ha))) (Nat.le_of_ble_eq_true rfl) (c_X0_tellRowFromEnd (i := i) (a := a) (p := p) (k := m) ⟨by omega, by omega, by omega⟩ (fr8.at (by simp only [List.mem_cons, List.not_mem_nil, or_false, not_or]; exact hap.2.2) (f_H1.at (by simp only [List.mem_cons, List.not_mem_nil, or_false, not_or]; exact hap.2.2) ha)) ec8_p ⟨hid, (fr8.at (by simp only [List.mem_cons, List.not_mem_nil, or_false, not_or]; exact (by omega)) (f_H1.at (by simp only [List.mem_cons, List.not_mem_nil, or_false, not_or]; exact (by omega)) hs_)), (fr8.at (by simp only [List.mem_cons, List.not_mem_nil, or_false, not_or]; exact (by omega)) (f_H1.at (by simp only [List.mem_cons, List.not_mem_nil, or_false, not_or]; exact (by omega)) hz_)), (fr8.at (by simp only [List.mem_cons, List.not_mem_nil, or_false, not_or]; exact (by omega)) (f_H1.at (by simp only [List.mem_cons, List.not_mem_nil, or_false, not_or]; exact (by omega)) ho_)), (fr8.at (by simp only [List.mem_cons, List.not_mem_nil, or_false, not_or]; exact (by omega)) (f_H1.at (by simp only [List.mem_cons, List.not_mem_nil, or_false, not_or]; exact (by omega)) hf_)), (fr8.at (by simp only [List.mem_cons, List.not_mem_nil, or_false, not_or]; exact (by omega)) (f_H1.at (by simp only [List.mem_cons, List.not_mem_nil, or_false, not_or]; exact (by omega)) hg_)), ef, eg⟩ (by omega) hz h0 h1 (by omega) ⟨J2, J6⟩ (hd := by omega)) (fun H4 r5 => ?_)
        obtain ⟨F_H4, e_H4, a_H4, b_H4, f_H4⟩ := r5
        refine Y_iinc (a := i) (z := (-1)) hk rfl rfl rfl (by decide) (lv' := [(2, yi (i + (-1))), (0, .ref a), (1, .ref s)]) rfl ?_
        refine E_run hk 1 (j' := 8) (lv' := [(2, yi (i + (-1))), (0, .ref a), (1, .ref s)]) (st' := []) (hp' := H4) rfl ?_
        exact Ev_le (xle_s rfl rfl (xle_s rfl rfl (xle_s rfl rfl (xle_z _ rfl)))) (ih8 _ (by omega) (i + (-1)) F_H4 H4 (by omega) (fun x y x1 x2 y1 y2 => a_H4 x y (by omega) x2 y1 y2) (fun x y x1 x2 y1 y2 q => b_H4 x y x1 x2 y1 y2 (by omega)) e_H4 (yfr.tr fr8 f_H4 (fun _ h => h) (by simp)) rfl)
  exact Ev_le (xle_s rfl rfl (xle_s rfl rfl (xle_s rfl rfl (xle_z _ rfl)))) (loop8 _ (S 0 - 1) F_H1 H1 (by omega) (fun x y q1 q2 => absurd q1 (by omega)) (fun x y x1 x2 y1 y2 _ => a_H1 _ (by omega) (by omega)) e_H1 (yfr.refl _ _) rfl)
