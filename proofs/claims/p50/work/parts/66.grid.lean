/-! The class: its grids. A grid is the object a, its cells the array a + 1. -/
/-- a grid's number, or FAR -/
def gat (f : Int → Int) (i j : Int) : Int := if 0 ≤ i ∧ i < 20 ∧ 0 ≤ j ∧ j < 20 then f (20 * i + j) else 1000000000
def far (x : Int) : Int := if x < 100000000 then x else 1000000000
theorem far_rng (x : Int) : (far x = x ∧ x < 100000000) ∨ (far x = 1000000000 ∧ 100000000 ≤ x) := by
  unfold far
  split
  · exact Or.inl ⟨rfl, by assumption⟩
  · exact Or.inr ⟨rfl, by omega⟩
theorem far_bd {x : Int} (h : 0 ≤ x) : 0 ≤ far x ∧ far x ≤ 1000000000 := by
  have w := far_rng x
  omega
theorem mn_bd {a b u v : Int} (h : 0 ≤ a ∧ a ≤ u ∧ 0 ≤ b ∧ b ≤ v) : 0 ≤ mn a b ∧ mn a b ≤ u ∧ mn a b ≤ v := by
  have w := mn_rng a b
  omega
theorem mn_lt {a b : Int} (h : b < a) : mn a b = b := if_pos h
theorem mx_f {i u F : Int} (h : mx 0 (i - u) = F) (hi : 0 ≤ i) (hu : 0 ≤ u) : 0 ≤ F ∧ i - u ≤ F ∧ F ≤ i ∧ ∀ y, y < F → y < 0 ∨ u < i - y := by
  have w := mx_rng 0 (i - u)
  refine ⟨by omega, by omega, by omega, fun y h => ?_⟩
  omega
theorem mn_l {i u n L : Int} (h : mn (n - 1) (i + u) = L) (hi : 0 ≤ i) (hn : 0 ≤ n) (hu : 0 ≤ u) : -1 ≤ L ∧ L ≤ n - 1 ∧ L ≤ i + u ∧ ∀ y, L < y → n ≤ y ∨ u < y - i := by
  have w := mn_rng (n - 1) (i + u)
  refine ⟨by omega, by omega, by omega, fun y h => ?_⟩
  omega
theorem gat_fw {f : Int → Int} {D : Int → Int → Int} {w b i j : Int} (hi : i < 20 ∧ j < 20) (h : 0 ≤ i → 0 ≤ j → f (20 * i + j) = far (fw D w b i j)) : gat f i j = far (fw D w b i j) := by
  unfold gat
  by_cases g : 0 ≤ i ∧ 0 ≤ j
  · rw [if_pos (by omega)]
    exact h g.1 g.2
  · rw [if_neg (by omega), fw_out (by omega)]
    rfl
theorem gat_bw {f : Int → Int} {D : Int → Int → Int} {w b m n i j : Int} (hi : 0 ≤ i ∧ 0 ≤ j ∧ m ≤ 20 ∧ n ≤ 20) (h : i < m → j < n → f (20 * i + j) = far (bw D w b m n i j)) (hF : m ≤ i ∨ n ≤ j → i < 20 → j < 20 → f (20 * i + j) = 1000000000) : gat f i j = far (bw D w b m n i j) := by
  unfold gat
  by_cases g : i < m ∧ j < n
  · rw [if_pos (by omega)]
    exact h g.1 g.2
  · rw [bw_out (by omega)]
    split
    · exact hF (by omega) (by omega) (by omega)
    · rfl
theorem fw_band {D : Int → Int → Int} {w b i j : Int} (h : i < 0 ∨ j < 0 ∨ i - j < -b ∨ b < i - j) : fw D w b i j = 100000000 := by
  by_cases g : 0 ≤ i ∧ 0 ≤ j
  · rw [fw_in g, if_neg (by omega)]
  · exact fw_out (by omega)
theorem bw_band {D : Int → Int → Int} {w b m n i j : Int} (h : m ≤ i ∨ n ≤ j ∨ i - j < -b ∨ b < i - j) : bw D w b m n i j = 100000000 := by
  by_cases g : i < m ∧ j < n
  · rw [bw_in g, if_neg (by omega)]
  · exact bw_out (by omega)
theorem c_X0_at {d : Nat} {hp : xH} {a p : Nat} (hap : 28 ≤ a ∧ 28 ≤ p ∧ a ≠ p) {k : Int → Int} (ha : xat hp a = some (.inr (1, [.ref p]))) (hk1 : xat hp p = some (yI 400 k)) {i j : Int} (hi : -1 ≤ i ∧ i ≤ 20 ∧ -1 ≤ j ∧ j ≤ 20) : Cv d 1 [.ref a, yi i, yi j] hp (yP (some (yi (gat k i j))) hp) := by
  have hk : xtab 1 = (xc_1, 5, 1, []) := rfl
  show Ev d 1 0 [(0, .ref a), (1, yi i), (2, yi j)] [] hp _
  refine E_run hk 2 (j' := 2) (lv' := [(0, .ref a), (1, yi i), (2, yi j)]) (st' := [yi 20, yi i]) (hp' := hp) rfl ?_
  refine Y_imul (a := i) (b := 20) hk rfl ?_
  refine E_run hk 1 (j' := 4) (lv' := [(0, .ref a), (1, yi i), (2, yi j)]) (st' := [yi j, yi (i * 20)]) (hp' := hp) rfl ?_
  refine Y_iadd (a := (i * 20)) (b := j) hk rfl ?_
  refine E_run hk 2 (j' := 7) (lv' := [(3, yi ((i * 20) + j)), (0, .ref a), (1, yi i), (2, yi j)]) (st' := [yi j]) (hp' := hp) rfl ?_
  refine Y_if_lt (a := j) (by omega) hk rfl (fun g1 => ?_) (fun g1 => ?_)
  ·
    refine E_run hk 3 (j' := 16) (lv' := [(4, yi 0), (3, yi ((i * 20) + j)), (0, .ref a), (1, yi i), (2, yi j)]) (st' := [yi 0]) (hp' := hp) rfl ?_
    refine Y_if_eq (a := 0) (by omega) hk rfl (fun g2 => ?_) (fun g2 => ?_)
    ·
      refine E_run hk 1 (j' := 30) (lv' := [(4, yi 0), (3, yi ((i * 20) + j)), (0, .ref a), (1, yi i), (2, yi j)]) (st' := [yi 1000000000]) (hp' := hp) rfl ?_
      exact E_ret hk rfl rfl (li (by unfold gat; first | (rw [if_pos (by omega), Int.mul_comm]; done) | (rw [if_neg (by omega)]; done)))
    · exfalso; omega
  ·
    refine E_run hk 2 (j' := 10) (lv' := [(3, yi ((i * 20) + j)), (0, .ref a), (1, yi i), (2, yi j)]) (st' := [yi 20, yi j]) (hp' := hp) rfl ?_
    refine Y_ic_ge (a := j) (b := 20) (by omega) hk rfl (fun g3 => ?_) (fun g3 => ?_)
    ·
      refine E_run hk 3 (j' := 16) (lv' := [(4, yi 0), (3, yi ((i * 20) + j)), (0, .ref a), (1, yi i), (2, yi j)]) (st' := [yi 0]) (hp' := hp) rfl ?_
      refine Y_if_eq (a := 0) (by omega) hk rfl (fun g4 => ?_) (fun g4 => ?_)
      ·
        refine E_run hk 1 (j' := 30) (lv' := [(4, yi 0), (3, yi ((i * 20) + j)), (0, .ref a), (1, yi i), (2, yi j)]) (st' := [yi 1000000000]) (hp' := hp) rfl ?_
        exact E_ret hk rfl rfl (li (by unfold gat; first | (rw [if_pos (by omega), Int.mul_comm]; done) | (rw [if_neg (by omega)]; done)))
      · exfalso; omega
    ·
      refine E_run hk 4 (j' := 16) (lv' := [(4, yi 1), (3, yi ((i * 20) + j)), (0, .ref a), (1, yi i), (2, yi j)]) (st' := [yi 1]) (hp' := hp) rfl ?_
      refine Y_if_eq (a := 1) (by omega) hk rfl (fun g5 => ?_) (fun g5 => ?_)
      · exfalso; omega
      ·
        refine E_run hk 1 (j' := 18) (lv' := [(4, yi 1), (3, yi ((i * 20) + j)), (0, .ref a), (1, yi i), (2, yi j)]) (st' := [yi ((i * 20) + j)]) (hp' := hp) rfl ?_
        refine Y_if_lt (a := ((i * 20) + j)) (by omega) hk rfl (fun g6 => ?_) (fun g6 => ?_)
        ·
          refine E_run hk 1 (j' := 30) (lv' := [(4, yi 1), (3, yi ((i * 20) + j)), (0, .ref a), (1, yi i), (2, yi j)]) (st' := [yi 1000000000]) (hp' := hp) rfl ?_
          exact E_ret hk rfl rfl (li (by unfold gat; first | (rw [if_pos (by omega), Int.mul_comm]; done) | (rw [if_neg (by omega)]; done)))
        ·
          refine E_run hk 2 (j' := 21) (lv' := [(4, yi 1), (3, yi ((i * 20) + j)), (0, .ref a), (1, yi i), (2, yi j)]) (st' := [.ref a, yi ((i * 20) + j)]) (hp' := hp) rfl ?_
          refine E_get (v := .ref p) hk rfl ha rfl ?_
          refine Y_alen (by decide) hk rfl hk1 ?_
          refine Y_ic_ge (a := ((i * 20) + j)) (b := 400) (by omega) hk rfl (fun g7 => ?_) (fun g7 => ?_)
          ·
            refine E_run hk 1 (j' := 30) (lv' := [(4, yi 1), (3, yi ((i * 20) + j)), (0, .ref a), (1, yi i), (2, yi j)]) (st' := [yi 1000000000]) (hp' := hp) rfl ?_
            exact E_ret hk rfl rfl (li (by unfold gat; first | (rw [if_pos (by omega), Int.mul_comm]; done) | (rw [if_neg (by omega)]; done)))
          ·
            refine E_run hk 1 (j' := 25) (lv' := [(4, yi 1), (3, yi ((i * 20) + j)), (0, .ref a), (1, yi i), (2, yi j)]) (st' := [.ref a]) (hp' := hp) rfl ?_
            refine E_get (v := .ref p) hk rfl ha rfl ?_
            refine E_run hk 1 (j' := 27) (lv' := [(4, yi 1), (3, yi ((i * 20) + j)), (0, .ref a), (1, yi i), (2, yi j)]) (st' := [yi ((i * 20) + j), .ref p]) (hp' := hp) rfl ?_
            refine Y_iald (a := ((i * 20) + j)) (by omega) (by decide) hk rfl hk1 ?_
            refine E_run hk 1 (j' := 30) (lv' := [(4, yi 1), (3, yi ((i * 20) + j)), (0, .ref a), (1, yi i), (2, yi j)]) (st' := [yi (k ((i * 20) + j))]) (hp' := hp) rfl ?_
            exact E_ret hk rfl rfl (li (by unfold gat; first | (rw [if_pos (by omega), Int.mul_comm]; done) | (rw [if_neg (by omega)]; done)))
theorem c_X0_put {d : Nat} {hp : xH} {a p : Nat} (hap : 28 ≤ a ∧ 28 ≤ p ∧ a ≠ p) {k : Int → Int} (ha : xat hp a = some (.inr (1, [.ref p]))) (hk1 : xat hp p = some (yI 400 k)) {i j x : Int} (hi : 0 ≤ i ∧ i < 20 ∧ 0 ≤ j ∧ j < 20) : Cv d 2 [.ref a, yi i, yi j, yi x] hp (yR none (fun h => xat h p = some (yI 400 (up k (20 * i + j) x)) ∧ yfr [p] hp h)) := by
  have hk : xtab 2 = (xc_2, 6, 0, []) := rfl
  show Ev d 2 0 [(0, .ref a), (1, yi i), (2, yi j), (3, yi x)] [] hp _
  refine E_run hk 2 (j' := 2) (lv' := [(0, .ref a), (1, yi i), (2, yi j), (3, yi x)]) (st' := [yi 20, yi i]) (hp' := hp) rfl ?_
  refine Y_imul (a := i) (b := 20) hk rfl ?_
  refine E_run hk 1 (j' := 4) (lv' := [(0, .ref a), (1, yi i), (2, yi j), (3, yi x)]) (st' := [yi j, yi (i * 20)]) (hp' := hp) rfl ?_
  refine Y_iadd (a := (i * 20)) (b := j) hk rfl ?_
  refine E_run hk 2 (j' := 7) (lv' := [(4, yi ((i * 20) + j)), (0, .ref a), (1, yi i), (2, yi j), (3, yi x)]) (st' := [yi j]) (hp' := hp) rfl ?_
  refine Y_if_lt (a := j) (by omega) hk rfl (fun g1 => ?_) (fun g1 => ?_)
  · exfalso; omega
  ·
    refine E_run hk 2 (j' := 10) (lv' := [(4, yi ((i * 20) + j)), (0, .ref a), (1, yi i), (2, yi j), (3, yi x)]) (st' := [yi 20, yi j]) (hp' := hp) rfl ?_
    refine Y_ic_ge (a := j) (b := 20) (by omega) hk rfl (fun g2 => ?_) (fun g2 => ?_)
    · exfalso; omega
    ·
      refine E_run hk 4 (j' := 16) (lv' := [(5, yi 1), (4, yi ((i * 20) + j)), (0, .ref a), (1, yi i), (2, yi j), (3, yi x)]) (st' := [yi 1]) (hp' := hp) rfl ?_
      refine Y_if_eq (a := 1) (by omega) hk rfl (fun g3 => ?_) (fun g3 => ?_)
      · exfalso; omega
      ·
        refine E_run hk 1 (j' := 18) (lv' := [(5, yi 1), (4, yi ((i * 20) + j)), (0, .ref a), (1, yi i), (2, yi j), (3, yi x)]) (st' := [yi ((i * 20) + j)]) (hp' := hp) rfl ?_
        refine Y_if_lt (a := ((i * 20) + j)) (by omega) hk rfl (fun g4 => ?_) (fun g4 => ?_)
        · exfalso; omega
        ·
          refine E_run hk 2 (j' := 21) (lv' := [(5, yi 1), (4, yi ((i * 20) + j)), (0, .ref a), (1, yi i), (2, yi j), (3, yi x)]) (st' := [.ref a, yi ((i * 20) + j)]) (hp' := hp) rfl ?_
          refine E_get (v := .ref p) hk rfl ha rfl ?_
          refine Y_alen (by decide) hk rfl hk1 ?_
          refine Y_ic_ge (a := ((i * 20) + j)) (b := 400) (by omega) hk rfl (fun g5 => ?_) (fun g5 => ?_)
          · exfalso; omega
          ·
            refine E_run hk 1 (j' := 25) (lv' := [(5, yi 1), (4, yi ((i * 20) + j)), (0, .ref a), (1, yi i), (2, yi j), (3, yi x)]) (st' := [.ref a]) (hp' := hp) rfl ?_
            refine E_get (v := .ref p) hk rfl ha rfl ?_
            refine E_run hk 2 (j' := 28) (lv' := [(5, yi 1), (4, yi ((i * 20) + j)), (0, .ref a), (1, yi i), (2, yi j), (3, yi x)]) (st' := [yi x, yi ((i * 20) + j), .ref p]) (hp' := hp) rfl ?_
            refine Y_iast (a := ((i * 20) + j)) (x := x) (by omega) (by decide) (show xNC ≤ p from (by omega : 28 ≤ p)) hk rfl hk1 (fun H6 e7 f8 => ?_)
            exact E_ret hk rfl rfl ⟨rfl, (by have w := e7; rw [Int.mul_comm i 20] at w; exact w), f8⟩
theorem c_J7_fill_53178 {d : Nat} {hp : xH} {p n : Nat} (hap : 28 ≤ p) (hn : n ≤ 400) {k : Int → Int} {x : Int} (hk1 : xat hp p = some (yI n k)) : Cv d 111 [.ref p, yi x] hp (yR none (fun h => ∃ g, xat h p = some (yI n g) ∧ (∀ q : Int, 0 ≤ q → q < n → g q = x) ∧ yfr [p] hp h)) := by
  have hk : xtab 111 = (xc_111, 4, 0, []) := rfl
  show Ev d 111 0 [(0, .ref p), (1, yi x)] [] hp _
  refine E_run hk 3 (j' := 3) (lv' := [(2, yi 0), (0, .ref p), (1, yi x)]) (st' := [.ref p]) (hp' := hp) rfl ?_
  refine Y_alen (by omega) hk rfl hk1 ?_
  refine E_run hk 1 (j' := 5) (lv' := [(3, yi n), (2, yi 0), (0, .ref p), (1, yi x)]) (st' := []) (hp' := hp) rfl ?_
  have loop5 : ∀ (N : Nat) (i : Int) (g : Int → Int) (hl5 : xH), (0 ≤ i ∧ i ≤ n) → (∀ q, 0 ≤ q → q < i → g q = x) → (xat hl5 p = some (yI n g)) → (yfr [p] hp hl5) → ((n : Int) - i).toNat = N → Ev d 111 5 [(0, .ref p), (1, yi x), (2, yi i), (3, yi n)] [] hl5 (yR none (fun h => ∃ g, xat h p = some (yI n g) ∧ (∀ q : Int, 0 ≤ q → q < n → g q = x) ∧ yfr [p] hp h)) := by
    intro N
    induction N using Nat.strongRecOn with
    | ind N ih5 =>
      intro i g hl5 J1 J2 ec5_p fr5 hm5
      refine E_run hk 1 (j' := 6) (lv' := [(0, .ref p), (1, yi x), (2, yi i), (3, yi n)]) (st' := [yi i]) (hp' := hl5) rfl ?_
      refine E_run hk 1 (j' := 7) (lv' := [(0, .ref p), (1, yi x), (2, yi i), (3, yi n)]) (st' := [yi n, yi i]) (hp' := hl5) rfl ?_
      refine Y_ic_ge (a := i) (b := n) (by omega) hk rfl (fun g1 => ?_) (fun g1 => ?_)
      ·
        exact E_ret hk rfl rfl ⟨rfl, _, ec5_p, fun q q1 q2 => J2 q q1 (by omega), fr5⟩
      ·
        refine E_run hk 3 (j' := 11) (lv' := [(0, .ref p), (1, yi x), (2, yi i), (3, yi n)]) (st' := [yi x, yi i, .ref p]) (hp' := hl5) rfl ?_
        refine Y_iast (a := i) (x := x) (by omega) (by omega) (show xNC ≤ p from (by omega : 28 ≤ p)) hk rfl ec5_p (fun H2 e3 f4 => ?_)
        refine Y_iinc (a := i) (z := 1) hk rfl rfl rfl (by decide) (lv' := [(2, yi (i + 1)), (0, .ref p), (1, yi x), (3, yi n)]) rfl ?_
        refine E_run hk 1 (j' := 5) (lv' := [(2, yi (i + 1)), (0, .ref p), (1, yi x), (3, yi n)]) (st' := []) (hp' := H2) rfl ?_
        exact Ev_le (xle_s rfl rfl (xle_s rfl rfl (xle_s rfl rfl (xle_s rfl rfl (xle_z _ rfl))))) (ih5 _ (by omega) (i + 1) (up g i x) H2 (by omega) (fun q q1 q2 => by
        by_cases e : q = i
        · subst e
          rw [up_self]
        · rw [up_ne _ _ e]
          exact J2 q q1 (by omega)) e3 (yfr.tr fr5 f4 (fun _ h => h) (by simp)) rfl)
  exact Ev_le (xle_s rfl rfl (xle_s rfl rfl (xle_s rfl rfl (xle_s rfl rfl (xle_z _ rfl))))) (loop5 _ 0 k hp (by omega) (fun q q1 q2 => absurd q1 (by omega)) hk1 (yfr.refl _ _) rfl)
theorem c_X0_clear {d : Nat} {hp : xH} {a p : Nat} (hap : 28 ≤ a ∧ 28 ≤ p ∧ a ≠ p) {k : Int → Int} (ha : xat hp a = some (.inr (1, [.ref p]))) (hk1 : xat hp p = some (yI 400 k)) (hd : 1 ≤ d) : Cv d 3 [.ref a] hp (yR none (fun h => ∃ g, xat h p = some (yI 400 g) ∧ (∀ q : Int, 0 ≤ q → q < 400 → g q = 1000000000) ∧ yfr [p] hp h)) := by
  have hk : xtab 3 = (xc_3, 1, 0, []) := rfl
  obtain ⟨d, rfl⟩ : ∃ e, d = e + 1 := ⟨d - 1, by omega⟩
  show Ev (d + 1) 3 0 [(0, .ref a)] [] hp _
  refine E_run hk 1 (j' := 1) (lv' := [(0, .ref a)]) (st' := [.ref a]) (hp' := hp) rfl ?_
  refine E_get (v := .ref p) hk rfl ha rfl ?_
  refine E_run hk 1 (j' := 3) (lv' := [(0, .ref a)]) (st' := [yi 1000000000, .ref p]) (hp' := hp) rfl ?_
  refine Y_call hk rfl (as := [.ref p, yi 1000000000]) (rest := []) (v := none) rfl rfl (Nat.le_of_ble_eq_true rfl) rfl (Nat.le_of_ble_eq_true rfl) (c_J7_fill_53178 (p := p) (n := 400) (x := 1000000000) (by omega) (by omega) hk1) (fun H1 r2 => ?_)
  obtain ⟨F_H1, e_H1, a_H1, f_H1⟩ := r2
  exact E_ret hk rfl rfl ⟨rfl, _, e_H1, fun q q1 q2 => a_H1 q q1 q2, f_H1⟩
