theorem c_X9_costTo {d : Nat} {hp : xH} {v : Nat → Int} (hM : xat hp 63 = some (yMo v)) {S : Int → Int} (hS : xat hp 64 = some (yI 47 S)) (hz : 0 ≤ S 0 ∧ S 0 ≤ 20 ∧ 0 ≤ S 1 ∧ S 1 ≤ 20 ∧ 0 ≤ S 2 ∧ S 2 ≤ 20 ∧ 0 ≤ S 3 ∧ S 3 ≤ 50 ∧ 0 ≤ S 4 ∧ S 4 ≤ 3) (h0 : ∀ q, 0 ≤ q → q < S 0 → 0 ≤ S (7 + q) ∧ S (7 + q) ≤ 60) (h1 : ∀ q, 0 ≤ q → q < S 1 → 0 ≤ S (27 + q) ∧ S (27 + q) ≤ 60) {f : Int → Int} (hA : xat hp 70 = some (yI 400 f)) {i j : Int} (ht : -2147483648 ≤ i ∧ i ≤ 2147483647 ∧ -2147483648 ≤ j ∧ j ≤ 2147483647) (hd : 3 ≤ d) : Cv d 231 [.ref 63, yi i, yi j] hp (yE (fun z h => ∃ c, xat h 63 = some (yMo (vup v 0 c)) ∧ ((c = 0 ∧ (0 ≤ i ∧ i < S 0 ∧ 0 ≤ j ∧ j < S 1) ∧ z = (if fw (unl S 0) (S 3) (S 2) i j < 100000000 then fw (unl S 0) (S 3) (S 2) i j else -1)) ∨ (c = 1 ∧ (¬ (0 ≤ i ∧ i < S 0 ∧ 0 ≤ j ∧ j < S 1)))) ∧ (∃ u, xat h 70 = some (yI 400 u)) ∧ yfr [63, 70] hp h)) := by
  have hk : xtab 231 = (xc_231, 4, 1, []) := rfl
  obtain ⟨d, rfl⟩ : ∃ e, d = e + 1 := ⟨d - 1, by omega⟩
  have n0 : S (0 + 0) = S 0 := rfl
  have n1 : S (0 + 1) = S 1 := rfl
  have hD : ∀ i j, 0 ≤ i → i < S 0 → 0 ≤ j → j < S 1 → 0 ≤ unl S 0 i j ∧ unl S 0 i j ≤ 5184 := fun i j a1 a2 a3 a4 => unl_rng hz h0 h1 (by omega) a1 a2 a3 a4
  show Ev (d + 1) 231 0 [(0, .ref 63), (1, yi i), (2, yi j)] [] hp _
  refine E_run hk 2 (j' := 2) (lv' := [(0, .ref 63), (1, yi i), (2, yi j)]) (st' := [yi 0, .ref 63]) (hp' := hp) rfl ?_
  refine Y_put hk rfl hM (by decide) (Nat.le_of_ble_eq_true rfl) rfl (fs' := [yi 0, .ref 64, .ref 65, yi (v 3), .ref 66, yi (v 5), .ref 67, yi (v 7), yi (v 8), yi (v 9), .ref 68, yi (v 11), .ref 69, yi (v 13), .ref 70, .ref 71, .ref 72, .ref 73, .ref 74, .ref 75, yi (v 20), yi (v 21)]) rfl (fun H1 e2 f3 => ?_)
  refine E_run hk 3 (j' := 6) (lv' := [(0, .ref 63), (1, yi i), (2, yi j)]) (st' := [yi i, yi 0, .ref 63]) (hp' := H1) rfl ?_
  refine Y_callP hk rfl (as := [.ref 63, yi 0, yi i]) (rest := []) (v := some (yi (b2 (0 ≤ 0 ∧ 0 ≤ 1 ∧ 0 ≤ i ∧ i < S (0 + 0))))) rfl rfl (Nat.le_of_ble_eq_true rfl) (rcv0 e2) (Nat.le_of_ble_eq_true rfl) (c_X9_isNote (t := 0) (k := i) (v := (vup v 0 0)) e2 (f3.at (by decide) hS) (by omega) (by omega) (hd := by omega)) ?_
  refine Y_b_eq hk rfl (fun g4 => ?_) (fun g4 => ?_)
  ·
    refine E_run hk 2 (j' := 15) (lv' := [(0, .ref 63), (1, yi i), (2, yi j)]) (st' := [yi 1, .ref 63]) (hp' := H1) rfl ?_
    refine Y_call hk rfl (as := [.ref 63, yi 1]) (rest := []) (v := some (yi 0)) rfl rfl (Nat.le_of_ble_eq_true rfl) (rcv0 e2) (Nat.le_of_ble_eq_true rfl) (c_X9_fails (c := 1) (v := (vup v 0 0)) e2) (fun H5 r6 => ?_)
    obtain ⟨e_H5, f_H5⟩ := r6
    exact E_ret hk rfl rfl ⟨0, rfl, 1, e_H5, Or.inr (⟨rfl, by first | trivial | omega⟩), ⟨_, (f_H5.at (by decide) (f3.at (by decide) hA))⟩, (yfr.tr (f3.mono (by decide)) f_H5 (fun _ h => h) (by decide))⟩
  ·
    refine E_run hk 3 (j' := 11) (lv' := [(0, .ref 63), (1, yi i), (2, yi j)]) (st' := [yi j, yi 1, .ref 63]) (hp' := H1) rfl ?_
    refine Y_callP hk rfl (as := [.ref 63, yi 1, yi j]) (rest := []) (v := some (yi (b2 (0 ≤ 1 ∧ 1 ≤ 1 ∧ 0 ≤ j ∧ j < S (0 + 1))))) rfl rfl (Nat.le_of_ble_eq_true rfl) (rcv0 e2) (Nat.le_of_ble_eq_true rfl) (c_X9_isNote (t := 1) (k := j) (v := (vup v 0 0)) e2 (f3.at (by decide) hS) (by omega) (by omega) (hd := by omega)) ?_
    refine Y_b_ne hk rfl (fun g7 => ?_) (fun g7 => ?_)
    ·
      refine E_run hk 3 (j' := 20) (lv' := [(0, .ref 63), (1, yi i), (2, yi j)]) (st' := [.ref 63, yi 0, .ref 63]) (hp' := H1) rfl ?_
      refine E_get (v := .ref 64) hk rfl e2 rfl ?_
      refine E_run hk 1 (j' := 22) (lv' := [(0, .ref 63), (1, yi i), (2, yi j)]) (st' := [yi 2, .ref 64, yi 0, .ref 63]) (hp' := H1) rfl ?_
      refine Y_iald (a := 2) (by omega) (by decide) hk rfl (f3.at (by decide) hS) ?_
      refine Y_call hk rfl (as := [.ref 63, yi 0, yi (S 2)]) (rest := []) (v := some (yi (cst S 0 (S 2)))) rfl rfl (Nat.le_of_ble_eq_true rfl) (rcv0 e2) (Nat.le_of_ble_eq_true rfl) (c_X9_tellsAhead (b := 0) (u := (S 2)) (v := (vup v 0 0)) e2 (f3.at (by decide) hS) hz h0 h1 (f3.at (by decide) hA) (by omega) (by omega) (hd := by omega)) (fun H8 r9 => ?_)
      obtain ⟨A_H8, e_H8, a_H8, f_H8⟩ := r9
      refine E_run hk 1 (j' := 25) (lv' := [(0, .ref 63), (1, yi i), (2, yi j)]) (st' := []) (hp' := H8) rfl ?_
      have w1 := a_H8 i j (by omega) (by omega) (by omega) (by omega)
      have w2 := fw_rng (w := S 3) (b := S 2) (m := S 0) (n := S 1) (by omega) hD _ i j (by omega) (by omega) rfl
      rw [← w1] at w2
      refine E_run hk 1 (j' := 26) (lv' := [(0, .ref 63), (1, yi i), (2, yi j)]) (st' := [.ref 63]) (hp' := H8) rfl ?_
      refine E_get (v := .ref 70) hk rfl (f_H8.at (by decide) e2) rfl ?_
      refine E_run hk 2 (j' := 29) (lv' := [(0, .ref 63), (1, yi i), (2, yi j)]) (st' := [yi i, yi 20, .ref 70]) (hp' := H8) rfl ?_
      refine Y_imul (a := 20) (b := i) hk rfl ?_
      refine E_run hk 1 (j' := 31) (lv' := [(0, .ref 63), (1, yi i), (2, yi j)]) (st' := [yi j, yi (20 * i), .ref 70]) (hp' := H8) rfl ?_
      refine Y_iadd (a := (20 * i)) (b := j) hk rfl ?_
      refine Y_iald (a := ((20 * i) + j)) (by omega) (by decide) hk rfl e_H8 ?_
      refine E_run hk 3 (j' := 36) (lv' := [(3, yi (A_H8 ((20 * i) + j))), (0, .ref 63), (1, yi i), (2, yi j)]) (st' := [yi 100000000, yi (A_H8 ((20 * i) + j))]) (hp' := H8) rfl ?_
      refine Y_ic_ge (a := (A_H8 ((20 * i) + j))) (b := 100000000) (by omega) hk rfl (fun g10 => ?_) (fun g10 => ?_)
      ·
        refine E_run hk 1 (j' := 40) (lv' := [(3, yi (A_H8 ((20 * i) + j))), (0, .ref 63), (1, yi i), (2, yi j)]) (st' := [yi (-1)]) (hp' := H8) rfl ?_
        exact E_ret hk rfl rfl ⟨(-1), rfl, 0, (f_H8.at (by decide) e2), Or.inl ⟨rfl, by first | trivial | omega, by rw [← w1]; first | exact (if_pos (by omega)).symm | exact (if_neg (by omega)).symm⟩, ⟨_, e_H8⟩, (yfr.tr (f3.mono (by decide)) f_H8 (fun _ h => h) (by decide))⟩
      ·
        refine E_run hk 2 (j' := 40) (lv' := [(3, yi (A_H8 ((20 * i) + j))), (0, .ref 63), (1, yi i), (2, yi j)]) (st' := [yi (A_H8 ((20 * i) + j))]) (hp' := H8) rfl ?_
        exact E_ret hk rfl rfl ⟨(A_H8 ((20 * i) + j)), rfl, 0, (f_H8.at (by decide) e2), Or.inl ⟨rfl, by first | trivial | omega, by rw [← w1]; first | exact (if_pos (by omega)).symm | exact (if_neg (by omega)).symm⟩, ⟨_, e_H8⟩, (yfr.tr (f3.mono (by decide)) f_H8 (fun _ h => h) (by decide))⟩
    ·
      refine E_run hk 2 (j' := 15) (lv' := [(0, .ref 63), (1, yi i), (2, yi j)]) (st' := [yi 1, .ref 63]) (hp' := H1) rfl ?_
      refine Y_call hk rfl (as := [.ref 63, yi 1]) (rest := []) (v := some (yi 0)) rfl rfl (Nat.le_of_ble_eq_true rfl) (rcv0 e2) (Nat.le_of_ble_eq_true rfl) (c_X9_fails (c := 1) (v := (vup v 0 0)) e2) (fun H11 r12 => ?_)
      obtain ⟨e_H11, f_H11⟩ := r12
      exact E_ret hk rfl rfl ⟨0, rfl, 1, e_H11, Or.inr (⟨rfl, by first | trivial | omega⟩), ⟨_, (f_H11.at (by decide) (f3.at (by decide) hA))⟩, (yfr.tr (f3.mono (by decide)) f_H11 (fun _ h => h) (by decide))⟩
theorem up_seg {f g h : Int → Int} {i o : Int} (hi : 0 ≤ i) (h1 : ∀ q, 0 ≤ q → q < i → f q = h (o + q)) (h2 : ∀ q, ¬ (0 ≤ q ∧ q < i) → f q = g q) : (∀ q, 0 ≤ q → q < i + 1 → up f i (h (o + i)) q = h (o + q)) ∧ (∀ q, ¬ (0 ≤ q ∧ q < i + 1) → up f i (h (o + i)) q = g q) := by
  refine ⟨fun q q1 q2 => ?_, fun q q1 => ?_⟩
  · by_cases e : q = i
    · subst e
      rw [up_self]
    · rw [up_ne _ _ e]
      exact h1 q q1 (by omega)
  · rw [up_ne _ _ (by omega)]
    exact h2 q (by omega)
