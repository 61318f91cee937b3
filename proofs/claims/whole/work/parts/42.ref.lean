theorem c_X9_slows {d : Nat} {hp : xH} {v : Nat → Int} (hM : xat hp 63 = some (yMo v)) {S : Int → Int} (hS : xat hp 64 = some (yI 47 S)) {t : Int} (ht : 0 ≤ t ∧ t ≤ 1) (hl : 0 ≤ S (0 + t) ∧ S (0 + t) ≤ 20) (h2 : 2 * S (0 + t) ≤ 20) (hd : 1 ≤ d) : Cv d 183 [.ref 63, yi t] hp (yR (none) (fun h => ∃ g, xat h 64 = some (yI 47 g) ∧ (∀ q, 0 ≤ q → q < 2 * S (0 + t) → g (7 + 20 * t + q) = S (7 + 20 * t + q / 2)) ∧ g (0 + t) = 2 * S (0 + t) ∧ (∀ q, q ≠ 0 + t → ¬ (7 + 20 * t ≤ q ∧ q < 7 + 20 * t + 2 * S (0 + t)) → g q = S q) ∧ yfr [64] hp h)) := by
  have hk : xtab 183 = (xc_183, 3, 0, []) := rfl
  obtain ⟨d, rfl⟩ : ∃ e, d = e + 1 := ⟨d - 1, by omega⟩
  show Ev (d + 1) 183 0 [(0, .ref 63), (1, yi t)] [] hp _
  refine E_run hk 2 (j' := 2) (lv' := [(0, .ref 63), (1, yi t)]) (st' := [yi t, .ref 63]) (hp' := hp) rfl ?_
  refine Y_callP hk rfl (as := [.ref 63, yi t]) (rest := []) (v := some (yi (S (0 + t)))) rfl rfl (Nat.le_of_ble_eq_true rfl) (rcv0 hM) (Nat.le_of_ble_eq_true rfl) (c_X9_many (t := t) (v := v) hM hS (by omega)) ?_
  refine E_run hk 1 (j' := 4) (lv' := [(0, .ref 63), (1, yi t)]) (st' := [yi 1, yi (S (0 + t))]) (hp' := hp) rfl ?_
  refine Y_isub (a := (S (0 + t))) (b := 1) hk rfl ?_
  refine E_run hk 1 (j' := 6) (lv' := [(2, yi ((S (0 + t)) - 1)), (0, .ref 63), (1, yi t)]) (st' := []) (hp' := hp) rfl ?_
  have loop6 : ∀ (N : Nat) (i : Int) (g : Int → Int) (hl6 : xH), (-1 ≤ i ∧ i ≤ S (0 + t) - 1) → (∀ q, ¬ (7 + 20 * t + 2 * (i + 1) ≤ q ∧ q < 7 + 20 * t + 2 * S (0 + t)) → g q = S q) → (∀ q, 2 * (i + 1) ≤ q → q < 2 * S (0 + t) → g (7 + 20 * t + q) = S (7 + 20 * t + q / 2)) → (xat hl6 64 = some (yI 47 g)) → (yfr [64] hp hl6) → (i + 1).toNat = N → Ev (d + 1) 183 6 [(0, .ref 63), (1, yi t), (2, yi i)] [] hl6 (yR (none) (fun h => ∃ g, xat h 64 = some (yI 47 g) ∧ (∀ q, 0 ≤ q → q < 2 * S (0 + t) → g (7 + 20 * t + q) = S (7 + 20 * t + q / 2)) ∧ g (0 + t) = 2 * S (0 + t) ∧ (∀ q, q ≠ 0 + t → ¬ (7 + 20 * t ≤ q ∧ q < 7 + 20 * t + 2 * S (0 + t)) → g q = S q) ∧ yfr [64] hp h)) := by
    intro N
    induction N using Nat.strongRecOn with
    | ind N ih6 =>
      intro i g hl6 J1 J2 J3 ec6_64 fr6 hm6
      refine E_run hk 1 (j' := 7) (lv' := [(0, .ref 63), (1, yi t), (2, yi i)]) (st' := [yi i]) (hp' := hl6) rfl ?_
      have w0 : g (0 + t) = S (0 + t) := J2 _ (by omega)
      refine Y_if_lt (a := i) (by omega) hk rfl (fun g1 => ?_) (fun g1 => ?_)
      ·
        refine E_run hk 1 (j' := 33) (lv' := [(0, .ref 63), (1, yi t), (2, yi i)]) (st' := [.ref 63]) (hp' := hl6) rfl ?_
        refine E_get (v := .ref 64) hk rfl (fr6.at (by decide) hM) rfl ?_
        refine E_run hk 2 (j' := 36) (lv' := [(0, .ref 63), (1, yi t), (2, yi i)]) (st' := [yi t, yi 0, .ref 64]) (hp' := hl6) rfl ?_
        refine Y_iadd (a := 0) (b := t) hk rfl ?_
        refine E_run hk 1 (j' := 38) (lv' := [(0, .ref 63), (1, yi t), (2, yi i)]) (st' := [yi (0 + t), .ref 64, yi (0 + t), .ref 64]) (hp' := hl6) rfl ?_
        refine Y_iald (a := (0 + t)) (by omega) (by decide) hk rfl ec6_64 ?_
        refine E_run hk 1 (j' := 40) (lv' := [(0, .ref 63), (1, yi t), (2, yi i)]) (st' := [yi 2, yi (g (0 + t)), yi (0 + t), .ref 64]) (hp' := hl6) rfl ?_
        refine Y_imul (a := (g (0 + t))) (b := 2) hk rfl ?_
        refine Y_iast (a := (0 + t)) (x := ((g (0 + t)) * 2)) (by omega) (by decide) (by decide) hk rfl ec6_64 (fun H2 e3 f4 => ?_)
        exact E_ret hk rfl rfl ⟨rfl, _, e3, fun q q1 q2 => (up_ne _ _ (by omega)).trans (J3 q (by omega) q2), (up_self _ _ _).trans (by rw [w0]; omega), fun q q1 q2 => (up_ne _ _ q1).trans (J2 q (by omega)), (yfr.tr fr6 f4 (fun _ h => h) (by decide))⟩
      ·
        refine E_run hk 4 (j' := 12) (lv' := [(0, .ref 63), (1, yi t), (2, yi i)]) (st' := [yi i, yi 2, yi t, .ref 63]) (hp' := hl6) rfl ?_
        refine Y_imul (a := 2) (b := i) hk rfl ?_
        refine E_run hk 1 (j' := 14) (lv' := [(0, .ref 63), (1, yi t), (2, yi i)]) (st' := [yi 1, yi (2 * i), yi t, .ref 63]) (hp' := hl6) rfl ?_
        refine Y_iadd (a := (2 * i)) (b := 1) hk rfl ?_
        refine E_run hk 3 (j' := 18) (lv' := [(0, .ref 63), (1, yi t), (2, yi i)]) (st' := [yi i, yi t, .ref 63, yi ((2 * i) + 1), yi t, .ref 63]) (hp' := hl6) rfl ?_
        refine Y_callP hk rfl (as := [.ref 63, yi t, yi i]) (rest := [yi ((2 * i) + 1), yi t, .ref 63]) (v := some (yi (g (7 + 20 * t + i)))) rfl rfl (Nat.le_of_ble_eq_true rfl) (rcv0 (fr6.at (by decide) hM)) (Nat.le_of_ble_eq_true rfl) (c_X9_of (t := t) (i := i) (v := v) (fr6.at (by decide) hM) ec6_64 (by omega)) ?_
        refine Y_call hk rfl (as := [.ref 63, yi t, yi ((2 * i) + 1), yi (g (7 + 20 * t + i))]) (rest := []) (v := none) rfl rfl (Nat.le_of_ble_eq_true rfl) (rcv0 (fr6.at (by decide) hM)) (Nat.le_of_ble_eq_true rfl) (c_X9_lay (t := t) (i := ((2 * i) + 1)) (x := (g (7 + 20 * t + i))) (v := v) (fr6.at (by decide) hM) ec6_64 (by omega)) (fun H5 r6 => ?_)
        obtain ⟨e_H5, f_H5⟩ := r6
        refine E_run hk 4 (j' := 24) (lv' := [(0, .ref 63), (1, yi t), (2, yi i)]) (st' := [yi i, yi 2, yi t, .ref 63]) (hp' := H5) rfl ?_
        refine Y_imul (a := 2) (b := i) hk rfl ?_
        refine E_run hk 3 (j' := 28) (lv' := [(0, .ref 63), (1, yi t), (2, yi i)]) (st' := [yi i, yi t, .ref 63, yi (2 * i), yi t, .ref 63]) (hp' := H5) rfl ?_
        refine Y_callP hk rfl (as := [.ref 63, yi t, yi i]) (rest := [yi (2 * i), yi t, .ref 63]) (v := some (yi ((up g (7 + 20 * t + ((2 * i) + 1)) (g (7 + 20 * t + i))) (7 + 20 * t + i)))) rfl rfl (Nat.le_of_ble_eq_true rfl) (rcv0 (f_H5.at (by decide) (fr6.at (by decide) hM))) (Nat.le_of_ble_eq_true rfl) (c_X9_of (t := t) (i := i) (v := v) (f_H5.at (by decide) (fr6.at (by decide) hM)) e_H5 (by omega)) ?_
        refine Y_call hk rfl (as := [.ref 63, yi t, yi (2 * i), yi ((up g (7 + 20 * t + ((2 * i) + 1)) (g (7 + 20 * t + i))) (7 + 20 * t + i))]) (rest := []) (v := none) rfl rfl (Nat.le_of_ble_eq_true rfl) (rcv0 (f_H5.at (by decide) (fr6.at (by decide) hM))) (Nat.le_of_ble_eq_true rfl) (c_X9_lay (t := t) (i := (2 * i)) (x := ((up g (7 + 20 * t + ((2 * i) + 1)) (g (7 + 20 * t + i))) (7 + 20 * t + i))) (v := v) (f_H5.at (by decide) (fr6.at (by decide) hM)) e_H5 (by omega)) (fun H7 r8 => ?_)
        obtain ⟨e_H7, f_H7⟩ := r8
        refine Y_iinc (a := i) (z := (-1)) hk rfl rfl rfl (by decide) (lv' := [(2, yi (i + (-1))), (0, .ref 63), (1, yi t)]) rfl ?_
        refine E_run hk 1 (j' := 6) (lv' := [(2, yi (i + (-1))), (0, .ref 63), (1, yi t)]) (st' := []) (hp' := H7) rfl ?_
        exact Ev_le (xle_s rfl rfl (xle_s rfl rfl (xle_s rfl rfl (xle_z _ rfl)))) (ih6 _ (by omega) (i + (-1)) (up (up g (7 + 20 * t + ((2 * i) + 1)) (g (7 + 20 * t + i))) (7 + 20 * t + (2 * i)) ((up g (7 + 20 * t + ((2 * i) + 1)) (g (7 + 20 * t + i))) (7 + 20 * t + i))) H7 (by omega) (fun q q1 => by
        unfold up
        rw [if_neg (by omega), if_neg (by omega)]
        exact J2 q (by omega)) (fun q q1 q2 => by
        unfold up
        by_cases e0 : q = 2 * i
        · rw [if_pos (by omega), if_neg (by omega), J2 _ (by omega), show q / 2 = i by omega]
        · rw [if_neg (by omega)]
          by_cases e1 : q = 2 * i + 1
          · rw [if_pos (by omega), J2 _ (by omega), show q / 2 = i by omega]
          · rw [if_neg (by omega)]
            exact J3 q (by omega) q2) e_H7 (yfr.tr (yfr.tr fr6 f_H5 (fun _ h => h) (by decide)) f_H7 (fun _ h => h) (by decide)) rfl)
  exact Ev_le (xle_s rfl rfl (xle_s rfl rfl (xle_s rfl rfl (xle_z _ rfl)))) (loop6 _ (S (0 + t) - 1) S hp (by omega) (fun q _ => rfl) (fun q q1 q2 => absurd q1 (by omega)) hS (yfr.refl _ _) rfl)
theorem c_X9_flips {d : Nat} {hp : xH} {v : Nat → Int} (hM : xat hp 63 = some (yMo v)) {S : Int → Int} (hS : xat hp 64 = some (yI 47 S)) {t : Int} (ht : 0 ≤ t ∧ t ≤ 1) (hl : 0 ≤ S (0 + t) ∧ S (0 + t) ≤ 20) (hd : 1 ≤ d) : Cv d 184 [.ref 63, yi t] hp (yR (none) (fun h => ∃ g, xat h 64 = some (yI 47 g) ∧ (∀ q, 0 ≤ q → q < S (0 + t) → g (7 + 20 * t + q) = S (7 + 20 * t + (S (0 + t) - 1 - q))) ∧ (∀ q, ¬ (7 + 20 * t ≤ q ∧ q < 7 + 20 * t + S (0 + t)) → g q = S q) ∧ yfr [64] hp h)) := by
  have hk : xtab 184 = (xc_184, 4, 0, []) := rfl
  obtain ⟨d, rfl⟩ : ∃ e, d = e + 1 := ⟨d - 1, by omega⟩
  show Ev (d + 1) 184 0 [(0, .ref 63), (1, yi t)] [] hp _
  refine E_run hk 2 (j' := 2) (lv' := [(2, yi 0), (0, .ref 63), (1, yi t)]) (st' := []) (hp' := hp) rfl ?_
  have loop2 : ∀ (N : Nat) (i : Int) (g : Int → Int) (hl2 : xH), (0 ≤ i ∧ 2 * i ≤ S (0 + t)) → (∀ q, 0 ≤ q → q < i → g (7 + 20 * t + q) = S (7 + 20 * t + (S (0 + t) - 1 - q))) → (∀ q, S (0 + t) - i ≤ q → q < S (0 + t) → g (7 + 20 * t + q) = S (7 + 20 * t + (S (0 + t) - 1 - q))) → (∀ q, ¬ (7 + 20 * t ≤ q ∧ q < 7 + 20 * t + i) → ¬ (7 + 20 * t + S (0 + t) - i ≤ q ∧ q < 7 + 20 * t + S (0 + t)) → g q = S q) → (xat hl2 64 = some (yI 47 g)) → (yfr [64] hp hl2) → (S (0 + t) - i).toNat = N → Ev (d + 1) 184 2 [(0, .ref 63), (1, yi t), (2, yi i)] [] hl2 (yR (none) (fun h => ∃ g, xat h 64 = some (yI 47 g) ∧ (∀ q, 0 ≤ q → q < S (0 + t) → g (7 + 20 * t + q) = S (7 + 20 * t + (S (0 + t) - 1 - q))) ∧ (∀ q, ¬ (7 + 20 * t ≤ q ∧ q < 7 + 20 * t + S (0 + t)) → g q = S q) ∧ yfr [64] hp h)) := by
    intro N
    induction N using Nat.strongRecOn with
    | ind N ih2 =>
      intro i g hl2 J1 J2 J3 J4 ec2_64 fr2 hm2
      refine E_run hk 1 (j' := 3) (lv' := [(0, .ref 63), (1, yi t), (2, yi i)]) (st' := [yi i]) (hp' := hl2) rfl ?_
      have w0 : g (0 + t) = S (0 + t) := J4 _ (by omega) (by omega)
      refine E_run hk 2 (j' := 5) (lv' := [(0, .ref 63), (1, yi t), (2, yi i)]) (st' := [yi t, .ref 63, yi i]) (hp' := hl2) rfl ?_
      refine Y_callP hk rfl (as := [.ref 63, yi t]) (rest := [yi i]) (v := some (yi (g (0 + t)))) rfl rfl (Nat.le_of_ble_eq_true rfl) (rcv0 (fr2.at (by decide) hM)) (Nat.le_of_ble_eq_true rfl) (c_X9_many (t := t) (v := v) (fr2.at (by decide) hM) ec2_64 (by omega)) ?_
      refine E_run hk 1 (j' := 7) (lv' := [(0, .ref 63), (1, yi t), (2, yi i)]) (st' := [yi 2, yi (g (0 + t)), yi i]) (hp' := hl2) rfl ?_
      refine Y_idiv (a := (g (0 + t))) (b := 2) (by omega) hk rfl ?_
      refine Y_ic_ge (a := i) (b := ((g (0 + t)) / 2)) (by omega) hk rfl (fun g1 => ?_) (fun g1 => ?_)
      ·
        exact E_ret hk rfl rfl ⟨rfl, _, ec2_64, fun q q1 q2 => by
          by_cases e0 : q < i
          · exact J2 q q1 e0
          · by_cases e1 : S (0 + t) - i ≤ q
            · exact J3 q e1 q2
            · rw [J4 _ (by omega) (by omega)]
              congr 1
              omega, fun q q1 => J4 q (by omega) (by omega), fr2⟩
      ·
        refine E_run hk 3 (j' := 12) (lv' := [(0, .ref 63), (1, yi t), (2, yi i)]) (st' := [yi i, yi t, .ref 63]) (hp' := hl2) rfl ?_
        refine Y_callP hk rfl (as := [.ref 63, yi t, yi i]) (rest := []) (v := some (yi (g (7 + 20 * t + i)))) rfl rfl (Nat.le_of_ble_eq_true rfl) (rcv0 (fr2.at (by decide) hM)) (Nat.le_of_ble_eq_true rfl) (c_X9_of (t := t) (i := i) (v := v) (fr2.at (by decide) hM) ec2_64 (by omega)) ?_
        refine E_run hk 8 (j' := 21) (lv' := [(3, yi (g (7 + 20 * t + i))), (0, .ref 63), (1, yi t), (2, yi i)]) (st' := [yi t, .ref 63, yi t, .ref 63, yi i, yi t, .ref 63]) (hp' := hl2) rfl ?_
        refine Y_callP hk rfl (as := [.ref 63, yi t]) (rest := [yi t, .ref 63, yi i, yi t, .ref 63]) (v := some (yi (g (0 + t)))) rfl rfl (Nat.le_of_ble_eq_true rfl) (rcv0 (fr2.at (by decide) hM)) (Nat.le_of_ble_eq_true rfl) (c_X9_many (t := t) (v := v) (fr2.at (by decide) hM) ec2_64 (by omega)) ?_
        refine E_run hk 1 (j' := 23) (lv' := [(3, yi (g (7 + 20 * t + i))), (0, .ref 63), (1, yi t), (2, yi i)]) (st' := [yi 1, yi (g (0 + t)), yi t, .ref 63, yi i, yi t, .ref 63]) (hp' := hl2) rfl ?_
        refine Y_isub (a := (g (0 + t))) (b := 1) hk rfl ?_
        refine E_run hk 1 (j' := 25) (lv' := [(3, yi (g (7 + 20 * t + i))), (0, .ref 63), (1, yi t), (2, yi i)]) (st' := [yi i, yi ((g (0 + t)) - 1), yi t, .ref 63, yi i, yi t, .ref 63]) (hp' := hl2) rfl ?_
        refine Y_isub (a := ((g (0 + t)) - 1)) (b := i) hk rfl ?_
        refine Y_callP hk rfl (as := [.ref 63, yi t, yi (((g (0 + t)) - 1) - i)]) (rest := [yi i, yi t, .ref 63]) (v := some (yi (g (7 + 20 * t + (((g (0 + t)) - 1) - i))))) rfl rfl (Nat.le_of_ble_eq_true rfl) (rcv0 (fr2.at (by decide) hM)) (Nat.le_of_ble_eq_true rfl) (c_X9_of (t := t) (i := (((g (0 + t)) - 1) - i)) (v := v) (fr2.at (by decide) hM) ec2_64 (by omega)) ?_
        refine Y_call hk rfl (as := [.ref 63, yi t, yi i, yi (g (7 + 20 * t + (((g (0 + t)) - 1) - i)))]) (rest := []) (v := none) rfl rfl (Nat.le_of_ble_eq_true rfl) (rcv0 (fr2.at (by decide) hM)) (Nat.le_of_ble_eq_true rfl) (c_X9_lay (t := t) (i := i) (x := (g (7 + 20 * t + (((g (0 + t)) - 1) - i)))) (v := v) (fr2.at (by decide) hM) ec2_64 (by omega)) (fun H2 r3 => ?_)
        obtain ⟨e_H2, f_H2⟩ := r3
        refine E_run hk 1 (j' := 29) (lv' := [(3, yi (g (7 + 20 * t + i))), (0, .ref 63), (1, yi t), (2, yi i)]) (st' := [.ref 63]) (hp' := H2) rfl ?_
        have w1 : up g (7 + 20 * t + i) (g (7 + 20 * t + (g (0 + t) - 1 - i))) (0 + t) = S (0 + t) := (up_ne _ _ (by omega)).trans w0
        refine E_run hk 3 (j' := 32) (lv' := [(3, yi (g (7 + 20 * t + i))), (0, .ref 63), (1, yi t), (2, yi i)]) (st' := [yi t, .ref 63, yi t, .ref 63]) (hp' := H2) rfl ?_
        refine Y_callP hk rfl (as := [.ref 63, yi t]) (rest := [yi t, .ref 63]) (v := some (yi ((up g (7 + 20 * t + i) (g (7 + 20 * t + (((g (0 + t)) - 1) - i)))) (0 + t)))) rfl rfl (Nat.le_of_ble_eq_true rfl) (rcv0 (f_H2.at (by decide) (fr2.at (by decide) hM))) (Nat.le_of_ble_eq_true rfl) (c_X9_many (t := t) (v := v) (f_H2.at (by decide) (fr2.at (by decide) hM)) e_H2 (by omega)) ?_
        refine E_run hk 1 (j' := 34) (lv' := [(3, yi (g (7 + 20 * t + i))), (0, .ref 63), (1, yi t), (2, yi i)]) (st' := [yi 1, yi ((up g (7 + 20 * t + i) (g (7 + 20 * t + (((g (0 + t)) - 1) - i)))) (0 + t)), yi t, .ref 63]) (hp' := H2) rfl ?_
        refine Y_isub (a := ((up g (7 + 20 * t + i) (g (7 + 20 * t + (((g (0 + t)) - 1) - i)))) (0 + t))) (b := 1) hk rfl ?_
        refine E_run hk 1 (j' := 36) (lv' := [(3, yi (g (7 + 20 * t + i))), (0, .ref 63), (1, yi t), (2, yi i)]) (st' := [yi i, yi (((up g (7 + 20 * t + i) (g (7 + 20 * t + (((g (0 + t)) - 1) - i)))) (0 + t)) - 1), yi t, .ref 63]) (hp' := H2) rfl ?_
        refine Y_isub (a := (((up g (7 + 20 * t + i) (g (7 + 20 * t + (((g (0 + t)) - 1) - i)))) (0 + t)) - 1)) (b := i) hk rfl ?_
        refine E_run hk 1 (j' := 38) (lv' := [(3, yi (g (7 + 20 * t + i))), (0, .ref 63), (1, yi t), (2, yi i)]) (st' := [yi (g (7 + 20 * t + i)), yi ((((up g (7 + 20 * t + i) (g (7 + 20 * t + (((g (0 + t)) - 1) - i)))) (0 + t)) - 1) - i), yi t, .ref 63]) (hp' := H2) rfl ?_
        refine Y_call hk rfl (as := [.ref 63, yi t, yi ((((up g (7 + 20 * t + i) (g (7 + 20 * t + (((g (0 + t)) - 1) - i)))) (0 + t)) - 1) - i), yi (g (7 + 20 * t + i))]) (rest := []) (v := none) rfl rfl (Nat.le_of_ble_eq_true rfl) (rcv0 (f_H2.at (by decide) (fr2.at (by decide) hM))) (Nat.le_of_ble_eq_true rfl) (c_X9_lay (t := t) (i := ((((up g (7 + 20 * t + i) (g (7 + 20 * t + (((g (0 + t)) - 1) - i)))) (0 + t)) - 1) - i)) (x := (g (7 + 20 * t + i))) (v := v) (f_H2.at (by decide) (fr2.at (by decide) hM)) e_H2 (by omega)) (fun H4 r5 => ?_)
        obtain ⟨e_H4, f_H4⟩ := r5
        refine Y_iinc (a := i) (z := 1) hk rfl rfl rfl (by decide) (lv' := [(2, yi (i + 1)), (3, yi (g (7 + 20 * t + i))), (0, .ref 63), (1, yi t)]) rfl ?_
        refine E_run hk 1 (j' := 2) (lv' := [(2, yi (i + 1)), (3, yi (g (7 + 20 * t + i))), (0, .ref 63), (1, yi t)]) (st' := []) (hp' := H4) rfl ?_
        exact Ev_le (xle_s rfl rfl (xle_s rfl rfl (xle_s rfl rfl (xle_z _ rfl)))) (ih2 _ (by omega) (i + 1) (up (up g (7 + 20 * t + i) (g (7 + 20 * t + (((g (0 + t)) - 1) - i)))) (7 + 20 * t + ((((up g (7 + 20 * t + i) (g (7 + 20 * t + (((g (0 + t)) - 1) - i)))) (0 + t)) - 1) - i)) (g (7 + 20 * t + i))) H4 (by omega) (fun q q1 q2 => by
        rw [up_ne _ _ (by omega)]
        by_cases e0 : q = i
        · subst e0
          rw [up_self, J4 _ (by omega) (by omega), w0]
        · rw [up_ne _ _ (by omega)]
          exact J2 q q1 (by omega)) (fun q q1 q2 => by
        by_cases e0 : q = S (0 + t) - 1 - i
        · rw [show 7 + 20 * t + q = 7 + 20 * t + (up g (7 + 20 * t + i) (g (7 + 20 * t + (g (0 + t) - 1 - i))) (0 + t) - 1 - i) by rw [w1]; omega, up_self, J4 _ (by omega) (by omega)]
          congr 1
          omega
        · rw [up_ne _ _ (by omega), up_ne _ _ (by omega)]
          exact J3 q (by omega) q2) (fun q q1 q2 => by
        rw [up_ne _ _ (by omega), up_ne _ _ (by omega)]
        exact J4 q (by omega) (by omega)) e_H4 (yfr.tr (yfr.tr fr2 f_H2 (fun _ h => h) (by decide)) f_H4 (fun _ h => h) (by decide)) rfl)
  exact Ev_le (xle_s rfl rfl (xle_s rfl rfl (xle_s rfl rfl (xle_z _ rfl)))) (loop2 _ 0 S hp (by omega) (fun q q1 q2 => absurd q1 (by omega)) (fun q q1 q2 => absurd q1 (by omega)) (fun q _ _ => rfl) hS (yfr.refl _ _) rfl)
