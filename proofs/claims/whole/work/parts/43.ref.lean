theorem c_X9_swaps {d : Nat} {hp : xH} {v : Nat → Int} (hM : xat hp 63 = some (yMo v)) {S : Int → Int} (hS : xat hp 64 = some (yI 47 S)) (hl : 0 ≤ S 0 ∧ S 0 ≤ 20 ∧ 0 ≤ S 1 ∧ S 1 ≤ 20) (hd : 1 ≤ d) : Cv d 179 [.ref 63] hp (yR (some (yi (S 1))) (fun h => ∃ g, xat h 64 = some (yI 47 g) ∧ (∀ q, 0 ≤ q → q < 20 → g (7 + q) = S (27 + q) ∧ g (27 + q) = S (7 + q)) ∧ g 0 = S 1 ∧ g 1 = S 0 ∧ (∀ q, 2 ≤ q → q < 7 → g q = S q) ∧ yfr [64] hp h)) := by
  have hk : xtab 179 = (xc_179, 3, 1, []) := rfl
  obtain ⟨d, rfl⟩ : ∃ e, d = e + 1 := ⟨d - 1, by omega⟩
  show Ev (d + 1) 179 0 [(0, .ref 63)] [] hp _
  refine E_run hk 2 (j' := 2) (lv' := [(1, yi 0), (0, .ref 63)]) (st' := []) (hp' := hp) rfl ?_
  have loop2 : ∀ (N : Nat) (i : Int) (g : Int → Int) (hl2 : xH), (0 ≤ i ∧ i ≤ 20) → (∀ q, 0 ≤ q → q < i → g (7 + q) = S (27 + q) ∧ g (27 + q) = S (7 + q)) → (∀ q, ¬ (7 ≤ q ∧ q < 7 + i) → ¬ (27 ≤ q ∧ q < 27 + i) → g q = S q) → (xat hl2 64 = some (yI 47 g)) → (yfr [64] hp hl2) → (20 - i).toNat = N → Ev (d + 1) 179 2 [(0, .ref 63), (1, yi i)] [] hl2 (yR (some (yi (S 1))) (fun h => ∃ g, xat h 64 = some (yI 47 g) ∧ (∀ q, 0 ≤ q → q < 20 → g (7 + q) = S (27 + q) ∧ g (27 + q) = S (7 + q)) ∧ g 0 = S 1 ∧ g 1 = S 0 ∧ (∀ q, 2 ≤ q → q < 7 → g q = S q) ∧ yfr [64] hp h)) := by
    intro N
    induction N using Nat.strongRecOn with
    | ind N ih2 =>
      intro i g hl2 J1 J2 J3 ec2_64 fr2 hm2
      refine E_run hk 1 (j' := 3) (lv' := [(0, .ref 63), (1, yi i)]) (st' := [yi i]) (hp' := hl2) rfl ?_
      refine E_run hk 1 (j' := 4) (lv' := [(0, .ref 63), (1, yi i)]) (st' := [yi 20, yi i]) (hp' := hl2) rfl ?_
      refine Y_ic_ge (a := i) (b := 20) (by omega) hk rfl (fun g1 => ?_) (fun g1 => ?_)
      ·
        refine E_run hk 2 (j' := 27) (lv' := [(0, .ref 63), (1, yi i)]) (st' := [yi 0, .ref 63]) (hp' := hl2) rfl ?_
        refine Y_callP hk rfl (as := [.ref 63, yi 0]) (rest := []) (v := some (yi (g 0))) rfl rfl (Nat.le_of_ble_eq_true rfl) (rcv0 (fr2.at (by decide) hM)) (Nat.le_of_ble_eq_true rfl) (c_X9_many (t := 0) (v := v) (fr2.at (by decide) hM) ec2_64 (by omega)) ?_
        refine E_run hk 2 (j' := 30) (lv' := [(1, yi (g 0)), (0, .ref 63)]) (st' := [.ref 63]) (hp' := hl2) rfl ?_
        refine E_get (v := .ref 64) hk rfl (fr2.at (by decide) hM) rfl ?_
        refine E_run hk 3 (j' := 34) (lv' := [(1, yi (g 0)), (0, .ref 63)]) (st' := [yi 1, .ref 63, yi 0, .ref 64]) (hp' := hl2) rfl ?_
        refine Y_callP hk rfl (as := [.ref 63, yi 1]) (rest := [yi 0, .ref 64]) (v := some (yi (g 1))) rfl rfl (Nat.le_of_ble_eq_true rfl) (rcv0 (fr2.at (by decide) hM)) (Nat.le_of_ble_eq_true rfl) (c_X9_many (t := 1) (v := v) (fr2.at (by decide) hM) ec2_64 (by omega)) ?_
        refine Y_iast (a := 0) (x := (g 1)) (by omega) (by decide) (by decide) hk rfl ec2_64 (fun H2 e3 f4 => ?_)
        refine E_run hk 1 (j' := 37) (lv' := [(1, yi (g 0)), (0, .ref 63)]) (st' := [.ref 63]) (hp' := H2) rfl ?_
        refine E_get (v := .ref 64) hk rfl (f4.at (by decide) (fr2.at (by decide) hM)) rfl ?_
        refine E_run hk 2 (j' := 40) (lv' := [(1, yi (g 0)), (0, .ref 63)]) (st' := [yi (g 0), yi 1, .ref 64]) (hp' := H2) rfl ?_
        refine Y_iast (a := 1) (x := (g 0)) (by omega) (by decide) (by decide) hk rfl e3 (fun H5 e6 f7 => ?_)
        refine E_run hk 2 (j' := 43) (lv' := [(1, yi (g 0)), (0, .ref 63)]) (st' := [yi 0, .ref 63]) (hp' := H5) rfl ?_
        refine Y_callP hk rfl (as := [.ref 63, yi 0]) (rest := []) (v := some (yi ((up (up g 0 (g 1)) 1 (g 0)) 0))) rfl rfl (Nat.le_of_ble_eq_true rfl) (rcv0 (f7.at (by decide) (f4.at (by decide) (fr2.at (by decide) hM)))) (Nat.le_of_ble_eq_true rfl) (c_X9_many (t := 0) (v := v) (f7.at (by decide) (f4.at (by decide) (fr2.at (by decide) hM))) e6 (by omega)) ?_
        exact E_ret hk rfl rfl ⟨by
          show _ = Sum.inl (some (yi (S 1)))
          rw [show (up (up g 0 (g 1)) 1 (g 0)) 0 = S 1 from (up_ne _ _ (by decide)).trans ((up_self _ _ _).trans (J3 1 (by omega) (by omega)))], _, e6, fun q q1 q2 => by
          rw [up_ne _ _ (by omega), up_ne _ _ (by omega), up_ne _ _ (by omega), up_ne _ _ (by omega)]
          exact J2 q q1 (by omega), (up_ne _ _ (by decide)).trans ((up_self _ _ _).trans (J3 1 (by omega) (by omega))), (up_self _ _ _).trans (J3 0 (by omega) (by omega)), fun q q1 q2 => by
          rw [up_ne _ _ (by omega), up_ne _ _ (by omega)]
          exact J3 q (by omega) (by omega), (yfr.tr (yfr.tr fr2 f4 (fun _ h => h) (by decide)) f7 (fun _ h => h) (by decide))⟩
      ·
        refine E_run hk 3 (j' := 8) (lv' := [(0, .ref 63), (1, yi i)]) (st' := [yi i, yi 0, .ref 63]) (hp' := hl2) rfl ?_
        refine Y_callP hk rfl (as := [.ref 63, yi 0, yi i]) (rest := []) (v := some (yi (g (7 + i)))) rfl rfl (Nat.le_of_ble_eq_true rfl) (rcv0 (fr2.at (by decide) hM)) (Nat.le_of_ble_eq_true rfl) (c_X9_of (t := 0) (i := i) (v := v) (fr2.at (by decide) hM) ec2_64 (by omega)) ?_
        refine E_run hk 7 (j' := 16) (lv' := [(2, yi (g (7 + i))), (0, .ref 63), (1, yi i)]) (st' := [yi i, yi 1, .ref 63, yi i, yi 0, .ref 63]) (hp' := hl2) rfl ?_
        refine Y_callP hk rfl (as := [.ref 63, yi 1, yi i]) (rest := [yi i, yi 0, .ref 63]) (v := some (yi (g (27 + i)))) rfl rfl (Nat.le_of_ble_eq_true rfl) (rcv0 (fr2.at (by decide) hM)) (Nat.le_of_ble_eq_true rfl) (c_X9_of (t := 1) (i := i) (v := v) (fr2.at (by decide) hM) ec2_64 (by omega)) ?_
        refine Y_call hk rfl (as := [.ref 63, yi 0, yi i, yi (g (27 + i))]) (rest := []) (v := none) rfl rfl (Nat.le_of_ble_eq_true rfl) (rcv0 (fr2.at (by decide) hM)) (Nat.le_of_ble_eq_true rfl) (c_X9_lay (t := 0) (i := i) (x := (g (27 + i))) (v := v) (fr2.at (by decide) hM) ec2_64 (by omega)) (fun H8 r9 => ?_)
        obtain ⟨e_H8, f_H8⟩ := r9
        refine E_run hk 4 (j' := 22) (lv' := [(2, yi (g (7 + i))), (0, .ref 63), (1, yi i)]) (st' := [yi (g (7 + i)), yi i, yi 1, .ref 63]) (hp' := H8) rfl ?_
        refine Y_call hk rfl (as := [.ref 63, yi 1, yi i, yi (g (7 + i))]) (rest := []) (v := none) rfl rfl (Nat.le_of_ble_eq_true rfl) (rcv0 (f_H8.at (by decide) (fr2.at (by decide) hM))) (Nat.le_of_ble_eq_true rfl) (c_X9_lay (t := 1) (i := i) (x := (g (7 + i))) (v := v) (f_H8.at (by decide) (fr2.at (by decide) hM)) e_H8 (by omega)) (fun H10 r11 => ?_)
        obtain ⟨e_H10, f_H10⟩ := r11
        refine Y_iinc (a := i) (z := 1) hk rfl rfl rfl (by decide) (lv' := [(1, yi (i + 1)), (2, yi (g (7 + i))), (0, .ref 63)]) rfl ?_
        refine E_run hk 1 (j' := 2) (lv' := [(1, yi (i + 1)), (2, yi (g (7 + i))), (0, .ref 63)]) (st' := []) (hp' := H10) rfl ?_
        exact Ev_le (xle_s rfl rfl (xle_s rfl rfl (xle_z _ rfl))) (ih2 _ (by omega) (i + 1) (up (up g (7 + 20 * 0 + i) (g (27 + i))) (7 + 20 * 1 + i) (g (7 + i))) H10 (by omega) (fun q q1 q2 => by
        by_cases e0 : q = i
        · subst e0
          constructor
          · rw [up_ne _ _ (by omega), show (7 + q) = 7 + 20 * 0 + q by omega, up_self, J3 _ (by omega) (by omega)]
            try congr 1
          · rw [show (27 + q) = 7 + 20 * 1 + q by omega, up_self, J3 _ (by omega) (by omega)]
            try congr 1
        · rw [up_ne _ _ (by omega), up_ne _ _ (by omega), up_ne _ _ (by omega), up_ne _ _ (by omega)]
          exact J2 q q1 (by omega)) (fun q q1 q2 => by
        rw [up_ne _ _ (by omega), up_ne _ _ (by omega)]
        exact J3 q (by omega) (by omega)) e_H10 (yfr.tr (yfr.tr fr2 f_H8 (fun _ h => h) (by decide)) f_H10 (fun _ h => h) (by decide)) rfl)
  exact Ev_le (xle_s rfl rfl (xle_s rfl rfl (xle_z _ rfl))) (loop2 _ 0 S hp (by omega) (fun q q1 q2 => absurd q1 (by omega)) (fun q _ _ => rfl) hS (yfr.refl _ _) rfl)
theorem c_X9_records {d : Nat} {hp : xH} {v : Nat → Int} (hM : xat hp 63 = some (yMo v)) {S : Int → Int} (hS : xat hp 64 = some (yI 47 S)) {T : Int → Int} (hT : xat hp 65 = some (yI 282 T)) (hm : 0 ≤ v 3 ∧ v 3 ≤ 6) : Cv d 155 [.ref 63] hp (yR (none) (fun h => ∃ U, xat h 63 = some (yMo (vup v 3 (if v 3 = 6 then 6 else v 3 + 1))) ∧ xat h 65 = some (yI 282 U) ∧ (∀ q, 0 ≤ q → q < 47 → U (47 * (if v 3 = 6 then 5 else v 3) + q) = S q) ∧ (∀ q, 0 ≤ q → q < 47 * (if v 3 = 6 then 5 else v 3) → U q = T (if v 3 = 6 then q + 47 else q)) ∧ yfr [63, 65] hp h)) := by
  have hk : xtab 155 = (xc_155, 2, 0, []) := rfl
  show Ev d 155 0 [(0, .ref 63)] [] hp _
  refine E_run hk 1 (j' := 1) (lv' := [(0, .ref 63)]) (st' := [.ref 63]) (hp' := hp) rfl ?_
  refine E_get (v := yi (v 3)) hk rfl hM rfl ?_
  refine E_run hk 1 (j' := 3) (lv' := [(0, .ref 63)]) (st' := [yi 6, yi (v 3)]) (hp' := hp) rfl ?_
  refine Y_ic_ne (a := (v 3)) (b := 6) (by omega) hk rfl (fun g1 => ?_) (fun g1 => ?_)
  ·
    refine E_run hk 2 (j' := 29) (lv' := [(1, yi 0), (0, .ref 63)]) (st' := []) (hp' := hp) rfl ?_
    have loop29 : ∀ (N : Nat) (i2 : Int) (W : Int → Int) (hl29 : xH), (0 ≤ i2 ∧ i2 ≤ 47) → (∀ q, 0 ≤ q → q < i2 → W (47 * (v 3) + q) = S q) → (∀ q, 0 ≤ q → q < 47 * (v 3) → W q = T q) → (xat hl29 65 = some (yI 282 W)) → (yfr [65] hp hl29) → (47 - i2).toNat = N → Ev d 155 29 [(0, .ref 63), (1, yi i2)] [] hl29 (yR (none) (fun h => ∃ U, xat h 63 = some (yMo (vup v 3 (if v 3 = 6 then 6 else v 3 + 1))) ∧ xat h 65 = some (yI 282 U) ∧ (∀ q, 0 ≤ q → q < 47 → U (47 * (if v 3 = 6 then 5 else v 3) + q) = S q) ∧ (∀ q, 0 ≤ q → q < 47 * (if v 3 = 6 then 5 else v 3) → U q = T (if v 3 = 6 then q + 47 else q)) ∧ yfr [63, 65] hp h)) := by
      intro N
      induction N using Nat.strongRecOn with
      | ind N ih29 =>
        intro i2 W hl29 K1 K2 K3 ec29_65 fr29 hm29
        refine E_run hk 1 (j' := 30) (lv' := [(0, .ref 63), (1, yi i2)]) (st' := [yi i2]) (hp' := hl29) rfl ?_
        refine E_run hk 1 (j' := 31) (lv' := [(0, .ref 63), (1, yi i2)]) (st' := [yi 47, yi i2]) (hp' := hl29) rfl ?_
        refine Y_ic_ge (a := i2) (b := 47) (by omega) hk rfl (fun g2 => ?_) (fun g2 => ?_)
        ·
          refine E_run hk 2 (j' := 49) (lv' := [(0, .ref 63), (1, yi i2)]) (st' := [.ref 63, .ref 63]) (hp' := hl29) rfl ?_
          refine E_get (v := yi (v 3)) hk rfl (fr29.at (by decide) hM) rfl ?_
          refine E_run hk 1 (j' := 51) (lv' := [(0, .ref 63), (1, yi i2)]) (st' := [yi 1, yi (v 3), .ref 63]) (hp' := hl29) rfl ?_
          refine Y_iadd (a := (v 3)) (b := 1) hk rfl ?_
          refine Y_put hk rfl (fr29.at (by decide) hM) (by decide) (Nat.le_of_ble_eq_true rfl) rfl (fs' := [yi (v 0), .ref 64, .ref 65, yi ((v 3) + 1), .ref 66, yi (v 5), .ref 67, yi (v 7), yi (v 8), yi (v 9), .ref 68, yi (v 11), .ref 69, yi (v 13), .ref 70, .ref 71, .ref 72, .ref 73, .ref 74, .ref 75, yi (v 20), yi (v 21)]) rfl (fun H3 e4 f5 => ?_)
          exact E_ret hk rfl rfl (by
          refine ⟨rfl, _, ?_, (f5.at (by decide) ec29_65), ?_, ?_, (yfr.tr (fr29.mono (by decide)) f5 (fun _ h => h) (by decide))⟩
          · have e9 := e4
            have e8 : (v 3) + 1 = if v 3 = 6 then 6 else v 3 + 1 := by split <;> omega
            rw [e8] at e9
            exact e9
          · intro q q1 q2
            first
              | (rw [if_pos (by omega)]; first | exact K2 q q1 (by omega) | (have K2q := K2 q q1 (by omega); rw [show v 3 - 1 = 5 by omega] at K2q; exact K2q))
              | (rw [if_neg (by omega)]; exact K2 q q1 (by omega))
          · intro q q1 q2
            first
              | (rw [if_pos (by omega)] at q2 ⊢; rw [K3 q q1 (by omega)]; exact J2 q q1 (by omega))
              | (rw [if_neg (by omega)] at q2 ⊢; exact K3 q q1 (by omega)))
        ·
          refine E_run hk 1 (j' := 33) (lv' := [(0, .ref 63), (1, yi i2)]) (st' := [.ref 63]) (hp' := hl29) rfl ?_
          refine E_get (v := .ref 65) hk rfl (fr29.at (by decide) hM) rfl ?_
          refine E_run hk 2 (j' := 36) (lv' := [(0, .ref 63), (1, yi i2)]) (st' := [.ref 63, yi 47, .ref 65]) (hp' := hl29) rfl ?_
          refine E_get (v := yi (v 3)) hk rfl (fr29.at (by decide) hM) rfl ?_
          refine Y_imul (a := 47) (b := (v 3)) hk rfl ?_
          refine E_run hk 1 (j' := 39) (lv' := [(0, .ref 63), (1, yi i2)]) (st' := [yi i2, yi (47 * (v 3)), .ref 65]) (hp' := hl29) rfl ?_
          refine Y_iadd (a := (47 * (v 3))) (b := i2) hk rfl ?_
          refine E_run hk 1 (j' := 41) (lv' := [(0, .ref 63), (1, yi i2)]) (st' := [.ref 63, yi ((47 * (v 3)) + i2), .ref 65]) (hp' := hl29) rfl ?_
          refine E_get (v := .ref 64) hk rfl (fr29.at (by decide) hM) rfl ?_
          refine E_run hk 1 (j' := 43) (lv' := [(0, .ref 63), (1, yi i2)]) (st' := [yi i2, .ref 64, yi ((47 * (v 3)) + i2), .ref 65]) (hp' := hl29) rfl ?_
          refine Y_iald (a := i2) (by omega) (by decide) hk rfl (fr29.at (by decide) hS) ?_
          refine Y_iast (a := ((47 * (v 3)) + i2)) (x := (S i2)) (by omega) (by decide) (by decide) hk rfl ec29_65 (fun H6 e7 f8 => ?_)
          refine Y_iinc (a := i2) (z := 1) hk rfl rfl rfl (by decide) (lv' := [(1, yi (i2 + 1)), (0, .ref 63)]) rfl ?_
          refine E_run hk 1 (j' := 29) (lv' := [(1, yi (i2 + 1)), (0, .ref 63)]) (st' := []) (hp' := H6) rfl ?_
          exact Ev_le (xle_s rfl rfl (xle_s rfl rfl (xle_z _ rfl))) (ih29 _ (by omega) (i2 + 1) (up W ((47 * (v 3)) + i2) (S i2)) H6 (by omega) (fun q q1 q2 => by
        by_cases e0 : q = i2
        · subst e0
          rw [up_self]
        · rw [up_ne _ _ (by omega)]
          exact K2 q q1 (by omega)) (fun q q1 q2 => by
        rw [up_ne _ _ (by omega)]
        exact K3 q q1 q2) e7 (yfr.tr fr29 f8 (fun _ h => h) (by decide)) rfl)
    exact Ev_le (xle_s rfl rfl (xle_s rfl rfl (xle_z _ rfl))) (loop29 _ 0 T hp (by omega) (fun q q1 q2 => absurd q1 (by omega)) (fun q _ _ => rfl) hT (yfr.refl _ _) rfl)
  ·
    refine E_run hk 2 (j' := 6) (lv' := [(1, yi 0), (0, .ref 63)]) (st' := []) (hp' := hp) rfl ?_
    have loop6 : ∀ (N : Nat) (i : Int) (U : Int → Int) (hl6 : xH), (0 ≤ i ∧ i ≤ 235) → (∀ q, 0 ≤ q → q < i → U q = T (q + 47)) → (∀ q, i ≤ q → U q = T q) → (xat hl6 65 = some (yI 282 U)) → (yfr [65] hp hl6) → (235 - i).toNat = N → Ev d 155 6 [(0, .ref 63), (1, yi i)] [] hl6 (yR (none) (fun h => ∃ U, xat h 63 = some (yMo (vup v 3 (if v 3 = 6 then 6 else v 3 + 1))) ∧ xat h 65 = some (yI 282 U) ∧ (∀ q, 0 ≤ q → q < 47 → U (47 * (if v 3 = 6 then 5 else v 3) + q) = S q) ∧ (∀ q, 0 ≤ q → q < 47 * (if v 3 = 6 then 5 else v 3) → U q = T (if v 3 = 6 then q + 47 else q)) ∧ yfr [63, 65] hp h)) := by
      intro N
      induction N using Nat.strongRecOn with
      | ind N ih6 =>
        intro i U hl6 J1 J2 J3 ec6_65 fr6 hm6
        refine E_run hk 1 (j' := 7) (lv' := [(0, .ref 63), (1, yi i)]) (st' := [yi i]) (hp' := hl6) rfl ?_
        refine E_run hk 1 (j' := 8) (lv' := [(0, .ref 63), (1, yi i)]) (st' := [yi 235, yi i]) (hp' := hl6) rfl ?_
        refine Y_ic_ge (a := i) (b := 235) (by omega) hk rfl (fun g9 => ?_) (fun g9 => ?_)
        ·
          refine E_run hk 2 (j' := 23) (lv' := [(0, .ref 63), (1, yi i)]) (st' := [.ref 63, .ref 63]) (hp' := hl6) rfl ?_
          refine E_get (v := yi (v 3)) hk rfl (fr6.at (by decide) hM) rfl ?_
          refine E_run hk 1 (j' := 25) (lv' := [(0, .ref 63), (1, yi i)]) (st' := [yi 1, yi (v 3), .ref 63]) (hp' := hl6) rfl ?_
          refine Y_isub (a := (v 3)) (b := 1) hk rfl ?_
          refine Y_put hk rfl (fr6.at (by decide) hM) (by decide) (Nat.le_of_ble_eq_true rfl) rfl (fs' := [yi (v 0), .ref 64, .ref 65, yi ((v 3) - 1), .ref 66, yi (v 5), .ref 67, yi (v 7), yi (v 8), yi (v 9), .ref 68, yi (v 11), .ref 69, yi (v 13), .ref 70, .ref 71, .ref 72, .ref 73, .ref 74, .ref 75, yi (v 20), yi (v 21)]) rfl (fun H10 e11 f12 => ?_)
          refine E_run hk 2 (j' := 29) (lv' := [(1, yi 0), (0, .ref 63)]) (st' := []) (hp' := H10) rfl ?_
          have loop29 : ∀ (N : Nat) (i2 : Int) (W : Int → Int) (hl29 : xH), (0 ≤ i2 ∧ i2 ≤ 47) → (∀ q, 0 ≤ q → q < i2 → W (47 * ((v 3) - 1) + q) = S q) → (∀ q, 0 ≤ q → q < 47 * ((v 3) - 1) → W q = U q) → (xat hl29 65 = some (yI 282 W)) → (yfr [65] H10 hl29) → (47 - i2).toNat = N → Ev d 155 29 [(0, .ref 63), (1, yi i2)] [] hl29 (yR (none) (fun h => ∃ U, xat h 63 = some (yMo (vup v 3 (if v 3 = 6 then 6 else v 3 + 1))) ∧ xat h 65 = some (yI 282 U) ∧ (∀ q, 0 ≤ q → q < 47 → U (47 * (if v 3 = 6 then 5 else v 3) + q) = S q) ∧ (∀ q, 0 ≤ q → q < 47 * (if v 3 = 6 then 5 else v 3) → U q = T (if v 3 = 6 then q + 47 else q)) ∧ yfr [63, 65] hp h)) := by
            intro N
            induction N using Nat.strongRecOn with
            | ind N ih29 =>
              intro i2 W hl29 K1 K2 K3 ec29_65 fr29 hm29
              refine E_run hk 1 (j' := 30) (lv' := [(0, .ref 63), (1, yi i2)]) (st' := [yi i2]) (hp' := hl29) rfl ?_
              refine E_run hk 1 (j' := 31) (lv' := [(0, .ref 63), (1, yi i2)]) (st' := [yi 47, yi i2]) (hp' := hl29) rfl ?_
              refine Y_ic_ge (a := i2) (b := 47) (by omega) hk rfl (fun g13 => ?_) (fun g13 => ?_)
              ·
                refine E_run hk 2 (j' := 49) (lv' := [(0, .ref 63), (1, yi i2)]) (st' := [.ref 63, .ref 63]) (hp' := hl29) rfl ?_
                refine E_get (v := yi ((v 3) - 1)) hk rfl (fr29.at (by decide) e11) rfl ?_
                refine E_run hk 1 (j' := 51) (lv' := [(0, .ref 63), (1, yi i2)]) (st' := [yi 1, yi ((v 3) - 1), .ref 63]) (hp' := hl29) rfl ?_
                refine Y_iadd (a := ((v 3) - 1)) (b := 1) hk rfl ?_
                refine Y_put hk rfl (fr29.at (by decide) e11) (by decide) (Nat.le_of_ble_eq_true rfl) rfl (fs' := [yi (v 0), .ref 64, .ref 65, yi (((v 3) - 1) + 1), .ref 66, yi (v 5), .ref 67, yi (v 7), yi (v 8), yi (v 9), .ref 68, yi (v 11), .ref 69, yi (v 13), .ref 70, .ref 71, .ref 72, .ref 73, .ref 74, .ref 75, yi (v 20), yi (v 21)]) rfl (fun H14 e15 f16 => ?_)
                exact E_ret hk rfl rfl (by
          refine ⟨rfl, _, ?_, (f16.at (by decide) ec29_65), ?_, ?_, (yfr.tr (yfr.tr (yfr.tr (fr6.mono (by decide)) f12 (fun _ h => h) (by decide)) fr29 (fun _ h => h) (by decide)) f16 (fun _ h => h) (by decide))⟩
          · have e9 := e15
            have e8 : ((v 3) - 1) + 1 = if v 3 = 6 then 6 else v 3 + 1 := by split <;> omega
            rw [e8] at e9
            exact e9
          · intro q q1 q2
            first
              | (rw [if_pos (by omega)]; first | exact K2 q q1 (by omega) | (have K2q := K2 q q1 (by omega); rw [show v 3 - 1 = 5 by omega] at K2q; exact K2q))
              | (rw [if_neg (by omega)]; exact K2 q q1 (by omega))
          · intro q q1 q2
            first
              | (rw [if_pos (by omega)] at q2 ⊢; rw [K3 q q1 (by omega)]; exact J2 q q1 (by omega))
              | (rw [if_neg (by omega)] at q2 ⊢; exact K3 q q1 (by omega)))
              ·
                refine E_run hk 1 (j' := 33) (lv' := [(0, .ref 63), (1, yi i2)]) (st' := [.ref 63]) (hp' := hl29) rfl ?_
                refine E_get (v := .ref 65) hk rfl (fr29.at (by decide) e11) rfl ?_
                refine E_run hk 2 (j' := 36) (lv' := [(0, .ref 63), (1, yi i2)]) (st' := [.ref 63, yi 47, .ref 65]) (hp' := hl29) rfl ?_
                refine E_get (v := yi ((v 3) - 1)) hk rfl (fr29.at (by decide) e11) rfl ?_
                refine Y_imul (a := 47) (b := ((v 3) - 1)) hk rfl ?_
                refine E_run hk 1 (j' := 39) (lv' := [(0, .ref 63), (1, yi i2)]) (st' := [yi i2, yi (47 * ((v 3) - 1)), .ref 65]) (hp' := hl29) rfl ?_
                refine Y_iadd (a := (47 * ((v 3) - 1))) (b := i2) hk rfl ?_
                refine E_run hk 1 (j' := 41) (lv' := [(0, .ref 63), (1, yi i2)]) (st' := [.ref 63, yi ((47 * ((v 3) - 1)) + i2), .ref 65]) (hp' := hl29) rfl ?_
                refine E_get (v := .ref 64) hk rfl (fr29.at (by decide) e11) rfl ?_
                refine E_run hk 1 (j' := 43) (lv' := [(0, .ref 63), (1, yi i2)]) (st' := [yi i2, .ref 64, yi ((47 * ((v 3) - 1)) + i2), .ref 65]) (hp' := hl29) rfl ?_
                refine Y_iald (a := i2) (by omega) (by decide) hk rfl (fr29.at (by decide) (f12.at (by decide) (fr6.at (by decide) hS))) ?_
                refine Y_iast (a := ((47 * ((v 3) - 1)) + i2)) (x := (S i2)) (by omega) (by decide) (by decide) hk rfl ec29_65 (fun H17 e18 f19 => ?_)
                refine Y_iinc (a := i2) (z := 1) hk rfl rfl rfl (by decide) (lv' := [(1, yi (i2 + 1)), (0, .ref 63)]) rfl ?_
                refine E_run hk 1 (j' := 29) (lv' := [(1, yi (i2 + 1)), (0, .ref 63)]) (st' := []) (hp' := H17) rfl ?_
                exact Ev_le (xle_s rfl rfl (xle_s rfl rfl (xle_z _ rfl))) (ih29 _ (by omega) (i2 + 1) (up W ((47 * ((v 3) - 1)) + i2) (S i2)) H17 (by omega) (fun q q1 q2 => by
        by_cases e0 : q = i2
        · subst e0
          rw [up_self]
        · rw [up_ne _ _ (by omega)]
          exact K2 q q1 (by omega)) (fun q q1 q2 => by
        rw [up_ne _ _ (by omega)]
        exact K3 q q1 q2) e18 (yfr.tr fr29 f19 (fun _ h => h) (by decide)) rfl)
          exact Ev_le (xle_s rfl rfl (xle_s rfl rfl (xle_z _ rfl))) (loop29 _ 0 U H10 (by omega) (fun q q1 q2 => absurd q1 (by omega)) (fun q _ _ => rfl) (f12.at (by decide) ec6_65) (yfr.refl _ _) rfl)
        ·
          refine E_run hk 1 (j' := 10) (lv' := [(0, .ref 63), (1, yi i)]) (st' := [.ref 63]) (hp' := hl6) rfl ?_
          refine E_get (v := .ref 65) hk rfl (fr6.at (by decide) hM) rfl ?_
          refine E_run hk 2 (j' := 13) (lv' := [(0, .ref 63), (1, yi i)]) (st' := [.ref 63, yi i, .ref 65]) (hp' := hl6) rfl ?_
          refine E_get (v := .ref 65) hk rfl (fr6.at (by decide) hM) rfl ?_
          refine E_run hk 2 (j' := 16) (lv' := [(0, .ref 63), (1, yi i)]) (st' := [yi 47, yi i, .ref 65, yi i, .ref 65]) (hp' := hl6) rfl ?_
          refine Y_iadd (a := i) (b := 47) hk rfl ?_
          refine Y_iald (a := (i + 47)) (by omega) (by decide) hk rfl ec6_65 ?_
          refine Y_iast (a := i) (x := (U (i + 47))) (by omega) (by decide) (by decide) hk rfl ec6_65 (fun H20 e21 f22 => ?_)
          refine Y_iinc (a := i) (z := 1) hk rfl rfl rfl (by decide) (lv' := [(1, yi (i + 1)), (0, .ref 63)]) rfl ?_
          refine E_run hk 1 (j' := 6) (lv' := [(1, yi (i + 1)), (0, .ref 63)]) (st' := []) (hp' := H20) rfl ?_
          exact Ev_le (xle_s rfl rfl (xle_s rfl rfl (xle_z _ rfl))) (ih6 _ (by omega) (i + 1) (up U i (U (i + 47))) H20 (by omega) (fun q q1 q2 => by
        by_cases e0 : q = i
        · subst e0
          rw [up_self, J3 _ (by omega)]
        · rw [up_ne _ _ e0]
          exact J2 q q1 (by omega)) (fun q q1 => by
        rw [up_ne _ _ (by omega)]
        exact J3 q (by omega)) e21 (yfr.tr fr6 f22 (fun _ h => h) (by decide)) rfl)
    exact Ev_le (xle_s rfl rfl (xle_s rfl rfl (xle_z _ rfl))) (loop6 _ 0 T hp (by omega) (fun q q1 q2 => absurd q1 (by omega)) (fun q _ => rfl) hT (yfr.refl _ _) rfl)
