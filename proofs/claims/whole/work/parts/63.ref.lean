theorem c_X9_dropNote {d : Nat} {hp : xH} {v : Nat → Int} (hM : xat hp 63 = some (yMo v)) {S : Int → Int} (hS : xat hp 64 = some (yI 47 S)) {T : Int → Int} (hT : xat hp 65 = some (yI 282 T)) (hm : 0 ≤ v 3 ∧ v 3 ≤ 6) (hl : 0 ≤ S 0 ∧ S 0 ≤ 20 ∧ 0 ≤ S 1 ∧ S 1 ≤ 20) {t k : Int} (ht : -2147483648 ≤ t ∧ t ≤ 2147483647 ∧ -2147483648 ≤ k ∧ k ≤ 2147483647) (hd : 3 ≤ d) : Cv d 187 [.ref 63, yi t, yi k] hp (yE (fun z h => ∃ c m S2 U, xat h 63 = some (yMo (vup (vup v 0 c) 3 m)) ∧ xat h 64 = some (yI 47 S2) ∧ xat h 65 = some (yI 282 U) ∧ ((c = 0 ∧ m = (if v 3 = 6 then 6 else v 3 + 1) ∧ recd (v 3) S T U ∧ (0 ≤ t ∧ t ≤ 1 ∧ 0 ≤ k ∧ k < S (0 + t)) ∧ z = S (7 + 20 * t + k) ∧ S2 (0 + t) = S (0 + t) - 1 ∧ (∀ q, k ≤ q → q < S (0 + t) - 1 → S2 (7 + 20 * t + q) = S (7 + 20 * t + (q + 1))) ∧ (∀ q, ¬ (7 + 20 * t + k ≤ q ∧ q < 7 + 20 * t + S (0 + t) - 1) → q ≠ 0 + t → S2 q = S q)) ∨ (c = 1 ∧ m = v 3 ∧ S2 = S ∧ U = T ∧ (¬ (0 ≤ t ∧ t ≤ 1 ∧ 0 ≤ k ∧ k < S (0 + t))))) ∧ yfr [63, 64, 65] hp h)) := by
  have hk : xtab 187 = (xc_187, 5, 1, []) := rfl
  obtain ⟨d, rfl⟩ : ∃ e, d = e + 1 := ⟨d - 1, by omega⟩
  have w0 : 0 ≤ t → t ≤ 1 → 0 ≤ S (0 + t) ∧ S (0 + t) ≤ 20 := fun a b => by rcases (by omega : t = 0 ∨ t = 1) with e | e <;> rw [e] <;> first | exact ⟨hl.1, hl.2.1⟩ | exact hl.2.2
  show Ev (d + 1) 187 0 [(0, .ref 63), (1, yi t), (2, yi k)] [] hp _
  refine E_run hk 2 (j' := 2) (lv' := [(0, .ref 63), (1, yi t), (2, yi k)]) (st' := [yi 0, .ref 63]) (hp' := hp) rfl ?_
  refine Y_put hk rfl hM (by decide) (Nat.le_of_ble_eq_true rfl) rfl (fs' := [yi 0, .ref 64, .ref 65, yi (v 3), .ref 66, yi (v 5), .ref 67, yi (v 7), yi (v 8), yi (v 9), .ref 68, yi (v 11), .ref 69, yi (v 13), .ref 70, .ref 71, .ref 72, .ref 73, .ref 74, .ref 75, yi (v 20), yi (v 21)]) rfl (fun H1 e2 f3 => ?_)
  refine E_run hk 3 (j' := 6) (lv' := [(0, .ref 63), (1, yi t), (2, yi k)]) (st' := [yi k, yi t, .ref 63]) (hp' := H1) rfl ?_
  refine Y_callP hk rfl (as := [.ref 63, yi t, yi k]) (rest := []) (v := some (yi (b2 (0 ≤ t ∧ t ≤ 1 ∧ 0 ≤ k ∧ k < S (0 + t))))) rfl rfl (Nat.le_of_ble_eq_true rfl) (rcv0 e2) (Nat.le_of_ble_eq_true rfl) (c_X9_isNote (t := t) (k := k) (v := (vup v 0 0)) e2 (f3.at (by decide) hS) (by omega) (by omega) (hd := by omega)) ?_
  refine Y_b_ne hk rfl (fun g4 => ?_) (fun g4 => ?_)
  ·
    have w1 := w0 (by omega) (by omega)
    refine E_run hk 1 (j' := 13) (lv' := [(0, .ref 63), (1, yi t), (2, yi k)]) (st' := [.ref 63]) (hp' := H1) rfl ?_
    refine Y_call hk rfl (as := [.ref 63]) (rest := []) (v := none) rfl rfl (Nat.le_of_ble_eq_true rfl) (rcv0 e2) (Nat.le_of_ble_eq_true rfl) (c_X9_records (v := (vup v 0 0)) e2 (f3.at (by decide) hS) (f3.at (by decide) hT) (hm)) (fun H5 r6 => ?_)
    obtain ⟨T_H5, e_H5, t_H5, a_H5, b_H5, f_H5⟩ := r6
    refine E_run hk 3 (j' := 17) (lv' := [(0, .ref 63), (1, yi t), (2, yi k)]) (st' := [yi k, yi t, .ref 63]) (hp' := H5) rfl ?_
    refine Y_callP hk rfl (as := [.ref 63, yi t, yi k]) (rest := []) (v := some (yi (S (7 + 20 * t + k)))) rfl rfl (Nat.le_of_ble_eq_true rfl) (rcv0 e_H5) (Nat.le_of_ble_eq_true rfl) (c_X9_of (t := t) (i := k) (v := (vup (vup v 0 0) 3 (if (v 3) = 6 then 6 else (v 3) + 1))) e_H5 (f_H5.at (by decide) (f3.at (by decide) hS)) (by omega)) ?_
    refine E_run hk 2 (j' := 20) (lv' := [(3, yi (S (7 + 20 * t + k))), (0, .ref 63), (1, yi t), (2, yi k)]) (st' := [.ref 63]) (hp' := H5) rfl ?_
    refine E_get (v := .ref 64) hk rfl e_H5 rfl ?_
    refine E_run hk 2 (j' := 23) (lv' := [(3, yi (S (7 + 20 * t + k))), (0, .ref 63), (1, yi t), (2, yi k)]) (st' := [yi t, yi 0, .ref 64]) (hp' := H5) rfl ?_
    refine Y_iadd (a := 0) (b := t) hk rfl ?_
    refine E_run hk 1 (j' := 25) (lv' := [(3, yi (S (7 + 20 * t + k))), (0, .ref 63), (1, yi t), (2, yi k)]) (st' := [yi (0 + t), .ref 64, yi (0 + t), .ref 64]) (hp' := H5) rfl ?_
    refine Y_iald (a := (0 + t)) (by omega) (by decide) hk rfl (f_H5.at (by decide) (f3.at (by decide) hS)) ?_
    refine E_run hk 1 (j' := 27) (lv' := [(3, yi (S (7 + 20 * t + k))), (0, .ref 63), (1, yi t), (2, yi k)]) (st' := [yi 1, yi (S (0 + t)), yi (0 + t), .ref 64]) (hp' := H5) rfl ?_
    refine Y_isub (a := (S (0 + t))) (b := 1) hk rfl ?_
    refine Y_iast (a := (0 + t)) (x := ((S (0 + t)) - 1)) (by omega) (by decide) (by decide) hk rfl (f_H5.at (by decide) (f3.at (by decide) hS)) (fun H7 e8 f9 => ?_)
    refine E_run hk 2 (j' := 31) (lv' := [(4, yi k), (3, yi (S (7 + 20 * t + k))), (0, .ref 63), (1, yi t), (2, yi k)]) (st' := []) (hp' := H7) rfl ?_
    have loop31 : ∀ (N : Nat) (i : Int) (g : Int → Int) (hl31 : xH), (k ≤ i ∧ i ≤ S (0 + t) - 1) → (g (0 + t) = S (0 + t) - 1) → (∀ q, k ≤ q → q < i → g (7 + 20 * t + q) = S (7 + 20 * t + (q + 1))) → (∀ q, ¬ (7 + 20 * t + k ≤ q ∧ q < 7 + 20 * t + i) → q ≠ 0 + t → g q = S q) → (xat hl31 64 = some (yI 47 g)) → (yfr [64] H7 hl31) → (S (0 + t) - i).toNat = N → Ev (d + 1) 187 31 [(0, .ref 63), (1, yi t), (2, yi k), (3, yi (S (7 + 20 * t + k))), (4, yi i)] [] hl31 (yE (fun z h => ∃ c m S2 U, xat h 63 = some (yMo (vup (vup v 0 c) 3 m)) ∧ xat h 64 = some (yI 47 S2) ∧ xat h 65 = some (yI 282 U) ∧ ((c = 0 ∧ m = (if v 3 = 6 then 6 else v 3 + 1) ∧ recd (v 3) S T U ∧ (0 ≤ t ∧ t ≤ 1 ∧ 0 ≤ k ∧ k < S (0 + t)) ∧ z = S (7 + 20 * t + k) ∧ S2 (0 + t) = S (0 + t) - 1 ∧ (∀ q, k ≤ q → q < S (0 + t) - 1 → S2 (7 + 20 * t + q) = S (7 + 20 * t + (q + 1))) ∧ (∀ q, ¬ (7 + 20 * t + k ≤ q ∧ q < 7 + 20 * t + S (0 + t) - 1) → q ≠ 0 + t → S2 q = S q)) ∨ (c = 1 ∧ m = v 3 ∧ S2 = S ∧ U = T ∧ (¬ (0 ≤ t ∧ t ≤ 1 ∧ 0 ≤ k ∧ k < S (0 + t))))) ∧ yfr [63, 64, 65] hp h)) := by
      intro N
      induction N using Nat.strongRecOn with
      | ind N ih31 =>
        intro i g hl31 J1 J0 J2 J3 ec31_64 fr31 hm31
        refine E_run hk 1 (j' := 32) (lv' := [(0, .ref 63), (1, yi t), (2, yi k), (3, yi (S (7 + 20 * t + k))), (4, yi i)]) (st' := [yi i]) (hp' := hl31) rfl ?_
        refine E_run hk 2 (j' := 34) (lv' := [(0, .ref 63), (1, yi t), (2, yi k), (3, yi (S (7 + 20 * t + k))), (4, yi i)]) (st' := [yi t, .ref 63, yi i]) (hp' := hl31) rfl ?_
        refine Y_callP hk rfl (as := [.ref 63, yi t]) (rest := [yi i]) (v := some (yi (g (0 + t)))) rfl rfl (Nat.le_of_ble_eq_true rfl) (rcv0 (fr31.at (by decide) (f9.at (by decide) e_H5))) (Nat.le_of_ble_eq_true rfl) (c_X9_many (t := t) (v := (vup (vup v 0 0) 3 (if (v 3) = 6 then 6 else (v 3) + 1))) (fr31.at (by decide) (f9.at (by decide) e_H5)) ec31_64 (by omega)) ?_
        refine Y_ic_ge (a := i) (b := (g (0 + t))) (by omega) hk rfl (fun g10 => ?_) (fun g10 => ?_)
        ·
          refine E_run hk 1 (j' := 49) (lv' := [(0, .ref 63), (1, yi t), (2, yi k), (3, yi (S (7 + 20 * t + k))), (4, yi i)]) (st' := [yi (S (7 + 20 * t + k))]) (hp' := hl31) rfl ?_
          exact E_ret hk rfl rfl ⟨(S (7 + 20 * t + k)), rfl, 0, (if (v 3) = 6 then 6 else (v 3) + 1), g, T_H5, (fr31.at (by decide) (f9.at (by decide) e_H5)), ec31_64, (fr31.at (by decide) (f9.at (by decide) t_H5)), Or.inl ⟨rfl, rfl, ⟨a_H5, b_H5⟩, by omega, rfl, ⟨J0, fun q q1 q2 => J2 q q1 (by omega), fun q q1 q2 => J3 q (by omega) q2⟩⟩, (yfr.tr (yfr.tr (yfr.tr (f3.mono (by decide)) f_H5 (fun _ h => h) (by decide)) f9 (fun _ h => h) (by decide)) fr31 (fun _ h => h) (by decide))⟩
        ·
          refine E_run hk 7 (j' := 43) (lv' := [(0, .ref 63), (1, yi t), (2, yi k), (3, yi (S (7 + 20 * t + k))), (4, yi i)]) (st' := [yi 1, yi i, yi t, .ref 63, yi i, yi t, .ref 63]) (hp' := hl31) rfl ?_
          refine Y_iadd (a := i) (b := 1) hk rfl ?_
          refine Y_callP hk rfl (as := [.ref 63, yi t, yi (i + 1)]) (rest := [yi i, yi t, .ref 63]) (v := some (yi (g (7 + 20 * t + (i + 1))))) rfl rfl (Nat.le_of_ble_eq_true rfl) (rcv0 (fr31.at (by decide) (f9.at (by decide) e_H5))) (Nat.le_of_ble_eq_true rfl) (c_X9_of (t := t) (i := (i + 1)) (v := (vup (vup v 0 0) 3 (if (v 3) = 6 then 6 else (v 3) + 1))) (fr31.at (by decide) (f9.at (by decide) e_H5)) ec31_64 (by omega)) ?_
          refine Y_call hk rfl (as := [.ref 63, yi t, yi i, yi (g (7 + 20 * t + (i + 1)))]) (rest := []) (v := none) rfl rfl (Nat.le_of_ble_eq_true rfl) (rcv0 (fr31.at (by decide) (f9.at (by decide) e_H5))) (Nat.le_of_ble_eq_true rfl) (c_X9_lay (t := t) (i := i) (x := (g (7 + 20 * t + (i + 1)))) (v := (vup (vup v 0 0) 3 (if (v 3) = 6 then 6 else (v 3) + 1))) (fr31.at (by decide) (f9.at (by decide) e_H5)) ec31_64 (by omega)) (fun H11 r12 => ?_)
          obtain ⟨e_H11, f_H11⟩ := r12
          refine Y_iinc (a := i) (z := 1) hk rfl rfl rfl (by decide) (lv' := [(4, yi (i + 1)), (0, .ref 63), (1, yi t), (2, yi k), (3, yi (S (7 + 20 * t + k)))]) rfl ?_
          refine E_run hk 1 (j' := 31) (lv' := [(4, yi (i + 1)), (0, .ref 63), (1, yi t), (2, yi k), (3, yi (S (7 + 20 * t + k)))]) (st' := []) (hp' := H11) rfl ?_
          exact Ev_le (xle_s rfl rfl (xle_s rfl rfl (xle_s rfl rfl (xle_s rfl rfl (xle_s rfl rfl (xle_z _ rfl)))))) (ih31 _ (by omega) (i + 1) (up g (7 + 20 * t + i) (g (7 + 20 * t + (i + 1)))) H11 (by omega) ((up_ne _ _ (by omega)).trans J0) (fun q q1 q2 => by
        by_cases e : q = i
        · subst e
          rw [up_self, J3 _ (by omega) (by omega)]
        · rw [up_ne _ _ (by omega)]
          exact J2 q q1 (by omega)) (fun q q1 q2 => by
        rw [up_ne _ _ (by omega)]
        exact J3 q (by omega) q2) e_H11 (yfr.tr fr31 f_H11 (fun _ h => h) (by decide)) rfl)
    exact Ev_le (xle_s rfl rfl (xle_s rfl rfl (xle_s rfl rfl (xle_s rfl rfl (xle_s rfl rfl (xle_z _ rfl)))))) (loop31 _ k (up S (0 + t) ((S (0 + t)) - 1)) H7 (by omega) (up_self _ _ _) (fun q q1 q2 => absurd q1 (by omega)) (fun q _ q2 => up_ne _ _ q2) e8 (yfr.refl _ _) rfl)
  ·
    refine E_run hk 2 (j' := 10) (lv' := [(0, .ref 63), (1, yi t), (2, yi k)]) (st' := [yi 1, .ref 63]) (hp' := H1) rfl ?_
    refine Y_call hk rfl (as := [.ref 63, yi 1]) (rest := []) (v := some (yi 0)) rfl rfl (Nat.le_of_ble_eq_true rfl) (rcv0 e2) (Nat.le_of_ble_eq_true rfl) (c_X9_fails (c := 1) (v := (vup v 0 0)) e2) (fun H13 r14 => ?_)
    obtain ⟨e_H13, f_H13⟩ := r14
    exact E_ret hk rfl rfl ⟨0, rfl, 1, (v 3), S, T, e_H13, (f_H13.at (by decide) (f3.at (by decide) hS)), (f_H13.at (by decide) (f3.at (by decide) hT)), Or.inr (⟨rfl, rfl, rfl, rfl, by omega⟩), (yfr.tr (f3.mono (by decide)) f_H13 (fun _ h => h) (by decide))⟩
