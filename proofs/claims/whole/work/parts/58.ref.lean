theorem c_X9_addNote {d : Nat} {hp : xH} {v : Nat → Int} (hM : xat hp 63 = some (yMo v)) {S : Int → Int} (hS : xat hp 64 = some (yI 47 S)) {T : Int → Int} (hT : xat hp 65 = some (yI 282 T)) (hm : 0 ≤ v 3 ∧ v 3 ≤ 6) (hl : 0 ≤ S 0 ∧ S 0 ≤ 20 ∧ 0 ≤ S 1 ∧ S 1 ≤ 20) {t x : Int} (ht : -2147483648 ≤ t ∧ t ≤ 2147483647 ∧ -2147483648 ≤ x ∧ x ≤ 2147483647) (hd : 2 ≤ d) : Cv d 185 [.ref 63, yi t, yi x] hp (yE (fun z h => ∃ c m S2 U, xat h 63 = some (yMo (vup (vup v 0 c) 3 m)) ∧ xat h 64 = some (yI 47 S2) ∧ xat h 65 = some (yI 282 U) ∧ ((c = 0 ∧ m = (if v 3 = 6 then 6 else v 3 + 1) ∧ recd (v 3) S T U ∧ (0 ≤ t ∧ t ≤ 1 ∧ 0 ≤ x ∧ x ≤ 60 ∧ S (0 + t) < 20) ∧ z = S (0 + t) + 1 ∧ S2 (0 + t) = S (0 + t) + 1 ∧ S2 (7 + 20 * t + S (0 + t)) = x ∧ ∀ q, q ≠ 0 + t → q ≠ 7 + 20 * t + S (0 + t) → S2 q = S q) ∨ (c = 1 ∧ m = v 3 ∧ S2 = S ∧ U = T ∧ (¬ (0 ≤ t ∧ t ≤ 1))) ∨ (c = 2 ∧ m = v 3 ∧ S2 = S ∧ U = T ∧ (0 ≤ t ∧ t ≤ 1 ∧ ¬ (0 ≤ x ∧ x ≤ 60))) ∨ (c = 3 ∧ m = v 3 ∧ S2 = S ∧ U = T ∧ (0 ≤ t ∧ t ≤ 1 ∧ 0 ≤ x ∧ x ≤ 60 ∧ S (0 + t) = 20))) ∧ yfr [63, 64, 65] hp h)) := by
  have hk : xtab 185 = (xc_185, 3, 1, []) := rfl
  obtain ⟨d, rfl⟩ : ∃ e, d = e + 1 := ⟨d - 1, by omega⟩
  have w0 : 0 ≤ t → t ≤ 1 → 0 ≤ S (0 + t) ∧ S (0 + t) ≤ 20 := fun a b => by rcases (by omega : t = 0 ∨ t = 1) with e | e <;> rw [e] <;> first | exact ⟨hl.1, hl.2.1⟩ | exact hl.2.2
  show Ev (d + 1) 185 0 [(0, .ref 63), (1, yi t), (2, yi x)] [] hp _
  refine E_run hk 2 (j' := 2) (lv' := [(0, .ref 63), (1, yi t), (2, yi x)]) (st' := [yi 0, .ref 63]) (hp' := hp) rfl ?_
  refine Y_put hk rfl hM (by decide) (Nat.le_of_ble_eq_true rfl) rfl (fs' := [yi 0, .ref 64, .ref 65, yi (v 3), .ref 66, yi (v 5), .ref 67, yi (v 7), yi (v 8), yi (v 9), .ref 68, yi (v 11), .ref 69, yi (v 13), .ref 70, .ref 71, .ref 72, .ref 73, .ref 74, .ref 75, yi (v 20), yi (v 21)]) rfl (fun H1 e2 f3 => ?_)
  refine E_run hk 1 (j' := 4) (lv' := [(0, .ref 63), (1, yi t), (2, yi x)]) (st' := [yi t]) (hp' := H1) rfl ?_
  refine Y_callP hk rfl (as := [yi t]) (rest := []) (v := some (yi (b2 (0 ≤ t ∧ t ≤ 1)))) rfl rfl (Nat.le_of_ble_eq_true rfl) rfl (Nat.le_of_ble_eq_true rfl) (c_X9_isTune (t := t) (by omega) (hd := by omega)) ?_
  refine Y_b_ne hk rfl (fun g4 => ?_) (fun g4 => ?_)
  ·
    refine E_run hk 1 (j' := 11) (lv' := [(0, .ref 63), (1, yi t), (2, yi x)]) (st' := [yi x]) (hp' := H1) rfl ?_
    refine Y_callP hk rfl (as := [yi x]) (rest := []) (v := some (yi (b2 (0 ≤ x ∧ x ≤ 60)))) rfl rfl (Nat.le_of_ble_eq_true rfl) rfl (Nat.le_of_ble_eq_true rfl) (c_X9_isPitch (t := x) (by omega) (hd := by omega)) ?_
    refine Y_b_ne hk rfl (fun g5 => ?_) (fun g5 => ?_)
    ·
      refine E_run hk 2 (j' := 19) (lv' := [(0, .ref 63), (1, yi t), (2, yi x)]) (st' := [yi t, .ref 63]) (hp' := H1) rfl ?_
      have w1 := w0 (by omega) (by omega)
      refine Y_callP hk rfl (as := [.ref 63, yi t]) (rest := []) (v := some (yi (S (0 + t)))) rfl rfl (Nat.le_of_ble_eq_true rfl) (rcv0 e2) (Nat.le_of_ble_eq_true rfl) (c_X9_many (t := t) (v := (vup v 0 0)) e2 (f3.at (by decide) hS) (by omega)) ?_
      refine E_run hk 1 (j' := 21) (lv' := [(0, .ref 63), (1, yi t), (2, yi x)]) (st' := [yi 20, yi (S (0 + t))]) (hp' := H1) rfl ?_
      refine Y_ic_ne (a := (S (0 + t))) (b := 20) (by omega) hk rfl (fun g6 => ?_) (fun g6 => ?_)
      ·
        refine E_run hk 1 (j' := 27) (lv' := [(0, .ref 63), (1, yi t), (2, yi x)]) (st' := [.ref 63]) (hp' := H1) rfl ?_
        refine Y_call hk rfl (as := [.ref 63]) (rest := []) (v := none) rfl rfl (Nat.le_of_ble_eq_true rfl) (rcv0 e2) (Nat.le_of_ble_eq_true rfl) (c_X9_records (v := (vup v 0 0)) e2 (f3.at (by decide) hS) (f3.at (by decide) hT) (hm)) (fun H7 r8 => ?_)
        obtain ⟨T_H7, e_H7, t_H7, a_H7, b_H7, f_H7⟩ := r8
        refine E_run hk 4 (j' := 32) (lv' := [(0, .ref 63), (1, yi t), (2, yi x)]) (st' := [yi t, .ref 63, yi t, .ref 63]) (hp' := H7) rfl ?_
        refine Y_callP hk rfl (as := [.ref 63, yi t]) (rest := [yi t, .ref 63]) (v := some (yi (S (0 + t)))) rfl rfl (Nat.le_of_ble_eq_true rfl) (rcv0 e_H7) (Nat.le_of_ble_eq_true rfl) (c_X9_many (t := t) (v := (vup (vup v 0 0) 3 (if (v 3) = 6 then 6 else (v 3) + 1))) e_H7 (f_H7.at (by decide) (f3.at (by decide) hS)) (by omega)) ?_
        refine E_run hk 1 (j' := 34) (lv' := [(0, .ref 63), (1, yi t), (2, yi x)]) (st' := [yi x, yi (S (0 + t)), yi t, .ref 63]) (hp' := H7) rfl ?_
        refine Y_call hk rfl (as := [.ref 63, yi t, yi (S (0 + t)), yi x]) (rest := []) (v := none) rfl rfl (Nat.le_of_ble_eq_true rfl) (rcv0 e_H7) (Nat.le_of_ble_eq_true rfl) (c_X9_lay (t := t) (i := (S (0 + t))) (x := x) (v := (vup (vup v 0 0) 3 (if (v 3) = 6 then 6 else (v 3) + 1))) e_H7 (f_H7.at (by decide) (f3.at (by decide) hS)) (by omega)) (fun H9 r10 => ?_)
        obtain ⟨e_H9, f_H9⟩ := r10
        refine E_run hk 1 (j' := 36) (lv' := [(0, .ref 63), (1, yi t), (2, yi x)]) (st' := [.ref 63]) (hp' := H9) rfl ?_
        refine E_get (v := .ref 64) hk rfl (f_H9.at (by decide) e_H7) rfl ?_
        refine E_run hk 2 (j' := 39) (lv' := [(0, .ref 63), (1, yi t), (2, yi x)]) (st' := [yi t, yi 0, .ref 64]) (hp' := H9) rfl ?_
        refine Y_iadd (a := 0) (b := t) hk rfl ?_
        refine E_run hk 1 (j' := 41) (lv' := [(0, .ref 63), (1, yi t), (2, yi x)]) (st' := [yi (0 + t), .ref 64, yi (0 + t), .ref 64]) (hp' := H9) rfl ?_
        refine Y_iald (a := (0 + t)) (by omega) (by decide) hk rfl e_H9 ?_
        refine E_run hk 1 (j' := 43) (lv' := [(0, .ref 63), (1, yi t), (2, yi x)]) (st' := [yi 1, yi ((up S (7 + 20 * t + (S (0 + t))) x) (0 + t)), yi (0 + t), .ref 64]) (hp' := H9) rfl ?_
        refine Y_iadd (a := ((up S (7 + 20 * t + (S (0 + t))) x) (0 + t))) (b := 1) hk rfl ?_
        refine Y_iast (a := (0 + t)) (x := (((up S (7 + 20 * t + (S (0 + t))) x) (0 + t)) + 1)) (by omega) (by decide) (by decide) hk rfl e_H9 (fun H11 e12 f13 => ?_)
        refine E_run hk 2 (j' := 47) (lv' := [(0, .ref 63), (1, yi t), (2, yi x)]) (st' := [yi t, .ref 63]) (hp' := H11) rfl ?_
        refine Y_callP hk rfl (as := [.ref 63, yi t]) (rest := []) (v := some (yi ((up (up S (7 + 20 * t + (S (0 + t))) x) (0 + t) (((up S (7 + 20 * t + (S (0 + t))) x) (0 + t)) + 1)) (0 + t)))) rfl rfl (Nat.le_of_ble_eq_true rfl) (rcv0 (f13.at (by decide) (f_H9.at (by decide) e_H7))) (Nat.le_of_ble_eq_true rfl) (c_X9_many (t := t) (v := (vup (vup v 0 0) 3 (if (v 3) = 6 then 6 else (v 3) + 1))) (f13.at (by decide) (f_H9.at (by decide) e_H7)) e12 (by omega)) ?_
        exact E_ret hk rfl rfl ⟨((up (up S (7 + 20 * t + (S (0 + t))) x) (0 + t) (((up S (7 + 20 * t + (S (0 + t))) x) (0 + t)) + 1)) (0 + t)), rfl, 0, (if (v 3) = 6 then 6 else (v 3) + 1), (up (up S (7 + 20 * t + (S (0 + t))) x) (0 + t) (((up S (7 + 20 * t + (S (0 + t))) x) (0 + t)) + 1)), T_H7, (f13.at (by decide) (f_H9.at (by decide) e_H7)), e12, (f13.at (by decide) (f_H9.at (by decide) t_H7)), Or.inl ⟨rfl, rfl, ⟨a_H7, b_H7⟩, by omega, by rw [up_self, up_ne _ _ (by omega)], ⟨by rw [up_self, up_ne _ _ (by omega)], by rw [up_ne _ _ (by omega), up_self], fun q q1 q2 => by rw [up_ne _ _ q1, up_ne _ _ q2]⟩⟩, (yfr.tr (yfr.tr (yfr.tr (f3.mono (by decide)) f_H7 (fun _ h => h) (by decide)) f_H9 (fun _ h => h) (by decide)) f13 (fun _ h => h) (by decide))⟩
      ·
        refine E_run hk 2 (j' := 24) (lv' := [(0, .ref 63), (1, yi t), (2, yi x)]) (st' := [yi 3, .ref 63]) (hp' := H1) rfl ?_
        refine Y_call hk rfl (as := [.ref 63, yi 3]) (rest := []) (v := some (yi 0)) rfl rfl (Nat.le_of_ble_eq_true rfl) (rcv0 e2) (Nat.le_of_ble_eq_true rfl) (c_X9_fails (c := 3) (v := (vup v 0 0)) e2) (fun H14 r15 => ?_)
        obtain ⟨e_H14, f_H14⟩ := r15
        exact E_ret hk rfl rfl ⟨0, rfl, 3, (v 3), S, T, e_H14, (f_H14.at (by decide) (f3.at (by decide) hS)), (f_H14.at (by decide) (f3.at (by decide) hT)), Or.inr (Or.inr (Or.inr (⟨rfl, rfl, rfl, rfl, by omega⟩))), (yfr.tr (f3.mono (by decide)) f_H14 (fun _ h => h) (by decide))⟩
    ·
      refine E_run hk 2 (j' := 15) (lv' := [(0, .ref 63), (1, yi t), (2, yi x)]) (st' := [yi 2, .ref 63]) (hp' := H1) rfl ?_
      refine Y_call hk rfl (as := [.ref 63, yi 2]) (rest := []) (v := some (yi 0)) rfl rfl (Nat.le_of_ble_eq_true rfl) (rcv0 e2) (Nat.le_of_ble_eq_true rfl) (c_X9_fails (c := 2) (v := (vup v 0 0)) e2) (fun H16 r17 => ?_)
      obtain ⟨e_H16, f_H16⟩ := r17
      exact E_ret hk rfl rfl ⟨0, rfl, 2, (v 3), S, T, e_H16, (f_H16.at (by decide) (f3.at (by decide) hS)), (f_H16.at (by decide) (f3.at (by decide) hT)), Or.inr (Or.inr (Or.inl ⟨rfl, rfl, rfl, rfl, by omega⟩)), (yfr.tr (f3.mono (by decide)) f_H16 (fun _ h => h) (by decide))⟩
  ·
    refine E_run hk 2 (j' := 8) (lv' := [(0, .ref 63), (1, yi t), (2, yi x)]) (st' := [yi 1, .ref 63]) (hp' := H1) rfl ?_
    refine Y_call hk rfl (as := [.ref 63, yi 1]) (rest := []) (v := some (yi 0)) rfl rfl (Nat.le_of_ble_eq_true rfl) (rcv0 e2) (Nat.le_of_ble_eq_true rfl) (c_X9_fails (c := 1) (v := (vup v 0 0)) e2) (fun H18 r19 => ?_)
    obtain ⟨e_H18, f_H18⟩ := r19
    exact E_ret hk rfl rfl ⟨0, rfl, 1, (v 3), S, T, e_H18, (f_H18.at (by decide) (f3.at (by decide) hS)), (f_H18.at (by decide) (f3.at (by decide) hT)), Or.inr (Or.inl ⟨rfl, rfl, rfl, rfl, by omega⟩), (yfr.tr (f3.mono (by decide)) f_H18 (fun _ h => h) (by decide))⟩
theorem c_X9_setNote {d : Nat} {hp : xH} {v : Nat → Int} (hM : xat hp 63 = some (yMo v)) {S : Int → Int} (hS : xat hp 64 = some (yI 47 S)) {T : Int → Int} (hT : xat hp 65 = some (yI 282 T)) (hm : 0 ≤ v 3 ∧ v 3 ≤ 6) (hl : 0 ≤ S 0 ∧ S 0 ≤ 20 ∧ 0 ≤ S 1 ∧ S 1 ≤ 20) {t k x : Int} (ht : -2147483648 ≤ t ∧ t ≤ 2147483647 ∧ -2147483648 ≤ k ∧ k ≤ 2147483647 ∧ -2147483648 ≤ x ∧ x ≤ 2147483647) (hd : 3 ≤ d) : Cv d 186 [.ref 63, yi t, yi k, yi x] hp (yE (fun z h => ∃ c m S2 U, xat h 63 = some (yMo (vup (vup v 0 c) 3 m)) ∧ xat h 64 = some (yI 47 S2) ∧ xat h 65 = some (yI 282 U) ∧ ((c = 0 ∧ m = (if v 3 = 6 then 6 else v 3 + 1) ∧ recd (v 3) S T U ∧ (0 ≤ t ∧ t ≤ 1 ∧ 0 ≤ k ∧ k < S (0 + t) ∧ 0 ≤ x ∧ x ≤ 60) ∧ z = S (7 + 20 * t + k) ∧ S2 = up S (7 + 20 * t + k) x) ∨ (c = 1 ∧ m = v 3 ∧ S2 = S ∧ U = T ∧ (¬ (0 ≤ t ∧ t ≤ 1 ∧ 0 ≤ k ∧ k < S (0 + t)))) ∨ (c = 2 ∧ m = v 3 ∧ S2 = S ∧ U = T ∧ (0 ≤ t ∧ t ≤ 1 ∧ 0 ≤ k ∧ k < S (0 + t) ∧ ¬ (0 ≤ x ∧ x ≤ 60)))) ∧ yfr [63, 64, 65] hp h)) := by
  have hk : xtab 186 = (xc_186, 5, 1, []) := rfl
  obtain ⟨d, rfl⟩ : ∃ e, d = e + 1 := ⟨d - 1, by omega⟩
  have w0 : 0 ≤ t → t ≤ 1 → 0 ≤ S (0 + t) ∧ S (0 + t) ≤ 20 := fun a b => by rcases (by omega : t = 0 ∨ t = 1) with e | e <;> rw [e] <;> first | exact ⟨hl.1, hl.2.1⟩ | exact hl.2.2
  show Ev (d + 1) 186 0 [(0, .ref 63), (1, yi t), (2, yi k), (3, yi x)] [] hp _
  refine E_run hk 2 (j' := 2) (lv' := [(0, .ref 63), (1, yi t), (2, yi k), (3, yi x)]) (st' := [yi 0, .ref 63]) (hp' := hp) rfl ?_
  refine Y_put hk rfl hM (by decide) (Nat.le_of_ble_eq_true rfl) rfl (fs' := [yi 0, .ref 64, .ref 65, yi (v 3), .ref 66, yi (v 5), .ref 67, yi (v 7), yi (v 8), yi (v 9), .ref 68, yi (v 11), .ref 69, yi (v 13), .ref 70, .ref 71, .ref 72, .ref 73, .ref 74, .ref 75, yi (v 20), yi (v 21)]) rfl (fun H1 e2 f3 => ?_)
  refine E_run hk 3 (j' := 6) (lv' := [(0, .ref 63), (1, yi t), (2, yi k), (3, yi x)]) (st' := [yi k, yi t, .ref 63]) (hp' := H1) rfl ?_
  refine Y_callP hk rfl (as := [.ref 63, yi t, yi k]) (rest := []) (v := some (yi (b2 (0 ≤ t ∧ t ≤ 1 ∧ 0 ≤ k ∧ k < S (0 + t))))) rfl rfl (Nat.le_of_ble_eq_true rfl) (rcv0 e2) (Nat.le_of_ble_eq_true rfl) (c_X9_isNote (t := t) (k := k) (v := (vup v 0 0)) e2 (f3.at (by decide) hS) (by omega) (by omega) (hd := by omega)) ?_
  refine Y_b_ne hk rfl (fun g4 => ?_) (fun g4 => ?_)
  ·
    refine E_run hk 1 (j' := 13) (lv' := [(0, .ref 63), (1, yi t), (2, yi k), (3, yi x)]) (st' := [yi x]) (hp' := H1) rfl ?_
    refine Y_callP hk rfl (as := [yi x]) (rest := []) (v := some (yi (b2 (0 ≤ x ∧ x ≤ 60)))) rfl rfl (Nat.le_of_ble_eq_true rfl) rfl (Nat.le_of_ble_eq_true rfl) (c_X9_isPitch (t := x) (by omega) (hd := by omega)) ?_
    refine Y_b_ne hk rfl (fun g5 => ?_) (fun g5 => ?_)
    ·
      refine E_run hk 1 (j' := 20) (lv' := [(0, .ref 63), (1, yi t), (2, yi k), (3, yi x)]) (st' := [.ref 63]) (hp' := H1) rfl ?_
      have w1 := w0 (by omega) (by omega)
      refine Y_call hk rfl (as := [.ref 63]) (rest := []) (v := none) rfl rfl (Nat.le_of_ble_eq_true rfl) (rcv0 e2) (Nat.le_of_ble_eq_true rfl) (c_X9_records (v := (vup v 0 0)) e2 (f3.at (by decide) hS) (f3.at (by decide) hT) (hm)) (fun H6 r7 => ?_)
      obtain ⟨T_H6, e_H6, t_H6, a_H6, b_H6, f_H6⟩ := r7
      refine E_run hk 3 (j' := 24) (lv' := [(0, .ref 63), (1, yi t), (2, yi k), (3, yi x)]) (st' := [yi k, yi t, .ref 63]) (hp' := H6) rfl ?_
      refine Y_callP hk rfl (as := [.ref 63, yi t, yi k]) (rest := []) (v := some (yi (S (7 + 20 * t + k)))) rfl rfl (Nat.le_of_ble_eq_true rfl) (rcv0 e_H6) (Nat.le_of_ble_eq_true rfl) (c_X9_of (t := t) (i := k) (v := (vup (vup v 0 0) 3 (if (v 3) = 6 then 6 else (v 3) + 1))) e_H6 (f_H6.at (by decide) (f3.at (by decide) hS)) (by omega)) ?_
      refine E_run hk 5 (j' := 30) (lv' := [(4, yi (S (7 + 20 * t + k))), (0, .ref 63), (1, yi t), (2, yi k), (3, yi x)]) (st' := [yi x, yi k, yi t, .ref 63]) (hp' := H6) rfl ?_
      refine Y_call hk rfl (as := [.ref 63, yi t, yi k, yi x]) (rest := []) (v := none) rfl rfl (Nat.le_of_ble_eq_true rfl) (rcv0 e_H6) (Nat.le_of_ble_eq_true rfl) (c_X9_lay (t := t) (i := k) (x := x) (v := (vup (vup v 0 0) 3 (if (v 3) = 6 then 6 else (v 3) + 1))) e_H6 (f_H6.at (by decide) (f3.at (by decide) hS)) (by omega)) (fun H8 r9 => ?_)
      obtain ⟨e_H8, f_H8⟩ := r9
      refine E_run hk 1 (j' := 32) (lv' := [(4, yi (S (7 + 20 * t + k))), (0, .ref 63), (1, yi t), (2, yi k), (3, yi x)]) (st' := [yi (S (7 + 20 * t + k))]) (hp' := H8) rfl ?_
      exact E_ret hk rfl rfl ⟨(S (7 + 20 * t + k)), rfl, 0, (if (v 3) = 6 then 6 else (v 3) + 1), (up S (7 + 20 * t + k) x), T_H6, (f_H8.at (by decide) e_H6), e_H8, (f_H8.at (by decide) t_H6), Or.inl ⟨rfl, rfl, ⟨a_H6, b_H6⟩, by omega, rfl, rfl⟩, (yfr.tr (yfr.tr (f3.mono (by decide)) f_H6 (fun _ h => h) (by decide)) f_H8 (fun _ h => h) (by decide))⟩
    ·
      refine E_run hk 2 (j' := 17) (lv' := [(0, .ref 63), (1, yi t), (2, yi k), (3, yi x)]) (st' := [yi 2, .ref 63]) (hp' := H1) rfl ?_
      refine Y_call hk rfl (as := [.ref 63, yi 2]) (rest := []) (v := some (yi 0)) rfl rfl (Nat.le_of_ble_eq_true rfl) (rcv0 e2) (Nat.le_of_ble_eq_true rfl) (c_X9_fails (c := 2) (v := (vup v 0 0)) e2) (fun H10 r11 => ?_)
      obtain ⟨e_H10, f_H10⟩ := r11
      exact E_ret hk rfl rfl ⟨0, rfl, 2, (v 3), S, T, e_H10, (f_H10.at (by decide) (f3.at (by decide) hS)), (f_H10.at (by decide) (f3.at (by decide) hT)), Or.inr (Or.inr (⟨rfl, rfl, rfl, rfl, by omega⟩)), (yfr.tr (f3.mono (by decide)) f_H10 (fun _ h => h) (by decide))⟩
  ·
    refine E_run hk 2 (j' := 10) (lv' := [(0, .ref 63), (1, yi t), (2, yi k), (3, yi x)]) (st' := [yi 1, .ref 63]) (hp' := H1) rfl ?_
    refine Y_call hk rfl (as := [.ref 63, yi 1]) (rest := []) (v := some (yi 0)) rfl rfl (Nat.le_of_ble_eq_true rfl) (rcv0 e2) (Nat.le_of_ble_eq_true rfl) (c_X9_fails (c := 1) (v := (vup v 0 0)) e2) (fun H12 r13 => ?_)
    obtain ⟨e_H12, f_H12⟩ := r13
    exact E_ret hk rfl rfl ⟨0, rfl, 1, (v 3), S, T, e_H12, (f_H12.at (by decide) (f3.at (by decide) hS)), (f_H12.at (by decide) (f3.at (by decide) hT)), Or.inr (Or.inl ⟨rfl, rfl, rfl, rfl, by omega⟩), (yfr.tr (f3.mono (by decide)) f_H12 (fun _ h => h) (by decide))⟩
theorem c_X9_slow {d : Nat} {hp : xH} {v : Nat → Int} (hM : xat hp 63 = some (yMo v)) {S : Int → Int} (hS : xat hp 64 = some (yI 47 S)) {T : Int → Int} (hT : xat hp 65 = some (yI 282 T)) (hm : 0 ≤ v 3 ∧ v 3 ≤ 6) (hl : 0 ≤ S 0 ∧ S 0 ≤ 20 ∧ 0 ≤ S 1 ∧ S 1 ≤ 20) {t : Int} (ht : -2147483648 ≤ t ∧ t ≤ 2147483647) (hd : 2 ≤ d) : Cv d 189 [.ref 63, yi t] hp (yE (fun z h => ∃ c m S2 U, xat h 63 = some (yMo (vup (vup v 0 c) 3 m)) ∧ xat h 64 = some (yI 47 S2) ∧ xat h 65 = some (yI 282 U) ∧ ((c = 0 ∧ m = (if v 3 = 6 then 6 else v 3 + 1) ∧ recd (v 3) S T U ∧ (0 ≤ t ∧ t ≤ 1 ∧ 2 * S (0 + t) ≤ 20) ∧ z = 2 * S (0 + t) ∧ (∀ q, 0 ≤ q → q < 2 * S (0 + t) → S2 (7 + 20 * t + q) = S (7 + 20 * t + q / 2)) ∧ S2 (0 + t) = 2 * S (0 + t) ∧ (∀ q, q ≠ 0 + t → ¬ (7 + 20 * t ≤ q ∧ q < 7 + 20 * t + 2 * S (0 + t)) → S2 q = S q)) ∨ (c = 1 ∧ m = v 3 ∧ S2 = S ∧ U = T ∧ (¬ (0 ≤ t ∧ t ≤ 1))) ∨ (c = 2 ∧ m = v 3 ∧ S2 = S ∧ U = T ∧ (0 ≤ t ∧ t ≤ 1 ∧ ¬ (2 * S (0 + t) ≤ 20)))) ∧ yfr [63, 64, 65] hp h)) := by
  have hk : xtab 189 = (xc_189, 2, 1, []) := rfl
  obtain ⟨d, rfl⟩ : ∃ e, d = e + 1 := ⟨d - 1, by omega⟩
  have w0 : 0 ≤ t → t ≤ 1 → 0 ≤ S (0 + t) ∧ S (0 + t) ≤ 20 := fun a b => by rcases (by omega : t = 0 ∨ t = 1) with e | e <;> rw [e] <;> first | exact ⟨hl.1, hl.2.1⟩ | exact hl.2.2
  show Ev (d + 1) 189 0 [(0, .ref 63), (1, yi t)] [] hp _
  refine E_run hk 2 (j' := 2) (lv' := [(0, .ref 63), (1, yi t)]) (st' := [yi 0, .ref 63]) (hp' := hp) rfl ?_
  refine Y_put hk rfl hM (by decide) (Nat.le_of_ble_eq_true rfl) rfl (fs' := [yi 0, .ref 64, .ref 65, yi (v 3), .ref 66, yi (v 5), .ref 67, yi (v 7), yi (v 8), yi (v 9), .ref 68, yi (v 11), .ref 69, yi (v 13), .ref 70, .ref 71, .ref 72, .ref 73, .ref 74, .ref 75, yi (v 20), yi (v 21)]) rfl (fun H1 e2 f3 => ?_)
  refine E_run hk 1 (j' := 4) (lv' := [(0, .ref 63), (1, yi t)]) (st' := [yi t]) (hp' := H1) rfl ?_
  refine Y_callP hk rfl (as := [yi t]) (rest := []) (v := some (yi (b2 (0 ≤ t ∧ t ≤ 1)))) rfl rfl (Nat.le_of_ble_eq_true rfl) rfl (Nat.le_of_ble_eq_true rfl) (c_X9_isTune (t := t) (by omega) (hd := by omega)) ?_
  refine Y_b_ne hk rfl (fun g4 => ?_) (fun g4 => ?_)
  ·
    refine E_run hk 2 (j' := 12) (lv' := [(0, .ref 63), (1, yi t)]) (st' := [yi t, .ref 63]) (hp' := H1) rfl ?_
    have w1 := w0 (by omega) (by omega)
    refine Y_callP hk rfl (as := [.ref 63, yi t]) (rest := []) (v := some (yi (b2 (2 * S (0 + t) ≤ 20)))) rfl rfl (Nat.le_of_ble_eq_true rfl) (rcv0 e2) (Nat.le_of_ble_eq_true rfl) (c_X9_canSlow (t := t) (v := (vup v 0 0)) e2 (f3.at (by decide) hS) (by omega) (by omega) (hd := by omega)) ?_
    refine Y_b_ne hk rfl (fun g5 => ?_) (fun g5 => ?_)
    ·
      refine E_run hk 1 (j' := 19) (lv' := [(0, .ref 63), (1, yi t)]) (st' := [.ref 63]) (hp' := H1) rfl ?_
      refine Y_call hk rfl (as := [.ref 63]) (rest := []) (v := none) rfl rfl (Nat.le_of_ble_eq_true rfl) (rcv0 e2) (Nat.le_of_ble_eq_true rfl) (c_X9_records (v := (vup v 0 0)) e2 (f3.at (by decide) hS) (f3.at (by decide) hT) (hm)) (fun H6 r7 => ?_)
      obtain ⟨T_H6, e_H6, t_H6, a_H6, b_H6, f_H6⟩ := r7
      refine E_run hk 2 (j' := 22) (lv' := [(0, .ref 63), (1, yi t)]) (st' := [yi t, .ref 63]) (hp' := H6) rfl ?_
      refine Y_call hk rfl (as := [.ref 63, yi t]) (rest := []) (v := none) rfl rfl (Nat.le_of_ble_eq_true rfl) (rcv0 e_H6) (Nat.le_of_ble_eq_true rfl) (c_X9_slows (t := t) (v := (vup (vup v 0 0) 3 (if (v 3) = 6 then 6 else (v 3) + 1))) e_H6 (f_H6.at (by decide) (f3.at (by decide) hS)) (by omega) (by omega) (by omega) (hd := by omega)) (fun H8 r9 => ?_)
      obtain ⟨S_H8, e_H8, a_H8, b_H8, c_H8, f_H8⟩ := r9
      refine E_run hk 2 (j' := 25) (lv' := [(0, .ref 63), (1, yi t)]) (st' := [yi t, .ref 63]) (hp' := H8) rfl ?_
      refine Y_callP hk rfl (as := [.ref 63, yi t]) (rest := []) (v := some (yi (S_H8 (0 + t)))) rfl rfl (Nat.le_of_ble_eq_true rfl) (rcv0 (f_H8.at (by decide) e_H6)) (Nat.le_of_ble_eq_true rfl) (c_X9_many (t := t) (v := (vup (vup v 0 0) 3 (if (v 3) = 6 then 6 else (v 3) + 1))) (f_H8.at (by decide) e_H6) e_H8 (by omega)) ?_
      exact E_ret hk rfl rfl ⟨(S_H8 (0 + t)), rfl, 0, (if (v 3) = 6 then 6 else (v 3) + 1), S_H8, T_H6, (f_H8.at (by decide) e_H6), e_H8, (f_H8.at (by decide) t_H6), Or.inl ⟨rfl, rfl, ⟨a_H6, b_H6⟩, by omega, b_H8, ⟨a_H8, b_H8, c_H8⟩⟩, (yfr.tr (yfr.tr (f3.mono (by decide)) f_H6 (fun _ h => h) (by decide)) f_H8 (fun _ h => h) (by decide))⟩
    ·
      refine E_run hk 2 (j' := 16) (lv' := [(0, .ref 63), (1, yi t)]) (st' := [yi 2, .ref 63]) (hp' := H1) rfl ?_
      refine Y_call hk rfl (as := [.ref 63, yi 2]) (rest := []) (v := some (yi 0)) rfl rfl (Nat.le_of_ble_eq_true rfl) (rcv0 e2) (Nat.le_of_ble_eq_true rfl) (c_X9_fails (c := 2) (v := (vup v 0 0)) e2) (fun H10 r11 => ?_)
      obtain ⟨e_H10, f_H10⟩ := r11
      exact E_ret hk rfl rfl ⟨0, rfl, 2, (v 3), S, T, e_H10, (f_H10.at (by decide) (f3.at (by decide) hS)), (f_H10.at (by decide) (f3.at (by decide) hT)), Or.inr (Or.inr (⟨rfl, rfl, rfl, rfl, by omega⟩)), (yfr.tr (f3.mono (by decide)) f_H10 (fun _ h => h) (by decide))⟩
  ·
    refine E_run hk 2 (j' := 8) (lv' := [(0, .ref 63), (1, yi t)]) (st' := [yi 1, .ref 63]) (hp' := H1) rfl ?_
    refine Y_call hk rfl (as := [.ref 63, yi 1]) (rest := []) (v := some (yi 0)) rfl rfl (Nat.le_of_ble_eq_true rfl) (rcv0 e2) (Nat.le_of_ble_eq_true rfl) (c_X9_fails (c := 1) (v := (vup v 0 0)) e2) (fun H12 r13 => ?_)
    obtain ⟨e_H12, f_H12⟩ := r13
    exact E_ret hk rfl rfl ⟨0, rfl, 1, (v 3), S, T, e_H12, (f_H12.at (by decide) (f3.at (by decide) hS)), (f_H12.at (by decide) (f3.at (by decide) hT)), Or.inr (Or.inl ⟨rfl, rfl, rfl, rfl, by omega⟩), (yfr.tr (f3.mono (by decide)) f_H12 (fun _ h => h) (by decide))⟩
theorem c_X9_flip {d : Nat} {hp : xH} {v : Nat → Int} (hM : xat hp 63 = some (yMo v)) {S : Int → Int} (hS : xat hp 64 = some (yI 47 S)) {T : Int → Int} (hT : xat hp 65 = some (yI 282 T)) (hm : 0 ≤ v 3 ∧ v 3 ≤ 6) (hl : 0 ≤ S 0 ∧ S 0 ≤ 20 ∧ 0 ≤ S 1 ∧ S 1 ≤ 20) {t : Int} (ht : -2147483648 ≤ t ∧ t ≤ 2147483647) (hd : 2 ≤ d) : Cv d 190 [.ref 63, yi t] hp (yE (fun z h => ∃ c m S2 U, xat h 63 = some (yMo (vup (vup v 0 c) 3 m)) ∧ xat h 64 = some (yI 47 S2) ∧ xat h 65 = some (yI 282 U) ∧ ((c = 0 ∧ m = (if v 3 = 6 then 6 else v 3 + 1) ∧ recd (v 3) S T U ∧ (0 ≤ t ∧ t ≤ 1) ∧ z = S (0 + t) ∧ (∀ q, 0 ≤ q → q < S (0 + t) → S2 (7 + 20 * t + q) = S (7 + 20 * t + (S (0 + t) - 1 - q))) ∧ (∀ q, ¬ (7 + 20 * t ≤ q ∧ q < 7 + 20 * t + S (0 + t)) → S2 q = S q)) ∨ (c = 1 ∧ m = v 3 ∧ S2 = S ∧ U = T ∧ (¬ (0 ≤ t ∧ t ≤ 1)))) ∧ yfr [63, 64, 65] hp h)) := by
  have hk : xtab 190 = (xc_190, 2, 1, []) := rfl
  obtain ⟨d, rfl⟩ : ∃ e, d = e + 1 := ⟨d - 1, by omega⟩
  have w0 : 0 ≤ t → t ≤ 1 → 0 ≤ S (0 + t) ∧ S (0 + t) ≤ 20 := fun a b => by rcases (by omega : t = 0 ∨ t = 1) with e | e <;> rw [e] <;> first | exact ⟨hl.1, hl.2.1⟩ | exact hl.2.2
  show Ev (d + 1) 190 0 [(0, .ref 63), (1, yi t)] [] hp _
  refine E_run hk 2 (j' := 2) (lv' := [(0, .ref 63), (1, yi t)]) (st' := [yi 0, .ref 63]) (hp' := hp) rfl ?_
  refine Y_put hk rfl hM (by decide) (Nat.le_of_ble_eq_true rfl) rfl (fs' := [yi 0, .ref 64, .ref 65, yi (v 3), .ref 66, yi (v 5), .ref 67, yi (v 7), yi (v 8), yi (v 9), .ref 68, yi (v 11), .ref 69, yi (v 13), .ref 70, .ref 71, .ref 72, .ref 73, .ref 74, .ref 75, yi (v 20), yi (v 21)]) rfl (fun H1 e2 f3 => ?_)
  refine E_run hk 1 (j' := 4) (lv' := [(0, .ref 63), (1, yi t)]) (st' := [yi t]) (hp' := H1) rfl ?_
  refine Y_callP hk rfl (as := [yi t]) (rest := []) (v := some (yi (b2 (0 ≤ t ∧ t ≤ 1)))) rfl rfl (Nat.le_of_ble_eq_true rfl) rfl (Nat.le_of_ble_eq_true rfl) (c_X9_isTune (t := t) (by omega) (hd := by omega)) ?_
  refine Y_b_ne hk rfl (fun g4 => ?_) (fun g4 => ?_)
  ·
    refine E_run hk 1 (j' := 11) (lv' := [(0, .ref 63), (1, yi t)]) (st' := [.ref 63]) (hp' := H1) rfl ?_
    have w1 := w0 (by omega) (by omega)
    refine Y_call hk rfl (as := [.ref 63]) (rest := []) (v := none) rfl rfl (Nat.le_of_ble_eq_true rfl) (rcv0 e2) (Nat.le_of_ble_eq_true rfl) (c_X9_records (v := (vup v 0 0)) e2 (f3.at (by decide) hS) (f3.at (by decide) hT) (hm)) (fun H5 r6 => ?_)
    obtain ⟨T_H5, e_H5, t_H5, a_H5, b_H5, f_H5⟩ := r6
    refine E_run hk 2 (j' := 14) (lv' := [(0, .ref 63), (1, yi t)]) (st' := [yi t, .ref 63]) (hp' := H5) rfl ?_
    refine Y_call hk rfl (as := [.ref 63, yi t]) (rest := []) (v := none) rfl rfl (Nat.le_of_ble_eq_true rfl) (rcv0 e_H5) (Nat.le_of_ble_eq_true rfl) (c_X9_flips (t := t) (v := (vup (vup v 0 0) 3 (if (v 3) = 6 then 6 else (v 3) + 1))) e_H5 (f_H5.at (by decide) (f3.at (by decide) hS)) (by omega) (by omega) (hd := by omega)) (fun H7 r8 => ?_)
    obtain ⟨S_H7, e_H7, a_H7, b_H7, f_H7⟩ := r8
    refine E_run hk 2 (j' := 17) (lv' := [(0, .ref 63), (1, yi t)]) (st' := [yi t, .ref 63]) (hp' := H7) rfl ?_
    refine Y_callP hk rfl (as := [.ref 63, yi t]) (rest := []) (v := some (yi (S_H7 (0 + t)))) rfl rfl (Nat.le_of_ble_eq_true rfl) (rcv0 (f_H7.at (by decide) e_H5)) (Nat.le_of_ble_eq_true rfl) (c_X9_many (t := t) (v := (vup (vup v 0 0) 3 (if (v 3) = 6 then 6 else (v 3) + 1))) (f_H7.at (by decide) e_H5) e_H7 (by omega)) ?_
    exact E_ret hk rfl rfl ⟨(S_H7 (0 + t)), rfl, 0, (if (v 3) = 6 then 6 else (v 3) + 1), S_H7, T_H5, (f_H7.at (by decide) e_H5), e_H7, (f_H7.at (by decide) t_H5), Or.inl ⟨rfl, rfl, ⟨a_H5, b_H5⟩, by omega, b_H7 _ (by omega), ⟨a_H7, b_H7⟩⟩, (yfr.tr (yfr.tr (f3.mono (by decide)) f_H5 (fun _ h => h) (by decide)) f_H7 (fun _ h => h) (by decide))⟩
  ·
    refine E_run hk 2 (j' := 8) (lv' := [(0, .ref 63), (1, yi t)]) (st' := [yi 1, .ref 63]) (hp' := H1) rfl ?_
    refine Y_call hk rfl (as := [.ref 63, yi 1]) (rest := []) (v := some (yi 0)) rfl rfl (Nat.le_of_ble_eq_true rfl) (rcv0 e2) (Nat.le_of_ble_eq_true rfl) (c_X9_fails (c := 1) (v := (vup v 0 0)) e2) (fun H9 r10 => ?_)
    obtain ⟨e_H9, f_H9⟩ := r10
    exact E_ret hk rfl rfl ⟨0, rfl, 1, (v 3), S, T, e_H9, (f_H9.at (by decide) (f3.at (by decide) hS)), (f_H9.at (by decide) (f3.at (by decide) hT)), Or.inr (⟨rfl, rfl, rfl, rfl, by omega⟩), (yfr.tr (f3.mono (by decide)) f_H9 (fun _ h => h) (by decide))⟩
theorem c_X9_exchange {d : Nat} {hp : xH} {v : Nat → Int} (hM : xat hp 63 = some (yMo v)) {S : Int → Int} (hS : xat hp 64 = some (yI 47 S)) {T : Int → Int} (hT : xat hp 65 = some (yI 282 T)) (hm : 0 ≤ v 3 ∧ v 3 ≤ 6) (hl : 0 ≤ S 0 ∧ S 0 ≤ 20 ∧ 0 ≤ S 1 ∧ S 1 ≤ 20) (hd : 2 ≤ d) : Cv d 191 [.ref 63] hp (yE (fun z h => ∃ c m S2 U, xat h 63 = some (yMo (vup (vup v 0 c) 3 m)) ∧ xat h 64 = some (yI 47 S2) ∧ xat h 65 = some (yI 282 U) ∧ ((c = 0 ∧ m = (if v 3 = 6 then 6 else v 3 + 1) ∧ recd (v 3) S T U ∧ (True) ∧ z = S 1 ∧ (∀ q, 0 ≤ q → q < 20 → S2 (7 + q) = S (27 + q) ∧ S2 (27 + q) = S (7 + q)) ∧ S2 0 = S 1 ∧ S2 1 = S 0 ∧ (∀ q, 2 ≤ q → q < 7 → S2 q = S q))) ∧ yfr [63, 64, 65] hp h)) := by
  have hk : xtab 191 = (xc_191, 1, 1, []) := rfl
  obtain ⟨d, rfl⟩ : ∃ e, d = e + 1 := ⟨d - 1, by omega⟩
  show Ev (d + 1) 191 0 [(0, .ref 63)] [] hp _
  refine E_run hk 2 (j' := 2) (lv' := [(0, .ref 63)]) (st' := [yi 0, .ref 63]) (hp' := hp) rfl ?_
  refine Y_put hk rfl hM (by decide) (Nat.le_of_ble_eq_true rfl) rfl (fs' := [yi 0, .ref 64, .ref 65, yi (v 3), .ref 66, yi (v 5), .ref 67, yi (v 7), yi (v 8), yi (v 9), .ref 68, yi (v 11), .ref 69, yi (v 13), .ref 70, .ref 71, .ref 72, .ref 73, .ref 74, .ref 75, yi (v 20), yi (v 21)]) rfl (fun H1 e2 f3 => ?_)
  refine E_run hk 1 (j' := 4) (lv' := [(0, .ref 63)]) (st' := [.ref 63]) (hp' := H1) rfl ?_
  refine Y_call hk rfl (as := [.ref 63]) (rest := []) (v := none) rfl rfl (Nat.le_of_ble_eq_true rfl) (rcv0 e2) (Nat.le_of_ble_eq_true rfl) (c_X9_records (v := (vup v 0 0)) e2 (f3.at (by decide) hS) (f3.at (by decide) hT) (hm)) (fun H4 r5 => ?_)
  obtain ⟨T_H4, e_H4, t_H4, a_H4, b_H4, f_H4⟩ := r5
  refine E_run hk 1 (j' := 6) (lv' := [(0, .ref 63)]) (st' := [.ref 63]) (hp' := H4) rfl ?_
  refine Y_call hk rfl (as := [.ref 63]) (rest := []) (v := some (yi (S 1))) rfl rfl (Nat.le_of_ble_eq_true rfl) (rcv0 e_H4) (Nat.le_of_ble_eq_true rfl) (c_X9_swaps (v := (vup (vup v 0 0) 3 (if (v 3) = 6 then 6 else (v 3) + 1))) e_H4 (f_H4.at (by decide) (f3.at (by decide) hS)) (by omega) (hd := by omega)) (fun H6 r7 => ?_)
  obtain ⟨S_H6, e_H6, a_H6, b_H6, c_H6, d_H6, f_H6⟩ := r7
  exact E_ret hk rfl rfl ⟨(S 1), rfl, 0, (if (v 3) = 6 then 6 else (v 3) + 1), S_H6, T_H4, (f_H6.at (by decide) e_H4), e_H6, (f_H6.at (by decide) t_H4), ⟨rfl, rfl, ⟨a_H4, b_H4⟩, trivial, rfl, ⟨a_H6, b_H6, c_H6, d_H6⟩⟩, (yfr.tr (yfr.tr (f3.mono (by decide)) f_H4 (fun _ h => h) (by decide)) f_H6 (fun _ h => h) (by decide))⟩
