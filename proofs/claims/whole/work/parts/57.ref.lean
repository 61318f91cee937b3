/-- the state S recorded behind the n states of T -/
def recd (n : Int) (S T U : Int → Int) : Prop := (∀ q, 0 ≤ q → q < 47 → U (47 * (if n = 6 then 5 else n) + q) = S q) ∧ (∀ q, 0 ≤ q → q < 47 * (if n = 6 then 5 else n) → U q = T (if n = 6 then q + 47 else q))
theorem c_X9_sets {d : Nat} {hp : xH} {v : Nat → Int} (hM : xat hp 63 = some (yMo v)) {S : Int → Int} (hS : xat hp 64 = some (yI 47 S)) {T : Int → Int} (hT : xat hp 65 = some (yI 282 T)) (hm : 0 ≤ v 3 ∧ v 3 ≤ 6) {w x y : Int} (hw : 0 ≤ w ∧ w < 47) (hx : -2147483648 ≤ x ∧ x ≤ 2147483647 ∧ 0 ≤ y ∧ y ≤ 100) (hd : 1 ≤ d) : Cv d 192 [.ref 63, yi w, yi x, yi y] hp (yE (fun z h => ∃ c m S2 U, xat h 63 = some (yMo (vup (vup v 0 c) 3 m)) ∧ xat h 64 = some (yI 47 S2) ∧ xat h 65 = some (yI 282 U) ∧ ((c = 0 ∧ m = (if v 3 = 6 then 6 else v 3 + 1) ∧ recd (v 3) S T U ∧ (0 ≤ x ∧ x ≤ y) ∧ z = S w ∧ S2 = up S w x) ∨ (c = 1 ∧ m = v 3 ∧ S2 = S ∧ U = T ∧ (¬ (0 ≤ x ∧ x ≤ y)))) ∧ yfr [63, 64, 65] hp h)) := by
  have hk : xtab 192 = (xc_192, 5, 1, []) := rfl
  obtain ⟨d, rfl⟩ : ∃ e, d = e + 1 := ⟨d - 1, by omega⟩
  show Ev (d + 1) 192 0 [(0, .ref 63), (1, yi w), (2, yi x), (3, yi y)] [] hp _
  refine E_run hk 2 (j' := 2) (lv' := [(0, .ref 63), (1, yi w), (2, yi x), (3, yi y)]) (st' := [yi 0, .ref 63]) (hp' := hp) rfl ?_
  refine Y_put hk rfl hM (by decide) (Nat.le_of_ble_eq_true rfl) rfl (fs' := [yi 0, .ref 64, .ref 65, yi (v 3), .ref 66, yi (v 5), .ref 67, yi (v 7), yi (v 8), yi (v 9), .ref 68, yi (v 11), .ref 69, yi (v 13), .ref 70, .ref 71, .ref 72, .ref 73, .ref 74, .ref 75, yi (v 20), yi (v 21)]) rfl (fun H1 e2 f3 => ?_)
  refine E_run hk 3 (j' := 6) (lv' := [(0, .ref 63), (1, yi w), (2, yi x), (3, yi y)]) (st' := [yi y, yi 0, yi x]) (hp' := H1) rfl ?_
  refine Y_callP hk rfl (as := [yi x, yi 0, yi y]) (rest := []) (v := some (yi (b2 (0 ≤ x ∧ x ≤ y)))) rfl rfl (Nat.le_of_ble_eq_true rfl) rfl (Nat.le_of_ble_eq_true rfl) (c_X9_in (v := x) (l := 0) (m := y) (by omega)) ?_
  refine Y_b_ne hk rfl (fun g4 => ?_) (fun g4 => ?_)
  ·
    refine E_run hk 1 (j' := 13) (lv' := [(0, .ref 63), (1, yi w), (2, yi x), (3, yi y)]) (st' := [.ref 63]) (hp' := H1) rfl ?_
    refine Y_call hk rfl (as := [.ref 63]) (rest := []) (v := none) rfl rfl (Nat.le_of_ble_eq_true rfl) (rcv0 e2) (Nat.le_of_ble_eq_true rfl) (c_X9_records (v := (vup v 0 0)) e2 (f3.at (by decide) hS) (f3.at (by decide) hT) (hm)) (fun H5 r6 => ?_)
    obtain ⟨T_H5, e_H5, t_H5, a_H5, b_H5, f_H5⟩ := r6
    refine E_run hk 1 (j' := 15) (lv' := [(0, .ref 63), (1, yi w), (2, yi x), (3, yi y)]) (st' := [.ref 63]) (hp' := H5) rfl ?_
    refine E_get (v := .ref 64) hk rfl e_H5 rfl ?_
    refine E_run hk 1 (j' := 17) (lv' := [(0, .ref 63), (1, yi w), (2, yi x), (3, yi y)]) (st' := [yi w, .ref 64]) (hp' := H5) rfl ?_
    refine Y_iald (a := w) (by omega) (by decide) hk rfl (f_H5.at (by decide) (f3.at (by decide) hS)) ?_
    refine E_run hk 2 (j' := 20) (lv' := [(4, yi (S w)), (0, .ref 63), (1, yi w), (2, yi x), (3, yi y)]) (st' := [.ref 63]) (hp' := H5) rfl ?_
    refine E_get (v := .ref 64) hk rfl e_H5 rfl ?_
    refine E_run hk 2 (j' := 23) (lv' := [(4, yi (S w)), (0, .ref 63), (1, yi w), (2, yi x), (3, yi y)]) (st' := [yi x, yi w, .ref 64]) (hp' := H5) rfl ?_
    refine Y_iast (a := w) (x := x) (by omega) (by decide) (by decide) hk rfl (f_H5.at (by decide) (f3.at (by decide) hS)) (fun H7 e8 f9 => ?_)
    refine E_run hk 1 (j' := 25) (lv' := [(4, yi (S w)), (0, .ref 63), (1, yi w), (2, yi x), (3, yi y)]) (st' := [yi (S w)]) (hp' := H7) rfl ?_
    exact E_ret hk rfl rfl ⟨(S w), rfl, 0, (if (v 3) = 6 then 6 else (v 3) + 1), (up S w x), T_H5, (f9.at (by decide) e_H5), e8, (f9.at (by decide) t_H5), Or.inl ⟨rfl, rfl, ⟨a_H5, b_H5⟩, by omega, rfl, rfl⟩, (yfr.tr (yfr.tr (f3.mono (by decide)) f_H5 (fun _ h => h) (by decide)) f9 (fun _ h => h) (by decide))⟩
  ·
    refine E_run hk 2 (j' := 10) (lv' := [(0, .ref 63), (1, yi w), (2, yi x), (3, yi y)]) (st' := [yi 1, .ref 63]) (hp' := H1) rfl ?_
    refine Y_call hk rfl (as := [.ref 63, yi 1]) (rest := []) (v := some (yi 0)) rfl rfl (Nat.le_of_ble_eq_true rfl) (rcv0 e2) (Nat.le_of_ble_eq_true rfl) (c_X9_fails (c := 1) (v := (vup v 0 0)) e2) (fun H10 r11 => ?_)
    obtain ⟨e_H10, f_H10⟩ := r11
    exact E_ret hk rfl rfl ⟨0, rfl, 1, (v 3), S, T, e_H10, (f_H10.at (by decide) (f3.at (by decide) hS)), (f_H10.at (by decide) (f3.at (by decide) hT)), Or.inr (⟨rfl, rfl, rfl, rfl, by omega⟩), (yfr.tr (f3.mono (by decide)) f_H10 (fun _ h => h) (by decide))⟩
