/-- the state S recorded behind the n states of T -/
def recd (n : Int) (S T U : Int → Int) : Prop := (∀ q, 0 ≤ q → q < 47 → U (47 * (if n = 6 then 5 else n) + q) = S q) ∧ (∀ q, 0 ≤ q → q < 47 * (if n = 6 then 5 else n) → U q = T (if n = 6 then q + 47 else q))
theorem c_X9_sets {d : Nat} {hp : xH} {v : Nat → Int} (hM : xat hp 63 = some (yMo v)) {S : Int → Int} (hS : xat hp 64 = some (yI 47 S)) {T : Int → Int} (hT : xat hp 65 = some (yI 282 T)) (hm : 0 ≤ v 3 ∧ v 3 ≤ 6) {w x y : Int} (hw : 0 ≤ w ∧ w < 47) (hx : -2147483648 ≤ x ∧ x ≤ 2147483647 ∧ 0 ≤ y ∧ y ≤ 100) (hd : 1 ≤ d) : Cv d 192 [.ref 63, yi w, yi x, yi y] hp (yE (fun z h => ∃ c m S2 U, xat h 63 = some (yMo (vup (vup v 0 c) 3 m)) ∧ xat h 64 = some (yI 47 S2) ∧ xat h 65 = some (yI 282 U) ∧ ((c = 0 ∧ m = (if v 3 = 6 then 6 else v 3 + 1) ∧ recd (v 3) S T U ∧ (0 ≤ x ∧ x ≤ y) ∧ z = S w ∧ S2 = up S w x) ∨ (c = 1 ∧ m = v 3 ∧ S2 = S ∧ U = T ∧ (¬ (0 ≤ x ∧ x ≤ y)))) ∧ yfr [63, 64, 65] hp h)) := by
  have hk : xtab 192 = (xc_192, 5, 1, []) := rfl
  obtain ⟨d, rfl⟩ : ∃ e, d = e + 1 := ⟨d - 1, by omega⟩
  show Ev (d + 1) 192 0 [(0, .ref 63), (1, yi w), (2, yi x), (3, yi y)] [] hp _
  refine E_run hk 2 (j' := 2) (lv' := [(0, .ref 63), (1, yi w), (2, yi x), (3, yi y)]) (st' := [yi 0, .ref 63]) (hp' := hp) rfl ?_
  refine Y_put hk rfl hM (by decide) (Nat.le_of_ble_eq_true rfl) rfl (fs' := [yi 0, .ref 64, .ref 65, yi (v 3), .ref 66, yi (v 5), .ref 67, yi (v 7), yi (v 8), yi (v 9), .ref 68, yi (v 11), .ref 69, yi (v 13), .ref 70, .ref 71, .ref 72, .ref 73, .ref 74, .ref 75, yi (v 20), yi (v 21)]) rfl (fun H1 e2 f3 => ?_)
  refine E_run hk 3 (j' := 6) (lv' := [(0, .ref 63), (1, yi w), (2, yi x), (3, yi y)]) (st' := [yi y, yi 0, yi x]) (hp' := H1) rfl ?_
  refine Y_callP hk rfl (as := [yi x, yi 0, yi y]) (rest := []) (v := some (yi (b2 (0 ≤ x ∧ x ≤ y)))) rfl rfl (Nat.le_of_ble_eq_true rfl) rfl (Nat.le_of_ble_eq_true rfl) (c_X9_in (v := x) (l := 0) (m := y) (by omega)) ?_
  refine Y_b_ne hk rfl (fun g4 => ?_) (fun g4 => ?_)
  ·
    refine E_run hk 1 (j' := 13) (lv' := [(0, .ref 63), (1, yi w), (2, yi x), (3, yi y)]) (st' := [.ref 63]) (hp' := H1) rfl ?_
    refine Y_call hk rfl (as := [.ref 63]) (rest := []) (v := none) rfl rfl (Nat.le_of_ble_eq_true rfl) (rcv0 e2) (Nat.le_of_ble_eq_true rfl) (c_X9_records (v := (vup v 0 0)) e2 (f3.at (by decide) hS) (f3.at (by decide) hT) (hm)) (fun H5 r6 => ?_)
    obtain ⟨T_H5, e_H5, t_H5, a_H5, b_H5, f_H5⟩ := r6
    refine E_run hk 1 (j' := 15) (lv' := [(0, .ref 63), (1, yi w), (2, yi x), (3, yi y)]) (st' := [.ref 63]) (hp' := H5) rfl ?_
    refine E_get (v := .ref 64) hk rfl e_H5 rfl ?_
    refine E_run hk 1 (j' := 17) (lv' := [(0, .ref 63), (1, yi w), (2, yi x), (3, yi y)]) (st' := [yi w, .ref 64]) (hp' := H5) rfl ?_
    refine Y_iald (a := w) (by omega) (by decide) hk rfl (f_H5.at (by decide) (f3.at (by decide) hS)) ?_
    refine E_run hk 2 (j' := 20) (lv' := [(4, yi (S w)), (0, .ref 63), (1, yi w), (2, yi x), (3, yi y)]) (st' := [.ref 63]) (hp' := H5) rfl ?_
    refine E_get (v := .ref 64) hk rfl e_H5 rfl ?_
    refine E_run hk 2 (j' := 23) (lv' := [(4, yi (S w)), (0, .ref 63), (1, yi w), (2, yi x), (3, yi y)]) (st' := [yi x, yi w, .ref 64]) (hp' := H5) rfl ?_
    refine Y_iast (a := w) (x := x) (by omega) (by decide) (by decide) hk rfl (f_H5.at (by decide) (f3.at (by decide) hS)) (fun H7 e8 f9 => ?_)
    refine E_run hk 1 (j' := 25) (lv' := [(4, yi (S w)), (0, .ref 63), (1, yi w), (2, yi x), (3, yi y)]) (st' := [yi (S w)]) (hp' := H7) rfl ?_
    exact E_ret hk rfl rfl ⟨(S w), rfl, 0, (if (v 3) = 6 then 6 else (v 3) + 1), (up S w x), T_H5, (f9.at (by decide) e_H5), e8, (f9.at (by decide) t_H5), Or.inl ⟨rfl, rfl, ⟨a_H5, b_H5⟩, by omega, rfl, rfl⟩, (yfr.tr (yfr.tr (f3.mono (by decide)) f_H5 (fun _ h => h) (by decide)) f9 (fun _ h => h) (by decide))⟩
  ·
    refine E_run hk 2 (j' := 10) (lv' := [(0, .ref 63), (1, yi w), (2, yi x), (3, yi y)]) (st' := [yi 1, .ref 63]) (hp' := H1) rfl ?_
    refine Y_call hk rfl (as := [.ref 63, yi 1]) (rest := []) (v := some (yi 0)) rfl rfl (Nat.le_of_ble_eq_true rfl) (rcv0 e2) (Nat.le_of_ble_eq_true rfl) (c_X9_fails (c := 1) (v := (vup v 0 0)) e2) (fun H10 r11 => ?_)
    obtain ⟨e_H10, f_H10⟩ := r11
    exact E_ret hk rfl rfl ⟨0, rfl, 1, (v 3), S, T, e_H10, (f_H10.at (by decide) (f3.at (by decide) hS)), (f_H10.at (by decide) (f3.at (by decide) hT)), Or.inr (⟨rfl, rfl, rfl, rfl, by omega⟩), (yfr.tr (f3.mono (by decide)) f_H10 (fun _ h => h) (by decide))⟩
theorem c_X9_setBound {d : Nat} {hp : xH} {v : Nat → Int} (hM : xat hp 63 = some (yMo v)) {S : Int → Int} (hS : xat hp 64 = some (yI 47 S)) {T : Int → Int} (hT : xat hp 65 = some (yI 282 T)) (hm : 0 ≤ v 3 ∧ v 3 ≤ 6) {x : Int} (hx : -2147483648 ≤ x ∧ x ≤ 2147483647) (hd : 2 ≤ d) : Cv d 193 [.ref 63, yi x] hp (yE (fun z h => ∃ c m S2 U, xat h 63 = some (yMo (vup (vup v 0 c) 3 m)) ∧ xat h 64 = some (yI 47 S2) ∧ xat h 65 = some (yI 282 U) ∧ ((c = 0 ∧ m = (if v 3 = 6 then 6 else v 3 + 1) ∧ recd (v 3) S T U ∧ (0 ≤ x ∧ x ≤ 20) ∧ z = S 2 ∧ S2 = up S 2 x) ∨ (c = 1 ∧ m = v 3 ∧ S2 = S ∧ U = T ∧ ¬ (0 ≤ x ∧ x ≤ 20))) ∧ yfr [63, 64, 65] hp h)) := by
  have hk : xtab 193 = (xc_193, 2, 1, []) := rfl
  obtain ⟨d, rfl⟩ : ∃ e, d = e + 1 := ⟨d - 1, by omega⟩
  show Ev (d + 1) 193 0 [(0, .ref 63), (1, yi x)] [] hp _
  refine E_run hk 4 (j' := 4) (lv' := [(0, .ref 63), (1, yi x)]) (st' := [yi 20, yi x, yi 2, .ref 63]) (hp' := hp) rfl ?_
  refine Y_callE hk rfl (as := [.ref 63, yi 2, yi x, yi 20]) (rest := []) rfl rfl (Nat.le_of_ble_eq_true rfl) (rcv0 hM) (Nat.le_of_ble_eq_true rfl) (c_X9_sets (w := 2) (x := x) (y := 20) (v := v) hM hS hT hm (by omega) (by omega) (hd := by omega)) (fun z1 H2 r3 => ?_)
  obtain ⟨c_H2, m_H2, S_H2, U_H2, e_H2, s_H2, t_H2, q_H2, f_H2⟩ := r3
  exact E_ret hk rfl rfl ⟨z1, rfl, c_H2, m_H2, S_H2, U_H2, e_H2, s_H2, t_H2, q_H2, f_H2⟩
theorem c_X9_setHold {d : Nat} {hp : xH} {v : Nat → Int} (hM : xat hp 63 = some (yMo v)) {S : Int → Int} (hS : xat hp 64 = some (yI 47 S)) {T : Int → Int} (hT : xat hp 65 = some (yI 282 T)) (hm : 0 ≤ v 3 ∧ v 3 ≤ 6) {x : Int} (hx : -2147483648 ≤ x ∧ x ≤ 2147483647) (hd : 2 ≤ d) : Cv d 194 [.ref 63, yi x] hp (yE (fun z h => ∃ c m S2 U, xat h 63 = some (yMo (vup (vup v 0 c) 3 m)) ∧ xat h 64 = some (yI 47 S2) ∧ xat h 65 = some (yI 282 U) ∧ ((c = 0 ∧ m = (if v 3 = 6 then 6 else v 3 + 1) ∧ recd (v 3) S T U ∧ (0 ≤ x ∧ x ≤ 50) ∧ z = S 3 ∧ S2 = up S 3 x) ∨ (c = 1 ∧ m = v 3 ∧ S2 = S ∧ U = T ∧ ¬ (0 ≤ x ∧ x ≤ 50))) ∧ yfr [63, 64, 65] hp h)) := by
  have hk : xtab 194 = (xc_194, 2, 1, []) := rfl
  obtain ⟨d, rfl⟩ : ∃ e, d = e + 1 := ⟨d - 1, by omega⟩
  show Ev (d + 1) 194 0 [(0, .ref 63), (1, yi x)] [] hp _
  refine E_run hk 4 (j' := 4) (lv' := [(0, .ref 63), (1, yi x)]) (st' := [yi 50, yi x, yi 3, .ref 63]) (hp' := hp) rfl ?_
  refine Y_callE hk rfl (as := [.ref 63, yi 3, yi x, yi 50]) (rest := []) rfl rfl (Nat.le_of_ble_eq_true rfl) (rcv0 hM) (Nat.le_of_ble_eq_true rfl) (c_X9_sets (w := 3) (x := x) (y := 50) (v := v) hM hS hT hm (by omega) (by omega) (hd := by omega)) (fun z1 H2 r3 => ?_)
  obtain ⟨c_H2, m_H2, S_H2, U_H2, e_H2, s_H2, t_H2, q_H2, f_H2⟩ := r3
  exact E_ret hk rfl rfl ⟨z1, rfl, c_H2, m_H2, S_H2, U_H2, e_H2, s_H2, t_H2, q_H2, f_H2⟩
theorem c_X9_setJudge {d : Nat} {hp : xH} {v : Nat → Int} (hM : xat hp 63 = some (yMo v)) {S : Int → Int} (hS : xat hp 64 = some (yI 47 S)) {T : Int → Int} (hT : xat hp 65 = some (yI 282 T)) (hm : 0 ≤ v 3 ∧ v 3 ≤ 6) {x : Int} (hx : -2147483648 ≤ x ∧ x ≤ 2147483647) (hd : 2 ≤ d) : Cv d 195 [.ref 63, yi x] hp (yE (fun z h => ∃ c m S2 U, xat h 63 = some (yMo (vup (vup v 0 c) 3 m)) ∧ xat h 64 = some (yI 47 S2) ∧ xat h 65 = some (yI 282 U) ∧ ((c = 0 ∧ m = (if v 3 = 6 then 6 else v 3 + 1) ∧ recd (v 3) S T U ∧ (0 ≤ x ∧ x ≤ 3) ∧ z = S 4 ∧ S2 = up S 4 x) ∨ (c = 1 ∧ m = v 3 ∧ S2 = S ∧ U = T ∧ ¬ (0 ≤ x ∧ x ≤ 3))) ∧ yfr [63, 64, 65] hp h)) := by
  have hk : xtab 195 = (xc_195, 2, 1, []) := rfl
  obtain ⟨d, rfl⟩ : ∃ e, d = e + 1 := ⟨d - 1, by omega⟩
  show Ev (d + 1) 195 0 [(0, .ref 63), (1, yi x)] [] hp _
  refine E_run hk 4 (j' := 4) (lv' := [(0, .ref 63), (1, yi x)]) (st' := [yi 3, yi x, yi 4, .ref 63]) (hp' := hp) rfl ?_
  refine Y_callE hk rfl (as := [.ref 63, yi 4, yi x, yi 3]) (rest := []) rfl rfl (Nat.le_of_ble_eq_true rfl) (rcv0 hM) (Nat.le_of_ble_eq_true rfl) (c_X9_sets (w := 4) (x := x) (y := 3) (v := v) hM hS hT hm (by omega) (by omega) (hd := by omega)) (fun z1 H2 r3 => ?_)
  obtain ⟨c_H2, m_H2, S_H2, U_H2, e_H2, s_H2, t_H2, q_H2, f_H2⟩ := r3
  exact E_ret hk rfl rfl ⟨z1, rfl, c_H2, m_H2, S_H2, U_H2, e_H2, s_H2, t_H2, q_H2, f_H2⟩
theorem c_X9_clearBuffer {d : Nat} {hp : xH} {v : Nat → Int} (hM : xat hp 63 = some (yMo v)) : Cv d 197 [.ref 63] hp (yR (some (yi (v 7))) (fun h => xat h 63 = some (yMo (vup (vup v 0 0) 7 0)) ∧ yfr [63] hp h)) := by
  have hk : xtab 197 = (xc_197, 2, 1, []) := rfl
  show Ev d 197 0 [(0, .ref 63)] [] hp _
  refine E_run hk 2 (j' := 2) (lv' := [(0, .ref 63)]) (st' := [yi 0, .ref 63]) (hp' := hp) rfl ?_
  refine Y_put hk rfl hM (by decide) (Nat.le_of_ble_eq_true rfl) rfl (fs' := [yi 0, .ref 64, .ref 65, yi (v 3), .ref 66, yi (v 5), .ref 67, yi (v 7), yi (v 8), yi (v 9), .ref 68, yi (v 11), .ref 69, yi (v 13), .ref 70, .ref 71, .ref 72, .ref 73, .ref 74, .ref 75, yi (v 20), yi (v 21)]) rfl (fun H1 e2 f3 => ?_)
  refine E_run hk 1 (j' := 4) (lv' := [(0, .ref 63)]) (st' := [.ref 63]) (hp' := H1) rfl ?_
  refine E_get (v := yi (v 7)) hk rfl e2 rfl ?_
  refine E_run hk 3 (j' := 8) (lv' := [(1, yi (v 7)), (0, .ref 63)]) (st' := [yi 0, .ref 63]) (hp' := H1) rfl ?_
  refine Y_put hk rfl e2 (by decide) (Nat.le_of_ble_eq_true rfl) rfl (fs' := [yi 0, .ref 64, .ref 65, yi (v 3), .ref 66, yi (v 5), .ref 67, yi 0, yi (v 8), yi (v 9), .ref 68, yi (v 11), .ref 69, yi (v 13), .ref 70, .ref 71, .ref 72, .ref 73, .ref 74, .ref 75, yi (v 20), yi (v 21)]) rfl (fun H4 e5 f6 => ?_)
  refine E_run hk 1 (j' := 10) (lv' := [(1, yi (v 7)), (0, .ref 63)]) (st' := [yi (v 7)]) (hp' := H4) rfl ?_
  exact E_ret hk rfl rfl ⟨rfl, e5, (yfr.tr f3 f6 (fun _ h => h) (by decide))⟩
theorem c_X9_append {d : Nat} {hp : xH} {v : Nat → Int} (hM : xat hp 63 = some (yMo v)) {X : Int → Int} (hX : xat hp 67 = some (yI 60 X)) {x : Int} (hx : -2147483648 ≤ x ∧ x ≤ 2147483647) (h7 : 0 ≤ v 7 ∧ v 7 ≤ 60) (hd : 1 ≤ d) : Cv d 196 [.ref 63, yi x] hp (yE (fun z h => ∃ c n X2, xat h 63 = some (yMo (vup (vup v 0 c) 7 n)) ∧ xat h 67 = some (yI 60 X2) ∧ ((c = 0 ∧ n = v 7 + 1 ∧ X2 = up X (v 7) x ∧ (33 ≤ x ∧ x ≤ 126 ∧ v 7 < 60) ∧ z = v 7 + 1) ∨ (c = 1 ∧ n = v 7 ∧ X2 = X ∧ ¬ (33 ≤ x ∧ x ≤ 126)) ∨ (c = 2 ∧ n = v 7 ∧ X2 = X ∧ 33 ≤ x ∧ x ≤ 126 ∧ v 7 = 60)) ∧ yfr [63, 67] hp h)) := by
  have hk : xtab 196 = (xc_196, 2, 1, []) := rfl
  obtain ⟨d, rfl⟩ : ∃ e, d = e + 1 := ⟨d - 1, by omega⟩
  show Ev (d + 1) 196 0 [(0, .ref 63), (1, yi x)] [] hp _
  refine E_run hk 2 (j' := 2) (lv' := [(0, .ref 63), (1, yi x)]) (st' := [yi 0, .ref 63]) (hp' := hp) rfl ?_
  refine Y_put hk rfl hM (by decide) (Nat.le_of_ble_eq_true rfl) rfl (fs' := [yi 0, .ref 64, .ref 65, yi (v 3), .ref 66, yi (v 5), .ref 67, yi (v 7), yi (v 8), yi (v 9), .ref 68, yi (v 11), .ref 69, yi (v 13), .ref 70, .ref 71, .ref 72, .ref 73, .ref 74, .ref 75, yi (v 20), yi (v 21)]) rfl (fun H1 e2 f3 => ?_)
  refine E_run hk 3 (j' := 6) (lv' := [(0, .ref 63), (1, yi x)]) (st' := [yi 126, yi 33, yi x]) (hp' := H1) rfl ?_
  refine Y_callP hk rfl (as := [yi x, yi 33, yi 126]) (rest := []) (v := some (yi (b2 (33 ≤ x ∧ x ≤ 126)))) rfl rfl (Nat.le_of_ble_eq_true rfl) rfl (Nat.le_of_ble_eq_true rfl) (c_X9_in (v := x) (l := 33) (m := 126) (by omega)) ?_
  refine Y_b_ne hk rfl (fun g4 => ?_) (fun g4 => ?_)
  ·
    refine E_run hk 1 (j' := 13) (lv' := [(0, .ref 63), (1, yi x)]) (st' := [.ref 63]) (hp' := H1) rfl ?_
    refine E_get (v := yi (v 7)) hk rfl e2 rfl ?_
    refine E_run hk 1 (j' := 15) (lv' := [(0, .ref 63), (1, yi x)]) (st' := [yi 60, yi (v 7)]) (hp' := H1) rfl ?_
    refine Y_ic_ne (a := (v 7)) (b := 60) (by omega) hk rfl (fun g5 => ?_) (fun g5 => ?_)
    ·
      refine E_run hk 1 (j' := 21) (lv' := [(0, .ref 63), (1, yi x)]) (st' := [.ref 63]) (hp' := H1) rfl ?_
      refine E_get (v := .ref 67) hk rfl e2 rfl ?_
      refine E_run hk 1 (j' := 23) (lv' := [(0, .ref 63), (1, yi x)]) (st' := [.ref 63, .ref 67]) (hp' := H1) rfl ?_
      refine E_get (v := yi (v 7)) hk rfl e2 rfl ?_
      refine E_run hk 1 (j' := 25) (lv' := [(0, .ref 63), (1, yi x)]) (st' := [yi x, yi (v 7), .ref 67]) (hp' := H1) rfl ?_
      refine Y_iast (a := (v 7)) (x := x) (by omega) (by decide) (by decide) hk rfl (f3.at (by decide) hX) (fun H6 e7 f8 => ?_)
      refine E_run hk 2 (j' := 28) (lv' := [(0, .ref 63), (1, yi x)]) (st' := [.ref 63, .ref 63]) (hp' := H6) rfl ?_
      refine E_get (v := yi (v 7)) hk rfl (f8.at (by decide) e2) rfl ?_
      refine E_run hk 1 (j' := 30) (lv' := [(0, .ref 63), (1, yi x)]) (st' := [yi 1, yi (v 7), .ref 63]) (hp' := H6) rfl ?_
      refine Y_iadd (a := (v 7)) (b := 1) hk rfl ?_
      refine Y_put hk rfl (f8.at (by decide) e2) (by decide) (Nat.le_of_ble_eq_true rfl) rfl (fs' := [yi 0, .ref 64, .ref 65, yi (v 3), .ref 66, yi (v 5), .ref 67, yi ((v 7) + 1), yi (v 8), yi (v 9), .ref 68, yi (v 11), .ref 69, yi (v 13), .ref 70, .ref 71, .ref 72, .ref 73, .ref 74, .ref 75, yi (v 20), yi (v 21)]) rfl (fun H9 e10 f11 => ?_)
      refine E_run hk 1 (j' := 33) (lv' := [(0, .ref 63), (1, yi x)]) (st' := [.ref 63]) (hp' := H9) rfl ?_
      refine E_get (v := yi ((v 7) + 1)) hk rfl e10 rfl ?_
      exact E_ret hk rfl rfl ⟨((v 7) + 1), rfl, 0, ((v 7) + 1), (up X (v 7) x), e10, (f11.at (by decide) e7), Or.inl ⟨rfl, rfl, rfl, by omega, rfl⟩, (yfr.tr (yfr.tr (f3.mono (by decide)) f8 (fun _ h => h) (by decide)) f11 (fun _ h => h) (by decide))⟩
    ·
      refine E_run hk 2 (j' := 18) (lv' := [(0, .ref 63), (1, yi x)]) (st' := [yi 2, .ref 63]) (hp' := H1) rfl ?_
      refine Y_call hk rfl (as := [.ref 63, yi 2]) (rest := []) (v := some (yi 0)) rfl rfl (Nat.le_of_ble_eq_true rfl) (rcv0 e2) (Nat.le_of_ble_eq_true rfl) (c_X9_fails (c := 2) (v := (vup v 0 0)) e2) (fun H12 r13 => ?_)
      obtain ⟨e_H12, f_H12⟩ := r13
      exact E_ret hk rfl rfl ⟨0, rfl, 2, (v 7), X, e_H12, (f_H12.at (by decide) (f3.at (by decide) hX)), Or.inr (Or.inr ⟨rfl, rfl, rfl, by omega, by omega, by omega⟩), (yfr.tr (f3.mono (by decide)) f_H12 (fun _ h => h) (by decide))⟩
  ·
    refine E_run hk 2 (j' := 10) (lv' := [(0, .ref 63), (1, yi x)]) (st' := [yi 1, .ref 63]) (hp' := H1) rfl ?_
    refine Y_call hk rfl (as := [.ref 63, yi 1]) (rest := []) (v := some (yi 0)) rfl rfl (Nat.le_of_ble_eq_true rfl) (rcv0 e2) (Nat.le_of_ble_eq_true rfl) (c_X9_fails (c := 1) (v := (vup v 0 0)) e2) (fun H14 r15 => ?_)
    obtain ⟨e_H14, f_H14⟩ := r15
    exact E_ret hk rfl rfl ⟨0, rfl, 1, (v 7), X, e_H14, (f_H14.at (by decide) (f3.at (by decide) hX)), Or.inr (Or.inl ⟨rfl, rfl, rfl, by omega⟩), (yfr.tr (f3.mono (by decide)) f_H14 (fun _ h => h) (by decide))⟩
