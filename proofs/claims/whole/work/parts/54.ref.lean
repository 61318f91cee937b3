theorem c_X9_tellsCost {d : Nat} {hp : xH} {v : Nat → Int} (hM : xat hp 63 = some (yMo v)) {S : Int → Int} (hS : xat hp 64 = some (yI 47 S)) (hz : 0 ≤ S 0 ∧ S 0 ≤ 20 ∧ 0 ≤ S 1 ∧ S 1 ≤ 20 ∧ 0 ≤ S 2 ∧ S 2 ≤ 20 ∧ 0 ≤ S 3 ∧ S 3 ≤ 50 ∧ 0 ≤ S 4 ∧ S 4 ≤ 3) (h0 : ∀ q, 0 ≤ q → q < S 0 → 0 ≤ S (7 + q) ∧ S (7 + q) ≤ 60) (h1 : ∀ q, 0 ≤ q → q < S 1 → 0 ≤ S (27 + q) ∧ S (27 + q) ≤ 60) {f : Int → Int} (hA : xat hp 70 = some (yI 400 f)) (hd : 3 ≤ d) : Cv d 228 [.ref 63] hp (yE (fun z h => ∃ c, xat h 63 = some (yMo (vup v 0 c)) ∧ ((c = 0 ∧ (0 < S 0 ∧ 0 < S 1 ∧ -S 2 ≤ S 0 - S 1 ∧ S 0 - S 1 ≤ S 2) ∧ z = cst S 0 (S 2)) ∨ (c = 1 ∧ (¬ (0 < S 0 ∧ 0 < S 1 ∧ -S 2 ≤ S 0 - S 1 ∧ S 0 - S 1 ≤ S 2)))) ∧ (∃ u, xat h 70 = some (yI 400 u)) ∧ yfr [63, 70] hp h)) := by
  have hk : xtab 228 = (xc_228, 1, 1, []) := rfl
  obtain ⟨d, rfl⟩ : ∃ e, d = e + 1 := ⟨d - 1, by omega⟩
  show Ev (d + 1) 228 0 [(0, .ref 63)] [] hp _
  refine E_run hk 2 (j' := 2) (lv' := [(0, .ref 63)]) (st' := [yi 0, .ref 63]) (hp' := hp) rfl ?_
  refine Y_put hk rfl hM (by decide) (Nat.le_of_ble_eq_true rfl) rfl (fs' := [yi 0, .ref 64, .ref 65, yi (v 3), .ref 66, yi (v 5), .ref 67, yi (v 7), yi (v 8), yi (v 9), .ref 68, yi (v 11), .ref 69, yi (v 13), .ref 70, .ref 71, .ref 72, .ref 73, .ref 74, .ref 75, yi (v 20), yi (v 21)]) rfl (fun H1 e2 f3 => ?_)
  refine E_run hk 1 (j' := 4) (lv' := [(0, .ref 63)]) (st' := [.ref 63]) (hp' := H1) rfl ?_
  refine Y_callP hk rfl (as := [.ref 63]) (rest := []) (v := some (yi (b2 (0 < S 0 ∧ 0 < S 1 ∧ -S 2 ≤ S 0 - S 1 ∧ S 0 - S 1 ≤ S 2)))) rfl rfl (Nat.le_of_ble_eq_true rfl) (rcv0 e2) (Nat.le_of_ble_eq_true rfl) (c_X9_matches (v := (vup v 0 0)) e2 (f3.at (by decide) hS) (by omega) (by omega) (hd := by omega)) ?_
  refine Y_b_eq hk rfl (fun g4 => ?_) (fun g4 => ?_)
  ·
    refine E_run hk 2 (j' := 16) (lv' := [(0, .ref 63)]) (st' := [yi 1, .ref 63]) (hp' := H1) rfl ?_
    refine Y_call hk rfl (as := [.ref 63, yi 1]) (rest := []) (v := some (yi 0)) rfl rfl (Nat.le_of_ble_eq_true rfl) (rcv0 e2) (Nat.le_of_ble_eq_true rfl) (c_X9_fails (c := 1) (v := (vup v 0 0)) e2) (fun H5 r6 => ?_)
    obtain ⟨e_H5, f_H5⟩ := r6
    exact E_ret hk rfl rfl ⟨0, rfl, 1, e_H5, Or.inr (⟨rfl, by first | trivial | omega⟩), ⟨_, (f_H5.at (by decide) (f3.at (by decide) hA))⟩, (yfr.tr (f3.mono (by decide)) f_H5 (fun _ h => h) (by decide))⟩
  ·
    refine E_run hk 3 (j' := 9) (lv' := [(0, .ref 63)]) (st' := [.ref 63, yi 0, .ref 63]) (hp' := H1) rfl ?_
    refine E_get (v := .ref 64) hk rfl e2 rfl ?_
    refine E_run hk 1 (j' := 11) (lv' := [(0, .ref 63)]) (st' := [yi 2, .ref 64, yi 0, .ref 63]) (hp' := H1) rfl ?_
    refine Y_iald (a := 2) (by omega) (by decide) hk rfl (f3.at (by decide) hS) ?_
    refine Y_call hk rfl (as := [.ref 63, yi 0, yi (S 2)]) (rest := []) (v := some (yi (cst S 0 (S 2)))) rfl rfl (Nat.le_of_ble_eq_true rfl) (rcv0 e2) (Nat.le_of_ble_eq_true rfl) (c_X9_tellsAhead (b := 0) (u := (S 2)) (v := (vup v 0 0)) e2 (f3.at (by decide) hS) hz h0 h1 (f3.at (by decide) hA) (by omega) (by omega) (hd := by omega)) (fun H7 r8 => ?_)
    obtain ⟨A_H7, e_H7, a_H7, f_H7⟩ := r8
    refine E_run hk 1 (j' := 17) (lv' := [(0, .ref 63)]) (st' := [yi (cst S 0 (S 2))]) (hp' := H7) rfl ?_
    exact E_ret hk rfl rfl ⟨(cst S 0 (S 2)), rfl, 0, (f_H7.at (by decide) e2), Or.inl ⟨rfl, by first | trivial | omega, by first | rfl | assumption | omega⟩, ⟨_, e_H7⟩, (yfr.tr (f3.mono (by decide)) f_H7 (fun _ h => h) (by decide))⟩
theorem c_X9_cost {d : Nat} {hp : xH} {v : Nat → Int} (hM : xat hp 63 = some (yMo v)) {S : Int → Int} (hS : xat hp 64 = some (yI 47 S)) (hz : 0 ≤ S 0 ∧ S 0 ≤ 20 ∧ 0 ≤ S 1 ∧ S 1 ≤ 20 ∧ 0 ≤ S 2 ∧ S 2 ≤ 20 ∧ 0 ≤ S 3 ∧ S 3 ≤ 50 ∧ 0 ≤ S 4 ∧ S 4 ≤ 3) (h0 : ∀ q, 0 ≤ q → q < S 0 → 0 ≤ S (7 + q) ∧ S (7 + q) ≤ 60) (h1 : ∀ q, 0 ≤ q → q < S 1 → 0 ≤ S (27 + q) ∧ S (27 + q) ≤ 60) {f : Int → Int} (hA : xat hp 70 = some (yI 400 f)) (hd : 4 ≤ d) : Cv d 229 [.ref 63] hp (yE (fun z h => ∃ c, xat h 63 = some (yMo (vup v 0 c)) ∧ ((c = 0 ∧ (0 < S 0 ∧ 0 < S 1 ∧ -S 2 ≤ S 0 - S 1 ∧ S 0 - S 1 ≤ S 2) ∧ z = cst S 0 (S 2)) ∨ (c = 1 ∧ (¬ (0 < S 0 ∧ 0 < S 1 ∧ -S 2 ≤ S 0 - S 1 ∧ S 0 - S 1 ≤ S 2)))) ∧ (∃ u, xat h 70 = some (yI 400 u)) ∧ yfr [63, 70] hp h)) := by
  have hk : xtab 229 = (xc_229, 1, 1, []) := rfl
  obtain ⟨d, rfl⟩ : ∃ e, d = e + 1 := ⟨d - 1, by omega⟩
  show Ev (d + 1) 229 0 [(0, .ref 63)] [] hp _
  refine E_run hk 1 (j' := 1) (lv' := [(0, .ref 63)]) (st' := [.ref 63]) (hp' := hp) rfl ?_
  refine Y_callE hk rfl (as := [.ref 63]) (rest := []) rfl rfl (Nat.le_of_ble_eq_true rfl) (rcv0 hM) (Nat.le_of_ble_eq_true rfl) (c_X9_tellsCost (v := v) hM hS hz h0 h1 hA (hd := by omega)) (fun z1 H2 r3 => ?_)
  obtain ⟨c_H2, e_H2, q_H2, ⟨u70_H2, x70_H2⟩, f_H2⟩ := r3
  exact E_ret hk rfl rfl ⟨z1, rfl, c_H2, e_H2, q_H2, ⟨_, x70_H2⟩, f_H2⟩
theorem c_X9_costFromEnd {d : Nat} {hp : xH} {v : Nat → Int} (hM : xat hp 63 = some (yMo v)) {S : Int → Int} (hS : xat hp 64 = some (yI 47 S)) (hz : 0 ≤ S 0 ∧ S 0 ≤ 20 ∧ 0 ≤ S 1 ∧ S 1 ≤ 20 ∧ 0 ≤ S 2 ∧ S 2 ≤ 20 ∧ 0 ≤ S 3 ∧ S 3 ≤ 50 ∧ 0 ≤ S 4 ∧ S 4 ≤ 3) (h0 : ∀ q, 0 ≤ q → q < S 0 → 0 ≤ S (7 + q) ∧ S (7 + q) ≤ 60) (h1 : ∀ q, 0 ≤ q → q < S 1 → 0 ≤ S (27 + q) ∧ S (27 + q) ≤ 60) {f : Int → Int} (hA : xat hp 70 = some (yI 400 f)) (hd : 4 ≤ d) : Cv d 230 [.ref 63] hp (yE (fun z h => ∃ c, xat h 63 = some (yMo (vup v 0 c)) ∧ ((c = 0 ∧ (0 < S 0 ∧ 0 < S 1 ∧ -S 2 ≤ S 0 - S 1 ∧ S 0 - S 1 ≤ S 2) ∧ z = cst S 0 (S 2)) ∨ (c = 1 ∧ (¬ (0 < S 0 ∧ 0 < S 1 ∧ -S 2 ≤ S 0 - S 1 ∧ S 0 - S 1 ≤ S 2)))) ∧ (∃ u, xat h 70 = some (yI 400 u)) ∧ yfr [63, 70] hp h)) := by
  have hk : xtab 230 = (xc_230, 1, 1, []) := rfl
  obtain ⟨d, rfl⟩ : ∃ e, d = e + 1 := ⟨d - 1, by omega⟩
  show Ev (d + 1) 230 0 [(0, .ref 63)] [] hp _
  refine E_run hk 1 (j' := 1) (lv' := [(0, .ref 63)]) (st' := [.ref 63]) (hp' := hp) rfl ?_
  refine Y_callE hk rfl (as := [.ref 63]) (rest := []) rfl rfl (Nat.le_of_ble_eq_true rfl) (rcv0 hM) (Nat.le_of_ble_eq_true rfl) (c_X9_tellsCost (v := v) hM hS hz h0 h1 hA (hd := by omega)) (fun z1 H2 r3 => ?_)
  obtain ⟨c_H2, e_H2, q_H2, ⟨u70_H2, x70_H2⟩, f_H2⟩ := r3
  exact E_ret hk rfl rfl ⟨z1, rfl, c_H2, e_H2, q_H2, ⟨_, x70_H2⟩, f_H2⟩
theorem c_X9_costWithShift {d : Nat} {hp : xH} {v : Nat → Int} (hM : xat hp 63 = some (yMo v)) {S : Int → Int} (hS : xat hp 64 = some (yI 47 S)) (hz : 0 ≤ S 0 ∧ S 0 ≤ 20 ∧ 0 ≤ S 1 ∧ S 1 ≤ 20 ∧ 0 ≤ S 2 ∧ S 2 ≤ 20 ∧ 0 ≤ S 3 ∧ S 3 ≤ 50 ∧ 0 ≤ S 4 ∧ S 4 ≤ 3) (h0 : ∀ q, 0 ≤ q → q < S 0 → 0 ≤ S (7 + q) ∧ S (7 + q) ≤ 60) (h1 : ∀ q, 0 ≤ q → q < S 1 → 0 ≤ S (27 + q) ∧ S (27 + q) ≤ 60) {f : Int → Int} (hA : xat hp 70 = some (yI 400 f)) {b : Int} (ht : -2147483648 ≤ b ∧ b ≤ 2147483647) (hd : 3 ≤ d) : Cv d 241 [.ref 63, yi b] hp (yE (fun z h => ∃ c, xat h 63 = some (yMo (vup v 0 c)) ∧ ((c = 0 ∧ (-12 ≤ b ∧ b ≤ 12 ∧ 0 < S 0 ∧ 0 < S 1 ∧ -S 2 ≤ S 0 - S 1 ∧ S 0 - S 1 ≤ S 2) ∧ z = cst S b (S 2)) ∨ (c = 1 ∧ (¬ (-12 ≤ b ∧ b ≤ 12))) ∨ (c = 2 ∧ (-12 ≤ b ∧ b ≤ 12 ∧ ¬ (0 < S 0 ∧ 0 < S 1 ∧ -S 2 ≤ S 0 - S 1 ∧ S 0 - S 1 ≤ S 2)))) ∧ (∃ u, xat h 70 = some (yI 400 u)) ∧ yfr [63, 70] hp h)) := by
  have hk : xtab 241 = (xc_241, 2, 1, []) := rfl
  obtain ⟨d, rfl⟩ : ∃ e, d = e + 1 := ⟨d - 1, by omega⟩
  show Ev (d + 1) 241 0 [(0, .ref 63), (1, yi b)] [] hp _
  refine E_run hk 2 (j' := 2) (lv' := [(0, .ref 63), (1, yi b)]) (st' := [yi 0, .ref 63]) (hp' := hp) rfl ?_
  refine Y_put hk rfl hM (by decide) (Nat.le_of_ble_eq_true rfl) rfl (fs' := [yi 0, .ref 64, .ref 65, yi (v 3), .ref 66, yi (v 5), .ref 67, yi (v 7), yi (v 8), yi (v 9), .ref 68, yi (v 11), .ref 69, yi (v 13), .ref 70, .ref 71, .ref 72, .ref 73, .ref 74, .ref 75, yi (v 20), yi (v 21)]) rfl (fun H1 e2 f3 => ?_)
  refine E_run hk 3 (j' := 6) (lv' := [(0, .ref 63), (1, yi b)]) (st' := [yi 12, yi (-12), yi b]) (hp' := H1) rfl ?_
  refine Y_callP hk rfl (as := [yi b, yi (-12), yi 12]) (rest := []) (v := some (yi (b2 ((-12) ≤ b ∧ b ≤ 12)))) rfl rfl (Nat.le_of_ble_eq_true rfl) rfl (Nat.le_of_ble_eq_true rfl) (c_X9_in (v := b) (l := (-12)) (m := 12) (by omega)) ?_
  refine Y_b_ne hk rfl (fun g4 => ?_) (fun g4 => ?_)
  ·
    refine E_run hk 1 (j' := 13) (lv' := [(0, .ref 63), (1, yi b)]) (st' := [.ref 63]) (hp' := H1) rfl ?_
    refine Y_callP hk rfl (as := [.ref 63]) (rest := []) (v := some (yi (b2 (0 < S 0 ∧ 0 < S 1 ∧ -S 2 ≤ S 0 - S 1 ∧ S 0 - S 1 ≤ S 2)))) rfl rfl (Nat.le_of_ble_eq_true rfl) (rcv0 e2) (Nat.le_of_ble_eq_true rfl) (c_X9_matches (v := (vup v 0 0)) e2 (f3.at (by decide) hS) (by omega) (by omega) (hd := by omega)) ?_
    refine Y_b_eq hk rfl (fun g5 => ?_) (fun g5 => ?_)
    ·
      refine E_run hk 2 (j' := 25) (lv' := [(0, .ref 63), (1, yi b)]) (st' := [yi 2, .ref 63]) (hp' := H1) rfl ?_
      refine Y_call hk rfl (as := [.ref 63, yi 2]) (rest := []) (v := some (yi 0)) rfl rfl (Nat.le_of_ble_eq_true rfl) (rcv0 e2) (Nat.le_of_ble_eq_true rfl) (c_X9_fails (c := 2) (v := (vup v 0 0)) e2) (fun H6 r7 => ?_)
      obtain ⟨e_H6, f_H6⟩ := r7
      exact E_ret hk rfl rfl ⟨0, rfl, 2, e_H6, Or.inr (Or.inr (⟨rfl, by first | trivial | omega⟩)), ⟨_, (f_H6.at (by decide) (f3.at (by decide) hA))⟩, (yfr.tr (f3.mono (by decide)) f_H6 (fun _ h => h) (by decide))⟩
    ·
      refine E_run hk 3 (j' := 18) (lv' := [(0, .ref 63), (1, yi b)]) (st' := [.ref 63, yi b, .ref 63]) (hp' := H1) rfl ?_
      refine E_get (v := .ref 64) hk rfl e2 rfl ?_
      refine E_run hk 1 (j' := 20) (lv' := [(0, .ref 63), (1, yi b)]) (st' := [yi 2, .ref 64, yi b, .ref 63]) (hp' := H1) rfl ?_
      refine Y_iald (a := 2) (by omega) (by decide) hk rfl (f3.at (by decide) hS) ?_
      refine Y_call hk rfl (as := [.ref 63, yi b, yi (S 2)]) (rest := []) (v := some (yi (cst S b (S 2)))) rfl rfl (Nat.le_of_ble_eq_true rfl) (rcv0 e2) (Nat.le_of_ble_eq_true rfl) (c_X9_tellsAhead (b := b) (u := (S 2)) (v := (vup v 0 0)) e2 (f3.at (by decide) hS) hz h0 h1 (f3.at (by decide) hA) (by omega) (by omega) (hd := by omega)) (fun H8 r9 => ?_)
      obtain ⟨A_H8, e_H8, a_H8, f_H8⟩ := r9
      refine E_run hk 1 (j' := 26) (lv' := [(0, .ref 63), (1, yi b)]) (st' := [yi (cst S b (S 2))]) (hp' := H8) rfl ?_
      exact E_ret hk rfl rfl ⟨(cst S b (S 2)), rfl, 0, (f_H8.at (by decide) e2), Or.inl ⟨rfl, by first | trivial | omega, by first | rfl | assumption | omega⟩, ⟨_, e_H8⟩, (yfr.tr (f3.mono (by decide)) f_H8 (fun _ h => h) (by decide))⟩
  ·
    refine E_run hk 2 (j' := 10) (lv' := [(0, .ref 63), (1, yi b)]) (st' := [yi 1, .ref 63]) (hp' := H1) rfl ?_
    refine Y_call hk rfl (as := [.ref 63, yi 1]) (rest := []) (v := some (yi 0)) rfl rfl (Nat.le_of_ble_eq_true rfl) (rcv0 e2) (Nat.le_of_ble_eq_true rfl) (c_X9_fails (c := 1) (v := (vup v 0 0)) e2) (fun H10 r11 => ?_)
    obtain ⟨e_H10, f_H10⟩ := r11
    exact E_ret hk rfl rfl ⟨0, rfl, 1, e_H10, Or.inr (Or.inl ⟨rfl, by first | trivial | omega⟩), ⟨_, (f_H10.at (by decide) (f3.at (by decide) hA))⟩, (yfr.tr (f3.mono (by decide)) f_H10 (fun _ h => h) (by decide))⟩
theorem c_X9_bestShift {d : Nat} {hp : xH} {v : Nat → Int} (hM : xat hp 63 = some (yMo v)) {S : Int → Int} (hS : xat hp 64 = some (yI 47 S)) (hz : 0 ≤ S 0 ∧ S 0 ≤ 20 ∧ 0 ≤ S 1 ∧ S 1 ≤ 20 ∧ 0 ≤ S 2 ∧ S 2 ≤ 20 ∧ 0 ≤ S 3 ∧ S 3 ≤ 50 ∧ 0 ≤ S 4 ∧ S 4 ≤ 3) (h0 : ∀ q, 0 ≤ q → q < S 0 → 0 ≤ S (7 + q) ∧ S (7 + q) ≤ 60) (h1 : ∀ q, 0 ≤ q → q < S 1 → 0 ≤ S (27 + q) ∧ S (27 + q) ≤ 60) {f : Int → Int} (hA : xat hp 70 = some (yI 400 f)) (hd : 4 ≤ d) : Cv d 242 [.ref 63] hp (yE (fun z h => ∃ c, xat h 63 = some (yMo (vup v 0 c)) ∧ ((c = 0 ∧ (0 < S 0 ∧ 0 < S 1 ∧ -S 2 ≤ S 0 - S 1 ∧ S 0 - S 1 ≤ S 2) ∧ z = (shb (fun x => cst S x (S 2)) 12).1) ∨ (c = 1 ∧ (¬ (0 < S 0 ∧ 0 < S 1 ∧ -S 2 ≤ S 0 - S 1 ∧ S 0 - S 1 ≤ S 2)))) ∧ (∃ u, xat h 70 = some (yI 400 u)) ∧ yfr [63, 70] hp h)) := by
  have hk : xtab 242 = (xc_242, 1, 1, []) := rfl
  obtain ⟨d, rfl⟩ : ∃ e, d = e + 1 := ⟨d - 1, by omega⟩
  show Ev (d + 1) 242 0 [(0, .ref 63)] [] hp _
  refine E_run hk 2 (j' := 2) (lv' := [(0, .ref 63)]) (st' := [yi 0, .ref 63]) (hp' := hp) rfl ?_
  refine Y_put hk rfl hM (by decide) (Nat.le_of_ble_eq_true rfl) rfl (fs' := [yi 0, .ref 64, .ref 65, yi (v 3), .ref 66, yi (v 5), .ref 67, yi (v 7), yi (v 8), yi (v 9), .ref 68, yi (v 11), .ref 69, yi (v 13), .ref 70, .ref 71, .ref 72, .ref 73, .ref 74, .ref 75, yi (v 20), yi (v 21)]) rfl (fun H1 e2 f3 => ?_)
  refine E_run hk 1 (j' := 4) (lv' := [(0, .ref 63)]) (st' := [.ref 63]) (hp' := H1) rfl ?_
  refine Y_callP hk rfl (as := [.ref 63]) (rest := []) (v := some (yi (b2 (0 < S 0 ∧ 0 < S 1 ∧ -S 2 ≤ S 0 - S 1 ∧ S 0 - S 1 ≤ S 2)))) rfl rfl (Nat.le_of_ble_eq_true rfl) (rcv0 e2) (Nat.le_of_ble_eq_true rfl) (c_X9_matches (v := (vup v 0 0)) e2 (f3.at (by decide) hS) (by omega) (by omega) (hd := by omega)) ?_
  refine Y_b_eq hk rfl (fun g4 => ?_) (fun g4 => ?_)
  ·
    refine E_run hk 2 (j' := 11) (lv' := [(0, .ref 63)]) (st' := [yi 1, .ref 63]) (hp' := H1) rfl ?_
    refine Y_call hk rfl (as := [.ref 63, yi 1]) (rest := []) (v := some (yi 0)) rfl rfl (Nat.le_of_ble_eq_true rfl) (rcv0 e2) (Nat.le_of_ble_eq_true rfl) (c_X9_fails (c := 1) (v := (vup v 0 0)) e2) (fun H5 r6 => ?_)
    obtain ⟨e_H5, f_H5⟩ := r6
    exact E_ret hk rfl rfl ⟨0, rfl, 1, e_H5, Or.inr (⟨rfl, by first | trivial | omega⟩), ⟨_, (f_H5.at (by decide) (f3.at (by decide) hA))⟩, (yfr.tr (f3.mono (by decide)) f_H5 (fun _ h => h) (by decide))⟩
  ·
    refine E_run hk 1 (j' := 7) (lv' := [(0, .ref 63)]) (st' := [.ref 63]) (hp' := H1) rfl ?_
    refine Y_call hk rfl (as := [.ref 63]) (rest := []) (v := some (yi ((shb (fun x => cst S x (S 2)) 12).1))) rfl rfl (Nat.le_of_ble_eq_true rfl) (rcv0 e2) (Nat.le_of_ble_eq_true rfl) (c_X9_shiftBest (v := (vup v 0 0)) e2 (f3.at (by decide) hS) hz h0 h1 (f3.at (by decide) hA) (hd := by omega)) (fun H7 r8 => ?_)
    obtain ⟨A_H7, e_H7, f_H7⟩ := r8
    refine E_run hk 1 (j' := 12) (lv' := [(0, .ref 63)]) (st' := [yi ((shb (fun x => cst S x (S 2)) 12).1)]) (hp' := H7) rfl ?_
    exact E_ret hk rfl rfl ⟨((shb (fun x => cst S x (S 2)) 12).1), rfl, 0, (f_H7.at (by decide) e2), Or.inl ⟨rfl, by first | trivial | omega, by first | rfl | assumption | omega⟩, ⟨_, e_H7⟩, (yfr.tr (f3.mono (by decide)) f_H7 (fun _ h => h) (by decide))⟩
theorem c_X9_costWithBound {d : Nat} {hp : xH} {v : Nat → Int} (hM : xat hp 63 = some (yMo v)) {S : Int → Int} (hS : xat hp 64 = some (yI 47 S)) (hz : 0 ≤ S 0 ∧ S 0 ≤ 20 ∧ 0 ≤ S 1 ∧ S 1 ≤ 20 ∧ 0 ≤ S 2 ∧ S 2 ≤ 20 ∧ 0 ≤ S 3 ∧ S 3 ≤ 50 ∧ 0 ≤ S 4 ∧ S 4 ≤ 3) (h0 : ∀ q, 0 ≤ q → q < S 0 → 0 ≤ S (7 + q) ∧ S (7 + q) ≤ 60) (h1 : ∀ q, 0 ≤ q → q < S 1 → 0 ≤ S (27 + q) ∧ S (27 + q) ≤ 60) {f : Int → Int} (hA : xat hp 70 = some (yI 400 f)) {n : Int} (ht : -2147483648 ≤ n ∧ n ≤ 2147483647) (hd : 3 ≤ d) : Cv d 243 [.ref 63, yi n] hp (yE (fun z h => ∃ c, xat h 63 = some (yMo (vup v 0 c)) ∧ ((c = 0 ∧ (0 ≤ n ∧ n ≤ 20) ∧ z = (if cst S 0 n < 100000000 then cst S 0 n else -1)) ∨ (c = 1 ∧ (¬ (0 ≤ n ∧ n ≤ 20)))) ∧ (∃ u, xat h 70 = some (yI 400 u)) ∧ yfr [63, 70] hp h)) := by
  have hk : xtab 243 = (xc_243, 3, 1, []) := rfl
  obtain ⟨d, rfl⟩ : ∃ e, d = e + 1 := ⟨d - 1, by omega⟩
  have w0 := cst_rng (b := 0) (u := n) hz h0 h1 (by omega)
  show Ev (d + 1) 243 0 [(0, .ref 63), (1, yi n)] [] hp _
  refine E_run hk 2 (j' := 2) (lv' := [(0, .ref 63), (1, yi n)]) (st' := [yi 0, .ref 63]) (hp' := hp) rfl ?_
  refine Y_put hk rfl hM (by decide) (Nat.le_of_ble_eq_true rfl) rfl (fs' := [yi 0, .ref 64, .ref 65, yi (v 3), .ref 66, yi (v 5), .ref 67, yi (v 7), yi (v 8), yi (v 9), .ref 68, yi (v 11), .ref 69, yi (v 13), .ref 70, .ref 71, .ref 72, .ref 73, .ref 74, .ref 75, yi (v 20), yi (v 21)]) rfl (fun H1 e2 f3 => ?_)
  refine E_run hk 3 (j' := 6) (lv' := [(0, .ref 63), (1, yi n)]) (st' := [yi 20, yi 0, yi n]) (hp' := H1) rfl ?_
  refine Y_callP hk rfl (as := [yi n, yi 0, yi 20]) (rest := []) (v := some (yi (b2 (0 ≤ n ∧ n ≤ 20)))) rfl rfl (Nat.le_of_ble_eq_true rfl) rfl (Nat.le_of_ble_eq_true rfl) (c_X9_in (v := n) (l := 0) (m := 20) (by omega)) ?_
  refine Y_b_ne hk rfl (fun g4 => ?_) (fun g4 => ?_)
  ·
    refine E_run hk 3 (j' := 15) (lv' := [(0, .ref 63), (1, yi n)]) (st' := [yi n, yi 0, .ref 63]) (hp' := H1) rfl ?_
    refine Y_call hk rfl (as := [.ref 63, yi 0, yi n]) (rest := []) (v := some (yi (cst S 0 n))) rfl rfl (Nat.le_of_ble_eq_true rfl) (rcv0 e2) (Nat.le_of_ble_eq_true rfl) (c_X9_tellsAhead (b := 0) (u := n) (v := (vup v 0 0)) e2 (f3.at (by decide) hS) hz h0 h1 (f3.at (by decide) hA) (by omega) (by omega) (hd := by omega)) (fun H5 r6 => ?_)
    obtain ⟨A_H5, e_H5, a_H5, f_H5⟩ := r6
    refine E_run hk 3 (j' := 19) (lv' := [(2, yi (cst S 0 n)), (0, .ref 63), (1, yi n)]) (st' := [yi 100000000, yi (cst S 0 n)]) (hp' := H5) rfl ?_
    refine Y_ic_ge (a := (cst S 0 n)) (b := 100000000) (by omega) hk rfl (fun g7 => ?_) (fun g7 => ?_)
    ·
      refine E_run hk 1 (j' := 23) (lv' := [(2, yi (cst S 0 n)), (0, .ref 63), (1, yi n)]) (st' := [yi (-1)]) (hp' := H5) rfl ?_
      exact E_ret hk rfl rfl ⟨(-1), rfl, 0, (f_H5.at (by decide) e2), Or.inl ⟨rfl, by first | trivial | omega, by first | exact (if_pos (by omega)).symm | exact (if_neg (by omega)).symm⟩, ⟨_, e_H5⟩, (yfr.tr (f3.mono (by decide)) f_H5 (fun _ h => h) (by decide))⟩
    ·
      refine E_run hk 2 (j' := 23) (lv' := [(2, yi (cst S 0 n)), (0, .ref 63), (1, yi n)]) (st' := [yi (cst S 0 n)]) (hp' := H5) rfl ?_
      exact E_ret hk rfl rfl ⟨(cst S 0 n), rfl, 0, (f_H5.at (by decide) e2), Or.inl ⟨rfl, by first | trivial | omega, by first | exact (if_pos (by omega)).symm | exact (if_neg (by omega)).symm⟩, ⟨_, e_H5⟩, (yfr.tr (f3.mono (by decide)) f_H5 (fun _ h => h) (by decide))⟩
  ·
    refine E_run hk 2 (j' := 10) (lv' := [(0, .ref 63), (1, yi n)]) (st' := [yi 1, .ref 63]) (hp' := H1) rfl ?_
    refine Y_call hk rfl (as := [.ref 63, yi 1]) (rest := []) (v := some (yi 0)) rfl rfl (Nat.le_of_ble_eq_true rfl) (rcv0 e2) (Nat.le_of_ble_eq_true rfl) (c_X9_fails (c := 1) (v := (vup v 0 0)) e2) (fun H8 r9 => ?_)
    obtain ⟨e_H8, f_H8⟩ := r9
    exact E_ret hk rfl rfl ⟨0, rfl, 1, e_H8, Or.inr (⟨rfl, by first | trivial | omega⟩), ⟨_, (f_H8.at (by decide) (f3.at (by decide) hA))⟩, (yfr.tr (f3.mono (by decide)) f_H8 (fun _ h => h) (by decide))⟩
theorem c_X9_bestMatches {d : Nat} {hp : xH} {v : Nat → Int} (hM : xat hp 63 = some (yMo v)) {S : Int → Int} (hS : xat hp 64 = some (yI 47 S)) (hz : 0 ≤ S 0 ∧ S 0 ≤ 20 ∧ 0 ≤ S 1 ∧ S 1 ≤ 20 ∧ 0 ≤ S 2 ∧ S 2 ≤ 20 ∧ 0 ≤ S 3 ∧ S 3 ≤ 50 ∧ 0 ≤ S 4 ∧ S 4 ≤ 3) (h0 : ∀ q, 0 ≤ q → q < S 0 → 0 ≤ S (7 + q) ∧ S (7 + q) ≤ 60) (h1 : ∀ q, 0 ≤ q → q < S 1 → 0 ≤ S (27 + q) ∧ S (27 + q) ≤ 60) {f W : Int → Int} (hA : xat hp 71 = some (yI 400 f)) (hW : xat hp 72 = some (yI 400 W)) (hd : 5 ≤ d) : Cv d 237 [.ref 63] hp (yE (fun z h => ∃ c, xat h 63 = some (yMo (vup v 0 c)) ∧ ((c = 0 ∧ (True) ∧ z = (if 0 < S 0 ∧ 0 < S 1 ∧ -S 2 ≤ S 0 - S 1 ∧ S 0 - S 1 ≤ S 2 then wy (unl S 0) (S 3) (S 2) (S 0) (S 1) 0 0 else 0))) ∧ (∃ u, xat h 71 = some (yI 400 u)) ∧ (∃ u, xat h 72 = some (yI 400 u)) ∧ yfr [63, 71, 72] hp h)) := by
  have hk : xtab 237 = (xc_237, 1, 1, []) := rfl
  obtain ⟨d, rfl⟩ : ∃ e, d = e + 1 := ⟨d - 1, by omega⟩
  show Ev (d + 1) 237 0 [(0, .ref 63)] [] hp _
  refine E_run hk 2 (j' := 2) (lv' := [(0, .ref 63)]) (st' := [yi 0, .ref 63]) (hp' := hp) rfl ?_
  refine Y_put hk rfl hM (by decide) (Nat.le_of_ble_eq_true rfl) rfl (fs' := [yi 0, .ref 64, .ref 65, yi (v 3), .ref 66, yi (v 5), .ref 67, yi (v 7), yi (v 8), yi (v 9), .ref 68, yi (v 11), .ref 69, yi (v 13), .ref 70, .ref 71, .ref 72, .ref 73, .ref 74, .ref 75, yi (v 20), yi (v 21)]) rfl (fun H1 e2 f3 => ?_)
  refine E_run hk 1 (j' := 4) (lv' := [(0, .ref 63)]) (st' := [.ref 63]) (hp' := H1) rfl ?_
  refine Y_call hk rfl (as := [.ref 63]) (rest := []) (v := some (yi (if 0 < S 0 ∧ 0 < S 1 ∧ -S 2 ≤ S 0 - S 1 ∧ S 0 - S 1 ≤ S 2 then wy (unl S 0) (S 3) (S 2) (S 0) (S 1) 0 0 else 0))) rfl rfl (Nat.le_of_ble_eq_true rfl) (rcv0 e2) (Nat.le_of_ble_eq_true rfl) (c_X9_waysMany (v := (vup v 0 0)) e2 (f3.at (by decide) hS) hz h0 h1 (f3.at (by decide) hA) (f3.at (by decide) hW) (hd := by omega)) (fun H4 r5 => ?_)
  obtain ⟨A_H4, W_H4, e_H4, w_H4, f_H4⟩ := r5
  exact E_ret hk rfl rfl ⟨(if 0 < S 0 ∧ 0 < S 1 ∧ -S 2 ≤ S 0 - S 1 ∧ S 0 - S 1 ≤ S 2 then wy (unl S 0) (S 3) (S 2) (S 0) (S 1) 0 0 else 0), rfl, 0, (f_H4.at (by decide) e2), ⟨rfl, by first | trivial | omega, by first | rfl | assumption | omega⟩, ⟨_, e_H4⟩, ⟨_, w_H4⟩, (yfr.tr (f3.mono (by decide)) f_H4 (fun _ h => h) (by decide))⟩
