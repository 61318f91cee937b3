theorem mtc_pos {S p q : Int → Int} {c : Int} (h : mtc S c p q) (hc : ¬ c = 0) : mat S ∧ ∃ p q, mtc S c p q := by
  rcases id h with ⟨-, e⟩ | e
  · exact absurd e hc
  · exact ⟨e.1, _, _, h⟩
theorem mtc_zero {S p q : Int → Int} {c : Int} (h : mtc S c p q) (hc : c = 0) : ¬ mat S := by
  rcases h with ⟨e, -⟩ | ⟨-, e, -⟩
  · exact e
  · exact absurd e (by omega)
theorem c_X9_partCost {d : Nat} {hp : xH} {v : Nat → Int} (hM : xat hp 63 = some (yMo v)) {S : Int → Int} (hS : xat hp 64 = some (yI 47 S)) (hz : 0 ≤ S 0 ∧ S 0 ≤ 20 ∧ 0 ≤ S 1 ∧ S 1 ≤ 20 ∧ 0 ≤ S 2 ∧ S 2 ≤ 20 ∧ 0 ≤ S 3 ∧ S 3 ≤ 50 ∧ 0 ≤ S 4 ∧ S 4 ≤ 3) (h0 : ∀ q, 0 ≤ q → q < S 0 → 0 ≤ S (7 + q) ∧ S (7 + q) ≤ 60) (h1 : ∀ q, 0 ≤ q → q < S 1 → 0 ≤ S (27 + q) ∧ S (27 + q) ≤ 60) {f g : Int → Int} (hA : xat hp 70 = some (yI 400 f)) (hB : xat hp 73 = some (yI 400 g)) (hd : 3 ≤ d) : Cv d 238 [.ref 63] hp (yE (fun z h => ∃ c, ∃ x21, xat h 63 = some (yMo (vup (vup v 0 c) 21 x21)) ∧ ((c = 0 ∧ (¬ (S 0 = 0 ∨ S 1 = 0)) ∧ z = pc (unl S 0) (S 3) (S 0 - 1) (pend S)) ∨ (c = 1 ∧ (S 0 = 0 ∨ S 1 = 0))) ∧ (∃ u, xat h 70 = some (yI 400 u)) ∧ (∃ u, xat h 73 = some (yI 400 u)) ∧ yfr [63, 70, 73] hp h)) := by
  have hk : xtab 238 = (xc_238, 1, 1, []) := rfl
  obtain ⟨d, rfl⟩ : ∃ e, d = e + 1 := ⟨d - 1, by omega⟩
  show Ev (d + 1) 238 0 [(0, .ref 63)] [] hp _
  refine E_run hk 2 (j' := 2) (lv' := [(0, .ref 63)]) (st' := [yi 0, .ref 63]) (hp' := hp) rfl ?_
  refine Y_put hk rfl hM (by decide) (Nat.le_of_ble_eq_true rfl) rfl (fs' := [yi 0, .ref 64, .ref 65, yi (v 3), .ref 66, yi (v 5), .ref 67, yi (v 7), yi (v 8), yi (v 9), .ref 68, yi (v 11), .ref 69, yi (v 13), .ref 70, .ref 71, .ref 72, .ref 73, .ref 74, .ref 75, yi (v 20), yi (v 21)]) rfl (fun H1 e2 f3 => ?_)
  refine E_run hk 1 (j' := 4) (lv' := [(0, .ref 63)]) (st' := [.ref 63]) (hp' := H1) rfl ?_
  refine Y_callP hk rfl (as := [.ref 63]) (rest := []) (v := some (yi (b2 (S 0 = 0 ∨ S 1 = 0)))) rfl rfl (Nat.le_of_ble_eq_true rfl) (rcv0 e2) (Nat.le_of_ble_eq_true rfl) (c_X9_isBare (v := (vup v 0 0)) e2 (f3.at (by decide) hS) (by omega) (hd := by omega)) ?_
  refine Y_b_eq hk rfl (fun g4 => ?_) (fun g4 => ?_)
  ·
    refine E_run hk 1 (j' := 11) (lv' := [(0, .ref 63)]) (st' := [.ref 63]) (hp' := H1) rfl ?_
    refine Y_call hk rfl (as := [.ref 63]) (rest := []) (v := some (yi (pc (unl S 0) (S 3) (S 0 - 1) (pend S)))) rfl rfl (Nat.le_of_ble_eq_true rfl) (rcv0 e2) (Nat.le_of_ble_eq_true rfl) (c_X9_tellsParts (v := (vup v 0 0)) e2 (f3.at (by decide) hS) hz h0 h1 (by omega) (f3.at (by decide) hA) (f3.at (by decide) hB) (hd := by omega)) (fun H5 r6 => ?_)
    obtain ⟨A_H5, B_H5, e_H5, a_H5, b_H5, m_H5, f_H5⟩ := r6
    exact E_ret hk rfl rfl ⟨(pc (unl S 0) (S 3) (S 0 - 1) (pend S)), rfl, 0, (pend S), e_H5, Or.inl ⟨rfl, by first | trivial | omega, by first | rfl | assumption | omega⟩, ⟨_, a_H5⟩, ⟨_, b_H5⟩, (yfr.tr (f3.mono (by decide)) f_H5 (fun _ h => h) (by decide))⟩
  ·
    refine E_run hk 2 (j' := 8) (lv' := [(0, .ref 63)]) (st' := [yi 1, .ref 63]) (hp' := H1) rfl ?_
    refine Y_call hk rfl (as := [.ref 63, yi 1]) (rest := []) (v := some (yi 0)) rfl rfl (Nat.le_of_ble_eq_true rfl) (rcv0 e2) (Nat.le_of_ble_eq_true rfl) (c_X9_fails (c := 1) (v := (vup v 0 0)) e2) (fun H7 r8 => ?_)
    obtain ⟨e_H7, f_H7⟩ := r8
    refine E_run hk 1 (j' := 12) (lv' := [(0, .ref 63)]) (st' := [yi 0]) (hp' := H7) rfl ?_
    exact E_ret hk rfl rfl ⟨0, rfl, 1, (v 21), e_H7, Or.inr (⟨rfl, by first | trivial | omega⟩), ⟨_, (f_H7.at (by decide) (f3.at (by decide) hA))⟩, ⟨_, (f_H7.at (by decide) (f3.at (by decide) hB))⟩, (yfr.tr (f3.mono (by decide)) f_H7 (fun _ h => h) (by decide))⟩
theorem c_X9_partBegin {d : Nat} {hp : xH} {v : Nat → Int} (hM : xat hp 63 = some (yMo v)) {S : Int → Int} (hS : xat hp 64 = some (yI 47 S)) (hz : 0 ≤ S 0 ∧ S 0 ≤ 20 ∧ 0 ≤ S 1 ∧ S 1 ≤ 20 ∧ 0 ≤ S 2 ∧ S 2 ≤ 20 ∧ 0 ≤ S 3 ∧ S 3 ≤ 50 ∧ 0 ≤ S 4 ∧ S 4 ≤ 3) (h0 : ∀ q, 0 ≤ q → q < S 0 → 0 ≤ S (7 + q) ∧ S (7 + q) ≤ 60) (h1 : ∀ q, 0 ≤ q → q < S 1 → 0 ≤ S (27 + q) ∧ S (27 + q) ≤ 60) {f g : Int → Int} (hA : xat hp 70 = some (yI 400 f)) (hB : xat hp 73 = some (yI 400 g)) (hd : 4 ≤ d) : Cv d 239 [.ref 63] hp (yE (fun z h => ∃ c, ∃ x21, xat h 63 = some (yMo (vup (vup v 0 c) 21 x21)) ∧ ((c = 0 ∧ (¬ (S 0 = 0 ∨ S 1 = 0)) ∧ z = pb (unl S 0) (S 3) (S 0 - 1) (pend S)) ∨ (c = 1 ∧ (S 0 = 0 ∨ S 1 = 0))) ∧ (∃ u, xat h 70 = some (yI 400 u)) ∧ (∃ u, xat h 73 = some (yI 400 u)) ∧ yfr [63, 70, 73] hp h)) := by
  have hk : xtab 239 = (xc_239, 1, 1, []) := rfl
  obtain ⟨d, rfl⟩ : ∃ e, d = e + 1 := ⟨d - 1, by omega⟩
  show Ev (d + 1) 239 0 [(0, .ref 63)] [] hp _
  refine E_run hk 2 (j' := 2) (lv' := [(0, .ref 63)]) (st' := [yi 0, .ref 63]) (hp' := hp) rfl ?_
  refine Y_put hk rfl hM (by decide) (Nat.le_of_ble_eq_true rfl) rfl (fs' := [yi 0, .ref 64, .ref 65, yi (v 3), .ref 66, yi (v 5), .ref 67, yi (v 7), yi (v 8), yi (v 9), .ref 68, yi (v 11), .ref 69, yi (v 13), .ref 70, .ref 71, .ref 72, .ref 73, .ref 74, .ref 75, yi (v 20), yi (v 21)]) rfl (fun H1 e2 f3 => ?_)
  refine E_run hk 1 (j' := 4) (lv' := [(0, .ref 63)]) (st' := [.ref 63]) (hp' := H1) rfl ?_
  refine Y_callP hk rfl (as := [.ref 63]) (rest := []) (v := some (yi (b2 (S 0 = 0 ∨ S 1 = 0)))) rfl rfl (Nat.le_of_ble_eq_true rfl) (rcv0 e2) (Nat.le_of_ble_eq_true rfl) (c_X9_isBare (v := (vup v 0 0)) e2 (f3.at (by decide) hS) (by omega) (hd := by omega)) ?_
  refine Y_b_eq hk rfl (fun g4 => ?_) (fun g4 => ?_)
  ·
    refine E_run hk 1 (j' := 11) (lv' := [(0, .ref 63)]) (st' := [.ref 63]) (hp' := H1) rfl ?_
    refine Y_call hk rfl (as := [.ref 63]) (rest := []) (v := some (yi (pb (unl S 0) (S 3) (S 0 - 1) (pend S)))) rfl rfl (Nat.le_of_ble_eq_true rfl) (rcv0 e2) (Nat.le_of_ble_eq_true rfl) (c_X9_partBegins (v := (vup v 0 0)) e2 (f3.at (by decide) hS) hz h0 h1 (by omega) (f3.at (by decide) hA) (f3.at (by decide) hB) (hd := by omega)) (fun H5 r6 => ?_)
    obtain ⟨A_H5, B_H5, e_H5, a_H5, b_H5, f_H5⟩ := r6
    exact E_ret hk rfl rfl ⟨(pb (unl S 0) (S 3) (S 0 - 1) (pend S)), rfl, 0, (pend S), e_H5, Or.inl ⟨rfl, by first | trivial | omega, by first | rfl | assumption | omega⟩, ⟨_, a_H5⟩, ⟨_, b_H5⟩, (yfr.tr (f3.mono (by decide)) f_H5 (fun _ h => h) (by decide))⟩
  ·
    refine E_run hk 2 (j' := 8) (lv' := [(0, .ref 63)]) (st' := [yi 1, .ref 63]) (hp' := H1) rfl ?_
    refine Y_call hk rfl (as := [.ref 63, yi 1]) (rest := []) (v := some (yi 0)) rfl rfl (Nat.le_of_ble_eq_true rfl) (rcv0 e2) (Nat.le_of_ble_eq_true rfl) (c_X9_fails (c := 1) (v := (vup v 0 0)) e2) (fun H7 r8 => ?_)
    obtain ⟨e_H7, f_H7⟩ := r8
    refine E_run hk 1 (j' := 12) (lv' := [(0, .ref 63)]) (st' := [yi 0]) (hp' := H7) rfl ?_
    exact E_ret hk rfl rfl ⟨0, rfl, 1, (v 21), e_H7, Or.inr (⟨rfl, by first | trivial | omega⟩), ⟨_, (f_H7.at (by decide) (f3.at (by decide) hA))⟩, ⟨_, (f_H7.at (by decide) (f3.at (by decide) hB))⟩, (yfr.tr (f3.mono (by decide)) f_H7 (fun _ h => h) (by decide))⟩
theorem c_X9_partEnd {d : Nat} {hp : xH} {v : Nat → Int} (hM : xat hp 63 = some (yMo v)) {S : Int → Int} (hS : xat hp 64 = some (yI 47 S)) (hz : 0 ≤ S 0 ∧ S 0 ≤ 20 ∧ 0 ≤ S 1 ∧ S 1 ≤ 20 ∧ 0 ≤ S 2 ∧ S 2 ≤ 20 ∧ 0 ≤ S 3 ∧ S 3 ≤ 50 ∧ 0 ≤ S 4 ∧ S 4 ≤ 3) (h0 : ∀ q, 0 ≤ q → q < S 0 → 0 ≤ S (7 + q) ∧ S (7 + q) ≤ 60) (h1 : ∀ q, 0 ≤ q → q < S 1 → 0 ≤ S (27 + q) ∧ S (27 + q) ≤ 60) {f g : Int → Int} (hA : xat hp 70 = some (yI 400 f)) (hB : xat hp 73 = some (yI 400 g)) (hd : 4 ≤ d) : Cv d 240 [.ref 63] hp (yE (fun z h => ∃ c, ∃ x21, xat h 63 = some (yMo (vup (vup v 0 c) 21 x21)) ∧ ((c = 0 ∧ (¬ (S 0 = 0 ∨ S 1 = 0)) ∧ z = pend S) ∨ (c = 1 ∧ (S 0 = 0 ∨ S 1 = 0))) ∧ (∃ u, xat h 70 = some (yI 400 u)) ∧ (∃ u, xat h 73 = some (yI 400 u)) ∧ yfr [63, 70, 73] hp h)) := by
  have hk : xtab 240 = (xc_240, 1, 1, []) := rfl
  obtain ⟨d, rfl⟩ : ∃ e, d = e + 1 := ⟨d - 1, by omega⟩
  show Ev (d + 1) 240 0 [(0, .ref 63)] [] hp _
  refine E_run hk 2 (j' := 2) (lv' := [(0, .ref 63)]) (st' := [yi 0, .ref 63]) (hp' := hp) rfl ?_
  refine Y_put hk rfl hM (by decide) (Nat.le_of_ble_eq_true rfl) rfl (fs' := [yi 0, .ref 64, .ref 65, yi (v 3), .ref 66, yi (v 5), .ref 67, yi (v 7), yi (v 8), yi (v 9), .ref 68, yi (v 11), .ref 69, yi (v 13), .ref 70, .ref 71, .ref 72, .ref 73, .ref 74, .ref 75, yi (v 20), yi (v 21)]) rfl (fun H1 e2 f3 => ?_)
  refine E_run hk 1 (j' := 4) (lv' := [(0, .ref 63)]) (st' := [.ref 63]) (hp' := H1) rfl ?_
  refine Y_callP hk rfl (as := [.ref 63]) (rest := []) (v := some (yi (b2 (S 0 = 0 ∨ S 1 = 0)))) rfl rfl (Nat.le_of_ble_eq_true rfl) (rcv0 e2) (Nat.le_of_ble_eq_true rfl) (c_X9_isBare (v := (vup v 0 0)) e2 (f3.at (by decide) hS) (by omega) (hd := by omega)) ?_
  refine Y_b_eq hk rfl (fun g4 => ?_) (fun g4 => ?_)
  ·
    refine E_run hk 1 (j' := 11) (lv' := [(0, .ref 63)]) (st' := [.ref 63]) (hp' := H1) rfl ?_
    refine Y_call hk rfl (as := [.ref 63]) (rest := []) (v := some (yi (pend S))) rfl rfl (Nat.le_of_ble_eq_true rfl) (rcv0 e2) (Nat.le_of_ble_eq_true rfl) (c_X9_partEndsAt (v := (vup v 0 0)) e2 (f3.at (by decide) hS) hz h0 h1 (by omega) (f3.at (by decide) hA) (f3.at (by decide) hB) (hd := by omega)) (fun H5 r6 => ?_)
    obtain ⟨A_H5, B_H5, e_H5, a_H5, b_H5, f_H5⟩ := r6
    exact E_ret hk rfl rfl ⟨(pend S), rfl, 0, (pend S), e_H5, Or.inl ⟨rfl, by first | trivial | omega, by first | rfl | assumption | omega⟩, ⟨_, a_H5⟩, ⟨_, b_H5⟩, (yfr.tr (f3.mono (by decide)) f_H5 (fun _ h => h) (by decide))⟩
  ·
    refine E_run hk 2 (j' := 8) (lv' := [(0, .ref 63)]) (st' := [yi 1, .ref 63]) (hp' := H1) rfl ?_
    refine Y_call hk rfl (as := [.ref 63, yi 1]) (rest := []) (v := some (yi 0)) rfl rfl (Nat.le_of_ble_eq_true rfl) (rcv0 e2) (Nat.le_of_ble_eq_true rfl) (c_X9_fails (c := 1) (v := (vup v 0 0)) e2) (fun H7 r8 => ?_)
    obtain ⟨e_H7, f_H7⟩ := r8
    refine E_run hk 1 (j' := 12) (lv' := [(0, .ref 63)]) (st' := [yi 0]) (hp' := H7) rfl ?_
    exact E_ret hk rfl rfl ⟨0, rfl, 1, (v 21), e_H7, Or.inr (⟨rfl, by first | trivial | omega⟩), ⟨_, (f_H7.at (by decide) (f3.at (by decide) hA))⟩, ⟨_, (f_H7.at (by decide) (f3.at (by decide) hB))⟩, (yfr.tr (f3.mono (by decide)) f_H7 (fun _ h => h) (by decide))⟩
theorem c_X9_pairs {d : Nat} {hp : xH} {v : Nat → Int} (hM : xat hp 63 = some (yMo v)) {S : Int → Int} (hS : xat hp 64 = some (yI 47 S)) (hz : 0 ≤ S 0 ∧ S 0 ≤ 20 ∧ 0 ≤ S 1 ∧ S 1 ≤ 20 ∧ 0 ≤ S 2 ∧ S 2 ≤ 20 ∧ 0 ≤ S 3 ∧ S 3 ≤ 50 ∧ 0 ≤ S 4 ∧ S 4 ≤ 3) (h0 : ∀ q, 0 ≤ q → q < S 0 → 0 ≤ S (7 + q) ∧ S (7 + q) ≤ 60) (h1 : ∀ q, 0 ≤ q → q < S 1 → 0 ≤ S (27 + q) ∧ S (27 + q) ≤ 60) {f W : Int → Int} (hA : xat hp 71 = some (yI 400 f)) (hW : xat hp 72 = some (yI 400 W)) {p q : Int → Int} (hp1 : xat hp 74 = some (yI 40 p)) (hp2 : xat hp 75 = some (yI 40 q)) (hd : 5 ≤ d) : Cv d 232 [.ref 63] hp (yE (fun z h => ∃ c, ∃ x20, xat h 63 = some (yMo (vup (vup v 0 c) 20 x20)) ∧ ((c = 0 ∧ (mat S ∧ ∃ p q, mtc S z p q) ∧ z = z) ∨ (c = 1 ∧ (¬ mat S))) ∧ (∃ u, xat h 71 = some (yI 400 u)) ∧ (∃ u, xat h 72 = some (yI 400 u)) ∧ (∃ u, xat h 74 = some (yI 40 u)) ∧ (∃ u, xat h 75 = some (yI 40 u)) ∧ yfr [63, 71, 72, 74, 75] hp h)) := by
  have hk : xtab 232 = (xc_232, 1, 1, []) := rfl
  obtain ⟨d, rfl⟩ : ∃ e, d = e + 1 := ⟨d - 1, by omega⟩
  show Ev (d + 1) 232 0 [(0, .ref 63)] [] hp _
  refine E_run hk 2 (j' := 2) (lv' := [(0, .ref 63)]) (st' := [yi 0, .ref 63]) (hp' := hp) rfl ?_
  refine Y_put hk rfl hM (by decide) (Nat.le_of_ble_eq_true rfl) rfl (fs' := [yi 0, .ref 64, .ref 65, yi (v 3), .ref 66, yi (v 5), .ref 67, yi (v 7), yi (v 8), yi (v 9), .ref 68, yi (v 11), .ref 69, yi (v 13), .ref 70, .ref 71, .ref 72, .ref 73, .ref 74, .ref 75, yi (v 20), yi (v 21)]) rfl (fun H1 e2 f3 => ?_)
  refine E_run hk 1 (j' := 4) (lv' := [(0, .ref 63)]) (st' := [.ref 63]) (hp' := H1) rfl ?_
  refine Y_call hk rfl (as := [.ref 63]) (rest := []) (v := none) rfl rfl (Nat.le_of_ble_eq_true rfl) (rcv0 e2) (Nat.le_of_ble_eq_true rfl) (c_X9_tellsMatch (v := (vup v 0 0)) e2 (f3.at (by decide) hS) hz h0 h1 (f3.at (by decide) hA) (f3.at (by decide) hW) (f3.at (by decide) hp1) (f3.at (by decide) hp2) (hd := by omega)) (fun H4 r5 => ?_)
  obtain ⟨c_H4, A_H4, W_H4, P_H4, Q_H4, e_H4, a_H4, w_H4, p_H4, q_H4, m_H4, f_H4⟩ := r5
  obtain ⟨mc1, mc2, -⟩ := mtc_rng m_H4 (by omega)
  refine E_run hk 1 (j' := 6) (lv' := [(0, .ref 63)]) (st' := [.ref 63]) (hp' := H4) rfl ?_
  refine E_get (v := yi c_H4) hk rfl e_H4 rfl ?_
  refine Y_if_ne (a := c_H4) (by omega) hk rfl (fun g6 => ?_) (fun g6 => ?_)
  ·
    refine E_run hk 1 (j' := 13) (lv' := [(0, .ref 63)]) (st' := [.ref 63]) (hp' := H4) rfl ?_
    refine E_get (v := yi c_H4) hk rfl e_H4 rfl ?_
    exact E_ret hk rfl rfl ⟨c_H4, rfl, 0, c_H4, e_H4, Or.inl ⟨rfl, mtc_pos m_H4 (by omega), rfl⟩, ⟨_, a_H4⟩, ⟨_, w_H4⟩, ⟨_, p_H4⟩, ⟨_, q_H4⟩, (yfr.tr (f3.mono (by decide)) f_H4 (fun _ h => h) (by decide))⟩
  ·
    refine E_run hk 2 (j' := 10) (lv' := [(0, .ref 63)]) (st' := [yi 1, .ref 63]) (hp' := H4) rfl ?_
    refine Y_call hk rfl (as := [.ref 63, yi 1]) (rest := []) (v := some (yi 0)) rfl rfl (Nat.le_of_ble_eq_true rfl) (rcv0 e_H4) (Nat.le_of_ble_eq_true rfl) (c_X9_fails (c := 1) (v := (vup (vup v 0 0) 20 c_H4)) e_H4) (fun H7 r8 => ?_)
    obtain ⟨e_H7, f_H7⟩ := r8
    refine E_run hk 1 (j' := 14) (lv' := [(0, .ref 63)]) (st' := [yi 0]) (hp' := H7) rfl ?_
    exact E_ret hk rfl rfl ⟨0, rfl, 1, c_H4, e_H7, Or.inr (⟨rfl, mtc_zero m_H4 (by omega)⟩), ⟨_, (f_H7.at (by decide) a_H4)⟩, ⟨_, (f_H7.at (by decide) w_H4)⟩, ⟨_, (f_H7.at (by decide) p_H4)⟩, ⟨_, (f_H7.at (by decide) q_H4)⟩, (yfr.tr (yfr.tr (f3.mono (by decide)) f_H4 (fun _ h => h) (by decide)) f_H7 (fun _ h => h) (by decide))⟩
theorem c_X9_holds {d : Nat} {hp : xH} {v : Nat → Int} (hM : xat hp 63 = some (yMo v)) {S : Int → Int} (hS : xat hp 64 = some (yI 47 S)) (hz : 0 ≤ S 0 ∧ S 0 ≤ 20 ∧ 0 ≤ S 1 ∧ S 1 ≤ 20 ∧ 0 ≤ S 2 ∧ S 2 ≤ 20 ∧ 0 ≤ S 3 ∧ S 3 ≤ 50 ∧ 0 ≤ S 4 ∧ S 4 ≤ 3) (h0 : ∀ q, 0 ≤ q → q < S 0 → 0 ≤ S (7 + q) ∧ S (7 + q) ≤ 60) (h1 : ∀ q, 0 ≤ q → q < S 1 → 0 ≤ S (27 + q) ∧ S (27 + q) ≤ 60) {f W : Int → Int} (hA : xat hp 71 = some (yI 400 f)) (hW : xat hp 72 = some (yI 400 W)) {p q : Int → Int} (hp1 : xat hp 74 = some (yI 40 p)) (hp2 : xat hp 75 = some (yI 40 q)) (hd : 6 ≤ d) : Cv d 236 [.ref 63] hp (yE (fun z h => ∃ c, ∃ x20, xat h 63 = some (yMo (vup (vup v 0 c) 20 x20)) ∧ ((c = 0 ∧ (∃ k p q, mtc S k p q ∧ z = hld p q (k - 1).toNat))) ∧ (∃ u, xat h 71 = some (yI 400 u)) ∧ (∃ u, xat h 72 = some (yI 400 u)) ∧ (∃ u, xat h 74 = some (yI 40 u)) ∧ (∃ u, xat h 75 = some (yI 40 u)) ∧ yfr [63, 71, 72, 74, 75] hp h)) := by
  have hk : xtab 236 = (xc_236, 1, 1, []) := rfl
  obtain ⟨d, rfl⟩ : ∃ e, d = e + 1 := ⟨d - 1, by omega⟩
  show Ev (d + 1) 236 0 [(0, .ref 63)] [] hp _
  refine E_run hk 2 (j' := 2) (lv' := [(0, .ref 63)]) (st' := [yi 0, .ref 63]) (hp' := hp) rfl ?_
  refine Y_put hk rfl hM (by decide) (Nat.le_of_ble_eq_true rfl) rfl (fs' := [yi 0, .ref 64, .ref 65, yi (v 3), .ref 66, yi (v 5), .ref 67, yi (v 7), yi (v 8), yi (v 9), .ref 68, yi (v 11), .ref 69, yi (v 13), .ref 70, .ref 71, .ref 72, .ref 73, .ref 74, .ref 75, yi (v 20), yi (v 21)]) rfl (fun H1 e2 f3 => ?_)
  refine E_run hk 1 (j' := 4) (lv' := [(0, .ref 63)]) (st' := [.ref 63]) (hp' := H1) rfl ?_
  refine Y_callE hk rfl (as := [.ref 63]) (rest := []) rfl rfl (Nat.le_of_ble_eq_true rfl) (rcv0 e2) (Nat.le_of_ble_eq_true rfl) (c_X9_holdMany (v := (vup v 0 0)) e2 (f3.at (by decide) hS) hz h0 h1 (f3.at (by decide) hA) (f3.at (by decide) hW) (f3.at (by decide) hp1) (f3.at (by decide) hp2) (hd := by omega)) (fun z4 H5 r6 => ?_)
  obtain ⟨c_H5, A_H5, W_H5, P_H5, Q_H5, e_H5, a_H5, w_H5, p_H5, q_H5, m_H5, zh_H5, f_H5⟩ := r6
  exact E_ret hk rfl rfl ⟨z4, rfl, 0, c_H5, e_H5, ⟨rfl, ⟨_, _, _, m_H5, zh_H5⟩⟩, ⟨_, a_H5⟩, ⟨_, w_H5⟩, ⟨_, p_H5⟩, ⟨_, q_H5⟩, (yfr.tr (f3.mono (by decide)) f_H5 (fun _ h => h) (by decide))⟩
