/-! The reference, method by method: what is thrown (c; 0: nothing) and what is answered (z). -/
theorem c_X9_isNote {d : Nat} {hp : xH} {v : Nat → Int} (hM : xat hp 63 = some (yMo v)) {S : Int → Int} (hS : xat hp 64 = some (yI 47 S)) (hl : 0 ≤ S 0 ∧ S 0 ≤ 20 ∧ 0 ≤ S 1 ∧ S 1 ≤ 20) {t k : Int} (ht : -2147483648 ≤ t ∧ t ≤ 2147483647 ∧ -2147483648 ≤ k ∧ k ≤ 2147483647) (hd : 2 ≤ d) : Cv d 151 [.ref 63, yi t, yi k] hp (yP (some (yi (b2 (0 ≤ t ∧ t ≤ 1 ∧ 0 ≤ k ∧ k < S (0 + t))))) hp) := by
  have hk : xtab 151 = (xc_151, 3, 2, []) := rfl
  obtain ⟨d, rfl⟩ : ∃ e, d = e + 1 := ⟨d - 1, by omega⟩
  show Ev (d + 1) 151 0 [(0, .ref 63), (1, yi t), (2, yi k)] [] hp _
  refine E_run hk 1 (j' := 1) (lv' := [(0, .ref 63), (1, yi t), (2, yi k)]) (st' := [yi t]) (hp' := hp) rfl ?_
  refine Y_callP hk rfl (as := [yi t]) (rest := []) (v := some (yi (b2 (0 ≤ t ∧ t ≤ 1)))) rfl rfl (Nat.le_of_ble_eq_true rfl) rfl (Nat.le_of_ble_eq_true rfl) (c_X9_isTune (t := t) (by omega) (hd := by omega)) ?_
  refine Y_b_eq hk rfl (fun g1 => ?_) (fun g1 => ?_)
  ·
    refine E_run hk 1 (j' := 15) (lv' := [(0, .ref 63), (1, yi t), (2, yi k)]) (st' := [yi 0]) (hp' := hp) rfl ?_
    exact E_ret hk rfl rfl (lb0 (by omega))
  ·
    refine E_run hk 2 (j' := 5) (lv' := [(0, .ref 63), (1, yi t), (2, yi k)]) (st' := [yi 0, yi k]) (hp' := hp) rfl ?_
    have w0 : 0 ≤ S (0 + t) ∧ S (0 + t) ≤ 20 := by rcases (by omega : t = 0 ∨ t = 1) with e | e <;> rw [e] <;> first | exact ⟨hl.1, hl.2.1⟩ | exact hl.2.2
    refine E_run hk 2 (j' := 7) (lv' := [(0, .ref 63), (1, yi t), (2, yi k)]) (st' := [yi t, .ref 63, yi 0, yi k]) (hp' := hp) rfl ?_
    refine Y_callP hk rfl (as := [.ref 63, yi t]) (rest := [yi 0, yi k]) (v := some (yi (S (0 + t)))) rfl rfl (Nat.le_of_ble_eq_true rfl) (rcv0 hM) (Nat.le_of_ble_eq_true rfl) (c_X9_many (t := t) (v := v) hM hS (by omega)) ?_
    refine E_run hk 1 (j' := 9) (lv' := [(0, .ref 63), (1, yi t), (2, yi k)]) (st' := [yi 1, yi (S (0 + t)), yi 0, yi k]) (hp' := hp) rfl ?_
    refine Y_isub (a := (S (0 + t))) (b := 1) hk rfl ?_
    refine Y_callP hk rfl (as := [yi k, yi 0, yi ((S (0 + t)) - 1)]) (rest := []) (v := some (yi (b2 (0 ≤ k ∧ k ≤ ((S (0 + t)) - 1))))) rfl rfl (Nat.le_of_ble_eq_true rfl) rfl (Nat.le_of_ble_eq_true rfl) (c_X9_in (v := k) (l := 0) (m := ((S (0 + t)) - 1)) (by omega)) ?_
    refine Y_b_eq hk rfl (fun g2 => ?_) (fun g2 => ?_)
    ·
      refine E_run hk 1 (j' := 15) (lv' := [(0, .ref 63), (1, yi t), (2, yi k)]) (st' := [yi 0]) (hp' := hp) rfl ?_
      exact E_ret hk rfl rfl (lb0 (by omega))
    ·
      refine E_run hk 2 (j' := 15) (lv' := [(0, .ref 63), (1, yi t), (2, yi k)]) (st' := [yi 1]) (hp' := hp) rfl ?_
      exact E_ret hk rfl rfl (lb1 (by omega))
theorem c_X9_savedStates {d : Nat} {hp : xH} {v : Nat → Int} (hM : xat hp 63 = some (yMo v)) : Cv d 217 [.ref 63] hp (yE (fun z h => ∃ c, xat h 63 = some (yMo (vup v 0 c)) ∧ ((c = 0 ∧ (True) ∧ z = v 3)) ∧ yfr [63] hp h)) := by
  have hk : xtab 217 = (xc_217, 1, 1, []) := rfl
  show Ev d 217 0 [(0, .ref 63)] [] hp _
  refine E_run hk 2 (j' := 2) (lv' := [(0, .ref 63)]) (st' := [yi 0, .ref 63]) (hp' := hp) rfl ?_
  refine Y_put hk rfl hM (by decide) (Nat.le_of_ble_eq_true rfl) rfl (fs' := [yi 0, .ref 64, .ref 65, yi (v 3), .ref 66, yi (v 5), .ref 67, yi (v 7), yi (v 8), yi (v 9), .ref 68, yi (v 11), .ref 69, yi (v 13), .ref 70, .ref 71, .ref 72, .ref 73, .ref 74, .ref 75, yi (v 20), yi (v 21)]) rfl (fun H1 e2 f3 => ?_)
  refine E_run hk 1 (j' := 4) (lv' := [(0, .ref 63)]) (st' := [.ref 63]) (hp' := H1) rfl ?_
  refine E_get (v := yi (v 3)) hk rfl e2 rfl ?_
  exact E_ret hk rfl rfl ⟨(v 3), rfl, 0, e2, ⟨rfl, by first | trivial | omega, rfl⟩, f3⟩
theorem c_X9_notes {d : Nat} {hp : xH} {v : Nat → Int} (hM : xat hp 63 = some (yMo v)) {S : Int → Int} (hS : xat hp 64 = some (yI 47 S)) (hl : 0 ≤ S 0 ∧ S 0 ≤ 20 ∧ 0 ≤ S 1 ∧ S 1 ≤ 20) {t : Int} (ht : -2147483648 ≤ t ∧ t ≤ 2147483647) (hd : 2 ≤ d) : Cv d 218 [.ref 63, yi t] hp (yE (fun z h => ∃ c, xat h 63 = some (yMo (vup v 0 c)) ∧ ((c = 0 ∧ (0 ≤ t ∧ t ≤ 1) ∧ z = S (0 + t)) ∨ (c = 1 ∧ (¬ (0 ≤ t ∧ t ≤ 1)))) ∧ yfr [63] hp h)) := by
  have hk : xtab 218 = (xc_218, 2, 1, []) := rfl
  obtain ⟨d, rfl⟩ : ∃ e, d = e + 1 := ⟨d - 1, by omega⟩
  show Ev (d + 1) 218 0 [(0, .ref 63), (1, yi t)] [] hp _
  refine E_run hk 2 (j' := 2) (lv' := [(0, .ref 63), (1, yi t)]) (st' := [yi 0, .ref 63]) (hp' := hp) rfl ?_
  refine Y_put hk rfl hM (by decide) (Nat.le_of_ble_eq_true rfl) rfl (fs' := [yi 0, .ref 64, .ref 65, yi (v 3), .ref 66, yi (v 5), .ref 67, yi (v 7), yi (v 8), yi (v 9), .ref 68, yi (v 11), .ref 69, yi (v 13), .ref 70, .ref 71, .ref 72, .ref 73, .ref 74, .ref 75, yi (v 20), yi (v 21)]) rfl (fun H1 e2 f3 => ?_)
  refine E_run hk 1 (j' := 4) (lv' := [(0, .ref 63), (1, yi t)]) (st' := [yi t]) (hp' := H1) rfl ?_
  refine Y_callP hk rfl (as := [yi t]) (rest := []) (v := some (yi (b2 (0 ≤ t ∧ t ≤ 1)))) rfl rfl (Nat.le_of_ble_eq_true rfl) rfl (Nat.le_of_ble_eq_true rfl) (c_X9_isTune (t := t) (by omega) (hd := by omega)) ?_
  refine Y_b_eq hk rfl (fun g4 => ?_) (fun g4 => ?_)
  ·
    refine E_run hk 2 (j' := 12) (lv' := [(0, .ref 63), (1, yi t)]) (st' := [yi 1, .ref 63]) (hp' := H1) rfl ?_
    refine Y_call hk rfl (as := [.ref 63, yi 1]) (rest := []) (v := some (yi 0)) rfl rfl (Nat.le_of_ble_eq_true rfl) (rcv0 e2) (Nat.le_of_ble_eq_true rfl) (c_X9_fails (c := 1) (v := (vup v 0 0)) e2) (fun H5 r6 => ?_)
    obtain ⟨e_H5, f_H5⟩ := r6
    exact E_ret hk rfl rfl ⟨0, rfl, 1, e_H5, Or.inr (⟨rfl, by first | trivial | omega⟩), (yfr.tr f3 f_H5 (fun _ h => h) (by decide))⟩
  ·
    refine E_run hk 2 (j' := 8) (lv' := [(0, .ref 63), (1, yi t)]) (st' := [yi t, .ref 63]) (hp' := H1) rfl ?_
    refine Y_callP hk rfl (as := [.ref 63, yi t]) (rest := []) (v := some (yi (S (0 + t)))) rfl rfl (Nat.le_of_ble_eq_true rfl) (rcv0 e2) (Nat.le_of_ble_eq_true rfl) (c_X9_many (t := t) (v := (vup v 0 0)) e2 (f3.at (by decide) hS) (by omega)) ?_
    refine E_run hk 1 (j' := 13) (lv' := [(0, .ref 63), (1, yi t)]) (st' := [yi (S (0 + t))]) (hp' := H1) rfl ?_
    exact E_ret hk rfl rfl ⟨(S (0 + t)), rfl, 0, e2, Or.inl ⟨rfl, by first | trivial | omega, rfl⟩, f3⟩
theorem c_X9_pitch {d : Nat} {hp : xH} {v : Nat → Int} (hM : xat hp 63 = some (yMo v)) {S : Int → Int} (hS : xat hp 64 = some (yI 47 S)) (hl : 0 ≤ S 0 ∧ S 0 ≤ 20 ∧ 0 ≤ S 1 ∧ S 1 ≤ 20) {t k : Int} (ht : -2147483648 ≤ t ∧ t ≤ 2147483647 ∧ -2147483648 ≤ k ∧ k ≤ 2147483647) (hd : 3 ≤ d) : Cv d 219 [.ref 63, yi t, yi k] hp (yE (fun z h => ∃ c, xat h 63 = some (yMo (vup v 0 c)) ∧ ((c = 0 ∧ (0 ≤ t ∧ t ≤ 1 ∧ 0 ≤ k ∧ k < S (0 + t)) ∧ z = S (7 + 20 * t + k)) ∨ (c = 1 ∧ (¬ (0 ≤ t ∧ t ≤ 1 ∧ 0 ≤ k ∧ k < S (0 + t))))) ∧ yfr [63] hp h)) := by
  have hk : xtab 219 = (xc_219, 3, 1, []) := rfl
  obtain ⟨d, rfl⟩ : ∃ e, d = e + 1 := ⟨d - 1, by omega⟩
  show Ev (d + 1) 219 0 [(0, .ref 63), (1, yi t), (2, yi k)] [] hp _
  refine E_run hk 2 (j' := 2) (lv' := [(0, .ref 63), (1, yi t), (2, yi k)]) (st' := [yi 0, .ref 63]) (hp' := hp) rfl ?_
  refine Y_put hk rfl hM (by decide) (Nat.le_of_ble_eq_true rfl) rfl (fs' := [yi 0, .ref 64, .ref 65, yi (v 3), .ref 66, yi (v 5), .ref 67, yi (v 7), yi (v 8), yi (v 9), .ref 68, yi (v 11), .ref 69, yi (v 13), .ref 70, .ref 71, .ref 72, .ref 73, .ref 74, .ref 75, yi (v 20), yi (v 21)]) rfl (fun H1 e2 f3 => ?_)
  refine E_run hk 3 (j' := 6) (lv' := [(0, .ref 63), (1, yi t), (2, yi k)]) (st' := [yi k, yi t, .ref 63]) (hp' := H1) rfl ?_
  refine Y_callP hk rfl (as := [.ref 63, yi t, yi k]) (rest := []) (v := some (yi (b2 (0 ≤ t ∧ t ≤ 1 ∧ 0 ≤ k ∧ k < S (0 + t))))) rfl rfl (Nat.le_of_ble_eq_true rfl) (rcv0 e2) (Nat.le_of_ble_eq_true rfl) (c_X9_isNote (t := t) (k := k) (v := (vup v 0 0)) e2 (f3.at (by decide) hS) (by omega) (by omega) (hd := by omega)) ?_
  refine Y_b_eq hk rfl (fun g4 => ?_) (fun g4 => ?_)
  ·
    refine E_run hk 2 (j' := 15) (lv' := [(0, .ref 63), (1, yi t), (2, yi k)]) (st' := [yi 1, .ref 63]) (hp' := H1) rfl ?_
    refine Y_call hk rfl (as := [.ref 63, yi 1]) (rest := []) (v := some (yi 0)) rfl rfl (Nat.le_of_ble_eq_true rfl) (rcv0 e2) (Nat.le_of_ble_eq_true rfl) (c_X9_fails (c := 1) (v := (vup v 0 0)) e2) (fun H5 r6 => ?_)
    obtain ⟨e_H5, f_H5⟩ := r6
    exact E_ret hk rfl rfl ⟨0, rfl, 1, e_H5, Or.inr (⟨rfl, by first | trivial | omega⟩), (yfr.tr f3 f_H5 (fun _ h => h) (by decide))⟩
  ·
    have w0 : 0 ≤ S (0 + t) ∧ S (0 + t) ≤ 20 := by rcases (by omega : t = 0 ∨ t = 1) with e | e <;> rw [e] <;> first | exact ⟨hl.1, hl.2.1⟩ | exact hl.2.2
    refine E_run hk 3 (j' := 11) (lv' := [(0, .ref 63), (1, yi t), (2, yi k)]) (st' := [yi k, yi t, .ref 63]) (hp' := H1) rfl ?_
    refine Y_callP hk rfl (as := [.ref 63, yi t, yi k]) (rest := []) (v := some (yi (S (7 + 20 * t + k)))) rfl rfl (Nat.le_of_ble_eq_true rfl) (rcv0 e2) (Nat.le_of_ble_eq_true rfl) (c_X9_of (t := t) (i := k) (v := (vup v 0 0)) e2 (f3.at (by decide) hS) (by omega)) ?_
    refine E_run hk 1 (j' := 16) (lv' := [(0, .ref 63), (1, yi t), (2, yi k)]) (st' := [yi (S (7 + 20 * t + k))]) (hp' := H1) rfl ?_
    exact E_ret hk rfl rfl ⟨(S (7 + 20 * t + k)), rfl, 0, e2, Or.inl ⟨rfl, by first | trivial | omega, rfl⟩, f3⟩
theorem c_X9_tells {d : Nat} {hp : xH} {v : Nat → Int} (hM : xat hp 63 = some (yMo v)) {S : Int → Int} (hS : xat hp 64 = some (yI 47 S)) {w : Int} (ht : 0 ≤ w ∧ w < 47) : Cv d 220 [.ref 63, yi w] hp (yE (fun z h => ∃ c, xat h 63 = some (yMo (vup v 0 c)) ∧ ((c = 0 ∧ (True) ∧ z = S w)) ∧ yfr [63] hp h)) := by
  have hk : xtab 220 = (xc_220, 2, 1, []) := rfl
  show Ev d 220 0 [(0, .ref 63), (1, yi w)] [] hp _
  refine E_run hk 2 (j' := 2) (lv' := [(0, .ref 63), (1, yi w)]) (st' := [yi 0, .ref 63]) (hp' := hp) rfl ?_
  refine Y_put hk rfl hM (by decide) (Nat.le_of_ble_eq_true rfl) rfl (fs' := [yi 0, .ref 64, .ref 65, yi (v 3), .ref 66, yi (v 5), .ref 67, yi (v 7), yi (v 8), yi (v 9), .ref 68, yi (v 11), .ref 69, yi (v 13), .ref 70, .ref 71, .ref 72, .ref 73, .ref 74, .ref 75, yi (v 20), yi (v 21)]) rfl (fun H1 e2 f3 => ?_)
  refine E_run hk 1 (j' := 4) (lv' := [(0, .ref 63), (1, yi w)]) (st' := [.ref 63]) (hp' := H1) rfl ?_
  refine E_get (v := .ref 64) hk rfl e2 rfl ?_
  refine E_run hk 1 (j' := 6) (lv' := [(0, .ref 63), (1, yi w)]) (st' := [yi w, .ref 64]) (hp' := H1) rfl ?_
  refine Y_iald (a := w) (by omega) (by decide) hk rfl (f3.at (by decide) hS) ?_
  exact E_ret hk rfl rfl ⟨(S w), rfl, 0, e2, ⟨rfl, by first | trivial | omega, rfl⟩, f3⟩
