/-! The reference, method by method: what is thrown (c; 0: nothing) and what is answered (z). -/
theorem c_X9_isNote {d : Nat} {hp : xH} {v : Nat → Int} (hM : xat hp 63 = some (yMo v)) {S : Int → Int} (hS : xat hp 64 = some (yI 47 S)) (hl : 0 ≤ S 0 ∧ S 0 ≤ 20 ∧ 0 ≤ S 1 ∧ S 1 ≤ 20) {t k : Int} (ht : -2147483648 ≤ t ∧ t ≤ 2147483647 ∧ -2147483648 ≤ k ∧ k ≤ 2147483647) (hd : 2 ≤ d) : Cv d 151 [.ref 63, yi t, yi k] hp (yP (some (yi (b2 (0 ≤ t ∧ t ≤ 1 ∧ 0 ≤ k ∧ k < S (0 + t))))) hp) := by
  have hk : xtab 151 = (xc_151, 3, 2, []) := rfl
  obtain ⟨d, rfl⟩ : ∃ e, d = e + 1 := ⟨d - 1, by omega⟩
  show Ev (d + 1) 151 0 [(0, .ref 63), (1, yi t), (2, yi k)] [] hp _
  refine E_run hk 1 (j' := 1) (lv' := [(0, .ref 63), (1, yi t), (2, yi k)]) (st' := [yi t]) (hp' := hp) rfl ?_
  refine Y_callP hk rfl (as := [yi t]) (rest := []) (v := some (yi (b2 (0 ≤ t ∧ t ≤ 1)))) rfl rfl (Nat.le_of_ble_eq_true rfl) rfl (Nat.le_of_ble_eq_true rfl) (c_X9_isTune (t := t) (by omega) (hd := by omega)) ?_
  refine Y_b_eq hk rfl (fun g1 => ?_) (fun g1 => ?_)
  ·
    refine E_run hk 1 (j' := 15) (lv' := [(0, .ref 63), (1, yi t), (2, yi k)]) (st' := [yi 0]) (hp' := hp) rfl ?_
    exact E_ret hk rfl rfl (lb0 (by omega))
  ·
    refine E_run hk 2 (j' := 5) (lv' := [(0, .ref 63), (1, yi t), (2, yi k)]) (st' := [yi 0, yi k]) (hp' := hp) rfl ?_
    have w0 : 0 ≤ S (0 + t) ∧ S (0 + t) ≤ 20 := by rcases (by omega : t = 0 ∨ t = 1) with e | e <;> rw [e] <;> first | exact ⟨hl.1, hl.2.1⟩ | exact hl.2.2
    refine E_run hk 2 (j' := 7) (lv' := [(0, .ref 63), (1, yi t), (2, yi k)]) (st' := [yi t, .ref 63, yi 0, yi k]) (hp' := hp) rfl ?_
    refine Y_callP hk rfl (as := [.ref 63, yi t]) (rest := [yi 0, yi k]) (v := some (yi (S (0 + t)))) rfl rfl (Nat.le_of_ble_eq_true rfl) (rcv0 hM) (Nat.le_of_ble_eq_true rfl) (c_X9_many (t := t) (v := v) hM hS (by omega)) ?_
    refine E_run hk 1 (j' := 9) (lv' := [(0, .ref 63), (1, yi t), (2, yi k)]) (st' := [yi 1, yi (S (0 + t)), yi 0, yi k]) (hp' := hp) rfl ?_
    refine Y_isub (a := (S (0 + t))) (b := 1) hk rfl ?_
    refine Y_callP hk rfl (as := [yi k, yi 0, yi ((S (0 + t)) - 1)]) (rest := []) (v := some (yi (b2 (0 ≤ k ∧ k ≤ ((S (0 + t)) - 1))))) rfl rfl (Nat.le_of_ble_eq_true rfl) rfl (Nat.le_of_ble_eq_true rfl) (c_X9_in (v := k) (l := 0) (m := ((S (0 + t)) - 1)) (by omega)) ?_
    refine Y_b_eq hk rfl (fun g2 => ?_) (fun g2 => ?_)
    ·
      refine E_run hk 1 (j' := 15) (lv' := [(0, .ref 63), (1, yi t), (2, yi k)]) (st' := [yi 0]) (hp' := hp) rfl ?_
      exact E_ret hk rfl rfl (lb0 (by omega))
    ·
      refine E_run hk 2 (j' := 15) (lv' := [(0, .ref 63), (1, yi t), (2, yi k)]) (st' := [yi 1]) (hp' := hp) rfl ?_
      exact E_ret hk rfl rfl (lb1 (by omega))
theorem c_X9_savedStates {d : Nat} {hp : xH} {v : Nat → Int} (hM : xat hp 63 = some (yMo v)) : Cv d 217 [.ref 63] hp (yE (fun z h => ∃ c, xat h 63 = some (yMo (vup v 0 c)) ∧ ((c = 0 ∧ (True) ∧ z = v 3)) ∧ yfr [63] hp h)) := by
  have hk : xtab 217 = (xc_217, 1, 1, []) := rfl
  show Ev d 217 0 [(0, .ref 63)] [] hp _
  refine E_run hk 2 (j' := 2) (lv' := [(0, .ref 63)]) (st' := [yi 0, .ref 63]) (hp' := hp) rfl ?_
  refine Y_put hk rfl hM (by decide) (Nat.le_of_ble_eq_true rfl) rfl (fs' := [yi 0, .ref 64, .ref 65, yi (v 3), .ref 66, yi (v 5), .ref 67, yi (v 7), yi (v 8), yi (v 9), .ref 68, yi (v 11), .ref 69, yi (v 13), .ref 70, .ref 71, .ref 72, .ref 73, .ref 74, .ref 75, yi (v 20), yi (v 21)]) rfl (fun H1 e2 f3 => ?_)
  refine E_run hk 1 (j' := 4) (lv' := [(0, .ref 63)]) (st' := [.ref 63]) (hp' := H1) rfl ?_
  refine E_get (v := yi (v 3)) hk rfl e2 rfl ?_
  exact E_ret hk rfl rfl ⟨(v 3), rfl, 0, e2, ⟨rfl, by first | trivial | omega, by first | rfl | assumption | omega⟩, f3⟩
theorem c_X9_notes {d : Nat} {hp : xH} {v : Nat → Int} (hM : xat hp 63 = some (yMo v)) {S : Int → Int} (hS : xat hp 64 = some (yI 47 S)) (hl : 0 ≤ S 0 ∧ S 0 ≤ 20 ∧ 0 ≤ S 1 ∧ S 1 ≤ 20) {t : Int} (ht : -2147483648 ≤ t ∧ t ≤ 2147483647) (hd : 2 ≤ d) : Cv d 218 [.ref 63, yi t] hp (yE (fun z h => ∃ c, xat h 63 = some (yMo (vup v 0 c)) ∧ ((c = 0 ∧ (0 ≤ t ∧ t ≤ 1) ∧ z = S (0 + t)) ∨ (c = 1 ∧ (¬ (0 ≤ t ∧ t ≤ 1)))) ∧ yfr [63] hp h)) := by
  have hk : xtab 218 = (xc_218, 2, 1, []) := rfl
  obtain ⟨d, rfl⟩ : ∃ e, d = e + 1 := ⟨d - 1, by omega⟩
  show Ev (d + 1) 218 0 [(0, .ref 63), (1, yi t)] [] hp _
  refine E_run hk 2 (j' := 2) (lv' := [(0, .ref 63), (1, yi t)]) (st' := [yi 0, .ref 63]) (hp' := hp) rfl ?_
  refine Y_put hk rfl hM (by decide) (Nat.le_of_ble_eq_true rfl) rfl (fs' := [yi 0, .ref 64, .ref 65, yi (v 3), .ref 66, yi (v 5), .ref 67, yi (v 7), yi (v 8), yi (v 9), .ref 68, yi (v 11), .ref 69, yi (v 13), .ref 70, .ref 71, .ref 72, .ref 73, .ref 74, .ref 75, yi (v 20), yi (v 21)]) rfl (fun H1 e2 f3 => ?_)
  refine E_run hk 1 (j' := 4) (lv' := [(0, .ref 63), (1, yi t)]) (st' := [yi t]) (hp' := H1) rfl ?_
  refine Y_callP hk rfl (as := [yi t]) (rest := []) (v := some (yi (b2 (0 ≤ t ∧ t ≤ 1)))) rfl rfl (Nat.le_of_ble_eq_true rfl) rfl (Nat.le_of_ble_eq_true rfl) (c_X9_isTune (t := t) (by omega) (hd := by omega)) ?_
  refine Y_b_eq hk rfl (fun g4 => ?_) (fun g4 => ?_)
  ·
    refine E_run hk 2 (j' := 12) (lv' := [(0, .ref 63), (1, yi t)]) (st' := [yi 1, .ref 63]) (hp' := H1) rfl ?_
    refine Y_call hk rfl (as := [.ref 63, yi 1]) (rest := []) (v := some (yi 0)) rfl rfl (Nat.le_of_ble_eq_true rfl) (rcv0 e2) (Nat.le_of_ble_eq_true rfl) (c_X9_fails (c := 1) (v := (vup v 0 0)) e2) (fun H5 r6 => ?_)
    obtain ⟨e_H5, f_H5⟩ := r6
    exact E_ret hk rfl rfl ⟨0, rfl, 1, e_H5, Or.inr (⟨rfl, by first | trivial | omega⟩), (yfr.tr f3 f_H5 (fun _ h => h) (by decide))⟩
  ·
    refine E_run hk 2 (j' := 8) (lv' := [(0, .ref 63), (1, yi t)]) (st' := [yi t, .ref 63]) (hp' := H1) rfl ?_
    refine Y_callP hk rfl (as := [.ref 63, yi t]) (rest := []) (v := some (yi (S (0 + t)))) rfl rfl (Nat.le_of_ble_eq_true rfl) (rcv0 e2) (Nat.le_of_ble_eq_true rfl) (c_X9_many (t := t) (v := (vup v 0 0)) e2 (f3.at (by decide) hS) (by omega)) ?_
    refine E_run hk 1 (j' := 13) (lv' := [(0, .ref 63), (1, yi t)]) (st' := [yi (S (0 + t))]) (hp' := H1) rfl ?_
    exact E_ret hk rfl rfl ⟨(S (0 + t)), rfl, 0, e2, Or.inl ⟨rfl, by first | trivial | omega, by first | rfl | assumption | omega⟩, f3⟩
theorem c_X9_pitch {d : Nat} {hp : xH} {v : Nat → Int} (hM : xat hp 63 = some (yMo v)) {S : Int → Int} (hS : xat hp 64 = some (yI 47 S)) (hl : 0 ≤ S 0 ∧ S 0 ≤ 20 ∧ 0 ≤ S 1 ∧ S 1 ≤ 20) {t k : Int} (ht : -2147483648 ≤ t ∧ t ≤ 2147483647 ∧ -2147483648 ≤ k ∧ k ≤ 2147483647) (hd : 3 ≤ d) : Cv d 219 [.ref 63, yi t, yi k] hp (yE (fun z h => ∃ c, xat h 63 = some (yMo (vup v 0 c)) ∧ ((c = 0 ∧ (0 ≤ t ∧ t ≤ 1 ∧ 0 ≤ k ∧ k < S (0 + t)) ∧ z = S (7 + 20 * t + k)) ∨ (c = 1 ∧ (¬ (0 ≤ t ∧ t ≤ 1 ∧ 0 ≤ k ∧ k < S (0 + t))))) ∧ yfr [63] hp h)) := by
  have hk : xtab 219 = (xc_219, 3, 1, []) := rfl
  obtain ⟨d, rfl⟩ : ∃ e, d = e + 1 := ⟨d - 1, by omega⟩
  show Ev (d + 1) 219 0 [(0, .ref 63), (1, yi t), (2, yi k)] [] hp _
  refine E_run hk 2 (j' := 2) (lv' := [(0, .ref 63), (1, yi t), (2, yi k)]) (st' := [yi 0, .ref 63]) (hp' := hp) rfl ?_
  refine Y_put hk rfl hM (by decide) (Nat.le_of_ble_eq_true rfl) rfl (fs' := [yi 0, .ref 64, .ref 65, yi (v 3), .ref 66, yi (v 5), .ref 67, yi (v 7), yi (v 8), yi (v 9), .ref 68, yi (v 11), .ref 69, yi (v 13), .ref 70, .ref 71, .ref 72, .ref 73, .ref 74, .ref 75, yi (v 20), yi (v 21)]) rfl (fun H1 e2 f3 => ?_)
  refine E_run hk 3 (j' := 6) (lv' := [(0, .ref 63), (1, yi t), (2, yi k)]) (st' := [yi k, yi t, .ref 63]) (hp' := H1) rfl ?_
  refine Y_callP hk rfl (as := [.ref 63, yi t, yi k]) (rest := []) (v := some (yi (b2 (0 ≤ t ∧ t ≤ 1 ∧ 0 ≤ k ∧ k < S (0 + t))))) rfl rfl (Nat.le_of_ble_eq_true rfl) (rcv0 e2) (Nat.le_of_ble_eq_true rfl) (c_X9_isNote (t := t) (k := k) (v := (vup v 0 0)) e2 (f3.at (by decide) hS) (by omega) (by omega) (hd := by omega)) ?_
  refine Y_b_eq hk rfl (fun g4 => ?_) (fun g4 => ?_)
  ·
    refine E_run hk 2 (j' := 15) (lv' := [(0, .ref 63), (1, yi t), (2, yi k)]) (st' := [yi 1, .ref 63]) (hp' := H1) rfl ?_
    refine Y_call hk rfl (as := [.ref 63, yi 1]) (rest := []) (v := some (yi 0)) rfl rfl (Nat.le_of_ble_eq_true rfl) (rcv0 e2) (Nat.le_of_ble_eq_true rfl) (c_X9_fails (c := 1) (v := (vup v 0 0)) e2) (fun H5 r6 => ?_)
    obtain ⟨e_H5, f_H5⟩ := r6
    exact E_ret hk rfl rfl ⟨0, rfl, 1, e_H5, Or.inr (⟨rfl, by first | trivial | omega⟩), (yfr.tr f3 f_H5 (fun _ h => h) (by decide))⟩
  ·
    have w0 : 0 ≤ S (0 + t) ∧ S (0 + t) ≤ 20 := by rcases (by omega : t = 0 ∨ t = 1) with e | e <;> rw [e] <;> first | exact ⟨hl.1, hl.2.1⟩ | exact hl.2.2
    refine E_run hk 3 (j' := 11) (lv' := [(0, .ref 63), (1, yi t), (2, yi k)]) (st' := [yi k, yi t, .ref 63]) (hp' := H1) rfl ?_
    refine Y_callP hk rfl (as := [.ref 63, yi t, yi k]) (rest := []) (v := some (yi (S (7 + 20 * t + k)))) rfl rfl (Nat.le_of_ble_eq_true rfl) (rcv0 e2) (Nat.le_of_ble_eq_true rfl) (c_X9_of (t := t) (i := k) (v := (vup v 0 0)) e2 (f3.at (by decide) hS) (by omega)) ?_
    refine E_run hk 1 (j' := 16) (lv' := [(0, .ref 63), (1, yi t), (2, yi k)]) (st' := [yi (S (7 + 20 * t + k))]) (hp' := H1) rfl ?_
    exact E_ret hk rfl rfl ⟨(S (7 + 20 * t + k)), rfl, 0, e2, Or.inl ⟨rfl, by first | trivial | omega, by first | rfl | assumption | omega⟩, f3⟩
theorem c_X9_tells {d : Nat} {hp : xH} {v : Nat → Int} (hM : xat hp 63 = some (yMo v)) {S : Int → Int} (hS : xat hp 64 = some (yI 47 S)) {w : Int} (ht : 0 ≤ w ∧ w < 47) : Cv d 220 [.ref 63, yi w] hp (yE (fun z h => ∃ c, xat h 63 = some (yMo (vup v 0 c)) ∧ ((c = 0 ∧ (True) ∧ z = S w)) ∧ yfr [63] hp h)) := by
  have hk : xtab 220 = (xc_220, 2, 1, []) := rfl
  show Ev d 220 0 [(0, .ref 63), (1, yi w)] [] hp _
  refine E_run hk 2 (j' := 2) (lv' := [(0, .ref 63), (1, yi w)]) (st' := [yi 0, .ref 63]) (hp' := hp) rfl ?_
  refine Y_put hk rfl hM (by decide) (Nat.le_of_ble_eq_true rfl) rfl (fs' := [yi 0, .ref 64, .ref 65, yi (v 3), .ref 66, yi (v 5), .ref 67, yi (v 7), yi (v 8), yi (v 9), .ref 68, yi (v 11), .ref 69, yi (v 13), .ref 70, .ref 71, .ref 72, .ref 73, .ref 74, .ref 75, yi (v 20), yi (v 21)]) rfl (fun H1 e2 f3 => ?_)
  refine E_run hk 1 (j' := 4) (lv' := [(0, .ref 63), (1, yi w)]) (st' := [.ref 63]) (hp' := H1) rfl ?_
  refine E_get (v := .ref 64) hk rfl e2 rfl ?_
  refine E_run hk 1 (j' := 6) (lv' := [(0, .ref 63), (1, yi w)]) (st' := [yi w, .ref 64]) (hp' := H1) rfl ?_
  refine Y_iald (a := w) (by omega) (by decide) hk rfl (f3.at (by decide) hS) ?_
  exact E_ret hk rfl rfl ⟨(S w), rfl, 0, e2, ⟨rfl, by first | trivial | omega, by first | rfl | assumption | omega⟩, f3⟩
theorem c_X9_bound {d : Nat} {hp : xH} {v : Nat → Int} (hM : xat hp 63 = some (yMo v)) {S : Int → Int} (hS : xat hp 64 = some (yI 47 S)) (hd : 1 ≤ d) : Cv d 221 [.ref 63] hp (yE (fun z h => ∃ c, xat h 63 = some (yMo (vup v 0 c)) ∧ ((c = 0 ∧ (True) ∧ z = S 2)) ∧ yfr [63] hp h)) := by
  have hk : xtab 221 = (xc_221, 1, 1, []) := rfl
  obtain ⟨d, rfl⟩ : ∃ e, d = e + 1 := ⟨d - 1, by omega⟩
  show Ev (d + 1) 221 0 [(0, .ref 63)] [] hp _
  refine E_run hk 2 (j' := 2) (lv' := [(0, .ref 63)]) (st' := [yi 2, .ref 63]) (hp' := hp) rfl ?_
  refine Y_callE hk rfl (as := [.ref 63, yi 2]) (rest := []) rfl rfl (Nat.le_of_ble_eq_true rfl) (rcv0 hM) (Nat.le_of_ble_eq_true rfl) (c_X9_tells (w := 2) (v := v) hM hS (by omega)) (fun z1 H2 r3 => ?_)
  obtain ⟨c_H2, e_H2, ⟨rfl, -, zq_H2⟩, f_H2⟩ := r3
  exact E_ret hk rfl rfl ⟨z1, rfl, 0, e_H2, ⟨rfl, by first | trivial | omega, by first | rfl | assumption | omega⟩, f_H2⟩
theorem c_X9_hold {d : Nat} {hp : xH} {v : Nat → Int} (hM : xat hp 63 = some (yMo v)) {S : Int → Int} (hS : xat hp 64 = some (yI 47 S)) (hd : 1 ≤ d) : Cv d 222 [.ref 63] hp (yE (fun z h => ∃ c, xat h 63 = some (yMo (vup v 0 c)) ∧ ((c = 0 ∧ (True) ∧ z = S 3)) ∧ yfr [63] hp h)) := by
  have hk : xtab 222 = (xc_222, 1, 1, []) := rfl
  obtain ⟨d, rfl⟩ : ∃ e, d = e + 1 := ⟨d - 1, by omega⟩
  show Ev (d + 1) 222 0 [(0, .ref 63)] [] hp _
  refine E_run hk 2 (j' := 2) (lv' := [(0, .ref 63)]) (st' := [yi 3, .ref 63]) (hp' := hp) rfl ?_
  refine Y_callE hk rfl (as := [.ref 63, yi 3]) (rest := []) rfl rfl (Nat.le_of_ble_eq_true rfl) (rcv0 hM) (Nat.le_of_ble_eq_true rfl) (c_X9_tells (w := 3) (v := v) hM hS (by omega)) (fun z1 H2 r3 => ?_)
  obtain ⟨c_H2, e_H2, ⟨rfl, -, zq_H2⟩, f_H2⟩ := r3
  exact E_ret hk rfl rfl ⟨z1, rfl, 0, e_H2, ⟨rfl, by first | trivial | omega, by first | rfl | assumption | omega⟩, f_H2⟩
theorem c_X9_judge {d : Nat} {hp : xH} {v : Nat → Int} (hM : xat hp 63 = some (yMo v)) {S : Int → Int} (hS : xat hp 64 = some (yI 47 S)) (hd : 1 ≤ d) : Cv d 223 [.ref 63] hp (yE (fun z h => ∃ c, xat h 63 = some (yMo (vup v 0 c)) ∧ ((c = 0 ∧ (True) ∧ z = S 4)) ∧ yfr [63] hp h)) := by
  have hk : xtab 223 = (xc_223, 1, 1, []) := rfl
  obtain ⟨d, rfl⟩ : ∃ e, d = e + 1 := ⟨d - 1, by omega⟩
  show Ev (d + 1) 223 0 [(0, .ref 63)] [] hp _
  refine E_run hk 2 (j' := 2) (lv' := [(0, .ref 63)]) (st' := [yi 4, .ref 63]) (hp' := hp) rfl ?_
  refine Y_callE hk rfl (as := [.ref 63, yi 4]) (rest := []) rfl rfl (Nat.le_of_ble_eq_true rfl) (rcv0 hM) (Nat.le_of_ble_eq_true rfl) (c_X9_tells (w := 4) (v := v) hM hS (by omega)) (fun z1 H2 r3 => ?_)
  obtain ⟨c_H2, e_H2, ⟨rfl, -, zq_H2⟩, f_H2⟩ := r3
  exact E_ret hk rfl rfl ⟨z1, rfl, 0, e_H2, ⟨rfl, by first | trivial | omega, by first | rfl | assumption | omega⟩, f_H2⟩
theorem c_X9_isMatched {d : Nat} {hp : xH} {v : Nat → Int} (hM : xat hp 63 = some (yMo v)) {S : Int → Int} (hS : xat hp 64 = some (yI 47 S)) (hl : 0 ≤ S 0 ∧ S 0 ≤ 20 ∧ 0 ≤ S 1 ∧ S 1 ≤ 20) (hb : 0 ≤ S 2 ∧ S 2 ≤ 20) (hd : 3 ≤ d) : Cv d 227 [.ref 63] hp (yE (fun z h => ∃ c, xat h 63 = some (yMo (vup v 0 c)) ∧ ((c = 0 ∧ (True) ∧ z = b2 (0 < S 0 ∧ 0 < S 1 ∧ -S 2 ≤ S 0 - S 1 ∧ S 0 - S 1 ≤ S 2))) ∧ yfr [63] hp h)) := by
  have hk : xtab 227 = (xc_227, 1, 2, []) := rfl
  obtain ⟨d, rfl⟩ : ∃ e, d = e + 1 := ⟨d - 1, by omega⟩
  show Ev (d + 1) 227 0 [(0, .ref 63)] [] hp _
  refine E_run hk 2 (j' := 2) (lv' := [(0, .ref 63)]) (st' := [yi 0, .ref 63]) (hp' := hp) rfl ?_
  refine Y_put hk rfl hM (by decide) (Nat.le_of_ble_eq_true rfl) rfl (fs' := [yi 0, .ref 64, .ref 65, yi (v 3), .ref 66, yi (v 5), .ref 67, yi (v 7), yi (v 8), yi (v 9), .ref 68, yi (v 11), .ref 69, yi (v 13), .ref 70, .ref 71, .ref 72, .ref 73, .ref 74, .ref 75, yi (v 20), yi (v 21)]) rfl (fun H1 e2 f3 => ?_)
  refine E_run hk 1 (j' := 4) (lv' := [(0, .ref 63)]) (st' := [.ref 63]) (hp' := H1) rfl ?_
  refine Y_callP hk rfl (as := [.ref 63]) (rest := []) (v := some (yi (b2 (0 < S 0 ∧ 0 < S 1 ∧ -S 2 ≤ S 0 - S 1 ∧ S 0 - S 1 ≤ S 2)))) rfl rfl (Nat.le_of_ble_eq_true rfl) (rcv0 e2) (Nat.le_of_ble_eq_true rfl) (c_X9_matches (v := (vup v 0 0)) e2 (f3.at (by decide) hS) (by omega) (by omega) (hd := by omega)) ?_
  exact E_ret hk rfl xret_b2 ⟨(b2 (0 < S 0 ∧ 0 < S 1 ∧ -S 2 ≤ S 0 - S 1 ∧ S 0 - S 1 ≤ S 2)), rfl, 0, e2, ⟨rfl, by first | trivial | omega, by first | rfl | assumption | omega⟩, f3⟩
theorem c_X9_hasStopped {d : Nat} {hp : xH} {v : Nat → Int} (hM : xat hp 63 = some (yMo v)) {S : Int → Int} (hS : xat hp 64 = some (yI 47 S)) (hs : -1 ≤ S 5 ∧ S 5 ≤ 60) : Cv d 211 [.ref 63] hp (yE (fun z h => ∃ c, xat h 63 = some (yMo (vup v 0 c)) ∧ ((c = 0 ∧ (True) ∧ z = b2 (¬ S 5 = -1))) ∧ yfr [63] hp h)) := by
  have hk : xtab 211 = (xc_211, 1, 2, []) := rfl
  show Ev d 211 0 [(0, .ref 63)] [] hp _
  refine E_run hk 2 (j' := 2) (lv' := [(0, .ref 63)]) (st' := [yi 0, .ref 63]) (hp' := hp) rfl ?_
  refine Y_put hk rfl hM (by decide) (Nat.le_of_ble_eq_true rfl) rfl (fs' := [yi 0, .ref 64, .ref 65, yi (v 3), .ref 66, yi (v 5), .ref 67, yi (v 7), yi (v 8), yi (v 9), .ref 68, yi (v 11), .ref 69, yi (v 13), .ref 70, .ref 71, .ref 72, .ref 73, .ref 74, .ref 75, yi (v 20), yi (v 21)]) rfl (fun H1 e2 f3 => ?_)
  refine E_run hk 1 (j' := 4) (lv' := [(0, .ref 63)]) (st' := [.ref 63]) (hp' := H1) rfl ?_
  refine E_get (v := .ref 64) hk rfl e2 rfl ?_
  refine E_run hk 1 (j' := 6) (lv' := [(0, .ref 63)]) (st' := [yi 5, .ref 64]) (hp' := H1) rfl ?_
  refine Y_iald (a := 5) (by omega) (by decide) hk rfl (f3.at (by decide) hS) ?_
  refine E_run hk 1 (j' := 8) (lv' := [(0, .ref 63)]) (st' := [yi (-1), yi (S 5)]) (hp' := H1) rfl ?_
  refine Y_ic_eq (a := (S 5)) (b := (-1)) (by omega) hk rfl (fun g4 => ?_) (fun g4 => ?_)
  ·
    refine E_run hk 1 (j' := 12) (lv' := [(0, .ref 63)]) (st' := [yi 0]) (hp' := H1) rfl ?_
    exact E_ret hk rfl rfl ⟨0, rfl, 0, e2, ⟨rfl, by first | trivial | omega, by first | exact (b2_t (by omega)).symm | exact (b2_f (by omega)).symm⟩, f3⟩
  ·
    refine E_run hk 2 (j' := 12) (lv' := [(0, .ref 63)]) (st' := [yi 1]) (hp' := H1) rfl ?_
    exact E_ret hk rfl rfl ⟨1, rfl, 0, e2, ⟨rfl, by first | trivial | omega, by first | exact (b2_t (by omega)).symm | exact (b2_f (by omega)).symm⟩, f3⟩
theorem c_X9_stoppedPart {d : Nat} {hp : xH} {v : Nat → Int} (hM : xat hp 63 = some (yMo v)) {S : Int → Int} (hS : xat hp 64 = some (yI 47 S)) (hs : -1 ≤ S 5 ∧ S 5 ≤ 60) (hd : 1 ≤ d) : Cv d 212 [.ref 63] hp (yE (fun z h => ∃ c, xat h 63 = some (yMo (vup v 0 c)) ∧ ((c = 0 ∧ (¬ S 5 = -1) ∧ z = S 5) ∨ (c = 1 ∧ (S 5 = -1))) ∧ yfr [63] hp h)) := by
  have hk : xtab 212 = (xc_212, 1, 1, []) := rfl
  obtain ⟨d, rfl⟩ : ∃ e, d = e + 1 := ⟨d - 1, by omega⟩
  show Ev (d + 1) 212 0 [(0, .ref 63)] [] hp _
  refine E_run hk 2 (j' := 2) (lv' := [(0, .ref 63)]) (st' := [yi 0, .ref 63]) (hp' := hp) rfl ?_
  refine Y_put hk rfl hM (by decide) (Nat.le_of_ble_eq_true rfl) rfl (fs' := [yi 0, .ref 64, .ref 65, yi (v 3), .ref 66, yi (v 5), .ref 67, yi (v 7), yi (v 8), yi (v 9), .ref 68, yi (v 11), .ref 69, yi (v 13), .ref 70, .ref 71, .ref 72, .ref 73, .ref 74, .ref 75, yi (v 20), yi (v 21)]) rfl (fun H1 e2 f3 => ?_)
  refine E_run hk 1 (j' := 4) (lv' := [(0, .ref 63)]) (st' := [.ref 63]) (hp' := H1) rfl ?_
  refine E_get (v := .ref 64) hk rfl e2 rfl ?_
  refine E_run hk 1 (j' := 6) (lv' := [(0, .ref 63)]) (st' := [yi 5, .ref 64]) (hp' := H1) rfl ?_
  refine Y_iald (a := 5) (by omega) (by decide) hk rfl (f3.at (by decide) hS) ?_
  refine E_run hk 1 (j' := 8) (lv' := [(0, .ref 63)]) (st' := [yi (-1), yi (S 5)]) (hp' := H1) rfl ?_
  refine Y_ic_ne (a := (S 5)) (b := (-1)) (by omega) hk rfl (fun g4 => ?_) (fun g4 => ?_)
  ·
    refine E_run hk 1 (j' := 14) (lv' := [(0, .ref 63)]) (st' := [.ref 63]) (hp' := H1) rfl ?_
    refine E_get (v := .ref 64) hk rfl e2 rfl ?_
    refine E_run hk 1 (j' := 16) (lv' := [(0, .ref 63)]) (st' := [yi 5, .ref 64]) (hp' := H1) rfl ?_
    refine Y_iald (a := 5) (by omega) (by decide) hk rfl (f3.at (by decide) hS) ?_
    exact E_ret hk rfl rfl ⟨(S 5), rfl, 0, e2, Or.inl ⟨rfl, by first | trivial | omega, by first | rfl | assumption | omega⟩, f3⟩
  ·
    refine E_run hk 2 (j' := 11) (lv' := [(0, .ref 63)]) (st' := [yi 1, .ref 63]) (hp' := H1) rfl ?_
    refine Y_call hk rfl (as := [.ref 63, yi 1]) (rest := []) (v := some (yi 0)) rfl rfl (Nat.le_of_ble_eq_true rfl) (rcv0 e2) (Nat.le_of_ble_eq_true rfl) (c_X9_fails (c := 1) (v := (vup v 0 0)) e2) (fun H5 r6 => ?_)
    obtain ⟨e_H5, f_H5⟩ := r6
    refine E_run hk 1 (j' := 17) (lv' := [(0, .ref 63)]) (st' := [yi 0]) (hp' := H5) rfl ?_
    exact E_ret hk rfl rfl ⟨0, rfl, 1, e_H5, Or.inr (⟨rfl, by first | trivial | omega⟩), (yfr.tr f3 f_H5 (fun _ h => h) (by decide))⟩
theorem c_X9_whyStopped {d : Nat} {hp : xH} {v : Nat → Int} (hM : xat hp 63 = some (yMo v)) {S : Int → Int} (hS : xat hp 64 = some (yI 47 S)) (hs : -1 ≤ S 5 ∧ S 5 ≤ 60) (hd : 1 ≤ d) : Cv d 213 [.ref 63] hp (yE (fun z h => ∃ c, xat h 63 = some (yMo (vup v 0 c)) ∧ ((c = 0 ∧ (¬ S 5 = -1) ∧ z = S 6) ∨ (c = 1 ∧ (S 5 = -1))) ∧ yfr [63] hp h)) := by
  have hk : xtab 213 = (xc_213, 1, 1, []) := rfl
  obtain ⟨d, rfl⟩ : ∃ e, d = e + 1 := ⟨d - 1, by omega⟩
  show Ev (d + 1) 213 0 [(0, .ref 63)] [] hp _
  refine E_run hk 2 (j' := 2) (lv' := [(0, .ref 63)]) (st' := [yi 0, .ref 63]) (hp' := hp) rfl ?_
  refine Y_put hk rfl hM (by decide) (Nat.le_of_ble_eq_true rfl) rfl (fs' := [yi 0, .ref 64, .ref 65, yi (v 3), .ref 66, yi (v 5), .ref 67, yi (v 7), yi (v 8), yi (v 9), .ref 68, yi (v 11), .ref 69, yi (v 13), .ref 70, .ref 71, .ref 72, .ref 73, .ref 74, .ref 75, yi (v 20), yi (v 21)]) rfl (fun H1 e2 f3 => ?_)
  refine E_run hk 1 (j' := 4) (lv' := [(0, .ref 63)]) (st' := [.ref 63]) (hp' := H1) rfl ?_
  refine E_get (v := .ref 64) hk rfl e2 rfl ?_
  refine E_run hk 1 (j' := 6) (lv' := [(0, .ref 63)]) (st' := [yi 5, .ref 64]) (hp' := H1) rfl ?_
  refine Y_iald (a := 5) (by omega) (by decide) hk rfl (f3.at (by decide) hS) ?_
  refine E_run hk 1 (j' := 8) (lv' := [(0, .ref 63)]) (st' := [yi (-1), yi (S 5)]) (hp' := H1) rfl ?_
  refine Y_ic_ne (a := (S 5)) (b := (-1)) (by omega) hk rfl (fun g4 => ?_) (fun g4 => ?_)
  ·
    refine E_run hk 1 (j' := 14) (lv' := [(0, .ref 63)]) (st' := [.ref 63]) (hp' := H1) rfl ?_
    refine E_get (v := .ref 64) hk rfl e2 rfl ?_
    refine E_run hk 1 (j' := 16) (lv' := [(0, .ref 63)]) (st' := [yi 6, .ref 64]) (hp' := H1) rfl ?_
    refine Y_iald (a := 6) (by omega) (by decide) hk rfl (f3.at (by decide) hS) ?_
    exact E_ret hk rfl rfl ⟨(S 6), rfl, 0, e2, Or.inl ⟨rfl, by first | trivial | omega, by first | rfl | assumption | omega⟩, f3⟩
  ·
    refine E_run hk 2 (j' := 11) (lv' := [(0, .ref 63)]) (st' := [yi 1, .ref 63]) (hp' := H1) rfl ?_
    refine Y_call hk rfl (as := [.ref 63, yi 1]) (rest := []) (v := some (yi 0)) rfl rfl (Nat.le_of_ble_eq_true rfl) (rcv0 e2) (Nat.le_of_ble_eq_true rfl) (c_X9_fails (c := 1) (v := (vup v 0 0)) e2) (fun H5 r6 => ?_)
    obtain ⟨e_H5, f_H5⟩ := r6
    refine E_run hk 1 (j' := 17) (lv' := [(0, .ref 63)]) (st' := [yi 0]) (hp' := H5) rfl ?_
    exact E_ret hk rfl rfl ⟨0, rfl, 1, e_H5, Or.inr (⟨rfl, by first | trivial | omega⟩), (yfr.tr f3 f_H5 (fun _ h => h) (by decide))⟩
theorem c_X9_rises {d : Nat} {hp : xH} {v : Nat → Int} (hM : xat hp 63 = some (yMo v)) {S : Int → Int} (hS : xat hp 64 = some (yI 47 S)) (hl : 0 ≤ S 0 ∧ S 0 ≤ 20 ∧ 0 ≤ S 1 ∧ S 1 ≤ 20) (hpi : ∀ t q, 0 ≤ t → t ≤ 1 → 0 ≤ q → q < S (0 + t) → 0 ≤ S (7 + 20 * t + q) ∧ S (7 + 20 * t + q) ≤ 60) (hd : 2 ≤ d) : Cv d 226 [.ref 63] hp (yE (fun z h => ∃ c, xat h 63 = some (yMo (vup v 0 c)) ∧ ((c = 0 ∧ (True) ∧ z = ris (fun q => S (7 + q)) (S 0 - 1).toNat + ris (fun q => S (27 + q)) (S 1 - 1).toNat)) ∧ yfr [63] hp h)) := by
  have hk : xtab 226 = (xc_226, 1, 1, []) := rfl
  obtain ⟨d, rfl⟩ : ∃ e, d = e + 1 := ⟨d - 1, by omega⟩
  show Ev (d + 1) 226 0 [(0, .ref 63)] [] hp _
  refine E_run hk 2 (j' := 2) (lv' := [(0, .ref 63)]) (st' := [yi 0, .ref 63]) (hp' := hp) rfl ?_
  refine Y_put hk rfl hM (by decide) (Nat.le_of_ble_eq_true rfl) rfl (fs' := [yi 0, .ref 64, .ref 65, yi (v 3), .ref 66, yi (v 5), .ref 67, yi (v 7), yi (v 8), yi (v 9), .ref 68, yi (v 11), .ref 69, yi (v 13), .ref 70, .ref 71, .ref 72, .ref 73, .ref 74, .ref 75, yi (v 20), yi (v 21)]) rfl (fun H1 e2 f3 => ?_)
  refine E_run hk 1 (j' := 4) (lv' := [(0, .ref 63)]) (st' := [.ref 63]) (hp' := H1) rfl ?_
  refine Y_callP hk rfl (as := [.ref 63]) (rest := []) (v := some (yi (ris (fun q => S (7 + q)) (S 0 - 1).toNat + ris (fun q => S (27 + q)) (S 1 - 1).toNat))) rfl rfl (Nat.le_of_ble_eq_true rfl) (rcv0 e2) (Nat.le_of_ble_eq_true rfl) (c_X9_riseMany (v := (vup v 0 0)) e2 (f3.at (by decide) hS) (by omega) hpi (hd := by omega)) ?_
  exact E_ret hk rfl rfl ⟨(ris (fun q => S (7 + q)) (S 0 - 1).toNat + ris (fun q => S (27 + q)) (S 1 - 1).toNat), rfl, 0, e2, ⟨rfl, by first | trivial | omega, by first | rfl | assumption | omega⟩, f3⟩
theorem c_X9_unlike {d : Nat} {hp : xH} {v : Nat → Int} (hM : xat hp 63 = some (yMo v)) {S : Int → Int} (hS : xat hp 64 = some (yI 47 S)) (hz : 0 ≤ S 0 ∧ S 0 ≤ 20 ∧ 0 ≤ S 1 ∧ S 1 ≤ 20 ∧ 0 ≤ S 2 ∧ S 2 ≤ 20 ∧ 0 ≤ S 3 ∧ S 3 ≤ 50 ∧ 0 ≤ S 4 ∧ S 4 ≤ 3) (h0 : ∀ q, 0 ≤ q → q < S 0 → 0 ≤ S (7 + q) ∧ S (7 + q) ≤ 60) (h1 : ∀ q, 0 ≤ q → q < S 1 → 0 ≤ S (27 + q) ∧ S (27 + q) ≤ 60) {i j : Int} (ht : -2147483648 ≤ i ∧ i ≤ 2147483647 ∧ -2147483648 ≤ j ∧ j ≤ 2147483647) (hd : 3 ≤ d) : Cv d 224 [.ref 63, yi i, yi j] hp (yE (fun z h => ∃ c, xat h 63 = some (yMo (vup v 0 c)) ∧ ((c = 0 ∧ (0 ≤ i ∧ i < S 0 ∧ 0 ≤ j ∧ j < S 1) ∧ z = unl S 0 i j) ∨ (c = 1 ∧ (¬ (0 ≤ i ∧ i < S 0 ∧ 0 ≤ j ∧ j < S 1)))) ∧ yfr [63] hp h)) := by
  have hk : xtab 224 = (xc_224, 3, 1, []) := rfl
  obtain ⟨d, rfl⟩ : ∃ e, d = e + 1 := ⟨d - 1, by omega⟩
  have n0 : S (0 + 0) = S 0 := rfl
  have n1 : S (0 + 1) = S 1 := rfl
  show Ev (d + 1) 224 0 [(0, .ref 63), (1, yi i), (2, yi j)] [] hp _
  refine E_run hk 2 (j' := 2) (lv' := [(0, .ref 63), (1, yi i), (2, yi j)]) (st' := [yi 0, .ref 63]) (hp' := hp) rfl ?_
  refine Y_put hk rfl hM (by decide) (Nat.le_of_ble_eq_true rfl) rfl (fs' := [yi 0, .ref 64, .ref 65, yi (v 3), .ref 66, yi (v 5), .ref 67, yi (v 7), yi (v 8), yi (v 9), .ref 68, yi (v 11), .ref 69, yi (v 13), .ref 70, .ref 71, .ref 72, .ref 73, .ref 74, .ref 75, yi (v 20), yi (v 21)]) rfl (fun H1 e2 f3 => ?_)
  refine E_run hk 3 (j' := 6) (lv' := [(0, .ref 63), (1, yi i), (2, yi j)]) (st' := [yi i, yi 0, .ref 63]) (hp' := H1) rfl ?_
  refine Y_callP hk rfl (as := [.ref 63, yi 0, yi i]) (rest := []) (v := some (yi (b2 (0 ≤ 0 ∧ 0 ≤ 1 ∧ 0 ≤ i ∧ i < S (0 + 0))))) rfl rfl (Nat.le_of_ble_eq_true rfl) (rcv0 e2) (Nat.le_of_ble_eq_true rfl) (c_X9_isNote (t := 0) (k := i) (v := (vup v 0 0)) e2 (f3.at (by decide) hS) (by omega) (by omega) (hd := by omega)) ?_
  refine Y_b_eq hk rfl (fun g4 => ?_) (fun g4 => ?_)
  ·
    refine E_run hk 2 (j' := 21) (lv' := [(0, .ref 63), (1, yi i), (2, yi j)]) (st' := [yi 1, .ref 63]) (hp' := H1) rfl ?_
    refine Y_call hk rfl (as := [.ref 63, yi 1]) (rest := []) (v := some (yi 0)) rfl rfl (Nat.le_of_ble_eq_true rfl) (rcv0 e2) (Nat.le_of_ble_eq_true rfl) (c_X9_fails (c := 1) (v := (vup v 0 0)) e2) (fun H5 r6 => ?_)
    obtain ⟨e_H5, f_H5⟩ := r6
    exact E_ret hk rfl rfl ⟨0, rfl, 1, e_H5, Or.inr (⟨rfl, by first | trivial | omega⟩), (yfr.tr f3 f_H5 (fun _ h => h) (by decide))⟩
  ·
    refine E_run hk 3 (j' := 11) (lv' := [(0, .ref 63), (1, yi i), (2, yi j)]) (st' := [yi j, yi 1, .ref 63]) (hp' := H1) rfl ?_
    refine Y_callP hk rfl (as := [.ref 63, yi 1, yi j]) (rest := []) (v := some (yi (b2 (0 ≤ 1 ∧ 1 ≤ 1 ∧ 0 ≤ j ∧ j < S (0 + 1))))) rfl rfl (Nat.le_of_ble_eq_true rfl) (rcv0 e2) (Nat.le_of_ble_eq_true rfl) (c_X9_isNote (t := 1) (k := j) (v := (vup v 0 0)) e2 (f3.at (by decide) hS) (by omega) (by omega) (hd := by omega)) ?_
    refine Y_b_eq hk rfl (fun g7 => ?_) (fun g7 => ?_)
    ·
      refine E_run hk 2 (j' := 21) (lv' := [(0, .ref 63), (1, yi i), (2, yi j)]) (st' := [yi 1, .ref 63]) (hp' := H1) rfl ?_
      refine Y_call hk rfl (as := [.ref 63, yi 1]) (rest := []) (v := some (yi 0)) rfl rfl (Nat.le_of_ble_eq_true rfl) (rcv0 e2) (Nat.le_of_ble_eq_true rfl) (c_X9_fails (c := 1) (v := (vup v 0 0)) e2) (fun H8 r9 => ?_)
      obtain ⟨e_H8, f_H8⟩ := r9
      exact E_ret hk rfl rfl ⟨0, rfl, 1, e_H8, Or.inr (⟨rfl, by first | trivial | omega⟩), (yfr.tr f3 f_H8 (fun _ h => h) (by decide))⟩
    ·
      refine E_run hk 4 (j' := 17) (lv' := [(0, .ref 63), (1, yi i), (2, yi j)]) (st' := [yi 0, yi j, yi i, .ref 63]) (hp' := H1) rfl ?_
      refine Y_callP hk rfl (as := [.ref 63, yi i, yi j, yi 0]) (rest := []) (v := some (yi (unl S 0 i j))) rfl rfl (Nat.le_of_ble_eq_true rfl) (rcv0 e2) (Nat.le_of_ble_eq_true rfl) (c_X9_unlikeBy (i := i) (j := j) (b := 0) (v := (vup v 0 0)) e2 (f3.at (by decide) hS) hz h0 h1 (by omega) (by omega) (hd := by omega)) ?_
      refine E_run hk 1 (j' := 22) (lv' := [(0, .ref 63), (1, yi i), (2, yi j)]) (st' := [yi (unl S 0 i j)]) (hp' := H1) rfl ?_
      exact E_ret hk rfl rfl ⟨(unl S 0 i j), rfl, 0, e2, Or.inl ⟨rfl, by first | trivial | omega, by first | rfl | assumption | omega⟩, f3⟩
