/-! The reference reads a word: the walk. -/
theorem c_X9_takesAll {d : Nat} {hp : xH} {v : Nat → Int} (hM : xat hp 63 = some (yMo v)) {X : Int → Int} (hX : xat hp 67 = some (yI 60 X)) (hn : 0 ≤ v 7 ∧ v 7 ≤ 60) (hc : ∀ q, 0 ≤ q → q < v 7 → 33 ≤ X q ∧ X q ≤ 126) (ha : 0 ≤ v 8 ∧ v 8 ≤ v 7) (hw : v 9 = 0 ∨ v 9 = 1) {c1 c2 c3 c4 : Int} (h14 : 1 ≤ c1 ∧ c1 ≤ 200 ∧ 1 ≤ c2 ∧ c2 ≤ 200 ∧ 1 ≤ c3 ∧ c3 ≤ 200 ∧ 1 ≤ c4 ∧ c4 ≤ 200) (hd : 2 ≤ d) : Cv d 200 [.ref 63, yi c1, yi c2, yi c3, yi c4] hp (yR none (fun h => xat h 63 = some (yMo (vup (vup v 9 (tls X (v 7) [c1, c2, c3, c4] (v 8) (v 9)).2) 8 (tls X (v 7) [c1, c2, c3, c4] (v 8) (v 9)).1)) ∧ yfr [63] hp h)) := by
  have hk : xtab 200 = (xc_200, 5, 0, []) := rfl
  obtain ⟨d, rfl⟩ : ∃ e, d = e + 1 := ⟨d - 1, by omega⟩
  show Ev (d + 1) 200 0 [(0, .ref 63), (1, yi c1), (2, yi c2), (3, yi c3), (4, yi c4)] [] hp _
  refine E_run hk 3 (j' := 3) (lv' := [(0, .ref 63), (1, yi c1), (2, yi c2), (3, yi c3), (4, yi c4)]) (st' := [yi c1, yi c1, .ref 63]) (hp' := hp) rfl ?_
  refine Y_call hk rfl (as := [.ref 63, yi c1, yi c1]) (rest := []) (v := some (yi (sg X (v 7) (v 8) - 48))) rfl rfl (Nat.le_of_ble_eq_true rfl) (rcv0 hM) (Nat.le_of_ble_eq_true rfl) (c_X9_takes (v := v) hM hX hn hc (show 0 ≤ v 8 ∧ v 8 ≤ v 7 by omega) (show v 9 = 0 ∨ v 9 = 1 by omega) (l := c1) (u := c1) (by omega) (hd := by omega)) (fun H1 r2 => ?_)
  obtain ⟨e0_H1, f_H1⟩ := r2
  obtain ⟨w_H1, hq_H1⟩ : ∃ w, b2 (v 9 = 1 ∧ c1 ≤ sg X (v 7) (v 8) ∧ sg X (v 7) (v 8) ≤ c1) = w := ⟨_, rfl⟩
  have e_H1 : xat H1 63 = some (yMo (vup (vup v 9 w_H1) 8 ((v 8) + w_H1))) := by rw [← hq_H1]; exact e0_H1
  obtain ⟨k1_H1, k2_H1, k3_H1⟩ := tk_step hc (show 0 ≤ v 8 ∧ v 8 ≤ v 7 by omega) (show v 9 = 0 ∨ v 9 = 1 by omega) (by omega) hq_H1
  refine E_run hk 4 (j' := 8) (lv' := [(0, .ref 63), (1, yi c1), (2, yi c2), (3, yi c3), (4, yi c4)]) (st' := [yi c2, yi c2, .ref 63]) (hp' := H1) rfl ?_
  refine Y_call hk rfl (as := [.ref 63, yi c2, yi c2]) (rest := []) (v := some (yi (sg X (v 7) ((v 8) + w_H1) - 48))) rfl rfl (Nat.le_of_ble_eq_true rfl) (rcv0 e_H1) (Nat.le_of_ble_eq_true rfl) (c_X9_takes (v := (vup (vup v 9 w_H1) 8 ((v 8) + w_H1))) e_H1 (f_H1.at (by decide) hX) hn hc (show 0 ≤ (v 8) + w_H1 ∧ (v 8) + w_H1 ≤ v 7 by omega) (show w_H1 = 0 ∨ w_H1 = 1 by omega) (l := c2) (u := c2) (by omega) (hd := by omega)) (fun H3 r4 => ?_)
  obtain ⟨e0_H3, f_H3⟩ := r4
  obtain ⟨w_H3, hq_H3⟩ : ∃ w, b2 (w_H1 = 1 ∧ c2 ≤ sg X (v 7) ((v 8) + w_H1) ∧ sg X (v 7) ((v 8) + w_H1) ≤ c2) = w := ⟨_, rfl⟩
  have e_H3 : xat H3 63 = some (yMo (vup (vup (vup (vup v 9 w_H1) 8 ((v 8) + w_H1)) 9 w_H3) 8 (((v 8) + w_H1) + w_H3))) := by rw [← hq_H3]; exact e0_H3
  obtain ⟨k1_H3, k2_H3, k3_H3⟩ := tk_step hc (show 0 ≤ (v 8) + w_H1 ∧ (v 8) + w_H1 ≤ v 7 by omega) (show w_H1 = 0 ∨ w_H1 = 1 by omega) (by omega) hq_H3
  refine E_run hk 4 (j' := 13) (lv' := [(0, .ref 63), (1, yi c1), (2, yi c2), (3, yi c3), (4, yi c4)]) (st' := [yi c3, yi c3, .ref 63]) (hp' := H3) rfl ?_
  refine Y_call hk rfl (as := [.ref 63, yi c3, yi c3]) (rest := []) (v := some (yi (sg X (v 7) (((v 8) + w_H1) + w_H3) - 48))) rfl rfl (Nat.le_of_ble_eq_true rfl) (rcv0 e_H3) (Nat.le_of_ble_eq_true rfl) (c_X9_takes (v := (vup (vup (vup (vup v 9 w_H1) 8 ((v 8) + w_H1)) 9 w_H3) 8 (((v 8) + w_H1) + w_H3))) e_H3 (f_H3.at (by decide) (f_H1.at (by decide) hX)) hn hc (show 0 ≤ ((v 8) + w_H1) + w_H3 ∧ ((v 8) + w_H1) + w_H3 ≤ v 7 by omega) (show w_H3 = 0 ∨ w_H3 = 1 by omega) (l := c3) (u := c3) (by omega) (hd := by omega)) (fun H5 r6 => ?_)
  obtain ⟨e0_H5, f_H5⟩ := r6
  obtain ⟨w_H5, hq_H5⟩ : ∃ w, b2 (w_H3 = 1 ∧ c3 ≤ sg X (v 7) (((v 8) + w_H1) + w_H3) ∧ sg X (v 7) (((v 8) + w_H1) + w_H3) ≤ c3) = w := ⟨_, rfl⟩
  have e_H5 : xat H5 63 = some (yMo (vup (vup (vup (vup (vup (vup v 9 w_H1) 8 ((v 8) + w_H1)) 9 w_H3) 8 (((v 8) + w_H1) + w_H3)) 9 w_H5) 8 ((((v 8) + w_H1) + w_H3) + w_H5))) := by rw [← hq_H5]; exact e0_H5
  obtain ⟨k1_H5, k2_H5, k3_H5⟩ := tk_step hc (show 0 ≤ ((v 8) + w_H1) + w_H3 ∧ ((v 8) + w_H1) + w_H3 ≤ v 7 by omega) (show w_H3 = 0 ∨ w_H3 = 1 by omega) (by omega) hq_H5
  refine E_run hk 4 (j' := 18) (lv' := [(0, .ref 63), (1, yi c1), (2, yi c2), (3, yi c3), (4, yi c4)]) (st' := [yi c4, yi c4, .ref 63]) (hp' := H5) rfl ?_
  refine Y_call hk rfl (as := [.ref 63, yi c4, yi c4]) (rest := []) (v := some (yi (sg X (v 7) ((((v 8) + w_H1) + w_H3) + w_H5) - 48))) rfl rfl (Nat.le_of_ble_eq_true rfl) (rcv0 e_H5) (Nat.le_of_ble_eq_true rfl) (c_X9_takes (v := (vup (vup (vup (vup (vup (vup v 9 w_H1) 8 ((v 8) + w_H1)) 9 w_H3) 8 (((v 8) + w_H1) + w_H3)) 9 w_H5) 8 ((((v 8) + w_H1) + w_H3) + w_H5))) e_H5 (f_H5.at (by decide) (f_H3.at (by decide) (f_H1.at (by decide) hX))) hn hc (show 0 ≤ (((v 8) + w_H1) + w_H3) + w_H5 ∧ (((v 8) + w_H1) + w_H3) + w_H5 ≤ v 7 by omega) (show w_H5 = 0 ∨ w_H5 = 1 by omega) (l := c4) (u := c4) (by omega) (hd := by omega)) (fun H7 r8 => ?_)
  obtain ⟨e0_H7, f_H7⟩ := r8
  obtain ⟨w_H7, hq_H7⟩ : ∃ w, b2 (w_H5 = 1 ∧ c4 ≤ sg X (v 7) ((((v 8) + w_H1) + w_H3) + w_H5) ∧ sg X (v 7) ((((v 8) + w_H1) + w_H3) + w_H5) ≤ c4) = w := ⟨_, rfl⟩
  have e_H7 : xat H7 63 = some (yMo (vup (vup (vup (vup (vup (vup (vup (vup v 9 w_H1) 8 ((v 8) + w_H1)) 9 w_H3) 8 (((v 8) + w_H1) + w_H3)) 9 w_H5) 8 ((((v 8) + w_H1) + w_H3) + w_H5)) 9 w_H7) 8 (((((v 8) + w_H1) + w_H3) + w_H5) + w_H7))) := by rw [← hq_H7]; exact e0_H7
  obtain ⟨k1_H7, k2_H7, k3_H7⟩ := tk_step hc (show 0 ≤ (((v 8) + w_H1) + w_H3) + w_H5 ∧ (((v 8) + w_H1) + w_H3) + w_H5 ≤ v 7 by omega) (show w_H5 = 0 ∨ w_H5 = 1 by omega) (by omega) hq_H7
  refine E_run hk 1 (j' := 20) (lv' := [(0, .ref 63), (1, yi c1), (2, yi c2), (3, yi c3), (4, yi c4)]) (st' := []) (hp' := H7) rfl ?_
  exact E_ret hk rfl rfl ⟨rfl, by rw [tls_c hq_H1, tls_c hq_H3, tls_c hq_H5, tls_c hq_H7]; exact e_H7, (yfr.tr (yfr.tr (yfr.tr f_H1 f_H3 (fun _ h => h) (by decide)) f_H5 (fun _ h => h) (by decide)) f_H7 (fun _ h => h) (by decide))⟩
theorem c_X9_readsWord {d : Nat} {hp : xH} {v : Nat → Int} (hM : xat hp 63 = some (yMo v)) {X : Int → Int} (hX : xat hp 67 = some (yI 60 X)) (hn : 0 ≤ v 7 ∧ v 7 ≤ 60) (hc : ∀ q, 0 ≤ q → q < v 7 → 33 ≤ X q ∧ X q ≤ 126) (ha : 0 ≤ v 8 ∧ v 8 ≤ v 7) (hw : v 9 = 1) (hd : 3 ≤ d) : Cv d 203 [.ref 63] hp (yE (fun z h => (0 ≤ z ∧ z ≤ 126) ∧ ∃ a2 w2, rwd X (v 7) (v 8) z a2 w2 ∧ xat h 63 = some (yMo (vup (vup v 9 w2) 8 a2)) ∧ yfr [63] hp h)) := by
  have hk : xtab 203 = (xc_203, 2, 1, []) := rfl
  obtain ⟨d, rfl⟩ : ∃ e, d = e + 1 := ⟨d - 1, by omega⟩
  have sr := sg_rng hc ha.1
  show Ev (d + 1) 203 0 [(0, .ref 63)] [] hp _
  refine E_run hk 1 (j' := 1) (lv' := [(0, .ref 63)]) (st' := [.ref 63]) (hp' := hp) rfl ?_
  refine Y_callP hk rfl (as := [.ref 63]) (rest := []) (v := some (yi (sg X (v 7) (v 8)))) rfl rfl (Nat.le_of_ble_eq_true rfl) (rcv0 hM) (Nat.le_of_ble_eq_true rfl) (c_X9_sign (v := v) hM hX (by first | exact hn | (show 0 ≤ v 7 ∧ v 7 ≤ 60; omega)) (by first | exact ha | (show 0 ≤ v 8 ∧ v 8 ≤ v 7; omega))) ?_
  refine E_run hk 3 (j' := 5) (lv' := [(1, yi (sg X (v 7) (v 8))), (0, .ref 63)]) (st' := [.ref 63, .ref 63]) (hp' := hp) rfl ?_
  refine E_get (v := yi (v 8)) hk rfl hM rfl ?_
  refine E_run hk 1 (j' := 7) (lv' := [(1, yi (sg X (v 7) (v 8))), (0, .ref 63)]) (st' := [yi 1, yi (v 8), .ref 63]) (hp' := hp) rfl ?_
  refine Y_iadd (a := (v 8)) (b := 1) hk rfl ?_
  refine Y_put hk rfl hM (by decide) (Nat.le_of_ble_eq_true rfl) rfl (fs' := [yi (v 0), .ref 64, .ref 65, yi (v 3), .ref 66, yi (v 5), .ref 67, yi (v 7), yi ((v 8) + 1), yi (v 9), .ref 68, yi (v 11), .ref 69, yi (v 13), .ref 70, .ref 71, .ref 72, .ref 73, .ref 74, .ref 75, yi (v 20), yi (v 21)]) rfl (fun H1 e2 f3 => ?_)
  refine E_run hk 1 (j' := 10) (lv' := [(1, yi (sg X (v 7) (v 8))), (0, .ref 63)]) (st' := [yi (sg X (v 7) (v 8))]) (hp' := H1) rfl ?_
  refine Y_sw (a := (sg X (v 7) (v 8))) (by omega) hk rfl (fun g4 => ?_) (fun g4 => ?_)
  · refine E_tgt (t := 109) rfl ?_
    refine E_run hk 2 (j' := 111) (lv' := [(1, yi (sg X (v 7) (v 8))), (0, .ref 63)]) (st' := [yi 0, .ref 63]) (hp' := H1) rfl ?_
    refine Y_put hk rfl e2 (by decide) (Nat.le_of_ble_eq_true rfl) rfl (fs' := [yi (v 0), .ref 64, .ref 65, yi (v 3), .ref 66, yi (v 5), .ref 67, yi (v 7), yi ((v 8) + 1), yi 0, .ref 68, yi (v 11), .ref 69, yi (v 13), .ref 70, .ref 71, .ref 72, .ref 73, .ref 74, .ref 75, yi (v 20), yi (v 21)]) rfl (fun H5 e6 f7 => ?_)
    refine E_run hk 2 (j' := 114) (lv' := [(1, yi (sg X (v 7) (v 8))), (0, .ref 63)]) (st' := [.ref 63, .ref 63]) (hp' := H5) rfl ?_
    refine E_get (v := yi ((v 8) + 1)) hk rfl e6 rfl ?_
    refine E_run hk 1 (j' := 116) (lv' := [(1, yi (sg X (v 7) (v 8))), (0, .ref 63)]) (st' := [yi 1, yi ((v 8) + 1), .ref 63]) (hp' := H5) rfl ?_
    refine Y_isub (a := ((v 8) + 1)) (b := 1) hk rfl ?_
    refine Y_put hk rfl e6 (by decide) (Nat.le_of_ble_eq_true rfl) rfl (fs' := [yi (v 0), .ref 64, .ref 65, yi (v 3), .ref 66, yi (v 5), .ref 67, yi (v 7), yi (((v 8) + 1) - 1), yi 0, .ref 68, yi (v 11), .ref 69, yi (v 13), .ref 70, .ref 71, .ref 72, .ref 73, .ref 74, .ref 75, yi (v 20), yi (v 21)]) rfl (fun H8 e9 f10 => ?_)
    refine E_run hk 1 (j' := 119) (lv' := [(1, yi (sg X (v 7) (v 8))), (0, .ref 63)]) (st' := [yi (sg X (v 7) (v 8))]) (hp' := H8) rfl ?_
    exact E_ret hk rfl rfl ⟨_, rfl, by omega, v 8, 0, rwd_no ha (by omega), by have e9 := e9; rw [show v 8 + 1 - 1 = v 8 by omega] at e9; exact e9, (yfr.tr (yfr.tr f3 f7 (fun _ h => h) (by decide)) f10 (fun _ h => h) (by decide))⟩
  · rcases (by omega : (sg X (v 7) (v 8)) = 98 ∨ (sg X (v 7) (v 8)) = 99 ∨ (sg X (v 7) (v 8)) = 100 ∨ (sg X (v 7) (v 8)) = 101 ∨ (sg X (v 7) (v 8)) = 102 ∨ (sg X (v 7) (v 8)) = 103 ∨ (sg X (v 7) (v 8)) = 104 ∨ (sg X (v 7) (v 8)) = 105 ∨ (sg X (v 7) (v 8)) = 106 ∨ (sg X (v 7) (v 8)) = 107 ∨ (sg X (v 7) (v 8)) = 108 ∨ (sg X (v 7) (v 8)) = 109 ∨ (sg X (v 7) (v 8)) = 110 ∨ (sg X (v 7) (v 8)) = 111 ∨ (sg X (v 7) (v 8)) = 112 ∨ (sg X (v 7) (v 8)) = 113 ∨ (sg X (v 7) (v 8)) = 114 ∨ (sg X (v 7) (v 8)) = 115) with g4e | g4e | g4e | g4e | g4e | g4e | g4e | g4e | g4e | g4e | g4e | g4e | g4e | g4e | g4e | g4e | g4e | g4e
    · refine E_tgt (t := 79) (by rw [g4e]; rfl) ?_
      refine E_run hk 5 (j' := 84) (lv' := [(1, yi (sg X (v 7) (v 8))), (0, .ref 63)]) (st' := [yi 100, yi 110, yi 117, yi 111, .ref 63]) (hp' := H1) rfl ?_
      refine Y_call hk rfl (as := [.ref 63, yi 111, yi 117, yi 110, yi 100]) (rest := []) (v := none) rfl rfl (Nat.le_of_ble_eq_true rfl) (rcv0 e2) (Nat.le_of_ble_eq_true rfl) (c_X9_takesAll (v := (vup v 8 ((v 8) + 1))) e2 (f3.at (by decide) hX) hn hc (show 0 ≤ (v 8) + 1 ∧ (v 8) + 1 ≤ v 7 by omega) (show v 9 = 0 ∨ v 9 = 1 by omega) (c1 := 111) (c2 := 117) (c3 := 110) (c4 := 100) (by omega) (hd := by omega)) (fun H11 r12 => ?_)
      obtain ⟨e0_H11, f_H11⟩ := r12
      obtain ⟨a_H11, w_H11, hq_H11⟩ : ∃ a w, tls X (v 7) [111, 117, 110, 100] ((v 8) + 1) (v 9) = (a, w) := ⟨_, _, rfl⟩
      have e_H11 : xat H11 63 = some (yMo (vup (vup (vup v 8 ((v 8) + 1)) 9 w_H11) 8 a_H11)) := by have e9 : xat H11 63 = some (yMo (vup (vup (vup v 8 ((v 8) + 1)) 9 ((tls X (v 7) [111, 117, 110, 100] ((v 8) + 1) (v 9)).2)) 8 ((tls X (v 7) [111, 117, 110, 100] ((v 8) + 1) (v 9)).1))) := e0_H11; rw [hq_H11] at e9; exact e9
      refine E_run hk 2 (j' := 119) (lv' := [(1, yi (sg X (v 7) (v 8))), (0, .ref 63)]) (st' := [yi (sg X (v 7) (v 8))]) (hp' := H11) rfl ?_
      exact E_ret hk rfl rfl ⟨_, rfl, by omega, a_H11, w_H11, rwd_of (o := 5) hc (by decide) (by omega) ((show X (v 8) = 98 by omega).trans (by decide +kernel)) (fun q => absurd q (by decide)) (fun q => absurd q (by decide)) [111, 117, 110, 100] rfl ((congrArg (tls X (v 7) [111, 117, 110, 100] (v 8 + 1)) hw.symm).trans hq_H11) ((show sg X (v 7) (v 8) = 98 by omega).trans (by decide)), e_H11, (yfr.tr f3 f_H11 (fun _ h => h) (by decide))⟩
    · refine E_tgt (t := 109) (by rw [g4e]; rfl) ?_
      refine E_run hk 2 (j' := 111) (lv' := [(1, yi (sg X (v 7) (v 8))), (0, .ref 63)]) (st' := [yi 0, .ref 63]) (hp' := H1) rfl ?_
      refine Y_put hk rfl e2 (by decide) (Nat.le_of_ble_eq_true rfl) rfl (fs' := [yi (v 0), .ref 64, .ref 65, yi (v 3), .ref 66, yi (v 5), .ref 67, yi (v 7), yi ((v 8) + 1), yi 0, .ref 68, yi (v 11), .ref 69, yi (v 13), .ref 70, .ref 71, .ref 72, .ref 73, .ref 74, .ref 75, yi (v 20), yi (v 21)]) rfl (fun H13 e14 f15 => ?_)
      refine E_run hk 2 (j' := 114) (lv' := [(1, yi (sg X (v 7) (v 8))), (0, .ref 63)]) (st' := [.ref 63, .ref 63]) (hp' := H13) rfl ?_
      refine E_get (v := yi ((v 8) + 1)) hk rfl e14 rfl ?_
      refine E_run hk 1 (j' := 116) (lv' := [(1, yi (sg X (v 7) (v 8))), (0, .ref 63)]) (st' := [yi 1, yi ((v 8) + 1), .ref 63]) (hp' := H13) rfl ?_
      refine Y_isub (a := ((v 8) + 1)) (b := 1) hk rfl ?_
      refine Y_put hk rfl e14 (by decide) (Nat.le_of_ble_eq_true rfl) rfl (fs' := [yi (v 0), .ref 64, .ref 65, yi (v 3), .ref 66, yi (v 5), .ref 67, yi (v 7), yi (((v 8) + 1) - 1), yi 0, .ref 68, yi (v 11), .ref 69, yi (v 13), .ref 70, .ref 71, .ref 72, .ref 73, .ref 74, .ref 75, yi (v 20), yi (v 21)]) rfl (fun H16 e17 f18 => ?_)
      refine E_run hk 1 (j' := 119) (lv' := [(1, yi (sg X (v 7) (v 8))), (0, .ref 63)]) (st' := [yi (sg X (v 7) (v 8))]) (hp' := H16) rfl ?_
      exact E_ret hk rfl rfl ⟨_, rfl, by omega, v 8, 0, rwd_no ha (by omega), by have e9 := e17; rw [show v 8 + 1 - 1 = v 8 by omega] at e9; exact e9, (yfr.tr (yfr.tr f3 f15 (fun _ h => h) (by decide)) f18 (fun _ h => h) (by decide))⟩
    · refine E_tgt (t := 109) (by rw [g4e]; rfl) ?_
      refine E_run hk 2 (j' := 111) (lv' := [(1, yi (sg X (v 7) (v 8))), (0, .ref 63)]) (st' := [yi 0, .ref 63]) (hp' := H1) rfl ?_
      refine Y_put hk rfl e2 (by decide) (Nat.le_of_ble_eq_true rfl) rfl (fs' := [yi (v 0), .ref 64, .ref 65, yi (v 3), .ref 66, yi (v 5), .ref 67, yi (v 7), yi ((v 8) + 1), yi 0, .ref 68, yi (v 11), .ref 69, yi (v 13), .ref 70, .ref 71, .ref 72, .ref 73, .ref 74, .ref 75, yi (v 20), yi (v 21)]) rfl (fun H19 e20 f21 => ?_)
      refine E_run hk 2 (j' := 114) (lv' := [(1, yi (sg X (v 7) (v 8))), (0, .ref 63)]) (st' := [.ref 63, .ref 63]) (hp' := H19) rfl ?_
      refine E_get (v := yi ((v 8) + 1)) hk rfl e20 rfl ?_
      refine E_run hk 1 (j' := 116) (lv' := [(1, yi (sg X (v 7) (v 8))), (0, .ref 63)]) (st' := [yi 1, yi ((v 8) + 1), .ref 63]) (hp' := H19) rfl ?_
      refine Y_isub (a := ((v 8) + 1)) (b := 1) hk rfl ?_
      refine Y_put hk rfl e20 (by decide) (Nat.le_of_ble_eq_true rfl) rfl (fs' := [yi (v 0), .ref 64, .ref 65, yi (v 3), .ref 66, yi (v 5), .ref 67, yi (v 7), yi (((v 8) + 1) - 1), yi 0, .ref 68, yi (v 11), .ref 69, yi (v 13), .ref 70, .ref 71, .ref 72, .ref 73, .ref 74, .ref 75, yi (v 20), yi (v 21)]) rfl (fun H22 e23 f24 => ?_)
      refine E_run hk 1 (j' := 119) (lv' := [(1, yi (sg X (v 7) (v 8))), (0, .ref 63)]) (st' := [yi (sg X (v 7) (v 8))]) (hp' := H22) rfl ?_
      exact E_ret hk rfl rfl ⟨_, rfl, by omega, v 8, 0, rwd_no ha (by omega), by have e9 := e23; rw [show v 8 + 1 - 1 = v 8 by omega] at e9; exact e9, (yfr.tr (yfr.tr f3 f21 (fun _ h => h) (by decide)) f24 (fun _ h => h) (by decide))⟩
    · refine E_tgt (t := 109) (by rw [g4e]; rfl) ?_
      refine E_run hk 2 (j' := 111) (lv' := [(1, yi (sg X (v 7) (v 8))), (0, .ref 63)]) (st' := [yi 0, .ref 63]) (hp' := H1) rfl ?_
      refine Y_put hk rfl e2 (by decide) (Nat.le_of_ble_eq_true rfl) rfl (fs' := [yi (v 0), .ref 64, .ref 65, yi (v 3), .ref 66, yi (v 5), .ref 67, yi (v 7), yi ((v 8) + 1), yi 0, .ref 68, yi (v 11), .ref 69, yi (v 13), .ref 70, .ref 71, .ref 72, .ref 73, .ref 74, .ref 75, yi (v 20), yi (v 21)]) rfl (fun H25 e26 f27 => ?_)
      refine E_run hk 2 (j' := 114) (lv' := [(1, yi (sg X (v 7) (v 8))), (0, .ref 63)]) (st' := [.ref 63, .ref 63]) (hp' := H25) rfl ?_
      refine E_get (v := yi ((v 8) + 1)) hk rfl e26 rfl ?_
      refine E_run hk 1 (j' := 116) (lv' := [(1, yi (sg X (v 7) (v 8))), (0, .ref 63)]) (st' := [yi 1, yi ((v 8) + 1), .ref 63]) (hp' := H25) rfl ?_
      refine Y_isub (a := ((v 8) + 1)) (b := 1) hk rfl ?_
      refine Y_put hk rfl e26 (by decide) (Nat.le_of_ble_eq_true rfl) rfl (fs' := [yi (v 0), .ref 64, .ref 65, yi (v 3), .ref 66, yi (v 5), .ref 67, yi (v 7), yi (((v 8) + 1) - 1), yi 0, .ref 68, yi (v 11), .ref 69, yi (v 13), .ref 70, .ref 71, .ref 72, .ref 73, .ref 74, .ref 75, yi (v 20), yi (v 21)]) rfl (fun H28 e29 f30 => ?_)
      refine E_run hk 1 (j' := 119) (lv' := [(1, yi (sg X (v 7) (v 8))), (0, .ref 63)]) (st' := [yi (sg X (v 7) (v 8))]) (hp' := H28) rfl ?_
      exact E_ret hk rfl rfl ⟨_, rfl, by omega, v 8, 0, rwd_no ha (by omega), by have e9 := e29; rw [show v 8 + 1 - 1 = v 8 by omega] at e9; exact e9, (yfr.tr (yfr.tr f3 f27 (fun _ h => h) (by decide)) f30 (fun _ h => h) (by decide))⟩
    · refine E_tgt (t := 63) (by rw [g4e]; rfl) ?_
      refine E_run hk 3 (j' := 66) (lv' := [(1, yi (sg X (v 7) (v 8))), (0, .ref 63)]) (st' := [yi 108, yi 108, .ref 63]) (hp' := H1) rfl ?_
      refine Y_call hk rfl (as := [.ref 63, yi 108, yi 108]) (rest := []) (v := some (yi (sg X (v 7) ((v 8) + 1) - 48))) rfl rfl (Nat.le_of_ble_eq_true rfl) (rcv0 e2) (Nat.le_of_ble_eq_true rfl) (c_X9_takes (v := (vup v 8 ((v 8) + 1))) e2 (f3.at (by decide) hX) hn hc (show 0 ≤ (v 8) + 1 ∧ (v 8) + 1 ≤ v 7 by omega) (show v 9 = 0 ∨ v 9 = 1 by omega) (l := 108) (u := 108) (by omega) (hd := by omega)) (fun H31 r32 => ?_)
      obtain ⟨e0_H31, f_H31⟩ := r32
      obtain ⟨w_H31, hq_H31⟩ : ∃ w, b2 (v 9 = 1 ∧ 108 ≤ sg X (v 7) ((v 8) + 1) ∧ sg X (v 7) ((v 8) + 1) ≤ 108) = w := ⟨_, rfl⟩
      have e_H31 : xat H31 63 = some (yMo (vup (vup (vup v 8 ((v 8) + 1)) 9 w_H31) 8 (((v 8) + 1) + w_H31))) := by rw [← hq_H31]; exact e0_H31
      obtain ⟨k1_H31, k2_H31, k3_H31⟩ := tk_step hc (show 0 ≤ (v 8) + 1 ∧ (v 8) + 1 ≤ v 7 by omega) (show v 9 = 0 ∨ v 9 = 1 by omega) (by omega) hq_H31
      refine E_run hk 4 (j' := 71) (lv' := [(1, yi (sg X (v 7) (v 8))), (0, .ref 63)]) (st' := [yi 105, yi 105, .ref 63]) (hp' := H31) rfl ?_
      refine Y_call hk rfl (as := [.ref 63, yi 105, yi 105]) (rest := []) (v := some (yi (sg X (v 7) (((v 8) + 1) + w_H31) - 48))) rfl rfl (Nat.le_of_ble_eq_true rfl) (rcv0 e_H31) (Nat.le_of_ble_eq_true rfl) (c_X9_takes (v := (vup (vup (vup v 8 ((v 8) + 1)) 9 w_H31) 8 (((v 8) + 1) + w_H31))) e_H31 (f_H31.at (by decide) (f3.at (by decide) hX)) hn hc (show 0 ≤ ((v 8) + 1) + w_H31 ∧ ((v 8) + 1) + w_H31 ≤ v 7 by omega) (show w_H31 = 0 ∨ w_H31 = 1 by omega) (l := 105) (u := 105) (by omega) (hd := by omega)) (fun H33 r34 => ?_)
      obtain ⟨e0_H33, f_H33⟩ := r34
      obtain ⟨w_H33, hq_H33⟩ : ∃ w, b2 (w_H31 = 1 ∧ 105 ≤ sg X (v 7) (((v 8) + 1) + w_H31) ∧ sg X (v 7) (((v 8) + 1) + w_H31) ≤ 105) = w := ⟨_, rfl⟩
      have e_H33 : xat H33 63 = some (yMo (vup (vup (vup (vup (vup v 8 ((v 8) + 1)) 9 w_H31) 8 (((v 8) + 1) + w_H31)) 9 w_H33) 8 ((((v 8) + 1) + w_H31) + w_H33))) := by rw [← hq_H33]; exact e0_H33
      obtain ⟨k1_H33, k2_H33, k3_H33⟩ := tk_step hc (show 0 ≤ ((v 8) + 1) + w_H31 ∧ ((v 8) + 1) + w_H31 ≤ v 7 by omega) (show w_H31 = 0 ∨ w_H31 = 1 by omega) (by omega) hq_H33
      refine E_run hk 4 (j' := 76) (lv' := [(1, yi (sg X (v 7) (v 8))), (0, .ref 63)]) (st' := [yi 112, yi 112, .ref 63]) (hp' := H33) rfl ?_
      refine Y_call hk rfl (as := [.ref 63, yi 112, yi 112]) (rest := []) (v := some (yi (sg X (v 7) ((((v 8) + 1) + w_H31) + w_H33) - 48))) rfl rfl (Nat.le_of_ble_eq_true rfl) (rcv0 e_H33) (Nat.le_of_ble_eq_true rfl) (c_X9_takes (v := (vup (vup (vup (vup (vup v 8 ((v 8) + 1)) 9 w_H31) 8 (((v 8) + 1) + w_H31)) 9 w_H33) 8 ((((v 8) + 1) + w_H31) + w_H33))) e_H33 (f_H33.at (by decide) (f_H31.at (by decide) (f3.at (by decide) hX))) hn hc (show 0 ≤ (((v 8) + 1) + w_H31) + w_H33 ∧ (((v 8) + 1) + w_H31) + w_H33 ≤ v 7 by omega) (show w_H33 = 0 ∨ w_H33 = 1 by omega) (l := 112) (u := 112) (by omega) (hd := by omega)) (fun H35 r36 => ?_)
      obtain ⟨e0_H35, f_H35⟩ := r36
      obtain ⟨w_H35, hq_H35⟩ : ∃ w, b2 (w_H33 = 1 ∧ 112 ≤ sg X (v 7) ((((v 8) + 1) + w_H31) + w_H33) ∧ sg X (v 7) ((((v 8) + 1) + w_H31) + w_H33) ≤ 112) = w := ⟨_, rfl⟩
      have e_H35 : xat H35 63 = some (yMo (vup (vup (vup (vup (vup (vup (vup v 8 ((v 8) + 1)) 9 w_H31) 8 (((v 8) + 1) + w_H31)) 9 w_H33) 8 ((((v 8) + 1) + w_H31) + w_H33)) 9 w_H35) 8 (((((v 8) + 1) + w_H31) + w_H33) + w_H35))) := by rw [← hq_H35]; exact e0_H35
      obtain ⟨k1_H35, k2_H35, k3_H35⟩ := tk_step hc (show 0 ≤ (((v 8) + 1) + w_H31) + w_H33 ∧ (((v 8) + 1) + w_H31) + w_H33 ≤ v 7 by omega) (show w_H33 = 0 ∨ w_H33 = 1 by omega) (by omega) hq_H35
      refine E_run hk 3 (j' := 119) (lv' := [(1, yi (sg X (v 7) (v 8))), (0, .ref 63)]) (st' := [yi (sg X (v 7) (v 8))]) (hp' := H35) rfl ?_
      exact E_ret hk rfl rfl ⟨_, rfl, by omega, ((((v 8) + 1) + w_H31) + w_H33) + w_H35, w_H35, rwd_of (o := 4) hc (by decide) (by omega) ((show X (v 8) = 102 by omega).trans (by decide +kernel)) (fun q => absurd q (by decide)) (fun q => absurd q (by decide)) [108, 105, 112] rfl ((congrArg (tls X (v 7) [108, 105, 112] (v 8 + 1)) hw.symm).trans (by rw [tls_c hq_H31, tls_c hq_H33, tls_c hq_H35]; rfl)) ((show sg X (v 7) (v 8) = 102 by omega).trans (by decide)), e_H35, (yfr.tr (yfr.tr (yfr.tr f3 f_H31 (fun _ h => h) (by decide)) f_H33 (fun _ h => h) (by decide)) f_H35 (fun _ h => h) (by decide))⟩
    · refine E_tgt (t := 109) (by rw [g4e]; rfl) ?_
      refine E_run hk 2 (j' := 111) (lv' := [(1, yi (sg X (v 7) (v 8))), (0, .ref 63)]) (st' := [yi 0, .ref 63]) (hp' := H1) rfl ?_
      refine Y_put hk rfl e2 (by decide) (Nat.le_of_ble_eq_true rfl) rfl (fs' := [yi (v 0), .ref 64, .ref 65, yi (v 3), .ref 66, yi (v 5), .ref 67, yi (v 7), yi ((v 8) + 1), yi 0, .ref 68, yi (v 11), .ref 69, yi (v 13), .ref 70, .ref 71, .ref 72, .ref 73, .ref 74, .ref 75, yi (v 20), yi (v 21)]) rfl (fun H37 e38 f39 => ?_)
      refine E_run hk 2 (j' := 114) (lv' := [(1, yi (sg X (v 7) (v 8))), (0, .ref 63)]) (st' := [.ref 63, .ref 63]) (hp' := H37) rfl ?_
      refine E_get (v := yi ((v 8) + 1)) hk rfl e38 rfl ?_
      refine E_run hk 1 (j' := 116) (lv' := [(1, yi (sg X (v 7) (v 8))), (0, .ref 63)]) (st' := [yi 1, yi ((v 8) + 1), .ref 63]) (hp' := H37) rfl ?_
      refine Y_isub (a := ((v 8) + 1)) (b := 1) hk rfl ?_
      refine Y_put hk rfl e38 (by decide) (Nat.le_of_ble_eq_true rfl) rfl (fs' := [yi (v 0), .ref 64, .ref 65, yi (v 3), .ref 66, yi (v 5), .ref 67, yi (v 7), yi (((v 8) + 1) - 1), yi 0, .ref 68, yi (v 11), .ref 69, yi (v 13), .ref 70, .ref 71, .ref 72, .ref 73, .ref 74, .ref 75, yi (v 20), yi (v 21)]) rfl (fun H40 e41 f42 => ?_)
      refine E_run hk 1 (j' := 119) (lv' := [(1, yi (sg X (v 7) (v 8))), (0, .ref 63)]) (st' := [yi (sg X (v 7) (v 8))]) (hp' := H40) rfl ?_
      exact E_ret hk rfl rfl ⟨_, rfl, by omega, v 8, 0, rwd_no ha (by omega), by have e9 := e41; rw [show v 8 + 1 - 1 = v 8 by omega] at e9; exact e9, (yfr.tr (yfr.tr f3 f39 (fun _ h => h) (by decide)) f42 (fun _ h => h) (by decide))⟩
    · refine E_tgt (t := 86) (by rw [g4e]; rfl) ?_
      refine E_run hk 3 (j' := 89) (lv' := [(1, yi (sg X (v 7) (v 8))), (0, .ref 63)]) (st' := [yi 111, yi 111, .ref 63]) (hp' := H1) rfl ?_
      refine Y_call hk rfl (as := [.ref 63, yi 111, yi 111]) (rest := []) (v := some (yi (sg X (v 7) ((v 8) + 1) - 48))) rfl rfl (Nat.le_of_ble_eq_true rfl) (rcv0 e2) (Nat.le_of_ble_eq_true rfl) (c_X9_takes (v := (vup v 8 ((v 8) + 1))) e2 (f3.at (by decide) hX) hn hc (show 0 ≤ (v 8) + 1 ∧ (v 8) + 1 ≤ v 7 by omega) (show v 9 = 0 ∨ v 9 = 1 by omega) (l := 111) (u := 111) (by omega) (hd := by omega)) (fun H43 r44 => ?_)
      obtain ⟨e0_H43, f_H43⟩ := r44
      obtain ⟨w_H43, hq_H43⟩ : ∃ w, b2 (v 9 = 1 ∧ 111 ≤ sg X (v 7) ((v 8) + 1) ∧ sg X (v 7) ((v 8) + 1) ≤ 111) = w := ⟨_, rfl⟩
      have e_H43 : xat H43 63 = some (yMo (vup (vup (vup v 8 ((v 8) + 1)) 9 w_H43) 8 (((v 8) + 1) + w_H43))) := by rw [← hq_H43]; exact e0_H43
      obtain ⟨k1_H43, k2_H43, k3_H43⟩ := tk_step hc (show 0 ≤ (v 8) + 1 ∧ (v 8) + 1 ≤ v 7 by omega) (show v 9 = 0 ∨ v 9 = 1 by omega) (by omega) hq_H43
      refine E_run hk 4 (j' := 94) (lv' := [(1, yi (sg X (v 7) (v 8))), (0, .ref 63)]) (st' := [yi 108, yi 108, .ref 63]) (hp' := H43) rfl ?_
      refine Y_call hk rfl (as := [.ref 63, yi 108, yi 108]) (rest := []) (v := some (yi (sg X (v 7) (((v 8) + 1) + w_H43) - 48))) rfl rfl (Nat.le_of_ble_eq_true rfl) (rcv0 e_H43) (Nat.le_of_ble_eq_true rfl) (c_X9_takes (v := (vup (vup (vup v 8 ((v 8) + 1)) 9 w_H43) 8 (((v 8) + 1) + w_H43))) e_H43 (f_H43.at (by decide) (f3.at (by decide) hX)) hn hc (show 0 ≤ ((v 8) + 1) + w_H43 ∧ ((v 8) + 1) + w_H43 ≤ v 7 by omega) (show w_H43 = 0 ∨ w_H43 = 1 by omega) (l := 108) (u := 108) (by omega) (hd := by omega)) (fun H45 r46 => ?_)
      obtain ⟨e0_H45, f_H45⟩ := r46
      obtain ⟨w_H45, hq_H45⟩ : ∃ w, b2 (w_H43 = 1 ∧ 108 ≤ sg X (v 7) (((v 8) + 1) + w_H43) ∧ sg X (v 7) (((v 8) + 1) + w_H43) ≤ 108) = w := ⟨_, rfl⟩
      have e_H45 : xat H45 63 = some (yMo (vup (vup (vup (vup (vup v 8 ((v 8) + 1)) 9 w_H43) 8 (((v 8) + 1) + w_H43)) 9 w_H45) 8 ((((v 8) + 1) + w_H43) + w_H45))) := by rw [← hq_H45]; exact e0_H45
      obtain ⟨k1_H45, k2_H45, k3_H45⟩ := tk_step hc (show 0 ≤ ((v 8) + 1) + w_H43 ∧ ((v 8) + 1) + w_H43 ≤ v 7 by omega) (show w_H43 = 0 ∨ w_H43 = 1 by omega) (by omega) hq_H45
      refine E_run hk 4 (j' := 99) (lv' := [(1, yi (sg X (v 7) (v 8))), (0, .ref 63)]) (st' := [yi 100, yi 100, .ref 63]) (hp' := H45) rfl ?_
      refine Y_call hk rfl (as := [.ref 63, yi 100, yi 100]) (rest := []) (v := some (yi (sg X (v 7) ((((v 8) + 1) + w_H43) + w_H45) - 48))) rfl rfl (Nat.le_of_ble_eq_true rfl) (rcv0 e_H45) (Nat.le_of_ble_eq_true rfl) (c_X9_takes (v := (vup (vup (vup (vup (vup v 8 ((v 8) + 1)) 9 w_H43) 8 (((v 8) + 1) + w_H43)) 9 w_H45) 8 ((((v 8) + 1) + w_H43) + w_H45))) e_H45 (f_H45.at (by decide) (f_H43.at (by decide) (f3.at (by decide) hX))) hn hc (show 0 ≤ (((v 8) + 1) + w_H43) + w_H45 ∧ (((v 8) + 1) + w_H43) + w_H45 ≤ v 7 by omega) (show w_H45 = 0 ∨ w_H45 = 1 by omega) (l := 100) (u := 100) (by omega) (hd := by omega)) (fun H47 r48 => ?_)
      obtain ⟨e0_H47, f_H47⟩ := r48
      obtain ⟨w_H47, hq_H47⟩ : ∃ w, b2 (w_H45 = 1 ∧ 100 ≤ sg X (v 7) ((((v 8) + 1) + w_H43) + w_H45) ∧ sg X (v 7) ((((v 8) + 1) + w_H43) + w_H45) ≤ 100) = w := ⟨_, rfl⟩
      have e_H47 : xat H47 63 = some (yMo (vup (vup (vup (vup (vup (vup (vup v 8 ((v 8) + 1)) 9 w_H43) 8 (((v 8) + 1) + w_H43)) 9 w_H45) 8 ((((v 8) + 1) + w_H43) + w_H45)) 9 w_H47) 8 (((((v 8) + 1) + w_H43) + w_H45) + w_H47))) := by rw [← hq_H47]; exact e0_H47
      obtain ⟨k1_H47, k2_H47, k3_H47⟩ := tk_step hc (show 0 ≤ (((v 8) + 1) + w_H43) + w_H45 ∧ (((v 8) + 1) + w_H43) + w_H45 ≤ v 7 by omega) (show w_H45 = 0 ∨ w_H45 = 1 by omega) (by omega) hq_H47
      refine E_run hk 3 (j' := 119) (lv' := [(1, yi (sg X (v 7) (v 8))), (0, .ref 63)]) (st' := [yi (sg X (v 7) (v 8))]) (hp' := H47) rfl ?_
      exact E_ret hk rfl rfl ⟨_, rfl, by omega, ((((v 8) + 1) + w_H43) + w_H45) + w_H47, w_H47, rwd_of (o := 6) hc (by decide) (by omega) ((show X (v 8) = 104 by omega).trans (by decide +kernel)) (fun q => absurd q (by decide)) (fun q => absurd q (by decide)) [111, 108, 100] rfl ((congrArg (tls X (v 7) [111, 108, 100] (v 8 + 1)) hw.symm).trans (by rw [tls_c hq_H43, tls_c hq_H45, tls_c hq_H47]; rfl)) ((show sg X (v 7) (v 8) = 104 by omega).trans (by decide)), e_H47, (yfr.tr (yfr.tr (yfr.tr f3 f_H43 (fun _ h => h) (by decide)) f_H45 (fun _ h => h) (by decide)) f_H47 (fun _ h => h) (by decide))⟩
    · refine E_tgt (t := 109) (by rw [g4e]; rfl) ?_
      refine E_run hk 2 (j' := 111) (lv' := [(1, yi (sg X (v 7) (v 8))), (0, .ref 63)]) (st' := [yi 0, .ref 63]) (hp' := H1) rfl ?_
      refine Y_put hk rfl e2 (by decide) (Nat.le_of_ble_eq_true rfl) rfl (fs' := [yi (v 0), .ref 64, .ref 65, yi (v 3), .ref 66, yi (v 5), .ref 67, yi (v 7), yi ((v 8) + 1), yi 0, .ref 68, yi (v 11), .ref 69, yi (v 13), .ref 70, .ref 71, .ref 72, .ref 73, .ref 74, .ref 75, yi (v 20), yi (v 21)]) rfl (fun H49 e50 f51 => ?_)
      refine E_run hk 2 (j' := 114) (lv' := [(1, yi (sg X (v 7) (v 8))), (0, .ref 63)]) (st' := [.ref 63, .ref 63]) (hp' := H49) rfl ?_
      refine E_get (v := yi ((v 8) + 1)) hk rfl e50 rfl ?_
      refine E_run hk 1 (j' := 116) (lv' := [(1, yi (sg X (v 7) (v 8))), (0, .ref 63)]) (st' := [yi 1, yi ((v 8) + 1), .ref 63]) (hp' := H49) rfl ?_
      refine Y_isub (a := ((v 8) + 1)) (b := 1) hk rfl ?_
      refine Y_put hk rfl e50 (by decide) (Nat.le_of_ble_eq_true rfl) rfl (fs' := [yi (v 0), .ref 64, .ref 65, yi (v 3), .ref 66, yi (v 5), .ref 67, yi (v 7), yi (((v 8) + 1) - 1), yi 0, .ref 68, yi (v 11), .ref 69, yi (v 13), .ref 70, .ref 71, .ref 72, .ref 73, .ref 74, .ref 75, yi (v 20), yi (v 21)]) rfl (fun H52 e53 f54 => ?_)
      refine E_run hk 1 (j' := 119) (lv' := [(1, yi (sg X (v 7) (v 8))), (0, .ref 63)]) (st' := [yi (sg X (v 7) (v 8))]) (hp' := H52) rfl ?_
      exact E_ret hk rfl rfl ⟨_, rfl, by omega, v 8, 0, rwd_no ha (by omega), by have e9 := e53; rw [show v 8 + 1 - 1 = v 8 by omega] at e9; exact e9, (yfr.tr (yfr.tr f3 f51 (fun _ h => h) (by decide)) f54 (fun _ h => h) (by decide))⟩
    · refine E_tgt (t := 102) (by rw [g4e]; rfl) ?_
      refine E_run hk 5 (j' := 107) (lv' := [(1, yi (sg X (v 7) (v 8))), (0, .ref 63)]) (st' := [yi 101, yi 103, yi 100, yi 117, .ref 63]) (hp' := H1) rfl ?_
      refine Y_call hk rfl (as := [.ref 63, yi 117, yi 100, yi 103, yi 101]) (rest := []) (v := none) rfl rfl (Nat.le_of_ble_eq_true rfl) (rcv0 e2) (Nat.le_of_ble_eq_true rfl) (c_X9_takesAll (v := (vup v 8 ((v 8) + 1))) e2 (f3.at (by decide) hX) hn hc (show 0 ≤ (v 8) + 1 ∧ (v 8) + 1 ≤ v 7 by omega) (show v 9 = 0 ∨ v 9 = 1 by omega) (c1 := 117) (c2 := 100) (c3 := 103) (c4 := 101) (by omega) (hd := by omega)) (fun H55 r56 => ?_)
      obtain ⟨e0_H55, f_H55⟩ := r56
      obtain ⟨a_H55, w_H55, hq_H55⟩ : ∃ a w, tls X (v 7) [117, 100, 103, 101] ((v 8) + 1) (v 9) = (a, w) := ⟨_, _, rfl⟩
      have e_H55 : xat H55 63 = some (yMo (vup (vup (vup v 8 ((v 8) + 1)) 9 w_H55) 8 a_H55)) := by have e9 : xat H55 63 = some (yMo (vup (vup (vup v 8 ((v 8) + 1)) 9 ((tls X (v 7) [117, 100, 103, 101] ((v 8) + 1) (v 9)).2)) 8 ((tls X (v 7) [117, 100, 103, 101] ((v 8) + 1) (v 9)).1))) := e0_H55; rw [hq_H55] at e9; exact e9
      refine E_run hk 2 (j' := 119) (lv' := [(1, yi (sg X (v 7) (v 8))), (0, .ref 63)]) (st' := [yi (sg X (v 7) (v 8))]) (hp' := H55) rfl ?_
      exact E_ret hk rfl rfl ⟨_, rfl, by omega, a_H55, w_H55, rwd_of (o := 7) hc (by decide) (by omega) ((show X (v 8) = 106 by omega).trans (by decide +kernel)) (fun q => absurd q (by decide)) (fun q => absurd q (by decide)) [117, 100, 103, 101] rfl ((congrArg (tls X (v 7) [117, 100, 103, 101] (v 8 + 1)) hw.symm).trans hq_H55) ((show sg X (v 7) (v 8) = 106 by omega).trans (by decide)), e_H55, (yfr.tr f3 f_H55 (fun _ h => h) (by decide))⟩
    · refine E_tgt (t := 109) (by rw [g4e]; rfl) ?_
      refine E_run hk 2 (j' := 111) (lv' := [(1, yi (sg X (v 7) (v 8))), (0, .ref 63)]) (st' := [yi 0, .ref 63]) (hp' := H1) rfl ?_
      refine Y_put hk rfl e2 (by decide) (Nat.le_of_ble_eq_true rfl) rfl (fs' := [yi (v 0), .ref 64, .ref 65, yi (v 3), .ref 66, yi (v 5), .ref 67, yi (v 7), yi ((v 8) + 1), yi 0, .ref 68, yi (v 11), .ref 69, yi (v 13), .ref 70, .ref 71, .ref 72, .ref 73, .ref 74, .ref 75, yi (v 20), yi (v 21)]) rfl (fun H57 e58 f59 => ?_)
      refine E_run hk 2 (j' := 114) (lv' := [(1, yi (sg X (v 7) (v 8))), (0, .ref 63)]) (st' := [.ref 63, .ref 63]) (hp' := H57) rfl ?_
      refine E_get (v := yi ((v 8) + 1)) hk rfl e58 rfl ?_
      refine E_run hk 1 (j' := 116) (lv' := [(1, yi (sg X (v 7) (v 8))), (0, .ref 63)]) (st' := [yi 1, yi ((v 8) + 1), .ref 63]) (hp' := H57) rfl ?_
      refine Y_isub (a := ((v 8) + 1)) (b := 1) hk rfl ?_
      refine Y_put hk rfl e58 (by decide) (Nat.le_of_ble_eq_true rfl) rfl (fs' := [yi (v 0), .ref 64, .ref 65, yi (v 3), .ref 66, yi (v 5), .ref 67, yi (v 7), yi (((v 8) + 1) - 1), yi 0, .ref 68, yi (v 11), .ref 69, yi (v 13), .ref 70, .ref 71, .ref 72, .ref 73, .ref 74, .ref 75, yi (v 20), yi (v 21)]) rfl (fun H60 e61 f62 => ?_)
      refine E_run hk 1 (j' := 119) (lv' := [(1, yi (sg X (v 7) (v 8))), (0, .ref 63)]) (st' := [yi (sg X (v 7) (v 8))]) (hp' := H60) rfl ?_
      exact E_ret hk rfl rfl ⟨_, rfl, by omega, v 8, 0, rwd_no ha (by omega), by have e9 := e61; rw [show v 8 + 1 - 1 = v 8 by omega] at e9; exact e9, (yfr.tr (yfr.tr f3 f59 (fun _ h => h) (by decide)) f62 (fun _ h => h) (by decide))⟩
    · refine E_tgt (t := 56) (by rw [g4e]; rfl) ?_
      refine E_run hk 5 (j' := 61) (lv' := [(1, yi (sg X (v 7) (v 8))), (0, .ref 63)]) (st' := [yi 114, yi 101, yi 119, yi 111, .ref 63]) (hp' := H1) rfl ?_
      refine Y_call hk rfl (as := [.ref 63, yi 111, yi 119, yi 101, yi 114]) (rest := []) (v := none) rfl rfl (Nat.le_of_ble_eq_true rfl) (rcv0 e2) (Nat.le_of_ble_eq_true rfl) (c_X9_takesAll (v := (vup v 8 ((v 8) + 1))) e2 (f3.at (by decide) hX) hn hc (show 0 ≤ (v 8) + 1 ∧ (v 8) + 1 ≤ v 7 by omega) (show v 9 = 0 ∨ v 9 = 1 by omega) (c1 := 111) (c2 := 119) (c3 := 101) (c4 := 114) (by omega) (hd := by omega)) (fun H63 r64 => ?_)
      obtain ⟨e0_H63, f_H63⟩ := r64
      obtain ⟨a_H63, w_H63, hq_H63⟩ : ∃ a w, tls X (v 7) [111, 119, 101, 114] ((v 8) + 1) (v 9) = (a, w) := ⟨_, _, rfl⟩
      have e_H63 : xat H63 63 = some (yMo (vup (vup (vup v 8 ((v 8) + 1)) 9 w_H63) 8 a_H63)) := by have e9 : xat H63 63 = some (yMo (vup (vup (vup v 8 ((v 8) + 1)) 9 ((tls X (v 7) [111, 119, 101, 114] ((v 8) + 1) (v 9)).2)) 8 ((tls X (v 7) [111, 119, 101, 114] ((v 8) + 1) (v 9)).1))) := e0_H63; rw [hq_H63] at e9; exact e9
      refine E_run hk 2 (j' := 119) (lv' := [(1, yi (sg X (v 7) (v 8))), (0, .ref 63)]) (st' := [yi (sg X (v 7) (v 8))]) (hp' := H63) rfl ?_
      exact E_ret hk rfl rfl ⟨_, rfl, by omega, a_H63, w_H63, rwd_of (o := 2) hc (by decide) (by omega) ((show X (v 8) = 108 by omega).trans (by decide +kernel)) (fun q => absurd q (by decide)) (fun q => absurd q (by decide)) [111, 119, 101, 114] rfl ((congrArg (tls X (v 7) [111, 119, 101, 114] (v 8 + 1)) hw.symm).trans hq_H63) ((show sg X (v 7) (v 8) = 108 by omega).trans (by decide)), e_H63, (yfr.tr f3 f_H63 (fun _ h => h) (by decide))⟩
    · refine E_tgt (t := 109) (by rw [g4e]; rfl) ?_
      refine E_run hk 2 (j' := 111) (lv' := [(1, yi (sg X (v 7) (v 8))), (0, .ref 63)]) (st' := [yi 0, .ref 63]) (hp' := H1) rfl ?_
      refine Y_put hk rfl e2 (by decide) (Nat.le_of_ble_eq_true rfl) rfl (fs' := [yi (v 0), .ref 64, .ref 65, yi (v 3), .ref 66, yi (v 5), .ref 67, yi (v 7), yi ((v 8) + 1), yi 0, .ref 68, yi (v 11), .ref 69, yi (v 13), .ref 70, .ref 71, .ref 72, .ref 73, .ref 74, .ref 75, yi (v 20), yi (v 21)]) rfl (fun H65 e66 f67 => ?_)
      refine E_run hk 2 (j' := 114) (lv' := [(1, yi (sg X (v 7) (v 8))), (0, .ref 63)]) (st' := [.ref 63, .ref 63]) (hp' := H65) rfl ?_
      refine E_get (v := yi ((v 8) + 1)) hk rfl e66 rfl ?_
      refine E_run hk 1 (j' := 116) (lv' := [(1, yi (sg X (v 7) (v 8))), (0, .ref 63)]) (st' := [yi 1, yi ((v 8) + 1), .ref 63]) (hp' := H65) rfl ?_
      refine Y_isub (a := ((v 8) + 1)) (b := 1) hk rfl ?_
      refine Y_put hk rfl e66 (by decide) (Nat.le_of_ble_eq_true rfl) rfl (fs' := [yi (v 0), .ref 64, .ref 65, yi (v 3), .ref 66, yi (v 5), .ref 67, yi (v 7), yi (((v 8) + 1) - 1), yi 0, .ref 68, yi (v 11), .ref 69, yi (v 13), .ref 70, .ref 71, .ref 72, .ref 73, .ref 74, .ref 75, yi (v 20), yi (v 21)]) rfl (fun H68 e69 f70 => ?_)
      refine E_run hk 1 (j' := 119) (lv' := [(1, yi (sg X (v 7) (v 8))), (0, .ref 63)]) (st' := [yi (sg X (v 7) (v 8))]) (hp' := H68) rfl ?_
      exact E_ret hk rfl rfl ⟨_, rfl, by omega, v 8, 0, rwd_no ha (by omega), by have e9 := e69; rw [show v 8 + 1 - 1 = v 8 by omega] at e9; exact e9, (yfr.tr (yfr.tr f3 f67 (fun _ h => h) (by decide)) f70 (fun _ h => h) (by decide))⟩
    · refine E_tgt (t := 109) (by rw [g4e]; rfl) ?_
      refine E_run hk 2 (j' := 111) (lv' := [(1, yi (sg X (v 7) (v 8))), (0, .ref 63)]) (st' := [yi 0, .ref 63]) (hp' := H1) rfl ?_
      refine Y_put hk rfl e2 (by decide) (Nat.le_of_ble_eq_true rfl) rfl (fs' := [yi (v 0), .ref 64, .ref 65, yi (v 3), .ref 66, yi (v 5), .ref 67, yi (v 7), yi ((v 8) + 1), yi 0, .ref 68, yi (v 11), .ref 69, yi (v 13), .ref 70, .ref 71, .ref 72, .ref 73, .ref 74, .ref 75, yi (v 20), yi (v 21)]) rfl (fun H71 e72 f73 => ?_)
      refine E_run hk 2 (j' := 114) (lv' := [(1, yi (sg X (v 7) (v 8))), (0, .ref 63)]) (st' := [.ref 63, .ref 63]) (hp' := H71) rfl ?_
      refine E_get (v := yi ((v 8) + 1)) hk rfl e72 rfl ?_
      refine E_run hk 1 (j' := 116) (lv' := [(1, yi (sg X (v 7) (v 8))), (0, .ref 63)]) (st' := [yi 1, yi ((v 8) + 1), .ref 63]) (hp' := H71) rfl ?_
      refine Y_isub (a := ((v 8) + 1)) (b := 1) hk rfl ?_
      refine Y_put hk rfl e72 (by decide) (Nat.le_of_ble_eq_true rfl) rfl (fs' := [yi (v 0), .ref 64, .ref 65, yi (v 3), .ref 66, yi (v 5), .ref 67, yi (v 7), yi (((v 8) + 1) - 1), yi 0, .ref 68, yi (v 11), .ref 69, yi (v 13), .ref 70, .ref 71, .ref 72, .ref 73, .ref 74, .ref 75, yi (v 20), yi (v 21)]) rfl (fun H74 e75 f76 => ?_)
      refine E_run hk 1 (j' := 119) (lv' := [(1, yi (sg X (v 7) (v 8))), (0, .ref 63)]) (st' := [yi (sg X (v 7) (v 8))]) (hp' := H74) rfl ?_
      exact E_ret hk rfl rfl ⟨_, rfl, by omega, v 8, 0, rwd_no ha (by omega), by have e9 := e75; rw [show v 8 + 1 - 1 = v 8 by omega] at e9; exact e9, (yfr.tr (yfr.tr f3 f73 (fun _ h => h) (by decide)) f76 (fun _ h => h) (by decide))⟩
    · refine E_tgt (t := 109) (by rw [g4e]; rfl) ?_
      refine E_run hk 2 (j' := 111) (lv' := [(1, yi (sg X (v 7) (v 8))), (0, .ref 63)]) (st' := [yi 0, .ref 63]) (hp' := H1) rfl ?_
      refine Y_put hk rfl e2 (by decide) (Nat.le_of_ble_eq_true rfl) rfl (fs' := [yi (v 0), .ref 64, .ref 65, yi (v 3), .ref 66, yi (v 5), .ref 67, yi (v 7), yi ((v 8) + 1), yi 0, .ref 68, yi (v 11), .ref 69, yi (v 13), .ref 70, .ref 71, .ref 72, .ref 73, .ref 74, .ref 75, yi (v 20), yi (v 21)]) rfl (fun H77 e78 f79 => ?_)
      refine E_run hk 2 (j' := 114) (lv' := [(1, yi (sg X (v 7) (v 8))), (0, .ref 63)]) (st' := [.ref 63, .ref 63]) (hp' := H77) rfl ?_
      refine E_get (v := yi ((v 8) + 1)) hk rfl e78 rfl ?_
      refine E_run hk 1 (j' := 116) (lv' := [(1, yi (sg X (v 7) (v 8))), (0, .ref 63)]) (st' := [yi 1, yi ((v 8) + 1), .ref 63]) (hp' := H77) rfl ?_
      refine Y_isub (a := ((v 8) + 1)) (b := 1) hk rfl ?_
      refine Y_put hk rfl e78 (by decide) (Nat.le_of_ble_eq_true rfl) rfl (fs' := [yi (v 0), .ref 64, .ref 65, yi (v 3), .ref 66, yi (v 5), .ref 67, yi (v 7), yi (((v 8) + 1) - 1), yi 0, .ref 68, yi (v 11), .ref 69, yi (v 13), .ref 70, .ref 71, .ref 72, .ref 73, .ref 74, .ref 75, yi (v 20), yi (v 21)]) rfl (fun H80 e81 f82 => ?_)
      refine E_run hk 1 (j' := 119) (lv' := [(1, yi (sg X (v 7) (v 8))), (0, .ref 63)]) (st' := [yi (sg X (v 7) (v 8))]) (hp' := H80) rfl ?_
      exact E_ret hk rfl rfl ⟨_, rfl, by omega, v 8, 0, rwd_no ha (by omega), by have e9 := e81; rw [show v 8 + 1 - 1 = v 8 by omega] at e9; exact e9, (yfr.tr (yfr.tr f3 f79 (fun _ h => h) (by decide)) f82 (fun _ h => h) (by decide))⟩
    · refine E_tgt (t := 109) (by rw [g4e]; rfl) ?_
      refine E_run hk 2 (j' := 111) (lv' := [(1, yi (sg X (v 7) (v 8))), (0, .ref 63)]) (st' := [yi 0, .ref 63]) (hp' := H1) rfl ?_
      refine Y_put hk rfl e2 (by decide) (Nat.le_of_ble_eq_true rfl) rfl (fs' := [yi (v 0), .ref 64, .ref 65, yi (v 3), .ref 66, yi (v 5), .ref 67, yi (v 7), yi ((v 8) + 1), yi 0, .ref 68, yi (v 11), .ref 69, yi (v 13), .ref 70, .ref 71, .ref 72, .ref 73, .ref 74, .ref 75, yi (v 20), yi (v 21)]) rfl (fun H83 e84 f85 => ?_)
      refine E_run hk 2 (j' := 114) (lv' := [(1, yi (sg X (v 7) (v 8))), (0, .ref 63)]) (st' := [.ref 63, .ref 63]) (hp' := H83) rfl ?_
      refine E_get (v := yi ((v 8) + 1)) hk rfl e84 rfl ?_
      refine E_run hk 1 (j' := 116) (lv' := [(1, yi (sg X (v 7) (v 8))), (0, .ref 63)]) (st' := [yi 1, yi ((v 8) + 1), .ref 63]) (hp' := H83) rfl ?_
      refine Y_isub (a := ((v 8) + 1)) (b := 1) hk rfl ?_
      refine Y_put hk rfl e84 (by decide) (Nat.le_of_ble_eq_true rfl) rfl (fs' := [yi (v 0), .ref 64, .ref 65, yi (v 3), .ref 66, yi (v 5), .ref 67, yi (v 7), yi (((v 8) + 1) - 1), yi 0, .ref 68, yi (v 11), .ref 69, yi (v 13), .ref 70, .ref 71, .ref 72, .ref 73, .ref 74, .ref 75, yi (v 20), yi (v 21)]) rfl (fun H86 e87 f88 => ?_)
      refine E_run hk 1 (j' := 119) (lv' := [(1, yi (sg X (v 7) (v 8))), (0, .ref 63)]) (st' := [yi (sg X (v 7) (v 8))]) (hp' := H86) rfl ?_
      exact E_ret hk rfl rfl ⟨_, rfl, by omega, v 8, 0, rwd_no ha (by omega), by have e9 := e87; rw [show v 8 + 1 - 1 = v 8 by omega] at e9; exact e9, (yfr.tr (yfr.tr f3 f85 (fun _ h => h) (by decide)) f88 (fun _ h => h) (by decide))⟩
    · refine E_tgt (t := 109) (by rw [g4e]; rfl) ?_
      refine E_run hk 2 (j' := 111) (lv' := [(1, yi (sg X (v 7) (v 8))), (0, .ref 63)]) (st' := [yi 0, .ref 63]) (hp' := H1) rfl ?_
      refine Y_put hk rfl e2 (by decide) (Nat.le_of_ble_eq_true rfl) rfl (fs' := [yi (v 0), .ref 64, .ref 65, yi (v 3), .ref 66, yi (v 5), .ref 67, yi (v 7), yi ((v 8) + 1), yi 0, .ref 68, yi (v 11), .ref 69, yi (v 13), .ref 70, .ref 71, .ref 72, .ref 73, .ref 74, .ref 75, yi (v 20), yi (v 21)]) rfl (fun H89 e90 f91 => ?_)
      refine E_run hk 2 (j' := 114) (lv' := [(1, yi (sg X (v 7) (v 8))), (0, .ref 63)]) (st' := [.ref 63, .ref 63]) (hp' := H89) rfl ?_
      refine E_get (v := yi ((v 8) + 1)) hk rfl e90 rfl ?_
      refine E_run hk 1 (j' := 116) (lv' := [(1, yi (sg X (v 7) (v 8))), (0, .ref 63)]) (st' := [yi 1, yi ((v 8) + 1), .ref 63]) (hp' := H89) rfl ?_
      refine Y_isub (a := ((v 8) + 1)) (b := 1) hk rfl ?_
      refine Y_put hk rfl e90 (by decide) (Nat.le_of_ble_eq_true rfl) rfl (fs' := [yi (v 0), .ref 64, .ref 65, yi (v 3), .ref 66, yi (v 5), .ref 67, yi (v 7), yi (((v 8) + 1) - 1), yi 0, .ref 68, yi (v 11), .ref 69, yi (v 13), .ref 70, .ref 71, .ref 72, .ref 73, .ref 74, .ref 75, yi (v 20), yi (v 21)]) rfl (fun H92 e93 f94 => ?_)
      refine E_run hk 1 (j' := 119) (lv' := [(1, yi (sg X (v 7) (v 8))), (0, .ref 63)]) (st' := [yi (sg X (v 7) (v 8))]) (hp' := H92) rfl ?_
      exact E_ret hk rfl rfl ⟨_, rfl, by omega, v 8, 0, rwd_no ha (by omega), by have e9 := e93; rw [show v 8 + 1 - 1 = v 8 by omega] at e9; exact e9, (yfr.tr (yfr.tr f3 f91 (fun _ h => h) (by decide)) f94 (fun _ h => h) (by decide))⟩
    · refine E_tgt (t := 49) (by rw [g4e]; rfl) ?_
      refine E_run hk 5 (j' := 54) (lv' := [(1, yi (sg X (v 7) (v 8))), (0, .ref 63)]) (st' := [yi 101, yi 115, yi 105, yi 97, .ref 63]) (hp' := H1) rfl ?_
      refine Y_call hk rfl (as := [.ref 63, yi 97, yi 105, yi 115, yi 101]) (rest := []) (v := none) rfl rfl (Nat.le_of_ble_eq_true rfl) (rcv0 e2) (Nat.le_of_ble_eq_true rfl) (c_X9_takesAll (v := (vup v 8 ((v 8) + 1))) e2 (f3.at (by decide) hX) hn hc (show 0 ≤ (v 8) + 1 ∧ (v 8) + 1 ≤ v 7 by omega) (show v 9 = 0 ∨ v 9 = 1 by omega) (c1 := 97) (c2 := 105) (c3 := 115) (c4 := 101) (by omega) (hd := by omega)) (fun H95 r96 => ?_)
      obtain ⟨e0_H95, f_H95⟩ := r96
      obtain ⟨a_H95, w_H95, hq_H95⟩ : ∃ a w, tls X (v 7) [97, 105, 115, 101] ((v 8) + 1) (v 9) = (a, w) := ⟨_, _, rfl⟩
      have e_H95 : xat H95 63 = some (yMo (vup (vup (vup v 8 ((v 8) + 1)) 9 w_H95) 8 a_H95)) := by have e9 : xat H95 63 = some (yMo (vup (vup (vup v 8 ((v 8) + 1)) 9 ((tls X (v 7) [97, 105, 115, 101] ((v 8) + 1) (v 9)).2)) 8 ((tls X (v 7) [97, 105, 115, 101] ((v 8) + 1) (v 9)).1))) := e0_H95; rw [hq_H95] at e9; exact e9
      refine E_run hk 2 (j' := 119) (lv' := [(1, yi (sg X (v 7) (v 8))), (0, .ref 63)]) (st' := [yi (sg X (v 7) (v 8))]) (hp' := H95) rfl ?_
      exact E_ret hk rfl rfl ⟨_, rfl, by omega, a_H95, w_H95, rwd_of (o := 1) hc (by decide) (by omega) ((show X (v 8) = 114 by omega).trans (by decide +kernel)) (fun q => absurd q (by decide)) (fun q => absurd q (by decide)) [97, 105, 115, 101] rfl ((congrArg (tls X (v 7) [97, 105, 115, 101] (v 8 + 1)) hw.symm).trans hq_H95) ((show sg X (v 7) (v 8) = 114 by omega).trans (by decide)), e_H95, (yfr.tr f3 f_H95 (fun _ h => h) (by decide))⟩
    · refine E_tgt (t := 11) (by rw [g4e]; rfl) ?_
      have sr2 := sg_rng (a := v 8 + 1) hc (by omega)
      refine E_run hk 1 (j' := 12) (lv' := [(1, yi (sg X (v 7) (v 8))), (0, .ref 63)]) (st' := [.ref 63]) (hp' := H1) rfl ?_
      refine Y_callP hk rfl (as := [.ref 63]) (rest := []) (v := some (yi (sg X (v 7) ((v 8) + 1)))) rfl rfl (Nat.le_of_ble_eq_true rfl) (rcv0 e2) (Nat.le_of_ble_eq_true rfl) (c_X9_sign (v := (vup v 8 ((v 8) + 1))) e2 (f3.at (by decide) hX) (by first | exact hn | (show 0 ≤ v 7 ∧ v 7 ≤ 60; omega)) (by first | exact ha | (show 0 ≤ (v 8) + 1 ∧ (v 8) + 1 ≤ v 7; omega))) ?_
      refine E_run hk 1 (j' := 14) (lv' := [(1, yi (sg X (v 7) (v 8))), (0, .ref 63)]) (st' := [yi 108, yi (sg X (v 7) ((v 8) + 1))]) (hp' := H1) rfl ?_
      refine Y_ic_ne (a := (sg X (v 7) ((v 8) + 1))) (b := 108) (by omega) hk rfl (fun g97 => ?_) (fun g97 => ?_)
      ·
        refine E_run hk 3 (j' := 36) (lv' := [(1, yi (sg X (v 7) (v 8))), (0, .ref 63)]) (st' := [yi 105, yi 105, .ref 63]) (hp' := H1) rfl ?_
        refine Y_call hk rfl (as := [.ref 63, yi 105, yi 105]) (rest := []) (v := some (yi (sg X (v 7) ((v 8) + 1) - 48))) rfl rfl (Nat.le_of_ble_eq_true rfl) (rcv0 e2) (Nat.le_of_ble_eq_true rfl) (c_X9_takes (v := (vup v 8 ((v 8) + 1))) e2 (f3.at (by decide) hX) hn hc (show 0 ≤ (v 8) + 1 ∧ (v 8) + 1 ≤ v 7 by omega) (show v 9 = 0 ∨ v 9 = 1 by omega) (l := 105) (u := 105) (by omega) (hd := by omega)) (fun H98 r99 => ?_)
        obtain ⟨e0_H98, f_H98⟩ := r99
        obtain ⟨w_H98, hq_H98⟩ : ∃ w, b2 (v 9 = 1 ∧ 105 ≤ sg X (v 7) ((v 8) + 1) ∧ sg X (v 7) ((v 8) + 1) ≤ 105) = w := ⟨_, rfl⟩
        have e_H98 : xat H98 63 = some (yMo (vup (vup (vup v 8 ((v 8) + 1)) 9 w_H98) 8 (((v 8) + 1) + w_H98))) := by rw [← hq_H98]; exact e0_H98
        obtain ⟨k1_H98, k2_H98, k3_H98⟩ := tk_step hc (show 0 ≤ (v 8) + 1 ∧ (v 8) + 1 ≤ v 7 by omega) (show v 9 = 0 ∨ v 9 = 1 by omega) (by omega) hq_H98
        refine E_run hk 4 (j' := 41) (lv' := [(1, yi (sg X (v 7) (v 8))), (0, .ref 63)]) (st' := [yi 110, yi 110, .ref 63]) (hp' := H98) rfl ?_
        refine Y_call hk rfl (as := [.ref 63, yi 110, yi 110]) (rest := []) (v := some (yi (sg X (v 7) (((v 8) + 1) + w_H98) - 48))) rfl rfl (Nat.le_of_ble_eq_true rfl) (rcv0 e_H98) (Nat.le_of_ble_eq_true rfl) (c_X9_takes (v := (vup (vup (vup v 8 ((v 8) + 1)) 9 w_H98) 8 (((v 8) + 1) + w_H98))) e_H98 (f_H98.at (by decide) (f3.at (by decide) hX)) hn hc (show 0 ≤ ((v 8) + 1) + w_H98 ∧ ((v 8) + 1) + w_H98 ≤ v 7 by omega) (show w_H98 = 0 ∨ w_H98 = 1 by omega) (l := 110) (u := 110) (by omega) (hd := by omega)) (fun H100 r101 => ?_)
        obtain ⟨e0_H100, f_H100⟩ := r101
        obtain ⟨w_H100, hq_H100⟩ : ∃ w, b2 (w_H98 = 1 ∧ 110 ≤ sg X (v 7) (((v 8) + 1) + w_H98) ∧ sg X (v 7) (((v 8) + 1) + w_H98) ≤ 110) = w := ⟨_, rfl⟩
        have e_H100 : xat H100 63 = some (yMo (vup (vup (vup (vup (vup v 8 ((v 8) + 1)) 9 w_H98) 8 (((v 8) + 1) + w_H98)) 9 w_H100) 8 ((((v 8) + 1) + w_H98) + w_H100))) := by rw [← hq_H100]; exact e0_H100
        obtain ⟨k1_H100, k2_H100, k3_H100⟩ := tk_step hc (show 0 ≤ ((v 8) + 1) + w_H98 ∧ ((v 8) + 1) + w_H98 ≤ v 7 by omega) (show w_H98 = 0 ∨ w_H98 = 1 by omega) (by omega) hq_H100
        refine E_run hk 4 (j' := 46) (lv' := [(1, yi (sg X (v 7) (v 8))), (0, .ref 63)]) (st' := [yi 103, yi 103, .ref 63]) (hp' := H100) rfl ?_
        refine Y_call hk rfl (as := [.ref 63, yi 103, yi 103]) (rest := []) (v := some (yi (sg X (v 7) ((((v 8) + 1) + w_H98) + w_H100) - 48))) rfl rfl (Nat.le_of_ble_eq_true rfl) (rcv0 e_H100) (Nat.le_of_ble_eq_true rfl) (c_X9_takes (v := (vup (vup (vup (vup (vup v 8 ((v 8) + 1)) 9 w_H98) 8 (((v 8) + 1) + w_H98)) 9 w_H100) 8 ((((v 8) + 1) + w_H98) + w_H100))) e_H100 (f_H100.at (by decide) (f_H98.at (by decide) (f3.at (by decide) hX))) hn hc (show 0 ≤ (((v 8) + 1) + w_H98) + w_H100 ∧ (((v 8) + 1) + w_H98) + w_H100 ≤ v 7 by omega) (show w_H100 = 0 ∨ w_H100 = 1 by omega) (l := 103) (u := 103) (by omega) (hd := by omega)) (fun H102 r103 => ?_)
        obtain ⟨e0_H102, f_H102⟩ := r103
        obtain ⟨w_H102, hq_H102⟩ : ∃ w, b2 (w_H100 = 1 ∧ 103 ≤ sg X (v 7) ((((v 8) + 1) + w_H98) + w_H100) ∧ sg X (v 7) ((((v 8) + 1) + w_H98) + w_H100) ≤ 103) = w := ⟨_, rfl⟩
        have e_H102 : xat H102 63 = some (yMo (vup (vup (vup (vup (vup (vup (vup v 8 ((v 8) + 1)) 9 w_H98) 8 (((v 8) + 1) + w_H98)) 9 w_H100) 8 ((((v 8) + 1) + w_H98) + w_H100)) 9 w_H102) 8 (((((v 8) + 1) + w_H98) + w_H100) + w_H102))) := by rw [← hq_H102]; exact e0_H102
        obtain ⟨k1_H102, k2_H102, k3_H102⟩ := tk_step hc (show 0 ≤ (((v 8) + 1) + w_H98) + w_H100 ∧ (((v 8) + 1) + w_H98) + w_H100 ≤ v 7 by omega) (show w_H100 = 0 ∨ w_H100 = 1 by omega) (by omega) hq_H102
        refine E_run hk 3 (j' := 119) (lv' := [(1, yi (sg X (v 7) (v 8))), (0, .ref 63)]) (st' := [yi (sg X (v 7) (v 8))]) (hp' := H102) rfl ?_
        exact E_ret hk rfl rfl ⟨_, rfl, by omega, ((((v 8) + 1) + w_H98) + w_H100) + w_H102, w_H102, rwd_of (o := 0) hc (by decide) (by omega) ((show X (v 8) = 115 by omega).trans (by decide +kernel)) (fun _ q => by omega) (fun q => absurd q (by decide)) [105, 110, 103] rfl ((congrArg (tls X (v 7) [105, 110, 103] (v 8 + 1)) hw.symm).trans (by rw [tls_c hq_H98, tls_c hq_H100, tls_c hq_H102]; rfl)) ((show sg X (v 7) (v 8) = 115 by omega).trans (by decide)), e_H102, (yfr.tr (yfr.tr (yfr.tr f3 f_H98 (fun _ h => h) (by decide)) f_H100 (fun _ h => h) (by decide)) f_H102 (fun _ h => h) (by decide))⟩
      ·
        refine E_run hk 5 (j' := 20) (lv' := [(1, yi 119), (0, .ref 63)]) (st' := [yi 108, yi 108, .ref 63]) (hp' := H1) rfl ?_
        refine Y_call hk rfl (as := [.ref 63, yi 108, yi 108]) (rest := []) (v := some (yi (sg X (v 7) ((v 8) + 1) - 48))) rfl rfl (Nat.le_of_ble_eq_true rfl) (rcv0 e2) (Nat.le_of_ble_eq_true rfl) (c_X9_takes (v := (vup v 8 ((v 8) + 1))) e2 (f3.at (by decide) hX) hn hc (show 0 ≤ (v 8) + 1 ∧ (v 8) + 1 ≤ v 7 by omega) (show v 9 = 0 ∨ v 9 = 1 by omega) (l := 108) (u := 108) (by omega) (hd := by omega)) (fun H104 r105 => ?_)
        obtain ⟨e0_H104, f_H104⟩ := r105
        obtain ⟨w_H104, hq_H104⟩ : ∃ w, b2 (v 9 = 1 ∧ 108 ≤ sg X (v 7) ((v 8) + 1) ∧ sg X (v 7) ((v 8) + 1) ≤ 108) = w := ⟨_, rfl⟩
        have e_H104 : xat H104 63 = some (yMo (vup (vup (vup v 8 ((v 8) + 1)) 9 w_H104) 8 (((v 8) + 1) + w_H104))) := by rw [← hq_H104]; exact e0_H104
        obtain ⟨k1_H104, k2_H104, k3_H104⟩ := tk_step hc (show 0 ≤ (v 8) + 1 ∧ (v 8) + 1 ≤ v 7 by omega) (show v 9 = 0 ∨ v 9 = 1 by omega) (by omega) hq_H104
        refine E_run hk 4 (j' := 25) (lv' := [(1, yi 119), (0, .ref 63)]) (st' := [yi 111, yi 111, .ref 63]) (hp' := H104) rfl ?_
        refine Y_call hk rfl (as := [.ref 63, yi 111, yi 111]) (rest := []) (v := some (yi (sg X (v 7) (((v 8) + 1) + w_H104) - 48))) rfl rfl (Nat.le_of_ble_eq_true rfl) (rcv0 e_H104) (Nat.le_of_ble_eq_true rfl) (c_X9_takes (v := (vup (vup (vup v 8 ((v 8) + 1)) 9 w_H104) 8 (((v 8) + 1) + w_H104))) e_H104 (f_H104.at (by decide) (f3.at (by decide) hX)) hn hc (show 0 ≤ ((v 8) + 1) + w_H104 ∧ ((v 8) + 1) + w_H104 ≤ v 7 by omega) (show w_H104 = 0 ∨ w_H104 = 1 by omega) (l := 111) (u := 111) (by omega) (hd := by omega)) (fun H106 r107 => ?_)
        obtain ⟨e0_H106, f_H106⟩ := r107
        obtain ⟨w_H106, hq_H106⟩ : ∃ w, b2 (w_H104 = 1 ∧ 111 ≤ sg X (v 7) (((v 8) + 1) + w_H104) ∧ sg X (v 7) (((v 8) + 1) + w_H104) ≤ 111) = w := ⟨_, rfl⟩
        have e_H106 : xat H106 63 = some (yMo (vup (vup (vup (vup (vup v 8 ((v 8) + 1)) 9 w_H104) 8 (((v 8) + 1) + w_H104)) 9 w_H106) 8 ((((v 8) + 1) + w_H104) + w_H106))) := by rw [← hq_H106]; exact e0_H106
        obtain ⟨k1_H106, k2_H106, k3_H106⟩ := tk_step hc (show 0 ≤ ((v 8) + 1) + w_H104 ∧ ((v 8) + 1) + w_H104 ≤ v 7 by omega) (show w_H104 = 0 ∨ w_H104 = 1 by omega) (by omega) hq_H106
        refine E_run hk 4 (j' := 30) (lv' := [(1, yi 119), (0, .ref 63)]) (st' := [yi 119, yi 119, .ref 63]) (hp' := H106) rfl ?_
        refine Y_call hk rfl (as := [.ref 63, yi 119, yi 119]) (rest := []) (v := some (yi (sg X (v 7) ((((v 8) + 1) + w_H104) + w_H106) - 48))) rfl rfl (Nat.le_of_ble_eq_true rfl) (rcv0 e_H106) (Nat.le_of_ble_eq_true rfl) (c_X9_takes (v := (vup (vup (vup (vup (vup v 8 ((v 8) + 1)) 9 w_H104) 8 (((v 8) + 1) + w_H104)) 9 w_H106) 8 ((((v 8) + 1) + w_H104) + w_H106))) e_H106 (f_H106.at (by decide) (f_H104.at (by decide) (f3.at (by decide) hX))) hn hc (show 0 ≤ (((v 8) + 1) + w_H104) + w_H106 ∧ (((v 8) + 1) + w_H104) + w_H106 ≤ v 7 by omega) (show w_H106 = 0 ∨ w_H106 = 1 by omega) (l := 119) (u := 119) (by omega) (hd := by omega)) (fun H108 r109 => ?_)
        obtain ⟨e0_H108, f_H108⟩ := r109
        obtain ⟨w_H108, hq_H108⟩ : ∃ w, b2 (w_H106 = 1 ∧ 119 ≤ sg X (v 7) ((((v 8) + 1) + w_H104) + w_H106) ∧ sg X (v 7) ((((v 8) + 1) + w_H104) + w_H106) ≤ 119) = w := ⟨_, rfl⟩
        have e_H108 : xat H108 63 = some (yMo (vup (vup (vup (vup (vup (vup (vup v 8 ((v 8) + 1)) 9 w_H104) 8 (((v 8) + 1) + w_H104)) 9 w_H106) 8 ((((v 8) + 1) + w_H104) + w_H106)) 9 w_H108) 8 (((((v 8) + 1) + w_H104) + w_H106) + w_H108))) := by rw [← hq_H108]; exact e0_H108
        obtain ⟨k1_H108, k2_H108, k3_H108⟩ := tk_step hc (show 0 ≤ (((v 8) + 1) + w_H104) + w_H106 ∧ (((v 8) + 1) + w_H104) + w_H106 ≤ v 7 by omega) (show w_H106 = 0 ∨ w_H106 = 1 by omega) (by omega) hq_H108
        refine E_run hk 3 (j' := 119) (lv' := [(1, yi 119), (0, .ref 63)]) (st' := [yi 119]) (hp' := H108) rfl ?_
        exact E_ret hk rfl rfl ⟨_, rfl, by omega, ((((v 8) + 1) + w_H104) + w_H106) + w_H108, w_H108, rwd_of (o := 3) hc (by decide) (by omega) ((show X (v 8) = 115 by omega).trans (by decide +kernel)) (fun q => absurd q (by decide)) (fun _ => by omega) [108, 111, 119] rfl ((congrArg (tls X (v 7) [108, 111, 119] (v 8 + 1)) hw.symm).trans (by rw [tls_c hq_H104, tls_c hq_H106, tls_c hq_H108]; rfl)) rfl, e_H108, (yfr.tr (yfr.tr (yfr.tr f3 f_H104 (fun _ h => h) (by decide)) f_H106 (fun _ h => h) (by decide)) f_H108 (fun _ h => h) (by decide))⟩
