/-! The law: one call each. -/
set_option maxRecDepth 100000 in
theorem blk_0 {L : Nat} {F0 : Int → Int} {h : xH} (H : yRel L F0 h) (hF : ∀ q, -2147483648 ≤ F0 q ∧ F0 q ≤ 2147483647) (hL : L ≤ 2048) {i : Int} (hi : 0 ≤ i ∧ i ≤ (L : Int) - 4) {Q : xO → xH → Prop} (kk : ∀ h', yRel L F0 h' → yrm h h' → Ev 11 303 1217 [(4, yi i), (0, .ref 25), (1, .ref 28), (2, .ref 63), (3, .ref 76)] [] h' Q) : Ev 11 303 25 [(4, yi i), (0, .ref 25), (1, .ref 28), (2, .ref 63), (3, .ref 76)] [] h Q := by
  have hk : xtab 303 = (xc_303, 9, 2, []) := rfl
  obtain ⟨v0, S0, T0, N0, X0, B0, A0, Y0, -⟩ := id H
  obtain ⟨od0, a28, -⟩ := A0.1
  have m25 := B0.2.1
  have r1 := hF (i + 1)
  have r2 := hF (i + 2)
  have r3 := hF (i + 3)
  refine E_run hk 4 (j' := 29) (lv' := [(4, yi i), (0, .ref 25), (1, .ref 28), (2, .ref 63), (3, .ref 76)]) (st' := [yi 1, yi i, .ref 25, .ref 28]) (hp' := h) rfl ?_
  refine Y_iadd (a := i) (b := 1) hk rfl ?_
  refine Y_iald (a := (i + 1)) (by omega) (by omega) hk rfl m25 ?_
  refine E_run hk 3 (j' := 34) (lv' := [(4, yi i), (0, .ref 25), (1, .ref 28), (2, .ref 63), (3, .ref 76)]) (st' := [yi 2, yi i, .ref 25, yi (F0 (i + 1)), .ref 28]) (hp' := h) rfl ?_
  refine Y_iadd (a := i) (b := 2) hk rfl ?_
  refine Y_iald (a := (i + 2)) (by omega) (by omega) hk rfl m25 ?_
  refine E_run hk 1 (j' := 37) (lv' := [(4, yi i), (0, .ref 25), (1, .ref 28), (2, .ref 63), (3, .ref 76)]) (st' := [.ref 76, yi (F0 (i + 2)), yi (F0 (i + 1)), .ref 28]) (hp' := h) rfl ?_
  refine Y_callE hk rfl (as := [.ref 28, yi (F0 (i + 1)), yi (F0 (i + 2)), .ref 76]) (rest := []) rfl rfl (Nat.le_of_ble_eq_true rfl) rfl (Nat.le_of_ble_eq_true rfl) (op_addNote H (x0 := (F0 (i + 1))) (x1 := (F0 (i + 2))) (by omega)) (fun z1 H2 r3 => ?_)
  obtain ⟨m25_H2, ⟨v_H2, m63_H2⟩, cv_H2⟩ := r3
  refine E_run hk 5 (j' := 43) (lv' := [(5, yi z1), (4, yi i), (0, .ref 25), (1, .ref 28), (2, .ref 63), (3, .ref 76)]) (st' := [yi 1, yi i, .ref 25, .ref 63]) (hp' := H2) rfl ?_
  refine Y_iadd (a := i) (b := 1) hk rfl ?_
  refine Y_iald (a := (i + 1)) (by omega) (by omega) hk rfl m25_H2 ?_
  refine E_run hk 3 (j' := 48) (lv' := [(5, yi z1), (4, yi i), (0, .ref 25), (1, .ref 28), (2, .ref 63), (3, .ref 76)]) (st' := [yi 2, yi i, .ref 25, yi (F0 (i + 1)), .ref 63]) (hp' := H2) rfl ?_
  refine Y_iadd (a := i) (b := 2) hk rfl ?_
  refine Y_iald (a := (i + 2)) (by omega) (by omega) hk rfl m25_H2 ?_
  refine Y_callE hk rfl (as := [.ref 63, yi (F0 (i + 1)), yi (F0 (i + 2))]) (rest := []) rfl rfl (Nat.le_of_ble_eq_true rfl) (rcv0 m63_H2) (Nat.le_of_ble_eq_true rfl) (cv_H2) (fun z4 H5 r6 => ?_)
  obtain ⟨R_H5, ⟨v_H5, m63_H5, t_H5⟩, kr_H5, ou_H5, rm_H5⟩ := r6
  refine E_run hk 2 (j' := 53) (lv' := [(6, yi z4), (5, yi z1), (4, yi i), (0, .ref 25), (1, .ref 28), (2, .ref 63), (3, .ref 76)]) (st' := [.ref 63]) (hp' := H5) rfl ?_
  refine Y_callP hk rfl (as := [.ref 63]) (rest := []) (v := some (yi z1)) rfl rfl (Nat.le_of_ble_eq_true rfl) (rcv0 m63_H5) (Nat.le_of_ble_eq_true rfl) ((by have e9 := c_X9_thrown (d := 10) m63_H5; rw [t_H5] at e9; exact e9)) ?_
  refine E_run hk 1 (j' := 55) (lv' := [(6, yi z4), (5, yi z1), (4, yi i), (0, .ref 25), (1, .ref 28), (2, .ref 63), (3, .ref 76)]) (st' := [yi z1, yi z1]) (hp' := H5) rfl ?_
  refine Y_ic_h rfl hk rfl ?_
  refine E_run hk 1 (j' := 59) (lv' := [(6, yi z4), (5, yi z1), (4, yi i), (0, .ref 25), (1, .ref 28), (2, .ref 63), (3, .ref 76)]) (st' := [yi z1]) (hp' := H5) rfl ?_
  refine Y_if_ne (a := z1) (by omega) hk rfl (fun g7 => ?_) (fun g7 => ?_)
  ·
    refine E_run hk 1 (j' := 1217) (lv' := [(6, yi z4), (5, yi z1), (4, yi i), (0, .ref 25), (1, .ref 28), (2, .ref 63), (3, .ref 76)]) (st' := []) (hp' := H5) rfl ?_
    exact Ev_le (xle_s rfl rfl (xle_s rfl rfl (xle_s rfl rfl (xle_s rfl rfl (xle_s rfl rfl (xle_z _ rfl)))))) (kk H5 R_H5 rm_H5)
  ·
    refine E_run hk 2 (j' := 62) (lv' := [(6, yi z4), (5, yi z1), (4, yi i), (0, .ref 25), (1, .ref 28), (2, .ref 63), (3, .ref 76)]) (st' := [yi 0, .ref 76]) (hp' := H5) rfl ?_
    obtain ⟨o9_2, o76_2, o0_2⟩ := ou_H5 (by omega)
    refine Y_lald (a := 0) (v := .long ((iN z4).toInt64)) (by omega) (by decide) o0_2 hk rfl o76_2 ?_
    refine E_run hk 2 (j' := 65) (lv' := [(6, yi z4), (5, yi z1), (4, yi i), (0, .ref 25), (1, .ref 28), (2, .ref 63), (3, .ref 76)]) (st' := [.long ((iN z4).toInt64), .long ((iN z4).toInt64)]) (hp' := H5) rfl ?_
    refine Y_lcmp_h rfl hk rfl ?_
    refine Y_if_eq (a := 0) (by omega) hk rfl (fun g8 => ?_) (fun g8 => ?_)
    ·
      refine E_run hk 1 (j' := 1217) (lv' := [(6, yi z4), (5, yi z1), (4, yi i), (0, .ref 25), (1, .ref 28), (2, .ref 63), (3, .ref 76)]) (st' := []) (hp' := H5) rfl ?_
      exact Ev_le (xle_s rfl rfl (xle_s rfl rfl (xle_s rfl rfl (xle_s rfl rfl (xle_s rfl rfl (xle_z _ rfl)))))) (kk H5 R_H5 rm_H5)
    · exfalso; omega
set_option maxRecDepth 100000 in
theorem blk_1 {L : Nat} {F0 : Int → Int} {h : xH} (H : yRel L F0 h) (hF : ∀ q, -2147483648 ≤ F0 q ∧ F0 q ≤ 2147483647) (hL : L ≤ 2048) {i : Int} (hi : 0 ≤ i ∧ i ≤ (L : Int) - 4) {Q : xO → xH → Prop} (kk : ∀ h', yRel L F0 h' → yrm h h' → Ev 11 303 1217 [(4, yi i), (0, .ref 25), (1, .ref 28), (2, .ref 63), (3, .ref 76)] [] h' Q) : Ev 11 303 70 [(4, yi i), (0, .ref 25), (1, .ref 28), (2, .ref 63), (3, .ref 76)] [] h Q := by
  have hk : xtab 303 = (xc_303, 9, 2, []) := rfl
  obtain ⟨v0, S0, T0, N0, X0, B0, A0, Y0, -⟩ := id H
  obtain ⟨od0, a28, -⟩ := A0.1
  have m25 := B0.2.1
  have r1 := hF (i + 1)
  have r2 := hF (i + 2)
  have r3 := hF (i + 3)
  refine E_run hk 4 (j' := 74) (lv' := [(4, yi i), (0, .ref 25), (1, .ref 28), (2, .ref 63), (3, .ref 76)]) (st' := [yi 1, yi i, .ref 25, .ref 28]) (hp' := h) rfl ?_
  refine Y_iadd (a := i) (b := 1) hk rfl ?_
  refine Y_iald (a := (i + 1)) (by omega) (by omega) hk rfl m25 ?_
  refine E_run hk 3 (j' := 79) (lv' := [(4, yi i), (0, .ref 25), (1, .ref 28), (2, .ref 63), (3, .ref 76)]) (st' := [yi 2, yi i, .ref 25, yi (F0 (i + 1)), .ref 28]) (hp' := h) rfl ?_
  refine Y_iadd (a := i) (b := 2) hk rfl ?_
  refine Y_iald (a := (i + 2)) (by omega) (by omega) hk rfl m25 ?_
  refine E_run hk 3 (j' := 84) (lv' := [(4, yi i), (0, .ref 25), (1, .ref 28), (2, .ref 63), (3, .ref 76)]) (st' := [yi 3, yi i, .ref 25, yi (F0 (i + 2)), yi (F0 (i + 1)), .ref 28]) (hp' := h) rfl ?_
  refine Y_iadd (a := i) (b := 3) hk rfl ?_
  refine Y_iald (a := (i + 3)) (by omega) (by omega) hk rfl m25 ?_
  refine E_run hk 1 (j' := 87) (lv' := [(4, yi i), (0, .ref 25), (1, .ref 28), (2, .ref 63), (3, .ref 76)]) (st' := [.ref 76, yi (F0 (i + 3)), yi (F0 (i + 2)), yi (F0 (i + 1)), .ref 28]) (hp' := h) rfl ?_
  refine Y_callE hk rfl (as := [.ref 28, yi (F0 (i + 1)), yi (F0 (i + 2)), yi (F0 (i + 3)), .ref 76]) (rest := []) rfl rfl (Nat.le_of_ble_eq_true rfl) rfl (Nat.le_of_ble_eq_true rfl) (op_setNote H (x0 := (F0 (i + 1))) (x1 := (F0 (i + 2))) (x2 := (F0 (i + 3))) (by omega)) (fun z1 H2 r3 => ?_)
  obtain ⟨m25_H2, ⟨v_H2, m63_H2⟩, cv_H2⟩ := r3
  refine E_run hk 5 (j' := 93) (lv' := [(5, yi z1), (4, yi i), (0, .ref 25), (1, .ref 28), (2, .ref 63), (3, .ref 76)]) (st' := [yi 1, yi i, .ref 25, .ref 63]) (hp' := H2) rfl ?_
  refine Y_iadd (a := i) (b := 1) hk rfl ?_
  refine Y_iald (a := (i + 1)) (by omega) (by omega) hk rfl m25_H2 ?_
  refine E_run hk 3 (j' := 98) (lv' := [(5, yi z1), (4, yi i), (0, .ref 25), (1, .ref 28), (2, .ref 63), (3, .ref 76)]) (st' := [yi 2, yi i, .ref 25, yi (F0 (i + 1)), .ref 63]) (hp' := H2) rfl ?_
  refine Y_iadd (a := i) (b := 2) hk rfl ?_
  refine Y_iald (a := (i + 2)) (by omega) (by omega) hk rfl m25_H2 ?_
  refine E_run hk 3 (j' := 103) (lv' := [(5, yi z1), (4, yi i), (0, .ref 25), (1, .ref 28), (2, .ref 63), (3, .ref 76)]) (st' := [yi 3, yi i, .ref 25, yi (F0 (i + 2)), yi (F0 (i + 1)), .ref 63]) (hp' := H2) rfl ?_
  refine Y_iadd (a := i) (b := 3) hk rfl ?_
  refine Y_iald (a := (i + 3)) (by omega) (by omega) hk rfl m25_H2 ?_
  refine Y_callE hk rfl (as := [.ref 63, yi (F0 (i + 1)), yi (F0 (i + 2)), yi (F0 (i + 3))]) (rest := []) rfl rfl (Nat.le_of_ble_eq_true rfl) (rcv0 m63_H2) (Nat.le_of_ble_eq_true rfl) (cv_H2) (fun z4 H5 r6 => ?_)
  obtain ⟨R_H5, ⟨v_H5, m63_H5, t_H5⟩, kr_H5, ou_H5, rm_H5⟩ := r6
  refine E_run hk 2 (j' := 108) (lv' := [(6, yi z4), (5, yi z1), (4, yi i), (0, .ref 25), (1, .ref 28), (2, .ref 63), (3, .ref 76)]) (st' := [.ref 63]) (hp' := H5) rfl ?_
  refine Y_callP hk rfl (as := [.ref 63]) (rest := []) (v := some (yi z1)) rfl rfl (Nat.le_of_ble_eq_true rfl) (rcv0 m63_H5) (Nat.le_of_ble_eq_true rfl) ((by have e9 := c_X9_thrown (d := 10) m63_H5; rw [t_H5] at e9; exact e9)) ?_
  refine E_run hk 1 (j' := 110) (lv' := [(6, yi z4), (5, yi z1), (4, yi i), (0, .ref 25), (1, .ref 28), (2, .ref 63), (3, .ref 76)]) (st' := [yi z1, yi z1]) (hp' := H5) rfl ?_
  refine Y_ic_h rfl hk rfl ?_
  refine E_run hk 1 (j' := 114) (lv' := [(6, yi z4), (5, yi z1), (4, yi i), (0, .ref 25), (1, .ref 28), (2, .ref 63), (3, .ref 76)]) (st' := [yi z1]) (hp' := H5) rfl ?_
  refine Y_if_ne (a := z1) (by omega) hk rfl (fun g7 => ?_) (fun g7 => ?_)
  ·
    refine E_run hk 1 (j' := 1217) (lv' := [(6, yi z4), (5, yi z1), (4, yi i), (0, .ref 25), (1, .ref 28), (2, .ref 63), (3, .ref 76)]) (st' := []) (hp' := H5) rfl ?_
    exact Ev_le (xle_s rfl rfl (xle_s rfl rfl (xle_s rfl rfl (xle_s rfl rfl (xle_s rfl rfl (xle_z _ rfl)))))) (kk H5 R_H5 rm_H5)
  ·
    refine E_run hk 2 (j' := 117) (lv' := [(6, yi z4), (5, yi z1), (4, yi i), (0, .ref 25), (1, .ref 28), (2, .ref 63), (3, .ref 76)]) (st' := [yi 0, .ref 76]) (hp' := H5) rfl ?_
    obtain ⟨o9_2, o76_2, o0_2⟩ := ou_H5 (by omega)
    refine Y_lald (a := 0) (v := .long ((iN z4).toInt64)) (by omega) (by decide) o0_2 hk rfl o76_2 ?_
    refine E_run hk 2 (j' := 120) (lv' := [(6, yi z4), (5, yi z1), (4, yi i), (0, .ref 25), (1, .ref 28), (2, .ref 63), (3, .ref 76)]) (st' := [.long ((iN z4).toInt64), .long ((iN z4).toInt64)]) (hp' := H5) rfl ?_
    refine Y_lcmp_h rfl hk rfl ?_
    refine Y_if_eq (a := 0) (by omega) hk rfl (fun g8 => ?_) (fun g8 => ?_)
    ·
      refine E_run hk 1 (j' := 1217) (lv' := [(6, yi z4), (5, yi z1), (4, yi i), (0, .ref 25), (1, .ref 28), (2, .ref 63), (3, .ref 76)]) (st' := []) (hp' := H5) rfl ?_
      exact Ev_le (xle_s rfl rfl (xle_s rfl rfl (xle_s rfl rfl (xle_s rfl rfl (xle_s rfl rfl (xle_z _ rfl)))))) (kk H5 R_H5 rm_H5)
    · exfalso; omega
set_option maxRecDepth 100000 in
theorem blk_2 {L : Nat} {F0 : Int → Int} {h : xH} (H : yRel L F0 h) (hF : ∀ q, -2147483648 ≤ F0 q ∧ F0 q ≤ 2147483647) (hL : L ≤ 2048) {i : Int} (hi : 0 ≤ i ∧ i ≤ (L : Int) - 4) {Q : xO → xH → Prop} (kk : ∀ h', yRel L F0 h' → yrm h h' → Ev 11 303 1217 [(4, yi i), (0, .ref 25), (1, .ref 28), (2, .ref 63), (3, .ref 76)] [] h' Q) : Ev 11 303 125 [(4, yi i), (0, .ref 25), (1, .ref 28), (2, .ref 63), (3, .ref 76)] [] h Q := by
  have hk : xtab 303 = (xc_303, 9, 2, []) := rfl
  obtain ⟨v0, S0, T0, N0, X0, B0, A0, Y0, -⟩ := id H
  obtain ⟨od0, a28, -⟩ := A0.1
  have m25 := B0.2.1
  have r1 := hF (i + 1)
  have r2 := hF (i + 2)
  have r3 := hF (i + 3)
  refine E_run hk 4 (j' := 129) (lv' := [(4, yi i), (0, .ref 25), (1, .ref 28), (2, .ref 63), (3, .ref 76)]) (st' := [yi 1, yi i, .ref 25, .ref 28]) (hp' := h) rfl ?_
  refine Y_iadd (a := i) (b := 1) hk rfl ?_
  refine Y_iald (a := (i + 1)) (by omega) (by omega) hk rfl m25 ?_
  refine E_run hk 3 (j' := 134) (lv' := [(4, yi i), (0, .ref 25), (1, .ref 28), (2, .ref 63), (3, .ref 76)]) (st' := [yi 2, yi i, .ref 25, yi (F0 (i + 1)), .ref 28]) (hp' := h) rfl ?_
  refine Y_iadd (a := i) (b := 2) hk rfl ?_
  refine Y_iald (a := (i + 2)) (by omega) (by omega) hk rfl m25 ?_
  refine E_run hk 1 (j' := 137) (lv' := [(4, yi i), (0, .ref 25), (1, .ref 28), (2, .ref 63), (3, .ref 76)]) (st' := [.ref 76, yi (F0 (i + 2)), yi (F0 (i + 1)), .ref 28]) (hp' := h) rfl ?_
  refine Y_callE hk rfl (as := [.ref 28, yi (F0 (i + 1)), yi (F0 (i + 2)), .ref 76]) (rest := []) rfl rfl (Nat.le_of_ble_eq_true rfl) rfl (Nat.le_of_ble_eq_true rfl) (op_dropNote H (x0 := (F0 (i + 1))) (x1 := (F0 (i + 2))) (by omega)) (fun z1 H2 r3 => ?_)
  obtain ⟨m25_H2, ⟨v_H2, m63_H2⟩, cv_H2⟩ := r3
  refine E_run hk 5 (j' := 143) (lv' := [(5, yi z1), (4, yi i), (0, .ref 25), (1, .ref 28), (2, .ref 63), (3, .ref 76)]) (st' := [yi 1, yi i, .ref 25, .ref 63]) (hp' := H2) rfl ?_
  refine Y_iadd (a := i) (b := 1) hk rfl ?_
  refine Y_iald (a := (i + 1)) (by omega) (by omega) hk rfl m25_H2 ?_
  refine E_run hk 3 (j' := 148) (lv' := [(5, yi z1), (4, yi i), (0, .ref 25), (1, .ref 28), (2, .ref 63), (3, .ref 76)]) (st' := [yi 2, yi i, .ref 25, yi (F0 (i + 1)), .ref 63]) (hp' := H2) rfl ?_
  refine Y_iadd (a := i) (b := 2) hk rfl ?_
  refine Y_iald (a := (i + 2)) (by omega) (by omega) hk rfl m25_H2 ?_
  refine Y_callE hk rfl (as := [.ref 63, yi (F0 (i + 1)), yi (F0 (i + 2))]) (rest := []) rfl rfl (Nat.le_of_ble_eq_true rfl) (rcv0 m63_H2) (Nat.le_of_ble_eq_true rfl) (cv_H2) (fun z4 H5 r6 => ?_)
  obtain ⟨R_H5, ⟨v_H5, m63_H5, t_H5⟩, kr_H5, ou_H5, rm_H5⟩ := r6
  refine E_run hk 2 (j' := 153) (lv' := [(6, yi z4), (5, yi z1), (4, yi i), (0, .ref 25), (1, .ref 28), (2, .ref 63), (3, .ref 76)]) (st' := [.ref 63]) (hp' := H5) rfl ?_
  refine Y_callP hk rfl (as := [.ref 63]) (rest := []) (v := some (yi z1)) rfl rfl (Nat.le_of_ble_eq_true rfl) (rcv0 m63_H5) (Nat.le_of_ble_eq_true rfl) ((by have e9 := c_X9_thrown (d := 10) m63_H5; rw [t_H5] at e9; exact e9)) ?_
  refine E_run hk 1 (j' := 155) (lv' := [(6, yi z4), (5, yi z1), (4, yi i), (0, .ref 25), (1, .ref 28), (2, .ref 63), (3, .ref 76)]) (st' := [yi z1, yi z1]) (hp' := H5) rfl ?_
  refine Y_ic_h rfl hk rfl ?_
  refine E_run hk 1 (j' := 159) (lv' := [(6, yi z4), (5, yi z1), (4, yi i), (0, .ref 25), (1, .ref 28), (2, .ref 63), (3, .ref 76)]) (st' := [yi z1]) (hp' := H5) rfl ?_
  refine Y_if_ne (a := z1) (by omega) hk rfl (fun g7 => ?_) (fun g7 => ?_)
  ·
    refine E_run hk 1 (j' := 1217) (lv' := [(6, yi z4), (5, yi z1), (4, yi i), (0, .ref 25), (1, .ref 28), (2, .ref 63), (3, .ref 76)]) (st' := []) (hp' := H5) rfl ?_
    exact Ev_le (xle_s rfl rfl (xle_s rfl rfl (xle_s rfl rfl (xle_s rfl rfl (xle_s rfl rfl (xle_z _ rfl)))))) (kk H5 R_H5 rm_H5)
  ·
    refine E_run hk 2 (j' := 162) (lv' := [(6, yi z4), (5, yi z1), (4, yi i), (0, .ref 25), (1, .ref 28), (2, .ref 63), (3, .ref 76)]) (st' := [yi 0, .ref 76]) (hp' := H5) rfl ?_
    obtain ⟨o9_2, o76_2, o0_2⟩ := ou_H5 (by omega)
    refine Y_lald (a := 0) (v := .long ((iN z4).toInt64)) (by omega) (by decide) o0_2 hk rfl o76_2 ?_
    refine E_run hk 2 (j' := 165) (lv' := [(6, yi z4), (5, yi z1), (4, yi i), (0, .ref 25), (1, .ref 28), (2, .ref 63), (3, .ref 76)]) (st' := [.long ((iN z4).toInt64), .long ((iN z4).toInt64)]) (hp' := H5) rfl ?_
    refine Y_lcmp_h rfl hk rfl ?_
    refine Y_if_eq (a := 0) (by omega) hk rfl (fun g8 => ?_) (fun g8 => ?_)
    ·
      refine E_run hk 1 (j' := 1217) (lv' := [(6, yi z4), (5, yi z1), (4, yi i), (0, .ref 25), (1, .ref 28), (2, .ref 63), (3, .ref 76)]) (st' := []) (hp' := H5) rfl ?_
      exact Ev_le (xle_s rfl rfl (xle_s rfl rfl (xle_s rfl rfl (xle_s rfl rfl (xle_s rfl rfl (xle_z _ rfl)))))) (kk H5 R_H5 rm_H5)
    · exfalso; omega
set_option maxRecDepth 100000 in
theorem blk_3 {L : Nat} {F0 : Int → Int} {h : xH} (H : yRel L F0 h) (hF : ∀ q, -2147483648 ≤ F0 q ∧ F0 q ≤ 2147483647) (hL : L ≤ 2048) {i : Int} (hi : 0 ≤ i ∧ i ≤ (L : Int) - 4) {Q : xO → xH → Prop} (kk : ∀ h', yRel L F0 h' → yrm h h' → Ev 11 303 1217 [(4, yi i), (0, .ref 25), (1, .ref 28), (2, .ref 63), (3, .ref 76)] [] h' Q) : Ev 11 303 170 [(4, yi i), (0, .ref 25), (1, .ref 28), (2, .ref 63), (3, .ref 76)] [] h Q := by
  have hk : xtab 303 = (xc_303, 9, 2, []) := rfl
  obtain ⟨v0, S0, T0, N0, X0, B0, A0, Y0, -⟩ := id H
  obtain ⟨od0, a28, -⟩ := A0.1
  have m25 := B0.2.1
  have r1 := hF (i + 1)
  have r2 := hF (i + 2)
  have r3 := hF (i + 3)
  refine E_run hk 4 (j' := 174) (lv' := [(4, yi i), (0, .ref 25), (1, .ref 28), (2, .ref 63), (3, .ref 76)]) (st' := [yi 1, yi i, .ref 25, .ref 28]) (hp' := h) rfl ?_
  refine Y_iadd (a := i) (b := 1) hk rfl ?_
  refine Y_iald (a := (i + 1)) (by omega) (by omega) hk rfl m25 ?_
  refine E_run hk 3 (j' := 179) (lv' := [(4, yi i), (0, .ref 25), (1, .ref 28), (2, .ref 63), (3, .ref 76)]) (st' := [yi 2, yi i, .ref 25, yi (F0 (i + 1)), .ref 28]) (hp' := h) rfl ?_
  refine Y_iadd (a := i) (b := 2) hk rfl ?_
  refine Y_iald (a := (i + 2)) (by omega) (by omega) hk rfl m25 ?_
  refine E_run hk 1 (j' := 182) (lv' := [(4, yi i), (0, .ref 25), (1, .ref 28), (2, .ref 63), (3, .ref 76)]) (st' := [.ref 76, yi (F0 (i + 2)), yi (F0 (i + 1)), .ref 28]) (hp' := h) rfl ?_
  refine Y_callE hk rfl (as := [.ref 28, yi (F0 (i + 1)), yi (F0 (i + 2)), .ref 76]) (rest := []) rfl rfl (Nat.le_of_ble_eq_true rfl) rfl (Nat.le_of_ble_eq_true rfl) (op_shift H (x0 := (F0 (i + 1))) (x1 := (F0 (i + 2))) (by omega)) (fun z1 H2 r3 => ?_)
  obtain ⟨m25_H2, ⟨v_H2, m63_H2⟩, cv_H2⟩ := r3
  refine E_run hk 5 (j' := 188) (lv' := [(5, yi z1), (4, yi i), (0, .ref 25), (1, .ref 28), (2, .ref 63), (3, .ref 76)]) (st' := [yi 1, yi i, .ref 25, .ref 63]) (hp' := H2) rfl ?_
  refine Y_iadd (a := i) (b := 1) hk rfl ?_
  refine Y_iald (a := (i + 1)) (by omega) (by omega) hk rfl m25_H2 ?_
  refine E_run hk 3 (j' := 193) (lv' := [(5, yi z1), (4, yi i), (0, .ref 25), (1, .ref 28), (2, .ref 63), (3, .ref 76)]) (st' := [yi 2, yi i, .ref 25, yi (F0 (i + 1)), .ref 63]) (hp' := H2) rfl ?_
  refine Y_iadd (a := i) (b := 2) hk rfl ?_
  refine Y_iald (a := (i + 2)) (by omega) (by omega) hk rfl m25_H2 ?_
  refine Y_callE hk rfl (as := [.ref 63, yi (F0 (i + 1)), yi (F0 (i + 2))]) (rest := []) rfl rfl (Nat.le_of_ble_eq_true rfl) (rcv0 m63_H2) (Nat.le_of_ble_eq_true rfl) (cv_H2) (fun z4 H5 r6 => ?_)
  obtain ⟨R_H5, ⟨v_H5, m63_H5, t_H5⟩, kr_H5, ou_H5, rm_H5⟩ := r6
  refine E_run hk 2 (j' := 198) (lv' := [(6, yi z4), (5, yi z1), (4, yi i), (0, .ref 25), (1, .ref 28), (2, .ref 63), (3, .ref 76)]) (st' := [.ref 63]) (hp' := H5) rfl ?_
  refine Y_callP hk rfl (as := [.ref 63]) (rest := []) (v := some (yi z1)) rfl rfl (Nat.le_of_ble_eq_true rfl) (rcv0 m63_H5) (Nat.le_of_ble_eq_true rfl) ((by have e9 := c_X9_thrown (d := 10) m63_H5; rw [t_H5] at e9; exact e9)) ?_
  refine E_run hk 1 (j' := 200) (lv' := [(6, yi z4), (5, yi z1), (4, yi i), (0, .ref 25), (1, .ref 28), (2, .ref 63), (3, .ref 76)]) (st' := [yi z1, yi z1]) (hp' := H5) rfl ?_
  refine Y_ic_h rfl hk rfl ?_
  refine E_run hk 1 (j' := 204) (lv' := [(6, yi z4), (5, yi z1), (4, yi i), (0, .ref 25), (1, .ref 28), (2, .ref 63), (3, .ref 76)]) (st' := [yi z1]) (hp' := H5) rfl ?_
  refine Y_if_ne (a := z1) (by omega) hk rfl (fun g7 => ?_) (fun g7 => ?_)
  ·
    refine E_run hk 1 (j' := 1217) (lv' := [(6, yi z4), (5, yi z1), (4, yi i), (0, .ref 25), (1, .ref 28), (2, .ref 63), (3, .ref 76)]) (st' := []) (hp' := H5) rfl ?_
    exact Ev_le (xle_s rfl rfl (xle_s rfl rfl (xle_s rfl rfl (xle_s rfl rfl (xle_s rfl rfl (xle_z _ rfl)))))) (kk H5 R_H5 rm_H5)
  ·
    refine E_run hk 2 (j' := 207) (lv' := [(6, yi z4), (5, yi z1), (4, yi i), (0, .ref 25), (1, .ref 28), (2, .ref 63), (3, .ref 76)]) (st' := [yi 0, .ref 76]) (hp' := H5) rfl ?_
    obtain ⟨o9_2, o76_2, o0_2⟩ := ou_H5 (by omega)
    refine Y_lald (a := 0) (v := .long ((iN z4).toInt64)) (by omega) (by decide) o0_2 hk rfl o76_2 ?_
    refine E_run hk 2 (j' := 210) (lv' := [(6, yi z4), (5, yi z1), (4, yi i), (0, .ref 25), (1, .ref 28), (2, .ref 63), (3, .ref 76)]) (st' := [.long ((iN z4).toInt64), .long ((iN z4).toInt64)]) (hp' := H5) rfl ?_
    refine Y_lcmp_h rfl hk rfl ?_
    refine Y_if_eq (a := 0) (by omega) hk rfl (fun g8 => ?_) (fun g8 => ?_)
    ·
      refine E_run hk 1 (j' := 1217) (lv' := [(6, yi z4), (5, yi z1), (4, yi i), (0, .ref 25), (1, .ref 28), (2, .ref 63), (3, .ref 76)]) (st' := []) (hp' := H5) rfl ?_
      exact Ev_le (xle_s rfl rfl (xle_s rfl rfl (xle_s rfl rfl (xle_s rfl rfl (xle_s rfl rfl (xle_z _ rfl)))))) (kk H5 R_H5 rm_H5)
    · exfalso; omega
set_option maxRecDepth 100000 in
theorem blk_4 {L : Nat} {F0 : Int → Int} {h : xH} (H : yRel L F0 h) (hF : ∀ q, -2147483648 ≤ F0 q ∧ F0 q ≤ 2147483647) (hL : L ≤ 2048) {i : Int} (hi : 0 ≤ i ∧ i ≤ (L : Int) - 4) {Q : xO → xH → Prop} (kk : ∀ h', yRel L F0 h' → yrm h h' → Ev 11 303 1217 [(4, yi i), (0, .ref 25), (1, .ref 28), (2, .ref 63), (3, .ref 76)] [] h' Q) : Ev 11 303 215 [(4, yi i), (0, .ref 25), (1, .ref 28), (2, .ref 63), (3, .ref 76)] [] h Q := by
  have hk : xtab 303 = (xc_303, 9, 2, []) := rfl
  obtain ⟨v0, S0, T0, N0, X0, B0, A0, Y0, -⟩ := id H
  obtain ⟨od0, a28, -⟩ := A0.1
  have m25 := B0.2.1
  have r1 := hF (i + 1)
  have r2 := hF (i + 2)
  have r3 := hF (i + 3)
  refine E_run hk 4 (j' := 219) (lv' := [(4, yi i), (0, .ref 25), (1, .ref 28), (2, .ref 63), (3, .ref 76)]) (st' := [yi 1, yi i, .ref 25, .ref 28]) (hp' := h) rfl ?_
  refine Y_iadd (a := i) (b := 1) hk rfl ?_
  refine Y_iald (a := (i + 1)) (by omega) (by omega) hk rfl m25 ?_
  refine E_run hk 1 (j' := 222) (lv' := [(4, yi i), (0, .ref 25), (1, .ref 28), (2, .ref 63), (3, .ref 76)]) (st' := [.ref 76, yi (F0 (i + 1)), .ref 28]) (hp' := h) rfl ?_
  refine Y_callE hk rfl (as := [.ref 28, yi (F0 (i + 1)), .ref 76]) (rest := []) rfl rfl (Nat.le_of_ble_eq_true rfl) rfl (Nat.le_of_ble_eq_true rfl) (op_slow H (x0 := (F0 (i + 1))) (by omega)) (fun z1 H2 r3 => ?_)
  obtain ⟨m25_H2, ⟨v_H2, m63_H2⟩, cv_H2⟩ := r3
  refine E_run hk 5 (j' := 228) (lv' := [(5, yi z1), (4, yi i), (0, .ref 25), (1, .ref 28), (2, .ref 63), (3, .ref 76)]) (st' := [yi 1, yi i, .ref 25, .ref 63]) (hp' := H2) rfl ?_
  refine Y_iadd (a := i) (b := 1) hk rfl ?_
  refine Y_iald (a := (i + 1)) (by omega) (by omega) hk rfl m25_H2 ?_
  refine Y_callE hk rfl (as := [.ref 63, yi (F0 (i + 1))]) (rest := []) rfl rfl (Nat.le_of_ble_eq_true rfl) (rcv0 m63_H2) (Nat.le_of_ble_eq_true rfl) (cv_H2) (fun z4 H5 r6 => ?_)
  obtain ⟨R_H5, ⟨v_H5, m63_H5, t_H5⟩, kr_H5, ou_H5, rm_H5⟩ := r6
  refine E_run hk 2 (j' := 233) (lv' := [(6, yi z4), (5, yi z1), (4, yi i), (0, .ref 25), (1, .ref 28), (2, .ref 63), (3, .ref 76)]) (st' := [.ref 63]) (hp' := H5) rfl ?_
  refine Y_callP hk rfl (as := [.ref 63]) (rest := []) (v := some (yi z1)) rfl rfl (Nat.le_of_ble_eq_true rfl) (rcv0 m63_H5) (Nat.le_of_ble_eq_true rfl) ((by have e9 := c_X9_thrown (d := 10) m63_H5; rw [t_H5] at e9; exact e9)) ?_
  refine E_run hk 1 (j' := 235) (lv' := [(6, yi z4), (5, yi z1), (4, yi i), (0, .ref 25), (1, .ref 28), (2, .ref 63), (3, .ref 76)]) (st' := [yi z1, yi z1]) (hp' := H5) rfl ?_
  refine Y_ic_h rfl hk rfl ?_
  refine E_run hk 1 (j' := 239) (lv' := [(6, yi z4), (5, yi z1), (4, yi i), (0, .ref 25), (1, .ref 28), (2, .ref 63), (3, .ref 76)]) (st' := [yi z1]) (hp' := H5) rfl ?_
  refine Y_if_ne (a := z1) (by omega) hk rfl (fun g7 => ?_) (fun g7 => ?_)
  ·
    refine E_run hk 1 (j' := 1217) (lv' := [(6, yi z4), (5, yi z1), (4, yi i), (0, .ref 25), (1, .ref 28), (2, .ref 63), (3, .ref 76)]) (st' := []) (hp' := H5) rfl ?_
    exact Ev_le (xle_s rfl rfl (xle_s rfl rfl (xle_s rfl rfl (xle_s rfl rfl (xle_s rfl rfl (xle_z _ rfl)))))) (kk H5 R_H5 rm_H5)
  ·
    refine E_run hk 2 (j' := 242) (lv' := [(6, yi z4), (5, yi z1), (4, yi i), (0, .ref 25), (1, .ref 28), (2, .ref 63), (3, .ref 76)]) (st' := [yi 0, .ref 76]) (hp' := H5) rfl ?_
    obtain ⟨o9_2, o76_2, o0_2⟩ := ou_H5 (by omega)
    refine Y_lald (a := 0) (v := .long ((iN z4).toInt64)) (by omega) (by decide) o0_2 hk rfl o76_2 ?_
    refine E_run hk 2 (j' := 245) (lv' := [(6, yi z4), (5, yi z1), (4, yi i), (0, .ref 25), (1, .ref 28), (2, .ref 63), (3, .ref 76)]) (st' := [.long ((iN z4).toInt64), .long ((iN z4).toInt64)]) (hp' := H5) rfl ?_
    refine Y_lcmp_h rfl hk rfl ?_
    refine Y_if_eq (a := 0) (by omega) hk rfl (fun g8 => ?_) (fun g8 => ?_)
    ·
      refine E_run hk 1 (j' := 1217) (lv' := [(6, yi z4), (5, yi z1), (4, yi i), (0, .ref 25), (1, .ref 28), (2, .ref 63), (3, .ref 76)]) (st' := []) (hp' := H5) rfl ?_
      exact Ev_le (xle_s rfl rfl (xle_s rfl rfl (xle_s rfl rfl (xle_s rfl rfl (xle_s rfl rfl (xle_z _ rfl)))))) (kk H5 R_H5 rm_H5)
    · exfalso; omega
set_option maxRecDepth 100000 in
theorem blk_5 {L : Nat} {F0 : Int → Int} {h : xH} (H : yRel L F0 h) (hF : ∀ q, -2147483648 ≤ F0 q ∧ F0 q ≤ 2147483647) (hL : L ≤ 2048) {i : Int} (hi : 0 ≤ i ∧ i ≤ (L : Int) - 4) {Q : xO → xH → Prop} (kk : ∀ h', yRel L F0 h' → yrm h h' → Ev 11 303 1217 [(4, yi i), (0, .ref 25), (1, .ref 28), (2, .ref 63), (3, .ref 76)] [] h' Q) : Ev 11 303 250 [(4, yi i), (0, .ref 25), (1, .ref 28), (2, .ref 63), (3, .ref 76)] [] h Q := by
  have hk : xtab 303 = (xc_303, 9, 2, []) := rfl
  obtain ⟨v0, S0, T0, N0, X0, B0, A0, Y0, -⟩ := id H
  obtain ⟨od0, a28, -⟩ := A0.1
  have m25 := B0.2.1
  have r1 := hF (i + 1)
  have r2 := hF (i + 2)
  have r3 := hF (i + 3)
  refine E_run hk 4 (j' := 254) (lv' := [(4, yi i), (0, .ref 25), (1, .ref 28), (2, .ref 63), (3, .ref 76)]) (st' := [yi 1, yi i, .ref 25, .ref 28]) (hp' := h) rfl ?_
  refine Y_iadd (a := i) (b := 1) hk rfl ?_
  refine Y_iald (a := (i + 1)) (by omega) (by omega) hk rfl m25 ?_
  refine E_run hk 1 (j' := 257) (lv' := [(4, yi i), (0, .ref 25), (1, .ref 28), (2, .ref 63), (3, .ref 76)]) (st' := [.ref 76, yi (F0 (i + 1)), .ref 28]) (hp' := h) rfl ?_
  refine Y_callE hk rfl (as := [.ref 28, yi (F0 (i + 1)), .ref 76]) (rest := []) rfl rfl (Nat.le_of_ble_eq_true rfl) rfl (Nat.le_of_ble_eq_true rfl) (op_flip H (x0 := (F0 (i + 1))) (by omega)) (fun z1 H2 r3 => ?_)
  obtain ⟨m25_H2, ⟨v_H2, m63_H2⟩, cv_H2⟩ := r3
  refine E_run hk 5 (j' := 263) (lv' := [(5, yi z1), (4, yi i), (0, .ref 25), (1, .ref 28), (2, .ref 63), (3, .ref 76)]) (st' := [yi 1, yi i, .ref 25, .ref 63]) (hp' := H2) rfl ?_
  refine Y_iadd (a := i) (b := 1) hk rfl ?_
  refine Y_iald (a := (i + 1)) (by omega) (by omega) hk rfl m25_H2 ?_
  refine Y_callE hk rfl (as := [.ref 63, yi (F0 (i + 1))]) (rest := []) rfl rfl (Nat.le_of_ble_eq_true rfl) (rcv0 m63_H2) (Nat.le_of_ble_eq_true rfl) (cv_H2) (fun z4 H5 r6 => ?_)
  obtain ⟨R_H5, ⟨v_H5, m63_H5, t_H5⟩, kr_H5, ou_H5, rm_H5⟩ := r6
  refine E_run hk 2 (j' := 268) (lv' := [(6, yi z4), (5, yi z1), (4, yi i), (0, .ref 25), (1, .ref 28), (2, .ref 63), (3, .ref 76)]) (st' := [.ref 63]) (hp' := H5) rfl ?_
  refine Y_callP hk rfl (as := [.ref 63]) (rest := []) (v := some (yi z1)) rfl rfl (Nat.le_of_ble_eq_true rfl) (rcv0 m63_H5) (Nat.le_of_ble_eq_true rfl) ((by have e9 := c_X9_thrown (d := 10) m63_H5; rw [t_H5] at e9; exact e9)) ?_
  refine E_run hk 1 (j' := 270) (lv' := [(6, yi z4), (5, yi z1), (4, yi i), (0, .ref 25), (1, .ref 28), (2, .ref 63), (3, .ref 76)]) (st' := [yi z1, yi z1]) (hp' := H5) rfl ?_
  refine Y_ic_h rfl hk rfl ?_
  refine E_run hk 1 (j' := 274) (lv' := [(6, yi z4), (5, yi z1), (4, yi i), (0, .ref 25), (1, .ref 28), (2, .ref 63), (3, .ref 76)]) (st' := [yi z1]) (hp' := H5) rfl ?_
  refine Y_if_ne (a := z1) (by omega) hk rfl (fun g7 => ?_) (fun g7 => ?_)
  ·
    refine E_run hk 1 (j' := 1217) (lv' := [(6, yi z4), (5, yi z1), (4, yi i), (0, .ref 25), (1, .ref 28), (2, .ref 63), (3, .ref 76)]) (st' := []) (hp' := H5) rfl ?_
    exact Ev_le (xle_s rfl rfl (xle_s rfl rfl (xle_s rfl rfl (xle_s rfl rfl (xle_s rfl rfl (xle_z _ rfl)))))) (kk H5 R_H5 rm_H5)
  ·
    refine E_run hk 2 (j' := 277) (lv' := [(6, yi z4), (5, yi z1), (4, yi i), (0, .ref 25), (1, .ref 28), (2, .ref 63), (3, .ref 76)]) (st' := [yi 0, .ref 76]) (hp' := H5) rfl ?_
    obtain ⟨o9_2, o76_2, o0_2⟩ := ou_H5 (by omega)
    refine Y_lald (a := 0) (v := .long ((iN z4).toInt64)) (by omega) (by decide) o0_2 hk rfl o76_2 ?_
    refine E_run hk 2 (j' := 280) (lv' := [(6, yi z4), (5, yi z1), (4, yi i), (0, .ref 25), (1, .ref 28), (2, .ref 63), (3, .ref 76)]) (st' := [.long ((iN z4).toInt64), .long ((iN z4).toInt64)]) (hp' := H5) rfl ?_
    refine Y_lcmp_h rfl hk rfl ?_
    refine Y_if_eq (a := 0) (by omega) hk rfl (fun g8 => ?_) (fun g8 => ?_)
    ·
      refine E_run hk 1 (j' := 1217) (lv' := [(6, yi z4), (5, yi z1), (4, yi i), (0, .ref 25), (1, .ref 28), (2, .ref 63), (3, .ref 76)]) (st' := []) (hp' := H5) rfl ?_
      exact Ev_le (xle_s rfl rfl (xle_s rfl rfl (xle_s rfl rfl (xle_s rfl rfl (xle_s rfl rfl (xle_z _ rfl)))))) (kk H5 R_H5 rm_H5)
    · exfalso; omega
set_option maxRecDepth 100000 in
theorem blk_6 {L : Nat} {F0 : Int → Int} {h : xH} (H : yRel L F0 h) (hF : ∀ q, -2147483648 ≤ F0 q ∧ F0 q ≤ 2147483647) (hL : L ≤ 2048) {i : Int} (hi : 0 ≤ i ∧ i ≤ (L : Int) - 4) {Q : xO → xH → Prop} (kk : ∀ h', yRel L F0 h' → yrm h h' → Ev 11 303 1217 [(4, yi i), (0, .ref 25), (1, .ref 28), (2, .ref 63), (3, .ref 76)] [] h' Q) : Ev 11 303 285 [(4, yi i), (0, .ref 25), (1, .ref 28), (2, .ref 63), (3, .ref 76)] [] h Q := by
  have hk : xtab 303 = (xc_303, 9, 2, []) := rfl
  obtain ⟨v0, S0, T0, N0, X0, B0, A0, Y0, -⟩ := id H
  obtain ⟨od0, a28, -⟩ := A0.1
  have m25 := B0.2.1
  have r1 := hF (i + 1)
  have r2 := hF (i + 2)
  have r3 := hF (i + 3)
  refine E_run hk 1 (j' := 286) (lv' := [(4, yi i), (0, .ref 25), (1, .ref 28), (2, .ref 63), (3, .ref 76)]) (st' := [.ref 28]) (hp' := h) rfl ?_
  refine Y_callE hk rfl (as := [.ref 28]) (rest := []) rfl rfl (Nat.le_of_ble_eq_true rfl) (rcv0 a28) (Nat.le_of_ble_eq_true rfl) (op_exchange H ) (fun z1 H2 r3 => ?_)
  obtain ⟨m25_H2, ⟨v_H2, m63_H2⟩, cv_H2⟩ := r3
  refine E_run hk 1 (j' := 288) (lv' := [(4, yi i), (0, .ref 25), (1, .ref 28), (2, .ref 63), (3, .ref 76)]) (st' := [.ref 63, yi z1]) (hp' := H2) rfl ?_
  refine Y_callE hk rfl (as := [.ref 63]) (rest := [yi z1]) rfl rfl (Nat.le_of_ble_eq_true rfl) (rcv0 m63_H2) (Nat.le_of_ble_eq_true rfl) (cv_H2) (fun z4 H5 r6 => ?_)
  obtain ⟨R_H5, eq_H5, rm_H5⟩ := r6
  refine Y_ic_h eq_H5.symm hk rfl ?_
  exact Ev_le (xle_s rfl rfl (xle_s rfl rfl (xle_s rfl rfl (xle_s rfl rfl (xle_s rfl rfl (xle_z _ rfl)))))) (kk H5 R_H5 rm_H5)
set_option maxRecDepth 100000 in
theorem blk_7 {L : Nat} {F0 : Int → Int} {h : xH} (H : yRel L F0 h) (hF : ∀ q, -2147483648 ≤ F0 q ∧ F0 q ≤ 2147483647) (hL : L ≤ 2048) {i : Int} (hi : 0 ≤ i ∧ i ≤ (L : Int) - 4) {Q : xO → xH → Prop} (kk : ∀ h', yRel L F0 h' → yrm h h' → Ev 11 303 1217 [(4, yi i), (0, .ref 25), (1, .ref 28), (2, .ref 63), (3, .ref 76)] [] h' Q) : Ev 11 303 292 [(4, yi i), (0, .ref 25), (1, .ref 28), (2, .ref 63), (3, .ref 76)] [] h Q := by
  have hk : xtab 303 = (xc_303, 9, 2, []) := rfl
  obtain ⟨v0, S0, T0, N0, X0, B0, A0, Y0, -⟩ := id H
  obtain ⟨od0, a28, -⟩ := A0.1
  have m25 := B0.2.1
  have r1 := hF (i + 1)
  have r2 := hF (i + 2)
  have r3 := hF (i + 3)
  refine E_run hk 4 (j' := 296) (lv' := [(4, yi i), (0, .ref 25), (1, .ref 28), (2, .ref 63), (3, .ref 76)]) (st' := [yi 1, yi i, .ref 25, .ref 28]) (hp' := h) rfl ?_
  refine Y_iadd (a := i) (b := 1) hk rfl ?_
  refine Y_iald (a := (i + 1)) (by omega) (by omega) hk rfl m25 ?_
  refine E_run hk 1 (j' := 299) (lv' := [(4, yi i), (0, .ref 25), (1, .ref 28), (2, .ref 63), (3, .ref 76)]) (st' := [.ref 76, yi (F0 (i + 1)), .ref 28]) (hp' := h) rfl ?_
  refine Y_callE hk rfl (as := [.ref 28, yi (F0 (i + 1)), .ref 76]) (rest := []) rfl rfl (Nat.le_of_ble_eq_true rfl) rfl (Nat.le_of_ble_eq_true rfl) (op_setBound H (x0 := (F0 (i + 1))) (by omega)) (fun z1 H2 r3 => ?_)
  obtain ⟨m25_H2, ⟨v_H2, m63_H2⟩, cv_H2⟩ := r3
  refine E_run hk 5 (j' := 305) (lv' := [(5, yi z1), (4, yi i), (0, .ref 25), (1, .ref 28), (2, .ref 63), (3, .ref 76)]) (st' := [yi 1, yi i, .ref 25, .ref 63]) (hp' := H2) rfl ?_
  refine Y_iadd (a := i) (b := 1) hk rfl ?_
  refine Y_iald (a := (i + 1)) (by omega) (by omega) hk rfl m25_H2 ?_
  refine Y_callE hk rfl (as := [.ref 63, yi (F0 (i + 1))]) (rest := []) rfl rfl (Nat.le_of_ble_eq_true rfl) (rcv0 m63_H2) (Nat.le_of_ble_eq_true rfl) (cv_H2) (fun z4 H5 r6 => ?_)
  obtain ⟨R_H5, ⟨v_H5, m63_H5, t_H5⟩, kr_H5, ou_H5, rm_H5⟩ := r6
  refine E_run hk 2 (j' := 310) (lv' := [(6, yi z4), (5, yi z1), (4, yi i), (0, .ref 25), (1, .ref 28), (2, .ref 63), (3, .ref 76)]) (st' := [.ref 63]) (hp' := H5) rfl ?_
  refine Y_callP hk rfl (as := [.ref 63]) (rest := []) (v := some (yi z1)) rfl rfl (Nat.le_of_ble_eq_true rfl) (rcv0 m63_H5) (Nat.le_of_ble_eq_true rfl) ((by have e9 := c_X9_thrown (d := 10) m63_H5; rw [t_H5] at e9; exact e9)) ?_
  refine E_run hk 1 (j' := 312) (lv' := [(6, yi z4), (5, yi z1), (4, yi i), (0, .ref 25), (1, .ref 28), (2, .ref 63), (3, .ref 76)]) (st' := [yi z1, yi z1]) (hp' := H5) rfl ?_
  refine Y_ic_h rfl hk rfl ?_
  refine E_run hk 1 (j' := 316) (lv' := [(6, yi z4), (5, yi z1), (4, yi i), (0, .ref 25), (1, .ref 28), (2, .ref 63), (3, .ref 76)]) (st' := [yi z1]) (hp' := H5) rfl ?_
  refine Y_if_ne (a := z1) (by omega) hk rfl (fun g7 => ?_) (fun g7 => ?_)
  ·
    refine E_run hk 1 (j' := 1217) (lv' := [(6, yi z4), (5, yi z1), (4, yi i), (0, .ref 25), (1, .ref 28), (2, .ref 63), (3, .ref 76)]) (st' := []) (hp' := H5) rfl ?_
    exact Ev_le (xle_s rfl rfl (xle_s rfl rfl (xle_s rfl rfl (xle_s rfl rfl (xle_s rfl rfl (xle_z _ rfl)))))) (kk H5 R_H5 rm_H5)
  ·
    refine E_run hk 2 (j' := 319) (lv' := [(6, yi z4), (5, yi z1), (4, yi i), (0, .ref 25), (1, .ref 28), (2, .ref 63), (3, .ref 76)]) (st' := [yi 0, .ref 76]) (hp' := H5) rfl ?_
    obtain ⟨o9_2, o76_2, o0_2⟩ := ou_H5 (by omega)
    refine Y_lald (a := 0) (v := .long ((iN z4).toInt64)) (by omega) (by decide) o0_2 hk rfl o76_2 ?_
    refine E_run hk 2 (j' := 322) (lv' := [(6, yi z4), (5, yi z1), (4, yi i), (0, .ref 25), (1, .ref 28), (2, .ref 63), (3, .ref 76)]) (st' := [.long ((iN z4).toInt64), .long ((iN z4).toInt64)]) (hp' := H5) rfl ?_
    refine Y_lcmp_h rfl hk rfl ?_
    refine Y_if_eq (a := 0) (by omega) hk rfl (fun g8 => ?_) (fun g8 => ?_)
    ·
      refine E_run hk 1 (j' := 1217) (lv' := [(6, yi z4), (5, yi z1), (4, yi i), (0, .ref 25), (1, .ref 28), (2, .ref 63), (3, .ref 76)]) (st' := []) (hp' := H5) rfl ?_
      exact Ev_le (xle_s rfl rfl (xle_s rfl rfl (xle_s rfl rfl (xle_s rfl rfl (xle_s rfl rfl (xle_z _ rfl)))))) (kk H5 R_H5 rm_H5)
    · exfalso; omega
set_option maxRecDepth 100000 in
theorem blk_8 {L : Nat} {F0 : Int → Int} {h : xH} (H : yRel L F0 h) (hF : ∀ q, -2147483648 ≤ F0 q ∧ F0 q ≤ 2147483647) (hL : L ≤ 2048) {i : Int} (hi : 0 ≤ i ∧ i ≤ (L : Int) - 4) {Q : xO → xH → Prop} (kk : ∀ h', yRel L F0 h' → yrm h h' → Ev 11 303 1217 [(4, yi i), (0, .ref 25), (1, .ref 28), (2, .ref 63), (3, .ref 76)] [] h' Q) : Ev 11 303 327 [(4, yi i), (0, .ref 25), (1, .ref 28), (2, .ref 63), (3, .ref 76)] [] h Q := by
  have hk : xtab 303 = (xc_303, 9, 2, []) := rfl
  obtain ⟨v0, S0, T0, N0, X0, B0, A0, Y0, -⟩ := id H
  obtain ⟨od0, a28, -⟩ := A0.1
  have m25 := B0.2.1
  have r1 := hF (i + 1)
  have r2 := hF (i + 2)
  have r3 := hF (i + 3)
  refine E_run hk 4 (j' := 331) (lv' := [(4, yi i), (0, .ref 25), (1, .ref 28), (2, .ref 63), (3, .ref 76)]) (st' := [yi 1, yi i, .ref 25, .ref 28]) (hp' := h) rfl ?_
  refine Y_iadd (a := i) (b := 1) hk rfl ?_
  refine Y_iald (a := (i + 1)) (by omega) (by omega) hk rfl m25 ?_
  refine E_run hk 1 (j' := 334) (lv' := [(4, yi i), (0, .ref 25), (1, .ref 28), (2, .ref 63), (3, .ref 76)]) (st' := [.ref 76, yi (F0 (i + 1)), .ref 28]) (hp' := h) rfl ?_
  refine Y_callE hk rfl (as := [.ref 28, yi (F0 (i + 1)), .ref 76]) (rest := []) rfl rfl (Nat.le_of_ble_eq_true rfl) rfl (Nat.le_of_ble_eq_true rfl) (op_setHold H (x0 := (F0 (i + 1))) (by omega)) (fun z1 H2 r3 => ?_)
  obtain ⟨m25_H2, ⟨v_H2, m63_H2⟩, cv_H2⟩ := r3
  refine E_run hk 5 (j' := 340) (lv' := [(5, yi z1), (4, yi i), (0, .ref 25), (1, .ref 28), (2, .ref 63), (3, .ref 76)]) (st' := [yi 1, yi i, .ref 25, .ref 63]) (hp' := H2) rfl ?_
  refine Y_iadd (a := i) (b := 1) hk rfl ?_
  refine Y_iald (a := (i + 1)) (by omega) (by omega) hk rfl m25_H2 ?_
  refine Y_callE hk rfl (as := [.ref 63, yi (F0 (i + 1))]) (rest := []) rfl rfl (Nat.le_of_ble_eq_true rfl) (rcv0 m63_H2) (Nat.le_of_ble_eq_true rfl) (cv_H2) (fun z4 H5 r6 => ?_)
  obtain ⟨R_H5, ⟨v_H5, m63_H5, t_H5⟩, kr_H5, ou_H5, rm_H5⟩ := r6
  refine E_run hk 2 (j' := 345) (lv' := [(6, yi z4), (5, yi z1), (4, yi i), (0, .ref 25), (1, .ref 28), (2, .ref 63), (3, .ref 76)]) (st' := [.ref 63]) (hp' := H5) rfl ?_
  refine Y_callP hk rfl (as := [.ref 63]) (rest := []) (v := some (yi z1)) rfl rfl (Nat.le_of_ble_eq_true rfl) (rcv0 m63_H5) (Nat.le_of_ble_eq_true rfl) ((by have e9 := c_X9_thrown (d := 10) m63_H5; rw [t_H5] at e9; exact e9)) ?_
  refine E_run hk 1 (j' := 347) (lv' := [(6, yi z4), (5, yi z1), (4, yi i), (0, .ref 25), (1, .ref 28), (2, .ref 63), (3, .ref 76)]) (st' := [yi z1, yi z1]) (hp' := H5) rfl ?_
  refine Y_ic_h rfl hk rfl ?_
  refine E_run hk 1 (j' := 351) (lv' := [(6, yi z4), (5, yi z1), (4, yi i), (0, .ref 25), (1, .ref 28), (2, .ref 63), (3, .ref 76)]) (st' := [yi z1]) (hp' := H5) rfl ?_
  refine Y_if_ne (a := z1) (by omega) hk rfl (fun g7 => ?_) (fun g7 => ?_)
  ·
    refine E_run hk 1 (j' := 1217) (lv' := [(6, yi z4), (5, yi z1), (4, yi i), (0, .ref 25), (1, .ref 28), (2, .ref 63), (3, .ref 76)]) (st' := []) (hp' := H5) rfl ?_
    exact Ev_le (xle_s rfl rfl (xle_s rfl rfl (xle_s rfl rfl (xle_s rfl rfl (xle_s rfl rfl (xle_z _ rfl)))))) (kk H5 R_H5 rm_H5)
  ·
    refine E_run hk 2 (j' := 354) (lv' := [(6, yi z4), (5, yi z1), (4, yi i), (0, .ref 25), (1, .ref 28), (2, .ref 63), (3, .ref 76)]) (st' := [yi 0, .ref 76]) (hp' := H5) rfl ?_
    obtain ⟨o9_2, o76_2, o0_2⟩ := ou_H5 (by omega)
    refine Y_lald (a := 0) (v := .long ((iN z4).toInt64)) (by omega) (by decide) o0_2 hk rfl o76_2 ?_
    refine E_run hk 2 (j' := 357) (lv' := [(6, yi z4), (5, yi z1), (4, yi i), (0, .ref 25), (1, .ref 28), (2, .ref 63), (3, .ref 76)]) (st' := [.long ((iN z4).toInt64), .long ((iN z4).toInt64)]) (hp' := H5) rfl ?_
    refine Y_lcmp_h rfl hk rfl ?_
    refine Y_if_eq (a := 0) (by omega) hk rfl (fun g8 => ?_) (fun g8 => ?_)
    ·
      refine E_run hk 1 (j' := 1217) (lv' := [(6, yi z4), (5, yi z1), (4, yi i), (0, .ref 25), (1, .ref 28), (2, .ref 63), (3, .ref 76)]) (st' := []) (hp' := H5) rfl ?_
      exact Ev_le (xle_s rfl rfl (xle_s rfl rfl (xle_s rfl rfl (xle_s rfl rfl (xle_s rfl rfl (xle_z _ rfl)))))) (kk H5 R_H5 rm_H5)
    · exfalso; omega
set_option maxRecDepth 100000 in
theorem blk_9 {L : Nat} {F0 : Int → Int} {h : xH} (H : yRel L F0 h) (hF : ∀ q, -2147483648 ≤ F0 q ∧ F0 q ≤ 2147483647) (hL : L ≤ 2048) {i : Int} (hi : 0 ≤ i ∧ i ≤ (L : Int) - 4) {Q : xO → xH → Prop} (kk : ∀ h', yRel L F0 h' → yrm h h' → Ev 11 303 1217 [(4, yi i), (0, .ref 25), (1, .ref 28), (2, .ref 63), (3, .ref 76)] [] h' Q) : Ev 11 303 362 [(4, yi i), (0, .ref 25), (1, .ref 28), (2, .ref 63), (3, .ref 76)] [] h Q := by
  have hk : xtab 303 = (xc_303, 9, 2, []) := rfl
  obtain ⟨v0, S0, T0, N0, X0, B0, A0, Y0, -⟩ := id H
  obtain ⟨od0, a28, -⟩ := A0.1
  have m25 := B0.2.1
  have r1 := hF (i + 1)
  have r2 := hF (i + 2)
  have r3 := hF (i + 3)
  refine E_run hk 4 (j' := 366) (lv' := [(4, yi i), (0, .ref 25), (1, .ref 28), (2, .ref 63), (3, .ref 76)]) (st' := [yi 1, yi i, .ref 25, .ref 28]) (hp' := h) rfl ?_
  refine Y_iadd (a := i) (b := 1) hk rfl ?_
  refine Y_iald (a := (i + 1)) (by omega) (by omega) hk rfl m25 ?_
  refine E_run hk 1 (j' := 369) (lv' := [(4, yi i), (0, .ref 25), (1, .ref 28), (2, .ref 63), (3, .ref 76)]) (st' := [.ref 76, yi (F0 (i + 1)), .ref 28]) (hp' := h) rfl ?_
  refine Y_callE hk rfl (as := [.ref 28, yi (F0 (i + 1)), .ref 76]) (rest := []) rfl rfl (Nat.le_of_ble_eq_true rfl) rfl (Nat.le_of_ble_eq_true rfl) (op_setJudge H (x0 := (F0 (i + 1))) (by omega)) (fun z1 H2 r3 => ?_)
  obtain ⟨m25_H2, ⟨v_H2, m63_H2⟩, cv_H2⟩ := r3
  refine E_run hk 5 (j' := 375) (lv' := [(5, yi z1), (4, yi i), (0, .ref 25), (1, .ref 28), (2, .ref 63), (3, .ref 76)]) (st' := [yi 1, yi i, .ref 25, .ref 63]) (hp' := H2) rfl ?_
  refine Y_iadd (a := i) (b := 1) hk rfl ?_
  refine Y_iald (a := (i + 1)) (by omega) (by omega) hk rfl m25_H2 ?_
  refine Y_callE hk rfl (as := [.ref 63, yi (F0 (i + 1))]) (rest := []) rfl rfl (Nat.le_of_ble_eq_true rfl) (rcv0 m63_H2) (Nat.le_of_ble_eq_true rfl) (cv_H2) (fun z4 H5 r6 => ?_)
  obtain ⟨R_H5, ⟨v_H5, m63_H5, t_H5⟩, kr_H5, ou_H5, rm_H5⟩ := r6
  refine E_run hk 2 (j' := 380) (lv' := [(6, yi z4), (5, yi z1), (4, yi i), (0, .ref 25), (1, .ref 28), (2, .ref 63), (3, .ref 76)]) (st' := [.ref 63]) (hp' := H5) rfl ?_
  refine Y_callP hk rfl (as := [.ref 63]) (rest := []) (v := some (yi z1)) rfl rfl (Nat.le_of_ble_eq_true rfl) (rcv0 m63_H5) (Nat.le_of_ble_eq_true rfl) ((by have e9 := c_X9_thrown (d := 10) m63_H5; rw [t_H5] at e9; exact e9)) ?_
  refine E_run hk 1 (j' := 382) (lv' := [(6, yi z4), (5, yi z1), (4, yi i), (0, .ref 25), (1, .ref 28), (2, .ref 63), (3, .ref 76)]) (st' := [yi z1, yi z1]) (hp' := H5) rfl ?_
  refine Y_ic_h rfl hk rfl ?_
  refine E_run hk 1 (j' := 386) (lv' := [(6, yi z4), (5, yi z1), (4, yi i), (0, .ref 25), (1, .ref 28), (2, .ref 63), (3, .ref 76)]) (st' := [yi z1]) (hp' := H5) rfl ?_
  refine Y_if_ne (a := z1) (by omega) hk rfl (fun g7 => ?_) (fun g7 => ?_)
  ·
    refine E_run hk 1 (j' := 1217) (lv' := [(6, yi z4), (5, yi z1), (4, yi i), (0, .ref 25), (1, .ref 28), (2, .ref 63), (3, .ref 76)]) (st' := []) (hp' := H5) rfl ?_
    exact Ev_le (xle_s rfl rfl (xle_s rfl rfl (xle_s rfl rfl (xle_s rfl rfl (xle_s rfl rfl (xle_z _ rfl)))))) (kk H5 R_H5 rm_H5)
  ·
    refine E_run hk 2 (j' := 389) (lv' := [(6, yi z4), (5, yi z1), (4, yi i), (0, .ref 25), (1, .ref 28), (2, .ref 63), (3, .ref 76)]) (st' := [yi 0, .ref 76]) (hp' := H5) rfl ?_
    obtain ⟨o9_2, o76_2, o0_2⟩ := ou_H5 (by omega)
    refine Y_lald (a := 0) (v := .long ((iN z4).toInt64)) (by omega) (by decide) o0_2 hk rfl o76_2 ?_
    refine E_run hk 2 (j' := 392) (lv' := [(6, yi z4), (5, yi z1), (4, yi i), (0, .ref 25), (1, .ref 28), (2, .ref 63), (3, .ref 76)]) (st' := [.long ((iN z4).toInt64), .long ((iN z4).toInt64)]) (hp' := H5) rfl ?_
    refine Y_lcmp_h rfl hk rfl ?_
    refine Y_if_eq (a := 0) (by omega) hk rfl (fun g8 => ?_) (fun g8 => ?_)
    ·
      refine E_run hk 1 (j' := 1217) (lv' := [(6, yi z4), (5, yi z1), (4, yi i), (0, .ref 25), (1, .ref 28), (2, .ref 63), (3, .ref 76)]) (st' := []) (hp' := H5) rfl ?_
      exact Ev_le (xle_s rfl rfl (xle_s rfl rfl (xle_s rfl rfl (xle_s rfl rfl (xle_s rfl rfl (xle_z _ rfl)))))) (kk H5 R_H5 rm_H5)
    · exfalso; omega
set_option maxRecDepth 100000 in
theorem blk_10 {L : Nat} {F0 : Int → Int} {h : xH} (H : yRel L F0 h) (hF : ∀ q, -2147483648 ≤ F0 q ∧ F0 q ≤ 2147483647) (hL : L ≤ 2048) {i : Int} (hi : 0 ≤ i ∧ i ≤ (L : Int) - 4) {Q : xO → xH → Prop} (kk : ∀ h', yRel L F0 h' → yrm h h' → Ev 11 303 1217 [(4, yi i), (0, .ref 25), (1, .ref 28), (2, .ref 63), (3, .ref 76)] [] h' Q) : Ev 11 303 397 [(4, yi i), (0, .ref 25), (1, .ref 28), (2, .ref 63), (3, .ref 76)] [] h Q := by
  have hk : xtab 303 = (xc_303, 9, 2, []) := rfl
  obtain ⟨v0, S0, T0, N0, X0, B0, A0, Y0, -⟩ := id H
  obtain ⟨od0, a28, -⟩ := A0.1
  have m25 := B0.2.1
  have r1 := hF (i + 1)
  have r2 := hF (i + 2)
  have r3 := hF (i + 3)
  refine E_run hk 4 (j' := 401) (lv' := [(4, yi i), (0, .ref 25), (1, .ref 28), (2, .ref 63), (3, .ref 76)]) (st' := [yi 1, yi i, .ref 25, .ref 28]) (hp' := h) rfl ?_
  refine Y_iadd (a := i) (b := 1) hk rfl ?_
  refine Y_iald (a := (i + 1)) (by omega) (by omega) hk rfl m25 ?_
  refine E_run hk 1 (j' := 404) (lv' := [(4, yi i), (0, .ref 25), (1, .ref 28), (2, .ref 63), (3, .ref 76)]) (st' := [.ref 76, yi (F0 (i + 1)), .ref 28]) (hp' := h) rfl ?_
  refine Y_callE hk rfl (as := [.ref 28, yi (F0 (i + 1)), .ref 76]) (rest := []) rfl rfl (Nat.le_of_ble_eq_true rfl) rfl (Nat.le_of_ble_eq_true rfl) (op_append H (x0 := (F0 (i + 1))) (by omega)) (fun z1 H2 r3 => ?_)
  obtain ⟨m25_H2, ⟨v_H2, m63_H2⟩, cv_H2⟩ := r3
  refine E_run hk 5 (j' := 410) (lv' := [(5, yi z1), (4, yi i), (0, .ref 25), (1, .ref 28), (2, .ref 63), (3, .ref 76)]) (st' := [yi 1, yi i, .ref 25, .ref 63]) (hp' := H2) rfl ?_
  refine Y_iadd (a := i) (b := 1) hk rfl ?_
  refine Y_iald (a := (i + 1)) (by omega) (by omega) hk rfl m25_H2 ?_
  refine Y_callE hk rfl (as := [.ref 63, yi (F0 (i + 1))]) (rest := []) rfl rfl (Nat.le_of_ble_eq_true rfl) (rcv0 m63_H2) (Nat.le_of_ble_eq_true rfl) (cv_H2) (fun z4 H5 r6 => ?_)
  obtain ⟨R_H5, ⟨v_H5, m63_H5, t_H5⟩, kr_H5, ou_H5, rm_H5⟩ := r6
  refine E_run hk 2 (j' := 415) (lv' := [(6, yi z4), (5, yi z1), (4, yi i), (0, .ref 25), (1, .ref 28), (2, .ref 63), (3, .ref 76)]) (st' := [.ref 63]) (hp' := H5) rfl ?_
  refine Y_callP hk rfl (as := [.ref 63]) (rest := []) (v := some (yi z1)) rfl rfl (Nat.le_of_ble_eq_true rfl) (rcv0 m63_H5) (Nat.le_of_ble_eq_true rfl) ((by have e9 := c_X9_thrown (d := 10) m63_H5; rw [t_H5] at e9; exact e9)) ?_
  refine E_run hk 1 (j' := 417) (lv' := [(6, yi z4), (5, yi z1), (4, yi i), (0, .ref 25), (1, .ref 28), (2, .ref 63), (3, .ref 76)]) (st' := [yi z1, yi z1]) (hp' := H5) rfl ?_
  refine Y_ic_h rfl hk rfl ?_
  refine E_run hk 1 (j' := 421) (lv' := [(6, yi z4), (5, yi z1), (4, yi i), (0, .ref 25), (1, .ref 28), (2, .ref 63), (3, .ref 76)]) (st' := [yi z1]) (hp' := H5) rfl ?_
  refine Y_if_ne (a := z1) (by omega) hk rfl (fun g7 => ?_) (fun g7 => ?_)
  ·
    refine E_run hk 1 (j' := 1217) (lv' := [(6, yi z4), (5, yi z1), (4, yi i), (0, .ref 25), (1, .ref 28), (2, .ref 63), (3, .ref 76)]) (st' := []) (hp' := H5) rfl ?_
    exact Ev_le (xle_s rfl rfl (xle_s rfl rfl (xle_s rfl rfl (xle_s rfl rfl (xle_s rfl rfl (xle_z _ rfl)))))) (kk H5 R_H5 rm_H5)
  ·
    refine E_run hk 2 (j' := 424) (lv' := [(6, yi z4), (5, yi z1), (4, yi i), (0, .ref 25), (1, .ref 28), (2, .ref 63), (3, .ref 76)]) (st' := [yi 0, .ref 76]) (hp' := H5) rfl ?_
    obtain ⟨o9_2, o76_2, o0_2⟩ := ou_H5 (by omega)
    refine Y_lald (a := 0) (v := .long ((iN z4).toInt64)) (by omega) (by decide) o0_2 hk rfl o76_2 ?_
    refine E_run hk 2 (j' := 427) (lv' := [(6, yi z4), (5, yi z1), (4, yi i), (0, .ref 25), (1, .ref 28), (2, .ref 63), (3, .ref 76)]) (st' := [.long ((iN z4).toInt64), .long ((iN z4).toInt64)]) (hp' := H5) rfl ?_
    refine Y_lcmp_h rfl hk rfl ?_
    refine Y_if_eq (a := 0) (by omega) hk rfl (fun g8 => ?_) (fun g8 => ?_)
    ·
      refine E_run hk 1 (j' := 1217) (lv' := [(6, yi z4), (5, yi z1), (4, yi i), (0, .ref 25), (1, .ref 28), (2, .ref 63), (3, .ref 76)]) (st' := []) (hp' := H5) rfl ?_
      exact Ev_le (xle_s rfl rfl (xle_s rfl rfl (xle_s rfl rfl (xle_s rfl rfl (xle_s rfl rfl (xle_z _ rfl)))))) (kk H5 R_H5 rm_H5)
    · exfalso; omega
set_option maxRecDepth 100000 in
theorem blk_11 {L : Nat} {F0 : Int → Int} {h : xH} (H : yRel L F0 h) (hF : ∀ q, -2147483648 ≤ F0 q ∧ F0 q ≤ 2147483647) (hL : L ≤ 2048) {i : Int} (hi : 0 ≤ i ∧ i ≤ (L : Int) - 4) {Q : xO → xH → Prop} (kk : ∀ h', yRel L F0 h' → yrm h h' → Ev 11 303 1217 [(4, yi i), (0, .ref 25), (1, .ref 28), (2, .ref 63), (3, .ref 76)] [] h' Q) : Ev 11 303 432 [(4, yi i), (0, .ref 25), (1, .ref 28), (2, .ref 63), (3, .ref 76)] [] h Q := by
  have hk : xtab 303 = (xc_303, 9, 2, []) := rfl
  obtain ⟨v0, S0, T0, N0, X0, B0, A0, Y0, -⟩ := id H
  obtain ⟨od0, a28, -⟩ := A0.1
  have m25 := B0.2.1
  have r1 := hF (i + 1)
  have r2 := hF (i + 2)
  have r3 := hF (i + 3)
  refine E_run hk 1 (j' := 433) (lv' := [(4, yi i), (0, .ref 25), (1, .ref 28), (2, .ref 63), (3, .ref 76)]) (st' := [.ref 28]) (hp' := h) rfl ?_
  refine Y_callE hk rfl (as := [.ref 28]) (rest := []) rfl rfl (Nat.le_of_ble_eq_true rfl) (rcv0 a28) (Nat.le_of_ble_eq_true rfl) (op_clearBuffer H ) (fun z1 H2 r3 => ?_)
  obtain ⟨m25_H2, ⟨v_H2, m63_H2⟩, cv_H2⟩ := r3
  refine E_run hk 1 (j' := 435) (lv' := [(4, yi i), (0, .ref 25), (1, .ref 28), (2, .ref 63), (3, .ref 76)]) (st' := [.ref 63, yi z1]) (hp' := H2) rfl ?_
  refine Y_callE hk rfl (as := [.ref 63]) (rest := [yi z1]) rfl rfl (Nat.le_of_ble_eq_true rfl) (rcv0 m63_H2) (Nat.le_of_ble_eq_true rfl) (cv_H2) (fun z4 H5 r6 => ?_)
  obtain ⟨R_H5, eq_H5, rm_H5⟩ := r6
  refine Y_ic_h eq_H5.symm hk rfl ?_
  exact Ev_le (xle_s rfl rfl (xle_s rfl rfl (xle_s rfl rfl (xle_s rfl rfl (xle_s rfl rfl (xle_z _ rfl)))))) (kk H5 R_H5 rm_H5)
set_option maxRecDepth 100000 in
theorem blk_12 {L : Nat} {F0 : Int → Int} {h : xH} (H : yRel L F0 h) (hF : ∀ q, -2147483648 ≤ F0 q ∧ F0 q ≤ 2147483647) (hL : L ≤ 2048) {i : Int} (hi : 0 ≤ i ∧ i ≤ (L : Int) - 4) {Q : xO → xH → Prop} (kk : ∀ h', yRel L F0 h' → yrm h h' → Ev 11 303 1217 [(4, yi i), (0, .ref 25), (1, .ref 28), (2, .ref 63), (3, .ref 76)] [] h' Q) : Ev 11 303 439 [(4, yi i), (0, .ref 25), (1, .ref 28), (2, .ref 63), (3, .ref 76)] [] h Q := by
  have hk : xtab 303 = (xc_303, 9, 2, []) := rfl
  obtain ⟨v0, S0, T0, N0, X0, B0, A0, Y0, -⟩ := id H
  obtain ⟨od0, a28, -⟩ := A0.1
  have m25 := B0.2.1
  have r1 := hF (i + 1)
  have r2 := hF (i + 2)
  have r3 := hF (i + 3)
  refine E_run hk 1 (j' := 440) (lv' := [(4, yi i), (0, .ref 25), (1, .ref 28), (2, .ref 63), (3, .ref 76)]) (st' := [.ref 28]) (hp' := h) rfl ?_
  refine Y_callE hk rfl (as := [.ref 28]) (rest := []) rfl rfl (Nat.le_of_ble_eq_true rfl) (rcv0 a28) (Nat.le_of_ble_eq_true rfl) (op_firstError H ) (fun z1 H2 r3 => ?_)
  obtain ⟨m25_H2, ⟨v_H2, m63_H2⟩, cv_H2⟩ := r3
  refine E_run hk 1 (j' := 442) (lv' := [(4, yi i), (0, .ref 25), (1, .ref 28), (2, .ref 63), (3, .ref 76)]) (st' := [.ref 63, yi z1]) (hp' := H2) rfl ?_
  refine Y_callE hk rfl (as := [.ref 63]) (rest := [yi z1]) rfl rfl (Nat.le_of_ble_eq_true rfl) (rcv0 m63_H2) (Nat.le_of_ble_eq_true rfl) (cv_H2) (fun z4 H5 r6 => ?_)
  obtain ⟨R_H5, eq_H5, rm_H5⟩ := r6
  refine Y_ic_h eq_H5.symm hk rfl ?_
  exact Ev_le (xle_s rfl rfl (xle_s rfl rfl (xle_s rfl rfl (xle_s rfl rfl (xle_s rfl rfl (xle_z _ rfl)))))) (kk H5 R_H5 rm_H5)
set_option maxRecDepth 100000 in
theorem blk_13 {L : Nat} {F0 : Int → Int} {h : xH} (H : yRel L F0 h) (hF : ∀ q, -2147483648 ≤ F0 q ∧ F0 q ≤ 2147483647) (hL : L ≤ 2048) {i : Int} (hi : 0 ≤ i ∧ i ≤ (L : Int) - 4) {Q : xO → xH → Prop} (kk : ∀ h', yRel L F0 h' → yrm h h' → Ev 11 303 1217 [(4, yi i), (0, .ref 25), (1, .ref 28), (2, .ref 63), (3, .ref 76)] [] h' Q) : Ev 11 303 446 [(4, yi i), (0, .ref 25), (1, .ref 28), (2, .ref 63), (3, .ref 76)] [] h Q := by
  have hk : xtab 303 = (xc_303, 9, 2, []) := rfl
  obtain ⟨v0, S0, T0, N0, X0, B0, A0, Y0, -⟩ := id H
  obtain ⟨od0, a28, -⟩ := A0.1
  have m25 := B0.2.1
  have r1 := hF (i + 1)
  have r2 := hF (i + 2)
  have r3 := hF (i + 3)
  refine E_run hk 2 (j' := 448) (lv' := [(4, yi i), (0, .ref 25), (1, .ref 28), (2, .ref 63), (3, .ref 76)]) (st' := [.ref 76, .ref 28]) (hp' := h) rfl ?_
  refine Y_callE hk rfl (as := [.ref 28, .ref 76]) (rest := []) rfl rfl (Nat.le_of_ble_eq_true rfl) rfl (Nat.le_of_ble_eq_true rfl) (op_work H ) (fun z1 H2 r3 => ?_)
  obtain ⟨m25_H2, ⟨v_H2, m63_H2⟩, cv_H2⟩ := r3
  refine E_run hk 2 (j' := 451) (lv' := [(5, yi z1), (4, yi i), (0, .ref 25), (1, .ref 28), (2, .ref 63), (3, .ref 76)]) (st' := [.ref 63]) (hp' := H2) rfl ?_
  refine Y_callE hk rfl (as := [.ref 63]) (rest := []) rfl rfl (Nat.le_of_ble_eq_true rfl) (rcv0 m63_H2) (Nat.le_of_ble_eq_true rfl) (cv_H2) (fun z4 H5 r6 => ?_)
  obtain ⟨R_H5, ⟨v_H5, m63_H5, t_H5⟩, kr_H5, ou_H5, rm_H5⟩ := r6
  refine E_run hk 2 (j' := 454) (lv' := [(6, yi z4), (5, yi z1), (4, yi i), (0, .ref 25), (1, .ref 28), (2, .ref 63), (3, .ref 76)]) (st' := [.ref 63]) (hp' := H5) rfl ?_
  refine Y_callP hk rfl (as := [.ref 63]) (rest := []) (v := some (yi z1)) rfl rfl (Nat.le_of_ble_eq_true rfl) (rcv0 m63_H5) (Nat.le_of_ble_eq_true rfl) ((by have e9 := c_X9_thrown (d := 10) m63_H5; rw [t_H5] at e9; exact e9)) ?_
  refine E_run hk 1 (j' := 456) (lv' := [(6, yi z4), (5, yi z1), (4, yi i), (0, .ref 25), (1, .ref 28), (2, .ref 63), (3, .ref 76)]) (st' := [yi z1, yi z1]) (hp' := H5) rfl ?_
  refine Y_ic_h rfl hk rfl ?_
  refine E_run hk 1 (j' := 460) (lv' := [(6, yi z4), (5, yi z1), (4, yi i), (0, .ref 25), (1, .ref 28), (2, .ref 63), (3, .ref 76)]) (st' := [yi z1]) (hp' := H5) rfl ?_
  refine Y_if_ne (a := z1) (by omega) hk rfl (fun g7 => ?_) (fun g7 => ?_)
  ·
    refine E_run hk 1 (j' := 1217) (lv' := [(6, yi z4), (5, yi z1), (4, yi i), (0, .ref 25), (1, .ref 28), (2, .ref 63), (3, .ref 76)]) (st' := []) (hp' := H5) rfl ?_
    exact Ev_le (xle_s rfl rfl (xle_s rfl rfl (xle_s rfl rfl (xle_s rfl rfl (xle_s rfl rfl (xle_z _ rfl)))))) (kk H5 R_H5 rm_H5)
  ·
    refine E_run hk 2 (j' := 463) (lv' := [(6, yi z4), (5, yi z1), (4, yi i), (0, .ref 25), (1, .ref 28), (2, .ref 63), (3, .ref 76)]) (st' := [yi 0, .ref 76]) (hp' := H5) rfl ?_
    obtain ⟨o9_2, o76_2, o0_2⟩ := ou_H5 (by omega)
    refine Y_lald (a := 0) (v := .long ((iN z4).toInt64)) (by omega) (by decide) o0_2 hk rfl o76_2 ?_
    refine E_run hk 2 (j' := 466) (lv' := [(6, yi z4), (5, yi z1), (4, yi i), (0, .ref 25), (1, .ref 28), (2, .ref 63), (3, .ref 76)]) (st' := [.long ((iN z4).toInt64), .long ((iN z4).toInt64)]) (hp' := H5) rfl ?_
    refine Y_lcmp_h rfl hk rfl ?_
    refine Y_if_eq (a := 0) (by omega) hk rfl (fun g8 => ?_) (fun g8 => ?_)
    ·
      refine E_run hk 1 (j' := 1217) (lv' := [(6, yi z4), (5, yi z1), (4, yi i), (0, .ref 25), (1, .ref 28), (2, .ref 63), (3, .ref 76)]) (st' := []) (hp' := H5) rfl ?_
      exact Ev_le (xle_s rfl rfl (xle_s rfl rfl (xle_s rfl rfl (xle_s rfl rfl (xle_s rfl rfl (xle_z _ rfl)))))) (kk H5 R_H5 rm_H5)
    · exfalso; omega
set_option maxRecDepth 100000 in
theorem blk_14 {L : Nat} {F0 : Int → Int} {h : xH} (H : yRel L F0 h) (hF : ∀ q, -2147483648 ≤ F0 q ∧ F0 q ≤ 2147483647) (hL : L ≤ 2048) {i : Int} (hi : 0 ≤ i ∧ i ≤ (L : Int) - 4) {Q : xO → xH → Prop} (kk : ∀ h', yRel L F0 h' → yrm h h' → Ev 11 303 1217 [(4, yi i), (0, .ref 25), (1, .ref 28), (2, .ref 63), (3, .ref 76)] [] h' Q) : Ev 11 303 471 [(4, yi i), (0, .ref 25), (1, .ref 28), (2, .ref 63), (3, .ref 76)] [] h Q := by
  have hk : xtab 303 = (xc_303, 9, 2, []) := rfl
  obtain ⟨v0, S0, T0, N0, X0, B0, A0, Y0, -⟩ := id H
  obtain ⟨od0, a28, -⟩ := A0.1
  have m25 := B0.2.1
  have r1 := hF (i + 1)
  have r2 := hF (i + 2)
  have r3 := hF (i + 3)
  refine E_run hk 1 (j' := 472) (lv' := [(4, yi i), (0, .ref 25), (1, .ref 28), (2, .ref 63), (3, .ref 76)]) (st' := [.ref 28]) (hp' := h) rfl ?_
  refine Y_callE hk rfl (as := [.ref 28]) (rest := []) rfl rfl (Nat.le_of_ble_eq_true rfl) (rcv0 a28) (Nat.le_of_ble_eq_true rfl) (op_hasStopped H ) (fun z1 H2 r3 => ?_)
  obtain ⟨m25_H2, ⟨v_H2, m63_H2⟩, cv_H2⟩ := r3
  refine E_run hk 1 (j' := 474) (lv' := [(4, yi i), (0, .ref 25), (1, .ref 28), (2, .ref 63), (3, .ref 76)]) (st' := [.ref 63, yi z1]) (hp' := H2) rfl ?_
  refine Y_callE hk rfl (as := [.ref 63]) (rest := [yi z1]) rfl rfl (Nat.le_of_ble_eq_true rfl) (rcv0 m63_H2) (Nat.le_of_ble_eq_true rfl) (cv_H2) (fun z4 H5 r6 => ?_)
  obtain ⟨R_H5, eq_H5, rm_H5⟩ := r6
  refine Y_ic_h eq_H5.symm hk rfl ?_
  exact Ev_le (xle_s rfl rfl (xle_s rfl rfl (xle_s rfl rfl (xle_s rfl rfl (xle_s rfl rfl (xle_z _ rfl)))))) (kk H5 R_H5 rm_H5)
set_option maxRecDepth 100000 in
theorem blk_15 {L : Nat} {F0 : Int → Int} {h : xH} (H : yRel L F0 h) (hF : ∀ q, -2147483648 ≤ F0 q ∧ F0 q ≤ 2147483647) (hL : L ≤ 2048) {i : Int} (hi : 0 ≤ i ∧ i ≤ (L : Int) - 4) {Q : xO → xH → Prop} (kk : ∀ h', yRel L F0 h' → yrm h h' → Ev 11 303 1217 [(4, yi i), (0, .ref 25), (1, .ref 28), (2, .ref 63), (3, .ref 76)] [] h' Q) : Ev 11 303 478 [(4, yi i), (0, .ref 25), (1, .ref 28), (2, .ref 63), (3, .ref 76)] [] h Q := by
  have hk : xtab 303 = (xc_303, 9, 2, []) := rfl
  obtain ⟨v0, S0, T0, N0, X0, B0, A0, Y0, -⟩ := id H
  obtain ⟨od0, a28, -⟩ := A0.1
  have m25 := B0.2.1
  have r1 := hF (i + 1)
  have r2 := hF (i + 2)
  have r3 := hF (i + 3)
  refine E_run hk 2 (j' := 480) (lv' := [(4, yi i), (0, .ref 25), (1, .ref 28), (2, .ref 63), (3, .ref 76)]) (st' := [.ref 76, .ref 28]) (hp' := h) rfl ?_
  refine Y_callE hk rfl (as := [.ref 28, .ref 76]) (rest := []) rfl rfl (Nat.le_of_ble_eq_true rfl) rfl (Nat.le_of_ble_eq_true rfl) (op_stoppedPart H ) (fun z1 H2 r3 => ?_)
  obtain ⟨m25_H2, ⟨v_H2, m63_H2⟩, cv_H2⟩ := r3
  refine E_run hk 2 (j' := 483) (lv' := [(5, yi z1), (4, yi i), (0, .ref 25), (1, .ref 28), (2, .ref 63), (3, .ref 76)]) (st' := [.ref 63]) (hp' := H2) rfl ?_
  refine Y_callE hk rfl (as := [.ref 63]) (rest := []) rfl rfl (Nat.le_of_ble_eq_true rfl) (rcv0 m63_H2) (Nat.le_of_ble_eq_true rfl) (cv_H2) (fun z4 H5 r6 => ?_)
  obtain ⟨R_H5, ⟨v_H5, m63_H5, t_H5⟩, kr_H5, ou_H5, rm_H5⟩ := r6
  refine E_run hk 2 (j' := 486) (lv' := [(6, yi z4), (5, yi z1), (4, yi i), (0, .ref 25), (1, .ref 28), (2, .ref 63), (3, .ref 76)]) (st' := [.ref 63]) (hp' := H5) rfl ?_
  refine Y_callP hk rfl (as := [.ref 63]) (rest := []) (v := some (yi z1)) rfl rfl (Nat.le_of_ble_eq_true rfl) (rcv0 m63_H5) (Nat.le_of_ble_eq_true rfl) ((by have e9 := c_X9_thrown (d := 10) m63_H5; rw [t_H5] at e9; exact e9)) ?_
  refine E_run hk 1 (j' := 488) (lv' := [(6, yi z4), (5, yi z1), (4, yi i), (0, .ref 25), (1, .ref 28), (2, .ref 63), (3, .ref 76)]) (st' := [yi z1, yi z1]) (hp' := H5) rfl ?_
  refine Y_ic_h rfl hk rfl ?_
  refine E_run hk 1 (j' := 492) (lv' := [(6, yi z4), (5, yi z1), (4, yi i), (0, .ref 25), (1, .ref 28), (2, .ref 63), (3, .ref 76)]) (st' := [yi z1]) (hp' := H5) rfl ?_
  refine Y_if_ne (a := z1) (by omega) hk rfl (fun g7 => ?_) (fun g7 => ?_)
  ·
    refine E_run hk 1 (j' := 1217) (lv' := [(6, yi z4), (5, yi z1), (4, yi i), (0, .ref 25), (1, .ref 28), (2, .ref 63), (3, .ref 76)]) (st' := []) (hp' := H5) rfl ?_
    exact Ev_le (xle_s rfl rfl (xle_s rfl rfl (xle_s rfl rfl (xle_s rfl rfl (xle_s rfl rfl (xle_z _ rfl)))))) (kk H5 R_H5 rm_H5)
  ·
    refine E_run hk 2 (j' := 495) (lv' := [(6, yi z4), (5, yi z1), (4, yi i), (0, .ref 25), (1, .ref 28), (2, .ref 63), (3, .ref 76)]) (st' := [yi 0, .ref 76]) (hp' := H5) rfl ?_
    obtain ⟨o9_2, o76_2, o0_2⟩ := ou_H5 (by omega)
    refine Y_lald (a := 0) (v := .long ((iN z4).toInt64)) (by omega) (by decide) o0_2 hk rfl o76_2 ?_
    refine E_run hk 2 (j' := 498) (lv' := [(6, yi z4), (5, yi z1), (4, yi i), (0, .ref 25), (1, .ref 28), (2, .ref 63), (3, .ref 76)]) (st' := [.long ((iN z4).toInt64), .long ((iN z4).toInt64)]) (hp' := H5) rfl ?_
    refine Y_lcmp_h rfl hk rfl ?_
    refine Y_if_eq (a := 0) (by omega) hk rfl (fun g8 => ?_) (fun g8 => ?_)
    ·
      refine E_run hk 1 (j' := 1217) (lv' := [(6, yi z4), (5, yi z1), (4, yi i), (0, .ref 25), (1, .ref 28), (2, .ref 63), (3, .ref 76)]) (st' := []) (hp' := H5) rfl ?_
      exact Ev_le (xle_s rfl rfl (xle_s rfl rfl (xle_s rfl rfl (xle_s rfl rfl (xle_s rfl rfl (xle_z _ rfl)))))) (kk H5 R_H5 rm_H5)
    · exfalso; omega
set_option maxRecDepth 100000 in
theorem blk_16 {L : Nat} {F0 : Int → Int} {h : xH} (H : yRel L F0 h) (hF : ∀ q, -2147483648 ≤ F0 q ∧ F0 q ≤ 2147483647) (hL : L ≤ 2048) {i : Int} (hi : 0 ≤ i ∧ i ≤ (L : Int) - 4) {Q : xO → xH → Prop} (kk : ∀ h', yRel L F0 h' → yrm h h' → Ev 11 303 1217 [(4, yi i), (0, .ref 25), (1, .ref 28), (2, .ref 63), (3, .ref 76)] [] h' Q) : Ev 11 303 503 [(4, yi i), (0, .ref 25), (1, .ref 28), (2, .ref 63), (3, .ref 76)] [] h Q := by
  have hk : xtab 303 = (xc_303, 9, 2, []) := rfl
  obtain ⟨v0, S0, T0, N0, X0, B0, A0, Y0, -⟩ := id H
  obtain ⟨od0, a28, -⟩ := A0.1
  have m25 := B0.2.1
  have r1 := hF (i + 1)
  have r2 := hF (i + 2)
  have r3 := hF (i + 3)
  refine E_run hk 2 (j' := 505) (lv' := [(4, yi i), (0, .ref 25), (1, .ref 28), (2, .ref 63), (3, .ref 76)]) (st' := [.ref 76, .ref 28]) (hp' := h) rfl ?_
  refine Y_callE hk rfl (as := [.ref 28, .ref 76]) (rest := []) rfl rfl (Nat.le_of_ble_eq_true rfl) rfl (Nat.le_of_ble_eq_true rfl) (op_whyStopped H ) (fun z1 H2 r3 => ?_)
  obtain ⟨m25_H2, ⟨v_H2, m63_H2⟩, cv_H2⟩ := r3
  refine E_run hk 2 (j' := 508) (lv' := [(5, yi z1), (4, yi i), (0, .ref 25), (1, .ref 28), (2, .ref 63), (3, .ref 76)]) (st' := [.ref 63]) (hp' := H2) rfl ?_
  refine Y_callE hk rfl (as := [.ref 63]) (rest := []) rfl rfl (Nat.le_of_ble_eq_true rfl) (rcv0 m63_H2) (Nat.le_of_ble_eq_true rfl) (cv_H2) (fun z4 H5 r6 => ?_)
  obtain ⟨R_H5, ⟨v_H5, m63_H5, t_H5⟩, kr_H5, ou_H5, rm_H5⟩ := r6
  refine E_run hk 2 (j' := 511) (lv' := [(6, yi z4), (5, yi z1), (4, yi i), (0, .ref 25), (1, .ref 28), (2, .ref 63), (3, .ref 76)]) (st' := [.ref 63]) (hp' := H5) rfl ?_
  refine Y_callP hk rfl (as := [.ref 63]) (rest := []) (v := some (yi z1)) rfl rfl (Nat.le_of_ble_eq_true rfl) (rcv0 m63_H5) (Nat.le_of_ble_eq_true rfl) ((by have e9 := c_X9_thrown (d := 10) m63_H5; rw [t_H5] at e9; exact e9)) ?_
  refine E_run hk 1 (j' := 513) (lv' := [(6, yi z4), (5, yi z1), (4, yi i), (0, .ref 25), (1, .ref 28), (2, .ref 63), (3, .ref 76)]) (st' := [yi z1, yi z1]) (hp' := H5) rfl ?_
  refine Y_ic_h rfl hk rfl ?_
  refine E_run hk 1 (j' := 517) (lv' := [(6, yi z4), (5, yi z1), (4, yi i), (0, .ref 25), (1, .ref 28), (2, .ref 63), (3, .ref 76)]) (st' := [yi z1]) (hp' := H5) rfl ?_
  refine Y_if_ne (a := z1) (by omega) hk rfl (fun g7 => ?_) (fun g7 => ?_)
  ·
    refine E_run hk 1 (j' := 1217) (lv' := [(6, yi z4), (5, yi z1), (4, yi i), (0, .ref 25), (1, .ref 28), (2, .ref 63), (3, .ref 76)]) (st' := []) (hp' := H5) rfl ?_
    exact Ev_le (xle_s rfl rfl (xle_s rfl rfl (xle_s rfl rfl (xle_s rfl rfl (xle_s rfl rfl (xle_z _ rfl)))))) (kk H5 R_H5 rm_H5)
  ·
    refine E_run hk 2 (j' := 520) (lv' := [(6, yi z4), (5, yi z1), (4, yi i), (0, .ref 25), (1, .ref 28), (2, .ref 63), (3, .ref 76)]) (st' := [yi 0, .ref 76]) (hp' := H5) rfl ?_
    obtain ⟨o9_2, o76_2, o0_2⟩ := ou_H5 (by omega)
    refine Y_lald (a := 0) (v := .long ((iN z4).toInt64)) (by omega) (by decide) o0_2 hk rfl o76_2 ?_
    refine E_run hk 2 (j' := 523) (lv' := [(6, yi z4), (5, yi z1), (4, yi i), (0, .ref 25), (1, .ref 28), (2, .ref 63), (3, .ref 76)]) (st' := [.long ((iN z4).toInt64), .long ((iN z4).toInt64)]) (hp' := H5) rfl ?_
    refine Y_lcmp_h rfl hk rfl ?_
    refine Y_if_eq (a := 0) (by omega) hk rfl (fun g8 => ?_) (fun g8 => ?_)
    ·
      refine E_run hk 1 (j' := 1217) (lv' := [(6, yi z4), (5, yi z1), (4, yi i), (0, .ref 25), (1, .ref 28), (2, .ref 63), (3, .ref 76)]) (st' := []) (hp' := H5) rfl ?_
      exact Ev_le (xle_s rfl rfl (xle_s rfl rfl (xle_s rfl rfl (xle_s rfl rfl (xle_s rfl rfl (xle_z _ rfl)))))) (kk H5 R_H5 rm_H5)
    · exfalso; omega
set_option maxRecDepth 100000 in
theorem blk_17 {L : Nat} {F0 : Int → Int} {h : xH} (H : yRel L F0 h) (hF : ∀ q, -2147483648 ≤ F0 q ∧ F0 q ≤ 2147483647) (hL : L ≤ 2048) {i : Int} (hi : 0 ≤ i ∧ i ≤ (L : Int) - 4) {Q : xO → xH → Prop} (kk : ∀ h', yRel L F0 h' → yrm h h' → Ev 11 303 1217 [(4, yi i), (0, .ref 25), (1, .ref 28), (2, .ref 63), (3, .ref 76)] [] h' Q) : Ev 11 303 528 [(4, yi i), (0, .ref 25), (1, .ref 28), (2, .ref 63), (3, .ref 76)] [] h Q := by
  have hk : xtab 303 = (xc_303, 9, 2, []) := rfl
  obtain ⟨v0, S0, T0, N0, X0, B0, A0, Y0, -⟩ := id H
  obtain ⟨od0, a28, -⟩ := A0.1
  have m25 := B0.2.1
  have r1 := hF (i + 1)
  have r2 := hF (i + 2)
  have r3 := hF (i + 3)
  refine E_run hk 2 (j' := 530) (lv' := [(4, yi i), (0, .ref 25), (1, .ref 28), (2, .ref 63), (3, .ref 76)]) (st' := [.ref 76, .ref 28]) (hp' := h) rfl ?_
  refine Y_callE hk rfl (as := [.ref 28, .ref 76]) (rest := []) rfl rfl (Nat.le_of_ble_eq_true rfl) rfl (Nat.le_of_ble_eq_true rfl) (op_undo H ) (fun z1 H2 r3 => ?_)
  obtain ⟨m25_H2, ⟨v_H2, m63_H2⟩, cv_H2⟩ := r3
  refine E_run hk 2 (j' := 533) (lv' := [(5, yi z1), (4, yi i), (0, .ref 25), (1, .ref 28), (2, .ref 63), (3, .ref 76)]) (st' := [.ref 63]) (hp' := H2) rfl ?_
  refine Y_callE hk rfl (as := [.ref 63]) (rest := []) rfl rfl (Nat.le_of_ble_eq_true rfl) (rcv0 m63_H2) (Nat.le_of_ble_eq_true rfl) (cv_H2) (fun z4 H5 r6 => ?_)
  obtain ⟨R_H5, ⟨v_H5, m63_H5, t_H5⟩, kr_H5, ou_H5, rm_H5⟩ := r6
  refine E_run hk 2 (j' := 536) (lv' := [(6, yi z4), (5, yi z1), (4, yi i), (0, .ref 25), (1, .ref 28), (2, .ref 63), (3, .ref 76)]) (st' := [.ref 63]) (hp' := H5) rfl ?_
  refine Y_callP hk rfl (as := [.ref 63]) (rest := []) (v := some (yi z1)) rfl rfl (Nat.le_of_ble_eq_true rfl) (rcv0 m63_H5) (Nat.le_of_ble_eq_true rfl) ((by have e9 := c_X9_thrown (d := 10) m63_H5; rw [t_H5] at e9; exact e9)) ?_
  refine E_run hk 1 (j' := 538) (lv' := [(6, yi z4), (5, yi z1), (4, yi i), (0, .ref 25), (1, .ref 28), (2, .ref 63), (3, .ref 76)]) (st' := [yi z1, yi z1]) (hp' := H5) rfl ?_
  refine Y_ic_h rfl hk rfl ?_
  refine E_run hk 1 (j' := 542) (lv' := [(6, yi z4), (5, yi z1), (4, yi i), (0, .ref 25), (1, .ref 28), (2, .ref 63), (3, .ref 76)]) (st' := [yi z1]) (hp' := H5) rfl ?_
  refine Y_if_ne (a := z1) (by omega) hk rfl (fun g7 => ?_) (fun g7 => ?_)
  ·
    refine E_run hk 1 (j' := 1217) (lv' := [(6, yi z4), (5, yi z1), (4, yi i), (0, .ref 25), (1, .ref 28), (2, .ref 63), (3, .ref 76)]) (st' := []) (hp' := H5) rfl ?_
    exact Ev_le (xle_s rfl rfl (xle_s rfl rfl (xle_s rfl rfl (xle_s rfl rfl (xle_s rfl rfl (xle_z _ rfl)))))) (kk H5 R_H5 rm_H5)
  ·
    refine E_run hk 2 (j' := 545) (lv' := [(6, yi z4), (5, yi z1), (4, yi i), (0, .ref 25), (1, .ref 28), (2, .ref 63), (3, .ref 76)]) (st' := [yi 0, .ref 76]) (hp' := H5) rfl ?_
    obtain ⟨o9_2, o76_2, o0_2⟩ := ou_H5 (by omega)
    refine Y_lald (a := 0) (v := .long ((iN z4).toInt64)) (by omega) (by decide) o0_2 hk rfl o76_2 ?_
    refine E_run hk 2 (j' := 548) (lv' := [(6, yi z4), (5, yi z1), (4, yi i), (0, .ref 25), (1, .ref 28), (2, .ref 63), (3, .ref 76)]) (st' := [.long ((iN z4).toInt64), .long ((iN z4).toInt64)]) (hp' := H5) rfl ?_
    refine Y_lcmp_h rfl hk rfl ?_
    refine Y_if_eq (a := 0) (by omega) hk rfl (fun g8 => ?_) (fun g8 => ?_)
    ·
      refine E_run hk 1 (j' := 1217) (lv' := [(6, yi z4), (5, yi z1), (4, yi i), (0, .ref 25), (1, .ref 28), (2, .ref 63), (3, .ref 76)]) (st' := []) (hp' := H5) rfl ?_
      exact Ev_le (xle_s rfl rfl (xle_s rfl rfl (xle_s rfl rfl (xle_s rfl rfl (xle_s rfl rfl (xle_z _ rfl)))))) (kk H5 R_H5 rm_H5)
    · exfalso; omega
set_option maxRecDepth 100000 in
theorem blk_18 {L : Nat} {F0 : Int → Int} {h : xH} (H : yRel L F0 h) (hF : ∀ q, -2147483648 ≤ F0 q ∧ F0 q ≤ 2147483647) (hL : L ≤ 2048) {i : Int} (hi : 0 ≤ i ∧ i ≤ (L : Int) - 4) {Q : xO → xH → Prop} (kk : ∀ h', yRel L F0 h' → yrm h h' → Ev 11 303 1217 [(4, yi i), (0, .ref 25), (1, .ref 28), (2, .ref 63), (3, .ref 76)] [] h' Q) : Ev 11 303 553 [(4, yi i), (0, .ref 25), (1, .ref 28), (2, .ref 63), (3, .ref 76)] [] h Q := by
  have hk : xtab 303 = (xc_303, 9, 2, []) := rfl
  obtain ⟨v0, S0, T0, N0, X0, B0, A0, Y0, -⟩ := id H
  obtain ⟨od0, a28, -⟩ := A0.1
  have m25 := B0.2.1
  have r1 := hF (i + 1)
  have r2 := hF (i + 2)
  have r3 := hF (i + 3)
  refine E_run hk 1 (j' := 554) (lv' := [(4, yi i), (0, .ref 25), (1, .ref 28), (2, .ref 63), (3, .ref 76)]) (st' := [.ref 28]) (hp' := h) rfl ?_
  refine Y_callE hk rfl (as := [.ref 28]) (rest := []) rfl rfl (Nat.le_of_ble_eq_true rfl) (rcv0 a28) (Nat.le_of_ble_eq_true rfl) (op_keep H ) (fun z1 H2 r3 => ?_)
  obtain ⟨m25_H2, ⟨v_H2, m63_H2⟩, cv_H2⟩ := r3
  refine E_run hk 1 (j' := 556) (lv' := [(4, yi i), (0, .ref 25), (1, .ref 28), (2, .ref 63), (3, .ref 76)]) (st' := [.ref 63, yi z1]) (hp' := H2) rfl ?_
  refine Y_callE hk rfl (as := [.ref 63]) (rest := [yi z1]) rfl rfl (Nat.le_of_ble_eq_true rfl) (rcv0 m63_H2) (Nat.le_of_ble_eq_true rfl) (cv_H2) (fun z4 H5 r6 => ?_)
  obtain ⟨R_H5, eq_H5, rm_H5⟩ := r6
  refine Y_ic_h eq_H5.symm hk rfl ?_
  exact Ev_le (xle_s rfl rfl (xle_s rfl rfl (xle_s rfl rfl (xle_s rfl rfl (xle_s rfl rfl (xle_z _ rfl)))))) (kk H5 R_H5 rm_H5)
set_option maxRecDepth 100000 in
theorem blk_19 {L : Nat} {F0 : Int → Int} {h : xH} (H : yRel L F0 h) (hF : ∀ q, -2147483648 ≤ F0 q ∧ F0 q ≤ 2147483647) (hL : L ≤ 2048) {i : Int} (hi : 0 ≤ i ∧ i ≤ (L : Int) - 4) {Q : xO → xH → Prop} (kk : ∀ h', yRel L F0 h' → yrm h h' → Ev 11 303 1217 [(4, yi i), (0, .ref 25), (1, .ref 28), (2, .ref 63), (3, .ref 76)] [] h' Q) : Ev 11 303 560 [(4, yi i), (0, .ref 25), (1, .ref 28), (2, .ref 63), (3, .ref 76)] [] h Q := by
  have hk : xtab 303 = (xc_303, 9, 2, []) := rfl
  obtain ⟨v0, S0, T0, N0, X0, B0, A0, Y0, -⟩ := id H
  obtain ⟨od0, a28, -⟩ := A0.1
  have m25 := B0.2.1
  have r1 := hF (i + 1)
  have r2 := hF (i + 2)
  have r3 := hF (i + 3)
  refine E_run hk 2 (j' := 562) (lv' := [(4, yi i), (0, .ref 25), (1, .ref 28), (2, .ref 63), (3, .ref 76)]) (st' := [.ref 76, .ref 28]) (hp' := h) rfl ?_
  refine Y_callE hk rfl (as := [.ref 28, .ref 76]) (rest := []) rfl rfl (Nat.le_of_ble_eq_true rfl) rfl (Nat.le_of_ble_eq_true rfl) (op_restore H ) (fun z1 H2 r3 => ?_)
  obtain ⟨m25_H2, ⟨v_H2, m63_H2⟩, cv_H2⟩ := r3
  refine E_run hk 2 (j' := 565) (lv' := [(5, yi z1), (4, yi i), (0, .ref 25), (1, .ref 28), (2, .ref 63), (3, .ref 76)]) (st' := [.ref 63]) (hp' := H2) rfl ?_
  refine Y_callE hk rfl (as := [.ref 63]) (rest := []) rfl rfl (Nat.le_of_ble_eq_true rfl) (rcv0 m63_H2) (Nat.le_of_ble_eq_true rfl) (cv_H2) (fun z4 H5 r6 => ?_)
  obtain ⟨R_H5, ⟨v_H5, m63_H5, t_H5⟩, kr_H5, ou_H5, rm_H5⟩ := r6
  refine E_run hk 2 (j' := 568) (lv' := [(6, yi z4), (5, yi z1), (4, yi i), (0, .ref 25), (1, .ref 28), (2, .ref 63), (3, .ref 76)]) (st' := [.ref 63]) (hp' := H5) rfl ?_
  refine Y_callP hk rfl (as := [.ref 63]) (rest := []) (v := some (yi z1)) rfl rfl (Nat.le_of_ble_eq_true rfl) (rcv0 m63_H5) (Nat.le_of_ble_eq_true rfl) ((by have e9 := c_X9_thrown (d := 10) m63_H5; rw [t_H5] at e9; exact e9)) ?_
  refine E_run hk 1 (j' := 570) (lv' := [(6, yi z4), (5, yi z1), (4, yi i), (0, .ref 25), (1, .ref 28), (2, .ref 63), (3, .ref 76)]) (st' := [yi z1, yi z1]) (hp' := H5) rfl ?_
  refine Y_ic_h rfl hk rfl ?_
  refine E_run hk 1 (j' := 574) (lv' := [(6, yi z4), (5, yi z1), (4, yi i), (0, .ref 25), (1, .ref 28), (2, .ref 63), (3, .ref 76)]) (st' := [yi z1]) (hp' := H5) rfl ?_
  refine Y_if_ne (a := z1) (by omega) hk rfl (fun g7 => ?_) (fun g7 => ?_)
  ·
    refine E_run hk 1 (j' := 1217) (lv' := [(6, yi z4), (5, yi z1), (4, yi i), (0, .ref 25), (1, .ref 28), (2, .ref 63), (3, .ref 76)]) (st' := []) (hp' := H5) rfl ?_
    exact Ev_le (xle_s rfl rfl (xle_s rfl rfl (xle_s rfl rfl (xle_s rfl rfl (xle_s rfl rfl (xle_z _ rfl)))))) (kk H5 R_H5 rm_H5)
  ·
    refine E_run hk 2 (j' := 577) (lv' := [(6, yi z4), (5, yi z1), (4, yi i), (0, .ref 25), (1, .ref 28), (2, .ref 63), (3, .ref 76)]) (st' := [yi 0, .ref 76]) (hp' := H5) rfl ?_
    obtain ⟨o9_2, o76_2, o0_2⟩ := ou_H5 (by omega)
    refine Y_lald (a := 0) (v := .long ((iN z4).toInt64)) (by omega) (by decide) o0_2 hk rfl o76_2 ?_
    refine E_run hk 2 (j' := 580) (lv' := [(6, yi z4), (5, yi z1), (4, yi i), (0, .ref 25), (1, .ref 28), (2, .ref 63), (3, .ref 76)]) (st' := [.long ((iN z4).toInt64), .long ((iN z4).toInt64)]) (hp' := H5) rfl ?_
    refine Y_lcmp_h rfl hk rfl ?_
    refine Y_if_eq (a := 0) (by omega) hk rfl (fun g8 => ?_) (fun g8 => ?_)
    ·
      refine E_run hk 1 (j' := 1217) (lv' := [(6, yi z4), (5, yi z1), (4, yi i), (0, .ref 25), (1, .ref 28), (2, .ref 63), (3, .ref 76)]) (st' := []) (hp' := H5) rfl ?_
      exact Ev_le (xle_s rfl rfl (xle_s rfl rfl (xle_s rfl rfl (xle_s rfl rfl (xle_s rfl rfl (xle_z _ rfl)))))) (kk H5 R_H5 rm_H5)
    · exfalso; omega
set_option maxRecDepth 100000 in
theorem blk_20 {L : Nat} {F0 : Int → Int} {h : xH} (H : yRel L F0 h) (hF : ∀ q, -2147483648 ≤ F0 q ∧ F0 q ≤ 2147483647) (hL : L ≤ 2048) {i : Int} (hi : 0 ≤ i ∧ i ≤ (L : Int) - 4) {Q : xO → xH → Prop} (kk : ∀ h', yRel L F0 h' → yrm h h' → Ev 11 303 1217 [(4, yi i), (0, .ref 25), (1, .ref 28), (2, .ref 63), (3, .ref 76)] [] h' Q) : Ev 11 303 585 [(4, yi i), (0, .ref 25), (1, .ref 28), (2, .ref 63), (3, .ref 76)] [] h Q := by
  have hk : xtab 303 = (xc_303, 9, 2, []) := rfl
  obtain ⟨v0, S0, T0, N0, X0, B0, A0, Y0, -⟩ := id H
  obtain ⟨od0, a28, -⟩ := A0.1
  have m25 := B0.2.1
  have r1 := hF (i + 1)
  have r2 := hF (i + 2)
  have r3 := hF (i + 3)
  refine E_run hk 1 (j' := 586) (lv' := [(4, yi i), (0, .ref 25), (1, .ref 28), (2, .ref 63), (3, .ref 76)]) (st' := [.ref 28]) (hp' := h) rfl ?_
  refine Y_callE hk rfl (as := [.ref 28]) (rest := []) rfl rfl (Nat.le_of_ble_eq_true rfl) (rcv0 a28) (Nat.le_of_ble_eq_true rfl) (op_savedStates H ) (fun z1 H2 r3 => ?_)
  obtain ⟨m25_H2, ⟨v_H2, m63_H2⟩, cv_H2⟩ := r3
  refine E_run hk 1 (j' := 588) (lv' := [(4, yi i), (0, .ref 25), (1, .ref 28), (2, .ref 63), (3, .ref 76)]) (st' := [.ref 63, yi z1]) (hp' := H2) rfl ?_
  refine Y_callE hk rfl (as := [.ref 63]) (rest := [yi z1]) rfl rfl (Nat.le_of_ble_eq_true rfl) (rcv0 m63_H2) (Nat.le_of_ble_eq_true rfl) (cv_H2) (fun z4 H5 r6 => ?_)
  obtain ⟨R_H5, eq_H5, rm_H5⟩ := r6
  refine Y_ic_h eq_H5.symm hk rfl ?_
  exact Ev_le (xle_s rfl rfl (xle_s rfl rfl (xle_s rfl rfl (xle_s rfl rfl (xle_s rfl rfl (xle_z _ rfl)))))) (kk H5 R_H5 rm_H5)
set_option maxRecDepth 100000 in
theorem blk_21 {L : Nat} {F0 : Int → Int} {h : xH} (H : yRel L F0 h) (hF : ∀ q, -2147483648 ≤ F0 q ∧ F0 q ≤ 2147483647) (hL : L ≤ 2048) {i : Int} (hi : 0 ≤ i ∧ i ≤ (L : Int) - 4) {Q : xO → xH → Prop} (kk : ∀ h', yRel L F0 h' → yrm h h' → Ev 11 303 1217 [(4, yi i), (0, .ref 25), (1, .ref 28), (2, .ref 63), (3, .ref 76)] [] h' Q) : Ev 11 303 592 [(4, yi i), (0, .ref 25), (1, .ref 28), (2, .ref 63), (3, .ref 76)] [] h Q := by
  have hk : xtab 303 = (xc_303, 9, 2, []) := rfl
  obtain ⟨v0, S0, T0, N0, X0, B0, A0, Y0, -⟩ := id H
  obtain ⟨od0, a28, -⟩ := A0.1
  have m25 := B0.2.1
  have r1 := hF (i + 1)
  have r2 := hF (i + 2)
  have r3 := hF (i + 3)
  refine E_run hk 4 (j' := 596) (lv' := [(4, yi i), (0, .ref 25), (1, .ref 28), (2, .ref 63), (3, .ref 76)]) (st' := [yi 1, yi i, .ref 25, .ref 28]) (hp' := h) rfl ?_
  refine Y_iadd (a := i) (b := 1) hk rfl ?_
  refine Y_iald (a := (i + 1)) (by omega) (by omega) hk rfl m25 ?_
  refine E_run hk 1 (j' := 599) (lv' := [(4, yi i), (0, .ref 25), (1, .ref 28), (2, .ref 63), (3, .ref 76)]) (st' := [.ref 76, yi (F0 (i + 1)), .ref 28]) (hp' := h) rfl ?_
  refine Y_callE hk rfl (as := [.ref 28, yi (F0 (i + 1)), .ref 76]) (rest := []) rfl rfl (Nat.le_of_ble_eq_true rfl) rfl (Nat.le_of_ble_eq_true rfl) (op_notes H (x0 := (F0 (i + 1))) (by omega)) (fun z1 H2 r3 => ?_)
  obtain ⟨m25_H2, ⟨v_H2, m63_H2⟩, cv_H2⟩ := r3
  refine E_run hk 5 (j' := 605) (lv' := [(5, yi z1), (4, yi i), (0, .ref 25), (1, .ref 28), (2, .ref 63), (3, .ref 76)]) (st' := [yi 1, yi i, .ref 25, .ref 63]) (hp' := H2) rfl ?_
  refine Y_iadd (a := i) (b := 1) hk rfl ?_
  refine Y_iald (a := (i + 1)) (by omega) (by omega) hk rfl m25_H2 ?_
  refine Y_callE hk rfl (as := [.ref 63, yi (F0 (i + 1))]) (rest := []) rfl rfl (Nat.le_of_ble_eq_true rfl) (rcv0 m63_H2) (Nat.le_of_ble_eq_true rfl) (cv_H2) (fun z4 H5 r6 => ?_)
  obtain ⟨R_H5, ⟨v_H5, m63_H5, t_H5⟩, kr_H5, ou_H5, rm_H5⟩ := r6
  refine E_run hk 2 (j' := 610) (lv' := [(6, yi z4), (5, yi z1), (4, yi i), (0, .ref 25), (1, .ref 28), (2, .ref 63), (3, .ref 76)]) (st' := [.ref 63]) (hp' := H5) rfl ?_
  refine Y_callP hk rfl (as := [.ref 63]) (rest := []) (v := some (yi z1)) rfl rfl (Nat.le_of_ble_eq_true rfl) (rcv0 m63_H5) (Nat.le_of_ble_eq_true rfl) ((by have e9 := c_X9_thrown (d := 10) m63_H5; rw [t_H5] at e9; exact e9)) ?_
  refine E_run hk 1 (j' := 612) (lv' := [(6, yi z4), (5, yi z1), (4, yi i), (0, .ref 25), (1, .ref 28), (2, .ref 63), (3, .ref 76)]) (st' := [yi z1, yi z1]) (hp' := H5) rfl ?_
  refine Y_ic_h rfl hk rfl ?_
  refine E_run hk 1 (j' := 616) (lv' := [(6, yi z4), (5, yi z1), (4, yi i), (0, .ref 25), (1, .ref 28), (2, .ref 63), (3, .ref 76)]) (st' := [yi z1]) (hp' := H5) rfl ?_
  refine Y_if_ne (a := z1) (by omega) hk rfl (fun g7 => ?_) (fun g7 => ?_)
  ·
    refine E_run hk 1 (j' := 1217) (lv' := [(6, yi z4), (5, yi z1), (4, yi i), (0, .ref 25), (1, .ref 28), (2, .ref 63), (3, .ref 76)]) (st' := []) (hp' := H5) rfl ?_
    exact Ev_le (xle_s rfl rfl (xle_s rfl rfl (xle_s rfl rfl (xle_s rfl rfl (xle_s rfl rfl (xle_z _ rfl)))))) (kk H5 R_H5 rm_H5)
  ·
    refine E_run hk 2 (j' := 619) (lv' := [(6, yi z4), (5, yi z1), (4, yi i), (0, .ref 25), (1, .ref 28), (2, .ref 63), (3, .ref 76)]) (st' := [yi 0, .ref 76]) (hp' := H5) rfl ?_
    obtain ⟨o9_2, o76_2, o0_2⟩ := ou_H5 (by omega)
    refine Y_lald (a := 0) (v := .long ((iN z4).toInt64)) (by omega) (by decide) o0_2 hk rfl o76_2 ?_
    refine E_run hk 2 (j' := 622) (lv' := [(6, yi z4), (5, yi z1), (4, yi i), (0, .ref 25), (1, .ref 28), (2, .ref 63), (3, .ref 76)]) (st' := [.long ((iN z4).toInt64), .long ((iN z4).toInt64)]) (hp' := H5) rfl ?_
    refine Y_lcmp_h rfl hk rfl ?_
    refine Y_if_eq (a := 0) (by omega) hk rfl (fun g8 => ?_) (fun g8 => ?_)
    ·
      refine E_run hk 1 (j' := 1217) (lv' := [(6, yi z4), (5, yi z1), (4, yi i), (0, .ref 25), (1, .ref 28), (2, .ref 63), (3, .ref 76)]) (st' := []) (hp' := H5) rfl ?_
      exact Ev_le (xle_s rfl rfl (xle_s rfl rfl (xle_s rfl rfl (xle_s rfl rfl (xle_s rfl rfl (xle_z _ rfl)))))) (kk H5 R_H5 rm_H5)
    · exfalso; omega
set_option maxRecDepth 100000 in
theorem blk_22 {L : Nat} {F0 : Int → Int} {h : xH} (H : yRel L F0 h) (hF : ∀ q, -2147483648 ≤ F0 q ∧ F0 q ≤ 2147483647) (hL : L ≤ 2048) {i : Int} (hi : 0 ≤ i ∧ i ≤ (L : Int) - 4) {Q : xO → xH → Prop} (kk : ∀ h', yRel L F0 h' → yrm h h' → Ev 11 303 1217 [(4, yi i), (0, .ref 25), (1, .ref 28), (2, .ref 63), (3, .ref 76)] [] h' Q) : Ev 11 303 627 [(4, yi i), (0, .ref 25), (1, .ref 28), (2, .ref 63), (3, .ref 76)] [] h Q := by
  have hk : xtab 303 = (xc_303, 9, 2, []) := rfl
  obtain ⟨v0, S0, T0, N0, X0, B0, A0, Y0, -⟩ := id H
  obtain ⟨od0, a28, -⟩ := A0.1
  have m25 := B0.2.1
  have r1 := hF (i + 1)
  have r2 := hF (i + 2)
  have r3 := hF (i + 3)
  refine E_run hk 4 (j' := 631) (lv' := [(4, yi i), (0, .ref 25), (1, .ref 28), (2, .ref 63), (3, .ref 76)]) (st' := [yi 1, yi i, .ref 25, .ref 28]) (hp' := h) rfl ?_
  refine Y_iadd (a := i) (b := 1) hk rfl ?_
  refine Y_iald (a := (i + 1)) (by omega) (by omega) hk rfl m25 ?_
  refine E_run hk 3 (j' := 636) (lv' := [(4, yi i), (0, .ref 25), (1, .ref 28), (2, .ref 63), (3, .ref 76)]) (st' := [yi 2, yi i, .ref 25, yi (F0 (i + 1)), .ref 28]) (hp' := h) rfl ?_
  refine Y_iadd (a := i) (b := 2) hk rfl ?_
  refine Y_iald (a := (i + 2)) (by omega) (by omega) hk rfl m25 ?_
  refine E_run hk 1 (j' := 639) (lv' := [(4, yi i), (0, .ref 25), (1, .ref 28), (2, .ref 63), (3, .ref 76)]) (st' := [.ref 76, yi (F0 (i + 2)), yi (F0 (i + 1)), .ref 28]) (hp' := h) rfl ?_
  refine Y_callE hk rfl (as := [.ref 28, yi (F0 (i + 1)), yi (F0 (i + 2)), .ref 76]) (rest := []) rfl rfl (Nat.le_of_ble_eq_true rfl) rfl (Nat.le_of_ble_eq_true rfl) (op_pitch H (x0 := (F0 (i + 1))) (x1 := (F0 (i + 2))) (by omega)) (fun z1 H2 r3 => ?_)
  obtain ⟨m25_H2, ⟨v_H2, m63_H2⟩, cv_H2⟩ := r3
  refine E_run hk 5 (j' := 645) (lv' := [(5, yi z1), (4, yi i), (0, .ref 25), (1, .ref 28), (2, .ref 63), (3, .ref 76)]) (st' := [yi 1, yi i, .ref 25, .ref 63]) (hp' := H2) rfl ?_
  refine Y_iadd (a := i) (b := 1) hk rfl ?_
  refine Y_iald (a := (i + 1)) (by omega) (by omega) hk rfl m25_H2 ?_
  refine E_run hk 3 (j' := 650) (lv' := [(5, yi z1), (4, yi i), (0, .ref 25), (1, .ref 28), (2, .ref 63), (3, .ref 76)]) (st' := [yi 2, yi i, .ref 25, yi (F0 (i + 1)), .ref 63]) (hp' := H2) rfl ?_
  refine Y_iadd (a := i) (b := 2) hk rfl ?_
  refine Y_iald (a := (i + 2)) (by omega) (by omega) hk rfl m25_H2 ?_
  refine Y_callE hk rfl (as := [.ref 63, yi (F0 (i + 1)), yi (F0 (i + 2))]) (rest := []) rfl rfl (Nat.le_of_ble_eq_true rfl) (rcv0 m63_H2) (Nat.le_of_ble_eq_true rfl) (cv_H2) (fun z4 H5 r6 => ?_)
  obtain ⟨R_H5, ⟨v_H5, m63_H5, t_H5⟩, kr_H5, ou_H5, rm_H5⟩ := r6
  refine E_run hk 2 (j' := 655) (lv' := [(6, yi z4), (5, yi z1), (4, yi i), (0, .ref 25), (1, .ref 28), (2, .ref 63), (3, .ref 76)]) (st' := [.ref 63]) (hp' := H5) rfl ?_
  refine Y_callP hk rfl (as := [.ref 63]) (rest := []) (v := some (yi z1)) rfl rfl (Nat.le_of_ble_eq_true rfl) (rcv0 m63_H5) (Nat.le_of_ble_eq_true rfl) ((by have e9 := c_X9_thrown (d := 10) m63_H5; rw [t_H5] at e9; exact e9)) ?_
  refine E_run hk 1 (j' := 657) (lv' := [(6, yi z4), (5, yi z1), (4, yi i), (0, .ref 25), (1, .ref 28), (2, .ref 63), (3, .ref 76)]) (st' := [yi z1, yi z1]) (hp' := H5) rfl ?_
  refine Y_ic_h rfl hk rfl ?_
  refine E_run hk 1 (j' := 661) (lv' := [(6, yi z4), (5, yi z1), (4, yi i), (0, .ref 25), (1, .ref 28), (2, .ref 63), (3, .ref 76)]) (st' := [yi z1]) (hp' := H5) rfl ?_
  refine Y_if_ne (a := z1) (by omega) hk rfl (fun g7 => ?_) (fun g7 => ?_)
  ·
    refine E_run hk 1 (j' := 1217) (lv' := [(6, yi z4), (5, yi z1), (4, yi i), (0, .ref 25), (1, .ref 28), (2, .ref 63), (3, .ref 76)]) (st' := []) (hp' := H5) rfl ?_
    exact Ev_le (xle_s rfl rfl (xle_s rfl rfl (xle_s rfl rfl (xle_s rfl rfl (xle_s rfl rfl (xle_z _ rfl)))))) (kk H5 R_H5 rm_H5)
  ·
    refine E_run hk 2 (j' := 664) (lv' := [(6, yi z4), (5, yi z1), (4, yi i), (0, .ref 25), (1, .ref 28), (2, .ref 63), (3, .ref 76)]) (st' := [yi 0, .ref 76]) (hp' := H5) rfl ?_
    obtain ⟨o9_2, o76_2, o0_2⟩ := ou_H5 (by omega)
    refine Y_lald (a := 0) (v := .long ((iN z4).toInt64)) (by omega) (by decide) o0_2 hk rfl o76_2 ?_
    refine E_run hk 2 (j' := 667) (lv' := [(6, yi z4), (5, yi z1), (4, yi i), (0, .ref 25), (1, .ref 28), (2, .ref 63), (3, .ref 76)]) (st' := [.long ((iN z4).toInt64), .long ((iN z4).toInt64)]) (hp' := H5) rfl ?_
    refine Y_lcmp_h rfl hk rfl ?_
    refine Y_if_eq (a := 0) (by omega) hk rfl (fun g8 => ?_) (fun g8 => ?_)
    ·
      refine E_run hk 1 (j' := 1217) (lv' := [(6, yi z4), (5, yi z1), (4, yi i), (0, .ref 25), (1, .ref 28), (2, .ref 63), (3, .ref 76)]) (st' := []) (hp' := H5) rfl ?_
      exact Ev_le (xle_s rfl rfl (xle_s rfl rfl (xle_s rfl rfl (xle_s rfl rfl (xle_s rfl rfl (xle_z _ rfl)))))) (kk H5 R_H5 rm_H5)
    · exfalso; omega
set_option maxRecDepth 100000 in
theorem blk_23 {L : Nat} {F0 : Int → Int} {h : xH} (H : yRel L F0 h) (hF : ∀ q, -2147483648 ≤ F0 q ∧ F0 q ≤ 2147483647) (hL : L ≤ 2048) {i : Int} (hi : 0 ≤ i ∧ i ≤ (L : Int) - 4) {Q : xO → xH → Prop} (kk : ∀ h', yRel L F0 h' → yrm h h' → Ev 11 303 1217 [(4, yi i), (0, .ref 25), (1, .ref 28), (2, .ref 63), (3, .ref 76)] [] h' Q) : Ev 11 303 672 [(4, yi i), (0, .ref 25), (1, .ref 28), (2, .ref 63), (3, .ref 76)] [] h Q := by
  have hk : xtab 303 = (xc_303, 9, 2, []) := rfl
  obtain ⟨v0, S0, T0, N0, X0, B0, A0, Y0, -⟩ := id H
  obtain ⟨od0, a28, -⟩ := A0.1
  have m25 := B0.2.1
  have r1 := hF (i + 1)
  have r2 := hF (i + 2)
  have r3 := hF (i + 3)
  refine E_run hk 1 (j' := 673) (lv' := [(4, yi i), (0, .ref 25), (1, .ref 28), (2, .ref 63), (3, .ref 76)]) (st' := [.ref 28]) (hp' := h) rfl ?_
  refine Y_callE hk rfl (as := [.ref 28]) (rest := []) rfl rfl (Nat.le_of_ble_eq_true rfl) (rcv0 a28) (Nat.le_of_ble_eq_true rfl) (op_bound H ) (fun z1 H2 r3 => ?_)
  obtain ⟨m25_H2, ⟨v_H2, m63_H2⟩, cv_H2⟩ := r3
  refine E_run hk 1 (j' := 675) (lv' := [(4, yi i), (0, .ref 25), (1, .ref 28), (2, .ref 63), (3, .ref 76)]) (st' := [.ref 63, yi z1]) (hp' := H2) rfl ?_
  refine Y_callE hk rfl (as := [.ref 63]) (rest := [yi z1]) rfl rfl (Nat.le_of_ble_eq_true rfl) (rcv0 m63_H2) (Nat.le_of_ble_eq_true rfl) (cv_H2) (fun z4 H5 r6 => ?_)
  obtain ⟨R_H5, eq_H5, rm_H5⟩ := r6
  refine Y_ic_h eq_H5.symm hk rfl ?_
  exact Ev_le (xle_s rfl rfl (xle_s rfl rfl (xle_s rfl rfl (xle_s rfl rfl (xle_s rfl rfl (xle_z _ rfl)))))) (kk H5 R_H5 rm_H5)
set_option maxRecDepth 100000 in
theorem blk_24 {L : Nat} {F0 : Int → Int} {h : xH} (H : yRel L F0 h) (hF : ∀ q, -2147483648 ≤ F0 q ∧ F0 q ≤ 2147483647) (hL : L ≤ 2048) {i : Int} (hi : 0 ≤ i ∧ i ≤ (L : Int) - 4) {Q : xO → xH → Prop} (kk : ∀ h', yRel L F0 h' → yrm h h' → Ev 11 303 1217 [(4, yi i), (0, .ref 25), (1, .ref 28), (2, .ref 63), (3, .ref 76)] [] h' Q) : Ev 11 303 679 [(4, yi i), (0, .ref 25), (1, .ref 28), (2, .ref 63), (3, .ref 76)] [] h Q := by
  have hk : xtab 303 = (xc_303, 9, 2, []) := rfl
  obtain ⟨v0, S0, T0, N0, X0, B0, A0, Y0, -⟩ := id H
  obtain ⟨od0, a28, -⟩ := A0.1
  have m25 := B0.2.1
  have r1 := hF (i + 1)
  have r2 := hF (i + 2)
  have r3 := hF (i + 3)
  refine E_run hk 1 (j' := 680) (lv' := [(4, yi i), (0, .ref 25), (1, .ref 28), (2, .ref 63), (3, .ref 76)]) (st' := [.ref 28]) (hp' := h) rfl ?_
  refine Y_callE hk rfl (as := [.ref 28]) (rest := []) rfl rfl (Nat.le_of_ble_eq_true rfl) (rcv0 a28) (Nat.le_of_ble_eq_true rfl) (op_hold H ) (fun z1 H2 r3 => ?_)
  obtain ⟨m25_H2, ⟨v_H2, m63_H2⟩, cv_H2⟩ := r3
  refine E_run hk 1 (j' := 682) (lv' := [(4, yi i), (0, .ref 25), (1, .ref 28), (2, .ref 63), (3, .ref 76)]) (st' := [.ref 63, yi z1]) (hp' := H2) rfl ?_
  refine Y_callE hk rfl (as := [.ref 63]) (rest := [yi z1]) rfl rfl (Nat.le_of_ble_eq_true rfl) (rcv0 m63_H2) (Nat.le_of_ble_eq_true rfl) (cv_H2) (fun z4 H5 r6 => ?_)
  obtain ⟨R_H5, eq_H5, rm_H5⟩ := r6
  refine Y_ic_h eq_H5.symm hk rfl ?_
  exact Ev_le (xle_s rfl rfl (xle_s rfl rfl (xle_s rfl rfl (xle_s rfl rfl (xle_s rfl rfl (xle_z _ rfl)))))) (kk H5 R_H5 rm_H5)
set_option maxRecDepth 100000 in
theorem blk_25 {L : Nat} {F0 : Int → Int} {h : xH} (H : yRel L F0 h) (hF : ∀ q, -2147483648 ≤ F0 q ∧ F0 q ≤ 2147483647) (hL : L ≤ 2048) {i : Int} (hi : 0 ≤ i ∧ i ≤ (L : Int) - 4) {Q : xO → xH → Prop} (kk : ∀ h', yRel L F0 h' → yrm h h' → Ev 11 303 1217 [(4, yi i), (0, .ref 25), (1, .ref 28), (2, .ref 63), (3, .ref 76)] [] h' Q) : Ev 11 303 686 [(4, yi i), (0, .ref 25), (1, .ref 28), (2, .ref 63), (3, .ref 76)] [] h Q := by
  have hk : xtab 303 = (xc_303, 9, 2, []) := rfl
  obtain ⟨v0, S0, T0, N0, X0, B0, A0, Y0, -⟩ := id H
  obtain ⟨od0, a28, -⟩ := A0.1
  have m25 := B0.2.1
  have r1 := hF (i + 1)
  have r2 := hF (i + 2)
  have r3 := hF (i + 3)
  refine E_run hk 1 (j' := 687) (lv' := [(4, yi i), (0, .ref 25), (1, .ref 28), (2, .ref 63), (3, .ref 76)]) (st' := [.ref 28]) (hp' := h) rfl ?_
  refine Y_callE hk rfl (as := [.ref 28]) (rest := []) rfl rfl (Nat.le_of_ble_eq_true rfl) (rcv0 a28) (Nat.le_of_ble_eq_true rfl) (op_judge H ) (fun z1 H2 r3 => ?_)
  obtain ⟨m25_H2, ⟨v_H2, m63_H2⟩, cv_H2⟩ := r3
  refine E_run hk 1 (j' := 689) (lv' := [(4, yi i), (0, .ref 25), (1, .ref 28), (2, .ref 63), (3, .ref 76)]) (st' := [.ref 63, yi z1]) (hp' := H2) rfl ?_
  refine Y_callE hk rfl (as := [.ref 63]) (rest := [yi z1]) rfl rfl (Nat.le_of_ble_eq_true rfl) (rcv0 m63_H2) (Nat.le_of_ble_eq_true rfl) (cv_H2) (fun z4 H5 r6 => ?_)
  obtain ⟨R_H5, eq_H5, rm_H5⟩ := r6
  refine Y_ic_h eq_H5.symm hk rfl ?_
  exact Ev_le (xle_s rfl rfl (xle_s rfl rfl (xle_s rfl rfl (xle_s rfl rfl (xle_s rfl rfl (xle_z _ rfl)))))) (kk H5 R_H5 rm_H5)
set_option maxRecDepth 100000 in
theorem blk_26 {L : Nat} {F0 : Int → Int} {h : xH} (H : yRel L F0 h) (hF : ∀ q, -2147483648 ≤ F0 q ∧ F0 q ≤ 2147483647) (hL : L ≤ 2048) {i : Int} (hi : 0 ≤ i ∧ i ≤ (L : Int) - 4) {Q : xO → xH → Prop} (kk : ∀ h', yRel L F0 h' → yrm h h' → Ev 11 303 1217 [(4, yi i), (0, .ref 25), (1, .ref 28), (2, .ref 63), (3, .ref 76)] [] h' Q) : Ev 11 303 693 [(4, yi i), (0, .ref 25), (1, .ref 28), (2, .ref 63), (3, .ref 76)] [] h Q := by
  have hk : xtab 303 = (xc_303, 9, 2, []) := rfl
  obtain ⟨v0, S0, T0, N0, X0, B0, A0, Y0, -⟩ := id H
  obtain ⟨od0, a28, -⟩ := A0.1
  have m25 := B0.2.1
  have r1 := hF (i + 1)
  have r2 := hF (i + 2)
  have r3 := hF (i + 3)
  refine E_run hk 4 (j' := 697) (lv' := [(4, yi i), (0, .ref 25), (1, .ref 28), (2, .ref 63), (3, .ref 76)]) (st' := [yi 1, yi i, .ref 25, .ref 28]) (hp' := h) rfl ?_
  refine Y_iadd (a := i) (b := 1) hk rfl ?_
  refine Y_iald (a := (i + 1)) (by omega) (by omega) hk rfl m25 ?_
  refine E_run hk 3 (j' := 702) (lv' := [(4, yi i), (0, .ref 25), (1, .ref 28), (2, .ref 63), (3, .ref 76)]) (st' := [yi 2, yi i, .ref 25, yi (F0 (i + 1)), .ref 28]) (hp' := h) rfl ?_
  refine Y_iadd (a := i) (b := 2) hk rfl ?_
  refine Y_iald (a := (i + 2)) (by omega) (by omega) hk rfl m25 ?_
  refine E_run hk 1 (j' := 705) (lv' := [(4, yi i), (0, .ref 25), (1, .ref 28), (2, .ref 63), (3, .ref 76)]) (st' := [.ref 76, yi (F0 (i + 2)), yi (F0 (i + 1)), .ref 28]) (hp' := h) rfl ?_
  refine Y_callE hk rfl (as := [.ref 28, yi (F0 (i + 1)), yi (F0 (i + 2)), .ref 76]) (rest := []) rfl rfl (Nat.le_of_ble_eq_true rfl) rfl (Nat.le_of_ble_eq_true rfl) (op_unlike H (x0 := (F0 (i + 1))) (x1 := (F0 (i + 2))) (by omega)) (fun z1 H2 r3 => ?_)
  obtain ⟨m25_H2, ⟨v_H2, m63_H2⟩, cv_H2⟩ := r3
  refine E_run hk 5 (j' := 711) (lv' := [(5, yi z1), (4, yi i), (0, .ref 25), (1, .ref 28), (2, .ref 63), (3, .ref 76)]) (st' := [yi 1, yi i, .ref 25, .ref 63]) (hp' := H2) rfl ?_
  refine Y_iadd (a := i) (b := 1) hk rfl ?_
  refine Y_iald (a := (i + 1)) (by omega) (by omega) hk rfl m25_H2 ?_
  refine E_run hk 3 (j' := 716) (lv' := [(5, yi z1), (4, yi i), (0, .ref 25), (1, .ref 28), (2, .ref 63), (3, .ref 76)]) (st' := [yi 2, yi i, .ref 25, yi (F0 (i + 1)), .ref 63]) (hp' := H2) rfl ?_
  refine Y_iadd (a := i) (b := 2) hk rfl ?_
  refine Y_iald (a := (i + 2)) (by omega) (by omega) hk rfl m25_H2 ?_
  refine Y_callE hk rfl (as := [.ref 63, yi (F0 (i + 1)), yi (F0 (i + 2))]) (rest := []) rfl rfl (Nat.le_of_ble_eq_true rfl) (rcv0 m63_H2) (Nat.le_of_ble_eq_true rfl) (cv_H2) (fun z4 H5 r6 => ?_)
  obtain ⟨R_H5, ⟨v_H5, m63_H5, t_H5⟩, kr_H5, ou_H5, rm_H5⟩ := r6
  refine E_run hk 2 (j' := 721) (lv' := [(6, yi z4), (5, yi z1), (4, yi i), (0, .ref 25), (1, .ref 28), (2, .ref 63), (3, .ref 76)]) (st' := [.ref 63]) (hp' := H5) rfl ?_
  refine Y_callP hk rfl (as := [.ref 63]) (rest := []) (v := some (yi z1)) rfl rfl (Nat.le_of_ble_eq_true rfl) (rcv0 m63_H5) (Nat.le_of_ble_eq_true rfl) ((by have e9 := c_X9_thrown (d := 10) m63_H5; rw [t_H5] at e9; exact e9)) ?_
  refine E_run hk 1 (j' := 723) (lv' := [(6, yi z4), (5, yi z1), (4, yi i), (0, .ref 25), (1, .ref 28), (2, .ref 63), (3, .ref 76)]) (st' := [yi z1, yi z1]) (hp' := H5) rfl ?_
  refine Y_ic_h rfl hk rfl ?_
  refine E_run hk 1 (j' := 727) (lv' := [(6, yi z4), (5, yi z1), (4, yi i), (0, .ref 25), (1, .ref 28), (2, .ref 63), (3, .ref 76)]) (st' := [yi z1]) (hp' := H5) rfl ?_
  refine Y_if_ne (a := z1) (by omega) hk rfl (fun g7 => ?_) (fun g7 => ?_)
  ·
    refine E_run hk 1 (j' := 1217) (lv' := [(6, yi z4), (5, yi z1), (4, yi i), (0, .ref 25), (1, .ref 28), (2, .ref 63), (3, .ref 76)]) (st' := []) (hp' := H5) rfl ?_
    exact Ev_le (xle_s rfl rfl (xle_s rfl rfl (xle_s rfl rfl (xle_s rfl rfl (xle_s rfl rfl (xle_z _ rfl)))))) (kk H5 R_H5 rm_H5)
  ·
    refine E_run hk 2 (j' := 730) (lv' := [(6, yi z4), (5, yi z1), (4, yi i), (0, .ref 25), (1, .ref 28), (2, .ref 63), (3, .ref 76)]) (st' := [yi 0, .ref 76]) (hp' := H5) rfl ?_
    obtain ⟨o9_2, o76_2, o0_2⟩ := ou_H5 (by omega)
    refine Y_lald (a := 0) (v := .long ((iN z4).toInt64)) (by omega) (by decide) o0_2 hk rfl o76_2 ?_
    refine E_run hk 2 (j' := 733) (lv' := [(6, yi z4), (5, yi z1), (4, yi i), (0, .ref 25), (1, .ref 28), (2, .ref 63), (3, .ref 76)]) (st' := [.long ((iN z4).toInt64), .long ((iN z4).toInt64)]) (hp' := H5) rfl ?_
    refine Y_lcmp_h rfl hk rfl ?_
    refine Y_if_eq (a := 0) (by omega) hk rfl (fun g8 => ?_) (fun g8 => ?_)
    ·
      refine E_run hk 1 (j' := 1217) (lv' := [(6, yi z4), (5, yi z1), (4, yi i), (0, .ref 25), (1, .ref 28), (2, .ref 63), (3, .ref 76)]) (st' := []) (hp' := H5) rfl ?_
      exact Ev_le (xle_s rfl rfl (xle_s rfl rfl (xle_s rfl rfl (xle_s rfl rfl (xle_s rfl rfl (xle_z _ rfl)))))) (kk H5 R_H5 rm_H5)
    · exfalso; omega
set_option maxRecDepth 100000 in
theorem blk_27 {L : Nat} {F0 : Int → Int} {h : xH} (H : yRel L F0 h) (hF : ∀ q, -2147483648 ≤ F0 q ∧ F0 q ≤ 2147483647) (hL : L ≤ 2048) {i : Int} (hi : 0 ≤ i ∧ i ≤ (L : Int) - 4) {Q : xO → xH → Prop} (kk : ∀ h', yRel L F0 h' → yrm h h' → Ev 11 303 1217 [(4, yi i), (0, .ref 25), (1, .ref 28), (2, .ref 63), (3, .ref 76)] [] h' Q) : Ev 11 303 738 [(4, yi i), (0, .ref 25), (1, .ref 28), (2, .ref 63), (3, .ref 76)] [] h Q := by
  have hk : xtab 303 = (xc_303, 9, 2, []) := rfl
  obtain ⟨v0, S0, T0, N0, X0, B0, A0, Y0, -⟩ := id H
  obtain ⟨od0, a28, -⟩ := A0.1
  have m25 := B0.2.1
  have r1 := hF (i + 1)
  have r2 := hF (i + 2)
  have r3 := hF (i + 3)
  refine E_run hk 1 (j' := 739) (lv' := [(4, yi i), (0, .ref 25), (1, .ref 28), (2, .ref 63), (3, .ref 76)]) (st' := [.ref 28]) (hp' := h) rfl ?_
  refine Y_callE hk rfl (as := [.ref 28]) (rest := []) rfl rfl (Nat.le_of_ble_eq_true rfl) (rcv0 a28) (Nat.le_of_ble_eq_true rfl) (op_rises H ) (fun z1 H2 r3 => ?_)
  obtain ⟨m25_H2, ⟨v_H2, m63_H2⟩, cv_H2⟩ := r3
  refine E_run hk 1 (j' := 741) (lv' := [(4, yi i), (0, .ref 25), (1, .ref 28), (2, .ref 63), (3, .ref 76)]) (st' := [.ref 63, yi z1]) (hp' := H2) rfl ?_
  refine Y_callE hk rfl (as := [.ref 63]) (rest := [yi z1]) rfl rfl (Nat.le_of_ble_eq_true rfl) (rcv0 m63_H2) (Nat.le_of_ble_eq_true rfl) (cv_H2) (fun z4 H5 r6 => ?_)
  obtain ⟨R_H5, eq_H5, rm_H5⟩ := r6
  refine Y_ic_h eq_H5.symm hk rfl ?_
  exact Ev_le (xle_s rfl rfl (xle_s rfl rfl (xle_s rfl rfl (xle_s rfl rfl (xle_s rfl rfl (xle_z _ rfl)))))) (kk H5 R_H5 rm_H5)
set_option maxRecDepth 100000 in
theorem blk_28 {L : Nat} {F0 : Int → Int} {h : xH} (H : yRel L F0 h) (hF : ∀ q, -2147483648 ≤ F0 q ∧ F0 q ≤ 2147483647) (hL : L ≤ 2048) {i : Int} (hi : 0 ≤ i ∧ i ≤ (L : Int) - 4) {Q : xO → xH → Prop} (kk : ∀ h', yRel L F0 h' → yrm h h' → Ev 11 303 1217 [(4, yi i), (0, .ref 25), (1, .ref 28), (2, .ref 63), (3, .ref 76)] [] h' Q) : Ev 11 303 745 [(4, yi i), (0, .ref 25), (1, .ref 28), (2, .ref 63), (3, .ref 76)] [] h Q := by
  have hk : xtab 303 = (xc_303, 9, 2, []) := rfl
  obtain ⟨v0, S0, T0, N0, X0, B0, A0, Y0, -⟩ := id H
  obtain ⟨od0, a28, -⟩ := A0.1
  have m25 := B0.2.1
  have r1 := hF (i + 1)
  have r2 := hF (i + 2)
  have r3 := hF (i + 3)
  refine E_run hk 1 (j' := 746) (lv' := [(4, yi i), (0, .ref 25), (1, .ref 28), (2, .ref 63), (3, .ref 76)]) (st' := [.ref 28]) (hp' := h) rfl ?_
  refine Y_callE hk rfl (as := [.ref 28]) (rest := []) rfl rfl (Nat.le_of_ble_eq_true rfl) (rcv0 a28) (Nat.le_of_ble_eq_true rfl) (op_isMatched H ) (fun z1 H2 r3 => ?_)
  obtain ⟨m25_H2, ⟨v_H2, m63_H2⟩, cv_H2⟩ := r3
  refine E_run hk 1 (j' := 748) (lv' := [(4, yi i), (0, .ref 25), (1, .ref 28), (2, .ref 63), (3, .ref 76)]) (st' := [.ref 63, yi z1]) (hp' := H2) rfl ?_
  refine Y_callE hk rfl (as := [.ref 63]) (rest := [yi z1]) rfl rfl (Nat.le_of_ble_eq_true rfl) (rcv0 m63_H2) (Nat.le_of_ble_eq_true rfl) (cv_H2) (fun z4 H5 r6 => ?_)
  obtain ⟨R_H5, eq_H5, rm_H5⟩ := r6
  refine Y_ic_h eq_H5.symm hk rfl ?_
  exact Ev_le (xle_s rfl rfl (xle_s rfl rfl (xle_s rfl rfl (xle_s rfl rfl (xle_s rfl rfl (xle_z _ rfl)))))) (kk H5 R_H5 rm_H5)
set_option maxRecDepth 100000 in
theorem blk_29 {L : Nat} {F0 : Int → Int} {h : xH} (H : yRel L F0 h) (hF : ∀ q, -2147483648 ≤ F0 q ∧ F0 q ≤ 2147483647) (hL : L ≤ 2048) {i : Int} (hi : 0 ≤ i ∧ i ≤ (L : Int) - 4) {Q : xO → xH → Prop} (kk : ∀ h', yRel L F0 h' → yrm h h' → Ev 11 303 1217 [(4, yi i), (0, .ref 25), (1, .ref 28), (2, .ref 63), (3, .ref 76)] [] h' Q) : Ev 11 303 752 [(4, yi i), (0, .ref 25), (1, .ref 28), (2, .ref 63), (3, .ref 76)] [] h Q := by
  have hk : xtab 303 = (xc_303, 9, 2, []) := rfl
  obtain ⟨v0, S0, T0, N0, X0, B0, A0, Y0, -⟩ := id H
  obtain ⟨od0, a28, -⟩ := A0.1
  have m25 := B0.2.1
  have r1 := hF (i + 1)
  have r2 := hF (i + 2)
  have r3 := hF (i + 3)
  refine E_run hk 2 (j' := 754) (lv' := [(4, yi i), (0, .ref 25), (1, .ref 28), (2, .ref 63), (3, .ref 76)]) (st' := [.ref 76, .ref 28]) (hp' := h) rfl ?_
  refine Y_callE hk rfl (as := [.ref 28, .ref 76]) (rest := []) rfl rfl (Nat.le_of_ble_eq_true rfl) rfl (Nat.le_of_ble_eq_true rfl) (op_cost H ) (fun z1 H2 r3 => ?_)
  obtain ⟨m25_H2, ⟨v_H2, m63_H2⟩, cv_H2⟩ := r3
  refine E_run hk 2 (j' := 757) (lv' := [(5, yi z1), (4, yi i), (0, .ref 25), (1, .ref 28), (2, .ref 63), (3, .ref 76)]) (st' := [.ref 63]) (hp' := H2) rfl ?_
  refine Y_callE hk rfl (as := [.ref 63]) (rest := []) rfl rfl (Nat.le_of_ble_eq_true rfl) (rcv0 m63_H2) (Nat.le_of_ble_eq_true rfl) (cv_H2) (fun z4 H5 r6 => ?_)
  obtain ⟨R_H5, ⟨v_H5, m63_H5, t_H5⟩, kr_H5, ou_H5, rm_H5⟩ := r6
  refine E_run hk 2 (j' := 760) (lv' := [(6, yi z4), (5, yi z1), (4, yi i), (0, .ref 25), (1, .ref 28), (2, .ref 63), (3, .ref 76)]) (st' := [.ref 63]) (hp' := H5) rfl ?_
  refine Y_callP hk rfl (as := [.ref 63]) (rest := []) (v := some (yi z1)) rfl rfl (Nat.le_of_ble_eq_true rfl) (rcv0 m63_H5) (Nat.le_of_ble_eq_true rfl) ((by have e9 := c_X9_thrown (d := 10) m63_H5; rw [t_H5] at e9; exact e9)) ?_
  refine E_run hk 1 (j' := 762) (lv' := [(6, yi z4), (5, yi z1), (4, yi i), (0, .ref 25), (1, .ref 28), (2, .ref 63), (3, .ref 76)]) (st' := [yi z1, yi z1]) (hp' := H5) rfl ?_
  refine Y_ic_h rfl hk rfl ?_
  refine E_run hk 1 (j' := 766) (lv' := [(6, yi z4), (5, yi z1), (4, yi i), (0, .ref 25), (1, .ref 28), (2, .ref 63), (3, .ref 76)]) (st' := [yi z1]) (hp' := H5) rfl ?_
  refine Y_if_ne (a := z1) (by omega) hk rfl (fun g7 => ?_) (fun g7 => ?_)
  ·
    refine E_run hk 1 (j' := 1217) (lv' := [(6, yi z4), (5, yi z1), (4, yi i), (0, .ref 25), (1, .ref 28), (2, .ref 63), (3, .ref 76)]) (st' := []) (hp' := H5) rfl ?_
    exact Ev_le (xle_s rfl rfl (xle_s rfl rfl (xle_s rfl rfl (xle_s rfl rfl (xle_s rfl rfl (xle_z _ rfl)))))) (kk H5 R_H5 rm_H5)
  ·
    refine E_run hk 2 (j' := 769) (lv' := [(6, yi z4), (5, yi z1), (4, yi i), (0, .ref 25), (1, .ref 28), (2, .ref 63), (3, .ref 76)]) (st' := [yi 0, .ref 76]) (hp' := H5) rfl ?_
    obtain ⟨o9_2, o76_2, o0_2⟩ := ou_H5 (by omega)
    refine Y_lald (a := 0) (v := .long ((iN z4).toInt64)) (by omega) (by decide) o0_2 hk rfl o76_2 ?_
    refine E_run hk 2 (j' := 772) (lv' := [(6, yi z4), (5, yi z1), (4, yi i), (0, .ref 25), (1, .ref 28), (2, .ref 63), (3, .ref 76)]) (st' := [.long ((iN z4).toInt64), .long ((iN z4).toInt64)]) (hp' := H5) rfl ?_
    refine Y_lcmp_h rfl hk rfl ?_
    refine Y_if_eq (a := 0) (by omega) hk rfl (fun g8 => ?_) (fun g8 => ?_)
    ·
      refine E_run hk 1 (j' := 1217) (lv' := [(6, yi z4), (5, yi z1), (4, yi i), (0, .ref 25), (1, .ref 28), (2, .ref 63), (3, .ref 76)]) (st' := []) (hp' := H5) rfl ?_
      exact Ev_le (xle_s rfl rfl (xle_s rfl rfl (xle_s rfl rfl (xle_s rfl rfl (xle_s rfl rfl (xle_z _ rfl)))))) (kk H5 R_H5 rm_H5)
    · exfalso; omega
set_option maxRecDepth 100000 in
theorem blk_30 {L : Nat} {F0 : Int → Int} {h : xH} (H : yRel L F0 h) (hF : ∀ q, -2147483648 ≤ F0 q ∧ F0 q ≤ 2147483647) (hL : L ≤ 2048) {i : Int} (hi : 0 ≤ i ∧ i ≤ (L : Int) - 4) {Q : xO → xH → Prop} (kk : ∀ h', yRel L F0 h' → yrm h h' → Ev 11 303 1217 [(4, yi i), (0, .ref 25), (1, .ref 28), (2, .ref 63), (3, .ref 76)] [] h' Q) : Ev 11 303 777 [(4, yi i), (0, .ref 25), (1, .ref 28), (2, .ref 63), (3, .ref 76)] [] h Q := by
  have hk : xtab 303 = (xc_303, 9, 2, []) := rfl
  obtain ⟨v0, S0, T0, N0, X0, B0, A0, Y0, -⟩ := id H
  obtain ⟨od0, a28, -⟩ := A0.1
  have m25 := B0.2.1
  have r1 := hF (i + 1)
  have r2 := hF (i + 2)
  have r3 := hF (i + 3)
  refine E_run hk 2 (j' := 779) (lv' := [(4, yi i), (0, .ref 25), (1, .ref 28), (2, .ref 63), (3, .ref 76)]) (st' := [.ref 76, .ref 28]) (hp' := h) rfl ?_
  refine Y_callE hk rfl (as := [.ref 28, .ref 76]) (rest := []) rfl rfl (Nat.le_of_ble_eq_true rfl) rfl (Nat.le_of_ble_eq_true rfl) (op_costFromEnd H ) (fun z1 H2 r3 => ?_)
  obtain ⟨m25_H2, ⟨v_H2, m63_H2⟩, cv_H2⟩ := r3
  refine E_run hk 2 (j' := 782) (lv' := [(5, yi z1), (4, yi i), (0, .ref 25), (1, .ref 28), (2, .ref 63), (3, .ref 76)]) (st' := [.ref 63]) (hp' := H2) rfl ?_
  refine Y_callE hk rfl (as := [.ref 63]) (rest := []) rfl rfl (Nat.le_of_ble_eq_true rfl) (rcv0 m63_H2) (Nat.le_of_ble_eq_true rfl) (cv_H2) (fun z4 H5 r6 => ?_)
  obtain ⟨R_H5, ⟨v_H5, m63_H5, t_H5⟩, kr_H5, ou_H5, rm_H5⟩ := r6
  refine E_run hk 2 (j' := 785) (lv' := [(6, yi z4), (5, yi z1), (4, yi i), (0, .ref 25), (1, .ref 28), (2, .ref 63), (3, .ref 76)]) (st' := [.ref 63]) (hp' := H5) rfl ?_
  refine Y_callP hk rfl (as := [.ref 63]) (rest := []) (v := some (yi z1)) rfl rfl (Nat.le_of_ble_eq_true rfl) (rcv0 m63_H5) (Nat.le_of_ble_eq_true rfl) ((by have e9 := c_X9_thrown (d := 10) m63_H5; rw [t_H5] at e9; exact e9)) ?_
  refine E_run hk 1 (j' := 787) (lv' := [(6, yi z4), (5, yi z1), (4, yi i), (0, .ref 25), (1, .ref 28), (2, .ref 63), (3, .ref 76)]) (st' := [yi z1, yi z1]) (hp' := H5) rfl ?_
  refine Y_ic_h rfl hk rfl ?_
  refine E_run hk 1 (j' := 791) (lv' := [(6, yi z4), (5, yi z1), (4, yi i), (0, .ref 25), (1, .ref 28), (2, .ref 63), (3, .ref 76)]) (st' := [yi z1]) (hp' := H5) rfl ?_
  refine Y_if_ne (a := z1) (by omega) hk rfl (fun g7 => ?_) (fun g7 => ?_)
  ·
    refine E_run hk 1 (j' := 1217) (lv' := [(6, yi z4), (5, yi z1), (4, yi i), (0, .ref 25), (1, .ref 28), (2, .ref 63), (3, .ref 76)]) (st' := []) (hp' := H5) rfl ?_
    exact Ev_le (xle_s rfl rfl (xle_s rfl rfl (xle_s rfl rfl (xle_s rfl rfl (xle_s rfl rfl (xle_z _ rfl)))))) (kk H5 R_H5 rm_H5)
  ·
    refine E_run hk 2 (j' := 794) (lv' := [(6, yi z4), (5, yi z1), (4, yi i), (0, .ref 25), (1, .ref 28), (2, .ref 63), (3, .ref 76)]) (st' := [yi 0, .ref 76]) (hp' := H5) rfl ?_
    obtain ⟨o9_2, o76_2, o0_2⟩ := ou_H5 (by omega)
    refine Y_lald (a := 0) (v := .long ((iN z4).toInt64)) (by omega) (by decide) o0_2 hk rfl o76_2 ?_
    refine E_run hk 2 (j' := 797) (lv' := [(6, yi z4), (5, yi z1), (4, yi i), (0, .ref 25), (1, .ref 28), (2, .ref 63), (3, .ref 76)]) (st' := [.long ((iN z4).toInt64), .long ((iN z4).toInt64)]) (hp' := H5) rfl ?_
    refine Y_lcmp_h rfl hk rfl ?_
    refine Y_if_eq (a := 0) (by omega) hk rfl (fun g8 => ?_) (fun g8 => ?_)
    ·
      refine E_run hk 1 (j' := 1217) (lv' := [(6, yi z4), (5, yi z1), (4, yi i), (0, .ref 25), (1, .ref 28), (2, .ref 63), (3, .ref 76)]) (st' := []) (hp' := H5) rfl ?_
      exact Ev_le (xle_s rfl rfl (xle_s rfl rfl (xle_s rfl rfl (xle_s rfl rfl (xle_s rfl rfl (xle_z _ rfl)))))) (kk H5 R_H5 rm_H5)
    · exfalso; omega
set_option maxRecDepth 100000 in
theorem blk_31 {L : Nat} {F0 : Int → Int} {h : xH} (H : yRel L F0 h) (hF : ∀ q, -2147483648 ≤ F0 q ∧ F0 q ≤ 2147483647) (hL : L ≤ 2048) {i : Int} (hi : 0 ≤ i ∧ i ≤ (L : Int) - 4) {Q : xO → xH → Prop} (kk : ∀ h', yRel L F0 h' → yrm h h' → Ev 11 303 1217 [(4, yi i), (0, .ref 25), (1, .ref 28), (2, .ref 63), (3, .ref 76)] [] h' Q) : Ev 11 303 802 [(4, yi i), (0, .ref 25), (1, .ref 28), (2, .ref 63), (3, .ref 76)] [] h Q := by
  have hk : xtab 303 = (xc_303, 9, 2, []) := rfl
  obtain ⟨v0, S0, T0, N0, X0, B0, A0, Y0, -⟩ := id H
  obtain ⟨od0, a28, -⟩ := A0.1
  have m25 := B0.2.1
  have r1 := hF (i + 1)
  have r2 := hF (i + 2)
  have r3 := hF (i + 3)
  refine E_run hk 4 (j' := 806) (lv' := [(4, yi i), (0, .ref 25), (1, .ref 28), (2, .ref 63), (3, .ref 76)]) (st' := [yi 1, yi i, .ref 25, .ref 28]) (hp' := h) rfl ?_
  refine Y_iadd (a := i) (b := 1) hk rfl ?_
  refine Y_iald (a := (i + 1)) (by omega) (by omega) hk rfl m25 ?_
  refine E_run hk 3 (j' := 811) (lv' := [(4, yi i), (0, .ref 25), (1, .ref 28), (2, .ref 63), (3, .ref 76)]) (st' := [yi 2, yi i, .ref 25, yi (F0 (i + 1)), .ref 28]) (hp' := h) rfl ?_
  refine Y_iadd (a := i) (b := 2) hk rfl ?_
  refine Y_iald (a := (i + 2)) (by omega) (by omega) hk rfl m25 ?_
  refine E_run hk 1 (j' := 814) (lv' := [(4, yi i), (0, .ref 25), (1, .ref 28), (2, .ref 63), (3, .ref 76)]) (st' := [.ref 76, yi (F0 (i + 2)), yi (F0 (i + 1)), .ref 28]) (hp' := h) rfl ?_
  refine Y_callE hk rfl (as := [.ref 28, yi (F0 (i + 1)), yi (F0 (i + 2)), .ref 76]) (rest := []) rfl rfl (Nat.le_of_ble_eq_true rfl) rfl (Nat.le_of_ble_eq_true rfl) (op_costTo H (x0 := (F0 (i + 1))) (x1 := (F0 (i + 2))) (by omega)) (fun z1 H2 r3 => ?_)
  obtain ⟨m25_H2, ⟨v_H2, m63_H2⟩, cv_H2⟩ := r3
  refine E_run hk 5 (j' := 820) (lv' := [(5, yi z1), (4, yi i), (0, .ref 25), (1, .ref 28), (2, .ref 63), (3, .ref 76)]) (st' := [yi 1, yi i, .ref 25, .ref 63]) (hp' := H2) rfl ?_
  refine Y_iadd (a := i) (b := 1) hk rfl ?_
  refine Y_iald (a := (i + 1)) (by omega) (by omega) hk rfl m25_H2 ?_
  refine E_run hk 3 (j' := 825) (lv' := [(5, yi z1), (4, yi i), (0, .ref 25), (1, .ref 28), (2, .ref 63), (3, .ref 76)]) (st' := [yi 2, yi i, .ref 25, yi (F0 (i + 1)), .ref 63]) (hp' := H2) rfl ?_
  refine Y_iadd (a := i) (b := 2) hk rfl ?_
  refine Y_iald (a := (i + 2)) (by omega) (by omega) hk rfl m25_H2 ?_
  refine Y_callE hk rfl (as := [.ref 63, yi (F0 (i + 1)), yi (F0 (i + 2))]) (rest := []) rfl rfl (Nat.le_of_ble_eq_true rfl) (rcv0 m63_H2) (Nat.le_of_ble_eq_true rfl) (cv_H2) (fun z4 H5 r6 => ?_)
  obtain ⟨R_H5, ⟨v_H5, m63_H5, t_H5⟩, kr_H5, ou_H5, rm_H5⟩ := r6
  refine E_run hk 2 (j' := 830) (lv' := [(6, yi z4), (5, yi z1), (4, yi i), (0, .ref 25), (1, .ref 28), (2, .ref 63), (3, .ref 76)]) (st' := [.ref 63]) (hp' := H5) rfl ?_
  refine Y_callP hk rfl (as := [.ref 63]) (rest := []) (v := some (yi z1)) rfl rfl (Nat.le_of_ble_eq_true rfl) (rcv0 m63_H5) (Nat.le_of_ble_eq_true rfl) ((by have e9 := c_X9_thrown (d := 10) m63_H5; rw [t_H5] at e9; exact e9)) ?_
  refine E_run hk 1 (j' := 832) (lv' := [(6, yi z4), (5, yi z1), (4, yi i), (0, .ref 25), (1, .ref 28), (2, .ref 63), (3, .ref 76)]) (st' := [yi z1, yi z1]) (hp' := H5) rfl ?_
  refine Y_ic_h rfl hk rfl ?_
  refine E_run hk 1 (j' := 836) (lv' := [(6, yi z4), (5, yi z1), (4, yi i), (0, .ref 25), (1, .ref 28), (2, .ref 63), (3, .ref 76)]) (st' := [yi z1]) (hp' := H5) rfl ?_
  refine Y_if_ne (a := z1) (by omega) hk rfl (fun g7 => ?_) (fun g7 => ?_)
  ·
    refine E_run hk 1 (j' := 1217) (lv' := [(6, yi z4), (5, yi z1), (4, yi i), (0, .ref 25), (1, .ref 28), (2, .ref 63), (3, .ref 76)]) (st' := []) (hp' := H5) rfl ?_
    exact Ev_le (xle_s rfl rfl (xle_s rfl rfl (xle_s rfl rfl (xle_s rfl rfl (xle_s rfl rfl (xle_z _ rfl)))))) (kk H5 R_H5 rm_H5)
  ·
    refine E_run hk 2 (j' := 839) (lv' := [(6, yi z4), (5, yi z1), (4, yi i), (0, .ref 25), (1, .ref 28), (2, .ref 63), (3, .ref 76)]) (st' := [yi 0, .ref 76]) (hp' := H5) rfl ?_
    obtain ⟨o9_2, o76_2, o0_2⟩ := ou_H5 (by omega)
    refine Y_lald (a := 0) (v := .long ((iN z4).toInt64)) (by omega) (by decide) o0_2 hk rfl o76_2 ?_
    refine E_run hk 2 (j' := 842) (lv' := [(6, yi z4), (5, yi z1), (4, yi i), (0, .ref 25), (1, .ref 28), (2, .ref 63), (3, .ref 76)]) (st' := [.long ((iN z4).toInt64), .long ((iN z4).toInt64)]) (hp' := H5) rfl ?_
    refine Y_lcmp_h rfl hk rfl ?_
    refine Y_if_eq (a := 0) (by omega) hk rfl (fun g8 => ?_) (fun g8 => ?_)
    ·
      refine E_run hk 1 (j' := 1217) (lv' := [(6, yi z4), (5, yi z1), (4, yi i), (0, .ref 25), (1, .ref 28), (2, .ref 63), (3, .ref 76)]) (st' := []) (hp' := H5) rfl ?_
      exact Ev_le (xle_s rfl rfl (xle_s rfl rfl (xle_s rfl rfl (xle_s rfl rfl (xle_s rfl rfl (xle_z _ rfl)))))) (kk H5 R_H5 rm_H5)
    · exfalso; omega
set_option maxRecDepth 100000 in
theorem blk_32 {L : Nat} {F0 : Int → Int} {h : xH} (H : yRel L F0 h) (hF : ∀ q, -2147483648 ≤ F0 q ∧ F0 q ≤ 2147483647) (hL : L ≤ 2048) {i : Int} (hi : 0 ≤ i ∧ i ≤ (L : Int) - 4) {Q : xO → xH → Prop} (kk : ∀ h', yRel L F0 h' → yrm h h' → Ev 11 303 1217 [(4, yi i), (0, .ref 25), (1, .ref 28), (2, .ref 63), (3, .ref 76)] [] h' Q) : Ev 11 303 847 [(4, yi i), (0, .ref 25), (1, .ref 28), (2, .ref 63), (3, .ref 76)] [] h Q := by
  have hk : xtab 303 = (xc_303, 9, 2, []) := rfl
  obtain ⟨v0, S0, T0, N0, X0, B0, A0, Y0, -⟩ := id H
  obtain ⟨od0, a28, -⟩ := A0.1
  have m25 := B0.2.1
  have r1 := hF (i + 1)
  have r2 := hF (i + 2)
  have r3 := hF (i + 3)
  refine E_run hk 2 (j' := 849) (lv' := [(4, yi i), (0, .ref 25), (1, .ref 28), (2, .ref 63), (3, .ref 76)]) (st' := [.ref 76, .ref 28]) (hp' := h) rfl ?_
  refine Y_callE hk rfl (as := [.ref 28, .ref 76]) (rest := []) rfl rfl (Nat.le_of_ble_eq_true rfl) rfl (Nat.le_of_ble_eq_true rfl) (op_pairs H ) (fun z1 H2 r3 => ?_)
  obtain ⟨m25_H2, ⟨v_H2, m63_H2⟩, cv_H2⟩ := r3
  refine E_run hk 2 (j' := 852) (lv' := [(5, yi z1), (4, yi i), (0, .ref 25), (1, .ref 28), (2, .ref 63), (3, .ref 76)]) (st' := [.ref 63]) (hp' := H2) rfl ?_
  refine Y_callE hk rfl (as := [.ref 63]) (rest := []) rfl rfl (Nat.le_of_ble_eq_true rfl) (rcv0 m63_H2) (Nat.le_of_ble_eq_true rfl) (cv_H2) (fun z4 H5 r6 => ?_)
  obtain ⟨R_H5, ⟨v_H5, m63_H5, t_H5⟩, kr_H5, ou_H5, rm_H5⟩ := r6
  refine E_run hk 2 (j' := 855) (lv' := [(6, yi z4), (5, yi z1), (4, yi i), (0, .ref 25), (1, .ref 28), (2, .ref 63), (3, .ref 76)]) (st' := [.ref 63]) (hp' := H5) rfl ?_
  refine Y_callP hk rfl (as := [.ref 63]) (rest := []) (v := some (yi z1)) rfl rfl (Nat.le_of_ble_eq_true rfl) (rcv0 m63_H5) (Nat.le_of_ble_eq_true rfl) ((by have e9 := c_X9_thrown (d := 10) m63_H5; rw [t_H5] at e9; exact e9)) ?_
  refine E_run hk 1 (j' := 857) (lv' := [(6, yi z4), (5, yi z1), (4, yi i), (0, .ref 25), (1, .ref 28), (2, .ref 63), (3, .ref 76)]) (st' := [yi z1, yi z1]) (hp' := H5) rfl ?_
  refine Y_ic_h rfl hk rfl ?_
  refine E_run hk 1 (j' := 861) (lv' := [(6, yi z4), (5, yi z1), (4, yi i), (0, .ref 25), (1, .ref 28), (2, .ref 63), (3, .ref 76)]) (st' := [yi z1]) (hp' := H5) rfl ?_
  refine Y_if_ne (a := z1) (by omega) hk rfl (fun g7 => ?_) (fun g7 => ?_)
  ·
    refine E_run hk 1 (j' := 1217) (lv' := [(6, yi z4), (5, yi z1), (4, yi i), (0, .ref 25), (1, .ref 28), (2, .ref 63), (3, .ref 76)]) (st' := []) (hp' := H5) rfl ?_
    exact Ev_le (xle_s rfl rfl (xle_s rfl rfl (xle_s rfl rfl (xle_s rfl rfl (xle_s rfl rfl (xle_z _ rfl)))))) (kk H5 R_H5 rm_H5)
  ·
    refine E_run hk 2 (j' := 864) (lv' := [(6, yi z4), (5, yi z1), (4, yi i), (0, .ref 25), (1, .ref 28), (2, .ref 63), (3, .ref 76)]) (st' := [yi 0, .ref 76]) (hp' := H5) rfl ?_
    obtain ⟨o9_2, o76_2, o0_2⟩ := ou_H5 (by omega)
    refine Y_lald (a := 0) (v := .long ((iN z4).toInt64)) (by omega) (by decide) o0_2 hk rfl o76_2 ?_
    refine E_run hk 2 (j' := 867) (lv' := [(6, yi z4), (5, yi z1), (4, yi i), (0, .ref 25), (1, .ref 28), (2, .ref 63), (3, .ref 76)]) (st' := [.long ((iN z4).toInt64), .long ((iN z4).toInt64)]) (hp' := H5) rfl ?_
    refine Y_lcmp_h rfl hk rfl ?_
    refine Y_if_eq (a := 0) (by omega) hk rfl (fun g8 => ?_) (fun g8 => ?_)
    ·
      refine E_run hk 1 (j' := 1217) (lv' := [(6, yi z4), (5, yi z1), (4, yi i), (0, .ref 25), (1, .ref 28), (2, .ref 63), (3, .ref 76)]) (st' := []) (hp' := H5) rfl ?_
      exact Ev_le (xle_s rfl rfl (xle_s rfl rfl (xle_s rfl rfl (xle_s rfl rfl (xle_s rfl rfl (xle_z _ rfl)))))) (kk H5 R_H5 rm_H5)
    · exfalso; omega
set_option maxRecDepth 100000 in
theorem blk_33 {L : Nat} {F0 : Int → Int} {h : xH} (H : yRel L F0 h) (hF : ∀ q, -2147483648 ≤ F0 q ∧ F0 q ≤ 2147483647) (hL : L ≤ 2048) {i : Int} (hi : 0 ≤ i ∧ i ≤ (L : Int) - 4) {Q : xO → xH → Prop} (kk : ∀ h', yRel L F0 h' → yrm h h' → Ev 11 303 1217 [(4, yi i), (0, .ref 25), (1, .ref 28), (2, .ref 63), (3, .ref 76)] [] h' Q) : Ev 11 303 872 [(4, yi i), (0, .ref 25), (1, .ref 28), (2, .ref 63), (3, .ref 76)] [] h Q := by
  have hk : xtab 303 = (xc_303, 9, 2, []) := rfl
  obtain ⟨v0, S0, T0, N0, X0, B0, A0, Y0, -⟩ := id H
  obtain ⟨od0, a28, -⟩ := A0.1
  have m25 := B0.2.1
  have r1 := hF (i + 1)
  have r2 := hF (i + 2)
  have r3 := hF (i + 3)
  refine E_run hk 4 (j' := 876) (lv' := [(4, yi i), (0, .ref 25), (1, .ref 28), (2, .ref 63), (3, .ref 76)]) (st' := [yi 1, yi i, .ref 25, .ref 28]) (hp' := h) rfl ?_
  refine Y_iadd (a := i) (b := 1) hk rfl ?_
  refine Y_iald (a := (i + 1)) (by omega) (by omega) hk rfl m25 ?_
  refine E_run hk 3 (j' := 881) (lv' := [(4, yi i), (0, .ref 25), (1, .ref 28), (2, .ref 63), (3, .ref 76)]) (st' := [yi 2, yi i, .ref 25, yi (F0 (i + 1)), .ref 28]) (hp' := h) rfl ?_
  refine Y_iadd (a := i) (b := 2) hk rfl ?_
  refine Y_iald (a := (i + 2)) (by omega) (by omega) hk rfl m25 ?_
  refine E_run hk 1 (j' := 884) (lv' := [(4, yi i), (0, .ref 25), (1, .ref 28), (2, .ref 63), (3, .ref 76)]) (st' := [.ref 76, yi (F0 (i + 2)), yi (F0 (i + 1)), .ref 28]) (hp' := h) rfl ?_
  refine Y_callE hk rfl (as := [.ref 28, yi (F0 (i + 1)), yi (F0 (i + 2)), .ref 76]) (rest := []) rfl rfl (Nat.le_of_ble_eq_true rfl) rfl (Nat.le_of_ble_eq_true rfl) (op_noteOfPair H (x0 := (F0 (i + 1))) (x1 := (F0 (i + 2))) (by omega)) (fun z1 H2 r3 => ?_)
  obtain ⟨m25_H2, ⟨v_H2, m63_H2⟩, cv_H2⟩ := r3
  refine E_run hk 5 (j' := 890) (lv' := [(5, yi z1), (4, yi i), (0, .ref 25), (1, .ref 28), (2, .ref 63), (3, .ref 76)]) (st' := [yi 1, yi i, .ref 25, .ref 63]) (hp' := H2) rfl ?_
  refine Y_iadd (a := i) (b := 1) hk rfl ?_
  refine Y_iald (a := (i + 1)) (by omega) (by omega) hk rfl m25_H2 ?_
  refine E_run hk 3 (j' := 895) (lv' := [(5, yi z1), (4, yi i), (0, .ref 25), (1, .ref 28), (2, .ref 63), (3, .ref 76)]) (st' := [yi 2, yi i, .ref 25, yi (F0 (i + 1)), .ref 63]) (hp' := H2) rfl ?_
  refine Y_iadd (a := i) (b := 2) hk rfl ?_
  refine Y_iald (a := (i + 2)) (by omega) (by omega) hk rfl m25_H2 ?_
  refine Y_callE hk rfl (as := [.ref 63, yi (F0 (i + 1)), yi (F0 (i + 2))]) (rest := []) rfl rfl (Nat.le_of_ble_eq_true rfl) (rcv0 m63_H2) (Nat.le_of_ble_eq_true rfl) (cv_H2) (fun z4 H5 r6 => ?_)
  obtain ⟨R_H5, ⟨v_H5, m63_H5, t_H5⟩, kr_H5, ou_H5, rm_H5⟩ := r6
  refine E_run hk 2 (j' := 900) (lv' := [(6, yi z4), (5, yi z1), (4, yi i), (0, .ref 25), (1, .ref 28), (2, .ref 63), (3, .ref 76)]) (st' := [.ref 63]) (hp' := H5) rfl ?_
  refine Y_callP hk rfl (as := [.ref 63]) (rest := []) (v := some (yi z1)) rfl rfl (Nat.le_of_ble_eq_true rfl) (rcv0 m63_H5) (Nat.le_of_ble_eq_true rfl) ((by have e9 := c_X9_thrown (d := 10) m63_H5; rw [t_H5] at e9; exact e9)) ?_
  refine E_run hk 1 (j' := 902) (lv' := [(6, yi z4), (5, yi z1), (4, yi i), (0, .ref 25), (1, .ref 28), (2, .ref 63), (3, .ref 76)]) (st' := [yi z1, yi z1]) (hp' := H5) rfl ?_
  refine Y_ic_h rfl hk rfl ?_
  refine E_run hk 1 (j' := 906) (lv' := [(6, yi z4), (5, yi z1), (4, yi i), (0, .ref 25), (1, .ref 28), (2, .ref 63), (3, .ref 76)]) (st' := [yi z1]) (hp' := H5) rfl ?_
  refine Y_if_ne (a := z1) (by omega) hk rfl (fun g7 => ?_) (fun g7 => ?_)
  ·
    refine E_run hk 1 (j' := 1217) (lv' := [(6, yi z4), (5, yi z1), (4, yi i), (0, .ref 25), (1, .ref 28), (2, .ref 63), (3, .ref 76)]) (st' := []) (hp' := H5) rfl ?_
    exact Ev_le (xle_s rfl rfl (xle_s rfl rfl (xle_s rfl rfl (xle_s rfl rfl (xle_s rfl rfl (xle_z _ rfl)))))) (kk H5 R_H5 rm_H5)
  ·
    refine E_run hk 2 (j' := 909) (lv' := [(6, yi z4), (5, yi z1), (4, yi i), (0, .ref 25), (1, .ref 28), (2, .ref 63), (3, .ref 76)]) (st' := [yi 0, .ref 76]) (hp' := H5) rfl ?_
    obtain ⟨o9_2, o76_2, o0_2⟩ := ou_H5 (by omega)
    refine Y_lald (a := 0) (v := .long ((iN z4).toInt64)) (by omega) (by decide) o0_2 hk rfl o76_2 ?_
    refine E_run hk 2 (j' := 912) (lv' := [(6, yi z4), (5, yi z1), (4, yi i), (0, .ref 25), (1, .ref 28), (2, .ref 63), (3, .ref 76)]) (st' := [.long ((iN z4).toInt64), .long ((iN z4).toInt64)]) (hp' := H5) rfl ?_
    refine Y_lcmp_h rfl hk rfl ?_
    refine Y_if_eq (a := 0) (by omega) hk rfl (fun g8 => ?_) (fun g8 => ?_)
    ·
      refine E_run hk 1 (j' := 1217) (lv' := [(6, yi z4), (5, yi z1), (4, yi i), (0, .ref 25), (1, .ref 28), (2, .ref 63), (3, .ref 76)]) (st' := []) (hp' := H5) rfl ?_
      exact Ev_le (xle_s rfl rfl (xle_s rfl rfl (xle_s rfl rfl (xle_s rfl rfl (xle_s rfl rfl (xle_z _ rfl)))))) (kk H5 R_H5 rm_H5)
    · exfalso; omega
set_option maxRecDepth 100000 in
theorem blk_34 {L : Nat} {F0 : Int → Int} {h : xH} (H : yRel L F0 h) (hF : ∀ q, -2147483648 ≤ F0 q ∧ F0 q ≤ 2147483647) (hL : L ≤ 2048) {i : Int} (hi : 0 ≤ i ∧ i ≤ (L : Int) - 4) {Q : xO → xH → Prop} (kk : ∀ h', yRel L F0 h' → yrm h h' → Ev 11 303 1217 [(4, yi i), (0, .ref 25), (1, .ref 28), (2, .ref 63), (3, .ref 76)] [] h' Q) : Ev 11 303 917 [(4, yi i), (0, .ref 25), (1, .ref 28), (2, .ref 63), (3, .ref 76)] [] h Q := by
  have hk : xtab 303 = (xc_303, 9, 2, []) := rfl
  obtain ⟨v0, S0, T0, N0, X0, B0, A0, Y0, -⟩ := id H
  obtain ⟨od0, a28, -⟩ := A0.1
  have m25 := B0.2.1
  have r1 := hF (i + 1)
  have r2 := hF (i + 2)
  have r3 := hF (i + 3)
  refine E_run hk 4 (j' := 921) (lv' := [(4, yi i), (0, .ref 25), (1, .ref 28), (2, .ref 63), (3, .ref 76)]) (st' := [yi 1, yi i, .ref 25, .ref 28]) (hp' := h) rfl ?_
  refine Y_iadd (a := i) (b := 1) hk rfl ?_
  refine Y_iald (a := (i + 1)) (by omega) (by omega) hk rfl m25 ?_
  refine E_run hk 3 (j' := 926) (lv' := [(4, yi i), (0, .ref 25), (1, .ref 28), (2, .ref 63), (3, .ref 76)]) (st' := [yi 2, yi i, .ref 25, yi (F0 (i + 1)), .ref 28]) (hp' := h) rfl ?_
  refine Y_iadd (a := i) (b := 2) hk rfl ?_
  refine Y_iald (a := (i + 2)) (by omega) (by omega) hk rfl m25 ?_
  refine E_run hk 1 (j' := 929) (lv' := [(4, yi i), (0, .ref 25), (1, .ref 28), (2, .ref 63), (3, .ref 76)]) (st' := [.ref 76, yi (F0 (i + 2)), yi (F0 (i + 1)), .ref 28]) (hp' := h) rfl ?_
  refine Y_callE hk rfl (as := [.ref 28, yi (F0 (i + 1)), yi (F0 (i + 2)), .ref 76]) (rest := []) rfl rfl (Nat.le_of_ble_eq_true rfl) rfl (Nat.le_of_ble_eq_true rfl) (op_stretch H (x0 := (F0 (i + 1))) (x1 := (F0 (i + 2))) (by omega)) (fun z1 H2 r3 => ?_)
  obtain ⟨m25_H2, ⟨v_H2, m63_H2⟩, cv_H2⟩ := r3
  refine E_run hk 5 (j' := 935) (lv' := [(5, yi z1), (4, yi i), (0, .ref 25), (1, .ref 28), (2, .ref 63), (3, .ref 76)]) (st' := [yi 1, yi i, .ref 25, .ref 63]) (hp' := H2) rfl ?_
  refine Y_iadd (a := i) (b := 1) hk rfl ?_
  refine Y_iald (a := (i + 1)) (by omega) (by omega) hk rfl m25_H2 ?_
  refine E_run hk 3 (j' := 940) (lv' := [(5, yi z1), (4, yi i), (0, .ref 25), (1, .ref 28), (2, .ref 63), (3, .ref 76)]) (st' := [yi 2, yi i, .ref 25, yi (F0 (i + 1)), .ref 63]) (hp' := H2) rfl ?_
  refine Y_iadd (a := i) (b := 2) hk rfl ?_
  refine Y_iald (a := (i + 2)) (by omega) (by omega) hk rfl m25_H2 ?_
  refine Y_callE hk rfl (as := [.ref 63, yi (F0 (i + 1)), yi (F0 (i + 2))]) (rest := []) rfl rfl (Nat.le_of_ble_eq_true rfl) (rcv0 m63_H2) (Nat.le_of_ble_eq_true rfl) (cv_H2) (fun z4 H5 r6 => ?_)
  obtain ⟨R_H5, ⟨v_H5, m63_H5, t_H5⟩, kr_H5, ou_H5, rm_H5⟩ := r6
  refine E_run hk 2 (j' := 945) (lv' := [(6, yi z4), (5, yi z1), (4, yi i), (0, .ref 25), (1, .ref 28), (2, .ref 63), (3, .ref 76)]) (st' := [.ref 63]) (hp' := H5) rfl ?_
  refine Y_callP hk rfl (as := [.ref 63]) (rest := []) (v := some (yi z1)) rfl rfl (Nat.le_of_ble_eq_true rfl) (rcv0 m63_H5) (Nat.le_of_ble_eq_true rfl) ((by have e9 := c_X9_thrown (d := 10) m63_H5; rw [t_H5] at e9; exact e9)) ?_
  refine E_run hk 1 (j' := 947) (lv' := [(6, yi z4), (5, yi z1), (4, yi i), (0, .ref 25), (1, .ref 28), (2, .ref 63), (3, .ref 76)]) (st' := [yi z1, yi z1]) (hp' := H5) rfl ?_
  refine Y_ic_h rfl hk rfl ?_
  refine E_run hk 1 (j' := 951) (lv' := [(6, yi z4), (5, yi z1), (4, yi i), (0, .ref 25), (1, .ref 28), (2, .ref 63), (3, .ref 76)]) (st' := [yi z1]) (hp' := H5) rfl ?_
  refine Y_if_ne (a := z1) (by omega) hk rfl (fun g7 => ?_) (fun g7 => ?_)
  ·
    refine E_run hk 1 (j' := 1217) (lv' := [(6, yi z4), (5, yi z1), (4, yi i), (0, .ref 25), (1, .ref 28), (2, .ref 63), (3, .ref 76)]) (st' := []) (hp' := H5) rfl ?_
    exact Ev_le (xle_s rfl rfl (xle_s rfl rfl (xle_s rfl rfl (xle_s rfl rfl (xle_s rfl rfl (xle_z _ rfl)))))) (kk H5 R_H5 rm_H5)
  ·
    refine E_run hk 2 (j' := 954) (lv' := [(6, yi z4), (5, yi z1), (4, yi i), (0, .ref 25), (1, .ref 28), (2, .ref 63), (3, .ref 76)]) (st' := [yi 0, .ref 76]) (hp' := H5) rfl ?_
    obtain ⟨o9_2, o76_2, o0_2⟩ := ou_H5 (by omega)
    refine Y_lald (a := 0) (v := .long ((iN z4).toInt64)) (by omega) (by decide) o0_2 hk rfl o76_2 ?_
    refine E_run hk 2 (j' := 957) (lv' := [(6, yi z4), (5, yi z1), (4, yi i), (0, .ref 25), (1, .ref 28), (2, .ref 63), (3, .ref 76)]) (st' := [.long ((iN z4).toInt64), .long ((iN z4).toInt64)]) (hp' := H5) rfl ?_
    refine Y_lcmp_h rfl hk rfl ?_
    refine Y_if_eq (a := 0) (by omega) hk rfl (fun g8 => ?_) (fun g8 => ?_)
    ·
      refine E_run hk 1 (j' := 1217) (lv' := [(6, yi z4), (5, yi z1), (4, yi i), (0, .ref 25), (1, .ref 28), (2, .ref 63), (3, .ref 76)]) (st' := []) (hp' := H5) rfl ?_
      exact Ev_le (xle_s rfl rfl (xle_s rfl rfl (xle_s rfl rfl (xle_s rfl rfl (xle_s rfl rfl (xle_z _ rfl)))))) (kk H5 R_H5 rm_H5)
    · exfalso; omega
set_option maxRecDepth 100000 in
theorem blk_35 {L : Nat} {F0 : Int → Int} {h : xH} (H : yRel L F0 h) (hF : ∀ q, -2147483648 ≤ F0 q ∧ F0 q ≤ 2147483647) (hL : L ≤ 2048) {i : Int} (hi : 0 ≤ i ∧ i ≤ (L : Int) - 4) {Q : xO → xH → Prop} (kk : ∀ h', yRel L F0 h' → yrm h h' → Ev 11 303 1217 [(4, yi i), (0, .ref 25), (1, .ref 28), (2, .ref 63), (3, .ref 76)] [] h' Q) : Ev 11 303 962 [(4, yi i), (0, .ref 25), (1, .ref 28), (2, .ref 63), (3, .ref 76)] [] h Q := by
  have hk : xtab 303 = (xc_303, 9, 2, []) := rfl
  obtain ⟨v0, S0, T0, N0, X0, B0, A0, Y0, -⟩ := id H
  obtain ⟨od0, a28, -⟩ := A0.1
  have m25 := B0.2.1
  have r1 := hF (i + 1)
  have r2 := hF (i + 2)
  have r3 := hF (i + 3)
  refine E_run hk 4 (j' := 966) (lv' := [(4, yi i), (0, .ref 25), (1, .ref 28), (2, .ref 63), (3, .ref 76)]) (st' := [yi 1, yi i, .ref 25, .ref 28]) (hp' := h) rfl ?_
  refine Y_iadd (a := i) (b := 1) hk rfl ?_
  refine Y_iald (a := (i + 1)) (by omega) (by omega) hk rfl m25 ?_
  refine E_run hk 1 (j' := 969) (lv' := [(4, yi i), (0, .ref 25), (1, .ref 28), (2, .ref 63), (3, .ref 76)]) (st' := [.ref 76, yi (F0 (i + 1)), .ref 28]) (hp' := h) rfl ?_
  refine Y_callE hk rfl (as := [.ref 28, yi (F0 (i + 1)), .ref 76]) (rest := []) rfl rfl (Nat.le_of_ble_eq_true rfl) rfl (Nat.le_of_ble_eq_true rfl) (op_longestStretch H (x0 := (F0 (i + 1))) (by omega)) (fun z1 H2 r3 => ?_)
  obtain ⟨m25_H2, ⟨v_H2, m63_H2⟩, cv_H2⟩ := r3
  refine E_run hk 5 (j' := 975) (lv' := [(5, yi z1), (4, yi i), (0, .ref 25), (1, .ref 28), (2, .ref 63), (3, .ref 76)]) (st' := [yi 1, yi i, .ref 25, .ref 63]) (hp' := H2) rfl ?_
  refine Y_iadd (a := i) (b := 1) hk rfl ?_
  refine Y_iald (a := (i + 1)) (by omega) (by omega) hk rfl m25_H2 ?_
  refine Y_callE hk rfl (as := [.ref 63, yi (F0 (i + 1))]) (rest := []) rfl rfl (Nat.le_of_ble_eq_true rfl) (rcv0 m63_H2) (Nat.le_of_ble_eq_true rfl) (cv_H2) (fun z4 H5 r6 => ?_)
  obtain ⟨R_H5, ⟨v_H5, m63_H5, t_H5⟩, kr_H5, ou_H5, rm_H5⟩ := r6
  refine E_run hk 2 (j' := 980) (lv' := [(6, yi z4), (5, yi z1), (4, yi i), (0, .ref 25), (1, .ref 28), (2, .ref 63), (3, .ref 76)]) (st' := [.ref 63]) (hp' := H5) rfl ?_
  refine Y_callP hk rfl (as := [.ref 63]) (rest := []) (v := some (yi z1)) rfl rfl (Nat.le_of_ble_eq_true rfl) (rcv0 m63_H5) (Nat.le_of_ble_eq_true rfl) ((by have e9 := c_X9_thrown (d := 10) m63_H5; rw [t_H5] at e9; exact e9)) ?_
  refine E_run hk 1 (j' := 982) (lv' := [(6, yi z4), (5, yi z1), (4, yi i), (0, .ref 25), (1, .ref 28), (2, .ref 63), (3, .ref 76)]) (st' := [yi z1, yi z1]) (hp' := H5) rfl ?_
  refine Y_ic_h rfl hk rfl ?_
  refine E_run hk 1 (j' := 986) (lv' := [(6, yi z4), (5, yi z1), (4, yi i), (0, .ref 25), (1, .ref 28), (2, .ref 63), (3, .ref 76)]) (st' := [yi z1]) (hp' := H5) rfl ?_
  refine Y_if_ne (a := z1) (by omega) hk rfl (fun g7 => ?_) (fun g7 => ?_)
  ·
    refine E_run hk 1 (j' := 1217) (lv' := [(6, yi z4), (5, yi z1), (4, yi i), (0, .ref 25), (1, .ref 28), (2, .ref 63), (3, .ref 76)]) (st' := []) (hp' := H5) rfl ?_
    exact Ev_le (xle_s rfl rfl (xle_s rfl rfl (xle_s rfl rfl (xle_s rfl rfl (xle_s rfl rfl (xle_z _ rfl)))))) (kk H5 R_H5 rm_H5)
  ·
    refine E_run hk 2 (j' := 989) (lv' := [(6, yi z4), (5, yi z1), (4, yi i), (0, .ref 25), (1, .ref 28), (2, .ref 63), (3, .ref 76)]) (st' := [yi 0, .ref 76]) (hp' := H5) rfl ?_
    obtain ⟨o9_2, o76_2, o0_2⟩ := ou_H5 (by omega)
    refine Y_lald (a := 0) (v := .long ((iN z4).toInt64)) (by omega) (by decide) o0_2 hk rfl o76_2 ?_
    refine E_run hk 2 (j' := 992) (lv' := [(6, yi z4), (5, yi z1), (4, yi i), (0, .ref 25), (1, .ref 28), (2, .ref 63), (3, .ref 76)]) (st' := [.long ((iN z4).toInt64), .long ((iN z4).toInt64)]) (hp' := H5) rfl ?_
    refine Y_lcmp_h rfl hk rfl ?_
    refine Y_if_eq (a := 0) (by omega) hk rfl (fun g8 => ?_) (fun g8 => ?_)
    ·
      refine E_run hk 1 (j' := 1217) (lv' := [(6, yi z4), (5, yi z1), (4, yi i), (0, .ref 25), (1, .ref 28), (2, .ref 63), (3, .ref 76)]) (st' := []) (hp' := H5) rfl ?_
      exact Ev_le (xle_s rfl rfl (xle_s rfl rfl (xle_s rfl rfl (xle_s rfl rfl (xle_s rfl rfl (xle_z _ rfl)))))) (kk H5 R_H5 rm_H5)
    · exfalso; omega
set_option maxRecDepth 100000 in
theorem blk_36 {L : Nat} {F0 : Int → Int} {h : xH} (H : yRel L F0 h) (hF : ∀ q, -2147483648 ≤ F0 q ∧ F0 q ≤ 2147483647) (hL : L ≤ 2048) {i : Int} (hi : 0 ≤ i ∧ i ≤ (L : Int) - 4) {Q : xO → xH → Prop} (kk : ∀ h', yRel L F0 h' → yrm h h' → Ev 11 303 1217 [(4, yi i), (0, .ref 25), (1, .ref 28), (2, .ref 63), (3, .ref 76)] [] h' Q) : Ev 11 303 997 [(4, yi i), (0, .ref 25), (1, .ref 28), (2, .ref 63), (3, .ref 76)] [] h Q := by
  have hk : xtab 303 = (xc_303, 9, 2, []) := rfl
  obtain ⟨v0, S0, T0, N0, X0, B0, A0, Y0, -⟩ := id H
  obtain ⟨od0, a28, -⟩ := A0.1
  have m25 := B0.2.1
  have r1 := hF (i + 1)
  have r2 := hF (i + 2)
  have r3 := hF (i + 3)
  refine E_run hk 1 (j' := 998) (lv' := [(4, yi i), (0, .ref 25), (1, .ref 28), (2, .ref 63), (3, .ref 76)]) (st' := [.ref 28]) (hp' := h) rfl ?_
  refine Y_callE hk rfl (as := [.ref 28]) (rest := []) rfl rfl (Nat.le_of_ble_eq_true rfl) (rcv0 a28) (Nat.le_of_ble_eq_true rfl) (op_holds H ) (fun z1 H2 r3 => ?_)
  obtain ⟨m25_H2, ⟨v_H2, m63_H2⟩, cv_H2⟩ := r3
  refine E_run hk 1 (j' := 1000) (lv' := [(4, yi i), (0, .ref 25), (1, .ref 28), (2, .ref 63), (3, .ref 76)]) (st' := [.ref 63, yi z1]) (hp' := H2) rfl ?_
  refine Y_callE hk rfl (as := [.ref 63]) (rest := [yi z1]) rfl rfl (Nat.le_of_ble_eq_true rfl) (rcv0 m63_H2) (Nat.le_of_ble_eq_true rfl) (cv_H2) (fun z4 H5 r6 => ?_)
  obtain ⟨R_H5, eq_H5, rm_H5⟩ := r6
  refine Y_ic_h eq_H5.symm hk rfl ?_
  exact Ev_le (xle_s rfl rfl (xle_s rfl rfl (xle_s rfl rfl (xle_s rfl rfl (xle_s rfl rfl (xle_z _ rfl)))))) (kk H5 R_H5 rm_H5)
set_option maxRecDepth 100000 in
theorem blk_37 {L : Nat} {F0 : Int → Int} {h : xH} (H : yRel L F0 h) (hF : ∀ q, -2147483648 ≤ F0 q ∧ F0 q ≤ 2147483647) (hL : L ≤ 2048) {i : Int} (hi : 0 ≤ i ∧ i ≤ (L : Int) - 4) {Q : xO → xH → Prop} (kk : ∀ h', yRel L F0 h' → yrm h h' → Ev 11 303 1217 [(4, yi i), (0, .ref 25), (1, .ref 28), (2, .ref 63), (3, .ref 76)] [] h' Q) : Ev 11 303 1004 [(4, yi i), (0, .ref 25), (1, .ref 28), (2, .ref 63), (3, .ref 76)] [] h Q := by
  have hk : xtab 303 = (xc_303, 9, 2, []) := rfl
  obtain ⟨v0, S0, T0, N0, X0, B0, A0, Y0, -⟩ := id H
  obtain ⟨od0, a28, -⟩ := A0.1
  have m25 := B0.2.1
  have r1 := hF (i + 1)
  have r2 := hF (i + 2)
  have r3 := hF (i + 3)
  refine E_run hk 1 (j' := 1005) (lv' := [(4, yi i), (0, .ref 25), (1, .ref 28), (2, .ref 63), (3, .ref 76)]) (st' := [.ref 28]) (hp' := h) rfl ?_
  refine Y_callE hk rfl (as := [.ref 28]) (rest := []) rfl rfl (Nat.le_of_ble_eq_true rfl) (rcv0 a28) (Nat.le_of_ble_eq_true rfl) (op_bestMatches H ) (fun z1 H2 r3 => ?_)
  obtain ⟨m25_H2, ⟨v_H2, m63_H2⟩, cv_H2⟩ := r3
  refine E_run hk 1 (j' := 1007) (lv' := [(4, yi i), (0, .ref 25), (1, .ref 28), (2, .ref 63), (3, .ref 76)]) (st' := [.ref 63, yi z1]) (hp' := H2) rfl ?_
  refine Y_callE hk rfl (as := [.ref 63]) (rest := [yi z1]) rfl rfl (Nat.le_of_ble_eq_true rfl) (rcv0 m63_H2) (Nat.le_of_ble_eq_true rfl) (cv_H2) (fun z4 H5 r6 => ?_)
  obtain ⟨R_H5, eq_H5, rm_H5⟩ := r6
  refine Y_ic_h eq_H5.symm hk rfl ?_
  exact Ev_le (xle_s rfl rfl (xle_s rfl rfl (xle_s rfl rfl (xle_s rfl rfl (xle_s rfl rfl (xle_z _ rfl)))))) (kk H5 R_H5 rm_H5)
set_option maxRecDepth 100000 in
theorem blk_38 {L : Nat} {F0 : Int → Int} {h : xH} (H : yRel L F0 h) (hF : ∀ q, -2147483648 ≤ F0 q ∧ F0 q ≤ 2147483647) (hL : L ≤ 2048) {i : Int} (hi : 0 ≤ i ∧ i ≤ (L : Int) - 4) {Q : xO → xH → Prop} (kk : ∀ h', yRel L F0 h' → yrm h h' → Ev 11 303 1217 [(4, yi i), (0, .ref 25), (1, .ref 28), (2, .ref 63), (3, .ref 76)] [] h' Q) : Ev 11 303 1011 [(4, yi i), (0, .ref 25), (1, .ref 28), (2, .ref 63), (3, .ref 76)] [] h Q := by
  have hk : xtab 303 = (xc_303, 9, 2, []) := rfl
  obtain ⟨v0, S0, T0, N0, X0, B0, A0, Y0, -⟩ := id H
  obtain ⟨od0, a28, -⟩ := A0.1
  have m25 := B0.2.1
  have r1 := hF (i + 1)
  have r2 := hF (i + 2)
  have r3 := hF (i + 3)
  refine E_run hk 2 (j' := 1013) (lv' := [(4, yi i), (0, .ref 25), (1, .ref 28), (2, .ref 63), (3, .ref 76)]) (st' := [.ref 76, .ref 28]) (hp' := h) rfl ?_
  refine Y_callE hk rfl (as := [.ref 28, .ref 76]) (rest := []) rfl rfl (Nat.le_of_ble_eq_true rfl) rfl (Nat.le_of_ble_eq_true rfl) (op_partCost H ) (fun z1 H2 r3 => ?_)
  obtain ⟨m25_H2, ⟨v_H2, m63_H2⟩, cv_H2⟩ := r3
  refine E_run hk 2 (j' := 1016) (lv' := [(5, yi z1), (4, yi i), (0, .ref 25), (1, .ref 28), (2, .ref 63), (3, .ref 76)]) (st' := [.ref 63]) (hp' := H2) rfl ?_
  refine Y_callE hk rfl (as := [.ref 63]) (rest := []) rfl rfl (Nat.le_of_ble_eq_true rfl) (rcv0 m63_H2) (Nat.le_of_ble_eq_true rfl) (cv_H2) (fun z4 H5 r6 => ?_)
  obtain ⟨R_H5, ⟨v_H5, m63_H5, t_H5⟩, kr_H5, ou_H5, rm_H5⟩ := r6
  refine E_run hk 2 (j' := 1019) (lv' := [(6, yi z4), (5, yi z1), (4, yi i), (0, .ref 25), (1, .ref 28), (2, .ref 63), (3, .ref 76)]) (st' := [.ref 63]) (hp' := H5) rfl ?_
  refine Y_callP hk rfl (as := [.ref 63]) (rest := []) (v := some (yi z1)) rfl rfl (Nat.le_of_ble_eq_true rfl) (rcv0 m63_H5) (Nat.le_of_ble_eq_true rfl) ((by have e9 := c_X9_thrown (d := 10) m63_H5; rw [t_H5] at e9; exact e9)) ?_
  refine E_run hk 1 (j' := 1021) (lv' := [(6, yi z4), (5, yi z1), (4, yi i), (0, .ref 25), (1, .ref 28), (2, .ref 63), (3, .ref 76)]) (st' := [yi z1, yi z1]) (hp' := H5) rfl ?_
  refine Y_ic_h rfl hk rfl ?_
  refine E_run hk 1 (j' := 1025) (lv' := [(6, yi z4), (5, yi z1), (4, yi i), (0, .ref 25), (1, .ref 28), (2, .ref 63), (3, .ref 76)]) (st' := [yi z1]) (hp' := H5) rfl ?_
  refine Y_if_ne (a := z1) (by omega) hk rfl (fun g7 => ?_) (fun g7 => ?_)
  ·
    refine E_run hk 1 (j' := 1217) (lv' := [(6, yi z4), (5, yi z1), (4, yi i), (0, .ref 25), (1, .ref 28), (2, .ref 63), (3, .ref 76)]) (st' := []) (hp' := H5) rfl ?_
    exact Ev_le (xle_s rfl rfl (xle_s rfl rfl (xle_s rfl rfl (xle_s rfl rfl (xle_s rfl rfl (xle_z _ rfl)))))) (kk H5 R_H5 rm_H5)
  ·
    refine E_run hk 2 (j' := 1028) (lv' := [(6, yi z4), (5, yi z1), (4, yi i), (0, .ref 25), (1, .ref 28), (2, .ref 63), (3, .ref 76)]) (st' := [yi 0, .ref 76]) (hp' := H5) rfl ?_
    obtain ⟨o9_2, o76_2, o0_2⟩ := ou_H5 (by omega)
    refine Y_lald (a := 0) (v := .long ((iN z4).toInt64)) (by omega) (by decide) o0_2 hk rfl o76_2 ?_
    refine E_run hk 2 (j' := 1031) (lv' := [(6, yi z4), (5, yi z1), (4, yi i), (0, .ref 25), (1, .ref 28), (2, .ref 63), (3, .ref 76)]) (st' := [.long ((iN z4).toInt64), .long ((iN z4).toInt64)]) (hp' := H5) rfl ?_
    refine Y_lcmp_h rfl hk rfl ?_
    refine Y_if_eq (a := 0) (by omega) hk rfl (fun g8 => ?_) (fun g8 => ?_)
    ·
      refine E_run hk 1 (j' := 1217) (lv' := [(6, yi z4), (5, yi z1), (4, yi i), (0, .ref 25), (1, .ref 28), (2, .ref 63), (3, .ref 76)]) (st' := []) (hp' := H5) rfl ?_
      exact Ev_le (xle_s rfl rfl (xle_s rfl rfl (xle_s rfl rfl (xle_s rfl rfl (xle_s rfl rfl (xle_z _ rfl)))))) (kk H5 R_H5 rm_H5)
    · exfalso; omega
set_option maxRecDepth 100000 in
theorem blk_39 {L : Nat} {F0 : Int → Int} {h : xH} (H : yRel L F0 h) (hF : ∀ q, -2147483648 ≤ F0 q ∧ F0 q ≤ 2147483647) (hL : L ≤ 2048) {i : Int} (hi : 0 ≤ i ∧ i ≤ (L : Int) - 4) {Q : xO → xH → Prop} (kk : ∀ h', yRel L F0 h' → yrm h h' → Ev 11 303 1217 [(4, yi i), (0, .ref 25), (1, .ref 28), (2, .ref 63), (3, .ref 76)] [] h' Q) : Ev 11 303 1036 [(4, yi i), (0, .ref 25), (1, .ref 28), (2, .ref 63), (3, .ref 76)] [] h Q := by
  have hk : xtab 303 = (xc_303, 9, 2, []) := rfl
  obtain ⟨v0, S0, T0, N0, X0, B0, A0, Y0, -⟩ := id H
  obtain ⟨od0, a28, -⟩ := A0.1
  have m25 := B0.2.1
  have r1 := hF (i + 1)
  have r2 := hF (i + 2)
  have r3 := hF (i + 3)
  refine E_run hk 2 (j' := 1038) (lv' := [(4, yi i), (0, .ref 25), (1, .ref 28), (2, .ref 63), (3, .ref 76)]) (st' := [.ref 76, .ref 28]) (hp' := h) rfl ?_
  refine Y_callE hk rfl (as := [.ref 28, .ref 76]) (rest := []) rfl rfl (Nat.le_of_ble_eq_true rfl) rfl (Nat.le_of_ble_eq_true rfl) (op_partBegin H ) (fun z1 H2 r3 => ?_)
  obtain ⟨m25_H2, ⟨v_H2, m63_H2⟩, cv_H2⟩ := r3
  refine E_run hk 2 (j' := 1041) (lv' := [(5, yi z1), (4, yi i), (0, .ref 25), (1, .ref 28), (2, .ref 63), (3, .ref 76)]) (st' := [.ref 63]) (hp' := H2) rfl ?_
  refine Y_callE hk rfl (as := [.ref 63]) (rest := []) rfl rfl (Nat.le_of_ble_eq_true rfl) (rcv0 m63_H2) (Nat.le_of_ble_eq_true rfl) (cv_H2) (fun z4 H5 r6 => ?_)
  obtain ⟨R_H5, ⟨v_H5, m63_H5, t_H5⟩, kr_H5, ou_H5, rm_H5⟩ := r6
  refine E_run hk 2 (j' := 1044) (lv' := [(6, yi z4), (5, yi z1), (4, yi i), (0, .ref 25), (1, .ref 28), (2, .ref 63), (3, .ref 76)]) (st' := [.ref 63]) (hp' := H5) rfl ?_
  refine Y_callP hk rfl (as := [.ref 63]) (rest := []) (v := some (yi z1)) rfl rfl (Nat.le_of_ble_eq_true rfl) (rcv0 m63_H5) (Nat.le_of_ble_eq_true rfl) ((by have e9 := c_X9_thrown (d := 10) m63_H5; rw [t_H5] at e9; exact e9)) ?_
  refine E_run hk 1 (j' := 1046) (lv' := [(6, yi z4), (5, yi z1), (4, yi i), (0, .ref 25), (1, .ref 28), (2, .ref 63), (3, .ref 76)]) (st' := [yi z1, yi z1]) (hp' := H5) rfl ?_
  refine Y_ic_h rfl hk rfl ?_
  refine E_run hk 1 (j' := 1050) (lv' := [(6, yi z4), (5, yi z1), (4, yi i), (0, .ref 25), (1, .ref 28), (2, .ref 63), (3, .ref 76)]) (st' := [yi z1]) (hp' := H5) rfl ?_
  refine Y_if_ne (a := z1) (by omega) hk rfl (fun g7 => ?_) (fun g7 => ?_)
  ·
    refine E_run hk 1 (j' := 1217) (lv' := [(6, yi z4), (5, yi z1), (4, yi i), (0, .ref 25), (1, .ref 28), (2, .ref 63), (3, .ref 76)]) (st' := []) (hp' := H5) rfl ?_
    exact Ev_le (xle_s rfl rfl (xle_s rfl rfl (xle_s rfl rfl (xle_s rfl rfl (xle_s rfl rfl (xle_z _ rfl)))))) (kk H5 R_H5 rm_H5)
  ·
    refine E_run hk 2 (j' := 1053) (lv' := [(6, yi z4), (5, yi z1), (4, yi i), (0, .ref 25), (1, .ref 28), (2, .ref 63), (3, .ref 76)]) (st' := [yi 0, .ref 76]) (hp' := H5) rfl ?_
    obtain ⟨o9_2, o76_2, o0_2⟩ := ou_H5 (by omega)
    refine Y_lald (a := 0) (v := .long ((iN z4).toInt64)) (by omega) (by decide) o0_2 hk rfl o76_2 ?_
    refine E_run hk 2 (j' := 1056) (lv' := [(6, yi z4), (5, yi z1), (4, yi i), (0, .ref 25), (1, .ref 28), (2, .ref 63), (3, .ref 76)]) (st' := [.long ((iN z4).toInt64), .long ((iN z4).toInt64)]) (hp' := H5) rfl ?_
    refine Y_lcmp_h rfl hk rfl ?_
    refine Y_if_eq (a := 0) (by omega) hk rfl (fun g8 => ?_) (fun g8 => ?_)
    ·
      refine E_run hk 1 (j' := 1217) (lv' := [(6, yi z4), (5, yi z1), (4, yi i), (0, .ref 25), (1, .ref 28), (2, .ref 63), (3, .ref 76)]) (st' := []) (hp' := H5) rfl ?_
      exact Ev_le (xle_s rfl rfl (xle_s rfl rfl (xle_s rfl rfl (xle_s rfl rfl (xle_s rfl rfl (xle_z _ rfl)))))) (kk H5 R_H5 rm_H5)
    · exfalso; omega
set_option maxRecDepth 100000 in
theorem blk_40 {L : Nat} {F0 : Int → Int} {h : xH} (H : yRel L F0 h) (hF : ∀ q, -2147483648 ≤ F0 q ∧ F0 q ≤ 2147483647) (hL : L ≤ 2048) {i : Int} (hi : 0 ≤ i ∧ i ≤ (L : Int) - 4) {Q : xO → xH → Prop} (kk : ∀ h', yRel L F0 h' → yrm h h' → Ev 11 303 1217 [(4, yi i), (0, .ref 25), (1, .ref 28), (2, .ref 63), (3, .ref 76)] [] h' Q) : Ev 11 303 1061 [(4, yi i), (0, .ref 25), (1, .ref 28), (2, .ref 63), (3, .ref 76)] [] h Q := by
  have hk : xtab 303 = (xc_303, 9, 2, []) := rfl
  obtain ⟨v0, S0, T0, N0, X0, B0, A0, Y0, -⟩ := id H
  obtain ⟨od0, a28, -⟩ := A0.1
  have m25 := B0.2.1
  have r1 := hF (i + 1)
  have r2 := hF (i + 2)
  have r3 := hF (i + 3)
  refine E_run hk 2 (j' := 1063) (lv' := [(4, yi i), (0, .ref 25), (1, .ref 28), (2, .ref 63), (3, .ref 76)]) (st' := [.ref 76, .ref 28]) (hp' := h) rfl ?_
  refine Y_callE hk rfl (as := [.ref 28, .ref 76]) (rest := []) rfl rfl (Nat.le_of_ble_eq_true rfl) rfl (Nat.le_of_ble_eq_true rfl) (op_partEnd H ) (fun z1 H2 r3 => ?_)
  obtain ⟨m25_H2, ⟨v_H2, m63_H2⟩, cv_H2⟩ := r3
  refine E_run hk 2 (j' := 1066) (lv' := [(5, yi z1), (4, yi i), (0, .ref 25), (1, .ref 28), (2, .ref 63), (3, .ref 76)]) (st' := [.ref 63]) (hp' := H2) rfl ?_
  refine Y_callE hk rfl (as := [.ref 63]) (rest := []) rfl rfl (Nat.le_of_ble_eq_true rfl) (rcv0 m63_H2) (Nat.le_of_ble_eq_true rfl) (cv_H2) (fun z4 H5 r6 => ?_)
  obtain ⟨R_H5, ⟨v_H5, m63_H5, t_H5⟩, kr_H5, ou_H5, rm_H5⟩ := r6
  refine E_run hk 2 (j' := 1069) (lv' := [(6, yi z4), (5, yi z1), (4, yi i), (0, .ref 25), (1, .ref 28), (2, .ref 63), (3, .ref 76)]) (st' := [.ref 63]) (hp' := H5) rfl ?_
  refine Y_callP hk rfl (as := [.ref 63]) (rest := []) (v := some (yi z1)) rfl rfl (Nat.le_of_ble_eq_true rfl) (rcv0 m63_H5) (Nat.le_of_ble_eq_true rfl) ((by have e9 := c_X9_thrown (d := 10) m63_H5; rw [t_H5] at e9; exact e9)) ?_
  refine E_run hk 1 (j' := 1071) (lv' := [(6, yi z4), (5, yi z1), (4, yi i), (0, .ref 25), (1, .ref 28), (2, .ref 63), (3, .ref 76)]) (st' := [yi z1, yi z1]) (hp' := H5) rfl ?_
  refine Y_ic_h rfl hk rfl ?_
  refine E_run hk 1 (j' := 1075) (lv' := [(6, yi z4), (5, yi z1), (4, yi i), (0, .ref 25), (1, .ref 28), (2, .ref 63), (3, .ref 76)]) (st' := [yi z1]) (hp' := H5) rfl ?_
  refine Y_if_ne (a := z1) (by omega) hk rfl (fun g7 => ?_) (fun g7 => ?_)
  ·
    refine E_run hk 1 (j' := 1217) (lv' := [(6, yi z4), (5, yi z1), (4, yi i), (0, .ref 25), (1, .ref 28), (2, .ref 63), (3, .ref 76)]) (st' := []) (hp' := H5) rfl ?_
    exact Ev_le (xle_s rfl rfl (xle_s rfl rfl (xle_s rfl rfl (xle_s rfl rfl (xle_s rfl rfl (xle_z _ rfl)))))) (kk H5 R_H5 rm_H5)
  ·
    refine E_run hk 2 (j' := 1078) (lv' := [(6, yi z4), (5, yi z1), (4, yi i), (0, .ref 25), (1, .ref 28), (2, .ref 63), (3, .ref 76)]) (st' := [yi 0, .ref 76]) (hp' := H5) rfl ?_
    obtain ⟨o9_2, o76_2, o0_2⟩ := ou_H5 (by omega)
    refine Y_lald (a := 0) (v := .long ((iN z4).toInt64)) (by omega) (by decide) o0_2 hk rfl o76_2 ?_
    refine E_run hk 2 (j' := 1081) (lv' := [(6, yi z4), (5, yi z1), (4, yi i), (0, .ref 25), (1, .ref 28), (2, .ref 63), (3, .ref 76)]) (st' := [.long ((iN z4).toInt64), .long ((iN z4).toInt64)]) (hp' := H5) rfl ?_
    refine Y_lcmp_h rfl hk rfl ?_
    refine Y_if_eq (a := 0) (by omega) hk rfl (fun g8 => ?_) (fun g8 => ?_)
    ·
      refine E_run hk 1 (j' := 1217) (lv' := [(6, yi z4), (5, yi z1), (4, yi i), (0, .ref 25), (1, .ref 28), (2, .ref 63), (3, .ref 76)]) (st' := []) (hp' := H5) rfl ?_
      exact Ev_le (xle_s rfl rfl (xle_s rfl rfl (xle_s rfl rfl (xle_s rfl rfl (xle_s rfl rfl (xle_z _ rfl)))))) (kk H5 R_H5 rm_H5)
    · exfalso; omega
set_option maxRecDepth 100000 in
theorem blk_41 {L : Nat} {F0 : Int → Int} {h : xH} (H : yRel L F0 h) (hF : ∀ q, -2147483648 ≤ F0 q ∧ F0 q ≤ 2147483647) (hL : L ≤ 2048) {i : Int} (hi : 0 ≤ i ∧ i ≤ (L : Int) - 4) {Q : xO → xH → Prop} (kk : ∀ h', yRel L F0 h' → yrm h h' → Ev 11 303 1217 [(4, yi i), (0, .ref 25), (1, .ref 28), (2, .ref 63), (3, .ref 76)] [] h' Q) : Ev 11 303 1086 [(4, yi i), (0, .ref 25), (1, .ref 28), (2, .ref 63), (3, .ref 76)] [] h Q := by
  have hk : xtab 303 = (xc_303, 9, 2, []) := rfl
  obtain ⟨v0, S0, T0, N0, X0, B0, A0, Y0, -⟩ := id H
  obtain ⟨od0, a28, -⟩ := A0.1
  have m25 := B0.2.1
  have r1 := hF (i + 1)
  have r2 := hF (i + 2)
  have r3 := hF (i + 3)
  refine E_run hk 4 (j' := 1090) (lv' := [(4, yi i), (0, .ref 25), (1, .ref 28), (2, .ref 63), (3, .ref 76)]) (st' := [yi 1, yi i, .ref 25, .ref 28]) (hp' := h) rfl ?_
  refine Y_iadd (a := i) (b := 1) hk rfl ?_
  refine Y_iald (a := (i + 1)) (by omega) (by omega) hk rfl m25 ?_
  refine E_run hk 1 (j' := 1093) (lv' := [(4, yi i), (0, .ref 25), (1, .ref 28), (2, .ref 63), (3, .ref 76)]) (st' := [.ref 76, yi (F0 (i + 1)), .ref 28]) (hp' := h) rfl ?_
  refine Y_callE hk rfl (as := [.ref 28, yi (F0 (i + 1)), .ref 76]) (rest := []) rfl rfl (Nat.le_of_ble_eq_true rfl) rfl (Nat.le_of_ble_eq_true rfl) (op_costWithShift H (x0 := (F0 (i + 1))) (by omega)) (fun z1 H2 r3 => ?_)
  obtain ⟨m25_H2, ⟨v_H2, m63_H2⟩, cv_H2⟩ := r3
  refine E_run hk 5 (j' := 1099) (lv' := [(5, yi z1), (4, yi i), (0, .ref 25), (1, .ref 28), (2, .ref 63), (3, .ref 76)]) (st' := [yi 1, yi i, .ref 25, .ref 63]) (hp' := H2) rfl ?_
  refine Y_iadd (a := i) (b := 1) hk rfl ?_
  refine Y_iald (a := (i + 1)) (by omega) (by omega) hk rfl m25_H2 ?_
  refine Y_callE hk rfl (as := [.ref 63, yi (F0 (i + 1))]) (rest := []) rfl rfl (Nat.le_of_ble_eq_true rfl) (rcv0 m63_H2) (Nat.le_of_ble_eq_true rfl) (cv_H2) (fun z4 H5 r6 => ?_)
  obtain ⟨R_H5, ⟨v_H5, m63_H5, t_H5⟩, kr_H5, ou_H5, rm_H5⟩ := r6
  refine E_run hk 2 (j' := 1104) (lv' := [(6, yi z4), (5, yi z1), (4, yi i), (0, .ref 25), (1, .ref 28), (2, .ref 63), (3, .ref 76)]) (st' := [.ref 63]) (hp' := H5) rfl ?_
  refine Y_callP hk rfl (as := [.ref 63]) (rest := []) (v := some (yi z1)) rfl rfl (Nat.le_of_ble_eq_true rfl) (rcv0 m63_H5) (Nat.le_of_ble_eq_true rfl) ((by have e9 := c_X9_thrown (d := 10) m63_H5; rw [t_H5] at e9; exact e9)) ?_
  refine E_run hk 1 (j' := 1106) (lv' := [(6, yi z4), (5, yi z1), (4, yi i), (0, .ref 25), (1, .ref 28), (2, .ref 63), (3, .ref 76)]) (st' := [yi z1, yi z1]) (hp' := H5) rfl ?_
  refine Y_ic_h rfl hk rfl ?_
  refine E_run hk 1 (j' := 1110) (lv' := [(6, yi z4), (5, yi z1), (4, yi i), (0, .ref 25), (1, .ref 28), (2, .ref 63), (3, .ref 76)]) (st' := [yi z1]) (hp' := H5) rfl ?_
  refine Y_if_ne (a := z1) (by omega) hk rfl (fun g7 => ?_) (fun g7 => ?_)
  ·
    refine E_run hk 1 (j' := 1217) (lv' := [(6, yi z4), (5, yi z1), (4, yi i), (0, .ref 25), (1, .ref 28), (2, .ref 63), (3, .ref 76)]) (st' := []) (hp' := H5) rfl ?_
    exact Ev_le (xle_s rfl rfl (xle_s rfl rfl (xle_s rfl rfl (xle_s rfl rfl (xle_s rfl rfl (xle_z _ rfl)))))) (kk H5 R_H5 rm_H5)
  ·
    refine E_run hk 2 (j' := 1113) (lv' := [(6, yi z4), (5, yi z1), (4, yi i), (0, .ref 25), (1, .ref 28), (2, .ref 63), (3, .ref 76)]) (st' := [yi 0, .ref 76]) (hp' := H5) rfl ?_
    obtain ⟨o9_2, o76_2, o0_2⟩ := ou_H5 (by omega)
    refine Y_lald (a := 0) (v := .long ((iN z4).toInt64)) (by omega) (by decide) o0_2 hk rfl o76_2 ?_
    refine E_run hk 2 (j' := 1116) (lv' := [(6, yi z4), (5, yi z1), (4, yi i), (0, .ref 25), (1, .ref 28), (2, .ref 63), (3, .ref 76)]) (st' := [.long ((iN z4).toInt64), .long ((iN z4).toInt64)]) (hp' := H5) rfl ?_
    refine Y_lcmp_h rfl hk rfl ?_
    refine Y_if_eq (a := 0) (by omega) hk rfl (fun g8 => ?_) (fun g8 => ?_)
    ·
      refine E_run hk 1 (j' := 1217) (lv' := [(6, yi z4), (5, yi z1), (4, yi i), (0, .ref 25), (1, .ref 28), (2, .ref 63), (3, .ref 76)]) (st' := []) (hp' := H5) rfl ?_
      exact Ev_le (xle_s rfl rfl (xle_s rfl rfl (xle_s rfl rfl (xle_s rfl rfl (xle_s rfl rfl (xle_z _ rfl)))))) (kk H5 R_H5 rm_H5)
    · exfalso; omega
set_option maxRecDepth 100000 in
theorem blk_42 {L : Nat} {F0 : Int → Int} {h : xH} (H : yRel L F0 h) (hF : ∀ q, -2147483648 ≤ F0 q ∧ F0 q ≤ 2147483647) (hL : L ≤ 2048) {i : Int} (hi : 0 ≤ i ∧ i ≤ (L : Int) - 4) {Q : xO → xH → Prop} (kk : ∀ h', yRel L F0 h' → yrm h h' → Ev 11 303 1217 [(4, yi i), (0, .ref 25), (1, .ref 28), (2, .ref 63), (3, .ref 76)] [] h' Q) : Ev 11 303 1121 [(4, yi i), (0, .ref 25), (1, .ref 28), (2, .ref 63), (3, .ref 76)] [] h Q := by
  have hk : xtab 303 = (xc_303, 9, 2, []) := rfl
  obtain ⟨v0, S0, T0, N0, X0, B0, A0, Y0, -⟩ := id H
  obtain ⟨od0, a28, -⟩ := A0.1
  have m25 := B0.2.1
  have r1 := hF (i + 1)
  have r2 := hF (i + 2)
  have r3 := hF (i + 3)
  refine E_run hk 2 (j' := 1123) (lv' := [(4, yi i), (0, .ref 25), (1, .ref 28), (2, .ref 63), (3, .ref 76)]) (st' := [.ref 76, .ref 28]) (hp' := h) rfl ?_
  refine Y_callE hk rfl (as := [.ref 28, .ref 76]) (rest := []) rfl rfl (Nat.le_of_ble_eq_true rfl) rfl (Nat.le_of_ble_eq_true rfl) (op_bestShift H ) (fun z1 H2 r3 => ?_)
  obtain ⟨m25_H2, ⟨v_H2, m63_H2⟩, cv_H2⟩ := r3
  refine E_run hk 2 (j' := 1126) (lv' := [(5, yi z1), (4, yi i), (0, .ref 25), (1, .ref 28), (2, .ref 63), (3, .ref 76)]) (st' := [.ref 63]) (hp' := H2) rfl ?_
  refine Y_callE hk rfl (as := [.ref 63]) (rest := []) rfl rfl (Nat.le_of_ble_eq_true rfl) (rcv0 m63_H2) (Nat.le_of_ble_eq_true rfl) (cv_H2) (fun z4 H5 r6 => ?_)
  obtain ⟨R_H5, ⟨v_H5, m63_H5, t_H5⟩, kr_H5, ou_H5, rm_H5⟩ := r6
  refine E_run hk 2 (j' := 1129) (lv' := [(6, yi z4), (5, yi z1), (4, yi i), (0, .ref 25), (1, .ref 28), (2, .ref 63), (3, .ref 76)]) (st' := [.ref 63]) (hp' := H5) rfl ?_
  refine Y_callP hk rfl (as := [.ref 63]) (rest := []) (v := some (yi z1)) rfl rfl (Nat.le_of_ble_eq_true rfl) (rcv0 m63_H5) (Nat.le_of_ble_eq_true rfl) ((by have e9 := c_X9_thrown (d := 10) m63_H5; rw [t_H5] at e9; exact e9)) ?_
  refine E_run hk 1 (j' := 1131) (lv' := [(6, yi z4), (5, yi z1), (4, yi i), (0, .ref 25), (1, .ref 28), (2, .ref 63), (3, .ref 76)]) (st' := [yi z1, yi z1]) (hp' := H5) rfl ?_
  refine Y_ic_h rfl hk rfl ?_
  refine E_run hk 1 (j' := 1135) (lv' := [(6, yi z4), (5, yi z1), (4, yi i), (0, .ref 25), (1, .ref 28), (2, .ref 63), (3, .ref 76)]) (st' := [yi z1]) (hp' := H5) rfl ?_
  refine Y_if_ne (a := z1) (by omega) hk rfl (fun g7 => ?_) (fun g7 => ?_)
  ·
    refine E_run hk 1 (j' := 1217) (lv' := [(6, yi z4), (5, yi z1), (4, yi i), (0, .ref 25), (1, .ref 28), (2, .ref 63), (3, .ref 76)]) (st' := []) (hp' := H5) rfl ?_
    exact Ev_le (xle_s rfl rfl (xle_s rfl rfl (xle_s rfl rfl (xle_s rfl rfl (xle_s rfl rfl (xle_z _ rfl)))))) (kk H5 R_H5 rm_H5)
  ·
    refine E_run hk 2 (j' := 1138) (lv' := [(6, yi z4), (5, yi z1), (4, yi i), (0, .ref 25), (1, .ref 28), (2, .ref 63), (3, .ref 76)]) (st' := [yi 0, .ref 76]) (hp' := H5) rfl ?_
    obtain ⟨o9_2, o76_2, o0_2⟩ := ou_H5 (by omega)
    refine Y_lald (a := 0) (v := .long ((iN z4).toInt64)) (by omega) (by decide) o0_2 hk rfl o76_2 ?_
    refine E_run hk 2 (j' := 1141) (lv' := [(6, yi z4), (5, yi z1), (4, yi i), (0, .ref 25), (1, .ref 28), (2, .ref 63), (3, .ref 76)]) (st' := [.long ((iN z4).toInt64), .long ((iN z4).toInt64)]) (hp' := H5) rfl ?_
    refine Y_lcmp_h rfl hk rfl ?_
    refine Y_if_eq (a := 0) (by omega) hk rfl (fun g8 => ?_) (fun g8 => ?_)
    ·
      refine E_run hk 1 (j' := 1217) (lv' := [(6, yi z4), (5, yi z1), (4, yi i), (0, .ref 25), (1, .ref 28), (2, .ref 63), (3, .ref 76)]) (st' := []) (hp' := H5) rfl ?_
      exact Ev_le (xle_s rfl rfl (xle_s rfl rfl (xle_s rfl rfl (xle_s rfl rfl (xle_s rfl rfl (xle_z _ rfl)))))) (kk H5 R_H5 rm_H5)
    · exfalso; omega
set_option maxRecDepth 100000 in
theorem blk_43 {L : Nat} {F0 : Int → Int} {h : xH} (H : yRel L F0 h) (hF : ∀ q, -2147483648 ≤ F0 q ∧ F0 q ≤ 2147483647) (hL : L ≤ 2048) {i : Int} (hi : 0 ≤ i ∧ i ≤ (L : Int) - 4) {Q : xO → xH → Prop} (kk : ∀ h', yRel L F0 h' → yrm h h' → Ev 11 303 1217 [(4, yi i), (0, .ref 25), (1, .ref 28), (2, .ref 63), (3, .ref 76)] [] h' Q) : Ev 11 303 1146 [(4, yi i), (0, .ref 25), (1, .ref 28), (2, .ref 63), (3, .ref 76)] [] h Q := by
  have hk : xtab 303 = (xc_303, 9, 2, []) := rfl
  obtain ⟨v0, S0, T0, N0, X0, B0, A0, Y0, -⟩ := id H
  obtain ⟨od0, a28, -⟩ := A0.1
  have m25 := B0.2.1
  have r1 := hF (i + 1)
  have r2 := hF (i + 2)
  have r3 := hF (i + 3)
  refine E_run hk 4 (j' := 1150) (lv' := [(4, yi i), (0, .ref 25), (1, .ref 28), (2, .ref 63), (3, .ref 76)]) (st' := [yi 1, yi i, .ref 25, .ref 28]) (hp' := h) rfl ?_
  refine Y_iadd (a := i) (b := 1) hk rfl ?_
  refine Y_iald (a := (i + 1)) (by omega) (by omega) hk rfl m25 ?_
  refine E_run hk 1 (j' := 1153) (lv' := [(4, yi i), (0, .ref 25), (1, .ref 28), (2, .ref 63), (3, .ref 76)]) (st' := [.ref 76, yi (F0 (i + 1)), .ref 28]) (hp' := h) rfl ?_
  refine Y_callE hk rfl (as := [.ref 28, yi (F0 (i + 1)), .ref 76]) (rest := []) rfl rfl (Nat.le_of_ble_eq_true rfl) rfl (Nat.le_of_ble_eq_true rfl) (op_costWithBound H (x0 := (F0 (i + 1))) (by omega)) (fun z1 H2 r3 => ?_)
  obtain ⟨m25_H2, ⟨v_H2, m63_H2⟩, cv_H2⟩ := r3
  refine E_run hk 5 (j' := 1159) (lv' := [(5, yi z1), (4, yi i), (0, .ref 25), (1, .ref 28), (2, .ref 63), (3, .ref 76)]) (st' := [yi 1, yi i, .ref 25, .ref 63]) (hp' := H2) rfl ?_
  refine Y_iadd (a := i) (b := 1) hk rfl ?_
  refine Y_iald (a := (i + 1)) (by omega) (by omega) hk rfl m25_H2 ?_
  refine Y_callE hk rfl (as := [.ref 63, yi (F0 (i + 1))]) (rest := []) rfl rfl (Nat.le_of_ble_eq_true rfl) (rcv0 m63_H2) (Nat.le_of_ble_eq_true rfl) (cv_H2) (fun z4 H5 r6 => ?_)
  obtain ⟨R_H5, ⟨v_H5, m63_H5, t_H5⟩, kr_H5, ou_H5, rm_H5⟩ := r6
  refine E_run hk 2 (j' := 1164) (lv' := [(6, yi z4), (5, yi z1), (4, yi i), (0, .ref 25), (1, .ref 28), (2, .ref 63), (3, .ref 76)]) (st' := [.ref 63]) (hp' := H5) rfl ?_
  refine Y_callP hk rfl (as := [.ref 63]) (rest := []) (v := some (yi z1)) rfl rfl (Nat.le_of_ble_eq_true rfl) (rcv0 m63_H5) (Nat.le_of_ble_eq_true rfl) ((by have e9 := c_X9_thrown (d := 10) m63_H5; rw [t_H5] at e9; exact e9)) ?_
  refine E_run hk 1 (j' := 1166) (lv' := [(6, yi z4), (5, yi z1), (4, yi i), (0, .ref 25), (1, .ref 28), (2, .ref 63), (3, .ref 76)]) (st' := [yi z1, yi z1]) (hp' := H5) rfl ?_
  refine Y_ic_h rfl hk rfl ?_
  refine E_run hk 1 (j' := 1170) (lv' := [(6, yi z4), (5, yi z1), (4, yi i), (0, .ref 25), (1, .ref 28), (2, .ref 63), (3, .ref 76)]) (st' := [yi z1]) (hp' := H5) rfl ?_
  refine Y_if_ne (a := z1) (by omega) hk rfl (fun g7 => ?_) (fun g7 => ?_)
  ·
    refine E_run hk 1 (j' := 1217) (lv' := [(6, yi z4), (5, yi z1), (4, yi i), (0, .ref 25), (1, .ref 28), (2, .ref 63), (3, .ref 76)]) (st' := []) (hp' := H5) rfl ?_
    exact Ev_le (xle_s rfl rfl (xle_s rfl rfl (xle_s rfl rfl (xle_s rfl rfl (xle_s rfl rfl (xle_z _ rfl)))))) (kk H5 R_H5 rm_H5)
  ·
    refine E_run hk 2 (j' := 1173) (lv' := [(6, yi z4), (5, yi z1), (4, yi i), (0, .ref 25), (1, .ref 28), (2, .ref 63), (3, .ref 76)]) (st' := [yi 0, .ref 76]) (hp' := H5) rfl ?_
    obtain ⟨o9_2, o76_2, o0_2⟩ := ou_H5 (by omega)
    refine Y_lald (a := 0) (v := .long ((iN z4).toInt64)) (by omega) (by decide) o0_2 hk rfl o76_2 ?_
    refine E_run hk 2 (j' := 1176) (lv' := [(6, yi z4), (5, yi z1), (4, yi i), (0, .ref 25), (1, .ref 28), (2, .ref 63), (3, .ref 76)]) (st' := [.long ((iN z4).toInt64), .long ((iN z4).toInt64)]) (hp' := H5) rfl ?_
    refine Y_lcmp_h rfl hk rfl ?_
    refine Y_if_eq (a := 0) (by omega) hk rfl (fun g8 => ?_) (fun g8 => ?_)
    ·
      refine E_run hk 1 (j' := 1217) (lv' := [(6, yi z4), (5, yi z1), (4, yi i), (0, .ref 25), (1, .ref 28), (2, .ref 63), (3, .ref 76)]) (st' := []) (hp' := H5) rfl ?_
      exact Ev_le (xle_s rfl rfl (xle_s rfl rfl (xle_s rfl rfl (xle_s rfl rfl (xle_s rfl rfl (xle_z _ rfl)))))) (kk H5 R_H5 rm_H5)
    · exfalso; omega
set_option maxRecDepth 100000 in
theorem blk_44 {L : Nat} {F0 : Int → Int} {h : xH} (H : yRel L F0 h) (hF : ∀ q, -2147483648 ≤ F0 q ∧ F0 q ≤ 2147483647) (hL : L ≤ 2048) {i : Int} (hi : 0 ≤ i ∧ i ≤ (L : Int) - 4) {Q : xO → xH → Prop} (kk : ∀ h', yRel L F0 h' → yrm h h' → Ev 11 303 1217 [(4, yi i), (0, .ref 25), (1, .ref 28), (2, .ref 63), (3, .ref 76)] [] h' Q) : Ev 11 303 1181 [(4, yi i), (0, .ref 25), (1, .ref 28), (2, .ref 63), (3, .ref 76)] [] h Q := by
  have hk : xtab 303 = (xc_303, 9, 2, []) := rfl
  obtain ⟨v0, S0, T0, N0, X0, B0, A0, Y0, -⟩ := id H
  obtain ⟨od0, a28, -⟩ := A0.1
  have m25 := B0.2.1
  have r1 := hF (i + 1)
  have r2 := hF (i + 2)
  have r3 := hF (i + 3)
  refine E_run hk 1 (j' := 1182) (lv' := [(4, yi i), (0, .ref 25), (1, .ref 28), (2, .ref 63), (3, .ref 76)]) (st' := [.ref 28]) (hp' := h) rfl ?_
  refine Y_callE hk rfl (as := [.ref 28]) (rest := []) rfl rfl (Nat.le_of_ble_eq_true rfl) (rcv0 a28) (Nat.le_of_ble_eq_true rfl) (op_neededBound H ) (fun z1 H2 r3 => ?_)
  obtain ⟨m25_H2, ⟨v_H2, m63_H2⟩, cv_H2⟩ := r3
  refine E_run hk 1 (j' := 1184) (lv' := [(4, yi i), (0, .ref 25), (1, .ref 28), (2, .ref 63), (3, .ref 76)]) (st' := [.ref 63, yi z1]) (hp' := H2) rfl ?_
  refine Y_callE hk rfl (as := [.ref 63]) (rest := [yi z1]) rfl rfl (Nat.le_of_ble_eq_true rfl) (rcv0 m63_H2) (Nat.le_of_ble_eq_true rfl) (cv_H2) (fun z4 H5 r6 => ?_)
  obtain ⟨R_H5, eq_H5, rm_H5⟩ := r6
  refine Y_ic_h eq_H5.symm hk rfl ?_
  exact Ev_le (xle_s rfl rfl (xle_s rfl rfl (xle_s rfl rfl (xle_s rfl rfl (xle_s rfl rfl (xle_z _ rfl)))))) (kk H5 R_H5 rm_H5)
set_option maxRecDepth 100000 in
theorem blk_45 {L : Nat} {F0 : Int → Int} {h : xH} (H : yRel L F0 h) (hF : ∀ q, -2147483648 ≤ F0 q ∧ F0 q ≤ 2147483647) (hL : L ≤ 2048) {i : Int} (hi : 0 ≤ i ∧ i ≤ (L : Int) - 4) {Q : xO → xH → Prop} (kk : ∀ h', yRel L F0 h' → yrm h h' → Ev 11 303 1217 [(4, yi i), (0, .ref 25), (1, .ref 28), (2, .ref 63), (3, .ref 76)] [] h' Q) : Ev 11 303 1188 [(4, yi i), (0, .ref 25), (1, .ref 28), (2, .ref 63), (3, .ref 76)] [] h Q := by
  have hk : xtab 303 = (xc_303, 9, 2, []) := rfl
  obtain ⟨v0, S0, T0, N0, X0, B0, A0, Y0, -⟩ := id H
  obtain ⟨od0, a28, -⟩ := A0.1
  have m25 := B0.2.1
  have r1 := hF (i + 1)
  have r2 := hF (i + 2)
  have r3 := hF (i + 3)
  refine E_run hk 1 (j' := 1189) (lv' := [(4, yi i), (0, .ref 25), (1, .ref 28), (2, .ref 63), (3, .ref 76)]) (st' := [.ref 28]) (hp' := h) rfl ?_
  refine Y_callD hk rfl (as := [.ref 28]) (rest := []) rfl rfl (Nat.le_of_ble_eq_true rfl) (rcv0 a28) (Nat.le_of_ble_eq_true rfl) (op_evenShare H ) (fun z1 H2 r3 => ?_)
  obtain ⟨m25_H2, ⟨v_H2, m63_H2⟩, cv_H2⟩ := r3
  refine E_run hk 2 (j' := 1192) (lv' := [(5, .double z1), (4, yi i), (0, .ref 25), (1, .ref 28), (2, .ref 63), (3, .ref 76)]) (st' := [.ref 63]) (hp' := H2) rfl ?_
  refine Y_callD hk rfl (as := [.ref 63]) (rest := []) rfl rfl (Nat.le_of_ble_eq_true rfl) (rcv0 m63_H2) (Nat.le_of_ble_eq_true rfl) (cv_H2) (fun z4 H5 r6 => ?_)
  obtain ⟨R_H5, eq_H5, cm_H5, rm_H5⟩ := r6
  refine E_run hk 3 (j' := 1196) (lv' := [(7, .double z4), (5, .double z1), (4, yi i), (0, .ref 25), (1, .ref 28), (2, .ref 63), (3, .ref 76)]) (st' := [.double z4, .double z1]) (hp' := H5) rfl ?_
  refine Y_dcmp (x := z1) (y := z4) (z := 0) (by rw [eq_H5]; exact cm_H5) hk rfl ?_
  refine Y_if_eq (a := 0) (by omega) hk rfl (fun g7 => ?_) (fun g7 => ?_)
  ·
    refine E_run hk 1 (j' := 1217) (lv' := [(7, .double z4), (5, .double z1), (4, yi i), (0, .ref 25), (1, .ref 28), (2, .ref 63), (3, .ref 76)]) (st' := []) (hp' := H5) rfl ?_
    exact Ev_le (xle_s rfl rfl (xle_s rfl rfl (xle_s rfl rfl (xle_s rfl rfl (xle_s rfl rfl (xle_z _ rfl)))))) (kk H5 R_H5 rm_H5)
  · exfalso; omega
set_option maxRecDepth 100000 in
theorem blk_46 {L : Nat} {F0 : Int → Int} {h : xH} (H : yRel L F0 h) (hF : ∀ q, -2147483648 ≤ F0 q ∧ F0 q ≤ 2147483647) (hL : L ≤ 2048) {i : Int} (hi : 0 ≤ i ∧ i ≤ (L : Int) - 4) {Q : xO → xH → Prop} (kk : ∀ h', yRel L F0 h' → yrm h h' → Ev 11 303 1217 [(4, yi i), (0, .ref 25), (1, .ref 28), (2, .ref 63), (3, .ref 76)] [] h' Q) : Ev 11 303 1209 [(4, yi i), (0, .ref 25), (1, .ref 28), (2, .ref 63), (3, .ref 76)] [] h Q := by
  have hk : xtab 303 = (xc_303, 9, 2, []) := rfl
  obtain ⟨v0, S0, T0, N0, X0, B0, A0, Y0, -⟩ := id H
  obtain ⟨od0, a28, -⟩ := A0.1
  have m25 := B0.2.1
  have r1 := hF (i + 1)
  have r2 := hF (i + 2)
  have r3 := hF (i + 3)
  refine E_run hk 1 (j' := 1210) (lv' := [(4, yi i), (0, .ref 25), (1, .ref 28), (2, .ref 63), (3, .ref 76)]) (st' := [.ref 28]) (hp' := h) rfl ?_
  refine Y_callL hk rfl (as := [.ref 28]) (rest := []) rfl rfl (Nat.le_of_ble_eq_true rfl) (rcv0 a28) (Nat.le_of_ble_eq_true rfl) (op_digest H ) (fun z1 H2 r3 => ?_)
  obtain ⟨m25_H2, ⟨v_H2, m63_H2⟩, cv_H2⟩ := r3
  refine E_run hk 1 (j' := 1212) (lv' := [(4, yi i), (0, .ref 25), (1, .ref 28), (2, .ref 63), (3, .ref 76)]) (st' := [.ref 63, .long z1]) (hp' := H2) rfl ?_
  refine Y_callL hk rfl (as := [.ref 63]) (rest := [.long z1]) rfl rfl (Nat.le_of_ble_eq_true rfl) (rcv0 m63_H2) (Nat.le_of_ble_eq_true rfl) (cv_H2) (fun z4 H5 r6 => ?_)
  obtain ⟨R_H5, eq_H5, rm_H5⟩ := r6
  refine Y_lcmp_h eq_H5.symm hk rfl ?_
  refine Y_if_eq (a := 0) (by omega) hk rfl (fun g7 => ?_) (fun g7 => ?_)
  ·
    exact Ev_le (xle_s rfl rfl (xle_s rfl rfl (xle_s rfl rfl (xle_s rfl rfl (xle_s rfl rfl (xle_z _ rfl)))))) (kk H5 R_H5 rm_H5)
  · exfalso; omega
