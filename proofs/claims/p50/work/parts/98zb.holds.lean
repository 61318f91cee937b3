/-! holds: the law's last check. -/
theorem hol_b1 {L : Nat} {F : Int → Int} {b n : Int} {h : xH} {S T : Int → Int} {x : Int} {d : Nat} (hd : 7 ≤ d) (W_h : pzI L F b h n S T) (hx9 : -2147483648 ≤ x ∧ x ≤ 2147483647) (ha : S 0 = 0) : Cv d 118 [.ref 28, yi x] h (yE (fun z h1 => z = 1 ∧ pzI L F (b + 450) h1 n S T)) := by
  have hk : xtab 118 = (xc_118, 13, 2, []) := rfl
  obtain ⟨d, rfl⟩ : ∃ e, d = e + 1 := ⟨d - 1, by omega⟩
  obtain ⟨nu, nn, n5⟩ := W_h.nums
  have hnm : ¬ (0 < S 0 ∧ 0 < S 1 ∧ -S 2 ≤ S 0 - S 1 ∧ S 0 - S 1 ≤ S 2) := by omega
  show Ev (d + 1) 118 0 [(0, .ref 28), (1, yi x)] [] h _
  obtain ⟨od_h, e28_h⟩ := W_h.x28
  refine E_run hk 2 (j' := 2) (lv' := [(0, .ref 28), (1, yi x)]) (st' := [yi 0, .ref 28]) (hp' := h) rfl ?_
  refine Y_callE hk rfl (as := [.ref 28, yi 0]) (rest := []) rfl rfl (Nat.le_of_ble_eq_true rfl) (rcv0 e28_h) (Nat.le_of_ble_eq_true rfl) (p_notes W_h (x := 0) (by omega) (by omega)) (fun z1 H2 r3 => ?_)
  obtain ⟨e_z1, W_H2⟩ := r3
  have e_z1 : z1 = S 0 := e_z1
  subst e_z1
  obtain ⟨od_H2, e28_H2⟩ := W_H2.x28
  refine Y_if_eq (a := (S 0)) (by omega) hk rfl (fun g4 => ?_) (fun g4 => ?_)
  ·
    refine E_run hk 5 (j' := 14) (lv' := [(2, yi 1), (0, .ref 28), (1, yi x)]) (st' := [yi 0, .ref 28]) (hp' := H2) rfl ?_
    refine Y_callE hk rfl (as := [.ref 28, yi 0]) (rest := []) rfl rfl (Nat.le_of_ble_eq_true rfl) (rcv0 e28_H2) (Nat.le_of_ble_eq_true rfl) (p_notes W_H2 (x := 0) (by omega) (by omega)) (fun z5 H6 r7 => ?_)
    obtain ⟨e_z5, W_H6⟩ := r7
    have e_z5 : z5 = S 0 := e_z5
    subst e_z5
    obtain ⟨od_H6, e28_H6⟩ := W_H6.x28
    refine E_run hk 2 (j' := 17) (lv' := [(2, yi 1), (0, .ref 28), (1, yi x)]) (st' := [yi 1, .ref 28, yi (S 0)]) (hp' := H6) rfl ?_
    refine Y_callE hk rfl (as := [.ref 28, yi 1]) (rest := [yi (S 0)]) rfl rfl (Nat.le_of_ble_eq_true rfl) (rcv0 e28_H6) (Nat.le_of_ble_eq_true rfl) (p_notes W_H6 (x := 1) (by omega) (by omega)) (fun z8 H9 r10 => ?_)
    obtain ⟨e_z8, W_H9⟩ := r10
    have e_z8 : z8 = S 1 := e_z8
    subst e_z8
    obtain ⟨od_H9, e28_H9⟩ := W_H9.x28
    refine Y_isub (a := (S 0)) (b := (S 1)) hk rfl ?_
    refine E_run hk 2 (j' := 21) (lv' := [(3, yi ((S 0) - (S 1))), (2, yi 1), (0, .ref 28), (1, yi x)]) (st' := [.ref 28]) (hp' := H9) rfl ?_
    refine Y_callE hk rfl (as := [.ref 28]) (rest := []) rfl rfl (Nat.le_of_ble_eq_true rfl) (rcv0 e28_H9) (Nat.le_of_ble_eq_true rfl) (p_isM0 W_H9 hnm (by omega)) (fun z11 H12 r13 => ?_)
    obtain ⟨rfl, W_H12⟩ := r13
    obtain ⟨od_H12, e28_H12⟩ := W_H12.x28
    refine E_run hk 1 (j' := 23) (lv' := [(3, yi ((S 0) - (S 1))), (2, yi 1), (0, .ref 28), (1, yi x)]) (st' := [yi 1, yi 0]) (hp' := H12) rfl ?_
    refine Y_if_ne (a := 1) (by omega) hk rfl (fun g14 => ?_) (fun g14 => ?_)
    ·
      refine E_run hk 1 (j' := 36) (lv' := [(3, yi ((S 0) - (S 1))), (2, yi 1), (0, .ref 28), (1, yi x)]) (st' := [yi 0, yi 0]) (hp' := H12) rfl ?_
      refine Y_ic_ne (a := 0) (b := 0) (by omega) hk rfl (fun g15 => ?_) (fun g15 => ?_)
      · exfalso; omega
      ·
        refine E_run hk 1 (j' := 38) (lv' := [(3, yi ((S 0) - (S 1))), (2, yi 1), (0, .ref 28), (1, yi x)]) (st' := [.ref 28]) (hp' := H12) rfl ?_
        refine Y_callE hk rfl (as := [.ref 28]) (rest := []) rfl rfl (Nat.le_of_ble_eq_true rfl) (rcv0 e28_H12) (Nat.le_of_ble_eq_true rfl) (p_neededBound W_H12 (by omega)) (fun z16 H17 r18 => ?_)
        obtain ⟨nz_z16, W_H17⟩ := r18
        have e_z16 : z16 = -1 := by omega
        subst e_z16
        obtain ⟨od_H17, e28_H17⟩ := W_H17.x28
        refine E_run hk 1 (j' := 40) (lv' := [(3, yi ((S 0) - (S 1))), (2, yi 1), (0, .ref 28), (1, yi x)]) (st' := [yi (-1), yi (-1)]) (hp' := H17) rfl ?_
        refine Y_ic_ne (a := (-1)) (b := (-1)) (by omega) hk rfl (fun g19 => ?_) (fun g19 => ?_)
        · exfalso; omega
        ·
          refine E_run hk 3 (j' := 45) (lv' := [(3, yi ((S 0) - (S 1))), (2, yi 1), (0, .ref 28), (1, yi x)]) (st' := [yi 1, yi 1]) (hp' := H17) rfl ?_
          refine Y_ic_ne (a := 1) (b := 1) (by omega) hk rfl (fun g20 => ?_) (fun g20 => ?_)
          · exfalso; omega
          ·
            refine E_run hk 4 (j' := 51) (lv' := [(4, yi 1), (3, yi ((S 0) - (S 1))), (2, yi 1), (0, .ref 28), (1, yi x)]) (st' := [yi 1]) (hp' := H17) rfl ?_
            refine Y_if_ne (a := 1) (by omega) hk rfl (fun g21 => ?_) (fun g21 => ?_)
            ·
              refine E_run hk 1 (j' := 87) (lv' := [(4, yi 1), (3, yi ((S 0) - (S 1))), (2, yi 1), (0, .ref 28), (1, yi x)]) (st' := [.ref 28]) (hp' := H17) rfl ?_
              refine Y_callE hk rfl (as := [.ref 28]) (rest := []) rfl rfl (Nat.le_of_ble_eq_true rfl) (rcv0 e28_H17) (Nat.le_of_ble_eq_true rfl) (p_isM0 W_H17 hnm (by omega)) (fun z22 H23 r24 => ?_)
              obtain ⟨rfl, W_H23⟩ := r24
              obtain ⟨od_H23, e28_H23⟩ := W_H23.x28
              refine Y_if_ne (a := 0) (by omega) hk rfl (fun g25 => ?_) (fun g25 => ?_)
              · exfalso; omega
              ·
                refine E_run hk 1 (j' := 90) (lv' := [(4, yi 1), (3, yi ((S 0) - (S 1))), (2, yi 1), (0, .ref 28), (1, yi x)]) (st' := [yi 1]) (hp' := H23) rfl ?_
                refine Y_if_eq (a := 1) (by omega) hk rfl (fun g26 => ?_) (fun g26 => ?_)
                · exfalso; omega
                ·
                  refine E_run hk 1 (j' := 92) (lv' := [(4, yi 1), (3, yi ((S 0) - (S 1))), (2, yi 1), (0, .ref 28), (1, yi x)]) (st' := [.ref 28]) (hp' := H23) rfl ?_
                  refine Y_callE hk rfl (as := [.ref 28]) (rest := []) rfl rfl (Nat.le_of_ble_eq_true rfl) (rcv0 e28_H23) (Nat.le_of_ble_eq_true rfl) (p_bestMatches0 W_H23 hnm (by omega)) (fun z27 H28 r29 => ?_)
                  obtain ⟨rfl, W_H28⟩ := r29
                  obtain ⟨od_H28, e28_H28⟩ := W_H28.x28
                  refine Y_if_ne (a := 0) (by omega) hk rfl (fun g30 => ?_) (fun g30 => ?_)
                  · exfalso; omega
                  ·
                    refine E_run hk 1 (j' := 95) (lv' := [(4, yi 1), (3, yi ((S 0) - (S 1))), (2, yi 1), (0, .ref 28), (1, yi x)]) (st' := [.ref 28]) (hp' := H28) rfl ?_
                    refine Y_callD hk rfl (as := [.ref 28]) (rest := []) rfl rfl (Nat.le_of_ble_eq_true rfl) (rcv0 e28_H28) (Nat.le_of_ble_eq_true rfl) (p_even0 W_H28 hnm (by omega)) (fun z31 H32 r33 => ?_)
                    obtain ⟨rfl, W_H32⟩ := r33
                    obtain ⟨od_H32, e28_H32⟩ := W_H32.x28
                    refine E_run hk 1 (j' := 97) (lv' := [(4, yi 1), (3, yi ((S 0) - (S 1))), (2, yi 1), (0, .ref 28), (1, yi x)]) (st' := [.double FP.dconst0, .double FP.dconst0]) (hp' := H32) rfl ?_
                    refine Y_dcmp (x := FP.dconst0) (y := FP.dconst0) (z := 0) (by rw [shv_0]; rfl) hk rfl ?_
                    refine Y_if_ne (a := 0) (by omega) hk rfl (fun g34 => ?_) (fun g34 => ?_)
                    · exfalso; omega
                    ·
                      refine E_run hk 2 (j' := 102) (lv' := [(4, yi 1), (3, yi ((S 0) - (S 1))), (2, yi 1), (0, .ref 28), (1, yi x)]) (st' := [yi 1]) (hp' := H32) rfl ?_
                      exact E_ret hk rfl rfl ⟨_, rfl, rfl, W_H32.mono (by omega)⟩
            · exfalso; omega
    · exfalso; omega
  · exfalso; omega
theorem hol_b2 {L : Nat} {F : Int → Int} {b n : Int} {h : xH} {S T : Int → Int} {x : Int} {d : Nat} (hd : 7 ≤ d) (W_h : pzI L F b h n S T) (hx9 : -2147483648 ≤ x ∧ x ≤ 2147483647) (ha : ¬ S 0 = 0) (ha2 : S 1 = 0) : Cv d 118 [.ref 28, yi x] h (yE (fun z h1 => z = 1 ∧ pzI L F (b + 450) h1 n S T)) := by
  have hk : xtab 118 = (xc_118, 13, 2, []) := rfl
  obtain ⟨d, rfl⟩ : ∃ e, d = e + 1 := ⟨d - 1, by omega⟩
  obtain ⟨nu, nn, n5⟩ := W_h.nums
  have hnm : ¬ (0 < S 0 ∧ 0 < S 1 ∧ -S 2 ≤ S 0 - S 1 ∧ S 0 - S 1 ≤ S 2) := by omega
  show Ev (d + 1) 118 0 [(0, .ref 28), (1, yi x)] [] h _
  obtain ⟨od_h, e28_h⟩ := W_h.x28
  refine E_run hk 2 (j' := 2) (lv' := [(0, .ref 28), (1, yi x)]) (st' := [yi 0, .ref 28]) (hp' := h) rfl ?_
  refine Y_callE hk rfl (as := [.ref 28, yi 0]) (rest := []) rfl rfl (Nat.le_of_ble_eq_true rfl) (rcv0 e28_h) (Nat.le_of_ble_eq_true rfl) (p_notes W_h (x := 0) (by omega) (by omega)) (fun z1 H2 r3 => ?_)
  obtain ⟨e_z1, W_H2⟩ := r3
  have e_z1 : z1 = S 0 := e_z1
  subst e_z1
  obtain ⟨od_H2, e28_H2⟩ := W_H2.x28
  refine Y_if_eq (a := (S 0)) (by omega) hk rfl (fun g4 => ?_) (fun g4 => ?_)
  · exfalso; omega
  ·
    refine E_run hk 2 (j' := 6) (lv' := [(0, .ref 28), (1, yi x)]) (st' := [yi 1, .ref 28]) (hp' := H2) rfl ?_
    refine Y_callE hk rfl (as := [.ref 28, yi 1]) (rest := []) rfl rfl (Nat.le_of_ble_eq_true rfl) (rcv0 e28_H2) (Nat.le_of_ble_eq_true rfl) (p_notes W_H2 (x := 1) (by omega) (by omega)) (fun z5 H6 r7 => ?_)
    obtain ⟨e_z5, W_H6⟩ := r7
    have e_z5 : z5 = S 1 := e_z5
    subst e_z5
    obtain ⟨od_H6, e28_H6⟩ := W_H6.x28
    refine Y_if_ne (a := (S 1)) (by omega) hk rfl (fun g8 => ?_) (fun g8 => ?_)
    · exfalso; omega
    ·
      refine E_run hk 5 (j' := 14) (lv' := [(2, yi 1), (0, .ref 28), (1, yi x)]) (st' := [yi 0, .ref 28]) (hp' := H6) rfl ?_
      refine Y_callE hk rfl (as := [.ref 28, yi 0]) (rest := []) rfl rfl (Nat.le_of_ble_eq_true rfl) (rcv0 e28_H6) (Nat.le_of_ble_eq_true rfl) (p_notes W_H6 (x := 0) (by omega) (by omega)) (fun z9 H10 r11 => ?_)
      obtain ⟨e_z9, W_H10⟩ := r11
      have e_z9 : z9 = S 0 := e_z9
      subst e_z9
      obtain ⟨od_H10, e28_H10⟩ := W_H10.x28
      refine E_run hk 2 (j' := 17) (lv' := [(2, yi 1), (0, .ref 28), (1, yi x)]) (st' := [yi 1, .ref 28, yi (S 0)]) (hp' := H10) rfl ?_
      refine Y_callE hk rfl (as := [.ref 28, yi 1]) (rest := [yi (S 0)]) rfl rfl (Nat.le_of_ble_eq_true rfl) (rcv0 e28_H10) (Nat.le_of_ble_eq_true rfl) (p_notes W_H10 (x := 1) (by omega) (by omega)) (fun z12 H13 r14 => ?_)
      obtain ⟨e_z12, W_H13⟩ := r14
      have e_z12 : z12 = S 1 := e_z12
      subst e_z12
      obtain ⟨od_H13, e28_H13⟩ := W_H13.x28
      refine Y_isub (a := (S 0)) (b := (S 1)) hk rfl ?_
      refine E_run hk 2 (j' := 21) (lv' := [(3, yi ((S 0) - (S 1))), (2, yi 1), (0, .ref 28), (1, yi x)]) (st' := [.ref 28]) (hp' := H13) rfl ?_
      refine Y_callE hk rfl (as := [.ref 28]) (rest := []) rfl rfl (Nat.le_of_ble_eq_true rfl) (rcv0 e28_H13) (Nat.le_of_ble_eq_true rfl) (p_isM0 W_H13 hnm (by omega)) (fun z15 H16 r17 => ?_)
      obtain ⟨rfl, W_H16⟩ := r17
      obtain ⟨od_H16, e28_H16⟩ := W_H16.x28
      refine E_run hk 1 (j' := 23) (lv' := [(3, yi ((S 0) - (S 1))), (2, yi 1), (0, .ref 28), (1, yi x)]) (st' := [yi 1, yi 0]) (hp' := H16) rfl ?_
      refine Y_if_ne (a := 1) (by omega) hk rfl (fun g18 => ?_) (fun g18 => ?_)
      ·
        refine E_run hk 1 (j' := 36) (lv' := [(3, yi ((S 0) - (S 1))), (2, yi 1), (0, .ref 28), (1, yi x)]) (st' := [yi 0, yi 0]) (hp' := H16) rfl ?_
        refine Y_ic_ne (a := 0) (b := 0) (by omega) hk rfl (fun g19 => ?_) (fun g19 => ?_)
        · exfalso; omega
        ·
          refine E_run hk 1 (j' := 38) (lv' := [(3, yi ((S 0) - (S 1))), (2, yi 1), (0, .ref 28), (1, yi x)]) (st' := [.ref 28]) (hp' := H16) rfl ?_
          refine Y_callE hk rfl (as := [.ref 28]) (rest := []) rfl rfl (Nat.le_of_ble_eq_true rfl) (rcv0 e28_H16) (Nat.le_of_ble_eq_true rfl) (p_neededBound W_H16 (by omega)) (fun z20 H21 r22 => ?_)
          obtain ⟨nz_z20, W_H21⟩ := r22
          have e_z20 : z20 = -1 := by omega
          subst e_z20
          obtain ⟨od_H21, e28_H21⟩ := W_H21.x28
          refine E_run hk 1 (j' := 40) (lv' := [(3, yi ((S 0) - (S 1))), (2, yi 1), (0, .ref 28), (1, yi x)]) (st' := [yi (-1), yi (-1)]) (hp' := H21) rfl ?_
          refine Y_ic_ne (a := (-1)) (b := (-1)) (by omega) hk rfl (fun g23 => ?_) (fun g23 => ?_)
          · exfalso; omega
          ·
            refine E_run hk 3 (j' := 45) (lv' := [(3, yi ((S 0) - (S 1))), (2, yi 1), (0, .ref 28), (1, yi x)]) (st' := [yi 1, yi 1]) (hp' := H21) rfl ?_
            refine Y_ic_ne (a := 1) (b := 1) (by omega) hk rfl (fun g24 => ?_) (fun g24 => ?_)
            · exfalso; omega
            ·
              refine E_run hk 4 (j' := 51) (lv' := [(4, yi 1), (3, yi ((S 0) - (S 1))), (2, yi 1), (0, .ref 28), (1, yi x)]) (st' := [yi 1]) (hp' := H21) rfl ?_
              refine Y_if_ne (a := 1) (by omega) hk rfl (fun g25 => ?_) (fun g25 => ?_)
              ·
                refine E_run hk 1 (j' := 87) (lv' := [(4, yi 1), (3, yi ((S 0) - (S 1))), (2, yi 1), (0, .ref 28), (1, yi x)]) (st' := [.ref 28]) (hp' := H21) rfl ?_
                refine Y_callE hk rfl (as := [.ref 28]) (rest := []) rfl rfl (Nat.le_of_ble_eq_true rfl) (rcv0 e28_H21) (Nat.le_of_ble_eq_true rfl) (p_isM0 W_H21 hnm (by omega)) (fun z26 H27 r28 => ?_)
                obtain ⟨rfl, W_H27⟩ := r28
                obtain ⟨od_H27, e28_H27⟩ := W_H27.x28
                refine Y_if_ne (a := 0) (by omega) hk rfl (fun g29 => ?_) (fun g29 => ?_)
                · exfalso; omega
                ·
                  refine E_run hk 1 (j' := 90) (lv' := [(4, yi 1), (3, yi ((S 0) - (S 1))), (2, yi 1), (0, .ref 28), (1, yi x)]) (st' := [yi 1]) (hp' := H27) rfl ?_
                  refine Y_if_eq (a := 1) (by omega) hk rfl (fun g30 => ?_) (fun g30 => ?_)
                  · exfalso; omega
                  ·
                    refine E_run hk 1 (j' := 92) (lv' := [(4, yi 1), (3, yi ((S 0) - (S 1))), (2, yi 1), (0, .ref 28), (1, yi x)]) (st' := [.ref 28]) (hp' := H27) rfl ?_
                    refine Y_callE hk rfl (as := [.ref 28]) (rest := []) rfl rfl (Nat.le_of_ble_eq_true rfl) (rcv0 e28_H27) (Nat.le_of_ble_eq_true rfl) (p_bestMatches0 W_H27 hnm (by omega)) (fun z31 H32 r33 => ?_)
                    obtain ⟨rfl, W_H32⟩ := r33
                    obtain ⟨od_H32, e28_H32⟩ := W_H32.x28
                    refine Y_if_ne (a := 0) (by omega) hk rfl (fun g34 => ?_) (fun g34 => ?_)
                    · exfalso; omega
                    ·
                      refine E_run hk 1 (j' := 95) (lv' := [(4, yi 1), (3, yi ((S 0) - (S 1))), (2, yi 1), (0, .ref 28), (1, yi x)]) (st' := [.ref 28]) (hp' := H32) rfl ?_
                      refine Y_callD hk rfl (as := [.ref 28]) (rest := []) rfl rfl (Nat.le_of_ble_eq_true rfl) (rcv0 e28_H32) (Nat.le_of_ble_eq_true rfl) (p_even0 W_H32 hnm (by omega)) (fun z35 H36 r37 => ?_)
                      obtain ⟨rfl, W_H36⟩ := r37
                      obtain ⟨od_H36, e28_H36⟩ := W_H36.x28
                      refine E_run hk 1 (j' := 97) (lv' := [(4, yi 1), (3, yi ((S 0) - (S 1))), (2, yi 1), (0, .ref 28), (1, yi x)]) (st' := [.double FP.dconst0, .double FP.dconst0]) (hp' := H36) rfl ?_
                      refine Y_dcmp (x := FP.dconst0) (y := FP.dconst0) (z := 0) (by rw [shv_0]; rfl) hk rfl ?_
                      refine Y_if_ne (a := 0) (by omega) hk rfl (fun g38 => ?_) (fun g38 => ?_)
                      · exfalso; omega
                      ·
                        refine E_run hk 2 (j' := 102) (lv' := [(4, yi 1), (3, yi ((S 0) - (S 1))), (2, yi 1), (0, .ref 28), (1, yi x)]) (st' := [yi 1]) (hp' := H36) rfl ?_
                        exact E_ret hk rfl rfl ⟨_, rfl, rfl, W_H36.mono (by omega)⟩
              · exfalso; omega
      · exfalso; omega
theorem hol_u1 {L : Nat} {F : Int → Int} {b n : Int} {h : xH} {S T : Int → Int} {x : Int} {d : Nat} (hd : 7 ≤ d) (W_h : pzI L F b h n S T) (hx9 : -2147483648 ≤ x ∧ x ≤ 2147483647) (ha : ¬ S 0 = 0) (ha2 : ¬ S 1 = 0) (hu : S 2 < S 0 - S 1) : Cv d 118 [.ref 28, yi x] h (yE (fun z h1 => z = 1 ∧ pzI L F (b + 450) h1 n S T)) := by
  have hk : xtab 118 = (xc_118, 13, 2, []) := rfl
  obtain ⟨d, rfl⟩ : ∃ e, d = e + 1 := ⟨d - 1, by omega⟩
  obtain ⟨nu, nn, n5⟩ := W_h.nums
  have hnm : ¬ (0 < S 0 ∧ 0 < S 1 ∧ -S 2 ≤ S 0 - S 1 ∧ S 0 - S 1 ≤ S 2) := by omega
  have hnb : ¬ (S 0 = 0 ∨ S 1 = 0) := by omega
  obtain ⟨nb1, nb2, nb3, nb4, nb5, nb6⟩ := nb_ok W_h.2.2.2.1.1 hnb
  show Ev (d + 1) 118 0 [(0, .ref 28), (1, yi x)] [] h _
  obtain ⟨od_h, e28_h⟩ := W_h.x28
  refine E_run hk 2 (j' := 2) (lv' := [(0, .ref 28), (1, yi x)]) (st' := [yi 0, .ref 28]) (hp' := h) rfl ?_
  refine Y_callE hk rfl (as := [.ref 28, yi 0]) (rest := []) rfl rfl (Nat.le_of_ble_eq_true rfl) (rcv0 e28_h) (Nat.le_of_ble_eq_true rfl) (p_notes W_h (x := 0) (by omega) (by omega)) (fun z1 H2 r3 => ?_)
  obtain ⟨e_z1, W_H2⟩ := r3
  have e_z1 : z1 = S 0 := e_z1
  subst e_z1
  obtain ⟨od_H2, e28_H2⟩ := W_H2.x28
  refine Y_if_eq (a := (S 0)) (by omega) hk rfl (fun g4 => ?_) (fun g4 => ?_)
  · exfalso; omega
  ·
    refine E_run hk 2 (j' := 6) (lv' := [(0, .ref 28), (1, yi x)]) (st' := [yi 1, .ref 28]) (hp' := H2) rfl ?_
    refine Y_callE hk rfl (as := [.ref 28, yi 1]) (rest := []) rfl rfl (Nat.le_of_ble_eq_true rfl) (rcv0 e28_H2) (Nat.le_of_ble_eq_true rfl) (p_notes W_H2 (x := 1) (by omega) (by omega)) (fun z5 H6 r7 => ?_)
    obtain ⟨e_z5, W_H6⟩ := r7
    have e_z5 : z5 = S 1 := e_z5
    subst e_z5
    obtain ⟨od_H6, e28_H6⟩ := W_H6.x28
    refine Y_if_ne (a := (S 1)) (by omega) hk rfl (fun g8 => ?_) (fun g8 => ?_)
    ·
      refine E_run hk 4 (j' := 14) (lv' := [(2, yi 0), (0, .ref 28), (1, yi x)]) (st' := [yi 0, .ref 28]) (hp' := H6) rfl ?_
      refine Y_callE hk rfl (as := [.ref 28, yi 0]) (rest := []) rfl rfl (Nat.le_of_ble_eq_true rfl) (rcv0 e28_H6) (Nat.le_of_ble_eq_true rfl) (p_notes W_H6 (x := 0) (by omega) (by omega)) (fun z9 H10 r11 => ?_)
      obtain ⟨e_z9, W_H10⟩ := r11
      have e_z9 : z9 = S 0 := e_z9
      subst e_z9
      obtain ⟨od_H10, e28_H10⟩ := W_H10.x28
      refine E_run hk 2 (j' := 17) (lv' := [(2, yi 0), (0, .ref 28), (1, yi x)]) (st' := [yi 1, .ref 28, yi (S 0)]) (hp' := H10) rfl ?_
      refine Y_callE hk rfl (as := [.ref 28, yi 1]) (rest := [yi (S 0)]) rfl rfl (Nat.le_of_ble_eq_true rfl) (rcv0 e28_H10) (Nat.le_of_ble_eq_true rfl) (p_notes W_H10 (x := 1) (by omega) (by omega)) (fun z12 H13 r14 => ?_)
      obtain ⟨e_z12, W_H13⟩ := r14
      have e_z12 : z12 = S 1 := e_z12
      subst e_z12
      obtain ⟨od_H13, e28_H13⟩ := W_H13.x28
      refine Y_isub (a := (S 0)) (b := (S 1)) hk rfl ?_
      refine E_run hk 2 (j' := 21) (lv' := [(3, yi ((S 0) - (S 1))), (2, yi 0), (0, .ref 28), (1, yi x)]) (st' := [.ref 28]) (hp' := H13) rfl ?_
      refine Y_callE hk rfl (as := [.ref 28]) (rest := []) rfl rfl (Nat.le_of_ble_eq_true rfl) (rcv0 e28_H13) (Nat.le_of_ble_eq_true rfl) (p_isM0 W_H13 hnm (by omega)) (fun z15 H16 r17 => ?_)
      obtain ⟨rfl, W_H16⟩ := r17
      obtain ⟨od_H16, e28_H16⟩ := W_H16.x28
      refine E_run hk 1 (j' := 23) (lv' := [(3, yi ((S 0) - (S 1))), (2, yi 0), (0, .ref 28), (1, yi x)]) (st' := [yi 0, yi 0]) (hp' := H16) rfl ?_
      refine Y_if_ne (a := 0) (by omega) hk rfl (fun g18 => ?_) (fun g18 => ?_)
      · exfalso; omega
      ·
        refine E_run hk 2 (j' := 26) (lv' := [(3, yi ((S 0) - (S 1))), (2, yi 0), (0, .ref 28), (1, yi x)]) (st' := [.ref 28, yi ((S 0) - (S 1)), yi 0]) (hp' := H16) rfl ?_
        refine Y_callE hk rfl (as := [.ref 28]) (rest := [yi ((S 0) - (S 1)), yi 0]) rfl rfl (Nat.le_of_ble_eq_true rfl) (rcv0 e28_H16) (Nat.le_of_ble_eq_true rfl) (p_bound W_H16  (by omega)) (fun z19 H20 r21 => ?_)
        obtain ⟨rfl, W_H20⟩ := r21
        obtain ⟨od_H20, e28_H20⟩ := W_H20.x28
        refine Y_ic_gt (a := ((S 0) - (S 1))) (b := (S 2)) (by omega) hk rfl (fun g22 => ?_) (fun g22 => ?_)
        ·
          refine E_run hk 1 (j' := 36) (lv' := [(3, yi ((S 0) - (S 1))), (2, yi 0), (0, .ref 28), (1, yi x)]) (st' := [yi 0, yi 0]) (hp' := H20) rfl ?_
          refine Y_ic_ne (a := 0) (b := 0) (by omega) hk rfl (fun g23 => ?_) (fun g23 => ?_)
          · exfalso; omega
          ·
            refine E_run hk 1 (j' := 38) (lv' := [(3, yi ((S 0) - (S 1))), (2, yi 0), (0, .ref 28), (1, yi x)]) (st' := [.ref 28]) (hp' := H20) rfl ?_
            refine Y_callE hk rfl (as := [.ref 28]) (rest := []) rfl rfl (Nat.le_of_ble_eq_true rfl) (rcv0 e28_H20) (Nat.le_of_ble_eq_true rfl) (p_neededBound W_H20 (by omega)) (fun z24 H25 r26 => ?_)
            obtain ⟨nz_z24, W_H25⟩ := r26
            have e_z24 : 0 ≤ z24 ∧ z24 ≤ 20 ∧ cst S 0 z24 = cst S 0 20 := Or.elim nz_z24 (fun v => absurd v.1 hnb) (fun v => v.2)
            obtain ⟨od_H25, e28_H25⟩ := W_H25.x28
            refine E_run hk 1 (j' := 40) (lv' := [(3, yi ((S 0) - (S 1))), (2, yi 0), (0, .ref 28), (1, yi x)]) (st' := [yi (-1), yi z24]) (hp' := H25) rfl ?_
            refine Y_ic_ne (a := z24) (b := (-1)) (by omega) hk rfl (fun g27 => ?_) (fun g27 => ?_)
            ·
              refine E_run hk 2 (j' := 45) (lv' := [(3, yi ((S 0) - (S 1))), (2, yi 0), (0, .ref 28), (1, yi x)]) (st' := [yi 0, yi 0]) (hp' := H25) rfl ?_
              refine Y_ic_ne (a := 0) (b := 0) (by omega) hk rfl (fun g28 => ?_) (fun g28 => ?_)
              · exfalso; omega
              ·
                refine E_run hk 4 (j' := 51) (lv' := [(4, yi 1), (3, yi ((S 0) - (S 1))), (2, yi 0), (0, .ref 28), (1, yi x)]) (st' := [yi 0]) (hp' := H25) rfl ?_
                refine Y_if_ne (a := 0) (by omega) hk rfl (fun g29 => ?_) (fun g29 => ?_)
                · exfalso; omega
                ·
                  refine E_run hk 1 (j' := 53) (lv' := [(4, yi 1), (3, yi ((S 0) - (S 1))), (2, yi 0), (0, .ref 28), (1, yi x)]) (st' := [yi 1]) (hp' := H25) rfl ?_
                  refine Y_if_eq (a := 1) (by omega) hk rfl (fun g30 => ?_) (fun g30 => ?_)
                  · exfalso; omega
                  ·
                    refine E_run hk 1 (j' := 55) (lv' := [(4, yi 1), (3, yi ((S 0) - (S 1))), (2, yi 0), (0, .ref 28), (1, yi x)]) (st' := [.ref 28]) (hp' := H25) rfl ?_
                    refine Y_callE hk rfl (as := [.ref 28]) (rest := []) rfl rfl (Nat.le_of_ble_eq_true rfl) (rcv0 e28_H25) (Nat.le_of_ble_eq_true rfl) (p_partBegin W_H25 hnb (by omega)) (fun z31 H32 r33 => ?_)
                    obtain ⟨rfl, W_H32⟩ := r33
                    obtain ⟨od_H32, e28_H32⟩ := W_H32.x28
                    refine E_run hk 1 (j' := 57) (lv' := [(4, yi 1), (3, yi ((S 0) - (S 1))), (2, yi 0), (0, .ref 28), (1, yi x)]) (st' := [.ref 28, yi (pb (unl S 0) (S 3) (S 0 - 1) (pend S))]) (hp' := H32) rfl ?_
                    refine Y_callE hk rfl (as := [.ref 28]) (rest := [yi (pb (unl S 0) (S 3) (S 0 - 1) (pend S))]) rfl rfl (Nat.le_of_ble_eq_true rfl) (rcv0 e28_H32) (Nat.le_of_ble_eq_true rfl) (p_partEnd W_H32 hnb (by omega)) (fun z34 H35 r36 => ?_)
                    obtain ⟨rfl, W_H35⟩ := r36
                    obtain ⟨od_H35, e28_H35⟩ := W_H35.x28
                    refine Y_ic_gt (a := (pb (unl S 0) (S 3) (S 0 - 1) (pend S))) (b := (pend S)) (by omega) hk rfl (fun g37 => ?_) (fun g37 => ?_)
                    · exfalso; omega
                    ·
                      refine E_run hk 1 (j' := 60) (lv' := [(4, yi 1), (3, yi ((S 0) - (S 1))), (2, yi 0), (0, .ref 28), (1, yi x)]) (st' := [.ref 28]) (hp' := H35) rfl ?_
                      refine Y_callE hk rfl (as := [.ref 28]) (rest := []) rfl rfl (Nat.le_of_ble_eq_true rfl) (rcv0 e28_H35) (Nat.le_of_ble_eq_true rfl) (p_partCost W_H35 hnb (by omega)) (fun z38 H39 r40 => ?_)
                      obtain ⟨rfl, W_H39⟩ := r40
                      obtain ⟨od_H39, e28_H39⟩ := W_H39.x28
                      refine E_run hk 2 (j' := 63) (lv' := [(4, yi 1), (3, yi ((S 0) - (S 1))), (2, yi 0), (0, .ref 28), (1, yi x)]) (st' := [yi 20, .ref 28, yi (pc (unl S 0) (S 3) (S 0 - 1) (pend S))]) (hp' := H39) rfl ?_
                      refine Y_callE hk rfl (as := [.ref 28, yi 20]) (rest := [yi (pc (unl S 0) (S 3) (S 0 - 1) (pend S))]) rfl rfl (Nat.le_of_ble_eq_true rfl) (rcv0 e28_H39) (Nat.le_of_ble_eq_true rfl) (p_cwb W_H39 (y := 20) (by omega) rfl nb4.2 (by omega)) (fun z41 H42 r43 => ?_)
                      obtain ⟨rfl, W_H42⟩ := r43
                      obtain ⟨od_H42, e28_H42⟩ := W_H42.x28
                      refine Y_ic_gt (a := (pc (unl S 0) (S 3) (S 0 - 1) (pend S))) (b := (cst S 0 20)) (by omega) hk rfl (fun g44 => ?_) (fun g44 => ?_)
                      · exfalso; omega
                      ·
                        refine E_run hk 3 (j' := 68) (lv' := [(4, yi 1), (3, yi ((S 0) - (S 1))), (2, yi 0), (0, .ref 28), (1, yi x)]) (st' := [yi 0, yi 0, .ref 28]) (hp' := H42) rfl ?_
                        refine Y_callE hk rfl (as := [.ref 28, yi 0, yi 0]) (rest := []) rfl rfl (Nat.le_of_ble_eq_true rfl) (rcv0 e28_H42) (Nat.le_of_ble_eq_true rfl) (p_costTo W_H42 (i := 0) (j := 0) (by omega) (by omega)) (fun z45 H46 r47 => ?_)
                        obtain ⟨e_z45, W_H46⟩ := r47
                        rw [nb5] at e_z45
                        subst e_z45
                        obtain ⟨od_H46, e28_H46⟩ := W_H46.x28
                        refine E_run hk 3 (j' := 72) (lv' := [(4, yi 1), (3, yi ((S 0) - (S 1))), (2, yi 0), (0, .ref 28), (1, yi x)]) (st' := [yi 0, yi 0, .ref 28, yi (unl S 0 0 0)]) (hp' := H46) rfl ?_
                        refine Y_callE hk rfl (as := [.ref 28, yi 0, yi 0]) (rest := [yi (unl S 0 0 0)]) rfl rfl (Nat.le_of_ble_eq_true rfl) (rcv0 e28_H46) (Nat.le_of_ble_eq_true rfl) (p_unlike W_H46 (i := 0) (j := 0) (by omega) (by omega)) (fun z48 H49 r50 => ?_)
                        obtain ⟨rfl, W_H49⟩ := r50
                        obtain ⟨od_H49, e28_H49⟩ := W_H49.x28
                        refine Y_ic_ne (a := (unl S 0 0 0)) (b := (unl S 0 0 0)) (by omega) hk rfl (fun g51 => ?_) (fun g51 => ?_)
                        · exfalso; omega
                        ·
                          refine E_run hk 2 (j' := 76) (lv' := [(4, yi 1), (3, yi ((S 0) - (S 1))), (2, yi 0), (0, .ref 28), (1, yi x)]) (st' := [.ref 28, .ref 28]) (hp' := H49) rfl ?_
                          refine Y_callE hk rfl (as := [.ref 28]) (rest := [.ref 28]) rfl rfl (Nat.le_of_ble_eq_true rfl) (rcv0 e28_H49) (Nat.le_of_ble_eq_true rfl) (p_neededBound W_H49 (by omega)) (fun z52 H53 r54 => ?_)
                          obtain ⟨nz_z52, W_H53⟩ := r54
                          have e_z52 : 0 ≤ z52 ∧ z52 ≤ 20 ∧ cst S 0 z52 = cst S 0 20 := Or.elim nz_z52 (fun v => absurd v.1 hnb) (fun v => v.2)
                          obtain ⟨od_H53, e28_H53⟩ := W_H53.x28
                          refine Y_callE hk rfl (as := [.ref 28, yi z52]) (rest := []) rfl rfl (Nat.le_of_ble_eq_true rfl) (rcv0 e28_H53) (Nat.le_of_ble_eq_true rfl) (p_cwb W_H53 (y := z52) (by omega) (by omega) nb4.2 (by omega)) (fun z55 H56 r57 => ?_)
                          obtain ⟨rfl, W_H56⟩ := r57
                          obtain ⟨od_H56, e28_H56⟩ := W_H56.x28
                          refine E_run hk 2 (j' := 80) (lv' := [(4, yi 1), (3, yi ((S 0) - (S 1))), (2, yi 0), (0, .ref 28), (1, yi x)]) (st' := [yi 20, .ref 28, yi (cst S 0 20)]) (hp' := H56) rfl ?_
                          refine Y_callE hk rfl (as := [.ref 28, yi 20]) (rest := [yi (cst S 0 20)]) rfl rfl (Nat.le_of_ble_eq_true rfl) (rcv0 e28_H56) (Nat.le_of_ble_eq_true rfl) (p_cwb W_H56 (y := 20) (by omega) rfl nb4.2 (by omega)) (fun z58 H59 r60 => ?_)
                          obtain ⟨rfl, W_H59⟩ := r60
                          obtain ⟨od_H59, e28_H59⟩ := W_H59.x28
                          refine Y_ic_ne (a := (cst S 0 20)) (b := (cst S 0 20)) (by omega) hk rfl (fun g61 => ?_) (fun g61 => ?_)
                          · exfalso; omega
                          ·
                            refine E_run hk 4 (j' := 87) (lv' := [(4, yi 1), (3, yi ((S 0) - (S 1))), (2, yi 0), (0, .ref 28), (1, yi x)]) (st' := [.ref 28]) (hp' := H59) rfl ?_
                            refine Y_callE hk rfl (as := [.ref 28]) (rest := []) rfl rfl (Nat.le_of_ble_eq_true rfl) (rcv0 e28_H59) (Nat.le_of_ble_eq_true rfl) (p_isM0 W_H59 hnm (by omega)) (fun z62 H63 r64 => ?_)
                            obtain ⟨rfl, W_H63⟩ := r64
                            obtain ⟨od_H63, e28_H63⟩ := W_H63.x28
                            refine Y_if_ne (a := 0) (by omega) hk rfl (fun g65 => ?_) (fun g65 => ?_)
                            · exfalso; omega
                            ·
                              refine E_run hk 1 (j' := 90) (lv' := [(4, yi 1), (3, yi ((S 0) - (S 1))), (2, yi 0), (0, .ref 28), (1, yi x)]) (st' := [yi 1]) (hp' := H63) rfl ?_
                              refine Y_if_eq (a := 1) (by omega) hk rfl (fun g66 => ?_) (fun g66 => ?_)
                              · exfalso; omega
                              ·
                                refine E_run hk 1 (j' := 92) (lv' := [(4, yi 1), (3, yi ((S 0) - (S 1))), (2, yi 0), (0, .ref 28), (1, yi x)]) (st' := [.ref 28]) (hp' := H63) rfl ?_
                                refine Y_callE hk rfl (as := [.ref 28]) (rest := []) rfl rfl (Nat.le_of_ble_eq_true rfl) (rcv0 e28_H63) (Nat.le_of_ble_eq_true rfl) (p_bestMatches0 W_H63 hnm (by omega)) (fun z67 H68 r69 => ?_)
                                obtain ⟨rfl, W_H68⟩ := r69
                                obtain ⟨od_H68, e28_H68⟩ := W_H68.x28
                                refine Y_if_ne (a := 0) (by omega) hk rfl (fun g70 => ?_) (fun g70 => ?_)
                                · exfalso; omega
                                ·
                                  refine E_run hk 1 (j' := 95) (lv' := [(4, yi 1), (3, yi ((S 0) - (S 1))), (2, yi 0), (0, .ref 28), (1, yi x)]) (st' := [.ref 28]) (hp' := H68) rfl ?_
                                  refine Y_callD hk rfl (as := [.ref 28]) (rest := []) rfl rfl (Nat.le_of_ble_eq_true rfl) (rcv0 e28_H68) (Nat.le_of_ble_eq_true rfl) (p_even0 W_H68 hnm (by omega)) (fun z71 H72 r73 => ?_)
                                  obtain ⟨rfl, W_H72⟩ := r73
                                  obtain ⟨od_H72, e28_H72⟩ := W_H72.x28
                                  refine E_run hk 1 (j' := 97) (lv' := [(4, yi 1), (3, yi ((S 0) - (S 1))), (2, yi 0), (0, .ref 28), (1, yi x)]) (st' := [.double FP.dconst0, .double FP.dconst0]) (hp' := H72) rfl ?_
                                  refine Y_dcmp (x := FP.dconst0) (y := FP.dconst0) (z := 0) (by rw [shv_0]; rfl) hk rfl ?_
                                  refine Y_if_ne (a := 0) (by omega) hk rfl (fun g74 => ?_) (fun g74 => ?_)
                                  · exfalso; omega
                                  ·
                                    refine E_run hk 2 (j' := 102) (lv' := [(4, yi 1), (3, yi ((S 0) - (S 1))), (2, yi 0), (0, .ref 28), (1, yi x)]) (st' := [yi 1]) (hp' := H72) rfl ?_
                                    exact E_ret hk rfl rfl ⟨_, rfl, rfl, W_H72.mono (by omega)⟩
            · exfalso; omega
        · exfalso; omega
    · exfalso; omega
theorem hol_u2 {L : Nat} {F : Int → Int} {b n : Int} {h : xH} {S T : Int → Int} {x : Int} {d : Nat} (hd : 7 ≤ d) (W_h : pzI L F b h n S T) (hx9 : -2147483648 ≤ x ∧ x ≤ 2147483647) (ha : ¬ S 0 = 0) (ha2 : ¬ S 1 = 0) (hu : ¬ S 2 < S 0 - S 1) (hu2 : S 2 < S 1 - S 0) : Cv d 118 [.ref 28, yi x] h (yE (fun z h1 => z = 1 ∧ pzI L F (b + 450) h1 n S T)) := by
  have hk : xtab 118 = (xc_118, 13, 2, []) := rfl
  obtain ⟨d, rfl⟩ : ∃ e, d = e + 1 := ⟨d - 1, by omega⟩
  obtain ⟨nu, nn, n5⟩ := W_h.nums
  have hnm : ¬ (0 < S 0 ∧ 0 < S 1 ∧ -S 2 ≤ S 0 - S 1 ∧ S 0 - S 1 ≤ S 2) := by omega
  have hnb : ¬ (S 0 = 0 ∨ S 1 = 0) := by omega
  obtain ⟨nb1, nb2, nb3, nb4, nb5, nb6⟩ := nb_ok W_h.2.2.2.1.1 hnb
  show Ev (d + 1) 118 0 [(0, .ref 28), (1, yi x)] [] h _
  obtain ⟨od_h, e28_h⟩ := W_h.x28
  refine E_run hk 2 (j' := 2) (lv' := [(0, .ref 28), (1, yi x)]) (st' := [yi 0, .ref 28]) (hp' := h) rfl ?_
  refine Y_callE hk rfl (as := [.ref 28, yi 0]) (rest := []) rfl rfl (Nat.le_of_ble_eq_true rfl) (rcv0 e28_h) (Nat.le_of_ble_eq_true rfl) (p_notes W_h (x := 0) (by omega) (by omega)) (fun z1 H2 r3 => ?_)
  obtain ⟨e_z1, W_H2⟩ := r3
  have e_z1 : z1 = S 0 := e_z1
  subst e_z1
  obtain ⟨od_H2, e28_H2⟩ := W_H2.x28
  refine Y_if_eq (a := (S 0)) (by omega) hk rfl (fun g4 => ?_) (fun g4 => ?_)
  · exfalso; omega
  ·
    refine E_run hk 2 (j' := 6) (lv' := [(0, .ref 28), (1, yi x)]) (st' := [yi 1, .ref 28]) (hp' := H2) rfl ?_
    refine Y_callE hk rfl (as := [.ref 28, yi 1]) (rest := []) rfl rfl (Nat.le_of_ble_eq_true rfl) (rcv0 e28_H2) (Nat.le_of_ble_eq_true rfl) (p_notes W_H2 (x := 1) (by omega) (by omega)) (fun z5 H6 r7 => ?_)
    obtain ⟨e_z5, W_H6⟩ := r7
    have e_z5 : z5 = S 1 := e_z5
    subst e_z5
    obtain ⟨od_H6, e28_H6⟩ := W_H6.x28
    refine Y_if_ne (a := (S 1)) (by omega) hk rfl (fun g8 => ?_) (fun g8 => ?_)
    ·
      refine E_run hk 4 (j' := 14) (lv' := [(2, yi 0), (0, .ref 28), (1, yi x)]) (st' := [yi 0, .ref 28]) (hp' := H6) rfl ?_
      refine Y_callE hk rfl (as := [.ref 28, yi 0]) (rest := []) rfl rfl (Nat.le_of_ble_eq_true rfl) (rcv0 e28_H6) (Nat.le_of_ble_eq_true rfl) (p_notes W_H6 (x := 0) (by omega) (by omega)) (fun z9 H10 r11 => ?_)
      obtain ⟨e_z9, W_H10⟩ := r11
      have e_z9 : z9 = S 0 := e_z9
      subst e_z9
      obtain ⟨od_H10, e28_H10⟩ := W_H10.x28
      refine E_run hk 2 (j' := 17) (lv' := [(2, yi 0), (0, .ref 28), (1, yi x)]) (st' := [yi 1, .ref 28, yi (S 0)]) (hp' := H10) rfl ?_
      refine Y_callE hk rfl (as := [.ref 28, yi 1]) (rest := [yi (S 0)]) rfl rfl (Nat.le_of_ble_eq_true rfl) (rcv0 e28_H10) (Nat.le_of_ble_eq_true rfl) (p_notes W_H10 (x := 1) (by omega) (by omega)) (fun z12 H13 r14 => ?_)
      obtain ⟨e_z12, W_H13⟩ := r14
      have e_z12 : z12 = S 1 := e_z12
      subst e_z12
      obtain ⟨od_H13, e28_H13⟩ := W_H13.x28
      refine Y_isub (a := (S 0)) (b := (S 1)) hk rfl ?_
      refine E_run hk 2 (j' := 21) (lv' := [(3, yi ((S 0) - (S 1))), (2, yi 0), (0, .ref 28), (1, yi x)]) (st' := [.ref 28]) (hp' := H13) rfl ?_
      refine Y_callE hk rfl (as := [.ref 28]) (rest := []) rfl rfl (Nat.le_of_ble_eq_true rfl) (rcv0 e28_H13) (Nat.le_of_ble_eq_true rfl) (p_isM0 W_H13 hnm (by omega)) (fun z15 H16 r17 => ?_)
      obtain ⟨rfl, W_H16⟩ := r17
      obtain ⟨od_H16, e28_H16⟩ := W_H16.x28
      refine E_run hk 1 (j' := 23) (lv' := [(3, yi ((S 0) - (S 1))), (2, yi 0), (0, .ref 28), (1, yi x)]) (st' := [yi 0, yi 0]) (hp' := H16) rfl ?_
      refine Y_if_ne (a := 0) (by omega) hk rfl (fun g18 => ?_) (fun g18 => ?_)
      · exfalso; omega
      ·
        refine E_run hk 2 (j' := 26) (lv' := [(3, yi ((S 0) - (S 1))), (2, yi 0), (0, .ref 28), (1, yi x)]) (st' := [.ref 28, yi ((S 0) - (S 1)), yi 0]) (hp' := H16) rfl ?_
        refine Y_callE hk rfl (as := [.ref 28]) (rest := [yi ((S 0) - (S 1)), yi 0]) rfl rfl (Nat.le_of_ble_eq_true rfl) (rcv0 e28_H16) (Nat.le_of_ble_eq_true rfl) (p_bound W_H16  (by omega)) (fun z19 H20 r21 => ?_)
        obtain ⟨rfl, W_H20⟩ := r21
        obtain ⟨od_H20, e28_H20⟩ := W_H20.x28
        refine Y_ic_gt (a := ((S 0) - (S 1))) (b := (S 2)) (by omega) hk rfl (fun g22 => ?_) (fun g22 => ?_)
        · exfalso; omega
        ·
          refine E_run hk 1 (j' := 29) (lv' := [(3, yi ((S 0) - (S 1))), (2, yi 0), (0, .ref 28), (1, yi x)]) (st' := [yi ((S 0) - (S 1)), yi 0]) (hp' := H20) rfl ?_
          refine Y_ineg (a := ((S 0) - (S 1))) hk rfl ?_
          refine E_run hk 1 (j' := 31) (lv' := [(3, yi ((S 0) - (S 1))), (2, yi 0), (0, .ref 28), (1, yi x)]) (st' := [.ref 28, yi (-((S 0) - (S 1))), yi 0]) (hp' := H20) rfl ?_
          refine Y_callE hk rfl (as := [.ref 28]) (rest := [yi (-((S 0) - (S 1))), yi 0]) rfl rfl (Nat.le_of_ble_eq_true rfl) (rcv0 e28_H20) (Nat.le_of_ble_eq_true rfl) (p_bound W_H20  (by omega)) (fun z23 H24 r25 => ?_)
          obtain ⟨rfl, W_H24⟩ := r25
          obtain ⟨od_H24, e28_H24⟩ := W_H24.x28
          refine Y_ic_gt (a := (-((S 0) - (S 1)))) (b := (S 2)) (by omega) hk rfl (fun g26 => ?_) (fun g26 => ?_)
          ·
            refine E_run hk 1 (j' := 36) (lv' := [(3, yi ((S 0) - (S 1))), (2, yi 0), (0, .ref 28), (1, yi x)]) (st' := [yi 0, yi 0]) (hp' := H24) rfl ?_
            refine Y_ic_ne (a := 0) (b := 0) (by omega) hk rfl (fun g27 => ?_) (fun g27 => ?_)
            · exfalso; omega
            ·
              refine E_run hk 1 (j' := 38) (lv' := [(3, yi ((S 0) - (S 1))), (2, yi 0), (0, .ref 28), (1, yi x)]) (st' := [.ref 28]) (hp' := H24) rfl ?_
              refine Y_callE hk rfl (as := [.ref 28]) (rest := []) rfl rfl (Nat.le_of_ble_eq_true rfl) (rcv0 e28_H24) (Nat.le_of_ble_eq_true rfl) (p_neededBound W_H24 (by omega)) (fun z28 H29 r30 => ?_)
              obtain ⟨nz_z28, W_H29⟩ := r30
              have e_z28 : 0 ≤ z28 ∧ z28 ≤ 20 ∧ cst S 0 z28 = cst S 0 20 := Or.elim nz_z28 (fun v => absurd v.1 hnb) (fun v => v.2)
              obtain ⟨od_H29, e28_H29⟩ := W_H29.x28
              refine E_run hk 1 (j' := 40) (lv' := [(3, yi ((S 0) - (S 1))), (2, yi 0), (0, .ref 28), (1, yi x)]) (st' := [yi (-1), yi z28]) (hp' := H29) rfl ?_
              refine Y_ic_ne (a := z28) (b := (-1)) (by omega) hk rfl (fun g31 => ?_) (fun g31 => ?_)
              ·
                refine E_run hk 2 (j' := 45) (lv' := [(3, yi ((S 0) - (S 1))), (2, yi 0), (0, .ref 28), (1, yi x)]) (st' := [yi 0, yi 0]) (hp' := H29) rfl ?_
                refine Y_ic_ne (a := 0) (b := 0) (by omega) hk rfl (fun g32 => ?_) (fun g32 => ?_)
                · exfalso; omega
                ·
                  refine E_run hk 4 (j' := 51) (lv' := [(4, yi 1), (3, yi ((S 0) - (S 1))), (2, yi 0), (0, .ref 28), (1, yi x)]) (st' := [yi 0]) (hp' := H29) rfl ?_
                  refine Y_if_ne (a := 0) (by omega) hk rfl (fun g33 => ?_) (fun g33 => ?_)
                  · exfalso; omega
                  ·
                    refine E_run hk 1 (j' := 53) (lv' := [(4, yi 1), (3, yi ((S 0) - (S 1))), (2, yi 0), (0, .ref 28), (1, yi x)]) (st' := [yi 1]) (hp' := H29) rfl ?_
                    refine Y_if_eq (a := 1) (by omega) hk rfl (fun g34 => ?_) (fun g34 => ?_)
                    · exfalso; omega
                    ·
                      refine E_run hk 1 (j' := 55) (lv' := [(4, yi 1), (3, yi ((S 0) - (S 1))), (2, yi 0), (0, .ref 28), (1, yi x)]) (st' := [.ref 28]) (hp' := H29) rfl ?_
                      refine Y_callE hk rfl (as := [.ref 28]) (rest := []) rfl rfl (Nat.le_of_ble_eq_true rfl) (rcv0 e28_H29) (Nat.le_of_ble_eq_true rfl) (p_partBegin W_H29 hnb (by omega)) (fun z35 H36 r37 => ?_)
                      obtain ⟨rfl, W_H36⟩ := r37
                      obtain ⟨od_H36, e28_H36⟩ := W_H36.x28
                      refine E_run hk 1 (j' := 57) (lv' := [(4, yi 1), (3, yi ((S 0) - (S 1))), (2, yi 0), (0, .ref 28), (1, yi x)]) (st' := [.ref 28, yi (pb (unl S 0) (S 3) (S 0 - 1) (pend S))]) (hp' := H36) rfl ?_
                      refine Y_callE hk rfl (as := [.ref 28]) (rest := [yi (pb (unl S 0) (S 3) (S 0 - 1) (pend S))]) rfl rfl (Nat.le_of_ble_eq_true rfl) (rcv0 e28_H36) (Nat.le_of_ble_eq_true rfl) (p_partEnd W_H36 hnb (by omega)) (fun z38 H39 r40 => ?_)
                      obtain ⟨rfl, W_H39⟩ := r40
                      obtain ⟨od_H39, e28_H39⟩ := W_H39.x28
                      refine Y_ic_gt (a := (pb (unl S 0) (S 3) (S 0 - 1) (pend S))) (b := (pend S)) (by omega) hk rfl (fun g41 => ?_) (fun g41 => ?_)
                      · exfalso; omega
                      ·
                        refine E_run hk 1 (j' := 60) (lv' := [(4, yi 1), (3, yi ((S 0) - (S 1))), (2, yi 0), (0, .ref 28), (1, yi x)]) (st' := [.ref 28]) (hp' := H39) rfl ?_
                        refine Y_callE hk rfl (as := [.ref 28]) (rest := []) rfl rfl (Nat.le_of_ble_eq_true rfl) (rcv0 e28_H39) (Nat.le_of_ble_eq_true rfl) (p_partCost W_H39 hnb (by omega)) (fun z42 H43 r44 => ?_)
                        obtain ⟨rfl, W_H43⟩ := r44
                        obtain ⟨od_H43, e28_H43⟩ := W_H43.x28
                        refine E_run hk 2 (j' := 63) (lv' := [(4, yi 1), (3, yi ((S 0) - (S 1))), (2, yi 0), (0, .ref 28), (1, yi x)]) (st' := [yi 20, .ref 28, yi (pc (unl S 0) (S 3) (S 0 - 1) (pend S))]) (hp' := H43) rfl ?_
                        refine Y_callE hk rfl (as := [.ref 28, yi 20]) (rest := [yi (pc (unl S 0) (S 3) (S 0 - 1) (pend S))]) rfl rfl (Nat.le_of_ble_eq_true rfl) (rcv0 e28_H43) (Nat.le_of_ble_eq_true rfl) (p_cwb W_H43 (y := 20) (by omega) rfl nb4.2 (by omega)) (fun z45 H46 r47 => ?_)
                        obtain ⟨rfl, W_H46⟩ := r47
                        obtain ⟨od_H46, e28_H46⟩ := W_H46.x28
                        refine Y_ic_gt (a := (pc (unl S 0) (S 3) (S 0 - 1) (pend S))) (b := (cst S 0 20)) (by omega) hk rfl (fun g48 => ?_) (fun g48 => ?_)
                        · exfalso; omega
                        ·
                          refine E_run hk 3 (j' := 68) (lv' := [(4, yi 1), (3, yi ((S 0) - (S 1))), (2, yi 0), (0, .ref 28), (1, yi x)]) (st' := [yi 0, yi 0, .ref 28]) (hp' := H46) rfl ?_
                          refine Y_callE hk rfl (as := [.ref 28, yi 0, yi 0]) (rest := []) rfl rfl (Nat.le_of_ble_eq_true rfl) (rcv0 e28_H46) (Nat.le_of_ble_eq_true rfl) (p_costTo W_H46 (i := 0) (j := 0) (by omega) (by omega)) (fun z49 H50 r51 => ?_)
                          obtain ⟨e_z49, W_H50⟩ := r51
                          rw [nb5] at e_z49
                          subst e_z49
                          obtain ⟨od_H50, e28_H50⟩ := W_H50.x28
                          refine E_run hk 3 (j' := 72) (lv' := [(4, yi 1), (3, yi ((S 0) - (S 1))), (2, yi 0), (0, .ref 28), (1, yi x)]) (st' := [yi 0, yi 0, .ref 28, yi (unl S 0 0 0)]) (hp' := H50) rfl ?_
                          refine Y_callE hk rfl (as := [.ref 28, yi 0, yi 0]) (rest := [yi (unl S 0 0 0)]) rfl rfl (Nat.le_of_ble_eq_true rfl) (rcv0 e28_H50) (Nat.le_of_ble_eq_true rfl) (p_unlike W_H50 (i := 0) (j := 0) (by omega) (by omega)) (fun z52 H53 r54 => ?_)
                          obtain ⟨rfl, W_H53⟩ := r54
                          obtain ⟨od_H53, e28_H53⟩ := W_H53.x28
                          refine Y_ic_ne (a := (unl S 0 0 0)) (b := (unl S 0 0 0)) (by omega) hk rfl (fun g55 => ?_) (fun g55 => ?_)
                          · exfalso; omega
                          ·
                            refine E_run hk 2 (j' := 76) (lv' := [(4, yi 1), (3, yi ((S 0) - (S 1))), (2, yi 0), (0, .ref 28), (1, yi x)]) (st' := [.ref 28, .ref 28]) (hp' := H53) rfl ?_
                            refine Y_callE hk rfl (as := [.ref 28]) (rest := [.ref 28]) rfl rfl (Nat.le_of_ble_eq_true rfl) (rcv0 e28_H53) (Nat.le_of_ble_eq_true rfl) (p_neededBound W_H53 (by omega)) (fun z56 H57 r58 => ?_)
                            obtain ⟨nz_z56, W_H57⟩ := r58
                            have e_z56 : 0 ≤ z56 ∧ z56 ≤ 20 ∧ cst S 0 z56 = cst S 0 20 := Or.elim nz_z56 (fun v => absurd v.1 hnb) (fun v => v.2)
                            obtain ⟨od_H57, e28_H57⟩ := W_H57.x28
                            refine Y_callE hk rfl (as := [.ref 28, yi z56]) (rest := []) rfl rfl (Nat.le_of_ble_eq_true rfl) (rcv0 e28_H57) (Nat.le_of_ble_eq_true rfl) (p_cwb W_H57 (y := z56) (by omega) (by omega) nb4.2 (by omega)) (fun z59 H60 r61 => ?_)
                            obtain ⟨rfl, W_H60⟩ := r61
                            obtain ⟨od_H60, e28_H60⟩ := W_H60.x28
                            refine E_run hk 2 (j' := 80) (lv' := [(4, yi 1), (3, yi ((S 0) - (S 1))), (2, yi 0), (0, .ref 28), (1, yi x)]) (st' := [yi 20, .ref 28, yi (cst S 0 20)]) (hp' := H60) rfl ?_
                            refine Y_callE hk rfl (as := [.ref 28, yi 20]) (rest := [yi (cst S 0 20)]) rfl rfl (Nat.le_of_ble_eq_true rfl) (rcv0 e28_H60) (Nat.le_of_ble_eq_true rfl) (p_cwb W_H60 (y := 20) (by omega) rfl nb4.2 (by omega)) (fun z62 H63 r64 => ?_)
                            obtain ⟨rfl, W_H63⟩ := r64
                            obtain ⟨od_H63, e28_H63⟩ := W_H63.x28
                            refine Y_ic_ne (a := (cst S 0 20)) (b := (cst S 0 20)) (by omega) hk rfl (fun g65 => ?_) (fun g65 => ?_)
                            · exfalso; omega
                            ·
                              refine E_run hk 4 (j' := 87) (lv' := [(4, yi 1), (3, yi ((S 0) - (S 1))), (2, yi 0), (0, .ref 28), (1, yi x)]) (st' := [.ref 28]) (hp' := H63) rfl ?_
                              refine Y_callE hk rfl (as := [.ref 28]) (rest := []) rfl rfl (Nat.le_of_ble_eq_true rfl) (rcv0 e28_H63) (Nat.le_of_ble_eq_true rfl) (p_isM0 W_H63 hnm (by omega)) (fun z66 H67 r68 => ?_)
                              obtain ⟨rfl, W_H67⟩ := r68
                              obtain ⟨od_H67, e28_H67⟩ := W_H67.x28
                              refine Y_if_ne (a := 0) (by omega) hk rfl (fun g69 => ?_) (fun g69 => ?_)
                              · exfalso; omega
                              ·
                                refine E_run hk 1 (j' := 90) (lv' := [(4, yi 1), (3, yi ((S 0) - (S 1))), (2, yi 0), (0, .ref 28), (1, yi x)]) (st' := [yi 1]) (hp' := H67) rfl ?_
                                refine Y_if_eq (a := 1) (by omega) hk rfl (fun g70 => ?_) (fun g70 => ?_)
                                · exfalso; omega
                                ·
                                  refine E_run hk 1 (j' := 92) (lv' := [(4, yi 1), (3, yi ((S 0) - (S 1))), (2, yi 0), (0, .ref 28), (1, yi x)]) (st' := [.ref 28]) (hp' := H67) rfl ?_
                                  refine Y_callE hk rfl (as := [.ref 28]) (rest := []) rfl rfl (Nat.le_of_ble_eq_true rfl) (rcv0 e28_H67) (Nat.le_of_ble_eq_true rfl) (p_bestMatches0 W_H67 hnm (by omega)) (fun z71 H72 r73 => ?_)
                                  obtain ⟨rfl, W_H72⟩ := r73
                                  obtain ⟨od_H72, e28_H72⟩ := W_H72.x28
                                  refine Y_if_ne (a := 0) (by omega) hk rfl (fun g74 => ?_) (fun g74 => ?_)
                                  · exfalso; omega
                                  ·
                                    refine E_run hk 1 (j' := 95) (lv' := [(4, yi 1), (3, yi ((S 0) - (S 1))), (2, yi 0), (0, .ref 28), (1, yi x)]) (st' := [.ref 28]) (hp' := H72) rfl ?_
                                    refine Y_callD hk rfl (as := [.ref 28]) (rest := []) rfl rfl (Nat.le_of_ble_eq_true rfl) (rcv0 e28_H72) (Nat.le_of_ble_eq_true rfl) (p_even0 W_H72 hnm (by omega)) (fun z75 H76 r77 => ?_)
                                    obtain ⟨rfl, W_H76⟩ := r77
                                    obtain ⟨od_H76, e28_H76⟩ := W_H76.x28
                                    refine E_run hk 1 (j' := 97) (lv' := [(4, yi 1), (3, yi ((S 0) - (S 1))), (2, yi 0), (0, .ref 28), (1, yi x)]) (st' := [.double FP.dconst0, .double FP.dconst0]) (hp' := H76) rfl ?_
                                    refine Y_dcmp (x := FP.dconst0) (y := FP.dconst0) (z := 0) (by rw [shv_0]; rfl) hk rfl ?_
                                    refine Y_if_ne (a := 0) (by omega) hk rfl (fun g78 => ?_) (fun g78 => ?_)
                                    · exfalso; omega
                                    ·
                                      refine E_run hk 2 (j' := 102) (lv' := [(4, yi 1), (3, yi ((S 0) - (S 1))), (2, yi 0), (0, .ref 28), (1, yi x)]) (st' := [yi 1]) (hp' := H76) rfl ?_
                                      exact E_ret hk rfl rfl ⟨_, rfl, rfl, W_H76.mono (by omega)⟩
              · exfalso; omega
          · exfalso; omega
    · exfalso; omega
theorem hol_103 {L : Nat} {F : Int → Int} {b n : Int} {h : xH} {S T : Int → Int} {x : Int} {d : Nat} (hd : 7 ≤ d) (W_h : pzI L F b h n S T) (hx9 : -2147483648 ≤ x ∧ x ≤ 2147483647) (hm : 0 < S 0 ∧ 0 < S 1 ∧ -S 2 ≤ S 0 - S 1 ∧ S 0 - S 1 ≤ S 2) : Ev d 118 103 [(0, .ref 28), (1, yi x), (4, yi 1)] [] h (yE (fun z h1 => z = 1 ∧ pzI L F (b + 450) h1 n S T)) := by
  have hk : xtab 118 = (xc_118, 13, 2, []) := rfl
  obtain ⟨d, rfl⟩ : ∃ e, d = e + 1 := ⟨d - 1, by omega⟩
  obtain ⟨nu, nn, n5⟩ := W_h.nums
  have ns := W_h.ls
  obtain ⟨m1, m2, m3, m4, m5, m6⟩ := m_ok W_h.2.2.2.1.1 hm
  have hD : ∀ i j, 0 ≤ i → i < S 0 → 0 ≤ j → j < S 1 → 0 ≤ unl S 0 i j ∧ unl S 0 i j ≤ 5184 := fun i j a1 a2 a3 a4 => unl_rng W_h.2.2.2.1.1.1 W_h.2.2.2.1.1.2.1 W_h.2.2.2.1.1.2.2.1 (by omega) a1 a2 a3 a4
  obtain ⟨od_h, e28_h⟩ := W_h.x28
  refine E_run hk 1 (j' := 104) (lv' := [(0, .ref 28), (1, yi x), (4, yi 1)]) (st' := [.ref 28]) (hp' := h) rfl ?_
  refine Y_callE hk rfl (as := [.ref 28]) (rest := []) rfl rfl (Nat.le_of_ble_eq_true rfl) (rcv0 e28_h) (Nat.le_of_ble_eq_true rfl) (p_pairs W_h hm (by omega)) (fun z1 H2 r3 => ?_)
  obtain ⟨⟨p, q, hq⟩, W_H2⟩ := r3
  generalize z1 = c at *
  obtain ⟨gc, g0, gl, gb, gg, gr⟩ := go_ok W_h.2.2.2.1.1.1 W_h.2.2.2.1.1.2.1 W_h.2.2.2.1.1.2.2.1 hm hq
  obtain ⟨od_H2, e28_H2⟩ := W_H2.x28
  refine E_run hk 7 (j' := 112) (lv' := [(8, yi 0), (7, yi 0), (6, yi 0), (5, yi c), (0, .ref 28), (1, yi x), (4, yi 1)]) (st' := []) (hp' := H2) rfl ?_
  have loop112 : ∀ (N : Nat) (k : Int) (s : Int) (hl112 : xH), (0 ≤ k ∧ k ≤ c) → (s = tot S p q c k) → pzI L F (b + 1 + 6 * k) hl112 n S T → (c - k).toNat = N → Ev (d + 1) 118 112 [(0, .ref 28), (1, yi x), (4, yi 1), (5, yi c), (6, yi s), (7, yi 0), (8, yi k)] [] hl112 (yE (fun z h1 => z = 1 ∧ pzI L F (b + 450) h1 n S T)) := by
    intro N
    induction N using Nat.strongRecOn with
    | ind N ih112 =>
      intro k s hl112 hk0 hs W_hl112 hm112
      obtain ⟨od_hl112, e28_hl112⟩ := W_hl112.x28
      rcases kcase hk0 gg with kc | ⟨k0, kc, kp⟩ | ⟨k1, kc, kd1, kd2, kp⟩ | ⟨k1, kc, kd1, kd2, kp⟩ | ⟨k1, kc, kd1, kd2, kp⟩
      · skip
        refine E_run hk 1 (j' := 113) (lv' := [(0, .ref 28), (1, yi x), (4, yi 1), (5, yi c), (6, yi s), (7, yi 0), (8, yi k)]) (st' := [yi k]) (hp' := hl112) rfl ?_
        refine E_run hk 1 (j' := 114) (lv' := [(0, .ref 28), (1, yi x), (4, yi 1), (5, yi c), (6, yi s), (7, yi 0), (8, yi k)]) (st' := [yi c, yi k]) (hp' := hl112) rfl ?_
        refine Y_ic_ge (a := k) (b := c) (by omega) hk rfl (fun g4 => ?_) (fun g4 => ?_)
        ·
          rw [kc, tot_c] at hs
          refine E_run hk 2 (j' := 192) (lv' := [(8, yi 0), (0, .ref 28), (1, yi x), (4, yi 1), (5, yi c), (6, yi s), (7, yi 0)]) (st' := []) (hp' := hl112) rfl ?_
          have loop192 : ∀ (N : Nat) (t : Int) (u : Int) (hl192 : xH), ((t = 0 ∧ u = 0) ∨ (t = 1 ∧ u = c) ∨ (t = 2 ∧ u = 2 * c)) → pzI L F (b + 1 + 6 * c + 80 * t) hl192 n S T → (2 - t).toNat = N → Ev (d + 1) 118 192 [(0, .ref 28), (1, yi x), (4, yi 1), (5, yi c), (6, yi s), (7, yi u), (8, yi t)] [] hl192 (yE (fun z h1 => z = 1 ∧ pzI L F (b + 450) h1 n S T)) := by
            intro N
            induction N using Nat.strongRecOn with
            | ind N ih192 =>
              intro t u hl192 htu W_hl192 hm192
              obtain ⟨od_hl192, e28_hl192⟩ := W_hl192.x28
              refine E_run hk 1 (j' := 193) (lv' := [(0, .ref 28), (1, yi x), (4, yi 1), (5, yi c), (6, yi s), (7, yi u), (8, yi t)]) (st' := [yi t]) (hp' := hl192) rfl ?_
              refine E_run hk 1 (j' := 194) (lv' := [(0, .ref 28), (1, yi x), (4, yi 1), (5, yi c), (6, yi s), (7, yi u), (8, yi t)]) (st' := [yi 2, yi t]) (hp' := hl192) rfl ?_
              refine Y_ic_ge (a := t) (b := 2) (by omega) hk rfl (fun g5 => ?_) (fun g5 => ?_)
              ·
                have lw1 := lwv_rng (v := x) (n := 25) (by decide)
                have sh1 := m5 (lwv x 25 - 12) (by omega) (by omega)
                have sh2 := m6 (lwv x 25 - 12) (by omega) (by omega)
                have sh3 := m6 (shb (fun x => cst S x (S 2)) 12).1 (by omega) (by omega)
                have hl1 := hls_rng S (c - 1).toNat
                have sv := shv_01 (c := c) (e := hls S (c - 1).toNat) (by omega)
                have sv1 := iN_rng (Op.cmpValue (FP.dcmp (shv c (hls S (c - 1).toNat)) FP.dconst0) .l)
                have sv2 := iN_rng (Op.cmpValue (FP.dcmp (shv c (hls S (c - 1).toNat)) FP.dconst1) .g)
                refine E_run hk 1 (j' := 233) (lv' := [(0, .ref 28), (1, yi x), (4, yi 1), (5, yi c), (6, yi s), (7, yi u), (8, yi t)]) (st' := [yi 1]) (hp' := hl192) rfl ?_
                refine Y_if_eq (a := 1) (by omega) hk rfl (fun g6 => ?_) (fun g6 => ?_)
                · exfalso; omega
                ·
                  refine E_run hk 3 (j' := 237) (lv' := [(0, .ref 28), (1, yi x), (4, yi 1), (5, yi c), (6, yi s), (7, yi u), (8, yi t)]) (st' := [yi c, yi 2, yi u]) (hp' := hl192) rfl ?_
                  refine Y_imul (a := 2) (b := c) hk rfl ?_
                  refine Y_ic_ne (a := u) (b := (2 * c)) (by omega) hk rfl (fun g7 => ?_) (fun g7 => ?_)
                  · exfalso; omega
                  ·
                    refine E_run hk 2 (j' := 241) (lv' := [(0, .ref 28), (1, yi x), (4, yi 1), (5, yi c), (6, yi s), (7, yi u), (8, yi t)]) (st' := [.ref 28, yi s]) (hp' := hl192) rfl ?_
                    refine Y_callE hk rfl (as := [.ref 28]) (rest := [yi s]) rfl rfl (Nat.le_of_ble_eq_true rfl) (rcv0 e28_hl192) (Nat.le_of_ble_eq_true rfl) (p_cost W_hl192 hm (by omega)) (fun z8 H9 r10 => ?_)
                    obtain ⟨rfl, W_H9⟩ := r10
                    obtain ⟨od_H9, e28_H9⟩ := W_H9.x28
                    refine Y_ic_ne (a := s) (b := (cst S 0 (S 2))) (by omega) hk rfl (fun g11 => ?_) (fun g11 => ?_)
                    · exfalso; omega
                    ·
                      refine E_run hk 1 (j' := 244) (lv' := [(0, .ref 28), (1, yi x), (4, yi 1), (5, yi c), (6, yi s), (7, yi u), (8, yi t)]) (st' := [.ref 28]) (hp' := H9) rfl ?_
                      refine Y_callE hk rfl (as := [.ref 28]) (rest := []) rfl rfl (Nat.le_of_ble_eq_true rfl) (rcv0 e28_H9) (Nat.le_of_ble_eq_true rfl) (p_costFromEnd W_H9 hm (by omega)) (fun z12 H13 r14 => ?_)
                      obtain ⟨rfl, W_H13⟩ := r14
                      obtain ⟨od_H13, e28_H13⟩ := W_H13.x28
                      refine E_run hk 1 (j' := 246) (lv' := [(0, .ref 28), (1, yi x), (4, yi 1), (5, yi c), (6, yi s), (7, yi u), (8, yi t)]) (st' := [yi s, yi (bwS S 0 0)]) (hp' := H13) rfl ?_
                      refine Y_ic_ne (a := (bwS S 0 0)) (b := s) (by omega) hk rfl (fun g15 => ?_) (fun g15 => ?_)
                      · exfalso; omega
                      ·
                        refine E_run hk 1 (j' := 248) (lv' := [(0, .ref 28), (1, yi x), (4, yi 1), (5, yi c), (6, yi s), (7, yi u), (8, yi t)]) (st' := [.ref 28]) (hp' := H13) rfl ?_
                        refine Y_callE hk rfl (as := [.ref 28]) (rest := []) rfl rfl (Nat.le_of_ble_eq_true rfl) (rcv0 e28_H13) (Nat.le_of_ble_eq_true rfl) (p_bestMatches W_H13 hm (by omega)) (fun z16 H17 r18 => ?_)
                        obtain ⟨rfl, W_H17⟩ := r18
                        obtain ⟨od_H17, e28_H17⟩ := W_H17.x28
                        refine Y_if_le (a := (wy (unl S 0) (S 3) (S 2) (S 0) (S 1) 0 0)) (by omega) hk rfl (fun g19 => ?_) (fun g19 => ?_)
                        · exfalso; omega
                        ·
                          refine E_run hk 1 (j' := 251) (lv' := [(0, .ref 28), (1, yi x), (4, yi 1), (5, yi c), (6, yi s), (7, yi u), (8, yi t)]) (st' := [.ref 28]) (hp' := H17) rfl ?_
                          refine Y_callE hk rfl (as := [.ref 28]) (rest := []) rfl rfl (Nat.le_of_ble_eq_true rfl) (rcv0 e28_H17) (Nat.le_of_ble_eq_true rfl) (p_bestMatches W_H17 hm (by omega)) (fun z20 H21 r22 => ?_)
                          obtain ⟨rfl, W_H21⟩ := r22
                          obtain ⟨od_H21, e28_H21⟩ := W_H21.x28
                          refine E_run hk 1 (j' := 253) (lv' := [(0, .ref 28), (1, yi x), (4, yi 1), (5, yi c), (6, yi s), (7, yi u), (8, yi t)]) (st' := [yi 1000000, yi (wy (unl S 0) (S 3) (S 2) (S 0) (S 1) 0 0)]) (hp' := H21) rfl ?_
                          refine Y_ic_gt (a := (wy (unl S 0) (S 3) (S 2) (S 0) (S 1) 0 0)) (b := 1000000) (by omega) hk rfl (fun g23 => ?_) (fun g23 => ?_)
                          · exfalso; omega
                          ·
                            refine E_run hk 2 (j' := 256) (lv' := [(0, .ref 28), (1, yi x), (4, yi 1), (5, yi c), (6, yi s), (7, yi u), (8, yi t)]) (st' := [.ref 28, .ref 28]) (hp' := H21) rfl ?_
                            refine Y_callE hk rfl (as := [.ref 28]) (rest := [.ref 28]) rfl rfl (Nat.le_of_ble_eq_true rfl) (rcv0 e28_H21) (Nat.le_of_ble_eq_true rfl) (p_bestShift W_H21 hm (by omega)) (fun z24 H25 r26 => ?_)
                            obtain ⟨rfl, W_H25⟩ := r26
                            obtain ⟨od_H25, e28_H25⟩ := W_H25.x28
                            refine Y_callE hk rfl (as := [.ref 28, yi ((shb (fun x => cst S x (S 2)) 12).1)]) (rest := []) rfl rfl (Nat.le_of_ble_eq_true rfl) (rcv0 e28_H25) (Nat.le_of_ble_eq_true rfl) (p_costWithShift W_H25 (y := ((shb (fun x => cst S x (S 2)) 12).1)) hm (by omega) (by omega)) (fun z27 H28 r29 => ?_)
                            obtain ⟨rfl, W_H28⟩ := r29
                            obtain ⟨od_H28, e28_H28⟩ := W_H28.x28
                            refine E_run hk 3 (j' := 261) (lv' := [(0, .ref 28), (1, yi x), (4, yi 1), (5, yi c), (6, yi s), (7, yi u), (8, yi t)]) (st' := [yi 25, yi x, .ref 28, yi (cst S ((shb (fun x => cst S x (S 2)) 12).1) (S 2))]) (hp' := H28) rfl ?_
                            have q30 := lwv_rng (v := x) (n := 25) (by omega)
                            refine Y_callP hk rfl (as := [yi x, yi 25]) (rest := [.ref 28, yi (cst S ((shb (fun x => cst S x (S 2)) 12).1) (S 2))]) (v := some (yi (lwv x 25))) rfl rfl (Nat.le_of_ble_eq_true rfl) rfl (Nat.le_of_ble_eq_true rfl) (c_L_low (v := x) (n := 25) (by omega)) ?_
                            refine E_run hk 1 (j' := 263) (lv' := [(0, .ref 28), (1, yi x), (4, yi 1), (5, yi c), (6, yi s), (7, yi u), (8, yi t)]) (st' := [yi 12, yi (lwv x 25), .ref 28, yi (cst S ((shb (fun x => cst S x (S 2)) 12).1) (S 2))]) (hp' := H28) rfl ?_
                            refine Y_isub (a := (lwv x 25)) (b := 12) hk rfl ?_
                            refine Y_callE hk rfl (as := [.ref 28, yi ((lwv x 25) - 12)]) (rest := [yi (cst S ((shb (fun x => cst S x (S 2)) 12).1) (S 2))]) rfl rfl (Nat.le_of_ble_eq_true rfl) (rcv0 e28_H28) (Nat.le_of_ble_eq_true rfl) (p_costWithShift W_H28 (y := ((lwv x 25) - 12)) hm (by omega) (by omega)) (fun z31 H32 r33 => ?_)
                            obtain ⟨rfl, W_H32⟩ := r33
                            obtain ⟨od_H32, e28_H32⟩ := W_H32.x28
                            refine Y_ic_gt (a := (cst S ((shb (fun x => cst S x (S 2)) 12).1) (S 2))) (b := (cst S ((lwv x 25) - 12) (S 2))) (by omega) hk rfl (fun g34 => ?_) (fun g34 => ?_)
                            · exfalso; omega
                            ·
                              refine E_run hk 1 (j' := 267) (lv' := [(0, .ref 28), (1, yi x), (4, yi 1), (5, yi c), (6, yi s), (7, yi u), (8, yi t)]) (st' := [.ref 28]) (hp' := H32) rfl ?_
                              refine Y_callD hk rfl (as := [.ref 28]) (rest := []) rfl rfl (Nat.le_of_ble_eq_true rfl) (rcv0 e28_H32) (Nat.le_of_ble_eq_true rfl) (p_evenShare W_H32 hq (by omega)) (fun z35 H36 r37 => ?_)
                              obtain ⟨rfl, W_H36⟩ := r37
                              obtain ⟨od_H36, e28_H36⟩ := W_H36.x28
                              refine E_run hk 1 (j' := 269) (lv' := [(0, .ref 28), (1, yi x), (4, yi 1), (5, yi c), (6, yi s), (7, yi u), (8, yi t)]) (st' := [.double FP.dconst0, .double (shv c (hls S (c - 1).toNat))]) (hp' := H36) rfl ?_
                              refine Y_dcmp (x := (shv c (hls S (c - 1).toNat))) (y := FP.dconst0) (z := (Op.cmpValue (FP.dcmp (shv c (hls S (c - 1).toNat)) FP.dconst0) .l).toInt) ((iN_of _).symm) hk rfl ?_
                              refine Y_if_lt (a := ((Op.cmpValue (FP.dcmp (shv c (hls S (c - 1).toNat)) FP.dconst0) .l).toInt)) (by omega) hk rfl (fun g38 => ?_) (fun g38 => ?_)
                              · exfalso; omega
                              ·
                                refine E_run hk 1 (j' := 272) (lv' := [(0, .ref 28), (1, yi x), (4, yi 1), (5, yi c), (6, yi s), (7, yi u), (8, yi t)]) (st' := [.ref 28]) (hp' := H36) rfl ?_
                                refine Y_callD hk rfl (as := [.ref 28]) (rest := []) rfl rfl (Nat.le_of_ble_eq_true rfl) (rcv0 e28_H36) (Nat.le_of_ble_eq_true rfl) (p_evenShare W_H36 hq (by omega)) (fun z39 H40 r41 => ?_)
                                obtain ⟨rfl, W_H40⟩ := r41
                                obtain ⟨od_H40, e28_H40⟩ := W_H40.x28
                                refine E_run hk 1 (j' := 274) (lv' := [(0, .ref 28), (1, yi x), (4, yi 1), (5, yi c), (6, yi s), (7, yi u), (8, yi t)]) (st' := [.double FP.dconst1, .double (shv c (hls S (c - 1).toNat))]) (hp' := H40) rfl ?_
                                refine Y_dcmp (x := (shv c (hls S (c - 1).toNat))) (y := FP.dconst1) (z := (Op.cmpValue (FP.dcmp (shv c (hls S (c - 1).toNat)) FP.dconst1) .g).toInt) ((iN_of _).symm) hk rfl ?_
                                refine Y_if_gt (a := ((Op.cmpValue (FP.dcmp (shv c (hls S (c - 1).toNat)) FP.dconst1) .g).toInt)) (by omega) hk rfl (fun g42 => ?_) (fun g42 => ?_)
                                · exfalso; omega
                                ·
                                  refine E_run hk 2 (j' := 279) (lv' := [(0, .ref 28), (1, yi x), (4, yi 1), (5, yi c), (6, yi s), (7, yi u), (8, yi t)]) (st' := [yi 1]) (hp' := H40) rfl ?_
                                  exact E_ret hk rfl rfl ⟨_, rfl, rfl, W_H40.mono (by omega)⟩
              ·
                have nt := ns t (by omega) (by omega)
                obtain ⟨st1, st2⟩ := str_ok hm gc g0 gl gg gr (t := t) (by omega)
                refine E_run hk 2 (j' := 197) (lv' := [(9, yi 0), (0, .ref 28), (1, yi x), (4, yi 1), (5, yi c), (6, yi s), (7, yi u), (8, yi t)]) (st' := []) (hp' := hl192) rfl ?_
                have loop197 : ∀ (N : Nat) (k : Int) (y : Int) (hl197 : xH), (0 ≤ k ∧ k ≤ S (0 + t)) → (y = u + scn (sl p q t) c.toNat k.toNat) → pzI L F (b + 1 + 6 * c + 80 * t + 6 * k) hl197 n S T → (S (0 + t) - k).toNat = N → Ev (d + 1) 118 197 [(0, .ref 28), (1, yi x), (4, yi 1), (5, yi c), (6, yi s), (7, yi y), (8, yi t), (9, yi k)] [] hl197 (yE (fun z h1 => z = 1 ∧ pzI L F (b + 450) h1 n S T)) := by
                  intro N
                  induction N using Nat.strongRecOn with
                  | ind N ih197 =>
                    intro k y hl197 hk2 hy W_hl197 hm197
                    obtain ⟨od_hl197, e28_hl197⟩ := W_hl197.x28
                    refine E_run hk 1 (j' := 198) (lv' := [(0, .ref 28), (1, yi x), (4, yi 1), (5, yi c), (6, yi s), (7, yi y), (8, yi t), (9, yi k)]) (st' := [yi k]) (hp' := hl197) rfl ?_
                    refine E_run hk 2 (j' := 200) (lv' := [(0, .ref 28), (1, yi x), (4, yi 1), (5, yi c), (6, yi s), (7, yi y), (8, yi t), (9, yi k)]) (st' := [yi t, .ref 28, yi k]) (hp' := hl197) rfl ?_
                    refine Y_callE hk rfl (as := [.ref 28, yi t]) (rest := [yi k]) rfl rfl (Nat.le_of_ble_eq_true rfl) (rcv0 e28_hl197) (Nat.le_of_ble_eq_true rfl) (p_notes W_hl197 (x := t) (by omega) (by omega)) (fun z43 H44 r45 => ?_)
                    obtain ⟨rfl, W_H44⟩ := r45
                    obtain ⟨od_H44, e28_H44⟩ := W_H44.x28
                    refine Y_ic_ge (a := k) (b := (S (0 + t))) (by omega) hk rfl (fun g46 => ?_) (fun g46 => ?_)
                    ·
                      refine Y_iinc (a := t) (z := 1) hk rfl rfl rfl (by decide) (lv' := [(8, yi (t + 1)), (0, .ref 28), (1, yi x), (4, yi 1), (5, yi c), (6, yi s), (7, yi y), (9, yi k)]) rfl ?_
                      refine E_run hk 1 (j' := 192) (lv' := [(8, yi (t + 1)), (0, .ref 28), (1, yi x), (4, yi 1), (5, yi c), (6, yi s), (7, yi y), (9, yi k)]) (st' := []) (hp' := H44) rfl ?_
                      exact Ev_le (xle_s rfl rfl (xle_s rfl rfl (xle_s rfl rfl (xle_s rfl rfl (xle_s rfl rfl (xle_s rfl rfl (xle_s rfl rfl (xle_z _ rfl)))))))) (ih192 _ (by omega) (t + 1) y H44 (by have w : y = u + c := by { rw [hy, show k = S (0 + t) by omega, st1] }; omega) (W_H44.mono (by omega)) rfl)
                    ·
                      have st3 := st2 k (by omega) (by omega)
                      refine E_run hk 4 (j' := 206) (lv' := [(0, .ref 28), (1, yi x), (4, yi 1), (5, yi c), (6, yi s), (7, yi y), (8, yi t), (9, yi k)]) (st' := [yi k, yi t, .ref 28, yi y]) (hp' := H44) rfl ?_
                      refine Y_callE hk rfl (as := [.ref 28, yi t, yi k]) (rest := [yi y]) rfl rfl (Nat.le_of_ble_eq_true rfl) (rcv0 e28_H44) (Nat.le_of_ble_eq_true rfl) (p_stretch W_H44 hq gc (t := t) (x := k) (by omega) (by omega)) (fun z47 H48 r49 => ?_)
                      obtain ⟨rfl, W_H48⟩ := r49
                      obtain ⟨od_H48, e28_H48⟩ := W_H48.x28
                      refine Y_iadd (a := y) (b := (cnt (sl p q t) k c.toNat)) hk rfl ?_
                      refine E_run hk 2 (j' := 210) (lv' := [(7, yi (y + (cnt (sl p q t) k c.toNat))), (0, .ref 28), (1, yi x), (4, yi 1), (5, yi c), (6, yi s), (8, yi t), (9, yi k)]) (st' := [yi 1]) (hp' := H48) rfl ?_
                      refine Y_if_eq (a := 1) (by omega) hk rfl (fun g50 => ?_) (fun g50 => ?_)
                      · exfalso; omega
                      ·
                        refine E_run hk 3 (j' := 214) (lv' := [(7, yi (y + (cnt (sl p q t) k c.toNat))), (0, .ref 28), (1, yi x), (4, yi 1), (5, yi c), (6, yi s), (8, yi t), (9, yi k)]) (st' := [yi k, yi t, .ref 28]) (hp' := H48) rfl ?_
                        refine Y_callE hk rfl (as := [.ref 28, yi t, yi k]) (rest := []) rfl rfl (Nat.le_of_ble_eq_true rfl) (rcv0 e28_H48) (Nat.le_of_ble_eq_true rfl) (p_stretch W_H48 hq gc (t := t) (x := k) (by omega) (by omega)) (fun z51 H52 r53 => ?_)
                        obtain ⟨rfl, W_H52⟩ := r53
                        obtain ⟨od_H52, e28_H52⟩ := W_H52.x28
                        refine Y_if_le (a := (cnt (sl p q t) k c.toNat)) (by omega) hk rfl (fun g54 => ?_) (fun g54 => ?_)
                        · exfalso; omega
                        ·
                          refine E_run hk 3 (j' := 219) (lv' := [(7, yi (y + (cnt (sl p q t) k c.toNat))), (0, .ref 28), (1, yi x), (4, yi 1), (5, yi c), (6, yi s), (8, yi t), (9, yi k)]) (st' := [yi k, yi t, .ref 28]) (hp' := H52) rfl ?_
                          refine Y_callE hk rfl (as := [.ref 28, yi t, yi k]) (rest := []) rfl rfl (Nat.le_of_ble_eq_true rfl) (rcv0 e28_H52) (Nat.le_of_ble_eq_true rfl) (p_stretch W_H52 hq gc (t := t) (x := k) (by omega) (by omega)) (fun z55 H56 r57 => ?_)
                          obtain ⟨rfl, W_H56⟩ := r57
                          obtain ⟨od_H56, e28_H56⟩ := W_H56.x28
                          refine E_run hk 2 (j' := 222) (lv' := [(7, yi (y + (cnt (sl p q t) k c.toNat))), (0, .ref 28), (1, yi x), (4, yi 1), (5, yi c), (6, yi s), (8, yi t), (9, yi k)]) (st' := [yi t, .ref 28, yi (cnt (sl p q t) k c.toNat)]) (hp' := H56) rfl ?_
                          refine Y_callE hk rfl (as := [.ref 28, yi t]) (rest := [yi (cnt (sl p q t) k c.toNat)]) rfl rfl (Nat.le_of_ble_eq_true rfl) (rcv0 e28_H56) (Nat.le_of_ble_eq_true rfl) (p_longestStretch W_H56 hq gc (t := t) (by omega) (by omega)) (fun z58 H59 r60 => ?_)
                          obtain ⟨rfl, W_H59⟩ := r60
                          obtain ⟨od_H59, e28_H59⟩ := W_H59.x28
                          refine Y_ic_gt (a := (cnt (sl p q t) k c.toNat)) (b := (lng (sl p q t) c.toNat (S (0 + t)).toNat)) (by omega) hk rfl (fun g61 => ?_) (fun g61 => ?_)
                          · exfalso; omega
                          ·
                            refine E_run hk 3 (j' := 228) (lv' := [(4, yi 1), (7, yi (y + (cnt (sl p q t) k c.toNat))), (0, .ref 28), (1, yi x), (5, yi c), (6, yi s), (8, yi t), (9, yi k)]) (st' := []) (hp' := H59) rfl ?_
                            refine Y_iinc (a := k) (z := 1) hk rfl rfl rfl (by decide) (lv' := [(9, yi (k + 1)), (4, yi 1), (7, yi (y + (cnt (sl p q t) k c.toNat))), (0, .ref 28), (1, yi x), (5, yi c), (6, yi s), (8, yi t)]) rfl ?_
                            refine E_run hk 1 (j' := 197) (lv' := [(9, yi (k + 1)), (4, yi 1), (7, yi (y + (cnt (sl p q t) k c.toNat))), (0, .ref 28), (1, yi x), (5, yi c), (6, yi s), (8, yi t)]) (st' := []) (hp' := H59) rfl ?_
                            exact Ev_le (xle_s rfl rfl (xle_s rfl rfl (xle_s rfl rfl (xle_s rfl rfl (xle_s rfl rfl (xle_s rfl rfl (xle_s rfl rfl (xle_s rfl rfl (xle_z _ rfl))))))))) (ih197 _ (by omega) (k + 1) (y + (cnt (sl p q t) k c.toNat)) H59 (by omega) (by rw [scn_s (by omega)]; omega) (W_H59.mono (by omega)) rfl)
                exact Ev_le (xle_s rfl rfl (xle_s rfl rfl (xle_s rfl rfl (xle_s rfl rfl (xle_s rfl rfl (xle_s rfl rfl (xle_s rfl rfl (xle_s rfl rfl (xle_z _ rfl))))))))) (loop197 _ 0 u hl192 (by omega) (by show u = u + 0; omega) (W_hl192.mono (by omega)) rfl)
          exact Ev_le (xle_s rfl rfl (xle_s rfl rfl (xle_s rfl rfl (xle_s rfl rfl (xle_s rfl rfl (xle_s rfl rfl (xle_s rfl rfl (xle_z _ rfl)))))))) (loop192 _ 0 0 hl112 (Or.inl ⟨rfl, rfl⟩) (W_hl112.mono (by omega)) rfl)
        · exfalso; omega
      · skip
        have gk := gr k (by omega) (by omega)
        have ud := hD (p k) (q k) (by omega) (by omega) (by omega) (by omega)
        refine E_run hk 1 (j' := 113) (lv' := [(0, .ref 28), (1, yi x), (4, yi 1), (5, yi c), (6, yi s), (7, yi 0), (8, yi k)]) (st' := [yi k]) (hp' := hl112) rfl ?_
        refine E_run hk 1 (j' := 114) (lv' := [(0, .ref 28), (1, yi x), (4, yi 1), (5, yi c), (6, yi s), (7, yi 0), (8, yi k)]) (st' := [yi c, yi k]) (hp' := hl112) rfl ?_
        refine Y_ic_ge (a := k) (b := c) (by omega) hk rfl (fun g62 => ?_) (fun g62 => ?_)
        · exfalso; omega
        ·
          refine E_run hk 3 (j' := 118) (lv' := [(0, .ref 28), (1, yi x), (4, yi 1), (5, yi c), (6, yi s), (7, yi 0), (8, yi k)]) (st' := [yi k, yi 0, .ref 28]) (hp' := hl112) rfl ?_
          refine Y_callE hk rfl (as := [.ref 28, yi 0, yi k]) (rest := []) rfl rfl (Nat.le_of_ble_eq_true rfl) (rcv0 e28_hl112) (Nat.le_of_ble_eq_true rfl) (p_nop0 W_hl112 hq (x := k) (by omega) (by omega)) (fun z63 H64 r65 => ?_)
          obtain ⟨rfl, W_H64⟩ := r65
          obtain ⟨od_H64, e28_H64⟩ := W_H64.x28
          refine E_run hk 4 (j' := 123) (lv' := [(9, yi (p k)), (0, .ref 28), (1, yi x), (4, yi 1), (5, yi c), (6, yi s), (7, yi 0), (8, yi k)]) (st' := [yi k, yi 1, .ref 28]) (hp' := H64) rfl ?_
          refine Y_callE hk rfl (as := [.ref 28, yi 1, yi k]) (rest := []) rfl rfl (Nat.le_of_ble_eq_true rfl) (rcv0 e28_H64) (Nat.le_of_ble_eq_true rfl) (p_nop1 W_H64 hq (x := k) (by omega) (by omega)) (fun z66 H67 r68 => ?_)
          obtain ⟨rfl, W_H67⟩ := r68
          obtain ⟨od_H67, e28_H67⟩ := W_H67.x28
          refine E_run hk 2 (j' := 126) (lv' := [(10, yi (q k)), (9, yi (p k)), (0, .ref 28), (1, yi x), (4, yi 1), (5, yi c), (6, yi s), (7, yi 0), (8, yi k)]) (st' := [yi k]) (hp' := H67) rfl ?_
          refine Y_if_ne (a := k) (by omega) hk rfl (fun g69 => ?_) (fun g69 => ?_)
          · exfalso; omega
          ·
            refine E_run hk 4 (j' := 139) (lv' := [(11, yi 1), (10, yi (q k)), (9, yi (p k)), (0, .ref 28), (1, yi x), (4, yi 1), (5, yi c), (6, yi s), (7, yi 0), (8, yi k)]) (st' := [yi k]) (hp' := H67) rfl ?_
            refine Y_if_ne (a := k) (by omega) hk rfl (fun g70 => ?_) (fun g70 => ?_)
            · exfalso; omega
            ·
              refine E_run hk 7 (j' := 155) (lv' := [(12, yi 1), (11, yi 1), (10, yi (q k)), (9, yi (p k)), (0, .ref 28), (1, yi x), (4, yi 1), (5, yi c), (6, yi s), (7, yi 0), (8, yi k)]) (st' := [yi (q k), yi (p k), .ref 28, yi s]) (hp' := H67) rfl ?_
              refine Y_callE hk rfl (as := [.ref 28, yi (p k), yi (q k)]) (rest := [yi s]) rfl rfl (Nat.le_of_ble_eq_true rfl) (rcv0 e28_H67) (Nat.le_of_ble_eq_true rfl) (p_unlike W_H67 (i := (p k)) (j := (q k)) (by omega) (by omega)) (fun z71 H72 r73 => ?_)
              obtain ⟨rfl, W_H72⟩ := r73
              obtain ⟨od_H72, e28_H72⟩ := W_H72.x28
              refine E_run hk 2 (j' := 158) (lv' := [(12, yi 1), (11, yi 1), (10, yi (q k)), (9, yi (p k)), (0, .ref 28), (1, yi x), (4, yi 1), (5, yi c), (6, yi s), (7, yi 0), (8, yi k)]) (st' := [yi 1, yi 1, yi (unl S 0 (p k) (q k)), yi s]) (hp' := H72) rfl ?_
              refine Y_iadd (a := 1) (b := 1) hk rfl ?_
              refine E_run hk 1 (j' := 160) (lv' := [(12, yi 1), (11, yi 1), (10, yi (q k)), (9, yi (p k)), (0, .ref 28), (1, yi x), (4, yi 1), (5, yi c), (6, yi s), (7, yi 0), (8, yi k)]) (st' := [yi 1, yi (1 + 1), yi (unl S 0 (p k) (q k)), yi s]) (hp' := H72) rfl ?_
              refine Y_ic_ne (a := (1 + 1)) (b := 1) (by omega) hk rfl (fun g74 => ?_) (fun g74 => ?_)
              ·
                refine E_run hk 1 (j' := 165) (lv' := [(12, yi 1), (11, yi 1), (10, yi (q k)), (9, yi (p k)), (0, .ref 28), (1, yi x), (4, yi 1), (5, yi c), (6, yi s), (7, yi 0), (8, yi k)]) (st' := [yi 0, yi (unl S 0 (p k) (q k)), yi s]) (hp' := H72) rfl ?_
                refine Y_iadd (a := (unl S 0 (p k) (q k))) (b := 0) hk rfl ?_
                refine Y_iadd (a := s) (b := ((unl S 0 (p k) (q k)) + 0)) hk rfl ?_
                refine E_run hk 2 (j' := 169) (lv' := [(6, yi (s + ((unl S 0 (p k) (q k)) + 0))), (12, yi 1), (11, yi 1), (10, yi (q k)), (9, yi (p k)), (0, .ref 28), (1, yi x), (4, yi 1), (5, yi c), (7, yi 0), (8, yi k)]) (st' := [yi 1]) (hp' := H72) rfl ?_
                refine Y_if_eq (a := 1) (by omega) hk rfl (fun g75 => ?_) (fun g75 => ?_)
                · exfalso; omega
                ·
                  refine E_run hk 1 (j' := 171) (lv' := [(6, yi (s + ((unl S 0 (p k) (q k)) + 0))), (12, yi 1), (11, yi 1), (10, yi (q k)), (9, yi (p k)), (0, .ref 28), (1, yi x), (4, yi 1), (5, yi c), (7, yi 0), (8, yi k)]) (st' := [yi 1]) (hp' := H72) rfl ?_
                  refine Y_if_lt (a := 1) (by omega) hk rfl (fun g76 => ?_) (fun g76 => ?_)
                  · exfalso; omega
                  ·
                    refine E_run hk 1 (j' := 173) (lv' := [(6, yi (s + ((unl S 0 (p k) (q k)) + 0))), (12, yi 1), (11, yi 1), (10, yi (q k)), (9, yi (p k)), (0, .ref 28), (1, yi x), (4, yi 1), (5, yi c), (7, yi 0), (8, yi k)]) (st' := [yi 1]) (hp' := H72) rfl ?_
                    refine Y_if_lt (a := 1) (by omega) hk rfl (fun g77 => ?_) (fun g77 => ?_)
                    · exfalso; omega
                    ·
                      refine E_run hk 2 (j' := 176) (lv' := [(6, yi (s + ((unl S 0 (p k) (q k)) + 0))), (12, yi 1), (11, yi 1), (10, yi (q k)), (9, yi (p k)), (0, .ref 28), (1, yi x), (4, yi 1), (5, yi c), (7, yi 0), (8, yi k)]) (st' := [yi 2, yi 1]) (hp' := H72) rfl ?_
                      refine Y_ic_ge (a := 1) (b := 2) (by omega) hk rfl (fun g78 => ?_) (fun g78 => ?_)
                      · exfalso; omega
                      ·
                        refine E_run hk 2 (j' := 179) (lv' := [(6, yi (s + ((unl S 0 (p k) (q k)) + 0))), (12, yi 1), (11, yi 1), (10, yi (q k)), (9, yi (p k)), (0, .ref 28), (1, yi x), (4, yi 1), (5, yi c), (7, yi 0), (8, yi k)]) (st' := [yi 2, yi 1]) (hp' := H72) rfl ?_
                        refine Y_ic_ge (a := 1) (b := 2) (by omega) hk rfl (fun g79 => ?_) (fun g79 => ?_)
                        · exfalso; omega
                        ·
                          refine E_run hk 2 (j' := 182) (lv' := [(6, yi (s + ((unl S 0 (p k) (q k)) + 0))), (12, yi 1), (11, yi 1), (10, yi (q k)), (9, yi (p k)), (0, .ref 28), (1, yi x), (4, yi 1), (5, yi c), (7, yi 0), (8, yi k)]) (st' := [yi 1, yi 1]) (hp' := H72) rfl ?_
                          refine Y_iadd (a := 1) (b := 1) hk rfl ?_
                          refine Y_if_le (a := (1 + 1)) (by omega) hk rfl (fun g80 => ?_) (fun g80 => ?_)
                          · exfalso; omega
                          ·
                            refine E_run hk 3 (j' := 188) (lv' := [(4, yi 1), (6, yi (s + ((unl S 0 (p k) (q k)) + 0))), (12, yi 1), (11, yi 1), (10, yi (q k)), (9, yi (p k)), (0, .ref 28), (1, yi x), (5, yi c), (7, yi 0), (8, yi k)]) (st' := []) (hp' := H72) rfl ?_
                            refine Y_iinc (a := k) (z := 1) hk rfl rfl rfl (by decide) (lv' := [(8, yi (k + 1)), (4, yi 1), (6, yi (s + ((unl S 0 (p k) (q k)) + 0))), (12, yi 1), (11, yi 1), (10, yi (q k)), (9, yi (p k)), (0, .ref 28), (1, yi x), (5, yi c), (7, yi 0)]) rfl ?_
                            refine E_run hk 1 (j' := 112) (lv' := [(8, yi (k + 1)), (4, yi 1), (6, yi (s + ((unl S 0 (p k) (q k)) + 0))), (12, yi 1), (11, yi 1), (10, yi (q k)), (9, yi (p k)), (0, .ref 28), (1, yi x), (5, yi c), (7, yi 0)]) (st' := []) (hp' := H72) rfl ?_
                            exact Ev_le (xle_s rfl rfl (xle_s rfl rfl (xle_s rfl rfl (xle_s rfl rfl (xle_s rfl rfl (xle_s rfl rfl (xle_s rfl rfl (xle_z _ rfl)))))))) (ih112 _ (by omega) (k + 1) (s + ((unl S 0 (p k) (q k)) + 0)) H72 (by omega) (by have w := tot_s (c := c) (k := k) ⟨by omega, by omega⟩ gb gg; omega) (W_H72.mono (by omega)) rfl)
              · exfalso; omega
      · skip
        have gk := gr k (by omega) (by omega)
        have gk1 := gr (k - 1) (by omega) (by omega)
        have ud := hD (p k) (q k) (by omega) (by omega) (by omega) (by omega)
        refine E_run hk 1 (j' := 113) (lv' := [(0, .ref 28), (1, yi x), (4, yi 1), (5, yi c), (6, yi s), (7, yi 0), (8, yi k)]) (st' := [yi k]) (hp' := hl112) rfl ?_
        refine E_run hk 1 (j' := 114) (lv' := [(0, .ref 28), (1, yi x), (4, yi 1), (5, yi c), (6, yi s), (7, yi 0), (8, yi k)]) (st' := [yi c, yi k]) (hp' := hl112) rfl ?_
        refine Y_ic_ge (a := k) (b := c) (by omega) hk rfl (fun g81 => ?_) (fun g81 => ?_)
        · exfalso; omega
        ·
          refine E_run hk 3 (j' := 118) (lv' := [(0, .ref 28), (1, yi x), (4, yi 1), (5, yi c), (6, yi s), (7, yi 0), (8, yi k)]) (st' := [yi k, yi 0, .ref 28]) (hp' := hl112) rfl ?_
          refine Y_callE hk rfl (as := [.ref 28, yi 0, yi k]) (rest := []) rfl rfl (Nat.le_of_ble_eq_true rfl) (rcv0 e28_hl112) (Nat.le_of_ble_eq_true rfl) (p_nop0 W_hl112 hq (x := k) (by omega) (by omega)) (fun z82 H83 r84 => ?_)
          obtain ⟨rfl, W_H83⟩ := r84
          obtain ⟨od_H83, e28_H83⟩ := W_H83.x28
          refine E_run hk 4 (j' := 123) (lv' := [(9, yi (p k)), (0, .ref 28), (1, yi x), (4, yi 1), (5, yi c), (6, yi s), (7, yi 0), (8, yi k)]) (st' := [yi k, yi 1, .ref 28]) (hp' := H83) rfl ?_
          refine Y_callE hk rfl (as := [.ref 28, yi 1, yi k]) (rest := []) rfl rfl (Nat.le_of_ble_eq_true rfl) (rcv0 e28_H83) (Nat.le_of_ble_eq_true rfl) (p_nop1 W_H83 hq (x := k) (by omega) (by omega)) (fun z85 H86 r87 => ?_)
          obtain ⟨rfl, W_H86⟩ := r87
          obtain ⟨od_H86, e28_H86⟩ := W_H86.x28
          refine E_run hk 2 (j' := 126) (lv' := [(10, yi (q k)), (9, yi (p k)), (0, .ref 28), (1, yi x), (4, yi 1), (5, yi c), (6, yi s), (7, yi 0), (8, yi k)]) (st' := [yi k]) (hp' := H86) rfl ?_
          refine Y_if_ne (a := k) (by omega) hk rfl (fun g88 => ?_) (fun g88 => ?_)
          ·
            refine E_run hk 5 (j' := 134) (lv' := [(10, yi (q k)), (9, yi (p k)), (0, .ref 28), (1, yi x), (4, yi 1), (5, yi c), (6, yi s), (7, yi 0), (8, yi k)]) (st' := [yi 1, yi k, yi 0, .ref 28, yi (p k)]) (hp' := H86) rfl ?_
            refine Y_isub (a := k) (b := 1) hk rfl ?_
            refine Y_callE hk rfl (as := [.ref 28, yi 0, yi (k - 1)]) (rest := [yi (p k)]) rfl rfl (Nat.le_of_ble_eq_true rfl) (rcv0 e28_H86) (Nat.le_of_ble_eq_true rfl) (p_nop0 W_H86 hq (x := (k - 1)) (by omega) (by omega)) (fun z89 H90 r91 => ?_)
            obtain ⟨rfl, W_H90⟩ := r91
            obtain ⟨od_H90, e28_H90⟩ := W_H90.x28
            refine Y_isub (a := (p k)) (b := (p (k - 1))) hk rfl ?_
            refine E_run hk 2 (j' := 139) (lv' := [(11, yi ((p k) - (p (k - 1)))), (10, yi (q k)), (9, yi (p k)), (0, .ref 28), (1, yi x), (4, yi 1), (5, yi c), (6, yi s), (7, yi 0), (8, yi k)]) (st' := [yi k]) (hp' := H90) rfl ?_
            refine Y_if_ne (a := k) (by omega) hk rfl (fun g92 => ?_) (fun g92 => ?_)
            ·
              refine E_run hk 5 (j' := 147) (lv' := [(11, yi ((p k) - (p (k - 1)))), (10, yi (q k)), (9, yi (p k)), (0, .ref 28), (1, yi x), (4, yi 1), (5, yi c), (6, yi s), (7, yi 0), (8, yi k)]) (st' := [yi 1, yi k, yi 1, .ref 28, yi (q k)]) (hp' := H90) rfl ?_
              refine Y_isub (a := k) (b := 1) hk rfl ?_
              refine Y_callE hk rfl (as := [.ref 28, yi 1, yi (k - 1)]) (rest := [yi (q k)]) rfl rfl (Nat.le_of_ble_eq_true rfl) (rcv0 e28_H90) (Nat.le_of_ble_eq_true rfl) (p_nop1 W_H90 hq (x := (k - 1)) (by omega) (by omega)) (fun z93 H94 r95 => ?_)
              obtain ⟨rfl, W_H94⟩ := r95
              obtain ⟨od_H94, e28_H94⟩ := W_H94.x28
              refine Y_isub (a := (q k)) (b := (q (k - 1))) hk rfl ?_
              refine E_run hk 5 (j' := 155) (lv' := [(12, yi ((q k) - (q (k - 1)))), (11, yi ((p k) - (p (k - 1)))), (10, yi (q k)), (9, yi (p k)), (0, .ref 28), (1, yi x), (4, yi 1), (5, yi c), (6, yi s), (7, yi 0), (8, yi k)]) (st' := [yi (q k), yi (p k), .ref 28, yi s]) (hp' := H94) rfl ?_
              refine Y_callE hk rfl (as := [.ref 28, yi (p k), yi (q k)]) (rest := [yi s]) rfl rfl (Nat.le_of_ble_eq_true rfl) (rcv0 e28_H94) (Nat.le_of_ble_eq_true rfl) (p_unlike W_H94 (i := (p k)) (j := (q k)) (by omega) (by omega)) (fun z96 H97 r98 => ?_)
              obtain ⟨rfl, W_H97⟩ := r98
              obtain ⟨od_H97, e28_H97⟩ := W_H97.x28
              refine E_run hk 2 (j' := 158) (lv' := [(12, yi ((q k) - (q (k - 1)))), (11, yi ((p k) - (p (k - 1)))), (10, yi (q k)), (9, yi (p k)), (0, .ref 28), (1, yi x), (4, yi 1), (5, yi c), (6, yi s), (7, yi 0), (8, yi k)]) (st' := [yi ((q k) - (q (k - 1))), yi ((p k) - (p (k - 1))), yi (unl S 0 (p k) (q k)), yi s]) (hp' := H97) rfl ?_
              refine Y_iadd (a := ((p k) - (p (k - 1)))) (b := ((q k) - (q (k - 1)))) hk rfl ?_
              refine E_run hk 1 (j' := 160) (lv' := [(12, yi ((q k) - (q (k - 1)))), (11, yi ((p k) - (p (k - 1)))), (10, yi (q k)), (9, yi (p k)), (0, .ref 28), (1, yi x), (4, yi 1), (5, yi c), (6, yi s), (7, yi 0), (8, yi k)]) (st' := [yi 1, yi (((p k) - (p (k - 1))) + ((q k) - (q (k - 1)))), yi (unl S 0 (p k) (q k)), yi s]) (hp' := H97) rfl ?_
              refine Y_ic_ne (a := (((p k) - (p (k - 1))) + ((q k) - (q (k - 1))))) (b := 1) (by omega) hk rfl (fun g99 => ?_) (fun g99 => ?_)
              ·
                refine E_run hk 1 (j' := 165) (lv' := [(12, yi ((q k) - (q (k - 1)))), (11, yi ((p k) - (p (k - 1)))), (10, yi (q k)), (9, yi (p k)), (0, .ref 28), (1, yi x), (4, yi 1), (5, yi c), (6, yi s), (7, yi 0), (8, yi k)]) (st' := [yi 0, yi (unl S 0 (p k) (q k)), yi s]) (hp' := H97) rfl ?_
                refine Y_iadd (a := (unl S 0 (p k) (q k))) (b := 0) hk rfl ?_
                refine Y_iadd (a := s) (b := ((unl S 0 (p k) (q k)) + 0)) hk rfl ?_
                refine E_run hk 2 (j' := 169) (lv' := [(6, yi (s + ((unl S 0 (p k) (q k)) + 0))), (12, yi ((q k) - (q (k - 1)))), (11, yi ((p k) - (p (k - 1)))), (10, yi (q k)), (9, yi (p k)), (0, .ref 28), (1, yi x), (4, yi 1), (5, yi c), (7, yi 0), (8, yi k)]) (st' := [yi 1]) (hp' := H97) rfl ?_
                refine Y_if_eq (a := 1) (by omega) hk rfl (fun g100 => ?_) (fun g100 => ?_)
                · exfalso; omega
                ·
                  refine E_run hk 1 (j' := 171) (lv' := [(6, yi (s + ((unl S 0 (p k) (q k)) + 0))), (12, yi ((q k) - (q (k - 1)))), (11, yi ((p k) - (p (k - 1)))), (10, yi (q k)), (9, yi (p k)), (0, .ref 28), (1, yi x), (4, yi 1), (5, yi c), (7, yi 0), (8, yi k)]) (st' := [yi ((p k) - (p (k - 1)))]) (hp' := H97) rfl ?_
                  refine Y_if_lt (a := ((p k) - (p (k - 1)))) (by omega) hk rfl (fun g101 => ?_) (fun g101 => ?_)
                  · exfalso; omega
                  ·
                    refine E_run hk 1 (j' := 173) (lv' := [(6, yi (s + ((unl S 0 (p k) (q k)) + 0))), (12, yi ((q k) - (q (k - 1)))), (11, yi ((p k) - (p (k - 1)))), (10, yi (q k)), (9, yi (p k)), (0, .ref 28), (1, yi x), (4, yi 1), (5, yi c), (7, yi 0), (8, yi k)]) (st' := [yi ((q k) - (q (k - 1)))]) (hp' := H97) rfl ?_
                    refine Y_if_lt (a := ((q k) - (q (k - 1)))) (by omega) hk rfl (fun g102 => ?_) (fun g102 => ?_)
                    · exfalso; omega
                    ·
                      refine E_run hk 2 (j' := 176) (lv' := [(6, yi (s + ((unl S 0 (p k) (q k)) + 0))), (12, yi ((q k) - (q (k - 1)))), (11, yi ((p k) - (p (k - 1)))), (10, yi (q k)), (9, yi (p k)), (0, .ref 28), (1, yi x), (4, yi 1), (5, yi c), (7, yi 0), (8, yi k)]) (st' := [yi 2, yi ((p k) - (p (k - 1)))]) (hp' := H97) rfl ?_
                      refine Y_ic_ge (a := ((p k) - (p (k - 1)))) (b := 2) (by omega) hk rfl (fun g103 => ?_) (fun g103 => ?_)
                      · exfalso; omega
                      ·
                        refine E_run hk 2 (j' := 179) (lv' := [(6, yi (s + ((unl S 0 (p k) (q k)) + 0))), (12, yi ((q k) - (q (k - 1)))), (11, yi ((p k) - (p (k - 1)))), (10, yi (q k)), (9, yi (p k)), (0, .ref 28), (1, yi x), (4, yi 1), (5, yi c), (7, yi 0), (8, yi k)]) (st' := [yi 2, yi ((q k) - (q (k - 1)))]) (hp' := H97) rfl ?_
                        refine Y_ic_ge (a := ((q k) - (q (k - 1)))) (b := 2) (by omega) hk rfl (fun g104 => ?_) (fun g104 => ?_)
                        · exfalso; omega
                        ·
                          refine E_run hk 2 (j' := 182) (lv' := [(6, yi (s + ((unl S 0 (p k) (q k)) + 0))), (12, yi ((q k) - (q (k - 1)))), (11, yi ((p k) - (p (k - 1)))), (10, yi (q k)), (9, yi (p k)), (0, .ref 28), (1, yi x), (4, yi 1), (5, yi c), (7, yi 0), (8, yi k)]) (st' := [yi ((q k) - (q (k - 1))), yi ((p k) - (p (k - 1)))]) (hp' := H97) rfl ?_
                          refine Y_iadd (a := ((p k) - (p (k - 1)))) (b := ((q k) - (q (k - 1)))) hk rfl ?_
                          refine Y_if_le (a := (((p k) - (p (k - 1))) + ((q k) - (q (k - 1))))) (by omega) hk rfl (fun g105 => ?_) (fun g105 => ?_)
                          · exfalso; omega
                          ·
                            refine E_run hk 3 (j' := 188) (lv' := [(4, yi 1), (6, yi (s + ((unl S 0 (p k) (q k)) + 0))), (12, yi ((q k) - (q (k - 1)))), (11, yi ((p k) - (p (k - 1)))), (10, yi (q k)), (9, yi (p k)), (0, .ref 28), (1, yi x), (5, yi c), (7, yi 0), (8, yi k)]) (st' := []) (hp' := H97) rfl ?_
                            refine Y_iinc (a := k) (z := 1) hk rfl rfl rfl (by decide) (lv' := [(8, yi (k + 1)), (4, yi 1), (6, yi (s + ((unl S 0 (p k) (q k)) + 0))), (12, yi ((q k) - (q (k - 1)))), (11, yi ((p k) - (p (k - 1)))), (10, yi (q k)), (9, yi (p k)), (0, .ref 28), (1, yi x), (5, yi c), (7, yi 0)]) rfl ?_
                            refine E_run hk 1 (j' := 112) (lv' := [(8, yi (k + 1)), (4, yi 1), (6, yi (s + ((unl S 0 (p k) (q k)) + 0))), (12, yi ((q k) - (q (k - 1)))), (11, yi ((p k) - (p (k - 1)))), (10, yi (q k)), (9, yi (p k)), (0, .ref 28), (1, yi x), (5, yi c), (7, yi 0)]) (st' := []) (hp' := H97) rfl ?_
                            exact Ev_le (xle_s rfl rfl (xle_s rfl rfl (xle_s rfl rfl (xle_s rfl rfl (xle_s rfl rfl (xle_s rfl rfl (xle_s rfl rfl (xle_z _ rfl)))))))) (ih112 _ (by omega) (k + 1) (s + ((unl S 0 (p k) (q k)) + 0)) H97 (by omega) (by have w := tot_s (c := c) (k := k) ⟨by omega, by omega⟩ gb gg; omega) (W_H97.mono (by omega)) rfl)
              · exfalso; omega
            · exfalso; omega
          · exfalso; omega
      · skip
        have gk := gr k (by omega) (by omega)
        have gk1 := gr (k - 1) (by omega) (by omega)
        have ud := hD (p k) (q k) (by omega) (by omega) (by omega) (by omega)
        refine E_run hk 1 (j' := 113) (lv' := [(0, .ref 28), (1, yi x), (4, yi 1), (5, yi c), (6, yi s), (7, yi 0), (8, yi k)]) (st' := [yi k]) (hp' := hl112) rfl ?_
        refine E_run hk 1 (j' := 114) (lv' := [(0, .ref 28), (1, yi x), (4, yi 1), (5, yi c), (6, yi s), (7, yi 0), (8, yi k)]) (st' := [yi c, yi k]) (hp' := hl112) rfl ?_
        refine Y_ic_ge (a := k) (b := c) (by omega) hk rfl (fun g106 => ?_) (fun g106 => ?_)
        · exfalso; omega
        ·
          refine E_run hk 3 (j' := 118) (lv' := [(0, .ref 28), (1, yi x), (4, yi 1), (5, yi c), (6, yi s), (7, yi 0), (8, yi k)]) (st' := [yi k, yi 0, .ref 28]) (hp' := hl112) rfl ?_
          refine Y_callE hk rfl (as := [.ref 28, yi 0, yi k]) (rest := []) rfl rfl (Nat.le_of_ble_eq_true rfl) (rcv0 e28_hl112) (Nat.le_of_ble_eq_true rfl) (p_nop0 W_hl112 hq (x := k) (by omega) (by omega)) (fun z107 H108 r109 => ?_)
          obtain ⟨rfl, W_H108⟩ := r109
          obtain ⟨od_H108, e28_H108⟩ := W_H108.x28
          refine E_run hk 4 (j' := 123) (lv' := [(9, yi (p k)), (0, .ref 28), (1, yi x), (4, yi 1), (5, yi c), (6, yi s), (7, yi 0), (8, yi k)]) (st' := [yi k, yi 1, .ref 28]) (hp' := H108) rfl ?_
          refine Y_callE hk rfl (as := [.ref 28, yi 1, yi k]) (rest := []) rfl rfl (Nat.le_of_ble_eq_true rfl) (rcv0 e28_H108) (Nat.le_of_ble_eq_true rfl) (p_nop1 W_H108 hq (x := k) (by omega) (by omega)) (fun z110 H111 r112 => ?_)
          obtain ⟨rfl, W_H111⟩ := r112
          obtain ⟨od_H111, e28_H111⟩ := W_H111.x28
          refine E_run hk 2 (j' := 126) (lv' := [(10, yi (q k)), (9, yi (p k)), (0, .ref 28), (1, yi x), (4, yi 1), (5, yi c), (6, yi s), (7, yi 0), (8, yi k)]) (st' := [yi k]) (hp' := H111) rfl ?_
          refine Y_if_ne (a := k) (by omega) hk rfl (fun g113 => ?_) (fun g113 => ?_)
          ·
            refine E_run hk 5 (j' := 134) (lv' := [(10, yi (q k)), (9, yi (p k)), (0, .ref 28), (1, yi x), (4, yi 1), (5, yi c), (6, yi s), (7, yi 0), (8, yi k)]) (st' := [yi 1, yi k, yi 0, .ref 28, yi (p k)]) (hp' := H111) rfl ?_
            refine Y_isub (a := k) (b := 1) hk rfl ?_
            refine Y_callE hk rfl (as := [.ref 28, yi 0, yi (k - 1)]) (rest := [yi (p k)]) rfl rfl (Nat.le_of_ble_eq_true rfl) (rcv0 e28_H111) (Nat.le_of_ble_eq_true rfl) (p_nop0 W_H111 hq (x := (k - 1)) (by omega) (by omega)) (fun z114 H115 r116 => ?_)
            obtain ⟨rfl, W_H115⟩ := r116
            obtain ⟨od_H115, e28_H115⟩ := W_H115.x28
            refine Y_isub (a := (p k)) (b := (p (k - 1))) hk rfl ?_
            refine E_run hk 2 (j' := 139) (lv' := [(11, yi ((p k) - (p (k - 1)))), (10, yi (q k)), (9, yi (p k)), (0, .ref 28), (1, yi x), (4, yi 1), (5, yi c), (6, yi s), (7, yi 0), (8, yi k)]) (st' := [yi k]) (hp' := H115) rfl ?_
            refine Y_if_ne (a := k) (by omega) hk rfl (fun g117 => ?_) (fun g117 => ?_)
            ·
              refine E_run hk 5 (j' := 147) (lv' := [(11, yi ((p k) - (p (k - 1)))), (10, yi (q k)), (9, yi (p k)), (0, .ref 28), (1, yi x), (4, yi 1), (5, yi c), (6, yi s), (7, yi 0), (8, yi k)]) (st' := [yi 1, yi k, yi 1, .ref 28, yi (q k)]) (hp' := H115) rfl ?_
              refine Y_isub (a := k) (b := 1) hk rfl ?_
              refine Y_callE hk rfl (as := [.ref 28, yi 1, yi (k - 1)]) (rest := [yi (q k)]) rfl rfl (Nat.le_of_ble_eq_true rfl) (rcv0 e28_H115) (Nat.le_of_ble_eq_true rfl) (p_nop1 W_H115 hq (x := (k - 1)) (by omega) (by omega)) (fun z118 H119 r120 => ?_)
              obtain ⟨rfl, W_H119⟩ := r120
              obtain ⟨od_H119, e28_H119⟩ := W_H119.x28
              refine Y_isub (a := (q k)) (b := (q (k - 1))) hk rfl ?_
              refine E_run hk 5 (j' := 155) (lv' := [(12, yi ((q k) - (q (k - 1)))), (11, yi ((p k) - (p (k - 1)))), (10, yi (q k)), (9, yi (p k)), (0, .ref 28), (1, yi x), (4, yi 1), (5, yi c), (6, yi s), (7, yi 0), (8, yi k)]) (st' := [yi (q k), yi (p k), .ref 28, yi s]) (hp' := H119) rfl ?_
              refine Y_callE hk rfl (as := [.ref 28, yi (p k), yi (q k)]) (rest := [yi s]) rfl rfl (Nat.le_of_ble_eq_true rfl) (rcv0 e28_H119) (Nat.le_of_ble_eq_true rfl) (p_unlike W_H119 (i := (p k)) (j := (q k)) (by omega) (by omega)) (fun z121 H122 r123 => ?_)
              obtain ⟨rfl, W_H122⟩ := r123
              obtain ⟨od_H122, e28_H122⟩ := W_H122.x28
              refine E_run hk 2 (j' := 158) (lv' := [(12, yi ((q k) - (q (k - 1)))), (11, yi ((p k) - (p (k - 1)))), (10, yi (q k)), (9, yi (p k)), (0, .ref 28), (1, yi x), (4, yi 1), (5, yi c), (6, yi s), (7, yi 0), (8, yi k)]) (st' := [yi ((q k) - (q (k - 1))), yi ((p k) - (p (k - 1))), yi (unl S 0 (p k) (q k)), yi s]) (hp' := H122) rfl ?_
              refine Y_iadd (a := ((p k) - (p (k - 1)))) (b := ((q k) - (q (k - 1)))) hk rfl ?_
              refine E_run hk 1 (j' := 160) (lv' := [(12, yi ((q k) - (q (k - 1)))), (11, yi ((p k) - (p (k - 1)))), (10, yi (q k)), (9, yi (p k)), (0, .ref 28), (1, yi x), (4, yi 1), (5, yi c), (6, yi s), (7, yi 0), (8, yi k)]) (st' := [yi 1, yi (((p k) - (p (k - 1))) + ((q k) - (q (k - 1)))), yi (unl S 0 (p k) (q k)), yi s]) (hp' := H122) rfl ?_
              refine Y_ic_ne (a := (((p k) - (p (k - 1))) + ((q k) - (q (k - 1))))) (b := 1) (by omega) hk rfl (fun g124 => ?_) (fun g124 => ?_)
              · exfalso; omega
              ·
                refine E_run hk 1 (j' := 162) (lv' := [(12, yi ((q k) - (q (k - 1)))), (11, yi ((p k) - (p (k - 1)))), (10, yi (q k)), (9, yi (p k)), (0, .ref 28), (1, yi x), (4, yi 1), (5, yi c), (6, yi s), (7, yi 0), (8, yi k)]) (st' := [.ref 28, yi (unl S 0 (p k) (q k)), yi s]) (hp' := H122) rfl ?_
                refine Y_callE hk rfl (as := [.ref 28]) (rest := [yi (unl S 0 (p k) (q k)), yi s]) rfl rfl (Nat.le_of_ble_eq_true rfl) (rcv0 e28_H122) (Nat.le_of_ble_eq_true rfl) (p_hold W_H122  (by omega)) (fun z125 H126 r127 => ?_)
                obtain ⟨rfl, W_H126⟩ := r127
                obtain ⟨od_H126, e28_H126⟩ := W_H126.x28
                refine E_run hk 1 (j' := 165) (lv' := [(12, yi ((q k) - (q (k - 1)))), (11, yi ((p k) - (p (k - 1)))), (10, yi (q k)), (9, yi (p k)), (0, .ref 28), (1, yi x), (4, yi 1), (5, yi c), (6, yi s), (7, yi 0), (8, yi k)]) (st' := [yi (S 3), yi (unl S 0 (p k) (q k)), yi s]) (hp' := H126) rfl ?_
                refine Y_iadd (a := (unl S 0 (p k) (q k))) (b := (S 3)) hk rfl ?_
                refine Y_iadd (a := s) (b := ((unl S 0 (p k) (q k)) + (S 3))) hk rfl ?_
                refine E_run hk 2 (j' := 169) (lv' := [(6, yi (s + ((unl S 0 (p k) (q k)) + (S 3)))), (12, yi ((q k) - (q (k - 1)))), (11, yi ((p k) - (p (k - 1)))), (10, yi (q k)), (9, yi (p k)), (0, .ref 28), (1, yi x), (4, yi 1), (5, yi c), (7, yi 0), (8, yi k)]) (st' := [yi 1]) (hp' := H126) rfl ?_
                refine Y_if_eq (a := 1) (by omega) hk rfl (fun g128 => ?_) (fun g128 => ?_)
                · exfalso; omega
                ·
                  refine E_run hk 1 (j' := 171) (lv' := [(6, yi (s + ((unl S 0 (p k) (q k)) + (S 3)))), (12, yi ((q k) - (q (k - 1)))), (11, yi ((p k) - (p (k - 1)))), (10, yi (q k)), (9, yi (p k)), (0, .ref 28), (1, yi x), (4, yi 1), (5, yi c), (7, yi 0), (8, yi k)]) (st' := [yi ((p k) - (p (k - 1)))]) (hp' := H126) rfl ?_
                  refine Y_if_lt (a := ((p k) - (p (k - 1)))) (by omega) hk rfl (fun g129 => ?_) (fun g129 => ?_)
                  · exfalso; omega
                  ·
                    refine E_run hk 1 (j' := 173) (lv' := [(6, yi (s + ((unl S 0 (p k) (q k)) + (S 3)))), (12, yi ((q k) - (q (k - 1)))), (11, yi ((p k) - (p (k - 1)))), (10, yi (q k)), (9, yi (p k)), (0, .ref 28), (1, yi x), (4, yi 1), (5, yi c), (7, yi 0), (8, yi k)]) (st' := [yi ((q k) - (q (k - 1)))]) (hp' := H126) rfl ?_
                    refine Y_if_lt (a := ((q k) - (q (k - 1)))) (by omega) hk rfl (fun g130 => ?_) (fun g130 => ?_)
                    · exfalso; omega
                    ·
                      refine E_run hk 2 (j' := 176) (lv' := [(6, yi (s + ((unl S 0 (p k) (q k)) + (S 3)))), (12, yi ((q k) - (q (k - 1)))), (11, yi ((p k) - (p (k - 1)))), (10, yi (q k)), (9, yi (p k)), (0, .ref 28), (1, yi x), (4, yi 1), (5, yi c), (7, yi 0), (8, yi k)]) (st' := [yi 2, yi ((p k) - (p (k - 1)))]) (hp' := H126) rfl ?_
                      refine Y_ic_ge (a := ((p k) - (p (k - 1)))) (b := 2) (by omega) hk rfl (fun g131 => ?_) (fun g131 => ?_)
                      · exfalso; omega
                      ·
                        refine E_run hk 2 (j' := 179) (lv' := [(6, yi (s + ((unl S 0 (p k) (q k)) + (S 3)))), (12, yi ((q k) - (q (k - 1)))), (11, yi ((p k) - (p (k - 1)))), (10, yi (q k)), (9, yi (p k)), (0, .ref 28), (1, yi x), (4, yi 1), (5, yi c), (7, yi 0), (8, yi k)]) (st' := [yi 2, yi ((q k) - (q (k - 1)))]) (hp' := H126) rfl ?_
                        refine Y_ic_ge (a := ((q k) - (q (k - 1)))) (b := 2) (by omega) hk rfl (fun g132 => ?_) (fun g132 => ?_)
                        · exfalso; omega
                        ·
                          refine E_run hk 2 (j' := 182) (lv' := [(6, yi (s + ((unl S 0 (p k) (q k)) + (S 3)))), (12, yi ((q k) - (q (k - 1)))), (11, yi ((p k) - (p (k - 1)))), (10, yi (q k)), (9, yi (p k)), (0, .ref 28), (1, yi x), (4, yi 1), (5, yi c), (7, yi 0), (8, yi k)]) (st' := [yi ((q k) - (q (k - 1))), yi ((p k) - (p (k - 1)))]) (hp' := H126) rfl ?_
                          refine Y_iadd (a := ((p k) - (p (k - 1)))) (b := ((q k) - (q (k - 1)))) hk rfl ?_
                          refine Y_if_le (a := (((p k) - (p (k - 1))) + ((q k) - (q (k - 1))))) (by omega) hk rfl (fun g133 => ?_) (fun g133 => ?_)
                          · exfalso; omega
                          ·
                            refine E_run hk 3 (j' := 188) (lv' := [(4, yi 1), (6, yi (s + ((unl S 0 (p k) (q k)) + (S 3)))), (12, yi ((q k) - (q (k - 1)))), (11, yi ((p k) - (p (k - 1)))), (10, yi (q k)), (9, yi (p k)), (0, .ref 28), (1, yi x), (5, yi c), (7, yi 0), (8, yi k)]) (st' := []) (hp' := H126) rfl ?_
                            refine Y_iinc (a := k) (z := 1) hk rfl rfl rfl (by decide) (lv' := [(8, yi (k + 1)), (4, yi 1), (6, yi (s + ((unl S 0 (p k) (q k)) + (S 3)))), (12, yi ((q k) - (q (k - 1)))), (11, yi ((p k) - (p (k - 1)))), (10, yi (q k)), (9, yi (p k)), (0, .ref 28), (1, yi x), (5, yi c), (7, yi 0)]) rfl ?_
                            refine E_run hk 1 (j' := 112) (lv' := [(8, yi (k + 1)), (4, yi 1), (6, yi (s + ((unl S 0 (p k) (q k)) + (S 3)))), (12, yi ((q k) - (q (k - 1)))), (11, yi ((p k) - (p (k - 1)))), (10, yi (q k)), (9, yi (p k)), (0, .ref 28), (1, yi x), (5, yi c), (7, yi 0)]) (st' := []) (hp' := H126) rfl ?_
                            exact Ev_le (xle_s rfl rfl (xle_s rfl rfl (xle_s rfl rfl (xle_s rfl rfl (xle_s rfl rfl (xle_s rfl rfl (xle_s rfl rfl (xle_z _ rfl)))))))) (ih112 _ (by omega) (k + 1) (s + ((unl S 0 (p k) (q k)) + (S 3))) H126 (by omega) (by have w := tot_s (c := c) (k := k) ⟨by omega, by omega⟩ gb gg; omega) (W_H126.mono (by omega)) rfl)
            · exfalso; omega
          · exfalso; omega
      · skip
        have gk := gr k (by omega) (by omega)
        have gk1 := gr (k - 1) (by omega) (by omega)
        have ud := hD (p k) (q k) (by omega) (by omega) (by omega) (by omega)
        refine E_run hk 1 (j' := 113) (lv' := [(0, .ref 28), (1, yi x), (4, yi 1), (5, yi c), (6, yi s), (7, yi 0), (8, yi k)]) (st' := [yi k]) (hp' := hl112) rfl ?_
        refine E_run hk 1 (j' := 114) (lv' := [(0, .ref 28), (1, yi x), (4, yi 1), (5, yi c), (6, yi s), (7, yi 0), (8, yi k)]) (st' := [yi c, yi k]) (hp' := hl112) rfl ?_
        refine Y_ic_ge (a := k) (b := c) (by omega) hk rfl (fun g134 => ?_) (fun g134 => ?_)
        · exfalso; omega
        ·
          refine E_run hk 3 (j' := 118) (lv' := [(0, .ref 28), (1, yi x), (4, yi 1), (5, yi c), (6, yi s), (7, yi 0), (8, yi k)]) (st' := [yi k, yi 0, .ref 28]) (hp' := hl112) rfl ?_
          refine Y_callE hk rfl (as := [.ref 28, yi 0, yi k]) (rest := []) rfl rfl (Nat.le_of_ble_eq_true rfl) (rcv0 e28_hl112) (Nat.le_of_ble_eq_true rfl) (p_nop0 W_hl112 hq (x := k) (by omega) (by omega)) (fun z135 H136 r137 => ?_)
          obtain ⟨rfl, W_H136⟩ := r137
          obtain ⟨od_H136, e28_H136⟩ := W_H136.x28
          refine E_run hk 4 (j' := 123) (lv' := [(9, yi (p k)), (0, .ref 28), (1, yi x), (4, yi 1), (5, yi c), (6, yi s), (7, yi 0), (8, yi k)]) (st' := [yi k, yi 1, .ref 28]) (hp' := H136) rfl ?_
          refine Y_callE hk rfl (as := [.ref 28, yi 1, yi k]) (rest := []) rfl rfl (Nat.le_of_ble_eq_true rfl) (rcv0 e28_H136) (Nat.le_of_ble_eq_true rfl) (p_nop1 W_H136 hq (x := k) (by omega) (by omega)) (fun z138 H139 r140 => ?_)
          obtain ⟨rfl, W_H139⟩ := r140
          obtain ⟨od_H139, e28_H139⟩ := W_H139.x28
          refine E_run hk 2 (j' := 126) (lv' := [(10, yi (q k)), (9, yi (p k)), (0, .ref 28), (1, yi x), (4, yi 1), (5, yi c), (6, yi s), (7, yi 0), (8, yi k)]) (st' := [yi k]) (hp' := H139) rfl ?_
          refine Y_if_ne (a := k) (by omega) hk rfl (fun g141 => ?_) (fun g141 => ?_)
          ·
            refine E_run hk 5 (j' := 134) (lv' := [(10, yi (q k)), (9, yi (p k)), (0, .ref 28), (1, yi x), (4, yi 1), (5, yi c), (6, yi s), (7, yi 0), (8, yi k)]) (st' := [yi 1, yi k, yi 0, .ref 28, yi (p k)]) (hp' := H139) rfl ?_
            refine Y_isub (a := k) (b := 1) hk rfl ?_
            refine Y_callE hk rfl (as := [.ref 28, yi 0, yi (k - 1)]) (rest := [yi (p k)]) rfl rfl (Nat.le_of_ble_eq_true rfl) (rcv0 e28_H139) (Nat.le_of_ble_eq_true rfl) (p_nop0 W_H139 hq (x := (k - 1)) (by omega) (by omega)) (fun z142 H143 r144 => ?_)
            obtain ⟨rfl, W_H143⟩ := r144
            obtain ⟨od_H143, e28_H143⟩ := W_H143.x28
            refine Y_isub (a := (p k)) (b := (p (k - 1))) hk rfl ?_
            refine E_run hk 2 (j' := 139) (lv' := [(11, yi ((p k) - (p (k - 1)))), (10, yi (q k)), (9, yi (p k)), (0, .ref 28), (1, yi x), (4, yi 1), (5, yi c), (6, yi s), (7, yi 0), (8, yi k)]) (st' := [yi k]) (hp' := H143) rfl ?_
            refine Y_if_ne (a := k) (by omega) hk rfl (fun g145 => ?_) (fun g145 => ?_)
            ·
              refine E_run hk 5 (j' := 147) (lv' := [(11, yi ((p k) - (p (k - 1)))), (10, yi (q k)), (9, yi (p k)), (0, .ref 28), (1, yi x), (4, yi 1), (5, yi c), (6, yi s), (7, yi 0), (8, yi k)]) (st' := [yi 1, yi k, yi 1, .ref 28, yi (q k)]) (hp' := H143) rfl ?_
              refine Y_isub (a := k) (b := 1) hk rfl ?_
              refine Y_callE hk rfl (as := [.ref 28, yi 1, yi (k - 1)]) (rest := [yi (q k)]) rfl rfl (Nat.le_of_ble_eq_true rfl) (rcv0 e28_H143) (Nat.le_of_ble_eq_true rfl) (p_nop1 W_H143 hq (x := (k - 1)) (by omega) (by omega)) (fun z146 H147 r148 => ?_)
              obtain ⟨rfl, W_H147⟩ := r148
              obtain ⟨od_H147, e28_H147⟩ := W_H147.x28
              refine Y_isub (a := (q k)) (b := (q (k - 1))) hk rfl ?_
              refine E_run hk 5 (j' := 155) (lv' := [(12, yi ((q k) - (q (k - 1)))), (11, yi ((p k) - (p (k - 1)))), (10, yi (q k)), (9, yi (p k)), (0, .ref 28), (1, yi x), (4, yi 1), (5, yi c), (6, yi s), (7, yi 0), (8, yi k)]) (st' := [yi (q k), yi (p k), .ref 28, yi s]) (hp' := H147) rfl ?_
              refine Y_callE hk rfl (as := [.ref 28, yi (p k), yi (q k)]) (rest := [yi s]) rfl rfl (Nat.le_of_ble_eq_true rfl) (rcv0 e28_H147) (Nat.le_of_ble_eq_true rfl) (p_unlike W_H147 (i := (p k)) (j := (q k)) (by omega) (by omega)) (fun z149 H150 r151 => ?_)
              obtain ⟨rfl, W_H150⟩ := r151
              obtain ⟨od_H150, e28_H150⟩ := W_H150.x28
              refine E_run hk 2 (j' := 158) (lv' := [(12, yi ((q k) - (q (k - 1)))), (11, yi ((p k) - (p (k - 1)))), (10, yi (q k)), (9, yi (p k)), (0, .ref 28), (1, yi x), (4, yi 1), (5, yi c), (6, yi s), (7, yi 0), (8, yi k)]) (st' := [yi ((q k) - (q (k - 1))), yi ((p k) - (p (k - 1))), yi (unl S 0 (p k) (q k)), yi s]) (hp' := H150) rfl ?_
              refine Y_iadd (a := ((p k) - (p (k - 1)))) (b := ((q k) - (q (k - 1)))) hk rfl ?_
              refine E_run hk 1 (j' := 160) (lv' := [(12, yi ((q k) - (q (k - 1)))), (11, yi ((p k) - (p (k - 1)))), (10, yi (q k)), (9, yi (p k)), (0, .ref 28), (1, yi x), (4, yi 1), (5, yi c), (6, yi s), (7, yi 0), (8, yi k)]) (st' := [yi 1, yi (((p k) - (p (k - 1))) + ((q k) - (q (k - 1)))), yi (unl S 0 (p k) (q k)), yi s]) (hp' := H150) rfl ?_
              refine Y_ic_ne (a := (((p k) - (p (k - 1))) + ((q k) - (q (k - 1))))) (b := 1) (by omega) hk rfl (fun g152 => ?_) (fun g152 => ?_)
              · exfalso; omega
              ·
                refine E_run hk 1 (j' := 162) (lv' := [(12, yi ((q k) - (q (k - 1)))), (11, yi ((p k) - (p (k - 1)))), (10, yi (q k)), (9, yi (p k)), (0, .ref 28), (1, yi x), (4, yi 1), (5, yi c), (6, yi s), (7, yi 0), (8, yi k)]) (st' := [.ref 28, yi (unl S 0 (p k) (q k)), yi s]) (hp' := H150) rfl ?_
                refine Y_callE hk rfl (as := [.ref 28]) (rest := [yi (unl S 0 (p k) (q k)), yi s]) rfl rfl (Nat.le_of_ble_eq_true rfl) (rcv0 e28_H150) (Nat.le_of_ble_eq_true rfl) (p_hold W_H150  (by omega)) (fun z153 H154 r155 => ?_)
                obtain ⟨rfl, W_H154⟩ := r155
                obtain ⟨od_H154, e28_H154⟩ := W_H154.x28
                refine E_run hk 1 (j' := 165) (lv' := [(12, yi ((q k) - (q (k - 1)))), (11, yi ((p k) - (p (k - 1)))), (10, yi (q k)), (9, yi (p k)), (0, .ref 28), (1, yi x), (4, yi 1), (5, yi c), (6, yi s), (7, yi 0), (8, yi k)]) (st' := [yi (S 3), yi (unl S 0 (p k) (q k)), yi s]) (hp' := H154) rfl ?_
                refine Y_iadd (a := (unl S 0 (p k) (q k))) (b := (S 3)) hk rfl ?_
                refine Y_iadd (a := s) (b := ((unl S 0 (p k) (q k)) + (S 3))) hk rfl ?_
                refine E_run hk 2 (j' := 169) (lv' := [(6, yi (s + ((unl S 0 (p k) (q k)) + (S 3)))), (12, yi ((q k) - (q (k - 1)))), (11, yi ((p k) - (p (k - 1)))), (10, yi (q k)), (9, yi (p k)), (0, .ref 28), (1, yi x), (4, yi 1), (5, yi c), (7, yi 0), (8, yi k)]) (st' := [yi 1]) (hp' := H154) rfl ?_
                refine Y_if_eq (a := 1) (by omega) hk rfl (fun g156 => ?_) (fun g156 => ?_)
                · exfalso; omega
                ·
                  refine E_run hk 1 (j' := 171) (lv' := [(6, yi (s + ((unl S 0 (p k) (q k)) + (S 3)))), (12, yi ((q k) - (q (k - 1)))), (11, yi ((p k) - (p (k - 1)))), (10, yi (q k)), (9, yi (p k)), (0, .ref 28), (1, yi x), (4, yi 1), (5, yi c), (7, yi 0), (8, yi k)]) (st' := [yi ((p k) - (p (k - 1)))]) (hp' := H154) rfl ?_
                  refine Y_if_lt (a := ((p k) - (p (k - 1)))) (by omega) hk rfl (fun g157 => ?_) (fun g157 => ?_)
                  · exfalso; omega
                  ·
                    refine E_run hk 1 (j' := 173) (lv' := [(6, yi (s + ((unl S 0 (p k) (q k)) + (S 3)))), (12, yi ((q k) - (q (k - 1)))), (11, yi ((p k) - (p (k - 1)))), (10, yi (q k)), (9, yi (p k)), (0, .ref 28), (1, yi x), (4, yi 1), (5, yi c), (7, yi 0), (8, yi k)]) (st' := [yi ((q k) - (q (k - 1)))]) (hp' := H154) rfl ?_
                    refine Y_if_lt (a := ((q k) - (q (k - 1)))) (by omega) hk rfl (fun g158 => ?_) (fun g158 => ?_)
                    · exfalso; omega
                    ·
                      refine E_run hk 2 (j' := 176) (lv' := [(6, yi (s + ((unl S 0 (p k) (q k)) + (S 3)))), (12, yi ((q k) - (q (k - 1)))), (11, yi ((p k) - (p (k - 1)))), (10, yi (q k)), (9, yi (p k)), (0, .ref 28), (1, yi x), (4, yi 1), (5, yi c), (7, yi 0), (8, yi k)]) (st' := [yi 2, yi ((p k) - (p (k - 1)))]) (hp' := H154) rfl ?_
                      refine Y_ic_ge (a := ((p k) - (p (k - 1)))) (b := 2) (by omega) hk rfl (fun g159 => ?_) (fun g159 => ?_)
                      · exfalso; omega
                      ·
                        refine E_run hk 2 (j' := 179) (lv' := [(6, yi (s + ((unl S 0 (p k) (q k)) + (S 3)))), (12, yi ((q k) - (q (k - 1)))), (11, yi ((p k) - (p (k - 1)))), (10, yi (q k)), (9, yi (p k)), (0, .ref 28), (1, yi x), (4, yi 1), (5, yi c), (7, yi 0), (8, yi k)]) (st' := [yi 2, yi ((q k) - (q (k - 1)))]) (hp' := H154) rfl ?_
                        refine Y_ic_ge (a := ((q k) - (q (k - 1)))) (b := 2) (by omega) hk rfl (fun g160 => ?_) (fun g160 => ?_)
                        · exfalso; omega
                        ·
                          refine E_run hk 2 (j' := 182) (lv' := [(6, yi (s + ((unl S 0 (p k) (q k)) + (S 3)))), (12, yi ((q k) - (q (k - 1)))), (11, yi ((p k) - (p (k - 1)))), (10, yi (q k)), (9, yi (p k)), (0, .ref 28), (1, yi x), (4, yi 1), (5, yi c), (7, yi 0), (8, yi k)]) (st' := [yi ((q k) - (q (k - 1))), yi ((p k) - (p (k - 1)))]) (hp' := H154) rfl ?_
                          refine Y_iadd (a := ((p k) - (p (k - 1)))) (b := ((q k) - (q (k - 1)))) hk rfl ?_
                          refine Y_if_le (a := (((p k) - (p (k - 1))) + ((q k) - (q (k - 1))))) (by omega) hk rfl (fun g161 => ?_) (fun g161 => ?_)
                          · exfalso; omega
                          ·
                            refine E_run hk 3 (j' := 188) (lv' := [(4, yi 1), (6, yi (s + ((unl S 0 (p k) (q k)) + (S 3)))), (12, yi ((q k) - (q (k - 1)))), (11, yi ((p k) - (p (k - 1)))), (10, yi (q k)), (9, yi (p k)), (0, .ref 28), (1, yi x), (5, yi c), (7, yi 0), (8, yi k)]) (st' := []) (hp' := H154) rfl ?_
                            refine Y_iinc (a := k) (z := 1) hk rfl rfl rfl (by decide) (lv' := [(8, yi (k + 1)), (4, yi 1), (6, yi (s + ((unl S 0 (p k) (q k)) + (S 3)))), (12, yi ((q k) - (q (k - 1)))), (11, yi ((p k) - (p (k - 1)))), (10, yi (q k)), (9, yi (p k)), (0, .ref 28), (1, yi x), (5, yi c), (7, yi 0)]) rfl ?_
                            refine E_run hk 1 (j' := 112) (lv' := [(8, yi (k + 1)), (4, yi 1), (6, yi (s + ((unl S 0 (p k) (q k)) + (S 3)))), (12, yi ((q k) - (q (k - 1)))), (11, yi ((p k) - (p (k - 1)))), (10, yi (q k)), (9, yi (p k)), (0, .ref 28), (1, yi x), (5, yi c), (7, yi 0)]) (st' := []) (hp' := H154) rfl ?_
                            exact Ev_le (xle_s rfl rfl (xle_s rfl rfl (xle_s rfl rfl (xle_s rfl rfl (xle_s rfl rfl (xle_s rfl rfl (xle_s rfl rfl (xle_z _ rfl)))))))) (ih112 _ (by omega) (k + 1) (s + ((unl S 0 (p k) (q k)) + (S 3))) H154 (by omega) (by have w := tot_s (c := c) (k := k) ⟨by omega, by omega⟩ gb gg; omega) (W_H154.mono (by omega)) rfl)
            · exfalso; omega
          · exfalso; omega
  exact Ev_le (xle_s rfl rfl (xle_s rfl rfl (xle_s rfl rfl (xle_s rfl rfl (xle_s rfl rfl (xle_s rfl rfl (xle_s rfl rfl (xle_z _ rfl)))))))) (loop112 _ 0 0 H2 (by omega) ((tot_0 gc.1 g0).symm) (W_H2.mono (by omega)) rfl)
theorem hol_m {L : Nat} {F : Int → Int} {b n : Int} {h : xH} {S T : Int → Int} {x : Int} {d : Nat} (hd : 7 ≤ d) (W_h : pzI L F b h n S T) (hx9 : -2147483648 ≤ x ∧ x ≤ 2147483647) (hm : 0 < S 0 ∧ 0 < S 1 ∧ -S 2 ≤ S 0 - S 1 ∧ S 0 - S 1 ≤ S 2) : Cv d 118 [.ref 28, yi x] h (yE (fun z h1 => z = 1 ∧ pzI L F (b + 480) h1 n S T)) := by
  have hk : xtab 118 = (xc_118, 13, 2, []) := rfl
  obtain ⟨d, rfl⟩ : ∃ e, d = e + 1 := ⟨d - 1, by omega⟩
  obtain ⟨nu, nn, n5⟩ := W_h.nums
  have hnb : ¬ (S 0 = 0 ∨ S 1 = 0) := by omega
  obtain ⟨nb1, nb2, nb3, nb4, nb5, nb6⟩ := nb_ok W_h.2.2.2.1.1 hnb
  show Ev (d + 1) 118 0 [(0, .ref 28), (1, yi x)] [] h _
  obtain ⟨od_h, e28_h⟩ := W_h.x28
  refine E_run hk 2 (j' := 2) (lv' := [(0, .ref 28), (1, yi x)]) (st' := [yi 0, .ref 28]) (hp' := h) rfl ?_
  refine Y_callE hk rfl (as := [.ref 28, yi 0]) (rest := []) rfl rfl (Nat.le_of_ble_eq_true rfl) (rcv0 e28_h) (Nat.le_of_ble_eq_true rfl) (p_notes W_h (x := 0) (by omega) (by omega)) (fun z1 H2 r3 => ?_)
  obtain ⟨e_z1, W_H2⟩ := r3
  have e_z1 : z1 = S 0 := e_z1
  subst e_z1
  obtain ⟨od_H2, e28_H2⟩ := W_H2.x28
  refine Y_if_eq (a := (S 0)) (by omega) hk rfl (fun g4 => ?_) (fun g4 => ?_)
  · exfalso; omega
  ·
    refine E_run hk 2 (j' := 6) (lv' := [(0, .ref 28), (1, yi x)]) (st' := [yi 1, .ref 28]) (hp' := H2) rfl ?_
    refine Y_callE hk rfl (as := [.ref 28, yi 1]) (rest := []) rfl rfl (Nat.le_of_ble_eq_true rfl) (rcv0 e28_H2) (Nat.le_of_ble_eq_true rfl) (p_notes W_H2 (x := 1) (by omega) (by omega)) (fun z5 H6 r7 => ?_)
    obtain ⟨e_z5, W_H6⟩ := r7
    have e_z5 : z5 = S 1 := e_z5
    subst e_z5
    obtain ⟨od_H6, e28_H6⟩ := W_H6.x28
    refine Y_if_ne (a := (S 1)) (by omega) hk rfl (fun g8 => ?_) (fun g8 => ?_)
    ·
      refine E_run hk 4 (j' := 14) (lv' := [(2, yi 0), (0, .ref 28), (1, yi x)]) (st' := [yi 0, .ref 28]) (hp' := H6) rfl ?_
      refine Y_callE hk rfl (as := [.ref 28, yi 0]) (rest := []) rfl rfl (Nat.le_of_ble_eq_true rfl) (rcv0 e28_H6) (Nat.le_of_ble_eq_true rfl) (p_notes W_H6 (x := 0) (by omega) (by omega)) (fun z9 H10 r11 => ?_)
      obtain ⟨e_z9, W_H10⟩ := r11
      have e_z9 : z9 = S 0 := e_z9
      subst e_z9
      obtain ⟨od_H10, e28_H10⟩ := W_H10.x28
      refine E_run hk 2 (j' := 17) (lv' := [(2, yi 0), (0, .ref 28), (1, yi x)]) (st' := [yi 1, .ref 28, yi (S 0)]) (hp' := H10) rfl ?_
      refine Y_callE hk rfl (as := [.ref 28, yi 1]) (rest := [yi (S 0)]) rfl rfl (Nat.le_of_ble_eq_true rfl) (rcv0 e28_H10) (Nat.le_of_ble_eq_true rfl) (p_notes W_H10 (x := 1) (by omega) (by omega)) (fun z12 H13 r14 => ?_)
      obtain ⟨e_z12, W_H13⟩ := r14
      have e_z12 : z12 = S 1 := e_z12
      subst e_z12
      obtain ⟨od_H13, e28_H13⟩ := W_H13.x28
      refine Y_isub (a := (S 0)) (b := (S 1)) hk rfl ?_
      refine E_run hk 2 (j' := 21) (lv' := [(3, yi ((S 0) - (S 1))), (2, yi 0), (0, .ref 28), (1, yi x)]) (st' := [.ref 28]) (hp' := H13) rfl ?_
      refine Y_callE hk rfl (as := [.ref 28]) (rest := []) rfl rfl (Nat.le_of_ble_eq_true rfl) (rcv0 e28_H13) (Nat.le_of_ble_eq_true rfl) (p_isM1 W_H13 hm (by omega)) (fun z15 H16 r17 => ?_)
      obtain ⟨rfl, W_H16⟩ := r17
      obtain ⟨od_H16, e28_H16⟩ := W_H16.x28
      refine E_run hk 1 (j' := 23) (lv' := [(3, yi ((S 0) - (S 1))), (2, yi 0), (0, .ref 28), (1, yi x)]) (st' := [yi 0, yi 1]) (hp' := H16) rfl ?_
      refine Y_if_ne (a := 0) (by omega) hk rfl (fun g18 => ?_) (fun g18 => ?_)
      · exfalso; omega
      ·
        refine E_run hk 2 (j' := 26) (lv' := [(3, yi ((S 0) - (S 1))), (2, yi 0), (0, .ref 28), (1, yi x)]) (st' := [.ref 28, yi ((S 0) - (S 1)), yi 1]) (hp' := H16) rfl ?_
        refine Y_callE hk rfl (as := [.ref 28]) (rest := [yi ((S 0) - (S 1)), yi 1]) rfl rfl (Nat.le_of_ble_eq_true rfl) (rcv0 e28_H16) (Nat.le_of_ble_eq_true rfl) (p_bound W_H16  (by omega)) (fun z19 H20 r21 => ?_)
        obtain ⟨rfl, W_H20⟩ := r21
        obtain ⟨od_H20, e28_H20⟩ := W_H20.x28
        refine Y_ic_gt (a := ((S 0) - (S 1))) (b := (S 2)) (by omega) hk rfl (fun g22 => ?_) (fun g22 => ?_)
        · exfalso; omega
        ·
          refine E_run hk 1 (j' := 29) (lv' := [(3, yi ((S 0) - (S 1))), (2, yi 0), (0, .ref 28), (1, yi x)]) (st' := [yi ((S 0) - (S 1)), yi 1]) (hp' := H20) rfl ?_
          refine Y_ineg (a := ((S 0) - (S 1))) hk rfl ?_
          refine E_run hk 1 (j' := 31) (lv' := [(3, yi ((S 0) - (S 1))), (2, yi 0), (0, .ref 28), (1, yi x)]) (st' := [.ref 28, yi (-((S 0) - (S 1))), yi 1]) (hp' := H20) rfl ?_
          refine Y_callE hk rfl (as := [.ref 28]) (rest := [yi (-((S 0) - (S 1))), yi 1]) rfl rfl (Nat.le_of_ble_eq_true rfl) (rcv0 e28_H20) (Nat.le_of_ble_eq_true rfl) (p_bound W_H20  (by omega)) (fun z23 H24 r25 => ?_)
          obtain ⟨rfl, W_H24⟩ := r25
          obtain ⟨od_H24, e28_H24⟩ := W_H24.x28
          refine Y_ic_gt (a := (-((S 0) - (S 1)))) (b := (S 2)) (by omega) hk rfl (fun g26 => ?_) (fun g26 => ?_)
          · exfalso; omega
          ·
            refine E_run hk 2 (j' := 36) (lv' := [(3, yi ((S 0) - (S 1))), (2, yi 0), (0, .ref 28), (1, yi x)]) (st' := [yi 1, yi 1]) (hp' := H24) rfl ?_
            refine Y_ic_ne (a := 1) (b := 1) (by omega) hk rfl (fun g27 => ?_) (fun g27 => ?_)
            · exfalso; omega
            ·
              refine E_run hk 1 (j' := 38) (lv' := [(3, yi ((S 0) - (S 1))), (2, yi 0), (0, .ref 28), (1, yi x)]) (st' := [.ref 28]) (hp' := H24) rfl ?_
              refine Y_callE hk rfl (as := [.ref 28]) (rest := []) rfl rfl (Nat.le_of_ble_eq_true rfl) (rcv0 e28_H24) (Nat.le_of_ble_eq_true rfl) (p_neededBound W_H24 (by omega)) (fun z28 H29 r30 => ?_)
              obtain ⟨nz_z28, W_H29⟩ := r30
              have e_z28 : 0 ≤ z28 ∧ z28 ≤ 20 ∧ cst S 0 z28 = cst S 0 20 := Or.elim nz_z28 (fun v => absurd v.1 hnb) (fun v => v.2)
              obtain ⟨od_H29, e28_H29⟩ := W_H29.x28
              refine E_run hk 1 (j' := 40) (lv' := [(3, yi ((S 0) - (S 1))), (2, yi 0), (0, .ref 28), (1, yi x)]) (st' := [yi (-1), yi z28]) (hp' := H29) rfl ?_
              refine Y_ic_ne (a := z28) (b := (-1)) (by omega) hk rfl (fun g31 => ?_) (fun g31 => ?_)
              ·
                refine E_run hk 2 (j' := 45) (lv' := [(3, yi ((S 0) - (S 1))), (2, yi 0), (0, .ref 28), (1, yi x)]) (st' := [yi 0, yi 0]) (hp' := H29) rfl ?_
                refine Y_ic_ne (a := 0) (b := 0) (by omega) hk rfl (fun g32 => ?_) (fun g32 => ?_)
                · exfalso; omega
                ·
                  refine E_run hk 4 (j' := 51) (lv' := [(4, yi 1), (3, yi ((S 0) - (S 1))), (2, yi 0), (0, .ref 28), (1, yi x)]) (st' := [yi 0]) (hp' := H29) rfl ?_
                  refine Y_if_ne (a := 0) (by omega) hk rfl (fun g33 => ?_) (fun g33 => ?_)
                  · exfalso; omega
                  ·
                    refine E_run hk 1 (j' := 53) (lv' := [(4, yi 1), (3, yi ((S 0) - (S 1))), (2, yi 0), (0, .ref 28), (1, yi x)]) (st' := [yi 1]) (hp' := H29) rfl ?_
                    refine Y_if_eq (a := 1) (by omega) hk rfl (fun g34 => ?_) (fun g34 => ?_)
                    · exfalso; omega
                    ·
                      refine E_run hk 1 (j' := 55) (lv' := [(4, yi 1), (3, yi ((S 0) - (S 1))), (2, yi 0), (0, .ref 28), (1, yi x)]) (st' := [.ref 28]) (hp' := H29) rfl ?_
                      refine Y_callE hk rfl (as := [.ref 28]) (rest := []) rfl rfl (Nat.le_of_ble_eq_true rfl) (rcv0 e28_H29) (Nat.le_of_ble_eq_true rfl) (p_partBegin W_H29 hnb (by omega)) (fun z35 H36 r37 => ?_)
                      obtain ⟨rfl, W_H36⟩ := r37
                      obtain ⟨od_H36, e28_H36⟩ := W_H36.x28
                      refine E_run hk 1 (j' := 57) (lv' := [(4, yi 1), (3, yi ((S 0) - (S 1))), (2, yi 0), (0, .ref 28), (1, yi x)]) (st' := [.ref 28, yi (pb (unl S 0) (S 3) (S 0 - 1) (pend S))]) (hp' := H36) rfl ?_
                      refine Y_callE hk rfl (as := [.ref 28]) (rest := [yi (pb (unl S 0) (S 3) (S 0 - 1) (pend S))]) rfl rfl (Nat.le_of_ble_eq_true rfl) (rcv0 e28_H36) (Nat.le_of_ble_eq_true rfl) (p_partEnd W_H36 hnb (by omega)) (fun z38 H39 r40 => ?_)
                      obtain ⟨rfl, W_H39⟩ := r40
                      obtain ⟨od_H39, e28_H39⟩ := W_H39.x28
                      refine Y_ic_gt (a := (pb (unl S 0) (S 3) (S 0 - 1) (pend S))) (b := (pend S)) (by omega) hk rfl (fun g41 => ?_) (fun g41 => ?_)
                      · exfalso; omega
                      ·
                        refine E_run hk 1 (j' := 60) (lv' := [(4, yi 1), (3, yi ((S 0) - (S 1))), (2, yi 0), (0, .ref 28), (1, yi x)]) (st' := [.ref 28]) (hp' := H39) rfl ?_
                        refine Y_callE hk rfl (as := [.ref 28]) (rest := []) rfl rfl (Nat.le_of_ble_eq_true rfl) (rcv0 e28_H39) (Nat.le_of_ble_eq_true rfl) (p_partCost W_H39 hnb (by omega)) (fun z42 H43 r44 => ?_)
                        obtain ⟨rfl, W_H43⟩ := r44
                        obtain ⟨od_H43, e28_H43⟩ := W_H43.x28
                        refine E_run hk 2 (j' := 63) (lv' := [(4, yi 1), (3, yi ((S 0) - (S 1))), (2, yi 0), (0, .ref 28), (1, yi x)]) (st' := [yi 20, .ref 28, yi (pc (unl S 0) (S 3) (S 0 - 1) (pend S))]) (hp' := H43) rfl ?_
                        refine Y_callE hk rfl (as := [.ref 28, yi 20]) (rest := [yi (pc (unl S 0) (S 3) (S 0 - 1) (pend S))]) rfl rfl (Nat.le_of_ble_eq_true rfl) (rcv0 e28_H43) (Nat.le_of_ble_eq_true rfl) (p_cwb W_H43 (y := 20) (by omega) rfl nb4.2 (by omega)) (fun z45 H46 r47 => ?_)
                        obtain ⟨rfl, W_H46⟩ := r47
                        obtain ⟨od_H46, e28_H46⟩ := W_H46.x28
                        refine Y_ic_gt (a := (pc (unl S 0) (S 3) (S 0 - 1) (pend S))) (b := (cst S 0 20)) (by omega) hk rfl (fun g48 => ?_) (fun g48 => ?_)
                        · exfalso; omega
                        ·
                          refine E_run hk 3 (j' := 68) (lv' := [(4, yi 1), (3, yi ((S 0) - (S 1))), (2, yi 0), (0, .ref 28), (1, yi x)]) (st' := [yi 0, yi 0, .ref 28]) (hp' := H46) rfl ?_
                          refine Y_callE hk rfl (as := [.ref 28, yi 0, yi 0]) (rest := []) rfl rfl (Nat.le_of_ble_eq_true rfl) (rcv0 e28_H46) (Nat.le_of_ble_eq_true rfl) (p_costTo W_H46 (i := 0) (j := 0) (by omega) (by omega)) (fun z49 H50 r51 => ?_)
                          obtain ⟨e_z49, W_H50⟩ := r51
                          rw [nb5] at e_z49
                          subst e_z49
                          obtain ⟨od_H50, e28_H50⟩ := W_H50.x28
                          refine E_run hk 3 (j' := 72) (lv' := [(4, yi 1), (3, yi ((S 0) - (S 1))), (2, yi 0), (0, .ref 28), (1, yi x)]) (st' := [yi 0, yi 0, .ref 28, yi (unl S 0 0 0)]) (hp' := H50) rfl ?_
                          refine Y_callE hk rfl (as := [.ref 28, yi 0, yi 0]) (rest := [yi (unl S 0 0 0)]) rfl rfl (Nat.le_of_ble_eq_true rfl) (rcv0 e28_H50) (Nat.le_of_ble_eq_true rfl) (p_unlike W_H50 (i := 0) (j := 0) (by omega) (by omega)) (fun z52 H53 r54 => ?_)
                          obtain ⟨rfl, W_H53⟩ := r54
                          obtain ⟨od_H53, e28_H53⟩ := W_H53.x28
                          refine Y_ic_ne (a := (unl S 0 0 0)) (b := (unl S 0 0 0)) (by omega) hk rfl (fun g55 => ?_) (fun g55 => ?_)
                          · exfalso; omega
                          ·
                            refine E_run hk 2 (j' := 76) (lv' := [(4, yi 1), (3, yi ((S 0) - (S 1))), (2, yi 0), (0, .ref 28), (1, yi x)]) (st' := [.ref 28, .ref 28]) (hp' := H53) rfl ?_
                            refine Y_callE hk rfl (as := [.ref 28]) (rest := [.ref 28]) rfl rfl (Nat.le_of_ble_eq_true rfl) (rcv0 e28_H53) (Nat.le_of_ble_eq_true rfl) (p_neededBound W_H53 (by omega)) (fun z56 H57 r58 => ?_)
                            obtain ⟨nz_z56, W_H57⟩ := r58
                            have e_z56 : 0 ≤ z56 ∧ z56 ≤ 20 ∧ cst S 0 z56 = cst S 0 20 := Or.elim nz_z56 (fun v => absurd v.1 hnb) (fun v => v.2)
                            obtain ⟨od_H57, e28_H57⟩ := W_H57.x28
                            refine Y_callE hk rfl (as := [.ref 28, yi z56]) (rest := []) rfl rfl (Nat.le_of_ble_eq_true rfl) (rcv0 e28_H57) (Nat.le_of_ble_eq_true rfl) (p_cwb W_H57 (y := z56) (by omega) (by omega) nb4.2 (by omega)) (fun z59 H60 r61 => ?_)
                            obtain ⟨rfl, W_H60⟩ := r61
                            obtain ⟨od_H60, e28_H60⟩ := W_H60.x28
                            refine E_run hk 2 (j' := 80) (lv' := [(4, yi 1), (3, yi ((S 0) - (S 1))), (2, yi 0), (0, .ref 28), (1, yi x)]) (st' := [yi 20, .ref 28, yi (cst S 0 20)]) (hp' := H60) rfl ?_
                            refine Y_callE hk rfl (as := [.ref 28, yi 20]) (rest := [yi (cst S 0 20)]) rfl rfl (Nat.le_of_ble_eq_true rfl) (rcv0 e28_H60) (Nat.le_of_ble_eq_true rfl) (p_cwb W_H60 (y := 20) (by omega) rfl nb4.2 (by omega)) (fun z62 H63 r64 => ?_)
                            obtain ⟨rfl, W_H63⟩ := r64
                            obtain ⟨od_H63, e28_H63⟩ := W_H63.x28
                            refine Y_ic_ne (a := (cst S 0 20)) (b := (cst S 0 20)) (by omega) hk rfl (fun g65 => ?_) (fun g65 => ?_)
                            · exfalso; omega
                            ·
                              refine E_run hk 4 (j' := 87) (lv' := [(4, yi 1), (3, yi ((S 0) - (S 1))), (2, yi 0), (0, .ref 28), (1, yi x)]) (st' := [.ref 28]) (hp' := H63) rfl ?_
                              refine Y_callE hk rfl (as := [.ref 28]) (rest := []) rfl rfl (Nat.le_of_ble_eq_true rfl) (rcv0 e28_H63) (Nat.le_of_ble_eq_true rfl) (p_isM1 W_H63 hm (by omega)) (fun z66 H67 r68 => ?_)
                              obtain ⟨rfl, W_H67⟩ := r68
                              obtain ⟨od_H67, e28_H67⟩ := W_H67.x28
                              refine Y_if_ne (a := 1) (by omega) hk rfl (fun g69 => ?_) (fun g69 => ?_)
                              ·
                                exact Ev_le (xle_s rfl rfl (xle_s rfl rfl (xle_s rfl rfl (xle_z _ rfl)))) (Ev.imp (hol_103 (d := d + 1) (by omega) W_H67 hx9 hm) (fun o h9 ⟨z, w, e, W⟩ => ⟨z, w, e, W.mono (by omega)⟩))
                              · exfalso; omega
              · exfalso; omega
    · exfalso; omega
theorem c_L_holds {L : Nat} {F : Int → Int} {b n : Int} {h : xH} {S T : Int → Int} {x : Int} {d : Nat} (hd : 7 ≤ d) (W_h : pzI L F b h n S T) (hx9 : -2147483648 ≤ x ∧ x ≤ 2147483647) : Cv d 118 [.ref 28, yi x] h (yE (fun z h1 => z = 1 ∧ pzI L F (b + 480) h1 n S T)) := by
  have up9 : ∀ o h1, (yE (fun z h1 => z = 1 ∧ pzI L F (b + 450) h1 n S T)) o h1 → (yE (fun z h1 => z = 1 ∧ pzI L F (b + 480) h1 n S T)) o h1 := fun o h1 ⟨z, w, e, W⟩ => ⟨z, w, e, W.mono (by omega)⟩
  obtain ⟨nu, -, -⟩ := W_h.nums
  by_cases a : S 0 = 0
  · exact Ev.imp (hol_b1 hd W_h hx9 a) up9
  by_cases a2 : S 1 = 0
  · exact Ev.imp (hol_b2 hd W_h hx9 a a2) up9
  by_cases u : S 2 < S 0 - S 1
  · exact Ev.imp (hol_u1 hd W_h hx9 a a2 u) up9
  by_cases u2 : S 2 < S 1 - S 0
  · exact Ev.imp (hol_u2 hd W_h hx9 a a2 u u2) up9
  · exact hol_m hd W_h hx9 (by omega)
