/-! The law: its turns. -/
section PT
variable {L : Nat} {F : Int → Int} {b n : Int} {h : xH} {S T : Int → Int}
theorem pzI.x25 (H : pzI L F b h n S T) : xat h 25 = some (yI L F) := H.2.1.1
theorem inc6_or {n : Int} (hn : 0 ≤ n ∧ n ≤ 6) : (n = 6 ∧ inc6 n = 6) ∨ (n < 6 ∧ inc6 n = n + 1) := by
  unfold inc6
  by_cases e : n = 6
  · exact Or.inl ⟨e, if_pos e⟩
  · exact Or.inr ⟨by omega, if_neg e⟩
end PT
theorem law_103 {L : Nat} {F : Int → Int} {b n i v x : Int} {h : xH} {S T S2 : Int → Int} {Q : xO → xH → Prop} {d : Nat} (hd : 8 ≤ d) (W_h : pzI L F b h (inc6 n) S2 (rcU n S T)) (hL : L ≤ 260) (hi : 0 ≤ i ∧ i < 34) (hv : -2147483648 ≤ v ∧ v ≤ 2147483647) (hx9 : -2147483648 ≤ x ∧ x ≤ 2147483647) (nn : 0 ≤ n ∧ n ≤ 6) (nr : nrS S) (hs : nxt S v x = some S2) (kk : ∀ (h1 : xH) (n1 : Int) (S1 T1 : Int → Int), pzI L F (b + 780) h1 n1 S1 T1 → Ev d 119 39 [(0, .ref 25), (1, .ref 28), (2, yi (i + 1))] [] h1 Q) : Ev d 119 103 [(0, .ref 25), (1, .ref 28), (2, yi i), (3, yi v), (4, yi x), (5, .long (tld S)), (7, yi n), (8, yi 1), (9, .long (tld S2))] [] h (Q) := by
  have hk : xtab 119 = (xc_119, 12, 2, []) := rfl
  obtain ⟨d, rfl⟩ : ∃ e, d = e + 1 := ⟨d - 1, by omega⟩
  have i6 := inc6_or nn
  obtain ⟨od_h, e28_h⟩ := W_h.x28
  refine E_run hk 1 (j' := 104) (lv' := [(0, .ref 25), (1, .ref 28), (2, yi i), (3, yi v), (4, yi x), (5, .long (tld S)), (7, yi n), (8, yi 1), (9, .long (tld S2))]) (st' := [yi 1]) (hp' := h) rfl ?_
  refine Y_if_eq (a := 1) (by omega) hk rfl (fun g1 => ?_) (fun g1 => ?_)
  · exfalso; omega
  ·
    refine E_run hk 2 (j' := 107) (lv' := [(0, .ref 25), (1, .ref 28), (2, yi i), (3, yi v), (4, yi x), (5, .long (tld S)), (7, yi n), (8, yi 1), (9, .long (tld S2))]) (st' := [yi 20, yi v]) (hp' := h) rfl ?_
    refine Y_sr (a := v) (b := 20) hk rfl ?_
    have q2 := sr_rng v 20
    refine E_run hk 1 (j' := 109) (lv' := [(0, .ref 25), (1, .ref 28), (2, yi i), (3, yi v), (4, yi x), (5, .long (tld S)), (7, yi n), (8, yi 1), (9, .long (tld S2))]) (st' := [yi 1, yi (sr v 20)]) (hp' := h) rfl ?_
    refine Y_an (a := (sr v 20)) (b := 1) hk rfl ?_
    have q3 := an_le (a := (sr v 20)) (m := 1) (by decide)
    refine Y_if_ne (a := (an (sr v 20) 1)) (by omega) hk rfl (fun g4 => ?_) (fun g4 => ?_)
    ·
      refine E_run hk 3 (j' := 140) (lv' := [(0, .ref 25), (1, .ref 28), (2, yi i), (3, yi v), (4, yi x), (5, .long (tld S)), (7, yi n), (8, yi 1), (9, .long (tld S2))]) (st' := [yi 4, yi x, .ref 28]) (hp' := h) rfl ?_
      refine Y_sr (a := x) (b := 4) hk rfl ?_
      have q5 := sr_rng x 4
      refine Y_callE hk rfl (as := [.ref 28, yi (sr x 4)]) (rest := []) rfl rfl (Nat.le_of_ble_eq_true rfl) rfl (Nat.le_of_ble_eq_true rfl) (c_L_holds (by omega) W_h (x := (sr x 4)) (by omega)) (fun z6 H7 r8 => ?_)
      obtain ⟨rfl, W_H7⟩ := r8
      obtain ⟨od_H7, e28_H7⟩ := W_H7.x28
      refine Y_if_ne (a := 1) (by omega) hk rfl (fun g9 => ?_) (fun g9 => ?_)
      ·
        refine Y_iinc (a := i) (z := 1) hk rfl rfl rfl (by decide) (lv' := [(2, yi (i + 1)), (0, .ref 25), (1, .ref 28), (3, yi v), (4, yi x), (5, .long (tld S)), (7, yi n), (8, yi 1), (9, .long (tld S2))]) rfl ?_
        refine E_run hk 1 (j' := 39) (lv' := [(2, yi (i + 1)), (0, .ref 25), (1, .ref 28), (3, yi v), (4, yi x), (5, .long (tld S)), (7, yi n), (8, yi 1), (9, .long (tld S2))]) (st' := []) (hp' := H7) rfl ?_
        exact Ev_le (xle_s rfl rfl (xle_s rfl rfl (xle_s rfl rfl (xle_z _ rfl)))) (kk _ _ _ _ (W_H7.mono (by omega)))
      · exfalso; omega
    ·
      refine E_run hk 1 (j' := 112) (lv' := [(0, .ref 25), (1, .ref 28), (2, yi i), (3, yi v), (4, yi x), (5, .long (tld S)), (7, yi n), (8, yi 1), (9, .long (tld S2))]) (st' := [.ref 28]) (hp' := h) rfl ?_
      refine Y_callE hk rfl (as := [.ref 28]) (rest := []) rfl rfl (Nat.le_of_ble_eq_true rfl) (rcv0 e28_h) (Nat.le_of_ble_eq_true rfl) (p_savedStates W_h (by omega)) (fun z10 H11 r12 => ?_)
      obtain ⟨rfl, W_H11⟩ := r12
      obtain ⟨od_H11, e28_H11⟩ := W_H11.x28
      refine E_run hk 1 (j' := 114) (lv' := [(0, .ref 25), (1, .ref 28), (2, yi i), (3, yi v), (4, yi x), (5, .long (tld S)), (7, yi n), (8, yi 1), (9, .long (tld S2))]) (st' := [yi 1, yi (inc6 n)]) (hp' := H11) rfl ?_
      refine Y_isub (a := (inc6 n)) (b := 1) hk rfl ?_
      refine E_run hk 2 (j' := 117) (lv' := [(11, yi ((inc6 n) - 1)), (0, .ref 25), (1, .ref 28), (2, yi i), (3, yi v), (4, yi x), (5, .long (tld S)), (7, yi n), (8, yi 1), (9, .long (tld S2))]) (st' := [.ref 28]) (hp' := H11) rfl ?_
      refine Y_callE hk rfl (as := [.ref 28]) (rest := []) rfl rfl (Nat.le_of_ble_eq_true rfl) (rcv0 e28_H11) (Nat.le_of_ble_eq_true rfl) (m_undo W_H11 (S0 := S) (by omega) (rcU_last nn) nr (by omega)) (fun z13 H14 r15 => ?_)
      obtain ⟨rfl, W_H14⟩ := r15
      obtain ⟨od_H14, e28_H14⟩ := W_H14.x28
      refine E_run hk 1 (j' := 119) (lv' := [(11, yi ((inc6 n) - 1)), (0, .ref 25), (1, .ref 28), (2, yi i), (3, yi v), (4, yi x), (5, .long (tld S)), (7, yi n), (8, yi 1), (9, .long (tld S2))]) (st' := [yi ((inc6 n) - 1), yi (inc6 n - 1)]) (hp' := H14) rfl ?_
      refine Y_ic_ne (a := (inc6 n - 1)) (b := ((inc6 n) - 1)) (by omega) hk rfl (fun g16 => ?_) (fun g16 => ?_)
      · exfalso; omega
      ·
        refine E_run hk 1 (j' := 121) (lv' := [(11, yi ((inc6 n) - 1)), (0, .ref 25), (1, .ref 28), (2, yi i), (3, yi v), (4, yi x), (5, .long (tld S)), (7, yi n), (8, yi 1), (9, .long (tld S2))]) (st' := [.ref 28]) (hp' := H14) rfl ?_
        refine Y_callL hk rfl (as := [.ref 28]) (rest := []) rfl rfl (Nat.le_of_ble_eq_true rfl) rfl (Nat.le_of_ble_eq_true rfl) (c_L_told (by omega) W_H14) (fun z17 H18 r19 => ?_)
        obtain ⟨rfl, W_H18⟩ := r19
        obtain ⟨od_H18, e28_H18⟩ := W_H18.x28
        refine E_run hk 1 (j' := 123) (lv' := [(11, yi ((inc6 n) - 1)), (0, .ref 25), (1, .ref 28), (2, yi i), (3, yi v), (4, yi x), (5, .long (tld S)), (7, yi n), (8, yi 1), (9, .long (tld S2))]) (st' := [.long (tld S), .long (tld S)]) (hp' := H18) rfl ?_
        refine Y_lcmp_h rfl hk rfl ?_
        refine Y_if_ne (a := 0) (by omega) hk rfl (fun g20 => ?_) (fun g20 => ?_)
        · exfalso; omega
        ·
          refine E_run hk 3 (j' := 128) (lv' := [(11, yi ((inc6 n) - 1)), (0, .ref 25), (1, .ref 28), (2, yi i), (3, yi v), (4, yi x), (5, .long (tld S)), (7, yi n), (8, yi 1), (9, .long (tld S2))]) (st' := [yi x, yi v, .ref 28]) (hp' := H18) rfl ?_
          refine Y_callE hk rfl (as := [.ref 28, yi v, yi x]) (rest := []) rfl rfl (Nat.le_of_ble_eq_true rfl) rfl (Nat.le_of_ble_eq_true rfl) (c_L_act (by omega) W_H18 (v := v) (x := x) hv hx9) (fun z21 H22 r23 => ?_)
          rcases r23 with ⟨-, hno, -⟩ | ⟨rfl, S3, hs3, W_H22⟩
          · skip
            exact absurd (hno.symm.trans hs) (fun e => nomatch e)
          · skip
            have e3 : S3 = S2 := Option.some.inj (hs3.symm.trans hs)
            rw [e3] at W_H22
            obtain ⟨od_H22, e28_H22⟩ := W_H22.x28
            refine Y_if_eq (a := 1) (by omega) hk rfl (fun g24 => ?_) (fun g24 => ?_)
            · exfalso; omega
            ·
              refine E_run hk 1 (j' := 131) (lv' := [(11, yi ((inc6 n) - 1)), (0, .ref 25), (1, .ref 28), (2, yi i), (3, yi v), (4, yi x), (5, .long (tld S)), (7, yi n), (8, yi 1), (9, .long (tld S2))]) (st' := [.ref 28]) (hp' := H22) rfl ?_
              refine Y_callL hk rfl (as := [.ref 28]) (rest := []) rfl rfl (Nat.le_of_ble_eq_true rfl) rfl (Nat.le_of_ble_eq_true rfl) (c_L_told (by omega) W_H22) (fun z25 H26 r27 => ?_)
              obtain ⟨rfl, W_H26⟩ := r27
              obtain ⟨od_H26, e28_H26⟩ := W_H26.x28
              refine E_run hk 1 (j' := 133) (lv' := [(11, yi ((inc6 n) - 1)), (0, .ref 25), (1, .ref 28), (2, yi i), (3, yi v), (4, yi x), (5, .long (tld S)), (7, yi n), (8, yi 1), (9, .long (tld S2))]) (st' := [.long (tld S2), .long (tld S2)]) (hp' := H26) rfl ?_
              refine Y_lcmp_h rfl hk rfl ?_
              refine Y_if_eq (a := 0) (by omega) hk rfl (fun g28 => ?_) (fun g28 => ?_)
              ·
                refine E_run hk 3 (j' := 140) (lv' := [(11, yi ((inc6 n) - 1)), (0, .ref 25), (1, .ref 28), (2, yi i), (3, yi v), (4, yi x), (5, .long (tld S)), (7, yi n), (8, yi 1), (9, .long (tld S2))]) (st' := [yi 4, yi x, .ref 28]) (hp' := H26) rfl ?_
                refine Y_sr (a := x) (b := 4) hk rfl ?_
                have q29 := sr_rng x 4
                refine Y_callE hk rfl (as := [.ref 28, yi (sr x 4)]) (rest := []) rfl rfl (Nat.le_of_ble_eq_true rfl) rfl (Nat.le_of_ble_eq_true rfl) (c_L_holds (by omega) W_H26 (x := (sr x 4)) (by omega)) (fun z30 H31 r32 => ?_)
                obtain ⟨rfl, W_H31⟩ := r32
                obtain ⟨od_H31, e28_H31⟩ := W_H31.x28
                refine Y_if_ne (a := 1) (by omega) hk rfl (fun g33 => ?_) (fun g33 => ?_)
                ·
                  refine Y_iinc (a := i) (z := 1) hk rfl rfl rfl (by decide) (lv' := [(2, yi (i + 1)), (11, yi ((inc6 n) - 1)), (0, .ref 25), (1, .ref 28), (3, yi v), (4, yi x), (5, .long (tld S)), (7, yi n), (8, yi 1), (9, .long (tld S2))]) rfl ?_
                  refine E_run hk 1 (j' := 39) (lv' := [(2, yi (i + 1)), (11, yi ((inc6 n) - 1)), (0, .ref 25), (1, .ref 28), (3, yi v), (4, yi x), (5, .long (tld S)), (7, yi n), (8, yi 1), (9, .long (tld S2))]) (st' := []) (hp' := H31) rfl ?_
                  exact Ev_le (xle_s rfl rfl (xle_s rfl rfl (xle_s rfl rfl (xle_z _ rfl)))) (kk _ _ _ _ (W_H31.mono (by omega)))
                · exfalso; omega
              · exfalso; omega
theorem law_56 {L : Nat} {F : Int → Int} {b n i v : Int} {h : xH} {S T : Int → Int} {Q : xO → xH → Prop} {d : Nat} (hd : 8 ≤ d) (W_h : pzI L F b h n S T) (hL : L ≤ 260) (hi : 0 ≤ i ∧ i < 34) (hv : -2147483648 ≤ v ∧ v ≤ 2147483647) (kk : ∀ (h1 : xH) (n1 : Int) (S1 T1 : Int → Int), pzI L F (b + 1080) h1 n1 S1 T1 → Ev d 119 39 [(0, .ref 25), (1, .ref 28), (2, yi (i + 1))] [] h1 Q) : Ev d 119 56 [(0, .ref 25), (1, .ref 28), (2, yi i)] [yi v] h (Q) := by
  have hk : xtab 119 = (xc_119, 12, 2, []) := rfl
  obtain ⟨d, rfl⟩ : ∃ e, d = e + 1 := ⟨d - 1, by omega⟩
  obtain ⟨nu, nn, n5⟩ := W_h.nums
  have i6 := inc6_or nn
  have nr := W_h.2.2.2.2.2.1
  obtain ⟨od_h, e28_h⟩ := W_h.x28
  refine E_run hk 4 (j' := 60) (lv' := [(3, yi v), (0, .ref 25), (1, .ref 28), (2, yi i)]) (st' := [yi i, yi 2, .ref 25]) (hp' := h) rfl ?_
  refine Y_imul (a := 2) (b := i) hk rfl ?_
  refine E_run hk 1 (j' := 62) (lv' := [(3, yi v), (0, .ref 25), (1, .ref 28), (2, yi i)]) (st' := [yi 1, yi (2 * i), .ref 25]) (hp' := h) rfl ?_
  refine Y_iadd (a := (2 * i)) (b := 1) hk rfl ?_
  refine Y_callE hk rfl (as := [.ref 25, yi ((2 * i) + 1)]) (rest := []) rfl rfl (Nat.le_of_ble_eq_true rfl) rfl (Nat.le_of_ble_eq_true rfl) (c_L_cell W_h.x25 hL (k := ((2 * i) + 1)) (by omega)) (fun z1 H2 r3 => ?_)
  obtain ⟨rz_z1, ez_z1⟩ := r3
  have W_H2 := W_h
  rw [← ez_z1] at W_H2
  obtain ⟨od_H2, e28_H2⟩ := W_H2.x28
  have hx9 := rz_z1
  generalize z1 = x at *
  refine E_run hk 2 (j' := 66) (lv' := [(4, yi x), (3, yi v), (0, .ref 25), (1, .ref 28), (2, yi i)]) (st' := [.ref 28]) (hp' := H2) rfl ?_
  refine Y_callL hk rfl (as := [.ref 28]) (rest := []) rfl rfl (Nat.le_of_ble_eq_true rfl) rfl (Nat.le_of_ble_eq_true rfl) (c_L_told (by omega) W_H2) (fun z4 H5 r6 => ?_)
  obtain ⟨rfl, W_H5⟩ := r6
  obtain ⟨od_H5, e28_H5⟩ := W_H5.x28
  refine E_run hk 2 (j' := 69) (lv' := [(5, .long (tld S)), (4, yi x), (3, yi v), (0, .ref 25), (1, .ref 28), (2, yi i)]) (st' := [.ref 28]) (hp' := H5) rfl ?_
  refine Y_callE hk rfl (as := [.ref 28]) (rest := []) rfl rfl (Nat.le_of_ble_eq_true rfl) (rcv0 e28_H5) (Nat.le_of_ble_eq_true rfl) (p_savedStates W_H5 (by omega)) (fun z7 H8 r9 => ?_)
  obtain ⟨e_z7, W_H8⟩ := r9
  rw [e_z7]
  obtain ⟨od_H8, e28_H8⟩ := W_H8.x28
  refine E_run hk 4 (j' := 74) (lv' := [(7, yi n), (5, .long (tld S)), (4, yi x), (3, yi v), (0, .ref 25), (1, .ref 28), (2, yi i)]) (st' := [yi x, yi v, .ref 28]) (hp' := H8) rfl ?_
  refine Y_callE hk rfl (as := [.ref 28, yi v, yi x]) (rest := []) rfl rfl (Nat.le_of_ble_eq_true rfl) rfl (Nat.le_of_ble_eq_true rfl) (c_L_act (by omega) W_H8 (v := v) (x := x) hv hx9) (fun z10 H11 r12 => ?_)
  rcases r12 with ⟨rfl, hno, W_H11⟩ | ⟨rfl, S2, hs, W_H11⟩
  · skip
    obtain ⟨od_H11, e28_H11⟩ := W_H11.x28
    refine E_run hk 2 (j' := 77) (lv' := [(8, yi 0), (7, yi n), (5, .long (tld S)), (4, yi x), (3, yi v), (0, .ref 25), (1, .ref 28), (2, yi i)]) (st' := [.ref 28]) (hp' := H11) rfl ?_
    refine Y_callL hk rfl (as := [.ref 28]) (rest := []) rfl rfl (Nat.le_of_ble_eq_true rfl) rfl (Nat.le_of_ble_eq_true rfl) (c_L_told (by omega) W_H11) (fun z13 H14 r15 => ?_)
    obtain ⟨rfl, W_H14⟩ := r15
    obtain ⟨od_H14, e28_H14⟩ := W_H14.x28
    refine E_run hk 2 (j' := 80) (lv' := [(9, .long (tld S)), (8, yi 0), (7, yi n), (5, .long (tld S)), (4, yi x), (3, yi v), (0, .ref 25), (1, .ref 28), (2, yi i)]) (st' := [yi 0]) (hp' := H14) rfl ?_
    refine Y_if_ne (a := 0) (by omega) hk rfl (fun g16 => ?_) (fun g16 => ?_)
    · exfalso; omega
    ·
      refine E_run hk 2 (j' := 83) (lv' := [(9, .long (tld S)), (8, yi 0), (7, yi n), (5, .long (tld S)), (4, yi x), (3, yi v), (0, .ref 25), (1, .ref 28), (2, yi i)]) (st' := [.long (tld S), .long (tld S)]) (hp' := H14) rfl ?_
      refine Y_lcmp_h rfl hk rfl ?_
      refine Y_if_ne (a := 0) (by omega) hk rfl (fun g17 => ?_) (fun g17 => ?_)
      · exfalso; omega
      ·
        refine E_run hk 1 (j' := 86) (lv' := [(9, .long (tld S)), (8, yi 0), (7, yi n), (5, .long (tld S)), (4, yi x), (3, yi v), (0, .ref 25), (1, .ref 28), (2, yi i)]) (st' := [.ref 28]) (hp' := H14) rfl ?_
        refine Y_callE hk rfl (as := [.ref 28]) (rest := []) rfl rfl (Nat.le_of_ble_eq_true rfl) (rcv0 e28_H14) (Nat.le_of_ble_eq_true rfl) (p_savedStates W_H14 (by omega)) (fun z18 H19 r20 => ?_)
        obtain ⟨e_z18, W_H19⟩ := r20
        rw [e_z18]
        obtain ⟨od_H19, e28_H19⟩ := W_H19.x28
        refine E_run hk 1 (j' := 88) (lv' := [(9, .long (tld S)), (8, yi 0), (7, yi n), (5, .long (tld S)), (4, yi x), (3, yi v), (0, .ref 25), (1, .ref 28), (2, yi i)]) (st' := [yi n, yi n]) (hp' := H19) rfl ?_
        refine Y_ic_h rfl hk rfl ?_
        refine E_run hk 1 (j' := 104) (lv' := [(9, .long (tld S)), (8, yi 0), (7, yi n), (5, .long (tld S)), (4, yi x), (3, yi v), (0, .ref 25), (1, .ref 28), (2, yi i)]) (st' := [yi 0]) (hp' := H19) rfl ?_
        refine Y_if_eq (a := 0) (by omega) hk rfl (fun g21 => ?_) (fun g21 => ?_)
        ·
          refine E_run hk 3 (j' := 140) (lv' := [(9, .long (tld S)), (8, yi 0), (7, yi n), (5, .long (tld S)), (4, yi x), (3, yi v), (0, .ref 25), (1, .ref 28), (2, yi i)]) (st' := [yi 4, yi x, .ref 28]) (hp' := H19) rfl ?_
          refine Y_sr (a := x) (b := 4) hk rfl ?_
          have q22 := sr_rng x 4
          refine Y_callE hk rfl (as := [.ref 28, yi (sr x 4)]) (rest := []) rfl rfl (Nat.le_of_ble_eq_true rfl) rfl (Nat.le_of_ble_eq_true rfl) (c_L_holds (by omega) W_H19 (x := (sr x 4)) (by omega)) (fun z23 H24 r25 => ?_)
          obtain ⟨rfl, W_H24⟩ := r25
          obtain ⟨od_H24, e28_H24⟩ := W_H24.x28
          refine Y_if_ne (a := 1) (by omega) hk rfl (fun g26 => ?_) (fun g26 => ?_)
          ·
            refine Y_iinc (a := i) (z := 1) hk rfl rfl rfl (by decide) (lv' := [(2, yi (i + 1)), (9, .long (tld S)), (8, yi 0), (7, yi n), (5, .long (tld S)), (4, yi x), (3, yi v), (0, .ref 25), (1, .ref 28)]) rfl ?_
            refine E_run hk 1 (j' := 39) (lv' := [(2, yi (i + 1)), (9, .long (tld S)), (8, yi 0), (7, yi n), (5, .long (tld S)), (4, yi x), (3, yi v), (0, .ref 25), (1, .ref 28)]) (st' := []) (hp' := H24) rfl ?_
            exact Ev_le (xle_s rfl rfl (xle_s rfl rfl (xle_s rfl rfl (xle_z _ rfl)))) (kk _ _ _ _ (W_H24.mono (by omega)))
          · exfalso; omega
        · exfalso; omega
  · skip
    obtain ⟨od_H11, e28_H11⟩ := W_H11.x28
    refine E_run hk 2 (j' := 77) (lv' := [(8, yi 1), (7, yi n), (5, .long (tld S)), (4, yi x), (3, yi v), (0, .ref 25), (1, .ref 28), (2, yi i)]) (st' := [.ref 28]) (hp' := H11) rfl ?_
    refine Y_callL hk rfl (as := [.ref 28]) (rest := []) rfl rfl (Nat.le_of_ble_eq_true rfl) rfl (Nat.le_of_ble_eq_true rfl) (c_L_told (by omega) W_H11) (fun z27 H28 r29 => ?_)
    obtain ⟨rfl, W_H28⟩ := r29
    obtain ⟨od_H28, e28_H28⟩ := W_H28.x28
    refine E_run hk 2 (j' := 80) (lv' := [(9, .long (tld S2)), (8, yi 1), (7, yi n), (5, .long (tld S)), (4, yi x), (3, yi v), (0, .ref 25), (1, .ref 28), (2, yi i)]) (st' := [yi 1]) (hp' := H28) rfl ?_
    refine Y_if_ne (a := 1) (by omega) hk rfl (fun g30 => ?_) (fun g30 => ?_)
    ·
      refine E_run hk 1 (j' := 91) (lv' := [(9, .long (tld S2)), (8, yi 1), (7, yi n), (5, .long (tld S)), (4, yi x), (3, yi v), (0, .ref 25), (1, .ref 28), (2, yi i)]) (st' := [.ref 28]) (hp' := H28) rfl ?_
      refine Y_callE hk rfl (as := [.ref 28]) (rest := []) rfl rfl (Nat.le_of_ble_eq_true rfl) (rcv0 e28_H28) (Nat.le_of_ble_eq_true rfl) (p_savedStates W_H28 (by omega)) (fun z31 H32 r33 => ?_)
      obtain ⟨e_z31, W_H32⟩ := r33
      rw [e_z31]
      obtain ⟨od_H32, e28_H32⟩ := W_H32.x28
      refine E_run hk 2 (j' := 94) (lv' := [(9, .long (tld S2)), (8, yi 1), (7, yi n), (5, .long (tld S)), (4, yi x), (3, yi v), (0, .ref 25), (1, .ref 28), (2, yi i)]) (st' := [yi 6, yi n, yi (inc6 n)]) (hp' := H32) rfl ?_
      refine Y_ic_ge (a := n) (b := 6) (by omega) hk rfl (fun g34 => ?_) (fun g34 => ?_)
      ·
        refine E_run hk 1 (j' := 100) (lv' := [(9, .long (tld S2)), (8, yi 1), (7, yi n), (5, .long (tld S)), (4, yi x), (3, yi v), (0, .ref 25), (1, .ref 28), (2, yi i)]) (st' := [yi 6, yi (inc6 n)]) (hp' := H32) rfl ?_
        refine Y_ic_eq (a := (inc6 n)) (b := 6) (by omega) hk rfl (fun g35 => ?_) (fun g35 => ?_)
        ·
          exact Ev_le (xle_s rfl rfl (xle_s rfl rfl (xle_s rfl rfl (xle_s rfl rfl (xle_s rfl rfl (xle_s rfl rfl (xle_s rfl rfl (xle_s rfl rfl (xle_s rfl rfl (xle_z _ rfl)))))))))) (law_103 (d := d + 1) (by omega) W_H32 hL hi hv hx9 nn nr hs (fun h1 n1 S1 T1 W1 => kk h1 n1 S1 T1 (W1.mono (by omega))))
        · exfalso; omega
      ·
        refine E_run hk 2 (j' := 97) (lv' := [(9, .long (tld S2)), (8, yi 1), (7, yi n), (5, .long (tld S)), (4, yi x), (3, yi v), (0, .ref 25), (1, .ref 28), (2, yi i)]) (st' := [yi 1, yi n, yi (inc6 n)]) (hp' := H32) rfl ?_
        refine Y_iadd (a := n) (b := 1) hk rfl ?_
        refine E_run hk 1 (j' := 100) (lv' := [(9, .long (tld S2)), (8, yi 1), (7, yi n), (5, .long (tld S)), (4, yi x), (3, yi v), (0, .ref 25), (1, .ref 28), (2, yi i)]) (st' := [yi (n + 1), yi (inc6 n)]) (hp' := H32) rfl ?_
        refine Y_ic_eq (a := (inc6 n)) (b := (n + 1)) (by omega) hk rfl (fun g36 => ?_) (fun g36 => ?_)
        ·
          exact Ev_le (xle_s rfl rfl (xle_s rfl rfl (xle_s rfl rfl (xle_s rfl rfl (xle_s rfl rfl (xle_s rfl rfl (xle_s rfl rfl (xle_s rfl rfl (xle_s rfl rfl (xle_z _ rfl)))))))))) (law_103 (d := d + 1) (by omega) W_H32 hL hi hv hx9 nn nr hs (fun h1 n1 S1 T1 W1 => kk h1 n1 S1 T1 (W1.mono (by omega))))
        · exfalso; omega
    · exfalso; omega
