/-! The law: its start, its loop, its end. -/
def S00 : Int → Int := up (up (up (fun _ => 0) 2 20) 3 1) 5 (-1)
theorem p_start {L : Nat} {xs : Nat → Int32} {h : xH} (h8 : nX8 h) (N : h.1 = 63) (hs : h.2.1 ≤ 4200) (F : ∀ i, i < 28 → xat h i = xcst L xs i) : pzI L (scr xs) 0 h 0 S00 (fun _ => 0) := by
  have e26 : xcst L xs 26 = some (yO 0 (fun _ => .null)) := rfl
  have ok : okS S00 := ⟨by decide, fun q q0 q1 => absurd q1 (by show ¬ q < 0; omega), fun q q0 q1 => absurd q1 (by show ¬ q < 0; omega), Or.inl rfl⟩
  have yy : ∀ {s z o : Nat} {f g : Int → Int}, yS h s z o sini f g 0 0 → yS h s z o S00 f g 0 0 := fun ⟨hid, e1, e2, e3, e4, e5, ef, eg⟩ => ⟨hid, e1, e2, e3, e4, e5, fun q q0 q1 => absurd q1 (by show ¬ q < 0; omega), fun q q0 q1 => absurd q1 (by show ¬ q < 0; omega)⟩
  obtain ⟨a28, y29, a34, y35, a40, a41, a42, ⟨m43, m44, m45, m46, m47, m48, m49, m50, m51, m52, m53, m54, m55⟩, a56, a57, p58, p59, p60, p61, p62⟩ := h8
  refine ⟨⟨⟨1, a28, m44, m46, m48, m50, ⟨_, m49⟩, ⟨_, m51⟩, 0, _, _, _, _, _, _, Or.inr ⟨rfl, 0, 0, m43, m45, m47, m52, m53, m54, m55⟩⟩, ⟨30, 32, _, _, 0, 0, yy y29, Or.inl ⟨rfl, rfl⟩⟩, ⟨0, 26, fun _ => .null, fun _ => 0, a34, Or.inl ⟨rfl, rfl⟩, fun i hi => absurd hi (by omega), fun i j hi => absurd hi (by omega)⟩, ⟨a56, _, a57⟩, ⟨0, 0, 0, _, _, p58⟩, p59, p61, ⟨_, p60⟩, _, p62⟩, ⟨(F 25 (by decide)).trans (scr_25 L xs), (F 26 (by decide)).trans e26⟩, ⟨by omega, by omega, by omega⟩, ⟨ok, by decide⟩, ⟨by decide, by decide⟩, fun q hq => ?_, fun i hi => absurd hi (by omega)⟩
  exact (up_ne _ _ (by omega)).trans ((up_ne _ _ (by omega)).trans (up_ne _ _ (by omega)))
theorem law_39 {L : Nat} {F : Int → Int} {n : Int} {h : xH} {S T : Int → Int} {d : Nat} (hd : 8 ≤ d) (W_h : pzI L F 20 h n S T) (hL : L ≤ 260) : Ev d 119 39 [(0, .ref 25), (1, .ref 28), (2, yi 0)] [] h (fun o h => o = .inl (some (.int 1)) ∧ h.1 ≤ 28 + 600000 ∧ h.2.1 ≤ 7000000) := by
  have hk : xtab 119 = (xc_119, 12, 2, []) := rfl
  obtain ⟨d, rfl⟩ : ∃ e, d = e + 1 := ⟨d - 1, by omega⟩
  obtain ⟨od_h, e28_h⟩ := W_h.x28
  have loop39 : ∀ (N : Nat) (i : Int) (n : Int) (S : Int → Int) (T : Int → Int) (hl39 : xH), (0 ≤ i ∧ i ≤ 34) → pzI L F (20 + 1100 * i) hl39 n S T → (34 - i).toNat = N → Ev (d + 1) 119 39 [(0, .ref 25), (1, .ref 28), (2, yi i)] [] hl39 (fun o h => o = .inl (some (.int 1)) ∧ h.1 ≤ 28 + 600000 ∧ h.2.1 ≤ 7000000) := by
    intro N
    induction N using Nat.strongRecOn with
    | ind N ih39 =>
      intro i n S T hl39 hi0 W_hl39 hm39
      obtain ⟨od_hl39, e28_hl39⟩ := W_hl39.x28
      refine E_run hk 1 (j' := 40) (lv' := [(0, .ref 25), (1, .ref 28), (2, yi i)]) (st' := [yi i]) (hp' := hl39) rfl ?_
      refine E_run hk 1 (j' := 41) (lv' := [(0, .ref 25), (1, .ref 28), (2, yi i)]) (st' := [yi 34, yi i]) (hp' := hl39) rfl ?_
      refine Y_ic_ge (a := i) (b := 34) (by omega) hk rfl (fun g1 => ?_) (fun g1 => ?_)
      ·
        refine E_run hk 1 (j' := 148) (lv' := [(0, .ref 25), (1, .ref 28), (2, yi i)]) (st' := [yi 1]) (hp' := hl39) rfl ?_
        exact E_ret hk rfl rfl ⟨rfl, by have w := W_hl39.2.2.1; omega, by have w := W_hl39.2.2.1; omega⟩
      ·
        refine E_run hk 3 (j' := 45) (lv' := [(0, .ref 25), (1, .ref 28), (2, yi i)]) (st' := [yi i, yi 2, .ref 25]) (hp' := hl39) rfl ?_
        refine Y_imul (a := 2) (b := i) hk rfl ?_
        refine Y_callE hk rfl (as := [.ref 25, yi (2 * i)]) (rest := []) rfl rfl (Nat.le_of_ble_eq_true rfl) rfl (Nat.le_of_ble_eq_true rfl) (c_L_cell W_hl39.x25 hL (k := (2 * i)) (by omega)) (fun z2 H3 r4 => ?_)
        obtain ⟨rz_z2, ez_z2⟩ := r4
        have W_H3 := W_hl39
        rw [← ez_z2] at W_H3
        obtain ⟨od_H3, e28_H3⟩ := W_H3.x28
        refine E_run hk 3 (j' := 50) (lv' := [(3, yi z2), (0, .ref 25), (1, .ref 28), (2, yi i)]) (st' := [yi 6, yi i]) (hp' := H3) rfl ?_
        refine Y_ic_ge (a := i) (b := 6) (by omega) hk rfl (fun g5 => ?_) (fun g5 => ?_)
        ·
          refine E_run hk 1 (j' := 56) (lv' := [(3, yi z2), (0, .ref 25), (1, .ref 28), (2, yi i)]) (st' := [yi z2]) (hp' := H3) rfl ?_
          exact Ev_le (xle_s rfl rfl (xle_s rfl rfl (xle_s rfl rfl (xle_z _ rfl)))) (law_56 (d := d + 1) (v := z2) (by omega) W_H3 hL ⟨by omega, by omega⟩ (by omega) (fun h1 n1 S1 T1 W1 => ih39 _ (by omega) (i + 1) n1 S1 T1 h1 (by omega) (W1.mono (by omega)) rfl))
        ·
          refine E_run hk 2 (j' := 53) (lv' := [(3, yi z2), (0, .ref 25), (1, .ref 28), (2, yi i)]) (st' := [yi (-16), yi z2]) (hp' := H3) rfl ?_
          refine Y_an (a := z2) (b := (-16)) hk rfl ?_
          have q6 := an_rng z2 (-16)
          refine E_run hk 1 (j' := 56) (lv' := [(3, yi z2), (0, .ref 25), (1, .ref 28), (2, yi i)]) (st' := [yi (an z2 (-16))]) (hp' := H3) rfl ?_
          exact Ev_le (xle_s rfl rfl (xle_s rfl rfl (xle_s rfl rfl (xle_z _ rfl)))) (law_56 (d := d + 1) (v := an z2 (-16)) (by omega) W_H3 hL ⟨by omega, by omega⟩ (by omega) (fun h1 n1 S1 T1 W1 => ih39 _ (by omega) (i + 1) n1 S1 T1 h1 (by omega) (W1.mono (by omega)) rfl))
  exact Ev_le (xle_s rfl rfl (xle_s rfl rfl (xle_s rfl rfl (xle_z _ rfl)))) (loop39 _ 0 n S T h (by omega) (W_h.mono (by omega)) rfl)
theorem law_start {L : Nat} {xs : Nat → Int32} {d : Nat} (hd : 8 ≤ d) {hp : xH} (N_hp : hp.1 = 28) (hs0 : hp.2.1 = 0) (hF : ∀ i, i < 28 → xat hp i = xcst L xs i) {Q : xO → xH → Prop} (kk : ∀ (h : xH) (n : Int) (S T : Int → Int), pzI L (scr xs) 20 h n S T → Ev d 119 39 [(0, .ref 25), (1, .ref 28), (2, yi 0)] [] h Q) : Ev d 119 0 [(0, .ref 25)] [] hp Q := by
  have hk : xtab 119 = (xc_119, 12, 2, []) := rfl
  obtain ⟨d, rfl⟩ : ∃ e, d = e + 1 := ⟨d - 1, by omega⟩
  have hnm : ¬ (0 < S00 0 ∧ 0 < S00 1 ∧ -S00 2 ≤ S00 0 - S00 1 ∧ S00 0 - S00 1 ≤ S00 2) := by decide
  refine Y_newN (A := 28) N_hp hk rfl (fs := [.null, .null, .null, yi 0, .null, yi 0, .null, .null, yi 0, .null, .null]) rfl (fun H1 e2 f3 => ?_)
  have N_H1 : H1.1 = 29 := f3.1.trans (congrArg Nat.succ N_hp)
  refine E_run hk 1 (j' := 2) (lv' := [(0, .ref 25)]) (st' := [.ref 28, .ref 28]) (hp' := H1) rfl ?_
  refine Y_call hk rfl (as := [.ref 28]) (rest := [.ref 28]) (v := none) rfl rfl (Nat.le_of_ble_eq_true rfl) (rcv2 e2) (Nat.le_of_ble_eq_true rfl) (c_X8_init e2 N_H1 (by omega)) (fun H4 r5 => ?_)
  obtain ⟨n8, w8, hw8, fa8⟩ := r5
  have W_H4 : pzI L (scr xs) 0 H4 0 S00 (fun _ => 0) := p_start n8 (by have := fa8.1; have := f3.1; omega) (by have := fa8.2.1; have := f3.2.1; omega) (fun i hi => (fa8.2.2 i (by omega) (by simp only [List.mem_cons, List.not_mem_nil, or_false]; omega)).trans ((f3.2.2.2 i (by omega)).trans (hF i hi)))
  obtain ⟨od_H4, e28_H4⟩ := W_H4.x28
  refine E_run hk 2 (j' := 5) (lv' := [(1, .ref 28), (0, .ref 25)]) (st' := [.ref 28]) (hp' := H4) rfl ?_
  refine Y_callE hk rfl (as := [.ref 28]) (rest := []) rfl rfl (Nat.le_of_ble_eq_true rfl) (rcv0 e28_H4) (Nat.le_of_ble_eq_true rfl) (p_savedStates W_H4 (by omega)) (fun z6 H7 r8 => ?_)
  obtain ⟨e_z6, W_H7⟩ := r8
  have e_z6 : z6 = 0 := e_z6
  subst e_z6
  obtain ⟨od_H7, e28_H7⟩ := W_H7.x28
  refine Y_if_ne (a := 0) (by omega) hk rfl (fun g9 => ?_) (fun g9 => ?_)
  · exfalso; omega
  ·
    refine E_run hk 2 (j' := 9) (lv' := [(1, .ref 28), (0, .ref 25)]) (st' := [yi 0, .ref 28]) (hp' := H7) rfl ?_
    refine Y_callE hk rfl (as := [.ref 28, yi 0]) (rest := []) rfl rfl (Nat.le_of_ble_eq_true rfl) (rcv0 e28_H7) (Nat.le_of_ble_eq_true rfl) (p_notes W_H7 (x := 0) (by decide) (by omega)) (fun z10 H11 r12 => ?_)
    obtain ⟨e_z10, W_H11⟩ := r12
    have e_z10 : z10 = 0 := e_z10.trans (by decide)
    subst e_z10
    obtain ⟨od_H11, e28_H11⟩ := W_H11.x28
    refine Y_if_ne (a := 0) (by omega) hk rfl (fun g13 => ?_) (fun g13 => ?_)
    · exfalso; omega
    ·
      refine E_run hk 1 (j' := 12) (lv' := [(1, .ref 28), (0, .ref 25)]) (st' := [.ref 28]) (hp' := H11) rfl ?_
      refine Y_callE hk rfl (as := [.ref 28]) (rest := []) rfl rfl (Nat.le_of_ble_eq_true rfl) (rcv0 e28_H11) (Nat.le_of_ble_eq_true rfl) (p_bound W_H11 (by omega)) (fun z14 H15 r16 => ?_)
      obtain ⟨e_z14, W_H15⟩ := r16
      have e_z14 : z14 = 20 := e_z14.trans (by decide)
      subst e_z14
      obtain ⟨od_H15, e28_H15⟩ := W_H15.x28
      refine E_run hk 1 (j' := 14) (lv' := [(1, .ref 28), (0, .ref 25)]) (st' := [yi 20, yi 20]) (hp' := H15) rfl ?_
      refine Y_ic_ne (a := 20) (b := 20) (by omega) hk rfl (fun g17 => ?_) (fun g17 => ?_)
      · exfalso; omega
      ·
        refine E_run hk 1 (j' := 16) (lv' := [(1, .ref 28), (0, .ref 25)]) (st' := [.ref 28]) (hp' := H15) rfl ?_
        refine Y_callE hk rfl (as := [.ref 28]) (rest := []) rfl rfl (Nat.le_of_ble_eq_true rfl) (rcv0 e28_H15) (Nat.le_of_ble_eq_true rfl) (p_hold W_H15 (by omega)) (fun z18 H19 r20 => ?_)
        obtain ⟨e_z18, W_H19⟩ := r20
        have e_z18 : z18 = 1 := e_z18.trans (by decide)
        subst e_z18
        obtain ⟨od_H19, e28_H19⟩ := W_H19.x28
        refine E_run hk 1 (j' := 18) (lv' := [(1, .ref 28), (0, .ref 25)]) (st' := [yi 1, yi 1]) (hp' := H19) rfl ?_
        refine Y_ic_ne (a := 1) (b := 1) (by omega) hk rfl (fun g21 => ?_) (fun g21 => ?_)
        · exfalso; omega
        ·
          refine E_run hk 1 (j' := 20) (lv' := [(1, .ref 28), (0, .ref 25)]) (st' := [.ref 28]) (hp' := H19) rfl ?_
          refine Y_callE hk rfl (as := [.ref 28]) (rest := []) rfl rfl (Nat.le_of_ble_eq_true rfl) (rcv0 e28_H19) (Nat.le_of_ble_eq_true rfl) (p_judge W_H19 (by omega)) (fun z22 H23 r24 => ?_)
          obtain ⟨e_z22, W_H23⟩ := r24
          have e_z22 : z22 = 0 := e_z22.trans (by decide)
          subst e_z22
          obtain ⟨od_H23, e28_H23⟩ := W_H23.x28
          refine Y_if_ne (a := 0) (by omega) hk rfl (fun g25 => ?_) (fun g25 => ?_)
          · exfalso; omega
          ·
            refine E_run hk 1 (j' := 23) (lv' := [(1, .ref 28), (0, .ref 25)]) (st' := [.ref 28]) (hp' := H23) rfl ?_
            refine Y_callE hk rfl (as := [.ref 28]) (rest := []) rfl rfl (Nat.le_of_ble_eq_true rfl) (rcv0 e28_H23) (Nat.le_of_ble_eq_true rfl) (p_isM0 W_H23 hnm (by omega)) (fun z26 H27 r28 => ?_)
            obtain ⟨e_z26, W_H27⟩ := r28
            have e_z26 : z26 = 0 := e_z26
            subst e_z26
            obtain ⟨od_H27, e28_H27⟩ := W_H27.x28
            refine Y_if_ne (a := 0) (by omega) hk rfl (fun g29 => ?_) (fun g29 => ?_)
            · exfalso; omega
            ·
              refine E_run hk 1 (j' := 26) (lv' := [(1, .ref 28), (0, .ref 25)]) (st' := [.ref 28]) (hp' := H27) rfl ?_
              refine Y_callE hk rfl (as := [.ref 28]) (rest := []) rfl rfl (Nat.le_of_ble_eq_true rfl) (rcv0 e28_H27) (Nat.le_of_ble_eq_true rfl) (p_neededBound W_H27 (by omega)) (fun z30 H31 r32 => ?_)
              obtain ⟨e_z30, W_H31⟩ := r32
              have e_z30 : z30 = (-1) := Or.elim e_z30 (fun v => v.2) (fun v => absurd (Or.inl (by decide)) v.1)
              subst e_z30
              obtain ⟨od_H31, e28_H31⟩ := W_H31.x28
              refine E_run hk 1 (j' := 28) (lv' := [(1, .ref 28), (0, .ref 25)]) (st' := [yi (-1), yi (-1)]) (hp' := H31) rfl ?_
              refine Y_ic_ne (a := (-1)) (b := (-1)) (by omega) hk rfl (fun g33 => ?_) (fun g33 => ?_)
              · exfalso; omega
              ·
                refine E_run hk 1 (j' := 30) (lv' := [(1, .ref 28), (0, .ref 25)]) (st' := [.ref 28]) (hp' := H31) rfl ?_
                refine Y_callE hk rfl (as := [.ref 28]) (rest := []) rfl rfl (Nat.le_of_ble_eq_true rfl) (rcv0 e28_H31) (Nat.le_of_ble_eq_true rfl) (p_bestMatches0 W_H31 hnm (by omega)) (fun z34 H35 r36 => ?_)
                obtain ⟨e_z34, W_H35⟩ := r36
                have e_z34 : z34 = 0 := e_z34
                subst e_z34
                obtain ⟨od_H35, e28_H35⟩ := W_H35.x28
                refine Y_if_ne (a := 0) (by omega) hk rfl (fun g37 => ?_) (fun g37 => ?_)
                · exfalso; omega
                ·
                  refine E_run hk 1 (j' := 33) (lv' := [(1, .ref 28), (0, .ref 25)]) (st' := [.ref 28]) (hp' := H35) rfl ?_
                  refine Y_callE hk rfl (as := [.ref 28]) (rest := []) rfl rfl (Nat.le_of_ble_eq_true rfl) (rcv0 e28_H35) (Nat.le_of_ble_eq_true rfl) (p_hasStopped W_H35 (by omega)) (fun z38 H39 r40 => ?_)
                  obtain ⟨e_z38, W_H39⟩ := r40
                  have e_z38 : z38 = 0 := e_z38.trans (b2_f (by decide))
                  subst e_z38
                  obtain ⟨od_H39, e28_H39⟩ := W_H39.x28
                  refine Y_if_eq (a := 0) (by omega) hk rfl (fun g41 => ?_) (fun g41 => ?_)
                  ·
                    refine E_run hk 2 (j' := 39) (lv' := [(2, yi 0), (1, .ref 28), (0, .ref 25)]) (st' := []) (hp' := H39) rfl ?_
                    exact Ev_le (xle_s rfl rfl (xle_s rfl rfl (xle_s rfl rfl (xle_z _ rfl)))) (kk _ _ _ _ (W_H39.mono (by omega)))
                  · exfalso; omega
theorem y_ends : y_Ends := by
  intro L xs hL
  show Ev 9 119 0 [(0, .ref 25)] [] (28, 0, xcst L xs) _
  exact law_start (by decide) rfl rfl (fun i _ => rfl) (fun h n S T W => law_39 (by decide) W hL)
