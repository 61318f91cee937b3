/-! told: a number out of what is asked. -/
def tl0 (S : Int → Int) : Int64 := hx (hx (hx 3 (S 2)) (S 3)) (S 4)
def tlr (S : Int → Int) (t : Int) (y : Int64) : Int64 := hsf (fun q => S (7 + 20 * t + q)) (hx y (S (0 + t))) (S (0 + t)).toNat
def tl (S : Int → Int) (t : Int) : Int64 := if t = 0 then tl0 S else if t = 1 then tlr S 0 (tl0 S) else tlr S 1 (tlr S 0 (tl0 S))
theorem tl_s {S : Int → Int} {t : Int} (ht : 0 ≤ t ∧ t ≤ 1) : tl S (t + 1) = tlr S t (tl S t) := by
  rcases (by omega : t = 0 ∨ t = 1) with rfl | rfl <;> rfl
def tld (S : Int → Int) : Int64 := hx (hx (tl S 2) (if 0 < S 0 ∧ 0 < S 1 ∧ -S 2 ≤ S 0 - S 1 ∧ S 0 - S 1 ≤ S 2 then cst S 0 (S 2) else -1)) (if S 5 = -1 then 0 else 10 * (1 + S 5) + S 6)
theorem c_L_told {L : Nat} {F : Int → Int} {b n : Int} {h : xH} {S T : Int → Int} {d : Nat} (hd : 7 ≤ d) (W_h : pzI L F b h n S T) : Cv d 116 [.ref 28] h (yL (fun z h1 => z = tld S ∧ pzI L F (b + 120) h1 n S T)) := by
  have hk : xtab 116 = (xc_116, 5, 3, []) := rfl
  obtain ⟨d, rfl⟩ : ∃ e, d = e + 1 := ⟨d - 1, by omega⟩
  obtain ⟨nu, nn, n5⟩ := W_h.nums
  have ns := W_h.ls
  show Ev (d + 1) 116 0 [(0, .ref 28)] [] h _
  obtain ⟨od_h, e28_h⟩ := W_h.x28
  refine E_run hk 8 (j' := 8) (lv' := [(1, .long 3), (0, .ref 28)]) (st' := [.ref 28, .long (31 * 3), .long 31, .long 31]) (hp' := h) rfl ?_
  refine Y_callE hk rfl (as := [.ref 28]) (rest := [.long (31 * 3), .long 31, .long 31]) rfl rfl (Nat.le_of_ble_eq_true rfl) (rcv0 e28_h) (Nat.le_of_ble_eq_true rfl) (p_bound W_h  (by omega)) (fun z1 H2 r3 => ?_)
  obtain ⟨rfl, W_H2⟩ := r3
  obtain ⟨od_H2, e28_H2⟩ := W_H2.x28
  refine E_run hk 4 (j' := 13) (lv' := [(1, .long 3), (0, .ref 28)]) (st' := [.ref 28, .long (31 * ((31 * 3) + ((iN (S 2)).toInt64))), .long 31]) (hp' := H2) rfl ?_
  refine Y_callE hk rfl (as := [.ref 28]) (rest := [.long (31 * ((31 * 3) + ((iN (S 2)).toInt64))), .long 31]) rfl rfl (Nat.le_of_ble_eq_true rfl) (rcv0 e28_H2) (Nat.le_of_ble_eq_true rfl) (p_hold W_H2  (by omega)) (fun z4 H5 r6 => ?_)
  obtain ⟨rfl, W_H5⟩ := r6
  obtain ⟨od_H5, e28_H5⟩ := W_H5.x28
  refine E_run hk 4 (j' := 18) (lv' := [(1, .long 3), (0, .ref 28)]) (st' := [.ref 28, .long (31 * ((31 * ((31 * 3) + ((iN (S 2)).toInt64))) + ((iN (S 3)).toInt64)))]) (hp' := H5) rfl ?_
  refine Y_callE hk rfl (as := [.ref 28]) (rest := [.long (31 * ((31 * ((31 * 3) + ((iN (S 2)).toInt64))) + ((iN (S 3)).toInt64)))]) rfl rfl (Nat.le_of_ble_eq_true rfl) (rcv0 e28_H5) (Nat.le_of_ble_eq_true rfl) (p_judge W_H5  (by omega)) (fun z7 H8 r9 => ?_)
  obtain ⟨rfl, W_H8⟩ := r9
  obtain ⟨od_H8, e28_H8⟩ := W_H8.x28
  refine E_run hk 5 (j' := 24) (lv' := [(3, yi 0), (1, .long ((31 * ((31 * ((31 * 3) + ((iN (S 2)).toInt64))) + ((iN (S 3)).toInt64))) + ((iN (S 4)).toInt64))), (0, .ref 28)]) (st' := []) (hp' := H8) rfl ?_
  have loop24 : ∀ (N : Nat) (t : Int) (y : Int64) (hl24 : xH), (0 ≤ t ∧ t ≤ 2) → (y = tl S t) → pzI L F (b + 3 + 30 * t) hl24 n S T → (2 - t).toNat = N → Ev (d + 1) 116 24 [(0, .ref 28), (1, .long y), (3, yi t)] [] hl24 (yL (fun z h1 => z = tld S ∧ pzI L F (b + 120) h1 n S T)) := by
    intro N
    induction N using Nat.strongRecOn with
    | ind N ih24 =>
      intro t y hl24 ht hy W_hl24 hm24
      obtain ⟨od_hl24, e28_hl24⟩ := W_hl24.x28
      refine E_run hk 1 (j' := 25) (lv' := [(0, .ref 28), (1, .long y), (3, yi t)]) (st' := [yi t]) (hp' := hl24) rfl ?_
      refine E_run hk 1 (j' := 26) (lv' := [(0, .ref 28), (1, .long y), (3, yi t)]) (st' := [yi 2, yi t]) (hp' := hl24) rfl ?_
      refine Y_ic_ge (a := t) (b := 2) (by omega) hk rfl (fun g10 => ?_) (fun g10 => ?_)
      ·
        have e2 : t = 2 := by omega
        rw [e2] at hy
        refine E_run hk 4 (j' := 61) (lv' := [(0, .ref 28), (1, .long y), (3, yi t)]) (st' := [.ref 28, .long (31 * y)]) (hp' := hl24) rfl ?_
        refine Y_callE hk rfl (as := [.ref 28]) (rest := [.long (31 * y)]) rfl rfl (Nat.le_of_ble_eq_true rfl) (rcv0 e28_hl24) (Nat.le_of_ble_eq_true rfl) (p_isMatched W_hl24  (by omega)) (fun z11 H12 r13 => ?_)
        obtain ⟨rfl, W_H12⟩ := r13
        obtain ⟨od_H12, e28_H12⟩ := W_H12.x28
        have cr := cst_rng (b := 0) (u := S 2) W_h.2.2.2.1.1.1 W_h.2.2.2.1.1.2.1 W_h.2.2.2.1.1.2.2.1 (by decide)
        refine Y_b_eq hk rfl (fun g14 => ?_) (fun g14 => ?_)
        ·
          refine E_run hk 8 (j' := 74) (lv' := [(1, .long ((31 * y) + ((iN (-1)).toInt64))), (0, .ref 28), (3, yi t)]) (st' := [.ref 28, .long (31 * ((31 * y) + ((iN (-1)).toInt64)))]) (hp' := H12) rfl ?_
          refine Y_callE hk rfl (as := [.ref 28]) (rest := [.long (31 * ((31 * y) + ((iN (-1)).toInt64)))]) rfl rfl (Nat.le_of_ble_eq_true rfl) (rcv0 e28_H12) (Nat.le_of_ble_eq_true rfl) (p_hasStopped W_H12  (by omega)) (fun z15 H16 r17 => ?_)
          obtain ⟨rfl, W_H16⟩ := r17
          obtain ⟨od_H16, e28_H16⟩ := W_H16.x28
          refine Y_b_eq hk rfl (fun g18 => ?_) (fun g18 => ?_)
          ·
            refine E_run hk 3 (j' := 89) (lv' := [(1, .long ((31 * y) + ((iN (-1)).toInt64))), (0, .ref 28), (3, yi t)]) (st' := [.long ((31 * ((31 * y) + ((iN (-1)).toInt64))) + ((iN 0).toInt64))]) (hp' := H16) rfl ?_
            exact E_ret hk rfl rfl ⟨_, rfl, by unfold tld; rw [if_neg (show ¬ (0 < S 0 ∧ 0 < S 1 ∧ -S 2 ≤ S 0 - S 1 ∧ S 0 - S 1 ≤ S 2) by assumption), if_pos (show S 5 = -1 by omega), ← hy]; rfl, W_H16.mono (by omega)⟩
          ·
            refine E_run hk 3 (j' := 79) (lv' := [(1, .long ((31 * y) + ((iN (-1)).toInt64))), (0, .ref 28), (3, yi t)]) (st' := [.ref 28, yi 1, yi 10, .long (31 * ((31 * y) + ((iN (-1)).toInt64)))]) (hp' := H16) rfl ?_
            refine Y_callE hk rfl (as := [.ref 28]) (rest := [yi 1, yi 10, .long (31 * ((31 * y) + ((iN (-1)).toInt64)))]) rfl rfl (Nat.le_of_ble_eq_true rfl) (rcv0 e28_H16) (Nat.le_of_ble_eq_true rfl) (p_stoppedPart W_H16 (by assumption) (by omega)) (fun z19 H20 r21 => ?_)
            obtain ⟨rfl, W_H20⟩ := r21
            obtain ⟨od_H20, e28_H20⟩ := W_H20.x28
            refine Y_iadd (a := 1) (b := (S 5)) hk rfl ?_
            refine Y_imul (a := 10) (b := (1 + (S 5))) hk rfl ?_
            refine E_run hk 1 (j' := 83) (lv' := [(1, .long ((31 * y) + ((iN (-1)).toInt64))), (0, .ref 28), (3, yi t)]) (st' := [.ref 28, yi (10 * (1 + (S 5))), .long (31 * ((31 * y) + ((iN (-1)).toInt64)))]) (hp' := H20) rfl ?_
            refine Y_callE hk rfl (as := [.ref 28]) (rest := [yi (10 * (1 + (S 5))), .long (31 * ((31 * y) + ((iN (-1)).toInt64)))]) rfl rfl (Nat.le_of_ble_eq_true rfl) (rcv0 e28_H20) (Nat.le_of_ble_eq_true rfl) (p_whyStopped W_H20 (by assumption) (by omega)) (fun z22 H23 r24 => ?_)
            obtain ⟨rfl, W_H23⟩ := r24
            obtain ⟨od_H23, e28_H23⟩ := W_H23.x28
            refine Y_iadd (a := (10 * (1 + (S 5)))) (b := (S 6)) hk rfl ?_
            refine E_run hk 3 (j' := 89) (lv' := [(1, .long ((31 * y) + ((iN (-1)).toInt64))), (0, .ref 28), (3, yi t)]) (st' := [.long ((31 * ((31 * y) + ((iN (-1)).toInt64))) + ((iN ((10 * (1 + (S 5))) + (S 6))).toInt64))]) (hp' := H23) rfl ?_
            exact E_ret hk rfl rfl ⟨_, rfl, by unfold tld; rw [if_neg (show ¬ (0 < S 0 ∧ 0 < S 1 ∧ -S 2 ≤ S 0 - S 1 ∧ S 0 - S 1 ≤ S 2) by assumption), if_neg (show ¬ S 5 = -1 by assumption), ← hy]; rfl, W_H23.mono (by omega)⟩
        ·
          refine E_run hk 1 (j' := 64) (lv' := [(0, .ref 28), (1, .long y), (3, yi t)]) (st' := [.ref 28, .long (31 * y)]) (hp' := H12) rfl ?_
          refine Y_callE hk rfl (as := [.ref 28]) (rest := [.long (31 * y)]) rfl rfl (Nat.le_of_ble_eq_true rfl) (rcv0 e28_H12) (Nat.le_of_ble_eq_true rfl) (p_cost W_H12 (by assumption) (by omega)) (fun z25 H26 r27 => ?_)
          obtain ⟨rfl, W_H26⟩ := r27
          obtain ⟨od_H26, e28_H26⟩ := W_H26.x28
          refine E_run hk 8 (j' := 74) (lv' := [(1, .long ((31 * y) + ((iN (cst S 0 (S 2))).toInt64))), (0, .ref 28), (3, yi t)]) (st' := [.ref 28, .long (31 * ((31 * y) + ((iN (cst S 0 (S 2))).toInt64)))]) (hp' := H26) rfl ?_
          refine Y_callE hk rfl (as := [.ref 28]) (rest := [.long (31 * ((31 * y) + ((iN (cst S 0 (S 2))).toInt64)))]) rfl rfl (Nat.le_of_ble_eq_true rfl) (rcv0 e28_H26) (Nat.le_of_ble_eq_true rfl) (p_hasStopped W_H26  (by omega)) (fun z28 H29 r30 => ?_)
          obtain ⟨rfl, W_H29⟩ := r30
          obtain ⟨od_H29, e28_H29⟩ := W_H29.x28
          refine Y_b_eq hk rfl (fun g31 => ?_) (fun g31 => ?_)
          ·
            refine E_run hk 3 (j' := 89) (lv' := [(1, .long ((31 * y) + ((iN (cst S 0 (S 2))).toInt64))), (0, .ref 28), (3, yi t)]) (st' := [.long ((31 * ((31 * y) + ((iN (cst S 0 (S 2))).toInt64))) + ((iN 0).toInt64))]) (hp' := H29) rfl ?_
            exact E_ret hk rfl rfl ⟨_, rfl, by unfold tld; rw [if_pos (show (0 < S 0 ∧ 0 < S 1 ∧ -S 2 ≤ S 0 - S 1 ∧ S 0 - S 1 ≤ S 2) by assumption), if_pos (show S 5 = -1 by omega), ← hy]; rfl, W_H29.mono (by omega)⟩
          ·
            refine E_run hk 3 (j' := 79) (lv' := [(1, .long ((31 * y) + ((iN (cst S 0 (S 2))).toInt64))), (0, .ref 28), (3, yi t)]) (st' := [.ref 28, yi 1, yi 10, .long (31 * ((31 * y) + ((iN (cst S 0 (S 2))).toInt64)))]) (hp' := H29) rfl ?_
            refine Y_callE hk rfl (as := [.ref 28]) (rest := [yi 1, yi 10, .long (31 * ((31 * y) + ((iN (cst S 0 (S 2))).toInt64)))]) rfl rfl (Nat.le_of_ble_eq_true rfl) (rcv0 e28_H29) (Nat.le_of_ble_eq_true rfl) (p_stoppedPart W_H29 (by assumption) (by omega)) (fun z32 H33 r34 => ?_)
            obtain ⟨rfl, W_H33⟩ := r34
            obtain ⟨od_H33, e28_H33⟩ := W_H33.x28
            refine Y_iadd (a := 1) (b := (S 5)) hk rfl ?_
            refine Y_imul (a := 10) (b := (1 + (S 5))) hk rfl ?_
            refine E_run hk 1 (j' := 83) (lv' := [(1, .long ((31 * y) + ((iN (cst S 0 (S 2))).toInt64))), (0, .ref 28), (3, yi t)]) (st' := [.ref 28, yi (10 * (1 + (S 5))), .long (31 * ((31 * y) + ((iN (cst S 0 (S 2))).toInt64)))]) (hp' := H33) rfl ?_
            refine Y_callE hk rfl (as := [.ref 28]) (rest := [yi (10 * (1 + (S 5))), .long (31 * ((31 * y) + ((iN (cst S 0 (S 2))).toInt64)))]) rfl rfl (Nat.le_of_ble_eq_true rfl) (rcv0 e28_H33) (Nat.le_of_ble_eq_true rfl) (p_whyStopped W_H33 (by assumption) (by omega)) (fun z35 H36 r37 => ?_)
            obtain ⟨rfl, W_H36⟩ := r37
            obtain ⟨od_H36, e28_H36⟩ := W_H36.x28
            refine Y_iadd (a := (10 * (1 + (S 5)))) (b := (S 6)) hk rfl ?_
            refine E_run hk 3 (j' := 89) (lv' := [(1, .long ((31 * y) + ((iN (cst S 0 (S 2))).toInt64))), (0, .ref 28), (3, yi t)]) (st' := [.long ((31 * ((31 * y) + ((iN (cst S 0 (S 2))).toInt64))) + ((iN ((10 * (1 + (S 5))) + (S 6))).toInt64))]) (hp' := H36) rfl ?_
            exact E_ret hk rfl rfl ⟨_, rfl, by unfold tld; rw [if_pos (show (0 < S 0 ∧ 0 < S 1 ∧ -S 2 ≤ S 0 - S 1 ∧ S 0 - S 1 ≤ S 2) by assumption), if_neg (show ¬ S 5 = -1 by assumption), ← hy]; rfl, W_H36.mono (by omega)⟩
      ·
        have nt := ns t (by omega) (by omega)
        refine E_run hk 5 (j' := 32) (lv' := [(0, .ref 28), (1, .long y), (3, yi t)]) (st' := [yi t, .ref 28, .long (31 * y)]) (hp' := hl24) rfl ?_
        refine Y_callE hk rfl (as := [.ref 28, yi t]) (rest := [.long (31 * y)]) rfl rfl (Nat.le_of_ble_eq_true rfl) (rcv0 e28_hl24) (Nat.le_of_ble_eq_true rfl) (p_notes W_hl24 (x := t) (by omega) (by omega)) (fun z38 H39 r40 => ?_)
        obtain ⟨rfl, W_H39⟩ := r40
        obtain ⟨od_H39, e28_H39⟩ := W_H39.x28
        refine E_run hk 5 (j' := 38) (lv' := [(4, yi 0), (1, .long ((31 * y) + ((iN (S (0 + t))).toInt64))), (0, .ref 28), (3, yi t)]) (st' := []) (hp' := H39) rfl ?_
        have loop38 : ∀ (N : Nat) (k : Int) (y2 : Int64) (hl38 : xH), (0 ≤ k ∧ k ≤ S (0 + t)) → (y2 = hsf (fun q => S (7 + 20 * t + q)) (hx (tl S t) (S (0 + t))) k.toNat) → pzI L F (b + 3 + 30 * t + 1 + 2 * k) hl38 n S T → (S (0 + t) - k).toNat = N → Ev (d + 1) 116 38 [(0, .ref 28), (1, .long y2), (3, yi t), (4, yi k)] [] hl38 (yL (fun z h1 => z = tld S ∧ pzI L F (b + 120) h1 n S T)) := by
          intro N
          induction N using Nat.strongRecOn with
          | ind N ih38 =>
            intro k y2 hl38 hk0 hy2 W_hl38 hm38
            obtain ⟨od_hl38, e28_hl38⟩ := W_hl38.x28
            refine E_run hk 1 (j' := 39) (lv' := [(0, .ref 28), (1, .long y2), (3, yi t), (4, yi k)]) (st' := [yi k]) (hp' := hl38) rfl ?_
            refine E_run hk 2 (j' := 41) (lv' := [(0, .ref 28), (1, .long y2), (3, yi t), (4, yi k)]) (st' := [yi t, .ref 28, yi k]) (hp' := hl38) rfl ?_
            refine Y_callE hk rfl (as := [.ref 28, yi t]) (rest := [yi k]) rfl rfl (Nat.le_of_ble_eq_true rfl) (rcv0 e28_hl38) (Nat.le_of_ble_eq_true rfl) (p_notes W_hl38 (x := t) (by omega) (by omega)) (fun z41 H42 r43 => ?_)
            obtain ⟨rfl, W_H42⟩ := r43
            obtain ⟨od_H42, e28_H42⟩ := W_H42.x28
            refine Y_ic_ge (a := k) (b := (S (0 + t))) (by omega) hk rfl (fun g44 => ?_) (fun g44 => ?_)
            ·
              refine Y_iinc (a := t) (z := 1) hk rfl rfl rfl (by decide) (lv' := [(3, yi (t + 1)), (0, .ref 28), (1, .long y2), (4, yi k)]) rfl ?_
              refine E_run hk 1 (j' := 24) (lv' := [(3, yi (t + 1)), (0, .ref 28), (1, .long y2), (4, yi k)]) (st' := []) (hp' := H42) rfl ?_
              exact Ev_le (xle_s rfl rfl (xle_s rfl rfl (xle_s rfl rfl (xle_z _ rfl)))) (ih24 _ (by omega) (t + 1) y2 H42 (by omega) (by rw [hy2, show k = S (0 + t) by omega, tl_s (by omega)]; rfl) (W_H42.mono (by omega)) rfl)
            ·
              refine E_run hk 6 (j' := 49) (lv' := [(0, .ref 28), (1, .long y2), (3, yi t), (4, yi k)]) (st' := [yi k, yi t, .ref 28, .long (31 * y2)]) (hp' := H42) rfl ?_
              refine Y_callE hk rfl (as := [.ref 28, yi t, yi k]) (rest := [.long (31 * y2)]) rfl rfl (Nat.le_of_ble_eq_true rfl) (rcv0 e28_H42) (Nat.le_of_ble_eq_true rfl) (p_pitch W_H42 (x := t) (k := k) (by omega) (by omega)) (fun z45 H46 r47 => ?_)
              obtain ⟨rfl, W_H46⟩ := r47
              obtain ⟨od_H46, e28_H46⟩ := W_H46.x28
              refine E_run hk 3 (j' := 53) (lv' := [(1, .long ((31 * y2) + ((iN (S (7 + 20 * t + k))).toInt64))), (0, .ref 28), (3, yi t), (4, yi k)]) (st' := []) (hp' := H46) rfl ?_
              refine Y_iinc (a := k) (z := 1) hk rfl rfl rfl (by decide) (lv' := [(4, yi (k + 1)), (1, .long ((31 * y2) + ((iN (S (7 + 20 * t + k))).toInt64))), (0, .ref 28), (3, yi t)]) rfl ?_
              refine E_run hk 1 (j' := 38) (lv' := [(4, yi (k + 1)), (1, .long ((31 * y2) + ((iN (S (7 + 20 * t + k))).toInt64))), (0, .ref 28), (3, yi t)]) (st' := []) (hp' := H46) rfl ?_
              exact Ev_le (xle_s rfl rfl (xle_s rfl rfl (xle_s rfl rfl (xle_s rfl rfl (xle_z _ rfl))))) (ih38 _ (by omega) (k + 1) ((31 * y2) + ((iN (S (7 + 20 * t + k))).toInt64)) H46 (by omega) (by rw [hsf_s (by omega), ← hy2]; rfl) (W_H46.mono (by omega)) rfl)
        exact Ev_le (xle_s rfl rfl (xle_s rfl rfl (xle_s rfl rfl (xle_s rfl rfl (xle_z _ rfl))))) (loop38 _ 0 ((31 * y) + ((iN (S (0 + t))).toInt64)) H39 (by omega) (by rw [hy]; rfl) (W_H39.mono (by omega)) rfl)
  exact Ev_le (xle_s rfl rfl (xle_s rfl rfl (xle_s rfl rfl (xle_z _ rfl)))) (loop24 _ 0 ((31 * ((31 * ((31 * 3) + ((iN (S 2)).toInt64))) + ((iN (S 3)).toInt64))) + ((iN (S 4)).toInt64)) H8 (by omega) (rfl) (W_H8.mono (by omega)) rfl)
