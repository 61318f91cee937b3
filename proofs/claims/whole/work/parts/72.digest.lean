/-! The reference's digest. -/
theorem hx_eq (h : Int64) (v : Int) : 31 * h + (iN v).toInt64 = hx h v := rfl
theorem c_X9_digestMatch {d : Nat} {hp : xH} {v : Nat → Int} (hM : xat hp 63 = some (yMo v)) {S : Int → Int} (hS : xat hp 64 = some (yI 47 S)) (hz : 0 ≤ S 0 ∧ S 0 ≤ 20 ∧ 0 ≤ S 1 ∧ S 1 ≤ 20 ∧ 0 ≤ S 2 ∧ S 2 ≤ 20 ∧ 0 ≤ S 3 ∧ S 3 ≤ 50 ∧ 0 ≤ S 4 ∧ S 4 ≤ 3) (h0 : ∀ q, 0 ≤ q → q < S 0 → 0 ≤ S (7 + q) ∧ S (7 + q) ≤ 60) (h1 : ∀ q, 0 ≤ q → q < S 1 → 0 ≤ S (27 + q) ∧ S (27 + q) ≤ 60) {f W : Int → Int} (hA : xat hp 71 = some (yI 400 f)) (hW : xat hp 72 = some (yI 400 W)) {p q : Int → Int} (hp1 : xat hp 74 = some (yI 40 p)) (hp2 : xat hp 75 = some (yI 40 q)) {f0 : Int → Int} (hA0 : xat hp 70 = some (yI 400 f0)) {x0 : Int64} (hd : 5 ≤ d) : Cv d 247 [.ref 63, .long x0] hp (yL (fun z h => ∃ c p q, mtc S c p q ∧ z = hmt S p q c x0 ∧ xat h 63 = some (yMo (vup v 20 c)) ∧ (∃ u, xat h 70 = some (yI 400 u)) ∧ (∃ u, xat h 71 = some (yI 400 u)) ∧ (∃ u, xat h 72 = some (yI 400 u)) ∧ (∃ u, xat h 74 = some (yI 40 u)) ∧ (∃ u, xat h 75 = some (yI 40 u)) ∧ yfr [63, 70, 71, 72, 74, 75] hp h)) := by
  have hk : xtab 247 = (xc_247, 8, 3, []) := rfl
  obtain ⟨d, rfl⟩ : ∃ e, d = e + 1 := ⟨d - 1, by omega⟩
  show Ev (d + 1) 247 0 [(0, .ref 63), (1, .long x0)] [] hp _
  refine E_run hk 3 (j' := 3) (lv' := [(3, .long x0), (0, .ref 63), (1, .long x0)]) (st' := [.ref 63]) (hp' := hp) rfl ?_
  refine Y_call hk rfl (as := [.ref 63]) (rest := []) (v := none) rfl rfl (Nat.le_of_ble_eq_true rfl) (rcv0 hM) (Nat.le_of_ble_eq_true rfl) (c_X9_tellsMatch (v := v) hM hS hz h0 h1 hA hW hp1 hp2 (hd := by omega)) (fun H1 r2 => ?_)
  obtain ⟨c_H1, A_H1, W_H1, P_H1, Q_H1, e_H1, a_H1, w_H1, p_H1, q_H1, m_H1, f_H1⟩ := r2
  obtain ⟨mc1, mc2, mc3⟩ := mtc_rng m_H1 (by omega)
  refine E_run hk 2 (j' := 6) (lv' := [(5, yi 0), (3, .long x0), (0, .ref 63), (1, .long x0)]) (st' := []) (hp' := H1) rfl ?_
  have loop6 : ∀ (N : Nat) (k : Int) (x : Int64), (0 ≤ k ∧ k ≤ c_H1) → (x = hs2 P_H1 Q_H1 x0 k.toNat) → (c_H1 - k).toNat = N → Ev (d + 1) 247 6 [(0, .ref 63), (1, .long x0), (3, .long x), (5, yi k)] [] H1 (yL (fun z h => ∃ c p q, mtc S c p q ∧ z = hmt S p q c x0 ∧ xat h 63 = some (yMo (vup v 20 c)) ∧ (∃ u, xat h 70 = some (yI 400 u)) ∧ (∃ u, xat h 71 = some (yI 400 u)) ∧ (∃ u, xat h 72 = some (yI 400 u)) ∧ (∃ u, xat h 74 = some (yI 40 u)) ∧ (∃ u, xat h 75 = some (yI 40 u)) ∧ yfr [63, 70, 71, 72, 74, 75] hp h)) := by
    intro N
    induction N using Nat.strongRecOn with
    | ind N ih6 =>
      intro k x J1 J2 hm6
      refine E_run hk 1 (j' := 7) (lv' := [(0, .ref 63), (1, .long x0), (3, .long x), (5, yi k)]) (st' := [yi k]) (hp' := H1) rfl ?_
      refine E_run hk 1 (j' := 8) (lv' := [(0, .ref 63), (1, .long x0), (3, .long x), (5, yi k)]) (st' := [.ref 63, yi k]) (hp' := H1) rfl ?_
      refine E_get (v := yi c_H1) hk rfl e_H1 rfl ?_
      refine Y_ic_ge (a := k) (b := c_H1) (by omega) hk rfl (fun g3 => ?_) (fun g3 => ?_)
      ·
        refine E_run hk 2 (j' := 32) (lv' := [(5, yi 0), (0, .ref 63), (1, .long x0), (3, .long x)]) (st' := []) (hp' := H1) rfl ?_
        have loop32 : ∀ (N : Nat) (t : Int) (x2 : Int64), (0 ≤ t ∧ t ≤ 2) → ((t = 0 ∧ x2 = hs2 P_H1 Q_H1 x0 c_H1.toNat) ∨ (t = 1 ∧ x2 = hst S P_H1 c_H1 0 (hs2 P_H1 Q_H1 x0 c_H1.toNat)) ∨ (t = 2 ∧ x2 = hst S Q_H1 c_H1 1 (hst S P_H1 c_H1 0 (hs2 P_H1 Q_H1 x0 c_H1.toNat)))) → (2 - t).toNat = N → Ev (d + 1) 247 32 [(0, .ref 63), (1, .long x0), (3, .long x2), (5, yi t)] [] H1 (yL (fun z h => ∃ c p q, mtc S c p q ∧ z = hmt S p q c x0 ∧ xat h 63 = some (yMo (vup v 20 c)) ∧ (∃ u, xat h 70 = some (yI 400 u)) ∧ (∃ u, xat h 71 = some (yI 400 u)) ∧ (∃ u, xat h 72 = some (yI 400 u)) ∧ (∃ u, xat h 74 = some (yI 40 u)) ∧ (∃ u, xat h 75 = some (yI 40 u)) ∧ yfr [63, 70, 71, 72, 74, 75] hp h)) := by
          intro N
          induction N using Nat.strongRecOn with
          | ind N ih32 =>
            intro t x2 K1 K2 hm32
            refine E_run hk 1 (j' := 33) (lv' := [(0, .ref 63), (1, .long x0), (3, .long x2), (5, yi t)]) (st' := [yi t]) (hp' := H1) rfl ?_
            refine E_run hk 1 (j' := 34) (lv' := [(0, .ref 63), (1, .long x0), (3, .long x2), (5, yi t)]) (st' := [yi 2, yi t]) (hp' := H1) rfl ?_
            refine Y_ic_ge (a := t) (b := 2) (by omega) hk rfl (fun g4 => ?_) (fun g4 => ?_)
            ·
              refine E_run hk 3 (j' := 68) (lv' := [(0, .ref 63), (1, .long x0), (3, .long x2), (5, yi t)]) (st' := [.ref 63, yi 0, .ref 63]) (hp' := H1) rfl ?_
              refine E_get (v := .ref 64) hk rfl e_H1 rfl ?_
              refine E_run hk 1 (j' := 70) (lv' := [(0, .ref 63), (1, .long x0), (3, .long x2), (5, yi t)]) (st' := [yi 2, .ref 64, yi 0, .ref 63]) (hp' := H1) rfl ?_
              refine Y_iald (a := 2) (by omega) (by decide) hk rfl (f_H1.at (by decide) hS) ?_
              refine Y_call hk rfl (as := [.ref 63, yi 0, yi (S 2)]) (rest := []) (v := some (yi (cst S 0 (S 2)))) rfl rfl (Nat.le_of_ble_eq_true rfl) (rcv0 e_H1) (Nat.le_of_ble_eq_true rfl) (c_X9_tellsAhead (b := 0) (u := (S 2)) (v := (vup v 20 c_H1)) e_H1 (f_H1.at (by decide) hS) hz h0 h1 (f_H1.at (by decide) hA0) (by omega) (by omega) (hd := by omega)) (fun H5 r6 => ?_)
              obtain ⟨A_H5, e_H5, a_H5, f_H5⟩ := r6
              refine E_run hk 3 (j' := 75) (lv' := [(5, yi 0), (0, .ref 63), (1, .long x0), (3, .long x2)]) (st' := []) (hp' := H5) rfl ?_
              have loop75 : ∀ (N : Nat) (i : Int) (x4 : Int64), (0 ≤ i ∧ i ≤ S 0) → (x4 = hsg (fun i j => orn (fw (unl S 0) (S 3) (S 2) i j)) (S 1).toNat (hst S Q_H1 c_H1 1 (hst S P_H1 c_H1 0 (hs2 P_H1 Q_H1 x0 c_H1.toNat))) i.toNat) → (S 0 - i).toNat = N → Ev (d + 1) 247 75 [(0, .ref 63), (1, .long x0), (3, .long x4), (5, yi i)] [] H5 (yL (fun z h => ∃ c p q, mtc S c p q ∧ z = hmt S p q c x0 ∧ xat h 63 = some (yMo (vup v 20 c)) ∧ (∃ u, xat h 70 = some (yI 400 u)) ∧ (∃ u, xat h 71 = some (yI 400 u)) ∧ (∃ u, xat h 72 = some (yI 400 u)) ∧ (∃ u, xat h 74 = some (yI 40 u)) ∧ (∃ u, xat h 75 = some (yI 40 u)) ∧ yfr [63, 70, 71, 72, 74, 75] hp h)) := by
                intro N
                induction N using Nat.strongRecOn with
                | ind N ih75 =>
                  intro i x4 G1 G2 hm75
                  refine E_run hk 1 (j' := 76) (lv' := [(0, .ref 63), (1, .long x0), (3, .long x4), (5, yi i)]) (st' := [yi i]) (hp' := H5) rfl ?_
                  refine E_run hk 2 (j' := 78) (lv' := [(0, .ref 63), (1, .long x0), (3, .long x4), (5, yi i)]) (st' := [yi 0, .ref 63, yi i]) (hp' := H5) rfl ?_
                  refine Y_callP hk rfl (as := [.ref 63, yi 0]) (rest := [yi i]) (v := some (yi (S 0))) rfl rfl (Nat.le_of_ble_eq_true rfl) (rcv0 (f_H5.at (by decide) e_H1)) (Nat.le_of_ble_eq_true rfl) (c_X9_many (t := 0) (v := (vup v 20 c_H1)) (f_H5.at (by decide) e_H1) (f_H5.at (by decide) (f_H1.at (by decide) hS)) (by omega)) ?_
                  refine Y_ic_ge (a := i) (b := (S 0)) (by omega) hk rfl (fun g7 => ?_) (fun g7 => ?_)
                  ·
                    refine E_run hk 1 (j' := 113) (lv' := [(0, .ref 63), (1, .long x0), (3, .long x4), (5, yi i)]) (st' := [.long x4]) (hp' := H5) rfl ?_
                    exact E_ret hk rfl rfl ⟨_, rfl, c_H1, _, _, m_H1, by rw [G2, show i = S 0 by omega]; rfl, (f_H5.at (by decide) e_H1), ⟨_, e_H5⟩, ⟨_, (f_H5.at (by decide) a_H1)⟩, ⟨_, (f_H5.at (by decide) w_H1)⟩, ⟨_, (f_H5.at (by decide) p_H1)⟩, ⟨_, (f_H5.at (by decide) q_H1)⟩, (yfr.tr (f_H1.mono (by decide)) f_H5 (fun _ h => h) (by decide))⟩
                  ·
                    refine E_run hk 2 (j' := 82) (lv' := [(6, yi 0), (0, .ref 63), (1, .long x0), (3, .long x4), (5, yi i)]) (st' := []) (hp' := H5) rfl ?_
                    have loop82 : ∀ (N : Nat) (j : Int) (x5 : Int64), (0 ≤ j ∧ j ≤ S 1) → (x5 = hsf (fun j => orn (fw (unl S 0) (S 3) (S 2) i j)) x4 j.toNat) → (S 1 - j).toNat = N → Ev (d + 1) 247 82 [(0, .ref 63), (1, .long x0), (3, .long x5), (5, yi i), (6, yi j)] [] H5 (yL (fun z h => ∃ c p q, mtc S c p q ∧ z = hmt S p q c x0 ∧ xat h 63 = some (yMo (vup v 20 c)) ∧ (∃ u, xat h 70 = some (yI 400 u)) ∧ (∃ u, xat h 71 = some (yI 400 u)) ∧ (∃ u, xat h 72 = some (yI 400 u)) ∧ (∃ u, xat h 74 = some (yI 40 u)) ∧ (∃ u, xat h 75 = some (yI 40 u)) ∧ yfr [63, 70, 71, 72, 74, 75] hp h)) := by
                      intro N
                      induction N using Nat.strongRecOn with
                      | ind N ih82 =>
                        intro j x5 L1 L2 hm82
                        refine E_run hk 1 (j' := 83) (lv' := [(0, .ref 63), (1, .long x0), (3, .long x5), (5, yi i), (6, yi j)]) (st' := [yi j]) (hp' := H5) rfl ?_
                        refine E_run hk 2 (j' := 85) (lv' := [(0, .ref 63), (1, .long x0), (3, .long x5), (5, yi i), (6, yi j)]) (st' := [yi 1, .ref 63, yi j]) (hp' := H5) rfl ?_
                        refine Y_callP hk rfl (as := [.ref 63, yi 1]) (rest := [yi j]) (v := some (yi (S 1))) rfl rfl (Nat.le_of_ble_eq_true rfl) (rcv0 (f_H5.at (by decide) e_H1)) (Nat.le_of_ble_eq_true rfl) (c_X9_many (t := 1) (v := (vup v 20 c_H1)) (f_H5.at (by decide) e_H1) (f_H5.at (by decide) (f_H1.at (by decide) hS)) (by omega)) ?_
                        refine Y_ic_ge (a := j) (b := (S 1)) (by omega) hk rfl (fun g8 => ?_) (fun g8 => ?_)
                        ·
                          refine Y_iinc (a := i) (z := 1) hk rfl rfl rfl (by decide) (lv' := [(5, yi (i + 1)), (0, .ref 63), (1, .long x0), (3, .long x5), (6, yi j)]) rfl ?_
                          refine E_run hk 1 (j' := 75) (lv' := [(5, yi (i + 1)), (0, .ref 63), (1, .long x0), (3, .long x5), (6, yi j)]) (st' := []) (hp' := H5) rfl ?_
                          exact Ev_le (xle_s rfl rfl (xle_s rfl rfl (xle_s rfl rfl (xle_s rfl rfl (xle_z _ rfl))))) (ih75 _ (by omega) (i + 1) x5  (by omega) (by rw [hsg_s (by omega), ← G2, L2, show j = S 1 by omega]) rfl)
                        ·
                          refine E_run hk 1 (j' := 88) (lv' := [(0, .ref 63), (1, .long x0), (3, .long x5), (5, yi i), (6, yi j)]) (st' := [.ref 63]) (hp' := H5) rfl ?_
                          refine E_get (v := .ref 70) hk rfl (f_H5.at (by decide) e_H1) rfl ?_
                          refine E_run hk 2 (j' := 91) (lv' := [(0, .ref 63), (1, .long x0), (3, .long x5), (5, yi i), (6, yi j)]) (st' := [yi i, yi 20, .ref 70]) (hp' := H5) rfl ?_
                          refine Y_imul (a := 20) (b := i) hk rfl ?_
                          refine E_run hk 1 (j' := 93) (lv' := [(0, .ref 63), (1, .long x0), (3, .long x5), (5, yi i), (6, yi j)]) (st' := [yi j, yi (20 * i), .ref 70]) (hp' := H5) rfl ?_
                          refine Y_iadd (a := (20 * i)) (b := j) hk rfl ?_
                          refine Y_iald (a := ((20 * i) + j)) (by omega) (by decide) hk rfl e_H5 ?_
                          have w5 := a_H5 i j (by omega) (by omega) (by omega) (by omega)
                          have w6 := fw_rng (D := unl S 0) (b := S 2) (w := S 3) (m := S 0) (n := S 1) (by omega) (fun i j a1 a2 a3 a4 => unl_rng hz h0 h1 (by omega) a1 a2 a3 a4) _ i j (by omega) (by omega) rfl
                          rw [← w5] at w6
                          refine E_run hk 6 (j' := 101) (lv' := [(7, yi (A_H5 ((20 * i) + j))), (0, .ref 63), (1, .long x0), (3, .long x5), (5, yi i), (6, yi j)]) (st' := [yi 100000000, yi (A_H5 ((20 * i) + j)), .long (31 * x5)]) (hp' := H5) rfl ?_
                          refine Y_ic_ge (a := (A_H5 ((20 * i) + j))) (b := 100000000) (by omega) hk rfl (fun g9 => ?_) (fun g9 => ?_)
                          ·
                            refine E_run hk 4 (j' := 108) (lv' := [(3, .long ((31 * x5) + ((iN (-1)).toInt64))), (7, yi (A_H5 ((20 * i) + j))), (0, .ref 63), (1, .long x0), (5, yi i), (6, yi j)]) (st' := []) (hp' := H5) rfl ?_
                            refine Y_iinc (a := j) (z := 1) hk rfl rfl rfl (by decide) (lv' := [(6, yi (j + 1)), (3, .long ((31 * x5) + ((iN (-1)).toInt64))), (7, yi (A_H5 ((20 * i) + j))), (0, .ref 63), (1, .long x0), (5, yi i)]) rfl ?_
                            refine E_run hk 1 (j' := 82) (lv' := [(6, yi (j + 1)), (3, .long ((31 * x5) + ((iN (-1)).toInt64))), (7, yi (A_H5 ((20 * i) + j))), (0, .ref 63), (1, .long x0), (5, yi i)]) (st' := []) (hp' := H5) rfl ?_
                            exact Ev_le (xle_s rfl rfl (xle_s rfl rfl (xle_s rfl rfl (xle_s rfl rfl (xle_s rfl rfl (xle_z _ rfl)))))) (ih82 _ (by omega) (j + 1) ((31 * x5) + ((iN (-1)).toInt64))  (by omega) (by rw [hsf_s (by omega), ← L2, ← w5]; first | (rw [show orn _ = _ from if_pos (by assumption)]; rfl) | (rw [show orn _ = _ from if_neg (by assumption)]; rfl)) rfl)
                          ·
                            refine E_run hk 5 (j' := 108) (lv' := [(3, .long ((31 * x5) + ((iN (A_H5 ((20 * i) + j))).toInt64))), (7, yi (A_H5 ((20 * i) + j))), (0, .ref 63), (1, .long x0), (5, yi i), (6, yi j)]) (st' := []) (hp' := H5) rfl ?_
                            refine Y_iinc (a := j) (z := 1) hk rfl rfl rfl (by decide) (lv' := [(6, yi (j + 1)), (3, .long ((31 * x5) + ((iN (A_H5 ((20 * i) + j))).toInt64))), (7, yi (A_H5 ((20 * i) + j))), (0, .ref 63), (1, .long x0), (5, yi i)]) rfl ?_
                            refine E_run hk 1 (j' := 82) (lv' := [(6, yi (j + 1)), (3, .long ((31 * x5) + ((iN (A_H5 ((20 * i) + j))).toInt64))), (7, yi (A_H5 ((20 * i) + j))), (0, .ref 63), (1, .long x0), (5, yi i)]) (st' := []) (hp' := H5) rfl ?_
                            exact Ev_le (xle_s rfl rfl (xle_s rfl rfl (xle_s rfl rfl (xle_s rfl rfl (xle_s rfl rfl (xle_z _ rfl)))))) (ih82 _ (by omega) (j + 1) ((31 * x5) + ((iN (A_H5 ((20 * i) + j))).toInt64))  (by omega) (by rw [hsf_s (by omega), ← L2, ← w5]; first | (rw [show orn _ = _ from if_pos (by assumption)]; rfl) | (rw [show orn _ = _ from if_neg (by assumption)]; rfl)) rfl)
                    exact Ev_le (xle_s rfl rfl (xle_s rfl rfl (xle_s rfl rfl (xle_s rfl rfl (xle_s rfl rfl (xle_z _ rfl)))))) (loop82 _ 0 x4  (by omega) (rfl) rfl)
              exact Ev_le (xle_s rfl rfl (xle_s rfl rfl (xle_s rfl rfl (xle_s rfl rfl (xle_z _ rfl))))) (loop75 _ 0 x2  (by omega) (by rcases K2 with z | z | z <;> first | exact z.2 | (exfalso; omega)) rfl)
            ·
              have w2 : 0 ≤ S (0 + t) ∧ S (0 + t) ≤ 20 := by rcases (by omega : t = 0 ∨ t = 1) with q | q <;> rw [q] <;> first | exact ⟨hz.1, hz.2.1⟩ | exact ⟨hz.2.2.1, hz.2.2.2.1⟩
              refine E_run hk 5 (j' := 40) (lv' := [(0, .ref 63), (1, .long x0), (3, .long x2), (5, yi t)]) (st' := [yi t, .ref 63, .long (31 * x2)]) (hp' := H1) rfl ?_
              refine Y_callP hk rfl (as := [.ref 63, yi t]) (rest := [.long (31 * x2)]) (v := some (yi (lng (if t = 0 then P_H1 else Q_H1) c_H1.toNat (S (0 + t)).toNat))) rfl rfl (Nat.le_of_ble_eq_true rfl) (rcv0 e_H1) (Nat.le_of_ble_eq_true rfl) (c_X9_longest (t := t) (c := c_H1) (v := (vup v 20 c_H1)) e_H1 (f_H1.at (by decide) hS) p_H1 q_H1 rfl (by omega) (by omega) mc3 (by omega) (hd := by omega)) ?_
              refine E_run hk 5 (j' := 46) (lv' := [(6, yi 0), (3, .long ((31 * x2) + ((iN (lng (if t = 0 then P_H1 else Q_H1) c_H1.toNat (S (0 + t)).toNat)).toInt64))), (0, .ref 63), (1, .long x0), (5, yi t)]) (st' := []) (hp' := H1) rfl ?_
              have loop46 : ∀ (N : Nat) (k2 : Int) (x3 : Int64), (0 ≤ k2 ∧ k2 ≤ S (0 + t)) → (x3 = hsf (fun k => cnt (if t = 0 then P_H1 else Q_H1) k c_H1.toNat) (hx x2 (lng (if t = 0 then P_H1 else Q_H1) c_H1.toNat (S (0 + t)).toNat)) k2.toNat) → (S (0 + t) - k2).toNat = N → Ev (d + 1) 247 46 [(0, .ref 63), (1, .long x0), (3, .long x3), (5, yi t), (6, yi k2)] [] H1 (yL (fun z h => ∃ c p q, mtc S c p q ∧ z = hmt S p q c x0 ∧ xat h 63 = some (yMo (vup v 20 c)) ∧ (∃ u, xat h 70 = some (yI 400 u)) ∧ (∃ u, xat h 71 = some (yI 400 u)) ∧ (∃ u, xat h 72 = some (yI 400 u)) ∧ (∃ u, xat h 74 = some (yI 40 u)) ∧ (∃ u, xat h 75 = some (yI 40 u)) ∧ yfr [63, 70, 71, 72, 74, 75] hp h)) := by
                intro N
                induction N using Nat.strongRecOn with
                | ind N ih46 =>
                  intro k2 x3 M1 M2 hm46
                  refine E_run hk 1 (j' := 47) (lv' := [(0, .ref 63), (1, .long x0), (3, .long x3), (5, yi t), (6, yi k2)]) (st' := [yi k2]) (hp' := H1) rfl ?_
                  refine E_run hk 2 (j' := 49) (lv' := [(0, .ref 63), (1, .long x0), (3, .long x3), (5, yi t), (6, yi k2)]) (st' := [yi t, .ref 63, yi k2]) (hp' := H1) rfl ?_
                  refine Y_callP hk rfl (as := [.ref 63, yi t]) (rest := [yi k2]) (v := some (yi (S (0 + t)))) rfl rfl (Nat.le_of_ble_eq_true rfl) (rcv0 e_H1) (Nat.le_of_ble_eq_true rfl) (c_X9_many (t := t) (v := (vup v 20 c_H1)) e_H1 (f_H1.at (by decide) hS) (by omega)) ?_
                  refine Y_ic_ge (a := k2) (b := (S (0 + t))) (by omega) hk rfl (fun g10 => ?_) (fun g10 => ?_)
                  ·
                    refine Y_iinc (a := t) (z := 1) hk rfl rfl rfl (by decide) (lv' := [(5, yi (t + 1)), (0, .ref 63), (1, .long x0), (3, .long x3), (6, yi k2)]) rfl ?_
                    refine E_run hk 1 (j' := 32) (lv' := [(5, yi (t + 1)), (0, .ref 63), (1, .long x0), (3, .long x3), (6, yi k2)]) (st' := []) (hp' := H1) rfl ?_
                    exact Ev_le (xle_s rfl rfl (xle_s rfl rfl (xle_s rfl rfl (xle_s rfl rfl (xle_z _ rfl))))) (ih32 _ (by omega) (t + 1) x3  (by omega) (by
        rcases (by omega : t = 0 ∨ t = 1) with q | q
        · have z : x2 = hs2 P_H1 Q_H1 x0 c_H1.toNat := by rcases K2 with z | z | z <;> first | exact z.2 | (exfalso; omega)
          refine Or.inr (Or.inl ⟨by omega, ?_⟩)
          rw [M2, show k2 = S (0 + t) by omega, if_pos q, z, q]
          rfl
        · have z : x2 = hst S P_H1 c_H1 0 (hs2 P_H1 Q_H1 x0 c_H1.toNat) := by rcases K2 with z | z | z <;> first | exact z.2 | (exfalso; omega)
          refine Or.inr (Or.inr ⟨by omega, ?_⟩)
          rw [M2, show k2 = S (0 + t) by omega, if_neg (by omega), z, q]
          rfl) rfl)
                  ·
                    refine E_run hk 6 (j' := 57) (lv' := [(0, .ref 63), (1, .long x0), (3, .long x3), (5, yi t), (6, yi k2)]) (st' := [yi k2, yi t, .ref 63, .long (31 * x3)]) (hp' := H1) rfl ?_
                    refine Y_callP hk rfl (as := [.ref 63, yi t, yi k2]) (rest := [.long (31 * x3)]) (v := some (yi (cnt (if t = 0 then P_H1 else Q_H1) k2 c_H1.toNat))) rfl rfl (Nat.le_of_ble_eq_true rfl) (rcv0 e_H1) (Nat.le_of_ble_eq_true rfl) (c_X9_stretchOf (t := t) (x := k2) (c := c_H1) (v := (vup v 20 c_H1)) e_H1 p_H1 q_H1 rfl (by omega) (by omega) mc3) ?_
                    refine E_run hk 3 (j' := 61) (lv' := [(3, .long ((31 * x3) + ((iN (cnt (if t = 0 then P_H1 else Q_H1) k2 c_H1.toNat)).toInt64))), (0, .ref 63), (1, .long x0), (5, yi t), (6, yi k2)]) (st' := []) (hp' := H1) rfl ?_
                    refine Y_iinc (a := k2) (z := 1) hk rfl rfl rfl (by decide) (lv' := [(6, yi (k2 + 1)), (3, .long ((31 * x3) + ((iN (cnt (if t = 0 then P_H1 else Q_H1) k2 c_H1.toNat)).toInt64))), (0, .ref 63), (1, .long x0), (5, yi t)]) rfl ?_
                    refine E_run hk 1 (j' := 46) (lv' := [(6, yi (k2 + 1)), (3, .long ((31 * x3) + ((iN (cnt (if t = 0 then P_H1 else Q_H1) k2 c_H1.toNat)).toInt64))), (0, .ref 63), (1, .long x0), (5, yi t)]) (st' := []) (hp' := H1) rfl ?_
                    exact Ev_le (xle_s rfl rfl (xle_s rfl rfl (xle_s rfl rfl (xle_s rfl rfl (xle_s rfl rfl (xle_z _ rfl)))))) (ih46 _ (by omega) (k2 + 1) ((31 * x3) + ((iN (cnt (if t = 0 then P_H1 else Q_H1) k2 c_H1.toNat)).toInt64))  (by omega) (by rw [hsf_s (by omega), ← M2]; rfl) rfl)
              exact Ev_le (xle_s rfl rfl (xle_s rfl rfl (xle_s rfl rfl (xle_s rfl rfl (xle_s rfl rfl (xle_z _ rfl)))))) (loop46 _ 0 ((31 * x2) + ((iN (lng (if t = 0 then P_H1 else Q_H1) c_H1.toNat (S (0 + t)).toNat)).toInt64))  (by omega) (rfl) rfl)
        exact Ev_le (xle_s rfl rfl (xle_s rfl rfl (xle_s rfl rfl (xle_s rfl rfl (xle_z _ rfl))))) (loop32 _ 0 x  (by omega) (Or.inl ⟨rfl, by rw [J2, show k = c_H1 by omega]⟩) rfl)
      ·
        have w1 := mc3 k (by omega) (by omega)
        refine E_run hk 5 (j' := 15) (lv' := [(0, .ref 63), (1, .long x0), (3, .long x), (5, yi k)]) (st' := [.ref 63, .long (31 * x), .long 31]) (hp' := H1) rfl ?_
        refine E_get (v := .ref 74) hk rfl e_H1 rfl ?_
        refine E_run hk 1 (j' := 17) (lv' := [(0, .ref 63), (1, .long x0), (3, .long x), (5, yi k)]) (st' := [yi k, .ref 74, .long (31 * x), .long 31]) (hp' := H1) rfl ?_
        refine Y_iald (a := k) (by omega) (by decide) hk rfl p_H1 ?_
        refine E_run hk 4 (j' := 22) (lv' := [(0, .ref 63), (1, .long x0), (3, .long x), (5, yi k)]) (st' := [.ref 63, .long (31 * ((31 * x) + ((iN (P_H1 k)).toInt64)))]) (hp' := H1) rfl ?_
        refine E_get (v := .ref 75) hk rfl e_H1 rfl ?_
        refine E_run hk 1 (j' := 24) (lv' := [(0, .ref 63), (1, .long x0), (3, .long x), (5, yi k)]) (st' := [yi k, .ref 75, .long (31 * ((31 * x) + ((iN (P_H1 k)).toInt64)))]) (hp' := H1) rfl ?_
        refine Y_iald (a := k) (by omega) (by decide) hk rfl q_H1 ?_
        refine E_run hk 3 (j' := 28) (lv' := [(3, .long ((31 * ((31 * x) + ((iN (P_H1 k)).toInt64))) + ((iN (Q_H1 k)).toInt64))), (0, .ref 63), (1, .long x0), (5, yi k)]) (st' := []) (hp' := H1) rfl ?_
        refine Y_iinc (a := k) (z := 1) hk rfl rfl rfl (by decide) (lv' := [(5, yi (k + 1)), (3, .long ((31 * ((31 * x) + ((iN (P_H1 k)).toInt64))) + ((iN (Q_H1 k)).toInt64))), (0, .ref 63), (1, .long x0)]) rfl ?_
        refine E_run hk 1 (j' := 6) (lv' := [(5, yi (k + 1)), (3, .long ((31 * ((31 * x) + ((iN (P_H1 k)).toInt64))) + ((iN (Q_H1 k)).toInt64))), (0, .ref 63), (1, .long x0)]) (st' := []) (hp' := H1) rfl ?_
        exact Ev_le (xle_s rfl rfl (xle_s rfl rfl (xle_s rfl rfl (xle_s rfl rfl (xle_z _ rfl))))) (ih6 _ (by omega) (k + 1) ((31 * ((31 * x) + ((iN (P_H1 k)).toInt64))) + ((iN (Q_H1 k)).toInt64))  (by omega) (by rw [hs2_s (by omega), ← J2]; rfl) rfl)
  exact Ev_le (xle_s rfl rfl (xle_s rfl rfl (xle_s rfl rfl (xle_s rfl rfl (xle_z _ rfl))))) (loop6 _ 0 x0  (by omega) (rfl) rfl)
def hc1 (S : Int → Int) (c e n : Int) (h : Int64) : Int64 := if 0 < S 0 ∧ 0 < S 1 ∧ -S 2 ≤ S 0 - S 1 ∧ S 0 - S 1 ≤ S 2 then hx (hx (hx (hx (hx (hx (hx h (cst S 0 (S 2))) (cst S 0 (S 2))) c) e) (if 0 < S 0 ∧ 0 < S 1 ∧ -S 2 ≤ S 0 - S 1 ∧ S 0 - S 1 ≤ S 2 then wy (unl S 0) (S 3) (S 2) (S 0) (S 1) 0 0 else 0)) (shb (fun x => cst S x (S 2)) 12).1) n else h
def hc2 (S : Int → Int) (h : Int64) : Int64 := if S 0 = 0 ∨ S 1 = 0 then h else hx (hx (hx h (pc (unl S 0) (S 3) (S 0 - 1) (pend S))) (pb (unl S 0) (S 3) (S 0 - 1) (pend S))) (pend S)
/-- what the digest takes of the costs: c pairs, e holds, n: the bound that is needed, k states saved -/
def hct (S : Int → Int) (c e n k : Int) (h : Int64) : Int64 := hx (hc2 S (hc1 S c e n h)) k
theorem hc1_t {S : Int → Int} {c e n : Int} {h : Int64} (m : 0 < S 0 ∧ 0 < S 1 ∧ -S 2 ≤ S 0 - S 1 ∧ S 0 - S 1 ≤ S 2) : hc1 S c e n h = hx (hx (hx (hx (hx (hx (hx h (cst S 0 (S 2))) (cst S 0 (S 2))) c) e) (if 0 < S 0 ∧ 0 < S 1 ∧ -S 2 ≤ S 0 - S 1 ∧ S 0 - S 1 ≤ S 2 then wy (unl S 0) (S 3) (S 2) (S 0) (S 1) 0 0 else 0)) (shb (fun x => cst S x (S 2)) 12).1) n := if_pos m
theorem hc1_f {S : Int → Int} {c e n : Int} {h : Int64} (m : ¬ (0 < S 0 ∧ 0 < S 1 ∧ -S 2 ≤ S 0 - S 1 ∧ S 0 - S 1 ≤ S 2)) : hc1 S c e n h = h := if_neg m
theorem hc2_t {S : Int → Int} {h : Int64} (m : S 0 = 0 ∨ S 1 = 0) : hc2 S h = h := if_pos m
theorem hc2_f {S : Int → Int} {h : Int64} (m : ¬ (S 0 = 0 ∨ S 1 = 0)) : hc2 S h = hx (hx (hx h (pc (unl S 0) (S 3) (S 0 - 1) (pend S))) (pb (unl S 0) (S 3) (S 0 - 1) (pend S))) (pend S) := if_neg m
def isneed (S : Int → Int) (n : Int) : Prop := 0 ≤ n ∧ n ≤ 20 ∧ cst S 0 n = cst S 0 20 ∧ (∀ x, 0 ≤ x → x < n → ¬ cst S 0 x = cst S 0 20)
theorem c_X9_digestCosts {d : Nat} {hp : xH} {v : Nat → Int} (hM : xat hp 63 = some (yMo v)) {S : Int → Int} (hS : xat hp 64 = some (yI 47 S)) (hz : 0 ≤ S 0 ∧ S 0 ≤ 20 ∧ 0 ≤ S 1 ∧ S 1 ≤ 20 ∧ 0 ≤ S 2 ∧ S 2 ≤ 20 ∧ 0 ≤ S 3 ∧ S 3 ≤ 50 ∧ 0 ≤ S 4 ∧ S 4 ≤ 3) (h0 : ∀ q, 0 ≤ q → q < S 0 → 0 ≤ S (7 + q) ∧ S (7 + q) ≤ 60) (h1 : ∀ q, 0 ≤ q → q < S 1 → 0 ≤ S (27 + q) ∧ S (27 + q) ≤ 60) {f W : Int → Int} (hA : xat hp 71 = some (yI 400 f)) (hW : xat hp 72 = some (yI 400 W)) {p q : Int → Int} (hp1 : xat hp 74 = some (yI 40 p)) (hp2 : xat hp 75 = some (yI 40 q)) {f0 : Int → Int} (hA0 : xat hp 70 = some (yI 400 f0)) {f3 : Int → Int} (hA3 : xat hp 73 = some (yI 400 f3)) {x0 : Int64} (hd : 6 ≤ d) : Cv d 248 [.ref 63, .long x0] hp (yL (fun z h => ∃ c n p q, (0 < S 0 ∧ 0 < S 1 ∧ -S 2 ≤ S 0 - S 1 ∧ S 0 - S 1 ≤ S 2 → mtc S c p q ∧ isneed S n) ∧ z = hct S c (hld p q (c - 1).toNat) n (v 3) x0 ∧ (∃ a b, xat h 63 = some (yMo (vup (vup v 20 a) 21 b))) ∧ (∃ u, xat h 70 = some (yI 400 u)) ∧ (∃ u, xat h 71 = some (yI 400 u)) ∧ (∃ u, xat h 72 = some (yI 400 u)) ∧ (∃ u, xat h 73 = some (yI 400 u)) ∧ (∃ u, xat h 74 = some (yI 40 u)) ∧ (∃ u, xat h 75 = some (yI 40 u)) ∧ yfr [63, 70, 71, 72, 73, 74, 75] hp h)) := by
  have hk : xtab 248 = (xc_248, 7, 3, []) := rfl
  obtain ⟨d, rfl⟩ : ∃ e, d = e + 1 := ⟨d - 1, by omega⟩
  have w0 := cst_rng (b := 0) (u := S 2) hz h0 h1 (by omega)
  show Ev (d + 1) 248 0 [(0, .ref 63), (1, .long x0)] [] hp _
  refine E_run hk 3 (j' := 3) (lv' := [(3, .long x0), (0, .ref 63), (1, .long x0)]) (st' := [.ref 63]) (hp' := hp) rfl ?_
  refine Y_callP hk rfl (as := [.ref 63]) (rest := []) (v := some (yi (b2 (0 < S 0 ∧ 0 < S 1 ∧ -S 2 ≤ S 0 - S 1 ∧ S 0 - S 1 ≤ S 2)))) rfl rfl (Nat.le_of_ble_eq_true rfl) (rcv0 hM) (Nat.le_of_ble_eq_true rfl) (c_X9_matches (v := v) hM hS (by omega) (by omega) (hd := by omega)) ?_
  refine Y_b_eq hk rfl (fun g1 => ?_) (fun g1 => ?_)
  ·
    refine E_run hk 1 (j' := 62) (lv' := [(3, .long x0), (0, .ref 63), (1, .long x0)]) (st' := [.ref 63]) (hp' := hp) rfl ?_
    refine Y_callP hk rfl (as := [.ref 63]) (rest := []) (v := some (yi (b2 (S 0 = 0 ∨ S 1 = 0)))) rfl rfl (Nat.le_of_ble_eq_true rfl) (rcv0 hM) (Nat.le_of_ble_eq_true rfl) (c_X9_isBare (v := v) hM hS (by omega) (hd := by omega)) ?_
    refine Y_b_ne hk rfl (fun g2 => ?_) (fun g2 => ?_)
    ·
      refine E_run hk 4 (j' := 88) (lv' := [(3, .long x0), (0, .ref 63), (1, .long x0)]) (st' := [.ref 63, .long (31 * x0)]) (hp' := hp) rfl ?_
      refine E_get (v := yi (v 3)) hk rfl hM rfl ?_
      refine E_run hk 2 (j' := 91) (lv' := [(3, .long x0), (0, .ref 63), (1, .long x0)]) (st' := [.long ((31 * x0) + ((iN (v 3)).toInt64))]) (hp' := hp) rfl ?_
      exact E_ret hk rfl rfl ⟨_, rfl, 0, 0, fun _ => 0, fun _ => 0, fun q => absurd q (by omega), by unfold hct; rw [hc1_f (by omega)]; first | (rw [hc2_t (by omega)]; rfl) | (rw [hc2_f (by omega)]; rfl), ⟨(v 20), (v 21), hM⟩, ⟨_, hA0⟩, ⟨_, hA⟩, ⟨_, hW⟩, ⟨_, hA3⟩, ⟨_, hp1⟩, ⟨_, hp2⟩, (yfr.refl _ _)⟩
    ·
      refine E_run hk 6 (j' := 70) (lv' := [(3, .long x0), (0, .ref 63), (1, .long x0)]) (st' := [.ref 63, .long (31 * x0), .long 31, .long 31]) (hp' := hp) rfl ?_
      refine Y_call hk rfl (as := [.ref 63]) (rest := [.long (31 * x0), .long 31, .long 31]) (v := some (yi (pc (unl S 0) (S 3) (S 0 - 1) (pend S)))) rfl rfl (Nat.le_of_ble_eq_true rfl) (rcv0 hM) (Nat.le_of_ble_eq_true rfl) (c_X9_tellsParts (v := v) hM hS hz h0 h1 (by omega) hA0 hA3 (hd := by omega)) (fun H3 r4 => ?_)
      obtain ⟨A_H3, B_H3, e_H3, a_H3, b_H3, m_H3, f_H3⟩ := r4
      refine E_run hk 4 (j' := 75) (lv' := [(3, .long x0), (0, .ref 63), (1, .long x0)]) (st' := [.ref 63, .long (31 * ((31 * x0) + ((iN (pc (unl S 0) (S 3) (S 0 - 1) (pend S))).toInt64))), .long 31]) (hp' := H3) rfl ?_
      refine Y_call hk rfl (as := [.ref 63]) (rest := [.long (31 * ((31 * x0) + ((iN (pc (unl S 0) (S 3) (S 0 - 1) (pend S))).toInt64))), .long 31]) (v := some (yi (pb (unl S 0) (S 3) (S 0 - 1) (pend S)))) rfl rfl (Nat.le_of_ble_eq_true rfl) (rcv0 e_H3) (Nat.le_of_ble_eq_true rfl) (c_X9_partBegins (v := (vup v 21 (pend S))) e_H3 (f_H3.at (by decide) hS) hz h0 h1 (by omega) a_H3 b_H3 (hd := by omega)) (fun H5 r6 => ?_)
      obtain ⟨A_H5, B_H5, e_H5, a_H5, b_H5, f_H5⟩ := r6
      refine E_run hk 4 (j' := 80) (lv' := [(3, .long x0), (0, .ref 63), (1, .long x0)]) (st' := [.ref 63, .long (31 * ((31 * ((31 * x0) + ((iN (pc (unl S 0) (S 3) (S 0 - 1) (pend S))).toInt64))) + ((iN (pb (unl S 0) (S 3) (S 0 - 1) (pend S))).toInt64)))]) (hp' := H5) rfl ?_
      refine Y_call hk rfl (as := [.ref 63]) (rest := [.long (31 * ((31 * ((31 * x0) + ((iN (pc (unl S 0) (S 3) (S 0 - 1) (pend S))).toInt64))) + ((iN (pb (unl S 0) (S 3) (S 0 - 1) (pend S))).toInt64)))]) (v := some (yi (pend S))) rfl rfl (Nat.le_of_ble_eq_true rfl) (rcv0 e_H5) (Nat.le_of_ble_eq_true rfl) (c_X9_partEndsAt (v := (vup (vup v 21 (pend S)) 21 (pend S))) e_H5 (f_H5.at (by decide) (f_H3.at (by decide) hS)) hz h0 h1 (by omega) a_H5 b_H5 (hd := by omega)) (fun H7 r8 => ?_)
      obtain ⟨A_H7, B_H7, e_H7, a_H7, b_H7, f_H7⟩ := r8
      refine E_run hk 7 (j' := 88) (lv' := [(3, .long ((31 * ((31 * ((31 * x0) + ((iN (pc (unl S 0) (S 3) (S 0 - 1) (pend S))).toInt64))) + ((iN (pb (unl S 0) (S 3) (S 0 - 1) (pend S))).toInt64))) + ((iN (pend S)).toInt64))), (0, .ref 63), (1, .long x0)]) (st' := [.ref 63, .long (31 * ((31 * ((31 * ((31 * x0) + ((iN (pc (unl S 0) (S 3) (S 0 - 1) (pend S))).toInt64))) + ((iN (pb (unl S 0) (S 3) (S 0 - 1) (pend S))).toInt64))) + ((iN (pend S)).toInt64)))]) (hp' := H7) rfl ?_
      refine E_get (v := yi (v 3)) hk rfl e_H7 rfl ?_
      refine E_run hk 2 (j' := 91) (lv' := [(3, .long ((31 * ((31 * ((31 * x0) + ((iN (pc (unl S 0) (S 3) (S 0 - 1) (pend S))).toInt64))) + ((iN (pb (unl S 0) (S 3) (S 0 - 1) (pend S))).toInt64))) + ((iN (pend S)).toInt64))), (0, .ref 63), (1, .long x0)]) (st' := [.long ((31 * ((31 * ((31 * ((31 * x0) + ((iN (pc (unl S 0) (S 3) (S 0 - 1) (pend S))).toInt64))) + ((iN (pb (unl S 0) (S 3) (S 0 - 1) (pend S))).toInt64))) + ((iN (pend S)).toInt64))) + ((iN (v 3)).toInt64))]) (hp' := H7) rfl ?_
      exact E_ret hk rfl rfl ⟨_, rfl, 0, 0, fun _ => 0, fun _ => 0, fun q => absurd q (by omega), by unfold hct; rw [hc1_f (by omega)]; first | (rw [hc2_t (by omega)]; rfl) | (rw [hc2_f (by omega)]; rfl), ⟨(v 20), (pend S), e_H7⟩, ⟨_, a_H7⟩, ⟨_, (f_H7.at (by decide) (f_H5.at (by decide) (f_H3.at (by decide) hA)))⟩, ⟨_, (f_H7.at (by decide) (f_H5.at (by decide) (f_H3.at (by decide) hW)))⟩, ⟨_, b_H7⟩, ⟨_, (f_H7.at (by decide) (f_H5.at (by decide) (f_H3.at (by decide) hp1)))⟩, ⟨_, (f_H7.at (by decide) (f_H5.at (by decide) (f_H3.at (by decide) hp2)))⟩, (yfr.tr (yfr.tr (f_H3.mono (by decide)) f_H5 (fun _ h => h) (by decide)) f_H7 (fun _ h => h) (by decide))⟩
  ·
    refine E_run hk 3 (j' := 8) (lv' := [(3, .long x0), (0, .ref 63), (1, .long x0)]) (st' := [.ref 63, yi 0, .ref 63]) (hp' := hp) rfl ?_
    refine E_get (v := .ref 64) hk rfl hM rfl ?_
    refine E_run hk 1 (j' := 10) (lv' := [(3, .long x0), (0, .ref 63), (1, .long x0)]) (st' := [yi 2, .ref 64, yi 0, .ref 63]) (hp' := hp) rfl ?_
    refine Y_iald (a := 2) (by omega) (by decide) hk rfl hS ?_
    refine Y_call hk rfl (as := [.ref 63, yi 0, yi (S 2)]) (rest := []) (v := some (yi (cst S 0 (S 2)))) rfl rfl (Nat.le_of_ble_eq_true rfl) (rcv0 hM) (Nat.le_of_ble_eq_true rfl) (c_X9_tellsAhead (b := 0) (u := (S 2)) (v := v) hM hS hz h0 h1 hA0 (by omega) (by omega) (hd := by omega)) (fun H9 r10 => ?_)
    obtain ⟨A_H9, e_H9, a_H9, f_H9⟩ := r10
    refine E_run hk 14 (j' := 26) (lv' := [(3, .long ((31 * ((31 * x0) + ((iN (cst S 0 (S 2))).toInt64))) + ((iN (cst S 0 (S 2))).toInt64))), (5, yi (cst S 0 (S 2))), (0, .ref 63), (1, .long x0)]) (st' := [.ref 63]) (hp' := H9) rfl ?_
    refine Y_callE hk rfl (as := [.ref 63]) (rest := []) rfl rfl (Nat.le_of_ble_eq_true rfl) (rcv0 (f_H9.at (by decide) hM)) (Nat.le_of_ble_eq_true rfl) (c_X9_holdMany (v := v) (f_H9.at (by decide) hM) (f_H9.at (by decide) hS) hz h0 h1 (f_H9.at (by decide) hA) (f_H9.at (by decide) hW) (f_H9.at (by decide) hp1) (f_H9.at (by decide) hp2) (hd := by omega)) (fun z11 H12 r13 => ?_)
    obtain ⟨c_H12, A_H12, W_H12, P_H12, Q_H12, e_H12, a_H12, w_H12, p_H12, q_H12, m_H12, zh_H12, f_H12⟩ := r13
    obtain ⟨mc1_H12, mc2_H12, -⟩ := mtc_rng m_H12 (by omega)
    have hr_H12 := hld_rng P_H12 Q_H12 (c_H12 - 1).toNat
    refine E_run hk 7 (j' := 34) (lv' := [(6, yi z11), (3, .long ((31 * ((31 * x0) + ((iN (cst S 0 (S 2))).toInt64))) + ((iN (cst S 0 (S 2))).toInt64))), (5, yi (cst S 0 (S 2))), (0, .ref 63), (1, .long x0)]) (st' := [.ref 63, .long (31 * ((31 * ((31 * x0) + ((iN (cst S 0 (S 2))).toInt64))) + ((iN (cst S 0 (S 2))).toInt64))), .long 31, .long 31]) (hp' := H12) rfl ?_
    refine E_get (v := yi c_H12) hk rfl e_H12 rfl ?_
    refine E_run hk 8 (j' := 43) (lv' := [(6, yi z11), (3, .long ((31 * ((31 * x0) + ((iN (cst S 0 (S 2))).toInt64))) + ((iN (cst S 0 (S 2))).toInt64))), (5, yi (cst S 0 (S 2))), (0, .ref 63), (1, .long x0)]) (st' := [.ref 63, .long (31 * ((31 * ((31 * ((31 * ((31 * x0) + ((iN (cst S 0 (S 2))).toInt64))) + ((iN (cst S 0 (S 2))).toInt64))) + ((iN c_H12).toInt64))) + ((iN z11).toInt64)))]) (hp' := H12) rfl ?_
    refine Y_call hk rfl (as := [.ref 63]) (rest := [.long (31 * ((31 * ((31 * ((31 * ((31 * x0) + ((iN (cst S 0 (S 2))).toInt64))) + ((iN (cst S 0 (S 2))).toInt64))) + ((iN c_H12).toInt64))) + ((iN z11).toInt64)))]) (v := some (yi (if 0 < S 0 ∧ 0 < S 1 ∧ -S 2 ≤ S 0 - S 1 ∧ S 0 - S 1 ≤ S 2 then wy (unl S 0) (S 3) (S 2) (S 0) (S 1) 0 0 else 0))) rfl rfl (Nat.le_of_ble_eq_true rfl) (rcv0 e_H12) (Nat.le_of_ble_eq_true rfl) (c_X9_waysMany (v := (vup v 20 c_H12)) e_H12 (f_H12.at (by decide) (f_H9.at (by decide) hS)) hz h0 h1 a_H12 w_H12 (hd := by omega)) (fun H14 r15 => ?_)
    obtain ⟨A_H14, W_H14, e_H14, w_H14, f_H14⟩ := r15
    refine E_run hk 8 (j' := 52) (lv' := [(3, .long ((31 * ((31 * ((31 * ((31 * ((31 * x0) + ((iN (cst S 0 (S 2))).toInt64))) + ((iN (cst S 0 (S 2))).toInt64))) + ((iN c_H12).toInt64))) + ((iN z11).toInt64))) + ((iN (if 0 < S 0 ∧ 0 < S 1 ∧ -S 2 ≤ S 0 - S 1 ∧ S 0 - S 1 ≤ S 2 then wy (unl S 0) (S 3) (S 2) (S 0) (S 1) 0 0 else 0)).toInt64))), (6, yi z11), (5, yi (cst S 0 (S 2))), (0, .ref 63), (1, .long x0)]) (st' := [.ref 63, .long (31 * ((31 * ((31 * ((31 * ((31 * ((31 * x0) + ((iN (cst S 0 (S 2))).toInt64))) + ((iN (cst S 0 (S 2))).toInt64))) + ((iN c_H12).toInt64))) + ((iN z11).toInt64))) + ((iN (if 0 < S 0 ∧ 0 < S 1 ∧ -S 2 ≤ S 0 - S 1 ∧ S 0 - S 1 ≤ S 2 then wy (unl S 0) (S 3) (S 2) (S 0) (S 1) 0 0 else 0)).toInt64))), .long 31]) (hp' := H14) rfl ?_
    refine Y_call hk rfl (as := [.ref 63]) (rest := [.long (31 * ((31 * ((31 * ((31 * ((31 * ((31 * x0) + ((iN (cst S 0 (S 2))).toInt64))) + ((iN (cst S 0 (S 2))).toInt64))) + ((iN c_H12).toInt64))) + ((iN z11).toInt64))) + ((iN (if 0 < S 0 ∧ 0 < S 1 ∧ -S 2 ≤ S 0 - S 1 ∧ S 0 - S 1 ≤ S 2 then wy (unl S 0) (S 3) (S 2) (S 0) (S 1) 0 0 else 0)).toInt64))), .long 31]) (v := some (yi ((shb (fun x => cst S x (S 2)) 12).1))) rfl rfl (Nat.le_of_ble_eq_true rfl) (rcv0 (f_H14.at (by decide) e_H12)) (Nat.le_of_ble_eq_true rfl) (c_X9_shiftBest (v := (vup v 20 c_H12)) (f_H14.at (by decide) e_H12) (f_H14.at (by decide) (f_H12.at (by decide) (f_H9.at (by decide) hS))) hz h0 h1 (f_H14.at (by decide) (f_H12.at (by decide) e_H9)) (hd := by omega)) (fun H16 r17 => ?_)
    obtain ⟨A_H16, e_H16, f_H16⟩ := r17
    refine E_run hk 4 (j' := 57) (lv' := [(3, .long ((31 * ((31 * ((31 * ((31 * ((31 * x0) + ((iN (cst S 0 (S 2))).toInt64))) + ((iN (cst S 0 (S 2))).toInt64))) + ((iN c_H12).toInt64))) + ((iN z11).toInt64))) + ((iN (if 0 < S 0 ∧ 0 < S 1 ∧ -S 2 ≤ S 0 - S 1 ∧ S 0 - S 1 ≤ S 2 then wy (unl S 0) (S 3) (S 2) (S 0) (S 1) 0 0 else 0)).toInt64))), (6, yi z11), (5, yi (cst S 0 (S 2))), (0, .ref 63), (1, .long x0)]) (st' := [.ref 63, .long (31 * ((31 * ((31 * ((31 * ((31 * ((31 * ((31 * x0) + ((iN (cst S 0 (S 2))).toInt64))) + ((iN (cst S 0 (S 2))).toInt64))) + ((iN c_H12).toInt64))) + ((iN z11).toInt64))) + ((iN (if 0 < S 0 ∧ 0 < S 1 ∧ -S 2 ≤ S 0 - S 1 ∧ S 0 - S 1 ≤ S 2 then wy (unl S 0) (S 3) (S 2) (S 0) (S 1) 0 0 else 0)).toInt64))) + ((iN ((shb (fun x => cst S x (S 2)) 12).1)).toInt64)))]) (hp' := H16) rfl ?_
    refine Y_callE hk rfl (as := [.ref 63]) (rest := [.long (31 * ((31 * ((31 * ((31 * ((31 * ((31 * ((31 * x0) + ((iN (cst S 0 (S 2))).toInt64))) + ((iN (cst S 0 (S 2))).toInt64))) + ((iN c_H12).toInt64))) + ((iN z11).toInt64))) + ((iN (if 0 < S 0 ∧ 0 < S 1 ∧ -S 2 ≤ S 0 - S 1 ∧ S 0 - S 1 ≤ S 2 then wy (unl S 0) (S 3) (S 2) (S 0) (S 1) 0 0 else 0)).toInt64))) + ((iN ((shb (fun x => cst S x (S 2)) 12).1)).toInt64)))]) rfl rfl (Nat.le_of_ble_eq_true rfl) (rcv0 (f_H16.at (by decide) (f_H14.at (by decide) e_H12))) (Nat.le_of_ble_eq_true rfl) (c_X9_needs (v := (vup v 20 c_H12)) (f_H16.at (by decide) (f_H14.at (by decide) e_H12)) (f_H16.at (by decide) (f_H14.at (by decide) (f_H12.at (by decide) (f_H9.at (by decide) hS)))) hz h0 h1 e_H16 (hd := by omega)) (fun z18 H19 r20 => ?_)
    obtain ⟨z1_H19, z2_H19, z3_H19, z4_H19, A_H19, e_H19, f_H19⟩ := r20
    refine E_run hk 4 (j' := 62) (lv' := [(3, .long ((31 * ((31 * ((31 * ((31 * ((31 * ((31 * ((31 * x0) + ((iN (cst S 0 (S 2))).toInt64))) + ((iN (cst S 0 (S 2))).toInt64))) + ((iN c_H12).toInt64))) + ((iN z11).toInt64))) + ((iN (if 0 < S 0 ∧ 0 < S 1 ∧ -S 2 ≤ S 0 - S 1 ∧ S 0 - S 1 ≤ S 2 then wy (unl S 0) (S 3) (S 2) (S 0) (S 1) 0 0 else 0)).toInt64))) + ((iN ((shb (fun x => cst S x (S 2)) 12).1)).toInt64))) + ((iN z18).toInt64))), (6, yi z11), (5, yi (cst S 0 (S 2))), (0, .ref 63), (1, .long x0)]) (st' := [.ref 63]) (hp' := H19) rfl ?_
    refine Y_callP hk rfl (as := [.ref 63]) (rest := []) (v := some (yi (b2 (S 0 = 0 ∨ S 1 = 0)))) rfl rfl (Nat.le_of_ble_eq_true rfl) (rcv0 (f_H19.at (by decide) (f_H16.at (by decide) (f_H14.at (by decide) e_H12)))) (Nat.le_of_ble_eq_true rfl) (c_X9_isBare (v := (vup v 20 c_H12)) (f_H19.at (by decide) (f_H16.at (by decide) (f_H14.at (by decide) e_H12))) (f_H19.at (by decide) (f_H16.at (by decide) (f_H14.at (by decide) (f_H12.at (by decide) (f_H9.at (by decide) hS))))) (by omega) (hd := by omega)) ?_
    refine Y_b_ne hk rfl (fun g21 => ?_) (fun g21 => ?_)
    ·
      refine E_run hk 4 (j' := 88) (lv' := [(3, .long ((31 * ((31 * ((31 * ((31 * ((31 * ((31 * ((31 * x0) + ((iN (cst S 0 (S 2))).toInt64))) + ((iN (cst S 0 (S 2))).toInt64))) + ((iN c_H12).toInt64))) + ((iN z11).toInt64))) + ((iN (if 0 < S 0 ∧ 0 < S 1 ∧ -S 2 ≤ S 0 - S 1 ∧ S 0 - S 1 ≤ S 2 then wy (unl S 0) (S 3) (S 2) (S 0) (S 1) 0 0 else 0)).toInt64))) + ((iN ((shb (fun x => cst S x (S 2)) 12).1)).toInt64))) + ((iN z18).toInt64))), (6, yi z11), (5, yi (cst S 0 (S 2))), (0, .ref 63), (1, .long x0)]) (st' := [.ref 63, .long (31 * ((31 * ((31 * ((31 * ((31 * ((31 * ((31 * ((31 * x0) + ((iN (cst S 0 (S 2))).toInt64))) + ((iN (cst S 0 (S 2))).toInt64))) + ((iN c_H12).toInt64))) + ((iN z11).toInt64))) + ((iN (if 0 < S 0 ∧ 0 < S 1 ∧ -S 2 ≤ S 0 - S 1 ∧ S 0 - S 1 ≤ S 2 then wy (unl S 0) (S 3) (S 2) (S 0) (S 1) 0 0 else 0)).toInt64))) + ((iN ((shb (fun x => cst S x (S 2)) 12).1)).toInt64))) + ((iN z18).toInt64)))]) (hp' := H19) rfl ?_
      refine E_get (v := yi (v 3)) hk rfl (f_H19.at (by decide) (f_H16.at (by decide) (f_H14.at (by decide) e_H12))) rfl ?_
      refine E_run hk 2 (j' := 91) (lv' := [(3, .long ((31 * ((31 * ((31 * ((31 * ((31 * ((31 * ((31 * x0) + ((iN (cst S 0 (S 2))).toInt64))) + ((iN (cst S 0 (S 2))).toInt64))) + ((iN c_H12).toInt64))) + ((iN z11).toInt64))) + ((iN (if 0 < S 0 ∧ 0 < S 1 ∧ -S 2 ≤ S 0 - S 1 ∧ S 0 - S 1 ≤ S 2 then wy (unl S 0) (S 3) (S 2) (S 0) (S 1) 0 0 else 0)).toInt64))) + ((iN ((shb (fun x => cst S x (S 2)) 12).1)).toInt64))) + ((iN z18).toInt64))), (6, yi z11), (5, yi (cst S 0 (S 2))), (0, .ref 63), (1, .long x0)]) (st' := [.long ((31 * ((31 * ((31 * ((31 * ((31 * ((31 * ((31 * ((31 * x0) + ((iN (cst S 0 (S 2))).toInt64))) + ((iN (cst S 0 (S 2))).toInt64))) + ((iN c_H12).toInt64))) + ((iN z11).toInt64))) + ((iN (if 0 < S 0 ∧ 0 < S 1 ∧ -S 2 ≤ S 0 - S 1 ∧ S 0 - S 1 ≤ S 2 then wy (unl S 0) (S 3) (S 2) (S 0) (S 1) 0 0 else 0)).toInt64))) + ((iN ((shb (fun x => cst S x (S 2)) 12).1)).toInt64))) + ((iN z18).toInt64))) + ((iN (v 3)).toInt64))]) (hp' := H19) rfl ?_
      exact E_ret hk rfl rfl ⟨_, rfl, c_H12, z18, P_H12, Q_H12, fun _ => ⟨m_H12, z1_H19, z2_H19, z3_H19, z4_H19⟩, by rw [← zh_H12]; unfold hct; rw [hc1_t (by omega)]; first | (rw [hc2_t (by omega)]; rfl) | (rw [hc2_f (by omega)]; rfl), ⟨c_H12, (v 21), (f_H19.at (by decide) (f_H16.at (by decide) (f_H14.at (by decide) e_H12)))⟩, ⟨_, e_H19⟩, ⟨_, (f_H19.at (by decide) (f_H16.at (by decide) e_H14))⟩, ⟨_, (f_H19.at (by decide) (f_H16.at (by decide) w_H14))⟩, ⟨_, (f_H19.at (by decide) (f_H16.at (by decide) (f_H14.at (by decide) (f_H12.at (by decide) (f_H9.at (by decide) hA3)))))⟩, ⟨_, (f_H19.at (by decide) (f_H16.at (by decide) (f_H14.at (by decide) p_H12)))⟩, ⟨_, (f_H19.at (by decide) (f_H16.at (by decide) (f_H14.at (by decide) q_H12)))⟩, (yfr.tr (yfr.tr (yfr.tr (yfr.tr (f_H9.mono (by decide)) f_H12 (fun _ h => h) (by decide)) f_H14 (fun _ h => h) (by decide)) f_H16 (fun _ h => h) (by decide)) f_H19 (fun _ h => h) (by decide))⟩
    ·
      refine E_run hk 6 (j' := 70) (lv' := [(3, .long ((31 * ((31 * ((31 * ((31 * ((31 * ((31 * ((31 * x0) + ((iN (cst S 0 (S 2))).toInt64))) + ((iN (cst S 0 (S 2))).toInt64))) + ((iN c_H12).toInt64))) + ((iN z11).toInt64))) + ((iN (if 0 < S 0 ∧ 0 < S 1 ∧ -S 2 ≤ S 0 - S 1 ∧ S 0 - S 1 ≤ S 2 then wy (unl S 0) (S 3) (S 2) (S 0) (S 1) 0 0 else 0)).toInt64))) + ((iN ((shb (fun x => cst S x (S 2)) 12).1)).toInt64))) + ((iN z18).toInt64))), (6, yi z11), (5, yi (cst S 0 (S 2))), (0, .ref 63), (1, .long x0)]) (st' := [.ref 63, .long (31 * ((31 * ((31 * ((31 * ((31 * ((31 * ((31 * ((31 * x0) + ((iN (cst S 0 (S 2))).toInt64))) + ((iN (cst S 0 (S 2))).toInt64))) + ((iN c_H12).toInt64))) + ((iN z11).toInt64))) + ((iN (if 0 < S 0 ∧ 0 < S 1 ∧ -S 2 ≤ S 0 - S 1 ∧ S 0 - S 1 ≤ S 2 then wy (unl S 0) (S 3) (S 2) (S 0) (S 1) 0 0 else 0)).toInt64))) + ((iN ((shb (fun x => cst S x (S 2)) 12).1)).toInt64))) + ((iN z18).toInt64))), .long 31, .long 31]) (hp' := H19) rfl ?_
      refine Y_call hk rfl (as := [.ref 63]) (rest := [.long (31 * ((31 * ((31 * ((31 * ((31 * ((31 * ((31 * ((31 * x0) + ((iN (cst S 0 (S 2))).toInt64))) + ((iN (cst S 0 (S 2))).toInt64))) + ((iN c_H12).toInt64))) + ((iN z11).toInt64))) + ((iN (if 0 < S 0 ∧ 0 < S 1 ∧ -S 2 ≤ S 0 - S 1 ∧ S 0 - S 1 ≤ S 2 then wy (unl S 0) (S 3) (S 2) (S 0) (S 1) 0 0 else 0)).toInt64))) + ((iN ((shb (fun x => cst S x (S 2)) 12).1)).toInt64))) + ((iN z18).toInt64))), .long 31, .long 31]) (v := some (yi (pc (unl S 0) (S 3) (S 0 - 1) (pend S)))) rfl rfl (Nat.le_of_ble_eq_true rfl) (rcv0 (f_H19.at (by decide) (f_H16.at (by decide) (f_H14.at (by decide) e_H12)))) (Nat.le_of_ble_eq_true rfl) (c_X9_tellsParts (v := (vup v 20 c_H12)) (f_H19.at (by decide) (f_H16.at (by decide) (f_H14.at (by decide) e_H12))) (f_H19.at (by decide) (f_H16.at (by decide) (f_H14.at (by decide) (f_H12.at (by decide) (f_H9.at (by decide) hS))))) hz h0 h1 (by omega) e_H19 (f_H19.at (by decide) (f_H16.at (by decide) (f_H14.at (by decide) (f_H12.at (by decide) (f_H9.at (by decide) hA3))))) (hd := by omega)) (fun H22 r23 => ?_)
      obtain ⟨A_H22, B_H22, e_H22, a_H22, b_H22, m_H22, f_H22⟩ := r23
      refine E_run hk 4 (j' := 75) (lv' := [(3, .long ((31 * ((31 * ((31 * ((31 * ((31 * ((31 * ((31 * x0) + ((iN (cst S 0 (S 2))).toInt64))) + ((iN (cst S 0 (S 2))).toInt64))) + ((iN c_H12).toInt64))) + ((iN z11).toInt64))) + ((iN (if 0 < S 0 ∧ 0 < S 1 ∧ -S 2 ≤ S 0 - S 1 ∧ S 0 - S 1 ≤ S 2 then wy (unl S 0) (S 3) (S 2) (S 0) (S 1) 0 0 else 0)).toInt64))) + ((iN ((shb (fun x => cst S x (S 2)) 12).1)).toInt64))) + ((iN z18).toInt64))), (6, yi z11), (5, yi (cst S 0 (S 2))), (0, .ref 63), (1, .long x0)]) (st' := [.ref 63, .long (31 * ((31 * ((31 * ((31 * ((31 * ((31 * ((31 * ((31 * ((31 * x0) + ((iN (cst S 0 (S 2))).toInt64))) + ((iN (cst S 0 (S 2))).toInt64))) + ((iN c_H12).toInt64))) + ((iN z11).toInt64))) + ((iN (if 0 < S 0 ∧ 0 < S 1 ∧ -S 2 ≤ S 0 - S 1 ∧ S 0 - S 1 ≤ S 2 then wy (unl S 0) (S 3) (S 2) (S 0) (S 1) 0 0 else 0)).toInt64))) + ((iN ((shb (fun x => cst S x (S 2)) 12).1)).toInt64))) + ((iN z18).toInt64))) + ((iN (pc (unl S 0) (S 3) (S 0 - 1) (pend S))).toInt64))), .long 31]) (hp' := H22) rfl ?_
      refine Y_call hk rfl (as := [.ref 63]) (rest := [.long (31 * ((31 * ((31 * ((31 * ((31 * ((31 * ((31 * ((31 * ((31 * x0) + ((iN (cst S 0 (S 2))).toInt64))) + ((iN (cst S 0 (S 2))).toInt64))) + ((iN c_H12).toInt64))) + ((iN z11).toInt64))) + ((iN (if 0 < S 0 ∧ 0 < S 1 ∧ -S 2 ≤ S 0 - S 1 ∧ S 0 - S 1 ≤ S 2 then wy (unl S 0) (S 3) (S 2) (S 0) (S 1) 0 0 else 0)).toInt64))) + ((iN ((shb (fun x => cst S x (S 2)) 12).1)).toInt64))) + ((iN z18).toInt64))) + ((iN (pc (unl S 0) (S 3) (S 0 - 1) (pend S))).toInt64))), .long 31]) (v := some (yi (pb (unl S 0) (S 3) (S 0 - 1) (pend S)))) rfl rfl (Nat.le_of_ble_eq_true rfl) (rcv0 e_H22) (Nat.le_of_ble_eq_true rfl) (c_X9_partBegins (v := (vup (vup v 20 c_H12) 21 (pend S))) e_H22 (f_H22.at (by decide) (f_H19.at (by decide) (f_H16.at (by decide) (f_H14.at (by decide) (f_H12.at (by decide) (f_H9.at (by decide) hS)))))) hz h0 h1 (by omega) a_H22 b_H22 (hd := by omega)) (fun H24 r25 => ?_)
      obtain ⟨A_H24, B_H24, e_H24, a_H24, b_H24, f_H24⟩ := r25
      refine E_run hk 4 (j' := 80) (lv' := [(3, .long ((31 * ((31 * ((31 * ((31 * ((31 * ((31 * ((31 * x0) + ((iN (cst S 0 (S 2))).toInt64))) + ((iN (cst S 0 (S 2))).toInt64))) + ((iN c_H12).toInt64))) + ((iN z11).toInt64))) + ((iN (if 0 < S 0 ∧ 0 < S 1 ∧ -S 2 ≤ S 0 - S 1 ∧ S 0 - S 1 ≤ S 2 then wy (unl S 0) (S 3) (S 2) (S 0) (S 1) 0 0 else 0)).toInt64))) + ((iN ((shb (fun x => cst S x (S 2)) 12).1)).toInt64))) + ((iN z18).toInt64))), (6, yi z11), (5, yi (cst S 0 (S 2))), (0, .ref 63), (1, .long x0)]) (st' := [.ref 63, .long (31 * ((31 * ((31 * ((31 * ((31 * ((31 * ((31 * ((31 * ((31 * ((31 * x0) + ((iN (cst S 0 (S 2))).toInt64))) + ((iN (cst S 0 (S 2))).toInt64))) + ((iN c_H12).toInt64))) + ((iN z11).toInt64))) + ((iN (if 0 < S 0 ∧ 0 < S 1 ∧ -S 2 ≤ S 0 - S 1 ∧ S 0 - S 1 ≤ S 2 then wy (unl S 0) (S 3) (S 2) (S 0) (S 1) 0 0 else 0)).toInt64))) + ((iN ((shb (fun x => cst S x (S 2)) 12).1)).toInt64))) + ((iN z18).toInt64))) + ((iN (pc (unl S 0) (S 3) (S 0 - 1) (pend S))).toInt64))) + ((iN (pb (unl S 0) (S 3) (S 0 - 1) (pend S))).toInt64)))]) (hp' := H24) rfl ?_
      refine Y_call hk rfl (as := [.ref 63]) (rest := [.long (31 * ((31 * ((31 * ((31 * ((31 * ((31 * ((31 * ((31 * ((31 * ((31 * x0) + ((iN (cst S 0 (S 2))).toInt64))) + ((iN (cst S 0 (S 2))).toInt64))) + ((iN c_H12).toInt64))) + ((iN z11).toInt64))) + ((iN (if 0 < S 0 ∧ 0 < S 1 ∧ -S 2 ≤ S 0 - S 1 ∧ S 0 - S 1 ≤ S 2 then wy (unl S 0) (S 3) (S 2) (S 0) (S 1) 0 0 else 0)).toInt64))) + ((iN ((shb (fun x => cst S x (S 2)) 12).1)).toInt64))) + ((iN z18).toInt64))) + ((iN (pc (unl S 0) (S 3) (S 0 - 1) (pend S))).toInt64))) + ((iN (pb (unl S 0) (S 3) (S 0 - 1) (pend S))).toInt64)))]) (v := some (yi (pend S))) rfl rfl (Nat.le_of_ble_eq_true rfl) (rcv0 e_H24) (Nat.le_of_ble_eq_true rfl) (c_X9_partEndsAt (v := (vup (vup (vup v 20 c_H12) 21 (pend S)) 21 (pend S))) e_H24 (f_H24.at (by decide) (f_H22.at (by decide) (f_H19.at (by decide) (f_H16.at (by decide) (f_H14.at (by decide) (f_H12.at (by decide) (f_H9.at (by decide) hS))))))) hz h0 h1 (by omega) a_H24 b_H24 (hd := by omega)) (fun H26 r27 => ?_)
      obtain ⟨A_H26, B_H26, e_H26, a_H26, b_H26, f_H26⟩ := r27
      refine E_run hk 7 (j' := 88) (lv' := [(3, .long ((31 * ((31 * ((31 * ((31 * ((31 * ((31 * ((31 * ((31 * ((31 * ((31 * x0) + ((iN (cst S 0 (S 2))).toInt64))) + ((iN (cst S 0 (S 2))).toInt64))) + ((iN c_H12).toInt64))) + ((iN z11).toInt64))) + ((iN (if 0 < S 0 ∧ 0 < S 1 ∧ -S 2 ≤ S 0 - S 1 ∧ S 0 - S 1 ≤ S 2 then wy (unl S 0) (S 3) (S 2) (S 0) (S 1) 0 0 else 0)).toInt64))) + ((iN ((shb (fun x => cst S x (S 2)) 12).1)).toInt64))) + ((iN z18).toInt64))) + ((iN (pc (unl S 0) (S 3) (S 0 - 1) (pend S))).toInt64))) + ((iN (pb (unl S 0) (S 3) (S 0 - 1) (pend S))).toInt64))) + ((iN (pend S)).toInt64))), (6, yi z11), (5, yi (cst S 0 (S 2))), (0, .ref 63), (1, .long x0)]) (st' := [.ref 63, .long (31 * ((31 * ((31 * ((31 * ((31 * ((31 * ((31 * ((31 * ((31 * ((31 * ((31 * x0) + ((iN (cst S 0 (S 2))).toInt64))) + ((iN (cst S 0 (S 2))).toInt64))) + ((iN c_H12).toInt64))) + ((iN z11).toInt64))) + ((iN (if 0 < S 0 ∧ 0 < S 1 ∧ -S 2 ≤ S 0 - S 1 ∧ S 0 - S 1 ≤ S 2 then wy (unl S 0) (S 3) (S 2) (S 0) (S 1) 0 0 else 0)).toInt64))) + ((iN ((shb (fun x => cst S x (S 2)) 12).1)).toInt64))) + ((iN z18).toInt64))) + ((iN (pc (unl S 0) (S 3) (S 0 - 1) (pend S))).toInt64))) + ((iN (pb (unl S 0) (S 3) (S 0 - 1) (pend S))).toInt64))) + ((iN (pend S)).toInt64)))]) (hp' := H26) rfl ?_
      refine E_get (v := yi (v 3)) hk rfl e_H26 rfl ?_
      refine E_run hk 2 (j' := 91) (lv' := [(3, .long ((31 * ((31 * ((31 * ((31 * ((31 * ((31 * ((31 * ((31 * ((31 * ((31 * x0) + ((iN (cst S 0 (S 2))).toInt64))) + ((iN (cst S 0 (S 2))).toInt64))) + ((iN c_H12).toInt64))) + ((iN z11).toInt64))) + ((iN (if 0 < S 0 ∧ 0 < S 1 ∧ -S 2 ≤ S 0 - S 1 ∧ S 0 - S 1 ≤ S 2 then wy (unl S 0) (S 3) (S 2) (S 0) (S 1) 0 0 else 0)).toInt64))) + ((iN ((shb (fun x => cst S x (S 2)) 12).1)).toInt64))) + ((iN z18).toInt64))) + ((iN (pc (unl S 0) (S 3) (S 0 - 1) (pend S))).toInt64))) + ((iN (pb (unl S 0) (S 3) (S 0 - 1) (pend S))).toInt64))) + ((iN (pend S)).toInt64))), (6, yi z11), (5, yi (cst S 0 (S 2))), (0, .ref 63), (1, .long x0)]) (st' := [.long ((31 * ((31 * ((31 * ((31 * ((31 * ((31 * ((31 * ((31 * ((31 * ((31 * ((31 * x0) + ((iN (cst S 0 (S 2))).toInt64))) + ((iN (cst S 0 (S 2))).toInt64))) + ((iN c_H12).toInt64))) + ((iN z11).toInt64))) + ((iN (if 0 < S 0 ∧ 0 < S 1 ∧ -S 2 ≤ S 0 - S 1 ∧ S 0 - S 1 ≤ S 2 then wy (unl S 0) (S 3) (S 2) (S 0) (S 1) 0 0 else 0)).toInt64))) + ((iN ((shb (fun x => cst S x (S 2)) 12).1)).toInt64))) + ((iN z18).toInt64))) + ((iN (pc (unl S 0) (S 3) (S 0 - 1) (pend S))).toInt64))) + ((iN (pb (unl S 0) (S 3) (S 0 - 1) (pend S))).toInt64))) + ((iN (pend S)).toInt64))) + ((iN (v 3)).toInt64))]) (hp' := H26) rfl ?_
      exact E_ret hk rfl rfl ⟨_, rfl, c_H12, z18, P_H12, Q_H12, fun _ => ⟨m_H12, z1_H19, z2_H19, z3_H19, z4_H19⟩, by rw [← zh_H12]; unfold hct; rw [hc1_t (by omega)]; first | (rw [hc2_t (by omega)]; rfl) | (rw [hc2_f (by omega)]; rfl), ⟨c_H12, (pend S), e_H26⟩, ⟨_, a_H26⟩, ⟨_, (f_H26.at (by decide) (f_H24.at (by decide) (f_H22.at (by decide) (f_H19.at (by decide) (f_H16.at (by decide) e_H14)))))⟩, ⟨_, (f_H26.at (by decide) (f_H24.at (by decide) (f_H22.at (by decide) (f_H19.at (by decide) (f_H16.at (by decide) w_H14)))))⟩, ⟨_, b_H26⟩, ⟨_, (f_H26.at (by decide) (f_H24.at (by decide) (f_H22.at (by decide) (f_H19.at (by decide) (f_H16.at (by decide) (f_H14.at (by decide) p_H12))))))⟩, ⟨_, (f_H26.at (by decide) (f_H24.at (by decide) (f_H22.at (by decide) (f_H19.at (by decide) (f_H16.at (by decide) (f_H14.at (by decide) q_H12))))))⟩, (yfr.tr (yfr.tr (yfr.tr (yfr.tr (yfr.tr (yfr.tr (yfr.tr (f_H9.mono (by decide)) f_H12 (fun _ h => h) (by decide)) f_H14 (fun _ h => h) (by decide)) f_H16 (fun _ h => h) (by decide)) f_H19 (fun _ h => h) (by decide)) f_H22 (fun _ h => h) (by decide)) f_H24 (fun _ h => h) (by decide)) f_H26 (fun _ h => h) (by decide))⟩
theorem fp_cmp0 : ∀ a : Fin 41, ∀ b : Fin 41, 1 ≤ b.val → Op.cmpValue (FP.dcmp (FP.ddiv (FP.i2d (iN (a.val : Int))) (FP.i2d (iN (b.val : Int)))) (FP.ddiv (FP.i2d (iN (a.val : Int))) (FP.i2d (iN (b.val : Int))))) .l = iN 0 := by decide +kernel
theorem shv_cmp {c e : Int} (h : 0 ≤ e ∧ e ≤ c ∧ c ≤ 40) : Op.cmpValue (FP.dcmp (shv c e) (shv c e)) .l = iN 0 := by
  unfold shv
  by_cases q : c ≤ 0
  · rw [if_pos q]
    decide +kernel
  · rw [if_neg q]
    have w := fp_cmp0 ⟨(c - e).toNat, by omega⟩ ⟨c.toNat, by omega⟩ (by show 1 ≤ c.toNat; omega)
    have e1 : (((c - e).toNat : Nat) : Int) = c - e := by omega
    have e2 : ((c.toNat : Nat) : Int) = c := by omega
    dsimp only at w
    rw [e1, e2] at w
    exact w
def hdn (S : Int → Int) (t : Int) (h : Int64) : Int64 := hsf (fun k => S (7 + 20 * t + k)) (hx h (S (0 + t))) (S (0 + t)).toNat
def hd0 (S : Int → Int) : Int64 := hx (hx (hx (hx (hx (hdn S 1 (hdn S 0 4547)) (S 2)) (S 3)) (S 4)) (ris (fun q => S (7 + q)) (S 0 - 1).toNat + ris (fun q => S (27 + q)) (S 1 - 1).toNat)) (if 0 < S 0 ∧ 0 < S 1 ∧ -S 2 ≤ S 0 - S 1 ∧ S 0 - S 1 ≤ S 2 then 1 else 0)
def hds (S : Int → Int) (h : Int64) : Int64 := if S 5 = -1 then hx h 0 else hx (hx (hx h 1) (S 5)) (S 6)
def hdz (S X : Int → Int) (b : Int64) (L : Int) (h : Int64) : Int64 := hsf X (hx (31 * hds S h + b) L) L.toNat
theorem c_Jxe99ae_isNaN_b9ae7 {d : Nat} {hp : xH} {x : UInt64} (hx0 : Op.cmpValue (FP.dcmp x x) .l = iN 0) : Cv d 250 [.double x] hp (yP (some (yi 0)) hp) := by
  have hk : xtab 250 = (xc_250, 2, 2, []) := rfl
  show Ev d 250 0 [(0, .double x)] [] hp _
  refine E_run hk 2 (j' := 2) (lv' := [(0, .double x)]) (st' := [.double x, .double x]) (hp' := hp) rfl ?_
  refine Y_dcmp (x := x) (y := x) (z := 0) (hx0) hk rfl ?_
  refine Y_if_eq (a := 0) (by omega) hk rfl (fun g1 => ?_) (fun g1 => ?_)
  ·
    refine E_run hk 1 (j' := 7) (lv' := [(0, .double x)]) (st' := [yi 0]) (hp' := hp) rfl ?_
    exact E_ret hk rfl rfl ⟨rfl, rfl⟩
  · exfalso; omega
theorem c_Jxe99ae_doubleToLongBits_ccdee {d : Nat} {hp : xH} {x : UInt64} (hx0 : Op.cmpValue (FP.dcmp x x) .l = iN 0) (hd : 1 ≤ d) : Cv d 251 [.double x] hp (yP (some (.long x.toInt64)) hp) := by
  have hk : xtab 251 = (xc_251, 2, 3, []) := rfl
  obtain ⟨d, rfl⟩ : ∃ e, d = e + 1 := ⟨d - 1, by omega⟩
  show Ev (d + 1) 251 0 [(0, .double x)] [] hp _
  refine E_run hk 1 (j' := 1) (lv' := [(0, .double x)]) (st' := [.double x]) (hp' := hp) rfl ?_
  refine Y_callP hk rfl (as := [.double x]) (rest := []) (v := some (yi 0)) rfl rfl (Nat.le_of_ble_eq_true rfl) rfl (Nat.le_of_ble_eq_true rfl) (c_Jxe99ae_isNaN_b9ae7 (x := x) hx0) ?_
  refine Y_if_ne (a := 0) (by omega) hk rfl (fun g1 => ?_) (fun g1 => ?_)
  · exfalso; omega
  ·
    refine E_run hk 1 (j' := 4) (lv' := [(0, .double x)]) (st' := [.double x]) (hp' := hp) rfl ?_
    refine E_step hk rfl (by decide) (by decide) (by decide) (show xstp _ 6 _ _ _ _ _ _ _ = some (5, _, .long x.toInt64 :: [], _) from rfl) ?_
    exact E_ret hk rfl rfl ⟨rfl, rfl⟩
theorem c_X9_digest {d : Nat} {hp : xH} {v : Nat → Int} (hM : xat hp 63 = some (yMo v)) {S : Int → Int} (hS : xat hp 64 = some (yI 47 S)) (hz : 0 ≤ S 0 ∧ S 0 ≤ 20 ∧ 0 ≤ S 1 ∧ S 1 ≤ 20 ∧ 0 ≤ S 2 ∧ S 2 ≤ 20 ∧ 0 ≤ S 3 ∧ S 3 ≤ 50 ∧ 0 ≤ S 4 ∧ S 4 ≤ 3) (h0 : ∀ q, 0 ≤ q → q < S 0 → 0 ≤ S (7 + q) ∧ S (7 + q) ≤ 60) (h1 : ∀ q, 0 ≤ q → q < S 1 → 0 ≤ S (27 + q) ∧ S (27 + q) ≤ 60) {f W : Int → Int} (hA : xat hp 71 = some (yI 400 f)) (hW : xat hp 72 = some (yI 400 W)) {p q : Int → Int} (hp1 : xat hp 74 = some (yI 40 p)) (hp2 : xat hp 75 = some (yI 40 q)) {f0 : Int → Int} (hA0 : xat hp 70 = some (yI 400 f0)) {f3 : Int → Int} (hA3 : xat hp 73 = some (yI 400 f3)) {X : Int → Int} (hX : xat hp 67 = some (yI 60 X)) (h7 : 0 ≤ v 7 ∧ v 7 ≤ 60) (hs5 : -1 ≤ S 5 ∧ S 5 ≤ 60) (hpi : ∀ t q, 0 ≤ t → t ≤ 1 → 0 ≤ q → q < S (0 + t) → 0 ≤ S (7 + 20 * t + q) ∧ S (7 + 20 * t + q) ≤ 60) (hd : 7 ≤ d) : Cv d 249 [.ref 63] hp (yL (fun z h => ∃ c n p q c2 p2 q2 c3 p3 q3, (0 < S 0 ∧ 0 < S 1 ∧ -S 2 ≤ S 0 - S 1 ∧ S 0 - S 1 ≤ S 2 → mtc S c p q ∧ isneed S n) ∧ mtc S c2 p2 q2 ∧ mtc S c3 p3 q3 ∧ z = hdz S X (shv c3 (hld p3 q3 (c3 - 1).toNat)).toInt64 (v 7) (hmt S p2 q2 c2 (hct S c (hld p q (c - 1).toNat) n (v 3) (hd0 S))) ∧ (∃ e a b, xat h 63 = some (yMo (vup (vup (vup v 0 e) 20 a) 21 b))) ∧ (∃ u, xat h 70 = some (yI 400 u)) ∧ (∃ u, xat h 71 = some (yI 400 u)) ∧ (∃ u, xat h 72 = some (yI 400 u)) ∧ (∃ u, xat h 73 = some (yI 400 u)) ∧ (∃ u, xat h 74 = some (yI 40 u)) ∧ (∃ u, xat h 75 = some (yI 40 u)) ∧ yfr [63, 70, 71, 72, 73, 74, 75] hp h)) := by
  have hk : xtab 249 = (xc_249, 5, 3, []) := rfl
  obtain ⟨d, rfl⟩ : ∃ e, d = e + 1 := ⟨d - 1, by omega⟩
  have n0 : S (0 + 0) = S 0 := rfl
  have n1 : S (0 + 1) = S 1 := rfl
  show Ev (d + 1) 249 0 [(0, .ref 63)] [] hp _
  refine E_run hk 2 (j' := 2) (lv' := [(0, .ref 63)]) (st' := [yi 0, .ref 63]) (hp' := hp) rfl ?_
  refine Y_put hk rfl hM (by decide) (Nat.le_of_ble_eq_true rfl) rfl (fs' := [yi 0, .ref 64, .ref 65, yi (v 3), .ref 66, yi (v 5), .ref 67, yi (v 7), yi (v 8), yi (v 9), .ref 68, yi (v 11), .ref 69, yi (v 13), .ref 70, .ref 71, .ref 72, .ref 73, .ref 74, .ref 75, yi (v 20), yi (v 21)]) rfl (fun H1 e2 f3 => ?_)
  refine E_run hk 4 (j' := 7) (lv' := [(3, yi 0), (1, .long 4547), (0, .ref 63)]) (st' := []) (hp' := H1) rfl ?_
  have loop7 : ∀ (N : Nat) (t : Int) (x : Int64), (0 ≤ t ∧ t ≤ 2) → ((t = 0 ∧ x = 4547) ∨ (t = 1 ∧ x = hdn S 0 4547) ∨ (t = 2 ∧ x = hdn S 1 (hdn S 0 4547))) → (2 - t).toNat = N → Ev (d + 1) 249 7 [(0, .ref 63), (1, .long x), (3, yi t)] [] H1 (yL (fun z h => ∃ c n p q c2 p2 q2 c3 p3 q3, (0 < S 0 ∧ 0 < S 1 ∧ -S 2 ≤ S 0 - S 1 ∧ S 0 - S 1 ≤ S 2 → mtc S c p q ∧ isneed S n) ∧ mtc S c2 p2 q2 ∧ mtc S c3 p3 q3 ∧ z = hdz S X (shv c3 (hld p3 q3 (c3 - 1).toNat)).toInt64 (v 7) (hmt S p2 q2 c2 (hct S c (hld p q (c - 1).toNat) n (v 3) (hd0 S))) ∧ (∃ e a b, xat h 63 = some (yMo (vup (vup (vup v 0 e) 20 a) 21 b))) ∧ (∃ u, xat h 70 = some (yI 400 u)) ∧ (∃ u, xat h 71 = some (yI 400 u)) ∧ (∃ u, xat h 72 = some (yI 400 u)) ∧ (∃ u, xat h 73 = some (yI 400 u)) ∧ (∃ u, xat h 74 = some (yI 40 u)) ∧ (∃ u, xat h 75 = some (yI 40 u)) ∧ yfr [63, 70, 71, 72, 73, 74, 75] hp h)) := by
    intro N
    induction N using Nat.strongRecOn with
    | ind N ih7 =>
      intro t x K1 K2 hm7
      refine E_run hk 1 (j' := 8) (lv' := [(0, .ref 63), (1, .long x), (3, yi t)]) (st' := [yi t]) (hp' := H1) rfl ?_
      refine E_run hk 1 (j' := 9) (lv' := [(0, .ref 63), (1, .long x), (3, yi t)]) (st' := [yi 2, yi t]) (hp' := H1) rfl ?_
      refine Y_ic_ge (a := t) (b := 2) (by omega) hk rfl (fun g4 => ?_) (fun g4 => ?_)
      ·
        have hN : x = hdn S 1 (hdn S 0 4547) := by rcases K2 with z | z | z <;> first | exact z.2 | (exfalso; omega)
        refine E_run hk 6 (j' := 46) (lv' := [(0, .ref 63), (1, .long x), (3, yi t)]) (st' := [.ref 63, .long (31 * x), .long 31, .long 31]) (hp' := H1) rfl ?_
        refine E_get (v := .ref 64) hk rfl e2 rfl ?_
        refine E_run hk 1 (j' := 48) (lv' := [(0, .ref 63), (1, .long x), (3, yi t)]) (st' := [yi 2, .ref 64, .long (31 * x), .long 31, .long 31]) (hp' := H1) rfl ?_
        refine Y_iald (a := 2) (by omega) (by decide) hk rfl (f3.at (by decide) hS) ?_
        refine E_run hk 4 (j' := 53) (lv' := [(0, .ref 63), (1, .long x), (3, yi t)]) (st' := [.ref 63, .long (31 * ((31 * x) + ((iN (S 2)).toInt64))), .long 31]) (hp' := H1) rfl ?_
        refine E_get (v := .ref 64) hk rfl e2 rfl ?_
        refine E_run hk 1 (j' := 55) (lv' := [(0, .ref 63), (1, .long x), (3, yi t)]) (st' := [yi 3, .ref 64, .long (31 * ((31 * x) + ((iN (S 2)).toInt64))), .long 31]) (hp' := H1) rfl ?_
        refine Y_iald (a := 3) (by omega) (by decide) hk rfl (f3.at (by decide) hS) ?_
        refine E_run hk 4 (j' := 60) (lv' := [(0, .ref 63), (1, .long x), (3, yi t)]) (st' := [.ref 63, .long (31 * ((31 * ((31 * x) + ((iN (S 2)).toInt64))) + ((iN (S 3)).toInt64)))]) (hp' := H1) rfl ?_
        refine E_get (v := .ref 64) hk rfl e2 rfl ?_
        refine E_run hk 1 (j' := 62) (lv' := [(0, .ref 63), (1, .long x), (3, yi t)]) (st' := [yi 4, .ref 64, .long (31 * ((31 * ((31 * x) + ((iN (S 2)).toInt64))) + ((iN (S 3)).toInt64)))]) (hp' := H1) rfl ?_
        refine Y_iald (a := 4) (by omega) (by decide) hk rfl (f3.at (by decide) hS) ?_
        refine E_run hk 8 (j' := 71) (lv' := [(1, .long ((31 * ((31 * ((31 * x) + ((iN (S 2)).toInt64))) + ((iN (S 3)).toInt64))) + ((iN (S 4)).toInt64))), (0, .ref 63), (3, yi t)]) (st' := [.ref 63, .long (31 * ((31 * ((31 * ((31 * x) + ((iN (S 2)).toInt64))) + ((iN (S 3)).toInt64))) + ((iN (S 4)).toInt64))), .long 31]) (hp' := H1) rfl ?_
        refine Y_callP hk rfl (as := [.ref 63]) (rest := [.long (31 * ((31 * ((31 * ((31 * x) + ((iN (S 2)).toInt64))) + ((iN (S 3)).toInt64))) + ((iN (S 4)).toInt64))), .long 31]) (v := some (yi (ris (fun q => S (7 + q)) (S 0 - 1).toNat + ris (fun q => S (27 + q)) (S 1 - 1).toNat))) rfl rfl (Nat.le_of_ble_eq_true rfl) (rcv0 e2) (Nat.le_of_ble_eq_true rfl) (c_X9_riseMany (v := (vup v 0 0)) e2 (f3.at (by decide) hS) (by omega) hpi (hd := by omega)) ?_
        refine E_run hk 4 (j' := 76) (lv' := [(1, .long ((31 * ((31 * ((31 * x) + ((iN (S 2)).toInt64))) + ((iN (S 3)).toInt64))) + ((iN (S 4)).toInt64))), (0, .ref 63), (3, yi t)]) (st' := [.ref 63, .long (31 * ((31 * ((31 * ((31 * ((31 * x) + ((iN (S 2)).toInt64))) + ((iN (S 3)).toInt64))) + ((iN (S 4)).toInt64))) + ((iN (ris (fun q => S (7 + q)) (S 0 - 1).toNat + ris (fun q => S (27 + q)) (S 1 - 1).toNat)).toInt64)))]) (hp' := H1) rfl ?_
        refine Y_callP hk rfl (as := [.ref 63]) (rest := [.long (31 * ((31 * ((31 * ((31 * ((31 * x) + ((iN (S 2)).toInt64))) + ((iN (S 3)).toInt64))) + ((iN (S 4)).toInt64))) + ((iN (ris (fun q => S (7 + q)) (S 0 - 1).toNat + ris (fun q => S (27 + q)) (S 1 - 1).toNat)).toInt64)))]) (v := some (yi (b2 (0 < S 0 ∧ 0 < S 1 ∧ -S 2 ≤ S 0 - S 1 ∧ S 0 - S 1 ≤ S 2)))) rfl rfl (Nat.le_of_ble_eq_true rfl) (rcv0 e2) (Nat.le_of_ble_eq_true rfl) (c_X9_matches (v := (vup v 0 0)) e2 (f3.at (by decide) hS) (by omega) (by omega) (hd := by omega)) ?_
        refine Y_b_eq hk rfl (fun g5 => ?_) (fun g5 => ?_)
        ·
          refine E_run hk 4 (j' := 84) (lv' := [(1, .long ((31 * ((31 * ((31 * ((31 * ((31 * x) + ((iN (S 2)).toInt64))) + ((iN (S 3)).toInt64))) + ((iN (S 4)).toInt64))) + ((iN (ris (fun q => S (7 + q)) (S 0 - 1).toNat + ris (fun q => S (27 + q)) (S 1 - 1).toNat)).toInt64))) + ((iN 0).toInt64))), (0, .ref 63), (3, yi t)]) (st' := []) (hp' := H1) rfl ?_
          have h84 : (31 * ((31 * ((31 * ((31 * ((31 * x) + ((iN (S 2)).toInt64))) + ((iN (S 3)).toInt64))) + ((iN (S 4)).toInt64))) + ((iN (ris (fun q => S (7 + q)) (S 0 - 1).toNat + ris (fun q => S (27 + q)) (S 1 - 1).toNat)).toInt64))) + ((iN 0).toInt64) = hd0 S := by
            unfold hd0
            first
              | (rw [if_pos (by omega), ← hN]; rfl)
              | (rw [if_neg (by omega), ← hN]; rfl)
          rw [h84]
          refine E_run hk 3 (j' := 87) (lv' := [(1, .long (hd0 S)), (0, .ref 63), (3, yi t)]) (st' := [.long (hd0 S), .ref 63, .ref 63]) (hp' := H1) rfl ?_
          refine Y_callL hk rfl (as := [.ref 63, .long (hd0 S)]) (rest := [.ref 63]) rfl rfl (Nat.le_of_ble_eq_true rfl) (rcv0 e2) (Nat.le_of_ble_eq_true rfl) (c_X9_digestCosts (v := (vup v 0 0)) e2 (f3.at (by decide) hS) hz h0 h1 (f3.at (by decide) hA) (f3.at (by decide) hW) (f3.at (by decide) hp1) (f3.at (by decide) hp2) (f3.at (by decide) hA0) (f3.at (by decide) hA3) (x0 := (hd0 S)) (hd := by omega)) (fun z6 H7 r8 => ?_)
          obtain ⟨c_H7, n_H7, P_H7, Q_H7, m_H7, zz_H7, ⟨x_H7, y_H7, e_H7⟩, ⟨A70_H7, a70_H7⟩, ⟨A71_H7, a71_H7⟩, ⟨A72_H7, a72_H7⟩, ⟨A73_H7, a73_H7⟩, ⟨A74_H7, a74_H7⟩, ⟨A75_H7, a75_H7⟩, f_H7⟩ := r8
          have zy_H7 : z6 = hct S c_H7 (hld P_H7 Q_H7 (c_H7 - 1).toNat) n_H7 (v 3) (hd0 S) := zz_H7
          refine Y_callL hk rfl (as := [.ref 63, .long z6]) (rest := []) rfl rfl (Nat.le_of_ble_eq_true rfl) (rcv0 e_H7) (Nat.le_of_ble_eq_true rfl) (c_X9_digestMatch (v := (vup (vup (vup v 0 0) 20 x_H7) 21 y_H7)) e_H7 (f_H7.at (by decide) (f3.at (by decide) hS)) hz h0 h1 a71_H7 a72_H7 a74_H7 a75_H7 a70_H7 (x0 := z6) (hd := by omega)) (fun z9 H10 r11 => ?_)
          obtain ⟨c_H10, P_H10, Q_H10, m_H10, zz_H10, e_H10, ⟨A_H10, a_H10⟩, ⟨B_H10, b_H10⟩, ⟨W_H10, w_H10⟩, ⟨X_H10, x_H10⟩, ⟨Y_H10, y_H10⟩, f_H10⟩ := r11
          refine E_run hk 5 (j' := 94) (lv' := [(1, .long z9), (0, .ref 63), (3, yi t)]) (st' := [.ref 63, .long (31 * z9)]) (hp' := H10) rfl ?_
          refine E_get (v := .ref 64) hk rfl e_H10 rfl ?_
          refine E_run hk 1 (j' := 96) (lv' := [(1, .long z9), (0, .ref 63), (3, yi t)]) (st' := [yi 5, .ref 64, .long (31 * z9)]) (hp' := H10) rfl ?_
          refine Y_iald (a := 5) (by omega) (by decide) hk rfl (f_H10.at (by decide) (f_H7.at (by decide) (f3.at (by decide) hS))) ?_
          refine E_run hk 1 (j' := 98) (lv' := [(1, .long z9), (0, .ref 63), (3, yi t)]) (st' := [yi (-1), yi (S 5), .long (31 * z9)]) (hp' := H10) rfl ?_
          refine Y_ic_ne (a := (S 5)) (b := (-1)) (by omega) hk rfl (fun g12 => ?_) (fun g12 => ?_)
          ·
            refine E_run hk 5 (j' := 106) (lv' := [(1, .long ((31 * z9) + ((iN 1).toInt64))), (0, .ref 63), (3, yi t)]) (st' := [.ref 63]) (hp' := H10) rfl ?_
            refine E_get (v := .ref 64) hk rfl e_H10 rfl ?_
            refine E_run hk 1 (j' := 108) (lv' := [(1, .long ((31 * z9) + ((iN 1).toInt64))), (0, .ref 63), (3, yi t)]) (st' := [yi 5, .ref 64]) (hp' := H10) rfl ?_
            refine Y_iald (a := 5) (by omega) (by decide) hk rfl (f_H10.at (by decide) (f_H7.at (by decide) (f3.at (by decide) hS))) ?_
            refine E_run hk 1 (j' := 110) (lv' := [(1, .long ((31 * z9) + ((iN 1).toInt64))), (0, .ref 63), (3, yi t)]) (st' := [yi (-1), yi (S 5)]) (hp' := H10) rfl ?_
            refine Y_ic_ne (a := (S 5)) (b := (-1)) (by omega) hk rfl (fun g13 => ?_) (fun g13 => ?_)
            ·
              refine E_run hk 5 (j' := 118) (lv' := [(1, .long ((31 * z9) + ((iN 1).toInt64))), (0, .ref 63), (3, yi t)]) (st' := [.ref 63, .long (31 * ((31 * z9) + ((iN 1).toInt64))), .long 31]) (hp' := H10) rfl ?_
              refine E_get (v := .ref 64) hk rfl e_H10 rfl ?_
              refine E_run hk 1 (j' := 120) (lv' := [(1, .long ((31 * z9) + ((iN 1).toInt64))), (0, .ref 63), (3, yi t)]) (st' := [yi 5, .ref 64, .long (31 * ((31 * z9) + ((iN 1).toInt64))), .long 31]) (hp' := H10) rfl ?_
              refine Y_iald (a := 5) (by omega) (by decide) hk rfl (f_H10.at (by decide) (f_H7.at (by decide) (f3.at (by decide) hS))) ?_
              refine E_run hk 4 (j' := 125) (lv' := [(1, .long ((31 * z9) + ((iN 1).toInt64))), (0, .ref 63), (3, yi t)]) (st' := [.ref 63, .long (31 * ((31 * ((31 * z9) + ((iN 1).toInt64))) + ((iN (S 5)).toInt64)))]) (hp' := H10) rfl ?_
              refine E_get (v := .ref 64) hk rfl e_H10 rfl ?_
              refine E_run hk 1 (j' := 127) (lv' := [(1, .long ((31 * z9) + ((iN 1).toInt64))), (0, .ref 63), (3, yi t)]) (st' := [yi 6, .ref 64, .long (31 * ((31 * ((31 * z9) + ((iN 1).toInt64))) + ((iN (S 5)).toInt64)))]) (hp' := H10) rfl ?_
              refine Y_iald (a := 6) (by omega) (by decide) hk rfl (f_H10.at (by decide) (f_H7.at (by decide) (f3.at (by decide) hS))) ?_
              refine E_run hk 7 (j' := 135) (lv' := [(1, .long ((31 * ((31 * ((31 * z9) + ((iN 1).toInt64))) + ((iN (S 5)).toInt64))) + ((iN (S 6)).toInt64))), (0, .ref 63), (3, yi t)]) (st' := [.ref 63, .long (31 * ((31 * ((31 * ((31 * z9) + ((iN 1).toInt64))) + ((iN (S 5)).toInt64))) + ((iN (S 6)).toInt64)))]) (hp' := H10) rfl ?_
              refine Y_callD hk rfl (as := [.ref 63]) (rest := [.long (31 * ((31 * ((31 * ((31 * z9) + ((iN 1).toInt64))) + ((iN (S 5)).toInt64))) + ((iN (S 6)).toInt64)))]) rfl rfl (Nat.le_of_ble_eq_true rfl) (rcv0 e_H10) (Nat.le_of_ble_eq_true rfl) (c_X9_share (v := (vup (vup (vup (vup v 0 0) 20 x_H7) 21 y_H7) 20 c_H10)) e_H10 (f_H10.at (by decide) (f_H7.at (by decide) (f3.at (by decide) hS))) hz h0 h1 b_H10 w_H10 x_H10 y_H10 (hd := by omega)) (fun z14 H15 r16 => ?_)
              obtain ⟨c_H15, A_H15, W_H15, P_H15, Q_H15, e_H15, a_H15, w_H15, p_H15, q_H15, m_H15, zh_H15, f_H15⟩ := r16
              obtain ⟨mc1_H15, mc2_H15, -⟩ := mtc_rng m_H15 (by omega)
              have hr_H15 := hld_rng P_H15 Q_H15 (c_H15 - 1).toNat
              refine Y_callP hk rfl (as := [.double z14]) (rest := [.long (31 * ((31 * ((31 * ((31 * z9) + ((iN 1).toInt64))) + ((iN (S 5)).toInt64))) + ((iN (S 6)).toInt64)))]) (v := some (.long z14.toInt64)) rfl rfl (Nat.le_of_ble_eq_true rfl) rfl (Nat.le_of_ble_eq_true rfl) (c_Jxe99ae_doubleToLongBits_ccdee (x := z14) (by rw [zh_H15]; exact shv_cmp (by omega)) (hd := by omega)) ?_
              refine E_run hk 6 (j' := 143) (lv' := [(1, .long ((31 * ((31 * ((31 * ((31 * z9) + ((iN 1).toInt64))) + ((iN (S 5)).toInt64))) + ((iN (S 6)).toInt64))) + z14.toInt64)), (0, .ref 63), (3, yi t)]) (st' := [.ref 63, .long (31 * ((31 * ((31 * ((31 * ((31 * z9) + ((iN 1).toInt64))) + ((iN (S 5)).toInt64))) + ((iN (S 6)).toInt64))) + z14.toInt64))]) (hp' := H15) rfl ?_
              refine E_get (v := yi (v 7)) hk rfl e_H15 rfl ?_
              refine E_run hk 3 (j' := 147) (lv' := [(1, .long ((31 * ((31 * ((31 * ((31 * ((31 * z9) + ((iN 1).toInt64))) + ((iN (S 5)).toInt64))) + ((iN (S 6)).toInt64))) + z14.toInt64)) + ((iN (v 7)).toInt64))), (0, .ref 63), (3, yi t)]) (st' := []) (hp' := H15) rfl ?_
              refine E_run hk 2 (j' := 149) (lv' := [(3, yi 0), (1, .long ((31 * ((31 * ((31 * ((31 * ((31 * z9) + ((iN 1).toInt64))) + ((iN (S 5)).toInt64))) + ((iN (S 6)).toInt64))) + z14.toInt64)) + ((iN (v 7)).toInt64))), (0, .ref 63)]) (st' := []) (hp' := H15) rfl ?_
              have loop149 : ∀ (N : Nat) (k3 : Int) (x9 : Int64), (0 ≤ k3 ∧ k3 ≤ v 7) → (x9 = hsf X ((31 * ((31 * ((31 * ((31 * ((31 * z9) + ((iN 1).toInt64))) + ((iN (S 5)).toInt64))) + ((iN (S 6)).toInt64))) + z14.toInt64)) + ((iN (v 7)).toInt64)) k3.toNat) → (v 7 - k3).toNat = N → Ev (d + 1) 249 149 [(0, .ref 63), (1, .long x9), (3, yi k3)] [] H15 (yL (fun z h => ∃ c n p q c2 p2 q2 c3 p3 q3, (0 < S 0 ∧ 0 < S 1 ∧ -S 2 ≤ S 0 - S 1 ∧ S 0 - S 1 ≤ S 2 → mtc S c p q ∧ isneed S n) ∧ mtc S c2 p2 q2 ∧ mtc S c3 p3 q3 ∧ z = hdz S X (shv c3 (hld p3 q3 (c3 - 1).toNat)).toInt64 (v 7) (hmt S p2 q2 c2 (hct S c (hld p q (c - 1).toNat) n (v 3) (hd0 S))) ∧ (∃ e a b, xat h 63 = some (yMo (vup (vup (vup v 0 e) 20 a) 21 b))) ∧ (∃ u, xat h 70 = some (yI 400 u)) ∧ (∃ u, xat h 71 = some (yI 400 u)) ∧ (∃ u, xat h 72 = some (yI 400 u)) ∧ (∃ u, xat h 73 = some (yI 400 u)) ∧ (∃ u, xat h 74 = some (yI 40 u)) ∧ (∃ u, xat h 75 = some (yI 40 u)) ∧ yfr [63, 70, 71, 72, 73, 74, 75] hp h)) := by
                intro N
                induction N using Nat.strongRecOn with
                | ind N ih149 =>
                  intro k3 x9 V1 V2 hm149
                  refine E_run hk 1 (j' := 150) (lv' := [(0, .ref 63), (1, .long x9), (3, yi k3)]) (st' := [yi k3]) (hp' := H15) rfl ?_
                  refine E_run hk 1 (j' := 151) (lv' := [(0, .ref 63), (1, .long x9), (3, yi k3)]) (st' := [.ref 63, yi k3]) (hp' := H15) rfl ?_
                  refine E_get (v := yi (v 7)) hk rfl e_H15 rfl ?_
                  refine Y_ic_ge (a := k3) (b := (v 7)) (by omega) hk rfl (fun g17 => ?_) (fun g17 => ?_)
                  ·
                    refine E_run hk 1 (j' := 166) (lv' := [(0, .ref 63), (1, .long x9), (3, yi k3)]) (st' := [.long x9]) (hp' := H15) rfl ?_
                    exact E_ret hk rfl rfl ⟨_, rfl, c_H7, n_H7, P_H7, Q_H7, _, _, _, _, _, _, m_H7, m_H10, m_H15, by rw [V2, show k3 = v 7 by omega]; unfold hdz; rw [← zh_H15, ← zy_H7, ← zz_H10]; unfold hds; first | (exfalso; omega) | (rw [if_pos (by omega)]; rfl) | (rw [if_neg (by omega)]; rfl), ⟨0, c_H15, y_H7, e_H15⟩, ⟨_, (f_H15.at (by decide) a_H10)⟩, ⟨_, a_H15⟩, ⟨_, w_H15⟩, ⟨_, (f_H15.at (by decide) (f_H10.at (by decide) a73_H7))⟩, ⟨_, p_H15⟩, ⟨_, q_H15⟩, (yfr.tr (yfr.tr (yfr.tr (f3.mono (by decide)) f_H7 (fun _ h => h) (by decide)) f_H10 (fun _ h => h) (by decide)) f_H15 (fun _ h => h) (by decide))⟩
                  ·
                    refine E_run hk 4 (j' := 157) (lv' := [(0, .ref 63), (1, .long x9), (3, yi k3)]) (st' := [.ref 63, .long (31 * x9)]) (hp' := H15) rfl ?_
                    refine E_get (v := .ref 67) hk rfl e_H15 rfl ?_
                    refine E_run hk 1 (j' := 159) (lv' := [(0, .ref 63), (1, .long x9), (3, yi k3)]) (st' := [yi k3, .ref 67, .long (31 * x9)]) (hp' := H15) rfl ?_
                    refine Y_iald (a := k3) (by omega) (by decide) hk rfl (f_H15.at (by decide) (f_H10.at (by decide) (f_H7.at (by decide) (f3.at (by decide) hX)))) ?_
                    refine E_run hk 3 (j' := 163) (lv' := [(1, .long ((31 * x9) + ((iN (X k3)).toInt64))), (0, .ref 63), (3, yi k3)]) (st' := []) (hp' := H15) rfl ?_
                    refine Y_iinc (a := k3) (z := 1) hk rfl rfl rfl (by decide) (lv' := [(3, yi (k3 + 1)), (1, .long ((31 * x9) + ((iN (X k3)).toInt64))), (0, .ref 63)]) rfl ?_
                    refine E_run hk 1 (j' := 149) (lv' := [(3, yi (k3 + 1)), (1, .long ((31 * x9) + ((iN (X k3)).toInt64))), (0, .ref 63)]) (st' := []) (hp' := H15) rfl ?_
                    exact Ev_le (xle_s rfl rfl (xle_s rfl rfl (xle_s rfl rfl (xle_z _ rfl)))) (ih149 _ (by omega) (k3 + 1) ((31 * x9) + ((iN (X k3)).toInt64))  (by omega) (by rw [hsf_s (by omega), ← V2]; rfl) rfl)
              exact Ev_le (xle_s rfl rfl (xle_s rfl rfl (xle_s rfl rfl (xle_z _ rfl)))) (loop149 _ 0 ((31 * ((31 * ((31 * ((31 * ((31 * z9) + ((iN 1).toInt64))) + ((iN (S 5)).toInt64))) + ((iN (S 6)).toInt64))) + z14.toInt64)) + ((iN (v 7)).toInt64))  (by omega) (rfl) rfl)
            ·
              refine E_run hk 7 (j' := 135) (lv' := [(1, .long ((31 * z9) + ((iN 1).toInt64))), (0, .ref 63), (3, yi t)]) (st' := [.ref 63, .long (31 * ((31 * z9) + ((iN 1).toInt64)))]) (hp' := H10) rfl ?_
              refine Y_callD hk rfl (as := [.ref 63]) (rest := [.long (31 * ((31 * z9) + ((iN 1).toInt64)))]) rfl rfl (Nat.le_of_ble_eq_true rfl) (rcv0 e_H10) (Nat.le_of_ble_eq_true rfl) (c_X9_share (v := (vup (vup (vup (vup v 0 0) 20 x_H7) 21 y_H7) 20 c_H10)) e_H10 (f_H10.at (by decide) (f_H7.at (by decide) (f3.at (by decide) hS))) hz h0 h1 b_H10 w_H10 x_H10 y_H10 (hd := by omega)) (fun z18 H19 r20 => ?_)
              obtain ⟨c_H19, A_H19, W_H19, P_H19, Q_H19, e_H19, a_H19, w_H19, p_H19, q_H19, m_H19, zh_H19, f_H19⟩ := r20
              obtain ⟨mc1_H19, mc2_H19, -⟩ := mtc_rng m_H19 (by omega)
              have hr_H19 := hld_rng P_H19 Q_H19 (c_H19 - 1).toNat
              refine Y_callP hk rfl (as := [.double z18]) (rest := [.long (31 * ((31 * z9) + ((iN 1).toInt64)))]) (v := some (.long z18.toInt64)) rfl rfl (Nat.le_of_ble_eq_true rfl) rfl (Nat.le_of_ble_eq_true rfl) (c_Jxe99ae_doubleToLongBits_ccdee (x := z18) (by rw [zh_H19]; exact shv_cmp (by omega)) (hd := by omega)) ?_
              refine E_run hk 6 (j' := 143) (lv' := [(1, .long ((31 * ((31 * z9) + ((iN 1).toInt64))) + z18.toInt64)), (0, .ref 63), (3, yi t)]) (st' := [.ref 63, .long (31 * ((31 * ((31 * z9) + ((iN 1).toInt64))) + z18.toInt64))]) (hp' := H19) rfl ?_
              refine E_get (v := yi (v 7)) hk rfl e_H19 rfl ?_
              refine E_run hk 3 (j' := 147) (lv' := [(1, .long ((31 * ((31 * ((31 * z9) + ((iN 1).toInt64))) + z18.toInt64)) + ((iN (v 7)).toInt64))), (0, .ref 63), (3, yi t)]) (st' := []) (hp' := H19) rfl ?_
              refine E_run hk 2 (j' := 149) (lv' := [(3, yi 0), (1, .long ((31 * ((31 * ((31 * z9) + ((iN 1).toInt64))) + z18.toInt64)) + ((iN (v 7)).toInt64))), (0, .ref 63)]) (st' := []) (hp' := H19) rfl ?_
              have loop149 : ∀ (N : Nat) (k3 : Int) (x9 : Int64), (0 ≤ k3 ∧ k3 ≤ v 7) → (x9 = hsf X ((31 * ((31 * ((31 * z9) + ((iN 1).toInt64))) + z18.toInt64)) + ((iN (v 7)).toInt64)) k3.toNat) → (v 7 - k3).toNat = N → Ev (d + 1) 249 149 [(0, .ref 63), (1, .long x9), (3, yi k3)] [] H19 (yL (fun z h => ∃ c n p q c2 p2 q2 c3 p3 q3, (0 < S 0 ∧ 0 < S 1 ∧ -S 2 ≤ S 0 - S 1 ∧ S 0 - S 1 ≤ S 2 → mtc S c p q ∧ isneed S n) ∧ mtc S c2 p2 q2 ∧ mtc S c3 p3 q3 ∧ z = hdz S X (shv c3 (hld p3 q3 (c3 - 1).toNat)).toInt64 (v 7) (hmt S p2 q2 c2 (hct S c (hld p q (c - 1).toNat) n (v 3) (hd0 S))) ∧ (∃ e a b, xat h 63 = some (yMo (vup (vup (vup v 0 e) 20 a) 21 b))) ∧ (∃ u, xat h 70 = some (yI 400 u)) ∧ (∃ u, xat h 71 = some (yI 400 u)) ∧ (∃ u, xat h 72 = some (yI 400 u)) ∧ (∃ u, xat h 73 = some (yI 400 u)) ∧ (∃ u, xat h 74 = some (yI 40 u)) ∧ (∃ u, xat h 75 = some (yI 40 u)) ∧ yfr [63, 70, 71, 72, 73, 74, 75] hp h)) := by
                intro N
                induction N using Nat.strongRecOn with
                | ind N ih149 =>
                  intro k3 x9 V1 V2 hm149
                  refine E_run hk 1 (j' := 150) (lv' := [(0, .ref 63), (1, .long x9), (3, yi k3)]) (st' := [yi k3]) (hp' := H19) rfl ?_
                  refine E_run hk 1 (j' := 151) (lv' := [(0, .ref 63), (1, .long x9), (3, yi k3)]) (st' := [.ref 63, yi k3]) (hp' := H19) rfl ?_
                  refine E_get (v := yi (v 7)) hk rfl e_H19 rfl ?_
                  refine Y_ic_ge (a := k3) (b := (v 7)) (by omega) hk rfl (fun g21 => ?_) (fun g21 => ?_)
                  ·
                    refine E_run hk 1 (j' := 166) (lv' := [(0, .ref 63), (1, .long x9), (3, yi k3)]) (st' := [.long x9]) (hp' := H19) rfl ?_
                    exact E_ret hk rfl rfl ⟨_, rfl, c_H7, n_H7, P_H7, Q_H7, _, _, _, _, _, _, m_H7, m_H10, m_H19, by rw [V2, show k3 = v 7 by omega]; unfold hdz; rw [← zh_H19, ← zy_H7, ← zz_H10]; unfold hds; first | (exfalso; omega) | (rw [if_pos (by omega)]; rfl) | (rw [if_neg (by omega)]; rfl), ⟨0, c_H19, y_H7, e_H19⟩, ⟨_, (f_H19.at (by decide) a_H10)⟩, ⟨_, a_H19⟩, ⟨_, w_H19⟩, ⟨_, (f_H19.at (by decide) (f_H10.at (by decide) a73_H7))⟩, ⟨_, p_H19⟩, ⟨_, q_H19⟩, (yfr.tr (yfr.tr (yfr.tr (f3.mono (by decide)) f_H7 (fun _ h => h) (by decide)) f_H10 (fun _ h => h) (by decide)) f_H19 (fun _ h => h) (by decide))⟩
                  ·
                    refine E_run hk 4 (j' := 157) (lv' := [(0, .ref 63), (1, .long x9), (3, yi k3)]) (st' := [.ref 63, .long (31 * x9)]) (hp' := H19) rfl ?_
                    refine E_get (v := .ref 67) hk rfl e_H19 rfl ?_
                    refine E_run hk 1 (j' := 159) (lv' := [(0, .ref 63), (1, .long x9), (3, yi k3)]) (st' := [yi k3, .ref 67, .long (31 * x9)]) (hp' := H19) rfl ?_
                    refine Y_iald (a := k3) (by omega) (by decide) hk rfl (f_H19.at (by decide) (f_H10.at (by decide) (f_H7.at (by decide) (f3.at (by decide) hX)))) ?_
                    refine E_run hk 3 (j' := 163) (lv' := [(1, .long ((31 * x9) + ((iN (X k3)).toInt64))), (0, .ref 63), (3, yi k3)]) (st' := []) (hp' := H19) rfl ?_
                    refine Y_iinc (a := k3) (z := 1) hk rfl rfl rfl (by decide) (lv' := [(3, yi (k3 + 1)), (1, .long ((31 * x9) + ((iN (X k3)).toInt64))), (0, .ref 63)]) rfl ?_
                    refine E_run hk 1 (j' := 149) (lv' := [(3, yi (k3 + 1)), (1, .long ((31 * x9) + ((iN (X k3)).toInt64))), (0, .ref 63)]) (st' := []) (hp' := H19) rfl ?_
                    exact Ev_le (xle_s rfl rfl (xle_s rfl rfl (xle_s rfl rfl (xle_z _ rfl)))) (ih149 _ (by omega) (k3 + 1) ((31 * x9) + ((iN (X k3)).toInt64))  (by omega) (by rw [hsf_s (by omega), ← V2]; rfl) rfl)
              exact Ev_le (xle_s rfl rfl (xle_s rfl rfl (xle_s rfl rfl (xle_z _ rfl)))) (loop149 _ 0 ((31 * ((31 * ((31 * z9) + ((iN 1).toInt64))) + z18.toInt64)) + ((iN (v 7)).toInt64))  (by omega) (rfl) rfl)
          ·
            refine E_run hk 6 (j' := 106) (lv' := [(1, .long ((31 * z9) + ((iN 0).toInt64))), (0, .ref 63), (3, yi t)]) (st' := [.ref 63]) (hp' := H10) rfl ?_
            refine E_get (v := .ref 64) hk rfl e_H10 rfl ?_
            refine E_run hk 1 (j' := 108) (lv' := [(1, .long ((31 * z9) + ((iN 0).toInt64))), (0, .ref 63), (3, yi t)]) (st' := [yi 5, .ref 64]) (hp' := H10) rfl ?_
            refine Y_iald (a := 5) (by omega) (by decide) hk rfl (f_H10.at (by decide) (f_H7.at (by decide) (f3.at (by decide) hS))) ?_
            refine E_run hk 1 (j' := 110) (lv' := [(1, .long ((31 * z9) + ((iN 0).toInt64))), (0, .ref 63), (3, yi t)]) (st' := [yi (-1), yi (S 5)]) (hp' := H10) rfl ?_
            refine Y_ic_ne (a := (S 5)) (b := (-1)) (by omega) hk rfl (fun g22 => ?_) (fun g22 => ?_)
            ·
              refine E_run hk 5 (j' := 118) (lv' := [(1, .long ((31 * z9) + ((iN 0).toInt64))), (0, .ref 63), (3, yi t)]) (st' := [.ref 63, .long (31 * ((31 * z9) + ((iN 0).toInt64))), .long 31]) (hp' := H10) rfl ?_
              refine E_get (v := .ref 64) hk rfl e_H10 rfl ?_
              refine E_run hk 1 (j' := 120) (lv' := [(1, .long ((31 * z9) + ((iN 0).toInt64))), (0, .ref 63), (3, yi t)]) (st' := [yi 5, .ref 64, .long (31 * ((31 * z9) + ((iN 0).toInt64))), .long 31]) (hp' := H10) rfl ?_
              refine Y_iald (a := 5) (by omega) (by decide) hk rfl (f_H10.at (by decide) (f_H7.at (by decide) (f3.at (by decide) hS))) ?_
              refine E_run hk 4 (j' := 125) (lv' := [(1, .long ((31 * z9) + ((iN 0).toInt64))), (0, .ref 63), (3, yi t)]) (st' := [.ref 63, .long (31 * ((31 * ((31 * z9) + ((iN 0).toInt64))) + ((iN (S 5)).toInt64)))]) (hp' := H10) rfl ?_
              refine E_get (v := .ref 64) hk rfl e_H10 rfl ?_
              refine E_run hk 1 (j' := 127) (lv' := [(1, .long ((31 * z9) + ((iN 0).toInt64))), (0, .ref 63), (3, yi t)]) (st' := [yi 6, .ref 64, .long (31 * ((31 * ((31 * z9) + ((iN 0).toInt64))) + ((iN (S 5)).toInt64)))]) (hp' := H10) rfl ?_
              refine Y_iald (a := 6) (by omega) (by decide) hk rfl (f_H10.at (by decide) (f_H7.at (by decide) (f3.at (by decide) hS))) ?_
              refine E_run hk 7 (j' := 135) (lv' := [(1, .long ((31 * ((31 * ((31 * z9) + ((iN 0).toInt64))) + ((iN (S 5)).toInt64))) + ((iN (S 6)).toInt64))), (0, .ref 63), (3, yi t)]) (st' := [.ref 63, .long (31 * ((31 * ((31 * ((31 * z9) + ((iN 0).toInt64))) + ((iN (S 5)).toInt64))) + ((iN (S 6)).toInt64)))]) (hp' := H10) rfl ?_
              refine Y_callD hk rfl (as := [.ref 63]) (rest := [.long (31 * ((31 * ((31 * ((31 * z9) + ((iN 0).toInt64))) + ((iN (S 5)).toInt64))) + ((iN (S 6)).toInt64)))]) rfl rfl (Nat.le_of_ble_eq_true rfl) (rcv0 e_H10) (Nat.le_of_ble_eq_true rfl) (c_X9_share (v := (vup (vup (vup (vup v 0 0) 20 x_H7) 21 y_H7) 20 c_H10)) e_H10 (f_H10.at (by decide) (f_H7.at (by decide) (f3.at (by decide) hS))) hz h0 h1 b_H10 w_H10 x_H10 y_H10 (hd := by omega)) (fun z23 H24 r25 => ?_)
              obtain ⟨c_H24, A_H24, W_H24, P_H24, Q_H24, e_H24, a_H24, w_H24, p_H24, q_H24, m_H24, zh_H24, f_H24⟩ := r25
              obtain ⟨mc1_H24, mc2_H24, -⟩ := mtc_rng m_H24 (by omega)
              have hr_H24 := hld_rng P_H24 Q_H24 (c_H24 - 1).toNat
              refine Y_callP hk rfl (as := [.double z23]) (rest := [.long (31 * ((31 * ((31 * ((31 * z9) + ((iN 0).toInt64))) + ((iN (S 5)).toInt64))) + ((iN (S 6)).toInt64)))]) (v := some (.long z23.toInt64)) rfl rfl (Nat.le_of_ble_eq_true rfl) rfl (Nat.le_of_ble_eq_true rfl) (c_Jxe99ae_doubleToLongBits_ccdee (x := z23) (by rw [zh_H24]; exact shv_cmp (by omega)) (hd := by omega)) ?_
              refine E_run hk 6 (j' := 143) (lv' := [(1, .long ((31 * ((31 * ((31 * ((31 * z9) + ((iN 0).toInt64))) + ((iN (S 5)).toInt64))) + ((iN (S 6)).toInt64))) + z23.toInt64)), (0, .ref 63), (3, yi t)]) (st' := [.ref 63, .long (31 * ((31 * ((31 * ((31 * ((31 * z9) + ((iN 0).toInt64))) + ((iN (S 5)).toInt64))) + ((iN (S 6)).toInt64))) + z23.toInt64))]) (hp' := H24) rfl ?_
              refine E_get (v := yi (v 7)) hk rfl e_H24 rfl ?_
              refine E_run hk 3 (j' := 147) (lv' := [(1, .long ((31 * ((31 * ((31 * ((31 * ((31 * z9) + ((iN 0).toInt64))) + ((iN (S 5)).toInt64))) + ((iN (S 6)).toInt64))) + z23.toInt64)) + ((iN (v 7)).toInt64))), (0, .ref 63), (3, yi t)]) (st' := []) (hp' := H24) rfl ?_
              refine E_run hk 2 (j' := 149) (lv' := [(3, yi 0), (1, .long ((31 * ((31 * ((31 * ((31 * ((31 * z9) + ((iN 0).toInt64))) + ((iN (S 5)).toInt64))) + ((iN (S 6)).toInt64))) + z23.toInt64)) + ((iN (v 7)).toInt64))), (0, .ref 63)]) (st' := []) (hp' := H24) rfl ?_
              have loop149 : ∀ (N : Nat) (k3 : Int) (x9 : Int64), (0 ≤ k3 ∧ k3 ≤ v 7) → (x9 = hsf X ((31 * ((31 * ((31 * ((31 * ((31 * z9) + ((iN 0).toInt64))) + ((iN (S 5)).toInt64))) + ((iN (S 6)).toInt64))) + z23.toInt64)) + ((iN (v 7)).toInt64)) k3.toNat) → (v 7 - k3).toNat = N → Ev (d + 1) 249 149 [(0, .ref 63), (1, .long x9), (3, yi k3)] [] H24 (yL (fun z h => ∃ c n p q c2 p2 q2 c3 p3 q3, (0 < S 0 ∧ 0 < S 1 ∧ -S 2 ≤ S 0 - S 1 ∧ S 0 - S 1 ≤ S 2 → mtc S c p q ∧ isneed S n) ∧ mtc S c2 p2 q2 ∧ mtc S c3 p3 q3 ∧ z = hdz S X (shv c3 (hld p3 q3 (c3 - 1).toNat)).toInt64 (v 7) (hmt S p2 q2 c2 (hct S c (hld p q (c - 1).toNat) n (v 3) (hd0 S))) ∧ (∃ e a b, xat h 63 = some (yMo (vup (vup (vup v 0 e) 20 a) 21 b))) ∧ (∃ u, xat h 70 = some (yI 400 u)) ∧ (∃ u, xat h 71 = some (yI 400 u)) ∧ (∃ u, xat h 72 = some (yI 400 u)) ∧ (∃ u, xat h 73 = some (yI 400 u)) ∧ (∃ u, xat h 74 = some (yI 40 u)) ∧ (∃ u, xat h 75 = some (yI 40 u)) ∧ yfr [63, 70, 71, 72, 73, 74, 75] hp h)) := by
                intro N
                induction N using Nat.strongRecOn with
                | ind N ih149 =>
                  intro k3 x9 V1 V2 hm149
                  refine E_run hk 1 (j' := 150) (lv' := [(0, .ref 63), (1, .long x9), (3, yi k3)]) (st' := [yi k3]) (hp' := H24) rfl ?_
                  refine E_run hk 1 (j' := 151) (lv' := [(0, .ref 63), (1, .long x9), (3, yi k3)]) (st' := [.ref 63, yi k3]) (hp' := H24) rfl ?_
                  refine E_get (v := yi (v 7)) hk rfl e_H24 rfl ?_
                  refine Y_ic_ge (a := k3) (b := (v 7)) (by omega) hk rfl (fun g26 => ?_) (fun g26 => ?_)
                  ·
                    refine E_run hk 1 (j' := 166) (lv' := [(0, .ref 63), (1, .long x9), (3, yi k3)]) (st' := [.long x9]) (hp' := H24) rfl ?_
                    exact E_ret hk rfl rfl ⟨_, rfl, c_H7, n_H7, P_H7, Q_H7, _, _, _, _, _, _, m_H7, m_H10, m_H24, by rw [V2, show k3 = v 7 by omega]; unfold hdz; rw [← zh_H24, ← zy_H7, ← zz_H10]; unfold hds; first | (exfalso; omega) | (rw [if_pos (by omega)]; rfl) | (rw [if_neg (by omega)]; rfl), ⟨0, c_H24, y_H7, e_H24⟩, ⟨_, (f_H24.at (by decide) a_H10)⟩, ⟨_, a_H24⟩, ⟨_, w_H24⟩, ⟨_, (f_H24.at (by decide) (f_H10.at (by decide) a73_H7))⟩, ⟨_, p_H24⟩, ⟨_, q_H24⟩, (yfr.tr (yfr.tr (yfr.tr (f3.mono (by decide)) f_H7 (fun _ h => h) (by decide)) f_H10 (fun _ h => h) (by decide)) f_H24 (fun _ h => h) (by decide))⟩
                  ·
                    refine E_run hk 4 (j' := 157) (lv' := [(0, .ref 63), (1, .long x9), (3, yi k3)]) (st' := [.ref 63, .long (31 * x9)]) (hp' := H24) rfl ?_
                    refine E_get (v := .ref 67) hk rfl e_H24 rfl ?_
                    refine E_run hk 1 (j' := 159) (lv' := [(0, .ref 63), (1, .long x9), (3, yi k3)]) (st' := [yi k3, .ref 67, .long (31 * x9)]) (hp' := H24) rfl ?_
                    refine Y_iald (a := k3) (by omega) (by decide) hk rfl (f_H24.at (by decide) (f_H10.at (by decide) (f_H7.at (by decide) (f3.at (by decide) hX)))) ?_
                    refine E_run hk 3 (j' := 163) (lv' := [(1, .long ((31 * x9) + ((iN (X k3)).toInt64))), (0, .ref 63), (3, yi k3)]) (st' := []) (hp' := H24) rfl ?_
                    refine Y_iinc (a := k3) (z := 1) hk rfl rfl rfl (by decide) (lv' := [(3, yi (k3 + 1)), (1, .long ((31 * x9) + ((iN (X k3)).toInt64))), (0, .ref 63)]) rfl ?_
                    refine E_run hk 1 (j' := 149) (lv' := [(3, yi (k3 + 1)), (1, .long ((31 * x9) + ((iN (X k3)).toInt64))), (0, .ref 63)]) (st' := []) (hp' := H24) rfl ?_
                    exact Ev_le (xle_s rfl rfl (xle_s rfl rfl (xle_s rfl rfl (xle_z _ rfl)))) (ih149 _ (by omega) (k3 + 1) ((31 * x9) + ((iN (X k3)).toInt64))  (by omega) (by rw [hsf_s (by omega), ← V2]; rfl) rfl)
              exact Ev_le (xle_s rfl rfl (xle_s rfl rfl (xle_s rfl rfl (xle_z _ rfl)))) (loop149 _ 0 ((31 * ((31 * ((31 * ((31 * ((31 * z9) + ((iN 0).toInt64))) + ((iN (S 5)).toInt64))) + ((iN (S 6)).toInt64))) + z23.toInt64)) + ((iN (v 7)).toInt64))  (by omega) (rfl) rfl)
            ·
              refine E_run hk 7 (j' := 135) (lv' := [(1, .long ((31 * z9) + ((iN 0).toInt64))), (0, .ref 63), (3, yi t)]) (st' := [.ref 63, .long (31 * ((31 * z9) + ((iN 0).toInt64)))]) (hp' := H10) rfl ?_
              refine Y_callD hk rfl (as := [.ref 63]) (rest := [.long (31 * ((31 * z9) + ((iN 0).toInt64)))]) rfl rfl (Nat.le_of_ble_eq_true rfl) (rcv0 e_H10) (Nat.le_of_ble_eq_true rfl) (c_X9_share (v := (vup (vup (vup (vup v 0 0) 20 x_H7) 21 y_H7) 20 c_H10)) e_H10 (f_H10.at (by decide) (f_H7.at (by decide) (f3.at (by decide) hS))) hz h0 h1 b_H10 w_H10 x_H10 y_H10 (hd := by omega)) (fun z27 H28 r29 => ?_)
              obtain ⟨c_H28, A_H28, W_H28, P_H28, Q_H28, e_H28, a_H28, w_H28, p_H28, q_H28, m_H28, zh_H28, f_H28⟩ := r29
              obtain ⟨mc1_H28, mc2_H28, -⟩ := mtc_rng m_H28 (by omega)
              have hr_H28 := hld_rng P_H28 Q_H28 (c_H28 - 1).toNat
              refine Y_callP hk rfl (as := [.double z27]) (rest := [.long (31 * ((31 * z9) + ((iN 0).toInt64)))]) (v := some (.long z27.toInt64)) rfl rfl (Nat.le_of_ble_eq_true rfl) rfl (Nat.le_of_ble_eq_true rfl) (c_Jxe99ae_doubleToLongBits_ccdee (x := z27) (by rw [zh_H28]; exact shv_cmp (by omega)) (hd := by omega)) ?_
              refine E_run hk 6 (j' := 143) (lv' := [(1, .long ((31 * ((31 * z9) + ((iN 0).toInt64))) + z27.toInt64)), (0, .ref 63), (3, yi t)]) (st' := [.ref 63, .long (31 * ((31 * ((31 * z9) + ((iN 0).toInt64))) + z27.toInt64))]) (hp' := H28) rfl ?_
              refine E_get (v := yi (v 7)) hk rfl e_H28 rfl ?_
              refine E_run hk 3 (j' := 147) (lv' := [(1, .long ((31 * ((31 * ((31 * z9) + ((iN 0).toInt64))) + z27.toInt64)) + ((iN (v 7)).toInt64))), (0, .ref 63), (3, yi t)]) (st' := []) (hp' := H28) rfl ?_
              refine E_run hk 2 (j' := 149) (lv' := [(3, yi 0), (1, .long ((31 * ((31 * ((31 * z9) + ((iN 0).toInt64))) + z27.toInt64)) + ((iN (v 7)).toInt64))), (0, .ref 63)]) (st' := []) (hp' := H28) rfl ?_
              have loop149 : ∀ (N : Nat) (k3 : Int) (x9 : Int64), (0 ≤ k3 ∧ k3 ≤ v 7) → (x9 = hsf X ((31 * ((31 * ((31 * z9) + ((iN 0).toInt64))) + z27.toInt64)) + ((iN (v 7)).toInt64)) k3.toNat) → (v 7 - k3).toNat = N → Ev (d + 1) 249 149 [(0, .ref 63), (1, .long x9), (3, yi k3)] [] H28 (yL (fun z h => ∃ c n p q c2 p2 q2 c3 p3 q3, (0 < S 0 ∧ 0 < S 1 ∧ -S 2 ≤ S 0 - S 1 ∧ S 0 - S 1 ≤ S 2 → mtc S c p q ∧ isneed S n) ∧ mtc S c2 p2 q2 ∧ mtc S c3 p3 q3 ∧ z = hdz S X (shv c3 (hld p3 q3 (c3 - 1).toNat)).toInt64 (v 7) (hmt S p2 q2 c2 (hct S c (hld p q (c - 1).toNat) n (v 3) (hd0 S))) ∧ (∃ e a b, xat h 63 = some (yMo (vup (vup (vup v 0 e) 20 a) 21 b))) ∧ (∃ u, xat h 70 = some (yI 400 u)) ∧ (∃ u, xat h 71 = some (yI 400 u)) ∧ (∃ u, xat h 72 = some (yI 400 u)) ∧ (∃ u, xat h 73 = some (yI 400 u)) ∧ (∃ u, xat h 74 = some (yI 40 u)) ∧ (∃ u, xat h 75 = some (yI 40 u)) ∧ yfr [63, 70, 71, 72, 73, 74, 75] hp h)) := by
                intro N
                induction N using Nat.strongRecOn with
                | ind N ih149 =>
                  intro k3 x9 V1 V2 hm149
                  refine E_run hk 1 (j' := 150) (lv' := [(0, .ref 63), (1, .long x9), (3, yi k3)]) (st' := [yi k3]) (hp' := H28) rfl ?_
                  refine E_run hk 1 (j' := 151) (lv' := [(0, .ref 63), (1, .long x9), (3, yi k3)]) (st' := [.ref 63, yi k3]) (hp' := H28) rfl ?_
                  refine E_get (v := yi (v 7)) hk rfl e_H28 rfl ?_
                  refine Y_ic_ge (a := k3) (b := (v 7)) (by omega) hk rfl (fun g30 => ?_) (fun g30 => ?_)
                  ·
                    refine E_run hk 1 (j' := 166) (lv' := [(0, .ref 63), (1, .long x9), (3, yi k3)]) (st' := [.long x9]) (hp' := H28) rfl ?_
                    exact E_ret hk rfl rfl ⟨_, rfl, c_H7, n_H7, P_H7, Q_H7, _, _, _, _, _, _, m_H7, m_H10, m_H28, by rw [V2, show k3 = v 7 by omega]; unfold hdz; rw [← zh_H28, ← zy_H7, ← zz_H10]; unfold hds; first | (exfalso; omega) | (rw [if_pos (by omega)]; rfl) | (rw [if_neg (by omega)]; rfl), ⟨0, c_H28, y_H7, e_H28⟩, ⟨_, (f_H28.at (by decide) a_H10)⟩, ⟨_, a_H28⟩, ⟨_, w_H28⟩, ⟨_, (f_H28.at (by decide) (f_H10.at (by decide) a73_H7))⟩, ⟨_, p_H28⟩, ⟨_, q_H28⟩, (yfr.tr (yfr.tr (yfr.tr (f3.mono (by decide)) f_H7 (fun _ h => h) (by decide)) f_H10 (fun _ h => h) (by decide)) f_H28 (fun _ h => h) (by decide))⟩
                  ·
                    refine E_run hk 4 (j' := 157) (lv' := [(0, .ref 63), (1, .long x9), (3, yi k3)]) (st' := [.ref 63, .long (31 * x9)]) (hp' := H28) rfl ?_
                    refine E_get (v := .ref 67) hk rfl e_H28 rfl ?_
                    refine E_run hk 1 (j' := 159) (lv' := [(0, .ref 63), (1, .long x9), (3, yi k3)]) (st' := [yi k3, .ref 67, .long (31 * x9)]) (hp' := H28) rfl ?_
                    refine Y_iald (a := k3) (by omega) (by decide) hk rfl (f_H28.at (by decide) (f_H10.at (by decide) (f_H7.at (by decide) (f3.at (by decide) hX)))) ?_
                    refine E_run hk 3 (j' := 163) (lv' := [(1, .long ((31 * x9) + ((iN (X k3)).toInt64))), (0, .ref 63), (3, yi k3)]) (st' := []) (hp' := H28) rfl ?_
                    refine Y_iinc (a := k3) (z := 1) hk rfl rfl rfl (by decide) (lv' := [(3, yi (k3 + 1)), (1, .long ((31 * x9) + ((iN (X k3)).toInt64))), (0, .ref 63)]) rfl ?_
                    refine E_run hk 1 (j' := 149) (lv' := [(3, yi (k3 + 1)), (1, .long ((31 * x9) + ((iN (X k3)).toInt64))), (0, .ref 63)]) (st' := []) (hp' := H28) rfl ?_
                    exact Ev_le (xle_s rfl rfl (xle_s rfl rfl (xle_s rfl rfl (xle_z _ rfl)))) (ih149 _ (by omega) (k3 + 1) ((31 * x9) + ((iN (X k3)).toInt64))  (by omega) (by rw [hsf_s (by omega), ← V2]; rfl) rfl)
              exact Ev_le (xle_s rfl rfl (xle_s rfl rfl (xle_s rfl rfl (xle_z _ rfl)))) (loop149 _ 0 ((31 * ((31 * ((31 * z9) + ((iN 0).toInt64))) + z27.toInt64)) + ((iN (v 7)).toInt64))  (by omega) (rfl) rfl)
        ·
          refine E_run hk 5 (j' := 84) (lv' := [(1, .long ((31 * ((31 * ((31 * ((31 * ((31 * x) + ((iN (S 2)).toInt64))) + ((iN (S 3)).toInt64))) + ((iN (S 4)).toInt64))) + ((iN (ris (fun q => S (7 + q)) (S 0 - 1).toNat + ris (fun q => S (27 + q)) (S 1 - 1).toNat)).toInt64))) + ((iN 1).toInt64))), (0, .ref 63), (3, yi t)]) (st' := []) (hp' := H1) rfl ?_
          have h84 : (31 * ((31 * ((31 * ((31 * ((31 * x) + ((iN (S 2)).toInt64))) + ((iN (S 3)).toInt64))) + ((iN (S 4)).toInt64))) + ((iN (ris (fun q => S (7 + q)) (S 0 - 1).toNat + ris (fun q => S (27 + q)) (S 1 - 1).toNat)).toInt64))) + ((iN 1).toInt64) = hd0 S := by
            unfold hd0
            first
              | (rw [if_pos (by omega), ← hN]; rfl)
              | (rw [if_neg (by omega), ← hN]; rfl)
          rw [h84]
          refine E_run hk 3 (j' := 87) (lv' := [(1, .long (hd0 S)), (0, .ref 63), (3, yi t)]) (st' := [.long (hd0 S), .ref 63, .ref 63]) (hp' := H1) rfl ?_
          refine Y_callL hk rfl (as := [.ref 63, .long (hd0 S)]) (rest := [.ref 63]) rfl rfl (Nat.le_of_ble_eq_true rfl) (rcv0 e2) (Nat.le_of_ble_eq_true rfl) (c_X9_digestCosts (v := (vup v 0 0)) e2 (f3.at (by decide) hS) hz h0 h1 (f3.at (by decide) hA) (f3.at (by decide) hW) (f3.at (by decide) hp1) (f3.at (by decide) hp2) (f3.at (by decide) hA0) (f3.at (by decide) hA3) (x0 := (hd0 S)) (hd := by omega)) (fun z31 H32 r33 => ?_)
          obtain ⟨c_H32, n_H32, P_H32, Q_H32, m_H32, zz_H32, ⟨x_H32, y_H32, e_H32⟩, ⟨A70_H32, a70_H32⟩, ⟨A71_H32, a71_H32⟩, ⟨A72_H32, a72_H32⟩, ⟨A73_H32, a73_H32⟩, ⟨A74_H32, a74_H32⟩, ⟨A75_H32, a75_H32⟩, f_H32⟩ := r33
          have zy_H32 : z31 = hct S c_H32 (hld P_H32 Q_H32 (c_H32 - 1).toNat) n_H32 (v 3) (hd0 S) := zz_H32
          refine Y_callL hk rfl (as := [.ref 63, .long z31]) (rest := []) rfl rfl (Nat.le_of_ble_eq_true rfl) (rcv0 e_H32) (Nat.le_of_ble_eq_true rfl) (c_X9_digestMatch (v := (vup (vup (vup v 0 0) 20 x_H32) 21 y_H32)) e_H32 (f_H32.at (by decide) (f3.at (by decide) hS)) hz h0 h1 a71_H32 a72_H32 a74_H32 a75_H32 a70_H32 (x0 := z31) (hd := by omega)) (fun z34 H35 r36 => ?_)
          obtain ⟨c_H35, P_H35, Q_H35, m_H35, zz_H35, e_H35, ⟨A_H35, a_H35⟩, ⟨B_H35, b_H35⟩, ⟨W_H35, w_H35⟩, ⟨X_H35, x_H35⟩, ⟨Y_H35, y_H35⟩, f_H35⟩ := r36
          refine E_run hk 5 (j' := 94) (lv' := [(1, .long z34), (0, .ref 63), (3, yi t)]) (st' := [.ref 63, .long (31 * z34)]) (hp' := H35) rfl ?_
          refine E_get (v := .ref 64) hk rfl e_H35 rfl ?_
          refine E_run hk 1 (j' := 96) (lv' := [(1, .long z34), (0, .ref 63), (3, yi t)]) (st' := [yi 5, .ref 64, .long (31 * z34)]) (hp' := H35) rfl ?_
          refine Y_iald (a := 5) (by omega) (by decide) hk rfl (f_H35.at (by decide) (f_H32.at (by decide) (f3.at (by decide) hS))) ?_
          refine E_run hk 1 (j' := 98) (lv' := [(1, .long z34), (0, .ref 63), (3, yi t)]) (st' := [yi (-1), yi (S 5), .long (31 * z34)]) (hp' := H35) rfl ?_
          refine Y_ic_ne (a := (S 5)) (b := (-1)) (by omega) hk rfl (fun g37 => ?_) (fun g37 => ?_)
          ·
            refine E_run hk 5 (j' := 106) (lv' := [(1, .long ((31 * z34) + ((iN 1).toInt64))), (0, .ref 63), (3, yi t)]) (st' := [.ref 63]) (hp' := H35) rfl ?_
            refine E_get (v := .ref 64) hk rfl e_H35 rfl ?_
            refine E_run hk 1 (j' := 108) (lv' := [(1, .long ((31 * z34) + ((iN 1).toInt64))), (0, .ref 63), (3, yi t)]) (st' := [yi 5, .ref 64]) (hp' := H35) rfl ?_
            refine Y_iald (a := 5) (by omega) (by decide) hk rfl (f_H35.at (by decide) (f_H32.at (by decide) (f3.at (by decide) hS))) ?_
            refine E_run hk 1 (j' := 110) (lv' := [(1, .long ((31 * z34) + ((iN 1).toInt64))), (0, .ref 63), (3, yi t)]) (st' := [yi (-1), yi (S 5)]) (hp' := H35) rfl ?_
            refine Y_ic_ne (a := (S 5)) (b := (-1)) (by omega) hk rfl (fun g38 => ?_) (fun g38 => ?_)
            ·
              refine E_run hk 5 (j' := 118) (lv' := [(1, .long ((31 * z34) + ((iN 1).toInt64))), (0, .ref 63), (3, yi t)]) (st' := [.ref 63, .long (31 * ((31 * z34) + ((iN 1).toInt64))), .long 31]) (hp' := H35) rfl ?_
              refine E_get (v := .ref 64) hk rfl e_H35 rfl ?_
              refine E_run hk 1 (j' := 120) (lv' := [(1, .long ((31 * z34) + ((iN 1).toInt64))), (0, .ref 63), (3, yi t)]) (st' := [yi 5, .ref 64, .long (31 * ((31 * z34) + ((iN 1).toInt64))), .long 31]) (hp' := H35) rfl ?_
              refine Y_iald (a := 5) (by omega) (by decide) hk rfl (f_H35.at (by decide) (f_H32.at (by decide) (f3.at (by decide) hS))) ?_
              refine E_run hk 4 (j' := 125) (lv' := [(1, .long ((31 * z34) + ((iN 1).toInt64))), (0, .ref 63), (3, yi t)]) (st' := [.ref 63, .long (31 * ((31 * ((31 * z34) + ((iN 1).toInt64))) + ((iN (S 5)).toInt64)))]) (hp' := H35) rfl ?_
              refine E_get (v := .ref 64) hk rfl e_H35 rfl ?_
              refine E_run hk 1 (j' := 127) (lv' := [(1, .long ((31 * z34) + ((iN 1).toInt64))), (0, .ref 63), (3, yi t)]) (st' := [yi 6, .ref 64, .long (31 * ((31 * ((31 * z34) + ((iN 1).toInt64))) + ((iN (S 5)).toInt64)))]) (hp' := H35) rfl ?_
              refine Y_iald (a := 6) (by omega) (by decide) hk rfl (f_H35.at (by decide) (f_H32.at (by decide) (f3.at (by decide) hS))) ?_
              refine E_run hk 7 (j' := 135) (lv' := [(1, .long ((31 * ((31 * ((31 * z34) + ((iN 1).toInt64))) + ((iN (S 5)).toInt64))) + ((iN (S 6)).toInt64))), (0, .ref 63), (3, yi t)]) (st' := [.ref 63, .long (31 * ((31 * ((31 * ((31 * z34) + ((iN 1).toInt64))) + ((iN (S 5)).toInt64))) + ((iN (S 6)).toInt64)))]) (hp' := H35) rfl ?_
              refine Y_callD hk rfl (as := [.ref 63]) (rest := [.long (31 * ((31 * ((31 * ((31 * z34) + ((iN 1).toInt64))) + ((iN (S 5)).toInt64))) + ((iN (S 6)).toInt64)))]) rfl rfl (Nat.le_of_ble_eq_true rfl) (rcv0 e_H35) (Nat.le_of_ble_eq_true rfl) (c_X9_share (v := (vup (vup (vup (vup v 0 0) 20 x_H32) 21 y_H32) 20 c_H35)) e_H35 (f_H35.at (by decide) (f_H32.at (by decide) (f3.at (by decide) hS))) hz h0 h1 b_H35 w_H35 x_H35 y_H35 (hd := by omega)) (fun z39 H40 r41 => ?_)
              obtain ⟨c_H40, A_H40, W_H40, P_H40, Q_H40, e_H40, a_H40, w_H40, p_H40, q_H40, m_H40, zh_H40, f_H40⟩ := r41
              obtain ⟨mc1_H40, mc2_H40, -⟩ := mtc_rng m_H40 (by omega)
              have hr_H40 := hld_rng P_H40 Q_H40 (c_H40 - 1).toNat
              refine Y_callP hk rfl (as := [.double z39]) (rest := [.long (31 * ((31 * ((31 * ((31 * z34) + ((iN 1).toInt64))) + ((iN (S 5)).toInt64))) + ((iN (S 6)).toInt64)))]) (v := some (.long z39.toInt64)) rfl rfl (Nat.le_of_ble_eq_true rfl) rfl (Nat.le_of_ble_eq_true rfl) (c_Jxe99ae_doubleToLongBits_ccdee (x := z39) (by rw [zh_H40]; exact shv_cmp (by omega)) (hd := by omega)) ?_
              refine E_run hk 6 (j' := 143) (lv' := [(1, .long ((31 * ((31 * ((31 * ((31 * z34) + ((iN 1).toInt64))) + ((iN (S 5)).toInt64))) + ((iN (S 6)).toInt64))) + z39.toInt64)), (0, .ref 63), (3, yi t)]) (st' := [.ref 63, .long (31 * ((31 * ((31 * ((31 * ((31 * z34) + ((iN 1).toInt64))) + ((iN (S 5)).toInt64))) + ((iN (S 6)).toInt64))) + z39.toInt64))]) (hp' := H40) rfl ?_
              refine E_get (v := yi (v 7)) hk rfl e_H40 rfl ?_
              refine E_run hk 3 (j' := 147) (lv' := [(1, .long ((31 * ((31 * ((31 * ((31 * ((31 * z34) + ((iN 1).toInt64))) + ((iN (S 5)).toInt64))) + ((iN (S 6)).toInt64))) + z39.toInt64)) + ((iN (v 7)).toInt64))), (0, .ref 63), (3, yi t)]) (st' := []) (hp' := H40) rfl ?_
              refine E_run hk 2 (j' := 149) (lv' := [(3, yi 0), (1, .long ((31 * ((31 * ((31 * ((31 * ((31 * z34) + ((iN 1).toInt64))) + ((iN (S 5)).toInt64))) + ((iN (S 6)).toInt64))) + z39.toInt64)) + ((iN (v 7)).toInt64))), (0, .ref 63)]) (st' := []) (hp' := H40) rfl ?_
              have loop149 : ∀ (N : Nat) (k3 : Int) (x9 : Int64), (0 ≤ k3 ∧ k3 ≤ v 7) → (x9 = hsf X ((31 * ((31 * ((31 * ((31 * ((31 * z34) + ((iN 1).toInt64))) + ((iN (S 5)).toInt64))) + ((iN (S 6)).toInt64))) + z39.toInt64)) + ((iN (v 7)).toInt64)) k3.toNat) → (v 7 - k3).toNat = N → Ev (d + 1) 249 149 [(0, .ref 63), (1, .long x9), (3, yi k3)] [] H40 (yL (fun z h => ∃ c n p q c2 p2 q2 c3 p3 q3, (0 < S 0 ∧ 0 < S 1 ∧ -S 2 ≤ S 0 - S 1 ∧ S 0 - S 1 ≤ S 2 → mtc S c p q ∧ isneed S n) ∧ mtc S c2 p2 q2 ∧ mtc S c3 p3 q3 ∧ z = hdz S X (shv c3 (hld p3 q3 (c3 - 1).toNat)).toInt64 (v 7) (hmt S p2 q2 c2 (hct S c (hld p q (c - 1).toNat) n (v 3) (hd0 S))) ∧ (∃ e a b, xat h 63 = some (yMo (vup (vup (vup v 0 e) 20 a) 21 b))) ∧ (∃ u, xat h 70 = some (yI 400 u)) ∧ (∃ u, xat h 71 = some (yI 400 u)) ∧ (∃ u, xat h 72 = some (yI 400 u)) ∧ (∃ u, xat h 73 = some (yI 400 u)) ∧ (∃ u, xat h 74 = some (yI 40 u)) ∧ (∃ u, xat h 75 = some (yI 40 u)) ∧ yfr [63, 70, 71, 72, 73, 74, 75] hp h)) := by
                intro N
                induction N using Nat.strongRecOn with
                | ind N ih149 =>
                  intro k3 x9 V1 V2 hm149
                  refine E_run hk 1 (j' := 150) (lv' := [(0, .ref 63), (1, .long x9), (3, yi k3)]) (st' := [yi k3]) (hp' := H40) rfl ?_
                  refine E_run hk 1 (j' := 151) (lv' := [(0, .ref 63), (1, .long x9), (3, yi k3)]) (st' := [.ref 63, yi k3]) (hp' := H40) rfl ?_
                  refine E_get (v := yi (v 7)) hk rfl e_H40 rfl ?_
                  refine Y_ic_ge (a := k3) (b := (v 7)) (by omega) hk rfl (fun g42 => ?_) (fun g42 => ?_)
                  ·
                    refine E_run hk 1 (j' := 166) (lv' := [(0, .ref 63), (1, .long x9), (3, yi k3)]) (st' := [.long x9]) (hp' := H40) rfl ?_
                    exact E_ret hk rfl rfl ⟨_, rfl, c_H32, n_H32, P_H32, Q_H32, _, _, _, _, _, _, m_H32, m_H35, m_H40, by rw [V2, show k3 = v 7 by omega]; unfold hdz; rw [← zh_H40, ← zy_H32, ← zz_H35]; unfold hds; first | (exfalso; omega) | (rw [if_pos (by omega)]; rfl) | (rw [if_neg (by omega)]; rfl), ⟨0, c_H40, y_H32, e_H40⟩, ⟨_, (f_H40.at (by decide) a_H35)⟩, ⟨_, a_H40⟩, ⟨_, w_H40⟩, ⟨_, (f_H40.at (by decide) (f_H35.at (by decide) a73_H32))⟩, ⟨_, p_H40⟩, ⟨_, q_H40⟩, (yfr.tr (yfr.tr (yfr.tr (f3.mono (by decide)) f_H32 (fun _ h => h) (by decide)) f_H35 (fun _ h => h) (by decide)) f_H40 (fun _ h => h) (by decide))⟩
                  ·
                    refine E_run hk 4 (j' := 157) (lv' := [(0, .ref 63), (1, .long x9), (3, yi k3)]) (st' := [.ref 63, .long (31 * x9)]) (hp' := H40) rfl ?_
                    refine E_get (v := .ref 67) hk rfl e_H40 rfl ?_
                    refine E_run hk 1 (j' := 159) (lv' := [(0, .ref 63), (1, .long x9), (3, yi k3)]) (st' := [yi k3, .ref 67, .long (31 * x9)]) (hp' := H40) rfl ?_
                    refine Y_iald (a := k3) (by omega) (by decide) hk rfl (f_H40.at (by decide) (f_H35.at (by decide) (f_H32.at (by decide) (f3.at (by decide) hX)))) ?_
                    refine E_run hk 3 (j' := 163) (lv' := [(1, .long ((31 * x9) + ((iN (X k3)).toInt64))), (0, .ref 63), (3, yi k3)]) (st' := []) (hp' := H40) rfl ?_
                    refine Y_iinc (a := k3) (z := 1) hk rfl rfl rfl (by decide) (lv' := [(3, yi (k3 + 1)), (1, .long ((31 * x9) + ((iN (X k3)).toInt64))), (0, .ref 63)]) rfl ?_
                    refine E_run hk 1 (j' := 149) (lv' := [(3, yi (k3 + 1)), (1, .long ((31 * x9) + ((iN (X k3)).toInt64))), (0, .ref 63)]) (st' := []) (hp' := H40) rfl ?_
                    exact Ev_le (xle_s rfl rfl (xle_s rfl rfl (xle_s rfl rfl (xle_z _ rfl)))) (ih149 _ (by omega) (k3 + 1) ((31 * x9) + ((iN (X k3)).toInt64))  (by omega) (by rw [hsf_s (by omega), ← V2]; rfl) rfl)
              exact Ev_le (xle_s rfl rfl (xle_s rfl rfl (xle_s rfl rfl (xle_z _ rfl)))) (loop149 _ 0 ((31 * ((31 * ((31 * ((31 * ((31 * z34) + ((iN 1).toInt64))) + ((iN (S 5)).toInt64))) + ((iN (S 6)).toInt64))) + z39.toInt64)) + ((iN (v 7)).toInt64))  (by omega) (rfl) rfl)
            ·
              refine E_run hk 7 (j' := 135) (lv' := [(1, .long ((31 * z34) + ((iN 1).toInt64))), (0, .ref 63), (3, yi t)]) (st' := [.ref 63, .long (31 * ((31 * z34) + ((iN 1).toInt64)))]) (hp' := H35) rfl ?_
              refine Y_callD hk rfl (as := [.ref 63]) (rest := [.long (31 * ((31 * z34) + ((iN 1).toInt64)))]) rfl rfl (Nat.le_of_ble_eq_true rfl) (rcv0 e_H35) (Nat.le_of_ble_eq_true rfl) (c_X9_share (v := (vup (vup (vup (vup v 0 0) 20 x_H32) 21 y_H32) 20 c_H35)) e_H35 (f_H35.at (by decide) (f_H32.at (by decide) (f3.at (by decide) hS))) hz h0 h1 b_H35 w_H35 x_H35 y_H35 (hd := by omega)) (fun z43 H44 r45 => ?_)
              obtain ⟨c_H44, A_H44, W_H44, P_H44, Q_H44, e_H44, a_H44, w_H44, p_H44, q_H44, m_H44, zh_H44, f_H44⟩ := r45
              obtain ⟨mc1_H44, mc2_H44, -⟩ := mtc_rng m_H44 (by omega)
              have hr_H44 := hld_rng P_H44 Q_H44 (c_H44 - 1).toNat
              refine Y_callP hk rfl (as := [.double z43]) (rest := [.long (31 * ((31 * z34) + ((iN 1).toInt64)))]) (v := some (.long z43.toInt64)) rfl rfl (Nat.le_of_ble_eq_true rfl) rfl (Nat.le_of_ble_eq_true rfl) (c_Jxe99ae_doubleToLongBits_ccdee (x := z43) (by rw [zh_H44]; exact shv_cmp (by omega)) (hd := by omega)) ?_
              refine E_run hk 6 (j' := 143) (lv' := [(1, .long ((31 * ((31 * z34) + ((iN 1).toInt64))) + z43.toInt64)), (0, .ref 63), (3, yi t)]) (st' := [.ref 63, .long (31 * ((31 * ((31 * z34) + ((iN 1).toInt64))) + z43.toInt64))]) (hp' := H44) rfl ?_
              refine E_get (v := yi (v 7)) hk rfl e_H44 rfl ?_
              refine E_run hk 3 (j' := 147) (lv' := [(1, .long ((31 * ((31 * ((31 * z34) + ((iN 1).toInt64))) + z43.toInt64)) + ((iN (v 7)).toInt64))), (0, .ref 63), (3, yi t)]) (st' := []) (hp' := H44) rfl ?_
              refine E_run hk 2 (j' := 149) (lv' := [(3, yi 0), (1, .long ((31 * ((31 * ((31 * z34) + ((iN 1).toInt64))) + z43.toInt64)) + ((iN (v 7)).toInt64))), (0, .ref 63)]) (st' := []) (hp' := H44) rfl ?_
              have loop149 : ∀ (N : Nat) (k3 : Int) (x9 : Int64), (0 ≤ k3 ∧ k3 ≤ v 7) → (x9 = hsf X ((31 * ((31 * ((31 * z34) + ((iN 1).toInt64))) + z43.toInt64)) + ((iN (v 7)).toInt64)) k3.toNat) → (v 7 - k3).toNat = N → Ev (d + 1) 249 149 [(0, .ref 63), (1, .long x9), (3, yi k3)] [] H44 (yL (fun z h => ∃ c n p q c2 p2 q2 c3 p3 q3, (0 < S 0 ∧ 0 < S 1 ∧ -S 2 ≤ S 0 - S 1 ∧ S 0 - S 1 ≤ S 2 → mtc S c p q ∧ isneed S n) ∧ mtc S c2 p2 q2 ∧ mtc S c3 p3 q3 ∧ z = hdz S X (shv c3 (hld p3 q3 (c3 - 1).toNat)).toInt64 (v 7) (hmt S p2 q2 c2 (hct S c (hld p q (c - 1).toNat) n (v 3) (hd0 S))) ∧ (∃ e a b, xat h 63 = some (yMo (vup (vup (vup v 0 e) 20 a) 21 b))) ∧ (∃ u, xat h 70 = some (yI 400 u)) ∧ (∃ u, xat h 71 = some (yI 400 u)) ∧ (∃ u, xat h 72 = some (yI 400 u)) ∧ (∃ u, xat h 73 = some (yI 400 u)) ∧ (∃ u, xat h 74 = some (yI 40 u)) ∧ (∃ u, xat h 75 = some (yI 40 u)) ∧ yfr [63, 70, 71, 72, 73, 74, 75] hp h)) := by
                intro N
                induction N using Nat.strongRecOn with
                | ind N ih149 =>
                  intro k3 x9 V1 V2 hm149
                  refine E_run hk 1 (j' := 150) (lv' := [(0, .ref 63), (1, .long x9), (3, yi k3)]) (st' := [yi k3]) (hp' := H44) rfl ?_
                  refine E_run hk 1 (j' := 151) (lv' := [(0, .ref 63), (1, .long x9), (3, yi k3)]) (st' := [.ref 63, yi k3]) (hp' := H44) rfl ?_
                  refine E_get (v := yi (v 7)) hk rfl e_H44 rfl ?_
                  refine Y_ic_ge (a := k3) (b := (v 7)) (by omega) hk rfl (fun g46 => ?_) (fun g46 => ?_)
                  ·
                    refine E_run hk 1 (j' := 166) (lv' := [(0, .ref 63), (1, .long x9), (3, yi k3)]) (st' := [.long x9]) (hp' := H44) rfl ?_
                    exact E_ret hk rfl rfl ⟨_, rfl, c_H32, n_H32, P_H32, Q_H32, _, _, _, _, _, _, m_H32, m_H35, m_H44, by rw [V2, show k3 = v 7 by omega]; unfold hdz; rw [← zh_H44, ← zy_H32, ← zz_H35]; unfold hds; first | (exfalso; omega) | (rw [if_pos (by omega)]; rfl) | (rw [if_neg (by omega)]; rfl), ⟨0, c_H44, y_H32, e_H44⟩, ⟨_, (f_H44.at (by decide) a_H35)⟩, ⟨_, a_H44⟩, ⟨_, w_H44⟩, ⟨_, (f_H44.at (by decide) (f_H35.at (by decide) a73_H32))⟩, ⟨_, p_H44⟩, ⟨_, q_H44⟩, (yfr.tr (yfr.tr (yfr.tr (f3.mono (by decide)) f_H32 (fun _ h => h) (by decide)) f_H35 (fun _ h => h) (by decide)) f_H44 (fun _ h => h) (by decide))⟩
                  ·
                    refine E_run hk 4 (j' := 157) (lv' := [(0, .ref 63), (1, .long x9), (3, yi k3)]) (st' := [.ref 63, .long (31 * x9)]) (hp' := H44) rfl ?_
                    refine E_get (v := .ref 67) hk rfl e_H44 rfl ?_
                    refine E_run hk 1 (j' := 159) (lv' := [(0, .ref 63), (1, .long x9), (3, yi k3)]) (st' := [yi k3, .ref 67, .long (31 * x9)]) (hp' := H44) rfl ?_
                    refine Y_iald (a := k3) (by omega) (by decide) hk rfl (f_H44.at (by decide) (f_H35.at (by decide) (f_H32.at (by decide) (f3.at (by decide) hX)))) ?_
                    refine E_run hk 3 (j' := 163) (lv' := [(1, .long ((31 * x9) + ((iN (X k3)).toInt64))), (0, .ref 63), (3, yi k3)]) (st' := []) (hp' := H44) rfl ?_
                    refine Y_iinc (a := k3) (z := 1) hk rfl rfl rfl (by decide) (lv' := [(3, yi (k3 + 1)), (1, .long ((31 * x9) + ((iN (X k3)).toInt64))), (0, .ref 63)]) rfl ?_
                    refine E_run hk 1 (j' := 149) (lv' := [(3, yi (k3 + 1)), (1, .long ((31 * x9) + ((iN (X k3)).toInt64))), (0, .ref 63)]) (st' := []) (hp' := H44) rfl ?_
                    exact Ev_le (xle_s rfl rfl (xle_s rfl rfl (xle_s rfl rfl (xle_z _ rfl)))) (ih149 _ (by omega) (k3 + 1) ((31 * x9) + ((iN (X k3)).toInt64))  (by omega) (by rw [hsf_s (by omega), ← V2]; rfl) rfl)
              exact Ev_le (xle_s rfl rfl (xle_s rfl rfl (xle_s rfl rfl (xle_z _ rfl)))) (loop149 _ 0 ((31 * ((31 * ((31 * z34) + ((iN 1).toInt64))) + z43.toInt64)) + ((iN (v 7)).toInt64))  (by omega) (rfl) rfl)
          ·
            refine E_run hk 6 (j' := 106) (lv' := [(1, .long ((31 * z34) + ((iN 0).toInt64))), (0, .ref 63), (3, yi t)]) (st' := [.ref 63]) (hp' := H35) rfl ?_
            refine E_get (v := .ref 64) hk rfl e_H35 rfl ?_
            refine E_run hk 1 (j' := 108) (lv' := [(1, .long ((31 * z34) + ((iN 0).toInt64))), (0, .ref 63), (3, yi t)]) (st' := [yi 5, .ref 64]) (hp' := H35) rfl ?_
            refine Y_iald (a := 5) (by omega) (by decide) hk rfl (f_H35.at (by decide) (f_H32.at (by decide) (f3.at (by decide) hS))) ?_
            refine E_run hk 1 (j' := 110) (lv' := [(1, .long ((31 * z34) + ((iN 0).toInt64))), (0, .ref 63), (3, yi t)]) (st' := [yi (-1), yi (S 5)]) (hp' := H35) rfl ?_
            refine Y_ic_ne (a := (S 5)) (b := (-1)) (by omega) hk rfl (fun g47 => ?_) (fun g47 => ?_)
            ·
              refine E_run hk 5 (j' := 118) (lv' := [(1, .long ((31 * z34) + ((iN 0).toInt64))), (0, .ref 63), (3, yi t)]) (st' := [.ref 63, .long (31 * ((31 * z34) + ((iN 0).toInt64))), .long 31]) (hp' := H35) rfl ?_
              refine E_get (v := .ref 64) hk rfl e_H35 rfl ?_
              refine E_run hk 1 (j' := 120) (lv' := [(1, .long ((31 * z34) + ((iN 0).toInt64))), (0, .ref 63), (3, yi t)]) (st' := [yi 5, .ref 64, .long (31 * ((31 * z34) + ((iN 0).toInt64))), .long 31]) (hp' := H35) rfl ?_
              refine Y_iald (a := 5) (by omega) (by decide) hk rfl (f_H35.at (by decide) (f_H32.at (by decide) (f3.at (by decide) hS))) ?_
              refine E_run hk 4 (j' := 125) (lv' := [(1, .long ((31 * z34) + ((iN 0).toInt64))), (0, .ref 63), (3, yi t)]) (st' := [.ref 63, .long (31 * ((31 * ((31 * z34) + ((iN 0).toInt64))) + ((iN (S 5)).toInt64)))]) (hp' := H35) rfl ?_
              refine E_get (v := .ref 64) hk rfl e_H35 rfl ?_
              refine E_run hk 1 (j' := 127) (lv' := [(1, .long ((31 * z34) + ((iN 0).toInt64))), (0, .ref 63), (3, yi t)]) (st' := [yi 6, .ref 64, .long (31 * ((31 * ((31 * z34) + ((iN 0).toInt64))) + ((iN (S 5)).toInt64)))]) (hp' := H35) rfl ?_
              refine Y_iald (a := 6) (by omega) (by decide) hk rfl (f_H35.at (by decide) (f_H32.at (by decide) (f3.at (by decide) hS))) ?_
              refine E_run hk 7 (j' := 135) (lv' := [(1, .long ((31 * ((31 * ((31 * z34) + ((iN 0).toInt64))) + ((iN (S 5)).toInt64))) + ((iN (S 6)).toInt64))), (0, .ref 63), (3, yi t)]) (st' := [.ref 63, .long (31 * ((31 * ((31 * ((31 * z34) + ((iN 0).toInt64))) + ((iN (S 5)).toInt64))) + ((iN (S 6)).toInt64)))]) (hp' := H35) rfl ?_
              refine Y_callD hk rfl (as := [.ref 63]) (rest := [.long (31 * ((31 * ((31 * ((31 * z34) + ((iN 0).toInt64))) + ((iN (S 5)).toInt64))) + ((iN (S 6)).toInt64)))]) rfl rfl (Nat.le_of_ble_eq_true rfl) (rcv0 e_H35) (Nat.le_of_ble_eq_true rfl) (c_X9_share (v := (vup (vup (vup (vup v 0 0) 20 x_H32) 21 y_H32) 20 c_H35)) e_H35 (f_H35.at (by decide) (f_H32.at (by decide) (f3.at (by decide) hS))) hz h0 h1 b_H35 w_H35 x_H35 y_H35 (hd := by omega)) (fun z48 H49 r50 => ?_)
              obtain ⟨c_H49, A_H49, W_H49, P_H49, Q_H49, e_H49, a_H49, w_H49, p_H49, q_H49, m_H49, zh_H49, f_H49⟩ := r50
              obtain ⟨mc1_H49, mc2_H49, -⟩ := mtc_rng m_H49 (by omega)
              have hr_H49 := hld_rng P_H49 Q_H49 (c_H49 - 1).toNat
              refine Y_callP hk rfl (as := [.double z48]) (rest := [.long (31 * ((31 * ((31 * ((31 * z34) + ((iN 0).toInt64))) + ((iN (S 5)).toInt64))) + ((iN (S 6)).toInt64)))]) (v := some (.long z48.toInt64)) rfl rfl (Nat.le_of_ble_eq_true rfl) rfl (Nat.le_of_ble_eq_true rfl) (c_Jxe99ae_doubleToLongBits_ccdee (x := z48) (by rw [zh_H49]; exact shv_cmp (by omega)) (hd := by omega)) ?_
              refine E_run hk 6 (j' := 143) (lv' := [(1, .long ((31 * ((31 * ((31 * ((31 * z34) + ((iN 0).toInt64))) + ((iN (S 5)).toInt64))) + ((iN (S 6)).toInt64))) + z48.toInt64)), (0, .ref 63), (3, yi t)]) (st' := [.ref 63, .long (31 * ((31 * ((31 * ((31 * ((31 * z34) + ((iN 0).toInt64))) + ((iN (S 5)).toInt64))) + ((iN (S 6)).toInt64))) + z48.toInt64))]) (hp' := H49) rfl ?_
              refine E_get (v := yi (v 7)) hk rfl e_H49 rfl ?_
              refine E_run hk 3 (j' := 147) (lv' := [(1, .long ((31 * ((31 * ((31 * ((31 * ((31 * z34) + ((iN 0).toInt64))) + ((iN (S 5)).toInt64))) + ((iN (S 6)).toInt64))) + z48.toInt64)) + ((iN (v 7)).toInt64))), (0, .ref 63), (3, yi t)]) (st' := []) (hp' := H49) rfl ?_
              refine E_run hk 2 (j' := 149) (lv' := [(3, yi 0), (1, .long ((31 * ((31 * ((31 * ((31 * ((31 * z34) + ((iN 0).toInt64))) + ((iN (S 5)).toInt64))) + ((iN (S 6)).toInt64))) + z48.toInt64)) + ((iN (v 7)).toInt64))), (0, .ref 63)]) (st' := []) (hp' := H49) rfl ?_
              have loop149 : ∀ (N : Nat) (k3 : Int) (x9 : Int64), (0 ≤ k3 ∧ k3 ≤ v 7) → (x9 = hsf X ((31 * ((31 * ((31 * ((31 * ((31 * z34) + ((iN 0).toInt64))) + ((iN (S 5)).toInt64))) + ((iN (S 6)).toInt64))) + z48.toInt64)) + ((iN (v 7)).toInt64)) k3.toNat) → (v 7 - k3).toNat = N → Ev (d + 1) 249 149 [(0, .ref 63), (1, .long x9), (3, yi k3)] [] H49 (yL (fun z h => ∃ c n p q c2 p2 q2 c3 p3 q3, (0 < S 0 ∧ 0 < S 1 ∧ -S 2 ≤ S 0 - S 1 ∧ S 0 - S 1 ≤ S 2 → mtc S c p q ∧ isneed S n) ∧ mtc S c2 p2 q2 ∧ mtc S c3 p3 q3 ∧ z = hdz S X (shv c3 (hld p3 q3 (c3 - 1).toNat)).toInt64 (v 7) (hmt S p2 q2 c2 (hct S c (hld p q (c - 1).toNat) n (v 3) (hd0 S))) ∧ (∃ e a b, xat h 63 = some (yMo (vup (vup (vup v 0 e) 20 a) 21 b))) ∧ (∃ u, xat h 70 = some (yI 400 u)) ∧ (∃ u, xat h 71 = some (yI 400 u)) ∧ (∃ u, xat h 72 = some (yI 400 u)) ∧ (∃ u, xat h 73 = some (yI 400 u)) ∧ (∃ u, xat h 74 = some (yI 40 u)) ∧ (∃ u, xat h 75 = some (yI 40 u)) ∧ yfr [63, 70, 71, 72, 73, 74, 75] hp h)) := by
                intro N
                induction N using Nat.strongRecOn with
                | ind N ih149 =>
                  intro k3 x9 V1 V2 hm149
                  refine E_run hk 1 (j' := 150) (lv' := [(0, .ref 63), (1, .long x9), (3, yi k3)]) (st' := [yi k3]) (hp' := H49) rfl ?_
                  refine E_run hk 1 (j' := 151) (lv' := [(0, .ref 63), (1, .long x9), (3, yi k3)]) (st' := [.ref 63, yi k3]) (hp' := H49) rfl ?_
                  refine E_get (v := yi (v 7)) hk rfl e_H49 rfl ?_
                  refine Y_ic_ge (a := k3) (b := (v 7)) (by omega) hk rfl (fun g51 => ?_) (fun g51 => ?_)
                  ·
                    refine E_run hk 1 (j' := 166) (lv' := [(0, .ref 63), (1, .long x9), (3, yi k3)]) (st' := [.long x9]) (hp' := H49) rfl ?_
                    exact E_ret hk rfl rfl ⟨_, rfl, c_H32, n_H32, P_H32, Q_H32, _, _, _, _, _, _, m_H32, m_H35, m_H49, by rw [V2, show k3 = v 7 by omega]; unfold hdz; rw [← zh_H49, ← zy_H32, ← zz_H35]; unfold hds; first | (exfalso; omega) | (rw [if_pos (by omega)]; rfl) | (rw [if_neg (by omega)]; rfl), ⟨0, c_H49, y_H32, e_H49⟩, ⟨_, (f_H49.at (by decide) a_H35)⟩, ⟨_, a_H49⟩, ⟨_, w_H49⟩, ⟨_, (f_H49.at (by decide) (f_H35.at (by decide) a73_H32))⟩, ⟨_, p_H49⟩, ⟨_, q_H49⟩, (yfr.tr (yfr.tr (yfr.tr (f3.mono (by decide)) f_H32 (fun _ h => h) (by decide)) f_H35 (fun _ h => h) (by decide)) f_H49 (fun _ h => h) (by decide))⟩
                  ·
                    refine E_run hk 4 (j' := 157) (lv' := [(0, .ref 63), (1, .long x9), (3, yi k3)]) (st' := [.ref 63, .long (31 * x9)]) (hp' := H49) rfl ?_
                    refine E_get (v := .ref 67) hk rfl e_H49 rfl ?_
                    refine E_run hk 1 (j' := 159) (lv' := [(0, .ref 63), (1, .long x9), (3, yi k3)]) (st' := [yi k3, .ref 67, .long (31 * x9)]) (hp' := H49) rfl ?_
                    refine Y_iald (a := k3) (by omega) (by decide) hk rfl (f_H49.at (by decide) (f_H35.at (by decide) (f_H32.at (by decide) (f3.at (by decide) hX)))) ?_
                    refine E_run hk 3 (j' := 163) (lv' := [(1, .long ((31 * x9) + ((iN (X k3)).toInt64))), (0, .ref 63), (3, yi k3)]) (st' := []) (hp' := H49) rfl ?_
                    refine Y_iinc (a := k3) (z := 1) hk rfl rfl rfl (by decide) (lv' := [(3, yi (k3 + 1)), (1, .long ((31 * x9) + ((iN (X k3)).toInt64))), (0, .ref 63)]) rfl ?_
                    refine E_run hk 1 (j' := 149) (lv' := [(3, yi (k3 + 1)), (1, .long ((31 * x9) + ((iN (X k3)).toInt64))), (0, .ref 63)]) (st' := []) (hp' := H49) rfl ?_
                    exact Ev_le (xle_s rfl rfl (xle_s rfl rfl (xle_s rfl rfl (xle_z _ rfl)))) (ih149 _ (by omega) (k3 + 1) ((31 * x9) + ((iN (X k3)).toInt64))  (by omega) (by rw [hsf_s (by omega), ← V2]; rfl) rfl)
              exact Ev_le (xle_s rfl rfl (xle_s rfl rfl (xle_s rfl rfl (xle_z _ rfl)))) (loop149 _ 0 ((31 * ((31 * ((31 * ((31 * ((31 * z34) + ((iN 0).toInt64))) + ((iN (S 5)).toInt64))) + ((iN (S 6)).toInt64))) + z48.toInt64)) + ((iN (v 7)).toInt64))  (by omega) (rfl) rfl)
            ·
              refine E_run hk 7 (j' := 135) (lv' := [(1, .long ((31 * z34) + ((iN 0).toInt64))), (0, .ref 63), (3, yi t)]) (st' := [.ref 63, .long (31 * ((31 * z34) + ((iN 0).toInt64)))]) (hp' := H35) rfl ?_
              refine Y_callD hk rfl (as := [.ref 63]) (rest := [.long (31 * ((31 * z34) + ((iN 0).toInt64)))]) rfl rfl (Nat.le_of_ble_eq_true rfl) (rcv0 e_H35) (Nat.le_of_ble_eq_true rfl) (c_X9_share (v := (vup (vup (vup (vup v 0 0) 20 x_H32) 21 y_H32) 20 c_H35)) e_H35 (f_H35.at (by decide) (f_H32.at (by decide) (f3.at (by decide) hS))) hz h0 h1 b_H35 w_H35 x_H35 y_H35 (hd := by omega)) (fun z52 H53 r54 => ?_)
              obtain ⟨c_H53, A_H53, W_H53, P_H53, Q_H53, e_H53, a_H53, w_H53, p_H53, q_H53, m_H53, zh_H53, f_H53⟩ := r54
              obtain ⟨mc1_H53, mc2_H53, -⟩ := mtc_rng m_H53 (by omega)
              have hr_H53 := hld_rng P_H53 Q_H53 (c_H53 - 1).toNat
              refine Y_callP hk rfl (as := [.double z52]) (rest := [.long (31 * ((31 * z34) + ((iN 0).toInt64)))]) (v := some (.long z52.toInt64)) rfl rfl (Nat.le_of_ble_eq_true rfl) rfl (Nat.le_of_ble_eq_true rfl) (c_Jxe99ae_doubleToLongBits_ccdee (x := z52) (by rw [zh_H53]; exact shv_cmp (by omega)) (hd := by omega)) ?_
              refine E_run hk 6 (j' := 143) (lv' := [(1, .long ((31 * ((31 * z34) + ((iN 0).toInt64))) + z52.toInt64)), (0, .ref 63), (3, yi t)]) (st' := [.ref 63, .long (31 * ((31 * ((31 * z34) + ((iN 0).toInt64))) + z52.toInt64))]) (hp' := H53) rfl ?_
              refine E_get (v := yi (v 7)) hk rfl e_H53 rfl ?_
              refine E_run hk 3 (j' := 147) (lv' := [(1, .long ((31 * ((31 * ((31 * z34) + ((iN 0).toInt64))) + z52.toInt64)) + ((iN (v 7)).toInt64))), (0, .ref 63), (3, yi t)]) (st' := []) (hp' := H53) rfl ?_
              refine E_run hk 2 (j' := 149) (lv' := [(3, yi 0), (1, .long ((31 * ((31 * ((31 * z34) + ((iN 0).toInt64))) + z52.toInt64)) + ((iN (v 7)).toInt64))), (0, .ref 63)]) (st' := []) (hp' := H53) rfl ?_
              have loop149 : ∀ (N : Nat) (k3 : Int) (x9 : Int64), (0 ≤ k3 ∧ k3 ≤ v 7) → (x9 = hsf X ((31 * ((31 * ((31 * z34) + ((iN 0).toInt64))) + z52.toInt64)) + ((iN (v 7)).toInt64)) k3.toNat) → (v 7 - k3).toNat = N → Ev (d + 1) 249 149 [(0, .ref 63), (1, .long x9), (3, yi k3)] [] H53 (yL (fun z h => ∃ c n p q c2 p2 q2 c3 p3 q3, (0 < S 0 ∧ 0 < S 1 ∧ -S 2 ≤ S 0 - S 1 ∧ S 0 - S 1 ≤ S 2 → mtc S c p q ∧ isneed S n) ∧ mtc S c2 p2 q2 ∧ mtc S c3 p3 q3 ∧ z = hdz S X (shv c3 (hld p3 q3 (c3 - 1).toNat)).toInt64 (v 7) (hmt S p2 q2 c2 (hct S c (hld p q (c - 1).toNat) n (v 3) (hd0 S))) ∧ (∃ e a b, xat h 63 = some (yMo (vup (vup (vup v 0 e) 20 a) 21 b))) ∧ (∃ u, xat h 70 = some (yI 400 u)) ∧ (∃ u, xat h 71 = some (yI 400 u)) ∧ (∃ u, xat h 72 = some (yI 400 u)) ∧ (∃ u, xat h 73 = some (yI 400 u)) ∧ (∃ u, xat h 74 = some (yI 40 u)) ∧ (∃ u, xat h 75 = some (yI 40 u)) ∧ yfr [63, 70, 71, 72, 73, 74, 75] hp h)) := by
                intro N
                induction N using Nat.strongRecOn with
                | ind N ih149 =>
                  intro k3 x9 V1 V2 hm149
                  refine E_run hk 1 (j' := 150) (lv' := [(0, .ref 63), (1, .long x9), (3, yi k3)]) (st' := [yi k3]) (hp' := H53) rfl ?_
                  refine E_run hk 1 (j' := 151) (lv' := [(0, .ref 63), (1, .long x9), (3, yi k3)]) (st' := [.ref 63, yi k3]) (hp' := H53) rfl ?_
                  refine E_get (v := yi (v 7)) hk rfl e_H53 rfl ?_
                  refine Y_ic_ge (a := k3) (b := (v 7)) (by omega) hk rfl (fun g55 => ?_) (fun g55 => ?_)
                  ·
                    refine E_run hk 1 (j' := 166) (lv' := [(0, .ref 63), (1, .long x9), (3, yi k3)]) (st' := [.long x9]) (hp' := H53) rfl ?_
                    exact E_ret hk rfl rfl ⟨_, rfl, c_H32, n_H32, P_H32, Q_H32, _, _, _, _, _, _, m_H32, m_H35, m_H53, by rw [V2, show k3 = v 7 by omega]; unfold hdz; rw [← zh_H53, ← zy_H32, ← zz_H35]; unfold hds; first | (exfalso; omega) | (rw [if_pos (by omega)]; rfl) | (rw [if_neg (by omega)]; rfl), ⟨0, c_H53, y_H32, e_H53⟩, ⟨_, (f_H53.at (by decide) a_H35)⟩, ⟨_, a_H53⟩, ⟨_, w_H53⟩, ⟨_, (f_H53.at (by decide) (f_H35.at (by decide) a73_H32))⟩, ⟨_, p_H53⟩, ⟨_, q_H53⟩, (yfr.tr (yfr.tr (yfr.tr (f3.mono (by decide)) f_H32 (fun _ h => h) (by decide)) f_H35 (fun _ h => h) (by decide)) f_H53 (fun _ h => h) (by decide))⟩
                  ·
                    refine E_run hk 4 (j' := 157) (lv' := [(0, .ref 63), (1, .long x9), (3, yi k3)]) (st' := [.ref 63, .long (31 * x9)]) (hp' := H53) rfl ?_
                    refine E_get (v := .ref 67) hk rfl e_H53 rfl ?_
                    refine E_run hk 1 (j' := 159) (lv' := [(0, .ref 63), (1, .long x9), (3, yi k3)]) (st' := [yi k3, .ref 67, .long (31 * x9)]) (hp' := H53) rfl ?_
                    refine Y_iald (a := k3) (by omega) (by decide) hk rfl (f_H53.at (by decide) (f_H35.at (by decide) (f_H32.at (by decide) (f3.at (by decide) hX)))) ?_
                    refine E_run hk 3 (j' := 163) (lv' := [(1, .long ((31 * x9) + ((iN (X k3)).toInt64))), (0, .ref 63), (3, yi k3)]) (st' := []) (hp' := H53) rfl ?_
                    refine Y_iinc (a := k3) (z := 1) hk rfl rfl rfl (by decide) (lv' := [(3, yi (k3 + 1)), (1, .long ((31 * x9) + ((iN (X k3)).toInt64))), (0, .ref 63)]) rfl ?_
                    refine E_run hk 1 (j' := 149) (lv' := [(3, yi (k3 + 1)), (1, .long ((31 * x9) + ((iN (X k3)).toInt64))), (0, .ref 63)]) (st' := []) (hp' := H53) rfl ?_
                    exact Ev_le (xle_s rfl rfl (xle_s rfl rfl (xle_s rfl rfl (xle_z _ rfl)))) (ih149 _ (by omega) (k3 + 1) ((31 * x9) + ((iN (X k3)).toInt64))  (by omega) (by rw [hsf_s (by omega), ← V2]; rfl) rfl)
              exact Ev_le (xle_s rfl rfl (xle_s rfl rfl (xle_s rfl rfl (xle_z _ rfl)))) (loop149 _ 0 ((31 * ((31 * ((31 * z34) + ((iN 0).toInt64))) + z52.toInt64)) + ((iN (v 7)).toInt64))  (by omega) (rfl) rfl)
      ·
        have w2 : 0 ≤ S (0 + t) ∧ S (0 + t) ≤ 20 := by rcases (by omega : t = 0 ∨ t = 1) with q | q <;> rw [q] <;> first | exact ⟨hz.1, hz.2.1⟩ | exact ⟨hz.2.2.1, hz.2.2.2.1⟩
        refine E_run hk 5 (j' := 15) (lv' := [(0, .ref 63), (1, .long x), (3, yi t)]) (st' := [yi t, .ref 63, .long (31 * x)]) (hp' := H1) rfl ?_
        refine Y_callP hk rfl (as := [.ref 63, yi t]) (rest := [.long (31 * x)]) (v := some (yi (S (0 + t)))) rfl rfl (Nat.le_of_ble_eq_true rfl) (rcv0 e2) (Nat.le_of_ble_eq_true rfl) (c_X9_many (t := t) (v := (vup v 0 0)) e2 (f3.at (by decide) hS) (by omega)) ?_
        refine E_run hk 5 (j' := 21) (lv' := [(4, yi 0), (1, .long ((31 * x) + ((iN (S (0 + t))).toInt64))), (0, .ref 63), (3, yi t)]) (st' := []) (hp' := H1) rfl ?_
        have loop21 : ∀ (N : Nat) (k : Int) (x1 : Int64), (0 ≤ k ∧ k ≤ S (0 + t)) → (x1 = hsf (fun k => S (7 + 20 * t + k)) (hx x (S (0 + t))) k.toNat) → (S (0 + t) - k).toNat = N → Ev (d + 1) 249 21 [(0, .ref 63), (1, .long x1), (3, yi t), (4, yi k)] [] H1 (yL (fun z h => ∃ c n p q c2 p2 q2 c3 p3 q3, (0 < S 0 ∧ 0 < S 1 ∧ -S 2 ≤ S 0 - S 1 ∧ S 0 - S 1 ≤ S 2 → mtc S c p q ∧ isneed S n) ∧ mtc S c2 p2 q2 ∧ mtc S c3 p3 q3 ∧ z = hdz S X (shv c3 (hld p3 q3 (c3 - 1).toNat)).toInt64 (v 7) (hmt S p2 q2 c2 (hct S c (hld p q (c - 1).toNat) n (v 3) (hd0 S))) ∧ (∃ e a b, xat h 63 = some (yMo (vup (vup (vup v 0 e) 20 a) 21 b))) ∧ (∃ u, xat h 70 = some (yI 400 u)) ∧ (∃ u, xat h 71 = some (yI 400 u)) ∧ (∃ u, xat h 72 = some (yI 400 u)) ∧ (∃ u, xat h 73 = some (yI 400 u)) ∧ (∃ u, xat h 74 = some (yI 40 u)) ∧ (∃ u, xat h 75 = some (yI 40 u)) ∧ yfr [63, 70, 71, 72, 73, 74, 75] hp h)) := by
          intro N
          induction N using Nat.strongRecOn with
          | ind N ih21 =>
            intro k x1 M1 M2 hm21
            refine E_run hk 1 (j' := 22) (lv' := [(0, .ref 63), (1, .long x1), (3, yi t), (4, yi k)]) (st' := [yi k]) (hp' := H1) rfl ?_
            refine E_run hk 2 (j' := 24) (lv' := [(0, .ref 63), (1, .long x1), (3, yi t), (4, yi k)]) (st' := [yi t, .ref 63, yi k]) (hp' := H1) rfl ?_
            refine Y_callP hk rfl (as := [.ref 63, yi t]) (rest := [yi k]) (v := some (yi (S (0 + t)))) rfl rfl (Nat.le_of_ble_eq_true rfl) (rcv0 e2) (Nat.le_of_ble_eq_true rfl) (c_X9_many (t := t) (v := (vup v 0 0)) e2 (f3.at (by decide) hS) (by omega)) ?_
            refine Y_ic_ge (a := k) (b := (S (0 + t))) (by omega) hk rfl (fun g56 => ?_) (fun g56 => ?_)
            ·
              refine Y_iinc (a := t) (z := 1) hk rfl rfl rfl (by decide) (lv' := [(3, yi (t + 1)), (0, .ref 63), (1, .long x1), (4, yi k)]) rfl ?_
              refine E_run hk 1 (j' := 7) (lv' := [(3, yi (t + 1)), (0, .ref 63), (1, .long x1), (4, yi k)]) (st' := []) (hp' := H1) rfl ?_
              exact Ev_le (xle_s rfl rfl (xle_s rfl rfl (xle_s rfl rfl (xle_z _ rfl)))) (ih7 _ (by omega) (t + 1) x1  (by omega) (by
        rcases (by omega : t = 0 ∨ t = 1) with q | q
        · have z : x = 4547 := by rcases K2 with z | z | z <;> first | exact z.2 | (exfalso; omega)
          refine Or.inr (Or.inl ⟨by omega, ?_⟩)
          rw [M2, show k = S (0 + t) by omega, z, q]
          rfl
        · have z : x = hdn S 0 4547 := by rcases K2 with z | z | z <;> first | exact z.2 | (exfalso; omega)
          refine Or.inr (Or.inr ⟨by omega, ?_⟩)
          rw [M2, show k = S (0 + t) by omega, z, q]
          rfl) rfl)
            ·
              refine E_run hk 6 (j' := 32) (lv' := [(0, .ref 63), (1, .long x1), (3, yi t), (4, yi k)]) (st' := [yi k, yi t, .ref 63, .long (31 * x1)]) (hp' := H1) rfl ?_
              refine Y_callP hk rfl (as := [.ref 63, yi t, yi k]) (rest := [.long (31 * x1)]) (v := some (yi (S (7 + 20 * t + k)))) rfl rfl (Nat.le_of_ble_eq_true rfl) (rcv0 e2) (Nat.le_of_ble_eq_true rfl) (c_X9_of (t := t) (i := k) (v := (vup v 0 0)) e2 (f3.at (by decide) hS) (by omega)) ?_
              refine E_run hk 3 (j' := 36) (lv' := [(1, .long ((31 * x1) + ((iN (S (7 + 20 * t + k))).toInt64))), (0, .ref 63), (3, yi t), (4, yi k)]) (st' := []) (hp' := H1) rfl ?_
              refine Y_iinc (a := k) (z := 1) hk rfl rfl rfl (by decide) (lv' := [(4, yi (k + 1)), (1, .long ((31 * x1) + ((iN (S (7 + 20 * t + k))).toInt64))), (0, .ref 63), (3, yi t)]) rfl ?_
              refine E_run hk 1 (j' := 21) (lv' := [(4, yi (k + 1)), (1, .long ((31 * x1) + ((iN (S (7 + 20 * t + k))).toInt64))), (0, .ref 63), (3, yi t)]) (st' := []) (hp' := H1) rfl ?_
              exact Ev_le (xle_s rfl rfl (xle_s rfl rfl (xle_s rfl rfl (xle_s rfl rfl (xle_z _ rfl))))) (ih21 _ (by omega) (k + 1) ((31 * x1) + ((iN (S (7 + 20 * t + k))).toInt64))  (by omega) (by rw [hsf_s (by omega), ← M2]; rfl) rfl)
        exact Ev_le (xle_s rfl rfl (xle_s rfl rfl (xle_s rfl rfl (xle_s rfl rfl (xle_z _ rfl))))) (loop21 _ 0 ((31 * x) + ((iN (S (0 + t))).toInt64))  (by omega) (rfl) rfl)
  exact Ev_le (xle_s rfl rfl (xle_s rfl rfl (xle_s rfl rfl (xle_z _ rfl)))) (loop7 _ 0 4547  (by omega) (Or.inl ⟨rfl, rfl⟩) rfl)
