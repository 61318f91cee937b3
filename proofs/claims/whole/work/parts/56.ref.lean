theorem c_X9_stretch {d : Nat} {hp : xH} {v : Nat → Int} (hM : xat hp 63 = some (yMo v)) {S : Int → Int} (hS : xat hp 64 = some (yI 47 S)) (hz : 0 ≤ S 0 ∧ S 0 ≤ 20 ∧ 0 ≤ S 1 ∧ S 1 ≤ 20 ∧ 0 ≤ S 2 ∧ S 2 ≤ 20 ∧ 0 ≤ S 3 ∧ S 3 ≤ 50 ∧ 0 ≤ S 4 ∧ S 4 ≤ 3) (h0 : ∀ q, 0 ≤ q → q < S 0 → 0 ≤ S (7 + q) ∧ S (7 + q) ≤ 60) (h1 : ∀ q, 0 ≤ q → q < S 1 → 0 ≤ S (27 + q) ∧ S (27 + q) ≤ 60) {f W : Int → Int} (hA : xat hp 71 = some (yI 400 f)) (hW : xat hp 72 = some (yI 400 W)) {p q : Int → Int} (hp1 : xat hp 74 = some (yI 40 p)) (hp2 : xat hp 75 = some (yI 40 q)) {t x : Int} (ht : -2147483648 ≤ t ∧ t ≤ 2147483647 ∧ -2147483648 ≤ x ∧ x ≤ 2147483647) (hd : 5 ≤ d) : Cv d 234 [.ref 63, yi t, yi x] hp (yE (fun z h => ∃ c, ∃ x20, xat h 63 = some (yMo (vup (vup v 0 c) 20 x20)) ∧ ((c = 0 ∧ (0 ≤ t ∧ t ≤ 1 ∧ 0 ≤ x ∧ x < S (0 + t) ∧ ∃ k p q, mtc S k p q ∧ z = cnt (if t = 0 then p else q) x k.toNat)) ∨ (c = 1 ∧ (¬ (0 ≤ t ∧ t ≤ 1 ∧ 0 ≤ x ∧ x < S (0 + t))))) ∧ (∃ u, xat h 71 = some (yI 400 u)) ∧ (∃ u, xat h 72 = some (yI 400 u)) ∧ (∃ u, xat h 74 = some (yI 40 u)) ∧ (∃ u, xat h 75 = some (yI 40 u)) ∧ yfr [63, 71, 72, 74, 75] hp h)) := by
  have hk : xtab 234 = (xc_234, 3, 1, []) := rfl
  obtain ⟨d, rfl⟩ : ∃ e, d = e + 1 := ⟨d - 1, by omega⟩
  have hl : 0 ≤ S 0 ∧ S 0 ≤ 20 ∧ 0 ≤ S 1 ∧ S 1 ≤ 20 := by omega
  show Ev (d + 1) 234 0 [(0, .ref 63), (1, yi t), (2, yi x)] [] hp _
  refine E_run hk 2 (j' := 2) (lv' := [(0, .ref 63), (1, yi t), (2, yi x)]) (st' := [yi 0, .ref 63]) (hp' := hp) rfl ?_
  refine Y_put hk rfl hM (by decide) (Nat.le_of_ble_eq_true rfl) rfl (fs' := [yi 0, .ref 64, .ref 65, yi (v 3), .ref 66, yi (v 5), .ref 67, yi (v 7), yi (v 8), yi (v 9), .ref 68, yi (v 11), .ref 69, yi (v 13), .ref 70, .ref 71, .ref 72, .ref 73, .ref 74, .ref 75, yi (v 20), yi (v 21)]) rfl (fun H1 e2 f3 => ?_)
  refine E_run hk 1 (j' := 4) (lv' := [(0, .ref 63), (1, yi t), (2, yi x)]) (st' := [.ref 63]) (hp' := H1) rfl ?_
  refine Y_call hk rfl (as := [.ref 63]) (rest := []) (v := none) rfl rfl (Nat.le_of_ble_eq_true rfl) (rcv0 e2) (Nat.le_of_ble_eq_true rfl) (c_X9_tellsMatch (v := (vup v 0 0)) e2 (f3.at (by decide) hS) hz h0 h1 (f3.at (by decide) hA) (f3.at (by decide) hW) (f3.at (by decide) hp1) (f3.at (by decide) hp2) (hd := by omega)) (fun H4 r5 => ?_)
  obtain ⟨c_H4, A_H4, W_H4, P_H4, Q_H4, e_H4, a_H4, w_H4, p_H4, q_H4, m_H4, f_H4⟩ := r5
  obtain ⟨mc1, mc2, mc3⟩ := mtc_rng m_H4 (by omega)
  refine E_run hk 3 (j' := 8) (lv' := [(0, .ref 63), (1, yi t), (2, yi x)]) (st' := [yi x, yi t, .ref 63]) (hp' := H4) rfl ?_
  refine Y_callP hk rfl (as := [.ref 63, yi t, yi x]) (rest := []) (v := some (yi (b2 (0 ≤ t ∧ t ≤ 1 ∧ 0 ≤ x ∧ x < S (0 + t))))) rfl rfl (Nat.le_of_ble_eq_true rfl) (rcv0 e_H4) (Nat.le_of_ble_eq_true rfl) (c_X9_isNote (t := t) (k := x) (v := (vup (vup v 0 0) 20 c_H4)) e_H4 (f_H4.at (by decide) (f3.at (by decide) hS)) (by omega) (by omega) (hd := by omega)) ?_
  refine Y_b_eq hk rfl (fun g6 => ?_) (fun g6 => ?_)
  ·
    refine E_run hk 2 (j' := 17) (lv' := [(0, .ref 63), (1, yi t), (2, yi x)]) (st' := [yi 1, .ref 63]) (hp' := H4) rfl ?_
    refine Y_call hk rfl (as := [.ref 63, yi 1]) (rest := []) (v := some (yi 0)) rfl rfl (Nat.le_of_ble_eq_true rfl) (rcv0 e_H4) (Nat.le_of_ble_eq_true rfl) (c_X9_fails (c := 1) (v := (vup (vup v 0 0) 20 c_H4)) e_H4) (fun H7 r8 => ?_)
    obtain ⟨e_H7, f_H7⟩ := r8
    exact E_ret hk rfl rfl ⟨0, rfl, 1, c_H4, e_H7, Or.inr (⟨rfl, by omega⟩), ⟨_, (f_H7.at (by decide) a_H4)⟩, ⟨_, (f_H7.at (by decide) w_H4)⟩, ⟨_, (f_H7.at (by decide) p_H4)⟩, ⟨_, (f_H7.at (by decide) q_H4)⟩, (yfr.tr (yfr.tr (f3.mono (by decide)) f_H4 (fun _ h => h) (by decide)) f_H7 (fun _ h => h) (by decide))⟩
  ·
    have w0 : 0 ≤ S (0 + t) ∧ S (0 + t) ≤ 20 := by rcases (by omega : t = 0 ∨ t = 1) with e | e <;> rw [e] <;> first | exact ⟨hl.1, hl.2.1⟩ | exact hl.2.2
    refine E_run hk 3 (j' := 13) (lv' := [(0, .ref 63), (1, yi t), (2, yi x)]) (st' := [yi x, yi t, .ref 63]) (hp' := H4) rfl ?_
    refine Y_callP hk rfl (as := [.ref 63, yi t, yi x]) (rest := []) (v := some (yi (cnt (if t = 0 then P_H4 else Q_H4) x c_H4.toNat))) rfl rfl (Nat.le_of_ble_eq_true rfl) (rcv0 e_H4) (Nat.le_of_ble_eq_true rfl) (c_X9_stretchOf (t := t) (x := x) (c := c_H4) (v := (vup (vup v 0 0) 20 c_H4)) e_H4 p_H4 q_H4 rfl (by omega) (by omega) mc3) ?_
    refine E_run hk 1 (j' := 18) (lv' := [(0, .ref 63), (1, yi t), (2, yi x)]) (st' := [yi (cnt (if t = 0 then P_H4 else Q_H4) x c_H4.toNat)]) (hp' := H4) rfl ?_
    exact E_ret hk rfl rfl ⟨(cnt (if t = 0 then P_H4 else Q_H4) x c_H4.toNat), rfl, 0, c_H4, e_H4, Or.inl ⟨rfl, ⟨by omega, by omega, by omega, by omega, _, _, _, m_H4, rfl⟩⟩, ⟨_, a_H4⟩, ⟨_, w_H4⟩, ⟨_, p_H4⟩, ⟨_, q_H4⟩, (yfr.tr (f3.mono (by decide)) f_H4 (fun _ h => h) (by decide))⟩
theorem c_X9_longestStretch {d : Nat} {hp : xH} {v : Nat → Int} (hM : xat hp 63 = some (yMo v)) {S : Int → Int} (hS : xat hp 64 = some (yI 47 S)) (hz : 0 ≤ S 0 ∧ S 0 ≤ 20 ∧ 0 ≤ S 1 ∧ S 1 ≤ 20 ∧ 0 ≤ S 2 ∧ S 2 ≤ 20 ∧ 0 ≤ S 3 ∧ S 3 ≤ 50 ∧ 0 ≤ S 4 ∧ S 4 ≤ 3) (h0 : ∀ q, 0 ≤ q → q < S 0 → 0 ≤ S (7 + q) ∧ S (7 + q) ≤ 60) (h1 : ∀ q, 0 ≤ q → q < S 1 → 0 ≤ S (27 + q) ∧ S (27 + q) ≤ 60) {f W : Int → Int} (hA : xat hp 71 = some (yI 400 f)) (hW : xat hp 72 = some (yI 400 W)) {p q : Int → Int} (hp1 : xat hp 74 = some (yI 40 p)) (hp2 : xat hp 75 = some (yI 40 q)) {t : Int} (ht : -2147483648 ≤ t ∧ t ≤ 2147483647) (hd : 5 ≤ d) : Cv d 235 [.ref 63, yi t] hp (yE (fun z h => ∃ c, ∃ x20, xat h 63 = some (yMo (vup (vup v 0 c) 20 x20)) ∧ ((c = 0 ∧ (0 ≤ t ∧ t ≤ 1 ∧ ∃ k p q, mtc S k p q ∧ z = lng (if t = 0 then p else q) k.toNat (S (0 + t)).toNat)) ∨ (c = 1 ∧ (¬ (0 ≤ t ∧ t ≤ 1)))) ∧ (∃ u, xat h 71 = some (yI 400 u)) ∧ (∃ u, xat h 72 = some (yI 400 u)) ∧ (∃ u, xat h 74 = some (yI 40 u)) ∧ (∃ u, xat h 75 = some (yI 40 u)) ∧ yfr [63, 71, 72, 74, 75] hp h)) := by
  have hk : xtab 235 = (xc_235, 2, 1, []) := rfl
  obtain ⟨d, rfl⟩ : ∃ e, d = e + 1 := ⟨d - 1, by omega⟩
  have hl : 0 ≤ S 0 ∧ S 0 ≤ 20 ∧ 0 ≤ S 1 ∧ S 1 ≤ 20 := by omega
  show Ev (d + 1) 235 0 [(0, .ref 63), (1, yi t)] [] hp _
  refine E_run hk 2 (j' := 2) (lv' := [(0, .ref 63), (1, yi t)]) (st' := [yi 0, .ref 63]) (hp' := hp) rfl ?_
  refine Y_put hk rfl hM (by decide) (Nat.le_of_ble_eq_true rfl) rfl (fs' := [yi 0, .ref 64, .ref 65, yi (v 3), .ref 66, yi (v 5), .ref 67, yi (v 7), yi (v 8), yi (v 9), .ref 68, yi (v 11), .ref 69, yi (v 13), .ref 70, .ref 71, .ref 72, .ref 73, .ref 74, .ref 75, yi (v 20), yi (v 21)]) rfl (fun H1 e2 f3 => ?_)
  refine E_run hk 1 (j' := 4) (lv' := [(0, .ref 63), (1, yi t)]) (st' := [.ref 63]) (hp' := H1) rfl ?_
  refine Y_call hk rfl (as := [.ref 63]) (rest := []) (v := none) rfl rfl (Nat.le_of_ble_eq_true rfl) (rcv0 e2) (Nat.le_of_ble_eq_true rfl) (c_X9_tellsMatch (v := (vup v 0 0)) e2 (f3.at (by decide) hS) hz h0 h1 (f3.at (by decide) hA) (f3.at (by decide) hW) (f3.at (by decide) hp1) (f3.at (by decide) hp2) (hd := by omega)) (fun H4 r5 => ?_)
  obtain ⟨c_H4, A_H4, W_H4, P_H4, Q_H4, e_H4, a_H4, w_H4, p_H4, q_H4, m_H4, f_H4⟩ := r5
  obtain ⟨mc1, mc2, mc3⟩ := mtc_rng m_H4 (by omega)
  refine E_run hk 1 (j' := 6) (lv' := [(0, .ref 63), (1, yi t)]) (st' := [yi t]) (hp' := H4) rfl ?_
  refine Y_callP hk rfl (as := [yi t]) (rest := []) (v := some (yi (b2 (0 ≤ t ∧ t ≤ 1)))) rfl rfl (Nat.le_of_ble_eq_true rfl) rfl (Nat.le_of_ble_eq_true rfl) (c_X9_isTune (t := t) (by omega) (hd := by omega)) ?_
  refine Y_b_eq hk rfl (fun g6 => ?_) (fun g6 => ?_)
  ·
    refine E_run hk 2 (j' := 14) (lv' := [(0, .ref 63), (1, yi t)]) (st' := [yi 1, .ref 63]) (hp' := H4) rfl ?_
    refine Y_call hk rfl (as := [.ref 63, yi 1]) (rest := []) (v := some (yi 0)) rfl rfl (Nat.le_of_ble_eq_true rfl) (rcv0 e_H4) (Nat.le_of_ble_eq_true rfl) (c_X9_fails (c := 1) (v := (vup (vup v 0 0) 20 c_H4)) e_H4) (fun H7 r8 => ?_)
    obtain ⟨e_H7, f_H7⟩ := r8
    exact E_ret hk rfl rfl ⟨0, rfl, 1, c_H4, e_H7, Or.inr (⟨rfl, by omega⟩), ⟨_, (f_H7.at (by decide) a_H4)⟩, ⟨_, (f_H7.at (by decide) w_H4)⟩, ⟨_, (f_H7.at (by decide) p_H4)⟩, ⟨_, (f_H7.at (by decide) q_H4)⟩, (yfr.tr (yfr.tr (f3.mono (by decide)) f_H4 (fun _ h => h) (by decide)) f_H7 (fun _ h => h) (by decide))⟩
  ·
    have w0 : 0 ≤ S (0 + t) ∧ S (0 + t) ≤ 20 := by rcases (by omega : t = 0 ∨ t = 1) with e | e <;> rw [e] <;> first | exact ⟨hl.1, hl.2.1⟩ | exact hl.2.2
    refine E_run hk 2 (j' := 10) (lv' := [(0, .ref 63), (1, yi t)]) (st' := [yi t, .ref 63]) (hp' := H4) rfl ?_
    refine Y_callP hk rfl (as := [.ref 63, yi t]) (rest := []) (v := some (yi (lng (if t = 0 then P_H4 else Q_H4) c_H4.toNat (S (0 + t)).toNat))) rfl rfl (Nat.le_of_ble_eq_true rfl) (rcv0 e_H4) (Nat.le_of_ble_eq_true rfl) (c_X9_longest (t := t) (c := c_H4) (v := (vup (vup v 0 0) 20 c_H4)) e_H4 (f_H4.at (by decide) (f3.at (by decide) hS)) p_H4 q_H4 rfl (by omega) (by omega) mc3 (by omega) (hd := by omega)) ?_
    refine E_run hk 1 (j' := 15) (lv' := [(0, .ref 63), (1, yi t)]) (st' := [yi (lng (if t = 0 then P_H4 else Q_H4) c_H4.toNat (S (0 + t)).toNat)]) (hp' := H4) rfl ?_
    exact E_ret hk rfl rfl ⟨(lng (if t = 0 then P_H4 else Q_H4) c_H4.toNat (S (0 + t)).toNat), rfl, 0, c_H4, e_H4, Or.inl ⟨rfl, ⟨by omega, by omega, _, _, _, m_H4, rfl⟩⟩, ⟨_, a_H4⟩, ⟨_, w_H4⟩, ⟨_, p_H4⟩, ⟨_, q_H4⟩, (yfr.tr (f3.mono (by decide)) f_H4 (fun _ h => h) (by decide))⟩
theorem c_X9_noteOfPair {d : Nat} {hp : xH} {v : Nat → Int} (hM : xat hp 63 = some (yMo v)) {S : Int → Int} (hS : xat hp 64 = some (yI 47 S)) (hz : 0 ≤ S 0 ∧ S 0 ≤ 20 ∧ 0 ≤ S 1 ∧ S 1 ≤ 20 ∧ 0 ≤ S 2 ∧ S 2 ≤ 20 ∧ 0 ≤ S 3 ∧ S 3 ≤ 50 ∧ 0 ≤ S 4 ∧ S 4 ≤ 3) (h0 : ∀ q, 0 ≤ q → q < S 0 → 0 ≤ S (7 + q) ∧ S (7 + q) ≤ 60) (h1 : ∀ q, 0 ≤ q → q < S 1 → 0 ≤ S (27 + q) ∧ S (27 + q) ≤ 60) {f W : Int → Int} (hA : xat hp 71 = some (yI 400 f)) (hW : xat hp 72 = some (yI 400 W)) {p q : Int → Int} (hp1 : xat hp 74 = some (yI 40 p)) (hp2 : xat hp 75 = some (yI 40 q)) {t x : Int} (ht : -2147483648 ≤ t ∧ t ≤ 2147483647 ∧ -2147483648 ≤ x ∧ x ≤ 2147483647) (hd : 5 ≤ d) : Cv d 233 [.ref 63, yi t, yi x] hp (yE (fun z h => ∃ c, ∃ x20, xat h 63 = some (yMo (vup (vup v 0 c) 20 x20)) ∧ ((c = 0 ∧ (0 ≤ t ∧ t ≤ 1 ∧ 0 ≤ x ∧ ∃ k p q, mtc S k p q ∧ x < k ∧ z = (if t = 0 then p else q) x)) ∨ (c = 1 ∧ (¬ (0 ≤ t ∧ t ≤ 1) ∨ ∃ k p q, mtc S k p q ∧ ¬ (0 ≤ x ∧ x < k)))) ∧ (∃ u, xat h 71 = some (yI 400 u)) ∧ (∃ u, xat h 72 = some (yI 400 u)) ∧ (∃ u, xat h 74 = some (yI 40 u)) ∧ (∃ u, xat h 75 = some (yI 40 u)) ∧ yfr [63, 71, 72, 74, 75] hp h)) := by
  have hk : xtab 233 = (xc_233, 3, 1, []) := rfl
  obtain ⟨d, rfl⟩ : ∃ e, d = e + 1 := ⟨d - 1, by omega⟩
  have hl : 0 ≤ S 0 ∧ S 0 ≤ 20 ∧ 0 ≤ S 1 ∧ S 1 ≤ 20 := by omega
  show Ev (d + 1) 233 0 [(0, .ref 63), (1, yi t), (2, yi x)] [] hp _
  refine E_run hk 2 (j' := 2) (lv' := [(0, .ref 63), (1, yi t), (2, yi x)]) (st' := [yi 0, .ref 63]) (hp' := hp) rfl ?_
  refine Y_put hk rfl hM (by decide) (Nat.le_of_ble_eq_true rfl) rfl (fs' := [yi 0, .ref 64, .ref 65, yi (v 3), .ref 66, yi (v 5), .ref 67, yi (v 7), yi (v 8), yi (v 9), .ref 68, yi (v 11), .ref 69, yi (v 13), .ref 70, .ref 71, .ref 72, .ref 73, .ref 74, .ref 75, yi (v 20), yi (v 21)]) rfl (fun H1 e2 f3 => ?_)
  refine E_run hk 1 (j' := 4) (lv' := [(0, .ref 63), (1, yi t), (2, yi x)]) (st' := [.ref 63]) (hp' := H1) rfl ?_
  refine Y_call hk rfl (as := [.ref 63]) (rest := []) (v := none) rfl rfl (Nat.le_of_ble_eq_true rfl) (rcv0 e2) (Nat.le_of_ble_eq_true rfl) (c_X9_tellsMatch (v := (vup v 0 0)) e2 (f3.at (by decide) hS) hz h0 h1 (f3.at (by decide) hA) (f3.at (by decide) hW) (f3.at (by decide) hp1) (f3.at (by decide) hp2) (hd := by omega)) (fun H4 r5 => ?_)
  obtain ⟨c_H4, A_H4, W_H4, P_H4, Q_H4, e_H4, a_H4, w_H4, p_H4, q_H4, m_H4, f_H4⟩ := r5
  obtain ⟨mc1, mc2, mc3⟩ := mtc_rng m_H4 (by omega)
  refine E_run hk 1 (j' := 6) (lv' := [(0, .ref 63), (1, yi t), (2, yi x)]) (st' := [yi t]) (hp' := H4) rfl ?_
  refine Y_callP hk rfl (as := [yi t]) (rest := []) (v := some (yi (b2 (0 ≤ t ∧ t ≤ 1)))) rfl rfl (Nat.le_of_ble_eq_true rfl) rfl (Nat.le_of_ble_eq_true rfl) (c_X9_isTune (t := t) (by omega) (hd := by omega)) ?_
  refine Y_b_eq hk rfl (fun g6 => ?_) (fun g6 => ?_)
  ·
    refine E_run hk 2 (j' := 18) (lv' := [(0, .ref 63), (1, yi t), (2, yi x)]) (st' := [yi 1, .ref 63]) (hp' := H4) rfl ?_
    refine Y_call hk rfl (as := [.ref 63, yi 1]) (rest := []) (v := some (yi 0)) rfl rfl (Nat.le_of_ble_eq_true rfl) (rcv0 e_H4) (Nat.le_of_ble_eq_true rfl) (c_X9_fails (c := 1) (v := (vup (vup v 0 0) 20 c_H4)) e_H4) (fun H7 r8 => ?_)
    obtain ⟨e_H7, f_H7⟩ := r8
    exact E_ret hk rfl rfl ⟨0, rfl, 1, c_H4, e_H7, Or.inr (⟨rfl, by first | exact Or.inl (by omega) | exact Or.inr ⟨_, _, _, m_H4, by omega⟩⟩), ⟨_, (f_H7.at (by decide) a_H4)⟩, ⟨_, (f_H7.at (by decide) w_H4)⟩, ⟨_, (f_H7.at (by decide) p_H4)⟩, ⟨_, (f_H7.at (by decide) q_H4)⟩, (yfr.tr (yfr.tr (f3.mono (by decide)) f_H4 (fun _ h => h) (by decide)) f_H7 (fun _ h => h) (by decide))⟩
  ·
    refine E_run hk 3 (j' := 11) (lv' := [(0, .ref 63), (1, yi t), (2, yi x)]) (st' := [.ref 63, yi 0, yi x]) (hp' := H4) rfl ?_
    refine E_get (v := yi c_H4) hk rfl e_H4 rfl ?_
    refine E_run hk 1 (j' := 13) (lv' := [(0, .ref 63), (1, yi t), (2, yi x)]) (st' := [yi 1, yi c_H4, yi 0, yi x]) (hp' := H4) rfl ?_
    refine Y_isub (a := c_H4) (b := 1) hk rfl ?_
    refine Y_callP hk rfl (as := [yi x, yi 0, yi (c_H4 - 1)]) (rest := []) (v := some (yi (b2 (0 ≤ x ∧ x ≤ (c_H4 - 1))))) rfl rfl (Nat.le_of_ble_eq_true rfl) rfl (Nat.le_of_ble_eq_true rfl) (c_X9_in (v := x) (l := 0) (m := (c_H4 - 1)) (by omega)) ?_
    refine Y_b_ne hk rfl (fun g9 => ?_) (fun g9 => ?_)
    ·
      refine E_run hk 1 (j' := 21) (lv' := [(0, .ref 63), (1, yi t), (2, yi x)]) (st' := [yi t]) (hp' := H4) rfl ?_
      refine Y_if_ne (a := t) (by omega) hk rfl (fun g10 => ?_) (fun g10 => ?_)
      ·
        refine E_run hk 1 (j' := 28) (lv' := [(0, .ref 63), (1, yi t), (2, yi x)]) (st' := [.ref 63]) (hp' := H4) rfl ?_
        refine E_get (v := .ref 75) hk rfl e_H4 rfl ?_
        refine E_run hk 1 (j' := 30) (lv' := [(0, .ref 63), (1, yi t), (2, yi x)]) (st' := [yi x, .ref 75]) (hp' := H4) rfl ?_
        refine Y_iald (a := x) (by omega) (by decide) hk rfl q_H4 ?_
        exact E_ret hk rfl rfl ⟨(Q_H4 x), rfl, 0, c_H4, e_H4, Or.inl ⟨rfl, ⟨by omega, by omega, by omega, _, _, _, m_H4, by omega, by first | rw [if_pos (by omega)] | rw [if_neg (by omega)]⟩⟩, ⟨_, a_H4⟩, ⟨_, w_H4⟩, ⟨_, p_H4⟩, ⟨_, q_H4⟩, (yfr.tr (f3.mono (by decide)) f_H4 (fun _ h => h) (by decide))⟩
      ·
        refine E_run hk 1 (j' := 23) (lv' := [(0, .ref 63), (1, yi t), (2, yi x)]) (st' := [.ref 63]) (hp' := H4) rfl ?_
        refine E_get (v := .ref 74) hk rfl e_H4 rfl ?_
        refine E_run hk 1 (j' := 25) (lv' := [(0, .ref 63), (1, yi t), (2, yi x)]) (st' := [yi x, .ref 74]) (hp' := H4) rfl ?_
        refine Y_iald (a := x) (by omega) (by decide) hk rfl p_H4 ?_
        refine E_run hk 1 (j' := 31) (lv' := [(0, .ref 63), (1, yi t), (2, yi x)]) (st' := [yi (P_H4 x)]) (hp' := H4) rfl ?_
        exact E_ret hk rfl rfl ⟨(P_H4 x), rfl, 0, c_H4, e_H4, Or.inl ⟨rfl, ⟨by omega, by omega, by omega, _, _, _, m_H4, by omega, by first | rw [if_pos (by omega)] | rw [if_neg (by omega)]⟩⟩, ⟨_, a_H4⟩, ⟨_, w_H4⟩, ⟨_, p_H4⟩, ⟨_, q_H4⟩, (yfr.tr (f3.mono (by decide)) f_H4 (fun _ h => h) (by decide))⟩
    ·
      refine E_run hk 2 (j' := 18) (lv' := [(0, .ref 63), (1, yi t), (2, yi x)]) (st' := [yi 1, .ref 63]) (hp' := H4) rfl ?_
      refine Y_call hk rfl (as := [.ref 63, yi 1]) (rest := []) (v := some (yi 0)) rfl rfl (Nat.le_of_ble_eq_true rfl) (rcv0 e_H4) (Nat.le_of_ble_eq_true rfl) (c_X9_fails (c := 1) (v := (vup (vup v 0 0) 20 c_H4)) e_H4) (fun H11 r12 => ?_)
      obtain ⟨e_H11, f_H11⟩ := r12
      exact E_ret hk rfl rfl ⟨0, rfl, 1, c_H4, e_H11, Or.inr (⟨rfl, by first | exact Or.inl (by omega) | exact Or.inr ⟨_, _, _, m_H4, by omega⟩⟩), ⟨_, (f_H11.at (by decide) a_H4)⟩, ⟨_, (f_H11.at (by decide) w_H4)⟩, ⟨_, (f_H11.at (by decide) p_H4)⟩, ⟨_, (f_H11.at (by decide) q_H4)⟩, (yfr.tr (yfr.tr (f3.mono (by decide)) f_H4 (fun _ h => h) (by decide)) f_H11 (fun _ h => h) (by decide))⟩
theorem c_X9_neededBound {d : Nat} {hp : xH} {v : Nat → Int} (hM : xat hp 63 = some (yMo v)) {S : Int → Int} (hS : xat hp 64 = some (yI 47 S)) (hz : 0 ≤ S 0 ∧ S 0 ≤ 20 ∧ 0 ≤ S 1 ∧ S 1 ≤ 20 ∧ 0 ≤ S 2 ∧ S 2 ≤ 20 ∧ 0 ≤ S 3 ∧ S 3 ≤ 50 ∧ 0 ≤ S 4 ∧ S 4 ≤ 3) (h0 : ∀ q, 0 ≤ q → q < S 0 → 0 ≤ S (7 + q) ∧ S (7 + q) ≤ 60) (h1 : ∀ q, 0 ≤ q → q < S 1 → 0 ≤ S (27 + q) ∧ S (27 + q) ≤ 60) {f : Int → Int} (hA : xat hp 70 = some (yI 400 f)) (hd : 4 ≤ d) : Cv d 244 [.ref 63] hp (yE (fun z h => ∃ c, xat h 63 = some (yMo (vup v 0 c)) ∧ ((c = 0 ∧ (((S 0 = 0 ∨ S 1 = 0) ∧ z = -1) ∨ (¬ (S 0 = 0 ∨ S 1 = 0) ∧ 0 ≤ z ∧ z ≤ 20 ∧ cst S 0 z = cst S 0 20 ∧ ∀ x, 0 ≤ x → x < z → ¬ cst S 0 x = cst S 0 20)))) ∧ (∃ u, xat h 70 = some (yI 400 u)) ∧ yfr [63, 70] hp h)) := by
  have hk : xtab 244 = (xc_244, 1, 1, []) := rfl
  obtain ⟨d, rfl⟩ : ∃ e, d = e + 1 := ⟨d - 1, by omega⟩
  show Ev (d + 1) 244 0 [(0, .ref 63)] [] hp _
  refine E_run hk 2 (j' := 2) (lv' := [(0, .ref 63)]) (st' := [yi 0, .ref 63]) (hp' := hp) rfl ?_
  refine Y_put hk rfl hM (by decide) (Nat.le_of_ble_eq_true rfl) rfl (fs' := [yi 0, .ref 64, .ref 65, yi (v 3), .ref 66, yi (v 5), .ref 67, yi (v 7), yi (v 8), yi (v 9), .ref 68, yi (v 11), .ref 69, yi (v 13), .ref 70, .ref 71, .ref 72, .ref 73, .ref 74, .ref 75, yi (v 20), yi (v 21)]) rfl (fun H1 e2 f3 => ?_)
  refine E_run hk 1 (j' := 4) (lv' := [(0, .ref 63)]) (st' := [.ref 63]) (hp' := H1) rfl ?_
  refine Y_callP hk rfl (as := [.ref 63]) (rest := []) (v := some (yi (b2 (S 0 = 0 ∨ S 1 = 0)))) rfl rfl (Nat.le_of_ble_eq_true rfl) (rcv0 e2) (Nat.le_of_ble_eq_true rfl) (c_X9_isBare (v := (vup v 0 0)) e2 (f3.at (by decide) hS) (by omega) (hd := by omega)) ?_
  refine Y_b_eq hk rfl (fun g4 => ?_) (fun g4 => ?_)
  ·
    refine E_run hk 1 (j' := 9) (lv' := [(0, .ref 63)]) (st' := [.ref 63]) (hp' := H1) rfl ?_
    refine Y_callE hk rfl (as := [.ref 63]) (rest := []) rfl rfl (Nat.le_of_ble_eq_true rfl) (rcv0 e2) (Nat.le_of_ble_eq_true rfl) (c_X9_needs (v := (vup v 0 0)) e2 (f3.at (by decide) hS) hz h0 h1 (f3.at (by decide) hA) (hd := by omega)) (fun z5 H6 r7 => ?_)
    obtain ⟨z1_H6, z2_H6, z3_H6, z4_H6, A_H6, e_H6, f_H6⟩ := r7
    exact E_ret hk rfl rfl ⟨z5, rfl, 0, (f_H6.at (by decide) e2), ⟨rfl, Or.inr ⟨by omega, z1_H6, z2_H6, z3_H6, z4_H6⟩⟩, ⟨_, e_H6⟩, (yfr.tr (f3.mono (by decide)) f_H6 (fun _ h => h) (by decide))⟩
  ·
    refine E_run hk 2 (j' := 10) (lv' := [(0, .ref 63)]) (st' := [yi (-1)]) (hp' := H1) rfl ?_
    exact E_ret hk rfl rfl ⟨(-1), rfl, 0, e2, ⟨rfl, Or.inl ⟨by omega, rfl⟩⟩, ⟨_, (f3.at (by decide) hA)⟩, (f3.mono (by decide))⟩
