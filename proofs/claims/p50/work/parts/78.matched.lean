/-! The class: what is asked of the matches. -/
theorem cst_mat {S : Int → Int} (hz : 0 ≤ S 0 ∧ S 0 ≤ 20 ∧ 0 ≤ S 1 ∧ S 1 ≤ 20 ∧ 0 ≤ S 2 ∧ S 2 ≤ 20 ∧ 0 ≤ S 3 ∧ S 3 ≤ 50 ∧ 0 ≤ S 4 ∧ S 4 ≤ 3) (h0 : ∀ q, 0 ≤ q → q < S 0 → 0 ≤ S (7 + q) ∧ S (7 + q) ≤ 60) (h1 : ∀ q, 0 ≤ q → q < S 1 → 0 ≤ S (27 + q) ∧ S (27 + q) ≤ 60) (hm : 0 < S 0 ∧ 0 < S 1 ∧ -S 2 ≤ S 0 - S 1 ∧ S 0 - S 1 ≤ S 2) : fw (unl S 0) (S 3) (S 2) (S 0 - 1) (S 1 - 1) = cst S 0 (S 2) := by
  unfold cst
  rw [if_neg (by omega)]
/-- where there is a match, its cost is no FAR -/
theorem fw_fin {D : Int → Int → Int} {w b : Int} (hb : 0 ≤ b) (hw : 0 ≤ w ∧ w ≤ 50) {m n : Int} (hm : m ≤ 20 ∧ n ≤ 20) (hD : ∀ i j, 0 ≤ i → i < m → 0 ≤ j → j < n → 0 ≤ D i j ∧ D i j ≤ 5184) : ∀ (N : Nat) (i j : Int), 0 ≤ i → 0 ≤ j → i < m → j < n → -b ≤ i - j → i - j ≤ b → (i + 1).toNat + (j + 1).toNat = N → fw D w b i j < 100000000 := by
  intro N
  induction N using Nat.strongRecOn with
  | ind N ih =>
    intro i j hi hj hi2 hj2 q1 q2 hN
    have hd := hD i j hi hi2 hj hj2
    have r1 := fw_rng (b := b) hw hD _ (i - 1) (j - 1) (by omega) (by omega) rfl
    have r2 := fw_rng (b := b) hw hD _ (i - 1) j (by omega) (by omega) rfl
    have r3 := fw_rng (b := b) hw hD _ i (j - 1) (by omega) (by omega) rfl
    have s1 := least_rng (fw D w b (i - 1) j) (fw D w b i (j - 1))
    have s2 := least_rng (fw D w b (i - 1) (j - 1)) (least (fw D w b (i - 1) j) (fw D w b i (j - 1)) + w)
    have key : fwf D w b i j ≤ 300000 := by
      unfold fwf
      by_cases e0 : i = 0 ∧ j = 0
      · rw [if_pos e0]
        decide
      · rw [if_neg e0]
        by_cases e1 : 0 < i
        · by_cases e2 : 0 < j
          · have q := ih _ (by omega) (i - 1) (j - 1) (by omega) (by omega) (by omega) (by omega) (by omega) (by omega) rfl
            omega
          · have q := ih _ (by omega) (i - 1) j (by omega) hj (by omega) hj2 (by omega) (by omega) rfl
            omega
        · have q := ih _ (by omega) i (j - 1) hi (by omega) hi2 (by omega) (by omega) (by omega) rfl
          omega
    rw [fw_in ⟨hi, hj⟩, if_pos ⟨by omega, by omega, by omega⟩]
    omega
theorem cst_fin {S : Int → Int} (hz : 0 ≤ S 0 ∧ S 0 ≤ 20 ∧ 0 ≤ S 1 ∧ S 1 ≤ 20 ∧ 0 ≤ S 2 ∧ S 2 ≤ 20 ∧ 0 ≤ S 3 ∧ S 3 ≤ 50 ∧ 0 ≤ S 4 ∧ S 4 ≤ 3) (h0 : ∀ q, 0 ≤ q → q < S 0 → 0 ≤ S (7 + q) ∧ S (7 + q) ≤ 60) (h1 : ∀ q, 0 ≤ q → q < S 1 → 0 ≤ S (27 + q) ∧ S (27 + q) ≤ 60) {b : Int} (hb : -12 ≤ b ∧ b ≤ 12) (hm : 0 < S 0 ∧ 0 < S 1 ∧ -S 2 ≤ S 0 - S 1 ∧ S 0 - S 1 ≤ S 2) : cst S b (S 2) < 100000000 := by
  unfold cst
  rw [if_neg (by omega)]
  exact fw_fin (by omega) (by omega) (by omega) (fun i j a1 a2 a3 a4 => unl_rng hz h0 h1 hb a1 a2 a3 a4) _ _ _ (by omega) (by omega) (by omega) (by omega) (by omega) (by omega) rfl
theorem mtc_sel {S p q : Int → Int} {c t : Int} (h : mtc S c p q) (hc : 0 ≤ c) (ht : 0 ≤ t ∧ t ≤ 1) : ∀ y : Int, 0 ≤ y → y < c.toNat → 0 ≤ (if t = 0 then p else q) y ∧ (if t = 0 then p else q) y < S (0 + t) := by
  intro y y1 y2
  rcases h with ⟨-, e⟩ | ⟨-, -, -, -, e⟩
  · omega
  · have w := e y y1 (by omega)
    rcases (by omega : t = 0 ∨ t = 1) with rfl | rfl
    · exact ⟨w.2.2.1, w.2.2.2.1⟩
    · exact ⟨w.2.2.2.2.1, w.2.2.2.2.2⟩
theorem c_X8_cost {d : Nat} {hp : xH} {kp cl od : Int} (h28 : xat hp 28 = some (.inr (8, [.ref 29, .ref 34, .ref 35, yi kp, .ref 40, yi cl, .ref 41, .ref 43, yi od, .ref 56, .ref 58]))) {S : Int → Int} (hM : yMs hp S od) {z o : Nat} {f g : Int → Int} {r t : Int} (hS : yS hp 29 z o S f g r t) (hz : 0 ≤ S 0 ∧ S 0 ≤ 20 ∧ 0 ≤ S 1 ∧ S 1 ≤ 20 ∧ 0 ≤ S 2 ∧ S 2 ≤ 20 ∧ 0 ≤ S 3 ∧ S 3 ≤ 50 ∧ 0 ≤ S 4 ∧ S 4 ≤ 3) (h0 : ∀ q, 0 ≤ q → q < S 0 → 0 ≤ S (7 + q) ∧ S (7 + q) ≤ 60) (h1 : ∀ q, 0 ≤ q → q < S 1 → 0 ≤ S (27 + q) ∧ S (27 + q) ≤ 60) (hd : 6 ≤ d) : Cv d 71 [.ref 28] hp (yA (fun e z h => ((e = none ∧ (0 < S 0 ∧ 0 < S 1 ∧ -S 2 ≤ S 0 - S 1 ∧ S 0 - S 1 ≤ S 2) ∧ z = cst S 0 (S 2)) ∨ (e = some 2 ∧ (¬ (0 < S 0 ∧ 0 < S 1 ∧ -S 2 ≤ S 0 - S 1 ∧ S 0 - S 1 ≤ S 2)))) ∧ (∃ od2, xat h 28 = some (.inr (8, [.ref 29, .ref 34, .ref 35, yi kp, .ref 40, yi cl, .ref 41, .ref 43, yi od2, .ref 56, .ref 58])) ∧ yMs h S od2) ∧ yfz [28, 43, 45, 47, 49, 51, 52, 53, 54, 55] hp h)) := by
  have hk : xtab 71 = (xc_71, 1, 1, []) := rfl
  obtain ⟨d, rfl⟩ : ∃ e, d = e + 1 := ⟨d - 1, by omega⟩
  obtain ⟨hid, hs_, hz_, ho_, hf_, hg_, ef, eg⟩ := hS
  show Ev (d + 1) 71 0 [(0, .ref 28)] [] hp _
  refine E_run hk 1 (j' := 1) (lv' := [(0, .ref 28)]) (st' := [.ref 28]) (hp' := hp) rfl ?_
  refine Y_callT hk rfl (as := [.ref 28]) (rest := []) (v := none) rfl rfl (Nat.le_of_ble_eq_true rfl) (rcv0 h28) (Nat.le_of_ble_eq_true rfl) (c_X8_checkMatched h28 ⟨hid, hs_, hz_, ho_, hf_, hg_, ef, eg⟩ (by omega) (by omega) (hd := by omega)) (fun g1 => ?_) rfl (fun g1 => ?_)
  rotate_left
  · exact Or.inr ⟨2, rfl, by first | exact Or.inr (⟨rfl, by first | assumption | omega⟩), ⟨od, h28, hM⟩, yfz.frb (yfr.refl _ _)⟩
  refine E_run hk 1 (j' := 3) (lv' := [(0, .ref 28)]) (st' := [.ref 28]) (hp' := hp) rfl ?_
  refine Y_call hk rfl (as := [.ref 28]) (rest := []) (v := some (.ref 43)) rfl rfl (Nat.le_of_ble_eq_true rfl) (rcv0 h28) (Nat.le_of_ble_eq_true rfl) (c_X8_found h28 hM ⟨hid, hs_, hz_, ho_, hf_, hg_, ef, eg⟩ hz h0 h1 (hd := by omega)) (fun H2 r3 => ?_)
  obtain ⟨⟨c_H2, A_H2, B_H2, P_H2, Q_H2, U_H2, V_H2, ⟨m1_H2, m2_H2, m3_H2, m4_H2, m5_H2, m6_H2, m7_H2, m8_H2, m9_H2, m10_H2⟩, ⟨C_H2, k1_H2⟩, ⟨N_H2, k2_H2⟩, x28_H2, f_H2⟩, g1_H2, g2_H2, g3_H2, g4_H2⟩ := r3
  obtain ⟨mt_H2, uv_H2⟩ := m10_H2
  obtain ⟨mc1_H2, mc2_H2, mc3_H2⟩ := mtc_rng mt_H2 (by omega)
  have hl_H2 := hls_rng S (c_H2 - 1).toNat
  refine E_run hk 1 (j' := 5) (lv' := [(0, .ref 28)]) (st' := [.ref 28, .ref 43]) (hp' := H2) rfl ?_
  refine E_get (v := .ref 29) hk rfl x28_H2 rfl ?_
  refine Y_callP hk rfl (as := [.ref 43, .ref 29]) (rest := []) (v := some (yi (A_H2 (20 * (S 0 - 1) + (S 1 - 1))))) rfl rfl (Nat.le_of_ble_eq_true rfl) (rcv0 m1_H2) (Nat.le_of_ble_eq_true rfl) (c_X2_leastFromBegin m1_H2 g1_H2 m2_H2 ⟨hid, (f_H2.at (by decide) hs_), (f_H2.at (by simp only [List.mem_cons, List.not_mem_nil, or_false, not_or]; exact ⟨(Ne.symm (sok hid (by unfold apart; decide)).2.1), (Ne.symm (sok hid (by unfold apart; decide)).2.1), (Ne.symm (sok hid (by unfold apart; decide)).2.1), (Ne.symm (sok hid (by unfold apart; decide)).2.1), (Ne.symm (sok hid (by unfold apart; decide)).2.1), (Ne.symm (sok hid (by unfold apart; decide)).2.1), (Ne.symm (sok hid (by unfold apart; decide)).2.1), (Ne.symm (sok hid (by unfold apart; decide)).2.1), (Ne.symm (sok hid (by unfold apart; decide)).2.1), (Ne.symm (sok hid (by unfold apart; decide)).2.1)⟩) hz_), (f_H2.at (by simp only [List.mem_cons, List.not_mem_nil, or_false, not_or]; exact ⟨(Ne.symm (sok hid (by unfold apart; decide)).2.2.2.1), (Ne.symm (sok hid (by unfold apart; decide)).2.2.2.1), (Ne.symm (sok hid (by unfold apart; decide)).2.2.2.1), (Ne.symm (sok hid (by unfold apart; decide)).2.2.2.1), (Ne.symm (sok hid (by unfold apart; decide)).2.2.2.1), (Ne.symm (sok hid (by unfold apart; decide)).2.2.2.1), (Ne.symm (sok hid (by unfold apart; decide)).2.2.2.1), (Ne.symm (sok hid (by unfold apart; decide)).2.2.2.1), (Ne.symm (sok hid (by unfold apart; decide)).2.2.2.1), (Ne.symm (sok hid (by unfold apart; decide)).2.2.2.1)⟩) ho_), (f_H2.at (by simp only [List.mem_cons, List.not_mem_nil, or_false, not_or]; exact ⟨(Ne.symm (sok hid (by unfold apart; decide)).2.2.1), (Ne.symm (sok hid (by unfold apart; decide)).2.2.1), (Ne.symm (sok hid (by unfold apart; decide)).2.2.1), (Ne.symm (sok hid (by unfold apart; decide)).2.2.1), (Ne.symm (sok hid (by unfold apart; decide)).2.2.1), (Ne.symm (sok hid (by unfold apart; decide)).2.2.1), (Ne.symm (sok hid (by unfold apart; decide)).2.2.1), (Ne.symm (sok hid (by unfold apart; decide)).2.2.1), (Ne.symm (sok hid (by unfold apart; decide)).2.2.1), (Ne.symm (sok hid (by unfold apart; decide)).2.2.1)⟩) hf_), (f_H2.at (by simp only [List.mem_cons, List.not_mem_nil, or_false, not_or]; exact ⟨(Ne.symm (sok hid (by unfold apart; decide)).2.2.2.2), (Ne.symm (sok hid (by unfold apart; decide)).2.2.2.2), (Ne.symm (sok hid (by unfold apart; decide)).2.2.2.2), (Ne.symm (sok hid (by unfold apart; decide)).2.2.2.2), (Ne.symm (sok hid (by unfold apart; decide)).2.2.2.2), (Ne.symm (sok hid (by unfold apart; decide)).2.2.2.2), (Ne.symm (sok hid (by unfold apart; decide)).2.2.2.2), (Ne.symm (sok hid (by unfold apart; decide)).2.2.2.2), (Ne.symm (sok hid (by unfold apart; decide)).2.2.2.2), (Ne.symm (sok hid (by unfold apart; decide)).2.2.2.2)⟩) hg_), ef, eg⟩ (by omega) (by omega) (hd := by omega)) ?_
  exact E_ret hk rfl rfl (Or.inl ⟨(A_H2 (20 * (S 0 - 1) + (S 1 - 1))), rfl, Or.inl ⟨rfl, by first | trivial | assumption | omega, by rw [m8_H2 (S 0 - 1) (S 1 - 1) (by omega) (by omega) (by omega) (by omega), cst_mat hz h0 h1 (by omega)]; exact if_pos (cst_fin hz h0 h1 (by omega) (by omega))⟩, ⟨0, x28_H2, g1_H2, g2_H2, g3_H2, g4_H2, ⟨_, k1_H2⟩, ⟨_, k2_H2⟩, c_H2, A_H2, B_H2, P_H2, Q_H2, U_H2, V_H2, Or.inl ⟨rfl, m1_H2, m2_H2, m3_H2, m4_H2, m5_H2, m6_H2, m7_H2, m8_H2, m9_H2, mt_H2, uv_H2⟩⟩, yfz.of_fr f_H2⟩)
theorem c_X8_costFromEnd {d : Nat} {hp : xH} {kp cl od : Int} (h28 : xat hp 28 = some (.inr (8, [.ref 29, .ref 34, .ref 35, yi kp, .ref 40, yi cl, .ref 41, .ref 43, yi od, .ref 56, .ref 58]))) {S : Int → Int} (hM : yMs hp S od) {z o : Nat} {f g : Int → Int} {r t : Int} (hS : yS hp 29 z o S f g r t) (hz : 0 ≤ S 0 ∧ S 0 ≤ 20 ∧ 0 ≤ S 1 ∧ S 1 ≤ 20 ∧ 0 ≤ S 2 ∧ S 2 ≤ 20 ∧ 0 ≤ S 3 ∧ S 3 ≤ 50 ∧ 0 ≤ S 4 ∧ S 4 ≤ 3) (h0 : ∀ q, 0 ≤ q → q < S 0 → 0 ≤ S (7 + q) ∧ S (7 + q) ≤ 60) (h1 : ∀ q, 0 ≤ q → q < S 1 → 0 ≤ S (27 + q) ∧ S (27 + q) ≤ 60) (hd : 6 ≤ d) : Cv d 72 [.ref 28] hp (yA (fun e z h => ((e = none ∧ (0 < S 0 ∧ 0 < S 1 ∧ -S 2 ≤ S 0 - S 1 ∧ S 0 - S 1 ≤ S 2) ∧ z = bw (unl S 0) (S 3) (S 2) (S 0) (S 1) 0 0) ∨ (e = some 2 ∧ (¬ (0 < S 0 ∧ 0 < S 1 ∧ -S 2 ≤ S 0 - S 1 ∧ S 0 - S 1 ≤ S 2)))) ∧ (∃ od2, xat h 28 = some (.inr (8, [.ref 29, .ref 34, .ref 35, yi kp, .ref 40, yi cl, .ref 41, .ref 43, yi od2, .ref 56, .ref 58])) ∧ yMs h S od2) ∧ yfz [28, 43, 45, 47, 49, 51, 52, 53, 54, 55] hp h)) := by
  have hk : xtab 72 = (xc_72, 1, 1, []) := rfl
  obtain ⟨d, rfl⟩ : ∃ e, d = e + 1 := ⟨d - 1, by omega⟩
  obtain ⟨hid, hs_, hz_, ho_, hf_, hg_, ef, eg⟩ := hS
  show Ev (d + 1) 72 0 [(0, .ref 28)] [] hp _
  refine E_run hk 1 (j' := 1) (lv' := [(0, .ref 28)]) (st' := [.ref 28]) (hp' := hp) rfl ?_
  refine Y_callT hk rfl (as := [.ref 28]) (rest := []) (v := none) rfl rfl (Nat.le_of_ble_eq_true rfl) (rcv0 h28) (Nat.le_of_ble_eq_true rfl) (c_X8_checkMatched h28 ⟨hid, hs_, hz_, ho_, hf_, hg_, ef, eg⟩ (by omega) (by omega) (hd := by omega)) (fun g1 => ?_) rfl (fun g1 => ?_)
  rotate_left
  · exact Or.inr ⟨2, rfl, by first | exact Or.inr (⟨rfl, by first | assumption | omega⟩), ⟨od, h28, hM⟩, yfz.frb (yfr.refl _ _)⟩
  refine E_run hk 1 (j' := 3) (lv' := [(0, .ref 28)]) (st' := [.ref 28]) (hp' := hp) rfl ?_
  refine Y_call hk rfl (as := [.ref 28]) (rest := []) (v := some (.ref 43)) rfl rfl (Nat.le_of_ble_eq_true rfl) (rcv0 h28) (Nat.le_of_ble_eq_true rfl) (c_X8_found h28 hM ⟨hid, hs_, hz_, ho_, hf_, hg_, ef, eg⟩ hz h0 h1 (hd := by omega)) (fun H2 r3 => ?_)
  obtain ⟨⟨c_H2, A_H2, B_H2, P_H2, Q_H2, U_H2, V_H2, ⟨m1_H2, m2_H2, m3_H2, m4_H2, m5_H2, m6_H2, m7_H2, m8_H2, m9_H2, m10_H2⟩, ⟨C_H2, k1_H2⟩, ⟨N_H2, k2_H2⟩, x28_H2, f_H2⟩, g1_H2, g2_H2, g3_H2, g4_H2⟩ := r3
  obtain ⟨mt_H2, uv_H2⟩ := m10_H2
  obtain ⟨mc1_H2, mc2_H2, mc3_H2⟩ := mtc_rng mt_H2 (by omega)
  have hl_H2 := hls_rng S (c_H2 - 1).toNat
  refine Y_callP hk rfl (as := [.ref 43]) (rest := []) (v := some (yi (B_H2 0))) rfl rfl (Nat.le_of_ble_eq_true rfl) (rcv0 m1_H2) (Nat.le_of_ble_eq_true rfl) (c_X2_leastFromEnd m1_H2 g2_H2 m3_H2 (hd := by omega)) ?_
  exact E_ret hk rfl rfl (Or.inl ⟨(B_H2 0), rfl, Or.inl ⟨rfl, by first | trivial | assumption | omega, by
        have w := m9_H2 0 0 (by omega) (by omega) (by omega) (by omega)
        exact w.trans (if_pos (bw_fin (by omega) (by omega) (fun i j a1 a2 a3 a4 => unl_rng hz h0 h1 (by omega) a1 a2 a3 a4) (by omega) _ 0 0 (by omega) (by omega) (by omega) (by omega) (by omega) (by omega) rfl))⟩, ⟨0, x28_H2, g1_H2, g2_H2, g3_H2, g4_H2, ⟨_, k1_H2⟩, ⟨_, k2_H2⟩, c_H2, A_H2, B_H2, P_H2, Q_H2, U_H2, V_H2, Or.inl ⟨rfl, m1_H2, m2_H2, m3_H2, m4_H2, m5_H2, m6_H2, m7_H2, m8_H2, m9_H2, mt_H2, uv_H2⟩⟩, yfz.of_fr f_H2⟩)
theorem c_X8_costTo {d : Nat} {hp : xH} {kp cl od : Int} (h28 : xat hp 28 = some (.inr (8, [.ref 29, .ref 34, .ref 35, yi kp, .ref 40, yi cl, .ref 41, .ref 43, yi od, .ref 56, .ref 58]))) {S : Int → Int} (hM : yMs hp S od) {z o : Nat} {f g : Int → Int} {r t : Int} (hS : yS hp 29 z o S f g r t) (hz : 0 ≤ S 0 ∧ S 0 ≤ 20 ∧ 0 ≤ S 1 ∧ S 1 ≤ 20 ∧ 0 ≤ S 2 ∧ S 2 ≤ 20 ∧ 0 ≤ S 3 ∧ S 3 ≤ 50 ∧ 0 ≤ S 4 ∧ S 4 ≤ 3) (h0 : ∀ q, 0 ≤ q → q < S 0 → 0 ≤ S (7 + q) ∧ S (7 + q) ≤ 60) (h1 : ∀ q, 0 ≤ q → q < S 1 → 0 ≤ S (27 + q) ∧ S (27 + q) ≤ 60) {i j : Int} (hij : -2147483648 ≤ i ∧ i ≤ 2147483647 ∧ -2147483648 ≤ j ∧ j ≤ 2147483647) (hd : 6 ≤ d) : Cv d 73 [.ref 28, yi i, yi j] hp (yA (fun e z h => ((e = none ∧ (0 ≤ i ∧ i < S 0 ∧ 0 ≤ j ∧ j < S 1) ∧ z = orn (fw (unl S 0) (S 3) (S 2) i j)) ∨ (e = some 0 ∧ (¬ (0 ≤ i ∧ i < S 0 ∧ 0 ≤ j ∧ j < S 1)))) ∧ (∃ od2, xat h 28 = some (.inr (8, [.ref 29, .ref 34, .ref 35, yi kp, .ref 40, yi cl, .ref 41, .ref 43, yi od2, .ref 56, .ref 58])) ∧ yMs h S od2) ∧ yfz [28, 43, 45, 47, 49, 51, 52, 53, 54, 55] hp h)) := by
  have hk : xtab 73 = (xc_73, 3, 1, []) := rfl
  obtain ⟨d, rfl⟩ : ∃ e, d = e + 1 := ⟨d - 1, by omega⟩
  obtain ⟨hid, hs_, hz_, ho_, hf_, hg_, ef, eg⟩ := hS
  show Ev (d + 1) 73 0 [(0, .ref 28), (1, yi i), (2, yi j)] [] hp _
  refine E_run hk 1 (j' := 1) (lv' := [(0, .ref 28), (1, yi i), (2, yi j)]) (st' := [.ref 28]) (hp' := hp) rfl ?_
  refine E_get (v := .ref 29) hk rfl h28 rfl ?_
  refine E_get (v := .ref z) hk rfl hs_ rfl ?_
  refine E_run hk 1 (j' := 4) (lv' := [(0, .ref 28), (1, yi i), (2, yi j)]) (st' := [yi i, .ref z]) (hp' := hp) rfl ?_
  refine Y_callT hk rfl (as := [.ref z, yi i]) (rest := []) (v := none) rfl rfl (Nat.le_of_ble_eq_true rfl) rfl (Nat.le_of_ble_eq_true rfl) (c_X8_checkNote (x := i) (a := z) (p := (z + 1)) (f := f) (n := (S 0)) ⟨(s28 hid).2.1, (s28 hid).2.2.1, (sne hid).2.2.2.2.1⟩ hz_ hf_ (by omega) (by omega) (hd := by omega)) (fun g1 => ?_) rfl (fun g1 => ?_)
  rotate_left
  · exact Or.inr ⟨0, rfl, by first | exact Or.inr (⟨rfl, by first | assumption | omega⟩), ⟨od, h28, hM⟩, yfz.frb (yfr.refl _ _)⟩
  refine E_run hk 1 (j' := 6) (lv' := [(0, .ref 28), (1, yi i), (2, yi j)]) (st' := [.ref 28]) (hp' := hp) rfl ?_
  refine E_get (v := .ref 29) hk rfl h28 rfl ?_
  refine E_get (v := .ref o) hk rfl hs_ rfl ?_
  refine E_run hk 1 (j' := 9) (lv' := [(0, .ref 28), (1, yi i), (2, yi j)]) (st' := [yi j, .ref o]) (hp' := hp) rfl ?_
  refine Y_callT hk rfl (as := [.ref o, yi j]) (rest := []) (v := none) rfl rfl (Nat.le_of_ble_eq_true rfl) rfl (Nat.le_of_ble_eq_true rfl) (c_X8_checkNote (x := j) (a := o) (p := (o + 1)) (f := g) (n := (S 1)) ⟨(s28 hid).2.2.2.1, (s28 hid).2.2.2.2, (sne hid).2.2.2.2.2.2.2.2.2⟩ ho_ hg_ (by omega) (by omega) (hd := by omega)) (fun g2 => ?_) rfl (fun g2 => ?_)
  rotate_left
  · exact Or.inr ⟨0, rfl, by first | exact Or.inr (⟨rfl, by first | assumption | omega⟩), ⟨od, h28, hM⟩, yfz.frb (yfr.refl _ _)⟩
  refine E_run hk 1 (j' := 11) (lv' := [(0, .ref 28), (1, yi i), (2, yi j)]) (st' := [.ref 28]) (hp' := hp) rfl ?_
  refine Y_call hk rfl (as := [.ref 28]) (rest := []) (v := some (.ref 43)) rfl rfl (Nat.le_of_ble_eq_true rfl) (rcv0 h28) (Nat.le_of_ble_eq_true rfl) (c_X8_found h28 hM ⟨hid, hs_, hz_, ho_, hf_, hg_, ef, eg⟩ hz h0 h1 (hd := by omega)) (fun H3 r4 => ?_)
  obtain ⟨⟨c_H3, A_H3, B_H3, P_H3, Q_H3, U_H3, V_H3, ⟨m1_H3, m2_H3, m3_H3, m4_H3, m5_H3, m6_H3, m7_H3, m8_H3, m9_H3, m10_H3⟩, ⟨C_H3, k1_H3⟩, ⟨N_H3, k2_H3⟩, x28_H3, f_H3⟩, g1_H3, g2_H3, g3_H3, g4_H3⟩ := r4
  obtain ⟨mt_H3, uv_H3⟩ := m10_H3
  obtain ⟨mc1_H3, mc2_H3, mc3_H3⟩ := mtc_rng mt_H3 (by omega)
  have hl_H3 := hls_rng S (c_H3 - 1).toNat
  refine E_run hk 2 (j' := 14) (lv' := [(0, .ref 28), (1, yi i), (2, yi j)]) (st' := [yi j, yi i, .ref 43]) (hp' := H3) rfl ?_
  refine Y_callP hk rfl (as := [.ref 43, yi i, yi j]) (rest := []) (v := some (yi (A_H3 (20 * i + j)))) rfl rfl (Nat.le_of_ble_eq_true rfl) (rcv0 m1_H3) (Nat.le_of_ble_eq_true rfl) (c_X2_leastTo (i := i) (j := j) m1_H3 g1_H3 m2_H3 (by omega) (hd := by omega)) ?_
  have w1 := m8_H3 i j (by omega) (by omega) (by omega) (by omega)
  have w2 := fw_rng (D := unl S 0) (b := S 2) (w := S 3) (m := S 0) (n := S 1) (by omega) (fun i j a1 a2 a3 a4 => unl_rng hz h0 h1 (by omega) a1 a2 a3 a4) _ i j (by omega) (by omega) rfl
  have w3 := far_rng (fw (unl S 0) (S 3) (S 2) i j)
  rw [← w1] at w3
  refine Y_callP hk rfl (as := [yi (A_H3 (20 * i + j))]) (rest := []) (v := some (yi (if (A_H3 (20 * i + j)) < 1000000000 then (A_H3 (20 * i + j)) else -1))) rfl rfl (Nat.le_of_ble_eq_true rfl) rfl (Nat.le_of_ble_eq_true rfl) (c_X8_orNothing (x := (A_H3 (20 * i + j))) (by omega)) ?_
  exact E_ret hk rfl rfl (Or.inl ⟨(if (A_H3 (20 * i + j)) < 1000000000 then (A_H3 (20 * i + j)) else -1), rfl, Or.inl ⟨rfl, by first | trivial | assumption | omega, by unfold orn; split <;> split <;> omega⟩, ⟨0, x28_H3, g1_H3, g2_H3, g3_H3, g4_H3, ⟨_, k1_H3⟩, ⟨_, k2_H3⟩, c_H3, A_H3, B_H3, P_H3, Q_H3, U_H3, V_H3, Or.inl ⟨rfl, m1_H3, m2_H3, m3_H3, m4_H3, m5_H3, m6_H3, m7_H3, m8_H3, m9_H3, mt_H3, uv_H3⟩⟩, yfz.of_fr f_H3⟩)
theorem c_X8_pairs {d : Nat} {hp : xH} {kp cl od : Int} (h28 : xat hp 28 = some (.inr (8, [.ref 29, .ref 34, .ref 35, yi kp, .ref 40, yi cl, .ref 41, .ref 43, yi od, .ref 56, .ref 58]))) {S : Int → Int} (hM : yMs hp S od) {z o : Nat} {f g : Int → Int} {r t : Int} (hS : yS hp 29 z o S f g r t) (hz : 0 ≤ S 0 ∧ S 0 ≤ 20 ∧ 0 ≤ S 1 ∧ S 1 ≤ 20 ∧ 0 ≤ S 2 ∧ S 2 ≤ 20 ∧ 0 ≤ S 3 ∧ S 3 ≤ 50 ∧ 0 ≤ S 4 ∧ S 4 ≤ 3) (h0 : ∀ q, 0 ≤ q → q < S 0 → 0 ≤ S (7 + q) ∧ S (7 + q) ≤ 60) (h1 : ∀ q, 0 ≤ q → q < S 1 → 0 ≤ S (27 + q) ∧ S (27 + q) ≤ 60) (hd : 6 ≤ d) : Cv d 74 [.ref 28] hp (yA (fun e z h => ((e = none ∧ (0 < S 0 ∧ 0 < S 1 ∧ -S 2 ≤ S 0 - S 1 ∧ S 0 - S 1 ≤ S 2 ∧ ∃ p q, mtc S z p q)) ∨ (e = some 2 ∧ (¬ (0 < S 0 ∧ 0 < S 1 ∧ -S 2 ≤ S 0 - S 1 ∧ S 0 - S 1 ≤ S 2)))) ∧ (∃ od2, xat h 28 = some (.inr (8, [.ref 29, .ref 34, .ref 35, yi kp, .ref 40, yi cl, .ref 41, .ref 43, yi od2, .ref 56, .ref 58])) ∧ yMs h S od2) ∧ yfz [28, 43, 45, 47, 49, 51, 52, 53, 54, 55] hp h)) := by
  have hk : xtab 74 = (xc_74, 1, 1, []) := rfl
  obtain ⟨d, rfl⟩ : ∃ e, d = e + 1 := ⟨d - 1, by omega⟩
  obtain ⟨hid, hs_, hz_, ho_, hf_, hg_, ef, eg⟩ := hS
  show Ev (d + 1) 74 0 [(0, .ref 28)] [] hp _
  refine E_run hk 1 (j' := 1) (lv' := [(0, .ref 28)]) (st' := [.ref 28]) (hp' := hp) rfl ?_
  refine Y_callT hk rfl (as := [.ref 28]) (rest := []) (v := none) rfl rfl (Nat.le_of_ble_eq_true rfl) (rcv0 h28) (Nat.le_of_ble_eq_true rfl) (c_X8_checkMatched h28 ⟨hid, hs_, hz_, ho_, hf_, hg_, ef, eg⟩ (by omega) (by omega) (hd := by omega)) (fun g1 => ?_) rfl (fun g1 => ?_)
  rotate_left
  · exact Or.inr ⟨2, rfl, by first | exact Or.inr (⟨rfl, by first | assumption | omega⟩), ⟨od, h28, hM⟩, yfz.frb (yfr.refl _ _)⟩
  refine E_run hk 1 (j' := 3) (lv' := [(0, .ref 28)]) (st' := [.ref 28]) (hp' := hp) rfl ?_
  refine Y_call hk rfl (as := [.ref 28]) (rest := []) (v := some (.ref 43)) rfl rfl (Nat.le_of_ble_eq_true rfl) (rcv0 h28) (Nat.le_of_ble_eq_true rfl) (c_X8_found h28 hM ⟨hid, hs_, hz_, ho_, hf_, hg_, ef, eg⟩ hz h0 h1 (hd := by omega)) (fun H2 r3 => ?_)
  obtain ⟨⟨c_H2, A_H2, B_H2, P_H2, Q_H2, U_H2, V_H2, ⟨m1_H2, m2_H2, m3_H2, m4_H2, m5_H2, m6_H2, m7_H2, m8_H2, m9_H2, m10_H2⟩, ⟨C_H2, k1_H2⟩, ⟨N_H2, k2_H2⟩, x28_H2, f_H2⟩, g1_H2, g2_H2, g3_H2, g4_H2⟩ := r3
  obtain ⟨mt_H2, uv_H2⟩ := m10_H2
  obtain ⟨mc1_H2, mc2_H2, mc3_H2⟩ := mtc_rng mt_H2 (by omega)
  have hl_H2 := hls_rng S (c_H2 - 1).toNat
  refine E_get (v := yi c_H2) hk rfl m1_H2 rfl ?_
  exact E_ret hk rfl rfl (Or.inl ⟨c_H2, rfl, Or.inl ⟨rfl, ⟨by omega, by omega, by omega, by omega, _, _, mt_H2⟩⟩, ⟨0, x28_H2, g1_H2, g2_H2, g3_H2, g4_H2, ⟨_, k1_H2⟩, ⟨_, k2_H2⟩, c_H2, A_H2, B_H2, P_H2, Q_H2, U_H2, V_H2, Or.inl ⟨rfl, m1_H2, m2_H2, m3_H2, m4_H2, m5_H2, m6_H2, m7_H2, m8_H2, m9_H2, mt_H2, uv_H2⟩⟩, yfz.of_fr f_H2⟩)
theorem c_X8_noteOfPair {d : Nat} {hp : xH} {kp cl od : Int} (h28 : xat hp 28 = some (.inr (8, [.ref 29, .ref 34, .ref 35, yi kp, .ref 40, yi cl, .ref 41, .ref 43, yi od, .ref 56, .ref 58]))) {S : Int → Int} (hM : yMs hp S od) {z o : Nat} {f g : Int → Int} {r t : Int} (hS : yS hp 29 z o S f g r t) (hz : 0 ≤ S 0 ∧ S 0 ≤ 20 ∧ 0 ≤ S 1 ∧ S 1 ≤ 20 ∧ 0 ≤ S 2 ∧ S 2 ≤ 20 ∧ 0 ≤ S 3 ∧ S 3 ≤ 50 ∧ 0 ≤ S 4 ∧ S 4 ≤ 3) (h0 : ∀ q, 0 ≤ q → q < S 0 → 0 ≤ S (7 + q) ∧ S (7 + q) ≤ 60) (h1 : ∀ q, 0 ≤ q → q < S 1 → 0 ≤ S (27 + q) ∧ S (27 + q) ≤ 60) {t1 x : Int} (htx : -2147483648 ≤ t1 ∧ t1 ≤ 2147483647 ∧ -2147483648 ≤ x ∧ x ≤ 2147483647) (hd : 6 ≤ d) : Cv d 75 [.ref 28, yi t1, yi x] hp (yA (fun e z h => ((e = none ∧ (0 ≤ t1 ∧ t1 ≤ 1 ∧ 0 ≤ x ∧ ∃ k p q, mtc S k p q ∧ x < k ∧ z = (if t1 = 0 then p else q) x)) ∨ (e = some 0 ∧ (¬ (0 ≤ t1 ∧ t1 ≤ 1))) ∨ (e = some 0 ∧ (∃ k p q, mtc S k p q ∧ ¬ (0 ≤ x ∧ x < k)))) ∧ (∃ od2, xat h 28 = some (.inr (8, [.ref 29, .ref 34, .ref 35, yi kp, .ref 40, yi cl, .ref 41, .ref 43, yi od2, .ref 56, .ref 58])) ∧ yMs h S od2) ∧ yfz [28, 43, 45, 47, 49, 51, 52, 53, 54, 55] hp h)) := by
  have hk : xtab 75 = (xc_75, 4, 1, []) := rfl
  obtain ⟨d, rfl⟩ : ∃ e, d = e + 1 := ⟨d - 1, by omega⟩
  obtain ⟨hid, hs_, hz_, ho_, hf_, hg_, ef, eg⟩ := hS
  show Ev (d + 1) 75 0 [(0, .ref 28), (1, yi t1), (2, yi x)] [] hp _
  refine E_run hk 1 (j' := 1) (lv' := [(0, .ref 28), (1, yi t1), (2, yi x)]) (st' := [yi t1]) (hp' := hp) rfl ?_
  refine Y_callT hk rfl (as := [yi t1]) (rest := []) (v := none) rfl rfl (Nat.le_of_ble_eq_true rfl) rfl (Nat.le_of_ble_eq_true rfl) (c_X8_checkTune (t := t1) (by omega) (hd := by omega)) (fun g1 => ?_) rfl (fun g1 => ?_)
  rotate_left
  · exact Or.inr ⟨0, rfl, by first | exact Or.inr (Or.inl ⟨rfl, by first | assumption | omega⟩) | exact Or.inr (Or.inr (⟨rfl, by first | assumption | omega⟩)), ⟨od, h28, hM⟩, yfz.frb (yfr.refl _ _)⟩
  refine E_run hk 1 (j' := 3) (lv' := [(0, .ref 28), (1, yi t1), (2, yi x)]) (st' := [.ref 28]) (hp' := hp) rfl ?_
  refine Y_call hk rfl (as := [.ref 28]) (rest := []) (v := some (.ref 43)) rfl rfl (Nat.le_of_ble_eq_true rfl) (rcv0 h28) (Nat.le_of_ble_eq_true rfl) (c_X8_found h28 hM ⟨hid, hs_, hz_, ho_, hf_, hg_, ef, eg⟩ hz h0 h1 (hd := by omega)) (fun H2 r3 => ?_)
  obtain ⟨⟨c_H2, A_H2, B_H2, P_H2, Q_H2, U_H2, V_H2, ⟨m1_H2, m2_H2, m3_H2, m4_H2, m5_H2, m6_H2, m7_H2, m8_H2, m9_H2, m10_H2⟩, ⟨C_H2, k1_H2⟩, ⟨N_H2, k2_H2⟩, x28_H2, f_H2⟩, g1_H2, g2_H2, g3_H2, g4_H2⟩ := r3
  obtain ⟨mt_H2, uv_H2⟩ := m10_H2
  obtain ⟨mc1_H2, mc2_H2, mc3_H2⟩ := mtc_rng mt_H2 (by omega)
  have hl_H2 := hls_rng S (c_H2 - 1).toNat
  refine E_run hk 2 (j' := 6) (lv' := [(3, .ref 43), (0, .ref 28), (1, yi t1), (2, yi x)]) (st' := [yi x]) (hp' := H2) rfl ?_
  refine Y_if_lt (a := x) (by omega) hk rfl (fun g4 => ?_) (fun g4 => ?_)
  ·
    exact E_throw (by omega) hk rfl (Nat.le_of_ble_eq_true rfl) (Or.inr ⟨0, rfl, Or.inr (Or.inr ⟨rfl, _, _, _, mt_H2, by omega⟩), ⟨0, x28_H2, g1_H2, g2_H2, g3_H2, g4_H2, ⟨_, k1_H2⟩, ⟨_, k2_H2⟩, c_H2, A_H2, B_H2, P_H2, Q_H2, U_H2, V_H2, Or.inl ⟨rfl, m1_H2, m2_H2, m3_H2, m4_H2, m5_H2, m6_H2, m7_H2, m8_H2, m9_H2, mt_H2, uv_H2⟩⟩, yfz.frb f_H2⟩)
  ·
    refine E_run hk 2 (j' := 9) (lv' := [(3, .ref 43), (0, .ref 28), (1, yi t1), (2, yi x)]) (st' := [.ref 43, yi x]) (hp' := H2) rfl ?_
    refine E_get (v := yi c_H2) hk rfl m1_H2 rfl ?_
    refine Y_ic_lt (a := x) (b := c_H2) (by omega) hk rfl (fun g5 => ?_) (fun g5 => ?_)
    ·
      refine E_run hk 3 (j' := 19) (lv' := [(3, .ref 43), (0, .ref 28), (1, yi t1), (2, yi x)]) (st' := [yi x, yi t1, .ref 43]) (hp' := H2) rfl ?_
      refine Y_callP hk rfl (as := [.ref 43, yi t1, yi x]) (rest := []) (v := some (yi ((if t1 = 0 then P_H2 else Q_H2) x))) rfl rfl (Nat.le_of_ble_eq_true rfl) (rcv0 m1_H2) (Nat.le_of_ble_eq_true rfl) (c_X2_noteOf (t := t1) (x := x) m1_H2 m4_H2 m5_H2 (by omega) (by omega)) ?_
      exact E_ret hk rfl rfl (Or.inl ⟨((if t1 = 0 then P_H2 else Q_H2) x), rfl, Or.inl ⟨rfl, ⟨by omega, by omega, by omega, _, _, _, mt_H2, by omega, rfl⟩⟩, ⟨0, x28_H2, g1_H2, g2_H2, g3_H2, g4_H2, ⟨_, k1_H2⟩, ⟨_, k2_H2⟩, c_H2, A_H2, B_H2, P_H2, Q_H2, U_H2, V_H2, Or.inl ⟨rfl, m1_H2, m2_H2, m3_H2, m4_H2, m5_H2, m6_H2, m7_H2, m8_H2, m9_H2, mt_H2, uv_H2⟩⟩, yfz.of_fr f_H2⟩)
    ·
      exact E_throw (by omega) hk rfl (Nat.le_of_ble_eq_true rfl) (Or.inr ⟨0, rfl, Or.inr (Or.inr ⟨rfl, _, _, _, mt_H2, by omega⟩), ⟨0, x28_H2, g1_H2, g2_H2, g3_H2, g4_H2, ⟨_, k1_H2⟩, ⟨_, k2_H2⟩, c_H2, A_H2, B_H2, P_H2, Q_H2, U_H2, V_H2, Or.inl ⟨rfl, m1_H2, m2_H2, m3_H2, m4_H2, m5_H2, m6_H2, m7_H2, m8_H2, m9_H2, mt_H2, uv_H2⟩⟩, yfz.frb f_H2⟩)
theorem c_X8_stretch {d : Nat} {hp : xH} {kp cl od : Int} (h28 : xat hp 28 = some (.inr (8, [.ref 29, .ref 34, .ref 35, yi kp, .ref 40, yi cl, .ref 41, .ref 43, yi od, .ref 56, .ref 58]))) {S : Int → Int} (hM : yMs hp S od) {z o : Nat} {f g : Int → Int} {r t : Int} (hS : yS hp 29 z o S f g r t) (hz : 0 ≤ S 0 ∧ S 0 ≤ 20 ∧ 0 ≤ S 1 ∧ S 1 ≤ 20 ∧ 0 ≤ S 2 ∧ S 2 ≤ 20 ∧ 0 ≤ S 3 ∧ S 3 ≤ 50 ∧ 0 ≤ S 4 ∧ S 4 ≤ 3) (h0 : ∀ q, 0 ≤ q → q < S 0 → 0 ≤ S (7 + q) ∧ S (7 + q) ≤ 60) (h1 : ∀ q, 0 ≤ q → q < S 1 → 0 ≤ S (27 + q) ∧ S (27 + q) ≤ 60) {t1 x : Int} (htx : -2147483648 ≤ t1 ∧ t1 ≤ 2147483647 ∧ -2147483648 ≤ x ∧ x ≤ 2147483647) (hd : 6 ≤ d) : Cv d 76 [.ref 28, yi t1, yi x] hp (yA (fun e z h => ((e = none ∧ (0 ≤ t1 ∧ t1 ≤ 1 ∧ 0 ≤ x ∧ x < S (0 + t1) ∧ ∃ k p q, mtc S k p q ∧ z = cnt (if t1 = 0 then p else q) x k.toNat)) ∨ (e = some 0 ∧ (¬ (0 ≤ t1 ∧ t1 ≤ 1 ∧ 0 ≤ x ∧ x < S (0 + t1))))) ∧ (∃ od2, xat h 28 = some (.inr (8, [.ref 29, .ref 34, .ref 35, yi kp, .ref 40, yi cl, .ref 41, .ref 43, yi od2, .ref 56, .ref 58])) ∧ yMs h S od2) ∧ yfz [28, 43, 45, 47, 49, 51, 52, 53, 54, 55] hp h)) := by
  have hk : xtab 76 = (xc_76, 3, 1, []) := rfl
  obtain ⟨d, rfl⟩ : ∃ e, d = e + 1 := ⟨d - 1, by omega⟩
  obtain ⟨hid, hs_, hz_, ho_, hf_, hg_, ef, eg⟩ := hS
  have w0 : 0 ≤ t1 → t1 ≤ 1 → 0 ≤ S (0 + t1) ∧ S (0 + t1) ≤ 20 := fun a b => by rcases (by omega : t1 = 0 ∨ t1 = 1) with e | e <;> rw [e] <;> first | exact ⟨hz.1, hz.2.1⟩ | exact ⟨hz.2.2.1, hz.2.2.2.1⟩
  show Ev (d + 1) 76 0 [(0, .ref 28), (1, yi t1), (2, yi x)] [] hp _
  refine E_run hk 2 (j' := 2) (lv' := [(0, .ref 28), (1, yi t1), (2, yi x)]) (st' := [yi t1, .ref 28]) (hp' := hp) rfl ?_
  refine Y_callT hk rfl (as := [.ref 28, yi t1]) (rest := []) (v := some (.ref (tun t1 z o))) rfl rfl (Nat.le_of_ble_eq_true rfl) (rcv0 h28) (Nat.le_of_ble_eq_true rfl) (c_X8_tuneAt h28 ⟨hid, hs_, hz_, ho_, hf_, hg_, ef, eg⟩ (x := t1) (by omega) (hd := by omega)) (fun g2 => ?_) rfl (fun g2 => ?_)
  rotate_left
  · exact Or.inr ⟨0, rfl, by first | exact Or.inr (⟨rfl, by first | assumption | omega⟩), ⟨od, h28, hM⟩, yfz.frb (yfr.refl _ _)⟩
  have u1 := yS.tun (x := t1) (show yS hp 29 z o S f g _ _ from ⟨hid, hs_, hz_, ho_, hf_, hg_, ef, eg⟩) (by omega)
  have w1 := w0 (by omega) (by omega)
  refine E_run hk 1 (j' := 4) (lv' := [(0, .ref 28), (1, yi t1), (2, yi x)]) (st' := [yi x, .ref (tun t1 z o)]) (hp' := hp) rfl ?_
  refine Y_callT hk rfl (as := [.ref (tun t1 z o), yi x]) (rest := []) (v := none) rfl rfl (Nat.le_of_ble_eq_true rfl) rfl (Nat.le_of_ble_eq_true rfl) (c_X8_checkNote (x := x) (a := (tun t1 z o)) (p := ((tun t1 z o) + 1)) (f := (tuf t1 f g)) (n := (S (0 + t1))) ⟨(tid hid t1).1, (tid hid t1).2.1, (tid hid t1).2.2.1⟩ u1.1 u1.2.1 (by omega) (by omega) (hd := by omega)) (fun g3 => ?_) rfl (fun g3 => ?_)
  rotate_left
  · exact Or.inr ⟨0, rfl, by first | exact Or.inr (⟨rfl, by first | assumption | omega⟩), ⟨od, h28, hM⟩, yfz.frb (yfr.refl _ _)⟩
  refine E_run hk 1 (j' := 6) (lv' := [(0, .ref 28), (1, yi t1), (2, yi x)]) (st' := [.ref 28]) (hp' := hp) rfl ?_
  refine Y_call hk rfl (as := [.ref 28]) (rest := []) (v := some (.ref 43)) rfl rfl (Nat.le_of_ble_eq_true rfl) (rcv0 h28) (Nat.le_of_ble_eq_true rfl) (c_X8_found h28 hM ⟨hid, hs_, hz_, ho_, hf_, hg_, ef, eg⟩ hz h0 h1 (hd := by omega)) (fun H4 r5 => ?_)
  obtain ⟨⟨c_H4, A_H4, B_H4, P_H4, Q_H4, U_H4, V_H4, ⟨m1_H4, m2_H4, m3_H4, m4_H4, m5_H4, m6_H4, m7_H4, m8_H4, m9_H4, m10_H4⟩, ⟨C_H4, k1_H4⟩, ⟨N_H4, k2_H4⟩, x28_H4, f_H4⟩, g1_H4, g2_H4, g3_H4, g4_H4⟩ := r5
  obtain ⟨mt_H4, uv_H4⟩ := m10_H4
  obtain ⟨mc1_H4, mc2_H4, mc3_H4⟩ := mtc_rng mt_H4 (by omega)
  have hl_H4 := hls_rng S (c_H4 - 1).toNat
  refine E_run hk 2 (j' := 9) (lv' := [(0, .ref 28), (1, yi t1), (2, yi x)]) (st' := [yi x, yi t1, .ref 43]) (hp' := H4) rfl ?_
  refine Y_callP hk rfl (as := [.ref 43, yi t1, yi x]) (rest := []) (v := some (yi ((if t1 = 0 then U_H4 else V_H4) x))) rfl rfl (Nat.le_of_ble_eq_true rfl) (rcv0 m1_H4) (Nat.le_of_ble_eq_true rfl) (c_X2_stretchOf (t := t1) (x := x) m1_H4 m6_H4 m7_H4 (by omega) (by omega)) ?_
  exact E_ret hk rfl rfl (Or.inl ⟨((if t1 = 0 then U_H4 else V_H4) x), rfl, Or.inl ⟨rfl, ⟨by omega, by omega, by omega, by omega, _, _, _, mt_H4, by
        by_cases z9 : t1 = 0
        · rw [if_pos z9, if_pos z9]
          exact (uv_H4 x (by omega) (by omega)).1
        · rw [if_neg z9, if_neg z9]
          exact (uv_H4 x (by omega) (by omega)).2⟩⟩, ⟨0, x28_H4, g1_H4, g2_H4, g3_H4, g4_H4, ⟨_, k1_H4⟩, ⟨_, k2_H4⟩, c_H4, A_H4, B_H4, P_H4, Q_H4, U_H4, V_H4, Or.inl ⟨rfl, m1_H4, m2_H4, m3_H4, m4_H4, m5_H4, m6_H4, m7_H4, m8_H4, m9_H4, mt_H4, uv_H4⟩⟩, yfz.of_fr f_H4⟩)
theorem c_X8_longestStretch {d : Nat} {hp : xH} {kp cl od : Int} (h28 : xat hp 28 = some (.inr (8, [.ref 29, .ref 34, .ref 35, yi kp, .ref 40, yi cl, .ref 41, .ref 43, yi od, .ref 56, .ref 58]))) {S : Int → Int} (hM : yMs hp S od) {z o : Nat} {f g : Int → Int} {r t : Int} (hS : yS hp 29 z o S f g r t) (hz : 0 ≤ S 0 ∧ S 0 ≤ 20 ∧ 0 ≤ S 1 ∧ S 1 ≤ 20 ∧ 0 ≤ S 2 ∧ S 2 ≤ 20 ∧ 0 ≤ S 3 ∧ S 3 ≤ 50 ∧ 0 ≤ S 4 ∧ S 4 ≤ 3) (h0 : ∀ q, 0 ≤ q → q < S 0 → 0 ≤ S (7 + q) ∧ S (7 + q) ≤ 60) (h1 : ∀ q, 0 ≤ q → q < S 1 → 0 ≤ S (27 + q) ∧ S (27 + q) ≤ 60) {t1 : Int} (htx : -2147483648 ≤ t1 ∧ t1 ≤ 2147483647) (hd : 6 ≤ d) : Cv d 77 [.ref 28, yi t1] hp (yA (fun e z h => ((e = none ∧ (0 ≤ t1 ∧ t1 ≤ 1 ∧ ∃ k p q, mtc S k p q ∧ z = lng (if t1 = 0 then p else q) k.toNat (S (0 + t1)).toNat)) ∨ (e = some 0 ∧ (¬ (0 ≤ t1 ∧ t1 ≤ 1)))) ∧ (∃ od2, xat h 28 = some (.inr (8, [.ref 29, .ref 34, .ref 35, yi kp, .ref 40, yi cl, .ref 41, .ref 43, yi od2, .ref 56, .ref 58])) ∧ yMs h S od2) ∧ yfz [28, 43, 45, 47, 49, 51, 52, 53, 54, 55] hp h)) := by
  have hk : xtab 77 = (xc_77, 2, 1, []) := rfl
  obtain ⟨d, rfl⟩ : ∃ e, d = e + 1 := ⟨d - 1, by omega⟩
  obtain ⟨hid, hs_, hz_, ho_, hf_, hg_, ef, eg⟩ := hS
  have w0 : 0 ≤ t1 → t1 ≤ 1 → 0 ≤ S (0 + t1) ∧ S (0 + t1) ≤ 20 := fun a b => by rcases (by omega : t1 = 0 ∨ t1 = 1) with e | e <;> rw [e] <;> first | exact ⟨hz.1, hz.2.1⟩ | exact ⟨hz.2.2.1, hz.2.2.2.1⟩
  show Ev (d + 1) 77 0 [(0, .ref 28), (1, yi t1)] [] hp _
  refine E_run hk 1 (j' := 1) (lv' := [(0, .ref 28), (1, yi t1)]) (st' := [yi t1]) (hp' := hp) rfl ?_
  refine Y_callT hk rfl (as := [yi t1]) (rest := []) (v := none) rfl rfl (Nat.le_of_ble_eq_true rfl) rfl (Nat.le_of_ble_eq_true rfl) (c_X8_checkTune (t := t1) (by omega) (hd := by omega)) (fun g1 => ?_) rfl (fun g1 => ?_)
  rotate_left
  · exact Or.inr ⟨0, rfl, by first | exact Or.inr (⟨rfl, by first | assumption | omega⟩), ⟨od, h28, hM⟩, yfz.frb (yfr.refl _ _)⟩
  refine E_run hk 1 (j' := 3) (lv' := [(0, .ref 28), (1, yi t1)]) (st' := [.ref 28]) (hp' := hp) rfl ?_
  refine Y_call hk rfl (as := [.ref 28]) (rest := []) (v := some (.ref 43)) rfl rfl (Nat.le_of_ble_eq_true rfl) (rcv0 h28) (Nat.le_of_ble_eq_true rfl) (c_X8_found h28 hM ⟨hid, hs_, hz_, ho_, hf_, hg_, ef, eg⟩ hz h0 h1 (hd := by omega)) (fun H2 r3 => ?_)
  obtain ⟨⟨c_H2, A_H2, B_H2, P_H2, Q_H2, U_H2, V_H2, ⟨m1_H2, m2_H2, m3_H2, m4_H2, m5_H2, m6_H2, m7_H2, m8_H2, m9_H2, m10_H2⟩, ⟨C_H2, k1_H2⟩, ⟨N_H2, k2_H2⟩, x28_H2, f_H2⟩, g1_H2, g2_H2, g3_H2, g4_H2⟩ := r3
  obtain ⟨mt_H2, uv_H2⟩ := m10_H2
  obtain ⟨mc1_H2, mc2_H2, mc3_H2⟩ := mtc_rng mt_H2 (by omega)
  have hl_H2 := hls_rng S (c_H2 - 1).toNat
  refine E_run hk 1 (j' := 5) (lv' := [(0, .ref 28), (1, yi t1)]) (st' := [yi t1, .ref 43]) (hp' := H2) rfl ?_
  refine Y_callP hk rfl (as := [.ref 43, yi t1]) (rest := []) (v := some (yi (lng (if t1 = 0 then P_H2 else Q_H2) c_H2.toNat 20))) rfl rfl (Nat.le_of_ble_eq_true rfl) (rcv0 m1_H2) (Nat.le_of_ble_eq_true rfl) (c_X2_greatestStretch (t := t1) m1_H2 m6_H2 m7_H2 (by omega) (by omega) uv_H2 (hd := by omega)) ?_
  exact E_ret hk rfl rfl (Or.inl ⟨(lng (if t1 = 0 then P_H2 else Q_H2) c_H2.toNat 20), rfl, Or.inl ⟨rfl, ⟨by omega, by omega, _, _, _, mt_H2, lng_20 (w0 (by omega) (by omega)) (mtc_sel mt_H2 (by omega) (by omega))⟩⟩, ⟨0, x28_H2, g1_H2, g2_H2, g3_H2, g4_H2, ⟨_, k1_H2⟩, ⟨_, k2_H2⟩, c_H2, A_H2, B_H2, P_H2, Q_H2, U_H2, V_H2, Or.inl ⟨rfl, m1_H2, m2_H2, m3_H2, m4_H2, m5_H2, m6_H2, m7_H2, m8_H2, m9_H2, mt_H2, uv_H2⟩⟩, yfz.of_fr f_H2⟩)
theorem c_X8_bestMatches {d : Nat} {hp : xH} {kp cl od : Int} (h28 : xat hp 28 = some (.inr (8, [.ref 29, .ref 34, .ref 35, yi kp, .ref 40, yi cl, .ref 41, .ref 43, yi od, .ref 56, .ref 58]))) {S : Int → Int} (hM : yMs hp S od) {z o : Nat} {f g : Int → Int} {r t : Int} (hS : yS hp 29 z o S f g r t) (hz : 0 ≤ S 0 ∧ S 0 ≤ 20 ∧ 0 ≤ S 1 ∧ S 1 ≤ 20 ∧ 0 ≤ S 2 ∧ S 2 ≤ 20 ∧ 0 ≤ S 3 ∧ S 3 ≤ 50 ∧ 0 ≤ S 4 ∧ S 4 ≤ 3) (h0 : ∀ q, 0 ≤ q → q < S 0 → 0 ≤ S (7 + q) ∧ S (7 + q) ≤ 60) (h1 : ∀ q, 0 ≤ q → q < S 1 → 0 ≤ S (27 + q) ∧ S (27 + q) ≤ 60) (hd : 6 ≤ d) : Cv d 78 [.ref 28] hp (yA (fun e z h => ((e = none ∧ (True) ∧ z = (if 0 < S 0 ∧ 0 < S 1 ∧ -S 2 ≤ S 0 - S 1 ∧ S 0 - S 1 ≤ S 2 then wy (unl S 0) (S 3) (S 2) (S 0) (S 1) 0 0 else 0))) ∧ (∃ od2, xat h 28 = some (.inr (8, [.ref 29, .ref 34, .ref 35, yi kp, .ref 40, yi cl, .ref 41, .ref 43, yi od2, .ref 56, .ref 58])) ∧ yMs h S od2) ∧ yfz [28, 43, 45, 47, 49, 51, 52, 53, 54, 55] hp h)) := by
  have hk : xtab 78 = (xc_78, 1, 1, []) := rfl
  obtain ⟨d, rfl⟩ : ∃ e, d = e + 1 := ⟨d - 1, by omega⟩
  obtain ⟨hid, hs_, hz_, ho_, hf_, hg_, ef, eg⟩ := hS
  show Ev (d + 1) 78 0 [(0, .ref 28)] [] hp _
  refine E_run hk 1 (j' := 1) (lv' := [(0, .ref 28)]) (st' := [.ref 28]) (hp' := hp) rfl ?_
  refine Y_call hk rfl (as := [.ref 28]) (rest := []) (v := some (.ref 43)) rfl rfl (Nat.le_of_ble_eq_true rfl) (rcv0 h28) (Nat.le_of_ble_eq_true rfl) (c_X8_found h28 hM ⟨hid, hs_, hz_, ho_, hf_, hg_, ef, eg⟩ hz h0 h1 (hd := by omega)) (fun H1 r2 => ?_)
  obtain ⟨⟨c_H1, A_H1, B_H1, P_H1, Q_H1, U_H1, V_H1, ⟨m1_H1, m2_H1, m3_H1, m4_H1, m5_H1, m6_H1, m7_H1, m8_H1, m9_H1, m10_H1⟩, ⟨C_H1, k1_H1⟩, ⟨N_H1, k2_H1⟩, x28_H1, f_H1⟩, g1_H1, g2_H1, g3_H1, g4_H1⟩ := r2
  obtain ⟨mt_H1, uv_H1⟩ := m10_H1
  obtain ⟨mc1_H1, mc2_H1, mc3_H1⟩ := mtc_rng mt_H1 (by omega)
  have hl_H1 := hls_rng S (c_H1 - 1).toNat
  refine E_get (v := yi (if 0 < S 0 ∧ 0 < S 1 ∧ -S 2 ≤ S 0 - S 1 ∧ S 0 - S 1 ≤ S 2 then wy (unl S 0) (S 3) (S 2) (S 0) (S 1) 0 0 else 0)) hk rfl m1_H1 rfl ?_
  exact E_ret hk rfl rfl (Or.inl ⟨(if 0 < S 0 ∧ 0 < S 1 ∧ -S 2 ≤ S 0 - S 1 ∧ S 0 - S 1 ≤ S 2 then wy (unl S 0) (S 3) (S 2) (S 0) (S 1) 0 0 else 0), rfl, ⟨rfl, by first | trivial | assumption | omega, by first | rfl | assumption | omega⟩, ⟨0, x28_H1, g1_H1, g2_H1, g3_H1, g4_H1, ⟨_, k1_H1⟩, ⟨_, k2_H1⟩, c_H1, A_H1, B_H1, P_H1, Q_H1, U_H1, V_H1, Or.inl ⟨rfl, m1_H1, m2_H1, m3_H1, m4_H1, m5_H1, m6_H1, m7_H1, m8_H1, m9_H1, mt_H1, uv_H1⟩⟩, yfz.of_fr f_H1⟩)
