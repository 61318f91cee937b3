theorem mtc_rng {S p q : Int → Int} {c : Int} (h : mtc S c p q) (hm : S 0 ≤ 20 ∧ S 1 ≤ 20) : 0 ≤ c ∧ c ≤ 39 ∧ ∀ y, 0 ≤ y → y < c → 0 ≤ p y ∧ p y ≤ 20 ∧ 0 ≤ q y ∧ q y ≤ 20 := by
  rcases h with ⟨-, h⟩ | ⟨-, h1, h2, -, h3⟩
  · exact ⟨by omega, by omega, fun y y1 y2 => absurd y1 (by omega)⟩
  · refine ⟨by omega, h2, fun y y1 y2 => ?_⟩
    have := h3 y y1 y2
    omega
theorem c_X9_holdMany {d : Nat} {hp : xH} {v : Nat → Int} (hM : xat hp 63 = some (yMo v)) {S : Int → Int} (hS : xat hp 64 = some (yI 47 S)) (hz : 0 ≤ S 0 ∧ S 0 ≤ 20 ∧ 0 ≤ S 1 ∧ S 1 ≤ 20 ∧ 0 ≤ S 2 ∧ S 2 ≤ 20 ∧ 0 ≤ S 3 ∧ S 3 ≤ 50 ∧ 0 ≤ S 4 ∧ S 4 ≤ 3) (h0 : ∀ q, 0 ≤ q → q < S 0 → 0 ≤ S (7 + q) ∧ S (7 + q) ≤ 60) (h1 : ∀ q, 0 ≤ q → q < S 1 → 0 ≤ S (27 + q) ∧ S (27 + q) ≤ 60) {f W : Int → Int} (hA : xat hp 71 = some (yI 400 f)) (hW : xat hp 72 = some (yI 400 W)) {p q : Int → Int} (hp1 : xat hp 74 = some (yI 40 p)) (hp2 : xat hp 75 = some (yI 40 q)) (hd : 5 ≤ d) : Cv d 168 [.ref 63] hp (yE (fun z h => ∃ c g w p q, xat h 63 = some (yMo (vup v 20 c)) ∧ xat h 71 = some (yI 400 g) ∧ xat h 72 = some (yI 400 w) ∧ xat h 74 = some (yI 40 p) ∧ xat h 75 = some (yI 40 q) ∧ mtc S c p q ∧ z = hld p q (c - 1).toNat ∧ yfr [63, 71, 72, 74, 75] hp h)) := by
  have hk : xtab 168 = (xc_168, 3, 1, []) := rfl
  obtain ⟨d, rfl⟩ : ∃ e, d = e + 1 := ⟨d - 1, by omega⟩
  show Ev (d + 1) 168 0 [(0, .ref 63)] [] hp _
  refine E_run hk 1 (j' := 1) (lv' := [(0, .ref 63)]) (st' := [.ref 63]) (hp' := hp) rfl ?_
  refine Y_call hk rfl (as := [.ref 63]) (rest := []) (v := none) rfl rfl (Nat.le_of_ble_eq_true rfl) (rcv0 hM) (Nat.le_of_ble_eq_true rfl) (c_X9_tellsMatch (v := v) hM hS hz h0 h1 hA hW hp1 hp2 (hd := by omega)) (fun H1 r2 => ?_)
  obtain ⟨c_H1, A_H1, W_H1, P_H1, Q_H1, e_H1, a_H1, w_H1, p_H1, q_H1, m_H1, f_H1⟩ := r2
  obtain ⟨mc1, mc2, mc3⟩ := mtc_rng m_H1 (by omega)
  refine E_run hk 4 (j' := 6) (lv' := [(2, yi 1), (1, yi 0), (0, .ref 63)]) (st' := []) (hp' := H1) rfl ?_
  have loop6 : ∀ (N : Nat) (k : Int) (n : Int), (1 ≤ k ∧ (k ≤ c_H1 ∨ k = 1) ∧ 0 ≤ n ∧ n ≤ k - 1) → (n = hld P_H1 Q_H1 (k - 1).toNat) → (c_H1 - k).toNat = N → Ev (d + 1) 168 6 [(0, .ref 63), (1, yi n), (2, yi k)] [] H1 (yE (fun z h => ∃ c g w p q, xat h 63 = some (yMo (vup v 20 c)) ∧ xat h 71 = some (yI 400 g) ∧ xat h 72 = some (yI 400 w) ∧ xat h 74 = some (yI 40 p) ∧ xat h 75 = some (yI 40 q) ∧ mtc S c p q ∧ z = hld p q (c - 1).toNat ∧ yfr [63, 71, 72, 74, 75] hp h)) := by
    intro N
    induction N using Nat.strongRecOn with
    | ind N ih6 =>
      intro k n J1 J2 hm6
      refine E_run hk 1 (j' := 7) (lv' := [(0, .ref 63), (1, yi n), (2, yi k)]) (st' := [yi k]) (hp' := H1) rfl ?_
      refine E_run hk 1 (j' := 8) (lv' := [(0, .ref 63), (1, yi n), (2, yi k)]) (st' := [.ref 63, yi k]) (hp' := H1) rfl ?_
      refine E_get (v := yi c_H1) hk rfl e_H1 rfl ?_
      refine Y_ic_ge (a := k) (b := c_H1) (by omega) hk rfl (fun g3 => ?_) (fun g3 => ?_)
      ·
        refine E_run hk 1 (j' := 41) (lv' := [(0, .ref 63), (1, yi n), (2, yi k)]) (st' := [yi n]) (hp' := H1) rfl ?_
        exact E_ret hk rfl rfl ⟨n, rfl, c_H1, _, _, _, _, e_H1, a_H1, w_H1, p_H1, q_H1, m_H1, by rw [J2, (by omega : (k - 1).toNat = (c_H1 - 1).toNat)], f_H1⟩
      ·
        have w1 := mc3 k (by omega) (by omega)
        have w2 := mc3 (k - 1) (by omega) (by omega)
        refine E_run hk 2 (j' := 12) (lv' := [(0, .ref 63), (1, yi n), (2, yi k)]) (st' := [.ref 63, yi n]) (hp' := H1) rfl ?_
        refine E_get (v := .ref 74) hk rfl e_H1 rfl ?_
        refine E_run hk 1 (j' := 14) (lv' := [(0, .ref 63), (1, yi n), (2, yi k)]) (st' := [yi k, .ref 74, yi n]) (hp' := H1) rfl ?_
        refine Y_iald (a := k) (by omega) (by decide) hk rfl p_H1 ?_
        refine E_run hk 1 (j' := 16) (lv' := [(0, .ref 63), (1, yi n), (2, yi k)]) (st' := [.ref 63, yi (P_H1 k), yi n]) (hp' := H1) rfl ?_
        refine E_get (v := .ref 74) hk rfl e_H1 rfl ?_
        refine E_run hk 2 (j' := 19) (lv' := [(0, .ref 63), (1, yi n), (2, yi k)]) (st' := [yi 1, yi k, .ref 74, yi (P_H1 k), yi n]) (hp' := H1) rfl ?_
        refine Y_isub (a := k) (b := 1) hk rfl ?_
        refine Y_iald (a := (k - 1)) (by omega) (by decide) hk rfl p_H1 ?_
        refine Y_ic_eq (a := (P_H1 k)) (b := (P_H1 (k - 1))) (by omega) hk rfl (fun g4 => ?_) (fun g4 => ?_)
        ·
          refine E_run hk 2 (j' := 36) (lv' := [(0, .ref 63), (1, yi n), (2, yi k)]) (st' := [yi 1, yi n]) (hp' := H1) rfl ?_
          refine Y_iadd (a := n) (b := 1) hk rfl ?_
          refine E_run hk 1 (j' := 38) (lv' := [(1, yi (n + 1)), (0, .ref 63), (2, yi k)]) (st' := []) (hp' := H1) rfl ?_
          refine Y_iinc (a := k) (z := 1) hk rfl rfl rfl (by decide) (lv' := [(2, yi (k + 1)), (1, yi (n + 1)), (0, .ref 63)]) rfl ?_
          refine E_run hk 1 (j' := 6) (lv' := [(2, yi (k + 1)), (1, yi (n + 1)), (0, .ref 63)]) (st' := []) (hp' := H1) rfl ?_
          exact Ev_le (xle_s rfl rfl (xle_s rfl rfl (xle_s rfl rfl (xle_z _ rfl)))) (ih6 _ (by omega) (k + 1) (n + 1)  (by omega) (by rw [hld_s (by omega), ← J2]; first | rw [if_pos (by omega)] | rw [if_neg (by omega)]) rfl)
        ·
          refine E_run hk 1 (j' := 23) (lv' := [(0, .ref 63), (1, yi n), (2, yi k)]) (st' := [.ref 63, yi n]) (hp' := H1) rfl ?_
          refine E_get (v := .ref 75) hk rfl e_H1 rfl ?_
          refine E_run hk 1 (j' := 25) (lv' := [(0, .ref 63), (1, yi n), (2, yi k)]) (st' := [yi k, .ref 75, yi n]) (hp' := H1) rfl ?_
          refine Y_iald (a := k) (by omega) (by decide) hk rfl q_H1 ?_
          refine E_run hk 1 (j' := 27) (lv' := [(0, .ref 63), (1, yi n), (2, yi k)]) (st' := [.ref 63, yi (Q_H1 k), yi n]) (hp' := H1) rfl ?_
          refine E_get (v := .ref 75) hk rfl e_H1 rfl ?_
          refine E_run hk 2 (j' := 30) (lv' := [(0, .ref 63), (1, yi n), (2, yi k)]) (st' := [yi 1, yi k, .ref 75, yi (Q_H1 k), yi n]) (hp' := H1) rfl ?_
          refine Y_isub (a := k) (b := 1) hk rfl ?_
          refine Y_iald (a := (k - 1)) (by omega) (by decide) hk rfl q_H1 ?_
          refine Y_ic_ne (a := (Q_H1 k)) (b := (Q_H1 (k - 1))) (by omega) hk rfl (fun g5 => ?_) (fun g5 => ?_)
          ·
            refine E_run hk 1 (j' := 36) (lv' := [(0, .ref 63), (1, yi n), (2, yi k)]) (st' := [yi 0, yi n]) (hp' := H1) rfl ?_
            refine Y_iadd (a := n) (b := 0) hk rfl ?_
            refine E_run hk 1 (j' := 38) (lv' := [(1, yi (n + 0)), (0, .ref 63), (2, yi k)]) (st' := []) (hp' := H1) rfl ?_
            refine Y_iinc (a := k) (z := 1) hk rfl rfl rfl (by decide) (lv' := [(2, yi (k + 1)), (1, yi (n + 0)), (0, .ref 63)]) rfl ?_
            refine E_run hk 1 (j' := 6) (lv' := [(2, yi (k + 1)), (1, yi (n + 0)), (0, .ref 63)]) (st' := []) (hp' := H1) rfl ?_
            exact Ev_le (xle_s rfl rfl (xle_s rfl rfl (xle_s rfl rfl (xle_z _ rfl)))) (ih6 _ (by omega) (k + 1) (n + 0)  (by omega) (by rw [hld_s (by omega), ← J2]; first | rw [if_pos (by omega)] | rw [if_neg (by omega)]) rfl)
          ·
            refine E_run hk 2 (j' := 36) (lv' := [(0, .ref 63), (1, yi n), (2, yi k)]) (st' := [yi 1, yi n]) (hp' := H1) rfl ?_
            refine Y_iadd (a := n) (b := 1) hk rfl ?_
            refine E_run hk 1 (j' := 38) (lv' := [(1, yi (n + 1)), (0, .ref 63), (2, yi k)]) (st' := []) (hp' := H1) rfl ?_
            refine Y_iinc (a := k) (z := 1) hk rfl rfl rfl (by decide) (lv' := [(2, yi (k + 1)), (1, yi (n + 1)), (0, .ref 63)]) rfl ?_
            refine E_run hk 1 (j' := 6) (lv' := [(2, yi (k + 1)), (1, yi (n + 1)), (0, .ref 63)]) (st' := []) (hp' := H1) rfl ?_
            exact Ev_le (xle_s rfl rfl (xle_s rfl rfl (xle_s rfl rfl (xle_z _ rfl)))) (ih6 _ (by omega) (k + 1) (n + 1)  (by omega) (by rw [hld_s (by omega), ← J2]; first | rw [if_pos (by omega)] | rw [if_neg (by omega)]) rfl)
  exact Ev_le (xle_s rfl rfl (xle_s rfl rfl (xle_s rfl rfl (xle_z _ rfl)))) (loop6 _ 1 0  (by omega) (rfl) rfl)
theorem c_X9_waysMany {d : Nat} {hp : xH} {v : Nat → Int} (hM : xat hp 63 = some (yMo v)) {S : Int → Int} (hS : xat hp 64 = some (yI 47 S)) (hz : 0 ≤ S 0 ∧ S 0 ≤ 20 ∧ 0 ≤ S 1 ∧ S 1 ≤ 20 ∧ 0 ≤ S 2 ∧ S 2 ≤ 20 ∧ 0 ≤ S 3 ∧ S 3 ≤ 50 ∧ 0 ≤ S 4 ∧ S 4 ≤ 3) (h0 : ∀ q, 0 ≤ q → q < S 0 → 0 ≤ S (7 + q) ∧ S (7 + q) ≤ 60) (h1 : ∀ q, 0 ≤ q → q < S 1 → 0 ≤ S (27 + q) ∧ S (27 + q) ≤ 60) {f W : Int → Int} (hA : xat hp 71 = some (yI 400 f)) (hW : xat hp 72 = some (yI 400 W)) (hd : 4 ≤ d) : Cv d 171 [.ref 63] hp (yR (some (yi (if 0 < S 0 ∧ 0 < S 1 ∧ -S 2 ≤ S 0 - S 1 ∧ S 0 - S 1 ≤ S 2 then wy (unl S 0) (S 3) (S 2) (S 0) (S 1) 0 0 else 0))) (fun h => ∃ g w, xat h 71 = some (yI 400 g) ∧ xat h 72 = some (yI 400 w) ∧ yfr [71, 72] hp h)) := by
  have hk : xtab 171 = (xc_171, 1, 1, []) := rfl
  obtain ⟨d, rfl⟩ : ∃ e, d = e + 1 := ⟨d - 1, by omega⟩
  show Ev (d + 1) 171 0 [(0, .ref 63)] [] hp _
  refine E_run hk 1 (j' := 1) (lv' := [(0, .ref 63)]) (st' := [.ref 63]) (hp' := hp) rfl ?_
  refine Y_callP hk rfl (as := [.ref 63]) (rest := []) (v := some (yi (b2 (0 < S 0 ∧ 0 < S 1 ∧ -S 2 ≤ S 0 - S 1 ∧ S 0 - S 1 ≤ S 2)))) rfl rfl (Nat.le_of_ble_eq_true rfl) (rcv0 hM) (Nat.le_of_ble_eq_true rfl) (c_X9_matches (v := v) hM hS (by omega) (by omega) (hd := by omega)) ?_
  refine Y_b_ne hk rfl (fun g1 => ?_) (fun g1 => ?_)
  ·
    refine E_run hk 1 (j' := 6) (lv' := [(0, .ref 63)]) (st' := [.ref 63]) (hp' := hp) rfl ?_
    refine Y_call hk rfl (as := [.ref 63]) (rest := []) (v := none) rfl rfl (Nat.le_of_ble_eq_true rfl) (rcv0 hM) (Nat.le_of_ble_eq_true rfl) (c_X9_tellsBehind (v := v) hM hS hz h0 h1 hA hW (hd := by omega)) (fun H2 r3 => ?_)
    obtain ⟨A_H2, W_H2, e_H2, w_H2, a_H2, f_H2⟩ := r3
    refine E_run hk 1 (j' := 8) (lv' := [(0, .ref 63)]) (st' := [.ref 63]) (hp' := H2) rfl ?_
    refine E_get (v := .ref 72) hk rfl (f_H2.at (by decide) hM) rfl ?_
    refine E_run hk 1 (j' := 10) (lv' := [(0, .ref 63)]) (st' := [yi 0, .ref 72]) (hp' := H2) rfl ?_
    refine Y_iald (a := 0) (by omega) (by decide) hk rfl w_H2 ?_
    exact E_ret hk rfl rfl ⟨congrArg (fun z => (Sum.inl (some (yi z)) : xO)) ((a_H2 0 0 (by omega) (by omega) (by omega) (by omega)).2.trans (if_pos (by omega)).symm), _, _, e_H2, w_H2, f_H2⟩
  ·
    refine E_run hk 1 (j' := 4) (lv' := [(0, .ref 63)]) (st' := [yi 0]) (hp' := hp) rfl ?_
    exact E_ret hk rfl rfl ⟨congrArg (fun z => (Sum.inl (some (yi z)) : xO)) (if_neg (by omega)).symm, _, _, hA, hW, (yfr.refl _ _)⟩
def bgb (f g : Int → Int) (i j c s : Int) : Int := if 0 ≤ i ∧ 0 ≤ j ∧ f (20 * i + j) = c ∧ s < g (20 * i + j) then g (20 * i + j) else s
theorem c_X9_begunBy {d : Nat} {hp : xH} {v : Nat → Int} (hM : xat hp 63 = some (yMo v)) {f g : Int → Int} (hA : xat hp 70 = some (yI 400 f)) (hB : xat hp 73 = some (yI 400 g)) {i j c s : Int} (hi : -1 ≤ i ∧ i < 20 ∧ -1 ≤ j ∧ j < 20) (hc : -2147483648 ≤ c ∧ c ≤ 2147483647 ∧ -2147483648 ≤ s ∧ s ≤ 2147483647) (hr : 0 ≤ i → 0 ≤ j → -2147483648 ≤ f (20 * i + j) ∧ f (20 * i + j) ≤ 2147483647 ∧ -2147483648 ≤ g (20 * i + j) ∧ g (20 * i + j) ≤ 2147483647) (hd : 1 ≤ d) : Cv d 172 [.ref 63, yi i, yi j, yi c, yi s] hp (yP (some (yi (bgb f g i j c s))) hp) := by
  have hk : xtab 172 = (xc_172, 6, 1, []) := rfl
  obtain ⟨d, rfl⟩ : ∃ e, d = e + 1 := ⟨d - 1, by omega⟩
  show Ev (d + 1) 172 0 [(0, .ref 63), (1, yi i), (2, yi j), (3, yi c), (4, yi s)] [] hp _
  refine E_run hk 2 (j' := 2) (lv' := [(0, .ref 63), (1, yi i), (2, yi j), (3, yi c), (4, yi s)]) (st' := [yi j, yi i]) (hp' := hp) rfl ?_
  refine Y_callP hk rfl (as := [yi i, yi j]) (rest := []) (v := some (yi (b2 (0 ≤ i ∧ 0 ≤ j)))) rfl rfl (Nat.le_of_ble_eq_true rfl) rfl (Nat.le_of_ble_eq_true rfl) (c_X9_isThere (a := i) (b := j) (by omega)) ?_
  refine Y_b_eq hk rfl (fun g1 => ?_) (fun g1 => ?_)
  ·
    refine E_run hk 3 (j' := 29) (lv' := [(5, yi 0), (0, .ref 63), (1, yi i), (2, yi j), (3, yi c), (4, yi s)]) (st' := [yi 0]) (hp' := hp) rfl ?_
    refine Y_if_eq (a := 0) (by omega) hk rfl (fun g2 => ?_) (fun g2 => ?_)
    ·
      refine E_run hk 1 (j' := 40) (lv' := [(5, yi 0), (0, .ref 63), (1, yi i), (2, yi j), (3, yi c), (4, yi s)]) (st' := [yi s]) (hp' := hp) rfl ?_
      exact E_ret hk rfl rfl (li (by unfold bgb; first | rw [if_pos (by omega)] | rw [if_neg (by omega)]))
    · exfalso; omega
  ·
    have w1 := hr (by omega) (by omega)
    refine E_run hk 1 (j' := 5) (lv' := [(0, .ref 63), (1, yi i), (2, yi j), (3, yi c), (4, yi s)]) (st' := [.ref 63]) (hp' := hp) rfl ?_
    refine E_get (v := .ref 70) hk rfl hM rfl ?_
    refine E_run hk 2 (j' := 8) (lv' := [(0, .ref 63), (1, yi i), (2, yi j), (3, yi c), (4, yi s)]) (st' := [yi i, yi 20, .ref 70]) (hp' := hp) rfl ?_
    refine Y_imul (a := 20) (b := i) hk rfl ?_
    refine E_run hk 1 (j' := 10) (lv' := [(0, .ref 63), (1, yi i), (2, yi j), (3, yi c), (4, yi s)]) (st' := [yi j, yi (20 * i), .ref 70]) (hp' := hp) rfl ?_
    refine Y_iadd (a := (20 * i)) (b := j) hk rfl ?_
    refine Y_iald (a := ((20 * i) + j)) (by omega) (by decide) hk rfl hA ?_
    refine E_run hk 1 (j' := 13) (lv' := [(0, .ref 63), (1, yi i), (2, yi j), (3, yi c), (4, yi s)]) (st' := [yi c, yi (f ((20 * i) + j))]) (hp' := hp) rfl ?_
    refine Y_ic_ne (a := (f ((20 * i) + j))) (b := c) (by omega) hk rfl (fun g3 => ?_) (fun g3 => ?_)
    ·
      refine E_run hk 3 (j' := 29) (lv' := [(5, yi 0), (0, .ref 63), (1, yi i), (2, yi j), (3, yi c), (4, yi s)]) (st' := [yi 0]) (hp' := hp) rfl ?_
      refine Y_if_eq (a := 0) (by omega) hk rfl (fun g4 => ?_) (fun g4 => ?_)
      ·
        refine E_run hk 1 (j' := 40) (lv' := [(5, yi 0), (0, .ref 63), (1, yi i), (2, yi j), (3, yi c), (4, yi s)]) (st' := [yi s]) (hp' := hp) rfl ?_
        exact E_ret hk rfl rfl (li (by unfold bgb; first | rw [if_pos (by omega)] | rw [if_neg (by omega)]))
      · exfalso; omega
    ·
      refine E_run hk 1 (j' := 15) (lv' := [(0, .ref 63), (1, yi i), (2, yi j), (3, yi c), (4, yi s)]) (st' := [.ref 63]) (hp' := hp) rfl ?_
      refine E_get (v := .ref 73) hk rfl hM rfl ?_
      refine E_run hk 2 (j' := 18) (lv' := [(0, .ref 63), (1, yi i), (2, yi j), (3, yi c), (4, yi s)]) (st' := [yi i, yi 20, .ref 73]) (hp' := hp) rfl ?_
      refine Y_imul (a := 20) (b := i) hk rfl ?_
      refine E_run hk 1 (j' := 20) (lv' := [(0, .ref 63), (1, yi i), (2, yi j), (3, yi c), (4, yi s)]) (st' := [yi j, yi (20 * i), .ref 73]) (hp' := hp) rfl ?_
      refine Y_iadd (a := (20 * i)) (b := j) hk rfl ?_
      refine Y_iald (a := ((20 * i) + j)) (by omega) (by decide) hk rfl hB ?_
      refine E_run hk 1 (j' := 23) (lv' := [(0, .ref 63), (1, yi i), (2, yi j), (3, yi c), (4, yi s)]) (st' := [yi s, yi (g ((20 * i) + j))]) (hp' := hp) rfl ?_
      refine Y_ic_le (a := (g ((20 * i) + j))) (b := s) (by omega) hk rfl (fun g5 => ?_) (fun g5 => ?_)
      ·
        refine E_run hk 3 (j' := 29) (lv' := [(5, yi 0), (0, .ref 63), (1, yi i), (2, yi j), (3, yi c), (4, yi s)]) (st' := [yi 0]) (hp' := hp) rfl ?_
        refine Y_if_eq (a := 0) (by omega) hk rfl (fun g6 => ?_) (fun g6 => ?_)
        ·
          refine E_run hk 1 (j' := 40) (lv' := [(5, yi 0), (0, .ref 63), (1, yi i), (2, yi j), (3, yi c), (4, yi s)]) (st' := [yi s]) (hp' := hp) rfl ?_
          exact E_ret hk rfl rfl (li (by unfold bgb; first | rw [if_pos (by omega)] | rw [if_neg (by omega)]))
        · exfalso; omega
      ·
        refine E_run hk 4 (j' := 29) (lv' := [(5, yi 1), (0, .ref 63), (1, yi i), (2, yi j), (3, yi c), (4, yi s)]) (st' := [yi 1]) (hp' := hp) rfl ?_
        refine Y_if_eq (a := 1) (by omega) hk rfl (fun g7 => ?_) (fun g7 => ?_)
        · exfalso; omega
        ·
          refine E_run hk 1 (j' := 31) (lv' := [(5, yi 1), (0, .ref 63), (1, yi i), (2, yi j), (3, yi c), (4, yi s)]) (st' := [.ref 63]) (hp' := hp) rfl ?_
          refine E_get (v := .ref 73) hk rfl hM rfl ?_
          refine E_run hk 2 (j' := 34) (lv' := [(5, yi 1), (0, .ref 63), (1, yi i), (2, yi j), (3, yi c), (4, yi s)]) (st' := [yi i, yi 20, .ref 73]) (hp' := hp) rfl ?_
          refine Y_imul (a := 20) (b := i) hk rfl ?_
          refine E_run hk 1 (j' := 36) (lv' := [(5, yi 1), (0, .ref 63), (1, yi i), (2, yi j), (3, yi c), (4, yi s)]) (st' := [yi j, yi (20 * i), .ref 73]) (hp' := hp) rfl ?_
          refine Y_iadd (a := (20 * i)) (b := j) hk rfl ?_
          refine Y_iald (a := ((20 * i) + j)) (by omega) (by decide) hk rfl hB ?_
          refine E_run hk 1 (j' := 40) (lv' := [(5, yi 1), (0, .ref 63), (1, yi i), (2, yi j), (3, yi c), (4, yi s)]) (st' := [yi (g ((20 * i) + j))]) (hp' := hp) rfl ?_
          exact E_ret hk rfl rfl (li (by unfold bgb; first | rw [if_pos (by omega)] | rw [if_neg (by omega)]))
