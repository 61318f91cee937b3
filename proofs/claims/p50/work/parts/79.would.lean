/-! The class: what would be; parts; the share. -/
theorem c_X8_costWithShift {d : Nat} {hp : xH} {kp cl od : Int} (h28 : xat hp 28 = some (.inr (8, [.ref 29, .ref 34, .ref 35, yi kp, .ref 40, yi cl, .ref 41, .ref 43, yi od, .ref 56, .ref 58]))) (h56 : xat hp 56 = some (.inr (1, [.ref 57]))) {Tr : Int → Int} (h57 : xat hp 57 = some (yI 400 Tr)) {z o : Nat} {S f g : Int → Int} {r t : Int} (hS : yS hp 29 z o S f g r t) (hz : 0 ≤ S 0 ∧ S 0 ≤ 20 ∧ 0 ≤ S 1 ∧ S 1 ≤ 20 ∧ 0 ≤ S 2 ∧ S 2 ≤ 20 ∧ 0 ≤ S 3 ∧ S 3 ≤ 50 ∧ 0 ≤ S 4 ∧ S 4 ≤ 3) (h0 : ∀ q, 0 ≤ q → q < S 0 → 0 ≤ S (7 + q) ∧ S (7 + q) ≤ 60) (h1 : ∀ q, 0 ≤ q → q < S 1 → 0 ≤ S (27 + q) ∧ S (27 + q) ≤ 60) {b : Int} (hb : -2147483648 ≤ b ∧ b ≤ 2147483647) (hd : 5 ≤ d) : Cv d 82 [.ref 28, yi b] hp (yA (fun e z h => ((e = none ∧ (-12 ≤ b ∧ b ≤ 12 ∧ 0 < S 0 ∧ 0 < S 1 ∧ -S 2 ≤ S 0 - S 1 ∧ S 0 - S 1 ≤ S 2) ∧ z = cst S b (S 2)) ∨ (e = some 1 ∧ (¬ (-12 ≤ b ∧ b ≤ 12))) ∨ (e = some 2 ∧ (-12 ≤ b ∧ b ≤ 12 ∧ ¬ (0 < S 0 ∧ 0 < S 1 ∧ -S 2 ≤ S 0 - S 1 ∧ S 0 - S 1 ≤ S 2)))) ∧ (∃ u, xat h 57 = some (yI 400 u)) ∧ yfz [57] hp h)) := by
  have hk : xtab 82 = (xc_82, 2, 1, []) := rfl
  obtain ⟨d, rfl⟩ : ∃ e, d = e + 1 := ⟨d - 1, by omega⟩
  obtain ⟨hid, hs_, hz_, ho_, hf_, hg_, ef, eg⟩ := hS
  show Ev (d + 1) 82 0 [(0, .ref 28), (1, yi b)] [] hp _
  refine E_run hk 3 (j' := 3) (lv' := [(0, .ref 28), (1, yi b)]) (st' := [yi 12, yi (-12), yi b]) (hp' := hp) rfl ?_
  refine Y_callT hk rfl (as := [yi b, yi (-12), yi 12]) (rest := []) (v := none) rfl rfl (Nat.le_of_ble_eq_true rfl) rfl (Nat.le_of_ble_eq_true rfl) (c_X8_checkRange (v := b) (l := (-12)) (m := 12) (by omega) (hd := by omega)) (fun g1 => ?_) rfl (fun g1 => ?_)
  rotate_left
  · exact Or.inr ⟨1, rfl, by first | exact Or.inr (Or.inl ⟨rfl, by first | assumption | omega⟩), ⟨_, h57⟩, yfz.frb (yfr.refl _ _)⟩
  refine E_run hk 1 (j' := 5) (lv' := [(0, .ref 28), (1, yi b)]) (st' := [.ref 28]) (hp' := hp) rfl ?_
  refine Y_callT hk rfl (as := [.ref 28]) (rest := []) (v := none) rfl rfl (Nat.le_of_ble_eq_true rfl) (rcv0 h28) (Nat.le_of_ble_eq_true rfl) (c_X8_checkMatched h28 ⟨hid, hs_, hz_, ho_, hf_, hg_, ef, eg⟩ (by omega) (by omega) (hd := by omega)) (fun g2 => ?_) rfl (fun g2 => ?_)
  rotate_left
  · exact Or.inr ⟨2, rfl, by first | exact Or.inr (Or.inr (⟨rfl, by first | assumption | omega⟩)), ⟨_, h57⟩, yfz.frb (yfr.refl _ _)⟩
  refine E_run hk 3 (j' := 9) (lv' := [(0, .ref 28), (1, yi b)]) (st' := [.ref 28, yi b, .ref 28]) (hp' := hp) rfl ?_
  refine E_get (v := .ref 29) hk rfl h28 rfl ?_
  refine E_get (v := yi (S 2)) hk rfl hs_ rfl ?_
  refine Y_call hk rfl (as := [.ref 28, yi b, yi (S 2)]) (rest := []) (v := some (yi (far (cst S b (S 2))))) rfl rfl (Nat.le_of_ble_eq_true rfl) (rcv0 h28) (Nat.le_of_ble_eq_true rfl) (c_X8_costIf (b := b) (u := (S 2)) h28 h56 h57 ⟨hid, hs_, hz_, ho_, hf_, hg_, ef, eg⟩ hz h0 h1 (by omega) (by omega) (hd := by omega)) (fun H3 r4 => ?_)
  obtain ⟨T_H3, e_H3, f_H3⟩ := r4
  exact E_ret hk rfl rfl (Or.inl ⟨(far (cst S b (S 2))), rfl, Or.inl ⟨rfl, by first | trivial | assumption | omega, if_pos (cst_fin hz h0 h1 (by omega) (by omega))⟩, ⟨_, e_H3⟩, yfz.of_fr f_H3⟩)
theorem c_X8_bestShift {d : Nat} {hp : xH} {kp cl od : Int} (h28 : xat hp 28 = some (.inr (8, [.ref 29, .ref 34, .ref 35, yi kp, .ref 40, yi cl, .ref 41, .ref 43, yi od, .ref 56, .ref 58]))) (h56 : xat hp 56 = some (.inr (1, [.ref 57]))) {Tr : Int → Int} (h57 : xat hp 57 = some (yI 400 Tr)) {z o : Nat} {S f g : Int → Int} {r t : Int} (hS : yS hp 29 z o S f g r t) (hz : 0 ≤ S 0 ∧ S 0 ≤ 20 ∧ 0 ≤ S 1 ∧ S 1 ≤ 20 ∧ 0 ≤ S 2 ∧ S 2 ≤ 20 ∧ 0 ≤ S 3 ∧ S 3 ≤ 50 ∧ 0 ≤ S 4 ∧ S 4 ≤ 3) (h0 : ∀ q, 0 ≤ q → q < S 0 → 0 ≤ S (7 + q) ∧ S (7 + q) ≤ 60) (h1 : ∀ q, 0 ≤ q → q < S 1 → 0 ≤ S (27 + q) ∧ S (27 + q) ≤ 60) (hd : 5 ≤ d) : Cv d 83 [.ref 28] hp (yA (fun e z h => ((e = none ∧ (0 < S 0 ∧ 0 < S 1 ∧ -S 2 ≤ S 0 - S 1 ∧ S 0 - S 1 ≤ S 2) ∧ z = (shb (fun x => cst S x (S 2)) 12).1) ∨ (e = some 2 ∧ (¬ (0 < S 0 ∧ 0 < S 1 ∧ -S 2 ≤ S 0 - S 1 ∧ S 0 - S 1 ≤ S 2)))) ∧ (∃ u, xat h 57 = some (yI 400 u)) ∧ yfz [57] hp h)) := by
  have hk : xtab 83 = (xc_83, 1, 1, []) := rfl
  obtain ⟨d, rfl⟩ : ∃ e, d = e + 1 := ⟨d - 1, by omega⟩
  obtain ⟨hid, hs_, hz_, ho_, hf_, hg_, ef, eg⟩ := hS
  show Ev (d + 1) 83 0 [(0, .ref 28)] [] hp _
  refine E_run hk 1 (j' := 1) (lv' := [(0, .ref 28)]) (st' := [.ref 28]) (hp' := hp) rfl ?_
  refine Y_callT hk rfl (as := [.ref 28]) (rest := []) (v := none) rfl rfl (Nat.le_of_ble_eq_true rfl) (rcv0 h28) (Nat.le_of_ble_eq_true rfl) (c_X8_checkMatched h28 ⟨hid, hs_, hz_, ho_, hf_, hg_, ef, eg⟩ (by omega) (by omega) (hd := by omega)) (fun g1 => ?_) rfl (fun g1 => ?_)
  rotate_left
  · exact Or.inr ⟨2, rfl, by first | exact Or.inr (⟨rfl, by first | assumption | omega⟩), ⟨_, h57⟩, yfz.frb (yfr.refl _ _)⟩
  refine E_run hk 1 (j' := 3) (lv' := [(0, .ref 28)]) (st' := [.ref 28]) (hp' := hp) rfl ?_
  refine Y_call hk rfl (as := [.ref 28]) (rest := []) (v := some (yi ((shb (fun x => cst S x (S 2)) 12).1))) rfl rfl (Nat.le_of_ble_eq_true rfl) (rcv0 h28) (Nat.le_of_ble_eq_true rfl) (c_X8_nearestBestShift h28 h56 h57 ⟨hid, hs_, hz_, ho_, hf_, hg_, ef, eg⟩ hz h0 h1 (hd := by omega)) (fun H2 r3 => ?_)
  obtain ⟨T_H2, e_H2, f_H2⟩ := r3
  exact E_ret hk rfl rfl (Or.inl ⟨((shb (fun x => cst S x (S 2)) 12).1), rfl, Or.inl ⟨rfl, by first | trivial | assumption | omega, by first | rfl | assumption | omega⟩, ⟨_, e_H2⟩, yfz.of_fr f_H2⟩)
theorem c_X8_costWithBound {d : Nat} {hp : xH} {kp cl od : Int} (h28 : xat hp 28 = some (.inr (8, [.ref 29, .ref 34, .ref 35, yi kp, .ref 40, yi cl, .ref 41, .ref 43, yi od, .ref 56, .ref 58]))) (h56 : xat hp 56 = some (.inr (1, [.ref 57]))) {Tr : Int → Int} (h57 : xat hp 57 = some (yI 400 Tr)) {z o : Nat} {S f g : Int → Int} {r t : Int} (hS : yS hp 29 z o S f g r t) (hz : 0 ≤ S 0 ∧ S 0 ≤ 20 ∧ 0 ≤ S 1 ∧ S 1 ≤ 20 ∧ 0 ≤ S 2 ∧ S 2 ≤ 20 ∧ 0 ≤ S 3 ∧ S 3 ≤ 50 ∧ 0 ≤ S 4 ∧ S 4 ≤ 3) (h0 : ∀ q, 0 ≤ q → q < S 0 → 0 ≤ S (7 + q) ∧ S (7 + q) ≤ 60) (h1 : ∀ q, 0 ≤ q → q < S 1 → 0 ≤ S (27 + q) ∧ S (27 + q) ≤ 60) {n : Int} (hn : -2147483648 ≤ n ∧ n ≤ 2147483647) (hd : 5 ≤ d) : Cv d 84 [.ref 28, yi n] hp (yA (fun e z h => ((e = none ∧ (0 ≤ n ∧ n ≤ 20) ∧ z = (if cst S 0 n < 100000000 then cst S 0 n else -1)) ∨ (e = some 1 ∧ (¬ (0 ≤ n ∧ n ≤ 20)))) ∧ (∃ u, xat h 57 = some (yI 400 u)) ∧ yfz [57] hp h)) := by
  have hk : xtab 84 = (xc_84, 2, 1, []) := rfl
  obtain ⟨d, rfl⟩ : ∃ e, d = e + 1 := ⟨d - 1, by omega⟩
  obtain ⟨hid, hs_, hz_, ho_, hf_, hg_, ef, eg⟩ := hS
  show Ev (d + 1) 84 0 [(0, .ref 28), (1, yi n)] [] hp _
  refine E_run hk 3 (j' := 3) (lv' := [(0, .ref 28), (1, yi n)]) (st' := [yi 20, yi 0, yi n]) (hp' := hp) rfl ?_
  refine Y_callT hk rfl (as := [yi n, yi 0, yi 20]) (rest := []) (v := none) rfl rfl (Nat.le_of_ble_eq_true rfl) rfl (Nat.le_of_ble_eq_true rfl) (c_X8_checkRange (v := n) (l := 0) (m := 20) (by omega) (hd := by omega)) (fun g1 => ?_) rfl (fun g1 => ?_)
  rotate_left
  · exact Or.inr ⟨1, rfl, by first | exact Or.inr (⟨rfl, by first | assumption | omega⟩), ⟨_, h57⟩, yfz.frb (yfr.refl _ _)⟩
  refine E_run hk 3 (j' := 7) (lv' := [(0, .ref 28), (1, yi n)]) (st' := [yi n, yi 0, .ref 28]) (hp' := hp) rfl ?_
  refine Y_call hk rfl (as := [.ref 28, yi 0, yi n]) (rest := []) (v := some (yi (far (cst S 0 n)))) rfl rfl (Nat.le_of_ble_eq_true rfl) (rcv0 h28) (Nat.le_of_ble_eq_true rfl) (c_X8_costIf (b := 0) (u := n) h28 h56 h57 ⟨hid, hs_, hz_, ho_, hf_, hg_, ef, eg⟩ hz h0 h1 (by omega) (by omega) (hd := by omega)) (fun H2 r3 => ?_)
  obtain ⟨T_H2, e_H2, f_H2⟩ := r3
  have w1 := cst_rng (b := 0) (u := n) hz h0 h1 (by omega)
  have w2 := far_rng (cst S 0 n)
  refine Y_callP hk rfl (as := [yi (far (cst S 0 n))]) (rest := []) (v := some (yi (if (far (cst S 0 n)) < 1000000000 then (far (cst S 0 n)) else -1))) rfl rfl (Nat.le_of_ble_eq_true rfl) rfl (Nat.le_of_ble_eq_true rfl) (c_X8_orNothing (x := (far (cst S 0 n))) (by omega)) ?_
  exact E_ret hk rfl rfl (Or.inl ⟨(if (far (cst S 0 n)) < 1000000000 then (far (cst S 0 n)) else -1), rfl, Or.inl ⟨rfl, by first | trivial | assumption | omega, by split <;> split <;> omega⟩, ⟨_, e_H2⟩, yfz.of_fr f_H2⟩)
theorem c_X8_neededBound {d : Nat} {hp : xH} {kp cl od : Int} (h28 : xat hp 28 = some (.inr (8, [.ref 29, .ref 34, .ref 35, yi kp, .ref 40, yi cl, .ref 41, .ref 43, yi od, .ref 56, .ref 58]))) (h56 : xat hp 56 = some (.inr (1, [.ref 57]))) {Tr : Int → Int} (h57 : xat hp 57 = some (yI 400 Tr)) {z o : Nat} {S f g : Int → Int} {r t : Int} (hS : yS hp 29 z o S f g r t) (hz : 0 ≤ S 0 ∧ S 0 ≤ 20 ∧ 0 ≤ S 1 ∧ S 1 ≤ 20 ∧ 0 ≤ S 2 ∧ S 2 ≤ 20 ∧ 0 ≤ S 3 ∧ S 3 ≤ 50 ∧ 0 ≤ S 4 ∧ S 4 ≤ 3) (h0 : ∀ q, 0 ≤ q → q < S 0 → 0 ≤ S (7 + q) ∧ S (7 + q) ≤ 60) (h1 : ∀ q, 0 ≤ q → q < S 1 → 0 ≤ S (27 + q) ∧ S (27 + q) ≤ 60) (hd : 5 ≤ d) : Cv d 85 [.ref 28] hp (yA (fun e z h => ((e = none ∧ (((S 0 = 0 ∨ S 1 = 0) ∧ z = -1) ∨ (¬ (S 0 = 0 ∨ S 1 = 0) ∧ 0 ≤ z ∧ z ≤ 20 ∧ cst S 0 z = cst S 0 20 ∧ ∀ x, 0 ≤ x → x < z → ¬ cst S 0 x = cst S 0 20)))) ∧ (∃ u, xat h 57 = some (yI 400 u)) ∧ yfz [57] hp h)) := by
  have hk : xtab 85 = (xc_85, 1, 1, []) := rfl
  obtain ⟨d, rfl⟩ : ∃ e, d = e + 1 := ⟨d - 1, by omega⟩
  obtain ⟨hid, hs_, hz_, ho_, hf_, hg_, ef, eg⟩ := hS
  show Ev (d + 1) 85 0 [(0, .ref 28)] [] hp _
  refine E_run hk 1 (j' := 1) (lv' := [(0, .ref 28)]) (st' := [.ref 28]) (hp' := hp) rfl ?_
  refine Y_callE hk rfl (as := [.ref 28]) (rest := []) rfl rfl (Nat.le_of_ble_eq_true rfl) (rcv0 h28) (Nat.le_of_ble_eq_true rfl) (c_X8_leastNeededBound h28 h56 h57 ⟨hid, hs_, hz_, ho_, hf_, hg_, ef, eg⟩ hz h0 h1 (hd := by omega)) (fun z1 H2 r3 => ?_)
  obtain ⟨q_H2, T_H2, e_H2, f_H2⟩ := r3
  exact E_ret hk rfl rfl (Or.inl ⟨z1, rfl, ⟨rfl, q_H2⟩, ⟨_, e_H2⟩, yfz.of_fr f_H2⟩)
theorem c_X8_partCost {d : Nat} {hp : xH} {kp cl od : Int} (h28 : xat hp 28 = some (.inr (8, [.ref 29, .ref 34, .ref 35, yi kp, .ref 40, yi cl, .ref 41, .ref 43, yi od, .ref 56, .ref 58]))) {la fi ls lb lt : Int} (h58 : xat hp 58 = some (.inr (4, [.ref 59, .ref 61, yi la, yi fi, yi ls, yi lb, yi lt]))) (h59 : xat hp 59 = some (.inr (1, [.ref 60]))) (h61 : xat hp 61 = some (.inr (1, [.ref 62]))) {K L : Int → Int} (h60 : xat hp 60 = some (yI 400 K)) (h62 : xat hp 62 = some (yI 400 L)) {z o : Nat} {S f g : Int → Int} {r t : Int} (hS : yS hp 29 z o S f g r t) (hz : 0 ≤ S 0 ∧ S 0 ≤ 20 ∧ 0 ≤ S 1 ∧ S 1 ≤ 20 ∧ 0 ≤ S 2 ∧ S 2 ≤ 20 ∧ 0 ≤ S 3 ∧ S 3 ≤ 50 ∧ 0 ≤ S 4 ∧ S 4 ≤ 3) (h0 : ∀ q, 0 ≤ q → q < S 0 → 0 ≤ S (7 + q) ∧ S (7 + q) ≤ 60) (h1 : ∀ q, 0 ≤ q → q < S 1 → 0 ≤ S (27 + q) ∧ S (27 + q) ≤ 60) (hd : 5 ≤ d) : Cv d 79 [.ref 28] hp (yA (fun e z h => ((e = none ∧ (¬ (S 0 = 0 ∨ S 1 = 0)) ∧ z = pc (unl S 0) (S 3) (S 0 - 1) (pend S)) ∨ (e = some 2 ∧ (S 0 = 0 ∨ S 1 = 0))) ∧ (∃ la2 fi2 ls2 lb2 lt2, xat h 58 = some (.inr (4, [.ref 59, .ref 61, yi la2, yi fi2, yi ls2, yi lb2, yi lt2]))) ∧ (∃ u, xat h 60 = some (yI 400 u)) ∧ (∃ u, xat h 62 = some (yI 400 u)) ∧ yfz [58, 60, 62] hp h)) := by
  have hk : xtab 79 = (xc_79, 1, 1, []) := rfl
  obtain ⟨d, rfl⟩ : ∃ e, d = e + 1 := ⟨d - 1, by omega⟩
  obtain ⟨hid, hs_, hz_, ho_, hf_, hg_, ef, eg⟩ := hS
  show Ev (d + 1) 79 0 [(0, .ref 28)] [] hp _
  refine E_run hk 1 (j' := 1) (lv' := [(0, .ref 28)]) (st' := [.ref 28]) (hp' := hp) rfl ?_
  refine Y_callT hk rfl (as := [.ref 28]) (rest := []) (v := none) rfl rfl (Nat.le_of_ble_eq_true rfl) (rcv0 h28) (Nat.le_of_ble_eq_true rfl) (c_X8_checkNoneEmpty h28 ⟨hid, hs_, hz_, ho_, hf_, hg_, ef, eg⟩ (by omega) (hd := by omega)) (fun g1 => ?_) rfl (fun g1 => ?_)
  rotate_left
  · exact Or.inr ⟨2, rfl, by first | exact Or.inr (⟨rfl, by first | assumption | omega⟩), ⟨_, _, _, _, _, h58⟩, ⟨_, h60⟩, ⟨_, h62⟩, yfz.frb (yfr.refl _ _)⟩
  refine E_run hk 1 (j' := 3) (lv' := [(0, .ref 28)]) (st' := [.ref 28]) (hp' := hp) rfl ?_
  refine E_get (v := .ref 58) hk rfl h28 rfl ?_
  refine E_run hk 1 (j' := 5) (lv' := [(0, .ref 28)]) (st' := [.ref 28, .ref 58]) (hp' := hp) rfl ?_
  refine E_get (v := .ref 29) hk rfl h28 rfl ?_
  refine Y_call hk rfl (as := [.ref 58, .ref 29]) (rest := []) (v := none) rfl rfl (Nat.le_of_ble_eq_true rfl) (rcv0 h58) (Nat.le_of_ble_eq_true rfl) (c_X3_find h58 h59 h61 h60 h62 ⟨hid, hs_, hz_, ho_, hf_, hg_, ef, eg⟩ hz h0 h1 (by omega) (hd := by omega)) (fun H2 r3 => ?_)
  obtain ⟨lb_H2, lt_H2, K_H2, L_H2, m_H2, k_H2, l_H2, f_H2⟩ := r3
  refine E_run hk 1 (j' := 8) (lv' := [(0, .ref 28)]) (st' := [.ref 28]) (hp' := H2) rfl ?_
  refine E_get (v := .ref 58) hk rfl (f_H2.at (by decide) h28) rfl ?_
  refine E_get (v := yi (pc (unl S 0) (S 3) (S 0 - 1) (pend S))) hk rfl m_H2 rfl ?_
  exact E_ret hk rfl rfl (Or.inl ⟨(pc (unl S 0) (S 3) (S 0 - 1) (pend S)), rfl, Or.inl ⟨rfl, by first | trivial | assumption | omega, by first | rfl | assumption | omega⟩, ⟨_, _, _, _, _, m_H2⟩, ⟨_, k_H2⟩, ⟨_, l_H2⟩, yfz.of_fr f_H2⟩)
theorem c_X8_partBegin {d : Nat} {hp : xH} {kp cl od : Int} (h28 : xat hp 28 = some (.inr (8, [.ref 29, .ref 34, .ref 35, yi kp, .ref 40, yi cl, .ref 41, .ref 43, yi od, .ref 56, .ref 58]))) {la fi ls lb lt : Int} (h58 : xat hp 58 = some (.inr (4, [.ref 59, .ref 61, yi la, yi fi, yi ls, yi lb, yi lt]))) (h59 : xat hp 59 = some (.inr (1, [.ref 60]))) (h61 : xat hp 61 = some (.inr (1, [.ref 62]))) {K L : Int → Int} (h60 : xat hp 60 = some (yI 400 K)) (h62 : xat hp 62 = some (yI 400 L)) {z o : Nat} {S f g : Int → Int} {r t : Int} (hS : yS hp 29 z o S f g r t) (hz : 0 ≤ S 0 ∧ S 0 ≤ 20 ∧ 0 ≤ S 1 ∧ S 1 ≤ 20 ∧ 0 ≤ S 2 ∧ S 2 ≤ 20 ∧ 0 ≤ S 3 ∧ S 3 ≤ 50 ∧ 0 ≤ S 4 ∧ S 4 ≤ 3) (h0 : ∀ q, 0 ≤ q → q < S 0 → 0 ≤ S (7 + q) ∧ S (7 + q) ≤ 60) (h1 : ∀ q, 0 ≤ q → q < S 1 → 0 ≤ S (27 + q) ∧ S (27 + q) ≤ 60) (hd : 5 ≤ d) : Cv d 80 [.ref 28] hp (yA (fun e z h => ((e = none ∧ (¬ (S 0 = 0 ∨ S 1 = 0)) ∧ z = pb (unl S 0) (S 3) (S 0 - 1) (pend S)) ∨ (e = some 2 ∧ (S 0 = 0 ∨ S 1 = 0))) ∧ (∃ la2 fi2 ls2 lb2 lt2, xat h 58 = some (.inr (4, [.ref 59, .ref 61, yi la2, yi fi2, yi ls2, yi lb2, yi lt2]))) ∧ (∃ u, xat h 60 = some (yI 400 u)) ∧ (∃ u, xat h 62 = some (yI 400 u)) ∧ yfz [58, 60, 62] hp h)) := by
  have hk : xtab 80 = (xc_80, 1, 1, []) := rfl
  obtain ⟨d, rfl⟩ : ∃ e, d = e + 1 := ⟨d - 1, by omega⟩
  obtain ⟨hid, hs_, hz_, ho_, hf_, hg_, ef, eg⟩ := hS
  show Ev (d + 1) 80 0 [(0, .ref 28)] [] hp _
  refine E_run hk 1 (j' := 1) (lv' := [(0, .ref 28)]) (st' := [.ref 28]) (hp' := hp) rfl ?_
  refine Y_callT hk rfl (as := [.ref 28]) (rest := []) (v := none) rfl rfl (Nat.le_of_ble_eq_true rfl) (rcv0 h28) (Nat.le_of_ble_eq_true rfl) (c_X8_checkNoneEmpty h28 ⟨hid, hs_, hz_, ho_, hf_, hg_, ef, eg⟩ (by omega) (hd := by omega)) (fun g1 => ?_) rfl (fun g1 => ?_)
  rotate_left
  · exact Or.inr ⟨2, rfl, by first | exact Or.inr (⟨rfl, by first | assumption | omega⟩), ⟨_, _, _, _, _, h58⟩, ⟨_, h60⟩, ⟨_, h62⟩, yfz.frb (yfr.refl _ _)⟩
  refine E_run hk 1 (j' := 3) (lv' := [(0, .ref 28)]) (st' := [.ref 28]) (hp' := hp) rfl ?_
  refine E_get (v := .ref 58) hk rfl h28 rfl ?_
  refine E_run hk 1 (j' := 5) (lv' := [(0, .ref 28)]) (st' := [.ref 28, .ref 58]) (hp' := hp) rfl ?_
  refine E_get (v := .ref 29) hk rfl h28 rfl ?_
  refine Y_call hk rfl (as := [.ref 58, .ref 29]) (rest := []) (v := none) rfl rfl (Nat.le_of_ble_eq_true rfl) (rcv0 h58) (Nat.le_of_ble_eq_true rfl) (c_X3_find h58 h59 h61 h60 h62 ⟨hid, hs_, hz_, ho_, hf_, hg_, ef, eg⟩ hz h0 h1 (by omega) (hd := by omega)) (fun H2 r3 => ?_)
  obtain ⟨lb_H2, lt_H2, K_H2, L_H2, m_H2, k_H2, l_H2, f_H2⟩ := r3
  refine E_run hk 1 (j' := 8) (lv' := [(0, .ref 28)]) (st' := [.ref 28]) (hp' := H2) rfl ?_
  refine E_get (v := .ref 58) hk rfl (f_H2.at (by decide) h28) rfl ?_
  refine E_get (v := yi (pb (unl S 0) (S 3) (S 0 - 1) (pend S))) hk rfl m_H2 rfl ?_
  exact E_ret hk rfl rfl (Or.inl ⟨(pb (unl S 0) (S 3) (S 0 - 1) (pend S)), rfl, Or.inl ⟨rfl, by first | trivial | assumption | omega, by first | rfl | assumption | omega⟩, ⟨_, _, _, _, _, m_H2⟩, ⟨_, k_H2⟩, ⟨_, l_H2⟩, yfz.of_fr f_H2⟩)
theorem c_X8_partEnd {d : Nat} {hp : xH} {kp cl od : Int} (h28 : xat hp 28 = some (.inr (8, [.ref 29, .ref 34, .ref 35, yi kp, .ref 40, yi cl, .ref 41, .ref 43, yi od, .ref 56, .ref 58]))) {la fi ls lb lt : Int} (h58 : xat hp 58 = some (.inr (4, [.ref 59, .ref 61, yi la, yi fi, yi ls, yi lb, yi lt]))) (h59 : xat hp 59 = some (.inr (1, [.ref 60]))) (h61 : xat hp 61 = some (.inr (1, [.ref 62]))) {K L : Int → Int} (h60 : xat hp 60 = some (yI 400 K)) (h62 : xat hp 62 = some (yI 400 L)) {z o : Nat} {S f g : Int → Int} {r t : Int} (hS : yS hp 29 z o S f g r t) (hz : 0 ≤ S 0 ∧ S 0 ≤ 20 ∧ 0 ≤ S 1 ∧ S 1 ≤ 20 ∧ 0 ≤ S 2 ∧ S 2 ≤ 20 ∧ 0 ≤ S 3 ∧ S 3 ≤ 50 ∧ 0 ≤ S 4 ∧ S 4 ≤ 3) (h0 : ∀ q, 0 ≤ q → q < S 0 → 0 ≤ S (7 + q) ∧ S (7 + q) ≤ 60) (h1 : ∀ q, 0 ≤ q → q < S 1 → 0 ≤ S (27 + q) ∧ S (27 + q) ≤ 60) (hd : 5 ≤ d) : Cv d 81 [.ref 28] hp (yA (fun e z h => ((e = none ∧ (¬ (S 0 = 0 ∨ S 1 = 0)) ∧ z = pend S) ∨ (e = some 2 ∧ (S 0 = 0 ∨ S 1 = 0))) ∧ (∃ la2 fi2 ls2 lb2 lt2, xat h 58 = some (.inr (4, [.ref 59, .ref 61, yi la2, yi fi2, yi ls2, yi lb2, yi lt2]))) ∧ (∃ u, xat h 60 = some (yI 400 u)) ∧ (∃ u, xat h 62 = some (yI 400 u)) ∧ yfz [58, 60, 62] hp h)) := by
  have hk : xtab 81 = (xc_81, 1, 1, []) := rfl
  obtain ⟨d, rfl⟩ : ∃ e, d = e + 1 := ⟨d - 1, by omega⟩
  obtain ⟨hid, hs_, hz_, ho_, hf_, hg_, ef, eg⟩ := hS
  show Ev (d + 1) 81 0 [(0, .ref 28)] [] hp _
  refine E_run hk 1 (j' := 1) (lv' := [(0, .ref 28)]) (st' := [.ref 28]) (hp' := hp) rfl ?_
  refine Y_callT hk rfl (as := [.ref 28]) (rest := []) (v := none) rfl rfl (Nat.le_of_ble_eq_true rfl) (rcv0 h28) (Nat.le_of_ble_eq_true rfl) (c_X8_checkNoneEmpty h28 ⟨hid, hs_, hz_, ho_, hf_, hg_, ef, eg⟩ (by omega) (hd := by omega)) (fun g1 => ?_) rfl (fun g1 => ?_)
  rotate_left
  · exact Or.inr ⟨2, rfl, by first | exact Or.inr (⟨rfl, by first | assumption | omega⟩), ⟨_, _, _, _, _, h58⟩, ⟨_, h60⟩, ⟨_, h62⟩, yfz.frb (yfr.refl _ _)⟩
  refine E_run hk 1 (j' := 3) (lv' := [(0, .ref 28)]) (st' := [.ref 28]) (hp' := hp) rfl ?_
  refine E_get (v := .ref 58) hk rfl h28 rfl ?_
  refine E_run hk 1 (j' := 5) (lv' := [(0, .ref 28)]) (st' := [.ref 28, .ref 58]) (hp' := hp) rfl ?_
  refine E_get (v := .ref 29) hk rfl h28 rfl ?_
  refine Y_call hk rfl (as := [.ref 58, .ref 29]) (rest := []) (v := none) rfl rfl (Nat.le_of_ble_eq_true rfl) (rcv0 h58) (Nat.le_of_ble_eq_true rfl) (c_X3_find h58 h59 h61 h60 h62 ⟨hid, hs_, hz_, ho_, hf_, hg_, ef, eg⟩ hz h0 h1 (by omega) (hd := by omega)) (fun H2 r3 => ?_)
  obtain ⟨lb_H2, lt_H2, K_H2, L_H2, m_H2, k_H2, l_H2, f_H2⟩ := r3
  refine E_run hk 1 (j' := 8) (lv' := [(0, .ref 28)]) (st' := [.ref 28]) (hp' := H2) rfl ?_
  refine E_get (v := .ref 58) hk rfl (f_H2.at (by decide) h28) rfl ?_
  refine E_get (v := yi (pend S)) hk rfl m_H2 rfl ?_
  exact E_ret hk rfl rfl (Or.inl ⟨(pend S), rfl, Or.inl ⟨rfl, by first | trivial | assumption | omega, by first | rfl | assumption | omega⟩, ⟨_, _, _, _, _, m_H2⟩, ⟨_, k_H2⟩, ⟨_, l_H2⟩, yfz.of_fr f_H2⟩)
theorem c_X8_evenShare {d : Nat} {hp : xH} {kp cl od : Int} (h28 : xat hp 28 = some (.inr (8, [.ref 29, .ref 34, .ref 35, yi kp, .ref 40, yi cl, .ref 41, .ref 43, yi od, .ref 56, .ref 58]))) {S : Int → Int} (hM : yMs hp S od) {z o : Nat} {f g : Int → Int} {r t : Int} (hS : yS hp 29 z o S f g r t) (hz : 0 ≤ S 0 ∧ S 0 ≤ 20 ∧ 0 ≤ S 1 ∧ S 1 ≤ 20 ∧ 0 ≤ S 2 ∧ S 2 ≤ 20 ∧ 0 ≤ S 3 ∧ S 3 ≤ 50 ∧ 0 ≤ S 4 ∧ S 4 ≤ 3) (h0 : ∀ q, 0 ≤ q → q < S 0 → 0 ≤ S (7 + q) ∧ S (7 + q) ≤ 60) (h1 : ∀ q, 0 ≤ q → q < S 1 → 0 ≤ S (27 + q) ∧ S (27 + q) ≤ 60) (hd : 6 ≤ d) : Cv d 86 [.ref 28] hp (yD (fun z h => (∃ k p q, mtc S k p q ∧ z = shv k (hls S (k - 1).toNat)) ∧ (∃ od2, xat h 28 = some (.inr (8, [.ref 29, .ref 34, .ref 35, yi kp, .ref 40, yi cl, .ref 41, .ref 43, yi od2, .ref 56, .ref 58])) ∧ yMs h S od2) ∧ yfz [28, 43, 45, 47, 49, 51, 52, 53, 54, 55] hp h)) := by
  have hk : xtab 86 = (xc_86, 1, 4, []) := rfl
  obtain ⟨d, rfl⟩ : ∃ e, d = e + 1 := ⟨d - 1, by omega⟩
  obtain ⟨hid, hs_, hz_, ho_, hf_, hg_, ef, eg⟩ := hS
  show Ev (d + 1) 86 0 [(0, .ref 28)] [] hp _
  refine E_run hk 1 (j' := 1) (lv' := [(0, .ref 28)]) (st' := [.ref 28]) (hp' := hp) rfl ?_
  refine Y_call hk rfl (as := [.ref 28]) (rest := []) (v := some (.ref 43)) rfl rfl (Nat.le_of_ble_eq_true rfl) (rcv0 h28) (Nat.le_of_ble_eq_true rfl) (c_X8_found h28 hM ⟨hid, hs_, hz_, ho_, hf_, hg_, ef, eg⟩ hz h0 h1 (hd := by omega)) (fun H1 r2 => ?_)
  obtain ⟨⟨c_H1, A_H1, B_H1, P_H1, Q_H1, U_H1, V_H1, ⟨m1_H1, m2_H1, m3_H1, m4_H1, m5_H1, m6_H1, m7_H1, m8_H1, m9_H1, m10_H1⟩, ⟨C_H1, k1_H1⟩, ⟨N_H1, k2_H1⟩, x28_H1, f_H1⟩, g1_H1, g2_H1, g3_H1, g4_H1⟩ := r2
  obtain ⟨mt_H1, uv_H1⟩ := m10_H1
  obtain ⟨mc1_H1, mc2_H1, mc3_H1⟩ := mtc_rng mt_H1 (by omega)
  have hl_H1 := hls_rng S (c_H1 - 1).toNat
  refine Y_callP hk rfl (as := [.ref 43]) (rest := []) (v := some (.double (shv c_H1 (hls S (c_H1 - 1).toNat)))) rfl rfl (Nat.le_of_ble_eq_true rfl) (rcv0 m1_H1) (Nat.le_of_ble_eq_true rfl) (c_X2_shareOfBoth m1_H1 (by omega)) ?_
  exact E_ret hk rfl rfl ⟨_, rfl, ⟨_, _, _, mt_H1, rfl⟩, ⟨0, x28_H1, g1_H1, g2_H1, g3_H1, g4_H1, ⟨_, k1_H1⟩, ⟨_, k2_H1⟩, c_H1, A_H1, B_H1, P_H1, Q_H1, U_H1, V_H1, Or.inl ⟨rfl, m1_H1, m2_H1, m3_H1, m4_H1, m5_H1, m6_H1, m7_H1, m8_H1, m9_H1, mt_H1, uv_H1⟩⟩, yfz.of_fr f_H1⟩
