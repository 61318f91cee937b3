/-! The reference reads: a sign, a number, a word. -/
/-- the sign at a, or 0 behind the end -/
def sg (X : Int → Int) (n a : Int) : Int := if a < n then X a else 0
theorem sg_in {X : Int → Int} {n a : Int} (h : a < n) : sg X n a = X a := if_pos h
theorem sg_out {X : Int → Int} {n a : Int} (h : ¬ a < n) : sg X n a = 0 := if_neg h
theorem sg_rng {X : Int → Int} {n a : Int} (hX : ∀ q, 0 ≤ q → q < n → 33 ≤ X q ∧ X q ≤ 126) (ha : 0 ≤ a) : (sg X n a = 0 ∧ n ≤ a) ∨ (a < n ∧ sg X n a = X a ∧ 33 ≤ X a ∧ X a ≤ 126) := by
  by_cases h : a < n
  · exact Or.inr ⟨h, sg_in h, hX a ha h⟩
  · exact Or.inl ⟨sg_out h, by omega⟩
def tkw (w x lo hi : Int) : Prop := w = 1 ∧ lo ≤ x ∧ x ≤ hi
theorem b2_01 (P : Prop) {_ : Decidable P} : b2 P = 0 ∨ b2 P = 1 := by
  by_cases h : P
  · exact Or.inr (b2_t h)
  · exact Or.inl (b2_f h)
theorem c_X9_sign {d : Nat} {hp : xH} {v : Nat → Int} (hM : xat hp 63 = some (yMo v)) {X : Int → Int} (hX : xat hp 67 = some (yI 60 X)) (hn : 0 ≤ v 7 ∧ v 7 ≤ 60) (ha : 0 ≤ v 8 ∧ v 8 ≤ v 7) : Cv d 198 [.ref 63] hp (yP (some (yi (sg X (v 7) (v 8)))) hp) := by
  have hk : xtab 198 = (xc_198, 1, 1, []) := rfl
  show Ev d 198 0 [(0, .ref 63)] [] hp _
  refine E_run hk 1 (j' := 1) (lv' := [(0, .ref 63)]) (st' := [.ref 63]) (hp' := hp) rfl ?_
  refine E_get (v := yi (v 8)) hk rfl hM rfl ?_
  refine E_run hk 1 (j' := 3) (lv' := [(0, .ref 63)]) (st' := [.ref 63, yi (v 8)]) (hp' := hp) rfl ?_
  refine E_get (v := yi (v 7)) hk rfl hM rfl ?_
  refine Y_ic_ge (a := (v 8)) (b := (v 7)) (by omega) hk rfl (fun g1 => ?_) (fun g1 => ?_)
  ·
    refine E_run hk 1 (j' := 12) (lv' := [(0, .ref 63)]) (st' := [yi 0]) (hp' := hp) rfl ?_
    exact E_ret hk rfl rfl ⟨by rw [sg_out (by omega)], rfl⟩
  ·
    refine E_run hk 1 (j' := 6) (lv' := [(0, .ref 63)]) (st' := [.ref 63]) (hp' := hp) rfl ?_
    refine E_get (v := .ref 67) hk rfl hM rfl ?_
    refine E_run hk 1 (j' := 8) (lv' := [(0, .ref 63)]) (st' := [.ref 63, .ref 67]) (hp' := hp) rfl ?_
    refine E_get (v := yi (v 8)) hk rfl hM rfl ?_
    refine Y_iald (a := (v 8)) (by omega) (by decide) hk rfl hX ?_
    refine E_run hk 1 (j' := 12) (lv' := [(0, .ref 63)]) (st' := [yi (X (v 8))]) (hp' := hp) rfl ?_
    exact E_ret hk rfl rfl ⟨by rw [sg_in (by omega)], rfl⟩
theorem c_X9_takes {d : Nat} {hp : xH} {v : Nat → Int} (hM : xat hp 63 = some (yMo v)) {X : Int → Int} (hX : xat hp 67 = some (yI 60 X)) (hn : 0 ≤ v 7 ∧ v 7 ≤ 60) (hc : ∀ q, 0 ≤ q → q < v 7 → 33 ≤ X q ∧ X q ≤ 126) (ha : 0 ≤ v 8 ∧ v 8 ≤ v 7) (hw : v 9 = 0 ∨ v 9 = 1) {l u : Int} (hlu : -1000 ≤ l ∧ l ≤ 1000 ∧ -1000 ≤ u ∧ u ≤ 1000) (hd : 1 ≤ d) : Cv d 199 [.ref 63, yi l, yi u] hp (yR (some (yi (sg X (v 7) (v 8) - 48))) (fun h => xat h 63 = some (yMo (vup (vup v 9 (b2 (v 9 = 1 ∧ l ≤ sg X (v 7) (v 8) ∧ sg X (v 7) (v 8) ≤ u))) 8 (v 8 + b2 (v 9 = 1 ∧ l ≤ sg X (v 7) (v 8) ∧ sg X (v 7) (v 8) ≤ u)))) ∧ yfr [63] hp h)) := by
  have hk : xtab 199 = (xc_199, 4, 1, []) := rfl
  obtain ⟨d, rfl⟩ : ∃ e, d = e + 1 := ⟨d - 1, by omega⟩
  have sr := sg_rng hc ha.1
  show Ev (d + 1) 199 0 [(0, .ref 63), (1, yi l), (2, yi u)] [] hp _
  refine E_run hk 2 (j' := 2) (lv' := [(0, .ref 63), (1, yi l), (2, yi u)]) (st' := [.ref 63, .ref 63]) (hp' := hp) rfl ?_
  refine E_get (v := yi (v 9)) hk rfl hM rfl ?_
  refine Y_if_eq (a := (v 9)) (by omega) hk rfl (fun g1 => ?_) (fun g1 => ?_)
  ·
    refine E_run hk 1 (j' := 13) (lv' := [(0, .ref 63), (1, yi l), (2, yi u)]) (st' := [yi 0, .ref 63]) (hp' := hp) rfl ?_
    refine Y_put hk rfl hM (by decide) (Nat.le_of_ble_eq_true rfl) rfl (fs' := [yi (v 0), .ref 64, .ref 65, yi (v 3), .ref 66, yi (v 5), .ref 67, yi (v 7), yi (v 8), yi 0, .ref 68, yi (v 11), .ref 69, yi (v 13), .ref 70, .ref 71, .ref 72, .ref 73, .ref 74, .ref 75, yi (v 20), yi (v 21)]) rfl (fun H2 e3 f4 => ?_)
    refine E_run hk 1 (j' := 15) (lv' := [(0, .ref 63), (1, yi l), (2, yi u)]) (st' := [.ref 63]) (hp' := H2) rfl ?_
    refine Y_callP hk rfl (as := [.ref 63]) (rest := []) (v := some (yi (sg X (v 7) (v 8)))) rfl rfl (Nat.le_of_ble_eq_true rfl) (rcv0 e3) (Nat.le_of_ble_eq_true rfl) (c_X9_sign (v := (vup v 9 0)) e3 (f4.at (by decide) hX) (by first | exact hn | (show 0 ≤ v 7 ∧ v 7 ≤ 60; omega)) (by first | exact ha | (show 0 ≤ v 8 ∧ v 8 ≤ v 7; omega))) ?_
    refine E_run hk 1 (j' := 17) (lv' := [(0, .ref 63), (1, yi l), (2, yi u)]) (st' := [yi 48, yi (sg X (v 7) (v 8))]) (hp' := H2) rfl ?_
    refine Y_isub (a := (sg X (v 7) (v 8))) (b := 48) hk rfl ?_
    refine E_run hk 3 (j' := 21) (lv' := [(3, yi ((sg X (v 7) (v 8)) - 48)), (0, .ref 63), (1, yi l), (2, yi u)]) (st' := [.ref 63, .ref 63]) (hp' := H2) rfl ?_
    refine E_get (v := yi (v 8)) hk rfl e3 rfl ?_
    refine E_run hk 1 (j' := 23) (lv' := [(3, yi ((sg X (v 7) (v 8)) - 48)), (0, .ref 63), (1, yi l), (2, yi u)]) (st' := [.ref 63, yi (v 8), .ref 63]) (hp' := H2) rfl ?_
    refine E_get (v := yi 0) hk rfl e3 rfl ?_
    refine Y_if_eq (a := 0) (by omega) hk rfl (fun g5 => ?_) (fun g5 => ?_)
    ·
      refine E_run hk 1 (j' := 28) (lv' := [(3, yi ((sg X (v 7) (v 8)) - 48)), (0, .ref 63), (1, yi l), (2, yi u)]) (st' := [yi 0, yi (v 8), .ref 63]) (hp' := H2) rfl ?_
      refine Y_iadd (a := (v 8)) (b := 0) hk rfl ?_
      refine Y_put hk rfl e3 (by decide) (Nat.le_of_ble_eq_true rfl) rfl (fs' := [yi (v 0), .ref 64, .ref 65, yi (v 3), .ref 66, yi (v 5), .ref 67, yi (v 7), yi ((v 8) + 0), yi 0, .ref 68, yi (v 11), .ref 69, yi (v 13), .ref 70, .ref 71, .ref 72, .ref 73, .ref 74, .ref 75, yi (v 20), yi (v 21)]) rfl (fun H6 e7 f8 => ?_)
      refine E_run hk 1 (j' := 31) (lv' := [(3, yi ((sg X (v 7) (v 8)) - 48)), (0, .ref 63), (1, yi l), (2, yi u)]) (st' := [yi ((sg X (v 7) (v 8)) - 48)]) (hp' := H6) rfl ?_
      exact E_ret hk rfl rfl ⟨rfl, by have e9 := e7; first | (rw [b2_t (by omega)]; exact e9) | (rw [b2_f (by omega)]; exact e9), (yfr.tr f4 f8 (fun _ h => h) (by decide))⟩
    · exfalso; omega
  ·
    refine E_run hk 1 (j' := 5) (lv' := [(0, .ref 63), (1, yi l), (2, yi u)]) (st' := [.ref 63, .ref 63]) (hp' := hp) rfl ?_
    refine Y_callP hk rfl (as := [.ref 63]) (rest := [.ref 63]) (v := some (yi (sg X (v 7) (v 8)))) rfl rfl (Nat.le_of_ble_eq_true rfl) (rcv0 hM) (Nat.le_of_ble_eq_true rfl) (c_X9_sign (v := v) hM hX (by first | exact hn | (show 0 ≤ v 7 ∧ v 7 ≤ 60; omega)) (by first | exact ha | (show 0 ≤ v 8 ∧ v 8 ≤ v 7; omega))) ?_
    refine E_run hk 2 (j' := 8) (lv' := [(0, .ref 63), (1, yi l), (2, yi u)]) (st' := [yi u, yi l, yi (sg X (v 7) (v 8)), .ref 63]) (hp' := hp) rfl ?_
    refine Y_callP hk rfl (as := [yi (sg X (v 7) (v 8)), yi l, yi u]) (rest := [.ref 63]) (v := some (yi (b2 (l ≤ (sg X (v 7) (v 8)) ∧ (sg X (v 7) (v 8)) ≤ u)))) rfl rfl (Nat.le_of_ble_eq_true rfl) rfl (Nat.le_of_ble_eq_true rfl) (c_X9_in (v := (sg X (v 7) (v 8))) (l := l) (m := u) (by omega)) ?_
    refine Y_b_eq hk rfl (fun g9 => ?_) (fun g9 => ?_)
    ·
      refine E_run hk 1 (j' := 13) (lv' := [(0, .ref 63), (1, yi l), (2, yi u)]) (st' := [yi 0, .ref 63]) (hp' := hp) rfl ?_
      refine Y_put hk rfl hM (by decide) (Nat.le_of_ble_eq_true rfl) rfl (fs' := [yi (v 0), .ref 64, .ref 65, yi (v 3), .ref 66, yi (v 5), .ref 67, yi (v 7), yi (v 8), yi 0, .ref 68, yi (v 11), .ref 69, yi (v 13), .ref 70, .ref 71, .ref 72, .ref 73, .ref 74, .ref 75, yi (v 20), yi (v 21)]) rfl (fun H10 e11 f12 => ?_)
      refine E_run hk 1 (j' := 15) (lv' := [(0, .ref 63), (1, yi l), (2, yi u)]) (st' := [.ref 63]) (hp' := H10) rfl ?_
      refine Y_callP hk rfl (as := [.ref 63]) (rest := []) (v := some (yi (sg X (v 7) (v 8)))) rfl rfl (Nat.le_of_ble_eq_true rfl) (rcv0 e11) (Nat.le_of_ble_eq_true rfl) (c_X9_sign (v := (vup v 9 0)) e11 (f12.at (by decide) hX) (by first | exact hn | (show 0 ≤ v 7 ∧ v 7 ≤ 60; omega)) (by first | exact ha | (show 0 ≤ v 8 ∧ v 8 ≤ v 7; omega))) ?_
      refine E_run hk 1 (j' := 17) (lv' := [(0, .ref 63), (1, yi l), (2, yi u)]) (st' := [yi 48, yi (sg X (v 7) (v 8))]) (hp' := H10) rfl ?_
      refine Y_isub (a := (sg X (v 7) (v 8))) (b := 48) hk rfl ?_
      refine E_run hk 3 (j' := 21) (lv' := [(3, yi ((sg X (v 7) (v 8)) - 48)), (0, .ref 63), (1, yi l), (2, yi u)]) (st' := [.ref 63, .ref 63]) (hp' := H10) rfl ?_
      refine E_get (v := yi (v 8)) hk rfl e11 rfl ?_
      refine E_run hk 1 (j' := 23) (lv' := [(3, yi ((sg X (v 7) (v 8)) - 48)), (0, .ref 63), (1, yi l), (2, yi u)]) (st' := [.ref 63, yi (v 8), .ref 63]) (hp' := H10) rfl ?_
      refine E_get (v := yi 0) hk rfl e11 rfl ?_
      refine Y_if_eq (a := 0) (by omega) hk rfl (fun g13 => ?_) (fun g13 => ?_)
      ·
        refine E_run hk 1 (j' := 28) (lv' := [(3, yi ((sg X (v 7) (v 8)) - 48)), (0, .ref 63), (1, yi l), (2, yi u)]) (st' := [yi 0, yi (v 8), .ref 63]) (hp' := H10) rfl ?_
        refine Y_iadd (a := (v 8)) (b := 0) hk rfl ?_
        refine Y_put hk rfl e11 (by decide) (Nat.le_of_ble_eq_true rfl) rfl (fs' := [yi (v 0), .ref 64, .ref 65, yi (v 3), .ref 66, yi (v 5), .ref 67, yi (v 7), yi ((v 8) + 0), yi 0, .ref 68, yi (v 11), .ref 69, yi (v 13), .ref 70, .ref 71, .ref 72, .ref 73, .ref 74, .ref 75, yi (v 20), yi (v 21)]) rfl (fun H14 e15 f16 => ?_)
        refine E_run hk 1 (j' := 31) (lv' := [(3, yi ((sg X (v 7) (v 8)) - 48)), (0, .ref 63), (1, yi l), (2, yi u)]) (st' := [yi ((sg X (v 7) (v 8)) - 48)]) (hp' := H14) rfl ?_
        exact E_ret hk rfl rfl ⟨rfl, by have e9 := e15; first | (rw [b2_t (by omega)]; exact e9) | (rw [b2_f (by omega)]; exact e9), (yfr.tr f12 f16 (fun _ h => h) (by decide))⟩
      · exfalso; omega
    ·
      refine E_run hk 2 (j' := 13) (lv' := [(0, .ref 63), (1, yi l), (2, yi u)]) (st' := [yi 1, .ref 63]) (hp' := hp) rfl ?_
      refine Y_put hk rfl hM (by decide) (Nat.le_of_ble_eq_true rfl) rfl (fs' := [yi (v 0), .ref 64, .ref 65, yi (v 3), .ref 66, yi (v 5), .ref 67, yi (v 7), yi (v 8), yi 1, .ref 68, yi (v 11), .ref 69, yi (v 13), .ref 70, .ref 71, .ref 72, .ref 73, .ref 74, .ref 75, yi (v 20), yi (v 21)]) rfl (fun H17 e18 f19 => ?_)
      refine E_run hk 1 (j' := 15) (lv' := [(0, .ref 63), (1, yi l), (2, yi u)]) (st' := [.ref 63]) (hp' := H17) rfl ?_
      refine Y_callP hk rfl (as := [.ref 63]) (rest := []) (v := some (yi (sg X (v 7) (v 8)))) rfl rfl (Nat.le_of_ble_eq_true rfl) (rcv0 e18) (Nat.le_of_ble_eq_true rfl) (c_X9_sign (v := (vup v 9 1)) e18 (f19.at (by decide) hX) (by first | exact hn | (show 0 ≤ v 7 ∧ v 7 ≤ 60; omega)) (by first | exact ha | (show 0 ≤ v 8 ∧ v 8 ≤ v 7; omega))) ?_
      refine E_run hk 1 (j' := 17) (lv' := [(0, .ref 63), (1, yi l), (2, yi u)]) (st' := [yi 48, yi (sg X (v 7) (v 8))]) (hp' := H17) rfl ?_
      refine Y_isub (a := (sg X (v 7) (v 8))) (b := 48) hk rfl ?_
      refine E_run hk 3 (j' := 21) (lv' := [(3, yi ((sg X (v 7) (v 8)) - 48)), (0, .ref 63), (1, yi l), (2, yi u)]) (st' := [.ref 63, .ref 63]) (hp' := H17) rfl ?_
      refine E_get (v := yi (v 8)) hk rfl e18 rfl ?_
      refine E_run hk 1 (j' := 23) (lv' := [(3, yi ((sg X (v 7) (v 8)) - 48)), (0, .ref 63), (1, yi l), (2, yi u)]) (st' := [.ref 63, yi (v 8), .ref 63]) (hp' := H17) rfl ?_
      refine E_get (v := yi 1) hk rfl e18 rfl ?_
      refine Y_if_eq (a := 1) (by omega) hk rfl (fun g20 => ?_) (fun g20 => ?_)
      · exfalso; omega
      ·
        refine E_run hk 2 (j' := 28) (lv' := [(3, yi ((sg X (v 7) (v 8)) - 48)), (0, .ref 63), (1, yi l), (2, yi u)]) (st' := [yi 1, yi (v 8), .ref 63]) (hp' := H17) rfl ?_
        refine Y_iadd (a := (v 8)) (b := 1) hk rfl ?_
        refine Y_put hk rfl e18 (by decide) (Nat.le_of_ble_eq_true rfl) rfl (fs' := [yi (v 0), .ref 64, .ref 65, yi (v 3), .ref 66, yi (v 5), .ref 67, yi (v 7), yi ((v 8) + 1), yi 1, .ref 68, yi (v 11), .ref 69, yi (v 13), .ref 70, .ref 71, .ref 72, .ref 73, .ref 74, .ref 75, yi (v 20), yi (v 21)]) rfl (fun H21 e22 f23 => ?_)
        refine E_run hk 1 (j' := 31) (lv' := [(3, yi ((sg X (v 7) (v 8)) - 48)), (0, .ref 63), (1, yi l), (2, yi u)]) (st' := [yi ((sg X (v 7) (v 8)) - 48)]) (hp' := H21) rfl ?_
        exact E_ret hk rfl rfl ⟨rfl, by have e9 := e22; first | (rw [b2_t (by omega)]; exact e9) | (rw [b2_f (by omega)]; exact e9), (yfr.tr f19 f23 (fun _ h => h) (by decide))⟩
