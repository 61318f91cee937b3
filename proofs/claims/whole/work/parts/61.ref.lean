theorem c_X9_shift {d : Nat} {hp : xH} {v : Nat → Int} (hM : xat hp 63 = some (yMo v)) {S : Int → Int} (hS : xat hp 64 = some (yI 47 S)) {T : Int → Int} (hT : xat hp 65 = some (yI 282 T)) (hm : 0 ≤ v 3 ∧ v 3 ≤ 6) (hl : 0 ≤ S 0 ∧ S 0 ≤ 20 ∧ 0 ≤ S 1 ∧ S 1 ≤ 20) (hpi : ∀ t, 0 ≤ t → t ≤ 1 → ∀ q, 0 ≤ q → q < S (0 + t) → 0 ≤ S (7 + 20 * t + q) ∧ S (7 + 20 * t + q) ≤ 60) {t b : Int} (ht : -2147483648 ≤ t ∧ t ≤ 2147483647 ∧ -2147483648 ≤ b ∧ b ≤ 2147483647) (hd : 3 ≤ d) : Cv d 188 [.ref 63, yi t, yi b] hp (yE (fun z h => ∃ c m S2 U, xat h 63 = some (yMo (vup (vup v 0 c) 3 m)) ∧ xat h 64 = some (yI 47 S2) ∧ xat h 65 = some (yI 282 U) ∧ ((c = 0 ∧ m = (if v 3 = 6 then 6 else v 3 + 1) ∧ recd (v 3) S T U ∧ (0 ≤ t ∧ t ≤ 1 ∧ -12 ≤ b ∧ b ≤ 12 ∧ canS S t b) ∧ z = S (0 + t) ∧ (∀ q, 0 ≤ q → q < S (0 + t) → S2 (7 + 20 * t + q) = S (7 + 20 * t + q) + b) ∧ (∀ q, ¬ (7 + 20 * t ≤ q ∧ q < 7 + 20 * t + S (0 + t)) → S2 q = S q)) ∨ (c = 1 ∧ m = v 3 ∧ S2 = S ∧ U = T ∧ (¬ (0 ≤ t ∧ t ≤ 1))) ∨ (c = 2 ∧ m = v 3 ∧ S2 = S ∧ U = T ∧ (0 ≤ t ∧ t ≤ 1 ∧ ¬ (-12 ≤ b ∧ b ≤ 12))) ∨ (c = 3 ∧ m = v 3 ∧ S2 = S ∧ U = T ∧ (0 ≤ t ∧ t ≤ 1 ∧ -12 ≤ b ∧ b ≤ 12 ∧ ¬ canS S t b))) ∧ yfr [63, 64, 65] hp h)) := by
  have hk : xtab 188 = (xc_188, 3, 1, []) := rfl
  obtain ⟨d, rfl⟩ : ∃ e, d = e + 1 := ⟨d - 1, by omega⟩
  have w0 : 0 ≤ t → t ≤ 1 → 0 ≤ S (0 + t) ∧ S (0 + t) ≤ 20 := fun a b => by rcases (by omega : t = 0 ∨ t = 1) with e | e <;> rw [e] <;> first | exact ⟨hl.1, hl.2.1⟩ | exact hl.2.2
  show Ev (d + 1) 188 0 [(0, .ref 63), (1, yi t), (2, yi b)] [] hp _
  refine E_run hk 2 (j' := 2) (lv' := [(0, .ref 63), (1, yi t), (2, yi b)]) (st' := [yi 0, .ref 63]) (hp' := hp) rfl ?_
  refine Y_put hk rfl hM (by decide) (Nat.le_of_ble_eq_true rfl) rfl (fs' := [yi 0, .ref 64, .ref 65, yi (v 3), .ref 66, yi (v 5), .ref 67, yi (v 7), yi (v 8), yi (v 9), .ref 68, yi (v 11), .ref 69, yi (v 13), .ref 70, .ref 71, .ref 72, .ref 73, .ref 74, .ref 75, yi (v 20), yi (v 21)]) rfl (fun H1 e2 f3 => ?_)
  refine E_run hk 1 (j' := 4) (lv' := [(0, .ref 63), (1, yi t), (2, yi b)]) (st' := [yi t]) (hp' := H1) rfl ?_
  refine Y_callP hk rfl (as := [yi t]) (rest := []) (v := some (yi (b2 (0 ≤ t ∧ t ≤ 1)))) rfl rfl (Nat.le_of_ble_eq_true rfl) rfl (Nat.le_of_ble_eq_true rfl) (c_X9_isTune (t := t) (by omega) (hd := by omega)) ?_
  refine Y_b_ne hk rfl (fun g4 => ?_) (fun g4 => ?_)
  ·
    refine E_run hk 3 (j' := 13) (lv' := [(0, .ref 63), (1, yi t), (2, yi b)]) (st' := [yi 12, yi (-12), yi b]) (hp' := H1) rfl ?_
    refine Y_callP hk rfl (as := [yi b, yi (-12), yi 12]) (rest := []) (v := some (yi (b2 ((-12) ≤ b ∧ b ≤ 12)))) rfl rfl (Nat.le_of_ble_eq_true rfl) rfl (Nat.le_of_ble_eq_true rfl) (c_X9_in (v := b) (l := (-12)) (m := 12) (by omega)) ?_
    refine Y_b_ne hk rfl (fun g5 => ?_) (fun g5 => ?_)
    ·
      have w1 := w0 (by omega) (by omega)
      refine E_run hk 3 (j' := 22) (lv' := [(0, .ref 63), (1, yi t), (2, yi b)]) (st' := [yi b, yi t, .ref 63]) (hp' := H1) rfl ?_
      refine Y_callP hk rfl (as := [.ref 63, yi t, yi b]) (rest := []) (v := some (yi (@b2 (canS S t b) (Classical.propDecidable _)))) rfl rfl (Nat.le_of_ble_eq_true rfl) (rcv0 e2) (Nat.le_of_ble_eq_true rfl) (c_X9_canShift (t := t) (b := b) (v := (vup v 0 0)) e2 (f3.at (by decide) hS) (by omega) (by omega) (hpi t (by omega) (by omega)) (by omega) (hd := by omega)) ?_
      refine Y_b_ne hk rfl (fun g6 => ?_) (fun g6 => ?_)
      ·
        have g_cs : canS S t b := by assumption
        refine E_run hk 1 (j' := 29) (lv' := [(0, .ref 63), (1, yi t), (2, yi b)]) (st' := [.ref 63]) (hp' := H1) rfl ?_
        refine Y_call hk rfl (as := [.ref 63]) (rest := []) (v := none) rfl rfl (Nat.le_of_ble_eq_true rfl) (rcv0 e2) (Nat.le_of_ble_eq_true rfl) (c_X9_records (v := (vup v 0 0)) e2 (f3.at (by decide) hS) (f3.at (by decide) hT) (hm)) (fun H7 r8 => ?_)
        obtain ⟨T_H7, e_H7, t_H7, a_H7, b_H7, f_H7⟩ := r8
        refine E_run hk 3 (j' := 33) (lv' := [(0, .ref 63), (1, yi t), (2, yi b)]) (st' := [yi b, yi t, .ref 63]) (hp' := H7) rfl ?_
        refine Y_call hk rfl (as := [.ref 63, yi t, yi b]) (rest := []) (v := none) rfl rfl (Nat.le_of_ble_eq_true rfl) (rcv0 e_H7) (Nat.le_of_ble_eq_true rfl) (c_X9_shifts (t := t) (b := b) (v := (vup (vup v 0 0) 3 (if (v 3) = 6 then 6 else (v 3) + 1))) e_H7 (f_H7.at (by decide) (f3.at (by decide) hS)) (by omega) (by omega) (hpi t (by omega) (by omega)) g_cs (hd := by omega)) (fun H9 r10 => ?_)
        obtain ⟨S_H9, e_H9, a_H9, b_H9, f_H9⟩ := r10
        refine E_run hk 2 (j' := 36) (lv' := [(0, .ref 63), (1, yi t), (2, yi b)]) (st' := [yi t, .ref 63]) (hp' := H9) rfl ?_
        refine Y_callP hk rfl (as := [.ref 63, yi t]) (rest := []) (v := some (yi (S_H9 (0 + t)))) rfl rfl (Nat.le_of_ble_eq_true rfl) (rcv0 (f_H9.at (by decide) e_H7)) (Nat.le_of_ble_eq_true rfl) (c_X9_many (t := t) (v := (vup (vup v 0 0) 3 (if (v 3) = 6 then 6 else (v 3) + 1))) (f_H9.at (by decide) e_H7) e_H9 (by omega)) ?_
        exact E_ret hk rfl rfl ⟨(S_H9 (0 + t)), rfl, 0, (if (v 3) = 6 then 6 else (v 3) + 1), S_H9, T_H7, (f_H9.at (by decide) e_H7), e_H9, (f_H9.at (by decide) t_H7), Or.inl ⟨rfl, rfl, ⟨a_H7, b_H7⟩, ⟨by omega, by omega, by omega, by omega, g_cs⟩, b_H9 _ (by omega), ⟨a_H9, b_H9⟩⟩, (yfr.tr (yfr.tr (f3.mono (by decide)) f_H7 (fun _ h => h) (by decide)) f_H9 (fun _ h => h) (by decide))⟩
      ·
        refine E_run hk 2 (j' := 26) (lv' := [(0, .ref 63), (1, yi t), (2, yi b)]) (st' := [yi 3, .ref 63]) (hp' := H1) rfl ?_
        refine Y_call hk rfl (as := [.ref 63, yi 3]) (rest := []) (v := some (yi 0)) rfl rfl (Nat.le_of_ble_eq_true rfl) (rcv0 e2) (Nat.le_of_ble_eq_true rfl) (c_X9_fails (c := 3) (v := (vup v 0 0)) e2) (fun H11 r12 => ?_)
        obtain ⟨e_H11, f_H11⟩ := r12
        exact E_ret hk rfl rfl ⟨0, rfl, 3, (v 3), S, T, e_H11, (f_H11.at (by decide) (f3.at (by decide) hS)), (f_H11.at (by decide) (f3.at (by decide) hT)), Or.inr (Or.inr (Or.inr (⟨rfl, rfl, rfl, rfl, by first | omega | exact ⟨by omega, by omega, by omega, by omega, by assumption⟩⟩))), (yfr.tr (f3.mono (by decide)) f_H11 (fun _ h => h) (by decide))⟩
    ·
      refine E_run hk 2 (j' := 17) (lv' := [(0, .ref 63), (1, yi t), (2, yi b)]) (st' := [yi 2, .ref 63]) (hp' := H1) rfl ?_
      refine Y_call hk rfl (as := [.ref 63, yi 2]) (rest := []) (v := some (yi 0)) rfl rfl (Nat.le_of_ble_eq_true rfl) (rcv0 e2) (Nat.le_of_ble_eq_true rfl) (c_X9_fails (c := 2) (v := (vup v 0 0)) e2) (fun H13 r14 => ?_)
      obtain ⟨e_H13, f_H13⟩ := r14
      exact E_ret hk rfl rfl ⟨0, rfl, 2, (v 3), S, T, e_H13, (f_H13.at (by decide) (f3.at (by decide) hS)), (f_H13.at (by decide) (f3.at (by decide) hT)), Or.inr (Or.inr (Or.inl ⟨rfl, rfl, rfl, rfl, by first | omega | exact ⟨by omega, by omega, by omega, by omega, by assumption⟩⟩)), (yfr.tr (f3.mono (by decide)) f_H13 (fun _ h => h) (by decide))⟩
  ·
    refine E_run hk 2 (j' := 8) (lv' := [(0, .ref 63), (1, yi t), (2, yi b)]) (st' := [yi 1, .ref 63]) (hp' := H1) rfl ?_
    refine Y_call hk rfl (as := [.ref 63, yi 1]) (rest := []) (v := some (yi 0)) rfl rfl (Nat.le_of_ble_eq_true rfl) (rcv0 e2) (Nat.le_of_ble_eq_true rfl) (c_X9_fails (c := 1) (v := (vup v 0 0)) e2) (fun H15 r16 => ?_)
    obtain ⟨e_H15, f_H15⟩ := r16
    exact E_ret hk rfl rfl ⟨0, rfl, 1, (v 3), S, T, e_H15, (f_H15.at (by decide) (f3.at (by decide) hS)), (f_H15.at (by decide) (f3.at (by decide) hT)), Or.inr (Or.inl ⟨rfl, rfl, rfl, rfl, by first | omega | exact ⟨by omega, by omega, by omega, by omega, by assumption⟩⟩), (yfr.tr (f3.mono (by decide)) f_H15 (fun _ h => h) (by decide))⟩
