theorem c_X9_undo {d : Nat} {hp : xH} {v : Nat → Int} (hM : xat hp 63 = some (yMo v)) {S : Int → Int} (hS : xat hp 64 = some (yI 47 S)) {T : Int → Int} (hT : xat hp 65 = some (yI 282 T)) (hm : 0 ≤ v 3 ∧ v 3 ≤ 6) (hd : 1 ≤ d) : Cv d 214 [.ref 63] hp (yE (fun z h => ∃ c m S2, xat h 63 = some (yMo (vup (vup v 0 c) 3 m)) ∧ xat h 64 = some (yI 47 S2) ∧ ((c = 0 ∧ 0 < v 3 ∧ m = v 3 - 1 ∧ z = v 3 - 1 ∧ ∀ q, 0 ≤ q → q < 47 → S2 q = T (47 * (v 3 - 1) + q)) ∨ (c = 1 ∧ v 3 = 0 ∧ m = v 3 ∧ S2 = S)) ∧ yfr [63, 64] hp h)) := by
  have hk : xtab 214 = (xc_214, 2, 1, []) := rfl
  obtain ⟨d, rfl⟩ : ∃ e, d = e + 1 := ⟨d - 1, by omega⟩
  show Ev (d + 1) 214 0 [(0, .ref 63)] [] hp _
  refine E_run hk 2 (j' := 2) (lv' := [(0, .ref 63)]) (st' := [yi 0, .ref 63]) (hp' := hp) rfl ?_
  refine Y_put hk rfl hM (by decide) (Nat.le_of_ble_eq_true rfl) rfl (fs' := [yi 0, .ref 64, .ref 65, yi (v 3), .ref 66, yi (v 5), .ref 67, yi (v 7), yi (v 8), yi (v 9), .ref 68, yi (v 11), .ref 69, yi (v 13), .ref 70, .ref 71, .ref 72, .ref 73, .ref 74, .ref 75, yi (v 20), yi (v 21)]) rfl (fun H1 e2 f3 => ?_)
  refine E_run hk 1 (j' := 4) (lv' := [(0, .ref 63)]) (st' := [.ref 63]) (hp' := H1) rfl ?_
  refine E_get (v := yi (v 3)) hk rfl e2 rfl ?_
  refine Y_if_ne (a := (v 3)) (by omega) hk rfl (fun g4 => ?_) (fun g4 => ?_)
  ·
    refine E_run hk 2 (j' := 12) (lv' := [(0, .ref 63)]) (st' := [.ref 63, .ref 63]) (hp' := H1) rfl ?_
    refine E_get (v := yi (v 3)) hk rfl e2 rfl ?_
    refine E_run hk 1 (j' := 14) (lv' := [(0, .ref 63)]) (st' := [yi 1, yi (v 3), .ref 63]) (hp' := H1) rfl ?_
    refine Y_isub (a := (v 3)) (b := 1) hk rfl ?_
    refine Y_put hk rfl e2 (by decide) (Nat.le_of_ble_eq_true rfl) rfl (fs' := [yi 0, .ref 64, .ref 65, yi ((v 3) - 1), .ref 66, yi (v 5), .ref 67, yi (v 7), yi (v 8), yi (v 9), .ref 68, yi (v 11), .ref 69, yi (v 13), .ref 70, .ref 71, .ref 72, .ref 73, .ref 74, .ref 75, yi (v 20), yi (v 21)]) rfl (fun H5 e6 f7 => ?_)
    refine E_run hk 2 (j' := 18) (lv' := [(1, yi 0), (0, .ref 63)]) (st' := []) (hp' := H5) rfl ?_
    have loop18 : ∀ (N : Nat) (i : Int) (g : Int → Int) (hl18 : xH), (0 ≤ i ∧ i ≤ 47) → (∀ q, 0 ≤ q → q < i → g q = T (47 * (v 3 - 1) + q)) → (xat hl18 64 = some (yI 47 g)) → (yfr [64] H5 hl18) → (47 - i).toNat = N → Ev (d + 1) 214 18 [(0, .ref 63), (1, yi i)] [] hl18 (yE (fun z h => ∃ c m S2, xat h 63 = some (yMo (vup (vup v 0 c) 3 m)) ∧ xat h 64 = some (yI 47 S2) ∧ ((c = 0 ∧ 0 < v 3 ∧ m = v 3 - 1 ∧ z = v 3 - 1 ∧ ∀ q, 0 ≤ q → q < 47 → S2 q = T (47 * (v 3 - 1) + q)) ∨ (c = 1 ∧ v 3 = 0 ∧ m = v 3 ∧ S2 = S)) ∧ yfr [63, 64] hp h)) := by
      intro N
      induction N using Nat.strongRecOn with
      | ind N ih18 =>
        intro i g hl18 J1 J2 ec18_64 fr18 hm18
        refine E_run hk 1 (j' := 19) (lv' := [(0, .ref 63), (1, yi i)]) (st' := [yi i]) (hp' := hl18) rfl ?_
        refine E_run hk 1 (j' := 20) (lv' := [(0, .ref 63), (1, yi i)]) (st' := [yi 47, yi i]) (hp' := hl18) rfl ?_
        refine Y_ic_ge (a := i) (b := 47) (by omega) hk rfl (fun g8 => ?_) (fun g8 => ?_)
        ·
          refine E_run hk 1 (j' := 37) (lv' := [(0, .ref 63), (1, yi i)]) (st' := [.ref 63]) (hp' := hl18) rfl ?_
          refine E_get (v := yi ((v 3) - 1)) hk rfl (fr18.at (by decide) e6) rfl ?_
          exact E_ret hk rfl rfl ⟨((v 3) - 1), rfl, 0, ((v 3) - 1), g, (fr18.at (by decide) e6), ec18_64, Or.inl ⟨rfl, by omega, rfl, rfl, fun q q1 q2 => J2 q q1 (by omega)⟩, (yfr.tr (yfr.tr (f3.mono (by decide)) f7 (fun _ h => h) (by decide)) fr18 (fun _ h => h) (by decide))⟩
        ·
          refine E_run hk 1 (j' := 22) (lv' := [(0, .ref 63), (1, yi i)]) (st' := [.ref 63]) (hp' := hl18) rfl ?_
          refine E_get (v := .ref 64) hk rfl (fr18.at (by decide) e6) rfl ?_
          refine E_run hk 2 (j' := 25) (lv' := [(0, .ref 63), (1, yi i)]) (st' := [.ref 63, yi i, .ref 64]) (hp' := hl18) rfl ?_
          refine E_get (v := .ref 65) hk rfl (fr18.at (by decide) e6) rfl ?_
          refine E_run hk 2 (j' := 28) (lv' := [(0, .ref 63), (1, yi i)]) (st' := [.ref 63, yi 47, .ref 65, yi i, .ref 64]) (hp' := hl18) rfl ?_
          refine E_get (v := yi ((v 3) - 1)) hk rfl (fr18.at (by decide) e6) rfl ?_
          refine Y_imul (a := 47) (b := ((v 3) - 1)) hk rfl ?_
          refine E_run hk 1 (j' := 31) (lv' := [(0, .ref 63), (1, yi i)]) (st' := [yi i, yi (47 * ((v 3) - 1)), .ref 65, yi i, .ref 64]) (hp' := hl18) rfl ?_
          refine Y_iadd (a := (47 * ((v 3) - 1))) (b := i) hk rfl ?_
          refine Y_iald (a := ((47 * ((v 3) - 1)) + i)) (by omega) (by decide) hk rfl (fr18.at (by decide) (f7.at (by decide) (f3.at (by decide) hT))) ?_
          refine Y_iast (a := i) (x := (T ((47 * ((v 3) - 1)) + i))) (by omega) (by decide) (by decide) hk rfl ec18_64 (fun H9 e10 f11 => ?_)
          refine Y_iinc (a := i) (z := 1) hk rfl rfl rfl (by decide) (lv' := [(1, yi (i + 1)), (0, .ref 63)]) rfl ?_
          refine E_run hk 1 (j' := 18) (lv' := [(1, yi (i + 1)), (0, .ref 63)]) (st' := []) (hp' := H9) rfl ?_
          exact Ev_le (xle_s rfl rfl (xle_s rfl rfl (xle_z _ rfl))) (ih18 _ (by omega) (i + 1) (up g i (T ((47 * ((v 3) - 1)) + i))) H9 (by omega) (fun q q1 q2 => by
        by_cases e : q = i
        · subst e
          rw [up_self]
        · rw [up_ne _ _ e]
          exact J2 q q1 (by omega)) e10 (yfr.tr fr18 f11 (fun _ h => h) (by decide)) rfl)
    exact Ev_le (xle_s rfl rfl (xle_s rfl rfl (xle_z _ rfl))) (loop18 _ 0 S H5 (by omega) (fun q q1 q2 => absurd q1 (by omega)) (f7.at (by decide) (f3.at (by decide) hS)) (yfr.refl _ _) rfl)
  ·
    refine E_run hk 2 (j' := 8) (lv' := [(0, .ref 63)]) (st' := [yi 1, .ref 63]) (hp' := H1) rfl ?_
    refine Y_call hk rfl (as := [.ref 63, yi 1]) (rest := []) (v := some (yi 0)) rfl rfl (Nat.le_of_ble_eq_true rfl) (rcv0 e2) (Nat.le_of_ble_eq_true rfl) (c_X9_fails (c := 1) (v := (vup v 0 0)) e2) (fun H12 r13 => ?_)
    obtain ⟨e_H12, f_H12⟩ := r13
    exact E_ret hk rfl rfl ⟨0, rfl, 1, (v 3), S, e_H12, (f_H12.at (by decide) (f3.at (by decide) hS)), Or.inr ⟨rfl, by omega, rfl, rfl⟩, (yfr.tr (f3.mono (by decide)) f_H12 (fun _ h => h) (by decide))⟩
theorem c_X9_keep {d : Nat} {hp : xH} {v : Nat → Int} (hM : xat hp 63 = some (yMo v)) {S : Int → Int} (hS : xat hp 64 = some (yI 47 S)) (hl : 0 ≤ S 0 ∧ S 0 ≤ 20 ∧ 0 ≤ S 1 ∧ S 1 ≤ 20) {N : Int → Int} (hN : xat hp 66 = some (yI 47 N)) (hd : 1 ≤ d) : Cv d 215 [.ref 63] hp (yR (some (yi (S 0 + S 1))) (fun h => ∃ N2, xat h 63 = some (yMo (vup (vup v 0 0) 5 1)) ∧ xat h 66 = some (yI 47 N2) ∧ (∀ q, 0 ≤ q → q < 47 → N2 q = S q) ∧ yfr [63, 66] hp h)) := by
  have hk : xtab 215 = (xc_215, 2, 1, []) := rfl
  obtain ⟨d, rfl⟩ : ∃ e, d = e + 1 := ⟨d - 1, by omega⟩
  show Ev (d + 1) 215 0 [(0, .ref 63)] [] hp _
  refine E_run hk 2 (j' := 2) (lv' := [(0, .ref 63)]) (st' := [yi 0, .ref 63]) (hp' := hp) rfl ?_
  refine Y_put hk rfl hM (by decide) (Nat.le_of_ble_eq_true rfl) rfl (fs' := [yi 0, .ref 64, .ref 65, yi (v 3), .ref 66, yi (v 5), .ref 67, yi (v 7), yi (v 8), yi (v 9), .ref 68, yi (v 11), .ref 69, yi (v 13), .ref 70, .ref 71, .ref 72, .ref 73, .ref 74, .ref 75, yi (v 20), yi (v 21)]) rfl (fun H1 e2 f3 => ?_)
  refine E_run hk 2 (j' := 5) (lv' := [(1, yi 0), (0, .ref 63)]) (st' := []) (hp' := H1) rfl ?_
  have loop5 : ∀ (N : Nat) (i : Int) (g : Int → Int) (hl5 : xH), (0 ≤ i ∧ i ≤ 47) → (∀ q, 0 ≤ q → q < i → g q = S q) → (xat hl5 66 = some (yI 47 g)) → (yfr [66] H1 hl5) → (47 - i).toNat = N → Ev (d + 1) 215 5 [(0, .ref 63), (1, yi i)] [] hl5 (yR (some (yi (S 0 + S 1))) (fun h => ∃ N2, xat h 63 = some (yMo (vup (vup v 0 0) 5 1)) ∧ xat h 66 = some (yI 47 N2) ∧ (∀ q, 0 ≤ q → q < 47 → N2 q = S q) ∧ yfr [63, 66] hp h)) := by
    intro N
    induction N using Nat.strongRecOn with
    | ind N ih5 =>
      intro i g hl5 J1 J2 ec5_66 fr5 hm5
      refine E_run hk 1 (j' := 6) (lv' := [(0, .ref 63), (1, yi i)]) (st' := [yi i]) (hp' := hl5) rfl ?_
      refine E_run hk 1 (j' := 7) (lv' := [(0, .ref 63), (1, yi i)]) (st' := [yi 47, yi i]) (hp' := hl5) rfl ?_
      refine Y_ic_ge (a := i) (b := 47) (by omega) hk rfl (fun g4 => ?_) (fun g4 => ?_)
      ·
        refine E_run hk 2 (j' := 20) (lv' := [(0, .ref 63), (1, yi i)]) (st' := [yi 1, .ref 63]) (hp' := hl5) rfl ?_
        refine Y_put hk rfl (fr5.at (by decide) e2) (by decide) (Nat.le_of_ble_eq_true rfl) rfl (fs' := [yi 0, .ref 64, .ref 65, yi (v 3), .ref 66, yi 1, .ref 67, yi (v 7), yi (v 8), yi (v 9), .ref 68, yi (v 11), .ref 69, yi (v 13), .ref 70, .ref 71, .ref 72, .ref 73, .ref 74, .ref 75, yi (v 20), yi (v 21)]) rfl (fun H5 e6 f7 => ?_)
        refine E_run hk 2 (j' := 23) (lv' := [(0, .ref 63), (1, yi i)]) (st' := [yi 0, .ref 63]) (hp' := H5) rfl ?_
        refine Y_callP hk rfl (as := [.ref 63, yi 0]) (rest := []) (v := some (yi (S 0))) rfl rfl (Nat.le_of_ble_eq_true rfl) (rcv0 e6) (Nat.le_of_ble_eq_true rfl) (c_X9_many (t := 0) (v := (vup (vup v 0 0) 5 1)) e6 (f7.at (by decide) (fr5.at (by decide) (f3.at (by decide) hS))) (by omega)) ?_
        refine E_run hk 2 (j' := 26) (lv' := [(0, .ref 63), (1, yi i)]) (st' := [yi 1, .ref 63, yi (S 0)]) (hp' := H5) rfl ?_
        refine Y_callP hk rfl (as := [.ref 63, yi 1]) (rest := [yi (S 0)]) (v := some (yi (S 1))) rfl rfl (Nat.le_of_ble_eq_true rfl) (rcv0 e6) (Nat.le_of_ble_eq_true rfl) (c_X9_many (t := 1) (v := (vup (vup v 0 0) 5 1)) e6 (f7.at (by decide) (fr5.at (by decide) (f3.at (by decide) hS))) (by omega)) ?_
        refine Y_iadd (a := (S 0)) (b := (S 1)) hk rfl ?_
        exact E_ret hk rfl rfl ⟨rfl, _, e6, (f7.at (by decide) ec5_66), fun q q1 q2 => J2 q q1 (by omega), (yfr.tr (yfr.tr (f3.mono (by decide)) fr5 (fun _ h => h) (by decide)) f7 (fun _ h => h) (by decide))⟩
      ·
        refine E_run hk 1 (j' := 9) (lv' := [(0, .ref 63), (1, yi i)]) (st' := [.ref 63]) (hp' := hl5) rfl ?_
        refine E_get (v := .ref 66) hk rfl (fr5.at (by decide) e2) rfl ?_
        refine E_run hk 2 (j' := 12) (lv' := [(0, .ref 63), (1, yi i)]) (st' := [.ref 63, yi i, .ref 66]) (hp' := hl5) rfl ?_
        refine E_get (v := .ref 64) hk rfl (fr5.at (by decide) e2) rfl ?_
        refine E_run hk 1 (j' := 14) (lv' := [(0, .ref 63), (1, yi i)]) (st' := [yi i, .ref 64, yi i, .ref 66]) (hp' := hl5) rfl ?_
        refine Y_iald (a := i) (by omega) (by decide) hk rfl (fr5.at (by decide) (f3.at (by decide) hS)) ?_
        refine Y_iast (a := i) (x := (S i)) (by omega) (by decide) (by decide) hk rfl ec5_66 (fun H8 e9 f10 => ?_)
        refine Y_iinc (a := i) (z := 1) hk rfl rfl rfl (by decide) (lv' := [(1, yi (i + 1)), (0, .ref 63)]) rfl ?_
        refine E_run hk 1 (j' := 5) (lv' := [(1, yi (i + 1)), (0, .ref 63)]) (st' := []) (hp' := H8) rfl ?_
        exact Ev_le (xle_s rfl rfl (xle_s rfl rfl (xle_z _ rfl))) (ih5 _ (by omega) (i + 1) (up g i (S i)) H8 (by omega) (fun q q1 q2 => by
        by_cases e : q = i
        · subst e
          rw [up_self]
        · rw [up_ne _ _ e]
          exact J2 q q1 (by omega)) e9 (yfr.tr fr5 f10 (fun _ h => h) (by decide)) rfl)
  exact Ev_le (xle_s rfl rfl (xle_s rfl rfl (xle_z _ rfl))) (loop5 _ 0 N H1 (by omega) (fun q q1 q2 => absurd q1 (by omega)) (f3.at (by decide) hN) (yfr.refl _ _) rfl)
