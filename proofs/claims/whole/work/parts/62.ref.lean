theorem c_X9_restore {d : Nat} {hp : xH} {v : Nat → Int} (hM : xat hp 63 = some (yMo v)) {S : Int → Int} (hS : xat hp 64 = some (yI 47 S)) {T : Int → Int} (hT : xat hp 65 = some (yI 282 T)) (hm : 0 ≤ v 3 ∧ v 3 ≤ 6) {Z : Int → Int} (hN : xat hp 66 = some (yI 47 Z)) (h5 : v 5 = 0 ∨ v 5 = 1) (hd : 1 ≤ d) : Cv d 216 [.ref 63] hp (yE (fun z h => ∃ c m S2 U, xat h 63 = some (yMo (vup (vup v 0 c) 3 m)) ∧ xat h 64 = some (yI 47 S2) ∧ xat h 65 = some (yI 282 U) ∧ ((c = 0 ∧ m = (if v 3 = 6 then 6 else v 3 + 1) ∧ recd (v 3) S T U ∧ (v 5 = 1) ∧ z = Z 0 + Z 1 ∧ ∀ q, 0 ≤ q → q < 47 → S2 q = Z q) ∨ (c = 1 ∧ m = v 3 ∧ S2 = S ∧ U = T ∧ (v 5 = 0))) ∧ yfr [63, 64, 65] hp h)) := by
  have hk : xtab 216 = (xc_216, 2, 1, []) := rfl
  obtain ⟨d, rfl⟩ : ∃ e, d = e + 1 := ⟨d - 1, by omega⟩
  show Ev (d + 1) 216 0 [(0, .ref 63)] [] hp _
  refine E_run hk 2 (j' := 2) (lv' := [(0, .ref 63)]) (st' := [yi 0, .ref 63]) (hp' := hp) rfl ?_
  refine Y_put hk rfl hM (by decide) (Nat.le_of_ble_eq_true rfl) rfl (fs' := [yi 0, .ref 64, .ref 65, yi (v 3), .ref 66, yi (v 5), .ref 67, yi (v 7), yi (v 8), yi (v 9), .ref 68, yi (v 11), .ref 69, yi (v 13), .ref 70, .ref 71, .ref 72, .ref 73, .ref 74, .ref 75, yi (v 20), yi (v 21)]) rfl (fun H1 e2 f3 => ?_)
  refine E_run hk 1 (j' := 4) (lv' := [(0, .ref 63)]) (st' := [.ref 63]) (hp' := H1) rfl ?_
  refine E_get (v := yi (v 5)) hk rfl e2 rfl ?_
  refine Y_if_ne (a := (v 5)) (by omega) hk rfl (fun g4 => ?_) (fun g4 => ?_)
  ·
    refine E_run hk 1 (j' := 11) (lv' := [(0, .ref 63)]) (st' := [.ref 63]) (hp' := H1) rfl ?_
    refine Y_call hk rfl (as := [.ref 63]) (rest := []) (v := none) rfl rfl (Nat.le_of_ble_eq_true rfl) (rcv0 e2) (Nat.le_of_ble_eq_true rfl) (c_X9_records (v := (vup v 0 0)) e2 (f3.at (by decide) hS) (f3.at (by decide) hT) (hm)) (fun H5 r6 => ?_)
    obtain ⟨T_H5, e_H5, t_H5, a_H5, b_H5, f_H5⟩ := r6
    refine E_run hk 2 (j' := 14) (lv' := [(1, yi 0), (0, .ref 63)]) (st' := []) (hp' := H5) rfl ?_
    have loop14 : ∀ (N : Nat) (i : Int) (g : Int → Int) (hl14 : xH), (0 ≤ i ∧ i ≤ 47) → (∀ q, 0 ≤ q → q < i → g q = Z q) → (xat hl14 64 = some (yI 47 g)) → (yfr [64] H5 hl14) → (47 - i).toNat = N → Ev (d + 1) 216 14 [(0, .ref 63), (1, yi i)] [] hl14 (yE (fun z h => ∃ c m S2 U, xat h 63 = some (yMo (vup (vup v 0 c) 3 m)) ∧ xat h 64 = some (yI 47 S2) ∧ xat h 65 = some (yI 282 U) ∧ ((c = 0 ∧ m = (if v 3 = 6 then 6 else v 3 + 1) ∧ recd (v 3) S T U ∧ (v 5 = 1) ∧ z = Z 0 + Z 1 ∧ ∀ q, 0 ≤ q → q < 47 → S2 q = Z q) ∨ (c = 1 ∧ m = v 3 ∧ S2 = S ∧ U = T ∧ (v 5 = 0))) ∧ yfr [63, 64, 65] hp h)) := by
      intro N
      induction N using Nat.strongRecOn with
      | ind N ih14 =>
        intro i g hl14 J1 J2 ec14_64 fr14 hm14
        refine E_run hk 1 (j' := 15) (lv' := [(0, .ref 63), (1, yi i)]) (st' := [yi i]) (hp' := hl14) rfl ?_
        refine E_run hk 1 (j' := 16) (lv' := [(0, .ref 63), (1, yi i)]) (st' := [yi 47, yi i]) (hp' := hl14) rfl ?_
        refine Y_ic_ge (a := i) (b := 47) (by omega) hk rfl (fun g7 => ?_) (fun g7 => ?_)
        ·
          refine E_run hk 2 (j' := 29) (lv' := [(0, .ref 63), (1, yi i)]) (st' := [yi 0, .ref 63]) (hp' := hl14) rfl ?_
          refine Y_callP hk rfl (as := [.ref 63, yi 0]) (rest := []) (v := some (yi (g 0))) rfl rfl (Nat.le_of_ble_eq_true rfl) (rcv0 (fr14.at (by decide) e_H5)) (Nat.le_of_ble_eq_true rfl) (c_X9_many (t := 0) (v := (vup (vup v 0 0) 3 (if (v 3) = 6 then 6 else (v 3) + 1))) (fr14.at (by decide) e_H5) ec14_64 (by omega)) ?_
          refine E_run hk 2 (j' := 32) (lv' := [(0, .ref 63), (1, yi i)]) (st' := [yi 1, .ref 63, yi (g 0)]) (hp' := hl14) rfl ?_
          refine Y_callP hk rfl (as := [.ref 63, yi 1]) (rest := [yi (g 0)]) (v := some (yi (g 1))) rfl rfl (Nat.le_of_ble_eq_true rfl) (rcv0 (fr14.at (by decide) e_H5)) (Nat.le_of_ble_eq_true rfl) (c_X9_many (t := 1) (v := (vup (vup v 0 0) 3 (if (v 3) = 6 then 6 else (v 3) + 1))) (fr14.at (by decide) e_H5) ec14_64 (by omega)) ?_
          refine Y_iadd (a := (g 0)) (b := (g 1)) hk rfl ?_
          exact E_ret hk rfl rfl ⟨((g 0) + (g 1)), rfl, 0, (if (v 3) = 6 then 6 else (v 3) + 1), g, T_H5, (fr14.at (by decide) e_H5), ec14_64, (fr14.at (by decide) t_H5), Or.inl ⟨rfl, rfl, ⟨a_H5, b_H5⟩, by omega, by rw [J2 0 (by omega) (by omega), J2 1 (by omega) (by omega)], fun q q1 q2 => J2 q q1 (by omega)⟩, (yfr.tr (yfr.tr (f3.mono (by decide)) f_H5 (fun _ h => h) (by decide)) fr14 (fun _ h => h) (by decide))⟩
        ·
          refine E_run hk 1 (j' := 18) (lv' := [(0, .ref 63), (1, yi i)]) (st' := [.ref 63]) (hp' := hl14) rfl ?_
          refine E_get (v := .ref 64) hk rfl (fr14.at (by decide) e_H5) rfl ?_
          refine E_run hk 2 (j' := 21) (lv' := [(0, .ref 63), (1, yi i)]) (st' := [.ref 63, yi i, .ref 64]) (hp' := hl14) rfl ?_
          refine E_get (v := .ref 66) hk rfl (fr14.at (by decide) e_H5) rfl ?_
          refine E_run hk 1 (j' := 23) (lv' := [(0, .ref 63), (1, yi i)]) (st' := [yi i, .ref 66, yi i, .ref 64]) (hp' := hl14) rfl ?_
          refine Y_iald (a := i) (by omega) (by decide) hk rfl (fr14.at (by decide) (f_H5.at (by decide) (f3.at (by decide) hN))) ?_
          refine Y_iast (a := i) (x := (Z i)) (by omega) (by decide) (by decide) hk rfl ec14_64 (fun H8 e9 f10 => ?_)
          refine Y_iinc (a := i) (z := 1) hk rfl rfl rfl (by decide) (lv' := [(1, yi (i + 1)), (0, .ref 63)]) rfl ?_
          refine E_run hk 1 (j' := 14) (lv' := [(1, yi (i + 1)), (0, .ref 63)]) (st' := []) (hp' := H8) rfl ?_
          exact Ev_le (xle_s rfl rfl (xle_s rfl rfl (xle_z _ rfl))) (ih14 _ (by omega) (i + 1) (up g i (Z i)) H8 (by omega) (fun q q1 q2 => by
        by_cases e : q = i
        · subst e
          rw [up_self]
        · rw [up_ne _ _ e]
          exact J2 q q1 (by omega)) e9 (yfr.tr fr14 f10 (fun _ h => h) (by decide)) rfl)
    exact Ev_le (xle_s rfl rfl (xle_s rfl rfl (xle_z _ rfl))) (loop14 _ 0 S H5 (by omega) (fun q q1 q2 => absurd q1 (by omega)) (f_H5.at (by decide) (f3.at (by decide) hS)) (yfr.refl _ _) rfl)
  ·
    refine E_run hk 2 (j' := 8) (lv' := [(0, .ref 63)]) (st' := [yi 1, .ref 63]) (hp' := H1) rfl ?_
    refine Y_call hk rfl (as := [.ref 63, yi 1]) (rest := []) (v := some (yi 0)) rfl rfl (Nat.le_of_ble_eq_true rfl) (rcv0 e2) (Nat.le_of_ble_eq_true rfl) (c_X9_fails (c := 1) (v := (vup v 0 0)) e2) (fun H11 r12 => ?_)
    obtain ⟨e_H11, f_H11⟩ := r12
    exact E_ret hk rfl rfl ⟨0, rfl, 1, (v 3), S, T, e_H11, (f_H11.at (by decide) (f3.at (by decide) hS)), (f_H11.at (by decide) (f3.at (by decide) hT)), Or.inr (⟨rfl, rfl, rfl, rfl, by omega⟩), (yfr.tr (f3.mono (by decide)) f_H11 (fun _ h => h) (by decide))⟩
