/-! The class: what is asked. e: what is thrown; z: what is answered. -/
theorem c_X8_notes {d : Nat} {hp : xH} {kp cl od : Int} (h28 : xat hp 28 = some (.inr (8, [.ref 29, .ref 34, .ref 35, yi kp, .ref 40, yi cl, .ref 41, .ref 43, yi od, .ref 56, .ref 58]))) {z o : Nat} {S f g : Int → Int} {r t : Int} (hS : yS hp 29 z o S f g r t) {x : Int} (hx : -2147483648 ≤ x ∧ x ≤ 2147483647) (hd : 6 ≤ d) : Cv d 64 [.ref 28, yi x] hp (yA (fun e z h => ((e = none ∧ (0 ≤ x ∧ x ≤ 1) ∧ z = S (0 + x)) ∨ (e = some 0 ∧ (¬ (0 ≤ x ∧ x ≤ 1)))) ∧ yfz [] hp h)) := by
  have hk : xtab 64 = (xc_64, 2, 1, []) := rfl
  obtain ⟨d, rfl⟩ : ∃ e, d = e + 1 := ⟨d - 1, by omega⟩
  obtain ⟨hid, hs_, hz_, ho_, hf_, hg_, ef, eg⟩ := hS
  show Ev (d + 1) 64 0 [(0, .ref 28), (1, yi x)] [] hp _
  refine E_run hk 2 (j' := 2) (lv' := [(0, .ref 28), (1, yi x)]) (st' := [yi x, .ref 28]) (hp' := hp) rfl ?_
  refine Y_callT hk rfl (as := [.ref 28, yi x]) (rest := []) (v := some (.ref (tun x z o))) rfl rfl (Nat.le_of_ble_eq_true rfl) (rcv0 h28) (Nat.le_of_ble_eq_true rfl) (c_X8_tuneAt h28 ⟨hid, hs_, hz_, ho_, hf_, hg_, ef, eg⟩ (x := x) (by omega) (hd := by omega)) (fun g2 => ?_) rfl (fun g2 => ?_)
  rotate_left
  · exact Or.inr ⟨0, rfl, by first | exact Or.inr (⟨rfl, by first | assumption | omega⟩), yfz.frb (yfr.refl _ _)⟩
  have u1 := yS.tun (x := x) (show yS hp 29 z o S f g _ _ from ⟨hid, hs_, hz_, ho_, hf_, hg_, ef, eg⟩) (by omega)
  refine E_get (v := yi (S (0 + x))) hk rfl u1.1 rfl ?_
  exact E_ret hk rfl rfl (Or.inl ⟨(S (0 + x)), rfl, Or.inl ⟨rfl, by first | trivial | assumption | omega, by first | rfl | assumption | omega⟩, yfz.of_fr (yfr.refl _ _)⟩)
theorem c_X8_pitch {d : Nat} {hp : xH} {kp cl od : Int} (h28 : xat hp 28 = some (.inr (8, [.ref 29, .ref 34, .ref 35, yi kp, .ref 40, yi cl, .ref 41, .ref 43, yi od, .ref 56, .ref 58]))) {z o : Nat} {S f g : Int → Int} {r t : Int} (hS : yS hp 29 z o S f g r t) (hl : 0 ≤ S 0 ∧ S 0 ≤ 20 ∧ 0 ≤ S 1 ∧ S 1 ≤ 20) {x k : Int} (hx : -2147483648 ≤ x ∧ x ≤ 2147483647 ∧ -2147483648 ≤ k ∧ k ≤ 2147483647) (hd : 6 ≤ d) : Cv d 65 [.ref 28, yi x, yi k] hp (yA (fun e z h => ((e = none ∧ (0 ≤ x ∧ x ≤ 1 ∧ 0 ≤ k ∧ k < S (0 + x)) ∧ z = S (7 + 20 * x + k)) ∨ (e = some 0 ∧ (¬ (0 ≤ x ∧ x ≤ 1 ∧ 0 ≤ k ∧ k < S (0 + x))))) ∧ yfz [] hp h)) := by
  have hk : xtab 65 = (xc_65, 4, 1, []) := rfl
  obtain ⟨d, rfl⟩ : ∃ e, d = e + 1 := ⟨d - 1, by omega⟩
  obtain ⟨hid, hs_, hz_, ho_, hf_, hg_, ef, eg⟩ := hS
  have w0 : 0 ≤ x → x ≤ 1 → 0 ≤ S (0 + x) ∧ S (0 + x) ≤ 20 := fun a b => by rcases (by omega : x = 0 ∨ x = 1) with e | e <;> rw [e] <;> first | exact ⟨hl.1, hl.2.1⟩ | exact hl.2.2
  show Ev (d + 1) 65 0 [(0, .ref 28), (1, yi x), (2, yi k)] [] hp _
  refine E_run hk 2 (j' := 2) (lv' := [(0, .ref 28), (1, yi x), (2, yi k)]) (st' := [yi x, .ref 28]) (hp' := hp) rfl ?_
  refine Y_callT hk rfl (as := [.ref 28, yi x]) (rest := []) (v := some (.ref (tun x z o))) rfl rfl (Nat.le_of_ble_eq_true rfl) (rcv0 h28) (Nat.le_of_ble_eq_true rfl) (c_X8_tuneAt h28 ⟨hid, hs_, hz_, ho_, hf_, hg_, ef, eg⟩ (x := x) (by omega) (hd := by omega)) (fun g2 => ?_) rfl (fun g2 => ?_)
  rotate_left
  · exact Or.inr ⟨0, rfl, by first | exact Or.inr (⟨rfl, by first | assumption | omega⟩), yfz.frb (yfr.refl _ _)⟩
  have u1 := yS.tun (x := x) (show yS hp 29 z o S f g _ _ from ⟨hid, hs_, hz_, ho_, hf_, hg_, ef, eg⟩) (by omega)
  have w1 := w0 (by omega) (by omega)
  refine E_run hk 3 (j' := 6) (lv' := [(3, .ref (tun x z o)), (0, .ref 28), (1, yi x), (2, yi k)]) (st' := [yi k, .ref (tun x z o)]) (hp' := hp) rfl ?_
  refine Y_callT hk rfl (as := [.ref (tun x z o), yi k]) (rest := []) (v := none) rfl rfl (Nat.le_of_ble_eq_true rfl) rfl (Nat.le_of_ble_eq_true rfl) (c_X8_checkNote (x := k) (a := (tun x z o)) (p := ((tun x z o) + 1)) (f := (tuf x f g)) (n := (S (0 + x))) ⟨(tid hid x).1, (tid hid x).2.1, (tid hid x).2.2.1⟩ u1.1 u1.2.1 (by omega) (by omega) (hd := by omega)) (fun g3 => ?_) rfl (fun g3 => ?_)
  rotate_left
  · exact Or.inr ⟨0, rfl, by first | exact Or.inr (⟨rfl, by first | assumption | omega⟩), yfz.frb (yfr.refl _ _)⟩
  refine E_run hk 2 (j' := 9) (lv' := [(3, .ref (tun x z o)), (0, .ref 28), (1, yi x), (2, yi k)]) (st' := [yi k, .ref (tun x z o)]) (hp' := hp) rfl ?_
  refine Y_callP hk rfl (as := [.ref (tun x z o), yi k]) (rest := []) (v := some (yi ((tuf x f g) k))) rfl rfl (Nat.le_of_ble_eq_true rfl) (rcv0 u1.1) (Nat.le_of_ble_eq_true rfl) (c_X6_pitchOf (x := k) (a := (tun x z o)) (p := ((tun x z o) + 1)) (f := (tuf x f g)) (n := (S (0 + x))) ⟨(tid hid x).1, (tid hid x).2.1, (tid hid x).2.2.1⟩ u1.1 u1.2.1 (by omega)) ?_
  exact E_ret hk rfl rfl (Or.inl ⟨((tuf x f g) k), rfl, Or.inl ⟨rfl, by first | trivial | assumption | omega, u1.2.2 k (by omega) (by omega)⟩, yfz.of_fr (yfr.refl _ _)⟩)
theorem c_X8_bound {d : Nat} {hp : xH} {kp cl od : Int} (h28 : xat hp 28 = some (.inr (8, [.ref 29, .ref 34, .ref 35, yi kp, .ref 40, yi cl, .ref 41, .ref 43, yi od, .ref 56, .ref 58]))) {z o : Nat} {S f g : Int → Int} {r t : Int} (hS : yS hp 29 z o S f g r t) : Cv d 66 [.ref 28] hp (yA (fun e z h => ((e = none ∧ (True) ∧ z = S 2)) ∧ yfz [] hp h)) := by
  have hk : xtab 66 = (xc_66, 1, 1, []) := rfl
  obtain ⟨hid, hs_, hz_, ho_, hf_, hg_, ef, eg⟩ := hS
  show Ev d 66 0 [(0, .ref 28)] [] hp _
  refine E_run hk 1 (j' := 1) (lv' := [(0, .ref 28)]) (st' := [.ref 28]) (hp' := hp) rfl ?_
  refine E_get (v := .ref 29) hk rfl h28 rfl ?_
  refine E_get (v := yi (S 2)) hk rfl hs_ rfl ?_
  exact E_ret hk rfl rfl (Or.inl ⟨(S 2), rfl, ⟨rfl, by first | trivial | assumption | omega, by first | rfl | assumption | omega⟩, yfz.of_fr (yfr.refl _ _)⟩)
theorem c_X8_hold {d : Nat} {hp : xH} {kp cl od : Int} (h28 : xat hp 28 = some (.inr (8, [.ref 29, .ref 34, .ref 35, yi kp, .ref 40, yi cl, .ref 41, .ref 43, yi od, .ref 56, .ref 58]))) {z o : Nat} {S f g : Int → Int} {r t : Int} (hS : yS hp 29 z o S f g r t) : Cv d 67 [.ref 28] hp (yA (fun e z h => ((e = none ∧ (True) ∧ z = S 3)) ∧ yfz [] hp h)) := by
  have hk : xtab 67 = (xc_67, 1, 1, []) := rfl
  obtain ⟨hid, hs_, hz_, ho_, hf_, hg_, ef, eg⟩ := hS
  show Ev d 67 0 [(0, .ref 28)] [] hp _
  refine E_run hk 1 (j' := 1) (lv' := [(0, .ref 28)]) (st' := [.ref 28]) (hp' := hp) rfl ?_
  refine E_get (v := .ref 29) hk rfl h28 rfl ?_
  refine E_get (v := yi (S 3)) hk rfl hs_ rfl ?_
  exact E_ret hk rfl rfl (Or.inl ⟨(S 3), rfl, ⟨rfl, by first | trivial | assumption | omega, by first | rfl | assumption | omega⟩, yfz.of_fr (yfr.refl _ _)⟩)
theorem c_X8_judge {d : Nat} {hp : xH} {kp cl od : Int} (h28 : xat hp 28 = some (.inr (8, [.ref 29, .ref 34, .ref 35, yi kp, .ref 40, yi cl, .ref 41, .ref 43, yi od, .ref 56, .ref 58]))) {z o : Nat} {S f g : Int → Int} {r t : Int} (hS : yS hp 29 z o S f g r t) : Cv d 68 [.ref 28] hp (yA (fun e z h => ((e = none ∧ (True) ∧ z = S 4)) ∧ yfz [] hp h)) := by
  have hk : xtab 68 = (xc_68, 1, 1, []) := rfl
  obtain ⟨hid, hs_, hz_, ho_, hf_, hg_, ef, eg⟩ := hS
  show Ev d 68 0 [(0, .ref 28)] [] hp _
  refine E_run hk 1 (j' := 1) (lv' := [(0, .ref 28)]) (st' := [.ref 28]) (hp' := hp) rfl ?_
  refine E_get (v := .ref 29) hk rfl h28 rfl ?_
  refine E_get (v := yi (S 4)) hk rfl hs_ rfl ?_
  exact E_ret hk rfl rfl (Or.inl ⟨(S 4), rfl, ⟨rfl, by first | trivial | assumption | omega, by first | rfl | assumption | omega⟩, yfz.of_fr (yfr.refl _ _)⟩)
theorem c_X8_unlike {d : Nat} {hp : xH} {kp cl od : Int} (h28 : xat hp 28 = some (.inr (8, [.ref 29, .ref 34, .ref 35, yi kp, .ref 40, yi cl, .ref 41, .ref 43, yi od, .ref 56, .ref 58]))) {z o : Nat} {S f g : Int → Int} {r t : Int} (hS : yS hp 29 z o S f g r t) (hz : 0 ≤ S 0 ∧ S 0 ≤ 20 ∧ 0 ≤ S 1 ∧ S 1 ≤ 20 ∧ 0 ≤ S 2 ∧ S 2 ≤ 20 ∧ 0 ≤ S 3 ∧ S 3 ≤ 50 ∧ 0 ≤ S 4 ∧ S 4 ≤ 3) (h0 : ∀ q, 0 ≤ q → q < S 0 → 0 ≤ S (7 + q) ∧ S (7 + q) ≤ 60) (h1 : ∀ q, 0 ≤ q → q < S 1 → 0 ≤ S (27 + q) ∧ S (27 + q) ≤ 60) {i j : Int} (hij : -2147483648 ≤ i ∧ i ≤ 2147483647 ∧ -2147483648 ≤ j ∧ j ≤ 2147483647) (hd : 5 ≤ d) : Cv d 69 [.ref 28, yi i, yi j] hp (yA (fun e z h => ((e = none ∧ (0 ≤ i ∧ i < S 0 ∧ 0 ≤ j ∧ j < S 1) ∧ z = unl S 0 i j) ∨ (e = some 0 ∧ (¬ (0 ≤ i ∧ i < S 0 ∧ 0 ≤ j ∧ j < S 1)))) ∧ yfz [] hp h)) := by
  have hk : xtab 69 = (xc_69, 3, 1, []) := rfl
  obtain ⟨d, rfl⟩ : ∃ e, d = e + 1 := ⟨d - 1, by omega⟩
  obtain ⟨hid, hs_, hz_, ho_, hf_, hg_, ef, eg⟩ := hS
  show Ev (d + 1) 69 0 [(0, .ref 28), (1, yi i), (2, yi j)] [] hp _
  refine E_run hk 1 (j' := 1) (lv' := [(0, .ref 28), (1, yi i), (2, yi j)]) (st' := [.ref 28]) (hp' := hp) rfl ?_
  refine E_get (v := .ref 29) hk rfl h28 rfl ?_
  refine E_get (v := .ref z) hk rfl hs_ rfl ?_
  refine E_run hk 1 (j' := 4) (lv' := [(0, .ref 28), (1, yi i), (2, yi j)]) (st' := [yi i, .ref z]) (hp' := hp) rfl ?_
  refine Y_callT hk rfl (as := [.ref z, yi i]) (rest := []) (v := none) rfl rfl (Nat.le_of_ble_eq_true rfl) rfl (Nat.le_of_ble_eq_true rfl) (c_X8_checkNote (x := i) (a := z) (p := (z + 1)) (f := f) (n := (S 0)) ⟨(s28 hid).2.1, (s28 hid).2.2.1, (sne hid).2.2.2.2.1⟩ hz_ hf_ (by omega) (by omega) (hd := by omega)) (fun g1 => ?_) rfl (fun g1 => ?_)
  rotate_left
  · exact Or.inr ⟨0, rfl, by first | exact Or.inr (⟨rfl, by first | assumption | omega⟩), yfz.frb (yfr.refl _ _)⟩
  refine E_run hk 1 (j' := 6) (lv' := [(0, .ref 28), (1, yi i), (2, yi j)]) (st' := [.ref 28]) (hp' := hp) rfl ?_
  refine E_get (v := .ref 29) hk rfl h28 rfl ?_
  refine E_get (v := .ref o) hk rfl hs_ rfl ?_
  refine E_run hk 1 (j' := 9) (lv' := [(0, .ref 28), (1, yi i), (2, yi j)]) (st' := [yi j, .ref o]) (hp' := hp) rfl ?_
  refine Y_callT hk rfl (as := [.ref o, yi j]) (rest := []) (v := none) rfl rfl (Nat.le_of_ble_eq_true rfl) rfl (Nat.le_of_ble_eq_true rfl) (c_X8_checkNote (x := j) (a := o) (p := (o + 1)) (f := g) (n := (S 1)) ⟨(s28 hid).2.2.2.1, (s28 hid).2.2.2.2, (sne hid).2.2.2.2.2.2.2.2.2⟩ ho_ hg_ (by omega) (by omega) (hd := by omega)) (fun g2 => ?_) rfl (fun g2 => ?_)
  rotate_left
  · exact Or.inr ⟨0, rfl, by first | exact Or.inr (⟨rfl, by first | assumption | omega⟩), yfz.frb (yfr.refl _ _)⟩
  refine E_run hk 1 (j' := 11) (lv' := [(0, .ref 28), (1, yi i), (2, yi j)]) (st' := [.ref 28]) (hp' := hp) rfl ?_
  refine E_get (v := .ref 29) hk rfl h28 rfl ?_
  refine E_run hk 2 (j' := 14) (lv' := [(0, .ref 28), (1, yi i), (2, yi j)]) (st' := [yi j, yi i, .ref 29]) (hp' := hp) rfl ?_
  refine Y_callP hk rfl (as := [.ref 29, yi i, yi j]) (rest := []) (v := some (yi (unl S 0 i j))) rfl rfl (Nat.le_of_ble_eq_true rfl) (rcv0 hs_) (Nat.le_of_ble_eq_true rfl) (c_X5_difference ⟨hid, hs_, hz_, ho_, hf_, hg_, ef, eg⟩ hz h0 h1 (i := i) (j := j) (by omega) (hd := by omega)) ?_
  exact E_ret hk rfl rfl (Or.inl ⟨(unl S 0 i j), rfl, Or.inl ⟨rfl, by first | trivial | assumption | omega, by first | rfl | assumption | omega⟩, yfz.of_fr (yfr.refl _ _)⟩)
theorem c_X8_isMatched {d : Nat} {hp : xH} {kp cl od : Int} (h28 : xat hp 28 = some (.inr (8, [.ref 29, .ref 34, .ref 35, yi kp, .ref 40, yi cl, .ref 41, .ref 43, yi od, .ref 56, .ref 58]))) {z o : Nat} {S f g : Int → Int} {r t : Int} (hS : yS hp 29 z o S f g r t) (hl : 0 ≤ S 0 ∧ S 0 ≤ 20 ∧ 0 ≤ S 1 ∧ S 1 ≤ 20) (hb2 : 0 ≤ S 2 ∧ S 2 ≤ 20) (hd : 2 ≤ d) : Cv d 70 [.ref 28] hp (yA (fun e z h => ((e = none ∧ (True) ∧ z = b2 (0 < S 0 ∧ 0 < S 1 ∧ -S 2 ≤ S 0 - S 1 ∧ S 0 - S 1 ≤ S 2))) ∧ yfz [] hp h)) := by
  have hk : xtab 70 = (xc_70, 1, 2, []) := rfl
  obtain ⟨d, rfl⟩ : ∃ e, d = e + 1 := ⟨d - 1, by omega⟩
  obtain ⟨hid, hs_, hz_, ho_, hf_, hg_, ef, eg⟩ := hS
  show Ev (d + 1) 70 0 [(0, .ref 28)] [] hp _
  refine E_run hk 1 (j' := 1) (lv' := [(0, .ref 28)]) (st' := [.ref 28]) (hp' := hp) rfl ?_
  refine E_get (v := .ref 29) hk rfl h28 rfl ?_
  refine Y_callP hk rfl (as := [.ref 29]) (rest := []) (v := some (yi (b2 (0 < S 0 ∧ 0 < S 1 ∧ -S 2 ≤ S 0 - S 1 ∧ S 0 - S 1 ≤ S 2)))) rfl rfl (Nat.le_of_ble_eq_true rfl) (rcv0 hs_) (Nat.le_of_ble_eq_true rfl) (c_X5_hasMatch ⟨hid, hs_, hz_, ho_, hf_, hg_, ef, eg⟩ (by omega) (by omega) (hd := by omega)) ?_
  exact E_ret hk rfl xret_b2 (Or.inl ⟨(b2 (0 < S 0 ∧ 0 < S 1 ∧ -S 2 ≤ S 0 - S 1 ∧ S 0 - S 1 ≤ S 2)), rfl, ⟨rfl, by first | trivial | assumption | omega, by first | rfl | assumption | omega⟩, yfz.of_fr (yfr.refl _ _)⟩)
theorem c_X8_hasStopped {d : Nat} {hp : xH} {kp cl od : Int} (h28 : xat hp 28 = some (.inr (8, [.ref 29, .ref 34, .ref 35, yi kp, .ref 40, yi cl, .ref 41, .ref 43, yi od, .ref 56, .ref 58]))) {z o : Nat} {S f g : Int → Int} {r t : Int} (hS : yS hp 29 z o S f g r t) (hst : ystp S r t) : Cv d 59 [.ref 28] hp (yA (fun e z h => ((e = none ∧ (True) ∧ z = b2 (¬ S 5 = -1))) ∧ yfz [] hp h)) := by
  have hk : xtab 59 = (xc_59, 1, 2, []) := rfl
  obtain ⟨hid, hs_, hz_, ho_, hf_, hg_, ef, eg⟩ := hS
  unfold ystp at hst
  show Ev d 59 0 [(0, .ref 28)] [] hp _
  refine E_run hk 1 (j' := 1) (lv' := [(0, .ref 28)]) (st' := [.ref 28]) (hp' := hp) rfl ?_
  refine E_get (v := .ref 29) hk rfl h28 rfl ?_
  refine E_get (v := yi r) hk rfl hs_ rfl ?_
  refine Y_if_eq (a := r) (by omega) hk rfl (fun g1 => ?_) (fun g1 => ?_)
  ·
    refine E_run hk 1 (j' := 7) (lv' := [(0, .ref 28)]) (st' := [yi 0]) (hp' := hp) rfl ?_
    exact E_ret hk rfl rfl (Or.inl ⟨0, rfl, ⟨rfl, by first | trivial | assumption | omega, by first | exact (b2_t (by omega)).symm | exact (b2_f (by omega)).symm⟩, yfz.of_fr (yfr.refl _ _)⟩)
  ·
    refine E_run hk 2 (j' := 7) (lv' := [(0, .ref 28)]) (st' := [yi 1]) (hp' := hp) rfl ?_
    exact E_ret hk rfl rfl (Or.inl ⟨1, rfl, ⟨rfl, by first | trivial | assumption | omega, by first | exact (b2_t (by omega)).symm | exact (b2_f (by omega)).symm⟩, yfz.of_fr (yfr.refl _ _)⟩)
theorem c_X8_stoppedPart {d : Nat} {hp : xH} {kp cl od : Int} (h28 : xat hp 28 = some (.inr (8, [.ref 29, .ref 34, .ref 35, yi kp, .ref 40, yi cl, .ref 41, .ref 43, yi od, .ref 56, .ref 58]))) {z o : Nat} {S f g : Int → Int} {r t : Int} (hS : yS hp 29 z o S f g r t) (hst : ystp S r t) (hd : 5 ≤ d) : Cv d 60 [.ref 28] hp (yA (fun e z h => ((e = none ∧ (¬ S 5 = -1) ∧ z = S 5) ∨ (e = some 2 ∧ (S 5 = -1))) ∧ yfz [] hp h)) := by
  have hk : xtab 60 = (xc_60, 1, 1, []) := rfl
  obtain ⟨d, rfl⟩ : ∃ e, d = e + 1 := ⟨d - 1, by omega⟩
  obtain ⟨hid, hs_, hz_, ho_, hf_, hg_, ef, eg⟩ := hS
  unfold ystp at hst
  show Ev (d + 1) 60 0 [(0, .ref 28)] [] hp _
  refine E_run hk 1 (j' := 1) (lv' := [(0, .ref 28)]) (st' := [.ref 28]) (hp' := hp) rfl ?_
  refine Y_callT hk rfl (as := [.ref 28]) (rest := []) (v := none) rfl rfl (Nat.le_of_ble_eq_true rfl) (rcv0 h28) (Nat.le_of_ble_eq_true rfl) (c_X8_checkStopped h28 ⟨hid, hs_, hz_, ho_, hf_, hg_, ef, eg⟩ (by omega) (hd := by omega)) (fun g1 => ?_) rfl (fun g1 => ?_)
  rotate_left
  · exact Or.inr ⟨2, rfl, by first | exact Or.inr (⟨rfl, by first | assumption | omega⟩), yfz.frb (yfr.refl _ _)⟩
  refine E_run hk 1 (j' := 3) (lv' := [(0, .ref 28)]) (st' := [.ref 28]) (hp' := hp) rfl ?_
  refine E_get (v := .ref 29) hk rfl h28 rfl ?_
  refine E_get (v := yi t) hk rfl hs_ rfl ?_
  exact E_ret hk rfl rfl (Or.inl ⟨t, rfl, Or.inl ⟨rfl, by first | trivial | assumption | omega, by first | rfl | assumption | omega⟩, yfz.of_fr (yfr.refl _ _)⟩)
theorem c_X8_whyStopped {d : Nat} {hp : xH} {kp cl od : Int} (h28 : xat hp 28 = some (.inr (8, [.ref 29, .ref 34, .ref 35, yi kp, .ref 40, yi cl, .ref 41, .ref 43, yi od, .ref 56, .ref 58]))) {z o : Nat} {S f g : Int → Int} {r t : Int} (hS : yS hp 29 z o S f g r t) (hst : ystp S r t) (hd : 5 ≤ d) : Cv d 61 [.ref 28] hp (yA (fun e z h => ((e = none ∧ (¬ S 5 = -1) ∧ z = S 6) ∨ (e = some 2 ∧ (S 5 = -1))) ∧ yfz [] hp h)) := by
  have hk : xtab 61 = (xc_61, 1, 1, []) := rfl
  obtain ⟨d, rfl⟩ : ∃ e, d = e + 1 := ⟨d - 1, by omega⟩
  obtain ⟨hid, hs_, hz_, ho_, hf_, hg_, ef, eg⟩ := hS
  unfold ystp at hst
  show Ev (d + 1) 61 0 [(0, .ref 28)] [] hp _
  refine E_run hk 1 (j' := 1) (lv' := [(0, .ref 28)]) (st' := [.ref 28]) (hp' := hp) rfl ?_
  refine Y_callT hk rfl (as := [.ref 28]) (rest := []) (v := none) rfl rfl (Nat.le_of_ble_eq_true rfl) (rcv0 h28) (Nat.le_of_ble_eq_true rfl) (c_X8_checkStopped h28 ⟨hid, hs_, hz_, ho_, hf_, hg_, ef, eg⟩ (by omega) (hd := by omega)) (fun g1 => ?_) rfl (fun g1 => ?_)
  rotate_left
  · exact Or.inr ⟨2, rfl, by first | exact Or.inr (⟨rfl, by first | assumption | omega⟩), yfz.frb (yfr.refl _ _)⟩
  refine E_run hk 1 (j' := 3) (lv' := [(0, .ref 28)]) (st' := [.ref 28]) (hp' := hp) rfl ?_
  refine E_get (v := .ref 29) hk rfl h28 rfl ?_
  refine E_get (v := yi r) hk rfl hs_ rfl ?_
  exact E_ret hk rfl rfl (Or.inl ⟨r, rfl, Or.inl ⟨rfl, by first | trivial | assumption | omega, by first | rfl | assumption | omega⟩, yfz.of_fr (yfr.refl _ _)⟩)
theorem c_X8_savedStates {d : Nat} {hp : xH} {kp cl od : Int} (h28 : xat hp 28 = some (.inr (8, [.ref 29, .ref 34, .ref 35, yi kp, .ref 40, yi cl, .ref 41, .ref 43, yi od, .ref 56, .ref 58]))) {z o : Nat} {S f g : Int → Int} {r t : Int} (hS : yS hp 29 z o S f g r t) {mc n : Int} {e0 : Nat} (h34 : xat hp 34 = some (.inr (0, [yi mc, .ref e0, yi n]))) (hd : 1 ≤ d) : Cv d 63 [.ref 28] hp (yA (fun e z h => ((e = none ∧ (True) ∧ z = n)) ∧ yfz [] hp h)) := by
  have hk : xtab 63 = (xc_63, 1, 1, []) := rfl
  obtain ⟨d, rfl⟩ : ∃ e, d = e + 1 := ⟨d - 1, by omega⟩
  obtain ⟨hid, hs_, hz_, ho_, hf_, hg_, ef, eg⟩ := hS
  show Ev (d + 1) 63 0 [(0, .ref 28)] [] hp _
  refine E_run hk 1 (j' := 1) (lv' := [(0, .ref 28)]) (st' := [.ref 28]) (hp' := hp) rfl ?_
  refine E_get (v := .ref 34) hk rfl h28 rfl ?_
  refine Y_callP hk rfl (as := [.ref 34]) (rest := []) (v := some (yi n)) rfl rfl (Nat.le_of_ble_eq_true rfl) (rcv0 h34) (Nat.le_of_ble_eq_true rfl) (c_Jx4a65c_size_8abf5 h34) ?_
  exact E_ret hk rfl rfl (Or.inl ⟨n, rfl, ⟨rfl, by first | trivial | assumption | omega, by first | rfl | assumption | omega⟩, yfz.of_fr (yfr.refl _ _)⟩)
