/-! The class: calls that change its state. -/
def kNow : List Nat := [28, 34, 29, 30, 31, 32, 33, 63]
theorem kNow_mem {z o : Nat} (h : stid 29 z o) : ∀ i, i = 29 ∨ i = z ∨ i = z + 1 ∨ i = o ∨ i = o + 1 → i ∈ kNow ∧ i < 63 ∧ i ≠ 34 := by
  intro i hi
  unfold stid at h
  unfold kNow
  simp only [List.mem_cons, List.not_mem_nil, or_false]
  omega
theorem kNow_tun {z o : Nat} (h : stid 29 z o) (x : Int) : ∀ i, i = tun x z o ∨ i = tun x z o + 1 → i ∈ kNow ∧ i < 63 ∧ i ≠ 34 := by
  intro i hi
  have w := tun_or x z o
  exact kNow_mem h i (by omega)
theorem yfz.fr2 {K K2 : List Nat} {h h1 h2 : xH} (a : yfz K h h1) (b : yfr K2 h1 h2) (hK : ∀ i ∈ K2, i ∈ K) : yfz K h h2 := by
  obtain ⟨a1, a2, a3, a4, a5⟩ := a
  obtain ⟨b1, b2, b3⟩ := b
  exact ⟨by omega, by omega, by omega, fun i i1 i2 => (b3 i (fun q => i2 (hK i q))).trans (a4 i i1 i2), fun i0 i i1 i2 i3 => (b3 i (fun q => i3 (hK i q))).trans (a5 i0 i i1 i2 i3)⟩
theorem yS.atz {K : List Nat} {h h1 : xH} {z o : Nat} {S f g : Int → Int} {r t : Int} (H : yS h 29 z o S f g r t) (a : yfz K h h1) (hK : ∀ i ∈ K, i < 29 ∨ 34 ≤ i) : yS h1 29 z o S f g r t := H.at2 (fun i i1 i2 => a.2.2.2.1 i (by omega) (fun q => by have := hK i q; omega))
theorem yS_set {h0 h : xH} {s z o : Nat} {S f g : Int → Int} {r t : Int} (H : yS h0 s z o S f g r t) {x : Int} (hx : 0 ≤ x ∧ x ≤ 1) {l : Int} {F : Int → Int} (e1 : xat h (tun x z o) = some (.inr (7, [.ref (tun x z o + 1), yi l]))) (e2 : xat h (tun x z o + 1) = some (yI 20 F)) {K : List Nat} (fr : yfr K h0 h) (hK : ∀ i ∈ K, i = tun x z o ∨ i = tun x z o + 1) {S2 : Int → Int} (s1 : S2 (0 + x) = l) (s2 : ∀ q, 0 ≤ q → q < l → F q = S2 (7 + 20 * x + q)) (s3 : ∀ q, 2 ≤ q → q ≤ 4 → S2 q = S q) (s4 : S2 (1 - x) = S (1 - x)) (s5 : ∀ q, 0 ≤ q → q < S (1 - x) → S2 (27 - 20 * x + q) = S (27 - 20 * x + q)) : ∃ f2 g2, yS h s z o S2 f2 g2 r t := by
  obtain ⟨hid, a1, a2, a3, a4, a5, ef, eg⟩ := H
  have n := sne hid
  rcases (by omega : x = 0 ∨ x = 1) with rfl | rfl
  · have nk : ∀ i, i ≠ z → i ≠ z + 1 → i ∉ K := fun i i1 i2 q => by
      rcases hK i q with k | k
      · exact i1 k
      · exact i2 k
    refine ⟨F, g, hid, ?_, ?_, ?_, e2, fr.at (nk _ (Ne.symm n.2.2.2.2.2.2.1) (Ne.symm n.2.2.2.2.2.2.2.2.1)) a5, fun q q1 q2 => ?_, fun q q1 q2 => ?_⟩
    · rw [s3 2 (by decide) (by decide), s3 3 (by decide) (by decide), s3 4 (by decide) (by decide)]
      exact fr.at (nk _ n.1 n.2.1) a1
    · rw [show S2 0 = l from s1]
      exact e1
    · rw [show S2 1 = S 1 from s4]
      exact fr.at (nk _ (Ne.symm n.2.2.2.2.2.1) (Ne.symm n.2.2.2.2.2.2.2.1)) a3
    · exact s2 q q1 (by rw [← s1]; exact q2)
    · have q3 : q < S 1 := by rw [← show S2 1 = S 1 from s4]; exact q2
      exact (eg q q1 q3).trans (s5 q q1 q3).symm
  · have nk : ∀ i, i ≠ o → i ≠ o + 1 → i ∉ K := fun i i1 i2 q => by
      rcases hK i q with k | k
      · exact i1 k
      · exact i2 k
    refine ⟨f, F, hid, ?_, ?_, ?_, fr.at (nk _ n.2.2.2.2.2.2.2.1 n.2.2.2.2.2.2.2.2.1) a4, e2, fun q q1 q2 => ?_, fun q q1 q2 => ?_⟩
    · rw [s3 2 (by decide) (by decide), s3 3 (by decide) (by decide), s3 4 (by decide) (by decide)]
      exact fr.at (nk _ n.2.2.1 n.2.2.2.1) a1
    · rw [show S2 0 = S 0 from s4]
      exact fr.at (nk _ n.2.2.2.2.2.1 n.2.2.2.2.2.2.1) a2
    · rw [show S2 1 = l from s1]
      exact e1
    · have q3 : q < S 0 := by rw [← show S2 0 = S 0 from s4]; exact q2
      exact (ef q q1 q3).trans (s5 q q1 q3).symm
    · exact s2 q q1 (by rw [← s1]; exact q2)
theorem c_X8_addNote {d : Nat} {hp : xH} {kp cl od : Int} (h28 : xat hp 28 = some (.inr (8, [.ref 29, .ref 34, .ref 35, yi kp, .ref 40, yi cl, .ref 41, .ref 43, yi od, .ref 56, .ref 58]))) {z o : Nat} {S f g : Int → Int} {r t : Int} (hS : yS hp 29 z o S f g r t) (hN : 63 ≤ hp.1) (h26 : xat hp 26 = some (yO 0 (fun _ => .null))) {n : Int} {T : Int → Int} (hv : ySv hp n T) (hn6 : 0 ≤ n ∧ n ≤ 6) (hok : okS S) (hst : ystp S r t) {x y : Int} (hx : -2147483648 ≤ x ∧ x ≤ 2147483647 ∧ -2147483648 ≤ y ∧ y ≤ 2147483647) (hd : 6 ≤ d) : Cv d 50 [.ref 28, yi x, yi y] hp (yA (fun e y9 h => ((e = none ∧ (0 ≤ x ∧ x ≤ 1 ∧ 0 ≤ y ∧ y ≤ 60 ∧ S (0 + x) < 20) ∧ y9 = S (0 + x) + 1 ∧ xat h 28 = some (.inr (8, [.ref 29, .ref 34, .ref 35, yi kp, .ref 40, yi cl, .ref 41, .ref 43, yi 1, .ref 56, .ref 58])) ∧ (∀ U, recd n S T U → ySv h (if n = 6 then 6 else n + 1) U) ∧ ∀ S2 : Int → Int, (S2 (0 + x) = S (0 + x) + 1 ∧ S2 (7 + 20 * x + S (0 + x)) = y ∧ ∀ q, q ≠ 0 + x → q ≠ 7 + 20 * x + S (0 + x) → S2 q = S q) → ∃ f2 g2, yS h 29 z o S2 f2 g2 r t) ∨ (e = some 0 ∧ (¬ (0 ≤ x ∧ x ≤ 1)) ∧ h = xbare hp 6) ∨ (e = some 1 ∧ (0 ≤ x ∧ x ≤ 1 ∧ ¬ (0 ≤ y ∧ y ≤ 60)) ∧ h = xbare hp 6) ∨ (e = some 2 ∧ (0 ≤ x ∧ x ≤ 1 ∧ 0 ≤ y ∧ y ≤ 60 ∧ S (0 + x) = 20) ∧ h = xbare hp 6)) ∧ yfz kNow hp h)) := by
  have hk : xtab 50 = (xc_50, 4, 1, []) := rfl
  obtain ⟨d, rfl⟩ : ∃ e, d = e + 1 := ⟨d - 1, by omega⟩
  have hS0 := hS
  have hok2 := hok
  obtain ⟨hz, h0, h1, h5⟩ := hok2
  obtain ⟨hid, hs_, hz_, ho_, hf_, hg_, ef, eg⟩ := hS
  have w0 : 0 ≤ x → x ≤ 1 → 0 ≤ S (0 + x) ∧ S (0 + x) ≤ 20 := fun a b => by rcases (by omega : x = 0 ∨ x = 1) with e | e <;> rw [e] <;> first | exact ⟨hz.1, hz.2.1⟩ | exact ⟨hz.2.2.1, hz.2.2.2.1⟩
  show Ev (d + 1) 50 0 [(0, .ref 28), (1, yi x), (2, yi y)] [] hp _
  refine E_run hk 2 (j' := 2) (lv' := [(0, .ref 28), (1, yi x), (2, yi y)]) (st' := [yi x, .ref 28]) (hp' := hp) rfl ?_
  refine Y_callT hk rfl (as := [.ref 28, yi x]) (rest := []) (v := some (.ref (tun x z o))) rfl rfl (Nat.le_of_ble_eq_true rfl) (rcv0 h28) (Nat.le_of_ble_eq_true rfl) (c_X8_tuneAt h28 ⟨hid, hs_, hz_, ho_, hf_, hg_, ef, eg⟩ (x := x) (by omega) (hd := by omega)) (fun g2 => ?_) rfl (fun g2 => ?_)
  rotate_left
  · exact Or.inr ⟨0, rfl, by first | exact Or.inr (Or.inl ⟨rfl, by first | assumption | omega, rfl⟩), (yfz.bare hp).mono (by simp)⟩
  have u1 := yS.tun (x := x) (show yS hp 29 z o S f g _ _ from ⟨hid, hs_, hz_, ho_, hf_, hg_, ef, eg⟩) (by omega)
  have w1 := w0 (by omega) (by omega)
  refine E_run hk 4 (j' := 7) (lv' := [(3, .ref (tun x z o)), (0, .ref 28), (1, yi x), (2, yi y)]) (st' := [yi 60, yi 0, yi y]) (hp' := hp) rfl ?_
  refine Y_callT hk rfl (as := [yi y, yi 0, yi 60]) (rest := []) (v := none) rfl rfl (Nat.le_of_ble_eq_true rfl) rfl (Nat.le_of_ble_eq_true rfl) (c_X8_checkRange (v := y) (l := 0) (m := 60) (by omega) (hd := by omega)) (fun g3 => ?_) rfl (fun g3 => ?_)
  rotate_left
  · exact Or.inr ⟨1, rfl, by first | exact Or.inr (Or.inr (Or.inl ⟨rfl, by first | assumption | omega, rfl⟩)), (yfz.bare hp).mono (by simp)⟩
  refine E_run hk 1 (j' := 9) (lv' := [(3, .ref (tun x z o)), (0, .ref 28), (1, yi x), (2, yi y)]) (st' := [.ref (tun x z o)]) (hp' := hp) rfl ?_
  refine E_get (v := yi (S (0 + x))) hk rfl u1.1 rfl ?_
  refine E_run hk 1 (j' := 11) (lv' := [(3, .ref (tun x z o)), (0, .ref 28), (1, yi x), (2, yi y)]) (st' := [yi 20, yi (S (0 + x))]) (hp' := hp) rfl ?_
  refine Y_ic_lt (a := (S (0 + x))) (b := 20) (by omega) hk rfl (fun g4 => ?_) (fun g4 => ?_)
  ·
    refine E_run hk 1 (j' := 18) (lv' := [(3, .ref (tun x z o)), (0, .ref 28), (1, yi x), (2, yi y)]) (st' := [.ref 28]) (hp' := hp) rfl ?_
    refine Y_call hk rfl (as := [.ref 28]) (rest := []) (v := none) rfl rfl (Nat.le_of_ble_eq_true rfl) (rcv0 h28) (Nat.le_of_ble_eq_true rfl) (c_X8_saveState h28 ⟨hid, hs_, hz_, ho_, hf_, hg_, ef, eg⟩ hN h26 hv hn6 hok hst (hd := by omega)) (fun H5 r6 => ?_)
    obtain ⟨e28_H5, sv_H5, f_H5⟩ := r6
    refine E_run hk 2 (j' := 21) (lv' := [(3, .ref (tun x z o)), (0, .ref 28), (1, yi x), (2, yi y)]) (st' := [yi y, .ref (tun x z o)]) (hp' := H5) rfl ?_
    refine Y_call hk rfl (as := [.ref (tun x z o), yi y]) (rest := []) (v := none) rfl rfl (Nat.le_of_ble_eq_true rfl) (rcv0 (f_H5.at (by simp only [List.mem_cons, List.not_mem_nil, or_false, not_or]; exact ⟨(Ne.symm (tok hid x (by unfold apart; decide)).1), (Ne.symm (tok hid x (by unfold apart; decide)).1), (Ne.symm (tok hid x (by unfold apart; decide)).1)⟩) (t77 hid x).1 u1.1)) (Nat.le_of_ble_eq_true rfl) (c_X6_add (z := y) (a := (tun x z o)) (p := ((tun x z o) + 1)) (f := (tuf x f g)) (n := (S (0 + x))) ⟨(tid hid x).1, (tid hid x).2.1, (tid hid x).2.2.1⟩ (f_H5.at (by simp only [List.mem_cons, List.not_mem_nil, or_false, not_or]; exact ⟨(Ne.symm (tok hid x (by unfold apart; decide)).1), (Ne.symm (tok hid x (by unfold apart; decide)).1), (Ne.symm (tok hid x (by unfold apart; decide)).1)⟩) (t77 hid x).1 u1.1) (f_H5.at (by simp only [List.mem_cons, List.not_mem_nil, or_false, not_or]; exact ⟨(Ne.symm (tok hid x (by unfold apart; decide)).2), (Ne.symm (tok hid x (by unfold apart; decide)).2), (Ne.symm (tok hid x (by unfold apart; decide)).2)⟩) (t77 hid x).2 u1.2.1) (by omega) (hd := by omega)) (fun H7 r8 => ?_)
    obtain ⟨l_H7, e_H7, f_H7⟩ := r8
    refine E_run hk 1 (j' := 23) (lv' := [(3, .ref (tun x z o)), (0, .ref 28), (1, yi x), (2, yi y)]) (st' := [.ref (tun x z o)]) (hp' := H7) rfl ?_
    refine E_get (v := yi ((S (0 + x)) + 1)) hk rfl l_H7 rfl ?_
    exact E_ret hk rfl rfl (Or.inl ⟨((S (0 + x)) + 1), rfl, Or.inl ⟨rfl, by omega, rfl, (f_H7.at (by simp only [List.mem_cons, List.not_mem_nil, or_false, not_or]; exact ⟨(tok hid x (by unfold apart; decide)).1, (tok hid x (by unfold apart; decide)).2⟩) e28_H5), fun U hU => (sv_H5 U hU).fr (Nat.le_trans hN f_H5.1) (show yfr [(tun x z o), ((tun x z o) + 1)] H5 H7 from f_H7) (fun i hi => ((kNow_tun hid x) i (by simpa using hi)).2), fun S2 hs2 => yS_set (hS0.atz f_H5 (by decide)) (x := x) (by omega) l_H7 e_H7 (show yfr [(tun x z o), ((tun x z o) + 1)] H5 H7 from f_H7) (fun i hi => by simpa using hi) (hs2.1) (fun q q1 q2 => by by_cases e9 : q = S (0 + x); rw [e9, up_self]; exact hs2.2.1.symm; rw [up_ne _ _ e9, hs2.2.2 _ (by omega) (by omega)]; exact u1.2.2 q q1 (by omega)) (fun q q1 q2 => hs2.2.2 q (by omega) (by omega)) (hs2.2.2 _ (by omega) (by omega)) (fun q q1 q2 => hs2.2.2 _ (by omega) (by have w2 : S (1 - x) ≤ 20 := (by rcases (by omega : x = 0 ∨ x = 1) with e | e <;> rw [e] <;> first | exact hz.2.1 | exact hz.2.2.2.1); omega))⟩, (f_H5.mono (by decide)).fr2 (show yfr [(tun x z o), ((tun x z o) + 1)] H5 H7 from f_H7) (fun i hi => ((kNow_tun hid x) i (by simpa using hi)).1)⟩)
  ·
    exact E_throw (by omega) hk rfl (Nat.le_of_ble_eq_true rfl) (Or.inr ⟨2, rfl, by first | exact Or.inr (Or.inr (Or.inr (⟨rfl, by first | assumption | omega, rfl⟩))), (yfz.bare hp).mono (by simp)⟩)
theorem c_X8_setNote {d : Nat} {hp : xH} {kp cl od : Int} (h28 : xat hp 28 = some (.inr (8, [.ref 29, .ref 34, .ref 35, yi kp, .ref 40, yi cl, .ref 41, .ref 43, yi od, .ref 56, .ref 58]))) {z o : Nat} {S f g : Int → Int} {r t : Int} (hS : yS hp 29 z o S f g r t) (hN : 63 ≤ hp.1) (h26 : xat hp 26 = some (yO 0 (fun _ => .null))) {n : Int} {T : Int → Int} (hv : ySv hp n T) (hn6 : 0 ≤ n ∧ n ≤ 6) (hok : okS S) (hst : ystp S r t) {x k y : Int} (hx : -2147483648 ≤ x ∧ x ≤ 2147483647 ∧ -2147483648 ≤ k ∧ k ≤ 2147483647 ∧ -2147483648 ≤ y ∧ y ≤ 2147483647) (hd : 6 ≤ d) : Cv d 51 [.ref 28, yi x, yi k, yi y] hp (yA (fun e y9 h => ((e = none ∧ (0 ≤ x ∧ x ≤ 1 ∧ 0 ≤ k ∧ k < S (0 + x) ∧ 0 ≤ y ∧ y ≤ 60) ∧ y9 = S (7 + 20 * x + k) ∧ xat h 28 = some (.inr (8, [.ref 29, .ref 34, .ref 35, yi kp, .ref 40, yi cl, .ref 41, .ref 43, yi 1, .ref 56, .ref 58])) ∧ (∀ U, recd n S T U → ySv h (if n = 6 then 6 else n + 1) U) ∧ ∀ S2 : Int → Int, (S2 = up S (7 + 20 * x + k) y) → ∃ f2 g2, yS h 29 z o S2 f2 g2 r t) ∨ (e = some 0 ∧ (¬ (0 ≤ x ∧ x ≤ 1 ∧ 0 ≤ k ∧ k < S (0 + x))) ∧ h = xbare hp 6) ∨ (e = some 1 ∧ (0 ≤ x ∧ x ≤ 1 ∧ 0 ≤ k ∧ k < S (0 + x) ∧ ¬ (0 ≤ y ∧ y ≤ 60)) ∧ h = xbare hp 6)) ∧ yfz kNow hp h)) := by
  have hk : xtab 51 = (xc_51, 6, 1, []) := rfl
  obtain ⟨d, rfl⟩ : ∃ e, d = e + 1 := ⟨d - 1, by omega⟩
  have hS0 := hS
  have hok2 := hok
  obtain ⟨hz, h0, h1, h5⟩ := hok2
  obtain ⟨hid, hs_, hz_, ho_, hf_, hg_, ef, eg⟩ := hS
  have w0 : 0 ≤ x → x ≤ 1 → 0 ≤ S (0 + x) ∧ S (0 + x) ≤ 20 := fun a b => by rcases (by omega : x = 0 ∨ x = 1) with e | e <;> rw [e] <;> first | exact ⟨hz.1, hz.2.1⟩ | exact ⟨hz.2.2.1, hz.2.2.2.1⟩
  show Ev (d + 1) 51 0 [(0, .ref 28), (1, yi x), (2, yi k), (3, yi y)] [] hp _
  refine E_run hk 2 (j' := 2) (lv' := [(0, .ref 28), (1, yi x), (2, yi k), (3, yi y)]) (st' := [yi x, .ref 28]) (hp' := hp) rfl ?_
  refine Y_callT hk rfl (as := [.ref 28, yi x]) (rest := []) (v := some (.ref (tun x z o))) rfl rfl (Nat.le_of_ble_eq_true rfl) (rcv0 h28) (Nat.le_of_ble_eq_true rfl) (c_X8_tuneAt h28 ⟨hid, hs_, hz_, ho_, hf_, hg_, ef, eg⟩ (x := x) (by omega) (hd := by omega)) (fun g2 => ?_) rfl (fun g2 => ?_)
  rotate_left
  · exact Or.inr ⟨0, rfl, by first | exact Or.inr (Or.inl ⟨rfl, by first | assumption | omega, rfl⟩), (yfz.bare hp).mono (by simp)⟩
  have u1 := yS.tun (x := x) (show yS hp 29 z o S f g _ _ from ⟨hid, hs_, hz_, ho_, hf_, hg_, ef, eg⟩) (by omega)
  have w1 := w0 (by omega) (by omega)
  refine E_run hk 3 (j' := 6) (lv' := [(4, .ref (tun x z o)), (0, .ref 28), (1, yi x), (2, yi k), (3, yi y)]) (st' := [yi k, .ref (tun x z o)]) (hp' := hp) rfl ?_
  refine Y_callT hk rfl (as := [.ref (tun x z o), yi k]) (rest := []) (v := none) rfl rfl (Nat.le_of_ble_eq_true rfl) rfl (Nat.le_of_ble_eq_true rfl) (c_X8_checkNote (x := k) (a := (tun x z o)) (p := ((tun x z o) + 1)) (f := (tuf x f g)) (n := (S (0 + x))) ⟨(tid hid x).1, (tid hid x).2.1, (tid hid x).2.2.1⟩ u1.1 u1.2.1 (by omega) (by omega) (hd := by omega)) (fun g3 => ?_) rfl (fun g3 => ?_)
  rotate_left
  · exact Or.inr ⟨0, rfl, by first | exact Or.inr (Or.inl ⟨rfl, by first | assumption | omega, rfl⟩), (yfz.bare hp).mono (by simp)⟩
  refine E_run hk 3 (j' := 10) (lv' := [(4, .ref (tun x z o)), (0, .ref 28), (1, yi x), (2, yi k), (3, yi y)]) (st' := [yi 60, yi 0, yi y]) (hp' := hp) rfl ?_
  refine Y_callT hk rfl (as := [yi y, yi 0, yi 60]) (rest := []) (v := none) rfl rfl (Nat.le_of_ble_eq_true rfl) rfl (Nat.le_of_ble_eq_true rfl) (c_X8_checkRange (v := y) (l := 0) (m := 60) (by omega) (hd := by omega)) (fun g4 => ?_) rfl (fun g4 => ?_)
  rotate_left
  · exact Or.inr ⟨1, rfl, by first | exact Or.inr (Or.inr (⟨rfl, by first | assumption | omega, rfl⟩)), (yfz.bare hp).mono (by simp)⟩
  refine E_run hk 1 (j' := 12) (lv' := [(4, .ref (tun x z o)), (0, .ref 28), (1, yi x), (2, yi k), (3, yi y)]) (st' := [.ref 28]) (hp' := hp) rfl ?_
  refine Y_call hk rfl (as := [.ref 28]) (rest := []) (v := none) rfl rfl (Nat.le_of_ble_eq_true rfl) (rcv0 h28) (Nat.le_of_ble_eq_true rfl) (c_X8_saveState h28 ⟨hid, hs_, hz_, ho_, hf_, hg_, ef, eg⟩ hN h26 hv hn6 hok hst (hd := by omega)) (fun H5 r6 => ?_)
  obtain ⟨e28_H5, sv_H5, f_H5⟩ := r6
  refine E_run hk 2 (j' := 15) (lv' := [(4, .ref (tun x z o)), (0, .ref 28), (1, yi x), (2, yi k), (3, yi y)]) (st' := [yi k, .ref (tun x z o)]) (hp' := H5) rfl ?_
  refine Y_callP hk rfl (as := [.ref (tun x z o), yi k]) (rest := []) (v := some (yi ((tuf x f g) k))) rfl rfl (Nat.le_of_ble_eq_true rfl) (rcv0 (f_H5.at (by simp only [List.mem_cons, List.not_mem_nil, or_false, not_or]; exact ⟨(Ne.symm (tok hid x (by unfold apart; decide)).1), (Ne.symm (tok hid x (by unfold apart; decide)).1), (Ne.symm (tok hid x (by unfold apart; decide)).1)⟩) (t77 hid x).1 u1.1)) (Nat.le_of_ble_eq_true rfl) (c_X6_pitchOf (x := k) (a := (tun x z o)) (p := ((tun x z o) + 1)) (f := (tuf x f g)) (n := (S (0 + x))) ⟨(tid hid x).1, (tid hid x).2.1, (tid hid x).2.2.1⟩ (f_H5.at (by simp only [List.mem_cons, List.not_mem_nil, or_false, not_or]; exact ⟨(Ne.symm (tok hid x (by unfold apart; decide)).1), (Ne.symm (tok hid x (by unfold apart; decide)).1), (Ne.symm (tok hid x (by unfold apart; decide)).1)⟩) (t77 hid x).1 u1.1) (f_H5.at (by simp only [List.mem_cons, List.not_mem_nil, or_false, not_or]; exact ⟨(Ne.symm (tok hid x (by unfold apart; decide)).2), (Ne.symm (tok hid x (by unfold apart; decide)).2), (Ne.symm (tok hid x (by unfold apart; decide)).2)⟩) (t77 hid x).2 u1.2.1) (by omega)) ?_
  refine E_run hk 4 (j' := 20) (lv' := [(5, yi ((tuf x f g) k)), (4, .ref (tun x z o)), (0, .ref 28), (1, yi x), (2, yi k), (3, yi y)]) (st' := [yi y, yi k, .ref (tun x z o)]) (hp' := H5) rfl ?_
  refine Y_call hk rfl (as := [.ref (tun x z o), yi k, yi y]) (rest := []) (v := none) rfl rfl (Nat.le_of_ble_eq_true rfl) (rcv0 (f_H5.at (by simp only [List.mem_cons, List.not_mem_nil, or_false, not_or]; exact ⟨(Ne.symm (tok hid x (by unfold apart; decide)).1), (Ne.symm (tok hid x (by unfold apart; decide)).1), (Ne.symm (tok hid x (by unfold apart; decide)).1)⟩) (t77 hid x).1 u1.1)) (Nat.le_of_ble_eq_true rfl) (c_X6_put (x := k) (z := y) (a := (tun x z o)) (p := ((tun x z o) + 1)) (f := (tuf x f g)) (n := (S (0 + x))) ⟨(tid hid x).1, (tid hid x).2.1, (tid hid x).2.2.1⟩ (f_H5.at (by simp only [List.mem_cons, List.not_mem_nil, or_false, not_or]; exact ⟨(Ne.symm (tok hid x (by unfold apart; decide)).1), (Ne.symm (tok hid x (by unfold apart; decide)).1), (Ne.symm (tok hid x (by unfold apart; decide)).1)⟩) (t77 hid x).1 u1.1) (f_H5.at (by simp only [List.mem_cons, List.not_mem_nil, or_false, not_or]; exact ⟨(Ne.symm (tok hid x (by unfold apart; decide)).2), (Ne.symm (tok hid x (by unfold apart; decide)).2), (Ne.symm (tok hid x (by unfold apart; decide)).2)⟩) (t77 hid x).2 u1.2.1) (by omega)) (fun H7 r8 => ?_)
  obtain ⟨e_H7, f_H7⟩ := r8
  refine E_run hk 1 (j' := 22) (lv' := [(5, yi ((tuf x f g) k)), (4, .ref (tun x z o)), (0, .ref 28), (1, yi x), (2, yi k), (3, yi y)]) (st' := [yi ((tuf x f g) k)]) (hp' := H7) rfl ?_
  exact E_ret hk rfl rfl (Or.inl ⟨((tuf x f g) k), rfl, Or.inl ⟨rfl, by omega, u1.2.2 k (by omega) (by omega), (f_H7.at (by simp only [List.mem_cons, List.not_mem_nil, or_false, not_or]; exact (tok hid x (by unfold apart; decide)).2) e28_H5), fun U hU => (sv_H5 U hU).fr (Nat.le_trans hN f_H5.1) (show yfr [(tun x z o), ((tun x z o) + 1)] H5 H7 from (f_H7.mono (by simp))) (fun i hi => ((kNow_tun hid x) i (by simpa using hi)).2), fun S2 hs2 => yS_set (hS0.atz f_H5 (by decide)) (x := x) (by omega) (f_H7.at (by simp only [List.mem_cons, List.not_mem_nil, or_false, not_or]; exact (tid hid x).2.2.1) (f_H5.at (by simp only [List.mem_cons, List.not_mem_nil, or_false, not_or]; exact ⟨(Ne.symm (tok hid x (by unfold apart; decide)).1), (Ne.symm (tok hid x (by unfold apart; decide)).1), (Ne.symm (tok hid x (by unfold apart; decide)).1)⟩) (t77 hid x).1 u1.1)) e_H7 (show yfr [(tun x z o), ((tun x z o) + 1)] H5 H7 from (f_H7.mono (by simp))) (fun i hi => by simpa using hi) (by rw [hs2, up_ne _ _ (by omega)]) (fun q q1 q2 => by rw [hs2]; by_cases e9 : q = k; rw [e9, up_self, up_self]; rw [up_ne _ _ e9, up_ne _ _ (by omega)]; exact u1.2.2 q q1 (by omega)) (fun q q1 q2 => by rw [hs2, up_ne _ _ (by omega)]) (by rw [hs2, up_ne _ _ (by omega)]) (fun q q1 q2 => by rw [hs2, up_ne _ _ (by have w2 : S (1 - x) ≤ 20 := (by rcases (by omega : x = 0 ∨ x = 1) with e | e <;> rw [e] <;> first | exact hz.2.1 | exact hz.2.2.2.1); omega)])⟩, (f_H5.mono (by decide)).fr2 (show yfr [(tun x z o), ((tun x z o) + 1)] H5 H7 from (f_H7.mono (by simp))) (fun i hi => ((kNow_tun hid x) i (by simpa using hi)).1)⟩)
theorem c_X8_dropNote {d : Nat} {hp : xH} {kp cl od : Int} (h28 : xat hp 28 = some (.inr (8, [.ref 29, .ref 34, .ref 35, yi kp, .ref 40, yi cl, .ref 41, .ref 43, yi od, .ref 56, .ref 58]))) {z o : Nat} {S f g : Int → Int} {r t : Int} (hS : yS hp 29 z o S f g r t) (hN : 63 ≤ hp.1) (h26 : xat hp 26 = some (yO 0 (fun _ => .null))) {n : Int} {T : Int → Int} (hv : ySv hp n T) (hn6 : 0 ≤ n ∧ n ≤ 6) (hok : okS S) (hst : ystp S r t) {x k : Int} (hx : -2147483648 ≤ x ∧ x ≤ 2147483647 ∧ -2147483648 ≤ k ∧ k ≤ 2147483647) (hd : 6 ≤ d) : Cv d 52 [.ref 28, yi x, yi k] hp (yA (fun e y9 h => ((e = none ∧ (0 ≤ x ∧ x ≤ 1 ∧ 0 ≤ k ∧ k < S (0 + x)) ∧ y9 = S (7 + 20 * x + k) ∧ xat h 28 = some (.inr (8, [.ref 29, .ref 34, .ref 35, yi kp, .ref 40, yi cl, .ref 41, .ref 43, yi 1, .ref 56, .ref 58])) ∧ (∀ U, recd n S T U → ySv h (if n = 6 then 6 else n + 1) U) ∧ ∀ S2 : Int → Int, (S2 (0 + x) = S (0 + x) - 1 ∧ (∀ q, k ≤ q → q < S (0 + x) - 1 → S2 (7 + 20 * x + q) = S (7 + 20 * x + (q + 1))) ∧ (∀ q, ¬ (7 + 20 * x + k ≤ q ∧ q < 7 + 20 * x + S (0 + x) - 1) → q ≠ 0 + x → S2 q = S q)) → ∃ f2 g2, yS h 29 z o S2 f2 g2 r t) ∨ (e = some 0 ∧ (¬ (0 ≤ x ∧ x ≤ 1 ∧ 0 ≤ k ∧ k < S (0 + x))) ∧ h = xbare hp 6)) ∧ yfz kNow hp h)) := by
  have hk : xtab 52 = (xc_52, 5, 1, []) := rfl
  obtain ⟨d, rfl⟩ : ∃ e, d = e + 1 := ⟨d - 1, by omega⟩
  have hS0 := hS
  have hok2 := hok
  obtain ⟨hz, h0, h1, h5⟩ := hok2
  obtain ⟨hid, hs_, hz_, ho_, hf_, hg_, ef, eg⟩ := hS
  have w0 : 0 ≤ x → x ≤ 1 → 0 ≤ S (0 + x) ∧ S (0 + x) ≤ 20 := fun a b => by rcases (by omega : x = 0 ∨ x = 1) with e | e <;> rw [e] <;> first | exact ⟨hz.1, hz.2.1⟩ | exact ⟨hz.2.2.1, hz.2.2.2.1⟩
  show Ev (d + 1) 52 0 [(0, .ref 28), (1, yi x), (2, yi k)] [] hp _
  refine E_run hk 2 (j' := 2) (lv' := [(0, .ref 28), (1, yi x), (2, yi k)]) (st' := [yi x, .ref 28]) (hp' := hp) rfl ?_
  refine Y_callT hk rfl (as := [.ref 28, yi x]) (rest := []) (v := some (.ref (tun x z o))) rfl rfl (Nat.le_of_ble_eq_true rfl) (rcv0 h28) (Nat.le_of_ble_eq_true rfl) (c_X8_tuneAt h28 ⟨hid, hs_, hz_, ho_, hf_, hg_, ef, eg⟩ (x := x) (by omega) (hd := by omega)) (fun g2 => ?_) rfl (fun g2 => ?_)
  rotate_left
  · exact Or.inr ⟨0, rfl, by first | exact Or.inr (⟨rfl, by first | assumption | omega, rfl⟩), (yfz.bare hp).mono (by simp)⟩
  have u1 := yS.tun (x := x) (show yS hp 29 z o S f g _ _ from ⟨hid, hs_, hz_, ho_, hf_, hg_, ef, eg⟩) (by omega)
  have w1 := w0 (by omega) (by omega)
  refine E_run hk 3 (j' := 6) (lv' := [(3, .ref (tun x z o)), (0, .ref 28), (1, yi x), (2, yi k)]) (st' := [yi k, .ref (tun x z o)]) (hp' := hp) rfl ?_
  refine Y_callT hk rfl (as := [.ref (tun x z o), yi k]) (rest := []) (v := none) rfl rfl (Nat.le_of_ble_eq_true rfl) rfl (Nat.le_of_ble_eq_true rfl) (c_X8_checkNote (x := k) (a := (tun x z o)) (p := ((tun x z o) + 1)) (f := (tuf x f g)) (n := (S (0 + x))) ⟨(tid hid x).1, (tid hid x).2.1, (tid hid x).2.2.1⟩ u1.1 u1.2.1 (by omega) (by omega) (hd := by omega)) (fun g3 => ?_) rfl (fun g3 => ?_)
  rotate_left
  · exact Or.inr ⟨0, rfl, by first | exact Or.inr (⟨rfl, by first | assumption | omega, rfl⟩), (yfz.bare hp).mono (by simp)⟩
  refine E_run hk 1 (j' := 8) (lv' := [(3, .ref (tun x z o)), (0, .ref 28), (1, yi x), (2, yi k)]) (st' := [.ref 28]) (hp' := hp) rfl ?_
  refine Y_call hk rfl (as := [.ref 28]) (rest := []) (v := none) rfl rfl (Nat.le_of_ble_eq_true rfl) (rcv0 h28) (Nat.le_of_ble_eq_true rfl) (c_X8_saveState h28 ⟨hid, hs_, hz_, ho_, hf_, hg_, ef, eg⟩ hN h26 hv hn6 hok hst (hd := by omega)) (fun H4 r5 => ?_)
  obtain ⟨e28_H4, sv_H4, f_H4⟩ := r5
  refine E_run hk 2 (j' := 11) (lv' := [(3, .ref (tun x z o)), (0, .ref 28), (1, yi x), (2, yi k)]) (st' := [yi k, .ref (tun x z o)]) (hp' := H4) rfl ?_
  refine Y_callP hk rfl (as := [.ref (tun x z o), yi k]) (rest := []) (v := some (yi ((tuf x f g) k))) rfl rfl (Nat.le_of_ble_eq_true rfl) (rcv0 (f_H4.at (by simp only [List.mem_cons, List.not_mem_nil, or_false, not_or]; exact ⟨(Ne.symm (tok hid x (by unfold apart; decide)).1), (Ne.symm (tok hid x (by unfold apart; decide)).1), (Ne.symm (tok hid x (by unfold apart; decide)).1)⟩) (t77 hid x).1 u1.1)) (Nat.le_of_ble_eq_true rfl) (c_X6_pitchOf (x := k) (a := (tun x z o)) (p := ((tun x z o) + 1)) (f := (tuf x f g)) (n := (S (0 + x))) ⟨(tid hid x).1, (tid hid x).2.1, (tid hid x).2.2.1⟩ (f_H4.at (by simp only [List.mem_cons, List.not_mem_nil, or_false, not_or]; exact ⟨(Ne.symm (tok hid x (by unfold apart; decide)).1), (Ne.symm (tok hid x (by unfold apart; decide)).1), (Ne.symm (tok hid x (by unfold apart; decide)).1)⟩) (t77 hid x).1 u1.1) (f_H4.at (by simp only [List.mem_cons, List.not_mem_nil, or_false, not_or]; exact ⟨(Ne.symm (tok hid x (by unfold apart; decide)).2), (Ne.symm (tok hid x (by unfold apart; decide)).2), (Ne.symm (tok hid x (by unfold apart; decide)).2)⟩) (t77 hid x).2 u1.2.1) (by omega)) ?_
  refine E_run hk 3 (j' := 15) (lv' := [(4, yi ((tuf x f g) k)), (3, .ref (tun x z o)), (0, .ref 28), (1, yi x), (2, yi k)]) (st' := [yi k, .ref (tun x z o)]) (hp' := H4) rfl ?_
  refine Y_call hk rfl (as := [.ref (tun x z o), yi k]) (rest := []) (v := none) rfl rfl (Nat.le_of_ble_eq_true rfl) (rcv0 (f_H4.at (by simp only [List.mem_cons, List.not_mem_nil, or_false, not_or]; exact ⟨(Ne.symm (tok hid x (by unfold apart; decide)).1), (Ne.symm (tok hid x (by unfold apart; decide)).1), (Ne.symm (tok hid x (by unfold apart; decide)).1)⟩) (t77 hid x).1 u1.1)) (Nat.le_of_ble_eq_true rfl) (c_X6_takeOut (x := k) (a := (tun x z o)) (p := ((tun x z o) + 1)) (f := (tuf x f g)) (n := (S (0 + x))) ⟨(tid hid x).1, (tid hid x).2.1, (tid hid x).2.2.1⟩ (f_H4.at (by simp only [List.mem_cons, List.not_mem_nil, or_false, not_or]; exact ⟨(Ne.symm (tok hid x (by unfold apart; decide)).1), (Ne.symm (tok hid x (by unfold apart; decide)).1), (Ne.symm (tok hid x (by unfold apart; decide)).1)⟩) (t77 hid x).1 u1.1) (f_H4.at (by simp only [List.mem_cons, List.not_mem_nil, or_false, not_or]; exact ⟨(Ne.symm (tok hid x (by unfold apart; decide)).2), (Ne.symm (tok hid x (by unfold apart; decide)).2), (Ne.symm (tok hid x (by unfold apart; decide)).2)⟩) (t77 hid x).2 u1.2.1) (by omega) (by omega) (hd := by omega)) (fun H6 r7 => ?_)
  obtain ⟨F_H6, l_H6, e_H6, a_H6, b_H6, f_H6⟩ := r7
  refine E_run hk 1 (j' := 17) (lv' := [(4, yi ((tuf x f g) k)), (3, .ref (tun x z o)), (0, .ref 28), (1, yi x), (2, yi k)]) (st' := [yi ((tuf x f g) k)]) (hp' := H6) rfl ?_
  exact E_ret hk rfl rfl (Or.inl ⟨((tuf x f g) k), rfl, Or.inl ⟨rfl, by omega, u1.2.2 k (by omega) (by omega), (f_H6.at (by simp only [List.mem_cons, List.not_mem_nil, or_false, not_or]; exact ⟨(tok hid x (by unfold apart; decide)).1, (tok hid x (by unfold apart; decide)).2⟩) e28_H4), fun U hU => (sv_H4 U hU).fr (Nat.le_trans hN f_H4.1) (show yfr [(tun x z o), ((tun x z o) + 1)] H4 H6 from f_H6) (fun i hi => ((kNow_tun hid x) i (by simpa using hi)).2), fun S2 hs2 => yS_set (hS0.atz f_H4 (by decide)) (x := x) (by omega) l_H6 e_H6 (show yfr [(tun x z o), ((tun x z o) + 1)] H4 H6 from f_H6) (fun i hi => by simpa using hi) (hs2.1) (fun q q1 q2 => by by_cases e9 : k ≤ q; rw [a_H6 q e9 (by omega), hs2.2.1 q e9 (by omega)]; exact u1.2.2 (q + 1) (by omega) (by omega); rw [b_H6 q (by omega), hs2.2.2 _ (by omega) (by omega)]; exact u1.2.2 q q1 (by omega)) (fun q q1 q2 => hs2.2.2 q (by omega) (by omega)) (hs2.2.2 _ (by omega) (by omega)) (fun q q1 q2 => hs2.2.2 _ (by have w2 : S (1 - x) ≤ 20 := (by rcases (by omega : x = 0 ∨ x = 1) with e | e <;> rw [e] <;> first | exact hz.2.1 | exact hz.2.2.2.1); omega) (by omega))⟩, (f_H4.mono (by decide)).fr2 (show yfr [(tun x z o), ((tun x z o) + 1)] H4 H6 from f_H6) (fun i hi => ((kNow_tun hid x) i (by simpa using hi)).1)⟩)
theorem c_X8_slow {d : Nat} {hp : xH} {kp cl od : Int} (h28 : xat hp 28 = some (.inr (8, [.ref 29, .ref 34, .ref 35, yi kp, .ref 40, yi cl, .ref 41, .ref 43, yi od, .ref 56, .ref 58]))) {z o : Nat} {S f g : Int → Int} {r t : Int} (hS : yS hp 29 z o S f g r t) (hN : 63 ≤ hp.1) (h26 : xat hp 26 = some (yO 0 (fun _ => .null))) {n : Int} {T : Int → Int} (hv : ySv hp n T) (hn6 : 0 ≤ n ∧ n ≤ 6) (hok : okS S) (hst : ystp S r t) {x : Int} (hx : -2147483648 ≤ x ∧ x ≤ 2147483647) (hd : 6 ≤ d) : Cv d 53 [.ref 28, yi x] hp (yA (fun e y9 h => ((e = none ∧ (0 ≤ x ∧ x ≤ 1 ∧ 2 * S (0 + x) ≤ 20) ∧ y9 = 2 * S (0 + x) ∧ xat h 28 = some (.inr (8, [.ref 29, .ref 34, .ref 35, yi kp, .ref 40, yi cl, .ref 41, .ref 43, yi 1, .ref 56, .ref 58])) ∧ (∀ U, recd n S T U → ySv h (if n = 6 then 6 else n + 1) U) ∧ ∀ S2 : Int → Int, ((∀ q, 0 ≤ q → q < 2 * S (0 + x) → S2 (7 + 20 * x + q) = S (7 + 20 * x + q / 2)) ∧ S2 (0 + x) = 2 * S (0 + x) ∧ (∀ q, q ≠ 0 + x → ¬ (7 + 20 * x ≤ q ∧ q < 7 + 20 * x + 2 * S (0 + x)) → S2 q = S q)) → ∃ f2 g2, yS h 29 z o S2 f2 g2 r t) ∨ (e = some 0 ∧ (¬ (0 ≤ x ∧ x ≤ 1)) ∧ h = xbare hp 6) ∨ (e = some 2 ∧ (0 ≤ x ∧ x ≤ 1 ∧ ¬ (2 * S (0 + x) ≤ 20)) ∧ h = xbare hp 6)) ∧ yfz kNow hp h)) := by
  have hk : xtab 53 = (xc_53, 3, 1, []) := rfl
  obtain ⟨d, rfl⟩ : ∃ e, d = e + 1 := ⟨d - 1, by omega⟩
  have hS0 := hS
  have hok2 := hok
  obtain ⟨hz, h0, h1, h5⟩ := hok2
  obtain ⟨hid, hs_, hz_, ho_, hf_, hg_, ef, eg⟩ := hS
  have w0 : 0 ≤ x → x ≤ 1 → 0 ≤ S (0 + x) ∧ S (0 + x) ≤ 20 := fun a b => by rcases (by omega : x = 0 ∨ x = 1) with e | e <;> rw [e] <;> first | exact ⟨hz.1, hz.2.1⟩ | exact ⟨hz.2.2.1, hz.2.2.2.1⟩
  show Ev (d + 1) 53 0 [(0, .ref 28), (1, yi x)] [] hp _
  refine E_run hk 2 (j' := 2) (lv' := [(0, .ref 28), (1, yi x)]) (st' := [yi x, .ref 28]) (hp' := hp) rfl ?_
  refine Y_callT hk rfl (as := [.ref 28, yi x]) (rest := []) (v := some (.ref (tun x z o))) rfl rfl (Nat.le_of_ble_eq_true rfl) (rcv0 h28) (Nat.le_of_ble_eq_true rfl) (c_X8_tuneAt h28 ⟨hid, hs_, hz_, ho_, hf_, hg_, ef, eg⟩ (x := x) (by omega) (hd := by omega)) (fun g2 => ?_) rfl (fun g2 => ?_)
  rotate_left
  · exact Or.inr ⟨0, rfl, by first | exact Or.inr (Or.inl ⟨rfl, by first | assumption | omega, rfl⟩), (yfz.bare hp).mono (by simp)⟩
  have u1 := yS.tun (x := x) (show yS hp 29 z o S f g _ _ from ⟨hid, hs_, hz_, ho_, hf_, hg_, ef, eg⟩) (by omega)
  have w1 := w0 (by omega) (by omega)
  refine E_run hk 2 (j' := 5) (lv' := [(2, .ref (tun x z o)), (0, .ref 28), (1, yi x)]) (st' := [.ref (tun x z o)]) (hp' := hp) rfl ?_
  refine Y_callP hk rfl (as := [.ref (tun x z o)]) (rest := []) (v := some (yi (b2 (2 * (S (0 + x)) ≤ 20)))) rfl rfl (Nat.le_of_ble_eq_true rfl) (rcv0 u1.1) (Nat.le_of_ble_eq_true rfl) (c_X6_canDouble (a := (tun x z o)) (p := ((tun x z o) + 1)) (f := (tuf x f g)) (n := (S (0 + x))) ⟨(tid hid x).1, (tid hid x).2.1, (tid hid x).2.2.1⟩ u1.1 u1.2.1 (by omega)) ?_
  refine Y_b_ne hk rfl (fun g3 => ?_) (fun g3 => ?_)
  ·
    refine E_run hk 1 (j' := 13) (lv' := [(2, .ref (tun x z o)), (0, .ref 28), (1, yi x)]) (st' := [.ref 28]) (hp' := hp) rfl ?_
    refine Y_call hk rfl (as := [.ref 28]) (rest := []) (v := none) rfl rfl (Nat.le_of_ble_eq_true rfl) (rcv0 h28) (Nat.le_of_ble_eq_true rfl) (c_X8_saveState h28 ⟨hid, hs_, hz_, ho_, hf_, hg_, ef, eg⟩ hN h26 hv hn6 hok hst (hd := by omega)) (fun H4 r5 => ?_)
    obtain ⟨e28_H4, sv_H4, f_H4⟩ := r5
    refine E_run hk 1 (j' := 15) (lv' := [(2, .ref (tun x z o)), (0, .ref 28), (1, yi x)]) (st' := [.ref (tun x z o)]) (hp' := H4) rfl ?_
    refine Y_call hk rfl (as := [.ref (tun x z o)]) (rest := []) (v := none) rfl rfl (Nat.le_of_ble_eq_true rfl) (rcv0 (f_H4.at (by simp only [List.mem_cons, List.not_mem_nil, or_false, not_or]; exact ⟨(Ne.symm (tok hid x (by unfold apart; decide)).1), (Ne.symm (tok hid x (by unfold apart; decide)).1), (Ne.symm (tok hid x (by unfold apart; decide)).1)⟩) (t77 hid x).1 u1.1)) (Nat.le_of_ble_eq_true rfl) (c_X6_doubleNotes (a := (tun x z o)) (p := ((tun x z o) + 1)) (f := (tuf x f g)) (n := (S (0 + x))) ⟨(tid hid x).1, (tid hid x).2.1, (tid hid x).2.2.1⟩ (f_H4.at (by simp only [List.mem_cons, List.not_mem_nil, or_false, not_or]; exact ⟨(Ne.symm (tok hid x (by unfold apart; decide)).1), (Ne.symm (tok hid x (by unfold apart; decide)).1), (Ne.symm (tok hid x (by unfold apart; decide)).1)⟩) (t77 hid x).1 u1.1) (f_H4.at (by simp only [List.mem_cons, List.not_mem_nil, or_false, not_or]; exact ⟨(Ne.symm (tok hid x (by unfold apart; decide)).2), (Ne.symm (tok hid x (by unfold apart; decide)).2), (Ne.symm (tok hid x (by unfold apart; decide)).2)⟩) (t77 hid x).2 u1.2.1) (by omega) (by omega) (hd := by omega)) (fun H6 r7 => ?_)
    obtain ⟨F_H6, l_H6, e_H6, a_H6, f_H6⟩ := r7
    refine E_run hk 1 (j' := 17) (lv' := [(2, .ref (tun x z o)), (0, .ref 28), (1, yi x)]) (st' := [.ref (tun x z o)]) (hp' := H6) rfl ?_
    refine E_get (v := yi (2 * (S (0 + x)))) hk rfl l_H6 rfl ?_
    exact E_ret hk rfl rfl (Or.inl ⟨(2 * (S (0 + x))), rfl, Or.inl ⟨rfl, by omega, rfl, (f_H6.at (by simp only [List.mem_cons, List.not_mem_nil, or_false, not_or]; exact ⟨(tok hid x (by unfold apart; decide)).1, (tok hid x (by unfold apart; decide)).2⟩) e28_H4), fun U hU => (sv_H4 U hU).fr (Nat.le_trans hN f_H4.1) (show yfr [(tun x z o), ((tun x z o) + 1)] H4 H6 from f_H6) (fun i hi => ((kNow_tun hid x) i (by simpa using hi)).2), fun S2 hs2 => yS_set (hS0.atz f_H4 (by decide)) (x := x) (by omega) l_H6 e_H6 (show yfr [(tun x z o), ((tun x z o) + 1)] H4 H6 from f_H6) (fun i hi => by simpa using hi) (hs2.2.1) (fun q q1 q2 => by rw [a_H6 q q1 q2, hs2.1 q q1 q2, u1.2.2 (q / 2) (by omega) (by omega)]) (fun q q1 q2 => hs2.2.2 q (by omega) (by omega)) (hs2.2.2 _ (by omega) (by omega)) (fun q q1 q2 => hs2.2.2 _ (by omega) (by have w2 : S (1 - x) ≤ 20 := (by rcases (by omega : x = 0 ∨ x = 1) with e | e <;> rw [e] <;> first | exact hz.2.1 | exact hz.2.2.2.1); omega))⟩, (f_H4.mono (by decide)).fr2 (show yfr [(tun x z o), ((tun x z o) + 1)] H4 H6 from f_H6) (fun i hi => ((kNow_tun hid x) i (by simpa using hi)).1)⟩)
  ·
    exact E_throw (by omega) hk rfl (Nat.le_of_ble_eq_true rfl) (Or.inr ⟨2, rfl, by first | exact Or.inr (Or.inr (⟨rfl, by first | assumption | omega, rfl⟩)), (yfz.bare hp).mono (by simp)⟩)
theorem c_X8_flip {d : Nat} {hp : xH} {kp cl od : Int} (h28 : xat hp 28 = some (.inr (8, [.ref 29, .ref 34, .ref 35, yi kp, .ref 40, yi cl, .ref 41, .ref 43, yi od, .ref 56, .ref 58]))) {z o : Nat} {S f g : Int → Int} {r t : Int} (hS : yS hp 29 z o S f g r t) (hN : 63 ≤ hp.1) (h26 : xat hp 26 = some (yO 0 (fun _ => .null))) {n : Int} {T : Int → Int} (hv : ySv hp n T) (hn6 : 0 ≤ n ∧ n ≤ 6) (hok : okS S) (hst : ystp S r t) {x : Int} (hx : -2147483648 ≤ x ∧ x ≤ 2147483647) (hd : 6 ≤ d) : Cv d 54 [.ref 28, yi x] hp (yA (fun e y9 h => ((e = none ∧ (0 ≤ x ∧ x ≤ 1) ∧ y9 = S (0 + x) ∧ xat h 28 = some (.inr (8, [.ref 29, .ref 34, .ref 35, yi kp, .ref 40, yi cl, .ref 41, .ref 43, yi 1, .ref 56, .ref 58])) ∧ (∀ U, recd n S T U → ySv h (if n = 6 then 6 else n + 1) U) ∧ ∀ S2 : Int → Int, ((∀ q, 0 ≤ q → q < S (0 + x) → S2 (7 + 20 * x + q) = S (7 + 20 * x + (S (0 + x) - 1 - q))) ∧ (∀ q, ¬ (7 + 20 * x ≤ q ∧ q < 7 + 20 * x + S (0 + x)) → S2 q = S q)) → ∃ f2 g2, yS h 29 z o S2 f2 g2 r t) ∨ (e = some 0 ∧ (¬ (0 ≤ x ∧ x ≤ 1)) ∧ h = xbare hp 6)) ∧ yfz kNow hp h)) := by
  have hk : xtab 54 = (xc_54, 3, 1, []) := rfl
  obtain ⟨d, rfl⟩ : ∃ e, d = e + 1 := ⟨d - 1, by omega⟩
  have hS0 := hS
  have hok2 := hok
  obtain ⟨hz, h0, h1, h5⟩ := hok2
  obtain ⟨hid, hs_, hz_, ho_, hf_, hg_, ef, eg⟩ := hS
  have w0 : 0 ≤ x → x ≤ 1 → 0 ≤ S (0 + x) ∧ S (0 + x) ≤ 20 := fun a b => by rcases (by omega : x = 0 ∨ x = 1) with e | e <;> rw [e] <;> first | exact ⟨hz.1, hz.2.1⟩ | exact ⟨hz.2.2.1, hz.2.2.2.1⟩
  show Ev (d + 1) 54 0 [(0, .ref 28), (1, yi x)] [] hp _
  refine E_run hk 2 (j' := 2) (lv' := [(0, .ref 28), (1, yi x)]) (st' := [yi x, .ref 28]) (hp' := hp) rfl ?_
  refine Y_callT hk rfl (as := [.ref 28, yi x]) (rest := []) (v := some (.ref (tun x z o))) rfl rfl (Nat.le_of_ble_eq_true rfl) (rcv0 h28) (Nat.le_of_ble_eq_true rfl) (c_X8_tuneAt h28 ⟨hid, hs_, hz_, ho_, hf_, hg_, ef, eg⟩ (x := x) (by omega) (hd := by omega)) (fun g2 => ?_) rfl (fun g2 => ?_)
  rotate_left
  · exact Or.inr ⟨0, rfl, by first | exact Or.inr (⟨rfl, by first | assumption | omega, rfl⟩), (yfz.bare hp).mono (by simp)⟩
  have u1 := yS.tun (x := x) (show yS hp 29 z o S f g _ _ from ⟨hid, hs_, hz_, ho_, hf_, hg_, ef, eg⟩) (by omega)
  have w1 := w0 (by omega) (by omega)
  refine E_run hk 2 (j' := 5) (lv' := [(2, .ref (tun x z o)), (0, .ref 28), (1, yi x)]) (st' := [.ref 28]) (hp' := hp) rfl ?_
  refine Y_call hk rfl (as := [.ref 28]) (rest := []) (v := none) rfl rfl (Nat.le_of_ble_eq_true rfl) (rcv0 h28) (Nat.le_of_ble_eq_true rfl) (c_X8_saveState h28 ⟨hid, hs_, hz_, ho_, hf_, hg_, ef, eg⟩ hN h26 hv hn6 hok hst (hd := by omega)) (fun H3 r4 => ?_)
  obtain ⟨e28_H3, sv_H3, f_H3⟩ := r4
  refine E_run hk 1 (j' := 7) (lv' := [(2, .ref (tun x z o)), (0, .ref 28), (1, yi x)]) (st' := [.ref (tun x z o)]) (hp' := H3) rfl ?_
  refine Y_call hk rfl (as := [.ref (tun x z o)]) (rest := []) (v := none) rfl rfl (Nat.le_of_ble_eq_true rfl) (rcv0 (f_H3.at (by simp only [List.mem_cons, List.not_mem_nil, or_false, not_or]; exact ⟨(Ne.symm (tok hid x (by unfold apart; decide)).1), (Ne.symm (tok hid x (by unfold apart; decide)).1), (Ne.symm (tok hid x (by unfold apart; decide)).1)⟩) (t77 hid x).1 u1.1)) (Nat.le_of_ble_eq_true rfl) (c_X6_turnRound (a := (tun x z o)) (p := ((tun x z o) + 1)) (f := (tuf x f g)) (n := (S (0 + x))) ⟨(tid hid x).1, (tid hid x).2.1, (tid hid x).2.2.1⟩ (f_H3.at (by simp only [List.mem_cons, List.not_mem_nil, or_false, not_or]; exact ⟨(Ne.symm (tok hid x (by unfold apart; decide)).1), (Ne.symm (tok hid x (by unfold apart; decide)).1), (Ne.symm (tok hid x (by unfold apart; decide)).1)⟩) (t77 hid x).1 u1.1) (f_H3.at (by simp only [List.mem_cons, List.not_mem_nil, or_false, not_or]; exact ⟨(Ne.symm (tok hid x (by unfold apart; decide)).2), (Ne.symm (tok hid x (by unfold apart; decide)).2), (Ne.symm (tok hid x (by unfold apart; decide)).2)⟩) (t77 hid x).2 u1.2.1) (by omega) (hd := by omega)) (fun H5 r6 => ?_)
  obtain ⟨F_H5, e_H5, a_H5, f_H5⟩ := r6
  refine E_run hk 1 (j' := 9) (lv' := [(2, .ref (tun x z o)), (0, .ref 28), (1, yi x)]) (st' := [.ref (tun x z o)]) (hp' := H5) rfl ?_
  refine E_get (v := yi (S (0 + x))) hk rfl (f_H5.at (by simp only [List.mem_cons, List.not_mem_nil, or_false, not_or]; exact (tid hid x).2.2.1) (f_H3.at (by simp only [List.mem_cons, List.not_mem_nil, or_false, not_or]; exact ⟨(Ne.symm (tok hid x (by unfold apart; decide)).1), (Ne.symm (tok hid x (by unfold apart; decide)).1), (Ne.symm (tok hid x (by unfold apart; decide)).1)⟩) (t77 hid x).1 u1.1)) rfl ?_
  exact E_ret hk rfl rfl (Or.inl ⟨(S (0 + x)), rfl, Or.inl ⟨rfl, by omega, rfl, (f_H5.at (by simp only [List.mem_cons, List.not_mem_nil, or_false, not_or]; exact (tok hid x (by unfold apart; decide)).2) e28_H3), fun U hU => (sv_H3 U hU).fr (Nat.le_trans hN f_H3.1) (show yfr [(tun x z o), ((tun x z o) + 1)] H3 H5 from (f_H5.mono (by simp))) (fun i hi => ((kNow_tun hid x) i (by simpa using hi)).2), fun S2 hs2 => yS_set (hS0.atz f_H3 (by decide)) (x := x) (by omega) (f_H5.at (by simp only [List.mem_cons, List.not_mem_nil, or_false, not_or]; exact (tid hid x).2.2.1) (f_H3.at (by simp only [List.mem_cons, List.not_mem_nil, or_false, not_or]; exact ⟨(Ne.symm (tok hid x (by unfold apart; decide)).1), (Ne.symm (tok hid x (by unfold apart; decide)).1), (Ne.symm (tok hid x (by unfold apart; decide)).1)⟩) (t77 hid x).1 u1.1)) e_H5 (show yfr [(tun x z o), ((tun x z o) + 1)] H3 H5 from (f_H5.mono (by simp))) (fun i hi => by simpa using hi) (hs2.2 _ (by omega)) (fun q q1 q2 => by rw [a_H5 q q1 q2, hs2.1 q q1 q2, u1.2.2 _ (by omega) (by omega)]) (fun q q1 q2 => hs2.2 q (by omega)) (hs2.2 _ (by omega)) (fun q q1 q2 => hs2.2 _ (by have w2 : S (1 - x) ≤ 20 := (by rcases (by omega : x = 0 ∨ x = 1) with e | e <;> rw [e] <;> first | exact hz.2.1 | exact hz.2.2.2.1); omega))⟩, (f_H3.mono (by decide)).fr2 (show yfr [(tun x z o), ((tun x z o) + 1)] H3 H5 from (f_H5.mono (by simp))) (fun i hi => ((kNow_tun hid x) i (by simpa using hi)).1)⟩)
theorem yS.swap {h0 h : xH} {s z o : Nat} {S f g : Int → Int} {r t : Int} (H : yS h0 s z o S f g r t) (hl : S 0 ≤ 20 ∧ S 1 ≤ 20) (e1 : xat h s = some (.inr (6, [.ref o, .ref z, yi (S 2), yi (S 3), yi (S 4), yi r, yi t]))) (fr : yfr [s] h0 h) {S2 : Int → Int} (hs : (∀ q, 0 ≤ q → q < 20 → S2 (7 + q) = S (27 + q) ∧ S2 (27 + q) = S (7 + q)) ∧ S2 0 = S 1 ∧ S2 1 = S 0 ∧ (∀ q, 2 ≤ q → q < 7 → S2 q = S q)) : ∃ f2 g2, yS h s o z S2 f2 g2 r t := by
  obtain ⟨hid, a1, a2, a3, a4, a5, ef, eg⟩ := H
  have n := sne hid
  obtain ⟨s1, s2, s3, s4⟩ := hs
  refine ⟨g, f, ?_, ?_, ?_, ?_, fr.at (by simpa using Ne.symm n.2.2.2.1) a5, fr.at (by simpa using Ne.symm n.2.1) a4, fun q q1 q2 => ?_, fun q q1 q2 => ?_⟩
  · unfold stid at hid ⊢
    omega
  · rw [s4 2 (by decide) (by decide), s4 3 (by decide) (by decide), s4 4 (by decide) (by decide)]
    exact e1
  · rw [s2]
    exact fr.at (by simpa using Ne.symm n.2.2.1) a3
  · rw [s3]
    exact fr.at (by simpa using Ne.symm n.1) a2
  · rw [s2] at q2
    rw [(s1 q q1 (by omega)).1]
    exact eg q q1 q2
  · rw [s3] at q2
    rw [(s1 q q1 (by omega)).2]
    exact ef q q1 q2
theorem c_X8_exchange {d : Nat} {hp : xH} {kp cl od : Int} (h28 : xat hp 28 = some (.inr (8, [.ref 29, .ref 34, .ref 35, yi kp, .ref 40, yi cl, .ref 41, .ref 43, yi od, .ref 56, .ref 58]))) {z o : Nat} {S f g : Int → Int} {r t : Int} (hS : yS hp 29 z o S f g r t) (hN : 63 ≤ hp.1) (h26 : xat hp 26 = some (yO 0 (fun _ => .null))) {n : Int} {T : Int → Int} (hv : ySv hp n T) (hn6 : 0 ≤ n ∧ n ≤ 6) (hok : okS S) (hst : ystp S r t) (hd : 5 ≤ d) : Cv d 55 [.ref 28] hp (yA (fun e y9 h => ((e = none ∧ (True) ∧ y9 = S 1 ∧ xat h 28 = some (.inr (8, [.ref 29, .ref 34, .ref 35, yi kp, .ref 40, yi cl, .ref 41, .ref 43, yi 1, .ref 56, .ref 58])) ∧ (∀ U, recd n S T U → ySv h (if n = 6 then 6 else n + 1) U) ∧ ∀ S2 : Int → Int, ((∀ q, 0 ≤ q → q < 20 → S2 (7 + q) = S (27 + q) ∧ S2 (27 + q) = S (7 + q)) ∧ S2 0 = S 1 ∧ S2 1 = S 0 ∧ (∀ q, 2 ≤ q → q < 7 → S2 q = S q)) → ∃ f2 g2, yS h 29 o z S2 f2 g2 r t)) ∧ yfz kNow hp h)) := by
  have hk : xtab 55 = (xc_55, 1, 1, []) := rfl
  obtain ⟨d, rfl⟩ : ∃ e, d = e + 1 := ⟨d - 1, by omega⟩
  have hS0 := hS
  have hok2 := hok
  obtain ⟨hz, h0, h1, h5⟩ := hok2
  obtain ⟨hid, hs_, hz_, ho_, hf_, hg_, ef, eg⟩ := hS
  show Ev (d + 1) 55 0 [(0, .ref 28)] [] hp _
  refine E_run hk 1 (j' := 1) (lv' := [(0, .ref 28)]) (st' := [.ref 28]) (hp' := hp) rfl ?_
  refine Y_call hk rfl (as := [.ref 28]) (rest := []) (v := none) rfl rfl (Nat.le_of_ble_eq_true rfl) (rcv0 h28) (Nat.le_of_ble_eq_true rfl) (c_X8_saveState h28 ⟨hid, hs_, hz_, ho_, hf_, hg_, ef, eg⟩ hN h26 hv hn6 hok hst (hd := by omega)) (fun H1 r2 => ?_)
  obtain ⟨e28_H1, sv_H1, f_H1⟩ := r2
  refine E_run hk 1 (j' := 3) (lv' := [(0, .ref 28)]) (st' := [.ref 28]) (hp' := H1) rfl ?_
  refine E_get (v := .ref 29) hk rfl e28_H1 rfl ?_
  refine Y_call hk rfl (as := [.ref 29]) (rest := []) (v := none) rfl rfl (Nat.le_of_ble_eq_true rfl) (rcv0 (f_H1.at (by decide) (by decide) hs_)) (Nat.le_of_ble_eq_true rfl) (c_X5_swapTunes ⟨hid, (f_H1.at (by decide) (by decide) hs_), (f_H1.at (by simp only [List.mem_cons, List.not_mem_nil, or_false, not_or]; exact ⟨(Ne.symm (sok hid (by unfold apart; decide)).2.1), (Ne.symm (sok hid (by unfold apart; decide)).2.1), (Ne.symm (sok hid (by unfold apart; decide)).2.1)⟩) (s77 hid).1 hz_), (f_H1.at (by simp only [List.mem_cons, List.not_mem_nil, or_false, not_or]; exact ⟨(Ne.symm (sok hid (by unfold apart; decide)).2.2.2.1), (Ne.symm (sok hid (by unfold apart; decide)).2.2.2.1), (Ne.symm (sok hid (by unfold apart; decide)).2.2.2.1)⟩) (s77 hid).2.2.1 ho_), (f_H1.at (by simp only [List.mem_cons, List.not_mem_nil, or_false, not_or]; exact ⟨(Ne.symm (sok hid (by unfold apart; decide)).2.2.1), (Ne.symm (sok hid (by unfold apart; decide)).2.2.1), (Ne.symm (sok hid (by unfold apart; decide)).2.2.1)⟩) (s77 hid).2.1 hf_), (f_H1.at (by simp only [List.mem_cons, List.not_mem_nil, or_false, not_or]; exact ⟨(Ne.symm (sok hid (by unfold apart; decide)).2.2.2.2), (Ne.symm (sok hid (by unfold apart; decide)).2.2.2.2), (Ne.symm (sok hid (by unfold apart; decide)).2.2.2.2)⟩) (s77 hid).2.2.2 hg_), ef, eg⟩) (fun H3 r4 => ?_)
  obtain ⟨e_H3, f_H3⟩ := r4
  refine E_run hk 1 (j' := 6) (lv' := [(0, .ref 28)]) (st' := [.ref 28]) (hp' := H3) rfl ?_
  refine E_get (v := .ref 29) hk rfl (f_H3.at (by decide) e28_H1) rfl ?_
  refine E_get (v := .ref o) hk rfl e_H3 rfl ?_
  refine E_get (v := yi (S 1)) hk rfl (f_H3.at (by simp only [List.mem_cons, List.not_mem_nil, or_false, not_or]; exact (Ne.symm (sne hid).2.2.1)) (f_H1.at (by simp only [List.mem_cons, List.not_mem_nil, or_false, not_or]; exact ⟨(Ne.symm (sok hid (by unfold apart; decide)).2.2.2.1), (Ne.symm (sok hid (by unfold apart; decide)).2.2.2.1), (Ne.symm (sok hid (by unfold apart; decide)).2.2.2.1)⟩) (s77 hid).2.2.1 ho_)) rfl ?_
  exact E_ret hk rfl rfl (Or.inl ⟨(S 1), rfl, ⟨rfl, trivial, rfl, (f_H3.at (by decide) e28_H1), fun U hU => (sv_H1 U hU).fr (Nat.le_trans hN f_H1.1) (show yfr [29] H1 H3 from f_H3) (fun i hi => ((fun i (hi : i = 29) => (kNow_mem hid i (Or.inl hi))) i (by simpa using hi)).2), fun S2 hs2 => yS.swap (hS0.atz f_H1 (by decide)) ⟨hz.2.1, hz.2.2.2.1⟩ e_H3 (show yfr [29] H1 H3 from f_H3) hs2⟩, (f_H1.mono (by decide)).fr2 (show yfr [29] H1 H3 from f_H3) (fun i hi => ((fun i (hi : i = 29) => (kNow_mem hid i (Or.inl hi))) i (by simpa using hi)).1)⟩)
theorem yS.num {h0 h : xH} {s z o : Nat} {S f g : Int → Int} {r t : Int} (H : yS h0 s z o S f g r t) {S2 : Int → Int} {r2 t2 : Int} (e1 : xat h s = some (.inr (6, [.ref z, .ref o, yi (S2 2), yi (S2 3), yi (S2 4), yi r2, yi t2]))) (fr : yfr [s] h0 h) (hs : ∀ q, ¬ (2 ≤ q ∧ q ≤ 6) → S2 q = S q) : yS h s z o S2 f g r2 t2 := by
  obtain ⟨hid, a1, a2, a3, a4, a5, ef, eg⟩ := H
  have n := sne hid
  refine ⟨hid, e1, ?_, ?_, fr.at (by simpa using Ne.symm n.2.1) a4, fr.at (by simpa using Ne.symm n.2.2.2.1) a5, fun q q1 q2 => ?_, fun q q1 q2 => ?_⟩
  · rw [hs 0 (by decide)]
    exact fr.at (by simpa using Ne.symm n.1) a2
  · rw [hs 1 (by decide)]
    exact fr.at (by simpa using Ne.symm n.2.2.1) a3
  · rw [hs 0 (by decide)] at q2
    rw [hs _ (by omega)]
    exact ef q q1 q2
  · rw [hs 1 (by decide)] at q2
    rw [hs _ (by omega)]
    exact eg q q1 q2
theorem c_X8_setBound {d : Nat} {hp : xH} {kp cl od : Int} (h28 : xat hp 28 = some (.inr (8, [.ref 29, .ref 34, .ref 35, yi kp, .ref 40, yi cl, .ref 41, .ref 43, yi od, .ref 56, .ref 58]))) {z o : Nat} {S f g : Int → Int} {r t : Int} (hS : yS hp 29 z o S f g r t) (hN : 63 ≤ hp.1) (h26 : xat hp 26 = some (yO 0 (fun _ => .null))) {n : Int} {T : Int → Int} (hv : ySv hp n T) (hn6 : 0 ≤ n ∧ n ≤ 6) (hok : okS S) (hst : ystp S r t) {x : Int} (hx : -2147483648 ≤ x ∧ x ≤ 2147483647) (hd : 5 ≤ d) : Cv d 56 [.ref 28, yi x] hp (yA (fun e y9 h => ((e = none ∧ (0 ≤ x ∧ x ≤ 20) ∧ y9 = S 2 ∧ xat h 28 = some (.inr (8, [.ref 29, .ref 34, .ref 35, yi kp, .ref 40, yi cl, .ref 41, .ref 43, yi 1, .ref 56, .ref 58])) ∧ (∀ U, recd n S T U → ySv h (if n = 6 then 6 else n + 1) U) ∧ ∀ S2 : Int → Int, (S2 = up S 2 x) → ∃ f2 g2, yS h 29 z o S2 f2 g2 r t) ∨ (e = some 1 ∧ (¬ (0 ≤ x ∧ x ≤ 20)) ∧ h = xbare hp 6)) ∧ yfz kNow hp h)) := by
  have hk : xtab 56 = (xc_56, 3, 1, []) := rfl
  obtain ⟨d, rfl⟩ : ∃ e, d = e + 1 := ⟨d - 1, by omega⟩
  have hS0 := hS
  have hok2 := hok
  obtain ⟨hz, h0, h1, h5⟩ := hok2
  obtain ⟨hid, hs_, hz_, ho_, hf_, hg_, ef, eg⟩ := hS
  show Ev (d + 1) 56 0 [(0, .ref 28), (1, yi x)] [] hp _
  refine E_run hk 3 (j' := 3) (lv' := [(0, .ref 28), (1, yi x)]) (st' := [yi 20, yi 0, yi x]) (hp' := hp) rfl ?_
  refine Y_callT hk rfl (as := [yi x, yi 0, yi 20]) (rest := []) (v := none) rfl rfl (Nat.le_of_ble_eq_true rfl) rfl (Nat.le_of_ble_eq_true rfl) (c_X8_checkRange (v := x) (l := 0) (m := 20) (by omega) (hd := by omega)) (fun g1 => ?_) rfl (fun g1 => ?_)
  rotate_left
  · exact Or.inr ⟨1, rfl, by first | exact Or.inr (⟨rfl, by first | assumption | omega, rfl⟩), (yfz.bare hp).mono (by simp)⟩
  refine E_run hk 1 (j' := 5) (lv' := [(0, .ref 28), (1, yi x)]) (st' := [.ref 28]) (hp' := hp) rfl ?_
  refine Y_call hk rfl (as := [.ref 28]) (rest := []) (v := none) rfl rfl (Nat.le_of_ble_eq_true rfl) (rcv0 h28) (Nat.le_of_ble_eq_true rfl) (c_X8_saveState h28 ⟨hid, hs_, hz_, ho_, hf_, hg_, ef, eg⟩ hN h26 hv hn6 hok hst (hd := by omega)) (fun H2 r3 => ?_)
  obtain ⟨e28_H2, sv_H2, f_H2⟩ := r3
  refine E_run hk 1 (j' := 7) (lv' := [(0, .ref 28), (1, yi x)]) (st' := [.ref 28]) (hp' := H2) rfl ?_
  refine E_get (v := .ref 29) hk rfl e28_H2 rfl ?_
  refine E_get (v := yi (S 2)) hk rfl (f_H2.at (by decide) (by decide) hs_) rfl ?_
  refine E_run hk 2 (j' := 11) (lv' := [(2, yi (S 2)), (0, .ref 28), (1, yi x)]) (st' := [.ref 28]) (hp' := H2) rfl ?_
  refine E_get (v := .ref 29) hk rfl e28_H2 rfl ?_
  refine E_run hk 1 (j' := 13) (lv' := [(2, yi (S 2)), (0, .ref 28), (1, yi x)]) (st' := [yi x, .ref 29]) (hp' := H2) rfl ?_
  refine Y_put hk rfl (f_H2.at (by decide) (by decide) hs_) (by decide) (Nat.le_of_ble_eq_true rfl) rfl (fs' := [.ref z, .ref o, yi x, yi (S 3), yi (S 4), yi r, yi t]) rfl (fun H4 e5 f6 => ?_)
  refine E_run hk 1 (j' := 15) (lv' := [(2, yi (S 2)), (0, .ref 28), (1, yi x)]) (st' := [yi (S 2)]) (hp' := H4) rfl ?_
  exact E_ret hk rfl rfl (Or.inl ⟨(S 2), rfl, Or.inl ⟨rfl, by omega, rfl, (f6.at (by decide) e28_H2), fun U hU => (sv_H2 U hU).fr (Nat.le_trans hN f_H2.1) (show yfr [29] H2 H4 from f6) (fun i hi => ((fun i (hi : i = 29) => (kNow_mem hid i (Or.inl hi))) i (by simpa using hi)).2), fun S2 hs2 => ⟨f, g, by subst hs2; exact yS.num (S2 := up S 2 x) (hS0.atz f_H2 (by decide)) e5 (show yfr [29] H2 H4 from f6) (fun q q1 => up_ne _ _ (by omega))⟩⟩, (f_H2.mono (by decide)).fr2 (show yfr [29] H2 H4 from f6) (fun i hi => ((fun i (hi : i = 29) => (kNow_mem hid i (Or.inl hi))) i (by simpa using hi)).1)⟩)
theorem c_X8_setHold {d : Nat} {hp : xH} {kp cl od : Int} (h28 : xat hp 28 = some (.inr (8, [.ref 29, .ref 34, .ref 35, yi kp, .ref 40, yi cl, .ref 41, .ref 43, yi od, .ref 56, .ref 58]))) {z o : Nat} {S f g : Int → Int} {r t : Int} (hS : yS hp 29 z o S f g r t) (hN : 63 ≤ hp.1) (h26 : xat hp 26 = some (yO 0 (fun _ => .null))) {n : Int} {T : Int → Int} (hv : ySv hp n T) (hn6 : 0 ≤ n ∧ n ≤ 6) (hok : okS S) (hst : ystp S r t) {x : Int} (hx : -2147483648 ≤ x ∧ x ≤ 2147483647) (hd : 5 ≤ d) : Cv d 57 [.ref 28, yi x] hp (yA (fun e y9 h => ((e = none ∧ (0 ≤ x ∧ x ≤ 50) ∧ y9 = S 3 ∧ xat h 28 = some (.inr (8, [.ref 29, .ref 34, .ref 35, yi kp, .ref 40, yi cl, .ref 41, .ref 43, yi 1, .ref 56, .ref 58])) ∧ (∀ U, recd n S T U → ySv h (if n = 6 then 6 else n + 1) U) ∧ ∀ S2 : Int → Int, (S2 = up S 3 x) → ∃ f2 g2, yS h 29 z o S2 f2 g2 r t) ∨ (e = some 1 ∧ (¬ (0 ≤ x ∧ x ≤ 50)) ∧ h = xbare hp 6)) ∧ yfz kNow hp h)) := by
  have hk : xtab 57 = (xc_57, 3, 1, []) := rfl
  obtain ⟨d, rfl⟩ : ∃ e, d = e + 1 := ⟨d - 1, by omega⟩
  have hS0 := hS
  have hok2 := hok
  obtain ⟨hz, h0, h1, h5⟩ := hok2
  obtain ⟨hid, hs_, hz_, ho_, hf_, hg_, ef, eg⟩ := hS
  show Ev (d + 1) 57 0 [(0, .ref 28), (1, yi x)] [] hp _
  refine E_run hk 3 (j' := 3) (lv' := [(0, .ref 28), (1, yi x)]) (st' := [yi 50, yi 0, yi x]) (hp' := hp) rfl ?_
  refine Y_callT hk rfl (as := [yi x, yi 0, yi 50]) (rest := []) (v := none) rfl rfl (Nat.le_of_ble_eq_true rfl) rfl (Nat.le_of_ble_eq_true rfl) (c_X8_checkRange (v := x) (l := 0) (m := 50) (by omega) (hd := by omega)) (fun g1 => ?_) rfl (fun g1 => ?_)
  rotate_left
  · exact Or.inr ⟨1, rfl, by first | exact Or.inr (⟨rfl, by first | assumption | omega, rfl⟩), (yfz.bare hp).mono (by simp)⟩
  refine E_run hk 1 (j' := 5) (lv' := [(0, .ref 28), (1, yi x)]) (st' := [.ref 28]) (hp' := hp) rfl ?_
  refine Y_call hk rfl (as := [.ref 28]) (rest := []) (v := none) rfl rfl (Nat.le_of_ble_eq_true rfl) (rcv0 h28) (Nat.le_of_ble_eq_true rfl) (c_X8_saveState h28 ⟨hid, hs_, hz_, ho_, hf_, hg_, ef, eg⟩ hN h26 hv hn6 hok hst (hd := by omega)) (fun H2 r3 => ?_)
  obtain ⟨e28_H2, sv_H2, f_H2⟩ := r3
  refine E_run hk 1 (j' := 7) (lv' := [(0, .ref 28), (1, yi x)]) (st' := [.ref 28]) (hp' := H2) rfl ?_
  refine E_get (v := .ref 29) hk rfl e28_H2 rfl ?_
  refine E_get (v := yi (S 3)) hk rfl (f_H2.at (by decide) (by decide) hs_) rfl ?_
  refine E_run hk 2 (j' := 11) (lv' := [(2, yi (S 3)), (0, .ref 28), (1, yi x)]) (st' := [.ref 28]) (hp' := H2) rfl ?_
  refine E_get (v := .ref 29) hk rfl e28_H2 rfl ?_
  refine E_run hk 1 (j' := 13) (lv' := [(2, yi (S 3)), (0, .ref 28), (1, yi x)]) (st' := [yi x, .ref 29]) (hp' := H2) rfl ?_
  refine Y_put hk rfl (f_H2.at (by decide) (by decide) hs_) (by decide) (Nat.le_of_ble_eq_true rfl) rfl (fs' := [.ref z, .ref o, yi (S 2), yi x, yi (S 4), yi r, yi t]) rfl (fun H4 e5 f6 => ?_)
  refine E_run hk 1 (j' := 15) (lv' := [(2, yi (S 3)), (0, .ref 28), (1, yi x)]) (st' := [yi (S 3)]) (hp' := H4) rfl ?_
  exact E_ret hk rfl rfl (Or.inl ⟨(S 3), rfl, Or.inl ⟨rfl, by omega, rfl, (f6.at (by decide) e28_H2), fun U hU => (sv_H2 U hU).fr (Nat.le_trans hN f_H2.1) (show yfr [29] H2 H4 from f6) (fun i hi => ((fun i (hi : i = 29) => (kNow_mem hid i (Or.inl hi))) i (by simpa using hi)).2), fun S2 hs2 => ⟨f, g, by subst hs2; exact yS.num (S2 := up S 3 x) (hS0.atz f_H2 (by decide)) e5 (show yfr [29] H2 H4 from f6) (fun q q1 => up_ne _ _ (by omega))⟩⟩, (f_H2.mono (by decide)).fr2 (show yfr [29] H2 H4 from f6) (fun i hi => ((fun i (hi : i = 29) => (kNow_mem hid i (Or.inl hi))) i (by simpa using hi)).1)⟩)
theorem c_X8_setJudge {d : Nat} {hp : xH} {kp cl od : Int} (h28 : xat hp 28 = some (.inr (8, [.ref 29, .ref 34, .ref 35, yi kp, .ref 40, yi cl, .ref 41, .ref 43, yi od, .ref 56, .ref 58]))) {z o : Nat} {S f g : Int → Int} {r t : Int} (hS : yS hp 29 z o S f g r t) (hN : 63 ≤ hp.1) (h26 : xat hp 26 = some (yO 0 (fun _ => .null))) {n : Int} {T : Int → Int} (hv : ySv hp n T) (hn6 : 0 ≤ n ∧ n ≤ 6) (hok : okS S) (hst : ystp S r t) {x : Int} (hx : -2147483648 ≤ x ∧ x ≤ 2147483647) (hd : 5 ≤ d) : Cv d 58 [.ref 28, yi x] hp (yA (fun e y9 h => ((e = none ∧ (0 ≤ x ∧ x ≤ 3) ∧ y9 = S 4 ∧ xat h 28 = some (.inr (8, [.ref 29, .ref 34, .ref 35, yi kp, .ref 40, yi cl, .ref 41, .ref 43, yi 1, .ref 56, .ref 58])) ∧ (∀ U, recd n S T U → ySv h (if n = 6 then 6 else n + 1) U) ∧ ∀ S2 : Int → Int, (S2 = up S 4 x) → ∃ f2 g2, yS h 29 z o S2 f2 g2 r t) ∨ (e = some 1 ∧ (¬ (0 ≤ x ∧ x ≤ 3)) ∧ h = xbare hp 6)) ∧ yfz kNow hp h)) := by
  have hk : xtab 58 = (xc_58, 3, 1, []) := rfl
  obtain ⟨d, rfl⟩ : ∃ e, d = e + 1 := ⟨d - 1, by omega⟩
  have hS0 := hS
  have hok2 := hok
  obtain ⟨hz, h0, h1, h5⟩ := hok2
  obtain ⟨hid, hs_, hz_, ho_, hf_, hg_, ef, eg⟩ := hS
  show Ev (d + 1) 58 0 [(0, .ref 28), (1, yi x)] [] hp _
  refine E_run hk 3 (j' := 3) (lv' := [(0, .ref 28), (1, yi x)]) (st' := [yi 3, yi 0, yi x]) (hp' := hp) rfl ?_
  refine Y_callT hk rfl (as := [yi x, yi 0, yi 3]) (rest := []) (v := none) rfl rfl (Nat.le_of_ble_eq_true rfl) rfl (Nat.le_of_ble_eq_true rfl) (c_X8_checkRange (v := x) (l := 0) (m := 3) (by omega) (hd := by omega)) (fun g1 => ?_) rfl (fun g1 => ?_)
  rotate_left
  · exact Or.inr ⟨1, rfl, by first | exact Or.inr (⟨rfl, by first | assumption | omega, rfl⟩), (yfz.bare hp).mono (by simp)⟩
  refine E_run hk 1 (j' := 5) (lv' := [(0, .ref 28), (1, yi x)]) (st' := [.ref 28]) (hp' := hp) rfl ?_
  refine Y_call hk rfl (as := [.ref 28]) (rest := []) (v := none) rfl rfl (Nat.le_of_ble_eq_true rfl) (rcv0 h28) (Nat.le_of_ble_eq_true rfl) (c_X8_saveState h28 ⟨hid, hs_, hz_, ho_, hf_, hg_, ef, eg⟩ hN h26 hv hn6 hok hst (hd := by omega)) (fun H2 r3 => ?_)
  obtain ⟨e28_H2, sv_H2, f_H2⟩ := r3
  refine E_run hk 1 (j' := 7) (lv' := [(0, .ref 28), (1, yi x)]) (st' := [.ref 28]) (hp' := H2) rfl ?_
  refine E_get (v := .ref 29) hk rfl e28_H2 rfl ?_
  refine E_get (v := yi (S 4)) hk rfl (f_H2.at (by decide) (by decide) hs_) rfl ?_
  refine E_run hk 2 (j' := 11) (lv' := [(2, yi (S 4)), (0, .ref 28), (1, yi x)]) (st' := [.ref 28]) (hp' := H2) rfl ?_
  refine E_get (v := .ref 29) hk rfl e28_H2 rfl ?_
  refine E_run hk 1 (j' := 13) (lv' := [(2, yi (S 4)), (0, .ref 28), (1, yi x)]) (st' := [yi x, .ref 29]) (hp' := H2) rfl ?_
  refine Y_put hk rfl (f_H2.at (by decide) (by decide) hs_) (by decide) (Nat.le_of_ble_eq_true rfl) rfl (fs' := [.ref z, .ref o, yi (S 2), yi (S 3), yi x, yi r, yi t]) rfl (fun H4 e5 f6 => ?_)
  refine E_run hk 1 (j' := 15) (lv' := [(2, yi (S 4)), (0, .ref 28), (1, yi x)]) (st' := [yi (S 4)]) (hp' := H4) rfl ?_
  exact E_ret hk rfl rfl (Or.inl ⟨(S 4), rfl, Or.inl ⟨rfl, by omega, rfl, (f6.at (by decide) e28_H2), fun U hU => (sv_H2 U hU).fr (Nat.le_trans hN f_H2.1) (show yfr [29] H2 H4 from f6) (fun i hi => ((fun i (hi : i = 29) => (kNow_mem hid i (Or.inl hi))) i (by simpa using hi)).2), fun S2 hs2 => ⟨f, g, by subst hs2; exact yS.num (S2 := up S 4 x) (hS0.atz f_H2 (by decide)) e5 (show yfr [29] H2 H4 from f6) (fun q q1 => up_ne _ _ (by omega))⟩⟩, (f_H2.mono (by decide)).fr2 (show yfr [29] H2 H4 from f6) (fun i hi => ((fun i (hi : i = 29) => (kNow_mem hid i (Or.inl hi))) i (by simpa using hi)).1)⟩)
