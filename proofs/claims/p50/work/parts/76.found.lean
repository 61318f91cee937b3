/-! The class: what is refused; the matches, found. -/
/-- it answers z, or throws E; of that, and of the heap, R is true -/
def yA (R : Option Nat → Int → xH → Prop) : xO → xH → Prop := fun o h => (∃ z, o = .inl (some (yi z)) ∧ R none z h) ∨ (∃ E, o = .inr E ∧ R (some E) 0 h)
theorem yfz.frb {K : List Nat} {h h1 : xH} (a : yfr K h h1) : yfz K h (xbare h1 6) := ⟨by show h.1 ≤ h1.1 + 1; rw [a.1]; omega, by show h1.1 + 1 ≤ _; rw [a.1]; omega, by show h1.2.1 + 6 ≤ _; rw [a.2.1]; omega, fun i _ i2 => a.2.2 i i2, fun _ i _ _ i3 => a.2.2 i i3⟩
section EX
variable {d k j nL rk : Nat} {L : List xE} {hs : List xX} {lv : xL} {st : List Value} {hp : xH} {Q : xO → xH → Prop} {pc len : Nat} {ax : List Nat} {cv : Value}
/-- a call that may throw, of which more is known than what it answers; not caught here -/
theorem Y_callA {g na md ci : Nat} {r : List Nat} {i : Instr} {as rest : List Value} {R : Option Nat → Int → xH → Prop} (hk : xtab k = (L, nL, rk, hs)) (he : L[j]? = some (pc, 1, i, len, g :: na :: md :: ci :: r, cv)) (hst : st = as.reverse ++ rest) (hna : as.length = na) (hcat : (rest.map fun v => v.category).sum ≤ 8) (hr : xrcv md ci as hp = true) (hv : (as.map fun v => v.category).sum ≤ (xtab g).2.1)
    (hc : Cv d g as hp (yA R)) (kk : ∀ z h', R none z h' → Ev (d + 1) k (j + 1) lv (yi z :: rest) h' Q) (hx : ∀ E, xcatch hs pc E = none) (kx : ∀ E h', R (some E) 0 h' → Q (.inr E) h') : Ev (d + 1) k j lv st hp Q :=
  E_callX hk he hst hna hcat hr hv hc (fun v' h' e => by
    rcases e with ⟨z, e1, e2⟩ | ⟨E, e1, e2⟩
    · cases e1; exact kk z h' e2
    · cases e1) (fun E' h' e => by
    rcases e with ⟨z, e1, e2⟩ | ⟨E, e1, e2⟩
    · cases e1
    · cases e1; exact Or.inl ⟨hx _, kx _ _ e2⟩)
end EX
theorem c_X8_checkTune {d : Nat} {hp : xH} {t : Int} (ht : -2147483648 ≤ t ∧ t ≤ 2147483647) (hd : 4 ≤ d) : Cv d 87 [yi t] hp (yT (0 ≤ t ∧ t ≤ 1) 0 (none) hp) := by
  have hk : xtab 87 = (xc_87, 1, 0, []) := rfl
  obtain ⟨d, rfl⟩ : ∃ e, d = e + 1 := ⟨d - 1, by omega⟩
  show Ev (d + 1) 87 0 [(0, yi t)] [] hp _
  refine E_run hk 1 (j' := 1) (lv' := [(0, yi t)]) (st' := [yi t]) (hp' := hp) rfl ?_
  refine Y_if_lt (a := t) (by omega) hk rfl (fun g1 => ?_) (fun g1 => ?_)
  ·
    exact E_throw (by omega) hk rfl (Nat.le_of_ble_eq_true rfl) (Or.inr ⟨by omega, rfl, rfl⟩)
  ·
    refine E_run hk 2 (j' := 4) (lv' := [(0, yi t)]) (st' := [yi 2, yi t]) (hp' := hp) rfl ?_
    refine Y_ic_lt (a := t) (b := 2) (by omega) hk rfl (fun g2 => ?_) (fun g2 => ?_)
    ·
      exact E_ret hk rfl rfl (Or.inl ⟨by omega, rfl, rfl⟩)
    ·
      exact E_throw (by omega) hk rfl (Nat.le_of_ble_eq_true rfl) (Or.inr ⟨by omega, rfl, rfl⟩)
theorem c_X8_checkRange {d : Nat} {hp : xH} {v l m : Int} (hr : -2147483648 ≤ v ∧ v ≤ 2147483647 ∧ -2147483648 ≤ l ∧ l ≤ 2147483647 ∧ -2147483648 ≤ m ∧ m ≤ 2147483647) (hd : 4 ≤ d) : Cv d 90 [yi v, yi l, yi m] hp (yT (l ≤ v ∧ v ≤ m) 1 (none) hp) := by
  have hk : xtab 90 = (xc_90, 3, 0, []) := rfl
  obtain ⟨d, rfl⟩ : ∃ e, d = e + 1 := ⟨d - 1, by omega⟩
  show Ev (d + 1) 90 0 [(0, yi v), (1, yi l), (2, yi m)] [] hp _
  refine E_run hk 2 (j' := 2) (lv' := [(0, yi v), (1, yi l), (2, yi m)]) (st' := [yi l, yi v]) (hp' := hp) rfl ?_
  refine Y_ic_lt (a := v) (b := l) (by omega) hk rfl (fun g1 => ?_) (fun g1 => ?_)
  ·
    exact E_throw (by omega) hk rfl (Nat.le_of_ble_eq_true rfl) (Or.inr ⟨by omega, rfl, rfl⟩)
  ·
    refine E_run hk 2 (j' := 5) (lv' := [(0, yi v), (1, yi l), (2, yi m)]) (st' := [yi m, yi v]) (hp' := hp) rfl ?_
    refine Y_ic_le (a := v) (b := m) (by omega) hk rfl (fun g2 => ?_) (fun g2 => ?_)
    ·
      exact E_ret hk rfl rfl (Or.inl ⟨by omega, rfl, rfl⟩)
    ·
      exact E_throw (by omega) hk rfl (Nat.le_of_ble_eq_true rfl) (Or.inr ⟨by omega, rfl, rfl⟩)
theorem c_X8_checkNote {d : Nat} {hp : xH} {a p : Nat} (hap : 28 ≤ a ∧ 28 ≤ p ∧ a ≠ p) {f : Int → Int} {n : Int} (ha : xat hp a = some (.inr (7, [.ref p, yi n]))) (hf : xat hp p = some (yI 20 f)) (hn : 0 ≤ n ∧ n ≤ 20) {x : Int} (hx : -2147483648 ≤ x ∧ x ≤ 2147483647) (hd : 4 ≤ d) : Cv d 89 [.ref a, yi x] hp (yT (0 ≤ x ∧ x < n) 0 (none) hp) := by
  have hk : xtab 89 = (xc_89, 2, 0, []) := rfl
  obtain ⟨d, rfl⟩ : ∃ e, d = e + 1 := ⟨d - 1, by omega⟩
  show Ev (d + 1) 89 0 [(0, .ref a), (1, yi x)] [] hp _
  refine E_run hk 2 (j' := 2) (lv' := [(0, .ref a), (1, yi x)]) (st' := [yi x, .ref a]) (hp' := hp) rfl ?_
  refine Y_callP hk rfl (as := [.ref a, yi x]) (rest := []) (v := some (yi (b2 (0 ≤ x ∧ x < n)))) rfl rfl (Nat.le_of_ble_eq_true rfl) (rcv0 ha) (Nat.le_of_ble_eq_true rfl) (c_X6_hasNote (x := x) (a := a) (p := p) (f := f) (n := n) hap ha hf (by omega) (by omega)) ?_
  refine Y_b_ne hk rfl (fun g1 => ?_) (fun g1 => ?_)
  ·
    exact E_ret hk rfl rfl (Or.inl ⟨by omega, rfl, rfl⟩)
  ·
    exact E_throw (by omega) hk rfl (Nat.le_of_ble_eq_true rfl) (Or.inr ⟨by omega, rfl, rfl⟩)
theorem c_X8_checkMatched {d : Nat} {hp : xH} {kp cl od : Int} (h28 : xat hp 28 = some (.inr (8, [.ref 29, .ref 34, .ref 35, yi kp, .ref 40, yi cl, .ref 41, .ref 43, yi od, .ref 56, .ref 58]))) {z o : Nat} {S f g : Int → Int} {r t : Int} (hS : yS hp 29 z o S f g r t) (hl : 0 ≤ S 0 ∧ S 0 ≤ 20 ∧ 0 ≤ S 1 ∧ S 1 ≤ 20) (hb2 : 0 ≤ S 2 ∧ S 2 ≤ 20) (hd : 4 ≤ d) : Cv d 91 [.ref 28] hp (yT (0 < S 0 ∧ 0 < S 1 ∧ -S 2 ≤ S 0 - S 1 ∧ S 0 - S 1 ≤ S 2) 2 (none) hp) := by
  have hk : xtab 91 = (xc_91, 1, 0, []) := rfl
  obtain ⟨d, rfl⟩ : ∃ e, d = e + 1 := ⟨d - 1, by omega⟩
  obtain ⟨hid, hs_, hz_, ho_, hf_, hg_, ef, eg⟩ := hS
  show Ev (d + 1) 91 0 [(0, .ref 28)] [] hp _
  refine E_run hk 1 (j' := 1) (lv' := [(0, .ref 28)]) (st' := [.ref 28]) (hp' := hp) rfl ?_
  refine E_get (v := .ref 29) hk rfl h28 rfl ?_
  refine Y_callP hk rfl (as := [.ref 29]) (rest := []) (v := some (yi (b2 (0 < S 0 ∧ 0 < S 1 ∧ -S 2 ≤ S 0 - S 1 ∧ S 0 - S 1 ≤ S 2)))) rfl rfl (Nat.le_of_ble_eq_true rfl) (rcv0 hs_) (Nat.le_of_ble_eq_true rfl) (c_X5_hasMatch ⟨hid, hs_, hz_, ho_, hf_, hg_, ef, eg⟩ (by omega) (by omega) (hd := by omega)) ?_
  refine Y_b_ne hk rfl (fun g1 => ?_) (fun g1 => ?_)
  ·
    exact E_ret hk rfl rfl (Or.inl ⟨by omega, rfl, rfl⟩)
  ·
    exact E_throw (by omega) hk rfl (Nat.le_of_ble_eq_true rfl) (Or.inr ⟨by omega, rfl, rfl⟩)
theorem c_X8_checkNoneEmpty {d : Nat} {hp : xH} {kp cl od : Int} (h28 : xat hp 28 = some (.inr (8, [.ref 29, .ref 34, .ref 35, yi kp, .ref 40, yi cl, .ref 41, .ref 43, yi od, .ref 56, .ref 58]))) {z o : Nat} {S f g : Int → Int} {r t : Int} (hS : yS hp 29 z o S f g r t) (hl : 0 ≤ S 0 ∧ S 0 ≤ 20 ∧ 0 ≤ S 1 ∧ S 1 ≤ 20) (hd : 4 ≤ d) : Cv d 92 [.ref 28] hp (yT (¬ (S 0 = 0 ∨ S 1 = 0)) 2 (none) hp) := by
  have hk : xtab 92 = (xc_92, 1, 0, []) := rfl
  obtain ⟨d, rfl⟩ : ∃ e, d = e + 1 := ⟨d - 1, by omega⟩
  obtain ⟨hid, hs_, hz_, ho_, hf_, hg_, ef, eg⟩ := hS
  show Ev (d + 1) 92 0 [(0, .ref 28)] [] hp _
  refine E_run hk 1 (j' := 1) (lv' := [(0, .ref 28)]) (st' := [.ref 28]) (hp' := hp) rfl ?_
  refine E_get (v := .ref 29) hk rfl h28 rfl ?_
  refine Y_callP hk rfl (as := [.ref 29]) (rest := []) (v := some (yi (b2 (S 0 = 0 ∨ S 1 = 0)))) rfl rfl (Nat.le_of_ble_eq_true rfl) (rcv0 hs_) (Nat.le_of_ble_eq_true rfl) (c_X5_hasEmptyTune ⟨hid, hs_, hz_, ho_, hf_, hg_, ef, eg⟩ (by omega)) ?_
  refine Y_b_eq hk rfl (fun g1 => ?_) (fun g1 => ?_)
  ·
    exact E_ret hk rfl rfl (Or.inl ⟨by omega, rfl, rfl⟩)
  ·
    exact E_throw (by omega) hk rfl (Nat.le_of_ble_eq_true rfl) (Or.inr ⟨by omega, rfl, rfl⟩)
theorem c_X8_checkStopped {d : Nat} {hp : xH} {kp cl od : Int} (h28 : xat hp 28 = some (.inr (8, [.ref 29, .ref 34, .ref 35, yi kp, .ref 40, yi cl, .ref 41, .ref 43, yi od, .ref 56, .ref 58]))) {z o : Nat} {S f g : Int → Int} {r t : Int} (hS : yS hp 29 z o S f g r t) (hr0 : 0 ≤ r ∧ r ≤ 2) (hd : 4 ≤ d) : Cv d 93 [.ref 28] hp (yT (¬ r = 0) 2 (none) hp) := by
  have hk : xtab 93 = (xc_93, 1, 0, []) := rfl
  obtain ⟨d, rfl⟩ : ∃ e, d = e + 1 := ⟨d - 1, by omega⟩
  obtain ⟨hid, hs_, hz_, ho_, hf_, hg_, ef, eg⟩ := hS
  show Ev (d + 1) 93 0 [(0, .ref 28)] [] hp _
  refine E_run hk 1 (j' := 1) (lv' := [(0, .ref 28)]) (st' := [.ref 28]) (hp' := hp) rfl ?_
  refine E_get (v := .ref 29) hk rfl h28 rfl ?_
  refine E_get (v := yi r) hk rfl hs_ rfl ?_
  refine Y_if_ne (a := r) (by omega) hk rfl (fun g1 => ?_) (fun g1 => ?_)
  ·
    exact E_ret hk rfl rfl (Or.inl ⟨by omega, rfl, rfl⟩)
  ·
    exact E_throw (by omega) hk rfl (Nat.le_of_ble_eq_true rfl) (Or.inr ⟨by omega, rfl, rfl⟩)
theorem c_X8_tuneAt {d : Nat} {hp : xH} {kp cl od : Int} (h28 : xat hp 28 = some (.inr (8, [.ref 29, .ref 34, .ref 35, yi kp, .ref 40, yi cl, .ref 41, .ref 43, yi od, .ref 56, .ref 58]))) {z o : Nat} {S f g : Int → Int} {r t : Int} (hS : yS hp 29 z o S f g r t) {x : Int} (hx : -2147483648 ≤ x ∧ x ≤ 2147483647) (hd : 5 ≤ d) : Cv d 88 [.ref 28, yi x] hp (yT (0 ≤ x ∧ x ≤ 1) 0 (some (.ref (tun x z o))) hp) := by
  have hk : xtab 88 = (xc_88, 2, 5, []) := rfl
  obtain ⟨d, rfl⟩ : ∃ e, d = e + 1 := ⟨d - 1, by omega⟩
  obtain ⟨hid, hs_, hz_, ho_, hf_, hg_, ef, eg⟩ := hS
  show Ev (d + 1) 88 0 [(0, .ref 28), (1, yi x)] [] hp _
  refine E_run hk 1 (j' := 1) (lv' := [(0, .ref 28), (1, yi x)]) (st' := [yi x]) (hp' := hp) rfl ?_
  refine Y_callT hk rfl (as := [yi x]) (rest := []) (v := none) rfl rfl (Nat.le_of_ble_eq_true rfl) rfl (Nat.le_of_ble_eq_true rfl) (c_X8_checkTune (t := x) (by omega) (hd := by omega)) (fun g1 => ?_) rfl (fun g1 => ?_)
  rotate_left
  · exact Or.inr ⟨g1, rfl, rfl⟩
  refine E_run hk 1 (j' := 3) (lv' := [(0, .ref 28), (1, yi x)]) (st' := [.ref 28]) (hp' := hp) rfl ?_
  refine E_get (v := .ref 29) hk rfl h28 rfl ?_
  refine E_run hk 1 (j' := 5) (lv' := [(0, .ref 28), (1, yi x)]) (st' := [yi x, .ref 29]) (hp' := hp) rfl ?_
  have u2 := yS.tun (x := x) (show yS hp 29 z o S f g _ _ from ⟨hid, hs_, hz_, ho_, hf_, hg_, ef, eg⟩) (by omega)
  refine Y_callP hk rfl (as := [.ref 29, yi x]) (rest := []) (v := some (.ref (tun x z o))) rfl rfl (Nat.le_of_ble_eq_true rfl) (rcv0 hs_) (Nat.le_of_ble_eq_true rfl) (c_X5_tuneOf ⟨hid, hs_, hz_, ho_, hf_, hg_, ef, eg⟩ (x := x) (by omega)) ?_
  exact E_ret hk rfl rfl (Or.inl ⟨by omega, rfl, rfl⟩)
theorem c_X2_leastTo {d : Nat} {hp : xH} {A : Int → Int} {c e nb : Int} (h43 : xat hp 43 = some (.inr (3, [.ref 44, .ref 46, .ref 48, .ref 50, .ref 52, .ref 53, .ref 54, .ref 55, yi c, yi e, yi nb]))) (h44 : xat hp 44 = some (.inr (1, [.ref 45]))) (h45 : xat hp 45 = some (yI 400 A)) {i j : Int} (hi : 0 ≤ i ∧ i < 20 ∧ 0 ≤ j ∧ j < 20) (hd : 1 ≤ d) : Cv d 10 [.ref 43, yi i, yi j] hp (yP (some (yi (A (20 * i + j)))) hp) := by
  have hk : xtab 10 = (xc_10, 3, 1, []) := rfl
  obtain ⟨d, rfl⟩ : ∃ e, d = e + 1 := ⟨d - 1, by omega⟩
  show Ev (d + 1) 10 0 [(0, .ref 43), (1, yi i), (2, yi j)] [] hp _
  refine E_run hk 1 (j' := 1) (lv' := [(0, .ref 43), (1, yi i), (2, yi j)]) (st' := [.ref 43]) (hp' := hp) rfl ?_
  refine E_get (v := .ref 44) hk rfl h43 rfl ?_
  refine E_run hk 2 (j' := 4) (lv' := [(0, .ref 43), (1, yi i), (2, yi j)]) (st' := [yi j, yi i, .ref 44]) (hp' := hp) rfl ?_
  refine Y_callP hk rfl (as := [.ref 44, yi i, yi j]) (rest := []) (v := some (yi (gat A i j))) rfl rfl (Nat.le_of_ble_eq_true rfl) (rcv0 h44) (Nat.le_of_ble_eq_true rfl) (c_X0_at (i := i) (j := j) (a := 44) (p := 45) (k := A) ⟨by decide, by decide, by decide⟩ h44 h45 (by omega)) ?_
  exact E_ret hk rfl rfl (li (by unfold gat; exact if_pos (by omega)))
theorem c_X2_leastFromBegin {d : Nat} {hp : xH} {A : Int → Int} {c e nb : Int} (h43 : xat hp 43 = some (.inr (3, [.ref 44, .ref 46, .ref 48, .ref 50, .ref 52, .ref 53, .ref 54, .ref 55, yi c, yi e, yi nb]))) (h44 : xat hp 44 = some (.inr (1, [.ref 45]))) (h45 : xat hp 45 = some (yI 400 A)) {z o : Nat} {S f g : Int → Int} {r t : Int} (hS : yS hp 29 z o S f g r t) (hl : 0 ≤ S 0 ∧ S 0 ≤ 20 ∧ 0 ≤ S 1 ∧ S 1 ≤ 20) (hpos : 0 < S 0 ∧ 0 < S 1) (hd : 1 ≤ d) : Cv d 11 [.ref 43, .ref 29] hp (yP (some (yi (A (20 * (S 0 - 1) + (S 1 - 1))))) hp) := by
  have hk : xtab 11 = (xc_11, 2, 1, []) := rfl
  obtain ⟨d, rfl⟩ : ∃ e, d = e + 1 := ⟨d - 1, by omega⟩
  obtain ⟨hid, hs_, hz_, ho_, hf_, hg_, ef, eg⟩ := hS
  show Ev (d + 1) 11 0 [(0, .ref 43), (1, .ref 29)] [] hp _
  refine E_run hk 1 (j' := 1) (lv' := [(0, .ref 43), (1, .ref 29)]) (st' := [.ref 43]) (hp' := hp) rfl ?_
  refine E_get (v := .ref 44) hk rfl h43 rfl ?_
  refine E_run hk 1 (j' := 3) (lv' := [(0, .ref 43), (1, .ref 29)]) (st' := [.ref 29, .ref 44]) (hp' := hp) rfl ?_
  refine E_get (v := .ref z) hk rfl hs_ rfl ?_
  refine E_get (v := yi (S 0)) hk rfl hz_ rfl ?_
  refine E_run hk 1 (j' := 6) (lv' := [(0, .ref 43), (1, .ref 29)]) (st' := [yi 1, yi (S 0), .ref 44]) (hp' := hp) rfl ?_
  refine Y_isub (a := (S 0)) (b := 1) hk rfl ?_
  refine E_run hk 1 (j' := 8) (lv' := [(0, .ref 43), (1, .ref 29)]) (st' := [.ref 29, yi ((S 0) - 1), .ref 44]) (hp' := hp) rfl ?_
  refine E_get (v := .ref o) hk rfl hs_ rfl ?_
  refine E_get (v := yi (S 1)) hk rfl ho_ rfl ?_
  refine E_run hk 1 (j' := 11) (lv' := [(0, .ref 43), (1, .ref 29)]) (st' := [yi 1, yi (S 1), yi ((S 0) - 1), .ref 44]) (hp' := hp) rfl ?_
  refine Y_isub (a := (S 1)) (b := 1) hk rfl ?_
  refine Y_callP hk rfl (as := [.ref 44, yi ((S 0) - 1), yi ((S 1) - 1)]) (rest := []) (v := some (yi (gat A ((S 0) - 1) ((S 1) - 1)))) rfl rfl (Nat.le_of_ble_eq_true rfl) (rcv0 h44) (Nat.le_of_ble_eq_true rfl) (c_X0_at (i := ((S 0) - 1)) (j := ((S 1) - 1)) (a := 44) (p := 45) (k := A) ⟨by decide, by decide, by decide⟩ h44 h45 (by omega)) ?_
  exact E_ret hk rfl rfl (li (by unfold gat; exact if_pos (by omega)))
theorem c_X2_leastFromEnd {d : Nat} {hp : xH} {B : Int → Int} {c e nb : Int} (h43 : xat hp 43 = some (.inr (3, [.ref 44, .ref 46, .ref 48, .ref 50, .ref 52, .ref 53, .ref 54, .ref 55, yi c, yi e, yi nb]))) (h46 : xat hp 46 = some (.inr (1, [.ref 47]))) (h47 : xat hp 47 = some (yI 400 B)) (hd : 1 ≤ d) : Cv d 12 [.ref 43] hp (yP (some (yi (B 0))) hp) := by
  have hk : xtab 12 = (xc_12, 1, 1, []) := rfl
  obtain ⟨d, rfl⟩ : ∃ e, d = e + 1 := ⟨d - 1, by omega⟩
  show Ev (d + 1) 12 0 [(0, .ref 43)] [] hp _
  refine E_run hk 1 (j' := 1) (lv' := [(0, .ref 43)]) (st' := [.ref 43]) (hp' := hp) rfl ?_
  refine E_get (v := .ref 46) hk rfl h43 rfl ?_
  refine E_run hk 2 (j' := 4) (lv' := [(0, .ref 43)]) (st' := [yi 0, yi 0, .ref 46]) (hp' := hp) rfl ?_
  refine Y_callP hk rfl (as := [.ref 46, yi 0, yi 0]) (rest := []) (v := some (yi (gat B 0 0))) rfl rfl (Nat.le_of_ble_eq_true rfl) (rcv0 h46) (Nat.le_of_ble_eq_true rfl) (c_X0_at (i := 0) (j := 0) (a := 46) (p := 47) (k := B) ⟨by decide, by decide, by decide⟩ h46 h47 (by omega)) ?_
  exact E_ret hk rfl rfl (li rfl)
theorem c_X2_noteOf {d : Nat} {hp : xH} {P Q : Int → Int} {c e nb : Int} (h43 : xat hp 43 = some (.inr (3, [.ref 44, .ref 46, .ref 48, .ref 50, .ref 52, .ref 53, .ref 54, .ref 55, yi c, yi e, yi nb]))) (h52 : xat hp 52 = some (yI 39 P)) (h53 : xat hp 53 = some (yI 39 Q)) {t x : Int} (ht : 0 ≤ t ∧ t ≤ 1) (hx : 0 ≤ x ∧ x < 39) : Cv d 13 [.ref 43, yi t, yi x] hp (yP (some (yi ((if t = 0 then P else Q) x))) hp) := by
  have hk : xtab 13 = (xc_13, 4, 1, []) := rfl
  show Ev d 13 0 [(0, .ref 43), (1, yi t), (2, yi x)] [] hp _
  refine E_run hk 1 (j' := 1) (lv' := [(0, .ref 43), (1, yi t), (2, yi x)]) (st' := [yi t]) (hp' := hp) rfl ?_
  refine Y_if_ne (a := t) (by omega) hk rfl (fun g1 => ?_) (fun g1 => ?_)
  ·
    refine E_run hk 1 (j' := 6) (lv' := [(0, .ref 43), (1, yi t), (2, yi x)]) (st' := [.ref 43]) (hp' := hp) rfl ?_
    refine E_get (v := .ref 53) hk rfl h43 rfl ?_
    refine E_run hk 2 (j' := 9) (lv' := [(3, .ref 53), (0, .ref 43), (1, yi t), (2, yi x)]) (st' := [yi x]) (hp' := hp) rfl ?_
    refine Y_if_lt (a := x) (by omega) hk rfl (fun g2 => ?_) (fun g2 => ?_)
    · exfalso; omega
    ·
      refine E_run hk 2 (j' := 12) (lv' := [(3, .ref 53), (0, .ref 43), (1, yi t), (2, yi x)]) (st' := [.ref 53, yi x]) (hp' := hp) rfl ?_
      refine Y_alen (by decide) hk rfl h53 ?_
      refine Y_ic_lt (a := x) (b := 39) (by omega) hk rfl (fun g3 => ?_) (fun g3 => ?_)
      ·
        refine E_run hk 2 (j' := 18) (lv' := [(3, .ref 53), (0, .ref 43), (1, yi t), (2, yi x)]) (st' := [yi x, .ref 53]) (hp' := hp) rfl ?_
        refine Y_iald (a := x) (by omega) (by decide) hk rfl h53 ?_
        exact E_ret hk rfl rfl (li (by first | (rw [if_pos (by omega)]; done) | (rw [if_neg (by omega)]; done)))
      · exfalso; omega
  ·
    refine E_run hk 1 (j' := 3) (lv' := [(0, .ref 43), (1, yi t), (2, yi x)]) (st' := [.ref 43]) (hp' := hp) rfl ?_
    refine E_get (v := .ref 52) hk rfl h43 rfl ?_
    refine E_run hk 3 (j' := 9) (lv' := [(3, .ref 52), (0, .ref 43), (1, yi t), (2, yi x)]) (st' := [yi x]) (hp' := hp) rfl ?_
    refine Y_if_lt (a := x) (by omega) hk rfl (fun g4 => ?_) (fun g4 => ?_)
    · exfalso; omega
    ·
      refine E_run hk 2 (j' := 12) (lv' := [(3, .ref 52), (0, .ref 43), (1, yi t), (2, yi x)]) (st' := [.ref 52, yi x]) (hp' := hp) rfl ?_
      refine Y_alen (by decide) hk rfl h52 ?_
      refine Y_ic_lt (a := x) (b := 39) (by omega) hk rfl (fun g5 => ?_) (fun g5 => ?_)
      ·
        refine E_run hk 2 (j' := 18) (lv' := [(3, .ref 52), (0, .ref 43), (1, yi t), (2, yi x)]) (st' := [yi x, .ref 52]) (hp' := hp) rfl ?_
        refine Y_iald (a := x) (by omega) (by decide) hk rfl h52 ?_
        exact E_ret hk rfl rfl (li (by first | (rw [if_pos (by omega)]; done) | (rw [if_neg (by omega)]; done)))
      · exfalso; omega
theorem c_X2_stretchOf {d : Nat} {hp : xH} {U V : Int → Int} {c e nb : Int} (h43 : xat hp 43 = some (.inr (3, [.ref 44, .ref 46, .ref 48, .ref 50, .ref 52, .ref 53, .ref 54, .ref 55, yi c, yi e, yi nb]))) (h54 : xat hp 54 = some (yI 20 U)) (h55 : xat hp 55 = some (yI 20 V)) {t x : Int} (ht : 0 ≤ t ∧ t ≤ 1) (hx : 0 ≤ x ∧ x < 20) : Cv d 14 [.ref 43, yi t, yi x] hp (yP (some (yi ((if t = 0 then U else V) x))) hp) := by
  have hk : xtab 14 = (xc_14, 4, 1, []) := rfl
  show Ev d 14 0 [(0, .ref 43), (1, yi t), (2, yi x)] [] hp _
  refine E_run hk 1 (j' := 1) (lv' := [(0, .ref 43), (1, yi t), (2, yi x)]) (st' := [yi t]) (hp' := hp) rfl ?_
  refine Y_if_ne (a := t) (by omega) hk rfl (fun g1 => ?_) (fun g1 => ?_)
  ·
    refine E_run hk 1 (j' := 6) (lv' := [(0, .ref 43), (1, yi t), (2, yi x)]) (st' := [.ref 43]) (hp' := hp) rfl ?_
    refine E_get (v := .ref 55) hk rfl h43 rfl ?_
    refine E_run hk 2 (j' := 9) (lv' := [(3, .ref 55), (0, .ref 43), (1, yi t), (2, yi x)]) (st' := [yi x]) (hp' := hp) rfl ?_
    refine Y_if_lt (a := x) (by omega) hk rfl (fun g2 => ?_) (fun g2 => ?_)
    · exfalso; omega
    ·
      refine E_run hk 2 (j' := 12) (lv' := [(3, .ref 55), (0, .ref 43), (1, yi t), (2, yi x)]) (st' := [.ref 55, yi x]) (hp' := hp) rfl ?_
      refine Y_alen (by decide) hk rfl h55 ?_
      refine Y_ic_lt (a := x) (b := 20) (by omega) hk rfl (fun g3 => ?_) (fun g3 => ?_)
      ·
        refine E_run hk 2 (j' := 18) (lv' := [(3, .ref 55), (0, .ref 43), (1, yi t), (2, yi x)]) (st' := [yi x, .ref 55]) (hp' := hp) rfl ?_
        refine Y_iald (a := x) (by omega) (by decide) hk rfl h55 ?_
        exact E_ret hk rfl rfl (li (by first | (rw [if_pos (by omega)]; done) | (rw [if_neg (by omega)]; done)))
      · exfalso; omega
  ·
    refine E_run hk 1 (j' := 3) (lv' := [(0, .ref 43), (1, yi t), (2, yi x)]) (st' := [.ref 43]) (hp' := hp) rfl ?_
    refine E_get (v := .ref 54) hk rfl h43 rfl ?_
    refine E_run hk 3 (j' := 9) (lv' := [(3, .ref 54), (0, .ref 43), (1, yi t), (2, yi x)]) (st' := [yi x]) (hp' := hp) rfl ?_
    refine Y_if_lt (a := x) (by omega) hk rfl (fun g4 => ?_) (fun g4 => ?_)
    · exfalso; omega
    ·
      refine E_run hk 2 (j' := 12) (lv' := [(3, .ref 54), (0, .ref 43), (1, yi t), (2, yi x)]) (st' := [.ref 54, yi x]) (hp' := hp) rfl ?_
      refine Y_alen (by decide) hk rfl h54 ?_
      refine Y_ic_lt (a := x) (b := 20) (by omega) hk rfl (fun g5 => ?_) (fun g5 => ?_)
      ·
        refine E_run hk 2 (j' := 18) (lv' := [(3, .ref 54), (0, .ref 43), (1, yi t), (2, yi x)]) (st' := [yi x, .ref 54]) (hp' := hp) rfl ?_
        refine Y_iald (a := x) (by omega) (by decide) hk rfl h54 ?_
        exact E_ret hk rfl rfl (li (by first | (rw [if_pos (by omega)]; done) | (rw [if_neg (by omega)]; done)))
      · exfalso; omega
theorem lng_ext {f : Int → Int} {c : Nat} (h0 : ∀ y : Int, 0 ≤ y → y < c → 0 ≤ f y) : ∀ (m : Nat) (k : Nat), (∀ x : Int, (k : Int) ≤ x → x < k + m → cnt f x c = 0) → lng f c (k + m) = lng f c k := by
  intro m
  induction m with
  | zero => intro k _; rfl
  | succ m ih =>
    intro k h
    have e := ih k (fun x x1 x2 => h x x1 (by omega))
    show (if lng f c (k + m) < cnt f ((k + m : Nat) : Int) c then cnt f ((k + m : Nat) : Int) c else lng f c (k + m)) = _
    have z := h ((k + m : Nat) : Int) (by omega) (by omega)
    rw [z, e]
    have nn : ∀ n : Nat, 0 ≤ lng f c n := by
      intro n
      induction n with
      | zero => exact Int.le_refl 0
      | succ n ih => 
        show 0 ≤ (if lng f c n < cnt f (n : Int) c then cnt f (n : Int) c else lng f c n)
        split <;> omega
    rw [if_neg (by have := nn k; omega)]
theorem cnt_none {f : Int → Int} {x : Int} : ∀ c : Nat, (∀ y : Int, 0 ≤ y → y < c → ¬ f y = x) → cnt f x c = 0 := by
  intro c
  induction c with
  | zero => intro _; rfl
  | succ c ih =>
    intro h
    show cnt f x c + (if f (c : Int) = x then 1 else 0) = 0
    rw [ih (fun y y1 y2 => h y y1 (by omega)), if_neg (h c (by omega) (by omega))]
    rfl
theorem lng_20 {f : Int → Int} {c : Nat} {m : Int} (hm : 0 ≤ m ∧ m ≤ 20) (h : ∀ y : Int, 0 ≤ y → y < c → 0 ≤ f y ∧ f y < m) : lng f c 20 = lng f c m.toNat := by
  have e := lng_ext (f := f) (c := c) (fun y y1 y2 => (h y y1 y2).1) (20 - m.toNat) m.toNat (fun x x1 x2 => cnt_none c (fun y y1 y2 q => by have := h y y1 y2; omega))
  rw [← e]
  congr 1
  omega
theorem lng_rng (f : Int → Int) (c : Nat) : ∀ n : Nat, 0 ≤ lng f c n ∧ lng f c n ≤ c := by
  intro n
  induction n with
  | zero => exact ⟨Int.le_refl 0, by show (0 : Int) ≤ c; omega⟩
  | succ n ih =>
    have r := cnt_rng f (n : Int) c
    show 0 ≤ (if lng f c n < cnt f (n : Int) c then cnt f (n : Int) c else lng f c n) ∧ (if lng f c n < cnt f (n : Int) c then cnt f (n : Int) c else lng f c n) ≤ c
    split <;> omega
theorem c_X2_greatestStretch {d : Nat} {hp : xH} {c e nb : Int} (h43 : xat hp 43 = some (.inr (3, [.ref 44, .ref 46, .ref 48, .ref 50, .ref 52, .ref 53, .ref 54, .ref 55, yi c, yi e, yi nb]))) {U V P Q : Int → Int} (h54 : xat hp 54 = some (yI 20 U)) (h55 : xat hp 55 = some (yI 20 V)) {t : Int} (ht : 0 ≤ t ∧ t ≤ 1) (hc : 0 ≤ c ∧ c ≤ 39) (hu : ∀ y, 0 ≤ y → y < 20 → U y = cnt P y c.toNat ∧ V y = cnt Q y c.toNat) (hd : 1 ≤ d) : Cv d 15 [.ref 43, yi t] hp (yP (some (yi (lng (if t = 0 then P else Q) c.toNat 20))) hp) := by
  have hk : xtab 15 = (xc_15, 4, 1, []) := rfl
  obtain ⟨d, rfl⟩ : ∃ e, d = e + 1 := ⟨d - 1, by omega⟩
  show Ev (d + 1) 15 0 [(0, .ref 43), (1, yi t)] [] hp _
  refine E_run hk 4 (j' := 4) (lv' := [(3, yi 0), (2, yi 0), (0, .ref 43), (1, yi t)]) (st' := []) (hp' := hp) rfl ?_
  have loop4 : ∀ (N : Nat) (i : Int) (n : Int), (0 ≤ i ∧ i ≤ 20 ∧ 0 ≤ n ∧ n ≤ 39) → (n = lng (if t = 0 then P else Q) c.toNat i.toNat) → (20 - i).toNat = N → Ev (d + 1) 15 4 [(0, .ref 43), (1, yi t), (2, yi n), (3, yi i)] [] hp (yP (some (yi (lng (if t = 0 then P else Q) c.toNat 20))) hp) := by
    intro N
    induction N using Nat.strongRecOn with
    | ind N ih4 =>
      intro i n J1 J2 hm4
      refine E_run hk 1 (j' := 5) (lv' := [(0, .ref 43), (1, yi t), (2, yi n), (3, yi i)]) (st' := [yi i]) (hp' := hp) rfl ?_
      refine E_run hk 1 (j' := 6) (lv' := [(0, .ref 43), (1, yi t), (2, yi n), (3, yi i)]) (st' := [yi 20, yi i]) (hp' := hp) rfl ?_
      refine Y_ic_ge (a := i) (b := 20) (by omega) hk rfl (fun g1 => ?_) (fun g1 => ?_)
      ·
        refine E_run hk 1 (j' := 17) (lv' := [(0, .ref 43), (1, yi t), (2, yi n), (3, yi i)]) (st' := [yi n]) (hp' := hp) rfl ?_
        exact E_ret hk rfl rfl (li (by rw [J2, show i = 20 by omega]; rfl))
      ·
        have w1 : (if t = 0 then U else V) i = cnt (if t = 0 then P else Q) i c.toNat := by
          by_cases q : t = 0
          · rw [if_pos q, if_pos q]
            exact (hu i (by omega) (by omega)).1
          · rw [if_neg q, if_neg q]
            exact (hu i (by omega) (by omega)).2
        have w2 := cnt_rng (if t = 0 then P else Q) i c.toNat
        rw [← w1] at w2
        refine E_run hk 4 (j' := 11) (lv' := [(0, .ref 43), (1, yi t), (2, yi n), (3, yi i)]) (st' := [yi i, yi t, .ref 43, yi n]) (hp' := hp) rfl ?_
        refine Y_callP hk rfl (as := [.ref 43, yi t, yi i]) (rest := [yi n]) (v := some (yi ((if t = 0 then U else V) i))) rfl rfl (Nat.le_of_ble_eq_true rfl) (rcv0 h43) (Nat.le_of_ble_eq_true rfl) (c_X2_stretchOf (t := t) (x := i) h43 h54 h55 (by omega) (by omega)) ?_
        refine Y_max (a := n) (b := ((if t = 0 then U else V) i)) (by omega) hk rfl (Nat.le_of_ble_eq_true rfl) ?_
        refine E_run hk 1 (j' := 14) (lv' := [(2, yi (mx n ((if t = 0 then U else V) i))), (0, .ref 43), (1, yi t), (3, yi i)]) (st' := []) (hp' := hp) rfl ?_
        refine Y_iinc (a := i) (z := 1) hk rfl rfl rfl (by decide) (lv' := [(3, yi (i + 1)), (2, yi (mx n ((if t = 0 then U else V) i))), (0, .ref 43), (1, yi t)]) rfl ?_
        refine E_run hk 1 (j' := 4) (lv' := [(3, yi (i + 1)), (2, yi (mx n ((if t = 0 then U else V) i))), (0, .ref 43), (1, yi t)]) (st' := []) (hp' := hp) rfl ?_
        exact Ev_le (xle_s rfl rfl (xle_s rfl rfl (xle_s rfl rfl (xle_s rfl rfl (xle_z _ rfl))))) (ih4 _ (by omega) (i + 1) (mx n ((if t = 0 then U else V) i))  (by rw [w1]; have q := mx_rng n (cnt (if t = 0 then P else Q) i c.toNat); omega) (by
        rw [lng_s (by omega), ← J2, w1]
        have q := mx_rng n (cnt (if t = 0 then P else Q) i c.toNat)
        by_cases z : n < cnt (if t = 0 then P else Q) i c.toNat
        · rw [if_pos z]
          omega
        · rw [if_neg z]
          omega) rfl)
  exact Ev_le (xle_s rfl rfl (xle_s rfl rfl (xle_s rfl rfl (xle_s rfl rfl (xle_z _ rfl))))) (loop4 _ 0 0  (by omega) (rfl) rfl)
theorem c_X2_shareOfBoth {d : Nat} {hp : xH} {c e nb : Int} (h43 : xat hp 43 = some (.inr (3, [.ref 44, .ref 46, .ref 48, .ref 50, .ref 52, .ref 53, .ref 54, .ref 55, yi c, yi e, yi nb]))) (hc : 0 ≤ c ∧ c ≤ 39 ∧ 0 ≤ e ∧ e ≤ c) : Cv d 16 [.ref 43] hp (yR (some (.double (shv c e))) (fun h => h = hp)) := by
  have hk : xtab 16 = (xc_16, 1, 4, []) := rfl
  show Ev d 16 0 [(0, .ref 43)] [] hp _
  refine E_run hk 1 (j' := 1) (lv' := [(0, .ref 43)]) (st' := [.ref 43]) (hp' := hp) rfl ?_
  refine E_get (v := yi c) hk rfl h43 rfl ?_
  refine Y_if_gt (a := c) (by omega) hk rfl (fun g1 => ?_) (fun g1 => ?_)
  ·
    refine E_run hk 1 (j' := 6) (lv' := [(0, .ref 43)]) (st' := [.ref 43]) (hp' := hp) rfl ?_
    refine E_get (v := yi c) hk rfl h43 rfl ?_
    refine E_run hk 1 (j' := 8) (lv' := [(0, .ref 43)]) (st' := [.ref 43, yi c]) (hp' := hp) rfl ?_
    refine E_get (v := yi e) hk rfl h43 rfl ?_
    refine Y_isub (a := c) (b := e) hk rfl ?_
    refine E_run hk 2 (j' := 12) (lv' := [(0, .ref 43)]) (st' := [.ref 43, .double (FP.i2d (iN (c - e)))]) (hp' := hp) rfl ?_
    refine E_get (v := yi c) hk rfl h43 rfl ?_
    refine E_run hk 1 (j' := 14) (lv' := [(0, .ref 43)]) (st' := [.double (FP.i2d (iN c)), .double (FP.i2d (iN (c - e)))]) (hp' := hp) rfl ?_
    refine Y_ddiv (x := (FP.i2d (iN (c - e)))) (y := (FP.i2d (iN c))) (fp_div (by omega)) hk rfl ?_
    exact E_ret hk rfl rfl ⟨by unfold shv; first | (rw [if_pos (by omega)]; done) | (rw [if_neg (by omega)]; done), rfl⟩
  ·
    refine E_run hk 2 (j' := 15) (lv' := [(0, .ref 43)]) (st' := [.double FP.dconst0]) (hp' := hp) rfl ?_
    exact E_ret hk rfl rfl ⟨by unfold shv; first | (rw [if_pos (by omega)]; done) | (rw [if_neg (by omega)]; done), rfl⟩
/-- the matches; od = 0: they are those of S -/
def yMs (h : xH) (S : Int → Int) (od : Int) : Prop := xat h 44 = some (.inr (1, [.ref 45])) ∧ xat h 46 = some (.inr (1, [.ref 47])) ∧ xat h 48 = some (.inr (1, [.ref 49])) ∧ xat h 50 = some (.inr (1, [.ref 51])) ∧ (∃ C, xat h 49 = some (yI 400 C)) ∧ (∃ N, xat h 51 = some (yI 400 N)) ∧
  ∃ c A B P Q U V, (od = 0 ∧ yMk h S c A B P Q U V) ∨ (od = 1 ∧ ∃ e nb, xat h 43 = some (.inr (3, [.ref 44, .ref 46, .ref 48, .ref 50, .ref 52, .ref 53, .ref 54, .ref 55, yi c, yi e, yi nb])) ∧ xat h 45 = some (yI 400 A) ∧ xat h 47 = some (yI 400 B) ∧ xat h 52 = some (yI 39 P) ∧ xat h 53 = some (yI 39 Q) ∧ xat h 54 = some (yI 20 U) ∧ xat h 55 = some (yI 20 V))
theorem yMs.at {h h' : xH} {S : Int → Int} {od : Int} (H : yMs h S od) (F : ∀ i, 43 ≤ i → i ≤ 55 → xat h' i = xat h i) : yMs h' S od := by
  obtain ⟨a1, a2, a3, a4, ⟨C, a5⟩, ⟨N, a6⟩, c, A, B, P, Q, U, V, b⟩ := H
  refine ⟨(F _ (by decide) (by decide)).trans a1, (F _ (by decide) (by decide)).trans a2, (F _ (by decide) (by decide)).trans a3, (F _ (by decide) (by decide)).trans a4, ⟨C, (F _ (by decide) (by decide)).trans a5⟩, ⟨N, (F _ (by decide) (by decide)).trans a6⟩, c, A, B, P, Q, U, V, ?_⟩
  rcases b with ⟨b0, b1, b2, b3, b4, b5, b6, b7, b8⟩ | ⟨b0, e, nb, b1, b2, b3, b4, b5, b6, b7⟩
  · exact Or.inl ⟨b0, (F _ (by decide) (by decide)).trans b1, (F _ (by decide) (by decide)).trans b2, (F _ (by decide) (by decide)).trans b3, (F _ (by decide) (by decide)).trans b4, (F _ (by decide) (by decide)).trans b5, (F _ (by decide) (by decide)).trans b6, (F _ (by decide) (by decide)).trans b7, b8⟩
  · exact Or.inr ⟨b0, e, nb, (F _ (by decide) (by decide)).trans b1, (F _ (by decide) (by decide)).trans b2, (F _ (by decide) (by decide)).trans b3, (F _ (by decide) (by decide)).trans b4, (F _ (by decide) (by decide)).trans b5, (F _ (by decide) (by decide)).trans b6, (F _ (by decide) (by decide)).trans b7⟩
theorem c_found1 {d : Nat} {hp : xH} {kp cl : Int} (h28 : xat hp 28 = some (.inr (8, [.ref 29, .ref 34, .ref 35, yi kp, .ref 40, yi cl, .ref 41, .ref 43, yi 1, .ref 56, .ref 58]))) {c e nb : Int} (h43 : xat hp 43 = some (.inr (3, [.ref 44, .ref 46, .ref 48, .ref 50, .ref 52, .ref 53, .ref 54, .ref 55, yi c, yi e, yi nb]))) (h44 : xat hp 44 = some (.inr (1, [.ref 45]))) (h46 : xat hp 46 = some (.inr (1, [.ref 47]))) (h48 : xat hp 48 = some (.inr (1, [.ref 49]))) (h50 : xat hp 50 = some (.inr (1, [.ref 51]))) {A B C N P Q U V : Int → Int} (h45 : xat hp 45 = some (yI 400 A)) (h47 : xat hp 47 = some (yI 400 B)) (h49 : xat hp 49 = some (yI 400 C)) (h51 : xat hp 51 = some (yI 400 N)) (h52 : xat hp 52 = some (yI 39 P)) (h53 : xat hp 53 = some (yI 39 Q)) (h54 : xat hp 54 = some (yI 20 U)) (h55 : xat hp 55 = some (yI 20 V)) {z o : Nat} {S f g : Int → Int} {r t : Int} (hS : yS hp 29 z o S f g r t) (hz : 0 ≤ S 0 ∧ S 0 ≤ 20 ∧ 0 ≤ S 1 ∧ S 1 ≤ 20 ∧ 0 ≤ S 2 ∧ S 2 ≤ 20 ∧ 0 ≤ S 3 ∧ S 3 ≤ 50 ∧ 0 ≤ S 4 ∧ S 4 ≤ 3) (h0 : ∀ q, 0 ≤ q → q < S 0 → 0 ≤ S (7 + q) ∧ S (7 + q) ≤ 60) (h1 : ∀ q, 0 ≤ q → q < S 1 → 0 ≤ S (27 + q) ∧ S (27 + q) ≤ 60) (hd : 5 ≤ d) : Cv d 95 [.ref 28] hp (yR (some (.ref 43)) (fun h => ∃ c A B P Q U V, yMk h S c A B P Q U V ∧ (∃ C, xat h 49 = some (yI 400 C)) ∧ (∃ N, xat h 51 = some (yI 400 N)) ∧ xat h 28 = some (.inr (8, [.ref 29, .ref 34, .ref 35, yi kp, .ref 40, yi cl, .ref 41, .ref 43, yi 0, .ref 56, .ref 58])) ∧ yfr [28, 43, 45, 47, 49, 51, 52, 53, 54, 55] hp h)) := by
  have hk : xtab 95 = (xc_95, 1, 5, []) := rfl
  obtain ⟨d, rfl⟩ : ∃ e, d = e + 1 := ⟨d - 1, by omega⟩
  obtain ⟨hid, hs_, hz_, ho_, hf_, hg_, ef, eg⟩ := hS
  show Ev (d + 1) 95 0 [(0, .ref 28)] [] hp _
  refine E_run hk 1 (j' := 1) (lv' := [(0, .ref 28)]) (st' := [.ref 28]) (hp' := hp) rfl ?_
  refine E_get (v := yi 1) hk rfl h28 rfl ?_
  refine Y_if_eq (a := 1) (by omega) hk rfl (fun g1 => ?_) (fun g1 => ?_)
  · exfalso; omega
  ·
    refine E_run hk 1 (j' := 4) (lv' := [(0, .ref 28)]) (st' := [.ref 28]) (hp' := hp) rfl ?_
    refine E_get (v := .ref 43) hk rfl h28 rfl ?_
    refine E_run hk 1 (j' := 6) (lv' := [(0, .ref 28)]) (st' := [.ref 28, .ref 43]) (hp' := hp) rfl ?_
    refine E_get (v := .ref 29) hk rfl h28 rfl ?_
    refine Y_call hk rfl (as := [.ref 43, .ref 29]) (rest := []) (v := none) rfl rfl (Nat.le_of_ble_eq_true rfl) (rcv0 h43) (Nat.le_of_ble_eq_true rfl) (c_X2_find h43 h44 h46 h48 h50 h45 h47 h49 h51 h52 h53 h54 h55 ⟨hid, hs_, hz_, ho_, hf_, hg_, ef, eg⟩ hz h0 h1 (hd := by omega)) (fun H2 r3 => ?_)
    obtain ⟨c_H2, A_H2, B_H2, C_H2, N_H2, P_H2, Q_H2, U_H2, V_H2, y_H2, c49_H2, c51_H2, f_H2⟩ := r3
    have y28_H2 := f_H2.at (by decide) h28
    refine E_run hk 2 (j' := 10) (lv' := [(0, .ref 28)]) (st' := [yi 0, .ref 28]) (hp' := H2) rfl ?_
    refine Y_put hk rfl y28_H2 (by decide) (Nat.le_of_ble_eq_true rfl) rfl (fs' := [.ref 29, .ref 34, .ref 35, yi kp, .ref 40, yi cl, .ref 41, .ref 43, yi 0, .ref 56, .ref 58]) rfl (fun H4 e5 f6 => ?_)
    refine E_run hk 1 (j' := 12) (lv' := [(0, .ref 28)]) (st' := [.ref 28]) (hp' := H4) rfl ?_
    refine E_get (v := .ref 43) hk rfl e5 rfl ?_
    exact E_ret hk rfl rfl (by
      obtain ⟨k1, k2, k3, k4, k5, k6, k7, k8⟩ := y_H2
      exact ⟨rfl, c_H2, A_H2, B_H2, P_H2, Q_H2, U_H2, V_H2, ⟨f6.at (by decide) k1, f6.at (by decide) k2, f6.at (by decide) k3, f6.at (by decide) k4, f6.at (by decide) k5, f6.at (by decide) k6, f6.at (by decide) k7, k8⟩, ⟨_, f6.at (by decide) c49_H2⟩, ⟨_, f6.at (by decide) c51_H2⟩, e5, (yfr.tr (f_H2.mono (by decide)) f6 (fun _ h => h) (by decide))⟩)
theorem c_found0 {d : Nat} {hp : xH} {kp cl : Int} (h28 : xat hp 28 = some (.inr (8, [.ref 29, .ref 34, .ref 35, yi kp, .ref 40, yi cl, .ref 41, .ref 43, yi 0, .ref 56, .ref 58]))) (hd : 5 ≤ d) : Cv d 95 [.ref 28] hp (yP (some (.ref 43)) hp) := by
  have hk : xtab 95 = (xc_95, 1, 5, []) := rfl
  obtain ⟨d, rfl⟩ : ∃ e, d = e + 1 := ⟨d - 1, by omega⟩
  show Ev (d + 1) 95 0 [(0, .ref 28)] [] hp _
  refine E_run hk 1 (j' := 1) (lv' := [(0, .ref 28)]) (st' := [.ref 28]) (hp' := hp) rfl ?_
  refine E_get (v := yi 0) hk rfl h28 rfl ?_
  refine Y_if_eq (a := 0) (by omega) hk rfl (fun g1 => ?_) (fun g1 => ?_)
  ·
    refine E_run hk 1 (j' := 12) (lv' := [(0, .ref 28)]) (st' := [.ref 28]) (hp' := hp) rfl ?_
    refine E_get (v := .ref 43) hk rfl h28 rfl ?_
    exact E_ret hk rfl rfl ⟨rfl, rfl⟩
  · exfalso; omega
theorem c_X8_found {d : Nat} {hp : xH} {kp cl od : Int} (h28 : xat hp 28 = some (.inr (8, [.ref 29, .ref 34, .ref 35, yi kp, .ref 40, yi cl, .ref 41, .ref 43, yi od, .ref 56, .ref 58]))) {S : Int → Int} (hM : yMs hp S od) {z o : Nat} {f g : Int → Int} {r t : Int} (hS : yS hp 29 z o S f g r t) (hz : 0 ≤ S 0 ∧ S 0 ≤ 20 ∧ 0 ≤ S 1 ∧ S 1 ≤ 20 ∧ 0 ≤ S 2 ∧ S 2 ≤ 20 ∧ 0 ≤ S 3 ∧ S 3 ≤ 50 ∧ 0 ≤ S 4 ∧ S 4 ≤ 3) (h0 : ∀ q, 0 ≤ q → q < S 0 → 0 ≤ S (7 + q) ∧ S (7 + q) ≤ 60) (h1 : ∀ q, 0 ≤ q → q < S 1 → 0 ≤ S (27 + q) ∧ S (27 + q) ≤ 60) (hd : 5 ≤ d) : Cv d 95 [.ref 28] hp (yR (some (.ref 43)) (fun h => (∃ c A B P Q U V, yMk h S c A B P Q U V ∧ (∃ C, xat h 49 = some (yI 400 C)) ∧ (∃ N, xat h 51 = some (yI 400 N)) ∧ xat h 28 = some (.inr (8, [.ref 29, .ref 34, .ref 35, yi kp, .ref 40, yi cl, .ref 41, .ref 43, yi 0, .ref 56, .ref 58])) ∧ yfr [28, 43, 45, 47, 49, 51, 52, 53, 54, 55] hp h) ∧ xat h 44 = some (.inr (1, [.ref 45])) ∧ xat h 46 = some (.inr (1, [.ref 47])) ∧ xat h 48 = some (.inr (1, [.ref 49])) ∧ xat h 50 = some (.inr (1, [.ref 51])))) := by
  obtain ⟨a1, a2, a3, a4, ⟨C, a5⟩, ⟨N, a6⟩, c, A, B, P, Q, U, V, b⟩ := hM
  rcases b with ⟨rfl, b⟩ | ⟨rfl, e, nb, b1, b2, b3, b4, b5, b6, b7⟩
  · refine Ev.imp (c_found0 h28 (hd := by omega)) (fun o h' q => ?_)
    obtain ⟨q1, q2⟩ := q
    subst q2
    exact ⟨q1, ⟨c, A, B, P, Q, U, V, b, ⟨C, a5⟩, ⟨N, a6⟩, h28, yfr.refl _ _⟩, a1, a2, a3, a4⟩
  · refine Ev.imp (c_found1 h28 b1 a1 a2 a3 a4 b2 b3 a5 a6 b4 b5 b6 b7 hS hz h0 h1 (hd := by omega)) (fun o h' q => ?_)
    obtain ⟨q1, q2⟩ := q
    have fr := q2
    obtain ⟨c2, A2, B2, P2, Q2, U2, V2, -, -, -, -, f⟩ := fr
    exact ⟨q1, q2, f.at (by decide) a1, f.at (by decide) a2, f.at (by decide) a3, f.at (by decide) a4⟩
