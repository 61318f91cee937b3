theorem c_X9_fails {d : Nat} {hp : xH} {v : Nat → Int} (hM : xat hp 63 = some (yMo v)) {c : Int} : Cv d 147 [.ref 63, yi c] hp (yR (some (yi 0)) (fun h => xat h 63 = some (yMo (vup v 0 c)) ∧ yfr [63] hp h)) := by
  have hk : xtab 147 = (xc_147, 2, 1, []) := rfl
  show Ev d 147 0 [(0, .ref 63), (1, yi c)] [] hp _
  refine E_run hk 2 (j' := 2) (lv' := [(0, .ref 63), (1, yi c)]) (st' := [yi c, .ref 63]) (hp' := hp) rfl ?_
  refine Y_put hk rfl hM (by decide) (Nat.le_of_ble_eq_true rfl) rfl (fs' := [yi c, .ref 64, .ref 65, yi (v 3), .ref 66, yi (v 5), .ref 67, yi (v 7), yi (v 8), yi (v 9), .ref 68, yi (v 11), .ref 69, yi (v 13), .ref 70, .ref 71, .ref 72, .ref 73, .ref 74, .ref 75, yi (v 20), yi (v 21)]) rfl (fun H1 e2 f3 => ?_)
  refine E_run hk 1 (j' := 4) (lv' := [(0, .ref 63), (1, yi c)]) (st' := [yi 0]) (hp' := H1) rfl ?_
  exact E_ret hk rfl rfl ⟨rfl, e2, f3⟩
theorem c_X9_thrown {d : Nat} {hp : xH} {v : Nat → Int} (hM : xat hp 63 = some (yMo v)) : Cv d 146 [.ref 63] hp (yP (some (yi (v 0))) hp) := by
  have hk : xtab 146 = (xc_146, 1, 1, []) := rfl
  show Ev d 146 0 [(0, .ref 63)] [] hp _
  refine E_run hk 1 (j' := 1) (lv' := [(0, .ref 63)]) (st' := [.ref 63]) (hp' := hp) rfl ?_
  refine E_get (v := yi (v 0)) hk rfl hM rfl ?_
  exact E_ret hk rfl rfl ⟨rfl, rfl⟩
theorem c_X9_lay {d : Nat} {hp : xH} {v : Nat → Int} (hM : xat hp 63 = some (yMo v)) {S : Int → Int} (hS : xat hp 64 = some (yI 47 S)) {t i x : Int} (ht : 0 ≤ t ∧ t ≤ 1 ∧ 0 ≤ i ∧ i ≤ 19) : Cv d 154 [.ref 63, yi t, yi i, yi x] hp (yR (none) (fun h => xat h 64 = some (yI 47 (up S (7 + 20 * t + i) x)) ∧ yfr [64] hp h)) := by
  have hk : xtab 154 = (xc_154, 4, 0, []) := rfl
  show Ev d 154 0 [(0, .ref 63), (1, yi t), (2, yi i), (3, yi x)] [] hp _
  refine E_run hk 1 (j' := 1) (lv' := [(0, .ref 63), (1, yi t), (2, yi i), (3, yi x)]) (st' := [.ref 63]) (hp' := hp) rfl ?_
  refine E_get (v := .ref 64) hk rfl hM rfl ?_
  refine E_run hk 3 (j' := 5) (lv' := [(0, .ref 63), (1, yi t), (2, yi i), (3, yi x)]) (st' := [yi t, yi 20, yi 7, .ref 64]) (hp' := hp) rfl ?_
  refine Y_imul (a := 20) (b := t) hk rfl ?_
  refine Y_iadd (a := 7) (b := (20 * t)) hk rfl ?_
  refine E_run hk 1 (j' := 8) (lv' := [(0, .ref 63), (1, yi t), (2, yi i), (3, yi x)]) (st' := [yi i, yi (7 + (20 * t)), .ref 64]) (hp' := hp) rfl ?_
  refine Y_iadd (a := (7 + (20 * t))) (b := i) hk rfl ?_
  refine E_run hk 1 (j' := 10) (lv' := [(0, .ref 63), (1, yi t), (2, yi i), (3, yi x)]) (st' := [yi x, yi ((7 + (20 * t)) + i), .ref 64]) (hp' := hp) rfl ?_
  refine Y_iast (a := ((7 + (20 * t)) + i)) (x := x) (by omega) (by decide) (by decide) hk rfl hS (fun H1 e2 f3 => ?_)
  exact E_ret hk rfl rfl ⟨rfl, e2, f3⟩
def canS (S : Int → Int) (t b : Int) : Prop := ∀ q, 0 ≤ q → q < S (0 + t) → 0 ≤ S (7 + 20 * t + q) + b ∧ S (7 + 20 * t + q) + b ≤ 60
theorem c_X9_canShift {d : Nat} {hp : xH} {v : Nat → Int} (hM : xat hp 63 = some (yMo v)) {S : Int → Int} (hS : xat hp 64 = some (yI 47 S)) {t : Int} (ht : 0 ≤ t ∧ t ≤ 1) (hl : 0 ≤ S (0 + t) ∧ S (0 + t) ≤ 20) (hpi : ∀ q, 0 ≤ q → q < S (0 + t) → 0 ≤ S (7 + 20 * t + q) ∧ S (7 + 20 * t + q) ≤ 60) {b : Int} (hb : -12 ≤ b ∧ b ≤ 12) (hd : 2 ≤ d) : Cv d 180 [.ref 63, yi t, yi b] hp (yP (some (yi (@b2 (canS S t b) (Classical.propDecidable _)))) hp) := by
  have hk : xtab 180 = (xc_180, 5, 2, []) := rfl
  obtain ⟨d, rfl⟩ : ∃ e, d = e + 1 := ⟨d - 1, by omega⟩
  show Ev (d + 1) 180 0 [(0, .ref 63), (1, yi t), (2, yi b)] [] hp _
  refine E_run hk 4 (j' := 4) (lv' := [(4, yi 0), (3, yi 1), (0, .ref 63), (1, yi t), (2, yi b)]) (st' := []) (hp' := hp) rfl ?_
  have loop4 : ∀ (N : Nat) (i : Int) (z : Int), (0 ≤ i ∧ i ≤ S (0 + t)) → ((z = 1 ∧ ∀ q, 0 ≤ q → q < i → 0 ≤ S (7 + 20 * t + q) + b ∧ S (7 + 20 * t + q) + b ≤ 60) ∨ (z = 0 ∧ ∃ q, 0 ≤ q ∧ q < S (0 + t) ∧ ¬ (0 ≤ S (7 + 20 * t + q) + b ∧ S (7 + 20 * t + q) + b ≤ 60))) → (S (0 + t) - i).toNat = N → Ev (d + 1) 180 4 [(0, .ref 63), (1, yi t), (2, yi b), (3, yi z), (4, yi i)] [] hp (yP (some (yi (@b2 (canS S t b) (Classical.propDecidable _)))) hp) := by
    intro N
    induction N using Nat.strongRecOn with
    | ind N ih4 =>
      intro i z J1 J2 hm4
      refine E_run hk 1 (j' := 5) (lv' := [(0, .ref 63), (1, yi t), (2, yi b), (3, yi z), (4, yi i)]) (st' := [yi i]) (hp' := hp) rfl ?_
      refine E_run hk 2 (j' := 7) (lv' := [(0, .ref 63), (1, yi t), (2, yi b), (3, yi z), (4, yi i)]) (st' := [yi t, .ref 63, yi i]) (hp' := hp) rfl ?_
      refine Y_callP hk rfl (as := [.ref 63, yi t]) (rest := [yi i]) (v := some (yi (S (0 + t)))) rfl rfl (Nat.le_of_ble_eq_true rfl) (rcv0 hM) (Nat.le_of_ble_eq_true rfl) (c_X9_many (t := t) (v := v) hM hS (by omega)) ?_
      refine Y_ic_ge (a := i) (b := (S (0 + t))) (by omega) hk rfl (fun g1 => ?_) (fun g1 => ?_)
      ·
        refine E_run hk 1 (j' := 26) (lv' := [(0, .ref 63), (1, yi t), (2, yi b), (3, yi z), (4, yi i)]) (st' := [yi z]) (hp' := hp) rfl ?_
        exact E_ret hk rfl (xret_01 (by rcases J2 with ⟨h9, -⟩ | ⟨h9, -⟩ <;> rw [h9] <;> decide)) (by
      rcases J2 with ⟨rfl, J2⟩ | ⟨rfl, q, J3, J4, J5⟩
      · exact lb1 (fun q q1 q2 => J2 q q1 (by omega))
      · exact lb0 (fun g => J5 (g q J3 (by omega))))
      ·
        refine E_run hk 1 (j' := 10) (lv' := [(0, .ref 63), (1, yi t), (2, yi b), (3, yi z), (4, yi i)]) (st' := [yi z]) (hp' := hp) rfl ?_
        refine Y_if_eq (a := z) (by omega) hk rfl (fun g2 => ?_) (fun g2 => ?_)
        ·
          refine E_run hk 2 (j' := 23) (lv' := [(3, yi 0), (0, .ref 63), (1, yi t), (2, yi b), (4, yi i)]) (st' := []) (hp' := hp) rfl ?_
          refine Y_iinc (a := i) (z := 1) hk rfl rfl rfl (by decide) (lv' := [(4, yi (i + 1)), (3, yi 0), (0, .ref 63), (1, yi t), (2, yi b)]) rfl ?_
          refine E_run hk 1 (j' := 4) (lv' := [(4, yi (i + 1)), (3, yi 0), (0, .ref 63), (1, yi t), (2, yi b)]) (st' := []) (hp' := hp) rfl ?_
          exact Ev_le (xle_s rfl rfl (xle_s rfl rfl (xle_s rfl rfl (xle_s rfl rfl (xle_s rfl rfl (xle_z _ rfl)))))) (ih4 _ (by omega) (i + 1) 0  (by omega) (by
        first
          | (refine Or.inl ⟨rfl, fun q h1 h2 => ?_⟩; rcases J2 with ⟨-, J2⟩ | ⟨h9, -⟩ <;> first | omega | skip; by_cases e : q = i <;> first | (subst e; assumption) | exact J2 q h1 (by omega))
          | (rcases J2 with ⟨h9, J2⟩ | J2; · first | (exfalso; omega) | exact Or.inr ⟨rfl, i, by omega, by omega, by assumption⟩
             exact Or.inr ⟨rfl, J2.2⟩)) rfl)
        ·
          refine E_run hk 3 (j' := 14) (lv' := [(0, .ref 63), (1, yi t), (2, yi b), (3, yi z), (4, yi i)]) (st' := [yi i, yi t, .ref 63]) (hp' := hp) rfl ?_
          refine Y_callP hk rfl (as := [.ref 63, yi t, yi i]) (rest := []) (v := some (yi (S (7 + 20 * t + i)))) rfl rfl (Nat.le_of_ble_eq_true rfl) (rcv0 hM) (Nat.le_of_ble_eq_true rfl) (c_X9_of (t := t) (i := i) (v := v) hM hS (by omega)) ?_
          have w := hpi i (by omega) (by omega)
          refine E_run hk 1 (j' := 16) (lv' := [(0, .ref 63), (1, yi t), (2, yi b), (3, yi z), (4, yi i)]) (st' := [yi b, yi (S (7 + 20 * t + i))]) (hp' := hp) rfl ?_
          refine Y_iadd (a := (S (7 + 20 * t + i))) (b := b) hk rfl ?_
          refine Y_callP hk rfl (as := [yi ((S (7 + 20 * t + i)) + b)]) (rest := []) (v := some (yi (b2 (0 ≤ ((S (7 + 20 * t + i)) + b) ∧ ((S (7 + 20 * t + i)) + b) ≤ 60)))) rfl rfl (Nat.le_of_ble_eq_true rfl) rfl (Nat.le_of_ble_eq_true rfl) (c_X9_isPitch (t := ((S (7 + 20 * t + i)) + b)) (by omega) (hd := by omega)) ?_
          refine Y_b_eq hk rfl (fun g3 => ?_) (fun g3 => ?_)
          ·
            refine E_run hk 2 (j' := 23) (lv' := [(3, yi 0), (0, .ref 63), (1, yi t), (2, yi b), (4, yi i)]) (st' := []) (hp' := hp) rfl ?_
            refine Y_iinc (a := i) (z := 1) hk rfl rfl rfl (by decide) (lv' := [(4, yi (i + 1)), (3, yi 0), (0, .ref 63), (1, yi t), (2, yi b)]) rfl ?_
            refine E_run hk 1 (j' := 4) (lv' := [(4, yi (i + 1)), (3, yi 0), (0, .ref 63), (1, yi t), (2, yi b)]) (st' := []) (hp' := hp) rfl ?_
            exact Ev_le (xle_s rfl rfl (xle_s rfl rfl (xle_s rfl rfl (xle_s rfl rfl (xle_s rfl rfl (xle_z _ rfl)))))) (ih4 _ (by omega) (i + 1) 0  (by omega) (by
        first
          | (refine Or.inl ⟨rfl, fun q h1 h2 => ?_⟩; rcases J2 with ⟨-, J2⟩ | ⟨h9, -⟩ <;> first | omega | skip; by_cases e : q = i <;> first | (subst e; assumption) | exact J2 q h1 (by omega))
          | (rcases J2 with ⟨h9, J2⟩ | J2; · first | (exfalso; omega) | exact Or.inr ⟨rfl, i, by omega, by omega, by assumption⟩
             exact Or.inr ⟨rfl, J2.2⟩)) rfl)
          ·
            refine E_run hk 3 (j' := 23) (lv' := [(3, yi 1), (0, .ref 63), (1, yi t), (2, yi b), (4, yi i)]) (st' := []) (hp' := hp) rfl ?_
            refine Y_iinc (a := i) (z := 1) hk rfl rfl rfl (by decide) (lv' := [(4, yi (i + 1)), (3, yi 1), (0, .ref 63), (1, yi t), (2, yi b)]) rfl ?_
            refine E_run hk 1 (j' := 4) (lv' := [(4, yi (i + 1)), (3, yi 1), (0, .ref 63), (1, yi t), (2, yi b)]) (st' := []) (hp' := hp) rfl ?_
            exact Ev_le (xle_s rfl rfl (xle_s rfl rfl (xle_s rfl rfl (xle_s rfl rfl (xle_s rfl rfl (xle_z _ rfl)))))) (ih4 _ (by omega) (i + 1) 1  (by omega) (by
        first
          | (refine Or.inl ⟨rfl, fun q h1 h2 => ?_⟩; rcases J2 with ⟨-, J2⟩ | ⟨h9, -⟩ <;> first | omega | skip; by_cases e : q = i <;> first | (subst e; assumption) | exact J2 q h1 (by omega))
          | (rcases J2 with ⟨h9, J2⟩ | J2; · first | (exfalso; omega) | exact Or.inr ⟨rfl, i, by omega, by omega, by assumption⟩
             exact Or.inr ⟨rfl, J2.2⟩)) rfl)
  exact Ev_le (xle_s rfl rfl (xle_s rfl rfl (xle_s rfl rfl (xle_s rfl rfl (xle_s rfl rfl (xle_z _ rfl)))))) (loop4 _ 0 1  (by omega) (Or.inl ⟨rfl, fun q h1 h2 => absurd h1 (by omega)⟩) rfl)
theorem c_X9_shifts {d : Nat} {hp : xH} {v : Nat → Int} (hM : xat hp 63 = some (yMo v)) {S : Int → Int} (hS : xat hp 64 = some (yI 47 S)) {t : Int} (ht : 0 ≤ t ∧ t ≤ 1) (hl : 0 ≤ S (0 + t) ∧ S (0 + t) ≤ 20) (hpi : ∀ q, 0 ≤ q → q < S (0 + t) → 0 ≤ S (7 + 20 * t + q) ∧ S (7 + 20 * t + q) ≤ 60) {b : Int} (hb : canS S t b) (hd : 1 ≤ d) : Cv d 181 [.ref 63, yi t, yi b] hp (yR (none) (fun h => ∃ g, xat h 64 = some (yI 47 g) ∧ (∀ q, 0 ≤ q → q < S (0 + t) → g (7 + 20 * t + q) = S (7 + 20 * t + q) + b) ∧ (∀ q, ¬ (7 + 20 * t ≤ q ∧ q < 7 + 20 * t + S (0 + t)) → g q = S q) ∧ yfr [64] hp h)) := by
  have hk : xtab 181 = (xc_181, 4, 0, []) := rfl
  obtain ⟨d, rfl⟩ : ∃ e, d = e + 1 := ⟨d - 1, by omega⟩
  show Ev (d + 1) 181 0 [(0, .ref 63), (1, yi t), (2, yi b)] [] hp _
  refine E_run hk 2 (j' := 2) (lv' := [(3, yi 0), (0, .ref 63), (1, yi t), (2, yi b)]) (st' := []) (hp' := hp) rfl ?_
  have loop2 : ∀ (N : Nat) (i : Int) (g : Int → Int) (hl2 : xH), (0 ≤ i ∧ i ≤ S (0 + t)) → (∀ q, 0 ≤ q → q < i → g (7 + 20 * t + q) = S (7 + 20 * t + q) + b) → (∀ q, ¬ (7 + 20 * t ≤ q ∧ q < 7 + 20 * t + i) → g q = S q) → (xat hl2 64 = some (yI 47 g)) → (yfr [64] hp hl2) → (S (0 + t) - i).toNat = N → Ev (d + 1) 181 2 [(0, .ref 63), (1, yi t), (2, yi b), (3, yi i)] [] hl2 (yR (none) (fun h => ∃ g, xat h 64 = some (yI 47 g) ∧ (∀ q, 0 ≤ q → q < S (0 + t) → g (7 + 20 * t + q) = S (7 + 20 * t + q) + b) ∧ (∀ q, ¬ (7 + 20 * t ≤ q ∧ q < 7 + 20 * t + S (0 + t)) → g q = S q) ∧ yfr [64] hp h)) := by
    intro N
    induction N using Nat.strongRecOn with
    | ind N ih2 =>
      intro i g hl2 J1 J2 J3 ec2_64 fr2 hm2
      refine E_run hk 1 (j' := 3) (lv' := [(0, .ref 63), (1, yi t), (2, yi b), (3, yi i)]) (st' := [yi i]) (hp' := hl2) rfl ?_
      have w0 : g (0 + t) = S (0 + t) := J3 _ (by omega)
      refine E_run hk 2 (j' := 5) (lv' := [(0, .ref 63), (1, yi t), (2, yi b), (3, yi i)]) (st' := [yi t, .ref 63, yi i]) (hp' := hl2) rfl ?_
      refine Y_callP hk rfl (as := [.ref 63, yi t]) (rest := [yi i]) (v := some (yi (g (0 + t)))) rfl rfl (Nat.le_of_ble_eq_true rfl) (rcv0 (fr2.at (by decide) hM)) (Nat.le_of_ble_eq_true rfl) (c_X9_many (t := t) (v := v) (fr2.at (by decide) hM) ec2_64 (by omega)) ?_
      refine Y_ic_ge (a := i) (b := (g (0 + t))) (by omega) hk rfl (fun g1 => ?_) (fun g1 => ?_)
      ·
        exact E_ret hk rfl rfl ⟨rfl, _, ec2_64, fun q q1 q2 => J2 q q1 (by omega), fun q q1 => J3 q (by omega), fr2⟩
      ·
        refine E_run hk 6 (j' := 13) (lv' := [(0, .ref 63), (1, yi t), (2, yi b), (3, yi i)]) (st' := [yi i, yi t, .ref 63, yi i, yi t, .ref 63]) (hp' := hl2) rfl ?_
        refine Y_callP hk rfl (as := [.ref 63, yi t, yi i]) (rest := [yi i, yi t, .ref 63]) (v := some (yi (g (7 + 20 * t + i)))) rfl rfl (Nat.le_of_ble_eq_true rfl) (rcv0 (fr2.at (by decide) hM)) (Nat.le_of_ble_eq_true rfl) (c_X9_of (t := t) (i := i) (v := v) (fr2.at (by decide) hM) ec2_64 (by omega)) ?_
        refine E_run hk 1 (j' := 15) (lv' := [(0, .ref 63), (1, yi t), (2, yi b), (3, yi i)]) (st' := [yi b, yi (g (7 + 20 * t + i)), yi i, yi t, .ref 63]) (hp' := hl2) rfl ?_
        refine Y_iadd (a := (g (7 + 20 * t + i))) (b := b) hk rfl ?_
        refine Y_call hk rfl (as := [.ref 63, yi t, yi i, yi ((g (7 + 20 * t + i)) + b)]) (rest := []) (v := none) rfl rfl (Nat.le_of_ble_eq_true rfl) (rcv0 (fr2.at (by decide) hM)) (Nat.le_of_ble_eq_true rfl) (c_X9_lay (t := t) (i := i) (x := ((g (7 + 20 * t + i)) + b)) (v := v) (fr2.at (by decide) hM) ec2_64 (by omega)) (fun H2 r3 => ?_)
        obtain ⟨e_H2, f_H2⟩ := r3
        refine Y_iinc (a := i) (z := 1) hk rfl rfl rfl (by decide) (lv' := [(3, yi (i + 1)), (0, .ref 63), (1, yi t), (2, yi b)]) rfl ?_
        refine E_run hk 1 (j' := 2) (lv' := [(3, yi (i + 1)), (0, .ref 63), (1, yi t), (2, yi b)]) (st' := []) (hp' := H2) rfl ?_
        exact Ev_le (xle_s rfl rfl (xle_s rfl rfl (xle_s rfl rfl (xle_s rfl rfl (xle_z _ rfl))))) (ih2 _ (by omega) (i + 1) (up g (7 + 20 * t + i) ((g (7 + 20 * t + i)) + b)) H2 (by omega) (fun q q1 q2 => by
        unfold up
        split
        · have e : q = i := by omega
          subst e
          rw [J3 _ (by omega)]
        · exact J2 q q1 (by omega)) (fun q q1 => by
        unfold up
        rw [if_neg (by omega)]
        exact J3 q (by omega)) e_H2 (yfr.tr fr2 f_H2 (fun _ h => h) (by decide)) rfl)
  exact Ev_le (xle_s rfl rfl (xle_s rfl rfl (xle_s rfl rfl (xle_s rfl rfl (xle_z _ rfl))))) (loop2 _ 0 S hp (by omega) (fun q q1 q2 => absurd q1 (by omega)) (fun q _ => rfl) hS (yfr.refl _ _) rfl)
