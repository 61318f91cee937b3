/-! The class: its states. A state is the object s, its tunes the objects z and o, their pitches the arrays z + 1 and o + 1. -/
def stid (s z o : Nat) : Prop := 28 ≤ s ∧ ((z = s + 1 ∧ o = s + 3) ∨ (z = s + 3 ∧ o = s + 1))
theorem sne {s z o : Nat} (h : stid s z o) : s ≠ z ∧ s ≠ z + 1 ∧ s ≠ o ∧ s ≠ o + 1 ∧ z ≠ z + 1 ∧ z ≠ o ∧ z ≠ o + 1 ∧ z + 1 ≠ o ∧ z + 1 ≠ o + 1 ∧ o ≠ o + 1 := by
  unfold stid at h
  omega
def apart (k s : Nat) : Prop := k < s ∨ s + 5 ≤ k
theorem sok {s z o k : Nat} (h : stid s z o) (hk : apart k s) : k ≠ s ∧ k ≠ z ∧ k ≠ z + 1 ∧ k ≠ o ∧ k ≠ o + 1 := by
  unfold stid at h
  unfold apart at hk
  omega
theorem s28 {s z o : Nat} (h : stid s z o) : 28 ≤ s ∧ 28 ≤ z ∧ 28 ≤ z + 1 ∧ 28 ≤ o ∧ 28 ≤ o + 1 := by
  unfold stid at h
  omega
theorem sin {s z o : Nat} (h : stid s z o) : ∀ i, i = s ∨ i = z ∨ i = z + 1 ∨ i = o ∨ i = o + 1 → s ≤ i ∧ i < s + 5 := fun i hi => by
  unfold stid at h
  omega
theorem sdi {s z o s2 z2 o2 : Nat} (h : stid s z o) (h2 : stid s2 z2 o2) (hn : s + 5 ≤ s2 ∨ s2 + 5 ≤ s) : ∀ i j, (i = s ∨ i = z ∨ i = z + 1 ∨ i = o ∨ i = o + 1) → (j = s2 ∨ j = z2 ∨ j = z2 + 1 ∨ j = o2 ∨ j = o2 + 1) → i ≠ j := fun i j hi hj => by
  have a := sin h i hi
  have b := sin h2 j hj
  omega
/-- the state s holds what S says; r, t: why and where it stopped -/
abbrev yS (h : xH) (s z o : Nat) (S f g : Int → Int) (r t : Int) : Prop := stid s z o ∧ xat h s = some (.inr (6, [.ref z, .ref o, yi (S 2), yi (S 3), yi (S 4), yi r, yi t])) ∧ xat h z = some (.inr (7, [.ref (z + 1), yi (S 0)])) ∧ xat h o = some (.inr (7, [.ref (o + 1), yi (S 1)])) ∧ xat h (z + 1) = some (yI 20 f) ∧ xat h (o + 1) = some (yI 20 g) ∧ (∀ q, 0 ≤ q → q < S 0 → f q = S (7 + q)) ∧ (∀ q, 0 ≤ q → q < S 1 → g q = S (27 + q))
theorem yS.fr {K : List Nat} {h h' : xH} {s z o : Nat} {S f g : Int → Int} {r t : Int} (H : yS h s z o S f g r t) (F : yfr K h h') (hK : ∀ i ∈ K, i < s ∨ s + 5 ≤ i) : yS h' s z o S f g r t := by
  obtain ⟨hid, e1, e2, e3, e4, e5, ef, eg⟩ := H
  have n : ∀ i, i = s ∨ i = z ∨ i = z + 1 ∨ i = o ∨ i = o + 1 → i ∉ K := fun i h1 h3 => by
    have := hK i h3
    have := sin hid i h1
    omega
  exact ⟨hid, F.at (n _ (by simp)) e1, F.at (n _ (by simp)) e2, F.at (n _ (by simp)) e3, F.at (n _ (by simp)) e4, F.at (n _ (by simp)) e5, ef, eg⟩
def tun (t : Int) (z o : Nat) : Nat := if t = 0 then z else o
def tuf (t : Int) (f g : Int → Int) : Int → Int := if t = 0 then f else g
theorem tun_or (t : Int) (z o : Nat) : (t = 0 ∧ tun t z o = z) ∨ (¬ t = 0 ∧ tun t z o = o) := by
  unfold tun
  split
  · exact Or.inl ⟨by assumption, rfl⟩
  · exact Or.inr ⟨by assumption, rfl⟩
theorem yS.tun {h : xH} {s z o : Nat} {S f g : Int → Int} {r t : Int} (H : yS h s z o S f g r t) {x : Int} (hx : 0 ≤ x ∧ x ≤ 1) : xat h (tun x z o) = some (.inr (7, [.ref (tun x z o + 1), yi (S (0 + x))])) ∧ xat h (tun x z o + 1) = some (yI 20 (tuf x f g)) ∧ (∀ q, 0 ≤ q → q < S (0 + x) → tuf x f g q = S (7 + 20 * x + q)) := by
  obtain ⟨hid, e1, e2, e3, e4, e5, ef, eg⟩ := H
  rcases (by omega : x = 0 ∨ x = 1) with rfl | rfl
  · exact ⟨e2, e4, fun q q1 q2 => (ef q q1 q2)⟩
  · exact ⟨e3, e5, fun q q1 q2 => (eg q q1 q2)⟩
theorem tid {s z o : Nat} (h : stid s z o) (t : Int) : 28 ≤ tun t z o ∧ 28 ≤ tun t z o + 1 ∧ tun t z o ≠ tun t z o + 1 ∧ tun t z o ≠ s ∧ tun t z o + 1 ≠ s := by
  have w := tun_or t z o
  unfold stid at h
  omega
theorem tok {s z o k : Nat} (h : stid s z o) (t : Int) (hk : apart k s) : k ≠ tun t z o ∧ k ≠ tun t z o + 1 := by
  have w := tun_or t z o
  unfold stid at h
  unfold apart at hk
  omega
theorem jud_2 {k x d : Int} (hk : k = 2) (hd : (x < 0 ∧ d = -x) ∨ (0 ≤ x ∧ d = x)) : jud k x = if d % 12 < 12 - d % 12 then d % 12 else 12 - d % 12 := by
  unfold jud
  rw [if_neg (by omega), if_neg (by omega), if_pos hk]
  rcases hd with ⟨h, e⟩ | ⟨h, e⟩
  · rw [e]
    simp only [if_pos h]
  · have h2 : ¬ x < 0 := by omega
    rw [e]
    simp only [if_neg h2]
theorem c_X5_hasEmptyTune {d : Nat} {hp : xH} {s z o : Nat} {S f g : Int → Int} {r t : Int} (hS : yS hp s z o S f g r t) (hl : 0 ≤ S 0 ∧ S 0 ≤ 20 ∧ 0 ≤ S 1 ∧ S 1 ≤ 20) : Cv d 34 [.ref s] hp (yP (some (yi (b2 (S 0 = 0 ∨ S 1 = 0)))) hp) := by
  have hk : xtab 34 = (xc_34, 1, 2, []) := rfl
  obtain ⟨hid, hs_, hz_, ho_, hf_, hg_, ef, eg⟩ := hS
  show Ev d 34 0 [(0, .ref s)] [] hp _
  refine E_run hk 1 (j' := 1) (lv' := [(0, .ref s)]) (st' := [.ref s]) (hp' := hp) rfl ?_
  refine E_get (v := .ref z) hk rfl hs_ rfl ?_
  refine E_get (v := yi (S 0)) hk rfl hz_ rfl ?_
  refine Y_if_eq (a := (S 0)) (by omega) hk rfl (fun g1 => ?_) (fun g1 => ?_)
  ·
    refine E_run hk 2 (j' := 11) (lv' := [(0, .ref s)]) (st' := [yi 1]) (hp' := hp) rfl ?_
    exact E_ret hk rfl rfl (lb1 (by omega))
  ·
    refine E_run hk 1 (j' := 5) (lv' := [(0, .ref s)]) (st' := [.ref s]) (hp' := hp) rfl ?_
    refine E_get (v := .ref o) hk rfl hs_ rfl ?_
    refine E_get (v := yi (S 1)) hk rfl ho_ rfl ?_
    refine Y_if_ne (a := (S 1)) (by omega) hk rfl (fun g2 => ?_) (fun g2 => ?_)
    ·
      refine E_run hk 1 (j' := 11) (lv' := [(0, .ref s)]) (st' := [yi 0]) (hp' := hp) rfl ?_
      exact E_ret hk rfl rfl (lb0 (by omega))
    ·
      refine E_run hk 2 (j' := 11) (lv' := [(0, .ref s)]) (st' := [yi 1]) (hp' := hp) rfl ?_
      exact E_ret hk rfl rfl (lb1 (by omega))
theorem c_X5_lengthsApart {d : Nat} {hp : xH} {s z o : Nat} {S f g : Int → Int} {r t : Int} (hS : yS hp s z o S f g r t) (hl : 0 ≤ S 0 ∧ S 0 ≤ 20 ∧ 0 ≤ S 1 ∧ S 1 ≤ 20) : Cv d 33 [.ref s] hp (yP (some (yi (ab (S 0 - S 1)))) hp) := by
  have hk : xtab 33 = (xc_33, 1, 1, []) := rfl
  obtain ⟨hid, hs_, hz_, ho_, hf_, hg_, ef, eg⟩ := hS
  show Ev d 33 0 [(0, .ref s)] [] hp _
  refine E_run hk 1 (j' := 1) (lv' := [(0, .ref s)]) (st' := [.ref s]) (hp' := hp) rfl ?_
  refine E_get (v := .ref z) hk rfl hs_ rfl ?_
  refine E_get (v := yi (S 0)) hk rfl hz_ rfl ?_
  refine E_run hk 1 (j' := 4) (lv' := [(0, .ref s)]) (st' := [.ref s, yi (S 0)]) (hp' := hp) rfl ?_
  refine E_get (v := .ref o) hk rfl hs_ rfl ?_
  refine E_get (v := yi (S 1)) hk rfl ho_ rfl ?_
  refine Y_isub (a := (S 0)) (b := (S 1)) hk rfl ?_
  refine Y_abs (a := ((S 0) - (S 1))) (by omega) hk rfl (Nat.le_of_ble_eq_true rfl) ?_
  exact E_ret hk rfl rfl ⟨rfl, rfl⟩
theorem c_X5_hasMatch {d : Nat} {hp : xH} {s z o : Nat} {S f g : Int → Int} {r t : Int} (hS : yS hp s z o S f g r t) (hl : 0 ≤ S 0 ∧ S 0 ≤ 20 ∧ 0 ≤ S 1 ∧ S 1 ≤ 20) (hb2 : 0 ≤ S 2 ∧ S 2 ≤ 20) (hd : 1 ≤ d) : Cv d 35 [.ref s] hp (yP (some (yi (b2 (0 < S 0 ∧ 0 < S 1 ∧ -S 2 ≤ S 0 - S 1 ∧ S 0 - S 1 ≤ S 2)))) hp) := by
  have hk : xtab 35 = (xc_35, 1, 2, []) := rfl
  obtain ⟨d, rfl⟩ : ∃ e, d = e + 1 := ⟨d - 1, by omega⟩
  obtain ⟨hid, hs_, hz_, ho_, hf_, hg_, ef, eg⟩ := hS
  have w1 := ab_rng (S 0 - S 1)
  show Ev (d + 1) 35 0 [(0, .ref s)] [] hp _
  refine E_run hk 1 (j' := 1) (lv' := [(0, .ref s)]) (st' := [.ref s]) (hp' := hp) rfl ?_
  refine Y_callP hk rfl (as := [.ref s]) (rest := []) (v := some (yi (b2 (S 0 = 0 ∨ S 1 = 0)))) rfl rfl (Nat.le_of_ble_eq_true rfl) (rcv0 hs_) (Nat.le_of_ble_eq_true rfl) (c_X5_hasEmptyTune ⟨hid, hs_, hz_, ho_, hf_, hg_, ef, eg⟩ (by omega)) ?_
  refine Y_b_ne hk rfl (fun g1 => ?_) (fun g1 => ?_)
  ·
    refine E_run hk 1 (j' := 11) (lv' := [(0, .ref s)]) (st' := [yi 0]) (hp' := hp) rfl ?_
    exact E_ret hk rfl rfl (lb0 (by omega))
  ·
    refine E_run hk 1 (j' := 4) (lv' := [(0, .ref s)]) (st' := [.ref s]) (hp' := hp) rfl ?_
    refine Y_callP hk rfl (as := [.ref s]) (rest := []) (v := some (yi (ab (S 0 - S 1)))) rfl rfl (Nat.le_of_ble_eq_true rfl) (rcv0 hs_) (Nat.le_of_ble_eq_true rfl) (c_X5_lengthsApart ⟨hid, hs_, hz_, ho_, hf_, hg_, ef, eg⟩ (by omega)) ?_
    refine E_run hk 1 (j' := 6) (lv' := [(0, .ref s)]) (st' := [.ref s, yi (ab (S 0 - S 1))]) (hp' := hp) rfl ?_
    refine E_get (v := yi (S 2)) hk rfl hs_ rfl ?_
    refine Y_ic_gt (a := (ab (S 0 - S 1))) (b := (S 2)) (by omega) hk rfl (fun g2 => ?_) (fun g2 => ?_)
    ·
      refine E_run hk 1 (j' := 11) (lv' := [(0, .ref s)]) (st' := [yi 0]) (hp' := hp) rfl ?_
      exact E_ret hk rfl rfl (lb0 (by omega))
    ·
      refine E_run hk 2 (j' := 11) (lv' := [(0, .ref s)]) (st' := [yi 1]) (hp' := hp) rfl ?_
      exact E_ret hk rfl rfl (lb1 (by omega))
theorem c_X5_isLastPair {d : Nat} {hp : xH} {s z o : Nat} {S f g : Int → Int} {r t : Int} (hS : yS hp s z o S f g r t) (hl : 0 ≤ S 0 ∧ S 0 ≤ 20 ∧ 0 ≤ S 1 ∧ S 1 ≤ 20) {i j : Int} (hi : -1 ≤ i ∧ i ≤ 20 ∧ -1 ≤ j ∧ j ≤ 20) : Cv d 36 [.ref s, yi i, yi j] hp (yP (some (yi (b2 (i = S 0 - 1 ∧ j = S 1 - 1)))) hp) := by
  have hk : xtab 36 = (xc_36, 3, 2, []) := rfl
  obtain ⟨hid, hs_, hz_, ho_, hf_, hg_, ef, eg⟩ := hS
  show Ev d 36 0 [(0, .ref s), (1, yi i), (2, yi j)] [] hp _
  refine E_run hk 2 (j' := 2) (lv' := [(0, .ref s), (1, yi i), (2, yi j)]) (st' := [.ref s, yi i]) (hp' := hp) rfl ?_
  refine E_get (v := .ref z) hk rfl hs_ rfl ?_
  refine E_get (v := yi (S 0)) hk rfl hz_ rfl ?_
  refine E_run hk 1 (j' := 5) (lv' := [(0, .ref s), (1, yi i), (2, yi j)]) (st' := [yi 1, yi (S 0), yi i]) (hp' := hp) rfl ?_
  refine Y_isub (a := (S 0)) (b := 1) hk rfl ?_
  refine Y_ic_ne (a := i) (b := ((S 0) - 1)) (by omega) hk rfl (fun g1 => ?_) (fun g1 => ?_)
  ·
    refine E_run hk 1 (j' := 17) (lv' := [(0, .ref s), (1, yi i), (2, yi j)]) (st' := [yi 0]) (hp' := hp) rfl ?_
    exact E_ret hk rfl rfl (lb0 (by omega))
  ·
    refine E_run hk 2 (j' := 9) (lv' := [(0, .ref s), (1, yi i), (2, yi j)]) (st' := [.ref s, yi j]) (hp' := hp) rfl ?_
    refine E_get (v := .ref o) hk rfl hs_ rfl ?_
    refine E_get (v := yi (S 1)) hk rfl ho_ rfl ?_
    refine E_run hk 1 (j' := 12) (lv' := [(0, .ref s), (1, yi i), (2, yi j)]) (st' := [yi 1, yi (S 1), yi j]) (hp' := hp) rfl ?_
    refine Y_isub (a := (S 1)) (b := 1) hk rfl ?_
    refine Y_ic_ne (a := j) (b := ((S 1) - 1)) (by omega) hk rfl (fun g2 => ?_) (fun g2 => ?_)
    ·
      refine E_run hk 1 (j' := 17) (lv' := [(0, .ref s), (1, yi i), (2, yi j)]) (st' := [yi 0]) (hp' := hp) rfl ?_
      exact E_ret hk rfl rfl (lb0 (by omega))
    ·
      refine E_run hk 2 (j' := 17) (lv' := [(0, .ref s), (1, yi i), (2, yi j)]) (st' := [yi 1]) (hp' := hp) rfl ?_
      exact E_ret hk rfl rfl (lb1 (by omega))
theorem c_X5_judged {d : Nat} {hp : xH} {s z o : Nat} {S f g : Int → Int} {r t : Int} (hS : yS hp s z o S f g r t) (hj : 0 ≤ S 4 ∧ S 4 ≤ 3) {x : Int} (hx : -72 ≤ x ∧ x ≤ 72) : Cv d 38 [.ref s, yi x] hp (yP (some (yi (jud (S 4) x))) hp) := by
  have hk : xtab 38 = (xc_38, 4, 1, []) := rfl
  obtain ⟨hid, hs_, hz_, ho_, hf_, hg_, ef, eg⟩ := hS
  show Ev d 38 0 [(0, .ref s), (1, yi x)] [] hp _
  refine E_run hk 1 (j' := 1) (lv' := [(0, .ref s), (1, yi x)]) (st' := [yi x]) (hp' := hp) rfl ?_
  refine Y_if_ge (a := x) (by omega) hk rfl (fun g1 => ?_) (fun g1 => ?_)
  ·
    refine E_run hk 3 (j' := 8) (lv' := [(2, yi x), (0, .ref s), (1, yi x)]) (st' := [.ref s]) (hp' := hp) rfl ?_
    refine E_get (v := yi (S 4)) hk rfl hs_ rfl ?_
    refine Y_if_ne (a := (S 4)) (by omega) hk rfl (fun g2 => ?_) (fun g2 => ?_)
    ·
      refine E_run hk 1 (j' := 13) (lv' := [(2, yi x), (0, .ref s), (1, yi x)]) (st' := [.ref s]) (hp' := hp) rfl ?_
      refine E_get (v := yi (S 4)) hk rfl hs_ rfl ?_
      refine E_run hk 1 (j' := 15) (lv' := [(2, yi x), (0, .ref s), (1, yi x)]) (st' := [yi 1, yi (S 4)]) (hp' := hp) rfl ?_
      refine Y_ic_ne (a := (S 4)) (b := 1) (by omega) hk rfl (fun g3 => ?_) (fun g3 => ?_)
      ·
        refine E_run hk 1 (j' := 21) (lv' := [(2, yi x), (0, .ref s), (1, yi x)]) (st' := [.ref s]) (hp' := hp) rfl ?_
        refine E_get (v := yi (S 4)) hk rfl hs_ rfl ?_
        refine E_run hk 1 (j' := 23) (lv' := [(2, yi x), (0, .ref s), (1, yi x)]) (st' := [yi 2, yi (S 4)]) (hp' := hp) rfl ?_
        refine Y_ic_ne (a := (S 4)) (b := 2) (by omega) hk rfl (fun g4 => ?_) (fun g4 => ?_)
        ·
          refine E_run hk 1 (j' := 40) (lv' := [(2, yi x), (0, .ref s), (1, yi x)]) (st' := [yi x]) (hp' := hp) rfl ?_
          refine Y_if_ne (a := x) (by omega) hk rfl (fun g5 => ?_) (fun g5 => ?_)
          ·
            refine E_run hk 1 (j' := 44) (lv' := [(2, yi x), (0, .ref s), (1, yi x)]) (st' := [yi 1]) (hp' := hp) rfl ?_
            exact E_ret hk rfl rfl (li (by 
        first
        | (unfold jud; rw [if_pos (by omega : S 4 = 0)]; split <;> omega)
        | (unfold jud; rw [if_neg (by omega : ¬ S 4 = 0), if_pos (by omega : S 4 = 1)]; first | done | exact Int.neg_mul_neg _ _)
        | (rw [jud_2 (d := x) (by omega) (by omega)]; split <;> omega)
        | (rw [jud_2 (d := -x) (by omega) (by omega)]; split <;> omega)
        | (unfold jud; rw [if_neg (by omega : ¬ S 4 = 0), if_neg (by omega : ¬ S 4 = 1), if_neg (by omega : ¬ S 4 = 2)]; split <;> omega)))
          ·
            refine E_run hk 2 (j' := 44) (lv' := [(2, yi x), (0, .ref s), (1, yi x)]) (st' := [yi 0]) (hp' := hp) rfl ?_
            exact E_ret hk rfl rfl (li (by 
        first
        | (unfold jud; rw [if_pos (by omega : S 4 = 0)]; split <;> omega)
        | (unfold jud; rw [if_neg (by omega : ¬ S 4 = 0), if_pos (by omega : S 4 = 1)]; first | done | exact Int.neg_mul_neg _ _)
        | (rw [jud_2 (d := x) (by omega) (by omega)]; split <;> omega)
        | (rw [jud_2 (d := -x) (by omega) (by omega)]; split <;> omega)
        | (unfold jud; rw [if_neg (by omega : ¬ S 4 = 0), if_neg (by omega : ¬ S 4 = 1), if_neg (by omega : ¬ S 4 = 2)]; split <;> omega)))
        ·
          refine E_run hk 2 (j' := 26) (lv' := [(2, yi x), (0, .ref s), (1, yi x)]) (st' := [yi 12, yi x]) (hp' := hp) rfl ?_
          refine Y_irem (a := x) (b := 12) (by omega) hk rfl ?_
          refine E_run hk 4 (j' := 31) (lv' := [(3, yi (x % 12)), (2, yi x), (0, .ref s), (1, yi x)]) (st' := [yi (x % 12), yi 12, yi (x % 12)]) (hp' := hp) rfl ?_
          refine Y_isub (a := 12) (b := (x % 12)) hk rfl ?_
          refine Y_ic_gt (a := (x % 12)) (b := (12 - (x % 12))) (by omega) hk rfl (fun g6 => ?_) (fun g6 => ?_)
          ·
            refine E_run hk 2 (j' := 37) (lv' := [(3, yi (x % 12)), (2, yi x), (0, .ref s), (1, yi x)]) (st' := [yi (x % 12), yi 12]) (hp' := hp) rfl ?_
            refine Y_isub (a := 12) (b := (x % 12)) hk rfl ?_
            exact E_ret hk rfl rfl (li (by 
        first
        | (unfold jud; rw [if_pos (by omega : S 4 = 0)]; split <;> omega)
        | (unfold jud; rw [if_neg (by omega : ¬ S 4 = 0), if_pos (by omega : S 4 = 1)]; first | done | exact Int.neg_mul_neg _ _)
        | (rw [jud_2 (d := x) (by omega) (by omega)]; split <;> omega)
        | (rw [jud_2 (d := -x) (by omega) (by omega)]; split <;> omega)
        | (unfold jud; rw [if_neg (by omega : ¬ S 4 = 0), if_neg (by omega : ¬ S 4 = 1), if_neg (by omega : ¬ S 4 = 2)]; split <;> omega)))
          ·
            refine E_run hk 2 (j' := 38) (lv' := [(3, yi (x % 12)), (2, yi x), (0, .ref s), (1, yi x)]) (st' := [yi (x % 12)]) (hp' := hp) rfl ?_
            exact E_ret hk rfl rfl (li (by 
        first
        | (unfold jud; rw [if_pos (by omega : S 4 = 0)]; split <;> omega)
        | (unfold jud; rw [if_neg (by omega : ¬ S 4 = 0), if_pos (by omega : S 4 = 1)]; first | done | exact Int.neg_mul_neg _ _)
        | (rw [jud_2 (d := x) (by omega) (by omega)]; split <;> omega)
        | (rw [jud_2 (d := -x) (by omega) (by omega)]; split <;> omega)
        | (unfold jud; rw [if_neg (by omega : ¬ S 4 = 0), if_neg (by omega : ¬ S 4 = 1), if_neg (by omega : ¬ S 4 = 2)]; split <;> omega)))
      ·
        refine E_run hk 2 (j' := 18) (lv' := [(2, yi x), (0, .ref s), (1, yi x)]) (st' := [yi x, yi x]) (hp' := hp) rfl ?_
        refine Y_imul (a := x) (b := x) hk rfl ?_
        exact E_ret hk rfl rfl (li (by 
        first
        | (unfold jud; rw [if_pos (by omega : S 4 = 0)]; split <;> omega)
        | (unfold jud; rw [if_neg (by omega : ¬ S 4 = 0), if_pos (by omega : S 4 = 1)]; first | done | exact Int.neg_mul_neg _ _)
        | (rw [jud_2 (d := x) (by omega) (by omega)]; split <;> omega)
        | (rw [jud_2 (d := -x) (by omega) (by omega)]; split <;> omega)
        | (unfold jud; rw [if_neg (by omega : ¬ S 4 = 0), if_neg (by omega : ¬ S 4 = 1), if_neg (by omega : ¬ S 4 = 2)]; split <;> omega)))
    ·
      refine E_run hk 1 (j' := 11) (lv' := [(2, yi x), (0, .ref s), (1, yi x)]) (st' := [yi x]) (hp' := hp) rfl ?_
      exact E_ret hk rfl rfl (li (by 
        first
        | (unfold jud; rw [if_pos (by omega : S 4 = 0)]; split <;> omega)
        | (unfold jud; rw [if_neg (by omega : ¬ S 4 = 0), if_pos (by omega : S 4 = 1)]; first | done | exact Int.neg_mul_neg _ _)
        | (rw [jud_2 (d := x) (by omega) (by omega)]; split <;> omega)
        | (rw [jud_2 (d := -x) (by omega) (by omega)]; split <;> omega)
        | (unfold jud; rw [if_neg (by omega : ¬ S 4 = 0), if_neg (by omega : ¬ S 4 = 1), if_neg (by omega : ¬ S 4 = 2)]; split <;> omega)))
  ·
    refine E_run hk 1 (j' := 3) (lv' := [(0, .ref s), (1, yi x)]) (st' := [yi x]) (hp' := hp) rfl ?_
    refine Y_ineg (a := x) hk rfl ?_
    refine E_run hk 3 (j' := 8) (lv' := [(2, yi (-x)), (0, .ref s), (1, yi x)]) (st' := [.ref s]) (hp' := hp) rfl ?_
    refine E_get (v := yi (S 4)) hk rfl hs_ rfl ?_
    refine Y_if_ne (a := (S 4)) (by omega) hk rfl (fun g7 => ?_) (fun g7 => ?_)
    ·
      refine E_run hk 1 (j' := 13) (lv' := [(2, yi (-x)), (0, .ref s), (1, yi x)]) (st' := [.ref s]) (hp' := hp) rfl ?_
      refine E_get (v := yi (S 4)) hk rfl hs_ rfl ?_
      refine E_run hk 1 (j' := 15) (lv' := [(2, yi (-x)), (0, .ref s), (1, yi x)]) (st' := [yi 1, yi (S 4)]) (hp' := hp) rfl ?_
      refine Y_ic_ne (a := (S 4)) (b := 1) (by omega) hk rfl (fun g8 => ?_) (fun g8 => ?_)
      ·
        refine E_run hk 1 (j' := 21) (lv' := [(2, yi (-x)), (0, .ref s), (1, yi x)]) (st' := [.ref s]) (hp' := hp) rfl ?_
        refine E_get (v := yi (S 4)) hk rfl hs_ rfl ?_
        refine E_run hk 1 (j' := 23) (lv' := [(2, yi (-x)), (0, .ref s), (1, yi x)]) (st' := [yi 2, yi (S 4)]) (hp' := hp) rfl ?_
        refine Y_ic_ne (a := (S 4)) (b := 2) (by omega) hk rfl (fun g9 => ?_) (fun g9 => ?_)
        ·
          refine E_run hk 1 (j' := 40) (lv' := [(2, yi (-x)), (0, .ref s), (1, yi x)]) (st' := [yi (-x)]) (hp' := hp) rfl ?_
          refine Y_if_ne (a := (-x)) (by omega) hk rfl (fun g10 => ?_) (fun g10 => ?_)
          ·
            refine E_run hk 1 (j' := 44) (lv' := [(2, yi (-x)), (0, .ref s), (1, yi x)]) (st' := [yi 1]) (hp' := hp) rfl ?_
            exact E_ret hk rfl rfl (li (by 
        first
        | (unfold jud; rw [if_pos (by omega : S 4 = 0)]; split <;> omega)
        | (unfold jud; rw [if_neg (by omega : ¬ S 4 = 0), if_pos (by omega : S 4 = 1)]; first | done | exact Int.neg_mul_neg _ _)
        | (rw [jud_2 (d := x) (by omega) (by omega)]; split <;> omega)
        | (rw [jud_2 (d := -x) (by omega) (by omega)]; split <;> omega)
        | (unfold jud; rw [if_neg (by omega : ¬ S 4 = 0), if_neg (by omega : ¬ S 4 = 1), if_neg (by omega : ¬ S 4 = 2)]; split <;> omega)))
          ·
            refine E_run hk 2 (j' := 44) (lv' := [(2, yi (-x)), (0, .ref s), (1, yi x)]) (st' := [yi 0]) (hp' := hp) rfl ?_
            exact E_ret hk rfl rfl (li (by 
        first
        | (unfold jud; rw [if_pos (by omega : S 4 = 0)]; split <;> omega)
        | (unfold jud; rw [if_neg (by omega : ¬ S 4 = 0), if_pos (by omega : S 4 = 1)]; first | done | exact Int.neg_mul_neg _ _)
        | (rw [jud_2 (d := x) (by omega) (by omega)]; split <;> omega)
        | (rw [jud_2 (d := -x) (by omega) (by omega)]; split <;> omega)
        | (unfold jud; rw [if_neg (by omega : ¬ S 4 = 0), if_neg (by omega : ¬ S 4 = 1), if_neg (by omega : ¬ S 4 = 2)]; split <;> omega)))
        ·
          refine E_run hk 2 (j' := 26) (lv' := [(2, yi (-x)), (0, .ref s), (1, yi x)]) (st' := [yi 12, yi (-x)]) (hp' := hp) rfl ?_
          refine Y_irem (a := (-x)) (b := 12) (by omega) hk rfl ?_
          refine E_run hk 4 (j' := 31) (lv' := [(3, yi ((-x) % 12)), (2, yi (-x)), (0, .ref s), (1, yi x)]) (st' := [yi ((-x) % 12), yi 12, yi ((-x) % 12)]) (hp' := hp) rfl ?_
          refine Y_isub (a := 12) (b := ((-x) % 12)) hk rfl ?_
          refine Y_ic_gt (a := ((-x) % 12)) (b := (12 - ((-x) % 12))) (by omega) hk rfl (fun g11 => ?_) (fun g11 => ?_)
          ·
            refine E_run hk 2 (j' := 37) (lv' := [(3, yi ((-x) % 12)), (2, yi (-x)), (0, .ref s), (1, yi x)]) (st' := [yi ((-x) % 12), yi 12]) (hp' := hp) rfl ?_
            refine Y_isub (a := 12) (b := ((-x) % 12)) hk rfl ?_
            exact E_ret hk rfl rfl (li (by 
        first
        | (unfold jud; rw [if_pos (by omega : S 4 = 0)]; split <;> omega)
        | (unfold jud; rw [if_neg (by omega : ¬ S 4 = 0), if_pos (by omega : S 4 = 1)]; first | done | exact Int.neg_mul_neg _ _)
        | (rw [jud_2 (d := x) (by omega) (by omega)]; split <;> omega)
        | (rw [jud_2 (d := -x) (by omega) (by omega)]; split <;> omega)
        | (unfold jud; rw [if_neg (by omega : ¬ S 4 = 0), if_neg (by omega : ¬ S 4 = 1), if_neg (by omega : ¬ S 4 = 2)]; split <;> omega)))
          ·
            refine E_run hk 2 (j' := 38) (lv' := [(3, yi ((-x) % 12)), (2, yi (-x)), (0, .ref s), (1, yi x)]) (st' := [yi ((-x) % 12)]) (hp' := hp) rfl ?_
            exact E_ret hk rfl rfl (li (by 
        first
        | (unfold jud; rw [if_pos (by omega : S 4 = 0)]; split <;> omega)
        | (unfold jud; rw [if_neg (by omega : ¬ S 4 = 0), if_pos (by omega : S 4 = 1)]; first | done | exact Int.neg_mul_neg _ _)
        | (rw [jud_2 (d := x) (by omega) (by omega)]; split <;> omega)
        | (rw [jud_2 (d := -x) (by omega) (by omega)]; split <;> omega)
        | (unfold jud; rw [if_neg (by omega : ¬ S 4 = 0), if_neg (by omega : ¬ S 4 = 1), if_neg (by omega : ¬ S 4 = 2)]; split <;> omega)))
      ·
        refine E_run hk 2 (j' := 18) (lv' := [(2, yi (-x)), (0, .ref s), (1, yi x)]) (st' := [yi (-x), yi (-x)]) (hp' := hp) rfl ?_
        refine Y_imul (a := (-x)) (b := (-x)) hk rfl ?_
        exact E_ret hk rfl rfl (li (by 
        first
        | (unfold jud; rw [if_pos (by omega : S 4 = 0)]; split <;> omega)
        | (unfold jud; rw [if_neg (by omega : ¬ S 4 = 0), if_pos (by omega : S 4 = 1)]; first | done | exact Int.neg_mul_neg _ _)
        | (rw [jud_2 (d := x) (by omega) (by omega)]; split <;> omega)
        | (rw [jud_2 (d := -x) (by omega) (by omega)]; split <;> omega)
        | (unfold jud; rw [if_neg (by omega : ¬ S 4 = 0), if_neg (by omega : ¬ S 4 = 1), if_neg (by omega : ¬ S 4 = 2)]; split <;> omega)))
    ·
      refine E_run hk 1 (j' := 11) (lv' := [(2, yi (-x)), (0, .ref s), (1, yi x)]) (st' := [yi (-x)]) (hp' := hp) rfl ?_
      exact E_ret hk rfl rfl (li (by 
        first
        | (unfold jud; rw [if_pos (by omega : S 4 = 0)]; split <;> omega)
        | (unfold jud; rw [if_neg (by omega : ¬ S 4 = 0), if_pos (by omega : S 4 = 1)]; first | done | exact Int.neg_mul_neg _ _)
        | (rw [jud_2 (d := x) (by omega) (by omega)]; split <;> omega)
        | (rw [jud_2 (d := -x) (by omega) (by omega)]; split <;> omega)
        | (unfold jud; rw [if_neg (by omega : ¬ S 4 = 0), if_neg (by omega : ¬ S 4 = 1), if_neg (by omega : ¬ S 4 = 2)]; split <;> omega)))
theorem c_X5_difference {d : Nat} {hp : xH} {s z o : Nat} {S f g : Int → Int} {r t : Int} (hS : yS hp s z o S f g r t) (hz : 0 ≤ S 0 ∧ S 0 ≤ 20 ∧ 0 ≤ S 1 ∧ S 1 ≤ 20 ∧ 0 ≤ S 2 ∧ S 2 ≤ 20 ∧ 0 ≤ S 3 ∧ S 3 ≤ 50 ∧ 0 ≤ S 4 ∧ S 4 ≤ 3) (h0 : ∀ q, 0 ≤ q → q < S 0 → 0 ≤ S (7 + q) ∧ S (7 + q) ≤ 60) (h1 : ∀ q, 0 ≤ q → q < S 1 → 0 ≤ S (27 + q) ∧ S (27 + q) ≤ 60) {i j : Int} (hi : 0 ≤ i ∧ i < S 0 ∧ 0 ≤ j ∧ j < S 1) (hd : 1 ≤ d) : Cv d 37 [.ref s, yi i, yi j] hp (yP (some (yi (unl S 0 i j))) hp) := by
  have hk : xtab 37 = (xc_37, 3, 1, []) := rfl
  obtain ⟨d, rfl⟩ : ∃ e, d = e + 1 := ⟨d - 1, by omega⟩
  obtain ⟨hid, hs_, hz_, ho_, hf_, hg_, ef, eg⟩ := hS
  have e1 := ef i (by omega) (by omega)
  have e2 := eg j (by omega) (by omega)
  have w1 := h0 i (by omega) (by omega)
  have w2 := h1 j (by omega) (by omega)
  show Ev (d + 1) 37 0 [(0, .ref s), (1, yi i), (2, yi j)] [] hp _
  refine E_run hk 2 (j' := 2) (lv' := [(0, .ref s), (1, yi i), (2, yi j)]) (st' := [.ref s, .ref s]) (hp' := hp) rfl ?_
  refine E_get (v := .ref z) hk rfl hs_ rfl ?_
  refine E_run hk 1 (j' := 4) (lv' := [(0, .ref s), (1, yi i), (2, yi j)]) (st' := [yi i, .ref z, .ref s]) (hp' := hp) rfl ?_
  refine Y_callP hk rfl (as := [.ref z, yi i]) (rest := [.ref s]) (v := some (yi (f i))) rfl rfl (Nat.le_of_ble_eq_true rfl) (rcv0 hz_) (Nat.le_of_ble_eq_true rfl) (c_X6_pitchOf (x := i) (a := z) (p := (z + 1)) (f := f) (n := (S 0)) ⟨(s28 hid).2.1, (s28 hid).2.2.1, (sne hid).2.2.2.2.1⟩ hz_ hf_ (by omega)) ?_
  refine E_run hk 1 (j' := 6) (lv' := [(0, .ref s), (1, yi i), (2, yi j)]) (st' := [.ref s, yi (f i), .ref s]) (hp' := hp) rfl ?_
  refine E_get (v := .ref o) hk rfl hs_ rfl ?_
  refine E_run hk 1 (j' := 8) (lv' := [(0, .ref s), (1, yi i), (2, yi j)]) (st' := [yi j, .ref o, yi (f i), .ref s]) (hp' := hp) rfl ?_
  refine Y_callP hk rfl (as := [.ref o, yi j]) (rest := [yi (f i), .ref s]) (v := some (yi (g j))) rfl rfl (Nat.le_of_ble_eq_true rfl) (rcv0 ho_) (Nat.le_of_ble_eq_true rfl) (c_X6_pitchOf (x := j) (a := o) (p := (o + 1)) (f := g) (n := (S 1)) ⟨(s28 hid).2.2.2.1, (s28 hid).2.2.2.2, (sne hid).2.2.2.2.2.2.2.2.2⟩ ho_ hg_ (by omega)) ?_
  refine Y_isub (a := (f i)) (b := (g j)) hk rfl ?_
  refine Y_callP hk rfl (as := [.ref s, yi ((f i) - (g j))]) (rest := []) (v := some (yi (jud (S 4) ((f i) - (g j))))) rfl rfl (Nat.le_of_ble_eq_true rfl) (rcv0 hs_) (Nat.le_of_ble_eq_true rfl) (c_X5_judged ⟨hid, hs_, hz_, ho_, hf_, hg_, ef, eg⟩ (by omega) (x := ((f i) - (g j))) (by omega)) ?_
  exact E_ret hk rfl rfl (li (by unfold unl; rw [e1, e2]; congr 1; omega))
theorem c_X5_tuneOf {d : Nat} {hp : xH} {s z o : Nat} {S f g : Int → Int} {r t : Int} (hS : yS hp s z o S f g r t) {x : Int} (hx : 0 ≤ x ∧ x ≤ 1) : Cv d 31 [.ref s, yi x] hp (yP (some (.ref (tun x z o))) hp) := by
  have hk : xtab 31 = (xc_31, 2, 5, []) := rfl
  obtain ⟨hid, hs_, hz_, ho_, hf_, hg_, ef, eg⟩ := hS
  show Ev d 31 0 [(0, .ref s), (1, yi x)] [] hp _
  refine E_run hk 1 (j' := 1) (lv' := [(0, .ref s), (1, yi x)]) (st' := [yi x]) (hp' := hp) rfl ?_
  refine Y_if_ne (a := x) (by omega) hk rfl (fun g1 => ?_) (fun g1 => ?_)
  ·
    refine E_run hk 1 (j' := 6) (lv' := [(0, .ref s), (1, yi x)]) (st' := [.ref s]) (hp' := hp) rfl ?_
    refine E_get (v := .ref o) hk rfl hs_ rfl ?_
    exact E_ret hk rfl rfl ⟨by have w := tun_or x z o; first | rw [show tun x z o = z by omega] | rw [show tun x z o = o by omega], rfl⟩
  ·
    refine E_run hk 1 (j' := 3) (lv' := [(0, .ref s), (1, yi x)]) (st' := [.ref s]) (hp' := hp) rfl ?_
    refine E_get (v := .ref z) hk rfl hs_ rfl ?_
    refine E_run hk 1 (j' := 7) (lv' := [(0, .ref s), (1, yi x)]) (st' := [.ref z]) (hp' := hp) rfl ?_
    exact E_ret hk rfl rfl ⟨by have w := tun_or x z o; first | rw [show tun x z o = z by omega] | rw [show tun x z o = o by omega], rfl⟩
theorem c_X5_swapTunes {d : Nat} {hp : xH} {s z o : Nat} {S f g : Int → Int} {r t : Int} (hS : yS hp s z o S f g r t) : Cv d 32 [.ref s] hp (yR none (fun h => xat h s = some (.inr (6, [.ref o, .ref z, yi (S 2), yi (S 3), yi (S 4), yi r, yi t])) ∧ yfr [s] hp h)) := by
  have hk : xtab 32 = (xc_32, 2, 0, []) := rfl
  obtain ⟨hid, hs_, hz_, ho_, hf_, hg_, ef, eg⟩ := hS
  show Ev d 32 0 [(0, .ref s)] [] hp _
  refine E_run hk 1 (j' := 1) (lv' := [(0, .ref s)]) (st' := [.ref s]) (hp' := hp) rfl ?_
  refine E_get (v := .ref z) hk rfl hs_ rfl ?_
  refine E_run hk 3 (j' := 5) (lv' := [(1, .ref z), (0, .ref s)]) (st' := [.ref s, .ref s]) (hp' := hp) rfl ?_
  refine E_get (v := .ref o) hk rfl hs_ rfl ?_
  refine Y_put hk rfl hs_ (show xNC ≤ s from (s28 hid).1) (Nat.le_of_ble_eq_true rfl) rfl (fs' := [.ref o, .ref o, yi (S 2), yi (S 3), yi (S 4), yi r, yi t]) rfl (fun H1 e2 f3 => ?_)
  refine E_run hk 2 (j' := 9) (lv' := [(1, .ref z), (0, .ref s)]) (st' := [.ref z, .ref s]) (hp' := H1) rfl ?_
  refine Y_put hk rfl e2 (show xNC ≤ s from (s28 hid).1) (Nat.le_of_ble_eq_true rfl) rfl (fs' := [.ref o, .ref z, yi (S 2), yi (S 3), yi (S 4), yi r, yi t]) rfl (fun H4 e5 f6 => ?_)
  exact E_ret hk rfl rfl ⟨rfl, e5, (yfr.tr f3 f6 (fun _ h => h) (by simp))⟩
theorem c_X5_copyFrom {d : Nat} {hp : xH} {s z o : Nat} {S f g : Int → Int} {r t : Int} (hS : yS hp s z o S f g r t) {s2 z2 o2 : Nat} {S2 f2 g2 : Int → Int} {r2 t2 : Int} (hS2 : yS hp s2 z2 o2 S2 f2 g2 r2 t2) (hne : s + 5 ≤ s2 ∨ s2 + 5 ≤ s) (hl2 : 0 ≤ S2 0 ∧ S2 0 ≤ 20 ∧ 0 ≤ S2 1 ∧ S2 1 ≤ 20) (hd : 1 ≤ d) : Cv d 30 [.ref s, .ref s2] hp (yR none (fun h => ∃ f3 g3, yS h s z o S2 f3 g3 r2 t2 ∧ yfr [s, z, z + 1, o, o + 1] hp h)) := by
  have hk : xtab 30 = (xc_30, 2, 0, []) := rfl
  obtain ⟨d, rfl⟩ : ∃ e, d = e + 1 := ⟨d - 1, by omega⟩
  obtain ⟨hid, hs_, hz_, ho_, hf_, hg_, ef, eg⟩ := hS
  obtain ⟨hid2, hs_2, hz_2, ho_2, hf_2, hg_2, ef2, eg2⟩ := hS2
  show Ev (d + 1) 30 0 [(0, .ref s), (1, .ref s2)] [] hp _
  refine E_run hk 1 (j' := 1) (lv' := [(0, .ref s), (1, .ref s2)]) (st' := [.ref s]) (hp' := hp) rfl ?_
  refine E_get (v := .ref z) hk rfl hs_ rfl ?_
  refine E_run hk 1 (j' := 3) (lv' := [(0, .ref s), (1, .ref s2)]) (st' := [.ref s2, .ref z]) (hp' := hp) rfl ?_
  refine E_get (v := .ref z2) hk rfl hs_2 rfl ?_
  refine Y_call hk rfl (as := [.ref z, .ref z2]) (rest := []) (v := none) rfl rfl (Nat.le_of_ble_eq_true rfl) (rcv0 hz_) (Nat.le_of_ble_eq_true rfl) (c_X6_copyFrom (a := z) (p := (z + 1)) (b := z2) (q := (z2 + 1)) (f := f) (g := f2) (n := (S 0)) (m := (S2 0)) ⟨(s28 hid).2.1, (s28 hid).2.2.1, (s28 hid2).2.1, (s28 hid2).2.2.1, (sne hid).2.2.2.2.1, (sdi hid hid2 hne _ _ (Or.inr (Or.inl rfl)) (Or.inr (Or.inl rfl))), (sdi hid hid2 hne _ _ (Or.inr (Or.inl rfl)) (Or.inr (Or.inr (Or.inl rfl)))), (sdi hid hid2 hne _ _ (Or.inr (Or.inr (Or.inl rfl))) (Or.inr (Or.inl rfl))), (sdi hid hid2 hne _ _ (Or.inr (Or.inr (Or.inl rfl))) (Or.inr (Or.inr (Or.inl rfl)))), (sne hid2).2.2.2.2.1⟩ hz_ hf_ hz_2 hf_2) (fun H1 r2 => ?_)
  obtain ⟨F_H1, l_H1, e_H1, a_H1, f_H1⟩ := r2
  refine E_run hk 1 (j' := 6) (lv' := [(0, .ref s), (1, .ref s2)]) (st' := [.ref s]) (hp' := H1) rfl ?_
  refine E_get (v := .ref o) hk rfl (f_H1.at (by simp only [List.mem_cons, List.not_mem_nil, or_false, not_or]; exact ⟨(sne hid).1, (sne hid).2.1⟩) hs_) rfl ?_
  refine E_run hk 1 (j' := 8) (lv' := [(0, .ref s), (1, .ref s2)]) (st' := [.ref s2, .ref o]) (hp' := H1) rfl ?_
  refine E_get (v := .ref o2) hk rfl (f_H1.at (by simp only [List.mem_cons, List.not_mem_nil, or_false, not_or]; exact ⟨(Ne.symm (sdi hid hid2 hne _ _ (Or.inr (Or.inl rfl)) (Or.inl rfl))), (Ne.symm (sdi hid hid2 hne _ _ (Or.inr (Or.inr (Or.inl rfl))) (Or.inl rfl)))⟩) hs_2) rfl ?_
  refine Y_call hk rfl (as := [.ref o, .ref o2]) (rest := []) (v := none) rfl rfl (Nat.le_of_ble_eq_true rfl) (rcv0 (f_H1.at (by simp only [List.mem_cons, List.not_mem_nil, or_false, not_or]; exact ⟨(Ne.symm (sne hid).2.2.2.2.2.1), (Ne.symm (sne hid).2.2.2.2.2.2.2.1)⟩) ho_)) (Nat.le_of_ble_eq_true rfl) (c_X6_copyFrom (a := o) (p := (o + 1)) (b := o2) (q := (o2 + 1)) (f := g) (g := g2) (n := (S 1)) (m := (S2 1)) ⟨(s28 hid).2.2.2.1, (s28 hid).2.2.2.2, (s28 hid2).2.2.2.1, (s28 hid2).2.2.2.2, (sne hid).2.2.2.2.2.2.2.2.2, (sdi hid hid2 hne _ _ (Or.inr (Or.inr (Or.inr (Or.inl rfl)))) (Or.inr (Or.inr (Or.inr (Or.inl rfl))))), (sdi hid hid2 hne _ _ (Or.inr (Or.inr (Or.inr (Or.inl rfl)))) (Or.inr (Or.inr (Or.inr (Or.inr rfl))))), (sdi hid hid2 hne _ _ (Or.inr (Or.inr (Or.inr (Or.inr rfl)))) (Or.inr (Or.inr (Or.inr (Or.inl rfl))))), (sdi hid hid2 hne _ _ (Or.inr (Or.inr (Or.inr (Or.inr rfl)))) (Or.inr (Or.inr (Or.inr (Or.inr rfl))))), (sne hid2).2.2.2.2.2.2.2.2.2⟩ (f_H1.at (by simp only [List.mem_cons, List.not_mem_nil, or_false, not_or]; exact ⟨(Ne.symm (sne hid).2.2.2.2.2.1), (Ne.symm (sne hid).2.2.2.2.2.2.2.1)⟩) ho_) (f_H1.at (by simp only [List.mem_cons, List.not_mem_nil, or_false, not_or]; exact ⟨(Ne.symm (sne hid).2.2.2.2.2.2.1), (Ne.symm (sne hid).2.2.2.2.2.2.2.2.1)⟩) hg_) (f_H1.at (by simp only [List.mem_cons, List.not_mem_nil, or_false, not_or]; exact ⟨(Ne.symm (sdi hid hid2 hne _ _ (Or.inr (Or.inl rfl)) (Or.inr (Or.inr (Or.inr (Or.inl rfl)))))), (Ne.symm (sdi hid hid2 hne _ _ (Or.inr (Or.inr (Or.inl rfl))) (Or.inr (Or.inr (Or.inr (Or.inl rfl))))))⟩) ho_2) (f_H1.at (by simp only [List.mem_cons, List.not_mem_nil, or_false, not_or]; exact ⟨(Ne.symm (sdi hid hid2 hne _ _ (Or.inr (Or.inl rfl)) (Or.inr (Or.inr (Or.inr (Or.inr rfl)))))), (Ne.symm (sdi hid hid2 hne _ _ (Or.inr (Or.inr (Or.inl rfl))) (Or.inr (Or.inr (Or.inr (Or.inr rfl))))))⟩) hg_2)) (fun H3 r4 => ?_)
  obtain ⟨F_H3, l_H3, e_H3, a_H3, f_H3⟩ := r4
  refine E_run hk 2 (j' := 12) (lv' := [(0, .ref s), (1, .ref s2)]) (st' := [.ref s2, .ref s]) (hp' := H3) rfl ?_
  refine E_get (v := yi (S2 2)) hk rfl (f_H3.at (by simp only [List.mem_cons, List.not_mem_nil, or_false, not_or]; exact ⟨(Ne.symm (sdi hid hid2 hne _ _ (Or.inr (Or.inr (Or.inr (Or.inl rfl)))) (Or.inl rfl))), (Ne.symm (sdi hid hid2 hne _ _ (Or.inr (Or.inr (Or.inr (Or.inr rfl)))) (Or.inl rfl)))⟩) (f_H1.at (by simp only [List.mem_cons, List.not_mem_nil, or_false, not_or]; exact ⟨(Ne.symm (sdi hid hid2 hne _ _ (Or.inr (Or.inl rfl)) (Or.inl rfl))), (Ne.symm (sdi hid hid2 hne _ _ (Or.inr (Or.inr (Or.inl rfl))) (Or.inl rfl)))⟩) hs_2)) rfl ?_
  refine Y_put hk rfl (f_H3.at (by simp only [List.mem_cons, List.not_mem_nil, or_false, not_or]; exact ⟨(sne hid).2.2.1, (sne hid).2.2.2.1⟩) (f_H1.at (by simp only [List.mem_cons, List.not_mem_nil, or_false, not_or]; exact ⟨(sne hid).1, (sne hid).2.1⟩) hs_)) (show xNC ≤ s from (s28 hid).1) (Nat.le_of_ble_eq_true rfl) rfl (fs' := [.ref z, .ref o, yi (S2 2), yi (S 3), yi (S 4), yi r, yi t]) rfl (fun H5 e6 f7 => ?_)
  refine E_run hk 2 (j' := 16) (lv' := [(0, .ref s), (1, .ref s2)]) (st' := [.ref s2, .ref s]) (hp' := H5) rfl ?_
  refine E_get (v := yi (S2 3)) hk rfl (f7.at (by simp only [List.mem_cons, List.not_mem_nil, or_false, not_or]; exact (Ne.symm (sdi hid hid2 hne _ _ (Or.inl rfl) (Or.inl rfl)))) (f_H3.at (by simp only [List.mem_cons, List.not_mem_nil, or_false, not_or]; exact ⟨(Ne.symm (sdi hid hid2 hne _ _ (Or.inr (Or.inr (Or.inr (Or.inl rfl)))) (Or.inl rfl))), (Ne.symm (sdi hid hid2 hne _ _ (Or.inr (Or.inr (Or.inr (Or.inr rfl)))) (Or.inl rfl)))⟩) (f_H1.at (by simp only [List.mem_cons, List.not_mem_nil, or_false, not_or]; exact ⟨(Ne.symm (sdi hid hid2 hne _ _ (Or.inr (Or.inl rfl)) (Or.inl rfl))), (Ne.symm (sdi hid hid2 hne _ _ (Or.inr (Or.inr (Or.inl rfl))) (Or.inl rfl)))⟩) hs_2))) rfl ?_
  refine Y_put hk rfl e6 (show xNC ≤ s from (s28 hid).1) (Nat.le_of_ble_eq_true rfl) rfl (fs' := [.ref z, .ref o, yi (S2 2), yi (S2 3), yi (S 4), yi r, yi t]) rfl (fun H8 e9 f10 => ?_)
  refine E_run hk 2 (j' := 20) (lv' := [(0, .ref s), (1, .ref s2)]) (st' := [.ref s2, .ref s]) (hp' := H8) rfl ?_
  refine E_get (v := yi (S2 4)) hk rfl (f10.at (by simp only [List.mem_cons, List.not_mem_nil, or_false, not_or]; exact (Ne.symm (sdi hid hid2 hne _ _ (Or.inl rfl) (Or.inl rfl)))) (f7.at (by simp only [List.mem_cons, List.not_mem_nil, or_false, not_or]; exact (Ne.symm (sdi hid hid2 hne _ _ (Or.inl rfl) (Or.inl rfl)))) (f_H3.at (by simp only [List.mem_cons, List.not_mem_nil, or_false, not_or]; exact ⟨(Ne.symm (sdi hid hid2 hne _ _ (Or.inr (Or.inr (Or.inr (Or.inl rfl)))) (Or.inl rfl))), (Ne.symm (sdi hid hid2 hne _ _ (Or.inr (Or.inr (Or.inr (Or.inr rfl)))) (Or.inl rfl)))⟩) (f_H1.at (by simp only [List.mem_cons, List.not_mem_nil, or_false, not_or]; exact ⟨(Ne.symm (sdi hid hid2 hne _ _ (Or.inr (Or.inl rfl)) (Or.inl rfl))), (Ne.symm (sdi hid hid2 hne _ _ (Or.inr (Or.inr (Or.inl rfl))) (Or.inl rfl)))⟩) hs_2)))) rfl ?_
  refine Y_put hk rfl e9 (show xNC ≤ s from (s28 hid).1) (Nat.le_of_ble_eq_true rfl) rfl (fs' := [.ref z, .ref o, yi (S2 2), yi (S2 3), yi (S2 4), yi r, yi t]) rfl (fun H11 e12 f13 => ?_)
  refine E_run hk 2 (j' := 24) (lv' := [(0, .ref s), (1, .ref s2)]) (st' := [.ref s2, .ref s]) (hp' := H11) rfl ?_
  refine E_get (v := yi r2) hk rfl (f13.at (by simp only [List.mem_cons, List.not_mem_nil, or_false, not_or]; exact (Ne.symm (sdi hid hid2 hne _ _ (Or.inl rfl) (Or.inl rfl)))) (f10.at (by simp only [List.mem_cons, List.not_mem_nil, or_false, not_or]; exact (Ne.symm (sdi hid hid2 hne _ _ (Or.inl rfl) (Or.inl rfl)))) (f7.at (by simp only [List.mem_cons, List.not_mem_nil, or_false, not_or]; exact (Ne.symm (sdi hid hid2 hne _ _ (Or.inl rfl) (Or.inl rfl)))) (f_H3.at (by simp only [List.mem_cons, List.not_mem_nil, or_false, not_or]; exact ⟨(Ne.symm (sdi hid hid2 hne _ _ (Or.inr (Or.inr (Or.inr (Or.inl rfl)))) (Or.inl rfl))), (Ne.symm (sdi hid hid2 hne _ _ (Or.inr (Or.inr (Or.inr (Or.inr rfl)))) (Or.inl rfl)))⟩) (f_H1.at (by simp only [List.mem_cons, List.not_mem_nil, or_false, not_or]; exact ⟨(Ne.symm (sdi hid hid2 hne _ _ (Or.inr (Or.inl rfl)) (Or.inl rfl))), (Ne.symm (sdi hid hid2 hne _ _ (Or.inr (Or.inr (Or.inl rfl))) (Or.inl rfl)))⟩) hs_2))))) rfl ?_
  refine Y_put hk rfl e12 (show xNC ≤ s from (s28 hid).1) (Nat.le_of_ble_eq_true rfl) rfl (fs' := [.ref z, .ref o, yi (S2 2), yi (S2 3), yi (S2 4), yi r2, yi t]) rfl (fun H14 e15 f16 => ?_)
  refine E_run hk 2 (j' := 28) (lv' := [(0, .ref s), (1, .ref s2)]) (st' := [.ref s2, .ref s]) (hp' := H14) rfl ?_
  refine E_get (v := yi t2) hk rfl (f16.at (by simp only [List.mem_cons, List.not_mem_nil, or_false, not_or]; exact (Ne.symm (sdi hid hid2 hne _ _ (Or.inl rfl) (Or.inl rfl)))) (f13.at (by simp only [List.mem_cons, List.not_mem_nil, or_false, not_or]; exact (Ne.symm (sdi hid hid2 hne _ _ (Or.inl rfl) (Or.inl rfl)))) (f10.at (by simp only [List.mem_cons, List.not_mem_nil, or_false, not_or]; exact (Ne.symm (sdi hid hid2 hne _ _ (Or.inl rfl) (Or.inl rfl)))) (f7.at (by simp only [List.mem_cons, List.not_mem_nil, or_false, not_or]; exact (Ne.symm (sdi hid hid2 hne _ _ (Or.inl rfl) (Or.inl rfl)))) (f_H3.at (by simp only [List.mem_cons, List.not_mem_nil, or_false, not_or]; exact ⟨(Ne.symm (sdi hid hid2 hne _ _ (Or.inr (Or.inr (Or.inr (Or.inl rfl)))) (Or.inl rfl))), (Ne.symm (sdi hid hid2 hne _ _ (Or.inr (Or.inr (Or.inr (Or.inr rfl)))) (Or.inl rfl)))⟩) (f_H1.at (by simp only [List.mem_cons, List.not_mem_nil, or_false, not_or]; exact ⟨(Ne.symm (sdi hid hid2 hne _ _ (Or.inr (Or.inl rfl)) (Or.inl rfl))), (Ne.symm (sdi hid hid2 hne _ _ (Or.inr (Or.inr (Or.inl rfl))) (Or.inl rfl)))⟩) hs_2)))))) rfl ?_
  refine Y_put hk rfl e15 (show xNC ≤ s from (s28 hid).1) (Nat.le_of_ble_eq_true rfl) rfl (fs' := [.ref z, .ref o, yi (S2 2), yi (S2 3), yi (S2 4), yi r2, yi t2]) rfl (fun H17 e18 f19 => ?_)
  exact E_ret hk rfl rfl ⟨rfl, _, _, ⟨hid, e18, (f19.at (by simp only [List.mem_cons, List.not_mem_nil, or_false, not_or]; exact (Ne.symm (sne hid).1)) (f16.at (by simp only [List.mem_cons, List.not_mem_nil, or_false, not_or]; exact (Ne.symm (sne hid).1)) (f13.at (by simp only [List.mem_cons, List.not_mem_nil, or_false, not_or]; exact (Ne.symm (sne hid).1)) (f10.at (by simp only [List.mem_cons, List.not_mem_nil, or_false, not_or]; exact (Ne.symm (sne hid).1)) (f7.at (by simp only [List.mem_cons, List.not_mem_nil, or_false, not_or]; exact (Ne.symm (sne hid).1)) (f_H3.at (by simp only [List.mem_cons, List.not_mem_nil, or_false, not_or]; exact ⟨(sne hid).2.2.2.2.2.1, (sne hid).2.2.2.2.2.2.1⟩) l_H1)))))), (f19.at (by simp only [List.mem_cons, List.not_mem_nil, or_false, not_or]; exact (Ne.symm (sne hid).2.2.1)) (f16.at (by simp only [List.mem_cons, List.not_mem_nil, or_false, not_or]; exact (Ne.symm (sne hid).2.2.1)) (f13.at (by simp only [List.mem_cons, List.not_mem_nil, or_false, not_or]; exact (Ne.symm (sne hid).2.2.1)) (f10.at (by simp only [List.mem_cons, List.not_mem_nil, or_false, not_or]; exact (Ne.symm (sne hid).2.2.1)) (f7.at (by simp only [List.mem_cons, List.not_mem_nil, or_false, not_or]; exact (Ne.symm (sne hid).2.2.1)) l_H3))))), (f19.at (by simp only [List.mem_cons, List.not_mem_nil, or_false, not_or]; exact (Ne.symm (sne hid).2.1)) (f16.at (by simp only [List.mem_cons, List.not_mem_nil, or_false, not_or]; exact (Ne.symm (sne hid).2.1)) (f13.at (by simp only [List.mem_cons, List.not_mem_nil, or_false, not_or]; exact (Ne.symm (sne hid).2.1)) (f10.at (by simp only [List.mem_cons, List.not_mem_nil, or_false, not_or]; exact (Ne.symm (sne hid).2.1)) (f7.at (by simp only [List.mem_cons, List.not_mem_nil, or_false, not_or]; exact (Ne.symm (sne hid).2.1)) (f_H3.at (by simp only [List.mem_cons, List.not_mem_nil, or_false, not_or]; exact ⟨(sne hid).2.2.2.2.2.2.2.1, (sne hid).2.2.2.2.2.2.2.2.1⟩) e_H1)))))), (f19.at (by simp only [List.mem_cons, List.not_mem_nil, or_false, not_or]; exact (Ne.symm (sne hid).2.2.2.1)) (f16.at (by simp only [List.mem_cons, List.not_mem_nil, or_false, not_or]; exact (Ne.symm (sne hid).2.2.2.1)) (f13.at (by simp only [List.mem_cons, List.not_mem_nil, or_false, not_or]; exact (Ne.symm (sne hid).2.2.2.1)) (f10.at (by simp only [List.mem_cons, List.not_mem_nil, or_false, not_or]; exact (Ne.symm (sne hid).2.2.2.1)) (f7.at (by simp only [List.mem_cons, List.not_mem_nil, or_false, not_or]; exact (Ne.symm (sne hid).2.2.2.1)) e_H3))))), fun q q1 q2 => (a_H1 q q1 (by omega)).trans (ef2 q q1 q2), fun q q1 q2 => (a_H3 q q1 (by omega)).trans (eg2 q q1 q2)⟩, (yfr.tr (yfr.tr (yfr.tr (yfr.tr (yfr.tr (yfr.tr (f_H1.mono (by simp)) f_H3 (fun _ h => h) (by simp)) f7 (fun _ h => h) (by simp)) f10 (fun _ h => h) (by simp)) f13 (fun _ h => h) (by simp)) f16 (fun _ h => h) (by simp)) f19 (fun _ h => h) (by simp))⟩
