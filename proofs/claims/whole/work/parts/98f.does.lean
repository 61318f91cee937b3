/-! The reference does a part. -/
theorem c_X9_sings {d : Nat} {hp : xH} {v : Nat → Int} (hM : xat hp 63 = some (yMo v)) {S : Int → Int} (hS : xat hp 64 = some (yI 47 S)) {B C : Int → Int} (hB : xat hp 68 = some (yI 60 B)) (hC : xat hp 69 = some (yI 60 C)) {q : Int} (hq : 0 ≤ q ∧ q ≤ 55) (ht : 0 ≤ B (q + 1) ∧ B (q + 1) ≤ 1) (h4 : 0 ≤ B (q + 4) ∧ B (q + 4) ≤ 30) (h3 : 0 ≤ B (q + 3) ∧ B (q + 3) + B (q + 4) ≤ 60) (hd : 1 ≤ d) : Cv d 207 [.ref 63, yi q] hp (yE (fun z h => ∃ S2, doesP 0 (B (q + 1)) (B (q + 2)) (B (q + 4)) (fun i => C (B (q + 3) + i)) S S2 z ∧ xat h 64 = some (yI 47 S2) ∧ yfr [64] hp h)) := by
  have hk : xtab 207 = (xc_207, 4, 1, []) := rfl
  obtain ⟨d, rfl⟩ : ∃ e, d = e + 1 := ⟨d - 1, by omega⟩
  show Ev (d + 1) 207 0 [(0, .ref 63), (1, yi q)] [] hp _
  refine E_run hk 1 (j' := 1) (lv' := [(0, .ref 63), (1, yi q)]) (st' := [.ref 63]) (hp' := hp) rfl ?_
  refine E_get (v := .ref 68) hk rfl hM rfl ?_
  refine E_run hk 2 (j' := 4) (lv' := [(0, .ref 63), (1, yi q)]) (st' := [yi 1, yi q, .ref 68]) (hp' := hp) rfl ?_
  refine Y_iadd (a := q) (b := 1) hk rfl ?_
  refine Y_iald (a := (q + 1)) (by omega) (by decide) hk rfl hB ?_
  refine E_run hk 2 (j' := 8) (lv' := [(2, yi (B (q + 1))), (0, .ref 63), (1, yi q)]) (st' := [.ref 63]) (hp' := hp) rfl ?_
  refine E_get (v := .ref 68) hk rfl hM rfl ?_
  refine E_run hk 2 (j' := 11) (lv' := [(2, yi (B (q + 1))), (0, .ref 63), (1, yi q)]) (st' := [yi 4, yi q, .ref 68]) (hp' := hp) rfl ?_
  refine Y_iadd (a := q) (b := 4) hk rfl ?_
  refine Y_iald (a := (q + 4)) (by omega) (by decide) hk rfl hB ?_
  refine E_run hk 1 (j' := 14) (lv' := [(2, yi (B (q + 1))), (0, .ref 63), (1, yi q)]) (st' := [yi 20, yi (B (q + 4))]) (hp' := hp) rfl ?_
  refine Y_ic_le (a := (B (q + 4))) (b := 20) (by omega) hk rfl (fun g1 => ?_) (fun g1 => ?_)
  ·
    refine E_run hk 1 (j' := 18) (lv' := [(2, yi (B (q + 1))), (0, .ref 63), (1, yi q)]) (st' := [.ref 63]) (hp' := hp) rfl ?_
    refine E_get (v := .ref 64) hk rfl hM rfl ?_
    refine E_run hk 2 (j' := 21) (lv' := [(2, yi (B (q + 1))), (0, .ref 63), (1, yi q)]) (st' := [yi (B (q + 1)), yi 0, .ref 64]) (hp' := hp) rfl ?_
    refine Y_iadd (a := 0) (b := (B (q + 1))) hk rfl ?_
    refine E_run hk 1 (j' := 23) (lv' := [(2, yi (B (q + 1))), (0, .ref 63), (1, yi q)]) (st' := [.ref 63, yi (0 + (B (q + 1))), .ref 64]) (hp' := hp) rfl ?_
    refine E_get (v := .ref 68) hk rfl hM rfl ?_
    refine E_run hk 2 (j' := 26) (lv' := [(2, yi (B (q + 1))), (0, .ref 63), (1, yi q)]) (st' := [yi 4, yi q, .ref 68, yi (0 + (B (q + 1))), .ref 64]) (hp' := hp) rfl ?_
    refine Y_iadd (a := q) (b := 4) hk rfl ?_
    refine Y_iald (a := (q + 4)) (by omega) (by decide) hk rfl hB ?_
    refine Y_iast (a := (0 + (B (q + 1)))) (x := (B (q + 4))) (by omega) (by decide) (by decide) hk rfl hS (fun H2 e3 f4 => ?_)
    refine E_run hk 2 (j' := 31) (lv' := [(3, yi 0), (2, yi (B (q + 1))), (0, .ref 63), (1, yi q)]) (st' := []) (hp' := H2) rfl ?_
    have loop31 : ∀ (N : Nat) (i : Int) (g : Int → Int) (hl31 : xH), (0 ≤ i ∧ i ≤ B (q + 4) ∧ B (q + 4) ≤ 20) → (∀ x, 0 ≤ x → x < i → g (7 + 20 * B (q + 1) + x) = C (B (q + 3) + x)) → (∀ x, ¬ (7 + 20 * B (q + 1) ≤ x ∧ x < 7 + 20 * B (q + 1) + i) → g x = up S (0 + B (q + 1)) (B (q + 4)) x) → (xat hl31 64 = some (yI 47 g)) → (yfr [64] H2 hl31) → (B (q + 4) - i).toNat = N → Ev (d + 1) 207 31 [(0, .ref 63), (1, yi q), (2, yi (B (q + 1))), (3, yi i)] [] hl31 (yE (fun z h => ∃ S2, doesP 0 (B (q + 1)) (B (q + 2)) (B (q + 4)) (fun i => C (B (q + 3) + i)) S S2 z ∧ xat h 64 = some (yI 47 S2) ∧ yfr [64] hp h)) := by
      intro N
      induction N using Nat.strongRecOn with
      | ind N ih31 =>
        intro i g hl31 Ji J1 J2 ec31_64 fr31 hm31
        refine E_run hk 1 (j' := 32) (lv' := [(0, .ref 63), (1, yi q), (2, yi (B (q + 1))), (3, yi i)]) (st' := [yi i]) (hp' := hl31) rfl ?_
        refine E_run hk 1 (j' := 33) (lv' := [(0, .ref 63), (1, yi q), (2, yi (B (q + 1))), (3, yi i)]) (st' := [.ref 63, yi i]) (hp' := hl31) rfl ?_
        refine E_get (v := .ref 68) hk rfl (fr31.at (by decide) (f4.at (by decide) hM)) rfl ?_
        refine E_run hk 2 (j' := 36) (lv' := [(0, .ref 63), (1, yi q), (2, yi (B (q + 1))), (3, yi i)]) (st' := [yi 4, yi q, .ref 68, yi i]) (hp' := hl31) rfl ?_
        refine Y_iadd (a := q) (b := 4) hk rfl ?_
        refine Y_iald (a := (q + 4)) (by omega) (by decide) hk rfl (fr31.at (by decide) (f4.at (by decide) hB)) ?_
        refine Y_ic_ge (a := i) (b := (B (q + 4))) (by omega) hk rfl (fun g5 => ?_) (fun g5 => ?_)
        ·
          refine E_run hk 1 (j' := 57) (lv' := [(0, .ref 63), (1, yi q), (2, yi (B (q + 1))), (3, yi i)]) (st' := [yi 0]) (hp' := hl31) rfl ?_
          exact E_ret hk rfl rfl ⟨_, rfl, g, Or.inl ⟨rfl, Or.inr ⟨rfl, by omega, (J2 _ (by omega)).trans (up_self _ _ _), fun x x0 x1 => J1 x x0 (by omega), fun x x0 x1 => (J2 x (by omega)).trans (up_ne _ _ x0)⟩⟩, ec31_64, (yfr.tr f4 fr31 (fun _ h => h) (by decide))⟩
        ·
          refine E_run hk 4 (j' := 43) (lv' := [(0, .ref 63), (1, yi q), (2, yi (B (q + 1))), (3, yi i)]) (st' := [.ref 63, yi i, yi (B (q + 1)), .ref 63]) (hp' := hl31) rfl ?_
          refine E_get (v := .ref 69) hk rfl (fr31.at (by decide) (f4.at (by decide) hM)) rfl ?_
          refine E_run hk 1 (j' := 45) (lv' := [(0, .ref 63), (1, yi q), (2, yi (B (q + 1))), (3, yi i)]) (st' := [.ref 63, .ref 69, yi i, yi (B (q + 1)), .ref 63]) (hp' := hl31) rfl ?_
          refine E_get (v := .ref 68) hk rfl (fr31.at (by decide) (f4.at (by decide) hM)) rfl ?_
          refine E_run hk 2 (j' := 48) (lv' := [(0, .ref 63), (1, yi q), (2, yi (B (q + 1))), (3, yi i)]) (st' := [yi 3, yi q, .ref 68, .ref 69, yi i, yi (B (q + 1)), .ref 63]) (hp' := hl31) rfl ?_
          refine Y_iadd (a := q) (b := 3) hk rfl ?_
          refine Y_iald (a := (q + 3)) (by omega) (by decide) hk rfl (fr31.at (by decide) (f4.at (by decide) hB)) ?_
          refine E_run hk 1 (j' := 51) (lv' := [(0, .ref 63), (1, yi q), (2, yi (B (q + 1))), (3, yi i)]) (st' := [yi i, yi (B (q + 3)), .ref 69, yi i, yi (B (q + 1)), .ref 63]) (hp' := hl31) rfl ?_
          refine Y_iadd (a := (B (q + 3))) (b := i) hk rfl ?_
          refine Y_iald (a := ((B (q + 3)) + i)) (by omega) (by decide) hk rfl (fr31.at (by decide) (f4.at (by decide) hC)) ?_
          refine Y_call hk rfl (as := [.ref 63, yi (B (q + 1)), yi i, yi (C ((B (q + 3)) + i))]) (rest := []) (v := none) rfl rfl (Nat.le_of_ble_eq_true rfl) (rcv0 (fr31.at (by decide) (f4.at (by decide) hM))) (Nat.le_of_ble_eq_true rfl) (c_X9_lay (t := (B (q + 1))) (i := i) (x := (C ((B (q + 3)) + i))) (v := v) (fr31.at (by decide) (f4.at (by decide) hM)) ec31_64 (by omega)) (fun H6 r7 => ?_)
          obtain ⟨e_H6, f_H6⟩ := r7
          refine Y_iinc (a := i) (z := 1) hk rfl rfl rfl (by decide) (lv' := [(3, yi (i + 1)), (0, .ref 63), (1, yi q), (2, yi (B (q + 1)))]) rfl ?_
          refine E_run hk 1 (j' := 31) (lv' := [(3, yi (i + 1)), (0, .ref 63), (1, yi q), (2, yi (B (q + 1)))]) (st' := []) (hp' := H6) rfl ?_
          exact Ev_le (xle_s rfl rfl (xle_s rfl rfl (xle_s rfl rfl (xle_s rfl rfl (xle_z _ rfl))))) (ih31 _ (by omega) (i + 1) (up g (7 + 20 * (B (q + 1)) + i) (C ((B (q + 3)) + i))) H6 (by omega) (fun x x0 x1 => by by_cases e9 : x = i; rw [e9, up_self]; rw [up_ne _ _ (by omega)]; exact J1 x x0 (by omega)) (fun x x1 => by rw [up_ne _ _ (by omega)]; exact J2 x (by omega)) e_H6 (yfr.tr fr31 f_H6 (fun _ h => h) (by decide)) rfl)
    exact Ev_le (xle_s rfl rfl (xle_s rfl rfl (xle_s rfl rfl (xle_s rfl rfl (xle_z _ rfl))))) (loop31 _ 0 (up S (0 + (B (q + 1))) (B (q + 4))) H2 (by omega) (fun x x0 x1 => absurd x1 (by omega)) (fun _ _ => rfl) e3 (yfr.refl _ _) rfl)
  ·
    refine E_run hk 1 (j' := 16) (lv' := [(2, yi (B (q + 1))), (0, .ref 63), (1, yi q)]) (st' := [yi 1]) (hp' := hp) rfl ?_
    exact E_ret hk rfl rfl ⟨_, rfl, S, Or.inl ⟨rfl, Or.inl ⟨rfl, by omega, rfl⟩⟩, hS, (yfr.refl _ _)⟩
theorem c_X9_moves {d : Nat} {hp : xH} {v : Nat → Int} (hM : xat hp 63 = some (yMo v)) {S : Int → Int} (hS : xat hp 64 = some (yI 47 S)) {t : Int} (ht : 0 ≤ t ∧ t ≤ 1) (hl : 0 ≤ S (0 + t) ∧ S (0 + t) ≤ 20) (hpi : ∀ q, 0 ≤ q → q < S (0 + t) → 0 ≤ S (7 + 20 * t + q) ∧ S (7 + 20 * t + q) ≤ 60) {b : Int} (hb : -12 ≤ b ∧ b ≤ 12) (hd : 3 ≤ d) : Cv d 208 [.ref 63, yi t, yi b] hp (yE (fun z h => ∃ S2, ((z = 2 ∧ ¬ canS S t b ∧ S2 = S) ∨ (z = 0 ∧ canS S t b ∧ (∀ q, 0 ≤ q → q < S (0 + t) → S2 (7 + 20 * t + q) = S (7 + 20 * t + q) + b) ∧ (∀ q, ¬ (7 + 20 * t ≤ q ∧ q < 7 + 20 * t + S (0 + t)) → S2 q = S q))) ∧ xat h 64 = some (yI 47 S2) ∧ yfr [64] hp h)) := by
  have hk : xtab 208 = (xc_208, 3, 1, []) := rfl
  obtain ⟨d, rfl⟩ : ∃ e, d = e + 1 := ⟨d - 1, by omega⟩
  show Ev (d + 1) 208 0 [(0, .ref 63), (1, yi t), (2, yi b)] [] hp _
  refine E_run hk 3 (j' := 3) (lv' := [(0, .ref 63), (1, yi t), (2, yi b)]) (st' := [yi b, yi t, .ref 63]) (hp' := hp) rfl ?_
  refine Y_callP hk rfl (as := [.ref 63, yi t, yi b]) (rest := []) (v := some (yi (@b2 (canS S t b) (Classical.propDecidable _)))) rfl rfl (Nat.le_of_ble_eq_true rfl) (rcv0 hM) (Nat.le_of_ble_eq_true rfl) (c_X9_canShift (t := t) (b := b) (v := v) hM hS (by omega) (by omega) hpi (by omega) (hd := by omega)) ?_
  refine Y_b_ne hk rfl (fun g1 => ?_) (fun g1 => ?_)
  ·
    have hb9 : canS S t b := by assumption
    refine E_run hk 3 (j' := 10) (lv' := [(0, .ref 63), (1, yi t), (2, yi b)]) (st' := [yi b, yi t, .ref 63]) (hp' := hp) rfl ?_
    refine Y_call hk rfl (as := [.ref 63, yi t, yi b]) (rest := []) (v := none) rfl rfl (Nat.le_of_ble_eq_true rfl) (rcv0 hM) (Nat.le_of_ble_eq_true rfl) (c_X9_shifts (t := t) (b := b) (v := v) hM hS (by omega) (by omega) hpi hb9 (hd := by omega)) (fun H2 r3 => ?_)
    obtain ⟨S_H2, e_H2, a_H2, b_H2, f_H2⟩ := r3
    refine E_run hk 1 (j' := 12) (lv' := [(0, .ref 63), (1, yi t), (2, yi b)]) (st' := [yi 0]) (hp' := H2) rfl ?_
    exact E_ret hk rfl rfl ⟨_, rfl, _, Or.inr ⟨rfl, hb9, a_H2, b_H2⟩, e_H2, f_H2⟩
  ·
    refine E_run hk 1 (j' := 6) (lv' := [(0, .ref 63), (1, yi t), (2, yi b)]) (st' := [yi 2]) (hp' := hp) rfl ?_
    exact E_ret hk rfl rfl ⟨_, rfl, S, Or.inl ⟨rfl, by assumption, rfl⟩, hS, (yfr.refl _ _)⟩
theorem wcd_w {w : Nat} (h : w < 8) : (w = 0 ∧ wcd w = 115) ∨ (w = 1 ∧ wcd w = 114) ∨ (w = 2 ∧ wcd w = 108) ∨ (w = 3 ∧ wcd w = 119) ∨ (w = 4 ∧ wcd w = 102) ∨ (w = 5 ∧ wcd w = 98) ∨ (w = 6 ∧ wcd w = 104) ∨ (w = 7 ∧ wcd w = 106) := by
  have g : ∀ w : Fin 8, (w.val = 0 ∧ wcd w.val = 115) ∨ (w.val = 1 ∧ wcd w.val = 114) ∨ (w.val = 2 ∧ wcd w.val = 108) ∨ (w.val = 3 ∧ wcd w.val = 119) ∨ (w.val = 4 ∧ wcd w.val = 102) ∨ (w.val = 5 ∧ wcd w.val = 98) ∨ (w.val = 6 ∧ wcd w.val = 104) ∨ (w.val = 7 ∧ wcd w.val = 106) := by decide +kernel
  exact g ⟨w, h⟩
theorem c_X9_does {d : Nat} {hp : xH} {v : Nat → Int} (hM : xat hp 63 = some (yMo v)) {S : Int → Int} (hS : xat hp 64 = some (yI 47 S)) {B C : Int → Int} (hB : xat hp 68 = some (yI 60 B)) (hC : xat hp 69 = some (yI 60 C)) {q : Int} (hq : 0 ≤ q ∧ q ≤ 55) {w : Nat} (hw : w < 8) (hb : B q = wcd w) (hl : 0 ≤ S 0 ∧ S 0 ≤ 20 ∧ 0 ≤ S 1 ∧ S 1 ≤ 20) (hpa : ∀ t x, 0 ≤ t → t ≤ 1 → 0 ≤ x → x < S (0 + t) → 0 ≤ S (7 + 20 * t + x) ∧ S (7 + 20 * t + x) ≤ 60) (ht : w < 5 → 0 ≤ B (q + 1) ∧ B (q + 1) ≤ 1) (hx : (w = 1 ∨ w = 2) → 0 ≤ B (q + 2) ∧ B (q + 2) ≤ 12) (hg0 : w = 0 → (0 ≤ B (q + 4) ∧ B (q + 4) ≤ 30) ∧ (0 ≤ B (q + 3) ∧ B (q + 3) + B (q + 4) ≤ 60)) (hd : 4 ≤ d) : Cv d 209 [.ref 63, yi q] hp (yE (fun z h => ∃ S2, doesP w (B (q + 1)) (B (q + 2)) (B (q + 4)) (fun i => C (B (q + 3) + i)) S S2 z ∧ xat h 64 = some (yI 47 S2) ∧ yfr [64] hp h)) := by
  have hk : xtab 209 = (xc_209, 4, 1, []) := rfl
  obtain ⟨d, rfl⟩ : ∃ e, d = e + 1 := ⟨d - 1, by omega⟩
  have ww := wcd_w hw
  show Ev (d + 1) 209 0 [(0, .ref 63), (1, yi q)] [] hp _
  refine E_run hk 1 (j' := 1) (lv' := [(0, .ref 63), (1, yi q)]) (st' := [.ref 63]) (hp' := hp) rfl ?_
  refine E_get (v := .ref 68) hk rfl hM rfl ?_
  refine E_run hk 2 (j' := 4) (lv' := [(0, .ref 63), (1, yi q)]) (st' := [yi 1, yi q, .ref 68]) (hp' := hp) rfl ?_
  refine Y_iadd (a := q) (b := 1) hk rfl ?_
  refine Y_iald (a := (q + 1)) (by omega) (by decide) hk rfl hB ?_
  refine E_run hk 2 (j' := 8) (lv' := [(2, yi (B (q + 1))), (0, .ref 63), (1, yi q)]) (st' := [.ref 63]) (hp' := hp) rfl ?_
  refine E_get (v := .ref 68) hk rfl hM rfl ?_
  refine E_run hk 2 (j' := 11) (lv' := [(2, yi (B (q + 1))), (0, .ref 63), (1, yi q)]) (st' := [yi 2, yi q, .ref 68]) (hp' := hp) rfl ?_
  refine Y_iadd (a := q) (b := 2) hk rfl ?_
  refine Y_iald (a := (q + 2)) (by omega) (by decide) hk rfl hB ?_
  refine E_run hk 2 (j' := 15) (lv' := [(3, yi (B (q + 2))), (2, yi (B (q + 1))), (0, .ref 63), (1, yi q)]) (st' := [.ref 63]) (hp' := hp) rfl ?_
  refine E_get (v := .ref 68) hk rfl hM rfl ?_
  refine E_run hk 1 (j' := 17) (lv' := [(3, yi (B (q + 2))), (2, yi (B (q + 1))), (0, .ref 63), (1, yi q)]) (st' := [yi q, .ref 68]) (hp' := hp) rfl ?_
  refine Y_iald (a := q) (by omega) (by decide) hk rfl hB ?_
  refine Y_sw (a := (B q)) (by omega) hk rfl (fun g1 => ?_) (fun g1 => ?_)
  · refine E_tgt (t := 64) rfl ?_
    have w9 : w = 7 := by omega
    refine E_run hk 1 (j' := 65) (lv' := [(3, yi (B (q + 2))), (2, yi (B (q + 1))), (0, .ref 63), (1, yi q)]) (st' := [.ref 63]) (hp' := hp) rfl ?_
    refine E_get (v := .ref 64) hk rfl hM rfl ?_
    refine E_run hk 2 (j' := 68) (lv' := [(3, yi (B (q + 2))), (2, yi (B (q + 1))), (0, .ref 63), (1, yi q)]) (st' := [yi (B (q + 2)), yi 4, .ref 64]) (hp' := hp) rfl ?_
    refine Y_iast (a := 4) (x := (B (q + 2))) (by omega) (by decide) (by decide) hk rfl hS (fun H2 e3 f4 => ?_)
    refine E_run hk 1 (j' := 70) (lv' := [(3, yi (B (q + 2))), (2, yi (B (q + 1))), (0, .ref 63), (1, yi q)]) (st' := [yi 0]) (hp' := H2) rfl ?_
    exact E_ret hk rfl rfl ⟨_, rfl, _, (Or.inr (Or.inr (Or.inr (Or.inr (Or.inr (Or.inr (Or.inr ⟨w9, rfl, rfl⟩))))))), e3, f4⟩
  · rcases (by omega : (B q) = 98 ∨ (B q) = 99 ∨ (B q) = 100 ∨ (B q) = 101 ∨ (B q) = 102 ∨ (B q) = 103 ∨ (B q) = 104 ∨ (B q) = 105 ∨ (B q) = 106 ∨ (B q) = 107 ∨ (B q) = 108 ∨ (B q) = 109 ∨ (B q) = 110 ∨ (B q) = 111 ∨ (B q) = 112 ∨ (B q) = 113 ∨ (B q) = 114 ∨ (B q) = 115 ∨ (B q) = 116 ∨ (B q) = 117 ∨ (B q) = 118 ∨ (B q) = 119) with g1e | g1e | g1e | g1e | g1e | g1e | g1e | g1e | g1e | g1e | g1e | g1e | g1e | g1e | g1e | g1e | g1e | g1e | g1e | g1e | g1e | g1e
    · refine E_tgt (t := 50) (by rw [g1e]; rfl) ?_
      have w9 : w = 5 := by omega
      refine E_run hk 1 (j' := 51) (lv' := [(3, yi (B (q + 2))), (2, yi (B (q + 1))), (0, .ref 63), (1, yi q)]) (st' := [.ref 63]) (hp' := hp) rfl ?_
      refine E_get (v := .ref 64) hk rfl hM rfl ?_
      refine E_run hk 2 (j' := 54) (lv' := [(3, yi (B (q + 2))), (2, yi (B (q + 1))), (0, .ref 63), (1, yi q)]) (st' := [yi (B (q + 2)), yi 2, .ref 64]) (hp' := hp) rfl ?_
      refine Y_iast (a := 2) (x := (B (q + 2))) (by omega) (by decide) (by decide) hk rfl hS (fun H5 e6 f7 => ?_)
      refine E_run hk 1 (j' := 56) (lv' := [(3, yi (B (q + 2))), (2, yi (B (q + 1))), (0, .ref 63), (1, yi q)]) (st' := [yi 0]) (hp' := H5) rfl ?_
      exact E_ret hk rfl rfl ⟨_, rfl, _, (Or.inr (Or.inr (Or.inr (Or.inr (Or.inr (Or.inl ⟨w9, rfl, rfl⟩)))))), e6, f7⟩
    · refine E_tgt (t := 64) (by rw [g1e]; rfl) ?_
      have w9 : w = 7 := by omega
      refine E_run hk 1 (j' := 65) (lv' := [(3, yi (B (q + 2))), (2, yi (B (q + 1))), (0, .ref 63), (1, yi q)]) (st' := [.ref 63]) (hp' := hp) rfl ?_
      refine E_get (v := .ref 64) hk rfl hM rfl ?_
      refine E_run hk 2 (j' := 68) (lv' := [(3, yi (B (q + 2))), (2, yi (B (q + 1))), (0, .ref 63), (1, yi q)]) (st' := [yi (B (q + 2)), yi 4, .ref 64]) (hp' := hp) rfl ?_
      refine Y_iast (a := 4) (x := (B (q + 2))) (by omega) (by decide) (by decide) hk rfl hS (fun H8 e9 f10 => ?_)
      refine E_run hk 1 (j' := 70) (lv' := [(3, yi (B (q + 2))), (2, yi (B (q + 1))), (0, .ref 63), (1, yi q)]) (st' := [yi 0]) (hp' := H8) rfl ?_
      exact E_ret hk rfl rfl ⟨_, rfl, _, (Or.inr (Or.inr (Or.inr (Or.inr (Or.inr (Or.inr (Or.inr ⟨w9, rfl, rfl⟩))))))), e9, f10⟩
    · refine E_tgt (t := 64) (by rw [g1e]; rfl) ?_
      have w9 : w = 7 := by omega
      refine E_run hk 1 (j' := 65) (lv' := [(3, yi (B (q + 2))), (2, yi (B (q + 1))), (0, .ref 63), (1, yi q)]) (st' := [.ref 63]) (hp' := hp) rfl ?_
      refine E_get (v := .ref 64) hk rfl hM rfl ?_
      refine E_run hk 2 (j' := 68) (lv' := [(3, yi (B (q + 2))), (2, yi (B (q + 1))), (0, .ref 63), (1, yi q)]) (st' := [yi (B (q + 2)), yi 4, .ref 64]) (hp' := hp) rfl ?_
      refine Y_iast (a := 4) (x := (B (q + 2))) (by omega) (by decide) (by decide) hk rfl hS (fun H11 e12 f13 => ?_)
      refine E_run hk 1 (j' := 70) (lv' := [(3, yi (B (q + 2))), (2, yi (B (q + 1))), (0, .ref 63), (1, yi q)]) (st' := [yi 0]) (hp' := H11) rfl ?_
      exact E_ret hk rfl rfl ⟨_, rfl, _, (Or.inr (Or.inr (Or.inr (Or.inr (Or.inr (Or.inr (Or.inr ⟨w9, rfl, rfl⟩))))))), e12, f13⟩
    · refine E_tgt (t := 64) (by rw [g1e]; rfl) ?_
      have w9 : w = 7 := by omega
      refine E_run hk 1 (j' := 65) (lv' := [(3, yi (B (q + 2))), (2, yi (B (q + 1))), (0, .ref 63), (1, yi q)]) (st' := [.ref 63]) (hp' := hp) rfl ?_
      refine E_get (v := .ref 64) hk rfl hM rfl ?_
      refine E_run hk 2 (j' := 68) (lv' := [(3, yi (B (q + 2))), (2, yi (B (q + 1))), (0, .ref 63), (1, yi q)]) (st' := [yi (B (q + 2)), yi 4, .ref 64]) (hp' := hp) rfl ?_
      refine Y_iast (a := 4) (x := (B (q + 2))) (by omega) (by decide) (by decide) hk rfl hS (fun H14 e15 f16 => ?_)
      refine E_run hk 1 (j' := 70) (lv' := [(3, yi (B (q + 2))), (2, yi (B (q + 1))), (0, .ref 63), (1, yi q)]) (st' := [yi 0]) (hp' := H14) rfl ?_
      exact E_ret hk rfl rfl ⟨_, rfl, _, (Or.inr (Or.inr (Or.inr (Or.inr (Or.inr (Or.inr (Or.inr ⟨w9, rfl, rfl⟩))))))), e15, f16⟩
    · refine E_tgt (t := 45) (by rw [g1e]; rfl) ?_
      have w9 : w = 4 := by omega
      have ht9 := ht (by omega)
      have hl9 : 0 ≤ S (0 + B (q + 1)) ∧ S (0 + B (q + 1)) ≤ 20 := by rcases (by omega : B (q + 1) = 0 ∨ B (q + 1) = 1) with e | e <;> rw [e] <;> first | exact ⟨hl.1, hl.2.1⟩ | exact hl.2.2
      have hpi9 := fun x x0 x1 => hpa (B (q + 1)) x ht9.1 ht9.2 x0 x1
      refine E_run hk 2 (j' := 47) (lv' := [(3, yi (B (q + 2))), (2, yi (B (q + 1))), (0, .ref 63), (1, yi q)]) (st' := [yi (B (q + 1)), .ref 63]) (hp' := hp) rfl ?_
      refine Y_call hk rfl (as := [.ref 63, yi (B (q + 1))]) (rest := []) (v := none) rfl rfl (Nat.le_of_ble_eq_true rfl) (rcv0 hM) (Nat.le_of_ble_eq_true rfl) (c_X9_flips (t := (B (q + 1))) (v := v) hM hS (by omega) (by omega) (hd := by omega)) (fun H17 r18 => ?_)
      obtain ⟨S_H17, e_H17, a_H17, b_H17, f_H17⟩ := r18
      refine E_run hk 1 (j' := 49) (lv' := [(3, yi (B (q + 2))), (2, yi (B (q + 1))), (0, .ref 63), (1, yi q)]) (st' := [yi 0]) (hp' := H17) rfl ?_
      exact E_ret hk rfl rfl ⟨_, rfl, _, (Or.inr (Or.inr (Or.inr (Or.inr (Or.inl ⟨w9, rfl, a_H17, b_H17⟩))))), e_H17, f_H17⟩
    · refine E_tgt (t := 64) (by rw [g1e]; rfl) ?_
      have w9 : w = 7 := by omega
      refine E_run hk 1 (j' := 65) (lv' := [(3, yi (B (q + 2))), (2, yi (B (q + 1))), (0, .ref 63), (1, yi q)]) (st' := [.ref 63]) (hp' := hp) rfl ?_
      refine E_get (v := .ref 64) hk rfl hM rfl ?_
      refine E_run hk 2 (j' := 68) (lv' := [(3, yi (B (q + 2))), (2, yi (B (q + 1))), (0, .ref 63), (1, yi q)]) (st' := [yi (B (q + 2)), yi 4, .ref 64]) (hp' := hp) rfl ?_
      refine Y_iast (a := 4) (x := (B (q + 2))) (by omega) (by decide) (by decide) hk rfl hS (fun H19 e20 f21 => ?_)
      refine E_run hk 1 (j' := 70) (lv' := [(3, yi (B (q + 2))), (2, yi (B (q + 1))), (0, .ref 63), (1, yi q)]) (st' := [yi 0]) (hp' := H19) rfl ?_
      exact E_ret hk rfl rfl ⟨_, rfl, _, (Or.inr (Or.inr (Or.inr (Or.inr (Or.inr (Or.inr (Or.inr ⟨w9, rfl, rfl⟩))))))), e20, f21⟩
    · refine E_tgt (t := 57) (by rw [g1e]; rfl) ?_
      have w9 : w = 6 := by omega
      refine E_run hk 1 (j' := 58) (lv' := [(3, yi (B (q + 2))), (2, yi (B (q + 1))), (0, .ref 63), (1, yi q)]) (st' := [.ref 63]) (hp' := hp) rfl ?_
      refine E_get (v := .ref 64) hk rfl hM rfl ?_
      refine E_run hk 2 (j' := 61) (lv' := [(3, yi (B (q + 2))), (2, yi (B (q + 1))), (0, .ref 63), (1, yi q)]) (st' := [yi (B (q + 2)), yi 3, .ref 64]) (hp' := hp) rfl ?_
      refine Y_iast (a := 3) (x := (B (q + 2))) (by omega) (by decide) (by decide) hk rfl hS (fun H22 e23 f24 => ?_)
      refine E_run hk 1 (j' := 63) (lv' := [(3, yi (B (q + 2))), (2, yi (B (q + 1))), (0, .ref 63), (1, yi q)]) (st' := [yi 0]) (hp' := H22) rfl ?_
      exact E_ret hk rfl rfl ⟨_, rfl, _, (Or.inr (Or.inr (Or.inr (Or.inr (Or.inr (Or.inr (Or.inl ⟨w9, rfl, rfl⟩))))))), e23, f24⟩
    · refine E_tgt (t := 64) (by rw [g1e]; rfl) ?_
      have w9 : w = 7 := by omega
      refine E_run hk 1 (j' := 65) (lv' := [(3, yi (B (q + 2))), (2, yi (B (q + 1))), (0, .ref 63), (1, yi q)]) (st' := [.ref 63]) (hp' := hp) rfl ?_
      refine E_get (v := .ref 64) hk rfl hM rfl ?_
      refine E_run hk 2 (j' := 68) (lv' := [(3, yi (B (q + 2))), (2, yi (B (q + 1))), (0, .ref 63), (1, yi q)]) (st' := [yi (B (q + 2)), yi 4, .ref 64]) (hp' := hp) rfl ?_
      refine Y_iast (a := 4) (x := (B (q + 2))) (by omega) (by decide) (by decide) hk rfl hS (fun H25 e26 f27 => ?_)
      refine E_run hk 1 (j' := 70) (lv' := [(3, yi (B (q + 2))), (2, yi (B (q + 1))), (0, .ref 63), (1, yi q)]) (st' := [yi 0]) (hp' := H25) rfl ?_
      exact E_ret hk rfl rfl ⟨_, rfl, _, (Or.inr (Or.inr (Or.inr (Or.inr (Or.inr (Or.inr (Or.inr ⟨w9, rfl, rfl⟩))))))), e26, f27⟩
    · refine E_tgt (t := 64) (by rw [g1e]; rfl) ?_
      have w9 : w = 7 := by omega
      refine E_run hk 1 (j' := 65) (lv' := [(3, yi (B (q + 2))), (2, yi (B (q + 1))), (0, .ref 63), (1, yi q)]) (st' := [.ref 63]) (hp' := hp) rfl ?_
      refine E_get (v := .ref 64) hk rfl hM rfl ?_
      refine E_run hk 2 (j' := 68) (lv' := [(3, yi (B (q + 2))), (2, yi (B (q + 1))), (0, .ref 63), (1, yi q)]) (st' := [yi (B (q + 2)), yi 4, .ref 64]) (hp' := hp) rfl ?_
      refine Y_iast (a := 4) (x := (B (q + 2))) (by omega) (by decide) (by decide) hk rfl hS (fun H28 e29 f30 => ?_)
      refine E_run hk 1 (j' := 70) (lv' := [(3, yi (B (q + 2))), (2, yi (B (q + 1))), (0, .ref 63), (1, yi q)]) (st' := [yi 0]) (hp' := H28) rfl ?_
      exact E_ret hk rfl rfl ⟨_, rfl, _, (Or.inr (Or.inr (Or.inr (Or.inr (Or.inr (Or.inr (Or.inr ⟨w9, rfl, rfl⟩))))))), e29, f30⟩
    · refine E_tgt (t := 64) (by rw [g1e]; rfl) ?_
      have w9 : w = 7 := by omega
      refine E_run hk 1 (j' := 65) (lv' := [(3, yi (B (q + 2))), (2, yi (B (q + 1))), (0, .ref 63), (1, yi q)]) (st' := [.ref 63]) (hp' := hp) rfl ?_
      refine E_get (v := .ref 64) hk rfl hM rfl ?_
      refine E_run hk 2 (j' := 68) (lv' := [(3, yi (B (q + 2))), (2, yi (B (q + 1))), (0, .ref 63), (1, yi q)]) (st' := [yi (B (q + 2)), yi 4, .ref 64]) (hp' := hp) rfl ?_
      refine Y_iast (a := 4) (x := (B (q + 2))) (by omega) (by decide) (by decide) hk rfl hS (fun H31 e32 f33 => ?_)
      refine E_run hk 1 (j' := 70) (lv' := [(3, yi (B (q + 2))), (2, yi (B (q + 1))), (0, .ref 63), (1, yi q)]) (st' := [yi 0]) (hp' := H31) rfl ?_
      exact E_ret hk rfl rfl ⟨_, rfl, _, (Or.inr (Or.inr (Or.inr (Or.inr (Or.inr (Or.inr (Or.inr ⟨w9, rfl, rfl⟩))))))), e32, f33⟩
    · refine E_tgt (t := 28) (by rw [g1e]; rfl) ?_
      have w9 : w = 2 := by omega
      have ht9 := ht (by omega)
      have hl9 : 0 ≤ S (0 + B (q + 1)) ∧ S (0 + B (q + 1)) ≤ 20 := by rcases (by omega : B (q + 1) = 0 ∨ B (q + 1) = 1) with e | e <;> rw [e] <;> first | exact ⟨hl.1, hl.2.1⟩ | exact hl.2.2
      have hpi9 := fun x x0 x1 => hpa (B (q + 1)) x ht9.1 ht9.2 x0 x1
      have hx9 := hx (by omega)
      refine E_run hk 3 (j' := 31) (lv' := [(3, yi (B (q + 2))), (2, yi (B (q + 1))), (0, .ref 63), (1, yi q)]) (st' := [yi (B (q + 2)), yi (B (q + 1)), .ref 63]) (hp' := hp) rfl ?_
      refine Y_ineg (a := (B (q + 2))) hk rfl ?_
      refine Y_callE hk rfl (as := [.ref 63, yi (B (q + 1)), yi (-(B (q + 2)))]) (rest := []) rfl rfl (Nat.le_of_ble_eq_true rfl) (rcv0 hM) (Nat.le_of_ble_eq_true rfl) (c_X9_moves (v := v) hM hS (t := (B (q + 1))) ht9 hl9 hpi9 (b := (-(B (q + 2)))) (by omega) (hd := by omega)) (fun z34 H35 r36 => ?_)
      obtain ⟨S_H35, m_H35, e_H35, f_H35⟩ := r36
      exact E_ret hk rfl rfl ⟨_, rfl, S_H35, (Or.inr (Or.inr (Or.inl ⟨w9, m_H35⟩))), e_H35, f_H35⟩
    · refine E_tgt (t := 64) (by rw [g1e]; rfl) ?_
      have w9 : w = 7 := by omega
      refine E_run hk 1 (j' := 65) (lv' := [(3, yi (B (q + 2))), (2, yi (B (q + 1))), (0, .ref 63), (1, yi q)]) (st' := [.ref 63]) (hp' := hp) rfl ?_
      refine E_get (v := .ref 64) hk rfl hM rfl ?_
      refine E_run hk 2 (j' := 68) (lv' := [(3, yi (B (q + 2))), (2, yi (B (q + 1))), (0, .ref 63), (1, yi q)]) (st' := [yi (B (q + 2)), yi 4, .ref 64]) (hp' := hp) rfl ?_
      refine Y_iast (a := 4) (x := (B (q + 2))) (by omega) (by decide) (by decide) hk rfl hS (fun H37 e38 f39 => ?_)
      refine E_run hk 1 (j' := 70) (lv' := [(3, yi (B (q + 2))), (2, yi (B (q + 1))), (0, .ref 63), (1, yi q)]) (st' := [yi 0]) (hp' := H37) rfl ?_
      exact E_ret hk rfl rfl ⟨_, rfl, _, (Or.inr (Or.inr (Or.inr (Or.inr (Or.inr (Or.inr (Or.inr ⟨w9, rfl, rfl⟩))))))), e38, f39⟩
    · refine E_tgt (t := 64) (by rw [g1e]; rfl) ?_
      have w9 : w = 7 := by omega
      refine E_run hk 1 (j' := 65) (lv' := [(3, yi (B (q + 2))), (2, yi (B (q + 1))), (0, .ref 63), (1, yi q)]) (st' := [.ref 63]) (hp' := hp) rfl ?_
      refine E_get (v := .ref 64) hk rfl hM rfl ?_
      refine E_run hk 2 (j' := 68) (lv' := [(3, yi (B (q + 2))), (2, yi (B (q + 1))), (0, .ref 63), (1, yi q)]) (st' := [yi (B (q + 2)), yi 4, .ref 64]) (hp' := hp) rfl ?_
      refine Y_iast (a := 4) (x := (B (q + 2))) (by omega) (by decide) (by decide) hk rfl hS (fun H40 e41 f42 => ?_)
      refine E_run hk 1 (j' := 70) (lv' := [(3, yi (B (q + 2))), (2, yi (B (q + 1))), (0, .ref 63), (1, yi q)]) (st' := [yi 0]) (hp' := H40) rfl ?_
      exact E_ret hk rfl rfl ⟨_, rfl, _, (Or.inr (Or.inr (Or.inr (Or.inr (Or.inr (Or.inr (Or.inr ⟨w9, rfl, rfl⟩))))))), e41, f42⟩
    · refine E_tgt (t := 64) (by rw [g1e]; rfl) ?_
      have w9 : w = 7 := by omega
      refine E_run hk 1 (j' := 65) (lv' := [(3, yi (B (q + 2))), (2, yi (B (q + 1))), (0, .ref 63), (1, yi q)]) (st' := [.ref 63]) (hp' := hp) rfl ?_
      refine E_get (v := .ref 64) hk rfl hM rfl ?_
      refine E_run hk 2 (j' := 68) (lv' := [(3, yi (B (q + 2))), (2, yi (B (q + 1))), (0, .ref 63), (1, yi q)]) (st' := [yi (B (q + 2)), yi 4, .ref 64]) (hp' := hp) rfl ?_
      refine Y_iast (a := 4) (x := (B (q + 2))) (by omega) (by decide) (by decide) hk rfl hS (fun H43 e44 f45 => ?_)
      refine E_run hk 1 (j' := 70) (lv' := [(3, yi (B (q + 2))), (2, yi (B (q + 1))), (0, .ref 63), (1, yi q)]) (st' := [yi 0]) (hp' := H43) rfl ?_
      exact E_ret hk rfl rfl ⟨_, rfl, _, (Or.inr (Or.inr (Or.inr (Or.inr (Or.inr (Or.inr (Or.inr ⟨w9, rfl, rfl⟩))))))), e44, f45⟩
    · refine E_tgt (t := 64) (by rw [g1e]; rfl) ?_
      have w9 : w = 7 := by omega
      refine E_run hk 1 (j' := 65) (lv' := [(3, yi (B (q + 2))), (2, yi (B (q + 1))), (0, .ref 63), (1, yi q)]) (st' := [.ref 63]) (hp' := hp) rfl ?_
      refine E_get (v := .ref 64) hk rfl hM rfl ?_
      refine E_run hk 2 (j' := 68) (lv' := [(3, yi (B (q + 2))), (2, yi (B (q + 1))), (0, .ref 63), (1, yi q)]) (st' := [yi (B (q + 2)), yi 4, .ref 64]) (hp' := hp) rfl ?_
      refine Y_iast (a := 4) (x := (B (q + 2))) (by omega) (by decide) (by decide) hk rfl hS (fun H46 e47 f48 => ?_)
      refine E_run hk 1 (j' := 70) (lv' := [(3, yi (B (q + 2))), (2, yi (B (q + 1))), (0, .ref 63), (1, yi q)]) (st' := [yi 0]) (hp' := H46) rfl ?_
      exact E_ret hk rfl rfl ⟨_, rfl, _, (Or.inr (Or.inr (Or.inr (Or.inr (Or.inr (Or.inr (Or.inr ⟨w9, rfl, rfl⟩))))))), e47, f48⟩
    · refine E_tgt (t := 64) (by rw [g1e]; rfl) ?_
      have w9 : w = 7 := by omega
      refine E_run hk 1 (j' := 65) (lv' := [(3, yi (B (q + 2))), (2, yi (B (q + 1))), (0, .ref 63), (1, yi q)]) (st' := [.ref 63]) (hp' := hp) rfl ?_
      refine E_get (v := .ref 64) hk rfl hM rfl ?_
      refine E_run hk 2 (j' := 68) (lv' := [(3, yi (B (q + 2))), (2, yi (B (q + 1))), (0, .ref 63), (1, yi q)]) (st' := [yi (B (q + 2)), yi 4, .ref 64]) (hp' := hp) rfl ?_
      refine Y_iast (a := 4) (x := (B (q + 2))) (by omega) (by decide) (by decide) hk rfl hS (fun H49 e50 f51 => ?_)
      refine E_run hk 1 (j' := 70) (lv' := [(3, yi (B (q + 2))), (2, yi (B (q + 1))), (0, .ref 63), (1, yi q)]) (st' := [yi 0]) (hp' := H49) rfl ?_
      exact E_ret hk rfl rfl ⟨_, rfl, _, (Or.inr (Or.inr (Or.inr (Or.inr (Or.inr (Or.inr (Or.inr ⟨w9, rfl, rfl⟩))))))), e50, f51⟩
    · refine E_tgt (t := 23) (by rw [g1e]; rfl) ?_
      have w9 : w = 1 := by omega
      have ht9 := ht (by omega)
      have hl9 : 0 ≤ S (0 + B (q + 1)) ∧ S (0 + B (q + 1)) ≤ 20 := by rcases (by omega : B (q + 1) = 0 ∨ B (q + 1) = 1) with e | e <;> rw [e] <;> first | exact ⟨hl.1, hl.2.1⟩ | exact hl.2.2
      have hpi9 := fun x x0 x1 => hpa (B (q + 1)) x ht9.1 ht9.2 x0 x1
      have hx9 := hx (by omega)
      refine E_run hk 3 (j' := 26) (lv' := [(3, yi (B (q + 2))), (2, yi (B (q + 1))), (0, .ref 63), (1, yi q)]) (st' := [yi (B (q + 2)), yi (B (q + 1)), .ref 63]) (hp' := hp) rfl ?_
      refine Y_callE hk rfl (as := [.ref 63, yi (B (q + 1)), yi (B (q + 2))]) (rest := []) rfl rfl (Nat.le_of_ble_eq_true rfl) (rcv0 hM) (Nat.le_of_ble_eq_true rfl) (c_X9_moves (v := v) hM hS (t := (B (q + 1))) ht9 hl9 hpi9 (b := (B (q + 2))) (by omega) (hd := by omega)) (fun z52 H53 r54 => ?_)
      obtain ⟨S_H53, m_H53, e_H53, f_H53⟩ := r54
      exact E_ret hk rfl rfl ⟨_, rfl, S_H53, (Or.inr (Or.inl ⟨w9, m_H53⟩)), e_H53, f_H53⟩
    · refine E_tgt (t := 19) (by rw [g1e]; rfl) ?_
      have w9 : w = 0 := by omega
      have ht9 := ht (by omega)
      have hl9 : 0 ≤ S (0 + B (q + 1)) ∧ S (0 + B (q + 1)) ≤ 20 := by rcases (by omega : B (q + 1) = 0 ∨ B (q + 1) = 1) with e | e <;> rw [e] <;> first | exact ⟨hl.1, hl.2.1⟩ | exact hl.2.2
      have hpi9 := fun x x0 x1 => hpa (B (q + 1)) x ht9.1 ht9.2 x0 x1
      refine E_run hk 2 (j' := 21) (lv' := [(3, yi (B (q + 2))), (2, yi (B (q + 1))), (0, .ref 63), (1, yi q)]) (st' := [yi q, .ref 63]) (hp' := hp) rfl ?_
      refine Y_callE hk rfl (as := [.ref 63, yi q]) (rest := []) rfl rfl (Nat.le_of_ble_eq_true rfl) (rcv0 hM) (Nat.le_of_ble_eq_true rfl) (c_X9_sings (v := v) hM hS hB hC (by omega) ht9 (hg0 (by omega)).1 (hg0 (by omega)).2 (hd := by omega)) (fun z55 H56 r57 => ?_)
      obtain ⟨S_H56, m_H56, e_H56, f_H56⟩ := r57
      exact E_ret hk rfl rfl ⟨_, rfl, S_H56, by rw [w9]; exact m_H56, e_H56, f_H56⟩
    · refine E_tgt (t := 64) (by rw [g1e]; rfl) ?_
      have w9 : w = 7 := by omega
      refine E_run hk 1 (j' := 65) (lv' := [(3, yi (B (q + 2))), (2, yi (B (q + 1))), (0, .ref 63), (1, yi q)]) (st' := [.ref 63]) (hp' := hp) rfl ?_
      refine E_get (v := .ref 64) hk rfl hM rfl ?_
      refine E_run hk 2 (j' := 68) (lv' := [(3, yi (B (q + 2))), (2, yi (B (q + 1))), (0, .ref 63), (1, yi q)]) (st' := [yi (B (q + 2)), yi 4, .ref 64]) (hp' := hp) rfl ?_
      refine Y_iast (a := 4) (x := (B (q + 2))) (by omega) (by decide) (by decide) hk rfl hS (fun H58 e59 f60 => ?_)
      refine E_run hk 1 (j' := 70) (lv' := [(3, yi (B (q + 2))), (2, yi (B (q + 1))), (0, .ref 63), (1, yi q)]) (st' := [yi 0]) (hp' := H58) rfl ?_
      exact E_ret hk rfl rfl ⟨_, rfl, _, (Or.inr (Or.inr (Or.inr (Or.inr (Or.inr (Or.inr (Or.inr ⟨w9, rfl, rfl⟩))))))), e59, f60⟩
    · refine E_tgt (t := 64) (by rw [g1e]; rfl) ?_
      have w9 : w = 7 := by omega
      refine E_run hk 1 (j' := 65) (lv' := [(3, yi (B (q + 2))), (2, yi (B (q + 1))), (0, .ref 63), (1, yi q)]) (st' := [.ref 63]) (hp' := hp) rfl ?_
      refine E_get (v := .ref 64) hk rfl hM rfl ?_
      refine E_run hk 2 (j' := 68) (lv' := [(3, yi (B (q + 2))), (2, yi (B (q + 1))), (0, .ref 63), (1, yi q)]) (st' := [yi (B (q + 2)), yi 4, .ref 64]) (hp' := hp) rfl ?_
      refine Y_iast (a := 4) (x := (B (q + 2))) (by omega) (by decide) (by decide) hk rfl hS (fun H61 e62 f63 => ?_)
      refine E_run hk 1 (j' := 70) (lv' := [(3, yi (B (q + 2))), (2, yi (B (q + 1))), (0, .ref 63), (1, yi q)]) (st' := [yi 0]) (hp' := H61) rfl ?_
      exact E_ret hk rfl rfl ⟨_, rfl, _, (Or.inr (Or.inr (Or.inr (Or.inr (Or.inr (Or.inr (Or.inr ⟨w9, rfl, rfl⟩))))))), e62, f63⟩
    · refine E_tgt (t := 64) (by rw [g1e]; rfl) ?_
      have w9 : w = 7 := by omega
      refine E_run hk 1 (j' := 65) (lv' := [(3, yi (B (q + 2))), (2, yi (B (q + 1))), (0, .ref 63), (1, yi q)]) (st' := [.ref 63]) (hp' := hp) rfl ?_
      refine E_get (v := .ref 64) hk rfl hM rfl ?_
      refine E_run hk 2 (j' := 68) (lv' := [(3, yi (B (q + 2))), (2, yi (B (q + 1))), (0, .ref 63), (1, yi q)]) (st' := [yi (B (q + 2)), yi 4, .ref 64]) (hp' := hp) rfl ?_
      refine Y_iast (a := 4) (x := (B (q + 2))) (by omega) (by decide) (by decide) hk rfl hS (fun H64 e65 f66 => ?_)
      refine E_run hk 1 (j' := 70) (lv' := [(3, yi (B (q + 2))), (2, yi (B (q + 1))), (0, .ref 63), (1, yi q)]) (st' := [yi 0]) (hp' := H64) rfl ?_
      exact E_ret hk rfl rfl ⟨_, rfl, _, (Or.inr (Or.inr (Or.inr (Or.inr (Or.inr (Or.inr (Or.inr ⟨w9, rfl, rfl⟩))))))), e65, f66⟩
    · refine E_tgt (t := 34) (by rw [g1e]; rfl) ?_
      have w9 : w = 3 := by omega
      have ht9 := ht (by omega)
      have hl9 : 0 ≤ S (0 + B (q + 1)) ∧ S (0 + B (q + 1)) ≤ 20 := by rcases (by omega : B (q + 1) = 0 ∨ B (q + 1) = 1) with e | e <;> rw [e] <;> first | exact ⟨hl.1, hl.2.1⟩ | exact hl.2.2
      have hpi9 := fun x x0 x1 => hpa (B (q + 1)) x ht9.1 ht9.2 x0 x1
      refine E_run hk 2 (j' := 36) (lv' := [(3, yi (B (q + 2))), (2, yi (B (q + 1))), (0, .ref 63), (1, yi q)]) (st' := [yi (B (q + 1)), .ref 63]) (hp' := hp) rfl ?_
      refine Y_callP hk rfl (as := [.ref 63, yi (B (q + 1))]) (rest := []) (v := some (yi (b2 (2 * S (0 + (B (q + 1))) ≤ 20)))) rfl rfl (Nat.le_of_ble_eq_true rfl) (rcv0 hM) (Nat.le_of_ble_eq_true rfl) (c_X9_canSlow (t := (B (q + 1))) (v := v) hM hS (by omega) (by omega) (hd := by omega)) ?_
      refine Y_b_ne hk rfl (fun g67 => ?_) (fun g67 => ?_)
      ·
        refine E_run hk 2 (j' := 42) (lv' := [(3, yi (B (q + 2))), (2, yi (B (q + 1))), (0, .ref 63), (1, yi q)]) (st' := [yi (B (q + 1)), .ref 63]) (hp' := hp) rfl ?_
        refine Y_call hk rfl (as := [.ref 63, yi (B (q + 1))]) (rest := []) (v := none) rfl rfl (Nat.le_of_ble_eq_true rfl) (rcv0 hM) (Nat.le_of_ble_eq_true rfl) (c_X9_slows (t := (B (q + 1))) (v := v) hM hS (by omega) (by omega) (by omega) (hd := by omega)) (fun H68 r69 => ?_)
        obtain ⟨S_H68, e_H68, a_H68, b_H68, c_H68, f_H68⟩ := r69
        refine E_run hk 1 (j' := 44) (lv' := [(3, yi (B (q + 2))), (2, yi (B (q + 1))), (0, .ref 63), (1, yi q)]) (st' := [yi 0]) (hp' := H68) rfl ?_
        exact E_ret hk rfl rfl ⟨_, rfl, _, (Or.inr (Or.inr (Or.inr (Or.inl ⟨w9, Or.inr ⟨rfl, by omega, a_H68, b_H68, c_H68⟩⟩)))), e_H68, f_H68⟩
      ·
        refine E_run hk 1 (j' := 39) (lv' := [(3, yi (B (q + 2))), (2, yi (B (q + 1))), (0, .ref 63), (1, yi q)]) (st' := [yi 1]) (hp' := hp) rfl ?_
        exact E_ret hk rfl rfl ⟨_, rfl, S, (Or.inr (Or.inr (Or.inr (Or.inl ⟨w9, Or.inl ⟨rfl, by omega, rfl⟩⟩)))), hS, (yfr.refl _ _)⟩
