/-- the least cost from the first pair to (i, j): D unlike, w the price of a hold, b the bound; 100000000: there is none -/
def fw (D : Int → Int → Int) (w b i j : Int) : Int :=
  if h : i < 0 ∨ j < 0 then 100000000 else
    if -b ≤ i - j ∧ i - j ≤ b ∧ (if i = 0 ∧ j = 0 then 0 else least (fw D w b (i - 1) (j - 1)) (least (fw D w b (i - 1) j) (fw D w b i (j - 1)) + w)) < 100000000 then
      (if i = 0 ∧ j = 0 then 0 else least (fw D w b (i - 1) (j - 1)) (least (fw D w b (i - 1) j) (fw D w b i (j - 1)) + w)) + D i j
    else 100000000
termination_by ((i + 1).toNat + (j + 1).toNat)
decreasing_by all_goals omega
def fwf (D : Int → Int → Int) (w b i j : Int) : Int := if i = 0 ∧ j = 0 then 0 else least (fw D w b (i - 1) (j - 1)) (least (fw D w b (i - 1) j) (fw D w b i (j - 1)) + w)
theorem fw_out {D : Int → Int → Int} {w b i j : Int} (h : i < 0 ∨ j < 0) : fw D w b i j = 100000000 := by
  rw [fw, dif_pos h]
theorem fw_in {D : Int → Int → Int} {w b i j : Int} (h : 0 ≤ i ∧ 0 ≤ j) : fw D w b i j = if -b ≤ i - j ∧ i - j ≤ b ∧ fwf D w b i j < 100000000 then fwf D w b i j + D i j else 100000000 := by
  rw [fw, dif_neg (by omega)]
  rfl
theorem least_rng (a b : Int) : (least a b = a ∧ a < b) ∨ (least a b = b ∧ b ≤ a) := by
  unfold least
  split
  · exact Or.inl ⟨rfl, by assumption⟩
  · exact Or.inr ⟨rfl, by omega⟩
theorem fw_rng {D : Int → Int → Int} {w b m n : Int} (hw : 0 ≤ w ∧ w ≤ 50) (hD : ∀ i j, 0 ≤ i → i < m → 0 ≤ j → j < n → 0 ≤ D i j ∧ D i j ≤ 5184) : ∀ (N : Nat) (i j : Int), i < m → j < n → (i + 1).toNat + (j + 1).toNat = N → 0 ≤ fw D w b i j ∧ (fw D w b i j = 100000000 ∨ (0 ≤ i ∧ 0 ≤ j ∧ fw D w b i j ≤ 5234 * (i + j + 1))) := by
  intro N
  induction N using Nat.strongRecOn with
  | ind N ih =>
    intro i j hi hj hN
    by_cases h : i < 0 ∨ j < 0
    · rw [fw_out h]
      omega
    · rw [fw_in (by omega)]
      have hd := hD i j (by omega) hi (by omega) hj
      have a1 := ih _ (by omega) (i - 1) (j - 1) (by omega) (by omega) rfl
      have a2 := ih _ (by omega) (i - 1) j (by omega) (by omega) rfl
      have a3 := ih _ (by omega) i (j - 1) (by omega) (by omega) rfl
      unfold fwf
      have b1 := least_rng (fw D w b (i - 1) j) (fw D w b i (j - 1))
      have b2 := least_rng (fw D w b (i - 1) (j - 1)) (least (fw D w b (i - 1) j) (fw D w b i (j - 1)) + w)
      by_cases e0 : i = 0 ∧ j = 0
      · rw [if_pos e0]
        split <;> omega
      · rw [if_neg e0]
        split <;> omega
theorem unl_rng {S : Int → Int} {b i j : Int} (hz : 0 ≤ S 0 ∧ S 0 ≤ 20 ∧ 0 ≤ S 1 ∧ S 1 ≤ 20 ∧ 0 ≤ S 2 ∧ S 2 ≤ 20 ∧ 0 ≤ S 3 ∧ S 3 ≤ 50 ∧ 0 ≤ S 4 ∧ S 4 ≤ 3) (h0 : ∀ q, 0 ≤ q → q < S 0 → 0 ≤ S (7 + q) ∧ S (7 + q) ≤ 60) (h1 : ∀ q, 0 ≤ q → q < S 1 → 0 ≤ S (27 + q) ∧ S (27 + q) ≤ 60) (hb : -12 ≤ b ∧ b ≤ 12) (hi : 0 ≤ i) (hi2 : i < S 0) (hj : 0 ≤ j) (hj2 : j < S 1) : 0 ≤ unl S b i j ∧ unl S b i j ≤ 5184 := by
  have w1 := h0 i hi hi2
  have w2 := h1 j hj hj2
  exact jud_rng (by omega)
theorem tab_fw {f : Int → Int} {D : Int → Int → Int} {w b i j : Int} (h : 0 ≤ i → 0 ≤ j → f (20 * i + j) = fw D w b i j) : tabAt f i j = fw D w b i j := by
  unfold tabAt
  split
  · exact h (by omega) (by omega)
  · rw [fw_out (by omega)]
theorem c_X9_tellsAhead {d : Nat} {hp : xH} {v : Nat → Int} (hM : xat hp 63 = some (yMo v)) {S : Int → Int} (hS : xat hp 64 = some (yI 47 S)) (hz : 0 ≤ S 0 ∧ S 0 ≤ 20 ∧ 0 ≤ S 1 ∧ S 1 ≤ 20 ∧ 0 ≤ S 2 ∧ S 2 ≤ 20 ∧ 0 ≤ S 3 ∧ S 3 ≤ 50 ∧ 0 ≤ S 4 ∧ S 4 ≤ 3) (h0 : ∀ q, 0 ≤ q → q < S 0 → 0 ≤ S (7 + q) ∧ S (7 + q) ≤ 60) (h1 : ∀ q, 0 ≤ q → q < S 1 → 0 ≤ S (27 + q) ∧ S (27 + q) ≤ 60) {f : Int → Int} (hA : xat hp 70 = some (yI 400 f)) {b u : Int} (hb : -12 ≤ b ∧ b ≤ 12) (hu : 0 ≤ u ∧ u ≤ 20) (hd : 2 ≤ d) : Cv d 161 [.ref 63, yi b, yi u] hp (yR (some (yi (if S 0 = 0 ∨ S 1 = 0 then 100000000 else fw (unl S b) (S 3) u (S 0 - 1) (S 1 - 1)))) (fun h => ∃ g, xat h 70 = some (yI 400 g) ∧ (∀ x y, 0 ≤ x → x < S 0 → 0 ≤ y → y < S 1 → g (20 * x + y) = fw (unl S b) (S 3) u x y) ∧ yfr [70] hp h)) := by
  have hk : xtab 161 = (xc_161, 8, 1, []) := rfl
  obtain ⟨d, rfl⟩ : ∃ e, d = e + 1 := ⟨d - 1, by omega⟩
  have hD : ∀ i j, 0 ≤ i → i < S 0 → 0 ≤ j → j < S 1 → 0 ≤ unl S b i j ∧ unl S b i j ≤ 5184 := fun i j a1 a2 a3 a4 => unl_rng hz h0 h1 hb a1 a2 a3 a4
  show Ev (d + 1) 161 0 [(0, .ref 63), (1, yi b), (2, yi u)] [] hp _
  refine E_run hk 2 (j' := 2) (lv' := [(3, yi 0), (0, .ref 63), (1, yi b), (2, yi u)]) (st' := []) (hp' := hp) rfl ?_
  have loop2 : ∀ (N : Nat) (i : Int) (g : Int → Int) (hl2 : xH), (0 ≤ i ∧ i ≤ S 0) → (∀ x y, 0 ≤ x → x < i → 0 ≤ y → y < S 1 → g (20 * x + y) = fw (unl S b) (S 3) u x y) → (xat hl2 70 = some (yI 400 g)) → (yfr [70] hp hl2) → (S 0 - i).toNat = N → Ev (d + 1) 161 2 [(0, .ref 63), (1, yi b), (2, yi u), (3, yi i)] [] hl2 (yR (some (yi (if S 0 = 0 ∨ S 1 = 0 then 100000000 else fw (unl S b) (S 3) u (S 0 - 1) (S 1 - 1)))) (fun h => ∃ g, xat h 70 = some (yI 400 g) ∧ (∀ x y, 0 ≤ x → x < S 0 → 0 ≤ y → y < S 1 → g (20 * x + y) = fw (unl S b) (S 3) u x y) ∧ yfr [70] hp h)) := by
    intro N
    induction N using Nat.strongRecOn with
    | ind N ih2 =>
      intro i g hl2 J1 J2 ec2_70 fr2 hm2
      refine E_run hk 1 (j' := 3) (lv' := [(0, .ref 63), (1, yi b), (2, yi u), (3, yi i)]) (st' := [yi i]) (hp' := hl2) rfl ?_
      refine E_run hk 2 (j' := 5) (lv' := [(0, .ref 63), (1, yi b), (2, yi u), (3, yi i)]) (st' := [yi 0, .ref 63, yi i]) (hp' := hl2) rfl ?_
      refine Y_callP hk rfl (as := [.ref 63, yi 0]) (rest := [yi i]) (v := some (yi (S 0))) rfl rfl (Nat.le_of_ble_eq_true rfl) (rcv0 (fr2.at (by decide) hM)) (Nat.le_of_ble_eq_true rfl) (c_X9_many (t := 0) (v := v) (fr2.at (by decide) hM) (fr2.at (by decide) hS) (by omega)) ?_
      refine Y_ic_ge (a := i) (b := (S 0)) (by omega) hk rfl (fun g1 => ?_) (fun g1 => ?_)
      ·
        refine E_run hk 2 (j' := 87) (lv' := [(0, .ref 63), (1, yi b), (2, yi u), (3, yi i)]) (st' := [yi 0, .ref 63]) (hp' := hl2) rfl ?_
        refine Y_callP hk rfl (as := [.ref 63, yi 0]) (rest := []) (v := some (yi (S 0))) rfl rfl (Nat.le_of_ble_eq_true rfl) (rcv0 (fr2.at (by decide) hM)) (Nat.le_of_ble_eq_true rfl) (c_X9_many (t := 0) (v := v) (fr2.at (by decide) hM) (fr2.at (by decide) hS) (by omega)) ?_
        refine Y_if_eq (a := (S 0)) (by omega) hk rfl (fun g2 => ?_) (fun g2 => ?_)
        ·
          refine E_run hk 2 (j' := 111) (lv' := [(0, .ref 63), (1, yi b), (2, yi u), (3, yi i)]) (st' := [yi 100000000]) (hp' := hl2) rfl ?_
          exact E_ret hk rfl rfl ⟨by
          first
            | (rw [if_pos (by omega)]; done)
            | (rw [if_neg (by omega)]; show Sum.inl (some (yi (g _))) = _; rw [show 20 * (S 0 - 1) + S 1 - 1 = 20 * (S 0 - 1) + (S 1 - 1) by omega, J2 _ _ (by omega) (by omega) (by omega) (by omega)]; done), _, ec2_70, fun x y x1 x2 y1 y2 => J2 x y x1 (by omega) y1 y2, fr2⟩
        ·
          refine E_run hk 2 (j' := 91) (lv' := [(0, .ref 63), (1, yi b), (2, yi u), (3, yi i)]) (st' := [yi 1, .ref 63]) (hp' := hl2) rfl ?_
          refine Y_callP hk rfl (as := [.ref 63, yi 1]) (rest := []) (v := some (yi (S 1))) rfl rfl (Nat.le_of_ble_eq_true rfl) (rcv0 (fr2.at (by decide) hM)) (Nat.le_of_ble_eq_true rfl) (c_X9_many (t := 1) (v := v) (fr2.at (by decide) hM) (fr2.at (by decide) hS) (by omega)) ?_
          refine Y_if_ne (a := (S 1)) (by omega) hk rfl (fun g3 => ?_) (fun g3 => ?_)
          ·
            refine E_run hk 1 (j' := 96) (lv' := [(0, .ref 63), (1, yi b), (2, yi u), (3, yi i)]) (st' := [.ref 63]) (hp' := hl2) rfl ?_
            refine E_get (v := .ref 70) hk rfl (fr2.at (by decide) hM) rfl ?_
            refine E_run hk 3 (j' := 100) (lv' := [(0, .ref 63), (1, yi b), (2, yi u), (3, yi i)]) (st' := [yi 0, .ref 63, yi 20, .ref 70]) (hp' := hl2) rfl ?_
            refine Y_callP hk rfl (as := [.ref 63, yi 0]) (rest := [yi 20, .ref 70]) (v := some (yi (S 0))) rfl rfl (Nat.le_of_ble_eq_true rfl) (rcv0 (fr2.at (by decide) hM)) (Nat.le_of_ble_eq_true rfl) (c_X9_many (t := 0) (v := v) (fr2.at (by decide) hM) (fr2.at (by decide) hS) (by omega)) ?_
            refine E_run hk 1 (j' := 102) (lv' := [(0, .ref 63), (1, yi b), (2, yi u), (3, yi i)]) (st' := [yi 1, yi (S 0), yi 20, .ref 70]) (hp' := hl2) rfl ?_
            refine Y_isub (a := (S 0)) (b := 1) hk rfl ?_
            refine Y_imul (a := 20) (b := ((S 0) - 1)) hk rfl ?_
            refine E_run hk 2 (j' := 106) (lv' := [(0, .ref 63), (1, yi b), (2, yi u), (3, yi i)]) (st' := [yi 1, .ref 63, yi (20 * ((S 0) - 1)), .ref 70]) (hp' := hl2) rfl ?_
            refine Y_callP hk rfl (as := [.ref 63, yi 1]) (rest := [yi (20 * ((S 0) - 1)), .ref 70]) (v := some (yi (S 1))) rfl rfl (Nat.le_of_ble_eq_true rfl) (rcv0 (fr2.at (by decide) hM)) (Nat.le_of_ble_eq_true rfl) (c_X9_many (t := 1) (v := v) (fr2.at (by decide) hM) (fr2.at (by decide) hS) (by omega)) ?_
            refine Y_iadd (a := (20 * ((S 0) - 1))) (b := (S 1)) hk rfl ?_
            refine E_run hk 1 (j' := 109) (lv' := [(0, .ref 63), (1, yi b), (2, yi u), (3, yi i)]) (st' := [yi 1, yi ((20 * ((S 0) - 1)) + (S 1)), .ref 70]) (hp' := hl2) rfl ?_
            refine Y_isub (a := ((20 * ((S 0) - 1)) + (S 1))) (b := 1) hk rfl ?_
            refine Y_iald (a := (((20 * ((S 0) - 1)) + (S 1)) - 1)) (by omega) (by decide) hk rfl ec2_70 ?_
            exact E_ret hk rfl rfl ⟨by
          first
            | (rw [if_pos (by omega)]; done)
            | (rw [if_neg (by omega)]; show Sum.inl (some (yi (g _))) = _; rw [show 20 * (S 0 - 1) + S 1 - 1 = 20 * (S 0 - 1) + (S 1 - 1) by omega, J2 _ _ (by omega) (by omega) (by omega) (by omega)]; done), _, ec2_70, fun x y x1 x2 y1 y2 => J2 x y x1 (by omega) y1 y2, fr2⟩
          ·
            refine E_run hk 2 (j' := 111) (lv' := [(0, .ref 63), (1, yi b), (2, yi u), (3, yi i)]) (st' := [yi 100000000]) (hp' := hl2) rfl ?_
            exact E_ret hk rfl rfl ⟨by
          first
            | (rw [if_pos (by omega)]; done)
            | (rw [if_neg (by omega)]; show Sum.inl (some (yi (g _))) = _; rw [show 20 * (S 0 - 1) + S 1 - 1 = 20 * (S 0 - 1) + (S 1 - 1) by omega, J2 _ _ (by omega) (by omega) (by omega) (by omega)]; done), _, ec2_70, fun x y x1 x2 y1 y2 => J2 x y x1 (by omega) y1 y2, fr2⟩
      ·
        refine E_run hk 2 (j' := 9) (lv' := [(4, yi 0), (0, .ref 63), (1, yi b), (2, yi u), (3, yi i)]) (st' := []) (hp' := hl2) rfl ?_
        have loop9 : ∀ (N : Nat) (j : Int) (k : Int → Int) (hl9 : xH), (0 ≤ j ∧ j ≤ S 1) → (∀ x y, 0 ≤ x → x < i → 0 ≤ y → y < S 1 → k (20 * x + y) = fw (unl S b) (S 3) u x y) → (∀ y, 0 ≤ y → y < j → k (20 * i + y) = fw (unl S b) (S 3) u i y) → (xat hl9 70 = some (yI 400 k)) → (yfr [70] hl2 hl9) → (S 1 - j).toNat = N → Ev (d + 1) 161 9 [(0, .ref 63), (1, yi b), (2, yi u), (3, yi i), (4, yi j)] [] hl9 (yR (some (yi (if S 0 = 0 ∨ S 1 = 0 then 100000000 else fw (unl S b) (S 3) u (S 0 - 1) (S 1 - 1)))) (fun h => ∃ g, xat h 70 = some (yI 400 g) ∧ (∀ x y, 0 ≤ x → x < S 0 → 0 ≤ y → y < S 1 → g (20 * x + y) = fw (unl S b) (S 3) u x y) ∧ yfr [70] hp h)) := by
          intro N
          induction N using Nat.strongRecOn with
          | ind N ih9 =>
            intro j k hl9 K1 K2 K3 ec9_70 fr9 hm9
            refine E_run hk 1 (j' := 10) (lv' := [(0, .ref 63), (1, yi b), (2, yi u), (3, yi i), (4, yi j)]) (st' := [yi j]) (hp' := hl9) rfl ?_
            refine E_run hk 2 (j' := 12) (lv' := [(0, .ref 63), (1, yi b), (2, yi u), (3, yi i), (4, yi j)]) (st' := [yi 1, .ref 63, yi j]) (hp' := hl9) rfl ?_
            refine Y_callP hk rfl (as := [.ref 63, yi 1]) (rest := [yi j]) (v := some (yi (S 1))) rfl rfl (Nat.le_of_ble_eq_true rfl) (rcv0 (fr9.at (by decide) (fr2.at (by decide) hM))) (Nat.le_of_ble_eq_true rfl) (c_X9_many (t := 1) (v := v) (fr9.at (by decide) (fr2.at (by decide) hM)) (fr9.at (by decide) (fr2.at (by decide) hS)) (by omega)) ?_
            refine Y_ic_ge (a := j) (b := (S 1)) (by omega) hk rfl (fun g4 => ?_) (fun g4 => ?_)
            ·
              refine Y_iinc (a := i) (z := 1) hk rfl rfl rfl (by decide) (lv' := [(3, yi (i + 1)), (0, .ref 63), (1, yi b), (2, yi u), (4, yi j)]) rfl ?_
              refine E_run hk 1 (j' := 2) (lv' := [(3, yi (i + 1)), (0, .ref 63), (1, yi b), (2, yi u), (4, yi j)]) (st' := []) (hp' := hl9) rfl ?_
              exact Ev_le (xle_s rfl rfl (xle_s rfl rfl (xle_s rfl rfl (xle_s rfl rfl (xle_z _ rfl))))) (ih2 _ (by omega) (i + 1) k hl9 (by omega) (fun x y x1 x2 y1 y2 => by
        by_cases e0 : x = i
        · subst e0
          exact K3 y y1 (by omega)
        · exact K2 x y x1 (by omega) y1 y2) ec9_70 (yfr.tr fr2 fr9 (fun _ h => h) (by decide)) rfl)
            ·
              have u1 : tabAt k (i - 1) j = fw (unl S b) (S 3) u (i - 1) j := tab_fw (fun q1 q2 => K2 _ _ q1 (by omega) q2 (by omega))
              have u2 : tabAt k i (j - 1) = fw (unl S b) (S 3) u i (j - 1) := tab_fw (fun q1 q2 => K3 _ q2 (by omega))
              have u3 : tabAt k (i - 1) (j - 1) = fw (unl S b) (S 3) u (i - 1) (j - 1) := tab_fw (fun q1 q2 => K2 _ _ q1 (by omega) q2 (by omega))
              have v1 := fw_rng (b := u) (w := S 3) (m := S 0) (n := S 1) (by omega) hD _ (i - 1) j (by omega) (by omega) rfl
              have v2 := fw_rng (b := u) (w := S 3) (m := S 0) (n := S 1) (by omega) hD _ i (j - 1) (by omega) (by omega) rfl
              have v3 := fw_rng (b := u) (w := S 3) (m := S 0) (n := S 1) (by omega) hD _ (i - 1) (j - 1) (by omega) (by omega) rfl
              have v4 := hD i j (by omega) (by omega) (by omega) (by omega)
              have l1 := least_rng (fw (unl S b) (S 3) u (i - 1) j) (fw (unl S b) (S 3) u i (j - 1))
              have l2 := least_rng (fw (unl S b) (S 3) u (i - 1) (j - 1)) (least (fw (unl S b) (S 3) u (i - 1) j) (fw (unl S b) (S 3) u i (j - 1)) + S 3)
              rw [← u1, ← u2] at l1
              rw [← u1, ← u2, ← u3] at l2
              rw [← u1] at v1
              rw [← u2] at v2
              rw [← u3] at v3
              refine E_run hk 3 (j' := 17) (lv' := [(0, .ref 63), (1, yi b), (2, yi u), (3, yi i), (4, yi j)]) (st' := [yi 1, yi i, .ref 63]) (hp' := hl9) rfl ?_
              refine Y_isub (a := i) (b := 1) hk rfl ?_
              refine E_run hk 1 (j' := 19) (lv' := [(0, .ref 63), (1, yi b), (2, yi u), (3, yi i), (4, yi j)]) (st' := [yi j, yi (i - 1), .ref 63]) (hp' := hl9) rfl ?_
              refine Y_callP hk rfl (as := [.ref 63, yi (i - 1), yi j]) (rest := []) (v := some (yi (tabAt k (i - 1) j))) rfl rfl (Nat.le_of_ble_eq_true rfl) (rcv0 (fr9.at (by decide) (fr2.at (by decide) hM))) (Nat.le_of_ble_eq_true rfl) (c_X9_aheadOf (i := (i - 1)) (j := j) (v := v) (fr9.at (by decide) (fr2.at (by decide) hM)) ec9_70 (by omega) (hd := by omega)) ?_
              refine E_run hk 4 (j' := 24) (lv' := [(0, .ref 63), (1, yi b), (2, yi u), (3, yi i), (4, yi j)]) (st' := [yi 1, yi j, yi i, .ref 63, yi (tabAt k (i - 1) j)]) (hp' := hl9) rfl ?_
              refine Y_isub (a := j) (b := 1) hk rfl ?_
              refine Y_callP hk rfl (as := [.ref 63, yi i, yi (j - 1)]) (rest := [yi (tabAt k (i - 1) j)]) (v := some (yi (tabAt k i (j - 1)))) rfl rfl (Nat.le_of_ble_eq_true rfl) (rcv0 (fr9.at (by decide) (fr2.at (by decide) hM))) (Nat.le_of_ble_eq_true rfl) (c_X9_aheadOf (i := i) (j := (j - 1)) (v := v) (fr9.at (by decide) (fr2.at (by decide) hM)) ec9_70 (by omega) (hd := by omega)) ?_
              refine Y_callP hk rfl (as := [yi (tabAt k (i - 1) j), yi (tabAt k i (j - 1))]) (rest := []) (v := some (yi (least (tabAt k (i - 1) j) (tabAt k i (j - 1))))) rfl rfl (Nat.le_of_ble_eq_true rfl) rfl (Nat.le_of_ble_eq_true rfl) (c_X9_least (a := (tabAt k (i - 1) j)) (b := (tabAt k i (j - 1))) (by omega)) ?_
              refine E_run hk 1 (j' := 28) (lv' := [(0, .ref 63), (1, yi b), (2, yi u), (3, yi i), (4, yi j)]) (st' := [.ref 63, yi (least (tabAt k (i - 1) j) (tabAt k i (j - 1)))]) (hp' := hl9) rfl ?_
              refine E_get (v := .ref 64) hk rfl (fr9.at (by decide) (fr2.at (by decide) hM)) rfl ?_
              refine E_run hk 1 (j' := 30) (lv' := [(0, .ref 63), (1, yi b), (2, yi u), (3, yi i), (4, yi j)]) (st' := [yi 3, .ref 64, yi (least (tabAt k (i - 1) j) (tabAt k i (j - 1)))]) (hp' := hl9) rfl ?_
              refine Y_iald (a := 3) (by omega) (by decide) hk rfl (fr9.at (by decide) (fr2.at (by decide) hS)) ?_
              refine Y_iadd (a := (least (tabAt k (i - 1) j) (tabAt k i (j - 1)))) (b := (S 3)) hk rfl ?_
              refine E_run hk 2 (j' := 34) (lv' := [(5, yi ((least (tabAt k (i - 1) j) (tabAt k i (j - 1))) + (S 3))), (0, .ref 63), (1, yi b), (2, yi u), (3, yi i), (4, yi j)]) (st' := [yi i]) (hp' := hl9) rfl ?_
              refine Y_if_ne (a := i) (by omega) hk rfl (fun g5 => ?_) (fun g5 => ?_)
              ·
                refine E_run hk 3 (j' := 42) (lv' := [(5, yi ((least (tabAt k (i - 1) j) (tabAt k i (j - 1))) + (S 3))), (0, .ref 63), (1, yi b), (2, yi u), (3, yi i), (4, yi j)]) (st' := [yi 1, yi i, .ref 63]) (hp' := hl9) rfl ?_
                refine Y_isub (a := i) (b := 1) hk rfl ?_
                refine E_run hk 2 (j' := 45) (lv' := [(5, yi ((least (tabAt k (i - 1) j) (tabAt k i (j - 1))) + (S 3))), (0, .ref 63), (1, yi b), (2, yi u), (3, yi i), (4, yi j)]) (st' := [yi 1, yi j, yi (i - 1), .ref 63]) (hp' := hl9) rfl ?_
                refine Y_isub (a := j) (b := 1) hk rfl ?_
                refine Y_callP hk rfl (as := [.ref 63, yi (i - 1), yi (j - 1)]) (rest := []) (v := some (yi (tabAt k (i - 1) (j - 1)))) rfl rfl (Nat.le_of_ble_eq_true rfl) (rcv0 (fr9.at (by decide) (fr2.at (by decide) hM))) (Nat.le_of_ble_eq_true rfl) (c_X9_aheadOf (i := (i - 1)) (j := (j - 1)) (v := v) (fr9.at (by decide) (fr2.at (by decide) hM)) ec9_70 (by omega) (hd := by omega)) ?_
                refine E_run hk 1 (j' := 48) (lv' := [(5, yi ((least (tabAt k (i - 1) j) (tabAt k i (j - 1))) + (S 3))), (0, .ref 63), (1, yi b), (2, yi u), (3, yi i), (4, yi j)]) (st' := [yi ((least (tabAt k (i - 1) j) (tabAt k i (j - 1))) + (S 3)), yi (tabAt k (i - 1) (j - 1))]) (hp' := hl9) rfl ?_
                refine Y_callP hk rfl (as := [yi (tabAt k (i - 1) (j - 1)), yi ((least (tabAt k (i - 1) j) (tabAt k i (j - 1))) + (S 3))]) (rest := []) (v := some (yi (least (tabAt k (i - 1) (j - 1)) ((least (tabAt k (i - 1) j) (tabAt k i (j - 1))) + (S 3))))) rfl rfl (Nat.le_of_ble_eq_true rfl) rfl (Nat.le_of_ble_eq_true rfl) (c_X9_least (a := (tabAt k (i - 1) (j - 1))) (b := ((least (tabAt k (i - 1) j) (tabAt k i (j - 1))) + (S 3))) (by omega)) ?_
                refine E_run hk 4 (j' := 53) (lv' := [(6, yi (least (tabAt k (i - 1) (j - 1)) ((least (tabAt k (i - 1) j) (tabAt k i (j - 1))) + (S 3)))), (5, yi ((least (tabAt k (i - 1) j) (tabAt k i (j - 1))) + (S 3))), (0, .ref 63), (1, yi b), (2, yi u), (3, yi i), (4, yi j)]) (st' := [yi u, yi j, yi i]) (hp' := hl9) rfl ?_
                refine Y_callP hk rfl (as := [yi i, yi j, yi u]) (rest := []) (v := some (yi (b2 (-u ≤ i - j ∧ i - j ≤ u)))) rfl rfl (Nat.le_of_ble_eq_true rfl) rfl (Nat.le_of_ble_eq_true rfl) (c_X9_isNear (i := i) (j := j) (b := u) (by omega) (hd := by omega)) ?_
                refine Y_b_eq hk rfl (fun g6 => ?_) (fun g6 => ?_)
                ·
                  refine E_run hk 3 (j' := 63) (lv' := [(7, yi 0), (6, yi (least (tabAt k (i - 1) (j - 1)) ((least (tabAt k (i - 1) j) (tabAt k i (j - 1))) + (S 3)))), (5, yi ((least (tabAt k (i - 1) j) (tabAt k i (j - 1))) + (S 3))), (0, .ref 63), (1, yi b), (2, yi u), (3, yi i), (4, yi j)]) (st' := [.ref 63]) (hp' := hl9) rfl ?_
                  refine E_get (v := .ref 70) hk rfl (fr9.at (by decide) (fr2.at (by decide) hM)) rfl ?_
                  refine E_run hk 2 (j' := 66) (lv' := [(7, yi 0), (6, yi (least (tabAt k (i - 1) (j - 1)) ((least (tabAt k (i - 1) j) (tabAt k i (j - 1))) + (S 3)))), (5, yi ((least (tabAt k (i - 1) j) (tabAt k i (j - 1))) + (S 3))), (0, .ref 63), (1, yi b), (2, yi u), (3, yi i), (4, yi j)]) (st' := [yi i, yi 20, .ref 70]) (hp' := hl9) rfl ?_
                  refine Y_imul (a := 20) (b := i) hk rfl ?_
                  refine E_run hk 1 (j' := 68) (lv' := [(7, yi 0), (6, yi (least (tabAt k (i - 1) (j - 1)) ((least (tabAt k (i - 1) j) (tabAt k i (j - 1))) + (S 3)))), (5, yi ((least (tabAt k (i - 1) j) (tabAt k i (j - 1))) + (S 3))), (0, .ref 63), (1, yi b), (2, yi u), (3, yi i), (4, yi j)]) (st' := [yi j, yi (20 * i), .ref 70]) (hp' := hl9) rfl ?_
                  refine Y_iadd (a := (20 * i)) (b := j) hk rfl ?_
                  refine E_run hk 1 (j' := 70) (lv' := [(7, yi 0), (6, yi (least (tabAt k (i - 1) (j - 1)) ((least (tabAt k (i - 1) j) (tabAt k i (j - 1))) + (S 3)))), (5, yi ((least (tabAt k (i - 1) j) (tabAt k i (j - 1))) + (S 3))), (0, .ref 63), (1, yi b), (2, yi u), (3, yi i), (4, yi j)]) (st' := [yi 0, yi ((20 * i) + j), .ref 70]) (hp' := hl9) rfl ?_
                  refine Y_if_eq (a := 0) (by omega) hk rfl (fun g7 => ?_) (fun g7 => ?_)
                  ·
                    refine E_run hk 1 (j' := 80) (lv' := [(7, yi 0), (6, yi (least (tabAt k (i - 1) (j - 1)) ((least (tabAt k (i - 1) j) (tabAt k i (j - 1))) + (S 3)))), (5, yi ((least (tabAt k (i - 1) j) (tabAt k i (j - 1))) + (S 3))), (0, .ref 63), (1, yi b), (2, yi u), (3, yi i), (4, yi j)]) (st' := [yi 100000000, yi ((20 * i) + j), .ref 70]) (hp' := hl9) rfl ?_
                    refine Y_iast (a := ((20 * i) + j)) (x := 100000000) (by omega) (by decide) (by decide) hk rfl ec9_70 (fun H8 e9 f10 => ?_)
                    refine Y_iinc (a := j) (z := 1) hk rfl rfl rfl (by decide) (lv' := [(4, yi (j + 1)), (7, yi 0), (6, yi (least (tabAt k (i - 1) (j - 1)) ((least (tabAt k (i - 1) j) (tabAt k i (j - 1))) + (S 3)))), (5, yi ((least (tabAt k (i - 1) j) (tabAt k i (j - 1))) + (S 3))), (0, .ref 63), (1, yi b), (2, yi u), (3, yi i)]) rfl ?_
                    refine E_run hk 1 (j' := 9) (lv' := [(4, yi (j + 1)), (7, yi 0), (6, yi (least (tabAt k (i - 1) (j - 1)) ((least (tabAt k (i - 1) j) (tabAt k i (j - 1))) + (S 3)))), (5, yi ((least (tabAt k (i - 1) j) (tabAt k i (j - 1))) + (S 3))), (0, .ref 63), (1, yi b), (2, yi u), (3, yi i)]) (st' := []) (hp' := H8) rfl ?_
                    exact Ev_le (xle_s rfl rfl (xle_s rfl rfl (xle_s rfl rfl (xle_s rfl rfl (xle_s rfl rfl (xle_z _ rfl)))))) (ih9 _ (by omega) (j + 1) (up k ((20 * i) + j) 100000000) H8 (by omega) (fun x y x1 x2 y1 y2 => by
        rw [up_ne _ _ (by omega)]
        exact K2 x y x1 x2 y1 y2) (fun y y1 y2 => by
        by_cases e0 : y = j
        · subst e0
          rw [up_self, fw_in (by omega)]
          unfold fwf
          rw [← u1, ← u2, ← u3]
          first
            | (rw [if_pos (by omega : i = 0 ∧ y = 0)]; first | (rw [if_pos (by omega)]; done) | (rw [if_neg (by omega)]; done))
            | (rw [if_neg (by omega : ¬ (i = 0 ∧ y = 0))]; first | (rw [if_pos (by omega)]; done) | (rw [if_neg (by omega)]; done))
        · rw [up_ne _ _ (by omega)]
          exact K3 y y1 (by omega)) e9 (yfr.tr fr9 f10 (fun _ h => h) (by decide)) rfl)
                  · exfalso; omega
                ·
                  refine E_run hk 2 (j' := 57) (lv' := [(6, yi (least (tabAt k (i - 1) (j - 1)) ((least (tabAt k (i - 1) j) (tabAt k i (j - 1))) + (S 3)))), (5, yi ((least (tabAt k (i - 1) j) (tabAt k i (j - 1))) + (S 3))), (0, .ref 63), (1, yi b), (2, yi u), (3, yi i), (4, yi j)]) (st' := [yi 100000000, yi (least (tabAt k (i - 1) (j - 1)) ((least (tabAt k (i - 1) j) (tabAt k i (j - 1))) + (S 3)))]) (hp' := hl9) rfl ?_
                  refine Y_ic_ge (a := (least (tabAt k (i - 1) (j - 1)) ((least (tabAt k (i - 1) j) (tabAt k i (j - 1))) + (S 3)))) (b := 100000000) (by omega) hk rfl (fun g11 => ?_) (fun g11 => ?_)
                  ·
                    refine E_run hk 3 (j' := 63) (lv' := [(7, yi 0), (6, yi (least (tabAt k (i - 1) (j - 1)) ((least (tabAt k (i - 1) j) (tabAt k i (j - 1))) + (S 3)))), (5, yi ((least (tabAt k (i - 1) j) (tabAt k i (j - 1))) + (S 3))), (0, .ref 63), (1, yi b), (2, yi u), (3, yi i), (4, yi j)]) (st' := [.ref 63]) (hp' := hl9) rfl ?_
                    refine E_get (v := .ref 70) hk rfl (fr9.at (by decide) (fr2.at (by decide) hM)) rfl ?_
                    refine E_run hk 2 (j' := 66) (lv' := [(7, yi 0), (6, yi (least (tabAt k (i - 1) (j - 1)) ((least (tabAt k (i - 1) j) (tabAt k i (j - 1))) + (S 3)))), (5, yi ((least (tabAt k (i - 1) j) (tabAt k i (j - 1))) + (S 3))), (0, .ref 63), (1, yi b), (2, yi u), (3, yi i), (4, yi j)]) (st' := [yi i, yi 20, .ref 70]) (hp' := hl9) rfl ?_
                    refine Y_imul (a := 20) (b := i) hk rfl ?_
                    refine E_run hk 1 (j' := 68) (lv' := [(7, yi 0), (6, yi (least (tabAt k (i - 1) (j - 1)) ((least (tabAt k (i - 1) j) (tabAt k i (j - 1))) + (S 3)))), (5, yi ((least (tabAt k (i - 1) j) (tabAt k i (j - 1))) + (S 3))), (0, .ref 63), (1, yi b), (2, yi u), (3, yi i), (4, yi j)]) (st' := [yi j, yi (20 * i), .ref 70]) (hp' := hl9) rfl ?_
                    refine Y_iadd (a := (20 * i)) (b := j) hk rfl ?_
                    refine E_run hk 1 (j' := 70) (lv' := [(7, yi 0), (6, yi (least (tabAt k (i - 1) (j - 1)) ((least (tabAt k (i - 1) j) (tabAt k i (j - 1))) + (S 3)))), (5, yi ((least (tabAt k (i - 1) j) (tabAt k i (j - 1))) + (S 3))), (0, .ref 63), (1, yi b), (2, yi u), (3, yi i), (4, yi j)]) (st' := [yi 0, yi ((20 * i) + j), .ref 70]) (hp' := hl9) rfl ?_
                    refine Y_if_eq (a := 0) (by omega) hk rfl (fun g12 => ?_) (fun g12 => ?_)
                    ·
                      refine E_run hk 1 (j' := 80) (lv' := [(7, yi 0), (6, yi (least (tabAt k (i - 1) (j - 1)) ((least (tabAt k (i - 1) j) (tabAt k i (j - 1))) + (S 3)))), (5, yi ((least (tabAt k (i - 1) j) (tabAt k i (j - 1))) + (S 3))), (0, .ref 63), (1, yi b), (2, yi u), (3, yi i), (4, yi j)]) (st' := [yi 100000000, yi ((20 * i) + j), .ref 70]) (hp' := hl9) rfl ?_
                      refine Y_iast (a := ((20 * i) + j)) (x := 100000000) (by omega) (by decide) (by decide) hk rfl ec9_70 (fun H13 e14 f15 => ?_)
                      refine Y_iinc (a := j) (z := 1) hk rfl rfl rfl (by decide) (lv' := [(4, yi (j + 1)), (7, yi 0), (6, yi (least (tabAt k (i - 1) (j - 1)) ((least (tabAt k (i - 1) j) (tabAt k i (j - 1))) + (S 3)))), (5, yi ((least (tabAt k (i - 1) j) (tabAt k i (j - 1))) + (S 3))), (0, .ref 63), (1, yi b), (2, yi u), (3, yi i)]) rfl ?_
                      refine E_run hk 1 (j' := 9) (lv' := [(4, yi (j + 1)), (7, yi 0), (6, yi (least (tabAt k (i - 1) (j - 1)) ((least (tabAt k (i - 1) j) (tabAt k i (j - 1))) + (S 3)))), (5, yi ((least (tabAt k (i - 1) j) (tabAt k i (j - 1))) + (S 3))), (0, .ref 63), (1, yi b), (2, yi u), (3, yi i)]) (st' := []) (hp' := H13) rfl ?_
                      exact Ev_le (xle_s rfl rfl (xle_s rfl rfl (xle_s rfl rfl (xle_s rfl rfl (xle_s rfl rfl (xle_z _ rfl)))))) (ih9 _ (by omega) (j + 1) (up k ((20 * i) + j) 100000000) H13 (by omega) (fun x y x1 x2 y1 y2 => by
        rw [up_ne _ _ (by omega)]
        exact K2 x y x1 x2 y1 y2) (fun y y1 y2 => by
        by_cases e0 : y = j
        · subst e0
          rw [up_self, fw_in (by omega)]
          unfold fwf
          rw [← u1, ← u2, ← u3]
          first
            | (rw [if_pos (by omega : i = 0 ∧ y = 0)]; first | (rw [if_pos (by omega)]; done) | (rw [if_neg (by omega)]; done))
            | (rw [if_neg (by omega : ¬ (i = 0 ∧ y = 0))]; first | (rw [if_pos (by omega)]; done) | (rw [if_neg (by omega)]; done))
        · rw [up_ne _ _ (by omega)]
          exact K3 y y1 (by omega)) e14 (yfr.tr fr9 f15 (fun _ h => h) (by decide)) rfl)
                    · exfalso; omega
                  ·
                    refine E_run hk 4 (j' := 63) (lv' := [(7, yi 1), (6, yi (least (tabAt k (i - 1) (j - 1)) ((least (tabAt k (i - 1) j) (tabAt k i (j - 1))) + (S 3)))), (5, yi ((least (tabAt k (i - 1) j) (tabAt k i (j - 1))) + (S 3))), (0, .ref 63), (1, yi b), (2, yi u), (3, yi i), (4, yi j)]) (st' := [.ref 63]) (hp' := hl9) rfl ?_
                    refine E_get (v := .ref 70) hk rfl (fr9.at (by decide) (fr2.at (by decide) hM)) rfl ?_
                    refine E_run hk 2 (j' := 66) (lv' := [(7, yi 1), (6, yi (least (tabAt k (i - 1) (j - 1)) ((least (tabAt k (i - 1) j) (tabAt k i (j - 1))) + (S 3)))), (5, yi ((least (tabAt k (i - 1) j) (tabAt k i (j - 1))) + (S 3))), (0, .ref 63), (1, yi b), (2, yi u), (3, yi i), (4, yi j)]) (st' := [yi i, yi 20, .ref 70]) (hp' := hl9) rfl ?_
                    refine Y_imul (a := 20) (b := i) hk rfl ?_
                    refine E_run hk 1 (j' := 68) (lv' := [(7, yi 1), (6, yi (least (tabAt k (i - 1) (j - 1)) ((least (tabAt k (i - 1) j) (tabAt k i (j - 1))) + (S 3)))), (5, yi ((least (tabAt k (i - 1) j) (tabAt k i (j - 1))) + (S 3))), (0, .ref 63), (1, yi b), (2, yi u), (3, yi i), (4, yi j)]) (st' := [yi j, yi (20 * i), .ref 70]) (hp' := hl9) rfl ?_
                    refine Y_iadd (a := (20 * i)) (b := j) hk rfl ?_
                    refine E_run hk 1 (j' := 70) (lv' := [(7, yi 1), (6, yi (least (tabAt k (i - 1) (j - 1)) ((least (tabAt k (i - 1) j) (tabAt k i (j - 1))) + (S 3)))), (5, yi ((least (tabAt k (i - 1) j) (tabAt k i (j - 1))) + (S 3))), (0, .ref 63), (1, yi b), (2, yi u), (3, yi i), (4, yi j)]) (st' := [yi 1, yi ((20 * i) + j), .ref 70]) (hp' := hl9) rfl ?_
                    refine Y_if_eq (a := 1) (by omega) hk rfl (fun g16 => ?_) (fun g16 => ?_)
                    · exfalso; omega
                    ·
                      refine E_run hk 5 (j' := 76) (lv' := [(7, yi 1), (6, yi (least (tabAt k (i - 1) (j - 1)) ((least (tabAt k (i - 1) j) (tabAt k i (j - 1))) + (S 3)))), (5, yi ((least (tabAt k (i - 1) j) (tabAt k i (j - 1))) + (S 3))), (0, .ref 63), (1, yi b), (2, yi u), (3, yi i), (4, yi j)]) (st' := [yi b, yi j, yi i, .ref 63, yi (least (tabAt k (i - 1) (j - 1)) ((least (tabAt k (i - 1) j) (tabAt k i (j - 1))) + (S 3))), yi ((20 * i) + j), .ref 70]) (hp' := hl9) rfl ?_
                      refine Y_callP hk rfl (as := [.ref 63, yi i, yi j, yi b]) (rest := [yi (least (tabAt k (i - 1) (j - 1)) ((least (tabAt k (i - 1) j) (tabAt k i (j - 1))) + (S 3))), yi ((20 * i) + j), .ref 70]) (v := some (yi (unl S b i j))) rfl rfl (Nat.le_of_ble_eq_true rfl) (rcv0 (fr9.at (by decide) (fr2.at (by decide) hM))) (Nat.le_of_ble_eq_true rfl) (c_X9_unlikeBy (i := i) (j := j) (b := b) (v := v) (fr9.at (by decide) (fr2.at (by decide) hM)) (fr9.at (by decide) (fr2.at (by decide) hS)) hz h0 h1 (by omega) (by omega) (hd := by omega)) ?_
                      refine Y_iadd (a := (least (tabAt k (i - 1) (j - 1)) ((least (tabAt k (i - 1) j) (tabAt k i (j - 1))) + (S 3)))) (b := (unl S b i j)) hk rfl ?_
                      refine E_run hk 1 (j' := 80) (lv' := [(7, yi 1), (6, yi (least (tabAt k (i - 1) (j - 1)) ((least (tabAt k (i - 1) j) (tabAt k i (j - 1))) + (S 3)))), (5, yi ((least (tabAt k (i - 1) j) (tabAt k i (j - 1))) + (S 3))), (0, .ref 63), (1, yi b), (2, yi u), (3, yi i), (4, yi j)]) (st' := [yi ((least (tabAt k (i - 1) (j - 1)) ((least (tabAt k (i - 1) j) (tabAt k i (j - 1))) + (S 3))) + (unl S b i j)), yi ((20 * i) + j), .ref 70]) (hp' := hl9) rfl ?_
                      refine Y_iast (a := ((20 * i) + j)) (x := ((least (tabAt k (i - 1) (j - 1)) ((least (tabAt k (i - 1) j) (tabAt k i (j - 1))) + (S 3))) + (unl S b i j))) (by omega) (by decide) (by decide) hk rfl ec9_70 (fun H17 e18 f19 => ?_)
                      refine Y_iinc (a := j) (z := 1) hk rfl rfl rfl (by decide) (lv' := [(4, yi (j + 1)), (7, yi 1), (6, yi (least (tabAt k (i - 1) (j - 1)) ((least (tabAt k (i - 1) j) (tabAt k i (j - 1))) + (S 3)))), (5, yi ((least (tabAt k (i - 1) j) (tabAt k i (j - 1))) + (S 3))), (0, .ref 63), (1, yi b), (2, yi u), (3, yi i)]) rfl ?_
                      refine E_run hk 1 (j' := 9) (lv' := [(4, yi (j + 1)), (7, yi 1), (6, yi (least (tabAt k (i - 1) (j - 1)) ((least (tabAt k (i - 1) j) (tabAt k i (j - 1))) + (S 3)))), (5, yi ((least (tabAt k (i - 1) j) (tabAt k i (j - 1))) + (S 3))), (0, .ref 63), (1, yi b), (2, yi u), (3, yi i)]) (st' := []) (hp' := H17) rfl ?_
                      exact Ev_le (xle_s rfl rfl (xle_s rfl rfl (xle_s rfl rfl (xle_s rfl rfl (xle_s rfl rfl (xle_z _ rfl)))))) (ih9 _ (by omega) (j + 1) (up k ((20 * i) + j) ((least (tabAt k (i - 1) (j - 1)) ((least (tabAt k (i - 1) j) (tabAt k i (j - 1))) + (S 3))) + (unl S b i j))) H17 (by omega) (fun x y x1 x2 y1 y2 => by
        rw [up_ne _ _ (by omega)]
        exact K2 x y x1 x2 y1 y2) (fun y y1 y2 => by
        by_cases e0 : y = j
        · subst e0
          rw [up_self, fw_in (by omega)]
          unfold fwf
          rw [← u1, ← u2, ← u3]
          first
            | (rw [if_pos (by omega : i = 0 ∧ y = 0)]; first | (rw [if_pos (by omega)]; done) | (rw [if_neg (by omega)]; done))
            | (rw [if_neg (by omega : ¬ (i = 0 ∧ y = 0))]; first | (rw [if_pos (by omega)]; done) | (rw [if_neg (by omega)]; done))
        · rw [up_ne _ _ (by omega)]
          exact K3 y y1 (by omega)) e18 (yfr.tr fr9 f19 (fun _ h => h) (by decide)) rfl)
              ·
                refine E_run hk 1 (j' := 36) (lv' := [(5, yi ((least (tabAt k (i - 1) j) (tabAt k i (j - 1))) + (S 3))), (0, .ref 63), (1, yi b), (2, yi u), (3, yi i), (4, yi j)]) (st' := [yi j]) (hp' := hl9) rfl ?_
                refine Y_if_ne (a := j) (by omega) hk rfl (fun g20 => ?_) (fun g20 => ?_)
                ·
                  refine E_run hk 3 (j' := 42) (lv' := [(5, yi ((least (tabAt k (i - 1) j) (tabAt k i (j - 1))) + (S 3))), (0, .ref 63), (1, yi b), (2, yi u), (3, yi i), (4, yi j)]) (st' := [yi 1, yi i, .ref 63]) (hp' := hl9) rfl ?_
                  refine Y_isub (a := i) (b := 1) hk rfl ?_
                  refine E_run hk 2 (j' := 45) (lv' := [(5, yi ((least (tabAt k (i - 1) j) (tabAt k i (j - 1))) + (S 3))), (0, .ref 63), (1, yi b), (2, yi u), (3, yi i), (4, yi j)]) (st' := [yi 1, yi j, yi (i - 1), .ref 63]) (hp' := hl9) rfl ?_
                  refine Y_isub (a := j) (b := 1) hk rfl ?_
                  refine Y_callP hk rfl (as := [.ref 63, yi (i - 1), yi (j - 1)]) (rest := []) (v := some (yi (tabAt k (i - 1) (j - 1)))) rfl rfl (Nat.le_of_ble_eq_true rfl) (rcv0 (fr9.at (by decide) (fr2.at (by decide) hM))) (Nat.le_of_ble_eq_true rfl) (c_X9_aheadOf (i := (i - 1)) (j := (j - 1)) (v := v) (fr9.at (by decide) (fr2.at (by decide) hM)) ec9_70 (by omega) (hd := by omega)) ?_
                  refine E_run hk 1 (j' := 48) (lv' := [(5, yi ((least (tabAt k (i - 1) j) (tabAt k i (j - 1))) + (S 3))), (0, .ref 63), (1, yi b), (2, yi u), (3, yi i), (4, yi j)]) (st' := [yi ((least (tabAt k (i - 1) j) (tabAt k i (j - 1))) + (S 3)), yi (tabAt k (i - 1) (j - 1))]) (hp' := hl9) rfl ?_
                  refine Y_callP hk rfl (as := [yi (tabAt k (i - 1) (j - 1)), yi ((least (tabAt k (i - 1) j) (tabAt k i (j - 1))) + (S 3))]) (rest := []) (v := some (yi (least (tabAt k (i - 1) (j - 1)) ((least (tabAt k (i - 1) j) (tabAt k i (j - 1))) + (S 3))))) rfl rfl (Nat.le_of_ble_eq_true rfl) rfl (Nat.le_of_ble_eq_true rfl) (c_X9_least (a := (tabAt k (i - 1) (j - 1))) (b := ((least (tabAt k (i - 1) j) (tabAt k i (j - 1))) + (S 3))) (by omega)) ?_
                  refine E_run hk 4 (j' := 53) (lv' := [(6, yi (least (tabAt k (i - 1) (j - 1)) ((least (tabAt k (i - 1) j) (tabAt k i (j - 1))) + (S 3)))), (5, yi ((least (tabAt k (i - 1) j) (tabAt k i (j - 1))) + (S 3))), (0, .ref 63), (1, yi b), (2, yi u), (3, yi i), (4, yi j)]) (st' := [yi u, yi j, yi i]) (hp' := hl9) rfl ?_
                  refine Y_callP hk rfl (as := [yi i, yi j, yi u]) (rest := []) (v := some (yi (b2 (-u ≤ i - j ∧ i - j ≤ u)))) rfl rfl (Nat.le_of_ble_eq_true rfl) rfl (Nat.le_of_ble_eq_true rfl) (c_X9_isNear (i := i) (j := j) (b := u) (by omega) (hd := by omega)) ?_
                  refine Y_b_eq hk rfl (fun g21 => ?_) (fun g21 => ?_)
                  ·
                    refine E_run hk 3 (j' := 63) (lv' := [(7, yi 0), (6, yi (least (tabAt k (i - 1) (j - 1)) ((least (tabAt k (i - 1) j) (tabAt k i (j - 1))) + (S 3)))), (5, yi ((least (tabAt k (i - 1) j) (tabAt k i (j - 1))) + (S 3))), (0, .ref 63), (1, yi b), (2, yi u), (3, yi i), (4, yi j)]) (st' := [.ref 63]) (hp' := hl9) rfl ?_
                    refine E_get (v := .ref 70) hk rfl (fr9.at (by decide) (fr2.at (by decide) hM)) rfl ?_
                    refine E_run hk 2 (j' := 66) (lv' := [(7, yi 0), (6, yi (least (tabAt k (i - 1) (j - 1)) ((least (tabAt k (i - 1) j) (tabAt k i (j - 1))) + (S 3)))), (5, yi ((least (tabAt k (i - 1) j) (tabAt k i (j - 1))) + (S 3))), (0, .ref 63), (1, yi b), (2, yi u), (3, yi i), (4, yi j)]) (st' := [yi i, yi 20, .ref 70]) (hp' := hl9) rfl ?_
                    refine Y_imul (a := 20) (b := i) hk rfl ?_
                    refine E_run hk 1 (j' := 68) (lv' := [(7, yi 0), (6, yi (least (tabAt k (i - 1) (j - 1)) ((least (tabAt k (i - 1) j) (tabAt k i (j - 1))) + (S 3)))), (5, yi ((least (tabAt k (i - 1) j) (tabAt k i (j - 1))) + (S 3))), (0, .ref 63), (1, yi b), (2, yi u), (3, yi i), (4, yi j)]) (st' := [yi j, yi (20 * i), .ref 70]) (hp' := hl9) rfl ?_
                    refine Y_iadd (a := (20 * i)) (b := j) hk rfl ?_
                    refine E_run hk 1 (j' := 70) (lv' := [(7, yi 0), (6, yi (least (tabAt k (i - 1) (j - 1)) ((least (tabAt k (i - 1) j) (tabAt k i (j - 1))) + (S 3)))), (5, yi ((least (tabAt k (i - 1) j) (tabAt k i (j - 1))) + (S 3))), (0, .ref 63), (1, yi b), (2, yi u), (3, yi i), (4, yi j)]) (st' := [yi 0, yi ((20 * i) + j), .ref 70]) (hp' := hl9) rfl ?_
                    refine Y_if_eq (a := 0) (by omega) hk rfl (fun g22 => ?_) (fun g22 => ?_)
                    ·
                      refine E_run hk 1 (j' := 80) (lv' := [(7, yi 0), (6, yi (least (tabAt k (i - 1) (j - 1)) ((least (tabAt k (i - 1) j) (tabAt k i (j - 1))) + (S 3)))), (5, yi ((least (tabAt k (i - 1) j) (tabAt k i (j - 1))) + (S 3))), (0, .ref 63), (1, yi b), (2, yi u), (3, yi i), (4, yi j)]) (st' := [yi 100000000, yi ((20 * i) + j), .ref 70]) (hp' := hl9) rfl ?_
                      refine Y_iast (a := ((20 * i) + j)) (x := 100000000) (by omega) (by decide) (by decide) hk rfl ec9_70 (fun H23 e24 f25 => ?_)
                      refine Y_iinc (a := j) (z := 1) hk rfl rfl rfl (by decide) (lv' := [(4, yi (j + 1)), (7, yi 0), (6, yi (least (tabAt k (i - 1) (j - 1)) ((least (tabAt k (i - 1) j) (tabAt k i (j - 1))) + (S 3)))), (5, yi ((least (tabAt k (i - 1) j) (tabAt k i (j - 1))) + (S 3))), (0, .ref 63), (1, yi b), (2, yi u), (3, yi i)]) rfl ?_
                      refine E_run hk 1 (j' := 9) (lv' := [(4, yi (j + 1)), (7, yi 0), (6, yi (least (tabAt k (i - 1) (j - 1)) ((least (tabAt k (i - 1) j) (tabAt k i (j - 1))) + (S 3)))), (5, yi ((least (tabAt k (i - 1) j) (tabAt k i (j - 1))) + (S 3))), (0, .ref 63), (1, yi b), (2, yi u), (3, yi i)]) (st' := []) (hp' := H23) rfl ?_
                      exact Ev_le (xle_s rfl rfl (xle_s rfl rfl (xle_s rfl rfl (xle_s rfl rfl (xle_s rfl rfl (xle_z _ rfl)))))) (ih9 _ (by omega) (j + 1) (up k ((20 * i) + j) 100000000) H23 (by omega) (fun x y x1 x2 y1 y2 => by
        rw [up_ne _ _ (by omega)]
        exact K2 x y x1 x2 y1 y2) (fun y y1 y2 => by
        by_cases e0 : y = j
        · subst e0
          rw [up_self, fw_in (by omega)]
          unfold fwf
          rw [← u1, ← u2, ← u3]
          first
            | (rw [if_pos (by omega : i = 0 ∧ y = 0)]; first | (rw [if_pos (by omega)]; done) | (rw [if_neg (by omega)]; done))
            | (rw [if_neg (by omega : ¬ (i = 0 ∧ y = 0))]; first | (rw [if_pos (by omega)]; done) | (rw [if_neg (by omega)]; done))
        · rw [up_ne _ _ (by omega)]
          exact K3 y y1 (by omega)) e24 (yfr.tr fr9 f25 (fun _ h => h) (by decide)) rfl)
                    · exfalso; omega
                  ·
                    refine E_run hk 2 (j' := 57) (lv' := [(6, yi (least (tabAt k (i - 1) (j - 1)) ((least (tabAt k (i - 1) j) (tabAt k i (j - 1))) + (S 3)))), (5, yi ((least (tabAt k (i - 1) j) (tabAt k i (j - 1))) + (S 3))), (0, .ref 63), (1, yi b), (2, yi u), (3, yi i), (4, yi j)]) (st' := [yi 100000000, yi (least (tabAt k (i - 1) (j - 1)) ((least (tabAt k (i - 1) j) (tabAt k i (j - 1))) + (S 3)))]) (hp' := hl9) rfl ?_
                    refine Y_ic_ge (a := (least (tabAt k (i - 1) (j - 1)) ((least (tabAt k (i - 1) j) (tabAt k i (j - 1))) + (S 3)))) (b := 100000000) (by omega) hk rfl (fun g26 => ?_) (fun g26 => ?_)
                    ·
                      refine E_run hk 3 (j' := 63) (lv' := [(7, yi 0), (6, yi (least (tabAt k (i - 1) (j - 1)) ((least (tabAt k (i - 1) j) (tabAt k i (j - 1))) + (S 3)))), (5, yi ((least (tabAt k (i - 1) j) (tabAt k i (j - 1))) + (S 3))), (0, .ref 63), (1, yi b), (2, yi u), (3, yi i), (4, yi j)]) (st' := [.ref 63]) (hp' := hl9) rfl ?_
                      refine E_get (v := .ref 70) hk rfl (fr9.at (by decide) (fr2.at (by decide) hM)) rfl ?_
                      refine E_run hk 2 (j' := 66) (lv' := [(7, yi 0), (6, yi (least (tabAt k (i - 1) (j - 1)) ((least (tabAt k (i - 1) j) (tabAt k i (j - 1))) + (S 3)))), (5, yi ((least (tabAt k (i - 1) j) (tabAt k i (j - 1))) + (S 3))), (0, .ref 63), (1, yi b), (2, yi u), (3, yi i), (4, yi j)]) (st' := [yi i, yi 20, .ref 70]) (hp' := hl9) rfl ?_
                      refine Y_imul (a := 20) (b := i) hk rfl ?_
                      refine E_run hk 1 (j' := 68) (lv' := [(7, yi 0), (6, yi (least (tabAt k (i - 1) (j - 1)) ((least (tabAt k (i - 1) j) (tabAt k i (j - 1))) + (S 3)))), (5, yi ((least (tabAt k (i - 1) j) (tabAt k i (j - 1))) + (S 3))), (0, .ref 63), (1, yi b), (2, yi u), (3, yi i), (4, yi j)]) (st' := [yi j, yi (20 * i), .ref 70]) (hp' := hl9) rfl ?_
                      refine Y_iadd (a := (20 * i)) (b := j) hk rfl ?_
                      refine E_run hk 1 (j' := 70) (lv' := [(7, yi 0), (6, yi (least (tabAt k (i - 1) (j - 1)) ((least (tabAt k (i - 1) j) (tabAt k i (j - 1))) + (S 3)))), (5, yi ((least (tabAt k (i - 1) j) (tabAt k i (j - 1))) + (S 3))), (0, .ref 63), (1, yi b), (2, yi u), (3, yi i), (4, yi j)]) (st' := [yi 0, yi ((20 * i) + j), .ref 70]) (hp' := hl9) rfl ?_
                      refine Y_if_eq (a := 0) (by omega) hk rfl (fun g27 => ?_) (fun g27 => ?_)
                      ·
                        refine E_run hk 1 (j' := 80) (lv' := [(7, yi 0), (6, yi (least (tabAt k (i - 1) (j - 1)) ((least (tabAt k (i - 1) j) (tabAt k i (j - 1))) + (S 3)))), (5, yi ((least (tabAt k (i - 1) j) (tabAt k i (j - 1))) + (S 3))), (0, .ref 63), (1, yi b), (2, yi u), (3, yi i), (4, yi j)]) (st' := [yi 100000000, yi ((20 * i) + j), .ref 70]) (hp' := hl9) rfl ?_
                        refine Y_iast (a := ((20 * i) + j)) (x := 100000000) (by omega) (by decide) (by decide) hk rfl ec9_70 (fun H28 e29 f30 => ?_)
                        refine Y_iinc (a := j) (z := 1) hk rfl rfl rfl (by decide) (lv' := [(4, yi (j + 1)), (7, yi 0), (6, yi (least (tabAt k (i - 1) (j - 1)) ((least (tabAt k (i - 1) j) (tabAt k i (j - 1))) + (S 3)))), (5, yi ((least (tabAt k (i - 1) j) (tabAt k i (j - 1))) + (S 3))), (0, .ref 63), (1, yi b), (2, yi u), (3, yi i)]) rfl ?_
                        refine E_run hk 1 (j' := 9) (lv' := [(4, yi (j + 1)), (7, yi 0), (6, yi (least (tabAt k (i - 1) (j - 1)) ((least (tabAt k (i - 1) j) (tabAt k i (j - 1))) + (S 3)))), (5, yi ((least (tabAt k (i - 1) j) (tabAt k i (j - 1))) + (S 3))), (0, .ref 63), (1, yi b), (2, yi u), (3, yi i)]) (st' := []) (hp' := H28) rfl ?_
                        exact Ev_le (xle_s rfl rfl (xle_s rfl rfl (xle_s rfl rfl (xle_s rfl rfl (xle_s rfl rfl (xle_z _ rfl)))))) (ih9 _ (by omega) (j + 1) (up k ((20 * i) + j) 100000000) H28 (by omega) (fun x y x1 x2 y1 y2 => by
        rw [up_ne _ _ (by omega)]
        exact K2 x y x1 x2 y1 y2) (fun y y1 y2 => by
        by_cases e0 : y = j
        · subst e0
          rw [up_self, fw_in (by omega)]
          unfold fwf
          rw [← u1, ← u2, ← u3]
          first
            | (rw [if_pos (by omega : i = 0 ∧ y = 0)]; first | (rw [if_pos (by omega)]; done) | (rw [if_neg (by omega)]; done))
            | (rw [if_neg (by omega : ¬ (i = 0 ∧ y = 0))]; first | (rw [if_pos (by omega)]; done) | (rw [if_neg (by omega)]; done))
        · rw [up_ne _ _ (by omega)]
          exact K3 y y1 (by omega)) e29 (yfr.tr fr9 f30 (fun _ h => h) (by decide)) rfl)
                      · exfalso; omega
                    ·
                      refine E_run hk 4 (j' := 63) (lv' := [(7, yi 1), (6, yi (least (tabAt k (i - 1) (j - 1)) ((least (tabAt k (i - 1) j) (tabAt k i (j - 1))) + (S 3)))), (5, yi ((least (tabAt k (i - 1) j) (tabAt k i (j - 1))) + (S 3))), (0, .ref 63), (1, yi b), (2, yi u), (3, yi i), (4, yi j)]) (st' := [.ref 63]) (hp' := hl9) rfl ?_
                      refine E_get (v := .ref 70) hk rfl (fr9.at (by decide) (fr2.at (by decide) hM)) rfl ?_
                      refine E_run hk 2 (j' := 66) (lv' := [(7, yi 1), (6, yi (least (tabAt k (i - 1) (j - 1)) ((least (tabAt k (i - 1) j) (tabAt k i (j - 1))) + (S 3)))), (5, yi ((least (tabAt k (i - 1) j) (tabAt k i (j - 1))) + (S 3))), (0, .ref 63), (1, yi b), (2, yi u), (3, yi i), (4, yi j)]) (st' := [yi i, yi 20, .ref 70]) (hp' := hl9) rfl ?_
                      refine Y_imul (a := 20) (b := i) hk rfl ?_
                      refine E_run hk 1 (j' := 68) (lv' := [(7, yi 1), (6, yi (least (tabAt k (i - 1) (j - 1)) ((least (tabAt k (i - 1) j) (tabAt k i (j - 1))) + (S 3)))), (5, yi ((least (tabAt k (i - 1) j) (tabAt k i (j - 1))) + (S 3))), (0, .ref 63), (1, yi b), (2, yi u), (3, yi i), (4, yi j)]) (st' := [yi j, yi (20 * i), .ref 70]) (hp' := hl9) rfl ?_
                      refine Y_iadd (a := (20 * i)) (b := j) hk rfl ?_
                      refine E_run hk 1 (j' := 70) (lv' := [(7, yi 1), (6, yi (least (tabAt k (i - 1) (j - 1)) ((least (tabAt k (i - 1) j) (tabAt k i (j - 1))) + (S 3)))), (5, yi ((least (tabAt k (i - 1) j) (tabAt k i (j - 1))) + (S 3))), (0, .ref 63), (1, yi b), (2, yi u), (3, yi i), (4, yi j)]) (st' := [yi 1, yi ((20 * i) + j), .ref 70]) (hp' := hl9) rfl ?_
                      refine Y_if_eq (a := 1) (by omega) hk rfl (fun g31 => ?_) (fun g31 => ?_)
                      · exfalso; omega
                      ·
                        refine E_run hk 5 (j' := 76) (lv' := [(7, yi 1), (6, yi (least (tabAt k (i - 1) (j - 1)) ((least (tabAt k (i - 1) j) (tabAt k i (j - 1))) + (S 3)))), (5, yi ((least (tabAt k (i - 1) j) (tabAt k i (j - 1))) + (S 3))), (0, .ref 63), (1, yi b), (2, yi u), (3, yi i), (4, yi j)]) (st' := [yi b, yi j, yi i, .ref 63, yi (least (tabAt k (i - 1) (j - 1)) ((least (tabAt k (i - 1) j) (tabAt k i (j - 1))) + (S 3))), yi ((20 * i) + j), .ref 70]) (hp' := hl9) rfl ?_
                        refine Y_callP hk rfl (as := [.ref 63, yi i, yi j, yi b]) (rest := [yi (least (tabAt k (i - 1) (j - 1)) ((least (tabAt k (i - 1) j) (tabAt k i (j - 1))) + (S 3))), yi ((20 * i) + j), .ref 70]) (v := some (yi (unl S b i j))) rfl rfl (Nat.le_of_ble_eq_true rfl) (rcv0 (fr9.at (by decide) (fr2.at (by decide) hM))) (Nat.le_of_ble_eq_true rfl) (c_X9_unlikeBy (i := i) (j := j) (b := b) (v := v) (fr9.at (by decide) (fr2.at (by decide) hM)) (fr9.at (by decide) (fr2.at (by decide) hS)) hz h0 h1 (by omega) (by omega) (hd := by omega)) ?_
                        refine Y_iadd (a := (least (tabAt k (i - 1) (j - 1)) ((least (tabAt k (i - 1) j) (tabAt k i (j - 1))) + (S 3)))) (b := (unl S b i j)) hk rfl ?_
                        refine E_run hk 1 (j' := 80) (lv' := [(7, yi 1), (6, yi (least (tabAt k (i - 1) (j - 1)) ((least (tabAt k (i - 1) j) (tabAt k i (j - 1))) + (S 3)))), (5, yi ((least (tabAt k (i - 1) j) (tabAt k i (j - 1))) + (S 3))), (0, .ref 63), (1, yi b), (2, yi u), (3, yi i), (4, yi j)]) (st' := [yi ((least (tabAt k (i - 1) (j - 1)) ((least (tabAt k (i - 1) j) (tabAt k i (j - 1))) + (S 3))) + (unl S b i j)), yi ((20 * i) + j), .ref 70]) (hp' := hl9) rfl ?_
                        refine Y_iast (a := ((20 * i) + j)) (x := ((least (tabAt k (i - 1) (j - 1)) ((least (tabAt k (i - 1) j) (tabAt k i (j - 1))) + (S 3))) + (unl S b i j))) (by omega) (by decide) (by decide) hk rfl ec9_70 (fun H32 e33 f34 => ?_)
                        refine Y_iinc (a := j) (z := 1) hk rfl rfl rfl (by decide) (lv' := [(4, yi (j + 1)), (7, yi 1), (6, yi (least (tabAt k (i - 1) (j - 1)) ((least (tabAt k (i - 1) j) (tabAt k i (j - 1))) + (S 3)))), (5, yi ((least (tabAt k (i - 1) j) (tabAt k i (j - 1))) + (S 3))), (0, .ref 63), (1, yi b), (2, yi u), (3, yi i)]) rfl ?_
                        refine E_run hk 1 (j' := 9) (lv' := [(4, yi (j + 1)), (7, yi 1), (6, yi (least (tabAt k (i - 1) (j - 1)) ((least (tabAt k (i - 1) j) (tabAt k i (j - 1))) + (S 3)))), (5, yi ((least (tabAt k (i - 1) j) (tabAt k i (j - 1))) + (S 3))), (0, .ref 63), (1, yi b), (2, yi u), (3, yi i)]) (st' := []) (hp' := H32) rfl ?_
                        exact Ev_le (xle_s rfl rfl (xle_s rfl rfl (xle_s rfl rfl (xle_s rfl rfl (xle_s rfl rfl (xle_z _ rfl)))))) (ih9 _ (by omega) (j + 1) (up k ((20 * i) + j) ((least (tabAt k (i - 1) (j - 1)) ((least (tabAt k (i - 1) j) (tabAt k i (j - 1))) + (S 3))) + (unl S b i j))) H32 (by omega) (fun x y x1 x2 y1 y2 => by
        rw [up_ne _ _ (by omega)]
        exact K2 x y x1 x2 y1 y2) (fun y y1 y2 => by
        by_cases e0 : y = j
        · subst e0
          rw [up_self, fw_in (by omega)]
          unfold fwf
          rw [← u1, ← u2, ← u3]
          first
            | (rw [if_pos (by omega : i = 0 ∧ y = 0)]; first | (rw [if_pos (by omega)]; done) | (rw [if_neg (by omega)]; done))
            | (rw [if_neg (by omega : ¬ (i = 0 ∧ y = 0))]; first | (rw [if_pos (by omega)]; done) | (rw [if_neg (by omega)]; done))
        · rw [up_ne _ _ (by omega)]
          exact K3 y y1 (by omega)) e33 (yfr.tr fr9 f34 (fun _ h => h) (by decide)) rfl)
                ·
                  refine E_run hk 6 (j' := 53) (lv' := [(6, yi 0), (5, yi ((least (tabAt k (i - 1) j) (tabAt k i (j - 1))) + (S 3))), (0, .ref 63), (1, yi b), (2, yi u), (3, yi i), (4, yi j)]) (st' := [yi u, yi j, yi i]) (hp' := hl9) rfl ?_
                  refine Y_callP hk rfl (as := [yi i, yi j, yi u]) (rest := []) (v := some (yi (b2 (-u ≤ i - j ∧ i - j ≤ u)))) rfl rfl (Nat.le_of_ble_eq_true rfl) rfl (Nat.le_of_ble_eq_true rfl) (c_X9_isNear (i := i) (j := j) (b := u) (by omega) (hd := by omega)) ?_
                  refine Y_b_eq hk rfl (fun g35 => ?_) (fun g35 => ?_)
                  ·
                    refine E_run hk 3 (j' := 63) (lv' := [(7, yi 0), (6, yi 0), (5, yi ((least (tabAt k (i - 1) j) (tabAt k i (j - 1))) + (S 3))), (0, .ref 63), (1, yi b), (2, yi u), (3, yi i), (4, yi j)]) (st' := [.ref 63]) (hp' := hl9) rfl ?_
                    refine E_get (v := .ref 70) hk rfl (fr9.at (by decide) (fr2.at (by decide) hM)) rfl ?_
                    refine E_run hk 2 (j' := 66) (lv' := [(7, yi 0), (6, yi 0), (5, yi ((least (tabAt k (i - 1) j) (tabAt k i (j - 1))) + (S 3))), (0, .ref 63), (1, yi b), (2, yi u), (3, yi i), (4, yi j)]) (st' := [yi i, yi 20, .ref 70]) (hp' := hl9) rfl ?_
                    refine Y_imul (a := 20) (b := i) hk rfl ?_
                    refine E_run hk 1 (j' := 68) (lv' := [(7, yi 0), (6, yi 0), (5, yi ((least (tabAt k (i - 1) j) (tabAt k i (j - 1))) + (S 3))), (0, .ref 63), (1, yi b), (2, yi u), (3, yi i), (4, yi j)]) (st' := [yi j, yi (20 * i), .ref 70]) (hp' := hl9) rfl ?_
                    refine Y_iadd (a := (20 * i)) (b := j) hk rfl ?_
                    refine E_run hk 1 (j' := 70) (lv' := [(7, yi 0), (6, yi 0), (5, yi ((least (tabAt k (i - 1) j) (tabAt k i (j - 1))) + (S 3))), (0, .ref 63), (1, yi b), (2, yi u), (3, yi i), (4, yi j)]) (st' := [yi 0, yi ((20 * i) + j), .ref 70]) (hp' := hl9) rfl ?_
                    refine Y_if_eq (a := 0) (by omega) hk rfl (fun g36 => ?_) (fun g36 => ?_)
                    ·
                      refine E_run hk 1 (j' := 80) (lv' := [(7, yi 0), (6, yi 0), (5, yi ((least (tabAt k (i - 1) j) (tabAt k i (j - 1))) + (S 3))), (0, .ref 63), (1, yi b), (2, yi u), (3, yi i), (4, yi j)]) (st' := [yi 100000000, yi ((20 * i) + j), .ref 70]) (hp' := hl9) rfl ?_
                      refine Y_iast (a := ((20 * i) + j)) (x := 100000000) (by omega) (by decide) (by decide) hk rfl ec9_70 (fun H37 e38 f39 => ?_)
                      refine Y_iinc (a := j) (z := 1) hk rfl rfl rfl (by decide) (lv' := [(4, yi (j + 1)), (7, yi 0), (6, yi 0), (5, yi ((least (tabAt k (i - 1) j) (tabAt k i (j - 1))) + (S 3))), (0, .ref 63), (1, yi b), (2, yi u), (3, yi i)]) rfl ?_
                      refine E_run hk 1 (j' := 9) (lv' := [(4, yi (j + 1)), (7, yi 0), (6, yi 0), (5, yi ((least (tabAt k (i - 1) j) (tabAt k i (j - 1))) + (S 3))), (0, .ref 63), (1, yi b), (2, yi u), (3, yi i)]) (st' := []) (hp' := H37) rfl ?_
                      exact Ev_le (xle_s rfl rfl (xle_s rfl rfl (xle_s rfl rfl (xle_s rfl rfl (xle_s rfl rfl (xle_z _ rfl)))))) (ih9 _ (by omega) (j + 1) (up k ((20 * i) + j) 100000000) H37 (by omega) (fun x y x1 x2 y1 y2 => by
        rw [up_ne _ _ (by omega)]
        exact K2 x y x1 x2 y1 y2) (fun y y1 y2 => by
        by_cases e0 : y = j
        · subst e0
          rw [up_self, fw_in (by omega)]
          unfold fwf
          rw [← u1, ← u2, ← u3]
          first
            | (rw [if_pos (by omega : i = 0 ∧ y = 0)]; first | (rw [if_pos (by omega)]; done) | (rw [if_neg (by omega)]; done))
            | (rw [if_neg (by omega : ¬ (i = 0 ∧ y = 0))]; first | (rw [if_pos (by omega)]; done) | (rw [if_neg (by omega)]; done))
        · rw [up_ne _ _ (by omega)]
          exact K3 y y1 (by omega)) e38 (yfr.tr fr9 f39 (fun _ h => h) (by decide)) rfl)
                    · exfalso; omega
                  ·
                    refine E_run hk 2 (j' := 57) (lv' := [(6, yi 0), (5, yi ((least (tabAt k (i - 1) j) (tabAt k i (j - 1))) + (S 3))), (0, .ref 63), (1, yi b), (2, yi u), (3, yi i), (4, yi j)]) (st' := [yi 100000000, yi 0]) (hp' := hl9) rfl ?_
                    refine Y_ic_ge (a := 0) (b := 100000000) (by omega) hk rfl (fun g40 => ?_) (fun g40 => ?_)
                    · exfalso; omega
                    ·
                      refine E_run hk 4 (j' := 63) (lv' := [(7, yi 1), (6, yi 0), (5, yi ((least (tabAt k (i - 1) j) (tabAt k i (j - 1))) + (S 3))), (0, .ref 63), (1, yi b), (2, yi u), (3, yi i), (4, yi j)]) (st' := [.ref 63]) (hp' := hl9) rfl ?_
                      refine E_get (v := .ref 70) hk rfl (fr9.at (by decide) (fr2.at (by decide) hM)) rfl ?_
                      refine E_run hk 2 (j' := 66) (lv' := [(7, yi 1), (6, yi 0), (5, yi ((least (tabAt k (i - 1) j) (tabAt k i (j - 1))) + (S 3))), (0, .ref 63), (1, yi b), (2, yi u), (3, yi i), (4, yi j)]) (st' := [yi i, yi 20, .ref 70]) (hp' := hl9) rfl ?_
                      refine Y_imul (a := 20) (b := i) hk rfl ?_
                      refine E_run hk 1 (j' := 68) (lv' := [(7, yi 1), (6, yi 0), (5, yi ((least (tabAt k (i - 1) j) (tabAt k i (j - 1))) + (S 3))), (0, .ref 63), (1, yi b), (2, yi u), (3, yi i), (4, yi j)]) (st' := [yi j, yi (20 * i), .ref 70]) (hp' := hl9) rfl ?_
                      refine Y_iadd (a := (20 * i)) (b := j) hk rfl ?_
                      refine E_run hk 1 (j' := 70) (lv' := [(7, yi 1), (6, yi 0), (5, yi ((least (tabAt k (i - 1) j) (tabAt k i (j - 1))) + (S 3))), (0, .ref 63), (1, yi b), (2, yi u), (3, yi i), (4, yi j)]) (st' := [yi 1, yi ((20 * i) + j), .ref 70]) (hp' := hl9) rfl ?_
                      refine Y_if_eq (a := 1) (by omega) hk rfl (fun g41 => ?_) (fun g41 => ?_)
                      · exfalso; omega
                      ·
                        refine E_run hk 5 (j' := 76) (lv' := [(7, yi 1), (6, yi 0), (5, yi ((least (tabAt k (i - 1) j) (tabAt k i (j - 1))) + (S 3))), (0, .ref 63), (1, yi b), (2, yi u), (3, yi i), (4, yi j)]) (st' := [yi b, yi j, yi i, .ref 63, yi 0, yi ((20 * i) + j), .ref 70]) (hp' := hl9) rfl ?_
                        refine Y_callP hk rfl (as := [.ref 63, yi i, yi j, yi b]) (rest := [yi 0, yi ((20 * i) + j), .ref 70]) (v := some (yi (unl S b i j))) rfl rfl (Nat.le_of_ble_eq_true rfl) (rcv0 (fr9.at (by decide) (fr2.at (by decide) hM))) (Nat.le_of_ble_eq_true rfl) (c_X9_unlikeBy (i := i) (j := j) (b := b) (v := v) (fr9.at (by decide) (fr2.at (by decide) hM)) (fr9.at (by decide) (fr2.at (by decide) hS)) hz h0 h1 (by omega) (by omega) (hd := by omega)) ?_
                        refine Y_iadd (a := 0) (b := (unl S b i j)) hk rfl ?_
                        refine E_run hk 1 (j' := 80) (lv' := [(7, yi 1), (6, yi 0), (5, yi ((least (tabAt k (i - 1) j) (tabAt k i (j - 1))) + (S 3))), (0, .ref 63), (1, yi b), (2, yi u), (3, yi i), (4, yi j)]) (st' := [yi (0 + (unl S b i j)), yi ((20 * i) + j), .ref 70]) (hp' := hl9) rfl ?_
                        refine Y_iast (a := ((20 * i) + j)) (x := (0 + (unl S b i j))) (by omega) (by decide) (by decide) hk rfl ec9_70 (fun H42 e43 f44 => ?_)
                        refine Y_iinc (a := j) (z := 1) hk rfl rfl rfl (by decide) (lv' := [(4, yi (j + 1)), (7, yi 1), (6, yi 0), (5, yi ((least (tabAt k (i - 1) j) (tabAt k i (j - 1))) + (S 3))), (0, .ref 63), (1, yi b), (2, yi u), (3, yi i)]) rfl ?_
                        refine E_run hk 1 (j' := 9) (lv' := [(4, yi (j + 1)), (7, yi 1), (6, yi 0), (5, yi ((least (tabAt k (i - 1) j) (tabAt k i (j - 1))) + (S 3))), (0, .ref 63), (1, yi b), (2, yi u), (3, yi i)]) (st' := []) (hp' := H42) rfl ?_
                        exact Ev_le (xle_s rfl rfl (xle_s rfl rfl (xle_s rfl rfl (xle_s rfl rfl (xle_s rfl rfl (xle_z _ rfl)))))) (ih9 _ (by omega) (j + 1) (up k ((20 * i) + j) (0 + (unl S b i j))) H42 (by omega) (fun x y x1 x2 y1 y2 => by
        rw [up_ne _ _ (by omega)]
        exact K2 x y x1 x2 y1 y2) (fun y y1 y2 => by
        by_cases e0 : y = j
        · subst e0
          rw [up_self, fw_in (by omega)]
          unfold fwf
          rw [← u1, ← u2, ← u3]
          first
            | (rw [if_pos (by omega : i = 0 ∧ y = 0)]; first | (rw [if_pos (by omega)]; done) | (rw [if_neg (by omega)]; done))
            | (rw [if_neg (by omega : ¬ (i = 0 ∧ y = 0))]; first | (rw [if_pos (by omega)]; done) | (rw [if_neg (by omega)]; done))
        · rw [up_ne _ _ (by omega)]
          exact K3 y y1 (by omega)) e43 (yfr.tr fr9 f44 (fun _ h => h) (by decide)) rfl)
        exact Ev_le (xle_s rfl rfl (xle_s rfl rfl (xle_s rfl rfl (xle_s rfl rfl (xle_s rfl rfl (xle_z _ rfl)))))) (loop9 _ 0 g hl2 (by omega) (J2) (fun y q1 q2 => absurd q1 (by omega)) ec2_70 (yfr.refl _ _) rfl)
  exact Ev_le (xle_s rfl rfl (xle_s rfl rfl (xle_s rfl rfl (xle_s rfl rfl (xle_z _ rfl))))) (loop2 _ 0 f hp (by omega) (fun x y q1 q2 => absurd q1 (by omega)) hA (yfr.refl _ _) rfl)
