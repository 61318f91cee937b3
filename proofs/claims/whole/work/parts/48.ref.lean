/-- the next pair of the first best match -/
def stp (D : Int → Int → Int) (w b m n : Int) (p : Int × Int) : Int × Int :=
  if bw D w b m n (p.1 + 1) (p.2 + 1) = bw D w b m n p.1 p.2 - D p.1 p.2 then (p.1 + 1, p.2 + 1) else
    if bw D w b m n (p.1 + 1) p.2 + w = bw D w b m n p.1 p.2 - D p.1 p.2 then (p.1 + 1, p.2) else (p.1, p.2 + 1)
def pth (D : Int → Int → Int) (w b m n : Int) : Nat → Int × Int
  | 0 => (0, 0)
  | k + 1 => stp D w b m n (pth D w b m n k)
theorem bw_fin {D : Int → Int → Int} {w b m n : Int} (hw : 0 ≤ w ∧ w ≤ 50) (hm : m ≤ 20 ∧ n ≤ 20) (hD : ∀ i j, 0 ≤ i → i < m → 0 ≤ j → j < n → 0 ≤ D i j ∧ D i j ≤ 5184) (hn : -b ≤ m - n ∧ m - n ≤ b) : ∀ (N : Nat) (i j : Int), 0 ≤ i → 0 ≤ j → i < m → j < n → -b ≤ i - j → i - j ≤ b → (m - i).toNat + (n - j).toNat = N → bw D w b m n i j < 100000000 := by
  intro N
  induction N using Nat.strongRecOn with
  | ind N ih =>
    intro i j hi hj hi2 hj2 hb1 hb2 hN
    have hd := hD i j hi (by omega) hj (by omega)
    have a1 := bw_rng (b := b) hw hD _ (i + 1) (j + 1) (by omega) (by omega) rfl
    have a2 := bw_rng (b := b) hw hD _ (i + 1) j (by omega) (by omega) rfl
    have a3 := bw_rng (b := b) hw hD _ i (j + 1) (by omega) (by omega) rfl
    have b1 := least_rng (bw D w b m n (i + 1) j) (bw D w b m n i (j + 1))
    have b2 := least_rng (bw D w b m n (i + 1) (j + 1)) (least (bw D w b m n (i + 1) j) (bw D w b m n i (j + 1)) + w)
    have key : bwt D w b m n i j ≤ 300000 := by
      unfold bwt
      by_cases e0 : i = m - 1 ∧ j = n - 1
      · rw [if_pos e0]
        decide
      · rw [if_neg e0]
        by_cases e1 : i < m - 1
        · by_cases e2 : j < n - 1
          · have h := ih _ (by omega) (i + 1) (j + 1) (by omega) (by omega) (by omega) (by omega) (by omega) (by omega) rfl
            omega
          · have h := ih _ (by omega) (i + 1) j (by omega) (by omega) (by omega) (by omega) (by omega) (by omega) rfl
            omega
        · have h := ih _ (by omega) i (j + 1) (by omega) (by omega) (by omega) (by omega) (by omega) (by omega) rfl
          omega
    have r := bw_rng (b := b) hw hD _ i j hi hj rfl
    rw [bw_in ⟨hi2, hj2⟩, if_pos ⟨hb1, hb2, by omega⟩] at r ⊢
    omega
theorem stp_ok {D : Int → Int → Int} {w b m n i j : Int} (hw : 0 ≤ w ∧ w ≤ 50) (hm : m ≤ 20 ∧ n ≤ 20) (hD : ∀ i j, 0 ≤ i → i < m → 0 ≤ j → j < n → 0 ≤ D i j ∧ D i j ≤ 5184) (h : 0 ≤ i ∧ 0 ≤ j ∧ i < m ∧ j < n) (hl : ¬ (i = m - 1 ∧ j = n - 1)) (hf : bw D w b m n i j < 100000000) :
    (bw D w b m n (i + 1) (j + 1) = bw D w b m n i j - D i j → i + 1 < m ∧ j + 1 < n ∧ bw D w b m n (i + 1) (j + 1) < 100000000) ∧
    (bw D w b m n (i + 1) j + w = bw D w b m n i j - D i j → i + 1 < m ∧ bw D w b m n (i + 1) j < 100000000) ∧
    (¬ bw D w b m n (i + 1) (j + 1) = bw D w b m n i j - D i j → ¬ bw D w b m n (i + 1) j + w = bw D w b m n i j - D i j → j + 1 < n ∧ bw D w b m n i (j + 1) < 100000000) := by
  have hd := hD i j h.1 h.2.2.1 h.2.1 h.2.2.2
  have a1 := bw_rng (b := b) hw hD _ (i + 1) (j + 1) (by omega) (by omega) rfl
  have a2 := bw_rng (b := b) hw hD _ (i + 1) j (by omega) (by omega) rfl
  have a3 := bw_rng (b := b) hw hD _ i (j + 1) (by omega) (by omega) rfl
  have b1 := least_rng (bw D w b m n (i + 1) j) (bw D w b m n i (j + 1))
  have b2 := least_rng (bw D w b m n (i + 1) (j + 1)) (least (bw D w b m n (i + 1) j) (bw D w b m n i (j + 1)) + w)
  have e := bw_in (D := D) (w := w) (b := b) (m := m) (n := n) (i := i) (j := j) ⟨h.2.2.1, h.2.2.2⟩
  have t : bwt D w b m n i j = least (bw D w b m n (i + 1) (j + 1)) (least (bw D w b m n (i + 1) j) (bw D w b m n i (j + 1)) + w) := if_neg hl
  have r : bw D w b m n i j = bwt D w b m n i j + D i j ∧ bwt D w b m n i j < 100000000 := by
    split at e
    · rename_i g
      exact ⟨e, g.2.2⟩
    · omega
  rw [t] at r
  refine ⟨fun g => ?_, fun g => ?_, fun g g2 => ?_⟩ <;> omega
def mat (S : Int → Int) : Prop := 0 < S 0 ∧ 0 < S 1 ∧ -S 2 ≤ S 0 - S 1 ∧ S 0 - S 1 ≤ S 2
abbrev spt (S : Int → Int) (k : Nat) : Int × Int := pth (unl S 0) (S 3) (S 2) (S 0) (S 1) k
/-- the pairs of the first best match: c of them -/
def mtc (S : Int → Int) (c : Int) (p q : Int → Int) : Prop := (¬ mat S ∧ c = 0) ∨ (mat S ∧ 1 ≤ c ∧ c ≤ 39 ∧ spt S (c - 1).toNat = (S 0 - 1, S 1 - 1) ∧ ∀ x, 0 ≤ x → x < c → p x = (spt S x.toNat).1 ∧ q x = (spt S x.toNat).2 ∧ 0 ≤ p x ∧ p x < S 0 ∧ 0 ≤ q x ∧ q x < S 1)
theorem c_X9_addsPair {d : Nat} {hp : xH} {v : Nat → Int} (hM : xat hp 63 = some (yMo v)) {p q : Int → Int} (hp1 : xat hp 74 = some (yI 40 p)) (hp2 : xat hp 75 = some (yI 40 q)) {i j c : Int} (e0 : v 20 = c) (hc : 0 ≤ c ∧ c < 40) : Cv d 166 [.ref 63, yi i, yi j] hp (yR (none) (fun h => xat h 63 = some (yMo (vup v 20 (c + 1))) ∧ xat h 74 = some (yI 40 (up p c i)) ∧ xat h 75 = some (yI 40 (up q c j)) ∧ yfr [63, 74, 75] hp h)) := by
  have hk : xtab 166 = (xc_166, 3, 0, []) := rfl
  subst e0
  show Ev d 166 0 [(0, .ref 63), (1, yi i), (2, yi j)] [] hp _
  refine E_run hk 1 (j' := 1) (lv' := [(0, .ref 63), (1, yi i), (2, yi j)]) (st' := [.ref 63]) (hp' := hp) rfl ?_
  refine E_get (v := .ref 74) hk rfl hM rfl ?_
  refine E_run hk 1 (j' := 3) (lv' := [(0, .ref 63), (1, yi i), (2, yi j)]) (st' := [.ref 63, .ref 74]) (hp' := hp) rfl ?_
  refine E_get (v := yi (v 20)) hk rfl hM rfl ?_
  refine E_run hk 1 (j' := 5) (lv' := [(0, .ref 63), (1, yi i), (2, yi j)]) (st' := [yi i, yi (v 20), .ref 74]) (hp' := hp) rfl ?_
  refine Y_iast (a := (v 20)) (x := i) (by omega) (by decide) (by decide) hk rfl hp1 (fun H1 e2 f3 => ?_)
  refine E_run hk 1 (j' := 7) (lv' := [(0, .ref 63), (1, yi i), (2, yi j)]) (st' := [.ref 63]) (hp' := H1) rfl ?_
  refine E_get (v := .ref 75) hk rfl (f3.at (by decide) hM) rfl ?_
  refine E_run hk 1 (j' := 9) (lv' := [(0, .ref 63), (1, yi i), (2, yi j)]) (st' := [.ref 63, .ref 75]) (hp' := H1) rfl ?_
  refine E_get (v := yi (v 20)) hk rfl (f3.at (by decide) hM) rfl ?_
  refine E_run hk 1 (j' := 11) (lv' := [(0, .ref 63), (1, yi i), (2, yi j)]) (st' := [yi j, yi (v 20), .ref 75]) (hp' := H1) rfl ?_
  refine Y_iast (a := (v 20)) (x := j) (by omega) (by decide) (by decide) hk rfl (f3.at (by decide) hp2) (fun H4 e5 f6 => ?_)
  refine E_run hk 2 (j' := 14) (lv' := [(0, .ref 63), (1, yi i), (2, yi j)]) (st' := [.ref 63, .ref 63]) (hp' := H4) rfl ?_
  refine E_get (v := yi (v 20)) hk rfl (f6.at (by decide) (f3.at (by decide) hM)) rfl ?_
  refine E_run hk 1 (j' := 16) (lv' := [(0, .ref 63), (1, yi i), (2, yi j)]) (st' := [yi 1, yi (v 20), .ref 63]) (hp' := H4) rfl ?_
  refine Y_iadd (a := (v 20)) (b := 1) hk rfl ?_
  refine Y_put hk rfl (f6.at (by decide) (f3.at (by decide) hM)) (by decide) (Nat.le_of_ble_eq_true rfl) rfl (fs' := [yi (v 0), .ref 64, .ref 65, yi (v 3), .ref 66, yi (v 5), .ref 67, yi (v 7), yi (v 8), yi (v 9), .ref 68, yi (v 11), .ref 69, yi (v 13), .ref 70, .ref 71, .ref 72, .ref 73, .ref 74, .ref 75, yi ((v 20) + 1), yi (v 21)]) rfl (fun H7 e8 f9 => ?_)
  exact E_ret hk rfl rfl ⟨rfl, e8, (f9.at (by decide) (f6.at (by decide) e2)), (f9.at (by decide) e5), (yfr.tr (yfr.tr (f3.mono (by decide)) f6 (fun _ h => h) (by decide)) f9 (fun _ h => h) (by decide))⟩
theorem c_X9_tellsMatch {d : Nat} {hp : xH} {v : Nat → Int} (hM : xat hp 63 = some (yMo v)) {S : Int → Int} (hS : xat hp 64 = some (yI 47 S)) (hz : 0 ≤ S 0 ∧ S 0 ≤ 20 ∧ 0 ≤ S 1 ∧ S 1 ≤ 20 ∧ 0 ≤ S 2 ∧ S 2 ≤ 20 ∧ 0 ≤ S 3 ∧ S 3 ≤ 50 ∧ 0 ≤ S 4 ∧ S 4 ≤ 3) (h0 : ∀ q, 0 ≤ q → q < S 0 → 0 ≤ S (7 + q) ∧ S (7 + q) ≤ 60) (h1 : ∀ q, 0 ≤ q → q < S 1 → 0 ≤ S (27 + q) ∧ S (27 + q) ≤ 60) {f W : Int → Int} (hA : xat hp 71 = some (yI 400 f)) (hW : xat hp 72 = some (yI 400 W)) {p q : Int → Int} (hp1 : xat hp 74 = some (yI 40 p)) (hp2 : xat hp 75 = some (yI 40 q)) (hd : 4 ≤ d) : Cv d 167 [.ref 63] hp (yR (none) (fun h => ∃ c g w p q, xat h 63 = some (yMo (vup v 20 c)) ∧ xat h 71 = some (yI 400 g) ∧ xat h 72 = some (yI 400 w) ∧ xat h 74 = some (yI 40 p) ∧ xat h 75 = some (yI 40 q) ∧ mtc S c p q ∧ yfr [63, 71, 72, 74, 75] hp h)) := by
  have hk : xtab 167 = (xc_167, 6, 0, []) := rfl
  obtain ⟨d, rfl⟩ : ∃ e, d = e + 1 := ⟨d - 1, by omega⟩
  have hD : ∀ i j, 0 ≤ i → i < S 0 → 0 ≤ j → j < S 1 → 0 ≤ unl S 0 i j ∧ unl S 0 i j ≤ 5184 := fun i j a1 a2 a3 a4 => unl_rng hz h0 h1 (by omega) a1 a2 a3 a4
  show Ev (d + 1) 167 0 [(0, .ref 63)] [] hp _
  refine E_run hk 2 (j' := 2) (lv' := [(0, .ref 63)]) (st' := [yi 0, .ref 63]) (hp' := hp) rfl ?_
  refine Y_put hk rfl hM (by decide) (Nat.le_of_ble_eq_true rfl) rfl (fs' := [yi (v 0), .ref 64, .ref 65, yi (v 3), .ref 66, yi (v 5), .ref 67, yi (v 7), yi (v 8), yi (v 9), .ref 68, yi (v 11), .ref 69, yi (v 13), .ref 70, .ref 71, .ref 72, .ref 73, .ref 74, .ref 75, yi 0, yi (v 21)]) rfl (fun H1 e2 f3 => ?_)
  refine E_run hk 1 (j' := 4) (lv' := [(0, .ref 63)]) (st' := [.ref 63]) (hp' := H1) rfl ?_
  refine Y_callP hk rfl (as := [.ref 63]) (rest := []) (v := some (yi (b2 (0 < S 0 ∧ 0 < S 1 ∧ -S 2 ≤ S 0 - S 1 ∧ S 0 - S 1 ≤ S 2)))) rfl rfl (Nat.le_of_ble_eq_true rfl) (rcv0 e2) (Nat.le_of_ble_eq_true rfl) (c_X9_matches (v := (vup v 20 0)) e2 (f3.at (by decide) hS) (by omega) (by omega) (hd := by omega)) ?_
  refine Y_b_eq hk rfl (fun g4 => ?_) (fun g4 => ?_)
  ·
    exact E_ret hk rfl rfl ⟨rfl, 0, _, _, _, _, e2, (f3.at (by decide) hA), (f3.at (by decide) hW), (f3.at (by decide) hp1), (f3.at (by decide) hp2), Or.inl ⟨by unfold mat; omega, rfl⟩, (f3.mono (by decide))⟩
  ·
    have hma : mat S := by unfold mat; omega
    refine E_run hk 1 (j' := 7) (lv' := [(0, .ref 63)]) (st' := [.ref 63]) (hp' := H1) rfl ?_
    refine Y_call hk rfl (as := [.ref 63]) (rest := []) (v := none) rfl rfl (Nat.le_of_ble_eq_true rfl) (rcv0 e2) (Nat.le_of_ble_eq_true rfl) (c_X9_tellsBehind (v := (vup v 20 0)) e2 (f3.at (by decide) hS) hz h0 h1 (f3.at (by decide) hA) (f3.at (by decide) hW) (hd := by omega)) (fun H5 r6 => ?_)
    obtain ⟨A_H5, W_H5, e_H5, w_H5, a_H5, f_H5⟩ := r6
    refine E_run hk 7 (j' := 15) (lv' := [(2, yi 0), (1, yi 0), (0, .ref 63)]) (st' := [yi 0, yi 0, .ref 63]) (hp' := H5) rfl ?_
    refine Y_call hk rfl (as := [.ref 63, yi 0, yi 0]) (rest := []) (v := none) rfl rfl (Nat.le_of_ble_eq_true rfl) (rcv0 (f_H5.at (by decide) e2)) (Nat.le_of_ble_eq_true rfl) (c_X9_addsPair (i := 0) (j := 0) (v := (vup v 20 0)) (f_H5.at (by decide) e2) (f_H5.at (by decide) (f3.at (by decide) hp1)) (f_H5.at (by decide) (f3.at (by decide) hp2)) (c := 0) rfl (by omega)) (fun H7 r8 => ?_)
    obtain ⟨e_H7, p_H7, q_H7, f_H7⟩ := r8
    have loop16 : ∀ (N : Nat) (i : Int) (j : Int) (c : Int) (p2 : Int → Int) (q2 : Int → Int) (hl16 : xH), (0 ≤ i ∧ i < S 0 ∧ 0 ≤ j ∧ j < S 1) → (1 ≤ c ∧ c ≤ i + j + 1) → ((spt S (c - 1).toNat).1 = i ∧ (spt S (c - 1).toNat).2 = j) → (∀ x, 0 ≤ x → x < c → p2 x = (spt S x.toNat).1 ∧ q2 x = (spt S x.toNat).2 ∧ 0 ≤ p2 x ∧ p2 x < S 0 ∧ 0 ≤ q2 x ∧ q2 x < S 1) → (bw (unl S 0) (S 3) (S 2) (S 0) (S 1) i j < 100000000) → (xat hl16 63 = some (yMo (vup v 20 c))) → (xat hl16 74 = some (yI 40 p2)) → (xat hl16 75 = some (yI 40 q2)) → (yfr [63, 74, 75] H7 hl16) → (S 0 - i + S 1 - j).toNat = N → Ev (d + 1) 167 16 [(0, .ref 63), (1, yi i), (2, yi j)] [] hl16 (yR (none) (fun h => ∃ c g w p q, xat h 63 = some (yMo (vup v 20 c)) ∧ xat h 71 = some (yI 400 g) ∧ xat h 72 = some (yI 400 w) ∧ xat h 74 = some (yI 40 p) ∧ xat h 75 = some (yI 40 q) ∧ mtc S c p q ∧ yfr [63, 71, 72, 74, 75] hp h)) := by
      intro N
      induction N using Nat.strongRecOn with
      | ind N ih16 =>
        intro i j c p2 q2 hl16 J1 J2 J3 J4 J5 ec16_63 ec16_74 ec16_75 fr16 hm16
        refine E_run hk 1 (j' := 17) (lv' := [(0, .ref 63), (1, yi i), (2, yi j)]) (st' := [yi i]) (hp' := hl16) rfl ?_
        refine E_run hk 2 (j' := 19) (lv' := [(0, .ref 63), (1, yi i), (2, yi j)]) (st' := [yi 0, .ref 63, yi i]) (hp' := hl16) rfl ?_
        refine Y_callP hk rfl (as := [.ref 63, yi 0]) (rest := [yi i]) (v := some (yi (S 0))) rfl rfl (Nat.le_of_ble_eq_true rfl) (rcv0 ec16_63) (Nat.le_of_ble_eq_true rfl) (c_X9_many (t := 0) (v := (vup v 20 c)) ec16_63 (fr16.at (by decide) (f_H7.at (by decide) (f_H5.at (by decide) (f3.at (by decide) hS)))) (by omega)) ?_
        refine E_run hk 1 (j' := 21) (lv' := [(0, .ref 63), (1, yi i), (2, yi j)]) (st' := [yi 1, yi (S 0), yi i]) (hp' := hl16) rfl ?_
        refine Y_isub (a := (S 0)) (b := 1) hk rfl ?_
        refine Y_ic_lt (a := i) (b := ((S 0) - 1)) (by omega) hk rfl (fun g9 => ?_) (fun g9 => ?_)
        ·
          have u1 : behAt (S 0) (S 1) A_H5 (i + 1) j = bw (unl S 0) (S 3) (S 2) (S 0) (S 1) (i + 1) j := beh_bw (fun q1 q2 => (a_H5 _ _ (by omega) q1 (by omega) q2).1)
          have v1 := bw_rng (w := S 3) (b := S 2) (m := S 0) (n := S 1) (by omega) hD _ (i + 1) j (by omega) (by omega) rfl
          have u2 : behAt (S 0) (S 1) A_H5 i (j + 1) = bw (unl S 0) (S 3) (S 2) (S 0) (S 1) i (j + 1) := beh_bw (fun q1 q2 => (a_H5 _ _ (by omega) q1 (by omega) q2).1)
          have v2 := bw_rng (w := S 3) (b := S 2) (m := S 0) (n := S 1) (by omega) hD _ i (j + 1) (by omega) (by omega) rfl
          have u3 : behAt (S 0) (S 1) A_H5 (i + 1) (j + 1) = bw (unl S 0) (S 3) (S 2) (S 0) (S 1) (i + 1) (j + 1) := beh_bw (fun q1 q2 => (a_H5 _ _ (by omega) q1 (by omega) q2).1)
          have v3 := bw_rng (w := S 3) (b := S 2) (m := S 0) (n := S 1) (by omega) hD _ (i + 1) (j + 1) (by omega) (by omega) rfl
          have u4 : A_H5 (20 * i + j) = bw (unl S 0) (S 3) (S 2) (S 0) (S 1) i j := (a_H5 i j (by omega) (by omega) (by omega) (by omega)).1
          have v5 := bw_rng (w := S 3) (b := S 2) (m := S 0) (n := S 1) (by omega) hD _ i j (by omega) (by omega) rfl
          have v4 := hD i j (by omega) (by omega) (by omega) (by omega)
          have ok := stp_ok (w := S 3) (b := S 2) (m := S 0) (n := S 1) (i := i) (j := j) (by omega) (by omega) hD (by omega) (by omega) J5
          have sp : spt S c.toNat = stp (unl S 0) (S 3) (S 2) (S 0) (S 1) (i, j) := by rw [show c.toNat = (c - 1).toNat + 1 by omega, ← show spt S (c - 1).toNat = (i, j) from Prod.ext J3.1 J3.2]; rfl
          unfold stp at sp
          dsimp only at sp
          rw [← u1, ← u3, ← u4] at sp
          rw [← u1, ← u2, ← u3, ← u4] at ok
          rw [← u1] at v1
          rw [← u2] at v2
          rw [← u3] at v3
          rw [← u4] at v5 J5
          refine E_run hk 1 (j' := 31) (lv' := [(0, .ref 63), (1, yi i), (2, yi j)]) (st' := [.ref 63]) (hp' := hl16) rfl ?_
          refine E_get (v := .ref 71) hk rfl ec16_63 rfl ?_
          refine E_run hk 2 (j' := 34) (lv' := [(0, .ref 63), (1, yi i), (2, yi j)]) (st' := [yi i, yi 20, .ref 71]) (hp' := hl16) rfl ?_
          refine Y_imul (a := 20) (b := i) hk rfl ?_
          refine E_run hk 1 (j' := 36) (lv' := [(0, .ref 63), (1, yi i), (2, yi j)]) (st' := [yi j, yi (20 * i), .ref 71]) (hp' := hl16) rfl ?_
          refine Y_iadd (a := (20 * i)) (b := j) hk rfl ?_
          refine Y_iald (a := ((20 * i) + j)) (by omega) (by decide) hk rfl (fr16.at (by decide) (f_H7.at (by decide) e_H5)) ?_
          refine E_run hk 4 (j' := 42) (lv' := [(0, .ref 63), (1, yi i), (2, yi j)]) (st' := [yi 0, yi j, yi i, .ref 63, yi (A_H5 ((20 * i) + j))]) (hp' := hl16) rfl ?_
          refine Y_callP hk rfl (as := [.ref 63, yi i, yi j, yi 0]) (rest := [yi (A_H5 ((20 * i) + j))]) (v := some (yi (unl S 0 i j))) rfl rfl (Nat.le_of_ble_eq_true rfl) (rcv0 ec16_63) (Nat.le_of_ble_eq_true rfl) (c_X9_unlikeBy (i := i) (j := j) (b := 0) (v := (vup v 20 c)) ec16_63 (fr16.at (by decide) (f_H7.at (by decide) (f_H5.at (by decide) (f3.at (by decide) hS)))) hz h0 h1 (by omega) (by omega) (hd := by omega)) ?_
          refine Y_isub (a := (A_H5 ((20 * i) + j))) (b := (unl S 0 i j)) hk rfl ?_
          refine E_run hk 4 (j' := 48) (lv' := [(3, yi ((A_H5 ((20 * i) + j)) - (unl S 0 i j))), (0, .ref 63), (1, yi i), (2, yi j)]) (st' := [yi 1, yi i, .ref 63]) (hp' := hl16) rfl ?_
          refine Y_iadd (a := i) (b := 1) hk rfl ?_
          refine E_run hk 2 (j' := 51) (lv' := [(3, yi ((A_H5 ((20 * i) + j)) - (unl S 0 i j))), (0, .ref 63), (1, yi i), (2, yi j)]) (st' := [yi 1, yi j, yi (i + 1), .ref 63]) (hp' := hl16) rfl ?_
          refine Y_iadd (a := j) (b := 1) hk rfl ?_
          refine Y_callP hk rfl (as := [.ref 63, yi (i + 1), yi (j + 1)]) (rest := []) (v := some (yi (behAt (S 0) (S 1) A_H5 (i + 1) (j + 1)))) rfl rfl (Nat.le_of_ble_eq_true rfl) (rcv0 ec16_63) (Nat.le_of_ble_eq_true rfl) (c_X9_behindOf (i := (i + 1)) (j := (j + 1)) (v := (vup v 20 c)) ec16_63 (fr16.at (by decide) (f_H7.at (by decide) (f_H5.at (by decide) (f3.at (by decide) hS)))) (by omega) (fr16.at (by decide) (f_H7.at (by decide) e_H5)) (by omega) (hd := by omega)) ?_
          refine E_run hk 1 (j' := 54) (lv' := [(3, yi ((A_H5 ((20 * i) + j)) - (unl S 0 i j))), (0, .ref 63), (1, yi i), (2, yi j)]) (st' := [yi ((A_H5 ((20 * i) + j)) - (unl S 0 i j)), yi (behAt (S 0) (S 1) A_H5 (i + 1) (j + 1))]) (hp' := hl16) rfl ?_
          refine Y_ic_ne (a := (behAt (S 0) (S 1) A_H5 (i + 1) (j + 1))) (b := ((A_H5 ((20 * i) + j)) - (unl S 0 i j))) (by omega) hk rfl (fun g10 => ?_) (fun g10 => ?_)
          ·
            refine E_run hk 3 (j' := 60) (lv' := [(4, yi 0), (3, yi ((A_H5 ((20 * i) + j)) - (unl S 0 i j))), (0, .ref 63), (1, yi i), (2, yi j)]) (st' := [yi 0]) (hp' := hl16) rfl ?_
            refine Y_if_ne (a := 0) (by omega) hk rfl (fun g11 => ?_) (fun g11 => ?_)
            · exfalso; omega
            ·
              refine E_run hk 3 (j' := 64) (lv' := [(4, yi 0), (3, yi ((A_H5 ((20 * i) + j)) - (unl S 0 i j))), (0, .ref 63), (1, yi i), (2, yi j)]) (st' := [yi 1, yi i, .ref 63]) (hp' := hl16) rfl ?_
              refine Y_iadd (a := i) (b := 1) hk rfl ?_
              refine E_run hk 1 (j' := 66) (lv' := [(4, yi 0), (3, yi ((A_H5 ((20 * i) + j)) - (unl S 0 i j))), (0, .ref 63), (1, yi i), (2, yi j)]) (st' := [yi j, yi (i + 1), .ref 63]) (hp' := hl16) rfl ?_
              refine Y_callP hk rfl (as := [.ref 63, yi (i + 1), yi j]) (rest := []) (v := some (yi (behAt (S 0) (S 1) A_H5 (i + 1) j))) rfl rfl (Nat.le_of_ble_eq_true rfl) (rcv0 ec16_63) (Nat.le_of_ble_eq_true rfl) (c_X9_behindOf (i := (i + 1)) (j := j) (v := (vup v 20 c)) ec16_63 (fr16.at (by decide) (f_H7.at (by decide) (f_H5.at (by decide) (f3.at (by decide) hS)))) (by omega) (fr16.at (by decide) (f_H7.at (by decide) e_H5)) (by omega) (hd := by omega)) ?_
              refine E_run hk 1 (j' := 68) (lv' := [(4, yi 0), (3, yi ((A_H5 ((20 * i) + j)) - (unl S 0 i j))), (0, .ref 63), (1, yi i), (2, yi j)]) (st' := [.ref 63, yi (behAt (S 0) (S 1) A_H5 (i + 1) j)]) (hp' := hl16) rfl ?_
              refine E_get (v := .ref 64) hk rfl ec16_63 rfl ?_
              refine E_run hk 1 (j' := 70) (lv' := [(4, yi 0), (3, yi ((A_H5 ((20 * i) + j)) - (unl S 0 i j))), (0, .ref 63), (1, yi i), (2, yi j)]) (st' := [yi 3, .ref 64, yi (behAt (S 0) (S 1) A_H5 (i + 1) j)]) (hp' := hl16) rfl ?_
              refine Y_iald (a := 3) (by omega) (by decide) hk rfl (fr16.at (by decide) (f_H7.at (by decide) (f_H5.at (by decide) (f3.at (by decide) hS)))) ?_
              refine Y_iadd (a := (behAt (S 0) (S 1) A_H5 (i + 1) j)) (b := (S 3)) hk rfl ?_
              refine E_run hk 1 (j' := 73) (lv' := [(4, yi 0), (3, yi ((A_H5 ((20 * i) + j)) - (unl S 0 i j))), (0, .ref 63), (1, yi i), (2, yi j)]) (st' := [yi ((A_H5 ((20 * i) + j)) - (unl S 0 i j)), yi ((behAt (S 0) (S 1) A_H5 (i + 1) j) + (S 3))]) (hp' := hl16) rfl ?_
              refine Y_ic_ne (a := ((behAt (S 0) (S 1) A_H5 (i + 1) j) + (S 3))) (b := ((A_H5 ((20 * i) + j)) - (unl S 0 i j))) (by omega) hk rfl (fun g12 => ?_) (fun g12 => ?_)
              ·
                refine E_run hk 4 (j' := 80) (lv' := [(5, yi 0), (4, yi 0), (3, yi ((A_H5 ((20 * i) + j)) - (unl S 0 i j))), (0, .ref 63), (1, yi i), (2, yi j)]) (st' := [yi 0, yi i]) (hp' := hl16) rfl ?_
                refine Y_if_ne (a := 0) (by omega) hk rfl (fun g13 => ?_) (fun g13 => ?_)
                · exfalso; omega
                ·
                  refine E_run hk 1 (j' := 82) (lv' := [(5, yi 0), (4, yi 0), (3, yi ((A_H5 ((20 * i) + j)) - (unl S 0 i j))), (0, .ref 63), (1, yi i), (2, yi j)]) (st' := [yi 0, yi i]) (hp' := hl16) rfl ?_
                  refine Y_if_eq (a := 0) (by omega) hk rfl (fun g14 => ?_) (fun g14 => ?_)
                  ·
                    refine E_run hk 1 (j' := 86) (lv' := [(5, yi 0), (4, yi 0), (3, yi ((A_H5 ((20 * i) + j)) - (unl S 0 i j))), (0, .ref 63), (1, yi i), (2, yi j)]) (st' := [yi 0, yi i]) (hp' := hl16) rfl ?_
                    refine Y_iadd (a := i) (b := 0) hk rfl ?_
                    refine E_run hk 3 (j' := 90) (lv' := [(1, yi (i + 0)), (5, yi 0), (4, yi 0), (3, yi ((A_H5 ((20 * i) + j)) - (unl S 0 i j))), (0, .ref 63), (2, yi j)]) (st' := [yi 0, yi j]) (hp' := hl16) rfl ?_
                    refine Y_if_eq (a := 0) (by omega) hk rfl (fun g15 => ?_) (fun g15 => ?_)
                    ·
                      refine E_run hk 1 (j' := 94) (lv' := [(1, yi (i + 0)), (5, yi 0), (4, yi 0), (3, yi ((A_H5 ((20 * i) + j)) - (unl S 0 i j))), (0, .ref 63), (2, yi j)]) (st' := [yi 1, yi j]) (hp' := hl16) rfl ?_
                      refine Y_iadd (a := j) (b := 1) hk rfl ?_
                      refine E_run hk 4 (j' := 99) (lv' := [(2, yi (j + 1)), (1, yi (i + 0)), (5, yi 0), (4, yi 0), (3, yi ((A_H5 ((20 * i) + j)) - (unl S 0 i j))), (0, .ref 63)]) (st' := [yi (j + 1), yi (i + 0), .ref 63]) (hp' := hl16) rfl ?_
                      refine Y_call hk rfl (as := [.ref 63, yi (i + 0), yi (j + 1)]) (rest := []) (v := none) rfl rfl (Nat.le_of_ble_eq_true rfl) (rcv0 ec16_63) (Nat.le_of_ble_eq_true rfl) (c_X9_addsPair (i := (i + 0)) (j := (j + 1)) (v := (vup v 20 c)) ec16_63 ec16_74 ec16_75 (c := c) rfl (by omega)) (fun H16 r17 => ?_)
                      obtain ⟨e_H16, p_H16, q_H16, f_H16⟩ := r17
                      refine E_run hk 1 (j' := 16) (lv' := [(2, yi (j + 1)), (1, yi (i + 0)), (5, yi 0), (4, yi 0), (3, yi ((A_H5 ((20 * i) + j)) - (unl S 0 i j))), (0, .ref 63)]) (st' := []) (hp' := H16) rfl ?_
                      exact Ev_le (xle_s rfl rfl (xle_s rfl rfl (xle_s rfl rfl (xle_z _ rfl)))) (ih16 _ (by omega) (i + 0) (j + 1) (c + 1) (up p2 c (i + 0)) (up q2 c (j + 1)) H16 (by omega) (by omega) (by first | (exfalso; omega) | (rw [show c + 1 - 1 = c by omega]; (first | rw [if_pos (by omega)] at sp | (rw [if_neg (by omega)] at sp; first | rw [if_pos (by omega)] at sp | rw [if_neg (by omega)] at sp)); rw [sp]; constructor <;> simp)) (fun x x1 x2 => by
        by_cases e0 : x = c
        · subst e0
          rw [up_self, up_self]
          first
            | (exfalso; omega)
            | ((first | rw [if_pos (by omega)] at sp | (rw [if_neg (by omega)] at sp; first | rw [if_pos (by omega)] at sp | rw [if_neg (by omega)] at sp)); rw [sp]; refine ⟨by simp, by simp, by omega, by omega, by omega, by omega⟩)
        · rw [up_ne _ _ e0, up_ne _ _ e0]
          exact J4 x x1 (by omega)) (by (try simp only [Int.add_zero]); first | (exfalso; omega) | (rw [← u1]; omega) | (rw [← u2]; omega) | (rw [← u3]; omega)) e_H16 p_H16 q_H16 (yfr.tr fr16 f_H16 (fun _ h => h) (by decide)) rfl)
                    · exfalso; omega
                  · exfalso; omega
              ·
                refine E_run hk 5 (j' := 80) (lv' := [(5, yi 1), (4, yi 0), (3, yi ((A_H5 ((20 * i) + j)) - (unl S 0 i j))), (0, .ref 63), (1, yi i), (2, yi j)]) (st' := [yi 0, yi i]) (hp' := hl16) rfl ?_
                refine Y_if_ne (a := 0) (by omega) hk rfl (fun g18 => ?_) (fun g18 => ?_)
                · exfalso; omega
                ·
                  refine E_run hk 1 (j' := 82) (lv' := [(5, yi 1), (4, yi 0), (3, yi ((A_H5 ((20 * i) + j)) - (unl S 0 i j))), (0, .ref 63), (1, yi i), (2, yi j)]) (st' := [yi 1, yi i]) (hp' := hl16) rfl ?_
                  refine Y_if_eq (a := 1) (by omega) hk rfl (fun g19 => ?_) (fun g19 => ?_)
                  · exfalso; omega
                  ·
                    refine E_run hk 2 (j' := 86) (lv' := [(5, yi 1), (4, yi 0), (3, yi ((A_H5 ((20 * i) + j)) - (unl S 0 i j))), (0, .ref 63), (1, yi i), (2, yi j)]) (st' := [yi 1, yi i]) (hp' := hl16) rfl ?_
                    refine Y_iadd (a := i) (b := 1) hk rfl ?_
                    refine E_run hk 3 (j' := 90) (lv' := [(1, yi (i + 1)), (5, yi 1), (4, yi 0), (3, yi ((A_H5 ((20 * i) + j)) - (unl S 0 i j))), (0, .ref 63), (2, yi j)]) (st' := [yi 1, yi j]) (hp' := hl16) rfl ?_
                    refine Y_if_eq (a := 1) (by omega) hk rfl (fun g20 => ?_) (fun g20 => ?_)
                    · exfalso; omega
                    ·
                      refine E_run hk 2 (j' := 94) (lv' := [(1, yi (i + 1)), (5, yi 1), (4, yi 0), (3, yi ((A_H5 ((20 * i) + j)) - (unl S 0 i j))), (0, .ref 63), (2, yi j)]) (st' := [yi 0, yi j]) (hp' := hl16) rfl ?_
                      refine Y_iadd (a := j) (b := 0) hk rfl ?_
                      refine E_run hk 4 (j' := 99) (lv' := [(2, yi (j + 0)), (1, yi (i + 1)), (5, yi 1), (4, yi 0), (3, yi ((A_H5 ((20 * i) + j)) - (unl S 0 i j))), (0, .ref 63)]) (st' := [yi (j + 0), yi (i + 1), .ref 63]) (hp' := hl16) rfl ?_
                      refine Y_call hk rfl (as := [.ref 63, yi (i + 1), yi (j + 0)]) (rest := []) (v := none) rfl rfl (Nat.le_of_ble_eq_true rfl) (rcv0 ec16_63) (Nat.le_of_ble_eq_true rfl) (c_X9_addsPair (i := (i + 1)) (j := (j + 0)) (v := (vup v 20 c)) ec16_63 ec16_74 ec16_75 (c := c) rfl (by omega)) (fun H21 r22 => ?_)
                      obtain ⟨e_H21, p_H21, q_H21, f_H21⟩ := r22
                      refine E_run hk 1 (j' := 16) (lv' := [(2, yi (j + 0)), (1, yi (i + 1)), (5, yi 1), (4, yi 0), (3, yi ((A_H5 ((20 * i) + j)) - (unl S 0 i j))), (0, .ref 63)]) (st' := []) (hp' := H21) rfl ?_
                      exact Ev_le (xle_s rfl rfl (xle_s rfl rfl (xle_s rfl rfl (xle_z _ rfl)))) (ih16 _ (by omega) (i + 1) (j + 0) (c + 1) (up p2 c (i + 1)) (up q2 c (j + 0)) H21 (by omega) (by omega) (by first | (exfalso; omega) | (rw [show c + 1 - 1 = c by omega]; (first | rw [if_pos (by omega)] at sp | (rw [if_neg (by omega)] at sp; first | rw [if_pos (by omega)] at sp | rw [if_neg (by omega)] at sp)); rw [sp]; constructor <;> simp)) (fun x x1 x2 => by
        by_cases e0 : x = c
        · subst e0
          rw [up_self, up_self]
          first
            | (exfalso; omega)
            | ((first | rw [if_pos (by omega)] at sp | (rw [if_neg (by omega)] at sp; first | rw [if_pos (by omega)] at sp | rw [if_neg (by omega)] at sp)); rw [sp]; refine ⟨by simp, by simp, by omega, by omega, by omega, by omega⟩)
        · rw [up_ne _ _ e0, up_ne _ _ e0]
          exact J4 x x1 (by omega)) (by (try simp only [Int.add_zero]); first | (exfalso; omega) | (rw [← u1]; omega) | (rw [← u2]; omega) | (rw [← u3]; omega)) e_H21 p_H21 q_H21 (yfr.tr fr16 f_H21 (fun _ h => h) (by decide)) rfl)
          ·
            refine E_run hk 4 (j' := 60) (lv' := [(4, yi 1), (3, yi ((A_H5 ((20 * i) + j)) - (unl S 0 i j))), (0, .ref 63), (1, yi i), (2, yi j)]) (st' := [yi 1]) (hp' := hl16) rfl ?_
            refine Y_if_ne (a := 1) (by omega) hk rfl (fun g23 => ?_) (fun g23 => ?_)
            ·
              refine E_run hk 4 (j' := 80) (lv' := [(5, yi 0), (4, yi 1), (3, yi ((A_H5 ((20 * i) + j)) - (unl S 0 i j))), (0, .ref 63), (1, yi i), (2, yi j)]) (st' := [yi 1, yi i]) (hp' := hl16) rfl ?_
              refine Y_if_ne (a := 1) (by omega) hk rfl (fun g24 => ?_) (fun g24 => ?_)
              ·
                refine E_run hk 2 (j' := 86) (lv' := [(5, yi 0), (4, yi 1), (3, yi ((A_H5 ((20 * i) + j)) - (unl S 0 i j))), (0, .ref 63), (1, yi i), (2, yi j)]) (st' := [yi 1, yi i]) (hp' := hl16) rfl ?_
                refine Y_iadd (a := i) (b := 1) hk rfl ?_
                refine E_run hk 3 (j' := 90) (lv' := [(1, yi (i + 1)), (5, yi 0), (4, yi 1), (3, yi ((A_H5 ((20 * i) + j)) - (unl S 0 i j))), (0, .ref 63), (2, yi j)]) (st' := [yi 0, yi j]) (hp' := hl16) rfl ?_
                refine Y_if_eq (a := 0) (by omega) hk rfl (fun g25 => ?_) (fun g25 => ?_)
                ·
                  refine E_run hk 1 (j' := 94) (lv' := [(1, yi (i + 1)), (5, yi 0), (4, yi 1), (3, yi ((A_H5 ((20 * i) + j)) - (unl S 0 i j))), (0, .ref 63), (2, yi j)]) (st' := [yi 1, yi j]) (hp' := hl16) rfl ?_
                  refine Y_iadd (a := j) (b := 1) hk rfl ?_
                  refine E_run hk 4 (j' := 99) (lv' := [(2, yi (j + 1)), (1, yi (i + 1)), (5, yi 0), (4, yi 1), (3, yi ((A_H5 ((20 * i) + j)) - (unl S 0 i j))), (0, .ref 63)]) (st' := [yi (j + 1), yi (i + 1), .ref 63]) (hp' := hl16) rfl ?_
                  refine Y_call hk rfl (as := [.ref 63, yi (i + 1), yi (j + 1)]) (rest := []) (v := none) rfl rfl (Nat.le_of_ble_eq_true rfl) (rcv0 ec16_63) (Nat.le_of_ble_eq_true rfl) (c_X9_addsPair (i := (i + 1)) (j := (j + 1)) (v := (vup v 20 c)) ec16_63 ec16_74 ec16_75 (c := c) rfl (by omega)) (fun H26 r27 => ?_)
                  obtain ⟨e_H26, p_H26, q_H26, f_H26⟩ := r27
                  refine E_run hk 1 (j' := 16) (lv' := [(2, yi (j + 1)), (1, yi (i + 1)), (5, yi 0), (4, yi 1), (3, yi ((A_H5 ((20 * i) + j)) - (unl S 0 i j))), (0, .ref 63)]) (st' := []) (hp' := H26) rfl ?_
                  exact Ev_le (xle_s rfl rfl (xle_s rfl rfl (xle_s rfl rfl (xle_z _ rfl)))) (ih16 _ (by omega) (i + 1) (j + 1) (c + 1) (up p2 c (i + 1)) (up q2 c (j + 1)) H26 (by omega) (by omega) (by first | (exfalso; omega) | (rw [show c + 1 - 1 = c by omega]; (first | rw [if_pos (by omega)] at sp | (rw [if_neg (by omega)] at sp; first | rw [if_pos (by omega)] at sp | rw [if_neg (by omega)] at sp)); rw [sp]; constructor <;> simp)) (fun x x1 x2 => by
        by_cases e0 : x = c
        · subst e0
          rw [up_self, up_self]
          first
            | (exfalso; omega)
            | ((first | rw [if_pos (by omega)] at sp | (rw [if_neg (by omega)] at sp; first | rw [if_pos (by omega)] at sp | rw [if_neg (by omega)] at sp)); rw [sp]; refine ⟨by simp, by simp, by omega, by omega, by omega, by omega⟩)
        · rw [up_ne _ _ e0, up_ne _ _ e0]
          exact J4 x x1 (by omega)) (by (try simp only [Int.add_zero]); first | (exfalso; omega) | (rw [← u1]; omega) | (rw [← u2]; omega) | (rw [← u3]; omega)) e_H26 p_H26 q_H26 (yfr.tr fr16 f_H26 (fun _ h => h) (by decide)) rfl)
                · exfalso; omega
              · exfalso; omega
            · exfalso; omega
        ·
          refine E_run hk 3 (j' := 26) (lv' := [(0, .ref 63), (1, yi i), (2, yi j)]) (st' := [yi 1, .ref 63, yi j]) (hp' := hl16) rfl ?_
          refine Y_callP hk rfl (as := [.ref 63, yi 1]) (rest := [yi j]) (v := some (yi (S 1))) rfl rfl (Nat.le_of_ble_eq_true rfl) (rcv0 ec16_63) (Nat.le_of_ble_eq_true rfl) (c_X9_many (t := 1) (v := (vup v 20 c)) ec16_63 (fr16.at (by decide) (f_H7.at (by decide) (f_H5.at (by decide) (f3.at (by decide) hS)))) (by omega)) ?_
          refine E_run hk 1 (j' := 28) (lv' := [(0, .ref 63), (1, yi i), (2, yi j)]) (st' := [yi 1, yi (S 1), yi j]) (hp' := hl16) rfl ?_
          refine Y_isub (a := (S 1)) (b := 1) hk rfl ?_
          refine Y_ic_ge (a := j) (b := ((S 1) - 1)) (by omega) hk rfl (fun g28 => ?_) (fun g28 => ?_)
          ·
            exact E_ret hk rfl rfl ⟨rfl, c, _, _, _, _, ec16_63, (fr16.at (by decide) (f_H7.at (by decide) e_H5)), (fr16.at (by decide) (f_H7.at (by decide) w_H5)), ec16_74, ec16_75, Or.inr ⟨hma, by omega, by omega, by rw [show spt S (c - 1).toNat = (i, j) from Prod.ext J3.1 J3.2]; exact Prod.ext (by show i = _; omega) (by show j = _; omega), J4⟩, (yfr.tr (yfr.tr (yfr.tr (f3.mono (by decide)) f_H5 (fun _ h => h) (by decide)) f_H7 (fun _ h => h) (by decide)) fr16 (fun _ h => h) (by decide))⟩
          ·
            have u1 : behAt (S 0) (S 1) A_H5 (i + 1) j = bw (unl S 0) (S 3) (S 2) (S 0) (S 1) (i + 1) j := beh_bw (fun q1 q2 => (a_H5 _ _ (by omega) q1 (by omega) q2).1)
            have v1 := bw_rng (w := S 3) (b := S 2) (m := S 0) (n := S 1) (by omega) hD _ (i + 1) j (by omega) (by omega) rfl
            have u2 : behAt (S 0) (S 1) A_H5 i (j + 1) = bw (unl S 0) (S 3) (S 2) (S 0) (S 1) i (j + 1) := beh_bw (fun q1 q2 => (a_H5 _ _ (by omega) q1 (by omega) q2).1)
            have v2 := bw_rng (w := S 3) (b := S 2) (m := S 0) (n := S 1) (by omega) hD _ i (j + 1) (by omega) (by omega) rfl
            have u3 : behAt (S 0) (S 1) A_H5 (i + 1) (j + 1) = bw (unl S 0) (S 3) (S 2) (S 0) (S 1) (i + 1) (j + 1) := beh_bw (fun q1 q2 => (a_H5 _ _ (by omega) q1 (by omega) q2).1)
            have v3 := bw_rng (w := S 3) (b := S 2) (m := S 0) (n := S 1) (by omega) hD _ (i + 1) (j + 1) (by omega) (by omega) rfl
            have u4 : A_H5 (20 * i + j) = bw (unl S 0) (S 3) (S 2) (S 0) (S 1) i j := (a_H5 i j (by omega) (by omega) (by omega) (by omega)).1
            have v5 := bw_rng (w := S 3) (b := S 2) (m := S 0) (n := S 1) (by omega) hD _ i j (by omega) (by omega) rfl
            have v4 := hD i j (by omega) (by omega) (by omega) (by omega)
            have ok := stp_ok (w := S 3) (b := S 2) (m := S 0) (n := S 1) (i := i) (j := j) (by omega) (by omega) hD (by omega) (by omega) J5
            have sp : spt S c.toNat = stp (unl S 0) (S 3) (S 2) (S 0) (S 1) (i, j) := by rw [show c.toNat = (c - 1).toNat + 1 by omega, ← show spt S (c - 1).toNat = (i, j) from Prod.ext J3.1 J3.2]; rfl
            unfold stp at sp
            dsimp only at sp
            rw [← u1, ← u3, ← u4] at sp
            rw [← u1, ← u2, ← u3, ← u4] at ok
            rw [← u1] at v1
            rw [← u2] at v2
            rw [← u3] at v3
            rw [← u4] at v5 J5
            refine E_run hk 1 (j' := 31) (lv' := [(0, .ref 63), (1, yi i), (2, yi j)]) (st' := [.ref 63]) (hp' := hl16) rfl ?_
            refine E_get (v := .ref 71) hk rfl ec16_63 rfl ?_
            refine E_run hk 2 (j' := 34) (lv' := [(0, .ref 63), (1, yi i), (2, yi j)]) (st' := [yi i, yi 20, .ref 71]) (hp' := hl16) rfl ?_
            refine Y_imul (a := 20) (b := i) hk rfl ?_
            refine E_run hk 1 (j' := 36) (lv' := [(0, .ref 63), (1, yi i), (2, yi j)]) (st' := [yi j, yi (20 * i), .ref 71]) (hp' := hl16) rfl ?_
            refine Y_iadd (a := (20 * i)) (b := j) hk rfl ?_
            refine Y_iald (a := ((20 * i) + j)) (by omega) (by decide) hk rfl (fr16.at (by decide) (f_H7.at (by decide) e_H5)) ?_
            refine E_run hk 4 (j' := 42) (lv' := [(0, .ref 63), (1, yi i), (2, yi j)]) (st' := [yi 0, yi j, yi i, .ref 63, yi (A_H5 ((20 * i) + j))]) (hp' := hl16) rfl ?_
            refine Y_callP hk rfl (as := [.ref 63, yi i, yi j, yi 0]) (rest := [yi (A_H5 ((20 * i) + j))]) (v := some (yi (unl S 0 i j))) rfl rfl (Nat.le_of_ble_eq_true rfl) (rcv0 ec16_63) (Nat.le_of_ble_eq_true rfl) (c_X9_unlikeBy (i := i) (j := j) (b := 0) (v := (vup v 20 c)) ec16_63 (fr16.at (by decide) (f_H7.at (by decide) (f_H5.at (by decide) (f3.at (by decide) hS)))) hz h0 h1 (by omega) (by omega) (hd := by omega)) ?_
            refine Y_isub (a := (A_H5 ((20 * i) + j))) (b := (unl S 0 i j)) hk rfl ?_
            refine E_run hk 4 (j' := 48) (lv' := [(3, yi ((A_H5 ((20 * i) + j)) - (unl S 0 i j))), (0, .ref 63), (1, yi i), (2, yi j)]) (st' := [yi 1, yi i, .ref 63]) (hp' := hl16) rfl ?_
            refine Y_iadd (a := i) (b := 1) hk rfl ?_
            refine E_run hk 2 (j' := 51) (lv' := [(3, yi ((A_H5 ((20 * i) + j)) - (unl S 0 i j))), (0, .ref 63), (1, yi i), (2, yi j)]) (st' := [yi 1, yi j, yi (i + 1), .ref 63]) (hp' := hl16) rfl ?_
            refine Y_iadd (a := j) (b := 1) hk rfl ?_
            refine Y_callP hk rfl (as := [.ref 63, yi (i + 1), yi (j + 1)]) (rest := []) (v := some (yi (behAt (S 0) (S 1) A_H5 (i + 1) (j + 1)))) rfl rfl (Nat.le_of_ble_eq_true rfl) (rcv0 ec16_63) (Nat.le_of_ble_eq_true rfl) (c_X9_behindOf (i := (i + 1)) (j := (j + 1)) (v := (vup v 20 c)) ec16_63 (fr16.at (by decide) (f_H7.at (by decide) (f_H5.at (by decide) (f3.at (by decide) hS)))) (by omega) (fr16.at (by decide) (f_H7.at (by decide) e_H5)) (by omega) (hd := by omega)) ?_
            refine E_run hk 1 (j' := 54) (lv' := [(3, yi ((A_H5 ((20 * i) + j)) - (unl S 0 i j))), (0, .ref 63), (1, yi i), (2, yi j)]) (st' := [yi ((A_H5 ((20 * i) + j)) - (unl S 0 i j)), yi (behAt (S 0) (S 1) A_H5 (i + 1) (j + 1))]) (hp' := hl16) rfl ?_
            refine Y_ic_ne (a := (behAt (S 0) (S 1) A_H5 (i + 1) (j + 1))) (b := ((A_H5 ((20 * i) + j)) - (unl S 0 i j))) (by omega) hk rfl (fun g29 => ?_) (fun g29 => ?_)
            ·
              refine E_run hk 3 (j' := 60) (lv' := [(4, yi 0), (3, yi ((A_H5 ((20 * i) + j)) - (unl S 0 i j))), (0, .ref 63), (1, yi i), (2, yi j)]) (st' := [yi 0]) (hp' := hl16) rfl ?_
              refine Y_if_ne (a := 0) (by omega) hk rfl (fun g30 => ?_) (fun g30 => ?_)
              · exfalso; omega
              ·
                refine E_run hk 3 (j' := 64) (lv' := [(4, yi 0), (3, yi ((A_H5 ((20 * i) + j)) - (unl S 0 i j))), (0, .ref 63), (1, yi i), (2, yi j)]) (st' := [yi 1, yi i, .ref 63]) (hp' := hl16) rfl ?_
                refine Y_iadd (a := i) (b := 1) hk rfl ?_
                refine E_run hk 1 (j' := 66) (lv' := [(4, yi 0), (3, yi ((A_H5 ((20 * i) + j)) - (unl S 0 i j))), (0, .ref 63), (1, yi i), (2, yi j)]) (st' := [yi j, yi (i + 1), .ref 63]) (hp' := hl16) rfl ?_
                refine Y_callP hk rfl (as := [.ref 63, yi (i + 1), yi j]) (rest := []) (v := some (yi (behAt (S 0) (S 1) A_H5 (i + 1) j))) rfl rfl (Nat.le_of_ble_eq_true rfl) (rcv0 ec16_63) (Nat.le_of_ble_eq_true rfl) (c_X9_behindOf (i := (i + 1)) (j := j) (v := (vup v 20 c)) ec16_63 (fr16.at (by decide) (f_H7.at (by decide) (f_H5.at (by decide) (f3.at (by decide) hS)))) (by omega) (fr16.at (by decide) (f_H7.at (by decide) e_H5)) (by omega) (hd := by omega)) ?_
                refine E_run hk 1 (j' := 68) (lv' := [(4, yi 0), (3, yi ((A_H5 ((20 * i) + j)) - (unl S 0 i j))), (0, .ref 63), (1, yi i), (2, yi j)]) (st' := [.ref 63, yi (behAt (S 0) (S 1) A_H5 (i + 1) j)]) (hp' := hl16) rfl ?_
                refine E_get (v := .ref 64) hk rfl ec16_63 rfl ?_
                refine E_run hk 1 (j' := 70) (lv' := [(4, yi 0), (3, yi ((A_H5 ((20 * i) + j)) - (unl S 0 i j))), (0, .ref 63), (1, yi i), (2, yi j)]) (st' := [yi 3, .ref 64, yi (behAt (S 0) (S 1) A_H5 (i + 1) j)]) (hp' := hl16) rfl ?_
                refine Y_iald (a := 3) (by omega) (by decide) hk rfl (fr16.at (by decide) (f_H7.at (by decide) (f_H5.at (by decide) (f3.at (by decide) hS)))) ?_
                refine Y_iadd (a := (behAt (S 0) (S 1) A_H5 (i + 1) j)) (b := (S 3)) hk rfl ?_
                refine E_run hk 1 (j' := 73) (lv' := [(4, yi 0), (3, yi ((A_H5 ((20 * i) + j)) - (unl S 0 i j))), (0, .ref 63), (1, yi i), (2, yi j)]) (st' := [yi ((A_H5 ((20 * i) + j)) - (unl S 0 i j)), yi ((behAt (S 0) (S 1) A_H5 (i + 1) j) + (S 3))]) (hp' := hl16) rfl ?_
                refine Y_ic_ne (a := ((behAt (S 0) (S 1) A_H5 (i + 1) j) + (S 3))) (b := ((A_H5 ((20 * i) + j)) - (unl S 0 i j))) (by omega) hk rfl (fun g31 => ?_) (fun g31 => ?_)
                ·
                  refine E_run hk 4 (j' := 80) (lv' := [(5, yi 0), (4, yi 0), (3, yi ((A_H5 ((20 * i) + j)) - (unl S 0 i j))), (0, .ref 63), (1, yi i), (2, yi j)]) (st' := [yi 0, yi i]) (hp' := hl16) rfl ?_
                  refine Y_if_ne (a := 0) (by omega) hk rfl (fun g32 => ?_) (fun g32 => ?_)
                  · exfalso; omega
                  ·
                    refine E_run hk 1 (j' := 82) (lv' := [(5, yi 0), (4, yi 0), (3, yi ((A_H5 ((20 * i) + j)) - (unl S 0 i j))), (0, .ref 63), (1, yi i), (2, yi j)]) (st' := [yi 0, yi i]) (hp' := hl16) rfl ?_
                    refine Y_if_eq (a := 0) (by omega) hk rfl (fun g33 => ?_) (fun g33 => ?_)
                    ·
                      refine E_run hk 1 (j' := 86) (lv' := [(5, yi 0), (4, yi 0), (3, yi ((A_H5 ((20 * i) + j)) - (unl S 0 i j))), (0, .ref 63), (1, yi i), (2, yi j)]) (st' := [yi 0, yi i]) (hp' := hl16) rfl ?_
                      refine Y_iadd (a := i) (b := 0) hk rfl ?_
                      refine E_run hk 3 (j' := 90) (lv' := [(1, yi (i + 0)), (5, yi 0), (4, yi 0), (3, yi ((A_H5 ((20 * i) + j)) - (unl S 0 i j))), (0, .ref 63), (2, yi j)]) (st' := [yi 0, yi j]) (hp' := hl16) rfl ?_
                      refine Y_if_eq (a := 0) (by omega) hk rfl (fun g34 => ?_) (fun g34 => ?_)
                      ·
                        refine E_run hk 1 (j' := 94) (lv' := [(1, yi (i + 0)), (5, yi 0), (4, yi 0), (3, yi ((A_H5 ((20 * i) + j)) - (unl S 0 i j))), (0, .ref 63), (2, yi j)]) (st' := [yi 1, yi j]) (hp' := hl16) rfl ?_
                        refine Y_iadd (a := j) (b := 1) hk rfl ?_
                        refine E_run hk 4 (j' := 99) (lv' := [(2, yi (j + 1)), (1, yi (i + 0)), (5, yi 0), (4, yi 0), (3, yi ((A_H5 ((20 * i) + j)) - (unl S 0 i j))), (0, .ref 63)]) (st' := [yi (j + 1), yi (i + 0), .ref 63]) (hp' := hl16) rfl ?_
                        refine Y_call hk rfl (as := [.ref 63, yi (i + 0), yi (j + 1)]) (rest := []) (v := none) rfl rfl (Nat.le_of_ble_eq_true rfl) (rcv0 ec16_63) (Nat.le_of_ble_eq_true rfl) (c_X9_addsPair (i := (i + 0)) (j := (j + 1)) (v := (vup v 20 c)) ec16_63 ec16_74 ec16_75 (c := c) rfl (by omega)) (fun H35 r36 => ?_)
                        obtain ⟨e_H35, p_H35, q_H35, f_H35⟩ := r36
                        refine E_run hk 1 (j' := 16) (lv' := [(2, yi (j + 1)), (1, yi (i + 0)), (5, yi 0), (4, yi 0), (3, yi ((A_H5 ((20 * i) + j)) - (unl S 0 i j))), (0, .ref 63)]) (st' := []) (hp' := H35) rfl ?_
                        exact Ev_le (xle_s rfl rfl (xle_s rfl rfl (xle_s rfl rfl (xle_z _ rfl)))) (ih16 _ (by omega) (i + 0) (j + 1) (c + 1) (up p2 c (i + 0)) (up q2 c (j + 1)) H35 (by omega) (by omega) (by first | (exfalso; omega) | (rw [show c + 1 - 1 = c by omega]; (first | rw [if_pos (by omega)] at sp | (rw [if_neg (by omega)] at sp; first | rw [if_pos (by omega)] at sp | rw [if_neg (by omega)] at sp)); rw [sp]; constructor <;> simp)) (fun x x1 x2 => by
        by_cases e0 : x = c
        · subst e0
          rw [up_self, up_self]
          first
            | (exfalso; omega)
            | ((first | rw [if_pos (by omega)] at sp | (rw [if_neg (by omega)] at sp; first | rw [if_pos (by omega)] at sp | rw [if_neg (by omega)] at sp)); rw [sp]; refine ⟨by simp, by simp, by omega, by omega, by omega, by omega⟩)
        · rw [up_ne _ _ e0, up_ne _ _ e0]
          exact J4 x x1 (by omega)) (by (try simp only [Int.add_zero]); first | (exfalso; omega) | (rw [← u1]; omega) | (rw [← u2]; omega) | (rw [← u3]; omega)) e_H35 p_H35 q_H35 (yfr.tr fr16 f_H35 (fun _ h => h) (by decide)) rfl)
                      · exfalso; omega
                    · exfalso; omega
                ·
                  refine E_run hk 5 (j' := 80) (lv' := [(5, yi 1), (4, yi 0), (3, yi ((A_H5 ((20 * i) + j)) - (unl S 0 i j))), (0, .ref 63), (1, yi i), (2, yi j)]) (st' := [yi 0, yi i]) (hp' := hl16) rfl ?_
                  refine Y_if_ne (a := 0) (by omega) hk rfl (fun g37 => ?_) (fun g37 => ?_)
                  · exfalso; omega
                  ·
                    refine E_run hk 1 (j' := 82) (lv' := [(5, yi 1), (4, yi 0), (3, yi ((A_H5 ((20 * i) + j)) - (unl S 0 i j))), (0, .ref 63), (1, yi i), (2, yi j)]) (st' := [yi 1, yi i]) (hp' := hl16) rfl ?_
                    refine Y_if_eq (a := 1) (by omega) hk rfl (fun g38 => ?_) (fun g38 => ?_)
                    · exfalso; omega
                    ·
                      refine E_run hk 2 (j' := 86) (lv' := [(5, yi 1), (4, yi 0), (3, yi ((A_H5 ((20 * i) + j)) - (unl S 0 i j))), (0, .ref 63), (1, yi i), (2, yi j)]) (st' := [yi 1, yi i]) (hp' := hl16) rfl ?_
                      refine Y_iadd (a := i) (b := 1) hk rfl ?_
                      refine E_run hk 3 (j' := 90) (lv' := [(1, yi (i + 1)), (5, yi 1), (4, yi 0), (3, yi ((A_H5 ((20 * i) + j)) - (unl S 0 i j))), (0, .ref 63), (2, yi j)]) (st' := [yi 1, yi j]) (hp' := hl16) rfl ?_
                      refine Y_if_eq (a := 1) (by omega) hk rfl (fun g39 => ?_) (fun g39 => ?_)
                      · exfalso; omega
                      ·
                        refine E_run hk 2 (j' := 94) (lv' := [(1, yi (i + 1)), (5, yi 1), (4, yi 0), (3, yi ((A_H5 ((20 * i) + j)) - (unl S 0 i j))), (0, .ref 63), (2, yi j)]) (st' := [yi 0, yi j]) (hp' := hl16) rfl ?_
                        refine Y_iadd (a := j) (b := 0) hk rfl ?_
                        refine E_run hk 4 (j' := 99) (lv' := [(2, yi (j + 0)), (1, yi (i + 1)), (5, yi 1), (4, yi 0), (3, yi ((A_H5 ((20 * i) + j)) - (unl S 0 i j))), (0, .ref 63)]) (st' := [yi (j + 0), yi (i + 1), .ref 63]) (hp' := hl16) rfl ?_
                        refine Y_call hk rfl (as := [.ref 63, yi (i + 1), yi (j + 0)]) (rest := []) (v := none) rfl rfl (Nat.le_of_ble_eq_true rfl) (rcv0 ec16_63) (Nat.le_of_ble_eq_true rfl) (c_X9_addsPair (i := (i + 1)) (j := (j + 0)) (v := (vup v 20 c)) ec16_63 ec16_74 ec16_75 (c := c) rfl (by omega)) (fun H40 r41 => ?_)
                        obtain ⟨e_H40, p_H40, q_H40, f_H40⟩ := r41
                        refine E_run hk 1 (j' := 16) (lv' := [(2, yi (j + 0)), (1, yi (i + 1)), (5, yi 1), (4, yi 0), (3, yi ((A_H5 ((20 * i) + j)) - (unl S 0 i j))), (0, .ref 63)]) (st' := []) (hp' := H40) rfl ?_
                        exact Ev_le (xle_s rfl rfl (xle_s rfl rfl (xle_s rfl rfl (xle_z _ rfl)))) (ih16 _ (by omega) (i + 1) (j + 0) (c + 1) (up p2 c (i + 1)) (up q2 c (j + 0)) H40 (by omega) (by omega) (by first | (exfalso; omega) | (rw [show c + 1 - 1 = c by omega]; (first | rw [if_pos (by omega)] at sp | (rw [if_neg (by omega)] at sp; first | rw [if_pos (by omega)] at sp | rw [if_neg (by omega)] at sp)); rw [sp]; constructor <;> simp)) (fun x x1 x2 => by
        by_cases e0 : x = c
        · subst e0
          rw [up_self, up_self]
          first
            | (exfalso; omega)
            | ((first | rw [if_pos (by omega)] at sp | (rw [if_neg (by omega)] at sp; first | rw [if_pos (by omega)] at sp | rw [if_neg (by omega)] at sp)); rw [sp]; refine ⟨by simp, by simp, by omega, by omega, by omega, by omega⟩)
        · rw [up_ne _ _ e0, up_ne _ _ e0]
          exact J4 x x1 (by omega)) (by (try simp only [Int.add_zero]); first | (exfalso; omega) | (rw [← u1]; omega) | (rw [← u2]; omega) | (rw [← u3]; omega)) e_H40 p_H40 q_H40 (yfr.tr fr16 f_H40 (fun _ h => h) (by decide)) rfl)
            ·
              refine E_run hk 4 (j' := 60) (lv' := [(4, yi 1), (3, yi ((A_H5 ((20 * i) + j)) - (unl S 0 i j))), (0, .ref 63), (1, yi i), (2, yi j)]) (st' := [yi 1]) (hp' := hl16) rfl ?_
              refine Y_if_ne (a := 1) (by omega) hk rfl (fun g42 => ?_) (fun g42 => ?_)
              ·
                refine E_run hk 4 (j' := 80) (lv' := [(5, yi 0), (4, yi 1), (3, yi ((A_H5 ((20 * i) + j)) - (unl S 0 i j))), (0, .ref 63), (1, yi i), (2, yi j)]) (st' := [yi 1, yi i]) (hp' := hl16) rfl ?_
                refine Y_if_ne (a := 1) (by omega) hk rfl (fun g43 => ?_) (fun g43 => ?_)
                ·
                  refine E_run hk 2 (j' := 86) (lv' := [(5, yi 0), (4, yi 1), (3, yi ((A_H5 ((20 * i) + j)) - (unl S 0 i j))), (0, .ref 63), (1, yi i), (2, yi j)]) (st' := [yi 1, yi i]) (hp' := hl16) rfl ?_
                  refine Y_iadd (a := i) (b := 1) hk rfl ?_
                  refine E_run hk 3 (j' := 90) (lv' := [(1, yi (i + 1)), (5, yi 0), (4, yi 1), (3, yi ((A_H5 ((20 * i) + j)) - (unl S 0 i j))), (0, .ref 63), (2, yi j)]) (st' := [yi 0, yi j]) (hp' := hl16) rfl ?_
                  refine Y_if_eq (a := 0) (by omega) hk rfl (fun g44 => ?_) (fun g44 => ?_)
                  ·
                    refine E_run hk 1 (j' := 94) (lv' := [(1, yi (i + 1)), (5, yi 0), (4, yi 1), (3, yi ((A_H5 ((20 * i) + j)) - (unl S 0 i j))), (0, .ref 63), (2, yi j)]) (st' := [yi 1, yi j]) (hp' := hl16) rfl ?_
                    refine Y_iadd (a := j) (b := 1) hk rfl ?_
                    refine E_run hk 4 (j' := 99) (lv' := [(2, yi (j + 1)), (1, yi (i + 1)), (5, yi 0), (4, yi 1), (3, yi ((A_H5 ((20 * i) + j)) - (unl S 0 i j))), (0, .ref 63)]) (st' := [yi (j + 1), yi (i + 1), .ref 63]) (hp' := hl16) rfl ?_
                    refine Y_call hk rfl (as := [.ref 63, yi (i + 1), yi (j + 1)]) (rest := []) (v := none) rfl rfl (Nat.le_of_ble_eq_true rfl) (rcv0 ec16_63) (Nat.le_of_ble_eq_true rfl) (c_X9_addsPair (i := (i + 1)) (j := (j + 1)) (v := (vup v 20 c)) ec16_63 ec16_74 ec16_75 (c := c) rfl (by omega)) (fun H45 r46 => ?_)
                    obtain ⟨e_H45, p_H45, q_H45, f_H45⟩ := r46
                    refine E_run hk 1 (j' := 16) (lv' := [(2, yi (j + 1)), (1, yi (i + 1)), (5, yi 0), (4, yi 1), (3, yi ((A_H5 ((20 * i) + j)) - (unl S 0 i j))), (0, .ref 63)]) (st' := []) (hp' := H45) rfl ?_
                    exact Ev_le (xle_s rfl rfl (xle_s rfl rfl (xle_s rfl rfl (xle_z _ rfl)))) (ih16 _ (by omega) (i + 1) (j + 1) (c + 1) (up p2 c (i + 1)) (up q2 c (j + 1)) H45 (by omega) (by omega) (by first | (exfalso; omega) | (rw [show c + 1 - 1 = c by omega]; (first | rw [if_pos (by omega)] at sp | (rw [if_neg (by omega)] at sp; first | rw [if_pos (by omega)] at sp | rw [if_neg (by omega)] at sp)); rw [sp]; constructor <;> simp)) (fun x x1 x2 => by
        by_cases e0 : x = c
        · subst e0
          rw [up_self, up_self]
          first
            | (exfalso; omega)
            | ((first | rw [if_pos (by omega)] at sp | (rw [if_neg (by omega)] at sp; first | rw [if_pos (by omega)] at sp | rw [if_neg (by omega)] at sp)); rw [sp]; refine ⟨by simp, by simp, by omega, by omega, by omega, by omega⟩)
        · rw [up_ne _ _ e0, up_ne _ _ e0]
          exact J4 x x1 (by omega)) (by (try simp only [Int.add_zero]); first | (exfalso; omega) | (rw [← u1]; omega) | (rw [← u2]; omega) | (rw [← u3]; omega)) e_H45 p_H45 q_H45 (yfr.tr fr16 f_H45 (fun _ h => h) (by decide)) rfl)
                  · exfalso; omega
                · exfalso; omega
              · exfalso; omega
    exact Ev_le (xle_s rfl rfl (xle_s rfl rfl (xle_s rfl rfl (xle_z _ rfl)))) (loop16 _ 0 0 1 (up p 0 0) (up q 0 0) H7 (by omega) (by omega) (⟨rfl, rfl⟩) (fun x x1 x2 => by
    have e : x = 0 := by omega
    subst e
    exact ⟨rfl, rfl, Int.le_refl 0, hma.1, Int.le_refl 0, hma.2.1⟩) (bw_fin (by omega) (by omega) hD hma.2.2 _ 0 0 (by omega) (by omega) (by omega) (by omega) (by omega) (by omega) rfl) e_H7 p_H7 q_H7 (yfr.refl _ _) rfl)
