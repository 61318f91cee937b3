/-! The class: the first best match. -/
theorem c_X2_addPair {d : Nat} {hp : xH} {c e nb : Int} (h43 : xat hp 43 = some (.inr (3, [.ref 44, .ref 46, .ref 48, .ref 50, .ref 52, .ref 53, .ref 54, .ref 55, yi c, yi e, yi nb]))) {P Q U V : Int → Int} (h52 : xat hp 52 = some (yI 39 P)) (h53 : xat hp 53 = some (yI 39 Q)) (h54 : xat hp 54 = some (yI 20 U)) (h55 : xat hp 55 = some (yI 20 V)) {i j : Int} (hi : 0 ≤ c ∧ c < 39 ∧ 0 ≤ i ∧ i < 20 ∧ 0 ≤ j ∧ j < 20) : Cv d 22 [.ref 43, yi i, yi j] hp (yR none (fun h => xat h 43 = some (.inr (3, [.ref 44, .ref 46, .ref 48, .ref 50, .ref 52, .ref 53, .ref 54, .ref 55, yi (c + 1), yi e, yi nb])) ∧ xat h 52 = some (yI 39 (up P c i)) ∧ xat h 53 = some (yI 39 (up Q c j)) ∧ xat h 54 = some (yI 20 (up U i (U i + 1))) ∧ xat h 55 = some (yI 20 (up V j (V j + 1))) ∧ yfr [43, 52, 53, 54, 55] hp h)) := by
  have hk : xtab 22 = (xc_22, 3, 0, []) := rfl
  show Ev d 22 0 [(0, .ref 43), (1, yi i), (2, yi j)] [] hp _
  refine E_run hk 1 (j' := 1) (lv' := [(0, .ref 43), (1, yi i), (2, yi j)]) (st' := [.ref 43]) (hp' := hp) rfl ?_
  refine E_get (v := yi c) hk rfl h43 rfl ?_
  refine Y_if_lt (a := c) (by omega) hk rfl (fun g1 => ?_) (fun g1 => ?_)
  · exfalso; omega
  ·
    refine E_run hk 1 (j' := 4) (lv' := [(0, .ref 43), (1, yi i), (2, yi j)]) (st' := [.ref 43]) (hp' := hp) rfl ?_
    refine E_get (v := yi c) hk rfl h43 rfl ?_
    refine E_run hk 1 (j' := 6) (lv' := [(0, .ref 43), (1, yi i), (2, yi j)]) (st' := [.ref 43, yi c]) (hp' := hp) rfl ?_
    refine E_get (v := .ref 52) hk rfl h43 rfl ?_
    refine Y_alen (by decide) hk rfl h52 ?_
    refine Y_ic_ge (a := c) (b := 39) (by omega) hk rfl (fun g2 => ?_) (fun g2 => ?_)
    · exfalso; omega
    ·
      refine E_run hk 1 (j' := 10) (lv' := [(0, .ref 43), (1, yi i), (2, yi j)]) (st' := [.ref 43]) (hp' := hp) rfl ?_
      refine E_get (v := yi c) hk rfl h43 rfl ?_
      refine E_run hk 1 (j' := 12) (lv' := [(0, .ref 43), (1, yi i), (2, yi j)]) (st' := [.ref 43, yi c]) (hp' := hp) rfl ?_
      refine E_get (v := .ref 53) hk rfl h43 rfl ?_
      refine Y_alen (by decide) hk rfl h53 ?_
      refine Y_ic_ge (a := c) (b := 39) (by omega) hk rfl (fun g3 => ?_) (fun g3 => ?_)
      · exfalso; omega
      ·
        refine E_run hk 1 (j' := 16) (lv' := [(0, .ref 43), (1, yi i), (2, yi j)]) (st' := [.ref 43]) (hp' := hp) rfl ?_
        refine E_get (v := .ref 52) hk rfl h43 rfl ?_
        refine E_run hk 1 (j' := 18) (lv' := [(0, .ref 43), (1, yi i), (2, yi j)]) (st' := [.ref 43, .ref 52]) (hp' := hp) rfl ?_
        refine E_get (v := yi c) hk rfl h43 rfl ?_
        refine E_run hk 1 (j' := 20) (lv' := [(0, .ref 43), (1, yi i), (2, yi j)]) (st' := [yi i, yi c, .ref 52]) (hp' := hp) rfl ?_
        refine Y_iast (a := c) (x := i) (by omega) (by decide) (by decide) hk rfl h52 (fun H4 e5 f6 => ?_)
        refine E_run hk 1 (j' := 22) (lv' := [(0, .ref 43), (1, yi i), (2, yi j)]) (st' := [.ref 43]) (hp' := H4) rfl ?_
        refine E_get (v := .ref 53) hk rfl (f6.at (by decide) h43) rfl ?_
        refine E_run hk 1 (j' := 24) (lv' := [(0, .ref 43), (1, yi i), (2, yi j)]) (st' := [.ref 43, .ref 53]) (hp' := H4) rfl ?_
        refine E_get (v := yi c) hk rfl (f6.at (by decide) h43) rfl ?_
        refine E_run hk 1 (j' := 26) (lv' := [(0, .ref 43), (1, yi i), (2, yi j)]) (st' := [yi j, yi c, .ref 53]) (hp' := H4) rfl ?_
        refine Y_iast (a := c) (x := j) (by omega) (by decide) (by decide) hk rfl (f6.at (by decide) h53) (fun H7 e8 f9 => ?_)
        refine E_run hk 2 (j' := 29) (lv' := [(0, .ref 43), (1, yi i), (2, yi j)]) (st' := [.ref 43, .ref 43]) (hp' := H7) rfl ?_
        refine E_get (v := yi c) hk rfl (f9.at (by decide) (f6.at (by decide) h43)) rfl ?_
        refine E_run hk 1 (j' := 31) (lv' := [(0, .ref 43), (1, yi i), (2, yi j)]) (st' := [yi 1, yi c, .ref 43]) (hp' := H7) rfl ?_
        refine Y_iadd (a := c) (b := 1) hk rfl ?_
        refine Y_put hk rfl (f9.at (by decide) (f6.at (by decide) h43)) (by decide) (Nat.le_of_ble_eq_true rfl) rfl (fs' := [.ref 44, .ref 46, .ref 48, .ref 50, .ref 52, .ref 53, .ref 54, .ref 55, yi (c + 1), yi e, yi nb]) rfl (fun H10 e11 f12 => ?_)
        refine E_run hk 1 (j' := 34) (lv' := [(0, .ref 43), (1, yi i), (2, yi j)]) (st' := [yi i]) (hp' := H10) rfl ?_
        refine Y_if_lt (a := i) (by omega) hk rfl (fun g13 => ?_) (fun g13 => ?_)
        · exfalso; omega
        ·
          refine E_run hk 2 (j' := 37) (lv' := [(0, .ref 43), (1, yi i), (2, yi j)]) (st' := [.ref 43, yi i]) (hp' := H10) rfl ?_
          refine E_get (v := .ref 54) hk rfl e11 rfl ?_
          refine Y_alen (by decide) hk rfl (f12.at (by decide) (f9.at (by decide) (f6.at (by decide) h54))) ?_
          refine Y_ic_ge (a := i) (b := 20) (by omega) hk rfl (fun g14 => ?_) (fun g14 => ?_)
          · exfalso; omega
          ·
            refine E_run hk 1 (j' := 41) (lv' := [(0, .ref 43), (1, yi i), (2, yi j)]) (st' := [.ref 43]) (hp' := H10) rfl ?_
            refine E_get (v := .ref 54) hk rfl e11 rfl ?_
            refine E_run hk 2 (j' := 44) (lv' := [(0, .ref 43), (1, yi i), (2, yi j)]) (st' := [yi i, .ref 54, yi i, .ref 54]) (hp' := H10) rfl ?_
            refine Y_iald (a := i) (by omega) (by decide) hk rfl (f12.at (by decide) (f9.at (by decide) (f6.at (by decide) h54))) ?_
            refine E_run hk 1 (j' := 46) (lv' := [(0, .ref 43), (1, yi i), (2, yi j)]) (st' := [yi 1, yi (U i), yi i, .ref 54]) (hp' := H10) rfl ?_
            refine Y_iadd (a := (U i)) (b := 1) hk rfl ?_
            refine Y_iast (a := i) (x := ((U i) + 1)) (by omega) (by decide) (by decide) hk rfl (f12.at (by decide) (f9.at (by decide) (f6.at (by decide) h54))) (fun H15 e16 f17 => ?_)
            refine E_run hk 1 (j' := 49) (lv' := [(0, .ref 43), (1, yi i), (2, yi j)]) (st' := [yi j]) (hp' := H15) rfl ?_
            refine Y_if_lt (a := j) (by omega) hk rfl (fun g18 => ?_) (fun g18 => ?_)
            · exfalso; omega
            ·
              refine E_run hk 2 (j' := 52) (lv' := [(0, .ref 43), (1, yi i), (2, yi j)]) (st' := [.ref 43, yi j]) (hp' := H15) rfl ?_
              refine E_get (v := .ref 55) hk rfl (f17.at (by decide) e11) rfl ?_
              refine Y_alen (by decide) hk rfl (f17.at (by decide) (f12.at (by decide) (f9.at (by decide) (f6.at (by decide) h55)))) ?_
              refine Y_ic_ge (a := j) (b := 20) (by omega) hk rfl (fun g19 => ?_) (fun g19 => ?_)
              · exfalso; omega
              ·
                refine E_run hk 1 (j' := 56) (lv' := [(0, .ref 43), (1, yi i), (2, yi j)]) (st' := [.ref 43]) (hp' := H15) rfl ?_
                refine E_get (v := .ref 55) hk rfl (f17.at (by decide) e11) rfl ?_
                refine E_run hk 2 (j' := 59) (lv' := [(0, .ref 43), (1, yi i), (2, yi j)]) (st' := [yi j, .ref 55, yi j, .ref 55]) (hp' := H15) rfl ?_
                refine Y_iald (a := j) (by omega) (by decide) hk rfl (f17.at (by decide) (f12.at (by decide) (f9.at (by decide) (f6.at (by decide) h55)))) ?_
                refine E_run hk 1 (j' := 61) (lv' := [(0, .ref 43), (1, yi i), (2, yi j)]) (st' := [yi 1, yi (V j), yi j, .ref 55]) (hp' := H15) rfl ?_
                refine Y_iadd (a := (V j)) (b := 1) hk rfl ?_
                refine Y_iast (a := j) (x := ((V j) + 1)) (by omega) (by decide) (by decide) hk rfl (f17.at (by decide) (f12.at (by decide) (f9.at (by decide) (f6.at (by decide) h55)))) (fun H20 e21 f22 => ?_)
                exact E_ret hk rfl rfl ⟨rfl, (f22.at (by decide) (f17.at (by decide) e11)), (f22.at (by decide) (f17.at (by decide) (f12.at (by decide) (f9.at (by decide) e5)))), (f22.at (by decide) (f17.at (by decide) (f12.at (by decide) e8))), (f22.at (by decide) e16), e21, (yfr.tr (yfr.tr (yfr.tr (yfr.tr (f6.mono (by decide)) f9 (fun _ h => h) (by decide)) f12 (fun _ h => h) (by decide)) f17 (fun _ h => h) (by decide)) f22 (fun _ h => h) (by decide))⟩
/-- a match, and how often each note is met -/
def mtu (S : Int → Int) (c : Int) (P Q U V : Int → Int) : Prop := mtc S c P Q ∧ ∀ y, 0 ≤ y → y < 20 → U y = cnt P y c.toNat ∧ V y = cnt Q y c.toNat
theorem cnt_zero {f : Int → Int} {x : Int} : cnt f x (0 : Int).toNat = 0 := rfl
theorem sco_inv {D : Int → Int → Int} {w b m n i j k : Int} (h : sco D w b m n i j = k) (hl : ¬ (i = m - 1 ∧ j = n - 1)) :
    (k = 1 ∧ bw D w b m n (i + 1) (j + 1) = bw D w b m n i j - D i j) ∨ (k = 2 ∧ ¬ bw D w b m n (i + 1) (j + 1) = bw D w b m n i j - D i j ∧ bw D w b m n (i + 1) j + w = bw D w b m n i j - D i j) ∨ (k = 3 ∧ ¬ bw D w b m n (i + 1) (j + 1) = bw D w b m n i j - D i j ∧ ¬ bw D w b m n (i + 1) j + w = bw D w b m n i j - D i j) := by
  unfold sco at h
  rw [if_neg hl] at h
  split at h
  · exact Or.inl ⟨h.symm, by assumption⟩
  · split at h
    · exact Or.inr (Or.inl ⟨h.symm, by assumption, by assumption⟩)
    · exact Or.inr (Or.inr ⟨h.symm, by assumption, by assumption⟩)
theorem c_X2_walkFirst {d : Nat} {hp : xH} {c e nb : Int} (h43 : xat hp 43 = some (.inr (3, [.ref 44, .ref 46, .ref 48, .ref 50, .ref 52, .ref 53, .ref 54, .ref 55, yi c, yi e, yi nb]))) (h44 : xat hp 44 = some (.inr (1, [.ref 45]))) (h46 : xat hp 46 = some (.inr (1, [.ref 47]))) (h48 : xat hp 48 = some (.inr (1, [.ref 49]))) (h50 : xat hp 50 = some (.inr (1, [.ref 51]))) {A B C N P Q U V : Int → Int} (h45 : xat hp 45 = some (yI 400 A)) (h47 : xat hp 47 = some (yI 400 B)) (h49 : xat hp 49 = some (yI 400 C)) (h51 : xat hp 51 = some (yI 400 N)) (h52 : xat hp 52 = some (yI 39 P)) (h53 : xat hp 53 = some (yI 39 Q)) (h54 : xat hp 54 = some (yI 20 U)) (h55 : xat hp 55 = some (yI 20 V)) {z o : Nat} {S f g : Int → Int} {r t : Int} (hS : yS hp 29 z o S f g r t) (hz : 0 ≤ S 0 ∧ S 0 ≤ 20 ∧ 0 ≤ S 1 ∧ S 1 ≤ 20 ∧ 0 ≤ S 2 ∧ S 2 ≤ 20 ∧ 0 ≤ S 3 ∧ S 3 ≤ 50 ∧ 0 ≤ S 4 ∧ S 4 ≤ 3) (h0 : ∀ q, 0 ≤ q → q < S 0 → 0 ≤ S (7 + q) ∧ S (7 + q) ≤ 60) (h1 : ∀ q, 0 ≤ q → q < S 1 → 0 ≤ S (27 + q) ∧ S (27 + q) ≤ 60) (hC : ∀ x y, 0 ≤ x → x < S 0 → 0 ≤ y → y < S 1 → bw (unl S 0) (S 3) (S 2) (S 0) (S 1) x y < 100000000 → C (20 * x + y) = sco (unl S 0) (S 3) (S 2) (S 0) (S 1) x y ∧ N (20 * x + y) = wy (unl S 0) (S 3) (S 2) (S 0) (S 1) x y) (hd : 2 ≤ d) : Cv d 21 [.ref 43, .ref 29] hp (yR none (fun h => ∃ c2 P2 Q2 U2 V2, xat h 43 = some (.inr (3, [.ref 44, .ref 46, .ref 48, .ref 50, .ref 52, .ref 53, .ref 54, .ref 55, yi c2, yi (hls S (c2 - 1).toNat), yi nb])) ∧ xat h 52 = some (yI 39 P2) ∧ xat h 53 = some (yI 39 Q2) ∧ xat h 54 = some (yI 20 U2) ∧ xat h 55 = some (yI 20 V2) ∧ mtu S c2 P2 Q2 U2 V2 ∧ yfr [43, 52, 53, 54, 55] hp h)) := by
  have hk : xtab 21 = (xc_21, 7, 0, []) := rfl
  obtain ⟨d, rfl⟩ : ∃ e, d = e + 1 := ⟨d - 1, by omega⟩
  obtain ⟨hid, hs_, hz_, ho_, hf_, hg_, ef, eg⟩ := hS
  have hDD : ∀ i j, 0 ≤ i → i < S 0 → 0 ≤ j → j < S 1 → 0 ≤ unl S 0 i j ∧ unl S 0 i j ≤ 5184 := fun i j a1 a2 a3 a4 => unl_rng hz h0 h1 (by omega) a1 a2 a3 a4
  show Ev (d + 1) 21 0 [(0, .ref 43), (1, .ref 29)] [] hp _
  refine E_run hk 2 (j' := 2) (lv' := [(0, .ref 43), (1, .ref 29)]) (st' := [yi 0, .ref 43]) (hp' := hp) rfl ?_
  refine Y_put hk rfl h43 (by decide) (Nat.le_of_ble_eq_true rfl) rfl (fs' := [.ref 44, .ref 46, .ref 48, .ref 50, .ref 52, .ref 53, .ref 54, .ref 55, yi 0, yi e, yi nb]) rfl (fun H1 e2 f3 => ?_)
  refine E_run hk 2 (j' := 5) (lv' := [(0, .ref 43), (1, .ref 29)]) (st' := [yi 0, .ref 43]) (hp' := H1) rfl ?_
  refine Y_put hk rfl e2 (by decide) (Nat.le_of_ble_eq_true rfl) rfl (fs' := [.ref 44, .ref 46, .ref 48, .ref 50, .ref 52, .ref 53, .ref 54, .ref 55, yi 0, yi 0, yi nb]) rfl (fun H4 e5 f6 => ?_)
  refine E_run hk 1 (j' := 7) (lv' := [(0, .ref 43), (1, .ref 29)]) (st' := [.ref 43]) (hp' := H4) rfl ?_
  refine E_get (v := .ref 54) hk rfl e5 rfl ?_
  refine E_run hk 1 (j' := 9) (lv' := [(0, .ref 43), (1, .ref 29)]) (st' := [yi 0, .ref 54]) (hp' := H4) rfl ?_
  refine Y_call hk rfl (as := [.ref 54, yi 0]) (rest := []) (v := none) rfl rfl (Nat.le_of_ble_eq_true rfl) rfl (Nat.le_of_ble_eq_true rfl) (c_J7_fill_53178 (p := 54) (n := 20) (x := 0) (by omega) (by omega) (f6.at (by decide) (f3.at (by decide) h54))) (fun H7 r8 => ?_)
  obtain ⟨F_H7, e_H7, a_H7, f_H7⟩ := r8
  refine E_run hk 1 (j' := 11) (lv' := [(0, .ref 43), (1, .ref 29)]) (st' := [.ref 43]) (hp' := H7) rfl ?_
  refine E_get (v := .ref 55) hk rfl (f_H7.at (by decide) e5) rfl ?_
  refine E_run hk 1 (j' := 13) (lv' := [(0, .ref 43), (1, .ref 29)]) (st' := [yi 0, .ref 55]) (hp' := H7) rfl ?_
  refine Y_call hk rfl (as := [.ref 55, yi 0]) (rest := []) (v := none) rfl rfl (Nat.le_of_ble_eq_true rfl) rfl (Nat.le_of_ble_eq_true rfl) (c_J7_fill_53178 (p := 55) (n := 20) (x := 0) (by omega) (by omega) (f_H7.at (by decide) (f6.at (by decide) (f3.at (by decide) h55)))) (fun H9 r10 => ?_)
  obtain ⟨F_H9, e_H9, a_H9, f_H9⟩ := r10
  refine E_run hk 5 (j' := 19) (lv' := [(3, yi 0), (2, yi 0), (0, .ref 43), (1, .ref 29)]) (st' := [.ref 29]) (hp' := H9) rfl ?_
  refine Y_callP hk rfl (as := [.ref 29]) (rest := []) (v := some (yi (b2 (0 < S 0 ∧ 0 < S 1 ∧ -S 2 ≤ S 0 - S 1 ∧ S 0 - S 1 ≤ S 2)))) rfl rfl (Nat.le_of_ble_eq_true rfl) (rcv0 (f_H9.at (by decide) (f_H7.at (by decide) (f6.at (by decide) (f3.at (by decide) hs_))))) (Nat.le_of_ble_eq_true rfl) (c_X5_hasMatch ⟨hid, (f_H9.at (by decide) (f_H7.at (by decide) (f6.at (by decide) (f3.at (by decide) hs_)))), (f_H9.at (by simp only [List.mem_cons, List.not_mem_nil, or_false, not_or]; exact (Ne.symm (sok hid (by unfold apart; decide)).2.1)) (f_H7.at (by simp only [List.mem_cons, List.not_mem_nil, or_false, not_or]; exact (Ne.symm (sok hid (by unfold apart; decide)).2.1)) (f6.at (by simp only [List.mem_cons, List.not_mem_nil, or_false, not_or]; exact (Ne.symm (sok hid (by unfold apart; decide)).2.1)) (f3.at (by simp only [List.mem_cons, List.not_mem_nil, or_false, not_or]; exact (Ne.symm (sok hid (by unfold apart; decide)).2.1)) hz_)))), (f_H9.at (by simp only [List.mem_cons, List.not_mem_nil, or_false, not_or]; exact (Ne.symm (sok hid (by unfold apart; decide)).2.2.2.1)) (f_H7.at (by simp only [List.mem_cons, List.not_mem_nil, or_false, not_or]; exact (Ne.symm (sok hid (by unfold apart; decide)).2.2.2.1)) (f6.at (by simp only [List.mem_cons, List.not_mem_nil, or_false, not_or]; exact (Ne.symm (sok hid (by unfold apart; decide)).2.2.2.1)) (f3.at (by simp only [List.mem_cons, List.not_mem_nil, or_false, not_or]; exact (Ne.symm (sok hid (by unfold apart; decide)).2.2.2.1)) ho_)))), (f_H9.at (by simp only [List.mem_cons, List.not_mem_nil, or_false, not_or]; exact (Ne.symm (sok hid (by unfold apart; decide)).2.2.1)) (f_H7.at (by simp only [List.mem_cons, List.not_mem_nil, or_false, not_or]; exact (Ne.symm (sok hid (by unfold apart; decide)).2.2.1)) (f6.at (by simp only [List.mem_cons, List.not_mem_nil, or_false, not_or]; exact (Ne.symm (sok hid (by unfold apart; decide)).2.2.1)) (f3.at (by simp only [List.mem_cons, List.not_mem_nil, or_false, not_or]; exact (Ne.symm (sok hid (by unfold apart; decide)).2.2.1)) hf_)))), (f_H9.at (by simp only [List.mem_cons, List.not_mem_nil, or_false, not_or]; exact (Ne.symm (sok hid (by unfold apart; decide)).2.2.2.2)) (f_H7.at (by simp only [List.mem_cons, List.not_mem_nil, or_false, not_or]; exact (Ne.symm (sok hid (by unfold apart; decide)).2.2.2.2)) (f6.at (by simp only [List.mem_cons, List.not_mem_nil, or_false, not_or]; exact (Ne.symm (sok hid (by unfold apart; decide)).2.2.2.2)) (f3.at (by simp only [List.mem_cons, List.not_mem_nil, or_false, not_or]; exact (Ne.symm (sok hid (by unfold apart; decide)).2.2.2.2)) hg_)))), ef, eg⟩ (by omega) (by omega) (hd := by omega)) ?_
  refine E_run hk 3 (j' := 23) (lv' := [(5, yi 0), (4, yi (b2 (0 < S 0 ∧ 0 < S 1 ∧ -S 2 ≤ S 0 - S 1 ∧ S 0 - S 1 ≤ S 2))), (3, yi 0), (2, yi 0), (0, .ref 43), (1, .ref 29)]) (st' := []) (hp' := H9) rfl ?_
  have loop23 : ∀ (N : Nat) (x : Int) (z : Int) (i : Int) (j : Int) (c2 : Int) (e2 : Int) (P2 : Int → Int) (Q2 : Int → Int) (U2 : Int → Int) (V2 : Int → Int) (hl23 : xH), (0 ≤ x ∧ x ≤ 39 ∧ (z = 0 ∨ z = 1)) → (z = 1 → mat S ∧ c2 = x ∧ (0 ≤ i ∧ i < S 0 ∧ 0 ≤ j ∧ j < S 1 ∧ x ≤ i + j) ∧ (spt S x.toNat).1 = i ∧ (spt S x.toNat).2 = j ∧ (∀ y, 0 ≤ y → y < x → P2 y = (spt S y.toNat).1 ∧ Q2 y = (spt S y.toNat).2 ∧ 0 ≤ P2 y ∧ P2 y < S 0 ∧ 0 ≤ Q2 y ∧ Q2 y < S 1) ∧ e2 = hls S x.toNat ∧ bw (unl S 0) (S 3) (S 2) (S 0) (S 1) i j < 100000000) → (z = 0 → mtc S c2 P2 Q2 ∧ e2 = hls S (c2 - 1).toNat) → (∀ y, 0 ≤ y → y < 20 → U2 y = cnt P2 y c2.toNat ∧ V2 y = cnt Q2 y c2.toNat) → (xat hl23 43 = some (.inr (3, [.ref 44, .ref 46, .ref 48, .ref 50, .ref 52, .ref 53, .ref 54, .ref 55, yi c2, yi e2, yi nb]))) → (xat hl23 52 = some (yI 39 P2)) → (xat hl23 53 = some (yI 39 Q2)) → (xat hl23 54 = some (yI 20 U2)) → (xat hl23 55 = some (yI 20 V2)) → (yfr [43, 52, 53, 54, 55] H9 hl23) → (39 - x).toNat = N → Ev (d + 1) 21 23 [(0, .ref 43), (1, .ref 29), (2, yi i), (3, yi j), (4, yi z), (5, yi x)] [] hl23 (yR none (fun h => ∃ c2 P2 Q2 U2 V2, xat h 43 = some (.inr (3, [.ref 44, .ref 46, .ref 48, .ref 50, .ref 52, .ref 53, .ref 54, .ref 55, yi c2, yi (hls S (c2 - 1).toNat), yi nb])) ∧ xat h 52 = some (yI 39 P2) ∧ xat h 53 = some (yI 39 Q2) ∧ xat h 54 = some (yI 20 U2) ∧ xat h 55 = some (yI 20 V2) ∧ mtu S c2 P2 Q2 U2 V2 ∧ yfr [43, 52, 53, 54, 55] hp h)) := by
    intro N
    induction N using Nat.strongRecOn with
    | ind N ih23 =>
      intro x z i j c2 e2 P2 Q2 U2 V2 hl23 J1 J2 J3 J4 ec23_43 ec23_52 ec23_53 ec23_54 ec23_55 fr23 hm23
      refine E_run hk 1 (j' := 24) (lv' := [(0, .ref 43), (1, .ref 29), (2, yi i), (3, yi j), (4, yi z), (5, yi x)]) (st' := [yi x]) (hp' := hl23) rfl ?_
      refine E_run hk 1 (j' := 25) (lv' := [(0, .ref 43), (1, .ref 29), (2, yi i), (3, yi j), (4, yi z), (5, yi x)]) (st' := [yi 39, yi x]) (hp' := hl23) rfl ?_
      refine Y_ic_ge (a := x) (b := 39) (by omega) hk rfl (fun g11 => ?_) (fun g11 => ?_)
      ·
        exact E_ret hk rfl rfl (by
      have z0 : z = 0 := by
        rcases (by omega : z = 0 ∨ z = 1) with q | q
        · exact q
        · have q2 := (J2 q).2.2.1
          omega
      obtain ⟨y1, y2⟩ := J3 z0
      have e9 := ec23_43
      rw [y2] at e9
      exact ⟨rfl, _, _, _, _, _, e9, ec23_52, ec23_53, ec23_54, ec23_55, ⟨y1, J4⟩, (yfr.tr (yfr.tr (yfr.tr (yfr.tr (f3.mono (by decide)) f6 (fun _ h => h) (by decide)) f_H7 (fun _ h => h) (by decide)) f_H9 (fun _ h => h) (by decide)) fr23 (fun _ h => h) (by decide))⟩)
      ·
        refine E_run hk 1 (j' := 27) (lv' := [(0, .ref 43), (1, .ref 29), (2, yi i), (3, yi j), (4, yi z), (5, yi x)]) (st' := [yi z]) (hp' := hl23) rfl ?_
        refine Y_if_eq (a := z) (by omega) hk rfl (fun g12 => ?_) (fun g12 => ?_)
        ·
          exact E_ret hk rfl rfl (by
      have z0 : z = 0 := by
        rcases (by omega : z = 0 ∨ z = 1) with q | q
        · exact q
        · have q2 := (J2 q).2.2.1
          omega
      obtain ⟨y1, y2⟩ := J3 z0
      have e9 := ec23_43
      rw [y2] at e9
      exact ⟨rfl, _, _, _, _, _, e9, ec23_52, ec23_53, ec23_54, ec23_55, ⟨y1, J4⟩, (yfr.tr (yfr.tr (yfr.tr (yfr.tr (f3.mono (by decide)) f6 (fun _ h => h) (by decide)) f_H7 (fun _ h => h) (by decide)) f_H9 (fun _ h => h) (by decide)) fr23 (fun _ h => h) (by decide))⟩)
        ·
          obtain ⟨ma, cx, xi, sp1, sp2, pq, he, fin⟩ := J2 (by omega)
          have hls0 := hls_rng S x.toNat
          refine E_run hk 3 (j' := 31) (lv' := [(0, .ref 43), (1, .ref 29), (2, yi i), (3, yi j), (4, yi z), (5, yi x)]) (st' := [yi j, yi i, .ref 43]) (hp' := hl23) rfl ?_
          refine Y_call hk rfl (as := [.ref 43, yi i, yi j]) (rest := []) (v := none) rfl rfl (Nat.le_of_ble_eq_true rfl) (rcv0 ec23_43) (Nat.le_of_ble_eq_true rfl) (c_X2_addPair (i := i) (j := j) ec23_43 ec23_52 ec23_53 ec23_54 ec23_55 (by omega)) (fun H13 r14 => ?_)
          obtain ⟨m_H13, p_H13, q_H13, u_H13, v_H13, f_H13⟩ := r14
          have sc : gat C i j = sco (unl S 0) (S 3) (S 2) (S 0) (S 1) i j := by
            unfold gat
            rw [if_pos (by omega)]
            exact (hC i j (by omega) (by omega) (by omega) (by omega) fin).1
          have sr := sco_rng (D := unl S 0) (w := S 3) (b := S 2) (m := S 0) (n := S 1) (i := i) (j := j)
          have s0 : i = S 0 - 1 ∧ j = S 1 - 1 → sco (unl S 0) (S 3) (S 2) (S 0) (S 1) i j = 0 := fun q => if_pos q
          have s1 := fun q => stp_sco (D := unl S 0) (w := S 3) (b := S 2) (m := S 0) (n := S 1) (i := i) (j := j) q
          have sn : spt S (x + 1).toNat = stp (unl S 0) (S 3) (S 2) (S 0) (S 1) (i, j) := by
            rw [show (x + 1).toNat = x.toNat + 1 by omega, ← show spt S x.toNat = (i, j) from Prod.ext sp1 sp2]
            rfl
          have ok := fun q => stp_ok (w := S 3) (b := S 2) (m := S 0) (n := S 1) (i := i) (j := j) (by omega) (by omega) hDD (by omega) q fin
          have hn : hls S (x + 1).toNat = hls S x.toNat + (if (spt S (x + 1).toNat).1 = (spt S x.toNat).1 ∨ (spt S (x + 1).toNat).2 = (spt S x.toNat).2 then 1 else 0) := by
            rw [show (x + 1).toNat = x.toNat + 1 by omega]
            rfl
          have pq2 : ∀ y, 0 ≤ y → y < x + 1 → up P2 c2 i y = (spt S y.toNat).1 ∧ up Q2 c2 j y = (spt S y.toNat).2 ∧ 0 ≤ up P2 c2 i y ∧ up P2 c2 i y < S 0 ∧ 0 ≤ up Q2 c2 j y ∧ up Q2 c2 j y < S 1 := fun y y1 y2 => by
            by_cases q : y = c2
            · rw [q, up_self, up_self, cx, sp1, sp2]
              exact ⟨rfl, rfl, by omega, by omega, by omega, by omega⟩
            · rw [up_ne _ _ q, up_ne _ _ q]
              exact pq y y1 (by omega)
          have uv : ∀ y, 0 ≤ y → y < 20 → up U2 i (U2 i + 1) y = cnt (up P2 c2 i) y (c2 + 1).toNat ∧ up V2 j (V2 j + 1) y = cnt (up Q2 c2 j) y (c2 + 1).toNat := fun y y1 y2 => by
            have q := J4 y y1 y2
            rw [cnt_up (by omega), cnt_up (by omega), ← q.1, ← q.2]
            constructor
            · by_cases q2 : y = i
              · rw [q2, up_self, if_pos rfl]
              · rw [up_ne _ _ q2, if_neg (Ne.symm q2), Int.add_zero]
            · by_cases q2 : y = j
              · rw [q2, up_self, if_pos rfl]
              · rw [up_ne _ _ q2, if_neg (Ne.symm q2), Int.add_zero]
          refine E_run hk 1 (j' := 33) (lv' := [(0, .ref 43), (1, .ref 29), (2, yi i), (3, yi j), (4, yi z), (5, yi x)]) (st' := [.ref 43]) (hp' := H13) rfl ?_
          refine E_get (v := .ref 48) hk rfl m_H13 rfl ?_
          refine E_run hk 2 (j' := 36) (lv' := [(0, .ref 43), (1, .ref 29), (2, yi i), (3, yi j), (4, yi z), (5, yi x)]) (st' := [yi j, yi i, .ref 48]) (hp' := H13) rfl ?_
          refine Y_callP hk rfl (as := [.ref 48, yi i, yi j]) (rest := []) (v := some (yi (gat C i j))) rfl rfl (Nat.le_of_ble_eq_true rfl) (rcv0 (f_H13.at (by decide) (fr23.at (by decide) (f_H9.at (by decide) (f_H7.at (by decide) (f6.at (by decide) (f3.at (by decide) h48))))))) (Nat.le_of_ble_eq_true rfl) (c_X0_at (i := i) (j := j) (a := 48) (p := 49) (k := C) ⟨by decide, by decide, by decide⟩ (f_H13.at (by decide) (fr23.at (by decide) (f_H9.at (by decide) (f_H7.at (by decide) (f6.at (by decide) (f3.at (by decide) h48)))))) (f_H13.at (by decide) (fr23.at (by decide) (f_H9.at (by decide) (f_H7.at (by decide) (f6.at (by decide) (f3.at (by decide) h49)))))) (by omega)) ?_
          refine E_run hk 1 (j' := 38) (lv' := [(6, yi (gat C i j)), (0, .ref 43), (1, .ref 29), (2, yi i), (3, yi j), (4, yi z), (5, yi x)]) (st' := []) (hp' := H13) rfl ?_
          rcases (by omega : (gat C i j) = 0 ∨ (gat C i j) = 1 ∨ (gat C i j) = 2 ∨ (gat C i j) = 3) with w15 | w15 | w15 | w15
          · rw [w15]
            refine E_run hk 1 (j' := 39) (lv' := [(6, yi 0), (0, .ref 43), (1, .ref 29), (2, yi i), (3, yi j), (4, yi z), (5, yi x)]) (st' := [yi 0]) (hp' := H13) rfl ?_
            refine Y_if_eq (a := 0) (by omega) hk rfl (fun g16 => ?_) (fun g16 => ?_)
            ·
              refine E_run hk 4 (j' := 46) (lv' := [(4, yi 0), (6, yi 0), (0, .ref 43), (1, .ref 29), (2, yi i), (3, yi j), (5, yi x)]) (st' := [yi 2, yi 0]) (hp' := H13) rfl ?_
              refine Y_ic_eq (a := 0) (b := 2) (by omega) hk rfl (fun g17 => ?_) (fun g17 => ?_)
              · exfalso; omega
              ·
                refine E_run hk 2 (j' := 49) (lv' := [(4, yi 0), (6, yi 0), (0, .ref 43), (1, .ref 29), (2, yi i), (3, yi j), (5, yi x)]) (st' := [yi 3, yi 0]) (hp' := H13) rfl ?_
                refine Y_ic_ne (a := 0) (b := 3) (by omega) hk rfl (fun g18 => ?_) (fun g18 => ?_)
                ·
                  refine E_run hk 2 (j' := 58) (lv' := [(4, yi 0), (6, yi 0), (0, .ref 43), (1, .ref 29), (2, yi i), (3, yi j), (5, yi x)]) (st' := [yi 0, yi i]) (hp' := H13) rfl ?_
                  refine Y_callP hk rfl (as := [yi i, yi 0]) (rest := []) (v := some (yi i)) rfl rfl (Nat.le_of_ble_eq_true rfl) rfl (Nat.le_of_ble_eq_true rfl) (c_X2_firstAfter0 (i := i)) ?_
                  refine E_run hk 3 (j' := 62) (lv' := [(2, yi i), (4, yi 0), (6, yi 0), (0, .ref 43), (1, .ref 29), (3, yi j), (5, yi x)]) (st' := [yi 0, yi j]) (hp' := H13) rfl ?_
                  refine Y_callP hk rfl (as := [yi j, yi 0]) (rest := []) (v := some (yi j)) rfl rfl (Nat.le_of_ble_eq_true rfl) rfl (Nat.le_of_ble_eq_true rfl) (c_X2_secondAfter0 (i := j)) ?_
                  refine E_run hk 1 (j' := 64) (lv' := [(3, yi j), (2, yi i), (4, yi 0), (6, yi 0), (0, .ref 43), (1, .ref 29), (5, yi x)]) (st' := []) (hp' := H13) rfl ?_
                  refine Y_iinc (a := x) (z := 1) hk rfl rfl rfl (by decide) (lv' := [(5, yi (x + 1)), (3, yi j), (2, yi i), (4, yi 0), (6, yi 0), (0, .ref 43), (1, .ref 29)]) rfl ?_
                  refine E_run hk 1 (j' := 23) (lv' := [(5, yi (x + 1)), (3, yi j), (2, yi i), (4, yi 0), (6, yi 0), (0, .ref 43), (1, .ref 29)]) (st' := []) (hp' := H13) rfl ?_
                  exact Ev_le (xle_s rfl rfl (xle_s rfl rfl (xle_s rfl rfl (xle_s rfl rfl (xle_s rfl rfl (xle_s rfl rfl (xle_z _ rfl))))))) (ih23 _ (by omega) (x + 1) 0 i j (c2 + 1) e2 (up P2 c2 i) (up Q2 c2 j) (up U2 i (U2 i + 1)) (up V2 j (V2 j + 1)) H13 (by have b1 := fun q => sco_inv (D := unl S 0) (w := S 3) (b := S 2) (m := S 0) (n := S 1) (i := i) (j := j) rfl q; omega) (fun qz => by
          first
            | (exfalso; revert qz; decide)
            | (exfalso; omega)
            | (rcases s1 (by omega) with ⟨v1, v2⟩ | ⟨v1, v2⟩ | ⟨v1, v2⟩ <;> first | (exfalso; omega) | skip
               have ok2 := ok (by omega)
               have v3 : spt S (x + 1).toNat = _ := sn.trans v2
               refine ⟨ma, by omega, ?_, by rw [v3], by rw [v3], pq2, ?_, ?_⟩
               · have b1 := sco_inv v1 (by omega)
                 omega
               · rw [hn, v3, sp1, sp2]
                 first
                   | (rw [if_pos (by first | exact Or.inl rfl | exact Or.inr rfl)]; omega)
                   | (rw [if_neg (by dsimp only; omega)]; omega)
               · have b1 := sco_inv v1 (by omega)
                 omega)) (fun qz => by
          first
            | (exfalso; revert qz; decide)
            | (exfalso; omega)
            | (have l : i = S 0 - 1 ∧ j = S 1 - 1 := by
                 by_cases q : i = S 0 - 1 ∧ j = S 1 - 1
                 · exact q
                 · rcases s1 q with v | v | v <;> omega
               refine ⟨Or.inr ⟨ma, by omega, by omega, ?_, fun y y1 y2 => pq2 y y1 (by omega)⟩, ?_⟩
               · rw [show (c2 + 1 - 1).toNat = x.toNat by omega]
                 exact Prod.ext (by rw [sp1]; exact l.1) (by rw [sp2]; exact l.2)
               · rw [show (c2 + 1 - 1).toNat = x.toNat by omega]
                 omega)) (uv) m_H13 p_H13 q_H13 u_H13 v_H13 (yfr.tr fr23 f_H13 (fun _ h => h) (by decide)) rfl)
                · exfalso; omega
            · exfalso; omega
          · rw [w15]
            refine E_run hk 1 (j' := 39) (lv' := [(6, yi 1), (0, .ref 43), (1, .ref 29), (2, yi i), (3, yi j), (4, yi z), (5, yi x)]) (st' := [yi 1]) (hp' := H13) rfl ?_
            refine Y_if_eq (a := 1) (by omega) hk rfl (fun g19 => ?_) (fun g19 => ?_)
            · exfalso; omega
            ·
              refine E_run hk 5 (j' := 46) (lv' := [(4, yi 1), (6, yi 1), (0, .ref 43), (1, .ref 29), (2, yi i), (3, yi j), (5, yi x)]) (st' := [yi 2, yi 1]) (hp' := H13) rfl ?_
              refine Y_ic_eq (a := 1) (b := 2) (by omega) hk rfl (fun g20 => ?_) (fun g20 => ?_)
              · exfalso; omega
              ·
                refine E_run hk 2 (j' := 49) (lv' := [(4, yi 1), (6, yi 1), (0, .ref 43), (1, .ref 29), (2, yi i), (3, yi j), (5, yi x)]) (st' := [yi 3, yi 1]) (hp' := H13) rfl ?_
                refine Y_ic_ne (a := 1) (b := 3) (by omega) hk rfl (fun g21 => ?_) (fun g21 => ?_)
                ·
                  refine E_run hk 2 (j' := 58) (lv' := [(4, yi 1), (6, yi 1), (0, .ref 43), (1, .ref 29), (2, yi i), (3, yi j), (5, yi x)]) (st' := [yi 1, yi i]) (hp' := H13) rfl ?_
                  refine Y_callP hk rfl (as := [yi i, yi 1]) (rest := []) (v := some (yi (i + 1))) rfl rfl (Nat.le_of_ble_eq_true rfl) rfl (Nat.le_of_ble_eq_true rfl) (c_X2_firstAfter1 (i := i)) ?_
                  refine E_run hk 3 (j' := 62) (lv' := [(2, yi (i + 1)), (4, yi 1), (6, yi 1), (0, .ref 43), (1, .ref 29), (3, yi j), (5, yi x)]) (st' := [yi 1, yi j]) (hp' := H13) rfl ?_
                  refine Y_callP hk rfl (as := [yi j, yi 1]) (rest := []) (v := some (yi (j + 1))) rfl rfl (Nat.le_of_ble_eq_true rfl) rfl (Nat.le_of_ble_eq_true rfl) (c_X2_secondAfter1 (i := j)) ?_
                  refine E_run hk 1 (j' := 64) (lv' := [(3, yi (j + 1)), (2, yi (i + 1)), (4, yi 1), (6, yi 1), (0, .ref 43), (1, .ref 29), (5, yi x)]) (st' := []) (hp' := H13) rfl ?_
                  refine Y_iinc (a := x) (z := 1) hk rfl rfl rfl (by decide) (lv' := [(5, yi (x + 1)), (3, yi (j + 1)), (2, yi (i + 1)), (4, yi 1), (6, yi 1), (0, .ref 43), (1, .ref 29)]) rfl ?_
                  refine E_run hk 1 (j' := 23) (lv' := [(5, yi (x + 1)), (3, yi (j + 1)), (2, yi (i + 1)), (4, yi 1), (6, yi 1), (0, .ref 43), (1, .ref 29)]) (st' := []) (hp' := H13) rfl ?_
                  exact Ev_le (xle_s rfl rfl (xle_s rfl rfl (xle_s rfl rfl (xle_s rfl rfl (xle_s rfl rfl (xle_s rfl rfl (xle_z _ rfl))))))) (ih23 _ (by omega) (x + 1) 1 (i + 1) (j + 1) (c2 + 1) e2 (up P2 c2 i) (up Q2 c2 j) (up U2 i (U2 i + 1)) (up V2 j (V2 j + 1)) H13 (by have b1 := fun q => sco_inv (D := unl S 0) (w := S 3) (b := S 2) (m := S 0) (n := S 1) (i := i) (j := j) rfl q; omega) (fun qz => by
          first
            | (exfalso; revert qz; decide)
            | (exfalso; omega)
            | (rcases s1 (by omega) with ⟨v1, v2⟩ | ⟨v1, v2⟩ | ⟨v1, v2⟩ <;> first | (exfalso; omega) | skip
               have ok2 := ok (by omega)
               have v3 : spt S (x + 1).toNat = _ := sn.trans v2
               refine ⟨ma, by omega, ?_, by rw [v3], by rw [v3], pq2, ?_, ?_⟩
               · have b1 := sco_inv v1 (by omega)
                 omega
               · rw [hn, v3, sp1, sp2]
                 first
                   | (rw [if_pos (by first | exact Or.inl rfl | exact Or.inr rfl)]; omega)
                   | (rw [if_neg (by dsimp only; omega)]; omega)
               · have b1 := sco_inv v1 (by omega)
                 omega)) (fun qz => by
          first
            | (exfalso; revert qz; decide)
            | (exfalso; omega)
            | (have l : i = S 0 - 1 ∧ j = S 1 - 1 := by
                 by_cases q : i = S 0 - 1 ∧ j = S 1 - 1
                 · exact q
                 · rcases s1 q with v | v | v <;> omega
               refine ⟨Or.inr ⟨ma, by omega, by omega, ?_, fun y y1 y2 => pq2 y y1 (by omega)⟩, ?_⟩
               · rw [show (c2 + 1 - 1).toNat = x.toNat by omega]
                 exact Prod.ext (by rw [sp1]; exact l.1) (by rw [sp2]; exact l.2)
               · rw [show (c2 + 1 - 1).toNat = x.toNat by omega]
                 omega)) (uv) m_H13 p_H13 q_H13 u_H13 v_H13 (yfr.tr fr23 f_H13 (fun _ h => h) (by decide)) rfl)
                · exfalso; omega
          · rw [w15]
            refine E_run hk 1 (j' := 39) (lv' := [(6, yi 2), (0, .ref 43), (1, .ref 29), (2, yi i), (3, yi j), (4, yi z), (5, yi x)]) (st' := [yi 2]) (hp' := H13) rfl ?_
            refine Y_if_eq (a := 2) (by omega) hk rfl (fun g22 => ?_) (fun g22 => ?_)
            · exfalso; omega
            ·
              refine E_run hk 5 (j' := 46) (lv' := [(4, yi 1), (6, yi 2), (0, .ref 43), (1, .ref 29), (2, yi i), (3, yi j), (5, yi x)]) (st' := [yi 2, yi 2]) (hp' := H13) rfl ?_
              refine Y_ic_eq (a := 2) (b := 2) (by omega) hk rfl (fun g23 => ?_) (fun g23 => ?_)
              ·
                refine E_run hk 2 (j' := 52) (lv' := [(4, yi 1), (6, yi 2), (0, .ref 43), (1, .ref 29), (2, yi i), (3, yi j), (5, yi x)]) (st' := [.ref 43, .ref 43]) (hp' := H13) rfl ?_
                refine E_get (v := yi e2) hk rfl m_H13 rfl ?_
                refine E_run hk 1 (j' := 54) (lv' := [(4, yi 1), (6, yi 2), (0, .ref 43), (1, .ref 29), (2, yi i), (3, yi j), (5, yi x)]) (st' := [yi 1, yi e2, .ref 43]) (hp' := H13) rfl ?_
                refine Y_iadd (a := e2) (b := 1) hk rfl ?_
                refine Y_put hk rfl m_H13 (by decide) (Nat.le_of_ble_eq_true rfl) rfl (fs' := [.ref 44, .ref 46, .ref 48, .ref 50, .ref 52, .ref 53, .ref 54, .ref 55, yi (c2 + 1), yi (e2 + 1), yi nb]) rfl (fun H24 e25 f26 => ?_)
                refine E_run hk 2 (j' := 58) (lv' := [(4, yi 1), (6, yi 2), (0, .ref 43), (1, .ref 29), (2, yi i), (3, yi j), (5, yi x)]) (st' := [yi 2, yi i]) (hp' := H24) rfl ?_
                refine Y_callP hk rfl (as := [yi i, yi 2]) (rest := []) (v := some (yi (i + 1))) rfl rfl (Nat.le_of_ble_eq_true rfl) rfl (Nat.le_of_ble_eq_true rfl) (c_X2_firstAfter2 (i := i)) ?_
                refine E_run hk 3 (j' := 62) (lv' := [(2, yi (i + 1)), (4, yi 1), (6, yi 2), (0, .ref 43), (1, .ref 29), (3, yi j), (5, yi x)]) (st' := [yi 2, yi j]) (hp' := H24) rfl ?_
                refine Y_callP hk rfl (as := [yi j, yi 2]) (rest := []) (v := some (yi j)) rfl rfl (Nat.le_of_ble_eq_true rfl) rfl (Nat.le_of_ble_eq_true rfl) (c_X2_secondAfter2 (i := j)) ?_
                refine E_run hk 1 (j' := 64) (lv' := [(3, yi j), (2, yi (i + 1)), (4, yi 1), (6, yi 2), (0, .ref 43), (1, .ref 29), (5, yi x)]) (st' := []) (hp' := H24) rfl ?_
                refine Y_iinc (a := x) (z := 1) hk rfl rfl rfl (by decide) (lv' := [(5, yi (x + 1)), (3, yi j), (2, yi (i + 1)), (4, yi 1), (6, yi 2), (0, .ref 43), (1, .ref 29)]) rfl ?_
                refine E_run hk 1 (j' := 23) (lv' := [(5, yi (x + 1)), (3, yi j), (2, yi (i + 1)), (4, yi 1), (6, yi 2), (0, .ref 43), (1, .ref 29)]) (st' := []) (hp' := H24) rfl ?_
                exact Ev_le (xle_s rfl rfl (xle_s rfl rfl (xle_s rfl rfl (xle_s rfl rfl (xle_s rfl rfl (xle_s rfl rfl (xle_z _ rfl))))))) (ih23 _ (by omega) (x + 1) 1 (i + 1) j (c2 + 1) (e2 + 1) (up P2 c2 i) (up Q2 c2 j) (up U2 i (U2 i + 1)) (up V2 j (V2 j + 1)) H24 (by have b1 := fun q => sco_inv (D := unl S 0) (w := S 3) (b := S 2) (m := S 0) (n := S 1) (i := i) (j := j) rfl q; omega) (fun qz => by
          first
            | (exfalso; revert qz; decide)
            | (exfalso; omega)
            | (rcases s1 (by omega) with ⟨v1, v2⟩ | ⟨v1, v2⟩ | ⟨v1, v2⟩ <;> first | (exfalso; omega) | skip
               have ok2 := ok (by omega)
               have v3 : spt S (x + 1).toNat = _ := sn.trans v2
               refine ⟨ma, by omega, ?_, by rw [v3], by rw [v3], pq2, ?_, ?_⟩
               · have b1 := sco_inv v1 (by omega)
                 omega
               · rw [hn, v3, sp1, sp2]
                 first
                   | (rw [if_pos (by first | exact Or.inl rfl | exact Or.inr rfl)]; omega)
                   | (rw [if_neg (by dsimp only; omega)]; omega)
               · have b1 := sco_inv v1 (by omega)
                 omega)) (fun qz => by
          first
            | (exfalso; revert qz; decide)
            | (exfalso; omega)
            | (have l : i = S 0 - 1 ∧ j = S 1 - 1 := by
                 by_cases q : i = S 0 - 1 ∧ j = S 1 - 1
                 · exact q
                 · rcases s1 q with v | v | v <;> omega
               refine ⟨Or.inr ⟨ma, by omega, by omega, ?_, fun y y1 y2 => pq2 y y1 (by omega)⟩, ?_⟩
               · rw [show (c2 + 1 - 1).toNat = x.toNat by omega]
                 exact Prod.ext (by rw [sp1]; exact l.1) (by rw [sp2]; exact l.2)
               · rw [show (c2 + 1 - 1).toNat = x.toNat by omega]
                 omega)) (uv) e25 (f26.at (by decide) p_H13) (f26.at (by decide) q_H13) (f26.at (by decide) u_H13) (f26.at (by decide) v_H13) (yfr.tr (yfr.tr fr23 f_H13 (fun _ h => h) (by decide)) f26 (fun _ h => h) (by decide)) rfl)
              · exfalso; omega
          · rw [w15]
            refine E_run hk 1 (j' := 39) (lv' := [(6, yi 3), (0, .ref 43), (1, .ref 29), (2, yi i), (3, yi j), (4, yi z), (5, yi x)]) (st' := [yi 3]) (hp' := H13) rfl ?_
            refine Y_if_eq (a := 3) (by omega) hk rfl (fun g27 => ?_) (fun g27 => ?_)
            · exfalso; omega
            ·
              refine E_run hk 5 (j' := 46) (lv' := [(4, yi 1), (6, yi 3), (0, .ref 43), (1, .ref 29), (2, yi i), (3, yi j), (5, yi x)]) (st' := [yi 2, yi 3]) (hp' := H13) rfl ?_
              refine Y_ic_eq (a := 3) (b := 2) (by omega) hk rfl (fun g28 => ?_) (fun g28 => ?_)
              · exfalso; omega
              ·
                refine E_run hk 2 (j' := 49) (lv' := [(4, yi 1), (6, yi 3), (0, .ref 43), (1, .ref 29), (2, yi i), (3, yi j), (5, yi x)]) (st' := [yi 3, yi 3]) (hp' := H13) rfl ?_
                refine Y_ic_ne (a := 3) (b := 3) (by omega) hk rfl (fun g29 => ?_) (fun g29 => ?_)
                · exfalso; omega
                ·
                  refine E_run hk 2 (j' := 52) (lv' := [(4, yi 1), (6, yi 3), (0, .ref 43), (1, .ref 29), (2, yi i), (3, yi j), (5, yi x)]) (st' := [.ref 43, .ref 43]) (hp' := H13) rfl ?_
                  refine E_get (v := yi e2) hk rfl m_H13 rfl ?_
                  refine E_run hk 1 (j' := 54) (lv' := [(4, yi 1), (6, yi 3), (0, .ref 43), (1, .ref 29), (2, yi i), (3, yi j), (5, yi x)]) (st' := [yi 1, yi e2, .ref 43]) (hp' := H13) rfl ?_
                  refine Y_iadd (a := e2) (b := 1) hk rfl ?_
                  refine Y_put hk rfl m_H13 (by decide) (Nat.le_of_ble_eq_true rfl) rfl (fs' := [.ref 44, .ref 46, .ref 48, .ref 50, .ref 52, .ref 53, .ref 54, .ref 55, yi (c2 + 1), yi (e2 + 1), yi nb]) rfl (fun H30 e31 f32 => ?_)
                  refine E_run hk 2 (j' := 58) (lv' := [(4, yi 1), (6, yi 3), (0, .ref 43), (1, .ref 29), (2, yi i), (3, yi j), (5, yi x)]) (st' := [yi 3, yi i]) (hp' := H30) rfl ?_
                  refine Y_callP hk rfl (as := [yi i, yi 3]) (rest := []) (v := some (yi i)) rfl rfl (Nat.le_of_ble_eq_true rfl) rfl (Nat.le_of_ble_eq_true rfl) (c_X2_firstAfter3 (i := i)) ?_
                  refine E_run hk 3 (j' := 62) (lv' := [(2, yi i), (4, yi 1), (6, yi 3), (0, .ref 43), (1, .ref 29), (3, yi j), (5, yi x)]) (st' := [yi 3, yi j]) (hp' := H30) rfl ?_
                  refine Y_callP hk rfl (as := [yi j, yi 3]) (rest := []) (v := some (yi (j + 1))) rfl rfl (Nat.le_of_ble_eq_true rfl) rfl (Nat.le_of_ble_eq_true rfl) (c_X2_secondAfter3 (i := j)) ?_
                  refine E_run hk 1 (j' := 64) (lv' := [(3, yi (j + 1)), (2, yi i), (4, yi 1), (6, yi 3), (0, .ref 43), (1, .ref 29), (5, yi x)]) (st' := []) (hp' := H30) rfl ?_
                  refine Y_iinc (a := x) (z := 1) hk rfl rfl rfl (by decide) (lv' := [(5, yi (x + 1)), (3, yi (j + 1)), (2, yi i), (4, yi 1), (6, yi 3), (0, .ref 43), (1, .ref 29)]) rfl ?_
                  refine E_run hk 1 (j' := 23) (lv' := [(5, yi (x + 1)), (3, yi (j + 1)), (2, yi i), (4, yi 1), (6, yi 3), (0, .ref 43), (1, .ref 29)]) (st' := []) (hp' := H30) rfl ?_
                  exact Ev_le (xle_s rfl rfl (xle_s rfl rfl (xle_s rfl rfl (xle_s rfl rfl (xle_s rfl rfl (xle_s rfl rfl (xle_z _ rfl))))))) (ih23 _ (by omega) (x + 1) 1 i (j + 1) (c2 + 1) (e2 + 1) (up P2 c2 i) (up Q2 c2 j) (up U2 i (U2 i + 1)) (up V2 j (V2 j + 1)) H30 (by have b1 := fun q => sco_inv (D := unl S 0) (w := S 3) (b := S 2) (m := S 0) (n := S 1) (i := i) (j := j) rfl q; omega) (fun qz => by
          first
            | (exfalso; revert qz; decide)
            | (exfalso; omega)
            | (rcases s1 (by omega) with ⟨v1, v2⟩ | ⟨v1, v2⟩ | ⟨v1, v2⟩ <;> first | (exfalso; omega) | skip
               have ok2 := ok (by omega)
               have v3 : spt S (x + 1).toNat = _ := sn.trans v2
               refine ⟨ma, by omega, ?_, by rw [v3], by rw [v3], pq2, ?_, ?_⟩
               · have b1 := sco_inv v1 (by omega)
                 omega
               · rw [hn, v3, sp1, sp2]
                 first
                   | (rw [if_pos (by first | exact Or.inl rfl | exact Or.inr rfl)]; omega)
                   | (rw [if_neg (by dsimp only; omega)]; omega)
               · have b1 := sco_inv v1 (by omega)
                 omega)) (fun qz => by
          first
            | (exfalso; revert qz; decide)
            | (exfalso; omega)
            | (have l : i = S 0 - 1 ∧ j = S 1 - 1 := by
                 by_cases q : i = S 0 - 1 ∧ j = S 1 - 1
                 · exact q
                 · rcases s1 q with v | v | v <;> omega
               refine ⟨Or.inr ⟨ma, by omega, by omega, ?_, fun y y1 y2 => pq2 y y1 (by omega)⟩, ?_⟩
               · rw [show (c2 + 1 - 1).toNat = x.toNat by omega]
                 exact Prod.ext (by rw [sp1]; exact l.1) (by rw [sp2]; exact l.2)
               · rw [show (c2 + 1 - 1).toNat = x.toNat by omega]
                 omega)) (uv) e31 (f32.at (by decide) p_H13) (f32.at (by decide) q_H13) (f32.at (by decide) u_H13) (f32.at (by decide) v_H13) (yfr.tr (yfr.tr fr23 f_H13 (fun _ h => h) (by decide)) f32 (fun _ h => h) (by decide)) rfl)
  exact Ev_le (xle_s rfl rfl (xle_s rfl rfl (xle_s rfl rfl (xle_s rfl rfl (xle_s rfl rfl (xle_s rfl rfl (xle_z _ rfl))))))) (loop23 _ 0 (b2 (0 < S 0 ∧ 0 < S 1 ∧ -S 2 ≤ S 0 - S 1 ∧ S 0 - S 1 ≤ S 2)) 0 0 0 0 P Q F_H7 F_H9 H9 (by refine ⟨by omega, by omega, ?_⟩; unfold b2; split <;> omega) (fun q => by
      have ma : mat S := by
        by_cases q2 : 0 < S 0 ∧ 0 < S 1 ∧ -S 2 ≤ S 0 - S 1 ∧ S 0 - S 1 ≤ S 2
        · exact q2
        · rw [b2_f q2] at q
          exact absurd q (by decide)
      have mz := ma
      unfold mat at mz
      exact ⟨ma, rfl, by omega, rfl, rfl, fun y y1 y2 => absurd y1 (by omega), rfl, bw_fin (by omega) (by omega) hDD mz.2.2 _ 0 0 (by omega) (by omega) (by omega) (by omega) (by omega) (by omega) rfl⟩) (fun q => by
      have ma : ¬ mat S := fun q2 => by
        rw [b2_t (show 0 < S 0 ∧ 0 < S 1 ∧ -S 2 ≤ S 0 - S 1 ∧ S 0 - S 1 ≤ S 2 from q2)] at q
        exact absurd q (by decide)
      exact ⟨Or.inl ⟨ma, rfl⟩, rfl⟩) (fun y y1 y2 => ⟨(a_H7 y y1 (by omega)).trans cnt_zero.symm, (a_H9 y y1 (by omega)).trans cnt_zero.symm⟩) (f_H9.at (by decide) (f_H7.at (by decide) e5)) (f_H9.at (by decide) (f_H7.at (by decide) (f6.at (by decide) (f3.at (by decide) h52)))) (f_H9.at (by decide) (f_H7.at (by decide) (f6.at (by decide) (f3.at (by decide) h53)))) (f_H9.at (by decide) e_H7) e_H9 (yfr.refl _ _) rfl)
/-- the matches of 43 are those of S -/
abbrev yMk (h : xH) (S : Int → Int) (c : Int) (A B P Q U V : Int → Int) : Prop := xat h 43 = some (.inr (3, [.ref 44, .ref 46, .ref 48, .ref 50, .ref 52, .ref 53, .ref 54, .ref 55, yi c, yi (hls S (c - 1).toNat), yi (if 0 < S 0 ∧ 0 < S 1 ∧ -S 2 ≤ S 0 - S 1 ∧ S 0 - S 1 ≤ S 2 then wy (unl S 0) (S 3) (S 2) (S 0) (S 1) 0 0 else 0)])) ∧ xat h 45 = some (yI 400 A) ∧ xat h 47 = some (yI 400 B) ∧ xat h 52 = some (yI 39 P) ∧ xat h 53 = some (yI 39 Q) ∧ xat h 54 = some (yI 20 U) ∧ xat h 55 = some (yI 20 V) ∧ (∀ x y, 0 ≤ x → x < S 0 → 0 ≤ y → y < S 1 → A (20 * x + y) = far (fw (unl S 0) (S 3) (S 2) x y)) ∧ (∀ x y, 0 ≤ x → x < S 0 → 0 ≤ y → y < S 1 → B (20 * x + y) = far (bw (unl S 0) (S 3) (S 2) (S 0) (S 1) x y)) ∧ mtu S c P Q U V
theorem c_X2_find {d : Nat} {hp : xH} {c e nb : Int} (h43 : xat hp 43 = some (.inr (3, [.ref 44, .ref 46, .ref 48, .ref 50, .ref 52, .ref 53, .ref 54, .ref 55, yi c, yi e, yi nb]))) (h44 : xat hp 44 = some (.inr (1, [.ref 45]))) (h46 : xat hp 46 = some (.inr (1, [.ref 47]))) (h48 : xat hp 48 = some (.inr (1, [.ref 49]))) (h50 : xat hp 50 = some (.inr (1, [.ref 51]))) {A B C N P Q U V : Int → Int} (h45 : xat hp 45 = some (yI 400 A)) (h47 : xat hp 47 = some (yI 400 B)) (h49 : xat hp 49 = some (yI 400 C)) (h51 : xat hp 51 = some (yI 400 N)) (h52 : xat hp 52 = some (yI 39 P)) (h53 : xat hp 53 = some (yI 39 Q)) (h54 : xat hp 54 = some (yI 20 U)) (h55 : xat hp 55 = some (yI 20 V)) {z o : Nat} {S f g : Int → Int} {r t : Int} (hS : yS hp 29 z o S f g r t) (hz : 0 ≤ S 0 ∧ S 0 ≤ 20 ∧ 0 ≤ S 1 ∧ S 1 ≤ 20 ∧ 0 ≤ S 2 ∧ S 2 ≤ 20 ∧ 0 ≤ S 3 ∧ S 3 ≤ 50 ∧ 0 ≤ S 4 ∧ S 4 ≤ 3) (h0 : ∀ q, 0 ≤ q → q < S 0 → 0 ≤ S (7 + q) ∧ S (7 + q) ≤ 60) (h1 : ∀ q, 0 ≤ q → q < S 1 → 0 ≤ S (27 + q) ∧ S (27 + q) ≤ 60) (hd : 4 ≤ d) : Cv d 9 [.ref 43, .ref 29] hp (yR none (fun h => ∃ c A B C N P Q U V, yMk h S c A B P Q U V ∧ xat h 49 = some (yI 400 C) ∧ xat h 51 = some (yI 400 N) ∧ yfr [43, 45, 47, 49, 51, 52, 53, 54, 55] hp h)) := by
  have hk : xtab 9 = (xc_9, 2, 0, []) := rfl
  obtain ⟨d, rfl⟩ : ∃ e, d = e + 1 := ⟨d - 1, by omega⟩
  obtain ⟨hid, hs_, hz_, ho_, hf_, hg_, ef, eg⟩ := hS
  have hDD : ∀ i j, 0 ≤ i → i < S 0 → 0 ≤ j → j < S 1 → 0 ≤ unl S 0 i j ∧ unl S 0 i j ≤ 5184 := fun i j a1 a2 a3 a4 => unl_rng hz h0 h1 (by omega) a1 a2 a3 a4
  show Ev (d + 1) 9 0 [(0, .ref 43), (1, .ref 29)] [] hp _
  refine E_run hk 1 (j' := 1) (lv' := [(0, .ref 43), (1, .ref 29)]) (st' := [.ref 43]) (hp' := hp) rfl ?_
  refine E_get (v := .ref 44) hk rfl h43 rfl ?_
  refine E_run hk 3 (j' := 5) (lv' := [(0, .ref 43), (1, .ref 29)]) (st' := [.ref 29, yi 0, .ref 29, .ref 44]) (hp' := hp) rfl ?_
  refine E_get (v := yi (S 2)) hk rfl hs_ rfl ?_
  refine Y_call hk rfl (as := [.ref 44, .ref 29, yi 0, yi (S 2)]) (rest := []) (v := none) rfl rfl (Nat.le_of_ble_eq_true rfl) (rcv0 h44) (Nat.le_of_ble_eq_true rfl) (c_X0_tellFromBegin (b := 0) (u := (S 2)) (a := 44) (p := 45) (k := A) ⟨by decide, by decide, by decide⟩ h44 h45 ⟨hid, hs_, hz_, ho_, hf_, hg_, ef, eg⟩ ⟨by unfold apart; decide, by unfold apart; decide⟩ hz h0 h1 (by omega) (by omega) (hd := by omega)) (fun H1 r2 => ?_)
  obtain ⟨F_H1, e_H1, a_H1, f_H1⟩ := r2
  refine E_run hk 1 (j' := 8) (lv' := [(0, .ref 43), (1, .ref 29)]) (st' := [.ref 43]) (hp' := H1) rfl ?_
  refine E_get (v := .ref 46) hk rfl (f_H1.at (by decide) h43) rfl ?_
  refine E_run hk 1 (j' := 10) (lv' := [(0, .ref 43), (1, .ref 29)]) (st' := [.ref 29, .ref 46]) (hp' := H1) rfl ?_
  refine Y_call hk rfl (as := [.ref 46, .ref 29]) (rest := []) (v := none) rfl rfl (Nat.le_of_ble_eq_true rfl) (rcv0 (f_H1.at (by decide) h46)) (Nat.le_of_ble_eq_true rfl) (c_X0_tellFromEnd (a := 46) (p := 47) (k := B) ⟨by decide, by decide, by decide⟩ (f_H1.at (by decide) h46) (f_H1.at (by decide) h47) ⟨hid, (f_H1.at (by decide) hs_), (f_H1.at (by simp only [List.mem_cons, List.not_mem_nil, or_false, not_or]; exact (Ne.symm (sok hid (by unfold apart; decide)).2.1)) hz_), (f_H1.at (by simp only [List.mem_cons, List.not_mem_nil, or_false, not_or]; exact (Ne.symm (sok hid (by unfold apart; decide)).2.2.2.1)) ho_), (f_H1.at (by simp only [List.mem_cons, List.not_mem_nil, or_false, not_or]; exact (Ne.symm (sok hid (by unfold apart; decide)).2.2.1)) hf_), (f_H1.at (by simp only [List.mem_cons, List.not_mem_nil, or_false, not_or]; exact (Ne.symm (sok hid (by unfold apart; decide)).2.2.2.2)) hg_), ef, eg⟩ ⟨by unfold apart; decide, by unfold apart; decide⟩ hz h0 h1 (hd := by omega)) (fun H3 r4 => ?_)
  obtain ⟨F_H3, e_H3, a_H3, b_H3, f_H3⟩ := r4
  refine E_run hk 2 (j' := 13) (lv' := [(0, .ref 43), (1, .ref 29)]) (st' := [.ref 29, .ref 43]) (hp' := H3) rfl ?_
  refine Y_call hk rfl (as := [.ref 43, .ref 29]) (rest := []) (v := none) rfl rfl (Nat.le_of_ble_eq_true rfl) (rcv0 (f_H3.at (by decide) (f_H1.at (by decide) h43))) (Nat.le_of_ble_eq_true rfl) (c_X2_tellSteps (f_H3.at (by decide) (f_H1.at (by decide) h43)) (f_H3.at (by decide) (f_H1.at (by decide) h44)) (f_H3.at (by decide) (f_H1.at (by decide) h46)) (f_H3.at (by decide) (f_H1.at (by decide) h48)) (f_H3.at (by decide) (f_H1.at (by decide) h50)) (f_H3.at (by decide) e_H1) e_H3 (f_H3.at (by decide) (f_H1.at (by decide) h49)) (f_H3.at (by decide) (f_H1.at (by decide) h51)) (f_H3.at (by decide) (f_H1.at (by decide) h52)) (f_H3.at (by decide) (f_H1.at (by decide) h53)) (f_H3.at (by decide) (f_H1.at (by decide) h54)) (f_H3.at (by decide) (f_H1.at (by decide) h55)) ⟨hid, (f_H3.at (by decide) (f_H1.at (by decide) hs_)), (f_H3.at (by simp only [List.mem_cons, List.not_mem_nil, or_false, not_or]; exact (Ne.symm (sok hid (by unfold apart; decide)).2.1)) (f_H1.at (by simp only [List.mem_cons, List.not_mem_nil, or_false, not_or]; exact (Ne.symm (sok hid (by unfold apart; decide)).2.1)) hz_)), (f_H3.at (by simp only [List.mem_cons, List.not_mem_nil, or_false, not_or]; exact (Ne.symm (sok hid (by unfold apart; decide)).2.2.2.1)) (f_H1.at (by simp only [List.mem_cons, List.not_mem_nil, or_false, not_or]; exact (Ne.symm (sok hid (by unfold apart; decide)).2.2.2.1)) ho_)), (f_H3.at (by simp only [List.mem_cons, List.not_mem_nil, or_false, not_or]; exact (Ne.symm (sok hid (by unfold apart; decide)).2.2.1)) (f_H1.at (by simp only [List.mem_cons, List.not_mem_nil, or_false, not_or]; exact (Ne.symm (sok hid (by unfold apart; decide)).2.2.1)) hf_)), (f_H3.at (by simp only [List.mem_cons, List.not_mem_nil, or_false, not_or]; exact (Ne.symm (sok hid (by unfold apart; decide)).2.2.2.2)) (f_H1.at (by simp only [List.mem_cons, List.not_mem_nil, or_false, not_or]; exact (Ne.symm (sok hid (by unfold apart; decide)).2.2.2.2)) hg_)), ef, eg⟩ hz h0 h1 (fun x y x1 x2 y1 y2 => a_H3 x y (by omega) x2 y1 y2) b_H3 (hd := by omega)) (fun H5 r6 => ?_)
  obtain ⟨C_H5, N_H5, c_H5, n_H5, a_H5, f_H5⟩ := r6
  refine E_run hk 2 (j' := 16) (lv' := [(0, .ref 43), (1, .ref 29)]) (st' := [.ref 29, .ref 43]) (hp' := H5) rfl ?_
  refine Y_call hk rfl (as := [.ref 43, .ref 29]) (rest := []) (v := none) rfl rfl (Nat.le_of_ble_eq_true rfl) (rcv0 (f_H5.at (by decide) (f_H3.at (by decide) (f_H1.at (by decide) h43)))) (Nat.le_of_ble_eq_true rfl) (c_X2_walkFirst (f_H5.at (by decide) (f_H3.at (by decide) (f_H1.at (by decide) h43))) (f_H5.at (by decide) (f_H3.at (by decide) (f_H1.at (by decide) h44))) (f_H5.at (by decide) (f_H3.at (by decide) (f_H1.at (by decide) h46))) (f_H5.at (by decide) (f_H3.at (by decide) (f_H1.at (by decide) h48))) (f_H5.at (by decide) (f_H3.at (by decide) (f_H1.at (by decide) h50))) (f_H5.at (by decide) (f_H3.at (by decide) e_H1)) (f_H5.at (by decide) e_H3) c_H5 n_H5 (f_H5.at (by decide) (f_H3.at (by decide) (f_H1.at (by decide) h52))) (f_H5.at (by decide) (f_H3.at (by decide) (f_H1.at (by decide) h53))) (f_H5.at (by decide) (f_H3.at (by decide) (f_H1.at (by decide) h54))) (f_H5.at (by decide) (f_H3.at (by decide) (f_H1.at (by decide) h55))) ⟨hid, (f_H5.at (by decide) (f_H3.at (by decide) (f_H1.at (by decide) hs_))), (f_H5.at (by simp only [List.mem_cons, List.not_mem_nil, or_false, not_or]; exact ⟨(Ne.symm (sok hid (by unfold apart; decide)).2.1), (Ne.symm (sok hid (by unfold apart; decide)).2.1)⟩) (f_H3.at (by simp only [List.mem_cons, List.not_mem_nil, or_false, not_or]; exact (Ne.symm (sok hid (by unfold apart; decide)).2.1)) (f_H1.at (by simp only [List.mem_cons, List.not_mem_nil, or_false, not_or]; exact (Ne.symm (sok hid (by unfold apart; decide)).2.1)) hz_))), (f_H5.at (by simp only [List.mem_cons, List.not_mem_nil, or_false, not_or]; exact ⟨(Ne.symm (sok hid (by unfold apart; decide)).2.2.2.1), (Ne.symm (sok hid (by unfold apart; decide)).2.2.2.1)⟩) (f_H3.at (by simp only [List.mem_cons, List.not_mem_nil, or_false, not_or]; exact (Ne.symm (sok hid (by unfold apart; decide)).2.2.2.1)) (f_H1.at (by simp only [List.mem_cons, List.not_mem_nil, or_false, not_or]; exact (Ne.symm (sok hid (by unfold apart; decide)).2.2.2.1)) ho_))), (f_H5.at (by simp only [List.mem_cons, List.not_mem_nil, or_false, not_or]; exact ⟨(Ne.symm (sok hid (by unfold apart; decide)).2.2.1), (Ne.symm (sok hid (by unfold apart; decide)).2.2.1)⟩) (f_H3.at (by simp only [List.mem_cons, List.not_mem_nil, or_false, not_or]; exact (Ne.symm (sok hid (by unfold apart; decide)).2.2.1)) (f_H1.at (by simp only [List.mem_cons, List.not_mem_nil, or_false, not_or]; exact (Ne.symm (sok hid (by unfold apart; decide)).2.2.1)) hf_))), (f_H5.at (by simp only [List.mem_cons, List.not_mem_nil, or_false, not_or]; exact ⟨(Ne.symm (sok hid (by unfold apart; decide)).2.2.2.2), (Ne.symm (sok hid (by unfold apart; decide)).2.2.2.2)⟩) (f_H3.at (by simp only [List.mem_cons, List.not_mem_nil, or_false, not_or]; exact (Ne.symm (sok hid (by unfold apart; decide)).2.2.2.2)) (f_H1.at (by simp only [List.mem_cons, List.not_mem_nil, or_false, not_or]; exact (Ne.symm (sok hid (by unfold apart; decide)).2.2.2.2)) hg_))), ef, eg⟩ hz h0 h1 a_H5 (hd := by omega)) (fun H7 r8 => ?_)
  obtain ⟨c_H7, P_H7, Q_H7, U_H7, V_H7, m_H7, p_H7, q_H7, u_H7, v_H7, t_H7, f_H7⟩ := r8
  refine E_run hk 2 (j' := 19) (lv' := [(0, .ref 43), (1, .ref 29)]) (st' := [.ref 29, .ref 43]) (hp' := H7) rfl ?_
  refine Y_callP hk rfl (as := [.ref 29]) (rest := [.ref 43]) (v := some (yi (b2 (0 < S 0 ∧ 0 < S 1 ∧ -S 2 ≤ S 0 - S 1 ∧ S 0 - S 1 ≤ S 2)))) rfl rfl (Nat.le_of_ble_eq_true rfl) (rcv0 (f_H7.at (by decide) (f_H5.at (by decide) (f_H3.at (by decide) (f_H1.at (by decide) hs_))))) (Nat.le_of_ble_eq_true rfl) (c_X5_hasMatch ⟨hid, (f_H7.at (by decide) (f_H5.at (by decide) (f_H3.at (by decide) (f_H1.at (by decide) hs_)))), (f_H7.at (by simp only [List.mem_cons, List.not_mem_nil, or_false, not_or]; exact ⟨(Ne.symm (sok hid (by unfold apart; decide)).2.1), (Ne.symm (sok hid (by unfold apart; decide)).2.1), (Ne.symm (sok hid (by unfold apart; decide)).2.1), (Ne.symm (sok hid (by unfold apart; decide)).2.1), (Ne.symm (sok hid (by unfold apart; decide)).2.1)⟩) (f_H5.at (by simp only [List.mem_cons, List.not_mem_nil, or_false, not_or]; exact ⟨(Ne.symm (sok hid (by unfold apart; decide)).2.1), (Ne.symm (sok hid (by unfold apart; decide)).2.1)⟩) (f_H3.at (by simp only [List.mem_cons, List.not_mem_nil, or_false, not_or]; exact (Ne.symm (sok hid (by unfold apart; decide)).2.1)) (f_H1.at (by simp only [List.mem_cons, List.not_mem_nil, or_false, not_or]; exact (Ne.symm (sok hid (by unfold apart; decide)).2.1)) hz_)))), (f_H7.at (by simp only [List.mem_cons, List.not_mem_nil, or_false, not_or]; exact ⟨(Ne.symm (sok hid (by unfold apart; decide)).2.2.2.1), (Ne.symm (sok hid (by unfold apart; decide)).2.2.2.1), (Ne.symm (sok hid (by unfold apart; decide)).2.2.2.1), (Ne.symm (sok hid (by unfold apart; decide)).2.2.2.1), (Ne.symm (sok hid (by unfold apart; decide)).2.2.2.1)⟩) (f_H5.at (by simp only [List.mem_cons, List.not_mem_nil, or_false, not_or]; exact ⟨(Ne.symm (sok hid (by unfold apart; decide)).2.2.2.1), (Ne.symm (sok hid (by unfold apart; decide)).2.2.2.1)⟩) (f_H3.at (by simp only [List.mem_cons, List.not_mem_nil, or_false, not_or]; exact (Ne.symm (sok hid (by unfold apart; decide)).2.2.2.1)) (f_H1.at (by simp only [List.mem_cons, List.not_mem_nil, or_false, not_or]; exact (Ne.symm (sok hid (by unfold apart; decide)).2.2.2.1)) ho_)))), (f_H7.at (by simp only [List.mem_cons, List.not_mem_nil, or_false, not_or]; exact ⟨(Ne.symm (sok hid (by unfold apart; decide)).2.2.1), (Ne.symm (sok hid (by unfold apart; decide)).2.2.1), (Ne.symm (sok hid (by unfold apart; decide)).2.2.1), (Ne.symm (sok hid (by unfold apart; decide)).2.2.1), (Ne.symm (sok hid (by unfold apart; decide)).2.2.1)⟩) (f_H5.at (by simp only [List.mem_cons, List.not_mem_nil, or_false, not_or]; exact ⟨(Ne.symm (sok hid (by unfold apart; decide)).2.2.1), (Ne.symm (sok hid (by unfold apart; decide)).2.2.1)⟩) (f_H3.at (by simp only [List.mem_cons, List.not_mem_nil, or_false, not_or]; exact (Ne.symm (sok hid (by unfold apart; decide)).2.2.1)) (f_H1.at (by simp only [List.mem_cons, List.not_mem_nil, or_false, not_or]; exact (Ne.symm (sok hid (by unfold apart; decide)).2.2.1)) hf_)))), (f_H7.at (by simp only [List.mem_cons, List.not_mem_nil, or_false, not_or]; exact ⟨(Ne.symm (sok hid (by unfold apart; decide)).2.2.2.2), (Ne.symm (sok hid (by unfold apart; decide)).2.2.2.2), (Ne.symm (sok hid (by unfold apart; decide)).2.2.2.2), (Ne.symm (sok hid (by unfold apart; decide)).2.2.2.2), (Ne.symm (sok hid (by unfold apart; decide)).2.2.2.2)⟩) (f_H5.at (by simp only [List.mem_cons, List.not_mem_nil, or_false, not_or]; exact ⟨(Ne.symm (sok hid (by unfold apart; decide)).2.2.2.2), (Ne.symm (sok hid (by unfold apart; decide)).2.2.2.2)⟩) (f_H3.at (by simp only [List.mem_cons, List.not_mem_nil, or_false, not_or]; exact (Ne.symm (sok hid (by unfold apart; decide)).2.2.2.2)) (f_H1.at (by simp only [List.mem_cons, List.not_mem_nil, or_false, not_or]; exact (Ne.symm (sok hid (by unfold apart; decide)).2.2.2.2)) hg_)))), ef, eg⟩ (by omega) (by omega) (hd := by omega)) ?_
  refine Y_b_eq hk rfl (fun g9 => ?_) (fun g9 => ?_)
  ·
    refine E_run hk 1 (j' := 28) (lv' := [(0, .ref 43), (1, .ref 29)]) (st' := [yi 0, .ref 43]) (hp' := H7) rfl ?_
    refine Y_put hk rfl m_H7 (by decide) (Nat.le_of_ble_eq_true rfl) rfl (fs' := [.ref 44, .ref 46, .ref 48, .ref 50, .ref 52, .ref 53, .ref 54, .ref 55, yi c_H7, yi (hls S (c_H7 - 1).toNat), yi 0]) rfl (fun H10 e11 f12 => ?_)
    exact E_ret hk rfl rfl (by
      have e8 : (if 0 < S 0 ∧ 0 < S 1 ∧ -S 2 ≤ S 0 - S 1 ∧ S 0 - S 1 ≤ S 2 then wy (unl S 0) (S 3) (S 2) (S 0) (S 1) 0 0 else 0) = 0 := by
        exact if_neg (by omega)
      exact ⟨rfl, c_H7, F_H1, F_H3, _, _, P_H7, Q_H7, U_H7, V_H7, ⟨by rw [e8]; exact e11, (f12.at (by decide) (f_H7.at (by decide) (f_H5.at (by decide) (f_H3.at (by decide) e_H1)))), (f12.at (by decide) (f_H7.at (by decide) (f_H5.at (by decide) e_H3))), (f12.at (by decide) p_H7), (f12.at (by decide) q_H7), (f12.at (by decide) u_H7), (f12.at (by decide) v_H7), a_H1, a_H3, t_H7⟩, (f12.at (by decide) (f_H7.at (by decide) c_H5)), (f12.at (by decide) (f_H7.at (by decide) n_H5)), (yfr.tr (yfr.tr (yfr.tr (yfr.tr (f_H1.mono (by decide)) f_H3 (fun _ h => h) (by decide)) f_H5 (fun _ h => h) (by decide)) f_H7 (fun _ h => h) (by decide)) f12 (fun _ h => h) (by decide))⟩)
  ·
    refine E_run hk 1 (j' := 22) (lv' := [(0, .ref 43), (1, .ref 29)]) (st' := [.ref 43, .ref 43]) (hp' := H7) rfl ?_
    refine E_get (v := .ref 50) hk rfl m_H7 rfl ?_
    refine E_run hk 2 (j' := 25) (lv' := [(0, .ref 43), (1, .ref 29)]) (st' := [yi 0, yi 0, .ref 50, .ref 43]) (hp' := H7) rfl ?_
    refine Y_callP hk rfl (as := [.ref 50, yi 0, yi 0]) (rest := [.ref 43]) (v := some (yi (gat N_H5 0 0))) rfl rfl (Nat.le_of_ble_eq_true rfl) (rcv0 (f_H7.at (by decide) (f_H5.at (by decide) (f_H3.at (by decide) (f_H1.at (by decide) h50))))) (Nat.le_of_ble_eq_true rfl) (c_X0_at (i := 0) (j := 0) (a := 50) (p := 51) (k := N_H5) ⟨by decide, by decide, by decide⟩ (f_H7.at (by decide) (f_H5.at (by decide) (f_H3.at (by decide) (f_H1.at (by decide) h50)))) (f_H7.at (by decide) n_H5) (by omega)) ?_
    refine E_run hk 1 (j' := 28) (lv' := [(0, .ref 43), (1, .ref 29)]) (st' := [yi (gat N_H5 0 0), .ref 43]) (hp' := H7) rfl ?_
    refine Y_put hk rfl m_H7 (by decide) (Nat.le_of_ble_eq_true rfl) rfl (fs' := [.ref 44, .ref 46, .ref 48, .ref 50, .ref 52, .ref 53, .ref 54, .ref 55, yi c_H7, yi (hls S (c_H7 - 1).toNat), yi (gat N_H5 0 0)]) rfl (fun H13 e14 f15 => ?_)
    exact E_ret hk rfl rfl (by
      have e8 : (if 0 < S 0 ∧ 0 < S 1 ∧ -S 2 ≤ S 0 - S 1 ∧ S 0 - S 1 ≤ S 2 then wy (unl S 0) (S 3) (S 2) (S 0) (S 1) 0 0 else 0) = gat N_H5 0 0 := by
        rw [if_pos (by omega)]
        unfold gat
        rw [if_pos (by decide)]
        exact (a_H5 0 0 (by omega) (by omega) (by omega) (by omega) (bw_fin (by omega) (by omega) hDD (by omega) _ 0 0 (by omega) (by omega) (by omega) (by omega) (by omega) (by omega) rfl)).2.symm
      exact ⟨rfl, c_H7, F_H1, F_H3, _, _, P_H7, Q_H7, U_H7, V_H7, ⟨by rw [e8]; exact e14, (f15.at (by decide) (f_H7.at (by decide) (f_H5.at (by decide) (f_H3.at (by decide) e_H1)))), (f15.at (by decide) (f_H7.at (by decide) (f_H5.at (by decide) e_H3))), (f15.at (by decide) p_H7), (f15.at (by decide) q_H7), (f15.at (by decide) u_H7), (f15.at (by decide) v_H7), a_H1, a_H3, t_H7⟩, (f15.at (by decide) (f_H7.at (by decide) c_H5)), (f15.at (by decide) (f_H7.at (by decide) n_H5)), (yfr.tr (yfr.tr (yfr.tr (yfr.tr (f_H1.mono (by decide)) f_H3 (fun _ h => h) (by decide)) f_H5 (fun _ h => h) (by decide)) f_H7 (fun _ h => h) (by decide)) f15 (fun _ h => h) (by decide))⟩)
