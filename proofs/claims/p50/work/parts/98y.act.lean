/-! act: what is done, or nothing. -/
def nxt0 (S : Int → Int) (a t p k u v w : Int) : Option (Int → Int) :=
  if a ≤ 5 then (if S (0 + t) = 12 then none else some (nxAdd S t p)) else
  if a = 6 then (if k < 0 then none else some (nxSet S t k p)) else
  if a = 7 then (if k < 0 then none else some (nxDrop S t k)) else
  if a = 8 then (if 6 < S (0 + t) then none else some (nxSlow S t)) else
  if a = 9 then some (nxFlip S t) else
  if a = 10 then some (nxEx S) else
  if a = 11 ∨ a = 12 then some (up S 2 u) else
  if a = 13 then some (up S 3 v) else some (up S 4 w)
def nxt (S : Int → Int) (v x : Int) : Option (Int → Int) := nxt0 S (an v 15) (an (sr v 4) 1) (lwv x (if an (sr x 20) 1 = 0 then 14 else 61)) (if S (0 + an (sr v 4) 1) = 0 then -1 else lwv (sr v 5) (S (0 + an (sr v 4) 1))) (lwv x (if an (sr x 20) 1 = 0 then 6 else 21)) (lwv x (if an (sr x 20) 1 = 0 then 5 else 51)) (an x 3)
section NC
variable {S : Int → Int} {a t p k u v w : Int}
theorem nx_add0 (ha : a ≤ 5) (hl : S (0 + t) = 12) : nxt0 S a t p k u v w = none := by
  unfold nxt0
  rw [if_pos (by omega), if_pos hl]
theorem nx_add1 (ha : a ≤ 5) (hl : ¬ S (0 + t) = 12) : nxt0 S a t p k u v w = some (nxAdd S t p) := by
  unfold nxt0
  rw [if_pos (by omega), if_neg hl]
theorem nx_set0 (ha : a = 6) (hl : k < 0) : nxt0 S a t p k u v w = none := by
  unfold nxt0
  rw [if_neg (by omega), if_pos (by omega), if_pos hl]
theorem nx_set1 (ha : a = 6) (hl : ¬ k < 0) : nxt0 S a t p k u v w = some (nxSet S t k p) := by
  unfold nxt0
  rw [if_neg (by omega), if_pos (by omega), if_neg hl]
theorem nx_drop0 (ha : a = 7) (hl : k < 0) : nxt0 S a t p k u v w = none := by
  unfold nxt0
  rw [if_neg (by omega), if_neg (by omega), if_pos (by omega), if_pos hl]
theorem nx_drop1 (ha : a = 7) (hl : ¬ k < 0) : nxt0 S a t p k u v w = some (nxDrop S t k) := by
  unfold nxt0
  rw [if_neg (by omega), if_neg (by omega), if_pos (by omega), if_neg hl]
theorem nx_slow0 (ha : a = 8) (hl : 6 < S (0 + t)) : nxt0 S a t p k u v w = none := by
  unfold nxt0
  rw [if_neg (by omega), if_neg (by omega), if_neg (by omega), if_pos (by omega), if_pos hl]
theorem nx_slow1 (ha : a = 8) (hl : ¬ 6 < S (0 + t)) : nxt0 S a t p k u v w = some (nxSlow S t) := by
  unfold nxt0
  rw [if_neg (by omega), if_neg (by omega), if_neg (by omega), if_pos (by omega), if_neg hl]
theorem nx_flip (ha : a = 9) : nxt0 S a t p k u v w = some (nxFlip S t) := by
  unfold nxt0
  rw [if_neg (by omega), if_neg (by omega), if_neg (by omega), if_neg (by omega), if_pos (by omega)]
theorem nx_ex (ha : a = 10) : nxt0 S a t p k u v w = some (nxEx S) := by
  unfold nxt0
  rw [if_neg (by omega), if_neg (by omega), if_neg (by omega), if_neg (by omega), if_neg (by omega), if_pos (by omega)]
theorem nx_bound (ha : a = 11 ∨ a = 12) : nxt0 S a t p k u v w = some (up S 2 u) := by
  unfold nxt0
  rw [if_neg (by omega), if_neg (by omega), if_neg (by omega), if_neg (by omega), if_neg (by omega), if_neg (by omega), if_pos (by omega)]
theorem nx_hold (ha : a = 13) : nxt0 S a t p k u v w = some (up S 3 v) := by
  unfold nxt0
  rw [if_neg (by omega), if_neg (by omega), if_neg (by omega), if_neg (by omega), if_neg (by omega), if_neg (by omega), if_neg (by omega), if_pos (by omega)]
theorem nx_judge (ha : 13 < a) : nxt0 S a t p k u v w = some (up S 4 w) := by
  unfold nxt0
  rw [if_neg (by omega), if_neg (by omega), if_neg (by omega), if_neg (by omega), if_neg (by omega), if_neg (by omega), if_neg (by omega), if_neg (by omega)]
end NC
theorem act_31 {L : Nat} {F : Int → Int} {b0 b n : Int} {h : xH} {S T : Int → Int} {v x t p k : Int} {d : Nat} (hd : 7 ≤ d) (W_h : pzI L F b0 h n S T) (hv : -2147483648 ≤ v ∧ v ≤ 2147483647) (hx9 : -2147483648 ≤ x ∧ x ≤ 2147483647) (ht : t = an (sr v 4) 1) (hp9 : p = lwv x (if an (sr x 20) 1 = 0 then 14 else 61)) (hk9 : k = if S (0 + t) = 0 then -1 else lwv (sr v 5) (S (0 + t))) (hb : b0 + 3 ≤ b) : Ev d 117 31 [(0, .ref 28), (1, yi v), (2, yi x), (3, yi t), (4, yi p)] [yi k] h (yE (fun z h1 => (z = 0 ∧ nxt S v x = none ∧ pzI L F b h1 n S T) ∨ (z = 1 ∧ ∃ S2, nxt S v x = some S2 ∧ pzI L F b h1 (inc6 n) S2 (rcU n S T)))) := by
  have hk : xtab 117 = (xc_117, 6, 2, []) := rfl
  obtain ⟨d, rfl⟩ : ∃ e, d = e + 1 := ⟨d - 1, by omega⟩
  obtain ⟨nu, nn, n5⟩ := W_h.nums
  have t1 := an_le (a := sr v 4) (m := 1) (by decide)
  have nt := W_h.ls t (by omega) (by omega)
  have hn : nxt S v x = nxt0 S (an v 15) t p k (lwv x (if an (sr x 20) 1 = 0 then 6 else 21)) (lwv x (if an (sr x 20) 1 = 0 then 5 else 51)) (an x 3) := by
    subst ht
    subst hp9
    subst hk9
    rfl
  have hp1 : 0 ≤ p ∧ p ≤ 60 := by
    have w1 := lwv_rng (v := x) (n := 14) (by decide)
    have w2 := lwv_rng (v := x) (n := 61) (by decide)
    rw [hp9]
    split <;> omega
  have hk1 : (k = -1 ∧ S (0 + t) = 0) ∨ (0 ≤ k ∧ k < S (0 + t)) := by
    rw [hk9]
    split
    · exact Or.inl ⟨rfl, by assumption⟩
    · exact Or.inr (lwv_rng (by omega))
  have x3 := an_le (a := x) (m := 3) (by decide)
  obtain ⟨od_h, e28_h⟩ := W_h.x28
  refine E_run hk 3 (j' := 34) (lv' := [(5, yi k), (0, .ref 28), (1, yi v), (2, yi x), (3, yi t), (4, yi p)]) (st' := [yi 15, yi v]) (hp' := h) rfl ?_
  refine Y_an (a := v) (b := 15) hk rfl ?_
  have q1 := an_le (a := v) (m := 15) (by decide)
  refine Y_sw (a := (an v 15)) (by omega) hk rfl (fun g2 => ?_) (fun g2 => ?_)
  · refine E_tgt (t := 129) rfl ?_
    refine E_run hk 3 (j' := 132) (lv' := [(5, yi k), (0, .ref 28), (1, yi v), (2, yi x), (3, yi t), (4, yi p)]) (st' := [yi 3, yi x, .ref 28]) (hp' := h) rfl ?_
    refine Y_an (a := x) (b := 3) hk rfl ?_
    have q3 := an_le (a := x) (m := 3) (by decide)
    refine Y_callE hk rfl (as := [.ref 28, yi (an x 3)]) (rest := []) rfl rfl (Nat.le_of_ble_eq_true rfl) (rcv0 e28_h) (Nat.le_of_ble_eq_true rfl) (m_setJudge W_h (y := (an x 3)) (by omega) (by omega)) (fun z4 H5 r6 => ?_)
    have W_H5 := r6
    obtain ⟨od_H5, e28_H5⟩ := W_H5.x28
    refine E_run hk 2 (j' := 136) (lv' := [(5, yi k), (0, .ref 28), (1, yi v), (2, yi x), (3, yi t), (4, yi p)]) (st' := [yi 1]) (hp' := H5) rfl ?_
    exact E_ret hk rfl rfl ⟨_, rfl, Or.inr ⟨rfl, _, hn.trans (nx_judge (by omega)), W_H5.mono (by omega)⟩⟩
  · rcases (by omega : (an v 15) = 0 ∨ (an v 15) = 1 ∨ (an v 15) = 2 ∨ (an v 15) = 3 ∨ (an v 15) = 4 ∨ (an v 15) = 5 ∨ (an v 15) = 6 ∨ (an v 15) = 7 ∨ (an v 15) = 8 ∨ (an v 15) = 9 ∨ (an v 15) = 10 ∨ (an v 15) = 11 ∨ (an v 15) = 12 ∨ (an v 15) = 13) with g2e | g2e | g2e | g2e | g2e | g2e | g2e | g2e | g2e | g2e | g2e | g2e | g2e | g2e
    · refine E_tgt (t := 36) (by rw [g2e]; rfl) ?_
      refine E_run hk 2 (j' := 38) (lv' := [(5, yi k), (0, .ref 28), (1, yi v), (2, yi x), (3, yi t), (4, yi p)]) (st' := [yi t, .ref 28]) (hp' := h) rfl ?_
      refine Y_callE hk rfl (as := [.ref 28, yi t]) (rest := []) rfl rfl (Nat.le_of_ble_eq_true rfl) (rcv0 e28_h) (Nat.le_of_ble_eq_true rfl) (p_notes W_h (x := t) (by omega) (by omega)) (fun z7 H8 r9 => ?_)
      obtain ⟨rfl, W_H8⟩ := r9
      obtain ⟨od_H8, e28_H8⟩ := W_H8.x28
      refine E_run hk 1 (j' := 40) (lv' := [(5, yi k), (0, .ref 28), (1, yi v), (2, yi x), (3, yi t), (4, yi p)]) (st' := [yi 12, yi (S (0 + t))]) (hp' := H8) rfl ?_
      refine Y_ic_ne (a := (S (0 + t))) (b := 12) (by omega) hk rfl (fun g10 => ?_) (fun g10 => ?_)
      ·
        refine E_run hk 3 (j' := 46) (lv' := [(5, yi k), (0, .ref 28), (1, yi v), (2, yi x), (3, yi t), (4, yi p)]) (st' := [yi p, yi t, .ref 28]) (hp' := H8) rfl ?_
        refine Y_callE hk rfl (as := [.ref 28, yi t, yi p]) (rest := []) rfl rfl (Nat.le_of_ble_eq_true rfl) (rcv0 e28_H8) (Nat.le_of_ble_eq_true rfl) (m_addNote W_H8 (t := t) (y := p) (by omega) (by omega) (by omega) (by omega)) (fun z11 H12 r13 => ?_)
        have W_H12 := r13
        obtain ⟨od_H12, e28_H12⟩ := W_H12.x28
        refine E_run hk 2 (j' := 49) (lv' := [(5, yi k), (0, .ref 28), (1, yi v), (2, yi x), (3, yi t), (4, yi p)]) (st' := [yi 1]) (hp' := H12) rfl ?_
        exact E_ret hk rfl rfl ⟨_, rfl, Or.inr ⟨rfl, _, hn.trans (nx_add1 (by omega) (by omega)), W_H12.mono (by omega)⟩⟩
      ·
        refine E_run hk 1 (j' := 42) (lv' := [(5, yi k), (0, .ref 28), (1, yi v), (2, yi x), (3, yi t), (4, yi p)]) (st' := [yi 0]) (hp' := H8) rfl ?_
        exact E_ret hk rfl rfl ⟨_, rfl, Or.inl ⟨rfl, hn.trans (nx_add0 (by omega) (by omega)), W_H8.mono (by omega)⟩⟩
    · refine E_tgt (t := 36) (by rw [g2e]; rfl) ?_
      refine E_run hk 2 (j' := 38) (lv' := [(5, yi k), (0, .ref 28), (1, yi v), (2, yi x), (3, yi t), (4, yi p)]) (st' := [yi t, .ref 28]) (hp' := h) rfl ?_
      refine Y_callE hk rfl (as := [.ref 28, yi t]) (rest := []) rfl rfl (Nat.le_of_ble_eq_true rfl) (rcv0 e28_h) (Nat.le_of_ble_eq_true rfl) (p_notes W_h (x := t) (by omega) (by omega)) (fun z14 H15 r16 => ?_)
      obtain ⟨rfl, W_H15⟩ := r16
      obtain ⟨od_H15, e28_H15⟩ := W_H15.x28
      refine E_run hk 1 (j' := 40) (lv' := [(5, yi k), (0, .ref 28), (1, yi v), (2, yi x), (3, yi t), (4, yi p)]) (st' := [yi 12, yi (S (0 + t))]) (hp' := H15) rfl ?_
      refine Y_ic_ne (a := (S (0 + t))) (b := 12) (by omega) hk rfl (fun g17 => ?_) (fun g17 => ?_)
      ·
        refine E_run hk 3 (j' := 46) (lv' := [(5, yi k), (0, .ref 28), (1, yi v), (2, yi x), (3, yi t), (4, yi p)]) (st' := [yi p, yi t, .ref 28]) (hp' := H15) rfl ?_
        refine Y_callE hk rfl (as := [.ref 28, yi t, yi p]) (rest := []) rfl rfl (Nat.le_of_ble_eq_true rfl) (rcv0 e28_H15) (Nat.le_of_ble_eq_true rfl) (m_addNote W_H15 (t := t) (y := p) (by omega) (by omega) (by omega) (by omega)) (fun z18 H19 r20 => ?_)
        have W_H19 := r20
        obtain ⟨od_H19, e28_H19⟩ := W_H19.x28
        refine E_run hk 2 (j' := 49) (lv' := [(5, yi k), (0, .ref 28), (1, yi v), (2, yi x), (3, yi t), (4, yi p)]) (st' := [yi 1]) (hp' := H19) rfl ?_
        exact E_ret hk rfl rfl ⟨_, rfl, Or.inr ⟨rfl, _, hn.trans (nx_add1 (by omega) (by omega)), W_H19.mono (by omega)⟩⟩
      ·
        refine E_run hk 1 (j' := 42) (lv' := [(5, yi k), (0, .ref 28), (1, yi v), (2, yi x), (3, yi t), (4, yi p)]) (st' := [yi 0]) (hp' := H15) rfl ?_
        exact E_ret hk rfl rfl ⟨_, rfl, Or.inl ⟨rfl, hn.trans (nx_add0 (by omega) (by omega)), W_H15.mono (by omega)⟩⟩
    · refine E_tgt (t := 36) (by rw [g2e]; rfl) ?_
      refine E_run hk 2 (j' := 38) (lv' := [(5, yi k), (0, .ref 28), (1, yi v), (2, yi x), (3, yi t), (4, yi p)]) (st' := [yi t, .ref 28]) (hp' := h) rfl ?_
      refine Y_callE hk rfl (as := [.ref 28, yi t]) (rest := []) rfl rfl (Nat.le_of_ble_eq_true rfl) (rcv0 e28_h) (Nat.le_of_ble_eq_true rfl) (p_notes W_h (x := t) (by omega) (by omega)) (fun z21 H22 r23 => ?_)
      obtain ⟨rfl, W_H22⟩ := r23
      obtain ⟨od_H22, e28_H22⟩ := W_H22.x28
      refine E_run hk 1 (j' := 40) (lv' := [(5, yi k), (0, .ref 28), (1, yi v), (2, yi x), (3, yi t), (4, yi p)]) (st' := [yi 12, yi (S (0 + t))]) (hp' := H22) rfl ?_
      refine Y_ic_ne (a := (S (0 + t))) (b := 12) (by omega) hk rfl (fun g24 => ?_) (fun g24 => ?_)
      ·
        refine E_run hk 3 (j' := 46) (lv' := [(5, yi k), (0, .ref 28), (1, yi v), (2, yi x), (3, yi t), (4, yi p)]) (st' := [yi p, yi t, .ref 28]) (hp' := H22) rfl ?_
        refine Y_callE hk rfl (as := [.ref 28, yi t, yi p]) (rest := []) rfl rfl (Nat.le_of_ble_eq_true rfl) (rcv0 e28_H22) (Nat.le_of_ble_eq_true rfl) (m_addNote W_H22 (t := t) (y := p) (by omega) (by omega) (by omega) (by omega)) (fun z25 H26 r27 => ?_)
        have W_H26 := r27
        obtain ⟨od_H26, e28_H26⟩ := W_H26.x28
        refine E_run hk 2 (j' := 49) (lv' := [(5, yi k), (0, .ref 28), (1, yi v), (2, yi x), (3, yi t), (4, yi p)]) (st' := [yi 1]) (hp' := H26) rfl ?_
        exact E_ret hk rfl rfl ⟨_, rfl, Or.inr ⟨rfl, _, hn.trans (nx_add1 (by omega) (by omega)), W_H26.mono (by omega)⟩⟩
      ·
        refine E_run hk 1 (j' := 42) (lv' := [(5, yi k), (0, .ref 28), (1, yi v), (2, yi x), (3, yi t), (4, yi p)]) (st' := [yi 0]) (hp' := H22) rfl ?_
        exact E_ret hk rfl rfl ⟨_, rfl, Or.inl ⟨rfl, hn.trans (nx_add0 (by omega) (by omega)), W_H22.mono (by omega)⟩⟩
    · refine E_tgt (t := 36) (by rw [g2e]; rfl) ?_
      refine E_run hk 2 (j' := 38) (lv' := [(5, yi k), (0, .ref 28), (1, yi v), (2, yi x), (3, yi t), (4, yi p)]) (st' := [yi t, .ref 28]) (hp' := h) rfl ?_
      refine Y_callE hk rfl (as := [.ref 28, yi t]) (rest := []) rfl rfl (Nat.le_of_ble_eq_true rfl) (rcv0 e28_h) (Nat.le_of_ble_eq_true rfl) (p_notes W_h (x := t) (by omega) (by omega)) (fun z28 H29 r30 => ?_)
      obtain ⟨rfl, W_H29⟩ := r30
      obtain ⟨od_H29, e28_H29⟩ := W_H29.x28
      refine E_run hk 1 (j' := 40) (lv' := [(5, yi k), (0, .ref 28), (1, yi v), (2, yi x), (3, yi t), (4, yi p)]) (st' := [yi 12, yi (S (0 + t))]) (hp' := H29) rfl ?_
      refine Y_ic_ne (a := (S (0 + t))) (b := 12) (by omega) hk rfl (fun g31 => ?_) (fun g31 => ?_)
      ·
        refine E_run hk 3 (j' := 46) (lv' := [(5, yi k), (0, .ref 28), (1, yi v), (2, yi x), (3, yi t), (4, yi p)]) (st' := [yi p, yi t, .ref 28]) (hp' := H29) rfl ?_
        refine Y_callE hk rfl (as := [.ref 28, yi t, yi p]) (rest := []) rfl rfl (Nat.le_of_ble_eq_true rfl) (rcv0 e28_H29) (Nat.le_of_ble_eq_true rfl) (m_addNote W_H29 (t := t) (y := p) (by omega) (by omega) (by omega) (by omega)) (fun z32 H33 r34 => ?_)
        have W_H33 := r34
        obtain ⟨od_H33, e28_H33⟩ := W_H33.x28
        refine E_run hk 2 (j' := 49) (lv' := [(5, yi k), (0, .ref 28), (1, yi v), (2, yi x), (3, yi t), (4, yi p)]) (st' := [yi 1]) (hp' := H33) rfl ?_
        exact E_ret hk rfl rfl ⟨_, rfl, Or.inr ⟨rfl, _, hn.trans (nx_add1 (by omega) (by omega)), W_H33.mono (by omega)⟩⟩
      ·
        refine E_run hk 1 (j' := 42) (lv' := [(5, yi k), (0, .ref 28), (1, yi v), (2, yi x), (3, yi t), (4, yi p)]) (st' := [yi 0]) (hp' := H29) rfl ?_
        exact E_ret hk rfl rfl ⟨_, rfl, Or.inl ⟨rfl, hn.trans (nx_add0 (by omega) (by omega)), W_H29.mono (by omega)⟩⟩
    · refine E_tgt (t := 36) (by rw [g2e]; rfl) ?_
      refine E_run hk 2 (j' := 38) (lv' := [(5, yi k), (0, .ref 28), (1, yi v), (2, yi x), (3, yi t), (4, yi p)]) (st' := [yi t, .ref 28]) (hp' := h) rfl ?_
      refine Y_callE hk rfl (as := [.ref 28, yi t]) (rest := []) rfl rfl (Nat.le_of_ble_eq_true rfl) (rcv0 e28_h) (Nat.le_of_ble_eq_true rfl) (p_notes W_h (x := t) (by omega) (by omega)) (fun z35 H36 r37 => ?_)
      obtain ⟨rfl, W_H36⟩ := r37
      obtain ⟨od_H36, e28_H36⟩ := W_H36.x28
      refine E_run hk 1 (j' := 40) (lv' := [(5, yi k), (0, .ref 28), (1, yi v), (2, yi x), (3, yi t), (4, yi p)]) (st' := [yi 12, yi (S (0 + t))]) (hp' := H36) rfl ?_
      refine Y_ic_ne (a := (S (0 + t))) (b := 12) (by omega) hk rfl (fun g38 => ?_) (fun g38 => ?_)
      ·
        refine E_run hk 3 (j' := 46) (lv' := [(5, yi k), (0, .ref 28), (1, yi v), (2, yi x), (3, yi t), (4, yi p)]) (st' := [yi p, yi t, .ref 28]) (hp' := H36) rfl ?_
        refine Y_callE hk rfl (as := [.ref 28, yi t, yi p]) (rest := []) rfl rfl (Nat.le_of_ble_eq_true rfl) (rcv0 e28_H36) (Nat.le_of_ble_eq_true rfl) (m_addNote W_H36 (t := t) (y := p) (by omega) (by omega) (by omega) (by omega)) (fun z39 H40 r41 => ?_)
        have W_H40 := r41
        obtain ⟨od_H40, e28_H40⟩ := W_H40.x28
        refine E_run hk 2 (j' := 49) (lv' := [(5, yi k), (0, .ref 28), (1, yi v), (2, yi x), (3, yi t), (4, yi p)]) (st' := [yi 1]) (hp' := H40) rfl ?_
        exact E_ret hk rfl rfl ⟨_, rfl, Or.inr ⟨rfl, _, hn.trans (nx_add1 (by omega) (by omega)), W_H40.mono (by omega)⟩⟩
      ·
        refine E_run hk 1 (j' := 42) (lv' := [(5, yi k), (0, .ref 28), (1, yi v), (2, yi x), (3, yi t), (4, yi p)]) (st' := [yi 0]) (hp' := H36) rfl ?_
        exact E_ret hk rfl rfl ⟨_, rfl, Or.inl ⟨rfl, hn.trans (nx_add0 (by omega) (by omega)), W_H36.mono (by omega)⟩⟩
    · refine E_tgt (t := 36) (by rw [g2e]; rfl) ?_
      refine E_run hk 2 (j' := 38) (lv' := [(5, yi k), (0, .ref 28), (1, yi v), (2, yi x), (3, yi t), (4, yi p)]) (st' := [yi t, .ref 28]) (hp' := h) rfl ?_
      refine Y_callE hk rfl (as := [.ref 28, yi t]) (rest := []) rfl rfl (Nat.le_of_ble_eq_true rfl) (rcv0 e28_h) (Nat.le_of_ble_eq_true rfl) (p_notes W_h (x := t) (by omega) (by omega)) (fun z42 H43 r44 => ?_)
      obtain ⟨rfl, W_H43⟩ := r44
      obtain ⟨od_H43, e28_H43⟩ := W_H43.x28
      refine E_run hk 1 (j' := 40) (lv' := [(5, yi k), (0, .ref 28), (1, yi v), (2, yi x), (3, yi t), (4, yi p)]) (st' := [yi 12, yi (S (0 + t))]) (hp' := H43) rfl ?_
      refine Y_ic_ne (a := (S (0 + t))) (b := 12) (by omega) hk rfl (fun g45 => ?_) (fun g45 => ?_)
      ·
        refine E_run hk 3 (j' := 46) (lv' := [(5, yi k), (0, .ref 28), (1, yi v), (2, yi x), (3, yi t), (4, yi p)]) (st' := [yi p, yi t, .ref 28]) (hp' := H43) rfl ?_
        refine Y_callE hk rfl (as := [.ref 28, yi t, yi p]) (rest := []) rfl rfl (Nat.le_of_ble_eq_true rfl) (rcv0 e28_H43) (Nat.le_of_ble_eq_true rfl) (m_addNote W_H43 (t := t) (y := p) (by omega) (by omega) (by omega) (by omega)) (fun z46 H47 r48 => ?_)
        have W_H47 := r48
        obtain ⟨od_H47, e28_H47⟩ := W_H47.x28
        refine E_run hk 2 (j' := 49) (lv' := [(5, yi k), (0, .ref 28), (1, yi v), (2, yi x), (3, yi t), (4, yi p)]) (st' := [yi 1]) (hp' := H47) rfl ?_
        exact E_ret hk rfl rfl ⟨_, rfl, Or.inr ⟨rfl, _, hn.trans (nx_add1 (by omega) (by omega)), W_H47.mono (by omega)⟩⟩
      ·
        refine E_run hk 1 (j' := 42) (lv' := [(5, yi k), (0, .ref 28), (1, yi v), (2, yi x), (3, yi t), (4, yi p)]) (st' := [yi 0]) (hp' := H43) rfl ?_
        exact E_ret hk rfl rfl ⟨_, rfl, Or.inl ⟨rfl, hn.trans (nx_add0 (by omega) (by omega)), W_H43.mono (by omega)⟩⟩
    · refine E_tgt (t := 50) (by rw [g2e]; rfl) ?_
      refine E_run hk 1 (j' := 51) (lv' := [(5, yi k), (0, .ref 28), (1, yi v), (2, yi x), (3, yi t), (4, yi p)]) (st' := [yi k]) (hp' := h) rfl ?_
      refine Y_if_ge (a := k) (by omega) hk rfl (fun g49 => ?_) (fun g49 => ?_)
      ·
        refine E_run hk 4 (j' := 58) (lv' := [(5, yi k), (0, .ref 28), (1, yi v), (2, yi x), (3, yi t), (4, yi p)]) (st' := [yi p, yi k, yi t, .ref 28]) (hp' := h) rfl ?_
        refine Y_callE hk rfl (as := [.ref 28, yi t, yi k, yi p]) (rest := []) rfl rfl (Nat.le_of_ble_eq_true rfl) (rcv0 e28_h) (Nat.le_of_ble_eq_true rfl) (m_setNote W_h (t := t) (k := k) (y := p) (by omega) (by omega) (by omega) (by omega)) (fun z50 H51 r52 => ?_)
        have W_H51 := r52
        obtain ⟨od_H51, e28_H51⟩ := W_H51.x28
        refine E_run hk 2 (j' := 61) (lv' := [(5, yi k), (0, .ref 28), (1, yi v), (2, yi x), (3, yi t), (4, yi p)]) (st' := [yi 1]) (hp' := H51) rfl ?_
        exact E_ret hk rfl rfl ⟨_, rfl, Or.inr ⟨rfl, _, hn.trans (nx_set1 (by omega) (by omega)), W_H51.mono (by omega)⟩⟩
      ·
        refine E_run hk 1 (j' := 53) (lv' := [(5, yi k), (0, .ref 28), (1, yi v), (2, yi x), (3, yi t), (4, yi p)]) (st' := [yi 0]) (hp' := h) rfl ?_
        exact E_ret hk rfl rfl ⟨_, rfl, Or.inl ⟨rfl, hn.trans (nx_set0 (by omega) (by omega)), W_h.mono (by omega)⟩⟩
    · refine E_tgt (t := 62) (by rw [g2e]; rfl) ?_
      refine E_run hk 1 (j' := 63) (lv' := [(5, yi k), (0, .ref 28), (1, yi v), (2, yi x), (3, yi t), (4, yi p)]) (st' := [yi k]) (hp' := h) rfl ?_
      refine Y_if_ge (a := k) (by omega) hk rfl (fun g53 => ?_) (fun g53 => ?_)
      ·
        refine E_run hk 3 (j' := 69) (lv' := [(5, yi k), (0, .ref 28), (1, yi v), (2, yi x), (3, yi t), (4, yi p)]) (st' := [yi k, yi t, .ref 28]) (hp' := h) rfl ?_
        refine Y_callE hk rfl (as := [.ref 28, yi t, yi k]) (rest := []) rfl rfl (Nat.le_of_ble_eq_true rfl) (rcv0 e28_h) (Nat.le_of_ble_eq_true rfl) (m_dropNote W_h (t := t) (k := k) (by omega) (by omega) (by omega)) (fun z54 H55 r56 => ?_)
        have W_H55 := r56
        obtain ⟨od_H55, e28_H55⟩ := W_H55.x28
        refine E_run hk 2 (j' := 72) (lv' := [(5, yi k), (0, .ref 28), (1, yi v), (2, yi x), (3, yi t), (4, yi p)]) (st' := [yi 1]) (hp' := H55) rfl ?_
        exact E_ret hk rfl rfl ⟨_, rfl, Or.inr ⟨rfl, _, hn.trans (nx_drop1 (by omega) (by omega)), W_H55.mono (by omega)⟩⟩
      ·
        refine E_run hk 1 (j' := 65) (lv' := [(5, yi k), (0, .ref 28), (1, yi v), (2, yi x), (3, yi t), (4, yi p)]) (st' := [yi 0]) (hp' := h) rfl ?_
        exact E_ret hk rfl rfl ⟨_, rfl, Or.inl ⟨rfl, hn.trans (nx_drop0 (by omega) (by omega)), W_h.mono (by omega)⟩⟩
    · refine E_tgt (t := 73) (by rw [g2e]; rfl) ?_
      refine E_run hk 2 (j' := 75) (lv' := [(5, yi k), (0, .ref 28), (1, yi v), (2, yi x), (3, yi t), (4, yi p)]) (st' := [yi t, .ref 28]) (hp' := h) rfl ?_
      refine Y_callE hk rfl (as := [.ref 28, yi t]) (rest := []) rfl rfl (Nat.le_of_ble_eq_true rfl) (rcv0 e28_h) (Nat.le_of_ble_eq_true rfl) (p_notes W_h (x := t) (by omega) (by omega)) (fun z57 H58 r59 => ?_)
      obtain ⟨rfl, W_H58⟩ := r59
      obtain ⟨od_H58, e28_H58⟩ := W_H58.x28
      refine E_run hk 1 (j' := 77) (lv' := [(5, yi k), (0, .ref 28), (1, yi v), (2, yi x), (3, yi t), (4, yi p)]) (st' := [yi 6, yi (S (0 + t))]) (hp' := H58) rfl ?_
      refine Y_ic_le (a := (S (0 + t))) (b := 6) (by omega) hk rfl (fun g60 => ?_) (fun g60 => ?_)
      ·
        refine E_run hk 2 (j' := 82) (lv' := [(5, yi k), (0, .ref 28), (1, yi v), (2, yi x), (3, yi t), (4, yi p)]) (st' := [yi t, .ref 28]) (hp' := H58) rfl ?_
        refine Y_callE hk rfl (as := [.ref 28, yi t]) (rest := []) rfl rfl (Nat.le_of_ble_eq_true rfl) (rcv0 e28_H58) (Nat.le_of_ble_eq_true rfl) (m_slow W_H58 (t := t) (by omega) (by omega) (by omega)) (fun z61 H62 r63 => ?_)
        have W_H62 := r63
        obtain ⟨od_H62, e28_H62⟩ := W_H62.x28
        refine E_run hk 2 (j' := 85) (lv' := [(5, yi k), (0, .ref 28), (1, yi v), (2, yi x), (3, yi t), (4, yi p)]) (st' := [yi 1]) (hp' := H62) rfl ?_
        exact E_ret hk rfl rfl ⟨_, rfl, Or.inr ⟨rfl, _, hn.trans (nx_slow1 (by omega) (by omega)), W_H62.mono (by omega)⟩⟩
      ·
        refine E_run hk 1 (j' := 79) (lv' := [(5, yi k), (0, .ref 28), (1, yi v), (2, yi x), (3, yi t), (4, yi p)]) (st' := [yi 0]) (hp' := H58) rfl ?_
        exact E_ret hk rfl rfl ⟨_, rfl, Or.inl ⟨rfl, hn.trans (nx_slow0 (by omega) (by omega)), W_H58.mono (by omega)⟩⟩
    · refine E_tgt (t := 86) (by rw [g2e]; rfl) ?_
      refine E_run hk 2 (j' := 88) (lv' := [(5, yi k), (0, .ref 28), (1, yi v), (2, yi x), (3, yi t), (4, yi p)]) (st' := [yi t, .ref 28]) (hp' := h) rfl ?_
      refine Y_callE hk rfl (as := [.ref 28, yi t]) (rest := []) rfl rfl (Nat.le_of_ble_eq_true rfl) (rcv0 e28_h) (Nat.le_of_ble_eq_true rfl) (m_flip W_h (t := t) (by omega) (by omega)) (fun z64 H65 r66 => ?_)
      have W_H65 := r66
      obtain ⟨od_H65, e28_H65⟩ := W_H65.x28
      refine E_run hk 2 (j' := 91) (lv' := [(5, yi k), (0, .ref 28), (1, yi v), (2, yi x), (3, yi t), (4, yi p)]) (st' := [yi 1]) (hp' := H65) rfl ?_
      exact E_ret hk rfl rfl ⟨_, rfl, Or.inr ⟨rfl, _, hn.trans (nx_flip (by omega)), W_H65.mono (by omega)⟩⟩
    · refine E_tgt (t := 92) (by rw [g2e]; rfl) ?_
      refine E_run hk 1 (j' := 93) (lv' := [(5, yi k), (0, .ref 28), (1, yi v), (2, yi x), (3, yi t), (4, yi p)]) (st' := [.ref 28]) (hp' := h) rfl ?_
      refine Y_callE hk rfl (as := [.ref 28]) (rest := []) rfl rfl (Nat.le_of_ble_eq_true rfl) (rcv0 e28_h) (Nat.le_of_ble_eq_true rfl) (m_exchange W_h   (by omega)) (fun z67 H68 r69 => ?_)
      have W_H68 := r69
      obtain ⟨od_H68, e28_H68⟩ := W_H68.x28
      refine E_run hk 2 (j' := 96) (lv' := [(5, yi k), (0, .ref 28), (1, yi v), (2, yi x), (3, yi t), (4, yi p)]) (st' := [yi 1]) (hp' := H68) rfl ?_
      exact E_ret hk rfl rfl ⟨_, rfl, Or.inr ⟨rfl, _, hn.trans (nx_ex (by omega)), W_H68.mono (by omega)⟩⟩
    · refine E_tgt (t := 97) (by rw [g2e]; rfl) ?_
      refine E_run hk 4 (j' := 101) (lv' := [(5, yi k), (0, .ref 28), (1, yi v), (2, yi x), (3, yi t), (4, yi p)]) (st' := [yi 20, yi x, yi x, .ref 28]) (hp' := h) rfl ?_
      refine Y_sr (a := x) (b := 20) hk rfl ?_
      have q70 := sr_rng x 20
      refine E_run hk 1 (j' := 103) (lv' := [(5, yi k), (0, .ref 28), (1, yi v), (2, yi x), (3, yi t), (4, yi p)]) (st' := [yi 1, yi (sr x 20), yi x, .ref 28]) (hp' := h) rfl ?_
      refine Y_an (a := (sr x 20)) (b := 1) hk rfl ?_
      have q71 := an_le (a := (sr x 20)) (m := 1) (by decide)
      refine Y_if_ne (a := (an (sr x 20) 1)) (by omega) hk rfl (fun g72 => ?_) (fun g72 => ?_)
      ·
        refine E_run hk 1 (j' := 108) (lv' := [(5, yi k), (0, .ref 28), (1, yi v), (2, yi x), (3, yi t), (4, yi p)]) (st' := [yi 21, yi x, .ref 28]) (hp' := h) rfl ?_
        have q73 := lwv_rng (v := x) (n := 21) (by omega)
        refine Y_callP hk rfl (as := [yi x, yi 21]) (rest := [.ref 28]) (v := some (yi (lwv x 21))) rfl rfl (Nat.le_of_ble_eq_true rfl) rfl (Nat.le_of_ble_eq_true rfl) (c_L_low (v := x) (n := 21) (by omega)) ?_
        refine Y_callE hk rfl (as := [.ref 28, yi (lwv x 21)]) (rest := []) rfl rfl (Nat.le_of_ble_eq_true rfl) (rcv0 e28_h) (Nat.le_of_ble_eq_true rfl) (m_setBound W_h (y := (lwv x 21)) (by omega) (by omega)) (fun z74 H75 r76 => ?_)
        have W_H75 := r76
        obtain ⟨od_H75, e28_H75⟩ := W_H75.x28
        refine E_run hk 2 (j' := 112) (lv' := [(5, yi k), (0, .ref 28), (1, yi v), (2, yi x), (3, yi t), (4, yi p)]) (st' := [yi 1]) (hp' := H75) rfl ?_
        exact E_ret hk rfl rfl ⟨_, rfl, Or.inr ⟨rfl, _, (by rw [hn, nx_bound (by omega), if_neg (show ¬ an (sr x 20) 1 = 0 by omega)]), W_H75.mono (by omega)⟩⟩
      ·
        refine E_run hk 2 (j' := 108) (lv' := [(5, yi k), (0, .ref 28), (1, yi v), (2, yi x), (3, yi t), (4, yi p)]) (st' := [yi 6, yi x, .ref 28]) (hp' := h) rfl ?_
        have q77 := lwv_rng (v := x) (n := 6) (by omega)
        refine Y_callP hk rfl (as := [yi x, yi 6]) (rest := [.ref 28]) (v := some (yi (lwv x 6))) rfl rfl (Nat.le_of_ble_eq_true rfl) rfl (Nat.le_of_ble_eq_true rfl) (c_L_low (v := x) (n := 6) (by omega)) ?_
        refine Y_callE hk rfl (as := [.ref 28, yi (lwv x 6)]) (rest := []) rfl rfl (Nat.le_of_ble_eq_true rfl) (rcv0 e28_h) (Nat.le_of_ble_eq_true rfl) (m_setBound W_h (y := (lwv x 6)) (by omega) (by omega)) (fun z78 H79 r80 => ?_)
        have W_H79 := r80
        obtain ⟨od_H79, e28_H79⟩ := W_H79.x28
        refine E_run hk 2 (j' := 112) (lv' := [(5, yi k), (0, .ref 28), (1, yi v), (2, yi x), (3, yi t), (4, yi p)]) (st' := [yi 1]) (hp' := H79) rfl ?_
        exact E_ret hk rfl rfl ⟨_, rfl, Or.inr ⟨rfl, _, (by rw [hn, nx_bound (by omega), if_pos (show an (sr x 20) 1 = 0 by omega)]), W_H79.mono (by omega)⟩⟩
    · refine E_tgt (t := 97) (by rw [g2e]; rfl) ?_
      refine E_run hk 4 (j' := 101) (lv' := [(5, yi k), (0, .ref 28), (1, yi v), (2, yi x), (3, yi t), (4, yi p)]) (st' := [yi 20, yi x, yi x, .ref 28]) (hp' := h) rfl ?_
      refine Y_sr (a := x) (b := 20) hk rfl ?_
      have q81 := sr_rng x 20
      refine E_run hk 1 (j' := 103) (lv' := [(5, yi k), (0, .ref 28), (1, yi v), (2, yi x), (3, yi t), (4, yi p)]) (st' := [yi 1, yi (sr x 20), yi x, .ref 28]) (hp' := h) rfl ?_
      refine Y_an (a := (sr x 20)) (b := 1) hk rfl ?_
      have q82 := an_le (a := (sr x 20)) (m := 1) (by decide)
      refine Y_if_ne (a := (an (sr x 20) 1)) (by omega) hk rfl (fun g83 => ?_) (fun g83 => ?_)
      ·
        refine E_run hk 1 (j' := 108) (lv' := [(5, yi k), (0, .ref 28), (1, yi v), (2, yi x), (3, yi t), (4, yi p)]) (st' := [yi 21, yi x, .ref 28]) (hp' := h) rfl ?_
        have q84 := lwv_rng (v := x) (n := 21) (by omega)
        refine Y_callP hk rfl (as := [yi x, yi 21]) (rest := [.ref 28]) (v := some (yi (lwv x 21))) rfl rfl (Nat.le_of_ble_eq_true rfl) rfl (Nat.le_of_ble_eq_true rfl) (c_L_low (v := x) (n := 21) (by omega)) ?_
        refine Y_callE hk rfl (as := [.ref 28, yi (lwv x 21)]) (rest := []) rfl rfl (Nat.le_of_ble_eq_true rfl) (rcv0 e28_h) (Nat.le_of_ble_eq_true rfl) (m_setBound W_h (y := (lwv x 21)) (by omega) (by omega)) (fun z85 H86 r87 => ?_)
        have W_H86 := r87
        obtain ⟨od_H86, e28_H86⟩ := W_H86.x28
        refine E_run hk 2 (j' := 112) (lv' := [(5, yi k), (0, .ref 28), (1, yi v), (2, yi x), (3, yi t), (4, yi p)]) (st' := [yi 1]) (hp' := H86) rfl ?_
        exact E_ret hk rfl rfl ⟨_, rfl, Or.inr ⟨rfl, _, (by rw [hn, nx_bound (by omega), if_neg (show ¬ an (sr x 20) 1 = 0 by omega)]), W_H86.mono (by omega)⟩⟩
      ·
        refine E_run hk 2 (j' := 108) (lv' := [(5, yi k), (0, .ref 28), (1, yi v), (2, yi x), (3, yi t), (4, yi p)]) (st' := [yi 6, yi x, .ref 28]) (hp' := h) rfl ?_
        have q88 := lwv_rng (v := x) (n := 6) (by omega)
        refine Y_callP hk rfl (as := [yi x, yi 6]) (rest := [.ref 28]) (v := some (yi (lwv x 6))) rfl rfl (Nat.le_of_ble_eq_true rfl) rfl (Nat.le_of_ble_eq_true rfl) (c_L_low (v := x) (n := 6) (by omega)) ?_
        refine Y_callE hk rfl (as := [.ref 28, yi (lwv x 6)]) (rest := []) rfl rfl (Nat.le_of_ble_eq_true rfl) (rcv0 e28_h) (Nat.le_of_ble_eq_true rfl) (m_setBound W_h (y := (lwv x 6)) (by omega) (by omega)) (fun z89 H90 r91 => ?_)
        have W_H90 := r91
        obtain ⟨od_H90, e28_H90⟩ := W_H90.x28
        refine E_run hk 2 (j' := 112) (lv' := [(5, yi k), (0, .ref 28), (1, yi v), (2, yi x), (3, yi t), (4, yi p)]) (st' := [yi 1]) (hp' := H90) rfl ?_
        exact E_ret hk rfl rfl ⟨_, rfl, Or.inr ⟨rfl, _, (by rw [hn, nx_bound (by omega), if_pos (show an (sr x 20) 1 = 0 by omega)]), W_H90.mono (by omega)⟩⟩
    · refine E_tgt (t := 113) (by rw [g2e]; rfl) ?_
      refine E_run hk 4 (j' := 117) (lv' := [(5, yi k), (0, .ref 28), (1, yi v), (2, yi x), (3, yi t), (4, yi p)]) (st' := [yi 20, yi x, yi x, .ref 28]) (hp' := h) rfl ?_
      refine Y_sr (a := x) (b := 20) hk rfl ?_
      have q92 := sr_rng x 20
      refine E_run hk 1 (j' := 119) (lv' := [(5, yi k), (0, .ref 28), (1, yi v), (2, yi x), (3, yi t), (4, yi p)]) (st' := [yi 1, yi (sr x 20), yi x, .ref 28]) (hp' := h) rfl ?_
      refine Y_an (a := (sr x 20)) (b := 1) hk rfl ?_
      have q93 := an_le (a := (sr x 20)) (m := 1) (by decide)
      refine Y_if_ne (a := (an (sr x 20) 1)) (by omega) hk rfl (fun g94 => ?_) (fun g94 => ?_)
      ·
        refine E_run hk 1 (j' := 124) (lv' := [(5, yi k), (0, .ref 28), (1, yi v), (2, yi x), (3, yi t), (4, yi p)]) (st' := [yi 51, yi x, .ref 28]) (hp' := h) rfl ?_
        have q95 := lwv_rng (v := x) (n := 51) (by omega)
        refine Y_callP hk rfl (as := [yi x, yi 51]) (rest := [.ref 28]) (v := some (yi (lwv x 51))) rfl rfl (Nat.le_of_ble_eq_true rfl) rfl (Nat.le_of_ble_eq_true rfl) (c_L_low (v := x) (n := 51) (by omega)) ?_
        refine Y_callE hk rfl (as := [.ref 28, yi (lwv x 51)]) (rest := []) rfl rfl (Nat.le_of_ble_eq_true rfl) (rcv0 e28_h) (Nat.le_of_ble_eq_true rfl) (m_setHold W_h (y := (lwv x 51)) (by omega) (by omega)) (fun z96 H97 r98 => ?_)
        have W_H97 := r98
        obtain ⟨od_H97, e28_H97⟩ := W_H97.x28
        refine E_run hk 2 (j' := 128) (lv' := [(5, yi k), (0, .ref 28), (1, yi v), (2, yi x), (3, yi t), (4, yi p)]) (st' := [yi 1]) (hp' := H97) rfl ?_
        exact E_ret hk rfl rfl ⟨_, rfl, Or.inr ⟨rfl, _, (by rw [hn, nx_hold (by omega), if_neg (show ¬ an (sr x 20) 1 = 0 by omega)]), W_H97.mono (by omega)⟩⟩
      ·
        refine E_run hk 2 (j' := 124) (lv' := [(5, yi k), (0, .ref 28), (1, yi v), (2, yi x), (3, yi t), (4, yi p)]) (st' := [yi 5, yi x, .ref 28]) (hp' := h) rfl ?_
        have q99 := lwv_rng (v := x) (n := 5) (by omega)
        refine Y_callP hk rfl (as := [yi x, yi 5]) (rest := [.ref 28]) (v := some (yi (lwv x 5))) rfl rfl (Nat.le_of_ble_eq_true rfl) rfl (Nat.le_of_ble_eq_true rfl) (c_L_low (v := x) (n := 5) (by omega)) ?_
        refine Y_callE hk rfl (as := [.ref 28, yi (lwv x 5)]) (rest := []) rfl rfl (Nat.le_of_ble_eq_true rfl) (rcv0 e28_h) (Nat.le_of_ble_eq_true rfl) (m_setHold W_h (y := (lwv x 5)) (by omega) (by omega)) (fun z100 H101 r102 => ?_)
        have W_H101 := r102
        obtain ⟨od_H101, e28_H101⟩ := W_H101.x28
        refine E_run hk 2 (j' := 128) (lv' := [(5, yi k), (0, .ref 28), (1, yi v), (2, yi x), (3, yi t), (4, yi p)]) (st' := [yi 1]) (hp' := H101) rfl ?_
        exact E_ret hk rfl rfl ⟨_, rfl, Or.inr ⟨rfl, _, (by rw [hn, nx_hold (by omega), if_pos (show an (sr x 20) 1 = 0 by omega)]), W_H101.mono (by omega)⟩⟩
theorem act_16 {L : Nat} {F : Int → Int} {b0 b n : Int} {h : xH} {S T : Int → Int} {v x t m : Int} {d : Nat} (hd : 7 ≤ d) (W_h : pzI L F b0 h n S T) (hv : -2147483648 ≤ v ∧ v ≤ 2147483647) (hx9 : -2147483648 ≤ x ∧ x ≤ 2147483647) (ht : t = an (sr v 4) 1) (hm : m = if an (sr x 20) 1 = 0 then 14 else 61) (hb : b0 + 6 ≤ b) : Ev d 117 16 [(0, .ref 28), (1, yi v), (2, yi x), (3, yi t)] [yi m, yi x] h (yE (fun z h1 => (z = 0 ∧ nxt S v x = none ∧ pzI L F b h1 n S T) ∨ (z = 1 ∧ ∃ S2, nxt S v x = some S2 ∧ pzI L F b h1 (inc6 n) S2 (rcU n S T)))) := by
  have hk : xtab 117 = (xc_117, 6, 2, []) := rfl
  obtain ⟨d, rfl⟩ : ∃ e, d = e + 1 := ⟨d - 1, by omega⟩
  obtain ⟨nu, nn, n5⟩ := W_h.nums
  have t1 := an_le (a := sr v 4) (m := 1) (by decide)
  have nt := W_h.ls t (by omega) (by omega)
  have m1 : m = 14 ∨ m = 61 := by
    rw [hm]
    split
    · exact Or.inl rfl
    · exact Or.inr rfl
  obtain ⟨od_h, e28_h⟩ := W_h.x28
  have q1 := lwv_rng (v := x) (n := m) (by omega)
  refine Y_callP hk rfl (as := [yi x, yi m]) (rest := []) (v := some (yi (lwv x m))) rfl rfl (Nat.le_of_ble_eq_true rfl) rfl (Nat.le_of_ble_eq_true rfl) (c_L_low (v := x) (n := m) (by omega)) ?_
  refine E_run hk 3 (j' := 20) (lv' := [(4, yi (lwv x m)), (0, .ref 28), (1, yi v), (2, yi x), (3, yi t)]) (st' := [yi t, .ref 28]) (hp' := h) rfl ?_
  refine Y_callE hk rfl (as := [.ref 28, yi t]) (rest := []) rfl rfl (Nat.le_of_ble_eq_true rfl) (rcv0 e28_h) (Nat.le_of_ble_eq_true rfl) (p_notes W_h (x := t) (by omega) (by omega)) (fun z2 H3 r4 => ?_)
  obtain ⟨rfl, W_H3⟩ := r4
  obtain ⟨od_H3, e28_H3⟩ := W_H3.x28
  refine Y_if_ne (a := (S (0 + t))) (by omega) hk rfl (fun g5 => ?_) (fun g5 => ?_)
  ·
    refine E_run hk 2 (j' := 26) (lv' := [(4, yi (lwv x m)), (0, .ref 28), (1, yi v), (2, yi x), (3, yi t)]) (st' := [yi 5, yi v]) (hp' := H3) rfl ?_
    refine Y_sr (a := v) (b := 5) hk rfl ?_
    have q6 := sr_rng v 5
    refine E_run hk 2 (j' := 29) (lv' := [(4, yi (lwv x m)), (0, .ref 28), (1, yi v), (2, yi x), (3, yi t)]) (st' := [yi t, .ref 28, yi (sr v 5)]) (hp' := H3) rfl ?_
    refine Y_callE hk rfl (as := [.ref 28, yi t]) (rest := [yi (sr v 5)]) rfl rfl (Nat.le_of_ble_eq_true rfl) (rcv0 e28_H3) (Nat.le_of_ble_eq_true rfl) (p_notes W_H3 (x := t) (by omega) (by omega)) (fun z7 H8 r9 => ?_)
    obtain ⟨rfl, W_H8⟩ := r9
    obtain ⟨od_H8, e28_H8⟩ := W_H8.x28
    have q10 := lwv_rng (v := (sr v 5)) (n := (S (0 + t))) (by omega)
    refine Y_callP hk rfl (as := [yi (sr v 5), yi (S (0 + t))]) (rest := []) (v := some (yi (lwv (sr v 5) (S (0 + t))))) rfl rfl (Nat.le_of_ble_eq_true rfl) rfl (Nat.le_of_ble_eq_true rfl) (c_L_low (v := (sr v 5)) (n := (S (0 + t))) (by omega)) ?_
    exact Ev_le (xle_s rfl rfl (xle_s rfl rfl (xle_s rfl rfl (xle_s rfl rfl (xle_s rfl rfl (xle_z _ rfl)))))) (act_31 (b := b) (by omega) W_H8 hv hx9 ht (congrArg (lwv x) hm) (if_neg (show ¬ S (0 + t) = 0 by omega)).symm (by omega))
  ·
    refine E_run hk 2 (j' := 31) (lv' := [(4, yi (lwv x m)), (0, .ref 28), (1, yi v), (2, yi x), (3, yi t)]) (st' := [yi (-1)]) (hp' := H3) rfl ?_
    exact Ev_le (xle_s rfl rfl (xle_s rfl rfl (xle_s rfl rfl (xle_s rfl rfl (xle_s rfl rfl (xle_z _ rfl)))))) (act_31 (b := b) (by omega) W_H3 hv hx9 ht (congrArg (lwv x) hm) (if_pos (show S (0 + t) = 0 by omega)).symm (by omega))
theorem c_L_act {L : Nat} {F : Int → Int} {b n : Int} {h : xH} {S T : Int → Int} {v x : Int} {d : Nat} (hd : 7 ≤ d) (W_h : pzI L F b h n S T) (hv : -2147483648 ≤ v ∧ v ≤ 2147483647) (hx9 : -2147483648 ≤ x ∧ x ≤ 2147483647) : Cv d 117 [.ref 28, yi v, yi x] h (yE (fun z h1 => (z = 0 ∧ nxt S v x = none ∧ pzI L F (b + 10) h1 n S T) ∨ (z = 1 ∧ ∃ S2, nxt S v x = some S2 ∧ pzI L F (b + 10) h1 (inc6 n) S2 (rcU n S T)))) := by
  have hk : xtab 117 = (xc_117, 6, 2, []) := rfl
  obtain ⟨d, rfl⟩ : ∃ e, d = e + 1 := ⟨d - 1, by omega⟩
  show Ev (d + 1) 117 0 [(0, .ref 28), (1, yi v), (2, yi x)] [] h _
  obtain ⟨od_h, e28_h⟩ := W_h.x28
  refine E_run hk 2 (j' := 2) (lv' := [(0, .ref 28), (1, yi v), (2, yi x)]) (st' := [yi 4, yi v]) (hp' := h) rfl ?_
  refine Y_sr (a := v) (b := 4) hk rfl ?_
  have q1 := sr_rng v 4
  refine E_run hk 1 (j' := 4) (lv' := [(0, .ref 28), (1, yi v), (2, yi x)]) (st' := [yi 1, yi (sr v 4)]) (hp' := h) rfl ?_
  refine Y_an (a := (sr v 4)) (b := 1) hk rfl ?_
  have q2 := an_le (a := (sr v 4)) (m := 1) (by decide)
  refine E_run hk 4 (j' := 9) (lv' := [(3, yi (an (sr v 4) 1)), (0, .ref 28), (1, yi v), (2, yi x)]) (st' := [yi 20, yi x, yi x]) (hp' := h) rfl ?_
  refine Y_sr (a := x) (b := 20) hk rfl ?_
  have q3 := sr_rng x 20
  refine E_run hk 1 (j' := 11) (lv' := [(3, yi (an (sr v 4) 1)), (0, .ref 28), (1, yi v), (2, yi x)]) (st' := [yi 1, yi (sr x 20), yi x]) (hp' := h) rfl ?_
  refine Y_an (a := (sr x 20)) (b := 1) hk rfl ?_
  have q4 := an_le (a := (sr x 20)) (m := 1) (by decide)
  refine Y_if_ne (a := (an (sr x 20) 1)) (by omega) hk rfl (fun g5 => ?_) (fun g5 => ?_)
  ·
    refine E_run hk 1 (j' := 16) (lv' := [(3, yi (an (sr v 4) 1)), (0, .ref 28), (1, yi v), (2, yi x)]) (st' := [yi 61, yi x]) (hp' := h) rfl ?_
    exact Ev_le (xle_s rfl rfl (xle_s rfl rfl (xle_s rfl rfl (xle_s rfl rfl (xle_z _ rfl))))) (act_16 (b := b + 10) (by omega) W_h hv hx9 rfl (if_neg (show ¬ an (sr x 20) 1 = 0 by omega)).symm (by omega))
  ·
    refine E_run hk 2 (j' := 16) (lv' := [(3, yi (an (sr v 4) 1)), (0, .ref 28), (1, yi v), (2, yi x)]) (st' := [yi 14, yi x]) (hp' := h) rfl ?_
    exact Ev_le (xle_s rfl rfl (xle_s rfl rfl (xle_s rfl rfl (xle_s rfl rfl (xle_z _ rfl))))) (act_16 (b := b + 10) (by omega) W_h hv hx9 rfl (if_pos (show an (sr x 20) 1 = 0 by omega)).symm (by omega))
