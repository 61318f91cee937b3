/-! The class: what it asks of itself (28: the object; 29: its state now; 56: the grid that is tried). -/
theorem gat_cst {S : Int → Int} {b u : Int} {f : Int → Int} (hl : 0 ≤ S 0 ∧ S 0 ≤ 20 ∧ 0 ≤ S 1 ∧ S 1 ≤ 20) (h : ∀ x y, 0 ≤ x → x < S 0 → 0 ≤ y → y < S 1 → f (20 * x + y) = far (fw (unl S b) (S 3) u x y)) : gat f (S 0 - 1) (S 1 - 1) = far (cst S b u) := by
  unfold gat cst
  by_cases q : S 0 = 0 ∨ S 1 = 0
  · rw [if_neg (by omega), if_pos q]
    rfl
  · rw [if_pos (by omega), if_neg q]
    exact h _ _ (by omega) (by omega) (by omega) (by omega)
theorem far_lt {x y : Int} (hx : 0 ≤ x ∧ x ≤ 100000000) (hy : 0 ≤ y ∧ y ≤ 100000000) : far x < far y ↔ x < y := by
  have a := far_rng x
  have b := far_rng y
  omega
theorem far_inj {x y : Int} (hx : 0 ≤ x ∧ x ≤ 100000000) (hy : 0 ≤ y ∧ y ≤ 100000000) : far x = far y ↔ x = y := by
  have a := far_rng x
  have b := far_rng y
  omega
theorem c_X8_costIf {d : Nat} {hp : xH} {kp cl od : Int} (h28 : xat hp 28 = some (.inr (8, [.ref 29, .ref 34, .ref 35, yi kp, .ref 40, yi cl, .ref 41, .ref 43, yi od, .ref 56, .ref 58]))) (h56 : xat hp 56 = some (.inr (1, [.ref 57]))) {Tr : Int → Int} (h57 : xat hp 57 = some (yI 400 Tr)) {z o : Nat} {S f g : Int → Int} {r t : Int} (hS : yS hp 29 z o S f g r t) (hz : 0 ≤ S 0 ∧ S 0 ≤ 20 ∧ 0 ≤ S 1 ∧ S 1 ≤ 20 ∧ 0 ≤ S 2 ∧ S 2 ≤ 20 ∧ 0 ≤ S 3 ∧ S 3 ≤ 50 ∧ 0 ≤ S 4 ∧ S 4 ≤ 3) (h0 : ∀ q, 0 ≤ q → q < S 0 → 0 ≤ S (7 + q) ∧ S (7 + q) ≤ 60) (h1 : ∀ q, 0 ≤ q → q < S 1 → 0 ≤ S (27 + q) ∧ S (27 + q) ≤ 60) {b u : Int} (hb : -12 ≤ b ∧ b ≤ 12) (hu : 0 ≤ u ∧ u ≤ 20) (hd : 3 ≤ d) : Cv d 97 [.ref 28, yi b, yi u] hp (yR (some (yi (far (cst S b u)))) (fun h => ∃ T2, xat h 57 = some (yI 400 T2) ∧ yfr [57] hp h)) := by
  have hk : xtab 97 = (xc_97, 3, 1, []) := rfl
  obtain ⟨d, rfl⟩ : ∃ e, d = e + 1 := ⟨d - 1, by omega⟩
  obtain ⟨hid, hs_, hz_, ho_, hf_, hg_, ef, eg⟩ := hS
  show Ev (d + 1) 97 0 [(0, .ref 28), (1, yi b), (2, yi u)] [] hp _
  refine E_run hk 1 (j' := 1) (lv' := [(0, .ref 28), (1, yi b), (2, yi u)]) (st' := [.ref 28]) (hp' := hp) rfl ?_
  refine E_get (v := .ref 56) hk rfl h28 rfl ?_
  refine E_run hk 1 (j' := 3) (lv' := [(0, .ref 28), (1, yi b), (2, yi u)]) (st' := [.ref 28, .ref 56]) (hp' := hp) rfl ?_
  refine E_get (v := .ref 29) hk rfl h28 rfl ?_
  refine E_run hk 2 (j' := 6) (lv' := [(0, .ref 28), (1, yi b), (2, yi u)]) (st' := [yi u, yi b, .ref 29, .ref 56]) (hp' := hp) rfl ?_
  refine Y_call hk rfl (as := [.ref 56, .ref 29, yi b, yi u]) (rest := []) (v := none) rfl rfl (Nat.le_of_ble_eq_true rfl) (rcv0 h56) (Nat.le_of_ble_eq_true rfl) (c_X0_tellFromBegin (b := b) (u := u) (a := 56) (p := 57) (k := Tr) ⟨by decide, by decide, by decide⟩ h56 h57 ⟨hid, hs_, hz_, ho_, hf_, hg_, ef, eg⟩ ⟨by unfold apart; decide, by unfold apart; decide⟩ hz h0 h1 (by omega) (by omega) (hd := by omega)) (fun H1 r2 => ?_)
  obtain ⟨F_H1, e_H1, a_H1, f_H1⟩ := r2
  refine E_run hk 1 (j' := 8) (lv' := [(0, .ref 28), (1, yi b), (2, yi u)]) (st' := [.ref 28]) (hp' := H1) rfl ?_
  refine E_get (v := .ref 56) hk rfl (f_H1.at (by decide) h28) rfl ?_
  refine E_run hk 1 (j' := 10) (lv' := [(0, .ref 28), (1, yi b), (2, yi u)]) (st' := [.ref 28, .ref 56]) (hp' := H1) rfl ?_
  refine E_get (v := .ref 29) hk rfl (f_H1.at (by decide) h28) rfl ?_
  refine E_get (v := .ref z) hk rfl (f_H1.at (by decide) hs_) rfl ?_
  refine E_get (v := yi (S 0)) hk rfl (f_H1.at (by simp only [List.mem_cons, List.not_mem_nil, or_false, not_or]; exact (Ne.symm (sok hid (by unfold apart; decide)).2.1)) hz_) rfl ?_
  refine E_run hk 1 (j' := 14) (lv' := [(0, .ref 28), (1, yi b), (2, yi u)]) (st' := [yi 1, yi (S 0), .ref 56]) (hp' := H1) rfl ?_
  refine Y_isub (a := (S 0)) (b := 1) hk rfl ?_
  refine E_run hk 1 (j' := 16) (lv' := [(0, .ref 28), (1, yi b), (2, yi u)]) (st' := [.ref 28, yi ((S 0) - 1), .ref 56]) (hp' := H1) rfl ?_
  refine E_get (v := .ref 29) hk rfl (f_H1.at (by decide) h28) rfl ?_
  refine E_get (v := .ref o) hk rfl (f_H1.at (by decide) hs_) rfl ?_
  refine E_get (v := yi (S 1)) hk rfl (f_H1.at (by simp only [List.mem_cons, List.not_mem_nil, or_false, not_or]; exact (Ne.symm (sok hid (by unfold apart; decide)).2.2.2.1)) ho_) rfl ?_
  refine E_run hk 1 (j' := 20) (lv' := [(0, .ref 28), (1, yi b), (2, yi u)]) (st' := [yi 1, yi (S 1), yi ((S 0) - 1), .ref 56]) (hp' := H1) rfl ?_
  refine Y_isub (a := (S 1)) (b := 1) hk rfl ?_
  refine Y_callP hk rfl (as := [.ref 56, yi ((S 0) - 1), yi ((S 1) - 1)]) (rest := []) (v := some (yi (gat F_H1 ((S 0) - 1) ((S 1) - 1)))) rfl rfl (Nat.le_of_ble_eq_true rfl) (rcv0 (f_H1.at (by decide) h56)) (Nat.le_of_ble_eq_true rfl) (c_X0_at (i := ((S 0) - 1)) (j := ((S 1) - 1)) (a := 56) (p := 57) (k := F_H1) ⟨by decide, by decide, by decide⟩ (f_H1.at (by decide) h56) e_H1 (by omega)) ?_
  exact E_ret hk rfl rfl ⟨congrArg (fun z => (Sum.inl (some (yi z)) : xO)) (gat_cst (by omega) a_H1), _, e_H1, f_H1⟩
theorem c_X8_nearestBestShift {d : Nat} {hp : xH} {kp cl od : Int} (h28 : xat hp 28 = some (.inr (8, [.ref 29, .ref 34, .ref 35, yi kp, .ref 40, yi cl, .ref 41, .ref 43, yi od, .ref 56, .ref 58]))) (h56 : xat hp 56 = some (.inr (1, [.ref 57]))) {Tr : Int → Int} (h57 : xat hp 57 = some (yI 400 Tr)) {z o : Nat} {S f g : Int → Int} {r t : Int} (hS : yS hp 29 z o S f g r t) (hz : 0 ≤ S 0 ∧ S 0 ≤ 20 ∧ 0 ≤ S 1 ∧ S 1 ≤ 20 ∧ 0 ≤ S 2 ∧ S 2 ≤ 20 ∧ 0 ≤ S 3 ∧ S 3 ≤ 50 ∧ 0 ≤ S 4 ∧ S 4 ≤ 3) (h0 : ∀ q, 0 ≤ q → q < S 0 → 0 ≤ S (7 + q) ∧ S (7 + q) ≤ 60) (h1 : ∀ q, 0 ≤ q → q < S 1 → 0 ≤ S (27 + q) ∧ S (27 + q) ≤ 60) (hd : 4 ≤ d) : Cv d 98 [.ref 28] hp (yR (some (yi (shb (fun x => cst S x (S 2)) 12).1)) (fun h => ∃ T2, xat h 57 = some (yI 400 T2) ∧ yfr [57] hp h)) := by
  have hk : xtab 98 = (xc_98, 6, 1, []) := rfl
  obtain ⟨d, rfl⟩ : ∃ e, d = e + 1 := ⟨d - 1, by omega⟩
  obtain ⟨hid, hs_, hz_, ho_, hf_, hg_, ef, eg⟩ := hS
  have w0 := cst_rng (b := 0) (u := S 2) hz h0 h1 (by omega)
  show Ev (d + 1) 98 0 [(0, .ref 28)] [] hp _
  refine E_run hk 5 (j' := 5) (lv' := [(1, yi 0), (0, .ref 28)]) (st' := [.ref 28, yi 0, .ref 28]) (hp' := hp) rfl ?_
  refine E_get (v := .ref 29) hk rfl h28 rfl ?_
  refine E_get (v := yi (S 2)) hk rfl hs_ rfl ?_
  refine Y_call hk rfl (as := [.ref 28, yi 0, yi (S 2)]) (rest := []) (v := some (yi (far (cst S 0 (S 2))))) rfl rfl (Nat.le_of_ble_eq_true rfl) (rcv0 h28) (Nat.le_of_ble_eq_true rfl) (c_X8_costIf (b := 0) (u := (S 2)) h28 h56 h57 ⟨hid, hs_, hz_, ho_, hf_, hg_, ef, eg⟩ hz h0 h1 (by omega) (by omega) (hd := by omega)) (fun H1 r2 => ?_)
  obtain ⟨T_H1, e_H1, f_H1⟩ := r2
  refine E_run hk 3 (j' := 11) (lv' := [(3, yi 1), (2, yi (far (cst S 0 (S 2)))), (1, yi 0), (0, .ref 28)]) (st' := []) (hp' := H1) rfl ?_
  have loop11 : ∀ (N : Nat) (k : Int) (n : Int) (l : Int) (T2 : Int → Int) (hl11 : xH), ((1 ≤ k ∧ k ≤ 13) ∧ 0 ≤ l ∧ l ≤ 100000000) → (shb (fun x => cst S x (S 2)) (k - 1).toNat = (n, l)) → (xat hl11 57 = some (yI 400 T2)) → (yfr [57] H1 hl11) → (13 - k).toNat = N → Ev (d + 1) 98 11 [(0, .ref 28), (1, yi n), (2, yi (far l)), (3, yi k)] [] hl11 (yR (some (yi (shb (fun x => cst S x (S 2)) 12).1)) (fun h => ∃ T2, xat h 57 = some (yI 400 T2) ∧ yfr [57] hp h)) := by
    intro N
    induction N using Nat.strongRecOn with
    | ind N ih11 =>
      intro k n l T2 hl11 J1 J2 ec11_57 fr11 hm11
      refine E_run hk 1 (j' := 12) (lv' := [(0, .ref 28), (1, yi n), (2, yi (far l)), (3, yi k)]) (st' := [yi k]) (hp' := hl11) rfl ?_
      refine E_run hk 1 (j' := 13) (lv' := [(0, .ref 28), (1, yi n), (2, yi (far l)), (3, yi k)]) (st' := [yi 12, yi k]) (hp' := hl11) rfl ?_
      refine Y_ic_gt (a := k) (b := 12) (by omega) hk rfl (fun g3 => ?_) (fun g3 => ?_)
      ·
        refine E_run hk 1 (j' := 47) (lv' := [(0, .ref 28), (1, yi n), (2, yi (far l)), (3, yi k)]) (st' := [yi n]) (hp' := hl11) rfl ?_
        exact E_ret hk rfl rfl ⟨congrArg (fun z => (Sum.inl (some (yi z)) : xO)) (by have e9 := congrArg Prod.fst J2; rw [(by omega : (k - 1).toNat = 12)] at e9; exact e9.symm), _, ec11_57, (yfr.tr f_H1 fr11 (fun _ h => h) (by decide))⟩
      ·
        have w1 := cst_rng (b := k) (u := S 2) hz h0 h1 (by omega)
        have w2 := cst_rng (b := -k) (u := S 2) hz h0 h1 (by omega)
        have fl1 := far_lt w1 J1.2
        have fl2 := far_lt w2 J1.2
        have fl3 := far_lt w2 w1
        have fr1 := far_rng (cst S k (S 2))
        have fr2 := far_rng (cst S (-k) (S 2))
        have fr3 := far_rng l
        refine E_run hk 3 (j' := 17) (lv' := [(0, .ref 28), (1, yi n), (2, yi (far l)), (3, yi k)]) (st' := [.ref 28, yi k, .ref 28]) (hp' := hl11) rfl ?_
        refine E_get (v := .ref 29) hk rfl (fr11.at (by decide) (f_H1.at (by decide) h28)) rfl ?_
        refine E_get (v := yi (S 2)) hk rfl (fr11.at (by decide) (f_H1.at (by decide) hs_)) rfl ?_
        refine Y_call hk rfl (as := [.ref 28, yi k, yi (S 2)]) (rest := []) (v := some (yi (far (cst S k (S 2))))) rfl rfl (Nat.le_of_ble_eq_true rfl) (rcv0 (fr11.at (by decide) (f_H1.at (by decide) h28))) (Nat.le_of_ble_eq_true rfl) (c_X8_costIf (b := k) (u := (S 2)) (fr11.at (by decide) (f_H1.at (by decide) h28)) (fr11.at (by decide) (f_H1.at (by decide) h56)) ec11_57 ⟨hid, (fr11.at (by decide) (f_H1.at (by decide) hs_)), (fr11.at (by simp only [List.mem_cons, List.not_mem_nil, or_false, not_or]; exact (Ne.symm (sok hid (by unfold apart; decide)).2.1)) (f_H1.at (by simp only [List.mem_cons, List.not_mem_nil, or_false, not_or]; exact (Ne.symm (sok hid (by unfold apart; decide)).2.1)) hz_)), (fr11.at (by simp only [List.mem_cons, List.not_mem_nil, or_false, not_or]; exact (Ne.symm (sok hid (by unfold apart; decide)).2.2.2.1)) (f_H1.at (by simp only [List.mem_cons, List.not_mem_nil, or_false, not_or]; exact (Ne.symm (sok hid (by unfold apart; decide)).2.2.2.1)) ho_)), (fr11.at (by simp only [List.mem_cons, List.not_mem_nil, or_false, not_or]; exact (Ne.symm (sok hid (by unfold apart; decide)).2.2.1)) (f_H1.at (by simp only [List.mem_cons, List.not_mem_nil, or_false, not_or]; exact (Ne.symm (sok hid (by unfold apart; decide)).2.2.1)) hf_)), (fr11.at (by simp only [List.mem_cons, List.not_mem_nil, or_false, not_or]; exact (Ne.symm (sok hid (by unfold apart; decide)).2.2.2.2)) (f_H1.at (by simp only [List.mem_cons, List.not_mem_nil, or_false, not_or]; exact (Ne.symm (sok hid (by unfold apart; decide)).2.2.2.2)) hg_)), ef, eg⟩ hz h0 h1 (by omega) (by omega) (hd := by omega)) (fun H4 r5 => ?_)
        obtain ⟨T_H4, e_H4, f_H4⟩ := r5
        refine E_run hk 3 (j' := 23) (lv' := [(4, yi (far (cst S k (S 2)))), (0, .ref 28), (1, yi n), (2, yi (far l)), (3, yi k)]) (st' := [yi (far l), yi (far (cst S k (S 2)))]) (hp' := H4) rfl ?_
        refine Y_ic_ge (a := (far (cst S k (S 2)))) (b := (far l)) (by omega) hk rfl (fun g6 => ?_) (fun g6 => ?_)
        ·
          refine E_run hk 2 (j' := 30) (lv' := [(4, yi (far (cst S k (S 2)))), (0, .ref 28), (1, yi n), (2, yi (far l)), (3, yi k)]) (st' := [yi k, .ref 28]) (hp' := H4) rfl ?_
          refine Y_ineg (a := k) hk rfl ?_
          refine E_run hk 1 (j' := 32) (lv' := [(4, yi (far (cst S k (S 2)))), (0, .ref 28), (1, yi n), (2, yi (far l)), (3, yi k)]) (st' := [.ref 28, yi (-k), .ref 28]) (hp' := H4) rfl ?_
          refine E_get (v := .ref 29) hk rfl (f_H4.at (by decide) (fr11.at (by decide) (f_H1.at (by decide) h28))) rfl ?_
          refine E_get (v := yi (S 2)) hk rfl (f_H4.at (by decide) (fr11.at (by decide) (f_H1.at (by decide) hs_))) rfl ?_
          refine Y_call hk rfl (as := [.ref 28, yi (-k), yi (S 2)]) (rest := []) (v := some (yi (far (cst S (-k) (S 2))))) rfl rfl (Nat.le_of_ble_eq_true rfl) (rcv0 (f_H4.at (by decide) (fr11.at (by decide) (f_H1.at (by decide) h28)))) (Nat.le_of_ble_eq_true rfl) (c_X8_costIf (b := (-k)) (u := (S 2)) (f_H4.at (by decide) (fr11.at (by decide) (f_H1.at (by decide) h28))) (f_H4.at (by decide) (fr11.at (by decide) (f_H1.at (by decide) h56))) e_H4 ⟨hid, (f_H4.at (by decide) (fr11.at (by decide) (f_H1.at (by decide) hs_))), (f_H4.at (by simp only [List.mem_cons, List.not_mem_nil, or_false, not_or]; exact (Ne.symm (sok hid (by unfold apart; decide)).2.1)) (fr11.at (by simp only [List.mem_cons, List.not_mem_nil, or_false, not_or]; exact (Ne.symm (sok hid (by unfold apart; decide)).2.1)) (f_H1.at (by simp only [List.mem_cons, List.not_mem_nil, or_false, not_or]; exact (Ne.symm (sok hid (by unfold apart; decide)).2.1)) hz_))), (f_H4.at (by simp only [List.mem_cons, List.not_mem_nil, or_false, not_or]; exact (Ne.symm (sok hid (by unfold apart; decide)).2.2.2.1)) (fr11.at (by simp only [List.mem_cons, List.not_mem_nil, or_false, not_or]; exact (Ne.symm (sok hid (by unfold apart; decide)).2.2.2.1)) (f_H1.at (by simp only [List.mem_cons, List.not_mem_nil, or_false, not_or]; exact (Ne.symm (sok hid (by unfold apart; decide)).2.2.2.1)) ho_))), (f_H4.at (by simp only [List.mem_cons, List.not_mem_nil, or_false, not_or]; exact (Ne.symm (sok hid (by unfold apart; decide)).2.2.1)) (fr11.at (by simp only [List.mem_cons, List.not_mem_nil, or_false, not_or]; exact (Ne.symm (sok hid (by unfold apart; decide)).2.2.1)) (f_H1.at (by simp only [List.mem_cons, List.not_mem_nil, or_false, not_or]; exact (Ne.symm (sok hid (by unfold apart; decide)).2.2.1)) hf_))), (f_H4.at (by simp only [List.mem_cons, List.not_mem_nil, or_false, not_or]; exact (Ne.symm (sok hid (by unfold apart; decide)).2.2.2.2)) (fr11.at (by simp only [List.mem_cons, List.not_mem_nil, or_false, not_or]; exact (Ne.symm (sok hid (by unfold apart; decide)).2.2.2.2)) (f_H1.at (by simp only [List.mem_cons, List.not_mem_nil, or_false, not_or]; exact (Ne.symm (sok hid (by unfold apart; decide)).2.2.2.2)) hg_))), ef, eg⟩ hz h0 h1 (by omega) (by omega) (hd := by omega)) (fun H7 r8 => ?_)
          obtain ⟨T_H7, e_H7, f_H7⟩ := r8
          refine E_run hk 3 (j' := 38) (lv' := [(5, yi (far (cst S (-k) (S 2)))), (4, yi (far (cst S k (S 2)))), (0, .ref 28), (1, yi n), (2, yi (far l)), (3, yi k)]) (st' := [yi (far l), yi (far (cst S (-k) (S 2)))]) (hp' := H7) rfl ?_
          refine Y_ic_ge (a := (far (cst S (-k) (S 2)))) (b := (far l)) (by omega) hk rfl (fun g9 => ?_) (fun g9 => ?_)
          ·
            refine Y_iinc (a := k) (z := 1) hk rfl rfl rfl (by decide) (lv' := [(3, yi (k + 1)), (5, yi (far (cst S (-k) (S 2)))), (4, yi (far (cst S k (S 2)))), (0, .ref 28), (1, yi n), (2, yi (far l))]) rfl ?_
            refine E_run hk 1 (j' := 11) (lv' := [(3, yi (k + 1)), (5, yi (far (cst S (-k) (S 2)))), (4, yi (far (cst S k (S 2)))), (0, .ref 28), (1, yi n), (2, yi (far l))]) (st' := []) (hp' := H7) rfl ?_
            exact Ev_le (xle_s rfl rfl (xle_s rfl rfl (xle_s rfl rfl (xle_s rfl rfl (xle_z _ rfl))))) (ih11 _ (by omega) (k + 1) n l T_H7 H7 (by omega) (by rw [shb_s (by omega), J2]; first | (exfalso; omega) | (rw [sh1_t (x := k) (by show cst S k (S 2) < _; omega)]; first | (rw [sh1_t (by show cst S (-k) (S 2) < cst S k (S 2); omega)]; done) | (rw [sh1_f (by show ¬ cst S (-k) (S 2) < cst S k (S 2); omega)]; done)) | (rw [sh1_f (x := k) (by show ¬ cst S k (S 2) < _; omega)]; first | (rw [sh1_t (by show cst S (-k) (S 2) < l; omega)]; done) | (rw [sh1_f (by show ¬ cst S (-k) (S 2) < l; omega)]; done))) e_H7 (yfr.tr (yfr.tr fr11 f_H4 (fun _ h => h) (by decide)) f_H7 (fun _ h => h) (by decide)) rfl)
          ·
            refine E_run hk 3 (j' := 42) (lv' := [(2, yi (far (cst S (-k) (S 2)))), (5, yi (far (cst S (-k) (S 2)))), (4, yi (far (cst S k (S 2)))), (0, .ref 28), (1, yi n), (3, yi k)]) (st' := [yi k]) (hp' := H7) rfl ?_
            refine Y_ineg (a := k) hk rfl ?_
            refine E_run hk 1 (j' := 44) (lv' := [(1, yi (-k)), (2, yi (far (cst S (-k) (S 2)))), (5, yi (far (cst S (-k) (S 2)))), (4, yi (far (cst S k (S 2)))), (0, .ref 28), (3, yi k)]) (st' := []) (hp' := H7) rfl ?_
            refine Y_iinc (a := k) (z := 1) hk rfl rfl rfl (by decide) (lv' := [(3, yi (k + 1)), (1, yi (-k)), (2, yi (far (cst S (-k) (S 2)))), (5, yi (far (cst S (-k) (S 2)))), (4, yi (far (cst S k (S 2)))), (0, .ref 28)]) rfl ?_
            refine E_run hk 1 (j' := 11) (lv' := [(3, yi (k + 1)), (1, yi (-k)), (2, yi (far (cst S (-k) (S 2)))), (5, yi (far (cst S (-k) (S 2)))), (4, yi (far (cst S k (S 2)))), (0, .ref 28)]) (st' := []) (hp' := H7) rfl ?_
            exact Ev_le (xle_s rfl rfl (xle_s rfl rfl (xle_s rfl rfl (xle_s rfl rfl (xle_z _ rfl))))) (ih11 _ (by omega) (k + 1) (-k) (cst S (-k) (S 2)) T_H7 H7 (by omega) (by rw [shb_s (by omega), J2]; first | (exfalso; omega) | (rw [sh1_t (x := k) (by show cst S k (S 2) < _; omega)]; first | (rw [sh1_t (by show cst S (-k) (S 2) < cst S k (S 2); omega)]; done) | (rw [sh1_f (by show ¬ cst S (-k) (S 2) < cst S k (S 2); omega)]; done)) | (rw [sh1_f (x := k) (by show ¬ cst S k (S 2) < _; omega)]; first | (rw [sh1_t (by show cst S (-k) (S 2) < l; omega)]; done) | (rw [sh1_f (by show ¬ cst S (-k) (S 2) < l; omega)]; done))) e_H7 (yfr.tr (yfr.tr fr11 f_H4 (fun _ h => h) (by decide)) f_H7 (fun _ h => h) (by decide)) rfl)
        ·
          refine E_run hk 6 (j' := 30) (lv' := [(1, yi k), (2, yi (far (cst S k (S 2)))), (4, yi (far (cst S k (S 2)))), (0, .ref 28), (3, yi k)]) (st' := [yi k, .ref 28]) (hp' := H4) rfl ?_
          refine Y_ineg (a := k) hk rfl ?_
          refine E_run hk 1 (j' := 32) (lv' := [(1, yi k), (2, yi (far (cst S k (S 2)))), (4, yi (far (cst S k (S 2)))), (0, .ref 28), (3, yi k)]) (st' := [.ref 28, yi (-k), .ref 28]) (hp' := H4) rfl ?_
          refine E_get (v := .ref 29) hk rfl (f_H4.at (by decide) (fr11.at (by decide) (f_H1.at (by decide) h28))) rfl ?_
          refine E_get (v := yi (S 2)) hk rfl (f_H4.at (by decide) (fr11.at (by decide) (f_H1.at (by decide) hs_))) rfl ?_
          refine Y_call hk rfl (as := [.ref 28, yi (-k), yi (S 2)]) (rest := []) (v := some (yi (far (cst S (-k) (S 2))))) rfl rfl (Nat.le_of_ble_eq_true rfl) (rcv0 (f_H4.at (by decide) (fr11.at (by decide) (f_H1.at (by decide) h28)))) (Nat.le_of_ble_eq_true rfl) (c_X8_costIf (b := (-k)) (u := (S 2)) (f_H4.at (by decide) (fr11.at (by decide) (f_H1.at (by decide) h28))) (f_H4.at (by decide) (fr11.at (by decide) (f_H1.at (by decide) h56))) e_H4 ⟨hid, (f_H4.at (by decide) (fr11.at (by decide) (f_H1.at (by decide) hs_))), (f_H4.at (by simp only [List.mem_cons, List.not_mem_nil, or_false, not_or]; exact (Ne.symm (sok hid (by unfold apart; decide)).2.1)) (fr11.at (by simp only [List.mem_cons, List.not_mem_nil, or_false, not_or]; exact (Ne.symm (sok hid (by unfold apart; decide)).2.1)) (f_H1.at (by simp only [List.mem_cons, List.not_mem_nil, or_false, not_or]; exact (Ne.symm (sok hid (by unfold apart; decide)).2.1)) hz_))), (f_H4.at (by simp only [List.mem_cons, List.not_mem_nil, or_false, not_or]; exact (Ne.symm (sok hid (by unfold apart; decide)).2.2.2.1)) (fr11.at (by simp only [List.mem_cons, List.not_mem_nil, or_false, not_or]; exact (Ne.symm (sok hid (by unfold apart; decide)).2.2.2.1)) (f_H1.at (by simp only [List.mem_cons, List.not_mem_nil, or_false, not_or]; exact (Ne.symm (sok hid (by unfold apart; decide)).2.2.2.1)) ho_))), (f_H4.at (by simp only [List.mem_cons, List.not_mem_nil, or_false, not_or]; exact (Ne.symm (sok hid (by unfold apart; decide)).2.2.1)) (fr11.at (by simp only [List.mem_cons, List.not_mem_nil, or_false, not_or]; exact (Ne.symm (sok hid (by unfold apart; decide)).2.2.1)) (f_H1.at (by simp only [List.mem_cons, List.not_mem_nil, or_false, not_or]; exact (Ne.symm (sok hid (by unfold apart; decide)).2.2.1)) hf_))), (f_H4.at (by simp only [List.mem_cons, List.not_mem_nil, or_false, not_or]; exact (Ne.symm (sok hid (by unfold apart; decide)).2.2.2.2)) (fr11.at (by simp only [List.mem_cons, List.not_mem_nil, or_false, not_or]; exact (Ne.symm (sok hid (by unfold apart; decide)).2.2.2.2)) (f_H1.at (by simp only [List.mem_cons, List.not_mem_nil, or_false, not_or]; exact (Ne.symm (sok hid (by unfold apart; decide)).2.2.2.2)) hg_))), ef, eg⟩ hz h0 h1 (by omega) (by omega) (hd := by omega)) (fun H10 r11 => ?_)
          obtain ⟨T_H10, e_H10, f_H10⟩ := r11
          refine E_run hk 3 (j' := 38) (lv' := [(5, yi (far (cst S (-k) (S 2)))), (1, yi k), (2, yi (far (cst S k (S 2)))), (4, yi (far (cst S k (S 2)))), (0, .ref 28), (3, yi k)]) (st' := [yi (far (cst S k (S 2))), yi (far (cst S (-k) (S 2)))]) (hp' := H10) rfl ?_
          refine Y_ic_ge (a := (far (cst S (-k) (S 2)))) (b := (far (cst S k (S 2)))) (by omega) hk rfl (fun g12 => ?_) (fun g12 => ?_)
          ·
            refine Y_iinc (a := k) (z := 1) hk rfl rfl rfl (by decide) (lv' := [(3, yi (k + 1)), (5, yi (far (cst S (-k) (S 2)))), (1, yi k), (2, yi (far (cst S k (S 2)))), (4, yi (far (cst S k (S 2)))), (0, .ref 28)]) rfl ?_
            refine E_run hk 1 (j' := 11) (lv' := [(3, yi (k + 1)), (5, yi (far (cst S (-k) (S 2)))), (1, yi k), (2, yi (far (cst S k (S 2)))), (4, yi (far (cst S k (S 2)))), (0, .ref 28)]) (st' := []) (hp' := H10) rfl ?_
            exact Ev_le (xle_s rfl rfl (xle_s rfl rfl (xle_s rfl rfl (xle_s rfl rfl (xle_z _ rfl))))) (ih11 _ (by omega) (k + 1) k (cst S k (S 2)) T_H10 H10 (by omega) (by rw [shb_s (by omega), J2]; first | (exfalso; omega) | (rw [sh1_t (x := k) (by show cst S k (S 2) < _; omega)]; first | (rw [sh1_t (by show cst S (-k) (S 2) < cst S k (S 2); omega)]; done) | (rw [sh1_f (by show ¬ cst S (-k) (S 2) < cst S k (S 2); omega)]; done)) | (rw [sh1_f (x := k) (by show ¬ cst S k (S 2) < _; omega)]; first | (rw [sh1_t (by show cst S (-k) (S 2) < l; omega)]; done) | (rw [sh1_f (by show ¬ cst S (-k) (S 2) < l; omega)]; done))) e_H10 (yfr.tr (yfr.tr fr11 f_H4 (fun _ h => h) (by decide)) f_H10 (fun _ h => h) (by decide)) rfl)
          ·
            refine E_run hk 3 (j' := 42) (lv' := [(2, yi (far (cst S (-k) (S 2)))), (5, yi (far (cst S (-k) (S 2)))), (1, yi k), (4, yi (far (cst S k (S 2)))), (0, .ref 28), (3, yi k)]) (st' := [yi k]) (hp' := H10) rfl ?_
            refine Y_ineg (a := k) hk rfl ?_
            refine E_run hk 1 (j' := 44) (lv' := [(1, yi (-k)), (2, yi (far (cst S (-k) (S 2)))), (5, yi (far (cst S (-k) (S 2)))), (4, yi (far (cst S k (S 2)))), (0, .ref 28), (3, yi k)]) (st' := []) (hp' := H10) rfl ?_
            refine Y_iinc (a := k) (z := 1) hk rfl rfl rfl (by decide) (lv' := [(3, yi (k + 1)), (1, yi (-k)), (2, yi (far (cst S (-k) (S 2)))), (5, yi (far (cst S (-k) (S 2)))), (4, yi (far (cst S k (S 2)))), (0, .ref 28)]) rfl ?_
            refine E_run hk 1 (j' := 11) (lv' := [(3, yi (k + 1)), (1, yi (-k)), (2, yi (far (cst S (-k) (S 2)))), (5, yi (far (cst S (-k) (S 2)))), (4, yi (far (cst S k (S 2)))), (0, .ref 28)]) (st' := []) (hp' := H10) rfl ?_
            exact Ev_le (xle_s rfl rfl (xle_s rfl rfl (xle_s rfl rfl (xle_s rfl rfl (xle_z _ rfl))))) (ih11 _ (by omega) (k + 1) (-k) (cst S (-k) (S 2)) T_H10 H10 (by omega) (by rw [shb_s (by omega), J2]; first | (exfalso; omega) | (rw [sh1_t (x := k) (by show cst S k (S 2) < _; omega)]; first | (rw [sh1_t (by show cst S (-k) (S 2) < cst S k (S 2); omega)]; done) | (rw [sh1_f (by show ¬ cst S (-k) (S 2) < cst S k (S 2); omega)]; done)) | (rw [sh1_f (x := k) (by show ¬ cst S k (S 2) < _; omega)]; first | (rw [sh1_t (by show cst S (-k) (S 2) < l; omega)]; done) | (rw [sh1_f (by show ¬ cst S (-k) (S 2) < l; omega)]; done))) e_H10 (yfr.tr (yfr.tr fr11 f_H4 (fun _ h => h) (by decide)) f_H10 (fun _ h => h) (by decide)) rfl)
  exact Ev_le (xle_s rfl rfl (xle_s rfl rfl (xle_s rfl rfl (xle_s rfl rfl (xle_z _ rfl))))) (loop11 _ 1 0 (cst S 0 (S 2)) T_H1 H1 (by omega) (rfl) e_H1 (yfr.refl _ _) rfl)
/-- below how far apart the lengths are there is no way, and with no bound there is one -/
theorem cst_short {S : Int → Int} (hz : 0 ≤ S 0 ∧ S 0 ≤ 20 ∧ 0 ≤ S 1 ∧ S 1 ≤ 20 ∧ 0 ≤ S 2 ∧ S 2 ≤ 20 ∧ 0 ≤ S 3 ∧ S 3 ≤ 50 ∧ 0 ≤ S 4 ∧ S 4 ≤ 3) (h0 : ∀ q, 0 ≤ q → q < S 0 → 0 ≤ S (7 + q) ∧ S (7 + q) ≤ 60) (h1 : ∀ q, 0 ≤ q → q < S 1 → 0 ≤ S (27 + q) ∧ S (27 + q) ≤ 60) {u : Int} (hpos : 0 < S 0 ∧ 0 < S 1) (hu : S 0 - S 1 < -u ∨ u < S 0 - S 1) : cst S 0 u = 100000000 := by
  unfold cst
  rw [if_neg (by omega)]
  exact fw_band (by omega)
theorem fw_full {D : Int → Int → Int} {w m n : Int} (hw : 0 ≤ w ∧ w ≤ 50) (hm : m ≤ 20 ∧ n ≤ 20) (hD : ∀ i j, 0 ≤ i → i < m → 0 ≤ j → j < n → 0 ≤ D i j ∧ D i j ≤ 5184) : ∀ (N : Nat) (i j : Int), 0 ≤ i → 0 ≤ j → i < m → j < n → (i + 1).toNat + (j + 1).toNat = N → fw D w 20 i j < 100000000 := by
  intro N
  induction N using Nat.strongRecOn with
  | ind N ih =>
    intro i j hi hj hi2 hj2 hN
    have hd := hD i j hi hi2 hj hj2
    have r1 := fw_rng (b := 20) hw hD _ (i - 1) (j - 1) (by omega) (by omega) rfl
    have r2 := fw_rng (b := 20) hw hD _ (i - 1) j (by omega) (by omega) rfl
    have r3 := fw_rng (b := 20) hw hD _ i (j - 1) (by omega) (by omega) rfl
    have s1 := least_rng (fw D w 20 (i - 1) j) (fw D w 20 i (j - 1))
    have s2 := least_rng (fw D w 20 (i - 1) (j - 1)) (least (fw D w 20 (i - 1) j) (fw D w 20 i (j - 1)) + w)
    have key : fwf D w 20 i j ≤ 300000 := by
      unfold fwf
      by_cases e0 : i = 0 ∧ j = 0
      · rw [if_pos e0]
        decide
      · rw [if_neg e0]
        by_cases e1 : 0 < i
        · have q := ih _ (by omega) (i - 1) j (by omega) hj (by omega) hj2 rfl
          omega
        · have q := ih _ (by omega) i (j - 1) hi (by omega) hi2 (by omega) rfl
          omega
    rw [fw_in ⟨hi, hj⟩, if_pos ⟨by omega, by omega, by omega⟩]
    omega
theorem cst_full {S : Int → Int} (hz : 0 ≤ S 0 ∧ S 0 ≤ 20 ∧ 0 ≤ S 1 ∧ S 1 ≤ 20 ∧ 0 ≤ S 2 ∧ S 2 ≤ 20 ∧ 0 ≤ S 3 ∧ S 3 ≤ 50 ∧ 0 ≤ S 4 ∧ S 4 ≤ 3) (h0 : ∀ q, 0 ≤ q → q < S 0 → 0 ≤ S (7 + q) ∧ S (7 + q) ≤ 60) (h1 : ∀ q, 0 ≤ q → q < S 1 → 0 ≤ S (27 + q) ∧ S (27 + q) ≤ 60) (hpos : 0 < S 0 ∧ 0 < S 1) : cst S 0 20 < 100000000 := by
  unfold cst
  rw [if_neg (by omega)]
  exact fw_full (by omega) (by omega) (fun i j a1 a2 a3 a4 => unl_rng hz h0 h1 (by omega) a1 a2 a3 a4) _ _ _ (by omega) (by omega) (by omega) (by omega) rfl
theorem c_X8_leastNeededBound {d : Nat} {hp : xH} {kp cl od : Int} (h28 : xat hp 28 = some (.inr (8, [.ref 29, .ref 34, .ref 35, yi kp, .ref 40, yi cl, .ref 41, .ref 43, yi od, .ref 56, .ref 58]))) (h56 : xat hp 56 = some (.inr (1, [.ref 57]))) {Tr : Int → Int} (h57 : xat hp 57 = some (yI 400 Tr)) {z o : Nat} {S f g : Int → Int} {r t : Int} (hS : yS hp 29 z o S f g r t) (hz : 0 ≤ S 0 ∧ S 0 ≤ 20 ∧ 0 ≤ S 1 ∧ S 1 ≤ 20 ∧ 0 ≤ S 2 ∧ S 2 ≤ 20 ∧ 0 ≤ S 3 ∧ S 3 ≤ 50 ∧ 0 ≤ S 4 ∧ S 4 ≤ 3) (h0 : ∀ q, 0 ≤ q → q < S 0 → 0 ≤ S (7 + q) ∧ S (7 + q) ≤ 60) (h1 : ∀ q, 0 ≤ q → q < S 1 → 0 ≤ S (27 + q) ∧ S (27 + q) ≤ 60) (hd : 4 ≤ d) : Cv d 99 [.ref 28] hp (yE (fun z h => (((S 0 = 0 ∨ S 1 = 0) ∧ z = -1) ∨ (¬ (S 0 = 0 ∨ S 1 = 0) ∧ 0 ≤ z ∧ z ≤ 20 ∧ cst S 0 z = cst S 0 20 ∧ ∀ x, 0 ≤ x → x < z → ¬ cst S 0 x = cst S 0 20)) ∧ ∃ T2, xat h 57 = some (yI 400 T2) ∧ yfr [57] hp h)) := by
  have hk : xtab 99 = (xc_99, 3, 1, []) := rfl
  obtain ⟨d, rfl⟩ : ∃ e, d = e + 1 := ⟨d - 1, by omega⟩
  obtain ⟨hid, hs_, hz_, ho_, hf_, hg_, ef, eg⟩ := hS
  have w0 := cst_rng (b := 0) (u := 20) hz h0 h1 (by omega)
  have w1 := ab_rng (S 0 - S 1)
  show Ev (d + 1) 99 0 [(0, .ref 28)] [] hp _
  refine E_run hk 1 (j' := 1) (lv' := [(0, .ref 28)]) (st' := [.ref 28]) (hp' := hp) rfl ?_
  refine E_get (v := .ref 29) hk rfl h28 rfl ?_
  refine Y_callP hk rfl (as := [.ref 29]) (rest := []) (v := some (yi (b2 (S 0 = 0 ∨ S 1 = 0)))) rfl rfl (Nat.le_of_ble_eq_true rfl) (rcv0 hs_) (Nat.le_of_ble_eq_true rfl) (c_X5_hasEmptyTune ⟨hid, hs_, hz_, ho_, hf_, hg_, ef, eg⟩ (by omega)) ?_
  refine Y_b_eq hk rfl (fun g1 => ?_) (fun g1 => ?_)
  ·
    refine E_run hk 3 (j' := 9) (lv' := [(0, .ref 28)]) (st' := [yi 20, yi 0, .ref 28]) (hp' := hp) rfl ?_
    refine Y_call hk rfl (as := [.ref 28, yi 0, yi 20]) (rest := []) (v := some (yi (far (cst S 0 20)))) rfl rfl (Nat.le_of_ble_eq_true rfl) (rcv0 h28) (Nat.le_of_ble_eq_true rfl) (c_X8_costIf (b := 0) (u := 20) h28 h56 h57 ⟨hid, hs_, hz_, ho_, hf_, hg_, ef, eg⟩ hz h0 h1 (by omega) (by omega) (hd := by omega)) (fun H2 r3 => ?_)
    obtain ⟨T_H2, e_H2, f_H2⟩ := r3
    refine E_run hk 2 (j' := 12) (lv' := [(1, yi (far (cst S 0 20))), (0, .ref 28)]) (st' := [.ref 28]) (hp' := H2) rfl ?_
    refine E_get (v := .ref 29) hk rfl (f_H2.at (by decide) h28) rfl ?_
    refine Y_callP hk rfl (as := [.ref 29]) (rest := []) (v := some (yi (ab (S 0 - S 1)))) rfl rfl (Nat.le_of_ble_eq_true rfl) (rcv0 (f_H2.at (by decide) hs_)) (Nat.le_of_ble_eq_true rfl) (c_X5_lengthsApart ⟨hid, (f_H2.at (by decide) hs_), (f_H2.at (by simp only [List.mem_cons, List.not_mem_nil, or_false, not_or]; exact (Ne.symm (sok hid (by unfold apart; decide)).2.1)) hz_), (f_H2.at (by simp only [List.mem_cons, List.not_mem_nil, or_false, not_or]; exact (Ne.symm (sok hid (by unfold apart; decide)).2.2.2.1)) ho_), (f_H2.at (by simp only [List.mem_cons, List.not_mem_nil, or_false, not_or]; exact (Ne.symm (sok hid (by unfold apart; decide)).2.2.1)) hf_), (f_H2.at (by simp only [List.mem_cons, List.not_mem_nil, or_false, not_or]; exact (Ne.symm (sok hid (by unfold apart; decide)).2.2.2.2)) hg_), ef, eg⟩ (by omega)) ?_
    refine E_run hk 1 (j' := 15) (lv' := [(2, yi (ab (S 0 - S 1))), (1, yi (far (cst S 0 20))), (0, .ref 28)]) (st' := []) (hp' := H2) rfl ?_
    have loop15 : ∀ (N : Nat) (n : Int) (T2 : Int → Int) (hl15 : xH), (0 ≤ n ∧ n ≤ 20) → (∀ x, 0 ≤ x → x < n → ¬ cst S 0 x = cst S 0 20) → (xat hl15 57 = some (yI 400 T2)) → (yfr [57] H2 hl15) → (20 - n).toNat = N → Ev (d + 1) 99 15 [(0, .ref 28), (1, yi (far (cst S 0 20))), (2, yi n)] [] hl15 (yE (fun z h => (((S 0 = 0 ∨ S 1 = 0) ∧ z = -1) ∨ (¬ (S 0 = 0 ∨ S 1 = 0) ∧ 0 ≤ z ∧ z ≤ 20 ∧ cst S 0 z = cst S 0 20 ∧ ∀ x, 0 ≤ x → x < z → ¬ cst S 0 x = cst S 0 20)) ∧ ∃ T2, xat h 57 = some (yI 400 T2) ∧ yfr [57] hp h)) := by
      intro N
      induction N using Nat.strongRecOn with
      | ind N ih15 =>
        intro n T2 hl15 J1 J2 ec15_57 fr15 hm15
        refine E_run hk 1 (j' := 16) (lv' := [(0, .ref 28), (1, yi (far (cst S 0 20))), (2, yi n)]) (st' := [yi n]) (hp' := hl15) rfl ?_
        refine E_run hk 1 (j' := 17) (lv' := [(0, .ref 28), (1, yi (far (cst S 0 20))), (2, yi n)]) (st' := [yi 20, yi n]) (hp' := hl15) rfl ?_
        refine Y_ic_ge (a := n) (b := 20) (by omega) hk rfl (fun g4 => ?_) (fun g4 => ?_)
        ·
          refine E_run hk 1 (j' := 27) (lv' := [(0, .ref 28), (1, yi (far (cst S 0 20))), (2, yi n)]) (st' := [yi n]) (hp' := hl15) rfl ?_
          exact E_ret hk rfl rfl ⟨n, rfl, Or.inr ⟨by omega, by omega, by omega, by first | (have fi := far_inj (cst_rng (b := 0) (u := n) hz h0 h1 (by omega)) w0; omega) | (rw [show n = 20 by omega]), J2⟩, _, ec15_57, (yfr.tr f_H2 fr15 (fun _ h => h) (by decide))⟩
        ·
          have w2 := cst_rng (b := 0) (u := n) hz h0 h1 (by omega)
          have fr1 := far_rng (cst S 0 n)
          have fr2 := far_rng (cst S 0 20)
          refine E_run hk 3 (j' := 21) (lv' := [(0, .ref 28), (1, yi (far (cst S 0 20))), (2, yi n)]) (st' := [yi n, yi 0, .ref 28]) (hp' := hl15) rfl ?_
          refine Y_call hk rfl (as := [.ref 28, yi 0, yi n]) (rest := []) (v := some (yi (far (cst S 0 n)))) rfl rfl (Nat.le_of_ble_eq_true rfl) (rcv0 (fr15.at (by decide) (f_H2.at (by decide) h28))) (Nat.le_of_ble_eq_true rfl) (c_X8_costIf (b := 0) (u := n) (fr15.at (by decide) (f_H2.at (by decide) h28)) (fr15.at (by decide) (f_H2.at (by decide) h56)) ec15_57 ⟨hid, (fr15.at (by decide) (f_H2.at (by decide) hs_)), (fr15.at (by simp only [List.mem_cons, List.not_mem_nil, or_false, not_or]; exact (Ne.symm (sok hid (by unfold apart; decide)).2.1)) (f_H2.at (by simp only [List.mem_cons, List.not_mem_nil, or_false, not_or]; exact (Ne.symm (sok hid (by unfold apart; decide)).2.1)) hz_)), (fr15.at (by simp only [List.mem_cons, List.not_mem_nil, or_false, not_or]; exact (Ne.symm (sok hid (by unfold apart; decide)).2.2.2.1)) (f_H2.at (by simp only [List.mem_cons, List.not_mem_nil, or_false, not_or]; exact (Ne.symm (sok hid (by unfold apart; decide)).2.2.2.1)) ho_)), (fr15.at (by simp only [List.mem_cons, List.not_mem_nil, or_false, not_or]; exact (Ne.symm (sok hid (by unfold apart; decide)).2.2.1)) (f_H2.at (by simp only [List.mem_cons, List.not_mem_nil, or_false, not_or]; exact (Ne.symm (sok hid (by unfold apart; decide)).2.2.1)) hf_)), (fr15.at (by simp only [List.mem_cons, List.not_mem_nil, or_false, not_or]; exact (Ne.symm (sok hid (by unfold apart; decide)).2.2.2.2)) (f_H2.at (by simp only [List.mem_cons, List.not_mem_nil, or_false, not_or]; exact (Ne.symm (sok hid (by unfold apart; decide)).2.2.2.2)) hg_)), ef, eg⟩ hz h0 h1 (by omega) (by omega) (hd := by omega)) (fun H5 r6 => ?_)
          obtain ⟨T_H5, e_H5, f_H5⟩ := r6
          refine E_run hk 1 (j' := 23) (lv' := [(0, .ref 28), (1, yi (far (cst S 0 20))), (2, yi n)]) (st' := [yi (far (cst S 0 20)), yi (far (cst S 0 n))]) (hp' := H5) rfl ?_
          refine Y_ic_eq (a := (far (cst S 0 n))) (b := (far (cst S 0 20))) (by omega) hk rfl (fun g7 => ?_) (fun g7 => ?_)
          ·
            refine E_run hk 1 (j' := 27) (lv' := [(0, .ref 28), (1, yi (far (cst S 0 20))), (2, yi n)]) (st' := [yi n]) (hp' := H5) rfl ?_
            exact E_ret hk rfl rfl ⟨n, rfl, Or.inr ⟨by omega, by omega, by omega, by first | (have fi := far_inj (cst_rng (b := 0) (u := n) hz h0 h1 (by omega)) w0; omega) | (rw [show n = 20 by omega]), J2⟩, _, e_H5, (yfr.tr (yfr.tr f_H2 fr15 (fun _ h => h) (by decide)) f_H5 (fun _ h => h) (by decide))⟩
          ·
            refine Y_iinc (a := n) (z := 1) hk rfl rfl rfl (by decide) (lv' := [(2, yi (n + 1)), (0, .ref 28), (1, yi (far (cst S 0 20)))]) rfl ?_
            refine E_run hk 1 (j' := 15) (lv' := [(2, yi (n + 1)), (0, .ref 28), (1, yi (far (cst S 0 20)))]) (st' := []) (hp' := H5) rfl ?_
            exact Ev_le (xle_s rfl rfl (xle_s rfl rfl (xle_s rfl rfl (xle_z _ rfl)))) (ih15 _ (by omega) (n + 1) T_H5 H5 (by omega) (fun x x1 x2 => by
        by_cases e : x = n
        · rw [e]
          exact fun q => by
            have fe : far (cst S 0 n) = far (cst S 0 20) := by rw [q]
            omega
        · exact J2 x x1 (by omega)) e_H5 (yfr.tr fr15 f_H5 (fun _ h => h) (by decide)) rfl)
    exact Ev_le (xle_s rfl rfl (xle_s rfl rfl (xle_s rfl rfl (xle_z _ rfl)))) (loop15 _ (ab (S 0 - S 1)) T_H2 H2 (by omega) (fun x x1 x2 q => by
      have q1 := cst_short hz h0 h1 (u := x) (by omega) (by omega)
      have q2 := cst_full hz h0 h1 (by omega)
      omega) e_H2 (yfr.refl _ _) rfl)
  ·
    refine E_run hk 1 (j' := 5) (lv' := [(0, .ref 28)]) (st' := [yi (-1)]) (hp' := hp) rfl ?_
    exact E_ret hk rfl rfl ⟨(-1), rfl, Or.inl ⟨by omega, rfl⟩, _, h57, (yfr.refl _ _)⟩
theorem c_X8_orNothing {d : Nat} {hp : xH} {x : Int} (hx : 0 ≤ x ∧ x ≤ 1000000000) : Cv d 96 [yi x] hp (yP (some (yi (if x < 1000000000 then x else -1))) hp) := by
  have hk : xtab 96 = (xc_96, 1, 1, []) := rfl
  show Ev d 96 0 [(0, yi x)] [] hp _
  refine E_run hk 2 (j' := 2) (lv' := [(0, yi x)]) (st' := [yi 1000000000, yi x]) (hp' := hp) rfl ?_
  refine Y_ic_lt (a := x) (b := 1000000000) (by omega) hk rfl (fun g1 => ?_) (fun g1 => ?_)
  ·
    refine E_run hk 1 (j' := 6) (lv' := [(0, yi x)]) (st' := [yi x]) (hp' := hp) rfl ?_
    exact E_ret hk rfl rfl (li (by first | rw [if_pos (by omega)] | rw [if_neg (by omega)]))
  ·
    refine E_run hk 2 (j' := 6) (lv' := [(0, yi x)]) (st' := [yi (-1)]) (hp' := hp) rfl ?_
    exact E_ret hk rfl rfl (li (by first | rw [if_pos (by omega)] | rw [if_neg (by omega)]))
