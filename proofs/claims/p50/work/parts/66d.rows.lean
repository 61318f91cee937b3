/-! From the end. -/
theorem rowcell2 {D : Int → Int → Int} {w b m n i c : Int} (hw : 0 ≤ w ∧ w ≤ 50) (h : 0 ≤ i ∧ 0 ≤ c ∧ i < m ∧ c < n ∧ m ≤ 20 ∧ n ≤ 20 ∧ -b ≤ i - c ∧ i - c ≤ b) (hD : 0 ≤ D i c ∧ D i c ≤ 5184) (r1 : 0 ≤ bw D w b m n (i + 1) c ∧ (bw D w b m n (i + 1) c = 100000000 ∨ (i + 1 < m ∧ c < n ∧ bw D w b m n (i + 1) c ≤ 5234 * (m - (i + 1) + n - c)))) (r2 : 0 ≤ bw D w b m n (i + 1) (c + 1) ∧ (bw D w b m n (i + 1) (c + 1) = 100000000 ∨ (i + 1 < m ∧ c + 1 < n ∧ bw D w b m n (i + 1) (c + 1) ≤ 5234 * (m - (i + 1) + n - (c + 1))))) (r3 : 0 ≤ bw D w b m n i (c + 1) ∧ (bw D w b m n i (c + 1) = 100000000 ∨ (i < m ∧ c + 1 < n ∧ bw D w b m n i (c + 1) ≤ 5234 * (m - i + n - (c + 1))))) :
    far (bw D w b m n i c) = if i = m - 1 ∧ c = n - 1 then D i c else mn 1000000000 (mn (far (bw D w b m n (i + 1) (c + 1))) (mn (far (bw D w b m n (i + 1) c)) (far (bw D w b m n i (c + 1))) + w) + D i c) := by
  have k1 := far_rng (bw D w b m n (i + 1) c)
  have k2 := far_rng (bw D w b m n (i + 1) (c + 1))
  have k3 := far_rng (bw D w b m n i (c + 1))
  have s1 := least_rng (bw D w b m n (i + 1) c) (bw D w b m n i (c + 1))
  have s2 := least_rng (bw D w b m n (i + 1) (c + 1)) (least (bw D w b m n (i + 1) c) (bw D w b m n i (c + 1)) + w)
  have fe : bw D w b m n i c = if -b ≤ i - c ∧ i - c ≤ b ∧ bwt D w b m n i c < 100000000 then bwt D w b m n i c + D i c else 100000000 := bw_in (by omega)
  have ff : bwt D w b m n i c = if i = m - 1 ∧ c = n - 1 then 0 else least (bw D w b m n (i + 1) (c + 1)) (least (bw D w b m n (i + 1) c) (bw D w b m n i (c + 1)) + w) := rfl
  have m1 := mn_rng (far (bw D w b m n (i + 1) c)) (far (bw D w b m n i (c + 1)))
  have m2 := mn_rng (far (bw D w b m n (i + 1) (c + 1))) (mn (far (bw D w b m n (i + 1) c)) (far (bw D w b m n i (c + 1))) + w)
  have m3 := mn_rng 1000000000 (mn (far (bw D w b m n (i + 1) (c + 1))) (mn (far (bw D w b m n (i + 1) c)) (far (bw D w b m n i (c + 1))) + w) + D i c)
  have k4 := far_rng (bw D w b m n i c)
  by_cases e : i = m - 1 ∧ c = n - 1
  · rw [if_pos e] at ff ⊢
    rw [ff, if_pos (by omega)] at fe
    omega
  · rw [if_neg e] at ff ⊢
    split at fe <;> omega
theorem c_X0_tellRowFromEnd {d : Nat} {hp : xH} {a p : Nat} (hap : 28 ≤ a ∧ 28 ≤ p ∧ a ≠ p) {k : Int → Int} (ha : xat hp a = some (.inr (1, [.ref p]))) (hk1 : xat hp p = some (yI 400 k)) {s z o : Nat} {S f g : Int → Int} {r t : Int} (hS : yS hp s z o S f g r t) (hne : apart a s ∧ apart p s) (hz : 0 ≤ S 0 ∧ S 0 ≤ 20 ∧ 0 ≤ S 1 ∧ S 1 ≤ 20 ∧ 0 ≤ S 2 ∧ S 2 ≤ 20 ∧ 0 ≤ S 3 ∧ S 3 ≤ 50 ∧ 0 ≤ S 4 ∧ S 4 ≤ 3) (h0 : ∀ q, 0 ≤ q → q < S 0 → 0 ≤ S (7 + q) ∧ S (7 + q) ≤ 60) (h1 : ∀ q, 0 ≤ q → q < S 1 → 0 ≤ S (27 + q) ∧ S (27 + q) ≤ 60) {i : Int} (hi : 0 ≤ i ∧ i < S 0) (hJ : (∀ x y, i < x → x < S 0 → 0 ≤ y → y < S 1 → k (20 * x + y) = far (bw (unl S 0) (S 3) (S 2) (S 0) (S 1) x y)) ∧ (∀ x y, 0 ≤ x → x < 20 → 0 ≤ y → y < 20 → (x ≤ i ∨ S 0 ≤ x ∨ S 1 ≤ y) → k (20 * x + y) = 1000000000)) (hd : 2 ≤ d) : Cv d 7 [.ref a, .ref s, yi i] hp (yR none (fun h => ∃ m, xat h p = some (yI 400 m) ∧ (∀ x y, i - 1 < x → x < S 0 → 0 ≤ y → y < S 1 → m (20 * x + y) = far (bw (unl S 0) (S 3) (S 2) (S 0) (S 1) x y)) ∧ (∀ x y, 0 ≤ x → x < 20 → 0 ≤ y → y < 20 → (x ≤ i - 1 ∨ S 0 ≤ x ∨ S 1 ≤ y) → m (20 * x + y) = 1000000000) ∧ yfr [p] hp h)) := by
  have hk : xtab 7 = (xc_7, 10, 0, []) := rfl
  obtain ⟨d, rfl⟩ : ∃ e, d = e + 1 := ⟨d - 1, by omega⟩
  obtain ⟨hid, hs_, hz_, ho_, hf_, hg_, ef, eg⟩ := hS
  have hDD : ∀ i j, 0 ≤ i → i < S 0 → 0 ≤ j → j < S 1 → 0 ≤ unl S 0 i j ∧ unl S 0 i j ≤ 5184 := fun i j a1 a2 a3 a4 => unl_rng hz h0 h1 (by omega) a1 a2 a3 a4
  show Ev (d + 1) 7 0 [(0, .ref a), (1, .ref s), (2, yi i)] [] hp _
  refine E_run hk 3 (j' := 3) (lv' := [(0, .ref a), (1, .ref s), (2, yi i)]) (st' := [.ref s, yi i, yi 0]) (hp' := hp) rfl ?_
  refine E_get (v := yi (S 2)) hk rfl hs_ rfl ?_
  refine Y_isub (a := i) (b := (S 2)) hk rfl ?_
  refine Y_max (a := 0) (b := (i - (S 2))) (by omega) hk rfl (Nat.le_of_ble_eq_true rfl) ?_
  generalize hF0 : mx 0 (i - (S 2)) = F
  have hF := mx_f hF0 (by omega) (by omega)
  refine E_run hk 2 (j' := 8) (lv' := [(3, yi F), (0, .ref a), (1, .ref s), (2, yi i)]) (st' := [.ref s]) (hp' := hp) rfl ?_
  refine E_get (v := .ref o) hk rfl hs_ rfl ?_
  refine E_get (v := yi (S 1)) hk rfl ho_ rfl ?_
  refine E_run hk 1 (j' := 11) (lv' := [(3, yi F), (0, .ref a), (1, .ref s), (2, yi i)]) (st' := [yi 1, yi (S 1)]) (hp' := hp) rfl ?_
  refine Y_isub (a := (S 1)) (b := 1) hk rfl ?_
  refine E_run hk 2 (j' := 14) (lv' := [(3, yi F), (0, .ref a), (1, .ref s), (2, yi i)]) (st' := [.ref s, yi i, yi ((S 1) - 1)]) (hp' := hp) rfl ?_
  refine E_get (v := yi (S 2)) hk rfl hs_ rfl ?_
  refine Y_iadd (a := i) (b := (S 2)) hk rfl ?_
  refine Y_min (a := ((S 1) - 1)) (b := (i + (S 2))) (by omega) hk rfl (Nat.le_of_ble_eq_true rfl) ?_
  generalize hL0 : mn ((S 1) - 1) (i + (S 2)) = L
  have hL := mn_l hL0 (by omega) (by omega) (by omega)
  refine E_run hk 6 (j' := 23) (lv' := [(5, yi 1000000000), (4, yi L), (3, yi F), (0, .ref a), (1, .ref s), (2, yi i)]) (st' := [yi 1, yi i, .ref a]) (hp' := hp) rfl ?_
  refine Y_iadd (a := i) (b := 1) hk rfl ?_
  refine E_run hk 2 (j' := 26) (lv' := [(5, yi 1000000000), (4, yi L), (3, yi F), (0, .ref a), (1, .ref s), (2, yi i)]) (st' := [yi 1, yi L, yi (i + 1), .ref a]) (hp' := hp) rfl ?_
  refine Y_iadd (a := L) (b := 1) hk rfl ?_
  refine Y_callP hk rfl (as := [.ref a, yi (i + 1), yi (L + 1)]) (rest := []) (v := some (yi (gat k (i + 1) (L + 1)))) rfl rfl (Nat.le_of_ble_eq_true rfl) (rcv0 ha) (Nat.le_of_ble_eq_true rfl) (c_X0_at (i := (i + 1)) (j := (L + 1)) (a := a) (p := p) (k := k) hap ha hk1 (by omega)) ?_
  refine E_run hk 3 (j' := 31) (lv' := [(7, yi L), (6, yi (gat k (i + 1) (L + 1))), (5, yi 1000000000), (4, yi L), (3, yi F), (0, .ref a), (1, .ref s), (2, yi i)]) (st' := []) (hp' := hp) rfl ?_
  have loop31 : ∀ (N : Nat) (c : Int) (l : Int) (al : Int) (m : Int → Int) (hl31 : xH), (c ≤ L ∧ -1 ≤ c) → (∀ x y, i < x → x < S 0 → 0 ≤ y → y < S 1 → m (20 * x + y) = far (bw (unl S 0) (S 3) (S 2) (S 0) (S 1) x y)) → (l = far (bw (unl S 0) (S 3) (S 2) (S 0) (S 1) i (c + 1))) → (al = far (bw (unl S 0) (S 3) (S 2) (S 0) (S 1) (i + 1) (c + 1))) → (∀ y, c < y → y < S 1 → m (20 * i + y) = far (bw (unl S 0) (S 3) (S 2) (S 0) (S 1) i y)) → (∀ x y, 0 ≤ x → x < 20 → 0 ≤ y → y < 20 → (x < i ∨ S 0 ≤ x ∨ S 1 ≤ y) → m (20 * x + y) = 1000000000) → (∀ y, 0 ≤ y → y < 20 → y ≤ c → m (20 * i + y) = 1000000000) → (xat hl31 p = some (yI 400 m)) → (yfr [p] hp hl31) → (c + 1).toNat = N → Ev (d + 1) 7 31 [(0, .ref a), (1, .ref s), (2, yi i), (3, yi F), (5, yi l), (6, yi al), (7, yi c)] [] hl31 (yR none (fun h => ∃ m, xat h p = some (yI 400 m) ∧ (∀ x y, i - 1 < x → x < S 0 → 0 ≤ y → y < S 1 → m (20 * x + y) = far (bw (unl S 0) (S 3) (S 2) (S 0) (S 1) x y)) ∧ (∀ x y, 0 ≤ x → x < 20 → 0 ≤ y → y < 20 → (x ≤ i - 1 ∨ S 0 ≤ x ∨ S 1 ≤ y) → m (20 * x + y) = 1000000000) ∧ yfr [p] hp h)) := by
    intro N
    induction N using Nat.strongRecOn with
    | ind N ih31 =>
      intro c l al m hl31 J1 J2 J3 J4 J5 J6 J7 ec31_p fr31 hm31
      refine E_run hk 1 (j' := 32) (lv' := [(0, .ref a), (1, .ref s), (2, yi i), (3, yi F), (5, yi l), (6, yi al), (7, yi c)]) (st' := [yi c]) (hp' := hl31) rfl ?_
      refine E_run hk 1 (j' := 33) (lv' := [(0, .ref a), (1, .ref s), (2, yi i), (3, yi F), (5, yi l), (6, yi al), (7, yi c)]) (st' := [yi F, yi c]) (hp' := hl31) rfl ?_
      refine Y_ic_lt (a := c) (b := F) (by omega) hk rfl (fun g1 => ?_) (fun g1 => ?_)
      ·
        exact E_ret hk rfl rfl ⟨rfl, _, ec31_p, fun x y x1 x2 y1 y2 => by
          by_cases e : x = i
          · rw [e]
            by_cases e2 : c < y
            · exact J5 y e2 y2
            · rcases hF.2.2.2 y (by omega) with q | q <;> rw [J7 y y1 (by omega) (by omega), bw_band (by omega)] <;> rfl
          · exact J2 x y (by omega) x2 y1 y2, fun x y x1 x2 y1 y2 q => J6 x y x1 x2 y1 y2 (by omega), fr31⟩
      ·
        have hD := unl_rng (b := 0) hz h0 h1 (by omega) (i := i) (j := c) (by omega) (by omega) (by omega) (by omega)
        have u1 : gat m (i + 1) c = far (bw (unl S 0) (S 3) (S 2) (S 0) (S 1) (i + 1) c) := gat_bw (by omega) (fun q1 q2 => J2 _ _ (by omega) q1 (by omega) q2) (fun q1 q2 q3 => J6 _ _ (by omega) q2 (by omega) q3 (by omega))
        have cel := rowcell2 (D := unl S 0) (w := S 3) (b := S 2) (m := S 0) (n := S 1) (i := i) (c := c) (by omega) (by omega) hD (bw_rng (b := S 2) (w := S 3) (m := S 0) (n := S 1) (by omega) hDD _ (i + 1) c (by omega) (by omega) rfl) (bw_rng (b := S 2) (w := S 3) (m := S 0) (n := S 1) (by omega) hDD _ (i + 1) (c + 1) (by omega) (by omega) rfl) (bw_rng (b := S 2) (w := S 3) (m := S 0) (n := S 1) (by omega) hDD _ i (c + 1) (by omega) (by omega) rfl)
        have b1 : 0 ≤ gat m (i + 1) c ∧ gat m (i + 1) c ≤ 1000000000 := by rw [u1]; exact far_bd (bw_rng (b := S 2) (w := S 3) (m := S 0) (n := S 1) (by omega) hDD _ (i + 1) c (by omega) (by omega) rfl).1
        have bb2 : 0 ≤ l ∧ l ≤ 1000000000 := by rw [J3]; exact far_bd (bw_rng (b := S 2) (w := S 3) (m := S 0) (n := S 1) (by omega) hDD _ i (c + 1) (by omega) (by omega) rfl).1
        have b3 : 0 ≤ al ∧ al ≤ 1000000000 := by rw [J4]; exact far_bd (bw_rng (b := S 2) (w := S 3) (m := S 0) (n := S 1) (by omega) hDD _ (i + 1) (c + 1) (by omega) (by omega) rfl).1
        have m1 := mn_bd (a := gat m (i + 1) c) (b := l) (u := 1000000000) (v := 1000000000) (by omega)
        have m2 := mn_bd (a := al) (b := mn (gat m (i + 1) c) l + S 3) (u := 1000000000) (v := 1000000050) (by omega)
        refine E_run hk 3 (j' := 37) (lv' := [(0, .ref a), (1, .ref s), (2, yi i), (3, yi F), (5, yi l), (6, yi al), (7, yi c)]) (st' := [yi 1, yi i, .ref a]) (hp' := hl31) rfl ?_
        refine Y_iadd (a := i) (b := 1) hk rfl ?_
        refine E_run hk 1 (j' := 39) (lv' := [(0, .ref a), (1, .ref s), (2, yi i), (3, yi F), (5, yi l), (6, yi al), (7, yi c)]) (st' := [yi c, yi (i + 1), .ref a]) (hp' := hl31) rfl ?_
        refine Y_callP hk rfl (as := [.ref a, yi (i + 1), yi c]) (rest := []) (v := some (yi (gat m (i + 1) c))) rfl rfl (Nat.le_of_ble_eq_true rfl) (rcv0 (fr31.at (by simp only [List.mem_cons, List.not_mem_nil, or_false, not_or]; exact hap.2.2) ha)) (Nat.le_of_ble_eq_true rfl) (c_X0_at (i := (i + 1)) (j := c) (a := a) (p := p) (k := m) hap (fr31.at (by simp only [List.mem_cons, List.not_mem_nil, or_false, not_or]; exact hap.2.2) ha) ec31_p (by omega)) ?_
        refine E_run hk 4 (j' := 44) (lv' := [(8, yi (gat m (i + 1) c)), (0, .ref a), (1, .ref s), (2, yi i), (3, yi F), (5, yi l), (6, yi al), (7, yi c)]) (st' := [yi l, yi (gat m (i + 1) c), yi al]) (hp' := hl31) rfl ?_
        refine Y_min (a := (gat m (i + 1) c)) (b := l) (by omega) hk rfl (Nat.le_of_ble_eq_true rfl) ?_
        refine E_run hk 1 (j' := 46) (lv' := [(8, yi (gat m (i + 1) c)), (0, .ref a), (1, .ref s), (2, yi i), (3, yi F), (5, yi l), (6, yi al), (7, yi c)]) (st' := [.ref s, yi (mn (gat m (i + 1) c) l), yi al]) (hp' := hl31) rfl ?_
        refine E_get (v := yi (S 3)) hk rfl (fr31.at (by simp only [List.mem_cons, List.not_mem_nil, or_false, not_or]; exact (Ne.symm (sok hid hne.2).1)) hs_) rfl ?_
        refine Y_iadd (a := (mn (gat m (i + 1) c) l)) (b := (S 3)) hk rfl ?_
        refine Y_min (a := al) (b := ((mn (gat m (i + 1) c) l) + (S 3))) (by omega) hk rfl (Nat.le_of_ble_eq_true rfl) ?_
        refine E_run hk 4 (j' := 53) (lv' := [(9, yi (mn al ((mn (gat m (i + 1) c) l) + (S 3)))), (8, yi (gat m (i + 1) c)), (0, .ref a), (1, .ref s), (2, yi i), (3, yi F), (5, yi l), (6, yi al), (7, yi c)]) (st' := [yi c, yi i, .ref s]) (hp' := hl31) rfl ?_
        refine Y_callP hk rfl (as := [.ref s, yi i, yi c]) (rest := []) (v := some (yi (b2 (i = S 0 - 1 ∧ c = S 1 - 1)))) rfl rfl (Nat.le_of_ble_eq_true rfl) (rcv0 (fr31.at (by simp only [List.mem_cons, List.not_mem_nil, or_false, not_or]; exact (Ne.symm (sok hid hne.2).1)) hs_)) (Nat.le_of_ble_eq_true rfl) (c_X5_isLastPair ⟨hid, (fr31.at (by simp only [List.mem_cons, List.not_mem_nil, or_false, not_or]; exact (Ne.symm (sok hid hne.2).1)) hs_), (fr31.at (by simp only [List.mem_cons, List.not_mem_nil, or_false, not_or]; exact (Ne.symm (sok hid hne.2).2.1)) hz_), (fr31.at (by simp only [List.mem_cons, List.not_mem_nil, or_false, not_or]; exact (Ne.symm (sok hid hne.2).2.2.2.1)) ho_), (fr31.at (by simp only [List.mem_cons, List.not_mem_nil, or_false, not_or]; exact (Ne.symm (sok hid hne.2).2.2.1)) hf_), (fr31.at (by simp only [List.mem_cons, List.not_mem_nil, or_false, not_or]; exact (Ne.symm (sok hid hne.2).2.2.2.2)) hg_), ef, eg⟩ (i := i) (j := c) (by omega) (by omega)) ?_
        refine Y_b_eq hk rfl (fun g2 => ?_) (fun g2 => ?_)
        ·
          refine E_run hk 5 (j' := 62) (lv' := [(9, yi (mn al ((mn (gat m (i + 1) c) l) + (S 3)))), (8, yi (gat m (i + 1) c)), (0, .ref a), (1, .ref s), (2, yi i), (3, yi F), (5, yi l), (6, yi al), (7, yi c)]) (st' := [yi c, yi i, .ref s, yi (mn al ((mn (gat m (i + 1) c) l) + (S 3))), yi 1000000000]) (hp' := hl31) rfl ?_
          refine Y_callP hk rfl (as := [.ref s, yi i, yi c]) (rest := [yi (mn al ((mn (gat m (i + 1) c) l) + (S 3))), yi 1000000000]) (v := some (yi (unl S 0 i c))) rfl rfl (Nat.le_of_ble_eq_true rfl) (rcv0 (fr31.at (by simp only [List.mem_cons, List.not_mem_nil, or_false, not_or]; exact (Ne.symm (sok hid hne.2).1)) hs_)) (Nat.le_of_ble_eq_true rfl) (c_X5_difference ⟨hid, (fr31.at (by simp only [List.mem_cons, List.not_mem_nil, or_false, not_or]; exact (Ne.symm (sok hid hne.2).1)) hs_), (fr31.at (by simp only [List.mem_cons, List.not_mem_nil, or_false, not_or]; exact (Ne.symm (sok hid hne.2).2.1)) hz_), (fr31.at (by simp only [List.mem_cons, List.not_mem_nil, or_false, not_or]; exact (Ne.symm (sok hid hne.2).2.2.2.1)) ho_), (fr31.at (by simp only [List.mem_cons, List.not_mem_nil, or_false, not_or]; exact (Ne.symm (sok hid hne.2).2.2.1)) hf_), (fr31.at (by simp only [List.mem_cons, List.not_mem_nil, or_false, not_or]; exact (Ne.symm (sok hid hne.2).2.2.2.2)) hg_), ef, eg⟩ hz h0 h1 (i := i) (j := c) (by omega) (hd := by omega)) ?_
          refine Y_iadd (a := (mn al ((mn (gat m (i + 1) c) l) + (S 3)))) (b := (unl S 0 i c)) hk rfl ?_
          refine Y_min (a := 1000000000) (b := ((mn al ((mn (gat m (i + 1) c) l) + (S 3))) + (unl S 0 i c))) (by omega) hk rfl (Nat.le_of_ble_eq_true rfl) ?_
          refine E_run hk 1 (j' := 66) (lv' := [(5, yi (mn 1000000000 ((mn al ((mn (gat m (i + 1) c) l) + (S 3))) + (unl S 0 i c)))), (9, yi (mn al ((mn (gat m (i + 1) c) l) + (S 3)))), (8, yi (gat m (i + 1) c)), (0, .ref a), (1, .ref s), (2, yi i), (3, yi F), (6, yi al), (7, yi c)]) (st' := []) (hp' := hl31) rfl ?_
          have e9 : mn 1000000000 ((mn al ((mn (gat m (i + 1) c) l) + (S 3))) + (unl S 0 i c)) = far (bw (unl S 0) (S 3) (S 2) (S 0) (S 1) i c) := by
            rw [cel, ← J3, ← J4, ← u1]
            first
              | (rw [if_pos (by omega), mn_lt (by omega), Int.zero_add])
              | (rw [if_neg (by omega)]; done)
          refine E_run hk 4 (j' := 70) (lv' := [(5, yi (mn 1000000000 ((mn al ((mn (gat m (i + 1) c) l) + (S 3))) + (unl S 0 i c)))), (9, yi (mn al ((mn (gat m (i + 1) c) l) + (S 3)))), (8, yi (gat m (i + 1) c)), (0, .ref a), (1, .ref s), (2, yi i), (3, yi F), (6, yi al), (7, yi c)]) (st' := [yi (mn 1000000000 ((mn al ((mn (gat m (i + 1) c) l) + (S 3))) + (unl S 0 i c))), yi c, yi i, .ref a]) (hp' := hl31) rfl ?_
          refine Y_call hk rfl (as := [.ref a, yi i, yi c, yi (mn 1000000000 ((mn al ((mn (gat m (i + 1) c) l) + (S 3))) + (unl S 0 i c)))]) (rest := []) (v := none) rfl rfl (Nat.le_of_ble_eq_true rfl) (rcv0 (fr31.at (by simp only [List.mem_cons, List.not_mem_nil, or_false, not_or]; exact hap.2.2) ha)) (Nat.le_of_ble_eq_true rfl) (c_X0_put (i := i) (j := c) (x := (mn 1000000000 ((mn al ((mn (gat m (i + 1) c) l) + (S 3))) + (unl S 0 i c)))) (a := a) (p := p) (k := m) hap (fr31.at (by simp only [List.mem_cons, List.not_mem_nil, or_false, not_or]; exact hap.2.2) ha) ec31_p (by omega)) (fun H3 r4 => ?_)
          obtain ⟨e_H3, f_H3⟩ := r4
          refine E_run hk 2 (j' := 73) (lv' := [(6, yi (gat m (i + 1) c)), (5, yi (mn 1000000000 ((mn al ((mn (gat m (i + 1) c) l) + (S 3))) + (unl S 0 i c)))), (9, yi (mn al ((mn (gat m (i + 1) c) l) + (S 3)))), (8, yi (gat m (i + 1) c)), (0, .ref a), (1, .ref s), (2, yi i), (3, yi F), (7, yi c)]) (st' := []) (hp' := H3) rfl ?_
          refine Y_iinc (a := c) (z := (-1)) hk rfl rfl rfl (by decide) (lv' := [(7, yi (c + (-1))), (6, yi (gat m (i + 1) c)), (5, yi (mn 1000000000 ((mn al ((mn (gat m (i + 1) c) l) + (S 3))) + (unl S 0 i c)))), (9, yi (mn al ((mn (gat m (i + 1) c) l) + (S 3)))), (8, yi (gat m (i + 1) c)), (0, .ref a), (1, .ref s), (2, yi i), (3, yi F)]) rfl ?_
          refine E_run hk 1 (j' := 31) (lv' := [(7, yi (c + (-1))), (6, yi (gat m (i + 1) c)), (5, yi (mn 1000000000 ((mn al ((mn (gat m (i + 1) c) l) + (S 3))) + (unl S 0 i c)))), (9, yi (mn al ((mn (gat m (i + 1) c) l) + (S 3)))), (8, yi (gat m (i + 1) c)), (0, .ref a), (1, .ref s), (2, yi i), (3, yi F)]) (st' := []) (hp' := H3) rfl ?_
          exact Ev_le (xle_s rfl rfl (xle_s rfl rfl (xle_s rfl rfl (xle_s rfl rfl (xle_s rfl rfl (xle_s rfl rfl (xle_s rfl rfl (xle_z _ rfl)))))))) (ih31 _ (by omega) (c + (-1)) (mn 1000000000 ((mn al ((mn (gat m (i + 1) c) l) + (S 3))) + (unl S 0 i c))) (gat m (i + 1) c) (up m (20 * i + c) (mn 1000000000 ((mn al ((mn (gat m (i + 1) c) l) + (S 3))) + (unl S 0 i c)))) H3 (by omega) (fun x y x1 x2 y1 y2 => by
        rw [up_ne _ _ (by omega)]
        exact J2 x y x1 x2 y1 y2) (by rw [show c + (-1) + 1 = c by omega]; exact e9) (by rw [show c + (-1) + 1 = c by omega]; exact u1) (fun y y1 y2 => by
        by_cases e : y = c
        · rw [e, up_self]
          exact e9
        · rw [up_ne _ _ (by omega)]
          exact J5 y (by omega) y2) (fun x y x1 x2 y1 y2 q => by
        rw [up_ne _ _ (by omega)]
        exact J6 x y x1 x2 y1 y2 q) (fun y y1 y2 y3 => by
        rw [up_ne _ _ (by omega)]
        exact J7 y y1 y2 (by omega)) e_H3 (yfr.tr fr31 f_H3 (fun _ h => h) (by simp)) rfl)
        ·
          refine E_run hk 7 (j' := 62) (lv' := [(9, yi 0), (8, yi (gat m (i + 1) c)), (0, .ref a), (1, .ref s), (2, yi i), (3, yi F), (5, yi l), (6, yi al), (7, yi c)]) (st' := [yi c, yi i, .ref s, yi 0, yi 1000000000]) (hp' := hl31) rfl ?_
          refine Y_callP hk rfl (as := [.ref s, yi i, yi c]) (rest := [yi 0, yi 1000000000]) (v := some (yi (unl S 0 i c))) rfl rfl (Nat.le_of_ble_eq_true rfl) (rcv0 (fr31.at (by simp only [List.mem_cons, List.not_mem_nil, or_false, not_or]; exact (Ne.symm (sok hid hne.2).1)) hs_)) (Nat.le_of_ble_eq_true rfl) (c_X5_difference ⟨hid, (fr31.at (by simp only [List.mem_cons, List.not_mem_nil, or_false, not_or]; exact (Ne.symm (sok hid hne.2).1)) hs_), (fr31.at (by simp only [List.mem_cons, List.not_mem_nil, or_false, not_or]; exact (Ne.symm (sok hid hne.2).2.1)) hz_), (fr31.at (by simp only [List.mem_cons, List.not_mem_nil, or_false, not_or]; exact (Ne.symm (sok hid hne.2).2.2.2.1)) ho_), (fr31.at (by simp only [List.mem_cons, List.not_mem_nil, or_false, not_or]; exact (Ne.symm (sok hid hne.2).2.2.1)) hf_), (fr31.at (by simp only [List.mem_cons, List.not_mem_nil, or_false, not_or]; exact (Ne.symm (sok hid hne.2).2.2.2.2)) hg_), ef, eg⟩ hz h0 h1 (i := i) (j := c) (by omega) (hd := by omega)) ?_
          refine Y_iadd (a := 0) (b := (unl S 0 i c)) hk rfl ?_
          refine Y_min (a := 1000000000) (b := (0 + (unl S 0 i c))) (by omega) hk rfl (Nat.le_of_ble_eq_true rfl) ?_
          refine E_run hk 1 (j' := 66) (lv' := [(5, yi (mn 1000000000 (0 + (unl S 0 i c)))), (9, yi 0), (8, yi (gat m (i + 1) c)), (0, .ref a), (1, .ref s), (2, yi i), (3, yi F), (6, yi al), (7, yi c)]) (st' := []) (hp' := hl31) rfl ?_
          have e9 : mn 1000000000 (0 + (unl S 0 i c)) = far (bw (unl S 0) (S 3) (S 2) (S 0) (S 1) i c) := by
            rw [cel, ← J3, ← J4, ← u1]
            first
              | (rw [if_pos (by omega), mn_lt (by omega), Int.zero_add])
              | (rw [if_neg (by omega)]; done)
          refine E_run hk 4 (j' := 70) (lv' := [(5, yi (mn 1000000000 (0 + (unl S 0 i c)))), (9, yi 0), (8, yi (gat m (i + 1) c)), (0, .ref a), (1, .ref s), (2, yi i), (3, yi F), (6, yi al), (7, yi c)]) (st' := [yi (mn 1000000000 (0 + (unl S 0 i c))), yi c, yi i, .ref a]) (hp' := hl31) rfl ?_
          refine Y_call hk rfl (as := [.ref a, yi i, yi c, yi (mn 1000000000 (0 + (unl S 0 i c)))]) (rest := []) (v := none) rfl rfl (Nat.le_of_ble_eq_true rfl) (rcv0 (fr31.at (by simp only [List.mem_cons, List.not_mem_nil, or_false, not_or]; exact hap.2.2) ha)) (Nat.le_of_ble_eq_true rfl) (c_X0_put (i := i) (j := c) (x := (mn 1000000000 (0 + (unl S 0 i c)))) (a := a) (p := p) (k := m) hap (fr31.at (by simp only [List.mem_cons, List.not_mem_nil, or_false, not_or]; exact hap.2.2) ha) ec31_p (by omega)) (fun H5 r6 => ?_)
          obtain ⟨e_H5, f_H5⟩ := r6
          refine E_run hk 2 (j' := 73) (lv' := [(6, yi (gat m (i + 1) c)), (5, yi (mn 1000000000 (0 + (unl S 0 i c)))), (9, yi 0), (8, yi (gat m (i + 1) c)), (0, .ref a), (1, .ref s), (2, yi i), (3, yi F), (7, yi c)]) (st' := []) (hp' := H5) rfl ?_
          refine Y_iinc (a := c) (z := (-1)) hk rfl rfl rfl (by decide) (lv' := [(7, yi (c + (-1))), (6, yi (gat m (i + 1) c)), (5, yi (mn 1000000000 (0 + (unl S 0 i c)))), (9, yi 0), (8, yi (gat m (i + 1) c)), (0, .ref a), (1, .ref s), (2, yi i), (3, yi F)]) rfl ?_
          refine E_run hk 1 (j' := 31) (lv' := [(7, yi (c + (-1))), (6, yi (gat m (i + 1) c)), (5, yi (mn 1000000000 (0 + (unl S 0 i c)))), (9, yi 0), (8, yi (gat m (i + 1) c)), (0, .ref a), (1, .ref s), (2, yi i), (3, yi F)]) (st' := []) (hp' := H5) rfl ?_
          exact Ev_le (xle_s rfl rfl (xle_s rfl rfl (xle_s rfl rfl (xle_s rfl rfl (xle_s rfl rfl (xle_s rfl rfl (xle_s rfl rfl (xle_z _ rfl)))))))) (ih31 _ (by omega) (c + (-1)) (mn 1000000000 (0 + (unl S 0 i c))) (gat m (i + 1) c) (up m (20 * i + c) (mn 1000000000 (0 + (unl S 0 i c)))) H5 (by omega) (fun x y x1 x2 y1 y2 => by
        rw [up_ne _ _ (by omega)]
        exact J2 x y x1 x2 y1 y2) (by rw [show c + (-1) + 1 = c by omega]; exact e9) (by rw [show c + (-1) + 1 = c by omega]; exact u1) (fun y y1 y2 => by
        by_cases e : y = c
        · rw [e, up_self]
          exact e9
        · rw [up_ne _ _ (by omega)]
          exact J5 y (by omega) y2) (fun x y x1 x2 y1 y2 q => by
        rw [up_ne _ _ (by omega)]
        exact J6 x y x1 x2 y1 y2 q) (fun y y1 y2 y3 => by
        rw [up_ne _ _ (by omega)]
        exact J7 y y1 y2 (by omega)) e_H5 (yfr.tr fr31 f_H5 (fun _ h => h) (by simp)) rfl)
  exact Ev_le (xle_s rfl rfl (xle_s rfl rfl (xle_s rfl rfl (xle_s rfl rfl (xle_s rfl rfl (xle_s rfl rfl (xle_s rfl rfl (xle_z _ rfl)))))))) (loop31 _ L 1000000000 (gat k (i + 1) (L + 1)) k hp (by omega) (hJ.1) (by rcases hL.2.2.2 (L + 1) (by omega) with q | q <;> rw [bw_band (by omega)] <;> rfl) (gat_bw (by omega) (fun q1 q2 => hJ.1 _ _ (by omega) q1 (by omega) q2) (fun q1 q2 q3 => hJ.2 _ _ (by omega) q2 (by omega) q3 (by omega))) (fun y y1 y2 => by rcases hL.2.2.2 y (by omega) with q | q <;> rw [hJ.2 _ _ (by omega) (by omega) (by omega) (by omega) (by omega), bw_band (by omega)] <;> rfl) (fun x y x1 x2 y1 y2 q => hJ.2 x y x1 x2 y1 y2 (by omega)) (fun y y1 y2 y3 => hJ.2 i y (by omega) (by omega) y1 y2 (by omega)) hk1 (yfr.refl _ _) rfl)
theorem c_X0_tellFromEnd {d : Nat} {hp : xH} {a p : Nat} (hap : 28 ≤ a ∧ 28 ≤ p ∧ a ≠ p) {k : Int → Int} (ha : xat hp a = some (.inr (1, [.ref p]))) (hk1 : xat hp p = some (yI 400 k)) {s z o : Nat} {S f g : Int → Int} {r t : Int} (hS : yS hp s z o S f g r t) (hne : apart a s ∧ apart p s) (hz : 0 ≤ S 0 ∧ S 0 ≤ 20 ∧ 0 ≤ S 1 ∧ S 1 ≤ 20 ∧ 0 ≤ S 2 ∧ S 2 ≤ 20 ∧ 0 ≤ S 3 ∧ S 3 ≤ 50 ∧ 0 ≤ S 4 ∧ S 4 ≤ 3) (h0 : ∀ q, 0 ≤ q → q < S 0 → 0 ≤ S (7 + q) ∧ S (7 + q) ≤ 60) (h1 : ∀ q, 0 ≤ q → q < S 1 → 0 ≤ S (27 + q) ∧ S (27 + q) ≤ 60) (hd : 3 ≤ d) : Cv d 6 [.ref a, .ref s] hp (yR none (fun h => ∃ m, xat h p = some (yI 400 m) ∧ (∀ x y, 0 ≤ x → x < S 0 → 0 ≤ y → y < S 1 → m (20 * x + y) = far (bw (unl S 0) (S 3) (S 2) (S 0) (S 1) x y)) ∧ (∀ x y, 0 ≤ x → x < 20 → 0 ≤ y → y < 20 → (S 0 ≤ x ∨ S 1 ≤ y) → m (20 * x + y) = 1000000000) ∧ yfr [p] hp h)) := by
  have hk : xtab 6 = (xc_6, 3, 0, []) := rfl
  obtain ⟨d, rfl⟩ : ∃ e, d = e + 1 := ⟨d - 1, by omega⟩
  obtain ⟨hid, hs_, hz_, ho_, hf_, hg_, ef, eg⟩ := hS
  show Ev (d + 1) 6 0 [(0, .ref a), (1, .ref s)] [] hp _
  refine E_run hk 1 (j' := 1) (lv' := [(0, .ref a), (1, .ref s)]) (st' := [.ref a]) (hp' := hp) rfl ?_
  refine Y_call hk rfl (as := [.ref a]) (rest := []) (v := none) rfl rfl (Nat.le_of_ble_eq_true rfl) (rcv0 ha) (Nat.le_of_ble_eq_true rfl) (c_X0_clear (a := a) (p := p) (k := k) hap ha hk1 (hd := by omega)) (fun H1 r2 => ?_)
  obtain ⟨F_H1, e_H1, a_H1, f_H1⟩ := r2
  refine E_run hk 1 (j' := 3) (lv' := [(0, .ref a), (1, .ref s)]) (st' := [.ref s]) (hp' := H1) rfl ?_
  refine E_get (v := .ref z) hk rfl (f_H1.at (by simp only [List.mem_cons, List.not_mem_nil, or_false, not_or]; exact (Ne.symm (sok hid hne.2).1)) hs_) rfl ?_
  refine E_get (v := yi (S 0)) hk rfl (f_H1.at (by simp only [List.mem_cons, List.not_mem_nil, or_false, not_or]; exact (Ne.symm (sok hid hne.2).2.1)) hz_) rfl ?_
  refine E_run hk 1 (j' := 6) (lv' := [(0, .ref a), (1, .ref s)]) (st' := [yi 1, yi (S 0)]) (hp' := H1) rfl ?_
  refine Y_isub (a := (S 0)) (b := 1) hk rfl ?_
  refine E_run hk 1 (j' := 8) (lv' := [(2, yi ((S 0) - 1)), (0, .ref a), (1, .ref s)]) (st' := []) (hp' := H1) rfl ?_
  have loop8 : ∀ (N : Nat) (i : Int) (m : Int → Int) (hl8 : xH), (-1 ≤ i ∧ i ≤ S 0 - 1) → (∀ x y, i < x → x < S 0 → 0 ≤ y → y < S 1 → m (20 * x + y) = far (bw (unl S 0) (S 3) (S 2) (S 0) (S 1) x y)) → (∀ x y, 0 ≤ x → x < 20 → 0 ≤ y → y < 20 → (x ≤ i ∨ S 0 ≤ x ∨ S 1 ≤ y) → m (20 * x + y) = 1000000000) → (xat hl8 p = some (yI 400 m)) → (yfr [p] H1 hl8) → (i + 1).toNat = N → Ev (d + 1) 6 8 [(0, .ref a), (1, .ref s), (2, yi i)] [] hl8 (yR none (fun h => ∃ m, xat h p = some (yI 400 m) ∧ (∀ x y, 0 ≤ x → x < S 0 → 0 ≤ y → y < S 1 → m (20 * x + y) = far (bw (unl S 0) (S 3) (S 2) (S 0) (S 1) x y)) ∧ (∀ x y, 0 ≤ x → x < 20 → 0 ≤ y → y < 20 → (S 0 ≤ x ∨ S 1 ≤ y) → m (20 * x + y) = 1000000000) ∧ yfr [p] hp h)) := by
    intro N
    induction N using Nat.strongRecOn with
    | ind N ih8 =>
      intro i m hl8 J1 J2 J6 ec8_p fr8 hm8
      refine E_run hk 1 (j' := 9) (lv' := [(0, .ref a), (1, .ref s), (2, yi i)]) (st' := [yi i]) (hp' := hl8) rfl ?_
      refine Y_if_lt (a := i) (by omega) hk rfl (fun g3 => ?_) (fun g3 => ?_)
      ·
        exact E_ret hk rfl rfl ⟨rfl, _, ec8_p, fun x y x1 x2 y1 y2 => J2 x y (by omega) x2 y1 y2, fun x y x1 x2 y1 y2 q => J6 x y x1 x2 y1 y2 (by omega), (yfr.tr f_H1 fr8 (fun _ h => h) (by simp))⟩
      ·
        refine E_run hk 3 (j' := 13) (lv' := [(0, .ref a), (1, .ref s), (2, yi i)]) (st' := [yi i, .ref s, .ref a]) (hp' := hl8) rfl ?_
        refine Y_call hk rfl (as := [.ref a, .ref s, yi i]) (rest := []) (v := none) rfl rfl (Nat.le_of_ble_eq_true rfl) (rcv0 (fr8.at (by simp only [List.mem_cons, List.not_mem_nil, or_false, not_or]; exact hap.2.2) (f_H1.at (by simp only [List.mem_cons, List.not_mem_nil, or_false, not_or]; exact hap.2.2) ha))) (Nat.le_of_ble_eq_true rfl) (c_X0_tellRowFromEnd (i := i) (a := a) (p := p) (k := m) hap (fr8.at (by simp only [List.mem_cons, List.not_mem_nil, or_false, not_or]; exact hap.2.2) (f_H1.at (by simp only [List.mem_cons, List.not_mem_nil, or_false, not_or]; exact hap.2.2) ha)) ec8_p ⟨hid, (fr8.at (by simp only [List.mem_cons, List.not_mem_nil, or_false, not_or]; exact (Ne.symm (sok hid hne.2).1)) (f_H1.at (by simp only [List.mem_cons, List.not_mem_nil, or_false, not_or]; exact (Ne.symm (sok hid hne.2).1)) hs_)), (fr8.at (by simp only [List.mem_cons, List.not_mem_nil, or_false, not_or]; exact (Ne.symm (sok hid hne.2).2.1)) (f_H1.at (by simp only [List.mem_cons, List.not_mem_nil, or_false, not_or]; exact (Ne.symm (sok hid hne.2).2.1)) hz_)), (fr8.at (by simp only [List.mem_cons, List.not_mem_nil, or_false, not_or]; exact (Ne.symm (sok hid hne.2).2.2.2.1)) (f_H1.at (by simp only [List.mem_cons, List.not_mem_nil, or_false, not_or]; exact (Ne.symm (sok hid hne.2).2.2.2.1)) ho_)), (fr8.at (by simp only [List.mem_cons, List.not_mem_nil, or_false, not_or]; exact (Ne.symm (sok hid hne.2).2.2.1)) (f_H1.at (by simp only [List.mem_cons, List.not_mem_nil, or_false, not_or]; exact (Ne.symm (sok hid hne.2).2.2.1)) hf_)), (fr8.at (by simp only [List.mem_cons, List.not_mem_nil, or_false, not_or]; exact (Ne.symm (sok hid hne.2).2.2.2.2)) (f_H1.at (by simp only [List.mem_cons, List.not_mem_nil, or_false, not_or]; exact (Ne.symm (sok hid hne.2).2.2.2.2)) hg_)), ef, eg⟩ hne hz h0 h1 (by omega) ⟨J2, J6⟩ (hd := by omega)) (fun H4 r5 => ?_)
        obtain ⟨F_H4, e_H4, a_H4, b_H4, f_H4⟩ := r5
        refine Y_iinc (a := i) (z := (-1)) hk rfl rfl rfl (by decide) (lv' := [(2, yi (i + (-1))), (0, .ref a), (1, .ref s)]) rfl ?_
        refine E_run hk 1 (j' := 8) (lv' := [(2, yi (i + (-1))), (0, .ref a), (1, .ref s)]) (st' := []) (hp' := H4) rfl ?_
        exact Ev_le (xle_s rfl rfl (xle_s rfl rfl (xle_s rfl rfl (xle_z _ rfl)))) (ih8 _ (by omega) (i + (-1)) F_H4 H4 (by omega) (fun x y x1 x2 y1 y2 => a_H4 x y (by omega) x2 y1 y2) (fun x y x1 x2 y1 y2 q => b_H4 x y x1 x2 y1 y2 (by omega)) e_H4 (yfr.tr fr8 f_H4 (fun _ h => h) (by simp)) rfl)
  exact Ev_le (xle_s rfl rfl (xle_s rfl rfl (xle_s rfl rfl (xle_z _ rfl)))) (loop8 _ (S 0 - 1) F_H1 H1 (by omega) (fun x y q1 q2 => absurd q1 (by omega)) (fun x y x1 x2 y1 y2 _ => a_H1 _ (by omega) (by omega)) e_H1 (yfr.refl _ _) rfl)
