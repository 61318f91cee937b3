/-! The rows of a grid. -/
theorem rowcell {D : Int → Int → Int} {w b i c : Int} (hw : 0 ≤ w ∧ w ≤ 50) (h : 0 ≤ i ∧ 0 ≤ c ∧ i < 20 ∧ c < 20 ∧ -b ≤ i - c ∧ i - c ≤ b) (hD : 0 ≤ D i c ∧ D i c ≤ 5184) (r1 : 0 ≤ fw D w b (i - 1) c ∧ (fw D w b (i - 1) c = 100000000 ∨ (0 ≤ i - 1 ∧ 0 ≤ c ∧ fw D w b (i - 1) c ≤ 5234 * (i - 1 + c + 1)))) (r2 : 0 ≤ fw D w b (i - 1) (c - 1) ∧ (fw D w b (i - 1) (c - 1) = 100000000 ∨ (0 ≤ i - 1 ∧ 0 ≤ c - 1 ∧ fw D w b (i - 1) (c - 1) ≤ 5234 * (i - 1 + (c - 1) + 1)))) (r3 : 0 ≤ fw D w b i (c - 1) ∧ (fw D w b i (c - 1) = 100000000 ∨ (0 ≤ i ∧ 0 ≤ c - 1 ∧ fw D w b i (c - 1) ≤ 5234 * (i + (c - 1) + 1)))) :
    far (fw D w b i c) = if i = 0 ∧ c = 0 then D i c else mn 1000000000 (mn (far (fw D w b (i - 1) (c - 1))) (mn (far (fw D w b (i - 1) c)) (far (fw D w b i (c - 1))) + w) + D i c) := by
  have k1 := far_rng (fw D w b (i - 1) c)
  have k2 := far_rng (fw D w b (i - 1) (c - 1))
  have k3 := far_rng (fw D w b i (c - 1))
  have s1 := least_rng (fw D w b (i - 1) c) (fw D w b i (c - 1))
  have s2 := least_rng (fw D w b (i - 1) (c - 1)) (least (fw D w b (i - 1) c) (fw D w b i (c - 1)) + w)
  have fe : fw D w b i c = if -b ≤ i - c ∧ i - c ≤ b ∧ fwf D w b i c < 100000000 then fwf D w b i c + D i c else 100000000 := fw_in (by omega)
  have ff : fwf D w b i c = if i = 0 ∧ c = 0 then 0 else least (fw D w b (i - 1) (c - 1)) (least (fw D w b (i - 1) c) (fw D w b i (c - 1)) + w) := rfl
  have m1 := mn_rng (far (fw D w b (i - 1) c)) (far (fw D w b i (c - 1)))
  have m2 := mn_rng (far (fw D w b (i - 1) (c - 1))) (mn (far (fw D w b (i - 1) c)) (far (fw D w b i (c - 1))) + w)
  have m3 := mn_rng 1000000000 (mn (far (fw D w b (i - 1) (c - 1))) (mn (far (fw D w b (i - 1) c)) (far (fw D w b i (c - 1))) + w) + D i c)
  have k4 := far_rng (fw D w b i c)
  by_cases e : i = 0 ∧ c = 0
  · rw [if_pos e] at ff ⊢
    rw [ff, if_pos (by omega)] at fe
    omega
  · rw [if_neg e] at ff ⊢
    split at fe <;> omega
theorem c_X0_tellRowFromBegin {d : Nat} {hp : xH} {a p : Nat} (hap : 28 ≤ a ∧ 28 ≤ p ∧ a ≠ p) {k : Int → Int} (ha : xat hp a = some (.inr (1, [.ref p]))) (hk1 : xat hp p = some (yI 400 k)) {s z o : Nat} {S f g : Int → Int} {r t : Int} (hS : yS hp s z o S f g r t) (hne : apart a s ∧ apart p s) (hz : 0 ≤ S 0 ∧ S 0 ≤ 20 ∧ 0 ≤ S 1 ∧ S 1 ≤ 20 ∧ 0 ≤ S 2 ∧ S 2 ≤ 20 ∧ 0 ≤ S 3 ∧ S 3 ≤ 50 ∧ 0 ≤ S 4 ∧ S 4 ≤ 3) (h0 : ∀ q, 0 ≤ q → q < S 0 → 0 ≤ S (7 + q) ∧ S (7 + q) ≤ 60) (h1 : ∀ q, 0 ≤ q → q < S 1 → 0 ≤ S (27 + q) ∧ S (27 + q) ≤ 60) {i b u : Int} (hb : -12 ≤ b ∧ b ≤ 12) (hu : 0 ≤ u ∧ u ≤ 20) (hi : 0 ≤ i ∧ i < S 0) (hJ : (∀ x y, 0 ≤ x → x < i → 0 ≤ y → y < S 1 → k (20 * x + y) = far (fw (unl S b) (S 3) u x y)) ∧ (∀ q, 20 * i ≤ q → q < 400 → k q = 1000000000)) (hd : 1 ≤ d) : Cv d 5 [.ref a, .ref s, yi i, yi b, yi u] hp (yR none (fun h => ∃ m, xat h p = some (yI 400 m) ∧ (∀ x y, 0 ≤ x → x < i + 1 → 0 ≤ y → y < S 1 → m (20 * x + y) = far (fw (unl S b) (S 3) u x y)) ∧ (∀ q, 20 * (i + 1) ≤ q → q < 400 → m q = 1000000000) ∧ yfr [p] hp h)) := by
  have hk : xtab 5 = (xc_5, 13, 0, []) := rfl
  obtain ⟨d, rfl⟩ : ∃ e, d = e + 1 := ⟨d - 1, by omega⟩
  obtain ⟨hid, hs_, hz_, ho_, hf_, hg_, ef, eg⟩ := hS
  have hDD : ∀ i j, 0 ≤ i → i < S 0 → 0 ≤ j → j < S 1 → 0 ≤ unl S b i j ∧ unl S b i j ≤ 5184 := fun i j a1 a2 a3 a4 => unl_rng hz h0 h1 hb a1 a2 a3 a4
  have w1 := h0 i (by omega) (by omega)
  have e1 := ef i (by omega) (by omega)
  show Ev (d + 1) 5 0 [(0, .ref a), (1, .ref s), (2, yi i), (3, yi b), (4, yi u)] [] hp _
  refine E_run hk 1 (j' := 1) (lv' := [(0, .ref a), (1, .ref s), (2, yi i), (3, yi b), (4, yi u)]) (st' := [.ref s]) (hp' := hp) rfl ?_
  refine E_get (v := .ref z) hk rfl hs_ rfl ?_
  refine E_run hk 1 (j' := 3) (lv' := [(0, .ref a), (1, .ref s), (2, yi i), (3, yi b), (4, yi u)]) (st' := [yi i, .ref z]) (hp' := hp) rfl ?_
  refine Y_callP hk rfl (as := [.ref z, yi i]) (rest := []) (v := some (yi (f i))) rfl rfl (Nat.le_of_ble_eq_true rfl) (rcv0 hz_) (Nat.le_of_ble_eq_true rfl) (c_X6_pitchOf (x := i) (a := z) (p := (z + 1)) (f := f) (n := (S 0)) ⟨(s28 hid).2.1, (s28 hid).2.2.1, (sne hid).2.2.2.2.1⟩ hz_ hf_ (by omega)) ?_
  refine E_run hk 1 (j' := 5) (lv' := [(0, .ref a), (1, .ref s), (2, yi i), (3, yi b), (4, yi u)]) (st' := [yi b, yi (f i)]) (hp' := hp) rfl ?_
  refine Y_isub (a := (f i)) (b := b) hk rfl ?_
  refine E_run hk 4 (j' := 10) (lv' := [(5, yi ((f i) - b)), (0, .ref a), (1, .ref s), (2, yi i), (3, yi b), (4, yi u)]) (st' := [yi u, yi i, yi 0]) (hp' := hp) rfl ?_
  refine Y_isub (a := i) (b := u) hk rfl ?_
  refine Y_max (a := 0) (b := (i - u)) (by omega) hk rfl (Nat.le_of_ble_eq_true rfl) ?_
  generalize hF0 : mx 0 (i - u) = F
  have hF := mx_f hF0 (by omega) (by omega)
  refine E_run hk 2 (j' := 14) (lv' := [(6, yi F), (5, yi ((f i) - b)), (0, .ref a), (1, .ref s), (2, yi i), (3, yi b), (4, yi u)]) (st' := [.ref s]) (hp' := hp) rfl ?_
  refine E_get (v := .ref o) hk rfl hs_ rfl ?_
  refine E_get (v := yi (S 1)) hk rfl ho_ rfl ?_
  refine E_run hk 1 (j' := 17) (lv' := [(6, yi F), (5, yi ((f i) - b)), (0, .ref a), (1, .ref s), (2, yi i), (3, yi b), (4, yi u)]) (st' := [yi 1, yi (S 1)]) (hp' := hp) rfl ?_
  refine Y_isub (a := (S 1)) (b := 1) hk rfl ?_
  refine E_run hk 2 (j' := 20) (lv' := [(6, yi F), (5, yi ((f i) - b)), (0, .ref a), (1, .ref s), (2, yi i), (3, yi b), (4, yi u)]) (st' := [yi u, yi i, yi ((S 1) - 1)]) (hp' := hp) rfl ?_
  refine Y_iadd (a := i) (b := u) hk rfl ?_
  refine Y_min (a := ((S 1) - 1)) (b := (i + u)) (by omega) hk rfl (Nat.le_of_ble_eq_true rfl) ?_
  generalize hL0 : mn ((S 1) - 1) (i + u) = L
  have hL := mn_l hL0 (by omega) (by omega) (by omega)
  refine E_run hk 6 (j' := 28) (lv' := [(8, yi 1000000000), (7, yi L), (6, yi F), (5, yi ((f i) - b)), (0, .ref a), (1, .ref s), (2, yi i), (3, yi b), (4, yi u)]) (st' := [yi 1, yi i, .ref a]) (hp' := hp) rfl ?_
  refine Y_isub (a := i) (b := 1) hk rfl ?_
  refine E_run hk 2 (j' := 31) (lv' := [(8, yi 1000000000), (7, yi L), (6, yi F), (5, yi ((f i) - b)), (0, .ref a), (1, .ref s), (2, yi i), (3, yi b), (4, yi u)]) (st' := [yi 1, yi F, yi (i - 1), .ref a]) (hp' := hp) rfl ?_
  refine Y_isub (a := F) (b := 1) hk rfl ?_
  refine Y_callP hk rfl (as := [.ref a, yi (i - 1), yi (F - 1)]) (rest := []) (v := some (yi (gat k (i - 1) (F - 1)))) rfl rfl (Nat.le_of_ble_eq_true rfl) (rcv0 ha) (Nat.le_of_ble_eq_true rfl) (c_X0_at (i := (i - 1)) (j := (F - 1)) (a := a) (p := p) (k := k) hap ha hk1 (by omega)) ?_
  refine E_run hk 3 (j' := 36) (lv' := [(10, yi F), (9, yi (gat k (i - 1) (F - 1))), (8, yi 1000000000), (7, yi L), (6, yi F), (5, yi ((f i) - b)), (0, .ref a), (1, .ref s), (2, yi i), (3, yi b), (4, yi u)]) (st' := []) (hp' := hp) rfl ?_
  have loop36 : ∀ (N : Nat) (c : Int) (l : Int) (al : Int) (m : Int → Int) (hl36 : xH), (F ≤ c ∧ c ≤ 20) → (∀ x y, 0 ≤ x → x < i → 0 ≤ y → y < S 1 → m (20 * x + y) = far (fw (unl S b) (S 3) u x y)) → (l = far (fw (unl S b) (S 3) u i (c - 1))) → (c < S 1 → al = far (fw (unl S b) (S 3) u (i - 1) (c - 1))) → (∀ y, 0 ≤ y → y < c → y < S 1 → m (20 * i + y) = far (fw (unl S b) (S 3) u i y)) → (∀ q, 20 * i + c ≤ q → q < 400 → m q = 1000000000) → (xat hl36 p = some (yI 400 m)) → (yfr [p] hp hl36) → (20 - c).toNat = N → Ev (d + 1) 5 36 [(0, .ref a), (1, .ref s), (2, yi i), (5, yi (f i - b)), (7, yi L), (8, yi l), (9, yi al), (10, yi c)] [] hl36 (yR none (fun h => ∃ m, xat h p = some (yI 400 m) ∧ (∀ x y, 0 ≤ x → x < i + 1 → 0 ≤ y → y < S 1 → m (20 * x + y) = far (fw (unl S b) (S 3) u x y)) ∧ (∀ q, 20 * (i + 1) ≤ q → q < 400 → m q = 1000000000) ∧ yfr [p] hp h)) := by
    intro N
    induction N using Nat.strongRecOn with
    | ind N ih36 =>
      intro c l al m hl36 J1 J2 J3 J4 J5 J6 ec36_p fr36 hm36
      refine E_run hk 1 (j' := 37) (lv' := [(0, .ref a), (1, .ref s), (2, yi i), (5, yi (f i - b)), (7, yi L), (8, yi l), (9, yi al), (10, yi c)]) (st' := [yi c]) (hp' := hl36) rfl ?_
      refine E_run hk 1 (j' := 38) (lv' := [(0, .ref a), (1, .ref s), (2, yi i), (5, yi (f i - b)), (7, yi L), (8, yi l), (9, yi al), (10, yi c)]) (st' := [yi L, yi c]) (hp' := hl36) rfl ?_
      refine Y_ic_gt (a := c) (b := L) (by omega) hk rfl (fun g1 => ?_) (fun g1 => ?_)
      ·
        exact E_ret hk rfl rfl ⟨rfl, _, ec36_p, fun x y x1 x2 y1 y2 => by
          by_cases e : x = i
          · rw [e]
            by_cases e2 : y < c
            · exact J5 y y1 e2 y2
            · rcases hL.2.2.2 y (by omega) with q | q <;> rw [J6 _ (by omega) (by omega), fw_band (by omega)] <;> rfl
          · exact J2 x y x1 (by omega) y1 y2, fun q q1 q2 => J6 q (by omega) q2, fr36⟩
      ·
        have hD := unl_rng (b := b) hz h0 h1 hb (i := i) (j := c) (by omega) (by omega) (by omega) (by omega)
        have u1 : gat m (i - 1) c = far (fw (unl S b) (S 3) u (i - 1) c) := gat_fw (by omega) (fun q1 q2 => J2 _ _ (by omega) (by omega) (by omega) (by omega))
        have cel := rowcell (D := unl S b) (w := S 3) (b := u) (i := i) (c := c) (by omega) (by omega) hD (fw_rng (b := u) (w := S 3) (m := S 0) (n := S 1) (by omega) hDD _ (i - 1) c (by omega) (by omega) rfl) (fw_rng (b := u) (w := S 3) (m := S 0) (n := S 1) (by omega) hDD _ (i - 1) (c - 1) (by omega) (by omega) rfl) (fw_rng (b := u) (w := S 3) (m := S 0) (n := S 1) (by omega) hDD _ i (c - 1) (by omega) (by omega) rfl)
        have b1 : 0 ≤ gat m (i - 1) c ∧ gat m (i - 1) c ≤ 1000000000 := by rw [u1]; exact far_bd (fw_rng (b := u) (w := S 3) (m := S 0) (n := S 1) (by omega) hDD _ (i - 1) c (by omega) (by omega) rfl).1
        have bb2 : 0 ≤ l ∧ l ≤ 1000000000 := by rw [J3]; exact far_bd (fw_rng (b := u) (w := S 3) (m := S 0) (n := S 1) (by omega) hDD _ i (c - 1) (by omega) (by omega) rfl).1
        have b3 : 0 ≤ al ∧ al ≤ 1000000000 := by rw [J4 (by omega)]; exact far_bd (fw_rng (b := u) (w := S 3) (m := S 0) (n := S 1) (by omega) hDD _ (i - 1) (c - 1) (by omega) (by omega) rfl).1
        have m1 := mn_bd (a := gat m (i - 1) c) (b := l) (u := 1000000000) (v := 1000000000) (by omega)
        have m2 := mn_bd (a := al) (b := mn (gat m (i - 1) c) l + S 3) (u := 1000000000) (v := 1000000050) (by omega)
        refine E_run hk 3 (j' := 42) (lv' := [(0, .ref a), (1, .ref s), (2, yi i), (5, yi (f i - b)), (7, yi L), (8, yi l), (9, yi al), (10, yi c)]) (st' := [yi 1, yi i, .ref a]) (hp' := hl36) rfl ?_
        refine Y_isub (a := i) (b := 1) hk rfl ?_
        refine E_run hk 1 (j' := 44) (lv' := [(0, .ref a), (1, .ref s), (2, yi i), (5, yi (f i - b)), (7, yi L), (8, yi l), (9, yi al), (10, yi c)]) (st' := [yi c, yi (i - 1), .ref a]) (hp' := hl36) rfl ?_
        refine Y_callP hk rfl (as := [.ref a, yi (i - 1), yi c]) (rest := []) (v := some (yi (gat m (i - 1) c))) rfl rfl (Nat.le_of_ble_eq_true rfl) (rcv0 (fr36.at (by simp only [List.mem_cons, List.not_mem_nil, or_false, not_or]; exact hap.2.2) ha)) (Nat.le_of_ble_eq_true rfl) (c_X0_at (i := (i - 1)) (j := c) (a := a) (p := p) (k := m) hap (fr36.at (by simp only [List.mem_cons, List.not_mem_nil, or_false, not_or]; exact hap.2.2) ha) ec36_p (by omega)) ?_
        refine E_run hk 4 (j' := 49) (lv' := [(11, yi (gat m (i - 1) c)), (0, .ref a), (1, .ref s), (2, yi i), (5, yi (f i - b)), (7, yi L), (8, yi l), (9, yi al), (10, yi c)]) (st' := [yi l, yi (gat m (i - 1) c), yi al]) (hp' := hl36) rfl ?_
        refine Y_min (a := (gat m (i - 1) c)) (b := l) (by omega) hk rfl (Nat.le_of_ble_eq_true rfl) ?_
        refine E_run hk 1 (j' := 51) (lv' := [(11, yi (gat m (i - 1) c)), (0, .ref a), (1, .ref s), (2, yi i), (5, yi (f i - b)), (7, yi L), (8, yi l), (9, yi al), (10, yi c)]) (st' := [.ref s, yi (mn (gat m (i - 1) c) l), yi al]) (hp' := hl36) rfl ?_
        refine E_get (v := yi (S 3)) hk rfl (fr36.at (by simp only [List.mem_cons, List.not_mem_nil, or_false, not_or]; exact (Ne.symm (sok hid hne.2).1)) hs_) rfl ?_
        refine Y_iadd (a := (mn (gat m (i - 1) c) l)) (b := (S 3)) hk rfl ?_
        refine Y_min (a := al) (b := ((mn (gat m (i - 1) c) l) + (S 3))) (by omega) hk rfl (Nat.le_of_ble_eq_true rfl) ?_
        refine E_run hk 2 (j' := 56) (lv' := [(12, yi (mn al ((mn (gat m (i - 1) c) l) + (S 3)))), (11, yi (gat m (i - 1) c)), (0, .ref a), (1, .ref s), (2, yi i), (5, yi (f i - b)), (7, yi L), (8, yi l), (9, yi al), (10, yi c)]) (st' := [yi i]) (hp' := hl36) rfl ?_
        refine Y_if_ne (a := i) (by omega) hk rfl (fun g2 => ?_) (fun g2 => ?_)
        ·
          refine E_run hk 2 (j' := 63) (lv' := [(12, yi (mn al ((mn (gat m (i - 1) c) l) + (S 3)))), (11, yi (gat m (i - 1) c)), (0, .ref a), (1, .ref s), (2, yi i), (5, yi (f i - b)), (7, yi L), (8, yi l), (9, yi al), (10, yi c)]) (st' := [yi (mn al ((mn (gat m (i - 1) c) l) + (S 3))), yi 1000000000]) (hp' := hl36) rfl ?_
          have w1 := h0 i (by omega) (by omega)
          have w2 := h1 c (by omega) (by omega)
          have e1 := ef i (by omega) (by omega)
          have e2 := eg c (by omega) (by omega)
          have e3 : jud (S 4) (f i - b - g c) = unl S b i c := by unfold unl; rw [e1, e2]; congr 1; omega
          refine E_run hk 3 (j' := 66) (lv' := [(12, yi (mn al ((mn (gat m (i - 1) c) l) + (S 3)))), (11, yi (gat m (i - 1) c)), (0, .ref a), (1, .ref s), (2, yi i), (5, yi (f i - b)), (7, yi L), (8, yi l), (9, yi al), (10, yi c)]) (st' := [.ref s, yi (f i - b), .ref s, yi (mn al ((mn (gat m (i - 1) c) l) + (S 3))), yi 1000000000]) (hp' := hl36) rfl ?_
          refine E_get (v := .ref o) hk rfl (fr36.at (by simp only [List.mem_cons, List.not_mem_nil, or_false, not_or]; exact (Ne.symm (sok hid hne.2).1)) hs_) rfl ?_
          refine E_run hk 1 (j' := 68) (lv' := [(12, yi (mn al ((mn (gat m (i - 1) c) l) + (S 3)))), (11, yi (gat m (i - 1) c)), (0, .ref a), (1, .ref s), (2, yi i), (5, yi (f i - b)), (7, yi L), (8, yi l), (9, yi al), (10, yi c)]) (st' := [yi c, .ref o, yi (f i - b), .ref s, yi (mn al ((mn (gat m (i - 1) c) l) + (S 3))), yi 1000000000]) (hp' := hl36) rfl ?_
          refine Y_callP hk rfl (as := [.ref o, yi c]) (rest := [yi (f i - b), .ref s, yi (mn al ((mn (gat m (i - 1) c) l) + (S 3))), yi 1000000000]) (v := some (yi (g c))) rfl rfl (Nat.le_of_ble_eq_true rfl) (rcv0 (fr36.at (by simp only [List.mem_cons, List.not_mem_nil, or_false, not_or]; exact (Ne.symm (sok hid hne.2).2.2.2.1)) ho_)) (Nat.le_of_ble_eq_true rfl) (c_X6_pitchOf (x := c) (a := o) (p := (o + 1)) (f := g) (n := (S 1)) ⟨(s28 hid).2.2.2.1, (s28 hid).2.2.2.2, (sne hid).2.2.2.2.2.2.2.2.2⟩ (fr36.at (by simp only [List.mem_cons, List.not_mem_nil, or_false, not_or]; exact (Ne.symm (sok hid hne.2).2.2.2.1)) ho_) (fr36.at (by simp only [List.mem_cons, List.not_mem_nil, or_false, not_or]; exact (Ne.symm (sok hid hne.2).2.2.2.2)) hg_) (by omega)) ?_
          refine Y_isub (a := (f i - b)) (b := (g c)) hk rfl ?_
          refine Y_callP hk rfl (as := [.ref s, yi ((f i - b) - (g c))]) (rest := [yi (mn al ((mn (gat m (i - 1) c) l) + (S 3))), yi 1000000000]) (v := some (yi (jud (S 4) ((f i - b) - (g c))))) rfl rfl (Nat.le_of_ble_eq_true rfl) (rcv0 (fr36.at (by simp only [List.mem_cons, List.not_mem_nil, or_false, not_or]; exact (Ne.symm (sok hid hne.2).1)) hs_)) (Nat.le_of_ble_eq_true rfl) (c_X5_judged ⟨hid, (fr36.at (by simp only [List.mem_cons, List.not_mem_nil, or_false, not_or]; exact (Ne.symm (sok hid hne.2).1)) hs_), (fr36.at (by simp only [List.mem_cons, List.not_mem_nil, or_false, not_or]; exact (Ne.symm (sok hid hne.2).2.1)) hz_), (fr36.at (by simp only [List.mem_cons, List.not_mem_nil, or_false, not_or]; exact (Ne.symm (sok hid hne.2).2.2.2.1)) ho_), (fr36.at (by simp only [List.mem_cons, List.not_mem_nil, or_false, not_or]; exact (Ne.symm (sok hid hne.2).2.2.1)) hf_), (fr36.at (by simp only [List.mem_cons, List.not_mem_nil, or_false, not_or]; exact (Ne.symm (sok hid hne.2).2.2.2.2)) hg_), ef, eg⟩ (by omega) (x := ((f i - b) - (g c))) (by omega)) ?_
          rw [e3]
          refine Y_iadd (a := (mn al ((mn (gat m (i - 1) c) l) + (S 3)))) (b := (unl S b i c)) hk rfl ?_
          refine Y_min (a := 1000000000) (b := ((mn al ((mn (gat m (i - 1) c) l) + (S 3))) + (unl S b i c))) (by omega) hk rfl (Nat.le_of_ble_eq_true rfl) ?_
          refine E_run hk 1 (j' := 74) (lv' := [(8, yi (mn 1000000000 ((mn al ((mn (gat m (i - 1) c) l) + (S 3))) + (unl S b i c)))), (12, yi (mn al ((mn (gat m (i - 1) c) l) + (S 3)))), (11, yi (gat m (i - 1) c)), (0, .ref a), (1, .ref s), (2, yi i), (5, yi (f i - b)), (7, yi L), (9, yi al), (10, yi c)]) (st' := []) (hp' := hl36) rfl ?_
          have e9 : mn 1000000000 ((mn al ((mn (gat m (i - 1) c) l) + (S 3))) + (unl S b i c)) = far (fw (unl S b) (S 3) u i c) := by
            rw [cel, ← J3, ← J4 (by omega), ← u1]
            first
              | (rw [if_pos (by omega), mn_lt (by omega), Int.zero_add])
              | (rw [if_neg (by omega)]; done)
          refine E_run hk 4 (j' := 78) (lv' := [(8, yi (mn 1000000000 ((mn al ((mn (gat m (i - 1) c) l) + (S 3))) + (unl S b i c)))), (12, yi (mn al ((mn (gat m (i - 1) c) l) + (S 3)))), (11, yi (gat m (i - 1) c)), (0, .ref a), (1, .ref s), (2, yi i), (5, yi (f i - b)), (7, yi L), (9, yi al), (10, yi c)]) (st' := [yi (mn 1000000000 ((mn al ((mn (gat m (i - 1) c) l) + (S 3))) + (unl S b i c))), yi c, yi i, .ref a]) (hp' := hl36) rfl ?_
          refine Y_call hk rfl (as := [.ref a, yi i, yi c, yi (mn 1000000000 ((mn al ((mn (gat m (i - 1) c) l) + (S 3))) + (unl S b i c)))]) (rest := []) (v := none) rfl rfl (Nat.le_of_ble_eq_true rfl) (rcv0 (fr36.at (by simp only [List.mem_cons, List.not_mem_nil, or_false, not_or]; exact hap.2.2) ha)) (Nat.le_of_ble_eq_true rfl) (c_X0_put (i := i) (j := c) (x := (mn 1000000000 ((mn al ((mn (gat m (i - 1) c) l) + (S 3))) + (unl S b i c)))) (a := a) (p := p) (k := m) hap (fr36.at (by simp only [List.mem_cons, List.not_mem_nil, or_false, not_or]; exact hap.2.2) ha) ec36_p (by omega)) (fun H3 r4 => ?_)
          obtain ⟨e_H3, f_H3⟩ := r4
          refine E_run hk 2 (j' := 81) (lv' := [(9, yi (gat m (i - 1) c)), (8, yi (mn 1000000000 ((mn al ((mn (gat m (i - 1) c) l) + (S 3))) + (unl S b i c)))), (12, yi (mn al ((mn (gat m (i - 1) c) l) + (S 3)))), (11, yi (gat m (i - 1) c)), (0, .ref a), (1, .ref s), (2, yi i), (5, yi (f i - b)), (7, yi L), (10, yi c)]) (st' := []) (hp' := H3) rfl ?_
          refine Y_iinc (a := c) (z := 1) hk rfl rfl rfl (by decide) (lv' := [(10, yi (c + 1)), (9, yi (gat m (i - 1) c)), (8, yi (mn 1000000000 ((mn al ((mn (gat m (i - 1) c) l) + (S 3))) + (unl S b i c)))), (12, yi (mn al ((mn (gat m (i - 1) c) l) + (S 3)))), (11, yi (gat m (i - 1) c)), (0, .ref a), (1, .ref s), (2, yi i), (5, yi (f i - b)), (7, yi L)]) rfl ?_
          refine E_run hk 1 (j' := 36) (lv' := [(10, yi (c + 1)), (9, yi (gat m (i - 1) c)), (8, yi (mn 1000000000 ((mn al ((mn (gat m (i - 1) c) l) + (S 3))) + (unl S b i c)))), (12, yi (mn al ((mn (gat m (i - 1) c) l) + (S 3)))), (11, yi (gat m (i - 1) c)), (0, .ref a), (1, .ref s), (2, yi i), (5, yi (f i - b)), (7, yi L)]) (st' := []) (hp' := H3) rfl ?_
          exact Ev_le (xle_s rfl rfl (xle_s rfl rfl (xle_s rfl rfl (xle_s rfl rfl (xle_s rfl rfl (xle_s rfl rfl (xle_s rfl rfl (xle_s rfl rfl (xle_z _ rfl))))))))) (ih36 _ (by omega) (c + 1) (mn 1000000000 ((mn al ((mn (gat m (i - 1) c) l) + (S 3))) + (unl S b i c))) (gat m (i - 1) c) (up m (20 * i + c) (mn 1000000000 ((mn al ((mn (gat m (i - 1) c) l) + (S 3))) + (unl S b i c)))) H3 (by omega) (fun x y x1 x2 y1 y2 => by
        rw [up_ne _ _ (by omega)]
        exact J2 x y x1 x2 y1 y2) (by rw [show c + 1 - 1 = c by omega]; exact e9) (fun _ => by rw [show c + 1 - 1 = c by omega]; exact u1) (fun y y1 y2 y3 => by
        by_cases e : y = c
        · rw [e, up_self]
          exact e9
        · rw [up_ne _ _ (by omega)]
          exact J5 y y1 (by omega) y3) (fun q q1 q2 => by
        rw [up_ne _ _ (by omega)]
        exact J6 q (by omega) q2) e_H3 (yfr.tr fr36 f_H3 (fun _ h => h) (by simp)) rfl)
        ·
          refine E_run hk 1 (j' := 58) (lv' := [(12, yi (mn al ((mn (gat m (i - 1) c) l) + (S 3)))), (11, yi (gat m (i - 1) c)), (0, .ref a), (1, .ref s), (2, yi i), (5, yi (f i - b)), (7, yi L), (8, yi l), (9, yi al), (10, yi c)]) (st' := [yi c]) (hp' := hl36) rfl ?_
          refine Y_if_ne (a := c) (by omega) hk rfl (fun g5 => ?_) (fun g5 => ?_)
          ·
            refine E_run hk 2 (j' := 63) (lv' := [(12, yi (mn al ((mn (gat m (i - 1) c) l) + (S 3)))), (11, yi (gat m (i - 1) c)), (0, .ref a), (1, .ref s), (2, yi i), (5, yi (f i - b)), (7, yi L), (8, yi l), (9, yi al), (10, yi c)]) (st' := [yi (mn al ((mn (gat m (i - 1) c) l) + (S 3))), yi 1000000000]) (hp' := hl36) rfl ?_
            have w1 := h0 i (by omega) (by omega)
            have w2 := h1 c (by omega) (by omega)
            have e1 := ef i (by omega) (by omega)
            have e2 := eg c (by omega) (by omega)
            have e3 : jud (S 4) (f i - b - g c) = unl S b i c := by unfold unl; rw [e1, e2]; congr 1; omega
            refine E_run hk 3 (j' := 66) (lv' := [(12, yi (mn al ((mn (gat m (i - 1) c) l) + (S 3)))), (11, yi (gat m (i - 1) c)), (0, .ref a), (1, .ref s), (2, yi i), (5, yi (f i - b)), (7, yi L), (8, yi l), (9, yi al), (10, yi c)]) (st' := [.ref s, yi (f i - b), .ref s, yi (mn al ((mn (gat m (i - 1) c) l) + (S 3))), yi 1000000000]) (hp' := hl36) rfl ?_
            refine E_get (v := .ref o) hk rfl (fr36.at (by simp only [List.mem_cons, List.not_mem_nil, or_false, not_or]; exact (Ne.symm (sok hid hne.2).1)) hs_) rfl ?_
            refine E_run hk 1 (j' := 68) (lv' := [(12, yi (mn al ((mn (gat m (i - 1) c) l) + (S 3)))), (11, yi (gat m (i - 1) c)), (0, .ref a), (1, .ref s), (2, yi i), (5, yi (f i - b)), (7, yi L), (8, yi l), (9, yi al), (10, yi c)]) (st' := [yi c, .ref o, yi (f i - b), .ref s, yi (mn al ((mn (gat m (i - 1) c) l) + (S 3))), yi 1000000000]) (hp' := hl36) rfl ?_
            refine Y_callP hk rfl (as := [.ref o, yi c]) (rest := [yi (f i - b), .ref s, yi (mn al ((mn (gat m (i - 1) c) l) + (S 3))), yi 1000000000]) (v := some (yi (g c))) rfl rfl (Nat.le_of_ble_eq_true rfl) (rcv0 (fr36.at (by simp only [List.mem_cons, List.not_mem_nil, or_false, not_or]; exact (Ne.symm (sok hid hne.2).2.2.2.1)) ho_)) (Nat.le_of_ble_eq_true rfl) (c_X6_pitchOf (x := c) (a := o) (p := (o + 1)) (f := g) (n := (S 1)) ⟨(s28 hid).2.2.2.1, (s28 hid).2.2.2.2, (sne hid).2.2.2.2.2.2.2.2.2⟩ (fr36.at (by simp only [List.mem_cons, List.not_mem_nil, or_false, not_or]; exact (Ne.symm (sok hid hne.2).2.2.2.1)) ho_) (fr36.at (by simp only [List.mem_cons, List.not_mem_nil, or_false, not_or]; exact (Ne.symm (sok hid hne.2).2.2.2.2)) hg_) (by omega)) ?_
            refine Y_isub (a := (f i - b)) (b := (g c)) hk rfl ?_
            refine Y_callP hk rfl (as := [.ref s, yi ((f i - b) - (g c))]) (rest := [yi (mn al ((mn (gat m (i - 1) c) l) + (S 3))), yi 1000000000]) (v := some (yi (jud (S 4) ((f i - b) - (g c))))) rfl rfl (Nat.le_of_ble_eq_true rfl) (rcv0 (fr36.at (by simp only [List.mem_cons, List.not_mem_nil, or_false, not_or]; exact (Ne.symm (sok hid hne.2).1)) hs_)) (Nat.le_of_ble_eq_true rfl) (c_X5_judged ⟨hid, (fr36.at (by simp only [List.mem_cons, List.not_mem_nil, or_false, not_or]; exact (Ne.symm (sok hid hne.2).1)) hs_), (fr36.at (by simp only [List.mem_cons, List.not_mem_nil, or_false, not_or]; exact (Ne.symm (sok hid hne.2).2.1)) hz_), (fr36.at (by simp only [List.mem_cons, List.not_mem_nil, or_false, not_or]; exact (Ne.symm (sok hid hne.2).2.2.2.1)) ho_), (fr36.at (by simp only [List.mem_cons, List.not_mem_nil, or_false, not_or]; exact (Ne.symm (sok hid hne.2).2.2.1)) hf_), (fr36.at (by simp only [List.mem_cons, List.not_mem_nil, or_false, not_or]; exact (Ne.symm (sok hid hne.2).2.2.2.2)) hg_), ef, eg⟩ (by omega) (x := ((f i - b) - (g c))) (by omega)) ?_
            rw [e3]
            refine Y_iadd (a := (mn al ((mn (gat m (i - 1) c) l) + (S 3)))) (b := (unl S b i c)) hk rfl ?_
            refine Y_min (a := 1000000000) (b := ((mn al ((mn (gat m (i - 1) c) l) + (S 3))) + (unl S b i c))) (by omega) hk rfl (Nat.le_of_ble_eq_true rfl) ?_
            refine E_run hk 1 (j' := 74) (lv' := [(8, yi (mn 1000000000 ((mn al ((mn (gat m (i - 1) c) l) + (S 3))) + (unl S b i c)))), (12, yi (mn al ((mn (gat m (i - 1) c) l) + (S 3)))), (11, yi (gat m (i - 1) c)), (0, .ref a), (1, .ref s), (2, yi i), (5, yi (f i - b)), (7, yi L), (9, yi al), (10, yi c)]) (st' := []) (hp' := hl36) rfl ?_
            have e9 : mn 1000000000 ((mn al ((mn (gat m (i - 1) c) l) + (S 3))) + (unl S b i c)) = far (fw (unl S b) (S 3) u i c) := by
              rw [cel, ← J3, ← J4 (by omega), ← u1]
              first
                | (rw [if_pos (by omega), mn_lt (by omega), Int.zero_add])
                | (rw [if_neg (by omega)]; done)
            refine E_run hk 4 (j' := 78) (lv' := [(8, yi (mn 1000000000 ((mn al ((mn (gat m (i - 1) c) l) + (S 3))) + (unl S b i c)))), (12, yi (mn al ((mn (gat m (i - 1) c) l) + (S 3)))), (11, yi (gat m (i - 1) c)), (0, .ref a), (1, .ref s), (2, yi i), (5, yi (f i - b)), (7, yi L), (9, yi al), (10, yi c)]) (st' := [yi (mn 1000000000 ((mn al ((mn (gat m (i - 1) c) l) + (S 3))) + (unl S b i c))), yi c, yi i, .ref a]) (hp' := hl36) rfl ?_
            refine Y_call hk rfl (as := [.ref a, yi i, yi c, yi (mn 1000000000 ((mn al ((mn (gat m (i - 1) c) l) + (S 3))) + (unl S b i c)))]) (rest := []) (v := none) rfl rfl (Nat.le_of_ble_eq_true rfl) (rcv0 (fr36.at (by simp only [List.mem_cons, List.not_mem_nil, or_false, not_or]; exact hap.2.2) ha)) (Nat.le_of_ble_eq_true rfl) (c_X0_put (i := i) (j := c) (x := (mn 1000000000 ((mn al ((mn (gat m (i - 1) c) l) + (S 3))) + (unl S b i c)))) (a := a) (p := p) (k := m) hap (fr36.at (by simp only [List.mem_cons, List.not_mem_nil, or_false, not_or]; exact hap.2.2) ha) ec36_p (by omega)) (fun H6 r7 => ?_)
            obtain ⟨e_H6, f_H6⟩ := r7
            refine E_run hk 2 (j' := 81) (lv' := [(9, yi (gat m (i - 1) c)), (8, yi (mn 1000000000 ((mn al ((mn (gat m (i - 1) c) l) + (S 3))) + (unl S b i c)))), (12, yi (mn al ((mn (gat m (i - 1) c) l) + (S 3)))), (11, yi (gat m (i - 1) c)), (0, .ref a), (1, .ref s), (2, yi i), (5, yi (f i - b)), (7, yi L), (10, yi c)]) (st' := []) (hp' := H6) rfl ?_
            refine Y_iinc (a := c) (z := 1) hk rfl rfl rfl (by decide) (lv' := [(10, yi (c + 1)), (9, yi (gat m (i - 1) c)), (8, yi (mn 1000000000 ((mn al ((mn (gat m (i - 1) c) l) + (S 3))) + (unl S b i c)))), (12, yi (mn al ((mn (gat m (i - 1) c) l) + (S 3)))), (11, yi (gat m (i - 1) c)), (0, .ref a), (1, .ref s), (2, yi i), (5, yi (f i - b)), (7, yi L)]) rfl ?_
            refine E_run hk 1 (j' := 36) (lv' := [(10, yi (c + 1)), (9, yi (gat m (i - 1) c)), (8, yi (mn 1000000000 ((mn al ((mn (gat m (i - 1) c) l) + (S 3))) + (unl S b i c)))), (12, yi (mn al ((mn (gat m (i - 1) c) l) + (S 3)))), (11, yi (gat m (i - 1) c)), (0, .ref a), (1, .ref s), (2, yi i), (5, yi (f i - b)), (7, yi L)]) (st' := []) (hp' := H6) rfl ?_
            exact Ev_le (xle_s rfl rfl (xle_s rfl rfl (xle_s rfl rfl (xle_s rfl rfl (xle_s rfl rfl (xle_s rfl rfl (xle_s rfl rfl (xle_s rfl rfl (xle_z _ rfl))))))))) (ih36 _ (by omega) (c + 1) (mn 1000000000 ((mn al ((mn (gat m (i - 1) c) l) + (S 3))) + (unl S b i c))) (gat m (i - 1) c) (up m (20 * i + c) (mn 1000000000 ((mn al ((mn (gat m (i - 1) c) l) + (S 3))) + (unl S b i c)))) H6 (by omega) (fun x y x1 x2 y1 y2 => by
        rw [up_ne _ _ (by omega)]
        exact J2 x y x1 x2 y1 y2) (by rw [show c + 1 - 1 = c by omega]; exact e9) (fun _ => by rw [show c + 1 - 1 = c by omega]; exact u1) (fun y y1 y2 y3 => by
        by_cases e : y = c
        · rw [e, up_self]
          exact e9
        · rw [up_ne _ _ (by omega)]
          exact J5 y y1 (by omega) y3) (fun q q1 q2 => by
        rw [up_ne _ _ (by omega)]
        exact J6 q (by omega) q2) e_H6 (yfr.tr fr36 f_H6 (fun _ h => h) (by simp)) rfl)
          ·
            refine E_run hk 4 (j' := 63) (lv' := [(12, yi 0), (11, yi (gat m (i - 1) c)), (0, .ref a), (1, .ref s), (2, yi i), (5, yi (f i - b)), (7, yi L), (8, yi l), (9, yi al), (10, yi c)]) (st' := [yi 0, yi 1000000000]) (hp' := hl36) rfl ?_
            have w1 := h0 i (by omega) (by omega)
            have w2 := h1 c (by omega) (by omega)
            have e1 := ef i (by omega) (by omega)
            have e2 := eg c (by omega) (by omega)
            have e3 : jud (S 4) (f i - b - g c) = unl S b i c := by unfold unl; rw [e1, e2]; congr 1; omega
            refine E_run hk 3 (j' := 66) (lv' := [(12, yi 0), (11, yi (gat m (i - 1) c)), (0, .ref a), (1, .ref s), (2, yi i), (5, yi (f i - b)), (7, yi L), (8, yi l), (9, yi al), (10, yi c)]) (st' := [.ref s, yi (f i - b), .ref s, yi 0, yi 1000000000]) (hp' := hl36) rfl ?_
            refine E_get (v := .ref o) hk rfl (fr36.at (by simp only [List.mem_cons, List.not_mem_nil, or_false, not_or]; exact (Ne.symm (sok hid hne.2).1)) hs_) rfl ?_
            refine E_run hk 1 (j' := 68) (lv' := [(12, yi 0), (11, yi (gat m (i - 1) c)), (0, .ref a), (1, .ref s), (2, yi i), (5, yi (f i - b)), (7, yi L), (8, yi l), (9, yi al), (10, yi c)]) (st' := [yi c, .ref o, yi (f i - b), .ref s, yi 0, yi 1000000000]) (hp' := hl36) rfl ?_
            refine Y_callP hk rfl (as := [.ref o, yi c]) (rest := [yi (f i - b), .ref s, yi 0, yi 1000000000]) (v := some (yi (g c))) rfl rfl (Nat.le_of_ble_eq_true rfl) (rcv0 (fr36.at (by simp only [List.mem_cons, List.not_mem_nil, or_false, not_or]; exact (Ne.symm (sok hid hne.2).2.2.2.1)) ho_)) (Nat.le_of_ble_eq_true rfl) (c_X6_pitchOf (x := c) (a := o) (p := (o + 1)) (f := g) (n := (S 1)) ⟨(s28 hid).2.2.2.1, (s28 hid).2.2.2.2, (sne hid).2.2.2.2.2.2.2.2.2⟩ (fr36.at (by simp only [List.mem_cons, List.not_mem_nil, or_false, not_or]; exact (Ne.symm (sok hid hne.2).2.2.2.1)) ho_) (fr36.at (by simp only [List.mem_cons, List.not_mem_nil, or_false, not_or]; exact (Ne.symm (sok hid hne.2).2.2.2.2)) hg_) (by omega)) ?_
            refine Y_isub (a := (f i - b)) (b := (g c)) hk rfl ?_
            refine Y_callP hk rfl (as := [.ref s, yi ((f i - b) - (g c))]) (rest := [yi 0, yi 1000000000]) (v := some (yi (jud (S 4) ((f i - b) - (g c))))) rfl rfl (Nat.le_of_ble_eq_true rfl) (rcv0 (fr36.at (by simp only [List.mem_cons, List.not_mem_nil, or_false, not_or]; exact (Ne.symm (sok hid hne.2).1)) hs_)) (Nat.le_of_ble_eq_true rfl) (c_X5_judged ⟨hid, (fr36.at (by simp only [List.mem_cons, List.not_mem_nil, or_false, not_or]; exact (Ne.symm (sok hid hne.2).1)) hs_), (fr36.at (by simp only [List.mem_cons, List.not_mem_nil, or_false, not_or]; exact (Ne.symm (sok hid hne.2).2.1)) hz_), (fr36.at (by simp only [List.mem_cons, List.not_mem_nil, or_false, not_or]; exact (Ne.symm (sok hid hne.2).2.2.2.1)) ho_), (fr36.at (by simp only [List.mem_cons, List.not_mem_nil, or_false, not_or]; exact (Ne.symm (sok hid hne.2).2.2.1)) hf_), (fr36.at (by simp only [List.mem_cons, List.not_mem_nil, or_false, not_or]; exact (Ne.symm (sok hid hne.2).2.2.2.2)) hg_), ef, eg⟩ (by omega) (x := ((f i - b) - (g c))) (by omega)) ?_
            rw [e3]
            refine Y_iadd (a := 0) (b := (unl S b i c)) hk rfl ?_
            refine Y_min (a := 1000000000) (b := (0 + (unl S b i c))) (by omega) hk rfl (Nat.le_of_ble_eq_true rfl) ?_
            refine E_run hk 1 (j' := 74) (lv' := [(8, yi (mn 1000000000 (0 + (unl S b i c)))), (12, yi 0), (11, yi (gat m (i - 1) c)), (0, .ref a), (1, .ref s), (2, yi i), (5, yi (f i - b)), (7, yi L), (9, yi al), (10, yi c)]) (st' := []) (hp' := hl36) rfl ?_
            have e9 : mn 1000000000 (0 + (unl S b i c)) = far (fw (unl S b) (S 3) u i c) := by
              rw [cel, ← J3, ← J4 (by omega), ← u1]
              first
                | (rw [if_pos (by omega), mn_lt (by omega), Int.zero_add])
                | (rw [if_neg (by omega)]; done)
            refine E_run hk 4 (j' := 78) (lv' := [(8, yi (mn 1000000000 (0 + (unl S b i c)))), (12, yi 0), (11, yi (gat m (i - 1) c)), (0, .ref a), (1, .ref s), (2, yi i), (5, yi (f i - b)), (7, yi L), (9, yi al), (10, yi c)]) (st' := [yi (mn 1000000000 (0 + (unl S b i c))), yi c, yi i, .ref a]) (hp' := hl36) rfl ?_
            refine Y_call hk rfl (as := [.ref a, yi i, yi c, yi (mn 1000000000 (0 + (unl S b i c)))]) (rest := []) (v := none) rfl rfl (Nat.le_of_ble_eq_true rfl) (rcv0 (fr36.at (by simp only [List.mem_cons, List.not_mem_nil, or_false, not_or]; exact hap.2.2) ha)) (Nat.le_of_ble_eq_true rfl) (c_X0_put (i := i) (j := c) (x := (mn 1000000000 (0 + (unl S b i c)))) (a := a) (p := p) (k := m) hap (fr36.at (by simp only [List.mem_cons, List.not_mem_nil, or_false, not_or]; exact hap.2.2) ha) ec36_p (by omega)) (fun H8 r9 => ?_)
            obtain ⟨e_H8, f_H8⟩ := r9
            refine E_run hk 2 (j' := 81) (lv' := [(9, yi (gat m (i - 1) c)), (8, yi (mn 1000000000 (0 + (unl S b i c)))), (12, yi 0), (11, yi (gat m (i - 1) c)), (0, .ref a), (1, .ref s), (2, yi i), (5, yi (f i - b)), (7, yi L), (10, yi c)]) (st' := []) (hp' := H8) rfl ?_
            refine Y_iinc (a := c) (z := 1) hk rfl rfl rfl (by decide) (lv' := [(10, yi (c + 1)), (9, yi (gat m (i - 1) c)), (8, yi (mn 1000000000 (0 + (unl S b i c)))), (12, yi 0), (11, yi (gat m (i - 1) c)), (0, .ref a), (1, .ref s), (2, yi i), (5, yi (f i - b)), (7, yi L)]) rfl ?_
            refine E_run hk 1 (j' := 36) (lv' := [(10, yi (c + 1)), (9, yi (gat m (i - 1) c)), (8, yi (mn 1000000000 (0 + (unl S b i c)))), (12, yi 0), (11, yi (gat m (i - 1) c)), (0, .ref a), (1, .ref s), (2, yi i), (5, yi (f i - b)), (7, yi L)]) (st' := []) (hp' := H8) rfl ?_
            exact Ev_le (xle_s rfl rfl (xle_s rfl rfl (xle_s rfl rfl (xle_s rfl rfl (xle_s rfl rfl (xle_s rfl rfl (xle_s rfl rfl (xle_s rfl rfl (xle_z _ rfl))))))))) (ih36 _ (by omega) (c + 1) (mn 1000000000 (0 + (unl S b i c))) (gat m (i - 1) c) (up m (20 * i + c) (mn 1000000000 (0 + (unl S b i c)))) H8 (by omega) (fun x y x1 x2 y1 y2 => by
        rw [up_ne _ _ (by omega)]
        exact J2 x y x1 x2 y1 y2) (by rw [show c + 1 - 1 = c by omega]; exact e9) (fun _ => by rw [show c + 1 - 1 = c by omega]; exact u1) (fun y y1 y2 y3 => by
        by_cases e : y = c
        · rw [e, up_self]
          exact e9
        · rw [up_ne _ _ (by omega)]
          exact J5 y y1 (by omega) y3) (fun q q1 q2 => by
        rw [up_ne _ _ (by omega)]
        exact J6 q (by omega) q2) e_H8 (yfr.tr fr36 f_H8 (fun _ h => h) (by simp)) rfl)
  exact Ev_le (xle_s rfl rfl (xle_s rfl rfl (xle_s rfl rfl (xle_s rfl rfl (xle_s rfl rfl (xle_s rfl rfl (xle_s rfl rfl (xle_s rfl rfl (xle_z _ rfl))))))))) (loop36 _ F 1000000000 (gat k (i - 1) (F - 1)) k hp (by omega) (hJ.1) (by rcases hF.2.2.2 (F - 1) (by omega) with q | q <;> rw [fw_band (by omega)] <;> rfl) (fun q0 => gat_fw (by omega) (fun q1 q2 => hJ.1 _ _ (by omega) (by omega) (by omega) (by omega))) (fun y y1 y2 y3 => by rcases hF.2.2.2 y y2 with q | q <;> rw [hJ.2 _ (by omega) (by omega), fw_band (by omega)] <;> rfl) (fun q q1 q2 => hJ.2 q (by omega) q2) hk1 (yfr.refl _ _) rfl)
