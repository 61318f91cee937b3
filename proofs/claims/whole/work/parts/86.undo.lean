/-! The class: undo, keep, restore, append, clearBuffer. -/
theorem c_undoA {d : Nat} {hp : xH} {kp cl od : Int} (h28 : xat hp 28 = some (.inr (8, [.ref 29, .ref 34, .ref 35, yi kp, .ref 40, yi cl, .ref 41, .ref 43, yi od, .ref 56, .ref 58]))) {mc n : Int} {e : Nat} (h34 : xat hp 34 = some (.inr (0, [yi mc, .ref e, yi n]))) (hn : n = 0) (hd : 4 ≤ d) : Cv d 87 [.ref 28] hp (yA (fun e y9 h => e = some 2 ∧ h = xbare hp 6)) := by
  have hk : xtab 87 = (xc_87, 1, 1, []) := rfl
  obtain ⟨d, rfl⟩ : ∃ e, d = e + 1 := ⟨d - 1, by omega⟩
  show Ev (d + 1) 87 0 [(0, .ref 28)] [] hp _
  refine E_run hk 1 (j' := 1) (lv' := [(0, .ref 28)]) (st' := [.ref 28]) (hp' := hp) rfl ?_
  refine E_get (v := .ref 34) hk rfl h28 rfl ?_
  refine Y_callP hk rfl (as := [.ref 34]) (rest := []) (v := some (yi (b2 (n = 0)))) rfl rfl (Nat.le_of_ble_eq_true rfl) (rcv0 h34) (Nat.le_of_ble_eq_true rfl) (c_Jx4a65c_isEmpty_aae02 h34 (by omega)) ?_
  refine Y_b_eq hk rfl (fun g1 => ?_) (fun g1 => ?_)
  · exfalso; omega
  ·
    exact E_throw (by omega) hk rfl (Nat.le_of_ble_eq_true rfl) (Or.inr ⟨2, rfl, rfl, rfl⟩)
theorem c_undoB {d : Nat} {hp : xH} {kp cl od : Int} (h28 : xat hp 28 = some (.inr (8, [.ref 29, .ref 34, .ref 35, yi kp, .ref 40, yi cl, .ref 41, .ref 43, yi od, .ref 56, .ref 58]))) {z o : Nat} {S f g : Int → Int} {r t : Int} (hS : yS hp 29 z o S f g r t) {mc n : Int} {e : Nat} {F : Nat → Value} (h34 : xat hp 34 = some (.inr (0, [yi mc, .ref e, yi n]))) (hF : xat hp e = some (yO 10 F)) (he : 77 ≤ e) (hn : 1 ≤ n ∧ n ≤ 6) (hSX : ∀ q : Nat, (q : Int) < n → ∃ b fs, F q = .ref b ∧ xat hp b = some (.inr (6, fs)) ∧ b ≠ 34 ∧ b ≠ e) {b : Nat} {S0 f0 g0 : Int → Int} {r0 t0 : Int} (hSb : yS hp b (b + 1) (b + 3) S0 f0 g0 r0 t0) (hb : F (n - 1).toNat = .ref b) (hb7 : 77 ≤ b) (heb : e < b ∨ b + 5 ≤ e) (hl0 : 0 ≤ S0 0 ∧ S0 0 ≤ 20 ∧ 0 ≤ S0 1 ∧ S0 1 ≤ 20) (hd : 4 ≤ d) : Cv d 87 [.ref 28] hp (yR (some (yi (n - 1))) (fun h => ∃ F2, xat h 34 = some (.inr (0, [yi (mc + 1), .ref e, yi (n - 1)])) ∧ xat h e = some (yO 10 F2) ∧ (∀ q : Nat, (q : Int) < n - 1 → F2 q = F q) ∧ (∃ f3 g3, yS h 29 z o S0 f3 g3 r0 t0) ∧ xat h 28 = some (.inr (8, [.ref 29, .ref 34, .ref 35, yi kp, .ref 40, yi cl, .ref 41, .ref 43, yi 1, .ref 56, .ref 58])) ∧ yfr [28, 34, e, 29, z, (z + 1), o, (o + 1)] hp h)) := by
  have hk : xtab 87 = (xc_87, 1, 1, []) := rfl
  obtain ⟨d, rfl⟩ : ∃ e, d = e + 1 := ⟨d - 1, by omega⟩
  obtain ⟨hid, hs_, hz_, ho_, hf_, hg_, ef, eg⟩ := hS
  obtain ⟨hidb, hs_b, hz_b, ho_b, hf_b, hg_b, efb, egb⟩ := hSb
  show Ev (d + 1) 87 0 [(0, .ref 28)] [] hp _
  refine E_run hk 1 (j' := 1) (lv' := [(0, .ref 28)]) (st' := [.ref 28]) (hp' := hp) rfl ?_
  refine E_get (v := .ref 34) hk rfl h28 rfl ?_
  refine Y_callP hk rfl (as := [.ref 34]) (rest := []) (v := some (yi (b2 (n = 0)))) rfl rfl (Nat.le_of_ble_eq_true rfl) (rcv0 h34) (Nat.le_of_ble_eq_true rfl) (c_Jx4a65c_isEmpty_aae02 h34 (by omega)) ?_
  refine Y_b_eq hk rfl (fun g1 => ?_) (fun g1 => ?_)
  ·
    refine E_run hk 1 (j' := 10) (lv' := [(0, .ref 28)]) (st' := [.ref 28]) (hp' := hp) rfl ?_
    refine E_get (v := .ref 29) hk rfl h28 rfl ?_
    refine E_run hk 1 (j' := 12) (lv' := [(0, .ref 28)]) (st' := [.ref 28, .ref 29]) (hp' := hp) rfl ?_
    refine E_get (v := .ref 34) hk rfl h28 rfl ?_
    refine E_run hk 1 (j' := 14) (lv' := [(0, .ref 28)]) (st' := [.ref 28, .ref 34, .ref 29]) (hp' := hp) rfl ?_
    refine E_get (v := .ref 34) hk rfl h28 rfl ?_
    refine Y_callP hk rfl (as := [.ref 34]) (rest := [.ref 34, .ref 29]) (v := some (yi n)) rfl rfl (Nat.le_of_ble_eq_true rfl) (rcv0 h34) (Nat.le_of_ble_eq_true rfl) (c_Jx4a65c_size_8abf5 h34) ?_
    refine E_run hk 1 (j' := 17) (lv' := [(0, .ref 28)]) (st' := [yi 1, yi n, .ref 34, .ref 29]) (hp' := hp) rfl ?_
    refine Y_isub (a := n) (b := 1) hk rfl ?_
    refine Y_call hk rfl (as := [.ref 34, yi (n - 1)]) (rest := [.ref 29]) (v := some (.ref b)) rfl rfl (Nat.le_of_ble_eq_true rfl) (rcv0 h34) (Nat.le_of_ble_eq_true rfl) (c_Jx4a65c_remove_915e3 (i := (n - 1)) h34 hF he (by omega) hb hSX (hd := by omega)) (fun H2 r3 => ?_)
    obtain ⟨F_H2, e1_H2, e2_H2, a_H2, b_H2, f_H2⟩ := r3
    refine Y_cast hk rfl (f_H2.at (by simp only [List.mem_cons, List.not_mem_nil, or_false, not_or]; exact ⟨(Ne.symm (sok hidb (by unfold apart; omega)).1), (Ne.symm (sok hidb (by unfold apart; omega)).1)⟩) hs_b) ?_
    refine Y_call hk rfl (as := [.ref 29, .ref b]) (rest := []) (v := none) rfl rfl (Nat.le_of_ble_eq_true rfl) (rcv0 (f_H2.at (by simp only [List.mem_cons, List.not_mem_nil, or_false, not_or]; exact ⟨(by decide), (Ne.symm (sok hid (by unfold apart; omega)).1)⟩) hs_)) (Nat.le_of_ble_eq_true rfl) (c_X5_copyFrom ⟨hid, (f_H2.at (by simp only [List.mem_cons, List.not_mem_nil, or_false, not_or]; exact ⟨(by decide), (Ne.symm (sok hid (by unfold apart; omega)).1)⟩) hs_), (f_H2.at (by simp only [List.mem_cons, List.not_mem_nil, or_false, not_or]; exact ⟨(Ne.symm (sok hid (by unfold apart; omega)).2.1), (Ne.symm (sok hid (by unfold apart; omega)).2.1)⟩) hz_), (f_H2.at (by simp only [List.mem_cons, List.not_mem_nil, or_false, not_or]; exact ⟨(Ne.symm (sok hid (by unfold apart; omega)).2.2.2.1), (Ne.symm (sok hid (by unfold apart; omega)).2.2.2.1)⟩) ho_), (f_H2.at (by simp only [List.mem_cons, List.not_mem_nil, or_false, not_or]; exact ⟨(Ne.symm (sok hid (by unfold apart; omega)).2.2.1), (Ne.symm (sok hid (by unfold apart; omega)).2.2.1)⟩) hf_), (f_H2.at (by simp only [List.mem_cons, List.not_mem_nil, or_false, not_or]; exact ⟨(Ne.symm (sok hid (by unfold apart; omega)).2.2.2.2), (Ne.symm (sok hid (by unfold apart; omega)).2.2.2.2)⟩) hg_), ef, eg⟩ ⟨hidb, (f_H2.at (by simp only [List.mem_cons, List.not_mem_nil, or_false, not_or]; exact ⟨(Ne.symm (sok hidb (by unfold apart; omega)).1), (Ne.symm (sok hidb (by unfold apart; omega)).1)⟩) hs_b), (f_H2.at (by simp only [List.mem_cons, List.not_mem_nil, or_false, not_or]; exact ⟨(Ne.symm (sok hidb (by unfold apart; omega)).2.1), (Ne.symm (sok hidb (by unfold apart; omega)).2.1)⟩) hz_b), (f_H2.at (by simp only [List.mem_cons, List.not_mem_nil, or_false, not_or]; exact ⟨(Ne.symm (sok hidb (by unfold apart; omega)).2.2.2.1), (Ne.symm (sok hidb (by unfold apart; omega)).2.2.2.1)⟩) ho_b), (f_H2.at (by simp only [List.mem_cons, List.not_mem_nil, or_false, not_or]; exact ⟨(Ne.symm (sok hidb (by unfold apart; omega)).2.2.1), (Ne.symm (sok hidb (by unfold apart; omega)).2.2.1)⟩) hf_b), (f_H2.at (by simp only [List.mem_cons, List.not_mem_nil, or_false, not_or]; exact ⟨(Ne.symm (sok hidb (by unfold apart; omega)).2.2.2.2), (Ne.symm (sok hidb (by unfold apart; omega)).2.2.2.2)⟩) hg_b), efb, egb⟩ (by omega) (by omega) (hd := by omega)) (fun H4 r5 => ?_)
    obtain ⟨F_H4, G_H4, y_H4, f_H4⟩ := r5
    obtain ⟨i_H4, a1_H4, a2_H4, a3_H4, a4_H4, a5_H4, a6_H4, a7_H4⟩ := y_H4
    refine E_run hk 2 (j' := 23) (lv' := [(0, .ref 28)]) (st' := [yi 1, .ref 28]) (hp' := H4) rfl ?_
    refine Y_put hk rfl (f_H4.at (by simp only [List.mem_cons, List.not_mem_nil, or_false, not_or]; exact ⟨(by decide), (sok i_H4 (by unfold apart; omega)).2.1, (sok i_H4 (by unfold apart; omega)).2.2.1, (sok i_H4 (by unfold apart; omega)).2.2.2.1, (sok i_H4 (by unfold apart; omega)).2.2.2.2⟩) (f_H2.at (by simp only [List.mem_cons, List.not_mem_nil, or_false, not_or]; exact ⟨(by decide), (by omega)⟩) h28)) (by decide) (Nat.le_of_ble_eq_true rfl) rfl (fs' := [.ref 29, .ref 34, .ref 35, yi kp, .ref 40, yi cl, .ref 41, .ref 43, yi 1, .ref 56, .ref 58]) rfl (fun H6 e7 f8 => ?_)
    refine E_run hk 1 (j' := 25) (lv' := [(0, .ref 28)]) (st' := [.ref 28]) (hp' := H6) rfl ?_
    refine E_get (v := .ref 34) hk rfl e7 rfl ?_
    refine Y_callP hk rfl (as := [.ref 34]) (rest := []) (v := some (yi (n - 1))) rfl rfl (Nat.le_of_ble_eq_true rfl) (rcv0 (f8.at (by decide) (f_H4.at (by simp only [List.mem_cons, List.not_mem_nil, or_false, not_or]; exact ⟨(by decide), (sok i_H4 (by unfold apart; omega)).2.1, (sok i_H4 (by unfold apart; omega)).2.2.1, (sok i_H4 (by unfold apart; omega)).2.2.2.1, (sok i_H4 (by unfold apart; omega)).2.2.2.2⟩) e1_H2))) (Nat.le_of_ble_eq_true rfl) (c_Jx4a65c_size_8abf5 (f8.at (by decide) (f_H4.at (by simp only [List.mem_cons, List.not_mem_nil, or_false, not_or]; exact ⟨(by decide), (sok i_H4 (by unfold apart; omega)).2.1, (sok i_H4 (by unfold apart; omega)).2.2.1, (sok i_H4 (by unfold apart; omega)).2.2.2.1, (sok i_H4 (by unfold apart; omega)).2.2.2.2⟩) e1_H2))) ?_
    exact E_ret hk rfl rfl ⟨rfl, _, (f8.at (by decide) (f_H4.at (by simp only [List.mem_cons, List.not_mem_nil, or_false, not_or]; exact ⟨(by decide), (sok i_H4 (by unfold apart; omega)).2.1, (sok i_H4 (by unfold apart; omega)).2.2.1, (sok i_H4 (by unfold apart; omega)).2.2.2.1, (sok i_H4 (by unfold apart; omega)).2.2.2.2⟩) e1_H2)), (f8.at (by simp only [List.mem_cons, List.not_mem_nil, or_false, not_or]; exact (by omega)) (f_H4.at (by simp only [List.mem_cons, List.not_mem_nil, or_false, not_or]; exact ⟨(sok i_H4 (by unfold apart; omega)).1, (sok i_H4 (by unfold apart; omega)).2.1, (sok i_H4 (by unfold apart; omega)).2.2.1, (sok i_H4 (by unfold apart; omega)).2.2.2.1, (sok i_H4 (by unfold apart; omega)).2.2.2.2⟩) e2_H2)), fun q q1 => a_H2 q q1, ⟨F_H4, G_H4, ⟨i_H4, (f8.at (by decide) a1_H4), (f8.at (by simp only [List.mem_cons, List.not_mem_nil, or_false, not_or]; exact (Ne.symm (sok i_H4 (by unfold apart; omega)).2.1)) a2_H4), (f8.at (by simp only [List.mem_cons, List.not_mem_nil, or_false, not_or]; exact (Ne.symm (sok i_H4 (by unfold apart; omega)).2.2.2.1)) a3_H4), (f8.at (by simp only [List.mem_cons, List.not_mem_nil, or_false, not_or]; exact (Ne.symm (sok i_H4 (by unfold apart; omega)).2.2.1)) a4_H4), (f8.at (by simp only [List.mem_cons, List.not_mem_nil, or_false, not_or]; exact (Ne.symm (sok i_H4 (by unfold apart; omega)).2.2.2.2)) a5_H4), a6_H4, a7_H4⟩⟩, e7, (yfr.tr (yfr.tr (f_H2.mono (by simp)) f_H4 (fun _ h => h) (by simp)) f8 (fun _ h => h) (by simp))⟩
  · exfalso; omega
theorem c_X8_undo {d : Nat} {hp : xH} {kp cl od : Int} (h28 : xat hp 28 = some (.inr (8, [.ref 29, .ref 34, .ref 35, yi kp, .ref 40, yi cl, .ref 41, .ref 43, yi od, .ref 56, .ref 58]))) {z o : Nat} {S f g : Int → Int} {r t : Int} (hS : yS hp 29 z o S f g r t) (hN : 77 ≤ hp.1) {n : Int} {T : Int → Int} (hv : ySv hp n T) (hn6 : 0 ≤ n ∧ n ≤ 6) (hd : 4 ≤ d) : Cv d 87 [.ref 28] hp (yA (fun e y9 h => ((e = none ∧ 1 ≤ n ∧ y9 = n - 1 ∧ xat h 28 = some (.inr (8, [.ref 29, .ref 34, .ref 35, yi kp, .ref 40, yi cl, .ref 41, .ref 43, yi 1, .ref 56, .ref 58])) ∧ ySv h (n - 1) T ∧ okS (slc T (n - 1).toNat) ∧ ∃ f2 g2 r2 t2, yS h 29 z o (slc T (n - 1).toNat) f2 g2 r2 t2 ∧ ystp (slc T (n - 1).toNat) r2 t2) ∨ (e = some 2 ∧ n = 0 ∧ h = xbare hp 6)) ∧ yfz kNow hp h)) := by
  obtain ⟨mc, e, F, bs, a1, a2, a3, a4⟩ := hv
  by_cases h0 : n = 0
  · refine Ev.imp (c_undoA h28 a1 h0 (hd := hd)) (fun o h q => ?_)
    rcases q with ⟨z9, q1, q2, q3⟩ | ⟨E, q1, q2, q3⟩
    · cases q2
    · refine Or.inr ⟨E, q1, Or.inr ⟨q2, h0, q3⟩, ?_⟩
      rw [q3]
      exact (yfz.bare hp).mono (by simp)
  · rcases a2 with ⟨b1, b2⟩ | ⟨b1, b2, b3⟩
    · exact absurd b2 h0
    · obtain ⟨c1, c2, c3, c4, c5, f0, g0, r0, t0, c6, c7⟩ := a3 (n - 1).toNat (by omega)
      have hX : ∀ q : Nat, (q : Int) < n → ∃ (b : Nat) (fs : List Value), F q = .ref b ∧ xat hp b = some (.inr (6, fs)) ∧ b ≠ 34 ∧ b ≠ e := fun q hq => by
        obtain ⟨d1, d2, d3, d4, d5, f1, g1, r1, t1, d6, d7⟩ := a3 q hq
        exact ⟨bs q, _, d1, d6.2.1, by omega, by omega⟩
      have c51 := c5.1
      have hid := hS.1
      refine Ev.imp (c_undoB h28 hS a1 b3 b1 (by omega) hX c6 c1 c2 c4 (by omega) (hd := hd)) (fun o9 h q => ?_)
      obtain ⟨q1, F2, q2, q3, q4, ⟨f3, g3, q6⟩, q7, q8⟩ := q
      have hh := q8.1
      have w := s77 hid
      have fr : ∀ i, 77 ≤ i → i ≠ e → xat h i = xat hp i := fun i i1 i2 => q8.2.2 i (by simp only [List.mem_cons, List.not_mem_nil, or_false, not_or]; omega)
      refine Or.inl ⟨n - 1, q1, Or.inl ⟨rfl, by omega, rfl, q7, ?_, c5, f3, g3, r0, t0, q6, c7⟩, by omega, by omega, by rw [q8.2.1]; omega, fun i i1 i2 => q8.2.2 i ?_, fun i0 => absurd (by unfold kNow; decide) i0⟩
      · refine ⟨mc + 1, e, F2, bs, q2, Or.inr ⟨b1, by omega, q3⟩, fun i hi => ?_, fun i j hi hj hij => a4 i j (by omega) (by omega) hij⟩
        obtain ⟨d1, d2, d3, d4, d5, f1, g1, r1, t1, d6, d7⟩ := a3 i (by omega)
        exact ⟨(q4 i hi).trans d1, d2, by omega, d4, d5, f1, g1, r1, t1, d6.at2 (fun k k1 k2 => fr k (by omega) (by omega)), d7⟩
      · intro m
        simp only [List.mem_cons, List.not_mem_nil, or_false] at m
        rcases m with m | m | m | m | m | m | m | m
        · exact i2 (by unfold kNow; rw [m]; decide)
        · exact i2 (by unfold kNow; rw [m]; decide)
        · omega
        all_goals exact i2 (kNow_mem hid i (by omega)).1
theorem k77 {z o : Nat} (h : stid 35 z o) : z < 77 ∧ z + 1 < 77 ∧ o < 77 ∧ o + 1 < 77 := by
  unfold stid at h
  omega
theorem kept_mem {u w : Nat} (h : stid 35 u w) : ∀ i, i = 35 ∨ i = u ∨ i = u + 1 ∨ i = w ∨ i = w + 1 → i ∈ [28, 35, 36, 37, 38, 39] := by
  intro i hi
  unfold stid at h
  simp only [List.mem_cons, List.not_mem_nil, or_false]
  omega
theorem c_X8_keep {d : Nat} {hp : xH} {kp cl od : Int} (h28 : xat hp 28 = some (.inr (8, [.ref 29, .ref 34, .ref 35, yi kp, .ref 40, yi cl, .ref 41, .ref 43, yi od, .ref 56, .ref 58]))) {z o : Nat} {S f g : Int → Int} {r t : Int} (hS : yS hp 29 z o S f g r t) {u w : Nat} {K kf kg : Int → Int} {kr kt : Int} (hK : yS hp 35 u w K kf kg kr kt) (hz : 0 ≤ S 0 ∧ S 0 ≤ 20 ∧ 0 ≤ S 1 ∧ S 1 ≤ 20) (hd : 2 ≤ d) : Cv d 88 [.ref 28] hp (yR (some (yi (S 0 + S 1))) (fun h => (∃ f3 g3, yS h 35 u w S f3 g3 r t) ∧ xat h 28 = some (.inr (8, [.ref 29, .ref 34, .ref 35, yi 1, .ref 40, yi cl, .ref 41, .ref 43, yi od, .ref 56, .ref 58])) ∧ yfr [28, 35, u, (u + 1), w, (w + 1)] hp h)) := by
  have hk : xtab 88 = (xc_88, 1, 1, []) := rfl
  obtain ⟨d, rfl⟩ : ∃ e, d = e + 1 := ⟨d - 1, by omega⟩
  obtain ⟨hid, hs_, hz_, ho_, hf_, hg_, ef, eg⟩ := hS
  obtain ⟨hidk, hs_k, hz_k, ho_k, hf_k, hg_k, efk, egk⟩ := hK
  show Ev (d + 1) 88 0 [(0, .ref 28)] [] hp _
  refine E_run hk 1 (j' := 1) (lv' := [(0, .ref 28)]) (st' := [.ref 28]) (hp' := hp) rfl ?_
  refine E_get (v := .ref 35) hk rfl h28 rfl ?_
  refine E_run hk 1 (j' := 3) (lv' := [(0, .ref 28)]) (st' := [.ref 28, .ref 35]) (hp' := hp) rfl ?_
  refine E_get (v := .ref 29) hk rfl h28 rfl ?_
  refine Y_call hk rfl (as := [.ref 35, .ref 29]) (rest := []) (v := none) rfl rfl (Nat.le_of_ble_eq_true rfl) (rcv0 hs_k) (Nat.le_of_ble_eq_true rfl) (c_X5_copyFrom ⟨hidk, hs_k, hz_k, ho_k, hf_k, hg_k, efk, egk⟩ ⟨hid, hs_, hz_, ho_, hf_, hg_, ef, eg⟩ (by omega) (by omega) (hd := by omega)) (fun H1 r2 => ?_)
  obtain ⟨F_H1, G_H1, y_H1, f_H1⟩ := r2
  obtain ⟨i_H1, a1_H1, a2_H1, a3_H1, a4_H1, a5_H1, a6_H1, a7_H1⟩ := y_H1
  refine E_run hk 2 (j' := 7) (lv' := [(0, .ref 28)]) (st' := [yi 1, .ref 28]) (hp' := H1) rfl ?_
  refine Y_put hk rfl (f_H1.at (by simp only [List.mem_cons, List.not_mem_nil, or_false, not_or]; exact ⟨(by decide), (sok i_H1 (by unfold apart; decide)).2.1, (sok i_H1 (by unfold apart; decide)).2.2.1, (sok i_H1 (by unfold apart; decide)).2.2.2.1, (sok i_H1 (by unfold apart; decide)).2.2.2.2⟩) h28) (by decide) (Nat.le_of_ble_eq_true rfl) rfl (fs' := [.ref 29, .ref 34, .ref 35, yi 1, .ref 40, yi cl, .ref 41, .ref 43, yi od, .ref 56, .ref 58]) rfl (fun H3 e4 f5 => ?_)
  refine E_run hk 1 (j' := 9) (lv' := [(0, .ref 28)]) (st' := [.ref 28]) (hp' := H3) rfl ?_
  refine E_get (v := .ref 29) hk rfl e4 rfl ?_
  refine Y_callP hk rfl (as := [.ref 29]) (rest := []) (v := some (yi (S 0 + S 1))) rfl rfl (Nat.le_of_ble_eq_true rfl) (rcv0 (f5.at (by decide) (f_H1.at (by simp only [List.mem_cons, List.not_mem_nil, or_false, not_or]; exact ⟨(by decide), (sdi hid i_H1 (Or.inl (by decide)) _ _ (Or.inl rfl) (Or.inr (Or.inl rfl))), (sdi hid i_H1 (Or.inl (by decide)) _ _ (Or.inl rfl) (Or.inr (Or.inr (Or.inl rfl)))), (sdi hid i_H1 (Or.inl (by decide)) _ _ (Or.inl rfl) (Or.inr (Or.inr (Or.inr (Or.inl rfl))))), (sdi hid i_H1 (Or.inl (by decide)) _ _ (Or.inl rfl) (Or.inr (Or.inr (Or.inr (Or.inr rfl)))))⟩) hs_))) (Nat.le_of_ble_eq_true rfl) (c_X5_bothLengths ⟨hid, (f5.at (by decide) (f_H1.at (by simp only [List.mem_cons, List.not_mem_nil, or_false, not_or]; exact ⟨(by decide), (sdi hid i_H1 (Or.inl (by decide)) _ _ (Or.inl rfl) (Or.inr (Or.inl rfl))), (sdi hid i_H1 (Or.inl (by decide)) _ _ (Or.inl rfl) (Or.inr (Or.inr (Or.inl rfl)))), (sdi hid i_H1 (Or.inl (by decide)) _ _ (Or.inl rfl) (Or.inr (Or.inr (Or.inr (Or.inl rfl))))), (sdi hid i_H1 (Or.inl (by decide)) _ _ (Or.inl rfl) (Or.inr (Or.inr (Or.inr (Or.inr rfl)))))⟩) hs_)), (f5.at (by simp only [List.mem_cons, List.not_mem_nil, or_false, not_or]; exact (Ne.symm (sok hid (by unfold apart; decide)).2.1)) (f_H1.at (by simp only [List.mem_cons, List.not_mem_nil, or_false, not_or]; exact ⟨(sdi hid i_H1 (Or.inl (by decide)) _ _ (Or.inr (Or.inl rfl)) (Or.inl rfl)), (sdi hid i_H1 (Or.inl (by decide)) _ _ (Or.inr (Or.inl rfl)) (Or.inr (Or.inl rfl))), (sdi hid i_H1 (Or.inl (by decide)) _ _ (Or.inr (Or.inl rfl)) (Or.inr (Or.inr (Or.inl rfl)))), (sdi hid i_H1 (Or.inl (by decide)) _ _ (Or.inr (Or.inl rfl)) (Or.inr (Or.inr (Or.inr (Or.inl rfl))))), (sdi hid i_H1 (Or.inl (by decide)) _ _ (Or.inr (Or.inl rfl)) (Or.inr (Or.inr (Or.inr (Or.inr rfl)))))⟩) hz_)), (f5.at (by simp only [List.mem_cons, List.not_mem_nil, or_false, not_or]; exact (Ne.symm (sok hid (by unfold apart; decide)).2.2.2.1)) (f_H1.at (by simp only [List.mem_cons, List.not_mem_nil, or_false, not_or]; exact ⟨(sdi hid i_H1 (Or.inl (by decide)) _ _ (Or.inr (Or.inr (Or.inr (Or.inl rfl)))) (Or.inl rfl)), (sdi hid i_H1 (Or.inl (by decide)) _ _ (Or.inr (Or.inr (Or.inr (Or.inl rfl)))) (Or.inr (Or.inl rfl))), (sdi hid i_H1 (Or.inl (by decide)) _ _ (Or.inr (Or.inr (Or.inr (Or.inl rfl)))) (Or.inr (Or.inr (Or.inl rfl)))), (sdi hid i_H1 (Or.inl (by decide)) _ _ (Or.inr (Or.inr (Or.inr (Or.inl rfl)))) (Or.inr (Or.inr (Or.inr (Or.inl rfl))))), (sdi hid i_H1 (Or.inl (by decide)) _ _ (Or.inr (Or.inr (Or.inr (Or.inl rfl)))) (Or.inr (Or.inr (Or.inr (Or.inr rfl)))))⟩) ho_)), (f5.at (by simp only [List.mem_cons, List.not_mem_nil, or_false, not_or]; exact (Ne.symm (sok hid (by unfold apart; decide)).2.2.1)) (f_H1.at (by simp only [List.mem_cons, List.not_mem_nil, or_false, not_or]; exact ⟨(sdi hid i_H1 (Or.inl (by decide)) _ _ (Or.inr (Or.inr (Or.inl rfl))) (Or.inl rfl)), (sdi hid i_H1 (Or.inl (by decide)) _ _ (Or.inr (Or.inr (Or.inl rfl))) (Or.inr (Or.inl rfl))), (sdi hid i_H1 (Or.inl (by decide)) _ _ (Or.inr (Or.inr (Or.inl rfl))) (Or.inr (Or.inr (Or.inl rfl)))), (sdi hid i_H1 (Or.inl (by decide)) _ _ (Or.inr (Or.inr (Or.inl rfl))) (Or.inr (Or.inr (Or.inr (Or.inl rfl))))), (sdi hid i_H1 (Or.inl (by decide)) _ _ (Or.inr (Or.inr (Or.inl rfl))) (Or.inr (Or.inr (Or.inr (Or.inr rfl)))))⟩) hf_)), (f5.at (by simp only [List.mem_cons, List.not_mem_nil, or_false, not_or]; exact (Ne.symm (sok hid (by unfold apart; decide)).2.2.2.2)) (f_H1.at (by simp only [List.mem_cons, List.not_mem_nil, or_false, not_or]; exact ⟨(sdi hid i_H1 (Or.inl (by decide)) _ _ (Or.inr (Or.inr (Or.inr (Or.inr rfl)))) (Or.inl rfl)), (sdi hid i_H1 (Or.inl (by decide)) _ _ (Or.inr (Or.inr (Or.inr (Or.inr rfl)))) (Or.inr (Or.inl rfl))), (sdi hid i_H1 (Or.inl (by decide)) _ _ (Or.inr (Or.inr (Or.inr (Or.inr rfl)))) (Or.inr (Or.inr (Or.inl rfl)))), (sdi hid i_H1 (Or.inl (by decide)) _ _ (Or.inr (Or.inr (Or.inr (Or.inr rfl)))) (Or.inr (Or.inr (Or.inr (Or.inl rfl))))), (sdi hid i_H1 (Or.inl (by decide)) _ _ (Or.inr (Or.inr (Or.inr (Or.inr rfl)))) (Or.inr (Or.inr (Or.inr (Or.inr rfl)))))⟩) hg_)), ef, eg⟩ (by omega)) ?_
  exact E_ret hk rfl rfl ⟨rfl, ⟨F_H1, G_H1, ⟨i_H1, (f5.at (by decide) a1_H1), (f5.at (by simp only [List.mem_cons, List.not_mem_nil, or_false, not_or]; exact (Ne.symm (sok i_H1 (by unfold apart; decide)).2.1)) a2_H1), (f5.at (by simp only [List.mem_cons, List.not_mem_nil, or_false, not_or]; exact (Ne.symm (sok i_H1 (by unfold apart; decide)).2.2.2.1)) a3_H1), (f5.at (by simp only [List.mem_cons, List.not_mem_nil, or_false, not_or]; exact (Ne.symm (sok i_H1 (by unfold apart; decide)).2.2.1)) a4_H1), (f5.at (by simp only [List.mem_cons, List.not_mem_nil, or_false, not_or]; exact (Ne.symm (sok i_H1 (by unfold apart; decide)).2.2.2.2)) a5_H1), a6_H1, a7_H1⟩⟩, e4, (yfr.tr (f_H1.mono (by simp)) f5 (fun _ h => h) (by simp))⟩
theorem c_X8_restore {d : Nat} {hp : xH} {kp cl od : Int} (h28 : xat hp 28 = some (.inr (8, [.ref 29, .ref 34, .ref 35, yi kp, .ref 40, yi cl, .ref 41, .ref 43, yi od, .ref 56, .ref 58]))) {z o : Nat} {S f g : Int → Int} {r t : Int} (hS : yS hp 29 z o S f g r t) (hN : 77 ≤ hp.1) (h26 : xat hp 26 = some (yO 0 (fun _ => .null))) {n : Int} {T : Int → Int} (hv : ySv hp n T) (hn6 : 0 ≤ n ∧ n ≤ 6) (hok : okS S) (hst : ystp S r t) {u w : Nat} {K kf kg : Int → Int} {kr kt : Int} (hK : yS hp 35 u w K kf kg kr kt) (hzk : 0 ≤ K 0 ∧ K 0 ≤ 20 ∧ 0 ≤ K 1 ∧ K 1 ≤ 20) (hkp : 0 ≤ kp ∧ kp ≤ 1) (hd : 5 ≤ d) : Cv d 89 [.ref 28] hp (yA (fun e y9 h => ((e = none ∧ kp = 1 ∧ y9 = K 0 + K 1 ∧ xat h 28 = some (.inr (8, [.ref 29, .ref 34, .ref 35, yi kp, .ref 40, yi cl, .ref 41, .ref 43, yi 1, .ref 56, .ref 58])) ∧ (∀ U, recd n S T U → ySv h (if n = 6 then 6 else n + 1) U) ∧ ∃ f2 g2, yS h 29 z o K f2 g2 kr kt) ∨ (e = some 2 ∧ kp = 0 ∧ h = xbare hp 6)) ∧ yfz kNow hp h)) := by
  have hk : xtab 89 = (xc_89, 1, 1, []) := rfl
  obtain ⟨d, rfl⟩ : ∃ e, d = e + 1 := ⟨d - 1, by omega⟩
  obtain ⟨hid, hs_, hz_, ho_, hf_, hg_, ef, eg⟩ := hS
  obtain ⟨hidk, hs_k, hz_k, ho_k, hf_k, hg_k, efk, egk⟩ := hK
  show Ev (d + 1) 89 0 [(0, .ref 28)] [] hp _
  refine E_run hk 1 (j' := 1) (lv' := [(0, .ref 28)]) (st' := [.ref 28]) (hp' := hp) rfl ?_
  refine E_get (v := yi kp) hk rfl h28 rfl ?_
  refine Y_if_ne (a := kp) (by omega) hk rfl (fun g1 => ?_) (fun g1 => ?_)
  ·
    refine E_run hk 1 (j' := 9) (lv' := [(0, .ref 28)]) (st' := [.ref 28]) (hp' := hp) rfl ?_
    refine Y_call hk rfl (as := [.ref 28]) (rest := []) (v := none) rfl rfl (Nat.le_of_ble_eq_true rfl) (rcv0 h28) (Nat.le_of_ble_eq_true rfl) (c_X8_saveState h28 ⟨hid, hs_, hz_, ho_, hf_, hg_, ef, eg⟩ hN h26 hv hn6 hok hst (hd := by omega)) (fun H2 r3 => ?_)
    obtain ⟨e28_H2, sv_H2, f_H2⟩ := r3
    refine E_run hk 1 (j' := 11) (lv' := [(0, .ref 28)]) (st' := [.ref 28]) (hp' := H2) rfl ?_
    refine E_get (v := .ref 29) hk rfl e28_H2 rfl ?_
    refine E_run hk 1 (j' := 13) (lv' := [(0, .ref 28)]) (st' := [.ref 28, .ref 29]) (hp' := H2) rfl ?_
    refine E_get (v := .ref 35) hk rfl e28_H2 rfl ?_
    refine Y_call hk rfl (as := [.ref 29, .ref 35]) (rest := []) (v := none) rfl rfl (Nat.le_of_ble_eq_true rfl) (rcv0 (f_H2.at (by decide) (by decide) hs_)) (Nat.le_of_ble_eq_true rfl) (c_X5_copyFrom ⟨hid, (f_H2.at (by decide) (by decide) hs_), (f_H2.at (by simp only [List.mem_cons, List.not_mem_nil, or_false, not_or]; exact ⟨(Ne.symm (sok hid (by unfold apart; decide)).2.1), (Ne.symm (sok hid (by unfold apart; decide)).2.1), (Ne.symm (sok hid (by unfold apart; decide)).2.1)⟩) (s77 hid).1 hz_), (f_H2.at (by simp only [List.mem_cons, List.not_mem_nil, or_false, not_or]; exact ⟨(Ne.symm (sok hid (by unfold apart; decide)).2.2.2.1), (Ne.symm (sok hid (by unfold apart; decide)).2.2.2.1), (Ne.symm (sok hid (by unfold apart; decide)).2.2.2.1)⟩) (s77 hid).2.2.1 ho_), (f_H2.at (by simp only [List.mem_cons, List.not_mem_nil, or_false, not_or]; exact ⟨(Ne.symm (sok hid (by unfold apart; decide)).2.2.1), (Ne.symm (sok hid (by unfold apart; decide)).2.2.1), (Ne.symm (sok hid (by unfold apart; decide)).2.2.1)⟩) (s77 hid).2.1 hf_), (f_H2.at (by simp only [List.mem_cons, List.not_mem_nil, or_false, not_or]; exact ⟨(Ne.symm (sok hid (by unfold apart; decide)).2.2.2.2), (Ne.symm (sok hid (by unfold apart; decide)).2.2.2.2), (Ne.symm (sok hid (by unfold apart; decide)).2.2.2.2)⟩) (s77 hid).2.2.2 hg_), ef, eg⟩ ⟨hidk, (f_H2.at (by decide) (by decide) hs_k), (f_H2.at (by simp only [List.mem_cons, List.not_mem_nil, or_false, not_or]; exact ⟨(Ne.symm (sok hidk (by unfold apart; decide)).2.1), (Ne.symm (sok hidk (by unfold apart; decide)).2.1), (Ne.symm (sok hidk (by unfold apart; decide)).2.1)⟩) (k77 hidk).1 hz_k), (f_H2.at (by simp only [List.mem_cons, List.not_mem_nil, or_false, not_or]; exact ⟨(Ne.symm (sok hidk (by unfold apart; decide)).2.2.2.1), (Ne.symm (sok hidk (by unfold apart; decide)).2.2.2.1), (Ne.symm (sok hidk (by unfold apart; decide)).2.2.2.1)⟩) (k77 hidk).2.2.1 ho_k), (f_H2.at (by simp only [List.mem_cons, List.not_mem_nil, or_false, not_or]; exact ⟨(Ne.symm (sok hidk (by unfold apart; decide)).2.2.1), (Ne.symm (sok hidk (by unfold apart; decide)).2.2.1), (Ne.symm (sok hidk (by unfold apart; decide)).2.2.1)⟩) (k77 hidk).2.1 hf_k), (f_H2.at (by simp only [List.mem_cons, List.not_mem_nil, or_false, not_or]; exact ⟨(Ne.symm (sok hidk (by unfold apart; decide)).2.2.2.2), (Ne.symm (sok hidk (by unfold apart; decide)).2.2.2.2), (Ne.symm (sok hidk (by unfold apart; decide)).2.2.2.2)⟩) (k77 hidk).2.2.2 hg_k), efk, egk⟩ (by omega) (by omega) (hd := by omega)) (fun H4 r5 => ?_)
    obtain ⟨F_H4, G_H4, y_H4, f_H4⟩ := r5
    obtain ⟨i_H4, a1_H4, a2_H4, a3_H4, a4_H4, a5_H4, a6_H4, a7_H4⟩ := y_H4
    refine E_run hk 1 (j' := 16) (lv' := [(0, .ref 28)]) (st' := [.ref 28]) (hp' := H4) rfl ?_
    refine E_get (v := .ref 29) hk rfl (f_H4.at (by simp only [List.mem_cons, List.not_mem_nil, or_false, not_or]; exact ⟨(by decide), (sok i_H4 (by unfold apart; decide)).2.1, (sok i_H4 (by unfold apart; decide)).2.2.1, (sok i_H4 (by unfold apart; decide)).2.2.2.1, (sok i_H4 (by unfold apart; decide)).2.2.2.2⟩) e28_H2) rfl ?_
    refine Y_callP hk rfl (as := [.ref 29]) (rest := []) (v := some (yi (K 0 + K 1))) rfl rfl (Nat.le_of_ble_eq_true rfl) (rcv0 a1_H4) (Nat.le_of_ble_eq_true rfl) (c_X5_bothLengths ⟨i_H4, a1_H4, a2_H4, a3_H4, a4_H4, a5_H4, a6_H4, a7_H4⟩ (by omega)) ?_
    exact E_ret hk rfl rfl (Or.inl ⟨_, rfl, Or.inl ⟨rfl, by omega, rfl, (f_H4.at (by simp only [List.mem_cons, List.not_mem_nil, or_false, not_or]; exact ⟨(by decide), (sok i_H4 (by unfold apart; decide)).2.1, (sok i_H4 (by unfold apart; decide)).2.2.1, (sok i_H4 (by unfold apart; decide)).2.2.2.1, (sok i_H4 (by unfold apart; decide)).2.2.2.2⟩) e28_H2), fun U hU => (sv_H2 U hU).fr (Nat.le_trans hN f_H2.1) (show yfr [29, z, (z + 1), o, (o + 1)] H2 H4 from f_H4) (fun i hi => ((kNow_mem i_H4) i (by simpa using hi)).2), F_H4, G_H4, ⟨i_H4, a1_H4, a2_H4, a3_H4, a4_H4, a5_H4, a6_H4, a7_H4⟩⟩, (f_H2.mono (by decide)).fr2 (show yfr [29, z, (z + 1), o, (o + 1)] H2 H4 from f_H4) (fun i hi => ((kNow_mem i_H4) i (by simpa using hi)).1)⟩)
  ·
    exact E_throw (by omega) hk rfl (Nat.le_of_ble_eq_true rfl) (Or.inr ⟨2, rfl, Or.inr ⟨rfl, by omega, rfl⟩, (yfz.bare hp).mono (by simp)⟩)
theorem c_X8_append {d : Nat} {hp : xH} {kp cl od : Int} (h28 : xat hp 28 = some (.inr (8, [.ref 29, .ref 34, .ref 35, yi kp, .ref 40, yi cl, .ref 41, .ref 43, yi od, .ref 56, .ref 58]))) {Y : Int → Int} (h40 : xat hp 40 = some (yI 60 Y)) (hcl : 0 ≤ cl ∧ cl ≤ 60) {x : Int} (hx : -2147483648 ≤ x ∧ x ≤ 2147483647) (hd : 5 ≤ d) : Cv d 80 [.ref 28, yi x] hp (yA (fun e y9 h => ((e = none ∧ (33 ≤ x ∧ x ≤ 126 ∧ cl < 60) ∧ y9 = cl + 1 ∧ xat h 28 = some (.inr (8, [.ref 29, .ref 34, .ref 35, yi kp, .ref 40, yi (cl + 1), .ref 41, .ref 43, yi od, .ref 56, .ref 58])) ∧ xat h 40 = some (yI 60 (up Y cl x))) ∨ (e = some 1 ∧ ¬ (33 ≤ x ∧ x ≤ 126) ∧ h = xbare hp 6) ∨ (e = some 2 ∧ (33 ≤ x ∧ x ≤ 126 ∧ cl = 60) ∧ h = xbare hp 6)) ∧ yfz [28, 40] hp h)) := by
  have hk : xtab 80 = (xc_80, 2, 1, []) := rfl
  obtain ⟨d, rfl⟩ : ∃ e, d = e + 1 := ⟨d - 1, by omega⟩
  show Ev (d + 1) 80 0 [(0, .ref 28), (1, yi x)] [] hp _
  refine E_run hk 3 (j' := 3) (lv' := [(0, .ref 28), (1, yi x)]) (st' := [yi 126, yi 33, yi x]) (hp' := hp) rfl ?_
  refine Y_callT hk rfl (as := [yi x, yi 33, yi 126]) (rest := []) (v := none) rfl rfl (Nat.le_of_ble_eq_true rfl) rfl (Nat.le_of_ble_eq_true rfl) (c_X8_checkRange (v := x) (l := 33) (m := 126) (by omega) (hd := by omega)) (fun g1 => ?_) rfl (fun g1 => ?_)
  rotate_left
  · exact Or.inr ⟨1, rfl, Or.inr (Or.inl ⟨rfl, by omega, rfl⟩), (yfz.bare hp).mono (by simp)⟩
  refine E_run hk 1 (j' := 5) (lv' := [(0, .ref 28), (1, yi x)]) (st' := [.ref 28]) (hp' := hp) rfl ?_
  refine E_get (v := yi cl) hk rfl h28 rfl ?_
  refine Y_if_lt (a := cl) (by omega) hk rfl (fun g2 => ?_) (fun g2 => ?_)
  · exfalso; omega
  ·
    refine E_run hk 1 (j' := 8) (lv' := [(0, .ref 28), (1, yi x)]) (st' := [.ref 28]) (hp' := hp) rfl ?_
    refine E_get (v := yi cl) hk rfl h28 rfl ?_
    refine E_run hk 1 (j' := 10) (lv' := [(0, .ref 28), (1, yi x)]) (st' := [.ref 28, yi cl]) (hp' := hp) rfl ?_
    refine E_get (v := .ref 40) hk rfl h28 rfl ?_
    refine Y_alen (by decide) hk rfl h40 ?_
    refine Y_ic_lt (a := cl) (b := 60) (by omega) hk rfl (fun g3 => ?_) (fun g3 => ?_)
    ·
      refine E_run hk 1 (j' := 19) (lv' := [(0, .ref 28), (1, yi x)]) (st' := [.ref 28]) (hp' := hp) rfl ?_
      refine E_get (v := .ref 40) hk rfl h28 rfl ?_
      refine E_run hk 1 (j' := 21) (lv' := [(0, .ref 28), (1, yi x)]) (st' := [.ref 28, .ref 40]) (hp' := hp) rfl ?_
      refine E_get (v := yi cl) hk rfl h28 rfl ?_
      refine E_run hk 1 (j' := 23) (lv' := [(0, .ref 28), (1, yi x)]) (st' := [yi x, yi cl, .ref 40]) (hp' := hp) rfl ?_
      refine Y_iast (a := cl) (x := x) (by omega) (by decide) (by decide) hk rfl h40 (fun H4 e5 f6 => ?_)
      refine E_run hk 2 (j' := 26) (lv' := [(0, .ref 28), (1, yi x)]) (st' := [.ref 28, .ref 28]) (hp' := H4) rfl ?_
      refine E_get (v := yi cl) hk rfl (f6.at (by decide) h28) rfl ?_
      refine E_run hk 1 (j' := 28) (lv' := [(0, .ref 28), (1, yi x)]) (st' := [yi 1, yi cl, .ref 28]) (hp' := H4) rfl ?_
      refine Y_iadd (a := cl) (b := 1) hk rfl ?_
      refine Y_put hk rfl (f6.at (by decide) h28) (by decide) (Nat.le_of_ble_eq_true rfl) rfl (fs' := [.ref 29, .ref 34, .ref 35, yi kp, .ref 40, yi (cl + 1), .ref 41, .ref 43, yi od, .ref 56, .ref 58]) rfl (fun H7 e8 f9 => ?_)
      refine E_run hk 1 (j' := 31) (lv' := [(0, .ref 28), (1, yi x)]) (st' := [.ref 28]) (hp' := H7) rfl ?_
      refine E_get (v := yi (cl + 1)) hk rfl e8 rfl ?_
      exact E_ret hk rfl rfl (Or.inl ⟨_, rfl, Or.inl ⟨rfl, by omega, rfl, e8, (f9.at (by decide) e5)⟩, yfz.of_fr (yfr.tr (f6.mono (by decide)) f9 (fun _ h => h) (by decide))⟩)
    ·
      exact E_throw (by omega) hk rfl (Nat.le_of_ble_eq_true rfl) (Or.inr ⟨2, rfl, Or.inr (Or.inr ⟨rfl, by omega, rfl⟩), (yfz.bare hp).mono (by simp)⟩)
theorem c_X8_clearBuffer {d : Nat} {hp : xH} {kp cl od : Int} (h28 : xat hp 28 = some (.inr (8, [.ref 29, .ref 34, .ref 35, yi kp, .ref 40, yi cl, .ref 41, .ref 43, yi od, .ref 56, .ref 58]))) : Cv d 81 [.ref 28] hp (yR (some (yi cl)) (fun h => xat h 28 = some (.inr (8, [.ref 29, .ref 34, .ref 35, yi kp, .ref 40, yi 0, .ref 41, .ref 43, yi od, .ref 56, .ref 58])) ∧ yfr [28] hp h)) := by
  have hk : xtab 81 = (xc_81, 2, 1, []) := rfl
  show Ev d 81 0 [(0, .ref 28)] [] hp _
  refine E_run hk 1 (j' := 1) (lv' := [(0, .ref 28)]) (st' := [.ref 28]) (hp' := hp) rfl ?_
  refine E_get (v := yi cl) hk rfl h28 rfl ?_
  refine E_run hk 3 (j' := 5) (lv' := [(1, yi cl), (0, .ref 28)]) (st' := [yi 0, .ref 28]) (hp' := hp) rfl ?_
  refine Y_put hk rfl h28 (by decide) (Nat.le_of_ble_eq_true rfl) rfl (fs' := [.ref 29, .ref 34, .ref 35, yi kp, .ref 40, yi 0, .ref 41, .ref 43, yi od, .ref 56, .ref 58]) rfl (fun H1 e2 f3 => ?_)
  refine E_run hk 1 (j' := 7) (lv' := [(1, yi cl), (0, .ref 28)]) (st' := [yi cl]) (hp' := H1) rfl ?_
  exact E_ret hk rfl rfl ⟨rfl, e2, f3⟩
