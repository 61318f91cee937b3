/-! The class: undo, keep, restore, append, clearBuffer. -/
theorem c_undoA {d : Nat} {hp : xH} {kp cl od : Int} (h28 : xat hp 28 = some (.inr (8, [.ref 29, .ref 34, .ref 35, yi kp, .ref 40, yi cl, .ref 41, .ref 43, yi od, .ref 56, .ref 58]))) {mc n : Int} {e : Nat} (h34 : xat hp 34 = some (.inr (0, [yi mc, .ref e, yi n]))) (hn : n = 0) (hd : 4 ≤ d) : Cv d 62 [.ref 28] hp (yA (fun e y9 h => e = some 2 ∧ h = xbare hp 6)) := by
  have hk : xtab 62 = (xc_62, 1, 1, []) := rfl
  obtain ⟨d, rfl⟩ : ∃ e, d = e + 1 := ⟨d - 1, by omega⟩
  show Ev (d + 1) 62 0 [(0, .ref 28)] [] hp _
  refine E_run hk 1 (j' := 1) (lv' := [(0, .ref 28)]) (st' := [.ref 28]) (hp' := hp) rfl ?_
  refine E_get (v := .ref 34) hk rfl h28 rfl ?_
  refine Y_callP hk rfl (as := [.ref 34]) (rest := []) (v := some (yi (b2 (n = 0)))) rfl rfl (Nat.le_of_ble_eq_true rfl) (rcv0 h34) (Nat.le_of_ble_eq_true rfl) (c_Jx4a65c_isEmpty_aae02 h34 (by omega)) ?_
  refine Y_b_eq hk rfl (fun g1 => ?_) (fun g1 => ?_)
  · exfalso; omega
  ·
    exact E_throw (by omega) hk rfl (Nat.le_of_ble_eq_true rfl) (Or.inr ⟨2, rfl, rfl, rfl⟩)
theorem c_undoB {d : Nat} {hp : xH} {kp cl od : Int} (h28 : xat hp 28 = some (.inr (8, [.ref 29, .ref 34, .ref 35, yi kp, .ref 40, yi cl, .ref 41, .ref 43, yi od, .ref 56, .ref 58]))) {z o : Nat} {S f g : Int → Int} {r t : Int} (hS : yS hp 29 z o S f g r t) {mc n : Int} {e : Nat} {F : Nat → Value} (h34 : xat hp 34 = some (.inr (0, [yi mc, .ref e, yi n]))) (hF : xat hp e = some (yO 10 F)) (he : 63 ≤ e) (hn : 1 ≤ n ∧ n ≤ 6) (hSX : ∀ q : Nat, (q : Int) < n → ∃ b fs, F q = .ref b ∧ xat hp b = some (.inr (6, fs)) ∧ b ≠ 34 ∧ b ≠ e) {b : Nat} {S0 f0 g0 : Int → Int} {r0 t0 : Int} (hSb : yS hp b (b + 1) (b + 3) S0 f0 g0 r0 t0) (hb : F (n - 1).toNat = .ref b) (hb7 : 63 ≤ b) (heb : e < b ∨ b + 5 ≤ e) (hl0 : 0 ≤ S0 0 ∧ S0 0 ≤ 20 ∧ 0 ≤ S0 1 ∧ S0 1 ≤ 20) (hd : 4 ≤ d) : Cv d 62 [.ref 28] hp (yR (some (yi (n - 1))) (fun h => ∃ F2, xat h 34 = some (.inr (0, [yi (mc + 1), .ref e, yi (n - 1)])) ∧ xat h e = some (yO 10 F2) ∧ (∀ q : Nat, (q : Int) < n - 1 → F2 q = F q) ∧ (∃ f3 g3, yS h 29 z o S0 f3 g3 r0 t0) ∧ xat h 28 = some (.inr (8, [.ref 29, .ref 34, .ref 35, yi kp, .ref 40, yi cl, .ref 41, .ref 43, yi 1, .ref 56, .ref 58])) ∧ yfr [28, 34, e, 29, z, (z + 1), o, (o + 1)] hp h)) := by
  have hk : xtab 62 = (xc_62, 1, 1, []) := rfl
  obtain ⟨d, rfl⟩ : ∃ e, d = e + 1 := ⟨d - 1, by omega⟩
  obtain ⟨hid, hs_, hz_, ho_, hf_, hg_, ef, eg⟩ := hS
  obtain ⟨hidb, hs_b, hz_b, ho_b, hf_b, hg_b, efb, egb⟩ := hSb
  show Ev (d + 1) 62 0 [(0, .ref 28)] [] hp _
  refine E_run hk 1 (j' := 1) (lv' := [(0, .ref 28)]) (st' := [.ref 28]) (hp' := hp) rfl ?_
  refine E_get (v := .ref 34) hk rfl h28 rfl ?_
  refine Y_callP hk rfl (as := [.ref 34]) (rest := []) (v := some (yi (b2 (n = 0)))) rfl rfl (Nat.le_of_ble_eq_true rfl) (rcv0 h34) (Nat.le_of_ble_eq_true rfl) (c_Jx4a65c_isEmpty_aae02 h34 (by omega)) ?_
  refine Y_b_eq hk rfl (fun g1 => ?_) (fun g1 => ?_)
  ·
    refine E_run hk 1 (j' := 10) (lv' := [(0, .ref 28)]) (st' := [.ref 28]) (hp' := hp) rfl ?_
    refine E_get (v := .ref 29) hk rfl h28 rfl ?_
    refine E_run hk 1 (j' := 12) (lv' := [(0, .ref 28)]) (st' := [.ref 28, .ref 29]) (hp' := hp) rfl ?_
    refine E_get (v := .ref 34) hk rfl h28 rfl ?_
    refine E_run hk 1 (j' := 14) (lv' := [(0, .ref 28)]) (st' := [.ref 28, .ref 34, .ref 29]) (hp' := hp) rfl ?_
    refine E_get (v := .ref 34) hk rfl h28 rfl ?_
    refine Y_callP hk rfl (as := [.ref 34]) (rest := [.ref 34, .ref 29]) (v := some (yi n)) rfl rfl (Nat.le_of_ble_eq_true rfl) (rcv0 h34) (Nat.le_of_ble_eq_true rfl) (c_Jx4a65c_size_8abf5 h34) ?_
    refine E_run hk 1 (j' := 17) (lv' := [(0, .ref 28)]) (st' := [yi 1, yi n, .ref 34, .ref 29]) (hp' := hp) rfl ?_
    refine Y_isub (a := n) (b := 1) hk rfl ?_
    refine Y_call hk rfl (as := [.ref 34, yi (n - 1)]) (rest := [.ref 29]) (v := some (.ref b)) rfl rfl (Nat.le_of_ble_eq_true rfl) (rcv0 h34) (Nat.le_of_ble_eq_true rfl) (c_Jx4a65c_remove_915e3 (i := (n - 1)) h34 hF he (by omega) hb hSX (hd := by omega)) (fun H2 r3 => ?_)
    obtain ⟨F_H2, e1_H2, e2_H2, a_H2, b_H2, f_H2⟩ := r3
    refine Y_cast hk rfl (f_H2.at (by simp only [List.mem_cons, List.not_mem_nil, or_false, not_or]; exact ⟨(Ne.symm (sok hidb (by unfold apart; omega)).1), (Ne.symm (sok hidb (by unfold apart; omega)).1)⟩) hs_b) ?_
    refine Y_call hk rfl (as := [.ref 29, .ref b]) (rest := []) (v := none) rfl rfl (Nat.le_of_ble_eq_true rfl) (rcv0 (f_H2.at (by simp only [List.mem_cons, List.not_mem_nil, or_false, not_or]; exact ⟨(by decide), (Ne.symm (sok hid (by unfold apart; omega)).1)⟩) hs_)) (Nat.le_of_ble_eq_true rfl) (c_X5_copyFrom ⟨hid, (f_H2.at (by simp only [List.mem_cons, List.not_mem_nil, or_false, not_or]; exact ⟨(by decide), (Ne.symm (sok hid (by unfold apart; omega)).1)⟩) hs_), (f_H2.at (by simp only [List.mem_cons, List.not_mem_nil, or_false, not_or]; exact ⟨(Ne.symm (sok hid (by unfold apart; omega)).2.1), (Ne.symm (sok hid (by unfold apart; omega)).2.1)⟩) hz_), (f_H2.at (by simp only [List.mem_cons, List.not_mem_nil, or_false, not_or]; exact ⟨(Ne.symm (sok hid (by unfold apart; omega)).2.2.2.1), (Ne.symm (sok hid (by unfold apart; omega)).2.2.2.1)⟩) ho_), (f_H2.at (by simp only [List.mem_cons, List.not_mem_nil, or_false, not_or]; exact ⟨(Ne.symm (sok hid (by unfold apart; omega)).2.2.1), (Ne.symm (sok hid (by unfold apart; omega)).2.2.1)⟩) hf_), (f_H2.at (by simp only [List.mem_cons, List.not_mem_nil, or_false, not_or]; exact ⟨(Ne.symm (sok hid (by unfold apart; omega)).2.2.2.2), (Ne.symm (sok hid (by unfold apart; omega)).2.2.2.2)⟩) hg_), ef, eg⟩ ⟨hidb, (f_H2.at (by simp only [List.mem_cons, List.not_mem_nil, or_false, not_or]; exact ⟨(Ne.symm (sok hidb (by unfold apart; omega)).1), (Ne.symm (sok hidb (by unfold apart; omega)).1)⟩) hs_b), (f_H2.at (by simp only [List.mem_cons, List.not_mem_nil, or_false, not_or]; exact ⟨(Ne.symm (sok hidb (by unfold apart; omega)).2.1), (Ne.symm (sok hidb (by unfold apart; omega)).2.1)⟩) hz_b), (f_H2.at (by simp only [List.mem_cons, List.not_mem_nil, or_false, not_or]; exact ⟨(Ne.symm (sok hidb (by unfold apart; omega)).2.2.2.1), (Ne.symm (sok hidb (by unfold apart; omega)).2.2.2.1)⟩) ho_b), (f_H2.at (by simp only [List.mem_cons, List.not_mem_nil, or_false, not_or]; exact ⟨(Ne.symm (sok hidb (by unfold apart; omega)).2.2.1), (Ne.symm (sok hidb (by unfold apart; omega)).2.2.1)⟩) hf_b), (f_H2.at (by simp only [List.mem_cons, List.not_mem_nil, or_false, not_or]; exact ⟨(Ne.symm (sok hidb (by unfold apart; omega)).2.2.2.2), (Ne.symm (sok hidb (by unfold apart; omega)).2.2.2.2)⟩) hg_b), efb, egb⟩ (by omega) (by omega) (hd := by omega)) (fun H4 r5 => ?_)
    obtain ⟨F_H4, G_H4, y_H4, f_H4⟩ := r5
    obtain ⟨i_H4, a1_H4, a2_H4, a3_H4, a4_H4, a5_H4, a6_H4, a7_H4⟩ := y_H4
    refine E_run hk 2 (j' := 23) (lv' := [(0, .ref 28)]) (st' := [yi 1, .ref 28]) (hp' := H4) rfl ?_
    refine Y_put hk rfl (f_H4.at (by simp only [List.mem_cons, List.not_mem_nil, or_false, not_or]; exact ⟨(by decide), (sok i_H4 (by unfold apart; omega)).2.1, (sok i_H4 (by unfold apart; omega)).2.2.1, (sok i_H4 (by unfold apart; omega)).2.2.2.1, (sok i_H4 (by unfold apart; omega)).2.2.2.2⟩) (f_H2.at (by simp only [List.mem_cons, List.not_mem_nil, or_false, not_or]; exact ⟨(by decide), (by omega)⟩) h28)) (by decide) (Nat.le_of_ble_eq_true rfl) rfl (fs' := [.ref 29, .ref 34, .ref 35, yi kp, .ref 40, yi cl, .ref 41, .ref 43, yi 1, .ref 56, .ref 58]) rfl (fun H6 e7 f8 => ?_)
    refine E_run hk 1 (j' := 25) (lv' := [(0, .ref 28)]) (st' := [.ref 28]) (hp' := H6) rfl ?_
    refine E_get (v := .ref 34) hk rfl e7 rfl ?_
    refine Y_callP hk rfl (as := [.ref 34]) (rest := []) (v := some (yi (n - 1))) rfl rfl (Nat.le_of_ble_eq_true rfl) (rcv0 (f8.at (by decide) (f_H4.at (by simp only [List.mem_cons, List.not_mem_nil, or_false, not_or]; exact ⟨(by decide), (sok i_H4 (by unfold apart; omega)).2.1, (sok i_H4 (by unfold apart; omega)).2.2.1, (sok i_H4 (by unfold apart; omega)).2.2.2.1, (sok i_H4 (by unfold apart; omega)).2.2.2.2⟩) e1_H2))) (Nat.le_of_ble_eq_true rfl) (c_Jx4a65c_size_8abf5 (f8.at (by decide) (f_H4.at (by simp only [List.mem_cons, List.not_mem_nil, or_false, not_or]; exact ⟨(by decide), (sok i_H4 (by unfold apart; omega)).2.1, (sok i_H4 (by unfold apart; omega)).2.2.1, (sok i_H4 (by unfold apart; omega)).2.2.2.1, (sok i_H4 (by unfold apart; omega)).2.2.2.2⟩) e1_H2))) ?_
    exact E_ret hk rfl rfl ⟨rfl, _, (f8.at (by decide) (f_H4.at (by simp only [List.mem_cons, List.not_mem_nil, or_false, not_or]; exact ⟨(by decide), (sok i_H4 (by unfold apart; omega)).2.1, (sok i_H4 (by unfold apart; omega)).2.2.1, (sok i_H4 (by unfold apart; omega)).2.2.2.1, (sok i_H4 (by unfold apart; omega)).2.2.2.2⟩) e1_H2)), (f8.at (by simp only [List.mem_cons, List.not_mem_nil, or_false, not_or]; exact (by omega)) (f_H4.at (by simp only [List.mem_cons, List.not_mem_nil, or_false, not_or]; exact ⟨(sok i_H4 (by unfold apart; omega)).1, (sok i_H4 (by unfold apart; omega)).2.1, (sok i_H4 (by unfold apart; omega)).2.2.1, (sok i_H4 (by unfold apart; omega)).2.2.2.1, (sok i_H4 (by unfold apart; omega)).2.2.2.2⟩) e2_H2)), fun q q1 => a_H2 q q1, ⟨F_H4, G_H4, ⟨i_H4, (f8.at (by decide) a1_H4), (f8.at (by simp only [List.mem_cons, List.not_mem_nil, or_false, not_or]; exact (Ne.symm (sok i_H4 (by unfold apart; omega)).2.1)) a2_H4), (f8.at (by simp only [List.mem_cons, List.not_mem_nil, or_false, not_or]; exact (Ne.symm (sok i_H4 (by unfold apart; omega)).2.2.2.1)) a3_H4), (f8.at (by simp only [List.mem_cons, List.not_mem_nil, or_false, not_or]; exact (Ne.symm (sok i_H4 (by unfold apart; omega)).2.2.1)) a4_H4), (f8.at (by simp only [List.mem_cons, List.not_mem_nil, or_false, not_or]; exact (Ne.symm (sok i_H4 (by unfold apart; omega)).2.2.2.2)) a5_H4), a6_H4, a7_H4⟩⟩, e7, (yfr.tr (yfr.tr (f_H2.mono (by simp)) f_H4 (fun _ h => h) (by simp)) f8 (fun _ h => h) (by simp))⟩
  · exfalso; omega
theorem c_X8_undo {d : Nat} {hp : xH} {kp cl od : Int} (h28 : xat hp 28 = some (.inr (8, [.ref 29, .ref 34, .ref 35, yi kp, .ref 40, yi cl, .ref 41, .ref 43, yi od, .ref 56, .ref 58]))) {z o : Nat} {S f g : Int → Int} {r t : Int} (hS : yS hp 29 z o S f g r t) (hN : 63 ≤ hp.1) {n : Int} {T : Int → Int} (hv : ySv hp n T) (hn6 : 0 ≤ n ∧ n ≤ 6) (hd : 4 ≤ d) : Cv d 62 [.ref 28] hp (yA (fun e y9 h => ((e = none ∧ 1 ≤ n ∧ y9 = n - 1 ∧ xat h 28 = some (.inr (8, [.ref 29, .ref 34, .ref 35, yi kp, .ref 40, yi cl, .ref 41, .ref 43, yi 1, .ref 56, .ref 58])) ∧ ySv h (n - 1) T ∧ okS (slc T (n - 1).toNat) ∧ ∃ f2 g2 r2 t2, yS h 29 z o (slc T (n - 1).toNat) f2 g2 r2 t2 ∧ ystp (slc T (n - 1).toNat) r2 t2) ∨ (e = some 2 ∧ n = 0 ∧ h = xbare hp 6)) ∧ yfz kNow hp h)) := by
  obtain ⟨mc, e, F, bs, a1, a2, a3, a4⟩ := hv
  by_cases h0 : n = 0
  · refine Ev.imp (c_undoA h28 a1 h0 (hd := hd)) (fun o h q => ?_)
    rcases q with ⟨z9, q1, q2, q3⟩ | ⟨E, q1, q2, q3⟩
    · cases q2
    · refine Or.inr ⟨E, q1, Or.inr ⟨q2, h0, q3⟩, ?_⟩
      rw [q3]
      exact (yfz.bare hp).mono (by simp)
  · rcases a2 with ⟨b1, b2⟩ | ⟨b1, b2, b3⟩
    · exact absurd b2 h0
    · obtain ⟨c1, c2, c3, c4, c5, f0, g0, r0, t0, c6, c7⟩ := a3 (n - 1).toNat (by omega)
      have hX : ∀ q : Nat, (q : Int) < n → ∃ (b : Nat) (fs : List Value), F q = .ref b ∧ xat hp b = some (.inr (6, fs)) ∧ b ≠ 34 ∧ b ≠ e := fun q hq => by
        obtain ⟨d1, d2, d3, d4, d5, f1, g1, r1, t1, d6, d7⟩ := a3 q hq
        exact ⟨bs q, _, d1, d6.2.1, by omega, by omega⟩
      have c51 := c5.1
      have hid := hS.1
      refine Ev.imp (c_undoB h28 hS a1 b3 b1 (by omega) hX c6 c1 c2 c4 (by omega) (hd := hd)) (fun o9 h q => ?_)
      obtain ⟨q1, F2, q2, q3, q4, ⟨f3, g3, q6⟩, q7, q8⟩ := q
      have hh := q8.1
      have w := s77 hid
      have fr : ∀ i, 63 ≤ i → i ≠ e → xat h i = xat hp i := fun i i1 i2 => q8.2.2 i (by simp only [List.mem_cons, List.not_mem_nil, or_false, not_or]; omega)
      refine Or.inl ⟨n - 1, q1, Or.inl ⟨rfl, by omega, rfl, q7, ?_, c5, f3, g3, r0, t0, q6, c7⟩, by omega, by omega, by rw [q8.2.1]; omega, fun i i1 i2 => q8.2.2 i ?_, fun i0 => absurd (by unfold kNow; decide) i0⟩
      · refine ⟨mc + 1, e, F2, bs, q2, Or.inr ⟨b1, by omega, q3⟩, fun i hi => ?_, fun i j hi hj hij => a4 i j (by omega) (by omega) hij⟩
        obtain ⟨d1, d2, d3, d4, d5, f1, g1, r1, t1, d6, d7⟩ := a3 i (by omega)
        exact ⟨(q4 i hi).trans d1, d2, by omega, d4, d5, f1, g1, r1, t1, d6.at2 (fun k k1 k2 => fr k (by omega) (by omega)), d7⟩
      · intro m
        simp only [List.mem_cons, List.not_mem_nil, or_false] at m
        rcases m with m | m | m | m | m | m | m | m
        · exact i2 (by unfold kNow; rw [m]; decide)
        · exact i2 (by unfold kNow; rw [m]; decide)
        · omega
        all_goals exact i2 (kNow_mem hid i (by omega)).1
theorem k77 {z o : Nat} (h : stid 35 z o) : z < 63 ∧ z + 1 < 63 ∧ o < 63 ∧ o + 1 < 63 := by
  unfold stid at h
  omega
