/-! firstError and work. -/
theorem rds_full {X : Int → Int} {n z : Int} {s sE : rS} (h : rdsto X n z s) (hE : tks X n.toNat 0 s = some sE) : z = n := by
  obtain ⟨z0, zn, s1, t1, h⟩ := h
  rcases h with h | ⟨h1, h2⟩
  · exact h
  · have w := tks_none t1 hE (by omega)
    rw [show (0 : Int) + (z.toNat : Int) = z by omega] at w
    exact absurd h2 w
theorem rds_one {X : Int → Int} {n z y : Int} {s : rS} (h : rdsto X n z s) (g : rdsto X n y s) : z = y := by
  obtain ⟨z0, zn, s1, t1, h⟩ := h
  obtain ⟨y0, yn, s2, t2, g⟩ := g
  by_cases k : z < y
  · have w := tks_none t1 t2 (by omega)
    rw [show (0 : Int) + (z.toNat : Int) = z by omega] at w
    rcases h with h | ⟨h1, h2⟩
    · omega
    · exact absurd h2 w
  · by_cases k2 : y < z
    · have w := tks_none t2 t1 (by omega)
      rw [show (0 : Int) + (y.toNat : Int) = y by omega] at w
      rcases g with g | ⟨g1, g2⟩
      · omega
      · exact absurd g2 w
    · omega
def yX (E : Nat) (R : xH → Prop) : xO → xH → Prop := fun o h => o = .inr E ∧ R h
theorem yfz.fr0 {K K1 : List Nat} {h h1 h2 : xH} (a : yfr K1 h h1) (b : yfz K h1 h2) (hK : ∀ i ∈ K1, i ∈ K) : yfz K h h2 := by
  obtain ⟨a1, a2, a3⟩ := a
  obtain ⟨b1, b2, b3, b4, b5⟩ := b
  exact ⟨by omega, by omega, by omega, fun i i1 i2 => (b4 i i1 i2).trans (a3 i (fun q => i2 (hK i q))), fun i0 i i1 i2 i3 => (b5 i0 i i1 (by omega) i3).trans (a3 i (fun q => i3 (hK i q)))⟩
theorem c_X8_firstError {d : Nat} {hp : xH} {kp cl od : Int} (h28 : xat hp 28 = some (.inr (8, [.ref 29, .ref 34, .ref 35, yi kp, .ref 40, yi cl, .ref 41, .ref 43, yi od, .ref 56, .ref 58]))) {Y : Int → Int} (h40 : xat hp 40 = some (yI 60 Y)) (hcl : 0 ≤ cl ∧ cl ≤ 60) (hY : ∀ q, 0 ≤ q → q < cl → 33 ≤ Y q ∧ Y q ≤ 126) {s : rS} (hr : rdr hp s) (hok : okR s) (hC : yC hp) (hd : 9 ≤ d) : Cv d 82 [.ref 28] hp (yE (fun z h => rdsto Y cl z s.beg ∧ (∃ s2, okR s2 ∧ rdr h s2 ∧ (z = cl → tks Y cl.toNat 0 s.beg = some s2)) ∧ yfr [41, 42] hp h)) := by
  have hk : xtab 82 = (xc_82, 1, 1, []) := rfl
  obtain ⟨d, rfl⟩ : ∃ e, d = e + 1 := ⟨d - 1, by omega⟩
  show Ev (d + 1) 82 0 [(0, .ref 28)] [] hp _
  refine E_run hk 1 (j' := 1) (lv' := [(0, .ref 28)]) (st' := [.ref 28]) (hp' := hp) rfl ?_
  refine Y_callE hk rfl (as := [.ref 28]) (rest := []) rfl rfl (Nat.le_of_ble_eq_true rfl) (rcv0 h28) (Nat.le_of_ble_eq_true rfl) (c_X8_readUpToError h28 h40 (by omega) hY (s := s) ⟨hr.1, hr.2⟩ hok hC (hd := by omega)) (fun z1 H2 r3 => ?_)
  obtain ⟨rd_H2, ⟨s_H2, ok_H2, ⟨a_H2, b_H2⟩, fu_H2⟩, f_H2⟩ := r3
  have zr_H2 := And.intro rd_H2.1 rd_H2.2.1
  exact E_ret hk rfl rfl ⟨_, rfl, rd_H2, ⟨s_H2, ok_H2, ⟨a_H2, b_H2⟩, fu_H2⟩, f_H2⟩
theorem c_workBad {d : Nat} {hp : xH} {kp cl od : Int} (h28 : xat hp 28 = some (.inr (8, [.ref 29, .ref 34, .ref 35, yi kp, .ref 40, yi cl, .ref 41, .ref 43, yi od, .ref 56, .ref 58]))) {Y : Int → Int} (h40 : xat hp 40 = some (yI 60 Y)) (hcl : 0 ≤ cl ∧ cl ≤ 60) (hY : ∀ q, 0 ≤ q → q < cl → 33 ≤ Y q ∧ Y q ≤ 126) {s : rS} (hr : rdr hp s) (hok : okR s) (hC : yC hp) (hb : ¬ ∃ sE, tks Y cl.toNat 0 s.beg = some sE ∧ (sE.p = 4 ∨ sE.p = 5)) (hd : 9 ≤ d) : Cv d 83 [.ref 28] hp (yX 1 (fun h => (∃ s2, okR s2 ∧ rdr h s2) ∧ yfz [41, 42] hp h)) := by
  have hk : xtab 83 = (xc_83, 2, 1, []) := rfl
  obtain ⟨d, rfl⟩ : ∃ e, d = e + 1 := ⟨d - 1, by omega⟩
  show Ev (d + 1) 83 0 [(0, .ref 28)] [] hp _
  refine E_run hk 1 (j' := 1) (lv' := [(0, .ref 28)]) (st' := [.ref 28]) (hp' := hp) rfl ?_
  refine Y_callE hk rfl (as := [.ref 28]) (rest := []) rfl rfl (Nat.le_of_ble_eq_true rfl) (rcv0 h28) (Nat.le_of_ble_eq_true rfl) (c_X8_readUpToError h28 h40 (by omega) hY (s := s) ⟨hr.1, hr.2⟩ hok hC (hd := by omega)) (fun z1 H2 r3 => ?_)
  obtain ⟨rd_H2, ⟨s_H2, ok_H2, ⟨a_H2, b_H2⟩, fu_H2⟩, f_H2⟩ := r3
  have zr_H2 := And.intro rd_H2.1 rd_H2.2.1
  refine E_run hk 1 (j' := 3) (lv' := [(0, .ref 28)]) (st' := [.ref 28, yi z1]) (hp' := H2) rfl ?_
  refine E_get (v := yi cl) hk rfl (f_H2.at (by decide) h28) rfl ?_
  refine Y_ic_lt (a := z1) (b := cl) (by omega) hk rfl (fun g4 => ?_) (fun g4 => ?_)
  ·
    exact E_throw (by omega) hk rfl (Nat.le_of_ble_eq_true rfl) ⟨rfl, ⟨s_H2, ok_H2, a_H2, b_H2⟩, yfz.frb f_H2⟩
  ·
    have ok9_H2 := ok_H2.2.2.1
    have ok8_H2 := ok_H2.2.2.2.1
    have hb9 : ¬ (s_H2.p = 4 ∨ s_H2.p = 5) := fun w9 => hb ⟨_, fu_H2 (by omega), w9⟩
    refine E_run hk 1 (j' := 6) (lv' := [(0, .ref 28)]) (st' := [.ref 28]) (hp' := H2) rfl ?_
    refine E_get (v := .ref 41) hk rfl (f_H2.at (by decide) h28) rfl ?_
    refine Y_callP hk rfl (as := [.ref 41]) (rest := []) (v := some (yi (b2 (s_H2.p = 4 ∨ s_H2.p = 5)))) rfl rfl (Nat.le_of_ble_eq_true rfl) (rcv0 a_H2) (Nat.le_of_ble_eq_true rfl) (c_X4_isComplete a_H2 (by omega)) ?_
    refine Y_b_ne hk rfl (fun g5 => ?_) (fun g5 => ?_)
    · exfalso; omega
    ·
      exact E_throw (by omega) hk rfl (Nat.le_of_ble_eq_true rfl) ⟨rfl, ⟨s_H2, ok_H2, a_H2, b_H2⟩, yfz.frb f_H2⟩
theorem wk_mem {z o : Nat} (h : stid 29 z o) : ∀ i, i = 28 ∨ i = 29 ∨ i = z ∨ i = z + 1 ∨ i = o ∨ i = o + 1 ∨ i = 41 ∨ i = 42 → i ∈ [28, 34, 29, 30, 31, 32, 33, 41, 42, 77] ∧ i < 77 ∧ i ≠ 34 := by
  intro i hi
  unfold stid at h
  simp only [List.mem_cons, List.not_mem_nil, or_false]
  omega
theorem c_workGood {d : Nat} {hp : xH} {kp cl od : Int} (h28 : xat hp 28 = some (.inr (8, [.ref 29, .ref 34, .ref 35, yi kp, .ref 40, yi cl, .ref 41, .ref 43, yi od, .ref 56, .ref 58]))) {z o : Nat} {S f g : Int → Int} {r t : Int} (hS : yS hp 29 z o S f g r t) (hN : 77 ≤ hp.1) (h26 : xat hp 26 = some (yO 0 (fun _ => .null))) {n : Int} {T : Int → Int} (hv : ySv hp n T) (hn6 : 0 ≤ n ∧ n ≤ 6) (hok : okS S) (hst : ystp S r t) {Y : Int → Int} (h40 : xat hp 40 = some (yI 60 Y)) (hcl : 0 ≤ cl ∧ cl ≤ 60) (hY : ∀ q, 0 ≤ q → q < cl → 33 ≤ Y q ∧ Y q ≤ 126) {s : rS} (hr : rdr hp s) (hor : okR s) (hC : yC hp) {m nE : Nat} {b e : Nat → Int} {Sq : Nat → Int → Int} {zz : Int} (hT : ∀ s : rS, ∃ ps sE, prts Y cl s.beg m b e ps ∧ runs ps Sq m nE zz ∧ tks Y cl.toNat 0 s.beg = some sE ∧ (sE.p = 4 ∨ sE.p = 5)) (hSq : ∀ j, j ≤ nE → okS (Sq j)) (hS0e : Sq 0 = S) (hd : 9 ≤ d) : Cv d 83 [.ref 28] hp (yR (some (yi (nE : Int))) (fun h => xat h 28 = some (.inr (8, [.ref 29, .ref 34, .ref 35, yi kp, .ref 40, yi 0, .ref 41, .ref 43, yi 1, .ref 56, .ref 58])) ∧ (∀ U, recd n S T U → ySv h (if n = 6 then 6 else n + 1) U) ∧ (∃ f2 g2, yS h 29 z o (Sq nE) f2 g2 (if zz = 0 then 0 else zz) (if zz = 0 then 0 else (nE : Int))) ∧ (∃ s2, okR s2 ∧ rdr h s2) ∧ yfz [28, 34, 29, 30, 31, 32, 33, 41, 42, 77] hp h)) := by
  have hk : xtab 83 = (xc_83, 2, 1, []) := rfl
  obtain ⟨d, rfl⟩ : ∃ e, d = e + 1 := ⟨d - 1, by omega⟩
  have hS0 := hS
  obtain ⟨hid, hs_, hz_, ho_, hf_, hg_, ef, eg⟩ := hS
  show Ev (d + 1) 83 0 [(0, .ref 28)] [] hp _
  refine E_run hk 1 (j' := 1) (lv' := [(0, .ref 28)]) (st' := [.ref 28]) (hp' := hp) rfl ?_
  refine Y_callE hk rfl (as := [.ref 28]) (rest := []) rfl rfl (Nat.le_of_ble_eq_true rfl) (rcv0 h28) (Nat.le_of_ble_eq_true rfl) (c_X8_readUpToError h28 h40 (by omega) hY (s := s) ⟨hr.1, hr.2⟩ hor hC (hd := by omega)) (fun z1 H2 r3 => ?_)
  obtain ⟨rd_H2, ⟨s_H2, ok_H2, ⟨a_H2, b_H2⟩, fu_H2⟩, f_H2⟩ := r3
  have zr_H2 := And.intro rd_H2.1 rd_H2.2.1
  obtain ⟨ps8, sE8, tP8, tU8, tE8, tp8⟩ := hT s
  have zc8 := rds_full rd_H2 tE8
  refine E_run hk 1 (j' := 3) (lv' := [(0, .ref 28)]) (st' := [.ref 28, yi z1]) (hp' := H2) rfl ?_
  refine E_get (v := yi cl) hk rfl (f_H2.at (by decide) h28) rfl ?_
  refine Y_ic_lt (a := z1) (b := cl) (by omega) hk rfl (fun g4 => ?_) (fun g4 => ?_)
  · exfalso; omega
  ·
    have ok9_H2 := ok_H2.2.2.1
    have ok8_H2 := ok_H2.2.2.2.1
    have pc9 : s_H2.p = 4 ∨ s_H2.p = 5 := by have e9 := tE8.symm.trans (fu_H2 (by omega)); rw [← Option.some.inj e9]; exact tp8
    refine E_run hk 1 (j' := 6) (lv' := [(0, .ref 28)]) (st' := [.ref 28]) (hp' := H2) rfl ?_
    refine E_get (v := .ref 41) hk rfl (f_H2.at (by decide) h28) rfl ?_
    refine Y_callP hk rfl (as := [.ref 41]) (rest := []) (v := some (yi (b2 (s_H2.p = 4 ∨ s_H2.p = 5)))) rfl rfl (Nat.le_of_ble_eq_true rfl) (rcv0 a_H2) (Nat.le_of_ble_eq_true rfl) (c_X4_isComplete a_H2 (by omega)) ?_
    refine Y_b_ne hk rfl (fun g5 => ?_) (fun g5 => ?_)
    ·
      refine E_run hk 1 (j' := 15) (lv' := [(0, .ref 28)]) (st' := [.ref 28]) (hp' := H2) rfl ?_
      refine Y_call hk rfl (as := [.ref 28]) (rest := []) (v := none) rfl rfl (Nat.le_of_ble_eq_true rfl) (rcv0 (f_H2.at (by decide) h28)) (Nat.le_of_ble_eq_true rfl) (c_X8_saveState (f_H2.at (by decide) h28) ⟨hid, (f_H2.at (by decide) hs_), (f_H2.at (by simp only [List.mem_cons, List.not_mem_nil, or_false, not_or]; exact ⟨(Ne.symm (sok hid (by unfold apart; decide)).2.1), (Ne.symm (sok hid (by unfold apart; decide)).2.1)⟩) hz_), (f_H2.at (by simp only [List.mem_cons, List.not_mem_nil, or_false, not_or]; exact ⟨(Ne.symm (sok hid (by unfold apart; decide)).2.2.2.1), (Ne.symm (sok hid (by unfold apart; decide)).2.2.2.1)⟩) ho_), (f_H2.at (by simp only [List.mem_cons, List.not_mem_nil, or_false, not_or]; exact ⟨(Ne.symm (sok hid (by unfold apart; decide)).2.2.1), (Ne.symm (sok hid (by unfold apart; decide)).2.2.1)⟩) hf_), (f_H2.at (by simp only [List.mem_cons, List.not_mem_nil, or_false, not_or]; exact ⟨(Ne.symm (sok hid (by unfold apart; decide)).2.2.2.2), (Ne.symm (sok hid (by unfold apart; decide)).2.2.2.2)⟩) hg_), ef, eg⟩ (Nat.le_trans hN (Nat.le_of_eq f_H2.1.symm)) (f_H2.at (by decide) h26) (hv.fr hN f_H2 (by decide)) hn6 hok hst (hd := by omega)) (fun H6 r7 => ?_)
      obtain ⟨e28_H6, sv_H6, f_H6⟩ := r7
      refine E_run hk 1 (j' := 17) (lv' := [(0, .ref 28)]) (st' := [.ref 28]) (hp' := H6) rfl ?_
      refine E_get (v := .ref 29) hk rfl e28_H6 rfl ?_
      refine E_run hk 1 (j' := 19) (lv' := [(0, .ref 28)]) (st' := [yi 0, .ref 29]) (hp' := H6) rfl ?_
      refine Y_put hk rfl (f_H6.at (by decide) (by decide) (f_H2.at (by decide) hs_)) (by decide) (Nat.le_of_ble_eq_true rfl) rfl (fs' := [.ref z, .ref o, yi (S 2), yi (S 3), yi (S 4), yi 0, yi t]) rfl (fun H8 e9 f10 => ?_)
      refine E_run hk 1 (j' := 21) (lv' := [(0, .ref 28)]) (st' := [.ref 28]) (hp' := H8) rfl ?_
      refine E_get (v := .ref 29) hk rfl (f10.at (by decide) e28_H6) rfl ?_
      refine E_run hk 1 (j' := 23) (lv' := [(0, .ref 28)]) (st' := [yi 0, .ref 29]) (hp' := H8) rfl ?_
      refine Y_put hk rfl e9 (by decide) (Nat.le_of_ble_eq_true rfl) rfl (fs' := [.ref z, .ref o, yi (S 2), yi (S 3), yi (S 4), yi 0, yi 0]) rfl (fun H11 e12 f13 => ?_)
      obtain ⟨ps9, sE9, tP9, tU9, tE9, tp9⟩ := hT s_H2
      refine E_run hk 1 (j' := 25) (lv' := [(0, .ref 28)]) (st' := [.ref 28]) (hp' := H11) rfl ?_
      refine Y_call hk rfl (as := [.ref 28]) (rest := []) (v := some (yi (nE : Int))) rfl rfl (Nat.le_of_ble_eq_true rfl) (rcv0 (f13.at (by decide) (f10.at (by decide) e28_H6))) (Nat.le_of_ble_eq_true rfl) (c_X8_doParts (f13.at (by decide) (f10.at (by decide) e28_H6)) ⟨hid, e12, (f13.at (by simp only [List.mem_cons, List.not_mem_nil, or_false, not_or]; exact (Ne.symm (sne hid).1)) (f10.at (by simp only [List.mem_cons, List.not_mem_nil, or_false, not_or]; exact (Ne.symm (sne hid).1)) (f_H6.at (by simp only [List.mem_cons, List.not_mem_nil, or_false, not_or]; exact ⟨(Ne.symm (sok hid (by unfold apart; decide)).2.1), (Ne.symm (sok hid (by unfold apart; decide)).2.1), (Ne.symm (sok hid (by unfold apart; decide)).2.1)⟩) (s77 hid).1 (f_H2.at (by simp only [List.mem_cons, List.not_mem_nil, or_false, not_or]; exact ⟨(Ne.symm (sok hid (by unfold apart; decide)).2.1), (Ne.symm (sok hid (by unfold apart; decide)).2.1)⟩) hz_)))), (f13.at (by simp only [List.mem_cons, List.not_mem_nil, or_false, not_or]; exact (Ne.symm (sne hid).2.2.1)) (f10.at (by simp only [List.mem_cons, List.not_mem_nil, or_false, not_or]; exact (Ne.symm (sne hid).2.2.1)) (f_H6.at (by simp only [List.mem_cons, List.not_mem_nil, or_false, not_or]; exact ⟨(Ne.symm (sok hid (by unfold apart; decide)).2.2.2.1), (Ne.symm (sok hid (by unfold apart; decide)).2.2.2.1), (Ne.symm (sok hid (by unfold apart; decide)).2.2.2.1)⟩) (s77 hid).2.2.1 (f_H2.at (by simp only [List.mem_cons, List.not_mem_nil, or_false, not_or]; exact ⟨(Ne.symm (sok hid (by unfold apart; decide)).2.2.2.1), (Ne.symm (sok hid (by unfold apart; decide)).2.2.2.1)⟩) ho_)))), (f13.at (by simp only [List.mem_cons, List.not_mem_nil, or_false, not_or]; exact (Ne.symm (sne hid).2.1)) (f10.at (by simp only [List.mem_cons, List.not_mem_nil, or_false, not_or]; exact (Ne.symm (sne hid).2.1)) (f_H6.at (by simp only [List.mem_cons, List.not_mem_nil, or_false, not_or]; exact ⟨(Ne.symm (sok hid (by unfold apart; decide)).2.2.1), (Ne.symm (sok hid (by unfold apart; decide)).2.2.1), (Ne.symm (sok hid (by unfold apart; decide)).2.2.1)⟩) (s77 hid).2.1 (f_H2.at (by simp only [List.mem_cons, List.not_mem_nil, or_false, not_or]; exact ⟨(Ne.symm (sok hid (by unfold apart; decide)).2.2.1), (Ne.symm (sok hid (by unfold apart; decide)).2.2.1)⟩) hf_)))), (f13.at (by simp only [List.mem_cons, List.not_mem_nil, or_false, not_or]; exact (Ne.symm (sne hid).2.2.2.1)) (f10.at (by simp only [List.mem_cons, List.not_mem_nil, or_false, not_or]; exact (Ne.symm (sne hid).2.2.2.1)) (f_H6.at (by simp only [List.mem_cons, List.not_mem_nil, or_false, not_or]; exact ⟨(Ne.symm (sok hid (by unfold apart; decide)).2.2.2.2), (Ne.symm (sok hid (by unfold apart; decide)).2.2.2.2), (Ne.symm (sok hid (by unfold apart; decide)).2.2.2.2)⟩) (s77 hid).2.2.2 (f_H2.at (by simp only [List.mem_cons, List.not_mem_nil, or_false, not_or]; exact ⟨(Ne.symm (sok hid (by unfold apart; decide)).2.2.2.2), (Ne.symm (sok hid (by unfold apart; decide)).2.2.2.2)⟩) hg_)))), ef, eg⟩ (f13.at (by decide) (f10.at (by decide) (f_H6.at (by decide) (by decide) (f_H2.at (by decide) h40)))) (by omega) hY (s := s_H2) ⟨(f13.at (by decide) (f10.at (by decide) (f_H6.at (by decide) (by decide) a_H2))), (f13.at (by decide) (f10.at (by decide) (f_H6.at (by decide) (by decide) b_H2)))⟩ ok_H2 ((((hC.fr f_H2 (by simp)).fz f_H6 (by simp)).fr f10 (by simp)).fr f13 (by simp)) tE9 tP9 tU9 hSq hS0e (hd := by omega)) (fun H14 r15 => ?_)
      obtain ⟨⟨F_H14, G_H14, y_H14⟩, ⟨s_H14, ok_H14, ⟨a_H14, b_H14⟩⟩, f_H14⟩ := r15
      refine E_run hk 3 (j' := 29) (lv' := [(1, yi (nE : Int)), (0, .ref 28)]) (st' := [yi 0, .ref 28]) (hp' := H14) rfl ?_
      refine Y_put hk rfl (f_H14.at (by simp only [List.mem_cons, List.not_mem_nil, or_false, not_or]; exact ⟨(by decide), (sok hid (by unfold apart; decide)).2.1, (sok hid (by unfold apart; decide)).2.2.1, (sok hid (by unfold apart; decide)).2.2.2.1, (sok hid (by unfold apart; decide)).2.2.2.2, (by decide), (by decide)⟩) (f13.at (by decide) (f10.at (by decide) e28_H6))) (by decide) (Nat.le_of_ble_eq_true rfl) rfl (fs' := [.ref 29, .ref 34, .ref 35, yi kp, .ref 40, yi 0, .ref 41, .ref 43, yi 1, .ref 56, .ref 58]) rfl (fun H16 e17 f18 => ?_)
      refine E_run hk 1 (j' := 31) (lv' := [(1, yi (nE : Int)), (0, .ref 28)]) (st' := [yi (nE : Int)]) (hp' := H16) rfl ?_
      exact E_ret hk rfl rfl ⟨rfl, e17, fun U hU => (sv_H6 U hU).fr (by have w1 := f_H2.1; have w2 := f_H6.1; omega) (show yfr [28, 29, z, (z + 1), o, (o + 1), 41, 42] H6 H16 from (yfr.tr (yfr.tr (yfr.tr (f10.mono (by simp)) f13 (fun _ h => h) (by simp)) f_H14 (fun _ h => h) (by simp)) f18 (fun _ h => h) (by simp))) (fun i hi => (wk_mem hid i (by simpa using hi)).2), ⟨F_H14, G_H14, y_H14.fr f18 (by decide)⟩, ⟨s_H14, ok_H14, (f18.at (by decide) a_H14), (f18.at (by decide) b_H14)⟩, (yfz.fr0 f_H2 (f_H6.mono (K2 := [28, 34, 29, 30, 31, 32, 33, 41, 42, 77]) (by decide)) (by decide)).fr2 (show yfr [28, 29, z, (z + 1), o, (o + 1), 41, 42] H6 H16 from (yfr.tr (yfr.tr (yfr.tr (f10.mono (by simp)) f13 (fun _ h => h) (by simp)) f_H14 (fun _ h => h) (by simp)) f18 (fun _ h => h) (by simp))) (fun i hi => (wk_mem hid i (by simpa using hi)).1)⟩
    · exfalso; omega
