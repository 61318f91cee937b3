/-! The reader takes a character. -/
section TK
variable {s : rS} {x : Int}
theorem tk0 (h : s.p = 0) {o : Nat} (f : fwd s.w s.k x = some o) : tk s x = some ⟨s.c, if (wln o : Int) ≤ s.k + 1 then (if wht o = 1 then 1 else 2) else s.p, o, s.k + 1, s.t, s.A⟩ := by
  unfold tk
  rw [if_pos h, f]
theorem tk0n (h : s.p = 0) (f : fwd s.w s.k x = none) : tk s x = none := by
  unfold tk
  rw [if_pos h, f]
theorem tk1 (h : s.p = 1) (f : 0 ≤ x - 48 ∧ x - 48 < 2) : tk s x = some ⟨s.c, if whn s.w = 1 then 2 else 5, s.w, s.k, x - 48, s.A⟩ := by
  unfold tk
  rw [if_neg (by omega), if_pos h, if_pos f]
theorem tk1n (h : s.p = 1) (f : ¬ (0 ≤ x - 48 ∧ x - 48 < 2)) : tk s x = none := by
  unfold tk
  rw [if_neg (by omega), if_pos h, if_neg f]
theorem tk2 (h : s.p = 2) (f : x = 58) : tk s x = some ⟨s.c, 3, s.w, s.k, s.t, s.A⟩ := by
  unfold tk
  rw [if_neg (by omega), if_neg (by omega), if_pos h, if_pos f]
theorem tk2n (h : s.p = 2) (f : ¬ x = 58) : tk s x = none := by
  unfold tk
  rw [if_neg (by omega), if_neg (by omega), if_pos h, if_neg f]
theorem tk3 (h : s.p = 3) (f : dig s.c s.w x) : tk s x = some ⟨s.c + 1, 4, s.w, s.k, s.t, up s.A s.c (x - 48)⟩ := by
  unfold tk
  rw [if_neg (by omega), if_neg (by omega), if_neg (by omega), if_pos h, if_pos f]
theorem tk3n (h : s.p = 3) (f : ¬ dig s.c s.w x) : tk s x = none := by
  unfold tk
  rw [if_neg (by omega), if_neg (by omega), if_neg (by omega), if_pos h, if_neg f]
theorem tk4a (h : s.p = 4) (f : dig2 s.c s.w (lnm s.A s.c) x) : tk s x = some ⟨s.c, s.p, s.w, s.k, s.t, up s.A (s.c - 1) (lnm s.A s.c * 10 + (x - 48))⟩ := by
  unfold tk
  rw [if_neg (by omega), if_neg (by omega), if_neg (by omega), if_neg (by omega), if_pos h, if_pos f]
theorem tk4b (h : s.p = 4) (f : ¬ dig2 s.c s.w (lnm s.A s.c) x) (g : x = 44 ∧ s.w = 0) : tk s x = some ⟨s.c, 3, s.w, s.k, s.t, s.A⟩ := by
  unfold tk
  rw [if_neg (by omega), if_neg (by omega), if_neg (by omega), if_neg (by omega), if_pos h, if_neg f, if_pos g]
theorem tk4c (h : s.p = 4) (f : ¬ dig2 s.c s.w (lnm s.A s.c) x) (g : ¬ (x = 44 ∧ s.w = 0)) (e : x = 59) : tk s x = some s.beg := by
  unfold tk
  rw [if_neg (by omega), if_neg (by omega), if_neg (by omega), if_neg (by omega), if_pos h, if_neg f, if_neg g, if_pos e]
theorem tk4n (h : s.p = 4) (f : ¬ dig2 s.c s.w (lnm s.A s.c) x) (g : ¬ (x = 44 ∧ s.w = 0)) (e : ¬ x = 59) : tk s x = none := by
  unfold tk
  rw [if_neg (by omega), if_neg (by omega), if_neg (by omega), if_neg (by omega), if_pos h, if_neg f, if_neg g, if_neg e]
theorem tk5 (h : s.p = 5) (e : x = 59) : tk s x = some s.beg := by
  unfold tk
  rw [if_neg (by omega), if_neg (by omega), if_neg (by omega), if_neg (by omega), if_neg (by omega), if_pos e]
theorem tk5n (h : s.p = 5) (e : ¬ x = 59) : tk s x = none := by
  unfold tk
  rw [if_neg (by omega), if_neg (by omega), if_neg (by omega), if_neg (by omega), if_neg (by omega), if_neg e]
theorem okR_A {c c2 : Int} {A : Int → Int} {q0 y : Int} (h : ∀ q, 0 ≤ q → q < c → 0 ≤ A q ∧ A q ≤ 60) (hy : 0 ≤ y ∧ y ≤ 60) (hc : c2 ≤ c ∨ (c2 = c + 1 ∧ q0 = c)) : ∀ q, 0 ≤ q → q < c2 → 0 ≤ up A q0 y q ∧ up A q0 y q ≤ 60 := by
  intro q q1 q2
  by_cases e : q = q0
  · rw [e, up_self]
    exact hy
  · rw [up_ne _ _ e]
    exact h q q1 (by omega)
theorem okR.le {s2 : rS} (h : okR s) (hc : s2.c = s.c) (hp : 0 ≤ s2.p ∧ s2.p ≤ 5) (hw : s2.w = s.w) (hk : s2.k = s.k) (ht : -200 ≤ s2.t ∧ s2.t ≤ 200) (hA : s2.A = s.A) : okR s2 := by
  obtain ⟨h1, h2, h3, h4, h5, h6, h7, h8, h9, h10⟩ := h
  exact ⟨by omega, by omega, hp.1, hp.2, by omega, by omega, by omega, ht.1, ht.2, by rw [hc, hA]; exact h10⟩
theorem okR.beg (h : okR s) : okR s.beg := by
  obtain ⟨h1, h2, h3, h4, h5, h6, h7, h8, h9, h10⟩ := h
  exact ⟨(by decide : (0 : Int) ≤ 0), (by decide : (0 : Int) ≤ 30), (by decide : (0 : Int) ≤ 0), (by decide : (0 : Int) ≤ 5), h5, (by decide : (0 : Int) ≤ 0), (by decide : (0 : Int) ≤ 5), h8, h9, fun q q1 q2 => absurd q2 (by show ¬ q < 0; omega)⟩
theorem fwd_k {o : Nat} (hx : 0 ≤ x) (h : fwd s.w s.k x = some o) (hk : 0 ≤ s.k) : o < 8 ∧ s.k < (wln o : Int) ∧ (wln o : Int) ≤ 5 := by
  obtain ⟨h1, h2⟩ := fwd_in h
  have r := wln_rng h1
  refine ⟨h1, ?_, by omega⟩
  by_cases g : s.k < (wln o : Int)
  · exact g
  · have e := h2.2
    rw [wl_out (by omega)] at e
    omega
theorem okR_tk {s2 : rS} (h : okR s) (hx : 0 ≤ x ∧ x ≤ 200) (e : tk s x = some s2) : okR s2 := by
  have h0 := h
  have hl := lnm_rng h
  obtain ⟨h1, h2, h3, h4, h5, h6, h7, h8, h9, h10⟩ := h
  have wm := wnum_rng h5
  rcases (by omega : s.p = 0 ∨ s.p = 1 ∨ s.p = 2 ∨ s.p = 3 ∨ s.p = 4 ∨ s.p = 5) with g | g | g | g | g | g
  · cases f : fwd s.w s.k x with
    | none => rw [tk0n g f] at e; cases e
    | some o =>
      rw [tk0 g f] at e
      have e := Option.some.inj e
      subst e
      have q := fwd_k hx.1 f h6
      refine ⟨h1, h2, ?_, ?_, q.1, by show 0 ≤ s.k + 1; omega, by show s.k + 1 ≤ 5; omega, h8, h9, h10⟩
      · show 0 ≤ (if (wln o : Int) ≤ s.k + 1 then (if wht o = 1 then 1 else 2) else s.p)
        split
        · split <;> omega
        · omega
      · show (if (wln o : Int) ≤ s.k + 1 then (if wht o = 1 then 1 else 2) else s.p) ≤ 5
        split
        · split <;> omega
        · omega
  · by_cases f : 0 ≤ x - 48 ∧ x - 48 < 2
    · rw [tk1 g f] at e
      have e := Option.some.inj e
      subst e
      refine ⟨h1, h2, ?_, ?_, h5, h6, h7, by show -200 ≤ x - 48; omega, by show x - 48 ≤ 200; omega, h10⟩
      · show 0 ≤ (if whn s.w = 1 then (2 : Int) else 5)
        split <;> omega
      · show (if whn s.w = 1 then (2 : Int) else 5) ≤ 5
        split <;> omega
    · rw [tk1n g f] at e
      cases e
  · by_cases f : x = 58
    · rw [tk2 g f] at e
      have e := Option.some.inj e
      subst e
      exact ⟨h1, h2, (by decide : (0 : Int) ≤ 3), (by decide : (3 : Int) ≤ 5), h5, h6, h7, h8, h9, h10⟩
    · rw [tk2n g f] at e
      cases e
  · by_cases f : dig s.c s.w x
    · rw [tk3 g f] at e
      have e := Option.some.inj e
      subst e
      obtain ⟨f1, f2, f3, f4, f5, f6⟩ := f
      exact ⟨by show 0 ≤ s.c + 1; omega, by show s.c + 1 ≤ 30; omega, (by decide : (0 : Int) ≤ 4), (by decide : (4 : Int) ≤ 5), h5, h6, h7, h8, h9, okR_A h10 (by omega) (Or.inr ⟨rfl, rfl⟩)⟩
    · rw [tk3n g f] at e
      cases e
  · by_cases f : dig2 s.c s.w (lnm s.A s.c) x
    · rw [tk4a g f] at e
      have e := Option.some.inj e
      subst e
      obtain ⟨f1, f2, f3, f4, f5, f6⟩ := f
      exact ⟨h1, h2, h3, h4, h5, h6, h7, h8, h9, okR_A h10 (by omega) (Or.inl (Int.le_refl _))⟩
    · by_cases f2 : x = 44 ∧ s.w = 0
      · rw [tk4b g f f2] at e
        have e := Option.some.inj e
        subst e
        exact ⟨h1, h2, (by decide : (0 : Int) ≤ 3), (by decide : (3 : Int) ≤ 5), h5, h6, h7, h8, h9, h10⟩
      · by_cases f3 : x = 59
        · rw [tk4c g f f2 f3] at e
          have e := Option.some.inj e
          subst e
          exact h0.beg
        · rw [tk4n g f f2 f3] at e
          cases e
  · by_cases f3 : x = 59
    · rw [tk5 g f3] at e
      have e := Option.some.inj e
      subst e
      exact h0.beg
    · rw [tk5n g f3] at e
      cases e
end TK
theorem c_X4_take {d : Nat} {hp : xH} {s : rS} (hr : rdr hp s) (hok : okR s) (hC : yC hp) {x : Int} (hx : 0 ≤ x ∧ x ≤ 200) (hd : 7 ≤ d) : Cv d 34 [.ref 41, yi x] hp (yE (fun z h => ∃ s2, okR s2 ∧ rdr h s2 ∧ yfr [41, 42] hp h ∧ ((z = 1 ∧ tk s x = some s2) ∨ (z = 0 ∧ tk s x = none)))) := by
  have hk : xtab 34 = (xc_34, 2, 2, []) := rfl
  obtain ⟨d, rfl⟩ : ∃ e, d = e + 1 := ⟨d - 1, by omega⟩
  have hok0 := hok
  have hl := lnm_rng hok
  obtain ⟨o1, o2, o3, o4, o5, o6, o7, o8, o9, o10⟩ := hok0
  show Ev (d + 1) 34 0 [(0, .ref 41), (1, yi x)] [] hp _
  refine E_run hk 1 (j' := 1) (lv' := [(0, .ref 41), (1, yi x)]) (st' := [.ref 41]) (hp' := hp) rfl ?_
  refine E_get (v := yi s.p) hk rfl hr.1 rfl ?_
  refine Y_sw (a := s.p) (by omega) hk rfl (fun g1 => ?_) (fun g1 => ?_)
  · refine E_tgt (t := 41) rfl ?_
    refine E_run hk 2 (j' := 43) (lv' := [(0, .ref 41), (1, yi x)]) (st' := [yi x, .ref 41]) (hp' := hp) rfl ?_
    refine Y_callE hk rfl (as := [.ref 41, yi x]) (rest := []) rfl rfl (Nat.le_of_ble_eq_true rfl) (rcv0 hr.1) (Nat.le_of_ble_eq_true rfl) (c_X4_takeSemicolon hr.1 hr.2 hC (by omega) (x := x) (by omega) (by omega) (by omega) (hd := by omega)) (fun z2 H3 r4 => ?_)
    obtain ⟨r1_H3, f_H3⟩ := r4
    have z01_H3 : z2 = 0 ∨ z2 = 1 := by rcases r1_H3 with ⟨a9, -⟩ | ⟨a9, -⟩ <;> rw [a9] <;> simp
    exact E_ret hk rfl (xret_01 (by first | omega | (rcases z01 with z9 | z9 <;> rw [z9] <;> decide))) (by
      have hp0 : s.p = 5 := by omega
      rcases r1_H3 with ⟨a9, f9, e9⟩ | ⟨a9, f9, e9⟩
      · exact ⟨_, rfl, _, okR_tk hok hx (tk5 hp0 f9), e9, f_H3, Or.inl ⟨a9, tk5 hp0 f9⟩⟩
      · exact ⟨_, rfl, s, hok, e9, f_H3, Or.inr ⟨a9, tk5n hp0 f9⟩⟩)
  · rcases (by omega : s.p = 0 ∨ s.p = 1 ∨ s.p = 2 ∨ s.p = 3 ∨ s.p = 4) with g1e | g1e | g1e | g1e | g1e
    · refine E_tgt (t := 3) (by rw [g1e]; rfl) ?_
      have hp0 : s.p = 0 := by omega
      refine E_run hk 2 (j' := 5) (lv' := [(0, .ref 41), (1, yi x)]) (st' := [yi x, .ref 41]) (hp' := hp) rfl ?_
      refine Y_callE hk rfl (as := [.ref 41, yi x]) (rest := []) rfl rfl (Nat.le_of_ble_eq_true rfl) (rcv0 hr.1) (Nat.le_of_ble_eq_true rfl) (c_X4_takeLetter hr.1 hr.2 hC (by omega) (x := x) (by omega) (by omega) (hd := by omega)) (fun z5 H6 r7 => ?_)
      obtain ⟨r1_H6, f_H6⟩ := r7
      have z01 : z5 = 0 ∨ z5 = 1 := by rcases r1_H6 with ⟨a9, -⟩ | ⟨a9, -⟩ <;> rw [a9] <;> simp
      exact E_ret hk rfl (xret_01 (by first | omega | (rcases z01 with z9 | z9 <;> rw [z9] <;> decide))) (by
      rcases r1_H6 with ⟨a9, o9, f9, e9⟩ | ⟨a9, f9, e9⟩
      · exact ⟨_, rfl, _, okR_tk hok hx (tk0 hp0 f9), ⟨e9, (f_H6.at (by decide) hr.2)⟩, (f_H6.mono (by decide)), Or.inl ⟨a9, tk0 hp0 f9⟩⟩
      · exact ⟨_, rfl, s, hok, by rw [e9]; exact hr, (f_H6.mono (by decide)), Or.inr ⟨a9, tk0n hp0 f9⟩⟩)
    · refine E_tgt (t := 7) (by rw [g1e]; rfl) ?_
      have hp0 : s.p = 1 := by omega
      refine E_run hk 2 (j' := 9) (lv' := [(0, .ref 41), (1, yi x)]) (st' := [yi x, .ref 41]) (hp' := hp) rfl ?_
      refine Y_callE hk rfl (as := [.ref 41, yi x]) (rest := []) rfl rfl (Nat.le_of_ble_eq_true rfl) (rcv0 hr.1) (Nat.le_of_ble_eq_true rfl) (c_X4_takeTune hr.1 hr.2 hC (by omega) (x := x) (by omega) (by omega) (by omega)) (fun z8 H9 r10 => ?_)
      obtain ⟨r1_H9, f_H9⟩ := r10
      have z01_H9 : z8 = 0 ∨ z8 = 1 := by rcases r1_H9 with ⟨a9, -⟩ | ⟨a9, -⟩ <;> rw [a9] <;> simp
      exact E_ret hk rfl (xret_01 (by first | omega | (rcases z01 with z9 | z9 <;> rw [z9] <;> decide))) (by
      rcases r1_H9 with ⟨a9, f9, e9⟩ | ⟨a9, f9, p9, t9, b9, c9, e9⟩
      · exact ⟨_, rfl, _, okR_tk hok hx (tk1 hp0 f9), e9, f_H9, Or.inl ⟨a9, tk1 hp0 f9⟩⟩
      · exact ⟨_, rfl, ⟨s.c, p9, s.w, s.k, t9, s.A⟩, hok.le rfl b9 rfl rfl c9 rfl, e9, f_H9, Or.inr ⟨a9, tk1n hp0 f9⟩⟩)
    · refine E_tgt (t := 11) (by rw [g1e]; rfl) ?_
      have hp0 : s.p = 2 := by omega
      refine E_run hk 2 (j' := 13) (lv' := [(0, .ref 41), (1, yi x)]) (st' := [yi 3, .ref 41]) (hp' := hp) rfl ?_
      refine Y_put hk rfl hr.1 (by decide) (Nat.le_of_ble_eq_true rfl) rfl (fs' := [.ref 42, yi s.c, yi 3, .ref s.w, yi s.k, yi s.t]) rfl (fun H11 e12 f13 => ?_)
      refine E_run hk 2 (j' := 16) (lv' := [(0, .ref 41), (1, yi x)]) (st' := [yi 58, yi x]) (hp' := H11) rfl ?_
      refine Y_ic_ne (a := x) (b := 58) (by omega) hk rfl (fun g14 => ?_) (fun g14 => ?_)
      ·
        refine E_run hk 1 (j' := 20) (lv' := [(0, .ref 41), (1, yi x)]) (st' := [yi 0]) (hp' := H11) rfl ?_
        exact E_ret hk rfl rfl ⟨_, rfl, ⟨s.c, 3, s.w, s.k, s.t, s.A⟩, hok.le rfl (by show (0 : Int) ≤ 3 ∧ (3 : Int) ≤ 5; decide) rfl rfl (by show -200 ≤ s.t ∧ s.t ≤ 200; omega) rfl, ⟨e12, (f13.at (by decide) hr.2)⟩, (f13.mono (by decide)), Or.inr ⟨rfl, tk2n hp0 (by omega)⟩⟩
      ·
        refine E_run hk 2 (j' := 20) (lv' := [(0, .ref 41), (1, yi x)]) (st' := [yi 1]) (hp' := H11) rfl ?_
        exact E_ret hk rfl rfl ⟨_, rfl, _, okR_tk hok hx (tk2 hp0 (by omega)), ⟨e12, (f13.at (by decide) hr.2)⟩, (f13.mono (by decide)), Or.inl ⟨rfl, tk2 hp0 (by omega)⟩⟩
    · refine E_tgt (t := 21) (by rw [g1e]; rfl) ?_
      have hp0 : s.p = 3 := by omega
      refine E_run hk 2 (j' := 23) (lv' := [(0, .ref 41), (1, yi x)]) (st' := [yi x, .ref 41]) (hp' := hp) rfl ?_
      refine Y_callE hk rfl (as := [.ref 41, yi x]) (rest := []) rfl rfl (Nat.le_of_ble_eq_true rfl) (rcv0 hr.1) (Nat.le_of_ble_eq_true rfl) (c_X4_takeFirstDigit hr.1 hr.2 hC (by omega) (x := x) (by omega) (by omega) (by omega) (by omega)) (fun z15 H16 r17 => ?_)
      obtain ⟨r1_H16, f_H16⟩ := r17
      have z01_H16 : z15 = 0 ∨ z15 = 1 := by rcases r1_H16 with ⟨a9, -⟩ | ⟨a9, -⟩ <;> rw [a9] <;> simp
      exact E_ret hk rfl (xret_01 (by first | omega | (rcases z01 with z9 | z9 <;> rw [z9] <;> decide))) (by
      rcases r1_H16 with ⟨a9, f9, e9⟩ | ⟨a9, f9, e9⟩
      · exact ⟨_, rfl, _, okR_tk hok hx (tk3 hp0 f9), e9, f_H16, Or.inl ⟨a9, tk3 hp0 f9⟩⟩
      · exact ⟨_, rfl, s, hok, e9, f_H16, Or.inr ⟨a9, tk3n hp0 f9⟩⟩)
    · refine E_tgt (t := 25) (by rw [g1e]; rfl) ?_
      have hp0 : s.p = 4 := by omega
      refine E_run hk 2 (j' := 27) (lv' := [(0, .ref 41), (1, yi x)]) (st' := [yi x, .ref 41]) (hp' := hp) rfl ?_
      refine Y_callE hk rfl (as := [.ref 41, yi x]) (rest := []) rfl rfl (Nat.le_of_ble_eq_true rfl) (rcv0 hr.1) (Nat.le_of_ble_eq_true rfl) (c_X4_takeDigit hr.1 hr.2 hC (by omega) (x := x) (by omega) (by omega) hl (by omega) (by omega) (hd := by omega)) (fun z18 H19 r20 => ?_)
      obtain ⟨r1_H19, f_H19⟩ := r20
      have z01_H19 : z18 = 0 ∨ z18 = 1 := by rcases r1_H19 with ⟨a9, -⟩ | ⟨a9, -⟩ <;> rw [a9] <;> simp
      refine Y_if_ne (a := z18) (by omega) hk rfl (fun g21 => ?_) (fun g21 => ?_)
      ·
        refine E_run hk 2 (j' := 40) (lv' := [(0, .ref 41), (1, yi x)]) (st' := [yi 1]) (hp' := H19) rfl ?_
        exact E_ret hk rfl rfl (by
      rcases r1_H19 with ⟨a9, f9, e9⟩ | ⟨a9, -⟩
      · exact ⟨_, rfl, _, okR_tk hok hx (tk4a hp0 f9), e9, f_H19, Or.inl ⟨rfl, tk4a hp0 f9⟩⟩
      · exfalso; omega)
      ·
        have nd_D := (by rcases r1_H19 with ⟨a9, -⟩ | ⟨-, f9, -⟩; exfalso; omega; exact f9 : ¬ (dig2 s.c s.w (lnm s.A s.c) x))
        have q_H19 : rdr H19 s := by rcases r1_H19 with ⟨a9, -⟩ | ⟨-, -, e9⟩; exfalso; omega; exact e9
        refine E_run hk 2 (j' := 31) (lv' := [(0, .ref 41), (1, yi x)]) (st' := [yi x, .ref 41]) (hp' := H19) rfl ?_
        refine Y_callE hk rfl (as := [.ref 41, yi x]) (rest := []) rfl rfl (Nat.le_of_ble_eq_true rfl) (rcv0 q_H19.1) (Nat.le_of_ble_eq_true rfl) (c_X4_takeComma q_H19.1 q_H19.2 (hC.fr f_H19 (by simp)) (by omega) (x := x) (by omega) (by omega) (by omega)) (fun z22 H23 r24 => ?_)
        obtain ⟨r1_H23, f_H23⟩ := r24
        have z01_H23 : z22 = 0 ∨ z22 = 1 := by rcases r1_H23 with ⟨a9, -⟩ | ⟨a9, -⟩ <;> rw [a9] <;> simp
        refine Y_if_ne (a := z22) (by omega) hk rfl (fun g25 => ?_) (fun g25 => ?_)
        ·
          refine E_run hk 2 (j' := 40) (lv' := [(0, .ref 41), (1, yi x)]) (st' := [yi 1]) (hp' := H23) rfl ?_
          exact E_ret hk rfl rfl (by
      rcases r1_H23 with ⟨a9, f9, e9⟩ | ⟨a9, -⟩
      · exact ⟨_, rfl, _, okR_tk hok hx (tk4b hp0 nd_D f9), e9, (yfr.tr f_H19 f_H23 (fun _ h => h) (by decide)), Or.inl ⟨rfl, tk4b hp0 nd_D f9⟩⟩
      · exfalso; omega)
        ·
          have nd_C := (by rcases r1_H23 with ⟨a9, -⟩ | ⟨-, f9, -⟩; exfalso; omega; exact f9 : ¬ (x = 44 ∧ s.w = 0))
          have q_H23 : rdr H23 s := by rcases r1_H23 with ⟨a9, -⟩ | ⟨-, -, e9⟩; exfalso; omega; exact e9
          refine E_run hk 2 (j' := 35) (lv' := [(0, .ref 41), (1, yi x)]) (st' := [yi x, .ref 41]) (hp' := H23) rfl ?_
          refine Y_callE hk rfl (as := [.ref 41, yi x]) (rest := []) rfl rfl (Nat.le_of_ble_eq_true rfl) (rcv0 q_H23.1) (Nat.le_of_ble_eq_true rfl) (c_X4_takeSemicolon q_H23.1 q_H23.2 ((hC.fr f_H19 (by simp)).fr f_H23 (by simp)) (by omega) (x := x) (by omega) (by omega) (by omega) (hd := by omega)) (fun z26 H27 r28 => ?_)
          obtain ⟨r1_H27, f_H27⟩ := r28
          have z01_H27 : z26 = 0 ∨ z26 = 1 := by rcases r1_H27 with ⟨a9, -⟩ | ⟨a9, -⟩ <;> rw [a9] <;> simp
          refine Y_if_eq (a := z26) (by omega) hk rfl (fun g29 => ?_) (fun g29 => ?_)
          ·
            refine E_run hk 1 (j' := 40) (lv' := [(0, .ref 41), (1, yi x)]) (st' := [yi 0]) (hp' := H27) rfl ?_
            exact E_ret hk rfl rfl (by
      rcases r1_H27 with ⟨a9, -⟩ | ⟨a9, f9, e9⟩
      · exfalso; omega
      · exact ⟨_, rfl, s, hok, e9, (yfr.tr (yfr.tr f_H19 f_H23 (fun _ h => h) (by decide)) f_H27 (fun _ h => h) (by decide)), Or.inr ⟨rfl, tk4n hp0 nd_D nd_C f9⟩⟩)
          ·
            refine E_run hk 2 (j' := 40) (lv' := [(0, .ref 41), (1, yi x)]) (st' := [yi 1]) (hp' := H27) rfl ?_
            exact E_ret hk rfl rfl (by
      rcases r1_H27 with ⟨a9, f9, e9⟩ | ⟨a9, -⟩
      · exact ⟨_, rfl, _, okR_tk hok hx (tk4c hp0 nd_D nd_C f9), e9, (yfr.tr (yfr.tr f_H19 f_H23 (fun _ h => h) (by decide)) f_H27 (fun _ h => h) (by decide)), Or.inl ⟨rfl, tk4c hp0 nd_D nd_C f9⟩⟩
      · exfalso; omega)
