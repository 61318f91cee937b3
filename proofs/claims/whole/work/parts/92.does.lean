/-! The parts of a text. -/
/-- what is true of a reader that took all it was given -/
def oQ (c p : Int) (w : Nat) (t : Int) (A : Int → Int) : Prop := (p = 1 → wht w = 1) ∧ (2 ≤ p → p ≤ 4 → whn w = 1) ∧ (p = 5 → wht w = 1 ∧ whn w = 0) ∧ (2 ≤ p → wht w = 1 → 0 ≤ t ∧ t ≤ 1) ∧ (p ≤ 2 ∨ p = 5 → c = 0) ∧ (p = 4 → 1 ≤ c) ∧ (∀ q, 0 ≤ q → q < c → A q ≤ whi w)
abbrev okQ (s : rS) : Prop := oQ s.c s.p s.w s.t s.A
theorem wht_or (w : Nat) : (wht w = 1 ∧ w < 5) ∨ (wht w = 0 ∧ 5 ≤ w) := by
  unfold wht
  split
  · exact Or.inl ⟨rfl, by assumption⟩
  · exact Or.inr ⟨rfl, by omega⟩
theorem whn_or (w : Nat) : (whn w = 0 ∧ (w = 3 ∨ w = 4)) ∨ (whn w = 1 ∧ w ≠ 3 ∧ w ≠ 4) := by
  unfold whn
  split
  · exact Or.inl ⟨rfl, by assumption⟩
  · exact Or.inr ⟨rfl, by omega, by omega⟩
theorem okQ_beg (s : rS) : okQ s.beg := show oQ 0 0 s.w s.t s.A from ⟨fun h => absurd h (by decide), fun h => absurd h (by decide), fun h => absurd h (by decide), fun h => absurd h (by decide), fun _ => rfl, fun h => absurd h (by decide), fun q q1 q2 => absurd q2 (by show ¬ q < 0; omega)⟩
theorem okQ_tk {s s2 : rS} {x : Int} (h : okR s) (g : okQ s) (e : tk s x = some s2) : okQ s2 := by
  obtain ⟨h1, h2, h3, h4, h5, h6, h7, h8, h9, h10⟩ := h
  have g0 := g
  obtain ⟨g1, g2, g3, g4, g5, g6, g7⟩ := g
  have w1 := wht_or s.w
  have w2 := whn_or s.w
  rcases (by omega : s.p = 0 ∨ s.p = 1 ∨ s.p = 2 ∨ s.p = 3 ∨ s.p = 4 ∨ s.p = 5) with r | r | r | r | r | r
  · cases f : fwd s.w s.k x with
    | none => rw [tk0n r f] at e; cases e
    | some o =>
      rw [tk0 r f] at e
      have e := Option.some.inj e
      subst e
      have v1 := wht_or o
      have v2 := whn_or o
      have c0 := g5 (Or.inl (by omega))
      show oQ s.c (if (wln o : Int) ≤ s.k + 1 then (if wht o = 1 then 1 else 2) else s.p) o s.t s.A
      by_cases q1 : (wln o : Int) ≤ s.k + 1
      · rw [if_pos q1]
        by_cases q2 : wht o = 1
        · rw [if_pos q2]
          exact ⟨fun _ => q2, fun a => absurd a (by decide), fun a => absurd a (by decide), fun a => absurd a (by decide), fun _ => c0, fun a => absurd a (by decide), fun q a b => absurd b (by omega)⟩
        · rw [if_neg q2]
          exact ⟨fun a => absurd a (by decide), fun _ _ => by omega, fun a => absurd a (by decide), fun _ a => absurd a q2, fun _ => c0, fun a => absurd a (by decide), fun q a b => absurd b (by omega)⟩
      · rw [if_neg q1, r]
        exact ⟨fun a => absurd a (by decide), fun a => absurd a (by decide), fun a => absurd a (by decide), fun a => absurd a (by decide), fun _ => c0, fun a => absurd a (by decide), fun q a b => absurd b (by omega)⟩
  · by_cases f : 0 ≤ x - 48 ∧ x - 48 < 2
    · rw [tk1 r f] at e
      have e := Option.some.inj e
      subst e
      have c0 := g5 (Or.inl (by omega))
      have t1 := g1 r
      show oQ s.c (if whn s.w = 1 then 2 else 5) s.w (x - 48) s.A
      by_cases q1 : whn s.w = 1
      · rw [if_pos q1]
        exact ⟨fun a => absurd a (by decide), fun _ _ => q1, fun a => absurd a (by decide), fun _ _ => by omega, fun _ => c0, fun a => absurd a (by decide), fun q a b => absurd b (by omega)⟩
      · rw [if_neg q1]
        exact ⟨fun a => absurd a (by decide), fun _ a => absurd a (by decide), fun _ => ⟨t1, by omega⟩, fun _ _ => by omega, fun _ => c0, fun a => absurd a (by decide), fun q a b => absurd b (by omega)⟩
    · rw [tk1n r f] at e
      cases e
  · by_cases f : x = 58
    · rw [tk2 r f] at e
      have e := Option.some.inj e
      subst e
      show oQ s.c 3 s.w s.t s.A
      exact ⟨fun a => absurd a (by decide), fun _ _ => g2 (by omega) (by omega), fun a => absurd a (by decide), fun _ => g4 (by omega), fun a => absurd a (by decide), fun a => absurd a (by decide), g7⟩
    · rw [tk2n r f] at e
      cases e
  · by_cases f : dig s.c s.w x
    · rw [tk3 r f] at e
      have e := Option.some.inj e
      subst e
      obtain ⟨f1, f2, f3, f4, f5, f6⟩ := f
      show oQ (s.c + 1) 4 s.w s.t (up s.A s.c (x - 48))
      refine ⟨fun a => absurd a (by decide), fun _ _ => g2 (by omega) (by omega), fun a => absurd a (by decide), fun _ => g4 (by omega), fun a => absurd a (by decide), fun _ => by omega, fun q a b => ?_⟩
      by_cases e : q = s.c
      · rw [e, up_self]
        exact f4
      · rw [up_ne _ _ e]
        exact g7 q a (by omega)
    · rw [tk3n r f] at e
      cases e
  · by_cases f : dig2 s.c s.w (lnm s.A s.c) x
    · rw [tk4a r f] at e
      have e := Option.some.inj e
      subst e
      obtain ⟨f1, f2, f3, f4, f5, f6⟩ := f
      show oQ s.c s.p s.w s.t (up s.A (s.c - 1) (lnm s.A s.c * 10 + (x - 48)))
      refine ⟨g1, g2, g3, g4, g5, g6, fun q a b => ?_⟩
      by_cases e : q = s.c - 1
      · rw [e, up_self]
        exact f4
      · rw [up_ne _ _ e]
        exact g7 q a b
    · by_cases f2 : x = 44 ∧ s.w = 0
      · rw [tk4b r f f2] at e
        have e := Option.some.inj e
        subst e
        show oQ s.c 3 s.w s.t s.A
        exact ⟨fun a => absurd a (by decide), fun _ _ => g2 (by omega) (by omega), fun a => absurd a (by decide), fun _ => g4 (by omega), fun a => absurd a (by decide), fun a => absurd a (by decide), g7⟩
      · by_cases f3 : x = 59
        · rw [tk4c r f f2 f3] at e
          have e := Option.some.inj e
          subst e
          exact okQ_beg s
        · rw [tk4n r f f2 f3] at e
          cases e
  · by_cases f3 : x = 59
    · rw [tk5 r f3] at e
      have e := Option.some.inj e
      subst e
      exact okQ_beg s
    · rw [tk5n r f3] at e
      cases e
theorem ok_tks {X : Int → Int} : ∀ (n : Nat) (a : Int) (s s2 : rS), (∀ q, a ≤ q → q < a + (n : Int) → 0 ≤ X q ∧ X q ≤ 200) → okR s → okQ s → tks X n a s = some s2 → okR s2 ∧ okQ s2 := by
  intro n
  induction n with
  | zero =>
    intro a s s2 _ h g e
    have e := Option.some.inj e
    subst e
    exact ⟨h, g⟩
  | succ n ih =>
    intro a s s2 hX h g e
    unfold tks at e
    cases f : tk s (X a) with
    | none => rw [f] at e; cases e
    | some s3 =>
      rw [f] at e
      exact ih (a + 1) s3 s2 (fun q q1 q2 => hX q (by omega) (by omega)) (okR_tk h (hX a (Int.le_refl a) (by omega)) f) (okQ_tk h g f) e
theorem tks_none {X : Int → Int} {n m : Nat} {a : Int} {s s1 s2 : rS} (h : tks X n a s = some s1) (h2 : tks X m a s = some s2) (hn : n < m) : tk s1 (X (a + (n : Int))) ≠ none := by
  intro g
  have e := tks_add n (m - n) a s s1 h
  rw [show n + (m - n) = m by omega, h2] at e
  rw [show m - n = (m - n - 1) + 1 by omega] at e
  unfold tks at e
  rw [g] at e
  cases e
theorem doesP_5 {w : Nat} {t x c : Int} {A S S2 : Int → Int} {z : Int} (h : doesP w t x c A S S2 z) (hw : w = 5) : z = 0 ∧ S2 = up S 2 x := by
  unfold doesP at h
  rcases h with ⟨v, -⟩ | ⟨v, -⟩ | ⟨v, -⟩ | ⟨v, -⟩ | ⟨v, -⟩ | ⟨v, a, b⟩ | ⟨v, -⟩ | ⟨v, -⟩
  all_goals first | (exfalso; omega) | exact ⟨a, b⟩
theorem doesP_6 {w : Nat} {t x c : Int} {A S S2 : Int → Int} {z : Int} (h : doesP w t x c A S S2 z) (hw : w = 6) : z = 0 ∧ S2 = up S 3 x := by
  unfold doesP at h
  rcases h with ⟨v, -⟩ | ⟨v, -⟩ | ⟨v, -⟩ | ⟨v, -⟩ | ⟨v, -⟩ | ⟨v, -⟩ | ⟨v, a, b⟩ | ⟨v, -⟩
  all_goals first | (exfalso; omega) | exact ⟨a, b⟩
theorem doesP_7 {w : Nat} {t x c : Int} {A S S2 : Int → Int} {z : Int} (h : doesP w t x c A S S2 z) (hw : w = 7) : z = 0 ∧ S2 = up S 4 x := by
  unfold doesP at h
  rcases h with ⟨v, -⟩ | ⟨v, -⟩ | ⟨v, -⟩ | ⟨v, -⟩ | ⟨v, -⟩ | ⟨v, -⟩ | ⟨v, -⟩ | ⟨v, a, b⟩
  all_goals first | (exfalso; omega) | exact ⟨a, b⟩
theorem lnm_hi {s : rS} (h : okQ s) (h2 : okR s) : lnm s.A s.c ≤ whi s.w := by
  have r := wnum_rng h2.2.2.2.2.1
  unfold lnm
  split
  · exact h.2.2.2.2.2.2 _ (by omega) (by omega)
  · omega
theorem whi_12 {w : Nat} (h : w = 1 ∨ w = 2) : whi w = 12 := by
  rcases h with rfl | rfl <;> rfl
theorem tun_mem {z o : Nat} (x : Int) : ∀ i, i = tun x z o ∨ i = tun x z o + 1 → i ∈ [29, z, z + 1, o, o + 1] := by
  intro i hi
  have w := tun_or x z o
  simp only [List.mem_cons, List.not_mem_nil, or_false]
  omega
theorem c_X8_doPart {d : Nat} {hp : xH} {kp cl od : Int} (h28 : xat hp 28 = some (.inr (8, [.ref 29, .ref 34, .ref 35, yi kp, .ref 40, yi cl, .ref 41, .ref 43, yi od, .ref 56, .ref 58]))) {z o : Nat} {S f g : Int → Int} {r t : Int} (hS : yS hp 29 z o S f g r t) {s : rS} (hr : rdr hp s) (hok : okR s) (hq : okQ s) (hp45 : s.p = 4 ∨ s.p = 5) (hC : yC hp) (hz : 0 ≤ S 0 ∧ S 0 ≤ 20 ∧ 0 ≤ S 1 ∧ S 1 ≤ 20) (h0 : ∀ q, 0 ≤ q → q < S 0 → 0 ≤ S (7 + q) ∧ S (7 + q) ≤ 60) (h1 : ∀ q, 0 ≤ q → q < S 1 → 0 ≤ S (27 + q) ∧ S (27 + q) ≤ 60) {S2 : Int → Int} {zz : Int} (hP : doesP s.w s.t (lnm s.A s.c) s.c s.A S S2 zz) (hd : 4 ≤ d) : Cv d 132 [.ref 28] hp (yR (some (yi zz)) (fun h => (∃ f2 g2, yS h 29 z o S2 f2 g2 r t) ∧ yfr [29, z, (z + 1), o, (o + 1)] hp h)) := by
  have hk : xtab 132 = (xc_132, 2, 1, []) := rfl
  obtain ⟨d, rfl⟩ : ∃ e, d = e + 1 := ⟨d - 1, by omega⟩
  have hS0 := hS
  have hok0 := hok
  have hq0 := hq
  have hl := lnm_rng hok
  have hh := lnm_hi hq hok
  have wt := wht_or s.w
  have wn := whn_or s.w
  obtain ⟨o1, o2, o3, o4, o5, o6, o7, o8, o9, o10⟩ := hok0
  obtain ⟨q1, q2, q3, q4, q5, q6, q7⟩ := hq0
  have wm := wnum_rng o5
  have w12 := fun h => whi_12 (w := s.w) h
  have w0 : 0 ≤ s.t → s.t ≤ 1 → 0 ≤ S (0 + s.t) ∧ S (0 + s.t) ≤ 20 := fun a b => by rcases (by omega : s.t = 0 ∨ s.t = 1) with e | e <;> rw [e] <;> first | exact ⟨hz.1, hz.2.1⟩ | exact ⟨hz.2.2.1, hz.2.2.2⟩
  obtain ⟨hid, hs_, hz_, ho_, hf_, hg_, ef, eg⟩ := hS
  show Ev (d + 1) 132 0 [(0, .ref 28)] [] hp _
  refine E_run hk 1 (j' := 1) (lv' := [(0, .ref 28)]) (st' := [.ref 28]) (hp' := hp) rfl ?_
  refine E_get (v := .ref 41) hk rfl h28 rfl ?_
  refine E_get (v := .ref s.w) hk rfl hr.1 rfl ?_
  refine E_run hk 2 (j' := 5) (lv' := [(1, .ref s.w), (0, .ref 28)]) (st' := [.ref s.w]) (hp' := hp) rfl ?_
  refine E_get (v := yi (wht s.w)) hk rfl (hC.wd (w := s.w) (by omega)) rfl ?_
  refine Y_if_eq (a := (wht s.w)) (by omega) hk rfl (fun g1 => ?_) (fun g1 => ?_)
  ·
    refine E_run hk 1 (j' := 18) (lv' := [(1, .ref s.w), (0, .ref 28)]) (st' := [.ref s.w]) (hp' := hp) rfl ?_
    refine E_gets hk rfl ?_
    refine Y_ac_ne (c := s.w) (b := 5) (by omega) hk rfl (hC.wd (w := s.w) (by omega)) (hC.wd (w := 5) (by omega)) (fun g2 => ?_) (fun g2 => ?_)
    ·
      refine E_run hk 1 (j' := 28) (lv' := [(1, .ref s.w), (0, .ref 28)]) (st' := [.ref s.w]) (hp' := hp) rfl ?_
      refine E_gets hk rfl ?_
      refine Y_ac_ne (c := s.w) (b := 6) (by omega) hk rfl (hC.wd (w := s.w) (by omega)) (hC.wd (w := 6) (by omega)) (fun g3 => ?_) (fun g3 => ?_)
      ·
        refine E_run hk 1 (j' := 38) (lv' := [(1, .ref s.w), (0, .ref 28)]) (st' := [.ref 28]) (hp' := hp) rfl ?_
        refine E_get (v := .ref 29) hk rfl h28 rfl ?_
        refine E_run hk 1 (j' := 40) (lv' := [(1, .ref s.w), (0, .ref 28)]) (st' := [.ref 28, .ref 29]) (hp' := hp) rfl ?_
        refine E_get (v := .ref 41) hk rfl h28 rfl ?_
        refine Y_callP hk rfl (as := [.ref 41]) (rest := [.ref 29]) (v := some (yi (lnm s.A s.c))) rfl rfl (Nat.le_of_ble_eq_true rfl) (rcv0 hr.1) (Nat.le_of_ble_eq_true rfl) (c_X4_lastNumber hr.1 hr.2 (by omega)) ?_
        refine Y_put hk rfl hs_ (by decide) (Nat.le_of_ble_eq_true rfl) rfl (fs' := [.ref z, .ref o, yi (S 2), yi (S 3), yi (lnm s.A s.c), yi r, yi t]) rfl (fun H4 e5 f6 => ?_)
        refine E_run hk 1 (j' := 44) (lv' := [(1, .ref s.w), (0, .ref 28)]) (st' := [yi 0]) (hp' := H4) rfl ?_
        exact E_ret hk rfl rfl (by
      obtain ⟨pz8, pz7⟩ := doesP_7 hP (by omega)
      subst pz7
      exact ⟨by rw [pz8], ⟨f, g, yS.num (S2 := up S 4 (lnm s.A s.c)) hS0 e5 f6 (fun q q1 => up_ne _ _ (by omega))⟩, (show yfr [29, z, (z + 1), o, (o + 1)] hp H4 from (f6.mono (by simp)))⟩)
      ·
        refine E_run hk 1 (j' := 31) (lv' := [(1, .ref s.w), (0, .ref 28)]) (st' := [.ref 28]) (hp' := hp) rfl ?_
        refine E_get (v := .ref 29) hk rfl h28 rfl ?_
        refine E_run hk 1 (j' := 33) (lv' := [(1, .ref s.w), (0, .ref 28)]) (st' := [.ref 28, .ref 29]) (hp' := hp) rfl ?_
        refine E_get (v := .ref 41) hk rfl h28 rfl ?_
        refine Y_callP hk rfl (as := [.ref 41]) (rest := [.ref 29]) (v := some (yi (lnm s.A s.c))) rfl rfl (Nat.le_of_ble_eq_true rfl) (rcv0 hr.1) (Nat.le_of_ble_eq_true rfl) (c_X4_lastNumber hr.1 hr.2 (by omega)) ?_
        refine Y_put hk rfl hs_ (by decide) (Nat.le_of_ble_eq_true rfl) rfl (fs' := [.ref z, .ref o, yi (S 2), yi (lnm s.A s.c), yi (S 4), yi r, yi t]) rfl (fun H7 e8 f9 => ?_)
        refine E_run hk 2 (j' := 44) (lv' := [(1, .ref s.w), (0, .ref 28)]) (st' := [yi 0]) (hp' := H7) rfl ?_
        exact E_ret hk rfl rfl (by
      obtain ⟨pz8, pz7⟩ := doesP_6 hP (by omega)
      subst pz7
      exact ⟨by rw [pz8], ⟨f, g, yS.num (S2 := up S 3 (lnm s.A s.c)) hS0 e8 f9 (fun q q1 => up_ne _ _ (by omega))⟩, (show yfr [29, z, (z + 1), o, (o + 1)] hp H7 from (f9.mono (by simp)))⟩)
    ·
      refine E_run hk 1 (j' := 21) (lv' := [(1, .ref s.w), (0, .ref 28)]) (st' := [.ref 28]) (hp' := hp) rfl ?_
      refine E_get (v := .ref 29) hk rfl h28 rfl ?_
      refine E_run hk 1 (j' := 23) (lv' := [(1, .ref s.w), (0, .ref 28)]) (st' := [.ref 28, .ref 29]) (hp' := hp) rfl ?_
      refine E_get (v := .ref 41) hk rfl h28 rfl ?_
      refine Y_callP hk rfl (as := [.ref 41]) (rest := [.ref 29]) (v := some (yi (lnm s.A s.c))) rfl rfl (Nat.le_of_ble_eq_true rfl) (rcv0 hr.1) (Nat.le_of_ble_eq_true rfl) (c_X4_lastNumber hr.1 hr.2 (by omega)) ?_
      refine Y_put hk rfl hs_ (by decide) (Nat.le_of_ble_eq_true rfl) rfl (fs' := [.ref z, .ref o, yi (lnm s.A s.c), yi (S 3), yi (S 4), yi r, yi t]) rfl (fun H10 e11 f12 => ?_)
      refine E_run hk 2 (j' := 44) (lv' := [(1, .ref s.w), (0, .ref 28)]) (st' := [yi 0]) (hp' := H10) rfl ?_
      exact E_ret hk rfl rfl (by
      obtain ⟨pz8, pz7⟩ := doesP_5 hP (by omega)
      subst pz7
      exact ⟨by rw [pz8], ⟨f, g, yS.num (S2 := up S 2 (lnm s.A s.c)) hS0 e11 f12 (fun q q1 => up_ne _ _ (by omega))⟩, (show yfr [29, z, (z + 1), o, (o + 1)] hp H10 from (f12.mono (by simp)))⟩)
  ·
    have tq := q4 (by omega) (by omega)
    refine E_run hk 3 (j' := 10) (lv' := [(1, .ref s.w), (0, .ref 28)]) (st' := [.ref 28, .ref s.w, .ref 28]) (hp' := hp) rfl ?_
    refine E_get (v := .ref 29) hk rfl h28 rfl ?_
    refine E_run hk 1 (j' := 12) (lv' := [(1, .ref s.w), (0, .ref 28)]) (st' := [.ref 28, .ref 29, .ref s.w, .ref 28]) (hp' := hp) rfl ?_
    refine E_get (v := .ref 41) hk rfl h28 rfl ?_
    refine E_get (v := yi s.t) hk rfl hr.1 rfl ?_
    have u13 := yS.tun (x := s.t) (show yS hp 29 z o S f g _ _ from ⟨hid, hs_, hz_, ho_, hf_, hg_, ef, eg⟩) (by omega)
    refine Y_callP hk rfl (as := [.ref 29, yi s.t]) (rest := [.ref s.w, .ref 28]) (v := some (.ref (tun s.t z o))) rfl rfl (Nat.le_of_ble_eq_true rfl) (rcv0 hs_) (Nat.le_of_ble_eq_true rfl) (c_X5_tuneOf ⟨hid, hs_, hz_, ho_, hf_, hg_, ef, eg⟩ (x := s.t) (by omega)) ?_
    have w1 := w0 (by omega) (by omega)
    refine Y_callE hk rfl (as := [.ref 28, .ref s.w, .ref (tun s.t z o)]) (rest := []) rfl rfl (Nat.le_of_ble_eq_true rfl) (rcv0 h28) (Nat.le_of_ble_eq_true rfl) (c_X8_doWithTune h28 hr.1 hr.2 hC (by omega) (by omega) (a := (tun s.t z o)) (b := ((tun s.t z o) + 1)) ⟨(tid hid s.t).1, (tid hid s.t).2.1, (tid hid s.t).2.2.1, (Ne.symm (tok hid s.t (by unfold apart; decide)).1), (Ne.symm (tok hid s.t (by unfold apart; decide)).1), (Ne.symm (tok hid s.t (by unfold apart; decide)).2), (Ne.symm (tok hid s.t (by unfold apart; decide)).2)⟩ u13.1 u13.2.1 (by omega) (fun q a b => by rw [u13.2.2 q a b]; rcases (by omega : s.t = 0 ∨ s.t = 1) with e | e <;> rw [e] at b ⊢ <;> first | exact h0 q a b | exact h1 q a b) (by omega) (fun w9 => by have := w12 w9; omega) ⟨(Ne.symm (tok hid s.t (by unfold apart; decide)).1), (Ne.symm (tok hid s.t (by unfold apart; decide)).2)⟩ (hd := by omega)) (fun z14 H15 r16 => ?_)
    obtain ⟨n_H15, g_H15, d_H15, a_H15, b_H15, f_H15⟩ := r16
    exact E_ret hk rfl rfl (by
      obtain ⟨d1, d2, d3, d4, d5, d6⟩ := doT_P (by omega) (by omega) hz u13.2.2 (by omega) d_H15 hP
      exact ⟨by rw [d1], yS_set hS0 (x := s.t) (by omega) a_H15 b_H15 f_H15 (fun i hi => by simpa using hi) d2 d3 d4 d5 d6, f_H15.mono (fun i hi => tun_mem (z := z) (o := o) s.t i (by simpa using hi))⟩)
