/-! The class: its state is saved. -/
theorem c_X8_saveState {d : Nat} {hp : xH} {kp cl od : Int} (h28 : xat hp 28 = some (.inr (8, [.ref 29, .ref 34, .ref 35, yi kp, .ref 40, yi cl, .ref 41, .ref 43, yi od, .ref 56, .ref 58]))) {z o : Nat} {S f g : Int → Int} {r t : Int} (hS : yS hp 29 z o S f g r t) (hN : 63 ≤ hp.1) (h26 : xat hp 26 = some (yO 0 (fun _ => .null))) {n : Int} {T : Int → Int} (hv : ySv hp n T) (hn : 0 ≤ n ∧ n ≤ 6) (hok : okS S) (hst : ystp S r t) (hd : 4 ≤ d) : Cv d 94 [.ref 28] hp (yR none (fun h => xat h 28 = some (.inr (8, [.ref 29, .ref 34, .ref 35, yi kp, .ref 40, yi cl, .ref 41, .ref 43, yi 1, .ref 56, .ref 58])) ∧ (∀ U, recd n S T U → ySv h (if n = 6 then 6 else n + 1) U) ∧ yfz [28, 34, 63] hp h)) := by
  obtain ⟨mc, e, F, bs, a1, a2, a3, a4⟩ := hv
  have hl : 0 ≤ S 0 ∧ S 0 ≤ 20 ∧ 0 ≤ S 1 ∧ S 1 ≤ 20 := by
    have := hok.1
    omega
  rcases a2 with ⟨b1, b2⟩ | ⟨b1, b2, b3⟩
  · rw [b1, b2] at a1
    refine Ev.imp (c_saveA h28 hS hl hN a1 h26 (hd := hd)) (fun o h q => ?_)
    obtain ⟨q1, F2, q2, q3, q4, ⟨f3, g3, q5⟩, q6, q7⟩ := q
    have q8 := And.intro q7.1 q7.2.1
    refine ⟨q1, q6, fun U hU => ?_, by omega, by omega, by omega, fun i i1 i2 => q7.2.2 i (by omega) (by simp only [List.mem_cons, List.not_mem_nil, or_false, not_or] at i2 ⊢; omega), fun i0 => absurd (by decide) i0⟩
    have es : ∀ q, 0 ≤ q → q < 47 → slc U 0 q = S q := fun q q1 q2 => by
      have w := hU.1 q q1 q2
      rw [if_neg (by omega), b2] at w
      exact w
    rw [if_neg (by omega)]
    refine ⟨mc + 1, hp.1 + 5, F2, fun _ => hp.1, by rw [b2]; exact q2, Or.inr ⟨by omega, by omega, q3⟩, fun i hi => ?_, fun i j hi hj hij => by omega⟩
    have i0 : i = 0 := by omega
    subst i0
    dsimp only
    exact ⟨q4, hN, by omega, Or.inr (by omega), hok.cong es, f3, g3, r, t, q5.cong hok es, hst.cong es⟩
  · by_cases h6 : n = 6
    · have a30 := a3 0 (by omega)
      obtain ⟨c1, c2, c3, c4, c5, f0, g0, r0, t0, c6, c7⟩ := a30
      have hX : ∀ q : Nat, (q : Int) < n → ∃ (b : Nat) (fs : List Value), F q = .ref b ∧ xat hp b = some (.inr (6, fs)) ∧ b ≠ 34 ∧ b ≠ e := fun q hq => by
        obtain ⟨d1, d2, d3, d4, d5, f1, g1, r1, t1, d6, d7⟩ := a3 q hq
        exact ⟨bs q, _, d1, d6.2.1, by omega, by omega⟩
      refine Ev.imp (c_saveC h28 hS hl hN a1 b3 b1 h6 hX c6 c1 c2 c4 (hd := hd)) (fun o h q => ?_)
      obtain ⟨q1, F2, q2, q3, q4, q5, ⟨f3, g3, q6⟩, q7, q8⟩ := q
      have hh := q8.1
      have fr : ∀ i, 63 ≤ i → i ≠ e → (i < bs 0 ∨ bs 0 + 5 ≤ i) → xat h i = xat hp i := fun i i1 i2 i3 => q8.2.2 i (by simp only [List.mem_cons, List.not_mem_nil, or_false, not_or]; omega)
      refine ⟨q1, q7, fun U hU => ?_, by omega, by omega, by rw [q8.2.1]; omega, fun i i1 i2 => q8.2.2 i (by simp only [List.mem_cons, List.not_mem_nil, or_false, not_or] at i2 ⊢; omega), fun i0 => absurd (by decide) i0⟩
      rw [if_pos h6]
      refine ⟨mc + 1 + 1, e, F2, fun i => if i = 5 then bs 0 else bs (i + 1), by rw [show (6 : Int) = n - 1 + 1 by omega]; exact q2, Or.inr ⟨b1, by omega, q3⟩, fun i hi => ?_, fun i j hi hj hij => ?_⟩
      · dsimp only
        by_cases i5 : i = 5
        · rw [i5, if_pos rfl]
          have es : ∀ q, 0 ≤ q → q < 47 → slc U 5 q = S q := fun q q1 q2 => by
            have w := hU.1 q q1 q2
            rw [if_pos h6] at w
            exact w
          rw [show (n - 1).toNat = 5 by omega] at q5
          exact ⟨q5, c2, by omega, c4, hok.cong es, f3, g3, r, t, q6.cong hok es, hst.cong es⟩
        · rw [if_neg i5]
          obtain ⟨d1, d2, d3, d4, d5, f1, g1, r1, t1, d6, d7⟩ := a3 (i + 1) (by omega)
          have dd := a4 0 (i + 1) (by omega) (by omega) (by omega)
          have es : ∀ q, 0 ≤ q → q < 47 → slc U i q = slc T (i + 1) q := fun q q1 q2 => by
            have w := hU.2 (47 * (i : Int) + q) (by omega) (by rw [if_pos h6]; omega)
            rw [if_pos h6] at w
            show U (47 * (i : Int) + q) = T (47 * ((i + 1 : Nat) : Int) + q)
            rw [w]
            congr 1
            omega
          exact ⟨(q4 i (by omega)).trans d1, d2, by omega, d4, d5.cong es, f1, g1, r1, t1, (d6.at2 (fun k k1 k2 => fr k (by omega) (by omega) (by omega))).cong d5 es, d7.cong es⟩
      · dsimp only
        by_cases i5 : i = 5 <;> by_cases j5 : j = 5
        · omega
        · rw [if_pos i5, if_neg j5]
          exact a4 0 (j + 1) (by omega) (by omega) (by omega)
        · rw [if_neg i5, if_pos j5]
          exact a4 (i + 1) 0 (by omega) (by omega) (by omega)
        · rw [if_neg i5, if_neg j5]
          exact a4 (i + 1) (j + 1) (by omega) (by omega) (by omega)
    · refine Ev.imp (c_saveB h28 hS hl hN a1 b3 b1 (by omega) b2 (hd := hd)) (fun o h q => ?_)
      obtain ⟨q1, F2, q2, q3, q4, q5, ⟨f3, g3, q6⟩, q7, q8⟩ := q
      have hh := And.intro q8.1 q8.2.1
      have fr : ∀ i, 63 ≤ i → i < hp.1 → i ≠ e → xat h i = xat hp i := fun i i1 i2 i3 => q8.2.2 i i2 (by simp only [List.mem_cons, List.not_mem_nil, or_false, not_or]; omega)
      refine ⟨q1, q7, fun U hU => ?_, by omega, by omega, by omega, fun i i1 i2 => q8.2.2 i (by omega) (by simp only [List.mem_cons, List.not_mem_nil, or_false, not_or] at i2 ⊢; omega), fun i0 => absurd (by decide) i0⟩
      rw [if_neg h6]
      refine ⟨mc + 1, e, F2, fun i => if i = n.toNat then hp.1 else bs i, q2, Or.inr ⟨b1, by omega, q3⟩, fun i hi => ?_, fun i j hi hj hij => ?_⟩
      · dsimp only
        by_cases i5 : i = n.toNat
        · rw [if_pos i5]
          have es : ∀ q, 0 ≤ q → q < 47 → slc U i q = S q := fun q q1 q2 => by
            have w := hU.1 q q1 q2
            rw [if_neg h6] at w
            show U (47 * (i : Int) + q) = S q
            rw [show (i : Int) = n by omega]
            exact w
          rw [← i5] at q5
          exact ⟨q5, hN, by omega, Or.inl b2, hok.cong es, f3, g3, r, t, q6.cong hok es, hst.cong es⟩
        · rw [if_neg i5]
          obtain ⟨d1, d2, d3, d4, d5, f1, g1, r1, t1, d6, d7⟩ := a3 i (by omega)
          have es : ∀ q, 0 ≤ q → q < 47 → slc U i q = slc T i q := fun q q1 q2 => by
            have w := hU.2 (47 * (i : Int) + q) (by omega) (by rw [if_neg h6]; omega)
            rw [if_neg h6] at w
            exact w
          exact ⟨(q4 i (by omega)).trans d1, d2, by omega, d4, d5.cong es, f1, g1, r1, t1, (d6.at2 (fun k k1 k2 => fr k (by omega) (by omega) (by omega))).cong d5 es, d7.cong es⟩
      · dsimp only
        by_cases i5 : i = n.toNat <;> by_cases j5 : j = n.toNat
        · omega
        · rw [if_pos i5, if_neg j5]
          have w := (a3 j (by omega)).2.2.1
          exact Or.inr w
        · rw [if_neg i5, if_pos j5]
          have w := (a3 i (by omega)).2.2.1
          exact Or.inl w
        · rw [if_neg i5, if_neg j5]
          exact a4 i j (by omega) (by omega) hij
