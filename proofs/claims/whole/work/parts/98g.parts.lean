/-! The parts of a whole text, as the reference reads them. -/
theorem tk_59 {s : rS} (h : s.p = 4 ∨ s.p = 5) : tk s 59 = some s.beg := by
  rcases h with h | h
  · exact tk4c h (by unfold dig2; omega) (by omega) rfl
  · exact tk5 h rfl
/-- the text is in error at a, or ends there too soon -/
def gbad (X : Int → Int) (n a : Int) : Prop := ∀ s : rS, ∃ s1 : rS, tks X a.toNat 0 s.beg = some s1 ∧ ((a < n ∧ tk s1 (X a) = none) ∨ (a = n ∧ ¬ (s1.p = 4 ∨ s1.p = 5)))
theorem frs_beg (s : rS) : frs s.beg := ⟨rfl, rfl, rfl⟩
theorem gbad_first {X : Int → Int} {n a : Int} (h : badp X n 0 a) (ha : 0 ≤ a ∧ a ≤ n) : gbad X n a := by
  intro s
  obtain ⟨s1, h1, h2, h3⟩ := h s.beg (frs_beg s)
  rw [show (a - 0).toNat = a.toNat by omega] at h1
  refine ⟨s1, h1, ?_⟩
  by_cases e : a = n
  · exact Or.inr ⟨e, h2⟩
  · rcases h3 with h3 | h3
    · exact absurd h3 e
    · exact Or.inl ⟨by omega, h3⟩
/-- j parts, the last one up to a; m pitches -/
def glb (X : Int → Int) (n : Int) (j : Nat) (a m : Int) (B C : Int → Int) : Prop := ∃ (b e mm kk : Nat → Int) (o : Nat → Nat), 1 ≤ j ∧ b 0 = 0 ∧ b j = a + 1 ∧ 0 ≤ m ∧
  (∀ i, i < j → (0 ≤ b i ∧ b i ≤ e i ∧ e i ≤ n ∧ b (i + 1) = e i + 1) ∧ n59 X (b i) (e i) ∧ (i + 1 < j → e i < n ∧ X (e i) = 59) ∧ (i + 1 = j → e i = a) ∧ o i < 8 ∧ (0 ≤ mm i ∧ 0 ≤ kk i ∧ mm i + kk i ≤ m)) ∧
  ∀ s : rS, ∃ ps : Nat → rS, ∀ i, i < j → tks X (e i).toNat 0 s.beg = some (ps i) ∧ (ps i).w = o i ∧ ((ps i).p = 4 ∨ (ps i).p = 5) ∧ rec1 B C (5 * (i : Int)) (mm i) (kk i) (o i) (ps i) ∧ (i + 1 = j → a < n → X a ≠ 59 → tk (ps i) (X a) = none)
theorem rec1.same {B C B' C' : Int → Int} {q m k M : Int} {o : Nat} {s : rS} (h : rec1 B C q m k o s) {Q : Int} (hB : ∀ x, x < Q → B' x = B x) (hC : ∀ x, x < M → C' x = C x) (hq : q + 4 < Q) (hm : m + k ≤ M) : rec1 B' C' q m k o s := by
  obtain ⟨h1, h2, h3, h4⟩ := h
  refine ⟨(hB _ (by omega)).trans h1, fun e => (hB _ (by omega)).trans (h2 e), fun e => (hB _ (by omega)).trans (h3 e), fun e => ?_⟩
  obtain ⟨a1, a2, a3, a4⟩ := h4 e
  exact ⟨(hB _ (by omega)).trans a1, (hB _ (by omega)).trans a2, a3, fun i i0 i1 => (hC _ (by omega)).trans (a4 i i0 i1)⟩
theorem glb_first {X B C : Int → Int} {n a k : Int} (h : okp X n 0 a B C 0 0 k) (ha : 0 ≤ a ∧ a ≤ n) (hk : 0 ≤ k) : glb X n 1 a k B C := by
  obtain ⟨h9, o, ho, h⟩ := h
  refine ⟨fun i => if i = 0 then 0 else a + 1, fun _ => a, fun _ => 0, fun _ => k, fun _ => o, Nat.le_refl 1, rfl, rfl, hk, fun i hi => ?_, fun s => ?_⟩
  · have i0 : i = 0 := by omega
    subst i0
    refine ⟨⟨Int.le_refl 0, ha.1, ha.2, rfl⟩, h9, fun q => absurd q (by omega), fun _ => rfl, ho, Int.le_refl 0, hk, ?_⟩
    show 0 + k ≤ k
    omega
  · obtain ⟨s1, h1, h2, h3, h4, h5⟩ := h s.beg (frs_beg s)
    refine ⟨fun _ => s1, fun i hi => ?_⟩
    have i0 : i = 0 := by omega
    subst i0
    rw [show (a - 0).toNat = a.toNat by omega] at h1
    exact ⟨h1, h2, h3, h5, fun _ => h4⟩
theorem glb_beg {X B C : Int → Int} {n a m : Int} {j : Nat} (h : glb X n j a m B C) (hx : a < n ∧ X a = 59) (s : rS) : 0 ≤ a ∧ ∃ s0 : rS, frs s0 ∧ tks X (a + 1).toNat 0 s.beg = some s0 := by
  obtain ⟨b, e, mm, kk, o, j1, b0, bj, m0, hp, hs⟩ := h
  obtain ⟨ps, hs⟩ := hs s
  obtain ⟨g1, g2, g3, g4, g5⟩ := hs (j - 1) (by omega)
  obtain ⟨⟨f1, f2, f3, f4⟩, f5, f6, f7, f8, f9⟩ := hp (j - 1) (by omega)
  have ea := f7 (by omega)
  rw [ea] at g1 f2
  refine ⟨by omega, (ps (j - 1)).beg, frs_beg _, ?_⟩
  rw [show (a + 1).toNat = a.toNat + 1 by omega]
  refine tks_s _ _ _ _ _ g1 ?_
  rw [show (0 : Int) + (a.toNat : Int) = a by omega, hx.2]
  exact tk_59 g3
theorem glb_bad {X B C : Int → Int} {n a m a' : Int} {j : Nat} (h : glb X n j a m B C) (hx : a < n ∧ X a = 59) (g : badp X n (a + 1) a') (ha : a + 1 ≤ a' ∧ a' ≤ n) : gbad X n a' := by
  intro s
  obtain ⟨a0, s0, k1, k2⟩ := glb_beg h hx s
  obtain ⟨s1, h1, h2, h3⟩ := g s0 k1
  refine ⟨s1, ?_, ?_⟩
  · rw [show a'.toNat = (a + 1).toNat + (a' - (a + 1)).toNat by omega, tks_add _ _ _ _ _ k2, show (0 : Int) + ((a + 1).toNat : Int) = a + 1 by omega]
    exact h1
  · by_cases e : a' = n
    · exact Or.inr ⟨e, h2⟩
    · rcases h3 with h3 | h3
      · exact absurd h3 e
      · exact Or.inl ⟨by omega, h3⟩
theorem glb_stop {X B C : Int → Int} {n a m : Int} {j : Nat} (h : glb X n j a m B C) (hx : a < n ∧ X a ≠ 59) : gbad X n a := by
  intro s
  obtain ⟨b, e, mm, kk, o, j1, b0, bj, m0, hp, hs⟩ := h
  obtain ⟨ps, hs⟩ := hs s
  obtain ⟨g1, g2, g3, g4, g5⟩ := hs (j - 1) (by omega)
  obtain ⟨f1, f5, f6, f7, f8, f9⟩ := hp (j - 1) (by omega)
  rw [f7 (by omega)] at g1
  exact ⟨_, g1, Or.inl ⟨hx.1, g5 (by omega) hx.1 hx.2⟩⟩
theorem glb_next {X B C B' C' : Int → Int} {n a m a' k : Int} {j : Nat} (h : glb X n j a m B C) (hx : a < n ∧ X a = 59) (g : okp X n (a + 1) a' B' C' (5 * (j : Int)) m k) (ha : a + 1 ≤ a' ∧ a' ≤ n) (hk : 0 ≤ k) (hB : ∀ x, x < 5 * (j : Int) → B' x = B x) (hC : ∀ x, x < m → C' x = C x) : glb X n (j + 1) a' (m + k) B' C' := by
  have hb := fun s => glb_beg h hx s
  obtain ⟨b, e, mm, kk, o, j1, b0, bj, m0, hp, hs⟩ := h
  obtain ⟨g9, p, hp8, g⟩ := g
  refine ⟨fun i => if i = j + 1 then a' + 1 else b i, fun i => if i = j then a' else e i, fun i => if i = j then m else mm i, fun i => if i = j then k else kk i, fun i => if i = j then p else o i, by omega, ?_, if_pos rfl, by omega, fun i hi => ?_, fun s => ?_⟩
  · show (if 0 = j + 1 then a' + 1 else b 0) = 0
    rw [if_neg (by omega)]
    exact b0
  · dsimp only
    by_cases ij : i = j
    · subst ij
      have a0 := (hb (⟨0, 0, 0, 0, 0, fun _ => 0⟩ : rS)).1
      rw [if_neg (by omega), if_pos rfl, if_pos rfl, if_pos rfl, if_pos rfl, if_pos rfl, bj]
      exact ⟨⟨by omega, ha.1, ha.2, rfl⟩, g9, fun q => absurd q (by omega), fun _ => rfl, hp8, m0, hk, Int.le_refl _⟩
    · obtain ⟨⟨f1, f2, f3, f4⟩, f5, f6, f7, f8, f9, f10, f11⟩ := hp i (by omega)
      rw [if_neg (by omega), if_neg ij, if_neg (by omega), if_neg ij, if_neg ij, if_neg ij]
      refine ⟨⟨f1, f2, f3, f4⟩, f5, fun q => ?_, fun q => by omega, f8, f9, f10, by omega⟩
      by_cases l : i + 1 < j
      · exact f6 l
      · rw [f7 (by omega)]
        exact hx
  · obtain ⟨ps, hs⟩ := hs s
    obtain ⟨a0, s0, k1, k2⟩ := hb s
    obtain ⟨s1, h1, h2, h3, h4, h5⟩ := g s0 k1
    refine ⟨fun i => if i = j then s1 else ps i, fun i hi => ?_⟩
    dsimp only
    by_cases ij : i = j
    · subst ij
      rw [if_pos rfl, if_pos rfl, if_pos rfl, if_pos rfl, if_pos rfl]
      refine ⟨?_, h2, h3, h5, fun _ => h4⟩
      rw [show a'.toNat = (a + 1).toNat + (a' - (a + 1)).toNat by omega, tks_add _ _ _ _ _ k2, show (0 : Int) + ((a + 1).toNat : Int) = a + 1 by omega]
      exact h1
    · obtain ⟨g1, g2, g3, g4, g5⟩ := hs i (by omega)
      obtain ⟨f1, f5, f6, f7, f8, f9, f10, f11⟩ := hp i (by omega)
      rw [if_neg ij, if_neg ij, if_neg ij, if_neg ij, if_neg ij]
      exact ⟨g1, g2, g3, g4.same hB hC (by omega) f11, fun q => by omega⟩
