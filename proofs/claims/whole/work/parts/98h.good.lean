/-! What the reference does of a part is what the reader was given. -/
theorem doesP_nz {w : Nat} {t x c z : Int} {A S S2 : Int → Int} (h : doesP w t x c A S S2 z) (hz : z ≠ 0) : S2 = S := by
  unfold doesP at h
  rcases h with ⟨-, ⟨-, -, h⟩ | ⟨h, -⟩⟩ | ⟨-, ⟨-, -, h⟩ | ⟨h, -⟩⟩ | ⟨-, ⟨-, -, h⟩ | ⟨h, -⟩⟩ | ⟨-, ⟨-, -, h⟩ | ⟨h, -⟩⟩ | ⟨-, h, -⟩ | ⟨-, h, -⟩ | ⟨-, h, -⟩ | ⟨-, h, -⟩ <;> first | exact h | exact absurd h hz
theorem doesP_rec {o : Nat} {B C S S2 : Int → Int} {q m k z : Int} {s : rS} (h : doesP o (B (q + 1)) (B (q + 2)) (B (q + 4)) (fun i => C (B (q + 3) + i)) S S2 z) (r : rec1 B C q m k o s) (hw : s.w = o) : doesP s.w s.t (lnm s.A s.c) s.c s.A S S2 z := by
  obtain ⟨-, r2, r3, r4⟩ := r
  rw [hw]
  unfold doesP at h ⊢
  rcases h with ⟨w0, h⟩ | ⟨w0, h⟩ | ⟨w0, h⟩ | ⟨w0, h⟩ | ⟨w0, h⟩ | ⟨w0, h⟩ | ⟨w0, h⟩ | ⟨w0, h⟩
  · obtain ⟨a1, a2, a3, a4⟩ := r4 w0
    have e1 := r2 (by omega)
    rw [e1, a2, a1] at h
    refine Or.inl ⟨w0, ?_⟩
    rcases h with h | ⟨h1, h2, h3, h4, h5⟩
    · exact Or.inl h
    · exact Or.inr ⟨h1, h2, h3, fun i i0 i1 => (h4 i i0 i1).trans (a4 i i0 (by omega)), h5⟩
  · rw [r2 (by omega), r3 (Or.inl w0)] at h
    exact Or.inr (Or.inl ⟨w0, h⟩)
  · rw [r2 (by omega), r3 (Or.inr (Or.inl w0))] at h
    exact Or.inr (Or.inr (Or.inl ⟨w0, h⟩))
  · rw [r2 (by omega)] at h
    exact Or.inr (Or.inr (Or.inr (Or.inl ⟨w0, h⟩)))
  · rw [r2 (by omega)] at h
    exact Or.inr (Or.inr (Or.inr (Or.inr (Or.inl ⟨w0, h⟩))))
  · rw [r3 (Or.inr (Or.inr (by omega)))] at h
    exact Or.inr (Or.inr (Or.inr (Or.inr (Or.inr (Or.inl ⟨w0, h⟩)))))
  · rw [r3 (Or.inr (Or.inr (by omega)))] at h
    exact Or.inr (Or.inr (Or.inr (Or.inr (Or.inr (Or.inr (Or.inl ⟨w0, h⟩))))))
  · rw [r3 (Or.inr (Or.inr (by omega)))] at h
    exact Or.inr (Or.inr (Or.inr (Or.inr (Or.inr (Or.inr (Or.inr ⟨w0, h⟩))))))
theorem okS_pa {S : Int → Int} (h : okS S) : ∀ t x, 0 ≤ t → t ≤ 1 → 0 ≤ x → x < S (0 + t) → 0 ≤ S (7 + 20 * t + x) ∧ S (7 + 20 * t + x) ≤ 60 := by
  intro t x t0 t1 x0 x1
  rcases (by omega : t = 0 ∨ t = 1) with e | e
  · subst e
    exact h.2.1 x x0 x1
  · subst e
    exact h.2.2.1 x x0 x1
theorem okS_of {S S2 : Int → Int} {t n : Int} (h : okS S) (ht : 0 ≤ t ∧ t ≤ 1) (hn : 0 ≤ n ∧ n ≤ 20) (e : S2 (0 + t) = n) (hq : ∀ q, 0 ≤ q → q < n → 0 ≤ S2 (7 + 20 * t + q) ∧ S2 (7 + 20 * t + q) ≤ 60) (ho : ∀ q, q ≠ 0 + t → ¬ (7 + 20 * t ≤ q ∧ q < 27 + 20 * t) → S2 q = S q) : okS S2 := by
  obtain ⟨h1, h2, h3, h4⟩ := h
  have e2 := ho 2 (by omega) (by omega)
  have e3 := ho 3 (by omega) (by omega)
  have e4 := ho 4 (by omega) (by omega)
  have e5 := ho 5 (by omega) (by omega)
  have e6 := ho 6 (by omega) (by omega)
  rcases (by omega : t = 0 ∨ t = 1) with x | x
  · subst x
    have e1 := ho 1 (by omega) (by omega)
    have e : S2 0 = n := e
    refine ⟨by omega, fun q q0 q1 => hq q q0 (by omega), fun q q0 q1 => ?_, by omega⟩
    rw [ho (27 + q) (by omega) (by omega)]
    exact h3 q q0 (by omega)
  · subst x
    have e1 := ho 0 (by omega) (by omega)
    have e : S2 1 = n := e
    refine ⟨by omega, fun q q0 q1 => ?_, fun q q0 q1 => hq q q0 (by omega), by omega⟩
    rw [ho (7 + q) (by omega) (by omega)]
    exact h2 q q0 (by omega)
theorem okS_num {S : Int → Int} {k x : Int} (h : okS S) (hk : (k = 2 ∧ 0 ≤ x ∧ x ≤ 20) ∨ (k = 3 ∧ 0 ≤ x ∧ x ≤ 50) ∨ (k = 4 ∧ 0 ≤ x ∧ x ≤ 3)) : okS (up S k x) := by
  obtain ⟨h1, h2, h3, h4⟩ := h
  have g : ∀ q, q ≠ 2 → q ≠ 3 → q ≠ 4 → up S k x q = S q := fun q a b c => up_ne _ _ (by omega)
  have g0 := g 0 (by omega) (by omega) (by omega)
  have g1 := g 1 (by omega) (by omega) (by omega)
  have g5 := g 5 (by omega) (by omega) (by omega)
  have g6 := g 6 (by omega) (by omega) (by omega)
  refine ⟨?_, fun q q0 q1 => by rw [g (7 + q) (by omega) (by omega) (by omega)]; exact h2 q q0 (by omega), fun q q0 q1 => by rw [g (27 + q) (by omega) (by omega) (by omega)]; exact h3 q q0 (by omega), by omega⟩
  rcases hk with ⟨rfl, k1, k2⟩ | ⟨rfl, k1, k2⟩ | ⟨rfl, k1, k2⟩
  · have a := up_self S 2 x
    have b := up_ne S x (show (3 : Int) ≠ 2 by decide)
    have c := up_ne S x (show (4 : Int) ≠ 2 by decide)
    omega
  · have a := up_self S 3 x
    have b := up_ne S x (show (2 : Int) ≠ 3 by decide)
    have c := up_ne S x (show (4 : Int) ≠ 3 by decide)
    omega
  · have a := up_self S 4 x
    have b := up_ne S x (show (2 : Int) ≠ 4 by decide)
    have c := up_ne S x (show (3 : Int) ≠ 4 by decide)
    omega
theorem whi_le {w : Nat} : (w = 0 → whi w = 60) ∧ (w = 5 → whi w = 20) ∧ (w = 6 → whi w = 50) ∧ (w = 7 → whi w = 3) := by
  refine ⟨?_, ?_, ?_, ?_⟩ <;> (rintro rfl; rfl)
theorem okS_does {S S2 : Int → Int} {s : rS} {z : Int} (h : okS S) (h1 : okR s) (h2 : okQ s) (h45 : s.p = 4 ∨ s.p = 5) (D : doesP s.w s.t (lnm s.A s.c) s.c s.A S S2 z) : okS S2 := by
  by_cases hz : z = 0
  · have lr := lnm_rng h1
    have lh := lnm_hi h2 h1
    have w1 := wht_or s.w
    obtain ⟨a1, a2, a3, a4, a5, a6, a7, a8, a9, a10⟩ := h1
    have pa := okS_pa h
    have ln : ∀ t, 0 ≤ t → t ≤ 1 → 0 ≤ S (0 + t) ∧ S (0 + t) ≤ 20 := fun t t0 t1 => by
      obtain ⟨h9, -⟩ := h
      rcases (by omega : t = 0 ∨ t = 1) with e | e
      · subst e
        exact ⟨h9.1, h9.2.1⟩
      · subst e
        exact ⟨h9.2.2.1, h9.2.2.2.1⟩
    have tt : s.w < 5 → 0 ≤ s.t ∧ s.t ≤ 1 := fun q => h2.2.2.2.1 (by omega) (by omega)
    obtain ⟨b1, b5, b6, b7⟩ := whi_le (w := s.w)
    unfold doesP at D
    rcases D with ⟨w0, ⟨e, -⟩ | ⟨-, d1, d2, d3, d4⟩⟩ | ⟨w0, ⟨e, -⟩ | ⟨-, d1, d2, d3⟩⟩ | ⟨w0, ⟨e, -⟩ | ⟨-, d1, d2, d3⟩⟩ | ⟨w0, ⟨e, -⟩ | ⟨-, d1, d2, d3, d4⟩⟩ | ⟨w0, -, d1, d2⟩ | ⟨w0, -, d1⟩ | ⟨w0, -, d1⟩ | ⟨w0, -, d1⟩
    · omega
    · have t1 := tt (by omega)
      exact okS_of h t1 ⟨a1, d1⟩ d2 (fun q q0 q1 => by rw [d3 q q0 q1]; exact a10 q q0 q1) (fun q q0 q1 => d4 q q0 (by omega))
    · omega
    · have t1 := tt (by omega)
      exact okS_of h t1 (ln _ t1.1 t1.2) (d3 _ (by have := (ln _ t1.1 t1.2).2; omega)) (fun q q0 q1 => by rw [d2 q q0 q1]; exact d1 q q0 q1) (fun q q0 q1 => d3 q (by have := (ln _ t1.1 t1.2).2; omega))
    · omega
    · have t1 := tt (by omega)
      exact okS_of h t1 (ln _ t1.1 t1.2) (d3 _ (by have := (ln _ t1.1 t1.2).2; omega)) (fun q q0 q1 => by rw [d2 q q0 q1]; exact d1 q q0 q1) (fun q q0 q1 => d3 q (by have := (ln _ t1.1 t1.2).2; omega))
    · omega
    · have t1 := tt (by omega)
      have l1 := ln _ t1.1 t1.2
      exact okS_of h t1 ⟨by omega, d1⟩ d3 (fun q q0 q1 => by rw [d2 q q0 q1]; exact pa s.t (q / 2) t1.1 t1.2 (by omega) (by omega)) (fun q q0 q1 => d4 q q0 (by omega))
    · have t1 := tt (by omega)
      have l1 := ln _ t1.1 t1.2
      exact okS_of h t1 l1 (d2 _ (by omega)) (fun q q0 q1 => by rw [d1 q q0 q1]; exact pa s.t (S (0 + s.t) - 1 - q) t1.1 t1.2 (by omega) (by omega)) (fun q q0 q1 => d2 q (by omega))
    · rw [d1]
      exact okS_num h (Or.inl ⟨rfl, by omega, by have := b5 w0; omega⟩)
    · rw [d1]
      exact okS_num h (Or.inr (Or.inl ⟨rfl, by omega, by have := b6 w0; omega⟩))
    · rw [d1]
      exact okS_num h (Or.inr (Or.inr ⟨rfl, by omega, by have := b7 w0; omega⟩))
  · rw [doesP_nz D hz]
    exact h
/-- what is recorded of a part that the reader took -/
def rcd (B : Int → Int) (q : Int) (o : Nat) : Prop := o < 8 ∧ B q = wcd o ∧ (o < 5 → 0 ≤ B (q + 1) ∧ B (q + 1) ≤ 1) ∧ ((o = 1 ∨ o = 2) → 0 ≤ B (q + 2) ∧ B (q + 2) ≤ 12) ∧ (o = 0 → (0 ≤ B (q + 4) ∧ B (q + 4) ≤ 30) ∧ (0 ≤ B (q + 3) ∧ B (q + 3) + B (q + 4) ≤ 60))
theorem rcd_of {B C : Int → Int} {q m k : Int} {o : Nat} {s : rS} (r : rec1 B C q m k o s) (hw : s.w = o) (h1 : okR s) (h2 : okQ s) (h45 : s.p = 4 ∨ s.p = 5) (hm : 0 ≤ m ∧ 0 ≤ k ∧ m + k ≤ 60) : rcd B q o := by
  have lr := lnm_rng h1
  have lh := lnm_hi h2 h1
  have w1 := wht_or s.w
  obtain ⟨r1, r2, r3, r4⟩ := r
  subst hw
  refine ⟨h1.2.2.2.2.1, r1, fun q => ?_, fun q => ?_, fun q => ?_⟩
  · rw [r2 q]
    exact h2.2.2.2.1 (by omega) (by omega)
  · rw [r3 (by omega)]
    rw [whi_12 q] at lh
    exact ⟨lr.1, lh⟩
  · obtain ⟨a1, a2, a3, a4⟩ := r4 q
    have a5 := h1.2.1
    have a6 := h1.1
    omega
/-- a reader as it begins -/
def rS0 : rS := ⟨0, 0, 0, 0, 0, fun _ => 0⟩
theorem okR_0 : okR rS0 := ⟨by decide, by decide, by decide, by decide, by decide, by decide, by decide, by decide, by decide, fun q q0 q1 => absurd q1 (by show ¬ q < 0; omega)⟩
/-- a good text: its parts, and what comes of them, whatever the reader held before -/
def good (X : Int → Int) (n : Int) (S : Int → Int) (m N : Nat) (b e : Nat → Int) (Sq : Nat → Int → Int) (zz : Int) : Prop := Sq 0 = S ∧ (∀ j, j ≤ N → okS (Sq j)) ∧ ∀ s : rS, ∃ ps sE, prts X n s.beg m b e ps ∧ runs ps Sq m N zz ∧ tks X n.toNat 0 s.beg = some sE ∧ (sE.p = 4 ∨ sE.p = 5)
/-- it was done up to the part N -/
def dos (B C : Int → Int) (o : Nat → Nat) (m N : Nat) (Sq : Nat → Int → Int) (zz : Int) : Prop := N ≤ m ∧ (∀ j, j < N → doesP (o j) (B (5 * (j : Int) + 1)) (B (5 * (j : Int) + 2)) (B (5 * (j : Int) + 4)) (fun i => C (B (5 * (j : Int) + 3) + i)) (Sq j) (Sq (j + 1)) 0) ∧ ((zz = 0 ∧ N = m) ∨ (zz ≠ 0 ∧ N < m ∧ doesP (o N) (B (5 * (N : Int) + 1)) (B (5 * (N : Int) + 2)) (B (5 * (N : Int) + 4)) (fun i => C (B (5 * (N : Int) + 3) + i)) (Sq N) (Sq N) zz))
theorem glb_good {X B C S : Int → Int} {n m zz : Int} {j N : Nat} {b e mm kk : Nat → Int} {o : Nat → Nat} {Sq : Nat → Int → Int} (j1 : 1 ≤ j) (b0 : b 0 = 0)
    (hp : ∀ i, i < j → (0 ≤ b i ∧ b i ≤ e i ∧ e i ≤ n ∧ b (i + 1) = e i + 1) ∧ n59 X (b i) (e i) ∧ (i + 1 < j → e i < n ∧ X (e i) = 59) ∧ (i + 1 = j → e i = n) ∧ o i < 8 ∧ (0 ≤ mm i ∧ 0 ≤ kk i ∧ mm i + kk i ≤ m))
    (hs : ∀ s : rS, ∃ ps : Nat → rS, ∀ i, i < j → tks X (e i).toNat 0 s.beg = some (ps i) ∧ (ps i).w = o i ∧ ((ps i).p = 4 ∨ (ps i).p = 5) ∧ rec1 B C (5 * (i : Int)) (mm i) (kk i) (o i) (ps i) ∧ (i + 1 = j → n < n → X n ≠ 59 → tk (ps i) (X n) = none))
    (h0 : Sq 0 = S) (h9 : ∀ i, i ≤ N → okS (Sq i)) (D : dos B C o j N Sq zz) : good X n S j N b e Sq zz := by
  obtain ⟨d1, d2, d3⟩ := D
  refine ⟨h0, h9, fun s => ?_⟩
  obtain ⟨ps, hs⟩ := hs s
  refine ⟨ps, ps (j - 1), ⟨b0, j1, fun i hi => ?_⟩, ⟨d1, fun i hi => ?_, ?_⟩, ?_⟩
  · obtain ⟨⟨f1, f2, f3, f4⟩, f5, f6, f7, f8, f9⟩ := hp i hi
    obtain ⟨g1, g2, g3, g4, g5⟩ := hs i hi
    exact ⟨f1, f2, f3, f4, f5, g1, g3, f6, f7⟩
  · obtain ⟨g1, g2, g3, g4, g5⟩ := hs i (by omega)
    exact doesP_rec (d2 i hi) g4 g2
  · rcases d3 with d3 | ⟨x1, x2, x3⟩
    · exact Or.inl d3
    · obtain ⟨g1, g2, g3, g4, g5⟩ := hs N x2
      exact Or.inr ⟨x1, x2, doesP_rec x3 g4 g2⟩
  · obtain ⟨f1, f5, f6, f7, f8⟩ := hp (j - 1) (by omega)
    obtain ⟨g1, g2, g3, g4, g5⟩ := hs (j - 1) (by omega)
    rw [f7 (by omega)] at g1
    exact ⟨g1, g3⟩
