/-! What is done again, kept; the text, side by side. -/
theorem doesP_uni {w : Nat} {t x c : Int} {A S S2 S3 : Int → Int} {z z' : Int} (h : doesP w t x c A S S2 z) (g : doesP w t x c A S S3 z') : z = z' ∧ S2 = S3 := by
  unfold doesP at h g
  rcases h with ⟨w0, h⟩ | ⟨w0, h⟩ | ⟨w0, h⟩ | ⟨w0, h⟩ | ⟨w0, h⟩ | ⟨w0, h⟩ | ⟨w0, h⟩ | ⟨w0, h⟩ <;> subst w0
  · rcases g with ⟨-, g⟩ | ⟨g, -⟩ | ⟨g, -⟩ | ⟨g, -⟩ | ⟨g, -⟩ | ⟨g, -⟩ | ⟨g, -⟩ | ⟨g, -⟩ <;> first | (exact absurd g (by decide)) | skip
    rcases h with ⟨a1, a2, a3⟩ | ⟨a1, a2, a3, a4, a5⟩ <;> rcases g with ⟨b1, b2, b3⟩ | ⟨b1, b2, b3, b4, b5⟩
    · exact ⟨a1.trans b1.symm, a3.trans b3.symm⟩
    · omega
    · omega
    · refine ⟨a1.trans b1.symm, funext fun q => ?_⟩
      by_cases k : q = 0 + t
      · rw [k, a3, b3]
      · by_cases k2 : 7 + 20 * t ≤ q ∧ q < 7 + 20 * t + c
        · have e := a4 (q - (7 + 20 * t)) (by omega) (by omega)
          have e2 := b4 (q - (7 + 20 * t)) (by omega) (by omega)
          rw [show 7 + 20 * t + (q - (7 + 20 * t)) = q by omega] at e e2
          exact e.trans e2.symm
        · exact (a5 q k k2).trans (b5 q k k2).symm
  · rcases g with ⟨g, -⟩ | ⟨-, g⟩ | ⟨g, -⟩ | ⟨g, -⟩ | ⟨g, -⟩ | ⟨g, -⟩ | ⟨g, -⟩ | ⟨g, -⟩ <;> first | (exact absurd g (by decide)) | skip
    rcases h with ⟨a1, a2, a3⟩ | ⟨a1, a2, a3, a4⟩ <;> rcases g with ⟨b1, b2, b3⟩ | ⟨b1, b2, b3, b4⟩
    · exact ⟨a1.trans b1.symm, a3.trans b3.symm⟩
    · exact absurd b2 a2
    · exact absurd a2 b2
    · refine ⟨a1.trans b1.symm, funext fun q => ?_⟩
      by_cases k2 : 7 + 20 * t ≤ q ∧ q < 7 + 20 * t + S (0 + t)
      · have e := a3 (q - (7 + 20 * t)) (by omega) (by omega)
        have e2 := b3 (q - (7 + 20 * t)) (by omega) (by omega)
        rw [show 7 + 20 * t + (q - (7 + 20 * t)) = q by omega] at e e2
        exact e.trans e2.symm
      · exact (a4 q k2).trans (b4 q k2).symm
  · rcases g with ⟨g, -⟩ | ⟨g, -⟩ | ⟨-, g⟩ | ⟨g, -⟩ | ⟨g, -⟩ | ⟨g, -⟩ | ⟨g, -⟩ | ⟨g, -⟩ <;> first | (exact absurd g (by decide)) | skip
    rcases h with ⟨a1, a2, a3⟩ | ⟨a1, a2, a3, a4⟩ <;> rcases g with ⟨b1, b2, b3⟩ | ⟨b1, b2, b3, b4⟩
    · exact ⟨a1.trans b1.symm, a3.trans b3.symm⟩
    · exact absurd b2 a2
    · exact absurd a2 b2
    · refine ⟨a1.trans b1.symm, funext fun q => ?_⟩
      by_cases k2 : 7 + 20 * t ≤ q ∧ q < 7 + 20 * t + S (0 + t)
      · have e := a3 (q - (7 + 20 * t)) (by omega) (by omega)
        have e2 := b3 (q - (7 + 20 * t)) (by omega) (by omega)
        rw [show 7 + 20 * t + (q - (7 + 20 * t)) = q by omega] at e e2
        exact e.trans e2.symm
      · exact (a4 q k2).trans (b4 q k2).symm
  · rcases g with ⟨g, -⟩ | ⟨g, -⟩ | ⟨g, -⟩ | ⟨-, g⟩ | ⟨g, -⟩ | ⟨g, -⟩ | ⟨g, -⟩ | ⟨g, -⟩ <;> first | (exact absurd g (by decide)) | skip
    rcases h with ⟨a1, a2, a3⟩ | ⟨a1, a2, a3, a4, a5⟩ <;> rcases g with ⟨b1, b2, b3⟩ | ⟨b1, b2, b3, b4, b5⟩
    · exact ⟨a1.trans b1.symm, a3.trans b3.symm⟩
    · omega
    · omega
    · refine ⟨a1.trans b1.symm, funext fun q => ?_⟩
      by_cases k : q = 0 + t
      · rw [k, a4, b4]
      · by_cases k2 : 7 + 20 * t ≤ q ∧ q < 7 + 20 * t + 2 * S (0 + t)
        · have e := a3 (q - (7 + 20 * t)) (by omega) (by omega)
          have e2 := b3 (q - (7 + 20 * t)) (by omega) (by omega)
          rw [show 7 + 20 * t + (q - (7 + 20 * t)) = q by omega] at e e2
          exact e.trans e2.symm
        · exact (a5 q k k2).trans (b5 q k k2).symm
  · rcases g with ⟨g, -⟩ | ⟨g, -⟩ | ⟨g, -⟩ | ⟨g, -⟩ | ⟨-, g⟩ | ⟨g, -⟩ | ⟨g, -⟩ | ⟨g, -⟩ <;> first | (exact absurd g (by decide)) | skip
    obtain ⟨a1, a3, a4⟩ := h
    obtain ⟨b1, b3, b4⟩ := g
    refine ⟨a1.trans b1.symm, funext fun q => ?_⟩
    by_cases k2 : 7 + 20 * t ≤ q ∧ q < 7 + 20 * t + S (0 + t)
    · have e := a3 (q - (7 + 20 * t)) (by omega) (by omega)
      have e2 := b3 (q - (7 + 20 * t)) (by omega) (by omega)
      rw [show 7 + 20 * t + (q - (7 + 20 * t)) = q by omega] at e e2
      exact e.trans e2.symm
    · exact (a4 q k2).trans (b4 q k2).symm
  · rcases g with ⟨g, -⟩ | ⟨g, -⟩ | ⟨g, -⟩ | ⟨g, -⟩ | ⟨g, -⟩ | ⟨-, g⟩ | ⟨g, -⟩ | ⟨g, -⟩ <;> first | (exact absurd g (by decide)) | skip
    exact ⟨h.1.trans g.1.symm, h.2.trans g.2.symm⟩
  · rcases g with ⟨g, -⟩ | ⟨g, -⟩ | ⟨g, -⟩ | ⟨g, -⟩ | ⟨g, -⟩ | ⟨g, -⟩ | ⟨-, g⟩ | ⟨g, -⟩ <;> first | (exact absurd g (by decide)) | skip
    exact ⟨h.1.trans g.1.symm, h.2.trans g.2.symm⟩
  · rcases g with ⟨g, -⟩ | ⟨g, -⟩ | ⟨g, -⟩ | ⟨g, -⟩ | ⟨g, -⟩ | ⟨g, -⟩ | ⟨g, -⟩ | ⟨-, g⟩ <;> first | (exact absurd g (by decide)) | skip
    exact ⟨h.1.trans g.1.symm, h.2.trans g.2.symm⟩
theorem prts_uni {X : Int → Int} {n : Int} {s0 : rS} {m m' : Nat} {b e b' e' : Nat → Int} {ps ps' : Nat → rS} (H : prts X n s0 m b e ps) (G : prts X n s0 m' b' e' ps') : ∀ i, i < m → i < m' → b i = b' i ∧ e i = e' i ∧ ps i = ps' i ∧ (i + 1 < m ↔ i + 1 < m') := by
  obtain ⟨h0, h1, h2⟩ := H
  obtain ⟨k0, k1, k2⟩ := G
  have step : ∀ i, i < m → i < m' → b i = b' i → e i = e' i ∧ ps i = ps' i ∧ (i + 1 < m ↔ i + 1 < m') := fun i i1 i2 ib => by
    obtain ⟨a1, a2, a3, a4, a5, a6, a7, a8, a9⟩ := h2 i i1
    obtain ⟨c1, c2, c3, c4, c5, c6, c7, c8, c9⟩ := k2 i i2
    have ee : e i = e' i := by
      rcases (by omega : e i < e' i ∨ e i = e' i ∨ e' i < e i) with x | x | x
      · by_cases y : i + 1 < m
        · exact absurd (a8 y).2 (c5 _ (by omega) x)
        · have := a9 (by omega)
          omega
      · exact x
      · by_cases y : i + 1 < m'
        · exact absurd (c8 y).2 (a5 _ (by omega) x)
        · have := c9 (by omega)
          omega
    rw [ee, c6] at a6
    refine ⟨ee, (Option.some.inj a6).symm, fun y => ?_, fun y => ?_⟩
    · by_cases z : i + 1 < m'
      · exact z
      · have := c9 (by omega)
        have := (a8 y).1
        omega
    · by_cases z : i + 1 < m
      · exact z
      · have := a9 (by omega)
        have := (c8 y).1
        omega
  intro i
  induction i with
  | zero =>
    intro i1 i2
    have ib : b 0 = b' 0 := h0.trans k0.symm
    exact ⟨ib, step 0 i1 i2 ib⟩
  | succ i ih =>
    intro i1 i2
    have w := ih (by omega) (by omega)
    obtain ⟨a1, a2, a3, a4, -⟩ := h2 i (by omega)
    obtain ⟨c1, c2, c3, c4, -⟩ := k2 i (by omega)
    have ib : b (i + 1) = b' (i + 1) := by omega
    exact ⟨ib, step (i + 1) i1 i2 ib⟩
theorem good_uni {X S : Int → Int} {n zz zz' : Int} {m m' N N' : Nat} {b e b' e' : Nat → Int} {Sq Sq' : Nat → Int → Int} (H : good X n S m N b e Sq zz) (G : good X n S m' N' b' e' Sq' zz') : N = N' ∧ zz = zz' ∧ Sq N = Sq' N' := by
  obtain ⟨h0, -, h⟩ := H
  obtain ⟨k0, -, k⟩ := G
  obtain ⟨ps, sE, a1, ⟨a2, a3, a4⟩, -⟩ := h rS0
  obtain ⟨ps', sE', c1, ⟨c2, c3, c4⟩, -⟩ := k rS0
  have u := prts_uni a1 c1
  have m1 := a1.2.1
  have m1' := c1.2.1
  have key : ∀ i, i ≤ N → i ≤ N' → Sq i = Sq' i := by
    intro i
    induction i with
    | zero => intro _ _; exact h0.trans k0.symm
    | succ i ih =>
      intro i1 i2
      have w := ih (by omega) (by omega)
      have p := a3 i (by omega)
      have p' := c3 i (by omega)
      rw [← w, ← (u i (by omega) (by omega)).2.2.1] at p'
      exact (doesP_uni p p').2
  have mm : ∀ i, i ≤ m → i ≤ m' → (i < m ↔ i < m') := by
    intro i
    cases i with
    | zero => intro _ _; omega
    | succ i => intro i1 i2; exact (u i (by omega) (by omega)).2.2.2
  rcases (by omega : N < N' ∨ N = N' ∨ N' < N) with x | x | x
  · exfalso
    have p' := c3 N x
    rcases a4 with ⟨y1, y2⟩ | ⟨y1, y2, y3⟩
    · have := mm N a2 (by omega)
      omega
    · rw [← key N (Nat.le_refl N) (by omega), ← (u N y2 (by omega)).2.2.1] at p'
      exact y1 (doesP_uni y3 p').1
  · subst x
    have kN_ := key N (Nat.le_refl N) (Nat.le_refl N)
    refine ⟨rfl, ?_, kN_⟩
    rcases a4 with ⟨y1, y2⟩ | ⟨y1, y2, y3⟩ <;> rcases c4 with ⟨x1, x2⟩ | ⟨x1, x2, x3⟩
    · omega
    · have := mm N a2 c2
      omega
    · have := mm N a2 c2
      omega
    · rw [← kN_, ← (u N y2 x2).2.2.1] at x3
      exact (doesP_uni y3 x3).1
  · exfalso
    have p := a3 N' x
    rcases c4 with ⟨y1, y2⟩ | ⟨y1, y2, y3⟩
    · have := mm N' (by omega) c2
      omega
    · rw [key N' (by omega) (Nat.le_refl N'), (u N' (by omega) y2).2.2.1] at p
      exact y1 (doesP_uni y3 p).1
theorem prts.cong {X Y : Int → Int} {n : Int} {s0 : rS} {m : Nat} {b e : Nat → Int} {ps : Nat → rS} (H : prts X n s0 m b e ps) (h : ∀ q, 0 ≤ q → q < n → Y q = X q) : prts Y n s0 m b e ps := by
  obtain ⟨h0, h1, h2⟩ := H
  refine ⟨h0, h1, fun i hi => ?_⟩
  obtain ⟨a1, a2, a3, a4, a5, a6, a7, a8, a9⟩ := h2 i hi
  refine ⟨a1, a2, a3, a4, fun q q1 q2 => by rw [h q (by omega) (by omega)]; exact a5 q q1 q2, ?_, a7, fun y => ⟨(a8 y).1, by rw [h _ (by omega) (a8 y).1]; exact (a8 y).2⟩, a9⟩
  rw [tks_cong _ _ _ (fun q q1 q2 => h q q1 (by omega))]
  exact a6
theorem good.cls {X Y S : Int → Int} {n zz : Int} {m N : Nat} {b e : Nat → Int} {Sq : Nat → Int → Int} (H : good X n S m N b e Sq zz) (hn : 0 ≤ n) (h : ∀ q, 0 ≤ q → q < n → Y q = X q) : ∀ s : rS, ∃ ps sE, prts Y n s.beg m b e ps ∧ runs ps Sq m N zz ∧ tks Y n.toNat 0 s.beg = some sE ∧ (sE.p = 4 ∨ sE.p = 5) := by
  intro s
  obtain ⟨-, -, g⟩ := H
  obtain ⟨ps, sE, g1, g2, g3, g4⟩ := g s
  exact ⟨ps, sE, g1.cong h, g2, by rw [tks_cong _ _ _ (fun q q1 q2 => h q q1 (by omega))]; exact g3, g4⟩
theorem gbad.rds {X Y : Int → Int} {n a : Int} (H : gbad X n a) (ha : 0 ≤ a ∧ a ≤ n) (h : ∀ q, 0 ≤ q → q < n → Y q = X q) (s : rS) : rdsto Y n a s.beg := by
  obtain ⟨s1, g1, g2⟩ := H s
  refine ⟨ha.1, ha.2, s1, by rw [tks_cong _ _ _ (fun q q1 q2 => h q q1 (by omega))]; exact g1, ?_⟩
  rcases g2 with ⟨g2, g3⟩ | ⟨g2, -⟩
  · exact Or.inr ⟨g2, by rw [h a ha.1 g2]; exact g3⟩
  · exact Or.inl g2
theorem gbad.no {X Y : Int → Int} {n a : Int} (H : gbad X n a) (ha : 0 ≤ a ∧ a ≤ n) (h : ∀ q, 0 ≤ q → q < n → Y q = X q) (s : rS) : ¬ ∃ sE, tks Y n.toNat 0 s.beg = some sE ∧ (sE.p = 4 ∨ sE.p = 5) := by
  rintro ⟨sE, e1, e2⟩
  rw [tks_cong _ _ _ (fun q q1 q2 => h q q1 (by omega))] at e1
  obtain ⟨s1, g1, g2⟩ := H s
  rcases g2 with ⟨g2, g3⟩ | ⟨g2, g3⟩
  · have w := tks_none g1 e1 (by omega)
    rw [show (0 : Int) + (a.toNat : Int) = a by omega] at w
    exact w g3
  · rw [g2, e1] at g1
    have := Option.some.inj g1
    subst this
    exact g3 e2
theorem kN.of {h : xH} {z o : Nat} {S S2 f g : Int → Int} {r t zz : Int} {N : Nat} (H : yS h 29 z o S f g r t) (e : S2 = up (up S 5 (if zz = 0 then -1 else (N : Int))) 6 zz) (er : r = (if zz = 0 then 0 else zz)) (et : t = (if zz = 0 then 0 else (N : Int))) (hz : 0 ≤ zz ∧ zz ≤ 2) (k : okS S) (hN : N ≤ 60) : kN h S2 ∧ okS S2 := by
  have u : ∀ q, q ≠ 5 → q ≠ 6 → S2 q = S q := fun q q1 q2 => by rw [e, up_ne _ _ q2, up_ne _ _ q1]
  have u5 : S2 5 = (if zz = 0 then -1 else (N : Int)) := by rw [e, up_ne _ _ (by decide), up_self]
  have u6 : S2 6 = zz := by rw [e, up_self]
  have u0 := u 0 (by decide) (by decide)
  have u1 := u 1 (by decide) (by decide)
  have u2 := u 2 (by decide) (by decide)
  have u3 := u 3 (by decide) (by decide)
  have u4 := u 4 (by decide) (by decide)
  obtain ⟨k1, k2, k3, k4⟩ := k
  obtain ⟨hid, e1, e2, e3, e4, e5, ef, eg⟩ := H
  refine ⟨⟨z, o, f, g, r, t, ⟨hid, by rw [u2, u3, u4]; exact e1, by rw [u0]; exact e2, by rw [u1]; exact e3, e4, e5, fun q q1 q2 => by rw [u (7 + q) (by omega) (by omega)]; exact ef q q1 (by omega), fun q q1 q2 => by rw [u (27 + q) (by omega) (by omega)]; exact eg q q1 (by omega)⟩, ?_⟩, by omega, fun q q1 q2 => by rw [u (7 + q) (by omega) (by omega)]; exact k2 q q1 (by omega), fun q q1 q2 => by rw [u (27 + q) (by omega) (by omega)]; exact k3 q q1 (by omega), ?_⟩
  · by_cases c : zz = 0
    · rw [if_pos c] at u5 er
      exact Or.inl ⟨u5, er⟩
    · rw [if_neg c] at u5 er et
      exact Or.inr ⟨by omega, by omega, by omega, by omega, by omega⟩
  · by_cases c : zz = 0
    · rw [if_pos c] at u5
      exact Or.inl u5
    · rw [if_neg c] at u5
      exact Or.inr ⟨by omega, by omega, by omega, by omega⟩
theorem hmt_uni {S p q p' q' : Int → Int} {c c' : Int} {h : Int64} (a : mtc S c p q) (b : mtc S c' p' q') : hmt S p q c h = hmt S p' q' c' h := by
  obtain ⟨rfl, e⟩ := mtc_uni a b
  have e1 : hs2 p q h c.toNat = hs2 p' q' h c.toNat := hs2_cong _ (fun x x0 x1 => e x x0 (by omega))
  have c1 : ∀ x, cnt p x c.toNat = cnt p' x c.toNat := fun x => cnt_cong _ (fun y y1 y2 => (e y y1 (by omega)).1)
  have c2 : ∀ x, cnt q x c.toNat = cnt q' x c.toNat := fun x => cnt_cong _ (fun y y1 y2 => (e y y1 (by omega)).2)
  unfold hmt hst
  rw [e1, lng_cong c1, lng_cong c2, show (fun k => cnt p k c.toNat) = fun k => cnt p' k c.toNat from funext c1, show (fun k => cnt q k c.toNat) = fun k => cnt q' k c.toNat from funext c2]
theorem hct_uni {S : Int → Int} {c c' e e' n n' k : Int} {h : Int64} (m : 0 < S 0 ∧ 0 < S 1 ∧ -S 2 ≤ S 0 - S 1 ∧ S 0 - S 1 ≤ S 2 → c = c' ∧ e = e' ∧ n = n') : hct S c e n k h = hct S c' e' n' k h := by
  by_cases g : 0 < S 0 ∧ 0 < S 1 ∧ -S 2 ≤ S 0 - S 1 ∧ S 0 - S 1 ≤ S 2
  · obtain ⟨a1, a2, a3⟩ := m g
    rw [a1, a2, a3]
  · unfold hct
    rw [hc1_f g, hc1_f g]
