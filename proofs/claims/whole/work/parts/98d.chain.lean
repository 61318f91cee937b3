/-! What the reference reads of a part, the reader takes: step by step. -/
/-- a word stands at a -/
def iwd (X : Int → Int) (n a : Int) : Prop := ∃ o : Nat, o < 8 ∧ a + (wln o : Int) ≤ n ∧ ∀ i : Int, 0 ≤ i → i < (wln o : Int) → X (a + i) = wl o i
theorem rwd_good {X : Int → Int} {n a z a' w' : Int} (h : rwd X n a z a' w') (g : iwd X n a) : w' = 1 := by
  rcases h with ⟨h1, -⟩ | ⟨h1, h2, o, j, h3, h4, h5, h6, h7⟩
  · exact h1
  · obtain ⟨p, p1, p2, p3⟩ := g
    have r := wln_rng h3
    by_cases k : j < wln p
    · rcases h7 with h7 | h7
      · omega
      · have e := h7 p p1 (fun q q1 q2 => (p3 q q1 (by omega)).symm.trans (h6 q q1 q2))
        rw [h5] at e
        exact absurd (p3 (j : Int) (by omega) (by omega)) e
    · have b : beq p o (wln p : Int) := fun q q1 q2 => (p3 q q1 q2).symm.trans (h6 q q1 (by omega))
      have e := beq_pre1 h3 p1 b
      subst e
      omega
theorem rwd_bad {X : Int → Int} {n a z a' w' : Int} (h : rwd X n a z a' w') (g : ¬ iwd X n a) : w' = 0 := by
  rcases h with ⟨h1, h2, o, h3, h4, h5, h6⟩ | ⟨h1, -⟩
  · exact absurd ⟨o, h3, by omega, h6⟩ g
  · exact h1
def frs (s : rS) : Prop := s.p = 0 ∧ s.k = 0 ∧ s.c = 0
def badp (X : Int → Int) (n b a : Int) : Prop := ∀ s, frs s → ∃ s1 : rS, tks X (a - b).toNat b s = some s1 ∧ ¬ (s1.p = 4 ∨ s1.p = 5) ∧ (a = n ∨ tk s1 (X a) = none)
/-- so far: the reader is G s; or it stopped at an error -/
def chn (X : Int → Int) (n b a w : Int) (G : rS → rS) : Prop := (w = 1 ∧ n59 X b a ∧ ∀ s, frs s → tks X (a - b).toNat b s = some (G s)) ∨ (w = 0 ∧ badp X n b a)
theorem rwd59 {X : Int → Int} {n a z a' w' : Int} (h : rwd X n a z a' w') (hw : w' = 1) : n59 X a a' := by
  rcases h with ⟨h1, h2, o, h3, h4, h5, h6⟩ | ⟨h1, -⟩
  · intro q q1 q2
    have e := h6 (q - a) (by omega) (by omega)
    rw [show a + (q - a) = q by omega, wl_in (by omega)] at e
    have r := wb_rng h3 (i := q - a) (by omega)
    omega
  · omega
theorem ch_word {X : Int → Int} {n a z a' w' : Int} (h : rwd X n a z a' w') {o : Nat} (ho : o < 8) (hz : z = wcd o) : chn X n a a' w' (fun s => ⟨0, if wht o = 1 then 1 else 2, o, (wln o : Int), s.t, s.A⟩) := by
  rcases rwd_tks h with ⟨h1, p, h2, h3, h4, h5, h6⟩ | ⟨h1, h2, h3, h4⟩
  · have e : p = o := by
      have g : ∀ p : Fin 8, ∀ o : Fin 8, wcd p.val = wcd o.val → p = o := by decide +kernel
      exact congrArg Fin.val (g ⟨p, h2⟩ ⟨o, ho⟩ (h3.symm.trans hz))
    subst e
    refine Or.inl ⟨h1, rwd59 h h1, fun s ⟨f1, f2, f3⟩ => ?_⟩
    rw [show (a' - a).toNat = wln p by omega, h6 s f1 f2, f3]
  · refine Or.inr ⟨h1, fun s ⟨f1, f2, f3⟩ => ?_⟩
    obtain ⟨s1, g1, g2, g3⟩ := h4 s f1 f2
    exact ⟨s1, g1, by omega, g3⟩
theorem ch_take {X : Int → Int} {n b a w l u q : Int} {G : rS → rS} {G' : Int → rS → rS} (h : chn X n b a w G) (hb : b ≤ a ∧ a ≤ n) (hu : u < 59)
    (k : (q = 1 ∧ w = 1 ∧ a < n ∧ l ≤ X a ∧ X a ≤ u) ∨ (q = 0 ∧ (w = 0 ∨ (w = 1 ∧ (a = n ∨ (a < n ∧ ¬ (l ≤ X a ∧ X a ≤ u)))))))
    (h1 : ∀ s x, frs s → l ≤ x → x ≤ u → tk (G s) x = some (G' x s)) (h2 : ∀ s x, frs s → ¬ (l ≤ x ∧ x ≤ u) → tk (G s) x = none) (h3 : ∀ s, frs s → ¬ ((G s).p = 4 ∨ (G s).p = 5)) : chn X n b (a + q) q (G' (X a)) := by
  rcases k with ⟨k1, k2, k3, k4, k5⟩ | ⟨k1, k2⟩
  · subst k1
    rcases h with ⟨-, h9, h⟩ | ⟨h, -⟩
    · refine Or.inl ⟨rfl, h9.one (by omega), fun s hs => ?_⟩
      rw [show (a + 1 - b).toNat = (a - b).toNat + 1 by omega]
      refine tks_s _ _ _ _ _ (h s hs) ?_
      rw [show b + (((a - b).toNat : Nat) : Int) = a by omega]
      exact h1 s _ hs k4 k5
    · omega
  · subst k1
    rw [Int.add_zero]
    refine Or.inr ⟨rfl, ?_⟩
    rcases h with ⟨g, -, h⟩ | ⟨g, h⟩
    · intro s hs
      refine ⟨_, h s hs, h3 s hs, ?_⟩
      rcases k2 with k2 | ⟨-, k2 | ⟨-, k2⟩⟩
      · omega
      · exact Or.inl k2
      · exact Or.inr (h2 s _ hs k2)
    · exact h
theorem ch_num {X : Int → Int} {n b a w l u z a' w' : Int} {G : rS → rS} (h : chn X n b a w G) (hb : b ≤ a) (n1 : w = 1 → nmb X n l u a z a' w') (n0 : w = 0 → w' = 0 ∧ a' = a) (hG : ∀ s, frs s → nps l u (G s)) :
    chn X n b a' w' (fun s => ⟨(G s).c + 1, 4, (G s).w, (G s).k, (G s).t, up (G s).A (G s).c z⟩) ∧ (w' = 1 → a < a' ∧ a' ≤ n ∧ 0 ≤ z ∧ z ≤ u ∧ ∀ s, frs s → a' < n → ¬ dig2 ((G s).c + 1) (G s).w z (X a')) := by
  rcases h with ⟨g, h9, h⟩ | ⟨g, h⟩
  · rcases n1 g with ⟨m1, m2, m3⟩ | ⟨m1, m2, m3, m4, m5, m9, m6⟩
    · subst m2
      refine ⟨Or.inr ⟨m1, fun s hs => ⟨_, h s hs, ?_, m3 _ (hG s hs)⟩⟩, fun e => by omega⟩
      have := (hG s hs).1
      omega
    · refine ⟨Or.inl ⟨m1, h9.tr m9, fun s hs => ?_⟩, fun _ => ⟨m2, m3, m4, m5, fun s hs => (m6 _ (hG s hs)).2⟩⟩
      rw [show (a' - b).toNat = (a - b).toNat + (a' - a).toNat by omega, tks_add _ _ _ _ _ (h s hs), show b + (((a - b).toNat : Nat) : Int) = a by omega]
      exact (m6 _ (hG s hs)).1
  · obtain ⟨m1, m2⟩ := n0 g
    subst m2
    exact ⟨Or.inr ⟨m1, h⟩, fun e => by omega⟩
/-- what is recorded of a part: B from q on, its pitches in C from m on -/
def rec1 (B C : Int → Int) (q m k : Int) (o : Nat) (s : rS) : Prop := B q = wcd o ∧ (o < 5 → B (q + 1) = s.t) ∧ ((o = 1 ∨ o = 2 ∨ 5 ≤ o) → B (q + 2) = lnm s.A s.c) ∧ (o = 0 → B (q + 3) = m ∧ B (q + 4) = s.c ∧ s.c = k ∧ ∀ i, 0 ≤ i → i < k → C (m + i) = s.A i)
def okp (X : Int → Int) (n b a : Int) (B C : Int → Int) (q m k : Int) : Prop := n59 X b a ∧ ∃ o : Nat, o < 8 ∧ ∀ s, frs s → ∃ s1 : rS, tks X (a - b).toNat b s = some s1 ∧ s1.w = o ∧ (s1.p = 4 ∨ s1.p = 5) ∧ (a < n → X a ≠ 59 → tk s1 (X a) = none) ∧ rec1 B C q m k o s1
theorem ch_end5 {X : Int → Int} {n b a w : Int} {G : rS → rS} {B C : Int → Int} {q m k : Int} {o : Nat} (ho : o < 8) (h : chn X n b a w G) (h5 : w = 1 → ∀ s, frs s → (G s).p = 5 ∧ (G s).w = o ∧ rec1 B C q m k o (G s)) : (w = 1 ∧ okp X n b a B C q m k) ∨ (w = 0 ∧ badp X n b a) := by
  rcases h with ⟨g, h9, h⟩ | ⟨g, h⟩
  · refine Or.inl ⟨g, h9, o, ho, fun s hs => ?_⟩
    obtain ⟨a1, a2, a3⟩ := h5 g s hs
    exact ⟨_, h s hs, a2, Or.inr a1, fun _ e => tk5n a1 e, a3⟩
  · exact Or.inr ⟨g, h⟩
theorem ch_end4 {X : Int → Int} {n b a w : Int} {G : rS → rS} {B C : Int → Int} {q m k : Int} {o : Nat} (ho : o < 8) (h0 : o ≠ 0) (h : chn X n b a w G) (hd : w = 1 → ∀ s, frs s → a < n → ¬ dig2 (G s).c (G s).w (lnm (G s).A (G s).c) (X a)) (h5 : w = 1 → ∀ s, frs s → (G s).p = 4 ∧ (G s).w = o ∧ rec1 B C q m k o (G s)) : (w = 1 ∧ okp X n b a B C q m k) ∨ (w = 0 ∧ badp X n b a) := by
  rcases h with ⟨g, h9, h⟩ | ⟨g, h⟩
  · refine Or.inl ⟨g, h9, o, ho, fun s hs => ?_⟩
    obtain ⟨a1, a2, a3⟩ := h5 g s hs
    exact ⟨_, h s hs, a2, Or.inl a1, fun e1 e2 => tk4n a1 (hd g s hs e1) (fun e => h0 (a2.symm.trans e.2)) e2, a3⟩
  · exact Or.inr ⟨g, h⟩
theorem ch_pit {X : Int → Int} {n b a w a' w' k : Int} {G : rS → rS} {B C : Int → Int} {q m : Int} (h : chn X n b a w G) (hb : b ≤ a ∧ a ≤ a')
    (hp : (w' = 1 ∧ w = 1 ∧ 1 ≤ k ∧ pit4 X n a a' k C m) ∨ (w' = 0 ∧ (w = 1 → pit0 X n a a') ∧ (w = 0 → a' = a ∧ k = 0))) (hG : ∀ s, frs s → pps (G s)) (h5 : w' = 1 → ∀ s, frs s → B q = wcd 0 ∧ B (q + 1) = (G s).t ∧ B (q + 3) = m ∧ B (q + 4) = k) : (w' = 1 ∧ okp X n b a' B C q m k) ∨ (w' = 0 ∧ badp X n b a') := by
  have ad : ∀ s, (a' - b).toNat = (a - b).toNat + (a' - a).toNat ∧ b + (((a - b).toNat : Nat) : Int) = a := fun (_ : Unit) => by omega
  obtain ⟨ad1, ad2⟩ := ad ()
  rcases hp with ⟨p1, p2, p3, p4⟩ | ⟨p1, p2, p3⟩
  · rcases h with ⟨g, h9, h⟩ | ⟨g, h⟩
    · refine Or.inl ⟨p1, h9.tr p4.1, 0, by decide, fun s hs => ?_⟩
      obtain ⟨A, e1, e2, e3⟩ := p4.2 _ (hG s hs)
      obtain ⟨b1, b2, b3, b4⟩ := h5 p1 s hs
      refine ⟨⟨k, 4, 0, (G s).k, (G s).t, A⟩, by rw [ad1, tks_add _ _ _ _ _ (h s hs), ad2]; exact e1, rfl, Or.inl rfl, e3, b1, fun _ => b2, fun e => ?_, fun _ => ⟨b3, b4, rfl, e2⟩⟩
      rcases e with e | e | e <;> omega
    · omega
  · refine Or.inr ⟨p1, ?_⟩
    rcases h with ⟨g, -, h⟩ | ⟨g, h⟩
    · intro s hs
      obtain ⟨s1, e1, e2, e3⟩ := p2 g _ (hG s hs)
      exact ⟨s1, by rw [ad1, tks_add _ _ _ _ _ (h s hs), ad2]; exact e1, by omega, e3⟩
    · rw [(p3 g).1]
      exact h
