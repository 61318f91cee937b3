/-! What the reference reads of a word, the reader takes. -/
theorem fwa_no {P : Nat → Bool} : ∀ (f a : Nat), fwa P f a = none → ∀ q, a ≤ q → q < a + f → ¬ P q = true := by
  intro f
  induction f with
  | zero => intro a _ q h1 h2; omega
  | succ f ih =>
    intro a h q h1 h2
    unfold fwa at h
    by_cases g : P a = true
    · rw [if_pos g] at h
      cases h
    · rw [if_neg g] at h
      by_cases e : q = a
      · rw [e]
        exact g
      · exact ih (a + 1) h q (by omega) (by omega)
theorem fwd_ex {o w : Nat} {k x : Int} (ho : o < 8) (h : wmt o w k x) : ∃ o2, fwd w k x = some o2 ∧ o2 < 8 ∧ wmt o2 w k x := by
  cases g : fwd w k x with
  | none => exact absurd (wmt_iff.mpr h) (fwa_no 8 0 g o (Nat.zero_le _) (by omega))
  | some o2 =>
    obtain ⟨h1, h2⟩ := fwd_in g
    exact ⟨o2, rfl, h1, h2⟩
theorem wl_pre1 : ∀ o : Fin 8, ∀ o2 : Fin 8, beb o2.val o.val (wln o2.val) = true → o2 = o := by decide +kernel
theorem wl_pre2 : ∀ o : Fin 8, ∀ o2 : Fin 8, beb o2.val o.val (wln o.val) = true → o2 = o := by decide +kernel
theorem beq_le {o w : Nat} {k l : Int} (h : beq o w k) (hl : l ≤ k) : beq o w l := fun q q1 q2 => h q q1 (by omega)
theorem beq_pre1 {o o2 : Nat} (h1 : o < 8) (h2 : o2 < 8) (h : beq o2 o (wln o2 : Int)) : o2 = o := by
  have b := beb_iff.mpr h
  rw [show ((wln o2 : Int)).toNat = wln o2 from rfl] at b
  exact congrArg Fin.val (wl_pre1 ⟨o, h1⟩ ⟨o2, h2⟩ b)
theorem beq_pre2 {o o2 : Nat} (h1 : o < 8) (h2 : o2 < 8) (h : beq o2 o (wln o : Int)) : o2 = o := by
  have b := beb_iff.mpr h
  rw [show ((wln o : Int)).toNat = wln o from rfl] at b
  exact congrArg Fin.val (wl_pre2 ⟨o, h1⟩ ⟨o2, h2⟩ b)
theorem wpre {X : Int → Int} {a : Int} {o : Nat} (ho : o < 8) : ∀ j : Nat, j ≤ wln o → (∀ i : Int, 0 ≤ i → i < (j : Int) → X (a + i) = wl o i) → ∀ s : rS, s.p = 0 → s.k = 0 → ∃ (pj : Int) (wj : Nat), tks X j a s = some ⟨s.c, pj, wj, (j : Int), s.t, s.A⟩ ∧ (j < wln o → pj = 0 ∧ beq wj o (j : Int)) ∧ (j = wln o → wj = o ∧ pj = (if wht o = 1 then 1 else 2)) := by
  have r := wln_rng ho
  intro j
  induction j with
  | zero =>
    intro _ _ s hp hk
    refine ⟨0, s.w, ?_, fun _ => ⟨rfl, fun q q1 q2 => absurd q2 (by omega)⟩, fun h => by omega⟩
    show some s = some ⟨s.c, 0, s.w, ((0 : Nat) : Int), s.t, s.A⟩
    rw [show (0 : Int) = s.p from hp.symm, show ((0 : Nat) : Int) = s.k from hk.symm]
  | succ j ih =>
    intro hj hX s hp hk
    obtain ⟨pj, wj, h1, h2, -⟩ := ih (by omega) (fun i i0 i1 => hX i i0 (by omega)) s hp hk
    obtain ⟨h3, h4⟩ := h2 (by omega)
    have hx := hX (j : Int) (by omega) (by omega)
    obtain ⟨o2, g1, g2, g3, g4⟩ := fwd_ex (w := wj) (k := (j : Int)) (x := wl o (j : Int)) ho ⟨fun q q1 q2 => (h4 q q1 q2).symm, rfl⟩
    have b : beq o2 o ((j : Int) + 1) := fun q q1 q2 => by
      by_cases e : q = (j : Int)
      · rw [e]
        exact g4
      · exact (g3 q q1 (by omega)).trans (h4 q q1 (by omega))
    have t := tk0 (s := (⟨s.c, pj, wj, (j : Int), s.t, s.A⟩ : rS)) (x := wl o (j : Int)) h3 g1
    refine ⟨if (wln o2 : Int) ≤ (j : Int) + 1 then (if wht o2 = 1 then 1 else 2) else pj, o2, ?_, fun k => ?_, fun k => ?_⟩
    · exact tks_s j a s _ _ h1 (by rw [hx]; exact t)
    · have nl : ¬ (wln o2 : Int) ≤ (j : Int) + 1 := fun l => by
        have e := beq_pre1 ho g2 (beq_le b l)
        subst e
        omega
      rw [if_neg nl]
      exact ⟨h3, by rw [show ((j + 1 : Nat) : Int) = (j : Int) + 1 by omega]; exact b⟩
    · have e := beq_pre2 ho g2 (beq_le b (by omega))
      subst e
      rw [if_pos (by omega)]
      exact ⟨rfl, rfl⟩
def wcd (o : Nat) : Int := [115, 114, 108, 119, 102, 98, 104, 106].getD o 0
theorem rwd_tks {X : Int → Int} {n a z a' w' : Int} (h : rwd X n a z a' w') :
    (w' = 1 ∧ ∃ o, o < 8 ∧ z = wcd o ∧ a' = a + (wln o : Int) ∧ a' ≤ n ∧ ∀ s : rS, s.p = 0 → s.k = 0 → tks X (wln o) a s = some ⟨s.c, if wht o = 1 then 1 else 2, o, (wln o : Int), s.t, s.A⟩) ∨
    (w' = 0 ∧ a ≤ a' ∧ a' ≤ n ∧ ∀ s : rS, s.p = 0 → s.k = 0 → ∃ s1 : rS, tks X (a' - a).toNat a s = some s1 ∧ s1.p = 0 ∧ (a' = n ∨ tk s1 (X a') = none)) := by
  rcases h with ⟨h1, h2, o, h3, h4, h5, h6⟩ | ⟨h1, h2, o, j, h3, h4, h5, h6, h7⟩
  · refine Or.inl ⟨h1, o, h3, h4, h5, h2, fun s hp hk => ?_⟩
    obtain ⟨pj, wj, t, -, g⟩ := wpre h3 (wln o) (Nat.le_refl _) h6 s hp hk
    obtain ⟨g1, g2⟩ := g rfl
    subst g1
    subst g2
    exact t
  · refine Or.inr ⟨h1, by omega, h2, fun s hp hk => ?_⟩
    obtain ⟨pj, wj, t, g, -⟩ := wpre h3 j (by omega) h6 s hp hk
    obtain ⟨g1, g2⟩ := g h4
    refine ⟨_, by rw [show (a' - a).toNat = j by omega]; exact t, g1, ?_⟩
    rcases h7 with h7 | h7
    · exact Or.inl h7
    · refine Or.inr (tk0n g1 (fwd_none (fun q q1 m => ?_)))
      exact h7 q q1 (fun i i0 i1 => (m.1 i i0 i1).trans (g2 i i0 i1)) m.2.symm
