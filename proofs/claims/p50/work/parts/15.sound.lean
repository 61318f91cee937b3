/-! The counters only grow. -/
theorem xsA_hp {nL j : Nat} {i : Instr} {ax : List Nat} {cv : Value} {lv lv' : xL} {st st' : List Value} {hp hp' : xH} {j' : Nat} (h : xsA nL j i ax cv lv st hp = some (j', lv', st', hp')) : hp' = hp := by
  unfold xsA at h
  simp only [xjmp] at h
  split at h <;> (repeat' split at h) <;> first | (simp only [Option.some.injEq, Prod.mk.injEq] at h; exact h.2.2.2.symm) | (simp at h)
theorem xsB_grow {j : Nat} {i : Instr} {ax : List Nat} {cv : Value} {lv lv' : xL} {st st' : List Value} {hp hp' : xH} {j' : Nat} (h : xsB j i ax cv lv st hp = some (j', lv', st', hp')) : hp.1 ≤ hp'.1 ∧ hp.2.1 ≤ hp'.2.1 := by
  unfold xsB at h
  simp only [xjmp] at h
  split at h <;> (repeat' split at h) <;> first | (simp only [Option.some.injEq, Prod.mk.injEq] at h; obtain ⟨-, -, -, rfl⟩ := h; first | exact ⟨Nat.le_refl _, Nat.le_refl _⟩ | exact ⟨Nat.le_succ _, Nat.le_add_right _ _⟩) | (simp at h)
theorem xstp_grow {nL kd j : Nat} {i : Instr} {ax : List Nat} {cv : Value} {lv lv' : xL} {st st' : List Value} {hp hp' : xH} {j' : Nat} (h : xstp nL kd j i ax cv lv st hp = some (j', lv', st', hp')) : hp.1 ≤ hp'.1 ∧ hp.2.1 ≤ hp'.2.1 := by
  unfold xstp at h
  split at h
  · rw [xsA_hp h]
    exact ⟨Nat.le_refl _, Nat.le_refl _⟩
  · exact xsB_grow h
  all_goals (try unfold xcopy at h)
  all_goals (repeat' split at h)
  all_goals first | (simp only [Option.some.injEq, Prod.mk.injEq] at h; obtain ⟨-, -, -, rfl⟩ := h; exact ⟨Nat.le_refl _, Nat.le_refl _⟩) | (simp at h)
theorem xrun_grow (tab : Nat → xM) : ∀ (n d k j : Nat) (lv : xL) (st : List Value) (hp : xH) (o : xO) (hp' : xH), xrun tab n d k j lv st hp = some (o, hp') → hp.1 ≤ hp'.1 ∧ hp.2.1 ≤ hp'.2.1 := by
  intro n
  induction n with
  | zero => intro d k j lv st hp o hp' h; simp [xrun] at h
  | succ n ih =>
    intro d k j lv st hp o hp' h
    unfold xrun at h
    split at h
    · exact absurd h (by simp)
    · rename_i pc kd i len ax cv he
      split at h
      · split at h
        · exact absurd h (by simp)
        · split at h
          · split at h
            · exact absurd h (by simp)
            · split at h
              · exact absurd h (by simp)
              · rename_i v hp1 hcall
                have g1 := ih _ _ _ _ _ _ _ _ hcall
                have g2 := ih _ _ _ _ _ _ _ _ h
                omega
              · rename_i E hp1 hcall
                have g1 := ih _ _ _ _ _ _ _ _ hcall
                split at h
                · cases h
                  exact g1
                · have g2 := ih _ _ _ _ _ _ _ _ h
                  omega
          · exact absurd h (by simp)
      · split at h
        · cases h
          exact ⟨Nat.le_refl _, Nat.le_refl _⟩
        · exact absurd h (by simp)
      · split at h
        · exact absurd h (by simp)
        · split at h
          · cases h
            exact ⟨Nat.le_succ _, Nat.le_add_right _ _⟩
          · exact absurd h (by simp)
      · split at h
        · exact absurd h (by simp)
        · rename_i hs
          have g1 := xstp_grow hs
          have g2 := ih _ _ _ _ _ _ _ _ h
          omega
