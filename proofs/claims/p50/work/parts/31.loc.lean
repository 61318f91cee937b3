theorem xstp_le {nL kd j : Nat} {i : Instr} {ax : List Nat} {cv : Value} {a b lv' : xL} {st st' : List Value} {hp hp' : xH} {j' : Nat} (hl : xle a b) (h : xstp nL kd j i ax cv a st hp = some (j', lv', st', hp')) : ∃ lv1, xstp nL kd j i ax cv b st hp = some (j', lv1, st', hp') ∧ xle lv' lv1 := by
  unfold xstp at h ⊢
  split at h
  · exact xsA_le hl h
  · obtain ⟨rfl, h2⟩ := xsB_le (b := b) h
    exact ⟨b, h2, hl⟩
  all_goals (try unfold xcopy at h)
  all_goals (try unfold xcopy)
  all_goals (try dsimp only)
  all_goals (repeat' split at h)
  all_goals first | (cases h; done) | (cases h; refine ⟨b, ?_, hl⟩; simp_all; done) | (rename_i g1 g2; cases h; refine ⟨b, ?_, hl⟩; rw [if_pos g1]; first | rw [if_pos g2] | rw [if_neg g2])
theorem xrun_le (tab : Nat → xM) : ∀ (n d k j : Nat) (a b : xL) (st : List Value) (hp : xH) (r : xO × xH), xle a b → xrun tab n d k j a st hp = some r → xrun tab n d k j b st hp = some r := by
  intro n
  induction n with
  | zero => intro d k j a b st hp r _ h; simp [xrun] at h
  | succ n ih =>
    intro d k j a b st hp r hl h
    unfold xrun at h ⊢
    split at h
    · exact absurd h (by simp)
    · rename_i pc kd i len ax cv he
      split at h
      · split at h
        · exact absurd h (by simp)
        · rename_i hc
          try dsimp only
          rw [if_neg hc]
          split at h
          · rename_i hr
            rw [if_pos hr]
            cases d with
            | zero => exact absurd h (by simp)
            | succ d =>
              dsimp only at h ⊢
              split at h
              · exact absurd h (by simp)
              · rename_i v hp1 hcall
                exact ih _ _ _ _ _ _ _ _ hl h
              · rename_i E hp1 hcall
                split at h
                · exact h
                · exact ih _ _ _ _ _ _ _ _ (xle_del hl _) h
          · exact absurd h (by simp)
      · exact h
      · exact h
      · rename_i h1 h2 h3
        split at h
        · exact absurd h (by simp)
        · rename_i j1 lv1 st1 hp1 hs
          obtain ⟨lv2, e1, e2⟩ := xstp_le hl hs
          rw [e1]
          exact ih _ _ _ _ _ _ _ _ e2 h
theorem Ev_le {d k j : Nat} {a b : xL} {st : List Value} {hp : xH} {Q : xO → xH → Prop} (hl : xle a b) (h : Ev d k j a st hp Q) : Ev d k j b st hp Q := by
  obtain ⟨n, o, hp', h1, h2⟩ := h
  exact ⟨n, o, hp', xrun_le xtab _ _ _ _ _ _ _ _ _ hl h1, h2⟩
theorem xle_nil (b : xL) (h : (b.map Prod.fst).Nodup) : xle [] b := ⟨fun i v h => by simp [xget] at h, List.nodup_nil, h⟩
theorem xle_cons {a b : xL} {i : Nat} {v : Value} (h1 : xget b i = some v) (h2 : i ∉ a.map Prod.fst) (h : xle a b) : xle ((i, v) :: a) b := by
  refine ⟨fun k w hk => ?_, ?_, h.2.2⟩
  · rw [xget_cons] at hk
    split at hk
    · rename_i e
      subst e
      cases hk
      exact h1
    · exact h.1 _ _ hk
  · rw [List.map_cons, List.nodup_cons]
    exact ⟨h2, h.2.1⟩
def xnd : List Nat → Bool
  | [] => true
  | a :: l => l.all (fun b => !(a == b)) && xnd l
theorem xnd_of : ∀ {l : List Nat}, xnd l = true → l.Nodup := by
  intro l
  induction l with
  | nil => intro _; exact List.nodup_nil
  | cons a l ih =>
    intro h
    unfold xnd at h
    rw [Bool.and_eq_true, List.all_eq_true] at h
    rw [List.nodup_cons]
    refine ⟨fun hm => ?_, ih h.2⟩
    have h1 := h.1 a hm
    simp at h1
theorem xle_z (b : xL) (h : xnd (b.map Prod.fst) = true) : xle [] b := xle_nil b (xnd_of h)
theorem xle_s {a b : xL} {i : Nat} {v : Value} (h1 : xget b i = some v) (h2 : (a.map Prod.fst).all (fun b => !(i == b)) = true) (h : xle a b) : xle ((i, v) :: a) b := xle_cons h1 (fun hm => by
  have h3 := List.all_eq_true.mp h2 i hm
  simp at h3) h
