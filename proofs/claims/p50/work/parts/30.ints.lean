/-! Walking on numbers: ints as integers, frames, loops. -/
/-- the locals of the one are those of the other, and perhaps fewer -/
def xle (a b : xL) : Prop := (∀ i v, xget a i = some v → xget b i = some v) ∧ (a.map Prod.fst).Nodup ∧ (b.map Prod.fst).Nodup
theorem xget_cons (a : Nat) (w : Value) (l : xL) (k : Nat) : xget ((a, w) :: l) k = if a = k then some w else xget l k := rfl
theorem xget_filter {p : Nat × Value → Bool} : ∀ (l : xL), (l.map Prod.fst).Nodup → ∀ (k : Nat) (v : Value), xget (l.filter p) k = some v ↔ (xget l k = some v ∧ p (k, v) = true) := by
  have hmem : ∀ (l : xL) (k : Nat) (v : Value), xget l k = some v → k ∈ l.map Prod.fst := by
    intro l
    induction l with
    | nil => intro k v h; simp [xget] at h
    | cons q l ih =>
      intro k v h
      obtain ⟨a, w⟩ := q
      unfold xget at h
      split at h
      · rename_i e
        subst e
        simp
      · simp [ih k v h]
  intro l
  induction l with
  | nil => intro _ k v; simp [xget]
  | cons q l ih =>
    intro hn k v
    obtain ⟨a, w⟩ := q
    simp only [List.map_cons, List.nodup_cons] at hn
    have ih := ih hn.2
    rw [List.filter_cons]
    by_cases hp : p (a, w) = true
    · rw [if_pos hp]
      unfold xget
      split
      · rename_i e
        subst e
        constructor
        · intro h
          cases h
          exact ⟨rfl, hp⟩
        · intro h
          exact h.1
      · exact ih k v
    · rw [if_neg hp, ih k v, xget_cons]
      split
      · rename_i e
        subst e
        constructor
        · intro h
          exact absurd (hmem l a v h.1) hn.1
        · intro h
          obtain ⟨h1, h2⟩ := h
          cases h1
          exact absurd h2 hp
      · rfl
theorem xnod_filter {p : Nat × Value → Bool} {l : xL} (h : (l.map Prod.fst).Nodup) : ((l.filter p).map Prod.fst).Nodup := (List.Sublist.map Prod.fst List.filter_sublist).nodup h
theorem xle_cons1 {a b : xL} (h : xle a b) {p : Nat × Value → Bool} {i : Nat} {v : Value} (hp : ∀ w, p (i, w) = false) : xle ((i, v) :: a.filter p) ((i, v) :: b.filter p) := by
  obtain ⟨h1, h2, h3⟩ := h
  have hni : ∀ l : xL, i ∉ (l.filter p).map Prod.fst := by
    intro l hm
    obtain ⟨q, hq, e⟩ := List.mem_map.mp hm
    have h4 := (List.mem_filter.mp hq).2
    obtain ⟨a, w⟩ := q
    subst e
    rw [hp w] at h4
    exact absurd h4 (by simp)
  refine ⟨fun k w hk => ?_, ?_, ?_⟩
  · unfold xget at hk ⊢
    split at hk
    · rename_i e
      rw [if_pos e]
      exact hk
    · rename_i e
      rw [if_neg e]
      rw [xget_filter _ h2] at hk
      rw [xget_filter _ h3]
      exact ⟨h1 _ _ hk.1, hk.2⟩
  · rw [List.map_cons, List.nodup_cons]
    exact ⟨hni a, xnod_filter h2⟩
  · rw [List.map_cons, List.nodup_cons]
    exact ⟨hni b, xnod_filter h3⟩
theorem xle_st1 {a b : xL} (h : xle a b) (i : Nat) (v : Value) : xle (xst1 a i v) (xst1 b i v) := xle_cons1 h (fun w => by simp)
theorem xle_st2 {a b : xL} (h : xle a b) (i : Nat) (v : Value) : xle (xst2 a i v) (xst2 b i v) := xle_cons1 h (fun w => by simp)
theorem xle_del {a b : xL} (h : xle a b) (i : Nat) : xle (xdel a i) (xdel b i) := by
  obtain ⟨h1, h2, h3⟩ := h
  refine ⟨fun k w hk => ?_, xnod_filter h2, xnod_filter h3⟩
  unfold xdel at hk ⊢
  rw [xget_filter _ h2] at hk
  rw [xget_filter _ h3]
  exact ⟨h1 _ _ hk.1, hk.2⟩
theorem xsA_le {nL j : Nat} {i : Instr} {ax : List Nat} {cv : Value} {a b lv' : xL} {st st' : List Value} {hp hp' : xH} {j' : Nat} (hl : xle a b) (h : xsA nL j i ax cv a st hp = some (j', lv', st', hp')) : ∃ lv1, xsA nL j i ax cv b st hp = some (j', lv1, st', hp') ∧ xle lv' lv1 := by
  unfold xsA at h ⊢
  simp only [xjmp] at h ⊢
  split at h
  all_goals (try dsimp only)
  all_goals first
    | (cases h; exact ⟨_, rfl, hl⟩)
    | (cases h; done)
    | (split at h
       · rename_i x hx
         cases h
         rw [hl.1 _ _ hx]
         exact ⟨_, rfl, hl⟩
       · cases h)
    | (split at h
       · rename_i hx
         cases h
         rw [if_pos hx]
         first | exact ⟨_, rfl, xle_st1 hl _ _⟩ | exact ⟨_, rfl, xle_st2 hl _ _⟩ | exact ⟨_, rfl, hl⟩
       · first | (cases h; done) | (rename_i hx; cases h; rw [if_neg hx]; exact ⟨_, rfl, hl⟩))
    | (split at h
       · cases h
       · rename_i hx
         cases h
         rw [if_neg hx]
         exact ⟨_, rfl, hl⟩)
    | (split at h
       · rename_i x dd hx
         rw [hl.1 _ _ hx]
         dsimp only
         split at h
         · rename_i h3
           cases h
           rw [if_pos h3]
           exact ⟨_, rfl, xle_st1 hl _ _⟩
         · cases h
       · cases h)
    | skip
theorem xsB_le {j : Nat} {i : Instr} {ax : List Nat} {cv : Value} {a b lv' : xL} {st st' : List Value} {hp hp' : xH} {j' : Nat} (h : xsB j i ax cv a st hp = some (j', lv', st', hp')) : lv' = a ∧ xsB j i ax cv b st hp = some (j', b, st', hp') := by
  unfold xsB at h ⊢
  simp only [xjmp] at h ⊢
  split at h
  all_goals (repeat' split at h)
  all_goals first | (cases h; done) | (cases h; refine ⟨rfl, ?_⟩; simp_all; done) | (rename_i g1 cc g2; cases h; refine ⟨rfl, ?_⟩; rw [if_pos g1]; first | rw [if_pos g2] | rw [if_neg g2])
