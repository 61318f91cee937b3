/-! The reference reads a word. -/
theorem tk_step {X : Int → Int} {n a w l u q : Int} (hc : ∀ q, 0 ≤ q → q < n → 33 ≤ X q ∧ X q ≤ 126) (ha : 0 ≤ a ∧ a ≤ n) (hw : w = 0 ∨ w = 1) (hl : 1 ≤ l) (h : b2 (w = 1 ∧ l ≤ sg X n a ∧ sg X n a ≤ u) = q) : (q = 0 ∨ q = 1) ∧ (0 ≤ a + q ∧ a + q ≤ n) ∧ ((q = 1 ∧ w = 1 ∧ a < n ∧ l ≤ X a ∧ X a ≤ u) ∨ (q = 0 ∧ (w = 0 ∨ (w = 1 ∧ (a = n ∨ (a < n ∧ ¬ (l ≤ X a ∧ X a ≤ u))))))) := by
  have r := sg_rng hc ha.1
  by_cases g : w = 1 ∧ l ≤ sg X n a ∧ sg X n a ≤ u
  · rw [b2_t g] at h
    refine ⟨by omega, by omega, Or.inl ?_⟩
    omega
  · rw [b2_f g] at h
    refine ⟨by omega, by omega, Or.inr ⟨by omega, ?_⟩⟩
    omega
/-- the signs cs are taken, one after the other -/
def tls (X : Int → Int) (n : Int) : List Int → Int → Int → Int × Int
  | [], a, w => (a, w)
  | c :: cs, a, w => tls X n cs (a + b2 (w = 1 ∧ c ≤ sg X n a ∧ sg X n a ≤ c)) (b2 (w = 1 ∧ c ≤ sg X n a ∧ sg X n a ≤ c))
theorem tls_c {X : Int → Int} {n a w c q : Int} {cs : List Int} (h : b2 (w = 1 ∧ c ≤ sg X n a ∧ sg X n a ≤ c) = q) : tls X n (c :: cs) a w = tls X n cs (a + q) q := by
  show tls X n cs (a + b2 (w = 1 ∧ c ≤ sg X n a ∧ sg X n a ≤ c)) (b2 (w = 1 ∧ c ≤ sg X n a ∧ sg X n a ≤ c)) = _
  rw [h]
theorem tls_0 {X : Int → Int} {n : Int} : ∀ (cs : List Int) (a : Int), tls X n cs a 0 = (a, 0) := by
  intro cs
  induction cs with
  | nil => intro a; rfl
  | cons c cs ih =>
    intro a
    rw [tls_c (q := 0) (b2_f (by omega)), Int.add_zero]
    exact ih a
theorem tls_1 {X : Int → Int} {n : Int} (hc : ∀ q, 0 ≤ q → q < n → 33 ≤ X q ∧ X q ≤ 126) : ∀ (cs : List Int) (a : Int), 0 ≤ a → a ≤ n → (∀ c ∈ cs, 1 ≤ c) → ∃ a' w', tls X n cs a 1 = (a', w') ∧
    ((w' = 1 ∧ a' = a + (cs.length : Int) ∧ a' ≤ n ∧ ∀ i : Nat, i < cs.length → X (a + (i : Int)) = cs.getD i 0) ∨
     (w' = 0 ∧ a' ≤ n ∧ ∃ j : Nat, j < cs.length ∧ a' = a + (j : Int) ∧ (∀ i : Nat, i < j → X (a + (i : Int)) = cs.getD i 0) ∧ (a' = n ∨ X a' ≠ cs.getD j 0))) := by
  intro cs
  induction cs with
  | nil =>
    intro a h0 h1 _
    exact ⟨a, 1, rfl, Or.inl ⟨rfl, by simp, h1, fun i hi => absurd hi (Nat.not_lt_zero i)⟩⟩
  | cons c cs ih =>
    intro a h0 h1 hp
    have c1 := hp c (List.mem_cons_self ..)
    obtain ⟨q, hq⟩ : ∃ q, b2 ((1 : Int) = 1 ∧ c ≤ sg X n a ∧ sg X n a ≤ c) = q := ⟨_, rfl⟩
    have k := tk_step hc ⟨h0, h1⟩ (Or.inr rfl) c1 hq
    rw [tls_c hq]
    rcases k with ⟨-, -, ⟨k1, -, k2, k3, k4⟩ | ⟨k1, k2⟩⟩
    · subst k1
      obtain ⟨a', w', e, r⟩ := ih (a + 1) (by omega) (by omega) (fun d hd => hp d (List.mem_cons_of_mem _ hd))
      have hx : X a = c := by omega
      refine ⟨a', w', e, ?_⟩
      rcases r with ⟨r1, r2, r3, r4⟩ | ⟨r1, r2, j, r3, r4, r5, r6⟩
      · refine Or.inl ⟨r1, by rw [r2, List.length_cons]; omega, r3, fun i hi => ?_⟩
        cases i with
        | zero => rw [show a + ((0 : Nat) : Int) = a by omega, hx]; rfl
        | succ i =>
          have := r4 i (by rw [List.length_cons] at hi; omega)
          rw [show a + ((i + 1 : Nat) : Int) = a + 1 + (i : Int) by omega, this]
          rfl
      · refine Or.inr ⟨r1, r2, j + 1, by rw [List.length_cons]; omega, by omega, fun i hi => ?_, r6⟩
        cases i with
        | zero => rw [show a + ((0 : Nat) : Int) = a by omega, hx]; rfl
        | succ i =>
          have := r5 i (by omega)
          rw [show a + ((i + 1 : Nat) : Int) = a + 1 + (i : Int) by omega, this]
          rfl
    · subst k1
      rw [Int.add_zero, tls_0]
      refine ⟨a, 0, rfl, Or.inr ⟨rfl, h1, 0, by rw [List.length_cons]; omega, by omega, fun i hi => absurd hi (Nat.not_lt_zero i), ?_⟩⟩
      rcases k2 with k2 | ⟨-, k2 | ⟨k2, k3⟩⟩
      · omega
      · exact Or.inl k2
      · exact Or.inr (fun e => k3 (by rw [e]; exact ⟨Int.le_refl _, Int.le_refl _⟩))
/-- what is read of a word from a on: up to a', whether it is one, and its letter z -/
def rwd (X : Int → Int) (n a z a' w' : Int) : Prop :=
  (w' = 1 ∧ a' ≤ n ∧ ∃ o : Nat, o < 8 ∧ z = [115, 114, 108, 119, 102, 98, 104, 106].getD o 0 ∧ a' = a + (wln o : Int) ∧ ∀ i : Int, 0 ≤ i → i < (wln o : Int) → X (a + i) = wl o i) ∨
  (w' = 0 ∧ a' ≤ n ∧ ∃ (o : Nat) (j : Nat), o < 8 ∧ j < wln o ∧ a' = a + (j : Int) ∧ (∀ i : Int, 0 ≤ i → i < (j : Int) → X (a + i) = wl o i) ∧ (a' = n ∨ ∀ o2 : Nat, o2 < 8 → beq o2 o (j : Int) → X a' ≠ wl o2 (j : Int)))
theorem wl_one : ∀ o : Fin 8, ∀ o2 : Fin 8, ∀ j : Fin 5, 1 ≤ j.val → beb o2.val o.val j.val = true → wl o2.val (j.val : Int) = wl o.val (j.val : Int) ∨ j.val ≥ wln o.val ∨ (j.val = 1 ∧ ((o.val = 0 ∧ o2.val = 3) ∨ (o.val = 3 ∧ o2.val = 0))) := by decide +kernel
theorem wl_fst : ∀ o : Fin 8, wl o.val 0 = 115 ∨ wl o.val 0 = 114 ∨ wl o.val 0 = 108 ∨ wl o.val 0 = 102 ∨ wl o.val 0 = 98 ∨ wl o.val 0 = 104 ∨ wl o.val 0 = 106 := by decide +kernel
theorem rwd_of {X : Int → Int} {n a a' w' : Int} (hc : ∀ q, 0 ≤ q → q < n → 33 ≤ X q ∧ X q ≤ 126) {o : Nat} (ho : o < 8) (ha : 0 ≤ a ∧ a < n) (h0 : X a = wl o 0) (hs : o = 0 → a + 1 < n → X (a + 1) ≠ 108) (hs2 : o = 3 → a + 1 < n ∧ X (a + 1) = 108) (cs : List Int) (hcl : cs = (wls o).tail) (e : tls X n cs (a + 1) 1 = (a', w')) {z : Int} (hz : z = [115, 114, 108, 119, 102, 98, 104, 106].getD o 0) : rwd X n a z a' w' := by
  have r := wln_rng ho
  have ln : cs.length = wln o - 1 := by rw [hcl, List.length_tail]; rfl
  have gd : ∀ i : Nat, i < cs.length → cs.getD i 0 = wl o ((i + 1 : Nat) : Int) := fun i hi => by
    rw [wl_in (by omega)]
    unfold wb
    rw [hcl, show (((i + 1 : Nat) : Int)).toNat = i + 1 by omega]
    simp [List.getD_eq_getElem?_getD, List.getElem?_tail]
  have ps : ∀ c ∈ cs, 1 ≤ c := fun c hm => by
    have g : ∀ o : Fin 8, ∀ c ∈ (wls o.val).tail, 1 ≤ c := by decide +kernel
    rw [hcl] at hm
    exact g ⟨o, ho⟩ c hm
  obtain ⟨a2, w2, e2, h⟩ := tls_1 hc cs (a + 1) (by omega) (by omega) ps
  rw [e] at e2
  have e3 := Prod.mk.inj e2
  obtain ⟨e4, e5⟩ := e3
  subst e4; subst e5
  rcases h with ⟨h1, h2, h3, h4⟩ | ⟨h1, h2, j, h3, h4, h5, h6⟩
  · refine Or.inl ⟨h1, h3, o, ho, hz, by omega, fun i i0 i1 => ?_⟩
    by_cases g : i = 0
    · rw [g, Int.add_zero]
      exact h0
    · have q := h4 (i - 1).toNat (by omega)
      rw [gd _ (by omega)] at q
      rw [show a + 1 + (((i - 1).toNat : Nat) : Int) = a + i by omega, show (((i - 1).toNat + 1 : Nat) : Int) = i by omega] at q
      exact q
  · refine Or.inr ⟨h1, h2, o, j + 1, ho, by omega, by omega, fun i i0 i1 => ?_, ?_⟩
    · by_cases g : i = 0
      · rw [g, Int.add_zero]
        exact h0
      · have q := h5 (i - 1).toNat (by omega)
        rw [gd _ (by omega)] at q
        rw [show a + 1 + (((i - 1).toNat : Nat) : Int) = a + i by omega, show (((i - 1).toNat + 1 : Nat) : Int) = i by omega] at q
        exact q
    · rcases h6 with h6 | h6
      · exact Or.inl h6
      · by_cases hn : a' = n
        · exact Or.inl hn
        · refine Or.inr (fun o2 g1 g2 g3 => ?_)
          rw [gd j h3] at h6
          have b := beb_iff (o := o2) (w := o) (k := ((j + 1 : Nat) : Int)).mpr g2
          rw [show (((j + 1 : Nat) : Int)).toNat = j + 1 by omega] at b
          have q := wl_one ⟨o, ho⟩ ⟨o2, g1⟩ ⟨j + 1, by omega⟩ (Nat.le_add_left 1 j) b
          dsimp only at q
          rcases q with q | q | ⟨q1, ⟨q2, q3⟩ | ⟨q2, q3⟩⟩
          · exact h6 (g3.trans q)
          · omega
          · have j0 : j = 0 := by omega
            subst j0
            subst q3
            have := hs q2 (by omega)
            rw [show a' = a + 1 by omega] at g3
            exact this (g3.trans (by decide +kernel))
          · have j0 : j = 0 := by omega
            subst j0
            subst q2
            have := (hs2 rfl).2
            rw [show a' = a + 1 by omega] at h6
            exact h6 (this.trans (by decide +kernel))
theorem rwd_no {X : Int → Int} {n a z : Int} (ha : 0 ≤ a ∧ a ≤ n) (h : a = n ∨ (X a ≠ 115 ∧ X a ≠ 114 ∧ X a ≠ 108 ∧ X a ≠ 102 ∧ X a ≠ 98 ∧ X a ≠ 104 ∧ X a ≠ 106)) : rwd X n a z a 0 := by
  refine Or.inr ⟨rfl, ha.2, 0, 0, by decide, by decide, by omega, fun i i0 i1 => absurd i1 (by omega), ?_⟩
  rcases h with h | h
  · exact Or.inl h
  · refine Or.inr (fun o2 g1 _ g3 => ?_)
    have q := wl_fst ⟨o2, g1⟩
    dsimp only at q
    rw [show ((0 : Nat) : Int) = 0 from rfl] at g3
    omega
