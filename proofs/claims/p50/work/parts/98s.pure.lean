/-! What a first best match is worth: its pairs, their costs, its stretches. -/
def bwS (S : Int → Int) (i j : Int) : Int := bw (unl S 0) (S 3) (S 2) (S 0) (S 1) i j
theorem stp_cost {D : Int → Int → Int} {w b m n i j : Int} (hw : 0 ≤ w ∧ w ≤ 50) (hm : m ≤ 20 ∧ n ≤ 20) (hD : ∀ i j, 0 ≤ i → i < m → 0 ≤ j → j < n → 0 ≤ D i j ∧ D i j ≤ 5184) (h : 0 ≤ i ∧ 0 ≤ j ∧ i < m ∧ j < n) (hl : ¬ (i = m - 1 ∧ j = n - 1)) (hf : bw D w b m n i j < 100000000) :
    (stp D w b m n (i, j) = (i + 1, j + 1) ∧ bw D w b m n (i + 1) (j + 1) < 100000000 ∧ bw D w b m n i j = D i j + bw D w b m n (i + 1) (j + 1)) ∨
    (stp D w b m n (i, j) = (i + 1, j) ∧ bw D w b m n (i + 1) j < 100000000 ∧ bw D w b m n i j = D i j + w + bw D w b m n (i + 1) j) ∨
    (stp D w b m n (i, j) = (i, j + 1) ∧ bw D w b m n i (j + 1) < 100000000 ∧ bw D w b m n i j = D i j + w + bw D w b m n i (j + 1)) := by
  obtain ⟨s1, s2, s3⟩ := stp_ok hw hm hD h hl hf
  have b1 := least_rng (bw D w b m n (i + 1) j) (bw D w b m n i (j + 1))
  have b2 := least_rng (bw D w b m n (i + 1) (j + 1)) (least (bw D w b m n (i + 1) j) (bw D w b m n i (j + 1)) + w)
  have e := bw_in (D := D) (w := w) (b := b) (m := m) (n := n) (i := i) (j := j) ⟨h.2.2.1, h.2.2.2⟩
  have t : bwt D w b m n i j = least (bw D w b m n (i + 1) (j + 1)) (least (bw D w b m n (i + 1) j) (bw D w b m n i (j + 1)) + w) := if_neg hl
  have r : bw D w b m n i j = bwt D w b m n i j + D i j := by
    split at e
    · exact e
    · omega
  rw [t] at r
  have e1 : stp D w b m n (i, j) = if bw D w b m n (i + 1) (j + 1) = bw D w b m n i j - D i j then (i + 1, j + 1) else if bw D w b m n (i + 1) j + w = bw D w b m n i j - D i j then (i + 1, j) else (i, j + 1) := rfl
  by_cases g1 : bw D w b m n (i + 1) (j + 1) = bw D w b m n i j - D i j
  · rw [if_pos g1] at e1
    exact Or.inl ⟨e1, (s1 g1).2.2, by omega⟩
  · rw [if_neg g1] at e1
    by_cases g2 : bw D w b m n (i + 1) j + w = bw D w b m n i j - D i j
    · rw [if_pos g2] at e1
      exact Or.inr (Or.inl ⟨e1, (s2 g2).2, by omega⟩)
    · rw [if_neg g2] at e1
      exact Or.inr (Or.inr ⟨e1, (s3 g1 g2).2, by omega⟩)
/-- from a pair to the next one -/
def gos (S p q : Int → Int) (x : Int) : Prop :=
  (p (x + 1) = p x + 1 ∧ q (x + 1) = q x + 1 ∧ bwS S (p x) (q x) = unl S 0 (p x) (q x) + bwS S (p (x + 1)) (q (x + 1))) ∨
  (p (x + 1) = p x + 1 ∧ q (x + 1) = q x ∧ bwS S (p x) (q x) = unl S 0 (p x) (q x) + S 3 + bwS S (p (x + 1)) (q (x + 1))) ∨
  (p (x + 1) = p x ∧ q (x + 1) = q x + 1 ∧ bwS S (p x) (q x) = unl S 0 (p x) (q x) + S 3 + bwS S (p (x + 1)) (q (x + 1)))
section PW
variable {S p q : Int → Int} {c : Int}
theorem go_ok (hz : 0 ≤ S 0 ∧ S 0 ≤ 20 ∧ 0 ≤ S 1 ∧ S 1 ≤ 20 ∧ 0 ≤ S 2 ∧ S 2 ≤ 20 ∧ 0 ≤ S 3 ∧ S 3 ≤ 50 ∧ 0 ≤ S 4 ∧ S 4 ≤ 3) (h0 : ∀ q, 0 ≤ q → q < S 0 → 0 ≤ S (7 + q) ∧ S (7 + q) ≤ 60) (h1 : ∀ q, 0 ≤ q → q < S 1 → 0 ≤ S (27 + q) ∧ S (27 + q) ≤ 60) (hm : mat S) (h : mtc S c p q) : (1 ≤ c ∧ c ≤ 39) ∧ (p 0 = 0 ∧ q 0 = 0) ∧ (p (c - 1) = S 0 - 1 ∧ q (c - 1) = S 1 - 1) ∧ bwS S (p (c - 1)) (q (c - 1)) = unl S 0 (p (c - 1)) (q (c - 1)) ∧ (∀ x, 0 ≤ x → x + 1 < c → gos S p q x) ∧ ∀ x, 0 ≤ x → x < c → 0 ≤ p x ∧ p x < S 0 ∧ 0 ≤ q x ∧ q x < S 1 := by
  have hmm := hm
  obtain ⟨m1, m2, m3, m4⟩ := hmm
  rcases h with ⟨a, -⟩ | ⟨-, c1, c2, ce, h⟩
  · exact absurd hm a
  have hD : ∀ i j, 0 ≤ i → i < S 0 → 0 ≤ j → j < S 1 → 0 ≤ unl S 0 i j ∧ unl S 0 i j ≤ 5184 := fun i j a1 a2 a3 a4 => unl_rng hz h0 h1 (by omega) a1 a2 a3 a4
  have step : ∀ x, 0 ≤ x → x + 1 < c → bwS S (p x) (q x) < 100000000 → gos S p q x ∧ bwS S (p (x + 1)) (q (x + 1)) < 100000000 := by
    intro x x1 x2 hf
    obtain ⟨a1, a2, a3, a4, a5, a6⟩ := h x x1 (by omega)
    obtain ⟨b1, b2, b3, b4, b5, b6⟩ := h (x + 1) (by omega) x2
    have e : spt S (x + 1).toNat = stp (unl S 0) (S 3) (S 2) (S 0) (S 1) (spt S x.toNat) := by
      rw [show (x + 1).toNat = x.toNat + 1 by omega]
      rfl
    have e2 : spt S x.toNat = (p x, q x) := Prod.ext a1.symm a2.symm
    have hl : ¬ (p x = S 0 - 1 ∧ q x = S 1 - 1) := fun hl => by
      have w := spt_end (S := S) (k := x.toNat) (by rw [e2, hl.1, hl.2])
      apply w
      rw [show x.toNat + 1 = (x + 1).toNat by omega, ← b1, ← b2]
      exact ⟨b4, b6⟩
    rw [e2] at e
    have f := stp_cost (D := unl S 0) (w := S 3) (b := S 2) (m := S 0) (n := S 1) (i := p x) (j := q x) (by omega) (by omega) hD ⟨a3, a5, a4, a6⟩ hl hf
    rcases f with ⟨s, f1, f2⟩ | ⟨s, f1, f2⟩ | ⟨s, f1, f2⟩
    · rw [s] at e
      have u1 : p (x + 1) = p x + 1 := b1.trans (congrArg Prod.fst e)
      have u2 : q (x + 1) = q x + 1 := b2.trans (congrArg Prod.snd e)
      unfold gos
      rw [u1, u2]
      exact ⟨Or.inl ⟨rfl, rfl, f2⟩, f1⟩
    · rw [s] at e
      have u1 : p (x + 1) = p x + 1 := b1.trans (congrArg Prod.fst e)
      have u2 : q (x + 1) = q x := b2.trans (congrArg Prod.snd e)
      unfold gos
      rw [u1, u2]
      exact ⟨Or.inr (Or.inl ⟨rfl, rfl, f2⟩), f1⟩
    · rw [s] at e
      have u1 : p (x + 1) = p x := b1.trans (congrArg Prod.fst e)
      have u2 : q (x + 1) = q x + 1 := b2.trans (congrArg Prod.snd e)
      unfold gos
      rw [u1, u2]
      exact ⟨Or.inr (Or.inr ⟨rfl, rfl, f2⟩), f1⟩
  obtain ⟨z1, z2, -⟩ := h 0 (by omega) (by omega)
  have p0 : p 0 = 0 := z1
  have q0 : q 0 = 0 := z2
  have fin : ∀ k : Nat, (k : Int) < c → bwS S (p (k : Int)) (q (k : Int)) < 100000000 := by
    intro k
    induction k with
    | zero =>
      intro _
      show bwS S (p 0) (q 0) < 100000000
      rw [p0, q0]
      exact bw_fin (D := unl S 0) (w := S 3) (b := S 2) (m := S 0) (n := S 1) (by omega) (by omega) hD (by omega) _ 0 0 (by omega) (by omega) (by omega) (by omega) (by omega) (by omega) rfl
    | succ k ih =>
      intro hk
      have w := (step (k : Int) (by omega) (by omega) (ih (by omega))).2
      rw [show ((k + 1 : Nat) : Int) = (k : Int) + 1 by omega]
      exact w
  have fi : ∀ x, 0 ≤ x → x < c → bwS S (p x) (q x) < 100000000 := fun x x1 x2 => by
    have w := fin x.toNat (by omega)
    rw [show ((x.toNat : Nat) : Int) = x by omega] at w
    exact w
  obtain ⟨l1, l2, l3, l4, l5, l6⟩ := h (c - 1) (by omega) (by omega)
  rw [ce] at l1 l2
  have l1 : p (c - 1) = S 0 - 1 := l1
  have l2 : q (c - 1) = S 1 - 1 := l2
  refine ⟨⟨c1, c2⟩, ⟨p0, q0⟩, ⟨l1, l2⟩, ?_, fun x x1 x2 => (step x x1 x2 (fi x x1 (by omega))).1, fun x x1 x2 => (h x x1 x2).2.2⟩
  have f := fi (c - 1) (by omega) (by omega)
  have g := bw_inb (D := unl S 0) (w := S 3) (b := S 2) (m := S 0) (n := S 1) (i := p (c - 1)) (j := q (c - 1)) ⟨l4, l6⟩ f
  have t : bwt (unl S 0) (S 3) (S 2) (S 0) (S 1) (p (c - 1)) (q (c - 1)) = 0 := if_pos ⟨l1, l2⟩
  have g4 : bwS S (p (c - 1)) (q (c - 1)) = bwt (unl S 0) (S 3) (S 2) (S 0) (S 1) (p (c - 1)) (q (c - 1)) + unl S 0 (p (c - 1)) (q (c - 1)) := g.2.2.2
  omega
end PW
/-- the price of the step to the pair k -/
def prk (S p q : Int → Int) (k : Int) : Int := if k = 0 then 0 else if p k - p (k - 1) + (q k - q (k - 1)) = 1 then S 3 else 0
/-- what the pairs ahead of the pair k cost, with the steps to them -/
def tot (S p q : Int → Int) (c k : Int) : Int := if k < c then bwS S 0 0 - bwS S (p k) (q k) - prk S p q k else bwS S 0 0
theorem tot_0 {S p q : Int → Int} {c : Int} (hc : 1 ≤ c) (h : p 0 = 0 ∧ q 0 = 0) : tot S p q c 0 = 0 := by
  unfold tot prk
  rw [if_pos (by omega), if_pos rfl, h.1, h.2]
  omega
theorem prk_s {S p q : Int → Int} {x : Int} (hx : 0 ≤ x) (h : gos S p q x) : bwS S (p x) (q x) = unl S 0 (p x) (q x) + prk S p q (x + 1) + bwS S (p (x + 1)) (q (x + 1)) := by
  unfold prk
  rw [if_neg (by omega), show x + 1 - 1 = x by omega]
  rcases h with ⟨a, b, e⟩ | ⟨a, b, e⟩ | ⟨a, b, e⟩
  · rw [if_neg (by omega)]
    omega
  · rw [if_pos (by omega)]
    omega
  · rw [if_pos (by omega)]
    omega
theorem tot_s {S p q : Int → Int} {c k : Int} (hk : 0 ≤ k ∧ k < c) (hl : bwS S (p (c - 1)) (q (c - 1)) = unl S 0 (p (c - 1)) (q (c - 1))) (hg : ∀ x, 0 ≤ x → x + 1 < c → gos S p q x) : tot S p q c (k + 1) = tot S p q c k + (unl S 0 (p k) (q k) + prk S p q k) := by
  have e0 : tot S p q c k = bwS S 0 0 - bwS S (p k) (q k) - prk S p q k := if_pos hk.2
  by_cases h : k + 1 < c
  · have e1 : tot S p q c (k + 1) = bwS S 0 0 - bwS S (p (k + 1)) (q (k + 1)) - prk S p q (k + 1) := if_pos h
    have g := prk_s hk.1 (hg k hk.1 h)
    omega
  · have e1 : tot S p q c (k + 1) = bwS S 0 0 := if_neg h
    rw [show c - 1 = k by omega] at hl
    omega
theorem tot_c (S p q : Int → Int) (c : Int) : tot S p q c c = bwS S 0 0 := if_neg (by omega)
/-- each note is met -/
theorem cnt_mono {f : Int → Int} {x : Int} {n : Nat} : cnt f x n ≤ cnt f x (n + 1) := by
  show cnt f x n ≤ cnt f x n + (if f (n : Int) = x then 1 else 0)
  split <;> omega
theorem cnt_hit {f : Int → Int} (f0 : f 0 = 0) : ∀ n : Nat, (∀ x : Int, 0 ≤ x → x < n → f (x + 1) = f x ∨ f (x + 1) = f x + 1) → ∀ x : Int, 0 ≤ x → x ≤ f n → 1 ≤ cnt f x (n + 1) := by
  intro n
  induction n with
  | zero =>
    intro _ x x1 x2
    have e : f ((0 : Nat) : Int) = 0 := f0
    show 1 ≤ 0 + (if f ((0 : Nat) : Int) = x then (1 : Int) else 0)
    rw [e] at x2 ⊢
    rw [if_pos (by omega)]
    omega
  | succ n ih =>
    intro h x x1 x2
    have e : ((n + 1 : Nat) : Int) = (n : Int) + 1 := by omega
    have i := ih (fun y y1 y2 => h y y1 (by omega)) x x1
    have hn := h (n : Int) (by omega) (by omega)
    by_cases g : x ≤ f n
    · have a := i g
      have b := cnt_mono (f := f) (x := x) (n := n + 1)
      omega
    · rw [e] at x2
      have a := cnt_rng f x (n + 1)
      show 1 ≤ cnt f x (n + 1) + (if f ((n + 1 : Nat) : Int) = x then 1 else 0)
      rw [e, if_pos (by omega)]
      omega
theorem cnt_lng {f : Int → Int} {c : Nat} {x : Int} : ∀ n : Nat, 0 ≤ x → x < n → cnt f x c ≤ lng f c n := by
  intro n
  induction n with
  | zero => intro x1 x2; exact absurd x2 (by omega)
  | succ n ih =>
    intro x1 x2
    show cnt f x c ≤ if lng f c n < cnt f (n : Int) c then cnt f (n : Int) c else lng f c n
    by_cases e : x = (n : Int)
    · subst e
      split <;> omega
    · have i := ih x1 (by omega)
      split <;> omega
/-- all stretches together -/
def scn (f : Int → Int) (c : Nat) : Nat → Int
  | 0 => 0
  | k + 1 => scn f c k + cnt f (k : Int) c
theorem scn_s {f : Int → Int} {c : Nat} {k : Int} (h : 0 ≤ k) : scn f c (k + 1).toNat = scn f c k.toNat + cnt f k c := by
  rw [show (k + 1).toNat = k.toNat + 1 by omega]
  show scn f c k.toNat + cnt f ((k.toNat : Nat) : Int) c = _
  rw [show ((k.toNat : Nat) : Int) = k by omega]
theorem scn_z {f : Int → Int} : ∀ k : Nat, scn f 0 k = 0 := by
  intro k
  induction k with
  | zero => rfl
  | succ k ih =>
    show scn f 0 k + 0 = 0
    omega
theorem scn_c {f : Int → Int} {c : Nat} : ∀ k : Nat, scn f (c + 1) k = scn f c k + (if 0 ≤ f (c : Int) ∧ f (c : Int) < k then 1 else 0) := by
  intro k
  induction k with
  | zero =>
    show (0 : Int) = 0 + _
    rw [if_neg (by omega)]
    rfl
  | succ k ih =>
    show scn f (c + 1) k + (cnt f (k : Int) c + (if f (c : Int) = (k : Int) then 1 else 0)) = scn f c k + cnt f (k : Int) c + _
    rw [ih]
    split <;> split <;> split <;> omega
theorem scn_all {f : Int → Int} {k : Nat} : ∀ c : Nat, (∀ y : Int, 0 ≤ y → y < c → 0 ≤ f y ∧ f y < k) → scn f c k = c := by
  intro c
  induction c with
  | zero => intro _; exact scn_z k
  | succ c ih =>
    intro h
    have i := ih (fun y y1 y2 => h y y1 (by omega))
    have g := h (c : Int) (by omega) (by omega)
    rw [scn_c, i, if_pos g]
    omega
theorem wy_pos {D : Int → Int → Int} {w b m n : Int} (hw : 0 ≤ w ∧ w ≤ 50) (hm : m ≤ 20 ∧ n ≤ 20) (hD : ∀ i j, 0 ≤ i → i < m → 0 ≤ j → j < n → 0 ≤ D i j ∧ D i j ≤ 5184) : ∀ (N : Nat) (i j : Int), 0 ≤ i → 0 ≤ j → i < m → j < n → (m - i).toNat + (n - j).toNat = N → bw D w b m n i j < 100000000 → 1 ≤ wy D w b m n i j := by
  intro N
  induction N using Nat.strongRecOn with
  | ind N ih =>
    intro i j hi hj hi2 hj2 hN hf
    rw [wy_in ⟨hi2, hj2⟩]
    by_cases hl : i = m - 1 ∧ j = n - 1
    · rw [if_pos hl]
      omega
    · rw [if_neg hl]
      obtain ⟨-, -, g3, g4⟩ := bw_inb ⟨hi2, hj2⟩ hf
      have w1 : ∀ x y c, 0 ≤ wo D w b m n x y c := by
        intro x y c
        have a := (wy_rng (D := D) (w := w) (b := b) (m := m) (n := n) _ x y rfl).1
        unfold wo
        split <;> omega
      have v1 := w1 (i + 1) (j + 1) (bwt D w b m n i j)
      have v2 := w1 (i + 1) j (bwt D w b m n i j - w)
      have v3 := w1 i (j + 1) (bwt D w b m n i j - w)
      have key : 1 ≤ wo D w b m n (i + 1) (j + 1) (bwt D w b m n i j) + wo D w b m n (i + 1) j (bwt D w b m n i j - w) + wo D w b m n i (j + 1) (bwt D w b m n i j - w) := by
        have st := stp_ok hw hm hD ⟨hi, hj, hi2, hj2⟩ hl hf
        rcases stp_cost hw hm hD ⟨hi, hj, hi2, hj2⟩ hl hf with ⟨-, f1, f2⟩ | ⟨-, f1, f2⟩ | ⟨-, f1, f2⟩
        · have r := st.1 (by omega)
          have a := ih _ (by omega) (i + 1) (j + 1) (by omega) (by omega) r.1 r.2.1 rfl f1
          have e : wo D w b m n (i + 1) (j + 1) (bwt D w b m n i j) = wy D w b m n (i + 1) (j + 1) := if_pos ⟨by omega, by omega⟩
          omega
        · have r := st.2.1 (by omega)
          have a := ih _ (by omega) (i + 1) j (by omega) (by omega) r.1 hj2 rfl f1
          have e : wo D w b m n (i + 1) j (bwt D w b m n i j - w) = wy D w b m n (i + 1) j := if_pos ⟨by omega, by omega⟩
          omega
        · have hj3 : j + 1 < n := by
            by_cases z : n ≤ j + 1
            · rw [bw_out (Or.inr z)] at f1
              omega
            · omega
          have a := ih _ (by omega) i (j + 1) (by omega) (by omega) hi2 hj3 rfl f1
          have e : wo D w b m n i (j + 1) (bwt D w b m n i j - w) = wy D w b m n i (j + 1) := if_pos ⟨by omega, by omega⟩
          omega
      split <;> omega
theorem pc_fw {D : Int → Int → Int} {w b m n : Int} (hw : 0 ≤ w ∧ w ≤ 50) (hm : m ≤ 20 ∧ n ≤ 20) (hD : ∀ i j, 0 ≤ i → i < m → 0 ≤ j → j < n → 0 ≤ D i j ∧ D i j ≤ 5184) : ∀ (N : Nat) (i j : Int), i < m → j < n → (i + 1).toNat + (j + 1).toNat = N → pc D w i j ≤ fw D w b i j := by
  intro N
  induction N using Nat.strongRecOn with
  | ind N ih =>
    intro i j hi hj hN
    by_cases h : i < 0 ∨ j < 0
    · rw [pc_out h, fw_out h]
      omega
    · have r := pc_rng (n := n) hw hm.1 hD _ i j hi hj rfl
      rw [fw_in (by omega)]
      have hd := hD i j (by omega) hi (by omega) hj
      split
      · rw [pc_in (by omega)]
        have a1 := ih _ (by omega) (i - 1) (j - 1) (by omega) (by omega) rfl
        have a2 := ih _ (by omega) (i - 1) j (by omega) (by omega) rfl
        have a3 := ih _ (by omega) i (j - 1) (by omega) (by omega) rfl
        have f1 := (fw_rng (b := b) hw hD _ (i - 1) (j - 1) (by omega) (by omega) rfl).1
        have f2 := (fw_rng (b := b) hw hD _ (i - 1) j (by omega) (by omega) rfl).1
        have f3 := (fw_rng (b := b) hw hD _ i (j - 1) (by omega) (by omega) rfl).1
        have b1 := least_rng (fw D w b (i - 1) j) (fw D w b i (j - 1))
        have b2 := least_rng (fw D w b (i - 1) (j - 1)) (least (fw D w b (i - 1) j) (fw D w b i (j - 1)) + w)
        have b3 := least_rng (pc D w (i - 1) j) (pc D w i (j - 1))
        have b4 := least_rng (pc D w (i - 1) (j - 1)) (least (pc D w (i - 1) j) (pc D w i (j - 1)) + w)
        have key : pcf D w i j ≤ fwf D w b i j := by
          unfold pcf fwf
          by_cases e0 : i = 0
          · rw [if_pos e0]
            split <;> omega
          · rw [if_neg e0, if_neg (by omega)]
            omega
        omega
      · omega
theorem pes_rng {F : Int → Int} : ∀ n : Nat, 0 ≤ pes F n ∧ pes F n ≤ n := by
  intro n
  induction n with
  | zero => exact ⟨Int.le_refl 0, Int.le_refl 0⟩
  | succ n ih =>
    show 0 ≤ (if F ((n : Int) + 1) < F (pes F n) then (n : Int) + 1 else pes F n) ∧ (if F ((n : Int) + 1) < F (pes F n) then (n : Int) + 1 else pes F n) ≤ ((n + 1 : Nat) : Int)
    split <;> omega
theorem pes_min {F : Int → Int} : ∀ (n : Nat) (j : Int), 0 ≤ j → j ≤ n → F (pes F n) ≤ F j := by
  intro n
  induction n with
  | zero =>
    intro j j1 j2
    rw [show j = 0 by omega]
    exact Int.le_refl _
  | succ n ih =>
    intro j j1 j2
    show F (if F ((n : Int) + 1) < F (pes F n) then (n : Int) + 1 else pes F n) ≤ F j
    by_cases e : j = (n : Int) + 1
    · subst e
      split <;> omega
    · have i := ih j j1 (by omega)
      split <;> omega
theorem shb_ok {F : Int → Int} : ∀ n : Nat, (shb F n).2 = F (shb F n).1 ∧ -(n : Int) ≤ (shb F n).1 ∧ (shb F n).1 ≤ n ∧ ∀ x, -(n : Int) ≤ x → x ≤ n → (shb F n).2 ≤ F x := by
  intro n
  induction n with
  | zero =>
    refine ⟨rfl, Int.le_refl 0, Int.le_refl 0, fun x x1 x2 => ?_⟩
    rw [show x = 0 by omega]
    exact Int.le_refl _
  | succ n ih =>
    obtain ⟨i1, i2, i3, i4⟩ := ih
    have one : ∀ (s : Int × Int) (y : Int), s.2 = F s.1 → (sh1 F s y).2 = F (sh1 F s y).1 ∧ ((sh1 F s y).1 = y ∨ (sh1 F s y).1 = s.1) ∧ (sh1 F s y).2 ≤ s.2 ∧ (sh1 F s y).2 ≤ F y := by
      intro s y e
      by_cases g : F y < s.2
      · rw [sh1_t g]
        exact ⟨rfl, Or.inl rfl, by show F y ≤ s.2; omega, Int.le_refl _⟩
      · rw [sh1_f g]
        exact ⟨e, Or.inr rfl, Int.le_refl _, by omega⟩
    show (sh1 F (sh1 F (shb F n) ((n : Int) + 1)) (-((n : Int) + 1))).2 = _ ∧ _
    obtain ⟨a1, a2, a3, a4⟩ := one (shb F n) ((n : Int) + 1) i1
    obtain ⟨b1, b2, b3, b4⟩ := one (sh1 F (shb F n) ((n : Int) + 1)) (-((n : Int) + 1)) a1
    refine ⟨b1, by show _ ≤ (sh1 F (sh1 F (shb F n) ((n : Int) + 1)) (-((n : Int) + 1))).1; omega, by show (sh1 F (sh1 F (shb F n) ((n : Int) + 1)) (-((n : Int) + 1))).1 ≤ _; omega, fun x x1 x2 => ?_⟩
    show (sh1 F (sh1 F (shb F n) ((n : Int) + 1)) (-((n : Int) + 1))).2 ≤ F x
    rcases (by omega : x = (n : Int) + 1 ∨ x = -((n : Int) + 1) ∨ (-(n : Int) ≤ x ∧ x ≤ n)) with rfl | rfl | ⟨y1, y2⟩
    · omega
    · omega
    · have := i4 x y1 y2
      omega
theorem shv_all : ∀ a : Fin 40, ∀ b : Fin 40, 1 ≤ b.val → a.val ≤ b.val → 0 ≤ (Op.cmpValue (FP.dcmp (FP.ddiv (FP.i2d (iN (a.val : Int))) (FP.i2d (iN (b.val : Int)))) FP.dconst0) .l).toInt ∧ (Op.cmpValue (FP.dcmp (FP.ddiv (FP.i2d (iN (a.val : Int))) (FP.i2d (iN (b.val : Int)))) FP.dconst1) .g).toInt ≤ 0 := by decide +kernel
theorem shv_01 {c e : Int} (h : 1 ≤ c ∧ c ≤ 39 ∧ 0 ≤ e ∧ e ≤ c) : 0 ≤ (Op.cmpValue (FP.dcmp (shv c e) FP.dconst0) .l).toInt ∧ (Op.cmpValue (FP.dcmp (shv c e) FP.dconst1) .g).toInt ≤ 0 := by
  have k := shv_all ⟨(c - e).toNat, by omega⟩ ⟨c.toNat, by omega⟩ (by show 1 ≤ c.toNat; omega) (by show (c - e).toNat ≤ c.toNat; omega)
  dsimp only at k
  rw [show (((c - e).toNat : Nat) : Int) = c - e by omega, show ((c.toNat : Nat) : Int) = c by omega] at k
  unfold shv
  rw [if_neg (by omega)]
  exact k
theorem shv_0 : Op.cmpValue (FP.dcmp FP.dconst0 FP.dconst0) .l = 0 := by decide +kernel
