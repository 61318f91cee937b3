/-! The class: its matches (43; grids 44 46 48 50, arrays 52 53 54 55). -/
/-- the first step of the first best way from (i, j): 0 none, 1 both, 2 only the tune 0, 3 only the tune 1 -/
def sco (D : Int → Int → Int) (w b m n i j : Int) : Int :=
  if i = m - 1 ∧ j = n - 1 then 0 else if bw D w b m n (i + 1) (j + 1) = bw D w b m n i j - D i j then 1 else if bw D w b m n (i + 1) j + w = bw D w b m n i j - D i j then 2 else 3
theorem sco_rng {D : Int → Int → Int} {w b m n i j : Int} : 0 ≤ sco D w b m n i j ∧ sco D w b m n i j ≤ 3 := by
  unfold sco
  split
  · decide
  · split
    · decide
    · split <;> decide
theorem wo_rw {D : Int → Int → Int} {w b m n i j c : Int} : (c < 100000000 ∧ bw D w b m n i j = c ∧ wo D w b m n i j c = wy D w b m n i j) ∨ (¬ (c < 100000000 ∧ bw D w b m n i j = c) ∧ wo D w b m n i j c = 0) := by
  unfold wo
  split
  · rename_i h
    exact Or.inl ⟨h.1, h.2, rfl⟩
  · rename_i h
    exact Or.inr ⟨h, rfl⟩
/-- what is told of a pair from which a best way goes on -/
theorem stepcell {D : Int → Int → Int} {w b m n i j : Int} (hw : 0 ≤ w ∧ w ≤ 50) (hm : m ≤ 20 ∧ n ≤ 20) (hD : ∀ i j, 0 ≤ i → i < m → 0 ≤ j → j < n → 0 ≤ D i j ∧ D i j ≤ 5184) (h : 0 ≤ i ∧ 0 ≤ j ∧ i < m ∧ j < n) (hf : bw D w b m n i j < 100000000) :
    ∃ t1 t2 t3 : Int, (i = m - 1 ∧ j = n - 1 → sco D w b m n i j = 0 ∧ wy D w b m n i j = 1) ∧
    (¬ (i = m - 1 ∧ j = n - 1) → ((wy D w b m n i j = t1 + t2 + t3 ∧ t1 + t2 + t3 < 1000000) ∨ (wy D w b m n i j = 1000000 ∧ 1000000 ≤ t1 + t2 + t3)) ∧
      (bw D w b m n (i + 1) (j + 1) = bw D w b m n i j - D i j → sco D w b m n i j = 1) ∧
      (¬ bw D w b m n (i + 1) (j + 1) = bw D w b m n i j - D i j → bw D w b m n (i + 1) j + w = bw D w b m n i j - D i j → sco D w b m n i j = 2) ∧
      (¬ bw D w b m n (i + 1) (j + 1) = bw D w b m n i j - D i j → ¬ bw D w b m n (i + 1) j + w = bw D w b m n i j - D i j → sco D w b m n i j = 3 ∧ bw D w b m n i (j + 1) + w = bw D w b m n i j - D i j)) ∧
    (bw D w b m n (i + 1) (j + 1) = bw D w b m n i j - D i j → t1 = wy D w b m n (i + 1) (j + 1)) ∧ (¬ bw D w b m n (i + 1) (j + 1) = bw D w b m n i j - D i j → t1 = 0) ∧
    (bw D w b m n (i + 1) j + w = bw D w b m n i j - D i j → t2 = wy D w b m n (i + 1) j) ∧ (¬ bw D w b m n (i + 1) j + w = bw D w b m n i j - D i j → t2 = 0) ∧
    (bw D w b m n i (j + 1) + w = bw D w b m n i j - D i j → t3 = wy D w b m n i (j + 1)) ∧ (¬ bw D w b m n i (j + 1) + w = bw D w b m n i j - D i j → t3 = 0) := by
  have hd := hD i j h.1 h.2.2.1 h.2.1 h.2.2.2
  have a1 := bw_rng (b := b) hw hD _ (i + 1) (j + 1) (by omega) (by omega) rfl
  have a2 := bw_rng (b := b) hw hD _ (i + 1) j (by omega) (by omega) rfl
  have a3 := bw_rng (b := b) hw hD _ i (j + 1) (by omega) (by omega) rfl
  have b1 := least_rng (bw D w b m n (i + 1) j) (bw D w b m n i (j + 1))
  have b2 := least_rng (bw D w b m n (i + 1) (j + 1)) (least (bw D w b m n (i + 1) j) (bw D w b m n i (j + 1)) + w)
  have e := bw_in (D := D) (w := w) (b := b) (m := m) (n := n) (i := i) (j := j) ⟨h.2.2.1, h.2.2.2⟩
  have r : bw D w b m n i j = bwt D w b m n i j + D i j ∧ bwt D w b m n i j < 100000000 := by
    split at e
    · rename_i g
      exact ⟨e, g.2.2⟩
    · omega
  have q1 := wo_rw (D := D) (w := w) (b := b) (m := m) (n := n) (i := i + 1) (j := j + 1) (c := bwt D w b m n i j)
  have q2 := wo_rw (D := D) (w := w) (b := b) (m := m) (n := n) (i := i + 1) (j := j) (c := bwt D w b m n i j - w)
  have q3 := wo_rw (D := D) (w := w) (b := b) (m := m) (n := n) (i := i) (j := j + 1) (c := bwt D w b m n i j - w)
  refine ⟨wo D w b m n (i + 1) (j + 1) (bwt D w b m n i j), wo D w b m n (i + 1) j (bwt D w b m n i j - w), wo D w b m n i (j + 1) (bwt D w b m n i j - w), ?_, ?_, ?_, ?_, ?_, ?_, ?_, ?_⟩
  · intro l
    refine ⟨if_pos l, ?_⟩
    rw [wy_in ⟨h.2.2.1, h.2.2.2⟩, if_pos l]
  · intro l
    have t : bwt D w b m n i j = least (bw D w b m n (i + 1) (j + 1)) (least (bw D w b m n (i + 1) j) (bw D w b m n i (j + 1)) + w) := if_neg l
    refine ⟨?_, ?_, ?_, ?_⟩
    · have y := wy_in (D := D) (w := w) (b := b) (m := m) (n := n) (i := i) (j := j) ⟨h.2.2.1, h.2.2.2⟩
      rw [if_neg l] at y
      split at y
      · rename_i g
        exact Or.inl ⟨y, g⟩
      · exact Or.inr ⟨y, by omega⟩
    · intro g
      unfold sco
      rw [if_neg l, if_pos g]
    · intro g g2
      unfold sco
      rw [if_neg l, if_neg g, if_pos g2]
    · intro g g2
      refine ⟨?_, by omega⟩
      unfold sco
      rw [if_neg l, if_neg g, if_neg g2]
  all_goals omega
theorem stepfin {D : Int → Int → Int} {w b m n i j : Int} (hw : 0 ≤ w ∧ w ≤ 50) (hm : m ≤ 20 ∧ n ≤ 20) (hD : ∀ i j, 0 ≤ i → i < m → 0 ≤ j → j < n → 0 ≤ D i j ∧ D i j ≤ 5184) (h : 0 ≤ i ∧ 0 ≤ j ∧ i < m ∧ j < n) {G0 G1 G2 G3 g1 g2 g3 : Int} (u0 : G0 = far (bw D w b m n i j)) (u1 : G1 = far (bw D w b m n (i + 1) (j + 1))) (u2 : G2 = far (bw D w b m n (i + 1) j)) (u3 : G3 = far (bw D w b m n i (j + 1)))
    (n1 : bw D w b m n (i + 1) (j + 1) < 100000000 → g1 = wy D w b m n (i + 1) (j + 1)) (n2 : bw D w b m n (i + 1) j < 100000000 → g2 = wy D w b m n (i + 1) j) (n3 : bw D w b m n i (j + 1) < 100000000 → g3 = wy D w b m n i (j + 1)) (hf : bw D w b m n i j < 100000000) :
    sco D w b m n i j = (if G1 < 1000000000 ∧ G0 = D i j + 0 + G1 then 1 else if G2 < 1000000000 ∧ G0 = D i j + w + G2 then 2 else if G3 < 1000000000 ∧ G0 = D i j + w + G3 then 3 else 0) ∧
    wy D w b m n i j = mn 1000000 ((((if i = m - 1 ∧ j = n - 1 then 1 else 0) + (if G3 < 1000000000 ∧ G0 = D i j + w + G3 then g3 else 0)) + (if G2 < 1000000000 ∧ G0 = D i j + w + G2 then g2 else 0)) + (if G1 < 1000000000 ∧ G0 = D i j + 0 + G1 then g1 else 0)) := by
  obtain ⟨t1, t2, t3, c1, c2, c3, c4, c5, c6, c7, c8⟩ := stepcell hw hm hD h hf
  have hd := hD i j h.1 h.2.2.1 h.2.1 h.2.2.2
  have a0 := bw_rng (b := b) hw hD _ i j (by omega) (by omega) rfl
  have a1 := bw_rng (b := b) hw hD _ (i + 1) (j + 1) (by omega) (by omega) rfl
  have a2 := bw_rng (b := b) hw hD _ (i + 1) j (by omega) (by omega) rfl
  have a3 := bw_rng (b := b) hw hD _ i (j + 1) (by omega) (by omega) rfl
  have k0 : far (bw D w b m n i j) = bw D w b m n i j := if_pos hf
  have k1 := far_rng (bw D w b m n (i + 1) (j + 1))
  have k2 := far_rng (bw D w b m n (i + 1) j)
  have k3 := far_rng (bw D w b m n i (j + 1))
  rw [k0] at u0
  rw [← u1] at k1
  rw [← u2] at k2
  rw [← u3] at k3
  have p1 : (G1 < 1000000000 ∧ G0 = D i j + 0 + G1) ↔ (bw D w b m n (i + 1) (j + 1) = bw D w b m n i j - D i j) := by constructor <;> intro q <;> omega
  have p2 : (G2 < 1000000000 ∧ G0 = D i j + w + G2) ↔ (bw D w b m n (i + 1) j + w = bw D w b m n i j - D i j) := by constructor <;> intro q <;> omega
  have p3 : (G3 < 1000000000 ∧ G0 = D i j + w + G3) ↔ (bw D w b m n i (j + 1) + w = bw D w b m n i j - D i j) := by constructor <;> intro q <;> omega
  clear k1 k2 k3
  by_cases l : i = m - 1 ∧ j = n - 1
  · have o1 := bw_out (D := D) (w := w) (b := b) (m := m) (n := n) (i := i + 1) (j := j + 1) (by omega)
    have o2 := bw_out (D := D) (w := w) (b := b) (m := m) (n := n) (i := i + 1) (j := j) (by omega)
    have o3 := bw_out (D := D) (w := w) (b := b) (m := m) (n := n) (i := i) (j := j + 1) (by omega)
    have q := c1 l
    have np1 : ¬ (G1 < 1000000000 ∧ G0 = D i j + 0 + G1) := fun z => by have := p1.mp z; omega
    have np2 : ¬ (G2 < 1000000000 ∧ G0 = D i j + w + G2) := fun z => by have := p2.mp z; omega
    have np3 : ¬ (G3 < 1000000000 ∧ G0 = D i j + w + G3) := fun z => by have := p3.mp z; omega
    rw [if_pos l, if_neg np1, if_neg np2, if_neg np3, if_neg np1, if_neg np2, if_neg np3]
    exact ⟨q.1, q.2.trans (by decide)⟩
  · obtain ⟨y1, y2, y3, y4⟩ := c2 l
    have mm := mn_rng 1000000 (0 + t3 + t2 + t1)
    rw [if_neg l]
    have wv : wy D w b m n i j = mn 1000000 (0 + t3 + t2 + t1) := by omega
    have e1 : (if G1 < 1000000000 ∧ G0 = D i j + 0 + G1 then g1 else 0) = t1 := by
      by_cases q : bw D w b m n (i + 1) (j + 1) = bw D w b m n i j - D i j
      · rw [if_pos (p1.mpr q), c3 q]
        exact n1 (by omega)
      · rw [if_neg (fun z => q (p1.mp z)), c4 q]
    have e2 : (if G2 < 1000000000 ∧ G0 = D i j + w + G2 then g2 else 0) = t2 := by
      by_cases q : bw D w b m n (i + 1) j + w = bw D w b m n i j - D i j
      · rw [if_pos (p2.mpr q), c5 q]
        exact n2 (by omega)
      · rw [if_neg (fun z => q (p2.mp z)), c6 q]
    have e3 : (if G3 < 1000000000 ∧ G0 = D i j + w + G3 then g3 else 0) = t3 := by
      by_cases q : bw D w b m n i (j + 1) + w = bw D w b m n i j - D i j
      · rw [if_pos (p3.mpr q), c7 q]
        exact n3 (by omega)
      · rw [if_neg (fun z => q (p3.mp z)), c8 q]
    rw [e1, e2, e3]
    refine ⟨?_, wv⟩
    by_cases q1 : bw D w b m n (i + 1) (j + 1) = bw D w b m n i j - D i j
    · rw [if_pos (p1.mpr q1)]
      exact y2 q1
    · rw [if_neg (fun z => q1 (p1.mp z))]
      by_cases q2 : bw D w b m n (i + 1) j + w = bw D w b m n i j - D i j
      · rw [if_pos (p2.mpr q2)]
        exact y3 q1 q2
      · have q3 := y4 q1 q2
        rw [if_neg (fun z => q2 (p2.mp z)), if_pos (p3.mpr q3.2)]
        exact q3.1
theorem stp_sco {D : Int → Int → Int} {w b m n i j : Int} (hl : ¬ (i = m - 1 ∧ j = n - 1)) : (sco D w b m n i j = 1 ∧ stp D w b m n (i, j) = (i + 1, j + 1)) ∨ (sco D w b m n i j = 2 ∧ stp D w b m n (i, j) = (i + 1, j)) ∨ (sco D w b m n i j = 3 ∧ stp D w b m n (i, j) = (i, j + 1)) := by
  unfold sco stp
  rw [if_neg hl]
  dsimp only
  split
  · exact Or.inl ⟨rfl, rfl⟩
  · split
    · exact Or.inr (Or.inl ⟨rfl, rfl⟩)
    · exact Or.inr (Or.inr ⟨rfl, rfl⟩)
/-- how many of the first k steps hold a note -/
def hls (S : Int → Int) : Nat → Int
  | 0 => 0
  | k + 1 => hls S k + (if (spt S (k + 1)).1 = (spt S k).1 ∨ (spt S (k + 1)).2 = (spt S k).2 then 1 else 0)
theorem hls_rng (S : Int → Int) : ∀ n : Nat, 0 ≤ hls S n ∧ hls S n ≤ n := by
  intro n
  induction n with
  | zero => exact ⟨Int.le_refl 0, Int.le_refl 0⟩
  | succ n ih =>
    show 0 ≤ hls S n + (if _ then 1 else 0) ∧ hls S n + (if _ then 1 else 0) ≤ _
    split <;> omega
theorem cnt_cong {f g : Int → Int} {x : Int} : ∀ n : Nat, (∀ y : Int, 0 ≤ y → y < n → f y = g y) → cnt f x n = cnt g x n := by
  intro n
  induction n with
  | zero => intro _; rfl
  | succ n ih =>
    intro h
    show cnt f x n + _ = cnt g x n + _
    rw [ih (fun y y1 y2 => h y y1 (by omega)), h n (by omega) (by omega)]
theorem cnt_up {f : Int → Int} {x c v : Int} (hc : 0 ≤ c) : cnt (up f c v) x (c + 1).toNat = cnt f x c.toNat + (if v = x then 1 else 0) := by
  rw [cnt_s hc, up_self, cnt_cong c.toNat (fun y y1 y2 => up_ne _ _ (by omega))]
theorem c_X2_firstAfter0 {d : Nat} {hp : xH} {i : Int} : Cv d 19 [yi i, yi 0] hp (yP (some (yi i)) hp) := by
  have hk : xtab 19 = (xc_19, 2, 1, []) := rfl
  show Ev d 19 0 [(0, yi i), (1, yi 0)] [] hp _
  refine E_run hk 2 (j' := 2) (lv' := [(0, yi i), (1, yi 0)]) (st' := [yi 1, yi 0]) (hp' := hp) rfl ?_
  refine Y_ic_eq (a := 0) (b := 1) (by omega) hk rfl (fun g1 => ?_) (fun g1 => ?_)
  · exfalso; omega
  ·
    refine E_run hk 2 (j' := 5) (lv' := [(0, yi i), (1, yi 0)]) (st' := [yi 2, yi 0]) (hp' := hp) rfl ?_
    refine Y_ic_ne (a := 0) (b := 2) (by omega) hk rfl (fun g2 => ?_) (fun g2 => ?_)
    ·
      refine E_run hk 1 (j' := 11) (lv' := [(0, yi i), (1, yi 0)]) (st' := [yi i]) (hp' := hp) rfl ?_
      exact E_ret hk rfl rfl ⟨rfl, rfl⟩
    · exfalso; omega
theorem c_X2_firstAfter1 {d : Nat} {hp : xH} {i : Int} : Cv d 19 [yi i, yi 1] hp (yP (some (yi (i + 1))) hp) := by
  have hk : xtab 19 = (xc_19, 2, 1, []) := rfl
  show Ev d 19 0 [(0, yi i), (1, yi 1)] [] hp _
  refine E_run hk 2 (j' := 2) (lv' := [(0, yi i), (1, yi 1)]) (st' := [yi 1, yi 1]) (hp' := hp) rfl ?_
  refine Y_ic_eq (a := 1) (b := 1) (by omega) hk rfl (fun g1 => ?_) (fun g1 => ?_)
  ·
    refine E_run hk 2 (j' := 8) (lv' := [(0, yi i), (1, yi 1)]) (st' := [yi 1, yi i]) (hp' := hp) rfl ?_
    refine Y_iadd (a := i) (b := 1) hk rfl ?_
    refine E_run hk 1 (j' := 11) (lv' := [(0, yi i), (1, yi 1)]) (st' := [yi (i + 1)]) (hp' := hp) rfl ?_
    exact E_ret hk rfl rfl ⟨rfl, rfl⟩
  · exfalso; omega
theorem c_X2_firstAfter2 {d : Nat} {hp : xH} {i : Int} : Cv d 19 [yi i, yi 2] hp (yP (some (yi (i + 1))) hp) := by
  have hk : xtab 19 = (xc_19, 2, 1, []) := rfl
  show Ev d 19 0 [(0, yi i), (1, yi 2)] [] hp _
  refine E_run hk 2 (j' := 2) (lv' := [(0, yi i), (1, yi 2)]) (st' := [yi 1, yi 2]) (hp' := hp) rfl ?_
  refine Y_ic_eq (a := 2) (b := 1) (by omega) hk rfl (fun g1 => ?_) (fun g1 => ?_)
  · exfalso; omega
  ·
    refine E_run hk 2 (j' := 5) (lv' := [(0, yi i), (1, yi 2)]) (st' := [yi 2, yi 2]) (hp' := hp) rfl ?_
    refine Y_ic_ne (a := 2) (b := 2) (by omega) hk rfl (fun g2 => ?_) (fun g2 => ?_)
    · exfalso; omega
    ·
      refine E_run hk 2 (j' := 8) (lv' := [(0, yi i), (1, yi 2)]) (st' := [yi 1, yi i]) (hp' := hp) rfl ?_
      refine Y_iadd (a := i) (b := 1) hk rfl ?_
      refine E_run hk 1 (j' := 11) (lv' := [(0, yi i), (1, yi 2)]) (st' := [yi (i + 1)]) (hp' := hp) rfl ?_
      exact E_ret hk rfl rfl ⟨rfl, rfl⟩
theorem c_X2_firstAfter3 {d : Nat} {hp : xH} {i : Int} : Cv d 19 [yi i, yi 3] hp (yP (some (yi i)) hp) := by
  have hk : xtab 19 = (xc_19, 2, 1, []) := rfl
  show Ev d 19 0 [(0, yi i), (1, yi 3)] [] hp _
  refine E_run hk 2 (j' := 2) (lv' := [(0, yi i), (1, yi 3)]) (st' := [yi 1, yi 3]) (hp' := hp) rfl ?_
  refine Y_ic_eq (a := 3) (b := 1) (by omega) hk rfl (fun g1 => ?_) (fun g1 => ?_)
  · exfalso; omega
  ·
    refine E_run hk 2 (j' := 5) (lv' := [(0, yi i), (1, yi 3)]) (st' := [yi 2, yi 3]) (hp' := hp) rfl ?_
    refine Y_ic_ne (a := 3) (b := 2) (by omega) hk rfl (fun g2 => ?_) (fun g2 => ?_)
    ·
      refine E_run hk 1 (j' := 11) (lv' := [(0, yi i), (1, yi 3)]) (st' := [yi i]) (hp' := hp) rfl ?_
      exact E_ret hk rfl rfl ⟨rfl, rfl⟩
    · exfalso; omega
theorem c_X2_secondAfter0 {d : Nat} {hp : xH} {i : Int} : Cv d 20 [yi i, yi 0] hp (yP (some (yi i)) hp) := by
  have hk : xtab 20 = (xc_20, 2, 1, []) := rfl
  show Ev d 20 0 [(0, yi i), (1, yi 0)] [] hp _
  refine E_run hk 2 (j' := 2) (lv' := [(0, yi i), (1, yi 0)]) (st' := [yi 1, yi 0]) (hp' := hp) rfl ?_
  refine Y_ic_eq (a := 0) (b := 1) (by omega) hk rfl (fun g1 => ?_) (fun g1 => ?_)
  · exfalso; omega
  ·
    refine E_run hk 2 (j' := 5) (lv' := [(0, yi i), (1, yi 0)]) (st' := [yi 3, yi 0]) (hp' := hp) rfl ?_
    refine Y_ic_ne (a := 0) (b := 3) (by omega) hk rfl (fun g2 => ?_) (fun g2 => ?_)
    ·
      refine E_run hk 1 (j' := 11) (lv' := [(0, yi i), (1, yi 0)]) (st' := [yi i]) (hp' := hp) rfl ?_
      exact E_ret hk rfl rfl ⟨rfl, rfl⟩
    · exfalso; omega
theorem c_X2_secondAfter1 {d : Nat} {hp : xH} {i : Int} : Cv d 20 [yi i, yi 1] hp (yP (some (yi (i + 1))) hp) := by
  have hk : xtab 20 = (xc_20, 2, 1, []) := rfl
  show Ev d 20 0 [(0, yi i), (1, yi 1)] [] hp _
  refine E_run hk 2 (j' := 2) (lv' := [(0, yi i), (1, yi 1)]) (st' := [yi 1, yi 1]) (hp' := hp) rfl ?_
  refine Y_ic_eq (a := 1) (b := 1) (by omega) hk rfl (fun g1 => ?_) (fun g1 => ?_)
  ·
    refine E_run hk 2 (j' := 8) (lv' := [(0, yi i), (1, yi 1)]) (st' := [yi 1, yi i]) (hp' := hp) rfl ?_
    refine Y_iadd (a := i) (b := 1) hk rfl ?_
    refine E_run hk 1 (j' := 11) (lv' := [(0, yi i), (1, yi 1)]) (st' := [yi (i + 1)]) (hp' := hp) rfl ?_
    exact E_ret hk rfl rfl ⟨rfl, rfl⟩
  · exfalso; omega
theorem c_X2_secondAfter2 {d : Nat} {hp : xH} {i : Int} : Cv d 20 [yi i, yi 2] hp (yP (some (yi i)) hp) := by
  have hk : xtab 20 = (xc_20, 2, 1, []) := rfl
  show Ev d 20 0 [(0, yi i), (1, yi 2)] [] hp _
  refine E_run hk 2 (j' := 2) (lv' := [(0, yi i), (1, yi 2)]) (st' := [yi 1, yi 2]) (hp' := hp) rfl ?_
  refine Y_ic_eq (a := 2) (b := 1) (by omega) hk rfl (fun g1 => ?_) (fun g1 => ?_)
  · exfalso; omega
  ·
    refine E_run hk 2 (j' := 5) (lv' := [(0, yi i), (1, yi 2)]) (st' := [yi 3, yi 2]) (hp' := hp) rfl ?_
    refine Y_ic_ne (a := 2) (b := 3) (by omega) hk rfl (fun g2 => ?_) (fun g2 => ?_)
    ·
      refine E_run hk 1 (j' := 11) (lv' := [(0, yi i), (1, yi 2)]) (st' := [yi i]) (hp' := hp) rfl ?_
      exact E_ret hk rfl rfl ⟨rfl, rfl⟩
    · exfalso; omega
theorem c_X2_secondAfter3 {d : Nat} {hp : xH} {i : Int} : Cv d 20 [yi i, yi 3] hp (yP (some (yi (i + 1))) hp) := by
  have hk : xtab 20 = (xc_20, 2, 1, []) := rfl
  show Ev d 20 0 [(0, yi i), (1, yi 3)] [] hp _
  refine E_run hk 2 (j' := 2) (lv' := [(0, yi i), (1, yi 3)]) (st' := [yi 1, yi 3]) (hp' := hp) rfl ?_
  refine Y_ic_eq (a := 3) (b := 1) (by omega) hk rfl (fun g1 => ?_) (fun g1 => ?_)
  · exfalso; omega
  ·
    refine E_run hk 2 (j' := 5) (lv' := [(0, yi i), (1, yi 3)]) (st' := [yi 3, yi 3]) (hp' := hp) rfl ?_
    refine Y_ic_ne (a := 3) (b := 3) (by omega) hk rfl (fun g2 => ?_) (fun g2 => ?_)
    · exfalso; omega
    ·
      refine E_run hk 2 (j' := 8) (lv' := [(0, yi i), (1, yi 3)]) (st' := [yi 1, yi i]) (hp' := hp) rfl ?_
      refine Y_iadd (a := i) (b := 1) hk rfl ?_
      refine E_run hk 1 (j' := 11) (lv' := [(0, yi i), (1, yi 3)]) (st' := [yi (i + 1)]) (hp' := hp) rfl ?_
      exact E_ret hk rfl rfl ⟨rfl, rfl⟩
theorem c_X2_isBestStep1 {d : Nat} {hp : xH} {B : Int → Int} {c e nb : Int} (h43 : xat hp 43 = some (.inr (3, [.ref 44, .ref 46, .ref 48, .ref 50, .ref 52, .ref 53, .ref 54, .ref 55, yi c, yi e, yi nb]))) (h44 : xat hp 44 = some (.inr (1, [.ref 45]))) (h46 : xat hp 46 = some (.inr (1, [.ref 47]))) (h48 : xat hp 48 = some (.inr (1, [.ref 49]))) (h50 : xat hp 50 = some (.inr (1, [.ref 51]))) (h47 : xat hp 47 = some (yI 400 B)) {z o : Nat} {S f g : Int → Int} {r t : Int} (hS : yS hp 29 z o S f g r t) (hz : 0 ≤ S 0 ∧ S 0 ≤ 20 ∧ 0 ≤ S 1 ∧ S 1 ≤ 20 ∧ 0 ≤ S 2 ∧ S 2 ≤ 20 ∧ 0 ≤ S 3 ∧ S 3 ≤ 50 ∧ 0 ≤ S 4 ∧ S 4 ≤ 3) (h0 : ∀ q, 0 ≤ q → q < S 0 → 0 ≤ S (7 + q) ∧ S (7 + q) ≤ 60) (h1 : ∀ q, 0 ≤ q → q < S 1 → 0 ≤ S (27 + q) ∧ S (27 + q) ≤ 60) {i j : Int} (hi : 0 ≤ i ∧ i < S 0 ∧ 0 ≤ j ∧ j < S 1) (hr : 0 ≤ gat B (i + 1) (j + 1) ∧ gat B (i + 1) (j + 1) ≤ 1000000000 ∧ 0 ≤ gat B i j ∧ gat B i j ≤ 1000000000) (hd : 2 ≤ d) : Cv d 18 [.ref 43, .ref 29, yi i, yi j, yi 1] hp (yP (some (yi (b2 (gat B (i + 1) (j + 1) < 1000000000 ∧ gat B i j = unl S 0 i j + 0 + gat B (i + 1) (j + 1))))) hp) := by
  have hk : xtab 18 = (xc_18, 7, 2, []) := rfl
  obtain ⟨d, rfl⟩ : ∃ e, d = e + 1 := ⟨d - 1, by omega⟩
  obtain ⟨hid, hs_, hz_, ho_, hf_, hg_, ef, eg⟩ := hS
  have hD := unl_rng (b := 0) hz h0 h1 (by omega) (i := i) (j := j) (by omega) (by omega) (by omega) (by omega)
  show Ev (d + 1) 18 0 [(0, .ref 43), (1, .ref 29), (2, yi i), (3, yi j), (4, yi 1)] [] hp _
  refine E_run hk 1 (j' := 1) (lv' := [(0, .ref 43), (1, .ref 29), (2, yi i), (3, yi j), (4, yi 1)]) (st' := [.ref 43]) (hp' := hp) rfl ?_
  refine E_get (v := .ref 46) hk rfl h43 rfl ?_
  refine E_run hk 2 (j' := 4) (lv' := [(0, .ref 43), (1, .ref 29), (2, yi i), (3, yi j), (4, yi 1)]) (st' := [yi 1, yi i, .ref 46]) (hp' := hp) rfl ?_
  refine Y_callP hk rfl (as := [yi i, yi 1]) (rest := [.ref 46]) (v := some (yi (i + 1))) rfl rfl (Nat.le_of_ble_eq_true rfl) rfl (Nat.le_of_ble_eq_true rfl) (c_X2_firstAfter1 (i := i)) ?_
  refine E_run hk 2 (j' := 7) (lv' := [(0, .ref 43), (1, .ref 29), (2, yi i), (3, yi j), (4, yi 1)]) (st' := [yi 1, yi j, yi (i + 1), .ref 46]) (hp' := hp) rfl ?_
  refine Y_callP hk rfl (as := [yi j, yi 1]) (rest := [yi (i + 1), .ref 46]) (v := some (yi (j + 1))) rfl rfl (Nat.le_of_ble_eq_true rfl) rfl (Nat.le_of_ble_eq_true rfl) (c_X2_secondAfter1 (i := j)) ?_
  refine Y_callP hk rfl (as := [.ref 46, yi (i + 1), yi (j + 1)]) (rest := []) (v := some (yi (gat B (i + 1) (j + 1)))) rfl rfl (Nat.le_of_ble_eq_true rfl) (rcv0 h46) (Nat.le_of_ble_eq_true rfl) (c_X0_at (i := (i + 1)) (j := (j + 1)) (a := 46) (p := 47) (k := B) ⟨by decide, by decide, by decide⟩ h46 h47 (by omega)) ?_
  refine E_run hk 3 (j' := 12) (lv' := [(5, yi (gat B (i + 1) (j + 1))), (0, .ref 43), (1, .ref 29), (2, yi i), (3, yi j), (4, yi 1)]) (st' := [yi 1, yi 1]) (hp' := hp) rfl ?_
  refine Y_ic_ne (a := 1) (b := 1) (by omega) hk rfl (fun g1 => ?_) (fun g1 => ?_)
  · exfalso; omega
  ·
    refine E_run hk 5 (j' := 20) (lv' := [(6, yi 0), (5, yi (gat B (i + 1) (j + 1))), (0, .ref 43), (1, .ref 29), (2, yi i), (3, yi j), (4, yi 1)]) (st' := [yi 1000000000, yi (gat B (i + 1) (j + 1))]) (hp' := hp) rfl ?_
    refine Y_ic_ge (a := (gat B (i + 1) (j + 1))) (b := 1000000000) (by omega) hk rfl (fun g2 => ?_) (fun g2 => ?_)
    ·
      refine E_run hk 1 (j' := 38) (lv' := [(6, yi 0), (5, yi (gat B (i + 1) (j + 1))), (0, .ref 43), (1, .ref 29), (2, yi i), (3, yi j), (4, yi 1)]) (st' := [yi 0]) (hp' := hp) rfl ?_
      exact E_ret hk rfl rfl (by refine ⟨?_, rfl⟩; first | (rw [b2_t (by omega)]; done) | (rw [b2_f (by omega)]; done))
    ·
      refine E_run hk 1 (j' := 22) (lv' := [(6, yi 0), (5, yi (gat B (i + 1) (j + 1))), (0, .ref 43), (1, .ref 29), (2, yi i), (3, yi j), (4, yi 1)]) (st' := [.ref 43]) (hp' := hp) rfl ?_
      refine E_get (v := .ref 46) hk rfl h43 rfl ?_
      refine E_run hk 2 (j' := 25) (lv' := [(6, yi 0), (5, yi (gat B (i + 1) (j + 1))), (0, .ref 43), (1, .ref 29), (2, yi i), (3, yi j), (4, yi 1)]) (st' := [yi j, yi i, .ref 46]) (hp' := hp) rfl ?_
      refine Y_callP hk rfl (as := [.ref 46, yi i, yi j]) (rest := []) (v := some (yi (gat B i j))) rfl rfl (Nat.le_of_ble_eq_true rfl) (rcv0 h46) (Nat.le_of_ble_eq_true rfl) (c_X0_at (i := i) (j := j) (a := 46) (p := 47) (k := B) ⟨by decide, by decide, by decide⟩ h46 h47 (by omega)) ?_
      refine E_run hk 3 (j' := 29) (lv' := [(6, yi 0), (5, yi (gat B (i + 1) (j + 1))), (0, .ref 43), (1, .ref 29), (2, yi i), (3, yi j), (4, yi 1)]) (st' := [yi j, yi i, .ref 29, yi (gat B i j)]) (hp' := hp) rfl ?_
      refine Y_callP hk rfl (as := [.ref 29, yi i, yi j]) (rest := [yi (gat B i j)]) (v := some (yi (unl S 0 i j))) rfl rfl (Nat.le_of_ble_eq_true rfl) (rcv0 hs_) (Nat.le_of_ble_eq_true rfl) (c_X5_difference ⟨hid, hs_, hz_, ho_, hf_, hg_, ef, eg⟩ hz h0 h1 (i := i) (j := j) (by omega) (hd := by omega)) ?_
      refine E_run hk 1 (j' := 31) (lv' := [(6, yi 0), (5, yi (gat B (i + 1) (j + 1))), (0, .ref 43), (1, .ref 29), (2, yi i), (3, yi j), (4, yi 1)]) (st' := [yi 0, yi (unl S 0 i j), yi (gat B i j)]) (hp' := hp) rfl ?_
      refine Y_iadd (a := (unl S 0 i j)) (b := 0) hk rfl ?_
      refine E_run hk 1 (j' := 33) (lv' := [(6, yi 0), (5, yi (gat B (i + 1) (j + 1))), (0, .ref 43), (1, .ref 29), (2, yi i), (3, yi j), (4, yi 1)]) (st' := [yi (gat B (i + 1) (j + 1)), yi ((unl S 0 i j) + 0), yi (gat B i j)]) (hp' := hp) rfl ?_
      refine Y_iadd (a := ((unl S 0 i j) + 0)) (b := (gat B (i + 1) (j + 1))) hk rfl ?_
      refine Y_ic_ne (a := (gat B i j)) (b := (((unl S 0 i j) + 0) + (gat B (i + 1) (j + 1)))) (by omega) hk rfl (fun g3 => ?_) (fun g3 => ?_)
      ·
        refine E_run hk 1 (j' := 38) (lv' := [(6, yi 0), (5, yi (gat B (i + 1) (j + 1))), (0, .ref 43), (1, .ref 29), (2, yi i), (3, yi j), (4, yi 1)]) (st' := [yi 0]) (hp' := hp) rfl ?_
        exact E_ret hk rfl rfl (by refine ⟨?_, rfl⟩; first | (rw [b2_t (by omega)]; done) | (rw [b2_f (by omega)]; done))
      ·
        refine E_run hk 2 (j' := 38) (lv' := [(6, yi 0), (5, yi (gat B (i + 1) (j + 1))), (0, .ref 43), (1, .ref 29), (2, yi i), (3, yi j), (4, yi 1)]) (st' := [yi 1]) (hp' := hp) rfl ?_
        exact E_ret hk rfl rfl (by refine ⟨?_, rfl⟩; first | (rw [b2_t (by omega)]; done) | (rw [b2_f (by omega)]; done))
theorem c_X2_isBestStep2 {d : Nat} {hp : xH} {B : Int → Int} {c e nb : Int} (h43 : xat hp 43 = some (.inr (3, [.ref 44, .ref 46, .ref 48, .ref 50, .ref 52, .ref 53, .ref 54, .ref 55, yi c, yi e, yi nb]))) (h44 : xat hp 44 = some (.inr (1, [.ref 45]))) (h46 : xat hp 46 = some (.inr (1, [.ref 47]))) (h48 : xat hp 48 = some (.inr (1, [.ref 49]))) (h50 : xat hp 50 = some (.inr (1, [.ref 51]))) (h47 : xat hp 47 = some (yI 400 B)) {z o : Nat} {S f g : Int → Int} {r t : Int} (hS : yS hp 29 z o S f g r t) (hz : 0 ≤ S 0 ∧ S 0 ≤ 20 ∧ 0 ≤ S 1 ∧ S 1 ≤ 20 ∧ 0 ≤ S 2 ∧ S 2 ≤ 20 ∧ 0 ≤ S 3 ∧ S 3 ≤ 50 ∧ 0 ≤ S 4 ∧ S 4 ≤ 3) (h0 : ∀ q, 0 ≤ q → q < S 0 → 0 ≤ S (7 + q) ∧ S (7 + q) ≤ 60) (h1 : ∀ q, 0 ≤ q → q < S 1 → 0 ≤ S (27 + q) ∧ S (27 + q) ≤ 60) {i j : Int} (hi : 0 ≤ i ∧ i < S 0 ∧ 0 ≤ j ∧ j < S 1) (hr : 0 ≤ gat B (i + 1) j ∧ gat B (i + 1) j ≤ 1000000000 ∧ 0 ≤ gat B i j ∧ gat B i j ≤ 1000000000) (hd : 2 ≤ d) : Cv d 18 [.ref 43, .ref 29, yi i, yi j, yi 2] hp (yP (some (yi (b2 (gat B (i + 1) j < 1000000000 ∧ gat B i j = unl S 0 i j + S 3 + gat B (i + 1) j)))) hp) := by
  have hk : xtab 18 = (xc_18, 7, 2, []) := rfl
  obtain ⟨d, rfl⟩ : ∃ e, d = e + 1 := ⟨d - 1, by omega⟩
  obtain ⟨hid, hs_, hz_, ho_, hf_, hg_, ef, eg⟩ := hS
  have hD := unl_rng (b := 0) hz h0 h1 (by omega) (i := i) (j := j) (by omega) (by omega) (by omega) (by omega)
  show Ev (d + 1) 18 0 [(0, .ref 43), (1, .ref 29), (2, yi i), (3, yi j), (4, yi 2)] [] hp _
  refine E_run hk 1 (j' := 1) (lv' := [(0, .ref 43), (1, .ref 29), (2, yi i), (3, yi j), (4, yi 2)]) (st' := [.ref 43]) (hp' := hp) rfl ?_
  refine E_get (v := .ref 46) hk rfl h43 rfl ?_
  refine E_run hk 2 (j' := 4) (lv' := [(0, .ref 43), (1, .ref 29), (2, yi i), (3, yi j), (4, yi 2)]) (st' := [yi 2, yi i, .ref 46]) (hp' := hp) rfl ?_
  refine Y_callP hk rfl (as := [yi i, yi 2]) (rest := [.ref 46]) (v := some (yi (i + 1))) rfl rfl (Nat.le_of_ble_eq_true rfl) rfl (Nat.le_of_ble_eq_true rfl) (c_X2_firstAfter2 (i := i)) ?_
  refine E_run hk 2 (j' := 7) (lv' := [(0, .ref 43), (1, .ref 29), (2, yi i), (3, yi j), (4, yi 2)]) (st' := [yi 2, yi j, yi (i + 1), .ref 46]) (hp' := hp) rfl ?_
  refine Y_callP hk rfl (as := [yi j, yi 2]) (rest := [yi (i + 1), .ref 46]) (v := some (yi j)) rfl rfl (Nat.le_of_ble_eq_true rfl) rfl (Nat.le_of_ble_eq_true rfl) (c_X2_secondAfter2 (i := j)) ?_
  refine Y_callP hk rfl (as := [.ref 46, yi (i + 1), yi j]) (rest := []) (v := some (yi (gat B (i + 1) j))) rfl rfl (Nat.le_of_ble_eq_true rfl) (rcv0 h46) (Nat.le_of_ble_eq_true rfl) (c_X0_at (i := (i + 1)) (j := j) (a := 46) (p := 47) (k := B) ⟨by decide, by decide, by decide⟩ h46 h47 (by omega)) ?_
  refine E_run hk 3 (j' := 12) (lv' := [(5, yi (gat B (i + 1) j)), (0, .ref 43), (1, .ref 29), (2, yi i), (3, yi j), (4, yi 2)]) (st' := [yi 1, yi 2]) (hp' := hp) rfl ?_
  refine Y_ic_ne (a := 2) (b := 1) (by omega) hk rfl (fun g1 => ?_) (fun g1 => ?_)
  ·
    refine E_run hk 1 (j' := 16) (lv' := [(5, yi (gat B (i + 1) j)), (0, .ref 43), (1, .ref 29), (2, yi i), (3, yi j), (4, yi 2)]) (st' := [.ref 29]) (hp' := hp) rfl ?_
    refine E_get (v := yi (S 3)) hk rfl hs_ rfl ?_
    refine E_run hk 3 (j' := 20) (lv' := [(6, yi (S 3)), (5, yi (gat B (i + 1) j)), (0, .ref 43), (1, .ref 29), (2, yi i), (3, yi j), (4, yi 2)]) (st' := [yi 1000000000, yi (gat B (i + 1) j)]) (hp' := hp) rfl ?_
    refine Y_ic_ge (a := (gat B (i + 1) j)) (b := 1000000000) (by omega) hk rfl (fun g2 => ?_) (fun g2 => ?_)
    ·
      refine E_run hk 1 (j' := 38) (lv' := [(6, yi (S 3)), (5, yi (gat B (i + 1) j)), (0, .ref 43), (1, .ref 29), (2, yi i), (3, yi j), (4, yi 2)]) (st' := [yi 0]) (hp' := hp) rfl ?_
      exact E_ret hk rfl rfl (by refine ⟨?_, rfl⟩; first | (rw [b2_t (by omega)]; done) | (rw [b2_f (by omega)]; done))
    ·
      refine E_run hk 1 (j' := 22) (lv' := [(6, yi (S 3)), (5, yi (gat B (i + 1) j)), (0, .ref 43), (1, .ref 29), (2, yi i), (3, yi j), (4, yi 2)]) (st' := [.ref 43]) (hp' := hp) rfl ?_
      refine E_get (v := .ref 46) hk rfl h43 rfl ?_
      refine E_run hk 2 (j' := 25) (lv' := [(6, yi (S 3)), (5, yi (gat B (i + 1) j)), (0, .ref 43), (1, .ref 29), (2, yi i), (3, yi j), (4, yi 2)]) (st' := [yi j, yi i, .ref 46]) (hp' := hp) rfl ?_
      refine Y_callP hk rfl (as := [.ref 46, yi i, yi j]) (rest := []) (v := some (yi (gat B i j))) rfl rfl (Nat.le_of_ble_eq_true rfl) (rcv0 h46) (Nat.le_of_ble_eq_true rfl) (c_X0_at (i := i) (j := j) (a := 46) (p := 47) (k := B) ⟨by decide, by decide, by decide⟩ h46 h47 (by omega)) ?_
      refine E_run hk 3 (j' := 29) (lv' := [(6, yi (S 3)), (5, yi (gat B (i + 1) j)), (0, .ref 43), (1, .ref 29), (2, yi i), (3, yi j), (4, yi 2)]) (st' := [yi j, yi i, .ref 29, yi (gat B i j)]) (hp' := hp) rfl ?_
      refine Y_callP hk rfl (as := [.ref 29, yi i, yi j]) (rest := [yi (gat B i j)]) (v := some (yi (unl S 0 i j))) rfl rfl (Nat.le_of_ble_eq_true rfl) (rcv0 hs_) (Nat.le_of_ble_eq_true rfl) (c_X5_difference ⟨hid, hs_, hz_, ho_, hf_, hg_, ef, eg⟩ hz h0 h1 (i := i) (j := j) (by omega) (hd := by omega)) ?_
      refine E_run hk 1 (j' := 31) (lv' := [(6, yi (S 3)), (5, yi (gat B (i + 1) j)), (0, .ref 43), (1, .ref 29), (2, yi i), (3, yi j), (4, yi 2)]) (st' := [yi (S 3), yi (unl S 0 i j), yi (gat B i j)]) (hp' := hp) rfl ?_
      refine Y_iadd (a := (unl S 0 i j)) (b := (S 3)) hk rfl ?_
      refine E_run hk 1 (j' := 33) (lv' := [(6, yi (S 3)), (5, yi (gat B (i + 1) j)), (0, .ref 43), (1, .ref 29), (2, yi i), (3, yi j), (4, yi 2)]) (st' := [yi (gat B (i + 1) j), yi ((unl S 0 i j) + (S 3)), yi (gat B i j)]) (hp' := hp) rfl ?_
      refine Y_iadd (a := ((unl S 0 i j) + (S 3))) (b := (gat B (i + 1) j)) hk rfl ?_
      refine Y_ic_ne (a := (gat B i j)) (b := (((unl S 0 i j) + (S 3)) + (gat B (i + 1) j))) (by omega) hk rfl (fun g3 => ?_) (fun g3 => ?_)
      ·
        refine E_run hk 1 (j' := 38) (lv' := [(6, yi (S 3)), (5, yi (gat B (i + 1) j)), (0, .ref 43), (1, .ref 29), (2, yi i), (3, yi j), (4, yi 2)]) (st' := [yi 0]) (hp' := hp) rfl ?_
        exact E_ret hk rfl rfl (by refine ⟨?_, rfl⟩; first | (rw [b2_t (by omega)]; done) | (rw [b2_f (by omega)]; done))
      ·
        refine E_run hk 2 (j' := 38) (lv' := [(6, yi (S 3)), (5, yi (gat B (i + 1) j)), (0, .ref 43), (1, .ref 29), (2, yi i), (3, yi j), (4, yi 2)]) (st' := [yi 1]) (hp' := hp) rfl ?_
        exact E_ret hk rfl rfl (by refine ⟨?_, rfl⟩; first | (rw [b2_t (by omega)]; done) | (rw [b2_f (by omega)]; done))
  · exfalso; omega
theorem c_X2_isBestStep3 {d : Nat} {hp : xH} {B : Int → Int} {c e nb : Int} (h43 : xat hp 43 = some (.inr (3, [.ref 44, .ref 46, .ref 48, .ref 50, .ref 52, .ref 53, .ref 54, .ref 55, yi c, yi e, yi nb]))) (h44 : xat hp 44 = some (.inr (1, [.ref 45]))) (h46 : xat hp 46 = some (.inr (1, [.ref 47]))) (h48 : xat hp 48 = some (.inr (1, [.ref 49]))) (h50 : xat hp 50 = some (.inr (1, [.ref 51]))) (h47 : xat hp 47 = some (yI 400 B)) {z o : Nat} {S f g : Int → Int} {r t : Int} (hS : yS hp 29 z o S f g r t) (hz : 0 ≤ S 0 ∧ S 0 ≤ 20 ∧ 0 ≤ S 1 ∧ S 1 ≤ 20 ∧ 0 ≤ S 2 ∧ S 2 ≤ 20 ∧ 0 ≤ S 3 ∧ S 3 ≤ 50 ∧ 0 ≤ S 4 ∧ S 4 ≤ 3) (h0 : ∀ q, 0 ≤ q → q < S 0 → 0 ≤ S (7 + q) ∧ S (7 + q) ≤ 60) (h1 : ∀ q, 0 ≤ q → q < S 1 → 0 ≤ S (27 + q) ∧ S (27 + q) ≤ 60) {i j : Int} (hi : 0 ≤ i ∧ i < S 0 ∧ 0 ≤ j ∧ j < S 1) (hr : 0 ≤ gat B i (j + 1) ∧ gat B i (j + 1) ≤ 1000000000 ∧ 0 ≤ gat B i j ∧ gat B i j ≤ 1000000000) (hd : 2 ≤ d) : Cv d 18 [.ref 43, .ref 29, yi i, yi j, yi 3] hp (yP (some (yi (b2 (gat B i (j + 1) < 1000000000 ∧ gat B i j = unl S 0 i j + S 3 + gat B i (j + 1))))) hp) := by
  have hk : xtab 18 = (xc_18, 7, 2, []) := rfl
  obtain ⟨d, rfl⟩ : ∃ e, d = e + 1 := ⟨d - 1, by omega⟩
  obtain ⟨hid, hs_, hz_, ho_, hf_, hg_, ef, eg⟩ := hS
  have hD := unl_rng (b := 0) hz h0 h1 (by omega) (i := i) (j := j) (by omega) (by omega) (by omega) (by omega)
  show Ev (d + 1) 18 0 [(0, .ref 43), (1, .ref 29), (2, yi i), (3, yi j), (4, yi 3)] [] hp _
  refine E_run hk 1 (j' := 1) (lv' := [(0, .ref 43), (1, .ref 29), (2, yi i), (3, yi j), (4, yi 3)]) (st' := [.ref 43]) (hp' := hp) rfl ?_
  refine E_get (v := .ref 46) hk rfl h43 rfl ?_
  refine E_run hk 2 (j' := 4) (lv' := [(0, .ref 43), (1, .ref 29), (2, yi i), (3, yi j), (4, yi 3)]) (st' := [yi 3, yi i, .ref 46]) (hp' := hp) rfl ?_
  refine Y_callP hk rfl (as := [yi i, yi 3]) (rest := [.ref 46]) (v := some (yi i)) rfl rfl (Nat.le_of_ble_eq_true rfl) rfl (Nat.le_of_ble_eq_true rfl) (c_X2_firstAfter3 (i := i)) ?_
  refine E_run hk 2 (j' := 7) (lv' := [(0, .ref 43), (1, .ref 29), (2, yi i), (3, yi j), (4, yi 3)]) (st' := [yi 3, yi j, yi i, .ref 46]) (hp' := hp) rfl ?_
  refine Y_callP hk rfl (as := [yi j, yi 3]) (rest := [yi i, .ref 46]) (v := some (yi (j + 1))) rfl rfl (Nat.le_of_ble_eq_true rfl) rfl (Nat.le_of_ble_eq_true rfl) (c_X2_secondAfter3 (i := j)) ?_
  refine Y_callP hk rfl (as := [.ref 46, yi i, yi (j + 1)]) (rest := []) (v := some (yi (gat B i (j + 1)))) rfl rfl (Nat.le_of_ble_eq_true rfl) (rcv0 h46) (Nat.le_of_ble_eq_true rfl) (c_X0_at (i := i) (j := (j + 1)) (a := 46) (p := 47) (k := B) ⟨by decide, by decide, by decide⟩ h46 h47 (by omega)) ?_
  refine E_run hk 3 (j' := 12) (lv' := [(5, yi (gat B i (j + 1))), (0, .ref 43), (1, .ref 29), (2, yi i), (3, yi j), (4, yi 3)]) (st' := [yi 1, yi 3]) (hp' := hp) rfl ?_
  refine Y_ic_ne (a := 3) (b := 1) (by omega) hk rfl (fun g1 => ?_) (fun g1 => ?_)
  ·
    refine E_run hk 1 (j' := 16) (lv' := [(5, yi (gat B i (j + 1))), (0, .ref 43), (1, .ref 29), (2, yi i), (3, yi j), (4, yi 3)]) (st' := [.ref 29]) (hp' := hp) rfl ?_
    refine E_get (v := yi (S 3)) hk rfl hs_ rfl ?_
    refine E_run hk 3 (j' := 20) (lv' := [(6, yi (S 3)), (5, yi (gat B i (j + 1))), (0, .ref 43), (1, .ref 29), (2, yi i), (3, yi j), (4, yi 3)]) (st' := [yi 1000000000, yi (gat B i (j + 1))]) (hp' := hp) rfl ?_
    refine Y_ic_ge (a := (gat B i (j + 1))) (b := 1000000000) (by omega) hk rfl (fun g2 => ?_) (fun g2 => ?_)
    ·
      refine E_run hk 1 (j' := 38) (lv' := [(6, yi (S 3)), (5, yi (gat B i (j + 1))), (0, .ref 43), (1, .ref 29), (2, yi i), (3, yi j), (4, yi 3)]) (st' := [yi 0]) (hp' := hp) rfl ?_
      exact E_ret hk rfl rfl (by refine ⟨?_, rfl⟩; first | (rw [b2_t (by omega)]; done) | (rw [b2_f (by omega)]; done))
    ·
      refine E_run hk 1 (j' := 22) (lv' := [(6, yi (S 3)), (5, yi (gat B i (j + 1))), (0, .ref 43), (1, .ref 29), (2, yi i), (3, yi j), (4, yi 3)]) (st' := [.ref 43]) (hp' := hp) rfl ?_
      refine E_get (v := .ref 46) hk rfl h43 rfl ?_
      refine E_run hk 2 (j' := 25) (lv' := [(6, yi (S 3)), (5, yi (gat B i (j + 1))), (0, .ref 43), (1, .ref 29), (2, yi i), (3, yi j), (4, yi 3)]) (st' := [yi j, yi i, .ref 46]) (hp' := hp) rfl ?_
      refine Y_callP hk rfl (as := [.ref 46, yi i, yi j]) (rest := []) (v := some (yi (gat B i j))) rfl rfl (Nat.le_of_ble_eq_true rfl) (rcv0 h46) (Nat.le_of_ble_eq_true rfl) (c_X0_at (i := i) (j := j) (a := 46) (p := 47) (k := B) ⟨by decide, by decide, by decide⟩ h46 h47 (by omega)) ?_
      refine E_run hk 3 (j' := 29) (lv' := [(6, yi (S 3)), (5, yi (gat B i (j + 1))), (0, .ref 43), (1, .ref 29), (2, yi i), (3, yi j), (4, yi 3)]) (st' := [yi j, yi i, .ref 29, yi (gat B i j)]) (hp' := hp) rfl ?_
      refine Y_callP hk rfl (as := [.ref 29, yi i, yi j]) (rest := [yi (gat B i j)]) (v := some (yi (unl S 0 i j))) rfl rfl (Nat.le_of_ble_eq_true rfl) (rcv0 hs_) (Nat.le_of_ble_eq_true rfl) (c_X5_difference ⟨hid, hs_, hz_, ho_, hf_, hg_, ef, eg⟩ hz h0 h1 (i := i) (j := j) (by omega) (hd := by omega)) ?_
      refine E_run hk 1 (j' := 31) (lv' := [(6, yi (S 3)), (5, yi (gat B i (j + 1))), (0, .ref 43), (1, .ref 29), (2, yi i), (3, yi j), (4, yi 3)]) (st' := [yi (S 3), yi (unl S 0 i j), yi (gat B i j)]) (hp' := hp) rfl ?_
      refine Y_iadd (a := (unl S 0 i j)) (b := (S 3)) hk rfl ?_
      refine E_run hk 1 (j' := 33) (lv' := [(6, yi (S 3)), (5, yi (gat B i (j + 1))), (0, .ref 43), (1, .ref 29), (2, yi i), (3, yi j), (4, yi 3)]) (st' := [yi (gat B i (j + 1)), yi ((unl S 0 i j) + (S 3)), yi (gat B i j)]) (hp' := hp) rfl ?_
      refine Y_iadd (a := ((unl S 0 i j) + (S 3))) (b := (gat B i (j + 1))) hk rfl ?_
      refine Y_ic_ne (a := (gat B i j)) (b := (((unl S 0 i j) + (S 3)) + (gat B i (j + 1)))) (by omega) hk rfl (fun g3 => ?_) (fun g3 => ?_)
      ·
        refine E_run hk 1 (j' := 38) (lv' := [(6, yi (S 3)), (5, yi (gat B i (j + 1))), (0, .ref 43), (1, .ref 29), (2, yi i), (3, yi j), (4, yi 3)]) (st' := [yi 0]) (hp' := hp) rfl ?_
        exact E_ret hk rfl rfl (by refine ⟨?_, rfl⟩; first | (rw [b2_t (by omega)]; done) | (rw [b2_f (by omega)]; done))
      ·
        refine E_run hk 2 (j' := 38) (lv' := [(6, yi (S 3)), (5, yi (gat B i (j + 1))), (0, .ref 43), (1, .ref 29), (2, yi i), (3, yi j), (4, yi 3)]) (st' := [yi 1]) (hp' := hp) rfl ?_
        exact E_ret hk rfl rfl (by refine ⟨?_, rfl⟩; first | (rw [b2_t (by omega)]; done) | (rw [b2_f (by omega)]; done))
  · exfalso; omega
theorem c_X2_tellSteps {d : Nat} {hp : xH} {c e nb : Int} (h43 : xat hp 43 = some (.inr (3, [.ref 44, .ref 46, .ref 48, .ref 50, .ref 52, .ref 53, .ref 54, .ref 55, yi c, yi e, yi nb]))) (h44 : xat hp 44 = some (.inr (1, [.ref 45]))) (h46 : xat hp 46 = some (.inr (1, [.ref 47]))) (h48 : xat hp 48 = some (.inr (1, [.ref 49]))) (h50 : xat hp 50 = some (.inr (1, [.ref 51]))) {A B C N P Q U V : Int → Int} (h45 : xat hp 45 = some (yI 400 A)) (h47 : xat hp 47 = some (yI 400 B)) (h49 : xat hp 49 = some (yI 400 C)) (h51 : xat hp 51 = some (yI 400 N)) (h52 : xat hp 52 = some (yI 39 P)) (h53 : xat hp 53 = some (yI 39 Q)) (h54 : xat hp 54 = some (yI 20 U)) (h55 : xat hp 55 = some (yI 20 V)) {z o : Nat} {S f g : Int → Int} {r t : Int} (hS : yS hp 29 z o S f g r t) (hz : 0 ≤ S 0 ∧ S 0 ≤ 20 ∧ 0 ≤ S 1 ∧ S 1 ≤ 20 ∧ 0 ≤ S 2 ∧ S 2 ≤ 20 ∧ 0 ≤ S 3 ∧ S 3 ≤ 50 ∧ 0 ≤ S 4 ∧ S 4 ≤ 3) (h0 : ∀ q, 0 ≤ q → q < S 0 → 0 ≤ S (7 + q) ∧ S (7 + q) ≤ 60) (h1 : ∀ q, 0 ≤ q → q < S 1 → 0 ≤ S (27 + q) ∧ S (27 + q) ≤ 60) (hB : ∀ x y, 0 ≤ x → x < S 0 → 0 ≤ y → y < S 1 → B (20 * x + y) = far (bw (unl S 0) (S 3) (S 2) (S 0) (S 1) x y)) (hB2 : ∀ x y, 0 ≤ x → x < 20 → 0 ≤ y → y < 20 → (S 0 ≤ x ∨ S 1 ≤ y) → B (20 * x + y) = 1000000000) (hd : 3 ≤ d) : Cv d 17 [.ref 43, .ref 29] hp (yR none (fun h => ∃ C2 N2, xat h 49 = some (yI 400 C2) ∧ xat h 51 = some (yI 400 N2) ∧ (∀ x y, 0 ≤ x → x < S 0 → 0 ≤ y → y < S 1 → bw (unl S 0) (S 3) (S 2) (S 0) (S 1) x y < 100000000 → C2 (20 * x + y) = sco (unl S 0) (S 3) (S 2) (S 0) (S 1) x y ∧ N2 (20 * x + y) = wy (unl S 0) (S 3) (S 2) (S 0) (S 1) x y) ∧ yfr [49, 51] hp h)) := by
  have hk : xtab 17 = (xc_17, 7, 0, []) := rfl
  obtain ⟨d, rfl⟩ : ∃ e, d = e + 1 := ⟨d - 1, by omega⟩
  obtain ⟨hid, hs_, hz_, ho_, hf_, hg_, ef, eg⟩ := hS
  have hDD : ∀ i j, 0 ≤ i → i < S 0 → 0 ≤ j → j < S 1 → 0 ≤ unl S 0 i j ∧ unl S 0 i j ≤ 5184 := fun i j a1 a2 a3 a4 => unl_rng hz h0 h1 (by omega) a1 a2 a3 a4
  show Ev (d + 1) 17 0 [(0, .ref 43), (1, .ref 29)] [] hp _
  refine E_run hk 1 (j' := 1) (lv' := [(0, .ref 43), (1, .ref 29)]) (st' := [.ref 29]) (hp' := hp) rfl ?_
  refine E_get (v := .ref z) hk rfl hs_ rfl ?_
  refine E_get (v := yi (S 0)) hk rfl hz_ rfl ?_
  refine E_run hk 1 (j' := 4) (lv' := [(0, .ref 43), (1, .ref 29)]) (st' := [yi 1, yi (S 0)]) (hp' := hp) rfl ?_
  refine Y_isub (a := (S 0)) (b := 1) hk rfl ?_
  refine E_run hk 1 (j' := 6) (lv' := [(2, yi ((S 0) - 1)), (0, .ref 43), (1, .ref 29)]) (st' := []) (hp' := hp) rfl ?_
  have loop6 : ∀ (N : Nat) (i : Int) (cc1 : Int → Int) (nn1 : Int → Int) (hl6 : xH), (-1 ≤ i ∧ i ≤ S 0 - 1) → (∀ x y, i < x → x < S 0 → 0 ≤ y → y < S 1 → bw (unl S 0) (S 3) (S 2) (S 0) (S 1) x y < 100000000 → cc1 (20 * x + y) = sco (unl S 0) (S 3) (S 2) (S 0) (S 1) x y ∧ nn1 (20 * x + y) = wy (unl S 0) (S 3) (S 2) (S 0) (S 1) x y) → (xat hl6 49 = some (yI 400 cc1)) → (xat hl6 51 = some (yI 400 nn1)) → (yfr [49, 51] hp hl6) → (i + 1).toNat = N → Ev (d + 1) 17 6 [(0, .ref 43), (1, .ref 29), (2, yi i)] [] hl6 (yR none (fun h => ∃ C2 N2, xat h 49 = some (yI 400 C2) ∧ xat h 51 = some (yI 400 N2) ∧ (∀ x y, 0 ≤ x → x < S 0 → 0 ≤ y → y < S 1 → bw (unl S 0) (S 3) (S 2) (S 0) (S 1) x y < 100000000 → C2 (20 * x + y) = sco (unl S 0) (S 3) (S 2) (S 0) (S 1) x y ∧ N2 (20 * x + y) = wy (unl S 0) (S 3) (S 2) (S 0) (S 1) x y) ∧ yfr [49, 51] hp h)) := by
    intro N
    induction N using Nat.strongRecOn with
    | ind N ih6 =>
      intro i cc1 nn1 hl6 J1 J2 ec6_49 ec6_51 fr6 hm6
      refine E_run hk 1 (j' := 7) (lv' := [(0, .ref 43), (1, .ref 29), (2, yi i)]) (st' := [yi i]) (hp' := hl6) rfl ?_
      refine Y_if_lt (a := i) (by omega) hk rfl (fun g1 => ?_) (fun g1 => ?_)
      ·
        exact E_ret hk rfl rfl ⟨rfl, _, _, ec6_49, ec6_51, fun x y x1 x2 y1 y2 q => J2 x y (by omega) x2 y1 y2 q, fr6⟩
      ·
        refine E_run hk 1 (j' := 9) (lv' := [(0, .ref 43), (1, .ref 29), (2, yi i)]) (st' := [.ref 29]) (hp' := hl6) rfl ?_
        refine E_get (v := .ref o) hk rfl (fr6.at (by decide) hs_) rfl ?_
        refine E_get (v := yi (S 1)) hk rfl (fr6.at (by simp only [List.mem_cons, List.not_mem_nil, or_false, not_or]; exact ⟨(Ne.symm (sok hid (by unfold apart; decide)).2.2.2.1), (Ne.symm (sok hid (by unfold apart; decide)).2.2.2.1)⟩) ho_) rfl ?_
        refine E_run hk 1 (j' := 12) (lv' := [(0, .ref 43), (1, .ref 29), (2, yi i)]) (st' := [yi 1, yi (S 1)]) (hp' := hl6) rfl ?_
        refine Y_isub (a := (S 1)) (b := 1) hk rfl ?_
        refine E_run hk 1 (j' := 14) (lv' := [(3, yi ((S 1) - 1)), (0, .ref 43), (1, .ref 29), (2, yi i)]) (st' := []) (hp' := hl6) rfl ?_
        have loop14 : ∀ (N : Nat) (j : Int) (cc2 : Int → Int) (nn2 : Int → Int) (hl14 : xH), (-1 ≤ j ∧ j ≤ S 1 - 1) → (∀ x y, i < x → x < S 0 → 0 ≤ y → y < S 1 → bw (unl S 0) (S 3) (S 2) (S 0) (S 1) x y < 100000000 → cc2 (20 * x + y) = sco (unl S 0) (S 3) (S 2) (S 0) (S 1) x y ∧ nn2 (20 * x + y) = wy (unl S 0) (S 3) (S 2) (S 0) (S 1) x y) → (∀ y, j < y → y < S 1 → bw (unl S 0) (S 3) (S 2) (S 0) (S 1) i y < 100000000 → cc2 (20 * i + y) = sco (unl S 0) (S 3) (S 2) (S 0) (S 1) i y ∧ nn2 (20 * i + y) = wy (unl S 0) (S 3) (S 2) (S 0) (S 1) i y) → (xat hl14 49 = some (yI 400 cc2)) → (xat hl14 51 = some (yI 400 nn2)) → (yfr [49, 51] hl6 hl14) → (j + 1).toNat = N → Ev (d + 1) 17 14 [(0, .ref 43), (1, .ref 29), (2, yi i), (3, yi j)] [] hl14 (yR none (fun h => ∃ C2 N2, xat h 49 = some (yI 400 C2) ∧ xat h 51 = some (yI 400 N2) ∧ (∀ x y, 0 ≤ x → x < S 0 → 0 ≤ y → y < S 1 → bw (unl S 0) (S 3) (S 2) (S 0) (S 1) x y < 100000000 → C2 (20 * x + y) = sco (unl S 0) (S 3) (S 2) (S 0) (S 1) x y ∧ N2 (20 * x + y) = wy (unl S 0) (S 3) (S 2) (S 0) (S 1) x y) ∧ yfr [49, 51] hp h)) := by
          intro N
          induction N using Nat.strongRecOn with
          | ind N ih14 =>
            intro j cc2 nn2 hl14 K1 K2 K3 ec14_49 ec14_51 fr14 hm14
            refine E_run hk 1 (j' := 15) (lv' := [(0, .ref 43), (1, .ref 29), (2, yi i), (3, yi j)]) (st' := [yi j]) (hp' := hl14) rfl ?_
            refine Y_if_lt (a := j) (by omega) hk rfl (fun g2 => ?_) (fun g2 => ?_)
            ·
              refine Y_iinc (a := i) (z := (-1)) hk rfl rfl rfl (by decide) (lv' := [(2, yi (i + (-1))), (0, .ref 43), (1, .ref 29), (3, yi j)]) rfl ?_
              refine E_run hk 1 (j' := 6) (lv' := [(2, yi (i + (-1))), (0, .ref 43), (1, .ref 29), (3, yi j)]) (st' := []) (hp' := hl14) rfl ?_
              exact Ev_le (xle_s rfl rfl (xle_s rfl rfl (xle_s rfl rfl (xle_z _ rfl)))) (ih6 _ (by omega) (i + (-1)) cc2 nn2 hl14 (by omega) (fun x y x1 x2 y1 y2 q => by
        by_cases e : x = i
        · subst e
          exact K3 y (by omega) y2 q
        · exact K2 x y (by omega) x2 y1 y2 q) ec14_49 ec14_51 (yfr.tr fr6 fr14 (fun _ h => h) (by decide)) rfl)
            ·
              have u0 : gat B i j = far (bw (unl S 0) (S 3) (S 2) (S 0) (S 1) i j) := (gat_bw (by omega) (fun q1 q2 => hB _ _ (by omega) q1 (by omega) q2) (fun q1 q2 q3 => hB2 _ _ (by omega) q2 (by omega) q3 q1))
              have bb0 : 0 ≤ gat B i j ∧ gat B i j ≤ 1000000000 := by rw [u0]; exact far_bd (bw_rng (b := S 2) (w := S 3) (m := S 0) (n := S 1) (by omega) hDD _ i j (by omega) (by omega) rfl).1
              have u1 : gat B (i + 1) (j + 1) = far (bw (unl S 0) (S 3) (S 2) (S 0) (S 1) (i + 1) (j + 1)) := (gat_bw (by omega) (fun q1 q2 => hB _ _ (by omega) q1 (by omega) q2) (fun q1 q2 q3 => hB2 _ _ (by omega) q2 (by omega) q3 q1))
              have bb1 : 0 ≤ gat B (i + 1) (j + 1) ∧ gat B (i + 1) (j + 1) ≤ 1000000000 := by rw [u1]; exact far_bd (bw_rng (b := S 2) (w := S 3) (m := S 0) (n := S 1) (by omega) hDD _ (i + 1) (j + 1) (by omega) (by omega) rfl).1
              have u2 : gat B (i + 1) j = far (bw (unl S 0) (S 3) (S 2) (S 0) (S 1) (i + 1) j) := (gat_bw (by omega) (fun q1 q2 => hB _ _ (by omega) q1 (by omega) q2) (fun q1 q2 q3 => hB2 _ _ (by omega) q2 (by omega) q3 q1))
              have bb2 : 0 ≤ gat B (i + 1) j ∧ gat B (i + 1) j ≤ 1000000000 := by rw [u2]; exact far_bd (bw_rng (b := S 2) (w := S 3) (m := S 0) (n := S 1) (by omega) hDD _ (i + 1) j (by omega) (by omega) rfl).1
              have u3 : gat B i (j + 1) = far (bw (unl S 0) (S 3) (S 2) (S 0) (S 1) i (j + 1)) := (gat_bw (by omega) (fun q1 q2 => hB _ _ (by omega) q1 (by omega) q2) (fun q1 q2 q3 => hB2 _ _ (by omega) q2 (by omega) q3 q1))
              have bb3 : 0 ≤ gat B i (j + 1) ∧ gat B i (j + 1) ≤ 1000000000 := by rw [u3]; exact far_bd (bw_rng (b := S 2) (w := S 3) (m := S 0) (n := S 1) (by omega) hDD _ i (j + 1) (by omega) (by omega) rfl).1
              have o1 : bw (unl S 0) (S 3) (S 2) (S 0) (S 1) (i + 1) (j + 1) < 100000000 → gat nn2 (i + 1) (j + 1) = wy (unl S 0) (S 3) (S 2) (S 0) (S 1) (i + 1) (j + 1) := fun q => by
                have q1 : (i + 1) < S 0 ∧ (j + 1) < S 1 := by
                  by_cases z : S 0 ≤ (i + 1) ∨ S 1 ≤ (j + 1)
                  · rw [bw_out z] at q
                    omega
                  · omega
                unfold gat
                rw [if_pos (by omega)]
                first
                  | exact (K2 _ _ (by omega) (by omega) (by omega) (by omega) q).2
                  | exact (K3 _ (by omega) (by omega) q).2
              have o2 : bw (unl S 0) (S 3) (S 2) (S 0) (S 1) (i + 1) j < 100000000 → gat nn2 (i + 1) j = wy (unl S 0) (S 3) (S 2) (S 0) (S 1) (i + 1) j := fun q => by
                have q1 : (i + 1) < S 0 ∧ j < S 1 := by
                  by_cases z : S 0 ≤ (i + 1) ∨ S 1 ≤ j
                  · rw [bw_out z] at q
                    omega
                  · omega
                unfold gat
                rw [if_pos (by omega)]
                first
                  | exact (K2 _ _ (by omega) (by omega) (by omega) (by omega) q).2
                  | exact (K3 _ (by omega) (by omega) q).2
              have o3 : bw (unl S 0) (S 3) (S 2) (S 0) (S 1) i (j + 1) < 100000000 → gat nn2 i (j + 1) = wy (unl S 0) (S 3) (S 2) (S 0) (S 1) i (j + 1) := fun q => by
                have q1 : i < S 0 ∧ (j + 1) < S 1 := by
                  by_cases z : S 0 ≤ i ∨ S 1 ≤ (j + 1)
                  · rw [bw_out z] at q
                    omega
                  · omega
                unfold gat
                rw [if_pos (by omega)]
                first
                  | exact (K2 _ _ (by omega) (by omega) (by omega) (by omega) q).2
                  | exact (K3 _ (by omega) (by omega) q).2
              have ng1 : bw (unl S 0) (S 3) (S 2) (S 0) (S 1) (i + 1) (j + 1) < 100000000 → 0 ≤ gat nn2 (i + 1) (j + 1) ∧ gat nn2 (i + 1) (j + 1) ≤ 1000000 := fun q => by rw [o1 q]; exact wy_rng _ _ _ rfl
              have ng2 : bw (unl S 0) (S 3) (S 2) (S 0) (S 1) (i + 1) j < 100000000 → 0 ≤ gat nn2 (i + 1) j ∧ gat nn2 (i + 1) j ≤ 1000000 := fun q => by rw [o2 q]; exact wy_rng _ _ _ rfl
              have ng3 : bw (unl S 0) (S 3) (S 2) (S 0) (S 1) i (j + 1) < 100000000 → 0 ≤ gat nn2 i (j + 1) ∧ gat nn2 i (j + 1) ≤ 1000000 := fun q => by rw [o3 q]; exact wy_rng _ _ _ rfl
              have fin := fun (_ : Unit) q => stepfin (D := unl S 0) (w := S 3) (b := S 2) (m := S 0) (n := S 1) (i := i) (j := j) (by omega) (by omega) hDD (by omega) u0 u1 u2 u3 o1 o2 o3 q
              have rg1 : ∀ _ : Unit, (gat B (i + 1) (j + 1) < 1000000000 ∧ gat B i j = unl S 0 i j + 0 + gat B (i + 1) (j + 1)) → 0 ≤ gat nn2 (i + 1) (j + 1) ∧ gat nn2 (i + 1) (j + 1) ≤ 1000000 := fun _ q => ng1 (by have k := far_rng (bw (unl S 0) (S 3) (S 2) (S 0) (S 1) (i + 1) (j + 1)); omega)
              have rg2 : ∀ _ : Unit, (gat B (i + 1) j < 1000000000 ∧ gat B i j = unl S 0 i j + S 3 + gat B (i + 1) j) → 0 ≤ gat nn2 (i + 1) j ∧ gat nn2 (i + 1) j ≤ 1000000 := fun _ q => ng2 (by have k := far_rng (bw (unl S 0) (S 3) (S 2) (S 0) (S 1) (i + 1) j); omega)
              have rg3 : ∀ _ : Unit, (gat B i (j + 1) < 1000000000 ∧ gat B i j = unl S 0 i j + S 3 + gat B i (j + 1)) → 0 ≤ gat nn2 i (j + 1) ∧ gat nn2 i (j + 1) ≤ 1000000 := fun _ q => ng3 (by have k := far_rng (bw (unl S 0) (S 3) (S 2) (S 0) (S 1) i (j + 1)); omega)
              clear u0 u1 u2 u3 o1 o2 o3 ng1 ng2 ng3
              refine E_run hk 5 (j' := 21) (lv' := [(4, yi 0), (0, .ref 43), (1, .ref 29), (2, yi i), (3, yi j)]) (st' := [yi j, yi i, .ref 29]) (hp' := hl14) rfl ?_
              refine Y_callP hk rfl (as := [.ref 29, yi i, yi j]) (rest := []) (v := some (yi (b2 (i = S 0 - 1 ∧ j = S 1 - 1)))) rfl rfl (Nat.le_of_ble_eq_true rfl) (rcv0 (fr14.at (by decide) (fr6.at (by decide) hs_))) (Nat.le_of_ble_eq_true rfl) (c_X5_isLastPair ⟨hid, (fr14.at (by decide) (fr6.at (by decide) hs_)), (fr14.at (by simp only [List.mem_cons, List.not_mem_nil, or_false, not_or]; exact ⟨(Ne.symm (sok hid (by unfold apart; decide)).2.1), (Ne.symm (sok hid (by unfold apart; decide)).2.1)⟩) (fr6.at (by simp only [List.mem_cons, List.not_mem_nil, or_false, not_or]; exact ⟨(Ne.symm (sok hid (by unfold apart; decide)).2.1), (Ne.symm (sok hid (by unfold apart; decide)).2.1)⟩) hz_)), (fr14.at (by simp only [List.mem_cons, List.not_mem_nil, or_false, not_or]; exact ⟨(Ne.symm (sok hid (by unfold apart; decide)).2.2.2.1), (Ne.symm (sok hid (by unfold apart; decide)).2.2.2.1)⟩) (fr6.at (by simp only [List.mem_cons, List.not_mem_nil, or_false, not_or]; exact ⟨(Ne.symm (sok hid (by unfold apart; decide)).2.2.2.1), (Ne.symm (sok hid (by unfold apart; decide)).2.2.2.1)⟩) ho_)), (fr14.at (by simp only [List.mem_cons, List.not_mem_nil, or_false, not_or]; exact ⟨(Ne.symm (sok hid (by unfold apart; decide)).2.2.1), (Ne.symm (sok hid (by unfold apart; decide)).2.2.1)⟩) (fr6.at (by simp only [List.mem_cons, List.not_mem_nil, or_false, not_or]; exact ⟨(Ne.symm (sok hid (by unfold apart; decide)).2.2.1), (Ne.symm (sok hid (by unfold apart; decide)).2.2.1)⟩) hf_)), (fr14.at (by simp only [List.mem_cons, List.not_mem_nil, or_false, not_or]; exact ⟨(Ne.symm (sok hid (by unfold apart; decide)).2.2.2.2), (Ne.symm (sok hid (by unfold apart; decide)).2.2.2.2)⟩) (fr6.at (by simp only [List.mem_cons, List.not_mem_nil, or_false, not_or]; exact ⟨(Ne.symm (sok hid (by unfold apart; decide)).2.2.2.2), (Ne.symm (sok hid (by unfold apart; decide)).2.2.2.2)⟩) hg_)), ef, eg⟩ (i := i) (j := j) (by omega) (by omega)) ?_
              refine Y_b_eq hk rfl (fun g3 => ?_) (fun g3 => ?_)
              ·
                refine E_run hk 6 (j' := 31) (lv' := [(6, yi 3), (5, yi 0), (4, yi 0), (0, .ref 43), (1, .ref 29), (2, yi i), (3, yi j)]) (st' := [yi 1, yi 3]) (hp' := hl14) rfl ?_
                refine Y_ic_lt (a := 3) (b := 1) (by omega) hk rfl (fun g4 => ?_) (fun g4 => ?_)
                · exfalso; omega
                ·
                  refine E_run hk 5 (j' := 37) (lv' := [(6, yi 3), (5, yi 0), (4, yi 0), (0, .ref 43), (1, .ref 29), (2, yi i), (3, yi j)]) (st' := [yi 3, yi j, yi i, .ref 29, .ref 43]) (hp' := hl14) rfl ?_
                  refine Y_callP hk rfl (as := [.ref 43, .ref 29, yi i, yi j, yi 3]) (rest := []) (v := some (yi (b2 (gat B i (j + 1) < 1000000000 ∧ gat B i j = unl S 0 i j + S 3 + gat B i (j + 1))))) rfl rfl (Nat.le_of_ble_eq_true rfl) (rcv0 (fr14.at (by decide) (fr6.at (by decide) h43))) (Nat.le_of_ble_eq_true rfl) (c_X2_isBestStep3 (i := i) (j := j) (B := B) (fr14.at (by decide) (fr6.at (by decide) h43)) (fr14.at (by decide) (fr6.at (by decide) h44)) (fr14.at (by decide) (fr6.at (by decide) h46)) (fr14.at (by decide) (fr6.at (by decide) h48)) (fr14.at (by decide) (fr6.at (by decide) h50)) (fr14.at (by decide) (fr6.at (by decide) h47)) ⟨hid, (fr14.at (by decide) (fr6.at (by decide) hs_)), (fr14.at (by simp only [List.mem_cons, List.not_mem_nil, or_false, not_or]; exact ⟨(Ne.symm (sok hid (by unfold apart; decide)).2.1), (Ne.symm (sok hid (by unfold apart; decide)).2.1)⟩) (fr6.at (by simp only [List.mem_cons, List.not_mem_nil, or_false, not_or]; exact ⟨(Ne.symm (sok hid (by unfold apart; decide)).2.1), (Ne.symm (sok hid (by unfold apart; decide)).2.1)⟩) hz_)), (fr14.at (by simp only [List.mem_cons, List.not_mem_nil, or_false, not_or]; exact ⟨(Ne.symm (sok hid (by unfold apart; decide)).2.2.2.1), (Ne.symm (sok hid (by unfold apart; decide)).2.2.2.1)⟩) (fr6.at (by simp only [List.mem_cons, List.not_mem_nil, or_false, not_or]; exact ⟨(Ne.symm (sok hid (by unfold apart; decide)).2.2.2.1), (Ne.symm (sok hid (by unfold apart; decide)).2.2.2.1)⟩) ho_)), (fr14.at (by simp only [List.mem_cons, List.not_mem_nil, or_false, not_or]; exact ⟨(Ne.symm (sok hid (by unfold apart; decide)).2.2.1), (Ne.symm (sok hid (by unfold apart; decide)).2.2.1)⟩) (fr6.at (by simp only [List.mem_cons, List.not_mem_nil, or_false, not_or]; exact ⟨(Ne.symm (sok hid (by unfold apart; decide)).2.2.1), (Ne.symm (sok hid (by unfold apart; decide)).2.2.1)⟩) hf_)), (fr14.at (by simp only [List.mem_cons, List.not_mem_nil, or_false, not_or]; exact ⟨(Ne.symm (sok hid (by unfold apart; decide)).2.2.2.2), (Ne.symm (sok hid (by unfold apart; decide)).2.2.2.2)⟩) (fr6.at (by simp only [List.mem_cons, List.not_mem_nil, or_false, not_or]; exact ⟨(Ne.symm (sok hid (by unfold apart; decide)).2.2.2.2), (Ne.symm (sok hid (by unfold apart; decide)).2.2.2.2)⟩) hg_)), ef, eg⟩ hz h0 h1 (by omega) (by omega) (hd := by omega)) ?_
                  refine Y_b_eq hk rfl (fun g5 => ?_) (fun g5 => ?_)
                  ·
                    refine Y_iinc (a := 3) (z := (-1)) hk rfl rfl rfl (by decide) (lv' := [(6, yi 2), (5, yi 0), (4, yi 0), (0, .ref 43), (1, .ref 29), (2, yi i), (3, yi j)]) rfl ?_
                    refine E_run hk 3 (j' := 31) (lv' := [(6, yi 2), (5, yi 0), (4, yi 0), (0, .ref 43), (1, .ref 29), (2, yi i), (3, yi j)]) (st' := [yi 1, yi 2]) (hp' := hl14) rfl ?_
                    refine Y_ic_lt (a := 2) (b := 1) (by omega) hk rfl (fun g6 => ?_) (fun g6 => ?_)
                    · exfalso; omega
                    ·
                      refine E_run hk 5 (j' := 37) (lv' := [(6, yi 2), (5, yi 0), (4, yi 0), (0, .ref 43), (1, .ref 29), (2, yi i), (3, yi j)]) (st' := [yi 2, yi j, yi i, .ref 29, .ref 43]) (hp' := hl14) rfl ?_
                      refine Y_callP hk rfl (as := [.ref 43, .ref 29, yi i, yi j, yi 2]) (rest := []) (v := some (yi (b2 (gat B (i + 1) j < 1000000000 ∧ gat B i j = unl S 0 i j + S 3 + gat B (i + 1) j)))) rfl rfl (Nat.le_of_ble_eq_true rfl) (rcv0 (fr14.at (by decide) (fr6.at (by decide) h43))) (Nat.le_of_ble_eq_true rfl) (c_X2_isBestStep2 (i := i) (j := j) (B := B) (fr14.at (by decide) (fr6.at (by decide) h43)) (fr14.at (by decide) (fr6.at (by decide) h44)) (fr14.at (by decide) (fr6.at (by decide) h46)) (fr14.at (by decide) (fr6.at (by decide) h48)) (fr14.at (by decide) (fr6.at (by decide) h50)) (fr14.at (by decide) (fr6.at (by decide) h47)) ⟨hid, (fr14.at (by decide) (fr6.at (by decide) hs_)), (fr14.at (by simp only [List.mem_cons, List.not_mem_nil, or_false, not_or]; exact ⟨(Ne.symm (sok hid (by unfold apart; decide)).2.1), (Ne.symm (sok hid (by unfold apart; decide)).2.1)⟩) (fr6.at (by simp only [List.mem_cons, List.not_mem_nil, or_false, not_or]; exact ⟨(Ne.symm (sok hid (by unfold apart; decide)).2.1), (Ne.symm (sok hid (by unfold apart; decide)).2.1)⟩) hz_)), (fr14.at (by simp only [List.mem_cons, List.not_mem_nil, or_false, not_or]; exact ⟨(Ne.symm (sok hid (by unfold apart; decide)).2.2.2.1), (Ne.symm (sok hid (by unfold apart; decide)).2.2.2.1)⟩) (fr6.at (by simp only [List.mem_cons, List.not_mem_nil, or_false, not_or]; exact ⟨(Ne.symm (sok hid (by unfold apart; decide)).2.2.2.1), (Ne.symm (sok hid (by unfold apart; decide)).2.2.2.1)⟩) ho_)), (fr14.at (by simp only [List.mem_cons, List.not_mem_nil, or_false, not_or]; exact ⟨(Ne.symm (sok hid (by unfold apart; decide)).2.2.1), (Ne.symm (sok hid (by unfold apart; decide)).2.2.1)⟩) (fr6.at (by simp only [List.mem_cons, List.not_mem_nil, or_false, not_or]; exact ⟨(Ne.symm (sok hid (by unfold apart; decide)).2.2.1), (Ne.symm (sok hid (by unfold apart; decide)).2.2.1)⟩) hf_)), (fr14.at (by simp only [List.mem_cons, List.not_mem_nil, or_false, not_or]; exact ⟨(Ne.symm (sok hid (by unfold apart; decide)).2.2.2.2), (Ne.symm (sok hid (by unfold apart; decide)).2.2.2.2)⟩) (fr6.at (by simp only [List.mem_cons, List.not_mem_nil, or_false, not_or]; exact ⟨(Ne.symm (sok hid (by unfold apart; decide)).2.2.2.2), (Ne.symm (sok hid (by unfold apart; decide)).2.2.2.2)⟩) hg_)), ef, eg⟩ hz h0 h1 (by omega) (by omega) (hd := by omega)) ?_
                      refine Y_b_eq hk rfl (fun g7 => ?_) (fun g7 => ?_)
                      ·
                        refine Y_iinc (a := 2) (z := (-1)) hk rfl rfl rfl (by decide) (lv' := [(6, yi 1), (5, yi 0), (4, yi 0), (0, .ref 43), (1, .ref 29), (2, yi i), (3, yi j)]) rfl ?_
                        refine E_run hk 3 (j' := 31) (lv' := [(6, yi 1), (5, yi 0), (4, yi 0), (0, .ref 43), (1, .ref 29), (2, yi i), (3, yi j)]) (st' := [yi 1, yi 1]) (hp' := hl14) rfl ?_
                        refine Y_ic_lt (a := 1) (b := 1) (by omega) hk rfl (fun g8 => ?_) (fun g8 => ?_)
                        · exfalso; omega
                        ·
                          refine E_run hk 5 (j' := 37) (lv' := [(6, yi 1), (5, yi 0), (4, yi 0), (0, .ref 43), (1, .ref 29), (2, yi i), (3, yi j)]) (st' := [yi 1, yi j, yi i, .ref 29, .ref 43]) (hp' := hl14) rfl ?_
                          refine Y_callP hk rfl (as := [.ref 43, .ref 29, yi i, yi j, yi 1]) (rest := []) (v := some (yi (b2 (gat B (i + 1) (j + 1) < 1000000000 ∧ gat B i j = unl S 0 i j + 0 + gat B (i + 1) (j + 1))))) rfl rfl (Nat.le_of_ble_eq_true rfl) (rcv0 (fr14.at (by decide) (fr6.at (by decide) h43))) (Nat.le_of_ble_eq_true rfl) (c_X2_isBestStep1 (i := i) (j := j) (B := B) (fr14.at (by decide) (fr6.at (by decide) h43)) (fr14.at (by decide) (fr6.at (by decide) h44)) (fr14.at (by decide) (fr6.at (by decide) h46)) (fr14.at (by decide) (fr6.at (by decide) h48)) (fr14.at (by decide) (fr6.at (by decide) h50)) (fr14.at (by decide) (fr6.at (by decide) h47)) ⟨hid, (fr14.at (by decide) (fr6.at (by decide) hs_)), (fr14.at (by simp only [List.mem_cons, List.not_mem_nil, or_false, not_or]; exact ⟨(Ne.symm (sok hid (by unfold apart; decide)).2.1), (Ne.symm (sok hid (by unfold apart; decide)).2.1)⟩) (fr6.at (by simp only [List.mem_cons, List.not_mem_nil, or_false, not_or]; exact ⟨(Ne.symm (sok hid (by unfold apart; decide)).2.1), (Ne.symm (sok hid (by unfold apart; decide)).2.1)⟩) hz_)), (fr14.at (by simp only [List.mem_cons, List.not_mem_nil, or_false, not_or]; exact ⟨(Ne.symm (sok hid (by unfold apart; decide)).2.2.2.1), (Ne.symm (sok hid (by unfold apart; decide)).2.2.2.1)⟩) (fr6.at (by simp only [List.mem_cons, List.not_mem_nil, or_false, not_or]; exact ⟨(Ne.symm (sok hid (by unfold apart; decide)).2.2.2.1), (Ne.symm (sok hid (by unfold apart; decide)).2.2.2.1)⟩) ho_)), (fr14.at (by simp only [List.mem_cons, List.not_mem_nil, or_false, not_or]; exact ⟨(Ne.symm (sok hid (by unfold apart; decide)).2.2.1), (Ne.symm (sok hid (by unfold apart; decide)).2.2.1)⟩) (fr6.at (by simp only [List.mem_cons, List.not_mem_nil, or_false, not_or]; exact ⟨(Ne.symm (sok hid (by unfold apart; decide)).2.2.1), (Ne.symm (sok hid (by unfold apart; decide)).2.2.1)⟩) hf_)), (fr14.at (by simp only [List.mem_cons, List.not_mem_nil, or_false, not_or]; exact ⟨(Ne.symm (sok hid (by unfold apart; decide)).2.2.2.2), (Ne.symm (sok hid (by unfold apart; decide)).2.2.2.2)⟩) (fr6.at (by simp only [List.mem_cons, List.not_mem_nil, or_false, not_or]; exact ⟨(Ne.symm (sok hid (by unfold apart; decide)).2.2.2.2), (Ne.symm (sok hid (by unfold apart; decide)).2.2.2.2)⟩) hg_)), ef, eg⟩ hz h0 h1 (by omega) (by omega) (hd := by omega)) ?_
                          refine Y_b_eq hk rfl (fun g9 => ?_) (fun g9 => ?_)
                          ·
                            refine Y_iinc (a := 1) (z := (-1)) hk rfl rfl rfl (by decide) (lv' := [(6, yi 0), (5, yi 0), (4, yi 0), (0, .ref 43), (1, .ref 29), (2, yi i), (3, yi j)]) rfl ?_
                            refine E_run hk 3 (j' := 31) (lv' := [(6, yi 0), (5, yi 0), (4, yi 0), (0, .ref 43), (1, .ref 29), (2, yi i), (3, yi j)]) (st' := [yi 1, yi 0]) (hp' := hl14) rfl ?_
                            refine Y_ic_lt (a := 0) (b := 1) (by omega) hk rfl (fun g10 => ?_) (fun g10 => ?_)
                            ·
                              refine E_run hk 1 (j' := 56) (lv' := [(6, yi 0), (5, yi 0), (4, yi 0), (0, .ref 43), (1, .ref 29), (2, yi i), (3, yi j)]) (st' := [.ref 43]) (hp' := hl14) rfl ?_
                              refine E_get (v := .ref 48) hk rfl (fr14.at (by decide) (fr6.at (by decide) h43)) rfl ?_
                              refine E_run hk 3 (j' := 60) (lv' := [(6, yi 0), (5, yi 0), (4, yi 0), (0, .ref 43), (1, .ref 29), (2, yi i), (3, yi j)]) (st' := [yi 0, yi j, yi i, .ref 48]) (hp' := hl14) rfl ?_
                              refine Y_call hk rfl (as := [.ref 48, yi i, yi j, yi 0]) (rest := []) (v := none) rfl rfl (Nat.le_of_ble_eq_true rfl) (rcv0 (fr14.at (by decide) (fr6.at (by decide) h48))) (Nat.le_of_ble_eq_true rfl) (c_X0_put (i := i) (j := j) (x := 0) (a := 48) (p := 49) (k := cc2) ⟨by decide, by decide, by decide⟩ (fr14.at (by decide) (fr6.at (by decide) h48)) ec14_49 (by omega)) (fun H11 r12 => ?_)
                              obtain ⟨e_H11, f_H11⟩ := r12
                              refine E_run hk 1 (j' := 62) (lv' := [(6, yi 0), (5, yi 0), (4, yi 0), (0, .ref 43), (1, .ref 29), (2, yi i), (3, yi j)]) (st' := [.ref 43]) (hp' := H11) rfl ?_
                              refine E_get (v := .ref 50) hk rfl (f_H11.at (by decide) (fr14.at (by decide) (fr6.at (by decide) h43))) rfl ?_
                              refine E_run hk 4 (j' := 67) (lv' := [(6, yi 0), (5, yi 0), (4, yi 0), (0, .ref 43), (1, .ref 29), (2, yi i), (3, yi j)]) (st' := [yi 0, yi 1000000, yi j, yi i, .ref 50]) (hp' := H11) rfl ?_
                              refine Y_min (a := 1000000) (b := 0) (by omega) hk rfl (Nat.le_of_ble_eq_true rfl) ?_
                              refine Y_call hk rfl (as := [.ref 50, yi i, yi j, yi (mn 1000000 0)]) (rest := []) (v := none) rfl rfl (Nat.le_of_ble_eq_true rfl) (rcv0 (f_H11.at (by decide) (fr14.at (by decide) (fr6.at (by decide) h50)))) (Nat.le_of_ble_eq_true rfl) (c_X0_put (i := i) (j := j) (x := (mn 1000000 0)) (a := 50) (p := 51) (k := nn2) ⟨by decide, by decide, by decide⟩ (f_H11.at (by decide) (fr14.at (by decide) (fr6.at (by decide) h50))) (f_H11.at (by decide) ec14_51) (by omega)) (fun H13 r14 => ?_)
                              obtain ⟨e_H13, f_H13⟩ := r14
                              refine Y_iinc (a := j) (z := (-1)) hk rfl rfl rfl (by decide) (lv' := [(3, yi (j + (-1))), (6, yi 0), (5, yi 0), (4, yi 0), (0, .ref 43), (1, .ref 29), (2, yi i)]) rfl ?_
                              refine E_run hk 1 (j' := 14) (lv' := [(3, yi (j + (-1))), (6, yi 0), (5, yi 0), (4, yi 0), (0, .ref 43), (1, .ref 29), (2, yi i)]) (st' := []) (hp' := H13) rfl ?_
                              exact Ev_le (xle_s rfl rfl (xle_s rfl rfl (xle_s rfl rfl (xle_s rfl rfl (xle_z _ rfl))))) (ih14 _ (by omega) (j + (-1)) (up cc2 (20 * i + j) 0) (up nn2 (20 * i + j) (mn 1000000 0)) H13 (by omega) (fun x y x1 x2 y1 y2 q => by
        rw [up_ne _ _ (by omega), up_ne _ _ (by omega)]
        exact K2 x y x1 x2 y1 y2 q) (fun y y1 y2 q => by
        by_cases e : y = j
        · rw [e, up_self, up_self]
          rw [e] at q
          obtain ⟨e1, e2⟩ := fin () q
          rw [e1, e2]
          constructor
          · repeat (first | rw [if_pos (by assumption)] | rw [if_neg (by assumption)])
          · repeat (first | rw [if_pos (by assumption)] | rw [if_neg (by assumption)])
            try simp only [Int.add_zero]
        · rw [up_ne _ _ (by omega), up_ne _ _ (by omega)]
          exact K3 y (by omega) y2 q) (f_H13.at (by decide) e_H11) e_H13 (yfr.tr (yfr.tr fr14 f_H11 (fun _ h => h) (by decide)) f_H13 (fun _ h => h) (by decide)) rfl)
                            · exfalso; omega
                          ·
                            have rq1 := rg1 () (by assumption)
                            refine E_run hk 4 (j' := 43) (lv' := [(4, yi 1), (6, yi 1), (5, yi 0), (0, .ref 43), (1, .ref 29), (2, yi i), (3, yi j)]) (st' := [.ref 43, yi 0]) (hp' := hl14) rfl ?_
                            refine E_get (v := .ref 50) hk rfl (fr14.at (by decide) (fr6.at (by decide) h43)) rfl ?_
                            refine E_run hk 2 (j' := 46) (lv' := [(4, yi 1), (6, yi 1), (5, yi 0), (0, .ref 43), (1, .ref 29), (2, yi i), (3, yi j)]) (st' := [yi 1, yi i, .ref 50, yi 0]) (hp' := hl14) rfl ?_
                            refine Y_callP hk rfl (as := [yi i, yi 1]) (rest := [.ref 50, yi 0]) (v := some (yi (i + 1))) rfl rfl (Nat.le_of_ble_eq_true rfl) rfl (Nat.le_of_ble_eq_true rfl) (c_X2_firstAfter1 (i := i)) ?_
                            refine E_run hk 2 (j' := 49) (lv' := [(4, yi 1), (6, yi 1), (5, yi 0), (0, .ref 43), (1, .ref 29), (2, yi i), (3, yi j)]) (st' := [yi 1, yi j, yi (i + 1), .ref 50, yi 0]) (hp' := hl14) rfl ?_
                            refine Y_callP hk rfl (as := [yi j, yi 1]) (rest := [yi (i + 1), .ref 50, yi 0]) (v := some (yi (j + 1))) rfl rfl (Nat.le_of_ble_eq_true rfl) rfl (Nat.le_of_ble_eq_true rfl) (c_X2_secondAfter1 (i := j)) ?_
                            refine Y_callP hk rfl (as := [.ref 50, yi (i + 1), yi (j + 1)]) (rest := [yi 0]) (v := some (yi (gat nn2 (i + 1) (j + 1)))) rfl rfl (Nat.le_of_ble_eq_true rfl) (rcv0 (fr14.at (by decide) (fr6.at (by decide) h50))) (Nat.le_of_ble_eq_true rfl) (c_X0_at (i := (i + 1)) (j := (j + 1)) (a := 50) (p := 51) (k := nn2) ⟨by decide, by decide, by decide⟩ (fr14.at (by decide) (fr6.at (by decide) h50)) ec14_51 (by omega)) ?_
                            refine Y_iadd (a := 0) (b := (gat nn2 (i + 1) (j + 1))) hk rfl ?_
                            refine E_run hk 1 (j' := 53) (lv' := [(5, yi (0 + (gat nn2 (i + 1) (j + 1)))), (4, yi 1), (6, yi 1), (0, .ref 43), (1, .ref 29), (2, yi i), (3, yi j)]) (st' := []) (hp' := hl14) rfl ?_
                            refine Y_iinc (a := 1) (z := (-1)) hk rfl rfl rfl (by decide) (lv' := [(6, yi 0), (5, yi (0 + (gat nn2 (i + 1) (j + 1)))), (4, yi 1), (0, .ref 43), (1, .ref 29), (2, yi i), (3, yi j)]) rfl ?_
                            refine E_run hk 3 (j' := 31) (lv' := [(6, yi 0), (5, yi (0 + (gat nn2 (i + 1) (j + 1)))), (4, yi 1), (0, .ref 43), (1, .ref 29), (2, yi i), (3, yi j)]) (st' := [yi 1, yi 0]) (hp' := hl14) rfl ?_
                            refine Y_ic_lt (a := 0) (b := 1) (by omega) hk rfl (fun g15 => ?_) (fun g15 => ?_)
                            ·
                              refine E_run hk 1 (j' := 56) (lv' := [(6, yi 0), (5, yi (0 + (gat nn2 (i + 1) (j + 1)))), (4, yi 1), (0, .ref 43), (1, .ref 29), (2, yi i), (3, yi j)]) (st' := [.ref 43]) (hp' := hl14) rfl ?_
                              refine E_get (v := .ref 48) hk rfl (fr14.at (by decide) (fr6.at (by decide) h43)) rfl ?_
                              refine E_run hk 3 (j' := 60) (lv' := [(6, yi 0), (5, yi (0 + (gat nn2 (i + 1) (j + 1)))), (4, yi 1), (0, .ref 43), (1, .ref 29), (2, yi i), (3, yi j)]) (st' := [yi 1, yi j, yi i, .ref 48]) (hp' := hl14) rfl ?_
                              refine Y_call hk rfl (as := [.ref 48, yi i, yi j, yi 1]) (rest := []) (v := none) rfl rfl (Nat.le_of_ble_eq_true rfl) (rcv0 (fr14.at (by decide) (fr6.at (by decide) h48))) (Nat.le_of_ble_eq_true rfl) (c_X0_put (i := i) (j := j) (x := 1) (a := 48) (p := 49) (k := cc2) ⟨by decide, by decide, by decide⟩ (fr14.at (by decide) (fr6.at (by decide) h48)) ec14_49 (by omega)) (fun H16 r17 => ?_)
                              obtain ⟨e_H16, f_H16⟩ := r17
                              refine E_run hk 1 (j' := 62) (lv' := [(6, yi 0), (5, yi (0 + (gat nn2 (i + 1) (j + 1)))), (4, yi 1), (0, .ref 43), (1, .ref 29), (2, yi i), (3, yi j)]) (st' := [.ref 43]) (hp' := H16) rfl ?_
                              refine E_get (v := .ref 50) hk rfl (f_H16.at (by decide) (fr14.at (by decide) (fr6.at (by decide) h43))) rfl ?_
                              refine E_run hk 4 (j' := 67) (lv' := [(6, yi 0), (5, yi (0 + (gat nn2 (i + 1) (j + 1)))), (4, yi 1), (0, .ref 43), (1, .ref 29), (2, yi i), (3, yi j)]) (st' := [yi (0 + (gat nn2 (i + 1) (j + 1))), yi 1000000, yi j, yi i, .ref 50]) (hp' := H16) rfl ?_
                              refine Y_min (a := 1000000) (b := (0 + (gat nn2 (i + 1) (j + 1)))) (by omega) hk rfl (Nat.le_of_ble_eq_true rfl) ?_
                              refine Y_call hk rfl (as := [.ref 50, yi i, yi j, yi (mn 1000000 (0 + (gat nn2 (i + 1) (j + 1))))]) (rest := []) (v := none) rfl rfl (Nat.le_of_ble_eq_true rfl) (rcv0 (f_H16.at (by decide) (fr14.at (by decide) (fr6.at (by decide) h50)))) (Nat.le_of_ble_eq_true rfl) (c_X0_put (i := i) (j := j) (x := (mn 1000000 (0 + (gat nn2 (i + 1) (j + 1))))) (a := 50) (p := 51) (k := nn2) ⟨by decide, by decide, by decide⟩ (f_H16.at (by decide) (fr14.at (by decide) (fr6.at (by decide) h50))) (f_H16.at (by decide) ec14_51) (by omega)) (fun H18 r19 => ?_)
                              obtain ⟨e_H18, f_H18⟩ := r19
                              refine Y_iinc (a := j) (z := (-1)) hk rfl rfl rfl (by decide) (lv' := [(3, yi (j + (-1))), (6, yi 0), (5, yi (0 + (gat nn2 (i + 1) (j + 1)))), (4, yi 1), (0, .ref 43), (1, .ref 29), (2, yi i)]) rfl ?_
                              refine E_run hk 1 (j' := 14) (lv' := [(3, yi (j + (-1))), (6, yi 0), (5, yi (0 + (gat nn2 (i + 1) (j + 1)))), (4, yi 1), (0, .ref 43), (1, .ref 29), (2, yi i)]) (st' := []) (hp' := H18) rfl ?_
                              exact Ev_le (xle_s rfl rfl (xle_s rfl rfl (xle_s rfl rfl (xle_s rfl rfl (xle_z _ rfl))))) (ih14 _ (by omega) (j + (-1)) (up cc2 (20 * i + j) 1) (up nn2 (20 * i + j) (mn 1000000 (0 + (gat nn2 (i + 1) (j + 1))))) H18 (by omega) (fun x y x1 x2 y1 y2 q => by
        rw [up_ne _ _ (by omega), up_ne _ _ (by omega)]
        exact K2 x y x1 x2 y1 y2 q) (fun y y1 y2 q => by
        by_cases e : y = j
        · rw [e, up_self, up_self]
          rw [e] at q
          obtain ⟨e1, e2⟩ := fin () q
          rw [e1, e2]
          constructor
          · repeat (first | rw [if_pos (by assumption)] | rw [if_neg (by assumption)])
          · repeat (first | rw [if_pos (by assumption)] | rw [if_neg (by assumption)])
            try simp only [Int.add_zero]
        · rw [up_ne _ _ (by omega), up_ne _ _ (by omega)]
          exact K3 y (by omega) y2 q) (f_H18.at (by decide) e_H16) e_H18 (yfr.tr (yfr.tr fr14 f_H16 (fun _ h => h) (by decide)) f_H18 (fun _ h => h) (by decide)) rfl)
                            · exfalso; omega
                      ·
                        have rq2 := rg2 () (by assumption)
                        refine E_run hk 4 (j' := 43) (lv' := [(4, yi 2), (6, yi 2), (5, yi 0), (0, .ref 43), (1, .ref 29), (2, yi i), (3, yi j)]) (st' := [.ref 43, yi 0]) (hp' := hl14) rfl ?_
                        refine E_get (v := .ref 50) hk rfl (fr14.at (by decide) (fr6.at (by decide) h43)) rfl ?_
                        refine E_run hk 2 (j' := 46) (lv' := [(4, yi 2), (6, yi 2), (5, yi 0), (0, .ref 43), (1, .ref 29), (2, yi i), (3, yi j)]) (st' := [yi 2, yi i, .ref 50, yi 0]) (hp' := hl14) rfl ?_
                        refine Y_callP hk rfl (as := [yi i, yi 2]) (rest := [.ref 50, yi 0]) (v := some (yi (i + 1))) rfl rfl (Nat.le_of_ble_eq_true rfl) rfl (Nat.le_of_ble_eq_true rfl) (c_X2_firstAfter2 (i := i)) ?_
                        refine E_run hk 2 (j' := 49) (lv' := [(4, yi 2), (6, yi 2), (5, yi 0), (0, .ref 43), (1, .ref 29), (2, yi i), (3, yi j)]) (st' := [yi 2, yi j, yi (i + 1), .ref 50, yi 0]) (hp' := hl14) rfl ?_
                        refine Y_callP hk rfl (as := [yi j, yi 2]) (rest := [yi (i + 1), .ref 50, yi 0]) (v := some (yi j)) rfl rfl (Nat.le_of_ble_eq_true rfl) rfl (Nat.le_of_ble_eq_true rfl) (c_X2_secondAfter2 (i := j)) ?_
                        refine Y_callP hk rfl (as := [.ref 50, yi (i + 1), yi j]) (rest := [yi 0]) (v := some (yi (gat nn2 (i + 1) j))) rfl rfl (Nat.le_of_ble_eq_true rfl) (rcv0 (fr14.at (by decide) (fr6.at (by decide) h50))) (Nat.le_of_ble_eq_true rfl) (c_X0_at (i := (i + 1)) (j := j) (a := 50) (p := 51) (k := nn2) ⟨by decide, by decide, by decide⟩ (fr14.at (by decide) (fr6.at (by decide) h50)) ec14_51 (by omega)) ?_
                        refine Y_iadd (a := 0) (b := (gat nn2 (i + 1) j)) hk rfl ?_
                        refine E_run hk 1 (j' := 53) (lv' := [(5, yi (0 + (gat nn2 (i + 1) j))), (4, yi 2), (6, yi 2), (0, .ref 43), (1, .ref 29), (2, yi i), (3, yi j)]) (st' := []) (hp' := hl14) rfl ?_
                        refine Y_iinc (a := 2) (z := (-1)) hk rfl rfl rfl (by decide) (lv' := [(6, yi 1), (5, yi (0 + (gat nn2 (i + 1) j))), (4, yi 2), (0, .ref 43), (1, .ref 29), (2, yi i), (3, yi j)]) rfl ?_
                        refine E_run hk 3 (j' := 31) (lv' := [(6, yi 1), (5, yi (0 + (gat nn2 (i + 1) j))), (4, yi 2), (0, .ref 43), (1, .ref 29), (2, yi i), (3, yi j)]) (st' := [yi 1, yi 1]) (hp' := hl14) rfl ?_
                        refine Y_ic_lt (a := 1) (b := 1) (by omega) hk rfl (fun g20 => ?_) (fun g20 => ?_)
                        · exfalso; omega
                        ·
                          refine E_run hk 5 (j' := 37) (lv' := [(6, yi 1), (5, yi (0 + (gat nn2 (i + 1) j))), (4, yi 2), (0, .ref 43), (1, .ref 29), (2, yi i), (3, yi j)]) (st' := [yi 1, yi j, yi i, .ref 29, .ref 43]) (hp' := hl14) rfl ?_
                          refine Y_callP hk rfl (as := [.ref 43, .ref 29, yi i, yi j, yi 1]) (rest := []) (v := some (yi (b2 (gat B (i + 1) (j + 1) < 1000000000 ∧ gat B i j = unl S 0 i j + 0 + gat B (i + 1) (j + 1))))) rfl rfl (Nat.le_of_ble_eq_true rfl) (rcv0 (fr14.at (by decide) (fr6.at (by decide) h43))) (Nat.le_of_ble_eq_true rfl) (c_X2_isBestStep1 (i := i) (j := j) (B := B) (fr14.at (by decide) (fr6.at (by decide) h43)) (fr14.at (by decide) (fr6.at (by decide) h44)) (fr14.at (by decide) (fr6.at (by decide) h46)) (fr14.at (by decide) (fr6.at (by decide) h48)) (fr14.at (by decide) (fr6.at (by decide) h50)) (fr14.at (by decide) (fr6.at (by decide) h47)) ⟨hid, (fr14.at (by decide) (fr6.at (by decide) hs_)), (fr14.at (by simp only [List.mem_cons, List.not_mem_nil, or_false, not_or]; exact ⟨(Ne.symm (sok hid (by unfold apart; decide)).2.1), (Ne.symm (sok hid (by unfold apart; decide)).2.1)⟩) (fr6.at (by simp only [List.mem_cons, List.not_mem_nil, or_false, not_or]; exact ⟨(Ne.symm (sok hid (by unfold apart; decide)).2.1), (Ne.symm (sok hid (by unfold apart; decide)).2.1)⟩) hz_)), (fr14.at (by simp only [List.mem_cons, List.not_mem_nil, or_false, not_or]; exact ⟨(Ne.symm (sok hid (by unfold apart; decide)).2.2.2.1), (Ne.symm (sok hid (by unfold apart; decide)).2.2.2.1)⟩) (fr6.at (by simp only [List.mem_cons, List.not_mem_nil, or_false, not_or]; exact ⟨(Ne.symm (sok hid (by unfold apart; decide)).2.2.2.1), (Ne.symm (sok hid (by unfold apart; decide)).2.2.2.1)⟩) ho_)), (fr14.at (by simp only [List.mem_cons, List.not_mem_nil, or_false, not_or]; exact ⟨(Ne.symm (sok hid (by unfold apart; decide)).2.2.1), (Ne.symm (sok hid (by unfold apart; decide)).2.2.1)⟩) (fr6.at (by simp only [List.mem_cons, List.not_mem_nil, or_false, not_or]; exact ⟨(Ne.symm (sok hid (by unfold apart; decide)).2.2.1), (Ne.symm (sok hid (by unfold apart; decide)).2.2.1)⟩) hf_)), (fr14.at (by simp only [List.mem_cons, List.not_mem_nil, or_false, not_or]; exact ⟨(Ne.symm (sok hid (by unfold apart; decide)).2.2.2.2), (Ne.symm (sok hid (by unfold apart; decide)).2.2.2.2)⟩) (fr6.at (by simp only [List.mem_cons, List.not_mem_nil, or_false, not_or]; exact ⟨(Ne.symm (sok hid (by unfold apart; decide)).2.2.2.2), (Ne.symm (sok hid (by unfold apart; decide)).2.2.2.2)⟩) hg_)), ef, eg⟩ hz h0 h1 (by omega) (by omega) (hd := by omega)) ?_
                          refine Y_b_eq hk rfl (fun g21 => ?_) (fun g21 => ?_)
                          ·
                            refine Y_iinc (a := 1) (z := (-1)) hk rfl rfl rfl (by decide) (lv' := [(6, yi 0), (5, yi (0 + (gat nn2 (i + 1) j))), (4, yi 2), (0, .ref 43), (1, .ref 29), (2, yi i), (3, yi j)]) rfl ?_
                            refine E_run hk 3 (j' := 31) (lv' := [(6, yi 0), (5, yi (0 + (gat nn2 (i + 1) j))), (4, yi 2), (0, .ref 43), (1, .ref 29), (2, yi i), (3, yi j)]) (st' := [yi 1, yi 0]) (hp' := hl14) rfl ?_
                            refine Y_ic_lt (a := 0) (b := 1) (by omega) hk rfl (fun g22 => ?_) (fun g22 => ?_)
                            ·
                              refine E_run hk 1 (j' := 56) (lv' := [(6, yi 0), (5, yi (0 + (gat nn2 (i + 1) j))), (4, yi 2), (0, .ref 43), (1, .ref 29), (2, yi i), (3, yi j)]) (st' := [.ref 43]) (hp' := hl14) rfl ?_
                              refine E_get (v := .ref 48) hk rfl (fr14.at (by decide) (fr6.at (by decide) h43)) rfl ?_
                              refine E_run hk 3 (j' := 60) (lv' := [(6, yi 0), (5, yi (0 + (gat nn2 (i + 1) j))), (4, yi 2), (0, .ref 43), (1, .ref 29), (2, yi i), (3, yi j)]) (st' := [yi 2, yi j, yi i, .ref 48]) (hp' := hl14) rfl ?_
                              refine Y_call hk rfl (as := [.ref 48, yi i, yi j, yi 2]) (rest := []) (v := none) rfl rfl (Nat.le_of_ble_eq_true rfl) (rcv0 (fr14.at (by decide) (fr6.at (by decide) h48))) (Nat.le_of_ble_eq_true rfl) (c_X0_put (i := i) (j := j) (x := 2) (a := 48) (p := 49) (k := cc2) ⟨by decide, by decide, by decide⟩ (fr14.at (by decide) (fr6.at (by decide) h48)) ec14_49 (by omega)) (fun H23 r24 => ?_)
                              obtain ⟨e_H23, f_H23⟩ := r24
                              refine E_run hk 1 (j' := 62) (lv' := [(6, yi 0), (5, yi (0 + (gat nn2 (i + 1) j))), (4, yi 2), (0, .ref 43), (1, .ref 29), (2, yi i), (3, yi j)]) (st' := [.ref 43]) (hp' := H23) rfl ?_
                              refine E_get (v := .ref 50) hk rfl (f_H23.at (by decide) (fr14.at (by decide) (fr6.at (by decide) h43))) rfl ?_
                              refine E_run hk 4 (j' := 67) (lv' := [(6, yi 0), (5, yi (0 + (gat nn2 (i + 1) j))), (4, yi 2), (0, .ref 43), (1, .ref 29), (2, yi i), (3, yi j)]) (st' := [yi (0 + (gat nn2 (i + 1) j)), yi 1000000, yi j, yi i, .ref 50]) (hp' := H23) rfl ?_
                              refine Y_min (a := 1000000) (b := (0 + (gat nn2 (i + 1) j))) (by omega) hk rfl (Nat.le_of_ble_eq_true rfl) ?_
                              refine Y_call hk rfl (as := [.ref 50, yi i, yi j, yi (mn 1000000 (0 + (gat nn2 (i + 1) j)))]) (rest := []) (v := none) rfl rfl (Nat.le_of_ble_eq_true rfl) (rcv0 (f_H23.at (by decide) (fr14.at (by decide) (fr6.at (by decide) h50)))) (Nat.le_of_ble_eq_true rfl) (c_X0_put (i := i) (j := j) (x := (mn 1000000 (0 + (gat nn2 (i + 1) j)))) (a := 50) (p := 51) (k := nn2) ⟨by decide, by decide, by decide⟩ (f_H23.at (by decide) (fr14.at (by decide) (fr6.at (by decide) h50))) (f_H23.at (by decide) ec14_51) (by omega)) (fun H25 r26 => ?_)
                              obtain ⟨e_H25, f_H25⟩ := r26
                              refine Y_iinc (a := j) (z := (-1)) hk rfl rfl rfl (by decide) (lv' := [(3, yi (j + (-1))), (6, yi 0), (5, yi (0 + (gat nn2 (i + 1) j))), (4, yi 2), (0, .ref 43), (1, .ref 29), (2, yi i)]) rfl ?_
                              refine E_run hk 1 (j' := 14) (lv' := [(3, yi (j + (-1))), (6, yi 0), (5, yi (0 + (gat nn2 (i + 1) j))), (4, yi 2), (0, .ref 43), (1, .ref 29), (2, yi i)]) (st' := []) (hp' := H25) rfl ?_
                              exact Ev_le (xle_s rfl rfl (xle_s rfl rfl (xle_s rfl rfl (xle_s rfl rfl (xle_z _ rfl))))) (ih14 _ (by omega) (j + (-1)) (up cc2 (20 * i + j) 2) (up nn2 (20 * i + j) (mn 1000000 (0 + (gat nn2 (i + 1) j)))) H25 (by omega) (fun x y x1 x2 y1 y2 q => by
        rw [up_ne _ _ (by omega), up_ne _ _ (by omega)]
        exact K2 x y x1 x2 y1 y2 q) (fun y y1 y2 q => by
        by_cases e : y = j
        · rw [e, up_self, up_self]
          rw [e] at q
          obtain ⟨e1, e2⟩ := fin () q
          rw [e1, e2]
          constructor
          · repeat (first | rw [if_pos (by assumption)] | rw [if_neg (by assumption)])
          · repeat (first | rw [if_pos (by assumption)] | rw [if_neg (by assumption)])
            try simp only [Int.add_zero]
        · rw [up_ne _ _ (by omega), up_ne _ _ (by omega)]
          exact K3 y (by omega) y2 q) (f_H25.at (by decide) e_H23) e_H25 (yfr.tr (yfr.tr fr14 f_H23 (fun _ h => h) (by decide)) f_H25 (fun _ h => h) (by decide)) rfl)
                            · exfalso; omega
                          ·
                            have rq1 := rg1 () (by assumption)
                            refine E_run hk 4 (j' := 43) (lv' := [(4, yi 1), (6, yi 1), (5, yi (0 + (gat nn2 (i + 1) j))), (0, .ref 43), (1, .ref 29), (2, yi i), (3, yi j)]) (st' := [.ref 43, yi (0 + (gat nn2 (i + 1) j))]) (hp' := hl14) rfl ?_
                            refine E_get (v := .ref 50) hk rfl (fr14.at (by decide) (fr6.at (by decide) h43)) rfl ?_
                            refine E_run hk 2 (j' := 46) (lv' := [(4, yi 1), (6, yi 1), (5, yi (0 + (gat nn2 (i + 1) j))), (0, .ref 43), (1, .ref 29), (2, yi i), (3, yi j)]) (st' := [yi 1, yi i, .ref 50, yi (0 + (gat nn2 (i + 1) j))]) (hp' := hl14) rfl ?_
                            refine Y_callP hk rfl (as := [yi i, yi 1]) (rest := [.ref 50, yi (0 + (gat nn2 (i + 1) j))]) (v := some (yi (i + 1))) rfl rfl (Nat.le_of_ble_eq_true rfl) rfl (Nat.le_of_ble_eq_true rfl) (c_X2_firstAfter1 (i := i)) ?_
                            refine E_run hk 2 (j' := 49) (lv' := [(4, yi 1), (6, yi 1), (5, yi (0 + (gat nn2 (i + 1) j))), (0, .ref 43), (1, .ref 29), (2, yi i), (3, yi j)]) (st' := [yi 1, yi j, yi (i + 1), .ref 50, yi (0 + (gat nn2 (i + 1) j))]) (hp' := hl14) rfl ?_
                            refine Y_callP hk rfl (as := [yi j, yi 1]) (rest := [yi (i + 1), .ref 50, yi (0 + (gat nn2 (i + 1) j))]) (v := some (yi (j + 1))) rfl rfl (Nat.le_of_ble_eq_true rfl) rfl (Nat.le_of_ble_eq_true rfl) (c_X2_secondAfter1 (i := j)) ?_
                            refine Y_callP hk rfl (as := [.ref 50, yi (i + 1), yi (j + 1)]) (rest := [yi (0 + (gat nn2 (i + 1) j))]) (v := some (yi (gat nn2 (i + 1) (j + 1)))) rfl rfl (Nat.le_of_ble_eq_true rfl) (rcv0 (fr14.at (by decide) (fr6.at (by decide) h50))) (Nat.le_of_ble_eq_true rfl) (c_X0_at (i := (i + 1)) (j := (j + 1)) (a := 50) (p := 51) (k := nn2) ⟨by decide, by decide, by decide⟩ (fr14.at (by decide) (fr6.at (by decide) h50)) ec14_51 (by omega)) ?_
                            refine Y_iadd (a := (0 + (gat nn2 (i + 1) j))) (b := (gat nn2 (i + 1) (j + 1))) hk rfl ?_
                            refine E_run hk 1 (j' := 53) (lv' := [(5, yi ((0 + (gat nn2 (i + 1) j)) + (gat nn2 (i + 1) (j + 1)))), (4, yi 1), (6, yi 1), (0, .ref 43), (1, .ref 29), (2, yi i), (3, yi j)]) (st' := []) (hp' := hl14) rfl ?_
                            refine Y_iinc (a := 1) (z := (-1)) hk rfl rfl rfl (by decide) (lv' := [(6, yi 0), (5, yi ((0 + (gat nn2 (i + 1) j)) + (gat nn2 (i + 1) (j + 1)))), (4, yi 1), (0, .ref 43), (1, .ref 29), (2, yi i), (3, yi j)]) rfl ?_
                            refine E_run hk 3 (j' := 31) (lv' := [(6, yi 0), (5, yi ((0 + (gat nn2 (i + 1) j)) + (gat nn2 (i + 1) (j + 1)))), (4, yi 1), (0, .ref 43), (1, .ref 29), (2, yi i), (3, yi j)]) (st' := [yi 1, yi 0]) (hp' := hl14) rfl ?_
                            refine Y_ic_lt (a := 0) (b := 1) (by omega) hk rfl (fun g27 => ?_) (fun g27 => ?_)
                            ·
                              refine E_run hk 1 (j' := 56) (lv' := [(6, yi 0), (5, yi ((0 + (gat nn2 (i + 1) j)) + (gat nn2 (i + 1) (j + 1)))), (4, yi 1), (0, .ref 43), (1, .ref 29), (2, yi i), (3, yi j)]) (st' := [.ref 43]) (hp' := hl14) rfl ?_
                              refine E_get (v := .ref 48) hk rfl (fr14.at (by decide) (fr6.at (by decide) h43)) rfl ?_
                              refine E_run hk 3 (j' := 60) (lv' := [(6, yi 0), (5, yi ((0 + (gat nn2 (i + 1) j)) + (gat nn2 (i + 1) (j + 1)))), (4, yi 1), (0, .ref 43), (1, .ref 29), (2, yi i), (3, yi j)]) (st' := [yi 1, yi j, yi i, .ref 48]) (hp' := hl14) rfl ?_
                              refine Y_call hk rfl (as := [.ref 48, yi i, yi j, yi 1]) (rest := []) (v := none) rfl rfl (Nat.le_of_ble_eq_true rfl) (rcv0 (fr14.at (by decide) (fr6.at (by decide) h48))) (Nat.le_of_ble_eq_true rfl) (c_X0_put (i := i) (j := j) (x := 1) (a := 48) (p := 49) (k := cc2) ⟨by decide, by decide, by decide⟩ (fr14.at (by decide) (fr6.at (by decide) h48)) ec14_49 (by omega)) (fun H28 r29 => ?_)
                              obtain ⟨e_H28, f_H28⟩ := r29
                              refine E_run hk 1 (j' := 62) (lv' := [(6, yi 0), (5, yi ((0 + (gat nn2 (i + 1) j)) + (gat nn2 (i + 1) (j + 1)))), (4, yi 1), (0, .ref 43), (1, .ref 29), (2, yi i), (3, yi j)]) (st' := [.ref 43]) (hp' := H28) rfl ?_
                              refine E_get (v := .ref 50) hk rfl (f_H28.at (by decide) (fr14.at (by decide) (fr6.at (by decide) h43))) rfl ?_
                              refine E_run hk 4 (j' := 67) (lv' := [(6, yi 0), (5, yi ((0 + (gat nn2 (i + 1) j)) + (gat nn2 (i + 1) (j + 1)))), (4, yi 1), (0, .ref 43), (1, .ref 29), (2, yi i), (3, yi j)]) (st' := [yi ((0 + (gat nn2 (i + 1) j)) + (gat nn2 (i + 1) (j + 1))), yi 1000000, yi j, yi i, .ref 50]) (hp' := H28) rfl ?_
                              refine Y_min (a := 1000000) (b := ((0 + (gat nn2 (i + 1) j)) + (gat nn2 (i + 1) (j + 1)))) (by omega) hk rfl (Nat.le_of_ble_eq_true rfl) ?_
                              refine Y_call hk rfl (as := [.ref 50, yi i, yi j, yi (mn 1000000 ((0 + (gat nn2 (i + 1) j)) + (gat nn2 (i + 1) (j + 1))))]) (rest := []) (v := none) rfl rfl (Nat.le_of_ble_eq_true rfl) (rcv0 (f_H28.at (by decide) (fr14.at (by decide) (fr6.at (by decide) h50)))) (Nat.le_of_ble_eq_true rfl) (c_X0_put (i := i) (j := j) (x := (mn 1000000 ((0 + (gat nn2 (i + 1) j)) + (gat nn2 (i + 1) (j + 1))))) (a := 50) (p := 51) (k := nn2) ⟨by decide, by decide, by decide⟩ (f_H28.at (by decide) (fr14.at (by decide) (fr6.at (by decide) h50))) (f_H28.at (by decide) ec14_51) (by omega)) (fun H30 r31 => ?_)
                              obtain ⟨e_H30, f_H30⟩ := r31
                              refine Y_iinc (a := j) (z := (-1)) hk rfl rfl rfl (by decide) (lv' := [(3, yi (j + (-1))), (6, yi 0), (5, yi ((0 + (gat nn2 (i + 1) j)) + (gat nn2 (i + 1) (j + 1)))), (4, yi 1), (0, .ref 43), (1, .ref 29), (2, yi i)]) rfl ?_
                              refine E_run hk 1 (j' := 14) (lv' := [(3, yi (j + (-1))), (6, yi 0), (5, yi ((0 + (gat nn2 (i + 1) j)) + (gat nn2 (i + 1) (j + 1)))), (4, yi 1), (0, .ref 43), (1, .ref 29), (2, yi i)]) (st' := []) (hp' := H30) rfl ?_
                              exact Ev_le (xle_s rfl rfl (xle_s rfl rfl (xle_s rfl rfl (xle_s rfl rfl (xle_z _ rfl))))) (ih14 _ (by omega) (j + (-1)) (up cc2 (20 * i + j) 1) (up nn2 (20 * i + j) (mn 1000000 ((0 + (gat nn2 (i + 1) j)) + (gat nn2 (i + 1) (j + 1))))) H30 (by omega) (fun x y x1 x2 y1 y2 q => by
        rw [up_ne _ _ (by omega), up_ne _ _ (by omega)]
        exact K2 x y x1 x2 y1 y2 q) (fun y y1 y2 q => by
        by_cases e : y = j
        · rw [e, up_self, up_self]
          rw [e] at q
          obtain ⟨e1, e2⟩ := fin () q
          rw [e1, e2]
          constructor
          · repeat (first | rw [if_pos (by assumption)] | rw [if_neg (by assumption)])
          · repeat (first | rw [if_pos (by assumption)] | rw [if_neg (by assumption)])
            try simp only [Int.add_zero]
        · rw [up_ne _ _ (by omega), up_ne _ _ (by omega)]
          exact K3 y (by omega) y2 q) (f_H30.at (by decide) e_H28) e_H30 (yfr.tr (yfr.tr fr14 f_H28 (fun _ h => h) (by decide)) f_H30 (fun _ h => h) (by decide)) rfl)
                            · exfalso; omega
                  ·
                    have rq3 := rg3 () (by assumption)
                    refine E_run hk 4 (j' := 43) (lv' := [(4, yi 3), (6, yi 3), (5, yi 0), (0, .ref 43), (1, .ref 29), (2, yi i), (3, yi j)]) (st' := [.ref 43, yi 0]) (hp' := hl14) rfl ?_
                    refine E_get (v := .ref 50) hk rfl (fr14.at (by decide) (fr6.at (by decide) h43)) rfl ?_
                    refine E_run hk 2 (j' := 46) (lv' := [(4, yi 3), (6, yi 3), (5, yi 0), (0, .ref 43), (1, .ref 29), (2, yi i), (3, yi j)]) (st' := [yi 3, yi i, .ref 50, yi 0]) (hp' := hl14) rfl ?_
                    refine Y_callP hk rfl (as := [yi i, yi 3]) (rest := [.ref 50, yi 0]) (v := some (yi i)) rfl rfl (Nat.le_of_ble_eq_true rfl) rfl (Nat.le_of_ble_eq_true rfl) (c_X2_firstAfter3 (i := i)) ?_
                    refine E_run hk 2 (j' := 49) (lv' := [(4, yi 3), (6, yi 3), (5, yi 0), (0, .ref 43), (1, .ref 29), (2, yi i), (3, yi j)]) (st' := [yi 3, yi j, yi i, .ref 50, yi 0]) (hp' := hl14) rfl ?_
                    refine Y_callP hk rfl (as := [yi j, yi 3]) (rest := [yi i, .ref 50, yi 0]) (v := some (yi (j + 1))) rfl rfl (Nat.le_of_ble_eq_true rfl) rfl (Nat.le_of_ble_eq_true rfl) (c_X2_secondAfter3 (i := j)) ?_
                    refine Y_callP hk rfl (as := [.ref 50, yi i, yi (j + 1)]) (rest := [yi 0]) (v := some (yi (gat nn2 i (j + 1)))) rfl rfl (Nat.le_of_ble_eq_true rfl) (rcv0 (fr14.at (by decide) (fr6.at (by decide) h50))) (Nat.le_of_ble_eq_true rfl) (c_X0_at (i := i) (j := (j + 1)) (a := 50) (p := 51) (k := nn2) ⟨by decide, by decide, by decide⟩ (fr14.at (by decide) (fr6.at (by decide) h50)) ec14_51 (by omega)) ?_
                    refine Y_iadd (a := 0) (b := (gat nn2 i (j + 1))) hk rfl ?_
                    refine E_run hk 1 (j' := 53) (lv' := [(5, yi (0 + (gat nn2 i (j + 1)))), (4, yi 3), (6, yi 3), (0, .ref 43), (1, .ref 29), (2, yi i), (3, yi j)]) (st' := []) (hp' := hl14) rfl ?_
                    refine Y_iinc (a := 3) (z := (-1)) hk rfl rfl rfl (by decide) (lv' := [(6, yi 2), (5, yi (0 + (gat nn2 i (j + 1)))), (4, yi 3), (0, .ref 43), (1, .ref 29), (2, yi i), (3, yi j)]) rfl ?_
                    refine E_run hk 3 (j' := 31) (lv' := [(6, yi 2), (5, yi (0 + (gat nn2 i (j + 1)))), (4, yi 3), (0, .ref 43), (1, .ref 29), (2, yi i), (3, yi j)]) (st' := [yi 1, yi 2]) (hp' := hl14) rfl ?_
                    refine Y_ic_lt (a := 2) (b := 1) (by omega) hk rfl (fun g32 => ?_) (fun g32 => ?_)
                    · exfalso; omega
                    ·
                      refine E_run hk 5 (j' := 37) (lv' := [(6, yi 2), (5, yi (0 + (gat nn2 i (j + 1)))), (4, yi 3), (0, .ref 43), (1, .ref 29), (2, yi i), (3, yi j)]) (st' := [yi 2, yi j, yi i, .ref 29, .ref 43]) (hp' := hl14) rfl ?_
                      refine Y_callP hk rfl (as := [.ref 43, .ref 29, yi i, yi j, yi 2]) (rest := []) (v := some (yi (b2 (gat B (i + 1) j < 1000000000 ∧ gat B i j = unl S 0 i j + S 3 + gat B (i + 1) j)))) rfl rfl (Nat.le_of_ble_eq_true rfl) (rcv0 (fr14.at (by decide) (fr6.at (by decide) h43))) (Nat.le_of_ble_eq_true rfl) (c_X2_isBestStep2 (i := i) (j := j) (B := B) (fr14.at (by decide) (fr6.at (by decide) h43)) (fr14.at (by decide) (fr6.at (by decide) h44)) (fr14.at (by decide) (fr6.at (by decide) h46)) (fr14.at (by decide) (fr6.at (by decide) h48)) (fr14.at (by decide) (fr6.at (by decide) h50)) (fr14.at (by decide) (fr6.at (by decide) h47)) ⟨hid, (fr14.at (by decide) (fr6.at (by decide) hs_)), (fr14.at (by simp only [List.mem_cons, List.not_mem_nil, or_false, not_or]; exact ⟨(Ne.symm (sok hid (by unfold apart; decide)).2.1), (Ne.symm (sok hid (by unfold apart; decide)).2.1)⟩) (fr6.at (by simp only [List.mem_cons, List.not_mem_nil, or_false, not_or]; exact ⟨(Ne.symm (sok hid (by unfold apart; decide)).2.1), (Ne.symm (sok hid (by unfold apart; decide)).2.1)⟩) hz_)), (fr14.at (by simp only [List.mem_cons, List.not_mem_nil, or_false, not_or]; exact ⟨(Ne.symm (sok hid (by unfold apart; decide)).2.2.2.1), (Ne.symm (sok hid (by unfold apart; decide)).2.2.2.1)⟩) (fr6.at (by simp only [List.mem_cons, List.not_mem_nil, or_false, not_or]; exact ⟨(Ne.symm (sok hid (by unfold apart; decide)).2.2.2.1), (Ne.symm (sok hid (by unfold apart; decide)).2.2.2.1)⟩) ho_)), (fr14.at (by simp only [List.mem_cons, List.not_mem_nil, or_false, not_or]; exact ⟨(Ne.symm (sok hid (by unfold apart; decide)).2.2.1), (Ne.symm (sok hid (by unfold apart; decide)).2.2.1)⟩) (fr6.at (by simp only [List.mem_cons, List.not_mem_nil, or_false, not_or]; exact ⟨(Ne.symm (sok hid (by unfold apart; decide)).2.2.1), (Ne.symm (sok hid (by unfold apart; decide)).2.2.1)⟩) hf_)), (fr14.at (by simp only [List.mem_cons, List.not_mem_nil, or_false, not_or]; exact ⟨(Ne.symm (sok hid (by unfold apart; decide)).2.2.2.2), (Ne.symm (sok hid (by unfold apart; decide)).2.2.2.2)⟩) (fr6.at (by simp only [List.mem_cons, List.not_mem_nil, or_false, not_or]; exact ⟨(Ne.symm (sok hid (by unfold apart; decide)).2.2.2.2), (Ne.symm (sok hid (by unfold apart; decide)).2.2.2.2)⟩) hg_)), ef, eg⟩ hz h0 h1 (by omega) (by omega) (hd := by omega)) ?_
                      refine Y_b_eq hk rfl (fun g33 => ?_) (fun g33 => ?_)
                      ·
                        refine Y_iinc (a := 2) (z := (-1)) hk rfl rfl rfl (by decide) (lv' := [(6, yi 1), (5, yi (0 + (gat nn2 i (j + 1)))), (4, yi 3), (0, .ref 43), (1, .ref 29), (2, yi i), (3, yi j)]) rfl ?_
                        refine E_run hk 3 (j' := 31) (lv' := [(6, yi 1), (5, yi (0 + (gat nn2 i (j + 1)))), (4, yi 3), (0, .ref 43), (1, .ref 29), (2, yi i), (3, yi j)]) (st' := [yi 1, yi 1]) (hp' := hl14) rfl ?_
                        refine Y_ic_lt (a := 1) (b := 1) (by omega) hk rfl (fun g34 => ?_) (fun g34 => ?_)
                        · exfalso; omega
                        ·
                          refine E_run hk 5 (j' := 37) (lv' := [(6, yi 1), (5, yi (0 + (gat nn2 i (j + 1)))), (4, yi 3), (0, .ref 43), (1, .ref 29), (2, yi i), (3, yi j)]) (st' := [yi 1, yi j, yi i, .ref 29, .ref 43]) (hp' := hl14) rfl ?_
                          refine Y_callP hk rfl (as := [.ref 43, .ref 29, yi i, yi j, yi 1]) (rest := []) (v := some (yi (b2 (gat B (i + 1) (j + 1) < 1000000000 ∧ gat B i j = unl S 0 i j + 0 + gat B (i + 1) (j + 1))))) rfl rfl (Nat.le_of_ble_eq_true rfl) (rcv0 (fr14.at (by decide) (fr6.at (by decide) h43))) (Nat.le_of_ble_eq_true rfl) (c_X2_isBestStep1 (i := i) (j := j) (B := B) (fr14.at (by decide) (fr6.at (by decide) h43)) (fr14.at (by decide) (fr6.at (by decide) h44)) (fr14.at (by decide) (fr6.at (by decide) h46)) (fr14.at (by decide) (fr6.at (by decide) h48)) (fr14.at (by decide) (fr6.at (by decide) h50)) (fr14.at (by decide) (fr6.at (by decide) h47)) ⟨hid, (fr14.at (by decide) (fr6.at (by decide) hs_)), (fr14.at (by simp only [List.mem_cons, List.not_mem_nil, or_false, not_or]; exact ⟨(Ne.symm (sok hid (by unfold apart; decide)).2.1), (Ne.symm (sok hid (by unfold apart; decide)).2.1)⟩) (fr6.at (by simp only [List.mem_cons, List.not_mem_nil, or_false, not_or]; exact ⟨(Ne.symm (sok hid (by unfold apart; decide)).2.1), (Ne.symm (sok hid (by unfold apart; decide)).2.1)⟩) hz_)), (fr14.at (by simp only [List.mem_cons, List.not_mem_nil, or_false, not_or]; exact ⟨(Ne.symm (sok hid (by unfold apart; decide)).2.2.2.1), (Ne.symm (sok hid (by unfold apart; decide)).2.2.2.1)⟩) (fr6.at (by simp only [List.mem_cons, List.not_mem_nil, or_false, not_or]; exact ⟨(Ne.symm (sok hid (by unfold apart; decide)).2.2.2.1), (Ne.symm (sok hid (by unfold apart; decide)).2.2.2.1)⟩) ho_)), (fr14.at (by simp only [List.mem_cons, List.not_mem_nil, or_false, not_or]; exact ⟨(Ne.symm (sok hid (by unfold apart; decide)).2.2.1), (Ne.symm (sok hid (by unfold apart; decide)).2.2.1)⟩) (fr6.at (by simp only [List.mem_cons, List.not_mem_nil, or_false, not_or]; exact ⟨(Ne.symm (sok hid (by unfold apart; decide)).2.2.1), (Ne.symm (sok hid (by unfold apart; decide)).2.2.1)⟩) hf_)), (fr14.at (by simp only [List.mem_cons, List.not_mem_nil, or_false, not_or]; exact ⟨(Ne.symm (sok hid (by unfold apart; decide)).2.2.2.2), (Ne.symm (sok hid (by unfold apart; decide)).2.2.2.2)⟩) (fr6.at (by simp only [List.mem_cons, List.not_mem_nil, or_false, not_or]; exact ⟨(Ne.symm (sok hid (by unfold apart; decide)).2.2.2.2), (Ne.symm (sok hid (by unfold apart; decide)).2.2.2.2)⟩) hg_)), ef, eg⟩ hz h0 h1 (by omega) (by omega) (hd := by omega)) ?_
                          refine Y_b_eq hk rfl (fun g35 => ?_) (fun g35 => ?_)
                          ·
                            refine Y_iinc (a := 1) (z := (-1)) hk rfl rfl rfl (by decide) (lv' := [(6, yi 0), (5, yi (0 + (gat nn2 i (j + 1)))), (4, yi 3), (0, .ref 43), (1, .ref 29), (2, yi i), (3, yi j)]) rfl ?_
                            refine E_run hk 3 (j' := 31) (lv' := [(6, yi 0), (5, yi (0 + (gat nn2 i (j + 1)))), (4, yi 3), (0, .ref 43), (1, .ref 29), (2, yi i), (3, yi j)]) (st' := [yi 1, yi 0]) (hp' := hl14) rfl ?_
                            refine Y_ic_lt (a := 0) (b := 1) (by omega) hk rfl (fun g36 => ?_) (fun g36 => ?_)
                            ·
                              refine E_run hk 1 (j' := 56) (lv' := [(6, yi 0), (5, yi (0 + (gat nn2 i (j + 1)))), (4, yi 3), (0, .ref 43), (1, .ref 29), (2, yi i), (3, yi j)]) (st' := [.ref 43]) (hp' := hl14) rfl ?_
                              refine E_get (v := .ref 48) hk rfl (fr14.at (by decide) (fr6.at (by decide) h43)) rfl ?_
                              refine E_run hk 3 (j' := 60) (lv' := [(6, yi 0), (5, yi (0 + (gat nn2 i (j + 1)))), (4, yi 3), (0, .ref 43), (1, .ref 29), (2, yi i), (3, yi j)]) (st' := [yi 3, yi j, yi i, .ref 48]) (hp' := hl14) rfl ?_
                              refine Y_call hk rfl (as := [.ref 48, yi i, yi j, yi 3]) (rest := []) (v := none) rfl rfl (Nat.le_of_ble_eq_true rfl) (rcv0 (fr14.at (by decide) (fr6.at (by decide) h48))) (Nat.le_of_ble_eq_true rfl) (c_X0_put (i := i) (j := j) (x := 3) (a := 48) (p := 49) (k := cc2) ⟨by decide, by decide, by decide⟩ (fr14.at (by decide) (fr6.at (by decide) h48)) ec14_49 (by omega)) (fun H37 r38 => ?_)
                              obtain ⟨e_H37, f_H37⟩ := r38
                              refine E_run hk 1 (j' := 62) (lv' := [(6, yi 0), (5, yi (0 + (gat nn2 i (j + 1)))), (4, yi 3), (0, .ref 43), (1, .ref 29), (2, yi i), (3, yi j)]) (st' := [.ref 43]) (hp' := H37) rfl ?_
                              refine E_get (v := .ref 50) hk rfl (f_H37.at (by decide) (fr14.at (by decide) (fr6.at (by decide) h43))) rfl ?_
                              refine E_run hk 4 (j' := 67) (lv' := [(6, yi 0), (5, yi (0 + (gat nn2 i (j + 1)))), (4, yi 3), (0, .ref 43), (1, .ref 29), (2, yi i), (3, yi j)]) (st' := [yi (0 + (gat nn2 i (j + 1))), yi 1000000, yi j, yi i, .ref 50]) (hp' := H37) rfl ?_
                              refine Y_min (a := 1000000) (b := (0 + (gat nn2 i (j + 1)))) (by omega) hk rfl (Nat.le_of_ble_eq_true rfl) ?_
                              refine Y_call hk rfl (as := [.ref 50, yi i, yi j, yi (mn 1000000 (0 + (gat nn2 i (j + 1))))]) (rest := []) (v := none) rfl rfl (Nat.le_of_ble_eq_true rfl) (rcv0 (f_H37.at (by decide) (fr14.at (by decide) (fr6.at (by decide) h50)))) (Nat.le_of_ble_eq_true rfl) (c_X0_put (i := i) (j := j) (x := (mn 1000000 (0 + (gat nn2 i (j + 1))))) (a := 50) (p := 51) (k := nn2) ⟨by decide, by decide, by decide⟩ (f_H37.at (by decide) (fr14.at (by decide) (fr6.at (by decide) h50))) (f_H37.at (by decide) ec14_51) (by omega)) (fun H39 r40 => ?_)
                              obtain ⟨e_H39, f_H39⟩ := r40
                              refine Y_iinc (a := j) (z := (-1)) hk rfl rfl rfl (by decide) (lv' := [(3, yi (j + (-1))), (6, yi 0), (5, yi (0 + (gat nn2 i (j + 1)))), (4, yi 3), (0, .ref 43), (1, .ref 29), (2, yi i)]) rfl ?_
                              refine E_run hk 1 (j' := 14) (lv' := [(3, yi (j + (-1))), (6, yi 0), (5, yi (0 + (gat nn2 i (j + 1)))), (4, yi 3), (0, .ref 43), (1, .ref 29), (2, yi i)]) (st' := []) (hp' := H39) rfl ?_
                              exact Ev_le (xle_s rfl rfl (xle_s rfl rfl (xle_s rfl rfl (xle_s rfl rfl (xle_z _ rfl))))) (ih14 _ (by omega) (j + (-1)) (up cc2 (20 * i + j) 3) (up nn2 (20 * i + j) (mn 1000000 (0 + (gat nn2 i (j + 1))))) H39 (by omega) (fun x y x1 x2 y1 y2 q => by
        rw [up_ne _ _ (by omega), up_ne _ _ (by omega)]
        exact K2 x y x1 x2 y1 y2 q) (fun y y1 y2 q => by
        by_cases e : y = j
        · rw [e, up_self, up_self]
          rw [e] at q
          obtain ⟨e1, e2⟩ := fin () q
          rw [e1, e2]
          constructor
          · repeat (first | rw [if_pos (by assumption)] | rw [if_neg (by assumption)])
          · repeat (first | rw [if_pos (by assumption)] | rw [if_neg (by assumption)])
            try simp only [Int.add_zero]
        · rw [up_ne _ _ (by omega), up_ne _ _ (by omega)]
          exact K3 y (by omega) y2 q) (f_H39.at (by decide) e_H37) e_H39 (yfr.tr (yfr.tr fr14 f_H37 (fun _ h => h) (by decide)) f_H39 (fun _ h => h) (by decide)) rfl)
                            · exfalso; omega
                          ·
                            have rq1 := rg1 () (by assumption)
                            refine E_run hk 4 (j' := 43) (lv' := [(4, yi 1), (6, yi 1), (5, yi (0 + (gat nn2 i (j + 1)))), (0, .ref 43), (1, .ref 29), (2, yi i), (3, yi j)]) (st' := [.ref 43, yi (0 + (gat nn2 i (j + 1)))]) (hp' := hl14) rfl ?_
                            refine E_get (v := .ref 50) hk rfl (fr14.at (by decide) (fr6.at (by decide) h43)) rfl ?_
                            refine E_run hk 2 (j' := 46) (lv' := [(4, yi 1), (6, yi 1), (5, yi (0 + (gat nn2 i (j + 1)))), (0, .ref 43), (1, .ref 29), (2, yi i), (3, yi j)]) (st' := [yi 1, yi i, .ref 50, yi (0 + (gat nn2 i (j + 1)))]) (hp' := hl14) rfl ?_
                            refine Y_callP hk rfl (as := [yi i, yi 1]) (rest := [.ref 50, yi (0 + (gat nn2 i (j + 1)))]) (v := some (yi (i + 1))) rfl rfl (Nat.le_of_ble_eq_true rfl) rfl (Nat.le_of_ble_eq_true rfl) (c_X2_firstAfter1 (i := i)) ?_
                            refine E_run hk 2 (j' := 49) (lv' := [(4, yi 1), (6, yi 1), (5, yi (0 + (gat nn2 i (j + 1)))), (0, .ref 43), (1, .ref 29), (2, yi i), (3, yi j)]) (st' := [yi 1, yi j, yi (i + 1), .ref 50, yi (0 + (gat nn2 i (j + 1)))]) (hp' := hl14) rfl ?_
                            refine Y_callP hk rfl (as := [yi j, yi 1]) (rest := [yi (i + 1), .ref 50, yi (0 + (gat nn2 i (j + 1)))]) (v := some (yi (j + 1))) rfl rfl (Nat.le_of_ble_eq_true rfl) rfl (Nat.le_of_ble_eq_true rfl) (c_X2_secondAfter1 (i := j)) ?_
                            refine Y_callP hk rfl (as := [.ref 50, yi (i + 1), yi (j + 1)]) (rest := [yi (0 + (gat nn2 i (j + 1)))]) (v := some (yi (gat nn2 (i + 1) (j + 1)))) rfl rfl (Nat.le_of_ble_eq_true rfl) (rcv0 (fr14.at (by decide) (fr6.at (by decide) h50))) (Nat.le_of_ble_eq_true rfl) (c_X0_at (i := (i + 1)) (j := (j + 1)) (a := 50) (p := 51) (k := nn2) ⟨by decide, by decide, by decide⟩ (fr14.at (by decide) (fr6.at (by decide) h50)) ec14_51 (by omega)) ?_
                            refine Y_iadd (a := (0 + (gat nn2 i (j + 1)))) (b := (gat nn2 (i + 1) (j + 1))) hk rfl ?_
                            refine E_run hk 1 (j' := 53) (lv' := [(5, yi ((0 + (gat nn2 i (j + 1))) + (gat nn2 (i + 1) (j + 1)))), (4, yi 1), (6, yi 1), (0, .ref 43), (1, .ref 29), (2, yi i), (3, yi j)]) (st' := []) (hp' := hl14) rfl ?_
                            refine Y_iinc (a := 1) (z := (-1)) hk rfl rfl rfl (by decide) (lv' := [(6, yi 0), (5, yi ((0 + (gat nn2 i (j + 1))) + (gat nn2 (i + 1) (j + 1)))), (4, yi 1), (0, .ref 43), (1, .ref 29), (2, yi i), (3, yi j)]) rfl ?_
                            refine E_run hk 3 (j' := 31) (lv' := [(6, yi 0), (5, yi ((0 + (gat nn2 i (j + 1))) + (gat nn2 (i + 1) (j + 1)))), (4, yi 1), (0, .ref 43), (1, .ref 29), (2, yi i), (3, yi j)]) (st' := [yi 1, yi 0]) (hp' := hl14) rfl ?_
                            refine Y_ic_lt (a := 0) (b := 1) (by omega) hk rfl (fun g41 => ?_) (fun g41 => ?_)
                            ·
                              refine E_run hk 1 (j' := 56) (lv' := [(6, yi 0), (5, yi ((0 + (gat nn2 i (j + 1))) + (gat nn2 (i + 1) (j + 1)))), (4, yi 1), (0, .ref 43), (1, .ref 29), (2, yi i), (3, yi j)]) (st' := [.ref 43]) (hp' := hl14) rfl ?_
                              refine E_get (v := .ref 48) hk rfl (fr14.at (by decide) (fr6.at (by decide) h43)) rfl ?_
                              refine E_run hk 3 (j' := 60) (lv' := [(6, yi 0), (5, yi ((0 + (gat nn2 i (j + 1))) + (gat nn2 (i + 1) (j + 1)))), (4, yi 1), (0, .ref 43), (1, .ref 29), (2, yi i), (3, yi j)]) (st' := [yi 1, yi j, yi i, .ref 48]) (hp' := hl14) rfl ?_
                              refine Y_call hk rfl (as := [.ref 48, yi i, yi j, yi 1]) (rest := []) (v := none) rfl rfl (Nat.le_of_ble_eq_true rfl) (rcv0 (fr14.at (by decide) (fr6.at (by decide) h48))) (Nat.le_of_ble_eq_true rfl) (c_X0_put (i := i) (j := j) (x := 1) (a := 48) (p := 49) (k := cc2) ⟨by decide, by decide, by decide⟩ (fr14.at (by decide) (fr6.at (by decide) h48)) ec14_49 (by omega)) (fun H42 r43 => ?_)
                              obtain ⟨e_H42, f_H42⟩ := r43
                              refine E_run hk 1 (j' := 62) (lv' := [(6, yi 0), (5, yi ((0 + (gat nn2 i (j + 1))) + (gat nn2 (i + 1) (j + 1)))), (4, yi 1), (0, .ref 43), (1, .ref 29), (2, yi i), (3, yi j)]) (st' := [.ref 43]) (hp' := H42) rfl ?_
                              refine E_get (v := .ref 50) hk rfl (f_H42.at (by decide) (fr14.at (by decide) (fr6.at (by decide) h43))) rfl ?_
                              refine E_run hk 4 (j' := 67) (lv' := [(6, yi 0), (5, yi ((0 + (gat nn2 i (j + 1))) + (gat nn2 (i + 1) (j + 1)))), (4, yi 1), (0, .ref 43), (1, .ref 29), (2, yi i), (3, yi j)]) (st' := [yi ((0 + (gat nn2 i (j + 1))) + (gat nn2 (i + 1) (j + 1))), yi 1000000, yi j, yi i, .ref 50]) (hp' := H42) rfl ?_
                              refine Y_min (a := 1000000) (b := ((0 + (gat nn2 i (j + 1))) + (gat nn2 (i + 1) (j + 1)))) (by omega) hk rfl (Nat.le_of_ble_eq_true rfl) ?_
                              refine Y_call hk rfl (as := [.ref 50, yi i, yi j, yi (mn 1000000 ((0 + (gat nn2 i (j + 1))) + (gat nn2 (i + 1) (j + 1))))]) (rest := []) (v := none) rfl rfl (Nat.le_of_ble_eq_true rfl) (rcv0 (f_H42.at (by decide) (fr14.at (by decide) (fr6.at (by decide) h50)))) (Nat.le_of_ble_eq_true rfl) (c_X0_put (i := i) (j := j) (x := (mn 1000000 ((0 + (gat nn2 i (j + 1))) + (gat nn2 (i + 1) (j + 1))))) (a := 50) (p := 51) (k := nn2) ⟨by decide, by decide, by decide⟩ (f_H42.at (by decide) (fr14.at (by decide) (fr6.at (by decide) h50))) (f_H42.at (by decide) ec14_51) (by omega)) (fun H44 r45 => ?_)
                              obtain ⟨e_H44, f_H44⟩ := r45
                              refine Y_iinc (a := j) (z := (-1)) hk rfl rfl rfl (by decide) (lv' := [(3, yi (j + (-1))), (6, yi 0), (5, yi ((0 + (gat nn2 i (j + 1))) + (gat nn2 (i + 1) (j + 1)))), (4, yi 1), (0, .ref 43), (1, .ref 29), (2, yi i)]) rfl ?_
                              refine E_run hk 1 (j' := 14) (lv' := [(3, yi (j + (-1))), (6, yi 0), (5, yi ((0 + (gat nn2 i (j + 1))) + (gat nn2 (i + 1) (j + 1)))), (4, yi 1), (0, .ref 43), (1, .ref 29), (2, yi i)]) (st' := []) (hp' := H44) rfl ?_
                              exact Ev_le (xle_s rfl rfl (xle_s rfl rfl (xle_s rfl rfl (xle_s rfl rfl (xle_z _ rfl))))) (ih14 _ (by omega) (j + (-1)) (up cc2 (20 * i + j) 1) (up nn2 (20 * i + j) (mn 1000000 ((0 + (gat nn2 i (j + 1))) + (gat nn2 (i + 1) (j + 1))))) H44 (by omega) (fun x y x1 x2 y1 y2 q => by
        rw [up_ne _ _ (by omega), up_ne _ _ (by omega)]
        exact K2 x y x1 x2 y1 y2 q) (fun y y1 y2 q => by
        by_cases e : y = j
        · rw [e, up_self, up_self]
          rw [e] at q
          obtain ⟨e1, e2⟩ := fin () q
          rw [e1, e2]
          constructor
          · repeat (first | rw [if_pos (by assumption)] | rw [if_neg (by assumption)])
          · repeat (first | rw [if_pos (by assumption)] | rw [if_neg (by assumption)])
            try simp only [Int.add_zero]
        · rw [up_ne _ _ (by omega), up_ne _ _ (by omega)]
          exact K3 y (by omega) y2 q) (f_H44.at (by decide) e_H42) e_H44 (yfr.tr (yfr.tr fr14 f_H42 (fun _ h => h) (by decide)) f_H44 (fun _ h => h) (by decide)) rfl)
                            · exfalso; omega
                      ·
                        have rq2 := rg2 () (by assumption)
                        refine E_run hk 4 (j' := 43) (lv' := [(4, yi 2), (6, yi 2), (5, yi (0 + (gat nn2 i (j + 1)))), (0, .ref 43), (1, .ref 29), (2, yi i), (3, yi j)]) (st' := [.ref 43, yi (0 + (gat nn2 i (j + 1)))]) (hp' := hl14) rfl ?_
                        refine E_get (v := .ref 50) hk rfl (fr14.at (by decide) (fr6.at (by decide) h43)) rfl ?_
                        refine E_run hk 2 (j' := 46) (lv' := [(4, yi 2), (6, yi 2), (5, yi (0 + (gat nn2 i (j + 1)))), (0, .ref 43), (1, .ref 29), (2, yi i), (3, yi j)]) (st' := [yi 2, yi i, .ref 50, yi (0 + (gat nn2 i (j + 1)))]) (hp' := hl14) rfl ?_
                        refine Y_callP hk rfl (as := [yi i, yi 2]) (rest := [.ref 50, yi (0 + (gat nn2 i (j + 1)))]) (v := some (yi (i + 1))) rfl rfl (Nat.le_of_ble_eq_true rfl) rfl (Nat.le_of_ble_eq_true rfl) (c_X2_firstAfter2 (i := i)) ?_
                        refine E_run hk 2 (j' := 49) (lv' := [(4, yi 2), (6, yi 2), (5, yi (0 + (gat nn2 i (j + 1)))), (0, .ref 43), (1, .ref 29), (2, yi i), (3, yi j)]) (st' := [yi 2, yi j, yi (i + 1), .ref 50, yi (0 + (gat nn2 i (j + 1)))]) (hp' := hl14) rfl ?_
                        refine Y_callP hk rfl (as := [yi j, yi 2]) (rest := [yi (i + 1), .ref 50, yi (0 + (gat nn2 i (j + 1)))]) (v := some (yi j)) rfl rfl (Nat.le_of_ble_eq_true rfl) rfl (Nat.le_of_ble_eq_true rfl) (c_X2_secondAfter2 (i := j)) ?_
                        refine Y_callP hk rfl (as := [.ref 50, yi (i + 1), yi j]) (rest := [yi (0 + (gat nn2 i (j + 1)))]) (v := some (yi (gat nn2 (i + 1) j))) rfl rfl (Nat.le_of_ble_eq_true rfl) (rcv0 (fr14.at (by decide) (fr6.at (by decide) h50))) (Nat.le_of_ble_eq_true rfl) (c_X0_at (i := (i + 1)) (j := j) (a := 50) (p := 51) (k := nn2) ⟨by decide, by decide, by decide⟩ (fr14.at (by decide) (fr6.at (by decide) h50)) ec14_51 (by omega)) ?_
                        refine Y_iadd (a := (0 + (gat nn2 i (j + 1)))) (b := (gat nn2 (i + 1) j)) hk rfl ?_
                        refine E_run hk 1 (j' := 53) (lv' := [(5, yi ((0 + (gat nn2 i (j + 1))) + (gat nn2 (i + 1) j))), (4, yi 2), (6, yi 2), (0, .ref 43), (1, .ref 29), (2, yi i), (3, yi j)]) (st' := []) (hp' := hl14) rfl ?_
                        refine Y_iinc (a := 2) (z := (-1)) hk rfl rfl rfl (by decide) (lv' := [(6, yi 1), (5, yi ((0 + (gat nn2 i (j + 1))) + (gat nn2 (i + 1) j))), (4, yi 2), (0, .ref 43), (1, .ref 29), (2, yi i), (3, yi j)]) rfl ?_
                        refine E_run hk 3 (j' := 31) (lv' := [(6, yi 1), (5, yi ((0 + (gat nn2 i (j + 1))) + (gat nn2 (i + 1) j))), (4, yi 2), (0, .ref 43), (1, .ref 29), (2, yi i), (3, yi j)]) (st' := [yi 1, yi 1]) (hp' := hl14) rfl ?_
                        refine Y_ic_lt (a := 1) (b := 1) (by omega) hk rfl (fun g46 => ?_) (fun g46 => ?_)
                        · exfalso; omega
                        ·
                          refine E_run hk 5 (j' := 37) (lv' := [(6, yi 1), (5, yi ((0 + (gat nn2 i (j + 1))) + (gat nn2 (i + 1) j))), (4, yi 2), (0, .ref 43), (1, .ref 29), (2, yi i), (3, yi j)]) (st' := [yi 1, yi j, yi i, .ref 29, .ref 43]) (hp' := hl14) rfl ?_
                          refine Y_callP hk rfl (as := [.ref 43, .ref 29, yi i, yi j, yi 1]) (rest := []) (v := some (yi (b2 (gat B (i + 1) (j + 1) < 1000000000 ∧ gat B i j = unl S 0 i j + 0 + gat B (i + 1) (j + 1))))) rfl rfl (Nat.le_of_ble_eq_true rfl) (rcv0 (fr14.at (by decide) (fr6.at (by decide) h43))) (Nat.le_of_ble_eq_true rfl) (c_X2_isBestStep1 (i := i) (j := j) (B := B) (fr14.at (by decide) (fr6.at (by decide) h43)) (fr14.at (by decide) (fr6.at (by decide) h44)) (fr14.at (by decide) (fr6.at (by decide) h46)) (fr14.at (by decide) (fr6.at (by decide) h48)) (fr14.at (by decide) (fr6.at (by decide) h50)) (fr14.at (by decide) (fr6.at (by decide) h47)) ⟨hid, (fr14.at (by decide) (fr6.at (by decide) hs_)), (fr14.at (by simp only [List.mem_cons, List.not_mem_nil, or_false, not_or]; exact ⟨(Ne.symm (sok hid (by unfold apart; decide)).2.1), (Ne.symm (sok hid (by unfold apart; decide)).2.1)⟩) (fr6.at (by simp only [List.mem_cons, List.not_mem_nil, or_false, not_or]; exact ⟨(Ne.symm (sok hid (by unfold apart; decide)).2.1), (Ne.symm (sok hid (by unfold apart; decide)).2.1)⟩) hz_)), (fr14.at (by simp only [List.mem_cons, List.not_mem_nil, or_false, not_or]; exact ⟨(Ne.symm (sok hid (by unfold apart; decide)).2.2.2.1), (Ne.symm (sok hid (by unfold apart; decide)).2.2.2.1)⟩) (fr6.at (by simp only [List.mem_cons, List.not_mem_nil, or_false, not_or]; exact ⟨(Ne.symm (sok hid (by unfold apart; decide)).2.2.2.1), (Ne.symm (sok hid (by unfold apart; decide)).2.2.2.1)⟩) ho_)), (fr14.at (by simp only [List.mem_cons, List.not_mem_nil, or_false, not_or]; exact ⟨(Ne.symm (sok hid (by unfold apart; decide)).2.2.1), (Ne.symm (sok hid (by unfold apart; decide)).2.2.1)⟩) (fr6.at (by simp only [List.mem_cons, List.not_mem_nil, or_false, not_or]; exact ⟨(Ne.symm (sok hid (by unfold apart; decide)).2.2.1), (Ne.symm (sok hid (by unfold apart; decide)).2.2.1)⟩) hf_)), (fr14.at (by simp only [List.mem_cons, List.not_mem_nil, or_false, not_or]; exact ⟨(Ne.symm (sok hid (by unfold apart; decide)).2.2.2.2), (Ne.symm (sok hid (by unfold apart; decide)).2.2.2.2)⟩) (fr6.at (by simp only [List.mem_cons, List.not_mem_nil, or_false, not_or]; exact ⟨(Ne.symm (sok hid (by unfold apart; decide)).2.2.2.2), (Ne.symm (sok hid (by unfold apart; decide)).2.2.2.2)⟩) hg_)), ef, eg⟩ hz h0 h1 (by omega) (by omega) (hd := by omega)) ?_
                          refine Y_b_eq hk rfl (fun g47 => ?_) (fun g47 => ?_)
                          ·
                            refine Y_iinc (a := 1) (z := (-1)) hk rfl rfl rfl (by decide) (lv' := [(6, yi 0), (5, yi ((0 + (gat nn2 i (j + 1))) + (gat nn2 (i + 1) j))), (4, yi 2), (0, .ref 43), (1, .ref 29), (2, yi i), (3, yi j)]) rfl ?_
                            refine E_run hk 3 (j' := 31) (lv' := [(6, yi 0), (5, yi ((0 + (gat nn2 i (j + 1))) + (gat nn2 (i + 1) j))), (4, yi 2), (0, .ref 43), (1, .ref 29), (2, yi i), (3, yi j)]) (st' := [yi 1, yi 0]) (hp' := hl14) rfl ?_
                            refine Y_ic_lt (a := 0) (b := 1) (by omega) hk rfl (fun g48 => ?_) (fun g48 => ?_)
                            ·
                              refine E_run hk 1 (j' := 56) (lv' := [(6, yi 0), (5, yi ((0 + (gat nn2 i (j + 1))) + (gat nn2 (i + 1) j))), (4, yi 2), (0, .ref 43), (1, .ref 29), (2, yi i), (3, yi j)]) (st' := [.ref 43]) (hp' := hl14) rfl ?_
                              refine E_get (v := .ref 48) hk rfl (fr14.at (by decide) (fr6.at (by decide) h43)) rfl ?_
                              refine E_run hk 3 (j' := 60) (lv' := [(6, yi 0), (5, yi ((0 + (gat nn2 i (j + 1))) + (gat nn2 (i + 1) j))), (4, yi 2), (0, .ref 43), (1, .ref 29), (2, yi i), (3, yi j)]) (st' := [yi 2, yi j, yi i, .ref 48]) (hp' := hl14) rfl ?_
                              refine Y_call hk rfl (as := [.ref 48, yi i, yi j, yi 2]) (rest := []) (v := none) rfl rfl (Nat.le_of_ble_eq_true rfl) (rcv0 (fr14.at (by decide) (fr6.at (by decide) h48))) (Nat.le_of_ble_eq_true rfl) (c_X0_put (i := i) (j := j) (x := 2) (a := 48) (p := 49) (k := cc2) ⟨by decide, by decide, by decide⟩ (fr14.at (by decide) (fr6.at (by decide) h48)) ec14_49 (by omega)) (fun H49 r50 => ?_)
                              obtain ⟨e_H49, f_H49⟩ := r50
                              refine E_run hk 1 (j' := 62) (lv' := [(6, yi 0), (5, yi ((0 + (gat nn2 i (j + 1))) + (gat nn2 (i + 1) j))), (4, yi 2), (0, .ref 43), (1, .ref 29), (2, yi i), (3, yi j)]) (st' := [.ref 43]) (hp' := H49) rfl ?_
                              refine E_get (v := .ref 50) hk rfl (f_H49.at (by decide) (fr14.at (by decide) (fr6.at (by decide) h43))) rfl ?_
                              refine E_run hk 4 (j' := 67) (lv' := [(6, yi 0), (5, yi ((0 + (gat nn2 i (j + 1))) + (gat nn2 (i + 1) j))), (4, yi 2), (0, .ref 43), (1, .ref 29), (2, yi i), (3, yi j)]) (st' := [yi ((0 + (gat nn2 i (j + 1))) + (gat nn2 (i + 1) j)), yi 1000000, yi j, yi i, .ref 50]) (hp' := H49) rfl ?_
                              refine Y_min (a := 1000000) (b := ((0 + (gat nn2 i (j + 1))) + (gat nn2 (i + 1) j))) (by omega) hk rfl (Nat.le_of_ble_eq_true rfl) ?_
                              refine Y_call hk rfl (as := [.ref 50, yi i, yi j, yi (mn 1000000 ((0 + (gat nn2 i (j + 1))) + (gat nn2 (i + 1) j)))]) (rest := []) (v := none) rfl rfl (Nat.le_of_ble_eq_true rfl) (rcv0 (f_H49.at (by decide) (fr14.at (by decide) (fr6.at (by decide) h50)))) (Nat.le_of_ble_eq_true rfl) (c_X0_put (i := i) (j := j) (x := (mn 1000000 ((0 + (gat nn2 i (j + 1))) + (gat nn2 (i + 1) j)))) (a := 50) (p := 51) (k := nn2) ⟨by decide, by decide, by decide⟩ (f_H49.at (by decide) (fr14.at (by decide) (fr6.at (by decide) h50))) (f_H49.at (by decide) ec14_51) (by omega)) (fun H51 r52 => ?_)
                              obtain ⟨e_H51, f_H51⟩ := r52
                              refine Y_iinc (a := j) (z := (-1)) hk rfl rfl rfl (by decide) (lv' := [(3, yi (j + (-1))), (6, yi 0), (5, yi ((0 + (gat nn2 i (j + 1))) + (gat nn2 (i + 1) j))), (4, yi 2), (0, .ref 43), (1, .ref 29), (2, yi i)]) rfl ?_
                              refine E_run hk 1 (j' := 14) (lv' := [(3, yi (j + (-1))), (6, yi 0), (5, yi ((0 + (gat nn2 i (j + 1))) + (gat nn2 (i + 1) j))), (4, yi 2), (0, .ref 43), (1, .ref 29), (2, yi i)]) (st' := []) (hp' := H51) rfl ?_
                              exact Ev_le (xle_s rfl rfl (xle_s rfl rfl (xle_s rfl rfl (xle_s rfl rfl (xle_z _ rfl))))) (ih14 _ (by omega) (j + (-1)) (up cc2 (20 * i + j) 2) (up nn2 (20 * i + j) (mn 1000000 ((0 + (gat nn2 i (j + 1))) + (gat nn2 (i + 1) j)))) H51 (by omega) (fun x y x1 x2 y1 y2 q => by
        rw [up_ne _ _ (by omega), up_ne _ _ (by omega)]
        exact K2 x y x1 x2 y1 y2 q) (fun y y1 y2 q => by
        by_cases e : y = j
        · rw [e, up_self, up_self]
          rw [e] at q
          obtain ⟨e1, e2⟩ := fin () q
          rw [e1, e2]
          constructor
          · repeat (first | rw [if_pos (by assumption)] | rw [if_neg (by assumption)])
          · repeat (first | rw [if_pos (by assumption)] | rw [if_neg (by assumption)])
            try simp only [Int.add_zero]
        · rw [up_ne _ _ (by omega), up_ne _ _ (by omega)]
          exact K3 y (by omega) y2 q) (f_H51.at (by decide) e_H49) e_H51 (yfr.tr (yfr.tr fr14 f_H49 (fun _ h => h) (by decide)) f_H51 (fun _ h => h) (by decide)) rfl)
                            · exfalso; omega
                          ·
                            have rq1 := rg1 () (by assumption)
                            refine E_run hk 4 (j' := 43) (lv' := [(4, yi 1), (6, yi 1), (5, yi ((0 + (gat nn2 i (j + 1))) + (gat nn2 (i + 1) j))), (0, .ref 43), (1, .ref 29), (2, yi i), (3, yi j)]) (st' := [.ref 43, yi ((0 + (gat nn2 i (j + 1))) + (gat nn2 (i + 1) j))]) (hp' := hl14) rfl ?_
                            refine E_get (v := .ref 50) hk rfl (fr14.at (by decide) (fr6.at (by decide) h43)) rfl ?_
                            refine E_run hk 2 (j' := 46) (lv' := [(4, yi 1), (6, yi 1), (5, yi ((0 + (gat nn2 i (j + 1))) + (gat nn2 (i + 1) j))), (0, .ref 43), (1, .ref 29), (2, yi i), (3, yi j)]) (st' := [yi 1, yi i, .ref 50, yi ((0 + (gat nn2 i (j + 1))) + (gat nn2 (i + 1) j))]) (hp' := hl14) rfl ?_
                            refine Y_callP hk rfl (as := [yi i, yi 1]) (rest := [.ref 50, yi ((0 + (gat nn2 i (j + 1))) + (gat nn2 (i + 1) j))]) (v := some (yi (i + 1))) rfl rfl (Nat.le_of_ble_eq_true rfl) rfl (Nat.le_of_ble_eq_true rfl) (c_X2_firstAfter1 (i := i)) ?_
                            refine E_run hk 2 (j' := 49) (lv' := [(4, yi 1), (6, yi 1), (5, yi ((0 + (gat nn2 i (j + 1))) + (gat nn2 (i + 1) j))), (0, .ref 43), (1, .ref 29), (2, yi i), (3, yi j)]) (st' := [yi 1, yi j, yi (i + 1), .ref 50, yi ((0 + (gat nn2 i (j + 1))) + (gat nn2 (i + 1) j))]) (hp' := hl14) rfl ?_
                            refine Y_callP hk rfl (as := [yi j, yi 1]) (rest := [yi (i + 1), .ref 50, yi ((0 + (gat nn2 i (j + 1))) + (gat nn2 (i + 1) j))]) (v := some (yi (j + 1))) rfl rfl (Nat.le_of_ble_eq_true rfl) rfl (Nat.le_of_ble_eq_true rfl) (c_X2_secondAfter1 (i := j)) ?_
                            refine Y_callP hk rfl (as := [.ref 50, yi (i + 1), yi (j + 1)]) (rest := [yi ((0 + (gat nn2 i (j + 1))) + (gat nn2 (i + 1) j))]) (v := some (yi (gat nn2 (i + 1) (j + 1)))) rfl rfl (Nat.le_of_ble_eq_true rfl) (rcv0 (fr14.at (by decide) (fr6.at (by decide) h50))) (Nat.le_of_ble_eq_true rfl) (c_X0_at (i := (i + 1)) (j := (j + 1)) (a := 50) (p := 51) (k := nn2) ⟨by decide, by decide, by decide⟩ (fr14.at (by decide) (fr6.at (by decide) h50)) ec14_51 (by omega)) ?_
                            refine Y_iadd (a := ((0 + (gat nn2 i (j + 1))) + (gat nn2 (i + 1) j))) (b := (gat nn2 (i + 1) (j + 1))) hk rfl ?_
                            refine E_run hk 1 (j' := 53) (lv' := [(5, yi (((0 + (gat nn2 i (j + 1))) + (gat nn2 (i + 1) j)) + (gat nn2 (i + 1) (j + 1)))), (4, yi 1), (6, yi 1), (0, .ref 43), (1, .ref 29), (2, yi i), (3, yi j)]) (st' := []) (hp' := hl14) rfl ?_
                            refine Y_iinc (a := 1) (z := (-1)) hk rfl rfl rfl (by decide) (lv' := [(6, yi 0), (5, yi (((0 + (gat nn2 i (j + 1))) + (gat nn2 (i + 1) j)) + (gat nn2 (i + 1) (j + 1)))), (4, yi 1), (0, .ref 43), (1, .ref 29), (2, yi i), (3, yi j)]) rfl ?_
                            refine E_run hk 3 (j' := 31) (lv' := [(6, yi 0), (5, yi (((0 + (gat nn2 i (j + 1))) + (gat nn2 (i + 1) j)) + (gat nn2 (i + 1) (j + 1)))), (4, yi 1), (0, .ref 43), (1, .ref 29), (2, yi i), (3, yi j)]) (st' := [yi 1, yi 0]) (hp' := hl14) rfl ?_
                            refine Y_ic_lt (a := 0) (b := 1) (by omega) hk rfl (fun g53 => ?_) (fun g53 => ?_)
                            ·
                              refine E_run hk 1 (j' := 56) (lv' := [(6, yi 0), (5, yi (((0 + (gat nn2 i (j + 1))) + (gat nn2 (i + 1) j)) + (gat nn2 (i + 1) (j + 1)))), (4, yi 1), (0, .ref 43), (1, .ref 29), (2, yi i), (3, yi j)]) (st' := [.ref 43]) (hp' := hl14) rfl ?_
                              refine E_get (v := .ref 48) hk rfl (fr14.at (by decide) (fr6.at (by decide) h43)) rfl ?_
                              refine E_run hk 3 (j' := 60) (lv' := [(6, yi 0), (5, yi (((0 + (gat nn2 i (j + 1))) + (gat nn2 (i + 1) j)) + (gat nn2 (i + 1) (j + 1)))), (4, yi 1), (0, .ref 43), (1, .ref 29), (2, yi i), (3, yi j)]) (st' := [yi 1, yi j, yi i, .ref 48]) (hp' := hl14) rfl ?_
                              refine Y_call hk rfl (as := [.ref 48, yi i, yi j, yi 1]) (rest := []) (v := none) rfl rfl (Nat.le_of_ble_eq_true rfl) (rcv0 (fr14.at (by decide) (fr6.at (by decide) h48))) (Nat.le_of_ble_eq_true rfl) (c_X0_put (i := i) (j := j) (x := 1) (a := 48) (p := 49) (k := cc2) ⟨by decide, by decide, by decide⟩ (fr14.at (by decide) (fr6.at (by decide) h48)) ec14_49 (by omega)) (fun H54 r55 => ?_)
                              obtain ⟨e_H54, f_H54⟩ := r55
                              refine E_run hk 1 (j' := 62) (lv' := [(6, yi 0), (5, yi (((0 + (gat nn2 i (j + 1))) + (gat nn2 (i + 1) j)) + (gat nn2 (i + 1) (j + 1)))), (4, yi 1), (0, .ref 43), (1, .ref 29), (2, yi i), (3, yi j)]) (st' := [.ref 43]) (hp' := H54) rfl ?_
                              refine E_get (v := .ref 50) hk rfl (f_H54.at (by decide) (fr14.at (by decide) (fr6.at (by decide) h43))) rfl ?_
                              refine E_run hk 4 (j' := 67) (lv' := [(6, yi 0), (5, yi (((0 + (gat nn2 i (j + 1))) + (gat nn2 (i + 1) j)) + (gat nn2 (i + 1) (j + 1)))), (4, yi 1), (0, .ref 43), (1, .ref 29), (2, yi i), (3, yi j)]) (st' := [yi (((0 + (gat nn2 i (j + 1))) + (gat nn2 (i + 1) j)) + (gat nn2 (i + 1) (j + 1))), yi 1000000, yi j, yi i, .ref 50]) (hp' := H54) rfl ?_
                              refine Y_min (a := 1000000) (b := (((0 + (gat nn2 i (j + 1))) + (gat nn2 (i + 1) j)) + (gat nn2 (i + 1) (j + 1)))) (by omega) hk rfl (Nat.le_of_ble_eq_true rfl) ?_
                              refine Y_call hk rfl (as := [.ref 50, yi i, yi j, yi (mn 1000000 (((0 + (gat nn2 i (j + 1))) + (gat nn2 (i + 1) j)) + (gat nn2 (i + 1) (j + 1))))]) (rest := []) (v := none) rfl rfl (Nat.le_of_ble_eq_true rfl) (rcv0 (f_H54.at (by decide) (fr14.at (by decide) (fr6.at (by decide) h50)))) (Nat.le_of_ble_eq_true rfl) (c_X0_put (i := i) (j := j) (x := (mn 1000000 (((0 + (gat nn2 i (j + 1))) + (gat nn2 (i + 1) j)) + (gat nn2 (i + 1) (j + 1))))) (a := 50) (p := 51) (k := nn2) ⟨by decide, by decide, by decide⟩ (f_H54.at (by decide) (fr14.at (by decide) (fr6.at (by decide) h50))) (f_H54.at (by decide) ec14_51) (by omega)) (fun H56 r57 => ?_)
                              obtain ⟨e_H56, f_H56⟩ := r57
                              refine Y_iinc (a := j) (z := (-1)) hk rfl rfl rfl (by decide) (lv' := [(3, yi (j + (-1))), (6, yi 0), (5, yi (((0 + (gat nn2 i (j + 1))) + (gat nn2 (i + 1) j)) + (gat nn2 (i + 1) (j + 1)))), (4, yi 1), (0, .ref 43), (1, .ref 29), (2, yi i)]) rfl ?_
                              refine E_run hk 1 (j' := 14) (lv' := [(3, yi (j + (-1))), (6, yi 0), (5, yi (((0 + (gat nn2 i (j + 1))) + (gat nn2 (i + 1) j)) + (gat nn2 (i + 1) (j + 1)))), (4, yi 1), (0, .ref 43), (1, .ref 29), (2, yi i)]) (st' := []) (hp' := H56) rfl ?_
                              exact Ev_le (xle_s rfl rfl (xle_s rfl rfl (xle_s rfl rfl (xle_s rfl rfl (xle_z _ rfl))))) (ih14 _ (by omega) (j + (-1)) (up cc2 (20 * i + j) 1) (up nn2 (20 * i + j) (mn 1000000 (((0 + (gat nn2 i (j + 1))) + (gat nn2 (i + 1) j)) + (gat nn2 (i + 1) (j + 1))))) H56 (by omega) (fun x y x1 x2 y1 y2 q => by
        rw [up_ne _ _ (by omega), up_ne _ _ (by omega)]
        exact K2 x y x1 x2 y1 y2 q) (fun y y1 y2 q => by
        by_cases e : y = j
        · rw [e, up_self, up_self]
          rw [e] at q
          obtain ⟨e1, e2⟩ := fin () q
          rw [e1, e2]
          constructor
          · repeat (first | rw [if_pos (by assumption)] | rw [if_neg (by assumption)])
          · repeat (first | rw [if_pos (by assumption)] | rw [if_neg (by assumption)])
            try simp only [Int.add_zero]
        · rw [up_ne _ _ (by omega), up_ne _ _ (by omega)]
          exact K3 y (by omega) y2 q) (f_H56.at (by decide) e_H54) e_H56 (yfr.tr (yfr.tr fr14 f_H54 (fun _ h => h) (by decide)) f_H56 (fun _ h => h) (by decide)) rfl)
                            · exfalso; omega
              ·
                refine E_run hk 7 (j' := 31) (lv' := [(6, yi 3), (5, yi 1), (4, yi 0), (0, .ref 43), (1, .ref 29), (2, yi i), (3, yi j)]) (st' := [yi 1, yi 3]) (hp' := hl14) rfl ?_
                refine Y_ic_lt (a := 3) (b := 1) (by omega) hk rfl (fun g58 => ?_) (fun g58 => ?_)
                · exfalso; omega
                ·
                  refine E_run hk 5 (j' := 37) (lv' := [(6, yi 3), (5, yi 1), (4, yi 0), (0, .ref 43), (1, .ref 29), (2, yi i), (3, yi j)]) (st' := [yi 3, yi j, yi i, .ref 29, .ref 43]) (hp' := hl14) rfl ?_
                  refine Y_callP hk rfl (as := [.ref 43, .ref 29, yi i, yi j, yi 3]) (rest := []) (v := some (yi (b2 (gat B i (j + 1) < 1000000000 ∧ gat B i j = unl S 0 i j + S 3 + gat B i (j + 1))))) rfl rfl (Nat.le_of_ble_eq_true rfl) (rcv0 (fr14.at (by decide) (fr6.at (by decide) h43))) (Nat.le_of_ble_eq_true rfl) (c_X2_isBestStep3 (i := i) (j := j) (B := B) (fr14.at (by decide) (fr6.at (by decide) h43)) (fr14.at (by decide) (fr6.at (by decide) h44)) (fr14.at (by decide) (fr6.at (by decide) h46)) (fr14.at (by decide) (fr6.at (by decide) h48)) (fr14.at (by decide) (fr6.at (by decide) h50)) (fr14.at (by decide) (fr6.at (by decide) h47)) ⟨hid, (fr14.at (by decide) (fr6.at (by decide) hs_)), (fr14.at (by simp only [List.mem_cons, List.not_mem_nil, or_false, not_or]; exact ⟨(Ne.symm (sok hid (by unfold apart; decide)).2.1), (Ne.symm (sok hid (by unfold apart; decide)).2.1)⟩) (fr6.at (by simp only [List.mem_cons, List.not_mem_nil, or_false, not_or]; exact ⟨(Ne.symm (sok hid (by unfold apart; decide)).2.1), (Ne.symm (sok hid (by unfold apart; decide)).2.1)⟩) hz_)), (fr14.at (by simp only [List.mem_cons, List.not_mem_nil, or_false, not_or]; exact ⟨(Ne.symm (sok hid (by unfold apart; decide)).2.2.2.1), (Ne.symm (sok hid (by unfold apart; decide)).2.2.2.1)⟩) (fr6.at (by simp only [List.mem_cons, List.not_mem_nil, or_false, not_or]; exact ⟨(Ne.symm (sok hid (by unfold apart; decide)).2.2.2.1), (Ne.symm (sok hid (by unfold apart; decide)).2.2.2.1)⟩) ho_)), (fr14.at (by simp only [List.mem_cons, List.not_mem_nil, or_false, not_or]; exact ⟨(Ne.symm (sok hid (by unfold apart; decide)).2.2.1), (Ne.symm (sok hid (by unfold apart; decide)).2.2.1)⟩) (fr6.at (by simp only [List.mem_cons, List.not_mem_nil, or_false, not_or]; exact ⟨(Ne.symm (sok hid (by unfold apart; decide)).2.2.1), (Ne.symm (sok hid (by unfold apart; decide)).2.2.1)⟩) hf_)), (fr14.at (by simp only [List.mem_cons, List.not_mem_nil, or_false, not_or]; exact ⟨(Ne.symm (sok hid (by unfold apart; decide)).2.2.2.2), (Ne.symm (sok hid (by unfold apart; decide)).2.2.2.2)⟩) (fr6.at (by simp only [List.mem_cons, List.not_mem_nil, or_false, not_or]; exact ⟨(Ne.symm (sok hid (by unfold apart; decide)).2.2.2.2), (Ne.symm (sok hid (by unfold apart; decide)).2.2.2.2)⟩) hg_)), ef, eg⟩ hz h0 h1 (by omega) (by omega) (hd := by omega)) ?_
                  refine Y_b_eq hk rfl (fun g59 => ?_) (fun g59 => ?_)
                  ·
                    refine Y_iinc (a := 3) (z := (-1)) hk rfl rfl rfl (by decide) (lv' := [(6, yi 2), (5, yi 1), (4, yi 0), (0, .ref 43), (1, .ref 29), (2, yi i), (3, yi j)]) rfl ?_
                    refine E_run hk 3 (j' := 31) (lv' := [(6, yi 2), (5, yi 1), (4, yi 0), (0, .ref 43), (1, .ref 29), (2, yi i), (3, yi j)]) (st' := [yi 1, yi 2]) (hp' := hl14) rfl ?_
                    refine Y_ic_lt (a := 2) (b := 1) (by omega) hk rfl (fun g60 => ?_) (fun g60 => ?_)
                    · exfalso; omega
                    ·
                      refine E_run hk 5 (j' := 37) (lv' := [(6, yi 2), (5, yi 1), (4, yi 0), (0, .ref 43), (1, .ref 29), (2, yi i), (3, yi j)]) (st' := [yi 2, yi j, yi i, .ref 29, .ref 43]) (hp' := hl14) rfl ?_
                      refine Y_callP hk rfl (as := [.ref 43, .ref 29, yi i, yi j, yi 2]) (rest := []) (v := some (yi (b2 (gat B (i + 1) j < 1000000000 ∧ gat B i j = unl S 0 i j + S 3 + gat B (i + 1) j)))) rfl rfl (Nat.le_of_ble_eq_true rfl) (rcv0 (fr14.at (by decide) (fr6.at (by decide) h43))) (Nat.le_of_ble_eq_true rfl) (c_X2_isBestStep2 (i := i) (j := j) (B := B) (fr14.at (by decide) (fr6.at (by decide) h43)) (fr14.at (by decide) (fr6.at (by decide) h44)) (fr14.at (by decide) (fr6.at (by decide) h46)) (fr14.at (by decide) (fr6.at (by decide) h48)) (fr14.at (by decide) (fr6.at (by decide) h50)) (fr14.at (by decide) (fr6.at (by decide) h47)) ⟨hid, (fr14.at (by decide) (fr6.at (by decide) hs_)), (fr14.at (by simp only [List.mem_cons, List.not_mem_nil, or_false, not_or]; exact ⟨(Ne.symm (sok hid (by unfold apart; decide)).2.1), (Ne.symm (sok hid (by unfold apart; decide)).2.1)⟩) (fr6.at (by simp only [List.mem_cons, List.not_mem_nil, or_false, not_or]; exact ⟨(Ne.symm (sok hid (by unfold apart; decide)).2.1), (Ne.symm (sok hid (by unfold apart; decide)).2.1)⟩) hz_)), (fr14.at (by simp only [List.mem_cons, List.not_mem_nil, or_false, not_or]; exact ⟨(Ne.symm (sok hid (by unfold apart; decide)).2.2.2.1), (Ne.symm (sok hid (by unfold apart; decide)).2.2.2.1)⟩) (fr6.at (by simp only [List.mem_cons, List.not_mem_nil, or_false, not_or]; exact ⟨(Ne.symm (sok hid (by unfold apart; decide)).2.2.2.1), (Ne.symm (sok hid (by unfold apart; decide)).2.2.2.1)⟩) ho_)), (fr14.at (by simp only [List.mem_cons, List.not_mem_nil, or_false, not_or]; exact ⟨(Ne.symm (sok hid (by unfold apart; decide)).2.2.1), (Ne.symm (sok hid (by unfold apart; decide)).2.2.1)⟩) (fr6.at (by simp only [List.mem_cons, List.not_mem_nil, or_false, not_or]; exact ⟨(Ne.symm (sok hid (by unfold apart; decide)).2.2.1), (Ne.symm (sok hid (by unfold apart; decide)).2.2.1)⟩) hf_)), (fr14.at (by simp only [List.mem_cons, List.not_mem_nil, or_false, not_or]; exact ⟨(Ne.symm (sok hid (by unfold apart; decide)).2.2.2.2), (Ne.symm (sok hid (by unfold apart; decide)).2.2.2.2)⟩) (fr6.at (by simp only [List.mem_cons, List.not_mem_nil, or_false, not_or]; exact ⟨(Ne.symm (sok hid (by unfold apart; decide)).2.2.2.2), (Ne.symm (sok hid (by unfold apart; decide)).2.2.2.2)⟩) hg_)), ef, eg⟩ hz h0 h1 (by omega) (by omega) (hd := by omega)) ?_
                      refine Y_b_eq hk rfl (fun g61 => ?_) (fun g61 => ?_)
                      ·
                        refine Y_iinc (a := 2) (z := (-1)) hk rfl rfl rfl (by decide) (lv' := [(6, yi 1), (5, yi 1), (4, yi 0), (0, .ref 43), (1, .ref 29), (2, yi i), (3, yi j)]) rfl ?_
                        refine E_run hk 3 (j' := 31) (lv' := [(6, yi 1), (5, yi 1), (4, yi 0), (0, .ref 43), (1, .ref 29), (2, yi i), (3, yi j)]) (st' := [yi 1, yi 1]) (hp' := hl14) rfl ?_
                        refine Y_ic_lt (a := 1) (b := 1) (by omega) hk rfl (fun g62 => ?_) (fun g62 => ?_)
                        · exfalso; omega
                        ·
                          refine E_run hk 5 (j' := 37) (lv' := [(6, yi 1), (5, yi 1), (4, yi 0), (0, .ref 43), (1, .ref 29), (2, yi i), (3, yi j)]) (st' := [yi 1, yi j, yi i, .ref 29, .ref 43]) (hp' := hl14) rfl ?_
                          refine Y_callP hk rfl (as := [.ref 43, .ref 29, yi i, yi j, yi 1]) (rest := []) (v := some (yi (b2 (gat B (i + 1) (j + 1) < 1000000000 ∧ gat B i j = unl S 0 i j + 0 + gat B (i + 1) (j + 1))))) rfl rfl (Nat.le_of_ble_eq_true rfl) (rcv0 (fr14.at (by decide) (fr6.at (by decide) h43))) (Nat.le_of_ble_eq_true rfl) (c_X2_isBestStep1 (i := i) (j := j) (B := B) (fr14.at (by decide) (fr6.at (by decide) h43)) (fr14.at (by decide) (fr6.at (by decide) h44)) (fr14.at (by decide) (fr6.at (by decide) h46)) (fr14.at (by decide) (fr6.at (by decide) h48)) (fr14.at (by decide) (fr6.at (by decide) h50)) (fr14.at (by decide) (fr6.at (by decide) h47)) ⟨hid, (fr14.at (by decide) (fr6.at (by decide) hs_)), (fr14.at (by simp only [List.mem_cons, List.not_mem_nil, or_false, not_or]; exact ⟨(Ne.symm (sok hid (by unfold apart; decide)).2.1), (Ne.symm (sok hid (by unfold apart; decide)).2.1)⟩) (fr6.at (by simp only [List.mem_cons, List.not_mem_nil, or_false, not_or]; exact ⟨(Ne.symm (sok hid (by unfold apart; decide)).2.1), (Ne.symm (sok hid (by unfold apart; decide)).2.1)⟩) hz_)), (fr14.at (by simp only [List.mem_cons, List.not_mem_nil, or_false, not_or]; exact ⟨(Ne.symm (sok hid (by unfold apart; decide)).2.2.2.1), (Ne.symm (sok hid (by unfold apart; decide)).2.2.2.1)⟩) (fr6.at (by simp only [List.mem_cons, List.not_mem_nil, or_false, not_or]; exact ⟨(Ne.symm (sok hid (by unfold apart; decide)).2.2.2.1), (Ne.symm (sok hid (by unfold apart; decide)).2.2.2.1)⟩) ho_)), (fr14.at (by simp only [List.mem_cons, List.not_mem_nil, or_false, not_or]; exact ⟨(Ne.symm (sok hid (by unfold apart; decide)).2.2.1), (Ne.symm (sok hid (by unfold apart; decide)).2.2.1)⟩) (fr6.at (by simp only [List.mem_cons, List.not_mem_nil, or_false, not_or]; exact ⟨(Ne.symm (sok hid (by unfold apart; decide)).2.2.1), (Ne.symm (sok hid (by unfold apart; decide)).2.2.1)⟩) hf_)), (fr14.at (by simp only [List.mem_cons, List.not_mem_nil, or_false, not_or]; exact ⟨(Ne.symm (sok hid (by unfold apart; decide)).2.2.2.2), (Ne.symm (sok hid (by unfold apart; decide)).2.2.2.2)⟩) (fr6.at (by simp only [List.mem_cons, List.not_mem_nil, or_false, not_or]; exact ⟨(Ne.symm (sok hid (by unfold apart; decide)).2.2.2.2), (Ne.symm (sok hid (by unfold apart; decide)).2.2.2.2)⟩) hg_)), ef, eg⟩ hz h0 h1 (by omega) (by omega) (hd := by omega)) ?_
                          refine Y_b_eq hk rfl (fun g63 => ?_) (fun g63 => ?_)
                          ·
                            refine Y_iinc (a := 1) (z := (-1)) hk rfl rfl rfl (by decide) (lv' := [(6, yi 0), (5, yi 1), (4, yi 0), (0, .ref 43), (1, .ref 29), (2, yi i), (3, yi j)]) rfl ?_
                            refine E_run hk 3 (j' := 31) (lv' := [(6, yi 0), (5, yi 1), (4, yi 0), (0, .ref 43), (1, .ref 29), (2, yi i), (3, yi j)]) (st' := [yi 1, yi 0]) (hp' := hl14) rfl ?_
                            refine Y_ic_lt (a := 0) (b := 1) (by omega) hk rfl (fun g64 => ?_) (fun g64 => ?_)
                            ·
                              refine E_run hk 1 (j' := 56) (lv' := [(6, yi 0), (5, yi 1), (4, yi 0), (0, .ref 43), (1, .ref 29), (2, yi i), (3, yi j)]) (st' := [.ref 43]) (hp' := hl14) rfl ?_
                              refine E_get (v := .ref 48) hk rfl (fr14.at (by decide) (fr6.at (by decide) h43)) rfl ?_
                              refine E_run hk 3 (j' := 60) (lv' := [(6, yi 0), (5, yi 1), (4, yi 0), (0, .ref 43), (1, .ref 29), (2, yi i), (3, yi j)]) (st' := [yi 0, yi j, yi i, .ref 48]) (hp' := hl14) rfl ?_
                              refine Y_call hk rfl (as := [.ref 48, yi i, yi j, yi 0]) (rest := []) (v := none) rfl rfl (Nat.le_of_ble_eq_true rfl) (rcv0 (fr14.at (by decide) (fr6.at (by decide) h48))) (Nat.le_of_ble_eq_true rfl) (c_X0_put (i := i) (j := j) (x := 0) (a := 48) (p := 49) (k := cc2) ⟨by decide, by decide, by decide⟩ (fr14.at (by decide) (fr6.at (by decide) h48)) ec14_49 (by omega)) (fun H65 r66 => ?_)
                              obtain ⟨e_H65, f_H65⟩ := r66
                              refine E_run hk 1 (j' := 62) (lv' := [(6, yi 0), (5, yi 1), (4, yi 0), (0, .ref 43), (1, .ref 29), (2, yi i), (3, yi j)]) (st' := [.ref 43]) (hp' := H65) rfl ?_
                              refine E_get (v := .ref 50) hk rfl (f_H65.at (by decide) (fr14.at (by decide) (fr6.at (by decide) h43))) rfl ?_
                              refine E_run hk 4 (j' := 67) (lv' := [(6, yi 0), (5, yi 1), (4, yi 0), (0, .ref 43), (1, .ref 29), (2, yi i), (3, yi j)]) (st' := [yi 1, yi 1000000, yi j, yi i, .ref 50]) (hp' := H65) rfl ?_
                              refine Y_min (a := 1000000) (b := 1) (by omega) hk rfl (Nat.le_of_ble_eq_true rfl) ?_
                              refine Y_call hk rfl (as := [.ref 50, yi i, yi j, yi (mn 1000000 1)]) (rest := []) (v := none) rfl rfl (Nat.le_of_ble_eq_true rfl) (rcv0 (f_H65.at (by decide) (fr14.at (by decide) (fr6.at (by decide) h50)))) (Nat.le_of_ble_eq_true rfl) (c_X0_put (i := i) (j := j) (x := (mn 1000000 1)) (a := 50) (p := 51) (k := nn2) ⟨by decide, by decide, by decide⟩ (f_H65.at (by decide) (fr14.at (by decide) (fr6.at (by decide) h50))) (f_H65.at (by decide) ec14_51) (by omega)) (fun H67 r68 => ?_)
                              obtain ⟨e_H67, f_H67⟩ := r68
                              refine Y_iinc (a := j) (z := (-1)) hk rfl rfl rfl (by decide) (lv' := [(3, yi (j + (-1))), (6, yi 0), (5, yi 1), (4, yi 0), (0, .ref 43), (1, .ref 29), (2, yi i)]) rfl ?_
                              refine E_run hk 1 (j' := 14) (lv' := [(3, yi (j + (-1))), (6, yi 0), (5, yi 1), (4, yi 0), (0, .ref 43), (1, .ref 29), (2, yi i)]) (st' := []) (hp' := H67) rfl ?_
                              exact Ev_le (xle_s rfl rfl (xle_s rfl rfl (xle_s rfl rfl (xle_s rfl rfl (xle_z _ rfl))))) (ih14 _ (by omega) (j + (-1)) (up cc2 (20 * i + j) 0) (up nn2 (20 * i + j) (mn 1000000 1)) H67 (by omega) (fun x y x1 x2 y1 y2 q => by
        rw [up_ne _ _ (by omega), up_ne _ _ (by omega)]
        exact K2 x y x1 x2 y1 y2 q) (fun y y1 y2 q => by
        by_cases e : y = j
        · rw [e, up_self, up_self]
          rw [e] at q
          obtain ⟨e1, e2⟩ := fin () q
          rw [e1, e2]
          constructor
          · repeat (first | rw [if_pos (by assumption)] | rw [if_neg (by assumption)])
          · repeat (first | rw [if_pos (by assumption)] | rw [if_neg (by assumption)])
            try simp only [Int.add_zero]
        · rw [up_ne _ _ (by omega), up_ne _ _ (by omega)]
          exact K3 y (by omega) y2 q) (f_H67.at (by decide) e_H65) e_H67 (yfr.tr (yfr.tr fr14 f_H65 (fun _ h => h) (by decide)) f_H67 (fun _ h => h) (by decide)) rfl)
                            · exfalso; omega
                          ·
                            have rq1 := rg1 () (by assumption)
                            refine E_run hk 4 (j' := 43) (lv' := [(4, yi 1), (6, yi 1), (5, yi 1), (0, .ref 43), (1, .ref 29), (2, yi i), (3, yi j)]) (st' := [.ref 43, yi 1]) (hp' := hl14) rfl ?_
                            refine E_get (v := .ref 50) hk rfl (fr14.at (by decide) (fr6.at (by decide) h43)) rfl ?_
                            refine E_run hk 2 (j' := 46) (lv' := [(4, yi 1), (6, yi 1), (5, yi 1), (0, .ref 43), (1, .ref 29), (2, yi i), (3, yi j)]) (st' := [yi 1, yi i, .ref 50, yi 1]) (hp' := hl14) rfl ?_
                            refine Y_callP hk rfl (as := [yi i, yi 1]) (rest := [.ref 50, yi 1]) (v := some (yi (i + 1))) rfl rfl (Nat.le_of_ble_eq_true rfl) rfl (Nat.le_of_ble_eq_true rfl) (c_X2_firstAfter1 (i := i)) ?_
                            refine E_run hk 2 (j' := 49) (lv' := [(4, yi 1), (6, yi 1), (5, yi 1), (0, .ref 43), (1, .ref 29), (2, yi i), (3, yi j)]) (st' := [yi 1, yi j, yi (i + 1), .ref 50, yi 1]) (hp' := hl14) rfl ?_
                            refine Y_callP hk rfl (as := [yi j, yi 1]) (rest := [yi (i + 1), .ref 50, yi 1]) (v := some (yi (j + 1))) rfl rfl (Nat.le_of_ble_eq_true rfl) rfl (Nat.le_of_ble_eq_true rfl) (c_X2_secondAfter1 (i := j)) ?_
                            refine Y_callP hk rfl (as := [.ref 50, yi (i + 1), yi (j + 1)]) (rest := [yi 1]) (v := some (yi (gat nn2 (i + 1) (j + 1)))) rfl rfl (Nat.le_of_ble_eq_true rfl) (rcv0 (fr14.at (by decide) (fr6.at (by decide) h50))) (Nat.le_of_ble_eq_true rfl) (c_X0_at (i := (i + 1)) (j := (j + 1)) (a := 50) (p := 51) (k := nn2) ⟨by decide, by decide, by decide⟩ (fr14.at (by decide) (fr6.at (by decide) h50)) ec14_51 (by omega)) ?_
                            refine Y_iadd (a := 1) (b := (gat nn2 (i + 1) (j + 1))) hk rfl ?_
                            refine E_run hk 1 (j' := 53) (lv' := [(5, yi (1 + (gat nn2 (i + 1) (j + 1)))), (4, yi 1), (6, yi 1), (0, .ref 43), (1, .ref 29), (2, yi i), (3, yi j)]) (st' := []) (hp' := hl14) rfl ?_
                            refine Y_iinc (a := 1) (z := (-1)) hk rfl rfl rfl (by decide) (lv' := [(6, yi 0), (5, yi (1 + (gat nn2 (i + 1) (j + 1)))), (4, yi 1), (0, .ref 43), (1, .ref 29), (2, yi i), (3, yi j)]) rfl ?_
                            refine E_run hk 3 (j' := 31) (lv' := [(6, yi 0), (5, yi (1 + (gat nn2 (i + 1) (j + 1)))), (4, yi 1), (0, .ref 43), (1, .ref 29), (2, yi i), (3, yi j)]) (st' := [yi 1, yi 0]) (hp' := hl14) rfl ?_
                            refine Y_ic_lt (a := 0) (b := 1) (by omega) hk rfl (fun g69 => ?_) (fun g69 => ?_)
                            ·
                              refine E_run hk 1 (j' := 56) (lv' := [(6, yi 0), (5, yi (1 + (gat nn2 (i + 1) (j + 1)))), (4, yi 1), (0, .ref 43), (1, .ref 29), (2, yi i), (3, yi j)]) (st' := [.ref 43]) (hp' := hl14) rfl ?_
                              refine E_get (v := .ref 48) hk rfl (fr14.at (by decide) (fr6.at (by decide) h43)) rfl ?_
                              refine E_run hk 3 (j' := 60) (lv' := [(6, yi 0), (5, yi (1 + (gat nn2 (i + 1) (j + 1)))), (4, yi 1), (0, .ref 43), (1, .ref 29), (2, yi i), (3, yi j)]) (st' := [yi 1, yi j, yi i, .ref 48]) (hp' := hl14) rfl ?_
                              refine Y_call hk rfl (as := [.ref 48, yi i, yi j, yi 1]) (rest := []) (v := none) rfl rfl (Nat.le_of_ble_eq_true rfl) (rcv0 (fr14.at (by decide) (fr6.at (by decide) h48))) (Nat.le_of_ble_eq_true rfl) (c_X0_put (i := i) (j := j) (x := 1) (a := 48) (p := 49) (k := cc2) ⟨by decide, by decide, by decide⟩ (fr14.at (by decide) (fr6.at (by decide) h48)) ec14_49 (by omega)) (fun H70 r71 => ?_)
                              obtain ⟨e_H70, f_H70⟩ := r71
                              refine E_run hk 1 (j' := 62) (lv' := [(6, yi 0), (5, yi (1 + (gat nn2 (i + 1) (j + 1)))), (4, yi 1), (0, .ref 43), (1, .ref 29), (2, yi i), (3, yi j)]) (st' := [.ref 43]) (hp' := H70) rfl ?_
                              refine E_get (v := .ref 50) hk rfl (f_H70.at (by decide) (fr14.at (by decide) (fr6.at (by decide) h43))) rfl ?_
                              refine E_run hk 4 (j' := 67) (lv' := [(6, yi 0), (5, yi (1 + (gat nn2 (i + 1) (j + 1)))), (4, yi 1), (0, .ref 43), (1, .ref 29), (2, yi i), (3, yi j)]) (st' := [yi (1 + (gat nn2 (i + 1) (j + 1))), yi 1000000, yi j, yi i, .ref 50]) (hp' := H70) rfl ?_
                              refine Y_min (a := 1000000) (b := (1 + (gat nn2 (i + 1) (j + 1)))) (by omega) hk rfl (Nat.le_of_ble_eq_true rfl) ?_
                              refine Y_call hk rfl (as := [.ref 50, yi i, yi j, yi (mn 1000000 (1 + (gat nn2 (i + 1) (j + 1))))]) (rest := []) (v := none) rfl rfl (Nat.le_of_ble_eq_true rfl) (rcv0 (f_H70.at (by decide) (fr14.at (by decide) (fr6.at (by decide) h50)))) (Nat.le_of_ble_eq_true rfl) (c_X0_put (i := i) (j := j) (x := (mn 1000000 (1 + (gat nn2 (i + 1) (j + 1))))) (a := 50) (p := 51) (k := nn2) ⟨by decide, by decide, by decide⟩ (f_H70.at (by decide) (fr14.at (by decide) (fr6.at (by decide) h50))) (f_H70.at (by decide) ec14_51) (by omega)) (fun H72 r73 => ?_)
                              obtain ⟨e_H72, f_H72⟩ := r73
                              refine Y_iinc (a := j) (z := (-1)) hk rfl rfl rfl (by decide) (lv' := [(3, yi (j + (-1))), (6, yi 0), (5, yi (1 + (gat nn2 (i + 1) (j + 1)))), (4, yi 1), (0, .ref 43), (1, .ref 29), (2, yi i)]) rfl ?_
                              refine E_run hk 1 (j' := 14) (lv' := [(3, yi (j + (-1))), (6, yi 0), (5, yi (1 + (gat nn2 (i + 1) (j + 1)))), (4, yi 1), (0, .ref 43), (1, .ref 29), (2, yi i)]) (st' := []) (hp' := H72) rfl ?_
                              exact Ev_le (xle_s rfl rfl (xle_s rfl rfl (xle_s rfl rfl (xle_s rfl rfl (xle_z _ rfl))))) (ih14 _ (by omega) (j + (-1)) (up cc2 (20 * i + j) 1) (up nn2 (20 * i + j) (mn 1000000 (1 + (gat nn2 (i + 1) (j + 1))))) H72 (by omega) (fun x y x1 x2 y1 y2 q => by
        rw [up_ne _ _ (by omega), up_ne _ _ (by omega)]
        exact K2 x y x1 x2 y1 y2 q) (fun y y1 y2 q => by
        by_cases e : y = j
        · rw [e, up_self, up_self]
          rw [e] at q
          obtain ⟨e1, e2⟩ := fin () q
          rw [e1, e2]
          constructor
          · repeat (first | rw [if_pos (by assumption)] | rw [if_neg (by assumption)])
          · repeat (first | rw [if_pos (by assumption)] | rw [if_neg (by assumption)])
            try simp only [Int.add_zero]
        · rw [up_ne _ _ (by omega), up_ne _ _ (by omega)]
          exact K3 y (by omega) y2 q) (f_H72.at (by decide) e_H70) e_H72 (yfr.tr (yfr.tr fr14 f_H70 (fun _ h => h) (by decide)) f_H72 (fun _ h => h) (by decide)) rfl)
                            · exfalso; omega
                      ·
                        have rq2 := rg2 () (by assumption)
                        refine E_run hk 4 (j' := 43) (lv' := [(4, yi 2), (6, yi 2), (5, yi 1), (0, .ref 43), (1, .ref 29), (2, yi i), (3, yi j)]) (st' := [.ref 43, yi 1]) (hp' := hl14) rfl ?_
                        refine E_get (v := .ref 50) hk rfl (fr14.at (by decide) (fr6.at (by decide) h43)) rfl ?_
                        refine E_run hk 2 (j' := 46) (lv' := [(4, yi 2), (6, yi 2), (5, yi 1), (0, .ref 43), (1, .ref 29), (2, yi i), (3, yi j)]) (st' := [yi 2, yi i, .ref 50, yi 1]) (hp' := hl14) rfl ?_
                        refine Y_callP hk rfl (as := [yi i, yi 2]) (rest := [.ref 50, yi 1]) (v := some (yi (i + 1))) rfl rfl (Nat.le_of_ble_eq_true rfl) rfl (Nat.le_of_ble_eq_true rfl) (c_X2_firstAfter2 (i := i)) ?_
                        refine E_run hk 2 (j' := 49) (lv' := [(4, yi 2), (6, yi 2), (5, yi 1), (0, .ref 43), (1, .ref 29), (2, yi i), (3, yi j)]) (st' := [yi 2, yi j, yi (i + 1), .ref 50, yi 1]) (hp' := hl14) rfl ?_
                        refine Y_callP hk rfl (as := [yi j, yi 2]) (rest := [yi (i + 1), .ref 50, yi 1]) (v := some (yi j)) rfl rfl (Nat.le_of_ble_eq_true rfl) rfl (Nat.le_of_ble_eq_true rfl) (c_X2_secondAfter2 (i := j)) ?_
                        refine Y_callP hk rfl (as := [.ref 50, yi (i + 1), yi j]) (rest := [yi 1]) (v := some (yi (gat nn2 (i + 1) j))) rfl rfl (Nat.le_of_ble_eq_true rfl) (rcv0 (fr14.at (by decide) (fr6.at (by decide) h50))) (Nat.le_of_ble_eq_true rfl) (c_X0_at (i := (i + 1)) (j := j) (a := 50) (p := 51) (k := nn2) ⟨by decide, by decide, by decide⟩ (fr14.at (by decide) (fr6.at (by decide) h50)) ec14_51 (by omega)) ?_
                        refine Y_iadd (a := 1) (b := (gat nn2 (i + 1) j)) hk rfl ?_
                        refine E_run hk 1 (j' := 53) (lv' := [(5, yi (1 + (gat nn2 (i + 1) j))), (4, yi 2), (6, yi 2), (0, .ref 43), (1, .ref 29), (2, yi i), (3, yi j)]) (st' := []) (hp' := hl14) rfl ?_
                        refine Y_iinc (a := 2) (z := (-1)) hk rfl rfl rfl (by decide) (lv' := [(6, yi 1), (5, yi (1 + (gat nn2 (i + 1) j))), (4, yi 2), (0, .ref 43), (1, .ref 29), (2, yi i), (3, yi j)]) rfl ?_
                        refine E_run hk 3 (j' := 31) (lv' := [(6, yi 1), (5, yi (1 + (gat nn2 (i + 1) j))), (4, yi 2), (0, .ref 43), (1, .ref 29), (2, yi i), (3, yi j)]) (st' := [yi 1, yi 1]) (hp' := hl14) rfl ?_
                        refine Y_ic_lt (a := 1) (b := 1) (by omega) hk rfl (fun g74 => ?_) (fun g74 => ?_)
                        · exfalso; omega
                        ·
                          refine E_run hk 5 (j' := 37) (lv' := [(6, yi 1), (5, yi (1 + (gat nn2 (i + 1) j))), (4, yi 2), (0, .ref 43), (1, .ref 29), (2, yi i), (3, yi j)]) (st' := [yi 1, yi j, yi i, .ref 29, .ref 43]) (hp' := hl14) rfl ?_
                          refine Y_callP hk rfl (as := [.ref 43, .ref 29, yi i, yi j, yi 1]) (rest := []) (v := some (yi (b2 (gat B (i + 1) (j + 1) < 1000000000 ∧ gat B i j = unl S 0 i j + 0 + gat B (i + 1) (j + 1))))) rfl rfl (Nat.le_of_ble_eq_true rfl) (rcv0 (fr14.at (by decide) (fr6.at (by decide) h43))) (Nat.le_of_ble_eq_true rfl) (c_X2_isBestStep1 (i := i) (j := j) (B := B) (fr14.at (by decide) (fr6.at (by decide) h43)) (fr14.at (by decide) (fr6.at (by decide) h44)) (fr14.at (by decide) (fr6.at (by decide) h46)) (fr14.at (by decide) (fr6.at (by decide) h48)) (fr14.at (by decide) (fr6.at (by decide) h50)) (fr14.at (by decide) (fr6.at (by decide) h47)) ⟨hid, (fr14.at (by decide) (fr6.at (by decide) hs_)), (fr14.at (by simp only [List.mem_cons, List.not_mem_nil, or_false, not_or]; exact ⟨(Ne.symm (sok hid (by unfold apart; decide)).2.1), (Ne.symm (sok hid (by unfold apart; decide)).2.1)⟩) (fr6.at (by simp only [List.mem_cons, List.not_mem_nil, or_false, not_or]; exact ⟨(Ne.symm (sok hid (by unfold apart; decide)).2.1), (Ne.symm (sok hid (by unfold apart; decide)).2.1)⟩) hz_)), (fr14.at (by simp only [List.mem_cons, List.not_mem_nil, or_false, not_or]; exact ⟨(Ne.symm (sok hid (by unfold apart; decide)).2.2.2.1), (Ne.symm (sok hid (by unfold apart; decide)).2.2.2.1)⟩) (fr6.at (by simp only [List.mem_cons, List.not_mem_nil, or_false, not_or]; exact ⟨(Ne.symm (sok hid (by unfold apart; decide)).2.2.2.1), (Ne.symm (sok hid (by unfold apart; decide)).2.2.2.1)⟩) ho_)), (fr14.at (by simp only [List.mem_cons, List.not_mem_nil, or_false, not_or]; exact ⟨(Ne.symm (sok hid (by unfold apart; decide)).2.2.1), (Ne.symm (sok hid (by unfold apart; decide)).2.2.1)⟩) (fr6.at (by simp only [List.mem_cons, List.not_mem_nil, or_false, not_or]; exact ⟨(Ne.symm (sok hid (by unfold apart; decide)).2.2.1), (Ne.symm (sok hid (by unfold apart; decide)).2.2.1)⟩) hf_)), (fr14.at (by simp only [List.mem_cons, List.not_mem_nil, or_false, not_or]; exact ⟨(Ne.symm (sok hid (by unfold apart; decide)).2.2.2.2), (Ne.symm (sok hid (by unfold apart; decide)).2.2.2.2)⟩) (fr6.at (by simp only [List.mem_cons, List.not_mem_nil, or_false, not_or]; exact ⟨(Ne.symm (sok hid (by unfold apart; decide)).2.2.2.2), (Ne.symm (sok hid (by unfold apart; decide)).2.2.2.2)⟩) hg_)), ef, eg⟩ hz h0 h1 (by omega) (by omega) (hd := by omega)) ?_
                          refine Y_b_eq hk rfl (fun g75 => ?_) (fun g75 => ?_)
                          ·
                            refine Y_iinc (a := 1) (z := (-1)) hk rfl rfl rfl (by decide) (lv' := [(6, yi 0), (5, yi (1 + (gat nn2 (i + 1) j))), (4, yi 2), (0, .ref 43), (1, .ref 29), (2, yi i), (3, yi j)]) rfl ?_
                            refine E_run hk 3 (j' := 31) (lv' := [(6, yi 0), (5, yi (1 + (gat nn2 (i + 1) j))), (4, yi 2), (0, .ref 43), (1, .ref 29), (2, yi i), (3, yi j)]) (st' := [yi 1, yi 0]) (hp' := hl14) rfl ?_
                            refine Y_ic_lt (a := 0) (b := 1) (by omega) hk rfl (fun g76 => ?_) (fun g76 => ?_)
                            ·
                              refine E_run hk 1 (j' := 56) (lv' := [(6, yi 0), (5, yi (1 + (gat nn2 (i + 1) j))), (4, yi 2), (0, .ref 43), (1, .ref 29), (2, yi i), (3, yi j)]) (st' := [.ref 43]) (hp' := hl14) rfl ?_
                              refine E_get (v := .ref 48) hk rfl (fr14.at (by decide) (fr6.at (by decide) h43)) rfl ?_
                              refine E_run hk 3 (j' := 60) (lv' := [(6, yi 0), (5, yi (1 + (gat nn2 (i + 1) j))), (4, yi 2), (0, .ref 43), (1, .ref 29), (2, yi i), (3, yi j)]) (st' := [yi 2, yi j, yi i, .ref 48]) (hp' := hl14) rfl ?_
                              refine Y_call hk rfl (as := [.ref 48, yi i, yi j, yi 2]) (rest := []) (v := none) rfl rfl (Nat.le_of_ble_eq_true rfl) (rcv0 (fr14.at (by decide) (fr6.at (by decide) h48))) (Nat.le_of_ble_eq_true rfl) (c_X0_put (i := i) (j := j) (x := 2) (a := 48) (p := 49) (k := cc2) ⟨by decide, by decide, by decide⟩ (fr14.at (by decide) (fr6.at (by decide) h48)) ec14_49 (by omega)) (fun H77 r78 => ?_)
                              obtain ⟨e_H77, f_H77⟩ := r78
                              refine E_run hk 1 (j' := 62) (lv' := [(6, yi 0), (5, yi (1 + (gat nn2 (i + 1) j))), (4, yi 2), (0, .ref 43), (1, .ref 29), (2, yi i), (3, yi j)]) (st' := [.ref 43]) (hp' := H77) rfl ?_
                              refine E_get (v := .ref 50) hk rfl (f_H77.at (by decide) (fr14.at (by decide) (fr6.at (by decide) h43))) rfl ?_
                              refine E_run hk 4 (j' := 67) (lv' := [(6, yi 0), (5, yi (1 + (gat nn2 (i + 1) j))), (4, yi 2), (0, .ref 43), (1, .ref 29), (2, yi i), (3, yi j)]) (st' := [yi (1 + (gat nn2 (i + 1) j)), yi 1000000, yi j, yi i, .ref 50]) (hp' := H77) rfl ?_
                              refine Y_min (a := 1000000) (b := (1 + (gat nn2 (i + 1) j))) (by omega) hk rfl (Nat.le_of_ble_eq_true rfl) ?_
                              refine Y_call hk rfl (as := [.ref 50, yi i, yi j, yi (mn 1000000 (1 + (gat nn2 (i + 1) j)))]) (rest := []) (v := none) rfl rfl (Nat.le_of_ble_eq_true rfl) (rcv0 (f_H77.at (by decide) (fr14.at (by decide) (fr6.at (by decide) h50)))) (Nat.le_of_ble_eq_true rfl) (c_X0_put (i := i) (j := j) (x := (mn 1000000 (1 + (gat nn2 (i + 1) j)))) (a := 50) (p := 51) (k := nn2) ⟨by decide, by decide, by decide⟩ (f_H77.at (by decide) (fr14.at (by decide) (fr6.at (by decide) h50))) (f_H77.at (by decide) ec14_51) (by omega)) (fun H79 r80 => ?_)
                              obtain ⟨e_H79, f_H79⟩ := r80
                              refine Y_iinc (a := j) (z := (-1)) hk rfl rfl rfl (by decide) (lv' := [(3, yi (j + (-1))), (6, yi 0), (5, yi (1 + (gat nn2 (i + 1) j))), (4, yi 2), (0, .ref 43), (1, .ref 29), (2, yi i)]) rfl ?_
                              refine E_run hk 1 (j' := 14) (lv' := [(3, yi (j + (-1))), (6, yi 0), (5, yi (1 + (gat nn2 (i + 1) j))), (4, yi 2), (0, .ref 43), (1, .ref 29), (2, yi i)]) (st' := []) (hp' := H79) rfl ?_
                              exact Ev_le (xle_s rfl rfl (xle_s rfl rfl (xle_s rfl rfl (xle_s rfl rfl (xle_z _ rfl))))) (ih14 _ (by omega) (j + (-1)) (up cc2 (20 * i + j) 2) (up nn2 (20 * i + j) (mn 1000000 (1 + (gat nn2 (i + 1) j)))) H79 (by omega) (fun x y x1 x2 y1 y2 q => by
        rw [up_ne _ _ (by omega), up_ne _ _ (by omega)]
        exact K2 x y x1 x2 y1 y2 q) (fun y y1 y2 q => by
        by_cases e : y = j
        · rw [e, up_self, up_self]
          rw [e] at q
          obtain ⟨e1, e2⟩ := fin () q
          rw [e1, e2]
          constructor
          · repeat (first | rw [if_pos (by assumption)] | rw [if_neg (by assumption)])
          · repeat (first | rw [if_pos (by assumption)] | rw [if_neg (by assumption)])
            try simp only [Int.add_zero]
        · rw [up_ne _ _ (by omega), up_ne _ _ (by omega)]
          exact K3 y (by omega) y2 q) (f_H79.at (by decide) e_H77) e_H79 (yfr.tr (yfr.tr fr14 f_H77 (fun _ h => h) (by decide)) f_H79 (fun _ h => h) (by decide)) rfl)
                            · exfalso; omega
                          ·
                            have rq1 := rg1 () (by assumption)
                            refine E_run hk 4 (j' := 43) (lv' := [(4, yi 1), (6, yi 1), (5, yi (1 + (gat nn2 (i + 1) j))), (0, .ref 43), (1, .ref 29), (2, yi i), (3, yi j)]) (st' := [.ref 43, yi (1 + (gat nn2 (i + 1) j))]) (hp' := hl14) rfl ?_
                            refine E_get (v := .ref 50) hk rfl (fr14.at (by decide) (fr6.at (by decide) h43)) rfl ?_
                            refine E_run hk 2 (j' := 46) (lv' := [(4, yi 1), (6, yi 1), (5, yi (1 + (gat nn2 (i + 1) j))), (0, .ref 43), (1, .ref 29), (2, yi i), (3, yi j)]) (st' := [yi 1, yi i, .ref 50, yi (1 + (gat nn2 (i + 1) j))]) (hp' := hl14) rfl ?_
                            refine Y_callP hk rfl (as := [yi i, yi 1]) (rest := [.ref 50, yi (1 + (gat nn2 (i + 1) j))]) (v := some (yi (i + 1))) rfl rfl (Nat.le_of_ble_eq_true rfl) rfl (Nat.le_of_ble_eq_true rfl) (c_X2_firstAfter1 (i := i)) ?_
                            refine E_run hk 2 (j' := 49) (lv' := [(4, yi 1), (6, yi 1), (5, yi (1 + (gat nn2 (i + 1) j))), (0, .ref 43), (1, .ref 29), (2, yi i), (3, yi j)]) (st' := [yi 1, yi j, yi (i + 1), .ref 50, yi (1 + (gat nn2 (i + 1) j))]) (hp' := hl14) rfl ?_
                            refine Y_callP hk rfl (as := [yi j, yi 1]) (rest := [yi (i + 1), .ref 50, yi (1 + (gat nn2 (i + 1) j))]) (v := some (yi (j + 1))) rfl rfl (Nat.le_of_ble_eq_true rfl) rfl (Nat.le_of_ble_eq_true rfl) (c_X2_secondAfter1 (i := j)) ?_
                            refine Y_callP hk rfl (as := [.ref 50, yi (i + 1), yi (j + 1)]) (rest := [yi (1 + (gat nn2 (i + 1) j))]) (v := some (yi (gat nn2 (i + 1) (j + 1)))) rfl rfl (Nat.le_of_ble_eq_true rfl) (rcv0 (fr14.at (by decide) (fr6.at (by decide) h50))) (Nat.le_of_ble_eq_true rfl) (c_X0_at (i := (i + 1)) (j := (j + 1)) (a := 50) (p := 51) (k := nn2) ⟨by decide, by decide, by decide⟩ (fr14.at (by decide) (fr6.at (by decide) h50)) ec14_51 (by omega)) ?_
                            refine Y_iadd (a := (1 + (gat nn2 (i + 1) j))) (b := (gat nn2 (i + 1) (j + 1))) hk rfl ?_
                            refine E_run hk 1 (j' := 53) (lv' := [(5, yi ((1 + (gat nn2 (i + 1) j)) + (gat nn2 (i + 1) (j + 1)))), (4, yi 1), (6, yi 1), (0, .ref 43), (1, .ref 29), (2, yi i), (3, yi j)]) (st' := []) (hp' := hl14) rfl ?_
                            refine Y_iinc (a := 1) (z := (-1)) hk rfl rfl rfl (by decide) (lv' := [(6, yi 0), (5, yi ((1 + (gat nn2 (i + 1) j)) + (gat nn2 (i + 1) (j + 1)))), (4, yi 1), (0, .ref 43), (1, .ref 29), (2, yi i), (3, yi j)]) rfl ?_
                            refine E_run hk 3 (j' := 31) (lv' := [(6, yi 0), (5, yi ((1 + (gat nn2 (i + 1) j)) + (gat nn2 (i + 1) (j + 1)))), (4, yi 1), (0, .ref 43), (1, .ref 29), (2, yi i), (3, yi j)]) (st' := [yi 1, yi 0]) (hp' := hl14) rfl ?_
                            refine Y_ic_lt (a := 0) (b := 1) (by omega) hk rfl (fun g81 => ?_) (fun g81 => ?_)
                            ·
                              refine E_run hk 1 (j' := 56) (lv' := [(6, yi 0), (5, yi ((1 + (gat nn2 (i + 1) j)) + (gat nn2 (i + 1) (j + 1)))), (4, yi 1), (0, .ref 43), (1, .ref 29), (2, yi i), (3, yi j)]) (st' := [.ref 43]) (hp' := hl14) rfl ?_
                              refine E_get (v := .ref 48) hk rfl (fr14.at (by decide) (fr6.at (by decide) h43)) rfl ?_
                              refine E_run hk 3 (j' := 60) (lv' := [(6, yi 0), (5, yi ((1 + (gat nn2 (i + 1) j)) + (gat nn2 (i + 1) (j + 1)))), (4, yi 1), (0, .ref 43), (1, .ref 29), (2, yi i), (3, yi j)]) (st' := [yi 1, yi j, yi i, .ref 48]) (hp' := hl14) rfl ?_
                              refine Y_call hk rfl (as := [.ref 48, yi i, yi j, yi 1]) (rest := []) (v := none) rfl rfl (Nat.le_of_ble_eq_true rfl) (rcv0 (fr14.at (by decide) (fr6.at (by decide) h48))) (Nat.le_of_ble_eq_true rfl) (c_X0_put (i := i) (j := j) (x := 1) (a := 48) (p := 49) (k := cc2) ⟨by decide, by decide, by decide⟩ (fr14.at (by decide) (fr6.at (by decide) h48)) ec14_49 (by omega)) (fun H82 r83 => ?_)
                              obtain ⟨e_H82, f_H82⟩ := r83
                              refine E_run hk 1 (j' := 62) (lv' := [(6, yi 0), (5, yi ((1 + (gat nn2 (i + 1) j)) + (gat nn2 (i + 1) (j + 1)))), (4, yi 1), (0, .ref 43), (1, .ref 29), (2, yi i), (3, yi j)]) (st' := [.ref 43]) (hp' := H82) rfl ?_
                              refine E_get (v := .ref 50) hk rfl (f_H82.at (by decide) (fr14.at (by decide) (fr6.at (by decide) h43))) rfl ?_
                              refine E_run hk 4 (j' := 67) (lv' := [(6, yi 0), (5, yi ((1 + (gat nn2 (i + 1) j)) + (gat nn2 (i + 1) (j + 1)))), (4, yi 1), (0, .ref 43), (1, .ref 29), (2, yi i), (3, yi j)]) (st' := [yi ((1 + (gat nn2 (i + 1) j)) + (gat nn2 (i + 1) (j + 1))), yi 1000000, yi j, yi i, .ref 50]) (hp' := H82) rfl ?_
                              refine Y_min (a := 1000000) (b := ((1 + (gat nn2 (i + 1) j)) + (gat nn2 (i + 1) (j + 1)))) (by omega) hk rfl (Nat.le_of_ble_eq_true rfl) ?_
                              refine Y_call hk rfl (as := [.ref 50, yi i, yi j, yi (mn 1000000 ((1 + (gat nn2 (i + 1) j)) + (gat nn2 (i + 1) (j + 1))))]) (rest := []) (v := none) rfl rfl (Nat.le_of_ble_eq_true rfl) (rcv0 (f_H82.at (by decide) (fr14.at (by decide) (fr6.at (by decide) h50)))) (Nat.le_of_ble_eq_true rfl) (c_X0_put (i := i) (j := j) (x := (mn 1000000 ((1 + (gat nn2 (i + 1) j)) + (gat nn2 (i + 1) (j + 1))))) (a := 50) (p := 51) (k := nn2) ⟨by decide, by decide, by decide⟩ (f_H82.at (by decide) (fr14.at (by decide) (fr6.at (by decide) h50))) (f_H82.at (by decide) ec14_51) (by omega)) (fun H84 r85 => ?_)
                              obtain ⟨e_H84, f_H84⟩ := r85
                              refine Y_iinc (a := j) (z := (-1)) hk rfl rfl rfl (by decide) (lv' := [(3, yi (j + (-1))), (6, yi 0), (5, yi ((1 + (gat nn2 (i + 1) j)) + (gat nn2 (i + 1) (j + 1)))), (4, yi 1), (0, .ref 43), (1, .ref 29), (2, yi i)]) rfl ?_
                              refine E_run hk 1 (j' := 14) (lv' := [(3, yi (j + (-1))), (6, yi 0), (5, yi ((1 + (gat nn2 (i + 1) j)) + (gat nn2 (i + 1) (j + 1)))), (4, yi 1), (0, .ref 43), (1, .ref 29), (2, yi i)]) (st' := []) (hp' := H84) rfl ?_
                              exact Ev_le (xle_s rfl rfl (xle_s rfl rfl (xle_s rfl rfl (xle_s rfl rfl (xle_z _ rfl))))) (ih14 _ (by omega) (j + (-1)) (up cc2 (20 * i + j) 1) (up nn2 (20 * i + j) (mn 1000000 ((1 + (gat nn2 (i + 1) j)) + (gat nn2 (i + 1) (j + 1))))) H84 (by omega) (fun x y x1 x2 y1 y2 q => by
        rw [up_ne _ _ (by omega), up_ne _ _ (by omega)]
        exact K2 x y x1 x2 y1 y2 q) (fun y y1 y2 q => by
        by_cases e : y = j
        · rw [e, up_self, up_self]
          rw [e] at q
          obtain ⟨e1, e2⟩ := fin () q
          rw [e1, e2]
          constructor
          · repeat (first | rw [if_pos (by assumption)] | rw [if_neg (by assumption)])
          · repeat (first | rw [if_pos (by assumption)] | rw [if_neg (by assumption)])
            try simp only [Int.add_zero]
        · rw [up_ne _ _ (by omega), up_ne _ _ (by omega)]
          exact K3 y (by omega) y2 q) (f_H84.at (by decide) e_H82) e_H84 (yfr.tr (yfr.tr fr14 f_H82 (fun _ h => h) (by decide)) f_H84 (fun _ h => h) (by decide)) rfl)
                            · exfalso; omega
                  ·
                    have rq3 := rg3 () (by assumption)
                    refine E_run hk 4 (j' := 43) (lv' := [(4, yi 3), (6, yi 3), (5, yi 1), (0, .ref 43), (1, .ref 29), (2, yi i), (3, yi j)]) (st' := [.ref 43, yi 1]) (hp' := hl14) rfl ?_
                    refine E_get (v := .ref 50) hk rfl (fr14.at (by decide) (fr6.at (by decide) h43)) rfl ?_
                    refine E_run hk 2 (j' := 46) (lv' := [(4, yi 3), (6, yi 3), (5, yi 1), (0, .ref 43), (1, .ref 29), (2, yi i), (3, yi j)]) (st' := [yi 3, yi i, .ref 50, yi 1]) (hp' := hl14) rfl ?_
                    refine Y_callP hk rfl (as := [yi i, yi 3]) (rest := [.ref 50, yi 1]) (v := some (yi i)) rfl rfl (Nat.le_of_ble_eq_true rfl) rfl (Nat.le_of_ble_eq_true rfl) (c_X2_firstAfter3 (i := i)) ?_
                    refine E_run hk 2 (j' := 49) (lv' := [(4, yi 3), (6, yi 3), (5, yi 1), (0, .ref 43), (1, .ref 29), (2, yi i), (3, yi j)]) (st' := [yi 3, yi j, yi i, .ref 50, yi 1]) (hp' := hl14) rfl ?_
                    refine Y_callP hk rfl (as := [yi j, yi 3]) (rest := [yi i, .ref 50, yi 1]) (v := some (yi (j + 1))) rfl rfl (Nat.le_of_ble_eq_true rfl) rfl (Nat.le_of_ble_eq_true rfl) (c_X2_secondAfter3 (i := j)) ?_
                    refine Y_callP hk rfl (as := [.ref 50, yi i, yi (j + 1)]) (rest := [yi 1]) (v := some (yi (gat nn2 i (j + 1)))) rfl rfl (Nat.le_of_ble_eq_true rfl) (rcv0 (fr14.at (by decide) (fr6.at (by decide) h50))) (Nat.le_of_ble_eq_true rfl) (c_X0_at (i := i) (j := (j + 1)) (a := 50) (p := 51) (k := nn2) ⟨by decide, by decide, by decide⟩ (fr14.at (by decide) (fr6.at (by decide) h50)) ec14_51 (by omega)) ?_
                    refine Y_iadd (a := 1) (b := (gat nn2 i (j + 1))) hk rfl ?_
                    refine E_run hk 1 (j' := 53) (lv' := [(5, yi (1 + (gat nn2 i (j + 1)))), (4, yi 3), (6, yi 3), (0, .ref 43), (1, .ref 29), (2, yi i), (3, yi j)]) (st' := []) (hp' := hl14) rfl ?_
                    refine Y_iinc (a := 3) (z := (-1)) hk rfl rfl rfl (by decide) (lv' := [(6, yi 2), (5, yi (1 + (gat nn2 i (j + 1)))), (4, yi 3), (0, .ref 43), (1, .ref 29), (2, yi i), (3, yi j)]) rfl ?_
                    refine E_run hk 3 (j' := 31) (lv' := [(6, yi 2), (5, yi (1 + (gat nn2 i (j + 1)))), (4, yi 3), (0, .ref 43), (1, .ref 29), (2, yi i), (3, yi j)]) (st' := [yi 1, yi 2]) (hp' := hl14) rfl ?_
                    refine Y_ic_lt (a := 2) (b := 1) (by omega) hk rfl (fun g86 => ?_) (fun g86 => ?_)
                    · exfalso; omega
                    ·
                      refine E_run hk 5 (j' := 37) (lv' := [(6, yi 2), (5, yi (1 + (gat nn2 i (j + 1)))), (4, yi 3), (0, .ref 43), (1, .ref 29), (2, yi i), (3, yi j)]) (st' := [yi 2, yi j, yi i, .ref 29, .ref 43]) (hp' := hl14) rfl ?_
                      refine Y_callP hk rfl (as := [.ref 43, .ref 29, yi i, yi j, yi 2]) (rest := []) (v := some (yi (b2 (gat B (i + 1) j < 1000000000 ∧ gat B i j = unl S 0 i j + S 3 + gat B (i + 1) j)))) rfl rfl (Nat.le_of_ble_eq_true rfl) (rcv0 (fr14.at (by decide) (fr6.at (by decide) h43))) (Nat.le_of_ble_eq_true rfl) (c_X2_isBestStep2 (i := i) (j := j) (B := B) (fr14.at (by decide) (fr6.at (by decide) h43)) (fr14.at (by decide) (fr6.at (by decide) h44)) (fr14.at (by decide) (fr6.at (by decide) h46)) (fr14.at (by decide) (fr6.at (by decide) h48)) (fr14.at (by decide) (fr6.at (by decide) h50)) (fr14.at (by decide) (fr6.at (by decide) h47)) ⟨hid, (fr14.at (by decide) (fr6.at (by decide) hs_)), (fr14.at (by simp only [List.mem_cons, List.not_mem_nil, or_false, not_or]; exact ⟨(Ne.symm (sok hid (by unfold apart; decide)).2.1), (Ne.symm (sok hid (by unfold apart; decide)).2.1)⟩) (fr6.at (by simp only [List.mem_cons, List.not_mem_nil, or_false, not_or]; exact ⟨(Ne.symm (sok hid (by unfold apart; decide)).2.1), (Ne.symm (sok hid (by unfold apart; decide)).2.1)⟩) hz_)), (fr14.at (by simp only [List.mem_cons, List.not_mem_nil, or_false, not_or]; exact ⟨(Ne.symm (sok hid (by unfold apart; decide)).2.2.2.1), (Ne.symm (sok hid (by unfold apart; decide)).2.2.2.1)⟩) (fr6.at (by simp only [List.mem_cons, List.not_mem_nil, or_false, not_or]; exact ⟨(Ne.symm (sok hid (by unfold apart; decide)).2.2.2.1), (Ne.symm (sok hid (by unfold apart; decide)).2.2.2.1)⟩) ho_)), (fr14.at (by simp only [List.mem_cons, List.not_mem_nil, or_false, not_or]; exact ⟨(Ne.symm (sok hid (by unfold apart; decide)).2.2.1), (Ne.symm (sok hid (by unfold apart; decide)).2.2.1)⟩) (fr6.at (by simp only [List.mem_cons, List.not_mem_nil, or_false, not_or]; exact ⟨(Ne.symm (sok hid (by unfold apart; decide)).2.2.1), (Ne.symm (sok hid (by unfold apart; decide)).2.2.1)⟩) hf_)), (fr14.at (by simp only [List.mem_cons, List.not_mem_nil, or_false, not_or]; exact ⟨(Ne.symm (sok hid (by unfold apart; decide)).2.2.2.2), (Ne.symm (sok hid (by unfold apart; decide)).2.2.2.2)⟩) (fr6.at (by simp only [List.mem_cons, List.not_mem_nil, or_false, not_or]; exact ⟨(Ne.symm (sok hid (by unfold apart; decide)).2.2.2.2), (Ne.symm (sok hid (by unfold apart; decide)).2.2.2.2)⟩) hg_)), ef, eg⟩ hz h0 h1 (by omega) (by omega) (hd := by omega)) ?_
                      refine Y_b_eq hk rfl (fun g87 => ?_) (fun g87 => ?_)
                      ·
                        refine Y_iinc (a := 2) (z := (-1)) hk rfl rfl rfl (by decide) (lv' := [(6, yi 1), (5, yi (1 + (gat nn2 i (j + 1)))), (4, yi 3), (0, .ref 43), (1, .ref 29), (2, yi i), (3, yi j)]) rfl ?_
                        refine E_run hk 3 (j' := 31) (lv' := [(6, yi 1), (5, yi (1 + (gat nn2 i (j + 1)))), (4, yi 3), (0, .ref 43), (1, .ref 29), (2, yi i), (3, yi j)]) (st' := [yi 1, yi 1]) (hp' := hl14) rfl ?_
                        refine Y_ic_lt (a := 1) (b := 1) (by omega) hk rfl (fun g88 => ?_) (fun g88 => ?_)
                        · exfalso; omega
                        ·
                          refine E_run hk 5 (j' := 37) (lv' := [(6, yi 1), (5, yi (1 + (gat nn2 i (j + 1)))), (4, yi 3), (0, .ref 43), (1, .ref 29), (2, yi i), (3, yi j)]) (st' := [yi 1, yi j, yi i, .ref 29, .ref 43]) (hp' := hl14) rfl ?_
                          refine Y_callP hk rfl (as := [.ref 43, .ref 29, yi i, yi j, yi 1]) (rest := []) (v := some (yi (b2 (gat B (i + 1) (j + 1) < 1000000000 ∧ gat B i j = unl S 0 i j + 0 + gat B (i + 1) (j + 1))))) rfl rfl (Nat.le_of_ble_eq_true rfl) (rcv0 (fr14.at (by decide) (fr6.at (by decide) h43))) (Nat.le_of_ble_eq_true rfl) (c_X2_isBestStep1 (i := i) (j := j) (B := B) (fr14.at (by decide) (fr6.at (by decide) h43)) (fr14.at (by decide) (fr6.at (by decide) h44)) (fr14.at (by decide) (fr6.at (by decide) h46)) (fr14.at (by decide) (fr6.at (by decide) h48)) (fr14.at (by decide) (fr6.at (by decide) h50)) (fr14.at (by decide) (fr6.at (by decide) h47)) ⟨hid, (fr14.at (by decide) (fr6.at (by decide) hs_)), (fr14.at (by simp only [List.mem_cons, List.not_mem_nil, or_false, not_or]; exact ⟨(Ne.symm (sok hid (by unfold apart; decide)).2.1), (Ne.symm (sok hid (by unfold apart; decide)).2.1)⟩) (fr6.at (by simp only [List.mem_cons, List.not_mem_nil, or_false, not_or]; exact ⟨(Ne.symm (sok hid (by unfold apart; decide)).2.1), (Ne.symm (sok hid (by unfold apart; decide)).2.1)⟩) hz_)), (fr14.at (by simp only [List.mem_cons, List.not_mem_nil, or_false, not_or]; exact ⟨(Ne.symm (sok hid (by unfold apart; decide)).2.2.2.1), (Ne.symm (sok hid (by unfold apart; decide)).2.2.2.1)⟩) (fr6.at (by simp only [List.mem_cons, List.not_mem_nil, or_false, not_or]; exact ⟨(Ne.symm (sok hid (by unfold apart; decide)).2.2.2.1), (Ne.symm (sok hid (by unfold apart; decide)).2.2.2.1)⟩) ho_)), (fr14.at (by simp only [List.mem_cons, List.not_mem_nil, or_false, not_or]; exact ⟨(Ne.symm (sok hid (by unfold apart; decide)).2.2.1), (Ne.symm (sok hid (by unfold apart; decide)).2.2.1)⟩) (fr6.at (by simp only [List.mem_cons, List.not_mem_nil, or_false, not_or]; exact ⟨(Ne.symm (sok hid (by unfold apart; decide)).2.2.1), (Ne.symm (sok hid (by unfold apart; decide)).2.2.1)⟩) hf_)), (fr14.at (by simp only [List.mem_cons, List.not_mem_nil, or_false, not_or]; exact ⟨(Ne.symm (sok hid (by unfold apart; decide)).2.2.2.2), (Ne.symm (sok hid (by unfold apart; decide)).2.2.2.2)⟩) (fr6.at (by simp only [List.mem_cons, List.not_mem_nil, or_false, not_or]; exact ⟨(Ne.symm (sok hid (by unfold apart; decide)).2.2.2.2), (Ne.symm (sok hid (by unfold apart; decide)).2.2.2.2)⟩) hg_)), ef, eg⟩ hz h0 h1 (by omega) (by omega) (hd := by omega)) ?_
                          refine Y_b_eq hk rfl (fun g89 => ?_) (fun g89 => ?_)
                          ·
                            refine Y_iinc (a := 1) (z := (-1)) hk rfl rfl rfl (by decide) (lv' := [(6, yi 0), (5, yi (1 + (gat nn2 i (j + 1)))), (4, yi 3), (0, .ref 43), (1, .ref 29), (2, yi i), (3, yi j)]) rfl ?_
                            refine E_run hk 3 (j' := 31) (lv' := [(6, yi 0), (5, yi (1 + (gat nn2 i (j + 1)))), (4, yi 3), (0, .ref 43), (1, .ref 29), (2, yi i), (3, yi j)]) (st' := [yi 1, yi 0]) (hp' := hl14) rfl ?_
                            refine Y_ic_lt (a := 0) (b := 1) (by omega) hk rfl (fun g90 => ?_) (fun g90 => ?_)
                            ·
                              refine E_run hk 1 (j' := 56) (lv' := [(6, yi 0), (5, yi (1 + (gat nn2 i (j + 1)))), (4, yi 3), (0, .ref 43), (1, .ref 29), (2, yi i), (3, yi j)]) (st' := [.ref 43]) (hp' := hl14) rfl ?_
                              refine E_get (v := .ref 48) hk rfl (fr14.at (by decide) (fr6.at (by decide) h43)) rfl ?_
                              refine E_run hk 3 (j' := 60) (lv' := [(6, yi 0), (5, yi (1 + (gat nn2 i (j + 1)))), (4, yi 3), (0, .ref 43), (1, .ref 29), (2, yi i), (3, yi j)]) (st' := [yi 3, yi j, yi i, .ref 48]) (hp' := hl14) rfl ?_
                              refine Y_call hk rfl (as := [.ref 48, yi i, yi j, yi 3]) (rest := []) (v := none) rfl rfl (Nat.le_of_ble_eq_true rfl) (rcv0 (fr14.at (by decide) (fr6.at (by decide) h48))) (Nat.le_of_ble_eq_true rfl) (c_X0_put (i := i) (j := j) (x := 3) (a := 48) (p := 49) (k := cc2) ⟨by decide, by decide, by decide⟩ (fr14.at (by decide) (fr6.at (by decide) h48)) ec14_49 (by omega)) (fun H91 r92 => ?_)
                              obtain ⟨e_H91, f_H91⟩ := r92
                              refine E_run hk 1 (j' := 62) (lv' := [(6, yi 0), (5, yi (1 + (gat nn2 i (j + 1)))), (4, yi 3), (0, .ref 43), (1, .ref 29), (2, yi i), (3, yi j)]) (st' := [.ref 43]) (hp' := H91) rfl ?_
                              refine E_get (v := .ref 50) hk rfl (f_H91.at (by decide) (fr14.at (by decide) (fr6.at (by decide) h43))) rfl ?_
                              refine E_run hk 4 (j' := 67) (lv' := [(6, yi 0), (5, yi (1 + (gat nn2 i (j + 1)))), (4, yi 3), (0, .ref 43), (1, .ref 29), (2, yi i), (3, yi j)]) (st' := [yi (1 + (gat nn2 i (j + 1))), yi 1000000, yi j, yi i, .ref 50]) (hp' := H91) rfl ?_
                              refine Y_min (a := 1000000) (b := (1 + (gat nn2 i (j + 1)))) (by omega) hk rfl (Nat.le_of_ble_eq_true rfl) ?_
                              refine Y_call hk rfl (as := [.ref 50, yi i, yi j, yi (mn 1000000 (1 + (gat nn2 i (j + 1))))]) (rest := []) (v := none) rfl rfl (Nat.le_of_ble_eq_true rfl) (rcv0 (f_H91.at (by decide) (fr14.at (by decide) (fr6.at (by decide) h50)))) (Nat.le_of_ble_eq_true rfl) (c_X0_put (i := i) (j := j) (x := (mn 1000000 (1 + (gat nn2 i (j + 1))))) (a := 50) (p := 51) (k := nn2) ⟨by decide, by decide, by decide⟩ (f_H91.at (by decide) (fr14.at (by decide) (fr6.at (by decide) h50))) (f_H91.at (by decide) ec14_51) (by omega)) (fun H93 r94 => ?_)
                              obtain ⟨e_H93, f_H93⟩ := r94
                              refine Y_iinc (a := j) (z := (-1)) hk rfl rfl rfl (by decide) (lv' := [(3, yi (j + (-1))), (6, yi 0), (5, yi (1 + (gat nn2 i (j + 1)))), (4, yi 3), (0, .ref 43), (1, .ref 29), (2, yi i)]) rfl ?_
                              refine E_run hk 1 (j' := 14) (lv' := [(3, yi (j + (-1))), (6, yi 0), (5, yi (1 + (gat nn2 i (j + 1)))), (4, yi 3), (0, .ref 43), (1, .ref 29), (2, yi i)]) (st' := []) (hp' := H93) rfl ?_
                              exact Ev_le (xle_s rfl rfl (xle_s rfl rfl (xle_s rfl rfl (xle_s rfl rfl (xle_z _ rfl))))) (ih14 _ (by omega) (j + (-1)) (up cc2 (20 * i + j) 3) (up nn2 (20 * i + j) (mn 1000000 (1 + (gat nn2 i (j + 1))))) H93 (by omega) (fun x y x1 x2 y1 y2 q => by
        rw [up_ne _ _ (by omega), up_ne _ _ (by omega)]
        exact K2 x y x1 x2 y1 y2 q) (fun y y1 y2 q => by
        by_cases e : y = j
        · rw [e, up_self, up_self]
          rw [e] at q
          obtain ⟨e1, e2⟩ := fin () q
          rw [e1, e2]
          constructor
          · repeat (first | rw [if_pos (by assumption)] | rw [if_neg (by assumption)])
          · repeat (first | rw [if_pos (by assumption)] | rw [if_neg (by assumption)])
            try simp only [Int.add_zero]
        · rw [up_ne _ _ (by omega), up_ne _ _ (by omega)]
          exact K3 y (by omega) y2 q) (f_H93.at (by decide) e_H91) e_H93 (yfr.tr (yfr.tr fr14 f_H91 (fun _ h => h) (by decide)) f_H93 (fun _ h => h) (by decide)) rfl)
                            · exfalso; omega
                          ·
                            have rq1 := rg1 () (by assumption)
                            refine E_run hk 4 (j' := 43) (lv' := [(4, yi 1), (6, yi 1), (5, yi (1 + (gat nn2 i (j + 1)))), (0, .ref 43), (1, .ref 29), (2, yi i), (3, yi j)]) (st' := [.ref 43, yi (1 + (gat nn2 i (j + 1)))]) (hp' := hl14) rfl ?_
                            refine E_get (v := .ref 50) hk rfl (fr14.at (by decide) (fr6.at (by decide) h43)) rfl ?_
                            refine E_run hk 2 (j' := 46) (lv' := [(4, yi 1), (6, yi 1), (5, yi (1 + (gat nn2 i (j + 1)))), (0, .ref 43), (1, .ref 29), (2, yi i), (3, yi j)]) (st' := [yi 1, yi i, .ref 50, yi (1 + (gat nn2 i (j + 1)))]) (hp' := hl14) rfl ?_
                            refine Y_callP hk rfl (as := [yi i, yi 1]) (rest := [.ref 50, yi (1 + (gat nn2 i (j + 1)))]) (v := some (yi (i + 1))) rfl rfl (Nat.le_of_ble_eq_true rfl) rfl (Nat.le_of_ble_eq_true rfl) (c_X2_firstAfter1 (i := i)) ?_
                            refine E_run hk 2 (j' := 49) (lv' := [(4, yi 1), (6, yi 1), (5, yi (1 + (gat nn2 i (j + 1)))), (0, .ref 43), (1, .ref 29), (2, yi i), (3, yi j)]) (st' := [yi 1, yi j, yi (i + 1), .ref 50, yi (1 + (gat nn2 i (j + 1)))]) (hp' := hl14) rfl ?_
                            refine Y_callP hk rfl (as := [yi j, yi 1]) (rest := [yi (i + 1), .ref 50, yi (1 + (gat nn2 i (j + 1)))]) (v := some (yi (j + 1))) rfl rfl (Nat.le_of_ble_eq_true rfl) rfl (Nat.le_of_ble_eq_true rfl) (c_X2_secondAfter1 (i := j)) ?_
                            refine Y_callP hk rfl (as := [.ref 50, yi (i + 1), yi (j + 1)]) (rest := [yi (1 + (gat nn2 i (j + 1)))]) (v := some (yi (gat nn2 (i + 1) (j + 1)))) rfl rfl (Nat.le_of_ble_eq_true rfl) (rcv0 (fr14.at (by decide) (fr6.at (by decide) h50))) (Nat.le_of_ble_eq_true rfl) (c_X0_at (i := (i + 1)) (j := (j + 1)) (a := 50) (p := 51) (k := nn2) ⟨by decide, by decide, by decide⟩ (fr14.at (by decide) (fr6.at (by decide) h50)) ec14_51 (by omega)) ?_
                            refine Y_iadd (a := (1 + (gat nn2 i (j + 1)))) (b := (gat nn2 (i + 1) (j + 1))) hk rfl ?_
                            refine E_run hk 1 (j' := 53) (lv' := [(5, yi ((1 + (gat nn2 i (j + 1))) + (gat nn2 (i + 1) (j + 1)))), (4, yi 1), (6, yi 1), (0, .ref 43), (1, .ref 29), (2, yi i), (3, yi j)]) (st' := []) (hp' := hl14) rfl ?_
                            refine Y_iinc (a := 1) (z := (-1)) hk rfl rfl rfl (by decide) (lv' := [(6, yi 0), (5, yi ((1 + (gat nn2 i (j + 1))) + (gat nn2 (i + 1) (j + 1)))), (4, yi 1), (0, .ref 43), (1, .ref 29), (2, yi i), (3, yi j)]) rfl ?_
                            refine E_run hk 3 (j' := 31) (lv' := [(6, yi 0), (5, yi ((1 + (gat nn2 i (j + 1))) + (gat nn2 (i + 1) (j + 1)))), (4, yi 1), (0, .ref 43), (1, .ref 29), (2, yi i), (3, yi j)]) (st' := [yi 1, yi 0]) (hp' := hl14) rfl ?_
                            refine Y_ic_lt (a := 0) (b := 1) (by omega) hk rfl (fun g95 => ?_) (fun g95 => ?_)
                            ·
                              refine E_run hk 1 (j' := 56) (lv' := [(6, yi 0), (5, yi ((1 + (gat nn2 i (j + 1))) + (gat nn2 (i + 1) (j + 1)))), (4, yi 1), (0, .ref 43), (1, .ref 29), (2, yi i), (3, yi j)]) (st' := [.ref 43]) (hp' := hl14) rfl ?_
                              refine E_get (v := .ref 48) hk rfl (fr14.at (by decide) (fr6.at (by decide) h43)) rfl ?_
                              refine E_run hk 3 (j' := 60) (lv' := [(6, yi 0), (5, yi ((1 + (gat nn2 i (j + 1))) + (gat nn2 (i + 1) (j + 1)))), (4, yi 1), (0, .ref 43), (1, .ref 29), (2, yi i), (3, yi j)]) (st' := [yi 1, yi j, yi i, .ref 48]) (hp' := hl14) rfl ?_
                              refine Y_call hk rfl (as := [.ref 48, yi i, yi j, yi 1]) (rest := []) (v := none) rfl rfl (Nat.le_of_ble_eq_true rfl) (rcv0 (fr14.at (by decide) (fr6.at (by decide) h48))) (Nat.le_of_ble_eq_true rfl) (c_X0_put (i := i) (j := j) (x := 1) (a := 48) (p := 49) (k := cc2) ⟨by decide, by decide, by decide⟩ (fr14.at (by decide) (fr6.at (by decide) h48)) ec14_49 (by omega)) (fun H96 r97 => ?_)
                              obtain ⟨e_H96, f_H96⟩ := r97
                              refine E_run hk 1 (j' := 62) (lv' := [(6, yi 0), (5, yi ((1 + (gat nn2 i (j + 1))) + (gat nn2 (i + 1) (j + 1)))), (4, yi 1), (0, .ref 43), (1, .ref 29), (2, yi i), (3, yi j)]) (st' := [.ref 43]) (hp' := H96) rfl ?_
                              refine E_get (v := .ref 50) hk rfl (f_H96.at (by decide) (fr14.at (by decide) (fr6.at (by decide) h43))) rfl ?_
                              refine E_run hk 4 (j' := 67) (lv' := [(6, yi 0), (5, yi ((1 + (gat nn2 i (j + 1))) + (gat nn2 (i + 1) (j + 1)))), (4, yi 1), (0, .ref 43), (1, .ref 29), (2, yi i), (3, yi j)]) (st' := [yi ((1 + (gat nn2 i (j + 1))) + (gat nn2 (i + 1) (j + 1))), yi 1000000, yi j, yi i, .ref 50]) (hp' := H96) rfl ?_
                              refine Y_min (a := 1000000) (b := ((1 + (gat nn2 i (j + 1))) + (gat nn2 (i + 1) (j + 1)))) (by omega) hk rfl (Nat.le_of_ble_eq_true rfl) ?_
                              refine Y_call hk rfl (as := [.ref 50, yi i, yi j, yi (mn 1000000 ((1 + (gat nn2 i (j + 1))) + (gat nn2 (i + 1) (j + 1))))]) (rest := []) (v := none) rfl rfl (Nat.le_of_ble_eq_true rfl) (rcv0 (f_H96.at (by decide) (fr14.at (by decide) (fr6.at (by decide) h50)))) (Nat.le_of_ble_eq_true rfl) (c_X0_put (i := i) (j := j) (x := (mn 1000000 ((1 + (gat nn2 i (j + 1))) + (gat nn2 (i + 1) (j + 1))))) (a := 50) (p := 51) (k := nn2) ⟨by decide, by decide, by decide⟩ (f_H96.at (by decide) (fr14.at (by decide) (fr6.at (by decide) h50))) (f_H96.at (by decide) ec14_51) (by omega)) (fun H98 r99 => ?_)
                              obtain ⟨e_H98, f_H98⟩ := r99
                              refine Y_iinc (a := j) (z := (-1)) hk rfl rfl rfl (by decide) (lv' := [(3, yi (j + (-1))), (6, yi 0), (5, yi ((1 + (gat nn2 i (j + 1))) + (gat nn2 (i + 1) (j + 1)))), (4, yi 1), (0, .ref 43), (1, .ref 29), (2, yi i)]) rfl ?_
                              refine E_run hk 1 (j' := 14) (lv' := [(3, yi (j + (-1))), (6, yi 0), (5, yi ((1 + (gat nn2 i (j + 1))) + (gat nn2 (i + 1) (j + 1)))), (4, yi 1), (0, .ref 43), (1, .ref 29), (2, yi i)]) (st' := []) (hp' := H98) rfl ?_
                              exact Ev_le (xle_s rfl rfl (xle_s rfl rfl (xle_s rfl rfl (xle_s rfl rfl (xle_z _ rfl))))) (ih14 _ (by omega) (j + (-1)) (up cc2 (20 * i + j) 1) (up nn2 (20 * i + j) (mn 1000000 ((1 + (gat nn2 i (j + 1))) + (gat nn2 (i + 1) (j + 1))))) H98 (by omega) (fun x y x1 x2 y1 y2 q => by
        rw [up_ne _ _ (by omega), up_ne _ _ (by omega)]
        exact K2 x y x1 x2 y1 y2 q) (fun y y1 y2 q => by
        by_cases e : y = j
        · rw [e, up_self, up_self]
          rw [e] at q
          obtain ⟨e1, e2⟩ := fin () q
          rw [e1, e2]
          constructor
          · repeat (first | rw [if_pos (by assumption)] | rw [if_neg (by assumption)])
          · repeat (first | rw [if_pos (by assumption)] | rw [if_neg (by assumption)])
            try simp only [Int.add_zero]
        · rw [up_ne _ _ (by omega), up_ne _ _ (by omega)]
          exact K3 y (by omega) y2 q) (f_H98.at (by decide) e_H96) e_H98 (yfr.tr (yfr.tr fr14 f_H96 (fun _ h => h) (by decide)) f_H98 (fun _ h => h) (by decide)) rfl)
                            · exfalso; omega
                      ·
                        have rq2 := rg2 () (by assumption)
                        refine E_run hk 4 (j' := 43) (lv' := [(4, yi 2), (6, yi 2), (5, yi (1 + (gat nn2 i (j + 1)))), (0, .ref 43), (1, .ref 29), (2, yi i), (3, yi j)]) (st' := [.ref 43, yi (1 + (gat nn2 i (j + 1)))]) (hp' := hl14) rfl ?_
                        refine E_get (v := .ref 50) hk rfl (fr14.at (by decide) (fr6.at (by decide) h43)) rfl ?_
                        refine E_run hk 2 (j' := 46) (lv' := [(4, yi 2), (6, yi 2), (5, yi (1 + (gat nn2 i (j + 1)))), (0, .ref 43), (1, .ref 29), (2, yi i), (3, yi j)]) (st' := [yi 2, yi i, .ref 50, yi (1 + (gat nn2 i (j + 1)))]) (hp' := hl14) rfl ?_
                        refine Y_callP hk rfl (as := [yi i, yi 2]) (rest := [.ref 50, yi (1 + (gat nn2 i (j + 1)))]) (v := some (yi (i + 1))) rfl rfl (Nat.le_of_ble_eq_true rfl) rfl (Nat.le_of_ble_eq_true rfl) (c_X2_firstAfter2 (i := i)) ?_
                        refine E_run hk 2 (j' := 49) (lv' := [(4, yi 2), (6, yi 2), (5, yi (1 + (gat nn2 i (j + 1)))), (0, .ref 43), (1, .ref 29), (2, yi i), (3, yi j)]) (st' := [yi 2, yi j, yi (i + 1), .ref 50, yi (1 + (gat nn2 i (j + 1)))]) (hp' := hl14) rfl ?_
                        refine Y_callP hk rfl (as := [yi j, yi 2]) (rest := [yi (i + 1), .ref 50, yi (1 + (gat nn2 i (j + 1)))]) (v := some (yi j)) rfl rfl (Nat.le_of_ble_eq_true rfl) rfl (Nat.le_of_ble_eq_true rfl) (c_X2_secondAfter2 (i := j)) ?_
                        refine Y_callP hk rfl (as := [.ref 50, yi (i + 1), yi j]) (rest := [yi (1 + (gat nn2 i (j + 1)))]) (v := some (yi (gat nn2 (i + 1) j))) rfl rfl (Nat.le_of_ble_eq_true rfl) (rcv0 (fr14.at (by decide) (fr6.at (by decide) h50))) (Nat.le_of_ble_eq_true rfl) (c_X0_at (i := (i + 1)) (j := j) (a := 50) (p := 51) (k := nn2) ⟨by decide, by decide, by decide⟩ (fr14.at (by decide) (fr6.at (by decide) h50)) ec14_51 (by omega)) ?_
                        refine Y_iadd (a := (1 + (gat nn2 i (j + 1)))) (b := (gat nn2 (i + 1) j)) hk rfl ?_
                        refine E_run hk 1 (j' := 53) (lv' := [(5, yi ((1 + (gat nn2 i (j + 1))) + (gat nn2 (i + 1) j))), (4, yi 2), (6, yi 2), (0, .ref 43), (1, .ref 29), (2, yi i), (3, yi j)]) (st' := []) (hp' := hl14) rfl ?_
                        refine Y_iinc (a := 2) (z := (-1)) hk rfl rfl rfl (by decide) (lv' := [(6, yi 1), (5, yi ((1 + (gat nn2 i (j + 1))) + (gat nn2 (i + 1) j))), (4, yi 2), (0, .ref 43), (1, .ref 29), (2, yi i), (3, yi j)]) rfl ?_
                        refine E_run hk 3 (j' := 31) (lv' := [(6, yi 1), (5, yi ((1 + (gat nn2 i (j + 1))) + (gat nn2 (i + 1) j))), (4, yi 2), (0, .ref 43), (1, .ref 29), (2, yi i), (3, yi j)]) (st' := [yi 1, yi 1]) (hp' := hl14) rfl ?_
                        refine Y_ic_lt (a := 1) (b := 1) (by omega) hk rfl (fun g100 => ?_) (fun g100 => ?_)
                        · exfalso; omega
                        ·
                          refine E_run hk 5 (j' := 37) (lv' := [(6, yi 1), (5, yi ((1 + (gat nn2 i (j + 1))) + (gat nn2 (i + 1) j))), (4, yi 2), (0, .ref 43), (1, .ref 29), (2, yi i), (3, yi j)]) (st' := [yi 1, yi j, yi i, .ref 29, .ref 43]) (hp' := hl14) rfl ?_
                          refine Y_callP hk rfl (as := [.ref 43, .ref 29, yi i, yi j, yi 1]) (rest := []) (v := some (yi (b2 (gat B (i + 1) (j + 1) < 1000000000 ∧ gat B i j = unl S 0 i j + 0 + gat B (i + 1) (j + 1))))) rfl rfl (Nat.le_of_ble_eq_true rfl) (rcv0 (fr14.at (by decide) (fr6.at (by decide) h43))) (Nat.le_of_ble_eq_true rfl) (c_X2_isBestStep1 (i := i) (j := j) (B := B) (fr14.at (by decide) (fr6.at (by decide) h43)) (fr14.at (by decide) (fr6.at (by decide) h44)) (fr14.at (by decide) (fr6.at (by decide) h46)) (fr14.at (by decide) (fr6.at (by decide) h48)) (fr14.at (by decide) (fr6.at (by decide) h50)) (fr14.at (by decide) (fr6.at (by decide) h47)) ⟨hid, (fr14.at (by decide) (fr6.at (by decide) hs_)), (fr14.at (by simp only [List.mem_cons, List.not_mem_nil, or_false, not_or]; exact ⟨(Ne.symm (sok hid (by unfold apart; decide)).2.1), (Ne.symm (sok hid (by unfold apart; decide)).2.1)⟩) (fr6.at (by simp only [List.mem_cons, List.not_mem_nil, or_false, not_or]; exact ⟨(Ne.symm (sok hid (by unfold apart; decide)).2.1), (Ne.symm (sok hid (by unfold apart; decide)).2.1)⟩) hz_)), (fr14.at (by simp only [List.mem_cons, List.not_mem_nil, or_false, not_or]; exact ⟨(Ne.symm (sok hid (by unfold apart; decide)).2.2.2.1), (Ne.symm (sok hid (by unfold apart; decide)).2.2.2.1)⟩) (fr6.at (by simp only [List.mem_cons, List.not_mem_nil, or_false, not_or]; exact ⟨(Ne.symm (sok hid (by unfold apart; decide)).2.2.2.1), (Ne.symm (sok hid (by unfold apart; decide)).2.2.2.1)⟩) ho_)), (fr14.at (by simp only [List.mem_cons, List.not_mem_nil, or_false, not_or]; exact ⟨(Ne.symm (sok hid (by unfold apart; decide)).2.2.1), (Ne.symm (sok hid (by unfold apart; decide)).2.2.1)⟩) (fr6.at (by simp only [List.mem_cons, List.not_mem_nil, or_false, not_or]; exact ⟨(Ne.symm (sok hid (by unfold apart; decide)).2.2.1), (Ne.symm (sok hid (by unfold apart; decide)).2.2.1)⟩) hf_)), (fr14.at (by simp only [List.mem_cons, List.not_mem_nil, or_false, not_or]; exact ⟨(Ne.symm (sok hid (by unfold apart; decide)).2.2.2.2), (Ne.symm (sok hid (by unfold apart; decide)).2.2.2.2)⟩) (fr6.at (by simp only [List.mem_cons, List.not_mem_nil, or_false, not_or]; exact ⟨(Ne.symm (sok hid (by unfold apart; decide)).2.2.2.2), (Ne.symm (sok hid (by unfold apart; decide)).2.2.2.2)⟩) hg_)), ef, eg⟩ hz h0 h1 (by omega) (by omega) (hd := by omega)) ?_
                          refine Y_b_eq hk rfl (fun g101 => ?_) (fun g101 => ?_)
                          ·
                            refine Y_iinc (a := 1) (z := (-1)) hk rfl rfl rfl (by decide) (lv' := [(6, yi 0), (5, yi ((1 + (gat nn2 i (j + 1))) + (gat nn2 (i + 1) j))), (4, yi 2), (0, .ref 43), (1, .ref 29), (2, yi i), (3, yi j)]) rfl ?_
                            refine E_run hk 3 (j' := 31) (lv' := [(6, yi 0), (5, yi ((1 + (gat nn2 i (j + 1))) + (gat nn2 (i + 1) j))), (4, yi 2), (0, .ref 43), (1, .ref 29), (2, yi i), (3, yi j)]) (st' := [yi 1, yi 0]) (hp' := hl14) rfl ?_
                            refine Y_ic_lt (a := 0) (b := 1) (by omega) hk rfl (fun g102 => ?_) (fun g102 => ?_)
                            ·
                              refine E_run hk 1 (j' := 56) (lv' := [(6, yi 0), (5, yi ((1 + (gat nn2 i (j + 1))) + (gat nn2 (i + 1) j))), (4, yi 2), (0, .ref 43), (1, .ref 29), (2, yi i), (3, yi j)]) (st' := [.ref 43]) (hp' := hl14) rfl ?_
                              refine E_get (v := .ref 48) hk rfl (fr14.at (by decide) (fr6.at (by decide) h43)) rfl ?_
                              refine E_run hk 3 (j' := 60) (lv' := [(6, yi 0), (5, yi ((1 + (gat nn2 i (j + 1))) + (gat nn2 (i + 1) j))), (4, yi 2), (0, .ref 43), (1, .ref 29), (2, yi i), (3, yi j)]) (st' := [yi 2, yi j, yi i, .ref 48]) (hp' := hl14) rfl ?_
                              refine Y_call hk rfl (as := [.ref 48, yi i, yi j, yi 2]) (rest := []) (v := none) rfl rfl (Nat.le_of_ble_eq_true rfl) (rcv0 (fr14.at (by decide) (fr6.at (by decide) h48))) (Nat.le_of_ble_eq_true rfl) (c_X0_put (i := i) (j := j) (x := 2) (a := 48) (p := 49) (k := cc2) ⟨by decide, by decide, by decide⟩ (fr14.at (by decide) (fr6.at (by decide) h48)) ec14_49 (by omega)) (fun H103 r104 => ?_)
                              obtain ⟨e_H103, f_H103⟩ := r104
                              refine E_run hk 1 (j' := 62) (lv' := [(6, yi 0), (5, yi ((1 + (gat nn2 i (j + 1))) + (gat nn2 (i + 1) j))), (4, yi 2), (0, .ref 43), (1, .ref 29), (2, yi i), (3, yi j)]) (st' := [.ref 43]) (hp' := H103) rfl ?_
                              refine E_get (v := .ref 50) hk rfl (f_H103.at (by decide) (fr14.at (by decide) (fr6.at (by decide) h43))) rfl ?_
                              refine E_run hk 4 (j' := 67) (lv' := [(6, yi 0), (5, yi ((1 + (gat nn2 i (j + 1))) + (gat nn2 (i + 1) j))), (4, yi 2), (0, .ref 43), (1, .ref 29), (2, yi i), (3, yi j)]) (st' := [yi ((1 + (gat nn2 i (j + 1))) + (gat nn2 (i + 1) j)), yi 1000000, yi j, yi i, .ref 50]) (hp' := H103) rfl ?_
                              refine Y_min (a := 1000000) (b := ((1 + (gat nn2 i (j + 1))) + (gat nn2 (i + 1) j))) (by omega) hk rfl (Nat.le_of_ble_eq_true rfl) ?_
                              refine Y_call hk rfl (as := [.ref 50, yi i, yi j, yi (mn 1000000 ((1 + (gat nn2 i (j + 1))) + (gat nn2 (i + 1) j)))]) (rest := []) (v := none) rfl rfl (Nat.le_of_ble_eq_true rfl) (rcv0 (f_H103.at (by decide) (fr14.at (by decide) (fr6.at (by decide) h50)))) (Nat.le_of_ble_eq_true rfl) (c_X0_put (i := i) (j := j) (x := (mn 1000000 ((1 + (gat nn2 i (j + 1))) + (gat nn2 (i + 1) j)))) (a := 50) (p := 51) (k := nn2) ⟨by decide, by decide, by decide⟩ (f_H103.at (by decide) (fr14.at (by decide) (fr6.at (by decide) h50))) (f_H103.at (by decide) ec14_51) (by omega)) (fun H105 r106 => ?_)
                              obtain ⟨e_H105, f_H105⟩ := r106
                              refine Y_iinc (a := j) (z := (-1)) hk rfl rfl rfl (by decide) (lv' := [(3, yi (j + (-1))), (6, yi 0), (5, yi ((1 + (gat nn2 i (j + 1))) + (gat nn2 (i + 1) j))), (4, yi 2), (0, .ref 43), (1, .ref 29), (2, yi i)]) rfl ?_
                              refine E_run hk 1 (j' := 14) (lv' := [(3, yi (j + (-1))), (6, yi 0), (5, yi ((1 + (gat nn2 i (j + 1))) + (gat nn2 (i + 1) j))), (4, yi 2), (0, .ref 43), (1, .ref 29), (2, yi i)]) (st' := []) (hp' := H105) rfl ?_
                              exact Ev_le (xle_s rfl rfl (xle_s rfl rfl (xle_s rfl rfl (xle_s rfl rfl (xle_z _ rfl))))) (ih14 _ (by omega) (j + (-1)) (up cc2 (20 * i + j) 2) (up nn2 (20 * i + j) (mn 1000000 ((1 + (gat nn2 i (j + 1))) + (gat nn2 (i + 1) j)))) H105 (by omega) (fun x y x1 x2 y1 y2 q => by
        rw [up_ne _ _ (by omega), up_ne _ _ (by omega)]
        exact K2 x y x1 x2 y1 y2 q) (fun y y1 y2 q => by
        by_cases e : y = j
        · rw [e, up_self, up_self]
          rw [e] at q
          obtain ⟨e1, e2⟩ := fin () q
          rw [e1, e2]
          constructor
          · repeat (first | rw [if_pos (by assumption)] | rw [if_neg (by assumption)])
          · repeat (first | rw [if_pos (by assumption)] | rw [if_neg (by assumption)])
            try simp only [Int.add_zero]
        · rw [up_ne _ _ (by omega), up_ne _ _ (by omega)]
          exact K3 y (by omega) y2 q) (f_H105.at (by decide) e_H103) e_H105 (yfr.tr (yfr.tr fr14 f_H103 (fun _ h => h) (by decide)) f_H105 (fun _ h => h) (by decide)) rfl)
                            · exfalso; omega
                          ·
                            have rq1 := rg1 () (by assumption)
                            refine E_run hk 4 (j' := 43) (lv' := [(4, yi 1), (6, yi 1), (5, yi ((1 + (gat nn2 i (j + 1))) + (gat nn2 (i + 1) j))), (0, .ref 43), (1, .ref 29), (2, yi i), (3, yi j)]) (st' := [.ref 43, yi ((1 + (gat nn2 i (j + 1))) + (gat nn2 (i + 1) j))]) (hp' := hl14) rfl ?_
                            refine E_get (v := .ref 50) hk rfl (fr14.at (by decide) (fr6.at (by decide) h43)) rfl ?_
                            refine E_run hk 2 (j' := 46) (lv' := [(4, yi 1), (6, yi 1), (5, yi ((1 + (gat nn2 i (j + 1))) + (gat nn2 (i + 1) j))), (0, .ref 43), (1, .ref 29), (2, yi i), (3, yi j)]) (st' := [yi 1, yi i, .ref 50, yi ((1 + (gat nn2 i (j + 1))) + (gat nn2 (i + 1) j))]) (hp' := hl14) rfl ?_
                            refine Y_callP hk rfl (as := [yi i, yi 1]) (rest := [.ref 50, yi ((1 + (gat nn2 i (j + 1))) + (gat nn2 (i + 1) j))]) (v := some (yi (i + 1))) rfl rfl (Nat.le_of_ble_eq_true rfl) rfl (Nat.le_of_ble_eq_true rfl) (c_X2_firstAfter1 (i := i)) ?_
                            refine E_run hk 2 (j' := 49) (lv' := [(4, yi 1), (6, yi 1), (5, yi ((1 + (gat nn2 i (j + 1))) + (gat nn2 (i + 1) j))), (0, .ref 43), (1, .ref 29), (2, yi i), (3, yi j)]) (st' := [yi 1, yi j, yi (i + 1), .ref 50, yi ((1 + (gat nn2 i (j + 1))) + (gat nn2 (i + 1) j))]) (hp' := hl14) rfl ?_
                            refine Y_callP hk rfl (as := [yi j, yi 1]) (rest := [yi (i + 1), .ref 50, yi ((1 + (gat nn2 i (j + 1))) + (gat nn2 (i + 1) j))]) (v := some (yi (j + 1))) rfl rfl (Nat.le_of_ble_eq_true rfl) rfl (Nat.le_of_ble_eq_true rfl) (c_X2_secondAfter1 (i := j)) ?_
                            refine Y_callP hk rfl (as := [.ref 50, yi (i + 1), yi (j + 1)]) (rest := [yi ((1 + (gat nn2 i (j + 1))) + (gat nn2 (i + 1) j))]) (v := some (yi (gat nn2 (i + 1) (j + 1)))) rfl rfl (Nat.le_of_ble_eq_true rfl) (rcv0 (fr14.at (by decide) (fr6.at (by decide) h50))) (Nat.le_of_ble_eq_true rfl) (c_X0_at (i := (i + 1)) (j := (j + 1)) (a := 50) (p := 51) (k := nn2) ⟨by decide, by decide, by decide⟩ (fr14.at (by decide) (fr6.at (by decide) h50)) ec14_51 (by omega)) ?_
                            refine Y_iadd (a := ((1 + (gat nn2 i (j + 1))) + (gat nn2 (i + 1) j))) (b := (gat nn2 (i + 1) (j + 1))) hk rfl ?_
                            refine E_run hk 1 (j' := 53) (lv' := [(5, yi (((1 + (gat nn2 i (j + 1))) + (gat nn2 (i + 1) j)) + (gat nn2 (i + 1) (j + 1)))), (4, yi 1), (6, yi 1), (0, .ref 43), (1, .ref 29), (2, yi i), (3, yi j)]) (st' := []) (hp' := hl14) rfl ?_
                            refine Y_iinc (a := 1) (z := (-1)) hk rfl rfl rfl (by decide) (lv' := [(6, yi 0), (5, yi (((1 + (gat nn2 i (j + 1))) + (gat nn2 (i + 1) j)) + (gat nn2 (i + 1) (j + 1)))), (4, yi 1), (0, .ref 43), (1, .ref 29), (2, yi i), (3, yi j)]) rfl ?_
                            refine E_run hk 3 (j' := 31) (lv' := [(6, yi 0), (5, yi (((1 + (gat nn2 i (j + 1))) + (gat nn2 (i + 1) j)) + (gat nn2 (i + 1) (j + 1)))), (4, yi 1), (0, .ref 43), (1, .ref 29), (2, yi i), (3, yi j)]) (st' := [yi 1, yi 0]) (hp' := hl14) rfl ?_
                            refine Y_ic_lt (a := 0) (b := 1) (by omega) hk rfl (fun g107 => ?_) (fun g107 => ?_)
                            ·
                              refine E_run hk 1 (j' := 56) (lv' := [(6, yi 0), (5, yi (((1 + (gat nn2 i (j + 1))) + (gat nn2 (i + 1) j)) + (gat nn2 (i + 1) (j + 1)))), (4, yi 1), (0, .ref 43), (1, .ref 29), (2, yi i), (3, yi j)]) (st' := [.ref 43]) (hp' := hl14) rfl ?_
                              refine E_get (v := .ref 48) hk rfl (fr14.at (by decide) (fr6.at (by decide) h43)) rfl ?_
                              refine E_run hk 3 (j' := 60) (lv' := [(6, yi 0), (5, yi (((1 + (gat nn2 i (j + 1))) + (gat nn2 (i + 1) j)) + (gat nn2 (i + 1) (j + 1)))), (4, yi 1), (0, .ref 43), (1, .ref 29), (2, yi i), (3, yi j)]) (st' := [yi 1, yi j, yi i, .ref 48]) (hp' := hl14) rfl ?_
                              refine Y_call hk rfl (as := [.ref 48, yi i, yi j, yi 1]) (rest := []) (v := none) rfl rfl (Nat.le_of_ble_eq_true rfl) (rcv0 (fr14.at (by decide) (fr6.at (by decide) h48))) (Nat.le_of_ble_eq_true rfl) (c_X0_put (i := i) (j := j) (x := 1) (a := 48) (p := 49) (k := cc2) ⟨by decide, by decide, by decide⟩ (fr14.at (by decide) (fr6.at (by decide) h48)) ec14_49 (by omega)) (fun H108 r109 => ?_)
                              obtain ⟨e_H108, f_H108⟩ := r109
                              refine E_run hk 1 (j' := 62) (lv' := [(6, yi 0), (5, yi (((1 + (gat nn2 i (j + 1))) + (gat nn2 (i + 1) j)) + (gat nn2 (i + 1) (j + 1)))), (4, yi 1), (0, .ref 43), (1, .ref 29), (2, yi i), (3, yi j)]) (st' := [.ref 43]) (hp' := H108) rfl ?_
                              refine E_get (v := .ref 50) hk rfl (f_H108.at (by decide) (fr14.at (by decide) (fr6.at (by decide) h43))) rfl ?_
                              refine E_run hk 4 (j' := 67) (lv' := [(6, yi 0), (5, yi (((1 + (gat nn2 i (j + 1))) + (gat nn2 (i + 1) j)) + (gat nn2 (i + 1) (j + 1)))), (4, yi 1), (0, .ref 43), (1, .ref 29), (2, yi i), (3, yi j)]) (st' := [yi (((1 + (gat nn2 i (j + 1))) + (gat nn2 (i + 1) j)) + (gat nn2 (i + 1) (j + 1))), yi 1000000, yi j, yi i, .ref 50]) (hp' := H108) rfl ?_
                              refine Y_min (a := 1000000) (b := (((1 + (gat nn2 i (j + 1))) + (gat nn2 (i + 1) j)) + (gat nn2 (i + 1) (j + 1)))) (by omega) hk rfl (Nat.le_of_ble_eq_true rfl) ?_
                              refine Y_call hk rfl (as := [.ref 50, yi i, yi j, yi (mn 1000000 (((1 + (gat nn2 i (j + 1))) + (gat nn2 (i + 1) j)) + (gat nn2 (i + 1) (j + 1))))]) (rest := []) (v := none) rfl rfl (Nat.le_of_ble_eq_true rfl) (rcv0 (f_H108.at (by decide) (fr14.at (by decide) (fr6.at (by decide) h50)))) (Nat.le_of_ble_eq_true rfl) (c_X0_put (i := i) (j := j) (x := (mn 1000000 (((1 + (gat nn2 i (j + 1))) + (gat nn2 (i + 1) j)) + (gat nn2 (i + 1) (j + 1))))) (a := 50) (p := 51) (k := nn2) ⟨by decide, by decide, by decide⟩ (f_H108.at (by decide) (fr14.at (by decide) (fr6.at (by decide) h50))) (f_H108.at (by decide) ec14_51) (by omega)) (fun H110 r111 => ?_)
                              obtain ⟨e_H110, f_H110⟩ := r111
                              refine Y_iinc (a := j) (z := (-1)) hk rfl rfl rfl (by decide) (lv' := [(3, yi (j + (-1))), (6, yi 0), (5, yi (((1 + (gat nn2 i (j + 1))) + (gat nn2 (i + 1) j)) + (gat nn2 (i + 1) (j + 1)))), (4, yi 1), (0, .ref 43), (1, .ref 29), (2, yi i)]) rfl ?_
                              refine E_run hk 1 (j' := 14) (lv' := [(3, yi (j + (-1))), (6, yi 0), (5, yi (((1 + (gat nn2 i (j + 1))) + (gat nn2 (i + 1) j)) + (gat nn2 (i + 1) (j + 1)))), (4, yi 1), (0, .ref 43), (1, .ref 29), (2, yi i)]) (st' := []) (hp' := H110) rfl ?_
                              exact Ev_le (xle_s rfl rfl (xle_s rfl rfl (xle_s rfl rfl (xle_s rfl rfl (xle_z _ rfl))))) (ih14 _ (by omega) (j + (-1)) (up cc2 (20 * i + j) 1) (up nn2 (20 * i + j) (mn 1000000 (((1 + (gat nn2 i (j + 1))) + (gat nn2 (i + 1) j)) + (gat nn2 (i + 1) (j + 1))))) H110 (by omega) (fun x y x1 x2 y1 y2 q => by
        rw [up_ne _ _ (by omega), up_ne _ _ (by omega)]
        exact K2 x y x1 x2 y1 y2 q) (fun y y1 y2 q => by
        by_cases e : y = j
        · rw [e, up_self, up_self]
          rw [e] at q
          obtain ⟨e1, e2⟩ := fin () q
          rw [e1, e2]
          constructor
          · repeat (first | rw [if_pos (by assumption)] | rw [if_neg (by assumption)])
          · repeat (first | rw [if_pos (by assumption)] | rw [if_neg (by assumption)])
            try simp only [Int.add_zero]
        · rw [up_ne _ _ (by omega), up_ne _ _ (by omega)]
          exact K3 y (by omega) y2 q) (f_H110.at (by decide) e_H108) e_H110 (yfr.tr (yfr.tr fr14 f_H108 (fun _ h => h) (by decide)) f_H110 (fun _ h => h) (by decide)) rfl)
                            · exfalso; omega
        exact Ev_le (xle_s rfl rfl (xle_s rfl rfl (xle_s rfl rfl (xle_s rfl rfl (xle_z _ rfl))))) (loop14 _ (S 1 - 1) cc1 nn1 hl6 (by omega) (J2) (fun y q1 q2 => absurd q1 (by omega)) ec6_49 ec6_51 (yfr.refl _ _) rfl)
  exact Ev_le (xle_s rfl rfl (xle_s rfl rfl (xle_s rfl rfl (xle_z _ rfl)))) (loop6 _ (S 0 - 1) C N hp (by omega) (fun x y q1 q2 => absurd q1 (by omega)) h49 h51 (yfr.refl _ _) rfl)
