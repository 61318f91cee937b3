/-! The changes: each makes of the tunes a function of them. -/
theorem okS.gen {S : Int → Int} (h : okS S) {x : Int} (hx : 0 ≤ x) (hx1 : x ≤ 1) : ∀ q, 0 ≤ q → q < S (0 + x) → 0 ≤ S (7 + 20 * x + q) ∧ S (7 + 20 * x + q) ≤ 60 := by
  obtain ⟨-, h0, h1, -⟩ := h
  rcases (by omega : x = 0 ∨ x = 1) with rfl | rfl
  · exact h0
  · exact h1
theorem ls_gen {S : Int → Int} (h : okS S) (s : sml S) {x : Int} (hx : 0 ≤ x) (hx1 : x ≤ 1) : 0 ≤ S (0 + x) ∧ S (0 + x) ≤ 12 := by
  obtain ⟨a, -⟩ := h
  rcases (by omega : x = 0 ∨ x = 1) with rfl | rfl
  · exact ⟨a.1, s.1⟩
  · exact ⟨a.2.2.1, s.2⟩
theorem ok_all {S S2 : Int → Int} (h : okS S) (hn : nrS S) (e5 : S2 5 = S 5) (e6 : S2 6 = S 6) (hs : 0 ≤ S2 2 ∧ S2 2 ≤ 20 ∧ 0 ≤ S2 3 ∧ S2 3 ≤ 50 ∧ 0 ≤ S2 4 ∧ S2 4 ≤ 3) (hl : ∀ x, 0 ≤ x → x ≤ 1 → 0 ≤ S2 (0 + x) ∧ S2 (0 + x) ≤ 12) (hp : ∀ x q, 0 ≤ x → x ≤ 1 → 0 ≤ q → q < S2 (0 + x) → 0 ≤ S2 (7 + 20 * x + q) ∧ S2 (7 + 20 * x + q) ≤ 60) (hr : ∀ q, ¬ (0 ≤ q ∧ q < 47) → S2 q = S q) : okS S2 ∧ sml S2 ∧ nrS S2 ∧ S2 5 = S 5 ∧ S2 6 = S 6 := by
  have a0 : 0 ≤ S2 0 ∧ S2 0 ≤ 12 := hl 0 (by decide) (by decide)
  have a1 : 0 ≤ S2 1 ∧ S2 1 ≤ 12 := hl 1 (by decide) (by decide)
  have p0 : ∀ q, 0 ≤ q → q < S2 0 → 0 ≤ S2 (7 + q) ∧ S2 (7 + q) ≤ 60 := fun q => hp 0 q (by decide) (by decide)
  have p1 : ∀ q, 0 ≤ q → q < S2 1 → 0 ≤ S2 (27 + q) ∧ S2 (27 + q) ≤ 60 := fun q => hp 1 q (by decide) (by decide)
  refine ⟨⟨⟨by omega, by omega, by omega, by omega, hs⟩, p0, p1, ?_⟩, ⟨a0.2, a1.2⟩, fun q hq => (hr q hq).trans (hn q hq), e5, e6⟩
  rw [e5, e6]
  exact h.2.2.2
section NX
variable {S : Int → Int} {t k y : Int}
def nxAdd (S : Int → Int) (t y : Int) : Int → Int := up (up S (0 + t) (S (0 + t) + 1)) (7 + 20 * t + S (0 + t)) y
theorem ok_add (h : okS S) (s : sml S) (hn : nrS S) (ht : 0 ≤ t ∧ t ≤ 1) (hy : 0 ≤ y ∧ y ≤ 60) (hl : S (0 + t) < 12) : okS (nxAdd S t y) ∧ sml (nxAdd S t y) ∧ nrS (nxAdd S t y) ∧ nxAdd S t y 5 = S 5 ∧ nxAdd S t y 6 = S 6 := by
  have lt := ls_gen h s ht.1 ht.2
  have key : ∀ q, q ≠ 0 + t → q ≠ 7 + 20 * t + S (0 + t) → nxAdd S t y q = S q := fun q q1 q2 => (up_ne _ _ q2).trans (up_ne _ _ q1)
  have k1 : nxAdd S t y (0 + t) = S (0 + t) + 1 := (up_ne _ _ (by omega)).trans (up_self _ _ _)
  have k2 : nxAdd S t y (7 + 20 * t + S (0 + t)) = y := up_self _ _ _
  refine ok_all h hn (key _ (by omega) (by omega)) (key _ (by omega) (by omega)) ?_ (fun x x1 x2 => ?_) (fun x q x1 x2 q1 q2 => ?_) (fun q hq => key q (by omega) (by omega))
  · rw [key 2 (by omega) (by omega), key 3 (by omega) (by omega), key 4 (by omega) (by omega)]
    exact h.1.2.2.2.2
  · have lx := ls_gen h s x1 x2
    by_cases e : x = t
    · subst e
      rw [k1]
      omega
    · rw [key _ (by omega) (by omega)]
      exact lx
  · have lx := ls_gen h s x1 x2
    by_cases e : x = t
    · subst e
      rw [k1] at q2
      by_cases g : q = S (0 + x)
      · subst g
        rw [k2]
        exact hy
      · rw [key _ (by omega) (by omega)]
        exact h.gen x1 x2 q q1 (by omega)
    · rw [key _ (by omega) (by omega)] at q2
      rw [key _ (by omega) (by omega)]
      exact h.gen x1 x2 q q1 q2
def nxSet (S : Int → Int) (t k y : Int) : Int → Int := up S (7 + 20 * t + k) y
theorem ok_set (h : okS S) (s : sml S) (hn : nrS S) (ht : 0 ≤ t ∧ t ≤ 1) (hk : 0 ≤ k ∧ k < S (0 + t)) (hy : 0 ≤ y ∧ y ≤ 60) : okS (nxSet S t k y) ∧ sml (nxSet S t k y) ∧ nrS (nxSet S t k y) ∧ nxSet S t k y 5 = S 5 ∧ nxSet S t k y 6 = S 6 := by
  have lt := ls_gen h s ht.1 ht.2
  have key : ∀ q, q ≠ 7 + 20 * t + k → nxSet S t k y q = S q := fun q q1 => up_ne _ _ q1
  have k2 : nxSet S t k y (7 + 20 * t + k) = y := up_self _ _ _
  refine ok_all h hn (key _ (by omega)) (key _ (by omega)) ?_ (fun x x1 x2 => ?_) (fun x q x1 x2 q1 q2 => ?_) (fun q hq => key q (by omega))
  · rw [key 2 (by omega), key 3 (by omega), key 4 (by omega)]
    exact h.1.2.2.2.2
  · rw [key _ (by omega)]
    exact ls_gen h s x1 x2
  · have lx := ls_gen h s x1 x2
    rw [key _ (by omega)] at q2
    by_cases e : 7 + 20 * x + q = 7 + 20 * t + k
    · rw [e, k2]
      exact hy
    · rw [key _ e]
      exact h.gen x1 x2 q q1 q2
def nxDrop (S : Int → Int) (t k : Int) : Int → Int := fun q => if q = 0 + t then S (0 + t) - 1 else if 7 + 20 * t + k ≤ q ∧ q < 7 + 20 * t + S (0 + t) - 1 then S (q + 1) else S q
theorem ok_drop (h : okS S) (s : sml S) (hn : nrS S) (ht : 0 ≤ t ∧ t ≤ 1) (hk : 0 ≤ k ∧ k < S (0 + t)) : okS (nxDrop S t k) ∧ sml (nxDrop S t k) ∧ nrS (nxDrop S t k) ∧ nxDrop S t k 5 = S 5 ∧ nxDrop S t k 6 = S 6 := by
  have lt := ls_gen h s ht.1 ht.2
  have key : ∀ q, q ≠ 0 + t → ¬ (7 + 20 * t + k ≤ q ∧ q < 7 + 20 * t + S (0 + t) - 1) → nxDrop S t k q = S q := fun q q1 q2 => (if_neg q1).trans (if_neg q2)
  have k1 : nxDrop S t k (0 + t) = S (0 + t) - 1 := if_pos rfl
  have k2 : ∀ q, q ≠ 0 + t → 7 + 20 * t + k ≤ q ∧ q < 7 + 20 * t + S (0 + t) - 1 → nxDrop S t k q = S (q + 1) := fun q q1 q2 => (if_neg q1).trans (if_pos q2)
  refine ok_all h hn (key _ (by omega) (by omega)) (key _ (by omega) (by omega)) ?_ (fun x x1 x2 => ?_) (fun x q x1 x2 q1 q2 => ?_) (fun q hq => key q (by omega) (by omega))
  · rw [key 2 (by omega) (by omega), key 3 (by omega) (by omega), key 4 (by omega) (by omega)]
    exact h.1.2.2.2.2
  · have lx := ls_gen h s x1 x2
    by_cases e : x = t
    · subst e
      rw [k1]
      omega
    · rw [key _ (by omega) (by omega)]
      exact lx
  · have lx := ls_gen h s x1 x2
    by_cases e : x = t
    · subst e
      rw [k1] at q2
      by_cases g : k ≤ q
      · rw [k2 _ (by omega) (by omega), show 7 + 20 * x + q + 1 = 7 + 20 * x + (q + 1) by omega]
        exact h.gen x1 x2 (q + 1) (by omega) (by omega)
      · rw [key _ (by omega) (by omega)]
        exact h.gen x1 x2 q q1 (by omega)
    · rw [key _ (by omega) (by omega)] at q2
      rw [key _ (by omega) (by omega)]
      exact h.gen x1 x2 q q1 q2
def nxSlow (S : Int → Int) (t : Int) : Int → Int := fun q => if q = 0 + t then 2 * S (0 + t) else if 7 + 20 * t ≤ q ∧ q < 7 + 20 * t + 2 * S (0 + t) then S (7 + 20 * t + (q - (7 + 20 * t)) / 2) else S q
theorem ok_slow (h : okS S) (s : sml S) (hn : nrS S) (ht : 0 ≤ t ∧ t ≤ 1) (hl : S (0 + t) ≤ 6) : okS (nxSlow S t) ∧ sml (nxSlow S t) ∧ nrS (nxSlow S t) ∧ nxSlow S t 5 = S 5 ∧ nxSlow S t 6 = S 6 := by
  have lt := ls_gen h s ht.1 ht.2
  have key : ∀ q, q ≠ 0 + t → ¬ (7 + 20 * t ≤ q ∧ q < 7 + 20 * t + 2 * S (0 + t)) → nxSlow S t q = S q := fun q q1 q2 => (if_neg q1).trans (if_neg q2)
  have k1 : nxSlow S t (0 + t) = 2 * S (0 + t) := if_pos rfl
  have k2 : ∀ q, q ≠ 0 + t → 7 + 20 * t ≤ q ∧ q < 7 + 20 * t + 2 * S (0 + t) → nxSlow S t q = S (7 + 20 * t + (q - (7 + 20 * t)) / 2) := fun q q1 q2 => (if_neg q1).trans (if_pos q2)
  refine ok_all h hn (key _ (by omega) (by omega)) (key _ (by omega) (by omega)) ?_ (fun x x1 x2 => ?_) (fun x q x1 x2 q1 q2 => ?_) (fun q hq => key q (by omega) (by omega))
  · rw [key 2 (by omega) (by omega), key 3 (by omega) (by omega), key 4 (by omega) (by omega)]
    exact h.1.2.2.2.2
  · have lx := ls_gen h s x1 x2
    by_cases e : x = t
    · subst e
      rw [k1]
      omega
    · rw [key _ (by omega) (by omega)]
      exact lx
  · have lx := ls_gen h s x1 x2
    by_cases e : x = t
    · subst e
      rw [k1] at q2
      rw [k2 _ (by omega) (by omega)]
      exact h.gen x1 x2 _ (by omega) (by omega)
    · rw [key _ (by omega) (by omega)] at q2
      rw [key _ (by omega) (by omega)]
      exact h.gen x1 x2 q q1 q2
def nxFlip (S : Int → Int) (t : Int) : Int → Int := fun q => if 7 + 20 * t ≤ q ∧ q < 7 + 20 * t + S (0 + t) then S (7 + 20 * t + (S (0 + t) - 1 - (q - (7 + 20 * t)))) else S q
theorem ok_flip (h : okS S) (s : sml S) (hn : nrS S) (ht : 0 ≤ t ∧ t ≤ 1) : okS (nxFlip S t) ∧ sml (nxFlip S t) ∧ nrS (nxFlip S t) ∧ nxFlip S t 5 = S 5 ∧ nxFlip S t 6 = S 6 := by
  have lt := ls_gen h s ht.1 ht.2
  have key : ∀ q, ¬ (7 + 20 * t ≤ q ∧ q < 7 + 20 * t + S (0 + t)) → nxFlip S t q = S q := fun q q2 => if_neg q2
  have k2 : ∀ q, 7 + 20 * t ≤ q ∧ q < 7 + 20 * t + S (0 + t) → nxFlip S t q = S (7 + 20 * t + (S (0 + t) - 1 - (q - (7 + 20 * t)))) := fun q q2 => if_pos q2
  refine ok_all h hn (key _ (by omega)) (key _ (by omega)) ?_ (fun x x1 x2 => ?_) (fun x q x1 x2 q1 q2 => ?_) (fun q hq => key q (by omega))
  · rw [key 2 (by omega), key 3 (by omega), key 4 (by omega)]
    exact h.1.2.2.2.2
  · rw [key _ (by omega)]
    exact ls_gen h s x1 x2
  · have lx := ls_gen h s x1 x2
    rw [key _ (by omega)] at q2
    by_cases e : x = t
    · subst e
      rw [k2 _ (by omega)]
      exact h.gen x1 x2 _ (by omega) (by omega)
    · rw [key _ (by omega)]
      exact h.gen x1 x2 q q1 q2
def nxEx (S : Int → Int) : Int → Int := fun q => if q = 0 then S 1 else if q = 1 then S 0 else if 7 ≤ q ∧ q < 27 then S (27 + (q - 7)) else if 27 ≤ q ∧ q < 47 then S (7 + (q - 27)) else S q
theorem ok_ex (h : okS S) (s : sml S) (hn : nrS S) : okS (nxEx S) ∧ sml (nxEx S) ∧ nrS (nxEx S) ∧ nxEx S 5 = S 5 ∧ nxEx S 6 = S 6 := by
  have key : ∀ q, q ≠ 0 → q ≠ 1 → ¬ (7 ≤ q ∧ q < 27) → ¬ (27 ≤ q ∧ q < 47) → nxEx S q = S q := fun q q1 q2 q3 q4 => (if_neg q1).trans ((if_neg q2).trans ((if_neg q3).trans (if_neg q4)))
  have k7 : ∀ q, 7 ≤ q ∧ q < 27 → nxEx S q = S (27 + (q - 7)) := fun q q3 => (if_neg (by omega)).trans ((if_neg (by omega)).trans (if_pos q3))
  have k27 : ∀ q, 27 ≤ q ∧ q < 47 → nxEx S q = S (7 + (q - 27)) := fun q q3 => (if_neg (by omega)).trans ((if_neg (by omega)).trans ((if_neg (by omega)).trans (if_pos q3)))
  have l0 : 0 ≤ S 0 ∧ S 0 ≤ 12 := ls_gen h s (x := 0) (by decide) (by decide)
  have l1 : 0 ≤ S 1 ∧ S 1 ≤ 12 := ls_gen h s (x := 1) (by decide) (by decide)
  refine ok_all h hn (key _ (by decide) (by decide) (by decide) (by decide)) (key _ (by decide) (by decide) (by decide) (by decide)) ?_ (fun x x1 x2 => ?_) (fun x q x1 x2 q1 q2 => ?_) (fun q hq => key q (by omega) (by omega) (by omega) (by omega))
  · rw [key 2 (by decide) (by decide) (by decide) (by decide), key 3 (by decide) (by decide) (by decide) (by decide), key 4 (by decide) (by decide) (by decide) (by decide)]
    exact h.1.2.2.2.2
  · rcases (by omega : x = 0 ∨ x = 1) with rfl | rfl
    · exact l1
    · exact l0
  · rcases (by omega : x = 0 ∨ x = 1) with rfl | rfl
    · have q3 : q < S 1 := q2
      rw [k7 _ (by omega), show 27 + (7 + 20 * 0 + q - 7) = 27 + q by omega]
      exact h.2.2.1 q q1 q3
    · have q3 : q < S 0 := q2
      rw [k27 _ (by omega), show 7 + (7 + 20 * 1 + q - 27) = 7 + q by omega]
      exact h.2.1 q q1 q3
theorem ok_num {i : Int} (h : okS S) (s : sml S) (hn : nrS S) (hi : i = 2 ∨ i = 3 ∨ i = 4) (hy : (i = 2 → 0 ≤ y ∧ y ≤ 20) ∧ (i = 3 → 0 ≤ y ∧ y ≤ 50) ∧ (i = 4 → 0 ≤ y ∧ y ≤ 3)) : okS (up S i y) ∧ sml (up S i y) ∧ nrS (up S i y) ∧ up S i y 5 = S 5 ∧ up S i y 6 = S 6 := by
  have key : ∀ q, q ≠ i → up S i y q = S q := fun q q1 => up_ne _ _ q1
  have az := h.1.2.2.2.2
  refine ok_all h hn (key _ (by omega)) (key _ (by omega)) ?_ (fun x x1 x2 => ?_) (fun x q x1 x2 q1 q2 => ?_) (fun q hq => key q (by omega))
  · rcases hi with rfl | rfl | rfl
    · have e : up S 2 y 2 = y := up_self _ _ _
      have w := hy.1 rfl
      rw [e, key 3 (by decide), key 4 (by decide)]
      omega
    · have e : up S 3 y 3 = y := up_self _ _ _
      have w := hy.2.1 rfl
      rw [e, key 2 (by decide), key 4 (by decide)]
      omega
    · have e : up S 4 y 4 = y := up_self _ _ _
      have w := hy.2.2 rfl
      rw [e, key 2 (by decide), key 3 (by decide)]
      omega
  · rw [key _ (by omega)]
    exact ls_gen h s x1 x2
  · rw [key _ (by omega)] at q2
    have lx := ls_gen h s x1 x2
    rw [key _ (by omega)]
    exact h.gen x1 x2 q q1 q2
end NX
/-- one more saved state -/
def inc6 (n : Int) : Int := if n = 6 then 6 else n + 1
/-- the saved states with S behind them -/
def rcU (n : Int) (S T : Int → Int) : Int → Int := fun q => if 0 ≤ q ∧ q < 47 * (if n = 6 then 5 else n) then T (if n = 6 then q + 47 else q) else S (q - 47 * (if n = 6 then 5 else n))
theorem rcU_last {n : Int} {S T : Int → Int} (hn : 0 ≤ n ∧ n ≤ 6) : ∀ q, 0 ≤ q → q < 47 → rcU n S T (47 * (inc6 n - 1) + q) = S q := by
  intro q q1 q2
  unfold rcU inc6
  by_cases e : n = 6
  · rw [if_pos e, if_pos e, if_neg (by omega)]
    congr 1
    omega
  · rw [if_neg e, if_neg e, if_neg (by omega)]
    congr 1
    omega
theorem rcU_rec {n : Int} {S T : Int → Int} (hn : 0 ≤ n ∧ n ≤ 6) : recd n S T (rcU n S T) := by
  refine ⟨fun q q1 q2 => ?_, fun q q1 q2 => if_pos ⟨q1, q2⟩⟩
  unfold rcU
  by_cases e : n = 6
  · rw [if_pos e, if_neg (by omega)]
    congr 1
    omega
  · rw [if_neg e, if_neg (by omega)]
    congr 1
    omega
theorem rcU_sml {n : Int} {S T : Int → Int} (hn : 0 ≤ n ∧ n ≤ 6) (s : sml S) (hT : ∀ i : Nat, (i : Int) < n → sml (slc T i)) : ∀ i : Nat, (i : Int) < inc6 n → sml (slc (rcU n S T) i) := by
  intro i hi
  have two : ∀ q, 0 ≤ q → q < 2 → slc (rcU n S T) i q = (if (i : Int) = inc6 n - 1 then S q else slc T (if n = 6 then i + 1 else i) q) := by
    intro q q1 q2
    by_cases l : (i : Int) = inc6 n - 1
    · rw [if_pos l]
      have w := rcU_last (S := S) (T := T) hn q q1 (by omega)
      rw [← l] at w
      exact w
    · rw [if_neg l]
      unfold inc6 at hi l
      show rcU n S T (47 * (i : Int) + q) = T (47 * (((if n = 6 then i + 1 else i) : Nat) : Int) + q)
      unfold rcU
      by_cases e : n = 6
      · rw [if_pos e] at hi l
        rw [if_pos e, if_pos e, if_pos e, if_pos (by omega)]
        congr 1
        omega
      · rw [if_neg e] at hi l
        rw [if_neg e, if_neg e, if_neg e, if_pos (by omega)]
  unfold sml
  rw [two 0 (by decide) (by decide), two 1 (by decide) (by decide)]
  by_cases l : (i : Int) = inc6 n - 1
  · rw [if_pos l, if_pos l]
    exact s
  · rw [if_neg l, if_neg l]
    unfold inc6 at hi l
    by_cases e : n = 6
    · rw [if_pos e] at hi l
      rw [if_pos e]
      exact hT (i + 1) (by omega)
    · rw [if_neg e] at hi l
      rw [if_neg e]
      exact hT i (by omega)
theorem kNow_in {i : Nat} (h : i ∈ kNow) : (28 ≤ i ∧ i ≤ 34) ∨ i = 63 := by
  unfold kNow at h
  simp only [List.mem_cons, List.not_mem_nil, or_false] at h
  omega
theorem ystp.c56 {S S2 : Int → Int} {r t : Int} (h : ystp S r t) (e5 : S2 5 = S 5) (e6 : S2 6 = S 6) : ystp S2 r t := by
  unfold ystp at h ⊢
  rw [e5, e6]
  exact h
section PV
variable {L : Nat} {F : Int → Int} {b n : Int} {h h1 : xH} {S T : Int → Int} {d : Nat}
/-- behind a change, or an undo -/
theorem pzI.mv0 (H : pzI L F b h n S T) {S2 T2 : Int → Int} {n2 : Int} (e28 : xat h1 28 = some (.inr (8, [.ref 29, .ref 34, .ref 35, yi 0, .ref 40, yi 0, .ref 41, .ref 43, yi 1, .ref 56, .ref 58]))) (sv : ySv h1 n2 T2) (st : kN h1 S2) (f : yfz kNow h h1) (ok : okS S2) (hn2 : 0 ≤ n2 ∧ n2 ≤ 6) (sm : sml S2) (nr : nrS S2) (hT : ∀ i : Nat, (i : Int) < n2 → sml (slc T2 i)) : pzI L F (b + 1) h1 n2 S2 T2 := by
  obtain ⟨⟨⟨od, -, aM⟩, -, -, a4, a5⟩, ⟨c1, c2⟩, ⟨r1, r2, r3⟩, -⟩ := H
  have e : ∀ i, i < 63 → ¬ (28 ≤ i ∧ i ≤ 34) → xat h1 i = xat h i := fun i i1 i2 => f.2.2.2.1 i i1 (fun q => by have := kNow_in q; omega)
  have f1 := f.1
  have f2 := f.2.1
  have f3 := f.2.2.1
  exact ⟨⟨⟨1, e28, (aM.one (S2 := S2)).at (fun i i1 i2 => e i (by omega) (by omega))⟩, st, sv, a4.eq (fun i q1 q2 => e i (by omega) (by omega)), a5.eq (fun i q1 q2 => e i (by omega) (by omega))⟩, ⟨(e 25 (by decide) (by decide)).trans c1, (e 26 (by decide) (by decide)).trans c2⟩, ⟨by omega, by omega, by omega⟩, ⟨ok, hn2⟩, sm, nr, hT⟩
theorem pzI.mv (H : pzI L F b h n S T) {S2 : Int → Int} {zz oo : Nat} {r t : Int} (e28 : xat h1 28 = some (.inr (8, [.ref 29, .ref 34, .ref 35, yi 0, .ref 40, yi 0, .ref 41, .ref 43, yi 1, .ref 56, .ref 58]))) (sv : ∀ U, recd n S T U → ySv h1 (if n = 6 then 6 else n + 1) U) (st : ∃ f2 g2, yS h1 29 zz oo S2 f2 g2 r t) (hst : ystp S r t) (f : yfz kNow h h1) (ok : okS S2 ∧ sml S2 ∧ nrS S2 ∧ S2 5 = S 5 ∧ S2 6 = S 6) : pzI L F (b + 1) h1 (inc6 n) S2 (rcU n S T) := by
  obtain ⟨-, -, -, ⟨-, hn⟩, sm, -, hT⟩ := id H
  obtain ⟨f2, g2, s2⟩ := st
  exact H.mv0 e28 (sv _ (rcU_rec hn)) ⟨zz, oo, f2, g2, r, t, s2, hst.c56 ok.2.2.2.1 ok.2.2.2.2⟩ f ok.1 (by unfold inc6; split <;> omega) ok.2.1 ok.2.2.1 (rcU_sml hn sm hT)
theorem m_addNote {t y : Int} (H : pzI L F b h n S T) (ht : 0 ≤ t ∧ t ≤ 1) (hy : 0 ≤ y ∧ y ≤ 60) (hl : S (0 + t) < 12) (hd : 6 ≤ d) : Cv d 50 [.ref 28, yi t, yi y] h (yE (fun _ h1 => pzI L F (b + 1) h1 (inc6 n) (nxAdd S t y) (rcU n S T))) := by
  have H0 := H
  obtain ⟨⟨⟨od, a28, -⟩, ⟨zz, oo, f9, g9, r9, t9, aS, ast⟩, aSv, -, -⟩, ⟨-, a26⟩, ⟨r1, -, -⟩, ⟨aok, an⟩, asm, anr, -⟩ := H0
  refine Ev.imp (c_X8_addNote a28 aS r1 a26 aSv an aok ast (x := t) (y := y) (by omega) (hd := by omega)) (fun o1 h1 w => ?_)
  rcases w with ⟨z, w0, w2, w3⟩ | ⟨E, w0, w2, w3⟩
  · refine ⟨z, w0, ?_⟩
    rcases w2 with ⟨-, -, -, w5, w6, w7⟩ | ⟨w4, -⟩ | ⟨w4, -⟩ | ⟨w4, -⟩
    · exact H.mv w5 w6 (w7 _ ⟨(up_ne _ _ (by have := ls_gen aok asm ht.1 ht.2; omega)).trans (up_self _ _ _), up_self _ _ _, fun q q1 q2 => (up_ne _ _ q2).trans (up_ne _ _ q1)⟩) ast w3 (ok_add aok asm anr ht hy hl)
    · cases w4
    · cases w4
    · cases w4
  · rcases w2 with ⟨w4, -⟩ | ⟨-, w4, -⟩ | ⟨-, w4, -⟩ | ⟨-, w4, -⟩
    · cases w4
    · exact absurd ht w4
    · exact absurd hy w4.2.2
    · exact absurd w4.2.2.2.2 (by omega)
theorem m_setNote {t k y : Int} (H : pzI L F b h n S T) (ht : 0 ≤ t ∧ t ≤ 1) (hk : 0 ≤ k ∧ k < S (0 + t)) (hy : 0 ≤ y ∧ y ≤ 60) (hd : 6 ≤ d) : Cv d 51 [.ref 28, yi t, yi k, yi y] h (yE (fun _ h1 => pzI L F (b + 1) h1 (inc6 n) (nxSet S t k y) (rcU n S T))) := by
  have H0 := H
  obtain ⟨⟨⟨od, a28, -⟩, ⟨zz, oo, f9, g9, r9, t9, aS, ast⟩, aSv, -, -⟩, ⟨-, a26⟩, ⟨r1, -, -⟩, ⟨aok, an⟩, asm, anr, -⟩ := H0
  refine Ev.imp (c_X8_setNote a28 aS r1 a26 aSv an aok ast (x := t) (k := k) (y := y) (by have := ls_gen aok asm ht.1 ht.2; omega) (hd := by omega)) (fun o1 h1 w => ?_)
  rcases w with ⟨z, w0, w2, w3⟩ | ⟨E, w0, w2, w3⟩
  · refine ⟨z, w0, ?_⟩
    rcases w2 with ⟨-, -, -, w5, w6, w7⟩ | ⟨w4, -⟩ | ⟨w4, -⟩
    · exact H.mv w5 w6 (w7 _ rfl) ast w3 (ok_set aok asm anr ht hk hy)
    · cases w4
    · cases w4
  · rcases w2 with ⟨w4, -⟩ | ⟨-, w4, -⟩ | ⟨-, w4, -⟩
    · cases w4
    · exact absurd ⟨ht.1, ht.2, hk⟩ w4
    · exact absurd hy w4.2.2.2.2
theorem m_dropNote {t k : Int} (H : pzI L F b h n S T) (ht : 0 ≤ t ∧ t ≤ 1) (hk : 0 ≤ k ∧ k < S (0 + t)) (hd : 6 ≤ d) : Cv d 52 [.ref 28, yi t, yi k] h (yE (fun _ h1 => pzI L F (b + 1) h1 (inc6 n) (nxDrop S t k) (rcU n S T))) := by
  have H0 := H
  obtain ⟨⟨⟨od, a28, -⟩, ⟨zz, oo, f9, g9, r9, t9, aS, ast⟩, aSv, -, -⟩, ⟨-, a26⟩, ⟨r1, -, -⟩, ⟨aok, an⟩, asm, anr, -⟩ := H0
  refine Ev.imp (c_X8_dropNote a28 aS r1 a26 aSv an aok ast (x := t) (k := k) (by have := ls_gen aok asm ht.1 ht.2; omega) (hd := by omega)) (fun o1 h1 w => ?_)
  rcases w with ⟨z, w0, w2, w3⟩ | ⟨E, w0, w2, w3⟩
  · refine ⟨z, w0, ?_⟩
    rcases w2 with ⟨-, -, -, w5, w6, w7⟩ | ⟨w4, -⟩
    · exact H.mv w5 w6 (w7 _ ⟨if_pos rfl, fun q q1 q2 => ((if_neg (by omega)).trans (if_pos (by omega))).trans (congrArg S (by omega)), fun q q1 q2 => (if_neg q2).trans (if_neg q1)⟩) ast w3 (ok_drop aok asm anr ht hk)
    · cases w4
  · rcases w2 with ⟨w4, -⟩ | ⟨-, w4, -⟩
    · cases w4
    · exact absurd ⟨ht.1, ht.2, hk⟩ w4
theorem m_slow {t : Int} (H : pzI L F b h n S T) (ht : 0 ≤ t ∧ t ≤ 1) (hl : S (0 + t) ≤ 6) (hd : 6 ≤ d) : Cv d 53 [.ref 28, yi t] h (yE (fun _ h1 => pzI L F (b + 1) h1 (inc6 n) (nxSlow S t) (rcU n S T))) := by
  have H0 := H
  obtain ⟨⟨⟨od, a28, -⟩, ⟨zz, oo, f9, g9, r9, t9, aS, ast⟩, aSv, -, -⟩, ⟨-, a26⟩, ⟨r1, -, -⟩, ⟨aok, an⟩, asm, anr, -⟩ := H0
  refine Ev.imp (c_X8_slow a28 aS r1 a26 aSv an aok ast (x := t) (by omega) (hd := by omega)) (fun o1 h1 w => ?_)
  rcases w with ⟨z, w0, w2, w3⟩ | ⟨E, w0, w2, w3⟩
  · refine ⟨z, w0, ?_⟩
    rcases w2 with ⟨-, -, -, w5, w6, w7⟩ | ⟨w4, -⟩ | ⟨w4, -⟩
    · exact H.mv w5 w6 (w7 _ ⟨fun q q1 q2 => ((if_neg (by omega)).trans (if_pos (by omega))).trans (congrArg S (by omega)), if_pos rfl, fun q q1 q2 => (if_neg q1).trans (if_neg q2)⟩) ast w3 (ok_slow aok asm anr ht hl)
    · cases w4
    · cases w4
  · rcases w2 with ⟨w4, -⟩ | ⟨-, w4, -⟩ | ⟨-, w4, -⟩
    · cases w4
    · exact absurd ht w4
    · exact absurd (by omega) w4.2.2
theorem m_flip {t : Int} (H : pzI L F b h n S T) (ht : 0 ≤ t ∧ t ≤ 1) (hd : 6 ≤ d) : Cv d 54 [.ref 28, yi t] h (yE (fun _ h1 => pzI L F (b + 1) h1 (inc6 n) (nxFlip S t) (rcU n S T))) := by
  have H0 := H
  obtain ⟨⟨⟨od, a28, -⟩, ⟨zz, oo, f9, g9, r9, t9, aS, ast⟩, aSv, -, -⟩, ⟨-, a26⟩, ⟨r1, -, -⟩, ⟨aok, an⟩, asm, anr, -⟩ := H0
  refine Ev.imp (c_X8_flip a28 aS r1 a26 aSv an aok ast (x := t) (by omega) (hd := by omega)) (fun o1 h1 w => ?_)
  rcases w with ⟨z, w0, w2, w3⟩ | ⟨E, w0, w2, w3⟩
  · refine ⟨z, w0, ?_⟩
    rcases w2 with ⟨-, -, -, w5, w6, w7⟩ | ⟨w4, -⟩
    · exact H.mv w5 w6 (w7 _ ⟨fun q q1 q2 => (if_pos (by omega)).trans (congrArg S (by omega)), fun q q1 => if_neg q1⟩) ast w3 (ok_flip aok asm anr ht)
    · cases w4
  · rcases w2 with ⟨w4, -⟩ | ⟨-, w4, -⟩
    · cases w4
    · exact absurd ht w4
theorem m_exchange (H : pzI L F b h n S T) (hd : 6 ≤ d) : Cv d 55 [.ref 28] h (yE (fun _ h1 => pzI L F (b + 1) h1 (inc6 n) (nxEx S) (rcU n S T))) := by
  have H0 := H
  obtain ⟨⟨⟨od, a28, -⟩, ⟨zz, oo, f9, g9, r9, t9, aS, ast⟩, aSv, -, -⟩, ⟨-, a26⟩, ⟨r1, -, -⟩, ⟨aok, an⟩, asm, anr, -⟩ := H0
  refine Ev.imp (c_X8_exchange a28 aS r1 a26 aSv an aok ast (hd := by omega)) (fun o1 h1 w => ?_)
  rcases w with ⟨z, w0, w2, w3⟩ | ⟨E, w0, w2, w3⟩
  · refine ⟨z, w0, ?_⟩
    obtain ⟨-, -, -, w5, w6, w7⟩ := w2
    exact H.mv w5 w6 (w7 _ ⟨fun q q1 q2 => ⟨((if_neg (by omega)).trans ((if_neg (by omega)).trans (if_pos (by omega)))).trans (congrArg S (by omega)), ((if_neg (by omega)).trans ((if_neg (by omega)).trans ((if_neg (by omega)).trans (if_pos (by omega))))).trans (congrArg S (by omega))⟩, rfl, rfl, fun q q1 q2 => (if_neg (by omega)).trans ((if_neg (by omega)).trans ((if_neg (by omega)).trans (if_neg (by omega))))⟩) ast w3 (ok_ex aok asm anr)
  · obtain ⟨w4, -⟩ := w2
    cases w4
theorem m_setBound {y : Int} (H : pzI L F b h n S T) (hy : 0 ≤ y ∧ y ≤ 20) (hd : 6 ≤ d) : Cv d 56 [.ref 28, yi y] h (yE (fun _ h1 => pzI L F (b + 1) h1 (inc6 n) (up S 2 y) (rcU n S T))) := by
  have H0 := H
  obtain ⟨⟨⟨od, a28, -⟩, ⟨zz, oo, f9, g9, r9, t9, aS, ast⟩, aSv, -, -⟩, ⟨-, a26⟩, ⟨r1, -, -⟩, ⟨aok, an⟩, asm, anr, -⟩ := H0
  refine Ev.imp (c_X8_setBound a28 aS r1 a26 aSv an aok ast (x := y) (by omega) (hd := by omega)) (fun o1 h1 w => ?_)
  rcases w with ⟨z, w0, w2, w3⟩ | ⟨E, w0, w2, w3⟩
  · refine ⟨z, w0, ?_⟩
    rcases w2 with ⟨-, -, -, w5, w6, w7⟩ | ⟨w4, -⟩
    · exact H.mv w5 w6 (w7 _ rfl) ast w3 (ok_num (i := 2) aok asm anr (by decide) ⟨fun _ => hy, fun e => absurd e (by decide), fun e => absurd e (by decide)⟩)
    · cases w4
  · rcases w2 with ⟨w4, -⟩ | ⟨-, w4, -⟩
    · cases w4
    · exact absurd hy w4
theorem m_setHold {y : Int} (H : pzI L F b h n S T) (hy : 0 ≤ y ∧ y ≤ 50) (hd : 6 ≤ d) : Cv d 57 [.ref 28, yi y] h (yE (fun _ h1 => pzI L F (b + 1) h1 (inc6 n) (up S 3 y) (rcU n S T))) := by
  have H0 := H
  obtain ⟨⟨⟨od, a28, -⟩, ⟨zz, oo, f9, g9, r9, t9, aS, ast⟩, aSv, -, -⟩, ⟨-, a26⟩, ⟨r1, -, -⟩, ⟨aok, an⟩, asm, anr, -⟩ := H0
  refine Ev.imp (c_X8_setHold a28 aS r1 a26 aSv an aok ast (x := y) (by omega) (hd := by omega)) (fun o1 h1 w => ?_)
  rcases w with ⟨z, w0, w2, w3⟩ | ⟨E, w0, w2, w3⟩
  · refine ⟨z, w0, ?_⟩
    rcases w2 with ⟨-, -, -, w5, w6, w7⟩ | ⟨w4, -⟩
    · exact H.mv w5 w6 (w7 _ rfl) ast w3 (ok_num (i := 3) aok asm anr (by decide) ⟨fun e => absurd e (by decide), fun _ => hy, fun e => absurd e (by decide)⟩)
    · cases w4
  · rcases w2 with ⟨w4, -⟩ | ⟨-, w4, -⟩
    · cases w4
    · exact absurd hy w4
theorem m_setJudge {y : Int} (H : pzI L F b h n S T) (hy : 0 ≤ y ∧ y ≤ 3) (hd : 6 ≤ d) : Cv d 58 [.ref 28, yi y] h (yE (fun _ h1 => pzI L F (b + 1) h1 (inc6 n) (up S 4 y) (rcU n S T))) := by
  have H0 := H
  obtain ⟨⟨⟨od, a28, -⟩, ⟨zz, oo, f9, g9, r9, t9, aS, ast⟩, aSv, -, -⟩, ⟨-, a26⟩, ⟨r1, -, -⟩, ⟨aok, an⟩, asm, anr, -⟩ := H0
  refine Ev.imp (c_X8_setJudge a28 aS r1 a26 aSv an aok ast (x := y) (by omega) (hd := by omega)) (fun o1 h1 w => ?_)
  rcases w with ⟨z, w0, w2, w3⟩ | ⟨E, w0, w2, w3⟩
  · refine ⟨z, w0, ?_⟩
    rcases w2 with ⟨-, -, -, w5, w6, w7⟩ | ⟨w4, -⟩
    · exact H.mv w5 w6 (w7 _ rfl) ast w3 (ok_num (i := 4) aok asm anr (by decide) ⟨fun e => absurd e (by decide), fun e => absurd e (by decide), fun _ => hy⟩)
    · cases w4
  · rcases w2 with ⟨w4, -⟩ | ⟨-, w4, -⟩
    · cases w4
    · exact absurd hy w4
theorem m_undo {S0 : Int → Int} (H : pzI L F b h n S T) (hn1 : 1 ≤ n) (h0 : ∀ q, 0 ≤ q → q < 47 → T (47 * (n - 1) + q) = S0 q) (nr : nrS S0) (hd : 6 ≤ d) : Cv d 62 [.ref 28] h (yE (fun z h1 => z = n - 1 ∧ pzI L F (b + 1) h1 (n - 1) S0 T)) := by
  have H0 := H
  obtain ⟨⟨⟨od, a28, -⟩, ⟨zz, oo, f9, g9, r9, t9, aS, ast⟩, aSv, -, -⟩, ⟨-, a26⟩, ⟨r1, -, -⟩, ⟨aok, an⟩, asm, anr, aT⟩ := H0
  refine Ev.imp (c_X8_undo a28 aS r1 aSv an (hd := by omega)) (fun o1 h1 w => ?_)
  rcases w with ⟨z, w0, w2, w3⟩ | ⟨E, w0, w2, w3⟩
  · refine ⟨z, w0, ?_⟩
    rcases w2 with ⟨-, -, w4, w5, w6, w7, f2, g2, r2, t2, w8, w9⟩ | ⟨w4, -⟩
    · have e : ∀ q, 0 ≤ q → q < 47 → S0 q = slc T (n - 1).toNat q := by
        intro q q1 q2
        rw [← h0 q q1 q2]
        show T _ = T (47 * (((n - 1).toNat : Nat) : Int) + q)
        rw [show (((n - 1).toNat : Nat) : Int) = n - 1 by omega]
      have hl := w7.1
      have s := aT (n - 1).toNat (by omega)
      refine ⟨w4, H.mv0 w5 w6 ⟨zz, oo, f2, g2, r2, t2, w8.cong w7 e, w9.cong e⟩ w3 (w7.cong e) (by omega) ⟨?_, ?_⟩ nr (fun i hi => aT i (by omega))⟩
      · rw [e 0 (by decide) (by decide)]
        exact s.1
      · rw [e 1 (by decide) (by decide)]
        exact s.2
    · cases w4
  · rcases w2 with ⟨w4, -⟩ | ⟨-, w4, -⟩
    · cases w4
    · exact absurd w4 (by omega)
end PV
