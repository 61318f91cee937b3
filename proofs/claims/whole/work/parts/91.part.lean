/-! One part is done. -/
/-- what the part of the word w, with the number x and the c pitches A, makes of a tune: z: 0, or why not -/
def doT (w : Nat) (x c : Int) (A : Int → Int) (f : Int → Int) (n z n2 : Int) (g : Int → Int) : Prop :=
  (w = 0 ∧ ((z = 1 ∧ 20 < c ∧ n2 = n ∧ g = f) ∨ (z = 0 ∧ c ≤ 20 ∧ n2 = c ∧ ∀ q, 0 ≤ q → q < c → g q = A q))) ∨
  (w = 1 ∧ ((z = 2 ∧ ¬ canF f n x ∧ n2 = n ∧ g = f) ∨ (z = 0 ∧ canF f n x ∧ n2 = n ∧ ∀ q, 0 ≤ q → q < n → g q = f q + x))) ∨
  (w = 2 ∧ ((z = 2 ∧ ¬ canF f n (-x) ∧ n2 = n ∧ g = f) ∨ (z = 0 ∧ canF f n (-x) ∧ n2 = n ∧ ∀ q, 0 ≤ q → q < n → g q = f q + (-x)))) ∨
  (w = 3 ∧ ((z = 1 ∧ ¬ 2 * n ≤ 20 ∧ n2 = n ∧ g = f) ∨ (z = 0 ∧ 2 * n ≤ 20 ∧ n2 = 2 * n ∧ ∀ q, 0 ≤ q → q < 2 * n → g q = f (q / 2)))) ∨
  (w = 4 ∧ z = 0 ∧ n2 = n ∧ ∀ q, 0 ≤ q → q < n → g q = f (n - 1 - q))
/-- what it makes of the state -/
def doesP (w : Nat) (t x c : Int) (A : Int → Int) (S S2 : Int → Int) (z : Int) : Prop :=
  (w = 0 ∧ ((z = 1 ∧ 20 < c ∧ S2 = S) ∨ (z = 0 ∧ c ≤ 20 ∧ S2 (0 + t) = c ∧ (∀ q, 0 ≤ q → q < c → S2 (7 + 20 * t + q) = A q) ∧ (∀ q, q ≠ 0 + t → ¬ (7 + 20 * t ≤ q ∧ q < 7 + 20 * t + c) → S2 q = S q)))) ∨
  (w = 1 ∧ ((z = 2 ∧ ¬ canS S t x ∧ S2 = S) ∨ (z = 0 ∧ canS S t x ∧ (∀ q, 0 ≤ q → q < S (0 + t) → S2 (7 + 20 * t + q) = S (7 + 20 * t + q) + x) ∧ (∀ q, ¬ (7 + 20 * t ≤ q ∧ q < 7 + 20 * t + S (0 + t)) → S2 q = S q)))) ∨
  (w = 2 ∧ ((z = 2 ∧ ¬ canS S t (-x) ∧ S2 = S) ∨ (z = 0 ∧ canS S t (-x) ∧ (∀ q, 0 ≤ q → q < S (0 + t) → S2 (7 + 20 * t + q) = S (7 + 20 * t + q) + (-x)) ∧ (∀ q, ¬ (7 + 20 * t ≤ q ∧ q < 7 + 20 * t + S (0 + t)) → S2 q = S q)))) ∨
  (w = 3 ∧ ((z = 1 ∧ ¬ 2 * S (0 + t) ≤ 20 ∧ S2 = S) ∨ (z = 0 ∧ 2 * S (0 + t) ≤ 20 ∧ (∀ q, 0 ≤ q → q < 2 * S (0 + t) → S2 (7 + 20 * t + q) = S (7 + 20 * t + q / 2)) ∧ S2 (0 + t) = 2 * S (0 + t) ∧ (∀ q, q ≠ 0 + t → ¬ (7 + 20 * t ≤ q ∧ q < 7 + 20 * t + 2 * S (0 + t)) → S2 q = S q)))) ∨
  (w = 4 ∧ z = 0 ∧ (∀ q, 0 ≤ q → q < S (0 + t) → S2 (7 + 20 * t + q) = S (7 + 20 * t + (S (0 + t) - 1 - q))) ∧ (∀ q, ¬ (7 + 20 * t ≤ q ∧ q < 7 + 20 * t + S (0 + t)) → S2 q = S q)) ∨
  (w = 5 ∧ z = 0 ∧ S2 = up S 2 x) ∨ (w = 6 ∧ z = 0 ∧ S2 = up S 3 x) ∨ (w = 7 ∧ z = 0 ∧ S2 = up S 4 x)
theorem doT_P {w : Nat} {t x c : Int} {A S S2 f g : Int → Int} {z z2 n2 : Int} (hw : w < 5) (ht : 0 ≤ t ∧ t ≤ 1) (hS : 0 ≤ S 0 ∧ S 0 ≤ 20 ∧ 0 ≤ S 1 ∧ S 1 ≤ 20) (hf : ∀ q, 0 ≤ q → q < S (0 + t) → f q = S (7 + 20 * t + q)) (hc : 0 ≤ c) (D : doT w x c A f (S (0 + t)) z2 n2 g) (P : doesP w t x c A S S2 z) :
    z = z2 ∧ S2 (0 + t) = n2 ∧ (∀ q, 0 ≤ q → q < n2 → g q = S2 (7 + 20 * t + q)) ∧ (∀ q, 2 ≤ q → q ≤ 4 → S2 q = S q) ∧ S2 (1 - t) = S (1 - t) ∧ (∀ q, 0 ≤ q → q < S (1 - t) → S2 (27 - 20 * t + q) = S (27 - 20 * t + q)) := by
  have hl : 0 ≤ S (0 + t) ∧ S (0 + t) ≤ 20 ∧ S (1 - t) ≤ 20 := by
    rcases (by omega : t = 0 ∨ t = 1) with rfl | rfl
    · exact ⟨hS.1, hS.2.1, hS.2.2.2⟩
    · exact ⟨hS.2.2.1, hS.2.2.2, hS.2.1⟩
  obtain ⟨l1, l2, l3⟩ := hl
  have cS : ∀ b, canF f (S (0 + t)) b ↔ canS S t b := fun b => canF_S hf
  have same : S2 = S → n2 = S (0 + t) → g = f → S2 (0 + t) = n2 ∧ (∀ q, 0 ≤ q → q < n2 → g q = S2 (7 + 20 * t + q)) ∧ (∀ q, 2 ≤ q → q ≤ 4 → S2 q = S q) ∧ S2 (1 - t) = S (1 - t) ∧ (∀ q, 0 ≤ q → q < S (1 - t) → S2 (27 - 20 * t + q) = S (27 - 20 * t + q)) := by
    intro e1 e2 e3
    subst e1; subst e2; subst e3
    exact ⟨rfl, hf, fun _ _ _ => rfl, rfl, fun _ _ _ => rfl⟩
  unfold doT at D
  unfold doesP at P
  rcases P with ⟨w0, P⟩ | ⟨w0, P⟩ | ⟨w0, P⟩ | ⟨w0, P⟩ | ⟨w0, P⟩ | ⟨w0, P⟩ | ⟨w0, P⟩ | ⟨w0, P⟩
  · have D : (z2 = 1 ∧ 20 < c ∧ n2 = S (0 + t) ∧ g = f) ∨ (z2 = 0 ∧ c ≤ 20 ∧ n2 = c ∧ ∀ q, 0 ≤ q → q < c → g q = A q) := by
      rcases D with ⟨-, D⟩ | ⟨v, -⟩ | ⟨v, -⟩ | ⟨v, -⟩ | ⟨v, -⟩
      · exact D
      all_goals (exfalso; omega)
    rcases P with ⟨p1, p2, p3⟩ | ⟨p1, p2, p3, p4, p5⟩ <;> rcases D with ⟨d1, d2, d3, d4⟩ | ⟨d1, d2, d3, d4⟩
    · exact ⟨by omega, same p3 d3 d4⟩
    · exfalso; omega
    · exfalso; omega
    · subst d3
      exact ⟨by omega, p3, fun q q1 q2 => (d4 q q1 q2).trans (p4 q q1 q2).symm, fun q q1 q2 => p5 q (by omega) (by omega), p5 _ (by omega) (by omega), fun q q1 q2 => p5 _ (by omega) (by omega)⟩
  · have D : (z2 = 2 ∧ ¬ canF f (S (0 + t)) x ∧ n2 = S (0 + t) ∧ g = f) ∨ (z2 = 0 ∧ canF f (S (0 + t)) x ∧ n2 = S (0 + t) ∧ ∀ q, 0 ≤ q → q < S (0 + t) → g q = f q + x) := by
      rcases D with ⟨v, -⟩ | ⟨-, D⟩ | ⟨v, -⟩ | ⟨v, -⟩ | ⟨v, -⟩
      · exfalso; omega
      · exact D
      all_goals (exfalso; omega)
    rcases P with ⟨p1, p2, p3⟩ | ⟨p1, p2, p3, p4⟩ <;> rcases D with ⟨d1, d2, d3, d4⟩ | ⟨d1, d2, d3, d4⟩
    · exact ⟨by omega, same p3 d3 d4⟩
    · exact absurd ((cS x).mp d2) p2
    · exact absurd ((cS x).mpr p2) d2
    · exact ⟨by omega, by rw [d3]; exact p4 _ (by omega), fun q q1 q2 => by rw [d4 q q1 (by omega), p3 q q1 (by omega), hf q q1 (by omega)], fun q q1 q2 => p4 q (by omega), p4 _ (by omega), fun q q1 q2 => p4 _ (by omega)⟩
  · have D : (z2 = 2 ∧ ¬ canF f (S (0 + t)) (-x) ∧ n2 = S (0 + t) ∧ g = f) ∨ (z2 = 0 ∧ canF f (S (0 + t)) (-x) ∧ n2 = S (0 + t) ∧ ∀ q, 0 ≤ q → q < S (0 + t) → g q = f q + (-x)) := by
      rcases D with ⟨v, -⟩ | ⟨v, -⟩ | ⟨-, D⟩ | ⟨v, -⟩ | ⟨v, -⟩
      · exfalso; omega
      · exfalso; omega
      · exact D
      all_goals (exfalso; omega)
    rcases P with ⟨p1, p2, p3⟩ | ⟨p1, p2, p3, p4⟩ <;> rcases D with ⟨d1, d2, d3, d4⟩ | ⟨d1, d2, d3, d4⟩
    · exact ⟨by omega, same p3 d3 d4⟩
    · exact absurd ((cS (-x)).mp d2) p2
    · exact absurd ((cS (-x)).mpr p2) d2
    · exact ⟨by omega, by rw [d3]; exact p4 _ (by omega), fun q q1 q2 => by rw [d4 q q1 (by omega), p3 q q1 (by omega), hf q q1 (by omega)], fun q q1 q2 => p4 q (by omega), p4 _ (by omega), fun q q1 q2 => p4 _ (by omega)⟩
  · have D : (z2 = 1 ∧ ¬ 2 * S (0 + t) ≤ 20 ∧ n2 = S (0 + t) ∧ g = f) ∨ (z2 = 0 ∧ 2 * S (0 + t) ≤ 20 ∧ n2 = 2 * S (0 + t) ∧ ∀ q, 0 ≤ q → q < 2 * S (0 + t) → g q = f (q / 2)) := by
      rcases D with ⟨v, -⟩ | ⟨v, -⟩ | ⟨v, -⟩ | ⟨-, D⟩ | ⟨v, -⟩
      · exfalso; omega
      · exfalso; omega
      · exfalso; omega
      · exact D
      · exfalso; omega
    rcases P with ⟨p1, p2, p3⟩ | ⟨p1, p2, p3, p4, p5⟩ <;> rcases D with ⟨d1, d2, d3, d4⟩ | ⟨d1, d2, d3, d4⟩
    · exact ⟨by omega, same p3 d3 d4⟩
    · exfalso; omega
    · exfalso; omega
    · exact ⟨by omega, by rw [d3]; exact p4, fun q q1 q2 => by rw [d4 q q1 (by omega), p3 q q1 (by omega), hf (q / 2) (by omega) (by omega)], fun q q1 q2 => p5 q (by omega) (by omega), p5 _ (by omega) (by omega), fun q q1 q2 => p5 _ (by omega) (by omega)⟩
  · have D : z2 = 0 ∧ n2 = S (0 + t) ∧ ∀ q, 0 ≤ q → q < S (0 + t) → g q = f (S (0 + t) - 1 - q) := by
      rcases D with ⟨v, -⟩ | ⟨v, -⟩ | ⟨v, -⟩ | ⟨v, -⟩ | ⟨-, D⟩
      · exfalso; omega
      · exfalso; omega
      · exfalso; omega
      · exfalso; omega
      · exact D
    obtain ⟨p1, p3, p4⟩ := P
    obtain ⟨d1, d3, d4⟩ := D
    exact ⟨by omega, by rw [d3]; exact p4 _ (by omega), fun q q1 q2 => by rw [d4 q q1 (by omega), p3 q q1 (by omega), hf _ (by omega) (by omega)], fun q q1 q2 => p4 q (by omega), p4 _ (by omega), fun q q1 q2 => p4 _ (by omega)⟩
  all_goals (exfalso; omega)
theorem c_X4_singTo {d : Nat} {hp : xH} {c p k t : Int} {w : Nat} {A : Int → Int} (hr : xat hp 41 = some (.inr (5, [.ref 42, yi c, yi p, .ref w, yi k, yi t]))) (hA : xat hp 42 = some (yI 30 A)) (hc : 0 ≤ c ∧ c ≤ 30) {a b : Nat} (hab : 28 ≤ a ∧ 28 ≤ b ∧ a ≠ b ∧ a ≠ 41 ∧ a ≠ 42 ∧ b ≠ 41 ∧ b ≠ 42) {f : Int → Int} {n : Int} (ha : xat hp a = some (.inr (7, [.ref b, yi n]))) (hf : xat hp b = some (yI 20 f)) (hn : 0 ≤ n ∧ n ≤ 20) (hd : 2 ≤ d) : Cv d 43 [.ref 41, .ref a] hp (yE (fun z h => ((z = 0 ∧ 20 < c ∧ h = hp) ∨ (z = 1 ∧ c ≤ 20 ∧ ∃ g, xat h a = some (.inr (7, [.ref b, yi c])) ∧ xat h b = some (yI 20 g) ∧ (∀ q, 0 ≤ q → q < c → g q = A q))) ∧ yfr [a, b] hp h)) := by
  have hk : xtab 43 = (xc_43, 3, 2, []) := rfl
  obtain ⟨d, rfl⟩ : ∃ e, d = e + 1 := ⟨d - 1, by omega⟩
  have hap : 28 ≤ a ∧ 28 ≤ b ∧ a ≠ b := by omega
  show Ev (d + 1) 43 0 [(0, .ref 41), (1, .ref a)] [] hp _
  refine E_run hk 1 (j' := 1) (lv' := [(0, .ref 41), (1, .ref a)]) (st' := [.ref 41]) (hp' := hp) rfl ?_
  refine E_get (v := yi c) hk rfl hr rfl ?_
  refine E_run hk 1 (j' := 3) (lv' := [(0, .ref 41), (1, .ref a)]) (st' := [yi 20, yi c]) (hp' := hp) rfl ?_
  refine Y_ic_le (a := c) (b := 20) (by omega) hk rfl (fun g1 => ?_) (fun g1 => ?_)
  ·
    refine E_run hk 2 (j' := 8) (lv' := [(0, .ref 41), (1, .ref a)]) (st' := [yi 0, .ref a]) (hp' := hp) rfl ?_
    refine Y_put hk rfl ha (show xNC ≤ a from (by omega : 28 ≤ a)) (Nat.le_of_ble_eq_true rfl) rfl (fs' := [.ref b, yi 0]) rfl (fun H2 e3 f4 => ?_)
    refine E_run hk 2 (j' := 11) (lv' := [(2, yi 0), (0, .ref 41), (1, .ref a)]) (st' := []) (hp' := H2) rfl ?_
    have loop11 : ∀ (N : Nat) (i : Int) (g : Int → Int) (hl11 : xH), (0 ≤ i ∧ i ≤ c) → (∀ q, 0 ≤ q → q < i → g q = A q) → (xat hl11 a = some (.inr (7, [.ref b, yi i]))) → (xat hl11 b = some (yI 20 g)) → (yfr [a, b] H2 hl11) → (c - i).toNat = N → Ev (d + 1) 43 11 [(0, .ref 41), (1, .ref a), (2, yi i)] [] hl11 (yE (fun z h => ((z = 0 ∧ 20 < c ∧ h = hp) ∨ (z = 1 ∧ c ≤ 20 ∧ ∃ g, xat h a = some (.inr (7, [.ref b, yi c])) ∧ xat h b = some (yI 20 g) ∧ (∀ q, 0 ≤ q → q < c → g q = A q))) ∧ yfr [a, b] hp h)) := by
      intro N
      induction N using Nat.strongRecOn with
      | ind N ih11 =>
        intro i g hl11 Ji J ec11_a ec11_b fr11 hm11
        refine E_run hk 1 (j' := 12) (lv' := [(0, .ref 41), (1, .ref a), (2, yi i)]) (st' := [yi i]) (hp' := hl11) rfl ?_
        refine E_run hk 1 (j' := 13) (lv' := [(0, .ref 41), (1, .ref a), (2, yi i)]) (st' := [.ref 41, yi i]) (hp' := hl11) rfl ?_
        refine E_get (v := yi c) hk rfl (fr11.at (by simp only [List.mem_cons, List.not_mem_nil, or_false, not_or]; exact ⟨(by omega), (by omega)⟩) (f4.at (by simp only [List.mem_cons, List.not_mem_nil, or_false, not_or]; exact (by omega)) hr)) rfl ?_
        refine Y_ic_ge (a := i) (b := c) (by omega) hk rfl (fun g5 => ?_) (fun g5 => ?_)
        ·
          refine E_run hk 1 (j' := 29) (lv' := [(0, .ref 41), (1, .ref a), (2, yi i)]) (st' := [yi 1]) (hp' := hl11) rfl ?_
          exact E_ret hk rfl rfl ⟨_, rfl, Or.inr ⟨rfl, by omega, _, by have e9 := ec11_a; rw [show i = c by omega] at e9; exact e9, ec11_b, fun q q1 q2 => J q q1 (by omega)⟩, (yfr.tr (f4.mono (by simp)) fr11 (fun _ h => h) (by simp))⟩
        ·
          refine E_run hk 2 (j' := 17) (lv' := [(0, .ref 41), (1, .ref a), (2, yi i)]) (st' := [.ref 41, yi i]) (hp' := hl11) rfl ?_
          refine E_get (v := .ref 42) hk rfl (fr11.at (by simp only [List.mem_cons, List.not_mem_nil, or_false, not_or]; exact ⟨(by omega), (by omega)⟩) (f4.at (by simp only [List.mem_cons, List.not_mem_nil, or_false, not_or]; exact (by omega)) hr)) rfl ?_
          refine Y_alen (by decide) hk rfl (fr11.at (by simp only [List.mem_cons, List.not_mem_nil, or_false, not_or]; exact ⟨(by omega), (by omega)⟩) (f4.at (by simp only [List.mem_cons, List.not_mem_nil, or_false, not_or]; exact (by omega)) hA)) ?_
          refine Y_ic_ge (a := i) (b := 30) (by omega) hk rfl (fun g6 => ?_) (fun g6 => ?_)
          ·
            refine E_run hk 1 (j' := 29) (lv' := [(0, .ref 41), (1, .ref a), (2, yi i)]) (st' := [yi 1]) (hp' := hl11) rfl ?_
            exact E_ret hk rfl rfl ⟨_, rfl, Or.inr ⟨rfl, by omega, _, by have e9 := ec11_a; rw [show i = c by omega] at e9; exact e9, ec11_b, fun q q1 q2 => J q q1 (by omega)⟩, (yfr.tr (f4.mono (by simp)) fr11 (fun _ h => h) (by simp))⟩
          ·
            refine E_run hk 2 (j' := 22) (lv' := [(0, .ref 41), (1, .ref a), (2, yi i)]) (st' := [.ref 41, .ref a]) (hp' := hl11) rfl ?_
            refine E_get (v := .ref 42) hk rfl (fr11.at (by simp only [List.mem_cons, List.not_mem_nil, or_false, not_or]; exact ⟨(by omega), (by omega)⟩) (f4.at (by simp only [List.mem_cons, List.not_mem_nil, or_false, not_or]; exact (by omega)) hr)) rfl ?_
            refine E_run hk 1 (j' := 24) (lv' := [(0, .ref 41), (1, .ref a), (2, yi i)]) (st' := [yi i, .ref 42, .ref a]) (hp' := hl11) rfl ?_
            refine Y_iald (a := i) (by omega) (by decide) hk rfl (fr11.at (by simp only [List.mem_cons, List.not_mem_nil, or_false, not_or]; exact ⟨(by omega), (by omega)⟩) (f4.at (by simp only [List.mem_cons, List.not_mem_nil, or_false, not_or]; exact (by omega)) hA)) ?_
            refine Y_call hk rfl (as := [.ref a, yi (A i)]) (rest := []) (v := none) rfl rfl (Nat.le_of_ble_eq_true rfl) (rcv0 ec11_a) (Nat.le_of_ble_eq_true rfl) (c_X6_add (z := (A i)) (a := a) (p := b) (f := g) (n := i) hap ec11_a ec11_b (by omega) (hd := by omega)) (fun H7 r8 => ?_)
            obtain ⟨l_H7, e_H7, f_H7⟩ := r8
            refine Y_iinc (a := i) (z := 1) hk rfl rfl rfl (by decide) (lv' := [(2, yi (i + 1)), (0, .ref 41), (1, .ref a)]) rfl ?_
            refine E_run hk 1 (j' := 11) (lv' := [(2, yi (i + 1)), (0, .ref 41), (1, .ref a)]) (st' := []) (hp' := H7) rfl ?_
            exact Ev_le (xle_s rfl rfl (xle_s rfl rfl (xle_s rfl rfl (xle_z _ rfl)))) (ih11 _ (by omega) (i + 1) (up g i (A i)) H7 (by omega) (fun q q1 q2 => by by_cases e9 : q = i; rw [e9, up_self]; rw [up_ne _ _ e9]; exact J q q1 (by omega)) l_H7 e_H7 (yfr.tr fr11 f_H7 (fun _ h => h) (by simp)) rfl)
    exact Ev_le (xle_s rfl rfl (xle_s rfl rfl (xle_s rfl rfl (xle_z _ rfl)))) (loop11 _ 0 f H2 (by omega) (fun q q1 q2 => absurd q2 (by omega)) e3 (f4.at (by simp only [List.mem_cons, List.not_mem_nil, or_false, not_or]; exact (by omega)) hf) (yfr.refl _ _) rfl)
  ·
    refine E_run hk 1 (j' := 5) (lv' := [(0, .ref 41), (1, .ref a)]) (st' := [yi 0]) (hp' := hp) rfl ?_
    exact E_ret hk rfl rfl ⟨_, rfl, Or.inl ⟨rfl, by omega, rfl⟩, (yfr.refl _ _)⟩
theorem c_X8_raise {d : Nat} {hp : xH} {a b : Nat} (hab : 28 ≤ a ∧ 28 ≤ b ∧ a ≠ b ∧ a ≠ 41 ∧ a ≠ 42 ∧ b ≠ 41 ∧ b ≠ 42) {f : Int → Int} {n : Int} (ha : xat hp a = some (.inr (7, [.ref b, yi n]))) (hf : xat hp b = some (yI 20 f)) (hn : 0 ≤ n ∧ n ≤ 20) (hpf : ∀ q, 0 ≤ q → q < n → 0 ≤ f q ∧ f q ≤ 60) {x : Int} (hx : -12 ≤ x ∧ x ≤ 12) (hd : 2 ≤ d) : Cv d 134 [.ref a, yi x] hp (yE (fun z h => ((z = 2 ∧ ¬ canF f n x ∧ h = hp) ∨ (z = 0 ∧ canF f n x ∧ ∃ g, xat h b = some (yI 20 g) ∧ (∀ q, 0 ≤ q → q < n → g q = f q + x))) ∧ yfr [b] hp h)) := by
  have hk : xtab 134 = (xc_134, 2, 1, []) := rfl
  obtain ⟨d, rfl⟩ : ∃ e, d = e + 1 := ⟨d - 1, by omega⟩
  have hap : 28 ≤ a ∧ 28 ≤ b ∧ a ≠ b := by omega
  show Ev (d + 1) 134 0 [(0, .ref a), (1, yi x)] [] hp _
  refine E_run hk 2 (j' := 2) (lv' := [(0, .ref a), (1, yi x)]) (st' := [yi x, .ref a]) (hp' := hp) rfl ?_
  refine Y_callP hk rfl (as := [.ref a, yi x]) (rest := []) (v := some (yi (@b2 (canF f n x) (Classical.propDecidable _)))) rfl rfl (Nat.le_of_ble_eq_true rfl) (rcv0 ha) (Nat.le_of_ble_eq_true rfl) (c_X6_canRise (b := x) (a := a) (p := b) (f := f) (n := n) hap ha hf (by omega) hpf (by omega) (hd := by omega)) ?_
  refine Y_b_ne hk rfl (fun g1 => ?_) (fun g1 => ?_)
  ·
    refine E_run hk 2 (j' := 8) (lv' := [(0, .ref a), (1, yi x)]) (st' := [yi x, .ref a]) (hp' := hp) rfl ?_
    refine Y_call hk rfl (as := [.ref a, yi x]) (rest := []) (v := none) rfl rfl (Nat.le_of_ble_eq_true rfl) (rcv0 ha) (Nat.le_of_ble_eq_true rfl) (c_X6_rise (b := x) (a := a) (p := b) (f := f) (n := n) hap ha hf (by omega) hpf (by omega) (hd := by omega)) (fun H2 r3 => ?_)
    obtain ⟨F_H2, e_H2, a_H2, f_H2⟩ := r3
    refine E_run hk 1 (j' := 10) (lv' := [(0, .ref a), (1, yi x)]) (st' := [yi 0]) (hp' := H2) rfl ?_
    exact E_ret hk rfl rfl ⟨_, rfl, Or.inr ⟨rfl, by assumption, _, e_H2, a_H2⟩, f_H2⟩
  ·
    refine E_run hk 1 (j' := 5) (lv' := [(0, .ref a), (1, yi x)]) (st' := [yi 2]) (hp' := hp) rfl ?_
    exact E_ret hk rfl rfl ⟨_, rfl, Or.inl ⟨rfl, by assumption, rfl⟩, (yfr.refl _ _)⟩
theorem c_X8_doWithTune {d : Nat} {hp : xH} {kp cl od : Int} (h28 : xat hp 28 = some (.inr (8, [.ref 29, .ref 34, .ref 35, yi kp, .ref 40, yi cl, .ref 41, .ref 43, yi od, .ref 56, .ref 58]))) {c p k t : Int} {w : Nat} {A : Int → Int} (hr : xat hp 41 = some (.inr (5, [.ref 42, yi c, yi p, .ref w, yi k, yi t]))) (hA : xat hp 42 = some (yI 30 A)) (hC : yC hp) (hw : w < 8) (hc : 0 ≤ c ∧ c ≤ 30) {a b : Nat} (hab : 28 ≤ a ∧ 28 ≤ b ∧ a ≠ b ∧ a ≠ 41 ∧ a ≠ 42 ∧ b ≠ 41 ∧ b ≠ 42) {f : Int → Int} {n : Int} (ha : xat hp a = some (.inr (7, [.ref b, yi n]))) (hf : xat hp b = some (yI 20 f)) (hn : 0 ≤ n ∧ n ≤ 20) (hpf : ∀ q, 0 ≤ q → q < n → 0 ≤ f q ∧ f q ≤ 60) (hw5 : w < 5) (hx : (w = 1 ∨ w = 2) → 0 ≤ lnm A c ∧ lnm A c ≤ 12) (ha8 : a ≠ 28 ∧ b ≠ 28) (hd : 3 ≤ d) : Cv d 133 [.ref 28, .ref w, .ref a] hp (yE (fun z h => ∃ n2 g, doT w (lnm A c) c A f n z n2 g ∧ xat h a = some (.inr (7, [.ref b, yi n2])) ∧ xat h b = some (yI 20 g) ∧ yfr [a, b] hp h)) := by
  have hk : xtab 133 = (xc_133, 3, 1, []) := rfl
  obtain ⟨d, rfl⟩ : ∃ e, d = e + 1 := ⟨d - 1, by omega⟩
  have hap : 28 ≤ a ∧ 28 ≤ b ∧ a ≠ b := by omega
  show Ev (d + 1) 133 0 [(0, .ref 28), (1, .ref w), (2, .ref a)] [] hp _
  refine E_run hk 1 (j' := 1) (lv' := [(0, .ref 28), (1, .ref w), (2, .ref a)]) (st' := [.ref w]) (hp' := hp) rfl ?_
  refine E_gets hk rfl ?_
  refine Y_ac_ne (c := w) (b := 0) (by omega) hk rfl (hC.wd (w := w) (by omega)) (hC.wd (w := 0) (by omega)) (fun g1 => ?_) (fun g1 => ?_)
  ·
    refine E_run hk 1 (j' := 13) (lv' := [(0, .ref 28), (1, .ref w), (2, .ref a)]) (st' := [.ref w]) (hp' := hp) rfl ?_
    refine E_gets hk rfl ?_
    refine Y_ac_ne (c := w) (b := 1) (by omega) hk rfl (hC.wd (w := w) (by omega)) (hC.wd (w := 1) (by omega)) (fun g2 => ?_) (fun g2 => ?_)
    ·
      refine E_run hk 1 (j' := 22) (lv' := [(0, .ref 28), (1, .ref w), (2, .ref a)]) (st' := [.ref w]) (hp' := hp) rfl ?_
      refine E_gets hk rfl ?_
      refine Y_ac_ne (c := w) (b := 2) (by omega) hk rfl (hC.wd (w := w) (by omega)) (hC.wd (w := 2) (by omega)) (fun g3 => ?_) (fun g3 => ?_)
      ·
        refine E_run hk 1 (j' := 32) (lv' := [(0, .ref 28), (1, .ref w), (2, .ref a)]) (st' := [.ref w]) (hp' := hp) rfl ?_
        refine E_gets hk rfl ?_
        refine Y_ac_ne (c := w) (b := 4) (by omega) hk rfl (hC.wd (w := w) (by omega)) (hC.wd (w := 4) (by omega)) (fun g4 => ?_) (fun g4 => ?_)
        ·
          refine E_run hk 1 (j' := 39) (lv' := [(0, .ref 28), (1, .ref w), (2, .ref a)]) (st' := [.ref a]) (hp' := hp) rfl ?_
          refine Y_callP hk rfl (as := [.ref a]) (rest := []) (v := some (yi (b2 (2 * n ≤ 20)))) rfl rfl (Nat.le_of_ble_eq_true rfl) (rcv0 ha) (Nat.le_of_ble_eq_true rfl) (c_X6_canDouble (a := a) (p := b) (f := f) (n := n) hap ha hf (by omega)) ?_
          refine Y_b_ne hk rfl (fun g5 => ?_) (fun g5 => ?_)
          ·
            refine E_run hk 1 (j' := 44) (lv' := [(0, .ref 28), (1, .ref w), (2, .ref a)]) (st' := [.ref a]) (hp' := hp) rfl ?_
            refine Y_call hk rfl (as := [.ref a]) (rest := []) (v := none) rfl rfl (Nat.le_of_ble_eq_true rfl) (rcv0 ha) (Nat.le_of_ble_eq_true rfl) (c_X6_doubleNotes (a := a) (p := b) (f := f) (n := n) hap ha hf (by omega) (by omega) (hd := by omega)) (fun H6 r7 => ?_)
            obtain ⟨F_H6, l_H6, e_H6, a_H6, f_H6⟩ := r7
            refine E_run hk 1 (j' := 46) (lv' := [(0, .ref 28), (1, .ref w), (2, .ref a)]) (st' := [yi 0]) (hp' := H6) rfl ?_
            exact E_ret hk rfl rfl ⟨_, rfl, _, _, (Or.inr (Or.inr (Or.inr (Or.inl ⟨by omega, Or.inr ⟨rfl, by omega, rfl, a_H6⟩⟩)))), l_H6, e_H6, f_H6⟩
          ·
            refine E_run hk 1 (j' := 42) (lv' := [(0, .ref 28), (1, .ref w), (2, .ref a)]) (st' := [yi 1]) (hp' := hp) rfl ?_
            exact E_ret hk rfl rfl ⟨_, rfl, _, _, (Or.inr (Or.inr (Or.inr (Or.inl ⟨by omega, Or.inl ⟨rfl, by omega, rfl, rfl⟩⟩)))), ha, hf, (yfr.refl _ _)⟩
        ·
          refine E_run hk 1 (j' := 35) (lv' := [(0, .ref 28), (1, .ref w), (2, .ref a)]) (st' := [.ref a]) (hp' := hp) rfl ?_
          refine Y_call hk rfl (as := [.ref a]) (rest := []) (v := none) rfl rfl (Nat.le_of_ble_eq_true rfl) (rcv0 ha) (Nat.le_of_ble_eq_true rfl) (c_X6_turnRound (a := a) (p := b) (f := f) (n := n) hap ha hf (by omega) (hd := by omega)) (fun H8 r9 => ?_)
          obtain ⟨F_H8, e_H8, a_H8, f_H8⟩ := r9
          refine E_run hk 1 (j' := 37) (lv' := [(0, .ref 28), (1, .ref w), (2, .ref a)]) (st' := [yi 0]) (hp' := H8) rfl ?_
          exact E_ret hk rfl rfl ⟨_, rfl, _, _, (Or.inr (Or.inr (Or.inr (Or.inr ⟨by assumption, rfl, rfl, a_H8⟩)))), (f_H8.at (by simp only [List.mem_cons, List.not_mem_nil, or_false, not_or]; exact (by omega)) ha), e_H8, (f_H8.mono (by simp))⟩
      ·
        have hx9 := hx (Or.inr (by assumption))
        refine E_run hk 2 (j' := 26) (lv' := [(0, .ref 28), (1, .ref w), (2, .ref a)]) (st' := [.ref 28, .ref a]) (hp' := hp) rfl ?_
        refine E_get (v := .ref 41) hk rfl h28 rfl ?_
        refine Y_callP hk rfl (as := [.ref 41]) (rest := [.ref a]) (v := some (yi (lnm A c))) rfl rfl (Nat.le_of_ble_eq_true rfl) (rcv0 hr) (Nat.le_of_ble_eq_true rfl) (c_X4_lastNumber hr hA (by omega)) ?_
        refine Y_ineg (a := (lnm A c)) hk rfl ?_
        refine Y_callE hk rfl (as := [.ref a, yi (-(lnm A c))]) (rest := []) rfl rfl (Nat.le_of_ble_eq_true rfl) rfl (Nat.le_of_ble_eq_true rfl) (c_X8_raise (a := a) (b := b) hab ha hf (by omega) hpf (x := (-(lnm A c))) (by omega) (hd := by omega)) (fun z10 H11 r12 => ?_)
        obtain ⟨r1_H11, f_H11⟩ := r12
        exact E_ret hk rfl rfl (by
      rcases r1_H11 with ⟨a9, b9, e9⟩ | ⟨a9, b9, g9, d9, e9⟩
      · subst e9; exact ⟨_, rfl, _, _, (Or.inr (Or.inr (Or.inl ⟨by assumption, Or.inl ⟨a9, b9, rfl, rfl⟩⟩))), ha, hf, yfr.refl _ _⟩
      · exact ⟨_, rfl, _, _, (Or.inr (Or.inr (Or.inl ⟨by assumption, Or.inr ⟨a9, b9, rfl, e9⟩⟩))), (f_H11.at (by simp only [List.mem_cons, List.not_mem_nil, or_false, not_or]; exact (by omega)) ha), d9, (f_H11.mono (by simp))⟩)
    ·
      have hx9 := hx (Or.inl (by assumption))
      refine E_run hk 2 (j' := 17) (lv' := [(0, .ref 28), (1, .ref w), (2, .ref a)]) (st' := [.ref 28, .ref a]) (hp' := hp) rfl ?_
      refine E_get (v := .ref 41) hk rfl h28 rfl ?_
      refine Y_callP hk rfl (as := [.ref 41]) (rest := [.ref a]) (v := some (yi (lnm A c))) rfl rfl (Nat.le_of_ble_eq_true rfl) (rcv0 hr) (Nat.le_of_ble_eq_true rfl) (c_X4_lastNumber hr hA (by omega)) ?_
      refine Y_callE hk rfl (as := [.ref a, yi (lnm A c)]) (rest := []) rfl rfl (Nat.le_of_ble_eq_true rfl) rfl (Nat.le_of_ble_eq_true rfl) (c_X8_raise (a := a) (b := b) hab ha hf (by omega) hpf (x := (lnm A c)) (by omega) (hd := by omega)) (fun z13 H14 r15 => ?_)
      obtain ⟨r1_H14, f_H14⟩ := r15
      exact E_ret hk rfl rfl (by
      rcases r1_H14 with ⟨a9, b9, e9⟩ | ⟨a9, b9, g9, d9, e9⟩
      · subst e9; exact ⟨_, rfl, _, _, (Or.inr (Or.inl ⟨by assumption, Or.inl ⟨a9, b9, rfl, rfl⟩⟩)), ha, hf, yfr.refl _ _⟩
      · exact ⟨_, rfl, _, _, (Or.inr (Or.inl ⟨by assumption, Or.inr ⟨a9, b9, rfl, e9⟩⟩)), (f_H14.at (by simp only [List.mem_cons, List.not_mem_nil, or_false, not_or]; exact (by omega)) ha), d9, (f_H14.mono (by simp))⟩)
  ·
    refine E_run hk 1 (j' := 4) (lv' := [(0, .ref 28), (1, .ref w), (2, .ref a)]) (st' := [.ref 28]) (hp' := hp) rfl ?_
    refine E_get (v := .ref 41) hk rfl h28 rfl ?_
    refine E_run hk 1 (j' := 6) (lv' := [(0, .ref 28), (1, .ref w), (2, .ref a)]) (st' := [.ref a, .ref 41]) (hp' := hp) rfl ?_
    refine Y_callE hk rfl (as := [.ref 41, .ref a]) (rest := []) rfl rfl (Nat.le_of_ble_eq_true rfl) (rcv0 hr) (Nat.le_of_ble_eq_true rfl) (c_X4_singTo hr hA (by omega) (a := a) (b := b) hab ha hf (by omega) (hd := by omega)) (fun z16 H17 r18 => ?_)
    obtain ⟨r1_H17, f_H17⟩ := r18
    have zr_H17 : z16 = 0 ∨ z16 = 1 := by rcases r1_H17 with ⟨a9, -⟩ | ⟨a9, -⟩ <;> rw [a9] <;> simp
    refine Y_if_eq (a := z16) (by omega) hk rfl (fun g19 => ?_) (fun g19 => ?_)
    ·
      refine E_run hk 1 (j' := 11) (lv' := [(0, .ref 28), (1, .ref w), (2, .ref a)]) (st' := [yi 1]) (hp' := H17) rfl ?_
      exact E_ret hk rfl rfl (by
      rcases r1_H17 with ⟨a9, b9, e9⟩ | ⟨a9, -⟩
      · subst e9; exact ⟨_, rfl, _, _, (Or.inl ⟨by assumption, Or.inl ⟨rfl, b9, rfl, rfl⟩⟩), ha, hf, yfr.refl _ _⟩
      · exfalso; omega)
    ·
      refine E_run hk 2 (j' := 11) (lv' := [(0, .ref 28), (1, .ref w), (2, .ref a)]) (st' := [yi 0]) (hp' := H17) rfl ?_
      exact E_ret hk rfl rfl (by
      rcases r1_H17 with ⟨a9, -⟩ | ⟨a9, b9, g9, c9, d9, e9⟩
      · exfalso; omega
      · exact ⟨_, rfl, _, _, (Or.inl ⟨by assumption, Or.inr ⟨rfl, b9, rfl, e9⟩⟩), c9, d9, f_H17⟩)
