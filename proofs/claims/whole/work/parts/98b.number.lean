/-! The reference reads a number. -/
def nps (l u : Int) (s : rS) : Prop := s.p = 3 ∧ wlo s.w = l ∧ whi s.w = u ∧ 0 ≤ s.c ∧ s.c < 30
theorem up_up (A : Int → Int) (c a b : Int) : up (up A c a) c b = up A c b := by
  funext q
  unfold up
  split <;> rfl
theorem lnm_up {A : Int → Int} {c z : Int} (h : 0 ≤ c ∧ c < 30) : lnm (up A c z) (c + 1) = z := by
  unfold lnm
  rw [if_pos (by omega), show c + 1 - 1 = c by omega, up_self]
theorem num_first {X : Int → Int} {l u a : Int} {s : rS} (hs : nps l u s) (hu : 9 ≤ u) (hx : 48 + l ≤ X a ∧ X a ≤ 57) (hl : 0 ≤ l) : tks X (a + 1 - a).toNat a s = some ⟨s.c + 1, 4, s.w, s.k, s.t, up s.A s.c (X a - 48)⟩ := by
  obtain ⟨h1, h2, h3, h4, h5⟩ := hs
  rw [show (a + 1 - a).toNat = 0 + 1 by omega, tks_c (tk3 h1 (by unfold dig; omega))]
  rfl
theorem num_no {X : Int → Int} {l u a : Int} {s : rS} (hs : nps l u s) (hx : ¬ (48 + l ≤ X a ∧ X a ≤ 57)) : tk s (X a) = none := by
  obtain ⟨h1, h2, h3, h4, h5⟩ := hs
  exact tk3n h1 (by unfold dig; omega)
theorem num_next {X : Int → Int} {l u b a z : Int} {s : rS} (hs : nps l u s) (t : tks X (a - b).toNat b s = some ⟨s.c + 1, 4, s.w, s.k, s.t, up s.A s.c z⟩) (hb : b ≤ a) (hx : 48 ≤ X a ∧ X a ≤ 57) (hz : 0 < z) (hu : 10 * z + X a - 48 ≤ u) : tks X (a + 1 - b).toNat b s = some ⟨s.c + 1, 4, s.w, s.k, s.t, up s.A s.c (10 * z + X a - 48)⟩ := by
  obtain ⟨h1, h2, h3, h4, h5⟩ := hs
  have e := lnm_up (A := s.A) (c := s.c) (z := z) ⟨h4, h5⟩
  have k := tk4a (s := (⟨s.c + 1, 4, s.w, s.k, s.t, up s.A s.c z⟩ : rS)) (x := X a) rfl (by
    show dig2 (s.c + 1) s.w (lnm (up s.A s.c z) (s.c + 1)) (X a)
    rw [e]
    unfold dig2
    omega)
  rw [show (a + 1 - b).toNat = (a - b).toNat + 1 by omega]
  refine tks_s _ _ _ _ _ t ?_
  rw [show b + (((a - b).toNat : Nat) : Int) = a by omega, k]
  show some (⟨s.c + 1, 4, s.w, s.k, s.t, up (up s.A s.c z) (s.c + 1 - 1) (lnm (up s.A s.c z) (s.c + 1) * 10 + (X a - 48))⟩ : rS) = _
  rw [e, show s.c + 1 - 1 = s.c by omega, up_up, show z * 10 + (X a - 48) = 10 * z + X a - 48 by omega]
/-- no sign is a semicolon -/
def n59 (X : Int → Int) (b a : Int) : Prop := ∀ q, b ≤ q → q < a → X q ≠ 59
theorem n59.nil {X : Int → Int} {b : Int} : n59 X b b := fun q q1 q2 => absurd q2 (by omega)
theorem n59.one {X : Int → Int} {b a : Int} (h : n59 X b a) (hx : X a ≠ 59) : n59 X b (a + 1) := fun q q1 q2 => by
  by_cases e : q = a
  · rw [e]
    exact hx
  · exact h q q1 (by omega)
theorem n59.tr {X : Int → Int} {b a c : Int} (h : n59 X b a) (g : n59 X a c) : n59 X b c := fun q q1 q2 => by
  by_cases e : q < a
  · exact h q q1 e
  · exact g q (by omega) q2
/-- what is read of a number from a on -/
def nmb (X : Int → Int) (n l u a z a' w' : Int) : Prop :=
  (w' = 0 ∧ a' = a ∧ ∀ s, nps l u s → a = n ∨ tk s (X a) = none) ∨
  (w' = 1 ∧ a < a' ∧ a' ≤ n ∧ 0 ≤ z ∧ z ≤ u ∧ n59 X a a' ∧ ∀ s, nps l u s → tks X (a' - a).toNat a s = some ⟨s.c + 1, 4, s.w, s.k, s.t, up s.A s.c z⟩ ∧ (a' < n → ¬ dig2 (s.c + 1) s.w z (X a')))
theorem c_X9_number {d : Nat} {hp : xH} {v : Nat → Int} (hM : xat hp 63 = some (yMo v)) {X : Int → Int} (hX : xat hp 67 = some (yI 60 X)) (hn : 0 ≤ v 7 ∧ v 7 ≤ 60) (hc : ∀ q, 0 ≤ q → q < v 7 → 33 ≤ X q ∧ X q ≤ 126) (ha : 0 ≤ v 8 ∧ v 8 ≤ v 7) (hw : v 9 = 0 ∨ v 9 = 1) {l u : Int} (hl : 0 ≤ l ∧ l ≤ 1) (hu : 9 ≤ u ∧ u ≤ 60) (hd : 2 ≤ d) : Cv d 201 [.ref 63, yi l, yi u] hp (yE (fun z h => ∃ a2 w2, (v 9 = 1 → nmb X (v 7) l u (v 8) z a2 w2) ∧ (v 9 = 0 → w2 = 0 ∧ a2 = v 8) ∧ (-100 ≤ z ∧ z ≤ 100) ∧ xat h 63 = some (yMo (vup (vup v 9 w2) 8 a2)) ∧ yfr [63] hp h)) := by
  have hk : xtab 201 = (xc_201, 4, 1, []) := rfl
  obtain ⟨d, rfl⟩ : ∃ e, d = e + 1 := ⟨d - 1, by omega⟩
  have sr := sg_rng hc ha.1
  show Ev (d + 1) 201 0 [(0, .ref 63), (1, yi l), (2, yi u)] [] hp _
  refine E_run hk 3 (j' := 3) (lv' := [(0, .ref 63), (1, yi l), (2, yi u)]) (st' := [yi l, yi 48, .ref 63]) (hp' := hp) rfl ?_
  refine Y_iadd (a := 48) (b := l) hk rfl ?_
  refine E_run hk 1 (j' := 5) (lv' := [(0, .ref 63), (1, yi l), (2, yi u)]) (st' := [yi 57, yi (48 + l), .ref 63]) (hp' := hp) rfl ?_
  refine Y_call hk rfl (as := [.ref 63, yi (48 + l), yi 57]) (rest := []) (v := some (yi (sg X (v 7) (v 8) - 48))) rfl rfl (Nat.le_of_ble_eq_true rfl) (rcv0 hM) (Nat.le_of_ble_eq_true rfl) (c_X9_takes (v := v) hM hX hn hc (show 0 ≤ v 8 ∧ v 8 ≤ v 7 by omega) (show v 9 = 0 ∨ v 9 = 1 by omega) (l := (48 + l)) (u := 57) (by omega) (hd := by omega)) (fun H1 r2 => ?_)
  obtain ⟨e0_H1, f_H1⟩ := r2
  obtain ⟨w_H1, hq_H1⟩ : ∃ w, b2 (v 9 = 1 ∧ (48 + l) ≤ sg X (v 7) (v 8) ∧ sg X (v 7) (v 8) ≤ 57) = w := ⟨_, rfl⟩
  have e_H1 : xat H1 63 = some (yMo (vup (vup v 9 w_H1) 8 ((v 8) + w_H1))) := by rw [← hq_H1]; exact e0_H1
  obtain ⟨k1_H1, k2_H1, k3_H1⟩ := tk_step hc (show 0 ≤ v 8 ∧ v 8 ≤ v 7 by omega) (show v 9 = 0 ∨ v 9 = 1 by omega) (by omega) hq_H1
  refine E_run hk 1 (j' := 7) (lv' := [(3, yi (sg X (v 7) (v 8) - 48)), (0, .ref 63), (1, yi l), (2, yi u)]) (st' := []) (hp' := H1) rfl ?_
  have loop7 : ∀ (N : Nat) (z : Int) (a : Int) (hl7 : xH), (-100 ≤ z ∧ z ≤ 100) → (v 8 ≤ a ∧ a ≤ v 7) → (w_H1 = 0 → a = v 8) → (w_H1 = 1 → (v 8 < a ∧ 0 ≤ z ∧ z ≤ u ∧ n59 X (v 8) a ∧ ∀ s, nps l u s → tks X (a - v 8).toNat (v 8) s = some ⟨s.c + 1, 4, s.w, s.k, s.t, up s.A s.c z⟩)) → (xat hl7 63 = some (yMo (vup (vup v 9 w_H1) 8 a))) → (yfr [63] H1 hl7) → (v 7 - a).toNat = N → Ev (d + 1) 201 7 [(0, .ref 63), (1, yi l), (2, yi u), (3, yi z)] [] hl7 (yE (fun z h => ∃ a2 w2, (v 9 = 1 → nmb X (v 7) l u (v 8) z a2 w2) ∧ (v 9 = 0 → w2 = 0 ∧ a2 = v 8) ∧ (-100 ≤ z ∧ z ≤ 100) ∧ xat h 63 = some (yMo (vup (vup v 9 w2) 8 a2)) ∧ yfr [63] hp h)) := by
    intro N
    induction N using Nat.strongRecOn with
    | ind N ih7 =>
      intro z a hl7 Jz Ja J0 J1 ec7_63 fr7 hm7
      refine E_run hk 1 (j' := 8) (lv' := [(0, .ref 63), (1, yi l), (2, yi u), (3, yi z)]) (st' := [.ref 63]) (hp' := hl7) rfl ?_
      refine E_get (v := yi w_H1) hk rfl ec7_63 rfl ?_
      refine Y_if_eq (a := w_H1) (by omega) hk rfl (fun g3 => ?_) (fun g3 => ?_)
      ·
        refine E_run hk 1 (j' := 45) (lv' := [(0, .ref 63), (1, yi l), (2, yi u), (3, yi z)]) (st' := [yi z]) (hp' := hl7) rfl ?_
        exact E_ret hk rfl rfl (by
      refine ⟨z, rfl, a, w_H1, fun hv9 => ?_, fun hv9 => ?_, Jz, ec7_63, (yfr.tr f_H1 fr7 (fun _ h => h) (by decide))⟩
      · rcases k3_H1 with ⟨x1, x2, x3, x4, x5⟩ | ⟨x1, x2⟩
        · obtain ⟨y1, y2, y3, y5, y4⟩ := J1 x1
          refine Or.inr ⟨x1, y1, by omega, y2, y3, y5, fun s hs => ⟨y4 s hs, fun w8 => ?_⟩⟩
          rintro ⟨d1, d2, d3, d4, -, -⟩
          rw [hs.2.2.1] at d4
          have sr9 := sg_rng (a := a) hc (by omega)
          omega
        · refine Or.inl ⟨x1, by have := J0 x1; omega, fun s hs => ?_⟩
          rcases (show v 8 = v 7 ∨ ¬ (48 + l ≤ X (v 8) ∧ X (v 8) ≤ 57) by omega) with w8 | w8
          · exact Or.inl w8
          · exact Or.inr (num_no hs w8)
      · rcases k3_H1 with ⟨x1, x2, x3, x4, x5⟩ | ⟨x1, x2⟩
        · exfalso; omega
        · exact ⟨x1, J0 x1⟩)
      ·
        have sra := sg_rng (a := a) hc (by omega)
        refine E_run hk 1 (j' := 11) (lv' := [(0, .ref 63), (1, yi l), (2, yi u), (3, yi z)]) (st' := [yi z]) (hp' := hl7) rfl ?_
        refine Y_if_le (a := z) (by omega) hk rfl (fun g4 => ?_) (fun g4 => ?_)
        ·
          refine E_run hk 1 (j' := 45) (lv' := [(0, .ref 63), (1, yi l), (2, yi u), (3, yi z)]) (st' := [yi z]) (hp' := hl7) rfl ?_
          exact E_ret hk rfl rfl (by
      refine ⟨z, rfl, a, w_H1, fun hv9 => ?_, fun hv9 => ?_, Jz, ec7_63, (yfr.tr f_H1 fr7 (fun _ h => h) (by decide))⟩
      · rcases k3_H1 with ⟨x1, x2, x3, x4, x5⟩ | ⟨x1, x2⟩
        · obtain ⟨y1, y2, y3, y5, y4⟩ := J1 x1
          refine Or.inr ⟨x1, y1, by omega, y2, y3, y5, fun s hs => ⟨y4 s hs, fun w8 => ?_⟩⟩
          rintro ⟨d1, d2, d3, d4, -, -⟩
          rw [hs.2.2.1] at d4
          have sr9 := sg_rng (a := a) hc (by omega)
          omega
        · refine Or.inl ⟨x1, by have := J0 x1; omega, fun s hs => ?_⟩
          rcases (show v 8 = v 7 ∨ ¬ (48 + l ≤ X (v 8) ∧ X (v 8) ≤ 57) by omega) with w8 | w8
          · exact Or.inl w8
          · exact Or.inr (num_no hs w8)
      · rcases k3_H1 with ⟨x1, x2, x3, x4, x5⟩ | ⟨x1, x2⟩
        · exfalso; omega
        · exact ⟨x1, J0 x1⟩)
        ·
          refine E_run hk 1 (j' := 13) (lv' := [(0, .ref 63), (1, yi l), (2, yi u), (3, yi z)]) (st' := [.ref 63]) (hp' := hl7) rfl ?_
          refine Y_callP hk rfl (as := [.ref 63]) (rest := []) (v := some (yi (sg X (v 7) a))) rfl rfl (Nat.le_of_ble_eq_true rfl) (rcv0 ec7_63) (Nat.le_of_ble_eq_true rfl) (c_X9_sign (v := (vup (vup v 9 w_H1) 8 a)) ec7_63 (fr7.at (by decide) (f_H1.at (by decide) hX)) (by first | exact hn | (show 0 ≤ v 7 ∧ v 7 ≤ 60; omega)) (by first | exact ha | (show 0 ≤ a ∧ a ≤ v 7; omega))) ?_
          refine E_run hk 2 (j' := 16) (lv' := [(0, .ref 63), (1, yi l), (2, yi u), (3, yi z)]) (st' := [yi 57, yi 48, yi (sg X (v 7) a)]) (hp' := hl7) rfl ?_
          refine Y_callP hk rfl (as := [yi (sg X (v 7) a), yi 48, yi 57]) (rest := []) (v := some (yi (b2 (48 ≤ (sg X (v 7) a) ∧ (sg X (v 7) a) ≤ 57)))) rfl rfl (Nat.le_of_ble_eq_true rfl) rfl (Nat.le_of_ble_eq_true rfl) (c_X9_in (v := (sg X (v 7) a)) (l := 48) (m := 57) (by omega)) ?_
          refine Y_b_eq hk rfl (fun g5 => ?_) (fun g5 => ?_)
          ·
            refine E_run hk 1 (j' := 45) (lv' := [(0, .ref 63), (1, yi l), (2, yi u), (3, yi z)]) (st' := [yi z]) (hp' := hl7) rfl ?_
            exact E_ret hk rfl rfl (by
      refine ⟨z, rfl, a, w_H1, fun hv9 => ?_, fun hv9 => ?_, Jz, ec7_63, (yfr.tr f_H1 fr7 (fun _ h => h) (by decide))⟩
      · rcases k3_H1 with ⟨x1, x2, x3, x4, x5⟩ | ⟨x1, x2⟩
        · obtain ⟨y1, y2, y3, y5, y4⟩ := J1 x1
          refine Or.inr ⟨x1, y1, by omega, y2, y3, y5, fun s hs => ⟨y4 s hs, fun w8 => ?_⟩⟩
          rintro ⟨d1, d2, d3, d4, -, -⟩
          rw [hs.2.2.1] at d4
          have sr9 := sg_rng (a := a) hc (by omega)
          omega
        · refine Or.inl ⟨x1, by have := J0 x1; omega, fun s hs => ?_⟩
          rcases (show v 8 = v 7 ∨ ¬ (48 + l ≤ X (v 8) ∧ X (v 8) ≤ 57) by omega) with w8 | w8
          · exact Or.inl w8
          · exact Or.inr (num_no hs w8)
      · rcases k3_H1 with ⟨x1, x2, x3, x4, x5⟩ | ⟨x1, x2⟩
        · exfalso; omega
        · exact ⟨x1, J0 x1⟩)
          ·
            refine E_run hk 2 (j' := 20) (lv' := [(0, .ref 63), (1, yi l), (2, yi u), (3, yi z)]) (st' := [yi z, yi 10]) (hp' := hl7) rfl ?_
            refine Y_imul (a := 10) (b := z) hk rfl ?_
            refine E_run hk 1 (j' := 22) (lv' := [(0, .ref 63), (1, yi l), (2, yi u), (3, yi z)]) (st' := [.ref 63, yi (10 * z)]) (hp' := hl7) rfl ?_
            refine Y_callP hk rfl (as := [.ref 63]) (rest := [yi (10 * z)]) (v := some (yi (sg X (v 7) a))) rfl rfl (Nat.le_of_ble_eq_true rfl) (rcv0 ec7_63) (Nat.le_of_ble_eq_true rfl) (c_X9_sign (v := (vup (vup v 9 w_H1) 8 a)) ec7_63 (fr7.at (by decide) (f_H1.at (by decide) hX)) (by first | exact hn | (show 0 ≤ v 7 ∧ v 7 ≤ 60; omega)) (by first | exact ha | (show 0 ≤ a ∧ a ≤ v 7; omega))) ?_
            refine Y_iadd (a := (10 * z)) (b := (sg X (v 7) a)) hk rfl ?_
            refine E_run hk 1 (j' := 25) (lv' := [(0, .ref 63), (1, yi l), (2, yi u), (3, yi z)]) (st' := [yi 48, yi ((10 * z) + (sg X (v 7) a))]) (hp' := hl7) rfl ?_
            refine Y_isub (a := ((10 * z) + (sg X (v 7) a))) (b := 48) hk rfl ?_
            refine E_run hk 1 (j' := 27) (lv' := [(0, .ref 63), (1, yi l), (2, yi u), (3, yi z)]) (st' := [yi u, yi (((10 * z) + (sg X (v 7) a)) - 48)]) (hp' := hl7) rfl ?_
            refine Y_ic_gt (a := (((10 * z) + (sg X (v 7) a)) - 48)) (b := u) (by omega) hk rfl (fun g6 => ?_) (fun g6 => ?_)
            ·
              refine E_run hk 1 (j' := 45) (lv' := [(0, .ref 63), (1, yi l), (2, yi u), (3, yi z)]) (st' := [yi z]) (hp' := hl7) rfl ?_
              exact E_ret hk rfl rfl (by
      refine ⟨z, rfl, a, w_H1, fun hv9 => ?_, fun hv9 => ?_, Jz, ec7_63, (yfr.tr f_H1 fr7 (fun _ h => h) (by decide))⟩
      · rcases k3_H1 with ⟨x1, x2, x3, x4, x5⟩ | ⟨x1, x2⟩
        · obtain ⟨y1, y2, y3, y5, y4⟩ := J1 x1
          refine Or.inr ⟨x1, y1, by omega, y2, y3, y5, fun s hs => ⟨y4 s hs, fun w8 => ?_⟩⟩
          rintro ⟨d1, d2, d3, d4, -, -⟩
          rw [hs.2.2.1] at d4
          have sr9 := sg_rng (a := a) hc (by omega)
          omega
        · refine Or.inl ⟨x1, by have := J0 x1; omega, fun s hs => ?_⟩
          rcases (show v 8 = v 7 ∨ ¬ (48 + l ≤ X (v 8) ∧ X (v 8) ≤ 57) by omega) with w8 | w8
          · exact Or.inl w8
          · exact Or.inr (num_no hs w8)
      · rcases k3_H1 with ⟨x1, x2, x3, x4, x5⟩ | ⟨x1, x2⟩
        · exfalso; omega
        · exact ⟨x1, J0 x1⟩)
            ·
              refine E_run hk 2 (j' := 30) (lv' := [(0, .ref 63), (1, yi l), (2, yi u), (3, yi z)]) (st' := [yi z, yi 10]) (hp' := hl7) rfl ?_
              refine Y_imul (a := 10) (b := z) hk rfl ?_
              refine E_run hk 1 (j' := 32) (lv' := [(0, .ref 63), (1, yi l), (2, yi u), (3, yi z)]) (st' := [.ref 63, yi (10 * z)]) (hp' := hl7) rfl ?_
              refine Y_callP hk rfl (as := [.ref 63]) (rest := [yi (10 * z)]) (v := some (yi (sg X (v 7) a))) rfl rfl (Nat.le_of_ble_eq_true rfl) (rcv0 ec7_63) (Nat.le_of_ble_eq_true rfl) (c_X9_sign (v := (vup (vup v 9 w_H1) 8 a)) ec7_63 (fr7.at (by decide) (f_H1.at (by decide) hX)) (by first | exact hn | (show 0 ≤ v 7 ∧ v 7 ≤ 60; omega)) (by first | exact ha | (show 0 ≤ a ∧ a ≤ v 7; omega))) ?_
              refine Y_iadd (a := (10 * z)) (b := (sg X (v 7) a)) hk rfl ?_
              refine E_run hk 1 (j' := 35) (lv' := [(0, .ref 63), (1, yi l), (2, yi u), (3, yi z)]) (st' := [yi 48, yi ((10 * z) + (sg X (v 7) a))]) (hp' := hl7) rfl ?_
              refine Y_isub (a := ((10 * z) + (sg X (v 7) a))) (b := 48) hk rfl ?_
              refine E_run hk 3 (j' := 39) (lv' := [(3, yi (((10 * z) + (sg X (v 7) a)) - 48)), (0, .ref 63), (1, yi l), (2, yi u)]) (st' := [.ref 63, .ref 63]) (hp' := hl7) rfl ?_
              refine E_get (v := yi a) hk rfl ec7_63 rfl ?_
              refine E_run hk 1 (j' := 41) (lv' := [(3, yi (((10 * z) + (sg X (v 7) a)) - 48)), (0, .ref 63), (1, yi l), (2, yi u)]) (st' := [yi 1, yi a, .ref 63]) (hp' := hl7) rfl ?_
              refine Y_iadd (a := a) (b := 1) hk rfl ?_
              refine Y_put hk rfl ec7_63 (by decide) (Nat.le_of_ble_eq_true rfl) rfl (fs' := [yi (v 0), .ref 64, .ref 65, yi (v 3), .ref 66, yi (v 5), .ref 67, yi (v 7), yi (a + 1), yi w_H1, .ref 68, yi (v 11), .ref 69, yi (v 13), .ref 70, .ref 71, .ref 72, .ref 73, .ref 74, .ref 75, yi (v 20), yi (v 21)]) rfl (fun H7 e8 f9 => ?_)
              refine E_run hk 1 (j' := 7) (lv' := [(3, yi (((10 * z) + (sg X (v 7) a)) - 48)), (0, .ref 63), (1, yi l), (2, yi u)]) (st' := []) (hp' := H7) rfl ?_
              exact Ev_le (xle_s rfl rfl (xle_s rfl rfl (xle_s rfl rfl (xle_s rfl rfl (xle_z _ rfl))))) (ih7 _ (by omega) (((10 * z) + (sg X (v 7) a)) - 48) (a + 1) H7 (by omega) (by omega) (by omega) (by intro x9; obtain ⟨y1, y2, y3, y5, y4⟩ := J1 x9; have e9 : sg X (v 7) a = X a := sg_in (by omega); rw [e9]; exact ⟨by omega, by omega, by omega, y5.one (by omega), fun s hs => num_next hs (y4 s hs) (by omega) (by omega) (by omega) (by omega)⟩) e8 (yfr.tr fr7 f9 (fun _ h => h) (by decide)) rfl)
  exact Ev_le (xle_s rfl rfl (xle_s rfl rfl (xle_s rfl rfl (xle_s rfl rfl (xle_z _ rfl))))) (loop7 _ (sg X (v 7) (v 8) - 48) ((v 8) + w_H1) H1 (by omega) (by omega) (by omega) (by intro x9; rcases k3_H1 with ⟨x1, x2, x3, x4, x5⟩ | ⟨x1, x2⟩; rw [x1, sg_in x3]; exact ⟨by omega, by omega, by omega, n59.nil.one (by omega), fun s hs => num_first hs hu.1 (by omega) hl.1⟩; omega) e_H1 (yfr.refl _ _) rfl)
