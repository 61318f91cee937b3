/-! The class: part matches (58; grids 59 61). -/
def cn1 (l t c b : Int) : Int := if c < l ∨ (c = l ∧ t < b) then c else l
def cn2 (l t c b : Int) : Int := if c < l ∨ (c = l ∧ t < b) then b else t
theorem cn_rng (l t c b : Int) : ((c < l ∨ (c = l ∧ t < b)) ∧ cn1 l t c b = c ∧ cn2 l t c b = b) ∨ (¬ (c < l ∨ (c = l ∧ t < b)) ∧ cn1 l t c b = l ∧ cn2 l t c b = t) := by
  unfold cn1 cn2
  by_cases h : c < l ∨ (c = l ∧ t < b)
  · rw [if_pos h, if_pos h]
    exact Or.inl ⟨h, rfl, rfl⟩
  · rw [if_neg h, if_neg h]
    exact Or.inr ⟨h, rfl, rfl⟩
theorem mxb_or {P : Prop} [Decidable P] {x s : Int} : ((P ∧ s < x) ∧ mxb P x s = x) ∨ (¬ (P ∧ s < x) ∧ mxb P x s = s) := by
  unfold mxb
  split
  · rename_i h
    exact Or.inl ⟨h, rfl⟩
  · rename_i h
    exact Or.inr ⟨h, rfl⟩
theorem pb_le {D : Int → Int → Int} {w : Int} : ∀ (N : Nat) (i j : Int), 0 ≤ i → 0 ≤ j → (i + 1).toNat + (j + 1).toNat = N → pb D w i j ≤ j := by
  intro N
  induction N using Nat.strongRecOn with
  | ind N ih =>
    intro i j hi hj hN
    rw [pb_in ⟨hi, hj⟩]
    have a1 := fun q1 q2 => ih _ (by omega) (i - 1) (j - 1) q1 q2 rfl
    have a2 := fun q1 => ih _ (by omega) (i - 1) j q1 hj rfl
    have a3 := fun q2 => ih _ (by omega) i (j - 1) hi q2 rfl
    have m1 := mxb_or (P := 0 ≤ i - 1 ∧ 0 ≤ j - 1 ∧ pc D w (i - 1) (j - 1) = pcf D w i j) (x := pb D w (i - 1) (j - 1)) (s := if i = 0 then j else -1)
    have m0 : (if i = 0 then j else -1) ≤ j := by split <;> omega
    generalize (if i = 0 then j else -1) = e0 at *
    generalize mxb (0 ≤ i - 1 ∧ 0 ≤ j - 1 ∧ pc D w (i - 1) (j - 1) = pcf D w i j) (pb D w (i - 1) (j - 1)) e0 = e1 at *
    have m2 := mxb_or (P := 0 ≤ i - 1 ∧ 0 ≤ j ∧ pc D w (i - 1) j = pcf D w i j - w) (x := pb D w (i - 1) j) (s := e1)
    generalize mxb (0 ≤ i - 1 ∧ 0 ≤ j ∧ pc D w (i - 1) j = pcf D w i j - w) (pb D w (i - 1) j) e1 = e2 at *
    have m3 := mxb_or (P := 0 ≤ i ∧ 0 ≤ j - 1 ∧ pc D w i (j - 1) = pcf D w i j - w) (x := pb D w i (j - 1)) (s := e2)
    generalize mxb (0 ≤ i ∧ 0 ≤ j - 1 ∧ pc D w i (j - 1) = pcf D w i j - w) (pb D w i (j - 1)) e2 = e3 at *
    have k1 : e1 ≤ j := by rcases m1 with m1 | m1 <;> omega
    have k2 : e2 ≤ j := by rcases m2 with m2 | m2 <;> omega
    rcases m3 with m3 | m3 <;> omega
theorem mxb_f {P : Prop} [Decidable P] {x s : Int} (h : ¬ (P ∧ s < x)) : mxb P x s = s := if_neg h
theorem mxb_t {P : Prop} [Decidable P] {x s : Int} (h : P ∧ s < x) : mxb P x s = x := if_pos h
theorem mxb_iff {P Q : Prop} [Decidable P] [Decidable Q] {x s : Int} (h : P ↔ Q) : mxb P x s = mxb Q x s := by
  by_cases p : P ∧ s < x
  · rw [mxb_t p, mxb_t ⟨h.mp p.1, p.2⟩]
  · rw [mxb_f p, mxb_f (fun z => p ⟨h.mpr z.1, z.2⟩)]
theorem cn_keep {l t c b : Int} (h : ¬ (c < l ∨ (c = l ∧ t < b))) : cn1 l t c b = l ∧ cn2 l t c b = t := ⟨if_neg h, if_neg h⟩
theorem cn_take {l t c b : Int} (h : c < l ∨ (c = l ∧ t < b)) : cn1 l t c b = c ∧ cn2 l t c b = b := ⟨if_pos h, if_pos h⟩
theorem cn_tri {c1 b1 c2 b2 c3 b3 w M : Int} (hM : M = least c1 (least c2 c3 + w)) (hb : -1 ≤ b1 ∧ -1 ≤ b2 ∧ -1 ≤ b3) :
    cn1 (cn1 c1 b1 (c2 + w) b2) (cn2 c1 b1 (c2 + w) b2) (c3 + w) b3 = M ∧ cn2 (cn1 c1 b1 (c2 + w) b2) (cn2 c1 b1 (c2 + w) b2) (c3 + w) b3 = mxb (c3 = M - w) b3 (mxb (c2 = M - w) b2 (mxb (c1 = M) b1 (-1))) := by
  have s1 := least_rng c2 c3
  have s2 := least_rng c1 (least c2 c3 + w)
  rw [← hM] at s2
  generalize least c2 c3 = N at *
  clear hM
  have x2 := cn_rng c1 b1 (c2 + w) b2
  generalize cn1 c1 b1 (c2 + w) b2 = l2 at *
  generalize cn2 c1 b1 (c2 + w) b2 = t2 at *
  have x3 := cn_rng l2 t2 (c3 + w) b3
  generalize cn1 l2 t2 (c3 + w) b3 = l3 at *
  generalize cn2 l2 t2 (c3 + w) b3 = t3 at *
  have m1 := mxb_or (P := c1 = M) (x := b1) (s := -1)
  generalize mxb (c1 = M) b1 (-1) = e1 at *
  have m2 := mxb_or (P := c2 = M - w) (x := b2) (s := e1)
  generalize mxb (c2 = M - w) b2 e1 = e2 at *
  have m3 := mxb_or (P := c3 = M - w) (x := b3) (s := e2)
  generalize mxb (c3 = M - w) b3 e2 = e3 at *
  rcases x2 with ⟨y1, rfl, rfl⟩ | ⟨y1, rfl, rfl⟩ <;> rcases x3 with ⟨y2, rfl, rfl⟩ | ⟨y2, rfl, rfl⟩ <;> rcases s1 with ⟨rfl, z1⟩ | ⟨rfl, z1⟩ <;> rcases s2 with ⟨rfl, z2⟩ | ⟨rfl, z2⟩ <;> first | (exfalso; omega) | skip
  all_goals (refine ⟨by omega, ?_⟩)
  all_goals (rcases m1 with m1 | m1 <;> rcases m2 with m2 | m2 <;> rcases m3 with m3 | m3 <;> omega)
/-- three candidates, one behind the other: the least cost, and the latest begin with it -/
theorem cons3 {D : Int → Int → Int} {w i j : Int} {f g : Int → Int} (hw : 0 ≤ w ∧ w ≤ 50) (h : 0 ≤ i ∧ i < 20 ∧ 0 ≤ j ∧ j < 20) (hc : ∀ x y, 0 ≤ x → 0 ≤ y → (x = i - 1 ∧ (y = j - 1 ∨ y = j)) ∨ (x = i ∧ y = j - 1) → f (20 * x + y) = pc D w x y ∧ g (20 * x + y) = pb D w x y)
    (hr : ∀ x y, 0 ≤ x → 0 ≤ y → (x = i - 1 ∧ (y = j - 1 ∨ y = j)) ∨ (x = i ∧ y = j - 1) → 0 ≤ pc D w x y ∧ pc D w x y ≤ 300000) (l0 t0 : Int) (h0 : (i = 0 ∧ l0 = 0 ∧ t0 = j) ∨ (0 < i ∧ l0 = 1000000000 ∧ t0 = -1)) :
    cn1 (cn1 (cn1 l0 t0 (gat f (i - 1) (j - 1)) (gat g (i - 1) (j - 1))) (cn2 l0 t0 (gat f (i - 1) (j - 1)) (gat g (i - 1) (j - 1))) (gat f (i - 1) j + w) (gat g (i - 1) j)) (cn2 (cn1 l0 t0 (gat f (i - 1) (j - 1)) (gat g (i - 1) (j - 1))) (cn2 l0 t0 (gat f (i - 1) (j - 1)) (gat g (i - 1) (j - 1))) (gat f (i - 1) j + w) (gat g (i - 1) j)) (gat f i (j - 1) + w) (gat g i (j - 1)) = pcf D w i j ∧
    cn2 (cn1 (cn1 l0 t0 (gat f (i - 1) (j - 1)) (gat g (i - 1) (j - 1))) (cn2 l0 t0 (gat f (i - 1) (j - 1)) (gat g (i - 1) (j - 1))) (gat f (i - 1) j + w) (gat g (i - 1) j)) (cn2 (cn1 l0 t0 (gat f (i - 1) (j - 1)) (gat g (i - 1) (j - 1))) (cn2 l0 t0 (gat f (i - 1) (j - 1)) (gat g (i - 1) (j - 1))) (gat f (i - 1) j + w) (gat g (i - 1) j)) (gat f i (j - 1) + w) (gat g i (j - 1)) = pb D w i j := by
  have gin : ∀ (k : Int → Int) x y, 0 ≤ x → 0 ≤ y → x ≤ i → y ≤ j → gat k x y = k (20 * x + y) := fun k x y x1 y1 x2 y2 => if_pos (by omega)
  have gout : ∀ (k : Int → Int) x y, x < 0 ∨ y < 0 → gat k x y = 1000000000 := fun k x y q => if_neg (by omega)
  rcases h0 with ⟨g1, g2, g3⟩ | ⟨g1, g2, g3⟩
  · have p : pcf D w i j = 0 := if_pos g1
    have pbv : pb D w i j = j := by
      rw [pb_in ⟨h.1, h.2.2.1⟩, p, if_pos g1, mxb_f (P := 0 ≤ i - 1 ∧ 0 ≤ j - 1 ∧ pc D w (i - 1) (j - 1) = 0) (fun z => by have := z.1.1; omega), mxb_f (P := 0 ≤ i - 1 ∧ 0 ≤ j ∧ pc D w (i - 1) j = 0 - w) (fun z => by have := z.1.1; omega)]
      refine mxb_f (fun z => ?_)
      have := pb_le (D := D) (w := w) _ i (j - 1) h.1 z.1.2.1 rfl
      have := z.2
      omega
    have k3 : ¬ (gat f i (j - 1) + w < 0 ∨ (gat f i (j - 1) + w = 0 ∧ j < gat g i (j - 1))) := by
      by_cases q : 0 ≤ j - 1
      · rw [gin f _ _ h.1 q (Int.le_refl _) (by omega), gin g _ _ h.1 q (Int.le_refl _) (by omega), (hc i (j - 1) h.1 q (Or.inr ⟨rfl, rfl⟩)).1, (hc i (j - 1) h.1 q (Or.inr ⟨rfl, rfl⟩)).2]
        have r := hr i (j - 1) h.1 q (Or.inr ⟨rfl, rfl⟩)
        have := pb_le (D := D) (w := w) _ i (j - 1) h.1 q rfl
        clear hc hr
        omega
      · rw [gout f _ _ (by omega), gout g _ _ (by omega)]
        omega
    rw [g2, g3, gout f (i - 1) (j - 1) (by omega), gout f (i - 1) j (by omega), (cn_keep (l := 0) (t := j) (c := 1000000000) (b := gat g (i - 1) (j - 1)) (by omega)).1, (cn_keep (l := 0) (t := j) (c := 1000000000) (b := gat g (i - 1) (j - 1)) (by omega)).2, (cn_keep (l := 0) (t := j) (c := 1000000000 + w) (b := gat g (i - 1) j) (by omega)).1, (cn_keep (l := 0) (t := j) (c := 1000000000 + w) (b := gat g (i - 1) j) (by omega)).2, (cn_keep k3).1, (cn_keep k3).2]
    exact ⟨p.symm, pbv.symm⟩
  · have c2 := hc (i - 1) j (by omega) h.2.2.1 (Or.inl ⟨rfl, Or.inr rfl⟩)
    have r2 := hr (i - 1) j (by omega) h.2.2.1 (Or.inl ⟨rfl, Or.inr rfl⟩)
    have b2 := (pb_rng (D := D) (w := w) _ (i - 1) j (by omega) rfl).1
    have G2 := gin f (i - 1) j (by omega) h.2.2.1 (by omega) (Int.le_refl _)
    have B2 := gin g (i - 1) j (by omega) h.2.2.1 (by omega) (Int.le_refl _)
    rw [c2.1] at G2
    rw [c2.2] at B2
    have pe := pb_in (D := D) (w := w) (i := i) (j := j) ⟨h.1, h.2.2.1⟩
    rw [if_neg (by omega)] at pe
    have pf : pcf D w i j = least (pc D w (i - 1) (j - 1)) (least (pc D w (i - 1) j) (pc D w i (j - 1)) + w) := if_neg (by omega)
    by_cases q : 0 ≤ j - 1
    · have c1 := hc (i - 1) (j - 1) (by omega) q (Or.inl ⟨rfl, Or.inl rfl⟩)
      have c3 := hc i (j - 1) h.1 q (Or.inr ⟨rfl, rfl⟩)
      have r1 := hr (i - 1) (j - 1) (by omega) q (Or.inl ⟨rfl, Or.inl rfl⟩)
      have b1 := (pb_rng (D := D) (w := w) _ (i - 1) (j - 1) (by omega) rfl).1
      have b3 := (pb_rng (D := D) (w := w) _ i (j - 1) (by omega) rfl).1
      have G1 := gin f (i - 1) (j - 1) (by omega) q (by omega) (by omega)
      have B1 := gin g (i - 1) (j - 1) (by omega) q (by omega) (by omega)
      have G3 := gin f i (j - 1) h.1 q (Int.le_refl _) (by omega)
      have B3 := gin g i (j - 1) h.1 q (Int.le_refl _) (by omega)
      rw [c1.1] at G1
      rw [c1.2] at B1
      rw [c3.1] at G3
      rw [c3.2] at B3
      have T := cn_tri (b1 := pb D w (i - 1) (j - 1)) (b2 := pb D w (i - 1) j) (b3 := pb D w i (j - 1)) pf ⟨b1, b2, b3⟩
      rw [g2, g3, G1, B1, G2, B2, G3, B3, (cn_take (l := 1000000000) (t := -1) (c := pc D w (i - 1) (j - 1)) (b := pb D w (i - 1) (j - 1)) (Or.inl (by omega))).1, (cn_take (l := 1000000000) (t := -1) (c := pc D w (i - 1) (j - 1)) (b := pb D w (i - 1) (j - 1)) (Or.inl (by omega))).2]
      refine ⟨T.1, T.2.trans ?_⟩
      rw [pe]
      have i1 : (0 ≤ i - 1 ∧ 0 ≤ j - 1 ∧ pc D w (i - 1) (j - 1) = pcf D w i j) ↔ (pc D w (i - 1) (j - 1) = pcf D w i j) := ⟨fun z => z.2.2, fun z => ⟨by omega, q, z⟩⟩
      have i2 : (0 ≤ i - 1 ∧ 0 ≤ j ∧ pc D w (i - 1) j = pcf D w i j - w) ↔ (pc D w (i - 1) j = pcf D w i j - w) := ⟨fun z => z.2.2, fun z => ⟨by omega, h.2.2.1, z⟩⟩
      have i3 : (0 ≤ i ∧ 0 ≤ j - 1 ∧ pc D w i (j - 1) = pcf D w i j - w) ↔ (pc D w i (j - 1) = pcf D w i j - w) := ⟨fun z => z.2.2, fun z => ⟨h.1, q, z⟩⟩
      rw [mxb_iff i1, mxb_iff i2, mxb_iff i3]
    · have o1 : pc D w (i - 1) (j - 1) = 100000000 := pc_out (by omega)
      have o3 : pc D w i (j - 1) = 100000000 := pc_out (by omega)
      have s1 := least_rng (pc D w (i - 1) j) (pc D w i (j - 1))
      have s2 := least_rng (pc D w (i - 1) (j - 1)) (least (pc D w (i - 1) j) (pc D w i (j - 1)) + w)
      rw [← pf] at s2
      have pv : pcf D w i j = pc D w (i - 1) j + w := by clear hc hr; omega
      rw [mxb_f (P := 0 ≤ i - 1 ∧ 0 ≤ j - 1 ∧ pc D w (i - 1) (j - 1) = pcf D w i j) (fun z => q z.1.2.1), mxb_f (P := 0 ≤ i ∧ 0 ≤ j - 1 ∧ pc D w i (j - 1) = pcf D w i j - w) (fun z => q z.1.2.1)] at pe
      have pv2 : pb D w i j = pb D w (i - 1) j := by
        rw [pe]
        by_cases z : -1 < pb D w (i - 1) j
        · exact mxb_t ⟨⟨by omega, h.2.2.1, by omega⟩, z⟩
        · rw [mxb_f (fun y => z y.2)]
          omega
      rw [g2, g3, gout f (i - 1) (j - 1) (by omega), gout g (i - 1) (j - 1) (by omega), gout f i (j - 1) (by omega), gout g i (j - 1) (by omega), G2, B2,
        (cn_take (l := 1000000000) (t := -1) (c := 1000000000) (b := 1000000000) (Or.inr ⟨rfl, by decide⟩)).1, (cn_take (l := 1000000000) (t := -1) (c := 1000000000) (b := 1000000000) (Or.inr ⟨rfl, by decide⟩)).2,
        (cn_take (l := 1000000000) (t := 1000000000) (c := pc D w (i - 1) j + w) (b := pb D w (i - 1) j) (Or.inl (by omega))).1, (cn_take (l := 1000000000) (t := 1000000000) (c := pc D w (i - 1) j + w) (b := pb D w (i - 1) j) (Or.inl (by omega))).2,
        (cn_keep (l := pc D w (i - 1) j + w) (t := pb D w (i - 1) j) (c := 1000000000 + w) (b := 1000000000) (by omega)).1, (cn_keep (l := pc D w (i - 1) j + w) (t := pb D w (i - 1) j) (c := 1000000000 + w) (b := 1000000000) (by omega)).2]
      exact ⟨pv.symm, pv2.symm⟩
theorem c_X3_consider {d : Nat} {hp : xH} {la fi ls lb lt : Int} (h58 : xat hp 58 = some (.inr (4, [.ref 59, .ref 61, yi la, yi fi, yi ls, yi lb, yi lt]))) {c b : Int} (hr : -2147483648 ≤ c ∧ c ≤ 2147483647 ∧ -2147483648 ≤ b ∧ b ≤ 2147483647 ∧ -2147483648 ≤ lb ∧ lb ≤ 2147483647 ∧ -2147483648 ≤ lt ∧ lt ≤ 2147483647) : Cv d 26 [.ref 58, yi c, yi b] hp (yR none (fun h => xat h 58 = some (.inr (4, [.ref 59, .ref 61, yi la, yi fi, yi ls, yi (cn1 lb lt c b), yi (cn2 lb lt c b)])) ∧ yfr [58] hp h)) := by
  have hk : xtab 26 = (xc_26, 3, 0, []) := rfl
  show Ev d 26 0 [(0, .ref 58), (1, yi c), (2, yi b)] [] hp _
  refine E_run hk 2 (j' := 2) (lv' := [(0, .ref 58), (1, yi c), (2, yi b)]) (st' := [.ref 58, yi c]) (hp' := hp) rfl ?_
  refine E_get (v := yi lb) hk rfl h58 rfl ?_
  refine Y_ic_lt (a := c) (b := lb) (by omega) hk rfl (fun g1 => ?_) (fun g1 => ?_)
  ·
    refine E_run hk 2 (j' := 14) (lv' := [(0, .ref 58), (1, yi c), (2, yi b)]) (st' := [yi c, .ref 58]) (hp' := hp) rfl ?_
    refine Y_put hk rfl h58 (by decide) (Nat.le_of_ble_eq_true rfl) rfl (fs' := [.ref 59, .ref 61, yi la, yi fi, yi ls, yi c, yi lt]) rfl (fun H2 e3 f4 => ?_)
    refine E_run hk 2 (j' := 17) (lv' := [(0, .ref 58), (1, yi c), (2, yi b)]) (st' := [yi b, .ref 58]) (hp' := H2) rfl ?_
    refine Y_put hk rfl e3 (by decide) (Nat.le_of_ble_eq_true rfl) rfl (fs' := [.ref 59, .ref 61, yi la, yi fi, yi ls, yi c, yi b]) rfl (fun H5 e6 f7 => ?_)
    exact E_ret hk rfl rfl (by
      have w := cn_rng lb lt c b
      have e1 : cn1 lb lt c b = c := by omega
      have e2 : cn2 lb lt c b = b := by omega
      refine ⟨rfl, ?_, (yfr.tr f4 f7 (fun _ h => h) (by decide))⟩
      rw [e1, e2]
      exact e6)
  ·
    refine E_run hk 2 (j' := 6) (lv' := [(0, .ref 58), (1, yi c), (2, yi b)]) (st' := [.ref 58, yi c]) (hp' := hp) rfl ?_
    refine E_get (v := yi lb) hk rfl h58 rfl ?_
    refine Y_ic_ne (a := c) (b := lb) (by omega) hk rfl (fun g8 => ?_) (fun g8 => ?_)
    ·
      exact E_ret hk rfl rfl (by
      have w := cn_rng lb lt c b
      have e1 : cn1 lb lt c b = lb := by omega
      have e2 : cn2 lb lt c b = lt := by omega
      refine ⟨rfl, ?_, (yfr.refl _ _)⟩
      rw [e1, e2]
      exact h58)
    ·
      refine E_run hk 2 (j' := 10) (lv' := [(0, .ref 58), (1, yi c), (2, yi b)]) (st' := [.ref 58, yi b]) (hp' := hp) rfl ?_
      refine E_get (v := yi lt) hk rfl h58 rfl ?_
      refine Y_ic_le (a := b) (b := lt) (by omega) hk rfl (fun g9 => ?_) (fun g9 => ?_)
      ·
        exact E_ret hk rfl rfl (by
      have w := cn_rng lb lt c b
      have e1 : cn1 lb lt c b = lb := by omega
      have e2 : cn2 lb lt c b = lt := by omega
      refine ⟨rfl, ?_, (yfr.refl _ _)⟩
      rw [e1, e2]
      exact h58)
      ·
        refine E_run hk 2 (j' := 14) (lv' := [(0, .ref 58), (1, yi c), (2, yi b)]) (st' := [yi c, .ref 58]) (hp' := hp) rfl ?_
        refine Y_put hk rfl h58 (by decide) (Nat.le_of_ble_eq_true rfl) rfl (fs' := [.ref 59, .ref 61, yi la, yi fi, yi ls, yi c, yi lt]) rfl (fun H10 e11 f12 => ?_)
        refine E_run hk 2 (j' := 17) (lv' := [(0, .ref 58), (1, yi c), (2, yi b)]) (st' := [yi b, .ref 58]) (hp' := H10) rfl ?_
        refine Y_put hk rfl e11 (by decide) (Nat.le_of_ble_eq_true rfl) rfl (fs' := [.ref 59, .ref 61, yi la, yi fi, yi ls, yi c, yi b]) rfl (fun H13 e14 f15 => ?_)
        exact E_ret hk rfl rfl (by
      have w := cn_rng lb lt c b
      have e1 : cn1 lb lt c b = c := by omega
      have e2 : cn2 lb lt c b = b := by omega
      refine ⟨rfl, ?_, (yfr.tr f12 f15 (fun _ h => h) (by decide))⟩
      rw [e1, e2]
      exact e14)
theorem c_X3_tellCell {d : Nat} {hp : xH} {la fi ls lb lt : Int} (h58 : xat hp 58 = some (.inr (4, [.ref 59, .ref 61, yi la, yi fi, yi ls, yi lb, yi lt]))) (h59 : xat hp 59 = some (.inr (1, [.ref 60]))) (h61 : xat hp 61 = some (.inr (1, [.ref 62]))) {K L : Int → Int} (h60 : xat hp 60 = some (yI 400 K)) (h62 : xat hp 62 = some (yI 400 L)) {z o : Nat} {S f g : Int → Int} {r t : Int} (hS : yS hp 29 z o S f g r t) (hz : 0 ≤ S 0 ∧ S 0 ≤ 20 ∧ 0 ≤ S 1 ∧ S 1 ≤ 20 ∧ 0 ≤ S 2 ∧ S 2 ≤ 20 ∧ 0 ≤ S 3 ∧ S 3 ≤ 50 ∧ 0 ≤ S 4 ∧ S 4 ≤ 3) (h0 : ∀ q, 0 ≤ q → q < S 0 → 0 ≤ S (7 + q) ∧ S (7 + q) ≤ 60) (h1 : ∀ q, 0 ≤ q → q < S 1 → 0 ≤ S (27 + q) ∧ S (27 + q) ≤ 60) {i j : Int} (hi : 0 ≤ i ∧ i < S 0 ∧ 0 ≤ j ∧ j < S 1) (hc : ∀ x y, 0 ≤ x → 0 ≤ y → (x = i - 1 ∧ y < S 1) ∨ (x = i ∧ y < j) → K (20 * x + y) = pc (unl S 0) (S 3) x y ∧ L (20 * x + y) = pb (unl S 0) (S 3) x y) (hd : 2 ≤ d) : Cv d 25 [.ref 58, .ref 29, yi i, yi j] hp (yR none (fun h => ∃ lb2 lt2 K2 L2, xat h 58 = some (.inr (4, [.ref 59, .ref 61, yi la, yi fi, yi ls, yi lb2, yi lt2])) ∧ xat h 60 = some (yI 400 K2) ∧ xat h 62 = some (yI 400 L2) ∧ (∀ x y, 0 ≤ x → 0 ≤ y → (x = i - 1 ∧ y < S 1) ∨ (x = i ∧ y < j + 1) → K2 (20 * x + y) = pc (unl S 0) (S 3) x y ∧ L2 (20 * x + y) = pb (unl S 0) (S 3) x y) ∧ (∀ x y, 0 ≤ x → x < i → 0 ≤ y → y < S 1 → K2 (20 * x + y) = K (20 * x + y) ∧ L2 (20 * x + y) = L (20 * x + y)) ∧ yfr [58, 60, 62] hp h)) := by
  have hk : xtab 25 = (xc_25, 4, 0, []) := rfl
  obtain ⟨d, rfl⟩ : ∃ e, d = e + 1 := ⟨d - 1, by omega⟩
  obtain ⟨hid, hs_, hz_, ho_, hf_, hg_, ef, eg⟩ := hS
  have hDD : ∀ i j, 0 ≤ i → i < S 0 → 0 ≤ j → j < S 1 → 0 ≤ unl S 0 i j ∧ unl S 0 i j ≤ 5184 := fun i j a1 a2 a3 a4 => unl_rng hz h0 h1 (by omega) a1 a2 a3 a4
  show Ev (d + 1) 25 0 [(0, .ref 58), (1, .ref 29), (2, yi i), (3, yi j)] [] hp _
  refine E_run hk 2 (j' := 2) (lv' := [(0, .ref 58), (1, .ref 29), (2, yi i), (3, yi j)]) (st' := [yi 1000000000, .ref 58]) (hp' := hp) rfl ?_
  have hr : ∀ x y, 0 ≤ x → 0 ≤ y → (x = i - 1 ∧ (y = j - 1 ∨ y = j)) ∨ (x = i ∧ y = j - 1) → 0 ≤ pc (unl S 0) (S 3) x y ∧ pc (unl S 0) (S 3) x y ≤ 300000 := fun x y x1 y1 z => by
    have r := pc_rng (w := S 3) (m := S 0) (n := S 1) (D := unl S 0) (by omega) (by omega) hDD _ x y (by omega) (by omega) rfl
    omega
  have hb0 : ∀ x y, 0 ≤ x → 0 ≤ y → (x = i - 1 ∧ (y = j - 1 ∨ y = j)) ∨ (x = i ∧ y = j - 1) → -1 ≤ pb (unl S 0) (S 3) x y ∧ pb (unl S 0) (S 3) x y ≤ 20 := fun x y x1 y1 z => pb_rng _ x y (by omega) rfl
  have hc2 : ∀ x y, 0 ≤ x → 0 ≤ y → (x = i - 1 ∧ (y = j - 1 ∨ y = j)) ∨ (x = i ∧ y = j - 1) → K (20 * x + y) = pc (unl S 0) (S 3) x y ∧ L (20 * x + y) = pb (unl S 0) (S 3) x y := fun x y x1 y1 z => hc x y x1 y1 (by omega)
  have gk : ∀ x y, (x = i - 1 ∧ (y = j - 1 ∨ y = j)) ∨ (x = i ∧ y = j - 1) → 0 ≤ gat K x y ∧ gat K x y ≤ 1000000000 ∧ -1 ≤ gat L x y ∧ gat L x y ≤ 1000000000 := fun x y z => by
    unfold gat
    by_cases q : 0 ≤ x ∧ 0 ≤ y
    · rw [if_pos (by omega), if_pos (by omega), (hc2 x y q.1 q.2 z).1, (hc2 x y q.1 q.2 z).2]
      have r1 := hr x y q.1 q.2 z
      have r2 := hb0 x y q.1 q.2 z
      omega
    · rw [if_neg (by omega), if_neg (by omega)]
      decide
  have gk1 := gk (i - 1) (j - 1) (by omega)
  have gk2 := gk (i - 1) j (by omega)
  have gk3 := gk i (j - 1) (by omega)
  have hD := hDD i j (by omega) (by omega) (by omega) (by omega)
  have pf1 := pc_rng (w := S 3) (m := S 0) (n := S 1) (D := unl S 0) (by omega) (by omega) hDD _ i j (by omega) (by omega) rfl
  refine Y_put hk rfl h58 (by decide) (Nat.le_of_ble_eq_true rfl) rfl (fs' := [.ref 59, .ref 61, yi la, yi fi, yi ls, yi 1000000000, yi lt]) rfl (fun H1 e2 f3 => ?_)
  refine E_run hk 2 (j' := 5) (lv' := [(0, .ref 58), (1, .ref 29), (2, yi i), (3, yi j)]) (st' := [yi (-1), .ref 58]) (hp' := H1) rfl ?_
  refine Y_put hk rfl e2 (by decide) (Nat.le_of_ble_eq_true rfl) rfl (fs' := [.ref 59, .ref 61, yi la, yi fi, yi ls, yi 1000000000, yi (-1)]) rfl (fun H4 e5 f6 => ?_)
  refine E_run hk 1 (j' := 7) (lv' := [(0, .ref 58), (1, .ref 29), (2, yi i), (3, yi j)]) (st' := [yi i]) (hp' := H4) rfl ?_
  refine Y_if_ne (a := i) (by omega) hk rfl (fun g7 => ?_) (fun g7 => ?_)
  ·
    refine E_run hk 2 (j' := 14) (lv' := [(0, .ref 58), (1, .ref 29), (2, yi i), (3, yi j)]) (st' := [.ref 58, .ref 58]) (hp' := H4) rfl ?_
    refine E_get (v := .ref 59) hk rfl e5 rfl ?_
    refine E_run hk 2 (j' := 17) (lv' := [(0, .ref 58), (1, .ref 29), (2, yi i), (3, yi j)]) (st' := [yi 1, yi i, .ref 59, .ref 58]) (hp' := H4) rfl ?_
    refine Y_isub (a := i) (b := 1) hk rfl ?_
    refine E_run hk 2 (j' := 20) (lv' := [(0, .ref 58), (1, .ref 29), (2, yi i), (3, yi j)]) (st' := [yi 1, yi j, yi (i - 1), .ref 59, .ref 58]) (hp' := H4) rfl ?_
    refine Y_isub (a := j) (b := 1) hk rfl ?_
    refine Y_callP hk rfl (as := [.ref 59, yi (i - 1), yi (j - 1)]) (rest := [.ref 58]) (v := some (yi (gat K (i - 1) (j - 1)))) rfl rfl (Nat.le_of_ble_eq_true rfl) (rcv0 (f6.at (by decide) (f3.at (by decide) h59))) (Nat.le_of_ble_eq_true rfl) (c_X0_at (i := (i - 1)) (j := (j - 1)) (a := 59) (p := 60) (k := K) ⟨by decide, by decide, by decide⟩ (f6.at (by decide) (f3.at (by decide) h59)) (f6.at (by decide) (f3.at (by decide) h60)) (by omega)) ?_
    refine E_run hk 1 (j' := 23) (lv' := [(0, .ref 58), (1, .ref 29), (2, yi i), (3, yi j)]) (st' := [.ref 58, yi (gat K (i - 1) (j - 1)), .ref 58]) (hp' := H4) rfl ?_
    refine E_get (v := .ref 61) hk rfl e5 rfl ?_
    refine E_run hk 2 (j' := 26) (lv' := [(0, .ref 58), (1, .ref 29), (2, yi i), (3, yi j)]) (st' := [yi 1, yi i, .ref 61, yi (gat K (i - 1) (j - 1)), .ref 58]) (hp' := H4) rfl ?_
    refine Y_isub (a := i) (b := 1) hk rfl ?_
    refine E_run hk 2 (j' := 29) (lv' := [(0, .ref 58), (1, .ref 29), (2, yi i), (3, yi j)]) (st' := [yi 1, yi j, yi (i - 1), .ref 61, yi (gat K (i - 1) (j - 1)), .ref 58]) (hp' := H4) rfl ?_
    refine Y_isub (a := j) (b := 1) hk rfl ?_
    refine Y_callP hk rfl (as := [.ref 61, yi (i - 1), yi (j - 1)]) (rest := [yi (gat K (i - 1) (j - 1)), .ref 58]) (v := some (yi (gat L (i - 1) (j - 1)))) rfl rfl (Nat.le_of_ble_eq_true rfl) (rcv0 (f6.at (by decide) (f3.at (by decide) h61))) (Nat.le_of_ble_eq_true rfl) (c_X0_at (i := (i - 1)) (j := (j - 1)) (a := 61) (p := 62) (k := L) ⟨by decide, by decide, by decide⟩ (f6.at (by decide) (f3.at (by decide) h61)) (f6.at (by decide) (f3.at (by decide) h62)) (by omega)) ?_
    refine Y_call hk rfl (as := [.ref 58, yi (gat K (i - 1) (j - 1)), yi (gat L (i - 1) (j - 1))]) (rest := []) (v := none) rfl rfl (Nat.le_of_ble_eq_true rfl) (rcv0 e5) (Nat.le_of_ble_eq_true rfl) (c_X3_consider (c := (gat K (i - 1) (j - 1))) (b := (gat L (i - 1) (j - 1))) e5 (by omega)) (fun H8 r9 => ?_)
    obtain ⟨m_H8, f_H8⟩ := r9
    have cr_H8 := cn_rng 1000000000 (-1) (gat K (i - 1) (j - 1)) (gat L (i - 1) (j - 1))
    refine E_run hk 2 (j' := 34) (lv' := [(0, .ref 58), (1, .ref 29), (2, yi i), (3, yi j)]) (st' := [.ref 58, .ref 58]) (hp' := H8) rfl ?_
    refine E_get (v := .ref 59) hk rfl m_H8 rfl ?_
    refine E_run hk 2 (j' := 37) (lv' := [(0, .ref 58), (1, .ref 29), (2, yi i), (3, yi j)]) (st' := [yi 1, yi i, .ref 59, .ref 58]) (hp' := H8) rfl ?_
    refine Y_isub (a := i) (b := 1) hk rfl ?_
    refine E_run hk 1 (j' := 39) (lv' := [(0, .ref 58), (1, .ref 29), (2, yi i), (3, yi j)]) (st' := [yi j, yi (i - 1), .ref 59, .ref 58]) (hp' := H8) rfl ?_
    refine Y_callP hk rfl (as := [.ref 59, yi (i - 1), yi j]) (rest := [.ref 58]) (v := some (yi (gat K (i - 1) j))) rfl rfl (Nat.le_of_ble_eq_true rfl) (rcv0 (f_H8.at (by decide) (f6.at (by decide) (f3.at (by decide) h59)))) (Nat.le_of_ble_eq_true rfl) (c_X0_at (i := (i - 1)) (j := j) (a := 59) (p := 60) (k := K) ⟨by decide, by decide, by decide⟩ (f_H8.at (by decide) (f6.at (by decide) (f3.at (by decide) h59))) (f_H8.at (by decide) (f6.at (by decide) (f3.at (by decide) h60))) (by omega)) ?_
    refine E_run hk 1 (j' := 41) (lv' := [(0, .ref 58), (1, .ref 29), (2, yi i), (3, yi j)]) (st' := [.ref 29, yi (gat K (i - 1) j), .ref 58]) (hp' := H8) rfl ?_
    refine E_get (v := yi (S 3)) hk rfl (f_H8.at (by decide) (f6.at (by decide) (f3.at (by decide) hs_))) rfl ?_
    refine Y_iadd (a := (gat K (i - 1) j)) (b := (S 3)) hk rfl ?_
    refine E_run hk 1 (j' := 44) (lv' := [(0, .ref 58), (1, .ref 29), (2, yi i), (3, yi j)]) (st' := [.ref 58, yi ((gat K (i - 1) j) + (S 3)), .ref 58]) (hp' := H8) rfl ?_
    refine E_get (v := .ref 61) hk rfl m_H8 rfl ?_
    refine E_run hk 2 (j' := 47) (lv' := [(0, .ref 58), (1, .ref 29), (2, yi i), (3, yi j)]) (st' := [yi 1, yi i, .ref 61, yi ((gat K (i - 1) j) + (S 3)), .ref 58]) (hp' := H8) rfl ?_
    refine Y_isub (a := i) (b := 1) hk rfl ?_
    refine E_run hk 1 (j' := 49) (lv' := [(0, .ref 58), (1, .ref 29), (2, yi i), (3, yi j)]) (st' := [yi j, yi (i - 1), .ref 61, yi ((gat K (i - 1) j) + (S 3)), .ref 58]) (hp' := H8) rfl ?_
    refine Y_callP hk rfl (as := [.ref 61, yi (i - 1), yi j]) (rest := [yi ((gat K (i - 1) j) + (S 3)), .ref 58]) (v := some (yi (gat L (i - 1) j))) rfl rfl (Nat.le_of_ble_eq_true rfl) (rcv0 (f_H8.at (by decide) (f6.at (by decide) (f3.at (by decide) h61)))) (Nat.le_of_ble_eq_true rfl) (c_X0_at (i := (i - 1)) (j := j) (a := 61) (p := 62) (k := L) ⟨by decide, by decide, by decide⟩ (f_H8.at (by decide) (f6.at (by decide) (f3.at (by decide) h61))) (f_H8.at (by decide) (f6.at (by decide) (f3.at (by decide) h62))) (by omega)) ?_
    refine Y_call hk rfl (as := [.ref 58, yi ((gat K (i - 1) j) + (S 3)), yi (gat L (i - 1) j)]) (rest := []) (v := none) rfl rfl (Nat.le_of_ble_eq_true rfl) (rcv0 m_H8) (Nat.le_of_ble_eq_true rfl) (c_X3_consider (c := ((gat K (i - 1) j) + (S 3))) (b := (gat L (i - 1) j)) m_H8 (by omega)) (fun H10 r11 => ?_)
    obtain ⟨m_H10, f_H10⟩ := r11
    have cr_H10 := cn_rng (cn1 1000000000 (-1) (gat K (i - 1) (j - 1)) (gat L (i - 1) (j - 1))) (cn2 1000000000 (-1) (gat K (i - 1) (j - 1)) (gat L (i - 1) (j - 1))) ((gat K (i - 1) j) + (S 3)) (gat L (i - 1) j)
    refine E_run hk 2 (j' := 53) (lv' := [(0, .ref 58), (1, .ref 29), (2, yi i), (3, yi j)]) (st' := [.ref 58, .ref 58]) (hp' := H10) rfl ?_
    refine E_get (v := .ref 59) hk rfl m_H10 rfl ?_
    refine E_run hk 3 (j' := 57) (lv' := [(0, .ref 58), (1, .ref 29), (2, yi i), (3, yi j)]) (st' := [yi 1, yi j, yi i, .ref 59, .ref 58]) (hp' := H10) rfl ?_
    refine Y_isub (a := j) (b := 1) hk rfl ?_
    refine Y_callP hk rfl (as := [.ref 59, yi i, yi (j - 1)]) (rest := [.ref 58]) (v := some (yi (gat K i (j - 1)))) rfl rfl (Nat.le_of_ble_eq_true rfl) (rcv0 (f_H10.at (by decide) (f_H8.at (by decide) (f6.at (by decide) (f3.at (by decide) h59))))) (Nat.le_of_ble_eq_true rfl) (c_X0_at (i := i) (j := (j - 1)) (a := 59) (p := 60) (k := K) ⟨by decide, by decide, by decide⟩ (f_H10.at (by decide) (f_H8.at (by decide) (f6.at (by decide) (f3.at (by decide) h59)))) (f_H10.at (by decide) (f_H8.at (by decide) (f6.at (by decide) (f3.at (by decide) h60)))) (by omega)) ?_
    refine E_run hk 1 (j' := 60) (lv' := [(0, .ref 58), (1, .ref 29), (2, yi i), (3, yi j)]) (st' := [.ref 29, yi (gat K i (j - 1)), .ref 58]) (hp' := H10) rfl ?_
    refine E_get (v := yi (S 3)) hk rfl (f_H10.at (by decide) (f_H8.at (by decide) (f6.at (by decide) (f3.at (by decide) hs_)))) rfl ?_
    refine Y_iadd (a := (gat K i (j - 1))) (b := (S 3)) hk rfl ?_
    refine E_run hk 1 (j' := 63) (lv' := [(0, .ref 58), (1, .ref 29), (2, yi i), (3, yi j)]) (st' := [.ref 58, yi ((gat K i (j - 1)) + (S 3)), .ref 58]) (hp' := H10) rfl ?_
    refine E_get (v := .ref 61) hk rfl m_H10 rfl ?_
    refine E_run hk 3 (j' := 67) (lv' := [(0, .ref 58), (1, .ref 29), (2, yi i), (3, yi j)]) (st' := [yi 1, yi j, yi i, .ref 61, yi ((gat K i (j - 1)) + (S 3)), .ref 58]) (hp' := H10) rfl ?_
    refine Y_isub (a := j) (b := 1) hk rfl ?_
    refine Y_callP hk rfl (as := [.ref 61, yi i, yi (j - 1)]) (rest := [yi ((gat K i (j - 1)) + (S 3)), .ref 58]) (v := some (yi (gat L i (j - 1)))) rfl rfl (Nat.le_of_ble_eq_true rfl) (rcv0 (f_H10.at (by decide) (f_H8.at (by decide) (f6.at (by decide) (f3.at (by decide) h61))))) (Nat.le_of_ble_eq_true rfl) (c_X0_at (i := i) (j := (j - 1)) (a := 61) (p := 62) (k := L) ⟨by decide, by decide, by decide⟩ (f_H10.at (by decide) (f_H8.at (by decide) (f6.at (by decide) (f3.at (by decide) h61)))) (f_H10.at (by decide) (f_H8.at (by decide) (f6.at (by decide) (f3.at (by decide) h62)))) (by omega)) ?_
    refine Y_call hk rfl (as := [.ref 58, yi ((gat K i (j - 1)) + (S 3)), yi (gat L i (j - 1))]) (rest := []) (v := none) rfl rfl (Nat.le_of_ble_eq_true rfl) (rcv0 m_H10) (Nat.le_of_ble_eq_true rfl) (c_X3_consider (c := ((gat K i (j - 1)) + (S 3))) (b := (gat L i (j - 1))) m_H10 (by omega)) (fun H12 r13 => ?_)
    obtain ⟨m_H12, f_H12⟩ := r13
    have cr_H12 := cn_rng (cn1 (cn1 1000000000 (-1) (gat K (i - 1) (j - 1)) (gat L (i - 1) (j - 1))) (cn2 1000000000 (-1) (gat K (i - 1) (j - 1)) (gat L (i - 1) (j - 1))) ((gat K (i - 1) j) + (S 3)) (gat L (i - 1) j)) (cn2 (cn1 1000000000 (-1) (gat K (i - 1) (j - 1)) (gat L (i - 1) (j - 1))) (cn2 1000000000 (-1) (gat K (i - 1) (j - 1)) (gat L (i - 1) (j - 1))) ((gat K (i - 1) j) + (S 3)) (gat L (i - 1) j)) ((gat K i (j - 1)) + (S 3)) (gat L i (j - 1))
    refine E_run hk 1 (j' := 71) (lv' := [(0, .ref 58), (1, .ref 29), (2, yi i), (3, yi j)]) (st' := [.ref 58]) (hp' := H12) rfl ?_
    refine E_get (v := .ref 59) hk rfl m_H12 rfl ?_
    refine E_run hk 3 (j' := 75) (lv' := [(0, .ref 58), (1, .ref 29), (2, yi i), (3, yi j)]) (st' := [.ref 58, yi j, yi i, .ref 59]) (hp' := H12) rfl ?_
    refine E_get (v := yi (cn1 (cn1 (cn1 1000000000 (-1) (gat K (i - 1) (j - 1)) (gat L (i - 1) (j - 1))) (cn2 1000000000 (-1) (gat K (i - 1) (j - 1)) (gat L (i - 1) (j - 1))) ((gat K (i - 1) j) + (S 3)) (gat L (i - 1) j)) (cn2 (cn1 1000000000 (-1) (gat K (i - 1) (j - 1)) (gat L (i - 1) (j - 1))) (cn2 1000000000 (-1) (gat K (i - 1) (j - 1)) (gat L (i - 1) (j - 1))) ((gat K (i - 1) j) + (S 3)) (gat L (i - 1) j)) ((gat K i (j - 1)) + (S 3)) (gat L i (j - 1)))) hk rfl m_H12 rfl ?_
    refine E_run hk 3 (j' := 79) (lv' := [(0, .ref 58), (1, .ref 29), (2, yi i), (3, yi j)]) (st' := [yi j, yi i, .ref 29, yi (cn1 (cn1 (cn1 1000000000 (-1) (gat K (i - 1) (j - 1)) (gat L (i - 1) (j - 1))) (cn2 1000000000 (-1) (gat K (i - 1) (j - 1)) (gat L (i - 1) (j - 1))) ((gat K (i - 1) j) + (S 3)) (gat L (i - 1) j)) (cn2 (cn1 1000000000 (-1) (gat K (i - 1) (j - 1)) (gat L (i - 1) (j - 1))) (cn2 1000000000 (-1) (gat K (i - 1) (j - 1)) (gat L (i - 1) (j - 1))) ((gat K (i - 1) j) + (S 3)) (gat L (i - 1) j)) ((gat K i (j - 1)) + (S 3)) (gat L i (j - 1))), yi j, yi i, .ref 59]) (hp' := H12) rfl ?_
    refine Y_callP hk rfl (as := [.ref 29, yi i, yi j]) (rest := [yi (cn1 (cn1 (cn1 1000000000 (-1) (gat K (i - 1) (j - 1)) (gat L (i - 1) (j - 1))) (cn2 1000000000 (-1) (gat K (i - 1) (j - 1)) (gat L (i - 1) (j - 1))) ((gat K (i - 1) j) + (S 3)) (gat L (i - 1) j)) (cn2 (cn1 1000000000 (-1) (gat K (i - 1) (j - 1)) (gat L (i - 1) (j - 1))) (cn2 1000000000 (-1) (gat K (i - 1) (j - 1)) (gat L (i - 1) (j - 1))) ((gat K (i - 1) j) + (S 3)) (gat L (i - 1) j)) ((gat K i (j - 1)) + (S 3)) (gat L i (j - 1))), yi j, yi i, .ref 59]) (v := some (yi (unl S 0 i j))) rfl rfl (Nat.le_of_ble_eq_true rfl) (rcv0 (f_H12.at (by decide) (f_H10.at (by decide) (f_H8.at (by decide) (f6.at (by decide) (f3.at (by decide) hs_)))))) (Nat.le_of_ble_eq_true rfl) (c_X5_difference ⟨hid, (f_H12.at (by decide) (f_H10.at (by decide) (f_H8.at (by decide) (f6.at (by decide) (f3.at (by decide) hs_))))), (f_H12.at (by simp only [List.mem_cons, List.not_mem_nil, or_false, not_or]; exact (Ne.symm (sok hid (by unfold apart; decide)).2.1)) (f_H10.at (by simp only [List.mem_cons, List.not_mem_nil, or_false, not_or]; exact (Ne.symm (sok hid (by unfold apart; decide)).2.1)) (f_H8.at (by simp only [List.mem_cons, List.not_mem_nil, or_false, not_or]; exact (Ne.symm (sok hid (by unfold apart; decide)).2.1)) (f6.at (by simp only [List.mem_cons, List.not_mem_nil, or_false, not_or]; exact (Ne.symm (sok hid (by unfold apart; decide)).2.1)) (f3.at (by simp only [List.mem_cons, List.not_mem_nil, or_false, not_or]; exact (Ne.symm (sok hid (by unfold apart; decide)).2.1)) hz_))))), (f_H12.at (by simp only [List.mem_cons, List.not_mem_nil, or_false, not_or]; exact (Ne.symm (sok hid (by unfold apart; decide)).2.2.2.1)) (f_H10.at (by simp only [List.mem_cons, List.not_mem_nil, or_false, not_or]; exact (Ne.symm (sok hid (by unfold apart; decide)).2.2.2.1)) (f_H8.at (by simp only [List.mem_cons, List.not_mem_nil, or_false, not_or]; exact (Ne.symm (sok hid (by unfold apart; decide)).2.2.2.1)) (f6.at (by simp only [List.mem_cons, List.not_mem_nil, or_false, not_or]; exact (Ne.symm (sok hid (by unfold apart; decide)).2.2.2.1)) (f3.at (by simp only [List.mem_cons, List.not_mem_nil, or_false, not_or]; exact (Ne.symm (sok hid (by unfold apart; decide)).2.2.2.1)) ho_))))), (f_H12.at (by simp only [List.mem_cons, List.not_mem_nil, or_false, not_or]; exact (Ne.symm (sok hid (by unfold apart; decide)).2.2.1)) (f_H10.at (by simp only [List.mem_cons, List.not_mem_nil, or_false, not_or]; exact (Ne.symm (sok hid (by unfold apart; decide)).2.2.1)) (f_H8.at (by simp only [List.mem_cons, List.not_mem_nil, or_false, not_or]; exact (Ne.symm (sok hid (by unfold apart; decide)).2.2.1)) (f6.at (by simp only [List.mem_cons, List.not_mem_nil, or_false, not_or]; exact (Ne.symm (sok hid (by unfold apart; decide)).2.2.1)) (f3.at (by simp only [List.mem_cons, List.not_mem_nil, or_false, not_or]; exact (Ne.symm (sok hid (by unfold apart; decide)).2.2.1)) hf_))))), (f_H12.at (by simp only [List.mem_cons, List.not_mem_nil, or_false, not_or]; exact (Ne.symm (sok hid (by unfold apart; decide)).2.2.2.2)) (f_H10.at (by simp only [List.mem_cons, List.not_mem_nil, or_false, not_or]; exact (Ne.symm (sok hid (by unfold apart; decide)).2.2.2.2)) (f_H8.at (by simp only [List.mem_cons, List.not_mem_nil, or_false, not_or]; exact (Ne.symm (sok hid (by unfold apart; decide)).2.2.2.2)) (f6.at (by simp only [List.mem_cons, List.not_mem_nil, or_false, not_or]; exact (Ne.symm (sok hid (by unfold apart; decide)).2.2.2.2)) (f3.at (by simp only [List.mem_cons, List.not_mem_nil, or_false, not_or]; exact (Ne.symm (sok hid (by unfold apart; decide)).2.2.2.2)) hg_))))), ef, eg⟩ hz h0 h1 (i := i) (j := j) (by omega) (hd := by omega)) ?_
    refine Y_iadd (a := (cn1 (cn1 (cn1 1000000000 (-1) (gat K (i - 1) (j - 1)) (gat L (i - 1) (j - 1))) (cn2 1000000000 (-1) (gat K (i - 1) (j - 1)) (gat L (i - 1) (j - 1))) ((gat K (i - 1) j) + (S 3)) (gat L (i - 1) j)) (cn2 (cn1 1000000000 (-1) (gat K (i - 1) (j - 1)) (gat L (i - 1) (j - 1))) (cn2 1000000000 (-1) (gat K (i - 1) (j - 1)) (gat L (i - 1) (j - 1))) ((gat K (i - 1) j) + (S 3)) (gat L (i - 1) j)) ((gat K i (j - 1)) + (S 3)) (gat L i (j - 1)))) (b := (unl S 0 i j)) hk rfl ?_
    refine Y_call hk rfl (as := [.ref 59, yi i, yi j, yi ((cn1 (cn1 (cn1 1000000000 (-1) (gat K (i - 1) (j - 1)) (gat L (i - 1) (j - 1))) (cn2 1000000000 (-1) (gat K (i - 1) (j - 1)) (gat L (i - 1) (j - 1))) ((gat K (i - 1) j) + (S 3)) (gat L (i - 1) j)) (cn2 (cn1 1000000000 (-1) (gat K (i - 1) (j - 1)) (gat L (i - 1) (j - 1))) (cn2 1000000000 (-1) (gat K (i - 1) (j - 1)) (gat L (i - 1) (j - 1))) ((gat K (i - 1) j) + (S 3)) (gat L (i - 1) j)) ((gat K i (j - 1)) + (S 3)) (gat L i (j - 1))) + (unl S 0 i j))]) (rest := []) (v := none) rfl rfl (Nat.le_of_ble_eq_true rfl) (rcv0 (f_H12.at (by decide) (f_H10.at (by decide) (f_H8.at (by decide) (f6.at (by decide) (f3.at (by decide) h59)))))) (Nat.le_of_ble_eq_true rfl) (c_X0_put (i := i) (j := j) (x := ((cn1 (cn1 (cn1 1000000000 (-1) (gat K (i - 1) (j - 1)) (gat L (i - 1) (j - 1))) (cn2 1000000000 (-1) (gat K (i - 1) (j - 1)) (gat L (i - 1) (j - 1))) ((gat K (i - 1) j) + (S 3)) (gat L (i - 1) j)) (cn2 (cn1 1000000000 (-1) (gat K (i - 1) (j - 1)) (gat L (i - 1) (j - 1))) (cn2 1000000000 (-1) (gat K (i - 1) (j - 1)) (gat L (i - 1) (j - 1))) ((gat K (i - 1) j) + (S 3)) (gat L (i - 1) j)) ((gat K i (j - 1)) + (S 3)) (gat L i (j - 1))) + (unl S 0 i j))) (a := 59) (p := 60) (k := K) ⟨by decide, by decide, by decide⟩ (f_H12.at (by decide) (f_H10.at (by decide) (f_H8.at (by decide) (f6.at (by decide) (f3.at (by decide) h59))))) (f_H12.at (by decide) (f_H10.at (by decide) (f_H8.at (by decide) (f6.at (by decide) (f3.at (by decide) h60))))) (by omega)) (fun H14 r15 => ?_)
    obtain ⟨e_H14, f_H14⟩ := r15
    refine E_run hk 1 (j' := 83) (lv' := [(0, .ref 58), (1, .ref 29), (2, yi i), (3, yi j)]) (st' := [.ref 58]) (hp' := H14) rfl ?_
    refine E_get (v := .ref 61) hk rfl (f_H14.at (by decide) m_H12) rfl ?_
    refine E_run hk 3 (j' := 87) (lv' := [(0, .ref 58), (1, .ref 29), (2, yi i), (3, yi j)]) (st' := [.ref 58, yi j, yi i, .ref 61]) (hp' := H14) rfl ?_
    refine E_get (v := yi (cn2 (cn1 (cn1 1000000000 (-1) (gat K (i - 1) (j - 1)) (gat L (i - 1) (j - 1))) (cn2 1000000000 (-1) (gat K (i - 1) (j - 1)) (gat L (i - 1) (j - 1))) ((gat K (i - 1) j) + (S 3)) (gat L (i - 1) j)) (cn2 (cn1 1000000000 (-1) (gat K (i - 1) (j - 1)) (gat L (i - 1) (j - 1))) (cn2 1000000000 (-1) (gat K (i - 1) (j - 1)) (gat L (i - 1) (j - 1))) ((gat K (i - 1) j) + (S 3)) (gat L (i - 1) j)) ((gat K i (j - 1)) + (S 3)) (gat L i (j - 1)))) hk rfl (f_H14.at (by decide) m_H12) rfl ?_
    refine Y_call hk rfl (as := [.ref 61, yi i, yi j, yi (cn2 (cn1 (cn1 1000000000 (-1) (gat K (i - 1) (j - 1)) (gat L (i - 1) (j - 1))) (cn2 1000000000 (-1) (gat K (i - 1) (j - 1)) (gat L (i - 1) (j - 1))) ((gat K (i - 1) j) + (S 3)) (gat L (i - 1) j)) (cn2 (cn1 1000000000 (-1) (gat K (i - 1) (j - 1)) (gat L (i - 1) (j - 1))) (cn2 1000000000 (-1) (gat K (i - 1) (j - 1)) (gat L (i - 1) (j - 1))) ((gat K (i - 1) j) + (S 3)) (gat L (i - 1) j)) ((gat K i (j - 1)) + (S 3)) (gat L i (j - 1)))]) (rest := []) (v := none) rfl rfl (Nat.le_of_ble_eq_true rfl) (rcv0 (f_H14.at (by decide) (f_H12.at (by decide) (f_H10.at (by decide) (f_H8.at (by decide) (f6.at (by decide) (f3.at (by decide) h61))))))) (Nat.le_of_ble_eq_true rfl) (c_X0_put (i := i) (j := j) (x := (cn2 (cn1 (cn1 1000000000 (-1) (gat K (i - 1) (j - 1)) (gat L (i - 1) (j - 1))) (cn2 1000000000 (-1) (gat K (i - 1) (j - 1)) (gat L (i - 1) (j - 1))) ((gat K (i - 1) j) + (S 3)) (gat L (i - 1) j)) (cn2 (cn1 1000000000 (-1) (gat K (i - 1) (j - 1)) (gat L (i - 1) (j - 1))) (cn2 1000000000 (-1) (gat K (i - 1) (j - 1)) (gat L (i - 1) (j - 1))) ((gat K (i - 1) j) + (S 3)) (gat L (i - 1) j)) ((gat K i (j - 1)) + (S 3)) (gat L i (j - 1)))) (a := 61) (p := 62) (k := L) ⟨by decide, by decide, by decide⟩ (f_H14.at (by decide) (f_H12.at (by decide) (f_H10.at (by decide) (f_H8.at (by decide) (f6.at (by decide) (f3.at (by decide) h61)))))) (f_H14.at (by decide) (f_H12.at (by decide) (f_H10.at (by decide) (f_H8.at (by decide) (f6.at (by decide) (f3.at (by decide) h62)))))) (by omega)) (fun H16 r17 => ?_)
    obtain ⟨e_H16, f_H16⟩ := r17
    exact E_ret hk rfl rfl ⟨rfl, _, _, _, _, (f_H16.at (by decide) (f_H14.at (by decide) m_H12)), (f_H16.at (by decide) e_H14), e_H16, fun x y x1 y1 z => by
      have co := cons3 (D := unl S 0) (w := S 3) (i := i) (j := j) (by omega) (by omega) hc2 hr 1000000000 (-1) (by omega)
      by_cases e : x = i ∧ y = j
      · obtain ⟨e1, e2⟩ := e
        rw [e1, e2, up_self, up_self, pc_in (by omega)]
        exact ⟨congrArg (fun z => z + unl S 0 i j) co.1, co.2⟩
      · rw [up_ne _ _ (by omega), up_ne _ _ (by omega)]
        exact hc x y x1 y1 (by omega), fun x y x1 x2 y1 y2 => ⟨up_ne _ _ (by omega), up_ne _ _ (by omega)⟩, (yfr.tr (yfr.tr (yfr.tr (yfr.tr (yfr.tr (yfr.tr (f3.mono (by decide)) f6 (fun _ h => h) (by decide)) f_H8 (fun _ h => h) (by decide)) f_H10 (fun _ h => h) (by decide)) f_H12 (fun _ h => h) (by decide)) f_H14 (fun _ h => h) (by decide)) f_H16 (fun _ h => h) (by decide))⟩
  ·
    refine E_run hk 3 (j' := 11) (lv' := [(0, .ref 58), (1, .ref 29), (2, yi i), (3, yi j)]) (st' := [yi j, yi 0, .ref 58]) (hp' := H4) rfl ?_
    refine Y_call hk rfl (as := [.ref 58, yi 0, yi j]) (rest := []) (v := none) rfl rfl (Nat.le_of_ble_eq_true rfl) (rcv0 e5) (Nat.le_of_ble_eq_true rfl) (c_X3_consider (c := 0) (b := j) e5 (by omega)) (fun H18 r19 => ?_)
    obtain ⟨m_H18, f_H18⟩ := r19
    have cr_H18 := cn_rng 1000000000 (-1) 0 j
    refine E_run hk 2 (j' := 14) (lv' := [(0, .ref 58), (1, .ref 29), (2, yi i), (3, yi j)]) (st' := [.ref 58, .ref 58]) (hp' := H18) rfl ?_
    refine E_get (v := .ref 59) hk rfl m_H18 rfl ?_
    refine E_run hk 2 (j' := 17) (lv' := [(0, .ref 58), (1, .ref 29), (2, yi i), (3, yi j)]) (st' := [yi 1, yi i, .ref 59, .ref 58]) (hp' := H18) rfl ?_
    refine Y_isub (a := i) (b := 1) hk rfl ?_
    refine E_run hk 2 (j' := 20) (lv' := [(0, .ref 58), (1, .ref 29), (2, yi i), (3, yi j)]) (st' := [yi 1, yi j, yi (i - 1), .ref 59, .ref 58]) (hp' := H18) rfl ?_
    refine Y_isub (a := j) (b := 1) hk rfl ?_
    refine Y_callP hk rfl (as := [.ref 59, yi (i - 1), yi (j - 1)]) (rest := [.ref 58]) (v := some (yi (gat K (i - 1) (j - 1)))) rfl rfl (Nat.le_of_ble_eq_true rfl) (rcv0 (f_H18.at (by decide) (f6.at (by decide) (f3.at (by decide) h59)))) (Nat.le_of_ble_eq_true rfl) (c_X0_at (i := (i - 1)) (j := (j - 1)) (a := 59) (p := 60) (k := K) ⟨by decide, by decide, by decide⟩ (f_H18.at (by decide) (f6.at (by decide) (f3.at (by decide) h59))) (f_H18.at (by decide) (f6.at (by decide) (f3.at (by decide) h60))) (by omega)) ?_
    refine E_run hk 1 (j' := 23) (lv' := [(0, .ref 58), (1, .ref 29), (2, yi i), (3, yi j)]) (st' := [.ref 58, yi (gat K (i - 1) (j - 1)), .ref 58]) (hp' := H18) rfl ?_
    refine E_get (v := .ref 61) hk rfl m_H18 rfl ?_
    refine E_run hk 2 (j' := 26) (lv' := [(0, .ref 58), (1, .ref 29), (2, yi i), (3, yi j)]) (st' := [yi 1, yi i, .ref 61, yi (gat K (i - 1) (j - 1)), .ref 58]) (hp' := H18) rfl ?_
    refine Y_isub (a := i) (b := 1) hk rfl ?_
    refine E_run hk 2 (j' := 29) (lv' := [(0, .ref 58), (1, .ref 29), (2, yi i), (3, yi j)]) (st' := [yi 1, yi j, yi (i - 1), .ref 61, yi (gat K (i - 1) (j - 1)), .ref 58]) (hp' := H18) rfl ?_
    refine Y_isub (a := j) (b := 1) hk rfl ?_
    refine Y_callP hk rfl (as := [.ref 61, yi (i - 1), yi (j - 1)]) (rest := [yi (gat K (i - 1) (j - 1)), .ref 58]) (v := some (yi (gat L (i - 1) (j - 1)))) rfl rfl (Nat.le_of_ble_eq_true rfl) (rcv0 (f_H18.at (by decide) (f6.at (by decide) (f3.at (by decide) h61)))) (Nat.le_of_ble_eq_true rfl) (c_X0_at (i := (i - 1)) (j := (j - 1)) (a := 61) (p := 62) (k := L) ⟨by decide, by decide, by decide⟩ (f_H18.at (by decide) (f6.at (by decide) (f3.at (by decide) h61))) (f_H18.at (by decide) (f6.at (by decide) (f3.at (by decide) h62))) (by omega)) ?_
    refine Y_call hk rfl (as := [.ref 58, yi (gat K (i - 1) (j - 1)), yi (gat L (i - 1) (j - 1))]) (rest := []) (v := none) rfl rfl (Nat.le_of_ble_eq_true rfl) (rcv0 m_H18) (Nat.le_of_ble_eq_true rfl) (c_X3_consider (c := (gat K (i - 1) (j - 1))) (b := (gat L (i - 1) (j - 1))) m_H18 (by omega)) (fun H20 r21 => ?_)
    obtain ⟨m_H20, f_H20⟩ := r21
    have cr_H20 := cn_rng (cn1 1000000000 (-1) 0 j) (cn2 1000000000 (-1) 0 j) (gat K (i - 1) (j - 1)) (gat L (i - 1) (j - 1))
    refine E_run hk 2 (j' := 34) (lv' := [(0, .ref 58), (1, .ref 29), (2, yi i), (3, yi j)]) (st' := [.ref 58, .ref 58]) (hp' := H20) rfl ?_
    refine E_get (v := .ref 59) hk rfl m_H20 rfl ?_
    refine E_run hk 2 (j' := 37) (lv' := [(0, .ref 58), (1, .ref 29), (2, yi i), (3, yi j)]) (st' := [yi 1, yi i, .ref 59, .ref 58]) (hp' := H20) rfl ?_
    refine Y_isub (a := i) (b := 1) hk rfl ?_
    refine E_run hk 1 (j' := 39) (lv' := [(0, .ref 58), (1, .ref 29), (2, yi i), (3, yi j)]) (st' := [yi j, yi (i - 1), .ref 59, .ref 58]) (hp' := H20) rfl ?_
    refine Y_callP hk rfl (as := [.ref 59, yi (i - 1), yi j]) (rest := [.ref 58]) (v := some (yi (gat K (i - 1) j))) rfl rfl (Nat.le_of_ble_eq_true rfl) (rcv0 (f_H20.at (by decide) (f_H18.at (by decide) (f6.at (by decide) (f3.at (by decide) h59))))) (Nat.le_of_ble_eq_true rfl) (c_X0_at (i := (i - 1)) (j := j) (a := 59) (p := 60) (k := K) ⟨by decide, by decide, by decide⟩ (f_H20.at (by decide) (f_H18.at (by decide) (f6.at (by decide) (f3.at (by decide) h59)))) (f_H20.at (by decide) (f_H18.at (by decide) (f6.at (by decide) (f3.at (by decide) h60)))) (by omega)) ?_
    refine E_run hk 1 (j' := 41) (lv' := [(0, .ref 58), (1, .ref 29), (2, yi i), (3, yi j)]) (st' := [.ref 29, yi (gat K (i - 1) j), .ref 58]) (hp' := H20) rfl ?_
    refine E_get (v := yi (S 3)) hk rfl (f_H20.at (by decide) (f_H18.at (by decide) (f6.at (by decide) (f3.at (by decide) hs_)))) rfl ?_
    refine Y_iadd (a := (gat K (i - 1) j)) (b := (S 3)) hk rfl ?_
    refine E_run hk 1 (j' := 44) (lv' := [(0, .ref 58), (1, .ref 29), (2, yi i), (3, yi j)]) (st' := [.ref 58, yi ((gat K (i - 1) j) + (S 3)), .ref 58]) (hp' := H20) rfl ?_
    refine E_get (v := .ref 61) hk rfl m_H20 rfl ?_
    refine E_run hk 2 (j' := 47) (lv' := [(0, .ref 58), (1, .ref 29), (2, yi i), (3, yi j)]) (st' := [yi 1, yi i, .ref 61, yi ((gat K (i - 1) j) + (S 3)), .ref 58]) (hp' := H20) rfl ?_
    refine Y_isub (a := i) (b := 1) hk rfl ?_
    refine E_run hk 1 (j' := 49) (lv' := [(0, .ref 58), (1, .ref 29), (2, yi i), (3, yi j)]) (st' := [yi j, yi (i - 1), .ref 61, yi ((gat K (i - 1) j) + (S 3)), .ref 58]) (hp' := H20) rfl ?_
    refine Y_callP hk rfl (as := [.ref 61, yi (i - 1), yi j]) (rest := [yi ((gat K (i - 1) j) + (S 3)), .ref 58]) (v := some (yi (gat L (i - 1) j))) rfl rfl (Nat.le_of_ble_eq_true rfl) (rcv0 (f_H20.at (by decide) (f_H18.at (by decide) (f6.at (by decide) (f3.at (by decide) h61))))) (Nat.le_of_ble_eq_true rfl) (c_X0_at (i := (i - 1)) (j := j) (a := 61) (p := 62) (k := L) ⟨by decide, by decide, by decide⟩ (f_H20.at (by decide) (f_H18.at (by decide) (f6.at (by decide) (f3.at (by decide) h61)))) (f_H20.at (by decide) (f_H18.at (by decide) (f6.at (by decide) (f3.at (by decide) h62)))) (by omega)) ?_
    refine Y_call hk rfl (as := [.ref 58, yi ((gat K (i - 1) j) + (S 3)), yi (gat L (i - 1) j)]) (rest := []) (v := none) rfl rfl (Nat.le_of_ble_eq_true rfl) (rcv0 m_H20) (Nat.le_of_ble_eq_true rfl) (c_X3_consider (c := ((gat K (i - 1) j) + (S 3))) (b := (gat L (i - 1) j)) m_H20 (by omega)) (fun H22 r23 => ?_)
    obtain ⟨m_H22, f_H22⟩ := r23
    have cr_H22 := cn_rng (cn1 (cn1 1000000000 (-1) 0 j) (cn2 1000000000 (-1) 0 j) (gat K (i - 1) (j - 1)) (gat L (i - 1) (j - 1))) (cn2 (cn1 1000000000 (-1) 0 j) (cn2 1000000000 (-1) 0 j) (gat K (i - 1) (j - 1)) (gat L (i - 1) (j - 1))) ((gat K (i - 1) j) + (S 3)) (gat L (i - 1) j)
    refine E_run hk 2 (j' := 53) (lv' := [(0, .ref 58), (1, .ref 29), (2, yi i), (3, yi j)]) (st' := [.ref 58, .ref 58]) (hp' := H22) rfl ?_
    refine E_get (v := .ref 59) hk rfl m_H22 rfl ?_
    refine E_run hk 3 (j' := 57) (lv' := [(0, .ref 58), (1, .ref 29), (2, yi i), (3, yi j)]) (st' := [yi 1, yi j, yi i, .ref 59, .ref 58]) (hp' := H22) rfl ?_
    refine Y_isub (a := j) (b := 1) hk rfl ?_
    refine Y_callP hk rfl (as := [.ref 59, yi i, yi (j - 1)]) (rest := [.ref 58]) (v := some (yi (gat K i (j - 1)))) rfl rfl (Nat.le_of_ble_eq_true rfl) (rcv0 (f_H22.at (by decide) (f_H20.at (by decide) (f_H18.at (by decide) (f6.at (by decide) (f3.at (by decide) h59)))))) (Nat.le_of_ble_eq_true rfl) (c_X0_at (i := i) (j := (j - 1)) (a := 59) (p := 60) (k := K) ⟨by decide, by decide, by decide⟩ (f_H22.at (by decide) (f_H20.at (by decide) (f_H18.at (by decide) (f6.at (by decide) (f3.at (by decide) h59))))) (f_H22.at (by decide) (f_H20.at (by decide) (f_H18.at (by decide) (f6.at (by decide) (f3.at (by decide) h60))))) (by omega)) ?_
    refine E_run hk 1 (j' := 60) (lv' := [(0, .ref 58), (1, .ref 29), (2, yi i), (3, yi j)]) (st' := [.ref 29, yi (gat K i (j - 1)), .ref 58]) (hp' := H22) rfl ?_
    refine E_get (v := yi (S 3)) hk rfl (f_H22.at (by decide) (f_H20.at (by decide) (f_H18.at (by decide) (f6.at (by decide) (f3.at (by decide) hs_))))) rfl ?_
    refine Y_iadd (a := (gat K i (j - 1))) (b := (S 3)) hk rfl ?_
    refine E_run hk 1 (j' := 63) (lv' := [(0, .ref 58), (1, .ref 29), (2, yi i), (3, yi j)]) (st' := [.ref 58, yi ((gat K i (j - 1)) + (S 3)), .ref 58]) (hp' := H22) rfl ?_
    refine E_get (v := .ref 61) hk rfl m_H22 rfl ?_
    refine E_run hk 3 (j' := 67) (lv' := [(0, .ref 58), (1, .ref 29), (2, yi i), (3, yi j)]) (st' := [yi 1, yi j, yi i, .ref 61, yi ((gat K i (j - 1)) + (S 3)), .ref 58]) (hp' := H22) rfl ?_
    refine Y_isub (a := j) (b := 1) hk rfl ?_
    refine Y_callP hk rfl (as := [.ref 61, yi i, yi (j - 1)]) (rest := [yi ((gat K i (j - 1)) + (S 3)), .ref 58]) (v := some (yi (gat L i (j - 1)))) rfl rfl (Nat.le_of_ble_eq_true rfl) (rcv0 (f_H22.at (by decide) (f_H20.at (by decide) (f_H18.at (by decide) (f6.at (by decide) (f3.at (by decide) h61)))))) (Nat.le_of_ble_eq_true rfl) (c_X0_at (i := i) (j := (j - 1)) (a := 61) (p := 62) (k := L) ⟨by decide, by decide, by decide⟩ (f_H22.at (by decide) (f_H20.at (by decide) (f_H18.at (by decide) (f6.at (by decide) (f3.at (by decide) h61))))) (f_H22.at (by decide) (f_H20.at (by decide) (f_H18.at (by decide) (f6.at (by decide) (f3.at (by decide) h62))))) (by omega)) ?_
    refine Y_call hk rfl (as := [.ref 58, yi ((gat K i (j - 1)) + (S 3)), yi (gat L i (j - 1))]) (rest := []) (v := none) rfl rfl (Nat.le_of_ble_eq_true rfl) (rcv0 m_H22) (Nat.le_of_ble_eq_true rfl) (c_X3_consider (c := ((gat K i (j - 1)) + (S 3))) (b := (gat L i (j - 1))) m_H22 (by omega)) (fun H24 r25 => ?_)
    obtain ⟨m_H24, f_H24⟩ := r25
    have cr_H24 := cn_rng (cn1 (cn1 (cn1 1000000000 (-1) 0 j) (cn2 1000000000 (-1) 0 j) (gat K (i - 1) (j - 1)) (gat L (i - 1) (j - 1))) (cn2 (cn1 1000000000 (-1) 0 j) (cn2 1000000000 (-1) 0 j) (gat K (i - 1) (j - 1)) (gat L (i - 1) (j - 1))) ((gat K (i - 1) j) + (S 3)) (gat L (i - 1) j)) (cn2 (cn1 (cn1 1000000000 (-1) 0 j) (cn2 1000000000 (-1) 0 j) (gat K (i - 1) (j - 1)) (gat L (i - 1) (j - 1))) (cn2 (cn1 1000000000 (-1) 0 j) (cn2 1000000000 (-1) 0 j) (gat K (i - 1) (j - 1)) (gat L (i - 1) (j - 1))) ((gat K (i - 1) j) + (S 3)) (gat L (i - 1) j)) ((gat K i (j - 1)) + (S 3)) (gat L i (j - 1))
    refine E_run hk 1 (j' := 71) (lv' := [(0, .ref 58), (1, .ref 29), (2, yi i), (3, yi j)]) (st' := [.ref 58]) (hp' := H24) rfl ?_
    refine E_get (v := .ref 59) hk rfl m_H24 rfl ?_
    refine E_run hk 3 (j' := 75) (lv' := [(0, .ref 58), (1, .ref 29), (2, yi i), (3, yi j)]) (st' := [.ref 58, yi j, yi i, .ref 59]) (hp' := H24) rfl ?_
    refine E_get (v := yi (cn1 (cn1 (cn1 (cn1 1000000000 (-1) 0 j) (cn2 1000000000 (-1) 0 j) (gat K (i - 1) (j - 1)) (gat L (i - 1) (j - 1))) (cn2 (cn1 1000000000 (-1) 0 j) (cn2 1000000000 (-1) 0 j) (gat K (i - 1) (j - 1)) (gat L (i - 1) (j - 1))) ((gat K (i - 1) j) + (S 3)) (gat L (i - 1) j)) (cn2 (cn1 (cn1 1000000000 (-1) 0 j) (cn2 1000000000 (-1) 0 j) (gat K (i - 1) (j - 1)) (gat L (i - 1) (j - 1))) (cn2 (cn1 1000000000 (-1) 0 j) (cn2 1000000000 (-1) 0 j) (gat K (i - 1) (j - 1)) (gat L (i - 1) (j - 1))) ((gat K (i - 1) j) + (S 3)) (gat L (i - 1) j)) ((gat K i (j - 1)) + (S 3)) (gat L i (j - 1)))) hk rfl m_H24 rfl ?_
    refine E_run hk 3 (j' := 79) (lv' := [(0, .ref 58), (1, .ref 29), (2, yi i), (3, yi j)]) (st' := [yi j, yi i, .ref 29, yi (cn1 (cn1 (cn1 (cn1 1000000000 (-1) 0 j) (cn2 1000000000 (-1) 0 j) (gat K (i - 1) (j - 1)) (gat L (i - 1) (j - 1))) (cn2 (cn1 1000000000 (-1) 0 j) (cn2 1000000000 (-1) 0 j) (gat K (i - 1) (j - 1)) (gat L (i - 1) (j - 1))) ((gat K (i - 1) j) + (S 3)) (gat L (i - 1) j)) (cn2 (cn1 (cn1 1000000000 (-1) 0 j) (cn2 1000000000 (-1) 0 j) (gat K (i - 1) (j - 1)) (gat L (i - 1) (j - 1))) (cn2 (cn1 1000000000 (-1) 0 j) (cn2 1000000000 (-1) 0 j) (gat K (i - 1) (j - 1)) (gat L (i - 1) (j - 1))) ((gat K (i - 1) j) + (S 3)) (gat L (i - 1) j)) ((gat K i (j - 1)) + (S 3)) (gat L i (j - 1))), yi j, yi i, .ref 59]) (hp' := H24) rfl ?_
    refine Y_callP hk rfl (as := [.ref 29, yi i, yi j]) (rest := [yi (cn1 (cn1 (cn1 (cn1 1000000000 (-1) 0 j) (cn2 1000000000 (-1) 0 j) (gat K (i - 1) (j - 1)) (gat L (i - 1) (j - 1))) (cn2 (cn1 1000000000 (-1) 0 j) (cn2 1000000000 (-1) 0 j) (gat K (i - 1) (j - 1)) (gat L (i - 1) (j - 1))) ((gat K (i - 1) j) + (S 3)) (gat L (i - 1) j)) (cn2 (cn1 (cn1 1000000000 (-1) 0 j) (cn2 1000000000 (-1) 0 j) (gat K (i - 1) (j - 1)) (gat L (i - 1) (j - 1))) (cn2 (cn1 1000000000 (-1) 0 j) (cn2 1000000000 (-1) 0 j) (gat K (i - 1) (j - 1)) (gat L (i - 1) (j - 1))) ((gat K (i - 1) j) + (S 3)) (gat L (i - 1) j)) ((gat K i (j - 1)) + (S 3)) (gat L i (j - 1))), yi j, yi i, .ref 59]) (v := some (yi (unl S 0 i j))) rfl rfl (Nat.le_of_ble_eq_true rfl) (rcv0 (f_H24.at (by decide) (f_H22.at (by decide) (f_H20.at (by decide) (f_H18.at (by decide) (f6.at (by decide) (f3.at (by decide) hs_))))))) (Nat.le_of_ble_eq_true rfl) (c_X5_difference ⟨hid, (f_H24.at (by decide) (f_H22.at (by decide) (f_H20.at (by decide) (f_H18.at (by decide) (f6.at (by decide) (f3.at (by decide) hs_)))))), (f_H24.at (by simp only [List.mem_cons, List.not_mem_nil, or_false, not_or]; exact (Ne.symm (sok hid (by unfold apart; decide)).2.1)) (f_H22.at (by simp only [List.mem_cons, List.not_mem_nil, or_false, not_or]; exact (Ne.symm (sok hid (by unfold apart; decide)).2.1)) (f_H20.at (by simp only [List.mem_cons, List.not_mem_nil, or_false, not_or]; exact (Ne.symm (sok hid (by unfold apart; decide)).2.1)) (f_H18.at (by simp only [List.mem_cons, List.not_mem_nil, or_false, not_or]; exact (Ne.symm (sok hid (by unfold apart; decide)).2.1)) (f6.at (by simp only [List.mem_cons, List.not_mem_nil, or_false, not_or]; exact (Ne.symm (sok hid (by unfold apart; decide)).2.1)) (f3.at (by simp only [List.mem_cons, List.not_mem_nil, or_false, not_or]; exact (Ne.symm (sok hid (by unfold apart; decide)).2.1)) hz_)))))), (f_H24.at (by simp only [List.mem_cons, List.not_mem_nil, or_false, not_or]; exact (Ne.symm (sok hid (by unfold apart; decide)).2.2.2.1)) (f_H22.at (by simp only [List.mem_cons, List.not_mem_nil, or_false, not_or]; exact (Ne.symm (sok hid (by unfold apart; decide)).2.2.2.1)) (f_H20.at (by simp only [List.mem_cons, List.not_mem_nil, or_false, not_or]; exact (Ne.symm (sok hid (by unfold apart; decide)).2.2.2.1)) (f_H18.at (by simp only [List.mem_cons, List.not_mem_nil, or_false, not_or]; exact (Ne.symm (sok hid (by unfold apart; decide)).2.2.2.1)) (f6.at (by simp only [List.mem_cons, List.not_mem_nil, or_false, not_or]; exact (Ne.symm (sok hid (by unfold apart; decide)).2.2.2.1)) (f3.at (by simp only [List.mem_cons, List.not_mem_nil, or_false, not_or]; exact (Ne.symm (sok hid (by unfold apart; decide)).2.2.2.1)) ho_)))))), (f_H24.at (by simp only [List.mem_cons, List.not_mem_nil, or_false, not_or]; exact (Ne.symm (sok hid (by unfold apart; decide)).2.2.1)) (f_H22.at (by simp only [List.mem_cons, List.not_mem_nil, or_false, not_or]; exact (Ne.symm (sok hid (by unfold apart; decide)).2.2.1)) (f_H20.at (by simp only [List.mem_cons, List.not_mem_nil, or_false, not_or]; exact (Ne.symm (sok hid (by unfold apart; decide)).2.2.1)) (f_H18.at (by simp only [List.mem_cons, List.not_mem_nil, or_false, not_or]; exact (Ne.symm (sok hid (by unfold apart; decide)).2.2.1)) (f6.at (by simp only [List.mem_cons, List.not_mem_nil, or_false, not_or]; exact (Ne.symm (sok hid (by unfold apart; decide)).2.2.1)) (f3.at (by simp only [List.mem_cons, List.not_mem_nil, or_false, not_or]; exact (Ne.symm (sok hid (by unfold apart; decide)).2.2.1)) hf_)))))), (f_H24.at (by simp only [List.mem_cons, List.not_mem_nil, or_false, not_or]; exact (Ne.symm (sok hid (by unfold apart; decide)).2.2.2.2)) (f_H22.at (by simp only [List.mem_cons, List.not_mem_nil, or_false, not_or]; exact (Ne.symm (sok hid (by unfold apart; decide)).2.2.2.2)) (f_H20.at (by simp only [List.mem_cons, List.not_mem_nil, or_false, not_or]; exact (Ne.symm (sok hid (by unfold apart; decide)).2.2.2.2)) (f_H18.at (by simp only [List.mem_cons, List.not_mem_nil, or_false, not_or]; exact (Ne.symm (sok hid (by unfold apart; decide)).2.2.2.2)) (f6.at (by simp only [List.mem_cons, List.not_mem_nil, or_false, not_or]; exact (Ne.symm (sok hid (by unfold apart; decide)).2.2.2.2)) (f3.at (by simp only [List.mem_cons, List.not_mem_nil, or_false, not_or]; exact (Ne.symm (sok hid (by unfold apart; decide)).2.2.2.2)) hg_)))))), ef, eg⟩ hz h0 h1 (i := i) (j := j) (by omega) (hd := by omega)) ?_
    refine Y_iadd (a := (cn1 (cn1 (cn1 (cn1 1000000000 (-1) 0 j) (cn2 1000000000 (-1) 0 j) (gat K (i - 1) (j - 1)) (gat L (i - 1) (j - 1))) (cn2 (cn1 1000000000 (-1) 0 j) (cn2 1000000000 (-1) 0 j) (gat K (i - 1) (j - 1)) (gat L (i - 1) (j - 1))) ((gat K (i - 1) j) + (S 3)) (gat L (i - 1) j)) (cn2 (cn1 (cn1 1000000000 (-1) 0 j) (cn2 1000000000 (-1) 0 j) (gat K (i - 1) (j - 1)) (gat L (i - 1) (j - 1))) (cn2 (cn1 1000000000 (-1) 0 j) (cn2 1000000000 (-1) 0 j) (gat K (i - 1) (j - 1)) (gat L (i - 1) (j - 1))) ((gat K (i - 1) j) + (S 3)) (gat L (i - 1) j)) ((gat K i (j - 1)) + (S 3)) (gat L i (j - 1)))) (b := (unl S 0 i j)) hk rfl ?_
    refine Y_call hk rfl (as := [.ref 59, yi i, yi j, yi ((cn1 (cn1 (cn1 (cn1 1000000000 (-1) 0 j) (cn2 1000000000 (-1) 0 j) (gat K (i - 1) (j - 1)) (gat L (i - 1) (j - 1))) (cn2 (cn1 1000000000 (-1) 0 j) (cn2 1000000000 (-1) 0 j) (gat K (i - 1) (j - 1)) (gat L (i - 1) (j - 1))) ((gat K (i - 1) j) + (S 3)) (gat L (i - 1) j)) (cn2 (cn1 (cn1 1000000000 (-1) 0 j) (cn2 1000000000 (-1) 0 j) (gat K (i - 1) (j - 1)) (gat L (i - 1) (j - 1))) (cn2 (cn1 1000000000 (-1) 0 j) (cn2 1000000000 (-1) 0 j) (gat K (i - 1) (j - 1)) (gat L (i - 1) (j - 1))) ((gat K (i - 1) j) + (S 3)) (gat L (i - 1) j)) ((gat K i (j - 1)) + (S 3)) (gat L i (j - 1))) + (unl S 0 i j))]) (rest := []) (v := none) rfl rfl (Nat.le_of_ble_eq_true rfl) (rcv0 (f_H24.at (by decide) (f_H22.at (by decide) (f_H20.at (by decide) (f_H18.at (by decide) (f6.at (by decide) (f3.at (by decide) h59))))))) (Nat.le_of_ble_eq_true rfl) (c_X0_put (i := i) (j := j) (x := ((cn1 (cn1 (cn1 (cn1 1000000000 (-1) 0 j) (cn2 1000000000 (-1) 0 j) (gat K (i - 1) (j - 1)) (gat L (i - 1) (j - 1))) (cn2 (cn1 1000000000 (-1) 0 j) (cn2 1000000000 (-1) 0 j) (gat K (i - 1) (j - 1)) (gat L (i - 1) (j - 1))) ((gat K (i - 1) j) + (S 3)) (gat L (i - 1) j)) (cn2 (cn1 (cn1 1000000000 (-1) 0 j) (cn2 1000000000 (-1) 0 j) (gat K (i - 1) (j - 1)) (gat L (i - 1) (j - 1))) (cn2 (cn1 1000000000 (-1) 0 j) (cn2 1000000000 (-1) 0 j) (gat K (i - 1) (j - 1)) (gat L (i - 1) (j - 1))) ((gat K (i - 1) j) + (S 3)) (gat L (i - 1) j)) ((gat K i (j - 1)) + (S 3)) (gat L i (j - 1))) + (unl S 0 i j))) (a := 59) (p := 60) (k := K) ⟨by decide, by decide, by decide⟩ (f_H24.at (by decide) (f_H22.at (by decide) (f_H20.at (by decide) (f_H18.at (by decide) (f6.at (by decide) (f3.at (by decide) h59)))))) (f_H24.at (by decide) (f_H22.at (by decide) (f_H20.at (by decide) (f_H18.at (by decide) (f6.at (by decide) (f3.at (by decide) h60)))))) (by omega)) (fun H26 r27 => ?_)
    obtain ⟨e_H26, f_H26⟩ := r27
    refine E_run hk 1 (j' := 83) (lv' := [(0, .ref 58), (1, .ref 29), (2, yi i), (3, yi j)]) (st' := [.ref 58]) (hp' := H26) rfl ?_
    refine E_get (v := .ref 61) hk rfl (f_H26.at (by decide) m_H24) rfl ?_
    refine E_run hk 3 (j' := 87) (lv' := [(0, .ref 58), (1, .ref 29), (2, yi i), (3, yi j)]) (st' := [.ref 58, yi j, yi i, .ref 61]) (hp' := H26) rfl ?_
    refine E_get (v := yi (cn2 (cn1 (cn1 (cn1 1000000000 (-1) 0 j) (cn2 1000000000 (-1) 0 j) (gat K (i - 1) (j - 1)) (gat L (i - 1) (j - 1))) (cn2 (cn1 1000000000 (-1) 0 j) (cn2 1000000000 (-1) 0 j) (gat K (i - 1) (j - 1)) (gat L (i - 1) (j - 1))) ((gat K (i - 1) j) + (S 3)) (gat L (i - 1) j)) (cn2 (cn1 (cn1 1000000000 (-1) 0 j) (cn2 1000000000 (-1) 0 j) (gat K (i - 1) (j - 1)) (gat L (i - 1) (j - 1))) (cn2 (cn1 1000000000 (-1) 0 j) (cn2 1000000000 (-1) 0 j) (gat K (i - 1) (j - 1)) (gat L (i - 1) (j - 1))) ((gat K (i - 1) j) + (S 3)) (gat L (i - 1) j)) ((gat K i (j - 1)) + (S 3)) (gat L i (j - 1)))) hk rfl (f_H26.at (by decide) m_H24) rfl ?_
    refine Y_call hk rfl (as := [.ref 61, yi i, yi j, yi (cn2 (cn1 (cn1 (cn1 1000000000 (-1) 0 j) (cn2 1000000000 (-1) 0 j) (gat K (i - 1) (j - 1)) (gat L (i - 1) (j - 1))) (cn2 (cn1 1000000000 (-1) 0 j) (cn2 1000000000 (-1) 0 j) (gat K (i - 1) (j - 1)) (gat L (i - 1) (j - 1))) ((gat K (i - 1) j) + (S 3)) (gat L (i - 1) j)) (cn2 (cn1 (cn1 1000000000 (-1) 0 j) (cn2 1000000000 (-1) 0 j) (gat K (i - 1) (j - 1)) (gat L (i - 1) (j - 1))) (cn2 (cn1 1000000000 (-1) 0 j) (cn2 1000000000 (-1) 0 j) (gat K (i - 1) (j - 1)) (gat L (i - 1) (j - 1))) ((gat K (i - 1) j) + (S 3)) (gat L (i - 1) j)) ((gat K i (j - 1)) + (S 3)) (gat L i (j - 1)))]) (rest := []) (v := none) rfl rfl (Nat.le_of_ble_eq_true rfl) (rcv0 (f_H26.at (by decide) (f_H24.at (by decide) (f_H22.at (by decide) (f_H20.at (by decide) (f_H18.at (by decide) (f6.at (by decide) (f3.at (by decide) h61)))))))) (Nat.le_of_ble_eq_true rfl) (c_X0_put (i := i) (j := j) (x := (cn2 (cn1 (cn1 (cn1 1000000000 (-1) 0 j) (cn2 1000000000 (-1) 0 j) (gat K (i - 1) (j - 1)) (gat L (i - 1) (j - 1))) (cn2 (cn1 1000000000 (-1) 0 j) (cn2 1000000000 (-1) 0 j) (gat K (i - 1) (j - 1)) (gat L (i - 1) (j - 1))) ((gat K (i - 1) j) + (S 3)) (gat L (i - 1) j)) (cn2 (cn1 (cn1 1000000000 (-1) 0 j) (cn2 1000000000 (-1) 0 j) (gat K (i - 1) (j - 1)) (gat L (i - 1) (j - 1))) (cn2 (cn1 1000000000 (-1) 0 j) (cn2 1000000000 (-1) 0 j) (gat K (i - 1) (j - 1)) (gat L (i - 1) (j - 1))) ((gat K (i - 1) j) + (S 3)) (gat L (i - 1) j)) ((gat K i (j - 1)) + (S 3)) (gat L i (j - 1)))) (a := 61) (p := 62) (k := L) ⟨by decide, by decide, by decide⟩ (f_H26.at (by decide) (f_H24.at (by decide) (f_H22.at (by decide) (f_H20.at (by decide) (f_H18.at (by decide) (f6.at (by decide) (f3.at (by decide) h61))))))) (f_H26.at (by decide) (f_H24.at (by decide) (f_H22.at (by decide) (f_H20.at (by decide) (f_H18.at (by decide) (f6.at (by decide) (f3.at (by decide) h62))))))) (by omega)) (fun H28 r29 => ?_)
    obtain ⟨e_H28, f_H28⟩ := r29
    exact E_ret hk rfl rfl ⟨rfl, _, _, _, _, (f_H28.at (by decide) (f_H26.at (by decide) m_H24)), (f_H28.at (by decide) e_H26), e_H28, fun x y x1 y1 z => by
      have co := cons3 (D := unl S 0) (w := S 3) (i := i) (j := j) (by omega) (by omega) hc2 hr (cn1 1000000000 (-1) 0 j) (cn2 1000000000 (-1) 0 j) (by omega)
      by_cases e : x = i ∧ y = j
      · obtain ⟨e1, e2⟩ := e
        rw [e1, e2, up_self, up_self, pc_in (by omega)]
        exact ⟨congrArg (fun z => z + unl S 0 i j) co.1, co.2⟩
      · rw [up_ne _ _ (by omega), up_ne _ _ (by omega)]
        exact hc x y x1 y1 (by omega), fun x y x1 x2 y1 y2 => ⟨up_ne _ _ (by omega), up_ne _ _ (by omega)⟩, (yfr.tr (yfr.tr (yfr.tr (yfr.tr (yfr.tr (yfr.tr (yfr.tr (f3.mono (by decide)) f6 (fun _ h => h) (by decide)) f_H18 (fun _ h => h) (by decide)) f_H20 (fun _ h => h) (by decide)) f_H22 (fun _ h => h) (by decide)) f_H24 (fun _ h => h) (by decide)) f_H26 (fun _ h => h) (by decide)) f_H28 (fun _ h => h) (by decide))⟩
theorem c_X3_choose {d : Nat} {hp : xH} {la fi ls lb lt : Int} (h58 : xat hp 58 = some (.inr (4, [.ref 59, .ref 61, yi la, yi fi, yi ls, yi lb, yi lt]))) (h59 : xat hp 59 = some (.inr (1, [.ref 60]))) (h61 : xat hp 61 = some (.inr (1, [.ref 62]))) {K L : Int → Int} (h60 : xat hp 60 = some (yI 400 K)) (h62 : xat hp 62 = some (yI 400 L)) {z o : Nat} {S f g : Int → Int} {r t : Int} (hS : yS hp 29 z o S f g r t) (hz : 0 ≤ S 0 ∧ S 0 ≤ 20 ∧ 0 ≤ S 1 ∧ S 1 ≤ 20 ∧ 0 ≤ S 2 ∧ S 2 ≤ 20 ∧ 0 ≤ S 3 ∧ S 3 ≤ 50 ∧ 0 ≤ S 4 ∧ S 4 ≤ 3) (h0 : ∀ q, 0 ≤ q → q < S 0 → 0 ≤ S (7 + q) ∧ S (7 + q) ≤ 60) (h1 : ∀ q, 0 ≤ q → q < S 1 → 0 ≤ S (27 + q) ∧ S (27 + q) ≤ 60) (hpos : 0 < S 0 ∧ 0 < S 1) (hv : ∀ y, 0 ≤ y → y < S 1 → K (20 * (S 0 - 1) + y) = pc (unl S 0) (S 3) (S 0 - 1) y ∧ L (20 * (S 0 - 1) + y) = pb (unl S 0) (S 3) (S 0 - 1) y) (hd : 1 ≤ d) : Cv d 27 [.ref 58, yi (S 0 - 1), yi (S 1)] hp (yR none (fun h => xat h 58 = some (.inr (4, [.ref 59, .ref 61, yi (pc (unl S 0) (S 3) (S 0 - 1) (pend S)), yi (pb (unl S 0) (S 3) (S 0 - 1) (pend S)), yi (pend S), yi lb, yi lt])) ∧ yfr [58] hp h)) := by
  have hk : xtab 27 = (xc_27, 4, 0, []) := rfl
  obtain ⟨d, rfl⟩ : ∃ e, d = e + 1 := ⟨d - 1, by omega⟩
  obtain ⟨hid, hs_, hz_, ho_, hf_, hg_, ef, eg⟩ := hS
  have hDD : ∀ i j, 0 ≤ i → i < S 0 → 0 ≤ j → j < S 1 → 0 ≤ unl S 0 i j ∧ unl S 0 i j ≤ 5184 := fun i j a1 a2 a3 a4 => unl_rng hz h0 h1 (by omega) a1 a2 a3 a4
  show Ev (d + 1) 27 0 [(0, .ref 58), (1, yi (S 0 - 1)), (2, yi (S 1))] [] hp _
  refine E_run hk 2 (j' := 2) (lv' := [(0, .ref 58), (1, yi (S 0 - 1)), (2, yi (S 1))]) (st' := [yi 1000000000, .ref 58]) (hp' := hp) rfl ?_
  refine Y_put hk rfl h58 (by decide) (Nat.le_of_ble_eq_true rfl) rfl (fs' := [.ref 59, .ref 61, yi 1000000000, yi fi, yi ls, yi lb, yi lt]) rfl (fun H1 e2 f3 => ?_)
  refine E_run hk 2 (j' := 5) (lv' := [(3, yi 0), (0, .ref 58), (1, yi (S 0 - 1)), (2, yi (S 1))]) (st' := []) (hp' := H1) rfl ?_
  have loop5 : ∀ (N : Nat) (x : Int) (la2 : Int) (fi2 : Int) (e : Int) (hl5 : xH), (0 ≤ x ∧ x ≤ S 1 ∧ (0 < x → 0 ≤ e ∧ e < x)) → (x = 0 → la2 = 1000000000) → (0 < x → la2 = pc (unl S 0) (S 3) (S 0 - 1) e ∧ fi2 = pb (unl S 0) (S 3) (S 0 - 1) e ∧ e = pes (fun y => pc (unl S 0) (S 3) (S 0 - 1) y) (x - 1).toNat) → (xat hl5 58 = some (.inr (4, [.ref 59, .ref 61, yi la2, yi fi2, yi e, yi lb, yi lt]))) → (yfr [58] H1 hl5) → (S 1 - x).toNat = N → Ev (d + 1) 27 5 [(0, .ref 58), (1, yi (S 0 - 1)), (2, yi (S 1)), (3, yi x)] [] hl5 (yR none (fun h => xat h 58 = some (.inr (4, [.ref 59, .ref 61, yi (pc (unl S 0) (S 3) (S 0 - 1) (pend S)), yi (pb (unl S 0) (S 3) (S 0 - 1) (pend S)), yi (pend S), yi lb, yi lt])) ∧ yfr [58] hp h)) := by
    intro N
    induction N using Nat.strongRecOn with
    | ind N ih5 =>
      intro x la2 fi2 e hl5 J1 J2 J3 ec5_58 fr5 hm5
      refine E_run hk 1 (j' := 6) (lv' := [(0, .ref 58), (1, yi (S 0 - 1)), (2, yi (S 1)), (3, yi x)]) (st' := [yi x]) (hp' := hl5) rfl ?_
      refine E_run hk 1 (j' := 7) (lv' := [(0, .ref 58), (1, yi (S 0 - 1)), (2, yi (S 1)), (3, yi x)]) (st' := [yi (S 1), yi x]) (hp' := hl5) rfl ?_
      refine Y_ic_ge (a := x) (b := (S 1)) (by omega) hk rfl (fun g4 => ?_) (fun g4 => ?_)
      ·
        exact E_ret hk rfl rfl (by
      obtain ⟨q1, q2, q3⟩ := J3 (by omega)
      have e9 : e = pend S := by
        rw [q3]
        unfold pend
        congr 1
        omega
      subst e9
      refine ⟨rfl, ?_, (yfr.tr f3 fr5 (fun _ h => h) (by decide))⟩
      rw [← q1, ← q2]
      exact ec5_58)
      ·
        have g1 : gat K (S 0 - 1) x = pc (unl S 0) (S 3) (S 0 - 1) x := by
          unfold gat
          rw [if_pos (by omega)]
          exact (hv x (by omega) (by omega)).1
        have g2 : gat L (S 0 - 1) x = pb (unl S 0) (S 3) (S 0 - 1) x := by
          unfold gat
          rw [if_pos (by omega)]
          exact (hv x (by omega) (by omega)).2
        have r1 := pc_rng (w := S 3) (m := S 0) (n := S 1) (D := unl S 0) (by omega) (by omega) hDD _ (S 0 - 1) x (by omega) (by omega) rfl
        have r2 := fun (q : 0 < x) => pc_rng (w := S 3) (m := S 0) (n := S 1) (D := unl S 0) (by omega) (by omega) hDD _ (S 0 - 1) e (by omega) (by omega) rfl
        refine E_run hk 1 (j' := 9) (lv' := [(0, .ref 58), (1, yi (S 0 - 1)), (2, yi (S 1)), (3, yi x)]) (st' := [.ref 58]) (hp' := hl5) rfl ?_
        refine E_get (v := .ref 59) hk rfl ec5_58 rfl ?_
        refine E_run hk 2 (j' := 12) (lv' := [(0, .ref 58), (1, yi (S 0 - 1)), (2, yi (S 1)), (3, yi x)]) (st' := [yi x, yi (S 0 - 1), .ref 59]) (hp' := hl5) rfl ?_
        refine Y_callP hk rfl (as := [.ref 59, yi (S 0 - 1), yi x]) (rest := []) (v := some (yi (gat K (S 0 - 1) x))) rfl rfl (Nat.le_of_ble_eq_true rfl) (rcv0 (fr5.at (by decide) (f3.at (by decide) h59))) (Nat.le_of_ble_eq_true rfl) (c_X0_at (i := (S 0 - 1)) (j := x) (a := 59) (p := 60) (k := K) ⟨by decide, by decide, by decide⟩ (fr5.at (by decide) (f3.at (by decide) h59)) (fr5.at (by decide) (f3.at (by decide) h60)) (by omega)) ?_
        refine E_run hk 1 (j' := 14) (lv' := [(0, .ref 58), (1, yi (S 0 - 1)), (2, yi (S 1)), (3, yi x)]) (st' := [.ref 58, yi (gat K (S 0 - 1) x)]) (hp' := hl5) rfl ?_
        refine E_get (v := yi la2) hk rfl ec5_58 rfl ?_
        have r3 : 0 < x → la2 = pc (unl S 0) (S 3) (S 0 - 1) e := fun q => (J3 q).1
        refine Y_ic_ge (a := (gat K (S 0 - 1) x)) (b := la2) (by omega) hk rfl (fun g5 => ?_) (fun g5 => ?_)
        ·
          refine Y_iinc (a := x) (z := 1) hk rfl rfl rfl (by decide) (lv' := [(3, yi (x + 1)), (0, .ref 58), (1, yi (S 0 - 1)), (2, yi (S 1))]) rfl ?_
          refine E_run hk 1 (j' := 5) (lv' := [(3, yi (x + 1)), (0, .ref 58), (1, yi (S 0 - 1)), (2, yi (S 1))]) (st' := []) (hp' := hl5) rfl ?_
          exact Ev_le (xle_s rfl rfl (xle_s rfl rfl (xle_s rfl rfl (xle_s rfl rfl (xle_z _ rfl))))) (ih5 _ (by omega) (x + 1) la2 fi2 e hl5 (by by_cases q : 0 < x <;> omega) (fun q => absurd q (by omega)) (fun _ => by
        rcases (by omega : x = 0 ∨ 0 < x) with q | q
        · first
            | (exfalso; have := J2 q; omega)
            | (subst q; exact ⟨g1, g2, rfl⟩)
        · obtain ⟨q1, q2, q3⟩ := J3 q
          rw [pes_s (by omega), ← q3]
          first
            | (rw [if_pos (by omega)]; exact ⟨g1, g2, rfl⟩)
            | (rw [if_neg (by omega)]; exact ⟨q1, q2, rfl⟩)) ec5_58 fr5 rfl)
        ·
          refine E_run hk 2 (j' := 18) (lv' := [(0, .ref 58), (1, yi (S 0 - 1)), (2, yi (S 1)), (3, yi x)]) (st' := [.ref 58, .ref 58]) (hp' := hl5) rfl ?_
          refine E_get (v := .ref 59) hk rfl ec5_58 rfl ?_
          refine E_run hk 2 (j' := 21) (lv' := [(0, .ref 58), (1, yi (S 0 - 1)), (2, yi (S 1)), (3, yi x)]) (st' := [yi x, yi (S 0 - 1), .ref 59, .ref 58]) (hp' := hl5) rfl ?_
          refine Y_callP hk rfl (as := [.ref 59, yi (S 0 - 1), yi x]) (rest := [.ref 58]) (v := some (yi (gat K (S 0 - 1) x))) rfl rfl (Nat.le_of_ble_eq_true rfl) (rcv0 (fr5.at (by decide) (f3.at (by decide) h59))) (Nat.le_of_ble_eq_true rfl) (c_X0_at (i := (S 0 - 1)) (j := x) (a := 59) (p := 60) (k := K) ⟨by decide, by decide, by decide⟩ (fr5.at (by decide) (f3.at (by decide) h59)) (fr5.at (by decide) (f3.at (by decide) h60)) (by omega)) ?_
          refine Y_put hk rfl ec5_58 (by decide) (Nat.le_of_ble_eq_true rfl) rfl (fs' := [.ref 59, .ref 61, yi (gat K (S 0 - 1) x), yi fi2, yi e, yi lb, yi lt]) rfl (fun H6 e7 f8 => ?_)
          refine E_run hk 2 (j' := 25) (lv' := [(0, .ref 58), (1, yi (S 0 - 1)), (2, yi (S 1)), (3, yi x)]) (st' := [.ref 58, .ref 58]) (hp' := H6) rfl ?_
          refine E_get (v := .ref 61) hk rfl e7 rfl ?_
          refine E_run hk 2 (j' := 28) (lv' := [(0, .ref 58), (1, yi (S 0 - 1)), (2, yi (S 1)), (3, yi x)]) (st' := [yi x, yi (S 0 - 1), .ref 61, .ref 58]) (hp' := H6) rfl ?_
          refine Y_callP hk rfl (as := [.ref 61, yi (S 0 - 1), yi x]) (rest := [.ref 58]) (v := some (yi (gat L (S 0 - 1) x))) rfl rfl (Nat.le_of_ble_eq_true rfl) (rcv0 (f8.at (by decide) (fr5.at (by decide) (f3.at (by decide) h61)))) (Nat.le_of_ble_eq_true rfl) (c_X0_at (i := (S 0 - 1)) (j := x) (a := 61) (p := 62) (k := L) ⟨by decide, by decide, by decide⟩ (f8.at (by decide) (fr5.at (by decide) (f3.at (by decide) h61))) (f8.at (by decide) (fr5.at (by decide) (f3.at (by decide) h62))) (by omega)) ?_
          refine Y_put hk rfl e7 (by decide) (Nat.le_of_ble_eq_true rfl) rfl (fs' := [.ref 59, .ref 61, yi (gat K (S 0 - 1) x), yi (gat L (S 0 - 1) x), yi e, yi lb, yi lt]) rfl (fun H9 e10 f11 => ?_)
          refine E_run hk 2 (j' := 32) (lv' := [(0, .ref 58), (1, yi (S 0 - 1)), (2, yi (S 1)), (3, yi x)]) (st' := [yi x, .ref 58]) (hp' := H9) rfl ?_
          refine Y_put hk rfl e10 (by decide) (Nat.le_of_ble_eq_true rfl) rfl (fs' := [.ref 59, .ref 61, yi (gat K (S 0 - 1) x), yi (gat L (S 0 - 1) x), yi x, yi lb, yi lt]) rfl (fun H12 e13 f14 => ?_)
          refine Y_iinc (a := x) (z := 1) hk rfl rfl rfl (by decide) (lv' := [(3, yi (x + 1)), (0, .ref 58), (1, yi (S 0 - 1)), (2, yi (S 1))]) rfl ?_
          refine E_run hk 1 (j' := 5) (lv' := [(3, yi (x + 1)), (0, .ref 58), (1, yi (S 0 - 1)), (2, yi (S 1))]) (st' := []) (hp' := H12) rfl ?_
          exact Ev_le (xle_s rfl rfl (xle_s rfl rfl (xle_s rfl rfl (xle_s rfl rfl (xle_z _ rfl))))) (ih5 _ (by omega) (x + 1) (gat K (S 0 - 1) x) (gat L (S 0 - 1) x) x H12 (by by_cases q : 0 < x <;> omega) (fun q => absurd q (by omega)) (fun _ => by
        rcases (by omega : x = 0 ∨ 0 < x) with q | q
        · first
            | (exfalso; have := J2 q; omega)
            | (subst q; exact ⟨g1, g2, rfl⟩)
        · obtain ⟨q1, q2, q3⟩ := J3 q
          rw [pes_s (by omega), ← q3]
          first
            | (rw [if_pos (by omega)]; exact ⟨g1, g2, rfl⟩)
            | (rw [if_neg (by omega)]; exact ⟨q1, q2, rfl⟩)) e13 (yfr.tr (yfr.tr (yfr.tr fr5 f8 (fun _ h => h) (by decide)) f11 (fun _ h => h) (by decide)) f14 (fun _ h => h) (by decide)) rfl)
  exact Ev_le (xle_s rfl rfl (xle_s rfl rfl (xle_s rfl rfl (xle_s rfl rfl (xle_z _ rfl))))) (loop5 _ 0 1000000000 fi ls H1 (by omega) (fun _ => rfl) (fun q => absurd q (by decide)) e2 (yfr.refl _ _) rfl)
theorem c_X3_find {d : Nat} {hp : xH} {la fi ls lb lt : Int} (h58 : xat hp 58 = some (.inr (4, [.ref 59, .ref 61, yi la, yi fi, yi ls, yi lb, yi lt]))) (h59 : xat hp 59 = some (.inr (1, [.ref 60]))) (h61 : xat hp 61 = some (.inr (1, [.ref 62]))) {K L : Int → Int} (h60 : xat hp 60 = some (yI 400 K)) (h62 : xat hp 62 = some (yI 400 L)) {z o : Nat} {S f g : Int → Int} {r t : Int} (hS : yS hp 29 z o S f g r t) (hz : 0 ≤ S 0 ∧ S 0 ≤ 20 ∧ 0 ≤ S 1 ∧ S 1 ≤ 20 ∧ 0 ≤ S 2 ∧ S 2 ≤ 20 ∧ 0 ≤ S 3 ∧ S 3 ≤ 50 ∧ 0 ≤ S 4 ∧ S 4 ≤ 3) (h0 : ∀ q, 0 ≤ q → q < S 0 → 0 ≤ S (7 + q) ∧ S (7 + q) ≤ 60) (h1 : ∀ q, 0 ≤ q → q < S 1 → 0 ≤ S (27 + q) ∧ S (27 + q) ≤ 60) (hpos : 0 < S 0 ∧ 0 < S 1) (hd : 3 ≤ d) : Cv d 24 [.ref 58, .ref 29] hp (yR none (fun h => ∃ lb2 lt2 K2 L2, xat h 58 = some (.inr (4, [.ref 59, .ref 61, yi (pc (unl S 0) (S 3) (S 0 - 1) (pend S)), yi (pb (unl S 0) (S 3) (S 0 - 1) (pend S)), yi (pend S), yi lb2, yi lt2])) ∧ xat h 60 = some (yI 400 K2) ∧ xat h 62 = some (yI 400 L2) ∧ yfr [58, 60, 62] hp h)) := by
  have hk : xtab 24 = (xc_24, 4, 0, []) := rfl
  obtain ⟨d, rfl⟩ : ∃ e, d = e + 1 := ⟨d - 1, by omega⟩
  obtain ⟨hid, hs_, hz_, ho_, hf_, hg_, ef, eg⟩ := hS
  show Ev (d + 1) 24 0 [(0, .ref 58), (1, .ref 29)] [] hp _
  refine E_run hk 2 (j' := 2) (lv' := [(2, yi 0), (0, .ref 58), (1, .ref 29)]) (st' := []) (hp' := hp) rfl ?_
  have loop2 : ∀ (N : Nat) (i : Int) (b1 : Int) (t1 : Int) (k1 : Int → Int) (l1 : Int → Int) (hl2 : xH), (0 ≤ i ∧ i ≤ S 0) → (∀ x y, 0 ≤ x → 0 ≤ y → x < i ∧ y < S 1 → k1 (20 * x + y) = pc (unl S 0) (S 3) x y ∧ l1 (20 * x + y) = pb (unl S 0) (S 3) x y) → (xat hl2 58 = some (.inr (4, [.ref 59, .ref 61, yi la, yi fi, yi ls, yi b1, yi t1]))) → (xat hl2 60 = some (yI 400 k1)) → (xat hl2 62 = some (yI 400 l1)) → (yfr [58, 60, 62] hp hl2) → (S 0 - i).toNat = N → Ev (d + 1) 24 2 [(0, .ref 58), (1, .ref 29), (2, yi i)] [] hl2 (yR none (fun h => ∃ lb2 lt2 K2 L2, xat h 58 = some (.inr (4, [.ref 59, .ref 61, yi (pc (unl S 0) (S 3) (S 0 - 1) (pend S)), yi (pb (unl S 0) (S 3) (S 0 - 1) (pend S)), yi (pend S), yi lb2, yi lt2])) ∧ xat h 60 = some (yI 400 K2) ∧ xat h 62 = some (yI 400 L2) ∧ yfr [58, 60, 62] hp h)) := by
    intro N
    induction N using Nat.strongRecOn with
    | ind N ih2 =>
      intro i b1 t1 k1 l1 hl2 J1 J2 ec2_58 ec2_60 ec2_62 fr2 hm2
      refine E_run hk 1 (j' := 3) (lv' := [(0, .ref 58), (1, .ref 29), (2, yi i)]) (st' := [yi i]) (hp' := hl2) rfl ?_
      refine E_run hk 1 (j' := 4) (lv' := [(0, .ref 58), (1, .ref 29), (2, yi i)]) (st' := [.ref 29, yi i]) (hp' := hl2) rfl ?_
      refine E_get (v := .ref z) hk rfl (fr2.at (by decide) hs_) rfl ?_
      refine E_get (v := yi (S 0)) hk rfl (fr2.at (by simp only [List.mem_cons, List.not_mem_nil, or_false, not_or]; exact ⟨(Ne.symm (sok hid (by unfold apart; decide)).2.1), (Ne.symm (sok hid (by unfold apart; decide)).2.1), (Ne.symm (sok hid (by unfold apart; decide)).2.1)⟩) hz_) rfl ?_
      refine Y_ic_ge (a := i) (b := (S 0)) (by omega) hk rfl (fun g1 => ?_) (fun g1 => ?_)
      ·
        refine E_run hk 2 (j' := 25) (lv' := [(0, .ref 58), (1, .ref 29), (2, yi i)]) (st' := [.ref 29, .ref 58]) (hp' := hl2) rfl ?_
        refine E_get (v := .ref z) hk rfl (fr2.at (by decide) hs_) rfl ?_
        refine E_get (v := yi (S 0)) hk rfl (fr2.at (by simp only [List.mem_cons, List.not_mem_nil, or_false, not_or]; exact ⟨(Ne.symm (sok hid (by unfold apart; decide)).2.1), (Ne.symm (sok hid (by unfold apart; decide)).2.1), (Ne.symm (sok hid (by unfold apart; decide)).2.1)⟩) hz_) rfl ?_
        refine E_run hk 1 (j' := 28) (lv' := [(0, .ref 58), (1, .ref 29), (2, yi i)]) (st' := [yi 1, yi (S 0), .ref 58]) (hp' := hl2) rfl ?_
        refine Y_isub (a := (S 0)) (b := 1) hk rfl ?_
        refine E_run hk 1 (j' := 30) (lv' := [(0, .ref 58), (1, .ref 29), (2, yi i)]) (st' := [.ref 29, yi ((S 0) - 1), .ref 58]) (hp' := hl2) rfl ?_
        refine E_get (v := .ref o) hk rfl (fr2.at (by decide) hs_) rfl ?_
        refine E_get (v := yi (S 1)) hk rfl (fr2.at (by simp only [List.mem_cons, List.not_mem_nil, or_false, not_or]; exact ⟨(Ne.symm (sok hid (by unfold apart; decide)).2.2.2.1), (Ne.symm (sok hid (by unfold apart; decide)).2.2.2.1), (Ne.symm (sok hid (by unfold apart; decide)).2.2.2.1)⟩) ho_) rfl ?_
        refine Y_call hk rfl (as := [.ref 58, yi ((S 0) - 1), yi (S 1)]) (rest := []) (v := none) rfl rfl (Nat.le_of_ble_eq_true rfl) (rcv0 ec2_58) (Nat.le_of_ble_eq_true rfl) (c_X3_choose ec2_58 (fr2.at (by decide) h59) (fr2.at (by decide) h61) ec2_60 ec2_62 ⟨hid, (fr2.at (by decide) hs_), (fr2.at (by simp only [List.mem_cons, List.not_mem_nil, or_false, not_or]; exact ⟨(Ne.symm (sok hid (by unfold apart; decide)).2.1), (Ne.symm (sok hid (by unfold apart; decide)).2.1), (Ne.symm (sok hid (by unfold apart; decide)).2.1)⟩) hz_), (fr2.at (by simp only [List.mem_cons, List.not_mem_nil, or_false, not_or]; exact ⟨(Ne.symm (sok hid (by unfold apart; decide)).2.2.2.1), (Ne.symm (sok hid (by unfold apart; decide)).2.2.2.1), (Ne.symm (sok hid (by unfold apart; decide)).2.2.2.1)⟩) ho_), (fr2.at (by simp only [List.mem_cons, List.not_mem_nil, or_false, not_or]; exact ⟨(Ne.symm (sok hid (by unfold apart; decide)).2.2.1), (Ne.symm (sok hid (by unfold apart; decide)).2.2.1), (Ne.symm (sok hid (by unfold apart; decide)).2.2.1)⟩) hf_), (fr2.at (by simp only [List.mem_cons, List.not_mem_nil, or_false, not_or]; exact ⟨(Ne.symm (sok hid (by unfold apart; decide)).2.2.2.2), (Ne.symm (sok hid (by unfold apart; decide)).2.2.2.2), (Ne.symm (sok hid (by unfold apart; decide)).2.2.2.2)⟩) hg_), ef, eg⟩ hz h0 h1 (by omega) (fun y y1 y2 => J2 (S 0 - 1) y (by omega) y1 (by omega)) (hd := by omega)) (fun H2 r3 => ?_)
        obtain ⟨m_H2, f_H2⟩ := r3
        exact E_ret hk rfl rfl ⟨rfl, _, _, _, _, m_H2, (f_H2.at (by decide) ec2_60), (f_H2.at (by decide) ec2_62), (yfr.tr fr2 f_H2 (fun _ h => h) (by decide))⟩
      ·
        refine E_run hk 2 (j' := 9) (lv' := [(3, yi 0), (0, .ref 58), (1, .ref 29), (2, yi i)]) (st' := []) (hp' := hl2) rfl ?_
        have loop9 : ∀ (N : Nat) (j : Int) (b2_ : Int) (t2 : Int) (k2 : Int → Int) (l2 : Int → Int) (hl9 : xH), (0 ≤ j ∧ j ≤ S 1) → (∀ x y, 0 ≤ x → 0 ≤ y → (x < i ∧ y < S 1) ∨ (x = i ∧ y < j) → k2 (20 * x + y) = pc (unl S 0) (S 3) x y ∧ l2 (20 * x + y) = pb (unl S 0) (S 3) x y) → (xat hl9 58 = some (.inr (4, [.ref 59, .ref 61, yi la, yi fi, yi ls, yi b2_, yi t2]))) → (xat hl9 60 = some (yI 400 k2)) → (xat hl9 62 = some (yI 400 l2)) → (yfr [58, 60, 62] hl2 hl9) → (S 1 - j).toNat = N → Ev (d + 1) 24 9 [(0, .ref 58), (1, .ref 29), (2, yi i), (3, yi j)] [] hl9 (yR none (fun h => ∃ lb2 lt2 K2 L2, xat h 58 = some (.inr (4, [.ref 59, .ref 61, yi (pc (unl S 0) (S 3) (S 0 - 1) (pend S)), yi (pb (unl S 0) (S 3) (S 0 - 1) (pend S)), yi (pend S), yi lb2, yi lt2])) ∧ xat h 60 = some (yI 400 K2) ∧ xat h 62 = some (yI 400 L2) ∧ yfr [58, 60, 62] hp h)) := by
          intro N
          induction N using Nat.strongRecOn with
          | ind N ih9 =>
            intro j b2_ t2 k2 l2 hl9 M1 M2 ec9_58 ec9_60 ec9_62 fr9 hm9
            refine E_run hk 1 (j' := 10) (lv' := [(0, .ref 58), (1, .ref 29), (2, yi i), (3, yi j)]) (st' := [yi j]) (hp' := hl9) rfl ?_
            refine E_run hk 1 (j' := 11) (lv' := [(0, .ref 58), (1, .ref 29), (2, yi i), (3, yi j)]) (st' := [.ref 29, yi j]) (hp' := hl9) rfl ?_
            refine E_get (v := .ref o) hk rfl (fr9.at (by decide) (fr2.at (by decide) hs_)) rfl ?_
            refine E_get (v := yi (S 1)) hk rfl (fr9.at (by simp only [List.mem_cons, List.not_mem_nil, or_false, not_or]; exact ⟨(Ne.symm (sok hid (by unfold apart; decide)).2.2.2.1), (Ne.symm (sok hid (by unfold apart; decide)).2.2.2.1), (Ne.symm (sok hid (by unfold apart; decide)).2.2.2.1)⟩) (fr2.at (by simp only [List.mem_cons, List.not_mem_nil, or_false, not_or]; exact ⟨(Ne.symm (sok hid (by unfold apart; decide)).2.2.2.1), (Ne.symm (sok hid (by unfold apart; decide)).2.2.2.1), (Ne.symm (sok hid (by unfold apart; decide)).2.2.2.1)⟩) ho_)) rfl ?_
            refine Y_ic_ge (a := j) (b := (S 1)) (by omega) hk rfl (fun g4 => ?_) (fun g4 => ?_)
            ·
              refine Y_iinc (a := i) (z := 1) hk rfl rfl rfl (by decide) (lv' := [(2, yi (i + 1)), (0, .ref 58), (1, .ref 29), (3, yi j)]) rfl ?_
              refine E_run hk 1 (j' := 2) (lv' := [(2, yi (i + 1)), (0, .ref 58), (1, .ref 29), (3, yi j)]) (st' := []) (hp' := hl9) rfl ?_
              exact Ev_le (xle_s rfl rfl (xle_s rfl rfl (xle_s rfl rfl (xle_z _ rfl)))) (ih2 _ (by omega) (i + 1) b2_ t2 k2 l2 hl9 (by omega) (fun x y x1 y1 z => M2 x y x1 y1 (by omega)) ec9_58 ec9_60 ec9_62 (yfr.tr fr2 fr9 (fun _ h => h) (by decide)) rfl)
            ·
              refine E_run hk 4 (j' := 18) (lv' := [(0, .ref 58), (1, .ref 29), (2, yi i), (3, yi j)]) (st' := [yi j, yi i, .ref 29, .ref 58]) (hp' := hl9) rfl ?_
              refine Y_call hk rfl (as := [.ref 58, .ref 29, yi i, yi j]) (rest := []) (v := none) rfl rfl (Nat.le_of_ble_eq_true rfl) (rcv0 ec9_58) (Nat.le_of_ble_eq_true rfl) (c_X3_tellCell (i := i) (j := j) ec9_58 (fr9.at (by decide) (fr2.at (by decide) h59)) (fr9.at (by decide) (fr2.at (by decide) h61)) ec9_60 ec9_62 ⟨hid, (fr9.at (by decide) (fr2.at (by decide) hs_)), (fr9.at (by simp only [List.mem_cons, List.not_mem_nil, or_false, not_or]; exact ⟨(Ne.symm (sok hid (by unfold apart; decide)).2.1), (Ne.symm (sok hid (by unfold apart; decide)).2.1), (Ne.symm (sok hid (by unfold apart; decide)).2.1)⟩) (fr2.at (by simp only [List.mem_cons, List.not_mem_nil, or_false, not_or]; exact ⟨(Ne.symm (sok hid (by unfold apart; decide)).2.1), (Ne.symm (sok hid (by unfold apart; decide)).2.1), (Ne.symm (sok hid (by unfold apart; decide)).2.1)⟩) hz_)), (fr9.at (by simp only [List.mem_cons, List.not_mem_nil, or_false, not_or]; exact ⟨(Ne.symm (sok hid (by unfold apart; decide)).2.2.2.1), (Ne.symm (sok hid (by unfold apart; decide)).2.2.2.1), (Ne.symm (sok hid (by unfold apart; decide)).2.2.2.1)⟩) (fr2.at (by simp only [List.mem_cons, List.not_mem_nil, or_false, not_or]; exact ⟨(Ne.symm (sok hid (by unfold apart; decide)).2.2.2.1), (Ne.symm (sok hid (by unfold apart; decide)).2.2.2.1), (Ne.symm (sok hid (by unfold apart; decide)).2.2.2.1)⟩) ho_)), (fr9.at (by simp only [List.mem_cons, List.not_mem_nil, or_false, not_or]; exact ⟨(Ne.symm (sok hid (by unfold apart; decide)).2.2.1), (Ne.symm (sok hid (by unfold apart; decide)).2.2.1), (Ne.symm (sok hid (by unfold apart; decide)).2.2.1)⟩) (fr2.at (by simp only [List.mem_cons, List.not_mem_nil, or_false, not_or]; exact ⟨(Ne.symm (sok hid (by unfold apart; decide)).2.2.1), (Ne.symm (sok hid (by unfold apart; decide)).2.2.1), (Ne.symm (sok hid (by unfold apart; decide)).2.2.1)⟩) hf_)), (fr9.at (by simp only [List.mem_cons, List.not_mem_nil, or_false, not_or]; exact ⟨(Ne.symm (sok hid (by unfold apart; decide)).2.2.2.2), (Ne.symm (sok hid (by unfold apart; decide)).2.2.2.2), (Ne.symm (sok hid (by unfold apart; decide)).2.2.2.2)⟩) (fr2.at (by simp only [List.mem_cons, List.not_mem_nil, or_false, not_or]; exact ⟨(Ne.symm (sok hid (by unfold apart; decide)).2.2.2.2), (Ne.symm (sok hid (by unfold apart; decide)).2.2.2.2), (Ne.symm (sok hid (by unfold apart; decide)).2.2.2.2)⟩) hg_)), ef, eg⟩ hz h0 h1 (by omega) (fun x y x1 y1 z => M2 x y x1 y1 (by omega)) (hd := by omega)) (fun H5 r6 => ?_)
              obtain ⟨lb_H5, lt_H5, K_H5, L_H5, m_H5, k_H5, l_H5, a_H5, b_H5, f_H5⟩ := r6
              refine Y_iinc (a := j) (z := 1) hk rfl rfl rfl (by decide) (lv' := [(3, yi (j + 1)), (0, .ref 58), (1, .ref 29), (2, yi i)]) rfl ?_
              refine E_run hk 1 (j' := 9) (lv' := [(3, yi (j + 1)), (0, .ref 58), (1, .ref 29), (2, yi i)]) (st' := []) (hp' := H5) rfl ?_
              exact Ev_le (xle_s rfl rfl (xle_s rfl rfl (xle_s rfl rfl (xle_s rfl rfl (xle_z _ rfl))))) (ih9 _ (by omega) (j + 1) lb_H5 lt_H5 K_H5 L_H5 H5 (by omega) (fun x y x1 y1 z => by
        by_cases q : x < i - 1
        · rw [(b_H5 x y x1 (by omega) y1 (by omega)).1, (b_H5 x y x1 (by omega) y1 (by omega)).2]
          exact M2 x y x1 y1 (by omega)
        · exact a_H5 x y x1 y1 (by omega)) m_H5 k_H5 l_H5 (yfr.tr fr9 f_H5 (fun _ h => h) (by decide)) rfl)
        exact Ev_le (xle_s rfl rfl (xle_s rfl rfl (xle_s rfl rfl (xle_s rfl rfl (xle_z _ rfl))))) (loop9 _ 0 b1 t1 k1 l1 hl2 (by omega) (fun x y x1 y1 z => J2 x y x1 y1 (by omega)) ec2_58 ec2_60 ec2_62 (yfr.refl _ _) rfl)
  exact Ev_le (xle_s rfl rfl (xle_s rfl rfl (xle_s rfl rfl (xle_z _ rfl)))) (loop2 _ 0 lb lt K L hp (by omega) (fun x y q1 q2 q3 => absurd q3 (by omega)) h58 h60 h62 (yfr.refl _ _) rfl)
