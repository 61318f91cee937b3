/-! What the law's last check finds, said of the tunes alone. -/
theorem nb_ok {S : Int → Int} (ok : okS S) (hb : ¬ (S 0 = 0 ∨ S 1 = 0)) : (0 ≤ pend S ∧ pend S < S 1) ∧ (-1 ≤ pb (unl S 0) (S 3) (S 0 - 1) (pend S) ∧ pb (unl S 0) (S 3) (S 0 - 1) (pend S) ≤ pend S) ∧ (0 ≤ pc (unl S 0) (S 3) (S 0 - 1) (pend S) ∧ pc (unl S 0) (S 3) (S 0 - 1) (pend S) ≤ cst S 0 20) ∧ (0 ≤ cst S 0 20 ∧ cst S 0 20 < 100000000) ∧ orn (fw (unl S 0) (S 3) (S 2) 0 0) = unl S 0 0 0 ∧ (0 ≤ unl S 0 0 0 ∧ unl S 0 0 0 ≤ 5184) := by
  obtain ⟨hz, h0, h1, -⟩ := ok
  have hD : ∀ i j, 0 ≤ i → i < S 0 → 0 ≤ j → j < S 1 → 0 ≤ unl S 0 i j ∧ unl S 0 i j ≤ 5184 := fun i j a1 a2 a3 a4 => unl_rng hz h0 h1 (by omega) a1 a2 a3 a4
  have e1 : 0 ≤ pend S ∧ pend S ≤ ((S 1 - 1).toNat : Int) := pes_rng _
  have e2 : pc (unl S 0) (S 3) (S 0 - 1) (pend S) ≤ pc (unl S 0) (S 3) (S 0 - 1) (S 1 - 1) := pes_min (F := fun y => pc (unl S 0) (S 3) (S 0 - 1) y) (S 1 - 1).toNat (S 1 - 1) (by omega) (by omega)
  have e3 := pc_fw (D := unl S 0) (w := S 3) (b := 20) (m := S 0) (n := S 1) (by omega) (by omega) hD _ (S 0 - 1) (S 1 - 1) (by omega) (by omega) rfl
  have e4 : cst S 0 20 = fw (unl S 0) (S 3) 20 (S 0 - 1) (S 1 - 1) := if_neg hb
  have e5 := cst_full hz h0 h1 (by omega)
  have e6 := cst_rng (b := 0) (u := 20) hz h0 h1 (by decide)
  have e7 := pc_rng (D := unl S 0) (w := S 3) (m := S 0) (n := S 1) (by omega) (by omega) hD _ (S 0 - 1) (pend S) (by omega) (by omega) rfl
  have e8 := pb_le (D := unl S 0) (w := S 3) _ (S 0 - 1) (pend S) (by omega) (by omega) rfl
  have e9 := pb_rng (D := unl S 0) (w := S 3) _ (S 0 - 1) (pend S) (by omega) rfl
  have u0 := hD 0 0 (by omega) (by omega) (by omega) (by omega)
  have f0 : fw (unl S 0) (S 3) (S 2) 0 0 = unl S 0 0 0 := by
    rw [fw_in (by omega)]
    have w : fwf (unl S 0) (S 3) (S 2) 0 0 = 0 := if_pos ⟨rfl, rfl⟩
    rw [w, if_pos (by omega)]
    omega
  refine ⟨by omega, ⟨e9.1, e8⟩, ⟨e7.1, by omega⟩, ⟨e6.1, e5⟩, ?_, u0⟩
  rw [f0]
  exact if_pos (by omega)
theorem kcase {S p q : Int → Int} {c k : Int} (hk : 0 ≤ k ∧ k ≤ c) (gg : ∀ x, 0 ≤ x → x + 1 < c → gos S p q x) : k = c ∨ (k = 0 ∧ k < c ∧ prk S p q k = 0) ∨ (1 ≤ k ∧ k < c ∧ p k - p (k - 1) = 1 ∧ q k - q (k - 1) = 1 ∧ prk S p q k = 0) ∨ (1 ≤ k ∧ k < c ∧ p k - p (k - 1) = 1 ∧ q k - q (k - 1) = 0 ∧ prk S p q k = S 3) ∨ (1 ≤ k ∧ k < c ∧ p k - p (k - 1) = 0 ∧ q k - q (k - 1) = 1 ∧ prk S p q k = S 3) := by
  by_cases a : k = c
  · exact Or.inl a
  · by_cases z : k = 0
    · exact Or.inr (Or.inl ⟨z, by omega, if_pos z⟩)
    · have g := gg (k - 1) (by omega) (by omega)
      have e : prk S p q k = if p k - p (k - 1) + (q k - q (k - 1)) = 1 then S 3 else 0 := if_neg z
      unfold gos at g
      rw [show k - 1 + 1 = k by omega] at g
      rcases g with ⟨g1, g2, -⟩ | ⟨g1, g2, -⟩ | ⟨g1, g2, -⟩
      · rw [if_neg (by omega)] at e
        exact Or.inr (Or.inr (Or.inl ⟨by omega, by omega, by omega, by omega, e⟩))
      · rw [if_pos (by omega)] at e
        exact Or.inr (Or.inr (Or.inr (Or.inl ⟨by omega, by omega, by omega, by omega, e⟩)))
      · rw [if_pos (by omega)] at e
        exact Or.inr (Or.inr (Or.inr (Or.inr ⟨by omega, by omega, by omega, by omega, e⟩)))
/-- the stretches of a tune's notes: each is there, none is longer than the longest, all together they are the pairs -/
theorem str_ok {S p q : Int → Int} {c : Int} (hm : mat S) (hc : 1 ≤ c ∧ c ≤ 39) (g0 : p 0 = 0 ∧ q 0 = 0) (gl : p (c - 1) = S 0 - 1 ∧ q (c - 1) = S 1 - 1) (gg : ∀ x, 0 ≤ x → x + 1 < c → gos S p q x) (gr : ∀ x, 0 ≤ x → x < c → 0 ≤ p x ∧ p x < S 0 ∧ 0 ≤ q x ∧ q x < S 1) {t : Int} (ht : 0 ≤ t ∧ t ≤ 1) : scn (sl p q t) c.toNat (S (0 + t)).toNat = c ∧ ∀ k, 0 ≤ k → k < S (0 + t) → 1 ≤ cnt (sl p q t) k c.toNat ∧ cnt (sl p q t) k c.toNat ≤ c ∧ cnt (sl p q t) k c.toNat ≤ lng (sl p q t) c.toNat (S (0 + t)).toNat ∧ lng (sl p q t) c.toNat (S (0 + t)).toNat ≤ c := by
  obtain ⟨m1, m2, -⟩ := hm
  have key : ∀ f : Int → Int, ∀ m : Int, 0 < m → f 0 = 0 → f (c - 1) = m - 1 → (∀ x, 0 ≤ x → x + 1 < c → f (x + 1) = f x ∨ f (x + 1) = f x + 1) → (∀ x, 0 ≤ x → x < c → 0 ≤ f x ∧ f x < m) → scn f c.toNat m.toNat = c ∧ ∀ k, 0 ≤ k → k < m → 1 ≤ cnt f k c.toNat ∧ cnt f k c.toNat ≤ c ∧ cnt f k c.toNat ≤ lng f c.toNat m.toNat ∧ lng f c.toNat m.toNat ≤ c := by
    intro f m m0 f0 fl fs fr
    have a := scn_all (f := f) (k := m.toNat) c.toNat (fun y y1 y2 => by have := fr y y1 (by omega); omega)
    refine ⟨by rw [a]; omega, fun k k1 k2 => ?_⟩
    have h1 := cnt_hit f0 (c - 1).toNat (fun x x1 x2 => fs x x1 (by omega)) k k1 (by rw [show (((c - 1).toNat : Nat) : Int) = c - 1 by omega, fl]; omega)
    rw [show (c - 1).toNat + 1 = c.toNat by omega] at h1
    have h2 := cnt_rng f k c.toNat
    have h3 := cnt_lng (f := f) (c := c.toNat) (x := k) m.toNat k1 (by omega)
    have h4 := lng_rng f c.toNat m.toNat
    exact ⟨h1, by omega, h3, by omega⟩
  have gs : ∀ x, 0 ≤ x → x + 1 < c → (p (x + 1) = p x ∨ p (x + 1) = p x + 1) ∧ (q (x + 1) = q x ∨ q (x + 1) = q x + 1) := by
    intro x x1 x2
    rcases gg x x1 x2 with ⟨a, b, -⟩ | ⟨a, b, -⟩ | ⟨a, b, -⟩
    · exact ⟨Or.inr a, Or.inr b⟩
    · exact ⟨Or.inr a, Or.inl b⟩
    · exact ⟨Or.inl a, Or.inr b⟩
  rcases (by omega : t = 0 ∨ t = 1) with rfl | rfl
  · exact key p (S 0) m1 g0.1 gl.1 (fun x x1 x2 => (gs x x1 x2).1) (fun x x1 x2 => ⟨(gr x x1 x2).1, (gr x x1 x2).2.1⟩)
  · exact key q (S 1) m2 g0.2 gl.2 (fun x x1 x2 => (gs x x1 x2).2) (fun x x1 x2 => (gr x x1 x2).2.2)
/-- the end of the matched check -/
theorem m_ok {S : Int → Int} (ok : okS S) (hm : mat S) : bwS S 0 0 = cst S 0 (S 2) ∧ (0 ≤ cst S 0 (S 2) ∧ cst S 0 (S 2) ≤ 100000000) ∧ (1 ≤ wy (unl S 0) (S 3) (S 2) (S 0) (S 1) 0 0 ∧ wy (unl S 0) (S 3) (S 2) (S 0) (S 1) 0 0 ≤ 1000000) ∧ (-12 ≤ (shb (fun x => cst S x (S 2)) 12).1 ∧ (shb (fun x => cst S x (S 2)) 12).1 ≤ 12) ∧ (∀ y, -12 ≤ y → y ≤ 12 → cst S (shb (fun x => cst S x (S 2)) 12).1 (S 2) ≤ cst S y (S 2)) ∧ ∀ y, -12 ≤ y → y ≤ 12 → 0 ≤ cst S y (S 2) ∧ cst S y (S 2) ≤ 100000000 := by
  obtain ⟨hz, h0, h1, -⟩ := ok
  have hmm := hm
  obtain ⟨m1, m2, m3, m4⟩ := hmm
  have hD : ∀ i j, 0 ≤ i → i < S 0 → 0 ≤ j → j < S 1 → 0 ≤ unl S 0 i j ∧ unl S 0 i j ≤ 5184 := fun i j a1 a2 a3 a4 => unl_rng hz h0 h1 (by omega) a1 a2 a3 a4
  have g0 := bw_fin (D := unl S 0) (w := S 3) (b := S 2) (m := S 0) (n := S 1) (by omega) (by omega) hD (by omega) _ 0 0 (by omega) (by omega) (by omega) (by omega) (by omega) (by omega) rfl
  have w1 := wy_pos (D := unl S 0) (w := S 3) (b := S 2) (m := S 0) (n := S 1) (by omega) (by omega) hD _ 0 0 (by omega) (by omega) m1 m2 rfl g0
  have w2 := wy_rng (D := unl S 0) (w := S 3) (b := S 2) (m := S 0) (n := S 1) _ 0 0 rfl
  obtain ⟨s1, s2, s3, s4⟩ := shb_ok (F := fun x => cst S x (S 2)) 12
  have s5 : (shb (fun x => cst S x (S 2)) 12).2 = cst S (shb (fun x => cst S x (S 2)) 12).1 (S 2) := s1
  have rg : ∀ y, -12 ≤ y → y ≤ 12 → 0 ≤ cst S y (S 2) ∧ cst S y (S 2) ≤ 100000000 := fun y y1 y2 => cst_rng hz h0 h1 ⟨y1, y2⟩
  exact ⟨bw_cst hz h0 h1 hm, rg 0 (by decide) (by decide), ⟨w1, w2.2⟩, ⟨by omega, by omega⟩, fun y y1 y2 => by rw [← s5]; exact s4 y (by omega) (by omega), rg⟩
section PH
variable {L : Nat} {F : Int → Int} {b n : Int} {h : xH} {S T : Int → Int} {d : Nat}
theorem p_cwb {y : Int} (H : pzI L F b h n S T) (hy : 0 ≤ y ∧ y ≤ 20) (e : cst S 0 y = cst S 0 20) (hl : cst S 0 20 < 100000000) (hd : 6 ≤ d) : Cv d 84 [.ref 28, yi y] h (yE (fun z h1 => z = cst S 0 20 ∧ pzI L F (b + 1) h1 n S T)) :=
  Ev.imp (p_costWithBound H hy hd) (fun o h1 ⟨z, w, v, W⟩ => ⟨z, w, by rw [v, e, if_pos hl], W⟩)
theorem p_even0 (H : pzI L F b h n S T) (hm : ¬ mat S) (hd : 6 ≤ d) : Cv d 86 [.ref 28] h (yD (fun z h1 => z = FP.dconst0 ∧ pzI L F (b + 1) h1 n S T)) :=
  Ev.imp (p_evenShare (p := fun _ => 0) (q := fun _ => 0) (c := 0) H (Or.inl ⟨hm, rfl⟩) hd) (fun o h1 ⟨z, w, v, W⟩ => ⟨z, w, v.trans (if_pos (by decide)), W⟩)
end PH
