/-! The bits of a share; the digest of the class. -/
section EB
variable {d k j nL rk : Nat} {L : List xE} {hs : List xX} {lv : xL} {st : List Value} {hp : xH} {Q : xO → xH → Prop} {pc len : Nat} {ax r : List Nat} {cv : Value}
theorem Y_lcmp {x y : Int64} (hk : xtab k = (L, nL, rk, hs)) (he : L[j]? = some (pc, 0, .lcmp, len, ax, cv)) (kk : Ev d k (j + 1) lv (yi (lg_cmp x y).toInt :: st) hp Q) : Ev d k j lv (.long y :: .long x :: st) hp Q := by
  refine E_step hk he (by decide) (by decide) (by decide) ?_ kk
  show some (j + 1, lv, Value.int (lg_cmp x y) :: st, hp) = some (j + 1, lv, Value.int (iN (lg_cmp x y).toInt) :: st, hp)
  rw [iN_of]
theorem Y_newB {ix ci w : Nat} {fs : List Value} (hk : xtab k = (L, nL, rk, hs)) (he : L[j]? = some (pc, 7, .new ix, len, ci :: w :: r, cv)) (hf : xdef ci = fs) (kk : ∀ b h', xat h' b = some (.inr (ci, fs)) → yfw b w hp h' → Ev d k (j + 1) lv (.ref b :: st) h' Q) : Ev d k j lv st hp Q :=
  Y_new hk he hf (fun h' e f => kk hp.1 h' e f)
end EB
def nan_ok (x : UInt64) : Prop := x &&& 0x7fffffffffffffff ≤ 0x7ff0000000000000
/-- the loop of bitsOf: at most so many rounds -/
def bls : Nat → UInt64 → Int64 → Option Int64
  | 0, _, _ => none
  | n + 1, x, e => if (Op.cmpValue (FP.dcmp x FP.dconst1) .g).toInt < 0 ∧ 0 < (lg_cmp e 1).toInt then
      (if FP.dmul x 4611686018427387904 &&& 0x7fffffffffffffff ≤ 0x7ff0000000000000 then bls n (FP.dmul x 4611686018427387904) (e - 1) else none)
    else if FP.dsub x FP.dconst1 &&& 0x7fffffffffffffff ≤ 0x7ff0000000000000 ∧ FP.dmul (FP.dsub x FP.dconst1) 4841369599423283200 &&& 0x7fffffffffffffff ≤ 0x7ff0000000000000 then some ((e <<< ((iN 52).toInt64 &&& 63)) + FP.d2l (FP.dmul (FP.dsub x FP.dconst1) 4841369599423283200)) else none
theorem bls_s {n : Nat} {x : UInt64} {e R : Int64} (h : bls (n + 1) x e = some R) : ((Op.cmpValue (FP.dcmp x FP.dconst1) .g).toInt < 0 ∧ 0 < (lg_cmp e 1).toInt ∧ FP.dmul x 4611686018427387904 &&& 0x7fffffffffffffff ≤ 0x7ff0000000000000 ∧ bls n (FP.dmul x 4611686018427387904) (e - 1) = some R) ∨
    (¬ ((Op.cmpValue (FP.dcmp x FP.dconst1) .g).toInt < 0 ∧ 0 < (lg_cmp e 1).toInt) ∧ FP.dsub x FP.dconst1 &&& 0x7fffffffffffffff ≤ 0x7ff0000000000000 ∧ FP.dmul (FP.dsub x FP.dconst1) 4841369599423283200 &&& 0x7fffffffffffffff ≤ 0x7ff0000000000000 ∧ (e <<< ((iN 52).toInt64 &&& 63)) + FP.d2l (FP.dmul (FP.dsub x FP.dconst1) 4841369599423283200) = R) := by
  unfold bls at h
  split at h
  · rename_i c
    split at h
    · rename_i c2
      exact Or.inl ⟨c.1, c.2, c2, h⟩
    · cases h
  · rename_i c
    split at h
    · rename_i c2
      exact Or.inr ⟨c, c2.1, c2.2, Option.some.inj h⟩
    · cases h
def bitsok (x : UInt64) : Prop := (¬ 0 < (Op.cmpValue (FP.dcmp x FP.dconst0) .g).toInt ∧ x.toInt64 = 0) ∨ (0 < (Op.cmpValue (FP.dcmp x FP.dconst0) .g).toInt ∧ bls 10 x 1023 = some x.toInt64)
theorem bits_all : ∀ a : Fin 40, ∀ b : Fin 40, 1 ≤ a.val → a.val ≤ b.val → 0 < (Op.cmpValue (FP.dcmp (FP.ddiv (FP.i2d (iN (a.val : Int))) (FP.i2d (iN (b.val : Int)))) FP.dconst0) .g).toInt ∧ bls 10 (FP.ddiv (FP.i2d (iN (a.val : Int))) (FP.i2d (iN (b.val : Int)))) 1023 = some (FP.ddiv (FP.i2d (iN (a.val : Int))) (FP.i2d (iN (b.val : Int)))).toInt64 := by decide +kernel
theorem bits_shv {c e : Int} (h : 0 ≤ e ∧ c ≤ 39 ∧ (c ≤ 0 ∨ e < c)) : bitsok (shv c e) := by
  unfold shv
  by_cases q : c ≤ 0
  · rw [if_pos q]
    exact Or.inl (by decide +kernel)
  · rw [if_neg q]
    have w := bits_all ⟨(c - e).toNat, by omega⟩ ⟨c.toNat, by omega⟩ (by show 1 ≤ (c - e).toNat; omega) (by show (c - e).toNat ≤ c.toNat; omega)
    have e1 : (((c - e).toNat : Nat) : Int) = c - e := by omega
    have e2 : ((c.toNat : Nat) : Int) = c := by omega
    dsimp only at w
    rw [e1, e2] at w
    exact Or.inr w
theorem c_X8_bitsOf {d : Nat} {hp : xH} {x : UInt64} (hb : bitsok x) : Cv d 144 [.double x] hp (yP (some (.long x.toInt64)) hp) := by
  have hk : xtab 144 = (xc_144, 8, 3, []) := rfl
  have r0 := iN_rng (Op.cmpValue (FP.dcmp x FP.dconst0) .g)
  show Ev d 144 0 [(0, .double x)] [] hp _
  refine E_run hk 2 (j' := 2) (lv' := [(0, .double x)]) (st' := [.double FP.dconst0, .double x]) (hp' := hp) rfl ?_
  refine Y_dcmp (x := x) (y := FP.dconst0) (z := (Op.cmpValue (FP.dcmp x FP.dconst0) .g).toInt) ((iN_of _).symm) hk rfl ?_
  refine Y_if_gt (a := ((Op.cmpValue (FP.dcmp x FP.dconst0) .g).toInt)) (by omega) hk rfl (fun g1 => ?_) (fun g1 => ?_)
  ·
    refine E_run hk 4 (j' := 10) (lv' := [(4, .long 1023), (2, .double x), (0, .double x)]) (st' := []) (hp' := hp) rfl ?_
    have loop10 : ∀ (N : Nat) (m : Nat) (y : UInt64) (q : Int64), (bls m y q = some x.toInt64) → m = N → Ev d 144 10 [(0, .double x), (2, .double y), (4, .long q)] [] hp (yP (some (.long x.toInt64)) hp) := by
      intro N
      induction N using Nat.strongRecOn with
      | ind N ih10 =>
        intro m y q J hm10
        refine E_run hk 1 (j' := 11) (lv' := [(0, .double x), (2, .double y), (4, .long q)]) (st' := [.double y]) (hp' := hp) rfl ?_
        obtain ⟨m, rfl⟩ : ∃ k, m = k + 1 := by
          cases m with
          | zero => cases J
          | succ k => exact ⟨k, rfl⟩
        have J2 := bls_s J
        have r1 := iN_rng (Op.cmpValue (FP.dcmp y FP.dconst1) .g)
        have r2 := iN_rng (lg_cmp q 1)
        refine E_run hk 1 (j' := 12) (lv' := [(0, .double x), (2, .double y), (4, .long q)]) (st' := [.double FP.dconst1, .double y]) (hp' := hp) rfl ?_
        refine Y_dcmp (x := y) (y := FP.dconst1) (z := (Op.cmpValue (FP.dcmp y FP.dconst1) .g).toInt) ((iN_of _).symm) hk rfl ?_
        refine Y_if_ge (a := ((Op.cmpValue (FP.dcmp y FP.dconst1) .g).toInt)) (by omega) hk rfl (fun g2 => ?_) (fun g2 => ?_)
        ·
          have J4 := (show FP.dsub y FP.dconst1 &&& 0x7fffffffffffffff ≤ 0x7ff0000000000000 ∧ FP.dmul (FP.dsub y FP.dconst1) 4841369599423283200 &&& 0x7fffffffffffffff ≤ 0x7ff0000000000000 ∧ (q <<< ((iN 52).toInt64 &&& 63)) + FP.d2l (FP.dmul (FP.dsub y FP.dconst1) 4841369599423283200) = x.toInt64 from by
            rcases J2 with ⟨c1, c2, -⟩ | ⟨-, c2, c3, c4⟩
            · omega
            · exact ⟨c2, c3, c4⟩)
          refine E_run hk 2 (j' := 29) (lv' := [(0, .double x), (2, .double y), (4, .long q)]) (st' := [.double FP.dconst1, .double y]) (hp' := hp) rfl ?_
          refine Y_dsub (x := y) (y := FP.dconst1) (J4.1) hk rfl ?_
          refine E_run hk 1 (j' := 31) (lv' := [(0, .double x), (2, .double y), (4, .long q)]) (st' := [.double 4841369599423283200, .double (FP.dsub y FP.dconst1)]) (hp' := hp) rfl ?_
          refine Y_dmul (x := (FP.dsub y FP.dconst1)) (y := 4841369599423283200) (J4.2.1) hk rfl ?_
          refine E_run hk 7 (j' := 39) (lv' := [(6, .double (FP.dmul (FP.dsub y FP.dconst1) 4841369599423283200)), (0, .double x), (2, .double y), (4, .long q)]) (st' := [.long ((q <<< ((iN 52).toInt64 &&& 63)) + (FP.d2l (FP.dmul (FP.dsub y FP.dconst1) 4841369599423283200)))]) (hp' := hp) rfl ?_
          exact E_ret hk rfl rfl ⟨by rw [J4.2.2], rfl⟩
        ·
          refine E_run hk 2 (j' := 16) (lv' := [(0, .double x), (2, .double y), (4, .long q)]) (st' := [.long 1, .long q]) (hp' := hp) rfl ?_
          refine Y_lcmp (x := q) (y := 1) hk rfl ?_
          refine Y_if_le (a := ((lg_cmp q 1).toInt)) (by omega) hk rfl (fun g3 => ?_) (fun g3 => ?_)
          ·
            have J4 := (show FP.dsub y FP.dconst1 &&& 0x7fffffffffffffff ≤ 0x7ff0000000000000 ∧ FP.dmul (FP.dsub y FP.dconst1) 4841369599423283200 &&& 0x7fffffffffffffff ≤ 0x7ff0000000000000 ∧ (q <<< ((iN 52).toInt64 &&& 63)) + FP.d2l (FP.dmul (FP.dsub y FP.dconst1) 4841369599423283200) = x.toInt64 from by
              rcases J2 with ⟨c1, c2, -⟩ | ⟨-, c2, c3, c4⟩
              · omega
              · exact ⟨c2, c3, c4⟩)
            refine E_run hk 2 (j' := 29) (lv' := [(0, .double x), (2, .double y), (4, .long q)]) (st' := [.double FP.dconst1, .double y]) (hp' := hp) rfl ?_
            refine Y_dsub (x := y) (y := FP.dconst1) (J4.1) hk rfl ?_
            refine E_run hk 1 (j' := 31) (lv' := [(0, .double x), (2, .double y), (4, .long q)]) (st' := [.double 4841369599423283200, .double (FP.dsub y FP.dconst1)]) (hp' := hp) rfl ?_
            refine Y_dmul (x := (FP.dsub y FP.dconst1)) (y := 4841369599423283200) (J4.2.1) hk rfl ?_
            refine E_run hk 7 (j' := 39) (lv' := [(6, .double (FP.dmul (FP.dsub y FP.dconst1) 4841369599423283200)), (0, .double x), (2, .double y), (4, .long q)]) (st' := [.long ((q <<< ((iN 52).toInt64 &&& 63)) + (FP.d2l (FP.dmul (FP.dsub y FP.dconst1) 4841369599423283200)))]) (hp' := hp) rfl ?_
            exact E_ret hk rfl rfl ⟨by rw [J4.2.2], rfl⟩
          ·
            refine E_run hk 2 (j' := 20) (lv' := [(0, .double x), (2, .double y), (4, .long q)]) (st' := [.double 4611686018427387904, .double y]) (hp' := hp) rfl ?_
            have J3 := (show FP.dmul y 4611686018427387904 &&& 0x7fffffffffffffff ≤ 0x7ff0000000000000 ∧ bls m (FP.dmul y 4611686018427387904) (q - 1) = some x.toInt64 from by
              rcases J2 with ⟨-, -, c3, c4⟩ | ⟨c1, -⟩
              · exact ⟨c3, c4⟩
              · exact absurd ⟨by omega, by omega⟩ c1)
            refine Y_dmul (x := y) (y := 4611686018427387904) (J3.1) hk rfl ?_
            refine E_run hk 6 (j' := 10) (lv' := [(4, .long (q - 1)), (2, .double (FP.dmul y 4611686018427387904)), (0, .double x)]) (st' := []) (hp' := hp) rfl ?_
            exact Ev_le (xle_s rfl rfl (xle_s rfl rfl (xle_s rfl rfl (xle_z _ rfl)))) (ih10 _ (by omega) m (FP.dmul y 4611686018427387904) (q - 1)  (J3.2) rfl)
    exact Ev_le (xle_s rfl rfl (xle_s rfl rfl (xle_s rfl rfl (xle_z _ rfl)))) (loop10 _ 10 x 1023  (by rcases hb with ⟨b1, -⟩ | ⟨-, b2⟩; exact absurd (by assumption) b1; exact b2) rfl)
  ·
    refine E_run hk 1 (j' := 5) (lv' := [(0, .double x)]) (st' := [.long 0]) (hp' := hp) rfl ?_
    exact E_ret hk rfl rfl (by rcases hb with ⟨-, b2⟩ | ⟨b1, -⟩; exact ⟨by rw [b2], rfl⟩; omega)
theorem hls_lt {S p q : Int → Int} {c : Int} (h : mtc S c p q) : c ≤ 0 ∨ hls S (c - 1).toNat < c := by
  have w := hls_rng S (c - 1).toNat
  by_cases z : c ≤ 0
  · exact Or.inl z
  · right
    omega
theorem hst_eq {S P U : Int → Int} {c t : Int} {x : Int64} (hl : 0 ≤ S (0 + t) ∧ S (0 + t) ≤ 20) (hu : ∀ y, 0 ≤ y → y < 20 → U y = cnt P y c.toNat) (hp : ∀ y : Int, 0 ≤ y → y < c.toNat → 0 ≤ P y ∧ P y < S (0 + t)) : hsf U (hx x (lng P c.toNat 20)) (S (0 + t)).toNat = hst S P c t x := by
  unfold hst
  rw [lng_20 hl hp]
  exact hsf_cong _ (fun y y1 y2 => hu y y1 (by omega))
theorem hbe_eq {S : Int → Int} {a b c e n : Int} {h : Int64} (ha : 0 < S 0 ∧ 0 < S 1 ∧ -S 2 ≤ S 0 - S 1 ∧ S 0 - S 1 ≤ S 2 → a = cst S 0 (S 2) ∧ b = cst S 0 (S 2)) : hbe S a b c e n h = hc1 S c e n (hx h (if 0 < S 0 ∧ 0 < S 1 ∧ -S 2 ≤ S 0 - S 1 ∧ S 0 - S 1 ≤ S 2 then 1 else 0)) := by
  by_cases m : 0 < S 0 ∧ 0 < S 1 ∧ -S 2 ≤ S 0 - S 1 ∧ S 0 - S 1 ≤ S 2
  · rw [hbe_t m, hc1_t m, (ha m).1, (ha m).2]
    simp only [if_pos m]
  · rw [hbe_f m, hc1_f m, if_neg m]
theorem hd0_eq {S f g : Int → Int} (hl : 0 ≤ S 0 ∧ 0 ≤ S 1) (ef : ∀ q, 0 ≤ q → q < S 0 → f q = S (7 + q)) (eg : ∀ q, 0 ≤ q → q < S 1 → g q = S (27 + q)) : hx (hx (hx (hx (hx (hsf g (hx (hsf f (hx 4547 (S 0)) (S 0).toNat) (S 1)) (S 1).toNat) (S 2)) (S 3)) (S 4)) (ris f (S 0 - 1).toNat + ris g (S 1 - 1).toNat)) (if 0 < S 0 ∧ 0 < S 1 ∧ -S 2 ≤ S 0 - S 1 ∧ S 0 - S 1 ≤ S 2 then 1 else 0) = hd0 S := by
  unfold hd0 hdn
  rw [ris_cong (f := f) (g := fun q => S (7 + q)) _ (fun x x1 x2 => by by_cases z : (S 0 - 1).toNat = 0; exact Or.inl z; exact Or.inr (ef x x1 (by omega))), ris_cong (f := g) (g := fun q => S (27 + q)) _ (fun x x1 x2 => by by_cases z : (S 1 - 1).toNat = 0; exact Or.inl z; exact Or.inr (eg x x1 (by omega))),
    hsf_cong (F := f) (G := fun k => S (7 + 20 * 0 + k)) (h := hx 4547 (S 0)) _ (fun x x1 x2 => (ef x x1 (by omega)).trans (congrArg S (show (7 : Int) + x = 7 + 20 * 0 + x by omega)))]
  have e2 : ∀ h, hsf g h (S 1).toNat = hsf (fun k => S (7 + 20 * 1 + k)) h (S 1).toNat := fun h => hsf_cong _ (fun x x1 x2 => (eg x x1 (by omega)).trans (congrArg S (show (27 : Int) + x = 7 + 20 * 1 + x by omega)))
  rw [e2]
  rfl
theorem yfz.of_fa {K : List Nat} {k w : Nat} {h h1 : xH} (a : yfa K k w h h1) (hk : k ≤ 6) (hw : w ≤ 61) (hN : 77 ≤ h.1) : yfz K h h1 := ⟨by rw [a.1]; omega, by rw [a.1]; omega, by rw [a.2.1]; omega, fun i i1 i2 => a.2.2 i (by omega) i2, fun _ i _ i2 i3 => a.2.2 i i2 i3⟩
