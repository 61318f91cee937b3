/-! The bits of a share; the digest of the class. -/
section EB
variable {d k j nL rk : Nat} {L : List xE} {hs : List xX} {lv : xL} {st : List Value} {hp : xH} {Q : xO → xH → Prop} {pc len : Nat} {ax r : List Nat} {cv : Value}
theorem Y_lcmp {x y : Int64} (hk : xtab k = (L, nL, rk, hs)) (he : L[j]? = some (pc, 0, .lcmp, len, ax, cv)) (kk : Ev d k (j + 1) lv (yi (lg_cmp x y).toInt :: st) hp Q) : Ev d k j lv (.long y :: .long x :: st) hp Q := by
  refine E_step hk he (by decide) (by decide) (by decide) ?_ kk
  show some (j + 1, lv, Value.int (lg_cmp x y) :: st, hp) = some (j + 1, lv, Value.int (iN (lg_cmp x y).toInt) :: st, hp)
  rw [iN_of]
end EB
theorem hls_lt {S p q : Int → Int} {c : Int} (h : mtc S c p q) : c ≤ 0 ∨ hls S (c - 1).toNat < c := by
  have w := hls_rng S (c - 1).toNat
  by_cases z : c ≤ 0
  · exact Or.inl z
  · right
    omega
