/-! New cells; arrays of objects. -/
/-- a new cell: A -/
def yfw (A w : Nat) (h h' : xH) : Prop := h'.1 = h.1 + 1 ∧ h'.2.1 = h.2.1 + w ∧ A = h.1 ∧ ∀ i, i ≠ A → xat h' i = xat h i
theorem yfw.at {A w : Nat} {h h' : xH} (a : yfw A w h h') {i : Nat} {c : Option xC} (hi : i ≠ A) (e : xat h i = c) : xat h' i = c := (a.2.2.2 i hi).trans e
/-- several new cells: all that was there is the same, but for S -/
def yfa (S : List Nat) (k w : Nat) (h h' : xH) : Prop := h'.1 = h.1 + k ∧ h'.2.1 = h.2.1 + w ∧ ∀ i, i < h.1 → i ∉ S → xat h' i = xat h i
theorem yfa.at {S : List Nat} {k w : Nat} {h h' : xH} (a : yfa S k w h h') {i : Nat} {c : Option xC} (hi : i ∉ S) (hl : i < h.1) (e : xat h i = c) : xat h' i = c := (a.2.2 i hl hi).trans e
theorem yfa.refl (S : List Nat) (h : xH) : yfa S 0 0 h h := ⟨rfl, rfl, fun _ _ _ => rfl⟩
theorem yfa.fr {S K : List Nat} {k w : Nat} {h h1 h2 : xH} (a : yfa S k w h h1) (b : yfr K h1 h2) (hK : ∀ i ∈ K, i ∈ S ∨ h.1 ≤ i) : yfa S k w h h2 := ⟨b.1.trans a.1, b.2.1.trans a.2.1, fun i hi hn => (b.2.2 i (fun q => by rcases hK i q with z | z; exact hn z; omega)).trans (a.2.2 i hi hn)⟩
theorem yfa.w {S : List Nat} {A k w w2 : Nat} {h h1 h2 : xH} (a : yfa S k w h h1) (b : yfw A w2 h1 h2) : yfa S (k + 1) (w + w2) h h2 := by
  obtain ⟨b1, b2, b3, b4⟩ := b
  obtain ⟨a1, a2, a3⟩ := a
  exact ⟨by omega, by omega, fun i hi hn => (b4 i (by omega)).trans (a3 i hi hn)⟩
theorem yfa.tr {S S2 : List Nat} {k w k2 w2 : Nat} {h h1 h2 : xH} (a : yfa S k w h h1) (b : yfa S2 k2 w2 h1 h2) (hK : ∀ i ∈ S2, i ∈ S ∨ h.1 ≤ i) : yfa S (k + k2) (w + w2) h h2 := by
  obtain ⟨b1, b2, b3⟩ := b
  obtain ⟨a1, a2, a3⟩ := a
  exact ⟨by omega, by omega, fun i hi hn => (b3 i (by omega) (fun q => by rcases hK i q with z | z; exact hn z; omega)).trans (a3 i hi hn)⟩
def yO (n : Nat) (f : Nat → Value) : xC := .inl (.object xObj, n, f)
section EN
variable {d k j nL rk : Nat} {L : List xE} {hs : List xX} {lv : xL} {st : List Value} {hp : xH} {Q : xO → xH → Prop} {pc len : Nat} {ax r : List Nat} {cv : Value} {a b : Int}
theorem Y_new {ix ci w : Nat} {fs : List Value} (hk : xtab k = (L, nL, rk, hs)) (he : L[j]? = some (pc, 7, .new ix, len, ci :: w :: r, cv)) (hf : xdef ci = fs) (kk : ∀ h', xat h' hp.1 = some (.inr (ci, fs)) → yfw hp.1 w hp h' → Ev d k (j + 1) lv (.ref hp.1 :: st) h' Q) : Ev d k j lv st hp Q := by
  subst hf
  exact E_step hk he (by decide) (by decide) (by decide) rfl (kk _ (xat_new_self _ _ _) ⟨rfl, rfl, rfl, fun i hi => xat_new_ne _ _ _ hi⟩)
theorem Y_newI (hr : 0 ≤ a ∧ a ≤ 1000) (hk : xtab k = (L, nL, rk, hs)) (he : L[j]? = some (pc, 7, .newarray .int, len, r, cv)) (kk : ∀ h', xat h' hp.1 = some (yI a.toNat (fun _ => 0)) → yfw hp.1 a.toNat hp h' → Ev d k (j + 1) lv (.ref hp.1 :: st) h' Q) : Ev d k j lv (yi a :: st) hp Q := by
  have h0 : ¬ iN a < 0 := fun h => by
    have h1 : iN a < iN 0 := h
    rw [iN_lt (by omega)] at h1
    omega
  have hn : (iN a).toNatClampNeg = a.toNat := iN_nat (by omega)
  refine E_step hk he (by decide) (by decide) (by decide) (hp' := xnew hp (yI a.toNat (fun _ => 0)) a.toNat) (st' := .ref hp.1 :: st) (lv' := lv) (j' := j + 1) ?_ (kk _ (xat_new_self _ _ _) ⟨rfl, rfl, rfl, fun i hi => xat_new_ne _ _ _ hi⟩)
  show (if iN a < 0 ∨ 1000 < (iN a).toNatClampNeg then none else _) = _
  rw [if_neg (by rw [hn]; rintro (h | h); exact h0 h; omega), hn]
  rfl
theorem Y_anew {ix : Nat} (hr : 0 ≤ a ∧ a ≤ 1000) (hk : xtab k = (L, nL, rk, hs)) (he : L[j]? = some (pc, 7, .anewarray ix, len, r, cv)) (kk : ∀ h', xat h' hp.1 = some (yO a.toNat (fun _ => .null)) → yfw hp.1 a.toNat hp h' → Ev d k (j + 1) lv (.ref hp.1 :: st) h' Q) : Ev d k j lv (yi a :: st) hp Q := by
  have h0 : ¬ iN a < 0 := fun h => by
    have h1 : iN a < iN 0 := h
    rw [iN_lt (by omega)] at h1
    omega
  have hn : (iN a).toNatClampNeg = a.toNat := iN_nat (by omega)
  refine E_step hk he (by decide) (by decide) (by decide) (hp' := xnew hp (yO a.toNat (fun _ => .null)) a.toNat) (st' := .ref hp.1 :: st) (lv' := lv) (j' := j + 1) ?_ (kk _ (xat_new_self _ _ _) ⟨rfl, rfl, rfl, fun i hi => xat_new_ne _ _ _ hi⟩)
  show (if iN a < 0 ∨ 1000 < (iN a).toNatClampNeg then none else _) = _
  rw [if_neg (by rw [hn]; rintro (h | h); exact h0 h; omega), hn]
  rfl
theorem vp_of {n : Nat} (hi : 0 ≤ a ∧ a < n) (hN : n ≤ 2147483647) : vp_in (iN a) n ∧ (iN a).toNatClampNeg = a.toNat := by
  have hr : -2147483648 ≤ a ∧ a ≤ 2147483647 := by omega
  refine ⟨?_, iN_nat hr⟩
  unfold vp_in
  rintro (h | h)
  · have h1 : iN a < iN 0 := h
    rw [iN_lt (by omega)] at h1
    omega
  · rw [iN_nat hr] at h
    omega
theorem Y_aald {r0 n : Nat} {f : Nat → Value} {C : String} {v : Value} (hi : 0 ≤ a ∧ a < n) (hN : n ≤ 2147483647) (hv : f a.toNat = v) (hk : xtab k = (L, nL, rk, hs)) (he : L[j]? = some (pc, 7, .aaload, len, ax, cv)) (ha : xat hp r0 = some (.inl (.object C, n, f))) (kk : Ev d k (j + 1) lv (v :: st) hp Q) : Ev d k j lv (yi a :: .ref r0 :: st) hp Q := by
  obtain ⟨h1, h2⟩ := vp_of hi hN
  refine E_step hk he (by decide) (by decide) (by decide) ?_ kk
  have ha : hp.2.2 r0 = some (.inl (.object C, n, f)) := ha
  simp [xstp, xsB, ha, xin_of h1, h2, hv]
theorem Y_aast {r0 n : Nat} {f : Nat → Value} {v : Value} (hi : 0 ≤ a ∧ a < n) (hN : n ≤ 2147483647) (hc : xNC ≤ r0) (hv : xisS hp v = true) (hk : xtab k = (L, nL, rk, hs)) (he : L[j]? = some (pc, 7, .aastore, len, ax, cv)) (ha : xat hp r0 = some (yO n f)) (kk : ∀ h', xat h' r0 = some (yO n (updV f a.toNat v)) → yfr [r0] hp h' → Ev d k (j + 1) lv st h' Q) : Ev d k j lv (v :: yi a :: .ref r0 :: st) hp Q := by
  obtain ⟨h1, h2⟩ := vp_of hi hN
  refine E_step hk he (by decide) (by decide) (by decide) (hp' := xput hp r0 (yO n (updV f a.toNat v))) (st' := st) (lv' := lv) (j' := j + 1) ?_ (kk _ (xat_put_self _ _ _) (yfr_put _ _ _))
  have ha : hp.2.2 r0 = some (.inl (.object xObj, n, f)) := ha
  simp [xstp, xsB, ha, xin_of h1, h2, hv, hc, yO]
theorem Y_alenO {r0 n : Nat} {f : Nat → Value} {C : String} (hN : n ≤ 2147483647) (hk : xtab k = (L, nL, rk, hs)) (he : L[j]? = some (pc, 7, .arraylength, len, ax, cv)) (ha : xat hp r0 = some (.inl (.object C, n, f))) (kk : Ev d k (j + 1) lv (yi (n : Int) :: st) hp Q) : Ev d k j lv (.ref r0 :: st) hp Q := by
  refine E_alen hk he ha ?_
  rw [show nI n = iN (n : Int) from by unfold nI iN; first | exact Int32.ofInt_eq_ofNat.symm | exact (Int32.ofInt_eq_ofNat n).symm | rfl | simp]
  exact kk
theorem xisS_ref {c : Nat} {fs : List Value} (h : xat hp c = some (.inr (6, fs))) : xisS hp (.ref c) = true := by
  have h : hp.2.2 c = some (.inr (6, fs)) := h
  simp [xisS, h]
theorem Y_cast {ix c ci : Nat} {fs : List Value} (hk : xtab k = (L, nL, rk, hs)) (he : L[j]? = some (pc, 7, .checkcast ix, len, ci :: r, cv)) (ha : xat hp c = some (.inr (ci, fs))) (kk : Ev d k (j + 1) lv (.ref c :: st) hp Q) : Ev d k j lv (.ref c :: st) hp Q := by
  refine E_step hk he (by decide) (by decide) (by decide) ?_ kk
  have ha : hp.2.2 c = some (.inr (ci, fs)) := ha
  simp [xstp, xsB, ha]
theorem Y_acmp {c t : Nat} {off : Int} (hk : xtab k = (L, nL, rk, hs)) (he : L[j]? = some (pc, 7, .if_acmp .eq off, len, [t], cv)) (kk : Ev d k t lv st hp Q) : Ev d k j lv (.ref c :: .ref c :: st) hp Q := by
  refine E_step hk he (by decide) (by decide) (by decide) ?_ kk
  simp [xstp, xsB, xjmp]
theorem Y_obj {c : Nat} {i : Instr} {o : xC} (hk : xtab k = (L, nL, rk, hs)) (he : L[j]? = some (pc, 4, i, len, ax, cv)) (ha : xat hp c = some o) (hc : (st.map fun v => v.category).sum ≤ 8) (kk : Ev d k (j + 1) lv st hp Q) : Ev d k j lv (.ref c :: st) hp Q := by
  refine E_step hk he (by decide) (by decide) (by decide) ?_ kk
  have ha : hp.2.2 c = some o := ha
  simp only [xstp, ha]
  rw [if_pos ⟨rfl, hc⟩]
/-- arraycopy within an array of objects, down by one -/
theorem Y_copyO {i : Instr} {e n : Nat} {f : Nat → Value} {c : Int} (hk : xtab k = (L, nL, rk, hs)) (he : L[j]? = some (pc, 5, i, len, ax, cv)) (ha : xat hp e = some (yO n f)) (hm : 0 ≤ a ∧ 0 ≤ c ∧ a + 1 + c ≤ n ∧ n ≤ 1000) (h28 : xNC ≤ e) (hS : ∀ q : Nat, q < c.toNat → xisS hp (f (a.toNat + 1 + q)) = true) (kk : ∀ h', xat h' e = some (yO n (fun q => if a.toNat ≤ q ∧ q < a.toNat + c.toNat then f (q + 1) else f q)) → yfr [e] hp h' → Ev d k (j + 1) lv [] h' Q) : Ev d k j lv [yi c, yi a, .ref e, yi (a + 1), .ref e] hp Q := by
  have ha : hp.2.2 e = some (.inl (.object xObj, n, f)) := ha
  have neg : ∀ x : Int, 0 ≤ x → x ≤ 1000 → ¬ iN x < 0 := fun x h1 h2 h => by
    have h3 : iN x < iN 0 := h
    rw [iN_lt (by omega)] at h3
    omega
  have n1 : (iN a).toNatClampNeg = a.toNat := iN_nat (by omega)
  have n2 : (iN (a + 1)).toNatClampNeg = a.toNat + 1 := by rw [iN_nat (by omega)]; omega
  have n3 : (iN c).toNatClampNeg = c.toNat := iN_nat (by omega)
  refine E_step hk he (by decide) (by decide) (by decide) (lv' := lv) (st' := []) (j' := j + 1) (hp' := xput hp e (yO n (fun q => if a.toNat ≤ q ∧ q < a.toNat + c.toNat then f (q + 1) else f q))) ?_ (kk _ (xat_put_self _ _ _) (yfr_put _ _ _))
  show xcopy j lv [yi c, yi a, .ref e, yi (a + 1), .ref e] hp = _
  unfold xcopy
  simp only [ha]
  rw [if_pos]
  · refine congrArg some (congrArg (Prod.mk (j + 1)) (congrArg (Prod.mk lv) (congrArg (Prod.mk []) ?_)))
    refine congrArg (xput hp e) (congrArg Sum.inl (congrArg (Prod.mk _) (congrArg (Prod.mk n) ?_)))
    funext q
    rw [n1, n2, n3]
    unfold va_cpy
    by_cases h : a.toNat ≤ q ∧ q < a.toNat + c.toNat
    · rw [if_pos h, if_pos h]
      congr 1
      omega
    · rw [if_neg h, if_neg h]
  · rw [n1, n2, n3]
    refine ⟨neg _ (by omega) (by omega), neg _ (by omega) (by omega), neg _ (by omega) (by omega), by omega, by omega, h28, h28, by simp, by first | trivial | rfl, ?_⟩
    rw [List.all_eq_true]
    intro x hx
    exact hS x (List.mem_range.mp hx)
end EN
