def yI (n : Nat) (f : Int → Int) : xC := .inl (.int, n, fun q => yi (f (q : Int)))
def up (f : Int → Int) (k x : Int) : Int → Int := fun q => if q = k then x else f q
theorem up_self (f : Int → Int) (k x : Int) : up f k x k = x := if_pos rfl
theorem up_ne (f : Int → Int) {k q : Int} (x : Int) (h : q ≠ k) : up f k x q = f q := if_neg h
def b2 (P : Prop) [Decidable P] : Int := if P then 1 else 0
theorem b2_t {P : Prop} {_ : Decidable P} (h : P) : b2 P = 1 := if_pos h
theorem b2_f {P : Prop} {_ : Decidable P} (h : ¬ P) : b2 P = 0 := if_neg h
/-- the heap is the same but for the cells of S -/
def yfr (S : List Nat) (h h' : xH) : Prop := h'.1 = h.1 ∧ h'.2.1 = h.2.1 ∧ ∀ i, i ∉ S → xat h' i = xat h i
theorem yfr.refl (S : List Nat) (h : xH) : yfr S h h := ⟨rfl, rfl, fun _ _ => rfl⟩
theorem yfr.tr {S1 S2 S : List Nat} {h h1 h2 : xH} (a : yfr S1 h h1) (b : yfr S2 h1 h2) (s1 : ∀ i ∈ S1, i ∈ S) (s2 : ∀ i ∈ S2, i ∈ S) : yfr S h h2 :=
  ⟨b.1.trans a.1, b.2.1.trans a.2.1, fun i hi => (b.2.2 i (fun h => hi (s2 i h))).trans (a.2.2 i (fun h => hi (s1 i h)))⟩
theorem yfr.mono {S1 S : List Nat} {h h1 : xH} (a : yfr S1 h h1) (s1 : ∀ i ∈ S1, i ∈ S) : yfr S h h1 := ⟨a.1, a.2.1, fun i hi => a.2.2 i (fun h => hi (s1 i h))⟩
theorem yfr.at {S : List Nat} {h h' : xH} (a : yfr S h h') {i : Nat} {c : Option xC} (hi : i ∉ S) (e : xat h i = c) : xat h' i = c := (a.2.2 i hi).trans e
theorem yfr_put (h : xH) (a : Nat) (c : xC) : yfr [a] h (xput h a c) := ⟨rfl, rfl, fun i hi => xat_put_ne h c (by simpa using hi)⟩
/-- it returns v, and of the heap R is true -/
def yR (v : Option Value) (R : xH → Prop) : xO → xH → Prop := fun o h => o = .inl v ∧ R h
/-- it returns v and the heap is as it was -/
abbrev yP (v : Option Value) (h : xH) : xO → xH → Prop := yR v (fun h' => h' = h)
/-- it returns v where P holds, and throws E where it doesn't -/
def yT (P : Prop) (E : Nat) (v : Option Value) (h : xH) : xO → xH → Prop := fun o h' => (P ∧ o = .inl v ∧ h' = h) ∨ (¬ P ∧ o = .inr E ∧ h' = xbare h 6)
theorem rcv0 {hp : xH} {a ci : Nat} {fs : List Value} {as : List Value} (h : xat hp a = some (.inr (ci, fs))) : xrcv 0 ci (.ref a :: as) hp = true := by
  have h : hp.2.2 a = some (.inr (ci, fs)) := h
  simp [xrcv, h]
theorem rcv2 {hp : xH} {a ci : Nat} {c : xC} {as : List Value} (h : xat hp a = some c) : xrcv 2 ci (.ref a :: as) hp = true := by
  have h : hp.2.2 a = some c := h
  simp [xrcv, h]
theorem rcv3 {hp : xH} {a ci : Nat} {c : xC} {as : List Value} (h : xat hp a = some c) : xrcv 3 ci (.ref a :: as) hp = true := by
  have h : hp.2.2 a = some c := h
  simp [xrcv, h]
theorem xret_b2 {P : Prop} {_ : Decidable P} : xret 2 .ireturn [yi (b2 P)] = some (some (yi (b2 P))) := by
  by_cases h : P
  · rw [b2_t h]; rfl
  · rw [b2_f h]; rfl
theorem xret_01 {z : Int} (h : z = 0 ∨ z = 1) : xret 2 .ireturn [yi z] = some (some (yi z)) := by
  rcases h with rfl | rfl <;> rfl
theorem xfit_01 {z : Int} (h : z = 0 ∨ z = 1) : xfit 1 (yi z) = true := by
  rcases h with rfl | rfl <;> rfl
theorem xfit_b2 {P : Prop} {_ : Decidable P} : xfit 1 (yi (b2 P)) = true := by
  by_cases h : P
  · rw [b2_t h]; rfl
  · rw [b2_f h]; rfl
section EY
variable {d k j nL rk : Nat} {L : List xE} {hs : List xX} {lv : xL} {st : List Value} {hp : xH} {Q : xO → xH → Prop} {pc len : Nat} {ax : List Nat} {cv : Value} {a b : Int}
theorem Y_con {i : Instr} {x : Int32} {z : Int} (hk : xtab k = (L, nL, rk, hs)) (he : L[j]? = some (pc, 0, i, len, ax, .int x)) (hi : (∃ c, i = .iconst c) ∨ (∃ c, i = .bipush c) ∨ (∃ c, i = .sipush c) ∨ (∃ c, i = .ldc c) ∨ (∃ c, i = .ldc_w c)) (hz : x = iN z) (kk : Ev d k (j + 1) lv (yi z :: st) hp Q) : Ev d k j lv st hp Q := by
  subst hz
  rcases hi with ⟨c, rfl⟩ | ⟨c, rfl⟩ | ⟨c, rfl⟩ | ⟨c, rfl⟩ | ⟨c, rfl⟩ <;> exact E_step hk he (by decide) (by decide) (by decide) rfl kk
theorem Y_iadd (hk : xtab k = (L, nL, rk, hs)) (he : L[j]? = some (pc, 0, .iadd, len, ax, cv)) (kk : Ev d k (j + 1) lv (yi (a + b) :: st) hp Q) : Ev d k j lv (yi b :: yi a :: st) hp Q :=
  E_step hk he (by decide) (by decide) (by decide) (by show some _ = _; rw [iN_add]) kk
theorem Y_isub (hk : xtab k = (L, nL, rk, hs)) (he : L[j]? = some (pc, 0, .isub, len, ax, cv)) (kk : Ev d k (j + 1) lv (yi (a - b) :: st) hp Q) : Ev d k j lv (yi b :: yi a :: st) hp Q :=
  E_step hk he (by decide) (by decide) (by decide) (by show some _ = _; rw [iN_sub]) kk
theorem Y_imul (hk : xtab k = (L, nL, rk, hs)) (he : L[j]? = some (pc, 0, .imul, len, ax, cv)) (kk : Ev d k (j + 1) lv (yi (a * b) :: st) hp Q) : Ev d k j lv (yi b :: yi a :: st) hp Q :=
  E_step hk he (by decide) (by decide) (by decide) (by show some _ = _; rw [iN_mul]) kk
theorem Y_ineg (hk : xtab k = (L, nL, rk, hs)) (he : L[j]? = some (pc, 0, .ineg, len, ax, cv)) (kk : Ev d k (j + 1) lv (yi (-a) :: st) hp Q) : Ev d k j lv (yi a :: st) hp Q :=
  E_step hk he (by decide) (by decide) (by decide) (by show some _ = _; rw [iN_neg]) kk
theorem Y_idiv (hr : 0 ≤ a ∧ a ≤ 2147483647 ∧ 0 < b ∧ b ≤ 2147483647) (hk : xtab k = (L, nL, rk, hs)) (he : L[j]? = some (pc, 0, .idiv, len, ax, cv)) (kk : Ev d k (j + 1) lv (yi (a / b) :: st) hp Q) : Ev d k j lv (yi b :: yi a :: st) hp Q := by
  refine E_step hk he (by decide) (by decide) (by decide) ?_ kk
  have h0 : ¬ iN b = 0 := fun h => by
    have h1 : iN b = iN 0 := h
    rw [iN_eq (by omega)] at h1
    omega
  show (if iN b = 0 then none else _) = _
  rw [if_neg h0, iN_div hr]
theorem Y_irem (hr : 0 ≤ a ∧ a ≤ 2147483647 ∧ 0 < b ∧ b ≤ 2147483647) (hk : xtab k = (L, nL, rk, hs)) (he : L[j]? = some (pc, 0, .irem, len, ax, cv)) (kk : Ev d k (j + 1) lv (yi (a % b) :: st) hp Q) : Ev d k j lv (yi b :: yi a :: st) hp Q := by
  refine E_step hk he (by decide) (by decide) (by decide) ?_ kk
  have h0 : ¬ iN b = 0 := fun h => by
    have h1 : iN b = iN 0 := h
    rw [iN_eq (by omega)] at h1
    omega
  show (if iN b = 0 then none else _) = _
  rw [if_neg h0, iN_rem hr]
theorem Y_iinc {i : Nat} {x : Int32} {c z : Int} (hk : xtab k = (L, nL, rk, hs)) (he : L[j]? = some (pc, 0, .iinc i c, len, ax, .int x)) (hx : x = iN z) (hg : xget lv i = some (yi a)) (hn : i < nL) {lv' : xL} (hlv : xst1 lv i (yi (a + z)) = lv') (kk : Ev d k (j + 1) lv' st hp Q) : Ev d k j lv st hp Q := by
  subst hx
  subst hlv
  refine E_step hk he (by decide) (by decide) (by decide) ?_ kk
  simp [xstp, xsA, hg, hn, iN_add]
abbrev y2 (a b : Int) : Prop := -2147483648 ≤ a ∧ a ≤ 2147483647 ∧ -2147483648 ≤ b ∧ b ≤ 2147483647
theorem Y_ic_eq (hr : -2147483648 ≤ a ∧ a ≤ 2147483647 ∧ -2147483648 ≤ b ∧ b ≤ 2147483647) {off : Int} {t : Nat} (hk : xtab k = (L, nL, rk, hs)) (he : L[j]? = some (pc, 0, .if_icmp .eq off, len, [t], cv)) (kt : a = b → Ev d k t lv st hp Q) (kf : ¬ a = b → Ev d k (j + 1) lv st hp Q) : Ev d k j lv (yi b :: yi a :: st) hp Q :=
  E_ic_eq hk he (fun h => kt ((iN_eq hr).mp h)) (fun h => kf (fun g => h ((iN_eq hr).mpr g)))
theorem Y_ic_ne (hr : -2147483648 ≤ a ∧ a ≤ 2147483647 ∧ -2147483648 ≤ b ∧ b ≤ 2147483647) {off : Int} {t : Nat} (hk : xtab k = (L, nL, rk, hs)) (he : L[j]? = some (pc, 0, .if_icmp .ne off, len, [t], cv)) (kt : ¬ a = b → Ev d k t lv st hp Q) (kf : a = b → Ev d k (j + 1) lv st hp Q) : Ev d k j lv (yi b :: yi a :: st) hp Q :=
  E_ic_ne hk he (fun h => kt (fun g => h ((iN_eq hr).mpr g))) (fun h => kf ((iN_eq hr).mp h))
theorem Y_ic_lt (hr : -2147483648 ≤ a ∧ a ≤ 2147483647 ∧ -2147483648 ≤ b ∧ b ≤ 2147483647) {off : Int} {t : Nat} (hk : xtab k = (L, nL, rk, hs)) (he : L[j]? = some (pc, 0, .if_icmp .lt off, len, [t], cv)) (kt : a < b → Ev d k t lv st hp Q) (kf : ¬ a < b → Ev d k (j + 1) lv st hp Q) : Ev d k j lv (yi b :: yi a :: st) hp Q :=
  E_ic_lt hk he (fun h => kt ((iN_lt hr).mp h)) (fun h => kf (fun g => h ((iN_lt hr).mpr g)))
theorem Y_ic_ge (hr : -2147483648 ≤ a ∧ a ≤ 2147483647 ∧ -2147483648 ≤ b ∧ b ≤ 2147483647) {off : Int} {t : Nat} (hk : xtab k = (L, nL, rk, hs)) (he : L[j]? = some (pc, 0, .if_icmp .ge off, len, [t], cv)) (kt : ¬ a < b → Ev d k t lv st hp Q) (kf : a < b → Ev d k (j + 1) lv st hp Q) : Ev d k j lv (yi b :: yi a :: st) hp Q :=
  E_ic_ge hk he (fun h => kt (fun g => h ((iN_lt hr).mpr g))) (fun h => kf ((iN_lt hr).mp h))
theorem Y_ic_gt (hr : -2147483648 ≤ a ∧ a ≤ 2147483647 ∧ -2147483648 ≤ b ∧ b ≤ 2147483647) {off : Int} {t : Nat} (hk : xtab k = (L, nL, rk, hs)) (he : L[j]? = some (pc, 0, .if_icmp .gt off, len, [t], cv)) (kt : b < a → Ev d k t lv st hp Q) (kf : ¬ b < a → Ev d k (j + 1) lv st hp Q) : Ev d k j lv (yi b :: yi a :: st) hp Q :=
  E_ic_gt hk he (fun h => kt ((iN_lt ⟨hr.2.2.1, hr.2.2.2, hr.1, hr.2.1⟩).mp h)) (fun h => kf (fun g => h ((iN_lt ⟨hr.2.2.1, hr.2.2.2, hr.1, hr.2.1⟩).mpr g)))
theorem Y_ic_le (hr : -2147483648 ≤ a ∧ a ≤ 2147483647 ∧ -2147483648 ≤ b ∧ b ≤ 2147483647) {off : Int} {t : Nat} (hk : xtab k = (L, nL, rk, hs)) (he : L[j]? = some (pc, 0, .if_icmp .le off, len, [t], cv)) (kt : ¬ b < a → Ev d k t lv st hp Q) (kf : b < a → Ev d k (j + 1) lv st hp Q) : Ev d k j lv (yi b :: yi a :: st) hp Q :=
  E_ic_le hk he (fun h => kt (fun g => h ((iN_lt ⟨hr.2.2.1, hr.2.2.2, hr.1, hr.2.1⟩).mpr g))) (fun h => kf ((iN_lt ⟨hr.2.2.1, hr.2.2.2, hr.1, hr.2.1⟩).mp h))
theorem Y_if_eq (hr : -2147483648 ≤ a ∧ a ≤ 2147483647) {off : Int} {t : Nat} (hk : xtab k = (L, nL, rk, hs)) (he : L[j]? = some (pc, 0, .ifCond .eq off, len, [t], cv)) (kt : a = 0 → Ev d k t lv st hp Q) (kf : ¬ a = 0 → Ev d k (j + 1) lv st hp Q) : Ev d k j lv (yi a :: st) hp Q :=
  E_if_eq hk he (fun h => kt ((iN_eq (b := 0) (by omega)).mp h)) (fun h => kf (fun g => h ((iN_eq (b := 0) (by omega)).mpr g)))
theorem Y_if_ne (hr : -2147483648 ≤ a ∧ a ≤ 2147483647) {off : Int} {t : Nat} (hk : xtab k = (L, nL, rk, hs)) (he : L[j]? = some (pc, 0, .ifCond .ne off, len, [t], cv)) (kt : ¬ a = 0 → Ev d k t lv st hp Q) (kf : a = 0 → Ev d k (j + 1) lv st hp Q) : Ev d k j lv (yi a :: st) hp Q :=
  E_if_ne hk he (fun h => kt (fun g => h ((iN_eq (b := 0) (by omega)).mpr g))) (fun h => kf ((iN_eq (b := 0) (by omega)).mp h))
theorem Y_if_lt (hr : -2147483648 ≤ a ∧ a ≤ 2147483647) {off : Int} {t : Nat} (hk : xtab k = (L, nL, rk, hs)) (he : L[j]? = some (pc, 0, .ifCond .lt off, len, [t], cv)) (kt : a < 0 → Ev d k t lv st hp Q) (kf : ¬ a < 0 → Ev d k (j + 1) lv st hp Q) : Ev d k j lv (yi a :: st) hp Q :=
  E_if_lt hk he (fun h => kt ((iN_lt (b := 0) (by omega)).mp h)) (fun h => kf (fun g => h ((iN_lt (b := 0) (by omega)).mpr g)))
theorem Y_if_ge (hr : -2147483648 ≤ a ∧ a ≤ 2147483647) {off : Int} {t : Nat} (hk : xtab k = (L, nL, rk, hs)) (he : L[j]? = some (pc, 0, .ifCond .ge off, len, [t], cv)) (kt : ¬ a < 0 → Ev d k t lv st hp Q) (kf : a < 0 → Ev d k (j + 1) lv st hp Q) : Ev d k j lv (yi a :: st) hp Q :=
  E_if_ge hk he (fun h => kt (fun g => h ((iN_lt (b := 0) (by omega)).mpr g))) (fun h => kf ((iN_lt (b := 0) (by omega)).mp h))
theorem Y_if_gt (hr : -2147483648 ≤ a ∧ a ≤ 2147483647) {off : Int} {t : Nat} (hk : xtab k = (L, nL, rk, hs)) (he : L[j]? = some (pc, 0, .ifCond .gt off, len, [t], cv)) (kt : 0 < a → Ev d k t lv st hp Q) (kf : ¬ 0 < a → Ev d k (j + 1) lv st hp Q) : Ev d k j lv (yi a :: st) hp Q :=
  E_if_gt hk he (fun h => kt ((iN_lt (a := 0) (by omega)).mp h)) (fun h => kf (fun g => h ((iN_lt (a := 0) (by omega)).mpr g)))
theorem Y_if_le (hr : -2147483648 ≤ a ∧ a ≤ 2147483647) {off : Int} {t : Nat} (hk : xtab k = (L, nL, rk, hs)) (he : L[j]? = some (pc, 0, .ifCond .le off, len, [t], cv)) (kt : ¬ 0 < a → Ev d k t lv st hp Q) (kf : 0 < a → Ev d k (j + 1) lv st hp Q) : Ev d k j lv (yi a :: st) hp Q :=
  E_if_le hk he (fun h => kt (fun g => h ((iN_lt (a := 0) (by omega)).mpr g))) (fun h => kf ((iN_lt (a := 0) (by omega)).mp h))
/-- a truth, asked -/
theorem Y_b_eq {P : Prop} {_ : Decidable P} {off : Int} {t : Nat} (hk : xtab k = (L, nL, rk, hs)) (he : L[j]? = some (pc, 0, .ifCond .eq off, len, [t], cv)) (kt : ¬ P → Ev d k t lv st hp Q) (kf : P → Ev d k (j + 1) lv st hp Q) : Ev d k j lv (yi (b2 P) :: st) hp Q := by
  by_cases h : P
  · rw [b2_t h]
    exact Y_if_eq (by decide) hk he (fun h => absurd h (by decide)) (fun _ => kf h)
  · rw [b2_f h]
    exact Y_if_eq (by decide) hk he (fun _ => kt h) (fun g => absurd rfl g)
theorem Y_b_ne {P : Prop} {_ : Decidable P} {off : Int} {t : Nat} (hk : xtab k = (L, nL, rk, hs)) (he : L[j]? = some (pc, 0, .ifCond .ne off, len, [t], cv)) (kt : P → Ev d k t lv st hp Q) (kf : ¬ P → Ev d k (j + 1) lv st hp Q) : Ev d k j lv (yi (b2 P) :: st) hp Q := by
  by_cases h : P
  · rw [b2_t h]
    exact Y_if_ne (by decide) hk he (fun _ => kt h) (fun h => absurd h (by decide))
  · rw [b2_f h]
    exact Y_if_ne (by decide) hk he (fun g => absurd rfl g) (fun _ => kf h)
theorem Y_iald {r n : Nat} {f : Int → Int} (hi : 0 ≤ a ∧ a < n) (hN : n ≤ 2147483647) (hk : xtab k = (L, nL, rk, hs)) (he : L[j]? = some (pc, 7, .iaload, len, ax, cv)) (ha : xat hp r = some (yI n f)) (kk : Ev d k (j + 1) lv (yi (f a) :: st) hp Q) : Ev d k j lv (yi a :: .ref r :: st) hp Q := by
  have hr : -2147483648 ≤ a ∧ a ≤ 2147483647 := by omega
  have h0 : ¬ iN a < 0 := fun h => by
    have h1 : iN a < iN 0 := h
    rw [iN_lt (by omega)] at h1
    omega
  have hv : vp_in (iN a) n := by
    unfold vp_in
    rintro (h | h)
    · exact h0 h
    · rw [iN_nat hr] at h
      omega
  refine E_iald (f := fun q => iN (f (q : Int))) hk he ha hv ?_
  rw [iN_nat hr, show ((a.toNat : Nat) : Int) = a by omega]
  exact kk
theorem Y_iast {r n : Nat} {f : Int → Int} {x : Int} (hi : 0 ≤ a ∧ a < n) (hN : n ≤ 2147483647) (hc : xNC ≤ r) (hk : xtab k = (L, nL, rk, hs)) (he : L[j]? = some (pc, 7, .iastore, len, ax, cv)) (ha : xat hp r = some (yI n f)) (kk : ∀ h', xat h' r = some (yI n (up f a x)) → yfr [r] hp h' → Ev d k (j + 1) lv st h' Q) : Ev d k j lv (yi x :: yi a :: .ref r :: st) hp Q := by
  have hr : -2147483648 ≤ a ∧ a ≤ 2147483647 := by omega
  have h0 : ¬ iN a < 0 := fun h => by
    have h1 : iN a < iN 0 := h
    rw [iN_lt (by omega)] at h1
    omega
  have hv : vp_in (iN a) n := by
    unfold vp_in
    rintro (h | h)
    · exact h0 h
    · rw [iN_nat hr] at h
      omega
  refine E_iast (f := fun q => iN (f (q : Int))) hk he ha hv hc (kk _ ?_ (yfr_put _ _ _))
  rw [xat_put_self, yI]
  congr 4
  funext q
  rw [iN_nat hr]
  unfold upd up
  by_cases h : q = a.toNat
  · rw [if_pos h, if_pos (by omega)]
  · rw [if_neg h, if_neg (by omega)]
theorem Y_alen {r n : Nat} {f : Int → Int} (hN : n ≤ 2147483647) (hk : xtab k = (L, nL, rk, hs)) (he : L[j]? = some (pc, 7, .arraylength, len, ax, cv)) (ha : xat hp r = some (yI n f)) (kk : Ev d k (j + 1) lv (yi (n : Int) :: st) hp Q) : Ev d k j lv (.ref r :: st) hp Q := by
  refine E_alen hk he ha ?_
  rw [show nI n = iN (n : Int) from by unfold nI iN; first | exact Int32.ofInt_eq_ofNat.symm | exact (Int32.ofInt_eq_ofNat n).symm | rfl | simp]
  exact kk
theorem Y_put {r ci f t q : Nat} {rr : List Nat} {fs : List Value} {v : Value} {ix : Nat} (hk : xtab k = (L, nL, rk, hs)) (he : L[j]? = some (pc, 7, .putfield ix, len, ci :: f :: t :: q :: rr, cv)) (ha : xat hp r = some (.inr (ci, fs))) (hn : xNC ≤ r) (hl : f < fs.length) (hf : xfit t v = true) {fs' : List Value} (hfs : fs.set f v = fs') (kk : ∀ h', xat h' r = some (.inr (ci, fs')) → yfr [r] hp h' → Ev d k (j + 1) lv st h' Q) : Ev d k j lv (v :: .ref r :: st) hp Q :=
  E_put hk he ha hn hl hf hfs (kk _ (xat_put_self _ _ _) (yfr_put _ _ _))
/-- a call that always returns -/
theorem Y_call {g na md ci : Nat} {r : List Nat} {i : Instr} {as rest : List Value} {v : Option Value} {R : xH → Prop} (hk : xtab k = (L, nL, rk, hs)) (he : L[j]? = some (pc, 1, i, len, g :: na :: md :: ci :: r, cv)) (hst : st = as.reverse ++ rest) (hna : as.length = na) (hcat : (rest.map fun v => v.category).sum ≤ 8) (hr : xrcv md ci as hp = true) (hv : (as.map fun v => v.category).sum ≤ (xtab g).2.1)
    (hc : Cv d g as hp (yR v R)) (kk : ∀ h', R h' → Ev (d + 1) k (j + 1) lv (v.toList ++ rest) h' Q) : Ev (d + 1) k j lv st hp Q :=
  E_callX hk he hst hna hcat hr hv hc (fun v' h' e => by obtain ⟨e1, e2⟩ := e; cases e1; exact kk h' e2) (fun E h' e => by obtain ⟨e1, -⟩ := e; cases e1)
/-- ... and leaves the heap alone -/
theorem Y_callP {g na md ci : Nat} {r : List Nat} {i : Instr} {as rest : List Value} {v : Option Value} (hk : xtab k = (L, nL, rk, hs)) (he : L[j]? = some (pc, 1, i, len, g :: na :: md :: ci :: r, cv)) (hst : st = as.reverse ++ rest) (hna : as.length = na) (hcat : (rest.map fun v => v.category).sum ≤ 8) (hr : xrcv md ci as hp = true) (hv : (as.map fun v => v.category).sum ≤ (xtab g).2.1)
    (hc : Cv d g as hp (yP v hp)) (kk : Ev (d + 1) k (j + 1) lv (v.toList ++ rest) hp Q) : Ev (d + 1) k j lv st hp Q :=
  Y_call hk he hst hna hcat hr hv hc (fun h' e => by subst e; exact kk)
/-- a call whose answer is some number -/
def yE (R : Int → xH → Prop) : xO → xH → Prop := fun o h => ∃ z, o = .inl (some (yi z)) ∧ R z h
theorem Y_callE {g na md ci : Nat} {r : List Nat} {i : Instr} {as rest : List Value} {R : Int → xH → Prop} (hk : xtab k = (L, nL, rk, hs)) (he : L[j]? = some (pc, 1, i, len, g :: na :: md :: ci :: r, cv)) (hst : st = as.reverse ++ rest) (hna : as.length = na) (hcat : (rest.map fun v => v.category).sum ≤ 8) (hr : xrcv md ci as hp = true) (hv : (as.map fun v => v.category).sum ≤ (xtab g).2.1)
    (hc : Cv d g as hp (yE R)) (kk : ∀ z h', R z h' → Ev (d + 1) k (j + 1) lv (yi z :: rest) h' Q) : Ev (d + 1) k j lv st hp Q :=
  E_callX hk he hst hna hcat hr hv hc (fun v' h' e => by obtain ⟨z, e1, e2⟩ := e; cases e1; exact kk z h' e2) (fun E h' e => by obtain ⟨z, e1, -⟩ := e; cases e1)
/-- a call that may throw; not caught here -/
theorem Y_callT {g na md ci E : Nat} {r : List Nat} {i : Instr} {as rest : List Value} {v : Option Value} {P : Prop} (hk : xtab k = (L, nL, rk, hs)) (he : L[j]? = some (pc, 1, i, len, g :: na :: md :: ci :: r, cv)) (hst : st = as.reverse ++ rest) (hna : as.length = na) (hcat : (rest.map fun v => v.category).sum ≤ 8) (hr : xrcv md ci as hp = true) (hv : (as.map fun v => v.category).sum ≤ (xtab g).2.1)
    (hc : Cv d g as hp (yT P E v hp)) (kk : P → Ev (d + 1) k (j + 1) lv (v.toList ++ rest) hp Q) (hx : xcatch hs pc E = none) (kx : ¬ P → Q (.inr E) (xbare hp 6)) : Ev (d + 1) k j lv st hp Q :=
  E_callX hk he hst hna hcat hr hv hc (fun v' h' e => by
    rcases e with ⟨e1, e2, e3⟩ | ⟨e1, e2, e3⟩
    · cases e2; subst e3; exact kk e1
    · cases e2) (fun E' h' e => by
    rcases e with ⟨e1, e2, e3⟩ | ⟨e1, e2, e3⟩
    · cases e2
    · cases e2; subst e3; exact Or.inl ⟨hx, kx e1⟩)
end EY
