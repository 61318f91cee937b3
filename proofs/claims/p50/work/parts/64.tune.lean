/-! The class: its tunes. A tune is the object a, its pitches the array p. -/
def mx (a b : Int) : Int := if a < b then b else a
def mn (a b : Int) : Int := if b < a then b else a
def ab (a : Int) : Int := if 0 ≤ a then a else 0 - a
theorem mx_rng (a b : Int) : (mx a b = b ∧ a < b) ∨ (mx a b = a ∧ b ≤ a) := by
  unfold mx
  split
  · exact Or.inl ⟨rfl, by assumption⟩
  · exact Or.inr ⟨rfl, by omega⟩
theorem mn_rng (a b : Int) : (mn a b = b ∧ b < a) ∨ (mn a b = a ∧ a ≤ b) := by
  unfold mn
  split
  · exact Or.inl ⟨rfl, by assumption⟩
  · exact Or.inr ⟨rfl, by omega⟩
theorem ab_rng (a : Int) : (ab a = a ∧ 0 ≤ a) ∨ (ab a = -a ∧ a < 0) := by
  unfold ab
  split
  · exact Or.inl ⟨rfl, by assumption⟩
  · exact Or.inr ⟨by omega, by omega⟩
section EM
variable {d k j nL rk : Nat} {L : List xE} {hs : List xX} {lv : xL} {st : List Value} {hp : xH} {Q : xO → xH → Prop} {pc len : Nat} {r : List Nat} {cv : Value} {a b : Int}
theorem Y_max {i : Instr} (hr : -2147483648 ≤ a ∧ a ≤ 2147483647 ∧ -2147483648 ≤ b ∧ b ≤ 2147483647) (hk : xtab k = (L, nL, rk, hs)) (he : L[j]? = some (pc, 8, i, len, 0 :: r, cv)) (hc : (st.map fun v => v.category).sum ≤ 8) (kk : Ev d k (j + 1) lv (yi (mx a b) :: st) hp Q) : Ev d k j lv (yi b :: yi a :: st) hp Q := by
  refine E_step hk he (by decide) (by decide) (by decide) ?_ kk
  show (if _ then some (j + 1, lv, Value.int (if iN a < iN b then iN b else iN a) :: st, hp) else none) = _
  rw [if_pos hc]
  unfold mx
  by_cases h : a < b
  · rw [if_pos h, if_pos ((iN_lt hr).mpr h)]
  · rw [if_neg h, if_neg (fun g => h ((iN_lt hr).mp g))]
theorem Y_min {i : Instr} (hr : -2147483648 ≤ a ∧ a ≤ 2147483647 ∧ -2147483648 ≤ b ∧ b ≤ 2147483647) (hk : xtab k = (L, nL, rk, hs)) (he : L[j]? = some (pc, 8, i, len, 1 :: r, cv)) (hc : (st.map fun v => v.category).sum ≤ 8) (kk : Ev d k (j + 1) lv (yi (mn a b) :: st) hp Q) : Ev d k j lv (yi b :: yi a :: st) hp Q := by
  refine E_step hk he (by decide) (by decide) (by decide) ?_ kk
  show (if _ then some (j + 1, lv, Value.int (if iN b < iN a then iN b else iN a) :: st, hp) else none) = _
  rw [if_pos hc]
  unfold mn
  have hr2 : -2147483648 ≤ b ∧ b ≤ 2147483647 ∧ -2147483648 ≤ a ∧ a ≤ 2147483647 := ⟨hr.2.2.1, hr.2.2.2, hr.1, hr.2.1⟩
  by_cases h : b < a
  · rw [if_pos h, if_pos ((iN_lt hr2).mpr h)]
  · rw [if_neg h, if_neg (fun g => h ((iN_lt hr2).mp g))]
theorem Y_abs {i : Instr} (hr : -2147483648 ≤ a ∧ a ≤ 2147483647) (hk : xtab k = (L, nL, rk, hs)) (he : L[j]? = some (pc, 8, i, len, 2 :: r, cv)) (hc : (st.map fun v => v.category).sum ≤ 8) (kk : Ev d k (j + 1) lv (yi (ab a) :: st) hp Q) : Ev d k j lv (yi a :: st) hp Q := by
  refine E_step hk he (by decide) (by decide) (by decide) ?_ kk
  show (if _ then some (j + 1, lv, Value.int (if iN 0 ≤ iN a then iN a else iN 0 - iN a) :: st, hp) else none) = _
  rw [if_pos hc]
  unfold ab
  by_cases h : 0 ≤ a
  · rw [if_pos h, if_pos ((iN_le (a := 0) (by omega)).mpr h)]
  · rw [if_neg h, if_neg (fun g => h ((iN_le (a := 0) (by omega)).mp g)), iN_sub]
    try rfl
end EM
section EC
variable {d k j nL rk : Nat} {L : List xE} {hs : List xX} {lv : xL} {hp : xH} {Q : xO → xH → Prop} {pc len : Nat} {r : List Nat} {cv : Value}
theorem Y_copy {i : Instr} {m n : Nat} {c : Int} {a b : Nat} {f g : Int → Int} (hk : xtab k = (L, nL, rk, hs)) (he : L[j]? = some (pc, 5, i, len, r, cv)) (ha : xat hp a = some (yI m f)) (hb : xat hp b = some (yI n g)) (hm : 0 ≤ c ∧ c ≤ m ∧ c ≤ n ∧ c < 1000) (h28 : xNC ≤ a ∧ xNC ≤ b) (kk : ∀ h' f', xat h' b = some (yI n f') → (∀ q : Int, 0 ≤ q → q < c → f' q = f q) → yfr [b] hp h' → Ev d k (j + 1) lv [] h' Q) : Ev d k j lv [yi c, yi 0, .ref b, yi 0, .ref a] hp Q := by
  have ha : hp.2.2 a = some (yI m f) := ha
  have hb : hp.2.2 b = some (yI n g) := hb
  have hc0 : ¬ iN c < 0 := fun h => by
    have h1 : iN c < iN 0 := h
    rw [iN_lt (by omega)] at h1
    omega
  have hcn : (iN c).toNatClampNeg = c.toNat := iN_nat (by omega)
  refine E_step hk he (by decide) (by decide) (by decide) (lv' := lv) (st' := []) (j' := j + 1) (hp' := xput hp b (yI n (fun q => if 0 ≤ q ∧ q < c then f q else g q))) ?_ (kk _ _ (xat_put_self _ _ _) (fun q q1 q2 => if_pos ⟨q1, q2⟩) (yfr_put _ _ _))
  show xcopy j lv [yi c, yi 0, .ref b, yi 0, .ref a] hp = _
  unfold xcopy
  simp only [ha, hb, yI]
  have h0 : (iN 0).toNatClampNeg = 0 := rfl
  rw [if_pos]
  · refine congrArg some (congrArg (Prod.mk (j + 1)) (congrArg (Prod.mk lv) (congrArg (Prod.mk []) ?_)))
    refine congrArg (xput hp b) (congrArg Sum.inl (congrArg (Prod.mk _) (congrArg (Prod.mk n) ?_)))
    funext q
    rw [h0, hcn]
    unfold va_cpy
    by_cases h : q < c.toNat
    · rw [if_pos (by omega), if_pos (by omega)]
      congr 2
      omega
    · rw [if_neg (by omega), if_neg (by omega)]
  · rw [h0, hcn]
    refine ⟨by decide, by decide, hc0, by omega, by omega, h28.1, h28.2, by simp, ?_⟩
    rw [List.all_eq_true]
    intro x _
    rfl
end EC
theorem c_X6_hasNote {d : Nat} {hp : xH} {a p : Nat} (hap : 28 ≤ a ∧ 28 ≤ p ∧ a ≠ p) {f : Int → Int} {n : Int} (ha : xat hp a = some (.inr (7, [.ref p, yi n]))) (hf : xat hp p = some (yI 20 f)) (hn : 0 ≤ n ∧ n ≤ 20) {x : Int} (hx : -2147483648 ≤ x ∧ x ≤ 2147483647) : Cv d 41 [.ref a, yi x] hp (yP (some (yi (b2 (0 ≤ x ∧ x < n)))) hp) := by
  have hk : xtab 41 = (xc_41, 2, 2, []) := rfl
  show Ev d 41 0 [(0, .ref a), (1, yi x)] [] hp _
  refine E_run hk 1 (j' := 1) (lv' := [(0, .ref a), (1, yi x)]) (st' := [yi x]) (hp' := hp) rfl ?_
  refine Y_if_lt (a := x) (by omega) hk rfl (fun g1 => ?_) (fun g1 => ?_)
  ·
    refine E_run hk 1 (j' := 9) (lv' := [(0, .ref a), (1, yi x)]) (st' := [yi 0]) (hp' := hp) rfl ?_
    exact E_ret hk rfl rfl (lb0 (by omega))
  ·
    refine E_run hk 2 (j' := 4) (lv' := [(0, .ref a), (1, yi x)]) (st' := [.ref a, yi x]) (hp' := hp) rfl ?_
    refine E_get (v := yi n) hk rfl ha rfl ?_
    refine Y_ic_ge (a := x) (b := n) (by omega) hk rfl (fun g2 => ?_) (fun g2 => ?_)
    ·
      refine E_run hk 1 (j' := 9) (lv' := [(0, .ref a), (1, yi x)]) (st' := [yi 0]) (hp' := hp) rfl ?_
      exact E_ret hk rfl rfl (lb0 (by omega))
    ·
      refine E_run hk 2 (j' := 9) (lv' := [(0, .ref a), (1, yi x)]) (st' := [yi 1]) (hp' := hp) rfl ?_
      exact E_ret hk rfl rfl (lb1 (by omega))
theorem c_X6_pitchOf {d : Nat} {hp : xH} {a p : Nat} (hap : 28 ≤ a ∧ 28 ≤ p ∧ a ≠ p) {f : Int → Int} {n : Int} (ha : xat hp a = some (.inr (7, [.ref p, yi n]))) (hf : xat hp p = some (yI 20 f)) {x : Int} (hx : 0 ≤ x ∧ x < 20) : Cv d 42 [.ref a, yi x] hp (yP (some (yi (f x))) hp) := by
  have hk : xtab 42 = (xc_42, 2, 1, []) := rfl
  show Ev d 42 0 [(0, .ref a), (1, yi x)] [] hp _
  refine E_run hk 1 (j' := 1) (lv' := [(0, .ref a), (1, yi x)]) (st' := [yi x]) (hp' := hp) rfl ?_
  refine Y_if_lt (a := x) (by omega) hk rfl (fun g1 => ?_) (fun g1 => ?_)
  · exfalso; omega
  ·
    refine E_run hk 2 (j' := 4) (lv' := [(0, .ref a), (1, yi x)]) (st' := [.ref a, yi x]) (hp' := hp) rfl ?_
    refine E_get (v := .ref p) hk rfl ha rfl ?_
    refine Y_alen (by decide) hk rfl hf ?_
    refine Y_ic_lt (a := x) (b := 20) (by omega) hk rfl (fun g2 => ?_) (fun g2 => ?_)
    ·
      refine E_run hk 1 (j' := 10) (lv' := [(0, .ref a), (1, yi x)]) (st' := [.ref a]) (hp' := hp) rfl ?_
      refine E_get (v := .ref p) hk rfl ha rfl ?_
      refine E_run hk 1 (j' := 12) (lv' := [(0, .ref a), (1, yi x)]) (st' := [yi x, .ref p]) (hp' := hp) rfl ?_
      refine Y_iald (a := x) (by omega) (by decide) hk rfl hf ?_
      exact E_ret hk rfl rfl ⟨rfl, rfl⟩
    · exfalso; omega
theorem c_X6_put {d : Nat} {hp : xH} {a p : Nat} (hap : 28 ≤ a ∧ 28 ≤ p ∧ a ≠ p) {f : Int → Int} {n : Int} (ha : xat hp a = some (.inr (7, [.ref p, yi n]))) (hf : xat hp p = some (yI 20 f)) {x z : Int} (hx : 0 ≤ x ∧ x < 20) : Cv d 43 [.ref a, yi x, yi z] hp (yR none (fun h => xat h p = some (yI 20 (up f x z)) ∧ yfr [p] hp h)) := by
  have hk : xtab 43 = (xc_43, 3, 0, []) := rfl
  show Ev d 43 0 [(0, .ref a), (1, yi x), (2, yi z)] [] hp _
  refine E_run hk 1 (j' := 1) (lv' := [(0, .ref a), (1, yi x), (2, yi z)]) (st' := [yi x]) (hp' := hp) rfl ?_
  refine Y_if_lt (a := x) (by omega) hk rfl (fun g1 => ?_) (fun g1 => ?_)
  · exfalso; omega
  ·
    refine E_run hk 2 (j' := 4) (lv' := [(0, .ref a), (1, yi x), (2, yi z)]) (st' := [.ref a, yi x]) (hp' := hp) rfl ?_
    refine E_get (v := .ref p) hk rfl ha rfl ?_
    refine Y_alen (by decide) hk rfl hf ?_
    refine Y_ic_ge (a := x) (b := 20) (by omega) hk rfl (fun g2 => ?_) (fun g2 => ?_)
    · exfalso; omega
    ·
      refine E_run hk 1 (j' := 8) (lv' := [(0, .ref a), (1, yi x), (2, yi z)]) (st' := [.ref a]) (hp' := hp) rfl ?_
      refine E_get (v := .ref p) hk rfl ha rfl ?_
      refine E_run hk 2 (j' := 11) (lv' := [(0, .ref a), (1, yi x), (2, yi z)]) (st' := [yi z, yi x, .ref p]) (hp' := hp) rfl ?_
      refine Y_iast (a := x) (x := z) (by omega) (by decide) (show xNC ≤ p from (by omega : 28 ≤ p)) hk rfl hf (fun H3 e4 f5 => ?_)
      exact E_ret hk rfl rfl ⟨rfl, e4, f5⟩
theorem c_X6_add {d : Nat} {hp : xH} {a p : Nat} (hap : 28 ≤ a ∧ 28 ≤ p ∧ a ≠ p) {f : Int → Int} {n : Int} (ha : xat hp a = some (.inr (7, [.ref p, yi n]))) (hf : xat hp p = some (yI 20 f)) {z : Int} (hn : 0 ≤ n ∧ n < 20) (hd : 1 ≤ d) : Cv d 44 [.ref a, yi z] hp (yR none (fun h => xat h a = some (.inr (7, [.ref p, yi (n + 1)])) ∧ xat h p = some (yI 20 (up f n z)) ∧ yfr [a, p] hp h)) := by
  have hk : xtab 44 = (xc_44, 2, 0, []) := rfl
  obtain ⟨d, rfl⟩ : ∃ e, d = e + 1 := ⟨d - 1, by omega⟩
  show Ev (d + 1) 44 0 [(0, .ref a), (1, yi z)] [] hp _
  refine E_run hk 1 (j' := 1) (lv' := [(0, .ref a), (1, yi z)]) (st' := [.ref a]) (hp' := hp) rfl ?_
  refine E_get (v := yi n) hk rfl ha rfl ?_
  refine E_run hk 1 (j' := 3) (lv' := [(0, .ref a), (1, yi z)]) (st' := [yi 20, yi n]) (hp' := hp) rfl ?_
  refine Y_ic_ge (a := n) (b := 20) (by omega) hk rfl (fun g1 => ?_) (fun g1 => ?_)
  · exfalso; omega
  ·
    refine E_run hk 2 (j' := 6) (lv' := [(0, .ref a), (1, yi z)]) (st' := [.ref a, .ref a]) (hp' := hp) rfl ?_
    refine E_get (v := yi n) hk rfl ha rfl ?_
    refine E_run hk 1 (j' := 8) (lv' := [(0, .ref a), (1, yi z)]) (st' := [yi z, yi n, .ref a]) (hp' := hp) rfl ?_
    refine Y_call hk rfl (as := [.ref a, yi n, yi z]) (rest := []) (v := none) rfl rfl (Nat.le_of_ble_eq_true rfl) (rcv0 ha) (Nat.le_of_ble_eq_true rfl) (c_X6_put (x := n) (z := z) (a := a) (p := p) (f := f) (n := n) hap ha hf (by omega)) (fun H2 r3 => ?_)
    obtain ⟨e_H2, f_H2⟩ := r3
    refine E_run hk 2 (j' := 11) (lv' := [(0, .ref a), (1, yi z)]) (st' := [.ref a, .ref a]) (hp' := H2) rfl ?_
    refine E_get (v := yi n) hk rfl (f_H2.at (by simp only [List.mem_cons, List.not_mem_nil, or_false, not_or]; exact hap.2.2) ha) rfl ?_
    refine E_run hk 1 (j' := 13) (lv' := [(0, .ref a), (1, yi z)]) (st' := [yi 1, yi n, .ref a]) (hp' := H2) rfl ?_
    refine Y_iadd (a := n) (b := 1) hk rfl ?_
    refine Y_put hk rfl (f_H2.at (by simp only [List.mem_cons, List.not_mem_nil, or_false, not_or]; exact hap.2.2) ha) (show xNC ≤ a from (by omega : 28 ≤ a)) (Nat.le_of_ble_eq_true rfl) rfl (fs' := [.ref p, yi (n + 1)]) rfl (fun H4 e5 f6 => ?_)
    exact E_ret hk rfl rfl ⟨rfl, e5, (f6.at (by simp only [List.mem_cons, List.not_mem_nil, or_false, not_or]; exact (Ne.symm hap.2.2)) e_H2), (yfr.tr (f_H2.mono (by simp)) f6 (fun _ h => h) (by simp))⟩
theorem c_X6_takeOut {d : Nat} {hp : xH} {a p : Nat} (hap : 28 ≤ a ∧ 28 ≤ p ∧ a ≠ p) {f : Int → Int} {n : Int} (ha : xat hp a = some (.inr (7, [.ref p, yi n]))) (hf : xat hp p = some (yI 20 f)) (hn : 0 ≤ n ∧ n ≤ 20) {x : Int} (hx : 0 ≤ x ∧ x < n) (hd : 1 ≤ d) : Cv d 45 [.ref a, yi x] hp (yR none (fun h => ∃ g, xat h a = some (.inr (7, [.ref p, yi (n - 1)])) ∧ xat h p = some (yI 20 g) ∧ (∀ q, x ≤ q → q < n - 1 → g q = f (q + 1)) ∧ (∀ q, ¬ (x ≤ q ∧ q < n - 1) → g q = f q) ∧ yfr [a, p] hp h)) := by
  have hk : xtab 45 = (xc_45, 3, 0, []) := rfl
  obtain ⟨d, rfl⟩ : ∃ e, d = e + 1 := ⟨d - 1, by omega⟩
  show Ev (d + 1) 45 0 [(0, .ref a), (1, yi x)] [] hp _
  refine E_run hk 2 (j' := 2) (lv' := [(2, yi x), (0, .ref a), (1, yi x)]) (st' := []) (hp' := hp) rfl ?_
  have loop2 : ∀ (N : Nat) (i : Int) (g : Int → Int) (hl2 : xH), (x ≤ i ∧ i ≤ n - 1) → (∀ q, x ≤ q → q < i → g q = f (q + 1)) → (∀ q, ¬ (x ≤ q ∧ q < i) → g q = f q) → (xat hl2 p = some (yI 20 g)) → (yfr [p] hp hl2) → (n - i).toNat = N → Ev (d + 1) 45 2 [(0, .ref a), (1, yi x), (2, yi i)] [] hl2 (yR none (fun h => ∃ g, xat h a = some (.inr (7, [.ref p, yi (n - 1)])) ∧ xat h p = some (yI 20 g) ∧ (∀ q, x ≤ q → q < n - 1 → g q = f (q + 1)) ∧ (∀ q, ¬ (x ≤ q ∧ q < n - 1) → g q = f q) ∧ yfr [a, p] hp h)) := by
    intro N
    induction N using Nat.strongRecOn with
    | ind N ih2 =>
      intro i g hl2 J1 J2 J3 ec2_p fr2 hm2
      refine E_run hk 1 (j' := 3) (lv' := [(0, .ref a), (1, yi x), (2, yi i)]) (st' := [yi i]) (hp' := hl2) rfl ?_
      refine E_run hk 1 (j' := 4) (lv' := [(0, .ref a), (1, yi x), (2, yi i)]) (st' := [.ref a, yi i]) (hp' := hl2) rfl ?_
      refine E_get (v := yi n) hk rfl (fr2.at (by simp only [List.mem_cons, List.not_mem_nil, or_false, not_or]; exact hap.2.2) ha) rfl ?_
      refine E_run hk 1 (j' := 6) (lv' := [(0, .ref a), (1, yi x), (2, yi i)]) (st' := [yi 1, yi n, yi i]) (hp' := hl2) rfl ?_
      refine Y_isub (a := n) (b := 1) hk rfl ?_
      refine Y_ic_ge (a := i) (b := (n - 1)) (by omega) hk rfl (fun g1 => ?_) (fun g1 => ?_)
      ·
        refine E_run hk 2 (j' := 20) (lv' := [(0, .ref a), (1, yi x), (2, yi i)]) (st' := [.ref a, .ref a]) (hp' := hl2) rfl ?_
        refine E_get (v := yi n) hk rfl (fr2.at (by simp only [List.mem_cons, List.not_mem_nil, or_false, not_or]; exact hap.2.2) ha) rfl ?_
        refine E_run hk 1 (j' := 22) (lv' := [(0, .ref a), (1, yi x), (2, yi i)]) (st' := [yi 1, yi n, .ref a]) (hp' := hl2) rfl ?_
        refine Y_isub (a := n) (b := 1) hk rfl ?_
        refine Y_put hk rfl (fr2.at (by simp only [List.mem_cons, List.not_mem_nil, or_false, not_or]; exact hap.2.2) ha) (show xNC ≤ a from (by omega : 28 ≤ a)) (Nat.le_of_ble_eq_true rfl) rfl (fs' := [.ref p, yi (n - 1)]) rfl (fun H2 e3 f4 => ?_)
        exact E_ret hk rfl rfl ⟨rfl, _, e3, (f4.at (by simp only [List.mem_cons, List.not_mem_nil, or_false, not_or]; exact (Ne.symm hap.2.2)) ec2_p), fun q q1 q2 => J2 q q1 (by omega), fun q q1 => J3 q (by omega), (yfr.tr (fr2.mono (by simp)) f4 (fun _ h => h) (by simp))⟩
      ·
        refine E_run hk 5 (j' := 13) (lv' := [(0, .ref a), (1, yi x), (2, yi i)]) (st' := [yi 1, yi i, .ref a, yi i, .ref a]) (hp' := hl2) rfl ?_
        refine Y_iadd (a := i) (b := 1) hk rfl ?_
        refine Y_callP hk rfl (as := [.ref a, yi (i + 1)]) (rest := [yi i, .ref a]) (v := some (yi (g (i + 1)))) rfl rfl (Nat.le_of_ble_eq_true rfl) (rcv0 (fr2.at (by simp only [List.mem_cons, List.not_mem_nil, or_false, not_or]; exact hap.2.2) ha)) (Nat.le_of_ble_eq_true rfl) (c_X6_pitchOf (x := (i + 1)) (a := a) (p := p) (f := g) (n := n) hap (fr2.at (by simp only [List.mem_cons, List.not_mem_nil, or_false, not_or]; exact hap.2.2) ha) ec2_p (by omega)) ?_
        refine Y_call hk rfl (as := [.ref a, yi i, yi (g (i + 1))]) (rest := []) (v := none) rfl rfl (Nat.le_of_ble_eq_true rfl) (rcv0 (fr2.at (by simp only [List.mem_cons, List.not_mem_nil, or_false, not_or]; exact hap.2.2) ha)) (Nat.le_of_ble_eq_true rfl) (c_X6_put (x := i) (z := (g (i + 1))) (a := a) (p := p) (f := g) (n := n) hap (fr2.at (by simp only [List.mem_cons, List.not_mem_nil, or_false, not_or]; exact hap.2.2) ha) ec2_p (by omega)) (fun H5 r6 => ?_)
        obtain ⟨e_H5, f_H5⟩ := r6
        refine Y_iinc (a := i) (z := 1) hk rfl rfl rfl (by decide) (lv' := [(2, yi (i + 1)), (0, .ref a), (1, yi x)]) rfl ?_
        refine E_run hk 1 (j' := 2) (lv' := [(2, yi (i + 1)), (0, .ref a), (1, yi x)]) (st' := []) (hp' := H5) rfl ?_
        exact Ev_le (xle_s rfl rfl (xle_s rfl rfl (xle_s rfl rfl (xle_z _ rfl)))) (ih2 _ (by omega) (i + 1) (up g i (g (i + 1))) H5 (by omega) (fun q q1 q2 => by
        by_cases e : q = i
        · subst e
          rw [up_self, J3 _ (by omega)]
        · rw [up_ne _ _ e]
          exact J2 q q1 (by omega)) (fun q q1 => by
        rw [up_ne _ _ (by omega)]
        exact J3 q (by omega)) e_H5 (yfr.tr fr2 f_H5 (fun _ h => h) (by simp)) rfl)
  exact Ev_le (xle_s rfl rfl (xle_s rfl rfl (xle_s rfl rfl (xle_z _ rfl)))) (loop2 _ x f hp (by omega) (fun q q1 q2 => absurd q1 (by omega)) (fun q _ => rfl) hf (yfr.refl _ _) rfl)
theorem c_X6_canDouble {d : Nat} {hp : xH} {a p : Nat} (hap : 28 ≤ a ∧ 28 ≤ p ∧ a ≠ p) {f : Int → Int} {n : Int} (ha : xat hp a = some (.inr (7, [.ref p, yi n]))) (hf : xat hp p = some (yI 20 f)) (hn : 0 ≤ n ∧ n ≤ 20) : Cv d 46 [.ref a] hp (yP (some (yi (b2 (2 * n ≤ 20)))) hp) := by
  have hk : xtab 46 = (xc_46, 1, 2, []) := rfl
  show Ev d 46 0 [(0, .ref a)] [] hp _
  refine E_run hk 2 (j' := 2) (lv' := [(0, .ref a)]) (st' := [.ref a, yi 2]) (hp' := hp) rfl ?_
  refine E_get (v := yi n) hk rfl ha rfl ?_
  refine Y_imul (a := 2) (b := n) hk rfl ?_
  refine E_run hk 1 (j' := 5) (lv' := [(0, .ref a)]) (st' := [yi 20, yi (2 * n)]) (hp' := hp) rfl ?_
  refine Y_ic_gt (a := (2 * n)) (b := 20) (by omega) hk rfl (fun g1 => ?_) (fun g1 => ?_)
  ·
    refine E_run hk 1 (j' := 9) (lv' := [(0, .ref a)]) (st' := [yi 0]) (hp' := hp) rfl ?_
    exact E_ret hk rfl rfl (lb0 (by omega))
  ·
    refine E_run hk 2 (j' := 9) (lv' := [(0, .ref a)]) (st' := [yi 1]) (hp' := hp) rfl ?_
    exact E_ret hk rfl rfl (lb1 (by omega))
theorem c_X6_doubleNotes {d : Nat} {hp : xH} {a p : Nat} (hap : 28 ≤ a ∧ 28 ≤ p ∧ a ≠ p) {f : Int → Int} {n : Int} (ha : xat hp a = some (.inr (7, [.ref p, yi n]))) (hf : xat hp p = some (yI 20 f)) (hn : 0 ≤ n ∧ n ≤ 20) (h2 : 2 * n ≤ 20) (hd : 1 ≤ d) : Cv d 47 [.ref a] hp (yR none (fun h => ∃ g, xat h a = some (.inr (7, [.ref p, yi (2 * n)])) ∧ xat h p = some (yI 20 g) ∧ (∀ q, 0 ≤ q → q < 2 * n → g q = f (q / 2)) ∧ yfr [a, p] hp h)) := by
  have hk : xtab 47 = (xc_47, 3, 0, []) := rfl
  obtain ⟨d, rfl⟩ : ∃ e, d = e + 1 := ⟨d - 1, by omega⟩
  show Ev (d + 1) 47 0 [(0, .ref a)] [] hp _
  refine E_run hk 1 (j' := 1) (lv' := [(0, .ref a)]) (st' := [.ref a]) (hp' := hp) rfl ?_
  refine E_get (v := yi n) hk rfl ha rfl ?_
  refine E_run hk 1 (j' := 3) (lv' := [(0, .ref a)]) (st' := [yi 1, yi n]) (hp' := hp) rfl ?_
  refine Y_isub (a := n) (b := 1) hk rfl ?_
  refine E_run hk 1 (j' := 5) (lv' := [(1, yi (n - 1)), (0, .ref a)]) (st' := []) (hp' := hp) rfl ?_
  have loop5 : ∀ (N : Nat) (i : Int) (g : Int → Int) (hl5 : xH), (-1 ≤ i ∧ i ≤ n - 1) → (∀ q, 0 ≤ q → q < 2 * (i + 1) → g q = f q) → (∀ q, 2 * (i + 1) ≤ q → q < 2 * n → g q = f (q / 2)) → (xat hl5 p = some (yI 20 g)) → (yfr [p] hp hl5) → (i + 1).toNat = N → Ev (d + 1) 47 5 [(0, .ref a), (1, yi i)] [] hl5 (yR none (fun h => ∃ g, xat h a = some (.inr (7, [.ref p, yi (2 * n)])) ∧ xat h p = some (yI 20 g) ∧ (∀ q, 0 ≤ q → q < 2 * n → g q = f (q / 2)) ∧ yfr [a, p] hp h)) := by
    intro N
    induction N using Nat.strongRecOn with
    | ind N ih5 =>
      intro i g hl5 J1 J2 J3 ec5_p fr5 hm5
      refine E_run hk 1 (j' := 6) (lv' := [(0, .ref a), (1, yi i)]) (st' := [yi i]) (hp' := hl5) rfl ?_
      refine Y_if_lt (a := i) (by omega) hk rfl (fun g1 => ?_) (fun g1 => ?_)
      ·
        refine E_run hk 3 (j' := 30) (lv' := [(0, .ref a), (1, yi i)]) (st' := [.ref a, yi 2, .ref a]) (hp' := hl5) rfl ?_
        refine E_get (v := yi n) hk rfl (fr5.at (by simp only [List.mem_cons, List.not_mem_nil, or_false, not_or]; exact hap.2.2) ha) rfl ?_
        refine Y_imul (a := 2) (b := n) hk rfl ?_
        refine Y_put hk rfl (fr5.at (by simp only [List.mem_cons, List.not_mem_nil, or_false, not_or]; exact hap.2.2) ha) (show xNC ≤ a from (by omega : 28 ≤ a)) (Nat.le_of_ble_eq_true rfl) rfl (fs' := [.ref p, yi (2 * n)]) rfl (fun H2 e3 f4 => ?_)
        exact E_ret hk rfl rfl ⟨rfl, _, e3, (f4.at (by simp only [List.mem_cons, List.not_mem_nil, or_false, not_or]; exact (Ne.symm hap.2.2)) ec5_p), fun q q1 q2 => J3 q (by omega) q2, (yfr.tr (fr5.mono (by simp)) f4 (fun _ h => h) (by simp))⟩
      ·
        refine E_run hk 2 (j' := 9) (lv' := [(0, .ref a), (1, yi i)]) (st' := [yi i, .ref a]) (hp' := hl5) rfl ?_
        refine Y_callP hk rfl (as := [.ref a, yi i]) (rest := []) (v := some (yi (g i))) rfl rfl (Nat.le_of_ble_eq_true rfl) (rcv0 (fr5.at (by simp only [List.mem_cons, List.not_mem_nil, or_false, not_or]; exact hap.2.2) ha)) (Nat.le_of_ble_eq_true rfl) (c_X6_pitchOf (x := i) (a := a) (p := p) (f := g) (n := n) hap (fr5.at (by simp only [List.mem_cons, List.not_mem_nil, or_false, not_or]; exact hap.2.2) ha) ec5_p (by omega)) ?_
        refine E_run hk 4 (j' := 14) (lv' := [(2, yi (g i)), (0, .ref a), (1, yi i)]) (st' := [yi i, yi 2, .ref a]) (hp' := hl5) rfl ?_
        refine Y_imul (a := 2) (b := i) hk rfl ?_
        refine E_run hk 1 (j' := 16) (lv' := [(2, yi (g i)), (0, .ref a), (1, yi i)]) (st' := [yi (g i), yi (2 * i), .ref a]) (hp' := hl5) rfl ?_
        refine Y_call hk rfl (as := [.ref a, yi (2 * i), yi (g i)]) (rest := []) (v := none) rfl rfl (Nat.le_of_ble_eq_true rfl) (rcv0 (fr5.at (by simp only [List.mem_cons, List.not_mem_nil, or_false, not_or]; exact hap.2.2) ha)) (Nat.le_of_ble_eq_true rfl) (c_X6_put (x := (2 * i)) (z := (g i)) (a := a) (p := p) (f := g) (n := n) hap (fr5.at (by simp only [List.mem_cons, List.not_mem_nil, or_false, not_or]; exact hap.2.2) ha) ec5_p (by omega)) (fun H5 r6 => ?_)
        obtain ⟨e_H5, f_H5⟩ := r6
        refine E_run hk 3 (j' := 20) (lv' := [(2, yi (g i)), (0, .ref a), (1, yi i)]) (st' := [yi i, yi 2, .ref a]) (hp' := H5) rfl ?_
        refine Y_imul (a := 2) (b := i) hk rfl ?_
        refine E_run hk 1 (j' := 22) (lv' := [(2, yi (g i)), (0, .ref a), (1, yi i)]) (st' := [yi 1, yi (2 * i), .ref a]) (hp' := H5) rfl ?_
        refine Y_iadd (a := (2 * i)) (b := 1) hk rfl ?_
        refine E_run hk 1 (j' := 24) (lv' := [(2, yi (g i)), (0, .ref a), (1, yi i)]) (st' := [yi (g i), yi ((2 * i) + 1), .ref a]) (hp' := H5) rfl ?_
        refine Y_call hk rfl (as := [.ref a, yi ((2 * i) + 1), yi (g i)]) (rest := []) (v := none) rfl rfl (Nat.le_of_ble_eq_true rfl) (rcv0 (f_H5.at (by simp only [List.mem_cons, List.not_mem_nil, or_false, not_or]; exact hap.2.2) (fr5.at (by simp only [List.mem_cons, List.not_mem_nil, or_false, not_or]; exact hap.2.2) ha))) (Nat.le_of_ble_eq_true rfl) (c_X6_put (x := ((2 * i) + 1)) (z := (g i)) (a := a) (p := p) (f := (up g (2 * i) (g i))) (n := n) hap (f_H5.at (by simp only [List.mem_cons, List.not_mem_nil, or_false, not_or]; exact hap.2.2) (fr5.at (by simp only [List.mem_cons, List.not_mem_nil, or_false, not_or]; exact hap.2.2) ha)) e_H5 (by omega)) (fun H7 r8 => ?_)
        obtain ⟨e_H7, f_H7⟩ := r8
        refine Y_iinc (a := i) (z := (-1)) hk rfl rfl rfl (by decide) (lv' := [(1, yi (i + (-1))), (2, yi (g i)), (0, .ref a)]) rfl ?_
        refine E_run hk 1 (j' := 5) (lv' := [(1, yi (i + (-1))), (2, yi (g i)), (0, .ref a)]) (st' := []) (hp' := H7) rfl ?_
        exact Ev_le (xle_s rfl rfl (xle_s rfl rfl (xle_z _ rfl))) (ih5 _ (by omega) (i + (-1)) (up (up g (2 * i) (g i)) ((2 * i) + 1) (g i)) H7 (by omega) (fun q q1 q2 => by
        rw [up_ne _ _ (by omega), up_ne _ _ (by omega)]
        exact J2 q q1 (by omega)) (fun q q1 q2 => by
        by_cases e1 : q = 2 * i + 1
        · rw [e1, up_self, J2 _ (by omega) (by omega), show (2 * i + 1) / 2 = i by omega]
        · rw [up_ne _ _ e1]
          by_cases e0 : q = 2 * i
          · rw [e0, up_self, J2 _ (by omega) (by omega), show 2 * i / 2 = i by omega]
          · rw [up_ne _ _ e0]
            exact J3 q (by omega) q2) e_H7 (yfr.tr (yfr.tr fr5 f_H5 (fun _ h => h) (by simp)) f_H7 (fun _ h => h) (by simp)) rfl)
  exact Ev_le (xle_s rfl rfl (xle_s rfl rfl (xle_z _ rfl))) (loop5 _ (n - 1) f hp (by omega) (fun q _ _ => rfl) (fun q q1 q2 => absurd q1 (by omega)) hf (yfr.refl _ _) rfl)
theorem c_X6_turnRound {d : Nat} {hp : xH} {a p : Nat} (hap : 28 ≤ a ∧ 28 ≤ p ∧ a ≠ p) {f : Int → Int} {n : Int} (ha : xat hp a = some (.inr (7, [.ref p, yi n]))) (hf : xat hp p = some (yI 20 f)) (hn : 0 ≤ n ∧ n ≤ 20) (hd : 1 ≤ d) : Cv d 48 [.ref a] hp (yR none (fun h => ∃ g, xat h p = some (yI 20 g) ∧ (∀ q, 0 ≤ q → q < n → g q = f (n - 1 - q)) ∧ yfr [p] hp h)) := by
  have hk : xtab 48 = (xc_48, 4, 0, []) := rfl
  obtain ⟨d, rfl⟩ : ∃ e, d = e + 1 := ⟨d - 1, by omega⟩
  show Ev (d + 1) 48 0 [(0, .ref a)] [] hp _
  refine E_run hk 2 (j' := 2) (lv' := [(1, yi 0), (0, .ref a)]) (st' := []) (hp' := hp) rfl ?_
  have loop2 : ∀ (N : Nat) (i : Int) (g : Int → Int) (hl2 : xH), (0 ≤ i ∧ 2 * i ≤ n) → (∀ q, 0 ≤ q → q < i → g q = f (n - 1 - q)) → (∀ q, n - i ≤ q → q < n → g q = f (n - 1 - q)) → (∀ q, i ≤ q → q < n - i → g q = f q) → (xat hl2 p = some (yI 20 g)) → (yfr [p] hp hl2) → (n - i).toNat = N → Ev (d + 1) 48 2 [(0, .ref a), (1, yi i)] [] hl2 (yR none (fun h => ∃ g, xat h p = some (yI 20 g) ∧ (∀ q, 0 ≤ q → q < n → g q = f (n - 1 - q)) ∧ yfr [p] hp h)) := by
    intro N
    induction N using Nat.strongRecOn with
    | ind N ih2 =>
      intro i g hl2 J1 J2 J3 J4 ec2_p fr2 hm2
      refine E_run hk 1 (j' := 3) (lv' := [(0, .ref a), (1, yi i)]) (st' := [yi i]) (hp' := hl2) rfl ?_
      refine E_run hk 1 (j' := 4) (lv' := [(0, .ref a), (1, yi i)]) (st' := [.ref a, yi i]) (hp' := hl2) rfl ?_
      refine E_get (v := yi n) hk rfl (fr2.at (by simp only [List.mem_cons, List.not_mem_nil, or_false, not_or]; exact hap.2.2) ha) rfl ?_
      refine E_run hk 1 (j' := 6) (lv' := [(0, .ref a), (1, yi i)]) (st' := [yi 2, yi n, yi i]) (hp' := hl2) rfl ?_
      refine Y_idiv (a := n) (b := 2) (by omega) hk rfl ?_
      refine Y_ic_ge (a := i) (b := (n / 2)) (by omega) hk rfl (fun g1 => ?_) (fun g1 => ?_)
      ·
        exact E_ret hk rfl rfl ⟨rfl, _, ec2_p, fun q q1 q2 => by
      by_cases e0 : q < i
      · exact J2 q q1 e0
      · by_cases e1 : n - i ≤ q
        · exact J3 q e1 q2
        · rw [J4 _ (by omega) (by omega)]
          congr 1
          omega, fr2⟩
      ·
        refine E_run hk 1 (j' := 9) (lv' := [(0, .ref a), (1, yi i)]) (st' := [.ref a]) (hp' := hl2) rfl ?_
        refine E_get (v := yi n) hk rfl (fr2.at (by simp only [List.mem_cons, List.not_mem_nil, or_false, not_or]; exact hap.2.2) ha) rfl ?_
        refine E_run hk 1 (j' := 11) (lv' := [(0, .ref a), (1, yi i)]) (st' := [yi 1, yi n]) (hp' := hl2) rfl ?_
        refine Y_isub (a := n) (b := 1) hk rfl ?_
        refine E_run hk 1 (j' := 13) (lv' := [(0, .ref a), (1, yi i)]) (st' := [yi i, yi (n - 1)]) (hp' := hl2) rfl ?_
        refine Y_isub (a := (n - 1)) (b := i) hk rfl ?_
        refine E_run hk 3 (j' := 17) (lv' := [(2, yi ((n - 1) - i)), (0, .ref a), (1, yi i)]) (st' := [yi i, .ref a]) (hp' := hl2) rfl ?_
        refine Y_callP hk rfl (as := [.ref a, yi i]) (rest := []) (v := some (yi (g i))) rfl rfl (Nat.le_of_ble_eq_true rfl) (rcv0 (fr2.at (by simp only [List.mem_cons, List.not_mem_nil, or_false, not_or]; exact hap.2.2) ha)) (Nat.le_of_ble_eq_true rfl) (c_X6_pitchOf (x := i) (a := a) (p := p) (f := g) (n := n) hap (fr2.at (by simp only [List.mem_cons, List.not_mem_nil, or_false, not_or]; exact hap.2.2) ha) ec2_p (by omega)) ?_
        refine E_run hk 5 (j' := 23) (lv' := [(3, yi (g i)), (2, yi ((n - 1) - i)), (0, .ref a), (1, yi i)]) (st' := [yi ((n - 1) - i), .ref a, yi i, .ref a]) (hp' := hl2) rfl ?_
        refine Y_callP hk rfl (as := [.ref a, yi ((n - 1) - i)]) (rest := [yi i, .ref a]) (v := some (yi (g ((n - 1) - i)))) rfl rfl (Nat.le_of_ble_eq_true rfl) (rcv0 (fr2.at (by simp only [List.mem_cons, List.not_mem_nil, or_false, not_or]; exact hap.2.2) ha)) (Nat.le_of_ble_eq_true rfl) (c_X6_pitchOf (x := ((n - 1) - i)) (a := a) (p := p) (f := g) (n := n) hap (fr2.at (by simp only [List.mem_cons, List.not_mem_nil, or_false, not_or]; exact hap.2.2) ha) ec2_p (by omega)) ?_
        refine Y_call hk rfl (as := [.ref a, yi i, yi (g ((n - 1) - i))]) (rest := []) (v := none) rfl rfl (Nat.le_of_ble_eq_true rfl) (rcv0 (fr2.at (by simp only [List.mem_cons, List.not_mem_nil, or_false, not_or]; exact hap.2.2) ha)) (Nat.le_of_ble_eq_true rfl) (c_X6_put (x := i) (z := (g ((n - 1) - i))) (a := a) (p := p) (f := g) (n := n) hap (fr2.at (by simp only [List.mem_cons, List.not_mem_nil, or_false, not_or]; exact hap.2.2) ha) ec2_p (by omega)) (fun H2 r3 => ?_)
        obtain ⟨e_H2, f_H2⟩ := r3
        refine E_run hk 3 (j' := 28) (lv' := [(3, yi (g i)), (2, yi ((n - 1) - i)), (0, .ref a), (1, yi i)]) (st' := [yi (g i), yi ((n - 1) - i), .ref a]) (hp' := H2) rfl ?_
        refine Y_call hk rfl (as := [.ref a, yi ((n - 1) - i), yi (g i)]) (rest := []) (v := none) rfl rfl (Nat.le_of_ble_eq_true rfl) (rcv0 (f_H2.at (by simp only [List.mem_cons, List.not_mem_nil, or_false, not_or]; exact hap.2.2) (fr2.at (by simp only [List.mem_cons, List.not_mem_nil, or_false, not_or]; exact hap.2.2) ha))) (Nat.le_of_ble_eq_true rfl) (c_X6_put (x := ((n - 1) - i)) (z := (g i)) (a := a) (p := p) (f := (up g i (g ((n - 1) - i)))) (n := n) hap (f_H2.at (by simp only [List.mem_cons, List.not_mem_nil, or_false, not_or]; exact hap.2.2) (fr2.at (by simp only [List.mem_cons, List.not_mem_nil, or_false, not_or]; exact hap.2.2) ha)) e_H2 (by omega)) (fun H4 r5 => ?_)
        obtain ⟨e_H4, f_H4⟩ := r5
        refine Y_iinc (a := i) (z := 1) hk rfl rfl rfl (by decide) (lv' := [(1, yi (i + 1)), (3, yi (g i)), (2, yi ((n - 1) - i)), (0, .ref a)]) rfl ?_
        refine E_run hk 1 (j' := 2) (lv' := [(1, yi (i + 1)), (3, yi (g i)), (2, yi ((n - 1) - i)), (0, .ref a)]) (st' := []) (hp' := H4) rfl ?_
        exact Ev_le (xle_s rfl rfl (xle_s rfl rfl (xle_z _ rfl))) (ih2 _ (by omega) (i + 1) (up (up g i (g ((n - 1) - i))) ((n - 1) - i) (g i)) H4 (by omega) (fun q q1 q2 => by
        rw [up_ne _ _ (by omega)]
        by_cases e0 : q = i
        · subst e0
          rw [up_self, J4 _ (by omega) (by omega)]
        · rw [up_ne _ _ e0]
          exact J2 q q1 (by omega)) (fun q q1 q2 => by
        by_cases e0 : q = n - 1 - i
        · subst e0
          rw [up_self, J4 _ (by omega) (by omega)]
          congr 1
          omega
        · rw [up_ne _ _ e0, up_ne _ _ (by omega)]
          exact J3 q (by omega) q2) (fun q q1 q2 => by
        rw [up_ne _ _ (by omega), up_ne _ _ (by omega)]
        exact J4 q (by omega) (by omega)) e_H4 (yfr.tr (yfr.tr fr2 f_H2 (fun _ h => h) (by simp)) f_H4 (fun _ h => h) (by simp)) rfl)
  exact Ev_le (xle_s rfl rfl (xle_s rfl rfl (xle_z _ rfl))) (loop2 _ 0 f hp (by omega) (fun q q1 q2 => absurd q1 (by omega)) (fun q q1 q2 => absurd q1 (by omega)) (fun q _ _ => rfl) hf (yfr.refl _ _) rfl)
theorem c_X6_copyFrom {d : Nat} {hp : xH} {a p b q : Nat} (hap : 28 ≤ a ∧ 28 ≤ p ∧ 28 ≤ b ∧ 28 ≤ q ∧ a ≠ p ∧ a ≠ b ∧ a ≠ q ∧ p ≠ b ∧ p ≠ q ∧ b ≠ q) {f g : Int → Int} {n m : Int} (ha : xat hp a = some (.inr (7, [.ref p, yi n]))) (hf : xat hp p = some (yI 20 f)) (hb : xat hp b = some (.inr (7, [.ref q, yi m]))) (hg : xat hp q = some (yI 20 g)) : Cv d 40 [.ref a, .ref b] hp (yR none (fun h => ∃ k, xat h a = some (.inr (7, [.ref p, yi m])) ∧ xat h p = some (yI 20 k) ∧ (∀ x, 0 ≤ x → x < 20 → k x = g x) ∧ yfr [a, p] hp h)) := by
  have hk : xtab 40 = (xc_40, 2, 0, []) := rfl
  show Ev d 40 0 [(0, .ref a), (1, .ref b)] [] hp _
  refine E_run hk 1 (j' := 1) (lv' := [(0, .ref a), (1, .ref b)]) (st' := [.ref b]) (hp' := hp) rfl ?_
  refine E_get (v := .ref q) hk rfl hb rfl ?_
  refine E_run hk 2 (j' := 4) (lv' := [(0, .ref a), (1, .ref b)]) (st' := [.ref a, yi 0, .ref q]) (hp' := hp) rfl ?_
  refine E_get (v := .ref p) hk rfl ha rfl ?_
  refine E_run hk 2 (j' := 7) (lv' := [(0, .ref a), (1, .ref b)]) (st' := [yi 20, yi 0, .ref p, yi 0, .ref q]) (hp' := hp) rfl ?_
  refine Y_copy (c := 20) hk rfl hg hf (by omega) ⟨(show xNC ≤ q from (by omega : 28 ≤ q)), (show xNC ≤ p from (by omega : 28 ≤ p))⟩ (fun H1 F4 e2 cp_H1 f3 => ?_)
  refine E_run hk 2 (j' := 10) (lv' := [(0, .ref a), (1, .ref b)]) (st' := [.ref b, .ref a]) (hp' := H1) rfl ?_
  refine E_get (v := yi m) hk rfl (f3.at (by simp only [List.mem_cons, List.not_mem_nil, or_false, not_or]; exact (by omega)) hb) rfl ?_
  refine Y_put hk rfl (f3.at (by simp only [List.mem_cons, List.not_mem_nil, or_false, not_or]; exact (by omega)) ha) (show xNC ≤ a from (by omega : 28 ≤ a)) (Nat.le_of_ble_eq_true rfl) rfl (fs' := [.ref p, yi m]) rfl (fun H5 e6 f7 => ?_)
  exact E_ret hk rfl rfl ⟨rfl, _, e6, (f7.at (by simp only [List.mem_cons, List.not_mem_nil, or_false, not_or]; exact (by omega)) e2), cp_H1, (yfr.tr (f3.mono (by simp)) f7 (fun _ h => h) (by simp))⟩
