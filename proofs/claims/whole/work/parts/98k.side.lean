/-! The class and the model side by side. -/
section EL2
variable {d k j nL rk : Nat} {L : List xE} {hs : List xX} {lv : xL} {st : List Value} {hp : xH} {Q : xO → xH → Prop} {pc len : Nat} {ax : List Nat} {cv : Value} {a : Int} {x : Int64}
theorem Y_last {r0 n : Nat} {f : Nat → Value} (hi : 0 ≤ a ∧ a < n) (hN : n ≤ 2147483647) (hc : xNC ≤ r0) (hk : xtab k = (L, nL, rk, hs)) (he : L[j]? = some (pc, 7, .lastore, len, ax, cv)) (ha : xat hp r0 = some (.inl (.long, n, f))) (kk : ∀ h', xat h' r0 = some (.inl (.long, n, updV f a.toNat (.long x))) → yfr [r0] hp h' → Ev d k (j + 1) lv st h' Q) : Ev d k j lv (.long x :: yi a :: .ref r0 :: st) hp Q := by
  obtain ⟨h1, h2⟩ := vp_of hi hN
  refine E_step hk he (by decide) (by decide) (by decide) (hp' := xput hp r0 (.inl (.long, n, updV f a.toNat (.long x)))) (st' := st) (lv' := lv) (j' := j + 1) ?_ (kk _ (xat_put_self _ _ _) (yfr_put _ _ _))
  have ha : hp.2.2 r0 = some (.inl (.long, n, f)) := ha
  simp [xstp, xsB, ha, xin_of h1, h2, hc]
theorem Y_lald {r0 n : Nat} {f : Nat → Value} {v : Value} (hi : 0 ≤ a ∧ a < n) (hN : n ≤ 2147483647) (hv : f a.toNat = v) (hk : xtab k = (L, nL, rk, hs)) (he : L[j]? = some (pc, 7, .laload, len, ax, cv)) (ha : xat hp r0 = some (.inl (.long, n, f))) (kk : Ev d k (j + 1) lv (v :: st) hp Q) : Ev d k j lv (yi a :: .ref r0 :: st) hp Q := by
  obtain ⟨h1, h2⟩ := vp_of hi hN
  refine E_step hk he (by decide) (by decide) (by decide) ?_ kk
  have ha : hp.2.2 r0 = some (.inl (.long, n, f)) := ha
  simp [xstp, xsB, ha, xin_of h1, h2, hv]
theorem Y_ic_refl {z off : Int} {t : Nat} (hk : xtab k = (L, nL, rk, hs)) (he : L[j]? = some (pc, 0, .if_icmp .eq off, len, [t], cv)) (kk : Ev d k t lv st hp Q) : Ev d k j lv (yi z :: yi z :: st) hp Q := E_ic_eq hk he (fun _ => kk) (fun h => absurd rfl h)
theorem Y_ic_h {z y off : Int} {t : Nat} (e : z = y) (hk : xtab k = (L, nL, rk, hs)) (he : L[j]? = some (pc, 0, .if_icmp .eq off, len, [t], cv)) (kk : Ev d k t lv st hp Q) : Ev d k j lv (yi y :: yi z :: st) hp Q := by
  subst e
  exact Y_ic_refl hk he kk
theorem Y_lcmp_refl (hk : xtab k = (L, nL, rk, hs)) (he : L[j]? = some (pc, 0, .lcmp, len, ax, cv)) (kk : Ev d k (j + 1) lv (yi 0 :: st) hp Q) : Ev d k j lv (.long x :: .long x :: st) hp Q := by
  have e : lg_cmp x x = 0 := by
    unfold lg_cmp
    simp
  refine Y_lcmp hk he ?_
  rw [e]
  exact kk
theorem Y_lcmp_h {y : Int64} (e : x = y) (hk : xtab k = (L, nL, rk, hs)) (he : L[j]? = some (pc, 0, .lcmp, len, ax, cv)) (kk : Ev d k (j + 1) lv (yi 0 :: st) hp Q) : Ev d k j lv (.long y :: .long x :: st) hp Q := by
  subst e
  exact Y_lcmp_refl hk he kk
theorem and63 (x : Int32) : 0 ≤ (x &&& 63).toInt ∧ (x &&& 63).toInt ≤ 63 := by
  have h1 : (x &&& 63).toBitVec.toNat ≤ 63 := by
    rw [Int32.toBitVec_and, BitVec.toNat_and]
    exact Nat.and_le_right
  show 0 ≤ (x &&& 63).toBitVec.toInt ∧ (x &&& 63).toBitVec.toInt ≤ 63
  rw [BitVec.toInt_eq_toNat_cond]
  split <;> omega
theorem Y_and63 (hk : xtab k = (L, nL, rk, hs)) (he : L[j]? = some (pc, 0, .iand, len, ax, cv)) (kk : ∀ z, 0 ≤ z ∧ z ≤ 63 → Ev d k (j + 1) lv (yi z :: st) hp Q) : Ev d k j lv (yi 63 :: yi a :: st) hp Q := by
  refine E_step hk he (by decide) (by decide) (by decide) ?_ (kk (iN a &&& 63).toInt (and63 _))
  show some (j + 1, lv, Value.int (iN a &&& iN 63) :: st, hp) = some (j + 1, lv, Value.int (iN (iN a &&& 63).toInt) :: st, hp)
  rw [iN_of]
  rfl
end EL2
def kA (h : xH) (kp cl : Int) (S : Int → Int) : Prop := ∃ od, xat h 28 = some (.inr (8, [.ref 29, .ref 34, .ref 35, yi kp, .ref 40, yi cl, .ref 41, .ref 43, yi od, .ref 56, .ref 58])) ∧ yMs h S od
def kN (h : xH) (S : Int → Int) : Prop := ∃ (z o : Nat) (f g : Int → Int) (r t : Int), yS h 29 z o S f g r t ∧ ystp S r t
def kK (h : xH) (kp : Int) (N : Int → Int) : Prop := ∃ (u w : Nat) (K f g : Int → Int) (r t : Int), yS h 35 u w K f g r t ∧ (0 ≤ K 0 ∧ K 0 ≤ 20 ∧ 0 ≤ K 1 ∧ K 1 ≤ 20) ∧ (kp = 1 → K = N ∧ ystp N r t)
def kY (h : xH) (cl : Int) (X : Int → Int) : Prop := ∃ Y, xat h 40 = some (yI 60 Y) ∧ ∀ q, 0 ≤ q → q < cl → Y q = X q
def kR (h : xH) : Prop := ∃ s, okR s ∧ rdr h s
def kG (h : xH) : Prop := xat h 56 = some (.inr (1, [.ref 57])) ∧ ∃ u, xat h 57 = some (yI 400 u)
def kP (h : xH) : Prop := (∃ la fi ls lb lt, xat h 58 = some (.inr (4, [.ref 59, .ref 61, yi la, yi fi, yi ls, yi lb, yi lt]))) ∧ xat h 59 = some (.inr (1, [.ref 60])) ∧ xat h 61 = some (.inr (1, [.ref 62])) ∧ (∃ u, xat h 60 = some (yI 400 u)) ∧ ∃ u, xat h 62 = some (yI 400 u)
/-- the class: the flag of what is kept, how many signs, how many states; the states, the text -/
def yK (h : xH) (kp cl n : Int) (S T N X : Int → Int) : Prop := kA h kp cl S ∧ kN h S ∧ ySv h n T ∧ kK h kp N ∧ kY h cl X ∧ kR h ∧ kG h ∧ kP h
/-- the model -/
def yM (h : xH) (v : Nat → Int) (S T N X : Int → Int) : Prop := xat h 63 = some (yMo v) ∧ xat h 64 = some (yI 47 S) ∧ xat h 65 = some (yI 282 T) ∧ xat h 66 = some (yI 47 N) ∧ xat h 67 = some (yI 60 X) ∧ (∃ u, xat h 68 = some (yI 60 u)) ∧ (∃ u, xat h 69 = some (yI 60 u)) ∧ (∃ u, xat h 70 = some (yI 400 u)) ∧ (∃ u, xat h 71 = some (yI 400 u)) ∧ (∃ u, xat h 72 = some (yI 400 u)) ∧ (∃ u, xat h 73 = some (yI 400 u)) ∧ (∃ u, xat h 74 = some (yI 40 u)) ∧ (∃ u, xat h 75 = some (yI 40 u))
/-- what stays: the constants, the script; the place of answers -/
def yBs (L : Nat) (F : Int → Int) (h : xH) : Prop := yC h ∧ xat h 25 = some (yI L F) ∧ xat h 26 = some (yO 0 (fun _ => .null)) ∧ (∃ f, xat h 76 = some (.inl (.long, 1, f))) ∧ 77 ≤ h.1
def yPu (v : Nat → Int) (S N X : Int → Int) : Prop := okS S ∧ (0 ≤ v 3 ∧ v 3 ≤ 6) ∧ (v 5 = 0 ∨ v 5 = 1) ∧ (0 ≤ v 7 ∧ v 7 ≤ 60) ∧ (∀ q, 0 ≤ q → q < v 7 → 33 ≤ X q ∧ X q ≤ 126) ∧ (v 5 = 1 → okS N)
def yRel (L : Nat) (F : Int → Int) (h : xH) : Prop := ∃ v S T N X, yBs L F h ∧ yK h (v 5) (v 7) (v 3) S T N X ∧ yM h v S T N X ∧ yPu v S N X
def yrm (h h2 : xH) : Prop := h.1 ≤ h2.1 ∧ h2.1 ≤ h.1 + 6 ∧ h2.2.1 ≤ h.2.1 + 61
theorem kA.eq {h h1 : xH} {kp cl : Int} {S : Int → Int} (H : kA h kp cl S) (F : ∀ i, i = 28 ∨ (43 ≤ i ∧ i ≤ 55) → xat h1 i = xat h i) : kA h1 kp cl S := by
  obtain ⟨od, a1, a2⟩ := H
  exact ⟨od, (F _ (Or.inl rfl)).trans a1, a2.at (fun i i1 i2 => F i (Or.inr ⟨i1, i2⟩))⟩
theorem yMs.one {h : xH} {S S2 : Int → Int} {od : Int} (H : yMs h S od) : yMs h S2 1 := by
  obtain ⟨a1, a2, a3, a4, a5, a6, c, A, B, P, Q, U, V, b⟩ := H
  refine ⟨a1, a2, a3, a4, a5, a6, c, A, B, P, Q, U, V, Or.inr ⟨rfl, ?_⟩⟩
  rcases b with ⟨b0, b1, b2, b3, b4, b5, b6, b7, b8⟩ | ⟨b0, b⟩
  · exact ⟨_, _, b1, b2, b3, b4, b5, b6, b7⟩
  · exact b
theorem kN.eq {h h1 : xH} {S : Int → Int} (H : kN h S) (F : ∀ i, 29 ≤ i → i ≤ 33 → xat h1 i = xat h i) : kN h1 S := by
  obtain ⟨z, o, f, g, r, t, a1, a2⟩ := H
  exact ⟨z, o, f, g, r, t, a1.at2 (fun i i1 i2 => F i i1 (by omega)), a2⟩
theorem kK.eq {h h1 : xH} {kp : Int} {N : Int → Int} (H : kK h kp N) (F : ∀ i, 35 ≤ i → i ≤ 39 → xat h1 i = xat h i) : kK h1 kp N := by
  obtain ⟨u, w, K, f, g, r, t, a1, a2⟩ := H
  exact ⟨u, w, K, f, g, r, t, a1.at2 (fun i i1 i2 => F i i1 (by omega)), a2⟩
theorem kY.eq {h h1 : xH} {cl : Int} {X : Int → Int} (H : kY h cl X) (F : xat h1 40 = xat h 40) : kY h1 cl X := by
  obtain ⟨Y, a1, a2⟩ := H
  exact ⟨Y, F.trans a1, a2⟩
theorem kR.eq {h h1 : xH} (H : kR h) (F : ∀ i, 41 ≤ i → i ≤ 42 → xat h1 i = xat h i) : kR h1 := by
  obtain ⟨s, a1, a2, a3⟩ := H
  exact ⟨s, a1, (F _ (by decide) (by decide)).trans a2, (F _ (by decide) (by decide)).trans a3⟩
theorem kG.eq {h h1 : xH} (H : kG h) (F : ∀ i, 56 ≤ i → i ≤ 57 → xat h1 i = xat h i) : kG h1 := by
  obtain ⟨a1, u, a2⟩ := H
  exact ⟨(F _ (by decide) (by decide)).trans a1, u, (F _ (by decide) (by decide)).trans a2⟩
theorem kP.eq {h h1 : xH} (H : kP h) (F : ∀ i, 58 ≤ i → i ≤ 62 → xat h1 i = xat h i) : kP h1 := by
  obtain ⟨⟨la, fi, ls, lb, lt, a1⟩, a2, a3, ⟨u, a4⟩, w, a5⟩ := H
  exact ⟨⟨la, fi, ls, lb, lt, (F _ (by decide) (by decide)).trans a1⟩, (F _ (by decide) (by decide)).trans a2, (F _ (by decide) (by decide)).trans a3, ⟨u, (F _ (by decide) (by decide)).trans a4⟩, w, (F _ (by decide) (by decide)).trans a5⟩
theorem yK.eq {h h1 : xH} {kp cl n : Int} {S T N X : Int → Int} (H : yK h kp cl n S T N X) (hN : 77 ≤ h.1) (hl : h.1 ≤ h1.1) (F : ∀ i, 28 ≤ i → i < h.1 → ¬ (63 ≤ i ∧ i ≤ 76) → xat h1 i = xat h i) : yK h1 kp cl n S T N X := by
  obtain ⟨a1, a2, a3, a4, a5, a6, a7, a8⟩ := H
  exact ⟨a1.eq (fun i q => F i (by omega) (by omega) (by omega)), a2.eq (fun i q1 q2 => F i (by omega) (by omega) (by omega)), a3.mono hN hl (fun i q1 q2 => F i (by omega) q2 (by omega)), a4.eq (fun i q1 q2 => F i (by omega) (by omega) (by omega)), a5.eq (F 40 (by omega) (by omega) (by omega)), a6.eq (fun i q1 q2 => F i (by omega) (by omega) (by omega)), a7.eq (fun i q1 q2 => F i (by omega) (by omega) (by omega)), a8.eq (fun i q1 q2 => F i (by omega) (by omega) (by omega))⟩
theorem yM.eq {h h1 : xH} {v : Nat → Int} {S T N X : Int → Int} (H : yM h v S T N X) (F : ∀ i, 63 ≤ i → i ≤ 75 → xat h1 i = xat h i) : yM h1 v S T N X := by
  have g : ∀ {i : Nat} {n : Nat}, 63 ≤ i → i ≤ 75 → (∃ u, xat h i = some (yI n u)) → ∃ u, xat h1 i = some (yI n u) := fun i1 i2 ⟨u, e⟩ => ⟨u, (F _ i1 i2).trans e⟩
  obtain ⟨a1, a2, a3, a4, a5, a6, a7, a8, a9, a10, a11, a12, a13⟩ := H
  exact ⟨(F _ (by decide) (by decide)).trans a1, (F _ (by decide) (by decide)).trans a2, (F _ (by decide) (by decide)).trans a3, (F _ (by decide) (by decide)).trans a4, (F _ (by decide) (by decide)).trans a5, g (by decide) (by decide) a6, g (by decide) (by decide) a7, g (by decide) (by decide) a8, g (by decide) (by decide) a9, g (by decide) (by decide) a10, g (by decide) (by decide) a11, g (by decide) (by decide) a12, g (by decide) (by decide) a13⟩
theorem yBs.eq {L : Nat} {F0 : Int → Int} {h h1 : xH} (H : yBs L F0 h) (hl : h.1 ≤ h1.1) (F : ∀ i, i < 28 → xat h1 i = xat h i) (e : ∃ f, xat h1 76 = some (.inl (.long, 1, f))) : yBs L F0 h1 := by
  obtain ⟨a1, a2, a3, a4, a5⟩ := H
  exact ⟨fun k hk => (F k (by omega)).trans (a1 k hk), (F _ (by decide)).trans a2, (F _ (by decide)).trans a3, e, by omega⟩
theorem yBs.z {L : Nat} {F0 : Int → Int} {h h1 : xH} {K : List Nat} (H : yBs L F0 h) (f : yfz K h h1) (hK : ∀ i ∈ K, 28 ≤ i ∧ i ≠ 76) : yBs L F0 h1 := by
  obtain ⟨u, e⟩ := H.2.2.2.1
  exact H.eq f.1 (fun i hi => f.2.2.2.1 i (by omega) (fun q => by have := hK i q; omega)) ⟨u, (f.2.2.2.1 76 (by omega) (fun q => by have := hK _ q; omega)).trans e⟩
theorem yM.z {h h1 : xH} {v : Nat → Int} {S T N X : Int → Int} {K : List Nat} (H : yM h v S T N X) (f : yfz K h h1) (hK : ∀ i ∈ K, i < 63 ∨ 75 < i) : yM h1 v S T N X :=
  H.eq (fun i i1 i2 => f.2.2.2.1 i (by omega) (fun q => by have := hK i q; omega))
theorem yK.q {h h1 : xH} {kp cl n : Int} {S T N X : Int → Int} {K : List Nat} (H : yK h kp cl n S T N X) (hN : 77 ≤ h.1) (G : kA h1 kp cl S ∧ kG h1 ∧ kP h1) (f : yfz K h h1) (hK : ∀ i ∈ K, i = 28 ∨ (43 ≤ i ∧ i ≤ 62)) : yK h1 kp cl n S T N X := by
  obtain ⟨a1, a2, a3, a4, a5, a6, a7, a8⟩ := H
  have e : ∀ i, 29 ≤ i → i ≤ 42 → xat h1 i = xat h i := fun i i1 i2 => f.2.2.2.1 i (by omega) (fun q => by have := hK i q; omega)
  refine ⟨G.1, a2.eq (fun i q1 q2 => e i (by omega) (by omega)), a3.mono hN f.1 (fun i q1 q2 => ?_), a4.eq (fun i q1 q2 => e i (by omega) (by omega)), a5.eq (e 40 (by omega) (by omega)), a6.eq (fun i q1 q2 => e i (by omega) (by omega)), G.2.1, G.2.2⟩
  by_cases i7 : 77 ≤ i
  · exact f.2.2.2.2 (fun q => by have := hK _ q; omega) i i7 q2 (fun q => by have := hK i q; omega)
  · exact e i (by omega) (by omega)
/-- an answer is laid down -/
def yout (h h1 : xH) (z : Int) : Prop := (∃ f, xat h1 76 = some (.inl (.long, 1, f)) ∧ f 0 = .long (iN z).toInt64) ∧ yfr [76] h h1
theorem yBs.out {L : Nat} {F0 : Int → Int} {h h1 : xH} {z : Int} (H : yBs L F0 h) (f : yout h h1 z) : yBs L F0 h1 := by
  obtain ⟨⟨u, e, -⟩, f⟩ := f
  exact H.eq (Nat.le_of_eq f.1.symm) (fun i hi => f.2.2 i (by simp only [List.mem_cons, List.not_mem_nil, or_false]; omega)) ⟨u, e⟩
theorem yK.out {h h1 : xH} {kp cl n z : Int} {S T N X : Int → Int} (H : yK h kp cl n S T N X) (hN : 77 ≤ h.1) (f : yout h h1 z) : yK h1 kp cl n S T N X :=
  H.eq hN (Nat.le_of_eq f.2.1.symm) (fun i i1 i2 i3 => f.2.2.2 i (by simp only [List.mem_cons, List.not_mem_nil, or_false]; omega))
theorem yM.out {h h1 : xH} {v : Nat → Int} {z : Int} {S T N X : Int → Int} (H : yM h v S T N X) (f : yout h h1 z) : yM h1 v S T N X :=
  H.eq (fun i i1 i2 => f.2.2.2 i (by simp only [List.mem_cons, List.not_mem_nil, or_false]; omega))
def mK : List Nat := [63, 64, 65, 66, 67, 68, 69, 70, 71, 72, 73, 74, 75]
theorem mK_in {i : Nat} (h : i ∈ mK) : 63 ≤ i ∧ i ≤ 75 := by
  unfold mK at h
  simp only [List.mem_cons, List.not_mem_nil, or_false] at h
  omega
theorem yBs.m {L : Nat} {F0 : Int → Int} {h h1 : xH} (H : yBs L F0 h) (f : yfr mK h h1) : yBs L F0 h1 := by
  obtain ⟨u, e⟩ := H.2.2.2.1
  exact H.eq (Nat.le_of_eq f.1.symm) (fun i hi => f.2.2 i (fun q => by have := mK_in q; omega)) ⟨u, (f.2.2 76 (by decide)).trans e⟩
theorem yK.m {h h1 : xH} {kp cl n : Int} {S T N X : Int → Int} (H : yK h kp cl n S T N X) (hN : 77 ≤ h.1) (f : yfr mK h h1) : yK h1 kp cl n S T N X :=
  H.eq hN (Nat.le_of_eq f.1.symm) (fun i i1 i2 i3 => f.2.2 i (fun q => by have := mK_in q; omega))
/-- between the class's call and the model's -/
def yMid (L : Nat) (F : Int → Int) (h1 : xH) (G : Prop) : Prop := xat h1 25 = some (yI L F) ∧ (∃ v, xat h1 63 = some (yMo v)) ∧ G
/-- the end of one call: the model's answer b beside the class's k -/
def yOut (L : Nat) (F : Int → Int) (hp : xH) (k b : Int) (h2 : xH) : Prop := yRel L F h2 ∧ (∃ v, xat h2 63 = some (yMo v) ∧ v 0 = k) ∧ (0 ≤ k ∧ k ≤ 3) ∧ (k = 0 → ∃ f, xat h2 76 = some (.inl (.long, 1, f)) ∧ f 0 = .long (iN b).toInt64) ∧ yrm hp h2
/-- a class's call in the law's wrapper: what it laid down, or which of the throws it was -/
def cdl (l : List Nat) (E : Nat) : Int := (l.idxOf E : Int) + 1
def yW (l : List Nat) (R : Option Nat → Int → xH → Prop) : xO → xH → Prop := yE (fun k h1 => (k = 0 ∧ ∃ z h9, R none z h9 ∧ yout h9 h1 z) ∨ (∃ E, E ∈ l ∧ k = cdl l E ∧ R (some E) 0 h1))
/-- a question, of class and model -/
theorem q_op {L : Nat} {F0 : Int → Int} {hp : xH} {v : Nat → Int} {S T N X : Int → Int} {d dM kL kM : Nat} {aL aM : List Value} {Q : Option Nat → Int → Prop} {M : Int → Int → Prop} {l : List Nat} {K : List Nat}
    (B : yBs L F0 hp) (A : yK hp (v 5) (v 7) (v 3) S T N X) (Y : yM hp v S T N X) (P : yPu v S N X) (hl : l.length ≤ 3)
    (hL : Cv d kL aL hp (yW l (fun e z h => Q e z ∧ (kA h (v 5) (v 7) S ∧ kG h ∧ kP h) ∧ yfz K hp h))) (hK : ∀ i ∈ K, i = 28 ∨ (43 ≤ i ∧ i ≤ 62))
    (hM : ∀ h1, yM h1 v S T N X → Cv dM kM aM h1 (yE (fun b h2 => ∃ c v', M c b ∧ (v' 0 = c ∧ v' 3 = v 3 ∧ v' 5 = v 5 ∧ v' 7 = v 7) ∧ yM h2 v' S T N X ∧ yfr mK h1 h2)))
    (m0 : ∀ z c b, Q none z → M c b → c = 0 ∧ b = z) (mE : ∀ E c b, E ∈ l → Q (some E) 0 → M c b → c = cdl l E) :
    Cv d kL aL hp (yE (fun k h1 => yMid L F0 h1 (Cv dM kM aM h1 (yE (fun b h2 => yOut L F0 hp k b h2))))) := by
  refine Ev.imp hL (fun o h1 q => ?_)
  obtain ⟨k, q1, q⟩ := q
  refine ⟨k, q1, ?_⟩
  have hN := B.2.2.2.2
  rcases q with ⟨q2, z, h9, ⟨q3, q4, q5⟩, q6⟩ | ⟨E, qE, q2, q3, q4, q5⟩
  · have B9 := B.z q5 (fun i hi => by have := hK i hi; omega)
    have hN9 := B9.2.2.2.2
    have A9 := (A.q hN q4 q5 hK).out hN9 q6
    have Y9 := (Y.z q5 (fun i hi => by have := hK i hi; omega)).out q6
    have B9 := B9.out q6
    refine ⟨B9.2.1, ⟨_, Y9.1⟩, Ev.imp (hM h1 Y9) (fun o h2 w => ?_)⟩
    obtain ⟨b, w1, c, v', w2, ⟨w3, w4, w5, w6⟩, w7, w8⟩ := w
    obtain ⟨m1, m2⟩ := m0 z c b q3 w2
    have qq := q5.1
    have qq2 := q5.2.1
    have qq3 := q5.2.2.1
    have ww := w8.1
    have ww2 := w8.2.1
    have uu := q6.2.1
    have uu2 := q6.2.2.1
    refine ⟨b, w1, ⟨v', S, T, N, X, B9.m w8, by rw [w4, w5, w6]; exact A9.m B9.2.2.2.2 w8, w7, by unfold yPu; rw [w4, w5, w6]; exact P⟩, ⟨v', w7.1, by omega⟩, by omega, fun _ => ?_, by omega, by omega, by omega⟩
    obtain ⟨f, e1, e2⟩ := q6.1
    exact ⟨f, (w8.2.2 76 (by decide)).trans e1, by rw [m2]; exact e2⟩
  · have B9 := B.z q5 (fun i hi => by have := hK i hi; omega)
    have A9 := A.q hN q4 q5 hK
    have Y9 := Y.z q5 (fun i hi => by have := hK i hi; omega)
    refine ⟨B9.2.1, ⟨_, Y9.1⟩, Ev.imp (hM h1 Y9) (fun o h2 w => ?_)⟩
    obtain ⟨b, w1, c, v', w2, ⟨w3, w4, w5, w6⟩, w7, w8⟩ := w
    have m1 := mE E c b qE q3 w2
    have qq := q5.1
    have qq2 := q5.2.1
    have qq3 := q5.2.2.1
    have ww := w8.1
    have ww2 := w8.2.1
    have il := List.idxOf_lt_length_of_mem qE
    have k1 : 1 ≤ k ∧ k ≤ 3 := by
      rw [q2]
      unfold cdl
      omega
    exact ⟨b, w1, ⟨v', S, T, N, X, B9.m w8, by rw [w4, w5, w6]; exact A9.m B9.2.2.2.2 w8, w7, by unfold yPu; rw [w4, w5, w6]; exact P⟩, ⟨v', w7.1, by omega⟩, by omega, fun k0 => by omega, by omega, by omega, by omega⟩
/-- ... which never throws, and is called as it is -/
def yOut0 (L : Nat) (F : Int → Int) (hp : xH) (k b : Int) (h2 : xH) : Prop := yRel L F h2 ∧ b = k ∧ yrm hp h2
theorem q_op0 {L : Nat} {F0 : Int → Int} {hp : xH} {v : Nat → Int} {S T N X : Int → Int} {d dM kL kM : Nat} {aL aM : List Value} {Q : Int → Prop} {M : Int → Int → Prop} {K : List Nat}
    (B : yBs L F0 hp) (A : yK hp (v 5) (v 7) (v 3) S T N X) (Y : yM hp v S T N X) (P : yPu v S N X)
    (hL : Cv d kL aL hp (yE (fun z h => Q z ∧ (kA h (v 5) (v 7) S ∧ kG h ∧ kP h) ∧ yfz K hp h))) (hK : ∀ i ∈ K, i = 28 ∨ (43 ≤ i ∧ i ≤ 62))
    (hM : ∀ h1, yM h1 v S T N X → Cv dM kM aM h1 (yE (fun b h2 => ∃ c v', M c b ∧ (v' 0 = c ∧ v' 3 = v 3 ∧ v' 5 = v 5 ∧ v' 7 = v 7) ∧ yM h2 v' S T N X ∧ yfr mK h1 h2)))
    (m0 : ∀ z c b, Q z → M c b → b = z) :
    Cv d kL aL hp (yE (fun k h1 => yMid L F0 h1 (Cv dM kM aM h1 (yE (fun b h2 => yOut0 L F0 hp k b h2))))) := by
  refine Ev.imp hL (fun o h1 q => ?_)
  obtain ⟨z, q1, q3, q4, q5⟩ := q
  refine ⟨z, q1, ?_⟩
  have hN := B.2.2.2.2
  have B9 := B.z q5 (fun i hi => by have := hK i hi; omega)
  have A9 := A.q hN q4 q5 hK
  have Y9 := Y.z q5 (fun i hi => by have := hK i hi; omega)
  refine ⟨B9.2.1, ⟨_, Y9.1⟩, Ev.imp (hM h1 Y9) (fun o h2 w => ?_)⟩
  obtain ⟨b, w1, c, v', w2, ⟨w3, w4, w5, w6⟩, w7, w8⟩ := w
  have qq := q5.1
  have qq2 := q5.2.1
  have qq3 := q5.2.2.1
  have ww := w8.1
  have ww2 := w8.2.1
  exact ⟨b, w1, ⟨v', S, T, N, X, B9.m w8, by rw [w4, w5, w6]; exact A9.m B9.2.2.2.2 w8, w7, by unfold yPu; rw [w4, w5, w6]; exact P⟩, m0 z c b q3 w2, by omega, by omega, by omega⟩
