/-! The class and the model side by side. -/
section EL2
variable {d k j nL rk : Nat} {L : List xE} {hs : List xX} {lv : xL} {st : List Value} {hp : xH} {Q : xO → xH → Prop} {pc len : Nat} {ax : List Nat} {cv : Value} {a : Int} {x : Int64}
theorem Y_ic_refl {z off : Int} {t : Nat} (hk : xtab k = (L, nL, rk, hs)) (he : L[j]? = some (pc, 0, .if_icmp .eq off, len, [t], cv)) (kk : Ev d k t lv st hp Q) : Ev d k j lv (yi z :: yi z :: st) hp Q := E_ic_eq hk he (fun _ => kk) (fun h => absurd rfl h)
theorem Y_ic_h {z y off : Int} {t : Nat} (e : z = y) (hk : xtab k = (L, nL, rk, hs)) (he : L[j]? = some (pc, 0, .if_icmp .eq off, len, [t], cv)) (kk : Ev d k t lv st hp Q) : Ev d k j lv (yi y :: yi z :: st) hp Q := by
  subst e
  exact Y_ic_refl hk he kk
theorem Y_lcmp_refl (hk : xtab k = (L, nL, rk, hs)) (he : L[j]? = some (pc, 0, .lcmp, len, ax, cv)) (kk : Ev d k (j + 1) lv (yi 0 :: st) hp Q) : Ev d k j lv (.long x :: .long x :: st) hp Q := by
  have e : lg_cmp x x = 0 := by
    unfold lg_cmp
    simp
  refine Y_lcmp hk he ?_
  rw [e]
  exact kk
theorem Y_lcmp_h {y : Int64} (e : x = y) (hk : xtab k = (L, nL, rk, hs)) (he : L[j]? = some (pc, 0, .lcmp, len, ax, cv)) (kk : Ev d k (j + 1) lv (yi 0 :: st) hp Q) : Ev d k j lv (.long y :: .long x :: st) hp Q := by
  subst e
  exact Y_lcmp_refl hk he kk
end EL2
def kA (h : xH) (kp cl : Int) (S : Int → Int) : Prop := ∃ od, xat h 28 = some (.inr (8, [.ref 29, .ref 34, .ref 35, yi kp, .ref 40, yi cl, .ref 41, .ref 43, yi od, .ref 56, .ref 58])) ∧ yMs h S od
def kN (h : xH) (S : Int → Int) : Prop := ∃ (z o : Nat) (f g : Int → Int) (r t : Int), yS h 29 z o S f g r t ∧ ystp S r t
def kG (h : xH) : Prop := xat h 56 = some (.inr (1, [.ref 57])) ∧ ∃ u, xat h 57 = some (yI 400 u)
def kP (h : xH) : Prop := (∃ la fi ls lb lt, xat h 58 = some (.inr (4, [.ref 59, .ref 61, yi la, yi fi, yi ls, yi lb, yi lt]))) ∧ xat h 59 = some (.inr (1, [.ref 60])) ∧ xat h 61 = some (.inr (1, [.ref 62])) ∧ (∃ u, xat h 60 = some (yI 400 u)) ∧ ∃ u, xat h 62 = some (yI 400 u)
theorem kA.eq {h h1 : xH} {kp cl : Int} {S : Int → Int} (H : kA h kp cl S) (F : ∀ i, i = 28 ∨ (43 ≤ i ∧ i ≤ 55) → xat h1 i = xat h i) : kA h1 kp cl S := by
  obtain ⟨od, a1, a2⟩ := H
  exact ⟨od, (F _ (Or.inl rfl)).trans a1, a2.at (fun i i1 i2 => F i (Or.inr ⟨i1, i2⟩))⟩
theorem yMs.one {h : xH} {S S2 : Int → Int} {od : Int} (H : yMs h S od) : yMs h S2 1 := by
  obtain ⟨a1, a2, a3, a4, a5, a6, c, A, B, P, Q, U, V, b⟩ := H
  refine ⟨a1, a2, a3, a4, a5, a6, c, A, B, P, Q, U, V, Or.inr ⟨rfl, ?_⟩⟩
  rcases b with ⟨b0, b1, b2, b3, b4, b5, b6, b7, b8⟩ | ⟨b0, b⟩
  · exact ⟨_, _, b1, b2, b3, b4, b5, b6, b7⟩
  · exact b
theorem kN.eq {h h1 : xH} {S : Int → Int} (H : kN h S) (F : ∀ i, 29 ≤ i → i ≤ 33 → xat h1 i = xat h i) : kN h1 S := by
  obtain ⟨z, o, f, g, r, t, a1, a2⟩ := H
  exact ⟨z, o, f, g, r, t, a1.at2 (fun i i1 i2 => F i i1 (by omega)), a2⟩
theorem kG.eq {h h1 : xH} (H : kG h) (F : ∀ i, 56 ≤ i → i ≤ 57 → xat h1 i = xat h i) : kG h1 := by
  obtain ⟨a1, u, a2⟩ := H
  exact ⟨(F _ (by decide) (by decide)).trans a1, u, (F _ (by decide) (by decide)).trans a2⟩
theorem kP.eq {h h1 : xH} (H : kP h) (F : ∀ i, 58 ≤ i → i ≤ 62 → xat h1 i = xat h i) : kP h1 := by
  obtain ⟨⟨la, fi, ls, lb, lt, a1⟩, a2, a3, ⟨u, a4⟩, w, a5⟩ := H
  exact ⟨⟨la, fi, ls, lb, lt, (F _ (by decide) (by decide)).trans a1⟩, (F _ (by decide) (by decide)).trans a2, (F _ (by decide) (by decide)).trans a3, ⟨u, (F _ (by decide) (by decide)).trans a4⟩, w, (F _ (by decide) (by decide)).trans a5⟩
