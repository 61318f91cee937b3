/-! Walking the small machine: what a run comes to, an instruction or a block a row. -/
theorem xrun_mono (tab : Nat → xM) : ∀ (n d k j : Nat) (lv : xL) (st : List Value) (hp : xH) (r : xO × xH), xrun tab n d k j lv st hp = some r → ∀ m, xrun tab (n + m) d k j lv st hp = some r := by
  intro n
  induction n with
  | zero => intro d k j lv st hp r h; simp [xrun] at h
  | succ n ih =>
    intro d k j lv st hp r h m
    rw [Nat.succ_add]
    unfold xrun at h ⊢
    split at h
    · exact absurd h (by simp)
    · rename_i pc kd i len ax cv he
      split at h
      · split at h
        · exact absurd h (by simp)
        · rename_i hc
          try dsimp only
          rw [if_neg hc]
          split at h
          · rename_i hr
            rw [if_pos hr]
            cases d with
            | zero => exact absurd h (by simp)
            | succ d =>
              dsimp only at h ⊢
              split at h
              · exact absurd h (by simp)
              · rename_i v hp1 hcall
                rw [ih _ _ _ _ _ _ _ hcall m]
                dsimp only
                exact ih _ _ _ _ _ _ _ h m
              · rename_i E hp1 hcall
                rw [ih _ _ _ _ _ _ _ hcall m]
                dsimp only
                split at h
                · exact h
                · exact ih _ _ _ _ _ _ _ h m
          · exact absurd h (by simp)
      · exact h
      · exact h
      · rename_i h1 h2 h3
        split at h
        · exact absurd h (by simp)
        · exact ih _ _ _ _ _ _ _ h m
def xat (hp : xH) (a : Nat) : Option xC := hp.2.2 a
theorem xat_put_self (hp : xH) (a : Nat) (c : xC) : xat (xput hp a c) a = some c := by simp [xat, xput, xup]
theorem xat_put_ne (hp : xH) {a b : Nat} (c : xC) (h : b ≠ a) : xat (xput hp a c) b = xat hp b := by simp [xat, xput, xup, h]
theorem xat_new_self (hp : xH) (c : xC) (w : Nat) : xat (xnew hp c w) hp.1 = some c := by simp [xat, xnew, xup]
theorem xat_new_ne (hp : xH) {b : Nat} (c : xC) (w : Nat) (h : b ≠ hp.1) : xat (xnew hp c w) b = xat hp b := by simp [xat, xnew, xup, h]
theorem xat_bare (hp : xH) (w b : Nat) : xat (xbare hp w) b = xat hp b := rfl
/-- from here the method k comes, at most d calls deep, to an end with Q -/
def Ev (d k j : Nat) (lv : xL) (st : List Value) (hp : xH) (Q : xO → xH → Prop) : Prop := ∃ n o hp', xrun xtab n d k j lv st hp = some (o, hp') ∧ Q o hp'
/-- a call of the method k -/
def Cv (d k : Nat) (as : List Value) (hp : xH) (Q : xO → xH → Prop) : Prop := Ev d k 0 (lv_args 0 as) [] hp Q
theorem Ev.imp {d k j : Nat} {lv : xL} {st : List Value} {hp : xH} {Q Q' : xO → xH → Prop} (h : Ev d k j lv st hp Q) (hq : ∀ o hp', Q o hp' → Q' o hp') : Ev d k j lv st hp Q' := by
  obtain ⟨n, o, hp', h1, h2⟩ := h
  exact ⟨n, o, hp', h1, hq _ _ h2⟩
/-- several instructions, none of which calls or leaves -/
def xsteps (L : List xE) (nL : Nat) : Nat → xR → Option xR
  | 0, r => some r
  | m + 1, (j, lv, st, hp) => match L[j]? with
    | some (_, 0, i, _, ax, cv) => (match xsA nL j i ax cv lv st hp with
      | some r => xsteps L nL m r
      | none => none)
    | _ => none
theorem E_step {d k j pc kd len nL rk : Nat} {i : Instr} {ax : List Nat} {cv : Value} {L : List xE} {hs : List xX} {lv lv' : xL} {st st' : List Value} {hp hp' : xH} {j' : Nat} {Q : xO → xH → Prop} (hk : xtab k = (L, nL, rk, hs)) (he : L[j]? = some (pc, kd, i, len, ax, cv)) (h1 : kd ≠ 1) (h2 : kd ≠ 2) (h3 : kd ≠ 3)
    (h : xstp nL kd j i ax cv lv st hp = some (j', lv', st', hp')) (kk : Ev d k j' lv' st' hp' Q) : Ev d k j lv st hp Q := by
  obtain ⟨n, o, hq, e1, e2⟩ := kk
  refine ⟨n + 1, o, hq, ?_, e2⟩
  unfold xrun
  rw [hk]
  dsimp only
  rw [he]
  dsimp only
  split
  · exact absurd rfl h1
  · exact absurd rfl h2
  · exact absurd rfl h3
  · rw [h]
    exact e1
theorem E_run {d k nL rk : Nat} {L : List xE} {hs : List xX} (hk : xtab k = (L, nL, rk, hs)) {Q : xO → xH → Prop} : ∀ (m : Nat) {j : Nat} {lv : xL} {st : List Value} {hp : xH} {j' : Nat} {lv' : xL} {st' : List Value} {hp' : xH}, xsteps L nL m (j, lv, st, hp) = some (j', lv', st', hp') → Ev d k j' lv' st' hp' Q → Ev d k j lv st hp Q := by
  intro m
  induction m with
  | zero =>
    intro j lv st hp j' lv' st' hp' h kk
    simp only [xsteps, Option.some.injEq, Prod.mk.injEq] at h
    obtain ⟨rfl, rfl, rfl, rfl⟩ := h
    exact kk
  | succ m ih =>
    intro j lv st hp j' lv' st' hp' h kk
    unfold xsteps at h
    split at h
    · rename_i pc i len ax cv he
      split at h
      · rename_i r hr
        obtain ⟨j1, lv1, st1, hp1⟩ := r
        exact E_step hk he (by decide) (by decide) (by decide) hr (ih h kk)
      · exact absurd h (by simp)
    · exact absurd h (by simp)
section EW
variable {d k j nL rk : Nat} {L : List xE} {hs : List xX} {lv : xL} {st : List Value} {hp : xH} {Q : xO → xH → Prop} {pc len : Nat} {ax : List Nat} {cv : Value}
theorem E_jmp {i : Instr} {b : Bool} {st0 : List Value} {t : Nat} (hk : xtab k = (L, nL, rk, hs)) {kd : Nat} (he : L[j]? = some (pc, kd, i, len, ax, cv)) (h1 : kd ≠ 1) (h2 : kd ≠ 2) (h3 : kd ≠ 3) (h : xstp nL kd j i ax cv lv st0 hp = xjmp t j b lv st hp) (kt : b = true → Ev d k t lv st hp Q) (kf : b = false → Ev d k (j + 1) lv st hp Q) : Ev d k j lv st0 hp Q := by
  cases b with
  | true => exact E_step hk he h1 h2 h3 (h.trans (by simp [xjmp])) (kt rfl)
  | false => exact E_step hk he h1 h2 h3 (h.trans (by simp [xjmp])) (kf rfl)
theorem E_if_eq {x : Int32} {off : Int} {t : Nat} (hk : xtab k = (L, nL, rk, hs)) (he : L[j]? = some (pc, 0, .ifCond .eq off, len, [t], cv)) (kt : x = 0 → Ev d k t lv st hp Q) (kf : ¬ x = 0 → Ev d k (j + 1) lv st hp Q) : Ev d k j lv (.int x :: st) hp Q :=
  E_jmp (b := decide (x = 0)) hk he (by decide) (by decide) (by decide) rfl (fun h => kt (of_decide_eq_true h)) (fun h => kf (of_decide_eq_false h))
theorem E_if_ne {x : Int32} {off : Int} {t : Nat} (hk : xtab k = (L, nL, rk, hs)) (he : L[j]? = some (pc, 0, .ifCond .ne off, len, [t], cv)) (kt : ¬ x = 0 → Ev d k t lv st hp Q) (kf : x = 0 → Ev d k (j + 1) lv st hp Q) : Ev d k j lv (.int x :: st) hp Q :=
  E_jmp (b := decide (¬ x = 0)) hk he (by decide) (by decide) (by decide) rfl (fun h => kt (of_decide_eq_true h)) (fun h => kf (Decidable.not_not.mp (of_decide_eq_false h)))
theorem E_if_lt {x : Int32} {off : Int} {t : Nat} (hk : xtab k = (L, nL, rk, hs)) (he : L[j]? = some (pc, 0, .ifCond .lt off, len, [t], cv)) (kt : x < 0 → Ev d k t lv st hp Q) (kf : ¬ x < 0 → Ev d k (j + 1) lv st hp Q) : Ev d k j lv (.int x :: st) hp Q :=
  E_jmp (b := decide (x < 0)) hk he (by decide) (by decide) (by decide) rfl (fun h => kt (of_decide_eq_true h)) (fun h => kf (of_decide_eq_false h))
theorem E_if_ge {x : Int32} {off : Int} {t : Nat} (hk : xtab k = (L, nL, rk, hs)) (he : L[j]? = some (pc, 0, .ifCond .ge off, len, [t], cv)) (kt : ¬ x < 0 → Ev d k t lv st hp Q) (kf : x < 0 → Ev d k (j + 1) lv st hp Q) : Ev d k j lv (.int x :: st) hp Q :=
  E_jmp (b := decide (0 ≤ x)) hk he (by decide) (by decide) (by decide) rfl (fun h => kt (Int32.not_lt.mpr (of_decide_eq_true h))) (fun h => kf (Int32.not_le.mp (of_decide_eq_false h)))
theorem E_if_gt {x : Int32} {off : Int} {t : Nat} (hk : xtab k = (L, nL, rk, hs)) (he : L[j]? = some (pc, 0, .ifCond .gt off, len, [t], cv)) (kt : 0 < x → Ev d k t lv st hp Q) (kf : ¬ 0 < x → Ev d k (j + 1) lv st hp Q) : Ev d k j lv (.int x :: st) hp Q :=
  E_jmp (b := decide (0 < x)) hk he (by decide) (by decide) (by decide) rfl (fun h => kt (of_decide_eq_true h)) (fun h => kf (of_decide_eq_false h))
theorem E_if_le {x : Int32} {off : Int} {t : Nat} (hk : xtab k = (L, nL, rk, hs)) (he : L[j]? = some (pc, 0, .ifCond .le off, len, [t], cv)) (kt : ¬ 0 < x → Ev d k t lv st hp Q) (kf : 0 < x → Ev d k (j + 1) lv st hp Q) : Ev d k j lv (.int x :: st) hp Q :=
  E_jmp (b := decide (x ≤ 0)) hk he (by decide) (by decide) (by decide) rfl (fun h => kt (Int32.not_lt.mpr (of_decide_eq_true h))) (fun h => kf (Int32.not_le.mp (of_decide_eq_false h)))
theorem E_ic_eq {x y : Int32} {off : Int} {t : Nat} (hk : xtab k = (L, nL, rk, hs)) (he : L[j]? = some (pc, 0, .if_icmp .eq off, len, [t], cv)) (kt : x = y → Ev d k t lv st hp Q) (kf : ¬ x = y → Ev d k (j + 1) lv st hp Q) : Ev d k j lv (.int y :: .int x :: st) hp Q :=
  E_jmp (b := decide (x = y)) hk he (by decide) (by decide) (by decide) rfl (fun h => kt (of_decide_eq_true h)) (fun h => kf (of_decide_eq_false h))
theorem E_ic_ne {x y : Int32} {off : Int} {t : Nat} (hk : xtab k = (L, nL, rk, hs)) (he : L[j]? = some (pc, 0, .if_icmp .ne off, len, [t], cv)) (kt : ¬ x = y → Ev d k t lv st hp Q) (kf : x = y → Ev d k (j + 1) lv st hp Q) : Ev d k j lv (.int y :: .int x :: st) hp Q :=
  E_jmp (b := decide (¬ x = y)) hk he (by decide) (by decide) (by decide) rfl (fun h => kt (of_decide_eq_true h)) (fun h => kf (Decidable.not_not.mp (of_decide_eq_false h)))
theorem E_ic_lt {x y : Int32} {off : Int} {t : Nat} (hk : xtab k = (L, nL, rk, hs)) (he : L[j]? = some (pc, 0, .if_icmp .lt off, len, [t], cv)) (kt : x < y → Ev d k t lv st hp Q) (kf : ¬ x < y → Ev d k (j + 1) lv st hp Q) : Ev d k j lv (.int y :: .int x :: st) hp Q :=
  E_jmp (b := decide (x < y)) hk he (by decide) (by decide) (by decide) rfl (fun h => kt (of_decide_eq_true h)) (fun h => kf (of_decide_eq_false h))
theorem E_ic_ge {x y : Int32} {off : Int} {t : Nat} (hk : xtab k = (L, nL, rk, hs)) (he : L[j]? = some (pc, 0, .if_icmp .ge off, len, [t], cv)) (kt : ¬ x < y → Ev d k t lv st hp Q) (kf : x < y → Ev d k (j + 1) lv st hp Q) : Ev d k j lv (.int y :: .int x :: st) hp Q :=
  E_jmp (b := decide (y ≤ x)) hk he (by decide) (by decide) (by decide) rfl (fun h => kt (Int32.not_lt.mpr (of_decide_eq_true h))) (fun h => kf (Int32.not_le.mp (of_decide_eq_false h)))
theorem E_ic_gt {x y : Int32} {off : Int} {t : Nat} (hk : xtab k = (L, nL, rk, hs)) (he : L[j]? = some (pc, 0, .if_icmp .gt off, len, [t], cv)) (kt : y < x → Ev d k t lv st hp Q) (kf : ¬ y < x → Ev d k (j + 1) lv st hp Q) : Ev d k j lv (.int y :: .int x :: st) hp Q :=
  E_jmp (b := decide (y < x)) hk he (by decide) (by decide) (by decide) rfl (fun h => kt (of_decide_eq_true h)) (fun h => kf (of_decide_eq_false h))
theorem E_ic_le {x y : Int32} {off : Int} {t : Nat} (hk : xtab k = (L, nL, rk, hs)) (he : L[j]? = some (pc, 0, .if_icmp .le off, len, [t], cv)) (kt : ¬ y < x → Ev d k t lv st hp Q) (kf : y < x → Ev d k (j + 1) lv st hp Q) : Ev d k j lv (.int y :: .int x :: st) hp Q :=
  E_jmp (b := decide (x ≤ y)) hk he (by decide) (by decide) (by decide) rfl (fun h => kt (Int32.not_lt.mpr (of_decide_eq_true h))) (fun h => kf (Int32.not_le.mp (of_decide_eq_false h)))
theorem E_get {a ci f t q : Nat} {r : List Nat} {fs : List Value} {v : Value} {ix : Nat} (hk : xtab k = (L, nL, rk, hs)) (he : L[j]? = some (pc, 7, .getfield ix, len, ci :: f :: t :: q :: r, cv)) (ha : xat hp a = some (.inr (ci, fs))) (hv : fs[f]? = some v) (kk : Ev d k (j + 1) lv (v :: st) hp Q) : Ev d k j lv (.ref a :: st) hp Q := by
  refine E_step hk he (by decide) (by decide) (by decide) ?_ kk
  have ha : hp.2.2 a = some (.inr (ci, fs)) := ha
  simp [xstp, xsB, ha, hv]
theorem E_put {a ci f t q : Nat} {r : List Nat} {fs fs' : List Value} {v : Value} {ix : Nat} (hk : xtab k = (L, nL, rk, hs)) (he : L[j]? = some (pc, 7, .putfield ix, len, ci :: f :: t :: q :: r, cv)) (ha : xat hp a = some (.inr (ci, fs))) (hn : xNC ≤ a) (hl : f < fs.length) (hf : xfit t v = true) (hfs : fs.set f v = fs') (kk : Ev d k (j + 1) lv st (xput hp a (.inr (ci, fs'))) Q) : Ev d k j lv (v :: .ref a :: st) hp Q := by
  subst hfs
  refine E_step hk he (by decide) (by decide) (by decide) ?_ kk
  have ha : hp.2.2 a = some (.inr (ci, fs)) := ha
  simp [xstp, xsB, ha, hn, hl, hf]
theorem E_gets {ix : Nat} (hk : xtab k = (L, nL, rk, hs)) (he : L[j]? = some (pc, 7, .getstatic ix, len, ax, cv)) (kk : Ev d k (j + 1) lv (cv :: st) hp Q) : Ev d k j lv st hp Q :=
  E_step hk he (by decide) (by decide) (by decide) rfl kk
theorem E_alen {a n : Nat} {ty : FieldType} {f : Nat → Value} (hk : xtab k = (L, nL, rk, hs)) (he : L[j]? = some (pc, 7, .arraylength, len, ax, cv)) (ha : xat hp a = some (.inl (ty, n, f))) (kk : Ev d k (j + 1) lv (.int (nI n) :: st) hp Q) : Ev d k j lv (.ref a :: st) hp Q := by
  refine E_step hk he (by decide) (by decide) (by decide) ?_ kk
  have ha : hp.2.2 a = some (.inl (ty, n, f)) := ha
  simp [xstp, xsB, ha, nI]
theorem xin_of {i : Int32} {n : Nat} (h : vp_in i n) : xin i n = true := decide_eq_true h
theorem E_iald {a n : Nat} {f : Nat → Int32} {i : Int32} (hk : xtab k = (L, nL, rk, hs)) (he : L[j]? = some (pc, 7, .iaload, len, ax, cv)) (ha : xat hp a = some (.inl (.int, n, fun q => .int (f q)))) (hi : vp_in i n) (kk : Ev d k (j + 1) lv (.int (f i.toNatClampNeg) :: st) hp Q) : Ev d k j lv (.int i :: .ref a :: st) hp Q := by
  refine E_step hk he (by decide) (by decide) (by decide) ?_ kk
  have ha : hp.2.2 a = some (.inl (.int, n, fun q => .int (f q))) := ha
  simp [xstp, xsB, ha, xin_of hi]
theorem updV_int (f : Nat → Int32) (k : Nat) (x : Int32) : updV (fun q => .int (f q)) k (.int x) = fun q => .int (upd f k x q) := by
  funext q
  by_cases h : q = k <;> simp [updV, upd, h]
theorem E_iast {a n : Nat} {f : Nat → Int32} {i x : Int32} (hk : xtab k = (L, nL, rk, hs)) (he : L[j]? = some (pc, 7, .iastore, len, ax, cv)) (ha : xat hp a = some (.inl (.int, n, fun q => .int (f q)))) (hi : vp_in i n) (hn : xNC ≤ a) (kk : Ev d k (j + 1) lv st (xput hp a (.inl (.int, n, fun q => .int (upd f i.toNatClampNeg x q)))) Q) : Ev d k j lv (.int x :: .int i :: .ref a :: st) hp Q := by
  refine E_step hk he (by decide) (by decide) (by decide) ?_ kk
  have ha : hp.2.2 a = some (.inl (.int, n, fun q => .int (f q))) := ha
  simp [xstp, xsB, ha, xin_of hi, hn, updV_int]
theorem E_ret {v : Option Value} {i : Instr} (hk : xtab k = (L, nL, rk, hs)) (he : L[j]? = some (pc, 2, i, len, ax, cv)) (h : xret rk i st = some v) (hq : Q (.inl v) hp) : Ev d k j lv st hp Q := by
  refine ⟨1, .inl v, hp, ?_, hq⟩
  unfold xrun
  rw [hk]
  dsimp only
  rw [he]
  dsimp only
  rw [h]
  rfl
theorem E_throw {E : Nat} {r : List Nat} {i : Instr} (hd4 : 4 ≤ d) (hk : xtab k = (L, nL, rk, hs)) (he : L[j]? = some (pc, 3, i, len, E :: r, cv)) (hst : (st.map fun v => v.category).sum ≤ 8) (hq : Q (.inr E) (xbare hp 6)) : Ev d k j lv st hp Q := by
  refine ⟨1, .inr E, xbare hp 6, ?_, hq⟩
  unfold xrun
  rw [hk]
  dsimp only
  rw [he]
  dsimp only
  show (if d < 4 then none else if (st.map fun v => v.category).sum ≤ 8 then some (Sum.inr ((E :: r).headD 0), xbare hp 6) else none) = some (Sum.inr E, xbare hp 6)
  rw [if_neg (Nat.not_lt.mpr hd4), if_pos hst]
  rfl
/-- a call: the callee's contract, then both roads -/
theorem E_callX0 {g na md ci : Nat} {i : Instr} {as rest : List Value} {P : xO → xH → Prop} (hk : xtab k = (L, nL, rk, hs)) (he : L[j]? = some (pc, 1, i, len, ax, cv)) (a0 : ax.headD 0 = g) (a1 : ax.getD 1 0 = na) (a2 : ax.getD 2 0 = md) (a3 : ax.getD 3 0 = ci) (hst : st = as.reverse ++ rest) (hna : as.length = na) (hcat : (rest.map fun v => v.category).sum ≤ 8) (hr : xrcv md ci as hp = true) (hv : (as.map fun v => v.category).sum ≤ (xtab g).2.1)
    (hc : Cv d g as hp P) (kk : ∀ v hp1, P (.inl v) hp1 → Ev (d + 1) k (j + 1) lv (v.toList ++ rest) hp1 Q)
    (kx : ∀ E hp1, P (.inr E) hp1 → (xcatch hs pc E = none ∧ Q (.inr E) hp1) ∨ ∃ v t, xcatch hs pc E = some (v, t) ∧ Ev (d + 1) k t (xdel lv v) [] hp1 Q) : Ev (d + 1) k j lv st hp Q := by
  obtain ⟨n, o, hp1, e1, e2⟩ := hc
  subst a0; subst a1; subst a2; subst a3
  have hl : ax.getD 1 0 = as.reverse.length := by rw [List.length_reverse]; exact hna.symm
  have ht : (st.take (ax.getD 1 0)).reverse = as := by rw [hst, hl, List.take_left', List.reverse_reverse]; rfl
  have hd : st.drop (ax.getD 1 0) = rest := by rw [hst, hl, List.drop_left']; rfl
  have hlen : ¬ (st.length < ax.getD 1 0 ∨ 8 < ((st.drop (ax.getD 1 0)).map fun v => v.category).sum ∨ (xtab (ax.headD 0)).2.1 < (((st.take (ax.getD 1 0)).reverse).map fun v => v.category).sum) := by
    rw [hd, ht, hst, List.length_append, ← hl]
    omega
  cases o with
  | inl v =>
    obtain ⟨n2, o2, hq2, f1, f2⟩ := kk v hp1 e2
    refine ⟨n + n2 + 1, o2, hq2, ?_, f2⟩
    unfold xrun
    rw [hk]
    dsimp only
    rw [he]
    dsimp only
    rw [if_neg hlen, ht, hd, if_pos hr, xrun_mono xtab _ _ _ _ _ _ _ _ e1 n2]
    dsimp only
    rw [Nat.add_comm n n2]
    exact xrun_mono xtab _ _ _ _ _ _ _ _ f1 n
  | inr E =>
    rcases kx E hp1 e2 with ⟨h1, h2⟩ | ⟨v, t, h1, n2, o2, hq2, f1, f2⟩
    · refine ⟨n + 1, .inr E, hp1, ?_, h2⟩
      unfold xrun
      rw [hk]
      dsimp only
      rw [he]
      dsimp only
      rw [if_neg hlen, ht, if_pos hr, e1]
      dsimp only
      rw [h1]
      rfl
    · refine ⟨n + n2 + 1, o2, hq2, ?_, f2⟩
      unfold xrun
      rw [hk]
      dsimp only
      rw [he]
      dsimp only
      rw [if_neg hlen, ht, if_pos hr, xrun_mono xtab _ _ _ _ _ _ _ _ e1 n2]
      dsimp only
      rw [h1]
      dsimp only
      rw [Nat.add_comm n n2]
      exact xrun_mono xtab _ _ _ _ _ _ _ _ f1 n
theorem E_callX {g na md ci : Nat} {r : List Nat} {i : Instr} {as rest : List Value} {P : xO → xH → Prop} (hk : xtab k = (L, nL, rk, hs)) (he : L[j]? = some (pc, 1, i, len, g :: na :: md :: ci :: r, cv)) (hst : st = as.reverse ++ rest) (hna : as.length = na) (hcat : (rest.map fun v => v.category).sum ≤ 8) (hr : xrcv md ci as hp = true) (hv : (as.map fun v => v.category).sum ≤ (xtab g).2.1)
    (hc : Cv d g as hp P) (kk : ∀ v hp1, P (.inl v) hp1 → Ev (d + 1) k (j + 1) lv (v.toList ++ rest) hp1 Q)
    (kx : ∀ E hp1, P (.inr E) hp1 → (xcatch hs pc E = none ∧ Q (.inr E) hp1) ∨ ∃ v t, xcatch hs pc E = some (v, t) ∧ Ev (d + 1) k t (xdel lv v) [] hp1 Q) : Ev (d + 1) k j lv st hp Q :=
  E_callX0 hk he rfl rfl rfl rfl hst hna hcat hr hv hc kk kx
/-- an end with this answer and this heap -/
def xEq (v : Option Value) (h : xH) : xO → xH → Prop := fun o h' => o = .inl v ∧ h' = h
/-- a call of a method that always returns: its answer and heap are known -/
theorem E_call {g na md ci : Nat} {r : List Nat} {i : Instr} {as rest : List Value} {v : Option Value} {hp1 : xH} (hk : xtab k = (L, nL, rk, hs)) (he : L[j]? = some (pc, 1, i, len, g :: na :: md :: ci :: r, cv)) (hst : st = as.reverse ++ rest) (hna : as.length = na) (hcat : (rest.map fun v => v.category).sum ≤ 8) (hr : xrcv md ci as hp = true) (hv : (as.map fun v => v.category).sum ≤ (xtab g).2.1)
    (hc : Cv d g as hp (xEq v hp1)) (kk : Ev (d + 1) k (j + 1) lv (v.toList ++ rest) hp1 Q) : Ev (d + 1) k j lv st hp Q :=
  E_callX hk he hst hna hcat hr hv hc (fun v' h' e => by obtain ⟨e1, e2⟩ := e; cases e1; subst e2; exact kk) (fun E h' e => by obtain ⟨e1, -⟩ := e; cases e1)
end EW
