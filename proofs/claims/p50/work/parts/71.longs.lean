/-! Longs and doubles. -/
section EL
variable {d k j nL rk : Nat} {L : List xE} {hs : List xX} {lv : xL} {st : List Value} {hp : xH} {Q : xO → xH → Prop} {pc len : Nat} {ax : List Nat} {cv : Value} {x y : UInt64}
theorem Y_ddiv (hn : FP.ddiv x y &&& 0x7fffffffffffffff ≤ 0x7ff0000000000000) (hk : xtab k = (L, nL, rk, hs)) (he : L[j]? = some (pc, 0, .ddiv, len, ax, cv)) (kk : Ev d k (j + 1) lv (.double (FP.ddiv x y) :: st) hp Q) : Ev d k j lv (.double y :: .double x :: st) hp Q := by
  refine E_step hk he (by decide) (by decide) (by decide) ?_ kk
  show (if _ then _ else none) = _
  rw [if_pos hn]
theorem Y_dcmp {op : _} {z : Int} (hz : Op.cmpValue (FP.dcmp x y) op = iN z) (hk : xtab k = (L, nL, rk, hs)) (he : L[j]? = some (pc, 0, .dcmp op, len, ax, cv)) (kk : Ev d k (j + 1) lv (yi z :: st) hp Q) : Ev d k j lv (.double y :: .double x :: st) hp Q := by
  refine E_step hk he (by decide) (by decide) (by decide) ?_ kk
  show some (j + 1, lv, Value.int (Op.cmpValue (FP.dcmp x y) op) :: st, hp) = _
  rw [hz]
/-- a call whose answer is some long -/
def yL (R : Int64 → xH → Prop) : xO → xH → Prop := fun o h => ∃ z, o = .inl (some (.long z)) ∧ R z h
theorem Y_callL {g na md ci : Nat} {r : List Nat} {i : Instr} {as rest : List Value} {R : Int64 → xH → Prop} (hk : xtab k = (L, nL, rk, hs)) (he : L[j]? = some (pc, 1, i, len, g :: na :: md :: ci :: r, cv)) (hst : st = as.reverse ++ rest) (hna : as.length = na) (hcat : (rest.map fun v => v.category).sum ≤ 8) (hr : xrcv md ci as hp = true) (hv : (as.map fun v => v.category).sum ≤ (xtab g).2.1)
    (hc : Cv d g as hp (yL R)) (kk : ∀ z h', R z h' → Ev (d + 1) k (j + 1) lv (.long z :: rest) h' Q) : Ev (d + 1) k j lv st hp Q :=
  E_callX hk he hst hna hcat hr hv hc (fun v' h' e => by obtain ⟨z, e1, e2⟩ := e; cases e1; exact kk z h' e2) (fun E h' e => by obtain ⟨z, e1, -⟩ := e; cases e1)
def yD (R : UInt64 → xH → Prop) : xO → xH → Prop := fun o h => ∃ z, o = .inl (some (.double z)) ∧ R z h
theorem Y_callD {g na md ci : Nat} {r : List Nat} {i : Instr} {as rest : List Value} {R : UInt64 → xH → Prop} (hk : xtab k = (L, nL, rk, hs)) (he : L[j]? = some (pc, 1, i, len, g :: na :: md :: ci :: r, cv)) (hst : st = as.reverse ++ rest) (hna : as.length = na) (hcat : (rest.map fun v => v.category).sum ≤ 8) (hr : xrcv md ci as hp = true) (hv : (as.map fun v => v.category).sum ≤ (xtab g).2.1)
    (hc : Cv d g as hp (yD R)) (kk : ∀ z h', R z h' → Ev (d + 1) k (j + 1) lv (.double z :: rest) h' Q) : Ev (d + 1) k j lv st hp Q :=
  E_callX hk he hst hna hcat hr hv hc (fun v' h' e => by obtain ⟨z, e1, e2⟩ := e; cases e1; exact kk z h' e2) (fun E h' e => by obtain ⟨z, e1, -⟩ := e; cases e1)
end EL
/-- the share of c pairs of which e are holds -/
def shv (c e : Int) : UInt64 := if c ≤ 0 then FP.dconst0 else FP.ddiv (FP.i2d (iN (c - e))) (FP.i2d (iN c))
theorem fp_div0 : ∀ a : Fin 41, ∀ b : Fin 41, 1 ≤ b.val → FP.ddiv (FP.i2d (iN (a.val : Int))) (FP.i2d (iN (b.val : Int))) &&& 0x7fffffffffffffff ≤ 0x7ff0000000000000 := by decide +kernel
theorem fp_div {a b : Int} (h : 0 ≤ a ∧ a ≤ 40 ∧ 1 ≤ b ∧ b ≤ 40) : FP.ddiv (FP.i2d (iN a)) (FP.i2d (iN b)) &&& 0x7fffffffffffffff ≤ 0x7ff0000000000000 := by
  have w := fp_div0 ⟨a.toNat, by omega⟩ ⟨b.toNat, by omega⟩ (by show 1 ≤ b.toNat; omega)
  have e1 : ((a.toNat : Nat) : Int) = a := by omega
  have e2 : ((b.toNat : Nat) : Int) = b := by omega
  dsimp only at w
  rw [e1, e2] at w
  exact w
/-- the next value of a digest -/
def hx (h : Int64) (v : Int) : Int64 := 31 * h + (iN v).toInt64
def hsf (F : Int → Int) (h : Int64) : Nat → Int64
  | 0 => h
  | k + 1 => hx (hsf F h k) (F (k : Int))
theorem hsf_s {F : Int → Int} {h : Int64} {i : Int} (hi : 0 ≤ i) : hsf F h (i + 1).toNat = hx (hsf F h i.toNat) (F i) := by
  rw [show (i + 1).toNat = i.toNat + 1 by omega]
  show hx (hsf F h i.toNat) (F ((i.toNat : Nat) : Int)) = _
  rw [show ((i.toNat : Nat) : Int) = i by omega]
theorem hsf_cong {F G : Int → Int} {h : Int64} : ∀ n : Nat, (∀ x : Int, 0 ≤ x → x < n → F x = G x) → hsf F h n = hsf G h n := by
  intro n
  induction n with
  | zero => intro _; rfl
  | succ n ih =>
    intro e
    show hx _ _ = hx _ _
    rw [ih (fun x x1 x2 => e x x1 (by omega)), e n (by omega) (by omega)]
def hs2 (F G : Int → Int) (h : Int64) : Nat → Int64
  | 0 => h
  | k + 1 => hx (hx (hs2 F G h k) (F (k : Int))) (G (k : Int))
/-- what the digest takes of a tune's stretches -/
def hst (S p : Int → Int) (c : Int) (t : Int) (h : Int64) : Int64 := hsf (fun k => cnt p k c.toNat) (hx h (lng p c.toNat (S (0 + t)).toNat)) (S (0 + t)).toNat
def orn (x : Int) : Int := if x < 100000000 then x else -1
theorem hld_rng (p q : Int → Int) : ∀ n : Nat, 0 ≤ hld p q n ∧ hld p q n ≤ n := by
  intro n
  induction n with
  | zero => exact ⟨Int.le_refl 0, Int.le_refl 0⟩
  | succ n ih =>
    show 0 ≤ hld p q n + (if _ then 1 else 0) ∧ hld p q n + (if _ then 1 else 0) ≤ _
    split <;> omega
