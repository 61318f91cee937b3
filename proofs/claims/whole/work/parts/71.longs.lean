/-! Longs and doubles. -/
section EL
variable {d k j nL rk : Nat} {L : List xE} {hs : List xX} {lv : xL} {st : List Value} {hp : xH} {Q : xO → xH → Prop} {pc len : Nat} {ax : List Nat} {cv : Value} {x y : UInt64}
theorem Y_ddiv (hn : FP.ddiv x y &&& 0x7fffffffffffffff ≤ 0x7ff0000000000000) (hk : xtab k = (L, nL, rk, hs)) (he : L[j]? = some (pc, 0, .ddiv, len, ax, cv)) (kk : Ev d k (j + 1) lv (.double (FP.ddiv x y) :: st) hp Q) : Ev d k j lv (.double y :: .double x :: st) hp Q := by
  refine E_step hk he (by decide) (by decide) (by decide) ?_ kk
  show (if _ then _ else none) = _
  rw [if_pos hn]
theorem Y_dmul (hn : FP.dmul x y &&& 0x7fffffffffffffff ≤ 0x7ff0000000000000) (hk : xtab k = (L, nL, rk, hs)) (he : L[j]? = some (pc, 0, .dmul, len, ax, cv)) (kk : Ev d k (j + 1) lv (.double (FP.dmul x y) :: st) hp Q) : Ev d k j lv (.double y :: .double x :: st) hp Q := by
  refine E_step hk he (by decide) (by decide) (by decide) ?_ kk
  show (if _ then _ else none) = _
  rw [if_pos hn]
theorem Y_dsub (hn : FP.dsub x y &&& 0x7fffffffffffffff ≤ 0x7ff0000000000000) (hk : xtab k = (L, nL, rk, hs)) (he : L[j]? = some (pc, 0, .dsub, len, ax, cv)) (kk : Ev d k (j + 1) lv (.double (FP.dsub x y) :: st) hp Q) : Ev d k j lv (.double y :: .double x :: st) hp Q := by
  refine E_step hk he (by decide) (by decide) (by decide) ?_ kk
  show (if _ then _ else none) = _
  rw [if_pos hn]
theorem Y_dcmp {op : _} {z : Int} (hz : Op.cmpValue (FP.dcmp x y) op = iN z) (hk : xtab k = (L, nL, rk, hs)) (he : L[j]? = some (pc, 0, .dcmp op, len, ax, cv)) (kk : Ev d k (j + 1) lv (yi z :: st) hp Q) : Ev d k j lv (.double y :: .double x :: st) hp Q := by
  refine E_step hk he (by decide) (by decide) (by decide) ?_ kk
  show some (j + 1, lv, Value.int (Op.cmpValue (FP.dcmp x y) op) :: st, hp) = _
  rw [hz]
/-- a call whose answer is some long -/
def yL (R : Int64 → xH → Prop) : xO → xH → Prop := fun o h => ∃ z, o = .inl (some (.long z)) ∧ R z h
theorem Y_callL {g na md ci : Nat} {r : List Nat} {i : Instr} {as rest : List Value} {R : Int64 → xH → Prop} (hk : xtab k = (L, nL, rk, hs)) (he : L[j]? = some (pc, 1, i, len, g :: na :: md :: ci :: r, cv)) (hst : st = as.reverse ++ rest) (hna : as.length = na) (hcat : (rest.map fun v => v.category).sum ≤ 8) (hr : xrcv md ci as hp = true) (hv : (as.map fun v => v.category).sum ≤ (xtab g).2.1)
    (hc : Cv d g as hp (yL R)) (kk : ∀ z h', R z h' → Ev (d + 1) k (j + 1) lv (.long z :: rest) h' Q) : Ev (d + 1) k j lv st hp Q :=
  E_callX hk he hst hna hcat hr hv hc (fun v' h' e => by obtain ⟨z, e1, e2⟩ := e; cases e1; exact kk z h' e2) (fun E h' e => by obtain ⟨z, e1, -⟩ := e; cases e1)
def yD (R : UInt64 → xH → Prop) : xO → xH → Prop := fun o h => ∃ z, o = .inl (some (.double z)) ∧ R z h
theorem Y_callD {g na md ci : Nat} {r : List Nat} {i : Instr} {as rest : List Value} {R : UInt64 → xH → Prop} (hk : xtab k = (L, nL, rk, hs)) (he : L[j]? = some (pc, 1, i, len, g :: na :: md :: ci :: r, cv)) (hst : st = as.reverse ++ rest) (hna : as.length = na) (hcat : (rest.map fun v => v.category).sum ≤ 8) (hr : xrcv md ci as hp = true) (hv : (as.map fun v => v.category).sum ≤ (xtab g).2.1)
    (hc : Cv d g as hp (yD R)) (kk : ∀ z h', R z h' → Ev (d + 1) k (j + 1) lv (.double z :: rest) h' Q) : Ev (d + 1) k j lv st hp Q :=
  E_callX hk he hst hna hcat hr hv hc (fun v' h' e => by obtain ⟨z, e1, e2⟩ := e; cases e1; exact kk z h' e2) (fun E h' e => by obtain ⟨z, e1, -⟩ := e; cases e1)
end EL
/-- the share of c pairs of which e are holds -/
def shv (c e : Int) : UInt64 := if c ≤ 0 then FP.dconst0 else FP.ddiv (FP.i2d (iN (c - e))) (FP.i2d (iN c))
theorem fp_div0 : ∀ a : Fin 41, ∀ b : Fin 41, 1 ≤ b.val → FP.ddiv (FP.i2d (iN (a.val : Int))) (FP.i2d (iN (b.val : Int))) &&& 0x7fffffffffffffff ≤ 0x7ff0000000000000 := by decide +kernel
theorem fp_div {a b : Int} (h : 0 ≤ a ∧ a ≤ 40 ∧ 1 ≤ b ∧ b ≤ 40) : FP.ddiv (FP.i2d (iN a)) (FP.i2d (iN b)) &&& 0x7fffffffffffffff ≤ 0x7ff0000000000000 := by
  have w := fp_div0 ⟨a.toNat, by omega⟩ ⟨b.toNat, by omega⟩ (by show 1 ≤ b.toNat; omega)
  have e1 : ((a.toNat : Nat) : Int) = a := by omega
  have e2 : ((b.toNat : Nat) : Int) = b := by omega
  dsimp only at w
  rw [e1, e2] at w
  exact w
/-- the next value of a digest -/
def hx (h : Int64) (v : Int) : Int64 := 31 * h + (iN v).toInt64
def hsf (F : Int → Int) (h : Int64) : Nat → Int64
  | 0 => h
  | k + 1 => hx (hsf F h k) (F (k : Int))
theorem hsf_s {F : Int → Int} {h : Int64} {i : Int} (hi : 0 ≤ i) : hsf F h (i + 1).toNat = hx (hsf F h i.toNat) (F i) := by
  rw [show (i + 1).toNat = i.toNat + 1 by omega]
  show hx (hsf F h i.toNat) (F ((i.toNat : Nat) : Int)) = _
  rw [show ((i.toNat : Nat) : Int) = i by omega]
theorem hsf_cong {F G : Int → Int} {h : Int64} : ∀ n : Nat, (∀ x : Int, 0 ≤ x → x < n → F x = G x) → hsf F h n = hsf G h n := by
  intro n
  induction n with
  | zero => intro _; rfl
  | succ n ih =>
    intro e
    show hx _ _ = hx _ _
    rw [ih (fun x x1 x2 => e x x1 (by omega)), e n (by omega) (by omega)]
def hs2 (F G : Int → Int) (h : Int64) : Nat → Int64
  | 0 => h
  | k + 1 => hx (hx (hs2 F G h k) (F (k : Int))) (G (k : Int))
theorem hs2_s {F G : Int → Int} {h : Int64} {i : Int} (hi : 0 ≤ i) : hs2 F G h (i + 1).toNat = hx (hx (hs2 F G h i.toNat) (F i)) (G i) := by
  rw [show (i + 1).toNat = i.toNat + 1 by omega]
  show hx (hx (hs2 F G h i.toNat) (F ((i.toNat : Nat) : Int))) (G ((i.toNat : Nat) : Int)) = _
  rw [show ((i.toNat : Nat) : Int) = i by omega]
theorem hs2_cong {F G F' G' : Int → Int} {h : Int64} : ∀ n : Nat, (∀ x : Int, 0 ≤ x → x < n → F x = F' x ∧ G x = G' x) → hs2 F G h n = hs2 F' G' h n := by
  intro n
  induction n with
  | zero => intro _; rfl
  | succ n ih =>
    intro e
    show hx (hx _ _) _ = hx (hx _ _) _
    rw [ih (fun x x1 x2 => e x x1 (by omega)), (e n (by omega) (by omega)).1, (e n (by omega) (by omega)).2]
def hsg (F : Int → Int → Int) (n : Nat) (h : Int64) : Nat → Int64
  | 0 => h
  | k + 1 => hsf (F (k : Int)) (hsg F n h k) n
theorem hsg_s {F : Int → Int → Int} {n : Nat} {h : Int64} {i : Int} (hi : 0 ≤ i) : hsg F n h (i + 1).toNat = hsf (F i) (hsg F n h i.toNat) n := by
  rw [show (i + 1).toNat = i.toNat + 1 by omega]
  show hsf (F ((i.toNat : Nat) : Int)) (hsg F n h i.toNat) n = _
  rw [show ((i.toNat : Nat) : Int) = i by omega]
/-- what the digest takes of a tune's stretches -/
def hst (S p : Int → Int) (c : Int) (t : Int) (h : Int64) : Int64 := hsf (fun k => cnt p k c.toNat) (hx h (lng p c.toNat (S (0 + t)).toNat)) (S (0 + t)).toNat
def orn (x : Int) : Int := if x < 100000000 then x else -1
def hmt (S p q : Int → Int) (c : Int) (h : Int64) : Int64 := hsg (fun i j => orn (fw (unl S 0) (S 3) (S 2) i j)) (S 1).toNat (hst S q c 1 (hst S p c 0 (hs2 p q h c.toNat))) (S 0).toNat
theorem hld_rng (p q : Int → Int) : ∀ n : Nat, 0 ≤ hld p q n ∧ hld p q n ≤ n := by
  intro n
  induction n with
  | zero => exact ⟨Int.le_refl 0, Int.le_refl 0⟩
  | succ n ih =>
    show 0 ≤ hld p q n + (if _ then 1 else 0) ∧ hld p q n + (if _ then 1 else 0) ≤ _
    split <;> omega
theorem c_X9_share {d : Nat} {hp : xH} {v : Nat → Int} (hM : xat hp 63 = some (yMo v)) {S : Int → Int} (hS : xat hp 64 = some (yI 47 S)) (hz : 0 ≤ S 0 ∧ S 0 ≤ 20 ∧ 0 ≤ S 1 ∧ S 1 ≤ 20 ∧ 0 ≤ S 2 ∧ S 2 ≤ 20 ∧ 0 ≤ S 3 ∧ S 3 ≤ 50 ∧ 0 ≤ S 4 ∧ S 4 ≤ 3) (h0 : ∀ q, 0 ≤ q → q < S 0 → 0 ≤ S (7 + q) ∧ S (7 + q) ≤ 60) (h1 : ∀ q, 0 ≤ q → q < S 1 → 0 ≤ S (27 + q) ∧ S (27 + q) ≤ 60) {f W : Int → Int} (hA : xat hp 71 = some (yI 400 f)) (hW : xat hp 72 = some (yI 400 W)) {p q : Int → Int} (hp1 : xat hp 74 = some (yI 40 p)) (hp2 : xat hp 75 = some (yI 40 q)) (hd : 6 ≤ d) : Cv d 245 [.ref 63] hp (yD (fun z h => ∃ c g w p q, xat h 63 = some (yMo (vup v 20 c)) ∧ xat h 71 = some (yI 400 g) ∧ xat h 72 = some (yI 400 w) ∧ xat h 74 = some (yI 40 p) ∧ xat h 75 = some (yI 40 q) ∧ mtc S c p q ∧ z = shv c (hld p q (c - 1).toNat) ∧ yfr [63, 71, 72, 74, 75] hp h)) := by
  have hk : xtab 245 = (xc_245, 2, 4, []) := rfl
  obtain ⟨d, rfl⟩ : ∃ e, d = e + 1 := ⟨d - 1, by omega⟩
  show Ev (d + 1) 245 0 [(0, .ref 63)] [] hp _
  refine E_run hk 1 (j' := 1) (lv' := [(0, .ref 63)]) (st' := [.ref 63]) (hp' := hp) rfl ?_
  refine Y_callE hk rfl (as := [.ref 63]) (rest := []) rfl rfl (Nat.le_of_ble_eq_true rfl) (rcv0 hM) (Nat.le_of_ble_eq_true rfl) (c_X9_holdMany (v := v) hM hS hz h0 h1 hA hW hp1 hp2 (hd := by omega)) (fun z1 H2 r3 => ?_)
  obtain ⟨c_H2, A_H2, W_H2, P_H2, Q_H2, e_H2, a_H2, w_H2, p_H2, q_H2, m_H2, zh_H2, f_H2⟩ := r3
  obtain ⟨mc1_H2, mc2_H2, -⟩ := mtc_rng m_H2 (by omega)
  have hr_H2 := hld_rng P_H2 Q_H2 (c_H2 - 1).toNat
  refine E_run hk 2 (j' := 4) (lv' := [(1, yi z1), (0, .ref 63)]) (st' := [.ref 63]) (hp' := H2) rfl ?_
  refine E_get (v := yi c_H2) hk rfl e_H2 rfl ?_
  refine Y_if_ne (a := c_H2) (by omega) hk rfl (fun g4 => ?_) (fun g4 => ?_)
  ·
    refine E_run hk 1 (j' := 9) (lv' := [(1, yi z1), (0, .ref 63)]) (st' := [.ref 63]) (hp' := H2) rfl ?_
    refine E_get (v := yi c_H2) hk rfl e_H2 rfl ?_
    refine E_run hk 1 (j' := 11) (lv' := [(1, yi z1), (0, .ref 63)]) (st' := [yi z1, yi c_H2]) (hp' := H2) rfl ?_
    refine Y_isub (a := c_H2) (b := z1) hk rfl ?_
    refine E_run hk 2 (j' := 14) (lv' := [(1, yi z1), (0, .ref 63)]) (st' := [.ref 63, .double (FP.i2d (iN (c_H2 - z1)))]) (hp' := H2) rfl ?_
    refine E_get (v := yi c_H2) hk rfl e_H2 rfl ?_
    refine E_run hk 1 (j' := 16) (lv' := [(1, yi z1), (0, .ref 63)]) (st' := [.double (FP.i2d (iN c_H2)), .double (FP.i2d (iN (c_H2 - z1)))]) (hp' := H2) rfl ?_
    refine Y_ddiv (x := (FP.i2d (iN (c_H2 - z1)))) (y := (FP.i2d (iN c_H2))) (fp_div (by omega)) hk rfl ?_
    exact E_ret hk rfl rfl ⟨_, rfl, c_H2, _, _, _, _, e_H2, a_H2, w_H2, p_H2, q_H2, m_H2, by rw [← zh_H2]; unfold shv; first | exact (if_pos (by omega)).symm | exact (if_neg (by omega)).symm, f_H2⟩
  ·
    refine E_run hk 2 (j' := 17) (lv' := [(1, yi z1), (0, .ref 63)]) (st' := [.double FP.dconst0]) (hp' := H2) rfl ?_
    exact E_ret hk rfl rfl ⟨_, rfl, c_H2, _, _, _, _, e_H2, a_H2, w_H2, p_H2, q_H2, m_H2, by rw [← zh_H2]; unfold shv; first | exact (if_pos (by omega)).symm | exact (if_neg (by omega)).symm, f_H2⟩
theorem c_X9_evenShare {d : Nat} {hp : xH} {v : Nat → Int} (hM : xat hp 63 = some (yMo v)) {S : Int → Int} (hS : xat hp 64 = some (yI 47 S)) (hz : 0 ≤ S 0 ∧ S 0 ≤ 20 ∧ 0 ≤ S 1 ∧ S 1 ≤ 20 ∧ 0 ≤ S 2 ∧ S 2 ≤ 20 ∧ 0 ≤ S 3 ∧ S 3 ≤ 50 ∧ 0 ≤ S 4 ∧ S 4 ≤ 3) (h0 : ∀ q, 0 ≤ q → q < S 0 → 0 ≤ S (7 + q) ∧ S (7 + q) ≤ 60) (h1 : ∀ q, 0 ≤ q → q < S 1 → 0 ≤ S (27 + q) ∧ S (27 + q) ≤ 60) {f W : Int → Int} (hA : xat hp 71 = some (yI 400 f)) (hW : xat hp 72 = some (yI 400 W)) {p q : Int → Int} (hp1 : xat hp 74 = some (yI 40 p)) (hp2 : xat hp 75 = some (yI 40 q)) (hd : 7 ≤ d) : Cv d 246 [.ref 63] hp (yD (fun z h => ∃ x20, xat h 63 = some (yMo (vup (vup v 0 0) 20 x20)) ∧ (∃ c p q, mtc S c p q ∧ z = shv c (hld p q (c - 1).toNat)) ∧ (∃ u, xat h 71 = some (yI 400 u)) ∧ (∃ u, xat h 72 = some (yI 400 u)) ∧ (∃ u, xat h 74 = some (yI 40 u)) ∧ (∃ u, xat h 75 = some (yI 40 u)) ∧ yfr [63, 71, 72, 74, 75] hp h)) := by
  have hk : xtab 246 = (xc_246, 1, 4, []) := rfl
  obtain ⟨d, rfl⟩ : ∃ e, d = e + 1 := ⟨d - 1, by omega⟩
  show Ev (d + 1) 246 0 [(0, .ref 63)] [] hp _
  refine E_run hk 2 (j' := 2) (lv' := [(0, .ref 63)]) (st' := [yi 0, .ref 63]) (hp' := hp) rfl ?_
  refine Y_put hk rfl hM (by decide) (Nat.le_of_ble_eq_true rfl) rfl (fs' := [yi 0, .ref 64, .ref 65, yi (v 3), .ref 66, yi (v 5), .ref 67, yi (v 7), yi (v 8), yi (v 9), .ref 68, yi (v 11), .ref 69, yi (v 13), .ref 70, .ref 71, .ref 72, .ref 73, .ref 74, .ref 75, yi (v 20), yi (v 21)]) rfl (fun H1 e2 f3 => ?_)
  refine E_run hk 1 (j' := 4) (lv' := [(0, .ref 63)]) (st' := [.ref 63]) (hp' := H1) rfl ?_
  refine Y_callD hk rfl (as := [.ref 63]) (rest := []) rfl rfl (Nat.le_of_ble_eq_true rfl) (rcv0 e2) (Nat.le_of_ble_eq_true rfl) (c_X9_share (v := (vup v 0 0)) e2 (f3.at (by decide) hS) hz h0 h1 (f3.at (by decide) hA) (f3.at (by decide) hW) (f3.at (by decide) hp1) (f3.at (by decide) hp2) (hd := by omega)) (fun z4 H5 r6 => ?_)
  obtain ⟨c_H5, A_H5, W_H5, P_H5, Q_H5, e_H5, a_H5, w_H5, p_H5, q_H5, m_H5, zh_H5, f_H5⟩ := r6
  exact E_ret hk rfl rfl ⟨_, rfl, c_H5, e_H5, ⟨_, _, _, m_H5, zh_H5⟩, ⟨_, a_H5⟩, ⟨_, w_H5⟩, ⟨_, p_H5⟩, ⟨_, q_H5⟩, (yfr.tr (f3.mono (by decide)) f_H5 (fun _ h => h) (by decide))⟩
