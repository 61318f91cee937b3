/-! The law's small arithmetic. -/
def an (a b : Int) : Int := (iN a &&& iN b).toInt
def sr (a b : Int) : Int := (iN a >>> (iN b &&& 31)).toInt
theorem an_rng (a b : Int) : -2147483648 ≤ an a b ∧ an a b ≤ 2147483647 := iN_rng _
theorem sr_rng (a b : Int) : -2147483648 ≤ sr a b ∧ sr a b ≤ 2147483647 := iN_rng _
theorem an_le {a m : Int} (hm : 0 ≤ m ∧ m ≤ 2147483647) : 0 ≤ an a m ∧ an a m ≤ m := by
  have e : (iN m).toInt = m := iN_toInt (by omega)
  have e1 : (iN m).toBitVec.toInt = m := e
  rw [BitVec.toInt_eq_toNat_cond] at e1
  have l1 : (iN m).toBitVec.toNat < 4294967296 := (iN m).toBitVec.isLt
  have l2 : ((iN m).toBitVec.toNat : Int) = m := by
    split at e1 <;> omega
  have l3 : (iN a &&& iN m).toBitVec.toNat ≤ (iN m).toBitVec.toNat := by
    rw [Int32.toBitVec_and, BitVec.toNat_and]
    exact Nat.and_le_right
  show 0 ≤ (iN a &&& iN m).toBitVec.toInt ∧ (iN a &&& iN m).toBitVec.toInt ≤ m
  rw [BitVec.toInt_eq_toNat_cond]
  split <;> omega
section YB
variable {d k j nL rk : Nat} {L : List xE} {hs : List xX} {lv : xL} {st : List Value} {hp : xH} {Q : xO → xH → Prop} {pc len : Nat} {ax : List Nat} {cv : Value} {a b : Int}
theorem Y_an (hk : xtab k = (L, nL, rk, hs)) (he : L[j]? = some (pc, 0, .iand, len, ax, cv)) (kk : Ev d k (j + 1) lv (yi (an a b) :: st) hp Q) : Ev d k j lv (yi b :: yi a :: st) hp Q := by
  refine E_step hk he (by decide) (by decide) (by decide) ?_ kk
  show some (j + 1, lv, Value.int (iN a &&& iN b) :: st, hp) = some (j + 1, lv, Value.int (iN (iN a &&& iN b).toInt) :: st, hp)
  rw [iN_of]
theorem Y_sr (hk : xtab k = (L, nL, rk, hs)) (he : L[j]? = some (pc, 0, .ishr, len, ax, cv)) (kk : Ev d k (j + 1) lv (yi (sr a b) :: st) hp Q) : Ev d k j lv (yi b :: yi a :: st) hp Q := by
  refine E_step hk he (by decide) (by decide) (by decide) ?_ kk
  show some (j + 1, lv, Value.int (iN a >>> (iN b &&& 31)) :: st, hp) = some (j + 1, lv, Value.int (iN (iN a >>> (iN b &&& 31)).toInt) :: st, hp)
  rw [iN_of]
end YB
def lwv (v n : Int) : Int := an v 2147483647 % n
theorem lwv_rng {v n : Int} (hn : 0 < n) : 0 ≤ lwv v n ∧ lwv v n < n := ⟨Int.emod_nonneg _ (by omega), Int.emod_lt_of_pos _ hn⟩
theorem c_L_low {d : Nat} {hp : xH} {v n : Int} (hn : 0 < n ∧ n ≤ 2147483647) : Cv d 115 [yi v, yi n] hp (yP (some (yi (lwv v n))) hp) := by
  have hk : xtab 115 = (xc_115, 2, 1, []) := rfl
  show Ev d 115 0 [(0, yi v), (1, yi n)] [] hp _
  refine E_run hk 2 (j' := 2) (lv' := [(0, yi v), (1, yi n)]) (st' := [yi 2147483647, yi v]) (hp' := hp) rfl ?_
  refine Y_an (a := v) (b := 2147483647) hk rfl ?_
  have q1 := an_le (a := v) (m := 2147483647) (by decide)
  refine E_run hk 1 (j' := 4) (lv' := [(0, yi v), (1, yi n)]) (st' := [yi n, yi (an v 2147483647)]) (hp' := hp) rfl ?_
  refine Y_irem (a := (an v 2147483647)) (b := n) (by omega) hk rfl ?_
  exact E_ret hk rfl rfl ⟨rfl, rfl⟩
theorem c_L_cell {d : Nat} {hp : xH} {L : Nat} {F : Int → Int} (h25 : xat hp 25 = some (yI L F)) (hL : L ≤ 260) {k : Int} (hk0 : 0 ≤ k ∧ k < 100) : Cv d 114 [.ref 25, yi k] hp (yE (fun z h1 => (-2147483648 ≤ z ∧ z ≤ 2147483647) ∧ h1 = hp)) := by
  have hk : xtab 114 = (xc_114, 2, 1, []) := rfl
  show Ev d 114 0 [(0, .ref 25), (1, yi k)] [] hp _
  refine E_run hk 2 (j' := 2) (lv' := [(0, .ref 25), (1, yi k)]) (st' := [.ref 25, yi k]) (hp' := hp) rfl ?_
  refine Y_alen (by omega) hk rfl h25 ?_
  refine Y_ic_ge (a := k) (b := L) (by omega) hk rfl (fun g1 => ?_) (fun g1 => ?_)
  ·
    refine E_run hk 3 (j' := 11) (lv' := [(0, .ref 25), (1, yi k)]) (st' := [yi 3, yi k, yi 7919]) (hp' := hp) rfl ?_
    refine Y_iadd (a := k) (b := 3) hk rfl ?_
    refine Y_imul (a := 7919) (b := (k + 3)) hk rfl ?_
    refine E_run hk 2 (j' := 15) (lv' := [(0, .ref 25), (1, yi k)]) (st' := [yi 11, yi k, yi (7919 * (k + 3))]) (hp' := hp) rfl ?_
    refine Y_iadd (a := k) (b := 11) hk rfl ?_
    refine Y_imul (a := (7919 * (k + 3))) (b := (k + 11)) hk rfl ?_
    exact E_ret hk rfl rfl ⟨(iN ((7919 * (k + 3)) * (k + 11))).toInt, congrArg (fun v => Sum.inl (some (Value.int v))) (iN_of _).symm, iN_rng _, rfl⟩
  ·
    refine E_run hk 2 (j' := 6) (lv' := [(0, .ref 25), (1, yi k)]) (st' := [yi k, .ref 25]) (hp' := hp) rfl ?_
    refine Y_iald (a := k) (by omega) (by omega) hk rfl h25 ?_
    refine E_run hk 1 (j' := 17) (lv' := [(0, .ref 25), (1, yi k)]) (st' := [yi (F k)]) (hp' := hp) rfl ?_
    exact E_ret hk rfl rfl ⟨(iN (F k)).toInt, congrArg (fun v => Sum.inl (some (Value.int v))) (iN_of _).symm, iN_rng _, rfl⟩
section PM
variable {L : Nat} {F : Int → Int} {b n : Int} {h : xH} {S T : Int → Int} {d : Nat}
theorem p_isM1 (H : pzI L F b h n S T) (hm : 0 < S 0 ∧ 0 < S 1 ∧ -S 2 ≤ S 0 - S 1 ∧ S 0 - S 1 ≤ S 2) (hd : 6 ≤ d) : Cv d 70 [.ref 28] h (yE (fun z h1 => z = 1 ∧ pzI L F (b + 1) h1 n S T)) :=
  Ev.imp (p_isMatched H hd) (fun o h1 ⟨z, w, e, W⟩ => ⟨z, w, e.trans (b2_t hm), W⟩)
theorem p_isM0 (H : pzI L F b h n S T) (hm : ¬ (0 < S 0 ∧ 0 < S 1 ∧ -S 2 ≤ S 0 - S 1 ∧ S 0 - S 1 ≤ S 2)) (hd : 6 ≤ d) : Cv d 70 [.ref 28] h (yE (fun z h1 => z = 0 ∧ pzI L F (b + 1) h1 n S T)) :=
  Ev.imp (p_isMatched H hd) (fun o h1 ⟨z, w, e, W⟩ => ⟨z, w, e.trans (b2_f hm), W⟩)
theorem pzI.ls (H : pzI L F b h n S T) : ∀ t, 0 ≤ t → t ≤ 1 → 0 ≤ S (0 + t) ∧ S (0 + t) ≤ 12 := fun _ t1 t2 => ls_gen H.2.2.2.1.1 H.2.2.2.2.1 t1 t2
theorem pzI.ps (H : pzI L F b h n S T) : ∀ t, 0 ≤ t → t ≤ 1 → ∀ q, 0 ≤ q → q < S (0 + t) → 0 ≤ S (7 + 20 * t + q) ∧ S (7 + 20 * t + q) ≤ 60 := fun _ t1 t2 => H.2.2.2.1.1.gen t1 t2
end PM
