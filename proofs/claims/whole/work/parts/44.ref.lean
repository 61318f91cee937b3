section EZ
variable {d k j nL rk : Nat} {L : List xE} {hs : List xX} {lv : xL} {st : List Value} {hp : xH} {Q : xO → xH → Prop} {pc len : Nat} {ax : List Nat} {cv : Value} {a b : Int}
theorem E_tgt {t t' : Nat} (h : t' = t) (kk : Ev d k t lv st hp Q) : Ev d k t' lv st hp Q := h ▸ kk
theorem Y_sw {df lo hi : Int} {offs : Array Int} (hr : -2147483648 ≤ a ∧ a ≤ 2147483647) (hk : xtab k = (L, nL, rk, hs)) (he : L[j]? = some (pc, 0, .tableswitch df lo hi offs, len, ax, cv)) (kd : (a < lo ∨ hi < a) → Ev d k (ax.headD 0) lv st hp Q) (kk : (lo ≤ a ∧ a ≤ hi) → Ev d k (ax.getD ((a - lo).toNat + 1) 0) lv st hp Q) : Ev d k j lv (yi a :: st) hp Q := by
  have e := iN_toInt hr
  by_cases h : a < lo ∨ hi < a
  · refine E_step hk he (by decide) (by decide) (by decide) ?_ (kd h)
    show (if (iN a).toInt < lo ∨ hi < (iN a).toInt then _ else _) = _
    rw [e, if_pos h]
  · refine E_step hk he (by decide) (by decide) (by decide) ?_ (kk (by omega))
    show (if (iN a).toInt < lo ∨ hi < (iN a).toInt then _ else _) = _
    rw [e, if_neg h]
end EZ
/-- how unlike two notes are told to be, k: the judge -/
def jud (k x : Int) : Int := if k = 0 then (if x < 0 then -x else x) else if k = 1 then x * x else if k = 2 then (if (if x < 0 then -x else x) % 12 < 12 - (if x < 0 then -x else x) % 12 then (if x < 0 then -x else x) % 12 else 12 - (if x < 0 then -x else x) % 12) else if x = 0 then 0 else 1
def unl (S : Int → Int) (b i j : Int) : Int := jud (S 4) (S (7 + i) - S (27 + j) - b)
theorem jud_rng {k x : Int} (h : -72 ≤ x ∧ x ≤ 72) : 0 ≤ jud k x ∧ jud k x ≤ 5184 := by
  unfold jud
  split
  · split <;> omega
  · split
    · have h1 : 0 ≤ x * x := by
        rcases Int.le_total 0 x with h2 | h2
        · exact Int.mul_nonneg h2 h2
        · exact Int.mul_nonneg_of_nonpos_of_nonpos h2 h2
      have h3 : x * x ≤ 5184 := by
        have h4 : 0 ≤ (72 - x) * (72 + x) := Int.mul_nonneg (by omega) (by omega)
        have h5 : (72 - x) * (72 + x) = 5184 - x * x := by
          rw [Int.sub_mul, Int.mul_add, Int.mul_add]
          omega
        omega
      exact ⟨h1, h3⟩
    · split
      · split <;> split <;> omega
      · split <;> omega
theorem c_X9_unlikeBy {d : Nat} {hp : xH} {v : Nat → Int} (hM : xat hp 63 = some (yMo v)) {S : Int → Int} (hS : xat hp 64 = some (yI 47 S)) (hz : 0 ≤ S 0 ∧ S 0 ≤ 20 ∧ 0 ≤ S 1 ∧ S 1 ≤ 20 ∧ 0 ≤ S 2 ∧ S 2 ≤ 20 ∧ 0 ≤ S 3 ∧ S 3 ≤ 50 ∧ 0 ≤ S 4 ∧ S 4 ≤ 3) (h0 : ∀ q, 0 ≤ q → q < S 0 → 0 ≤ S (7 + q) ∧ S (7 + q) ≤ 60) (h1 : ∀ q, 0 ≤ q → q < S 1 → 0 ≤ S (27 + q) ∧ S (27 + q) ≤ 60) {i j b : Int} (hi : 0 ≤ i ∧ i < S 0 ∧ 0 ≤ j ∧ j < S 1) (hb : -12 ≤ b ∧ b ≤ 12) (hd : 1 ≤ d) : Cv d 156 [.ref 63, yi i, yi j, yi b] hp (yP (some (yi (unl S b i j))) hp) := by
  have hk : xtab 156 = (xc_156, 6, 1, []) := rfl
  obtain ⟨d, rfl⟩ : ∃ e, d = e + 1 := ⟨d - 1, by omega⟩
  have w1 := h0 i (by omega) (by omega)
  have w2 := h1 j (by omega) (by omega)
  show Ev (d + 1) 156 0 [(0, .ref 63), (1, yi i), (2, yi j), (3, yi b)] [] hp _
  refine E_run hk 3 (j' := 3) (lv' := [(0, .ref 63), (1, yi i), (2, yi j), (3, yi b)]) (st' := [yi i, yi 0, .ref 63]) (hp' := hp) rfl ?_
  refine Y_callP hk rfl (as := [.ref 63, yi 0, yi i]) (rest := []) (v := some (yi (S (7 + i)))) rfl rfl (Nat.le_of_ble_eq_true rfl) (rcv0 hM) (Nat.le_of_ble_eq_true rfl) (c_X9_of (t := 0) (i := i) (v := v) hM hS (by omega)) ?_
  refine E_run hk 3 (j' := 7) (lv' := [(0, .ref 63), (1, yi i), (2, yi j), (3, yi b)]) (st' := [yi j, yi 1, .ref 63, yi (S (7 + i))]) (hp' := hp) rfl ?_
  refine Y_callP hk rfl (as := [.ref 63, yi 1, yi j]) (rest := [yi (S (7 + i))]) (v := some (yi (S (27 + j)))) rfl rfl (Nat.le_of_ble_eq_true rfl) (rcv0 hM) (Nat.le_of_ble_eq_true rfl) (c_X9_of (t := 1) (i := j) (v := v) hM hS (by omega)) ?_
  refine Y_isub (a := (S (7 + i))) (b := (S (27 + j))) hk rfl ?_
  refine E_run hk 1 (j' := 10) (lv' := [(0, .ref 63), (1, yi i), (2, yi j), (3, yi b)]) (st' := [yi b, yi ((S (7 + i)) - (S (27 + j)))]) (hp' := hp) rfl ?_
  refine Y_isub (a := ((S (7 + i)) - (S (27 + j)))) (b := b) hk rfl ?_
  refine E_run hk 2 (j' := 13) (lv' := [(4, yi (((S (7 + i)) - (S (27 + j))) - b)), (0, .ref 63), (1, yi i), (2, yi j), (3, yi b)]) (st' := [yi (((S (7 + i)) - (S (27 + j))) - b)]) (hp' := hp) rfl ?_
  refine Y_if_ge (a := (((S (7 + i)) - (S (27 + j))) - b)) (by omega) hk rfl (fun g1 => ?_) (fun g1 => ?_)
  ·
    refine E_run hk 4 (j' := 21) (lv' := [(4, yi (((S (7 + i)) - (S (27 + j))) - b)), (0, .ref 63), (1, yi i), (2, yi j), (3, yi b)]) (st' := [yi 12, yi (((S (7 + i)) - (S (27 + j))) - b)]) (hp' := hp) rfl ?_
    refine Y_irem (a := (((S (7 + i)) - (S (27 + j))) - b)) (b := 12) (by omega) hk rfl ?_
    refine E_run hk 2 (j' := 24) (lv' := [(5, yi ((((S (7 + i)) - (S (27 + j))) - b) % 12)), (4, yi (((S (7 + i)) - (S (27 + j))) - b)), (0, .ref 63), (1, yi i), (2, yi j), (3, yi b)]) (st' := [.ref 63]) (hp' := hp) rfl ?_
    refine E_get (v := .ref 64) hk rfl hM rfl ?_
    refine E_run hk 1 (j' := 26) (lv' := [(5, yi ((((S (7 + i)) - (S (27 + j))) - b) % 12)), (4, yi (((S (7 + i)) - (S (27 + j))) - b)), (0, .ref 63), (1, yi i), (2, yi j), (3, yi b)]) (st' := [yi 4, .ref 64]) (hp' := hp) rfl ?_
    refine Y_iald (a := 4) (by omega) (by decide) hk rfl hS ?_
    refine Y_sw (a := (S 4)) (by omega) hk rfl (fun g2 => ?_) (fun g2 => ?_)
    · refine E_tgt (t := 45) rfl ?_
      refine E_run hk 1 (j' := 46) (lv' := [(5, yi ((((S (7 + i)) - (S (27 + j))) - b) % 12)), (4, yi (((S (7 + i)) - (S (27 + j))) - b)), (0, .ref 63), (1, yi i), (2, yi j), (3, yi b)]) (st' := [yi (((S (7 + i)) - (S (27 + j))) - b)]) (hp' := hp) rfl ?_
      refine Y_if_ne (a := (((S (7 + i)) - (S (27 + j))) - b)) (by omega) hk rfl (fun g3 => ?_) (fun g3 => ?_)
      ·
        refine E_run hk 1 (j' := 50) (lv' := [(5, yi ((((S (7 + i)) - (S (27 + j))) - b) % 12)), (4, yi (((S (7 + i)) - (S (27 + j))) - b)), (0, .ref 63), (1, yi i), (2, yi j), (3, yi b)]) (st' := [yi 1]) (hp' := hp) rfl ?_
        exact E_ret hk rfl rfl (li (by unfold unl jud; (first | (rw [if_pos (by omega)]; (first | (rw [if_pos (by omega)]; done) | (rw [if_neg (by omega)]; done))) | (rw [if_neg (by omega), if_pos (by omega)]; (first | done | exact Int.neg_mul_neg _ _)) | (rw [if_neg (by omega), if_neg (by omega), if_pos (by omega)]; (first | (rw [if_pos (by omega), if_pos (by omega)]; done) | (rw [if_pos (by omega), if_neg (by omega)]; done) | (rw [if_neg (by omega), if_pos (by omega)]; done) | (rw [if_neg (by omega), if_neg (by omega)]; done) | (split <;> split <;> omega))) | (rw [if_neg (by omega), if_neg (by omega), if_neg (by omega)]; (first | (rw [if_pos (by omega)]; done) | (rw [if_neg (by omega)]; done))))))
      ·
        refine E_run hk 2 (j' := 50) (lv' := [(5, yi ((((S (7 + i)) - (S (27 + j))) - b) % 12)), (4, yi (((S (7 + i)) - (S (27 + j))) - b)), (0, .ref 63), (1, yi i), (2, yi j), (3, yi b)]) (st' := [yi 0]) (hp' := hp) rfl ?_
        exact E_ret hk rfl rfl (li (by unfold unl jud; (first | (rw [if_pos (by omega)]; (first | (rw [if_pos (by omega)]; done) | (rw [if_neg (by omega)]; done))) | (rw [if_neg (by omega), if_pos (by omega)]; (first | done | exact Int.neg_mul_neg _ _)) | (rw [if_neg (by omega), if_neg (by omega), if_pos (by omega)]; (first | (rw [if_pos (by omega), if_pos (by omega)]; done) | (rw [if_pos (by omega), if_neg (by omega)]; done) | (rw [if_neg (by omega), if_pos (by omega)]; done) | (rw [if_neg (by omega), if_neg (by omega)]; done) | (split <;> split <;> omega))) | (rw [if_neg (by omega), if_neg (by omega), if_neg (by omega)]; (first | (rw [if_pos (by omega)]; done) | (rw [if_neg (by omega)]; done))))))
    · rcases (by omega : (S 4) = 0 ∨ (S 4) = 1 ∨ (S 4) = 2) with g2e | g2e | g2e
      · refine E_tgt (t := 28) (by rw [g2e]; rfl) ?_
        refine E_run hk 1 (j' := 29) (lv' := [(5, yi ((((S (7 + i)) - (S (27 + j))) - b) % 12)), (4, yi (((S (7 + i)) - (S (27 + j))) - b)), (0, .ref 63), (1, yi i), (2, yi j), (3, yi b)]) (st' := [yi (((S (7 + i)) - (S (27 + j))) - b)]) (hp' := hp) rfl ?_
        exact E_ret hk rfl rfl (li (by unfold unl jud; (first | (rw [if_pos (by omega)]; (first | (rw [if_pos (by omega)]; done) | (rw [if_neg (by omega)]; done))) | (rw [if_neg (by omega), if_pos (by omega)]; (first | done | exact Int.neg_mul_neg _ _)) | (rw [if_neg (by omega), if_neg (by omega), if_pos (by omega)]; (first | (rw [if_pos (by omega), if_pos (by omega)]; done) | (rw [if_pos (by omega), if_neg (by omega)]; done) | (rw [if_neg (by omega), if_pos (by omega)]; done) | (rw [if_neg (by omega), if_neg (by omega)]; done) | (split <;> split <;> omega))) | (rw [if_neg (by omega), if_neg (by omega), if_neg (by omega)]; (first | (rw [if_pos (by omega)]; done) | (rw [if_neg (by omega)]; done))))))
      · refine E_tgt (t := 30) (by rw [g2e]; rfl) ?_
        refine E_run hk 2 (j' := 32) (lv' := [(5, yi ((((S (7 + i)) - (S (27 + j))) - b) % 12)), (4, yi (((S (7 + i)) - (S (27 + j))) - b)), (0, .ref 63), (1, yi i), (2, yi j), (3, yi b)]) (st' := [yi (((S (7 + i)) - (S (27 + j))) - b), yi (((S (7 + i)) - (S (27 + j))) - b)]) (hp' := hp) rfl ?_
        refine Y_imul (a := (((S (7 + i)) - (S (27 + j))) - b)) (b := (((S (7 + i)) - (S (27 + j))) - b)) hk rfl ?_
        exact E_ret hk rfl rfl (li (by unfold unl jud; (first | (rw [if_pos (by omega)]; (first | (rw [if_pos (by omega)]; done) | (rw [if_neg (by omega)]; done))) | (rw [if_neg (by omega), if_pos (by omega)]; (first | done | exact Int.neg_mul_neg _ _)) | (rw [if_neg (by omega), if_neg (by omega), if_pos (by omega)]; (first | (rw [if_pos (by omega), if_pos (by omega)]; done) | (rw [if_pos (by omega), if_neg (by omega)]; done) | (rw [if_neg (by omega), if_pos (by omega)]; done) | (rw [if_neg (by omega), if_neg (by omega)]; done) | (split <;> split <;> omega))) | (rw [if_neg (by omega), if_neg (by omega), if_neg (by omega)]; (first | (rw [if_pos (by omega)]; done) | (rw [if_neg (by omega)]; done))))))
      · refine E_tgt (t := 34) (by rw [g2e]; rfl) ?_
        refine E_run hk 3 (j' := 37) (lv' := [(5, yi ((((S (7 + i)) - (S (27 + j))) - b) % 12)), (4, yi (((S (7 + i)) - (S (27 + j))) - b)), (0, .ref 63), (1, yi i), (2, yi j), (3, yi b)]) (st' := [yi ((((S (7 + i)) - (S (27 + j))) - b) % 12), yi 12, yi ((((S (7 + i)) - (S (27 + j))) - b) % 12)]) (hp' := hp) rfl ?_
        refine Y_isub (a := 12) (b := ((((S (7 + i)) - (S (27 + j))) - b) % 12)) hk rfl ?_
        refine Y_ic_ge (a := ((((S (7 + i)) - (S (27 + j))) - b) % 12)) (b := (12 - ((((S (7 + i)) - (S (27 + j))) - b) % 12))) (by omega) hk rfl (fun g4 => ?_) (fun g4 => ?_)
        ·
          refine E_run hk 2 (j' := 43) (lv' := [(5, yi ((((S (7 + i)) - (S (27 + j))) - b) % 12)), (4, yi (((S (7 + i)) - (S (27 + j))) - b)), (0, .ref 63), (1, yi i), (2, yi j), (3, yi b)]) (st' := [yi ((((S (7 + i)) - (S (27 + j))) - b) % 12), yi 12]) (hp' := hp) rfl ?_
          refine Y_isub (a := 12) (b := ((((S (7 + i)) - (S (27 + j))) - b) % 12)) hk rfl ?_
          exact E_ret hk rfl rfl (li (by unfold unl jud; (first | (rw [if_pos (by omega)]; (first | (rw [if_pos (by omega)]; done) | (rw [if_neg (by omega)]; done))) | (rw [if_neg (by omega), if_pos (by omega)]; (first | done | exact Int.neg_mul_neg _ _)) | (rw [if_neg (by omega), if_neg (by omega), if_pos (by omega)]; (first | (rw [if_pos (by omega), if_pos (by omega)]; done) | (rw [if_pos (by omega), if_neg (by omega)]; done) | (rw [if_neg (by omega), if_pos (by omega)]; done) | (rw [if_neg (by omega), if_neg (by omega)]; done) | (split <;> split <;> omega))) | (rw [if_neg (by omega), if_neg (by omega), if_neg (by omega)]; (first | (rw [if_pos (by omega)]; done) | (rw [if_neg (by omega)]; done))))))
        ·
          refine E_run hk 2 (j' := 44) (lv' := [(5, yi ((((S (7 + i)) - (S (27 + j))) - b) % 12)), (4, yi (((S (7 + i)) - (S (27 + j))) - b)), (0, .ref 63), (1, yi i), (2, yi j), (3, yi b)]) (st' := [yi ((((S (7 + i)) - (S (27 + j))) - b) % 12)]) (hp' := hp) rfl ?_
          exact E_ret hk rfl rfl (li (by unfold unl jud; (first | (rw [if_pos (by omega)]; (first | (rw [if_pos (by omega)]; done) | (rw [if_neg (by omega)]; done))) | (rw [if_neg (by omega), if_pos (by omega)]; (first | done | exact Int.neg_mul_neg _ _)) | (rw [if_neg (by omega), if_neg (by omega), if_pos (by omega)]; (first | (rw [if_pos (by omega), if_pos (by omega)]; done) | (rw [if_pos (by omega), if_neg (by omega)]; done) | (rw [if_neg (by omega), if_pos (by omega)]; done) | (rw [if_neg (by omega), if_neg (by omega)]; done) | (split <;> split <;> omega))) | (rw [if_neg (by omega), if_neg (by omega), if_neg (by omega)]; (first | (rw [if_pos (by omega)]; done) | (rw [if_neg (by omega)]; done))))))
  ·
    refine E_run hk 1 (j' := 15) (lv' := [(4, yi (((S (7 + i)) - (S (27 + j))) - b)), (0, .ref 63), (1, yi i), (2, yi j), (3, yi b)]) (st' := [yi (((S (7 + i)) - (S (27 + j))) - b)]) (hp' := hp) rfl ?_
    refine Y_ineg (a := (((S (7 + i)) - (S (27 + j))) - b)) hk rfl ?_
    refine E_run hk 4 (j' := 21) (lv' := [(4, yi (-(((S (7 + i)) - (S (27 + j))) - b))), (0, .ref 63), (1, yi i), (2, yi j), (3, yi b)]) (st' := [yi 12, yi (-(((S (7 + i)) - (S (27 + j))) - b))]) (hp' := hp) rfl ?_
    refine Y_irem (a := (-(((S (7 + i)) - (S (27 + j))) - b))) (b := 12) (by omega) hk rfl ?_
    refine E_run hk 2 (j' := 24) (lv' := [(5, yi ((-(((S (7 + i)) - (S (27 + j))) - b)) % 12)), (4, yi (-(((S (7 + i)) - (S (27 + j))) - b))), (0, .ref 63), (1, yi i), (2, yi j), (3, yi b)]) (st' := [.ref 63]) (hp' := hp) rfl ?_
    refine E_get (v := .ref 64) hk rfl hM rfl ?_
    refine E_run hk 1 (j' := 26) (lv' := [(5, yi ((-(((S (7 + i)) - (S (27 + j))) - b)) % 12)), (4, yi (-(((S (7 + i)) - (S (27 + j))) - b))), (0, .ref 63), (1, yi i), (2, yi j), (3, yi b)]) (st' := [yi 4, .ref 64]) (hp' := hp) rfl ?_
    refine Y_iald (a := 4) (by omega) (by decide) hk rfl hS ?_
    refine Y_sw (a := (S 4)) (by omega) hk rfl (fun g5 => ?_) (fun g5 => ?_)
    · refine E_tgt (t := 45) rfl ?_
      refine E_run hk 1 (j' := 46) (lv' := [(5, yi ((-(((S (7 + i)) - (S (27 + j))) - b)) % 12)), (4, yi (-(((S (7 + i)) - (S (27 + j))) - b))), (0, .ref 63), (1, yi i), (2, yi j), (3, yi b)]) (st' := [yi (-(((S (7 + i)) - (S (27 + j))) - b))]) (hp' := hp) rfl ?_
      refine Y_if_ne (a := (-(((S (7 + i)) - (S (27 + j))) - b))) (by omega) hk rfl (fun g6 => ?_) (fun g6 => ?_)
      ·
        refine E_run hk 1 (j' := 50) (lv' := [(5, yi ((-(((S (7 + i)) - (S (27 + j))) - b)) % 12)), (4, yi (-(((S (7 + i)) - (S (27 + j))) - b))), (0, .ref 63), (1, yi i), (2, yi j), (3, yi b)]) (st' := [yi 1]) (hp' := hp) rfl ?_
        exact E_ret hk rfl rfl (li (by unfold unl jud; (first | (rw [if_pos (by omega)]; (first | (rw [if_pos (by omega)]; done) | (rw [if_neg (by omega)]; done))) | (rw [if_neg (by omega), if_pos (by omega)]; (first | done | exact Int.neg_mul_neg _ _)) | (rw [if_neg (by omega), if_neg (by omega), if_pos (by omega)]; (first | (rw [if_pos (by omega), if_pos (by omega)]; done) | (rw [if_pos (by omega), if_neg (by omega)]; done) | (rw [if_neg (by omega), if_pos (by omega)]; done) | (rw [if_neg (by omega), if_neg (by omega)]; done) | (split <;> split <;> omega))) | (rw [if_neg (by omega), if_neg (by omega), if_neg (by omega)]; (first | (rw [if_pos (by omega)]; done) | (rw [if_neg (by omega)]; done))))))
      ·
        refine E_run hk 2 (j' := 50) (lv' := [(5, yi ((-(((S (7 + i)) - (S (27 + j))) - b)) % 12)), (4, yi (-(((S (7 + i)) - (S (27 + j))) - b))), (0, .ref 63), (1, yi i), (2, yi j), (3, yi b)]) (st' := [yi 0]) (hp' := hp) rfl ?_
        exact E_ret hk rfl rfl (li (by unfold unl jud; (first | (rw [if_pos (by omega)]; (first | (rw [if_pos (by omega)]; done) | (rw [if_neg (by omega)]; done))) | (rw [if_neg (by omega), if_pos (by omega)]; (first | done | exact Int.neg_mul_neg _ _)) | (rw [if_neg (by omega), if_neg (by omega), if_pos (by omega)]; (first | (rw [if_pos (by omega), if_pos (by omega)]; done) | (rw [if_pos (by omega), if_neg (by omega)]; done) | (rw [if_neg (by omega), if_pos (by omega)]; done) | (rw [if_neg (by omega), if_neg (by omega)]; done) | (split <;> split <;> omega))) | (rw [if_neg (by omega), if_neg (by omega), if_neg (by omega)]; (first | (rw [if_pos (by omega)]; done) | (rw [if_neg (by omega)]; done))))))
    · rcases (by omega : (S 4) = 0 ∨ (S 4) = 1 ∨ (S 4) = 2) with g5e | g5e | g5e
      · refine E_tgt (t := 28) (by rw [g5e]; rfl) ?_
        refine E_run hk 1 (j' := 29) (lv' := [(5, yi ((-(((S (7 + i)) - (S (27 + j))) - b)) % 12)), (4, yi (-(((S (7 + i)) - (S (27 + j))) - b))), (0, .ref 63), (1, yi i), (2, yi j), (3, yi b)]) (st' := [yi (-(((S (7 + i)) - (S (27 + j))) - b))]) (hp' := hp) rfl ?_
        exact E_ret hk rfl rfl (li (by unfold unl jud; (first | (rw [if_pos (by omega)]; (first | (rw [if_pos (by omega)]; done) | (rw [if_neg (by omega)]; done))) | (rw [if_neg (by omega), if_pos (by omega)]; (first | done | exact Int.neg_mul_neg _ _)) | (rw [if_neg (by omega), if_neg (by omega), if_pos (by omega)]; (first | (rw [if_pos (by omega), if_pos (by omega)]; done) | (rw [if_pos (by omega), if_neg (by omega)]; done) | (rw [if_neg (by omega), if_pos (by omega)]; done) | (rw [if_neg (by omega), if_neg (by omega)]; done) | (split <;> split <;> omega))) | (rw [if_neg (by omega), if_neg (by omega), if_neg (by omega)]; (first | (rw [if_pos (by omega)]; done) | (rw [if_neg (by omega)]; done))))))
      · refine E_tgt (t := 30) (by rw [g5e]; rfl) ?_
        refine E_run hk 2 (j' := 32) (lv' := [(5, yi ((-(((S (7 + i)) - (S (27 + j))) - b)) % 12)), (4, yi (-(((S (7 + i)) - (S (27 + j))) - b))), (0, .ref 63), (1, yi i), (2, yi j), (3, yi b)]) (st' := [yi (-(((S (7 + i)) - (S (27 + j))) - b)), yi (-(((S (7 + i)) - (S (27 + j))) - b))]) (hp' := hp) rfl ?_
        refine Y_imul (a := (-(((S (7 + i)) - (S (27 + j))) - b))) (b := (-(((S (7 + i)) - (S (27 + j))) - b))) hk rfl ?_
        exact E_ret hk rfl rfl (li (by unfold unl jud; (first | (rw [if_pos (by omega)]; (first | (rw [if_pos (by omega)]; done) | (rw [if_neg (by omega)]; done))) | (rw [if_neg (by omega), if_pos (by omega)]; (first | done | exact Int.neg_mul_neg _ _)) | (rw [if_neg (by omega), if_neg (by omega), if_pos (by omega)]; (first | (rw [if_pos (by omega), if_pos (by omega)]; done) | (rw [if_pos (by omega), if_neg (by omega)]; done) | (rw [if_neg (by omega), if_pos (by omega)]; done) | (rw [if_neg (by omega), if_neg (by omega)]; done) | (split <;> split <;> omega))) | (rw [if_neg (by omega), if_neg (by omega), if_neg (by omega)]; (first | (rw [if_pos (by omega)]; done) | (rw [if_neg (by omega)]; done))))))
      · refine E_tgt (t := 34) (by rw [g5e]; rfl) ?_
        refine E_run hk 3 (j' := 37) (lv' := [(5, yi ((-(((S (7 + i)) - (S (27 + j))) - b)) % 12)), (4, yi (-(((S (7 + i)) - (S (27 + j))) - b))), (0, .ref 63), (1, yi i), (2, yi j), (3, yi b)]) (st' := [yi ((-(((S (7 + i)) - (S (27 + j))) - b)) % 12), yi 12, yi ((-(((S (7 + i)) - (S (27 + j))) - b)) % 12)]) (hp' := hp) rfl ?_
        refine Y_isub (a := 12) (b := ((-(((S (7 + i)) - (S (27 + j))) - b)) % 12)) hk rfl ?_
        refine Y_ic_ge (a := ((-(((S (7 + i)) - (S (27 + j))) - b)) % 12)) (b := (12 - ((-(((S (7 + i)) - (S (27 + j))) - b)) % 12))) (by omega) hk rfl (fun g7 => ?_) (fun g7 => ?_)
        ·
          refine E_run hk 2 (j' := 43) (lv' := [(5, yi ((-(((S (7 + i)) - (S (27 + j))) - b)) % 12)), (4, yi (-(((S (7 + i)) - (S (27 + j))) - b))), (0, .ref 63), (1, yi i), (2, yi j), (3, yi b)]) (st' := [yi ((-(((S (7 + i)) - (S (27 + j))) - b)) % 12), yi 12]) (hp' := hp) rfl ?_
          refine Y_isub (a := 12) (b := ((-(((S (7 + i)) - (S (27 + j))) - b)) % 12)) hk rfl ?_
          exact E_ret hk rfl rfl (li (by unfold unl jud; (first | (rw [if_pos (by omega)]; (first | (rw [if_pos (by omega)]; done) | (rw [if_neg (by omega)]; done))) | (rw [if_neg (by omega), if_pos (by omega)]; (first | done | exact Int.neg_mul_neg _ _)) | (rw [if_neg (by omega), if_neg (by omega), if_pos (by omega)]; (first | (rw [if_pos (by omega), if_pos (by omega)]; done) | (rw [if_pos (by omega), if_neg (by omega)]; done) | (rw [if_neg (by omega), if_pos (by omega)]; done) | (rw [if_neg (by omega), if_neg (by omega)]; done) | (split <;> split <;> omega))) | (rw [if_neg (by omega), if_neg (by omega), if_neg (by omega)]; (first | (rw [if_pos (by omega)]; done) | (rw [if_neg (by omega)]; done))))))
        ·
          refine E_run hk 2 (j' := 44) (lv' := [(5, yi ((-(((S (7 + i)) - (S (27 + j))) - b)) % 12)), (4, yi (-(((S (7 + i)) - (S (27 + j))) - b))), (0, .ref 63), (1, yi i), (2, yi j), (3, yi b)]) (st' := [yi ((-(((S (7 + i)) - (S (27 + j))) - b)) % 12)]) (hp' := hp) rfl ?_
          exact E_ret hk rfl rfl (li (by unfold unl jud; (first | (rw [if_pos (by omega)]; (first | (rw [if_pos (by omega)]; done) | (rw [if_neg (by omega)]; done))) | (rw [if_neg (by omega), if_pos (by omega)]; (first | done | exact Int.neg_mul_neg _ _)) | (rw [if_neg (by omega), if_neg (by omega), if_pos (by omega)]; (first | (rw [if_pos (by omega), if_pos (by omega)]; done) | (rw [if_pos (by omega), if_neg (by omega)]; done) | (rw [if_neg (by omega), if_pos (by omega)]; done) | (rw [if_neg (by omega), if_neg (by omega)]; done) | (split <;> split <;> omega))) | (rw [if_neg (by omega), if_neg (by omega), if_neg (by omega)]; (first | (rw [if_pos (by omega)]; done) | (rw [if_neg (by omega)]; done))))))
