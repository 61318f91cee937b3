section EZ
variable {d k j nL rk : Nat} {L : List xE} {hs : List xX} {lv : xL} {st : List Value} {hp : xH} {Q : xO → xH → Prop} {pc len : Nat} {ax : List Nat} {cv : Value} {a b : Int}
theorem E_tgt {t t' : Nat} (h : t' = t) (kk : Ev d k t lv st hp Q) : Ev d k t' lv st hp Q := h ▸ kk
theorem Y_sw {df lo hi : Int} {offs : Array Int} (hr : -2147483648 ≤ a ∧ a ≤ 2147483647) (hk : xtab k = (L, nL, rk, hs)) (he : L[j]? = some (pc, 0, .tableswitch df lo hi offs, len, ax, cv)) (kd : (a < lo ∨ hi < a) → Ev d k (ax.headD 0) lv st hp Q) (kk : (lo ≤ a ∧ a ≤ hi) → Ev d k (ax.getD ((a - lo).toNat + 1) 0) lv st hp Q) : Ev d k j lv (yi a :: st) hp Q := by
  have e := iN_toInt hr
  by_cases h : a < lo ∨ hi < a
  · refine E_step hk he (by decide) (by decide) (by decide) ?_ (kd h)
    show (if (iN a).toInt < lo ∨ hi < (iN a).toInt then _ else _) = _
    rw [e, if_pos h]
  · refine E_step hk he (by decide) (by decide) (by decide) ?_ (kk (by omega))
    show (if (iN a).toInt < lo ∨ hi < (iN a).toInt then _ else _) = _
    rw [e, if_neg h]
end EZ
/-- how unlike two notes are told to be, k: the judge -/
def jud (k x : Int) : Int := if k = 0 then (if x < 0 then -x else x) else if k = 1 then x * x else if k = 2 then (if (if x < 0 then -x else x) % 12 < 12 - (if x < 0 then -x else x) % 12 then (if x < 0 then -x else x) % 12 else 12 - (if x < 0 then -x else x) % 12) else if x = 0 then 0 else 1
def unl (S : Int → Int) (b i j : Int) : Int := jud (S 4) (S (7 + i) - S (27 + j) - b)
theorem jud_rng {k x : Int} (h : -72 ≤ x ∧ x ≤ 72) : 0 ≤ jud k x ∧ jud k x ≤ 5184 := by
  unfold jud
  split
  · split <;> omega
  · split
    · have h1 : 0 ≤ x * x := by
        rcases Int.le_total 0 x with h2 | h2
        · exact Int.mul_nonneg h2 h2
        · exact Int.mul_nonneg_of_nonpos_of_nonpos h2 h2
      have h3 : x * x ≤ 5184 := by
        have h4 : 0 ≤ (72 - x) * (72 + x) := Int.mul_nonneg (by omega) (by omega)
        have h5 : (72 - x) * (72 + x) = 5184 - x * x := by
          rw [Int.sub_mul, Int.mul_add, Int.mul_add]
          omega
        omega
      exact ⟨h1, h3⟩
    · split
      · split <;> split <;> omega
      · split <;> omega
