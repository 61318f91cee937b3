/-- the cost of the best match if the tune 1 were shifted by b and the bound were u; 100000000: none -/
def cst (S : Int → Int) (b u : Int) : Int := if S 0 = 0 ∨ S 1 = 0 then 100000000 else fw (unl S b) (S 3) u (S 0 - 1) (S 1 - 1)
theorem cst_rng {S : Int → Int} {b u : Int} (hz : 0 ≤ S 0 ∧ S 0 ≤ 20 ∧ 0 ≤ S 1 ∧ S 1 ≤ 20 ∧ 0 ≤ S 2 ∧ S 2 ≤ 20 ∧ 0 ≤ S 3 ∧ S 3 ≤ 50 ∧ 0 ≤ S 4 ∧ S 4 ≤ 3) (h0 : ∀ q, 0 ≤ q → q < S 0 → 0 ≤ S (7 + q) ∧ S (7 + q) ≤ 60) (h1 : ∀ q, 0 ≤ q → q < S 1 → 0 ≤ S (27 + q) ∧ S (27 + q) ≤ 60) (hb : -12 ≤ b ∧ b ≤ 12) : 0 ≤ cst S b u ∧ cst S b u ≤ 100000000 := by
  unfold cst
  split
  · decide
  · have h := fw_rng (w := S 3) (b := u) (m := S 0) (n := S 1) (D := unl S b) (by omega) (fun i j a1 a2 a3 a4 => unl_rng hz h0 h1 hb a1 a2 a3 a4) _ (S 0 - 1) (S 1 - 1) (by omega) (by omega) rfl
    omega
def sh1 (F : Int → Int) (s : Int × Int) (x : Int) : Int × Int := if F x < s.2 then (x, F x) else s
/-- the best shift of those no farther than n, and its cost -/
def shb (F : Int → Int) : Nat → Int × Int
  | 0 => (0, F 0)
  | k + 1 => sh1 F (sh1 F (shb F k) ((k : Int) + 1)) (-((k : Int) + 1))
theorem shb_s {F : Int → Int} {i : Int} (h : 1 ≤ i) : shb F (i + 1 - 1).toNat = sh1 F (sh1 F (shb F (i - 1).toNat) i) (-i) := by
  rw [show (i + 1 - 1).toNat = (i - 1).toNat + 1 by omega]
  show sh1 F (sh1 F (shb F (i - 1).toNat) (((i - 1).toNat : Int) + 1)) (-(((i - 1).toNat : Int) + 1)) = _
  rw [show (((i - 1).toNat : Nat) : Int) = i - 1 by omega, show i - 1 + 1 = i by omega]
theorem sh1_t {F : Int → Int} {s : Int × Int} {x : Int} (h : F x < s.2) : sh1 F s x = (x, F x) := if_pos h
theorem sh1_f {F : Int → Int} {s : Int × Int} {x : Int} (h : ¬ F x < s.2) : sh1 F s x = s := if_neg h
