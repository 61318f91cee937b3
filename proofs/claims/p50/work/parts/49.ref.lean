/-- how many of the first ones are x -/
def cnt (f : Int → Int) (x : Int) : Nat → Int
  | 0 => 0
  | k + 1 => cnt f x k + (if f (k : Int) = x then 1 else 0)
theorem cnt_s {f : Int → Int} {x i : Int} (h : 0 ≤ i) : cnt f x (i + 1).toNat = cnt f x i.toNat + (if f i = x then 1 else 0) := by
  rw [show (i + 1).toNat = i.toNat + 1 by omega]
  show cnt f x i.toNat + (if f ((i.toNat : Nat) : Int) = x then 1 else 0) = _
  rw [show ((i.toNat : Nat) : Int) = i by omega]
theorem cnt_rng (f : Int → Int) (x : Int) : ∀ n : Nat, 0 ≤ cnt f x n ∧ cnt f x n ≤ n := by
  intro n
  induction n with
  | zero => exact ⟨Int.le_refl 0, Int.le_refl 0⟩
  | succ n ih =>
    show 0 ≤ cnt f x n + (if f (n : Int) = x then 1 else 0) ∧ cnt f x n + (if f (n : Int) = x then 1 else 0) ≤ _
    split <;> omega
/-- the most that one of the first ones is met -/
def lng (f : Int → Int) (c : Nat) : Nat → Int
  | 0 => 0
  | k + 1 => if lng f c k < cnt f (k : Int) c then cnt f (k : Int) c else lng f c k
theorem lng_s {f : Int → Int} {c : Nat} {i : Int} (h : 0 ≤ i) : lng f c (i + 1).toNat = if lng f c i.toNat < cnt f i c then cnt f i c else lng f c i.toNat := by
  rw [show (i + 1).toNat = i.toNat + 1 by omega]
  show (if lng f c i.toNat < cnt f ((i.toNat : Nat) : Int) c then cnt f ((i.toNat : Nat) : Int) c else lng f c i.toNat) = _
  rw [show ((i.toNat : Nat) : Int) = i by omega]
/-- how many times, of k + 1 pairs, a note is held -/
def hld (p q : Int → Int) : Nat → Int
  | 0 => 0
  | k + 1 => hld p q k + (if p ((k : Int) + 1) = p (k : Int) ∨ q ((k : Int) + 1) = q (k : Int) then 1 else 0)
