/-- the state S recorded behind the n states of T -/
def recd (n : Int) (S T U : Int → Int) : Prop := (∀ q, 0 ≤ q → q < 47 → U (47 * (if n = 6 then 5 else n) + q) = S q) ∧ (∀ q, 0 ≤ q → q < 47 * (if n = 6 then 5 else n) → U q = T (if n = 6 then q + 47 else q))
