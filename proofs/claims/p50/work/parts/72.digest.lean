/-! The reference's digest. -/
def hc1 (S : Int → Int) (c e n : Int) (h : Int64) : Int64 := if 0 < S 0 ∧ 0 < S 1 ∧ -S 2 ≤ S 0 - S 1 ∧ S 0 - S 1 ≤ S 2 then hx (hx (hx (hx (hx (hx (hx h (cst S 0 (S 2))) (cst S 0 (S 2))) c) e) (if 0 < S 0 ∧ 0 < S 1 ∧ -S 2 ≤ S 0 - S 1 ∧ S 0 - S 1 ≤ S 2 then wy (unl S 0) (S 3) (S 2) (S 0) (S 1) 0 0 else 0)) (shb (fun x => cst S x (S 2)) 12).1) n else h
def hc2 (S : Int → Int) (h : Int64) : Int64 := if S 0 = 0 ∨ S 1 = 0 then h else hx (hx (hx h (pc (unl S 0) (S 3) (S 0 - 1) (pend S))) (pb (unl S 0) (S 3) (S 0 - 1) (pend S))) (pend S)
