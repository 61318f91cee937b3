/-! The law: its beginning. -/
def scr (xs : Nat → Int32) : Int → Int := fun q => (xs q.toNat).toInt
theorem scr_25 (L : Nat) (xs : Nat → Int32) : xcst L xs 25 = some (yI L (scr xs)) := by
  show some (Sum.inl (FieldType.int, L, fun j => Value.int (xs j))) = some (Sum.inl (FieldType.int, L, fun q : Nat => yi (scr xs (q : Int))))
  congr 4
  funext j
  show Value.int (xs j) = Value.int (iN (xs ((j : Int).toNat)).toInt)
  rw [iN_of, Int.toNat_natCast]
