/-! The reference's small methods. -/
theorem lb1 {P : Prop} {_ : Decidable P} {hp : xH} (h : P) : yP (some (yi (b2 P))) hp (.inl (some (yi 1))) hp := ⟨by rw [b2_t h], rfl⟩
theorem lb0 {P : Prop} {_ : Decidable P} {hp : xH} (h : ¬ P) : yP (some (yi (b2 P))) hp (.inl (some (yi 0))) hp := ⟨by rw [b2_f h], rfl⟩
theorem li {a b : Int} {hp : xH} (h : a = b) : yP (some (yi b)) hp (.inl (some (yi a))) hp := ⟨by rw [h], rfl⟩
def least (a b : Int) : Int := if a < b then a else b
