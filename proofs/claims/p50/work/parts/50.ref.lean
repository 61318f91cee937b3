theorem mtc_rng {S p q : Int → Int} {c : Int} (h : mtc S c p q) (hm : S 0 ≤ 20 ∧ S 1 ≤ 20) : 0 ≤ c ∧ c ≤ 39 ∧ ∀ y, 0 ≤ y → y < c → 0 ≤ p y ∧ p y ≤ 20 ∧ 0 ≤ q y ∧ q y ≤ 20 := by
  rcases h with ⟨-, h⟩ | ⟨-, h1, h2, -, h3⟩
  · exact ⟨by omega, by omega, fun y y1 y2 => absurd y1 (by omega)⟩
  · refine ⟨by omega, h2, fun y y1 y2 => ?_⟩
    have := h3 y y1 y2
    omega
