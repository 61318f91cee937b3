/-! The object between the law's calls. -/
def sml (S : Int → Int) : Prop := S 0 ≤ 12 ∧ S 1 ≤ 12
def nrS (S : Int → Int) : Prop := ∀ q, ¬ (0 ≤ q ∧ q < 47) → S q = 0
/-- b: how many calls there were at the most; n saved states, told by T; S: what is now -/
def pzI (L : Nat) (F : Int → Int) (b : Int) (h : xH) (n : Int) (S T : Int → Int) : Prop :=
  (kA h 0 0 S ∧ kN h S ∧ ySv h n T ∧ kG h ∧ kP h) ∧ (xat h 25 = some (yI L F) ∧ xat h 26 = some (yO 0 (fun _ => .null))) ∧
  (63 ≤ h.1 ∧ (h.1 : Int) ≤ 63 + 6 * b ∧ (h.2.1 : Int) ≤ 4200 + 61 * b) ∧ (okS S ∧ 0 ≤ n ∧ n ≤ 6) ∧ sml S ∧ nrS S ∧ ∀ i : Nat, (i : Int) < n → sml (slc T i)
section PZ
variable {L : Nat} {F : Int → Int} {b n : Int} {h h1 : xH} {S T : Int → Int}
theorem pzI.mono (H : pzI L F b h n S T) {b2 : Int} (hb : b ≤ b2) : pzI L F b2 h n S T := by
  obtain ⟨a, c, ⟨r1, r2, r3⟩, p⟩ := H
  exact ⟨a, c, ⟨r1, by omega, by omega⟩, p⟩
theorem pzI.x28 (H : pzI L F b h n S T) : ∃ od, xat h 28 = some (.inr (8, [.ref 29, .ref 34, .ref 35, yi 0, .ref 40, yi 0, .ref 41, .ref 43, yi od, .ref 56, .ref 58])) := by
  obtain ⟨od, a, -⟩ := H.1.1
  exact ⟨od, a⟩
theorem pzI.nums (H : pzI L F b h n S T) : (0 ≤ S 0 ∧ S 0 ≤ 12 ∧ 0 ≤ S 1 ∧ S 1 ≤ 12 ∧ 0 ≤ S 2 ∧ S 2 ≤ 20 ∧ 0 ≤ S 3 ∧ S 3 ≤ 50 ∧ 0 ≤ S 4 ∧ S 4 ≤ 3) ∧ (0 ≤ n ∧ n ≤ 6) ∧ (S 5 = -1 ∨ (0 ≤ S 5 ∧ S 5 ≤ 60 ∧ 1 ≤ S 6 ∧ S 6 ≤ 2)) := by
  obtain ⟨-, -, -, ⟨⟨a, -, -, c⟩, e⟩, ⟨s0, s1⟩, -⟩ := H
  exact ⟨⟨a.1, s0, a.2.2.1, s1, a.2.2.2.2⟩, e, c⟩
theorem pzI.go {K : List Nat} (H : pzI L F b h n S T) (f : yfz K h h1) (hK : ∀ i ∈ K, i = 28 ∨ (43 ≤ i ∧ i ≤ 62)) (G : kA h1 0 0 S ∧ kG h1 ∧ kP h1) : pzI L F (b + 1) h1 n S T := by
  obtain ⟨⟨a1, a2, a3, a4, a5⟩, ⟨c1, c2⟩, ⟨r1, r2, r3⟩, p⟩ := H
  have e : ∀ i, i < 63 → ¬ (i = 28 ∨ (43 ≤ i ∧ i ≤ 62)) → xat h1 i = xat h i := fun i i1 i2 => f.2.2.2.1 i i1 (fun q => i2 (hK i q))
  have f1 := f.1
  have f2 := f.2.1
  have f3 := f.2.2.1
  refine ⟨⟨G.1, a2.eq (fun i q1 q2 => e i (by omega) (by omega)), a3.mono r1 f1 (fun i q1 q2 => ?_), G.2.1, G.2.2⟩, ⟨(e 25 (by decide) (by decide)).trans c1, (e 26 (by decide) (by decide)).trans c2⟩, ⟨by omega, by omega, by omega⟩, p⟩
  by_cases i6 : 63 ≤ i
  · exact f.2.2.2.2 (fun q => by have := hK _ q; omega) i i6 q2 (fun q => by have := hK i q; omega)
  · exact e i (by omega) (by omega)
theorem pzI.gA (H : pzI L F b h n S T) (f : yfz [] h h1) : pzI L F (b + 1) h1 n S T := by
  have e : ∀ i, i < 63 → xat h1 i = xat h i := fun i i1 => f.2.2.2.1 i i1 (fun q => nomatch q)
  exact H.go f (fun i hi => nomatch hi) ⟨H.1.1.eq (fun i q => e i (by omega)), H.1.2.2.2.1.eq (fun i q1 q2 => e i (by omega)), H.1.2.2.2.2.eq (fun i q1 q2 => e i (by omega))⟩
def fK : List Nat := [28, 43, 45, 47, 49, 51, 52, 53, 54, 55]
theorem fK_in {i : Nat} (h : i ∈ fK) : i = 28 ∨ (43 ≤ i ∧ i ≤ 55) := by
  unfold fK at h
  simp only [List.mem_cons, List.not_mem_nil, or_false] at h
  omega
theorem pzI.gB (H : pzI L F b h n S T) (a : kA h1 0 0 S) (f : yfz fK h h1) : pzI L F (b + 1) h1 n S T := by
  have e : ∀ i, 56 ≤ i → i < 63 → xat h1 i = xat h i := fun i i0 i1 => f.2.2.2.1 i i1 (fun q => by have := fK_in q; omega)
  exact H.go f (fun i hi => by have := fK_in hi; omega) ⟨a, H.1.2.2.2.1.eq (fun i q1 q2 => e i (by omega) (by omega)), H.1.2.2.2.2.eq (fun i q1 q2 => e i (by omega) (by omega))⟩
theorem pzI.gC (H : pzI L F b h n S T) (a : ∃ u, xat h1 57 = some (yI 400 u)) (f : yfz [57] h h1) : pzI L F (b + 1) h1 n S T := by
  have e : ∀ i, i < 63 → i ≠ 57 → xat h1 i = xat h i := fun i i1 i2 => f.2.2.2.1 i i1 (by simp only [List.mem_cons, List.not_mem_nil, or_false]; exact i2)
  exact H.go f (fun i hi => by simp only [List.mem_cons, List.not_mem_nil, or_false] at hi; omega) ⟨H.1.1.eq (fun i q => e i (by omega) (by omega)), ⟨(e 56 (by decide) (by decide)).trans H.1.2.2.2.1.1, a⟩, H.1.2.2.2.2.eq (fun i q1 q2 => e i (by omega) (by omega))⟩
theorem pzI.gD (H : pzI L F b h n S T) (a1 : ∃ la fi ls lb lt, xat h1 58 = some (.inr (4, [.ref 59, .ref 61, yi la, yi fi, yi ls, yi lb, yi lt]))) (a2 : ∃ u, xat h1 60 = some (yI 400 u)) (a3 : ∃ u, xat h1 62 = some (yI 400 u)) (f : yfz [58, 60, 62] h h1) : pzI L F (b + 1) h1 n S T := by
  have e : ∀ i, i < 63 → i ≠ 58 → i ≠ 60 → i ≠ 62 → xat h1 i = xat h i := fun i i1 i2 i3 i4 => f.2.2.2.1 i i1 (by simp only [List.mem_cons, List.not_mem_nil, or_false, not_or]; exact ⟨i2, i3, i4⟩)
  exact H.go f (fun i hi => by simp only [List.mem_cons, List.not_mem_nil, or_false] at hi; omega) ⟨H.1.1.eq (fun i q => e i (by omega) (by omega) (by omega) (by omega)), H.1.2.2.2.1.eq (fun i q1 q2 => e i (by omega) (by omega) (by omega) (by omega)), ⟨a1, (e 59 (by decide) (by decide) (by decide) (by decide)).trans H.1.2.2.2.2.2.1, (e 61 (by decide) (by decide) (by decide) (by decide)).trans H.1.2.2.2.2.2.2.1, a2, a3⟩⟩
end PZ
