/-! The questions, asked of the object between the calls. -/
/-- the tune's side of the pairs -/
def sl (p q : Int → Int) (t : Int) : Int → Int := if t = 0 then p else q
theorem sl_uni {S p q p' q' : Int → Int} {c c' : Int} (h : mtc S c p q) (h' : mtc S c' p' q') (t : Int) : c' = c ∧ ∀ y, 0 ≤ y → y < c → (if t = 0 then p' else q') y = sl p q t y := by
  obtain ⟨e, w⟩ := mtc_uni h h'
  refine ⟨e.symm, fun y y1 y2 => ?_⟩
  obtain ⟨w1, w2⟩ := w y y1 y2
  unfold sl
  split
  · exact w1.symm
  · exact w2.symm
theorem lng_cong {f g : Int → Int} {c : Nat} (h : ∀ y : Int, 0 ≤ y → y < c → f y = g y) : ∀ n : Nat, lng f c n = lng g c n := by
  intro n
  induction n with
  | zero => rfl
  | succ n ih =>
    show (if lng f c n < cnt f (n : Int) c then cnt f (n : Int) c else lng f c n) = (if lng g c n < cnt g (n : Int) c then cnt g (n : Int) c else lng g c n)
    rw [ih, cnt_cong c h]
section PQ
variable {L : Nat} {F : Int → Int} {b n : Int} {h : xH} {S T : Int → Int} {d : Nat}
theorem p_notes {x : Int} (H : pzI L F b h n S T) (hx : 0 ≤ x ∧ x ≤ 1) (hd : 6 ≤ d) : Cv d 64 [.ref 28, yi x] h (yE (fun z h1 => z = S (0 + x) ∧ pzI L F (b + 1) h1 n S T)) := by
  have H0 := H
  obtain ⟨⟨⟨od, a28, aM⟩, ⟨zz, oo, f9, g9, r9, t9, aS, ast⟩, ⟨mc, e0, F9, bs, a34, -⟩, ⟨a56, Tr, a57⟩, ⟨⟨la, fi, ls, lb, lt, a58⟩, a59, a61, ⟨K9, a60⟩, L9, a62⟩⟩, -, -, ⟨⟨az, ah0, ah1, ar⟩, -⟩, -⟩ := H0
  refine Ev.imp (c_X8_notes a28 aS (x := x) (by omega) (hd := by omega)) (fun o1 h1 w => ?_)
  rcases w with ⟨z, w0, w1⟩ | ⟨E, w0, w1⟩
  · obtain ⟨w2, w3⟩ := w1
    refine ⟨z, w0, ?_, H.gA w3⟩
    rcases w2 with ⟨-, -, w4⟩ | ⟨w4, -⟩
    · exact w4
    · cases w4
  · obtain ⟨w2, w3⟩ := w1
    rcases w2 with ⟨w4, -⟩ | ⟨-, w4⟩
    · cases w4
    · exact absurd (hx) (w4)
theorem p_pitch {x k : Int} (H : pzI L F b h n S T) (hx : 0 ≤ x ∧ x ≤ 1 ∧ 0 ≤ k ∧ k < S (0 + x)) (hd : 6 ≤ d) : Cv d 65 [.ref 28, yi x, yi k] h (yE (fun z h1 => z = S (7 + 20 * x + k) ∧ pzI L F (b + 1) h1 n S T)) := by
  have H0 := H
  obtain ⟨⟨⟨od, a28, aM⟩, ⟨zz, oo, f9, g9, r9, t9, aS, ast⟩, ⟨mc, e0, F9, bs, a34, -⟩, ⟨a56, Tr, a57⟩, ⟨⟨la, fi, ls, lb, lt, a58⟩, a59, a61, ⟨K9, a60⟩, L9, a62⟩⟩, -, -, ⟨⟨az, ah0, ah1, ar⟩, -⟩, -⟩ := H0
  refine Ev.imp (c_X8_pitch a28 aS ⟨az.1, az.2.1, az.2.2.1, az.2.2.2.1⟩ (x := x) (k := k) (by rcases (by omega : x = 0 ∨ x = 1) with e | e <;> rw [e] at hx <;> simp only [Int.add_zero, Int.zero_add] at hx <;> omega) (hd := by omega)) (fun o1 h1 w => ?_)
  rcases w with ⟨z, w0, w1⟩ | ⟨E, w0, w1⟩
  · obtain ⟨w2, w3⟩ := w1
    refine ⟨z, w0, ?_, H.gA w3⟩
    rcases w2 with ⟨-, -, w4⟩ | ⟨w4, -⟩
    · exact w4
    · cases w4
  · obtain ⟨w2, w3⟩ := w1
    rcases w2 with ⟨w4, -⟩ | ⟨-, w4⟩
    · cases w4
    · exact absurd (hx) (w4)
theorem p_bound (H : pzI L F b h n S T) (hd : 6 ≤ d) : Cv d 66 [.ref 28] h (yE (fun z h1 => z = S 2 ∧ pzI L F (b + 1) h1 n S T)) := by
  have H0 := H
  obtain ⟨⟨⟨od, a28, aM⟩, ⟨zz, oo, f9, g9, r9, t9, aS, ast⟩, ⟨mc, e0, F9, bs, a34, -⟩, ⟨a56, Tr, a57⟩, ⟨⟨la, fi, ls, lb, lt, a58⟩, a59, a61, ⟨K9, a60⟩, L9, a62⟩⟩, -, -, ⟨⟨az, ah0, ah1, ar⟩, -⟩, -⟩ := H0
  refine Ev.imp (c_X8_bound a28 aS) (fun o1 h1 w => ?_)
  rcases w with ⟨z, w0, w1⟩ | ⟨E, w0, w1⟩
  · obtain ⟨w2, w3⟩ := w1
    refine ⟨z, w0, ?_, H.gA w3⟩
    obtain ⟨-, -, w4⟩ := w2
    exact w4
  · obtain ⟨w2, w3⟩ := w1
    obtain ⟨w4, -⟩ := w2
    cases w4
theorem p_hold (H : pzI L F b h n S T) (hd : 6 ≤ d) : Cv d 67 [.ref 28] h (yE (fun z h1 => z = S 3 ∧ pzI L F (b + 1) h1 n S T)) := by
  have H0 := H
  obtain ⟨⟨⟨od, a28, aM⟩, ⟨zz, oo, f9, g9, r9, t9, aS, ast⟩, ⟨mc, e0, F9, bs, a34, -⟩, ⟨a56, Tr, a57⟩, ⟨⟨la, fi, ls, lb, lt, a58⟩, a59, a61, ⟨K9, a60⟩, L9, a62⟩⟩, -, -, ⟨⟨az, ah0, ah1, ar⟩, -⟩, -⟩ := H0
  refine Ev.imp (c_X8_hold a28 aS) (fun o1 h1 w => ?_)
  rcases w with ⟨z, w0, w1⟩ | ⟨E, w0, w1⟩
  · obtain ⟨w2, w3⟩ := w1
    refine ⟨z, w0, ?_, H.gA w3⟩
    obtain ⟨-, -, w4⟩ := w2
    exact w4
  · obtain ⟨w2, w3⟩ := w1
    obtain ⟨w4, -⟩ := w2
    cases w4
theorem p_judge (H : pzI L F b h n S T) (hd : 6 ≤ d) : Cv d 68 [.ref 28] h (yE (fun z h1 => z = S 4 ∧ pzI L F (b + 1) h1 n S T)) := by
  have H0 := H
  obtain ⟨⟨⟨od, a28, aM⟩, ⟨zz, oo, f9, g9, r9, t9, aS, ast⟩, ⟨mc, e0, F9, bs, a34, -⟩, ⟨a56, Tr, a57⟩, ⟨⟨la, fi, ls, lb, lt, a58⟩, a59, a61, ⟨K9, a60⟩, L9, a62⟩⟩, -, -, ⟨⟨az, ah0, ah1, ar⟩, -⟩, -⟩ := H0
  refine Ev.imp (c_X8_judge a28 aS) (fun o1 h1 w => ?_)
  rcases w with ⟨z, w0, w1⟩ | ⟨E, w0, w1⟩
  · obtain ⟨w2, w3⟩ := w1
    refine ⟨z, w0, ?_, H.gA w3⟩
    obtain ⟨-, -, w4⟩ := w2
    exact w4
  · obtain ⟨w2, w3⟩ := w1
    obtain ⟨w4, -⟩ := w2
    cases w4
theorem p_unlike {i j : Int} (H : pzI L F b h n S T) (hij : 0 ≤ i ∧ i < S 0 ∧ 0 ≤ j ∧ j < S 1) (hd : 6 ≤ d) : Cv d 69 [.ref 28, yi i, yi j] h (yE (fun z h1 => z = unl S 0 i j ∧ pzI L F (b + 1) h1 n S T)) := by
  have H0 := H
  obtain ⟨⟨⟨od, a28, aM⟩, ⟨zz, oo, f9, g9, r9, t9, aS, ast⟩, ⟨mc, e0, F9, bs, a34, -⟩, ⟨a56, Tr, a57⟩, ⟨⟨la, fi, ls, lb, lt, a58⟩, a59, a61, ⟨K9, a60⟩, L9, a62⟩⟩, -, -, ⟨⟨az, ah0, ah1, ar⟩, -⟩, -⟩ := H0
  refine Ev.imp (c_X8_unlike a28 aS az ah0 ah1 (i := i) (j := j) (by omega) (hd := by omega)) (fun o1 h1 w => ?_)
  rcases w with ⟨z, w0, w1⟩ | ⟨E, w0, w1⟩
  · obtain ⟨w2, w3⟩ := w1
    refine ⟨z, w0, ?_, H.gA w3⟩
    rcases w2 with ⟨-, -, w4⟩ | ⟨w4, -⟩
    · exact w4
    · cases w4
  · obtain ⟨w2, w3⟩ := w1
    rcases w2 with ⟨w4, -⟩ | ⟨-, w4⟩
    · cases w4
    · exact absurd (hij) (w4)
theorem p_isMatched (H : pzI L F b h n S T) (hd : 6 ≤ d) : Cv d 70 [.ref 28] h (yE (fun z h1 => z = b2 (0 < S 0 ∧ 0 < S 1 ∧ -S 2 ≤ S 0 - S 1 ∧ S 0 - S 1 ≤ S 2) ∧ pzI L F (b + 1) h1 n S T)) := by
  have H0 := H
  obtain ⟨⟨⟨od, a28, aM⟩, ⟨zz, oo, f9, g9, r9, t9, aS, ast⟩, ⟨mc, e0, F9, bs, a34, -⟩, ⟨a56, Tr, a57⟩, ⟨⟨la, fi, ls, lb, lt, a58⟩, a59, a61, ⟨K9, a60⟩, L9, a62⟩⟩, -, -, ⟨⟨az, ah0, ah1, ar⟩, -⟩, -⟩ := H0
  refine Ev.imp (c_X8_isMatched a28 aS ⟨az.1, az.2.1, az.2.2.1, az.2.2.2.1⟩ ⟨az.2.2.2.2.1, az.2.2.2.2.2.1⟩ (hd := by omega)) (fun o1 h1 w => ?_)
  rcases w with ⟨z, w0, w1⟩ | ⟨E, w0, w1⟩
  · obtain ⟨w2, w3⟩ := w1
    refine ⟨z, w0, ?_, H.gA w3⟩
    obtain ⟨-, -, w4⟩ := w2
    exact w4
  · obtain ⟨w2, w3⟩ := w1
    obtain ⟨w4, -⟩ := w2
    cases w4
theorem p_hasStopped (H : pzI L F b h n S T) (hd : 6 ≤ d) : Cv d 59 [.ref 28] h (yE (fun z h1 => z = b2 (¬ S 5 = -1) ∧ pzI L F (b + 1) h1 n S T)) := by
  have H0 := H
  obtain ⟨⟨⟨od, a28, aM⟩, ⟨zz, oo, f9, g9, r9, t9, aS, ast⟩, ⟨mc, e0, F9, bs, a34, -⟩, ⟨a56, Tr, a57⟩, ⟨⟨la, fi, ls, lb, lt, a58⟩, a59, a61, ⟨K9, a60⟩, L9, a62⟩⟩, -, -, ⟨⟨az, ah0, ah1, ar⟩, -⟩, -⟩ := H0
  refine Ev.imp (c_X8_hasStopped a28 aS ast) (fun o1 h1 w => ?_)
  rcases w with ⟨z, w0, w1⟩ | ⟨E, w0, w1⟩
  · obtain ⟨w2, w3⟩ := w1
    refine ⟨z, w0, ?_, H.gA w3⟩
    obtain ⟨-, -, w4⟩ := w2
    exact w4
  · obtain ⟨w2, w3⟩ := w1
    obtain ⟨w4, -⟩ := w2
    cases w4
theorem p_stoppedPart (H : pzI L F b h n S T) (hs : ¬ S 5 = -1) (hd : 6 ≤ d) : Cv d 60 [.ref 28] h (yE (fun z h1 => z = S 5 ∧ pzI L F (b + 1) h1 n S T)) := by
  have H0 := H
  obtain ⟨⟨⟨od, a28, aM⟩, ⟨zz, oo, f9, g9, r9, t9, aS, ast⟩, ⟨mc, e0, F9, bs, a34, -⟩, ⟨a56, Tr, a57⟩, ⟨⟨la, fi, ls, lb, lt, a58⟩, a59, a61, ⟨K9, a60⟩, L9, a62⟩⟩, -, -, ⟨⟨az, ah0, ah1, ar⟩, -⟩, -⟩ := H0
  refine Ev.imp (c_X8_stoppedPart a28 aS ast (hd := by omega)) (fun o1 h1 w => ?_)
  rcases w with ⟨z, w0, w1⟩ | ⟨E, w0, w1⟩
  · obtain ⟨w2, w3⟩ := w1
    refine ⟨z, w0, ?_, H.gA w3⟩
    rcases w2 with ⟨-, -, w4⟩ | ⟨w4, -⟩
    · exact w4
    · cases w4
  · obtain ⟨w2, w3⟩ := w1
    rcases w2 with ⟨w4, -⟩ | ⟨-, w4⟩
    · cases w4
    · exact absurd w4 hs
theorem p_whyStopped (H : pzI L F b h n S T) (hs : ¬ S 5 = -1) (hd : 6 ≤ d) : Cv d 61 [.ref 28] h (yE (fun z h1 => z = S 6 ∧ pzI L F (b + 1) h1 n S T)) := by
  have H0 := H
  obtain ⟨⟨⟨od, a28, aM⟩, ⟨zz, oo, f9, g9, r9, t9, aS, ast⟩, ⟨mc, e0, F9, bs, a34, -⟩, ⟨a56, Tr, a57⟩, ⟨⟨la, fi, ls, lb, lt, a58⟩, a59, a61, ⟨K9, a60⟩, L9, a62⟩⟩, -, -, ⟨⟨az, ah0, ah1, ar⟩, -⟩, -⟩ := H0
  refine Ev.imp (c_X8_whyStopped a28 aS ast (hd := by omega)) (fun o1 h1 w => ?_)
  rcases w with ⟨z, w0, w1⟩ | ⟨E, w0, w1⟩
  · obtain ⟨w2, w3⟩ := w1
    refine ⟨z, w0, ?_, H.gA w3⟩
    rcases w2 with ⟨-, -, w4⟩ | ⟨w4, -⟩
    · exact w4
    · cases w4
  · obtain ⟨w2, w3⟩ := w1
    rcases w2 with ⟨w4, -⟩ | ⟨-, w4⟩
    · cases w4
    · exact absurd w4 hs
theorem p_savedStates (H : pzI L F b h n S T) (hd : 6 ≤ d) : Cv d 63 [.ref 28] h (yE (fun z h1 => z = n ∧ pzI L F (b + 1) h1 n S T)) := by
  have H0 := H
  obtain ⟨⟨⟨od, a28, aM⟩, ⟨zz, oo, f9, g9, r9, t9, aS, ast⟩, ⟨mc, e0, F9, bs, a34, -⟩, ⟨a56, Tr, a57⟩, ⟨⟨la, fi, ls, lb, lt, a58⟩, a59, a61, ⟨K9, a60⟩, L9, a62⟩⟩, -, -, ⟨⟨az, ah0, ah1, ar⟩, -⟩, -⟩ := H0
  refine Ev.imp (c_X8_savedStates a28 aS a34 (hd := by omega)) (fun o1 h1 w => ?_)
  rcases w with ⟨z, w0, w1⟩ | ⟨E, w0, w1⟩
  · obtain ⟨w2, w3⟩ := w1
    refine ⟨z, w0, ?_, H.gA w3⟩
    obtain ⟨-, -, w4⟩ := w2
    exact w4
  · obtain ⟨w2, w3⟩ := w1
    obtain ⟨w4, -⟩ := w2
    cases w4
theorem p_cost (H : pzI L F b h n S T) (hm : 0 < S 0 ∧ 0 < S 1 ∧ -S 2 ≤ S 0 - S 1 ∧ S 0 - S 1 ≤ S 2) (hd : 6 ≤ d) : Cv d 71 [.ref 28] h (yE (fun z h1 => z = cst S 0 (S 2) ∧ pzI L F (b + 1) h1 n S T)) := by
  have H0 := H
  obtain ⟨⟨⟨od, a28, aM⟩, ⟨zz, oo, f9, g9, r9, t9, aS, ast⟩, ⟨mc, e0, F9, bs, a34, -⟩, ⟨a56, Tr, a57⟩, ⟨⟨la, fi, ls, lb, lt, a58⟩, a59, a61, ⟨K9, a60⟩, L9, a62⟩⟩, -, -, ⟨⟨az, ah0, ah1, ar⟩, -⟩, -⟩ := H0
  refine Ev.imp (c_X8_cost a28 aM aS az ah0 ah1 (hd := by omega)) (fun o1 h1 w => ?_)
  rcases w with ⟨z, w0, w1⟩ | ⟨E, w0, w1⟩
  · obtain ⟨w2, w5, w3⟩ := w1
    refine ⟨z, w0, ?_, H.gB w5 w3⟩
    rcases w2 with ⟨-, -, w4⟩ | ⟨w4, -⟩
    · exact w4
    · cases w4
  · obtain ⟨w2, w5, w3⟩ := w1
    rcases w2 with ⟨w4, -⟩ | ⟨-, w4⟩
    · cases w4
    · exact absurd (hm) (w4)
theorem p_costFromEnd (H : pzI L F b h n S T) (hm : 0 < S 0 ∧ 0 < S 1 ∧ -S 2 ≤ S 0 - S 1 ∧ S 0 - S 1 ≤ S 2) (hd : 6 ≤ d) : Cv d 72 [.ref 28] h (yE (fun z h1 => z = bwS S 0 0 ∧ pzI L F (b + 1) h1 n S T)) := by
  have H0 := H
  obtain ⟨⟨⟨od, a28, aM⟩, ⟨zz, oo, f9, g9, r9, t9, aS, ast⟩, ⟨mc, e0, F9, bs, a34, -⟩, ⟨a56, Tr, a57⟩, ⟨⟨la, fi, ls, lb, lt, a58⟩, a59, a61, ⟨K9, a60⟩, L9, a62⟩⟩, -, -, ⟨⟨az, ah0, ah1, ar⟩, -⟩, -⟩ := H0
  refine Ev.imp (c_X8_costFromEnd a28 aM aS az ah0 ah1 (hd := by omega)) (fun o1 h1 w => ?_)
  rcases w with ⟨z, w0, w1⟩ | ⟨E, w0, w1⟩
  · obtain ⟨w2, w5, w3⟩ := w1
    refine ⟨z, w0, ?_, H.gB w5 w3⟩
    rcases w2 with ⟨-, -, w4⟩ | ⟨w4, -⟩
    · exact w4
    · cases w4
  · obtain ⟨w2, w5, w3⟩ := w1
    rcases w2 with ⟨w4, -⟩ | ⟨-, w4⟩
    · cases w4
    · exact absurd (hm) (w4)
theorem p_costTo {i j : Int} (H : pzI L F b h n S T) (hij : 0 ≤ i ∧ i < S 0 ∧ 0 ≤ j ∧ j < S 1) (hd : 6 ≤ d) : Cv d 73 [.ref 28, yi i, yi j] h (yE (fun z h1 => z = orn (fw (unl S 0) (S 3) (S 2) i j) ∧ pzI L F (b + 1) h1 n S T)) := by
  have H0 := H
  obtain ⟨⟨⟨od, a28, aM⟩, ⟨zz, oo, f9, g9, r9, t9, aS, ast⟩, ⟨mc, e0, F9, bs, a34, -⟩, ⟨a56, Tr, a57⟩, ⟨⟨la, fi, ls, lb, lt, a58⟩, a59, a61, ⟨K9, a60⟩, L9, a62⟩⟩, -, -, ⟨⟨az, ah0, ah1, ar⟩, -⟩, -⟩ := H0
  refine Ev.imp (c_X8_costTo a28 aM aS az ah0 ah1 (i := i) (j := j) (by omega) (hd := by omega)) (fun o1 h1 w => ?_)
  rcases w with ⟨z, w0, w1⟩ | ⟨E, w0, w1⟩
  · obtain ⟨w2, w5, w3⟩ := w1
    refine ⟨z, w0, ?_, H.gB w5 w3⟩
    rcases w2 with ⟨-, -, w4⟩ | ⟨w4, -⟩
    · exact w4
    · cases w4
  · obtain ⟨w2, w5, w3⟩ := w1
    rcases w2 with ⟨w4, -⟩ | ⟨-, w4⟩
    · cases w4
    · exact absurd (hij) (w4)
theorem p_pairs (H : pzI L F b h n S T) (hm : 0 < S 0 ∧ 0 < S 1 ∧ -S 2 ≤ S 0 - S 1 ∧ S 0 - S 1 ≤ S 2) (hd : 6 ≤ d) : Cv d 74 [.ref 28] h (yE (fun z h1 => (∃ p q, mtc S z p q) ∧ pzI L F (b + 1) h1 n S T)) := by
  have H0 := H
  obtain ⟨⟨⟨od, a28, aM⟩, ⟨zz, oo, f9, g9, r9, t9, aS, ast⟩, ⟨mc, e0, F9, bs, a34, -⟩, ⟨a56, Tr, a57⟩, ⟨⟨la, fi, ls, lb, lt, a58⟩, a59, a61, ⟨K9, a60⟩, L9, a62⟩⟩, -, -, ⟨⟨az, ah0, ah1, ar⟩, -⟩, -⟩ := H0
  refine Ev.imp (c_X8_pairs a28 aM aS az ah0 ah1 (hd := by omega)) (fun o1 h1 w => ?_)
  rcases w with ⟨z, w0, w2, w5, w3⟩ | ⟨E, w0, w2, w5, w3⟩
  · refine ⟨z, w0, ?_, H.gB w5 w3⟩
    rcases w2 with ⟨-, -, -, -, -, w4⟩ | ⟨w4, -⟩
    · exact w4
    · cases w4
  · rcases w2 with ⟨w4, -⟩ | ⟨-, w4⟩
    · cases w4
    · exact absurd hm w4
theorem p_nop0 {p q : Int → Int} {c : Int} {x : Int} (H : pzI L F b h n S T) (hq : mtc S c p q) (hx : 0 ≤ x ∧ x < c ∧ c ≤ 39) (hd : 6 ≤ d) : Cv d 75 [.ref 28, yi 0, yi x] h (yE (fun z h1 => z = p x ∧ pzI L F (b + 1) h1 n S T)) := by
  have H0 := H
  obtain ⟨⟨⟨od, a28, aM⟩, ⟨zz, oo, f9, g9, r9, t9, aS, ast⟩, ⟨mc, e0, F9, bs, a34, -⟩, ⟨a56, Tr, a57⟩, ⟨⟨la, fi, ls, lb, lt, a58⟩, a59, a61, ⟨K9, a60⟩, L9, a62⟩⟩, -, -, ⟨⟨az, ah0, ah1, ar⟩, -⟩, -⟩ := H0
  refine Ev.imp (c_X8_noteOfPair a28 aM aS az ah0 ah1 (t1 := 0) (x := x) (by omega) (hd := by omega)) (fun o1 h1 w => ?_)
  rcases w with ⟨z, w0, w2, w5, w3⟩ | ⟨E, w0, w2, w5, w3⟩
  · refine ⟨z, w0, ?_, H.gB w5 w3⟩
    rcases w2 with ⟨-, -, -, -, k9, p9, q9, v1, v2, v3⟩ | ⟨w4, -⟩ | ⟨w4, -⟩
    · obtain ⟨-, e⟩ := sl_uni hq v1 0
      exact v3.trans (e x hx.1 hx.2.1)
    · cases w4
    · cases w4
  · rcases w2 with ⟨w4, -⟩ | ⟨-, w4⟩ | ⟨-, k9, p9, q9, v1, v2⟩
    · cases w4
    · exact absurd (by decide) w4
    · obtain ⟨e, -⟩ := mtc_uni hq v1
      exact absurd ⟨hx.1, by omega⟩ v2
theorem p_nop1 {p q : Int → Int} {c : Int} {x : Int} (H : pzI L F b h n S T) (hq : mtc S c p q) (hx : 0 ≤ x ∧ x < c ∧ c ≤ 39) (hd : 6 ≤ d) : Cv d 75 [.ref 28, yi 1, yi x] h (yE (fun z h1 => z = q x ∧ pzI L F (b + 1) h1 n S T)) := by
  have H0 := H
  obtain ⟨⟨⟨od, a28, aM⟩, ⟨zz, oo, f9, g9, r9, t9, aS, ast⟩, ⟨mc, e0, F9, bs, a34, -⟩, ⟨a56, Tr, a57⟩, ⟨⟨la, fi, ls, lb, lt, a58⟩, a59, a61, ⟨K9, a60⟩, L9, a62⟩⟩, -, -, ⟨⟨az, ah0, ah1, ar⟩, -⟩, -⟩ := H0
  refine Ev.imp (c_X8_noteOfPair a28 aM aS az ah0 ah1 (t1 := 1) (x := x) (by omega) (hd := by omega)) (fun o1 h1 w => ?_)
  rcases w with ⟨z, w0, w2, w5, w3⟩ | ⟨E, w0, w2, w5, w3⟩
  · refine ⟨z, w0, ?_, H.gB w5 w3⟩
    rcases w2 with ⟨-, -, -, -, k9, p9, q9, v1, v2, v3⟩ | ⟨w4, -⟩ | ⟨w4, -⟩
    · obtain ⟨-, e⟩ := sl_uni hq v1 1
      exact v3.trans (e x hx.1 hx.2.1)
    · cases w4
    · cases w4
  · rcases w2 with ⟨w4, -⟩ | ⟨-, w4⟩ | ⟨-, k9, p9, q9, v1, v2⟩
    · cases w4
    · exact absurd (by decide) w4
    · obtain ⟨e, -⟩ := mtc_uni hq v1
      exact absurd ⟨hx.1, by omega⟩ v2
theorem p_stretch {p q : Int → Int} {c : Int} {t x : Int} (H : pzI L F b h n S T) (hq : mtc S c p q) (hc : 1 ≤ c ∧ c ≤ 39) (hx : 0 ≤ t ∧ t ≤ 1 ∧ 0 ≤ x ∧ x < S (0 + t) ∧ x ≤ 20) (hd : 6 ≤ d) : Cv d 76 [.ref 28, yi t, yi x] h (yE (fun z h1 => z = cnt (sl p q t) x c.toNat ∧ pzI L F (b + 1) h1 n S T)) := by
  have H0 := H
  obtain ⟨⟨⟨od, a28, aM⟩, ⟨zz, oo, f9, g9, r9, t9, aS, ast⟩, ⟨mc, e0, F9, bs, a34, -⟩, ⟨a56, Tr, a57⟩, ⟨⟨la, fi, ls, lb, lt, a58⟩, a59, a61, ⟨K9, a60⟩, L9, a62⟩⟩, -, -, ⟨⟨az, ah0, ah1, ar⟩, -⟩, -⟩ := H0
  refine Ev.imp (c_X8_stretch a28 aM aS az ah0 ah1 (t1 := t) (x := x) (by omega) (hd := by omega)) (fun o1 h1 w => ?_)
  rcases w with ⟨z, w0, w2, w5, w3⟩ | ⟨E, w0, w2, w5, w3⟩
  · refine ⟨z, w0, ?_, H.gB w5 w3⟩
    rcases w2 with ⟨-, -, -, -, -, k9, p9, q9, v1, v3⟩ | ⟨w4, -⟩
    · obtain ⟨e0, e⟩ := sl_uni hq v1 t
      subst e0
      exact v3.trans (cnt_cong _ (fun y y1 y2 => e y y1 (by omega)))
    · cases w4
  · rcases w2 with ⟨w4, -⟩ | ⟨-, w4⟩
    · cases w4
    · exact absurd ⟨hx.1, hx.2.1, hx.2.2.1, hx.2.2.2.1⟩ w4
theorem p_longestStretch {p q : Int → Int} {c : Int} {t : Int} (H : pzI L F b h n S T) (hq : mtc S c p q) (hc : 1 ≤ c ∧ c ≤ 39) (hx : 0 ≤ t ∧ t ≤ 1) (hd : 6 ≤ d) : Cv d 77 [.ref 28, yi t] h (yE (fun z h1 => z = lng (sl p q t) c.toNat (S (0 + t)).toNat ∧ pzI L F (b + 1) h1 n S T)) := by
  have H0 := H
  obtain ⟨⟨⟨od, a28, aM⟩, ⟨zz, oo, f9, g9, r9, t9, aS, ast⟩, ⟨mc, e0, F9, bs, a34, -⟩, ⟨a56, Tr, a57⟩, ⟨⟨la, fi, ls, lb, lt, a58⟩, a59, a61, ⟨K9, a60⟩, L9, a62⟩⟩, -, -, ⟨⟨az, ah0, ah1, ar⟩, -⟩, -⟩ := H0
  refine Ev.imp (c_X8_longestStretch a28 aM aS az ah0 ah1 (t1 := t) (by omega) (hd := by omega)) (fun o1 h1 w => ?_)
  rcases w with ⟨z, w0, w2, w5, w3⟩ | ⟨E, w0, w2, w5, w3⟩
  · refine ⟨z, w0, ?_, H.gB w5 w3⟩
    rcases w2 with ⟨-, -, -, k9, p9, q9, v1, v3⟩ | ⟨w4, -⟩
    · obtain ⟨e0, e⟩ := sl_uni hq v1 t
      subst e0
      exact v3.trans (lng_cong (fun y y1 y2 => e y y1 (by omega)) _)
    · cases w4
  · rcases w2 with ⟨w4, -⟩ | ⟨-, w4⟩
    · cases w4
    · exact absurd hx w4
theorem p_bestMatches (H : pzI L F b h n S T) (hm : 0 < S 0 ∧ 0 < S 1 ∧ -S 2 ≤ S 0 - S 1 ∧ S 0 - S 1 ≤ S 2) (hd : 6 ≤ d) : Cv d 78 [.ref 28] h (yE (fun z h1 => z = wy (unl S 0) (S 3) (S 2) (S 0) (S 1) 0 0 ∧ pzI L F (b + 1) h1 n S T)) := by
  have H0 := H
  obtain ⟨⟨⟨od, a28, aM⟩, ⟨zz, oo, f9, g9, r9, t9, aS, ast⟩, ⟨mc, e0, F9, bs, a34, -⟩, ⟨a56, Tr, a57⟩, ⟨⟨la, fi, ls, lb, lt, a58⟩, a59, a61, ⟨K9, a60⟩, L9, a62⟩⟩, -, -, ⟨⟨az, ah0, ah1, ar⟩, -⟩, -⟩ := H0
  refine Ev.imp (c_X8_bestMatches a28 aM aS az ah0 ah1 (hd := by omega)) (fun o1 h1 w => ?_)
  rcases w with ⟨z, w0, w1⟩ | ⟨E, w0, w1⟩
  · obtain ⟨w2, w5, w3⟩ := w1
    refine ⟨z, w0, ?_, H.gB w5 w3⟩
    obtain ⟨-, w8, w4⟩ := w2
    exact w4.trans (if_pos hm)
  · obtain ⟨w2, w5, w3⟩ := w1
    obtain ⟨w4, -⟩ := w2
    cases w4
theorem p_bestMatches0 (H : pzI L F b h n S T) (hm : ¬ (0 < S 0 ∧ 0 < S 1 ∧ -S 2 ≤ S 0 - S 1 ∧ S 0 - S 1 ≤ S 2)) (hd : 6 ≤ d) : Cv d 78 [.ref 28] h (yE (fun z h1 => z = 0 ∧ pzI L F (b + 1) h1 n S T)) := by
  have H0 := H
  obtain ⟨⟨⟨od, a28, aM⟩, ⟨zz, oo, f9, g9, r9, t9, aS, ast⟩, ⟨mc, e0, F9, bs, a34, -⟩, ⟨a56, Tr, a57⟩, ⟨⟨la, fi, ls, lb, lt, a58⟩, a59, a61, ⟨K9, a60⟩, L9, a62⟩⟩, -, -, ⟨⟨az, ah0, ah1, ar⟩, -⟩, -⟩ := H0
  refine Ev.imp (c_X8_bestMatches a28 aM aS az ah0 ah1 (hd := by omega)) (fun o1 h1 w => ?_)
  rcases w with ⟨z, w0, w1⟩ | ⟨E, w0, w1⟩
  · obtain ⟨w2, w5, w3⟩ := w1
    refine ⟨z, w0, ?_, H.gB w5 w3⟩
    obtain ⟨-, w8, w4⟩ := w2
    exact w4.trans (if_neg hm)
  · obtain ⟨w2, w5, w3⟩ := w1
    obtain ⟨w4, -⟩ := w2
    cases w4
theorem p_partCost (H : pzI L F b h n S T) (hm : ¬ (S 0 = 0 ∨ S 1 = 0)) (hd : 6 ≤ d) : Cv d 79 [.ref 28] h (yE (fun z h1 => z = pc (unl S 0) (S 3) (S 0 - 1) (pend S) ∧ pzI L F (b + 1) h1 n S T)) := by
  have H0 := H
  obtain ⟨⟨⟨od, a28, aM⟩, ⟨zz, oo, f9, g9, r9, t9, aS, ast⟩, ⟨mc, e0, F9, bs, a34, -⟩, ⟨a56, Tr, a57⟩, ⟨⟨la, fi, ls, lb, lt, a58⟩, a59, a61, ⟨K9, a60⟩, L9, a62⟩⟩, -, -, ⟨⟨az, ah0, ah1, ar⟩, -⟩, -⟩ := H0
  refine Ev.imp (c_X8_partCost a28 a58 a59 a61 a60 a62 aS az ah0 ah1 (hd := by omega)) (fun o1 h1 w => ?_)
  rcases w with ⟨z, w0, w1⟩ | ⟨E, w0, w1⟩
  · obtain ⟨w2, w5, w6, w7, w3⟩ := w1
    refine ⟨z, w0, ?_, H.gD w5 w6 w7 w3⟩
    rcases w2 with ⟨-, -, w4⟩ | ⟨w4, -⟩
    · exact w4
    · cases w4
  · obtain ⟨w2, w5, w6, w7, w3⟩ := w1
    rcases w2 with ⟨w4, -⟩ | ⟨-, w4⟩
    · cases w4
    · exact absurd w4 hm
theorem p_partBegin (H : pzI L F b h n S T) (hm : ¬ (S 0 = 0 ∨ S 1 = 0)) (hd : 6 ≤ d) : Cv d 80 [.ref 28] h (yE (fun z h1 => z = pb (unl S 0) (S 3) (S 0 - 1) (pend S) ∧ pzI L F (b + 1) h1 n S T)) := by
  have H0 := H
  obtain ⟨⟨⟨od, a28, aM⟩, ⟨zz, oo, f9, g9, r9, t9, aS, ast⟩, ⟨mc, e0, F9, bs, a34, -⟩, ⟨a56, Tr, a57⟩, ⟨⟨la, fi, ls, lb, lt, a58⟩, a59, a61, ⟨K9, a60⟩, L9, a62⟩⟩, -, -, ⟨⟨az, ah0, ah1, ar⟩, -⟩, -⟩ := H0
  refine Ev.imp (c_X8_partBegin a28 a58 a59 a61 a60 a62 aS az ah0 ah1 (hd := by omega)) (fun o1 h1 w => ?_)
  rcases w with ⟨z, w0, w1⟩ | ⟨E, w0, w1⟩
  · obtain ⟨w2, w5, w6, w7, w3⟩ := w1
    refine ⟨z, w0, ?_, H.gD w5 w6 w7 w3⟩
    rcases w2 with ⟨-, -, w4⟩ | ⟨w4, -⟩
    · exact w4
    · cases w4
  · obtain ⟨w2, w5, w6, w7, w3⟩ := w1
    rcases w2 with ⟨w4, -⟩ | ⟨-, w4⟩
    · cases w4
    · exact absurd w4 hm
theorem p_partEnd (H : pzI L F b h n S T) (hm : ¬ (S 0 = 0 ∨ S 1 = 0)) (hd : 6 ≤ d) : Cv d 81 [.ref 28] h (yE (fun z h1 => z = pend S ∧ pzI L F (b + 1) h1 n S T)) := by
  have H0 := H
  obtain ⟨⟨⟨od, a28, aM⟩, ⟨zz, oo, f9, g9, r9, t9, aS, ast⟩, ⟨mc, e0, F9, bs, a34, -⟩, ⟨a56, Tr, a57⟩, ⟨⟨la, fi, ls, lb, lt, a58⟩, a59, a61, ⟨K9, a60⟩, L9, a62⟩⟩, -, -, ⟨⟨az, ah0, ah1, ar⟩, -⟩, -⟩ := H0
  refine Ev.imp (c_X8_partEnd a28 a58 a59 a61 a60 a62 aS az ah0 ah1 (hd := by omega)) (fun o1 h1 w => ?_)
  rcases w with ⟨z, w0, w1⟩ | ⟨E, w0, w1⟩
  · obtain ⟨w2, w5, w6, w7, w3⟩ := w1
    refine ⟨z, w0, ?_, H.gD w5 w6 w7 w3⟩
    rcases w2 with ⟨-, -, w4⟩ | ⟨w4, -⟩
    · exact w4
    · cases w4
  · obtain ⟨w2, w5, w6, w7, w3⟩ := w1
    rcases w2 with ⟨w4, -⟩ | ⟨-, w4⟩
    · cases w4
    · exact absurd w4 hm
theorem p_costWithShift {y : Int} (H : pzI L F b h n S T) (hm : 0 < S 0 ∧ 0 < S 1 ∧ -S 2 ≤ S 0 - S 1 ∧ S 0 - S 1 ≤ S 2) (hy : -12 ≤ y ∧ y ≤ 12) (hd : 6 ≤ d) : Cv d 82 [.ref 28, yi y] h (yE (fun z h1 => z = cst S y (S 2) ∧ pzI L F (b + 1) h1 n S T)) := by
  have H0 := H
  obtain ⟨⟨⟨od, a28, aM⟩, ⟨zz, oo, f9, g9, r9, t9, aS, ast⟩, ⟨mc, e0, F9, bs, a34, -⟩, ⟨a56, Tr, a57⟩, ⟨⟨la, fi, ls, lb, lt, a58⟩, a59, a61, ⟨K9, a60⟩, L9, a62⟩⟩, -, -, ⟨⟨az, ah0, ah1, ar⟩, -⟩, -⟩ := H0
  refine Ev.imp (c_X8_costWithShift a28 a56 a57 aS az ah0 ah1 (b := y) (by omega) (hd := by omega)) (fun o1 h1 w => ?_)
  rcases w with ⟨z, w0, w1⟩ | ⟨E, w0, w1⟩
  · obtain ⟨w2, w5, w3⟩ := w1
    refine ⟨z, w0, ?_, H.gC w5 w3⟩
    rcases w2 with ⟨-, -, w4⟩ | ⟨w4, -⟩ | ⟨w4, -⟩
    · exact w4
    · cases w4
    · cases w4
  · obtain ⟨w2, w5, w3⟩ := w1
    rcases w2 with ⟨w4, -⟩ | ⟨-, w4⟩ | ⟨-, w4⟩
    · cases w4
    · exact absurd (hy) (w4)
    · exact absurd hm w4.2.2
theorem p_bestShift (H : pzI L F b h n S T) (hm : 0 < S 0 ∧ 0 < S 1 ∧ -S 2 ≤ S 0 - S 1 ∧ S 0 - S 1 ≤ S 2) (hd : 6 ≤ d) : Cv d 83 [.ref 28] h (yE (fun z h1 => z = (shb (fun x => cst S x (S 2)) 12).1 ∧ pzI L F (b + 1) h1 n S T)) := by
  have H0 := H
  obtain ⟨⟨⟨od, a28, aM⟩, ⟨zz, oo, f9, g9, r9, t9, aS, ast⟩, ⟨mc, e0, F9, bs, a34, -⟩, ⟨a56, Tr, a57⟩, ⟨⟨la, fi, ls, lb, lt, a58⟩, a59, a61, ⟨K9, a60⟩, L9, a62⟩⟩, -, -, ⟨⟨az, ah0, ah1, ar⟩, -⟩, -⟩ := H0
  refine Ev.imp (c_X8_bestShift a28 a56 a57 aS az ah0 ah1 (hd := by omega)) (fun o1 h1 w => ?_)
  rcases w with ⟨z, w0, w1⟩ | ⟨E, w0, w1⟩
  · obtain ⟨w2, w5, w3⟩ := w1
    refine ⟨z, w0, ?_, H.gC w5 w3⟩
    rcases w2 with ⟨-, -, w4⟩ | ⟨w4, -⟩
    · exact w4
    · cases w4
  · obtain ⟨w2, w5, w3⟩ := w1
    rcases w2 with ⟨w4, -⟩ | ⟨-, w4⟩
    · cases w4
    · exact absurd (hm) (w4)
theorem p_costWithBound {y : Int} (H : pzI L F b h n S T) (hy : 0 ≤ y ∧ y ≤ 20) (hd : 6 ≤ d) : Cv d 84 [.ref 28, yi y] h (yE (fun z h1 => z = (if cst S 0 y < 100000000 then cst S 0 y else -1) ∧ pzI L F (b + 1) h1 n S T)) := by
  have H0 := H
  obtain ⟨⟨⟨od, a28, aM⟩, ⟨zz, oo, f9, g9, r9, t9, aS, ast⟩, ⟨mc, e0, F9, bs, a34, -⟩, ⟨a56, Tr, a57⟩, ⟨⟨la, fi, ls, lb, lt, a58⟩, a59, a61, ⟨K9, a60⟩, L9, a62⟩⟩, -, -, ⟨⟨az, ah0, ah1, ar⟩, -⟩, -⟩ := H0
  refine Ev.imp (c_X8_costWithBound a28 a56 a57 aS az ah0 ah1 (n := y) (by omega) (hd := by omega)) (fun o1 h1 w => ?_)
  rcases w with ⟨z, w0, w1⟩ | ⟨E, w0, w1⟩
  · obtain ⟨w2, w5, w3⟩ := w1
    refine ⟨z, w0, ?_, H.gC w5 w3⟩
    rcases w2 with ⟨-, -, w4⟩ | ⟨w4, -⟩
    · exact w4
    · cases w4
  · obtain ⟨w2, w5, w3⟩ := w1
    rcases w2 with ⟨w4, -⟩ | ⟨-, w4⟩
    · cases w4
    · exact absurd (hy) (w4)
theorem p_neededBound (H : pzI L F b h n S T) (hd : 6 ≤ d) : Cv d 85 [.ref 28] h (yE (fun z h1 => (((S 0 = 0 ∨ S 1 = 0) ∧ z = -1) ∨ (¬ (S 0 = 0 ∨ S 1 = 0) ∧ 0 ≤ z ∧ z ≤ 20 ∧ cst S 0 z = cst S 0 20)) ∧ pzI L F (b + 1) h1 n S T)) := by
  have H0 := H
  obtain ⟨⟨⟨od, a28, aM⟩, ⟨zz, oo, f9, g9, r9, t9, aS, ast⟩, ⟨mc, e0, F9, bs, a34, -⟩, ⟨a56, Tr, a57⟩, ⟨⟨la, fi, ls, lb, lt, a58⟩, a59, a61, ⟨K9, a60⟩, L9, a62⟩⟩, -, -, ⟨⟨az, ah0, ah1, ar⟩, -⟩, -⟩ := H0
  refine Ev.imp (c_X8_neededBound a28 a56 a57 aS az ah0 ah1 (hd := by omega)) (fun o1 h1 w => ?_)
  rcases w with ⟨z, w0, w2, w5, w3⟩ | ⟨E, w0, w2, w5, w3⟩
  · refine ⟨z, w0, ?_, H.gC w5 w3⟩
    obtain ⟨-, w4⟩ := w2
    rcases w4 with w4 | ⟨v1, v2, v3, v4, -⟩
    · exact Or.inl w4
    · exact Or.inr ⟨v1, v2, v3, v4⟩
  · obtain ⟨w4, -⟩ := w2
    cases w4
theorem p_evenShare {p q : Int → Int} {c : Int} (H : pzI L F b h n S T) (hq : mtc S c p q) (hd : 6 ≤ d) : Cv d 86 [.ref 28] h (yD (fun z h1 => z = shv c (hls S (c - 1).toNat) ∧ pzI L F (b + 1) h1 n S T)) := by
  have H0 := H
  obtain ⟨⟨⟨od, a28, aM⟩, ⟨zz, oo, f9, g9, r9, t9, aS, ast⟩, ⟨mc, e0, F9, bs, a34, -⟩, ⟨a56, Tr, a57⟩, ⟨⟨la, fi, ls, lb, lt, a58⟩, a59, a61, ⟨K9, a60⟩, L9, a62⟩⟩, -, -, ⟨⟨az, ah0, ah1, ar⟩, -⟩, -⟩ := H0
  refine Ev.imp (c_X8_evenShare a28 aM aS az ah0 ah1 (hd := by omega)) (fun o1 h1 w => ?_)
  obtain ⟨z, w0, ⟨k9, p9, q9, v1, v2⟩, w5, w3⟩ := w
  obtain ⟨e, -⟩ := mtc_uni hq v1
  exact ⟨z, w0, by rw [e]; exact v2, H.gB w5 w3⟩
end PQ
