/-! Questions, side by side: the matches. -/
theorem op_cost {L : Nat} {F0 : Int → Int} {hp : xH} (H : yRel L F0 hp) : Cv 10 290 [.ref 28, .ref 76] hp (yE (fun k h1 => yMid L F0 h1 (Cv 10 229 [.ref 63] h1 (yE (fun b h2 => yOut L F0 hp k b h2))))) := by
  obtain ⟨v, S, T, N, X, B, A, Y, P⟩ := H
  have ok1 := P.1.1
  have pa := okS_pa P.1
  have ok5 : -1 ≤ S 5 ∧ S 5 ≤ 60 := by have := P.1.2.2.2; omega
  obtain ⟨od, a28, aM⟩ := A.1
  obtain ⟨z0, o0, f0, g0, r0, t0, aS, aSt⟩ := A.2.1
  have hc : Cv 9 99 [.ref 28] hp (yA (fun e z h => ((e = none ∧ (0 < S 0 ∧ 0 < S 1 ∧ -S 2 ≤ S 0 - S 1 ∧ S 0 - S 1 ≤ S 2) ∧ z = cst S 0 (S 2)) ∨ (e = some 2 ∧ (¬ (0 < S 0 ∧ 0 < S 1 ∧ -S 2 ≤ S 0 - S 1 ∧ S 0 - S 1 ≤ S 2)))) ∧ (kA h (v 5) (v 7) S ∧ kG h ∧ kP h) ∧ yfz [28, 43, 45, 47, 49, 51, 52, 53, 54, 55] hp h)) := by
    refine Ev.imp (c_X8_cost  (h28 := a28) (hM := aM) (hS := aS) (hz := P.1.1) (h0 := P.1.2.1) (h1 := P.1.2.2.1) (hd := by decide)) (fun o h q => ?_)
    rcases q with ⟨z, q1, al, xm, fz⟩ | ⟨E, q1, al, xm, fz⟩
    · exact Or.inl ⟨z, q1, al, ⟨xm, A.2.2.2.2.2.2.1.eq (fun i i1 i2 => fz.2.2.2.1 i (by omega) (by simp only [List.mem_cons, List.not_mem_nil, or_false, not_or]; omega)), A.2.2.2.2.2.2.2.eq (fun i i1 i2 => fz.2.2.2.1 i (by omega) (by simp only [List.mem_cons, List.not_mem_nil, or_false, not_or]; omega))⟩, fz⟩
    · exact Or.inr ⟨E, q1, al, ⟨xm, A.2.2.2.2.2.2.1.eq (fun i i1 i2 => fz.2.2.2.1 i (by omega) (by simp only [List.mem_cons, List.not_mem_nil, or_false, not_or]; omega)), A.2.2.2.2.2.2.2.eq (fun i i1 i2 => fz.2.2.2.1 i (by omega) (by simp only [List.mem_cons, List.not_mem_nil, or_false, not_or]; omega))⟩, fz⟩
  refine q_op (l := [2]) (K := [28, 43, 45, 47, 49, 51, 52, 53, 54, 55]) (M := fun c b => (c = 0 ∧ (0 < S 0 ∧ 0 < S 1 ∧ -S 2 ≤ S 0 - S 1 ∧ S 0 - S 1 ≤ S 2) ∧ b = cst S 0 (S 2)) ∨ (c = 1 ∧ (¬ (0 < S 0 ∧ 0 < S 1 ∧ -S 2 ≤ S 0 - S 1 ∧ S 0 - S 1 ≤ S 2)))) B A Y P (by decide) (c_L_cost (d := 9) a28 hc (fun z h q => ?_) (fun E h q => ?_)) (by simp only [List.mem_cons, List.not_mem_nil, or_false]; omega) (fun h1 Y1 => ?_) (fun z c b h g => ?_) (fun E c b hE h g => ?_)
  · obtain ⟨u, e⟩ := B.2.2.2.1
    exact ⟨u, q.2.2.at (by decide) (by decide) e⟩
  · have q := q.1
    rcases q with ⟨q0, -⟩ | ⟨q0, -⟩
    · cases q0
    · exact Option.some.inj q0
  · obtain ⟨m63, m64, m65, m66, m67, ⟨u68, m68⟩, ⟨u69, m69⟩, ⟨u70, m70⟩, ⟨u71, m71⟩, ⟨u72, m72⟩, ⟨u73, m73⟩, ⟨u74, m74⟩, ⟨u75, m75⟩⟩ := Y1
    refine Ev.imp (c_X9_cost  (hM := m63) (hS := m64) (hz := P.1.1) (h0 := P.1.2.1) (h1 := P.1.2.2.1) (hA := m70) (hd := by decide)) (fun o h q => ?_)
    obtain ⟨b, q1, c, e63, al, s70, fr⟩ := q
    exact ⟨b, q1, c, vup v 0 c, al, ⟨rfl, rfl, rfl, rfl⟩, ⟨e63, fr.at (by decide) m64, fr.at (by decide) m65, fr.at (by decide) m66, fr.at (by decide) m67, ⟨_, fr.at (by decide) m68⟩, ⟨_, fr.at (by decide) m69⟩, s70, ⟨_, fr.at (by decide) m71⟩, ⟨_, fr.at (by decide) m72⟩, ⟨_, fr.at (by decide) m73⟩, ⟨_, fr.at (by decide) m74⟩, ⟨_, fr.at (by decide) m75⟩⟩, fr.mono (by decide)⟩
  · rcases h with ⟨h0, h⟩ | ⟨h0, h⟩
    · rcases g with ⟨g0, g⟩ | ⟨g0, g⟩
      · first | exact ⟨g0, by omega⟩ | exact ⟨g0, g.2.trans h.2.symm⟩
      · first | (exfalso; omega)
    · cases h0
  · rcases h with ⟨h0, h⟩ | ⟨h0, h⟩
    · cases h0
    · rcases g with ⟨g0, g⟩ | ⟨g0, g⟩
      · first | (exfalso; omega)
      · (have e9 := Option.some.inj h0; subst e9; first | exact g0 | (exfalso; omega) | skip)
theorem op_costFromEnd {L : Nat} {F0 : Int → Int} {hp : xH} (H : yRel L F0 hp) : Cv 10 291 [.ref 28, .ref 76] hp (yE (fun k h1 => yMid L F0 h1 (Cv 10 230 [.ref 63] h1 (yE (fun b h2 => yOut L F0 hp k b h2))))) := by
  obtain ⟨v, S, T, N, X, B, A, Y, P⟩ := H
  have ok1 := P.1.1
  have pa := okS_pa P.1
  have ok5 : -1 ≤ S 5 ∧ S 5 ≤ 60 := by have := P.1.2.2.2; omega
  obtain ⟨od, a28, aM⟩ := A.1
  obtain ⟨z0, o0, f0, g0, r0, t0, aS, aSt⟩ := A.2.1
  have hc : Cv 9 100 [.ref 28] hp (yA (fun e z h => ((e = none ∧ (0 < S 0 ∧ 0 < S 1 ∧ -S 2 ≤ S 0 - S 1 ∧ S 0 - S 1 ≤ S 2) ∧ z = bw (unl S 0) (S 3) (S 2) (S 0) (S 1) 0 0) ∨ (e = some 2 ∧ (¬ (0 < S 0 ∧ 0 < S 1 ∧ -S 2 ≤ S 0 - S 1 ∧ S 0 - S 1 ≤ S 2)))) ∧ (kA h (v 5) (v 7) S ∧ kG h ∧ kP h) ∧ yfz [28, 43, 45, 47, 49, 51, 52, 53, 54, 55] hp h)) := by
    refine Ev.imp (c_X8_costFromEnd  (h28 := a28) (hM := aM) (hS := aS) (hz := P.1.1) (h0 := P.1.2.1) (h1 := P.1.2.2.1) (hd := by decide)) (fun o h q => ?_)
    rcases q with ⟨z, q1, al, xm, fz⟩ | ⟨E, q1, al, xm, fz⟩
    · exact Or.inl ⟨z, q1, al, ⟨xm, A.2.2.2.2.2.2.1.eq (fun i i1 i2 => fz.2.2.2.1 i (by omega) (by simp only [List.mem_cons, List.not_mem_nil, or_false, not_or]; omega)), A.2.2.2.2.2.2.2.eq (fun i i1 i2 => fz.2.2.2.1 i (by omega) (by simp only [List.mem_cons, List.not_mem_nil, or_false, not_or]; omega))⟩, fz⟩
    · exact Or.inr ⟨E, q1, al, ⟨xm, A.2.2.2.2.2.2.1.eq (fun i i1 i2 => fz.2.2.2.1 i (by omega) (by simp only [List.mem_cons, List.not_mem_nil, or_false, not_or]; omega)), A.2.2.2.2.2.2.2.eq (fun i i1 i2 => fz.2.2.2.1 i (by omega) (by simp only [List.mem_cons, List.not_mem_nil, or_false, not_or]; omega))⟩, fz⟩
  refine q_op (l := [2]) (K := [28, 43, 45, 47, 49, 51, 52, 53, 54, 55]) (M := fun c b => (c = 0 ∧ (0 < S 0 ∧ 0 < S 1 ∧ -S 2 ≤ S 0 - S 1 ∧ S 0 - S 1 ≤ S 2) ∧ b = cst S 0 (S 2)) ∨ (c = 1 ∧ (¬ (0 < S 0 ∧ 0 < S 1 ∧ -S 2 ≤ S 0 - S 1 ∧ S 0 - S 1 ≤ S 2)))) B A Y P (by decide) (c_L_costFromEnd (d := 9) a28 hc (fun z h q => ?_) (fun E h q => ?_)) (by simp only [List.mem_cons, List.not_mem_nil, or_false]; omega) (fun h1 Y1 => ?_) (fun z c b h g => ?_) (fun E c b hE h g => ?_)
  · obtain ⟨u, e⟩ := B.2.2.2.1
    exact ⟨u, q.2.2.at (by decide) (by decide) e⟩
  · have q := q.1
    rcases q with ⟨q0, -⟩ | ⟨q0, -⟩
    · cases q0
    · exact Option.some.inj q0
  · obtain ⟨m63, m64, m65, m66, m67, ⟨u68, m68⟩, ⟨u69, m69⟩, ⟨u70, m70⟩, ⟨u71, m71⟩, ⟨u72, m72⟩, ⟨u73, m73⟩, ⟨u74, m74⟩, ⟨u75, m75⟩⟩ := Y1
    refine Ev.imp (c_X9_costFromEnd  (hM := m63) (hS := m64) (hz := P.1.1) (h0 := P.1.2.1) (h1 := P.1.2.2.1) (hA := m70) (hd := by decide)) (fun o h q => ?_)
    obtain ⟨b, q1, c, e63, al, s70, fr⟩ := q
    exact ⟨b, q1, c, vup v 0 c, al, ⟨rfl, rfl, rfl, rfl⟩, ⟨e63, fr.at (by decide) m64, fr.at (by decide) m65, fr.at (by decide) m66, fr.at (by decide) m67, ⟨_, fr.at (by decide) m68⟩, ⟨_, fr.at (by decide) m69⟩, s70, ⟨_, fr.at (by decide) m71⟩, ⟨_, fr.at (by decide) m72⟩, ⟨_, fr.at (by decide) m73⟩, ⟨_, fr.at (by decide) m74⟩, ⟨_, fr.at (by decide) m75⟩⟩, fr.mono (by decide)⟩
  · rcases h with ⟨h0, h⟩ | ⟨h0, h⟩
    · rcases g with ⟨g0, g⟩ | ⟨g0, g⟩
      · first | exact ⟨g0, by omega⟩ | exact ⟨g0, g.2.trans h.2.symm⟩ | exact ⟨g0, by (rw [h.2, g.2]; exact (bw_cst P.1.1 P.1.2.1 P.1.2.2.1 h.1).symm)⟩
      · first | (exfalso; omega)
    · cases h0
  · rcases h with ⟨h0, h⟩ | ⟨h0, h⟩
    · cases h0
    · rcases g with ⟨g0, g⟩ | ⟨g0, g⟩
      · first | (exfalso; omega)
      · (have e9 := Option.some.inj h0; subst e9; first | exact g0 | (exfalso; omega) | skip)
theorem op_costTo {L : Nat} {F0 : Int → Int} {hp : xH} (H : yRel L F0 hp) {x0 x1 : Int} (hx : -2147483648 ≤ x0 ∧ x0 ≤ 2147483647 ∧ -2147483648 ≤ x1 ∧ x1 ≤ 2147483647) : Cv 10 292 [.ref 28, yi x0, yi x1, .ref 76] hp (yE (fun k h1 => yMid L F0 h1 (Cv 10 231 [.ref 63, yi x0, yi x1] h1 (yE (fun b h2 => yOut L F0 hp k b h2))))) := by
  obtain ⟨v, S, T, N, X, B, A, Y, P⟩ := H
  have ok1 := P.1.1
  have pa := okS_pa P.1
  have ok5 : -1 ≤ S 5 ∧ S 5 ≤ 60 := by have := P.1.2.2.2; omega
  obtain ⟨od, a28, aM⟩ := A.1
  obtain ⟨z0, o0, f0, g0, r0, t0, aS, aSt⟩ := A.2.1
  have hc : Cv 9 101 [.ref 28, yi x0, yi x1] hp (yA (fun e z h => ((e = none ∧ (0 ≤ x0 ∧ x0 < S 0 ∧ 0 ≤ x1 ∧ x1 < S 1) ∧ z = orn (fw (unl S 0) (S 3) (S 2) x0 x1)) ∨ (e = some 0 ∧ (¬ (0 ≤ x0 ∧ x0 < S 0 ∧ 0 ≤ x1 ∧ x1 < S 1)))) ∧ (kA h (v 5) (v 7) S ∧ kG h ∧ kP h) ∧ yfz [28, 43, 45, 47, 49, 51, 52, 53, 54, 55] hp h)) := by
    refine Ev.imp (c_X8_costTo (i := x0) (j := x1) (h28 := a28) (hM := aM) (hS := aS) (hz := P.1.1) (h0 := P.1.2.1) (h1 := P.1.2.2.1) (hij := by omega) (hd := by decide)) (fun o h q => ?_)
    rcases q with ⟨z, q1, al, xm, fz⟩ | ⟨E, q1, al, xm, fz⟩
    · exact Or.inl ⟨z, q1, al, ⟨xm, A.2.2.2.2.2.2.1.eq (fun i i1 i2 => fz.2.2.2.1 i (by omega) (by simp only [List.mem_cons, List.not_mem_nil, or_false, not_or]; omega)), A.2.2.2.2.2.2.2.eq (fun i i1 i2 => fz.2.2.2.1 i (by omega) (by simp only [List.mem_cons, List.not_mem_nil, or_false, not_or]; omega))⟩, fz⟩
    · exact Or.inr ⟨E, q1, al, ⟨xm, A.2.2.2.2.2.2.1.eq (fun i i1 i2 => fz.2.2.2.1 i (by omega) (by simp only [List.mem_cons, List.not_mem_nil, or_false, not_or]; omega)), A.2.2.2.2.2.2.2.eq (fun i i1 i2 => fz.2.2.2.1 i (by omega) (by simp only [List.mem_cons, List.not_mem_nil, or_false, not_or]; omega))⟩, fz⟩
  refine q_op (l := [0]) (K := [28, 43, 45, 47, 49, 51, 52, 53, 54, 55]) (M := fun c b => (c = 0 ∧ (0 ≤ x0 ∧ x0 < S 0 ∧ 0 ≤ x1 ∧ x1 < S 1) ∧ b = (if fw (unl S 0) (S 3) (S 2) x0 x1 < 100000000 then fw (unl S 0) (S 3) (S 2) x0 x1 else -1)) ∨ (c = 1 ∧ (¬ (0 ≤ x0 ∧ x0 < S 0 ∧ 0 ≤ x1 ∧ x1 < S 1)))) B A Y P (by decide) (c_L_costTo (d := 9) a28 hc (fun z h q => ?_) (fun E h q => ?_)) (by simp only [List.mem_cons, List.not_mem_nil, or_false]; omega) (fun h1 Y1 => ?_) (fun z c b h g => ?_) (fun E c b hE h g => ?_)
  · obtain ⟨u, e⟩ := B.2.2.2.1
    exact ⟨u, q.2.2.at (by decide) (by decide) e⟩
  · have q := q.1
    rcases q with ⟨q0, -⟩ | ⟨q0, -⟩
    · cases q0
    · exact Option.some.inj q0
  · obtain ⟨m63, m64, m65, m66, m67, ⟨u68, m68⟩, ⟨u69, m69⟩, ⟨u70, m70⟩, ⟨u71, m71⟩, ⟨u72, m72⟩, ⟨u73, m73⟩, ⟨u74, m74⟩, ⟨u75, m75⟩⟩ := Y1
    refine Ev.imp (c_X9_costTo (i := x0) (j := x1) (hM := m63) (hS := m64) (hz := P.1.1) (h0 := P.1.2.1) (h1 := P.1.2.2.1) (hA := m70) (ht := by omega) (hd := by decide)) (fun o h q => ?_)
    obtain ⟨b, q1, c, e63, al, s70, fr⟩ := q
    exact ⟨b, q1, c, vup v 0 c, al, ⟨rfl, rfl, rfl, rfl⟩, ⟨e63, fr.at (by decide) m64, fr.at (by decide) m65, fr.at (by decide) m66, fr.at (by decide) m67, ⟨_, fr.at (by decide) m68⟩, ⟨_, fr.at (by decide) m69⟩, s70, ⟨_, fr.at (by decide) m71⟩, ⟨_, fr.at (by decide) m72⟩, ⟨_, fr.at (by decide) m73⟩, ⟨_, fr.at (by decide) m74⟩, ⟨_, fr.at (by decide) m75⟩⟩, fr.mono (by decide)⟩
  · rcases h with ⟨h0, h⟩ | ⟨h0, h⟩
    · rcases g with ⟨g0, g⟩ | ⟨g0, g⟩
      · first | exact ⟨g0, by omega⟩ | exact ⟨g0, g.2.trans h.2.symm⟩ | exact ⟨g0, by (rw [h.2, g.2]; rfl)⟩
      · first | (exfalso; omega)
    · cases h0
  · rcases h with ⟨h0, h⟩ | ⟨h0, h⟩
    · cases h0
    · rcases g with ⟨g0, g⟩ | ⟨g0, g⟩
      · first | (exfalso; omega)
      · (have e9 := Option.some.inj h0; subst e9; first | exact g0 | (exfalso; omega) | skip)
theorem op_pairs {L : Nat} {F0 : Int → Int} {hp : xH} (H : yRel L F0 hp) : Cv 10 293 [.ref 28, .ref 76] hp (yE (fun k h1 => yMid L F0 h1 (Cv 10 232 [.ref 63] h1 (yE (fun b h2 => yOut L F0 hp k b h2))))) := by
  obtain ⟨v, S, T, N, X, B, A, Y, P⟩ := H
  have ok1 := P.1.1
  have pa := okS_pa P.1
  have ok5 : -1 ≤ S 5 ∧ S 5 ≤ 60 := by have := P.1.2.2.2; omega
  obtain ⟨od, a28, aM⟩ := A.1
  obtain ⟨z0, o0, f0, g0, r0, t0, aS, aSt⟩ := A.2.1
  have hc : Cv 9 102 [.ref 28] hp (yA (fun e z h => ((e = none ∧ (0 < S 0 ∧ 0 < S 1 ∧ -S 2 ≤ S 0 - S 1 ∧ S 0 - S 1 ≤ S 2 ∧ ∃ p q, mtc S z p q)) ∨ (e = some 2 ∧ (¬ (0 < S 0 ∧ 0 < S 1 ∧ -S 2 ≤ S 0 - S 1 ∧ S 0 - S 1 ≤ S 2)))) ∧ (kA h (v 5) (v 7) S ∧ kG h ∧ kP h) ∧ yfz [28, 43, 45, 47, 49, 51, 52, 53, 54, 55] hp h)) := by
    refine Ev.imp (c_X8_pairs  (h28 := a28) (hM := aM) (hS := aS) (hz := P.1.1) (h0 := P.1.2.1) (h1 := P.1.2.2.1) (hd := by decide)) (fun o h q => ?_)
    rcases q with ⟨z, q1, al, xm, fz⟩ | ⟨E, q1, al, xm, fz⟩
    · exact Or.inl ⟨z, q1, al, ⟨xm, A.2.2.2.2.2.2.1.eq (fun i i1 i2 => fz.2.2.2.1 i (by omega) (by simp only [List.mem_cons, List.not_mem_nil, or_false, not_or]; omega)), A.2.2.2.2.2.2.2.eq (fun i i1 i2 => fz.2.2.2.1 i (by omega) (by simp only [List.mem_cons, List.not_mem_nil, or_false, not_or]; omega))⟩, fz⟩
    · exact Or.inr ⟨E, q1, al, ⟨xm, A.2.2.2.2.2.2.1.eq (fun i i1 i2 => fz.2.2.2.1 i (by omega) (by simp only [List.mem_cons, List.not_mem_nil, or_false, not_or]; omega)), A.2.2.2.2.2.2.2.eq (fun i i1 i2 => fz.2.2.2.1 i (by omega) (by simp only [List.mem_cons, List.not_mem_nil, or_false, not_or]; omega))⟩, fz⟩
  refine q_op (l := [2]) (K := [28, 43, 45, 47, 49, 51, 52, 53, 54, 55]) (M := fun c b => (c = 0 ∧ (mat S ∧ ∃ p q, mtc S b p q) ∧ b = b) ∨ (c = 1 ∧ (¬ mat S))) B A Y P (by decide) (c_L_pairs (d := 9) a28 hc (fun z h q => ?_) (fun E h q => ?_)) (by simp only [List.mem_cons, List.not_mem_nil, or_false]; omega) (fun h1 Y1 => ?_) (fun z c b h g => ?_) (fun E c b hE h g => ?_)
  · obtain ⟨u, e⟩ := B.2.2.2.1
    exact ⟨u, q.2.2.at (by decide) (by decide) e⟩
  · have q := q.1
    rcases q with ⟨q0, -⟩ | ⟨q0, -⟩
    · cases q0
    · exact Option.some.inj q0
  · obtain ⟨m63, m64, m65, m66, m67, ⟨u68, m68⟩, ⟨u69, m69⟩, ⟨u70, m70⟩, ⟨u71, m71⟩, ⟨u72, m72⟩, ⟨u73, m73⟩, ⟨u74, m74⟩, ⟨u75, m75⟩⟩ := Y1
    refine Ev.imp (c_X9_pairs  (hM := m63) (hS := m64) (hz := P.1.1) (h0 := P.1.2.1) (h1 := P.1.2.2.1) (hA := m71) (hW := m72) (hp1 := m74) (hp2 := m75) (hd := by decide)) (fun o h q => ?_)
    obtain ⟨b, q1, c, x20, e63, al, s71, s72, s74, s75, fr⟩ := q
    exact ⟨b, q1, c, vup (vup v 0 c) 20 x20, al, ⟨rfl, rfl, rfl, rfl⟩, ⟨e63, fr.at (by decide) m64, fr.at (by decide) m65, fr.at (by decide) m66, fr.at (by decide) m67, ⟨_, fr.at (by decide) m68⟩, ⟨_, fr.at (by decide) m69⟩, ⟨_, fr.at (by decide) m70⟩, s71, s72, ⟨_, fr.at (by decide) m73⟩, s74, s75⟩, fr.mono (by decide)⟩
  · rcases h with ⟨h0, h⟩ | ⟨h0, h⟩
    · rcases g with ⟨g0, g⟩ | ⟨g0, g⟩
      · exact ⟨g0, by (obtain ⟨-, -, -, -, p9, q9, h⟩ := h; obtain ⟨⟨-, p8, q8, g⟩, -⟩ := g; exact (mtc_uni g h).1)⟩
      · first | (exfalso; omega) | exact absurd (show 0 < S 0 ∧ 0 < S 1 ∧ -S 2 ≤ S 0 - S 1 ∧ S 0 - S 1 ≤ S 2 from g.1.1) h | exact absurd (show mat S from ⟨h.1, h.2.1, h.2.2.1, h.2.2.2.1⟩) g
    · cases h0
  · rcases h with ⟨h0, h⟩ | ⟨h0, h⟩
    · cases h0
    · rcases g with ⟨g0, g⟩ | ⟨g0, g⟩
      · first | (exfalso; omega) | exact absurd (show 0 < S 0 ∧ 0 < S 1 ∧ -S 2 ≤ S 0 - S 1 ∧ S 0 - S 1 ≤ S 2 from g.1.1) h | exact absurd (show mat S from ⟨h.1, h.2.1, h.2.2.1, h.2.2.2.1⟩) g
      · (have e9 := Option.some.inj h0; subst e9; first | exact g0 | (exfalso; omega) | exact absurd (show 0 < S 0 ∧ 0 < S 1 ∧ -S 2 ≤ S 0 - S 1 ∧ S 0 - S 1 ≤ S 2 from g.1.1) h | exact absurd (show mat S from ⟨h.1, h.2.1, h.2.2.1, h.2.2.2.1⟩) g)
theorem op_noteOfPair {L : Nat} {F0 : Int → Int} {hp : xH} (H : yRel L F0 hp) {x0 x1 : Int} (hx : -2147483648 ≤ x0 ∧ x0 ≤ 2147483647 ∧ -2147483648 ≤ x1 ∧ x1 ≤ 2147483647) : Cv 10 294 [.ref 28, yi x0, yi x1, .ref 76] hp (yE (fun k h1 => yMid L F0 h1 (Cv 10 233 [.ref 63, yi x0, yi x1] h1 (yE (fun b h2 => yOut L F0 hp k b h2))))) := by
  obtain ⟨v, S, T, N, X, B, A, Y, P⟩ := H
  have ok1 := P.1.1
  have pa := okS_pa P.1
  have ok5 : -1 ≤ S 5 ∧ S 5 ≤ 60 := by have := P.1.2.2.2; omega
  obtain ⟨od, a28, aM⟩ := A.1
  obtain ⟨z0, o0, f0, g0, r0, t0, aS, aSt⟩ := A.2.1
  have hc : Cv 9 103 [.ref 28, yi x0, yi x1] hp (yA (fun e z h => ((e = none ∧ (0 ≤ x0 ∧ x0 ≤ 1 ∧ 0 ≤ x1 ∧ ∃ k p q, mtc S k p q ∧ x1 < k ∧ z = (if x0 = 0 then p else q) x1)) ∨ (e = some 0 ∧ (¬ (0 ≤ x0 ∧ x0 ≤ 1))) ∨ (e = some 0 ∧ (∃ k p q, mtc S k p q ∧ ¬ (0 ≤ x1 ∧ x1 < k)))) ∧ (kA h (v 5) (v 7) S ∧ kG h ∧ kP h) ∧ yfz [28, 43, 45, 47, 49, 51, 52, 53, 54, 55] hp h)) := by
    refine Ev.imp (c_X8_noteOfPair (t1 := x0) (x := x1) (h28 := a28) (hM := aM) (hS := aS) (hz := P.1.1) (h0 := P.1.2.1) (h1 := P.1.2.2.1) (htx := by omega) (hd := by decide)) (fun o h q => ?_)
    rcases q with ⟨z, q1, al, xm, fz⟩ | ⟨E, q1, al, xm, fz⟩
    · exact Or.inl ⟨z, q1, al, ⟨xm, A.2.2.2.2.2.2.1.eq (fun i i1 i2 => fz.2.2.2.1 i (by omega) (by simp only [List.mem_cons, List.not_mem_nil, or_false, not_or]; omega)), A.2.2.2.2.2.2.2.eq (fun i i1 i2 => fz.2.2.2.1 i (by omega) (by simp only [List.mem_cons, List.not_mem_nil, or_false, not_or]; omega))⟩, fz⟩
    · exact Or.inr ⟨E, q1, al, ⟨xm, A.2.2.2.2.2.2.1.eq (fun i i1 i2 => fz.2.2.2.1 i (by omega) (by simp only [List.mem_cons, List.not_mem_nil, or_false, not_or]; omega)), A.2.2.2.2.2.2.2.eq (fun i i1 i2 => fz.2.2.2.1 i (by omega) (by simp only [List.mem_cons, List.not_mem_nil, or_false, not_or]; omega))⟩, fz⟩
  refine q_op (l := [0]) (K := [28, 43, 45, 47, 49, 51, 52, 53, 54, 55]) (M := fun c b => (c = 0 ∧ (0 ≤ x0 ∧ x0 ≤ 1 ∧ 0 ≤ x1 ∧ ∃ k p q, mtc S k p q ∧ x1 < k ∧ b = (if x0 = 0 then p else q) x1)) ∨ (c = 1 ∧ (¬ (0 ≤ x0 ∧ x0 ≤ 1) ∨ ∃ k p q, mtc S k p q ∧ ¬ (0 ≤ x1 ∧ x1 < k)))) B A Y P (by decide) (c_L_noteOfPair (d := 9) a28 hc (fun z h q => ?_) (fun E h q => ?_)) (by simp only [List.mem_cons, List.not_mem_nil, or_false]; omega) (fun h1 Y1 => ?_) (fun z c b h g => ?_) (fun E c b hE h g => ?_)
  · obtain ⟨u, e⟩ := B.2.2.2.1
    exact ⟨u, q.2.2.at (by decide) (by decide) e⟩
  · have q := q.1
    rcases q with ⟨q0, -⟩ | ⟨q0, -⟩ | ⟨q0, -⟩
    · cases q0
    · exact Option.some.inj q0
    · exact Option.some.inj q0
  · obtain ⟨m63, m64, m65, m66, m67, ⟨u68, m68⟩, ⟨u69, m69⟩, ⟨u70, m70⟩, ⟨u71, m71⟩, ⟨u72, m72⟩, ⟨u73, m73⟩, ⟨u74, m74⟩, ⟨u75, m75⟩⟩ := Y1
    refine Ev.imp (c_X9_noteOfPair (t := x0) (x := x1) (hM := m63) (hS := m64) (hz := P.1.1) (h0 := P.1.2.1) (h1 := P.1.2.2.1) (hA := m71) (hW := m72) (hp1 := m74) (hp2 := m75) (ht := by omega) (hd := by decide)) (fun o h q => ?_)
    obtain ⟨b, q1, c, x20, e63, al, s71, s72, s74, s75, fr⟩ := q
    exact ⟨b, q1, c, vup (vup v 0 c) 20 x20, al, ⟨rfl, rfl, rfl, rfl⟩, ⟨e63, fr.at (by decide) m64, fr.at (by decide) m65, fr.at (by decide) m66, fr.at (by decide) m67, ⟨_, fr.at (by decide) m68⟩, ⟨_, fr.at (by decide) m69⟩, ⟨_, fr.at (by decide) m70⟩, s71, s72, ⟨_, fr.at (by decide) m73⟩, s74, s75⟩, fr.mono (by decide)⟩
  · rcases h with ⟨h0, h⟩ | ⟨h0, h⟩ | ⟨h0, h⟩
    · rcases g with ⟨g0, g⟩ | ⟨g0, g⟩
      · exact ⟨g0, by (obtain ⟨-, -, i0, k9, p9, q9, h, h8, h9⟩ := h; obtain ⟨-, -, -, k8, p8, q8, g, g8, g9⟩ := g; have u9 := (mtc_uni g h).2 x1 i0 g8; rw [h9, g9]; split <;> first | exact u9.1 | exact u9.2)⟩
      · first | (exfalso; omega) | (obtain ⟨i1, i2, i0, k9, p9, q9, h, h8, h9⟩ := h; rcases g with g | ⟨k8, p8, q8, g, g8⟩; omega; have u9 := (mtc_uni g h).1; omega) | (obtain ⟨i1, i2, i0, k9, p9, q9, g, g8, g9⟩ := g; obtain ⟨k8, p8, q8, h, h8⟩ := h; have u9 := (mtc_uni g h).1; omega)
    · cases h0
    · cases h0
  · rcases h with ⟨h0, h⟩ | ⟨h0, h⟩ | ⟨h0, h⟩
    · cases h0
    · rcases g with ⟨g0, g⟩ | ⟨g0, g⟩
      · first | (exfalso; omega) | (obtain ⟨i1, i2, i0, k9, p9, q9, h, h8, h9⟩ := h; rcases g with g | ⟨k8, p8, q8, g, g8⟩; omega; have u9 := (mtc_uni g h).1; omega) | (obtain ⟨i1, i2, i0, k9, p9, q9, g, g8, g9⟩ := g; obtain ⟨k8, p8, q8, h, h8⟩ := h; have u9 := (mtc_uni g h).1; omega)
      · (have e9 := Option.some.inj h0; subst e9; first | exact g0 | (exfalso; omega) | (obtain ⟨i1, i2, i0, k9, p9, q9, h, h8, h9⟩ := h; rcases g with g | ⟨k8, p8, q8, g, g8⟩; omega; have u9 := (mtc_uni g h).1; omega) | (obtain ⟨i1, i2, i0, k9, p9, q9, g, g8, g9⟩ := g; obtain ⟨k8, p8, q8, h, h8⟩ := h; have u9 := (mtc_uni g h).1; omega))
    · rcases g with ⟨g0, g⟩ | ⟨g0, g⟩
      · first | (exfalso; omega) | (obtain ⟨i1, i2, i0, k9, p9, q9, h, h8, h9⟩ := h; rcases g with g | ⟨k8, p8, q8, g, g8⟩; omega; have u9 := (mtc_uni g h).1; omega) | (obtain ⟨i1, i2, i0, k9, p9, q9, g, g8, g9⟩ := g; obtain ⟨k8, p8, q8, h, h8⟩ := h; have u9 := (mtc_uni g h).1; omega)
      · (have e9 := Option.some.inj h0; subst e9; first | exact g0 | (exfalso; omega) | (obtain ⟨i1, i2, i0, k9, p9, q9, h, h8, h9⟩ := h; rcases g with g | ⟨k8, p8, q8, g, g8⟩; omega; have u9 := (mtc_uni g h).1; omega) | (obtain ⟨i1, i2, i0, k9, p9, q9, g, g8, g9⟩ := g; obtain ⟨k8, p8, q8, h, h8⟩ := h; have u9 := (mtc_uni g h).1; omega))
theorem op_stretch {L : Nat} {F0 : Int → Int} {hp : xH} (H : yRel L F0 hp) {x0 x1 : Int} (hx : -2147483648 ≤ x0 ∧ x0 ≤ 2147483647 ∧ -2147483648 ≤ x1 ∧ x1 ≤ 2147483647) : Cv 10 295 [.ref 28, yi x0, yi x1, .ref 76] hp (yE (fun k h1 => yMid L F0 h1 (Cv 10 234 [.ref 63, yi x0, yi x1] h1 (yE (fun b h2 => yOut L F0 hp k b h2))))) := by
  obtain ⟨v, S, T, N, X, B, A, Y, P⟩ := H
  have ok1 := P.1.1
  have pa := okS_pa P.1
  have ok5 : -1 ≤ S 5 ∧ S 5 ≤ 60 := by have := P.1.2.2.2; omega
  obtain ⟨od, a28, aM⟩ := A.1
  obtain ⟨z0, o0, f0, g0, r0, t0, aS, aSt⟩ := A.2.1
  have hc : Cv 9 104 [.ref 28, yi x0, yi x1] hp (yA (fun e z h => ((e = none ∧ (0 ≤ x0 ∧ x0 ≤ 1 ∧ 0 ≤ x1 ∧ x1 < S (0 + x0) ∧ ∃ k p q, mtc S k p q ∧ z = cnt (if x0 = 0 then p else q) x1 k.toNat)) ∨ (e = some 0 ∧ (¬ (0 ≤ x0 ∧ x0 ≤ 1 ∧ 0 ≤ x1 ∧ x1 < S (0 + x0))))) ∧ (kA h (v 5) (v 7) S ∧ kG h ∧ kP h) ∧ yfz [28, 43, 45, 47, 49, 51, 52, 53, 54, 55] hp h)) := by
    refine Ev.imp (c_X8_stretch (t1 := x0) (x := x1) (h28 := a28) (hM := aM) (hS := aS) (hz := P.1.1) (h0 := P.1.2.1) (h1 := P.1.2.2.1) (htx := by omega) (hd := by decide)) (fun o h q => ?_)
    rcases q with ⟨z, q1, al, xm, fz⟩ | ⟨E, q1, al, xm, fz⟩
    · exact Or.inl ⟨z, q1, al, ⟨xm, A.2.2.2.2.2.2.1.eq (fun i i1 i2 => fz.2.2.2.1 i (by omega) (by simp only [List.mem_cons, List.not_mem_nil, or_false, not_or]; omega)), A.2.2.2.2.2.2.2.eq (fun i i1 i2 => fz.2.2.2.1 i (by omega) (by simp only [List.mem_cons, List.not_mem_nil, or_false, not_or]; omega))⟩, fz⟩
    · exact Or.inr ⟨E, q1, al, ⟨xm, A.2.2.2.2.2.2.1.eq (fun i i1 i2 => fz.2.2.2.1 i (by omega) (by simp only [List.mem_cons, List.not_mem_nil, or_false, not_or]; omega)), A.2.2.2.2.2.2.2.eq (fun i i1 i2 => fz.2.2.2.1 i (by omega) (by simp only [List.mem_cons, List.not_mem_nil, or_false, not_or]; omega))⟩, fz⟩
  refine q_op (l := [0]) (K := [28, 43, 45, 47, 49, 51, 52, 53, 54, 55]) (M := fun c b => (c = 0 ∧ (0 ≤ x0 ∧ x0 ≤ 1 ∧ 0 ≤ x1 ∧ x1 < S (0 + x0) ∧ ∃ k p q, mtc S k p q ∧ b = cnt (if x0 = 0 then p else q) x1 k.toNat)) ∨ (c = 1 ∧ (¬ (0 ≤ x0 ∧ x0 ≤ 1 ∧ 0 ≤ x1 ∧ x1 < S (0 + x0))))) B A Y P (by decide) (c_L_stretch (d := 9) a28 hc (fun z h q => ?_) (fun E h q => ?_)) (by simp only [List.mem_cons, List.not_mem_nil, or_false]; omega) (fun h1 Y1 => ?_) (fun z c b h g => ?_) (fun E c b hE h g => ?_)
  · obtain ⟨u, e⟩ := B.2.2.2.1
    exact ⟨u, q.2.2.at (by decide) (by decide) e⟩
  · have q := q.1
    rcases q with ⟨q0, -⟩ | ⟨q0, -⟩
    · cases q0
    · exact Option.some.inj q0
  · obtain ⟨m63, m64, m65, m66, m67, ⟨u68, m68⟩, ⟨u69, m69⟩, ⟨u70, m70⟩, ⟨u71, m71⟩, ⟨u72, m72⟩, ⟨u73, m73⟩, ⟨u74, m74⟩, ⟨u75, m75⟩⟩ := Y1
    refine Ev.imp (c_X9_stretch (t := x0) (x := x1) (hM := m63) (hS := m64) (hz := P.1.1) (h0 := P.1.2.1) (h1 := P.1.2.2.1) (hA := m71) (hW := m72) (hp1 := m74) (hp2 := m75) (ht := by omega) (hd := by decide)) (fun o h q => ?_)
    obtain ⟨b, q1, c, x20, e63, al, s71, s72, s74, s75, fr⟩ := q
    exact ⟨b, q1, c, vup (vup v 0 c) 20 x20, al, ⟨rfl, rfl, rfl, rfl⟩, ⟨e63, fr.at (by decide) m64, fr.at (by decide) m65, fr.at (by decide) m66, fr.at (by decide) m67, ⟨_, fr.at (by decide) m68⟩, ⟨_, fr.at (by decide) m69⟩, ⟨_, fr.at (by decide) m70⟩, s71, s72, ⟨_, fr.at (by decide) m73⟩, s74, s75⟩, fr.mono (by decide)⟩
  · rcases h with ⟨h0, h⟩ | ⟨h0, h⟩
    · rcases g with ⟨g0, g⟩ | ⟨g0, g⟩
      · exact ⟨g0, by (obtain ⟨-, -, -, -, k9, p9, q9, h, h9⟩ := h; obtain ⟨-, -, -, -, k8, p8, q8, g, g9⟩ := g; rw [h9, g9]; exact cnt_uni g h x0 x1)⟩
      · first | (exfalso; omega)
    · cases h0
  · rcases h with ⟨h0, h⟩ | ⟨h0, h⟩
    · cases h0
    · rcases g with ⟨g0, g⟩ | ⟨g0, g⟩
      · first | (exfalso; omega)
      · (have e9 := Option.some.inj h0; subst e9; first | exact g0 | (exfalso; omega) | skip)
theorem op_longestStretch {L : Nat} {F0 : Int → Int} {hp : xH} (H : yRel L F0 hp) {x0 : Int} (hx : -2147483648 ≤ x0 ∧ x0 ≤ 2147483647) : Cv 10 296 [.ref 28, yi x0, .ref 76] hp (yE (fun k h1 => yMid L F0 h1 (Cv 10 235 [.ref 63, yi x0] h1 (yE (fun b h2 => yOut L F0 hp k b h2))))) := by
  obtain ⟨v, S, T, N, X, B, A, Y, P⟩ := H
  have ok1 := P.1.1
  have pa := okS_pa P.1
  have ok5 : -1 ≤ S 5 ∧ S 5 ≤ 60 := by have := P.1.2.2.2; omega
  obtain ⟨od, a28, aM⟩ := A.1
  obtain ⟨z0, o0, f0, g0, r0, t0, aS, aSt⟩ := A.2.1
  have hc : Cv 9 105 [.ref 28, yi x0] hp (yA (fun e z h => ((e = none ∧ (0 ≤ x0 ∧ x0 ≤ 1 ∧ ∃ k p q, mtc S k p q ∧ z = lng (if x0 = 0 then p else q) k.toNat (S (0 + x0)).toNat)) ∨ (e = some 0 ∧ (¬ (0 ≤ x0 ∧ x0 ≤ 1)))) ∧ (kA h (v 5) (v 7) S ∧ kG h ∧ kP h) ∧ yfz [28, 43, 45, 47, 49, 51, 52, 53, 54, 55] hp h)) := by
    refine Ev.imp (c_X8_longestStretch (t1 := x0) (h28 := a28) (hM := aM) (hS := aS) (hz := P.1.1) (h0 := P.1.2.1) (h1 := P.1.2.2.1) (htx := by omega) (hd := by decide)) (fun o h q => ?_)
    rcases q with ⟨z, q1, al, xm, fz⟩ | ⟨E, q1, al, xm, fz⟩
    · exact Or.inl ⟨z, q1, al, ⟨xm, A.2.2.2.2.2.2.1.eq (fun i i1 i2 => fz.2.2.2.1 i (by omega) (by simp only [List.mem_cons, List.not_mem_nil, or_false, not_or]; omega)), A.2.2.2.2.2.2.2.eq (fun i i1 i2 => fz.2.2.2.1 i (by omega) (by simp only [List.mem_cons, List.not_mem_nil, or_false, not_or]; omega))⟩, fz⟩
    · exact Or.inr ⟨E, q1, al, ⟨xm, A.2.2.2.2.2.2.1.eq (fun i i1 i2 => fz.2.2.2.1 i (by omega) (by simp only [List.mem_cons, List.not_mem_nil, or_false, not_or]; omega)), A.2.2.2.2.2.2.2.eq (fun i i1 i2 => fz.2.2.2.1 i (by omega) (by simp only [List.mem_cons, List.not_mem_nil, or_false, not_or]; omega))⟩, fz⟩
  refine q_op (l := [0]) (K := [28, 43, 45, 47, 49, 51, 52, 53, 54, 55]) (M := fun c b => (c = 0 ∧ (0 ≤ x0 ∧ x0 ≤ 1 ∧ ∃ k p q, mtc S k p q ∧ b = lng (if x0 = 0 then p else q) k.toNat (S (0 + x0)).toNat)) ∨ (c = 1 ∧ (¬ (0 ≤ x0 ∧ x0 ≤ 1)))) B A Y P (by decide) (c_L_longestStretch (d := 9) a28 hc (fun z h q => ?_) (fun E h q => ?_)) (by simp only [List.mem_cons, List.not_mem_nil, or_false]; omega) (fun h1 Y1 => ?_) (fun z c b h g => ?_) (fun E c b hE h g => ?_)
  · obtain ⟨u, e⟩ := B.2.2.2.1
    exact ⟨u, q.2.2.at (by decide) (by decide) e⟩
  · have q := q.1
    rcases q with ⟨q0, -⟩ | ⟨q0, -⟩
    · cases q0
    · exact Option.some.inj q0
  · obtain ⟨m63, m64, m65, m66, m67, ⟨u68, m68⟩, ⟨u69, m69⟩, ⟨u70, m70⟩, ⟨u71, m71⟩, ⟨u72, m72⟩, ⟨u73, m73⟩, ⟨u74, m74⟩, ⟨u75, m75⟩⟩ := Y1
    refine Ev.imp (c_X9_longestStretch (t := x0) (hM := m63) (hS := m64) (hz := P.1.1) (h0 := P.1.2.1) (h1 := P.1.2.2.1) (hA := m71) (hW := m72) (hp1 := m74) (hp2 := m75) (ht := by omega) (hd := by decide)) (fun o h q => ?_)
    obtain ⟨b, q1, c, x20, e63, al, s71, s72, s74, s75, fr⟩ := q
    exact ⟨b, q1, c, vup (vup v 0 c) 20 x20, al, ⟨rfl, rfl, rfl, rfl⟩, ⟨e63, fr.at (by decide) m64, fr.at (by decide) m65, fr.at (by decide) m66, fr.at (by decide) m67, ⟨_, fr.at (by decide) m68⟩, ⟨_, fr.at (by decide) m69⟩, ⟨_, fr.at (by decide) m70⟩, s71, s72, ⟨_, fr.at (by decide) m73⟩, s74, s75⟩, fr.mono (by decide)⟩
  · rcases h with ⟨h0, h⟩ | ⟨h0, h⟩
    · rcases g with ⟨g0, g⟩ | ⟨g0, g⟩
      · exact ⟨g0, by (obtain ⟨-, -, k9, p9, q9, h, h9⟩ := h; obtain ⟨-, -, k8, p8, q8, g, g9⟩ := g; rw [h9, g9]; exact lng_uni g h x0 _)⟩
      · first | (exfalso; omega)
    · cases h0
  · rcases h with ⟨h0, h⟩ | ⟨h0, h⟩
    · cases h0
    · rcases g with ⟨g0, g⟩ | ⟨g0, g⟩
      · first | (exfalso; omega)
      · (have e9 := Option.some.inj h0; subst e9; first | exact g0 | (exfalso; omega) | skip)
theorem op_holds {L : Nat} {F0 : Int → Int} {hp : xH} (H : yRel L F0 hp) : Cv 10 106 [.ref 28] hp (yE (fun k h1 => yMid L F0 h1 (Cv 10 236 [.ref 63] h1 (yE (fun b h2 => yOut0 L F0 hp k b h2))))) := by
  obtain ⟨v, S, T, N, X, B, A, Y, P⟩ := H
  have ok1 := P.1.1
  have pa := okS_pa P.1
  have ok5 : -1 ≤ S 5 ∧ S 5 ≤ 60 := by have := P.1.2.2.2; omega
  obtain ⟨od, a28, aM⟩ := A.1
  obtain ⟨z0, o0, f0, g0, r0, t0, aS, aSt⟩ := A.2.1
  have hc : Cv 10 106 [.ref 28] hp (yE (fun z h => ((∃ k p q, mtc S k p q ∧ z = hls S (k - 1).toNat)) ∧ (kA h (v 5) (v 7) S ∧ kG h ∧ kP h) ∧ yfz [28, 43, 45, 47, 49, 51, 52, 53, 54, 55] hp h)) := by
    refine Ev.imp (c_X8_holds  (h28 := a28) (hM := aM) (hS := aS) (hz := P.1.1) (h0 := P.1.2.1) (h1 := P.1.2.2.1) (hd := by decide)) (fun o h q => ?_)
    rcases q with ⟨z, q1, al, xm, fz⟩ | ⟨E, q1, al, xm, fz⟩
    · exact ⟨z, q1, al.2, ⟨xm, A.2.2.2.2.2.2.1.eq (fun i i1 i2 => fz.2.2.2.1 i (by omega) (by simp only [List.mem_cons, List.not_mem_nil, or_false, not_or]; omega)), A.2.2.2.2.2.2.2.eq (fun i i1 i2 => fz.2.2.2.1 i (by omega) (by simp only [List.mem_cons, List.not_mem_nil, or_false, not_or]; omega))⟩, fz⟩
    · cases al.1
  refine q_op0 (K := [28, 43, 45, 47, 49, 51, 52, 53, 54, 55]) (M := fun c b => c = 0 ∧ (∃ k p q, mtc S k p q ∧ b = hld p q (k - 1).toNat)) B A Y P hc (by simp only [List.mem_cons, List.not_mem_nil, or_false]; omega) (fun h1 Y1 => ?_) (fun z c b h g => ?_)
  · obtain ⟨m63, m64, m65, m66, m67, ⟨u68, m68⟩, ⟨u69, m69⟩, ⟨u70, m70⟩, ⟨u71, m71⟩, ⟨u72, m72⟩, ⟨u73, m73⟩, ⟨u74, m74⟩, ⟨u75, m75⟩⟩ := Y1
    refine Ev.imp (c_X9_holds  (hM := m63) (hS := m64) (hz := P.1.1) (h0 := P.1.2.1) (h1 := P.1.2.2.1) (hA := m71) (hW := m72) (hp1 := m74) (hp2 := m75) (hd := by decide)) (fun o h q => ?_)
    obtain ⟨b, q1, c, x20, e63, al, s71, s72, s74, s75, fr⟩ := q
    exact ⟨b, q1, c, vup (vup v 0 c) 20 x20, al, ⟨rfl, rfl, rfl, rfl⟩, ⟨e63, fr.at (by decide) m64, fr.at (by decide) m65, fr.at (by decide) m66, fr.at (by decide) m67, ⟨_, fr.at (by decide) m68⟩, ⟨_, fr.at (by decide) m69⟩, ⟨_, fr.at (by decide) m70⟩, s71, s72, ⟨_, fr.at (by decide) m73⟩, s74, s75⟩, fr.mono (by decide)⟩
  · obtain ⟨g0, g⟩ := g
    first | omega | exact g.2.trans h.2.symm | exact (by (obtain ⟨k9, p9, q9, h, h9⟩ := h; obtain ⟨k8, p8, q8, g, g9⟩ := g; rw [h9, g9, hld_hls g, (mtc_uni g h).1]))
theorem op_bestMatches {L : Nat} {F0 : Int → Int} {hp : xH} (H : yRel L F0 hp) : Cv 10 107 [.ref 28] hp (yE (fun k h1 => yMid L F0 h1 (Cv 10 237 [.ref 63] h1 (yE (fun b h2 => yOut0 L F0 hp k b h2))))) := by
  obtain ⟨v, S, T, N, X, B, A, Y, P⟩ := H
  have ok1 := P.1.1
  have pa := okS_pa P.1
  have ok5 : -1 ≤ S 5 ∧ S 5 ≤ 60 := by have := P.1.2.2.2; omega
  obtain ⟨od, a28, aM⟩ := A.1
  obtain ⟨z0, o0, f0, g0, r0, t0, aS, aSt⟩ := A.2.1
  have hc : Cv 10 107 [.ref 28] hp (yE (fun z h => ((True) ∧ z = (if 0 < S 0 ∧ 0 < S 1 ∧ -S 2 ≤ S 0 - S 1 ∧ S 0 - S 1 ≤ S 2 then wy (unl S 0) (S 3) (S 2) (S 0) (S 1) 0 0 else 0)) ∧ (kA h (v 5) (v 7) S ∧ kG h ∧ kP h) ∧ yfz [28, 43, 45, 47, 49, 51, 52, 53, 54, 55] hp h)) := by
    refine Ev.imp (c_X8_bestMatches  (h28 := a28) (hM := aM) (hS := aS) (hz := P.1.1) (h0 := P.1.2.1) (h1 := P.1.2.2.1) (hd := by decide)) (fun o h q => ?_)
    rcases q with ⟨z, q1, al, xm, fz⟩ | ⟨E, q1, al, xm, fz⟩
    · exact ⟨z, q1, al.2, ⟨xm, A.2.2.2.2.2.2.1.eq (fun i i1 i2 => fz.2.2.2.1 i (by omega) (by simp only [List.mem_cons, List.not_mem_nil, or_false, not_or]; omega)), A.2.2.2.2.2.2.2.eq (fun i i1 i2 => fz.2.2.2.1 i (by omega) (by simp only [List.mem_cons, List.not_mem_nil, or_false, not_or]; omega))⟩, fz⟩
    · cases al.1
  refine q_op0 (K := [28, 43, 45, 47, 49, 51, 52, 53, 54, 55]) (M := fun c b => c = 0 ∧ (True) ∧ b = (if 0 < S 0 ∧ 0 < S 1 ∧ -S 2 ≤ S 0 - S 1 ∧ S 0 - S 1 ≤ S 2 then wy (unl S 0) (S 3) (S 2) (S 0) (S 1) 0 0 else 0)) B A Y P hc (by simp only [List.mem_cons, List.not_mem_nil, or_false]; omega) (fun h1 Y1 => ?_) (fun z c b h g => ?_)
  · obtain ⟨m63, m64, m65, m66, m67, ⟨u68, m68⟩, ⟨u69, m69⟩, ⟨u70, m70⟩, ⟨u71, m71⟩, ⟨u72, m72⟩, ⟨u73, m73⟩, ⟨u74, m74⟩, ⟨u75, m75⟩⟩ := Y1
    refine Ev.imp (c_X9_bestMatches  (hM := m63) (hS := m64) (hz := P.1.1) (h0 := P.1.2.1) (h1 := P.1.2.2.1) (hA := m71) (hW := m72) (hd := by decide)) (fun o h q => ?_)
    obtain ⟨b, q1, c, e63, al, s71, s72, fr⟩ := q
    exact ⟨b, q1, c, vup v 0 c, al, ⟨rfl, rfl, rfl, rfl⟩, ⟨e63, fr.at (by decide) m64, fr.at (by decide) m65, fr.at (by decide) m66, fr.at (by decide) m67, ⟨_, fr.at (by decide) m68⟩, ⟨_, fr.at (by decide) m69⟩, ⟨_, fr.at (by decide) m70⟩, s71, s72, ⟨_, fr.at (by decide) m73⟩, ⟨_, fr.at (by decide) m74⟩, ⟨_, fr.at (by decide) m75⟩⟩, fr.mono (by decide)⟩
  · obtain ⟨g0, g⟩ := g
    first | omega | exact g.2.trans h.2.symm
theorem op_partCost {L : Nat} {F0 : Int → Int} {hp : xH} (H : yRel L F0 hp) : Cv 10 297 [.ref 28, .ref 76] hp (yE (fun k h1 => yMid L F0 h1 (Cv 10 238 [.ref 63] h1 (yE (fun b h2 => yOut L F0 hp k b h2))))) := by
  obtain ⟨v, S, T, N, X, B, A, Y, P⟩ := H
  have ok1 := P.1.1
  have pa := okS_pa P.1
  have ok5 : -1 ≤ S 5 ∧ S 5 ≤ 60 := by have := P.1.2.2.2; omega
  obtain ⟨od, a28, aM⟩ := A.1
  obtain ⟨z0, o0, f0, g0, r0, t0, aS, aSt⟩ := A.2.1
  obtain ⟨⟨la, fi, ls, lb, lt, a58⟩, a59, a61, ⟨t60, a60⟩, t62, a62⟩ := A.2.2.2.2.2.2.2
  have hc : Cv 9 108 [.ref 28] hp (yA (fun e z h => ((e = none ∧ (¬ (S 0 = 0 ∨ S 1 = 0)) ∧ z = pc (unl S 0) (S 3) (S 0 - 1) (pend S)) ∨ (e = some 2 ∧ (S 0 = 0 ∨ S 1 = 0))) ∧ (kA h (v 5) (v 7) S ∧ kG h ∧ kP h) ∧ yfz [58, 60, 62] hp h)) := by
    refine Ev.imp (c_X8_partCost  (h28 := a28) (h58 := a58) (h59 := a59) (h61 := a61) (h60 := a60) (h62 := a62) (hS := aS) (hz := P.1.1) (h0 := P.1.2.1) (h1 := P.1.2.2.1) (hd := by decide)) (fun o h q => ?_)
    rcases q with ⟨z, q1, al, x58, x60, x62, fz⟩ | ⟨E, q1, al, x58, x60, x62, fz⟩
    · exact Or.inl ⟨z, q1, al, ⟨A.1.eq (fun i i1 => fz.2.2.2.1 i (by omega) (by simp only [List.mem_cons, List.not_mem_nil, or_false, not_or]; omega)), A.2.2.2.2.2.2.1.eq (fun i i1 i2 => fz.2.2.2.1 i (by omega) (by simp only [List.mem_cons, List.not_mem_nil, or_false, not_or]; omega)), ⟨x58, fz.at (by decide) (by decide) a59, fz.at (by decide) (by decide) a61, x60, x62⟩⟩, fz⟩
    · exact Or.inr ⟨E, q1, al, ⟨A.1.eq (fun i i1 => fz.2.2.2.1 i (by omega) (by simp only [List.mem_cons, List.not_mem_nil, or_false, not_or]; omega)), A.2.2.2.2.2.2.1.eq (fun i i1 i2 => fz.2.2.2.1 i (by omega) (by simp only [List.mem_cons, List.not_mem_nil, or_false, not_or]; omega)), ⟨x58, fz.at (by decide) (by decide) a59, fz.at (by decide) (by decide) a61, x60, x62⟩⟩, fz⟩
  refine q_op (l := [2]) (K := [58, 60, 62]) (M := fun c b => (c = 0 ∧ (¬ (S 0 = 0 ∨ S 1 = 0)) ∧ b = pc (unl S 0) (S 3) (S 0 - 1) (pend S)) ∨ (c = 1 ∧ (S 0 = 0 ∨ S 1 = 0))) B A Y P (by decide) (c_L_partCost (d := 9) a28 hc (fun z h q => ?_) (fun E h q => ?_)) (by simp only [List.mem_cons, List.not_mem_nil, or_false]; omega) (fun h1 Y1 => ?_) (fun z c b h g => ?_) (fun E c b hE h g => ?_)
  · obtain ⟨u, e⟩ := B.2.2.2.1
    exact ⟨u, q.2.2.at (by decide) (by decide) e⟩
  · have q := q.1
    rcases q with ⟨q0, -⟩ | ⟨q0, -⟩
    · cases q0
    · exact Option.some.inj q0
  · obtain ⟨m63, m64, m65, m66, m67, ⟨u68, m68⟩, ⟨u69, m69⟩, ⟨u70, m70⟩, ⟨u71, m71⟩, ⟨u72, m72⟩, ⟨u73, m73⟩, ⟨u74, m74⟩, ⟨u75, m75⟩⟩ := Y1
    refine Ev.imp (c_X9_partCost  (hM := m63) (hS := m64) (hz := P.1.1) (h0 := P.1.2.1) (h1 := P.1.2.2.1) (hA := m70) (hB := m73) (hd := by decide)) (fun o h q => ?_)
    obtain ⟨b, q1, c, x21, e63, al, s70, s73, fr⟩ := q
    exact ⟨b, q1, c, vup (vup v 0 c) 21 x21, al, ⟨rfl, rfl, rfl, rfl⟩, ⟨e63, fr.at (by decide) m64, fr.at (by decide) m65, fr.at (by decide) m66, fr.at (by decide) m67, ⟨_, fr.at (by decide) m68⟩, ⟨_, fr.at (by decide) m69⟩, s70, ⟨_, fr.at (by decide) m71⟩, ⟨_, fr.at (by decide) m72⟩, s73, ⟨_, fr.at (by decide) m74⟩, ⟨_, fr.at (by decide) m75⟩⟩, fr.mono (by decide)⟩
  · rcases h with ⟨h0, h⟩ | ⟨h0, h⟩
    · rcases g with ⟨g0, g⟩ | ⟨g0, g⟩
      · first | exact ⟨g0, by omega⟩ | exact ⟨g0, g.2.trans h.2.symm⟩
      · first | (exfalso; omega)
    · cases h0
  · rcases h with ⟨h0, h⟩ | ⟨h0, h⟩
    · cases h0
    · rcases g with ⟨g0, g⟩ | ⟨g0, g⟩
      · first | (exfalso; omega)
      · (have e9 := Option.some.inj h0; subst e9; first | exact g0 | (exfalso; omega) | skip)
theorem op_partBegin {L : Nat} {F0 : Int → Int} {hp : xH} (H : yRel L F0 hp) : Cv 10 298 [.ref 28, .ref 76] hp (yE (fun k h1 => yMid L F0 h1 (Cv 10 239 [.ref 63] h1 (yE (fun b h2 => yOut L F0 hp k b h2))))) := by
  obtain ⟨v, S, T, N, X, B, A, Y, P⟩ := H
  have ok1 := P.1.1
  have pa := okS_pa P.1
  have ok5 : -1 ≤ S 5 ∧ S 5 ≤ 60 := by have := P.1.2.2.2; omega
  obtain ⟨od, a28, aM⟩ := A.1
  obtain ⟨z0, o0, f0, g0, r0, t0, aS, aSt⟩ := A.2.1
  obtain ⟨⟨la, fi, ls, lb, lt, a58⟩, a59, a61, ⟨t60, a60⟩, t62, a62⟩ := A.2.2.2.2.2.2.2
  have hc : Cv 9 109 [.ref 28] hp (yA (fun e z h => ((e = none ∧ (¬ (S 0 = 0 ∨ S 1 = 0)) ∧ z = pb (unl S 0) (S 3) (S 0 - 1) (pend S)) ∨ (e = some 2 ∧ (S 0 = 0 ∨ S 1 = 0))) ∧ (kA h (v 5) (v 7) S ∧ kG h ∧ kP h) ∧ yfz [58, 60, 62] hp h)) := by
    refine Ev.imp (c_X8_partBegin  (h28 := a28) (h58 := a58) (h59 := a59) (h61 := a61) (h60 := a60) (h62 := a62) (hS := aS) (hz := P.1.1) (h0 := P.1.2.1) (h1 := P.1.2.2.1) (hd := by decide)) (fun o h q => ?_)
    rcases q with ⟨z, q1, al, x58, x60, x62, fz⟩ | ⟨E, q1, al, x58, x60, x62, fz⟩
    · exact Or.inl ⟨z, q1, al, ⟨A.1.eq (fun i i1 => fz.2.2.2.1 i (by omega) (by simp only [List.mem_cons, List.not_mem_nil, or_false, not_or]; omega)), A.2.2.2.2.2.2.1.eq (fun i i1 i2 => fz.2.2.2.1 i (by omega) (by simp only [List.mem_cons, List.not_mem_nil, or_false, not_or]; omega)), ⟨x58, fz.at (by decide) (by decide) a59, fz.at (by decide) (by decide) a61, x60, x62⟩⟩, fz⟩
    · exact Or.inr ⟨E, q1, al, ⟨A.1.eq (fun i i1 => fz.2.2.2.1 i (by omega) (by simp only [List.mem_cons, List.not_mem_nil, or_false, not_or]; omega)), A.2.2.2.2.2.2.1.eq (fun i i1 i2 => fz.2.2.2.1 i (by omega) (by simp only [List.mem_cons, List.not_mem_nil, or_false, not_or]; omega)), ⟨x58, fz.at (by decide) (by decide) a59, fz.at (by decide) (by decide) a61, x60, x62⟩⟩, fz⟩
  refine q_op (l := [2]) (K := [58, 60, 62]) (M := fun c b => (c = 0 ∧ (¬ (S 0 = 0 ∨ S 1 = 0)) ∧ b = pb (unl S 0) (S 3) (S 0 - 1) (pend S)) ∨ (c = 1 ∧ (S 0 = 0 ∨ S 1 = 0))) B A Y P (by decide) (c_L_partBegin (d := 9) a28 hc (fun z h q => ?_) (fun E h q => ?_)) (by simp only [List.mem_cons, List.not_mem_nil, or_false]; omega) (fun h1 Y1 => ?_) (fun z c b h g => ?_) (fun E c b hE h g => ?_)
  · obtain ⟨u, e⟩ := B.2.2.2.1
    exact ⟨u, q.2.2.at (by decide) (by decide) e⟩
  · have q := q.1
    rcases q with ⟨q0, -⟩ | ⟨q0, -⟩
    · cases q0
    · exact Option.some.inj q0
  · obtain ⟨m63, m64, m65, m66, m67, ⟨u68, m68⟩, ⟨u69, m69⟩, ⟨u70, m70⟩, ⟨u71, m71⟩, ⟨u72, m72⟩, ⟨u73, m73⟩, ⟨u74, m74⟩, ⟨u75, m75⟩⟩ := Y1
    refine Ev.imp (c_X9_partBegin  (hM := m63) (hS := m64) (hz := P.1.1) (h0 := P.1.2.1) (h1 := P.1.2.2.1) (hA := m70) (hB := m73) (hd := by decide)) (fun o h q => ?_)
    obtain ⟨b, q1, c, x21, e63, al, s70, s73, fr⟩ := q
    exact ⟨b, q1, c, vup (vup v 0 c) 21 x21, al, ⟨rfl, rfl, rfl, rfl⟩, ⟨e63, fr.at (by decide) m64, fr.at (by decide) m65, fr.at (by decide) m66, fr.at (by decide) m67, ⟨_, fr.at (by decide) m68⟩, ⟨_, fr.at (by decide) m69⟩, s70, ⟨_, fr.at (by decide) m71⟩, ⟨_, fr.at (by decide) m72⟩, s73, ⟨_, fr.at (by decide) m74⟩, ⟨_, fr.at (by decide) m75⟩⟩, fr.mono (by decide)⟩
  · rcases h with ⟨h0, h⟩ | ⟨h0, h⟩
    · rcases g with ⟨g0, g⟩ | ⟨g0, g⟩
      · first | exact ⟨g0, by omega⟩ | exact ⟨g0, g.2.trans h.2.symm⟩
      · first | (exfalso; omega)
    · cases h0
  · rcases h with ⟨h0, h⟩ | ⟨h0, h⟩
    · cases h0
    · rcases g with ⟨g0, g⟩ | ⟨g0, g⟩
      · first | (exfalso; omega)
      · (have e9 := Option.some.inj h0; subst e9; first | exact g0 | (exfalso; omega) | skip)
theorem op_partEnd {L : Nat} {F0 : Int → Int} {hp : xH} (H : yRel L F0 hp) : Cv 10 299 [.ref 28, .ref 76] hp (yE (fun k h1 => yMid L F0 h1 (Cv 10 240 [.ref 63] h1 (yE (fun b h2 => yOut L F0 hp k b h2))))) := by
  obtain ⟨v, S, T, N, X, B, A, Y, P⟩ := H
  have ok1 := P.1.1
  have pa := okS_pa P.1
  have ok5 : -1 ≤ S 5 ∧ S 5 ≤ 60 := by have := P.1.2.2.2; omega
  obtain ⟨od, a28, aM⟩ := A.1
  obtain ⟨z0, o0, f0, g0, r0, t0, aS, aSt⟩ := A.2.1
  obtain ⟨⟨la, fi, ls, lb, lt, a58⟩, a59, a61, ⟨t60, a60⟩, t62, a62⟩ := A.2.2.2.2.2.2.2
  have hc : Cv 9 110 [.ref 28] hp (yA (fun e z h => ((e = none ∧ (¬ (S 0 = 0 ∨ S 1 = 0)) ∧ z = pend S) ∨ (e = some 2 ∧ (S 0 = 0 ∨ S 1 = 0))) ∧ (kA h (v 5) (v 7) S ∧ kG h ∧ kP h) ∧ yfz [58, 60, 62] hp h)) := by
    refine Ev.imp (c_X8_partEnd  (h28 := a28) (h58 := a58) (h59 := a59) (h61 := a61) (h60 := a60) (h62 := a62) (hS := aS) (hz := P.1.1) (h0 := P.1.2.1) (h1 := P.1.2.2.1) (hd := by decide)) (fun o h q => ?_)
    rcases q with ⟨z, q1, al, x58, x60, x62, fz⟩ | ⟨E, q1, al, x58, x60, x62, fz⟩
    · exact Or.inl ⟨z, q1, al, ⟨A.1.eq (fun i i1 => fz.2.2.2.1 i (by omega) (by simp only [List.mem_cons, List.not_mem_nil, or_false, not_or]; omega)), A.2.2.2.2.2.2.1.eq (fun i i1 i2 => fz.2.2.2.1 i (by omega) (by simp only [List.mem_cons, List.not_mem_nil, or_false, not_or]; omega)), ⟨x58, fz.at (by decide) (by decide) a59, fz.at (by decide) (by decide) a61, x60, x62⟩⟩, fz⟩
    · exact Or.inr ⟨E, q1, al, ⟨A.1.eq (fun i i1 => fz.2.2.2.1 i (by omega) (by simp only [List.mem_cons, List.not_mem_nil, or_false, not_or]; omega)), A.2.2.2.2.2.2.1.eq (fun i i1 i2 => fz.2.2.2.1 i (by omega) (by simp only [List.mem_cons, List.not_mem_nil, or_false, not_or]; omega)), ⟨x58, fz.at (by decide) (by decide) a59, fz.at (by decide) (by decide) a61, x60, x62⟩⟩, fz⟩
  refine q_op (l := [2]) (K := [58, 60, 62]) (M := fun c b => (c = 0 ∧ (¬ (S 0 = 0 ∨ S 1 = 0)) ∧ b = pend S) ∨ (c = 1 ∧ (S 0 = 0 ∨ S 1 = 0))) B A Y P (by decide) (c_L_partEnd (d := 9) a28 hc (fun z h q => ?_) (fun E h q => ?_)) (by simp only [List.mem_cons, List.not_mem_nil, or_false]; omega) (fun h1 Y1 => ?_) (fun z c b h g => ?_) (fun E c b hE h g => ?_)
  · obtain ⟨u, e⟩ := B.2.2.2.1
    exact ⟨u, q.2.2.at (by decide) (by decide) e⟩
  · have q := q.1
    rcases q with ⟨q0, -⟩ | ⟨q0, -⟩
    · cases q0
    · exact Option.some.inj q0
  · obtain ⟨m63, m64, m65, m66, m67, ⟨u68, m68⟩, ⟨u69, m69⟩, ⟨u70, m70⟩, ⟨u71, m71⟩, ⟨u72, m72⟩, ⟨u73, m73⟩, ⟨u74, m74⟩, ⟨u75, m75⟩⟩ := Y1
    refine Ev.imp (c_X9_partEnd  (hM := m63) (hS := m64) (hz := P.1.1) (h0 := P.1.2.1) (h1 := P.1.2.2.1) (hA := m70) (hB := m73) (hd := by decide)) (fun o h q => ?_)
    obtain ⟨b, q1, c, x21, e63, al, s70, s73, fr⟩ := q
    exact ⟨b, q1, c, vup (vup v 0 c) 21 x21, al, ⟨rfl, rfl, rfl, rfl⟩, ⟨e63, fr.at (by decide) m64, fr.at (by decide) m65, fr.at (by decide) m66, fr.at (by decide) m67, ⟨_, fr.at (by decide) m68⟩, ⟨_, fr.at (by decide) m69⟩, s70, ⟨_, fr.at (by decide) m71⟩, ⟨_, fr.at (by decide) m72⟩, s73, ⟨_, fr.at (by decide) m74⟩, ⟨_, fr.at (by decide) m75⟩⟩, fr.mono (by decide)⟩
  · rcases h with ⟨h0, h⟩ | ⟨h0, h⟩
    · rcases g with ⟨g0, g⟩ | ⟨g0, g⟩
      · first | exact ⟨g0, by omega⟩ | exact ⟨g0, g.2.trans h.2.symm⟩
      · first | (exfalso; omega)
    · cases h0
  · rcases h with ⟨h0, h⟩ | ⟨h0, h⟩
    · cases h0
    · rcases g with ⟨g0, g⟩ | ⟨g0, g⟩
      · first | (exfalso; omega)
      · (have e9 := Option.some.inj h0; subst e9; first | exact g0 | (exfalso; omega) | skip)
theorem op_costWithShift {L : Nat} {F0 : Int → Int} {hp : xH} (H : yRel L F0 hp) {x0 : Int} (hx : -2147483648 ≤ x0 ∧ x0 ≤ 2147483647) : Cv 10 300 [.ref 28, yi x0, .ref 76] hp (yE (fun k h1 => yMid L F0 h1 (Cv 10 241 [.ref 63, yi x0] h1 (yE (fun b h2 => yOut L F0 hp k b h2))))) := by
  obtain ⟨v, S, T, N, X, B, A, Y, P⟩ := H
  have ok1 := P.1.1
  have pa := okS_pa P.1
  have ok5 : -1 ≤ S 5 ∧ S 5 ≤ 60 := by have := P.1.2.2.2; omega
  obtain ⟨od, a28, aM⟩ := A.1
  obtain ⟨z0, o0, f0, g0, r0, t0, aS, aSt⟩ := A.2.1
  obtain ⟨t57, a57⟩ := A.2.2.2.2.2.2.1.2
  have hc : Cv 9 111 [.ref 28, yi x0] hp (yA (fun e z h => ((e = none ∧ (-12 ≤ x0 ∧ x0 ≤ 12 ∧ 0 < S 0 ∧ 0 < S 1 ∧ -S 2 ≤ S 0 - S 1 ∧ S 0 - S 1 ≤ S 2) ∧ z = cst S x0 (S 2)) ∨ (e = some 1 ∧ (¬ (-12 ≤ x0 ∧ x0 ≤ 12))) ∨ (e = some 2 ∧ (-12 ≤ x0 ∧ x0 ≤ 12 ∧ ¬ (0 < S 0 ∧ 0 < S 1 ∧ -S 2 ≤ S 0 - S 1 ∧ S 0 - S 1 ≤ S 2)))) ∧ (kA h (v 5) (v 7) S ∧ kG h ∧ kP h) ∧ yfz [57] hp h)) := by
    refine Ev.imp (c_X8_costWithShift (b := x0) (h28 := a28) (h56 := A.2.2.2.2.2.2.1.1) (h57 := a57) (hS := aS) (hz := P.1.1) (h0 := P.1.2.1) (h1 := P.1.2.2.1) (hb := by omega) (hd := by decide)) (fun o h q => ?_)
    rcases q with ⟨z, q1, al, xt, fz⟩ | ⟨E, q1, al, xt, fz⟩
    · exact Or.inl ⟨z, q1, al, ⟨A.1.eq (fun i i1 => fz.2.2.2.1 i (by omega) (by simp only [List.mem_cons, List.not_mem_nil, or_false, not_or]; omega)), ⟨fz.at (by decide) (by decide) A.2.2.2.2.2.2.1.1, xt⟩, A.2.2.2.2.2.2.2.eq (fun i i1 i2 => fz.2.2.2.1 i (by omega) (by simp only [List.mem_cons, List.not_mem_nil, or_false, not_or]; omega))⟩, fz⟩
    · exact Or.inr ⟨E, q1, al, ⟨A.1.eq (fun i i1 => fz.2.2.2.1 i (by omega) (by simp only [List.mem_cons, List.not_mem_nil, or_false, not_or]; omega)), ⟨fz.at (by decide) (by decide) A.2.2.2.2.2.2.1.1, xt⟩, A.2.2.2.2.2.2.2.eq (fun i i1 i2 => fz.2.2.2.1 i (by omega) (by simp only [List.mem_cons, List.not_mem_nil, or_false, not_or]; omega))⟩, fz⟩
  refine q_op (l := [1, 2]) (K := [57]) (M := fun c b => (c = 0 ∧ (-12 ≤ x0 ∧ x0 ≤ 12 ∧ 0 < S 0 ∧ 0 < S 1 ∧ -S 2 ≤ S 0 - S 1 ∧ S 0 - S 1 ≤ S 2) ∧ b = cst S x0 (S 2)) ∨ (c = 1 ∧ (¬ (-12 ≤ x0 ∧ x0 ≤ 12))) ∨ (c = 2 ∧ (-12 ≤ x0 ∧ x0 ≤ 12 ∧ ¬ (0 < S 0 ∧ 0 < S 1 ∧ -S 2 ≤ S 0 - S 1 ∧ S 0 - S 1 ≤ S 2)))) B A Y P (by decide) (c_L_costWithShift (d := 9) a28 hc (fun z h q => ?_) (fun E h q => ?_)) (by simp only [List.mem_cons, List.not_mem_nil, or_false]; omega) (fun h1 Y1 => ?_) (fun z c b h g => ?_) (fun E c b hE h g => ?_)
  · obtain ⟨u, e⟩ := B.2.2.2.1
    exact ⟨u, q.2.2.at (by decide) (by decide) e⟩
  · have q := q.1
    rcases q with ⟨q0, -⟩ | ⟨q0, -⟩ | ⟨q0, -⟩
    · cases q0
    · exact Or.inl (Option.some.inj q0)
    · exact Or.inr (Option.some.inj q0)
  · obtain ⟨m63, m64, m65, m66, m67, ⟨u68, m68⟩, ⟨u69, m69⟩, ⟨u70, m70⟩, ⟨u71, m71⟩, ⟨u72, m72⟩, ⟨u73, m73⟩, ⟨u74, m74⟩, ⟨u75, m75⟩⟩ := Y1
    refine Ev.imp (c_X9_costWithShift (b := x0) (hM := m63) (hS := m64) (hz := P.1.1) (h0 := P.1.2.1) (h1 := P.1.2.2.1) (hA := m70) (ht := by omega) (hd := by decide)) (fun o h q => ?_)
    obtain ⟨b, q1, c, e63, al, s70, fr⟩ := q
    exact ⟨b, q1, c, vup v 0 c, al, ⟨rfl, rfl, rfl, rfl⟩, ⟨e63, fr.at (by decide) m64, fr.at (by decide) m65, fr.at (by decide) m66, fr.at (by decide) m67, ⟨_, fr.at (by decide) m68⟩, ⟨_, fr.at (by decide) m69⟩, s70, ⟨_, fr.at (by decide) m71⟩, ⟨_, fr.at (by decide) m72⟩, ⟨_, fr.at (by decide) m73⟩, ⟨_, fr.at (by decide) m74⟩, ⟨_, fr.at (by decide) m75⟩⟩, fr.mono (by decide)⟩
  · rcases h with ⟨h0, h⟩ | ⟨h0, h⟩ | ⟨h0, h⟩
    · rcases g with ⟨g0, g⟩ | ⟨g0, g⟩ | ⟨g0, g⟩
      · first | exact ⟨g0, by omega⟩ | exact ⟨g0, g.2.trans h.2.symm⟩
      · first | (exfalso; omega)
      · first | (exfalso; omega)
    · cases h0
    · cases h0
  · rcases h with ⟨h0, h⟩ | ⟨h0, h⟩ | ⟨h0, h⟩
    · cases h0
    · rcases g with ⟨g0, g⟩ | ⟨g0, g⟩ | ⟨g0, g⟩
      · first | (exfalso; omega)
      · (have e9 := Option.some.inj h0; subst e9; first | exact g0 | (exfalso; omega) | skip)
      · (have e9 := Option.some.inj h0; subst e9; first | exact g0 | (exfalso; omega) | skip)
    · rcases g with ⟨g0, g⟩ | ⟨g0, g⟩ | ⟨g0, g⟩
      · first | (exfalso; omega)
      · (have e9 := Option.some.inj h0; subst e9; first | exact g0 | (exfalso; omega) | skip)
      · (have e9 := Option.some.inj h0; subst e9; first | exact g0 | (exfalso; omega) | skip)
theorem op_bestShift {L : Nat} {F0 : Int → Int} {hp : xH} (H : yRel L F0 hp) : Cv 10 301 [.ref 28, .ref 76] hp (yE (fun k h1 => yMid L F0 h1 (Cv 10 242 [.ref 63] h1 (yE (fun b h2 => yOut L F0 hp k b h2))))) := by
  obtain ⟨v, S, T, N, X, B, A, Y, P⟩ := H
  have ok1 := P.1.1
  have pa := okS_pa P.1
  have ok5 : -1 ≤ S 5 ∧ S 5 ≤ 60 := by have := P.1.2.2.2; omega
  obtain ⟨od, a28, aM⟩ := A.1
  obtain ⟨z0, o0, f0, g0, r0, t0, aS, aSt⟩ := A.2.1
  obtain ⟨t57, a57⟩ := A.2.2.2.2.2.2.1.2
  have hc : Cv 9 112 [.ref 28] hp (yA (fun e z h => ((e = none ∧ (0 < S 0 ∧ 0 < S 1 ∧ -S 2 ≤ S 0 - S 1 ∧ S 0 - S 1 ≤ S 2) ∧ z = (shb (fun x => cst S x (S 2)) 12).1) ∨ (e = some 2 ∧ (¬ (0 < S 0 ∧ 0 < S 1 ∧ -S 2 ≤ S 0 - S 1 ∧ S 0 - S 1 ≤ S 2)))) ∧ (kA h (v 5) (v 7) S ∧ kG h ∧ kP h) ∧ yfz [57] hp h)) := by
    refine Ev.imp (c_X8_bestShift  (h28 := a28) (h56 := A.2.2.2.2.2.2.1.1) (h57 := a57) (hS := aS) (hz := P.1.1) (h0 := P.1.2.1) (h1 := P.1.2.2.1) (hd := by decide)) (fun o h q => ?_)
    rcases q with ⟨z, q1, al, xt, fz⟩ | ⟨E, q1, al, xt, fz⟩
    · exact Or.inl ⟨z, q1, al, ⟨A.1.eq (fun i i1 => fz.2.2.2.1 i (by omega) (by simp only [List.mem_cons, List.not_mem_nil, or_false, not_or]; omega)), ⟨fz.at (by decide) (by decide) A.2.2.2.2.2.2.1.1, xt⟩, A.2.2.2.2.2.2.2.eq (fun i i1 i2 => fz.2.2.2.1 i (by omega) (by simp only [List.mem_cons, List.not_mem_nil, or_false, not_or]; omega))⟩, fz⟩
    · exact Or.inr ⟨E, q1, al, ⟨A.1.eq (fun i i1 => fz.2.2.2.1 i (by omega) (by simp only [List.mem_cons, List.not_mem_nil, or_false, not_or]; omega)), ⟨fz.at (by decide) (by decide) A.2.2.2.2.2.2.1.1, xt⟩, A.2.2.2.2.2.2.2.eq (fun i i1 i2 => fz.2.2.2.1 i (by omega) (by simp only [List.mem_cons, List.not_mem_nil, or_false, not_or]; omega))⟩, fz⟩
  refine q_op (l := [2]) (K := [57]) (M := fun c b => (c = 0 ∧ (0 < S 0 ∧ 0 < S 1 ∧ -S 2 ≤ S 0 - S 1 ∧ S 0 - S 1 ≤ S 2) ∧ b = (shb (fun x => cst S x (S 2)) 12).1) ∨ (c = 1 ∧ (¬ (0 < S 0 ∧ 0 < S 1 ∧ -S 2 ≤ S 0 - S 1 ∧ S 0 - S 1 ≤ S 2)))) B A Y P (by decide) (c_L_bestShift (d := 9) a28 hc (fun z h q => ?_) (fun E h q => ?_)) (by simp only [List.mem_cons, List.not_mem_nil, or_false]; omega) (fun h1 Y1 => ?_) (fun z c b h g => ?_) (fun E c b hE h g => ?_)
  · obtain ⟨u, e⟩ := B.2.2.2.1
    exact ⟨u, q.2.2.at (by decide) (by decide) e⟩
  · have q := q.1
    rcases q with ⟨q0, -⟩ | ⟨q0, -⟩
    · cases q0
    · exact Option.some.inj q0
  · obtain ⟨m63, m64, m65, m66, m67, ⟨u68, m68⟩, ⟨u69, m69⟩, ⟨u70, m70⟩, ⟨u71, m71⟩, ⟨u72, m72⟩, ⟨u73, m73⟩, ⟨u74, m74⟩, ⟨u75, m75⟩⟩ := Y1
    refine Ev.imp (c_X9_bestShift  (hM := m63) (hS := m64) (hz := P.1.1) (h0 := P.1.2.1) (h1 := P.1.2.2.1) (hA := m70) (hd := by decide)) (fun o h q => ?_)
    obtain ⟨b, q1, c, e63, al, s70, fr⟩ := q
    exact ⟨b, q1, c, vup v 0 c, al, ⟨rfl, rfl, rfl, rfl⟩, ⟨e63, fr.at (by decide) m64, fr.at (by decide) m65, fr.at (by decide) m66, fr.at (by decide) m67, ⟨_, fr.at (by decide) m68⟩, ⟨_, fr.at (by decide) m69⟩, s70, ⟨_, fr.at (by decide) m71⟩, ⟨_, fr.at (by decide) m72⟩, ⟨_, fr.at (by decide) m73⟩, ⟨_, fr.at (by decide) m74⟩, ⟨_, fr.at (by decide) m75⟩⟩, fr.mono (by decide)⟩
  · rcases h with ⟨h0, h⟩ | ⟨h0, h⟩
    · rcases g with ⟨g0, g⟩ | ⟨g0, g⟩
      · first | exact ⟨g0, by omega⟩ | exact ⟨g0, g.2.trans h.2.symm⟩
      · first | (exfalso; omega)
    · cases h0
  · rcases h with ⟨h0, h⟩ | ⟨h0, h⟩
    · cases h0
    · rcases g with ⟨g0, g⟩ | ⟨g0, g⟩
      · first | (exfalso; omega)
      · (have e9 := Option.some.inj h0; subst e9; first | exact g0 | (exfalso; omega) | skip)
theorem op_costWithBound {L : Nat} {F0 : Int → Int} {hp : xH} (H : yRel L F0 hp) {x0 : Int} (hx : -2147483648 ≤ x0 ∧ x0 ≤ 2147483647) : Cv 10 302 [.ref 28, yi x0, .ref 76] hp (yE (fun k h1 => yMid L F0 h1 (Cv 10 243 [.ref 63, yi x0] h1 (yE (fun b h2 => yOut L F0 hp k b h2))))) := by
  obtain ⟨v, S, T, N, X, B, A, Y, P⟩ := H
  have ok1 := P.1.1
  have pa := okS_pa P.1
  have ok5 : -1 ≤ S 5 ∧ S 5 ≤ 60 := by have := P.1.2.2.2; omega
  obtain ⟨od, a28, aM⟩ := A.1
  obtain ⟨z0, o0, f0, g0, r0, t0, aS, aSt⟩ := A.2.1
  obtain ⟨t57, a57⟩ := A.2.2.2.2.2.2.1.2
  have hc : Cv 9 113 [.ref 28, yi x0] hp (yA (fun e z h => ((e = none ∧ (0 ≤ x0 ∧ x0 ≤ 20) ∧ z = (if cst S 0 x0 < 100000000 then cst S 0 x0 else -1)) ∨ (e = some 1 ∧ (¬ (0 ≤ x0 ∧ x0 ≤ 20)))) ∧ (kA h (v 5) (v 7) S ∧ kG h ∧ kP h) ∧ yfz [57] hp h)) := by
    refine Ev.imp (c_X8_costWithBound (n := x0) (h28 := a28) (h56 := A.2.2.2.2.2.2.1.1) (h57 := a57) (hS := aS) (hz := P.1.1) (h0 := P.1.2.1) (h1 := P.1.2.2.1) (hn := by omega) (hd := by decide)) (fun o h q => ?_)
    rcases q with ⟨z, q1, al, xt, fz⟩ | ⟨E, q1, al, xt, fz⟩
    · exact Or.inl ⟨z, q1, al, ⟨A.1.eq (fun i i1 => fz.2.2.2.1 i (by omega) (by simp only [List.mem_cons, List.not_mem_nil, or_false, not_or]; omega)), ⟨fz.at (by decide) (by decide) A.2.2.2.2.2.2.1.1, xt⟩, A.2.2.2.2.2.2.2.eq (fun i i1 i2 => fz.2.2.2.1 i (by omega) (by simp only [List.mem_cons, List.not_mem_nil, or_false, not_or]; omega))⟩, fz⟩
    · exact Or.inr ⟨E, q1, al, ⟨A.1.eq (fun i i1 => fz.2.2.2.1 i (by omega) (by simp only [List.mem_cons, List.not_mem_nil, or_false, not_or]; omega)), ⟨fz.at (by decide) (by decide) A.2.2.2.2.2.2.1.1, xt⟩, A.2.2.2.2.2.2.2.eq (fun i i1 i2 => fz.2.2.2.1 i (by omega) (by simp only [List.mem_cons, List.not_mem_nil, or_false, not_or]; omega))⟩, fz⟩
  refine q_op (l := [1]) (K := [57]) (M := fun c b => (c = 0 ∧ (0 ≤ x0 ∧ x0 ≤ 20) ∧ b = (if cst S 0 x0 < 100000000 then cst S 0 x0 else -1)) ∨ (c = 1 ∧ (¬ (0 ≤ x0 ∧ x0 ≤ 20)))) B A Y P (by decide) (c_L_costWithBound (d := 9) a28 hc (fun z h q => ?_) (fun E h q => ?_)) (by simp only [List.mem_cons, List.not_mem_nil, or_false]; omega) (fun h1 Y1 => ?_) (fun z c b h g => ?_) (fun E c b hE h g => ?_)
  · obtain ⟨u, e⟩ := B.2.2.2.1
    exact ⟨u, q.2.2.at (by decide) (by decide) e⟩
  · have q := q.1
    rcases q with ⟨q0, -⟩ | ⟨q0, -⟩
    · cases q0
    · exact Option.some.inj q0
  · obtain ⟨m63, m64, m65, m66, m67, ⟨u68, m68⟩, ⟨u69, m69⟩, ⟨u70, m70⟩, ⟨u71, m71⟩, ⟨u72, m72⟩, ⟨u73, m73⟩, ⟨u74, m74⟩, ⟨u75, m75⟩⟩ := Y1
    refine Ev.imp (c_X9_costWithBound (n := x0) (hM := m63) (hS := m64) (hz := P.1.1) (h0 := P.1.2.1) (h1 := P.1.2.2.1) (hA := m70) (ht := by omega) (hd := by decide)) (fun o h q => ?_)
    obtain ⟨b, q1, c, e63, al, s70, fr⟩ := q
    exact ⟨b, q1, c, vup v 0 c, al, ⟨rfl, rfl, rfl, rfl⟩, ⟨e63, fr.at (by decide) m64, fr.at (by decide) m65, fr.at (by decide) m66, fr.at (by decide) m67, ⟨_, fr.at (by decide) m68⟩, ⟨_, fr.at (by decide) m69⟩, s70, ⟨_, fr.at (by decide) m71⟩, ⟨_, fr.at (by decide) m72⟩, ⟨_, fr.at (by decide) m73⟩, ⟨_, fr.at (by decide) m74⟩, ⟨_, fr.at (by decide) m75⟩⟩, fr.mono (by decide)⟩
  · rcases h with ⟨h0, h⟩ | ⟨h0, h⟩
    · rcases g with ⟨g0, g⟩ | ⟨g0, g⟩
      · first | exact ⟨g0, by omega⟩ | exact ⟨g0, g.2.trans h.2.symm⟩
      · first | (exfalso; omega)
    · cases h0
  · rcases h with ⟨h0, h⟩ | ⟨h0, h⟩
    · cases h0
    · rcases g with ⟨g0, g⟩ | ⟨g0, g⟩
      · first | (exfalso; omega)
      · (have e9 := Option.some.inj h0; subst e9; first | exact g0 | (exfalso; omega) | skip)
theorem op_neededBound {L : Nat} {F0 : Int → Int} {hp : xH} (H : yRel L F0 hp) : Cv 10 114 [.ref 28] hp (yE (fun k h1 => yMid L F0 h1 (Cv 10 244 [.ref 63] h1 (yE (fun b h2 => yOut0 L F0 hp k b h2))))) := by
  obtain ⟨v, S, T, N, X, B, A, Y, P⟩ := H
  have ok1 := P.1.1
  have pa := okS_pa P.1
  have ok5 : -1 ≤ S 5 ∧ S 5 ≤ 60 := by have := P.1.2.2.2; omega
  obtain ⟨od, a28, aM⟩ := A.1
  obtain ⟨z0, o0, f0, g0, r0, t0, aS, aSt⟩ := A.2.1
  obtain ⟨t57, a57⟩ := A.2.2.2.2.2.2.1.2
  have hc : Cv 10 114 [.ref 28] hp (yE (fun z h => ((((S 0 = 0 ∨ S 1 = 0) ∧ z = -1) ∨ (¬ (S 0 = 0 ∨ S 1 = 0) ∧ 0 ≤ z ∧ z ≤ 20 ∧ cst S 0 z = cst S 0 20 ∧ ∀ x, 0 ≤ x → x < z → ¬ cst S 0 x = cst S 0 20))) ∧ (kA h (v 5) (v 7) S ∧ kG h ∧ kP h) ∧ yfz [57] hp h)) := by
    refine Ev.imp (c_X8_neededBound  (h28 := a28) (h56 := A.2.2.2.2.2.2.1.1) (h57 := a57) (hS := aS) (hz := P.1.1) (h0 := P.1.2.1) (h1 := P.1.2.2.1) (hd := by decide)) (fun o h q => ?_)
    rcases q with ⟨z, q1, al, xt, fz⟩ | ⟨E, q1, al, xt, fz⟩
    · exact ⟨z, q1, al.2, ⟨A.1.eq (fun i i1 => fz.2.2.2.1 i (by omega) (by simp only [List.mem_cons, List.not_mem_nil, or_false, not_or]; omega)), ⟨fz.at (by decide) (by decide) A.2.2.2.2.2.2.1.1, xt⟩, A.2.2.2.2.2.2.2.eq (fun i i1 i2 => fz.2.2.2.1 i (by omega) (by simp only [List.mem_cons, List.not_mem_nil, or_false, not_or]; omega))⟩, fz⟩
    · cases al.1
  refine q_op0 (K := [57]) (M := fun c b => c = 0 ∧ (((S 0 = 0 ∨ S 1 = 0) ∧ b = -1) ∨ (¬ (S 0 = 0 ∨ S 1 = 0) ∧ 0 ≤ b ∧ b ≤ 20 ∧ cst S 0 b = cst S 0 20 ∧ ∀ x, 0 ≤ x → x < b → ¬ cst S 0 x = cst S 0 20))) B A Y P hc (by simp only [List.mem_cons, List.not_mem_nil, or_false]; omega) (fun h1 Y1 => ?_) (fun z c b h g => ?_)
  · obtain ⟨m63, m64, m65, m66, m67, ⟨u68, m68⟩, ⟨u69, m69⟩, ⟨u70, m70⟩, ⟨u71, m71⟩, ⟨u72, m72⟩, ⟨u73, m73⟩, ⟨u74, m74⟩, ⟨u75, m75⟩⟩ := Y1
    refine Ev.imp (c_X9_neededBound  (hM := m63) (hS := m64) (hz := P.1.1) (h0 := P.1.2.1) (h1 := P.1.2.2.1) (hA := m70) (hd := by decide)) (fun o h q => ?_)
    obtain ⟨b, q1, c, e63, al, s70, fr⟩ := q
    exact ⟨b, q1, c, vup v 0 c, al, ⟨rfl, rfl, rfl, rfl⟩, ⟨e63, fr.at (by decide) m64, fr.at (by decide) m65, fr.at (by decide) m66, fr.at (by decide) m67, ⟨_, fr.at (by decide) m68⟩, ⟨_, fr.at (by decide) m69⟩, s70, ⟨_, fr.at (by decide) m71⟩, ⟨_, fr.at (by decide) m72⟩, ⟨_, fr.at (by decide) m73⟩, ⟨_, fr.at (by decide) m74⟩, ⟨_, fr.at (by decide) m75⟩⟩, fr.mono (by decide)⟩
  · obtain ⟨g0, g⟩ := g
    first | omega | exact g.2.trans h.2.symm | exact (by (rcases h with h | h <;> rcases g with g | g <;> first | omega | exact need_uni g.2 h.2))
