/-! Questions, side by side: what is there. -/
theorem op_hasStopped {L : Nat} {F0 : Int → Int} {hp : xH} (H : yRel L F0 hp) : Cv 10 84 [.ref 28] hp (yE (fun k h1 => yMid L F0 h1 (Cv 10 211 [.ref 63] h1 (yE (fun b h2 => yOut0 L F0 hp k b h2))))) := by
  obtain ⟨v, S, T, N, X, B, A, Y, P⟩ := H
  have ok1 := P.1.1
  have pa := okS_pa P.1
  have ok5 : -1 ≤ S 5 ∧ S 5 ≤ 60 := by have := P.1.2.2.2; omega
  obtain ⟨od, a28, aM⟩ := A.1
  obtain ⟨z0, o0, f0, g0, r0, t0, aS, aSt⟩ := A.2.1
  have hc : Cv 10 84 [.ref 28] hp (yE (fun z h => ((True) ∧ z = b2 (¬ S 5 = -1)) ∧ (kA h (v 5) (v 7) S ∧ kG h ∧ kP h) ∧ yfz [] hp h)) := by
    refine Ev.imp (c_X8_hasStopped  (h28 := a28) (hS := aS) (hst := aSt)) (fun o h q => ?_)
    rcases q with ⟨z, q1, al, fz⟩ | ⟨E, q1, al, fz⟩
    · exact ⟨z, q1, al.2, ⟨A.1.eq (fun i i1 => fz.2.2.2.1 i (by omega) (List.not_mem_nil)), A.2.2.2.2.2.2.1.eq (fun i i1 i2 => fz.2.2.2.1 i (by omega) (List.not_mem_nil)), A.2.2.2.2.2.2.2.eq (fun i i1 i2 => fz.2.2.2.1 i (by omega) (List.not_mem_nil))⟩, fz⟩
    · cases al.1
  refine q_op0 (K := []) (M := fun c b => c = 0 ∧ (True) ∧ b = b2 (¬ S 5 = -1)) B A Y P hc (fun i hi => absurd hi List.not_mem_nil) (fun h1 Y1 => ?_) (fun z c b h g => ?_)
  · obtain ⟨m63, m64, m65, m66, m67, ⟨u68, m68⟩, ⟨u69, m69⟩, ⟨u70, m70⟩, ⟨u71, m71⟩, ⟨u72, m72⟩, ⟨u73, m73⟩, ⟨u74, m74⟩, ⟨u75, m75⟩⟩ := Y1
    refine Ev.imp (c_X9_hasStopped  (hM := m63) (hS := m64) (hs := by omega)) (fun o h q => ?_)
    obtain ⟨b, q1, c, e63, al, fr⟩ := q
    exact ⟨b, q1, c, vup v 0 c, al, ⟨rfl, rfl, rfl, rfl⟩, ⟨e63, fr.at (by decide) m64, fr.at (by decide) m65, fr.at (by decide) m66, fr.at (by decide) m67, ⟨_, fr.at (by decide) m68⟩, ⟨_, fr.at (by decide) m69⟩, ⟨_, fr.at (by decide) m70⟩, ⟨_, fr.at (by decide) m71⟩, ⟨_, fr.at (by decide) m72⟩, ⟨_, fr.at (by decide) m73⟩, ⟨_, fr.at (by decide) m74⟩, ⟨_, fr.at (by decide) m75⟩⟩, fr.mono (by decide)⟩
  · obtain ⟨g0, g⟩ := g
    first | omega | exact g.2.trans h.2.symm
theorem op_stoppedPart {L : Nat} {F0 : Int → Int} {hp : xH} (H : yRel L F0 hp) : Cv 10 283 [.ref 28, .ref 76] hp (yE (fun k h1 => yMid L F0 h1 (Cv 10 212 [.ref 63] h1 (yE (fun b h2 => yOut L F0 hp k b h2))))) := by
  obtain ⟨v, S, T, N, X, B, A, Y, P⟩ := H
  have ok1 := P.1.1
  have pa := okS_pa P.1
  have ok5 : -1 ≤ S 5 ∧ S 5 ≤ 60 := by have := P.1.2.2.2; omega
  obtain ⟨od, a28, aM⟩ := A.1
  obtain ⟨z0, o0, f0, g0, r0, t0, aS, aSt⟩ := A.2.1
  have hc : Cv 9 85 [.ref 28] hp (yA (fun e z h => ((e = none ∧ (¬ S 5 = -1) ∧ z = S 5) ∨ (e = some 2 ∧ (S 5 = -1))) ∧ (kA h (v 5) (v 7) S ∧ kG h ∧ kP h) ∧ yfz [] hp h)) := by
    refine Ev.imp (c_X8_stoppedPart  (h28 := a28) (hS := aS) (hst := aSt) (hd := by decide)) (fun o h q => ?_)
    rcases q with ⟨z, q1, al, fz⟩ | ⟨E, q1, al, fz⟩
    · exact Or.inl ⟨z, q1, al, ⟨A.1.eq (fun i i1 => fz.2.2.2.1 i (by omega) (List.not_mem_nil)), A.2.2.2.2.2.2.1.eq (fun i i1 i2 => fz.2.2.2.1 i (by omega) (List.not_mem_nil)), A.2.2.2.2.2.2.2.eq (fun i i1 i2 => fz.2.2.2.1 i (by omega) (List.not_mem_nil))⟩, fz⟩
    · exact Or.inr ⟨E, q1, al, ⟨A.1.eq (fun i i1 => fz.2.2.2.1 i (by omega) (List.not_mem_nil)), A.2.2.2.2.2.2.1.eq (fun i i1 i2 => fz.2.2.2.1 i (by omega) (List.not_mem_nil)), A.2.2.2.2.2.2.2.eq (fun i i1 i2 => fz.2.2.2.1 i (by omega) (List.not_mem_nil))⟩, fz⟩
  refine q_op (l := [2]) (K := []) (M := fun c b => (c = 0 ∧ (¬ S 5 = -1) ∧ b = S 5) ∨ (c = 1 ∧ (S 5 = -1))) B A Y P (by decide) (c_L_stoppedPart (d := 9) a28 hc (fun z h q => ?_) (fun E h q => ?_)) (fun i hi => absurd hi List.not_mem_nil) (fun h1 Y1 => ?_) (fun z c b h g => ?_) (fun E c b hE h g => ?_)
  · obtain ⟨u, e⟩ := B.2.2.2.1
    exact ⟨u, q.2.2.at (by decide) (by decide) e⟩
  · have q := q.1
    rcases q with ⟨q0, -⟩ | ⟨q0, -⟩
    · cases q0
    · exact Option.some.inj q0
  · obtain ⟨m63, m64, m65, m66, m67, ⟨u68, m68⟩, ⟨u69, m69⟩, ⟨u70, m70⟩, ⟨u71, m71⟩, ⟨u72, m72⟩, ⟨u73, m73⟩, ⟨u74, m74⟩, ⟨u75, m75⟩⟩ := Y1
    refine Ev.imp (c_X9_stoppedPart  (hM := m63) (hS := m64) (hs := by omega) (hd := by decide)) (fun o h q => ?_)
    obtain ⟨b, q1, c, e63, al, fr⟩ := q
    exact ⟨b, q1, c, vup v 0 c, al, ⟨rfl, rfl, rfl, rfl⟩, ⟨e63, fr.at (by decide) m64, fr.at (by decide) m65, fr.at (by decide) m66, fr.at (by decide) m67, ⟨_, fr.at (by decide) m68⟩, ⟨_, fr.at (by decide) m69⟩, ⟨_, fr.at (by decide) m70⟩, ⟨_, fr.at (by decide) m71⟩, ⟨_, fr.at (by decide) m72⟩, ⟨_, fr.at (by decide) m73⟩, ⟨_, fr.at (by decide) m74⟩, ⟨_, fr.at (by decide) m75⟩⟩, fr.mono (by decide)⟩
  · rcases h with ⟨h0, h⟩ | ⟨h0, h⟩
    · rcases g with ⟨g0, g⟩ | ⟨g0, g⟩
      · first | exact ⟨g0, by omega⟩ | exact ⟨g0, g.2.trans h.2.symm⟩
      · first | (exfalso; omega)
    · cases h0
  · rcases h with ⟨h0, h⟩ | ⟨h0, h⟩
    · cases h0
    · rcases g with ⟨g0, g⟩ | ⟨g0, g⟩
      · first | (exfalso; omega)
      · (have e9 := Option.some.inj h0; subst e9; first | exact g0 | (exfalso; omega) | skip)
theorem op_whyStopped {L : Nat} {F0 : Int → Int} {hp : xH} (H : yRel L F0 hp) : Cv 10 284 [.ref 28, .ref 76] hp (yE (fun k h1 => yMid L F0 h1 (Cv 10 213 [.ref 63] h1 (yE (fun b h2 => yOut L F0 hp k b h2))))) := by
  obtain ⟨v, S, T, N, X, B, A, Y, P⟩ := H
  have ok1 := P.1.1
  have pa := okS_pa P.1
  have ok5 : -1 ≤ S 5 ∧ S 5 ≤ 60 := by have := P.1.2.2.2; omega
  obtain ⟨od, a28, aM⟩ := A.1
  obtain ⟨z0, o0, f0, g0, r0, t0, aS, aSt⟩ := A.2.1
  have hc : Cv 9 86 [.ref 28] hp (yA (fun e z h => ((e = none ∧ (¬ S 5 = -1) ∧ z = S 6) ∨ (e = some 2 ∧ (S 5 = -1))) ∧ (kA h (v 5) (v 7) S ∧ kG h ∧ kP h) ∧ yfz [] hp h)) := by
    refine Ev.imp (c_X8_whyStopped  (h28 := a28) (hS := aS) (hst := aSt) (hd := by decide)) (fun o h q => ?_)
    rcases q with ⟨z, q1, al, fz⟩ | ⟨E, q1, al, fz⟩
    · exact Or.inl ⟨z, q1, al, ⟨A.1.eq (fun i i1 => fz.2.2.2.1 i (by omega) (List.not_mem_nil)), A.2.2.2.2.2.2.1.eq (fun i i1 i2 => fz.2.2.2.1 i (by omega) (List.not_mem_nil)), A.2.2.2.2.2.2.2.eq (fun i i1 i2 => fz.2.2.2.1 i (by omega) (List.not_mem_nil))⟩, fz⟩
    · exact Or.inr ⟨E, q1, al, ⟨A.1.eq (fun i i1 => fz.2.2.2.1 i (by omega) (List.not_mem_nil)), A.2.2.2.2.2.2.1.eq (fun i i1 i2 => fz.2.2.2.1 i (by omega) (List.not_mem_nil)), A.2.2.2.2.2.2.2.eq (fun i i1 i2 => fz.2.2.2.1 i (by omega) (List.not_mem_nil))⟩, fz⟩
  refine q_op (l := [2]) (K := []) (M := fun c b => (c = 0 ∧ (¬ S 5 = -1) ∧ b = S 6) ∨ (c = 1 ∧ (S 5 = -1))) B A Y P (by decide) (c_L_whyStopped (d := 9) a28 hc (fun z h q => ?_) (fun E h q => ?_)) (fun i hi => absurd hi List.not_mem_nil) (fun h1 Y1 => ?_) (fun z c b h g => ?_) (fun E c b hE h g => ?_)
  · obtain ⟨u, e⟩ := B.2.2.2.1
    exact ⟨u, q.2.2.at (by decide) (by decide) e⟩
  · have q := q.1
    rcases q with ⟨q0, -⟩ | ⟨q0, -⟩
    · cases q0
    · exact Option.some.inj q0
  · obtain ⟨m63, m64, m65, m66, m67, ⟨u68, m68⟩, ⟨u69, m69⟩, ⟨u70, m70⟩, ⟨u71, m71⟩, ⟨u72, m72⟩, ⟨u73, m73⟩, ⟨u74, m74⟩, ⟨u75, m75⟩⟩ := Y1
    refine Ev.imp (c_X9_whyStopped  (hM := m63) (hS := m64) (hs := by omega) (hd := by decide)) (fun o h q => ?_)
    obtain ⟨b, q1, c, e63, al, fr⟩ := q
    exact ⟨b, q1, c, vup v 0 c, al, ⟨rfl, rfl, rfl, rfl⟩, ⟨e63, fr.at (by decide) m64, fr.at (by decide) m65, fr.at (by decide) m66, fr.at (by decide) m67, ⟨_, fr.at (by decide) m68⟩, ⟨_, fr.at (by decide) m69⟩, ⟨_, fr.at (by decide) m70⟩, ⟨_, fr.at (by decide) m71⟩, ⟨_, fr.at (by decide) m72⟩, ⟨_, fr.at (by decide) m73⟩, ⟨_, fr.at (by decide) m74⟩, ⟨_, fr.at (by decide) m75⟩⟩, fr.mono (by decide)⟩
  · rcases h with ⟨h0, h⟩ | ⟨h0, h⟩
    · rcases g with ⟨g0, g⟩ | ⟨g0, g⟩
      · first | exact ⟨g0, by omega⟩ | exact ⟨g0, g.2.trans h.2.symm⟩
      · first | (exfalso; omega)
    · cases h0
  · rcases h with ⟨h0, h⟩ | ⟨h0, h⟩
    · cases h0
    · rcases g with ⟨g0, g⟩ | ⟨g0, g⟩
      · first | (exfalso; omega)
      · (have e9 := Option.some.inj h0; subst e9; first | exact g0 | (exfalso; omega) | skip)
theorem op_savedStates {L : Nat} {F0 : Int → Int} {hp : xH} (H : yRel L F0 hp) : Cv 10 90 [.ref 28] hp (yE (fun k h1 => yMid L F0 h1 (Cv 10 217 [.ref 63] h1 (yE (fun b h2 => yOut0 L F0 hp k b h2))))) := by
  obtain ⟨v, S, T, N, X, B, A, Y, P⟩ := H
  have ok1 := P.1.1
  have pa := okS_pa P.1
  have ok5 : -1 ≤ S 5 ∧ S 5 ≤ 60 := by have := P.1.2.2.2; omega
  obtain ⟨od, a28, aM⟩ := A.1
  obtain ⟨z0, o0, f0, g0, r0, t0, aS, aSt⟩ := A.2.1
  obtain ⟨mc, e0, F9, bs9, a34, -⟩ := A.2.2.1
  have hc : Cv 10 90 [.ref 28] hp (yE (fun z h => ((True) ∧ z = (v 3)) ∧ (kA h (v 5) (v 7) S ∧ kG h ∧ kP h) ∧ yfz [] hp h)) := by
    refine Ev.imp (c_X8_savedStates  (h28 := a28) (hS := aS) (h34 := a34) (hd := by decide)) (fun o h q => ?_)
    rcases q with ⟨z, q1, al, fz⟩ | ⟨E, q1, al, fz⟩
    · exact ⟨z, q1, al.2, ⟨A.1.eq (fun i i1 => fz.2.2.2.1 i (by omega) (List.not_mem_nil)), A.2.2.2.2.2.2.1.eq (fun i i1 i2 => fz.2.2.2.1 i (by omega) (List.not_mem_nil)), A.2.2.2.2.2.2.2.eq (fun i i1 i2 => fz.2.2.2.1 i (by omega) (List.not_mem_nil))⟩, fz⟩
    · cases al.1
  refine q_op0 (K := []) (M := fun c b => c = 0 ∧ (True) ∧ b = v 3) B A Y P hc (fun i hi => absurd hi List.not_mem_nil) (fun h1 Y1 => ?_) (fun z c b h g => ?_)
  · obtain ⟨m63, m64, m65, m66, m67, ⟨u68, m68⟩, ⟨u69, m69⟩, ⟨u70, m70⟩, ⟨u71, m71⟩, ⟨u72, m72⟩, ⟨u73, m73⟩, ⟨u74, m74⟩, ⟨u75, m75⟩⟩ := Y1
    refine Ev.imp (c_X9_savedStates  (hM := m63)) (fun o h q => ?_)
    obtain ⟨b, q1, c, e63, al, fr⟩ := q
    exact ⟨b, q1, c, vup v 0 c, al, ⟨rfl, rfl, rfl, rfl⟩, ⟨e63, fr.at (by decide) m64, fr.at (by decide) m65, fr.at (by decide) m66, fr.at (by decide) m67, ⟨_, fr.at (by decide) m68⟩, ⟨_, fr.at (by decide) m69⟩, ⟨_, fr.at (by decide) m70⟩, ⟨_, fr.at (by decide) m71⟩, ⟨_, fr.at (by decide) m72⟩, ⟨_, fr.at (by decide) m73⟩, ⟨_, fr.at (by decide) m74⟩, ⟨_, fr.at (by decide) m75⟩⟩, fr.mono (by decide)⟩
  · obtain ⟨g0, g⟩ := g
    first | omega | exact g.2.trans h.2.symm
theorem op_notes {L : Nat} {F0 : Int → Int} {hp : xH} (H : yRel L F0 hp) {x0 : Int} (hx : -2147483648 ≤ x0 ∧ x0 ≤ 2147483647) : Cv 10 287 [.ref 28, yi x0, .ref 76] hp (yE (fun k h1 => yMid L F0 h1 (Cv 10 218 [.ref 63, yi x0] h1 (yE (fun b h2 => yOut L F0 hp k b h2))))) := by
  obtain ⟨v, S, T, N, X, B, A, Y, P⟩ := H
  have ok1 := P.1.1
  have pa := okS_pa P.1
  have ok5 : -1 ≤ S 5 ∧ S 5 ≤ 60 := by have := P.1.2.2.2; omega
  obtain ⟨od, a28, aM⟩ := A.1
  obtain ⟨z0, o0, f0, g0, r0, t0, aS, aSt⟩ := A.2.1
  have hc : Cv 9 91 [.ref 28, yi x0] hp (yA (fun e z h => ((e = none ∧ (0 ≤ x0 ∧ x0 ≤ 1) ∧ z = S (0 + x0)) ∨ (e = some 0 ∧ (¬ (0 ≤ x0 ∧ x0 ≤ 1)))) ∧ (kA h (v 5) (v 7) S ∧ kG h ∧ kP h) ∧ yfz [] hp h)) := by
    refine Ev.imp (c_X8_notes (x := x0) (h28 := a28) (hS := aS) (hx := by omega) (hd := by decide)) (fun o h q => ?_)
    rcases q with ⟨z, q1, al, fz⟩ | ⟨E, q1, al, fz⟩
    · exact Or.inl ⟨z, q1, al, ⟨A.1.eq (fun i i1 => fz.2.2.2.1 i (by omega) (List.not_mem_nil)), A.2.2.2.2.2.2.1.eq (fun i i1 i2 => fz.2.2.2.1 i (by omega) (List.not_mem_nil)), A.2.2.2.2.2.2.2.eq (fun i i1 i2 => fz.2.2.2.1 i (by omega) (List.not_mem_nil))⟩, fz⟩
    · exact Or.inr ⟨E, q1, al, ⟨A.1.eq (fun i i1 => fz.2.2.2.1 i (by omega) (List.not_mem_nil)), A.2.2.2.2.2.2.1.eq (fun i i1 i2 => fz.2.2.2.1 i (by omega) (List.not_mem_nil)), A.2.2.2.2.2.2.2.eq (fun i i1 i2 => fz.2.2.2.1 i (by omega) (List.not_mem_nil))⟩, fz⟩
  refine q_op (l := [0]) (K := []) (M := fun c b => (c = 0 ∧ (0 ≤ x0 ∧ x0 ≤ 1) ∧ b = S (0 + x0)) ∨ (c = 1 ∧ (¬ (0 ≤ x0 ∧ x0 ≤ 1)))) B A Y P (by decide) (c_L_notes (d := 9) a28 hc (fun z h q => ?_) (fun E h q => ?_)) (fun i hi => absurd hi List.not_mem_nil) (fun h1 Y1 => ?_) (fun z c b h g => ?_) (fun E c b hE h g => ?_)
  · obtain ⟨u, e⟩ := B.2.2.2.1
    exact ⟨u, q.2.2.at (by decide) (by decide) e⟩
  · have q := q.1
    rcases q with ⟨q0, -⟩ | ⟨q0, -⟩
    · cases q0
    · exact Option.some.inj q0
  · obtain ⟨m63, m64, m65, m66, m67, ⟨u68, m68⟩, ⟨u69, m69⟩, ⟨u70, m70⟩, ⟨u71, m71⟩, ⟨u72, m72⟩, ⟨u73, m73⟩, ⟨u74, m74⟩, ⟨u75, m75⟩⟩ := Y1
    refine Ev.imp (c_X9_notes (t := x0) (hM := m63) (hS := m64) (hl := by omega) (ht := by omega) (hd := by decide)) (fun o h q => ?_)
    obtain ⟨b, q1, c, e63, al, fr⟩ := q
    exact ⟨b, q1, c, vup v 0 c, al, ⟨rfl, rfl, rfl, rfl⟩, ⟨e63, fr.at (by decide) m64, fr.at (by decide) m65, fr.at (by decide) m66, fr.at (by decide) m67, ⟨_, fr.at (by decide) m68⟩, ⟨_, fr.at (by decide) m69⟩, ⟨_, fr.at (by decide) m70⟩, ⟨_, fr.at (by decide) m71⟩, ⟨_, fr.at (by decide) m72⟩, ⟨_, fr.at (by decide) m73⟩, ⟨_, fr.at (by decide) m74⟩, ⟨_, fr.at (by decide) m75⟩⟩, fr.mono (by decide)⟩
  · rcases h with ⟨h0, h⟩ | ⟨h0, h⟩
    · rcases g with ⟨g0, g⟩ | ⟨g0, g⟩
      · first | exact ⟨g0, by omega⟩ | exact ⟨g0, g.2.trans h.2.symm⟩
      · first | (exfalso; omega)
    · cases h0
  · rcases h with ⟨h0, h⟩ | ⟨h0, h⟩
    · cases h0
    · rcases g with ⟨g0, g⟩ | ⟨g0, g⟩
      · first | (exfalso; omega)
      · (have e9 := Option.some.inj h0; subst e9; first | exact g0 | (exfalso; omega) | skip)
theorem op_pitch {L : Nat} {F0 : Int → Int} {hp : xH} (H : yRel L F0 hp) {x0 x1 : Int} (hx : -2147483648 ≤ x0 ∧ x0 ≤ 2147483647 ∧ -2147483648 ≤ x1 ∧ x1 ≤ 2147483647) : Cv 10 288 [.ref 28, yi x0, yi x1, .ref 76] hp (yE (fun k h1 => yMid L F0 h1 (Cv 10 219 [.ref 63, yi x0, yi x1] h1 (yE (fun b h2 => yOut L F0 hp k b h2))))) := by
  obtain ⟨v, S, T, N, X, B, A, Y, P⟩ := H
  have ok1 := P.1.1
  have pa := okS_pa P.1
  have ok5 : -1 ≤ S 5 ∧ S 5 ≤ 60 := by have := P.1.2.2.2; omega
  obtain ⟨od, a28, aM⟩ := A.1
  obtain ⟨z0, o0, f0, g0, r0, t0, aS, aSt⟩ := A.2.1
  have hc : Cv 9 92 [.ref 28, yi x0, yi x1] hp (yA (fun e z h => ((e = none ∧ (0 ≤ x0 ∧ x0 ≤ 1 ∧ 0 ≤ x1 ∧ x1 < S (0 + x0)) ∧ z = S (7 + 20 * x0 + x1)) ∨ (e = some 0 ∧ (¬ (0 ≤ x0 ∧ x0 ≤ 1 ∧ 0 ≤ x1 ∧ x1 < S (0 + x0))))) ∧ (kA h (v 5) (v 7) S ∧ kG h ∧ kP h) ∧ yfz [] hp h)) := by
    refine Ev.imp (c_X8_pitch (x := x0) (k := x1) (h28 := a28) (hS := aS) (hl := (by omega)) (hx := by omega) (hd := by decide)) (fun o h q => ?_)
    rcases q with ⟨z, q1, al, fz⟩ | ⟨E, q1, al, fz⟩
    · exact Or.inl ⟨z, q1, al, ⟨A.1.eq (fun i i1 => fz.2.2.2.1 i (by omega) (List.not_mem_nil)), A.2.2.2.2.2.2.1.eq (fun i i1 i2 => fz.2.2.2.1 i (by omega) (List.not_mem_nil)), A.2.2.2.2.2.2.2.eq (fun i i1 i2 => fz.2.2.2.1 i (by omega) (List.not_mem_nil))⟩, fz⟩
    · exact Or.inr ⟨E, q1, al, ⟨A.1.eq (fun i i1 => fz.2.2.2.1 i (by omega) (List.not_mem_nil)), A.2.2.2.2.2.2.1.eq (fun i i1 i2 => fz.2.2.2.1 i (by omega) (List.not_mem_nil)), A.2.2.2.2.2.2.2.eq (fun i i1 i2 => fz.2.2.2.1 i (by omega) (List.not_mem_nil))⟩, fz⟩
  refine q_op (l := [0]) (K := []) (M := fun c b => (c = 0 ∧ (0 ≤ x0 ∧ x0 ≤ 1 ∧ 0 ≤ x1 ∧ x1 < S (0 + x0)) ∧ b = S (7 + 20 * x0 + x1)) ∨ (c = 1 ∧ (¬ (0 ≤ x0 ∧ x0 ≤ 1 ∧ 0 ≤ x1 ∧ x1 < S (0 + x0))))) B A Y P (by decide) (c_L_pitch (d := 9) a28 hc (fun z h q => ?_) (fun E h q => ?_)) (fun i hi => absurd hi List.not_mem_nil) (fun h1 Y1 => ?_) (fun z c b h g => ?_) (fun E c b hE h g => ?_)
  · obtain ⟨u, e⟩ := B.2.2.2.1
    exact ⟨u, q.2.2.at (by decide) (by decide) e⟩
  · have q := q.1
    rcases q with ⟨q0, -⟩ | ⟨q0, -⟩
    · cases q0
    · exact Option.some.inj q0
  · obtain ⟨m63, m64, m65, m66, m67, ⟨u68, m68⟩, ⟨u69, m69⟩, ⟨u70, m70⟩, ⟨u71, m71⟩, ⟨u72, m72⟩, ⟨u73, m73⟩, ⟨u74, m74⟩, ⟨u75, m75⟩⟩ := Y1
    refine Ev.imp (c_X9_pitch (t := x0) (k := x1) (hM := m63) (hS := m64) (hl := by omega) (ht := by omega) (hd := by decide)) (fun o h q => ?_)
    obtain ⟨b, q1, c, e63, al, fr⟩ := q
    exact ⟨b, q1, c, vup v 0 c, al, ⟨rfl, rfl, rfl, rfl⟩, ⟨e63, fr.at (by decide) m64, fr.at (by decide) m65, fr.at (by decide) m66, fr.at (by decide) m67, ⟨_, fr.at (by decide) m68⟩, ⟨_, fr.at (by decide) m69⟩, ⟨_, fr.at (by decide) m70⟩, ⟨_, fr.at (by decide) m71⟩, ⟨_, fr.at (by decide) m72⟩, ⟨_, fr.at (by decide) m73⟩, ⟨_, fr.at (by decide) m74⟩, ⟨_, fr.at (by decide) m75⟩⟩, fr.mono (by decide)⟩
  · rcases h with ⟨h0, h⟩ | ⟨h0, h⟩
    · rcases g with ⟨g0, g⟩ | ⟨g0, g⟩
      · first | exact ⟨g0, by omega⟩ | exact ⟨g0, g.2.trans h.2.symm⟩
      · first | (exfalso; omega)
    · cases h0
  · rcases h with ⟨h0, h⟩ | ⟨h0, h⟩
    · cases h0
    · rcases g with ⟨g0, g⟩ | ⟨g0, g⟩
      · first | (exfalso; omega)
      · (have e9 := Option.some.inj h0; subst e9; first | exact g0 | (exfalso; omega) | skip)
theorem op_bound {L : Nat} {F0 : Int → Int} {hp : xH} (H : yRel L F0 hp) : Cv 10 93 [.ref 28] hp (yE (fun k h1 => yMid L F0 h1 (Cv 10 221 [.ref 63] h1 (yE (fun b h2 => yOut0 L F0 hp k b h2))))) := by
  obtain ⟨v, S, T, N, X, B, A, Y, P⟩ := H
  have ok1 := P.1.1
  have pa := okS_pa P.1
  have ok5 : -1 ≤ S 5 ∧ S 5 ≤ 60 := by have := P.1.2.2.2; omega
  obtain ⟨od, a28, aM⟩ := A.1
  obtain ⟨z0, o0, f0, g0, r0, t0, aS, aSt⟩ := A.2.1
  have hc : Cv 10 93 [.ref 28] hp (yE (fun z h => ((True) ∧ z = S 2) ∧ (kA h (v 5) (v 7) S ∧ kG h ∧ kP h) ∧ yfz [] hp h)) := by
    refine Ev.imp (c_X8_bound  (h28 := a28) (hS := aS)) (fun o h q => ?_)
    rcases q with ⟨z, q1, al, fz⟩ | ⟨E, q1, al, fz⟩
    · exact ⟨z, q1, al.2, ⟨A.1.eq (fun i i1 => fz.2.2.2.1 i (by omega) (List.not_mem_nil)), A.2.2.2.2.2.2.1.eq (fun i i1 i2 => fz.2.2.2.1 i (by omega) (List.not_mem_nil)), A.2.2.2.2.2.2.2.eq (fun i i1 i2 => fz.2.2.2.1 i (by omega) (List.not_mem_nil))⟩, fz⟩
    · cases al.1
  refine q_op0 (K := []) (M := fun c b => c = 0 ∧ (True) ∧ b = S 2) B A Y P hc (fun i hi => absurd hi List.not_mem_nil) (fun h1 Y1 => ?_) (fun z c b h g => ?_)
  · obtain ⟨m63, m64, m65, m66, m67, ⟨u68, m68⟩, ⟨u69, m69⟩, ⟨u70, m70⟩, ⟨u71, m71⟩, ⟨u72, m72⟩, ⟨u73, m73⟩, ⟨u74, m74⟩, ⟨u75, m75⟩⟩ := Y1
    refine Ev.imp (c_X9_bound  (hM := m63) (hS := m64) (hd := by decide)) (fun o h q => ?_)
    obtain ⟨b, q1, c, e63, al, fr⟩ := q
    exact ⟨b, q1, c, vup v 0 c, al, ⟨rfl, rfl, rfl, rfl⟩, ⟨e63, fr.at (by decide) m64, fr.at (by decide) m65, fr.at (by decide) m66, fr.at (by decide) m67, ⟨_, fr.at (by decide) m68⟩, ⟨_, fr.at (by decide) m69⟩, ⟨_, fr.at (by decide) m70⟩, ⟨_, fr.at (by decide) m71⟩, ⟨_, fr.at (by decide) m72⟩, ⟨_, fr.at (by decide) m73⟩, ⟨_, fr.at (by decide) m74⟩, ⟨_, fr.at (by decide) m75⟩⟩, fr.mono (by decide)⟩
  · obtain ⟨g0, g⟩ := g
    first | omega | exact g.2.trans h.2.symm
theorem op_hold {L : Nat} {F0 : Int → Int} {hp : xH} (H : yRel L F0 hp) : Cv 10 94 [.ref 28] hp (yE (fun k h1 => yMid L F0 h1 (Cv 10 222 [.ref 63] h1 (yE (fun b h2 => yOut0 L F0 hp k b h2))))) := by
  obtain ⟨v, S, T, N, X, B, A, Y, P⟩ := H
  have ok1 := P.1.1
  have pa := okS_pa P.1
  have ok5 : -1 ≤ S 5 ∧ S 5 ≤ 60 := by have := P.1.2.2.2; omega
  obtain ⟨od, a28, aM⟩ := A.1
  obtain ⟨z0, o0, f0, g0, r0, t0, aS, aSt⟩ := A.2.1
  have hc : Cv 10 94 [.ref 28] hp (yE (fun z h => ((True) ∧ z = S 3) ∧ (kA h (v 5) (v 7) S ∧ kG h ∧ kP h) ∧ yfz [] hp h)) := by
    refine Ev.imp (c_X8_hold  (h28 := a28) (hS := aS)) (fun o h q => ?_)
    rcases q with ⟨z, q1, al, fz⟩ | ⟨E, q1, al, fz⟩
    · exact ⟨z, q1, al.2, ⟨A.1.eq (fun i i1 => fz.2.2.2.1 i (by omega) (List.not_mem_nil)), A.2.2.2.2.2.2.1.eq (fun i i1 i2 => fz.2.2.2.1 i (by omega) (List.not_mem_nil)), A.2.2.2.2.2.2.2.eq (fun i i1 i2 => fz.2.2.2.1 i (by omega) (List.not_mem_nil))⟩, fz⟩
    · cases al.1
  refine q_op0 (K := []) (M := fun c b => c = 0 ∧ (True) ∧ b = S 3) B A Y P hc (fun i hi => absurd hi List.not_mem_nil) (fun h1 Y1 => ?_) (fun z c b h g => ?_)
  · obtain ⟨m63, m64, m65, m66, m67, ⟨u68, m68⟩, ⟨u69, m69⟩, ⟨u70, m70⟩, ⟨u71, m71⟩, ⟨u72, m72⟩, ⟨u73, m73⟩, ⟨u74, m74⟩, ⟨u75, m75⟩⟩ := Y1
    refine Ev.imp (c_X9_hold  (hM := m63) (hS := m64) (hd := by decide)) (fun o h q => ?_)
    obtain ⟨b, q1, c, e63, al, fr⟩ := q
    exact ⟨b, q1, c, vup v 0 c, al, ⟨rfl, rfl, rfl, rfl⟩, ⟨e63, fr.at (by decide) m64, fr.at (by decide) m65, fr.at (by decide) m66, fr.at (by decide) m67, ⟨_, fr.at (by decide) m68⟩, ⟨_, fr.at (by decide) m69⟩, ⟨_, fr.at (by decide) m70⟩, ⟨_, fr.at (by decide) m71⟩, ⟨_, fr.at (by decide) m72⟩, ⟨_, fr.at (by decide) m73⟩, ⟨_, fr.at (by decide) m74⟩, ⟨_, fr.at (by decide) m75⟩⟩, fr.mono (by decide)⟩
  · obtain ⟨g0, g⟩ := g
    first | omega | exact g.2.trans h.2.symm
theorem op_judge {L : Nat} {F0 : Int → Int} {hp : xH} (H : yRel L F0 hp) : Cv 10 95 [.ref 28] hp (yE (fun k h1 => yMid L F0 h1 (Cv 10 223 [.ref 63] h1 (yE (fun b h2 => yOut0 L F0 hp k b h2))))) := by
  obtain ⟨v, S, T, N, X, B, A, Y, P⟩ := H
  have ok1 := P.1.1
  have pa := okS_pa P.1
  have ok5 : -1 ≤ S 5 ∧ S 5 ≤ 60 := by have := P.1.2.2.2; omega
  obtain ⟨od, a28, aM⟩ := A.1
  obtain ⟨z0, o0, f0, g0, r0, t0, aS, aSt⟩ := A.2.1
  have hc : Cv 10 95 [.ref 28] hp (yE (fun z h => ((True) ∧ z = S 4) ∧ (kA h (v 5) (v 7) S ∧ kG h ∧ kP h) ∧ yfz [] hp h)) := by
    refine Ev.imp (c_X8_judge  (h28 := a28) (hS := aS)) (fun o h q => ?_)
    rcases q with ⟨z, q1, al, fz⟩ | ⟨E, q1, al, fz⟩
    · exact ⟨z, q1, al.2, ⟨A.1.eq (fun i i1 => fz.2.2.2.1 i (by omega) (List.not_mem_nil)), A.2.2.2.2.2.2.1.eq (fun i i1 i2 => fz.2.2.2.1 i (by omega) (List.not_mem_nil)), A.2.2.2.2.2.2.2.eq (fun i i1 i2 => fz.2.2.2.1 i (by omega) (List.not_mem_nil))⟩, fz⟩
    · cases al.1
  refine q_op0 (K := []) (M := fun c b => c = 0 ∧ (True) ∧ b = S 4) B A Y P hc (fun i hi => absurd hi List.not_mem_nil) (fun h1 Y1 => ?_) (fun z c b h g => ?_)
  · obtain ⟨m63, m64, m65, m66, m67, ⟨u68, m68⟩, ⟨u69, m69⟩, ⟨u70, m70⟩, ⟨u71, m71⟩, ⟨u72, m72⟩, ⟨u73, m73⟩, ⟨u74, m74⟩, ⟨u75, m75⟩⟩ := Y1
    refine Ev.imp (c_X9_judge  (hM := m63) (hS := m64) (hd := by decide)) (fun o h q => ?_)
    obtain ⟨b, q1, c, e63, al, fr⟩ := q
    exact ⟨b, q1, c, vup v 0 c, al, ⟨rfl, rfl, rfl, rfl⟩, ⟨e63, fr.at (by decide) m64, fr.at (by decide) m65, fr.at (by decide) m66, fr.at (by decide) m67, ⟨_, fr.at (by decide) m68⟩, ⟨_, fr.at (by decide) m69⟩, ⟨_, fr.at (by decide) m70⟩, ⟨_, fr.at (by decide) m71⟩, ⟨_, fr.at (by decide) m72⟩, ⟨_, fr.at (by decide) m73⟩, ⟨_, fr.at (by decide) m74⟩, ⟨_, fr.at (by decide) m75⟩⟩, fr.mono (by decide)⟩
  · obtain ⟨g0, g⟩ := g
    first | omega | exact g.2.trans h.2.symm
theorem op_unlike {L : Nat} {F0 : Int → Int} {hp : xH} (H : yRel L F0 hp) {x0 x1 : Int} (hx : -2147483648 ≤ x0 ∧ x0 ≤ 2147483647 ∧ -2147483648 ≤ x1 ∧ x1 ≤ 2147483647) : Cv 10 289 [.ref 28, yi x0, yi x1, .ref 76] hp (yE (fun k h1 => yMid L F0 h1 (Cv 10 224 [.ref 63, yi x0, yi x1] h1 (yE (fun b h2 => yOut L F0 hp k b h2))))) := by
  obtain ⟨v, S, T, N, X, B, A, Y, P⟩ := H
  have ok1 := P.1.1
  have pa := okS_pa P.1
  have ok5 : -1 ≤ S 5 ∧ S 5 ≤ 60 := by have := P.1.2.2.2; omega
  obtain ⟨od, a28, aM⟩ := A.1
  obtain ⟨z0, o0, f0, g0, r0, t0, aS, aSt⟩ := A.2.1
  have hc : Cv 9 96 [.ref 28, yi x0, yi x1] hp (yA (fun e z h => ((e = none ∧ (0 ≤ x0 ∧ x0 < S 0 ∧ 0 ≤ x1 ∧ x1 < S 1) ∧ z = unl S 0 x0 x1) ∨ (e = some 0 ∧ (¬ (0 ≤ x0 ∧ x0 < S 0 ∧ 0 ≤ x1 ∧ x1 < S 1)))) ∧ (kA h (v 5) (v 7) S ∧ kG h ∧ kP h) ∧ yfz [] hp h)) := by
    refine Ev.imp (c_X8_unlike (i := x0) (j := x1) (h28 := a28) (hS := aS) (hz := P.1.1) (h0 := P.1.2.1) (h1 := P.1.2.2.1) (hij := by omega) (hd := by decide)) (fun o h q => ?_)
    rcases q with ⟨z, q1, al, fz⟩ | ⟨E, q1, al, fz⟩
    · exact Or.inl ⟨z, q1, al, ⟨A.1.eq (fun i i1 => fz.2.2.2.1 i (by omega) (List.not_mem_nil)), A.2.2.2.2.2.2.1.eq (fun i i1 i2 => fz.2.2.2.1 i (by omega) (List.not_mem_nil)), A.2.2.2.2.2.2.2.eq (fun i i1 i2 => fz.2.2.2.1 i (by omega) (List.not_mem_nil))⟩, fz⟩
    · exact Or.inr ⟨E, q1, al, ⟨A.1.eq (fun i i1 => fz.2.2.2.1 i (by omega) (List.not_mem_nil)), A.2.2.2.2.2.2.1.eq (fun i i1 i2 => fz.2.2.2.1 i (by omega) (List.not_mem_nil)), A.2.2.2.2.2.2.2.eq (fun i i1 i2 => fz.2.2.2.1 i (by omega) (List.not_mem_nil))⟩, fz⟩
  refine q_op (l := [0]) (K := []) (M := fun c b => (c = 0 ∧ (0 ≤ x0 ∧ x0 < S 0 ∧ 0 ≤ x1 ∧ x1 < S 1) ∧ b = unl S 0 x0 x1) ∨ (c = 1 ∧ (¬ (0 ≤ x0 ∧ x0 < S 0 ∧ 0 ≤ x1 ∧ x1 < S 1)))) B A Y P (by decide) (c_L_unlike (d := 9) a28 hc (fun z h q => ?_) (fun E h q => ?_)) (fun i hi => absurd hi List.not_mem_nil) (fun h1 Y1 => ?_) (fun z c b h g => ?_) (fun E c b hE h g => ?_)
  · obtain ⟨u, e⟩ := B.2.2.2.1
    exact ⟨u, q.2.2.at (by decide) (by decide) e⟩
  · have q := q.1
    rcases q with ⟨q0, -⟩ | ⟨q0, -⟩
    · cases q0
    · exact Option.some.inj q0
  · obtain ⟨m63, m64, m65, m66, m67, ⟨u68, m68⟩, ⟨u69, m69⟩, ⟨u70, m70⟩, ⟨u71, m71⟩, ⟨u72, m72⟩, ⟨u73, m73⟩, ⟨u74, m74⟩, ⟨u75, m75⟩⟩ := Y1
    refine Ev.imp (c_X9_unlike (i := x0) (j := x1) (hM := m63) (hS := m64) (hz := P.1.1) (h0 := P.1.2.1) (h1 := P.1.2.2.1) (ht := by omega) (hd := by decide)) (fun o h q => ?_)
    obtain ⟨b, q1, c, e63, al, fr⟩ := q
    exact ⟨b, q1, c, vup v 0 c, al, ⟨rfl, rfl, rfl, rfl⟩, ⟨e63, fr.at (by decide) m64, fr.at (by decide) m65, fr.at (by decide) m66, fr.at (by decide) m67, ⟨_, fr.at (by decide) m68⟩, ⟨_, fr.at (by decide) m69⟩, ⟨_, fr.at (by decide) m70⟩, ⟨_, fr.at (by decide) m71⟩, ⟨_, fr.at (by decide) m72⟩, ⟨_, fr.at (by decide) m73⟩, ⟨_, fr.at (by decide) m74⟩, ⟨_, fr.at (by decide) m75⟩⟩, fr.mono (by decide)⟩
  · rcases h with ⟨h0, h⟩ | ⟨h0, h⟩
    · rcases g with ⟨g0, g⟩ | ⟨g0, g⟩
      · first | exact ⟨g0, by omega⟩ | exact ⟨g0, g.2.trans h.2.symm⟩
      · first | (exfalso; omega)
    · cases h0
  · rcases h with ⟨h0, h⟩ | ⟨h0, h⟩
    · cases h0
    · rcases g with ⟨g0, g⟩ | ⟨g0, g⟩
      · first | (exfalso; omega)
      · (have e9 := Option.some.inj h0; subst e9; first | exact g0 | (exfalso; omega) | skip)
theorem op_rises {L : Nat} {F0 : Int → Int} {hp : xH} (H : yRel L F0 hp) : Cv 10 97 [.ref 28] hp (yE (fun k h1 => yMid L F0 h1 (Cv 10 226 [.ref 63] h1 (yE (fun b h2 => yOut0 L F0 hp k b h2))))) := by
  obtain ⟨v, S, T, N, X, B, A, Y, P⟩ := H
  have ok1 := P.1.1
  have pa := okS_pa P.1
  have ok5 : -1 ≤ S 5 ∧ S 5 ≤ 60 := by have := P.1.2.2.2; omega
  obtain ⟨od, a28, aM⟩ := A.1
  obtain ⟨z0, o0, f0, g0, r0, t0, aS, aSt⟩ := A.2.1
  have hc : Cv 10 97 [.ref 28] hp (yE (fun z h => ((True) ∧ z = ris (fun q => S (7 + q)) (S 0 - 1).toNat + ris (fun q => S (27 + q)) (S 1 - 1).toNat) ∧ (kA h (v 5) (v 7) S ∧ kG h ∧ kP h) ∧ yfz [] hp h)) := by
    refine Ev.imp (c_X8_rises  (h28 := a28) (hS := aS) (hz := P.1.1) (h0 := P.1.2.1) (h1 := P.1.2.2.1) (hd := by decide)) (fun o h q => ?_)
    rcases q with ⟨z, q1, al, fz⟩ | ⟨E, q1, al, fz⟩
    · exact ⟨z, q1, al.2, ⟨A.1.eq (fun i i1 => fz.2.2.2.1 i (by omega) (List.not_mem_nil)), A.2.2.2.2.2.2.1.eq (fun i i1 i2 => fz.2.2.2.1 i (by omega) (List.not_mem_nil)), A.2.2.2.2.2.2.2.eq (fun i i1 i2 => fz.2.2.2.1 i (by omega) (List.not_mem_nil))⟩, fz⟩
    · cases al.1
  refine q_op0 (K := []) (M := fun c b => c = 0 ∧ (True) ∧ b = ris (fun q => S (7 + q)) (S 0 - 1).toNat + ris (fun q => S (27 + q)) (S 1 - 1).toNat) B A Y P hc (fun i hi => absurd hi List.not_mem_nil) (fun h1 Y1 => ?_) (fun z c b h g => ?_)
  · obtain ⟨m63, m64, m65, m66, m67, ⟨u68, m68⟩, ⟨u69, m69⟩, ⟨u70, m70⟩, ⟨u71, m71⟩, ⟨u72, m72⟩, ⟨u73, m73⟩, ⟨u74, m74⟩, ⟨u75, m75⟩⟩ := Y1
    refine Ev.imp (c_X9_rises  (hM := m63) (hS := m64) (hl := by omega) (hpi := pa) (hd := by decide)) (fun o h q => ?_)
    obtain ⟨b, q1, c, e63, al, fr⟩ := q
    exact ⟨b, q1, c, vup v 0 c, al, ⟨rfl, rfl, rfl, rfl⟩, ⟨e63, fr.at (by decide) m64, fr.at (by decide) m65, fr.at (by decide) m66, fr.at (by decide) m67, ⟨_, fr.at (by decide) m68⟩, ⟨_, fr.at (by decide) m69⟩, ⟨_, fr.at (by decide) m70⟩, ⟨_, fr.at (by decide) m71⟩, ⟨_, fr.at (by decide) m72⟩, ⟨_, fr.at (by decide) m73⟩, ⟨_, fr.at (by decide) m74⟩, ⟨_, fr.at (by decide) m75⟩⟩, fr.mono (by decide)⟩
  · obtain ⟨g0, g⟩ := g
    first | omega | exact g.2.trans h.2.symm
theorem op_isMatched {L : Nat} {F0 : Int → Int} {hp : xH} (H : yRel L F0 hp) : Cv 10 98 [.ref 28] hp (yE (fun k h1 => yMid L F0 h1 (Cv 10 227 [.ref 63] h1 (yE (fun b h2 => yOut0 L F0 hp k b h2))))) := by
  obtain ⟨v, S, T, N, X, B, A, Y, P⟩ := H
  have ok1 := P.1.1
  have pa := okS_pa P.1
  have ok5 : -1 ≤ S 5 ∧ S 5 ≤ 60 := by have := P.1.2.2.2; omega
  obtain ⟨od, a28, aM⟩ := A.1
  obtain ⟨z0, o0, f0, g0, r0, t0, aS, aSt⟩ := A.2.1
  have hc : Cv 10 98 [.ref 28] hp (yE (fun z h => ((True) ∧ z = b2 (0 < S 0 ∧ 0 < S 1 ∧ -S 2 ≤ S 0 - S 1 ∧ S 0 - S 1 ≤ S 2)) ∧ (kA h (v 5) (v 7) S ∧ kG h ∧ kP h) ∧ yfz [] hp h)) := by
    refine Ev.imp (c_X8_isMatched  (h28 := a28) (hS := aS) (hl := (by omega)) (hb2 := (by omega)) (hd := by decide)) (fun o h q => ?_)
    rcases q with ⟨z, q1, al, fz⟩ | ⟨E, q1, al, fz⟩
    · exact ⟨z, q1, al.2, ⟨A.1.eq (fun i i1 => fz.2.2.2.1 i (by omega) (List.not_mem_nil)), A.2.2.2.2.2.2.1.eq (fun i i1 i2 => fz.2.2.2.1 i (by omega) (List.not_mem_nil)), A.2.2.2.2.2.2.2.eq (fun i i1 i2 => fz.2.2.2.1 i (by omega) (List.not_mem_nil))⟩, fz⟩
    · cases al.1
  refine q_op0 (K := []) (M := fun c b => c = 0 ∧ (True) ∧ b = b2 (0 < S 0 ∧ 0 < S 1 ∧ -S 2 ≤ S 0 - S 1 ∧ S 0 - S 1 ≤ S 2)) B A Y P hc (fun i hi => absurd hi List.not_mem_nil) (fun h1 Y1 => ?_) (fun z c b h g => ?_)
  · obtain ⟨m63, m64, m65, m66, m67, ⟨u68, m68⟩, ⟨u69, m69⟩, ⟨u70, m70⟩, ⟨u71, m71⟩, ⟨u72, m72⟩, ⟨u73, m73⟩, ⟨u74, m74⟩, ⟨u75, m75⟩⟩ := Y1
    refine Ev.imp (c_X9_isMatched  (hM := m63) (hS := m64) (hl := by omega) (hb := by omega) (hd := by decide)) (fun o h q => ?_)
    obtain ⟨b, q1, c, e63, al, fr⟩ := q
    exact ⟨b, q1, c, vup v 0 c, al, ⟨rfl, rfl, rfl, rfl⟩, ⟨e63, fr.at (by decide) m64, fr.at (by decide) m65, fr.at (by decide) m66, fr.at (by decide) m67, ⟨_, fr.at (by decide) m68⟩, ⟨_, fr.at (by decide) m69⟩, ⟨_, fr.at (by decide) m70⟩, ⟨_, fr.at (by decide) m71⟩, ⟨_, fr.at (by decide) m72⟩, ⟨_, fr.at (by decide) m73⟩, ⟨_, fr.at (by decide) m74⟩, ⟨_, fr.at (by decide) m75⟩⟩, fr.mono (by decide)⟩
  · obtain ⟨g0, g⟩ := g
    first | omega | exact g.2.trans h.2.symm
