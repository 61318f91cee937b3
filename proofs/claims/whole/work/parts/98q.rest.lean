/-! undo, keep, restore, the text, work, digest, side by side. -/
theorem op_undo {L : Nat} {F0 : Int → Int} {hp : xH} (H : yRel L F0 hp) : Cv 10 285 [.ref 28, .ref 76] hp (yE (fun k h1 => yMid L F0 h1 (Cv 10 214 [.ref 63] h1 (yE (fun b h2 => yOut L F0 hp k b h2))))) := by
  obtain ⟨v, S, T, N, X, B, A, Y, P⟩ := H
  have ok1 := P.1.1
  have pa := okS_pa P.1
  have ok5 : -1 ≤ S 5 ∧ S 5 ≤ 60 := by have := P.1.2.2.2; omega
  obtain ⟨od, a28, aM⟩ := A.1
  obtain ⟨z0, o0, f0, g0, r0, t0, aS, aSt⟩ := A.2.1
  have hc : Cv 9 87 [.ref 28] hp (yA (cls1 v (1 ≤ v 3) (v 3 - 1) (fun m S2 U => m = v 3 - 1 ∧ U = T ∧ ∀ q, 0 ≤ q → q < 47 → S2 q = T (47 * (v 3 - 1) + q)) (fun E => E = 2 ∧ v 3 = 0) hp)) := by
    refine Ev.imp (c_X8_undo (h28 := a28) (hS := aS) (hN := B.2.2.2.2) (hv := A.2.2.1) (hn6 := P.2.1) (hd := by decide)) (fun o h q => ?_)
    have cv : ∀ e y, ((e = none ∧ 1 ≤ v 3 ∧ y = v 3 - 1 ∧ xat h 28 = some (.inr (8, [.ref 29, .ref 34, .ref 35, yi (v 5), .ref 40, yi (v 7), .ref 41, .ref 43, yi 1, .ref 56, .ref 58])) ∧ ySv h (v 3 - 1) T ∧ okS (slc T (v 3 - 1).toNat) ∧ ∃ f2 g2 r2 t2, yS h 29 z0 o0 (slc T (v 3 - 1).toNat) f2 g2 r2 t2 ∧ ystp (slc T (v 3 - 1).toNat) r2 t2) ∨ (e = some 2 ∧ v 3 = 0 ∧ h = xbare hp 6)) → ((e = none ∧ 1 ≤ v 3 ∧ y = v 3 - 1 ∧ xat h 28 = some (.inr (8, [.ref 29, .ref 34, .ref 35, yi (v 5), .ref 40, yi (v 7), .ref 41, .ref 43, yi 1, .ref 56, .ref 58])) ∧ ∀ m S2 U, (m = v 3 - 1 ∧ U = T ∧ ∀ q, 0 ≤ q → q < 47 → S2 q = T (47 * (v 3 - 1) + q)) → ySv h m U ∧ kN h S2) ∨ (∃ E, e = some E ∧ (E = 2 ∧ v 3 = 0) ∧ h = xbare hp 6)) := by
      rintro e y (⟨e0, e1, e2, e3, e4, e5, f9, g9, r9, t9, e6, e7⟩ | ⟨e0, e1, e2⟩)
      · refine Or.inl ⟨e0, e1, e2, e3, fun m S2 U hu => ?_⟩
        obtain ⟨u1, u2, u3⟩ := hu
        subst u1
        subst u2
        have es : ∀ q, 0 ≤ q → q < 47 → S2 q = slc U (v 3 - 1).toNat q := fun q q1 q2 => by
          rw [u3 q q1 q2]
          show U (47 * (v 3 - 1) + q) = U (47 * (((v 3 - 1).toNat : Nat) : Int) + q)
          rw [show (((v 3 - 1).toNat : Nat) : Int) = v 3 - 1 by omega]
        exact ⟨e4, _, _, f9, g9, r9, t9, e6.cong e5 es, e7.cong es⟩
      · exact Or.inr ⟨2, e0, ⟨rfl, e1⟩, e2⟩
    rcases q with ⟨z, q1, q2, fz⟩ | ⟨E, q1, q2, fz⟩
    · exact Or.inl ⟨z, q1, cv _ _ q2, fz⟩
    · exact Or.inr ⟨E, q1, cv _ _ q2, fz⟩
  have okU : 1 ≤ v 3 → ∀ S2 : Int → Int, (∀ q, 0 ≤ q → q < 47 → S2 q = T (47 * (v 3 - 1) + q)) → okS S2 := fun h1 S2 hs => by
    obtain ⟨mc, e0, F9, bs9, a34, b34, c34, d34⟩ := A.2.2.1
    have w := (c34 (v 3 - 1).toNat (by have := P.2.1; omega)).2.2.2.2.1
    refine w.cong (fun q q1 q2 => ?_)
    rw [hs q q1 q2]
    show T (47 * (v 3 - 1) + q) = T (47 * (((v 3 - 1).toNat : Nat) : Int) + q)
    rw [show (((v 3 - 1).toNat : Nat) : Int) = v 3 - 1 by omega]
  refine mu_op (l := [2]) (MC := fun c => c = 1 ∧ v 3 = 0) B A Y P (by decide) (c_L_undo (d := 9) a28 hc (fun z h q => ?_) (fun E h q => ?_)) (fun h1 Y1 => ?_) (fun m S2 U c1 c2 => ?_) (fun c g c1 => by omega) (fun E g c1 => by omega) (fun E c hE g c1 => ?_)
  · obtain ⟨u, e⟩ := B.2.2.2.1
    exact ⟨u, q.2.at (by decide) (by decide) e⟩
  · rcases q.1 with ⟨q0, -⟩ | ⟨E', q0, q1, -⟩
    · cases q0
    · have q0 := Option.some.inj q0
      subst q0
      omega
  · obtain ⟨m63, m64, m65, m66, m67, ⟨u68, m68⟩, ⟨u69, m69⟩, ⟨u70, m70⟩, ⟨u71, m71⟩, ⟨u72, m72⟩, ⟨u73, m73⟩, ⟨u74, m74⟩, ⟨u75, m75⟩⟩ := Y1
    refine Ev.imp (c_X9_undo (hM := m63) (hS := m64) (hT := m65) (hm := P.2.1) (hd := by decide)) (fun o h q => ?_)
    obtain ⟨b, q1, c, m, S2, e63, e64, al, fr⟩ := q
    refine ⟨b, q1, c, m, S2, T, ?_, ⟨e63, e64, fr.at (by decide) m65, fr.at (by decide) m66, fr.at (by decide) m67, ⟨_, fr.at (by decide) m68⟩, ⟨_, fr.at (by decide) m69⟩, ⟨_, fr.at (by decide) m70⟩, ⟨_, fr.at (by decide) m71⟩, ⟨_, fr.at (by decide) m72⟩, ⟨_, fr.at (by decide) m73⟩, ⟨_, fr.at (by decide) m74⟩, ⟨_, fr.at (by decide) m75⟩⟩, fr.mono (by decide)⟩
    rcases al with ⟨g0, g1, g2, g3, g4⟩ | ⟨g0, g1, g2, g3⟩
    · exact Or.inl ⟨g0, by omega, g3, g2, rfl, g4⟩
    · exact Or.inr ⟨g2, g3, rfl, g0, g1⟩
  · exact ⟨okU c1 S2 c2.2.2, by have := P.2.1; have := c2.1; omega⟩
  · obtain ⟨g0, g1⟩ := g
    subst g0
    exact c1.1
theorem op_restore {L : Nat} {F0 : Int → Int} {hp : xH} (H : yRel L F0 hp) : Cv 10 286 [.ref 28, .ref 76] hp (yE (fun k h1 => yMid L F0 h1 (Cv 10 216 [.ref 63] h1 (yE (fun b h2 => yOut L F0 hp k b h2))))) := by
  obtain ⟨v, S, T, N, X, B, A, Y, P⟩ := H
  have ok1 := P.1.1
  have pa := okS_pa P.1
  have ok5 : -1 ≤ S 5 ∧ S 5 ≤ 60 := by have := P.1.2.2.2; omega
  obtain ⟨od, a28, aM⟩ := A.1
  obtain ⟨z0, o0, f0, g0, r0, t0, aS, aSt⟩ := A.2.1
  obtain ⟨u9, w9, K9, kf, kg, kr, kt, hK, hzk, hKN⟩ := A.2.2.2.1
  have hc : Cv 9 89 [.ref 28] hp (yA (cls1 v (v 5 = 1) (N 0 + N 1) (fun m S2 U => m = (if v 3 = 6 then 6 else v 3 + 1) ∧ recd (v 3) S T U ∧ ∀ q, 0 ≤ q → q < 47 → S2 q = N q) (fun E => E = 2 ∧ v 5 = 0) hp)) := by
    refine Ev.imp (c_X8_restore (h28 := a28) (hS := aS) (hN := B.2.2.2.2) (h26 := B.2.2.1) (hv := A.2.2.1) (hn6 := P.2.1) (hok := P.1) (hst := aSt) (hK := hK) (hzk := hzk) (hkp := by have := P.2.2.1; omega) (hd := by decide)) (fun o h q => ?_)
    have cv : ∀ e y, ((e = none ∧ v 5 = 1 ∧ y = K9 0 + K9 1 ∧ xat h 28 = some (.inr (8, [.ref 29, .ref 34, .ref 35, yi (v 5), .ref 40, yi (v 7), .ref 41, .ref 43, yi 1, .ref 56, .ref 58])) ∧ (∀ U, recd (v 3) S T U → ySv h (if v 3 = 6 then 6 else v 3 + 1) U) ∧ ∃ f2 g2, yS h 29 z0 o0 K9 f2 g2 kr kt) ∨ (e = some 2 ∧ v 5 = 0 ∧ h = xbare hp 6)) → ((e = none ∧ v 5 = 1 ∧ y = N 0 + N 1 ∧ xat h 28 = some (.inr (8, [.ref 29, .ref 34, .ref 35, yi (v 5), .ref 40, yi (v 7), .ref 41, .ref 43, yi 1, .ref 56, .ref 58])) ∧ ∀ m S2 U, (m = (if v 3 = 6 then 6 else v 3 + 1) ∧ recd (v 3) S T U ∧ ∀ q, 0 ≤ q → q < 47 → S2 q = N q) → ySv h m U ∧ kN h S2) ∨ (∃ E, e = some E ∧ (E = 2 ∧ v 5 = 0) ∧ h = xbare hp 6)) := by
      rintro e y (⟨e0, e1, e2, e3, e4, f9, g9, e6⟩ | ⟨e0, e1, e2⟩)
      · obtain ⟨w1, w2⟩ := hKN e1
        subst w1
        refine Or.inl ⟨e0, e1, e2, e3, fun m S2 U hu => ?_⟩
        obtain ⟨u1, u2, u3⟩ := hu
        subst u1
        exact ⟨e4 U u2, _, _, f9, g9, kr, kt, e6.cong (P.2.2.2.2.2 e1) u3, w2.cong u3⟩
      · exact Or.inr ⟨2, e0, ⟨rfl, e1⟩, e2⟩
    rcases q with ⟨z, q1, q2, fz⟩ | ⟨E, q1, q2, fz⟩
    · exact Or.inl ⟨z, q1, cv _ _ q2, fz⟩
    · exact Or.inr ⟨E, q1, cv _ _ q2, fz⟩
  refine mu_op (l := [2]) (MC := fun c => c = 1 ∧ v 5 = 0) B A Y P (by decide) (c_L_restore (d := 9) a28 hc (fun z h q => ?_) (fun E h q => ?_)) (fun h1 Y1 => ?_) (fun m S2 U c1 c2 => ?_) (fun c g c1 => by omega) (fun E g c1 => by omega) (fun E c hE g c1 => ?_)
  · obtain ⟨u, e⟩ := B.2.2.2.1
    exact ⟨u, q.2.at (by decide) (by decide) e⟩
  · rcases q.1 with ⟨q0, -⟩ | ⟨E', q0, q1, -⟩
    · cases q0
    · have q0 := Option.some.inj q0
      subst q0
      omega
  · obtain ⟨m63, m64, m65, m66, m67, ⟨u68, m68⟩, ⟨u69, m69⟩, ⟨u70, m70⟩, ⟨u71, m71⟩, ⟨u72, m72⟩, ⟨u73, m73⟩, ⟨u74, m74⟩, ⟨u75, m75⟩⟩ := Y1
    refine Ev.imp (c_X9_restore (hM := m63) (hS := m64) (hT := m65) (hm := P.2.1) (hN := m66) (h5 := P.2.2.1) (hd := by decide)) (fun o h q => ?_)
    obtain ⟨b, q1, c, m, S2, U, e63, e64, e65, al, fr⟩ := q
    refine ⟨b, q1, c, m, S2, U, ?_, ⟨e63, e64, e65, fr.at (by decide) m66, fr.at (by decide) m67, ⟨_, fr.at (by decide) m68⟩, ⟨_, fr.at (by decide) m69⟩, ⟨_, fr.at (by decide) m70⟩, ⟨_, fr.at (by decide) m71⟩, ⟨_, fr.at (by decide) m72⟩, ⟨_, fr.at (by decide) m73⟩, ⟨_, fr.at (by decide) m74⟩, ⟨_, fr.at (by decide) m75⟩⟩, fr.mono (by decide)⟩
    rcases al with ⟨g0, g1, g2, g3, g4, g5⟩ | ⟨g0, g1, g2, g3, g4⟩
    · exact Or.inl ⟨g0, g3, g4, g1, g2, g5⟩
    · exact Or.inr ⟨g1, g2, g3, g0, g4⟩
  · exact ⟨(P.2.2.2.2.2 c1).cong c2.2.2, by have := P.2.1; have := c2.1; split at this <;> omega⟩
  · obtain ⟨g0, g1⟩ := g
    subst g0
    exact c1.1
theorem op_keep {L : Nat} {F0 : Int → Int} {hp : xH} (H : yRel L F0 hp) : Cv 10 88 [.ref 28] hp (yE (fun k h1 => yMid L F0 h1 (Cv 10 215 [.ref 63] h1 (yE (fun b h2 => yOut0 L F0 hp k b h2))))) := by
  obtain ⟨v, S, T, N, X, B, A, Y, P⟩ := H
  have ok1 := P.1.1
  have pa := okS_pa P.1
  have ok5 : -1 ≤ S 5 ∧ S 5 ≤ 60 := by have := P.1.2.2.2; omega
  obtain ⟨od, a28, aM⟩ := A.1
  obtain ⟨z0, o0, f0, g0, r0, t0, aS, aSt⟩ := A.2.1
  obtain ⟨u9, w9, K9, kf, kg, kr, kt, hK, hzk, hKN⟩ := A.2.2.2.1
  have hN := B.2.2.2.2
  have hid := hK.1
  refine Ev.imp (c_X8_keep (h28 := a28) (hS := aS) (hK := hK) (hz := by omega) (hd := by decide)) (fun o h1 q => ?_)
  obtain ⟨q1, ⟨f3, g3, y3⟩, o28, fr⟩ := q
  refine ⟨S 0 + S 1, q1, ?_⟩
  have km := kept_mem hid
  have e1 : ∀ i, i < 28 ∨ (29 ≤ i ∧ i ≤ 34) ∨ 40 ≤ i → xat h1 i = xat hp i := fun i hi => fr.2.2 i (fun m => by
    simp only [List.mem_cons, List.not_mem_nil, or_false] at m
    unfold stid at hid
    omega)
  have B9 : yBs L F0 h1 := by
    obtain ⟨u, e⟩ := B.2.2.2.1
    exact B.eq (Nat.le_of_eq fr.1.symm) (fun i hi => e1 i (by omega)) ⟨u, (e1 76 (by omega)).trans e⟩
  have Y9 : yM h1 v S T N X := Y.eq (fun i i1 i2 => e1 i (by omega))
  have A9 : ∀ N2 : Int → Int, (∀ q, 0 ≤ q → q < 47 → N2 q = S q) → yK h1 1 (v 7) (v 3) S T N2 X := fun N2 hN2 => by
    obtain ⟨a1, a2, a3, a4, a5, a6, a7, a8⟩ := A
    have y4 := y3.cong P.1 hN2
    refine ⟨⟨od, o28, aM.at (fun i i1 i2 => e1 i (by omega))⟩, a2.eq (fun i i1 i2 => e1 i (by omega)), a3.mono hN (Nat.le_of_eq fr.1.symm) (fun i i1 i2 => e1 i (by omega)), ⟨u9, w9, N2, f3, g3, r0, t0, y4, ?_, fun _ => ⟨rfl, aSt.cong hN2⟩⟩, a5.eq (e1 40 (by omega)), a6.eq (fun i i1 i2 => e1 i (by omega)), a7.eq (fun i i1 i2 => e1 i (by omega)), a8.eq (fun i i1 i2 => e1 i (by omega))⟩
    have n0 := hN2 0 (by decide) (by decide)
    have n1 := hN2 1 (by decide) (by decide)
    omega
  refine ⟨B9.2.1, ⟨_, Y9.1⟩, ?_⟩; obtain ⟨m63, m64, m65, m66, m67, ⟨u68, m68⟩, ⟨u69, m69⟩, ⟨u70, m70⟩, ⟨u71, m71⟩, ⟨u72, m72⟩, ⟨u73, m73⟩, ⟨u74, m74⟩, ⟨u75, m75⟩⟩ := Y9
  refine Ev.imp (c_X9_keep (hM := m63) (hS := m64) (hl := by omega) (hN := m66) (hd := by decide)) (fun o h2 q => ?_)
  obtain ⟨w1, N2, e63, e66, e47, fr2⟩ := q
  have frm : yfr mK h1 h2 := fr2.mono (by decide)
  have f1 := fr.1
  have f2 := fr.2.1
  have f3_ := fr2.1
  have f4 := fr2.2.1
  exact ⟨S 0 + S 1, w1, ⟨vup (vup v 0 0) 5 1, S, T, N2, X, B9.m frm, (A9 N2 e47).m B9.2.2.2.2 frm, ⟨e63, fr2.at (by decide) m64, fr2.at (by decide) m65, e66, fr2.at (by decide) m67, ⟨_, fr2.at (by decide) m68⟩, ⟨_, fr2.at (by decide) m69⟩, ⟨_, fr2.at (by decide) m70⟩, ⟨_, fr2.at (by decide) m71⟩, ⟨_, fr2.at (by decide) m72⟩, ⟨_, fr2.at (by decide) m73⟩, ⟨_, fr2.at (by decide) m74⟩, ⟨_, fr2.at (by decide) m75⟩⟩, P.1, P.2.1, Or.inr rfl, P.2.2.2.1, P.2.2.2.2.1, fun _ => P.1.cong e47⟩, rfl, by omega, by omega, by omega⟩
theorem op_append {L : Nat} {F0 : Int → Int} {hp : xH} (H : yRel L F0 hp) {x0 : Int} (hx : -2147483648 ≤ x0 ∧ x0 ≤ 2147483647) : Cv 10 281 [.ref 28, yi x0, .ref 76] hp (yE (fun k h1 => yMid L F0 h1 (Cv 10 196 [.ref 63, yi x0] h1 (yE (fun b h2 => yOut L F0 hp k b h2))))) := by
  obtain ⟨v, S, T, N, X, B, A, Y, P⟩ := H
  have ok1 := P.1.1
  have pa := okS_pa P.1
  have ok5 : -1 ≤ S 5 ∧ S 5 ≤ 60 := by have := P.1.2.2.2; omega
  obtain ⟨od, a28, aM⟩ := A.1
  obtain ⟨z0, o0, f0, g0, r0, t0, aS, aSt⟩ := A.2.1
  obtain ⟨Yc, a40, hYc⟩ := A.2.2.2.2.1
  have hN := B.2.2.2.2
  have p7 := P.2.2.2.1
  have hc := c_X8_append (d := 9) (h28 := a28) (h40 := a40) (hcl := P.2.2.2.1) (x := x0) (hx := hx) (hd := by decide)
  refine Ev.imp (c_L_append (d := 9) a28 hc (fun z h q => ?_) (fun E h q => ?_)) (fun o h1 q => ?_)
  · obtain ⟨u, e⟩ := B.2.2.2.1
    exact ⟨u, q.2.at (by decide) (by decide) e⟩
  · rcases q.1 with ⟨q0, -⟩ | ⟨q0, -⟩ | ⟨q0, -⟩
    · cases q0
    · exact Or.inl (Option.some.inj q0)
    · exact Or.inr (Option.some.inj q0)
  obtain ⟨k, q1, q⟩ := q
  refine ⟨k, q1, ?_⟩
  rcases q with ⟨q2, z, h9, ⟨q3, fz⟩, q6⟩ | ⟨E, qE, q2, q3, fz⟩
  · rcases q3 with ⟨-, c1, c2, c3, c4⟩ | ⟨q0, -⟩ | ⟨q0, -⟩
    · have B9 := B.z fz (fun i hi => by simp only [List.mem_cons, List.not_mem_nil, or_false] at hi; omega)
      have hN9 := B9.2.2.2.2
      have Y9 := (Y.z fz (fun i hi => by simp only [List.mem_cons, List.not_mem_nil, or_false] at hi; omega)).out q6
      have B9 := B9.out q6
      have e1 : ∀ i, 29 ≤ i → i ≠ 40 → i < 77 → xat h9 i = xat hp i := fun i i1 i2 i3 => fz.2.2.2.1 i i3 (by simp only [List.mem_cons, List.not_mem_nil, or_false, not_or]; omega)
      have A9 : yK h9 (v 5) (v 7 + 1) (v 3) S T N (up X (v 7) x0) := by
        obtain ⟨a1, a2, a3, a4, a5, a6, a7, a8⟩ := A
        refine ⟨⟨od, c3, aM.at (fun i i1 i2 => e1 i (by omega) (by omega) (by omega))⟩, a2.eq (fun i i1 i2 => e1 i (by omega) (by omega) (by omega)), a3.mono hN fz.1 (fun i i1 i2 => ?_), a4.eq (fun i i1 i2 => e1 i (by omega) (by omega) (by omega)), ⟨_, c4, fun q q0 q1 => ?_⟩, a6.eq (fun i i1 i2 => e1 i (by omega) (by omega) (by omega)), a7.eq (fun i i1 i2 => e1 i (by omega) (by omega) (by omega)), a8.eq (fun i i1 i2 => e1 i (by omega) (by omega) (by omega))⟩
        · by_cases i7 : 77 ≤ i
          · exact fz.2.2.2.2 (by decide) i i7 i2 (by simp only [List.mem_cons, List.not_mem_nil, or_false, not_or]; omega)
          · exact e1 i (by omega) (by omega) (by omega)
        · by_cases e : q = v 7
          · rw [e, up_self, up_self]
          · rw [up_ne _ _ e, up_ne _ _ e]
            exact hYc q q0 (by omega)
      have A9 := A9.out hN9 q6
      refine ⟨B9.2.1, ⟨_, Y9.1⟩, ?_⟩; obtain ⟨m63, m64, m65, m66, m67, ⟨u68, m68⟩, ⟨u69, m69⟩, ⟨u70, m70⟩, ⟨u71, m71⟩, ⟨u72, m72⟩, ⟨u73, m73⟩, ⟨u74, m74⟩, ⟨u75, m75⟩⟩ := Y9
      refine Ev.imp (c_X9_append (x := x0) (hM := m63) (hX := m67) (hx := hx) (h7 := P.2.2.2.1) (hd := by decide)) (fun o h2 w => ?_)
      obtain ⟨b, w1, c, n, X2, e63, e67, al, fr⟩ := w
      rcases al with ⟨g0, g1, g2, g3, g4⟩ | ⟨g0, g1, g2, g3⟩ | ⟨g0, g1, g2, g3⟩
      · subst g0
        subst g1
        subst g2
        have frm : yfr mK h1 h2 := fr.mono (by decide)
        have qq := fz.1
        have qq2 := fz.2.1
        have qq3 := fz.2.2.1
        have ww := fr.1
        have ww2 := fr.2.1
        have uu := q6.2.1
        have uu2 := q6.2.2.1
        refine ⟨b, w1, ⟨vup (vup v 0 0) 7 (v 7 + 1), S, T, N, up X (v 7) x0, B9.m frm, A9.m B9.2.2.2.2 frm, ⟨e63, fr.at (by decide) m64, fr.at (by decide) m65, fr.at (by decide) m66, e67, ⟨_, fr.at (by decide) m68⟩, ⟨_, fr.at (by decide) m69⟩, ⟨_, fr.at (by decide) m70⟩, ⟨_, fr.at (by decide) m71⟩, ⟨_, fr.at (by decide) m72⟩, ⟨_, fr.at (by decide) m73⟩, ⟨_, fr.at (by decide) m74⟩, ⟨_, fr.at (by decide) m75⟩⟩, P.1, P.2.1, P.2.2.1, ⟨by show 0 ≤ v 7 + 1; omega, by show v 7 + 1 ≤ 60; omega⟩, fun q q0 q1 => ?_, P.2.2.2.2.2⟩, ⟨_, e63, q2.symm⟩, by omega, fun _ => ?_, by omega, by omega, by omega⟩
        · have q1 : q < v 7 + 1 := q1
          by_cases e : q = v 7
          · rw [e, up_self]
            exact ⟨g3.1, g3.2.1⟩
          · rw [up_ne _ _ e]
            exact P.2.2.2.2.1 q q0 (by omega)
        · obtain ⟨f, e1, e2⟩ := q6.1
          exact ⟨f, (fr.2.2 76 (by decide)).trans e1, by rw [g4, ← c2]; exact e2⟩
      · exfalso; omega
      · exfalso; omega
    · cases q0
    · cases q0
  · have bb : h1 = xbare hp 6 ∧ ((E = 1 ∧ ¬ (33 ≤ x0 ∧ x0 ≤ 126)) ∨ (E = 2 ∧ 33 ≤ x0 ∧ x0 ≤ 126 ∧ v 7 = 60)) := by
      rcases q3 with ⟨q0, -⟩ | ⟨q0, c1, c2⟩ | ⟨q0, c1, c2⟩
      · cases q0
      · exact ⟨c2, Or.inl ⟨Option.some.inj q0, c1⟩⟩
      · exact ⟨c2, Or.inr ⟨Option.some.inj q0, c1⟩⟩
    obtain ⟨hb, hE⟩ := bb
    subst hb
    have B9 := B.bare
    have A9 := A.bare hN
    have Y9 := Y.bare
    refine ⟨B9.2.1, ⟨_, Y9.1⟩, ?_⟩; obtain ⟨m63, m64, m65, m66, m67, ⟨u68, m68⟩, ⟨u69, m69⟩, ⟨u70, m70⟩, ⟨u71, m71⟩, ⟨u72, m72⟩, ⟨u73, m73⟩, ⟨u74, m74⟩, ⟨u75, m75⟩⟩ := Y9
    refine Ev.imp (c_X9_append (x := x0) (hM := m63) (hX := m67) (hx := hx) (h7 := P.2.2.2.1) (hd := by decide)) (fun o h2 w => ?_)
    obtain ⟨b, w1, c, n, X2, e63, e67, al, fr⟩ := w
    have frm : yfr mK (xbare hp 6) h2 := fr.mono (by decide)
    have ww := fr.1
    have ww2 := fr.2.1
    have bb : (xbare hp 6).1 = hp.1 + 1 := rfl
    have bb2 : (xbare hp 6).2.1 = hp.2.1 + 6 := rfl
    have ck : c = k ∧ 1 ≤ k ∧ k ≤ 3 ∧ n = v 7 ∧ X2 = X := by
      rcases hE with ⟨hE, hE2⟩ | ⟨hE, hE2⟩
      · subst hE
        have q2 : k = 1 := q2
        rcases al with ⟨g0, g1, g2, g3, g4⟩ | ⟨g0, g1, g2, g3⟩ | ⟨g0, g1, g2, g3⟩
        · exfalso; omega
        · exact ⟨by omega, by omega, by omega, g1, g2⟩
        · exfalso; omega
      · subst hE
        have q2 : k = 2 := q2
        rcases al with ⟨g0, g1, g2, g3, g4⟩ | ⟨g0, g1, g2, g3⟩ | ⟨g0, g1, g2, g3⟩
        · exfalso; omega
        · exfalso; omega
        · exact ⟨by omega, by omega, by omega, g1, g2⟩
    obtain ⟨k1, k2, k3, k4, k5⟩ := ck
    subst k4
    subst k5
    exact ⟨b, w1, ⟨vup (vup v 0 c) 7 (v 7), S, T, N, X2, B9.m frm, A9.m B9.2.2.2.2 frm, ⟨e63, fr.at (by decide) m64, fr.at (by decide) m65, fr.at (by decide) m66, e67, ⟨_, fr.at (by decide) m68⟩, ⟨_, fr.at (by decide) m69⟩, ⟨_, fr.at (by decide) m70⟩, ⟨_, fr.at (by decide) m71⟩, ⟨_, fr.at (by decide) m72⟩, ⟨_, fr.at (by decide) m73⟩, ⟨_, fr.at (by decide) m74⟩, ⟨_, fr.at (by decide) m75⟩⟩, P⟩, ⟨_, e63, k1⟩, by omega, fun k0 => by omega, by omega, by omega, by omega⟩
theorem op_clearBuffer {L : Nat} {F0 : Int → Int} {hp : xH} (H : yRel L F0 hp) : Cv 10 81 [.ref 28] hp (yE (fun k h1 => yMid L F0 h1 (Cv 10 197 [.ref 63] h1 (yE (fun b h2 => yOut0 L F0 hp k b h2))))) := by
  obtain ⟨v, S, T, N, X, B, A, Y, P⟩ := H
  have ok1 := P.1.1
  have pa := okS_pa P.1
  have ok5 : -1 ≤ S 5 ∧ S 5 ≤ 60 := by have := P.1.2.2.2; omega
  obtain ⟨od, a28, aM⟩ := A.1
  obtain ⟨z0, o0, f0, g0, r0, t0, aS, aSt⟩ := A.2.1
  have hN := B.2.2.2.2
  refine Ev.imp (c_X8_clearBuffer (h28 := a28)) (fun o h1 q => ?_)
  obtain ⟨q1, o28, fr⟩ := q
  refine ⟨v 7, q1, ?_⟩
  have e1 : ∀ i, i ≠ 28 → xat h1 i = xat hp i := fun i hi => fr.2.2 i (by simp only [List.mem_cons, List.not_mem_nil, or_false]; exact hi)
  have B9 : yBs L F0 h1 := by
    obtain ⟨u, e⟩ := B.2.2.2.1
    exact B.eq (Nat.le_of_eq fr.1.symm) (fun i hi => e1 i (by omega)) ⟨u, (e1 76 (by omega)).trans e⟩
  have Y9 : yM h1 v S T N X := Y.eq (fun i i1 i2 => e1 i (by omega))
  have A9 : yK h1 (v 5) 0 (v 3) S T N X := by
    obtain ⟨a1, a2, a3, a4, ⟨Yc, a40, hYc⟩, a6, a7, a8⟩ := A
    exact ⟨⟨od, o28, aM.at (fun i i1 i2 => e1 i (by omega))⟩, a2.eq (fun i i1 i2 => e1 i (by omega)), a3.mono hN (Nat.le_of_eq fr.1.symm) (fun i i1 i2 => e1 i (by omega)), a4.eq (fun i i1 i2 => e1 i (by omega)), ⟨Yc, (e1 40 (by omega)).trans a40, fun q q0 q1 => absurd q1 (by omega)⟩, a6.eq (fun i i1 i2 => e1 i (by omega)), a7.eq (fun i i1 i2 => e1 i (by omega)), a8.eq (fun i i1 i2 => e1 i (by omega))⟩
  refine ⟨B9.2.1, ⟨_, Y9.1⟩, ?_⟩; obtain ⟨m63, m64, m65, m66, m67, ⟨u68, m68⟩, ⟨u69, m69⟩, ⟨u70, m70⟩, ⟨u71, m71⟩, ⟨u72, m72⟩, ⟨u73, m73⟩, ⟨u74, m74⟩, ⟨u75, m75⟩⟩ := Y9
  refine Ev.imp (c_X9_clearBuffer (hM := m63)) (fun o h2 q => ?_)
  obtain ⟨w1, e63, fr2⟩ := q
  have frm : yfr mK h1 h2 := fr2.mono (by decide)
  have f1 := fr.1
  have f2 := fr.2.1
  have f3_ := fr2.1
  have f4 := fr2.2.1
  exact ⟨v 7, w1, ⟨vup (vup v 0 0) 7 0, S, T, N, X, B9.m frm, A9.m B9.2.2.2.2 frm, ⟨e63, fr2.at (by decide) m64, fr2.at (by decide) m65, fr2.at (by decide) m66, fr2.at (by decide) m67, ⟨_, fr2.at (by decide) m68⟩, ⟨_, fr2.at (by decide) m69⟩, ⟨_, fr2.at (by decide) m70⟩, ⟨_, fr2.at (by decide) m71⟩, ⟨_, fr2.at (by decide) m72⟩, ⟨_, fr2.at (by decide) m73⟩, ⟨_, fr2.at (by decide) m74⟩, ⟨_, fr2.at (by decide) m75⟩⟩, P.1, P.2.1, P.2.2.1, ⟨Int.le_refl 0, by show (0 : Int) ≤ 60; decide⟩, fun q q0 q1 => absurd q1 (by show ¬ q < 0; omega), P.2.2.2.2.2⟩, rfl, by omega, by omega, by omega⟩
theorem op_firstError {L : Nat} {F0 : Int → Int} {hp : xH} (H : yRel L F0 hp) : Cv 10 82 [.ref 28] hp (yE (fun k h1 => yMid L F0 h1 (Cv 10 206 [.ref 63] h1 (yE (fun b h2 => yOut0 L F0 hp k b h2))))) := by
  obtain ⟨v, S, T, N, X, B, A, Y, P⟩ := H
  have ok1 := P.1.1
  have pa := okS_pa P.1
  have ok5 : -1 ≤ S 5 ∧ S 5 ≤ 60 := by have := P.1.2.2.2; omega
  obtain ⟨od, a28, aM⟩ := A.1
  obtain ⟨z0, o0, f0, g0, r0, t0, aS, aSt⟩ := A.2.1
  have hN := B.2.2.2.2
  obtain ⟨Yc, a40, hYc⟩ := A.2.2.2.2.1
  obtain ⟨s9, okR9, rd9⟩ := A.2.2.2.2.2.1
  have hY : ∀ q, 0 ≤ q → q < v 7 → 33 ≤ Yc q ∧ Yc q ≤ 126 := fun q q0 q1 => by rw [hYc q q0 q1]; exact P.2.2.2.2.1 q q0 q1
  refine Ev.imp (c_X8_firstError (h28 := a28) (h40 := a40) (hcl := P.2.2.2.1) (hY := hY) (hr := rd9) (hok := okR9) (hC := B.1) (hd := by decide)) (fun o h1 q => ?_)
  obtain ⟨z, q1, rz, ⟨s2, ok2, rd2, -⟩, fr⟩ := q
  refine ⟨z, q1, ?_⟩
  have e1 : ∀ i, i ≠ 41 → i ≠ 42 → xat h1 i = xat hp i := fun i i1 i2 => fr.2.2 i (by simp only [List.mem_cons, List.not_mem_nil, or_false, not_or]; exact ⟨i1, i2⟩)
  have B9 : yBs L F0 h1 := by
    obtain ⟨u, e⟩ := B.2.2.2.1
    exact B.eq (Nat.le_of_eq fr.1.symm) (fun i hi => e1 i (by omega) (by omega)) ⟨u, (e1 76 (by omega) (by omega)).trans e⟩
  have Y9 : yM h1 v S T N X := Y.eq (fun i i1 i2 => e1 i (by omega) (by omega))
  have A9 : yK h1 (v 5) (v 7) (v 3) S T N X := by
    obtain ⟨a1, a2, a3, a4, a5, a6, a7, a8⟩ := A
    exact ⟨a1.eq (fun i i1 => e1 i (by omega) (by omega)), a2.eq (fun i i1 i2 => e1 i (by omega) (by omega)), a3.mono hN (Nat.le_of_eq fr.1.symm) (fun i i1 i2 => e1 i (by omega) (by omega)), a4.eq (fun i i1 i2 => e1 i (by omega) (by omega)), a5.eq (e1 40 (by omega) (by omega)), ⟨s2, ok2, rd2⟩, a7.eq (fun i i1 i2 => e1 i (by omega) (by omega)), a8.eq (fun i i1 i2 => e1 i (by omega) (by omega))⟩
  refine ⟨B9.2.1, ⟨_, Y9.1⟩, ?_⟩; obtain ⟨m63, m64, m65, m66, m67, ⟨u68, m68⟩, ⟨u69, m69⟩, ⟨u70, m70⟩, ⟨u71, m71⟩, ⟨u72, m72⟩, ⟨u73, m73⟩, ⟨u74, m74⟩, ⟨u75, m75⟩⟩ := Y9
  refine Ev.imp (c_X9_firstError (hM := m63) (hX := m67) (hn := P.2.2.2.1) (hc := P.2.2.2.2.1) (hB := m68) (hC := m69) (hd := by decide)) (fun o h2 q => ?_)
  obtain ⟨b, w1, a, w, pn, m, b9, c9, al, e63, e68, e69, fr2⟩ := q
  have frm : yfr mK h1 h2 := fr2.mono (by decide)
  have f1 := fr.1
  have f2 := fr.2.1
  have f3_ := fr2.1
  have f4 := fr2.2.1
  have p7 := P.2.2.2.1
  refine ⟨b, w1, ⟨vup (vup (vup (vup (vup v 0 0) 9 w) 8 a) 13 m) 11 pn, S, T, N, X, B9.m frm, A9.m B9.2.2.2.2 frm, ⟨e63, fr2.at (by decide) m64, fr2.at (by decide) m65, fr2.at (by decide) m66, fr2.at (by decide) m67, ⟨_, e68⟩, ⟨_, e69⟩, ⟨_, fr2.at (by decide) m70⟩, ⟨_, fr2.at (by decide) m71⟩, ⟨_, fr2.at (by decide) m72⟩, ⟨_, fr2.at (by decide) m73⟩, ⟨_, fr2.at (by decide) m74⟩, ⟨_, fr2.at (by decide) m75⟩⟩, P⟩, ?_, by omega, by omega, by omega⟩
  rcases al with ⟨g1, g2⟩ | ⟨g1, g2⟩
  · obtain ⟨b8, e8, mm8, kk8, o8, j1, b0, bj, m0, hq, hs⟩ := g2
    obtain ⟨ps, hs⟩ := hs s9
    obtain ⟨k1, -⟩ := hs (pn.toNat - 1) (by omega)
    have k2 := (hq (pn.toNat - 1) (by omega)).2.2.2.1 (by omega)
    rw [k2, tks_cong (Y := Yc) _ _ _ (fun q q0 q2 => (hYc q q0 (by omega)).symm)] at k1
    rw [g1]
    exact (rds_full rz k1).symm
  · exact rds_one (g1.rds g2 hYc s9) rz
theorem op_work {L : Nat} {F0 : Int → Int} {hp : xH} (H : yRel L F0 hp) : Cv 10 282 [.ref 28, .ref 76] hp (yE (fun k h1 => yMid L F0 h1 (Cv 10 210 [.ref 63] h1 (yE (fun b h2 => yOut L F0 hp k b h2))))) := by
  obtain ⟨v, S, T, N, X, B, A, Y, P⟩ := H
  have ok1 := P.1.1
  have pa := okS_pa P.1
  have ok5 : -1 ≤ S 5 ∧ S 5 ≤ 60 := by have := P.1.2.2.2; omega
  obtain ⟨od, a28, aM⟩ := A.1
  obtain ⟨z0, o0, f0, g0, r0, t0, aS, aSt⟩ := A.2.1
  have hN := B.2.2.2.2
  have p7 := P.2.2.2.1
  have p3 := P.2.1
  obtain ⟨Yc, a40, hYc⟩ := A.2.2.2.2.1
  obtain ⟨s9, okR9, rd9⟩ := A.2.2.2.2.2.1
  have hY : ∀ q, 0 ≤ q → q < v 7 → 33 ≤ Yc q ∧ Yc q ≤ 126 := fun q q0 q1 => by rw [hYc q q0 q1]; exact P.2.2.2.2.1 q q0 q1
  have what : (∃ a, gbad X (v 7) a ∧ 0 ≤ a ∧ a ≤ v 7) ∨ (∃ j Nn bb ee Sq zz, good X (v 7) S j Nn bb ee Sq zz ∧ (0 ≤ zz ∧ zz ≤ 2) ∧ Nn ≤ 60) := by
    obtain ⟨m63, m64, m65, m66, m67, ⟨u68, m68⟩, ⟨u69, m69⟩, ⟨u70, m70⟩, ⟨u71, m71⟩, ⟨u72, m72⟩, ⟨u73, m73⟩, ⟨u74, m74⟩, ⟨u75, m75⟩⟩ := Y
    obtain ⟨_, o, h, -, q⟩ := c_X9_work (d := 10) (hM := m63) (hX := m67) (hn := P.2.2.2.1) (hc := P.2.2.2.2.1) (hB := m68) (hC := m69) (hS := m64) (hT := m65) (hm := P.2.1) (hS0 := P.1) (hd := by decide)
    obtain ⟨b, -, a, w, pn, m, b9, c9, -, -, -, al⟩ := q
    rcases al with ⟨-, g1, g2, -⟩ | ⟨j, Nn, bb, ee, Sq, zz, U, g1, -, g2, g3, -⟩
    · exact Or.inl ⟨a, g1, g2⟩
    · exact Or.inr ⟨j, Nn, bb, ee, Sq, zz, g1, g2, g3⟩
  rcases what with ⟨a, ga, ga2⟩ | ⟨j, Nn, bb, ee, Sq, zz, gd, hz, hNn⟩
  · have hb := ga.no ga2 hYc s9
    have hc : Cv 9 83 [.ref 28] hp (yA (fun e z h => e = some 1 ∧ (∃ s2, okR s2 ∧ rdr h s2) ∧ yfz [41, 42] hp h)) :=
      Ev.imp (c_workBad (d := 9) (h28 := a28) (h40 := a40) (hcl := P.2.2.2.1) (hY := hY) (hr := rd9) (hok := okR9) (hC := B.1) (hb := hb) (hd := by decide)) (fun o h q => Or.inr ⟨1, q.1, rfl, q.2⟩)
    refine Ev.imp (c_L_work (d := 9) a28 hc (fun z h q => by cases q.1) (fun E h q => Option.some.inj q.1)) (fun o h1 q => ?_)
    obtain ⟨k, q1, q⟩ := q
    refine ⟨k, q1, ?_⟩
    rcases q with ⟨q2, z, h9, ⟨q3, -⟩, -⟩ | ⟨E, qE, q2, q3, ⟨s2, ok2, rd2⟩, fz⟩
    · cases q3
    have q3 := Option.some.inj q3
    subst q3
    have q2 : k = 1 := q2
    have e1 : ∀ i, i < 77 → i ≠ 41 → i ≠ 42 → xat h1 i = xat hp i := fun i i0 i1 i2 => fz.2.2.2.1 i i0 (by simp only [List.mem_cons, List.not_mem_nil, or_false, not_or]; exact ⟨i1, i2⟩)
    have B9 := B.z fz (fun i hi => by simp only [List.mem_cons, List.not_mem_nil, or_false] at hi; omega)
    have Y9 := Y.z fz (fun i hi => by simp only [List.mem_cons, List.not_mem_nil, or_false] at hi; omega)
    have A9 : yK h1 (v 5) (v 7) (v 3) S T N X := by
      obtain ⟨a1, a2, a3, a4, a5, a6, a7, a8⟩ := A
      refine ⟨a1.eq (fun i i1 => e1 i (by omega) (by omega) (by omega)), a2.eq (fun i i1 i2 => e1 i (by omega) (by omega) (by omega)), a3.mono hN fz.1 (fun i i1 i2 => ?_), a4.eq (fun i i1 i2 => e1 i (by omega) (by omega) (by omega)), a5.eq (e1 40 (by omega) (by omega) (by omega)), ⟨s2, ok2, rd2⟩, a7.eq (fun i i1 i2 => e1 i (by omega) (by omega) (by omega)), a8.eq (fun i i1 i2 => e1 i (by omega) (by omega) (by omega))⟩
      by_cases i7 : 77 ≤ i
      · exact fz.2.2.2.2 (by decide) i i7 i2 (by simp only [List.mem_cons, List.not_mem_nil, or_false, not_or]; omega)
      · exact e1 i (by omega) (by omega) (by omega)
    refine ⟨B9.2.1, ⟨_, Y9.1⟩, ?_⟩; obtain ⟨m63, m64, m65, m66, m67, ⟨u68, m68⟩, ⟨u69, m69⟩, ⟨u70, m70⟩, ⟨u71, m71⟩, ⟨u72, m72⟩, ⟨u73, m73⟩, ⟨u74, m74⟩, ⟨u75, m75⟩⟩ := Y9
    refine Ev.imp (c_X9_work (hM := m63) (hX := m67) (hn := P.2.2.2.1) (hc := P.2.2.2.2.1) (hB := m68) (hC := m69) (hS := m64) (hT := m65) (hm := P.2.1) (hS0 := P.1) (hd := by decide)) (fun o h2 q => ?_)
    obtain ⟨b, w1, a9, w, pn, m, b9, c9, e68, e69, fr, al⟩ := q
    have frm : yfr mK h1 h2 := fr.mono (by decide)
    have qq := fz.1
    have qq2 := fz.2.1
    have qq3 := fz.2.2.1
    have ww := fr.1
    have ww2 := fr.2.1
    rcases al with ⟨-, g1, g2, e64, e65, e63⟩ | ⟨j, Nn, bb, ee, Sq, zz, U, g1, -⟩
    · exact ⟨b, w1, ⟨vup (vup (vup (vup (vup (vup v 0 0) 9 w) 8 a9) 13 m) 11 pn) 0 1, S, T, N, X, B9.m frm, A9.m B9.2.2.2.2 frm, ⟨e63, e64, e65, fr.at (by decide) m66, fr.at (by decide) m67, ⟨_, e68⟩, ⟨_, e69⟩, ⟨_, fr.at (by decide) m70⟩, ⟨_, fr.at (by decide) m71⟩, ⟨_, fr.at (by decide) m72⟩, ⟨_, fr.at (by decide) m73⟩, ⟨_, fr.at (by decide) m74⟩, ⟨_, fr.at (by decide) m75⟩⟩, P⟩, ⟨_, e63, q2.symm⟩, by omega, fun k0 => by omega, by omega, by omega, by omega⟩
    · obtain ⟨ps, sE, -, -, g3, g4⟩ := g1.cls p7.1 hYc s9
      exact absurd ⟨sE, g3, g4⟩ hb
  · have hc : Cv 9 83 [.ref 28] hp (yA (fun e z h => e = none ∧ z = (Nn : Int) ∧ xat h 28 = some (.inr (8, [.ref 29, .ref 34, .ref 35, yi (v 5), .ref 40, yi 0, .ref 41, .ref 43, yi 1, .ref 56, .ref 58])) ∧ (∀ U, recd (v 3) S T U → ySv h (if v 3 = 6 then 6 else v 3 + 1) U) ∧ (∃ f2 g2, yS h 29 z0 o0 (Sq Nn) f2 g2 (if zz = 0 then 0 else zz) (if zz = 0 then 0 else (Nn : Int))) ∧ (∃ s2, okR s2 ∧ rdr h s2) ∧ yfz [28, 34, 29, 30, 31, 32, 33, 41, 42, 77] hp h)) :=
      Ev.imp (c_workGood (d := 9) (h28 := a28) (hS := aS) (hN := hN) (h26 := B.2.2.1) (hv := A.2.2.1) (hn6 := P.2.1) (hok := P.1) (hst := aSt) (h40 := a40) (hcl := P.2.2.2.1) (hY := hY) (hr := rd9) (hor := okR9) (hC := B.1) (hT := gd.cls p7.1 hYc) (hSq := gd.2.1) (hS0e := gd.1) (hd := by decide)) (fun o h q => Or.inl ⟨(Nn : Int), q.1, rfl, rfl, q.2⟩)
    refine Ev.imp (c_L_work (d := 9) a28 hc (fun z h q => ?_) (fun E h q => by cases q.1)) (fun o h1 q => ?_)
    · obtain ⟨u, e⟩ := B.2.2.2.1
      exact ⟨u, q.2.2.2.2.2.2.at (by decide) (by decide) e⟩
    obtain ⟨k, q1, q⟩ := q
    refine ⟨k, q1, ?_⟩
    rcases q with ⟨q2, z, h9, ⟨-, c1, c2, c3, ⟨f2, g2, c4⟩, ⟨s2, ok2, rd2⟩, fz⟩, q6⟩ | ⟨E, qE, q2, q3, -⟩
    · have fm : ∀ i, i ∈ [28, 34, 29, 30, 31, 32, 33, 41, 42, 77] → i = 77 ∨ (28 ≤ i ∧ i ≤ 34) ∨ i = 41 ∨ i = 42 := fun i hi => by
        simp only [List.mem_cons, List.not_mem_nil, or_false] at hi
        omega
      have e1 : ∀ i, 35 ≤ i → i < 77 → i ≠ 41 → i ≠ 42 → xat h9 i = xat hp i := fun i i0 i3 i1 i2 => fz.2.2.2.1 i i3 (fun m => by have := fm i m; omega)
      have B9 := B.z fz (fun i hi => by have := fm i hi; omega)
      have hN9 := B9.2.2.2.2
      have Y9 := (Y.z fz (fun i hi => by have := fm i hi; omega)).out q6
      have B9 := B9.out q6
      refine ⟨B9.2.1, ⟨_, Y9.1⟩, ?_⟩; obtain ⟨m63, m64, m65, m66, m67, ⟨u68, m68⟩, ⟨u69, m69⟩, ⟨u70, m70⟩, ⟨u71, m71⟩, ⟨u72, m72⟩, ⟨u73, m73⟩, ⟨u74, m74⟩, ⟨u75, m75⟩⟩ := Y9
      refine Ev.imp (c_X9_work (hM := m63) (hX := m67) (hn := P.2.2.2.1) (hc := P.2.2.2.2.1) (hB := m68) (hC := m69) (hS := m64) (hT := m65) (hm := P.2.1) (hS0 := P.1) (hd := by decide)) (fun o h2 q => ?_)
      obtain ⟨b, w1, a9, w, pn, m, b9, c9, e68, e69, fr, al⟩ := q
      have frm : yfr mK h1 h2 := fr.mono (by decide)
      have qq := fz.1
      have qq2 := fz.2.1
      have qq3 := fz.2.2.1
      have ww := fr.1
      have ww2 := fr.2.1
      have uu := q6.2.1
      have uu2 := q6.2.2.1
      rcases al with ⟨-, g1, g2, -⟩ | ⟨j', N', bb', ee', Sq', zz', U, g1, g2, g3, g4, g5, e64, e65, e63⟩
      · obtain ⟨ps, sE, -, -, k3, k4⟩ := gd.cls p7.1 hYc s9
        exact absurd ⟨sE, k3, k4⟩ (g1.no g2 hYc s9)
      · obtain ⟨x1, x2, x3⟩ := good_uni gd g1
        rw [← x3, ← x2, ← x1] at e64
        obtain ⟨n1, n2⟩ := kN.of (S2 := up (up (Sq Nn) 5 (if zz = 0 then -1 else (Nn : Int))) 6 zz) c4 rfl rfl rfl hz (gd.2.1 Nn (Nat.le_refl Nn)) hNn
        have A9 : yK h9 (v 5) 0 (if v 3 = 6 then 6 else v 3 + 1) (up (up (Sq Nn) 5 (if zz = 0 then -1 else (Nn : Int))) 6 zz) U N X := by
          obtain ⟨a1, a2, a3, a4, a5, a6, a7, a8⟩ := A
          exact ⟨⟨1, c2, (aM.one).at (fun i i1 i2 => e1 i (by omega) (by omega) (by omega) (by omega))⟩, n1, c3 U g5, a4.eq (fun i i1 i2 => e1 i (by omega) (by omega) (by omega) (by omega)), ⟨Yc, (e1 40 (by omega) (by omega) (by omega) (by omega)).trans a40, fun q q0 q1 => absurd q1 (by omega)⟩, ⟨s2, ok2, rd2⟩, a7.eq (fun i i1 i2 => e1 i (by omega) (by omega) (by omega) (by omega)), a8.eq (fun i i1 i2 => e1 i (by omega) (by omega) (by omega) (by omega))⟩
        have A9 := (A9.out hN9 q6).m B9.2.2.2.2 frm
        refine ⟨b, w1, ⟨vup (vup (vup (vup (vup (vup (vup v 0 0) 9 w) 8 a9) 13 m) 11 pn) 3 (if v 3 = 6 then 6 else v 3 + 1)) 7 0, _, U, N, X, B9.m frm, A9, ⟨e63, e64, e65, fr.at (by decide) m66, fr.at (by decide) m67, ⟨_, e68⟩, ⟨_, e69⟩, ⟨_, fr.at (by decide) m70⟩, ⟨_, fr.at (by decide) m71⟩, ⟨_, fr.at (by decide) m72⟩, ⟨_, fr.at (by decide) m73⟩, ⟨_, fr.at (by decide) m74⟩, ⟨_, fr.at (by decide) m75⟩⟩, n2, ⟨by show 0 ≤ (if v 3 = 6 then 6 else v 3 + 1); split <;> omega, by show (if v 3 = 6 then 6 else v 3 + 1) ≤ 6; split <;> omega⟩, P.2.2.1, ⟨Int.le_refl 0, by show (0 : Int) ≤ 60; decide⟩, fun q q0 q1 => absurd q1 (by show ¬ q < 0; omega), P.2.2.2.2.2⟩, ⟨_, e63, q2.symm⟩, by omega, fun _ => ?_, by omega, by omega, by omega⟩
        obtain ⟨f, e2, e3⟩ := q6.1
        exact ⟨f, (fr.2.2 76 (by decide)).trans e2, by rw [g2, ← x1, ← c1]; exact e3⟩
    · cases q3
def yOutD (L : Nat) (F : Int → Int) (hp : xH) (k b : UInt64) (h2 : xH) : Prop := yRel L F h2 ∧ b = k ∧ Op.cmpValue (FP.dcmp k k) .l = iN 0 ∧ yrm hp h2
def yOutL (L : Nat) (F : Int → Int) (hp : xH) (k b : Int64) (h2 : xH) : Prop := yRel L F h2 ∧ b = k ∧ yrm hp h2
theorem op_evenShare {L : Nat} {F0 : Int → Int} {hp : xH} (H : yRel L F0 hp) : Cv 10 115 [.ref 28] hp (yD (fun k h1 => yMid L F0 h1 (Cv 10 246 [.ref 63] h1 (yD (fun b h2 => yOutD L F0 hp k b h2))))) := by
  obtain ⟨v, S, T, N, X, B, A, Y, P⟩ := H
  have ok1 := P.1.1
  have pa := okS_pa P.1
  have ok5 : -1 ≤ S 5 ∧ S 5 ≤ 60 := by have := P.1.2.2.2; omega
  obtain ⟨od, a28, aM⟩ := A.1
  obtain ⟨z0, o0, f0, g0, r0, t0, aS, aSt⟩ := A.2.1
  refine Ev.imp (c_X8_evenShare (h28 := a28) (hM := aM) (hS := aS) (hz := P.1.1) (h0 := P.1.2.1) (h1 := P.1.2.2.1) (hd := by decide)) (fun o h1 q => ?_)
  obtain ⟨z, q1, ⟨kk, p9, q9, mt, zq⟩, xm, fz⟩ := q
  refine ⟨z, q1, ?_⟩
  have hK : ∀ i ∈ [28, 43, 45, 47, 49, 51, 52, 53, 54, 55], i = 28 ∨ (43 ≤ i ∧ i ≤ 62) := by simp only [List.mem_cons, List.not_mem_nil, or_false]; omega
  have B9 := B.z fz (fun i hi => by have := hK i hi; omega)
  have Y9 := Y.z fz (fun i hi => by have := hK i hi; omega)
  have A9 := A.q B.2.2.2.2 ⟨xm, A.2.2.2.2.2.2.1.eq (fun i i1 i2 => fz.2.2.2.1 i (by omega) (by simp only [List.mem_cons, List.not_mem_nil, or_false, not_or]; omega)), A.2.2.2.2.2.2.2.eq (fun i i1 i2 => fz.2.2.2.1 i (by omega) (by simp only [List.mem_cons, List.not_mem_nil, or_false, not_or]; omega))⟩ fz hK
  refine ⟨B9.2.1, ⟨_, Y9.1⟩, ?_⟩; obtain ⟨m63, m64, m65, m66, m67, ⟨u68, m68⟩, ⟨u69, m69⟩, ⟨u70, m70⟩, ⟨u71, m71⟩, ⟨u72, m72⟩, ⟨u73, m73⟩, ⟨u74, m74⟩, ⟨u75, m75⟩⟩ := Y9
  refine Ev.imp (c_X9_evenShare (hM := m63) (hS := m64) (hz := P.1.1) (h0 := P.1.2.1) (h1 := P.1.2.2.1) (hA := m71) (hW := m72) (hp1 := m74) (hp2 := m75) (hd := by decide)) (fun o h2 q => ?_)
  obtain ⟨b, w1, x20, e63, ⟨c, p8, q8, mt2, bq⟩, s71, s72, s74, s75, fr⟩ := q
  have frm : yfr mK h1 h2 := fr.mono (by decide)
  have qq := fz.1
  have qq2 := fz.2.1
  have qq3 := fz.2.2.1
  have ww := fr.1
  have ww2 := fr.2.1
  have mr := mtc_rng mt (by omega)
  have hr := hld_rng p9 q9 (kk - 1).toNat
  rw [hld_hls mt] at hr
  refine ⟨b, w1, ⟨vup (vup v 0 0) 20 x20, S, T, N, X, B9.m frm, A9.m B9.2.2.2.2 frm, ⟨e63, fr.at (by decide) m64, fr.at (by decide) m65, fr.at (by decide) m66, fr.at (by decide) m67, ⟨_, fr.at (by decide) m68⟩, ⟨_, fr.at (by decide) m69⟩, ⟨_, fr.at (by decide) m70⟩, s71, s72, ⟨_, fr.at (by decide) m73⟩, s74, s75⟩, P⟩, ?_, ?_, by omega, by omega, by omega⟩
  · rw [bq, zq, hld_hls mt2, (mtc_uni mt2 mt).1]
  · rw [zq]
    exact shv_cmp ⟨hr.1, by omega, by omega⟩
theorem op_digest {L : Nat} {F0 : Int → Int} {hp : xH} (H : yRel L F0 hp) : Cv 10 116 [.ref 28] hp (yL (fun k h1 => yMid L F0 h1 (Cv 10 249 [.ref 63] h1 (yL (fun b h2 => yOutL L F0 hp k b h2))))) := by
  obtain ⟨v, S, T, N, X, B, A, Y, P⟩ := H
  have ok1 := P.1.1
  have pa := okS_pa P.1
  have ok5 : -1 ≤ S 5 ∧ S 5 ≤ 60 := by have := P.1.2.2.2; omega
  obtain ⟨od, a28, aM⟩ := A.1
  obtain ⟨z0, o0, f0, g0, r0, t0, aS, aSt⟩ := A.2.1
  obtain ⟨t57, a57⟩ := A.2.2.2.2.2.2.1.2
  obtain ⟨⟨la, fi, ls, lb, lt, a58⟩, a59, a61, ⟨t60, a60⟩, t62, a62⟩ := A.2.2.2.2.2.2.2
  obtain ⟨mc, e0, F9, bs9, a34, -⟩ := A.2.2.1
  obtain ⟨Yc, a40, hYc⟩ := A.2.2.2.2.1
  refine Ev.imp (c_X8_digest (h28 := a28) (h56 := A.2.2.2.2.2.2.1.1) (h57 := a57) (h58 := a58) (h59 := a59) (h61 := a61) (h60 := a60) (h62 := a62) (hM := aM) (hS := aS) (hz := P.1.1) (h0 := P.1.2.1) (h1 := P.1.2.2.1) (hN := B.2.2.2.2) (hst := aSt) (h5 := ok5) (h40 := a40) (hcl := P.2.2.2.1) (hY := hYc) (h34 := a34) (hd := by decide)) (fun o h1 q => ?_)
  obtain ⟨z, q1, ⟨c, n2, P9, Q9, mt, nd, zq⟩, xm, xt, x58, x60, x62, fz⟩ := q
  refine ⟨z, q1, ?_⟩
  have hK : ∀ i ∈ [28, 43, 45, 47, 49, 51, 52, 53, 54, 55, 57, 58, 60, 62], i = 28 ∨ (43 ≤ i ∧ i ≤ 62) := by simp only [List.mem_cons, List.not_mem_nil, or_false]; omega
  have B9 := B.z fz (fun i hi => by have := hK i hi; omega)
  have Y9 := Y.z fz (fun i hi => by have := hK i hi; omega)
  have A9 := A.q B.2.2.2.2 ⟨xm, ⟨fz.at (by decide) (by decide) A.2.2.2.2.2.2.1.1, xt⟩, ⟨x58, fz.at (by decide) (by decide) a59, fz.at (by decide) (by decide) a61, x60, x62⟩⟩ fz hK
  refine ⟨B9.2.1, ⟨_, Y9.1⟩, ?_⟩; obtain ⟨m63, m64, m65, m66, m67, ⟨u68, m68⟩, ⟨u69, m69⟩, ⟨u70, m70⟩, ⟨u71, m71⟩, ⟨u72, m72⟩, ⟨u73, m73⟩, ⟨u74, m74⟩, ⟨u75, m75⟩⟩ := Y9
  refine Ev.imp (c_X9_digest (hM := m63) (hS := m64) (hz := P.1.1) (h0 := P.1.2.1) (h1 := P.1.2.2.1) (hA := m71) (hW := m72) (hp1 := m74) (hp2 := m75) (hA0 := m70) (hA3 := m73) (hX := m67) (h7 := P.2.2.2.1) (hs5 := ok5) (hpi := pa) (hd := by decide)) (fun o h2 q => ?_)
  obtain ⟨b, w1, c1, n1, p1, q1_, c2, p2, q2, c3, p3, q3, hm, mt2, mt3, bq, ⟨ee, xa, xb, e63⟩, s70, s71, s72, s73, s74, s75, fr⟩ := q
  have frm : yfr mK h1 h2 := fr.mono (by decide)
  have qq := fz.1
  have qq2 := fz.2.1
  have qq3 := fz.2.2.1
  have ww := fr.1
  have ww2 := fr.2.1
  refine ⟨b, w1, ⟨vup (vup (vup v 0 ee) 20 xa) 21 xb, S, T, N, X, B9.m frm, A9.m B9.2.2.2.2 frm, ⟨e63, fr.at (by decide) m64, fr.at (by decide) m65, fr.at (by decide) m66, fr.at (by decide) m67, ⟨_, fr.at (by decide) m68⟩, ⟨_, fr.at (by decide) m69⟩, s70, s71, s72, s73, s74, s75⟩, P⟩, ?_, by omega, by omega, by omega⟩
  rw [bq, zq, hld_hls mt3, (mtc_uni mt3 mt).1, hmt_uni mt2 mt, hct_uni (c := c1) (c' := c) (e' := hls S (c - 1).toNat) (n' := n2) (fun g => ?_)]
  obtain ⟨k1, k2⟩ := hm g
  have k3 := (mtc_uni k1 mt).1
  exact ⟨k3, by rw [hld_hls k1, k3], need_uni k2 (nd g)⟩
