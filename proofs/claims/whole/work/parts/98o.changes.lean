/-! What changes the state, side by side. -/
theorem kNow_le {i : Nat} (h : i ∈ kNow) : i = 77 ∨ i = 34 ∨ (28 ≤ i ∧ i ≤ 33) := by
  unfold kNow at h
  simp only [List.mem_cons, List.not_mem_nil, or_false] at h
  omega
theorem yK.now {h h1 : xH} {kp cl n m : Int} {S T N X S2 U : Int → Int} (H : yK h kp cl n S T N X) (f : yfz kNow h h1) (o28 : xat h1 28 = some (.inr (8, [.ref 29, .ref 34, .ref 35, yi kp, .ref 40, yi cl, .ref 41, .ref 43, yi 1, .ref 56, .ref 58]))) (s : ySv h1 m U ∧ kN h1 S2) : yK h1 kp cl m S2 U N X := by
  obtain ⟨⟨od, a0, a1⟩, a2, a3, a4, a5, a6, a7, a8⟩ := H
  have e : ∀ i, 35 ≤ i → i ≤ 62 → xat h1 i = xat h i := fun i i1 i2 => f.2.2.2.1 i (by omega) (fun q => by have := kNow_le q; omega)
  exact ⟨⟨1, o28, (a1.one (S2 := S2)).at (fun i i1 i2 => e i (by omega) (by omega))⟩, s.2, s.1, a4.eq (fun i i1 i2 => e i (by omega) (by omega)), a5.eq (e 40 (by omega) (by omega)), a6.eq (fun i i1 i2 => e i (by omega) (by omega)), a7.eq (fun i i1 i2 => e i (by omega) (by omega)), a8.eq (fun i i1 i2 => e i (by omega) (by omega))⟩
theorem yK.bare {h : xH} {kp cl n : Int} {S T N X : Int → Int} (H : yK h kp cl n S T N X) (hN : 77 ≤ h.1) : yK (xbare h 6) kp cl n S T N X := H.eq hN (Nat.le_succ _) (fun _ _ _ _ => rfl)
theorem yM.bare {h : xH} {v : Nat → Int} {S T N X : Int → Int} (H : yM h v S T N X) : yM (xbare h 6) v S T N X := H.eq (fun _ _ _ => rfl)
theorem yBs.bare {L : Nat} {F0 : Int → Int} {h : xH} (H : yBs L F0 h) : yBs L F0 (xbare h 6) := H.eq (Nat.le_succ _) (fun _ _ => rfl) H.2.2.2.1
def cls1 (v : Nat → Int) (cond : Prop) (val : Int) (sp : Int → (Int → Int) → (Int → Int) → Prop) (FE : Nat → Prop) (hp : xH) : Option Nat → Int → xH → Prop := fun e y h => ((e = none ∧ cond ∧ y = val ∧ xat h 28 = some (.inr (8, [.ref 29, .ref 34, .ref 35, yi (v 5), .ref 40, yi (v 7), .ref 41, .ref 43, yi 1, .ref 56, .ref 58])) ∧ ∀ m S2 U, sp m S2 U → ySv h m U ∧ kN h S2) ∨ (∃ E, e = some E ∧ FE E ∧ h = xbare hp 6)) ∧ yfz kNow hp h
def mod1 (v : Nat → Int) (S T N X : Int → Int) (cond : Prop) (val : Int) (sp : Int → (Int → Int) → (Int → Int) → Prop) (MC : Int → Prop) (h1 : xH) : Int → xH → Prop := fun b h2 => ∃ c m S2 U, ((c = 0 ∧ cond ∧ b = val ∧ sp m S2 U) ∨ (m = v 3 ∧ S2 = S ∧ U = T ∧ MC c)) ∧ yM h2 (vup (vup v 0 c) 3 m) S2 U N X ∧ yfr mK h1 h2
theorem mu_op {L : Nat} {F0 : Int → Int} {hp : xH} {v : Nat → Int} {S T N X : Int → Int} {d dM kL kM : Nat} {aL aM : List Value} {cond : Prop} {val : Int} {sp : Int → (Int → Int) → (Int → Int) → Prop} {FE : Nat → Prop} {MC : Int → Prop} {l : List Nat}
    (B : yBs L F0 hp) (A : yK hp (v 5) (v 7) (v 3) S T N X) (Y : yM hp v S T N X) (P : yPu v S N X) (hl : l.length ≤ 3)
    (hL : Cv d kL aL hp (yW l (cls1 v cond val sp FE hp))) (hM : ∀ h1, yM h1 v S T N X → Cv dM kM aM h1 (yE (mod1 v S T N X cond val sp MC h1)))
    (hs : ∀ m S2 U, cond → sp m S2 U → okS S2 ∧ 0 ≤ m ∧ m ≤ 6) (hc : ∀ c, MC c → ¬ cond) (hF : ∀ E, FE E → ¬ cond) (hE : ∀ E c, E ∈ l → FE E → MC c → c = cdl l E) :
    Cv d kL aL hp (yE (fun k h1 => yMid L F0 h1 (Cv dM kM aM h1 (yE (fun b h2 => yOut L F0 hp k b h2))))) := by
  have hN := B.2.2.2.2
  refine Ev.imp hL (fun o h1 q => ?_)
  obtain ⟨k, q1, q⟩ := q
  refine ⟨k, q1, ?_⟩
  rcases q with ⟨q2, z, h9, ⟨q3, q4⟩, q6⟩ | ⟨E, qE, q2, q3, q4⟩
  · rcases q3 with ⟨-, a1, a2, a3, a4⟩ | ⟨E, e, -⟩
    · have B9 := B.z q4 (fun i hi => by have := kNow_le hi; omega)
      have hN9 := B9.2.2.2.2
      have Y9 := (Y.z q4 (fun i hi => by have := kNow_le hi; omega)).out q6
      have B9 := B9.out q6
      refine ⟨B9.2.1, ⟨_, Y9.1⟩, Ev.imp (hM h1 Y9) (fun o h2 w => ?_)⟩
      obtain ⟨b, w1, c, m, S2, U, w2, w3, w4⟩ := w
      rcases w2 with ⟨c0, c1, c2, c3⟩ | ⟨m3, eS, eU, mc⟩
      · have A9 := ((A.now q4 a3 (a4 m S2 U c3)).out hN9 q6).m B9.2.2.2.2 w4
        obtain ⟨o1, o2, o3⟩ := hs m S2 U c1 c3
        have qq := q4.1
        have qq2 := q4.2.1
        have qq3 := q4.2.2.1
        have ww := w4.1
        have ww2 := w4.2.1
        have uu := q6.2.1
        have uu2 := q6.2.2.1
        refine ⟨b, w1, ⟨_, S2, U, N, X, B9.m w4, A9, w3, o1, ⟨o2, o3⟩, P.2.2⟩, ⟨_, w3.1, c0.trans q2.symm⟩, by omega, fun _ => ?_, by omega, by omega, by omega⟩
        obtain ⟨f, e1, e2⟩ := q6.1
        exact ⟨f, (w4.2.2 76 (by decide)).trans e1, by rw [c2, ← a2]; exact e2⟩
      · exact absurd a1 (hc c mc)
    · cases e
  · rcases q3 with ⟨e, -⟩ | ⟨E', e, a1, a2⟩
    · cases e
    · have e := Option.some.inj e
      subst e
      subst a2
      have B9 := B.bare
      have A9 := A.bare hN
      have Y9 := Y.bare
      refine ⟨B9.2.1, ⟨_, Y9.1⟩, Ev.imp (hM _ Y9) (fun o h2 w => ?_)⟩
      obtain ⟨b, w1, c, m, S2, U, w2, w3, w4⟩ := w
      rcases w2 with ⟨c0, c1, c2, c3⟩ | ⟨m3, eS, eU, mc⟩
      · exact absurd c1 (hF E a1)
      · subst m3
        subst eS
        subst eU
        have m1 := hE E c qE a1 mc
        have ww := w4.1
        have ww2 := w4.2.1
        have bb : (xbare hp 6).1 = hp.1 + 1 := rfl
        have bb2 : (xbare hp 6).2.1 = hp.2.1 + 6 := rfl
        have il := List.idxOf_lt_length_of_mem qE
        have k1 : 1 ≤ k ∧ k ≤ 3 := by
          rw [q2]
          unfold cdl
          omega
        exact ⟨b, w1, ⟨vup (vup v 0 c) 3 (v 3), S2, U, N, X, B9.m w4, A9.m B9.2.2.2.2 w4, w3, P⟩, ⟨_, w3.1, m1.trans q2.symm⟩, by omega, fun k0 => by omega, by omega, by omega, by omega⟩
theorem mu_op0 {L : Nat} {F0 : Int → Int} {hp : xH} {v : Nat → Int} {S T N X : Int → Int} {d dM kL kM : Nat} {aL aM : List Value} {val : Int} {sp : Int → (Int → Int) → (Int → Int) → Prop}
    (B : yBs L F0 hp) (A : yK hp (v 5) (v 7) (v 3) S T N X) (Y : yM hp v S T N X) (P : yPu v S N X)
    (hL : Cv d kL aL hp (yA (cls1 v True val sp (fun _ => False) hp))) (hM : ∀ h1, yM h1 v S T N X → Cv dM kM aM h1 (yE (mod1 v S T N X True val sp (fun _ => False) h1)))
    (hs : ∀ m S2 U, sp m S2 U → okS S2 ∧ 0 ≤ m ∧ m ≤ 6) :
    Cv d kL aL hp (yE (fun k h1 => yMid L F0 h1 (Cv dM kM aM h1 (yE (fun b h2 => yOut0 L F0 hp k b h2))))) := by
  have hN := B.2.2.2.2
  refine Ev.imp hL (fun o h1 q => ?_)
  rcases q with ⟨z, q1, q3, q4⟩ | ⟨E, q1, q3, q4⟩
  · refine ⟨z, q1, ?_⟩
    rcases q3 with ⟨-, a1, a2, a3, a4⟩ | ⟨E, e, -⟩
    · have B9 := B.z q4 (fun i hi => by have := kNow_le hi; omega)
      have Y9 := Y.z q4 (fun i hi => by have := kNow_le hi; omega)
      refine ⟨B9.2.1, ⟨_, Y9.1⟩, Ev.imp (hM h1 Y9) (fun o h2 w => ?_)⟩
      obtain ⟨b, w1, c, m, S2, U, w2, w3, w4⟩ := w
      rcases w2 with ⟨c0, c1, c2, c3⟩ | ⟨m3, eS, eU, mc⟩
      · have A9 := (A.now q4 a3 (a4 m S2 U c3)).m B9.2.2.2.2 w4
        obtain ⟨o1, o2, o3⟩ := hs m S2 U c3
        have qq := q4.1
        have qq2 := q4.2.1
        have qq3 := q4.2.2.1
        have ww := w4.1
        have ww2 := w4.2.1
        exact ⟨b, w1, ⟨_, S2, U, N, X, B9.m w4, A9, w3, o1, ⟨o2, o3⟩, P.2.2⟩, c2.trans a2.symm, by omega, by omega, by omega⟩
      · exact mc.elim
    · cases e
  · rcases q3 with ⟨e, -⟩ | ⟨E', e, a1, a2⟩
    · cases e
    · exact a1.elim
theorem ystp.eq {S S2 : Int → Int} {r t : Int} (H : ystp S r t) (e : S2 5 = S 5 ∧ S2 6 = S 6) : ystp S2 r t := by
  unfold ystp at H ⊢
  rw [e.1, e.2]
  exact H
theorem sp_addNote {S S2 : Int → Int} (P : okS S) {x0 x1 : Int} (hc : 0 ≤ x0 ∧ x0 ≤ 1 ∧ 0 ≤ x1 ∧ x1 ≤ 60 ∧ S (0 + x0) < 20) (hsp : S2 (0 + x0) = S (0 + x0) + 1 ∧ S2 (7 + 20 * x0 + S (0 + x0)) = x1 ∧ ∀ q, q ≠ 0 + x0 → q ≠ 7 + 20 * x0 + S (0 + x0) → S2 q = S q) : okS S2 ∧ S2 5 = S 5 ∧ S2 6 = S 6 := by
  have ln : ∀ t, (0 ≤ t ∧ t ≤ 1) → 0 ≤ S (0 + t) ∧ S (0 + t) ≤ 20 := fun t ht => by
    obtain ⟨h9, -⟩ := P
    rcases (by omega : t = 0 ∨ t = 1) with e | e
    · subst e
      exact ⟨h9.1, h9.2.1⟩
    · subst e
      exact ⟨h9.2.2.1, h9.2.2.2.1⟩
  have pa := okS_pa P
  have l9 : 0 ≤ S (0 + x0) ∧ S (0 + x0) < 20 := ⟨(ln x0 (by omega)).1, by omega⟩
  obtain ⟨s1, s2, s3⟩ := hsp
  refine ⟨okS_of P (t := x0) (by omega) (n := S (0 + x0) + 1) (by omega) s1 (fun q q0 q1 => ?_) (fun q q0 q1 => s3 q q0 (by omega)), s3 5 (by omega) (by omega), s3 6 (by omega) (by omega)⟩
  by_cases e : q = S (0 + x0)
  · rw [e, s2]
    omega
  · rw [s3 _ (by omega) (by omega)]
    exact pa x0 q (by omega) (by omega) q0 (by omega)
theorem op_addNote {L : Nat} {F0 : Int → Int} {hp : xH} (H : yRel L F0 hp) {x0 x1 : Int} (hx : -2147483648 ≤ x0 ∧ x0 ≤ 2147483647 ∧ -2147483648 ≤ x1 ∧ x1 ≤ 2147483647) : Cv 10 272 [.ref 28, yi x0, yi x1, .ref 76] hp (yE (fun k h1 => yMid L F0 h1 (Cv 10 185 [.ref 63, yi x0, yi x1] h1 (yE (fun b h2 => yOut L F0 hp k b h2))))) := by
  obtain ⟨v, S, T, N, X, B, A, Y, P⟩ := H
  have ok1 := P.1.1
  have pa := okS_pa P.1
  have ok5 : -1 ≤ S 5 ∧ S 5 ≤ 60 := by have := P.1.2.2.2; omega
  obtain ⟨od, a28, aM⟩ := A.1
  obtain ⟨z0, o0, f0, g0, r0, t0, aS, aSt⟩ := A.2.1
  have hc : Cv 9 70 [.ref 28, yi x0, yi x1] hp (yA (cls1 v (0 ≤ x0 ∧ x0 ≤ 1 ∧ 0 ≤ x1 ∧ x1 ≤ 60 ∧ S (0 + x0) < 20) (S (0 + x0) + 1) (fun m S2 U => m = (if v 3 = 6 then 6 else v 3 + 1) ∧ recd (v 3) S T U ∧ (S2 (0 + x0) = S (0 + x0) + 1 ∧ S2 (7 + 20 * x0 + S (0 + x0)) = x1 ∧ ∀ q, q ≠ 0 + x0 → q ≠ 7 + 20 * x0 + S (0 + x0) → S2 q = S q)) (fun E => (E = 0 ∧ (¬ (0 ≤ x0 ∧ x0 ≤ 1))) ∨ (E = 1 ∧ (0 ≤ x0 ∧ x0 ≤ 1 ∧ ¬ (0 ≤ x1 ∧ x1 ≤ 60))) ∨ (E = 2 ∧ (0 ≤ x0 ∧ x0 ≤ 1 ∧ 0 ≤ x1 ∧ x1 ≤ 60 ∧ S (0 + x0) = 20))) hp)) := by
    refine Ev.imp (c_X8_addNote (x := x0) (y := x1) (h28 := a28) (hS := aS) (hN := B.2.2.2.2) (h26 := B.2.2.1) (hv := A.2.2.1) (hn6 := P.2.1) (hok := P.1) (hst := aSt) (hx := by omega) (hd := by decide)) (fun o h q => ?_)
    rcases q with ⟨z, q1, q2, fz⟩ | ⟨E, q1, q2, fz⟩
    · refine Or.inl ⟨z, q1, ?_, fz⟩
      rcases q2 with ⟨e0, e1, e2, e3, e4, e5⟩ | ⟨e0, e1, e2⟩ | ⟨e0, e1, e2⟩ | ⟨e0, e1, e2⟩
      · refine Or.inl ⟨e0, e1, e2, e3, fun m S2 U hu => ?_⟩
        obtain ⟨u1, u2, u3⟩ := hu
        subst u1
        obtain ⟨f9, g9, y9⟩ := e5 S2 u3
        exact ⟨e4 U u2, _, _, f9, g9, r0, t0, y9, aSt.eq (sp_addNote P.1 e1 u3).2⟩
      · exact Or.inr ⟨0, e0, Or.inl ⟨rfl, e1⟩, e2⟩
      · exact Or.inr ⟨1, e0, Or.inr (Or.inl ⟨rfl, e1⟩), e2⟩
      · exact Or.inr ⟨2, e0, Or.inr (Or.inr (⟨rfl, e1⟩)), e2⟩
    · refine Or.inr ⟨E, q1, ?_, fz⟩
      rcases q2 with ⟨e0, e1, e2, e3, e4, e5⟩ | ⟨e0, e1, e2⟩ | ⟨e0, e1, e2⟩ | ⟨e0, e1, e2⟩
      · refine Or.inl ⟨e0, e1, e2, e3, fun m S2 U hu => ?_⟩
        obtain ⟨u1, u2, u3⟩ := hu
        subst u1
        obtain ⟨f9, g9, y9⟩ := e5 S2 u3
        exact ⟨e4 U u2, _, _, f9, g9, r0, t0, y9, aSt.eq (sp_addNote P.1 e1 u3).2⟩
      · exact Or.inr ⟨0, e0, Or.inl ⟨rfl, e1⟩, e2⟩
      · exact Or.inr ⟨1, e0, Or.inr (Or.inl ⟨rfl, e1⟩), e2⟩
      · exact Or.inr ⟨2, e0, Or.inr (Or.inr (⟨rfl, e1⟩)), e2⟩
  refine mu_op (l := [0, 1, 2]) (MC := (fun c => (c = 1 ∧ (¬ (0 ≤ x0 ∧ x0 ≤ 1))) ∨ (c = 2 ∧ (0 ≤ x0 ∧ x0 ≤ 1 ∧ ¬ (0 ≤ x1 ∧ x1 ≤ 60))) ∨ (c = 3 ∧ (0 ≤ x0 ∧ x0 ≤ 1 ∧ 0 ≤ x1 ∧ x1 ≤ 60 ∧ S (0 + x0) = 20)))) B A Y P (by decide) (c_L_addNote (d := 9) a28 hc (fun z h q => ?_) (fun E h q => ?_)) (fun h1 Y1 => ?_) (fun m S2 U c1 c2 => ?_) (fun c g c1 => ?_) (fun E g c1 => ?_) (fun E c hE g c1 => ?_)
  · obtain ⟨u, e⟩ := B.2.2.2.1
    exact ⟨u, q.2.at (by decide) (by decide) e⟩
  · rcases q.1 with ⟨q0, -⟩ | ⟨E', q0, q1, -⟩
    · cases q0
    · have q0 := Option.some.inj q0
      subst q0
      omega
  · obtain ⟨m63, m64, m65, m66, m67, ⟨u68, m68⟩, ⟨u69, m69⟩, ⟨u70, m70⟩, ⟨u71, m71⟩, ⟨u72, m72⟩, ⟨u73, m73⟩, ⟨u74, m74⟩, ⟨u75, m75⟩⟩ := Y1
    refine Ev.imp (c_X9_addNote (t := x0) (x := x1) (hM := m63) (hS := m64) (hT := m65) (hm := P.2.1) (hl := by omega) (ht := by omega) (hd := by decide)) (fun o h q => ?_)
    obtain ⟨b, q1, c, m, S2, U, e63, e64, e65, al, fr⟩ := q
    refine ⟨b, q1, c, m, S2, U, ?_, ⟨e63, e64, e65, fr.at (by decide) m66, fr.at (by decide) m67, ⟨_, fr.at (by decide) m68⟩, ⟨_, fr.at (by decide) m69⟩, ⟨_, fr.at (by decide) m70⟩, ⟨_, fr.at (by decide) m71⟩, ⟨_, fr.at (by decide) m72⟩, ⟨_, fr.at (by decide) m73⟩, ⟨_, fr.at (by decide) m74⟩, ⟨_, fr.at (by decide) m75⟩⟩, fr.mono (by decide)⟩
    rcases al with ⟨g0, g1, g2, g3, g4, g5⟩ | ⟨g0, g1, g2, g3, g4⟩ | ⟨g0, g1, g2, g3, g4⟩ | ⟨g0, g1, g2, g3, g4⟩
    · exact Or.inl ⟨g0, g3, g4, g1, g2, g5⟩
    · exact Or.inr ⟨g1, g2, g3, Or.inl ⟨g0, g4⟩⟩
    · exact Or.inr ⟨g1, g2, g3, Or.inr (Or.inl ⟨g0, g4⟩)⟩
    · exact Or.inr ⟨g1, g2, g3, Or.inr (Or.inr (⟨g0, g4⟩))⟩
  · exact ⟨(sp_addNote P.1 c1 c2.2.2).1, by have := P.2.1; have := c2.1; split at this <;> omega⟩
  · omega
  · omega
  · rcases g with ⟨g0, g⟩ | ⟨g0, g⟩ | ⟨g0, g⟩
    · subst g0
      rcases c1 with ⟨c0, c1⟩ | ⟨c0, c1⟩ | ⟨c0, c1⟩
      · exact c0
      · (exfalso; omega)
      · (exfalso; omega)
    · subst g0
      rcases c1 with ⟨c0, c1⟩ | ⟨c0, c1⟩ | ⟨c0, c1⟩
      · (exfalso; omega)
      · exact c0
      · (exfalso; omega)
    · subst g0
      rcases c1 with ⟨c0, c1⟩ | ⟨c0, c1⟩ | ⟨c0, c1⟩
      · (exfalso; omega)
      · (exfalso; omega)
      · exact c0
theorem sp_setNote {S S2 : Int → Int} (P : okS S) {x0 x1 x2 : Int} (hc : 0 ≤ x0 ∧ x0 ≤ 1 ∧ 0 ≤ x1 ∧ x1 < S (0 + x0) ∧ 0 ≤ x2 ∧ x2 ≤ 60) (hsp : S2 = up S (7 + 20 * x0 + x1) x2) : okS S2 ∧ S2 5 = S 5 ∧ S2 6 = S 6 := by
  have ln : ∀ t, (0 ≤ t ∧ t ≤ 1) → 0 ≤ S (0 + t) ∧ S (0 + t) ≤ 20 := fun t ht => by
    obtain ⟨h9, -⟩ := P
    rcases (by omega : t = 0 ∨ t = 1) with e | e
    · subst e
      exact ⟨h9.1, h9.2.1⟩
    · subst e
      exact ⟨h9.2.2.1, h9.2.2.2.1⟩
  have pa := okS_pa P
  have l9 := ln x0 (by omega)
  subst hsp
  have up9 : ∀ q, q ≠ 7 + 20 * x0 + x1 → up S (7 + 20 * x0 + x1) x2 q = S q := fun q h => up_ne _ _ h
  refine ⟨okS_of P (t := x0) (by omega) (n := S (0 + x0)) l9 (up9 _ (by omega)) (fun q q0 q1 => ?_) (fun q q0 q1 => up9 q (by omega)), up9 5 (by omega), up9 6 (by omega)⟩
  by_cases e : q = x1
  · rw [e, up_self]
    omega
  · rw [up9 _ (by omega)]
    exact pa x0 q (by omega) (by omega) q0 q1
theorem op_setNote {L : Nat} {F0 : Int → Int} {hp : xH} (H : yRel L F0 hp) {x0 x1 x2 : Int} (hx : -2147483648 ≤ x0 ∧ x0 ≤ 2147483647 ∧ -2147483648 ≤ x1 ∧ x1 ≤ 2147483647 ∧ -2147483648 ≤ x2 ∧ x2 ≤ 2147483647) : Cv 10 273 [.ref 28, yi x0, yi x1, yi x2, .ref 76] hp (yE (fun k h1 => yMid L F0 h1 (Cv 10 186 [.ref 63, yi x0, yi x1, yi x2] h1 (yE (fun b h2 => yOut L F0 hp k b h2))))) := by
  obtain ⟨v, S, T, N, X, B, A, Y, P⟩ := H
  have ok1 := P.1.1
  have pa := okS_pa P.1
  have ok5 : -1 ≤ S 5 ∧ S 5 ≤ 60 := by have := P.1.2.2.2; omega
  obtain ⟨od, a28, aM⟩ := A.1
  obtain ⟨z0, o0, f0, g0, r0, t0, aS, aSt⟩ := A.2.1
  have hc : Cv 9 71 [.ref 28, yi x0, yi x1, yi x2] hp (yA (cls1 v (0 ≤ x0 ∧ x0 ≤ 1 ∧ 0 ≤ x1 ∧ x1 < S (0 + x0) ∧ 0 ≤ x2 ∧ x2 ≤ 60) (S (7 + 20 * x0 + x1)) (fun m S2 U => m = (if v 3 = 6 then 6 else v 3 + 1) ∧ recd (v 3) S T U ∧ (S2 = up S (7 + 20 * x0 + x1) x2)) (fun E => (E = 0 ∧ (¬ (0 ≤ x0 ∧ x0 ≤ 1 ∧ 0 ≤ x1 ∧ x1 < S (0 + x0)))) ∨ (E = 1 ∧ (0 ≤ x0 ∧ x0 ≤ 1 ∧ 0 ≤ x1 ∧ x1 < S (0 + x0) ∧ ¬ (0 ≤ x2 ∧ x2 ≤ 60)))) hp)) := by
    refine Ev.imp (c_X8_setNote (x := x0) (k := x1) (y := x2) (h28 := a28) (hS := aS) (hN := B.2.2.2.2) (h26 := B.2.2.1) (hv := A.2.2.1) (hn6 := P.2.1) (hok := P.1) (hst := aSt) (hx := by omega) (hd := by decide)) (fun o h q => ?_)
    rcases q with ⟨z, q1, q2, fz⟩ | ⟨E, q1, q2, fz⟩
    · refine Or.inl ⟨z, q1, ?_, fz⟩
      rcases q2 with ⟨e0, e1, e2, e3, e4, e5⟩ | ⟨e0, e1, e2⟩ | ⟨e0, e1, e2⟩
      · refine Or.inl ⟨e0, e1, e2, e3, fun m S2 U hu => ?_⟩
        obtain ⟨u1, u2, u3⟩ := hu
        subst u1
        obtain ⟨f9, g9, y9⟩ := e5 S2 u3
        exact ⟨e4 U u2, _, _, f9, g9, r0, t0, y9, aSt.eq (sp_setNote P.1 e1 u3).2⟩
      · exact Or.inr ⟨0, e0, Or.inl ⟨rfl, e1⟩, e2⟩
      · exact Or.inr ⟨1, e0, Or.inr (⟨rfl, e1⟩), e2⟩
    · refine Or.inr ⟨E, q1, ?_, fz⟩
      rcases q2 with ⟨e0, e1, e2, e3, e4, e5⟩ | ⟨e0, e1, e2⟩ | ⟨e0, e1, e2⟩
      · refine Or.inl ⟨e0, e1, e2, e3, fun m S2 U hu => ?_⟩
        obtain ⟨u1, u2, u3⟩ := hu
        subst u1
        obtain ⟨f9, g9, y9⟩ := e5 S2 u3
        exact ⟨e4 U u2, _, _, f9, g9, r0, t0, y9, aSt.eq (sp_setNote P.1 e1 u3).2⟩
      · exact Or.inr ⟨0, e0, Or.inl ⟨rfl, e1⟩, e2⟩
      · exact Or.inr ⟨1, e0, Or.inr (⟨rfl, e1⟩), e2⟩
  refine mu_op (l := [0, 1]) (MC := (fun c => (c = 1 ∧ (¬ (0 ≤ x0 ∧ x0 ≤ 1 ∧ 0 ≤ x1 ∧ x1 < S (0 + x0)))) ∨ (c = 2 ∧ (0 ≤ x0 ∧ x0 ≤ 1 ∧ 0 ≤ x1 ∧ x1 < S (0 + x0) ∧ ¬ (0 ≤ x2 ∧ x2 ≤ 60))))) B A Y P (by decide) (c_L_setNote (d := 9) a28 hc (fun z h q => ?_) (fun E h q => ?_)) (fun h1 Y1 => ?_) (fun m S2 U c1 c2 => ?_) (fun c g c1 => ?_) (fun E g c1 => ?_) (fun E c hE g c1 => ?_)
  · obtain ⟨u, e⟩ := B.2.2.2.1
    exact ⟨u, q.2.at (by decide) (by decide) e⟩
  · rcases q.1 with ⟨q0, -⟩ | ⟨E', q0, q1, -⟩
    · cases q0
    · have q0 := Option.some.inj q0
      subst q0
      omega
  · obtain ⟨m63, m64, m65, m66, m67, ⟨u68, m68⟩, ⟨u69, m69⟩, ⟨u70, m70⟩, ⟨u71, m71⟩, ⟨u72, m72⟩, ⟨u73, m73⟩, ⟨u74, m74⟩, ⟨u75, m75⟩⟩ := Y1
    refine Ev.imp (c_X9_setNote (t := x0) (k := x1) (x := x2) (hM := m63) (hS := m64) (hT := m65) (hm := P.2.1) (hl := by omega) (ht := by omega) (hd := by decide)) (fun o h q => ?_)
    obtain ⟨b, q1, c, m, S2, U, e63, e64, e65, al, fr⟩ := q
    refine ⟨b, q1, c, m, S2, U, ?_, ⟨e63, e64, e65, fr.at (by decide) m66, fr.at (by decide) m67, ⟨_, fr.at (by decide) m68⟩, ⟨_, fr.at (by decide) m69⟩, ⟨_, fr.at (by decide) m70⟩, ⟨_, fr.at (by decide) m71⟩, ⟨_, fr.at (by decide) m72⟩, ⟨_, fr.at (by decide) m73⟩, ⟨_, fr.at (by decide) m74⟩, ⟨_, fr.at (by decide) m75⟩⟩, fr.mono (by decide)⟩
    rcases al with ⟨g0, g1, g2, g3, g4, g5⟩ | ⟨g0, g1, g2, g3, g4⟩ | ⟨g0, g1, g2, g3, g4⟩
    · exact Or.inl ⟨g0, g3, g4, g1, g2, g5⟩
    · exact Or.inr ⟨g1, g2, g3, Or.inl ⟨g0, g4⟩⟩
    · exact Or.inr ⟨g1, g2, g3, Or.inr (⟨g0, g4⟩)⟩
  · exact ⟨(sp_setNote P.1 c1 c2.2.2).1, by have := P.2.1; have := c2.1; split at this <;> omega⟩
  · omega
  · omega
  · rcases g with ⟨g0, g⟩ | ⟨g0, g⟩
    · subst g0
      rcases c1 with ⟨c0, c1⟩ | ⟨c0, c1⟩
      · exact c0
      · (exfalso; omega)
    · subst g0
      rcases c1 with ⟨c0, c1⟩ | ⟨c0, c1⟩
      · (exfalso; omega)
      · exact c0
theorem sp_dropNote {S S2 : Int → Int} (P : okS S) {x0 x1 : Int} (hc : 0 ≤ x0 ∧ x0 ≤ 1 ∧ 0 ≤ x1 ∧ x1 < S (0 + x0)) (hsp : S2 (0 + x0) = S (0 + x0) - 1 ∧ (∀ q, x1 ≤ q → q < S (0 + x0) - 1 → S2 (7 + 20 * x0 + q) = S (7 + 20 * x0 + (q + 1))) ∧ (∀ q, ¬ (7 + 20 * x0 + x1 ≤ q ∧ q < 7 + 20 * x0 + S (0 + x0) - 1) → q ≠ 0 + x0 → S2 q = S q)) : okS S2 ∧ S2 5 = S 5 ∧ S2 6 = S 6 := by
  have ln : ∀ t, (0 ≤ t ∧ t ≤ 1) → 0 ≤ S (0 + t) ∧ S (0 + t) ≤ 20 := fun t ht => by
    obtain ⟨h9, -⟩ := P
    rcases (by omega : t = 0 ∨ t = 1) with e | e
    · subst e
      exact ⟨h9.1, h9.2.1⟩
    · subst e
      exact ⟨h9.2.2.1, h9.2.2.2.1⟩
  have pa := okS_pa P
  have l9 := ln x0 (by omega)
  obtain ⟨s1, s2, s3⟩ := hsp
  refine ⟨okS_of P (t := x0) (by omega) (n := S (0 + x0) - 1) (by omega) s1 (fun q q0 q1 => ?_) (fun q q0 q1 => s3 q (by omega) q0), s3 5 (by omega) (by omega), s3 6 (by omega) (by omega)⟩
  by_cases e : x1 ≤ q
  · rw [s2 q e q1]
    exact pa x0 (q + 1) (by omega) (by omega) (by omega) (by omega)
  · rw [s3 _ (by omega) (by omega)]
    exact pa x0 q (by omega) (by omega) q0 (by omega)
theorem op_dropNote {L : Nat} {F0 : Int → Int} {hp : xH} (H : yRel L F0 hp) {x0 x1 : Int} (hx : -2147483648 ≤ x0 ∧ x0 ≤ 2147483647 ∧ -2147483648 ≤ x1 ∧ x1 ≤ 2147483647) : Cv 10 274 [.ref 28, yi x0, yi x1, .ref 76] hp (yE (fun k h1 => yMid L F0 h1 (Cv 10 187 [.ref 63, yi x0, yi x1] h1 (yE (fun b h2 => yOut L F0 hp k b h2))))) := by
  obtain ⟨v, S, T, N, X, B, A, Y, P⟩ := H
  have ok1 := P.1.1
  have pa := okS_pa P.1
  have ok5 : -1 ≤ S 5 ∧ S 5 ≤ 60 := by have := P.1.2.2.2; omega
  obtain ⟨od, a28, aM⟩ := A.1
  obtain ⟨z0, o0, f0, g0, r0, t0, aS, aSt⟩ := A.2.1
  have hc : Cv 9 72 [.ref 28, yi x0, yi x1] hp (yA (cls1 v (0 ≤ x0 ∧ x0 ≤ 1 ∧ 0 ≤ x1 ∧ x1 < S (0 + x0)) (S (7 + 20 * x0 + x1)) (fun m S2 U => m = (if v 3 = 6 then 6 else v 3 + 1) ∧ recd (v 3) S T U ∧ (S2 (0 + x0) = S (0 + x0) - 1 ∧ (∀ q, x1 ≤ q → q < S (0 + x0) - 1 → S2 (7 + 20 * x0 + q) = S (7 + 20 * x0 + (q + 1))) ∧ (∀ q, ¬ (7 + 20 * x0 + x1 ≤ q ∧ q < 7 + 20 * x0 + S (0 + x0) - 1) → q ≠ 0 + x0 → S2 q = S q))) (fun E => (E = 0 ∧ (¬ (0 ≤ x0 ∧ x0 ≤ 1 ∧ 0 ≤ x1 ∧ x1 < S (0 + x0))))) hp)) := by
    refine Ev.imp (c_X8_dropNote (x := x0) (k := x1) (h28 := a28) (hS := aS) (hN := B.2.2.2.2) (h26 := B.2.2.1) (hv := A.2.2.1) (hn6 := P.2.1) (hok := P.1) (hst := aSt) (hx := by omega) (hd := by decide)) (fun o h q => ?_)
    rcases q with ⟨z, q1, q2, fz⟩ | ⟨E, q1, q2, fz⟩
    · refine Or.inl ⟨z, q1, ?_, fz⟩
      rcases q2 with ⟨e0, e1, e2, e3, e4, e5⟩ | ⟨e0, e1, e2⟩
      · refine Or.inl ⟨e0, e1, e2, e3, fun m S2 U hu => ?_⟩
        obtain ⟨u1, u2, u3⟩ := hu
        subst u1
        obtain ⟨f9, g9, y9⟩ := e5 S2 u3
        exact ⟨e4 U u2, _, _, f9, g9, r0, t0, y9, aSt.eq (sp_dropNote P.1 e1 u3).2⟩
      · exact Or.inr ⟨0, e0, ⟨rfl, e1⟩, e2⟩
    · refine Or.inr ⟨E, q1, ?_, fz⟩
      rcases q2 with ⟨e0, e1, e2, e3, e4, e5⟩ | ⟨e0, e1, e2⟩
      · refine Or.inl ⟨e0, e1, e2, e3, fun m S2 U hu => ?_⟩
        obtain ⟨u1, u2, u3⟩ := hu
        subst u1
        obtain ⟨f9, g9, y9⟩ := e5 S2 u3
        exact ⟨e4 U u2, _, _, f9, g9, r0, t0, y9, aSt.eq (sp_dropNote P.1 e1 u3).2⟩
      · exact Or.inr ⟨0, e0, ⟨rfl, e1⟩, e2⟩
  refine mu_op (l := [0]) (MC := (fun c => (c = 1 ∧ (¬ (0 ≤ x0 ∧ x0 ≤ 1 ∧ 0 ≤ x1 ∧ x1 < S (0 + x0)))))) B A Y P (by decide) (c_L_dropNote (d := 9) a28 hc (fun z h q => ?_) (fun E h q => ?_)) (fun h1 Y1 => ?_) (fun m S2 U c1 c2 => ?_) (fun c g c1 => ?_) (fun E g c1 => ?_) (fun E c hE g c1 => ?_)
  · obtain ⟨u, e⟩ := B.2.2.2.1
    exact ⟨u, q.2.at (by decide) (by decide) e⟩
  · rcases q.1 with ⟨q0, -⟩ | ⟨E', q0, q1, -⟩
    · cases q0
    · have q0 := Option.some.inj q0
      subst q0
      omega
  · obtain ⟨m63, m64, m65, m66, m67, ⟨u68, m68⟩, ⟨u69, m69⟩, ⟨u70, m70⟩, ⟨u71, m71⟩, ⟨u72, m72⟩, ⟨u73, m73⟩, ⟨u74, m74⟩, ⟨u75, m75⟩⟩ := Y1
    refine Ev.imp (c_X9_dropNote (t := x0) (k := x1) (hM := m63) (hS := m64) (hT := m65) (hm := P.2.1) (hl := by omega) (ht := by omega) (hd := by decide)) (fun o h q => ?_)
    obtain ⟨b, q1, c, m, S2, U, e63, e64, e65, al, fr⟩ := q
    refine ⟨b, q1, c, m, S2, U, ?_, ⟨e63, e64, e65, fr.at (by decide) m66, fr.at (by decide) m67, ⟨_, fr.at (by decide) m68⟩, ⟨_, fr.at (by decide) m69⟩, ⟨_, fr.at (by decide) m70⟩, ⟨_, fr.at (by decide) m71⟩, ⟨_, fr.at (by decide) m72⟩, ⟨_, fr.at (by decide) m73⟩, ⟨_, fr.at (by decide) m74⟩, ⟨_, fr.at (by decide) m75⟩⟩, fr.mono (by decide)⟩
    rcases al with ⟨g0, g1, g2, g3, g4, g5⟩ | ⟨g0, g1, g2, g3, g4⟩
    · exact Or.inl ⟨g0, g3, g4, g1, g2, g5⟩
    · exact Or.inr ⟨g1, g2, g3, ⟨g0, g4⟩⟩
  · exact ⟨(sp_dropNote P.1 c1 c2.2.2).1, by have := P.2.1; have := c2.1; split at this <;> omega⟩
  · omega
  · omega
  · obtain ⟨g0, g⟩ := g
    subst g0
    obtain ⟨c0, c1⟩ := c1
    exact c0
theorem sp_shift {S S2 : Int → Int} (P : okS S) {x0 x1 : Int} (hc : 0 ≤ x0 ∧ x0 ≤ 1 ∧ -12 ≤ x1 ∧ x1 ≤ 12 ∧ canS S x0 x1) (hsp : (∀ q, 0 ≤ q → q < S (0 + x0) → S2 (7 + 20 * x0 + q) = S (7 + 20 * x0 + q) + x1) ∧ (∀ q, ¬ (7 + 20 * x0 ≤ q ∧ q < 7 + 20 * x0 + S (0 + x0)) → S2 q = S q)) : okS S2 ∧ S2 5 = S 5 ∧ S2 6 = S 6 := by
  have ln : ∀ t, (0 ≤ t ∧ t ≤ 1) → 0 ≤ S (0 + t) ∧ S (0 + t) ≤ 20 := fun t ht => by
    obtain ⟨h9, -⟩ := P
    rcases (by omega : t = 0 ∨ t = 1) with e | e
    · subst e
      exact ⟨h9.1, h9.2.1⟩
    · subst e
      exact ⟨h9.2.2.1, h9.2.2.2.1⟩
  have pa := okS_pa P
  have l9 := ln x0 (by omega)
  have c9 := hc.2.2.2.2
  obtain ⟨s1, s2⟩ := hsp
  exact ⟨okS_of P (t := x0) (by omega) (n := S (0 + x0)) l9 (s2 _ (by omega)) (fun q q0 q1 => by rw [s1 q q0 q1]; exact c9 q q0 q1) (fun q q0 q1 => s2 q (by omega)), s2 5 (by omega), s2 6 (by omega)⟩
theorem op_shift {L : Nat} {F0 : Int → Int} {hp : xH} (H : yRel L F0 hp) {x0 x1 : Int} (hx : -2147483648 ≤ x0 ∧ x0 ≤ 2147483647 ∧ -2147483648 ≤ x1 ∧ x1 ≤ 2147483647) : Cv 10 275 [.ref 28, yi x0, yi x1, .ref 76] hp (yE (fun k h1 => yMid L F0 h1 (Cv 10 188 [.ref 63, yi x0, yi x1] h1 (yE (fun b h2 => yOut L F0 hp k b h2))))) := by
  obtain ⟨v, S, T, N, X, B, A, Y, P⟩ := H
  have ok1 := P.1.1
  have pa := okS_pa P.1
  have ok5 : -1 ≤ S 5 ∧ S 5 ≤ 60 := by have := P.1.2.2.2; omega
  obtain ⟨od, a28, aM⟩ := A.1
  obtain ⟨z0, o0, f0, g0, r0, t0, aS, aSt⟩ := A.2.1
  have hc : Cv 9 73 [.ref 28, yi x0, yi x1] hp (yA (cls1 v (0 ≤ x0 ∧ x0 ≤ 1 ∧ -12 ≤ x1 ∧ x1 ≤ 12 ∧ canS S x0 x1) (S (0 + x0)) (fun m S2 U => m = (if v 3 = 6 then 6 else v 3 + 1) ∧ recd (v 3) S T U ∧ ((∀ q, 0 ≤ q → q < S (0 + x0) → S2 (7 + 20 * x0 + q) = S (7 + 20 * x0 + q) + x1) ∧ (∀ q, ¬ (7 + 20 * x0 ≤ q ∧ q < 7 + 20 * x0 + S (0 + x0)) → S2 q = S q))) (fun E => (E = 0 ∧ (¬ (0 ≤ x0 ∧ x0 ≤ 1))) ∨ (E = 1 ∧ (0 ≤ x0 ∧ x0 ≤ 1 ∧ ¬ (-12 ≤ x1 ∧ x1 ≤ 12))) ∨ (E = 2 ∧ (0 ≤ x0 ∧ x0 ≤ 1 ∧ -12 ≤ x1 ∧ x1 ≤ 12 ∧ ¬ canS S x0 x1))) hp)) := by
    refine Ev.imp (c_X8_shift (x := x0) (b := x1) (h28 := a28) (hS := aS) (hN := B.2.2.2.2) (h26 := B.2.2.1) (hv := A.2.2.1) (hn6 := P.2.1) (hok := P.1) (hst := aSt) (hx := by omega) (hd := by decide)) (fun o h q => ?_)
    rcases q with ⟨z, q1, q2, fz⟩ | ⟨E, q1, q2, fz⟩
    · refine Or.inl ⟨z, q1, ?_, fz⟩
      rcases q2 with ⟨e0, e1, e2, e3, e4, e5⟩ | ⟨e0, e1, e2⟩ | ⟨e0, e1, e2⟩ | ⟨e0, e1, e2⟩
      · refine Or.inl ⟨e0, e1, e2, e3, fun m S2 U hu => ?_⟩
        obtain ⟨u1, u2, u3⟩ := hu
        subst u1
        obtain ⟨f9, g9, y9⟩ := e5 S2 u3
        exact ⟨e4 U u2, _, _, f9, g9, r0, t0, y9, aSt.eq (sp_shift P.1 e1 u3).2⟩
      · exact Or.inr ⟨0, e0, Or.inl ⟨rfl, e1⟩, e2⟩
      · exact Or.inr ⟨1, e0, Or.inr (Or.inl ⟨rfl, e1⟩), e2⟩
      · exact Or.inr ⟨2, e0, Or.inr (Or.inr (⟨rfl, e1⟩)), e2⟩
    · refine Or.inr ⟨E, q1, ?_, fz⟩
      rcases q2 with ⟨e0, e1, e2, e3, e4, e5⟩ | ⟨e0, e1, e2⟩ | ⟨e0, e1, e2⟩ | ⟨e0, e1, e2⟩
      · refine Or.inl ⟨e0, e1, e2, e3, fun m S2 U hu => ?_⟩
        obtain ⟨u1, u2, u3⟩ := hu
        subst u1
        obtain ⟨f9, g9, y9⟩ := e5 S2 u3
        exact ⟨e4 U u2, _, _, f9, g9, r0, t0, y9, aSt.eq (sp_shift P.1 e1 u3).2⟩
      · exact Or.inr ⟨0, e0, Or.inl ⟨rfl, e1⟩, e2⟩
      · exact Or.inr ⟨1, e0, Or.inr (Or.inl ⟨rfl, e1⟩), e2⟩
      · exact Or.inr ⟨2, e0, Or.inr (Or.inr (⟨rfl, e1⟩)), e2⟩
  refine mu_op (l := [0, 1, 2]) (MC := (fun c => (c = 1 ∧ (¬ (0 ≤ x0 ∧ x0 ≤ 1))) ∨ (c = 2 ∧ (0 ≤ x0 ∧ x0 ≤ 1 ∧ ¬ (-12 ≤ x1 ∧ x1 ≤ 12))) ∨ (c = 3 ∧ (0 ≤ x0 ∧ x0 ≤ 1 ∧ -12 ≤ x1 ∧ x1 ≤ 12 ∧ ¬ canS S x0 x1)))) B A Y P (by decide) (c_L_shift (d := 9) a28 hc (fun z h q => ?_) (fun E h q => ?_)) (fun h1 Y1 => ?_) (fun m S2 U c1 c2 => ?_) (fun c g c1 => ?_) (fun E g c1 => ?_) (fun E c hE g c1 => ?_)
  · obtain ⟨u, e⟩ := B.2.2.2.1
    exact ⟨u, q.2.at (by decide) (by decide) e⟩
  · rcases q.1 with ⟨q0, -⟩ | ⟨E', q0, q1, -⟩
    · cases q0
    · have q0 := Option.some.inj q0
      subst q0
      rcases q1 with ⟨q1, -⟩ | ⟨q1, -⟩ | ⟨q1, -⟩ <;> omega
  · obtain ⟨m63, m64, m65, m66, m67, ⟨u68, m68⟩, ⟨u69, m69⟩, ⟨u70, m70⟩, ⟨u71, m71⟩, ⟨u72, m72⟩, ⟨u73, m73⟩, ⟨u74, m74⟩, ⟨u75, m75⟩⟩ := Y1
    refine Ev.imp (c_X9_shift (t := x0) (b := x1) (hM := m63) (hS := m64) (hT := m65) (hm := P.2.1) (hl := by omega) (hpi := fun t t0 t1 q => pa t q t0 t1) (ht := by omega) (hd := by decide)) (fun o h q => ?_)
    obtain ⟨b, q1, c, m, S2, U, e63, e64, e65, al, fr⟩ := q
    refine ⟨b, q1, c, m, S2, U, ?_, ⟨e63, e64, e65, fr.at (by decide) m66, fr.at (by decide) m67, ⟨_, fr.at (by decide) m68⟩, ⟨_, fr.at (by decide) m69⟩, ⟨_, fr.at (by decide) m70⟩, ⟨_, fr.at (by decide) m71⟩, ⟨_, fr.at (by decide) m72⟩, ⟨_, fr.at (by decide) m73⟩, ⟨_, fr.at (by decide) m74⟩, ⟨_, fr.at (by decide) m75⟩⟩, fr.mono (by decide)⟩
    rcases al with ⟨g0, g1, g2, g3, g4, g5⟩ | ⟨g0, g1, g2, g3, g4⟩ | ⟨g0, g1, g2, g3, g4⟩ | ⟨g0, g1, g2, g3, g4⟩
    · exact Or.inl ⟨g0, g3, g4, g1, g2, g5⟩
    · exact Or.inr ⟨g1, g2, g3, Or.inl ⟨g0, g4⟩⟩
    · exact Or.inr ⟨g1, g2, g3, Or.inr (Or.inl ⟨g0, g4⟩)⟩
    · exact Or.inr ⟨g1, g2, g3, Or.inr (Or.inr (⟨g0, g4⟩))⟩
  · exact ⟨(sp_shift P.1 c1 c2.2.2).1, by have := P.2.1; have := c2.1; split at this <;> omega⟩
  · rcases g with ⟨-, g⟩ | ⟨-, g⟩ | ⟨-, g⟩ <;> first | omega | exact g.2.2.2.2 c1.2.2.2.2
  · rcases g with ⟨-, g⟩ | ⟨-, g⟩ | ⟨-, g⟩ <;> first | omega | exact g.2.2.2.2 c1.2.2.2.2
  · rcases g with ⟨g0, g⟩ | ⟨g0, g⟩ | ⟨g0, g⟩
    · subst g0
      rcases c1 with ⟨c0, c1⟩ | ⟨c0, c1⟩ | ⟨c0, c1⟩
      · exact c0
      · first | (exfalso; omega) | exact c0
      · first | (exfalso; omega) | exact c0
    · subst g0
      rcases c1 with ⟨c0, c1⟩ | ⟨c0, c1⟩ | ⟨c0, c1⟩
      · first | (exfalso; omega) | exact c0
      · exact c0
      · first | (exfalso; omega) | exact c0
    · subst g0
      rcases c1 with ⟨c0, c1⟩ | ⟨c0, c1⟩ | ⟨c0, c1⟩
      · first | (exfalso; omega) | exact c0
      · first | (exfalso; omega) | exact c0
      · exact c0
theorem sp_slow {S S2 : Int → Int} (P : okS S) {x0 : Int} (hc : 0 ≤ x0 ∧ x0 ≤ 1 ∧ 2 * S (0 + x0) ≤ 20) (hsp : (∀ q, 0 ≤ q → q < 2 * S (0 + x0) → S2 (7 + 20 * x0 + q) = S (7 + 20 * x0 + q / 2)) ∧ S2 (0 + x0) = 2 * S (0 + x0) ∧ (∀ q, q ≠ 0 + x0 → ¬ (7 + 20 * x0 ≤ q ∧ q < 7 + 20 * x0 + 2 * S (0 + x0)) → S2 q = S q)) : okS S2 ∧ S2 5 = S 5 ∧ S2 6 = S 6 := by
  have ln : ∀ t, (0 ≤ t ∧ t ≤ 1) → 0 ≤ S (0 + t) ∧ S (0 + t) ≤ 20 := fun t ht => by
    obtain ⟨h9, -⟩ := P
    rcases (by omega : t = 0 ∨ t = 1) with e | e
    · subst e
      exact ⟨h9.1, h9.2.1⟩
    · subst e
      exact ⟨h9.2.2.1, h9.2.2.2.1⟩
  have pa := okS_pa P
  have l9 := ln x0 (by omega)
  obtain ⟨s1, s2, s3⟩ := hsp
  exact ⟨okS_of P (t := x0) (by omega) (n := 2 * S (0 + x0)) (by omega) s2 (fun q q0 q1 => by rw [s1 q q0 q1]; exact pa x0 (q / 2) (by omega) (by omega) (by omega) (by omega)) (fun q q0 q1 => s3 q q0 (by omega)), s3 5 (by omega) (by omega), s3 6 (by omega) (by omega)⟩
theorem op_slow {L : Nat} {F0 : Int → Int} {hp : xH} (H : yRel L F0 hp) {x0 : Int} (hx : -2147483648 ≤ x0 ∧ x0 ≤ 2147483647) : Cv 10 276 [.ref 28, yi x0, .ref 76] hp (yE (fun k h1 => yMid L F0 h1 (Cv 10 189 [.ref 63, yi x0] h1 (yE (fun b h2 => yOut L F0 hp k b h2))))) := by
  obtain ⟨v, S, T, N, X, B, A, Y, P⟩ := H
  have ok1 := P.1.1
  have pa := okS_pa P.1
  have ok5 : -1 ≤ S 5 ∧ S 5 ≤ 60 := by have := P.1.2.2.2; omega
  obtain ⟨od, a28, aM⟩ := A.1
  obtain ⟨z0, o0, f0, g0, r0, t0, aS, aSt⟩ := A.2.1
  have hc : Cv 9 74 [.ref 28, yi x0] hp (yA (cls1 v (0 ≤ x0 ∧ x0 ≤ 1 ∧ 2 * S (0 + x0) ≤ 20) (2 * S (0 + x0)) (fun m S2 U => m = (if v 3 = 6 then 6 else v 3 + 1) ∧ recd (v 3) S T U ∧ ((∀ q, 0 ≤ q → q < 2 * S (0 + x0) → S2 (7 + 20 * x0 + q) = S (7 + 20 * x0 + q / 2)) ∧ S2 (0 + x0) = 2 * S (0 + x0) ∧ (∀ q, q ≠ 0 + x0 → ¬ (7 + 20 * x0 ≤ q ∧ q < 7 + 20 * x0 + 2 * S (0 + x0)) → S2 q = S q))) (fun E => (E = 0 ∧ (¬ (0 ≤ x0 ∧ x0 ≤ 1))) ∨ (E = 2 ∧ (0 ≤ x0 ∧ x0 ≤ 1 ∧ ¬ (2 * S (0 + x0) ≤ 20)))) hp)) := by
    refine Ev.imp (c_X8_slow (x := x0) (h28 := a28) (hS := aS) (hN := B.2.2.2.2) (h26 := B.2.2.1) (hv := A.2.2.1) (hn6 := P.2.1) (hok := P.1) (hst := aSt) (hx := by omega) (hd := by decide)) (fun o h q => ?_)
    rcases q with ⟨z, q1, q2, fz⟩ | ⟨E, q1, q2, fz⟩
    · refine Or.inl ⟨z, q1, ?_, fz⟩
      rcases q2 with ⟨e0, e1, e2, e3, e4, e5⟩ | ⟨e0, e1, e2⟩ | ⟨e0, e1, e2⟩
      · refine Or.inl ⟨e0, e1, e2, e3, fun m S2 U hu => ?_⟩
        obtain ⟨u1, u2, u3⟩ := hu
        subst u1
        obtain ⟨f9, g9, y9⟩ := e5 S2 u3
        exact ⟨e4 U u2, _, _, f9, g9, r0, t0, y9, aSt.eq (sp_slow P.1 e1 u3).2⟩
      · exact Or.inr ⟨0, e0, Or.inl ⟨rfl, e1⟩, e2⟩
      · exact Or.inr ⟨2, e0, Or.inr (⟨rfl, e1⟩), e2⟩
    · refine Or.inr ⟨E, q1, ?_, fz⟩
      rcases q2 with ⟨e0, e1, e2, e3, e4, e5⟩ | ⟨e0, e1, e2⟩ | ⟨e0, e1, e2⟩
      · refine Or.inl ⟨e0, e1, e2, e3, fun m S2 U hu => ?_⟩
        obtain ⟨u1, u2, u3⟩ := hu
        subst u1
        obtain ⟨f9, g9, y9⟩ := e5 S2 u3
        exact ⟨e4 U u2, _, _, f9, g9, r0, t0, y9, aSt.eq (sp_slow P.1 e1 u3).2⟩
      · exact Or.inr ⟨0, e0, Or.inl ⟨rfl, e1⟩, e2⟩
      · exact Or.inr ⟨2, e0, Or.inr (⟨rfl, e1⟩), e2⟩
  refine mu_op (l := [0, 2]) (MC := (fun c => (c = 1 ∧ (¬ (0 ≤ x0 ∧ x0 ≤ 1))) ∨ (c = 2 ∧ (0 ≤ x0 ∧ x0 ≤ 1 ∧ ¬ (2 * S (0 + x0) ≤ 20))))) B A Y P (by decide) (c_L_slow (d := 9) a28 hc (fun z h q => ?_) (fun E h q => ?_)) (fun h1 Y1 => ?_) (fun m S2 U c1 c2 => ?_) (fun c g c1 => ?_) (fun E g c1 => ?_) (fun E c hE g c1 => ?_)
  · obtain ⟨u, e⟩ := B.2.2.2.1
    exact ⟨u, q.2.at (by decide) (by decide) e⟩
  · rcases q.1 with ⟨q0, -⟩ | ⟨E', q0, q1, -⟩
    · cases q0
    · have q0 := Option.some.inj q0
      subst q0
      omega
  · obtain ⟨m63, m64, m65, m66, m67, ⟨u68, m68⟩, ⟨u69, m69⟩, ⟨u70, m70⟩, ⟨u71, m71⟩, ⟨u72, m72⟩, ⟨u73, m73⟩, ⟨u74, m74⟩, ⟨u75, m75⟩⟩ := Y1
    refine Ev.imp (c_X9_slow (t := x0) (hM := m63) (hS := m64) (hT := m65) (hm := P.2.1) (hl := by omega) (ht := by omega) (hd := by decide)) (fun o h q => ?_)
    obtain ⟨b, q1, c, m, S2, U, e63, e64, e65, al, fr⟩ := q
    refine ⟨b, q1, c, m, S2, U, ?_, ⟨e63, e64, e65, fr.at (by decide) m66, fr.at (by decide) m67, ⟨_, fr.at (by decide) m68⟩, ⟨_, fr.at (by decide) m69⟩, ⟨_, fr.at (by decide) m70⟩, ⟨_, fr.at (by decide) m71⟩, ⟨_, fr.at (by decide) m72⟩, ⟨_, fr.at (by decide) m73⟩, ⟨_, fr.at (by decide) m74⟩, ⟨_, fr.at (by decide) m75⟩⟩, fr.mono (by decide)⟩
    rcases al with ⟨g0, g1, g2, g3, g4, g5⟩ | ⟨g0, g1, g2, g3, g4⟩ | ⟨g0, g1, g2, g3, g4⟩
    · exact Or.inl ⟨g0, g3, g4, g1, g2, g5⟩
    · exact Or.inr ⟨g1, g2, g3, Or.inl ⟨g0, g4⟩⟩
    · exact Or.inr ⟨g1, g2, g3, Or.inr (⟨g0, g4⟩)⟩
  · exact ⟨(sp_slow P.1 c1 c2.2.2).1, by have := P.2.1; have := c2.1; split at this <;> omega⟩
  · omega
  · omega
  · rcases g with ⟨g0, g⟩ | ⟨g0, g⟩
    · subst g0
      rcases c1 with ⟨c0, c1⟩ | ⟨c0, c1⟩
      · exact c0
      · (exfalso; omega)
    · subst g0
      rcases c1 with ⟨c0, c1⟩ | ⟨c0, c1⟩
      · (exfalso; omega)
      · exact c0
theorem sp_flip {S S2 : Int → Int} (P : okS S) {x0 : Int} (hc : 0 ≤ x0 ∧ x0 ≤ 1) (hsp : (∀ q, 0 ≤ q → q < S (0 + x0) → S2 (7 + 20 * x0 + q) = S (7 + 20 * x0 + (S (0 + x0) - 1 - q))) ∧ (∀ q, ¬ (7 + 20 * x0 ≤ q ∧ q < 7 + 20 * x0 + S (0 + x0)) → S2 q = S q)) : okS S2 ∧ S2 5 = S 5 ∧ S2 6 = S 6 := by
  have ln : ∀ t, (0 ≤ t ∧ t ≤ 1) → 0 ≤ S (0 + t) ∧ S (0 + t) ≤ 20 := fun t ht => by
    obtain ⟨h9, -⟩ := P
    rcases (by omega : t = 0 ∨ t = 1) with e | e
    · subst e
      exact ⟨h9.1, h9.2.1⟩
    · subst e
      exact ⟨h9.2.2.1, h9.2.2.2.1⟩
  have pa := okS_pa P
  have l9 := ln x0 (by omega)
  obtain ⟨s1, s2⟩ := hsp
  exact ⟨okS_of P (t := x0) (by omega) (n := S (0 + x0)) l9 (s2 _ (by omega)) (fun q q0 q1 => by rw [s1 q q0 q1]; exact pa x0 (S (0 + x0) - 1 - q) (by omega) (by omega) (by omega) (by omega)) (fun q q0 q1 => s2 q (by omega)), s2 5 (by omega), s2 6 (by omega)⟩
theorem op_flip {L : Nat} {F0 : Int → Int} {hp : xH} (H : yRel L F0 hp) {x0 : Int} (hx : -2147483648 ≤ x0 ∧ x0 ≤ 2147483647) : Cv 10 277 [.ref 28, yi x0, .ref 76] hp (yE (fun k h1 => yMid L F0 h1 (Cv 10 190 [.ref 63, yi x0] h1 (yE (fun b h2 => yOut L F0 hp k b h2))))) := by
  obtain ⟨v, S, T, N, X, B, A, Y, P⟩ := H
  have ok1 := P.1.1
  have pa := okS_pa P.1
  have ok5 : -1 ≤ S 5 ∧ S 5 ≤ 60 := by have := P.1.2.2.2; omega
  obtain ⟨od, a28, aM⟩ := A.1
  obtain ⟨z0, o0, f0, g0, r0, t0, aS, aSt⟩ := A.2.1
  have hc : Cv 9 75 [.ref 28, yi x0] hp (yA (cls1 v (0 ≤ x0 ∧ x0 ≤ 1) (S (0 + x0)) (fun m S2 U => m = (if v 3 = 6 then 6 else v 3 + 1) ∧ recd (v 3) S T U ∧ ((∀ q, 0 ≤ q → q < S (0 + x0) → S2 (7 + 20 * x0 + q) = S (7 + 20 * x0 + (S (0 + x0) - 1 - q))) ∧ (∀ q, ¬ (7 + 20 * x0 ≤ q ∧ q < 7 + 20 * x0 + S (0 + x0)) → S2 q = S q))) (fun E => (E = 0 ∧ (¬ (0 ≤ x0 ∧ x0 ≤ 1)))) hp)) := by
    refine Ev.imp (c_X8_flip (x := x0) (h28 := a28) (hS := aS) (hN := B.2.2.2.2) (h26 := B.2.2.1) (hv := A.2.2.1) (hn6 := P.2.1) (hok := P.1) (hst := aSt) (hx := by omega) (hd := by decide)) (fun o h q => ?_)
    rcases q with ⟨z, q1, q2, fz⟩ | ⟨E, q1, q2, fz⟩
    · refine Or.inl ⟨z, q1, ?_, fz⟩
      rcases q2 with ⟨e0, e1, e2, e3, e4, e5⟩ | ⟨e0, e1, e2⟩
      · refine Or.inl ⟨e0, e1, e2, e3, fun m S2 U hu => ?_⟩
        obtain ⟨u1, u2, u3⟩ := hu
        subst u1
        obtain ⟨f9, g9, y9⟩ := e5 S2 u3
        exact ⟨e4 U u2, _, _, f9, g9, r0, t0, y9, aSt.eq (sp_flip P.1 e1 u3).2⟩
      · exact Or.inr ⟨0, e0, ⟨rfl, e1⟩, e2⟩
    · refine Or.inr ⟨E, q1, ?_, fz⟩
      rcases q2 with ⟨e0, e1, e2, e3, e4, e5⟩ | ⟨e0, e1, e2⟩
      · refine Or.inl ⟨e0, e1, e2, e3, fun m S2 U hu => ?_⟩
        obtain ⟨u1, u2, u3⟩ := hu
        subst u1
        obtain ⟨f9, g9, y9⟩ := e5 S2 u3
        exact ⟨e4 U u2, _, _, f9, g9, r0, t0, y9, aSt.eq (sp_flip P.1 e1 u3).2⟩
      · exact Or.inr ⟨0, e0, ⟨rfl, e1⟩, e2⟩
  refine mu_op (l := [0]) (MC := (fun c => (c = 1 ∧ (¬ (0 ≤ x0 ∧ x0 ≤ 1))))) B A Y P (by decide) (c_L_flip (d := 9) a28 hc (fun z h q => ?_) (fun E h q => ?_)) (fun h1 Y1 => ?_) (fun m S2 U c1 c2 => ?_) (fun c g c1 => ?_) (fun E g c1 => ?_) (fun E c hE g c1 => ?_)
  · obtain ⟨u, e⟩ := B.2.2.2.1
    exact ⟨u, q.2.at (by decide) (by decide) e⟩
  · rcases q.1 with ⟨q0, -⟩ | ⟨E', q0, q1, -⟩
    · cases q0
    · have q0 := Option.some.inj q0
      subst q0
      omega
  · obtain ⟨m63, m64, m65, m66, m67, ⟨u68, m68⟩, ⟨u69, m69⟩, ⟨u70, m70⟩, ⟨u71, m71⟩, ⟨u72, m72⟩, ⟨u73, m73⟩, ⟨u74, m74⟩, ⟨u75, m75⟩⟩ := Y1
    refine Ev.imp (c_X9_flip (t := x0) (hM := m63) (hS := m64) (hT := m65) (hm := P.2.1) (hl := by omega) (ht := by omega) (hd := by decide)) (fun o h q => ?_)
    obtain ⟨b, q1, c, m, S2, U, e63, e64, e65, al, fr⟩ := q
    refine ⟨b, q1, c, m, S2, U, ?_, ⟨e63, e64, e65, fr.at (by decide) m66, fr.at (by decide) m67, ⟨_, fr.at (by decide) m68⟩, ⟨_, fr.at (by decide) m69⟩, ⟨_, fr.at (by decide) m70⟩, ⟨_, fr.at (by decide) m71⟩, ⟨_, fr.at (by decide) m72⟩, ⟨_, fr.at (by decide) m73⟩, ⟨_, fr.at (by decide) m74⟩, ⟨_, fr.at (by decide) m75⟩⟩, fr.mono (by decide)⟩
    rcases al with ⟨g0, g1, g2, g3, g4, g5⟩ | ⟨g0, g1, g2, g3, g4⟩
    · exact Or.inl ⟨g0, g3, g4, g1, g2, g5⟩
    · exact Or.inr ⟨g1, g2, g3, ⟨g0, g4⟩⟩
  · exact ⟨(sp_flip P.1 c1 c2.2.2).1, by have := P.2.1; have := c2.1; split at this <;> omega⟩
  · omega
  · omega
  · obtain ⟨g0, g⟩ := g
    subst g0
    obtain ⟨c0, c1⟩ := c1
    exact c0
theorem sp_exchange {S S2 : Int → Int} (P : okS S) (hc : True) (hsp : (∀ q, 0 ≤ q → q < 20 → S2 (7 + q) = S (27 + q) ∧ S2 (27 + q) = S (7 + q)) ∧ S2 0 = S 1 ∧ S2 1 = S 0 ∧ (∀ q, 2 ≤ q → q < 7 → S2 q = S q)) : okS S2 ∧ S2 5 = S 5 ∧ S2 6 = S 6 := by
  have ln : ∀ t, (0 ≤ t ∧ t ≤ 1) → 0 ≤ S (0 + t) ∧ S (0 + t) ≤ 20 := fun t ht => by
    obtain ⟨h9, -⟩ := P
    rcases (by omega : t = 0 ∨ t = 1) with e | e
    · subst e
      exact ⟨h9.1, h9.2.1⟩
    · subst e
      exact ⟨h9.2.2.1, h9.2.2.2.1⟩
  have pa := okS_pa P
  obtain ⟨s1, s2, s3, s4⟩ := hsp
  have s5 := s4 5 (by decide) (by decide)
  have s6 := s4 6 (by decide) (by decide)
  have e2 := s4 2 (by decide) (by decide)
  have e3 := s4 3 (by decide) (by decide)
  have e4 := s4 4 (by decide) (by decide)
  obtain ⟨p1, p2, p3, p4⟩ := P
  refine ⟨⟨by omega, fun q q0 q1 => ?_, fun q q0 q1 => ?_, by omega⟩, s5, s6⟩
  · rw [(s1 q q0 (by omega)).1]
    exact p3 q q0 (by omega)
  · rw [(s1 q q0 (by omega)).2]
    exact p2 q q0 (by omega)
theorem op_exchange {L : Nat} {F0 : Int → Int} {hp : xH} (H : yRel L F0 hp) : Cv 10 76 [.ref 28] hp (yE (fun k h1 => yMid L F0 h1 (Cv 10 191 [.ref 63] h1 (yE (fun b h2 => yOut0 L F0 hp k b h2))))) := by
  obtain ⟨v, S, T, N, X, B, A, Y, P⟩ := H
  have ok1 := P.1.1
  have pa := okS_pa P.1
  have ok5 : -1 ≤ S 5 ∧ S 5 ≤ 60 := by have := P.1.2.2.2; omega
  obtain ⟨od, a28, aM⟩ := A.1
  obtain ⟨z0, o0, f0, g0, r0, t0, aS, aSt⟩ := A.2.1
  have hc : Cv 10 76 [.ref 28] hp (yA (cls1 v (True) (S 1) (fun m S2 U => m = (if v 3 = 6 then 6 else v 3 + 1) ∧ recd (v 3) S T U ∧ ((∀ q, 0 ≤ q → q < 20 → S2 (7 + q) = S (27 + q) ∧ S2 (27 + q) = S (7 + q)) ∧ S2 0 = S 1 ∧ S2 1 = S 0 ∧ (∀ q, 2 ≤ q → q < 7 → S2 q = S q))) (fun E => False) hp)) := by
    refine Ev.imp (c_X8_exchange  (h28 := a28) (hS := aS) (hN := B.2.2.2.2) (h26 := B.2.2.1) (hv := A.2.2.1) (hn6 := P.2.1) (hok := P.1) (hst := aSt) (hd := by decide)) (fun o h q => ?_)
    rcases q with ⟨z, q1, q2, fz⟩ | ⟨E, q1, q2, fz⟩
    · refine Or.inl ⟨z, q1, ?_, fz⟩
      obtain ⟨e0, e1, e2, e3, e4, e5⟩ := q2
      refine Or.inl ⟨e0, e1, e2, e3, fun m S2 U hu => ?_⟩
      obtain ⟨u1, u2, u3⟩ := hu
      subst u1
      obtain ⟨f9, g9, y9⟩ := e5 S2 u3
      exact ⟨e4 U u2, _, _, f9, g9, r0, t0, y9, aSt.eq (sp_exchange P.1 e1 u3).2⟩
    · refine Or.inr ⟨E, q1, ?_, fz⟩
      obtain ⟨e0, e1, e2, e3, e4, e5⟩ := q2
      refine Or.inl ⟨e0, e1, e2, e3, fun m S2 U hu => ?_⟩
      obtain ⟨u1, u2, u3⟩ := hu
      subst u1
      obtain ⟨f9, g9, y9⟩ := e5 S2 u3
      exact ⟨e4 U u2, _, _, f9, g9, r0, t0, y9, aSt.eq (sp_exchange P.1 e1 u3).2⟩
  refine mu_op0 (val := S 1) (sp := (fun m S2 U => m = (if v 3 = 6 then 6 else v 3 + 1) ∧ recd (v 3) S T U ∧ ((∀ q, 0 ≤ q → q < 20 → S2 (7 + q) = S (27 + q) ∧ S2 (27 + q) = S (7 + q)) ∧ S2 0 = S 1 ∧ S2 1 = S 0 ∧ (∀ q, 2 ≤ q → q < 7 → S2 q = S q)))) B A Y P hc (fun h1 Y1 => ?_) (fun m S2 U c2 => ?_)
  · obtain ⟨m63, m64, m65, m66, m67, ⟨u68, m68⟩, ⟨u69, m69⟩, ⟨u70, m70⟩, ⟨u71, m71⟩, ⟨u72, m72⟩, ⟨u73, m73⟩, ⟨u74, m74⟩, ⟨u75, m75⟩⟩ := Y1
    refine Ev.imp (c_X9_exchange  (hM := m63) (hS := m64) (hT := m65) (hm := P.2.1) (hl := by omega) (hd := by decide)) (fun o h q => ?_)
    obtain ⟨b, q1, c, m, S2, U, e63, e64, e65, al, fr⟩ := q
    refine ⟨b, q1, c, m, S2, U, ?_, ⟨e63, e64, e65, fr.at (by decide) m66, fr.at (by decide) m67, ⟨_, fr.at (by decide) m68⟩, ⟨_, fr.at (by decide) m69⟩, ⟨_, fr.at (by decide) m70⟩, ⟨_, fr.at (by decide) m71⟩, ⟨_, fr.at (by decide) m72⟩, ⟨_, fr.at (by decide) m73⟩, ⟨_, fr.at (by decide) m74⟩, ⟨_, fr.at (by decide) m75⟩⟩, fr.mono (by decide)⟩
    obtain ⟨g0, g1, g2, g3, g4, g5⟩ := al
    exact Or.inl ⟨g0, g3, g4, g1, g2, g5⟩
  · exact ⟨(sp_exchange P.1 trivial c2.2.2).1, by have := P.2.1; have := c2.1; split at this <;> omega⟩
theorem sp_setBound {S S2 : Int → Int} (P : okS S) {x0 : Int} (hc : 0 ≤ x0 ∧ x0 ≤ 20) (hsp : S2 = up S 2 x0) : okS S2 ∧ S2 5 = S 5 ∧ S2 6 = S 6 := by
  have ln : ∀ t, (0 ≤ t ∧ t ≤ 1) → 0 ≤ S (0 + t) ∧ S (0 + t) ≤ 20 := fun t ht => by
    obtain ⟨h9, -⟩ := P
    rcases (by omega : t = 0 ∨ t = 1) with e | e
    · subst e
      exact ⟨h9.1, h9.2.1⟩
    · subst e
      exact ⟨h9.2.2.1, h9.2.2.2.1⟩
  have pa := okS_pa P
  subst hsp
  exact ⟨okS_num P (Or.inl ⟨rfl, by omega, by omega⟩), up_ne _ _ (by decide), up_ne _ _ (by decide)⟩
theorem op_setBound {L : Nat} {F0 : Int → Int} {hp : xH} (H : yRel L F0 hp) {x0 : Int} (hx : -2147483648 ≤ x0 ∧ x0 ≤ 2147483647) : Cv 10 278 [.ref 28, yi x0, .ref 76] hp (yE (fun k h1 => yMid L F0 h1 (Cv 10 193 [.ref 63, yi x0] h1 (yE (fun b h2 => yOut L F0 hp k b h2))))) := by
  obtain ⟨v, S, T, N, X, B, A, Y, P⟩ := H
  have ok1 := P.1.1
  have pa := okS_pa P.1
  have ok5 : -1 ≤ S 5 ∧ S 5 ≤ 60 := by have := P.1.2.2.2; omega
  obtain ⟨od, a28, aM⟩ := A.1
  obtain ⟨z0, o0, f0, g0, r0, t0, aS, aSt⟩ := A.2.1
  have hc : Cv 9 77 [.ref 28, yi x0] hp (yA (cls1 v (0 ≤ x0 ∧ x0 ≤ 20) (S 2) (fun m S2 U => m = (if v 3 = 6 then 6 else v 3 + 1) ∧ recd (v 3) S T U ∧ (S2 = up S 2 x0)) (fun E => (E = 1 ∧ (¬ (0 ≤ x0 ∧ x0 ≤ 20)))) hp)) := by
    refine Ev.imp (c_X8_setBound (x := x0) (h28 := a28) (hS := aS) (hN := B.2.2.2.2) (h26 := B.2.2.1) (hv := A.2.2.1) (hn6 := P.2.1) (hok := P.1) (hst := aSt) (hx := by omega) (hd := by decide)) (fun o h q => ?_)
    rcases q with ⟨z, q1, q2, fz⟩ | ⟨E, q1, q2, fz⟩
    · refine Or.inl ⟨z, q1, ?_, fz⟩
      rcases q2 with ⟨e0, e1, e2, e3, e4, e5⟩ | ⟨e0, e1, e2⟩
      · refine Or.inl ⟨e0, e1, e2, e3, fun m S2 U hu => ?_⟩
        obtain ⟨u1, u2, u3⟩ := hu
        subst u1
        obtain ⟨f9, g9, y9⟩ := e5 S2 u3
        exact ⟨e4 U u2, _, _, f9, g9, r0, t0, y9, aSt.eq (sp_setBound P.1 e1 u3).2⟩
      · exact Or.inr ⟨1, e0, ⟨rfl, e1⟩, e2⟩
    · refine Or.inr ⟨E, q1, ?_, fz⟩
      rcases q2 with ⟨e0, e1, e2, e3, e4, e5⟩ | ⟨e0, e1, e2⟩
      · refine Or.inl ⟨e0, e1, e2, e3, fun m S2 U hu => ?_⟩
        obtain ⟨u1, u2, u3⟩ := hu
        subst u1
        obtain ⟨f9, g9, y9⟩ := e5 S2 u3
        exact ⟨e4 U u2, _, _, f9, g9, r0, t0, y9, aSt.eq (sp_setBound P.1 e1 u3).2⟩
      · exact Or.inr ⟨1, e0, ⟨rfl, e1⟩, e2⟩
  refine mu_op (l := [1]) (MC := (fun c => (c = 1 ∧ (¬ (0 ≤ x0 ∧ x0 ≤ 20))))) B A Y P (by decide) (c_L_setBound (d := 9) a28 hc (fun z h q => ?_) (fun E h q => ?_)) (fun h1 Y1 => ?_) (fun m S2 U c1 c2 => ?_) (fun c g c1 => ?_) (fun E g c1 => ?_) (fun E c hE g c1 => ?_)
  · obtain ⟨u, e⟩ := B.2.2.2.1
    exact ⟨u, q.2.at (by decide) (by decide) e⟩
  · rcases q.1 with ⟨q0, -⟩ | ⟨E', q0, q1, -⟩
    · cases q0
    · have q0 := Option.some.inj q0
      subst q0
      omega
  · obtain ⟨m63, m64, m65, m66, m67, ⟨u68, m68⟩, ⟨u69, m69⟩, ⟨u70, m70⟩, ⟨u71, m71⟩, ⟨u72, m72⟩, ⟨u73, m73⟩, ⟨u74, m74⟩, ⟨u75, m75⟩⟩ := Y1
    refine Ev.imp (c_X9_setBound (x := x0) (hM := m63) (hS := m64) (hT := m65) (hm := P.2.1) (hx := by omega) (hd := by decide)) (fun o h q => ?_)
    obtain ⟨b, q1, c, m, S2, U, e63, e64, e65, al, fr⟩ := q
    refine ⟨b, q1, c, m, S2, U, ?_, ⟨e63, e64, e65, fr.at (by decide) m66, fr.at (by decide) m67, ⟨_, fr.at (by decide) m68⟩, ⟨_, fr.at (by decide) m69⟩, ⟨_, fr.at (by decide) m70⟩, ⟨_, fr.at (by decide) m71⟩, ⟨_, fr.at (by decide) m72⟩, ⟨_, fr.at (by decide) m73⟩, ⟨_, fr.at (by decide) m74⟩, ⟨_, fr.at (by decide) m75⟩⟩, fr.mono (by decide)⟩
    rcases al with ⟨g0, g1, g2, g3, g4, g5⟩ | ⟨g0, g1, g2, g3, g4⟩
    · exact Or.inl ⟨g0, g3, g4, g1, g2, g5⟩
    · exact Or.inr ⟨g1, g2, g3, ⟨g0, g4⟩⟩
  · exact ⟨(sp_setBound P.1 c1 c2.2.2).1, by have := P.2.1; have := c2.1; split at this <;> omega⟩
  · omega
  · omega
  · obtain ⟨g0, g⟩ := g
    subst g0
    obtain ⟨c0, c1⟩ := c1
    exact c0
theorem sp_setHold {S S2 : Int → Int} (P : okS S) {x0 : Int} (hc : 0 ≤ x0 ∧ x0 ≤ 50) (hsp : S2 = up S 3 x0) : okS S2 ∧ S2 5 = S 5 ∧ S2 6 = S 6 := by
  have ln : ∀ t, (0 ≤ t ∧ t ≤ 1) → 0 ≤ S (0 + t) ∧ S (0 + t) ≤ 20 := fun t ht => by
    obtain ⟨h9, -⟩ := P
    rcases (by omega : t = 0 ∨ t = 1) with e | e
    · subst e
      exact ⟨h9.1, h9.2.1⟩
    · subst e
      exact ⟨h9.2.2.1, h9.2.2.2.1⟩
  have pa := okS_pa P
  subst hsp
  exact ⟨okS_num P (Or.inr (Or.inl ⟨rfl, by omega, by omega⟩)), up_ne _ _ (by decide), up_ne _ _ (by decide)⟩
theorem op_setHold {L : Nat} {F0 : Int → Int} {hp : xH} (H : yRel L F0 hp) {x0 : Int} (hx : -2147483648 ≤ x0 ∧ x0 ≤ 2147483647) : Cv 10 279 [.ref 28, yi x0, .ref 76] hp (yE (fun k h1 => yMid L F0 h1 (Cv 10 194 [.ref 63, yi x0] h1 (yE (fun b h2 => yOut L F0 hp k b h2))))) := by
  obtain ⟨v, S, T, N, X, B, A, Y, P⟩ := H
  have ok1 := P.1.1
  have pa := okS_pa P.1
  have ok5 : -1 ≤ S 5 ∧ S 5 ≤ 60 := by have := P.1.2.2.2; omega
  obtain ⟨od, a28, aM⟩ := A.1
  obtain ⟨z0, o0, f0, g0, r0, t0, aS, aSt⟩ := A.2.1
  have hc : Cv 9 78 [.ref 28, yi x0] hp (yA (cls1 v (0 ≤ x0 ∧ x0 ≤ 50) (S 3) (fun m S2 U => m = (if v 3 = 6 then 6 else v 3 + 1) ∧ recd (v 3) S T U ∧ (S2 = up S 3 x0)) (fun E => (E = 1 ∧ (¬ (0 ≤ x0 ∧ x0 ≤ 50)))) hp)) := by
    refine Ev.imp (c_X8_setHold (x := x0) (h28 := a28) (hS := aS) (hN := B.2.2.2.2) (h26 := B.2.2.1) (hv := A.2.2.1) (hn6 := P.2.1) (hok := P.1) (hst := aSt) (hx := by omega) (hd := by decide)) (fun o h q => ?_)
    rcases q with ⟨z, q1, q2, fz⟩ | ⟨E, q1, q2, fz⟩
    · refine Or.inl ⟨z, q1, ?_, fz⟩
      rcases q2 with ⟨e0, e1, e2, e3, e4, e5⟩ | ⟨e0, e1, e2⟩
      · refine Or.inl ⟨e0, e1, e2, e3, fun m S2 U hu => ?_⟩
        obtain ⟨u1, u2, u3⟩ := hu
        subst u1
        obtain ⟨f9, g9, y9⟩ := e5 S2 u3
        exact ⟨e4 U u2, _, _, f9, g9, r0, t0, y9, aSt.eq (sp_setHold P.1 e1 u3).2⟩
      · exact Or.inr ⟨1, e0, ⟨rfl, e1⟩, e2⟩
    · refine Or.inr ⟨E, q1, ?_, fz⟩
      rcases q2 with ⟨e0, e1, e2, e3, e4, e5⟩ | ⟨e0, e1, e2⟩
      · refine Or.inl ⟨e0, e1, e2, e3, fun m S2 U hu => ?_⟩
        obtain ⟨u1, u2, u3⟩ := hu
        subst u1
        obtain ⟨f9, g9, y9⟩ := e5 S2 u3
        exact ⟨e4 U u2, _, _, f9, g9, r0, t0, y9, aSt.eq (sp_setHold P.1 e1 u3).2⟩
      · exact Or.inr ⟨1, e0, ⟨rfl, e1⟩, e2⟩
  refine mu_op (l := [1]) (MC := (fun c => (c = 1 ∧ (¬ (0 ≤ x0 ∧ x0 ≤ 50))))) B A Y P (by decide) (c_L_setHold (d := 9) a28 hc (fun z h q => ?_) (fun E h q => ?_)) (fun h1 Y1 => ?_) (fun m S2 U c1 c2 => ?_) (fun c g c1 => ?_) (fun E g c1 => ?_) (fun E c hE g c1 => ?_)
  · obtain ⟨u, e⟩ := B.2.2.2.1
    exact ⟨u, q.2.at (by decide) (by decide) e⟩
  · rcases q.1 with ⟨q0, -⟩ | ⟨E', q0, q1, -⟩
    · cases q0
    · have q0 := Option.some.inj q0
      subst q0
      omega
  · obtain ⟨m63, m64, m65, m66, m67, ⟨u68, m68⟩, ⟨u69, m69⟩, ⟨u70, m70⟩, ⟨u71, m71⟩, ⟨u72, m72⟩, ⟨u73, m73⟩, ⟨u74, m74⟩, ⟨u75, m75⟩⟩ := Y1
    refine Ev.imp (c_X9_setHold (x := x0) (hM := m63) (hS := m64) (hT := m65) (hm := P.2.1) (hx := by omega) (hd := by decide)) (fun o h q => ?_)
    obtain ⟨b, q1, c, m, S2, U, e63, e64, e65, al, fr⟩ := q
    refine ⟨b, q1, c, m, S2, U, ?_, ⟨e63, e64, e65, fr.at (by decide) m66, fr.at (by decide) m67, ⟨_, fr.at (by decide) m68⟩, ⟨_, fr.at (by decide) m69⟩, ⟨_, fr.at (by decide) m70⟩, ⟨_, fr.at (by decide) m71⟩, ⟨_, fr.at (by decide) m72⟩, ⟨_, fr.at (by decide) m73⟩, ⟨_, fr.at (by decide) m74⟩, ⟨_, fr.at (by decide) m75⟩⟩, fr.mono (by decide)⟩
    rcases al with ⟨g0, g1, g2, g3, g4, g5⟩ | ⟨g0, g1, g2, g3, g4⟩
    · exact Or.inl ⟨g0, g3, g4, g1, g2, g5⟩
    · exact Or.inr ⟨g1, g2, g3, ⟨g0, g4⟩⟩
  · exact ⟨(sp_setHold P.1 c1 c2.2.2).1, by have := P.2.1; have := c2.1; split at this <;> omega⟩
  · omega
  · omega
  · obtain ⟨g0, g⟩ := g
    subst g0
    obtain ⟨c0, c1⟩ := c1
    exact c0
theorem sp_setJudge {S S2 : Int → Int} (P : okS S) {x0 : Int} (hc : 0 ≤ x0 ∧ x0 ≤ 3) (hsp : S2 = up S 4 x0) : okS S2 ∧ S2 5 = S 5 ∧ S2 6 = S 6 := by
  have ln : ∀ t, (0 ≤ t ∧ t ≤ 1) → 0 ≤ S (0 + t) ∧ S (0 + t) ≤ 20 := fun t ht => by
    obtain ⟨h9, -⟩ := P
    rcases (by omega : t = 0 ∨ t = 1) with e | e
    · subst e
      exact ⟨h9.1, h9.2.1⟩
    · subst e
      exact ⟨h9.2.2.1, h9.2.2.2.1⟩
  have pa := okS_pa P
  subst hsp
  exact ⟨okS_num P (Or.inr (Or.inr ⟨rfl, by omega, by omega⟩)), up_ne _ _ (by decide), up_ne _ _ (by decide)⟩
theorem op_setJudge {L : Nat} {F0 : Int → Int} {hp : xH} (H : yRel L F0 hp) {x0 : Int} (hx : -2147483648 ≤ x0 ∧ x0 ≤ 2147483647) : Cv 10 280 [.ref 28, yi x0, .ref 76] hp (yE (fun k h1 => yMid L F0 h1 (Cv 10 195 [.ref 63, yi x0] h1 (yE (fun b h2 => yOut L F0 hp k b h2))))) := by
  obtain ⟨v, S, T, N, X, B, A, Y, P⟩ := H
  have ok1 := P.1.1
  have pa := okS_pa P.1
  have ok5 : -1 ≤ S 5 ∧ S 5 ≤ 60 := by have := P.1.2.2.2; omega
  obtain ⟨od, a28, aM⟩ := A.1
  obtain ⟨z0, o0, f0, g0, r0, t0, aS, aSt⟩ := A.2.1
  have hc : Cv 9 79 [.ref 28, yi x0] hp (yA (cls1 v (0 ≤ x0 ∧ x0 ≤ 3) (S 4) (fun m S2 U => m = (if v 3 = 6 then 6 else v 3 + 1) ∧ recd (v 3) S T U ∧ (S2 = up S 4 x0)) (fun E => (E = 1 ∧ (¬ (0 ≤ x0 ∧ x0 ≤ 3)))) hp)) := by
    refine Ev.imp (c_X8_setJudge (x := x0) (h28 := a28) (hS := aS) (hN := B.2.2.2.2) (h26 := B.2.2.1) (hv := A.2.2.1) (hn6 := P.2.1) (hok := P.1) (hst := aSt) (hx := by omega) (hd := by decide)) (fun o h q => ?_)
    rcases q with ⟨z, q1, q2, fz⟩ | ⟨E, q1, q2, fz⟩
    · refine Or.inl ⟨z, q1, ?_, fz⟩
      rcases q2 with ⟨e0, e1, e2, e3, e4, e5⟩ | ⟨e0, e1, e2⟩
      · refine Or.inl ⟨e0, e1, e2, e3, fun m S2 U hu => ?_⟩
        obtain ⟨u1, u2, u3⟩ := hu
        subst u1
        obtain ⟨f9, g9, y9⟩ := e5 S2 u3
        exact ⟨e4 U u2, _, _, f9, g9, r0, t0, y9, aSt.eq (sp_setJudge P.1 e1 u3).2⟩
      · exact Or.inr ⟨1, e0, ⟨rfl, e1⟩, e2⟩
    · refine Or.inr ⟨E, q1, ?_, fz⟩
      rcases q2 with ⟨e0, e1, e2, e3, e4, e5⟩ | ⟨e0, e1, e2⟩
      · refine Or.inl ⟨e0, e1, e2, e3, fun m S2 U hu => ?_⟩
        obtain ⟨u1, u2, u3⟩ := hu
        subst u1
        obtain ⟨f9, g9, y9⟩ := e5 S2 u3
        exact ⟨e4 U u2, _, _, f9, g9, r0, t0, y9, aSt.eq (sp_setJudge P.1 e1 u3).2⟩
      · exact Or.inr ⟨1, e0, ⟨rfl, e1⟩, e2⟩
  refine mu_op (l := [1]) (MC := (fun c => (c = 1 ∧ (¬ (0 ≤ x0 ∧ x0 ≤ 3))))) B A Y P (by decide) (c_L_setJudge (d := 9) a28 hc (fun z h q => ?_) (fun E h q => ?_)) (fun h1 Y1 => ?_) (fun m S2 U c1 c2 => ?_) (fun c g c1 => ?_) (fun E g c1 => ?_) (fun E c hE g c1 => ?_)
  · obtain ⟨u, e⟩ := B.2.2.2.1
    exact ⟨u, q.2.at (by decide) (by decide) e⟩
  · rcases q.1 with ⟨q0, -⟩ | ⟨E', q0, q1, -⟩
    · cases q0
    · have q0 := Option.some.inj q0
      subst q0
      omega
  · obtain ⟨m63, m64, m65, m66, m67, ⟨u68, m68⟩, ⟨u69, m69⟩, ⟨u70, m70⟩, ⟨u71, m71⟩, ⟨u72, m72⟩, ⟨u73, m73⟩, ⟨u74, m74⟩, ⟨u75, m75⟩⟩ := Y1
    refine Ev.imp (c_X9_setJudge (x := x0) (hM := m63) (hS := m64) (hT := m65) (hm := P.2.1) (hx := by omega) (hd := by decide)) (fun o h q => ?_)
    obtain ⟨b, q1, c, m, S2, U, e63, e64, e65, al, fr⟩ := q
    refine ⟨b, q1, c, m, S2, U, ?_, ⟨e63, e64, e65, fr.at (by decide) m66, fr.at (by decide) m67, ⟨_, fr.at (by decide) m68⟩, ⟨_, fr.at (by decide) m69⟩, ⟨_, fr.at (by decide) m70⟩, ⟨_, fr.at (by decide) m71⟩, ⟨_, fr.at (by decide) m72⟩, ⟨_, fr.at (by decide) m73⟩, ⟨_, fr.at (by decide) m74⟩, ⟨_, fr.at (by decide) m75⟩⟩, fr.mono (by decide)⟩
    rcases al with ⟨g0, g1, g2, g3, g4, g5⟩ | ⟨g0, g1, g2, g3, g4⟩
    · exact Or.inl ⟨g0, g3, g4, g1, g2, g5⟩
    · exact Or.inr ⟨g1, g2, g3, ⟨g0, g4⟩⟩
  · exact ⟨(sp_setJudge P.1 c1 c2.2.2).1, by have := P.2.1; have := c2.1; split at this <;> omega⟩
  · omega
  · omega
  · obtain ⟨g0, g⟩ := g
    subst g0
    obtain ⟨c0, c1⟩ := c1
    exact c0
