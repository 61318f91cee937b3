/-! Reading up to an error. -/
/-- n characters, from the place a on -/
def tks (X : Int → Int) : Nat → Int → rS → Option rS
  | 0, _, s => some s
  | n + 1, a, s => match tk s (X a) with
    | none => none
    | some s2 => tks X n (a + 1) s2
theorem tks_c {X : Int → Int} {n : Nat} {a : Int} {s s2 : rS} (g : tk s (X a) = some s2) : tks X (n + 1) a s = tks X n (a + 1) s2 := by
  show (match tk s (X a) with
    | none => none
    | some s2 => tks X n (a + 1) s2) = _
  rw [g]
theorem tks_n {X : Int → Int} {n : Nat} {a : Int} {s : rS} (g : tk s (X a) = none) : tks X (n + 1) a s = none := by
  show (match tk s (X a) with
    | none => none
    | some s2 => tks X n (a + 1) s2) = _
  rw [g]
theorem tks_s {X : Int → Int} : ∀ (n : Nat) (a : Int) (s s1 s2 : rS), tks X n a s = some s1 → tk s1 (X (a + (n : Int))) = some s2 → tks X (n + 1) a s = some s2 := by
  intro n
  induction n with
  | zero =>
    intro a s s1 s2 h1 h2
    have e := Option.some.inj h1
    subst e
    rw [show a + ((0 : Nat) : Int) = a by omega] at h2
    unfold tks
    rw [h2]
    rfl
  | succ n ih =>
    intro a s s1 s2 h1 h2
    unfold tks at h1 ⊢
    cases g : tk s (X a) with
    | none => rw [g] at h1; cases h1
    | some s3 =>
      rw [g] at h1
      dsimp only at h1 ⊢
      exact ih (a + 1) s3 s1 s2 h1 (by rw [show a + 1 + (n : Int) = a + ((n + 1 : Nat) : Int) by omega]; exact h2)
theorem tks_cong {X Y : Int → Int} : ∀ (n : Nat) (a : Int) (s : rS), (∀ q, a ≤ q → q < a + (n : Int) → X q = Y q) → tks X n a s = tks Y n a s := by
  intro n
  induction n with
  | zero => intro a s _; rfl
  | succ n ih =>
    intro a s h
    unfold tks
    rw [h a (by omega) (by omega)]
    cases tk s (Y a) with
    | none => rfl
    | some s2 => exact ih (a + 1) s2 (fun q q1 q2 => h q (by omega) (by omega))
theorem tks_add {X : Int → Int} : ∀ (n m : Nat) (a : Int) (s s1 : rS), tks X n a s = some s1 → tks X (n + m) a s = tks X m (a + (n : Int)) s1 := by
  intro n
  induction n with
  | zero =>
    intro m a s s1 h
    have e := Option.some.inj h
    subst e
    rw [Nat.zero_add, show a + ((0 : Nat) : Int) = a by omega]
  | succ n ih =>
    intro m a s s1 h
    cases g : tk s (X a) with
    | none => rw [tks_n g] at h; cases h
    | some s2 =>
      rw [tks_c g] at h
      rw [show n + 1 + m = (n + m) + 1 by omega, tks_c g, ih m (a + 1) s2 s1 h, show a + 1 + (n : Int) = a + ((n + 1 : Nat) : Int) by omega]
/-- what is read up to z: all of it, or up to an error -/
abbrev rdsto (X : Int → Int) (n z : Int) (s : rS) : Prop := 0 ≤ z ∧ z ≤ n ∧ ∃ s1, tks X z.toNat 0 s = some s1 ∧ (z = n ∨ (z < n ∧ tk s1 (X z) = none))
theorem c_X8_readUpToError {d : Nat} {hp : xH} {kp cl od : Int} (h28 : xat hp 28 = some (.inr (8, [.ref 29, .ref 34, .ref 35, yi kp, .ref 40, yi cl, .ref 41, .ref 43, yi od, .ref 56, .ref 58]))) {Y : Int → Int} (h40 : xat hp 40 = some (yI 60 Y)) (hcl : 0 ≤ cl ∧ cl ≤ 60) (hY : ∀ q, 0 ≤ q → q < cl → 33 ≤ Y q ∧ Y q ≤ 126) {s : rS} (hr : rdr hp s) (hok : okR s) (hC : yC hp) (hd : 8 ≤ d) : Cv d 130 [.ref 28] hp (yE (fun z h => rdsto Y cl z s.beg ∧ (∃ s2, okR s2 ∧ rdr h s2 ∧ (z = cl → tks Y cl.toNat 0 s.beg = some s2)) ∧ yfr [41, 42] hp h)) := by
  have hk : xtab 130 = (xc_130, 2, 1, []) := rfl
  obtain ⟨d, rfl⟩ : ∃ e, d = e + 1 := ⟨d - 1, by omega⟩
  show Ev (d + 1) 130 0 [(0, .ref 28)] [] hp _
  refine E_run hk 1 (j' := 1) (lv' := [(0, .ref 28)]) (st' := [.ref 28]) (hp' := hp) rfl ?_
  refine E_get (v := .ref 41) hk rfl h28 rfl ?_
  refine Y_call hk rfl (as := [.ref 41]) (rest := []) (v := none) rfl rfl (Nat.le_of_ble_eq_true rfl) (rcv0 hr.1) (Nat.le_of_ble_eq_true rfl) (c_X4_begin hr.1) (fun H1 r2 => ?_)
  obtain ⟨e_H1, f_H1⟩ := r2
  refine E_run hk 2 (j' := 5) (lv' := [(1, yi 0), (0, .ref 28)]) (st' := []) (hp' := H1) rfl ?_
  have loop5 : ∀ (N : Nat) (i : Int) (q : rS) (hl5 : xH), (0 ≤ i ∧ i ≤ cl) → (okR q) → (tks Y i.toNat 0 s.beg = some q) → (xat hl5 41 = some (.inr (5, [.ref 42, yi q.c, yi q.p, .ref q.w, yi q.k, yi q.t]))) → (xat hl5 42 = some (yI 30 q.A)) → (yfr [41, 42] H1 hl5) → (cl - i).toNat = N → Ev (d + 1) 130 5 [(0, .ref 28), (1, yi i)] [] hl5 (yE (fun z h => rdsto Y cl z s.beg ∧ (∃ s2, okR s2 ∧ rdr h s2 ∧ (z = cl → tks Y cl.toNat 0 s.beg = some s2)) ∧ yfr [41, 42] hp h)) := by
    intro N
    induction N using Nat.strongRecOn with
    | ind N ih5 =>
      intro i q hl5 Ji Jo Jt ec5_41 ec5_42 fr5 hm5
      refine E_run hk 1 (j' := 6) (lv' := [(0, .ref 28), (1, yi i)]) (st' := [yi i]) (hp' := hl5) rfl ?_
      refine E_run hk 1 (j' := 7) (lv' := [(0, .ref 28), (1, yi i)]) (st' := [.ref 28, yi i]) (hp' := hl5) rfl ?_
      refine E_get (v := yi cl) hk rfl (fr5.at (by decide) (f_H1.at (by decide) h28)) rfl ?_
      refine Y_ic_ge (a := i) (b := cl) (by omega) hk rfl (fun g3 => ?_) (fun g3 => ?_)
      ·
        refine E_run hk 1 (j' := 27) (lv' := [(0, .ref 28), (1, yi i)]) (st' := [.ref 28]) (hp' := hl5) rfl ?_
        refine E_get (v := yi cl) hk rfl (fr5.at (by decide) (f_H1.at (by decide) h28)) rfl ?_
        exact E_ret hk rfl rfl (by
      have e9 : i = cl := by omega
      rw [e9] at Jt
      exact ⟨_, rfl, ⟨by omega, by omega, q, Jt, Or.inl rfl⟩, ⟨q, Jo, ⟨ec5_41, ec5_42⟩, fun _ => Jt⟩, (yfr.tr (f_H1.mono (by decide)) fr5 (fun _ h => h) (by decide))⟩)
      ·
        refine E_run hk 2 (j' := 11) (lv' := [(0, .ref 28), (1, yi i)]) (st' := [.ref 28, yi i]) (hp' := hl5) rfl ?_
        refine E_get (v := .ref 40) hk rfl (fr5.at (by decide) (f_H1.at (by decide) h28)) rfl ?_
        refine Y_alen (by decide) hk rfl (fr5.at (by decide) (f_H1.at (by decide) h40)) ?_
        refine Y_ic_ge (a := i) (b := 60) (by omega) hk rfl (fun g4 => ?_) (fun g4 => ?_)
        ·
          refine E_run hk 1 (j' := 27) (lv' := [(0, .ref 28), (1, yi i)]) (st' := [.ref 28]) (hp' := hl5) rfl ?_
          refine E_get (v := yi cl) hk rfl (fr5.at (by decide) (f_H1.at (by decide) h28)) rfl ?_
          exact E_ret hk rfl rfl (by
      have e9 : i = cl := by omega
      rw [e9] at Jt
      exact ⟨_, rfl, ⟨by omega, by omega, q, Jt, Or.inl rfl⟩, ⟨q, Jo, ⟨ec5_41, ec5_42⟩, fun _ => Jt⟩, (yfr.tr (f_H1.mono (by decide)) fr5 (fun _ h => h) (by decide))⟩)
        ·
          refine E_run hk 1 (j' := 15) (lv' := [(0, .ref 28), (1, yi i)]) (st' := [.ref 28]) (hp' := hl5) rfl ?_
          refine E_get (v := .ref 41) hk rfl (fr5.at (by decide) (f_H1.at (by decide) h28)) rfl ?_
          refine E_run hk 1 (j' := 17) (lv' := [(0, .ref 28), (1, yi i)]) (st' := [.ref 28, .ref 41]) (hp' := hl5) rfl ?_
          refine E_get (v := .ref 40) hk rfl (fr5.at (by decide) (f_H1.at (by decide) h28)) rfl ?_
          refine E_run hk 1 (j' := 19) (lv' := [(0, .ref 28), (1, yi i)]) (st' := [yi i, .ref 40, .ref 41]) (hp' := hl5) rfl ?_
          refine Y_iald (a := i) (by omega) (by decide) hk rfl (fr5.at (by decide) (f_H1.at (by decide) h40)) ?_
          have y9 := hY i (by omega) (by omega)
          refine Y_callE hk rfl (as := [.ref 41, yi (Y i)]) (rest := []) rfl rfl (Nat.le_of_ble_eq_true rfl) (rcv0 ec5_41) (Nat.le_of_ble_eq_true rfl) (c_X4_take (s := q) ⟨ec5_41, ec5_42⟩ Jo ((hC.fr f_H1 (by simp)).fr fr5 (by simp)) (x := (Y i)) (by omega) (hd := by omega)) (fun z5 H6 r7 => ?_)
          obtain ⟨s_H6, ok_H6, ⟨a_H6, b_H6⟩, f_H6, t_H6⟩ := r7
          have zr_H6 : z5 = 0 ∨ z5 = 1 := by rcases t_H6 with ⟨a9, -⟩ | ⟨a9, -⟩ <;> rw [a9] <;> simp
          refine Y_if_ne (a := z5) (by omega) hk rfl (fun g8 => ?_) (fun g8 => ?_)
          ·
            refine Y_iinc (a := i) (z := 1) hk rfl rfl rfl (by decide) (lv' := [(1, yi (i + 1)), (0, .ref 28)]) rfl ?_
            refine E_run hk 1 (j' := 5) (lv' := [(1, yi (i + 1)), (0, .ref 28)]) (st' := []) (hp' := H6) rfl ?_
            exact Ev_le (xle_s rfl rfl (xle_s rfl rfl (xle_z _ rfl))) (ih5 _ (by omega) (i + 1) s_H6 H6 (by omega) (ok_H6) (by rw [show (i + 1).toNat = i.toNat + 1 by omega]; rcases t_H6 with ⟨-, e9⟩ | ⟨e9, -⟩; exact tks_s _ _ _ _ _ Jt (by rw [show (0 : Int) + (i.toNat : Int) = i by omega]; exact e9); exfalso; omega) a_H6 b_H6 (yfr.tr fr5 f_H6 (fun _ h => h) (by decide)) rfl)
          ·
            refine E_run hk 1 (j' := 23) (lv' := [(0, .ref 28), (1, yi i)]) (st' := [yi i]) (hp' := H6) rfl ?_
            exact E_ret hk rfl rfl (by
      rcases t_H6 with ⟨a9, -⟩ | ⟨-, e9⟩
      · exfalso; omega
      · exact ⟨_, rfl, ⟨by omega, by omega, q, Jt, Or.inr ⟨by omega, e9⟩⟩, ⟨s_H6, ok_H6, ⟨a_H6, b_H6⟩, fun e8 => absurd e8 (by omega)⟩, (yfr.tr (yfr.tr (f_H1.mono (by decide)) fr5 (fun _ h => h) (by decide)) f_H6 (fun _ h => h) (by decide))⟩)
  exact Ev_le (xle_s rfl rfl (xle_s rfl rfl (xle_z _ rfl))) (loop5 _ 0 s.beg H1 (by omega) (hok.beg) (rfl) e_H1 (f_H1.at (by decide) hr.2) (yfr.refl _ _) rfl)
