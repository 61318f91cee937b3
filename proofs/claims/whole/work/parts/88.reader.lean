/-! The reader of works: one character at a time. -/
/-- the reader: how many numbers, its place, the word, how many letters of it, the tune, the numbers -/
abbrev rS : Type := Int × Int × Nat × Int × Int × (Int → Int)
abbrev rS.c (s : rS) : Int := s.1
abbrev rS.p (s : rS) : Int := s.2.1
abbrev rS.w (s : rS) : Nat := s.2.2.1
abbrev rS.k (s : rS) : Int := s.2.2.2.1
abbrev rS.t (s : rS) : Int := s.2.2.2.2.1
abbrev rS.A (s : rS) : Int → Int := s.2.2.2.2.2
def rS.beg (s : rS) : rS := ⟨0, 0, s.w, 0, s.t, s.A⟩
/-- the first o from a on, among f of them, of which P is true -/
def fwa (P : Nat → Bool) : Nat → Nat → Option Nat
  | 0, _ => none
  | f + 1, a => if P a = true then some a else fwa P f (a + 1)
theorem fwa_some {P : Nat → Bool} : ∀ (f a o : Nat), P o = true → (∀ q, a ≤ q → q < o → ¬ P q = true) → a ≤ o → o < a + f → fwa P f a = some o := by
  intro f
  induction f with
  | zero => intro a o _ _ h1 h2; omega
  | succ f ih =>
    intro a o h hn h1 h2
    unfold fwa
    by_cases e : a = o
    · rw [e, if_pos h]
    · rw [if_neg (hn a (by omega) (by omega))]
      exact ih (a + 1) o h (fun q q1 q2 => hn q (by omega) q2) (by omega) (by omega)
theorem fwa_none {P : Nat → Bool} : ∀ (f a : Nat), (∀ q, a ≤ q → q < a + f → ¬ P q = true) → fwa P f a = none := by
  intro f
  induction f with
  | zero => intro a _; rfl
  | succ f ih =>
    intro a hn
    unfold fwa
    rw [if_neg (hn a (by omega) (by omega))]
    exact ih (a + 1) (fun q q1 q2 => hn q (by omega) (by omega))
theorem fwa_in {P : Nat → Bool} : ∀ (f a o : Nat), fwa P f a = some o → P o = true ∧ a ≤ o ∧ o < a + f := by
  intro f
  induction f with
  | zero => intro a o h; cases h
  | succ f ih =>
    intro a o h
    unfold fwa at h
    split at h
    · rename_i g
      have := Option.some.inj h
      subst this
      exact ⟨g, by omega, by omega⟩
    · have := ih _ _ h
      exact ⟨this.1, by omega, by omega⟩
/-- the word o begins as the first k letters of w -/
def beq (o w : Nat) (k : Int) : Prop := ∀ q : Int, 0 ≤ q → q < k → wl o q = wl w q
def beb (o w k : Nat) : Bool := (List.range k).all (fun i => wl o (i : Int) == wl w (i : Int))
theorem beb_iff {o w : Nat} {k : Int} : beb o w k.toNat = true ↔ beq o w k := by
  unfold beb beq
  rw [List.all_eq_true]
  constructor
  · intro h q q1 q2
    have w := h q.toNat (List.mem_range.mpr (by omega))
    have e : ((q.toNat : Nat) : Int) = q := Int.toNat_of_nonneg q1
    rw [e] at w
    exact eq_of_beq w
  · intro h x hx
    have hx := List.mem_range.mp hx
    rw [h (x : Int) (by omega) (by omega)]
    exact beq_self_eq_true _
/-- the word that is read on, if the letter x follows the k letters of w -/
def fwd (w : Nat) (k x : Int) : Option Nat := fwa (fun o => beb o w k.toNat && (wl o k == x)) 8 0
def wmt (o w : Nat) (k x : Int) : Prop := beq o w k ∧ wl o k = x
theorem wmt_iff {o w : Nat} {k x : Int} : (beb o w k.toNat && (wl o k == x)) = true ↔ wmt o w k x := by
  rw [Bool.and_eq_true, beb_iff, beq_iff_eq]
  exact Iff.rfl
theorem fwd_some {w o : Nat} {k x : Int} (ho : o < 8) (h : wmt o w k x) (hn : ∀ q : Nat, q < o → ¬ wmt q w k x) : fwd w k x = some o := fwa_some 8 0 o (wmt_iff.mpr h) (fun q _ q2 q3 => hn q q2 (wmt_iff.mp q3)) (Nat.zero_le _) (by omega)
theorem fwd_none {w : Nat} {k x : Int} (hn : ∀ q : Nat, q < 8 → ¬ wmt q w k x) : fwd w k x = none := fwa_none 8 0 (fun q _ q2 q3 => hn q (by omega) (wmt_iff.mp q3))
theorem fwd_in {w o : Nat} {k x : Int} (h : fwd w k x = some o) : o < 8 ∧ wmt o w k x := by
  have := fwa_in _ _ _ h
  exact ⟨by omega, wmt_iff.mp this.1⟩
/-- the last number -/
def lnm (A : Int → Int) (c : Int) : Int := if 0 ≤ c - 1 ∧ c - 1 < 30 then A (c - 1) else 0
abbrev dig (c : Int) (w : Nat) (x : Int) : Prop := 0 ≤ x - 48 ∧ x - 48 ≤ 9 ∧ wlo w ≤ x - 48 ∧ x - 48 ≤ whi w ∧ 0 ≤ c ∧ c < 30
abbrev dig2 (c : Int) (w : Nat) (l x : Int) : Prop := 0 ≤ x - 48 ∧ x - 48 ≤ 9 ∧ l ≠ 0 ∧ l * 10 + (x - 48) ≤ whi w ∧ 0 ≤ c - 1 ∧ c - 1 < 30
/-- one character -/
def tk (s : rS) (x : Int) : Option rS :=
  if s.p = 0 then (match fwd s.w s.k x with
    | none => none
    | some o => some ⟨s.c, if (wln o : Int) ≤ s.k + 1 then (if wht o = 1 then 1 else 2) else s.p, o, s.k + 1, s.t, s.A⟩)
  else if s.p = 1 then (if 0 ≤ x - 48 ∧ x - 48 < 2 then some ⟨s.c, if whn s.w = 1 then 2 else 5, s.w, s.k, x - 48, s.A⟩ else none)
  else if s.p = 2 then (if x = 58 then some ⟨s.c, 3, s.w, s.k, s.t, s.A⟩ else none)
  else if s.p = 3 then (if dig s.c s.w x then some ⟨s.c + 1, 4, s.w, s.k, s.t, up s.A s.c (x - 48)⟩ else none)
  else if s.p = 4 then (if dig2 s.c s.w (lnm s.A s.c) x then some ⟨s.c, s.p, s.w, s.k, s.t, up s.A (s.c - 1) (lnm s.A s.c * 10 + (x - 48))⟩
    else if x = 44 ∧ s.w = 0 then some ⟨s.c, 3, s.w, s.k, s.t, s.A⟩ else if x = 59 then some s.beg else none)
  else (if x = 59 then some s.beg else none)
/-- its numbers are as they may be -/
def okR (s : rS) : Prop := 0 ≤ s.c ∧ s.c ≤ 30 ∧ 0 ≤ s.p ∧ s.p ≤ 5 ∧ s.w < 8 ∧ 0 ≤ s.k ∧ s.k ≤ 5 ∧ -200 ≤ s.t ∧ s.t ≤ 200 ∧ ∀ q, 0 ≤ q → q < s.c → 0 ≤ s.A q ∧ s.A q ≤ 60
theorem lnm_rng {s : rS} (h : okR s) : 0 ≤ lnm s.A s.c ∧ lnm s.A s.c ≤ 60 := by
  unfold lnm
  split
  · exact h.2.2.2.2.2.2.2.2.2 _ (by omega) (by omega)
  · omega
/-- the reader in the heap -/
abbrev rdr (h : xH) (s : rS) : Prop := xat h 41 = some (.inr (5, [.ref 42, yi s.c, yi s.p, .ref s.w, yi s.k, yi s.t])) ∧ xat h 42 = some (yI 30 s.A)
theorem c_X4_begin {d : Nat} {hp : xH} {c p k t : Int} {w : Nat} (hr : xat hp 41 = some (.inr (5, [.ref 42, yi c, yi p, .ref w, yi k, yi t]))) : Cv d 32 [.ref 41] hp (yR none (fun h => xat h 41 = some (.inr (5, [.ref 42, yi 0, yi 0, .ref w, yi 0, yi t])) ∧ yfr [41] hp h)) := by
  have hk : xtab 32 = (xc_32, 1, 0, []) := rfl
  show Ev d 32 0 [(0, .ref 41)] [] hp _
  refine E_run hk 2 (j' := 2) (lv' := [(0, .ref 41)]) (st' := [yi 0, .ref 41]) (hp' := hp) rfl ?_
  refine Y_put hk rfl hr (by decide) (Nat.le_of_ble_eq_true rfl) rfl (fs' := [.ref 42, yi c, yi 0, .ref w, yi k, yi t]) rfl (fun H1 e2 f3 => ?_)
  refine E_run hk 2 (j' := 5) (lv' := [(0, .ref 41)]) (st' := [yi 0, .ref 41]) (hp' := H1) rfl ?_
  refine Y_put hk rfl e2 (by decide) (Nat.le_of_ble_eq_true rfl) rfl (fs' := [.ref 42, yi c, yi 0, .ref w, yi 0, yi t]) rfl (fun H4 e5 f6 => ?_)
  refine E_run hk 2 (j' := 8) (lv' := [(0, .ref 41)]) (st' := [yi 0, .ref 41]) (hp' := H4) rfl ?_
  refine Y_put hk rfl e5 (by decide) (Nat.le_of_ble_eq_true rfl) rfl (fs' := [.ref 42, yi 0, yi 0, .ref w, yi 0, yi t]) rfl (fun H7 e8 f9 => ?_)
  exact E_ret hk rfl rfl ⟨rfl, e8, (yfr.tr (yfr.tr f3 f6 (fun _ h => h) (by decide)) f9 (fun _ h => h) (by decide))⟩
theorem c_X4_isComplete {d : Nat} {hp : xH} {c p k t : Int} {w : Nat} (hr : xat hp 41 = some (.inr (5, [.ref 42, yi c, yi p, .ref w, yi k, yi t]))) (h5 : 0 ≤ p ∧ p ≤ 5) : Cv d 33 [.ref 41] hp (yP (some (yi (b2 (p = 4 ∨ p = 5)))) hp) := by
  have hk : xtab 33 = (xc_33, 1, 2, []) := rfl
  show Ev d 33 0 [(0, .ref 41)] [] hp _
  refine E_run hk 1 (j' := 1) (lv' := [(0, .ref 41)]) (st' := [.ref 41]) (hp' := hp) rfl ?_
  refine E_get (v := yi p) hk rfl hr rfl ?_
  refine E_run hk 1 (j' := 3) (lv' := [(0, .ref 41)]) (st' := [yi 4, yi p]) (hp' := hp) rfl ?_
  refine Y_ic_eq (a := p) (b := 4) (by omega) hk rfl (fun g1 => ?_) (fun g1 => ?_)
  ·
    refine E_run hk 2 (j' := 11) (lv' := [(0, .ref 41)]) (st' := [yi 1]) (hp' := hp) rfl ?_
    exact E_ret hk rfl rfl (lb1 (by omega))
  ·
    refine E_run hk 1 (j' := 5) (lv' := [(0, .ref 41)]) (st' := [.ref 41]) (hp' := hp) rfl ?_
    refine E_get (v := yi p) hk rfl hr rfl ?_
    refine E_run hk 1 (j' := 7) (lv' := [(0, .ref 41)]) (st' := [yi 5, yi p]) (hp' := hp) rfl ?_
    refine Y_ic_ne (a := p) (b := 5) (by omega) hk rfl (fun g2 => ?_) (fun g2 => ?_)
    ·
      refine E_run hk 1 (j' := 11) (lv' := [(0, .ref 41)]) (st' := [yi 0]) (hp' := hp) rfl ?_
      exact E_ret hk rfl rfl (lb0 (by omega))
    ·
      refine E_run hk 2 (j' := 11) (lv' := [(0, .ref 41)]) (st' := [yi 1]) (hp' := hp) rfl ?_
      exact E_ret hk rfl rfl (lb1 (by omega))
theorem c_X4_lastNumber {d : Nat} {hp : xH} {c p k t : Int} {w : Nat} {A : Int → Int} (hr : xat hp 41 = some (.inr (5, [.ref 42, yi c, yi p, .ref w, yi k, yi t]))) (hA : xat hp 42 = some (yI 30 A)) (hc : 0 ≤ c ∧ c ≤ 30) : Cv d 42 [.ref 41] hp (yP (some (yi (lnm A c))) hp) := by
  have hk : xtab 42 = (xc_42, 2, 1, []) := rfl
  show Ev d 42 0 [(0, .ref 41)] [] hp _
  refine E_run hk 1 (j' := 1) (lv' := [(0, .ref 41)]) (st' := [.ref 41]) (hp' := hp) rfl ?_
  refine E_get (v := yi c) hk rfl hr rfl ?_
  refine E_run hk 1 (j' := 3) (lv' := [(0, .ref 41)]) (st' := [yi 1, yi c]) (hp' := hp) rfl ?_
  refine Y_isub (a := c) (b := 1) hk rfl ?_
  refine E_run hk 2 (j' := 6) (lv' := [(1, yi (c - 1)), (0, .ref 41)]) (st' := [yi (c - 1)]) (hp' := hp) rfl ?_
  refine Y_if_lt (a := (c - 1)) (by omega) hk rfl (fun g1 => ?_) (fun g1 => ?_)
  ·
    refine E_run hk 2 (j' := 18) (lv' := [(1, yi (c - 1)), (0, .ref 41)]) (st' := [yi 0]) (hp' := hp) rfl ?_
    exact E_ret hk rfl rfl ⟨by unfold lnm; rw [if_neg (by omega)], rfl⟩
  ·
    refine E_run hk 2 (j' := 9) (lv' := [(1, yi (c - 1)), (0, .ref 41)]) (st' := [.ref 41, yi (c - 1)]) (hp' := hp) rfl ?_
    refine E_get (v := .ref 42) hk rfl hr rfl ?_
    refine Y_alen (by decide) hk rfl hA ?_
    refine Y_ic_lt (a := (c - 1)) (b := 30) (by omega) hk rfl (fun g2 => ?_) (fun g2 => ?_)
    ·
      refine E_run hk 1 (j' := 15) (lv' := [(1, yi (c - 1)), (0, .ref 41)]) (st' := [.ref 41]) (hp' := hp) rfl ?_
      refine E_get (v := .ref 42) hk rfl hr rfl ?_
      refine E_run hk 1 (j' := 17) (lv' := [(1, yi (c - 1)), (0, .ref 41)]) (st' := [yi (c - 1), .ref 42]) (hp' := hp) rfl ?_
      refine Y_iald (a := (c - 1)) (by omega) (by decide) hk rfl hA ?_
      exact E_ret hk rfl rfl ⟨by unfold lnm; rw [if_pos (by omega)], rfl⟩
    ·
      refine E_run hk 2 (j' := 18) (lv' := [(1, yi (c - 1)), (0, .ref 41)]) (st' := [yi 0]) (hp' := hp) rfl ?_
      exact E_ret hk rfl rfl ⟨by unfold lnm; rw [if_neg (by omega)], rfl⟩
theorem c_X4_beginsAsRead {d : Nat} {hp : xH} {c p k t : Int} {w : Nat} {A : Int → Int} (hr : xat hp 41 = some (.inr (5, [.ref 42, yi c, yi p, .ref w, yi k, yi t]))) (hA : xat hp 42 = some (yI 30 A)) (hC : yC hp) (hw : w < 8) {o : Nat} (ho : o < 8) (hk5 : 0 ≤ k ∧ k ≤ 5) (hd : 5 ≤ d) : Cv d 36 [.ref 41, .ref o] hp (yP (some (yi (@b2 (beq o w k) (Classical.propDecidable _)))) hp) := by
  have hk : xtab 36 = (xc_36, 3, 2, []) := rfl
  obtain ⟨d, rfl⟩ : ∃ e, d = e + 1 := ⟨d - 1, by omega⟩
  have wr := wln_rng hw
  have wm := wnum_rng hw
  show Ev (d + 1) 36 0 [(0, .ref 41), (1, .ref o)] [] hp _
  refine E_run hk 2 (j' := 2) (lv' := [(2, yi 0), (0, .ref 41), (1, .ref o)]) (st' := []) (hp' := hp) rfl ?_
  have loop2 : ∀ (N : Nat) (i : Int), (0 ≤ i ∧ i ≤ k) → (∀ q : Int, 0 ≤ q → q < i → wl o q = wl w q) → (k - i).toNat = N → Ev (d + 1) 36 2 [(0, .ref 41), (1, .ref o), (2, yi i)] [] hp (yP (some (yi (@b2 (beq o w k) (Classical.propDecidable _)))) hp) := by
    intro N
    induction N using Nat.strongRecOn with
    | ind N ih2 =>
      intro i Ji J hm2
      refine E_run hk 1 (j' := 3) (lv' := [(0, .ref 41), (1, .ref o), (2, yi i)]) (st' := [yi i]) (hp' := hp) rfl ?_
      refine E_run hk 1 (j' := 4) (lv' := [(0, .ref 41), (1, .ref o), (2, yi i)]) (st' := [.ref 41, yi i]) (hp' := hp) rfl ?_
      refine E_get (v := yi k) hk rfl hr rfl ?_
      refine Y_ic_ge (a := i) (b := k) (by omega) hk rfl (fun g1 => ?_) (fun g1 => ?_)
      ·
        refine E_run hk 1 (j' := 19) (lv' := [(0, .ref 41), (1, .ref o), (2, yi i)]) (st' := [yi 1]) (hp' := hp) rfl ?_
        exact E_ret hk rfl rfl ⟨by rw [b2_t (show beq o w k from fun q q1 q2 => J q q1 (by omega))], rfl⟩
      ·
        refine E_run hk 2 (j' := 8) (lv' := [(0, .ref 41), (1, .ref o), (2, yi i)]) (st' := [yi i, .ref o]) (hp' := hp) rfl ?_
        refine Y_callP hk rfl (as := [.ref o, yi i]) (rest := []) (v := some (yi (wl o i))) rfl rfl (Nat.le_of_ble_eq_true rfl) (rcv0 (hC.wd (w := o) (by omega))) (Nat.le_of_ble_eq_true rfl) (c_X7_letterAt hC (w := o) (by omega) (i := i) (by omega) (hd := by omega)) ?_
        refine E_run hk 1 (j' := 10) (lv' := [(0, .ref 41), (1, .ref o), (2, yi i)]) (st' := [.ref 41, yi (wl o i)]) (hp' := hp) rfl ?_
        refine E_get (v := .ref w) hk rfl hr rfl ?_
        refine E_run hk 1 (j' := 12) (lv' := [(0, .ref 41), (1, .ref o), (2, yi i)]) (st' := [yi i, .ref w, yi (wl o i)]) (hp' := hp) rfl ?_
        refine Y_callP hk rfl (as := [.ref w, yi i]) (rest := [yi (wl o i)]) (v := some (yi (wl w i))) rfl rfl (Nat.le_of_ble_eq_true rfl) (rcv0 (hC.wd (w := w) (by omega))) (Nat.le_of_ble_eq_true rfl) (c_X7_letterAt hC (w := w) (by omega) (i := i) (by omega) (hd := by omega)) ?_
        have wl1 := wl_rng ho i
        have wl2 := wl_rng hw i
        refine Y_ic_eq (a := (wl o i)) (b := (wl w i)) (by omega) hk rfl (fun g2 => ?_) (fun g2 => ?_)
        ·
          refine Y_iinc (a := i) (z := 1) hk rfl rfl rfl (by decide) (lv' := [(2, yi (i + 1)), (0, .ref 41), (1, .ref o)]) rfl ?_
          refine E_run hk 1 (j' := 2) (lv' := [(2, yi (i + 1)), (0, .ref 41), (1, .ref o)]) (st' := []) (hp' := hp) rfl ?_
          exact Ev_le (xle_s rfl rfl (xle_s rfl rfl (xle_s rfl rfl (xle_z _ rfl)))) (ih2 _ (by omega) (i + 1)  (by omega) (fun q q1 q2 => by by_cases e9 : q = i; rw [e9]; assumption; exact J q q1 (by omega)) rfl)
        ·
          refine E_run hk 1 (j' := 15) (lv' := [(0, .ref 41), (1, .ref o), (2, yi i)]) (st' := [yi 0]) (hp' := hp) rfl ?_
          exact E_ret hk rfl rfl ⟨by rw [b2_f (show ¬ beq o w k from fun b9 => absurd (b9 i (by omega) (by omega)) (by omega))], rfl⟩
  exact Ev_le (xle_s rfl rfl (xle_s rfl rfl (xle_s rfl rfl (xle_z _ rfl)))) (loop2 _ 0  (by omega) (fun q q1 q2 => absurd q2 (by omega)) rfl)
theorem c_X4_takeLetter {d : Nat} {hp : xH} {c p k t : Int} {w : Nat} {A : Int → Int} (hr : xat hp 41 = some (.inr (5, [.ref 42, yi c, yi p, .ref w, yi k, yi t]))) (hA : xat hp 42 = some (yI 30 A)) (hC : yC hp) (hw : w < 8) {x : Int} (hx : 0 ≤ x ∧ x ≤ 200) (hk5 : 0 ≤ k ∧ k ≤ 5) (hd : 6 ≤ d) : Cv d 35 [.ref 41, yi x] hp (yE (fun z h => ((z = 1 ∧ ∃ o, fwd w k x = some o ∧ xat h 41 = some (.inr (5, [.ref 42, yi c, yi (if (wln o : Int) ≤ k + 1 then (if wht o = 1 then 1 else 2) else p), .ref o, yi (k + 1), yi t]))) ∨ (z = 0 ∧ fwd w k x = none ∧ h = hp)) ∧ yfr [41] hp h)) := by
  have hk : xtab 35 = (xc_35, 4, 2, []) := rfl
  obtain ⟨d, rfl⟩ : ∃ e, d = e + 1 := ⟨d - 1, by omega⟩
  have wr := wln_rng hw
  have wm := wnum_rng hw
  show Ev (d + 1) 35 0 [(0, .ref 41), (1, yi x)] [] hp _
  refine E_run hk 2 (j' := 2) (lv' := [(2, yi 0), (0, .ref 41), (1, yi x)]) (st' := []) (hp' := hp) rfl ?_
  have loop2 : ∀ (N : Nat) (i : Int), (0 ≤ i ∧ i ≤ 8) → (∀ q : Nat, q < i.toNat → ¬ wmt q w k x) → (8 - i).toNat = N → Ev (d + 1) 35 2 [(0, .ref 41), (1, yi x), (2, yi i)] [] hp (yE (fun z h => ((z = 1 ∧ ∃ o, fwd w k x = some o ∧ xat h 41 = some (.inr (5, [.ref 42, yi c, yi (if (wln o : Int) ≤ k + 1 then (if wht o = 1 then 1 else 2) else p), .ref o, yi (k + 1), yi t]))) ∨ (z = 0 ∧ fwd w k x = none ∧ h = hp)) ∧ yfr [41] hp h)) := by
    intro N
    induction N using Nat.strongRecOn with
    | ind N ih2 =>
      intro i Ji J hm2
      refine E_run hk 1 (j' := 3) (lv' := [(0, .ref 41), (1, yi x), (2, yi i)]) (st' := [yi i]) (hp' := hp) rfl ?_
      refine E_gets hk rfl ?_
      refine Y_alenO (by decide) hk rfl hC.w24 ?_
      refine Y_ic_ge (a := i) (b := 8) (by omega) hk rfl (fun g1 => ?_) (fun g1 => ?_)
      ·
        refine E_run hk 1 (j' := 50) (lv' := [(0, .ref 41), (1, yi x), (2, yi i)]) (st' := [yi 0]) (hp' := hp) rfl ?_
        exact E_ret hk rfl rfl ⟨_, rfl, Or.inr ⟨rfl, fwd_none (fun q q1 => J q (by omega)), rfl⟩, (yfr.refl _ _)⟩
      ·
        refine E_gets hk rfl ?_
        refine E_run hk 1 (j' := 8) (lv' := [(0, .ref 41), (1, yi x), (2, yi i)]) (st' := [yi i, .ref 24]) (hp' := hp) rfl ?_
        refine Y_aald (a := i) (v := .ref i.toNat) (by omega) (by decide) rfl hk rfl hC.w24 ?_
        refine E_run hk 1 (j' := 10) (lv' := [(3, .ref i.toNat), (0, .ref 41), (1, yi x), (2, yi i)]) (st' := []) (hp' := hp) rfl ?_
        have io : i.toNat < 8 := by omega
        have wri := wln_rng io
        have wmi := wnum_rng io
        refine E_run hk 2 (j' := 12) (lv' := [(3, .ref i.toNat), (0, .ref 41), (1, yi x), (2, yi i)]) (st' := [.ref i.toNat, .ref 41]) (hp' := hp) rfl ?_
        refine Y_callP hk rfl (as := [.ref 41, .ref i.toNat]) (rest := []) (v := some (yi (@b2 (beq i.toNat w k) (Classical.propDecidable _)))) rfl rfl (Nat.le_of_ble_eq_true rfl) (rcv0 hr) (Nat.le_of_ble_eq_true rfl) (c_X4_beginsAsRead hr hA hC (by omega) (o := i.toNat) (by omega) (by omega) (hd := by omega)) ?_
        refine Y_b_eq hk rfl (fun g2 => ?_) (fun g2 => ?_)
        ·
          refine Y_iinc (a := i) (z := 1) hk rfl rfl rfl (by decide) (lv' := [(2, yi (i + 1)), (3, .ref i.toNat), (0, .ref 41), (1, yi x)]) rfl ?_
          refine E_run hk 1 (j' := 2) (lv' := [(2, yi (i + 1)), (3, .ref i.toNat), (0, .ref 41), (1, yi x)]) (st' := []) (hp' := hp) rfl ?_
          exact Ev_le (xle_s rfl rfl (xle_s rfl rfl (xle_s rfl rfl (xle_z _ rfl)))) (ih2 _ (by omega) (i + 1)  (by omega) (fun q q1 m9 => by by_cases e9 : q = i.toNat; subst e9; (first | exact absurd m9.1 (by assumption) | exact absurd m9.2 (by assumption)); exact J q (by omega) m9) rfl)
        ·
          refine E_run hk 2 (j' := 16) (lv' := [(3, .ref i.toNat), (0, .ref 41), (1, yi x), (2, yi i)]) (st' := [.ref 41, .ref i.toNat]) (hp' := hp) rfl ?_
          refine E_get (v := yi k) hk rfl hr rfl ?_
          refine Y_callP hk rfl (as := [.ref i.toNat, yi k]) (rest := []) (v := some (yi (wl i.toNat k))) rfl rfl (Nat.le_of_ble_eq_true rfl) (rcv0 (hC.wd (w := i.toNat) (by omega))) (Nat.le_of_ble_eq_true rfl) (c_X7_letterAt hC (w := i.toNat) (by omega) (i := k) (by omega) (hd := by omega)) ?_
          have wlq := wl_rng io k
          refine E_run hk 1 (j' := 19) (lv' := [(3, .ref i.toNat), (0, .ref 41), (1, yi x), (2, yi i)]) (st' := [yi x, yi (wl i.toNat k)]) (hp' := hp) rfl ?_
          refine Y_ic_ne (a := (wl i.toNat k)) (b := x) (by omega) hk rfl (fun g3 => ?_) (fun g3 => ?_)
          ·
            refine Y_iinc (a := i) (z := 1) hk rfl rfl rfl (by decide) (lv' := [(2, yi (i + 1)), (3, .ref i.toNat), (0, .ref 41), (1, yi x)]) rfl ?_
            refine E_run hk 1 (j' := 2) (lv' := [(2, yi (i + 1)), (3, .ref i.toNat), (0, .ref 41), (1, yi x)]) (st' := []) (hp' := hp) rfl ?_
            exact Ev_le (xle_s rfl rfl (xle_s rfl rfl (xle_s rfl rfl (xle_z _ rfl)))) (ih2 _ (by omega) (i + 1)  (by omega) (fun q q1 m9 => by by_cases e9 : q = i.toNat; subst e9; (first | exact absurd m9.1 (by assumption) | exact absurd m9.2 (by assumption)); exact J q (by omega) m9) rfl)
          ·
            have mt9 : wmt i.toNat w k x := ⟨by assumption, by assumption⟩
            refine E_run hk 2 (j' := 22) (lv' := [(3, .ref i.toNat), (0, .ref 41), (1, yi x), (2, yi i)]) (st' := [.ref i.toNat, .ref 41]) (hp' := hp) rfl ?_
            refine Y_put hk rfl hr (by decide) (Nat.le_of_ble_eq_true rfl) rfl (fs' := [.ref 42, yi c, yi p, .ref i.toNat, yi k, yi t]) rfl (fun H4 e5 f6 => ?_)
            refine E_run hk 2 (j' := 25) (lv' := [(3, .ref i.toNat), (0, .ref 41), (1, yi x), (2, yi i)]) (st' := [.ref 41, .ref 41]) (hp' := H4) rfl ?_
            refine E_get (v := yi k) hk rfl e5 rfl ?_
            refine E_run hk 1 (j' := 27) (lv' := [(3, .ref i.toNat), (0, .ref 41), (1, yi x), (2, yi i)]) (st' := [yi 1, yi k, .ref 41]) (hp' := H4) rfl ?_
            refine Y_iadd (a := k) (b := 1) hk rfl ?_
            refine Y_put hk rfl e5 (by decide) (Nat.le_of_ble_eq_true rfl) rfl (fs' := [.ref 42, yi c, yi p, .ref i.toNat, yi (k + 1), yi t]) rfl (fun H7 e8 f9 => ?_)
            refine E_run hk 1 (j' := 30) (lv' := [(3, .ref i.toNat), (0, .ref 41), (1, yi x), (2, yi i)]) (st' := [.ref 41]) (hp' := H7) rfl ?_
            refine E_get (v := yi (k + 1)) hk rfl e8 rfl ?_
            refine E_run hk 1 (j' := 32) (lv' := [(3, .ref i.toNat), (0, .ref 41), (1, yi x), (2, yi i)]) (st' := [.ref 41, yi (k + 1)]) (hp' := H7) rfl ?_
            refine E_get (v := .ref i.toNat) hk rfl e8 rfl ?_
            refine E_get (v := .ref (8 + i.toNat)) hk rfl (f9.at (by simp only [List.mem_cons, List.not_mem_nil, or_false, not_or]; exact (by omega)) (f6.at (by simp only [List.mem_cons, List.not_mem_nil, or_false, not_or]; exact (by omega)) (hC.wd (w := i.toNat) (by omega)))) rfl ?_
            refine Y_callP hk rfl (as := [.ref (8 + i.toNat)]) (rest := [yi (k + 1)]) (v := some (yi (wln i.toNat))) rfl rfl (Nat.le_of_ble_eq_true rfl) (rcv0 (f9.at (by simp only [List.mem_cons, List.not_mem_nil, or_false, not_or]; exact (by omega)) (f6.at (by simp only [List.mem_cons, List.not_mem_nil, or_false, not_or]; exact (by omega)) (hC.ws (w := i.toNat) (by omega))))) (Nat.le_of_ble_eq_true rfl) (c_J0_length_8abf5 ((hC.fr f6 (by simp)).fr f9 (by simp)) (w := i.toNat) (by omega) (hd := by omega)) ?_
            refine Y_ic_lt (a := (k + 1)) (b := (wln i.toNat)) (by omega) hk rfl (fun g10 => ?_) (fun g10 => ?_)
            ·
              refine E_run hk 1 (j' := 46) (lv' := [(3, .ref i.toNat), (0, .ref 41), (1, yi x), (2, yi i)]) (st' := [yi 1]) (hp' := H7) rfl ?_
              exact E_ret hk rfl rfl ⟨_, rfl, Or.inl ⟨rfl, i.toNat, fwd_some (by omega) mt9 J, by have e9 := e8; first | (rw [if_neg (by omega)]; exact e9) | (rw [if_pos (by omega), if_pos (by omega)]; exact e9) | (rw [if_pos (by omega), if_neg (by omega)]; exact e9)⟩, (yfr.tr f6 f9 (fun _ h => h) (by decide))⟩
            ·
              refine E_run hk 2 (j' := 38) (lv' := [(3, .ref i.toNat), (0, .ref 41), (1, yi x), (2, yi i)]) (st' := [.ref 41, .ref 41]) (hp' := H7) rfl ?_
              refine E_get (v := .ref i.toNat) hk rfl e8 rfl ?_
              refine E_get (v := yi (wht i.toNat)) hk rfl (f9.at (by simp only [List.mem_cons, List.not_mem_nil, or_false, not_or]; exact (by omega)) (f6.at (by simp only [List.mem_cons, List.not_mem_nil, or_false, not_or]; exact (by omega)) (hC.wd (w := i.toNat) (by omega)))) rfl ?_
              refine Y_if_eq (a := (wht i.toNat)) (by omega) hk rfl (fun g11 => ?_) (fun g11 => ?_)
              ·
                refine E_run hk 1 (j' := 44) (lv' := [(3, .ref i.toNat), (0, .ref 41), (1, yi x), (2, yi i)]) (st' := [yi 2, .ref 41]) (hp' := H7) rfl ?_
                refine Y_put hk rfl e8 (by decide) (Nat.le_of_ble_eq_true rfl) rfl (fs' := [.ref 42, yi c, yi 2, .ref i.toNat, yi (k + 1), yi t]) rfl (fun H12 e13 f14 => ?_)
                refine E_run hk 1 (j' := 46) (lv' := [(3, .ref i.toNat), (0, .ref 41), (1, yi x), (2, yi i)]) (st' := [yi 1]) (hp' := H12) rfl ?_
                exact E_ret hk rfl rfl ⟨_, rfl, Or.inl ⟨rfl, i.toNat, fwd_some (by omega) mt9 J, by have e9 := e13; first | (rw [if_neg (by omega)]; exact e9) | (rw [if_pos (by omega), if_pos (by omega)]; exact e9) | (rw [if_pos (by omega), if_neg (by omega)]; exact e9)⟩, (yfr.tr (yfr.tr f6 f9 (fun _ h => h) (by decide)) f14 (fun _ h => h) (by decide))⟩
              ·
                refine E_run hk 2 (j' := 44) (lv' := [(3, .ref i.toNat), (0, .ref 41), (1, yi x), (2, yi i)]) (st' := [yi 1, .ref 41]) (hp' := H7) rfl ?_
                refine Y_put hk rfl e8 (by decide) (Nat.le_of_ble_eq_true rfl) rfl (fs' := [.ref 42, yi c, yi 1, .ref i.toNat, yi (k + 1), yi t]) rfl (fun H15 e16 f17 => ?_)
                refine E_run hk 1 (j' := 46) (lv' := [(3, .ref i.toNat), (0, .ref 41), (1, yi x), (2, yi i)]) (st' := [yi 1]) (hp' := H15) rfl ?_
                exact E_ret hk rfl rfl ⟨_, rfl, Or.inl ⟨rfl, i.toNat, fwd_some (by omega) mt9 J, by have e9 := e16; first | (rw [if_neg (by omega)]; exact e9) | (rw [if_pos (by omega), if_pos (by omega)]; exact e9) | (rw [if_pos (by omega), if_neg (by omega)]; exact e9)⟩, (yfr.tr (yfr.tr f6 f9 (fun _ h => h) (by decide)) f17 (fun _ h => h) (by decide))⟩
  exact Ev_le (xle_s rfl rfl (xle_s rfl rfl (xle_s rfl rfl (xle_z _ rfl)))) (loop2 _ 0  (by omega) (fun q q1 => absurd q1 (by omega)) rfl)
theorem c_X4_takeTune {d : Nat} {hp : xH} {c p k t : Int} {w : Nat} {A : Int → Int} (hr : xat hp 41 = some (.inr (5, [.ref 42, yi c, yi p, .ref w, yi k, yi t]))) (hA : xat hp 42 = some (yI 30 A)) (hC : yC hp) (hw : w < 8) {x : Int} (hx : 0 ≤ x ∧ x ≤ 200) (hp5 : 0 ≤ p ∧ p ≤ 5) (ht2 : -200 ≤ t ∧ t ≤ 200) : Cv d 37 [.ref 41, yi x] hp (yE (fun z h => ((z = 1 ∧ (0 ≤ x - 48 ∧ x - 48 < 2) ∧ rdr h ⟨c, if whn w = 1 then 2 else 5, w, k, x - 48, A⟩) ∨ (z = 0 ∧ ¬ (0 ≤ x - 48 ∧ x - 48 < 2) ∧ ∃ p2 t2 : Int, (0 ≤ p2 ∧ p2 ≤ 5) ∧ (-200 ≤ t2 ∧ t2 ≤ 200) ∧ rdr h ⟨c, p2, w, k, t2, A⟩)) ∧ yfr [41, 42] hp h)) := by
  have hk : xtab 37 = (xc_37, 2, 2, []) := rfl
  have wr := wln_rng hw
  have wm := wnum_rng hw
  show Ev d 37 0 [(0, .ref 41), (1, yi x)] [] hp _
  refine E_run hk 3 (j' := 3) (lv' := [(0, .ref 41), (1, yi x)]) (st' := [yi 48, yi x, .ref 41]) (hp' := hp) rfl ?_
  refine Y_isub (a := x) (b := 48) hk rfl ?_
  refine Y_put hk rfl hr (by decide) (Nat.le_of_ble_eq_true rfl) rfl (fs' := [.ref 42, yi c, yi p, .ref w, yi k, yi (x - 48)]) rfl (fun H1 e2 f3 => ?_)
  refine E_run hk 2 (j' := 7) (lv' := [(0, .ref 41), (1, yi x)]) (st' := [.ref 41, .ref 41]) (hp' := H1) rfl ?_
  refine E_get (v := .ref w) hk rfl e2 rfl ?_
  refine E_get (v := yi (whn w)) hk rfl (f3.at (by simp only [List.mem_cons, List.not_mem_nil, or_false, not_or]; exact (by omega)) (hC.wd (w := w) (by omega))) rfl ?_
  refine Y_if_eq (a := (whn w)) (by omega) hk rfl (fun g4 => ?_) (fun g4 => ?_)
  ·
    refine E_run hk 1 (j' := 13) (lv' := [(0, .ref 41), (1, yi x)]) (st' := [yi 5, .ref 41]) (hp' := H1) rfl ?_
    refine Y_put hk rfl e2 (by decide) (Nat.le_of_ble_eq_true rfl) rfl (fs' := [.ref 42, yi c, yi 5, .ref w, yi k, yi (x - 48)]) rfl (fun H5 e6 f7 => ?_)
    refine E_run hk 1 (j' := 15) (lv' := [(0, .ref 41), (1, yi x)]) (st' := [.ref 41]) (hp' := H5) rfl ?_
    refine E_get (v := yi (x - 48)) hk rfl e6 rfl ?_
    refine Y_if_lt (a := (x - 48)) (by omega) hk rfl (fun g8 => ?_) (fun g8 => ?_)
    ·
      refine E_run hk 1 (j' := 24) (lv' := [(0, .ref 41), (1, yi x)]) (st' := [yi 0]) (hp' := H5) rfl ?_
      exact E_ret hk rfl rfl ⟨_, rfl, Or.inr ⟨rfl, by omega, _, _, by first | (rw [if_pos (by omega)]; omega) | omega, by omega, e6, (f7.at (by decide) (f3.at (by decide) hA))⟩, (yfr.tr (f3.mono (by decide)) f7 (fun _ h => h) (by decide))⟩
    ·
      refine E_run hk 1 (j' := 18) (lv' := [(0, .ref 41), (1, yi x)]) (st' := [.ref 41]) (hp' := H5) rfl ?_
      refine E_get (v := yi (x - 48)) hk rfl e6 rfl ?_
      refine E_run hk 1 (j' := 20) (lv' := [(0, .ref 41), (1, yi x)]) (st' := [yi 2, yi (x - 48)]) (hp' := H5) rfl ?_
      refine Y_ic_ge (a := (x - 48)) (b := 2) (by omega) hk rfl (fun g9 => ?_) (fun g9 => ?_)
      ·
        refine E_run hk 1 (j' := 24) (lv' := [(0, .ref 41), (1, yi x)]) (st' := [yi 0]) (hp' := H5) rfl ?_
        exact E_ret hk rfl rfl ⟨_, rfl, Or.inr ⟨rfl, by omega, _, _, by first | (rw [if_pos (by omega)]; omega) | omega, by omega, e6, (f7.at (by decide) (f3.at (by decide) hA))⟩, (yfr.tr (f3.mono (by decide)) f7 (fun _ h => h) (by decide))⟩
      ·
        refine E_run hk 2 (j' := 24) (lv' := [(0, .ref 41), (1, yi x)]) (st' := [yi 1]) (hp' := H5) rfl ?_
        exact E_ret hk rfl rfl ⟨_, rfl, Or.inl ⟨rfl, by first | omega | (unfold dig; omega) | (unfold dig2; omega), by have e9 := e6; first | (rw [if_pos (by omega)]; exact e9) | (rw [if_neg (by omega)]; exact e9), (f7.at (by decide) (f3.at (by decide) hA))⟩, (yfr.tr (f3.mono (by decide)) f7 (fun _ h => h) (by decide))⟩
  ·
    refine E_run hk 2 (j' := 13) (lv' := [(0, .ref 41), (1, yi x)]) (st' := [yi 2, .ref 41]) (hp' := H1) rfl ?_
    refine Y_put hk rfl e2 (by decide) (Nat.le_of_ble_eq_true rfl) rfl (fs' := [.ref 42, yi c, yi 2, .ref w, yi k, yi (x - 48)]) rfl (fun H10 e11 f12 => ?_)
    refine E_run hk 1 (j' := 15) (lv' := [(0, .ref 41), (1, yi x)]) (st' := [.ref 41]) (hp' := H10) rfl ?_
    refine E_get (v := yi (x - 48)) hk rfl e11 rfl ?_
    refine Y_if_lt (a := (x - 48)) (by omega) hk rfl (fun g13 => ?_) (fun g13 => ?_)
    ·
      refine E_run hk 1 (j' := 24) (lv' := [(0, .ref 41), (1, yi x)]) (st' := [yi 0]) (hp' := H10) rfl ?_
      exact E_ret hk rfl rfl ⟨_, rfl, Or.inr ⟨rfl, by omega, _, _, by first | (rw [if_pos (by omega)]; omega) | omega, by omega, e11, (f12.at (by decide) (f3.at (by decide) hA))⟩, (yfr.tr (f3.mono (by decide)) f12 (fun _ h => h) (by decide))⟩
    ·
      refine E_run hk 1 (j' := 18) (lv' := [(0, .ref 41), (1, yi x)]) (st' := [.ref 41]) (hp' := H10) rfl ?_
      refine E_get (v := yi (x - 48)) hk rfl e11 rfl ?_
      refine E_run hk 1 (j' := 20) (lv' := [(0, .ref 41), (1, yi x)]) (st' := [yi 2, yi (x - 48)]) (hp' := H10) rfl ?_
      refine Y_ic_ge (a := (x - 48)) (b := 2) (by omega) hk rfl (fun g14 => ?_) (fun g14 => ?_)
      ·
        refine E_run hk 1 (j' := 24) (lv' := [(0, .ref 41), (1, yi x)]) (st' := [yi 0]) (hp' := H10) rfl ?_
        exact E_ret hk rfl rfl ⟨_, rfl, Or.inr ⟨rfl, by omega, _, _, by first | (rw [if_pos (by omega)]; omega) | omega, by omega, e11, (f12.at (by decide) (f3.at (by decide) hA))⟩, (yfr.tr (f3.mono (by decide)) f12 (fun _ h => h) (by decide))⟩
      ·
        refine E_run hk 2 (j' := 24) (lv' := [(0, .ref 41), (1, yi x)]) (st' := [yi 1]) (hp' := H10) rfl ?_
        exact E_ret hk rfl rfl ⟨_, rfl, Or.inl ⟨rfl, by first | omega | (unfold dig; omega) | (unfold dig2; omega), by have e9 := e11; first | (rw [if_pos (by omega)]; exact e9) | (rw [if_neg (by omega)]; exact e9), (f12.at (by decide) (f3.at (by decide) hA))⟩, (yfr.tr (f3.mono (by decide)) f12 (fun _ h => h) (by decide))⟩
theorem c_X4_takeFirstDigit {d : Nat} {hp : xH} {c p k t : Int} {w : Nat} {A : Int → Int} (hr : xat hp 41 = some (.inr (5, [.ref 42, yi c, yi p, .ref w, yi k, yi t]))) (hA : xat hp 42 = some (yI 30 A)) (hC : yC hp) (hw : w < 8) {x : Int} (hx : 0 ≤ x ∧ x ≤ 200) (hc : 0 ≤ c ∧ c ≤ 30) (hp5 : 0 ≤ p ∧ p ≤ 5) (ht2 : -200 ≤ t ∧ t ≤ 200) : Cv d 38 [.ref 41, yi x] hp (yE (fun z h => ((z = 1 ∧ (dig c w x) ∧ rdr h ⟨c + 1, 4, w, k, t, up A c (x - 48)⟩) ∨ (z = 0 ∧ ¬ (dig c w x) ∧ rdr h ⟨c, p, w, k, t, A⟩)) ∧ yfr [41, 42] hp h)) := by
  have hk : xtab 38 = (xc_38, 3, 2, []) := rfl
  have wr := wln_rng hw
  have wm := wnum_rng hw
  show Ev d 38 0 [(0, .ref 41), (1, yi x)] [] hp _
  refine E_run hk 2 (j' := 2) (lv' := [(0, .ref 41), (1, yi x)]) (st' := [yi 48, yi x]) (hp' := hp) rfl ?_
  refine Y_isub (a := x) (b := 48) hk rfl ?_
  refine E_run hk 2 (j' := 5) (lv' := [(2, yi (x - 48)), (0, .ref 41), (1, yi x)]) (st' := [yi (x - 48)]) (hp' := hp) rfl ?_
  refine Y_if_lt (a := (x - 48)) (by omega) hk rfl (fun g1 => ?_) (fun g1 => ?_)
  ·
    refine E_run hk 1 (j' := 20) (lv' := [(2, yi (x - 48)), (0, .ref 41), (1, yi x)]) (st' := [yi 0]) (hp' := hp) rfl ?_
    exact E_ret hk rfl rfl ⟨_, rfl, Or.inr ⟨rfl, by first | omega | (unfold dig; omega) | (unfold dig2; omega), hr, hA⟩, (yfr.refl _ _)⟩
  ·
    refine E_run hk 2 (j' := 8) (lv' := [(2, yi (x - 48)), (0, .ref 41), (1, yi x)]) (st' := [yi 9, yi (x - 48)]) (hp' := hp) rfl ?_
    refine Y_ic_gt (a := (x - 48)) (b := 9) (by omega) hk rfl (fun g2 => ?_) (fun g2 => ?_)
    ·
      refine E_run hk 1 (j' := 20) (lv' := [(2, yi (x - 48)), (0, .ref 41), (1, yi x)]) (st' := [yi 0]) (hp' := hp) rfl ?_
      exact E_ret hk rfl rfl ⟨_, rfl, Or.inr ⟨rfl, by first | omega | (unfold dig; omega) | (unfold dig2; omega), hr, hA⟩, (yfr.refl _ _)⟩
    ·
      refine E_run hk 2 (j' := 11) (lv' := [(2, yi (x - 48)), (0, .ref 41), (1, yi x)]) (st' := [.ref 41, yi (x - 48)]) (hp' := hp) rfl ?_
      refine E_get (v := .ref w) hk rfl hr rfl ?_
      refine E_get (v := yi (wlo w)) hk rfl (hC.wd (w := w) (by omega)) rfl ?_
      refine Y_ic_lt (a := (x - 48)) (b := (wlo w)) (by omega) hk rfl (fun g3 => ?_) (fun g3 => ?_)
      ·
        refine E_run hk 1 (j' := 20) (lv' := [(2, yi (x - 48)), (0, .ref 41), (1, yi x)]) (st' := [yi 0]) (hp' := hp) rfl ?_
        exact E_ret hk rfl rfl ⟨_, rfl, Or.inr ⟨rfl, by first | omega | (unfold dig; omega) | (unfold dig2; omega), hr, hA⟩, (yfr.refl _ _)⟩
      ·
        refine E_run hk 2 (j' := 16) (lv' := [(2, yi (x - 48)), (0, .ref 41), (1, yi x)]) (st' := [.ref 41, yi (x - 48)]) (hp' := hp) rfl ?_
        refine E_get (v := .ref w) hk rfl hr rfl ?_
        refine E_get (v := yi (whi w)) hk rfl (hC.wd (w := w) (by omega)) rfl ?_
        refine Y_ic_le (a := (x - 48)) (b := (whi w)) (by omega) hk rfl (fun g4 => ?_) (fun g4 => ?_)
        ·
          refine E_run hk 1 (j' := 22) (lv' := [(2, yi (x - 48)), (0, .ref 41), (1, yi x)]) (st' := [.ref 41]) (hp' := hp) rfl ?_
          refine E_get (v := yi c) hk rfl hr rfl ?_
          refine Y_if_lt (a := c) (by omega) hk rfl (fun g5 => ?_) (fun g5 => ?_)
          ·
            refine E_run hk 1 (j' := 31) (lv' := [(2, yi (x - 48)), (0, .ref 41), (1, yi x)]) (st' := [yi 0]) (hp' := hp) rfl ?_
            exact E_ret hk rfl rfl ⟨_, rfl, Or.inr ⟨rfl, by first | omega | (unfold dig; omega) | (unfold dig2; omega), hr, hA⟩, (yfr.refl _ _)⟩
          ·
            refine E_run hk 1 (j' := 25) (lv' := [(2, yi (x - 48)), (0, .ref 41), (1, yi x)]) (st' := [.ref 41]) (hp' := hp) rfl ?_
            refine E_get (v := yi c) hk rfl hr rfl ?_
            refine E_run hk 1 (j' := 27) (lv' := [(2, yi (x - 48)), (0, .ref 41), (1, yi x)]) (st' := [.ref 41, yi c]) (hp' := hp) rfl ?_
            refine E_get (v := .ref 42) hk rfl hr rfl ?_
            refine Y_alen (by decide) hk rfl hA ?_
            refine Y_ic_lt (a := c) (b := 30) (by omega) hk rfl (fun g6 => ?_) (fun g6 => ?_)
            ·
              refine E_run hk 1 (j' := 33) (lv' := [(2, yi (x - 48)), (0, .ref 41), (1, yi x)]) (st' := [.ref 41]) (hp' := hp) rfl ?_
              refine E_get (v := .ref 42) hk rfl hr rfl ?_
              refine E_run hk 1 (j' := 35) (lv' := [(2, yi (x - 48)), (0, .ref 41), (1, yi x)]) (st' := [.ref 41, .ref 42]) (hp' := hp) rfl ?_
              refine E_get (v := yi c) hk rfl hr rfl ?_
              refine E_run hk 1 (j' := 37) (lv' := [(2, yi (x - 48)), (0, .ref 41), (1, yi x)]) (st' := [yi (x - 48), yi c, .ref 42]) (hp' := hp) rfl ?_
              refine Y_iast (a := c) (x := (x - 48)) (by omega) (by decide) (by decide) hk rfl hA (fun H7 e8 f9 => ?_)
              refine E_run hk 2 (j' := 40) (lv' := [(2, yi (x - 48)), (0, .ref 41), (1, yi x)]) (st' := [.ref 41, .ref 41]) (hp' := H7) rfl ?_
              refine E_get (v := yi c) hk rfl (f9.at (by decide) hr) rfl ?_
              refine E_run hk 1 (j' := 42) (lv' := [(2, yi (x - 48)), (0, .ref 41), (1, yi x)]) (st' := [yi 1, yi c, .ref 41]) (hp' := H7) rfl ?_
              refine Y_iadd (a := c) (b := 1) hk rfl ?_
              refine Y_put hk rfl (f9.at (by decide) hr) (by decide) (Nat.le_of_ble_eq_true rfl) rfl (fs' := [.ref 42, yi (c + 1), yi p, .ref w, yi k, yi t]) rfl (fun H10 e11 f12 => ?_)
              refine E_run hk 2 (j' := 46) (lv' := [(2, yi (x - 48)), (0, .ref 41), (1, yi x)]) (st' := [yi 4, .ref 41]) (hp' := H10) rfl ?_
              refine Y_put hk rfl e11 (by decide) (Nat.le_of_ble_eq_true rfl) rfl (fs' := [.ref 42, yi (c + 1), yi 4, .ref w, yi k, yi t]) rfl (fun H13 e14 f15 => ?_)
              refine E_run hk 1 (j' := 48) (lv' := [(2, yi (x - 48)), (0, .ref 41), (1, yi x)]) (st' := [yi 1]) (hp' := H13) rfl ?_
              exact E_ret hk rfl rfl ⟨_, rfl, Or.inl ⟨rfl, by first | omega | (unfold dig; omega) | (unfold dig2; omega), e14, (f15.at (by decide) (f12.at (by decide) e8))⟩, (yfr.tr (yfr.tr (f9.mono (by decide)) f12 (fun _ h => h) (by decide)) f15 (fun _ h => h) (by decide))⟩
            ·
              refine E_run hk 1 (j' := 31) (lv' := [(2, yi (x - 48)), (0, .ref 41), (1, yi x)]) (st' := [yi 0]) (hp' := hp) rfl ?_
              exact E_ret hk rfl rfl ⟨_, rfl, Or.inr ⟨rfl, by first | omega | (unfold dig; omega) | (unfold dig2; omega), hr, hA⟩, (yfr.refl _ _)⟩
        ·
          refine E_run hk 1 (j' := 20) (lv' := [(2, yi (x - 48)), (0, .ref 41), (1, yi x)]) (st' := [yi 0]) (hp' := hp) rfl ?_
          exact E_ret hk rfl rfl ⟨_, rfl, Or.inr ⟨rfl, by first | omega | (unfold dig; omega) | (unfold dig2; omega), hr, hA⟩, (yfr.refl _ _)⟩
theorem c_X4_takeDigit {d : Nat} {hp : xH} {c p k t : Int} {w : Nat} {A : Int → Int} (hr : xat hp 41 = some (.inr (5, [.ref 42, yi c, yi p, .ref w, yi k, yi t]))) (hA : xat hp 42 = some (yI 30 A)) (hC : yC hp) (hw : w < 8) {x : Int} (hx : 0 ≤ x ∧ x ≤ 200) (hc : 0 ≤ c ∧ c ≤ 30) (hl : 0 ≤ lnm A c ∧ lnm A c ≤ 60) (hp5 : 0 ≤ p ∧ p ≤ 5) (ht2 : -200 ≤ t ∧ t ≤ 200) (hd : 1 ≤ d) : Cv d 39 [.ref 41, yi x] hp (yE (fun z h => ((z = 1 ∧ (dig2 c w (lnm A c) x) ∧ rdr h ⟨c, p, w, k, t, up A (c - 1) (lnm A c * 10 + (x - 48))⟩) ∨ (z = 0 ∧ ¬ (dig2 c w (lnm A c) x) ∧ rdr h ⟨c, p, w, k, t, A⟩)) ∧ yfr [41, 42] hp h)) := by
  have hk : xtab 39 = (xc_39, 5, 2, []) := rfl
  obtain ⟨d, rfl⟩ : ∃ e, d = e + 1 := ⟨d - 1, by omega⟩
  have wr := wln_rng hw
  have wm := wnum_rng hw
  show Ev (d + 1) 39 0 [(0, .ref 41), (1, yi x)] [] hp _
  refine E_run hk 2 (j' := 2) (lv' := [(0, .ref 41), (1, yi x)]) (st' := [yi 48, yi x]) (hp' := hp) rfl ?_
  refine Y_isub (a := x) (b := 48) hk rfl ?_
  refine E_run hk 2 (j' := 5) (lv' := [(2, yi (x - 48)), (0, .ref 41), (1, yi x)]) (st' := [.ref 41]) (hp' := hp) rfl ?_
  refine Y_callP hk rfl (as := [.ref 41]) (rest := []) (v := some (yi (lnm A c))) rfl rfl (Nat.le_of_ble_eq_true rfl) (rcv0 hr) (Nat.le_of_ble_eq_true rfl) (c_X4_lastNumber hr hA (by omega)) ?_
  refine E_run hk 2 (j' := 8) (lv' := [(3, yi (lnm A c)), (2, yi (x - 48)), (0, .ref 41), (1, yi x)]) (st' := [yi (x - 48)]) (hp' := hp) rfl ?_
  refine Y_if_lt (a := (x - 48)) (by omega) hk rfl (fun g1 => ?_) (fun g1 => ?_)
  ·
    refine E_run hk 1 (j' := 24) (lv' := [(3, yi (lnm A c)), (2, yi (x - 48)), (0, .ref 41), (1, yi x)]) (st' := [yi 0]) (hp' := hp) rfl ?_
    exact E_ret hk rfl rfl ⟨_, rfl, Or.inr ⟨rfl, by first | omega | (unfold dig; omega) | (unfold dig2; omega), hr, hA⟩, (yfr.refl _ _)⟩
  ·
    refine E_run hk 2 (j' := 11) (lv' := [(3, yi (lnm A c)), (2, yi (x - 48)), (0, .ref 41), (1, yi x)]) (st' := [yi 9, yi (x - 48)]) (hp' := hp) rfl ?_
    refine Y_ic_gt (a := (x - 48)) (b := 9) (by omega) hk rfl (fun g2 => ?_) (fun g2 => ?_)
    ·
      refine E_run hk 1 (j' := 24) (lv' := [(3, yi (lnm A c)), (2, yi (x - 48)), (0, .ref 41), (1, yi x)]) (st' := [yi 0]) (hp' := hp) rfl ?_
      exact E_ret hk rfl rfl ⟨_, rfl, Or.inr ⟨rfl, by first | omega | (unfold dig; omega) | (unfold dig2; omega), hr, hA⟩, (yfr.refl _ _)⟩
    ·
      refine E_run hk 1 (j' := 13) (lv' := [(3, yi (lnm A c)), (2, yi (x - 48)), (0, .ref 41), (1, yi x)]) (st' := [yi (lnm A c)]) (hp' := hp) rfl ?_
      refine Y_if_eq (a := (lnm A c)) (by omega) hk rfl (fun g3 => ?_) (fun g3 => ?_)
      ·
        refine E_run hk 1 (j' := 24) (lv' := [(3, yi (lnm A c)), (2, yi (x - 48)), (0, .ref 41), (1, yi x)]) (st' := [yi 0]) (hp' := hp) rfl ?_
        exact E_ret hk rfl rfl ⟨_, rfl, Or.inr ⟨rfl, by first | omega | (unfold dig; omega) | (unfold dig2; omega), hr, hA⟩, (yfr.refl _ _)⟩
      ·
        refine E_run hk 2 (j' := 16) (lv' := [(3, yi (lnm A c)), (2, yi (x - 48)), (0, .ref 41), (1, yi x)]) (st' := [yi 10, yi (lnm A c)]) (hp' := hp) rfl ?_
        refine Y_imul (a := (lnm A c)) (b := 10) hk rfl ?_
        refine E_run hk 1 (j' := 18) (lv' := [(3, yi (lnm A c)), (2, yi (x - 48)), (0, .ref 41), (1, yi x)]) (st' := [yi (x - 48), yi ((lnm A c) * 10)]) (hp' := hp) rfl ?_
        refine Y_iadd (a := ((lnm A c) * 10)) (b := (x - 48)) hk rfl ?_
        refine E_run hk 1 (j' := 20) (lv' := [(3, yi (lnm A c)), (2, yi (x - 48)), (0, .ref 41), (1, yi x)]) (st' := [.ref 41, yi (((lnm A c) * 10) + (x - 48))]) (hp' := hp) rfl ?_
        refine E_get (v := .ref w) hk rfl hr rfl ?_
        refine E_get (v := yi (whi w)) hk rfl (hC.wd (w := w) (by omega)) rfl ?_
        refine Y_ic_le (a := (((lnm A c) * 10) + (x - 48))) (b := (whi w)) (by omega) hk rfl (fun g4 => ?_) (fun g4 => ?_)
        ·
          refine E_run hk 1 (j' := 26) (lv' := [(3, yi (lnm A c)), (2, yi (x - 48)), (0, .ref 41), (1, yi x)]) (st' := [.ref 41]) (hp' := hp) rfl ?_
          refine E_get (v := yi c) hk rfl hr rfl ?_
          refine E_run hk 1 (j' := 28) (lv' := [(3, yi (lnm A c)), (2, yi (x - 48)), (0, .ref 41), (1, yi x)]) (st' := [yi 1, yi c]) (hp' := hp) rfl ?_
          refine Y_isub (a := c) (b := 1) hk rfl ?_
          refine E_run hk 2 (j' := 31) (lv' := [(4, yi (c - 1)), (3, yi (lnm A c)), (2, yi (x - 48)), (0, .ref 41), (1, yi x)]) (st' := [yi (c - 1)]) (hp' := hp) rfl ?_
          refine Y_if_lt (a := (c - 1)) (by omega) hk rfl (fun g5 => ?_) (fun g5 => ?_)
          ·
            refine E_run hk 1 (j' := 38) (lv' := [(4, yi (c - 1)), (3, yi (lnm A c)), (2, yi (x - 48)), (0, .ref 41), (1, yi x)]) (st' := [yi 0]) (hp' := hp) rfl ?_
            exact E_ret hk rfl rfl ⟨_, rfl, Or.inr ⟨rfl, by first | omega | (unfold dig; omega) | (unfold dig2; omega), hr, hA⟩, (yfr.refl _ _)⟩
          ·
            refine E_run hk 2 (j' := 34) (lv' := [(4, yi (c - 1)), (3, yi (lnm A c)), (2, yi (x - 48)), (0, .ref 41), (1, yi x)]) (st' := [.ref 41, yi (c - 1)]) (hp' := hp) rfl ?_
            refine E_get (v := .ref 42) hk rfl hr rfl ?_
            refine Y_alen (by decide) hk rfl hA ?_
            refine Y_ic_lt (a := (c - 1)) (b := 30) (by omega) hk rfl (fun g6 => ?_) (fun g6 => ?_)
            ·
              refine E_run hk 1 (j' := 40) (lv' := [(4, yi (c - 1)), (3, yi (lnm A c)), (2, yi (x - 48)), (0, .ref 41), (1, yi x)]) (st' := [.ref 41]) (hp' := hp) rfl ?_
              refine E_get (v := .ref 42) hk rfl hr rfl ?_
              refine E_run hk 3 (j' := 44) (lv' := [(4, yi (c - 1)), (3, yi (lnm A c)), (2, yi (x - 48)), (0, .ref 41), (1, yi x)]) (st' := [yi 10, yi (lnm A c), yi (c - 1), .ref 42]) (hp' := hp) rfl ?_
              refine Y_imul (a := (lnm A c)) (b := 10) hk rfl ?_
              refine E_run hk 1 (j' := 46) (lv' := [(4, yi (c - 1)), (3, yi (lnm A c)), (2, yi (x - 48)), (0, .ref 41), (1, yi x)]) (st' := [yi (x - 48), yi ((lnm A c) * 10), yi (c - 1), .ref 42]) (hp' := hp) rfl ?_
              refine Y_iadd (a := ((lnm A c) * 10)) (b := (x - 48)) hk rfl ?_
              refine Y_iast (a := (c - 1)) (x := (((lnm A c) * 10) + (x - 48))) (by omega) (by decide) (by decide) hk rfl hA (fun H7 e8 f9 => ?_)
              refine E_run hk 1 (j' := 49) (lv' := [(4, yi (c - 1)), (3, yi (lnm A c)), (2, yi (x - 48)), (0, .ref 41), (1, yi x)]) (st' := [yi 1]) (hp' := H7) rfl ?_
              exact E_ret hk rfl rfl ⟨_, rfl, Or.inl ⟨rfl, by first | omega | (unfold dig; omega) | (unfold dig2; omega), (f9.at (by decide) hr), e8⟩, (f9.mono (by decide))⟩
            ·
              refine E_run hk 1 (j' := 38) (lv' := [(4, yi (c - 1)), (3, yi (lnm A c)), (2, yi (x - 48)), (0, .ref 41), (1, yi x)]) (st' := [yi 0]) (hp' := hp) rfl ?_
              exact E_ret hk rfl rfl ⟨_, rfl, Or.inr ⟨rfl, by first | omega | (unfold dig; omega) | (unfold dig2; omega), hr, hA⟩, (yfr.refl _ _)⟩
        ·
          refine E_run hk 1 (j' := 24) (lv' := [(3, yi (lnm A c)), (2, yi (x - 48)), (0, .ref 41), (1, yi x)]) (st' := [yi 0]) (hp' := hp) rfl ?_
          exact E_ret hk rfl rfl ⟨_, rfl, Or.inr ⟨rfl, by first | omega | (unfold dig; omega) | (unfold dig2; omega), hr, hA⟩, (yfr.refl _ _)⟩
theorem c_X4_takeComma {d : Nat} {hp : xH} {c p k t : Int} {w : Nat} {A : Int → Int} (hr : xat hp 41 = some (.inr (5, [.ref 42, yi c, yi p, .ref w, yi k, yi t]))) (hA : xat hp 42 = some (yI 30 A)) (hC : yC hp) (hw : w < 8) {x : Int} (hx : 0 ≤ x ∧ x ≤ 200) (hp5 : 0 ≤ p ∧ p ≤ 5) (ht2 : -200 ≤ t ∧ t ≤ 200) : Cv d 40 [.ref 41, yi x] hp (yE (fun z h => ((z = 1 ∧ (x = 44 ∧ w = 0) ∧ rdr h ⟨c, 3, w, k, t, A⟩) ∨ (z = 0 ∧ ¬ (x = 44 ∧ w = 0) ∧ rdr h ⟨c, p, w, k, t, A⟩)) ∧ yfr [41, 42] hp h)) := by
  have hk : xtab 40 = (xc_40, 2, 2, []) := rfl
  have wr := wln_rng hw
  have wm := wnum_rng hw
  show Ev d 40 0 [(0, .ref 41), (1, yi x)] [] hp _
  refine E_run hk 2 (j' := 2) (lv' := [(0, .ref 41), (1, yi x)]) (st' := [yi 44, yi x]) (hp' := hp) rfl ?_
  refine Y_ic_ne (a := x) (b := 44) (by omega) hk rfl (fun g1 => ?_) (fun g1 => ?_)
  ·
    refine E_run hk 1 (j' := 8) (lv' := [(0, .ref 41), (1, yi x)]) (st' := [yi 0]) (hp' := hp) rfl ?_
    exact E_ret hk rfl rfl ⟨_, rfl, Or.inr ⟨rfl, by first | omega | (unfold dig; omega) | (unfold dig2; omega), hr, hA⟩, (yfr.refl _ _)⟩
  ·
    refine E_run hk 1 (j' := 4) (lv' := [(0, .ref 41), (1, yi x)]) (st' := [.ref 41]) (hp' := hp) rfl ?_
    refine E_get (v := .ref w) hk rfl hr rfl ?_
    refine E_gets hk rfl ?_
    refine Y_ac_eq (c := w) (b := 0) (by omega) hk rfl (hC.wd (w := w) (by omega)) (hC.wd (w := 0) (by omega)) (fun g2 => ?_) (fun g2 => ?_)
    ·
      refine E_run hk 2 (j' := 11) (lv' := [(0, .ref 41), (1, yi x)]) (st' := [yi 3, .ref 41]) (hp' := hp) rfl ?_
      refine Y_put hk rfl hr (by decide) (Nat.le_of_ble_eq_true rfl) rfl (fs' := [.ref 42, yi c, yi 3, .ref w, yi k, yi t]) rfl (fun H3 e4 f5 => ?_)
      refine E_run hk 1 (j' := 13) (lv' := [(0, .ref 41), (1, yi x)]) (st' := [yi 1]) (hp' := H3) rfl ?_
      exact E_ret hk rfl rfl ⟨_, rfl, Or.inl ⟨rfl, by first | omega | (unfold dig; omega) | (unfold dig2; omega), e4, (f5.at (by decide) hA)⟩, (f5.mono (by decide))⟩
    ·
      refine E_run hk 1 (j' := 8) (lv' := [(0, .ref 41), (1, yi x)]) (st' := [yi 0]) (hp' := hp) rfl ?_
      exact E_ret hk rfl rfl ⟨_, rfl, Or.inr ⟨rfl, by first | omega | (unfold dig; omega) | (unfold dig2; omega), hr, hA⟩, (yfr.refl _ _)⟩
theorem c_X4_takeSemicolon {d : Nat} {hp : xH} {c p k t : Int} {w : Nat} {A : Int → Int} (hr : xat hp 41 = some (.inr (5, [.ref 42, yi c, yi p, .ref w, yi k, yi t]))) (hA : xat hp 42 = some (yI 30 A)) (hC : yC hp) (hw : w < 8) {x : Int} (hx : 0 ≤ x ∧ x ≤ 200) (hp5 : 0 ≤ p ∧ p ≤ 5) (ht2 : -200 ≤ t ∧ t ≤ 200) (hd : 1 ≤ d) : Cv d 41 [.ref 41, yi x] hp (yE (fun z h => ((z = 1 ∧ (x = 59) ∧ rdr h ⟨0, 0, w, 0, t, A⟩) ∨ (z = 0 ∧ ¬ (x = 59) ∧ rdr h ⟨c, p, w, k, t, A⟩)) ∧ yfr [41, 42] hp h)) := by
  have hk : xtab 41 = (xc_41, 2, 2, []) := rfl
  obtain ⟨d, rfl⟩ : ∃ e, d = e + 1 := ⟨d - 1, by omega⟩
  have wr := wln_rng hw
  have wm := wnum_rng hw
  show Ev (d + 1) 41 0 [(0, .ref 41), (1, yi x)] [] hp _
  refine E_run hk 2 (j' := 2) (lv' := [(0, .ref 41), (1, yi x)]) (st' := [yi 59, yi x]) (hp' := hp) rfl ?_
  refine Y_ic_eq (a := x) (b := 59) (by omega) hk rfl (fun g1 => ?_) (fun g1 => ?_)
  ·
    refine E_run hk 1 (j' := 6) (lv' := [(0, .ref 41), (1, yi x)]) (st' := [.ref 41]) (hp' := hp) rfl ?_
    refine Y_call hk rfl (as := [.ref 41]) (rest := []) (v := none) rfl rfl (Nat.le_of_ble_eq_true rfl) (rcv0 hr) (Nat.le_of_ble_eq_true rfl) (c_X4_begin hr) (fun H2 r3 => ?_)
    obtain ⟨e_H2, f_H2⟩ := r3
    refine E_run hk 1 (j' := 8) (lv' := [(0, .ref 41), (1, yi x)]) (st' := [yi 1]) (hp' := H2) rfl ?_
    exact E_ret hk rfl rfl ⟨_, rfl, Or.inl ⟨rfl, by first | omega | (unfold dig; omega) | (unfold dig2; omega), e_H2, (f_H2.at (by decide) hA)⟩, (f_H2.mono (by decide))⟩
  ·
    refine E_run hk 1 (j' := 4) (lv' := [(0, .ref 41), (1, yi x)]) (st' := [yi 0]) (hp' := hp) rfl ?_
    exact E_ret hk rfl rfl ⟨_, rfl, Or.inr ⟨rfl, by first | omega | (unfold dig; omega) | (unfold dig2; omega), hr, hA⟩, (yfr.refl _ _)⟩
