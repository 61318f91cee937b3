/-! The class: the saved states. -/
theorem s77 {z o : Nat} (h : stid 29 z o) : z < 63 ∧ z + 1 < 63 ∧ o < 63 ∧ o + 1 < 63 := by
  unfold stid at h
  omega
theorem t77 {z o : Nat} (h : stid 29 z o) (t : Int) : tun t z o < 63 ∧ tun t z o + 1 < 63 := by
  have w := tun_or t z o
  unfold stid at h
  omega
/-- a state's numbers are as they may be -/
def okS (S : Int → Int) : Prop := (0 ≤ S 0 ∧ S 0 ≤ 20 ∧ 0 ≤ S 1 ∧ S 1 ≤ 20 ∧ 0 ≤ S 2 ∧ S 2 ≤ 20 ∧ 0 ≤ S 3 ∧ S 3 ≤ 50 ∧ 0 ≤ S 4 ∧ S 4 ≤ 3) ∧ (∀ q, 0 ≤ q → q < S 0 → 0 ≤ S (7 + q) ∧ S (7 + q) ≤ 60) ∧ (∀ q, 0 ≤ q → q < S 1 → 0 ≤ S (27 + q) ∧ S (27 + q) ≤ 60) ∧ (S 5 = -1 ∨ (0 ≤ S 5 ∧ S 5 ≤ 60 ∧ 1 ≤ S 6 ∧ S 6 ≤ 2))
/-- why and where it stopped -/
def ystp (S : Int → Int) (r t : Int) : Prop := (S 5 = -1 ∧ r = 0) ∨ (0 ≤ S 5 ∧ t = S 5 ∧ r = S 6 ∧ 1 ≤ r ∧ r ≤ 2)
theorem okS.cong {S S' : Int → Int} (h : okS S) (e : ∀ q, 0 ≤ q → q < 47 → S' q = S q) : okS S' := by
  obtain ⟨h1, h2, h3, h4⟩ := h
  refine ⟨?_, fun q q1 q2 => ?_, fun q q1 q2 => ?_, ?_⟩
  · rw [e 0 (by decide) (by decide), e 1 (by decide) (by decide), e 2 (by decide) (by decide), e 3 (by decide) (by decide), e 4 (by decide) (by decide)]
    exact h1
  · rw [e 0 (by decide) (by decide)] at q2
    rw [e _ (by omega) (by omega)]
    exact h2 q q1 q2
  · rw [e 1 (by decide) (by decide)] at q2
    rw [e _ (by omega) (by omega)]
    exact h3 q q1 q2
  · rw [e 5 (by decide) (by decide), e 6 (by decide) (by decide)]
    exact h4
theorem ystp.cong {S S' : Int → Int} {r t : Int} (h : ystp S r t) (e : ∀ q, 0 ≤ q → q < 47 → S' q = S q) : ystp S' r t := by
  unfold ystp at h ⊢
  rw [e 5 (by decide) (by decide), e 6 (by decide) (by decide)]
  exact h
theorem yS.cong {h : xH} {s z o : Nat} {S S' f g : Int → Int} {r t : Int} (H : yS h s z o S f g r t) (k : okS S) (e : ∀ q, 0 ≤ q → q < 47 → S' q = S q) : yS h s z o S' f g r t := by
  obtain ⟨hid, e1, e2, e3, e4, e5, ef, eg⟩ := H
  obtain ⟨k1, -⟩ := k
  refine ⟨hid, ?_, ?_, ?_, e4, e5, fun q q1 q2 => ?_, fun q q1 q2 => ?_⟩
  · rw [e 2 (by decide) (by decide), e 3 (by decide) (by decide), e 4 (by decide) (by decide)]
    exact e1
  · rw [e 0 (by decide) (by decide)]
    exact e2
  · rw [e 1 (by decide) (by decide)]
    exact e3
  · rw [e 0 (by decide) (by decide)] at q2
    rw [e _ (by omega) (by omega)]
    exact ef q q1 q2
  · rw [e 1 (by decide) (by decide)] at q2
    rw [e _ (by omega) (by omega)]
    exact eg q q1 q2
theorem yS.at2 {h h' : xH} {s z o : Nat} {S f g : Int → Int} {r t : Int} (H : yS h s z o S f g r t) (F : ∀ i, s ≤ i → i < s + 5 → xat h' i = xat h i) : yS h' s z o S f g r t := by
  obtain ⟨hid, e1, e2, e3, e4, e5, ef, eg⟩ := H
  have n : ∀ i, i = s ∨ i = z ∨ i = z + 1 ∨ i = o ∨ i = o + 1 → xat h' i = xat h i := fun i h1 => by
    have := sin hid i h1
    exact F i this.1 this.2
  exact ⟨hid, (n _ (by simp)).trans e1, (n _ (by simp)).trans e2, (n _ (by simp)).trans e3, (n _ (by simp)).trans e4, (n _ (by simp)).trans e5, ef, eg⟩
def slc (T : Int → Int) (i : Nat) : Int → Int := fun q => T (47 * (i : Int) + q)
/-- the saved states: n of them, as T tells -/
def ySv (h : xH) (n : Int) (T : Int → Int) : Prop := ∃ (mc : Int) (e : Nat) (F : Nat → Value) (bs : Nat → Nat), xat h 34 = some (.inr (0, [yi mc, .ref e, yi n])) ∧ ((e = 26 ∧ n = 0) ∨ (63 ≤ e ∧ e < h.1 ∧ xat h e = some (yO 10 F))) ∧
  (∀ i : Nat, (i : Int) < n → F i = .ref (bs i) ∧ 63 ≤ bs i ∧ bs i + 5 ≤ h.1 ∧ (e < bs i ∨ bs i + 5 ≤ e) ∧ okS (slc T i) ∧ ∃ f g r t, yS h (bs i) (bs i + 1) (bs i + 3) (slc T i) f g r t ∧ ystp (slc T i) r t) ∧
  (∀ i j : Nat, (i : Int) < n → (j : Int) < n → i ≠ j → bs i + 5 ≤ bs j ∨ bs j + 5 ≤ bs i)
theorem ySv.mono {h h' : xH} {n : Int} {T : Int → Int} (H : ySv h n T) (hN : 63 ≤ h.1) (hl : h.1 ≤ h'.1) (F : ∀ i, i = 34 ∨ 63 ≤ i → i < h.1 → xat h' i = xat h i) : ySv h' n T := by
  obtain ⟨mc, e, G, bs, a1, a2, a3, a4⟩ := H
  refine ⟨mc, e, G, bs, (F 34 (Or.inl rfl) (by omega)).trans a1, ?_, fun i hi => ?_, a4⟩
  · rcases a2 with a2 | ⟨b1, b2, b3⟩
    · exact Or.inl a2
    · exact Or.inr ⟨b1, by omega, (F e (Or.inr b1) b2).trans b3⟩
  · obtain ⟨b1, b2, b3, b4, b5, f, g, r, t, b6, b7⟩ := a3 i hi
    exact ⟨b1, b2, by omega, b4, b5, f, g, r, t, b6.at2 (fun j j1 j2 => F j (Or.inr (by omega)) (by omega)), b7⟩
theorem ySv.fr {K : List Nat} {h h' : xH} {n : Int} {T : Int → Int} (H : ySv h n T) (hN : 63 ≤ h.1) (f : yfr K h h') (hK : ∀ i ∈ K, i < 63 ∧ i ≠ 34) : ySv h' n T :=
  H.mono hN (Nat.le_of_eq f.1.symm) (fun i i1 _ => f.2.2 i (fun q => by have := hK i q; omega))
/-- the same below 77, but for K, and above, if 77 is not in K; a few new cells -/
def yfz (K : List Nat) (h h' : xH) : Prop := h.1 ≤ h'.1 ∧ h'.1 ≤ h.1 + 6 ∧ h'.2.1 ≤ h.2.1 + 61 ∧ (∀ i, i < 63 → i ∉ K → xat h' i = xat h i) ∧ (63 ∉ K → ∀ i, 63 ≤ i → i < h.1 → i ∉ K → xat h' i = xat h i)
theorem yfz.at {K : List Nat} {h h' : xH} (a : yfz K h h') {i : Nat} {c : Option xC} (hi : i ∉ K) (hl : i < 63) (e : xat h i = c) : xat h' i = c := (a.2.2.2.1 i hl hi).trans e
theorem yfz.fr {K K2 : List Nat} {h h1 h2 : xH} (a : yfz K h h1) (b : yfr K2 h1 h2) : yfz (K ++ K2) h h2 := by
  obtain ⟨a1, a2, a3, a4, a5⟩ := a
  obtain ⟨b1, b2, b3⟩ := b
  refine ⟨by omega, by omega, by omega, fun i i1 i2 => ?_, fun i0 i i1 i2 i3 => ?_⟩
  · rw [List.mem_append, not_or] at i2
    exact (b3 i i2.2).trans (a4 i i1 i2.1)
  · rw [List.mem_append, not_or] at i3 i0
    exact (b3 i i3.2).trans (a5 i0.1 i i1 i2 i3.1)
theorem yfz.mono {K K2 : List Nat} {h h1 : xH} (a : yfz K h h1) (hK : ∀ i ∈ K, i ∈ K2) : yfz K2 h h1 := ⟨a.1, a.2.1, a.2.2.1, fun i i1 i2 => a.2.2.2.1 i i1 (fun q => i2 (hK i q)), fun i0 i i1 i2 i3 => a.2.2.2.2 (fun q => i0 (hK _ q)) i i1 i2 (fun q => i3 (hK i q))⟩
theorem yfz.of_fr {K : List Nat} {h h1 : xH} (a : yfr K h h1) : yfz K h h1 := ⟨Nat.le_of_eq a.1.symm, by rw [a.1]; omega, by rw [a.2.1]; omega, fun i _ i2 => a.2.2 i i2, fun _ i _ _ i3 => a.2.2 i i3⟩
theorem yfz.bare (h : xH) : yfz [] h (xbare h 6) := ⟨Nat.le_succ _, by show h.1 + 1 ≤ _; omega, by show h.2.1 + 6 ≤ _; omega, fun _ _ _ => rfl, fun _ _ _ _ _ => rfl⟩
theorem c_saveA {d : Nat} {hp : xH} {kp cl od : Int} (h28 : xat hp 28 = some (.inr (8, [.ref 29, .ref 34, .ref 35, yi kp, .ref 40, yi cl, .ref 41, .ref 43, yi od, .ref 56, .ref 58]))) {z o : Nat} {S f g : Int → Int} {r t : Int} (hS : yS hp 29 z o S f g r t) (hz : 0 ≤ S 0 ∧ S 0 ≤ 20 ∧ 0 ≤ S 1 ∧ S 1 ≤ 20) (hN : 63 ≤ hp.1) {mc : Int} (h34 : xat hp 34 = some (.inr (0, [yi mc, .ref 26, yi 0]))) (h26 : xat hp 26 = some (yO 0 (fun _ => .null))) (hd : 4 ≤ d) : Cv d 94 [.ref 28] hp (yR none (fun h => ∃ F2, xat h 34 = some (.inr (0, [yi (mc + 1), .ref (hp.1 + 5), yi 1])) ∧ xat h (hp.1 + 5) = some (yO 10 F2) ∧ F2 0 = .ref hp.1 ∧ (∃ f3 g3, yS h hp.1 (hp.1 + 1) (hp.1 + 3) S f3 g3 r t) ∧ xat h 28 = some (.inr (8, [.ref 29, .ref 34, .ref 35, yi kp, .ref 40, yi cl, .ref 41, .ref 43, yi 1, .ref 56, .ref 58])) ∧ yfa [28, 34] 6 61 hp h)) := by
  have hk : xtab 94 = (xc_94, 2, 0, []) := rfl
  obtain ⟨d, rfl⟩ : ∃ e, d = e + 1 := ⟨d - 1, by omega⟩
  obtain ⟨hid, hs_, hz_, ho_, hf_, hg_, ef, eg⟩ := hS
  show Ev (d + 1) 94 0 [(0, .ref 28)] [] hp _
  refine E_run hk 1 (j' := 1) (lv' := [(0, .ref 28)]) (st' := [.ref 28]) (hp' := hp) rfl ?_
  refine E_get (v := .ref 34) hk rfl h28 rfl ?_
  refine Y_callP hk rfl (as := [.ref 34]) (rest := []) (v := some (yi 0)) rfl rfl (Nat.le_of_ble_eq_true rfl) (rcv0 h34) (Nat.le_of_ble_eq_true rfl) (c_Jx4a65c_size_8abf5 h34) ?_
  refine E_run hk 1 (j' := 4) (lv' := [(0, .ref 28)]) (st' := [yi 6, yi 0]) (hp' := hp) rfl ?_
  refine Y_ic_lt (a := 0) (b := 6) (by omega) hk rfl (fun g1 => ?_) (fun g1 => ?_)
  ·
    refine Y_new hk rfl (fs := [.null, .null, yi 0, yi 0, yi 0, yi 0, yi 0]) rfl (fun H2 e3 f4 => ?_)
    have n_H2 := And.intro f4.1 f4.2.1
    refine E_run hk 1 (j' := 13) (lv' := [(0, .ref 28)]) (st' := [.ref hp.1, .ref hp.1]) (hp' := H2) rfl ?_
    refine Y_call hk rfl (as := [.ref hp.1]) (rest := [.ref hp.1]) (v := none) rfl rfl (Nat.le_of_ble_eq_true rfl) (rcv3 e3) (Nat.le_of_ble_eq_true rfl) (c_X5_init (s := hp.1) e3 (by omega) (hd := by omega)) (fun H5 r6 => ?_)
    obtain ⟨y_H5, f_H5⟩ := r6
    have n_H5 := And.intro f_H5.1 f_H5.2.1
    obtain ⟨i_H5, a1_H5, a2_H5, a3_H5, a4_H5, a5_H5, a6_H5, a7_H5⟩ := y_H5
    refine E_run hk 3 (j' := 17) (lv' := [(1, .ref hp.1), (0, .ref 28)]) (st' := [.ref 28, .ref hp.1]) (hp' := H5) rfl ?_
    refine E_get (v := .ref 29) hk rfl (f_H5.at (by simp only [List.mem_cons, List.not_mem_nil, or_false, not_or]; exact (sok i_H5 (by unfold apart; omega)).1) (by omega) (f4.at (sok i_H5 (by unfold apart; omega)).1 h28)) rfl ?_
    refine Y_call hk rfl (as := [.ref hp.1, .ref 29]) (rest := []) (v := none) rfl rfl (Nat.le_of_ble_eq_true rfl) (rcv0 a1_H5) (Nat.le_of_ble_eq_true rfl) (c_X5_copyFrom ⟨i_H5, a1_H5, a2_H5, a3_H5, a4_H5, a5_H5, a6_H5, a7_H5⟩ ⟨hid, (f_H5.at (by simp only [List.mem_cons, List.not_mem_nil, or_false, not_or]; exact (sdi hid i_H5 (Or.inl (by omega)) _ _ (Or.inl rfl) (Or.inl rfl))) (by omega) (f4.at (sdi hid i_H5 (Or.inl (by omega)) _ _ (Or.inl rfl) (Or.inl rfl)) hs_)), (f_H5.at (by simp only [List.mem_cons, List.not_mem_nil, or_false, not_or]; exact (sdi hid i_H5 (Or.inl (by omega)) _ _ (Or.inr (Or.inl rfl)) (Or.inl rfl))) (Nat.lt_of_lt_of_le (s77 hid).1 (show 63 ≤ H2.1 by omega)) (f4.at (sdi hid i_H5 (Or.inl (by omega)) _ _ (Or.inr (Or.inl rfl)) (Or.inl rfl)) hz_)), (f_H5.at (by simp only [List.mem_cons, List.not_mem_nil, or_false, not_or]; exact (sdi hid i_H5 (Or.inl (by omega)) _ _ (Or.inr (Or.inr (Or.inr (Or.inl rfl)))) (Or.inl rfl))) (Nat.lt_of_lt_of_le (s77 hid).2.2.1 (show 63 ≤ H2.1 by omega)) (f4.at (sdi hid i_H5 (Or.inl (by omega)) _ _ (Or.inr (Or.inr (Or.inr (Or.inl rfl)))) (Or.inl rfl)) ho_)), (f_H5.at (by simp only [List.mem_cons, List.not_mem_nil, or_false, not_or]; exact (sdi hid i_H5 (Or.inl (by omega)) _ _ (Or.inr (Or.inr (Or.inl rfl))) (Or.inl rfl))) (Nat.lt_of_lt_of_le (s77 hid).2.1 (show 63 ≤ H2.1 by omega)) (f4.at (sdi hid i_H5 (Or.inl (by omega)) _ _ (Or.inr (Or.inr (Or.inl rfl))) (Or.inl rfl)) hf_)), (f_H5.at (by simp only [List.mem_cons, List.not_mem_nil, or_false, not_or]; exact (sdi hid i_H5 (Or.inl (by omega)) _ _ (Or.inr (Or.inr (Or.inr (Or.inr rfl)))) (Or.inl rfl))) (Nat.lt_of_lt_of_le (s77 hid).2.2.2 (show 63 ≤ H2.1 by omega)) (f4.at (sdi hid i_H5 (Or.inl (by omega)) _ _ (Or.inr (Or.inr (Or.inr (Or.inr rfl)))) (Or.inl rfl)) hg_)), ef, eg⟩ (by omega) (by omega) (hd := by omega)) (fun H7 r8 => ?_)
    obtain ⟨F_H7, G_H7, y_H7, f_H7⟩ := r8
    have n_H7 := And.intro f_H7.1 f_H7.2.1
    obtain ⟨i_H7, a1_H7, a2_H7, a3_H7, a4_H7, a5_H7, a6_H7, a7_H7⟩ := y_H7
    refine E_run hk 1 (j' := 20) (lv' := [(1, .ref hp.1), (0, .ref 28)]) (st' := [.ref 28]) (hp' := H7) rfl ?_
    refine E_get (v := .ref 34) hk rfl (f_H7.at (by simp only [List.mem_cons, List.not_mem_nil, or_false, not_or]; exact ⟨(sok i_H7 (by unfold apart; omega)).1, (by omega), (by omega), (by omega), (by omega)⟩) (f_H5.at (by simp only [List.mem_cons, List.not_mem_nil, or_false, not_or]; exact (sok i_H7 (by unfold apart; omega)).1) (by omega) (f4.at (sok i_H7 (by unfold apart; omega)).1 h28))) rfl ?_
    refine E_run hk 1 (j' := 22) (lv' := [(1, .ref hp.1), (0, .ref 28)]) (st' := [.ref hp.1, .ref 34]) (hp' := H7) rfl ?_
    refine Y_call hk rfl (as := [.ref 34, .ref hp.1]) (rest := []) (v := some (yi 1)) rfl rfl (Nat.le_of_ble_eq_true rfl) (rcv0 (f_H7.at (by simp only [List.mem_cons, List.not_mem_nil, or_false, not_or]; exact ⟨(sok i_H7 (by unfold apart; omega)).1, (by omega), (by omega), (by omega), (by omega)⟩) (f_H5.at (by simp only [List.mem_cons, List.not_mem_nil, or_false, not_or]; exact (sok i_H7 (by unfold apart; omega)).1) (by omega) (f4.at (sok i_H7 (by unfold apart; omega)).1 h34)))) (Nat.le_of_ble_eq_true rfl) (c_Jx4a65c_addF (f_H7.at (by simp only [List.mem_cons, List.not_mem_nil, or_false, not_or]; exact ⟨(sok i_H7 (by unfold apart; omega)).1, (by omega), (by omega), (by omega), (by omega)⟩) (f_H5.at (by simp only [List.mem_cons, List.not_mem_nil, or_false, not_or]; exact (sok i_H7 (by unfold apart; omega)).1) (by omega) (f4.at (sok i_H7 (by unfold apart; omega)).1 h34))) (f_H7.at (by simp only [List.mem_cons, List.not_mem_nil, or_false, not_or]; exact ⟨(sok i_H7 (by unfold apart; omega)).1, (by omega), (by omega), (by omega), (by omega)⟩) (f_H5.at (by simp only [List.mem_cons, List.not_mem_nil, or_false, not_or]; exact (sok i_H7 (by unfold apart; omega)).1) (by omega) (f4.at (sok i_H7 (by unfold apart; omega)).1 h26))) (by omega) a1_H7 (by omega) (hd := by omega)) (fun H9 r10 => ?_)
    obtain ⟨F_H9, e1_H9, e2_H9, b_H9, f_H9⟩ := r10
    have n_H9 := And.intro f_H9.1 f_H9.2.1
    refine E_run hk 3 (j' := 26) (lv' := [(1, .ref hp.1), (0, .ref 28)]) (st' := [yi 1, .ref 28]) (hp' := H9) rfl ?_
    refine Y_put hk rfl (f_H9.at (by decide) (by omega) (f_H7.at (by simp only [List.mem_cons, List.not_mem_nil, or_false, not_or]; exact ⟨(sok i_H7 (by unfold apart; omega)).1, (by omega), (by omega), (by omega), (by omega)⟩) (f_H5.at (by simp only [List.mem_cons, List.not_mem_nil, or_false, not_or]; exact (sok i_H7 (by unfold apart; omega)).1) (by omega) (f4.at (sok i_H7 (by unfold apart; omega)).1 h28)))) (by decide) (Nat.le_of_ble_eq_true rfl) rfl (fs' := [.ref 29, .ref 34, .ref 35, yi kp, .ref 40, yi cl, .ref 41, .ref 43, yi 1, .ref 56, .ref 58]) rfl (fun H11 e12 f13 => ?_)
    have n_H11 := And.intro f13.1 f13.2.1
    exact E_ret hk rfl rfl (by
      have q34 := (f13.at (by decide) e1_H9)
      have qE := (f13.at (by simp only [List.mem_cons, List.not_mem_nil, or_false, not_or]; exact (by omega)) e2_H9)
      have w : H7.1 = hp.1 + 5 := by omega
      rw [w] at q34 qE
      exact ⟨rfl, _, q34, qE, b_H9, ⟨F_H7, G_H7, ⟨i_H7, (f13.at (by simp only [List.mem_cons, List.not_mem_nil, or_false, not_or]; exact (Ne.symm (sok i_H7 (by unfold apart; omega)).1)) (f_H9.at (by simp only [List.mem_cons, List.not_mem_nil, or_false, not_or]; exact (Ne.symm (sok i_H7 (by unfold apart; omega)).1)) (by omega) a1_H7)), (f13.at (by simp only [List.mem_cons, List.not_mem_nil, or_false, not_or]; exact (by omega)) (f_H9.at (by simp only [List.mem_cons, List.not_mem_nil, or_false, not_or]; exact (by omega)) (by omega) a2_H7)), (f13.at (by simp only [List.mem_cons, List.not_mem_nil, or_false, not_or]; exact (by omega)) (f_H9.at (by simp only [List.mem_cons, List.not_mem_nil, or_false, not_or]; exact (by omega)) (by omega) a3_H7)), (f13.at (by simp only [List.mem_cons, List.not_mem_nil, or_false, not_or]; exact (by omega)) (f_H9.at (by simp only [List.mem_cons, List.not_mem_nil, or_false, not_or]; exact (by omega)) (by omega) a4_H7)), (f13.at (by simp only [List.mem_cons, List.not_mem_nil, or_false, not_or]; exact (by omega)) (f_H9.at (by simp only [List.mem_cons, List.not_mem_nil, or_false, not_or]; exact (by omega)) (by omega) a5_H7)), a6_H7, a7_H7⟩⟩, e12, ((((((yfa.refl [28, 34] hp).w f4).tr f_H5 (fun i hi => by simp only [List.mem_cons, List.not_mem_nil, or_false] at hi ⊢; omega)).fr f_H7 (fun i hi => by simp only [List.mem_cons, List.not_mem_nil, or_false] at hi ⊢; omega)).tr f_H9 (fun i hi => by simp only [List.mem_cons, List.not_mem_nil, or_false] at hi ⊢; omega)).fr f13 (fun i hi => by simp only [List.mem_cons, List.not_mem_nil, or_false] at hi ⊢; omega))⟩)
  · exfalso; omega
theorem c_saveB {d : Nat} {hp : xH} {kp cl od : Int} (h28 : xat hp 28 = some (.inr (8, [.ref 29, .ref 34, .ref 35, yi kp, .ref 40, yi cl, .ref 41, .ref 43, yi od, .ref 56, .ref 58]))) {z o : Nat} {S f g : Int → Int} {r t : Int} (hS : yS hp 29 z o S f g r t) (hz : 0 ≤ S 0 ∧ S 0 ≤ 20 ∧ 0 ≤ S 1 ∧ S 1 ≤ 20) (hN : 63 ≤ hp.1) {mc n : Int} {e : Nat} {F : Nat → Value} (h34 : xat hp 34 = some (.inr (0, [yi mc, .ref e, yi n]))) (hF : xat hp e = some (yO 10 F)) (he : 63 ≤ e) (hn : 0 ≤ n ∧ n < 6) (he2 : e < hp.1) (hd : 4 ≤ d) : Cv d 94 [.ref 28] hp (yR none (fun h => ∃ F2, xat h 34 = some (.inr (0, [yi (mc + 1), .ref e, yi (n + 1)])) ∧ xat h e = some (yO 10 F2) ∧ (∀ q : Nat, (q : Int) < n → F2 q = F q) ∧ F2 n.toNat = .ref hp.1 ∧ (∃ f3 g3, yS h hp.1 (hp.1 + 1) (hp.1 + 3) S f3 g3 r t) ∧ xat h 28 = some (.inr (8, [.ref 29, .ref 34, .ref 35, yi kp, .ref 40, yi cl, .ref 41, .ref 43, yi 1, .ref 56, .ref 58])) ∧ yfa [28, 34, e] 5 51 hp h)) := by
  have hk : xtab 94 = (xc_94, 2, 0, []) := rfl
  obtain ⟨d, rfl⟩ : ∃ e, d = e + 1 := ⟨d - 1, by omega⟩
  obtain ⟨hid, hs_, hz_, ho_, hf_, hg_, ef, eg⟩ := hS
  show Ev (d + 1) 94 0 [(0, .ref 28)] [] hp _
  refine E_run hk 1 (j' := 1) (lv' := [(0, .ref 28)]) (st' := [.ref 28]) (hp' := hp) rfl ?_
  refine E_get (v := .ref 34) hk rfl h28 rfl ?_
  refine Y_callP hk rfl (as := [.ref 34]) (rest := []) (v := some (yi n)) rfl rfl (Nat.le_of_ble_eq_true rfl) (rcv0 h34) (Nat.le_of_ble_eq_true rfl) (c_Jx4a65c_size_8abf5 h34) ?_
  refine E_run hk 1 (j' := 4) (lv' := [(0, .ref 28)]) (st' := [yi 6, yi n]) (hp' := hp) rfl ?_
  refine Y_ic_lt (a := n) (b := 6) (by omega) hk rfl (fun g1 => ?_) (fun g1 => ?_)
  ·
    refine Y_new hk rfl (fs := [.null, .null, yi 0, yi 0, yi 0, yi 0, yi 0]) rfl (fun H2 e3 f4 => ?_)
    have n_H2 := And.intro f4.1 f4.2.1
    refine E_run hk 1 (j' := 13) (lv' := [(0, .ref 28)]) (st' := [.ref hp.1, .ref hp.1]) (hp' := H2) rfl ?_
    refine Y_call hk rfl (as := [.ref hp.1]) (rest := [.ref hp.1]) (v := none) rfl rfl (Nat.le_of_ble_eq_true rfl) (rcv3 e3) (Nat.le_of_ble_eq_true rfl) (c_X5_init (s := hp.1) e3 (by omega) (hd := by omega)) (fun H5 r6 => ?_)
    obtain ⟨y_H5, f_H5⟩ := r6
    have n_H5 := And.intro f_H5.1 f_H5.2.1
    obtain ⟨i_H5, a1_H5, a2_H5, a3_H5, a4_H5, a5_H5, a6_H5, a7_H5⟩ := y_H5
    refine E_run hk 3 (j' := 17) (lv' := [(1, .ref hp.1), (0, .ref 28)]) (st' := [.ref 28, .ref hp.1]) (hp' := H5) rfl ?_
    refine E_get (v := .ref 29) hk rfl (f_H5.at (by simp only [List.mem_cons, List.not_mem_nil, or_false, not_or]; exact (sok i_H5 (by unfold apart; omega)).1) (by omega) (f4.at (sok i_H5 (by unfold apart; omega)).1 h28)) rfl ?_
    refine Y_call hk rfl (as := [.ref hp.1, .ref 29]) (rest := []) (v := none) rfl rfl (Nat.le_of_ble_eq_true rfl) (rcv0 a1_H5) (Nat.le_of_ble_eq_true rfl) (c_X5_copyFrom ⟨i_H5, a1_H5, a2_H5, a3_H5, a4_H5, a5_H5, a6_H5, a7_H5⟩ ⟨hid, (f_H5.at (by simp only [List.mem_cons, List.not_mem_nil, or_false, not_or]; exact (sdi hid i_H5 (Or.inl (by omega)) _ _ (Or.inl rfl) (Or.inl rfl))) (by omega) (f4.at (sdi hid i_H5 (Or.inl (by omega)) _ _ (Or.inl rfl) (Or.inl rfl)) hs_)), (f_H5.at (by simp only [List.mem_cons, List.not_mem_nil, or_false, not_or]; exact (sdi hid i_H5 (Or.inl (by omega)) _ _ (Or.inr (Or.inl rfl)) (Or.inl rfl))) (Nat.lt_of_lt_of_le (s77 hid).1 (show 63 ≤ H2.1 by omega)) (f4.at (sdi hid i_H5 (Or.inl (by omega)) _ _ (Or.inr (Or.inl rfl)) (Or.inl rfl)) hz_)), (f_H5.at (by simp only [List.mem_cons, List.not_mem_nil, or_false, not_or]; exact (sdi hid i_H5 (Or.inl (by omega)) _ _ (Or.inr (Or.inr (Or.inr (Or.inl rfl)))) (Or.inl rfl))) (Nat.lt_of_lt_of_le (s77 hid).2.2.1 (show 63 ≤ H2.1 by omega)) (f4.at (sdi hid i_H5 (Or.inl (by omega)) _ _ (Or.inr (Or.inr (Or.inr (Or.inl rfl)))) (Or.inl rfl)) ho_)), (f_H5.at (by simp only [List.mem_cons, List.not_mem_nil, or_false, not_or]; exact (sdi hid i_H5 (Or.inl (by omega)) _ _ (Or.inr (Or.inr (Or.inl rfl))) (Or.inl rfl))) (Nat.lt_of_lt_of_le (s77 hid).2.1 (show 63 ≤ H2.1 by omega)) (f4.at (sdi hid i_H5 (Or.inl (by omega)) _ _ (Or.inr (Or.inr (Or.inl rfl))) (Or.inl rfl)) hf_)), (f_H5.at (by simp only [List.mem_cons, List.not_mem_nil, or_false, not_or]; exact (sdi hid i_H5 (Or.inl (by omega)) _ _ (Or.inr (Or.inr (Or.inr (Or.inr rfl)))) (Or.inl rfl))) (Nat.lt_of_lt_of_le (s77 hid).2.2.2 (show 63 ≤ H2.1 by omega)) (f4.at (sdi hid i_H5 (Or.inl (by omega)) _ _ (Or.inr (Or.inr (Or.inr (Or.inr rfl)))) (Or.inl rfl)) hg_)), ef, eg⟩ (by omega) (by omega) (hd := by omega)) (fun H7 r8 => ?_)
    obtain ⟨F_H7, G_H7, y_H7, f_H7⟩ := r8
    have n_H7 := And.intro f_H7.1 f_H7.2.1
    obtain ⟨i_H7, a1_H7, a2_H7, a3_H7, a4_H7, a5_H7, a6_H7, a7_H7⟩ := y_H7
    refine E_run hk 1 (j' := 20) (lv' := [(1, .ref hp.1), (0, .ref 28)]) (st' := [.ref 28]) (hp' := H7) rfl ?_
    refine E_get (v := .ref 34) hk rfl (f_H7.at (by simp only [List.mem_cons, List.not_mem_nil, or_false, not_or]; exact ⟨(sok i_H7 (by unfold apart; omega)).1, (by omega), (by omega), (by omega), (by omega)⟩) (f_H5.at (by simp only [List.mem_cons, List.not_mem_nil, or_false, not_or]; exact (sok i_H7 (by unfold apart; omega)).1) (by omega) (f4.at (sok i_H7 (by unfold apart; omega)).1 h28))) rfl ?_
    refine E_run hk 1 (j' := 22) (lv' := [(1, .ref hp.1), (0, .ref 28)]) (st' := [.ref hp.1, .ref 34]) (hp' := H7) rfl ?_
    refine Y_call hk rfl (as := [.ref 34, .ref hp.1]) (rest := []) (v := some (yi 1)) rfl rfl (Nat.le_of_ble_eq_true rfl) (rcv0 (f_H7.at (by simp only [List.mem_cons, List.not_mem_nil, or_false, not_or]; exact ⟨(sok i_H7 (by unfold apart; omega)).1, (by omega), (by omega), (by omega), (by omega)⟩) (f_H5.at (by simp only [List.mem_cons, List.not_mem_nil, or_false, not_or]; exact (sok i_H7 (by unfold apart; omega)).1) (by omega) (f4.at (sok i_H7 (by unfold apart; omega)).1 h34)))) (Nat.le_of_ble_eq_true rfl) (c_Jx4a65c_add_9ea2d (f_H7.at (by simp only [List.mem_cons, List.not_mem_nil, or_false, not_or]; exact ⟨(sok i_H7 (by unfold apart; omega)).1, (by omega), (by omega), (by omega), (by omega)⟩) (f_H5.at (by simp only [List.mem_cons, List.not_mem_nil, or_false, not_or]; exact (sok i_H7 (by unfold apart; omega)).1) (by omega) (f4.at (sok i_H7 (by unfold apart; omega)).1 h34))) (f_H7.at (by simp only [List.mem_cons, List.not_mem_nil, or_false, not_or]; exact ⟨(sok i_H7 (by unfold apart; omega)).1, (by omega), (by omega), (by omega), (by omega)⟩) (f_H5.at (by simp only [List.mem_cons, List.not_mem_nil, or_false, not_or]; exact (sok i_H7 (by unfold apart; omega)).1) (by omega) (f4.at (sok i_H7 (by unfold apart; omega)).1 hF))) he (by omega) a1_H7 (by omega) (hd := by omega)) (fun H9 r10 => ?_)
    obtain ⟨F_H9, e1_H9, e2_H9, a_H9, b_H9, f_H9⟩ := r10
    have n_H9 := And.intro f_H9.1 f_H9.2.1
    refine E_run hk 3 (j' := 26) (lv' := [(1, .ref hp.1), (0, .ref 28)]) (st' := [yi 1, .ref 28]) (hp' := H9) rfl ?_
    refine Y_put hk rfl (f_H9.at (by simp only [List.mem_cons, List.not_mem_nil, or_false, not_or]; exact ⟨(by decide), (by omega)⟩) (f_H7.at (by simp only [List.mem_cons, List.not_mem_nil, or_false, not_or]; exact ⟨(sok i_H7 (by unfold apart; omega)).1, (by omega), (by omega), (by omega), (by omega)⟩) (f_H5.at (by simp only [List.mem_cons, List.not_mem_nil, or_false, not_or]; exact (sok i_H7 (by unfold apart; omega)).1) (by omega) (f4.at (sok i_H7 (by unfold apart; omega)).1 h28)))) (by decide) (Nat.le_of_ble_eq_true rfl) rfl (fs' := [.ref 29, .ref 34, .ref 35, yi kp, .ref 40, yi cl, .ref 41, .ref 43, yi 1, .ref 56, .ref 58]) rfl (fun H11 e12 f13 => ?_)
    have n_H11 := And.intro f13.1 f13.2.1
    exact E_ret hk rfl rfl ⟨rfl, _, (f13.at (by decide) e1_H9), (f13.at (by simp only [List.mem_cons, List.not_mem_nil, or_false, not_or]; exact (by omega)) e2_H9), a_H9, b_H9, ⟨F_H7, G_H7, ⟨i_H7, (f13.at (by simp only [List.mem_cons, List.not_mem_nil, or_false, not_or]; exact (Ne.symm (sok i_H7 (by unfold apart; omega)).1)) (f_H9.at (by simp only [List.mem_cons, List.not_mem_nil, or_false, not_or]; exact ⟨(Ne.symm (sok i_H7 (by unfold apart; omega)).1), (Ne.symm (sok i_H7 (by unfold apart; omega)).1)⟩) a1_H7)), (f13.at (by simp only [List.mem_cons, List.not_mem_nil, or_false, not_or]; exact (by omega)) (f_H9.at (by simp only [List.mem_cons, List.not_mem_nil, or_false, not_or]; exact ⟨(by omega), (by omega)⟩) a2_H7)), (f13.at (by simp only [List.mem_cons, List.not_mem_nil, or_false, not_or]; exact (by omega)) (f_H9.at (by simp only [List.mem_cons, List.not_mem_nil, or_false, not_or]; exact ⟨(by omega), (by omega)⟩) a3_H7)), (f13.at (by simp only [List.mem_cons, List.not_mem_nil, or_false, not_or]; exact (by omega)) (f_H9.at (by simp only [List.mem_cons, List.not_mem_nil, or_false, not_or]; exact ⟨(by omega), (by omega)⟩) a4_H7)), (f13.at (by simp only [List.mem_cons, List.not_mem_nil, or_false, not_or]; exact (by omega)) (f_H9.at (by simp only [List.mem_cons, List.not_mem_nil, or_false, not_or]; exact ⟨(by omega), (by omega)⟩) a5_H7)), a6_H7, a7_H7⟩⟩, e12, ((((((yfa.refl [28, 34, e] hp).w f4).tr f_H5 (fun i hi => by simp only [List.mem_cons, List.not_mem_nil, or_false] at hi ⊢; omega)).fr f_H7 (fun i hi => by simp only [List.mem_cons, List.not_mem_nil, or_false] at hi ⊢; omega)).fr f_H9 (fun i hi => by simp only [List.mem_cons, List.not_mem_nil, or_false] at hi ⊢; omega)).fr f13 (fun i hi => by simp only [List.mem_cons, List.not_mem_nil, or_false] at hi ⊢; omega))⟩
  · exfalso; omega
theorem c_saveC {d : Nat} {hp : xH} {kp cl od : Int} (h28 : xat hp 28 = some (.inr (8, [.ref 29, .ref 34, .ref 35, yi kp, .ref 40, yi cl, .ref 41, .ref 43, yi od, .ref 56, .ref 58]))) {z o : Nat} {S f g : Int → Int} {r t : Int} (hS : yS hp 29 z o S f g r t) (hz : 0 ≤ S 0 ∧ S 0 ≤ 20 ∧ 0 ≤ S 1 ∧ S 1 ≤ 20) (hN : 63 ≤ hp.1) {mc n : Int} {e : Nat} {F : Nat → Value} (h34 : xat hp 34 = some (.inr (0, [yi mc, .ref e, yi n]))) (hF : xat hp e = some (yO 10 F)) (he : 63 ≤ e) (hn : n = 6) (hSX : ∀ q : Nat, (q : Int) < n → ∃ b fs, F q = .ref b ∧ xat hp b = some (.inr (6, fs)) ∧ b ≠ 34 ∧ b ≠ e) {b : Nat} {S0 f0 g0 : Int → Int} {r0 t0 : Int} (hSb : yS hp b (b + 1) (b + 3) S0 f0 g0 r0 t0) (hb : F 0 = .ref b) (hb7 : 63 ≤ b) (heb : e < b ∨ b + 5 ≤ e) (hd : 4 ≤ d) : Cv d 94 [.ref 28] hp (yR none (fun h => ∃ F2, xat h 34 = some (.inr (0, [yi (mc + 1 + 1), .ref e, yi (n - 1 + 1)])) ∧ xat h e = some (yO 10 F2) ∧ (∀ q : Nat, q < 5 → F2 q = F (q + 1)) ∧ F2 (n - 1).toNat = .ref b ∧ (∃ f3 g3, yS h b (b + 1) (b + 3) S f3 g3 r t) ∧ xat h 28 = some (.inr (8, [.ref 29, .ref 34, .ref 35, yi kp, .ref 40, yi cl, .ref 41, .ref 43, yi 1, .ref 56, .ref 58])) ∧ yfr [28, 34, e, b, (b + 1), ((b + 1) + 1), (b + 3), ((b + 3) + 1)] hp h)) := by
  have hk : xtab 94 = (xc_94, 2, 0, []) := rfl
  obtain ⟨d, rfl⟩ : ∃ e, d = e + 1 := ⟨d - 1, by omega⟩
  obtain ⟨hid, hs_, hz_, ho_, hf_, hg_, ef, eg⟩ := hS
  obtain ⟨hidb, hs_b, hz_b, ho_b, hf_b, hg_b, efb, egb⟩ := hSb
  show Ev (d + 1) 94 0 [(0, .ref 28)] [] hp _
  refine E_run hk 1 (j' := 1) (lv' := [(0, .ref 28)]) (st' := [.ref 28]) (hp' := hp) rfl ?_
  refine E_get (v := .ref 34) hk rfl h28 rfl ?_
  refine Y_callP hk rfl (as := [.ref 34]) (rest := []) (v := some (yi n)) rfl rfl (Nat.le_of_ble_eq_true rfl) (rcv0 h34) (Nat.le_of_ble_eq_true rfl) (c_Jx4a65c_size_8abf5 h34) ?_
  refine E_run hk 1 (j' := 4) (lv' := [(0, .ref 28)]) (st' := [yi 6, yi n]) (hp' := hp) rfl ?_
  refine Y_ic_lt (a := n) (b := 6) (by omega) hk rfl (fun g1 => ?_) (fun g1 => ?_)
  · exfalso; omega
  ·
    refine E_run hk 1 (j' := 6) (lv' := [(0, .ref 28)]) (st' := [.ref 28]) (hp' := hp) rfl ?_
    refine E_get (v := .ref 34) hk rfl h28 rfl ?_
    refine E_run hk 1 (j' := 8) (lv' := [(0, .ref 28)]) (st' := [yi 0, .ref 34]) (hp' := hp) rfl ?_
    refine Y_call hk rfl (as := [.ref 34, yi 0]) (rest := []) (v := some (.ref b)) rfl rfl (Nat.le_of_ble_eq_true rfl) (rcv0 h34) (Nat.le_of_ble_eq_true rfl) (c_Jx4a65c_remove_915e3 (i := 0) h34 hF he (by omega) hb hSX (hd := by omega)) (fun H2 r3 => ?_)
    obtain ⟨F_H2, e1_H2, e2_H2, a_H2, b_H2, f_H2⟩ := r3
    refine Y_cast hk rfl (f_H2.at (by simp only [List.mem_cons, List.not_mem_nil, or_false, not_or]; exact ⟨(Ne.symm (sok hidb (by unfold apart; omega)).1), (Ne.symm (sok hidb (by unfold apart; omega)).1)⟩) hs_b) ?_
    refine E_run hk 4 (j' := 17) (lv' := [(1, .ref b), (0, .ref 28)]) (st' := [.ref 28, .ref b]) (hp' := H2) rfl ?_
    refine E_get (v := .ref 29) hk rfl (f_H2.at (by simp only [List.mem_cons, List.not_mem_nil, or_false, not_or]; exact ⟨(by decide), (by omega)⟩) h28) rfl ?_
    refine Y_call hk rfl (as := [.ref b, .ref 29]) (rest := []) (v := none) rfl rfl (Nat.le_of_ble_eq_true rfl) (rcv0 (f_H2.at (by simp only [List.mem_cons, List.not_mem_nil, or_false, not_or]; exact ⟨(Ne.symm (sok hidb (by unfold apart; omega)).1), (Ne.symm (sok hidb (by unfold apart; omega)).1)⟩) hs_b)) (Nat.le_of_ble_eq_true rfl) (c_X5_copyFrom ⟨hidb, (f_H2.at (by simp only [List.mem_cons, List.not_mem_nil, or_false, not_or]; exact ⟨(Ne.symm (sok hidb (by unfold apart; omega)).1), (Ne.symm (sok hidb (by unfold apart; omega)).1)⟩) hs_b), (f_H2.at (by simp only [List.mem_cons, List.not_mem_nil, or_false, not_or]; exact ⟨(Ne.symm (sok hidb (by unfold apart; omega)).2.1), (Ne.symm (sok hidb (by unfold apart; omega)).2.1)⟩) hz_b), (f_H2.at (by simp only [List.mem_cons, List.not_mem_nil, or_false, not_or]; exact ⟨(Ne.symm (sok hidb (by unfold apart; omega)).2.2.2.1), (Ne.symm (sok hidb (by unfold apart; omega)).2.2.2.1)⟩) ho_b), (f_H2.at (by simp only [List.mem_cons, List.not_mem_nil, or_false, not_or]; exact ⟨(Ne.symm (sok hidb (by unfold apart; omega)).2.2.1), (Ne.symm (sok hidb (by unfold apart; omega)).2.2.1)⟩) hf_b), (f_H2.at (by simp only [List.mem_cons, List.not_mem_nil, or_false, not_or]; exact ⟨(Ne.symm (sok hidb (by unfold apart; omega)).2.2.2.2), (Ne.symm (sok hidb (by unfold apart; omega)).2.2.2.2)⟩) hg_b), efb, egb⟩ ⟨hid, (f_H2.at (by simp only [List.mem_cons, List.not_mem_nil, or_false, not_or]; exact ⟨(by decide), (Ne.symm (sok hid (by unfold apart; omega)).1)⟩) hs_), (f_H2.at (by simp only [List.mem_cons, List.not_mem_nil, or_false, not_or]; exact ⟨(Ne.symm (sok hid (by unfold apart; omega)).2.1), (Ne.symm (sok hid (by unfold apart; omega)).2.1)⟩) hz_), (f_H2.at (by simp only [List.mem_cons, List.not_mem_nil, or_false, not_or]; exact ⟨(Ne.symm (sok hid (by unfold apart; omega)).2.2.2.1), (Ne.symm (sok hid (by unfold apart; omega)).2.2.2.1)⟩) ho_), (f_H2.at (by simp only [List.mem_cons, List.not_mem_nil, or_false, not_or]; exact ⟨(Ne.symm (sok hid (by unfold apart; omega)).2.2.1), (Ne.symm (sok hid (by unfold apart; omega)).2.2.1)⟩) hf_), (f_H2.at (by simp only [List.mem_cons, List.not_mem_nil, or_false, not_or]; exact ⟨(Ne.symm (sok hid (by unfold apart; omega)).2.2.2.2), (Ne.symm (sok hid (by unfold apart; omega)).2.2.2.2)⟩) hg_), ef, eg⟩ (by omega) (by omega) (hd := by omega)) (fun H4 r5 => ?_)
    obtain ⟨F_H4, G_H4, y_H4, f_H4⟩ := r5
    obtain ⟨i_H4, a1_H4, a2_H4, a3_H4, a4_H4, a5_H4, a6_H4, a7_H4⟩ := y_H4
    refine E_run hk 1 (j' := 20) (lv' := [(1, .ref b), (0, .ref 28)]) (st' := [.ref 28]) (hp' := H4) rfl ?_
    refine E_get (v := .ref 34) hk rfl (f_H4.at (by simp only [List.mem_cons, List.not_mem_nil, or_false, not_or]; exact ⟨(sok i_H4 (by unfold apart; omega)).1, (by omega), (by omega), (by omega), (by omega)⟩) (f_H2.at (by simp only [List.mem_cons, List.not_mem_nil, or_false, not_or]; exact ⟨(by decide), (by omega)⟩) h28)) rfl ?_
    refine E_run hk 1 (j' := 22) (lv' := [(1, .ref b), (0, .ref 28)]) (st' := [.ref b, .ref 34]) (hp' := H4) rfl ?_
    refine Y_call hk rfl (as := [.ref 34, .ref b]) (rest := []) (v := some (yi 1)) rfl rfl (Nat.le_of_ble_eq_true rfl) (rcv0 (f_H4.at (by simp only [List.mem_cons, List.not_mem_nil, or_false, not_or]; exact ⟨(sok i_H4 (by unfold apart; omega)).1, (by omega), (by omega), (by omega), (by omega)⟩) e1_H2)) (Nat.le_of_ble_eq_true rfl) (c_Jx4a65c_add_9ea2d (f_H4.at (by simp only [List.mem_cons, List.not_mem_nil, or_false, not_or]; exact ⟨(sok i_H4 (by unfold apart; omega)).1, (by omega), (by omega), (by omega), (by omega)⟩) e1_H2) (f_H4.at (by simp only [List.mem_cons, List.not_mem_nil, or_false, not_or]; exact ⟨(sok i_H4 (by unfold apart; omega)).1, (by omega), (by omega), (by omega), (by omega)⟩) e2_H2) he (by omega) a1_H4 (by omega) (hd := by omega)) (fun H6 r7 => ?_)
    obtain ⟨F_H6, e1_H6, e2_H6, a_H6, b_H6, f_H6⟩ := r7
    refine E_run hk 3 (j' := 26) (lv' := [(1, .ref b), (0, .ref 28)]) (st' := [yi 1, .ref 28]) (hp' := H6) rfl ?_
    refine Y_put hk rfl (f_H6.at (by simp only [List.mem_cons, List.not_mem_nil, or_false, not_or]; exact ⟨(by decide), (by omega)⟩) (f_H4.at (by simp only [List.mem_cons, List.not_mem_nil, or_false, not_or]; exact ⟨(sok i_H4 (by unfold apart; omega)).1, (by omega), (by omega), (by omega), (by omega)⟩) (f_H2.at (by simp only [List.mem_cons, List.not_mem_nil, or_false, not_or]; exact ⟨(by decide), (by omega)⟩) h28))) (by decide) (Nat.le_of_ble_eq_true rfl) rfl (fs' := [.ref 29, .ref 34, .ref 35, yi kp, .ref 40, yi cl, .ref 41, .ref 43, yi 1, .ref 56, .ref 58]) rfl (fun H8 e9 f10 => ?_)
    exact E_ret hk rfl rfl ⟨rfl, _, (f10.at (by decide) e1_H6), (f10.at (by simp only [List.mem_cons, List.not_mem_nil, or_false, not_or]; exact (by omega)) e2_H6), fun q q1 => (a_H6 q (by omega)).trans (b_H2 q (by omega) (by omega)), b_H6, ⟨F_H4, G_H4, ⟨i_H4, (f10.at (by simp only [List.mem_cons, List.not_mem_nil, or_false, not_or]; exact (Ne.symm (sok i_H4 (by unfold apart; omega)).1)) (f_H6.at (by simp only [List.mem_cons, List.not_mem_nil, or_false, not_or]; exact ⟨(Ne.symm (sok i_H4 (by unfold apart; omega)).1), (Ne.symm (sok i_H4 (by unfold apart; omega)).1)⟩) a1_H4)), (f10.at (by simp only [List.mem_cons, List.not_mem_nil, or_false, not_or]; exact (by omega)) (f_H6.at (by simp only [List.mem_cons, List.not_mem_nil, or_false, not_or]; exact ⟨(by omega), (by omega)⟩) a2_H4)), (f10.at (by simp only [List.mem_cons, List.not_mem_nil, or_false, not_or]; exact (by omega)) (f_H6.at (by simp only [List.mem_cons, List.not_mem_nil, or_false, not_or]; exact ⟨(by omega), (by omega)⟩) a3_H4)), (f10.at (by simp only [List.mem_cons, List.not_mem_nil, or_false, not_or]; exact (by omega)) (f_H6.at (by simp only [List.mem_cons, List.not_mem_nil, or_false, not_or]; exact ⟨(by omega), (by omega)⟩) a4_H4)), (f10.at (by simp only [List.mem_cons, List.not_mem_nil, or_false, not_or]; exact (by omega)) (f_H6.at (by simp only [List.mem_cons, List.not_mem_nil, or_false, not_or]; exact ⟨(by omega), (by omega)⟩) a5_H4)), a6_H4, a7_H4⟩⟩, e9, (yfr.tr (yfr.tr (yfr.tr (f_H2.mono (by simp)) f_H4 (fun _ h => h) (by simp)) f_H6 (fun _ h => h) (by simp)) f10 (fun _ h => h) (by simp))⟩
