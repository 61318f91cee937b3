/-! The class: a new tune, a new state; the list of saved states. -/
theorem c_X6_init {d : Nat} {hp : xH} {a : Nat} (ha : xat hp a = some (.inr (7, [.null, yi 0]))) (h28 : 28 ≤ a ∧ a < hp.1) : Cv d 39 [.ref a] hp (yR none (fun h => xat h a = some (.inr (7, [.ref hp.1, yi 0])) ∧ xat h hp.1 = some (yI 20 (fun _ => 0)) ∧ yfa [a] 1 20 hp h)) := by
  have hk : xtab 39 = (xc_39, 1, 0, []) := rfl
  show Ev d 39 0 [(0, .ref a)] [] hp _
  refine E_run hk 1 (j' := 1) (lv' := [(0, .ref a)]) (st' := [.ref a]) (hp' := hp) rfl ?_
  refine Y_obj hk rfl ha (Nat.le_of_ble_eq_true rfl) ?_
  refine E_run hk 2 (j' := 4) (lv' := [(0, .ref a)]) (st' := [yi 20, .ref a]) (hp' := hp) rfl ?_
  refine Y_newI (a := 20) (by omega) hk rfl (fun H1 e2 f3 => ?_)
  have n_H1 := And.intro f3.1 f3.2.1
  refine Y_put hk rfl (f3.at (by omega) ha) (show xNC ≤ a from (by omega : 28 ≤ a)) (Nat.le_of_ble_eq_true rfl) rfl (fs' := [.ref hp.1, yi 0]) rfl (fun H4 e5 f6 => ?_)
  have n_H4 := And.intro f6.1 f6.2.1
  refine E_run hk 2 (j' := 8) (lv' := [(0, .ref a)]) (st' := [yi 0, .ref a]) (hp' := H4) rfl ?_
  refine Y_put hk rfl e5 (show xNC ≤ a from (by omega : 28 ≤ a)) (Nat.le_of_ble_eq_true rfl) rfl (fs' := [.ref hp.1, yi 0]) rfl (fun H7 e8 f9 => ?_)
  have n_H7 := And.intro f9.1 f9.2.1
  exact E_ret hk rfl rfl ⟨rfl, e8, (f9.at (by simp only [List.mem_cons, List.not_mem_nil, or_false, not_or]; exact (Ne.symm (by omega))) (f6.at (by simp only [List.mem_cons, List.not_mem_nil, or_false, not_or]; exact (Ne.symm (by omega))) e2)), ((((yfa.refl [a] hp).w f3).fr f6 (fun i hi => by simp only [List.mem_cons, List.not_mem_nil, or_false] at hi ⊢; omega)).fr f9 (fun i hi => by simp only [List.mem_cons, List.not_mem_nil, or_false] at hi ⊢; omega))⟩
def sini : Int → Int := fun q => if q = 2 then 20 else if q = 3 then 1 else 0
theorem c_X5_init {d : Nat} {hp : xH} {s : Nat} (ha : xat hp s = some (.inr (6, [.null, .null, yi 0, yi 0, yi 0, yi 0, yi 0]))) (h28 : 28 ≤ s ∧ hp.1 = s + 1) (hd : 1 ≤ d) : Cv d 29 [.ref s] hp (yR none (fun h => yS h s (s + 1) (s + 3) sini (fun _ => 0) (fun _ => 0) 0 0 ∧ yfa [s] 4 44 hp h)) := by
  have hk : xtab 29 = (xc_29, 1, 0, []) := rfl
  obtain ⟨d, rfl⟩ : ∃ e, d = e + 1 := ⟨d - 1, by omega⟩
  show Ev (d + 1) 29 0 [(0, .ref s)] [] hp _
  refine E_run hk 1 (j' := 1) (lv' := [(0, .ref s)]) (st' := [.ref s]) (hp' := hp) rfl ?_
  refine Y_obj hk rfl ha (Nat.le_of_ble_eq_true rfl) ?_
  refine E_run hk 1 (j' := 3) (lv' := [(0, .ref s)]) (st' := [.ref s]) (hp' := hp) rfl ?_
  refine Y_new hk rfl (fs := [.null, yi 0]) rfl (fun H1 e2 f3 => ?_)
  have n_H1 := And.intro f3.1 f3.2.1
  refine E_run hk 1 (j' := 5) (lv' := [(0, .ref s)]) (st' := [.ref hp.1, .ref hp.1, .ref s]) (hp' := H1) rfl ?_
  refine Y_call hk rfl (as := [.ref hp.1]) (rest := [.ref hp.1, .ref s]) (v := none) rfl rfl (Nat.le_of_ble_eq_true rfl) (rcv3 e2) (Nat.le_of_ble_eq_true rfl) (c_X6_init (a := hp.1) e2 (by omega)) (fun H4 r5 => ?_)
  obtain ⟨e1_H4, e2_H4, f_H4⟩ := r5
  have n_H4 := And.intro f_H4.1 f_H4.2.1
  refine Y_put hk rfl (f_H4.at (by simp only [List.mem_cons, List.not_mem_nil, or_false, not_or]; exact (by omega)) (by omega) (f3.at (by omega) ha)) (show xNC ≤ s from (by omega : 28 ≤ s)) (Nat.le_of_ble_eq_true rfl) rfl (fs' := [.ref hp.1, .null, yi 0, yi 0, yi 0, yi 0, yi 0]) rfl (fun H6 e7 f8 => ?_)
  have n_H6 := And.intro f8.1 f8.2.1
  refine E_run hk 1 (j' := 8) (lv' := [(0, .ref s)]) (st' := [.ref s]) (hp' := H6) rfl ?_
  refine Y_new hk rfl (fs := [.null, yi 0]) rfl (fun H9 e10 f11 => ?_)
  have n_H9 := And.intro f11.1 f11.2.1
  refine E_run hk 1 (j' := 10) (lv' := [(0, .ref s)]) (st' := [.ref H6.1, .ref H6.1, .ref s]) (hp' := H9) rfl ?_
  refine Y_call hk rfl (as := [.ref H6.1]) (rest := [.ref H6.1, .ref s]) (v := none) rfl rfl (Nat.le_of_ble_eq_true rfl) (rcv3 e10) (Nat.le_of_ble_eq_true rfl) (c_X6_init (a := H6.1) e10 (by omega)) (fun H12 r13 => ?_)
  obtain ⟨e1_H12, e2_H12, f_H12⟩ := r13
  have n_H12 := And.intro f_H12.1 f_H12.2.1
  refine Y_put hk rfl (f_H12.at (by simp only [List.mem_cons, List.not_mem_nil, or_false, not_or]; exact (by omega)) (by omega) (f11.at (by omega) e7)) (show xNC ≤ s from (by omega : 28 ≤ s)) (Nat.le_of_ble_eq_true rfl) rfl (fs' := [.ref hp.1, .ref H6.1, yi 0, yi 0, yi 0, yi 0, yi 0]) rfl (fun H14 e15 f16 => ?_)
  have n_H14 := And.intro f16.1 f16.2.1
  refine E_run hk 2 (j' := 14) (lv' := [(0, .ref s)]) (st' := [yi 20, .ref s]) (hp' := H14) rfl ?_
  refine Y_put hk rfl e15 (show xNC ≤ s from (by omega : 28 ≤ s)) (Nat.le_of_ble_eq_true rfl) rfl (fs' := [.ref hp.1, .ref H6.1, yi 20, yi 0, yi 0, yi 0, yi 0]) rfl (fun H17 e18 f19 => ?_)
  have n_H17 := And.intro f19.1 f19.2.1
  refine E_run hk 2 (j' := 17) (lv' := [(0, .ref s)]) (st' := [yi 1, .ref s]) (hp' := H17) rfl ?_
  refine Y_put hk rfl e18 (show xNC ≤ s from (by omega : 28 ≤ s)) (Nat.le_of_ble_eq_true rfl) rfl (fs' := [.ref hp.1, .ref H6.1, yi 20, yi 1, yi 0, yi 0, yi 0]) rfl (fun H20 e21 f22 => ?_)
  have n_H20 := And.intro f22.1 f22.2.1
  refine E_run hk 2 (j' := 20) (lv' := [(0, .ref s)]) (st' := [yi 0, .ref s]) (hp' := H20) rfl ?_
  refine Y_put hk rfl e21 (show xNC ≤ s from (by omega : 28 ≤ s)) (Nat.le_of_ble_eq_true rfl) rfl (fs' := [.ref hp.1, .ref H6.1, yi 20, yi 1, yi 0, yi 0, yi 0]) rfl (fun H23 e24 f25 => ?_)
  have n_H23 := And.intro f25.1 f25.2.1
  refine E_run hk 2 (j' := 23) (lv' := [(0, .ref s)]) (st' := [yi 0, .ref s]) (hp' := H23) rfl ?_
  refine Y_put hk rfl e24 (show xNC ≤ s from (by omega : 28 ≤ s)) (Nat.le_of_ble_eq_true rfl) rfl (fs' := [.ref hp.1, .ref H6.1, yi 20, yi 1, yi 0, yi 0, yi 0]) rfl (fun H26 e27 f28 => ?_)
  have n_H26 := And.intro f28.1 f28.2.1
  refine E_run hk 2 (j' := 26) (lv' := [(0, .ref s)]) (st' := [yi 0, .ref s]) (hp' := H26) rfl ?_
  refine Y_put hk rfl e27 (show xNC ≤ s from (by omega : 28 ≤ s)) (Nat.le_of_ble_eq_true rfl) rfl (fs' := [.ref hp.1, .ref H6.1, yi 20, yi 1, yi 0, yi 0, yi 0]) rfl (fun H29 e30 f31 => ?_)
  have n_H29 := And.intro f31.1 f31.2.1
  exact E_ret hk rfl rfl (by
      have q1 := e30
      have q2 := (f31.at (by simp only [List.mem_cons, List.not_mem_nil, or_false, not_or]; exact (by omega)) (f28.at (by simp only [List.mem_cons, List.not_mem_nil, or_false, not_or]; exact (by omega)) (f25.at (by simp only [List.mem_cons, List.not_mem_nil, or_false, not_or]; exact (by omega)) (f22.at (by simp only [List.mem_cons, List.not_mem_nil, or_false, not_or]; exact (by omega)) (f19.at (by simp only [List.mem_cons, List.not_mem_nil, or_false, not_or]; exact (by omega)) (f16.at (by simp only [List.mem_cons, List.not_mem_nil, or_false, not_or]; exact (by omega)) (f_H12.at (by simp only [List.mem_cons, List.not_mem_nil, or_false, not_or]; exact (by omega)) (by omega) (f11.at (by omega) (f8.at (by simp only [List.mem_cons, List.not_mem_nil, or_false, not_or]; exact (by omega)) e1_H4)))))))))
      have q3 := (f31.at (by simp only [List.mem_cons, List.not_mem_nil, or_false, not_or]; exact (by omega)) (f28.at (by simp only [List.mem_cons, List.not_mem_nil, or_false, not_or]; exact (by omega)) (f25.at (by simp only [List.mem_cons, List.not_mem_nil, or_false, not_or]; exact (by omega)) (f22.at (by simp only [List.mem_cons, List.not_mem_nil, or_false, not_or]; exact (by omega)) (f19.at (by simp only [List.mem_cons, List.not_mem_nil, or_false, not_or]; exact (by omega)) (f16.at (by simp only [List.mem_cons, List.not_mem_nil, or_false, not_or]; exact (by omega)) e1_H12))))))
      have q4 := (f31.at (by simp only [List.mem_cons, List.not_mem_nil, or_false, not_or]; exact (by omega)) (f28.at (by simp only [List.mem_cons, List.not_mem_nil, or_false, not_or]; exact (by omega)) (f25.at (by simp only [List.mem_cons, List.not_mem_nil, or_false, not_or]; exact (by omega)) (f22.at (by simp only [List.mem_cons, List.not_mem_nil, or_false, not_or]; exact (by omega)) (f19.at (by simp only [List.mem_cons, List.not_mem_nil, or_false, not_or]; exact (by omega)) (f16.at (by simp only [List.mem_cons, List.not_mem_nil, or_false, not_or]; exact (by omega)) (f_H12.at (by simp only [List.mem_cons, List.not_mem_nil, or_false, not_or]; exact (by omega)) (by omega) (f11.at (by omega) (f8.at (by simp only [List.mem_cons, List.not_mem_nil, or_false, not_or]; exact (by omega)) e2_H4)))))))))
      have q5 := (f31.at (by simp only [List.mem_cons, List.not_mem_nil, or_false, not_or]; exact (by omega)) (f28.at (by simp only [List.mem_cons, List.not_mem_nil, or_false, not_or]; exact (by omega)) (f25.at (by simp only [List.mem_cons, List.not_mem_nil, or_false, not_or]; exact (by omega)) (f22.at (by simp only [List.mem_cons, List.not_mem_nil, or_false, not_or]; exact (by omega)) (f19.at (by simp only [List.mem_cons, List.not_mem_nil, or_false, not_or]; exact (by omega)) (f16.at (by simp only [List.mem_cons, List.not_mem_nil, or_false, not_or]; exact (by omega)) e2_H12))))))
      have w1 : hp.1 = s + 1 := by omega
      have w2 : H6.1 = s + 3 := by omega
      have w3 : H1.1 = s + 1 + 1 := by omega
      have w4 : H9.1 = s + 3 + 1 := by omega
      rw [w1, w2] at q1
      rw [w1, w3] at q2
      rw [w2, w4] at q3
      rw [w3] at q4
      rw [w4] at q5
      exact ⟨rfl, ⟨⟨h28.1, Or.inl ⟨rfl, rfl⟩⟩, q1, q2, q3, q4, q5, fun q a b => absurd b (by show ¬ q < 0; omega), fun q a b => absurd b (by show ¬ q < 0; omega)⟩, ((((((((((((yfa.refl [s] hp).w f3).tr f_H4 (fun i hi => by simp only [List.mem_cons, List.not_mem_nil, or_false] at hi ⊢; omega)).fr f8 (fun i hi => by simp only [List.mem_cons, List.not_mem_nil, or_false] at hi ⊢; omega)).w f11).tr f_H12 (fun i hi => by simp only [List.mem_cons, List.not_mem_nil, or_false] at hi ⊢; omega)).fr f16 (fun i hi => by simp only [List.mem_cons, List.not_mem_nil, or_false] at hi ⊢; omega)).fr f19 (fun i hi => by simp only [List.mem_cons, List.not_mem_nil, or_false] at hi ⊢; omega)).fr f22 (fun i hi => by simp only [List.mem_cons, List.not_mem_nil, or_false] at hi ⊢; omega)).fr f25 (fun i hi => by simp only [List.mem_cons, List.not_mem_nil, or_false] at hi ⊢; omega)).fr f28 (fun i hi => by simp only [List.mem_cons, List.not_mem_nil, or_false] at hi ⊢; omega)).fr f31 (fun i hi => by simp only [List.mem_cons, List.not_mem_nil, or_false] at hi ⊢; omega))⟩)
theorem c_Jx4a65c_size_8abf5 {d : Nat} {hp : xH} {mc n : Int} {e : Nat} (h34 : xat hp 34 = some (.inr (0, [yi mc, .ref e, yi n]))) : Cv d 105 [.ref 34] hp (yP (some (yi n)) hp) := by
  have hk : xtab 105 = (xc_105, 1, 1, []) := rfl
  show Ev d 105 0 [(0, .ref 34)] [] hp _
  refine E_run hk 1 (j' := 1) (lv' := [(0, .ref 34)]) (st' := [.ref 34]) (hp' := hp) rfl ?_
  refine E_get (v := yi n) hk rfl h34 rfl ?_
  exact E_ret hk rfl rfl ⟨rfl, rfl⟩
theorem c_Jx4a65c_isEmpty_aae02 {d : Nat} {hp : xH} {mc n : Int} {e : Nat} (h34 : xat hp 34 = some (.inr (0, [yi mc, .ref e, yi n]))) (hn : 0 ≤ n ∧ n ≤ 6) : Cv d 106 [.ref 34] hp (yP (some (yi (b2 (n = 0)))) hp) := by
  have hk : xtab 106 = (xc_106, 1, 2, []) := rfl
  show Ev d 106 0 [(0, .ref 34)] [] hp _
  refine E_run hk 1 (j' := 1) (lv' := [(0, .ref 34)]) (st' := [.ref 34]) (hp' := hp) rfl ?_
  refine E_get (v := yi n) hk rfl h34 rfl ?_
  refine Y_if_ne (a := n) (by omega) hk rfl (fun g1 => ?_) (fun g1 => ?_)
  ·
    refine E_run hk 1 (j' := 6) (lv' := [(0, .ref 34)]) (st' := [yi 0]) (hp' := hp) rfl ?_
    exact E_ret hk rfl rfl (lb0 (by omega))
  ·
    refine E_run hk 2 (j' := 6) (lv' := [(0, .ref 34)]) (st' := [yi 1]) (hp' := hp) rfl ?_
    exact E_ret hk rfl rfl (lb1 (by omega))
theorem c_J3_checkIndex_8e157 {d : Nat} {hp : xH} {i n : Int} (hi : 0 ≤ i ∧ i < n ∧ n ≤ 100) : Cv d 113 [yi i, yi n, .null] hp (yP (some (yi i)) hp) := by
  have hk : xtab 113 = (xc_113, 3, 1, []) := rfl
  show Ev d 113 0 [(0, yi i), (1, yi n), (2, .null)] [] hp _
  refine E_run hk 1 (j' := 1) (lv' := [(0, yi i), (1, yi n), (2, .null)]) (st' := [yi i]) (hp' := hp) rfl ?_
  refine Y_if_lt (a := i) (by omega) hk rfl (fun g1 => ?_) (fun g1 => ?_)
  · exfalso; omega
  ·
    refine E_run hk 2 (j' := 4) (lv' := [(0, yi i), (1, yi n), (2, .null)]) (st' := [yi n, yi i]) (hp' := hp) rfl ?_
    refine Y_ic_lt (a := i) (b := n) (by omega) hk rfl (fun g2 => ?_) (fun g2 => ?_)
    ·
      refine E_run hk 1 (j' := 11) (lv' := [(0, yi i), (1, yi n), (2, .null)]) (st' := [yi i]) (hp' := hp) rfl ?_
      exact E_ret hk rfl rfl ⟨rfl, rfl⟩
    · exfalso; omega
theorem c_J15_checkIndex_7cf53 {d : Nat} {hp : xH} {i n : Int} (hi : 0 ≤ i ∧ i < n ∧ n ≤ 100) (hd : 1 ≤ d) : Cv d 112 [yi i, yi n] hp (yP (some (yi i)) hp) := by
  have hk : xtab 112 = (xc_112, 2, 1, []) := rfl
  obtain ⟨d, rfl⟩ : ∃ e, d = e + 1 := ⟨d - 1, by omega⟩
  show Ev (d + 1) 112 0 [(0, yi i), (1, yi n)] [] hp _
  refine E_run hk 3 (j' := 3) (lv' := [(0, yi i), (1, yi n)]) (st' := [.null, yi n, yi i]) (hp' := hp) rfl ?_
  refine Y_callP hk rfl (as := [yi i, yi n, .null]) (rest := []) (v := some (yi i)) rfl rfl (Nat.le_of_ble_eq_true rfl) rfl (Nat.le_of_ble_eq_true rfl) (c_J3_checkIndex_8e157 (i := i) (n := n) (by omega)) ?_
  exact E_ret hk rfl rfl ⟨rfl, rfl⟩
theorem c_Jx4a65c_fastRemove_b59b0 {d : Nat} {hp : xH} {mc n : Int} {e : Nat} {F : Nat → Value} (h34 : xat hp 34 = some (.inr (0, [yi mc, .ref e, yi n]))) (hF : xat hp e = some (yO 10 F)) (he : 63 ≤ e) {i : Int} (hi : 0 ≤ i ∧ i < n ∧ n ≤ 6) (hS : ∀ q : Nat, (q : Int) < n → ∃ b fs, F q = .ref b ∧ xat hp b = some (.inr (6, fs)) ∧ b ≠ 34 ∧ b ≠ e) : Cv d 110 [.ref 34, .ref e, yi i] hp (yR none (fun h => ∃ F2, xat h 34 = some (.inr (0, [yi (mc + 1), .ref e, yi (n - 1)])) ∧ xat h e = some (yO 10 F2) ∧ (∀ q : Nat, (q : Int) < i → F2 q = F q) ∧ (∀ q : Nat, i ≤ (q : Int) → (q : Int) < n - 1 → F2 q = F (q + 1)) ∧ yfr [34, e] hp h)) := by
  have hk : xtab 110 = (xc_110, 4, 0, []) := rfl
  show Ev d 110 0 [(0, .ref 34), (1, .ref e), (2, yi i)] [] hp _
  refine E_run hk 2 (j' := 2) (lv' := [(0, .ref 34), (1, .ref e), (2, yi i)]) (st' := [.ref 34, .ref 34]) (hp' := hp) rfl ?_
  refine E_get (v := yi mc) hk rfl h34 rfl ?_
  refine E_run hk 1 (j' := 4) (lv' := [(0, .ref 34), (1, .ref e), (2, yi i)]) (st' := [yi 1, yi mc, .ref 34]) (hp' := hp) rfl ?_
  refine Y_iadd (a := mc) (b := 1) hk rfl ?_
  refine Y_put hk rfl h34 (by decide) (Nat.le_of_ble_eq_true rfl) rfl (fs' := [yi (mc + 1), .ref e, yi n]) rfl (fun H1 e2 f3 => ?_)
  refine E_run hk 1 (j' := 7) (lv' := [(0, .ref 34), (1, .ref e), (2, yi i)]) (st' := [.ref 34]) (hp' := H1) rfl ?_
  refine E_get (v := yi n) hk rfl e2 rfl ?_
  refine E_run hk 1 (j' := 9) (lv' := [(0, .ref 34), (1, .ref e), (2, yi i)]) (st' := [yi 1, yi n]) (hp' := H1) rfl ?_
  refine Y_isub (a := n) (b := 1) hk rfl ?_
  refine E_run hk 3 (j' := 13) (lv' := [(3, yi (n - 1)), (0, .ref 34), (1, .ref e), (2, yi i)]) (st' := [yi i, yi (n - 1)]) (hp' := H1) rfl ?_
  refine Y_ic_le (a := (n - 1)) (b := i) (by omega) hk rfl (fun g4 => ?_) (fun g4 => ?_)
  ·
    refine E_run hk 4 (j' := 28) (lv' := [(3, yi (n - 1)), (0, .ref 34), (1, .ref e), (2, yi i)]) (st' := [yi (n - 1), .ref 34, yi (n - 1), .ref e]) (hp' := H1) rfl ?_
    refine Y_put hk rfl e2 (by decide) (Nat.le_of_ble_eq_true rfl) rfl (fs' := [yi (mc + 1), .ref e, yi (n - 1)]) rfl (fun H5 e6 f7 => ?_)
    refine E_run hk 1 (j' := 30) (lv' := [(3, yi (n - 1)), (0, .ref 34), (1, .ref e), (2, yi i)]) (st' := [.null, yi (n - 1), .ref e]) (hp' := H5) rfl ?_
    refine Y_aast (a := (n - 1)) (v := .null) (by omega) (by decide) (show xNC ≤ e from (by omega : 28 ≤ e)) rfl hk rfl (f7.at (by simp only [List.mem_cons, List.not_mem_nil, or_false, not_or]; exact (by omega)) (f3.at (by simp only [List.mem_cons, List.not_mem_nil, or_false, not_or]; exact (by omega)) hF)) (fun H8 e9 f10 => ?_)
    exact E_ret hk rfl rfl ⟨rfl, _, (f10.at (by simp only [List.mem_cons, List.not_mem_nil, or_false, not_or]; exact (by omega)) e6), e9, fun q q1 => by
      unfold updV
      rw [if_neg (by omega)]
      first | done | (show (if i.toNat ≤ q ∧ q < i.toNat + (n - 1 - i).toNat then F (q + 1) else F q) = _; rw [if_neg (by omega)]), fun q q1 q2 => by
      unfold updV
      rw [if_neg (by omega)]
      first | (exfalso; omega) | (show (if i.toNat ≤ q ∧ q < i.toNat + (n - 1 - i).toNat then F (q + 1) else F q) = _; rw [if_pos (by omega)]), (yfr.tr (yfr.tr (f3.mono (by simp)) f7 (fun _ h => h) (by simp)) f10 (fun _ h => h) (by simp))⟩
  ·
    refine E_run hk 3 (j' := 17) (lv' := [(3, yi (n - 1)), (0, .ref 34), (1, .ref e), (2, yi i)]) (st' := [yi 1, yi i, .ref e]) (hp' := H1) rfl ?_
    refine Y_iadd (a := i) (b := 1) hk rfl ?_
    refine E_run hk 4 (j' := 22) (lv' := [(3, yi (n - 1)), (0, .ref 34), (1, .ref e), (2, yi i)]) (st' := [yi i, yi (n - 1), yi i, .ref e, yi (i + 1), .ref e]) (hp' := H1) rfl ?_
    refine Y_isub (a := (n - 1)) (b := i) hk rfl ?_
    refine Y_copyO (a := i) (c := (n - 1) - i) hk rfl (f3.at (by simp only [List.mem_cons, List.not_mem_nil, or_false, not_or]; exact (by omega)) hF) (by omega) (show xNC ≤ e from (by omega : 28 ≤ e)) (fun q q1 => by
        obtain ⟨b, fs, e2, e3, e4, e5⟩ := hS (i.toNat + 1 + q) (by omega)
        rw [e2]
        exact xisS_ref (f3.at (by simp only [List.mem_cons, List.not_mem_nil, or_false, not_or]; exact e4) e3)) (fun H11 e12 f13 => ?_)
    refine E_run hk 4 (j' := 28) (lv' := [(3, yi (n - 1)), (0, .ref 34), (1, .ref e), (2, yi i)]) (st' := [yi (n - 1), .ref 34, yi (n - 1), .ref e]) (hp' := H11) rfl ?_
    refine Y_put hk rfl (f13.at (by simp only [List.mem_cons, List.not_mem_nil, or_false, not_or]; exact (by omega)) e2) (by decide) (Nat.le_of_ble_eq_true rfl) rfl (fs' := [yi (mc + 1), .ref e, yi (n - 1)]) rfl (fun H14 e15 f16 => ?_)
    refine E_run hk 1 (j' := 30) (lv' := [(3, yi (n - 1)), (0, .ref 34), (1, .ref e), (2, yi i)]) (st' := [.null, yi (n - 1), .ref e]) (hp' := H14) rfl ?_
    refine Y_aast (a := (n - 1)) (v := .null) (by omega) (by decide) (show xNC ≤ e from (by omega : 28 ≤ e)) rfl hk rfl (f16.at (by simp only [List.mem_cons, List.not_mem_nil, or_false, not_or]; exact (by omega)) e12) (fun H17 e18 f19 => ?_)
    exact E_ret hk rfl rfl ⟨rfl, _, (f19.at (by simp only [List.mem_cons, List.not_mem_nil, or_false, not_or]; exact (by omega)) e15), e18, fun q q1 => by
      unfold updV
      rw [if_neg (by omega)]
      first | done | (show (if i.toNat ≤ q ∧ q < i.toNat + (n - 1 - i).toNat then F (q + 1) else F q) = _; rw [if_neg (by omega)]), fun q q1 q2 => by
      unfold updV
      rw [if_neg (by omega)]
      first | (exfalso; omega) | (show (if i.toNat ≤ q ∧ q < i.toNat + (n - 1 - i).toNat then F (q + 1) else F q) = _; rw [if_pos (by omega)]), (yfr.tr (yfr.tr (yfr.tr (f3.mono (by simp)) f13 (fun _ h => h) (by simp)) f16 (fun _ h => h) (by simp)) f19 (fun _ h => h) (by simp))⟩
theorem c_Jx4a65c_remove_915e3 {d : Nat} {hp : xH} {mc n : Int} {e : Nat} {F : Nat → Value} (h34 : xat hp 34 = some (.inr (0, [yi mc, .ref e, yi n]))) (hF : xat hp e = some (yO 10 F)) (he : 63 ≤ e) {i : Int} (hi : 0 ≤ i ∧ i < n ∧ n ≤ 6) {b : Nat} (hb : F i.toNat = .ref b) (hS : ∀ q : Nat, (q : Int) < n → ∃ b fs, F q = .ref b ∧ xat hp b = some (.inr (6, fs)) ∧ b ≠ 34 ∧ b ≠ e) (hd : 2 ≤ d) : Cv d 109 [.ref 34, yi i] hp (yR (some (.ref b)) (fun h => ∃ F2, xat h 34 = some (.inr (0, [yi (mc + 1), .ref e, yi (n - 1)])) ∧ xat h e = some (yO 10 F2) ∧ (∀ q : Nat, (q : Int) < i → F2 q = F q) ∧ (∀ q : Nat, i ≤ (q : Int) → (q : Int) < n - 1 → F2 q = F (q + 1)) ∧ yfr [34, e] hp h)) := by
  have hk : xtab 109 = (xc_109, 4, 5, []) := rfl
  obtain ⟨d, rfl⟩ : ∃ e, d = e + 1 := ⟨d - 1, by omega⟩
  show Ev (d + 1) 109 0 [(0, .ref 34), (1, yi i)] [] hp _
  refine E_run hk 2 (j' := 2) (lv' := [(0, .ref 34), (1, yi i)]) (st' := [.ref 34, yi i]) (hp' := hp) rfl ?_
  refine E_get (v := yi n) hk rfl h34 rfl ?_
  refine Y_callP hk rfl (as := [yi i, yi n]) (rest := []) (v := some (yi i)) rfl rfl (Nat.le_of_ble_eq_true rfl) rfl (Nat.le_of_ble_eq_true rfl) (c_J15_checkIndex_7cf53 (i := i) (n := n) (by omega) (hd := by omega)) ?_
  refine E_run hk 2 (j' := 6) (lv' := [(0, .ref 34), (1, yi i)]) (st' := [.ref 34]) (hp' := hp) rfl ?_
  refine E_get (v := .ref e) hk rfl h34 rfl ?_
  refine E_run hk 3 (j' := 10) (lv' := [(2, .ref e), (0, .ref 34), (1, yi i)]) (st' := [yi i, .ref e]) (hp' := hp) rfl ?_
  refine Y_aald (a := i) (v := .ref b) (by omega) (by decide) hb hk rfl hF ?_
  refine E_run hk 4 (j' := 15) (lv' := [(3, .ref b), (2, .ref e), (0, .ref 34), (1, yi i)]) (st' := [yi i, .ref e, .ref 34]) (hp' := hp) rfl ?_
  refine Y_call hk rfl (as := [.ref 34, .ref e, yi i]) (rest := []) (v := none) rfl rfl (Nat.le_of_ble_eq_true rfl) (rcv0 h34) (Nat.le_of_ble_eq_true rfl) (c_Jx4a65c_fastRemove_b59b0 (i := i) h34 hF he (by omega) hS) (fun H1 r2 => ?_)
  obtain ⟨F_H1, e1_H1, e2_H1, a_H1, b_H1, f_H1⟩ := r2
  refine E_run hk 1 (j' := 17) (lv' := [(3, .ref b), (2, .ref e), (0, .ref 34), (1, yi i)]) (st' := [.ref b]) (hp' := H1) rfl ?_
  exact E_ret hk rfl rfl ⟨rfl, F_H1, e1_H1, e2_H1, a_H1, b_H1, f_H1⟩
theorem c_Jx4a65c_add_72be8 {d : Nat} {hp : xH} {mc n : Int} {e : Nat} {F : Nat → Value} (h34 : xat hp 34 = some (.inr (0, [yi mc, .ref e, yi n]))) (hF : xat hp e = some (yO 10 F)) (he : 63 ≤ e) (hn : 0 ≤ n ∧ n ≤ 8) {c : Nat} {cfs : List Value} (hc : xat hp c = some (.inr (6, cfs))) (hne : c ≠ 34 ∧ c ≠ e) (hd : 2 ≤ d) : Cv d 107 [.ref 34, .ref c, .ref e, yi n] hp (yR none (fun h => ∃ F2, xat h 34 = some (.inr (0, [yi mc, .ref e, yi (n + 1)])) ∧ xat h e = some (yO 10 F2) ∧ (∀ q : Nat, (q : Int) < n → F2 q = F q) ∧ F2 n.toNat = .ref c ∧ yfr [34, e] hp h)) := by
  have hk : xtab 107 = (xc_107, 4, 0, []) := rfl
  obtain ⟨d, rfl⟩ : ∃ e, d = e + 1 := ⟨d - 1, by omega⟩
  show Ev (d + 1) 107 0 [(0, .ref 34), (1, .ref c), (2, .ref e), (3, yi n)] [] hp _
  refine E_run hk 2 (j' := 2) (lv' := [(0, .ref 34), (1, .ref c), (2, .ref e), (3, yi n)]) (st' := [.ref e, yi n]) (hp' := hp) rfl ?_
  refine Y_alenO (by decide) hk rfl hF ?_
  refine Y_ic_ne (a := n) (b := 10) (by omega) hk rfl (fun g1 => ?_) (fun g1 => ?_)
  ·
    refine E_run hk 3 (j' := 10) (lv' := [(0, .ref 34), (1, .ref c), (2, .ref e), (3, yi n)]) (st' := [.ref c, yi n, .ref e]) (hp' := hp) rfl ?_
    refine Y_aast (a := n) (v := .ref c) (by omega) (by decide) (show xNC ≤ e from (by omega : 28 ≤ e)) (xisS_ref hc) hk rfl hF (fun H2 e3 f4 => ?_)
    refine E_run hk 3 (j' := 14) (lv' := [(0, .ref 34), (1, .ref c), (2, .ref e), (3, yi n)]) (st' := [yi 1, yi n, .ref 34]) (hp' := H2) rfl ?_
    refine Y_iadd (a := n) (b := 1) hk rfl ?_
    refine Y_put hk rfl (f4.at (by simp only [List.mem_cons, List.not_mem_nil, or_false, not_or]; exact (by omega)) h34) (by decide) (Nat.le_of_ble_eq_true rfl) rfl (fs' := [yi mc, .ref e, yi (n + 1)]) rfl (fun H5 e6 f7 => ?_)
    exact E_ret hk rfl rfl ⟨rfl, _, e6, (f7.at (by simp only [List.mem_cons, List.not_mem_nil, or_false, not_or]; exact (Ne.symm (by omega))) e3), fun q q1 => by
      unfold updV
      rw [if_neg (by omega)], by
      unfold updV
      rw [if_pos rfl], (yfr.tr (f4.mono (by simp)) f7 (fun _ h => h) (by simp))⟩
  · exfalso; omega
theorem c_Jx4a65c_add_9ea2d {d : Nat} {hp : xH} {mc n : Int} {e : Nat} {F : Nat → Value} (h34 : xat hp 34 = some (.inr (0, [yi mc, .ref e, yi n]))) (hF : xat hp e = some (yO 10 F)) (he : 63 ≤ e) (hn : 0 ≤ n ∧ n ≤ 8) {c : Nat} {cfs : List Value} (hc : xat hp c = some (.inr (6, cfs))) (hne : c ≠ 34 ∧ c ≠ e) (hd : 3 ≤ d) : Cv d 108 [.ref 34, .ref c] hp (yR (some (yi 1)) (fun h => ∃ F2, xat h 34 = some (.inr (0, [yi (mc + 1), .ref e, yi (n + 1)])) ∧ xat h e = some (yO 10 F2) ∧ (∀ q : Nat, (q : Int) < n → F2 q = F q) ∧ F2 n.toNat = .ref c ∧ yfr [34, e] hp h)) := by
  have hk : xtab 108 = (xc_108, 2, 2, []) := rfl
  obtain ⟨d, rfl⟩ : ∃ e, d = e + 1 := ⟨d - 1, by omega⟩
  show Ev (d + 1) 108 0 [(0, .ref 34), (1, .ref c)] [] hp _
  refine E_run hk 2 (j' := 2) (lv' := [(0, .ref 34), (1, .ref c)]) (st' := [.ref 34, .ref 34]) (hp' := hp) rfl ?_
  refine E_get (v := yi mc) hk rfl h34 rfl ?_
  refine E_run hk 1 (j' := 4) (lv' := [(0, .ref 34), (1, .ref c)]) (st' := [yi 1, yi mc, .ref 34]) (hp' := hp) rfl ?_
  refine Y_iadd (a := mc) (b := 1) hk rfl ?_
  refine Y_put hk rfl h34 (by decide) (Nat.le_of_ble_eq_true rfl) rfl (fs' := [yi (mc + 1), .ref e, yi n]) rfl (fun H1 e2 f3 => ?_)
  refine E_run hk 3 (j' := 9) (lv' := [(0, .ref 34), (1, .ref c)]) (st' := [.ref 34, .ref c, .ref 34]) (hp' := H1) rfl ?_
  refine E_get (v := .ref e) hk rfl e2 rfl ?_
  refine E_run hk 1 (j' := 11) (lv' := [(0, .ref 34), (1, .ref c)]) (st' := [.ref 34, .ref e, .ref c, .ref 34]) (hp' := H1) rfl ?_
  refine E_get (v := yi n) hk rfl e2 rfl ?_
  refine Y_call hk rfl (as := [.ref 34, .ref c, .ref e, yi n]) (rest := []) (v := none) rfl rfl (Nat.le_of_ble_eq_true rfl) (rcv0 e2) (Nat.le_of_ble_eq_true rfl) (c_Jx4a65c_add_72be8 e2 (f3.at (by simp only [List.mem_cons, List.not_mem_nil, or_false, not_or]; exact (Ne.symm (by omega))) hF) he (by omega) (f3.at (by simp only [List.mem_cons, List.not_mem_nil, or_false, not_or]; exact hne.1) hc) hne (hd := by omega)) (fun H4 r5 => ?_)
  obtain ⟨F_H4, e1_H4, e2_H4, a_H4, b_H4, f_H4⟩ := r5
  refine E_run hk 1 (j' := 14) (lv' := [(0, .ref 34), (1, .ref c)]) (st' := [yi 1]) (hp' := H4) rfl ?_
  exact E_ret hk rfl rfl ⟨rfl, F_H4, e1_H4, e2_H4, a_H4, b_H4, (yfr.tr (f3.mono (by simp)) f_H4 (fun _ h => h) (by simp))⟩
theorem mx_10 : mx 10 1 = 10 := rfl
theorem c_Jx4a65c_grow_92f84 {d : Nat} {hp : xH} {mc : Int} (h34 : xat hp 34 = some (.inr (0, [yi mc, .ref 26, yi 0]))) (h26 : xat hp 26 = some (yO 0 (fun _ => .null))) (hN : 63 ≤ hp.1) : Cv d 103 [.ref 34, yi 1] hp (yR (some (.ref hp.1)) (fun h => xat h 34 = some (.inr (0, [yi mc, .ref hp.1, yi 0])) ∧ xat h hp.1 = some (yO 10 (fun _ => .null)) ∧ yfa [34] 1 10 hp h)) := by
  have hk : xtab 103 = (xc_103, 4, 5, []) := rfl
  show Ev d 103 0 [(0, .ref 34), (1, yi 1)] [] hp _
  refine E_run hk 1 (j' := 1) (lv' := [(0, .ref 34), (1, yi 1)]) (st' := [.ref 34]) (hp' := hp) rfl ?_
  refine E_get (v := .ref 26) hk rfl h34 rfl ?_
  refine Y_alenO (by decide) hk rfl h26 ?_
  refine E_run hk 2 (j' := 5) (lv' := [(2, yi 0), (0, .ref 34), (1, yi 1)]) (st' := [yi 0]) (hp' := hp) rfl ?_
  refine Y_if_gt (a := 0) (by omega) hk rfl (fun g1 => ?_) (fun g1 => ?_)
  · exfalso; omega
  ·
    refine E_run hk 1 (j' := 7) (lv' := [(2, yi 0), (0, .ref 34), (1, yi 1)]) (st' := [.ref 34]) (hp' := hp) rfl ?_
    refine E_get (v := .ref 26) hk rfl h34 rfl ?_
    refine E_gets hk rfl ?_
    refine Y_acmp hk rfl ?_
    refine E_run hk 3 (j' := 30) (lv' := [(2, yi 0), (0, .ref 34), (1, yi 1)]) (st' := [yi 1, yi 10, .ref 34]) (hp' := hp) rfl ?_
    refine Y_max (a := 10) (b := 1) (by omega) hk rfl (Nat.le_of_ble_eq_true rfl) ?_
    rw [mx_10]
    refine Y_anew (a := 10) (by omega) hk rfl (fun H2 e3 f4 => ?_)
    have n_H2 := And.intro f4.1 f4.2.1
    refine E_run hk 1 (j' := 33) (lv' := [(2, yi 0), (0, .ref 34), (1, yi 1)]) (st' := [.ref hp.1, .ref 34, .ref hp.1]) (hp' := H2) rfl ?_
    refine Y_put hk rfl (f4.at (by omega) h34) (by decide) (Nat.le_of_ble_eq_true rfl) rfl (fs' := [yi mc, .ref hp.1, yi 0]) rfl (fun H5 e6 f7 => ?_)
    have n_H5 := And.intro f7.1 f7.2.1
    exact E_ret hk rfl rfl ⟨rfl, e6, (f7.at (by simp only [List.mem_cons, List.not_mem_nil, or_false, not_or]; exact (by omega)) e3), (((yfa.refl [34] hp).w f4).fr f7 (fun i hi => by simp only [List.mem_cons, List.not_mem_nil, or_false] at hi ⊢; omega))⟩
theorem c_Jx4a65c_grow_d5877 {d : Nat} {hp : xH} {mc : Int} (h34 : xat hp 34 = some (.inr (0, [yi mc, .ref 26, yi 0]))) (h26 : xat hp 26 = some (yO 0 (fun _ => .null))) (hN : 63 ≤ hp.1) (hd : 1 ≤ d) : Cv d 104 [.ref 34] hp (yR (some (.ref hp.1)) (fun h => xat h 34 = some (.inr (0, [yi mc, .ref hp.1, yi 0])) ∧ xat h hp.1 = some (yO 10 (fun _ => .null)) ∧ yfa [34] 1 10 hp h)) := by
  have hk : xtab 104 = (xc_104, 1, 5, []) := rfl
  obtain ⟨d, rfl⟩ : ∃ e, d = e + 1 := ⟨d - 1, by omega⟩
  show Ev (d + 1) 104 0 [(0, .ref 34)] [] hp _
  refine E_run hk 2 (j' := 2) (lv' := [(0, .ref 34)]) (st' := [.ref 34, .ref 34]) (hp' := hp) rfl ?_
  refine E_get (v := yi 0) hk rfl h34 rfl ?_
  refine E_run hk 1 (j' := 4) (lv' := [(0, .ref 34)]) (st' := [yi 1, yi 0, .ref 34]) (hp' := hp) rfl ?_
  refine Y_iadd (a := 0) (b := 1) hk rfl ?_
  rw [show (0 : Int) + 1 = 1 from rfl]
  refine Y_call hk rfl (as := [.ref 34, yi 1]) (rest := []) (v := some (.ref hp.1)) rfl rfl (Nat.le_of_ble_eq_true rfl) (rcv0 h34) (Nat.le_of_ble_eq_true rfl) (c_Jx4a65c_grow_92f84 h34 h26 (by omega)) (fun H1 r2 => ?_)
  obtain ⟨e1_H1, e2_H1, f_H1⟩ := r2
  have n_H1 := And.intro f_H1.1 f_H1.2.1
  exact E_ret hk rfl rfl ⟨rfl, e1_H1, e2_H1, ((yfa.refl [34] hp).tr f_H1 (fun i hi => by simp only [List.mem_cons, List.not_mem_nil, or_false] at hi ⊢; omega))⟩
theorem c_Jx4a65c_add0 {d : Nat} {hp : xH} {mc : Int} (h34 : xat hp 34 = some (.inr (0, [yi mc, .ref 26, yi 0]))) (h26 : xat hp 26 = some (yO 0 (fun _ => .null))) (hN : 63 ≤ hp.1) {c : Nat} {cfs : List Value} (hc : xat hp c = some (.inr (6, cfs))) (hne : c ≠ 34 ∧ c < hp.1) (hd : 2 ≤ d) : Cv d 107 [.ref 34, .ref c, .ref 26, yi 0] hp (yR none (fun h => ∃ F2, xat h 34 = some (.inr (0, [yi mc, .ref hp.1, yi 1])) ∧ xat h hp.1 = some (yO 10 F2) ∧ F2 0 = .ref c ∧ yfa [34] 1 10 hp h)) := by
  have hk : xtab 107 = (xc_107, 4, 0, []) := rfl
  obtain ⟨d, rfl⟩ : ∃ e, d = e + 1 := ⟨d - 1, by omega⟩
  show Ev (d + 1) 107 0 [(0, .ref 34), (1, .ref c), (2, .ref 26), (3, yi 0)] [] hp _
  refine E_run hk 2 (j' := 2) (lv' := [(0, .ref 34), (1, .ref c), (2, .ref 26), (3, yi 0)]) (st' := [.ref 26, yi 0]) (hp' := hp) rfl ?_
  refine Y_alenO (by decide) hk rfl h26 ?_
  refine Y_ic_ne (a := 0) (b := 0) (by omega) hk rfl (fun g1 => ?_) (fun g1 => ?_)
  · exfalso; omega
  ·
    refine E_run hk 1 (j' := 5) (lv' := [(0, .ref 34), (1, .ref c), (2, .ref 26), (3, yi 0)]) (st' := [.ref 34]) (hp' := hp) rfl ?_
    refine Y_call hk rfl (as := [.ref 34]) (rest := []) (v := some (.ref hp.1)) rfl rfl (Nat.le_of_ble_eq_true rfl) (rcv0 h34) (Nat.le_of_ble_eq_true rfl) (c_Jx4a65c_grow_d5877 h34 h26 (by omega) (hd := by omega)) (fun H2 r3 => ?_)
    obtain ⟨e1_H2, e2_H2, f_H2⟩ := r3
    have n_H2 := And.intro f_H2.1 f_H2.2.1
    refine E_run hk 4 (j' := 10) (lv' := [(2, .ref hp.1), (0, .ref 34), (1, .ref c), (3, yi 0)]) (st' := [.ref c, yi 0, .ref hp.1]) (hp' := H2) rfl ?_
    refine Y_aast (a := 0) (v := .ref c) (by omega) (by decide) (show xNC ≤ hp.1 from (by omega : 28 ≤ hp.1)) (xisS_ref (f_H2.at (by simp only [List.mem_cons, List.not_mem_nil, or_false, not_or]; exact hne.1) (by omega) hc)) hk rfl e2_H2 (fun H4 e5 f6 => ?_)
    have n_H4 := And.intro f6.1 f6.2.1
    refine E_run hk 3 (j' := 14) (lv' := [(2, .ref hp.1), (0, .ref 34), (1, .ref c), (3, yi 0)]) (st' := [yi 1, yi 0, .ref 34]) (hp' := H4) rfl ?_
    refine Y_iadd (a := 0) (b := 1) hk rfl ?_
    rw [show (0 : Int) + 1 = 1 from rfl]
    refine Y_put hk rfl (f6.at (by simp only [List.mem_cons, List.not_mem_nil, or_false, not_or]; exact (by omega)) e1_H2) (by decide) (Nat.le_of_ble_eq_true rfl) rfl (fs' := [yi mc, .ref hp.1, yi 1]) rfl (fun H7 e8 f9 => ?_)
    have n_H7 := And.intro f9.1 f9.2.1
    exact E_ret hk rfl rfl ⟨rfl, _, e8, (f9.at (by simp only [List.mem_cons, List.not_mem_nil, or_false, not_or]; exact (by omega)) e5), rfl, ((((yfa.refl [34] hp).tr f_H2 (fun i hi => by simp only [List.mem_cons, List.not_mem_nil, or_false] at hi ⊢; omega)).fr f6 (fun i hi => by simp only [List.mem_cons, List.not_mem_nil, or_false] at hi ⊢; omega)).fr f9 (fun i hi => by simp only [List.mem_cons, List.not_mem_nil, or_false] at hi ⊢; omega))⟩
theorem c_Jx4a65c_addF {d : Nat} {hp : xH} {mc : Int} (h34 : xat hp 34 = some (.inr (0, [yi mc, .ref 26, yi 0]))) (h26 : xat hp 26 = some (yO 0 (fun _ => .null))) (hN : 63 ≤ hp.1) {c : Nat} {cfs : List Value} (hc : xat hp c = some (.inr (6, cfs))) (hne : c ≠ 34 ∧ c < hp.1) (hd : 3 ≤ d) : Cv d 108 [.ref 34, .ref c] hp (yR (some (yi 1)) (fun h => ∃ F2, xat h 34 = some (.inr (0, [yi (mc + 1), .ref hp.1, yi 1])) ∧ xat h hp.1 = some (yO 10 F2) ∧ F2 0 = .ref c ∧ yfa [34] 1 10 hp h)) := by
  have hk : xtab 108 = (xc_108, 2, 2, []) := rfl
  obtain ⟨d, rfl⟩ : ∃ e, d = e + 1 := ⟨d - 1, by omega⟩
  show Ev (d + 1) 108 0 [(0, .ref 34), (1, .ref c)] [] hp _
  refine E_run hk 2 (j' := 2) (lv' := [(0, .ref 34), (1, .ref c)]) (st' := [.ref 34, .ref 34]) (hp' := hp) rfl ?_
  refine E_get (v := yi mc) hk rfl h34 rfl ?_
  refine E_run hk 1 (j' := 4) (lv' := [(0, .ref 34), (1, .ref c)]) (st' := [yi 1, yi mc, .ref 34]) (hp' := hp) rfl ?_
  refine Y_iadd (a := mc) (b := 1) hk rfl ?_
  refine Y_put hk rfl h34 (by decide) (Nat.le_of_ble_eq_true rfl) rfl (fs' := [yi (mc + 1), .ref 26, yi 0]) rfl (fun H1 e2 f3 => ?_)
  have n_H1 := And.intro f3.1 f3.2.1
  refine E_run hk 3 (j' := 9) (lv' := [(0, .ref 34), (1, .ref c)]) (st' := [.ref 34, .ref c, .ref 34]) (hp' := H1) rfl ?_
  refine E_get (v := .ref 26) hk rfl e2 rfl ?_
  refine E_run hk 1 (j' := 11) (lv' := [(0, .ref 34), (1, .ref c)]) (st' := [.ref 34, .ref 26, .ref c, .ref 34]) (hp' := H1) rfl ?_
  refine E_get (v := yi 0) hk rfl e2 rfl ?_
  refine Y_call hk rfl (as := [.ref 34, .ref c, .ref 26, yi 0]) (rest := []) (v := none) rfl rfl (Nat.le_of_ble_eq_true rfl) (rcv0 e2) (Nat.le_of_ble_eq_true rfl) (c_Jx4a65c_add0 e2 (f3.at (by decide) h26) (by omega) (f3.at (by simp only [List.mem_cons, List.not_mem_nil, or_false, not_or]; exact hne.1) hc) (by omega) (hd := by omega)) (fun H4 r5 => ?_)
  obtain ⟨F_H4, e1_H4, e2_H4, b_H4, f_H4⟩ := r5
  have n_H4 := And.intro f_H4.1 f_H4.2.1
  refine E_run hk 1 (j' := 14) (lv' := [(0, .ref 34), (1, .ref c)]) (st' := [yi 1]) (hp' := H4) rfl ?_
  exact E_ret hk rfl rfl (by
      have n34 := e1_H4
      have w : H1.1 = hp.1 := by omega
      have e2 := e2_H4
      rw [w] at n34 e2
      exact ⟨rfl, F_H4, n34, e2, b_H4, (((yfa.refl [34] hp).fr f3 (fun i hi => by simp only [List.mem_cons, List.not_mem_nil, or_false] at hi ⊢; omega)).tr f_H4 (fun i hi => by simp only [List.mem_cons, List.not_mem_nil, or_false] at hi ⊢; omega))⟩)
