/-! New objects. -/
section EN2
variable {d k j nL rk : Nat} {L : List xE} {hs : List xX} {lv : xL} {st : List Value} {hp : xH} {Q : xO → xH → Prop} {pc len : Nat} {ax r : List Nat} {cv : Value} {a : Int} {A : Nat}
theorem Y_newN {ix ci w : Nat} {fs : List Value} (hA : hp.1 = A) (hk : xtab k = (L, nL, rk, hs)) (he : L[j]? = some (pc, 7, .new ix, len, ci :: w :: r, cv)) (hf : xdef ci = fs) (kk : ∀ h', xat h' A = some (.inr (ci, fs)) → yfw A w hp h' → Ev d k (j + 1) lv (.ref A :: st) h' Q) : Ev d k j lv st hp Q := by
  subst hA
  exact Y_new hk he hf kk
theorem Y_newIN (hA : hp.1 = A) (hr : 0 ≤ a ∧ a ≤ 1000) (hk : xtab k = (L, nL, rk, hs)) (he : L[j]? = some (pc, 7, .newarray .int, len, r, cv)) (kk : ∀ h', xat h' A = some (yI a.toNat (fun _ => 0)) → yfw A a.toNat hp h' → Ev d k (j + 1) lv (.ref A :: st) h' Q) : Ev d k j lv (yi a :: st) hp Q := by
  subst hA
  exact Y_newI hr hk he kk
end EN2
theorem c_X0_init {d : Nat} {hp : xH} {a : Nat} (ha : xat hp a = some (.inr (1, [.null]))) (h28 : 28 ≤ a ∧ a < hp.1) : Cv d 0 [.ref a] hp (yR none (fun h => xat h a = some (.inr (1, [.ref hp.1])) ∧ xat h hp.1 = some (yI 400 (fun _ => 0)) ∧ yfa [a] 1 400 hp h)) := by
  have hk : xtab 0 = (xc_0, 1, 0, []) := rfl
  show Ev d 0 0 [(0, .ref a)] [] hp _
  refine E_run hk 1 (j' := 1) (lv' := [(0, .ref a)]) (st' := [.ref a]) (hp' := hp) rfl ?_
  refine Y_obj hk rfl ha (Nat.le_of_ble_eq_true rfl) ?_
  refine E_run hk 2 (j' := 4) (lv' := [(0, .ref a)]) (st' := [yi 400, .ref a]) (hp' := hp) rfl ?_
  refine Y_newI (a := 400) (by omega) hk rfl (fun H1 e2 f3 => ?_)
  have n_H1 := And.intro f3.1 f3.2.1
  refine Y_put hk rfl (f3.at (by omega) ha) (show xNC ≤ a from (by omega : 28 ≤ a)) (Nat.le_of_ble_eq_true rfl) rfl (fs' := [.ref hp.1]) rfl (fun H4 e5 f6 => ?_)
  have n_H4 := And.intro f6.1 f6.2.1
  exact E_ret hk rfl rfl ⟨rfl, e5, (f6.at (by simp only [List.mem_cons, List.not_mem_nil, or_false, not_or]; exact (Ne.symm (by omega))) e2), (((yfa.refl [a] hp).w f3).fr f6 (fun i hi => by simp only [List.mem_cons, List.not_mem_nil, or_false] at hi ⊢; omega))⟩
theorem c_X4_init {d : Nat} {hp : xH} {a : Nat} (ha : xat hp a = some (.inr (5, [.null, yi 0, yi 0, .null, yi 0, yi 0]))) (h28 : 28 ≤ a ∧ a < hp.1) : Cv d 28 [.ref a] hp (yR none (fun h => xat h a = some (.inr (5, [.ref hp.1, yi 0, yi 0, .ref 0, yi 0, yi 0])) ∧ xat h hp.1 = some (yI 30 (fun _ => 0)) ∧ yfa [a] 1 30 hp h)) := by
  have hk : xtab 28 = (xc_28, 1, 0, []) := rfl
  show Ev d 28 0 [(0, .ref a)] [] hp _
  refine E_run hk 1 (j' := 1) (lv' := [(0, .ref a)]) (st' := [.ref a]) (hp' := hp) rfl ?_
  refine Y_obj hk rfl ha (Nat.le_of_ble_eq_true rfl) ?_
  refine E_run hk 2 (j' := 4) (lv' := [(0, .ref a)]) (st' := [yi 30, .ref a]) (hp' := hp) rfl ?_
  refine Y_newI (a := 30) (by omega) hk rfl (fun H1 e2 f3 => ?_)
  have n_H1 := And.intro f3.1 f3.2.1
  refine Y_put hk rfl (f3.at (by omega) ha) (show xNC ≤ a from (by omega : 28 ≤ a)) (Nat.le_of_ble_eq_true rfl) rfl (fs' := [.ref hp.1, yi 0, yi 0, .null, yi 0, yi 0]) rfl (fun H4 e5 f6 => ?_)
  have n_H4 := And.intro f6.1 f6.2.1
  refine E_run hk 2 (j' := 8) (lv' := [(0, .ref a)]) (st' := [yi 0, .ref a]) (hp' := H4) rfl ?_
  refine Y_put hk rfl e5 (show xNC ≤ a from (by omega : 28 ≤ a)) (Nat.le_of_ble_eq_true rfl) rfl (fs' := [.ref hp.1, yi 0, yi 0, .null, yi 0, yi 0]) rfl (fun H7 e8 f9 => ?_)
  have n_H7 := And.intro f9.1 f9.2.1
  refine E_run hk 2 (j' := 11) (lv' := [(0, .ref a)]) (st' := [yi 0, .ref a]) (hp' := H7) rfl ?_
  refine Y_put hk rfl e8 (show xNC ≤ a from (by omega : 28 ≤ a)) (Nat.le_of_ble_eq_true rfl) rfl (fs' := [.ref hp.1, yi 0, yi 0, .null, yi 0, yi 0]) rfl (fun H10 e11 f12 => ?_)
  have n_H10 := And.intro f12.1 f12.2.1
  refine E_run hk 1 (j' := 13) (lv' := [(0, .ref a)]) (st' := [.ref a]) (hp' := H10) rfl ?_
  refine E_gets hk rfl ?_
  refine Y_put hk rfl e11 (show xNC ≤ a from (by omega : 28 ≤ a)) (Nat.le_of_ble_eq_true rfl) rfl (fs' := [.ref hp.1, yi 0, yi 0, .ref 0, yi 0, yi 0]) rfl (fun H13 e14 f15 => ?_)
  have n_H13 := And.intro f15.1 f15.2.1
  refine E_run hk 2 (j' := 17) (lv' := [(0, .ref a)]) (st' := [yi 0, .ref a]) (hp' := H13) rfl ?_
  refine Y_put hk rfl e14 (show xNC ≤ a from (by omega : 28 ≤ a)) (Nat.le_of_ble_eq_true rfl) rfl (fs' := [.ref hp.1, yi 0, yi 0, .ref 0, yi 0, yi 0]) rfl (fun H16 e17 f18 => ?_)
  have n_H16 := And.intro f18.1 f18.2.1
  refine E_run hk 2 (j' := 20) (lv' := [(0, .ref a)]) (st' := [yi 0, .ref a]) (hp' := H16) rfl ?_
  refine Y_put hk rfl e17 (show xNC ≤ a from (by omega : 28 ≤ a)) (Nat.le_of_ble_eq_true rfl) rfl (fs' := [.ref hp.1, yi 0, yi 0, .ref 0, yi 0, yi 0]) rfl (fun H19 e20 f21 => ?_)
  have n_H19 := And.intro f21.1 f21.2.1
  exact E_ret hk rfl rfl ⟨rfl, e20, (f21.at (by simp only [List.mem_cons, List.not_mem_nil, or_false, not_or]; exact (Ne.symm (by omega))) (f18.at (by simp only [List.mem_cons, List.not_mem_nil, or_false, not_or]; exact (Ne.symm (by omega))) (f15.at (by simp only [List.mem_cons, List.not_mem_nil, or_false, not_or]; exact (Ne.symm (by omega))) (f12.at (by simp only [List.mem_cons, List.not_mem_nil, or_false, not_or]; exact (Ne.symm (by omega))) (f9.at (by simp only [List.mem_cons, List.not_mem_nil, or_false, not_or]; exact (Ne.symm (by omega))) (f6.at (by simp only [List.mem_cons, List.not_mem_nil, or_false, not_or]; exact (Ne.symm (by omega))) e2)))))), ((((((((yfa.refl [a] hp).w f3).fr f6 (fun i hi => by simp only [List.mem_cons, List.not_mem_nil, or_false] at hi ⊢; omega)).fr f9 (fun i hi => by simp only [List.mem_cons, List.not_mem_nil, or_false] at hi ⊢; omega)).fr f12 (fun i hi => by simp only [List.mem_cons, List.not_mem_nil, or_false] at hi ⊢; omega)).fr f15 (fun i hi => by simp only [List.mem_cons, List.not_mem_nil, or_false] at hi ⊢; omega)).fr f18 (fun i hi => by simp only [List.mem_cons, List.not_mem_nil, or_false] at hi ⊢; omega)).fr f21 (fun i hi => by simp only [List.mem_cons, List.not_mem_nil, or_false] at hi ⊢; omega))⟩
theorem c_Jxa1e45_init_da8c8 {d : Nat} {hp : xH} {a : Nat} {mc n : Value} {e : Value} (ha : xat hp a = some (.inr (0, [mc, e, n]))) : Cv d 100 [.ref a] hp (yP none hp) := by
  have hk : xtab 100 = (xc_100, 1, 0, []) := rfl
  show Ev d 100 0 [(0, .ref a)] [] hp _
  refine E_run hk 1 (j' := 1) (lv' := [(0, .ref a)]) (st' := [.ref a]) (hp' := hp) rfl ?_
  refine Y_obj hk rfl ha (Nat.le_of_ble_eq_true rfl) ?_
  exact E_ret hk rfl rfl ⟨rfl, rfl⟩
theorem c_Jxc12de_init_da8c8 {d : Nat} {hp : xH} {a : Nat} (ha : xat hp a = some (.inr (0, [yi 0, .null, yi 0]))) (h28 : 28 ≤ a) (hd : 1 ≤ d) : Cv d 101 [.ref a] hp (yR none (fun h => xat h a = some (.inr (0, [yi 0, .null, yi 0])) ∧ yfr [a] hp h)) := by
  have hk : xtab 101 = (xc_101, 1, 0, []) := rfl
  obtain ⟨d, rfl⟩ : ∃ e, d = e + 1 := ⟨d - 1, by omega⟩
  show Ev (d + 1) 101 0 [(0, .ref a)] [] hp _
  refine E_run hk 1 (j' := 1) (lv' := [(0, .ref a)]) (st' := [.ref a]) (hp' := hp) rfl ?_
  refine Y_callP hk rfl (as := [.ref a]) (rest := []) (v := none) rfl rfl (Nat.le_of_ble_eq_true rfl) (rcv2 ha) (Nat.le_of_ble_eq_true rfl) (c_Jxa1e45_init_da8c8 ha) ?_
  refine E_run hk 2 (j' := 4) (lv' := [(0, .ref a)]) (st' := [yi 0, .ref a]) (hp' := hp) rfl ?_
  refine Y_put hk rfl ha (show xNC ≤ a from (by omega : 28 ≤ a)) (Nat.le_of_ble_eq_true rfl) rfl (fs' := [yi 0, .null, yi 0]) rfl (fun H1 e2 f3 => ?_)
  exact E_ret hk rfl rfl ⟨rfl, e2, f3⟩
theorem c_Jx4a65c_init_da8c8 {d : Nat} {hp : xH} {a : Nat} (ha : xat hp a = some (.inr (0, [yi 0, .null, yi 0]))) (h28 : 28 ≤ a) (hd : 2 ≤ d) : Cv d 102 [.ref a] hp (yR none (fun h => xat h a = some (.inr (0, [yi 0, .ref 26, yi 0])) ∧ yfr [a] hp h)) := by
  have hk : xtab 102 = (xc_102, 1, 0, []) := rfl
  obtain ⟨d, rfl⟩ : ∃ e, d = e + 1 := ⟨d - 1, by omega⟩
  show Ev (d + 1) 102 0 [(0, .ref a)] [] hp _
  refine E_run hk 1 (j' := 1) (lv' := [(0, .ref a)]) (st' := [.ref a]) (hp' := hp) rfl ?_
  refine Y_call hk rfl (as := [.ref a]) (rest := []) (v := none) rfl rfl (Nat.le_of_ble_eq_true rfl) (rcv2 ha) (Nat.le_of_ble_eq_true rfl) (c_Jxc12de_init_da8c8 (a := a) ha h28 (hd := by omega)) (fun H1 r2 => ?_)
  obtain ⟨e1_H1, f_H1⟩ := r2
  refine E_run hk 1 (j' := 3) (lv' := [(0, .ref a)]) (st' := [.ref a]) (hp' := H1) rfl ?_
  refine E_gets hk rfl ?_
  refine Y_put hk rfl e1_H1 (show xNC ≤ a from (by omega : 28 ≤ a)) (Nat.le_of_ble_eq_true rfl) rfl (fs' := [yi 0, .ref 26, yi 0]) rfl (fun H3 e4 f5 => ?_)
  exact E_ret hk rfl rfl ⟨rfl, e4, (yfr.tr f_H1 f5 (fun _ h => h) (by simp))⟩
theorem c_X2_init {d : Nat} {hp : xH} (ha : xat hp 43 = some (.inr (3, [.null, .null, .null, .null, .null, .null, .null, .null, yi 0, yi 0, yi 0]))) (N_hp : hp.1 = 44) (hd : 1 ≤ d) : Cv d 8 [.ref 43] hp (yR none (fun h => xat h 43 = some (.inr (3, [.ref 44, .ref 46, .ref 48, .ref 50, .ref 52, .ref 53, .ref 54, .ref 55, yi 0, yi 0, yi 0])) ∧ xat h 44 = some (.inr (1, [.ref 45])) ∧ xat h 45 = some (yI 400 (fun _ => 0)) ∧ xat h 46 = some (.inr (1, [.ref 47])) ∧ xat h 47 = some (yI 400 (fun _ => 0)) ∧ xat h 48 = some (.inr (1, [.ref 49])) ∧ xat h 49 = some (yI 400 (fun _ => 0)) ∧ xat h 50 = some (.inr (1, [.ref 51])) ∧ xat h 51 = some (yI 400 (fun _ => 0)) ∧ xat h 52 = some (yI 39 (fun _ => 0)) ∧ xat h 53 = some (yI 39 (fun _ => 0)) ∧ xat h 54 = some (yI 20 (fun _ => 0)) ∧ xat h 55 = some (yI 20 (fun _ => 0)) ∧ yfa [43] 12 1722 hp h)) := by
  have hk : xtab 8 = (xc_8, 1, 0, []) := rfl
  obtain ⟨d, rfl⟩ : ∃ e, d = e + 1 := ⟨d - 1, by omega⟩
  show Ev (d + 1) 8 0 [(0, .ref 43)] [] hp _
  refine E_run hk 1 (j' := 1) (lv' := [(0, .ref 43)]) (st' := [.ref 43]) (hp' := hp) rfl ?_
  refine Y_obj hk rfl ha (Nat.le_of_ble_eq_true rfl) ?_
  refine E_run hk 1 (j' := 3) (lv' := [(0, .ref 43)]) (st' := [.ref 43]) (hp' := hp) rfl ?_
  refine Y_newN (A := 44) N_hp hk rfl (fs := [.null]) rfl (fun H1 e2 f3 => ?_)
  have N_H1 : H1.1 = 45 := f3.1.trans (congrArg Nat.succ N_hp)
  refine E_run hk 1 (j' := 5) (lv' := [(0, .ref 43)]) (st' := [.ref 44, .ref 44, .ref 43]) (hp' := H1) rfl ?_
  refine Y_call hk rfl (as := [.ref 44]) (rest := [.ref 44, .ref 43]) (v := none) rfl rfl (Nat.le_of_ble_eq_true rfl) (rcv3 e2) (Nat.le_of_ble_eq_true rfl) (c_X0_init (a := 44) e2 ⟨by decide, by rw [N_H1]; decide⟩) (fun H4 r5 => ?_)
  obtain ⟨e1_H4, e2_H4, f_H4⟩ := r5
  rw [N_H1] at e1_H4 e2_H4
  have N_H4 : H4.1 = 46 := f_H4.1.trans (congrArg Nat.succ N_H1)
  refine Y_put hk rfl (f_H4.at (by decide) (by rw [N_H1]; decide) (f3.at (by decide) ha)) (by decide) (Nat.le_of_ble_eq_true rfl) rfl (fs' := [.ref 44, .null, .null, .null, .null, .null, .null, .null, yi 0, yi 0, yi 0]) rfl (fun H6 e7 f8 => ?_)
  have N_H6 : H6.1 = 46 := f8.1.trans N_H4
  refine E_run hk 1 (j' := 8) (lv' := [(0, .ref 43)]) (st' := [.ref 43]) (hp' := H6) rfl ?_
  refine Y_newN (A := 46) N_H6 hk rfl (fs := [.null]) rfl (fun H9 e10 f11 => ?_)
  have N_H9 : H9.1 = 47 := f11.1.trans (congrArg Nat.succ N_H6)
  refine E_run hk 1 (j' := 10) (lv' := [(0, .ref 43)]) (st' := [.ref 46, .ref 46, .ref 43]) (hp' := H9) rfl ?_
  refine Y_call hk rfl (as := [.ref 46]) (rest := [.ref 46, .ref 43]) (v := none) rfl rfl (Nat.le_of_ble_eq_true rfl) (rcv3 e10) (Nat.le_of_ble_eq_true rfl) (c_X0_init (a := 46) e10 ⟨by decide, by rw [N_H9]; decide⟩) (fun H12 r13 => ?_)
  obtain ⟨e1_H12, e2_H12, f_H12⟩ := r13
  rw [N_H9] at e1_H12 e2_H12
  have N_H12 : H12.1 = 48 := f_H12.1.trans (congrArg Nat.succ N_H9)
  refine Y_put hk rfl (f_H12.at (by decide) (by rw [N_H9]; decide) (f11.at (by decide) e7)) (by decide) (Nat.le_of_ble_eq_true rfl) rfl (fs' := [.ref 44, .ref 46, .null, .null, .null, .null, .null, .null, yi 0, yi 0, yi 0]) rfl (fun H14 e15 f16 => ?_)
  have N_H14 : H14.1 = 48 := f16.1.trans N_H12
  refine E_run hk 1 (j' := 13) (lv' := [(0, .ref 43)]) (st' := [.ref 43]) (hp' := H14) rfl ?_
  refine Y_newN (A := 48) N_H14 hk rfl (fs := [.null]) rfl (fun H17 e18 f19 => ?_)
  have N_H17 : H17.1 = 49 := f19.1.trans (congrArg Nat.succ N_H14)
  refine E_run hk 1 (j' := 15) (lv' := [(0, .ref 43)]) (st' := [.ref 48, .ref 48, .ref 43]) (hp' := H17) rfl ?_
  refine Y_call hk rfl (as := [.ref 48]) (rest := [.ref 48, .ref 43]) (v := none) rfl rfl (Nat.le_of_ble_eq_true rfl) (rcv3 e18) (Nat.le_of_ble_eq_true rfl) (c_X0_init (a := 48) e18 ⟨by decide, by rw [N_H17]; decide⟩) (fun H20 r21 => ?_)
  obtain ⟨e1_H20, e2_H20, f_H20⟩ := r21
  rw [N_H17] at e1_H20 e2_H20
  have N_H20 : H20.1 = 50 := f_H20.1.trans (congrArg Nat.succ N_H17)
  refine Y_put hk rfl (f_H20.at (by decide) (by rw [N_H17]; decide) (f19.at (by decide) e15)) (by decide) (Nat.le_of_ble_eq_true rfl) rfl (fs' := [.ref 44, .ref 46, .ref 48, .null, .null, .null, .null, .null, yi 0, yi 0, yi 0]) rfl (fun H22 e23 f24 => ?_)
  have N_H22 : H22.1 = 50 := f24.1.trans N_H20
  refine E_run hk 1 (j' := 18) (lv' := [(0, .ref 43)]) (st' := [.ref 43]) (hp' := H22) rfl ?_
  refine Y_newN (A := 50) N_H22 hk rfl (fs := [.null]) rfl (fun H25 e26 f27 => ?_)
  have N_H25 : H25.1 = 51 := f27.1.trans (congrArg Nat.succ N_H22)
  refine E_run hk 1 (j' := 20) (lv' := [(0, .ref 43)]) (st' := [.ref 50, .ref 50, .ref 43]) (hp' := H25) rfl ?_
  refine Y_call hk rfl (as := [.ref 50]) (rest := [.ref 50, .ref 43]) (v := none) rfl rfl (Nat.le_of_ble_eq_true rfl) (rcv3 e26) (Nat.le_of_ble_eq_true rfl) (c_X0_init (a := 50) e26 ⟨by decide, by rw [N_H25]; decide⟩) (fun H28 r29 => ?_)
  obtain ⟨e1_H28, e2_H28, f_H28⟩ := r29
  rw [N_H25] at e1_H28 e2_H28
  have N_H28 : H28.1 = 52 := f_H28.1.trans (congrArg Nat.succ N_H25)
  refine Y_put hk rfl (f_H28.at (by decide) (by rw [N_H25]; decide) (f27.at (by decide) e23)) (by decide) (Nat.le_of_ble_eq_true rfl) rfl (fs' := [.ref 44, .ref 46, .ref 48, .ref 50, .null, .null, .null, .null, yi 0, yi 0, yi 0]) rfl (fun H30 e31 f32 => ?_)
  have N_H30 : H30.1 = 52 := f32.1.trans N_H28
  refine E_run hk 2 (j' := 24) (lv' := [(0, .ref 43)]) (st' := [yi 39, .ref 43]) (hp' := H30) rfl ?_
  refine Y_newIN (A := 52) N_H30 (a := 39) (by omega) hk rfl (fun H33 e34 f35 => ?_)
  have N_H33 : H33.1 = 53 := f35.1.trans (congrArg Nat.succ N_H30)
  refine Y_put hk rfl (f35.at (by decide) e31) (by decide) (Nat.le_of_ble_eq_true rfl) rfl (fs' := [.ref 44, .ref 46, .ref 48, .ref 50, .ref 52, .null, .null, .null, yi 0, yi 0, yi 0]) rfl (fun H36 e37 f38 => ?_)
  have N_H36 : H36.1 = 53 := f38.1.trans N_H33
  refine E_run hk 2 (j' := 28) (lv' := [(0, .ref 43)]) (st' := [yi 39, .ref 43]) (hp' := H36) rfl ?_
  refine Y_newIN (A := 53) N_H36 (a := 39) (by omega) hk rfl (fun H39 e40 f41 => ?_)
  have N_H39 : H39.1 = 54 := f41.1.trans (congrArg Nat.succ N_H36)
  refine Y_put hk rfl (f41.at (by decide) e37) (by decide) (Nat.le_of_ble_eq_true rfl) rfl (fs' := [.ref 44, .ref 46, .ref 48, .ref 50, .ref 52, .ref 53, .null, .null, yi 0, yi 0, yi 0]) rfl (fun H42 e43 f44 => ?_)
  have N_H42 : H42.1 = 54 := f44.1.trans N_H39
  refine E_run hk 2 (j' := 32) (lv' := [(0, .ref 43)]) (st' := [yi 20, .ref 43]) (hp' := H42) rfl ?_
  refine Y_newIN (A := 54) N_H42 (a := 20) (by omega) hk rfl (fun H45 e46 f47 => ?_)
  have N_H45 : H45.1 = 55 := f47.1.trans (congrArg Nat.succ N_H42)
  refine Y_put hk rfl (f47.at (by decide) e43) (by decide) (Nat.le_of_ble_eq_true rfl) rfl (fs' := [.ref 44, .ref 46, .ref 48, .ref 50, .ref 52, .ref 53, .ref 54, .null, yi 0, yi 0, yi 0]) rfl (fun H48 e49 f50 => ?_)
  have N_H48 : H48.1 = 55 := f50.1.trans N_H45
  refine E_run hk 2 (j' := 36) (lv' := [(0, .ref 43)]) (st' := [yi 20, .ref 43]) (hp' := H48) rfl ?_
  refine Y_newIN (A := 55) N_H48 (a := 20) (by omega) hk rfl (fun H51 e52 f53 => ?_)
  have N_H51 : H51.1 = 56 := f53.1.trans (congrArg Nat.succ N_H48)
  refine Y_put hk rfl (f53.at (by decide) e49) (by decide) (Nat.le_of_ble_eq_true rfl) rfl (fs' := [.ref 44, .ref 46, .ref 48, .ref 50, .ref 52, .ref 53, .ref 54, .ref 55, yi 0, yi 0, yi 0]) rfl (fun H54 e55 f56 => ?_)
  have N_H54 : H54.1 = 56 := f56.1.trans N_H51
  refine E_run hk 2 (j' := 40) (lv' := [(0, .ref 43)]) (st' := [yi 0, .ref 43]) (hp' := H54) rfl ?_
  refine Y_put hk rfl e55 (by decide) (Nat.le_of_ble_eq_true rfl) rfl (fs' := [.ref 44, .ref 46, .ref 48, .ref 50, .ref 52, .ref 53, .ref 54, .ref 55, yi 0, yi 0, yi 0]) rfl (fun H57 e58 f59 => ?_)
  have N_H57 : H57.1 = 56 := f59.1.trans N_H54
  refine E_run hk 2 (j' := 43) (lv' := [(0, .ref 43)]) (st' := [yi 0, .ref 43]) (hp' := H57) rfl ?_
  refine Y_put hk rfl e58 (by decide) (Nat.le_of_ble_eq_true rfl) rfl (fs' := [.ref 44, .ref 46, .ref 48, .ref 50, .ref 52, .ref 53, .ref 54, .ref 55, yi 0, yi 0, yi 0]) rfl (fun H60 e61 f62 => ?_)
  have N_H60 : H60.1 = 56 := f62.1.trans N_H57
  refine E_run hk 2 (j' := 46) (lv' := [(0, .ref 43)]) (st' := [yi 0, .ref 43]) (hp' := H60) rfl ?_
  refine Y_put hk rfl e61 (by decide) (Nat.le_of_ble_eq_true rfl) rfl (fs' := [.ref 44, .ref 46, .ref 48, .ref 50, .ref 52, .ref 53, .ref 54, .ref 55, yi 0, yi 0, yi 0]) rfl (fun H63 e64 f65 => ?_)
  have N_H63 : H63.1 = 56 := f65.1.trans N_H60
  exact E_ret hk rfl rfl ⟨rfl, e64, (f65.at (by decide) (f62.at (by decide) (f59.at (by decide) (f56.at (by decide) (f53.at (by decide) (f50.at (by decide) (f47.at (by decide) (f44.at (by decide) (f41.at (by decide) (f38.at (by decide) (f35.at (by decide) (f32.at (by decide) (f_H28.at (by decide) (by rw [N_H25]; decide) (f27.at (by decide) (f24.at (by decide) (f_H20.at (by decide) (by rw [N_H17]; decide) (f19.at (by decide) (f16.at (by decide) (f_H12.at (by decide) (by rw [N_H9]; decide) (f11.at (by decide) (f8.at (by decide) e1_H4))))))))))))))))))))), (f65.at (by decide) (f62.at (by decide) (f59.at (by decide) (f56.at (by decide) (f53.at (by decide) (f50.at (by decide) (f47.at (by decide) (f44.at (by decide) (f41.at (by decide) (f38.at (by decide) (f35.at (by decide) (f32.at (by decide) (f_H28.at (by decide) (by rw [N_H25]; decide) (f27.at (by decide) (f24.at (by decide) (f_H20.at (by decide) (by rw [N_H17]; decide) (f19.at (by decide) (f16.at (by decide) (f_H12.at (by decide) (by rw [N_H9]; decide) (f11.at (by decide) (f8.at (by decide) e2_H4))))))))))))))))))))), (f65.at (by decide) (f62.at (by decide) (f59.at (by decide) (f56.at (by decide) (f53.at (by decide) (f50.at (by decide) (f47.at (by decide) (f44.at (by decide) (f41.at (by decide) (f38.at (by decide) (f35.at (by decide) (f32.at (by decide) (f_H28.at (by decide) (by rw [N_H25]; decide) (f27.at (by decide) (f24.at (by decide) (f_H20.at (by decide) (by rw [N_H17]; decide) (f19.at (by decide) (f16.at (by decide) e1_H12)))))))))))))))))), (f65.at (by decide) (f62.at (by decide) (f59.at (by decide) (f56.at (by decide) (f53.at (by decide) (f50.at (by decide) (f47.at (by decide) (f44.at (by decide) (f41.at (by decide) (f38.at (by decide) (f35.at (by decide) (f32.at (by decide) (f_H28.at (by decide) (by rw [N_H25]; decide) (f27.at (by decide) (f24.at (by decide) (f_H20.at (by decide) (by rw [N_H17]; decide) (f19.at (by decide) (f16.at (by decide) e2_H12)))))))))))))))))), (f65.at (by decide) (f62.at (by decide) (f59.at (by decide) (f56.at (by decide) (f53.at (by decide) (f50.at (by decide) (f47.at (by decide) (f44.at (by decide) (f41.at (by decide) (f38.at (by decide) (f35.at (by decide) (f32.at (by decide) (f_H28.at (by decide) (by rw [N_H25]; decide) (f27.at (by decide) (f24.at (by decide) e1_H20))))))))))))))), (f65.at (by decide) (f62.at (by decide) (f59.at (by decide) (f56.at (by decide) (f53.at (by decide) (f50.at (by decide) (f47.at (by decide) (f44.at (by decide) (f41.at (by decide) (f38.at (by decide) (f35.at (by decide) (f32.at (by decide) (f_H28.at (by decide) (by rw [N_H25]; decide) (f27.at (by decide) (f24.at (by decide) e2_H20))))))))))))))), (f65.at (by decide) (f62.at (by decide) (f59.at (by decide) (f56.at (by decide) (f53.at (by decide) (f50.at (by decide) (f47.at (by decide) (f44.at (by decide) (f41.at (by decide) (f38.at (by decide) (f35.at (by decide) (f32.at (by decide) e1_H28)))))))))))), (f65.at (by decide) (f62.at (by decide) (f59.at (by decide) (f56.at (by decide) (f53.at (by decide) (f50.at (by decide) (f47.at (by decide) (f44.at (by decide) (f41.at (by decide) (f38.at (by decide) (f35.at (by decide) (f32.at (by decide) e2_H28)))))))))))), (f65.at (by decide) (f62.at (by decide) (f59.at (by decide) (f56.at (by decide) (f53.at (by decide) (f50.at (by decide) (f47.at (by decide) (f44.at (by decide) (f41.at (by decide) (f38.at (by decide) e34)))))))))), (f65.at (by decide) (f62.at (by decide) (f59.at (by decide) (f56.at (by decide) (f53.at (by decide) (f50.at (by decide) (f47.at (by decide) (f44.at (by decide) e40)))))))), (f65.at (by decide) (f62.at (by decide) (f59.at (by decide) (f56.at (by decide) (f53.at (by decide) (f50.at (by decide) e46)))))), (f65.at (by decide) (f62.at (by decide) (f59.at (by decide) (f56.at (by decide) e52)))), ((((((((((((((((((((((((yfa.refl [43] hp).w f3).tr f_H4 (fun i hi => by simp only [List.mem_cons, List.not_mem_nil, or_false] at hi ⊢; omega)).fr f8 (fun i hi => by simp only [List.mem_cons, List.not_mem_nil, or_false] at hi ⊢; omega)).w f11).tr f_H12 (fun i hi => by simp only [List.mem_cons, List.not_mem_nil, or_false] at hi ⊢; omega)).fr f16 (fun i hi => by simp only [List.mem_cons, List.not_mem_nil, or_false] at hi ⊢; omega)).w f19).tr f_H20 (fun i hi => by simp only [List.mem_cons, List.not_mem_nil, or_false] at hi ⊢; omega)).fr f24 (fun i hi => by simp only [List.mem_cons, List.not_mem_nil, or_false] at hi ⊢; omega)).w f27).tr f_H28 (fun i hi => by simp only [List.mem_cons, List.not_mem_nil, or_false] at hi ⊢; omega)).fr f32 (fun i hi => by simp only [List.mem_cons, List.not_mem_nil, or_false] at hi ⊢; omega)).w f35).fr f38 (fun i hi => by simp only [List.mem_cons, List.not_mem_nil, or_false] at hi ⊢; omega)).w f41).fr f44 (fun i hi => by simp only [List.mem_cons, List.not_mem_nil, or_false] at hi ⊢; omega)).w f47).fr f50 (fun i hi => by simp only [List.mem_cons, List.not_mem_nil, or_false] at hi ⊢; omega)).w f53).fr f56 (fun i hi => by simp only [List.mem_cons, List.not_mem_nil, or_false] at hi ⊢; omega)).fr f59 (fun i hi => by simp only [List.mem_cons, List.not_mem_nil, or_false] at hi ⊢; omega)).fr f62 (fun i hi => by simp only [List.mem_cons, List.not_mem_nil, or_false] at hi ⊢; omega)).fr f65 (fun i hi => by simp only [List.mem_cons, List.not_mem_nil, or_false] at hi ⊢; omega))⟩
theorem c_X3_init {d : Nat} {hp : xH} (ha : xat hp 58 = some (.inr (4, [.null, .null, yi 0, yi 0, yi 0, yi 0, yi 0]))) (N_hp : hp.1 = 59) (hd : 1 ≤ d) : Cv d 23 [.ref 58] hp (yR none (fun h => xat h 58 = some (.inr (4, [.ref 59, .ref 61, yi 0, yi 0, yi 0, yi 1000000000, yi (-1)])) ∧ xat h 59 = some (.inr (1, [.ref 60])) ∧ xat h 60 = some (yI 400 (fun _ => 0)) ∧ xat h 61 = some (.inr (1, [.ref 62])) ∧ xat h 62 = some (yI 400 (fun _ => 0)) ∧ yfa [58] 4 802 hp h)) := by
  have hk : xtab 23 = (xc_23, 1, 0, []) := rfl
  obtain ⟨d, rfl⟩ : ∃ e, d = e + 1 := ⟨d - 1, by omega⟩
  show Ev (d + 1) 23 0 [(0, .ref 58)] [] hp _
  refine E_run hk 1 (j' := 1) (lv' := [(0, .ref 58)]) (st' := [.ref 58]) (hp' := hp) rfl ?_
  refine Y_obj hk rfl ha (Nat.le_of_ble_eq_true rfl) ?_
  refine E_run hk 1 (j' := 3) (lv' := [(0, .ref 58)]) (st' := [.ref 58]) (hp' := hp) rfl ?_
  refine Y_newN (A := 59) N_hp hk rfl (fs := [.null]) rfl (fun H1 e2 f3 => ?_)
  have N_H1 : H1.1 = 60 := f3.1.trans (congrArg Nat.succ N_hp)
  refine E_run hk 1 (j' := 5) (lv' := [(0, .ref 58)]) (st' := [.ref 59, .ref 59, .ref 58]) (hp' := H1) rfl ?_
  refine Y_call hk rfl (as := [.ref 59]) (rest := [.ref 59, .ref 58]) (v := none) rfl rfl (Nat.le_of_ble_eq_true rfl) (rcv3 e2) (Nat.le_of_ble_eq_true rfl) (c_X0_init (a := 59) e2 ⟨by decide, by rw [N_H1]; decide⟩) (fun H4 r5 => ?_)
  obtain ⟨e1_H4, e2_H4, f_H4⟩ := r5
  rw [N_H1] at e1_H4 e2_H4
  have N_H4 : H4.1 = 61 := f_H4.1.trans (congrArg Nat.succ N_H1)
  refine Y_put hk rfl (f_H4.at (by decide) (by rw [N_H1]; decide) (f3.at (by decide) ha)) (by decide) (Nat.le_of_ble_eq_true rfl) rfl (fs' := [.ref 59, .null, yi 0, yi 0, yi 0, yi 0, yi 0]) rfl (fun H6 e7 f8 => ?_)
  have N_H6 : H6.1 = 61 := f8.1.trans N_H4
  refine E_run hk 1 (j' := 8) (lv' := [(0, .ref 58)]) (st' := [.ref 58]) (hp' := H6) rfl ?_
  refine Y_newN (A := 61) N_H6 hk rfl (fs := [.null]) rfl (fun H9 e10 f11 => ?_)
  have N_H9 : H9.1 = 62 := f11.1.trans (congrArg Nat.succ N_H6)
  refine E_run hk 1 (j' := 10) (lv' := [(0, .ref 58)]) (st' := [.ref 61, .ref 61, .ref 58]) (hp' := H9) rfl ?_
  refine Y_call hk rfl (as := [.ref 61]) (rest := [.ref 61, .ref 58]) (v := none) rfl rfl (Nat.le_of_ble_eq_true rfl) (rcv3 e10) (Nat.le_of_ble_eq_true rfl) (c_X0_init (a := 61) e10 ⟨by decide, by rw [N_H9]; decide⟩) (fun H12 r13 => ?_)
  obtain ⟨e1_H12, e2_H12, f_H12⟩ := r13
  rw [N_H9] at e1_H12 e2_H12
  have N_H12 : H12.1 = 63 := f_H12.1.trans (congrArg Nat.succ N_H9)
  refine Y_put hk rfl (f_H12.at (by decide) (by rw [N_H9]; decide) (f11.at (by decide) e7)) (by decide) (Nat.le_of_ble_eq_true rfl) rfl (fs' := [.ref 59, .ref 61, yi 0, yi 0, yi 0, yi 0, yi 0]) rfl (fun H14 e15 f16 => ?_)
  have N_H14 : H14.1 = 63 := f16.1.trans N_H12
  refine E_run hk 2 (j' := 14) (lv' := [(0, .ref 58)]) (st' := [yi 0, .ref 58]) (hp' := H14) rfl ?_
  refine Y_put hk rfl e15 (by decide) (Nat.le_of_ble_eq_true rfl) rfl (fs' := [.ref 59, .ref 61, yi 0, yi 0, yi 0, yi 0, yi 0]) rfl (fun H17 e18 f19 => ?_)
  have N_H17 : H17.1 = 63 := f19.1.trans N_H14
  refine E_run hk 2 (j' := 17) (lv' := [(0, .ref 58)]) (st' := [yi 0, .ref 58]) (hp' := H17) rfl ?_
  refine Y_put hk rfl e18 (by decide) (Nat.le_of_ble_eq_true rfl) rfl (fs' := [.ref 59, .ref 61, yi 0, yi 0, yi 0, yi 0, yi 0]) rfl (fun H20 e21 f22 => ?_)
  have N_H20 : H20.1 = 63 := f22.1.trans N_H17
  refine E_run hk 2 (j' := 20) (lv' := [(0, .ref 58)]) (st' := [yi 0, .ref 58]) (hp' := H20) rfl ?_
  refine Y_put hk rfl e21 (by decide) (Nat.le_of_ble_eq_true rfl) rfl (fs' := [.ref 59, .ref 61, yi 0, yi 0, yi 0, yi 0, yi 0]) rfl (fun H23 e24 f25 => ?_)
  have N_H23 : H23.1 = 63 := f25.1.trans N_H20
  refine E_run hk 2 (j' := 23) (lv' := [(0, .ref 58)]) (st' := [yi 1000000000, .ref 58]) (hp' := H23) rfl ?_
  refine Y_put hk rfl e24 (by decide) (Nat.le_of_ble_eq_true rfl) rfl (fs' := [.ref 59, .ref 61, yi 0, yi 0, yi 0, yi 1000000000, yi 0]) rfl (fun H26 e27 f28 => ?_)
  have N_H26 : H26.1 = 63 := f28.1.trans N_H23
  refine E_run hk 2 (j' := 26) (lv' := [(0, .ref 58)]) (st' := [yi (-1), .ref 58]) (hp' := H26) rfl ?_
  refine Y_put hk rfl e27 (by decide) (Nat.le_of_ble_eq_true rfl) rfl (fs' := [.ref 59, .ref 61, yi 0, yi 0, yi 0, yi 1000000000, yi (-1)]) rfl (fun H29 e30 f31 => ?_)
  have N_H29 : H29.1 = 63 := f31.1.trans N_H26
  exact E_ret hk rfl rfl ⟨rfl, e30, (f31.at (by decide) (f28.at (by decide) (f25.at (by decide) (f22.at (by decide) (f19.at (by decide) (f16.at (by decide) (f_H12.at (by decide) (by rw [N_H9]; decide) (f11.at (by decide) (f8.at (by decide) e1_H4))))))))), (f31.at (by decide) (f28.at (by decide) (f25.at (by decide) (f22.at (by decide) (f19.at (by decide) (f16.at (by decide) (f_H12.at (by decide) (by rw [N_H9]; decide) (f11.at (by decide) (f8.at (by decide) e2_H4))))))))), (f31.at (by decide) (f28.at (by decide) (f25.at (by decide) (f22.at (by decide) (f19.at (by decide) (f16.at (by decide) e1_H12)))))), (f31.at (by decide) (f28.at (by decide) (f25.at (by decide) (f22.at (by decide) (f19.at (by decide) (f16.at (by decide) e2_H12)))))), ((((((((((((yfa.refl [58] hp).w f3).tr f_H4 (fun i hi => by simp only [List.mem_cons, List.not_mem_nil, or_false] at hi ⊢; omega)).fr f8 (fun i hi => by simp only [List.mem_cons, List.not_mem_nil, or_false] at hi ⊢; omega)).w f11).tr f_H12 (fun i hi => by simp only [List.mem_cons, List.not_mem_nil, or_false] at hi ⊢; omega)).fr f16 (fun i hi => by simp only [List.mem_cons, List.not_mem_nil, or_false] at hi ⊢; omega)).fr f19 (fun i hi => by simp only [List.mem_cons, List.not_mem_nil, or_false] at hi ⊢; omega)).fr f22 (fun i hi => by simp only [List.mem_cons, List.not_mem_nil, or_false] at hi ⊢; omega)).fr f25 (fun i hi => by simp only [List.mem_cons, List.not_mem_nil, or_false] at hi ⊢; omega)).fr f28 (fun i hi => by simp only [List.mem_cons, List.not_mem_nil, or_false] at hi ⊢; omega)).fr f31 (fun i hi => by simp only [List.mem_cons, List.not_mem_nil, or_false] at hi ⊢; omega))⟩
/-- a new object of the class, at 28 -/
abbrev nX8 (h : xH) : Prop := xat h 28 = some (.inr (8, [.ref 29, .ref 34, .ref 35, yi 0, .ref 40, yi 0, .ref 41, .ref 43, yi 1, .ref 56, .ref 58])) ∧ yS h 29 30 32 sini (fun _ => 0) (fun _ => 0) 0 0 ∧ xat h 34 = some (.inr (0, [yi 0, .ref 26, yi 0])) ∧ yS h 35 36 38 sini (fun _ => 0) (fun _ => 0) 0 0 ∧ xat h 40 = some (yI 60 (fun _ => 0)) ∧ xat h 41 = some (.inr (5, [.ref 42, yi 0, yi 0, .ref 0, yi 0, yi 0])) ∧ xat h 42 = some (yI 30 (fun _ => 0)) ∧ (xat h 43 = some (.inr (3, [.ref 44, .ref 46, .ref 48, .ref 50, .ref 52, .ref 53, .ref 54, .ref 55, yi 0, yi 0, yi 0])) ∧ xat h 44 = some (.inr (1, [.ref 45])) ∧ xat h 45 = some (yI 400 (fun _ => 0)) ∧ xat h 46 = some (.inr (1, [.ref 47])) ∧ xat h 47 = some (yI 400 (fun _ => 0)) ∧ xat h 48 = some (.inr (1, [.ref 49])) ∧ xat h 49 = some (yI 400 (fun _ => 0)) ∧ xat h 50 = some (.inr (1, [.ref 51])) ∧ xat h 51 = some (yI 400 (fun _ => 0)) ∧ xat h 52 = some (yI 39 (fun _ => 0)) ∧ xat h 53 = some (yI 39 (fun _ => 0)) ∧ xat h 54 = some (yI 20 (fun _ => 0)) ∧ xat h 55 = some (yI 20 (fun _ => 0))) ∧ xat h 56 = some (.inr (1, [.ref 57])) ∧ xat h 57 = some (yI 400 (fun _ => 0)) ∧ (xat h 58 = some (.inr (4, [.ref 59, .ref 61, yi 0, yi 0, yi 0, yi 1000000000, yi (-1)])) ∧ xat h 59 = some (.inr (1, [.ref 60])) ∧ xat h 60 = some (yI 400 (fun _ => 0)) ∧ xat h 61 = some (.inr (1, [.ref 62])) ∧ xat h 62 = some (yI 400 (fun _ => 0)))
theorem c_X8_init {d : Nat} {hp : xH} (ha : xat hp 28 = some (.inr (8, [.null, .null, .null, yi 0, .null, yi 0, .null, .null, yi 0, .null, .null]))) (N_hp : hp.1 = 29) (hd : 3 ≤ d) : Cv d 49 [.ref 28] hp (yR none (fun h => nX8 h ∧ ∃ w, w ≤ 4000 ∧ yfa [28] 34 w hp h)) := by
  have hk : xtab 49 = (xc_49, 1, 0, []) := rfl
  obtain ⟨d, rfl⟩ : ∃ e, d = e + 1 := ⟨d - 1, by omega⟩
  show Ev (d + 1) 49 0 [(0, .ref 28)] [] hp _
  refine E_run hk 1 (j' := 1) (lv' := [(0, .ref 28)]) (st' := [.ref 28]) (hp' := hp) rfl ?_
  refine Y_obj hk rfl ha (Nat.le_of_ble_eq_true rfl) ?_
  refine E_run hk 1 (j' := 3) (lv' := [(0, .ref 28)]) (st' := [.ref 28]) (hp' := hp) rfl ?_
  refine Y_newN (A := 29) N_hp hk rfl (fs := [.null, .null, yi 0, yi 0, yi 0, yi 0, yi 0]) rfl (fun H1 e2 f3 => ?_)
  have N_H1 : H1.1 = 30 := f3.1.trans (congrArg Nat.succ N_hp)
  refine E_run hk 1 (j' := 5) (lv' := [(0, .ref 28)]) (st' := [.ref 29, .ref 29, .ref 28]) (hp' := H1) rfl ?_
  refine Y_call hk rfl (as := [.ref 29]) (rest := [.ref 29, .ref 28]) (v := none) rfl rfl (Nat.le_of_ble_eq_true rfl) (rcv3 e2) (Nat.le_of_ble_eq_true rfl) (c_X5_init (s := 29) e2 ⟨by decide, N_H1⟩ (hd := by omega)) (fun H4 r5 => ?_)
  obtain ⟨y_H4, f_H4⟩ := r5
  have N_H4 : H4.1 = 34 := by rw [f_H4.1, N_H1]
  refine Y_put hk rfl (f_H4.at (by decide) (by rw [N_H1]; decide) (f3.at (by decide) ha)) (by decide) (Nat.le_of_ble_eq_true rfl) rfl (fs' := [.ref 29, .null, .null, yi 0, .null, yi 0, .null, .null, yi 0, .null, .null]) rfl (fun H6 e7 f8 => ?_)
  have N_H6 : H6.1 = 34 := f8.1.trans N_H4
  refine E_run hk 1 (j' := 8) (lv' := [(0, .ref 28)]) (st' := [.ref 28]) (hp' := H6) rfl ?_
  refine Y_newN (A := 34) N_H6 hk rfl (fs := [yi 0, .null, yi 0]) rfl (fun H9 e10 f11 => ?_)
  have N_H9 : H9.1 = 35 := f11.1.trans (congrArg Nat.succ N_H6)
  refine E_run hk 1 (j' := 10) (lv' := [(0, .ref 28)]) (st' := [.ref 34, .ref 34, .ref 28]) (hp' := H9) rfl ?_
  refine Y_call hk rfl (as := [.ref 34]) (rest := [.ref 34, .ref 28]) (v := none) rfl rfl (Nat.le_of_ble_eq_true rfl) (rcv2 e10) (Nat.le_of_ble_eq_true rfl) (c_Jx4a65c_init_da8c8 (a := 34) e10 (by decide) (hd := by omega)) (fun H12 r13 => ?_)
  obtain ⟨e1_H12, f_H12⟩ := r13
  have N_H12 : H12.1 = 35 := f_H12.1.trans N_H9
  refine Y_put hk rfl (f_H12.at (by decide) (f11.at (by decide) e7)) (by decide) (Nat.le_of_ble_eq_true rfl) rfl (fs' := [.ref 29, .ref 34, .null, yi 0, .null, yi 0, .null, .null, yi 0, .null, .null]) rfl (fun H14 e15 f16 => ?_)
  have N_H14 : H14.1 = 35 := f16.1.trans N_H12
  refine E_run hk 1 (j' := 13) (lv' := [(0, .ref 28)]) (st' := [.ref 28]) (hp' := H14) rfl ?_
  refine Y_newN (A := 35) N_H14 hk rfl (fs := [.null, .null, yi 0, yi 0, yi 0, yi 0, yi 0]) rfl (fun H17 e18 f19 => ?_)
  have N_H17 : H17.1 = 36 := f19.1.trans (congrArg Nat.succ N_H14)
  refine E_run hk 1 (j' := 15) (lv' := [(0, .ref 28)]) (st' := [.ref 35, .ref 35, .ref 28]) (hp' := H17) rfl ?_
  refine Y_call hk rfl (as := [.ref 35]) (rest := [.ref 35, .ref 28]) (v := none) rfl rfl (Nat.le_of_ble_eq_true rfl) (rcv3 e18) (Nat.le_of_ble_eq_true rfl) (c_X5_init (s := 35) e18 ⟨by decide, N_H17⟩ (hd := by omega)) (fun H20 r21 => ?_)
  obtain ⟨y_H20, f_H20⟩ := r21
  have N_H20 : H20.1 = 40 := by rw [f_H20.1, N_H17]
  refine Y_put hk rfl (f_H20.at (by decide) (by rw [N_H17]; decide) (f19.at (by decide) e15)) (by decide) (Nat.le_of_ble_eq_true rfl) rfl (fs' := [.ref 29, .ref 34, .ref 35, yi 0, .null, yi 0, .null, .null, yi 0, .null, .null]) rfl (fun H22 e23 f24 => ?_)
  have N_H22 : H22.1 = 40 := f24.1.trans N_H20
  refine E_run hk 2 (j' := 19) (lv' := [(0, .ref 28)]) (st' := [yi 0, .ref 28]) (hp' := H22) rfl ?_
  refine Y_put hk rfl e23 (by decide) (Nat.le_of_ble_eq_true rfl) rfl (fs' := [.ref 29, .ref 34, .ref 35, yi 0, .null, yi 0, .null, .null, yi 0, .null, .null]) rfl (fun H25 e26 f27 => ?_)
  have N_H25 : H25.1 = 40 := f27.1.trans N_H22
  refine E_run hk 2 (j' := 22) (lv' := [(0, .ref 28)]) (st' := [yi 60, .ref 28]) (hp' := H25) rfl ?_
  refine Y_newIN (A := 40) N_H25 (a := 60) (by omega) hk rfl (fun H28 e29 f30 => ?_)
  have N_H28 : H28.1 = 41 := f30.1.trans (congrArg Nat.succ N_H25)
  refine Y_put hk rfl (f30.at (by decide) e26) (by decide) (Nat.le_of_ble_eq_true rfl) rfl (fs' := [.ref 29, .ref 34, .ref 35, yi 0, .ref 40, yi 0, .null, .null, yi 0, .null, .null]) rfl (fun H31 e32 f33 => ?_)
  have N_H31 : H31.1 = 41 := f33.1.trans N_H28
  refine E_run hk 2 (j' := 26) (lv' := [(0, .ref 28)]) (st' := [yi 0, .ref 28]) (hp' := H31) rfl ?_
  refine Y_put hk rfl e32 (by decide) (Nat.le_of_ble_eq_true rfl) rfl (fs' := [.ref 29, .ref 34, .ref 35, yi 0, .ref 40, yi 0, .null, .null, yi 0, .null, .null]) rfl (fun H34 e35 f36 => ?_)
  have N_H34 : H34.1 = 41 := f36.1.trans N_H31
  refine E_run hk 1 (j' := 28) (lv' := [(0, .ref 28)]) (st' := [.ref 28]) (hp' := H34) rfl ?_
  refine Y_newN (A := 41) N_H34 hk rfl (fs := [.null, yi 0, yi 0, .null, yi 0, yi 0]) rfl (fun H37 e38 f39 => ?_)
  have N_H37 : H37.1 = 42 := f39.1.trans (congrArg Nat.succ N_H34)
  refine E_run hk 1 (j' := 30) (lv' := [(0, .ref 28)]) (st' := [.ref 41, .ref 41, .ref 28]) (hp' := H37) rfl ?_
  refine Y_call hk rfl (as := [.ref 41]) (rest := [.ref 41, .ref 28]) (v := none) rfl rfl (Nat.le_of_ble_eq_true rfl) (rcv3 e38) (Nat.le_of_ble_eq_true rfl) (c_X4_init (a := 41) e38 ⟨by decide, by rw [N_H37]; decide⟩) (fun H40 r41 => ?_)
  obtain ⟨e1_H40, e2_H40, f_H40⟩ := r41
  rw [N_H37] at e1_H40 e2_H40
  have N_H40 : H40.1 = 43 := f_H40.1.trans (congrArg Nat.succ N_H37)
  refine Y_put hk rfl (f_H40.at (by decide) (by rw [N_H37]; decide) (f39.at (by decide) e35)) (by decide) (Nat.le_of_ble_eq_true rfl) rfl (fs' := [.ref 29, .ref 34, .ref 35, yi 0, .ref 40, yi 0, .ref 41, .null, yi 0, .null, .null]) rfl (fun H42 e43 f44 => ?_)
  have N_H42 : H42.1 = 43 := f44.1.trans N_H40
  refine E_run hk 1 (j' := 33) (lv' := [(0, .ref 28)]) (st' := [.ref 28]) (hp' := H42) rfl ?_
  refine Y_newN (A := 43) N_H42 hk rfl (fs := [.null, .null, .null, .null, .null, .null, .null, .null, yi 0, yi 0, yi 0]) rfl (fun H45 e46 f47 => ?_)
  have N_H45 : H45.1 = 44 := f47.1.trans (congrArg Nat.succ N_H42)
  refine E_run hk 1 (j' := 35) (lv' := [(0, .ref 28)]) (st' := [.ref 43, .ref 43, .ref 28]) (hp' := H45) rfl ?_
  refine Y_call hk rfl (as := [.ref 43]) (rest := [.ref 43, .ref 28]) (v := none) rfl rfl (Nat.le_of_ble_eq_true rfl) (rcv3 e46) (Nat.le_of_ble_eq_true rfl) (c_X2_init e46 N_H45 (hd := by omega)) (fun H48 r49 => ?_)
  obtain ⟨c43_H48, c44_H48, c45_H48, c46_H48, c47_H48, c48_H48, c49_H48, c50_H48, c51_H48, c52_H48, c53_H48, c54_H48, c55_H48, f_H48⟩ := r49
  have N_H48 : H48.1 = 56 := by rw [f_H48.1, N_H45]
  refine Y_put hk rfl (f_H48.at (by decide) (by rw [N_H45]; decide) (f47.at (by decide) e43)) (by decide) (Nat.le_of_ble_eq_true rfl) rfl (fs' := [.ref 29, .ref 34, .ref 35, yi 0, .ref 40, yi 0, .ref 41, .ref 43, yi 0, .null, .null]) rfl (fun H50 e51 f52 => ?_)
  have N_H50 : H50.1 = 56 := f52.1.trans N_H48
  refine E_run hk 2 (j' := 39) (lv' := [(0, .ref 28)]) (st' := [yi 1, .ref 28]) (hp' := H50) rfl ?_
  refine Y_put hk rfl e51 (by decide) (Nat.le_of_ble_eq_true rfl) rfl (fs' := [.ref 29, .ref 34, .ref 35, yi 0, .ref 40, yi 0, .ref 41, .ref 43, yi 1, .null, .null]) rfl (fun H53 e54 f55 => ?_)
  have N_H53 : H53.1 = 56 := f55.1.trans N_H50
  refine E_run hk 1 (j' := 41) (lv' := [(0, .ref 28)]) (st' := [.ref 28]) (hp' := H53) rfl ?_
  refine Y_newN (A := 56) N_H53 hk rfl (fs := [.null]) rfl (fun H56 e57 f58 => ?_)
  have N_H56 : H56.1 = 57 := f58.1.trans (congrArg Nat.succ N_H53)
  refine E_run hk 1 (j' := 43) (lv' := [(0, .ref 28)]) (st' := [.ref 56, .ref 56, .ref 28]) (hp' := H56) rfl ?_
  refine Y_call hk rfl (as := [.ref 56]) (rest := [.ref 56, .ref 28]) (v := none) rfl rfl (Nat.le_of_ble_eq_true rfl) (rcv3 e57) (Nat.le_of_ble_eq_true rfl) (c_X0_init (a := 56) e57 ⟨by decide, by rw [N_H56]; decide⟩) (fun H59 r60 => ?_)
  obtain ⟨e1_H59, e2_H59, f_H59⟩ := r60
  rw [N_H56] at e1_H59 e2_H59
  have N_H59 : H59.1 = 58 := f_H59.1.trans (congrArg Nat.succ N_H56)
  refine Y_put hk rfl (f_H59.at (by decide) (by rw [N_H56]; decide) (f58.at (by decide) e54)) (by decide) (Nat.le_of_ble_eq_true rfl) rfl (fs' := [.ref 29, .ref 34, .ref 35, yi 0, .ref 40, yi 0, .ref 41, .ref 43, yi 1, .ref 56, .null]) rfl (fun H61 e62 f63 => ?_)
  have N_H61 : H61.1 = 58 := f63.1.trans N_H59
  refine E_run hk 1 (j' := 46) (lv' := [(0, .ref 28)]) (st' := [.ref 28]) (hp' := H61) rfl ?_
  refine Y_newN (A := 58) N_H61 hk rfl (fs := [.null, .null, yi 0, yi 0, yi 0, yi 0, yi 0]) rfl (fun H64 e65 f66 => ?_)
  have N_H64 : H64.1 = 59 := f66.1.trans (congrArg Nat.succ N_H61)
  refine E_run hk 1 (j' := 48) (lv' := [(0, .ref 28)]) (st' := [.ref 58, .ref 58, .ref 28]) (hp' := H64) rfl ?_
  refine Y_call hk rfl (as := [.ref 58]) (rest := [.ref 58, .ref 28]) (v := none) rfl rfl (Nat.le_of_ble_eq_true rfl) (rcv3 e65) (Nat.le_of_ble_eq_true rfl) (c_X3_init e65 N_H64 (hd := by omega)) (fun H67 r68 => ?_)
  obtain ⟨c58_H67, c59_H67, c60_H67, c61_H67, c62_H67, f_H67⟩ := r68
  have N_H67 : H67.1 = 63 := by rw [f_H67.1, N_H64]
  refine Y_put hk rfl (f_H67.at (by decide) (by rw [N_H64]; decide) (f66.at (by decide) e62)) (by decide) (Nat.le_of_ble_eq_true rfl) rfl (fs' := [.ref 29, .ref 34, .ref 35, yi 0, .ref 40, yi 0, .ref 41, .ref 43, yi 1, .ref 56, .ref 58]) rfl (fun H69 e70 f71 => ?_)
  have N_H69 : H69.1 = 63 := f71.1.trans N_H67
  exact E_ret hk rfl rfl (by
      refine ⟨rfl, ⟨e70, (y_H4.at2 (fun i i1 i2 => ((((((((((((((((((((((((((yfa.refl [28] H4).fr f8 (fun i hi => by simp only [List.mem_cons, List.not_mem_nil, or_false] at hi ⊢; omega)).w f11).fr f_H12 (fun i hi => by simp only [List.mem_cons, List.not_mem_nil, or_false] at hi ⊢; omega)).fr f16 (fun i hi => by simp only [List.mem_cons, List.not_mem_nil, or_false] at hi ⊢; omega)).w f19).tr f_H20 (fun i hi => by simp only [List.mem_cons, List.not_mem_nil, or_false] at hi ⊢; omega)).fr f24 (fun i hi => by simp only [List.mem_cons, List.not_mem_nil, or_false] at hi ⊢; omega)).fr f27 (fun i hi => by simp only [List.mem_cons, List.not_mem_nil, or_false] at hi ⊢; omega)).w f30).fr f33 (fun i hi => by simp only [List.mem_cons, List.not_mem_nil, or_false] at hi ⊢; omega)).fr f36 (fun i hi => by simp only [List.mem_cons, List.not_mem_nil, or_false] at hi ⊢; omega)).w f39).tr f_H40 (fun i hi => by simp only [List.mem_cons, List.not_mem_nil, or_false] at hi ⊢; omega)).fr f44 (fun i hi => by simp only [List.mem_cons, List.not_mem_nil, or_false] at hi ⊢; omega)).w f47).tr f_H48 (fun i hi => by simp only [List.mem_cons, List.not_mem_nil, or_false] at hi ⊢; omega)).fr f52 (fun i hi => by simp only [List.mem_cons, List.not_mem_nil, or_false] at hi ⊢; omega)).fr f55 (fun i hi => by simp only [List.mem_cons, List.not_mem_nil, or_false] at hi ⊢; omega)).w f58).tr f_H59 (fun i hi => by simp only [List.mem_cons, List.not_mem_nil, or_false] at hi ⊢; omega)).fr f63 (fun i hi => by simp only [List.mem_cons, List.not_mem_nil, or_false] at hi ⊢; omega)).w f66).tr f_H67 (fun i hi => by simp only [List.mem_cons, List.not_mem_nil, or_false] at hi ⊢; omega)).fr f71 (fun i hi => by simp only [List.mem_cons, List.not_mem_nil, or_false] at hi ⊢; omega))).2.2 i (by rw [N_H4]; omega) (by simp only [List.mem_cons, List.not_mem_nil, or_false]; omega))), (f71.at (by decide) (f_H67.at (by decide) (by rw [N_H64]; decide) (f66.at (by decide) (f63.at (by decide) (f_H59.at (by decide) (by rw [N_H56]; decide) (f58.at (by decide) (f55.at (by decide) (f52.at (by decide) (f_H48.at (by decide) (by rw [N_H45]; decide) (f47.at (by decide) (f44.at (by decide) (f_H40.at (by decide) (by rw [N_H37]; decide) (f39.at (by decide) (f36.at (by decide) (f33.at (by decide) (f30.at (by decide) (f27.at (by decide) (f24.at (by decide) (f_H20.at (by decide) (by rw [N_H17]; decide) (f19.at (by decide) (f16.at (by decide) e1_H12))))))))))))))))))))), (y_H20.at2 (fun i i1 i2 => ((((((((((((((((((((yfa.refl [28] H20).fr f24 (fun i hi => by simp only [List.mem_cons, List.not_mem_nil, or_false] at hi ⊢; omega)).fr f27 (fun i hi => by simp only [List.mem_cons, List.not_mem_nil, or_false] at hi ⊢; omega)).w f30).fr f33 (fun i hi => by simp only [List.mem_cons, List.not_mem_nil, or_false] at hi ⊢; omega)).fr f36 (fun i hi => by simp only [List.mem_cons, List.not_mem_nil, or_false] at hi ⊢; omega)).w f39).tr f_H40 (fun i hi => by simp only [List.mem_cons, List.not_mem_nil, or_false] at hi ⊢; omega)).fr f44 (fun i hi => by simp only [List.mem_cons, List.not_mem_nil, or_false] at hi ⊢; omega)).w f47).tr f_H48 (fun i hi => by simp only [List.mem_cons, List.not_mem_nil, or_false] at hi ⊢; omega)).fr f52 (fun i hi => by simp only [List.mem_cons, List.not_mem_nil, or_false] at hi ⊢; omega)).fr f55 (fun i hi => by simp only [List.mem_cons, List.not_mem_nil, or_false] at hi ⊢; omega)).w f58).tr f_H59 (fun i hi => by simp only [List.mem_cons, List.not_mem_nil, or_false] at hi ⊢; omega)).fr f63 (fun i hi => by simp only [List.mem_cons, List.not_mem_nil, or_false] at hi ⊢; omega)).w f66).tr f_H67 (fun i hi => by simp only [List.mem_cons, List.not_mem_nil, or_false] at hi ⊢; omega)).fr f71 (fun i hi => by simp only [List.mem_cons, List.not_mem_nil, or_false] at hi ⊢; omega))).2.2 i (by rw [N_H20]; omega) (by simp only [List.mem_cons, List.not_mem_nil, or_false]; omega))), (f71.at (by decide) (f_H67.at (by decide) (by rw [N_H64]; decide) (f66.at (by decide) (f63.at (by decide) (f_H59.at (by decide) (by rw [N_H56]; decide) (f58.at (by decide) (f55.at (by decide) (f52.at (by decide) (f_H48.at (by decide) (by rw [N_H45]; decide) (f47.at (by decide) (f44.at (by decide) (f_H40.at (by decide) (by rw [N_H37]; decide) (f39.at (by decide) (f36.at (by decide) (f33.at (by decide) e29))))))))))))))), (f71.at (by decide) (f_H67.at (by decide) (by rw [N_H64]; decide) (f66.at (by decide) (f63.at (by decide) (f_H59.at (by decide) (by rw [N_H56]; decide) (f58.at (by decide) (f55.at (by decide) (f52.at (by decide) (f_H48.at (by decide) (by rw [N_H45]; decide) (f47.at (by decide) (f44.at (by decide) e1_H40))))))))))), (f71.at (by decide) (f_H67.at (by decide) (by rw [N_H64]; decide) (f66.at (by decide) (f63.at (by decide) (f_H59.at (by decide) (by rw [N_H56]; decide) (f58.at (by decide) (f55.at (by decide) (f52.at (by decide) (f_H48.at (by decide) (by rw [N_H45]; decide) (f47.at (by decide) (f44.at (by decide) e2_H40))))))))))), ⟨(f71.at (by decide) (f_H67.at (by decide) (by rw [N_H64]; decide) (f66.at (by decide) (f63.at (by decide) (f_H59.at (by decide) (by rw [N_H56]; decide) (f58.at (by decide) (f55.at (by decide) (f52.at (by decide) c43_H48)))))))), (f71.at (by decide) (f_H67.at (by decide) (by rw [N_H64]; decide) (f66.at (by decide) (f63.at (by decide) (f_H59.at (by decide) (by rw [N_H56]; decide) (f58.at (by decide) (f55.at (by decide) (f52.at (by decide) c44_H48)))))))), (f71.at (by decide) (f_H67.at (by decide) (by rw [N_H64]; decide) (f66.at (by decide) (f63.at (by decide) (f_H59.at (by decide) (by rw [N_H56]; decide) (f58.at (by decide) (f55.at (by decide) (f52.at (by decide) c45_H48)))))))), (f71.at (by decide) (f_H67.at (by decide) (by rw [N_H64]; decide) (f66.at (by decide) (f63.at (by decide) (f_H59.at (by decide) (by rw [N_H56]; decide) (f58.at (by decide) (f55.at (by decide) (f52.at (by decide) c46_H48)))))))), (f71.at (by decide) (f_H67.at (by decide) (by rw [N_H64]; decide) (f66.at (by decide) (f63.at (by decide) (f_H59.at (by decide) (by rw [N_H56]; decide) (f58.at (by decide) (f55.at (by decide) (f52.at (by decide) c47_H48)))))))), (f71.at (by decide) (f_H67.at (by decide) (by rw [N_H64]; decide) (f66.at (by decide) (f63.at (by decide) (f_H59.at (by decide) (by rw [N_H56]; decide) (f58.at (by decide) (f55.at (by decide) (f52.at (by decide) c48_H48)))))))), (f71.at (by decide) (f_H67.at (by decide) (by rw [N_H64]; decide) (f66.at (by decide) (f63.at (by decide) (f_H59.at (by decide) (by rw [N_H56]; decide) (f58.at (by decide) (f55.at (by decide) (f52.at (by decide) c49_H48)))))))), (f71.at (by decide) (f_H67.at (by decide) (by rw [N_H64]; decide) (f66.at (by decide) (f63.at (by decide) (f_H59.at (by decide) (by rw [N_H56]; decide) (f58.at (by decide) (f55.at (by decide) (f52.at (by decide) c50_H48)))))))), (f71.at (by decide) (f_H67.at (by decide) (by rw [N_H64]; decide) (f66.at (by decide) (f63.at (by decide) (f_H59.at (by decide) (by rw [N_H56]; decide) (f58.at (by decide) (f55.at (by decide) (f52.at (by decide) c51_H48)))))))), (f71.at (by decide) (f_H67.at (by decide) (by rw [N_H64]; decide) (f66.at (by decide) (f63.at (by decide) (f_H59.at (by decide) (by rw [N_H56]; decide) (f58.at (by decide) (f55.at (by decide) (f52.at (by decide) c52_H48)))))))), (f71.at (by decide) (f_H67.at (by decide) (by rw [N_H64]; decide) (f66.at (by decide) (f63.at (by decide) (f_H59.at (by decide) (by rw [N_H56]; decide) (f58.at (by decide) (f55.at (by decide) (f52.at (by decide) c53_H48)))))))), (f71.at (by decide) (f_H67.at (by decide) (by rw [N_H64]; decide) (f66.at (by decide) (f63.at (by decide) (f_H59.at (by decide) (by rw [N_H56]; decide) (f58.at (by decide) (f55.at (by decide) (f52.at (by decide) c54_H48)))))))), (f71.at (by decide) (f_H67.at (by decide) (by rw [N_H64]; decide) (f66.at (by decide) (f63.at (by decide) (f_H59.at (by decide) (by rw [N_H56]; decide) (f58.at (by decide) (f55.at (by decide) (f52.at (by decide) c55_H48))))))))⟩, (f71.at (by decide) (f_H67.at (by decide) (by rw [N_H64]; decide) (f66.at (by decide) (f63.at (by decide) e1_H59)))), (f71.at (by decide) (f_H67.at (by decide) (by rw [N_H64]; decide) (f66.at (by decide) (f63.at (by decide) e2_H59)))), ⟨(f71.at (by decide) c58_H67), (f71.at (by decide) c59_H67), (f71.at (by decide) c60_H67), (f71.at (by decide) c61_H67), (f71.at (by decide) c62_H67)⟩⟩, _, ?_, (((((((((((((((((((((((((((yfa.refl [28] hp).w f3).tr f_H4 (fun i hi => by simp only [List.mem_cons, List.not_mem_nil, or_false] at hi ⊢; omega)).fr f8 (fun i hi => by simp only [List.mem_cons, List.not_mem_nil, or_false] at hi ⊢; omega)).w f11).fr f_H12 (fun i hi => by simp only [List.mem_cons, List.not_mem_nil, or_false] at hi ⊢; omega)).fr f16 (fun i hi => by simp only [List.mem_cons, List.not_mem_nil, or_false] at hi ⊢; omega)).w f19).tr f_H20 (fun i hi => by simp only [List.mem_cons, List.not_mem_nil, or_false] at hi ⊢; omega)).fr f24 (fun i hi => by simp only [List.mem_cons, List.not_mem_nil, or_false] at hi ⊢; omega)).fr f27 (fun i hi => by simp only [List.mem_cons, List.not_mem_nil, or_false] at hi ⊢; omega)).w f30).fr f33 (fun i hi => by simp only [List.mem_cons, List.not_mem_nil, or_false] at hi ⊢; omega)).fr f36 (fun i hi => by simp only [List.mem_cons, List.not_mem_nil, or_false] at hi ⊢; omega)).w f39).tr f_H40 (fun i hi => by simp only [List.mem_cons, List.not_mem_nil, or_false] at hi ⊢; omega)).fr f44 (fun i hi => by simp only [List.mem_cons, List.not_mem_nil, or_false] at hi ⊢; omega)).w f47).tr f_H48 (fun i hi => by simp only [List.mem_cons, List.not_mem_nil, or_false] at hi ⊢; omega)).fr f52 (fun i hi => by simp only [List.mem_cons, List.not_mem_nil, or_false] at hi ⊢; omega)).fr f55 (fun i hi => by simp only [List.mem_cons, List.not_mem_nil, or_false] at hi ⊢; omega)).w f58).tr f_H59 (fun i hi => by simp only [List.mem_cons, List.not_mem_nil, or_false] at hi ⊢; omega)).fr f63 (fun i hi => by simp only [List.mem_cons, List.not_mem_nil, or_false] at hi ⊢; omega)).w f66).tr f_H67 (fun i hi => by simp only [List.mem_cons, List.not_mem_nil, or_false] at hi ⊢; omega)).fr f71 (fun i hi => by simp only [List.mem_cons, List.not_mem_nil, or_false] at hi ⊢; omega))⟩
      decide)
