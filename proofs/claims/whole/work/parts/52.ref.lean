/-- the cost of the best match if the tune 1 were shifted by b and the bound were u; 100000000: none -/
def cst (S : Int → Int) (b u : Int) : Int := if S 0 = 0 ∨ S 1 = 0 then 100000000 else fw (unl S b) (S 3) u (S 0 - 1) (S 1 - 1)
theorem cst_rng {S : Int → Int} {b u : Int} (hz : 0 ≤ S 0 ∧ S 0 ≤ 20 ∧ 0 ≤ S 1 ∧ S 1 ≤ 20 ∧ 0 ≤ S 2 ∧ S 2 ≤ 20 ∧ 0 ≤ S 3 ∧ S 3 ≤ 50 ∧ 0 ≤ S 4 ∧ S 4 ≤ 3) (h0 : ∀ q, 0 ≤ q → q < S 0 → 0 ≤ S (7 + q) ∧ S (7 + q) ≤ 60) (h1 : ∀ q, 0 ≤ q → q < S 1 → 0 ≤ S (27 + q) ∧ S (27 + q) ≤ 60) (hb : -12 ≤ b ∧ b ≤ 12) : 0 ≤ cst S b u ∧ cst S b u ≤ 100000000 := by
  unfold cst
  split
  · decide
  · have h := fw_rng (w := S 3) (b := u) (m := S 0) (n := S 1) (D := unl S b) (by omega) (fun i j a1 a2 a3 a4 => unl_rng hz h0 h1 hb a1 a2 a3 a4) _ (S 0 - 1) (S 1 - 1) (by omega) (by omega) rfl
    omega
def sh1 (F : Int → Int) (s : Int × Int) (x : Int) : Int × Int := if F x < s.2 then (x, F x) else s
/-- the best shift of those no farther than n, and its cost -/
def shb (F : Int → Int) : Nat → Int × Int
  | 0 => (0, F 0)
  | k + 1 => sh1 F (sh1 F (shb F k) ((k : Int) + 1)) (-((k : Int) + 1))
theorem shb_s {F : Int → Int} {i : Int} (h : 1 ≤ i) : shb F (i + 1 - 1).toNat = sh1 F (sh1 F (shb F (i - 1).toNat) i) (-i) := by
  rw [show (i + 1 - 1).toNat = (i - 1).toNat + 1 by omega]
  show sh1 F (sh1 F (shb F (i - 1).toNat) (((i - 1).toNat : Int) + 1)) (-(((i - 1).toNat : Int) + 1)) = _
  rw [show (((i - 1).toNat : Nat) : Int) = i - 1 by omega, show i - 1 + 1 = i by omega]
theorem sh1_t {F : Int → Int} {s : Int × Int} {x : Int} (h : F x < s.2) : sh1 F s x = (x, F x) := if_pos h
theorem sh1_f {F : Int → Int} {s : Int × Int} {x : Int} (h : ¬ F x < s.2) : sh1 F s x = s := if_neg h
theorem c_X9_shiftBest {d : Nat} {hp : xH} {v : Nat → Int} (hM : xat hp 63 = some (yMo v)) {S : Int → Int} (hS : xat hp 64 = some (yI 47 S)) (hz : 0 ≤ S 0 ∧ S 0 ≤ 20 ∧ 0 ≤ S 1 ∧ S 1 ≤ 20 ∧ 0 ≤ S 2 ∧ S 2 ≤ 20 ∧ 0 ≤ S 3 ∧ S 3 ≤ 50 ∧ 0 ≤ S 4 ∧ S 4 ≤ 3) (h0 : ∀ q, 0 ≤ q → q < S 0 → 0 ≤ S (7 + q) ∧ S (7 + q) ≤ 60) (h1 : ∀ q, 0 ≤ q → q < S 1 → 0 ≤ S (27 + q) ∧ S (27 + q) ≤ 60) {f : Int → Int} (hA : xat hp 70 = some (yI 400 f)) (hd : 3 ≤ d) : Cv d 177 [.ref 63] hp (yR (some (yi ((shb (fun x => cst S x (S 2)) 12).1))) (fun h => ∃ g, xat h 70 = some (yI 400 g) ∧ yfr [70] hp h)) := by
  have hk : xtab 177 = (xc_177, 6, 1, []) := rfl
  obtain ⟨d, rfl⟩ : ∃ e, d = e + 1 := ⟨d - 1, by omega⟩
  have w0 := cst_rng (b := 0) (u := S 2) hz h0 h1 (by omega)
  show Ev (d + 1) 177 0 [(0, .ref 63)] [] hp _
  refine E_run hk 5 (j' := 5) (lv' := [(1, yi 0), (0, .ref 63)]) (st' := [.ref 63, yi 0, .ref 63]) (hp' := hp) rfl ?_
  refine E_get (v := .ref 64) hk rfl hM rfl ?_
  refine E_run hk 1 (j' := 7) (lv' := [(1, yi 0), (0, .ref 63)]) (st' := [yi 2, .ref 64, yi 0, .ref 63]) (hp' := hp) rfl ?_
  refine Y_iald (a := 2) (by omega) (by decide) hk rfl hS ?_
  refine Y_call hk rfl (as := [.ref 63, yi 0, yi (S 2)]) (rest := []) (v := some (yi (cst S 0 (S 2)))) rfl rfl (Nat.le_of_ble_eq_true rfl) (rcv0 hM) (Nat.le_of_ble_eq_true rfl) (c_X9_tellsAhead (b := 0) (u := (S 2)) (v := v) hM hS hz h0 h1 hA (by omega) (by omega) (hd := by omega)) (fun H1 r2 => ?_)
  obtain ⟨A_H1, e_H1, a_H1, f_H1⟩ := r2
  refine E_run hk 3 (j' := 12) (lv' := [(3, yi 1), (2, yi (cst S 0 (S 2))), (1, yi 0), (0, .ref 63)]) (st' := []) (hp' := H1) rfl ?_
  have loop12 : ∀ (N : Nat) (k : Int) (n : Int) (l : Int) (g : Int → Int) (hl12 : xH), (1 ≤ k ∧ k ≤ 13 ∧ 0 ≤ l ∧ l ≤ 100000000) → (shb (fun x => cst S x (S 2)) (k - 1).toNat = (n, l)) → (xat hl12 70 = some (yI 400 g)) → (yfr [70] H1 hl12) → (13 - k).toNat = N → Ev (d + 1) 177 12 [(0, .ref 63), (1, yi n), (2, yi l), (3, yi k)] [] hl12 (yR (some (yi ((shb (fun x => cst S x (S 2)) 12).1))) (fun h => ∃ g, xat h 70 = some (yI 400 g) ∧ yfr [70] hp h)) := by
    intro N
    induction N using Nat.strongRecOn with
    | ind N ih12 =>
      intro k n l g hl12 J1 J2 ec12_70 fr12 hm12
      refine E_run hk 1 (j' := 13) (lv' := [(0, .ref 63), (1, yi n), (2, yi l), (3, yi k)]) (st' := [yi k]) (hp' := hl12) rfl ?_
      refine E_run hk 1 (j' := 14) (lv' := [(0, .ref 63), (1, yi n), (2, yi l), (3, yi k)]) (st' := [yi 13, yi k]) (hp' := hl12) rfl ?_
      refine Y_ic_ge (a := k) (b := 13) (by omega) hk rfl (fun g3 => ?_) (fun g3 => ?_)
      ·
        refine E_run hk 1 (j' := 51) (lv' := [(0, .ref 63), (1, yi n), (2, yi l), (3, yi k)]) (st' := [yi n]) (hp' := hl12) rfl ?_
        exact E_ret hk rfl rfl ⟨congrArg (fun z => (Sum.inl (some (yi z)) : xO)) (by have e9 := congrArg Prod.fst J2; rw [(by omega : (k - 1).toNat = 12)] at e9; exact e9.symm), _, ec12_70, (yfr.tr f_H1 fr12 (fun _ h => h) (by decide))⟩
      ·
        have w1 := cst_rng (b := k) (u := S 2) hz h0 h1 (by omega)
        have w2 := cst_rng (b := -k) (u := S 2) hz h0 h1 (by omega)
        refine E_run hk 4 (j' := 19) (lv' := [(4, yi 1), (0, .ref 63), (1, yi n), (2, yi l), (3, yi k)]) (st' := [yi (-2), yi 1]) (hp' := hl12) rfl ?_
        refine Y_ic_le (a := 1) (b := (-2)) (by omega) hk rfl (fun g4 => ?_) (fun g4 => ?_)
        · exfalso; omega
        ·
          refine E_run hk 3 (j' := 23) (lv' := [(4, yi 1), (0, .ref 63), (1, yi n), (2, yi l), (3, yi k)]) (st' := [yi k, yi 1, .ref 63]) (hp' := hl12) rfl ?_
          refine Y_imul (a := 1) (b := k) hk rfl ?_
          rw [show (1 * k) = k by omega]
          refine E_run hk 1 (j' := 25) (lv' := [(4, yi 1), (0, .ref 63), (1, yi n), (2, yi l), (3, yi k)]) (st' := [.ref 63, yi k, .ref 63]) (hp' := hl12) rfl ?_
          refine E_get (v := .ref 64) hk rfl (fr12.at (by decide) (f_H1.at (by decide) hM)) rfl ?_
          refine E_run hk 1 (j' := 27) (lv' := [(4, yi 1), (0, .ref 63), (1, yi n), (2, yi l), (3, yi k)]) (st' := [yi 2, .ref 64, yi k, .ref 63]) (hp' := hl12) rfl ?_
          refine Y_iald (a := 2) (by omega) (by decide) hk rfl (fr12.at (by decide) (f_H1.at (by decide) hS)) ?_
          refine Y_call hk rfl (as := [.ref 63, yi k, yi (S 2)]) (rest := []) (v := some (yi (cst S k (S 2)))) rfl rfl (Nat.le_of_ble_eq_true rfl) (rcv0 (fr12.at (by decide) (f_H1.at (by decide) hM))) (Nat.le_of_ble_eq_true rfl) (c_X9_tellsAhead (b := k) (u := (S 2)) (v := v) (fr12.at (by decide) (f_H1.at (by decide) hM)) (fr12.at (by decide) (f_H1.at (by decide) hS)) hz h0 h1 ec12_70 (by omega) (by omega) (hd := by omega)) (fun H5 r6 => ?_)
          obtain ⟨A_H5, e_H5, a_H5, f_H5⟩ := r6
          refine E_run hk 3 (j' := 32) (lv' := [(5, yi (cst S k (S 2))), (4, yi 1), (0, .ref 63), (1, yi n), (2, yi l), (3, yi k)]) (st' := [yi l, yi (cst S k (S 2))]) (hp' := H5) rfl ?_
          refine Y_ic_ge (a := (cst S k (S 2))) (b := l) (by omega) hk rfl (fun g7 => ?_) (fun g7 => ?_)
          ·
            refine E_run hk 4 (j' := 41) (lv' := [(1, yi n), (5, yi (cst S k (S 2))), (4, yi 1), (0, .ref 63), (2, yi l), (3, yi k)]) (st' := [yi l, yi (cst S k (S 2))]) (hp' := H5) rfl ?_
            refine Y_ic_ge (a := (cst S k (S 2))) (b := l) (by omega) hk rfl (fun g8 => ?_) (fun g8 => ?_)
            ·
              refine E_run hk 2 (j' := 46) (lv' := [(2, yi l), (1, yi n), (5, yi (cst S k (S 2))), (4, yi 1), (0, .ref 63), (3, yi k)]) (st' := []) (hp' := H5) rfl ?_
              refine Y_iinc (a := 1) (z := (-2)) hk rfl rfl rfl (by decide) (lv' := [(4, yi (-1)), (2, yi l), (1, yi n), (5, yi (cst S k (S 2))), (0, .ref 63), (3, yi k)]) rfl ?_
              refine E_run hk 3 (j' := 19) (lv' := [(4, yi (-1)), (2, yi l), (1, yi n), (5, yi (cst S k (S 2))), (0, .ref 63), (3, yi k)]) (st' := [yi (-2), yi (-1)]) (hp' := H5) rfl ?_
              refine Y_ic_le (a := (-1)) (b := (-2)) (by omega) hk rfl (fun g9 => ?_) (fun g9 => ?_)
              · exfalso; omega
              ·
                refine E_run hk 3 (j' := 23) (lv' := [(4, yi (-1)), (2, yi l), (1, yi n), (5, yi (cst S k (S 2))), (0, .ref 63), (3, yi k)]) (st' := [yi k, yi (-1), .ref 63]) (hp' := H5) rfl ?_
                refine Y_imul (a := (-1)) (b := k) hk rfl ?_
                rw [show ((-1) * k) = -k by omega]
                refine E_run hk 1 (j' := 25) (lv' := [(4, yi (-1)), (2, yi l), (1, yi n), (5, yi (cst S k (S 2))), (0, .ref 63), (3, yi k)]) (st' := [.ref 63, yi (-k), .ref 63]) (hp' := H5) rfl ?_
                refine E_get (v := .ref 64) hk rfl (f_H5.at (by decide) (fr12.at (by decide) (f_H1.at (by decide) hM))) rfl ?_
                refine E_run hk 1 (j' := 27) (lv' := [(4, yi (-1)), (2, yi l), (1, yi n), (5, yi (cst S k (S 2))), (0, .ref 63), (3, yi k)]) (st' := [yi 2, .ref 64, yi (-k), .ref 63]) (hp' := H5) rfl ?_
                refine Y_iald (a := 2) (by omega) (by decide) hk rfl (f_H5.at (by decide) (fr12.at (by decide) (f_H1.at (by decide) hS))) ?_
                refine Y_call hk rfl (as := [.ref 63, yi (-k), yi (S 2)]) (rest := []) (v := some (yi (cst S (-k) (S 2)))) rfl rfl (Nat.le_of_ble_eq_true rfl) (rcv0 (f_H5.at (by decide) (fr12.at (by decide) (f_H1.at (by decide) hM)))) (Nat.le_of_ble_eq_true rfl) (c_X9_tellsAhead (b := (-k)) (u := (S 2)) (v := v) (f_H5.at (by decide) (fr12.at (by decide) (f_H1.at (by decide) hM))) (f_H5.at (by decide) (fr12.at (by decide) (f_H1.at (by decide) hS))) hz h0 h1 e_H5 (by omega) (by omega) (hd := by omega)) (fun H10 r11 => ?_)
                obtain ⟨A_H10, e_H10, a_H10, f_H10⟩ := r11
                refine E_run hk 3 (j' := 32) (lv' := [(5, yi (cst S (-k) (S 2))), (4, yi (-1)), (2, yi l), (1, yi n), (0, .ref 63), (3, yi k)]) (st' := [yi l, yi (cst S (-k) (S 2))]) (hp' := H10) rfl ?_
                refine Y_ic_ge (a := (cst S (-k) (S 2))) (b := l) (by omega) hk rfl (fun g12 => ?_) (fun g12 => ?_)
                ·
                  refine E_run hk 4 (j' := 41) (lv' := [(1, yi n), (5, yi (cst S (-k) (S 2))), (4, yi (-1)), (2, yi l), (0, .ref 63), (3, yi k)]) (st' := [yi l, yi (cst S (-k) (S 2))]) (hp' := H10) rfl ?_
                  refine Y_ic_ge (a := (cst S (-k) (S 2))) (b := l) (by omega) hk rfl (fun g13 => ?_) (fun g13 => ?_)
                  ·
                    refine E_run hk 2 (j' := 46) (lv' := [(2, yi l), (1, yi n), (5, yi (cst S (-k) (S 2))), (4, yi (-1)), (0, .ref 63), (3, yi k)]) (st' := []) (hp' := H10) rfl ?_
                    refine Y_iinc (a := (-1)) (z := (-2)) hk rfl rfl rfl (by decide) (lv' := [(4, yi (-3)), (2, yi l), (1, yi n), (5, yi (cst S (-k) (S 2))), (0, .ref 63), (3, yi k)]) rfl ?_
                    refine E_run hk 3 (j' := 19) (lv' := [(4, yi (-3)), (2, yi l), (1, yi n), (5, yi (cst S (-k) (S 2))), (0, .ref 63), (3, yi k)]) (st' := [yi (-2), yi (-3)]) (hp' := H10) rfl ?_
                    refine Y_ic_le (a := (-3)) (b := (-2)) (by omega) hk rfl (fun g14 => ?_) (fun g14 => ?_)
                    ·
                      refine Y_iinc (a := k) (z := 1) hk rfl rfl rfl (by decide) (lv' := [(3, yi (k + 1)), (4, yi (-3)), (2, yi l), (1, yi n), (5, yi (cst S (-k) (S 2))), (0, .ref 63)]) rfl ?_
                      refine E_run hk 1 (j' := 12) (lv' := [(3, yi (k + 1)), (4, yi (-3)), (2, yi l), (1, yi n), (5, yi (cst S (-k) (S 2))), (0, .ref 63)]) (st' := []) (hp' := H10) rfl ?_
                      exact Ev_le (xle_s rfl rfl (xle_s rfl rfl (xle_s rfl rfl (xle_s rfl rfl (xle_z _ rfl))))) (ih12 _ (by omega) (k + 1) n l A_H10 H10 (by omega) (by rw [shb_s (by omega), J2]; first | (exfalso; omega) | (rw [sh1_t (x := k) (by show cst S k (S 2) < _; omega)]; first | (rw [sh1_t (by show cst S (-k) (S 2) < cst S k (S 2); omega)]; done) | (rw [sh1_f (by show ¬ cst S (-k) (S 2) < cst S k (S 2); omega)]; done)) | (rw [sh1_f (x := k) (by show ¬ cst S k (S 2) < _; omega)]; first | (rw [sh1_t (by show cst S (-k) (S 2) < l; omega)]; done) | (rw [sh1_f (by show ¬ cst S (-k) (S 2) < l; omega)]; done))) e_H10 (yfr.tr (yfr.tr fr12 f_H5 (fun _ h => h) (by decide)) f_H10 (fun _ h => h) (by decide)) rfl)
                    · exfalso; omega
                  ·
                    refine E_run hk 3 (j' := 46) (lv' := [(2, yi (cst S (-k) (S 2))), (1, yi n), (5, yi (cst S (-k) (S 2))), (4, yi (-1)), (0, .ref 63), (3, yi k)]) (st' := []) (hp' := H10) rfl ?_
                    refine Y_iinc (a := (-1)) (z := (-2)) hk rfl rfl rfl (by decide) (lv' := [(4, yi (-3)), (2, yi (cst S (-k) (S 2))), (1, yi n), (5, yi (cst S (-k) (S 2))), (0, .ref 63), (3, yi k)]) rfl ?_
                    refine E_run hk 3 (j' := 19) (lv' := [(4, yi (-3)), (2, yi (cst S (-k) (S 2))), (1, yi n), (5, yi (cst S (-k) (S 2))), (0, .ref 63), (3, yi k)]) (st' := [yi (-2), yi (-3)]) (hp' := H10) rfl ?_
                    refine Y_ic_le (a := (-3)) (b := (-2)) (by omega) hk rfl (fun g15 => ?_) (fun g15 => ?_)
                    ·
                      refine Y_iinc (a := k) (z := 1) hk rfl rfl rfl (by decide) (lv' := [(3, yi (k + 1)), (4, yi (-3)), (2, yi (cst S (-k) (S 2))), (1, yi n), (5, yi (cst S (-k) (S 2))), (0, .ref 63)]) rfl ?_
                      refine E_run hk 1 (j' := 12) (lv' := [(3, yi (k + 1)), (4, yi (-3)), (2, yi (cst S (-k) (S 2))), (1, yi n), (5, yi (cst S (-k) (S 2))), (0, .ref 63)]) (st' := []) (hp' := H10) rfl ?_
                      exact Ev_le (xle_s rfl rfl (xle_s rfl rfl (xle_s rfl rfl (xle_s rfl rfl (xle_z _ rfl))))) (ih12 _ (by omega) (k + 1) n (cst S (-k) (S 2)) A_H10 H10 (by omega) (by rw [shb_s (by omega), J2]; first | (exfalso; omega) | (rw [sh1_t (x := k) (by show cst S k (S 2) < _; omega)]; first | (rw [sh1_t (by show cst S (-k) (S 2) < cst S k (S 2); omega)]; done) | (rw [sh1_f (by show ¬ cst S (-k) (S 2) < cst S k (S 2); omega)]; done)) | (rw [sh1_f (x := k) (by show ¬ cst S k (S 2) < _; omega)]; first | (rw [sh1_t (by show cst S (-k) (S 2) < l; omega)]; done) | (rw [sh1_f (by show ¬ cst S (-k) (S 2) < l; omega)]; done))) e_H10 (yfr.tr (yfr.tr fr12 f_H5 (fun _ h => h) (by decide)) f_H10 (fun _ h => h) (by decide)) rfl)
                    · exfalso; omega
                ·
                  refine E_run hk 2 (j' := 35) (lv' := [(5, yi (cst S (-k) (S 2))), (4, yi (-1)), (2, yi l), (1, yi n), (0, .ref 63), (3, yi k)]) (st' := [yi k, yi (-1)]) (hp' := H10) rfl ?_
                  refine Y_imul (a := (-1)) (b := k) hk rfl ?_
                  rw [show ((-1) * k) = -k by omega]
                  refine E_run hk 4 (j' := 41) (lv' := [(1, yi (-k)), (5, yi (cst S (-k) (S 2))), (4, yi (-1)), (2, yi l), (0, .ref 63), (3, yi k)]) (st' := [yi l, yi (cst S (-k) (S 2))]) (hp' := H10) rfl ?_
                  refine Y_ic_ge (a := (cst S (-k) (S 2))) (b := l) (by omega) hk rfl (fun g16 => ?_) (fun g16 => ?_)
                  ·
                    refine E_run hk 2 (j' := 46) (lv' := [(2, yi l), (1, yi (-k)), (5, yi (cst S (-k) (S 2))), (4, yi (-1)), (0, .ref 63), (3, yi k)]) (st' := []) (hp' := H10) rfl ?_
                    refine Y_iinc (a := (-1)) (z := (-2)) hk rfl rfl rfl (by decide) (lv' := [(4, yi (-3)), (2, yi l), (1, yi (-k)), (5, yi (cst S (-k) (S 2))), (0, .ref 63), (3, yi k)]) rfl ?_
                    refine E_run hk 3 (j' := 19) (lv' := [(4, yi (-3)), (2, yi l), (1, yi (-k)), (5, yi (cst S (-k) (S 2))), (0, .ref 63), (3, yi k)]) (st' := [yi (-2), yi (-3)]) (hp' := H10) rfl ?_
                    refine Y_ic_le (a := (-3)) (b := (-2)) (by omega) hk rfl (fun g17 => ?_) (fun g17 => ?_)
                    ·
                      refine Y_iinc (a := k) (z := 1) hk rfl rfl rfl (by decide) (lv' := [(3, yi (k + 1)), (4, yi (-3)), (2, yi l), (1, yi (-k)), (5, yi (cst S (-k) (S 2))), (0, .ref 63)]) rfl ?_
                      refine E_run hk 1 (j' := 12) (lv' := [(3, yi (k + 1)), (4, yi (-3)), (2, yi l), (1, yi (-k)), (5, yi (cst S (-k) (S 2))), (0, .ref 63)]) (st' := []) (hp' := H10) rfl ?_
                      exact Ev_le (xle_s rfl rfl (xle_s rfl rfl (xle_s rfl rfl (xle_s rfl rfl (xle_z _ rfl))))) (ih12 _ (by omega) (k + 1) (-k) l A_H10 H10 (by omega) (by rw [shb_s (by omega), J2]; first | (exfalso; omega) | (rw [sh1_t (x := k) (by show cst S k (S 2) < _; omega)]; first | (rw [sh1_t (by show cst S (-k) (S 2) < cst S k (S 2); omega)]; done) | (rw [sh1_f (by show ¬ cst S (-k) (S 2) < cst S k (S 2); omega)]; done)) | (rw [sh1_f (x := k) (by show ¬ cst S k (S 2) < _; omega)]; first | (rw [sh1_t (by show cst S (-k) (S 2) < l; omega)]; done) | (rw [sh1_f (by show ¬ cst S (-k) (S 2) < l; omega)]; done))) e_H10 (yfr.tr (yfr.tr fr12 f_H5 (fun _ h => h) (by decide)) f_H10 (fun _ h => h) (by decide)) rfl)
                    · exfalso; omega
                  ·
                    refine E_run hk 3 (j' := 46) (lv' := [(2, yi (cst S (-k) (S 2))), (1, yi (-k)), (5, yi (cst S (-k) (S 2))), (4, yi (-1)), (0, .ref 63), (3, yi k)]) (st' := []) (hp' := H10) rfl ?_
                    refine Y_iinc (a := (-1)) (z := (-2)) hk rfl rfl rfl (by decide) (lv' := [(4, yi (-3)), (2, yi (cst S (-k) (S 2))), (1, yi (-k)), (5, yi (cst S (-k) (S 2))), (0, .ref 63), (3, yi k)]) rfl ?_
                    refine E_run hk 3 (j' := 19) (lv' := [(4, yi (-3)), (2, yi (cst S (-k) (S 2))), (1, yi (-k)), (5, yi (cst S (-k) (S 2))), (0, .ref 63), (3, yi k)]) (st' := [yi (-2), yi (-3)]) (hp' := H10) rfl ?_
                    refine Y_ic_le (a := (-3)) (b := (-2)) (by omega) hk rfl (fun g18 => ?_) (fun g18 => ?_)
                    ·
                      refine Y_iinc (a := k) (z := 1) hk rfl rfl rfl (by decide) (lv' := [(3, yi (k + 1)), (4, yi (-3)), (2, yi (cst S (-k) (S 2))), (1, yi (-k)), (5, yi (cst S (-k) (S 2))), (0, .ref 63)]) rfl ?_
                      refine E_run hk 1 (j' := 12) (lv' := [(3, yi (k + 1)), (4, yi (-3)), (2, yi (cst S (-k) (S 2))), (1, yi (-k)), (5, yi (cst S (-k) (S 2))), (0, .ref 63)]) (st' := []) (hp' := H10) rfl ?_
                      exact Ev_le (xle_s rfl rfl (xle_s rfl rfl (xle_s rfl rfl (xle_s rfl rfl (xle_z _ rfl))))) (ih12 _ (by omega) (k + 1) (-k) (cst S (-k) (S 2)) A_H10 H10 (by omega) (by rw [shb_s (by omega), J2]; first | (exfalso; omega) | (rw [sh1_t (x := k) (by show cst S k (S 2) < _; omega)]; first | (rw [sh1_t (by show cst S (-k) (S 2) < cst S k (S 2); omega)]; done) | (rw [sh1_f (by show ¬ cst S (-k) (S 2) < cst S k (S 2); omega)]; done)) | (rw [sh1_f (x := k) (by show ¬ cst S k (S 2) < _; omega)]; first | (rw [sh1_t (by show cst S (-k) (S 2) < l; omega)]; done) | (rw [sh1_f (by show ¬ cst S (-k) (S 2) < l; omega)]; done))) e_H10 (yfr.tr (yfr.tr fr12 f_H5 (fun _ h => h) (by decide)) f_H10 (fun _ h => h) (by decide)) rfl)
                    · exfalso; omega
            ·
              refine E_run hk 3 (j' := 46) (lv' := [(2, yi (cst S k (S 2))), (1, yi n), (5, yi (cst S k (S 2))), (4, yi 1), (0, .ref 63), (3, yi k)]) (st' := []) (hp' := H5) rfl ?_
              refine Y_iinc (a := 1) (z := (-2)) hk rfl rfl rfl (by decide) (lv' := [(4, yi (-1)), (2, yi (cst S k (S 2))), (1, yi n), (5, yi (cst S k (S 2))), (0, .ref 63), (3, yi k)]) rfl ?_
              refine E_run hk 3 (j' := 19) (lv' := [(4, yi (-1)), (2, yi (cst S k (S 2))), (1, yi n), (5, yi (cst S k (S 2))), (0, .ref 63), (3, yi k)]) (st' := [yi (-2), yi (-1)]) (hp' := H5) rfl ?_
              refine Y_ic_le (a := (-1)) (b := (-2)) (by omega) hk rfl (fun g19 => ?_) (fun g19 => ?_)
              · exfalso; omega
              ·
                refine E_run hk 3 (j' := 23) (lv' := [(4, yi (-1)), (2, yi (cst S k (S 2))), (1, yi n), (5, yi (cst S k (S 2))), (0, .ref 63), (3, yi k)]) (st' := [yi k, yi (-1), .ref 63]) (hp' := H5) rfl ?_
                refine Y_imul (a := (-1)) (b := k) hk rfl ?_
                rw [show ((-1) * k) = -k by omega]
                refine E_run hk 1 (j' := 25) (lv' := [(4, yi (-1)), (2, yi (cst S k (S 2))), (1, yi n), (5, yi (cst S k (S 2))), (0, .ref 63), (3, yi k)]) (st' := [.ref 63, yi (-k), .ref 63]) (hp' := H5) rfl ?_
                refine E_get (v := .ref 64) hk rfl (f_H5.at (by decide) (fr12.at (by decide) (f_H1.at (by decide) hM))) rfl ?_
                refine E_run hk 1 (j' := 27) (lv' := [(4, yi (-1)), (2, yi (cst S k (S 2))), (1, yi n), (5, yi (cst S k (S 2))), (0, .ref 63), (3, yi k)]) (st' := [yi 2, .ref 64, yi (-k), .ref 63]) (hp' := H5) rfl ?_
                refine Y_iald (a := 2) (by omega) (by decide) hk rfl (f_H5.at (by decide) (fr12.at (by decide) (f_H1.at (by decide) hS))) ?_
                refine Y_call hk rfl (as := [.ref 63, yi (-k), yi (S 2)]) (rest := []) (v := some (yi (cst S (-k) (S 2)))) rfl rfl (Nat.le_of_ble_eq_true rfl) (rcv0 (f_H5.at (by decide) (fr12.at (by decide) (f_H1.at (by decide) hM)))) (Nat.le_of_ble_eq_true rfl) (c_X9_tellsAhead (b := (-k)) (u := (S 2)) (v := v) (f_H5.at (by decide) (fr12.at (by decide) (f_H1.at (by decide) hM))) (f_H5.at (by decide) (fr12.at (by decide) (f_H1.at (by decide) hS))) hz h0 h1 e_H5 (by omega) (by omega) (hd := by omega)) (fun H20 r21 => ?_)
                obtain ⟨A_H20, e_H20, a_H20, f_H20⟩ := r21
                refine E_run hk 3 (j' := 32) (lv' := [(5, yi (cst S (-k) (S 2))), (4, yi (-1)), (2, yi (cst S k (S 2))), (1, yi n), (0, .ref 63), (3, yi k)]) (st' := [yi (cst S k (S 2)), yi (cst S (-k) (S 2))]) (hp' := H20) rfl ?_
                refine Y_ic_ge (a := (cst S (-k) (S 2))) (b := (cst S k (S 2))) (by omega) hk rfl (fun g22 => ?_) (fun g22 => ?_)
                ·
                  refine E_run hk 4 (j' := 41) (lv' := [(1, yi n), (5, yi (cst S (-k) (S 2))), (4, yi (-1)), (2, yi (cst S k (S 2))), (0, .ref 63), (3, yi k)]) (st' := [yi (cst S k (S 2)), yi (cst S (-k) (S 2))]) (hp' := H20) rfl ?_
                  refine Y_ic_ge (a := (cst S (-k) (S 2))) (b := (cst S k (S 2))) (by omega) hk rfl (fun g23 => ?_) (fun g23 => ?_)
                  ·
                    refine E_run hk 2 (j' := 46) (lv' := [(2, yi (cst S k (S 2))), (1, yi n), (5, yi (cst S (-k) (S 2))), (4, yi (-1)), (0, .ref 63), (3, yi k)]) (st' := []) (hp' := H20) rfl ?_
                    refine Y_iinc (a := (-1)) (z := (-2)) hk rfl rfl rfl (by decide) (lv' := [(4, yi (-3)), (2, yi (cst S k (S 2))), (1, yi n), (5, yi (cst S (-k) (S 2))), (0, .ref 63), (3, yi k)]) rfl ?_
                    refine E_run hk 3 (j' := 19) (lv' := [(4, yi (-3)), (2, yi (cst S k (S 2))), (1, yi n), (5, yi (cst S (-k) (S 2))), (0, .ref 63), (3, yi k)]) (st' := [yi (-2), yi (-3)]) (hp' := H20) rfl ?_
                    refine Y_ic_le (a := (-3)) (b := (-2)) (by omega) hk rfl (fun g24 => ?_) (fun g24 => ?_)
                    ·
                      refine Y_iinc (a := k) (z := 1) hk rfl rfl rfl (by decide) (lv' := [(3, yi (k + 1)), (4, yi (-3)), (2, yi (cst S k (S 2))), (1, yi n), (5, yi (cst S (-k) (S 2))), (0, .ref 63)]) rfl ?_
                      refine E_run hk 1 (j' := 12) (lv' := [(3, yi (k + 1)), (4, yi (-3)), (2, yi (cst S k (S 2))), (1, yi n), (5, yi (cst S (-k) (S 2))), (0, .ref 63)]) (st' := []) (hp' := H20) rfl ?_
                      exact Ev_le (xle_s rfl rfl (xle_s rfl rfl (xle_s rfl rfl (xle_s rfl rfl (xle_z _ rfl))))) (ih12 _ (by omega) (k + 1) n (cst S k (S 2)) A_H20 H20 (by omega) (by rw [shb_s (by omega), J2]; first | (exfalso; omega) | (rw [sh1_t (x := k) (by show cst S k (S 2) < _; omega)]; first | (rw [sh1_t (by show cst S (-k) (S 2) < cst S k (S 2); omega)]; done) | (rw [sh1_f (by show ¬ cst S (-k) (S 2) < cst S k (S 2); omega)]; done)) | (rw [sh1_f (x := k) (by show ¬ cst S k (S 2) < _; omega)]; first | (rw [sh1_t (by show cst S (-k) (S 2) < l; omega)]; done) | (rw [sh1_f (by show ¬ cst S (-k) (S 2) < l; omega)]; done))) e_H20 (yfr.tr (yfr.tr fr12 f_H5 (fun _ h => h) (by decide)) f_H20 (fun _ h => h) (by decide)) rfl)
                    · exfalso; omega
                  ·
                    refine E_run hk 3 (j' := 46) (lv' := [(2, yi (cst S (-k) (S 2))), (1, yi n), (5, yi (cst S (-k) (S 2))), (4, yi (-1)), (0, .ref 63), (3, yi k)]) (st' := []) (hp' := H20) rfl ?_
                    refine Y_iinc (a := (-1)) (z := (-2)) hk rfl rfl rfl (by decide) (lv' := [(4, yi (-3)), (2, yi (cst S (-k) (S 2))), (1, yi n), (5, yi (cst S (-k) (S 2))), (0, .ref 63), (3, yi k)]) rfl ?_
                    refine E_run hk 3 (j' := 19) (lv' := [(4, yi (-3)), (2, yi (cst S (-k) (S 2))), (1, yi n), (5, yi (cst S (-k) (S 2))), (0, .ref 63), (3, yi k)]) (st' := [yi (-2), yi (-3)]) (hp' := H20) rfl ?_
                    refine Y_ic_le (a := (-3)) (b := (-2)) (by omega) hk rfl (fun g25 => ?_) (fun g25 => ?_)
                    ·
                      refine Y_iinc (a := k) (z := 1) hk rfl rfl rfl (by decide) (lv' := [(3, yi (k + 1)), (4, yi (-3)), (2, yi (cst S (-k) (S 2))), (1, yi n), (5, yi (cst S (-k) (S 2))), (0, .ref 63)]) rfl ?_
                      refine E_run hk 1 (j' := 12) (lv' := [(3, yi (k + 1)), (4, yi (-3)), (2, yi (cst S (-k) (S 2))), (1, yi n), (5, yi (cst S (-k) (S 2))), (0, .ref 63)]) (st' := []) (hp' := H20) rfl ?_
                      exact Ev_le (xle_s rfl rfl (xle_s rfl rfl (xle_s rfl rfl (xle_s rfl rfl (xle_z _ rfl))))) (ih12 _ (by omega) (k + 1) n (cst S (-k) (S 2)) A_H20 H20 (by omega) (by rw [shb_s (by omega), J2]; first | (exfalso; omega) | (rw [sh1_t (x := k) (by show cst S k (S 2) < _; omega)]; first | (rw [sh1_t (by show cst S (-k) (S 2) < cst S k (S 2); omega)]; done) | (rw [sh1_f (by show ¬ cst S (-k) (S 2) < cst S k (S 2); omega)]; done)) | (rw [sh1_f (x := k) (by show ¬ cst S k (S 2) < _; omega)]; first | (rw [sh1_t (by show cst S (-k) (S 2) < l; omega)]; done) | (rw [sh1_f (by show ¬ cst S (-k) (S 2) < l; omega)]; done))) e_H20 (yfr.tr (yfr.tr fr12 f_H5 (fun _ h => h) (by decide)) f_H20 (fun _ h => h) (by decide)) rfl)
                    · exfalso; omega
                ·
                  refine E_run hk 2 (j' := 35) (lv' := [(5, yi (cst S (-k) (S 2))), (4, yi (-1)), (2, yi (cst S k (S 2))), (1, yi n), (0, .ref 63), (3, yi k)]) (st' := [yi k, yi (-1)]) (hp' := H20) rfl ?_
                  refine Y_imul (a := (-1)) (b := k) hk rfl ?_
                  rw [show ((-1) * k) = -k by omega]
                  refine E_run hk 4 (j' := 41) (lv' := [(1, yi (-k)), (5, yi (cst S (-k) (S 2))), (4, yi (-1)), (2, yi (cst S k (S 2))), (0, .ref 63), (3, yi k)]) (st' := [yi (cst S k (S 2)), yi (cst S (-k) (S 2))]) (hp' := H20) rfl ?_
                  refine Y_ic_ge (a := (cst S (-k) (S 2))) (b := (cst S k (S 2))) (by omega) hk rfl (fun g26 => ?_) (fun g26 => ?_)
                  ·
                    refine E_run hk 2 (j' := 46) (lv' := [(2, yi (cst S k (S 2))), (1, yi (-k)), (5, yi (cst S (-k) (S 2))), (4, yi (-1)), (0, .ref 63), (3, yi k)]) (st' := []) (hp' := H20) rfl ?_
                    refine Y_iinc (a := (-1)) (z := (-2)) hk rfl rfl rfl (by decide) (lv' := [(4, yi (-3)), (2, yi (cst S k (S 2))), (1, yi (-k)), (5, yi (cst S (-k) (S 2))), (0, .ref 63), (3, yi k)]) rfl ?_
                    refine E_run hk 3 (j' := 19) (lv' := [(4, yi (-3)), (2, yi (cst S k (S 2))), (1, yi (-k)), (5, yi (cst S (-k) (S 2))), (0, .ref 63), (3, yi k)]) (st' := [yi (-2), yi (-3)]) (hp' := H20) rfl ?_
                    refine Y_ic_le (a := (-3)) (b := (-2)) (by omega) hk rfl (fun g27 => ?_) (fun g27 => ?_)
                    ·
                      refine Y_iinc (a := k) (z := 1) hk rfl rfl rfl (by decide) (lv' := [(3, yi (k + 1)), (4, yi (-3)), (2, yi (cst S k (S 2))), (1, yi (-k)), (5, yi (cst S (-k) (S 2))), (0, .ref 63)]) rfl ?_
                      refine E_run hk 1 (j' := 12) (lv' := [(3, yi (k + 1)), (4, yi (-3)), (2, yi (cst S k (S 2))), (1, yi (-k)), (5, yi (cst S (-k) (S 2))), (0, .ref 63)]) (st' := []) (hp' := H20) rfl ?_
                      exact Ev_le (xle_s rfl rfl (xle_s rfl rfl (xle_s rfl rfl (xle_s rfl rfl (xle_z _ rfl))))) (ih12 _ (by omega) (k + 1) (-k) (cst S k (S 2)) A_H20 H20 (by omega) (by rw [shb_s (by omega), J2]; first | (exfalso; omega) | (rw [sh1_t (x := k) (by show cst S k (S 2) < _; omega)]; first | (rw [sh1_t (by show cst S (-k) (S 2) < cst S k (S 2); omega)]; done) | (rw [sh1_f (by show ¬ cst S (-k) (S 2) < cst S k (S 2); omega)]; done)) | (rw [sh1_f (x := k) (by show ¬ cst S k (S 2) < _; omega)]; first | (rw [sh1_t (by show cst S (-k) (S 2) < l; omega)]; done) | (rw [sh1_f (by show ¬ cst S (-k) (S 2) < l; omega)]; done))) e_H20 (yfr.tr (yfr.tr fr12 f_H5 (fun _ h => h) (by decide)) f_H20 (fun _ h => h) (by decide)) rfl)
                    · exfalso; omega
                  ·
                    refine E_run hk 3 (j' := 46) (lv' := [(2, yi (cst S (-k) (S 2))), (1, yi (-k)), (5, yi (cst S (-k) (S 2))), (4, yi (-1)), (0, .ref 63), (3, yi k)]) (st' := []) (hp' := H20) rfl ?_
                    refine Y_iinc (a := (-1)) (z := (-2)) hk rfl rfl rfl (by decide) (lv' := [(4, yi (-3)), (2, yi (cst S (-k) (S 2))), (1, yi (-k)), (5, yi (cst S (-k) (S 2))), (0, .ref 63), (3, yi k)]) rfl ?_
                    refine E_run hk 3 (j' := 19) (lv' := [(4, yi (-3)), (2, yi (cst S (-k) (S 2))), (1, yi (-k)), (5, yi (cst S (-k) (S 2))), (0, .ref 63), (3, yi k)]) (st' := [yi (-2), yi (-3)]) (hp' := H20) rfl ?_
                    refine Y_ic_le (a := (-3)) (b := (-2)) (by omega) hk rfl (fun g28 => ?_) (fun g28 => ?_)
                    ·
                      refine Y_iinc (a := k) (z := 1) hk rfl rfl rfl (by decide) (lv' := [(3, yi (k + 1)), (4, yi (-3)), (2, yi (cst S (-k) (S 2))), (1, yi (-k)), (5, yi (cst S (-k) (S 2))), (0, .ref 63)]) rfl ?_
                      refine E_run hk 1 (j' := 12) (lv' := [(3, yi (k + 1)), (4, yi (-3)), (2, yi (cst S (-k) (S 2))), (1, yi (-k)), (5, yi (cst S (-k) (S 2))), (0, .ref 63)]) (st' := []) (hp' := H20) rfl ?_
                      exact Ev_le (xle_s rfl rfl (xle_s rfl rfl (xle_s rfl rfl (xle_s rfl rfl (xle_z _ rfl))))) (ih12 _ (by omega) (k + 1) (-k) (cst S (-k) (S 2)) A_H20 H20 (by omega) (by rw [shb_s (by omega), J2]; first | (exfalso; omega) | (rw [sh1_t (x := k) (by show cst S k (S 2) < _; omega)]; first | (rw [sh1_t (by show cst S (-k) (S 2) < cst S k (S 2); omega)]; done) | (rw [sh1_f (by show ¬ cst S (-k) (S 2) < cst S k (S 2); omega)]; done)) | (rw [sh1_f (x := k) (by show ¬ cst S k (S 2) < _; omega)]; first | (rw [sh1_t (by show cst S (-k) (S 2) < l; omega)]; done) | (rw [sh1_f (by show ¬ cst S (-k) (S 2) < l; omega)]; done))) e_H20 (yfr.tr (yfr.tr fr12 f_H5 (fun _ h => h) (by decide)) f_H20 (fun _ h => h) (by decide)) rfl)
                    · exfalso; omega
          ·
            refine E_run hk 2 (j' := 35) (lv' := [(5, yi (cst S k (S 2))), (4, yi 1), (0, .ref 63), (1, yi n), (2, yi l), (3, yi k)]) (st' := [yi k, yi 1]) (hp' := H5) rfl ?_
            refine Y_imul (a := 1) (b := k) hk rfl ?_
            rw [show (1 * k) = k by omega]
            refine E_run hk 4 (j' := 41) (lv' := [(1, yi k), (5, yi (cst S k (S 2))), (4, yi 1), (0, .ref 63), (2, yi l), (3, yi k)]) (st' := [yi l, yi (cst S k (S 2))]) (hp' := H5) rfl ?_
            refine Y_ic_ge (a := (cst S k (S 2))) (b := l) (by omega) hk rfl (fun g29 => ?_) (fun g29 => ?_)
            ·
              refine E_run hk 2 (j' := 46) (lv' := [(2, yi l), (1, yi k), (5, yi (cst S k (S 2))), (4, yi 1), (0, .ref 63), (3, yi k)]) (st' := []) (hp' := H5) rfl ?_
              refine Y_iinc (a := 1) (z := (-2)) hk rfl rfl rfl (by decide) (lv' := [(4, yi (-1)), (2, yi l), (1, yi k), (5, yi (cst S k (S 2))), (0, .ref 63), (3, yi k)]) rfl ?_
              refine E_run hk 3 (j' := 19) (lv' := [(4, yi (-1)), (2, yi l), (1, yi k), (5, yi (cst S k (S 2))), (0, .ref 63), (3, yi k)]) (st' := [yi (-2), yi (-1)]) (hp' := H5) rfl ?_
              refine Y_ic_le (a := (-1)) (b := (-2)) (by omega) hk rfl (fun g30 => ?_) (fun g30 => ?_)
              · exfalso; omega
              ·
                refine E_run hk 3 (j' := 23) (lv' := [(4, yi (-1)), (2, yi l), (1, yi k), (5, yi (cst S k (S 2))), (0, .ref 63), (3, yi k)]) (st' := [yi k, yi (-1), .ref 63]) (hp' := H5) rfl ?_
                refine Y_imul (a := (-1)) (b := k) hk rfl ?_
                rw [show ((-1) * k) = -k by omega]
                refine E_run hk 1 (j' := 25) (lv' := [(4, yi (-1)), (2, yi l), (1, yi k), (5, yi (cst S k (S 2))), (0, .ref 63), (3, yi k)]) (st' := [.ref 63, yi (-k), .ref 63]) (hp' := H5) rfl ?_
                refine E_get (v := .ref 64) hk rfl (f_H5.at (by decide) (fr12.at (by decide) (f_H1.at (by decide) hM))) rfl ?_
                refine E_run hk 1 (j' := 27) (lv' := [(4, yi (-1)), (2, yi l), (1, yi k), (5, yi (cst S k (S 2))), (0, .ref 63), (3, yi k)]) (st' := [yi 2, .ref 64, yi (-k), .ref 63]) (hp' := H5) rfl ?_
                refine Y_iald (a := 2) (by omega) (by decide) hk rfl (f_H5.at (by decide) (fr12.at (by decide) (f_H1.at (by decide) hS))) ?_
                refine Y_call hk rfl (as := [.ref 63, yi (-k), yi (S 2)]) (rest := []) (v := some (yi (cst S (-k) (S 2)))) rfl rfl (Nat.le_of_ble_eq_true rfl) (rcv0 (f_H5.at (by decide) (fr12.at (by decide) (f_H1.at (by decide) hM)))) (Nat.le_of_ble_eq_true rfl) (c_X9_tellsAhead (b := (-k)) (u := (S 2)) (v := v) (f_H5.at (by decide) (fr12.at (by decide) (f_H1.at (by decide) hM))) (f_H5.at (by decide) (fr12.at (by decide) (f_H1.at (by decide) hS))) hz h0 h1 e_H5 (by omega) (by omega) (hd := by omega)) (fun H31 r32 => ?_)
                obtain ⟨A_H31, e_H31, a_H31, f_H31⟩ := r32
                refine E_run hk 3 (j' := 32) (lv' := [(5, yi (cst S (-k) (S 2))), (4, yi (-1)), (2, yi l), (1, yi k), (0, .ref 63), (3, yi k)]) (st' := [yi l, yi (cst S (-k) (S 2))]) (hp' := H31) rfl ?_
                refine Y_ic_ge (a := (cst S (-k) (S 2))) (b := l) (by omega) hk rfl (fun g33 => ?_) (fun g33 => ?_)
                ·
                  refine E_run hk 4 (j' := 41) (lv' := [(1, yi k), (5, yi (cst S (-k) (S 2))), (4, yi (-1)), (2, yi l), (0, .ref 63), (3, yi k)]) (st' := [yi l, yi (cst S (-k) (S 2))]) (hp' := H31) rfl ?_
                  refine Y_ic_ge (a := (cst S (-k) (S 2))) (b := l) (by omega) hk rfl (fun g34 => ?_) (fun g34 => ?_)
                  ·
                    refine E_run hk 2 (j' := 46) (lv' := [(2, yi l), (1, yi k), (5, yi (cst S (-k) (S 2))), (4, yi (-1)), (0, .ref 63), (3, yi k)]) (st' := []) (hp' := H31) rfl ?_
                    refine Y_iinc (a := (-1)) (z := (-2)) hk rfl rfl rfl (by decide) (lv' := [(4, yi (-3)), (2, yi l), (1, yi k), (5, yi (cst S (-k) (S 2))), (0, .ref 63), (3, yi k)]) rfl ?_
                    refine E_run hk 3 (j' := 19) (lv' := [(4, yi (-3)), (2, yi l), (1, yi k), (5, yi (cst S (-k) (S 2))), (0, .ref 63), (3, yi k)]) (st' := [yi (-2), yi (-3)]) (hp' := H31) rfl ?_
                    refine Y_ic_le (a := (-3)) (b := (-2)) (by omega) hk rfl (fun g35 => ?_) (fun g35 => ?_)
                    ·
                      refine Y_iinc (a := k) (z := 1) hk rfl rfl rfl (by decide) (lv' := [(3, yi (k + 1)), (4, yi (-3)), (2, yi l), (1, yi k), (5, yi (cst S (-k) (S 2))), (0, .ref 63)]) rfl ?_
                      refine E_run hk 1 (j' := 12) (lv' := [(3, yi (k + 1)), (4, yi (-3)), (2, yi l), (1, yi k), (5, yi (cst S (-k) (S 2))), (0, .ref 63)]) (st' := []) (hp' := H31) rfl ?_
                      exact Ev_le (xle_s rfl rfl (xle_s rfl rfl (xle_s rfl rfl (xle_s rfl rfl (xle_z _ rfl))))) (ih12 _ (by omega) (k + 1) k l A_H31 H31 (by omega) (by rw [shb_s (by omega), J2]; first | (exfalso; omega) | (rw [sh1_t (x := k) (by show cst S k (S 2) < _; omega)]; first | (rw [sh1_t (by show cst S (-k) (S 2) < cst S k (S 2); omega)]; done) | (rw [sh1_f (by show ¬ cst S (-k) (S 2) < cst S k (S 2); omega)]; done)) | (rw [sh1_f (x := k) (by show ¬ cst S k (S 2) < _; omega)]; first | (rw [sh1_t (by show cst S (-k) (S 2) < l; omega)]; done) | (rw [sh1_f (by show ¬ cst S (-k) (S 2) < l; omega)]; done))) e_H31 (yfr.tr (yfr.tr fr12 f_H5 (fun _ h => h) (by decide)) f_H31 (fun _ h => h) (by decide)) rfl)
                    · exfalso; omega
                  ·
                    refine E_run hk 3 (j' := 46) (lv' := [(2, yi (cst S (-k) (S 2))), (1, yi k), (5, yi (cst S (-k) (S 2))), (4, yi (-1)), (0, .ref 63), (3, yi k)]) (st' := []) (hp' := H31) rfl ?_
                    refine Y_iinc (a := (-1)) (z := (-2)) hk rfl rfl rfl (by decide) (lv' := [(4, yi (-3)), (2, yi (cst S (-k) (S 2))), (1, yi k), (5, yi (cst S (-k) (S 2))), (0, .ref 63), (3, yi k)]) rfl ?_
                    refine E_run hk 3 (j' := 19) (lv' := [(4, yi (-3)), (2, yi (cst S (-k) (S 2))), (1, yi k), (5, yi (cst S (-k) (S 2))), (0, .ref 63), (3, yi k)]) (st' := [yi (-2), yi (-3)]) (hp' := H31) rfl ?_
                    refine Y_ic_le (a := (-3)) (b := (-2)) (by omega) hk rfl (fun g36 => ?_) (fun g36 => ?_)
                    ·
                      refine Y_iinc (a := k) (z := 1) hk rfl rfl rfl (by decide) (lv' := [(3, yi (k + 1)), (4, yi (-3)), (2, yi (cst S (-k) (S 2))), (1, yi k), (5, yi (cst S (-k) (S 2))), (0, .ref 63)]) rfl ?_
                      refine E_run hk 1 (j' := 12) (lv' := [(3, yi (k + 1)), (4, yi (-3)), (2, yi (cst S (-k) (S 2))), (1, yi k), (5, yi (cst S (-k) (S 2))), (0, .ref 63)]) (st' := []) (hp' := H31) rfl ?_
                      exact Ev_le (xle_s rfl rfl (xle_s rfl rfl (xle_s rfl rfl (xle_s rfl rfl (xle_z _ rfl))))) (ih12 _ (by omega) (k + 1) k (cst S (-k) (S 2)) A_H31 H31 (by omega) (by rw [shb_s (by omega), J2]; first | (exfalso; omega) | (rw [sh1_t (x := k) (by show cst S k (S 2) < _; omega)]; first | (rw [sh1_t (by show cst S (-k) (S 2) < cst S k (S 2); omega)]; done) | (rw [sh1_f (by show ¬ cst S (-k) (S 2) < cst S k (S 2); omega)]; done)) | (rw [sh1_f (x := k) (by show ¬ cst S k (S 2) < _; omega)]; first | (rw [sh1_t (by show cst S (-k) (S 2) < l; omega)]; done) | (rw [sh1_f (by show ¬ cst S (-k) (S 2) < l; omega)]; done))) e_H31 (yfr.tr (yfr.tr fr12 f_H5 (fun _ h => h) (by decide)) f_H31 (fun _ h => h) (by decide)) rfl)
                    · exfalso; omega
                ·
                  refine E_run hk 2 (j' := 35) (lv' := [(5, yi (cst S (-k) (S 2))), (4, yi (-1)), (2, yi l), (1, yi k), (0, .ref 63), (3, yi k)]) (st' := [yi k, yi (-1)]) (hp' := H31) rfl ?_
                  refine Y_imul (a := (-1)) (b := k) hk rfl ?_
                  rw [show ((-1) * k) = -k by omega]
                  refine E_run hk 4 (j' := 41) (lv' := [(1, yi (-k)), (5, yi (cst S (-k) (S 2))), (4, yi (-1)), (2, yi l), (0, .ref 63), (3, yi k)]) (st' := [yi l, yi (cst S (-k) (S 2))]) (hp' := H31) rfl ?_
                  refine Y_ic_ge (a := (cst S (-k) (S 2))) (b := l) (by omega) hk rfl (fun g37 => ?_) (fun g37 => ?_)
                  ·
                    refine E_run hk 2 (j' := 46) (lv' := [(2, yi l), (1, yi (-k)), (5, yi (cst S (-k) (S 2))), (4, yi (-1)), (0, .ref 63), (3, yi k)]) (st' := []) (hp' := H31) rfl ?_
                    refine Y_iinc (a := (-1)) (z := (-2)) hk rfl rfl rfl (by decide) (lv' := [(4, yi (-3)), (2, yi l), (1, yi (-k)), (5, yi (cst S (-k) (S 2))), (0, .ref 63), (3, yi k)]) rfl ?_
                    refine E_run hk 3 (j' := 19) (lv' := [(4, yi (-3)), (2, yi l), (1, yi (-k)), (5, yi (cst S (-k) (S 2))), (0, .ref 63), (3, yi k)]) (st' := [yi (-2), yi (-3)]) (hp' := H31) rfl ?_
                    refine Y_ic_le (a := (-3)) (b := (-2)) (by omega) hk rfl (fun g38 => ?_) (fun g38 => ?_)
                    ·
                      refine Y_iinc (a := k) (z := 1) hk rfl rfl rfl (by decide) (lv' := [(3, yi (k + 1)), (4, yi (-3)), (2, yi l), (1, yi (-k)), (5, yi (cst S (-k) (S 2))), (0, .ref 63)]) rfl ?_
                      refine E_run hk 1 (j' := 12) (lv' := [(3, yi (k + 1)), (4, yi (-3)), (2, yi l), (1, yi (-k)), (5, yi (cst S (-k) (S 2))), (0, .ref 63)]) (st' := []) (hp' := H31) rfl ?_
                      exact Ev_le (xle_s rfl rfl (xle_s rfl rfl (xle_s rfl rfl (xle_s rfl rfl (xle_z _ rfl))))) (ih12 _ (by omega) (k + 1) (-k) l A_H31 H31 (by omega) (by rw [shb_s (by omega), J2]; first | (exfalso; omega) | (rw [sh1_t (x := k) (by show cst S k (S 2) < _; omega)]; first | (rw [sh1_t (by show cst S (-k) (S 2) < cst S k (S 2); omega)]; done) | (rw [sh1_f (by show ¬ cst S (-k) (S 2) < cst S k (S 2); omega)]; done)) | (rw [sh1_f (x := k) (by show ¬ cst S k (S 2) < _; omega)]; first | (rw [sh1_t (by show cst S (-k) (S 2) < l; omega)]; done) | (rw [sh1_f (by show ¬ cst S (-k) (S 2) < l; omega)]; done))) e_H31 (yfr.tr (yfr.tr fr12 f_H5 (fun _ h => h) (by decide)) f_H31 (fun _ h => h) (by decide)) rfl)
                    · exfalso; omega
                  ·
                    refine E_run hk 3 (j' := 46) (lv' := [(2, yi (cst S (-k) (S 2))), (1, yi (-k)), (5, yi (cst S (-k) (S 2))), (4, yi (-1)), (0, .ref 63), (3, yi k)]) (st' := []) (hp' := H31) rfl ?_
                    refine Y_iinc (a := (-1)) (z := (-2)) hk rfl rfl rfl (by decide) (lv' := [(4, yi (-3)), (2, yi (cst S (-k) (S 2))), (1, yi (-k)), (5, yi (cst S (-k) (S 2))), (0, .ref 63), (3, yi k)]) rfl ?_
                    refine E_run hk 3 (j' := 19) (lv' := [(4, yi (-3)), (2, yi (cst S (-k) (S 2))), (1, yi (-k)), (5, yi (cst S (-k) (S 2))), (0, .ref 63), (3, yi k)]) (st' := [yi (-2), yi (-3)]) (hp' := H31) rfl ?_
                    refine Y_ic_le (a := (-3)) (b := (-2)) (by omega) hk rfl (fun g39 => ?_) (fun g39 => ?_)
                    ·
                      refine Y_iinc (a := k) (z := 1) hk rfl rfl rfl (by decide) (lv' := [(3, yi (k + 1)), (4, yi (-3)), (2, yi (cst S (-k) (S 2))), (1, yi (-k)), (5, yi (cst S (-k) (S 2))), (0, .ref 63)]) rfl ?_
                      refine E_run hk 1 (j' := 12) (lv' := [(3, yi (k + 1)), (4, yi (-3)), (2, yi (cst S (-k) (S 2))), (1, yi (-k)), (5, yi (cst S (-k) (S 2))), (0, .ref 63)]) (st' := []) (hp' := H31) rfl ?_
                      exact Ev_le (xle_s rfl rfl (xle_s rfl rfl (xle_s rfl rfl (xle_s rfl rfl (xle_z _ rfl))))) (ih12 _ (by omega) (k + 1) (-k) (cst S (-k) (S 2)) A_H31 H31 (by omega) (by rw [shb_s (by omega), J2]; first | (exfalso; omega) | (rw [sh1_t (x := k) (by show cst S k (S 2) < _; omega)]; first | (rw [sh1_t (by show cst S (-k) (S 2) < cst S k (S 2); omega)]; done) | (rw [sh1_f (by show ¬ cst S (-k) (S 2) < cst S k (S 2); omega)]; done)) | (rw [sh1_f (x := k) (by show ¬ cst S k (S 2) < _; omega)]; first | (rw [sh1_t (by show cst S (-k) (S 2) < l; omega)]; done) | (rw [sh1_f (by show ¬ cst S (-k) (S 2) < l; omega)]; done))) e_H31 (yfr.tr (yfr.tr fr12 f_H5 (fun _ h => h) (by decide)) f_H31 (fun _ h => h) (by decide)) rfl)
                    · exfalso; omega
            ·
              refine E_run hk 3 (j' := 46) (lv' := [(2, yi (cst S k (S 2))), (1, yi k), (5, yi (cst S k (S 2))), (4, yi 1), (0, .ref 63), (3, yi k)]) (st' := []) (hp' := H5) rfl ?_
              refine Y_iinc (a := 1) (z := (-2)) hk rfl rfl rfl (by decide) (lv' := [(4, yi (-1)), (2, yi (cst S k (S 2))), (1, yi k), (5, yi (cst S k (S 2))), (0, .ref 63), (3, yi k)]) rfl ?_
              refine E_run hk 3 (j' := 19) (lv' := [(4, yi (-1)), (2, yi (cst S k (S 2))), (1, yi k), (5, yi (cst S k (S 2))), (0, .ref 63), (3, yi k)]) (st' := [yi (-2), yi (-1)]) (hp' := H5) rfl ?_
              refine Y_ic_le (a := (-1)) (b := (-2)) (by omega) hk rfl (fun g40 => ?_) (fun g40 => ?_)
              · exfalso; omega
              ·
                refine E_run hk 3 (j' := 23) (lv' := [(4, yi (-1)), (2, yi (cst S k (S 2))), (1, yi k), (5, yi (cst S k (S 2))), (0, .ref 63), (3, yi k)]) (st' := [yi k, yi (-1), .ref 63]) (hp' := H5) rfl ?_
                refine Y_imul (a := (-1)) (b := k) hk rfl ?_
                rw [show ((-1) * k) = -k by omega]
                refine E_run hk 1 (j' := 25) (lv' := [(4, yi (-1)), (2, yi (cst S k (S 2))), (1, yi k), (5, yi (cst S k (S 2))), (0, .ref 63), (3, yi k)]) (st' := [.ref 63, yi (-k), .ref 63]) (hp' := H5) rfl ?_
                refine E_get (v := .ref 64) hk rfl (f_H5.at (by decide) (fr12.at (by decide) (f_H1.at (by decide) hM))) rfl ?_
                refine E_run hk 1 (j' := 27) (lv' := [(4, yi (-1)), (2, yi (cst S k (S 2))), (1, yi k), (5, yi (cst S k (S 2))), (0, .ref 63), (3, yi k)]) (st' := [yi 2, .ref 64, yi (-k), .ref 63]) (hp' := H5) rfl ?_
                refine Y_iald (a := 2) (by omega) (by decide) hk rfl (f_H5.at (by decide) (fr12.at (by decide) (f_H1.at (by decide) hS))) ?_
                refine Y_call hk rfl (as := [.ref 63, yi (-k), yi (S 2)]) (rest := []) (v := some (yi (cst S (-k) (S 2)))) rfl rfl (Nat.le_of_ble_eq_true rfl) (rcv0 (f_H5.at (by decide) (fr12.at (by decide) (f_H1.at (by decide) hM)))) (Nat.le_of_ble_eq_true rfl) (c_X9_tellsAhead (b := (-k)) (u := (S 2)) (v := v) (f_H5.at (by decide) (fr12.at (by decide) (f_H1.at (by decide) hM))) (f_H5.at (by decide) (fr12.at (by decide) (f_H1.at (by decide) hS))) hz h0 h1 e_H5 (by omega) (by omega) (hd := by omega)) (fun H41 r42 => ?_)
                obtain ⟨A_H41, e_H41, a_H41, f_H41⟩ := r42
                refine E_run hk 3 (j' := 32) (lv' := [(5, yi (cst S (-k) (S 2))), (4, yi (-1)), (2, yi (cst S k (S 2))), (1, yi k), (0, .ref 63), (3, yi k)]) (st' := [yi (cst S k (S 2)), yi (cst S (-k) (S 2))]) (hp' := H41) rfl ?_
                refine Y_ic_ge (a := (cst S (-k) (S 2))) (b := (cst S k (S 2))) (by omega) hk rfl (fun g43 => ?_) (fun g43 => ?_)
                ·
                  refine E_run hk 4 (j' := 41) (lv' := [(1, yi k), (5, yi (cst S (-k) (S 2))), (4, yi (-1)), (2, yi (cst S k (S 2))), (0, .ref 63), (3, yi k)]) (st' := [yi (cst S k (S 2)), yi (cst S (-k) (S 2))]) (hp' := H41) rfl ?_
                  refine Y_ic_ge (a := (cst S (-k) (S 2))) (b := (cst S k (S 2))) (by omega) hk rfl (fun g44 => ?_) (fun g44 => ?_)
                  ·
                    refine E_run hk 2 (j' := 46) (lv' := [(2, yi (cst S k (S 2))), (1, yi k), (5, yi (cst S (-k) (S 2))), (4, yi (-1)), (0, .ref 63), (3, yi k)]) (st' := []) (hp' := H41) rfl ?_
                    refine Y_iinc (a := (-1)) (z := (-2)) hk rfl rfl rfl (by decide) (lv' := [(4, yi (-3)), (2, yi (cst S k (S 2))), (1, yi k), (5, yi (cst S (-k) (S 2))), (0, .ref 63), (3, yi k)]) rfl ?_
                    refine E_run hk 3 (j' := 19) (lv' := [(4, yi (-3)), (2, yi (cst S k (S 2))), (1, yi k), (5, yi (cst S (-k) (S 2))), (0, .ref 63), (3, yi k)]) (st' := [yi (-2), yi (-3)]) (hp' := H41) rfl ?_
                    refine Y_ic_le (a := (-3)) (b := (-2)) (by omega) hk rfl (fun g45 => ?_) (fun g45 => ?_)
                    ·
                      refine Y_iinc (a := k) (z := 1) hk rfl rfl rfl (by decide) (lv' := [(3, yi (k + 1)), (4, yi (-3)), (2, yi (cst S k (S 2))), (1, yi k), (5, yi (cst S (-k) (S 2))), (0, .ref 63)]) rfl ?_
                      refine E_run hk 1 (j' := 12) (lv' := [(3, yi (k + 1)), (4, yi (-3)), (2, yi (cst S k (S 2))), (1, yi k), (5, yi (cst S (-k) (S 2))), (0, .ref 63)]) (st' := []) (hp' := H41) rfl ?_
                      exact Ev_le (xle_s rfl rfl (xle_s rfl rfl (xle_s rfl rfl (xle_s rfl rfl (xle_z _ rfl))))) (ih12 _ (by omega) (k + 1) k (cst S k (S 2)) A_H41 H41 (by omega) (by rw [shb_s (by omega), J2]; first | (exfalso; omega) | (rw [sh1_t (x := k) (by show cst S k (S 2) < _; omega)]; first | (rw [sh1_t (by show cst S (-k) (S 2) < cst S k (S 2); omega)]; done) | (rw [sh1_f (by show ¬ cst S (-k) (S 2) < cst S k (S 2); omega)]; done)) | (rw [sh1_f (x := k) (by show ¬ cst S k (S 2) < _; omega)]; first | (rw [sh1_t (by show cst S (-k) (S 2) < l; omega)]; done) | (rw [sh1_f (by show ¬ cst S (-k) (S 2) < l; omega)]; done))) e_H41 (yfr.tr (yfr.tr fr12 f_H5 (fun _ h => h) (by decide)) f_H41 (fun _ h => h) (by decide)) rfl)
                    · exfalso; omega
                  ·
                    refine E_run hk 3 (j' := 46) (lv' := [(2, yi (cst S (-k) (S 2))), (1, yi k), (5, yi (cst S (-k) (S 2))), (4, yi (-1)), (0, .ref 63), (3, yi k)]) (st' := []) (hp' := H41) rfl ?_
                    refine Y_iinc (a := (-1)) (z := (-2)) hk rfl rfl rfl (by decide) (lv' := [(4, yi (-3)), (2, yi (cst S (-k) (S 2))), (1, yi k), (5, yi (cst S (-k) (S 2))), (0, .ref 63), (3, yi k)]) rfl ?_
                    refine E_run hk 3 (j' := 19) (lv' := [(4, yi (-3)), (2, yi (cst S (-k) (S 2))), (1, yi k), (5, yi (cst S (-k) (S 2))), (0, .ref 63), (3, yi k)]) (st' := [yi (-2), yi (-3)]) (hp' := H41) rfl ?_
                    refine Y_ic_le (a := (-3)) (b := (-2)) (by omega) hk rfl (fun g46 => ?_) (fun g46 => ?_)
                    ·
                      refine Y_iinc (a := k) (z := 1) hk rfl rfl rfl (by decide) (lv' := [(3, yi (k + 1)), (4, yi (-3)), (2, yi (cst S (-k) (S 2))), (1, yi k), (5, yi (cst S (-k) (S 2))), (0, .ref 63)]) rfl ?_
                      refine E_run hk 1 (j' := 12) (lv' := [(3, yi (k + 1)), (4, yi (-3)), (2, yi (cst S (-k) (S 2))), (1, yi k), (5, yi (cst S (-k) (S 2))), (0, .ref 63)]) (st' := []) (hp' := H41) rfl ?_
                      exact Ev_le (xle_s rfl rfl (xle_s rfl rfl (xle_s rfl rfl (xle_s rfl rfl (xle_z _ rfl))))) (ih12 _ (by omega) (k + 1) k (cst S (-k) (S 2)) A_H41 H41 (by omega) (by rw [shb_s (by omega), J2]; first | (exfalso; omega) | (rw [sh1_t (x := k) (by show cst S k (S 2) < _; omega)]; first | (rw [sh1_t (by show cst S (-k) (S 2) < cst S k (S 2); omega)]; done) | (rw [sh1_f (by show ¬ cst S (-k) (S 2) < cst S k (S 2); omega)]; done)) | (rw [sh1_f (x := k) (by show ¬ cst S k (S 2) < _; omega)]; first | (rw [sh1_t (by show cst S (-k) (S 2) < l; omega)]; done) | (rw [sh1_f (by show ¬ cst S (-k) (S 2) < l; omega)]; done))) e_H41 (yfr.tr (yfr.tr fr12 f_H5 (fun _ h => h) (by decide)) f_H41 (fun _ h => h) (by decide)) rfl)
                    · exfalso; omega
                ·
                  refine E_run hk 2 (j' := 35) (lv' := [(5, yi (cst S (-k) (S 2))), (4, yi (-1)), (2, yi (cst S k (S 2))), (1, yi k), (0, .ref 63), (3, yi k)]) (st' := [yi k, yi (-1)]) (hp' := H41) rfl ?_
                  refine Y_imul (a := (-1)) (b := k) hk rfl ?_
                  rw [show ((-1) * k) = -k by omega]
                  refine E_run hk 4 (j' := 41) (lv' := [(1, yi (-k)), (5, yi (cst S (-k) (S 2))), (4, yi (-1)), (2, yi (cst S k (S 2))), (0, .ref 63), (3, yi k)]) (st' := [yi (cst S k (S 2)), yi (cst S (-k) (S 2))]) (hp' := H41) rfl ?_
                  refine Y_ic_ge (a := (cst S (-k) (S 2))) (b := (cst S k (S 2))) (by omega) hk rfl (fun g47 => ?_) (fun g47 => ?_)
                  ·
                    refine E_run hk 2 (j' := 46) (lv' := [(2, yi (cst S k (S 2))), (1, yi (-k)), (5, yi (cst S (-k) (S 2))), (4, yi (-1)), (0, .ref 63), (3, yi k)]) (st' := []) (hp' := H41) rfl ?_
                    refine Y_iinc (a := (-1)) (z := (-2)) hk rfl rfl rfl (by decide) (lv' := [(4, yi (-3)), (2, yi (cst S k (S 2))), (1, yi (-k)), (5, yi (cst S (-k) (S 2))), (0, .ref 63), (3, yi k)]) rfl ?_
                    refine E_run hk 3 (j' := 19) (lv' := [(4, yi (-3)), (2, yi (cst S k (S 2))), (1, yi (-k)), (5, yi (cst S (-k) (S 2))), (0, .ref 63), (3, yi k)]) (st' := [yi (-2), yi (-3)]) (hp' := H41) rfl ?_
                    refine Y_ic_le (a := (-3)) (b := (-2)) (by omega) hk rfl (fun g48 => ?_) (fun g48 => ?_)
                    ·
                      refine Y_iinc (a := k) (z := 1) hk rfl rfl rfl (by decide) (lv' := [(3, yi (k + 1)), (4, yi (-3)), (2, yi (cst S k (S 2))), (1, yi (-k)), (5, yi (cst S (-k) (S 2))), (0, .ref 63)]) rfl ?_
                      refine E_run hk 1 (j' := 12) (lv' := [(3, yi (k + 1)), (4, yi (-3)), (2, yi (cst S k (S 2))), (1, yi (-k)), (5, yi (cst S (-k) (S 2))), (0, .ref 63)]) (st' := []) (hp' := H41) rfl ?_
                      exact Ev_le (xle_s rfl rfl (xle_s rfl rfl (xle_s rfl rfl (xle_s rfl rfl (xle_z _ rfl))))) (ih12 _ (by omega) (k + 1) (-k) (cst S k (S 2)) A_H41 H41 (by omega) (by rw [shb_s (by omega), J2]; first | (exfalso; omega) | (rw [sh1_t (x := k) (by show cst S k (S 2) < _; omega)]; first | (rw [sh1_t (by show cst S (-k) (S 2) < cst S k (S 2); omega)]; done) | (rw [sh1_f (by show ¬ cst S (-k) (S 2) < cst S k (S 2); omega)]; done)) | (rw [sh1_f (x := k) (by show ¬ cst S k (S 2) < _; omega)]; first | (rw [sh1_t (by show cst S (-k) (S 2) < l; omega)]; done) | (rw [sh1_f (by show ¬ cst S (-k) (S 2) < l; omega)]; done))) e_H41 (yfr.tr (yfr.tr fr12 f_H5 (fun _ h => h) (by decide)) f_H41 (fun _ h => h) (by decide)) rfl)
                    · exfalso; omega
                  ·
                    refine E_run hk 3 (j' := 46) (lv' := [(2, yi (cst S (-k) (S 2))), (1, yi (-k)), (5, yi (cst S (-k) (S 2))), (4, yi (-1)), (0, .ref 63), (3, yi k)]) (st' := []) (hp' := H41) rfl ?_
                    refine Y_iinc (a := (-1)) (z := (-2)) hk rfl rfl rfl (by decide) (lv' := [(4, yi (-3)), (2, yi (cst S (-k) (S 2))), (1, yi (-k)), (5, yi (cst S (-k) (S 2))), (0, .ref 63), (3, yi k)]) rfl ?_
                    refine E_run hk 3 (j' := 19) (lv' := [(4, yi (-3)), (2, yi (cst S (-k) (S 2))), (1, yi (-k)), (5, yi (cst S (-k) (S 2))), (0, .ref 63), (3, yi k)]) (st' := [yi (-2), yi (-3)]) (hp' := H41) rfl ?_
                    refine Y_ic_le (a := (-3)) (b := (-2)) (by omega) hk rfl (fun g49 => ?_) (fun g49 => ?_)
                    ·
                      refine Y_iinc (a := k) (z := 1) hk rfl rfl rfl (by decide) (lv' := [(3, yi (k + 1)), (4, yi (-3)), (2, yi (cst S (-k) (S 2))), (1, yi (-k)), (5, yi (cst S (-k) (S 2))), (0, .ref 63)]) rfl ?_
                      refine E_run hk 1 (j' := 12) (lv' := [(3, yi (k + 1)), (4, yi (-3)), (2, yi (cst S (-k) (S 2))), (1, yi (-k)), (5, yi (cst S (-k) (S 2))), (0, .ref 63)]) (st' := []) (hp' := H41) rfl ?_
                      exact Ev_le (xle_s rfl rfl (xle_s rfl rfl (xle_s rfl rfl (xle_s rfl rfl (xle_z _ rfl))))) (ih12 _ (by omega) (k + 1) (-k) (cst S (-k) (S 2)) A_H41 H41 (by omega) (by rw [shb_s (by omega), J2]; first | (exfalso; omega) | (rw [sh1_t (x := k) (by show cst S k (S 2) < _; omega)]; first | (rw [sh1_t (by show cst S (-k) (S 2) < cst S k (S 2); omega)]; done) | (rw [sh1_f (by show ¬ cst S (-k) (S 2) < cst S k (S 2); omega)]; done)) | (rw [sh1_f (x := k) (by show ¬ cst S k (S 2) < _; omega)]; first | (rw [sh1_t (by show cst S (-k) (S 2) < l; omega)]; done) | (rw [sh1_f (by show ¬ cst S (-k) (S 2) < l; omega)]; done))) e_H41 (yfr.tr (yfr.tr fr12 f_H5 (fun _ h => h) (by decide)) f_H41 (fun _ h => h) (by decide)) rfl)
                    · exfalso; omega
  exact Ev_le (xle_s rfl rfl (xle_s rfl rfl (xle_s rfl rfl (xle_s rfl rfl (xle_z _ rfl))))) (loop12 _ 1 0 (cst S 0 (S 2)) A_H1 H1 (by omega) (rfl) e_H1 (yfr.refl _ _) rfl)
theorem c_X9_needs {d : Nat} {hp : xH} {v : Nat → Int} (hM : xat hp 63 = some (yMo v)) {S : Int → Int} (hS : xat hp 64 = some (yI 47 S)) (hz : 0 ≤ S 0 ∧ S 0 ≤ 20 ∧ 0 ≤ S 1 ∧ S 1 ≤ 20 ∧ 0 ≤ S 2 ∧ S 2 ≤ 20 ∧ 0 ≤ S 3 ∧ S 3 ≤ 50 ∧ 0 ≤ S 4 ∧ S 4 ≤ 3) (h0 : ∀ q, 0 ≤ q → q < S 0 → 0 ≤ S (7 + q) ∧ S (7 + q) ≤ 60) (h1 : ∀ q, 0 ≤ q → q < S 1 → 0 ≤ S (27 + q) ∧ S (27 + q) ≤ 60) {f : Int → Int} (hA : xat hp 70 = some (yI 400 f)) (hd : 3 ≤ d) : Cv d 178 [.ref 63] hp (yE (fun z h => 0 ≤ z ∧ z ≤ 20 ∧ cst S 0 z = cst S 0 20 ∧ (∀ x, 0 ≤ x → x < z → ¬ cst S 0 x = cst S 0 20) ∧ ∃ g, xat h 70 = some (yI 400 g) ∧ yfr [70] hp h)) := by
  have hk : xtab 178 = (xc_178, 3, 1, []) := rfl
  obtain ⟨d, rfl⟩ : ∃ e, d = e + 1 := ⟨d - 1, by omega⟩
  have w0 := cst_rng (b := 0) (u := 20) hz h0 h1 (by omega)
  show Ev (d + 1) 178 0 [(0, .ref 63)] [] hp _
  refine E_run hk 3 (j' := 3) (lv' := [(0, .ref 63)]) (st' := [yi 20, yi 0, .ref 63]) (hp' := hp) rfl ?_
  refine Y_call hk rfl (as := [.ref 63, yi 0, yi 20]) (rest := []) (v := some (yi (cst S 0 20))) rfl rfl (Nat.le_of_ble_eq_true rfl) (rcv0 hM) (Nat.le_of_ble_eq_true rfl) (c_X9_tellsAhead (b := 0) (u := 20) (v := v) hM hS hz h0 h1 hA (by omega) (by omega) (hd := by omega)) (fun H1 r2 => ?_)
  obtain ⟨A_H1, e_H1, a_H1, f_H1⟩ := r2
  refine E_run hk 3 (j' := 7) (lv' := [(2, yi 0), (1, yi (cst S 0 20)), (0, .ref 63)]) (st' := []) (hp' := H1) rfl ?_
  have loop7 : ∀ (N : Nat) (n : Int) (g : Int → Int) (hl7 : xH), (0 ≤ n ∧ n ≤ 20) → (∀ x, 0 ≤ x → x < n → ¬ cst S 0 x = cst S 0 20) → (xat hl7 70 = some (yI 400 g)) → (yfr [70] H1 hl7) → (20 - n).toNat = N → Ev (d + 1) 178 7 [(0, .ref 63), (1, yi (cst S 0 20)), (2, yi n)] [] hl7 (yE (fun z h => 0 ≤ z ∧ z ≤ 20 ∧ cst S 0 z = cst S 0 20 ∧ (∀ x, 0 ≤ x → x < z → ¬ cst S 0 x = cst S 0 20) ∧ ∃ g, xat h 70 = some (yI 400 g) ∧ yfr [70] hp h)) := by
    intro N
    induction N using Nat.strongRecOn with
    | ind N ih7 =>
      intro n g hl7 J1 J2 ec7_70 fr7 hm7
      refine E_run hk 1 (j' := 8) (lv' := [(0, .ref 63), (1, yi (cst S 0 20)), (2, yi n)]) (st' := [.ref 63]) (hp' := hl7) rfl ?_
      refine E_run hk 2 (j' := 10) (lv' := [(0, .ref 63), (1, yi (cst S 0 20)), (2, yi n)]) (st' := [yi n, yi 0, .ref 63]) (hp' := hl7) rfl ?_
      refine Y_call hk rfl (as := [.ref 63, yi 0, yi n]) (rest := []) (v := some (yi (cst S 0 n))) rfl rfl (Nat.le_of_ble_eq_true rfl) (rcv0 (fr7.at (by decide) (f_H1.at (by decide) hM))) (Nat.le_of_ble_eq_true rfl) (c_X9_tellsAhead (b := 0) (u := n) (v := v) (fr7.at (by decide) (f_H1.at (by decide) hM)) (fr7.at (by decide) (f_H1.at (by decide) hS)) hz h0 h1 ec7_70 (by omega) (by omega) (hd := by omega)) (fun H3 r4 => ?_)
      obtain ⟨A_H3, e_H3, a_H3, f_H3⟩ := r4
      have w1 := cst_rng (b := 0) (u := n) hz h0 h1 (by omega)
      refine E_run hk 1 (j' := 12) (lv' := [(0, .ref 63), (1, yi (cst S 0 20)), (2, yi n)]) (st' := [yi (cst S 0 20), yi (cst S 0 n)]) (hp' := H3) rfl ?_
      refine Y_ic_eq (a := (cst S 0 n)) (b := (cst S 0 20)) (by omega) hk rfl (fun g5 => ?_) (fun g5 => ?_)
      ·
        refine E_run hk 1 (j' := 16) (lv' := [(0, .ref 63), (1, yi (cst S 0 20)), (2, yi n)]) (st' := [yi n]) (hp' := H3) rfl ?_
        exact E_ret hk rfl rfl ⟨n, rfl, by omega, by omega, by omega, J2, _, e_H3, (yfr.tr (yfr.tr f_H1 fr7 (fun _ h => h) (by decide)) f_H3 (fun _ h => h) (by decide))⟩
      ·
        refine Y_iinc (a := n) (z := 1) hk rfl rfl rfl (by decide) (lv' := [(2, yi (n + 1)), (0, .ref 63), (1, yi (cst S 0 20))]) rfl ?_
        refine E_run hk 1 (j' := 7) (lv' := [(2, yi (n + 1)), (0, .ref 63), (1, yi (cst S 0 20))]) (st' := []) (hp' := H3) rfl ?_
        exact Ev_le (xle_s rfl rfl (xle_s rfl rfl (xle_s rfl rfl (xle_z _ rfl)))) (ih7 _ (by by_cases e : n = 20 <;> first | omega | (subst e; exfalso; omega)) (n + 1) A_H3 H3 (by by_cases e : n = 20 <;> first | omega | (subst e; exfalso; omega)) (fun x x1 x2 => by
        by_cases e : x = n
        · subst e; assumption
        · exact J2 x x1 (by omega)) e_H3 (yfr.tr fr7 f_H3 (fun _ h => h) (by decide)) rfl)
  exact Ev_le (xle_s rfl rfl (xle_s rfl rfl (xle_s rfl rfl (xle_z _ rfl)))) (loop7 _ 0 A_H1 H1 (by omega) (fun x x1 x2 => absurd x1 (by omega)) e_H1 (yfr.refl _ _) rfl)
theorem pes_rng (F : Int → Int) : ∀ n : Nat, 0 ≤ pes F n ∧ pes F n ≤ n := by
  intro n
  induction n with
  | zero => exact ⟨Int.le_refl 0, Int.le_refl 0⟩
  | succ n ih =>
    simp only [pes]
    split <;> omega
theorem pend_rng {S : Int → Int} (h : 0 < S 1) : 0 ≤ pend S ∧ pend S < S 1 := by
  have h := pes_rng (fun y => pc (unl S 0) (S 3) (S 0 - 1) y) (S 1 - 1).toNat
  unfold pend
  omega
theorem c_X9_partBegins {d : Nat} {hp : xH} {v : Nat → Int} (hM : xat hp 63 = some (yMo v)) {S : Int → Int} (hS : xat hp 64 = some (yI 47 S)) (hz : 0 ≤ S 0 ∧ S 0 ≤ 20 ∧ 0 ≤ S 1 ∧ S 1 ≤ 20 ∧ 0 ≤ S 2 ∧ S 2 ≤ 20 ∧ 0 ≤ S 3 ∧ S 3 ≤ 50 ∧ 0 ≤ S 4 ∧ S 4 ≤ 3) (h0 : ∀ q, 0 ≤ q → q < S 0 → 0 ≤ S (7 + q) ∧ S (7 + q) ≤ 60) (h1 : ∀ q, 0 ≤ q → q < S 1 → 0 ≤ S (27 + q) ∧ S (27 + q) ≤ 60) (hpos : 0 < S 0 ∧ 0 < S 1) {f g : Int → Int} (hA : xat hp 70 = some (yI 400 f)) (hB : xat hp 73 = some (yI 400 g)) (hd : 3 ≤ d) : Cv d 174 [.ref 63] hp (yR (some (yi (pb (unl S 0) (S 3) (S 0 - 1) (pend S)))) (fun h => ∃ p q, xat h 63 = some (yMo (vup v 21 (pend S))) ∧ xat h 70 = some (yI 400 p) ∧ xat h 73 = some (yI 400 q) ∧ yfr [63, 70, 73] hp h)) := by
  have hk : xtab 174 = (xc_174, 1, 1, []) := rfl
  obtain ⟨d, rfl⟩ : ∃ e, d = e + 1 := ⟨d - 1, by omega⟩
  have w0 := pend_rng (S := S) (by omega)
  show Ev (d + 1) 174 0 [(0, .ref 63)] [] hp _
  refine E_run hk 1 (j' := 1) (lv' := [(0, .ref 63)]) (st' := [.ref 63]) (hp' := hp) rfl ?_
  refine Y_call hk rfl (as := [.ref 63]) (rest := []) (v := some (yi (pc (unl S 0) (S 3) (S 0 - 1) (pend S)))) rfl rfl (Nat.le_of_ble_eq_true rfl) (rcv0 hM) (Nat.le_of_ble_eq_true rfl) (c_X9_tellsParts (v := v) hM hS hz h0 h1 (by omega) hA hB (hd := by omega)) (fun H1 r2 => ?_)
  obtain ⟨A_H1, B_H1, e_H1, a_H1, b_H1, m_H1, f_H1⟩ := r2
  refine E_run hk 2 (j' := 4) (lv' := [(0, .ref 63)]) (st' := [.ref 63]) (hp' := H1) rfl ?_
  refine E_get (v := .ref 73) hk rfl e_H1 rfl ?_
  refine E_run hk 3 (j' := 8) (lv' := [(0, .ref 63)]) (st' := [yi 0, .ref 63, yi 20, .ref 73]) (hp' := H1) rfl ?_
  refine Y_callP hk rfl (as := [.ref 63, yi 0]) (rest := [yi 20, .ref 73]) (v := some (yi (S 0))) rfl rfl (Nat.le_of_ble_eq_true rfl) (rcv0 e_H1) (Nat.le_of_ble_eq_true rfl) (c_X9_many (t := 0) (v := (vup v 21 (pend S))) e_H1 (f_H1.at (by decide) hS) (by omega)) ?_
  refine E_run hk 1 (j' := 10) (lv' := [(0, .ref 63)]) (st' := [yi 1, yi (S 0), yi 20, .ref 73]) (hp' := H1) rfl ?_
  refine Y_isub (a := (S 0)) (b := 1) hk rfl ?_
  refine Y_imul (a := 20) (b := ((S 0) - 1)) hk rfl ?_
  refine E_run hk 1 (j' := 13) (lv' := [(0, .ref 63)]) (st' := [.ref 63, yi (20 * ((S 0) - 1)), .ref 73]) (hp' := H1) rfl ?_
  refine E_get (v := yi (pend S)) hk rfl e_H1 rfl ?_
  refine Y_iadd (a := (20 * ((S 0) - 1))) (b := (pend S)) hk rfl ?_
  refine Y_iald (a := ((20 * ((S 0) - 1)) + (pend S))) (by omega) (by decide) hk rfl b_H1 ?_
  exact E_ret hk rfl rfl ⟨congrArg (fun z => (Sum.inl (some (yi z)) : xO)) (m_H1 (S 0 - 1) (pend S) (by omega) (by omega) (by omega) (by omega)).2, _, _, e_H1, a_H1, b_H1, f_H1⟩
theorem c_X9_partEndsAt {d : Nat} {hp : xH} {v : Nat → Int} (hM : xat hp 63 = some (yMo v)) {S : Int → Int} (hS : xat hp 64 = some (yI 47 S)) (hz : 0 ≤ S 0 ∧ S 0 ≤ 20 ∧ 0 ≤ S 1 ∧ S 1 ≤ 20 ∧ 0 ≤ S 2 ∧ S 2 ≤ 20 ∧ 0 ≤ S 3 ∧ S 3 ≤ 50 ∧ 0 ≤ S 4 ∧ S 4 ≤ 3) (h0 : ∀ q, 0 ≤ q → q < S 0 → 0 ≤ S (7 + q) ∧ S (7 + q) ≤ 60) (h1 : ∀ q, 0 ≤ q → q < S 1 → 0 ≤ S (27 + q) ∧ S (27 + q) ≤ 60) (hpos : 0 < S 0 ∧ 0 < S 1) {f g : Int → Int} (hA : xat hp 70 = some (yI 400 f)) (hB : xat hp 73 = some (yI 400 g)) (hd : 3 ≤ d) : Cv d 175 [.ref 63] hp (yR (some (yi (pend S))) (fun h => ∃ p q, xat h 63 = some (yMo (vup v 21 (pend S))) ∧ xat h 70 = some (yI 400 p) ∧ xat h 73 = some (yI 400 q) ∧ yfr [63, 70, 73] hp h)) := by
  have hk : xtab 175 = (xc_175, 1, 1, []) := rfl
  obtain ⟨d, rfl⟩ : ∃ e, d = e + 1 := ⟨d - 1, by omega⟩
  have w0 := pend_rng (S := S) (by omega)
  show Ev (d + 1) 175 0 [(0, .ref 63)] [] hp _
  refine E_run hk 1 (j' := 1) (lv' := [(0, .ref 63)]) (st' := [.ref 63]) (hp' := hp) rfl ?_
  refine Y_call hk rfl (as := [.ref 63]) (rest := []) (v := some (yi (pc (unl S 0) (S 3) (S 0 - 1) (pend S)))) rfl rfl (Nat.le_of_ble_eq_true rfl) (rcv0 hM) (Nat.le_of_ble_eq_true rfl) (c_X9_tellsParts (v := v) hM hS hz h0 h1 (by omega) hA hB (hd := by omega)) (fun H1 r2 => ?_)
  obtain ⟨A_H1, B_H1, e_H1, a_H1, b_H1, m_H1, f_H1⟩ := r2
  refine E_run hk 2 (j' := 4) (lv' := [(0, .ref 63)]) (st' := [.ref 63]) (hp' := H1) rfl ?_
  refine E_get (v := yi (pend S)) hk rfl e_H1 rfl ?_
  exact E_ret hk rfl rfl ⟨rfl, _, _, e_H1, a_H1, b_H1, f_H1⟩
