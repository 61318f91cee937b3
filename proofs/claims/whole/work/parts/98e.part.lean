/-! The reference reads a part. -/
theorem rwd_o {X : Int → Int} {n a z a' w' : Int} (h : rwd X n a z a' w') (hw : w' = 1) : ∃ o, o < 8 ∧ z = wcd o ∧ a' = a + (wln o : Int) ∧ a' ≤ n := by
  rcases h with ⟨h1, h2, o, h3, h4, h5, h6⟩ | ⟨h1, -⟩
  · exact ⟨o, h3, h4, h5, h2⟩
  · omega
theorem rwd_rng {X : Int → Int} {n a z a' w' : Int} (h : rwd X n a z a' w') : (w' = 0 ∨ w' = 1) ∧ a ≤ a' ∧ a' ≤ n := by
  rcases h with ⟨h1, h2, o, h3, h4, h5, h6⟩ | ⟨h1, h2, o, j, h3, h4, h5, h6⟩
  · exact ⟨Or.inr h1, by omega, h2⟩
  · exact ⟨Or.inl h1, by omega, h2⟩
theorem rwd_badp {X : Int → Int} {n a z a' w' : Int} (h : rwd X n a z a' w') (hw : w' = 0) : badp X n a a' := by
  rcases rwd_tks h with ⟨h1, -⟩ | ⟨h1, h2, h3, h4⟩
  · omega
  · intro s ⟨f1, f2, f3⟩
    obtain ⟨s1, g1, g2, g3⟩ := h4 s f1 f2
    exact ⟨s1, g1, by omega, g3⟩
theorem wcd_vals {o : Nat} {z : Int} (h : o < 8) (e : z = wcd o) : z = 115 ∨ z = 114 ∨ z = 108 ∨ z = 119 ∨ z = 102 ∨ z = 98 ∨ z = 104 ∨ z = 106 := by
  have g : ∀ o : Fin 8, wcd o.val = 115 ∨ wcd o.val = 114 ∨ wcd o.val = 108 ∨ wcd o.val = 119 ∨ wcd o.val = 102 ∨ wcd o.val = 98 ∨ wcd o.val = 104 ∨ wcd o.val = 106 := by decide +kernel
  rw [e]
  exact g ⟨o, h⟩
theorem c_partBad {d : Nat} {hp : xH} {v : Nat → Int} (hM : xat hp 63 = some (yMo v)) {X : Int → Int} (hX : xat hp 67 = some (yI 60 X)) (hn : 0 ≤ v 7 ∧ v 7 ≤ 60) (hc : ∀ q, 0 ≤ q → q < v 7 → 33 ≤ X q ∧ X q ≤ 126) (ha : 0 ≤ v 8 ∧ v 8 ≤ v 7) {B C : Int → Int} (hB : xat hp 68 = some (yI 60 B)) (hC : xat hp 69 = some (yI 60 C)) (hm : 0 ≤ v 13 ∧ 2 * v 13 ≤ v 8) (hpn : 0 ≤ v 11 ∧ 6 * v 11 ≤ v 8) (hg : ¬ iwd X (v 7) (v 8)) (hd : 4 ≤ d) : Cv d 204 [.ref 63] hp (yR none (fun h => ∃ a2 w2 k b c, ((w2 = 1 ∧ okp X (v 7) (v 8) a2 b c (5 * v 11) (v 13) k) ∨ (w2 = 0 ∧ badp X (v 7) (v 8) a2)) ∧ (0 ≤ k ∧ 2 * k ≤ a2 - v 8) ∧ (v 8 ≤ a2 ∧ a2 ≤ v 7 ∧ (w2 = 1 → v 8 + 5 ≤ a2)) ∧ (∀ x, x < 5 * v 11 → b x = B x) ∧ (∀ x, x < v 13 → c x = C x) ∧ xat h 63 = some (yMo (vup (vup (vup (vup v 9 w2) 8 a2) 13 (v 13 + k)) 11 (v 11 + w2))) ∧ xat h 68 = some (yI 60 b) ∧ xat h 69 = some (yI 60 c) ∧ yfr [63, 68, 69] hp h)) := by
  have hk : xtab 204 = (xc_204, 4, 0, []) := rfl
  obtain ⟨d, rfl⟩ : ∃ e, d = e + 1 := ⟨d - 1, by omega⟩
  show Ev (d + 1) 204 0 [(0, .ref 63)] [] hp _
  refine E_run hk 2 (j' := 2) (lv' := [(0, .ref 63)]) (st' := [.ref 63, yi 5]) (hp' := hp) rfl ?_
  refine E_get (v := yi (v 11)) hk rfl hM rfl ?_
  refine Y_imul (a := 5) (b := (v 11)) hk rfl ?_
  refine E_run hk 3 (j' := 7) (lv' := [(1, yi (5 * (v 11))), (0, .ref 63)]) (st' := [yi 1, .ref 63]) (hp' := hp) rfl ?_
  refine Y_put hk rfl hM (by decide) (Nat.le_of_ble_eq_true rfl) rfl (fs' := [yi (v 0), .ref 64, .ref 65, yi (v 3), .ref 66, yi (v 5), .ref 67, yi (v 7), yi (v 8), yi 1, .ref 68, yi (v 11), .ref 69, yi (v 13), .ref 70, .ref 71, .ref 72, .ref 73, .ref 74, .ref 75, yi (v 20), yi (v 21)]) rfl (fun H1 e2 f3 => ?_)
  refine E_run hk 1 (j' := 9) (lv' := [(1, yi (5 * (v 11))), (0, .ref 63)]) (st' := [.ref 63]) (hp' := H1) rfl ?_
  refine Y_callE hk rfl (as := [.ref 63]) (rest := []) rfl rfl (Nat.le_of_ble_eq_true rfl) (rcv0 e2) (Nat.le_of_ble_eq_true rfl) (c_X9_readsWord (v := (vup v 9 1)) e2 (f3.at (by decide) hX) hn hc (show 0 ≤ v 8 ∧ v 8 ≤ v 7 by omega) (show 1 = 1 by omega) (hd := by omega)) (fun z4 H5 r6 => ?_)
  obtain ⟨zr_H5, a_H5, w_H5, rw0_H5, e0_H5, f_H5⟩ := r6
  have e_H5 : xat H5 63 = some (yMo (vup (vup (vup v 9 1) 9 w_H5) 8 a_H5)) := e0_H5
  have rw_H5 : rwd X (v 7) (v 8) z4 a_H5 w_H5 := rw0_H5
  have kr_H5 := rwd_rng rw_H5
  refine E_run hk 1 (j' := 11) (lv' := [(2, yi z4), (1, yi (5 * (v 11))), (0, .ref 63)]) (st' := []) (hp' := H5) rfl ?_
  have w0 := rwd_bad rw_H5 hg
  rcases (by omega : z4 = 115 ∨ z4 = 114 ∨ z4 = 108 ∨ z4 = 119 ∨ z4 = 102 ∨ z4 = 98 ∨ z4 = 104 ∨ z4 = 106 ∨ (z4 ≠ 115 ∧ z4 ≠ 114 ∧ z4 ≠ 108 ∧ z4 ≠ 119 ∧ z4 ≠ 102 ∧ z4 ≠ 98 ∧ z4 ≠ 104 ∧ z4 ≠ 106)) with w7 | w7 | w7 | w7 | w7 | w7 | w7 | w7 | w7
  · rw [w7]
    refine E_run hk 2 (j' := 13) (lv' := [(2, yi 115), (1, yi (5 * (v 11))), (0, .ref 63)]) (st' := [yi 98, yi 115]) (hp' := H5) rfl ?_
    refine Y_ic_eq (a := 115) (b := 98) (by omega) hk rfl (fun g8 => ?_) (fun g8 => ?_)
    · exfalso; omega
    ·
      refine E_run hk 2 (j' := 16) (lv' := [(2, yi 115), (1, yi (5 * (v 11))), (0, .ref 63)]) (st' := [yi 104, yi 115]) (hp' := H5) rfl ?_
      refine Y_ic_eq (a := 115) (b := 104) (by omega) hk rfl (fun g9 => ?_) (fun g9 => ?_)
      · exfalso; omega
      ·
        refine E_run hk 2 (j' := 19) (lv' := [(2, yi 115), (1, yi (5 * (v 11))), (0, .ref 63)]) (st' := [yi 106, yi 115]) (hp' := H5) rfl ?_
        refine Y_ic_ne (a := 115) (b := 106) (by omega) hk rfl (fun g10 => ?_) (fun g10 => ?_)
        ·
          refine E_run hk 2 (j' := 24) (lv' := [(3, yi 0), (2, yi 115), (1, yi (5 * (v 11))), (0, .ref 63)]) (st' := []) (hp' := H5) rfl ?_
          refine E_run hk 1 (j' := 25) (lv' := [(3, yi 0), (2, yi 115), (1, yi (5 * (v 11))), (0, .ref 63)]) (st' := [.ref 63]) (hp' := H5) rfl ?_
          refine E_get (v := .ref 68) hk rfl e_H5 rfl ?_
          refine E_run hk 2 (j' := 28) (lv' := [(3, yi 0), (2, yi 115), (1, yi (5 * (v 11))), (0, .ref 63)]) (st' := [yi 115, yi (5 * (v 11)), .ref 68]) (hp' := H5) rfl ?_
          refine Y_iast (a := (5 * (v 11))) (x := 115) (by omega) (by decide) (by decide) hk rfl (f_H5.at (by decide) (f3.at (by decide) hB)) (fun H11 e12 f13 => ?_)
          refine E_run hk 1 (j' := 30) (lv' := [(3, yi 0), (2, yi 115), (1, yi (5 * (v 11))), (0, .ref 63)]) (st' := [.ref 63]) (hp' := H11) rfl ?_
          refine E_get (v := .ref 68) hk rfl (f13.at (by decide) e_H5) rfl ?_
          refine E_run hk 2 (j' := 33) (lv' := [(3, yi 0), (2, yi 115), (1, yi (5 * (v 11))), (0, .ref 63)]) (st' := [yi 1, yi (5 * (v 11)), .ref 68]) (hp' := H11) rfl ?_
          refine Y_iadd (a := (5 * (v 11))) (b := 1) hk rfl ?_
          refine E_run hk 1 (j' := 35) (lv' := [(3, yi 0), (2, yi 115), (1, yi (5 * (v 11))), (0, .ref 63)]) (st' := [yi 0, yi ((5 * (v 11)) + 1), .ref 68]) (hp' := H11) rfl ?_
          refine Y_if_eq (a := 0) (by omega) hk rfl (fun g14 => ?_) (fun g14 => ?_)
          ·
            refine E_run hk 3 (j' := 41) (lv' := [(3, yi 0), (2, yi 115), (1, yi (5 * (v 11))), (0, .ref 63)]) (st' := [yi 49, yi 48, .ref 63, yi ((5 * (v 11)) + 1), .ref 68]) (hp' := H11) rfl ?_
            refine Y_call hk rfl (as := [.ref 63, yi 48, yi 49]) (rest := [yi ((5 * (v 11)) + 1), .ref 68]) (v := some (yi (sg X (v 7) a_H5 - 48))) rfl rfl (Nat.le_of_ble_eq_true rfl) (rcv0 (f13.at (by decide) e_H5)) (Nat.le_of_ble_eq_true rfl) (c_X9_takes (v := (vup (vup (vup v 9 1) 9 w_H5) 8 a_H5)) (f13.at (by decide) e_H5) (f13.at (by decide) (f_H5.at (by decide) (f3.at (by decide) hX))) hn hc (show 0 ≤ a_H5 ∧ a_H5 ≤ v 7 by omega) (show w_H5 = 0 ∨ w_H5 = 1 by omega) (l := 48) (u := 49) (by omega) (hd := by omega)) (fun H15 r16 => ?_)
            obtain ⟨e0_H15, f_H15⟩ := r16
            obtain ⟨w_H15, hq_H15⟩ : ∃ w, b2 (w_H5 = 1 ∧ 48 ≤ sg X (v 7) a_H5 ∧ sg X (v 7) a_H5 ≤ 49) = w := ⟨_, rfl⟩
            have e_H15 : xat H15 63 = some (yMo (vup (vup (vup (vup (vup v 9 1) 9 w_H5) 8 a_H5) 9 w_H15) 8 (a_H5 + w_H15))) := by rw [← hq_H15]; exact e0_H15
            obtain ⟨k1_H15, k2_H15, k3_H15⟩ := tk_step hc (show 0 ≤ a_H5 ∧ a_H5 ≤ v 7 by omega) (show w_H5 = 0 ∨ w_H5 = 1 by omega) (by omega) hq_H15
            refine Y_iast (a := ((5 * (v 11)) + 1)) (x := (sg X (v 7) a_H5 - 48)) (by omega) (by decide) (by decide) hk rfl (f_H15.at (by decide) e12) (fun H17 e18 f19 => ?_)
            refine E_run hk 1 (j' := 44) (lv' := [(3, yi 0), (2, yi 115), (1, yi (5 * (v 11))), (0, .ref 63)]) (st' := [.ref 63]) (hp' := H17) rfl ?_
            refine E_get (v := .ref 68) hk rfl (f19.at (by decide) e_H15) rfl ?_
            refine E_run hk 2 (j' := 47) (lv' := [(3, yi 0), (2, yi 115), (1, yi (5 * (v 11))), (0, .ref 63)]) (st' := [yi 3, yi (5 * (v 11)), .ref 68]) (hp' := H17) rfl ?_
            refine Y_iadd (a := (5 * (v 11))) (b := 3) hk rfl ?_
            refine E_run hk 1 (j' := 49) (lv' := [(3, yi 0), (2, yi 115), (1, yi (5 * (v 11))), (0, .ref 63)]) (st' := [.ref 63, yi ((5 * (v 11)) + 3), .ref 68]) (hp' := H17) rfl ?_
            refine E_get (v := yi (v 13)) hk rfl (f19.at (by decide) e_H15) rfl ?_
            refine Y_iast (a := ((5 * (v 11)) + 3)) (x := (v 13)) (by omega) (by decide) (by decide) hk rfl e18 (fun H20 e21 f22 => ?_)
            refine E_run hk 1 (j' := 52) (lv' := [(3, yi 0), (2, yi 115), (1, yi (5 * (v 11))), (0, .ref 63)]) (st' := [.ref 63]) (hp' := H20) rfl ?_
            refine E_get (v := .ref 68) hk rfl (f22.at (by decide) (f19.at (by decide) e_H15)) rfl ?_
            refine E_run hk 2 (j' := 55) (lv' := [(3, yi 0), (2, yi 115), (1, yi (5 * (v 11))), (0, .ref 63)]) (st' := [yi 4, yi (5 * (v 11)), .ref 68]) (hp' := H20) rfl ?_
            refine Y_iadd (a := (5 * (v 11))) (b := 4) hk rfl ?_
            refine E_run hk 1 (j' := 57) (lv' := [(3, yi 0), (2, yi 115), (1, yi (5 * (v 11))), (0, .ref 63)]) (st' := [yi 0, yi ((5 * (v 11)) + 4), .ref 68]) (hp' := H20) rfl ?_
            refine Y_iast (a := ((5 * (v 11)) + 4)) (x := 0) (by omega) (by decide) (by decide) hk rfl e21 (fun H23 e24 f25 => ?_)
            refine E_run hk 2 (j' := 60) (lv' := [(3, yi 0), (2, yi 115), (1, yi (5 * (v 11))), (0, .ref 63)]) (st' := [yi 119, yi 115]) (hp' := H23) rfl ?_
            refine Y_ic_eq (a := 115) (b := 119) (by omega) hk rfl (fun g26 => ?_) (fun g26 => ?_)
            · exfalso; omega
            ·
              refine E_run hk 2 (j' := 63) (lv' := [(3, yi 0), (2, yi 115), (1, yi (5 * (v 11))), (0, .ref 63)]) (st' := [yi 102, yi 115]) (hp' := H23) rfl ?_
              refine Y_ic_eq (a := 115) (b := 102) (by omega) hk rfl (fun g27 => ?_) (fun g27 => ?_)
              · exfalso; omega
              ·
                refine E_run hk 3 (j' := 67) (lv' := [(3, yi 0), (2, yi 115), (1, yi (5 * (v 11))), (0, .ref 63)]) (st' := [yi 58, yi 58, .ref 63]) (hp' := H23) rfl ?_
                refine Y_call hk rfl (as := [.ref 63, yi 58, yi 58]) (rest := []) (v := some (yi (sg X (v 7) (a_H5 + w_H15) - 48))) rfl rfl (Nat.le_of_ble_eq_true rfl) (rcv0 (f25.at (by decide) (f22.at (by decide) (f19.at (by decide) e_H15)))) (Nat.le_of_ble_eq_true rfl) (c_X9_takes (v := (vup (vup (vup (vup (vup v 9 1) 9 w_H5) 8 a_H5) 9 w_H15) 8 (a_H5 + w_H15))) (f25.at (by decide) (f22.at (by decide) (f19.at (by decide) e_H15))) (f25.at (by decide) (f22.at (by decide) (f19.at (by decide) (f_H15.at (by decide) (f13.at (by decide) (f_H5.at (by decide) (f3.at (by decide) hX))))))) hn hc (show 0 ≤ a_H5 + w_H15 ∧ a_H5 + w_H15 ≤ v 7 by omega) (show w_H15 = 0 ∨ w_H15 = 1 by omega) (l := 58) (u := 58) (by omega) (hd := by omega)) (fun H28 r29 => ?_)
                obtain ⟨e0_H28, f_H28⟩ := r29
                obtain ⟨w_H28, hq_H28⟩ : ∃ w, b2 (w_H15 = 1 ∧ 58 ≤ sg X (v 7) (a_H5 + w_H15) ∧ sg X (v 7) (a_H5 + w_H15) ≤ 58) = w := ⟨_, rfl⟩
                have e_H28 : xat H28 63 = some (yMo (vup (vup (vup (vup (vup (vup (vup v 9 1) 9 w_H5) 8 a_H5) 9 w_H15) 8 (a_H5 + w_H15)) 9 w_H28) 8 ((a_H5 + w_H15) + w_H28))) := by rw [← hq_H28]; exact e0_H28
                obtain ⟨k1_H28, k2_H28, k3_H28⟩ := tk_step hc (show 0 ≤ a_H5 + w_H15 ∧ a_H5 + w_H15 ≤ v 7 by omega) (show w_H15 = 0 ∨ w_H15 = 1 by omega) (by omega) hq_H28
                refine E_run hk 3 (j' := 71) (lv' := [(3, yi 0), (2, yi 115), (1, yi (5 * (v 11))), (0, .ref 63)]) (st' := [yi 115, yi 115]) (hp' := H28) rfl ?_
                refine Y_ic_ne (a := 115) (b := 115) (by omega) hk rfl (fun g30 => ?_) (fun g30 => ?_)
                · exfalso; omega
                ·
                  refine E_run hk 2 (j' := 74) (lv' := [(3, yi 0), (2, yi 115), (1, yi (5 * (v 11))), (0, .ref 63)]) (st' := [yi (5 * (v 11)), .ref 63]) (hp' := H28) rfl ?_
                  refine Y_call hk rfl (as := [.ref 63, yi (5 * (v 11))]) (rest := []) (v := none) rfl rfl (Nat.le_of_ble_eq_true rfl) (rcv0 e_H28) (Nat.le_of_ble_eq_true rfl) (c_X9_readsPitches (v := (vup (vup (vup (vup (vup (vup (vup v 9 1) 9 w_H5) 8 a_H5) 9 w_H15) 8 (a_H5 + w_H15)) 9 w_H28) 8 ((a_H5 + w_H15) + w_H28))) e_H28 (f_H28.at (by decide) (f25.at (by decide) (f22.at (by decide) (f19.at (by decide) (f_H15.at (by decide) (f13.at (by decide) (f_H5.at (by decide) (f3.at (by decide) hX)))))))) hn hc (show 0 ≤ (a_H5 + w_H15) + w_H28 ∧ (a_H5 + w_H15) + w_H28 ≤ v 7 by omega) (f_H28.at (by decide) e24) (f_H28.at (by decide) (f25.at (by decide) (f22.at (by decide) (f19.at (by decide) (f_H15.at (by decide) (f13.at (by decide) (f_H5.at (by decide) (f3.at (by decide) hC)))))))) (show w_H28 = 0 ∨ w_H28 = 1 by omega) (show 0 ≤ v 13 ∧ 2 * (v 13) ≤ (a_H5 + w_H15) + w_H28 by omega) (q := (5 * (v 11))) (by omega) (hd := by omega)) (fun H31 r32 => ?_)
                  obtain ⟨a_H31, w_H31, kk_H31, b_H31, c_H31, pp0_H31, pk_H31, pa0_H31, pb_H31, px_H31, pc0_H31, e0_H31, eb_H31, ec_H31, f_H31⟩ := r32
                  have e_H31 : xat H31 63 = some (yMo (vup (vup (vup (vup (vup (vup (vup (vup (vup (vup v 9 1) 9 w_H5) 8 a_H5) 9 w_H15) 8 (a_H5 + w_H15)) 9 w_H28) 8 ((a_H5 + w_H15) + w_H28)) 9 w_H31) 8 a_H31) 13 ((v 13) + kk_H31))) := e0_H31
                  have pp_H31 : (w_H31 = 1 ∧ w_H28 = 1 ∧ 1 ≤ kk_H31 ∧ pit4 X (v 7) ((a_H5 + w_H15) + w_H28) a_H31 kk_H31 c_H31 (v 13)) ∨ (w_H31 = 0 ∧ (w_H28 = 1 → pit0 X (v 7) ((a_H5 + w_H15) + w_H28) a_H31) ∧ (w_H28 = 0 → a_H31 = (a_H5 + w_H15) + w_H28 ∧ kk_H31 = 0)) := pp0_H31
                  have pa_H31 : (a_H5 + w_H15) + w_H28 ≤ a_H31 ∧ a_H31 ≤ v 7 := pa0_H31
                  have ph_H31 : 2 * kk_H31 ≤ a_H31 - ((a_H5 + w_H15) + w_H28) + 1 := pk_H31.2
                  have pc_H31 : ∀ x, x < v 13 → c_H31 x = C x := pc0_H31
                  have pw_H31 : w_H31 = 0 ∨ w_H31 = 1 := by rcases pp_H31 with ⟨x1, -⟩ | ⟨x1, -⟩; exact Or.inr x1; exact Or.inl x1
                  have pz_H31 : (w_H28 = 0 → a_H31 = (a_H5 + w_H15) + w_H28 ∧ kk_H31 = 0) ∧ (w_H31 = 1 → w_H28 = 1) := by rcases pp_H31 with ⟨x1, x2, -⟩ | ⟨x1, -, x3⟩; exact ⟨fun _ => by omega, fun _ => x2⟩; exact ⟨x3, fun _ => by omega⟩
                  refine E_run hk 3 (j' := 120) (lv' := [(3, yi 0), (2, yi 115), (1, yi (5 * (v 11))), (0, .ref 63)]) (st' := [.ref 63, .ref 63]) (hp' := H31) rfl ?_
                  refine E_get (v := yi (v 11)) hk rfl e_H31 rfl ?_
                  refine E_run hk 1 (j' := 122) (lv' := [(3, yi 0), (2, yi 115), (1, yi (5 * (v 11))), (0, .ref 63)]) (st' := [.ref 63, yi (v 11), .ref 63]) (hp' := H31) rfl ?_
                  refine E_get (v := yi w_H31) hk rfl e_H31 rfl ?_
                  refine Y_if_eq (a := w_H31) (by omega) hk rfl (fun g33 => ?_) (fun g33 => ?_)
                  ·
                    refine E_run hk 1 (j' := 127) (lv' := [(3, yi 0), (2, yi 115), (1, yi (5 * (v 11))), (0, .ref 63)]) (st' := [yi 0, yi (v 11), .ref 63]) (hp' := H31) rfl ?_
                    refine Y_iadd (a := (v 11)) (b := 0) hk rfl ?_
                    refine Y_put hk rfl e_H31 (by decide) (Nat.le_of_ble_eq_true rfl) rfl (fs' := [yi (v 0), .ref 64, .ref 65, yi (v 3), .ref 66, yi (v 5), .ref 67, yi (v 7), yi a_H31, yi w_H31, .ref 68, yi ((v 11) + 0), .ref 69, yi ((v 13) + kk_H31), .ref 70, .ref 71, .ref 72, .ref 73, .ref 74, .ref 75, yi (v 20), yi (v 21)]) rfl (fun H34 e35 f36 => ?_)
                    exact E_ret hk rfl rfl (by
      have e9 := e35
      rw [show (v 11) + 0 = v 11 + w_H31 by omega] at e9
      exact ⟨rfl, a_H31, w_H31, kk_H31, b_H31, c_H31, Or.inr ⟨by omega, by rw [show a_H31 = a_H5 by omega]; exact rwd_badp rw_H5 w0⟩, ⟨by omega, by omega⟩, ⟨by omega, by omega, fun _ => by omega⟩, fun x x1 => (px_H31 x (by omega)).trans (by repeat (first | rw [up_self] | rw [up_ne _ _ (by omega)])), pc_H31, (by exact e9), (f36.at (by decide) eb_H31), (f36.at (by decide) ec_H31), (yfr.tr (yfr.tr (yfr.tr (yfr.tr (yfr.tr (yfr.tr (yfr.tr (yfr.tr (yfr.tr (f3.mono (by decide)) f_H5 (fun _ h => h) (by decide)) f13 (fun _ h => h) (by decide)) f_H15 (fun _ h => h) (by decide)) f19 (fun _ h => h) (by decide)) f22 (fun _ h => h) (by decide)) f25 (fun _ h => h) (by decide)) f_H28 (fun _ h => h) (by decide)) f_H31 (fun _ h => h) (by decide)) f36 (fun _ h => h) (by decide))⟩)
                  ·
                    refine E_run hk 2 (j' := 127) (lv' := [(3, yi 0), (2, yi 115), (1, yi (5 * (v 11))), (0, .ref 63)]) (st' := [yi 1, yi (v 11), .ref 63]) (hp' := H31) rfl ?_
                    refine Y_iadd (a := (v 11)) (b := 1) hk rfl ?_
                    refine Y_put hk rfl e_H31 (by decide) (Nat.le_of_ble_eq_true rfl) rfl (fs' := [yi (v 0), .ref 64, .ref 65, yi (v 3), .ref 66, yi (v 5), .ref 67, yi (v 7), yi a_H31, yi w_H31, .ref 68, yi ((v 11) + 1), .ref 69, yi ((v 13) + kk_H31), .ref 70, .ref 71, .ref 72, .ref 73, .ref 74, .ref 75, yi (v 20), yi (v 21)]) rfl (fun H37 e38 f39 => ?_)
                    exact E_ret hk rfl rfl (by exfalso; omega)
          · exfalso; omega
        · exfalso; omega
  · rw [w7]
    refine E_run hk 2 (j' := 13) (lv' := [(2, yi 114), (1, yi (5 * (v 11))), (0, .ref 63)]) (st' := [yi 98, yi 114]) (hp' := H5) rfl ?_
    refine Y_ic_eq (a := 114) (b := 98) (by omega) hk rfl (fun g40 => ?_) (fun g40 => ?_)
    · exfalso; omega
    ·
      refine E_run hk 2 (j' := 16) (lv' := [(2, yi 114), (1, yi (5 * (v 11))), (0, .ref 63)]) (st' := [yi 104, yi 114]) (hp' := H5) rfl ?_
      refine Y_ic_eq (a := 114) (b := 104) (by omega) hk rfl (fun g41 => ?_) (fun g41 => ?_)
      · exfalso; omega
      ·
        refine E_run hk 2 (j' := 19) (lv' := [(2, yi 114), (1, yi (5 * (v 11))), (0, .ref 63)]) (st' := [yi 106, yi 114]) (hp' := H5) rfl ?_
        refine Y_ic_ne (a := 114) (b := 106) (by omega) hk rfl (fun g42 => ?_) (fun g42 => ?_)
        ·
          refine E_run hk 2 (j' := 24) (lv' := [(3, yi 0), (2, yi 114), (1, yi (5 * (v 11))), (0, .ref 63)]) (st' := []) (hp' := H5) rfl ?_
          refine E_run hk 1 (j' := 25) (lv' := [(3, yi 0), (2, yi 114), (1, yi (5 * (v 11))), (0, .ref 63)]) (st' := [.ref 63]) (hp' := H5) rfl ?_
          refine E_get (v := .ref 68) hk rfl e_H5 rfl ?_
          refine E_run hk 2 (j' := 28) (lv' := [(3, yi 0), (2, yi 114), (1, yi (5 * (v 11))), (0, .ref 63)]) (st' := [yi 114, yi (5 * (v 11)), .ref 68]) (hp' := H5) rfl ?_
          refine Y_iast (a := (5 * (v 11))) (x := 114) (by omega) (by decide) (by decide) hk rfl (f_H5.at (by decide) (f3.at (by decide) hB)) (fun H43 e44 f45 => ?_)
          refine E_run hk 1 (j' := 30) (lv' := [(3, yi 0), (2, yi 114), (1, yi (5 * (v 11))), (0, .ref 63)]) (st' := [.ref 63]) (hp' := H43) rfl ?_
          refine E_get (v := .ref 68) hk rfl (f45.at (by decide) e_H5) rfl ?_
          refine E_run hk 2 (j' := 33) (lv' := [(3, yi 0), (2, yi 114), (1, yi (5 * (v 11))), (0, .ref 63)]) (st' := [yi 1, yi (5 * (v 11)), .ref 68]) (hp' := H43) rfl ?_
          refine Y_iadd (a := (5 * (v 11))) (b := 1) hk rfl ?_
          refine E_run hk 1 (j' := 35) (lv' := [(3, yi 0), (2, yi 114), (1, yi (5 * (v 11))), (0, .ref 63)]) (st' := [yi 0, yi ((5 * (v 11)) + 1), .ref 68]) (hp' := H43) rfl ?_
          refine Y_if_eq (a := 0) (by omega) hk rfl (fun g46 => ?_) (fun g46 => ?_)
          ·
            refine E_run hk 3 (j' := 41) (lv' := [(3, yi 0), (2, yi 114), (1, yi (5 * (v 11))), (0, .ref 63)]) (st' := [yi 49, yi 48, .ref 63, yi ((5 * (v 11)) + 1), .ref 68]) (hp' := H43) rfl ?_
            refine Y_call hk rfl (as := [.ref 63, yi 48, yi 49]) (rest := [yi ((5 * (v 11)) + 1), .ref 68]) (v := some (yi (sg X (v 7) a_H5 - 48))) rfl rfl (Nat.le_of_ble_eq_true rfl) (rcv0 (f45.at (by decide) e_H5)) (Nat.le_of_ble_eq_true rfl) (c_X9_takes (v := (vup (vup (vup v 9 1) 9 w_H5) 8 a_H5)) (f45.at (by decide) e_H5) (f45.at (by decide) (f_H5.at (by decide) (f3.at (by decide) hX))) hn hc (show 0 ≤ a_H5 ∧ a_H5 ≤ v 7 by omega) (show w_H5 = 0 ∨ w_H5 = 1 by omega) (l := 48) (u := 49) (by omega) (hd := by omega)) (fun H47 r48 => ?_)
            obtain ⟨e0_H47, f_H47⟩ := r48
            obtain ⟨w_H47, hq_H47⟩ : ∃ w, b2 (w_H5 = 1 ∧ 48 ≤ sg X (v 7) a_H5 ∧ sg X (v 7) a_H5 ≤ 49) = w := ⟨_, rfl⟩
            have e_H47 : xat H47 63 = some (yMo (vup (vup (vup (vup (vup v 9 1) 9 w_H5) 8 a_H5) 9 w_H47) 8 (a_H5 + w_H47))) := by rw [← hq_H47]; exact e0_H47
            obtain ⟨k1_H47, k2_H47, k3_H47⟩ := tk_step hc (show 0 ≤ a_H5 ∧ a_H5 ≤ v 7 by omega) (show w_H5 = 0 ∨ w_H5 = 1 by omega) (by omega) hq_H47
            refine Y_iast (a := ((5 * (v 11)) + 1)) (x := (sg X (v 7) a_H5 - 48)) (by omega) (by decide) (by decide) hk rfl (f_H47.at (by decide) e44) (fun H49 e50 f51 => ?_)
            refine E_run hk 1 (j' := 44) (lv' := [(3, yi 0), (2, yi 114), (1, yi (5 * (v 11))), (0, .ref 63)]) (st' := [.ref 63]) (hp' := H49) rfl ?_
            refine E_get (v := .ref 68) hk rfl (f51.at (by decide) e_H47) rfl ?_
            refine E_run hk 2 (j' := 47) (lv' := [(3, yi 0), (2, yi 114), (1, yi (5 * (v 11))), (0, .ref 63)]) (st' := [yi 3, yi (5 * (v 11)), .ref 68]) (hp' := H49) rfl ?_
            refine Y_iadd (a := (5 * (v 11))) (b := 3) hk rfl ?_
            refine E_run hk 1 (j' := 49) (lv' := [(3, yi 0), (2, yi 114), (1, yi (5 * (v 11))), (0, .ref 63)]) (st' := [.ref 63, yi ((5 * (v 11)) + 3), .ref 68]) (hp' := H49) rfl ?_
            refine E_get (v := yi (v 13)) hk rfl (f51.at (by decide) e_H47) rfl ?_
            refine Y_iast (a := ((5 * (v 11)) + 3)) (x := (v 13)) (by omega) (by decide) (by decide) hk rfl e50 (fun H52 e53 f54 => ?_)
            refine E_run hk 1 (j' := 52) (lv' := [(3, yi 0), (2, yi 114), (1, yi (5 * (v 11))), (0, .ref 63)]) (st' := [.ref 63]) (hp' := H52) rfl ?_
            refine E_get (v := .ref 68) hk rfl (f54.at (by decide) (f51.at (by decide) e_H47)) rfl ?_
            refine E_run hk 2 (j' := 55) (lv' := [(3, yi 0), (2, yi 114), (1, yi (5 * (v 11))), (0, .ref 63)]) (st' := [yi 4, yi (5 * (v 11)), .ref 68]) (hp' := H52) rfl ?_
            refine Y_iadd (a := (5 * (v 11))) (b := 4) hk rfl ?_
            refine E_run hk 1 (j' := 57) (lv' := [(3, yi 0), (2, yi 114), (1, yi (5 * (v 11))), (0, .ref 63)]) (st' := [yi 0, yi ((5 * (v 11)) + 4), .ref 68]) (hp' := H52) rfl ?_
            refine Y_iast (a := ((5 * (v 11)) + 4)) (x := 0) (by omega) (by decide) (by decide) hk rfl e53 (fun H55 e56 f57 => ?_)
            refine E_run hk 2 (j' := 60) (lv' := [(3, yi 0), (2, yi 114), (1, yi (5 * (v 11))), (0, .ref 63)]) (st' := [yi 119, yi 114]) (hp' := H55) rfl ?_
            refine Y_ic_eq (a := 114) (b := 119) (by omega) hk rfl (fun g58 => ?_) (fun g58 => ?_)
            · exfalso; omega
            ·
              refine E_run hk 2 (j' := 63) (lv' := [(3, yi 0), (2, yi 114), (1, yi (5 * (v 11))), (0, .ref 63)]) (st' := [yi 102, yi 114]) (hp' := H55) rfl ?_
              refine Y_ic_eq (a := 114) (b := 102) (by omega) hk rfl (fun g59 => ?_) (fun g59 => ?_)
              · exfalso; omega
              ·
                refine E_run hk 3 (j' := 67) (lv' := [(3, yi 0), (2, yi 114), (1, yi (5 * (v 11))), (0, .ref 63)]) (st' := [yi 58, yi 58, .ref 63]) (hp' := H55) rfl ?_
                refine Y_call hk rfl (as := [.ref 63, yi 58, yi 58]) (rest := []) (v := some (yi (sg X (v 7) (a_H5 + w_H47) - 48))) rfl rfl (Nat.le_of_ble_eq_true rfl) (rcv0 (f57.at (by decide) (f54.at (by decide) (f51.at (by decide) e_H47)))) (Nat.le_of_ble_eq_true rfl) (c_X9_takes (v := (vup (vup (vup (vup (vup v 9 1) 9 w_H5) 8 a_H5) 9 w_H47) 8 (a_H5 + w_H47))) (f57.at (by decide) (f54.at (by decide) (f51.at (by decide) e_H47))) (f57.at (by decide) (f54.at (by decide) (f51.at (by decide) (f_H47.at (by decide) (f45.at (by decide) (f_H5.at (by decide) (f3.at (by decide) hX))))))) hn hc (show 0 ≤ a_H5 + w_H47 ∧ a_H5 + w_H47 ≤ v 7 by omega) (show w_H47 = 0 ∨ w_H47 = 1 by omega) (l := 58) (u := 58) (by omega) (hd := by omega)) (fun H60 r61 => ?_)
                obtain ⟨e0_H60, f_H60⟩ := r61
                obtain ⟨w_H60, hq_H60⟩ : ∃ w, b2 (w_H47 = 1 ∧ 58 ≤ sg X (v 7) (a_H5 + w_H47) ∧ sg X (v 7) (a_H5 + w_H47) ≤ 58) = w := ⟨_, rfl⟩
                have e_H60 : xat H60 63 = some (yMo (vup (vup (vup (vup (vup (vup (vup v 9 1) 9 w_H5) 8 a_H5) 9 w_H47) 8 (a_H5 + w_H47)) 9 w_H60) 8 ((a_H5 + w_H47) + w_H60))) := by rw [← hq_H60]; exact e0_H60
                obtain ⟨k1_H60, k2_H60, k3_H60⟩ := tk_step hc (show 0 ≤ a_H5 + w_H47 ∧ a_H5 + w_H47 ≤ v 7 by omega) (show w_H47 = 0 ∨ w_H47 = 1 by omega) (by omega) hq_H60
                refine E_run hk 3 (j' := 71) (lv' := [(3, yi 0), (2, yi 114), (1, yi (5 * (v 11))), (0, .ref 63)]) (st' := [yi 115, yi 114]) (hp' := H60) rfl ?_
                refine Y_ic_ne (a := 114) (b := 115) (by omega) hk rfl (fun g62 => ?_) (fun g62 => ?_)
                ·
                  refine E_run hk 2 (j' := 78) (lv' := [(3, yi 0), (2, yi 114), (1, yi (5 * (v 11))), (0, .ref 63)]) (st' := [yi 114, yi 114]) (hp' := H60) rfl ?_
                  refine Y_ic_eq (a := 114) (b := 114) (by omega) hk rfl (fun g63 => ?_) (fun g63 => ?_)
                  ·
                    refine E_run hk 1 (j' := 83) (lv' := [(3, yi 0), (2, yi 114), (1, yi (5 * (v 11))), (0, .ref 63)]) (st' := [.ref 63]) (hp' := H60) rfl ?_
                    refine E_get (v := .ref 68) hk rfl e_H60 rfl ?_
                    refine E_run hk 2 (j' := 86) (lv' := [(3, yi 0), (2, yi 114), (1, yi (5 * (v 11))), (0, .ref 63)]) (st' := [yi 2, yi (5 * (v 11)), .ref 68]) (hp' := H60) rfl ?_
                    refine Y_iadd (a := (5 * (v 11))) (b := 2) hk rfl ?_
                    refine E_run hk 3 (j' := 90) (lv' := [(3, yi 0), (2, yi 114), (1, yi (5 * (v 11))), (0, .ref 63)]) (st' := [yi 12, yi 1, .ref 63, yi ((5 * (v 11)) + 2), .ref 68]) (hp' := H60) rfl ?_
                    refine Y_callE hk rfl (as := [.ref 63, yi 1, yi 12]) (rest := [yi ((5 * (v 11)) + 2), .ref 68]) rfl rfl (Nat.le_of_ble_eq_true rfl) (rcv0 e_H60) (Nat.le_of_ble_eq_true rfl) (c_X9_number (v := (vup (vup (vup (vup (vup (vup (vup v 9 1) 9 w_H5) 8 a_H5) 9 w_H47) 8 (a_H5 + w_H47)) 9 w_H60) 8 ((a_H5 + w_H47) + w_H60))) e_H60 (f_H60.at (by decide) (f57.at (by decide) (f54.at (by decide) (f51.at (by decide) (f_H47.at (by decide) (f45.at (by decide) (f_H5.at (by decide) (f3.at (by decide) hX)))))))) hn hc (show 0 ≤ (a_H5 + w_H47) + w_H60 ∧ (a_H5 + w_H47) + w_H60 ≤ v 7 by omega) (show w_H60 = 0 ∨ w_H60 = 1 by omega) (l := 1) (u := 12) (by omega) (by omega) (hd := by omega)) (fun z64 H65 r66 => ?_)
                    obtain ⟨a_H65, w_H65, nm_H65, no_H65, zr_H65, e0_H65, f_H65⟩ := r66
                    have e_H65 : xat H65 63 = some (yMo (vup (vup (vup (vup (vup (vup (vup (vup (vup v 9 1) 9 w_H5) 8 a_H5) 9 w_H47) 8 (a_H5 + w_H47)) 9 w_H60) 8 ((a_H5 + w_H47) + w_H60)) 9 w_H65) 8 a_H65)) := e0_H65
                    have nm1_H65 : w_H60 = 1 → nmb X (v 7) 1 12 ((a_H5 + w_H47) + w_H60) z64 a_H65 w_H65 := nm_H65
                    have no1_H65 : w_H60 = 0 → w_H65 = 0 ∧ a_H65 = (a_H5 + w_H47) + w_H60 := no_H65
                    have k_H65 : (w_H65 = 0 ∧ a_H65 = (a_H5 + w_H47) + w_H60) ∨ (w_H65 = 1 ∧ w_H60 = 1 ∧ (a_H5 + w_H47) + w_H60 < a_H65 ∧ a_H65 ≤ v 7 ∧ 0 ≤ z64 ∧ z64 ≤ 12) := by rcases (show w_H60 = 0 ∨ w_H60 = 1 by omega) with x9 | x9; exact Or.inl (no1_H65 x9); rcases nm1_H65 x9 with ⟨x1, x2, -⟩ | ⟨x1, x2, x3, x4, x5, -⟩; exact Or.inl ⟨x1, x2⟩; exact Or.inr ⟨x1, x9, x2, x3, x4, x5⟩
                    refine Y_iast (a := ((5 * (v 11)) + 2)) (x := z64) (by omega) (by decide) (by decide) hk rfl (f_H65.at (by decide) (f_H60.at (by decide) e56)) (fun H67 e68 f69 => ?_)
                    refine E_run hk 3 (j' := 120) (lv' := [(3, yi 0), (2, yi 114), (1, yi (5 * (v 11))), (0, .ref 63)]) (st' := [.ref 63, .ref 63]) (hp' := H67) rfl ?_
                    refine E_get (v := yi (v 11)) hk rfl (f69.at (by decide) e_H65) rfl ?_
                    refine E_run hk 1 (j' := 122) (lv' := [(3, yi 0), (2, yi 114), (1, yi (5 * (v 11))), (0, .ref 63)]) (st' := [.ref 63, yi (v 11), .ref 63]) (hp' := H67) rfl ?_
                    refine E_get (v := yi w_H65) hk rfl (f69.at (by decide) e_H65) rfl ?_
                    refine Y_if_eq (a := w_H65) (by omega) hk rfl (fun g70 => ?_) (fun g70 => ?_)
                    ·
                      refine E_run hk 1 (j' := 127) (lv' := [(3, yi 0), (2, yi 114), (1, yi (5 * (v 11))), (0, .ref 63)]) (st' := [yi 0, yi (v 11), .ref 63]) (hp' := H67) rfl ?_
                      refine Y_iadd (a := (v 11)) (b := 0) hk rfl ?_
                      refine Y_put hk rfl (f69.at (by decide) e_H65) (by decide) (Nat.le_of_ble_eq_true rfl) rfl (fs' := [yi (v 0), .ref 64, .ref 65, yi (v 3), .ref 66, yi (v 5), .ref 67, yi (v 7), yi a_H65, yi w_H65, .ref 68, yi ((v 11) + 0), .ref 69, yi (v 13), .ref 70, .ref 71, .ref 72, .ref 73, .ref 74, .ref 75, yi (v 20), yi (v 21)]) rfl (fun H71 e72 f73 => ?_)
                      exact E_ret hk rfl rfl (by
      have e9 := e72
      rw [show (v 11) + 0 = v 11 + w_H65 by omega] at e9
      exact ⟨rfl, a_H65, w_H65, 0, up (up (up (up (up B (5 * (v 11)) 114) ((5 * (v 11)) + 1) (sg X (v 7) a_H5 - 48)) ((5 * (v 11)) + 3) (v 13)) ((5 * (v 11)) + 4) 0) ((5 * (v 11)) + 2) z64, C, Or.inr ⟨by omega, by rw [show a_H65 = a_H5 by omega]; exact rwd_badp rw_H5 w0⟩, ⟨by omega, by omega⟩, ⟨by omega, by omega, fun _ => by omega⟩, fun x x1 => (by repeat (first | rw [up_self] | rw [up_ne _ _ (by omega)])), fun _ _ => rfl, (by rw [Int.add_zero]; exact e9), (f73.at (by decide) e68), (f73.at (by decide) (f69.at (by decide) (f_H65.at (by decide) (f_H60.at (by decide) (f57.at (by decide) (f54.at (by decide) (f51.at (by decide) (f_H47.at (by decide) (f45.at (by decide) (f_H5.at (by decide) (f3.at (by decide) hC))))))))))), (yfr.tr (yfr.tr (yfr.tr (yfr.tr (yfr.tr (yfr.tr (yfr.tr (yfr.tr (yfr.tr (yfr.tr (f3.mono (by decide)) f_H5 (fun _ h => h) (by decide)) f45 (fun _ h => h) (by decide)) f_H47 (fun _ h => h) (by decide)) f51 (fun _ h => h) (by decide)) f54 (fun _ h => h) (by decide)) f57 (fun _ h => h) (by decide)) f_H60 (fun _ h => h) (by decide)) f_H65 (fun _ h => h) (by decide)) f69 (fun _ h => h) (by decide)) f73 (fun _ h => h) (by decide))⟩)
                    ·
                      refine E_run hk 2 (j' := 127) (lv' := [(3, yi 0), (2, yi 114), (1, yi (5 * (v 11))), (0, .ref 63)]) (st' := [yi 1, yi (v 11), .ref 63]) (hp' := H67) rfl ?_
                      refine Y_iadd (a := (v 11)) (b := 1) hk rfl ?_
                      refine Y_put hk rfl (f69.at (by decide) e_H65) (by decide) (Nat.le_of_ble_eq_true rfl) rfl (fs' := [yi (v 0), .ref 64, .ref 65, yi (v 3), .ref 66, yi (v 5), .ref 67, yi (v 7), yi a_H65, yi w_H65, .ref 68, yi ((v 11) + 1), .ref 69, yi (v 13), .ref 70, .ref 71, .ref 72, .ref 73, .ref 74, .ref 75, yi (v 20), yi (v 21)]) rfl (fun H74 e75 f76 => ?_)
                      exact E_ret hk rfl rfl (by exfalso; omega)
                  · exfalso; omega
                · exfalso; omega
          · exfalso; omega
        · exfalso; omega
  · rw [w7]
    refine E_run hk 2 (j' := 13) (lv' := [(2, yi 108), (1, yi (5 * (v 11))), (0, .ref 63)]) (st' := [yi 98, yi 108]) (hp' := H5) rfl ?_
    refine Y_ic_eq (a := 108) (b := 98) (by omega) hk rfl (fun g77 => ?_) (fun g77 => ?_)
    · exfalso; omega
    ·
      refine E_run hk 2 (j' := 16) (lv' := [(2, yi 108), (1, yi (5 * (v 11))), (0, .ref 63)]) (st' := [yi 104, yi 108]) (hp' := H5) rfl ?_
      refine Y_ic_eq (a := 108) (b := 104) (by omega) hk rfl (fun g78 => ?_) (fun g78 => ?_)
      · exfalso; omega
      ·
        refine E_run hk 2 (j' := 19) (lv' := [(2, yi 108), (1, yi (5 * (v 11))), (0, .ref 63)]) (st' := [yi 106, yi 108]) (hp' := H5) rfl ?_
        refine Y_ic_ne (a := 108) (b := 106) (by omega) hk rfl (fun g79 => ?_) (fun g79 => ?_)
        ·
          refine E_run hk 2 (j' := 24) (lv' := [(3, yi 0), (2, yi 108), (1, yi (5 * (v 11))), (0, .ref 63)]) (st' := []) (hp' := H5) rfl ?_
          refine E_run hk 1 (j' := 25) (lv' := [(3, yi 0), (2, yi 108), (1, yi (5 * (v 11))), (0, .ref 63)]) (st' := [.ref 63]) (hp' := H5) rfl ?_
          refine E_get (v := .ref 68) hk rfl e_H5 rfl ?_
          refine E_run hk 2 (j' := 28) (lv' := [(3, yi 0), (2, yi 108), (1, yi (5 * (v 11))), (0, .ref 63)]) (st' := [yi 108, yi (5 * (v 11)), .ref 68]) (hp' := H5) rfl ?_
          refine Y_iast (a := (5 * (v 11))) (x := 108) (by omega) (by decide) (by decide) hk rfl (f_H5.at (by decide) (f3.at (by decide) hB)) (fun H80 e81 f82 => ?_)
          refine E_run hk 1 (j' := 30) (lv' := [(3, yi 0), (2, yi 108), (1, yi (5 * (v 11))), (0, .ref 63)]) (st' := [.ref 63]) (hp' := H80) rfl ?_
          refine E_get (v := .ref 68) hk rfl (f82.at (by decide) e_H5) rfl ?_
          refine E_run hk 2 (j' := 33) (lv' := [(3, yi 0), (2, yi 108), (1, yi (5 * (v 11))), (0, .ref 63)]) (st' := [yi 1, yi (5 * (v 11)), .ref 68]) (hp' := H80) rfl ?_
          refine Y_iadd (a := (5 * (v 11))) (b := 1) hk rfl ?_
          refine E_run hk 1 (j' := 35) (lv' := [(3, yi 0), (2, yi 108), (1, yi (5 * (v 11))), (0, .ref 63)]) (st' := [yi 0, yi ((5 * (v 11)) + 1), .ref 68]) (hp' := H80) rfl ?_
          refine Y_if_eq (a := 0) (by omega) hk rfl (fun g83 => ?_) (fun g83 => ?_)
          ·
            refine E_run hk 3 (j' := 41) (lv' := [(3, yi 0), (2, yi 108), (1, yi (5 * (v 11))), (0, .ref 63)]) (st' := [yi 49, yi 48, .ref 63, yi ((5 * (v 11)) + 1), .ref 68]) (hp' := H80) rfl ?_
            refine Y_call hk rfl (as := [.ref 63, yi 48, yi 49]) (rest := [yi ((5 * (v 11)) + 1), .ref 68]) (v := some (yi (sg X (v 7) a_H5 - 48))) rfl rfl (Nat.le_of_ble_eq_true rfl) (rcv0 (f82.at (by decide) e_H5)) (Nat.le_of_ble_eq_true rfl) (c_X9_takes (v := (vup (vup (vup v 9 1) 9 w_H5) 8 a_H5)) (f82.at (by decide) e_H5) (f82.at (by decide) (f_H5.at (by decide) (f3.at (by decide) hX))) hn hc (show 0 ≤ a_H5 ∧ a_H5 ≤ v 7 by omega) (show w_H5 = 0 ∨ w_H5 = 1 by omega) (l := 48) (u := 49) (by omega) (hd := by omega)) (fun H84 r85 => ?_)
            obtain ⟨e0_H84, f_H84⟩ := r85
            obtain ⟨w_H84, hq_H84⟩ : ∃ w, b2 (w_H5 = 1 ∧ 48 ≤ sg X (v 7) a_H5 ∧ sg X (v 7) a_H5 ≤ 49) = w := ⟨_, rfl⟩
            have e_H84 : xat H84 63 = some (yMo (vup (vup (vup (vup (vup v 9 1) 9 w_H5) 8 a_H5) 9 w_H84) 8 (a_H5 + w_H84))) := by rw [← hq_H84]; exact e0_H84
            obtain ⟨k1_H84, k2_H84, k3_H84⟩ := tk_step hc (show 0 ≤ a_H5 ∧ a_H5 ≤ v 7 by omega) (show w_H5 = 0 ∨ w_H5 = 1 by omega) (by omega) hq_H84
            refine Y_iast (a := ((5 * (v 11)) + 1)) (x := (sg X (v 7) a_H5 - 48)) (by omega) (by decide) (by decide) hk rfl (f_H84.at (by decide) e81) (fun H86 e87 f88 => ?_)
            refine E_run hk 1 (j' := 44) (lv' := [(3, yi 0), (2, yi 108), (1, yi (5 * (v 11))), (0, .ref 63)]) (st' := [.ref 63]) (hp' := H86) rfl ?_
            refine E_get (v := .ref 68) hk rfl (f88.at (by decide) e_H84) rfl ?_
            refine E_run hk 2 (j' := 47) (lv' := [(3, yi 0), (2, yi 108), (1, yi (5 * (v 11))), (0, .ref 63)]) (st' := [yi 3, yi (5 * (v 11)), .ref 68]) (hp' := H86) rfl ?_
            refine Y_iadd (a := (5 * (v 11))) (b := 3) hk rfl ?_
            refine E_run hk 1 (j' := 49) (lv' := [(3, yi 0), (2, yi 108), (1, yi (5 * (v 11))), (0, .ref 63)]) (st' := [.ref 63, yi ((5 * (v 11)) + 3), .ref 68]) (hp' := H86) rfl ?_
            refine E_get (v := yi (v 13)) hk rfl (f88.at (by decide) e_H84) rfl ?_
            refine Y_iast (a := ((5 * (v 11)) + 3)) (x := (v 13)) (by omega) (by decide) (by decide) hk rfl e87 (fun H89 e90 f91 => ?_)
            refine E_run hk 1 (j' := 52) (lv' := [(3, yi 0), (2, yi 108), (1, yi (5 * (v 11))), (0, .ref 63)]) (st' := [.ref 63]) (hp' := H89) rfl ?_
            refine E_get (v := .ref 68) hk rfl (f91.at (by decide) (f88.at (by decide) e_H84)) rfl ?_
            refine E_run hk 2 (j' := 55) (lv' := [(3, yi 0), (2, yi 108), (1, yi (5 * (v 11))), (0, .ref 63)]) (st' := [yi 4, yi (5 * (v 11)), .ref 68]) (hp' := H89) rfl ?_
            refine Y_iadd (a := (5 * (v 11))) (b := 4) hk rfl ?_
            refine E_run hk 1 (j' := 57) (lv' := [(3, yi 0), (2, yi 108), (1, yi (5 * (v 11))), (0, .ref 63)]) (st' := [yi 0, yi ((5 * (v 11)) + 4), .ref 68]) (hp' := H89) rfl ?_
            refine Y_iast (a := ((5 * (v 11)) + 4)) (x := 0) (by omega) (by decide) (by decide) hk rfl e90 (fun H92 e93 f94 => ?_)
            refine E_run hk 2 (j' := 60) (lv' := [(3, yi 0), (2, yi 108), (1, yi (5 * (v 11))), (0, .ref 63)]) (st' := [yi 119, yi 108]) (hp' := H92) rfl ?_
            refine Y_ic_eq (a := 108) (b := 119) (by omega) hk rfl (fun g95 => ?_) (fun g95 => ?_)
            · exfalso; omega
            ·
              refine E_run hk 2 (j' := 63) (lv' := [(3, yi 0), (2, yi 108), (1, yi (5 * (v 11))), (0, .ref 63)]) (st' := [yi 102, yi 108]) (hp' := H92) rfl ?_
              refine Y_ic_eq (a := 108) (b := 102) (by omega) hk rfl (fun g96 => ?_) (fun g96 => ?_)
              · exfalso; omega
              ·
                refine E_run hk 3 (j' := 67) (lv' := [(3, yi 0), (2, yi 108), (1, yi (5 * (v 11))), (0, .ref 63)]) (st' := [yi 58, yi 58, .ref 63]) (hp' := H92) rfl ?_
                refine Y_call hk rfl (as := [.ref 63, yi 58, yi 58]) (rest := []) (v := some (yi (sg X (v 7) (a_H5 + w_H84) - 48))) rfl rfl (Nat.le_of_ble_eq_true rfl) (rcv0 (f94.at (by decide) (f91.at (by decide) (f88.at (by decide) e_H84)))) (Nat.le_of_ble_eq_true rfl) (c_X9_takes (v := (vup (vup (vup (vup (vup v 9 1) 9 w_H5) 8 a_H5) 9 w_H84) 8 (a_H5 + w_H84))) (f94.at (by decide) (f91.at (by decide) (f88.at (by decide) e_H84))) (f94.at (by decide) (f91.at (by decide) (f88.at (by decide) (f_H84.at (by decide) (f82.at (by decide) (f_H5.at (by decide) (f3.at (by decide) hX))))))) hn hc (show 0 ≤ a_H5 + w_H84 ∧ a_H5 + w_H84 ≤ v 7 by omega) (show w_H84 = 0 ∨ w_H84 = 1 by omega) (l := 58) (u := 58) (by omega) (hd := by omega)) (fun H97 r98 => ?_)
                obtain ⟨e0_H97, f_H97⟩ := r98
                obtain ⟨w_H97, hq_H97⟩ : ∃ w, b2 (w_H84 = 1 ∧ 58 ≤ sg X (v 7) (a_H5 + w_H84) ∧ sg X (v 7) (a_H5 + w_H84) ≤ 58) = w := ⟨_, rfl⟩
                have e_H97 : xat H97 63 = some (yMo (vup (vup (vup (vup (vup (vup (vup v 9 1) 9 w_H5) 8 a_H5) 9 w_H84) 8 (a_H5 + w_H84)) 9 w_H97) 8 ((a_H5 + w_H84) + w_H97))) := by rw [← hq_H97]; exact e0_H97
                obtain ⟨k1_H97, k2_H97, k3_H97⟩ := tk_step hc (show 0 ≤ a_H5 + w_H84 ∧ a_H5 + w_H84 ≤ v 7 by omega) (show w_H84 = 0 ∨ w_H84 = 1 by omega) (by omega) hq_H97
                refine E_run hk 3 (j' := 71) (lv' := [(3, yi 0), (2, yi 108), (1, yi (5 * (v 11))), (0, .ref 63)]) (st' := [yi 115, yi 108]) (hp' := H97) rfl ?_
                refine Y_ic_ne (a := 108) (b := 115) (by omega) hk rfl (fun g99 => ?_) (fun g99 => ?_)
                ·
                  refine E_run hk 2 (j' := 78) (lv' := [(3, yi 0), (2, yi 108), (1, yi (5 * (v 11))), (0, .ref 63)]) (st' := [yi 114, yi 108]) (hp' := H97) rfl ?_
                  refine Y_ic_eq (a := 108) (b := 114) (by omega) hk rfl (fun g100 => ?_) (fun g100 => ?_)
                  · exfalso; omega
                  ·
                    refine E_run hk 2 (j' := 81) (lv' := [(3, yi 0), (2, yi 108), (1, yi (5 * (v 11))), (0, .ref 63)]) (st' := [yi 108, yi 108]) (hp' := H97) rfl ?_
                    refine Y_ic_ne (a := 108) (b := 108) (by omega) hk rfl (fun g101 => ?_) (fun g101 => ?_)
                    · exfalso; omega
                    ·
                      refine E_run hk 1 (j' := 83) (lv' := [(3, yi 0), (2, yi 108), (1, yi (5 * (v 11))), (0, .ref 63)]) (st' := [.ref 63]) (hp' := H97) rfl ?_
                      refine E_get (v := .ref 68) hk rfl e_H97 rfl ?_
                      refine E_run hk 2 (j' := 86) (lv' := [(3, yi 0), (2, yi 108), (1, yi (5 * (v 11))), (0, .ref 63)]) (st' := [yi 2, yi (5 * (v 11)), .ref 68]) (hp' := H97) rfl ?_
                      refine Y_iadd (a := (5 * (v 11))) (b := 2) hk rfl ?_
                      refine E_run hk 3 (j' := 90) (lv' := [(3, yi 0), (2, yi 108), (1, yi (5 * (v 11))), (0, .ref 63)]) (st' := [yi 12, yi 1, .ref 63, yi ((5 * (v 11)) + 2), .ref 68]) (hp' := H97) rfl ?_
                      refine Y_callE hk rfl (as := [.ref 63, yi 1, yi 12]) (rest := [yi ((5 * (v 11)) + 2), .ref 68]) rfl rfl (Nat.le_of_ble_eq_true rfl) (rcv0 e_H97) (Nat.le_of_ble_eq_true rfl) (c_X9_number (v := (vup (vup (vup (vup (vup (vup (vup v 9 1) 9 w_H5) 8 a_H5) 9 w_H84) 8 (a_H5 + w_H84)) 9 w_H97) 8 ((a_H5 + w_H84) + w_H97))) e_H97 (f_H97.at (by decide) (f94.at (by decide) (f91.at (by decide) (f88.at (by decide) (f_H84.at (by decide) (f82.at (by decide) (f_H5.at (by decide) (f3.at (by decide) hX)))))))) hn hc (show 0 ≤ (a_H5 + w_H84) + w_H97 ∧ (a_H5 + w_H84) + w_H97 ≤ v 7 by omega) (show w_H97 = 0 ∨ w_H97 = 1 by omega) (l := 1) (u := 12) (by omega) (by omega) (hd := by omega)) (fun z102 H103 r104 => ?_)
                      obtain ⟨a_H103, w_H103, nm_H103, no_H103, zr_H103, e0_H103, f_H103⟩ := r104
                      have e_H103 : xat H103 63 = some (yMo (vup (vup (vup (vup (vup (vup (vup (vup (vup v 9 1) 9 w_H5) 8 a_H5) 9 w_H84) 8 (a_H5 + w_H84)) 9 w_H97) 8 ((a_H5 + w_H84) + w_H97)) 9 w_H103) 8 a_H103)) := e0_H103
                      have nm1_H103 : w_H97 = 1 → nmb X (v 7) 1 12 ((a_H5 + w_H84) + w_H97) z102 a_H103 w_H103 := nm_H103
                      have no1_H103 : w_H97 = 0 → w_H103 = 0 ∧ a_H103 = (a_H5 + w_H84) + w_H97 := no_H103
                      have k_H103 : (w_H103 = 0 ∧ a_H103 = (a_H5 + w_H84) + w_H97) ∨ (w_H103 = 1 ∧ w_H97 = 1 ∧ (a_H5 + w_H84) + w_H97 < a_H103 ∧ a_H103 ≤ v 7 ∧ 0 ≤ z102 ∧ z102 ≤ 12) := by rcases (show w_H97 = 0 ∨ w_H97 = 1 by omega) with x9 | x9; exact Or.inl (no1_H103 x9); rcases nm1_H103 x9 with ⟨x1, x2, -⟩ | ⟨x1, x2, x3, x4, x5, -⟩; exact Or.inl ⟨x1, x2⟩; exact Or.inr ⟨x1, x9, x2, x3, x4, x5⟩
                      refine Y_iast (a := ((5 * (v 11)) + 2)) (x := z102) (by omega) (by decide) (by decide) hk rfl (f_H103.at (by decide) (f_H97.at (by decide) e93)) (fun H105 e106 f107 => ?_)
                      refine E_run hk 3 (j' := 120) (lv' := [(3, yi 0), (2, yi 108), (1, yi (5 * (v 11))), (0, .ref 63)]) (st' := [.ref 63, .ref 63]) (hp' := H105) rfl ?_
                      refine E_get (v := yi (v 11)) hk rfl (f107.at (by decide) e_H103) rfl ?_
                      refine E_run hk 1 (j' := 122) (lv' := [(3, yi 0), (2, yi 108), (1, yi (5 * (v 11))), (0, .ref 63)]) (st' := [.ref 63, yi (v 11), .ref 63]) (hp' := H105) rfl ?_
                      refine E_get (v := yi w_H103) hk rfl (f107.at (by decide) e_H103) rfl ?_
                      refine Y_if_eq (a := w_H103) (by omega) hk rfl (fun g108 => ?_) (fun g108 => ?_)
                      ·
                        refine E_run hk 1 (j' := 127) (lv' := [(3, yi 0), (2, yi 108), (1, yi (5 * (v 11))), (0, .ref 63)]) (st' := [yi 0, yi (v 11), .ref 63]) (hp' := H105) rfl ?_
                        refine Y_iadd (a := (v 11)) (b := 0) hk rfl ?_
                        refine Y_put hk rfl (f107.at (by decide) e_H103) (by decide) (Nat.le_of_ble_eq_true rfl) rfl (fs' := [yi (v 0), .ref 64, .ref 65, yi (v 3), .ref 66, yi (v 5), .ref 67, yi (v 7), yi a_H103, yi w_H103, .ref 68, yi ((v 11) + 0), .ref 69, yi (v 13), .ref 70, .ref 71, .ref 72, .ref 73, .ref 74, .ref 75, yi (v 20), yi (v 21)]) rfl (fun H109 e110 f111 => ?_)
                        exact E_ret hk rfl rfl (by
      have e9 := e110
      rw [show (v 11) + 0 = v 11 + w_H103 by omega] at e9
      exact ⟨rfl, a_H103, w_H103, 0, up (up (up (up (up B (5 * (v 11)) 108) ((5 * (v 11)) + 1) (sg X (v 7) a_H5 - 48)) ((5 * (v 11)) + 3) (v 13)) ((5 * (v 11)) + 4) 0) ((5 * (v 11)) + 2) z102, C, Or.inr ⟨by omega, by rw [show a_H103 = a_H5 by omega]; exact rwd_badp rw_H5 w0⟩, ⟨by omega, by omega⟩, ⟨by omega, by omega, fun _ => by omega⟩, fun x x1 => (by repeat (first | rw [up_self] | rw [up_ne _ _ (by omega)])), fun _ _ => rfl, (by rw [Int.add_zero]; exact e9), (f111.at (by decide) e106), (f111.at (by decide) (f107.at (by decide) (f_H103.at (by decide) (f_H97.at (by decide) (f94.at (by decide) (f91.at (by decide) (f88.at (by decide) (f_H84.at (by decide) (f82.at (by decide) (f_H5.at (by decide) (f3.at (by decide) hC))))))))))), (yfr.tr (yfr.tr (yfr.tr (yfr.tr (yfr.tr (yfr.tr (yfr.tr (yfr.tr (yfr.tr (yfr.tr (f3.mono (by decide)) f_H5 (fun _ h => h) (by decide)) f82 (fun _ h => h) (by decide)) f_H84 (fun _ h => h) (by decide)) f88 (fun _ h => h) (by decide)) f91 (fun _ h => h) (by decide)) f94 (fun _ h => h) (by decide)) f_H97 (fun _ h => h) (by decide)) f_H103 (fun _ h => h) (by decide)) f107 (fun _ h => h) (by decide)) f111 (fun _ h => h) (by decide))⟩)
                      ·
                        refine E_run hk 2 (j' := 127) (lv' := [(3, yi 0), (2, yi 108), (1, yi (5 * (v 11))), (0, .ref 63)]) (st' := [yi 1, yi (v 11), .ref 63]) (hp' := H105) rfl ?_
                        refine Y_iadd (a := (v 11)) (b := 1) hk rfl ?_
                        refine Y_put hk rfl (f107.at (by decide) e_H103) (by decide) (Nat.le_of_ble_eq_true rfl) rfl (fs' := [yi (v 0), .ref 64, .ref 65, yi (v 3), .ref 66, yi (v 5), .ref 67, yi (v 7), yi a_H103, yi w_H103, .ref 68, yi ((v 11) + 1), .ref 69, yi (v 13), .ref 70, .ref 71, .ref 72, .ref 73, .ref 74, .ref 75, yi (v 20), yi (v 21)]) rfl (fun H112 e113 f114 => ?_)
                        exact E_ret hk rfl rfl (by exfalso; omega)
                · exfalso; omega
          · exfalso; omega
        · exfalso; omega
  · rw [w7]
    refine E_run hk 2 (j' := 13) (lv' := [(2, yi 119), (1, yi (5 * (v 11))), (0, .ref 63)]) (st' := [yi 98, yi 119]) (hp' := H5) rfl ?_
    refine Y_ic_eq (a := 119) (b := 98) (by omega) hk rfl (fun g115 => ?_) (fun g115 => ?_)
    · exfalso; omega
    ·
      refine E_run hk 2 (j' := 16) (lv' := [(2, yi 119), (1, yi (5 * (v 11))), (0, .ref 63)]) (st' := [yi 104, yi 119]) (hp' := H5) rfl ?_
      refine Y_ic_eq (a := 119) (b := 104) (by omega) hk rfl (fun g116 => ?_) (fun g116 => ?_)
      · exfalso; omega
      ·
        refine E_run hk 2 (j' := 19) (lv' := [(2, yi 119), (1, yi (5 * (v 11))), (0, .ref 63)]) (st' := [yi 106, yi 119]) (hp' := H5) rfl ?_
        refine Y_ic_ne (a := 119) (b := 106) (by omega) hk rfl (fun g117 => ?_) (fun g117 => ?_)
        ·
          refine E_run hk 2 (j' := 24) (lv' := [(3, yi 0), (2, yi 119), (1, yi (5 * (v 11))), (0, .ref 63)]) (st' := []) (hp' := H5) rfl ?_
          refine E_run hk 1 (j' := 25) (lv' := [(3, yi 0), (2, yi 119), (1, yi (5 * (v 11))), (0, .ref 63)]) (st' := [.ref 63]) (hp' := H5) rfl ?_
          refine E_get (v := .ref 68) hk rfl e_H5 rfl ?_
          refine E_run hk 2 (j' := 28) (lv' := [(3, yi 0), (2, yi 119), (1, yi (5 * (v 11))), (0, .ref 63)]) (st' := [yi 119, yi (5 * (v 11)), .ref 68]) (hp' := H5) rfl ?_
          refine Y_iast (a := (5 * (v 11))) (x := 119) (by omega) (by decide) (by decide) hk rfl (f_H5.at (by decide) (f3.at (by decide) hB)) (fun H118 e119 f120 => ?_)
          refine E_run hk 1 (j' := 30) (lv' := [(3, yi 0), (2, yi 119), (1, yi (5 * (v 11))), (0, .ref 63)]) (st' := [.ref 63]) (hp' := H118) rfl ?_
          refine E_get (v := .ref 68) hk rfl (f120.at (by decide) e_H5) rfl ?_
          refine E_run hk 2 (j' := 33) (lv' := [(3, yi 0), (2, yi 119), (1, yi (5 * (v 11))), (0, .ref 63)]) (st' := [yi 1, yi (5 * (v 11)), .ref 68]) (hp' := H118) rfl ?_
          refine Y_iadd (a := (5 * (v 11))) (b := 1) hk rfl ?_
          refine E_run hk 1 (j' := 35) (lv' := [(3, yi 0), (2, yi 119), (1, yi (5 * (v 11))), (0, .ref 63)]) (st' := [yi 0, yi ((5 * (v 11)) + 1), .ref 68]) (hp' := H118) rfl ?_
          refine Y_if_eq (a := 0) (by omega) hk rfl (fun g121 => ?_) (fun g121 => ?_)
          ·
            refine E_run hk 3 (j' := 41) (lv' := [(3, yi 0), (2, yi 119), (1, yi (5 * (v 11))), (0, .ref 63)]) (st' := [yi 49, yi 48, .ref 63, yi ((5 * (v 11)) + 1), .ref 68]) (hp' := H118) rfl ?_
            refine Y_call hk rfl (as := [.ref 63, yi 48, yi 49]) (rest := [yi ((5 * (v 11)) + 1), .ref 68]) (v := some (yi (sg X (v 7) a_H5 - 48))) rfl rfl (Nat.le_of_ble_eq_true rfl) (rcv0 (f120.at (by decide) e_H5)) (Nat.le_of_ble_eq_true rfl) (c_X9_takes (v := (vup (vup (vup v 9 1) 9 w_H5) 8 a_H5)) (f120.at (by decide) e_H5) (f120.at (by decide) (f_H5.at (by decide) (f3.at (by decide) hX))) hn hc (show 0 ≤ a_H5 ∧ a_H5 ≤ v 7 by omega) (show w_H5 = 0 ∨ w_H5 = 1 by omega) (l := 48) (u := 49) (by omega) (hd := by omega)) (fun H122 r123 => ?_)
            obtain ⟨e0_H122, f_H122⟩ := r123
            obtain ⟨w_H122, hq_H122⟩ : ∃ w, b2 (w_H5 = 1 ∧ 48 ≤ sg X (v 7) a_H5 ∧ sg X (v 7) a_H5 ≤ 49) = w := ⟨_, rfl⟩
            have e_H122 : xat H122 63 = some (yMo (vup (vup (vup (vup (vup v 9 1) 9 w_H5) 8 a_H5) 9 w_H122) 8 (a_H5 + w_H122))) := by rw [← hq_H122]; exact e0_H122
            obtain ⟨k1_H122, k2_H122, k3_H122⟩ := tk_step hc (show 0 ≤ a_H5 ∧ a_H5 ≤ v 7 by omega) (show w_H5 = 0 ∨ w_H5 = 1 by omega) (by omega) hq_H122
            refine Y_iast (a := ((5 * (v 11)) + 1)) (x := (sg X (v 7) a_H5 - 48)) (by omega) (by decide) (by decide) hk rfl (f_H122.at (by decide) e119) (fun H124 e125 f126 => ?_)
            refine E_run hk 1 (j' := 44) (lv' := [(3, yi 0), (2, yi 119), (1, yi (5 * (v 11))), (0, .ref 63)]) (st' := [.ref 63]) (hp' := H124) rfl ?_
            refine E_get (v := .ref 68) hk rfl (f126.at (by decide) e_H122) rfl ?_
            refine E_run hk 2 (j' := 47) (lv' := [(3, yi 0), (2, yi 119), (1, yi (5 * (v 11))), (0, .ref 63)]) (st' := [yi 3, yi (5 * (v 11)), .ref 68]) (hp' := H124) rfl ?_
            refine Y_iadd (a := (5 * (v 11))) (b := 3) hk rfl ?_
            refine E_run hk 1 (j' := 49) (lv' := [(3, yi 0), (2, yi 119), (1, yi (5 * (v 11))), (0, .ref 63)]) (st' := [.ref 63, yi ((5 * (v 11)) + 3), .ref 68]) (hp' := H124) rfl ?_
            refine E_get (v := yi (v 13)) hk rfl (f126.at (by decide) e_H122) rfl ?_
            refine Y_iast (a := ((5 * (v 11)) + 3)) (x := (v 13)) (by omega) (by decide) (by decide) hk rfl e125 (fun H127 e128 f129 => ?_)
            refine E_run hk 1 (j' := 52) (lv' := [(3, yi 0), (2, yi 119), (1, yi (5 * (v 11))), (0, .ref 63)]) (st' := [.ref 63]) (hp' := H127) rfl ?_
            refine E_get (v := .ref 68) hk rfl (f129.at (by decide) (f126.at (by decide) e_H122)) rfl ?_
            refine E_run hk 2 (j' := 55) (lv' := [(3, yi 0), (2, yi 119), (1, yi (5 * (v 11))), (0, .ref 63)]) (st' := [yi 4, yi (5 * (v 11)), .ref 68]) (hp' := H127) rfl ?_
            refine Y_iadd (a := (5 * (v 11))) (b := 4) hk rfl ?_
            refine E_run hk 1 (j' := 57) (lv' := [(3, yi 0), (2, yi 119), (1, yi (5 * (v 11))), (0, .ref 63)]) (st' := [yi 0, yi ((5 * (v 11)) + 4), .ref 68]) (hp' := H127) rfl ?_
            refine Y_iast (a := ((5 * (v 11)) + 4)) (x := 0) (by omega) (by decide) (by decide) hk rfl e128 (fun H130 e131 f132 => ?_)
            refine E_run hk 2 (j' := 60) (lv' := [(3, yi 0), (2, yi 119), (1, yi (5 * (v 11))), (0, .ref 63)]) (st' := [yi 119, yi 119]) (hp' := H130) rfl ?_
            refine Y_ic_eq (a := 119) (b := 119) (by omega) hk rfl (fun g133 => ?_) (fun g133 => ?_)
            ·
              refine E_run hk 2 (j' := 71) (lv' := [(3, yi 0), (2, yi 119), (1, yi (5 * (v 11))), (0, .ref 63)]) (st' := [yi 115, yi 119]) (hp' := H130) rfl ?_
              refine Y_ic_ne (a := 119) (b := 115) (by omega) hk rfl (fun g134 => ?_) (fun g134 => ?_)
              ·
                refine E_run hk 2 (j' := 78) (lv' := [(3, yi 0), (2, yi 119), (1, yi (5 * (v 11))), (0, .ref 63)]) (st' := [yi 114, yi 119]) (hp' := H130) rfl ?_
                refine Y_ic_eq (a := 119) (b := 114) (by omega) hk rfl (fun g135 => ?_) (fun g135 => ?_)
                · exfalso; omega
                ·
                  refine E_run hk 2 (j' := 81) (lv' := [(3, yi 0), (2, yi 119), (1, yi (5 * (v 11))), (0, .ref 63)]) (st' := [yi 108, yi 119]) (hp' := H130) rfl ?_
                  refine Y_ic_ne (a := 119) (b := 108) (by omega) hk rfl (fun g136 => ?_) (fun g136 => ?_)
                  ·
                    refine E_run hk 1 (j' := 94) (lv' := [(3, yi 0), (2, yi 119), (1, yi (5 * (v 11))), (0, .ref 63)]) (st' := [yi 0]) (hp' := H130) rfl ?_
                    refine Y_if_eq (a := 0) (by omega) hk rfl (fun g137 => ?_) (fun g137 => ?_)
                    ·
                      refine E_run hk 2 (j' := 120) (lv' := [(3, yi 0), (2, yi 119), (1, yi (5 * (v 11))), (0, .ref 63)]) (st' := [.ref 63, .ref 63]) (hp' := H130) rfl ?_
                      refine E_get (v := yi (v 11)) hk rfl (f132.at (by decide) (f129.at (by decide) (f126.at (by decide) e_H122))) rfl ?_
                      refine E_run hk 1 (j' := 122) (lv' := [(3, yi 0), (2, yi 119), (1, yi (5 * (v 11))), (0, .ref 63)]) (st' := [.ref 63, yi (v 11), .ref 63]) (hp' := H130) rfl ?_
                      refine E_get (v := yi w_H122) hk rfl (f132.at (by decide) (f129.at (by decide) (f126.at (by decide) e_H122))) rfl ?_
                      refine Y_if_eq (a := w_H122) (by omega) hk rfl (fun g138 => ?_) (fun g138 => ?_)
                      ·
                        refine E_run hk 1 (j' := 127) (lv' := [(3, yi 0), (2, yi 119), (1, yi (5 * (v 11))), (0, .ref 63)]) (st' := [yi 0, yi (v 11), .ref 63]) (hp' := H130) rfl ?_
                        refine Y_iadd (a := (v 11)) (b := 0) hk rfl ?_
                        refine Y_put hk rfl (f132.at (by decide) (f129.at (by decide) (f126.at (by decide) e_H122))) (by decide) (Nat.le_of_ble_eq_true rfl) rfl (fs' := [yi (v 0), .ref 64, .ref 65, yi (v 3), .ref 66, yi (v 5), .ref 67, yi (v 7), yi (a_H5 + w_H122), yi w_H122, .ref 68, yi ((v 11) + 0), .ref 69, yi (v 13), .ref 70, .ref 71, .ref 72, .ref 73, .ref 74, .ref 75, yi (v 20), yi (v 21)]) rfl (fun H139 e140 f141 => ?_)
                        exact E_ret hk rfl rfl (by
      have e9 := e140
      rw [show (v 11) + 0 = v 11 + w_H122 by omega] at e9
      exact ⟨rfl, a_H5 + w_H122, w_H122, 0, up (up (up (up B (5 * (v 11)) 119) ((5 * (v 11)) + 1) (sg X (v 7) a_H5 - 48)) ((5 * (v 11)) + 3) (v 13)) ((5 * (v 11)) + 4) 0, C, Or.inr ⟨by omega, by rw [show a_H5 + w_H122 = a_H5 by omega]; exact rwd_badp rw_H5 w0⟩, ⟨by omega, by omega⟩, ⟨by omega, by omega, fun _ => by omega⟩, fun x x1 => (by repeat (first | rw [up_self] | rw [up_ne _ _ (by omega)])), fun _ _ => rfl, (by rw [Int.add_zero]; exact e9), (f141.at (by decide) e131), (f141.at (by decide) (f132.at (by decide) (f129.at (by decide) (f126.at (by decide) (f_H122.at (by decide) (f120.at (by decide) (f_H5.at (by decide) (f3.at (by decide) hC)))))))), (yfr.tr (yfr.tr (yfr.tr (yfr.tr (yfr.tr (yfr.tr (yfr.tr (f3.mono (by decide)) f_H5 (fun _ h => h) (by decide)) f120 (fun _ h => h) (by decide)) f_H122 (fun _ h => h) (by decide)) f126 (fun _ h => h) (by decide)) f129 (fun _ h => h) (by decide)) f132 (fun _ h => h) (by decide)) f141 (fun _ h => h) (by decide))⟩)
                      ·
                        refine E_run hk 2 (j' := 127) (lv' := [(3, yi 0), (2, yi 119), (1, yi (5 * (v 11))), (0, .ref 63)]) (st' := [yi 1, yi (v 11), .ref 63]) (hp' := H130) rfl ?_
                        refine Y_iadd (a := (v 11)) (b := 1) hk rfl ?_
                        refine Y_put hk rfl (f132.at (by decide) (f129.at (by decide) (f126.at (by decide) e_H122))) (by decide) (Nat.le_of_ble_eq_true rfl) rfl (fs' := [yi (v 0), .ref 64, .ref 65, yi (v 3), .ref 66, yi (v 5), .ref 67, yi (v 7), yi (a_H5 + w_H122), yi w_H122, .ref 68, yi ((v 11) + 1), .ref 69, yi (v 13), .ref 70, .ref 71, .ref 72, .ref 73, .ref 74, .ref 75, yi (v 20), yi (v 21)]) rfl (fun H142 e143 f144 => ?_)
                        exact E_ret hk rfl rfl (by exfalso; omega)
                    · exfalso; omega
                  · exfalso; omega
              · exfalso; omega
            · exfalso; omega
          · exfalso; omega
        · exfalso; omega
  · rw [w7]
    refine E_run hk 2 (j' := 13) (lv' := [(2, yi 102), (1, yi (5 * (v 11))), (0, .ref 63)]) (st' := [yi 98, yi 102]) (hp' := H5) rfl ?_
    refine Y_ic_eq (a := 102) (b := 98) (by omega) hk rfl (fun g145 => ?_) (fun g145 => ?_)
    · exfalso; omega
    ·
      refine E_run hk 2 (j' := 16) (lv' := [(2, yi 102), (1, yi (5 * (v 11))), (0, .ref 63)]) (st' := [yi 104, yi 102]) (hp' := H5) rfl ?_
      refine Y_ic_eq (a := 102) (b := 104) (by omega) hk rfl (fun g146 => ?_) (fun g146 => ?_)
      · exfalso; omega
      ·
        refine E_run hk 2 (j' := 19) (lv' := [(2, yi 102), (1, yi (5 * (v 11))), (0, .ref 63)]) (st' := [yi 106, yi 102]) (hp' := H5) rfl ?_
        refine Y_ic_ne (a := 102) (b := 106) (by omega) hk rfl (fun g147 => ?_) (fun g147 => ?_)
        ·
          refine E_run hk 2 (j' := 24) (lv' := [(3, yi 0), (2, yi 102), (1, yi (5 * (v 11))), (0, .ref 63)]) (st' := []) (hp' := H5) rfl ?_
          refine E_run hk 1 (j' := 25) (lv' := [(3, yi 0), (2, yi 102), (1, yi (5 * (v 11))), (0, .ref 63)]) (st' := [.ref 63]) (hp' := H5) rfl ?_
          refine E_get (v := .ref 68) hk rfl e_H5 rfl ?_
          refine E_run hk 2 (j' := 28) (lv' := [(3, yi 0), (2, yi 102), (1, yi (5 * (v 11))), (0, .ref 63)]) (st' := [yi 102, yi (5 * (v 11)), .ref 68]) (hp' := H5) rfl ?_
          refine Y_iast (a := (5 * (v 11))) (x := 102) (by omega) (by decide) (by decide) hk rfl (f_H5.at (by decide) (f3.at (by decide) hB)) (fun H148 e149 f150 => ?_)
          refine E_run hk 1 (j' := 30) (lv' := [(3, yi 0), (2, yi 102), (1, yi (5 * (v 11))), (0, .ref 63)]) (st' := [.ref 63]) (hp' := H148) rfl ?_
          refine E_get (v := .ref 68) hk rfl (f150.at (by decide) e_H5) rfl ?_
          refine E_run hk 2 (j' := 33) (lv' := [(3, yi 0), (2, yi 102), (1, yi (5 * (v 11))), (0, .ref 63)]) (st' := [yi 1, yi (5 * (v 11)), .ref 68]) (hp' := H148) rfl ?_
          refine Y_iadd (a := (5 * (v 11))) (b := 1) hk rfl ?_
          refine E_run hk 1 (j' := 35) (lv' := [(3, yi 0), (2, yi 102), (1, yi (5 * (v 11))), (0, .ref 63)]) (st' := [yi 0, yi ((5 * (v 11)) + 1), .ref 68]) (hp' := H148) rfl ?_
          refine Y_if_eq (a := 0) (by omega) hk rfl (fun g151 => ?_) (fun g151 => ?_)
          ·
            refine E_run hk 3 (j' := 41) (lv' := [(3, yi 0), (2, yi 102), (1, yi (5 * (v 11))), (0, .ref 63)]) (st' := [yi 49, yi 48, .ref 63, yi ((5 * (v 11)) + 1), .ref 68]) (hp' := H148) rfl ?_
            refine Y_call hk rfl (as := [.ref 63, yi 48, yi 49]) (rest := [yi ((5 * (v 11)) + 1), .ref 68]) (v := some (yi (sg X (v 7) a_H5 - 48))) rfl rfl (Nat.le_of_ble_eq_true rfl) (rcv0 (f150.at (by decide) e_H5)) (Nat.le_of_ble_eq_true rfl) (c_X9_takes (v := (vup (vup (vup v 9 1) 9 w_H5) 8 a_H5)) (f150.at (by decide) e_H5) (f150.at (by decide) (f_H5.at (by decide) (f3.at (by decide) hX))) hn hc (show 0 ≤ a_H5 ∧ a_H5 ≤ v 7 by omega) (show w_H5 = 0 ∨ w_H5 = 1 by omega) (l := 48) (u := 49) (by omega) (hd := by omega)) (fun H152 r153 => ?_)
            obtain ⟨e0_H152, f_H152⟩ := r153
            obtain ⟨w_H152, hq_H152⟩ : ∃ w, b2 (w_H5 = 1 ∧ 48 ≤ sg X (v 7) a_H5 ∧ sg X (v 7) a_H5 ≤ 49) = w := ⟨_, rfl⟩
            have e_H152 : xat H152 63 = some (yMo (vup (vup (vup (vup (vup v 9 1) 9 w_H5) 8 a_H5) 9 w_H152) 8 (a_H5 + w_H152))) := by rw [← hq_H152]; exact e0_H152
            obtain ⟨k1_H152, k2_H152, k3_H152⟩ := tk_step hc (show 0 ≤ a_H5 ∧ a_H5 ≤ v 7 by omega) (show w_H5 = 0 ∨ w_H5 = 1 by omega) (by omega) hq_H152
            refine Y_iast (a := ((5 * (v 11)) + 1)) (x := (sg X (v 7) a_H5 - 48)) (by omega) (by decide) (by decide) hk rfl (f_H152.at (by decide) e149) (fun H154 e155 f156 => ?_)
            refine E_run hk 1 (j' := 44) (lv' := [(3, yi 0), (2, yi 102), (1, yi (5 * (v 11))), (0, .ref 63)]) (st' := [.ref 63]) (hp' := H154) rfl ?_
            refine E_get (v := .ref 68) hk rfl (f156.at (by decide) e_H152) rfl ?_
            refine E_run hk 2 (j' := 47) (lv' := [(3, yi 0), (2, yi 102), (1, yi (5 * (v 11))), (0, .ref 63)]) (st' := [yi 3, yi (5 * (v 11)), .ref 68]) (hp' := H154) rfl ?_
            refine Y_iadd (a := (5 * (v 11))) (b := 3) hk rfl ?_
            refine E_run hk 1 (j' := 49) (lv' := [(3, yi 0), (2, yi 102), (1, yi (5 * (v 11))), (0, .ref 63)]) (st' := [.ref 63, yi ((5 * (v 11)) + 3), .ref 68]) (hp' := H154) rfl ?_
            refine E_get (v := yi (v 13)) hk rfl (f156.at (by decide) e_H152) rfl ?_
            refine Y_iast (a := ((5 * (v 11)) + 3)) (x := (v 13)) (by omega) (by decide) (by decide) hk rfl e155 (fun H157 e158 f159 => ?_)
            refine E_run hk 1 (j' := 52) (lv' := [(3, yi 0), (2, yi 102), (1, yi (5 * (v 11))), (0, .ref 63)]) (st' := [.ref 63]) (hp' := H157) rfl ?_
            refine E_get (v := .ref 68) hk rfl (f159.at (by decide) (f156.at (by decide) e_H152)) rfl ?_
            refine E_run hk 2 (j' := 55) (lv' := [(3, yi 0), (2, yi 102), (1, yi (5 * (v 11))), (0, .ref 63)]) (st' := [yi 4, yi (5 * (v 11)), .ref 68]) (hp' := H157) rfl ?_
            refine Y_iadd (a := (5 * (v 11))) (b := 4) hk rfl ?_
            refine E_run hk 1 (j' := 57) (lv' := [(3, yi 0), (2, yi 102), (1, yi (5 * (v 11))), (0, .ref 63)]) (st' := [yi 0, yi ((5 * (v 11)) + 4), .ref 68]) (hp' := H157) rfl ?_
            refine Y_iast (a := ((5 * (v 11)) + 4)) (x := 0) (by omega) (by decide) (by decide) hk rfl e158 (fun H160 e161 f162 => ?_)
            refine E_run hk 2 (j' := 60) (lv' := [(3, yi 0), (2, yi 102), (1, yi (5 * (v 11))), (0, .ref 63)]) (st' := [yi 119, yi 102]) (hp' := H160) rfl ?_
            refine Y_ic_eq (a := 102) (b := 119) (by omega) hk rfl (fun g163 => ?_) (fun g163 => ?_)
            · exfalso; omega
            ·
              refine E_run hk 2 (j' := 63) (lv' := [(3, yi 0), (2, yi 102), (1, yi (5 * (v 11))), (0, .ref 63)]) (st' := [yi 102, yi 102]) (hp' := H160) rfl ?_
              refine Y_ic_eq (a := 102) (b := 102) (by omega) hk rfl (fun g164 => ?_) (fun g164 => ?_)
              ·
                refine E_run hk 2 (j' := 71) (lv' := [(3, yi 0), (2, yi 102), (1, yi (5 * (v 11))), (0, .ref 63)]) (st' := [yi 115, yi 102]) (hp' := H160) rfl ?_
                refine Y_ic_ne (a := 102) (b := 115) (by omega) hk rfl (fun g165 => ?_) (fun g165 => ?_)
                ·
                  refine E_run hk 2 (j' := 78) (lv' := [(3, yi 0), (2, yi 102), (1, yi (5 * (v 11))), (0, .ref 63)]) (st' := [yi 114, yi 102]) (hp' := H160) rfl ?_
                  refine Y_ic_eq (a := 102) (b := 114) (by omega) hk rfl (fun g166 => ?_) (fun g166 => ?_)
                  · exfalso; omega
                  ·
                    refine E_run hk 2 (j' := 81) (lv' := [(3, yi 0), (2, yi 102), (1, yi (5 * (v 11))), (0, .ref 63)]) (st' := [yi 108, yi 102]) (hp' := H160) rfl ?_
                    refine Y_ic_ne (a := 102) (b := 108) (by omega) hk rfl (fun g167 => ?_) (fun g167 => ?_)
                    ·
                      refine E_run hk 1 (j' := 94) (lv' := [(3, yi 0), (2, yi 102), (1, yi (5 * (v 11))), (0, .ref 63)]) (st' := [yi 0]) (hp' := H160) rfl ?_
                      refine Y_if_eq (a := 0) (by omega) hk rfl (fun g168 => ?_) (fun g168 => ?_)
                      ·
                        refine E_run hk 2 (j' := 120) (lv' := [(3, yi 0), (2, yi 102), (1, yi (5 * (v 11))), (0, .ref 63)]) (st' := [.ref 63, .ref 63]) (hp' := H160) rfl ?_
                        refine E_get (v := yi (v 11)) hk rfl (f162.at (by decide) (f159.at (by decide) (f156.at (by decide) e_H152))) rfl ?_
                        refine E_run hk 1 (j' := 122) (lv' := [(3, yi 0), (2, yi 102), (1, yi (5 * (v 11))), (0, .ref 63)]) (st' := [.ref 63, yi (v 11), .ref 63]) (hp' := H160) rfl ?_
                        refine E_get (v := yi w_H152) hk rfl (f162.at (by decide) (f159.at (by decide) (f156.at (by decide) e_H152))) rfl ?_
                        refine Y_if_eq (a := w_H152) (by omega) hk rfl (fun g169 => ?_) (fun g169 => ?_)
                        ·
                          refine E_run hk 1 (j' := 127) (lv' := [(3, yi 0), (2, yi 102), (1, yi (5 * (v 11))), (0, .ref 63)]) (st' := [yi 0, yi (v 11), .ref 63]) (hp' := H160) rfl ?_
                          refine Y_iadd (a := (v 11)) (b := 0) hk rfl ?_
                          refine Y_put hk rfl (f162.at (by decide) (f159.at (by decide) (f156.at (by decide) e_H152))) (by decide) (Nat.le_of_ble_eq_true rfl) rfl (fs' := [yi (v 0), .ref 64, .ref 65, yi (v 3), .ref 66, yi (v 5), .ref 67, yi (v 7), yi (a_H5 + w_H152), yi w_H152, .ref 68, yi ((v 11) + 0), .ref 69, yi (v 13), .ref 70, .ref 71, .ref 72, .ref 73, .ref 74, .ref 75, yi (v 20), yi (v 21)]) rfl (fun H170 e171 f172 => ?_)
                          exact E_ret hk rfl rfl (by
      have e9 := e171
      rw [show (v 11) + 0 = v 11 + w_H152 by omega] at e9
      exact ⟨rfl, a_H5 + w_H152, w_H152, 0, up (up (up (up B (5 * (v 11)) 102) ((5 * (v 11)) + 1) (sg X (v 7) a_H5 - 48)) ((5 * (v 11)) + 3) (v 13)) ((5 * (v 11)) + 4) 0, C, Or.inr ⟨by omega, by rw [show a_H5 + w_H152 = a_H5 by omega]; exact rwd_badp rw_H5 w0⟩, ⟨by omega, by omega⟩, ⟨by omega, by omega, fun _ => by omega⟩, fun x x1 => (by repeat (first | rw [up_self] | rw [up_ne _ _ (by omega)])), fun _ _ => rfl, (by rw [Int.add_zero]; exact e9), (f172.at (by decide) e161), (f172.at (by decide) (f162.at (by decide) (f159.at (by decide) (f156.at (by decide) (f_H152.at (by decide) (f150.at (by decide) (f_H5.at (by decide) (f3.at (by decide) hC)))))))), (yfr.tr (yfr.tr (yfr.tr (yfr.tr (yfr.tr (yfr.tr (yfr.tr (f3.mono (by decide)) f_H5 (fun _ h => h) (by decide)) f150 (fun _ h => h) (by decide)) f_H152 (fun _ h => h) (by decide)) f156 (fun _ h => h) (by decide)) f159 (fun _ h => h) (by decide)) f162 (fun _ h => h) (by decide)) f172 (fun _ h => h) (by decide))⟩)
                        ·
                          refine E_run hk 2 (j' := 127) (lv' := [(3, yi 0), (2, yi 102), (1, yi (5 * (v 11))), (0, .ref 63)]) (st' := [yi 1, yi (v 11), .ref 63]) (hp' := H160) rfl ?_
                          refine Y_iadd (a := (v 11)) (b := 1) hk rfl ?_
                          refine Y_put hk rfl (f162.at (by decide) (f159.at (by decide) (f156.at (by decide) e_H152))) (by decide) (Nat.le_of_ble_eq_true rfl) rfl (fs' := [yi (v 0), .ref 64, .ref 65, yi (v 3), .ref 66, yi (v 5), .ref 67, yi (v 7), yi (a_H5 + w_H152), yi w_H152, .ref 68, yi ((v 11) + 1), .ref 69, yi (v 13), .ref 70, .ref 71, .ref 72, .ref 73, .ref 74, .ref 75, yi (v 20), yi (v 21)]) rfl (fun H173 e174 f175 => ?_)
                          exact E_ret hk rfl rfl (by exfalso; omega)
                      · exfalso; omega
                    · exfalso; omega
                · exfalso; omega
              · exfalso; omega
          · exfalso; omega
        · exfalso; omega
  · rw [w7]
    refine E_run hk 2 (j' := 13) (lv' := [(2, yi 98), (1, yi (5 * (v 11))), (0, .ref 63)]) (st' := [yi 98, yi 98]) (hp' := H5) rfl ?_
    refine Y_ic_eq (a := 98) (b := 98) (by omega) hk rfl (fun g176 => ?_) (fun g176 => ?_)
    ·
      refine E_run hk 3 (j' := 24) (lv' := [(3, yi 1), (2, yi 98), (1, yi (5 * (v 11))), (0, .ref 63)]) (st' := []) (hp' := H5) rfl ?_
      refine E_run hk 1 (j' := 25) (lv' := [(3, yi 1), (2, yi 98), (1, yi (5 * (v 11))), (0, .ref 63)]) (st' := [.ref 63]) (hp' := H5) rfl ?_
      refine E_get (v := .ref 68) hk rfl e_H5 rfl ?_
      refine E_run hk 2 (j' := 28) (lv' := [(3, yi 1), (2, yi 98), (1, yi (5 * (v 11))), (0, .ref 63)]) (st' := [yi 98, yi (5 * (v 11)), .ref 68]) (hp' := H5) rfl ?_
      refine Y_iast (a := (5 * (v 11))) (x := 98) (by omega) (by decide) (by decide) hk rfl (f_H5.at (by decide) (f3.at (by decide) hB)) (fun H177 e178 f179 => ?_)
      refine E_run hk 1 (j' := 30) (lv' := [(3, yi 1), (2, yi 98), (1, yi (5 * (v 11))), (0, .ref 63)]) (st' := [.ref 63]) (hp' := H177) rfl ?_
      refine E_get (v := .ref 68) hk rfl (f179.at (by decide) e_H5) rfl ?_
      refine E_run hk 2 (j' := 33) (lv' := [(3, yi 1), (2, yi 98), (1, yi (5 * (v 11))), (0, .ref 63)]) (st' := [yi 1, yi (5 * (v 11)), .ref 68]) (hp' := H177) rfl ?_
      refine Y_iadd (a := (5 * (v 11))) (b := 1) hk rfl ?_
      refine E_run hk 1 (j' := 35) (lv' := [(3, yi 1), (2, yi 98), (1, yi (5 * (v 11))), (0, .ref 63)]) (st' := [yi 1, yi ((5 * (v 11)) + 1), .ref 68]) (hp' := H177) rfl ?_
      refine Y_if_eq (a := 1) (by omega) hk rfl (fun g180 => ?_) (fun g180 => ?_)
      · exfalso; omega
      ·
        refine E_run hk 2 (j' := 42) (lv' := [(3, yi 1), (2, yi 98), (1, yi (5 * (v 11))), (0, .ref 63)]) (st' := [yi 0, yi ((5 * (v 11)) + 1), .ref 68]) (hp' := H177) rfl ?_
        refine Y_iast (a := ((5 * (v 11)) + 1)) (x := 0) (by omega) (by decide) (by decide) hk rfl e178 (fun H181 e182 f183 => ?_)
        refine E_run hk 1 (j' := 44) (lv' := [(3, yi 1), (2, yi 98), (1, yi (5 * (v 11))), (0, .ref 63)]) (st' := [.ref 63]) (hp' := H181) rfl ?_
        refine E_get (v := .ref 68) hk rfl (f183.at (by decide) (f179.at (by decide) e_H5)) rfl ?_
        refine E_run hk 2 (j' := 47) (lv' := [(3, yi 1), (2, yi 98), (1, yi (5 * (v 11))), (0, .ref 63)]) (st' := [yi 3, yi (5 * (v 11)), .ref 68]) (hp' := H181) rfl ?_
        refine Y_iadd (a := (5 * (v 11))) (b := 3) hk rfl ?_
        refine E_run hk 1 (j' := 49) (lv' := [(3, yi 1), (2, yi 98), (1, yi (5 * (v 11))), (0, .ref 63)]) (st' := [.ref 63, yi ((5 * (v 11)) + 3), .ref 68]) (hp' := H181) rfl ?_
        refine E_get (v := yi (v 13)) hk rfl (f183.at (by decide) (f179.at (by decide) e_H5)) rfl ?_
        refine Y_iast (a := ((5 * (v 11)) + 3)) (x := (v 13)) (by omega) (by decide) (by decide) hk rfl e182 (fun H184 e185 f186 => ?_)
        refine E_run hk 1 (j' := 52) (lv' := [(3, yi 1), (2, yi 98), (1, yi (5 * (v 11))), (0, .ref 63)]) (st' := [.ref 63]) (hp' := H184) rfl ?_
        refine E_get (v := .ref 68) hk rfl (f186.at (by decide) (f183.at (by decide) (f179.at (by decide) e_H5))) rfl ?_
        refine E_run hk 2 (j' := 55) (lv' := [(3, yi 1), (2, yi 98), (1, yi (5 * (v 11))), (0, .ref 63)]) (st' := [yi 4, yi (5 * (v 11)), .ref 68]) (hp' := H184) rfl ?_
        refine Y_iadd (a := (5 * (v 11))) (b := 4) hk rfl ?_
        refine E_run hk 1 (j' := 57) (lv' := [(3, yi 1), (2, yi 98), (1, yi (5 * (v 11))), (0, .ref 63)]) (st' := [yi 0, yi ((5 * (v 11)) + 4), .ref 68]) (hp' := H184) rfl ?_
        refine Y_iast (a := ((5 * (v 11)) + 4)) (x := 0) (by omega) (by decide) (by decide) hk rfl e185 (fun H187 e188 f189 => ?_)
        refine E_run hk 2 (j' := 60) (lv' := [(3, yi 1), (2, yi 98), (1, yi (5 * (v 11))), (0, .ref 63)]) (st' := [yi 119, yi 98]) (hp' := H187) rfl ?_
        refine Y_ic_eq (a := 98) (b := 119) (by omega) hk rfl (fun g190 => ?_) (fun g190 => ?_)
        · exfalso; omega
        ·
          refine E_run hk 2 (j' := 63) (lv' := [(3, yi 1), (2, yi 98), (1, yi (5 * (v 11))), (0, .ref 63)]) (st' := [yi 102, yi 98]) (hp' := H187) rfl ?_
          refine Y_ic_eq (a := 98) (b := 102) (by omega) hk rfl (fun g191 => ?_) (fun g191 => ?_)
          · exfalso; omega
          ·
            refine E_run hk 3 (j' := 67) (lv' := [(3, yi 1), (2, yi 98), (1, yi (5 * (v 11))), (0, .ref 63)]) (st' := [yi 58, yi 58, .ref 63]) (hp' := H187) rfl ?_
            refine Y_call hk rfl (as := [.ref 63, yi 58, yi 58]) (rest := []) (v := some (yi (sg X (v 7) a_H5 - 48))) rfl rfl (Nat.le_of_ble_eq_true rfl) (rcv0 (f189.at (by decide) (f186.at (by decide) (f183.at (by decide) (f179.at (by decide) e_H5))))) (Nat.le_of_ble_eq_true rfl) (c_X9_takes (v := (vup (vup (vup v 9 1) 9 w_H5) 8 a_H5)) (f189.at (by decide) (f186.at (by decide) (f183.at (by decide) (f179.at (by decide) e_H5)))) (f189.at (by decide) (f186.at (by decide) (f183.at (by decide) (f179.at (by decide) (f_H5.at (by decide) (f3.at (by decide) hX)))))) hn hc (show 0 ≤ a_H5 ∧ a_H5 ≤ v 7 by omega) (show w_H5 = 0 ∨ w_H5 = 1 by omega) (l := 58) (u := 58) (by omega) (hd := by omega)) (fun H192 r193 => ?_)
            obtain ⟨e0_H192, f_H192⟩ := r193
            obtain ⟨w_H192, hq_H192⟩ : ∃ w, b2 (w_H5 = 1 ∧ 58 ≤ sg X (v 7) a_H5 ∧ sg X (v 7) a_H5 ≤ 58) = w := ⟨_, rfl⟩
            have e_H192 : xat H192 63 = some (yMo (vup (vup (vup (vup (vup v 9 1) 9 w_H5) 8 a_H5) 9 w_H192) 8 (a_H5 + w_H192))) := by rw [← hq_H192]; exact e0_H192
            obtain ⟨k1_H192, k2_H192, k3_H192⟩ := tk_step hc (show 0 ≤ a_H5 ∧ a_H5 ≤ v 7 by omega) (show w_H5 = 0 ∨ w_H5 = 1 by omega) (by omega) hq_H192
            refine E_run hk 3 (j' := 71) (lv' := [(3, yi 1), (2, yi 98), (1, yi (5 * (v 11))), (0, .ref 63)]) (st' := [yi 115, yi 98]) (hp' := H192) rfl ?_
            refine Y_ic_ne (a := 98) (b := 115) (by omega) hk rfl (fun g194 => ?_) (fun g194 => ?_)
            ·
              refine E_run hk 2 (j' := 78) (lv' := [(3, yi 1), (2, yi 98), (1, yi (5 * (v 11))), (0, .ref 63)]) (st' := [yi 114, yi 98]) (hp' := H192) rfl ?_
              refine Y_ic_eq (a := 98) (b := 114) (by omega) hk rfl (fun g195 => ?_) (fun g195 => ?_)
              · exfalso; omega
              ·
                refine E_run hk 2 (j' := 81) (lv' := [(3, yi 1), (2, yi 98), (1, yi (5 * (v 11))), (0, .ref 63)]) (st' := [yi 108, yi 98]) (hp' := H192) rfl ?_
                refine Y_ic_ne (a := 98) (b := 108) (by omega) hk rfl (fun g196 => ?_) (fun g196 => ?_)
                ·
                  refine E_run hk 1 (j' := 94) (lv' := [(3, yi 1), (2, yi 98), (1, yi (5 * (v 11))), (0, .ref 63)]) (st' := [yi 1]) (hp' := H192) rfl ?_
                  refine Y_if_eq (a := 1) (by omega) hk rfl (fun g197 => ?_) (fun g197 => ?_)
                  · exfalso; omega
                  ·
                    refine E_run hk 1 (j' := 96) (lv' := [(3, yi 1), (2, yi 98), (1, yi (5 * (v 11))), (0, .ref 63)]) (st' := [.ref 63]) (hp' := H192) rfl ?_
                    refine E_get (v := .ref 68) hk rfl e_H192 rfl ?_
                    refine E_run hk 2 (j' := 99) (lv' := [(3, yi 1), (2, yi 98), (1, yi (5 * (v 11))), (0, .ref 63)]) (st' := [yi 2, yi (5 * (v 11)), .ref 68]) (hp' := H192) rfl ?_
                    refine Y_iadd (a := (5 * (v 11))) (b := 2) hk rfl ?_
                    refine E_run hk 2 (j' := 102) (lv' := [(3, yi 1), (2, yi 98), (1, yi (5 * (v 11))), (0, .ref 63)]) (st' := [yi 106, yi 98, yi ((5 * (v 11)) + 2), .ref 68]) (hp' := H192) rfl ?_
                    refine Y_ic_ne (a := 98) (b := 106) (by omega) hk rfl (fun g198 => ?_) (fun g198 => ?_)
                    ·
                      refine E_run hk 4 (j' := 112) (lv' := [(3, yi 1), (2, yi 98), (1, yi (5 * (v 11))), (0, .ref 63)]) (st' := [yi 98, yi 98, yi 0, .ref 63, yi ((5 * (v 11)) + 2), .ref 68]) (hp' := H192) rfl ?_
                      refine Y_ic_ne (a := 98) (b := 98) (by omega) hk rfl (fun g199 => ?_) (fun g199 => ?_)
                      · exfalso; omega
                      ·
                        refine E_run hk 2 (j' := 116) (lv' := [(3, yi 1), (2, yi 98), (1, yi (5 * (v 11))), (0, .ref 63)]) (st' := [yi 20, yi 0, .ref 63, yi ((5 * (v 11)) + 2), .ref 68]) (hp' := H192) rfl ?_
                        refine Y_callE hk rfl (as := [.ref 63, yi 0, yi 20]) (rest := [yi ((5 * (v 11)) + 2), .ref 68]) rfl rfl (Nat.le_of_ble_eq_true rfl) (rcv0 e_H192) (Nat.le_of_ble_eq_true rfl) (c_X9_number (v := (vup (vup (vup (vup (vup v 9 1) 9 w_H5) 8 a_H5) 9 w_H192) 8 (a_H5 + w_H192))) e_H192 (f_H192.at (by decide) (f189.at (by decide) (f186.at (by decide) (f183.at (by decide) (f179.at (by decide) (f_H5.at (by decide) (f3.at (by decide) hX))))))) hn hc (show 0 ≤ a_H5 + w_H192 ∧ a_H5 + w_H192 ≤ v 7 by omega) (show w_H192 = 0 ∨ w_H192 = 1 by omega) (l := 0) (u := 20) (by omega) (by omega) (hd := by omega)) (fun z200 H201 r202 => ?_)
                        obtain ⟨a_H201, w_H201, nm_H201, no_H201, zr_H201, e0_H201, f_H201⟩ := r202
                        have e_H201 : xat H201 63 = some (yMo (vup (vup (vup (vup (vup (vup (vup v 9 1) 9 w_H5) 8 a_H5) 9 w_H192) 8 (a_H5 + w_H192)) 9 w_H201) 8 a_H201)) := e0_H201
                        have nm1_H201 : w_H192 = 1 → nmb X (v 7) 0 20 (a_H5 + w_H192) z200 a_H201 w_H201 := nm_H201
                        have no1_H201 : w_H192 = 0 → w_H201 = 0 ∧ a_H201 = a_H5 + w_H192 := no_H201
                        have k_H201 : (w_H201 = 0 ∧ a_H201 = a_H5 + w_H192) ∨ (w_H201 = 1 ∧ w_H192 = 1 ∧ a_H5 + w_H192 < a_H201 ∧ a_H201 ≤ v 7 ∧ 0 ≤ z200 ∧ z200 ≤ 20) := by rcases (show w_H192 = 0 ∨ w_H192 = 1 by omega) with x9 | x9; exact Or.inl (no1_H201 x9); rcases nm1_H201 x9 with ⟨x1, x2, -⟩ | ⟨x1, x2, x3, x4, x5, -⟩; exact Or.inl ⟨x1, x2⟩; exact Or.inr ⟨x1, x9, x2, x3, x4, x5⟩
                        refine Y_iast (a := ((5 * (v 11)) + 2)) (x := z200) (by omega) (by decide) (by decide) hk rfl (f_H201.at (by decide) (f_H192.at (by decide) e188)) (fun H203 e204 f205 => ?_)
                        refine E_run hk 2 (j' := 120) (lv' := [(3, yi 1), (2, yi 98), (1, yi (5 * (v 11))), (0, .ref 63)]) (st' := [.ref 63, .ref 63]) (hp' := H203) rfl ?_
                        refine E_get (v := yi (v 11)) hk rfl (f205.at (by decide) e_H201) rfl ?_
                        refine E_run hk 1 (j' := 122) (lv' := [(3, yi 1), (2, yi 98), (1, yi (5 * (v 11))), (0, .ref 63)]) (st' := [.ref 63, yi (v 11), .ref 63]) (hp' := H203) rfl ?_
                        refine E_get (v := yi w_H201) hk rfl (f205.at (by decide) e_H201) rfl ?_
                        refine Y_if_eq (a := w_H201) (by omega) hk rfl (fun g206 => ?_) (fun g206 => ?_)
                        ·
                          refine E_run hk 1 (j' := 127) (lv' := [(3, yi 1), (2, yi 98), (1, yi (5 * (v 11))), (0, .ref 63)]) (st' := [yi 0, yi (v 11), .ref 63]) (hp' := H203) rfl ?_
                          refine Y_iadd (a := (v 11)) (b := 0) hk rfl ?_
                          refine Y_put hk rfl (f205.at (by decide) e_H201) (by decide) (Nat.le_of_ble_eq_true rfl) rfl (fs' := [yi (v 0), .ref 64, .ref 65, yi (v 3), .ref 66, yi (v 5), .ref 67, yi (v 7), yi a_H201, yi w_H201, .ref 68, yi ((v 11) + 0), .ref 69, yi (v 13), .ref 70, .ref 71, .ref 72, .ref 73, .ref 74, .ref 75, yi (v 20), yi (v 21)]) rfl (fun H207 e208 f209 => ?_)
                          exact E_ret hk rfl rfl (by
      have e9 := e208
      rw [show (v 11) + 0 = v 11 + w_H201 by omega] at e9
      exact ⟨rfl, a_H201, w_H201, 0, up (up (up (up (up B (5 * (v 11)) 98) ((5 * (v 11)) + 1) 0) ((5 * (v 11)) + 3) (v 13)) ((5 * (v 11)) + 4) 0) ((5 * (v 11)) + 2) z200, C, Or.inr ⟨by omega, by rw [show a_H201 = a_H5 by omega]; exact rwd_badp rw_H5 w0⟩, ⟨by omega, by omega⟩, ⟨by omega, by omega, fun _ => by omega⟩, fun x x1 => (by repeat (first | rw [up_self] | rw [up_ne _ _ (by omega)])), fun _ _ => rfl, (by rw [Int.add_zero]; exact e9), (f209.at (by decide) e204), (f209.at (by decide) (f205.at (by decide) (f_H201.at (by decide) (f_H192.at (by decide) (f189.at (by decide) (f186.at (by decide) (f183.at (by decide) (f179.at (by decide) (f_H5.at (by decide) (f3.at (by decide) hC)))))))))), (yfr.tr (yfr.tr (yfr.tr (yfr.tr (yfr.tr (yfr.tr (yfr.tr (yfr.tr (yfr.tr (f3.mono (by decide)) f_H5 (fun _ h => h) (by decide)) f179 (fun _ h => h) (by decide)) f183 (fun _ h => h) (by decide)) f186 (fun _ h => h) (by decide)) f189 (fun _ h => h) (by decide)) f_H192 (fun _ h => h) (by decide)) f_H201 (fun _ h => h) (by decide)) f205 (fun _ h => h) (by decide)) f209 (fun _ h => h) (by decide))⟩)
                        ·
                          refine E_run hk 2 (j' := 127) (lv' := [(3, yi 1), (2, yi 98), (1, yi (5 * (v 11))), (0, .ref 63)]) (st' := [yi 1, yi (v 11), .ref 63]) (hp' := H203) rfl ?_
                          refine Y_iadd (a := (v 11)) (b := 1) hk rfl ?_
                          refine Y_put hk rfl (f205.at (by decide) e_H201) (by decide) (Nat.le_of_ble_eq_true rfl) rfl (fs' := [yi (v 0), .ref 64, .ref 65, yi (v 3), .ref 66, yi (v 5), .ref 67, yi (v 7), yi a_H201, yi w_H201, .ref 68, yi ((v 11) + 1), .ref 69, yi (v 13), .ref 70, .ref 71, .ref 72, .ref 73, .ref 74, .ref 75, yi (v 20), yi (v 21)]) rfl (fun H210 e211 f212 => ?_)
                          exact E_ret hk rfl rfl (by exfalso; omega)
                    · exfalso; omega
                · exfalso; omega
            · exfalso; omega
    · exfalso; omega
  · rw [w7]
    refine E_run hk 2 (j' := 13) (lv' := [(2, yi 104), (1, yi (5 * (v 11))), (0, .ref 63)]) (st' := [yi 98, yi 104]) (hp' := H5) rfl ?_
    refine Y_ic_eq (a := 104) (b := 98) (by omega) hk rfl (fun g213 => ?_) (fun g213 => ?_)
    · exfalso; omega
    ·
      refine E_run hk 2 (j' := 16) (lv' := [(2, yi 104), (1, yi (5 * (v 11))), (0, .ref 63)]) (st' := [yi 104, yi 104]) (hp' := H5) rfl ?_
      refine Y_ic_eq (a := 104) (b := 104) (by omega) hk rfl (fun g214 => ?_) (fun g214 => ?_)
      ·
        refine E_run hk 3 (j' := 24) (lv' := [(3, yi 1), (2, yi 104), (1, yi (5 * (v 11))), (0, .ref 63)]) (st' := []) (hp' := H5) rfl ?_
        refine E_run hk 1 (j' := 25) (lv' := [(3, yi 1), (2, yi 104), (1, yi (5 * (v 11))), (0, .ref 63)]) (st' := [.ref 63]) (hp' := H5) rfl ?_
        refine E_get (v := .ref 68) hk rfl e_H5 rfl ?_
        refine E_run hk 2 (j' := 28) (lv' := [(3, yi 1), (2, yi 104), (1, yi (5 * (v 11))), (0, .ref 63)]) (st' := [yi 104, yi (5 * (v 11)), .ref 68]) (hp' := H5) rfl ?_
        refine Y_iast (a := (5 * (v 11))) (x := 104) (by omega) (by decide) (by decide) hk rfl (f_H5.at (by decide) (f3.at (by decide) hB)) (fun H215 e216 f217 => ?_)
        refine E_run hk 1 (j' := 30) (lv' := [(3, yi 1), (2, yi 104), (1, yi (5 * (v 11))), (0, .ref 63)]) (st' := [.ref 63]) (hp' := H215) rfl ?_
        refine E_get (v := .ref 68) hk rfl (f217.at (by decide) e_H5) rfl ?_
        refine E_run hk 2 (j' := 33) (lv' := [(3, yi 1), (2, yi 104), (1, yi (5 * (v 11))), (0, .ref 63)]) (st' := [yi 1, yi (5 * (v 11)), .ref 68]) (hp' := H215) rfl ?_
        refine Y_iadd (a := (5 * (v 11))) (b := 1) hk rfl ?_
        refine E_run hk 1 (j' := 35) (lv' := [(3, yi 1), (2, yi 104), (1, yi (5 * (v 11))), (0, .ref 63)]) (st' := [yi 1, yi ((5 * (v 11)) + 1), .ref 68]) (hp' := H215) rfl ?_
        refine Y_if_eq (a := 1) (by omega) hk rfl (fun g218 => ?_) (fun g218 => ?_)
        · exfalso; omega
        ·
          refine E_run hk 2 (j' := 42) (lv' := [(3, yi 1), (2, yi 104), (1, yi (5 * (v 11))), (0, .ref 63)]) (st' := [yi 0, yi ((5 * (v 11)) + 1), .ref 68]) (hp' := H215) rfl ?_
          refine Y_iast (a := ((5 * (v 11)) + 1)) (x := 0) (by omega) (by decide) (by decide) hk rfl e216 (fun H219 e220 f221 => ?_)
          refine E_run hk 1 (j' := 44) (lv' := [(3, yi 1), (2, yi 104), (1, yi (5 * (v 11))), (0, .ref 63)]) (st' := [.ref 63]) (hp' := H219) rfl ?_
          refine E_get (v := .ref 68) hk rfl (f221.at (by decide) (f217.at (by decide) e_H5)) rfl ?_
          refine E_run hk 2 (j' := 47) (lv' := [(3, yi 1), (2, yi 104), (1, yi (5 * (v 11))), (0, .ref 63)]) (st' := [yi 3, yi (5 * (v 11)), .ref 68]) (hp' := H219) rfl ?_
          refine Y_iadd (a := (5 * (v 11))) (b := 3) hk rfl ?_
          refine E_run hk 1 (j' := 49) (lv' := [(3, yi 1), (2, yi 104), (1, yi (5 * (v 11))), (0, .ref 63)]) (st' := [.ref 63, yi ((5 * (v 11)) + 3), .ref 68]) (hp' := H219) rfl ?_
          refine E_get (v := yi (v 13)) hk rfl (f221.at (by decide) (f217.at (by decide) e_H5)) rfl ?_
          refine Y_iast (a := ((5 * (v 11)) + 3)) (x := (v 13)) (by omega) (by decide) (by decide) hk rfl e220 (fun H222 e223 f224 => ?_)
          refine E_run hk 1 (j' := 52) (lv' := [(3, yi 1), (2, yi 104), (1, yi (5 * (v 11))), (0, .ref 63)]) (st' := [.ref 63]) (hp' := H222) rfl ?_
          refine E_get (v := .ref 68) hk rfl (f224.at (by decide) (f221.at (by decide) (f217.at (by decide) e_H5))) rfl ?_
          refine E_run hk 2 (j' := 55) (lv' := [(3, yi 1), (2, yi 104), (1, yi (5 * (v 11))), (0, .ref 63)]) (st' := [yi 4, yi (5 * (v 11)), .ref 68]) (hp' := H222) rfl ?_
          refine Y_iadd (a := (5 * (v 11))) (b := 4) hk rfl ?_
          refine E_run hk 1 (j' := 57) (lv' := [(3, yi 1), (2, yi 104), (1, yi (5 * (v 11))), (0, .ref 63)]) (st' := [yi 0, yi ((5 * (v 11)) + 4), .ref 68]) (hp' := H222) rfl ?_
          refine Y_iast (a := ((5 * (v 11)) + 4)) (x := 0) (by omega) (by decide) (by decide) hk rfl e223 (fun H225 e226 f227 => ?_)
          refine E_run hk 2 (j' := 60) (lv' := [(3, yi 1), (2, yi 104), (1, yi (5 * (v 11))), (0, .ref 63)]) (st' := [yi 119, yi 104]) (hp' := H225) rfl ?_
          refine Y_ic_eq (a := 104) (b := 119) (by omega) hk rfl (fun g228 => ?_) (fun g228 => ?_)
          · exfalso; omega
          ·
            refine E_run hk 2 (j' := 63) (lv' := [(3, yi 1), (2, yi 104), (1, yi (5 * (v 11))), (0, .ref 63)]) (st' := [yi 102, yi 104]) (hp' := H225) rfl ?_
            refine Y_ic_eq (a := 104) (b := 102) (by omega) hk rfl (fun g229 => ?_) (fun g229 => ?_)
            · exfalso; omega
            ·
              refine E_run hk 3 (j' := 67) (lv' := [(3, yi 1), (2, yi 104), (1, yi (5 * (v 11))), (0, .ref 63)]) (st' := [yi 58, yi 58, .ref 63]) (hp' := H225) rfl ?_
              refine Y_call hk rfl (as := [.ref 63, yi 58, yi 58]) (rest := []) (v := some (yi (sg X (v 7) a_H5 - 48))) rfl rfl (Nat.le_of_ble_eq_true rfl) (rcv0 (f227.at (by decide) (f224.at (by decide) (f221.at (by decide) (f217.at (by decide) e_H5))))) (Nat.le_of_ble_eq_true rfl) (c_X9_takes (v := (vup (vup (vup v 9 1) 9 w_H5) 8 a_H5)) (f227.at (by decide) (f224.at (by decide) (f221.at (by decide) (f217.at (by decide) e_H5)))) (f227.at (by decide) (f224.at (by decide) (f221.at (by decide) (f217.at (by decide) (f_H5.at (by decide) (f3.at (by decide) hX)))))) hn hc (show 0 ≤ a_H5 ∧ a_H5 ≤ v 7 by omega) (show w_H5 = 0 ∨ w_H5 = 1 by omega) (l := 58) (u := 58) (by omega) (hd := by omega)) (fun H230 r231 => ?_)
              obtain ⟨e0_H230, f_H230⟩ := r231
              obtain ⟨w_H230, hq_H230⟩ : ∃ w, b2 (w_H5 = 1 ∧ 58 ≤ sg X (v 7) a_H5 ∧ sg X (v 7) a_H5 ≤ 58) = w := ⟨_, rfl⟩
              have e_H230 : xat H230 63 = some (yMo (vup (vup (vup (vup (vup v 9 1) 9 w_H5) 8 a_H5) 9 w_H230) 8 (a_H5 + w_H230))) := by rw [← hq_H230]; exact e0_H230
              obtain ⟨k1_H230, k2_H230, k3_H230⟩ := tk_step hc (show 0 ≤ a_H5 ∧ a_H5 ≤ v 7 by omega) (show w_H5 = 0 ∨ w_H5 = 1 by omega) (by omega) hq_H230
              refine E_run hk 3 (j' := 71) (lv' := [(3, yi 1), (2, yi 104), (1, yi (5 * (v 11))), (0, .ref 63)]) (st' := [yi 115, yi 104]) (hp' := H230) rfl ?_
              refine Y_ic_ne (a := 104) (b := 115) (by omega) hk rfl (fun g232 => ?_) (fun g232 => ?_)
              ·
                refine E_run hk 2 (j' := 78) (lv' := [(3, yi 1), (2, yi 104), (1, yi (5 * (v 11))), (0, .ref 63)]) (st' := [yi 114, yi 104]) (hp' := H230) rfl ?_
                refine Y_ic_eq (a := 104) (b := 114) (by omega) hk rfl (fun g233 => ?_) (fun g233 => ?_)
                · exfalso; omega
                ·
                  refine E_run hk 2 (j' := 81) (lv' := [(3, yi 1), (2, yi 104), (1, yi (5 * (v 11))), (0, .ref 63)]) (st' := [yi 108, yi 104]) (hp' := H230) rfl ?_
                  refine Y_ic_ne (a := 104) (b := 108) (by omega) hk rfl (fun g234 => ?_) (fun g234 => ?_)
                  ·
                    refine E_run hk 1 (j' := 94) (lv' := [(3, yi 1), (2, yi 104), (1, yi (5 * (v 11))), (0, .ref 63)]) (st' := [yi 1]) (hp' := H230) rfl ?_
                    refine Y_if_eq (a := 1) (by omega) hk rfl (fun g235 => ?_) (fun g235 => ?_)
                    · exfalso; omega
                    ·
                      refine E_run hk 1 (j' := 96) (lv' := [(3, yi 1), (2, yi 104), (1, yi (5 * (v 11))), (0, .ref 63)]) (st' := [.ref 63]) (hp' := H230) rfl ?_
                      refine E_get (v := .ref 68) hk rfl e_H230 rfl ?_
                      refine E_run hk 2 (j' := 99) (lv' := [(3, yi 1), (2, yi 104), (1, yi (5 * (v 11))), (0, .ref 63)]) (st' := [yi 2, yi (5 * (v 11)), .ref 68]) (hp' := H230) rfl ?_
                      refine Y_iadd (a := (5 * (v 11))) (b := 2) hk rfl ?_
                      refine E_run hk 2 (j' := 102) (lv' := [(3, yi 1), (2, yi 104), (1, yi (5 * (v 11))), (0, .ref 63)]) (st' := [yi 106, yi 104, yi ((5 * (v 11)) + 2), .ref 68]) (hp' := H230) rfl ?_
                      refine Y_ic_ne (a := 104) (b := 106) (by omega) hk rfl (fun g236 => ?_) (fun g236 => ?_)
                      ·
                        refine E_run hk 4 (j' := 112) (lv' := [(3, yi 1), (2, yi 104), (1, yi (5 * (v 11))), (0, .ref 63)]) (st' := [yi 98, yi 104, yi 0, .ref 63, yi ((5 * (v 11)) + 2), .ref 68]) (hp' := H230) rfl ?_
                        refine Y_ic_ne (a := 104) (b := 98) (by omega) hk rfl (fun g237 => ?_) (fun g237 => ?_)
                        ·
                          refine E_run hk 1 (j' := 116) (lv' := [(3, yi 1), (2, yi 104), (1, yi (5 * (v 11))), (0, .ref 63)]) (st' := [yi 50, yi 0, .ref 63, yi ((5 * (v 11)) + 2), .ref 68]) (hp' := H230) rfl ?_
                          refine Y_callE hk rfl (as := [.ref 63, yi 0, yi 50]) (rest := [yi ((5 * (v 11)) + 2), .ref 68]) rfl rfl (Nat.le_of_ble_eq_true rfl) (rcv0 e_H230) (Nat.le_of_ble_eq_true rfl) (c_X9_number (v := (vup (vup (vup (vup (vup v 9 1) 9 w_H5) 8 a_H5) 9 w_H230) 8 (a_H5 + w_H230))) e_H230 (f_H230.at (by decide) (f227.at (by decide) (f224.at (by decide) (f221.at (by decide) (f217.at (by decide) (f_H5.at (by decide) (f3.at (by decide) hX))))))) hn hc (show 0 ≤ a_H5 + w_H230 ∧ a_H5 + w_H230 ≤ v 7 by omega) (show w_H230 = 0 ∨ w_H230 = 1 by omega) (l := 0) (u := 50) (by omega) (by omega) (hd := by omega)) (fun z238 H239 r240 => ?_)
                          obtain ⟨a_H239, w_H239, nm_H239, no_H239, zr_H239, e0_H239, f_H239⟩ := r240
                          have e_H239 : xat H239 63 = some (yMo (vup (vup (vup (vup (vup (vup (vup v 9 1) 9 w_H5) 8 a_H5) 9 w_H230) 8 (a_H5 + w_H230)) 9 w_H239) 8 a_H239)) := e0_H239
                          have nm1_H239 : w_H230 = 1 → nmb X (v 7) 0 50 (a_H5 + w_H230) z238 a_H239 w_H239 := nm_H239
                          have no1_H239 : w_H230 = 0 → w_H239 = 0 ∧ a_H239 = a_H5 + w_H230 := no_H239
                          have k_H239 : (w_H239 = 0 ∧ a_H239 = a_H5 + w_H230) ∨ (w_H239 = 1 ∧ w_H230 = 1 ∧ a_H5 + w_H230 < a_H239 ∧ a_H239 ≤ v 7 ∧ 0 ≤ z238 ∧ z238 ≤ 50) := by rcases (show w_H230 = 0 ∨ w_H230 = 1 by omega) with x9 | x9; exact Or.inl (no1_H239 x9); rcases nm1_H239 x9 with ⟨x1, x2, -⟩ | ⟨x1, x2, x3, x4, x5, -⟩; exact Or.inl ⟨x1, x2⟩; exact Or.inr ⟨x1, x9, x2, x3, x4, x5⟩
                          refine Y_iast (a := ((5 * (v 11)) + 2)) (x := z238) (by omega) (by decide) (by decide) hk rfl (f_H239.at (by decide) (f_H230.at (by decide) e226)) (fun H241 e242 f243 => ?_)
                          refine E_run hk 2 (j' := 120) (lv' := [(3, yi 1), (2, yi 104), (1, yi (5 * (v 11))), (0, .ref 63)]) (st' := [.ref 63, .ref 63]) (hp' := H241) rfl ?_
                          refine E_get (v := yi (v 11)) hk rfl (f243.at (by decide) e_H239) rfl ?_
                          refine E_run hk 1 (j' := 122) (lv' := [(3, yi 1), (2, yi 104), (1, yi (5 * (v 11))), (0, .ref 63)]) (st' := [.ref 63, yi (v 11), .ref 63]) (hp' := H241) rfl ?_
                          refine E_get (v := yi w_H239) hk rfl (f243.at (by decide) e_H239) rfl ?_
                          refine Y_if_eq (a := w_H239) (by omega) hk rfl (fun g244 => ?_) (fun g244 => ?_)
                          ·
                            refine E_run hk 1 (j' := 127) (lv' := [(3, yi 1), (2, yi 104), (1, yi (5 * (v 11))), (0, .ref 63)]) (st' := [yi 0, yi (v 11), .ref 63]) (hp' := H241) rfl ?_
                            refine Y_iadd (a := (v 11)) (b := 0) hk rfl ?_
                            refine Y_put hk rfl (f243.at (by decide) e_H239) (by decide) (Nat.le_of_ble_eq_true rfl) rfl (fs' := [yi (v 0), .ref 64, .ref 65, yi (v 3), .ref 66, yi (v 5), .ref 67, yi (v 7), yi a_H239, yi w_H239, .ref 68, yi ((v 11) + 0), .ref 69, yi (v 13), .ref 70, .ref 71, .ref 72, .ref 73, .ref 74, .ref 75, yi (v 20), yi (v 21)]) rfl (fun H245 e246 f247 => ?_)
                            exact E_ret hk rfl rfl (by
      have e9 := e246
      rw [show (v 11) + 0 = v 11 + w_H239 by omega] at e9
      exact ⟨rfl, a_H239, w_H239, 0, up (up (up (up (up B (5 * (v 11)) 104) ((5 * (v 11)) + 1) 0) ((5 * (v 11)) + 3) (v 13)) ((5 * (v 11)) + 4) 0) ((5 * (v 11)) + 2) z238, C, Or.inr ⟨by omega, by rw [show a_H239 = a_H5 by omega]; exact rwd_badp rw_H5 w0⟩, ⟨by omega, by omega⟩, ⟨by omega, by omega, fun _ => by omega⟩, fun x x1 => (by repeat (first | rw [up_self] | rw [up_ne _ _ (by omega)])), fun _ _ => rfl, (by rw [Int.add_zero]; exact e9), (f247.at (by decide) e242), (f247.at (by decide) (f243.at (by decide) (f_H239.at (by decide) (f_H230.at (by decide) (f227.at (by decide) (f224.at (by decide) (f221.at (by decide) (f217.at (by decide) (f_H5.at (by decide) (f3.at (by decide) hC)))))))))), (yfr.tr (yfr.tr (yfr.tr (yfr.tr (yfr.tr (yfr.tr (yfr.tr (yfr.tr (yfr.tr (f3.mono (by decide)) f_H5 (fun _ h => h) (by decide)) f217 (fun _ h => h) (by decide)) f221 (fun _ h => h) (by decide)) f224 (fun _ h => h) (by decide)) f227 (fun _ h => h) (by decide)) f_H230 (fun _ h => h) (by decide)) f_H239 (fun _ h => h) (by decide)) f243 (fun _ h => h) (by decide)) f247 (fun _ h => h) (by decide))⟩)
                          ·
                            refine E_run hk 2 (j' := 127) (lv' := [(3, yi 1), (2, yi 104), (1, yi (5 * (v 11))), (0, .ref 63)]) (st' := [yi 1, yi (v 11), .ref 63]) (hp' := H241) rfl ?_
                            refine Y_iadd (a := (v 11)) (b := 1) hk rfl ?_
                            refine Y_put hk rfl (f243.at (by decide) e_H239) (by decide) (Nat.le_of_ble_eq_true rfl) rfl (fs' := [yi (v 0), .ref 64, .ref 65, yi (v 3), .ref 66, yi (v 5), .ref 67, yi (v 7), yi a_H239, yi w_H239, .ref 68, yi ((v 11) + 1), .ref 69, yi (v 13), .ref 70, .ref 71, .ref 72, .ref 73, .ref 74, .ref 75, yi (v 20), yi (v 21)]) rfl (fun H248 e249 f250 => ?_)
                            exact E_ret hk rfl rfl (by exfalso; omega)
                        · exfalso; omega
                      · exfalso; omega
                  · exfalso; omega
              · exfalso; omega
      · exfalso; omega
  · rw [w7]
    refine E_run hk 2 (j' := 13) (lv' := [(2, yi 106), (1, yi (5 * (v 11))), (0, .ref 63)]) (st' := [yi 98, yi 106]) (hp' := H5) rfl ?_
    refine Y_ic_eq (a := 106) (b := 98) (by omega) hk rfl (fun g251 => ?_) (fun g251 => ?_)
    · exfalso; omega
    ·
      refine E_run hk 2 (j' := 16) (lv' := [(2, yi 106), (1, yi (5 * (v 11))), (0, .ref 63)]) (st' := [yi 104, yi 106]) (hp' := H5) rfl ?_
      refine Y_ic_eq (a := 106) (b := 104) (by omega) hk rfl (fun g252 => ?_) (fun g252 => ?_)
      · exfalso; omega
      ·
        refine E_run hk 2 (j' := 19) (lv' := [(2, yi 106), (1, yi (5 * (v 11))), (0, .ref 63)]) (st' := [yi 106, yi 106]) (hp' := H5) rfl ?_
        refine Y_ic_ne (a := 106) (b := 106) (by omega) hk rfl (fun g253 => ?_) (fun g253 => ?_)
        · exfalso; omega
        ·
          refine E_run hk 3 (j' := 24) (lv' := [(3, yi 1), (2, yi 106), (1, yi (5 * (v 11))), (0, .ref 63)]) (st' := []) (hp' := H5) rfl ?_
          refine E_run hk 1 (j' := 25) (lv' := [(3, yi 1), (2, yi 106), (1, yi (5 * (v 11))), (0, .ref 63)]) (st' := [.ref 63]) (hp' := H5) rfl ?_
          refine E_get (v := .ref 68) hk rfl e_H5 rfl ?_
          refine E_run hk 2 (j' := 28) (lv' := [(3, yi 1), (2, yi 106), (1, yi (5 * (v 11))), (0, .ref 63)]) (st' := [yi 106, yi (5 * (v 11)), .ref 68]) (hp' := H5) rfl ?_
          refine Y_iast (a := (5 * (v 11))) (x := 106) (by omega) (by decide) (by decide) hk rfl (f_H5.at (by decide) (f3.at (by decide) hB)) (fun H254 e255 f256 => ?_)
          refine E_run hk 1 (j' := 30) (lv' := [(3, yi 1), (2, yi 106), (1, yi (5 * (v 11))), (0, .ref 63)]) (st' := [.ref 63]) (hp' := H254) rfl ?_
          refine E_get (v := .ref 68) hk rfl (f256.at (by decide) e_H5) rfl ?_
          refine E_run hk 2 (j' := 33) (lv' := [(3, yi 1), (2, yi 106), (1, yi (5 * (v 11))), (0, .ref 63)]) (st' := [yi 1, yi (5 * (v 11)), .ref 68]) (hp' := H254) rfl ?_
          refine Y_iadd (a := (5 * (v 11))) (b := 1) hk rfl ?_
          refine E_run hk 1 (j' := 35) (lv' := [(3, yi 1), (2, yi 106), (1, yi (5 * (v 11))), (0, .ref 63)]) (st' := [yi 1, yi ((5 * (v 11)) + 1), .ref 68]) (hp' := H254) rfl ?_
          refine Y_if_eq (a := 1) (by omega) hk rfl (fun g257 => ?_) (fun g257 => ?_)
          · exfalso; omega
          ·
            refine E_run hk 2 (j' := 42) (lv' := [(3, yi 1), (2, yi 106), (1, yi (5 * (v 11))), (0, .ref 63)]) (st' := [yi 0, yi ((5 * (v 11)) + 1), .ref 68]) (hp' := H254) rfl ?_
            refine Y_iast (a := ((5 * (v 11)) + 1)) (x := 0) (by omega) (by decide) (by decide) hk rfl e255 (fun H258 e259 f260 => ?_)
            refine E_run hk 1 (j' := 44) (lv' := [(3, yi 1), (2, yi 106), (1, yi (5 * (v 11))), (0, .ref 63)]) (st' := [.ref 63]) (hp' := H258) rfl ?_
            refine E_get (v := .ref 68) hk rfl (f260.at (by decide) (f256.at (by decide) e_H5)) rfl ?_
            refine E_run hk 2 (j' := 47) (lv' := [(3, yi 1), (2, yi 106), (1, yi (5 * (v 11))), (0, .ref 63)]) (st' := [yi 3, yi (5 * (v 11)), .ref 68]) (hp' := H258) rfl ?_
            refine Y_iadd (a := (5 * (v 11))) (b := 3) hk rfl ?_
            refine E_run hk 1 (j' := 49) (lv' := [(3, yi 1), (2, yi 106), (1, yi (5 * (v 11))), (0, .ref 63)]) (st' := [.ref 63, yi ((5 * (v 11)) + 3), .ref 68]) (hp' := H258) rfl ?_
            refine E_get (v := yi (v 13)) hk rfl (f260.at (by decide) (f256.at (by decide) e_H5)) rfl ?_
            refine Y_iast (a := ((5 * (v 11)) + 3)) (x := (v 13)) (by omega) (by decide) (by decide) hk rfl e259 (fun H261 e262 f263 => ?_)
            refine E_run hk 1 (j' := 52) (lv' := [(3, yi 1), (2, yi 106), (1, yi (5 * (v 11))), (0, .ref 63)]) (st' := [.ref 63]) (hp' := H261) rfl ?_
            refine E_get (v := .ref 68) hk rfl (f263.at (by decide) (f260.at (by decide) (f256.at (by decide) e_H5))) rfl ?_
            refine E_run hk 2 (j' := 55) (lv' := [(3, yi 1), (2, yi 106), (1, yi (5 * (v 11))), (0, .ref 63)]) (st' := [yi 4, yi (5 * (v 11)), .ref 68]) (hp' := H261) rfl ?_
            refine Y_iadd (a := (5 * (v 11))) (b := 4) hk rfl ?_
            refine E_run hk 1 (j' := 57) (lv' := [(3, yi 1), (2, yi 106), (1, yi (5 * (v 11))), (0, .ref 63)]) (st' := [yi 0, yi ((5 * (v 11)) + 4), .ref 68]) (hp' := H261) rfl ?_
            refine Y_iast (a := ((5 * (v 11)) + 4)) (x := 0) (by omega) (by decide) (by decide) hk rfl e262 (fun H264 e265 f266 => ?_)
            refine E_run hk 2 (j' := 60) (lv' := [(3, yi 1), (2, yi 106), (1, yi (5 * (v 11))), (0, .ref 63)]) (st' := [yi 119, yi 106]) (hp' := H264) rfl ?_
            refine Y_ic_eq (a := 106) (b := 119) (by omega) hk rfl (fun g267 => ?_) (fun g267 => ?_)
            · exfalso; omega
            ·
              refine E_run hk 2 (j' := 63) (lv' := [(3, yi 1), (2, yi 106), (1, yi (5 * (v 11))), (0, .ref 63)]) (st' := [yi 102, yi 106]) (hp' := H264) rfl ?_
              refine Y_ic_eq (a := 106) (b := 102) (by omega) hk rfl (fun g268 => ?_) (fun g268 => ?_)
              · exfalso; omega
              ·
                refine E_run hk 3 (j' := 67) (lv' := [(3, yi 1), (2, yi 106), (1, yi (5 * (v 11))), (0, .ref 63)]) (st' := [yi 58, yi 58, .ref 63]) (hp' := H264) rfl ?_
                refine Y_call hk rfl (as := [.ref 63, yi 58, yi 58]) (rest := []) (v := some (yi (sg X (v 7) a_H5 - 48))) rfl rfl (Nat.le_of_ble_eq_true rfl) (rcv0 (f266.at (by decide) (f263.at (by decide) (f260.at (by decide) (f256.at (by decide) e_H5))))) (Nat.le_of_ble_eq_true rfl) (c_X9_takes (v := (vup (vup (vup v 9 1) 9 w_H5) 8 a_H5)) (f266.at (by decide) (f263.at (by decide) (f260.at (by decide) (f256.at (by decide) e_H5)))) (f266.at (by decide) (f263.at (by decide) (f260.at (by decide) (f256.at (by decide) (f_H5.at (by decide) (f3.at (by decide) hX)))))) hn hc (show 0 ≤ a_H5 ∧ a_H5 ≤ v 7 by omega) (show w_H5 = 0 ∨ w_H5 = 1 by omega) (l := 58) (u := 58) (by omega) (hd := by omega)) (fun H269 r270 => ?_)
                obtain ⟨e0_H269, f_H269⟩ := r270
                obtain ⟨w_H269, hq_H269⟩ : ∃ w, b2 (w_H5 = 1 ∧ 58 ≤ sg X (v 7) a_H5 ∧ sg X (v 7) a_H5 ≤ 58) = w := ⟨_, rfl⟩
                have e_H269 : xat H269 63 = some (yMo (vup (vup (vup (vup (vup v 9 1) 9 w_H5) 8 a_H5) 9 w_H269) 8 (a_H5 + w_H269))) := by rw [← hq_H269]; exact e0_H269
                obtain ⟨k1_H269, k2_H269, k3_H269⟩ := tk_step hc (show 0 ≤ a_H5 ∧ a_H5 ≤ v 7 by omega) (show w_H5 = 0 ∨ w_H5 = 1 by omega) (by omega) hq_H269
                refine E_run hk 3 (j' := 71) (lv' := [(3, yi 1), (2, yi 106), (1, yi (5 * (v 11))), (0, .ref 63)]) (st' := [yi 115, yi 106]) (hp' := H269) rfl ?_
                refine Y_ic_ne (a := 106) (b := 115) (by omega) hk rfl (fun g271 => ?_) (fun g271 => ?_)
                ·
                  refine E_run hk 2 (j' := 78) (lv' := [(3, yi 1), (2, yi 106), (1, yi (5 * (v 11))), (0, .ref 63)]) (st' := [yi 114, yi 106]) (hp' := H269) rfl ?_
                  refine Y_ic_eq (a := 106) (b := 114) (by omega) hk rfl (fun g272 => ?_) (fun g272 => ?_)
                  · exfalso; omega
                  ·
                    refine E_run hk 2 (j' := 81) (lv' := [(3, yi 1), (2, yi 106), (1, yi (5 * (v 11))), (0, .ref 63)]) (st' := [yi 108, yi 106]) (hp' := H269) rfl ?_
                    refine Y_ic_ne (a := 106) (b := 108) (by omega) hk rfl (fun g273 => ?_) (fun g273 => ?_)
                    ·
                      refine E_run hk 1 (j' := 94) (lv' := [(3, yi 1), (2, yi 106), (1, yi (5 * (v 11))), (0, .ref 63)]) (st' := [yi 1]) (hp' := H269) rfl ?_
                      refine Y_if_eq (a := 1) (by omega) hk rfl (fun g274 => ?_) (fun g274 => ?_)
                      · exfalso; omega
                      ·
                        refine E_run hk 1 (j' := 96) (lv' := [(3, yi 1), (2, yi 106), (1, yi (5 * (v 11))), (0, .ref 63)]) (st' := [.ref 63]) (hp' := H269) rfl ?_
                        refine E_get (v := .ref 68) hk rfl e_H269 rfl ?_
                        refine E_run hk 2 (j' := 99) (lv' := [(3, yi 1), (2, yi 106), (1, yi (5 * (v 11))), (0, .ref 63)]) (st' := [yi 2, yi (5 * (v 11)), .ref 68]) (hp' := H269) rfl ?_
                        refine Y_iadd (a := (5 * (v 11))) (b := 2) hk rfl ?_
                        refine E_run hk 2 (j' := 102) (lv' := [(3, yi 1), (2, yi 106), (1, yi (5 * (v 11))), (0, .ref 63)]) (st' := [yi 106, yi 106, yi ((5 * (v 11)) + 2), .ref 68]) (hp' := H269) rfl ?_
                        refine Y_ic_ne (a := 106) (b := 106) (by omega) hk rfl (fun g275 => ?_) (fun g275 => ?_)
                        · exfalso; omega
                        ·
                          refine E_run hk 3 (j' := 106) (lv' := [(3, yi 1), (2, yi 106), (1, yi (5 * (v 11))), (0, .ref 63)]) (st' := [yi 51, yi 48, .ref 63, yi ((5 * (v 11)) + 2), .ref 68]) (hp' := H269) rfl ?_
                          refine Y_call hk rfl (as := [.ref 63, yi 48, yi 51]) (rest := [yi ((5 * (v 11)) + 2), .ref 68]) (v := some (yi (sg X (v 7) (a_H5 + w_H269) - 48))) rfl rfl (Nat.le_of_ble_eq_true rfl) (rcv0 e_H269) (Nat.le_of_ble_eq_true rfl) (c_X9_takes (v := (vup (vup (vup (vup (vup v 9 1) 9 w_H5) 8 a_H5) 9 w_H269) 8 (a_H5 + w_H269))) e_H269 (f_H269.at (by decide) (f266.at (by decide) (f263.at (by decide) (f260.at (by decide) (f256.at (by decide) (f_H5.at (by decide) (f3.at (by decide) hX))))))) hn hc (show 0 ≤ a_H5 + w_H269 ∧ a_H5 + w_H269 ≤ v 7 by omega) (show w_H269 = 0 ∨ w_H269 = 1 by omega) (l := 48) (u := 51) (by omega) (hd := by omega)) (fun H276 r277 => ?_)
                          obtain ⟨e0_H276, f_H276⟩ := r277
                          obtain ⟨w_H276, hq_H276⟩ : ∃ w, b2 (w_H269 = 1 ∧ 48 ≤ sg X (v 7) (a_H5 + w_H269) ∧ sg X (v 7) (a_H5 + w_H269) ≤ 51) = w := ⟨_, rfl⟩
                          have e_H276 : xat H276 63 = some (yMo (vup (vup (vup (vup (vup (vup (vup v 9 1) 9 w_H5) 8 a_H5) 9 w_H269) 8 (a_H5 + w_H269)) 9 w_H276) 8 ((a_H5 + w_H269) + w_H276))) := by rw [← hq_H276]; exact e0_H276
                          obtain ⟨k1_H276, k2_H276, k3_H276⟩ := tk_step hc (show 0 ≤ a_H5 + w_H269 ∧ a_H5 + w_H269 ≤ v 7 by omega) (show w_H269 = 0 ∨ w_H269 = 1 by omega) (by omega) hq_H276
                          refine E_run hk 1 (j' := 117) (lv' := [(3, yi 1), (2, yi 106), (1, yi (5 * (v 11))), (0, .ref 63)]) (st' := [yi (sg X (v 7) (a_H5 + w_H269) - 48), yi ((5 * (v 11)) + 2), .ref 68]) (hp' := H276) rfl ?_
                          refine Y_iast (a := ((5 * (v 11)) + 2)) (x := (sg X (v 7) (a_H5 + w_H269) - 48)) (by omega) (by decide) (by decide) hk rfl (f_H276.at (by decide) (f_H269.at (by decide) e265)) (fun H278 e279 f280 => ?_)
                          refine E_run hk 2 (j' := 120) (lv' := [(3, yi 1), (2, yi 106), (1, yi (5 * (v 11))), (0, .ref 63)]) (st' := [.ref 63, .ref 63]) (hp' := H278) rfl ?_
                          refine E_get (v := yi (v 11)) hk rfl (f280.at (by decide) e_H276) rfl ?_
                          refine E_run hk 1 (j' := 122) (lv' := [(3, yi 1), (2, yi 106), (1, yi (5 * (v 11))), (0, .ref 63)]) (st' := [.ref 63, yi (v 11), .ref 63]) (hp' := H278) rfl ?_
                          refine E_get (v := yi w_H276) hk rfl (f280.at (by decide) e_H276) rfl ?_
                          refine Y_if_eq (a := w_H276) (by omega) hk rfl (fun g281 => ?_) (fun g281 => ?_)
                          ·
                            refine E_run hk 1 (j' := 127) (lv' := [(3, yi 1), (2, yi 106), (1, yi (5 * (v 11))), (0, .ref 63)]) (st' := [yi 0, yi (v 11), .ref 63]) (hp' := H278) rfl ?_
                            refine Y_iadd (a := (v 11)) (b := 0) hk rfl ?_
                            refine Y_put hk rfl (f280.at (by decide) e_H276) (by decide) (Nat.le_of_ble_eq_true rfl) rfl (fs' := [yi (v 0), .ref 64, .ref 65, yi (v 3), .ref 66, yi (v 5), .ref 67, yi (v 7), yi ((a_H5 + w_H269) + w_H276), yi w_H276, .ref 68, yi ((v 11) + 0), .ref 69, yi (v 13), .ref 70, .ref 71, .ref 72, .ref 73, .ref 74, .ref 75, yi (v 20), yi (v 21)]) rfl (fun H282 e283 f284 => ?_)
                            exact E_ret hk rfl rfl (by
      have e9 := e283
      rw [show (v 11) + 0 = v 11 + w_H276 by omega] at e9
      exact ⟨rfl, (a_H5 + w_H269) + w_H276, w_H276, 0, up (up (up (up (up B (5 * (v 11)) 106) ((5 * (v 11)) + 1) 0) ((5 * (v 11)) + 3) (v 13)) ((5 * (v 11)) + 4) 0) ((5 * (v 11)) + 2) (sg X (v 7) (a_H5 + w_H269) - 48), C, Or.inr ⟨by omega, by rw [show (a_H5 + w_H269) + w_H276 = a_H5 by omega]; exact rwd_badp rw_H5 w0⟩, ⟨by omega, by omega⟩, ⟨by omega, by omega, fun _ => by omega⟩, fun x x1 => (by repeat (first | rw [up_self] | rw [up_ne _ _ (by omega)])), fun _ _ => rfl, (by rw [Int.add_zero]; exact e9), (f284.at (by decide) e279), (f284.at (by decide) (f280.at (by decide) (f_H276.at (by decide) (f_H269.at (by decide) (f266.at (by decide) (f263.at (by decide) (f260.at (by decide) (f256.at (by decide) (f_H5.at (by decide) (f3.at (by decide) hC)))))))))), (yfr.tr (yfr.tr (yfr.tr (yfr.tr (yfr.tr (yfr.tr (yfr.tr (yfr.tr (yfr.tr (f3.mono (by decide)) f_H5 (fun _ h => h) (by decide)) f256 (fun _ h => h) (by decide)) f260 (fun _ h => h) (by decide)) f263 (fun _ h => h) (by decide)) f266 (fun _ h => h) (by decide)) f_H269 (fun _ h => h) (by decide)) f_H276 (fun _ h => h) (by decide)) f280 (fun _ h => h) (by decide)) f284 (fun _ h => h) (by decide))⟩)
                          ·
                            refine E_run hk 2 (j' := 127) (lv' := [(3, yi 1), (2, yi 106), (1, yi (5 * (v 11))), (0, .ref 63)]) (st' := [yi 1, yi (v 11), .ref 63]) (hp' := H278) rfl ?_
                            refine Y_iadd (a := (v 11)) (b := 1) hk rfl ?_
                            refine Y_put hk rfl (f280.at (by decide) e_H276) (by decide) (Nat.le_of_ble_eq_true rfl) rfl (fs' := [yi (v 0), .ref 64, .ref 65, yi (v 3), .ref 66, yi (v 5), .ref 67, yi (v 7), yi ((a_H5 + w_H269) + w_H276), yi w_H276, .ref 68, yi ((v 11) + 1), .ref 69, yi (v 13), .ref 70, .ref 71, .ref 72, .ref 73, .ref 74, .ref 75, yi (v 20), yi (v 21)]) rfl (fun H285 e286 f287 => ?_)
                            exact E_ret hk rfl rfl (by exfalso; omega)
                    · exfalso; omega
                · exfalso; omega
  · skip
    refine E_run hk 2 (j' := 13) (lv' := [(2, yi z4), (1, yi (5 * (v 11))), (0, .ref 63)]) (st' := [yi 98, yi z4]) (hp' := H5) rfl ?_
    refine Y_ic_eq (a := z4) (b := 98) (by omega) hk rfl (fun g288 => ?_) (fun g288 => ?_)
    · exfalso; omega
    ·
      refine E_run hk 2 (j' := 16) (lv' := [(2, yi z4), (1, yi (5 * (v 11))), (0, .ref 63)]) (st' := [yi 104, yi z4]) (hp' := H5) rfl ?_
      refine Y_ic_eq (a := z4) (b := 104) (by omega) hk rfl (fun g289 => ?_) (fun g289 => ?_)
      · exfalso; omega
      ·
        refine E_run hk 2 (j' := 19) (lv' := [(2, yi z4), (1, yi (5 * (v 11))), (0, .ref 63)]) (st' := [yi 106, yi z4]) (hp' := H5) rfl ?_
        refine Y_ic_ne (a := z4) (b := 106) (by omega) hk rfl (fun g290 => ?_) (fun g290 => ?_)
        ·
          refine E_run hk 2 (j' := 24) (lv' := [(3, yi 0), (2, yi z4), (1, yi (5 * (v 11))), (0, .ref 63)]) (st' := []) (hp' := H5) rfl ?_
          refine E_run hk 1 (j' := 25) (lv' := [(3, yi 0), (2, yi z4), (1, yi (5 * (v 11))), (0, .ref 63)]) (st' := [.ref 63]) (hp' := H5) rfl ?_
          refine E_get (v := .ref 68) hk rfl e_H5 rfl ?_
          refine E_run hk 2 (j' := 28) (lv' := [(3, yi 0), (2, yi z4), (1, yi (5 * (v 11))), (0, .ref 63)]) (st' := [yi z4, yi (5 * (v 11)), .ref 68]) (hp' := H5) rfl ?_
          refine Y_iast (a := (5 * (v 11))) (x := z4) (by omega) (by decide) (by decide) hk rfl (f_H5.at (by decide) (f3.at (by decide) hB)) (fun H291 e292 f293 => ?_)
          refine E_run hk 1 (j' := 30) (lv' := [(3, yi 0), (2, yi z4), (1, yi (5 * (v 11))), (0, .ref 63)]) (st' := [.ref 63]) (hp' := H291) rfl ?_
          refine E_get (v := .ref 68) hk rfl (f293.at (by decide) e_H5) rfl ?_
          refine E_run hk 2 (j' := 33) (lv' := [(3, yi 0), (2, yi z4), (1, yi (5 * (v 11))), (0, .ref 63)]) (st' := [yi 1, yi (5 * (v 11)), .ref 68]) (hp' := H291) rfl ?_
          refine Y_iadd (a := (5 * (v 11))) (b := 1) hk rfl ?_
          refine E_run hk 1 (j' := 35) (lv' := [(3, yi 0), (2, yi z4), (1, yi (5 * (v 11))), (0, .ref 63)]) (st' := [yi 0, yi ((5 * (v 11)) + 1), .ref 68]) (hp' := H291) rfl ?_
          refine Y_if_eq (a := 0) (by omega) hk rfl (fun g294 => ?_) (fun g294 => ?_)
          ·
            refine E_run hk 3 (j' := 41) (lv' := [(3, yi 0), (2, yi z4), (1, yi (5 * (v 11))), (0, .ref 63)]) (st' := [yi 49, yi 48, .ref 63, yi ((5 * (v 11)) + 1), .ref 68]) (hp' := H291) rfl ?_
            refine Y_call hk rfl (as := [.ref 63, yi 48, yi 49]) (rest := [yi ((5 * (v 11)) + 1), .ref 68]) (v := some (yi (sg X (v 7) a_H5 - 48))) rfl rfl (Nat.le_of_ble_eq_true rfl) (rcv0 (f293.at (by decide) e_H5)) (Nat.le_of_ble_eq_true rfl) (c_X9_takes (v := (vup (vup (vup v 9 1) 9 w_H5) 8 a_H5)) (f293.at (by decide) e_H5) (f293.at (by decide) (f_H5.at (by decide) (f3.at (by decide) hX))) hn hc (show 0 ≤ a_H5 ∧ a_H5 ≤ v 7 by omega) (show w_H5 = 0 ∨ w_H5 = 1 by omega) (l := 48) (u := 49) (by omega) (hd := by omega)) (fun H295 r296 => ?_)
            obtain ⟨e0_H295, f_H295⟩ := r296
            obtain ⟨w_H295, hq_H295⟩ : ∃ w, b2 (w_H5 = 1 ∧ 48 ≤ sg X (v 7) a_H5 ∧ sg X (v 7) a_H5 ≤ 49) = w := ⟨_, rfl⟩
            have e_H295 : xat H295 63 = some (yMo (vup (vup (vup (vup (vup v 9 1) 9 w_H5) 8 a_H5) 9 w_H295) 8 (a_H5 + w_H295))) := by rw [← hq_H295]; exact e0_H295
            obtain ⟨k1_H295, k2_H295, k3_H295⟩ := tk_step hc (show 0 ≤ a_H5 ∧ a_H5 ≤ v 7 by omega) (show w_H5 = 0 ∨ w_H5 = 1 by omega) (by omega) hq_H295
            refine Y_iast (a := ((5 * (v 11)) + 1)) (x := (sg X (v 7) a_H5 - 48)) (by omega) (by decide) (by decide) hk rfl (f_H295.at (by decide) e292) (fun H297 e298 f299 => ?_)
            refine E_run hk 1 (j' := 44) (lv' := [(3, yi 0), (2, yi z4), (1, yi (5 * (v 11))), (0, .ref 63)]) (st' := [.ref 63]) (hp' := H297) rfl ?_
            refine E_get (v := .ref 68) hk rfl (f299.at (by decide) e_H295) rfl ?_
            refine E_run hk 2 (j' := 47) (lv' := [(3, yi 0), (2, yi z4), (1, yi (5 * (v 11))), (0, .ref 63)]) (st' := [yi 3, yi (5 * (v 11)), .ref 68]) (hp' := H297) rfl ?_
            refine Y_iadd (a := (5 * (v 11))) (b := 3) hk rfl ?_
            refine E_run hk 1 (j' := 49) (lv' := [(3, yi 0), (2, yi z4), (1, yi (5 * (v 11))), (0, .ref 63)]) (st' := [.ref 63, yi ((5 * (v 11)) + 3), .ref 68]) (hp' := H297) rfl ?_
            refine E_get (v := yi (v 13)) hk rfl (f299.at (by decide) e_H295) rfl ?_
            refine Y_iast (a := ((5 * (v 11)) + 3)) (x := (v 13)) (by omega) (by decide) (by decide) hk rfl e298 (fun H300 e301 f302 => ?_)
            refine E_run hk 1 (j' := 52) (lv' := [(3, yi 0), (2, yi z4), (1, yi (5 * (v 11))), (0, .ref 63)]) (st' := [.ref 63]) (hp' := H300) rfl ?_
            refine E_get (v := .ref 68) hk rfl (f302.at (by decide) (f299.at (by decide) e_H295)) rfl ?_
            refine E_run hk 2 (j' := 55) (lv' := [(3, yi 0), (2, yi z4), (1, yi (5 * (v 11))), (0, .ref 63)]) (st' := [yi 4, yi (5 * (v 11)), .ref 68]) (hp' := H300) rfl ?_
            refine Y_iadd (a := (5 * (v 11))) (b := 4) hk rfl ?_
            refine E_run hk 1 (j' := 57) (lv' := [(3, yi 0), (2, yi z4), (1, yi (5 * (v 11))), (0, .ref 63)]) (st' := [yi 0, yi ((5 * (v 11)) + 4), .ref 68]) (hp' := H300) rfl ?_
            refine Y_iast (a := ((5 * (v 11)) + 4)) (x := 0) (by omega) (by decide) (by decide) hk rfl e301 (fun H303 e304 f305 => ?_)
            refine E_run hk 2 (j' := 60) (lv' := [(3, yi 0), (2, yi z4), (1, yi (5 * (v 11))), (0, .ref 63)]) (st' := [yi 119, yi z4]) (hp' := H303) rfl ?_
            refine Y_ic_eq (a := z4) (b := 119) (by omega) hk rfl (fun g306 => ?_) (fun g306 => ?_)
            · exfalso; omega
            ·
              refine E_run hk 2 (j' := 63) (lv' := [(3, yi 0), (2, yi z4), (1, yi (5 * (v 11))), (0, .ref 63)]) (st' := [yi 102, yi z4]) (hp' := H303) rfl ?_
              refine Y_ic_eq (a := z4) (b := 102) (by omega) hk rfl (fun g307 => ?_) (fun g307 => ?_)
              · exfalso; omega
              ·
                refine E_run hk 3 (j' := 67) (lv' := [(3, yi 0), (2, yi z4), (1, yi (5 * (v 11))), (0, .ref 63)]) (st' := [yi 58, yi 58, .ref 63]) (hp' := H303) rfl ?_
                refine Y_call hk rfl (as := [.ref 63, yi 58, yi 58]) (rest := []) (v := some (yi (sg X (v 7) (a_H5 + w_H295) - 48))) rfl rfl (Nat.le_of_ble_eq_true rfl) (rcv0 (f305.at (by decide) (f302.at (by decide) (f299.at (by decide) e_H295)))) (Nat.le_of_ble_eq_true rfl) (c_X9_takes (v := (vup (vup (vup (vup (vup v 9 1) 9 w_H5) 8 a_H5) 9 w_H295) 8 (a_H5 + w_H295))) (f305.at (by decide) (f302.at (by decide) (f299.at (by decide) e_H295))) (f305.at (by decide) (f302.at (by decide) (f299.at (by decide) (f_H295.at (by decide) (f293.at (by decide) (f_H5.at (by decide) (f3.at (by decide) hX))))))) hn hc (show 0 ≤ a_H5 + w_H295 ∧ a_H5 + w_H295 ≤ v 7 by omega) (show w_H295 = 0 ∨ w_H295 = 1 by omega) (l := 58) (u := 58) (by omega) (hd := by omega)) (fun H308 r309 => ?_)
                obtain ⟨e0_H308, f_H308⟩ := r309
                obtain ⟨w_H308, hq_H308⟩ : ∃ w, b2 (w_H295 = 1 ∧ 58 ≤ sg X (v 7) (a_H5 + w_H295) ∧ sg X (v 7) (a_H5 + w_H295) ≤ 58) = w := ⟨_, rfl⟩
                have e_H308 : xat H308 63 = some (yMo (vup (vup (vup (vup (vup (vup (vup v 9 1) 9 w_H5) 8 a_H5) 9 w_H295) 8 (a_H5 + w_H295)) 9 w_H308) 8 ((a_H5 + w_H295) + w_H308))) := by rw [← hq_H308]; exact e0_H308
                obtain ⟨k1_H308, k2_H308, k3_H308⟩ := tk_step hc (show 0 ≤ a_H5 + w_H295 ∧ a_H5 + w_H295 ≤ v 7 by omega) (show w_H295 = 0 ∨ w_H295 = 1 by omega) (by omega) hq_H308
                refine E_run hk 3 (j' := 71) (lv' := [(3, yi 0), (2, yi z4), (1, yi (5 * (v 11))), (0, .ref 63)]) (st' := [yi 115, yi z4]) (hp' := H308) rfl ?_
                refine Y_ic_ne (a := z4) (b := 115) (by omega) hk rfl (fun g310 => ?_) (fun g310 => ?_)
                ·
                  refine E_run hk 2 (j' := 78) (lv' := [(3, yi 0), (2, yi z4), (1, yi (5 * (v 11))), (0, .ref 63)]) (st' := [yi 114, yi z4]) (hp' := H308) rfl ?_
                  refine Y_ic_eq (a := z4) (b := 114) (by omega) hk rfl (fun g311 => ?_) (fun g311 => ?_)
                  · exfalso; omega
                  ·
                    refine E_run hk 2 (j' := 81) (lv' := [(3, yi 0), (2, yi z4), (1, yi (5 * (v 11))), (0, .ref 63)]) (st' := [yi 108, yi z4]) (hp' := H308) rfl ?_
                    refine Y_ic_ne (a := z4) (b := 108) (by omega) hk rfl (fun g312 => ?_) (fun g312 => ?_)
                    ·
                      refine E_run hk 1 (j' := 94) (lv' := [(3, yi 0), (2, yi z4), (1, yi (5 * (v 11))), (0, .ref 63)]) (st' := [yi 0]) (hp' := H308) rfl ?_
                      refine Y_if_eq (a := 0) (by omega) hk rfl (fun g313 => ?_) (fun g313 => ?_)
                      ·
                        refine E_run hk 2 (j' := 120) (lv' := [(3, yi 0), (2, yi z4), (1, yi (5 * (v 11))), (0, .ref 63)]) (st' := [.ref 63, .ref 63]) (hp' := H308) rfl ?_
                        refine E_get (v := yi (v 11)) hk rfl e_H308 rfl ?_
                        refine E_run hk 1 (j' := 122) (lv' := [(3, yi 0), (2, yi z4), (1, yi (5 * (v 11))), (0, .ref 63)]) (st' := [.ref 63, yi (v 11), .ref 63]) (hp' := H308) rfl ?_
                        refine E_get (v := yi w_H308) hk rfl e_H308 rfl ?_
                        refine Y_if_eq (a := w_H308) (by omega) hk rfl (fun g314 => ?_) (fun g314 => ?_)
                        ·
                          refine E_run hk 1 (j' := 127) (lv' := [(3, yi 0), (2, yi z4), (1, yi (5 * (v 11))), (0, .ref 63)]) (st' := [yi 0, yi (v 11), .ref 63]) (hp' := H308) rfl ?_
                          refine Y_iadd (a := (v 11)) (b := 0) hk rfl ?_
                          refine Y_put hk rfl e_H308 (by decide) (Nat.le_of_ble_eq_true rfl) rfl (fs' := [yi (v 0), .ref 64, .ref 65, yi (v 3), .ref 66, yi (v 5), .ref 67, yi (v 7), yi ((a_H5 + w_H295) + w_H308), yi w_H308, .ref 68, yi ((v 11) + 0), .ref 69, yi (v 13), .ref 70, .ref 71, .ref 72, .ref 73, .ref 74, .ref 75, yi (v 20), yi (v 21)]) rfl (fun H315 e316 f317 => ?_)
                          exact E_ret hk rfl rfl (by
      have e9 := e316
      rw [show (v 11) + 0 = v 11 + w_H308 by omega] at e9
      exact ⟨rfl, (a_H5 + w_H295) + w_H308, w_H308, 0, up (up (up (up B (5 * (v 11)) z4) ((5 * (v 11)) + 1) (sg X (v 7) a_H5 - 48)) ((5 * (v 11)) + 3) (v 13)) ((5 * (v 11)) + 4) 0, C, Or.inr ⟨by omega, by rw [show (a_H5 + w_H295) + w_H308 = a_H5 by omega]; exact rwd_badp rw_H5 w0⟩, ⟨by omega, by omega⟩, ⟨by omega, by omega, fun _ => by omega⟩, fun x x1 => (by repeat (first | rw [up_self] | rw [up_ne _ _ (by omega)])), fun _ _ => rfl, (by rw [Int.add_zero]; exact e9), (f317.at (by decide) (f_H308.at (by decide) e304)), (f317.at (by decide) (f_H308.at (by decide) (f305.at (by decide) (f302.at (by decide) (f299.at (by decide) (f_H295.at (by decide) (f293.at (by decide) (f_H5.at (by decide) (f3.at (by decide) hC))))))))), (yfr.tr (yfr.tr (yfr.tr (yfr.tr (yfr.tr (yfr.tr (yfr.tr (yfr.tr (f3.mono (by decide)) f_H5 (fun _ h => h) (by decide)) f293 (fun _ h => h) (by decide)) f_H295 (fun _ h => h) (by decide)) f299 (fun _ h => h) (by decide)) f302 (fun _ h => h) (by decide)) f305 (fun _ h => h) (by decide)) f_H308 (fun _ h => h) (by decide)) f317 (fun _ h => h) (by decide))⟩)
                        ·
                          refine E_run hk 2 (j' := 127) (lv' := [(3, yi 0), (2, yi z4), (1, yi (5 * (v 11))), (0, .ref 63)]) (st' := [yi 1, yi (v 11), .ref 63]) (hp' := H308) rfl ?_
                          refine Y_iadd (a := (v 11)) (b := 1) hk rfl ?_
                          refine Y_put hk rfl e_H308 (by decide) (Nat.le_of_ble_eq_true rfl) rfl (fs' := [yi (v 0), .ref 64, .ref 65, yi (v 3), .ref 66, yi (v 5), .ref 67, yi (v 7), yi ((a_H5 + w_H295) + w_H308), yi w_H308, .ref 68, yi ((v 11) + 1), .ref 69, yi (v 13), .ref 70, .ref 71, .ref 72, .ref 73, .ref 74, .ref 75, yi (v 20), yi (v 21)]) rfl (fun H318 e319 f320 => ?_)
                          exact E_ret hk rfl rfl (by exfalso; omega)
                      · exfalso; omega
                    · exfalso; omega
                · exfalso; omega
          · exfalso; omega
        · exfalso; omega
theorem c_partGood {d : Nat} {hp : xH} {v : Nat → Int} (hM : xat hp 63 = some (yMo v)) {X : Int → Int} (hX : xat hp 67 = some (yI 60 X)) (hn : 0 ≤ v 7 ∧ v 7 ≤ 60) (hc : ∀ q, 0 ≤ q → q < v 7 → 33 ≤ X q ∧ X q ≤ 126) (ha : 0 ≤ v 8 ∧ v 8 ≤ v 7) {B C : Int → Int} (hB : xat hp 68 = some (yI 60 B)) (hC : xat hp 69 = some (yI 60 C)) (hm : 0 ≤ v 13 ∧ 2 * v 13 ≤ v 8) (hpn : 0 ≤ v 11 ∧ 6 * v 11 ≤ v 8) (hg : iwd X (v 7) (v 8)) (hd : 4 ≤ d) : Cv d 204 [.ref 63] hp (yR none (fun h => ∃ a2 w2 k b c, ((w2 = 1 ∧ okp X (v 7) (v 8) a2 b c (5 * v 11) (v 13) k) ∨ (w2 = 0 ∧ badp X (v 7) (v 8) a2)) ∧ (0 ≤ k ∧ 2 * k ≤ a2 - v 8) ∧ (v 8 ≤ a2 ∧ a2 ≤ v 7 ∧ (w2 = 1 → v 8 + 5 ≤ a2)) ∧ (∀ x, x < 5 * v 11 → b x = B x) ∧ (∀ x, x < v 13 → c x = C x) ∧ xat h 63 = some (yMo (vup (vup (vup (vup v 9 w2) 8 a2) 13 (v 13 + k)) 11 (v 11 + w2))) ∧ xat h 68 = some (yI 60 b) ∧ xat h 69 = some (yI 60 c) ∧ yfr [63, 68, 69] hp h)) := by
  have hk : xtab 204 = (xc_204, 4, 0, []) := rfl
  obtain ⟨d, rfl⟩ : ∃ e, d = e + 1 := ⟨d - 1, by omega⟩
  show Ev (d + 1) 204 0 [(0, .ref 63)] [] hp _
  refine E_run hk 2 (j' := 2) (lv' := [(0, .ref 63)]) (st' := [.ref 63, yi 5]) (hp' := hp) rfl ?_
  refine E_get (v := yi (v 11)) hk rfl hM rfl ?_
  refine Y_imul (a := 5) (b := (v 11)) hk rfl ?_
  refine E_run hk 3 (j' := 7) (lv' := [(1, yi (5 * (v 11))), (0, .ref 63)]) (st' := [yi 1, .ref 63]) (hp' := hp) rfl ?_
  refine Y_put hk rfl hM (by decide) (Nat.le_of_ble_eq_true rfl) rfl (fs' := [yi (v 0), .ref 64, .ref 65, yi (v 3), .ref 66, yi (v 5), .ref 67, yi (v 7), yi (v 8), yi 1, .ref 68, yi (v 11), .ref 69, yi (v 13), .ref 70, .ref 71, .ref 72, .ref 73, .ref 74, .ref 75, yi (v 20), yi (v 21)]) rfl (fun H1 e2 f3 => ?_)
  refine E_run hk 1 (j' := 9) (lv' := [(1, yi (5 * (v 11))), (0, .ref 63)]) (st' := [.ref 63]) (hp' := H1) rfl ?_
  refine Y_callE hk rfl (as := [.ref 63]) (rest := []) rfl rfl (Nat.le_of_ble_eq_true rfl) (rcv0 e2) (Nat.le_of_ble_eq_true rfl) (c_X9_readsWord (v := (vup v 9 1)) e2 (f3.at (by decide) hX) hn hc (show 0 ≤ v 8 ∧ v 8 ≤ v 7 by omega) (show 1 = 1 by omega) (hd := by omega)) (fun z4 H5 r6 => ?_)
  obtain ⟨zr_H5, a_H5, w_H5, rw0_H5, e0_H5, f_H5⟩ := r6
  have e_H5 : xat H5 63 = some (yMo (vup (vup (vup v 9 1) 9 w_H5) 8 a_H5)) := e0_H5
  have rw_H5 : rwd X (v 7) (v 8) z4 a_H5 w_H5 := rw0_H5
  have kr_H5 := rwd_rng rw_H5
  refine E_run hk 1 (j' := 11) (lv' := [(2, yi z4), (1, yi (5 * (v 11))), (0, .ref 63)]) (st' := []) (hp' := H5) rfl ?_
  have w0 := rwd_good rw_H5 hg
  obtain ⟨o9, oo1, oo2, oo3, oo4⟩ := rwd_o rw_H5 w0
  have oo5 := wln_rng oo1
  rcases (wcd_vals oo1 oo2 : z4 = 115 ∨ z4 = 114 ∨ z4 = 108 ∨ z4 = 119 ∨ z4 = 102 ∨ z4 = 98 ∨ z4 = 104 ∨ z4 = 106) with w7 | w7 | w7 | w7 | w7 | w7 | w7 | w7
  · rw [w7]
    refine E_run hk 2 (j' := 13) (lv' := [(2, yi 115), (1, yi (5 * (v 11))), (0, .ref 63)]) (st' := [yi 98, yi 115]) (hp' := H5) rfl ?_
    refine Y_ic_eq (a := 115) (b := 98) (by omega) hk rfl (fun g8 => ?_) (fun g8 => ?_)
    · exfalso; omega
    ·
      refine E_run hk 2 (j' := 16) (lv' := [(2, yi 115), (1, yi (5 * (v 11))), (0, .ref 63)]) (st' := [yi 104, yi 115]) (hp' := H5) rfl ?_
      refine Y_ic_eq (a := 115) (b := 104) (by omega) hk rfl (fun g9 => ?_) (fun g9 => ?_)
      · exfalso; omega
      ·
        refine E_run hk 2 (j' := 19) (lv' := [(2, yi 115), (1, yi (5 * (v 11))), (0, .ref 63)]) (st' := [yi 106, yi 115]) (hp' := H5) rfl ?_
        refine Y_ic_ne (a := 115) (b := 106) (by omega) hk rfl (fun g10 => ?_) (fun g10 => ?_)
        ·
          refine E_run hk 2 (j' := 24) (lv' := [(3, yi 0), (2, yi 115), (1, yi (5 * (v 11))), (0, .ref 63)]) (st' := []) (hp' := H5) rfl ?_
          refine E_run hk 1 (j' := 25) (lv' := [(3, yi 0), (2, yi 115), (1, yi (5 * (v 11))), (0, .ref 63)]) (st' := [.ref 63]) (hp' := H5) rfl ?_
          refine E_get (v := .ref 68) hk rfl e_H5 rfl ?_
          refine E_run hk 2 (j' := 28) (lv' := [(3, yi 0), (2, yi 115), (1, yi (5 * (v 11))), (0, .ref 63)]) (st' := [yi 115, yi (5 * (v 11)), .ref 68]) (hp' := H5) rfl ?_
          refine Y_iast (a := (5 * (v 11))) (x := 115) (by omega) (by decide) (by decide) hk rfl (f_H5.at (by decide) (f3.at (by decide) hB)) (fun H11 e12 f13 => ?_)
          refine E_run hk 1 (j' := 30) (lv' := [(3, yi 0), (2, yi 115), (1, yi (5 * (v 11))), (0, .ref 63)]) (st' := [.ref 63]) (hp' := H11) rfl ?_
          refine E_get (v := .ref 68) hk rfl (f13.at (by decide) e_H5) rfl ?_
          refine E_run hk 2 (j' := 33) (lv' := [(3, yi 0), (2, yi 115), (1, yi (5 * (v 11))), (0, .ref 63)]) (st' := [yi 1, yi (5 * (v 11)), .ref 68]) (hp' := H11) rfl ?_
          refine Y_iadd (a := (5 * (v 11))) (b := 1) hk rfl ?_
          refine E_run hk 1 (j' := 35) (lv' := [(3, yi 0), (2, yi 115), (1, yi (5 * (v 11))), (0, .ref 63)]) (st' := [yi 0, yi ((5 * (v 11)) + 1), .ref 68]) (hp' := H11) rfl ?_
          refine Y_if_eq (a := 0) (by omega) hk rfl (fun g14 => ?_) (fun g14 => ?_)
          ·
            refine E_run hk 3 (j' := 41) (lv' := [(3, yi 0), (2, yi 115), (1, yi (5 * (v 11))), (0, .ref 63)]) (st' := [yi 49, yi 48, .ref 63, yi ((5 * (v 11)) + 1), .ref 68]) (hp' := H11) rfl ?_
            refine Y_call hk rfl (as := [.ref 63, yi 48, yi 49]) (rest := [yi ((5 * (v 11)) + 1), .ref 68]) (v := some (yi (sg X (v 7) a_H5 - 48))) rfl rfl (Nat.le_of_ble_eq_true rfl) (rcv0 (f13.at (by decide) e_H5)) (Nat.le_of_ble_eq_true rfl) (c_X9_takes (v := (vup (vup (vup v 9 1) 9 w_H5) 8 a_H5)) (f13.at (by decide) e_H5) (f13.at (by decide) (f_H5.at (by decide) (f3.at (by decide) hX))) hn hc (show 0 ≤ a_H5 ∧ a_H5 ≤ v 7 by omega) (show w_H5 = 0 ∨ w_H5 = 1 by omega) (l := 48) (u := 49) (by omega) (hd := by omega)) (fun H15 r16 => ?_)
            obtain ⟨e0_H15, f_H15⟩ := r16
            obtain ⟨w_H15, hq_H15⟩ : ∃ w, b2 (w_H5 = 1 ∧ 48 ≤ sg X (v 7) a_H5 ∧ sg X (v 7) a_H5 ≤ 49) = w := ⟨_, rfl⟩
            have e_H15 : xat H15 63 = some (yMo (vup (vup (vup (vup (vup v 9 1) 9 w_H5) 8 a_H5) 9 w_H15) 8 (a_H5 + w_H15))) := by rw [← hq_H15]; exact e0_H15
            obtain ⟨k1_H15, k2_H15, k3_H15⟩ := tk_step hc (show 0 ≤ a_H5 ∧ a_H5 ≤ v 7 by omega) (show w_H5 = 0 ∨ w_H5 = 1 by omega) (by omega) hq_H15
            refine Y_iast (a := ((5 * (v 11)) + 1)) (x := (sg X (v 7) a_H5 - 48)) (by omega) (by decide) (by decide) hk rfl (f_H15.at (by decide) e12) (fun H17 e18 f19 => ?_)
            refine E_run hk 1 (j' := 44) (lv' := [(3, yi 0), (2, yi 115), (1, yi (5 * (v 11))), (0, .ref 63)]) (st' := [.ref 63]) (hp' := H17) rfl ?_
            refine E_get (v := .ref 68) hk rfl (f19.at (by decide) e_H15) rfl ?_
            refine E_run hk 2 (j' := 47) (lv' := [(3, yi 0), (2, yi 115), (1, yi (5 * (v 11))), (0, .ref 63)]) (st' := [yi 3, yi (5 * (v 11)), .ref 68]) (hp' := H17) rfl ?_
            refine Y_iadd (a := (5 * (v 11))) (b := 3) hk rfl ?_
            refine E_run hk 1 (j' := 49) (lv' := [(3, yi 0), (2, yi 115), (1, yi (5 * (v 11))), (0, .ref 63)]) (st' := [.ref 63, yi ((5 * (v 11)) + 3), .ref 68]) (hp' := H17) rfl ?_
            refine E_get (v := yi (v 13)) hk rfl (f19.at (by decide) e_H15) rfl ?_
            refine Y_iast (a := ((5 * (v 11)) + 3)) (x := (v 13)) (by omega) (by decide) (by decide) hk rfl e18 (fun H20 e21 f22 => ?_)
            refine E_run hk 1 (j' := 52) (lv' := [(3, yi 0), (2, yi 115), (1, yi (5 * (v 11))), (0, .ref 63)]) (st' := [.ref 63]) (hp' := H20) rfl ?_
            refine E_get (v := .ref 68) hk rfl (f22.at (by decide) (f19.at (by decide) e_H15)) rfl ?_
            refine E_run hk 2 (j' := 55) (lv' := [(3, yi 0), (2, yi 115), (1, yi (5 * (v 11))), (0, .ref 63)]) (st' := [yi 4, yi (5 * (v 11)), .ref 68]) (hp' := H20) rfl ?_
            refine Y_iadd (a := (5 * (v 11))) (b := 4) hk rfl ?_
            refine E_run hk 1 (j' := 57) (lv' := [(3, yi 0), (2, yi 115), (1, yi (5 * (v 11))), (0, .ref 63)]) (st' := [yi 0, yi ((5 * (v 11)) + 4), .ref 68]) (hp' := H20) rfl ?_
            refine Y_iast (a := ((5 * (v 11)) + 4)) (x := 0) (by omega) (by decide) (by decide) hk rfl e21 (fun H23 e24 f25 => ?_)
            refine E_run hk 2 (j' := 60) (lv' := [(3, yi 0), (2, yi 115), (1, yi (5 * (v 11))), (0, .ref 63)]) (st' := [yi 119, yi 115]) (hp' := H23) rfl ?_
            refine Y_ic_eq (a := 115) (b := 119) (by omega) hk rfl (fun g26 => ?_) (fun g26 => ?_)
            · exfalso; omega
            ·
              refine E_run hk 2 (j' := 63) (lv' := [(3, yi 0), (2, yi 115), (1, yi (5 * (v 11))), (0, .ref 63)]) (st' := [yi 102, yi 115]) (hp' := H23) rfl ?_
              refine Y_ic_eq (a := 115) (b := 102) (by omega) hk rfl (fun g27 => ?_) (fun g27 => ?_)
              · exfalso; omega
              ·
                refine E_run hk 3 (j' := 67) (lv' := [(3, yi 0), (2, yi 115), (1, yi (5 * (v 11))), (0, .ref 63)]) (st' := [yi 58, yi 58, .ref 63]) (hp' := H23) rfl ?_
                refine Y_call hk rfl (as := [.ref 63, yi 58, yi 58]) (rest := []) (v := some (yi (sg X (v 7) (a_H5 + w_H15) - 48))) rfl rfl (Nat.le_of_ble_eq_true rfl) (rcv0 (f25.at (by decide) (f22.at (by decide) (f19.at (by decide) e_H15)))) (Nat.le_of_ble_eq_true rfl) (c_X9_takes (v := (vup (vup (vup (vup (vup v 9 1) 9 w_H5) 8 a_H5) 9 w_H15) 8 (a_H5 + w_H15))) (f25.at (by decide) (f22.at (by decide) (f19.at (by decide) e_H15))) (f25.at (by decide) (f22.at (by decide) (f19.at (by decide) (f_H15.at (by decide) (f13.at (by decide) (f_H5.at (by decide) (f3.at (by decide) hX))))))) hn hc (show 0 ≤ a_H5 + w_H15 ∧ a_H5 + w_H15 ≤ v 7 by omega) (show w_H15 = 0 ∨ w_H15 = 1 by omega) (l := 58) (u := 58) (by omega) (hd := by omega)) (fun H28 r29 => ?_)
                obtain ⟨e0_H28, f_H28⟩ := r29
                obtain ⟨w_H28, hq_H28⟩ : ∃ w, b2 (w_H15 = 1 ∧ 58 ≤ sg X (v 7) (a_H5 + w_H15) ∧ sg X (v 7) (a_H5 + w_H15) ≤ 58) = w := ⟨_, rfl⟩
                have e_H28 : xat H28 63 = some (yMo (vup (vup (vup (vup (vup (vup (vup v 9 1) 9 w_H5) 8 a_H5) 9 w_H15) 8 (a_H5 + w_H15)) 9 w_H28) 8 ((a_H5 + w_H15) + w_H28))) := by rw [← hq_H28]; exact e0_H28
                obtain ⟨k1_H28, k2_H28, k3_H28⟩ := tk_step hc (show 0 ≤ a_H5 + w_H15 ∧ a_H5 + w_H15 ≤ v 7 by omega) (show w_H15 = 0 ∨ w_H15 = 1 by omega) (by omega) hq_H28
                refine E_run hk 3 (j' := 71) (lv' := [(3, yi 0), (2, yi 115), (1, yi (5 * (v 11))), (0, .ref 63)]) (st' := [yi 115, yi 115]) (hp' := H28) rfl ?_
                refine Y_ic_ne (a := 115) (b := 115) (by omega) hk rfl (fun g30 => ?_) (fun g30 => ?_)
                · exfalso; omega
                ·
                  refine E_run hk 2 (j' := 74) (lv' := [(3, yi 0), (2, yi 115), (1, yi (5 * (v 11))), (0, .ref 63)]) (st' := [yi (5 * (v 11)), .ref 63]) (hp' := H28) rfl ?_
                  refine Y_call hk rfl (as := [.ref 63, yi (5 * (v 11))]) (rest := []) (v := none) rfl rfl (Nat.le_of_ble_eq_true rfl) (rcv0 e_H28) (Nat.le_of_ble_eq_true rfl) (c_X9_readsPitches (v := (vup (vup (vup (vup (vup (vup (vup v 9 1) 9 w_H5) 8 a_H5) 9 w_H15) 8 (a_H5 + w_H15)) 9 w_H28) 8 ((a_H5 + w_H15) + w_H28))) e_H28 (f_H28.at (by decide) (f25.at (by decide) (f22.at (by decide) (f19.at (by decide) (f_H15.at (by decide) (f13.at (by decide) (f_H5.at (by decide) (f3.at (by decide) hX)))))))) hn hc (show 0 ≤ (a_H5 + w_H15) + w_H28 ∧ (a_H5 + w_H15) + w_H28 ≤ v 7 by omega) (f_H28.at (by decide) e24) (f_H28.at (by decide) (f25.at (by decide) (f22.at (by decide) (f19.at (by decide) (f_H15.at (by decide) (f13.at (by decide) (f_H5.at (by decide) (f3.at (by decide) hC)))))))) (show w_H28 = 0 ∨ w_H28 = 1 by omega) (show 0 ≤ v 13 ∧ 2 * (v 13) ≤ (a_H5 + w_H15) + w_H28 by omega) (q := (5 * (v 11))) (by omega) (hd := by omega)) (fun H31 r32 => ?_)
                  obtain ⟨a_H31, w_H31, kk_H31, b_H31, c_H31, pp0_H31, pk_H31, pa0_H31, pb_H31, px_H31, pc0_H31, e0_H31, eb_H31, ec_H31, f_H31⟩ := r32
                  have e_H31 : xat H31 63 = some (yMo (vup (vup (vup (vup (vup (vup (vup (vup (vup (vup v 9 1) 9 w_H5) 8 a_H5) 9 w_H15) 8 (a_H5 + w_H15)) 9 w_H28) 8 ((a_H5 + w_H15) + w_H28)) 9 w_H31) 8 a_H31) 13 ((v 13) + kk_H31))) := e0_H31
                  have pp_H31 : (w_H31 = 1 ∧ w_H28 = 1 ∧ 1 ≤ kk_H31 ∧ pit4 X (v 7) ((a_H5 + w_H15) + w_H28) a_H31 kk_H31 c_H31 (v 13)) ∨ (w_H31 = 0 ∧ (w_H28 = 1 → pit0 X (v 7) ((a_H5 + w_H15) + w_H28) a_H31) ∧ (w_H28 = 0 → a_H31 = (a_H5 + w_H15) + w_H28 ∧ kk_H31 = 0)) := pp0_H31
                  have pa_H31 : (a_H5 + w_H15) + w_H28 ≤ a_H31 ∧ a_H31 ≤ v 7 := pa0_H31
                  have ph_H31 : 2 * kk_H31 ≤ a_H31 - ((a_H5 + w_H15) + w_H28) + 1 := pk_H31.2
                  have pc_H31 : ∀ x, x < v 13 → c_H31 x = C x := pc0_H31
                  have pw_H31 : w_H31 = 0 ∨ w_H31 = 1 := by rcases pp_H31 with ⟨x1, -⟩ | ⟨x1, -⟩; exact Or.inr x1; exact Or.inl x1
                  have pz_H31 : (w_H28 = 0 → a_H31 = (a_H5 + w_H15) + w_H28 ∧ kk_H31 = 0) ∧ (w_H31 = 1 → w_H28 = 1) := by rcases pp_H31 with ⟨x1, x2, -⟩ | ⟨x1, -, x3⟩; exact ⟨fun _ => by omega, fun _ => x2⟩; exact ⟨x3, fun _ => by omega⟩
                  refine E_run hk 3 (j' := 120) (lv' := [(3, yi 0), (2, yi 115), (1, yi (5 * (v 11))), (0, .ref 63)]) (st' := [.ref 63, .ref 63]) (hp' := H31) rfl ?_
                  refine E_get (v := yi (v 11)) hk rfl e_H31 rfl ?_
                  refine E_run hk 1 (j' := 122) (lv' := [(3, yi 0), (2, yi 115), (1, yi (5 * (v 11))), (0, .ref 63)]) (st' := [.ref 63, yi (v 11), .ref 63]) (hp' := H31) rfl ?_
                  refine E_get (v := yi w_H31) hk rfl e_H31 rfl ?_
                  refine Y_if_eq (a := w_H31) (by omega) hk rfl (fun g33 => ?_) (fun g33 => ?_)
                  ·
                    refine E_run hk 1 (j' := 127) (lv' := [(3, yi 0), (2, yi 115), (1, yi (5 * (v 11))), (0, .ref 63)]) (st' := [yi 0, yi (v 11), .ref 63]) (hp' := H31) rfl ?_
                    refine Y_iadd (a := (v 11)) (b := 0) hk rfl ?_
                    refine Y_put hk rfl e_H31 (by decide) (Nat.le_of_ble_eq_true rfl) rfl (fs' := [yi (v 0), .ref 64, .ref 65, yi (v 3), .ref 66, yi (v 5), .ref 67, yi (v 7), yi a_H31, yi w_H31, .ref 68, yi ((v 11) + 0), .ref 69, yi ((v 13) + kk_H31), .ref 70, .ref 71, .ref 72, .ref 73, .ref 74, .ref 75, yi (v 20), yi (v 21)]) rfl (fun H34 e35 f36 => ?_)
                    exact E_ret hk rfl rfl (by
      have e9 := e35
      rw [show (v 11) + 0 = v 11 + w_H31 by omega] at e9
      have q0 : chn X (v 7) (v 8) a_H5 w_H5 (fun s => ⟨0, 1, 0, ((wln 0 : Nat) : Int), s.t, s.A⟩) := ch_word rw_H5 (o := 0) (by decide) ((show z4 = 115 by omega).trans (by decide))
      have b0 : b_H31 (5 * v 11) = 115 := (px_H31 _ (by omega)).trans (by repeat (first | rw [up_self] | rw [up_ne _ _ (by omega)]))
      have q1 : chn X (v 7) (v 8) (a_H5 + w_H15) w_H15 (fun s => ⟨0, 2, 0, ((wln 0 : Nat) : Int), X (a_H5) - 48, s.A⟩) := ch_take (G' := fun x s => ⟨0, 2, 0, ((wln 0 : Nat) : Int), x - 48, s.A⟩) q0 (by omega) (by decide) k3_H15 (fun s x _ x1 x2 => tk1 rfl (by omega)) (fun s x _ x1 => tk1n rfl (by omega)) (fun s _ => by show ¬ ((1 : Int) = 4 ∨ (1 : Int) = 5); decide)
      have b1 : w_H15 = 1 → b_H31 (5 * v 11 + 1) = X (a_H5) - 48 := fun w1 => (show b_H31 (5 * v 11 + 1) = sg X (v 7) (a_H5) - 48 from (px_H31 _ (by omega)).trans (by repeat (first | rw [up_self] | rw [up_ne _ _ (by omega)]))).trans (by rw [sg_in (by omega)])
      have q2 : chn X (v 7) (v 8) (a_H5 + w_H15 + w_H28) w_H28 (fun s => ⟨0, 3, 0, ((wln 0 : Nat) : Int), X (a_H5) - 48, s.A⟩) := ch_take (G' := fun x s => ⟨0, 3, 0, ((wln 0 : Nat) : Int), X (a_H5) - 48, s.A⟩) q1 (by omega) (by decide) k3_H28 (fun s x _ x1 x2 => tk2 rfl (by omega)) (fun s x _ x1 => tk2n rfl (by omega)) (fun s _ => by show ¬ ((2 : Int) = 4 ∨ (2 : Int) = 5); decide)
      have b3 : b_H31 (5 * v 11 + 3) = v 13 := (px_H31 _ (by omega)).trans (by repeat (first | rw [up_self] | rw [up_ne _ _ (by omega)]))
      have b4 : b_H31 (5 * v 11 + 4) = kk_H31 := pb_H31.trans (by rw [up_self, Int.zero_add])
      exact ⟨rfl, a_H31, w_H31, kk_H31, b_H31, c_H31, ch_pit q2 (by omega) pp_H31 (fun s _ => ⟨rfl, rfl, rfl⟩) (fun w1 s hs => ⟨(b0.trans (by decide)), b1 (by omega), b3, b4⟩), ⟨by omega, by omega⟩, ⟨by omega, by omega, fun _ => by omega⟩, fun x x1 => (px_H31 x (by omega)).trans (by repeat (first | rw [up_self] | rw [up_ne _ _ (by omega)])), pc_H31, (by exact e9), (f36.at (by decide) eb_H31), (f36.at (by decide) ec_H31), (yfr.tr (yfr.tr (yfr.tr (yfr.tr (yfr.tr (yfr.tr (yfr.tr (yfr.tr (yfr.tr (f3.mono (by decide)) f_H5 (fun _ h => h) (by decide)) f13 (fun _ h => h) (by decide)) f_H15 (fun _ h => h) (by decide)) f19 (fun _ h => h) (by decide)) f22 (fun _ h => h) (by decide)) f25 (fun _ h => h) (by decide)) f_H28 (fun _ h => h) (by decide)) f_H31 (fun _ h => h) (by decide)) f36 (fun _ h => h) (by decide))⟩)
                  ·
                    refine E_run hk 2 (j' := 127) (lv' := [(3, yi 0), (2, yi 115), (1, yi (5 * (v 11))), (0, .ref 63)]) (st' := [yi 1, yi (v 11), .ref 63]) (hp' := H31) rfl ?_
                    refine Y_iadd (a := (v 11)) (b := 1) hk rfl ?_
                    refine Y_put hk rfl e_H31 (by decide) (Nat.le_of_ble_eq_true rfl) rfl (fs' := [yi (v 0), .ref 64, .ref 65, yi (v 3), .ref 66, yi (v 5), .ref 67, yi (v 7), yi a_H31, yi w_H31, .ref 68, yi ((v 11) + 1), .ref 69, yi ((v 13) + kk_H31), .ref 70, .ref 71, .ref 72, .ref 73, .ref 74, .ref 75, yi (v 20), yi (v 21)]) rfl (fun H37 e38 f39 => ?_)
                    exact E_ret hk rfl rfl (by
      have e9 := e38
      rw [show (v 11) + 1 = v 11 + w_H31 by omega] at e9
      have q0 : chn X (v 7) (v 8) a_H5 w_H5 (fun s => ⟨0, 1, 0, ((wln 0 : Nat) : Int), s.t, s.A⟩) := ch_word rw_H5 (o := 0) (by decide) ((show z4 = 115 by omega).trans (by decide))
      have b0 : b_H31 (5 * v 11) = 115 := (px_H31 _ (by omega)).trans (by repeat (first | rw [up_self] | rw [up_ne _ _ (by omega)]))
      have q1 : chn X (v 7) (v 8) (a_H5 + w_H15) w_H15 (fun s => ⟨0, 2, 0, ((wln 0 : Nat) : Int), X (a_H5) - 48, s.A⟩) := ch_take (G' := fun x s => ⟨0, 2, 0, ((wln 0 : Nat) : Int), x - 48, s.A⟩) q0 (by omega) (by decide) k3_H15 (fun s x _ x1 x2 => tk1 rfl (by omega)) (fun s x _ x1 => tk1n rfl (by omega)) (fun s _ => by show ¬ ((1 : Int) = 4 ∨ (1 : Int) = 5); decide)
      have b1 : w_H15 = 1 → b_H31 (5 * v 11 + 1) = X (a_H5) - 48 := fun w1 => (show b_H31 (5 * v 11 + 1) = sg X (v 7) (a_H5) - 48 from (px_H31 _ (by omega)).trans (by repeat (first | rw [up_self] | rw [up_ne _ _ (by omega)]))).trans (by rw [sg_in (by omega)])
      have q2 : chn X (v 7) (v 8) (a_H5 + w_H15 + w_H28) w_H28 (fun s => ⟨0, 3, 0, ((wln 0 : Nat) : Int), X (a_H5) - 48, s.A⟩) := ch_take (G' := fun x s => ⟨0, 3, 0, ((wln 0 : Nat) : Int), X (a_H5) - 48, s.A⟩) q1 (by omega) (by decide) k3_H28 (fun s x _ x1 x2 => tk2 rfl (by omega)) (fun s x _ x1 => tk2n rfl (by omega)) (fun s _ => by show ¬ ((2 : Int) = 4 ∨ (2 : Int) = 5); decide)
      have b3 : b_H31 (5 * v 11 + 3) = v 13 := (px_H31 _ (by omega)).trans (by repeat (first | rw [up_self] | rw [up_ne _ _ (by omega)]))
      have b4 : b_H31 (5 * v 11 + 4) = kk_H31 := pb_H31.trans (by rw [up_self, Int.zero_add])
      exact ⟨rfl, a_H31, w_H31, kk_H31, b_H31, c_H31, ch_pit q2 (by omega) pp_H31 (fun s _ => ⟨rfl, rfl, rfl⟩) (fun w1 s hs => ⟨(b0.trans (by decide)), b1 (by omega), b3, b4⟩), ⟨by omega, by omega⟩, ⟨by omega, by omega, fun _ => by omega⟩, fun x x1 => (px_H31 x (by omega)).trans (by repeat (first | rw [up_self] | rw [up_ne _ _ (by omega)])), pc_H31, (by exact e9), (f39.at (by decide) eb_H31), (f39.at (by decide) ec_H31), (yfr.tr (yfr.tr (yfr.tr (yfr.tr (yfr.tr (yfr.tr (yfr.tr (yfr.tr (yfr.tr (f3.mono (by decide)) f_H5 (fun _ h => h) (by decide)) f13 (fun _ h => h) (by decide)) f_H15 (fun _ h => h) (by decide)) f19 (fun _ h => h) (by decide)) f22 (fun _ h => h) (by decide)) f25 (fun _ h => h) (by decide)) f_H28 (fun _ h => h) (by decide)) f_H31 (fun _ h => h) (by decide)) f39 (fun _ h => h) (by decide))⟩)
          · exfalso; omega
        · exfalso; omega
  · rw [w7]
    refine E_run hk 2 (j' := 13) (lv' := [(2, yi 114), (1, yi (5 * (v 11))), (0, .ref 63)]) (st' := [yi 98, yi 114]) (hp' := H5) rfl ?_
    refine Y_ic_eq (a := 114) (b := 98) (by omega) hk rfl (fun g40 => ?_) (fun g40 => ?_)
    · exfalso; omega
    ·
      refine E_run hk 2 (j' := 16) (lv' := [(2, yi 114), (1, yi (5 * (v 11))), (0, .ref 63)]) (st' := [yi 104, yi 114]) (hp' := H5) rfl ?_
      refine Y_ic_eq (a := 114) (b := 104) (by omega) hk rfl (fun g41 => ?_) (fun g41 => ?_)
      · exfalso; omega
      ·
        refine E_run hk 2 (j' := 19) (lv' := [(2, yi 114), (1, yi (5 * (v 11))), (0, .ref 63)]) (st' := [yi 106, yi 114]) (hp' := H5) rfl ?_
        refine Y_ic_ne (a := 114) (b := 106) (by omega) hk rfl (fun g42 => ?_) (fun g42 => ?_)
        ·
          refine E_run hk 2 (j' := 24) (lv' := [(3, yi 0), (2, yi 114), (1, yi (5 * (v 11))), (0, .ref 63)]) (st' := []) (hp' := H5) rfl ?_
          refine E_run hk 1 (j' := 25) (lv' := [(3, yi 0), (2, yi 114), (1, yi (5 * (v 11))), (0, .ref 63)]) (st' := [.ref 63]) (hp' := H5) rfl ?_
          refine E_get (v := .ref 68) hk rfl e_H5 rfl ?_
          refine E_run hk 2 (j' := 28) (lv' := [(3, yi 0), (2, yi 114), (1, yi (5 * (v 11))), (0, .ref 63)]) (st' := [yi 114, yi (5 * (v 11)), .ref 68]) (hp' := H5) rfl ?_
          refine Y_iast (a := (5 * (v 11))) (x := 114) (by omega) (by decide) (by decide) hk rfl (f_H5.at (by decide) (f3.at (by decide) hB)) (fun H43 e44 f45 => ?_)
          refine E_run hk 1 (j' := 30) (lv' := [(3, yi 0), (2, yi 114), (1, yi (5 * (v 11))), (0, .ref 63)]) (st' := [.ref 63]) (hp' := H43) rfl ?_
          refine E_get (v := .ref 68) hk rfl (f45.at (by decide) e_H5) rfl ?_
          refine E_run hk 2 (j' := 33) (lv' := [(3, yi 0), (2, yi 114), (1, yi (5 * (v 11))), (0, .ref 63)]) (st' := [yi 1, yi (5 * (v 11)), .ref 68]) (hp' := H43) rfl ?_
          refine Y_iadd (a := (5 * (v 11))) (b := 1) hk rfl ?_
          refine E_run hk 1 (j' := 35) (lv' := [(3, yi 0), (2, yi 114), (1, yi (5 * (v 11))), (0, .ref 63)]) (st' := [yi 0, yi ((5 * (v 11)) + 1), .ref 68]) (hp' := H43) rfl ?_
          refine Y_if_eq (a := 0) (by omega) hk rfl (fun g46 => ?_) (fun g46 => ?_)
          ·
            refine E_run hk 3 (j' := 41) (lv' := [(3, yi 0), (2, yi 114), (1, yi (5 * (v 11))), (0, .ref 63)]) (st' := [yi 49, yi 48, .ref 63, yi ((5 * (v 11)) + 1), .ref 68]) (hp' := H43) rfl ?_
            refine Y_call hk rfl (as := [.ref 63, yi 48, yi 49]) (rest := [yi ((5 * (v 11)) + 1), .ref 68]) (v := some (yi (sg X (v 7) a_H5 - 48))) rfl rfl (Nat.le_of_ble_eq_true rfl) (rcv0 (f45.at (by decide) e_H5)) (Nat.le_of_ble_eq_true rfl) (c_X9_takes (v := (vup (vup (vup v 9 1) 9 w_H5) 8 a_H5)) (f45.at (by decide) e_H5) (f45.at (by decide) (f_H5.at (by decide) (f3.at (by decide) hX))) hn hc (show 0 ≤ a_H5 ∧ a_H5 ≤ v 7 by omega) (show w_H5 = 0 ∨ w_H5 = 1 by omega) (l := 48) (u := 49) (by omega) (hd := by omega)) (fun H47 r48 => ?_)
            obtain ⟨e0_H47, f_H47⟩ := r48
            obtain ⟨w_H47, hq_H47⟩ : ∃ w, b2 (w_H5 = 1 ∧ 48 ≤ sg X (v 7) a_H5 ∧ sg X (v 7) a_H5 ≤ 49) = w := ⟨_, rfl⟩
            have e_H47 : xat H47 63 = some (yMo (vup (vup (vup (vup (vup v 9 1) 9 w_H5) 8 a_H5) 9 w_H47) 8 (a_H5 + w_H47))) := by rw [← hq_H47]; exact e0_H47
            obtain ⟨k1_H47, k2_H47, k3_H47⟩ := tk_step hc (show 0 ≤ a_H5 ∧ a_H5 ≤ v 7 by omega) (show w_H5 = 0 ∨ w_H5 = 1 by omega) (by omega) hq_H47
            refine Y_iast (a := ((5 * (v 11)) + 1)) (x := (sg X (v 7) a_H5 - 48)) (by omega) (by decide) (by decide) hk rfl (f_H47.at (by decide) e44) (fun H49 e50 f51 => ?_)
            refine E_run hk 1 (j' := 44) (lv' := [(3, yi 0), (2, yi 114), (1, yi (5 * (v 11))), (0, .ref 63)]) (st' := [.ref 63]) (hp' := H49) rfl ?_
            refine E_get (v := .ref 68) hk rfl (f51.at (by decide) e_H47) rfl ?_
            refine E_run hk 2 (j' := 47) (lv' := [(3, yi 0), (2, yi 114), (1, yi (5 * (v 11))), (0, .ref 63)]) (st' := [yi 3, yi (5 * (v 11)), .ref 68]) (hp' := H49) rfl ?_
            refine Y_iadd (a := (5 * (v 11))) (b := 3) hk rfl ?_
            refine E_run hk 1 (j' := 49) (lv' := [(3, yi 0), (2, yi 114), (1, yi (5 * (v 11))), (0, .ref 63)]) (st' := [.ref 63, yi ((5 * (v 11)) + 3), .ref 68]) (hp' := H49) rfl ?_
            refine E_get (v := yi (v 13)) hk rfl (f51.at (by decide) e_H47) rfl ?_
            refine Y_iast (a := ((5 * (v 11)) + 3)) (x := (v 13)) (by omega) (by decide) (by decide) hk rfl e50 (fun H52 e53 f54 => ?_)
            refine E_run hk 1 (j' := 52) (lv' := [(3, yi 0), (2, yi 114), (1, yi (5 * (v 11))), (0, .ref 63)]) (st' := [.ref 63]) (hp' := H52) rfl ?_
            refine E_get (v := .ref 68) hk rfl (f54.at (by decide) (f51.at (by decide) e_H47)) rfl ?_
            refine E_run hk 2 (j' := 55) (lv' := [(3, yi 0), (2, yi 114), (1, yi (5 * (v 11))), (0, .ref 63)]) (st' := [yi 4, yi (5 * (v 11)), .ref 68]) (hp' := H52) rfl ?_
            refine Y_iadd (a := (5 * (v 11))) (b := 4) hk rfl ?_
            refine E_run hk 1 (j' := 57) (lv' := [(3, yi 0), (2, yi 114), (1, yi (5 * (v 11))), (0, .ref 63)]) (st' := [yi 0, yi ((5 * (v 11)) + 4), .ref 68]) (hp' := H52) rfl ?_
            refine Y_iast (a := ((5 * (v 11)) + 4)) (x := 0) (by omega) (by decide) (by decide) hk rfl e53 (fun H55 e56 f57 => ?_)
            refine E_run hk 2 (j' := 60) (lv' := [(3, yi 0), (2, yi 114), (1, yi (5 * (v 11))), (0, .ref 63)]) (st' := [yi 119, yi 114]) (hp' := H55) rfl ?_
            refine Y_ic_eq (a := 114) (b := 119) (by omega) hk rfl (fun g58 => ?_) (fun g58 => ?_)
            · exfalso; omega
            ·
              refine E_run hk 2 (j' := 63) (lv' := [(3, yi 0), (2, yi 114), (1, yi (5 * (v 11))), (0, .ref 63)]) (st' := [yi 102, yi 114]) (hp' := H55) rfl ?_
              refine Y_ic_eq (a := 114) (b := 102) (by omega) hk rfl (fun g59 => ?_) (fun g59 => ?_)
              · exfalso; omega
              ·
                refine E_run hk 3 (j' := 67) (lv' := [(3, yi 0), (2, yi 114), (1, yi (5 * (v 11))), (0, .ref 63)]) (st' := [yi 58, yi 58, .ref 63]) (hp' := H55) rfl ?_
                refine Y_call hk rfl (as := [.ref 63, yi 58, yi 58]) (rest := []) (v := some (yi (sg X (v 7) (a_H5 + w_H47) - 48))) rfl rfl (Nat.le_of_ble_eq_true rfl) (rcv0 (f57.at (by decide) (f54.at (by decide) (f51.at (by decide) e_H47)))) (Nat.le_of_ble_eq_true rfl) (c_X9_takes (v := (vup (vup (vup (vup (vup v 9 1) 9 w_H5) 8 a_H5) 9 w_H47) 8 (a_H5 + w_H47))) (f57.at (by decide) (f54.at (by decide) (f51.at (by decide) e_H47))) (f57.at (by decide) (f54.at (by decide) (f51.at (by decide) (f_H47.at (by decide) (f45.at (by decide) (f_H5.at (by decide) (f3.at (by decide) hX))))))) hn hc (show 0 ≤ a_H5 + w_H47 ∧ a_H5 + w_H47 ≤ v 7 by omega) (show w_H47 = 0 ∨ w_H47 = 1 by omega) (l := 58) (u := 58) (by omega) (hd := by omega)) (fun H60 r61 => ?_)
                obtain ⟨e0_H60, f_H60⟩ := r61
                obtain ⟨w_H60, hq_H60⟩ : ∃ w, b2 (w_H47 = 1 ∧ 58 ≤ sg X (v 7) (a_H5 + w_H47) ∧ sg X (v 7) (a_H5 + w_H47) ≤ 58) = w := ⟨_, rfl⟩
                have e_H60 : xat H60 63 = some (yMo (vup (vup (vup (vup (vup (vup (vup v 9 1) 9 w_H5) 8 a_H5) 9 w_H47) 8 (a_H5 + w_H47)) 9 w_H60) 8 ((a_H5 + w_H47) + w_H60))) := by rw [← hq_H60]; exact e0_H60
                obtain ⟨k1_H60, k2_H60, k3_H60⟩ := tk_step hc (show 0 ≤ a_H5 + w_H47 ∧ a_H5 + w_H47 ≤ v 7 by omega) (show w_H47 = 0 ∨ w_H47 = 1 by omega) (by omega) hq_H60
                refine E_run hk 3 (j' := 71) (lv' := [(3, yi 0), (2, yi 114), (1, yi (5 * (v 11))), (0, .ref 63)]) (st' := [yi 115, yi 114]) (hp' := H60) rfl ?_
                refine Y_ic_ne (a := 114) (b := 115) (by omega) hk rfl (fun g62 => ?_) (fun g62 => ?_)
                ·
                  refine E_run hk 2 (j' := 78) (lv' := [(3, yi 0), (2, yi 114), (1, yi (5 * (v 11))), (0, .ref 63)]) (st' := [yi 114, yi 114]) (hp' := H60) rfl ?_
                  refine Y_ic_eq (a := 114) (b := 114) (by omega) hk rfl (fun g63 => ?_) (fun g63 => ?_)
                  ·
                    refine E_run hk 1 (j' := 83) (lv' := [(3, yi 0), (2, yi 114), (1, yi (5 * (v 11))), (0, .ref 63)]) (st' := [.ref 63]) (hp' := H60) rfl ?_
                    refine E_get (v := .ref 68) hk rfl e_H60 rfl ?_
                    refine E_run hk 2 (j' := 86) (lv' := [(3, yi 0), (2, yi 114), (1, yi (5 * (v 11))), (0, .ref 63)]) (st' := [yi 2, yi (5 * (v 11)), .ref 68]) (hp' := H60) rfl ?_
                    refine Y_iadd (a := (5 * (v 11))) (b := 2) hk rfl ?_
                    refine E_run hk 3 (j' := 90) (lv' := [(3, yi 0), (2, yi 114), (1, yi (5 * (v 11))), (0, .ref 63)]) (st' := [yi 12, yi 1, .ref 63, yi ((5 * (v 11)) + 2), .ref 68]) (hp' := H60) rfl ?_
                    refine Y_callE hk rfl (as := [.ref 63, yi 1, yi 12]) (rest := [yi ((5 * (v 11)) + 2), .ref 68]) rfl rfl (Nat.le_of_ble_eq_true rfl) (rcv0 e_H60) (Nat.le_of_ble_eq_true rfl) (c_X9_number (v := (vup (vup (vup (vup (vup (vup (vup v 9 1) 9 w_H5) 8 a_H5) 9 w_H47) 8 (a_H5 + w_H47)) 9 w_H60) 8 ((a_H5 + w_H47) + w_H60))) e_H60 (f_H60.at (by decide) (f57.at (by decide) (f54.at (by decide) (f51.at (by decide) (f_H47.at (by decide) (f45.at (by decide) (f_H5.at (by decide) (f3.at (by decide) hX)))))))) hn hc (show 0 ≤ (a_H5 + w_H47) + w_H60 ∧ (a_H5 + w_H47) + w_H60 ≤ v 7 by omega) (show w_H60 = 0 ∨ w_H60 = 1 by omega) (l := 1) (u := 12) (by omega) (by omega) (hd := by omega)) (fun z64 H65 r66 => ?_)
                    obtain ⟨a_H65, w_H65, nm_H65, no_H65, zr_H65, e0_H65, f_H65⟩ := r66
                    have e_H65 : xat H65 63 = some (yMo (vup (vup (vup (vup (vup (vup (vup (vup (vup v 9 1) 9 w_H5) 8 a_H5) 9 w_H47) 8 (a_H5 + w_H47)) 9 w_H60) 8 ((a_H5 + w_H47) + w_H60)) 9 w_H65) 8 a_H65)) := e0_H65
                    have nm1_H65 : w_H60 = 1 → nmb X (v 7) 1 12 ((a_H5 + w_H47) + w_H60) z64 a_H65 w_H65 := nm_H65
                    have no1_H65 : w_H60 = 0 → w_H65 = 0 ∧ a_H65 = (a_H5 + w_H47) + w_H60 := no_H65
                    have k_H65 : (w_H65 = 0 ∧ a_H65 = (a_H5 + w_H47) + w_H60) ∨ (w_H65 = 1 ∧ w_H60 = 1 ∧ (a_H5 + w_H47) + w_H60 < a_H65 ∧ a_H65 ≤ v 7 ∧ 0 ≤ z64 ∧ z64 ≤ 12) := by rcases (show w_H60 = 0 ∨ w_H60 = 1 by omega) with x9 | x9; exact Or.inl (no1_H65 x9); rcases nm1_H65 x9 with ⟨x1, x2, -⟩ | ⟨x1, x2, x3, x4, x5, -⟩; exact Or.inl ⟨x1, x2⟩; exact Or.inr ⟨x1, x9, x2, x3, x4, x5⟩
                    refine Y_iast (a := ((5 * (v 11)) + 2)) (x := z64) (by omega) (by decide) (by decide) hk rfl (f_H65.at (by decide) (f_H60.at (by decide) e56)) (fun H67 e68 f69 => ?_)
                    refine E_run hk 3 (j' := 120) (lv' := [(3, yi 0), (2, yi 114), (1, yi (5 * (v 11))), (0, .ref 63)]) (st' := [.ref 63, .ref 63]) (hp' := H67) rfl ?_
                    refine E_get (v := yi (v 11)) hk rfl (f69.at (by decide) e_H65) rfl ?_
                    refine E_run hk 1 (j' := 122) (lv' := [(3, yi 0), (2, yi 114), (1, yi (5 * (v 11))), (0, .ref 63)]) (st' := [.ref 63, yi (v 11), .ref 63]) (hp' := H67) rfl ?_
                    refine E_get (v := yi w_H65) hk rfl (f69.at (by decide) e_H65) rfl ?_
                    refine Y_if_eq (a := w_H65) (by omega) hk rfl (fun g70 => ?_) (fun g70 => ?_)
                    ·
                      refine E_run hk 1 (j' := 127) (lv' := [(3, yi 0), (2, yi 114), (1, yi (5 * (v 11))), (0, .ref 63)]) (st' := [yi 0, yi (v 11), .ref 63]) (hp' := H67) rfl ?_
                      refine Y_iadd (a := (v 11)) (b := 0) hk rfl ?_
                      refine Y_put hk rfl (f69.at (by decide) e_H65) (by decide) (Nat.le_of_ble_eq_true rfl) rfl (fs' := [yi (v 0), .ref 64, .ref 65, yi (v 3), .ref 66, yi (v 5), .ref 67, yi (v 7), yi a_H65, yi w_H65, .ref 68, yi ((v 11) + 0), .ref 69, yi (v 13), .ref 70, .ref 71, .ref 72, .ref 73, .ref 74, .ref 75, yi (v 20), yi (v 21)]) rfl (fun H71 e72 f73 => ?_)
                      exact E_ret hk rfl rfl (by
      have e9 := e72
      rw [show (v 11) + 0 = v 11 + w_H65 by omega] at e9
      have q0 : chn X (v 7) (v 8) a_H5 w_H5 (fun s => ⟨0, 1, 1, ((wln 1 : Nat) : Int), s.t, s.A⟩) := ch_word rw_H5 (o := 1) (by decide) ((show z4 = 114 by omega).trans (by decide))
      have b0 : (up (up (up (up (up B (5 * (v 11)) 114) ((5 * (v 11)) + 1) (sg X (v 7) a_H5 - 48)) ((5 * (v 11)) + 3) (v 13)) ((5 * (v 11)) + 4) 0) ((5 * (v 11)) + 2) z64) (5 * v 11) = 114 := (by repeat (first | rw [up_self] | rw [up_ne _ _ (by omega)]))
      have q1 : chn X (v 7) (v 8) (a_H5 + w_H47) w_H47 (fun s => ⟨0, 2, 1, ((wln 1 : Nat) : Int), X (a_H5) - 48, s.A⟩) := ch_take (G' := fun x s => ⟨0, 2, 1, ((wln 1 : Nat) : Int), x - 48, s.A⟩) q0 (by omega) (by decide) k3_H47 (fun s x _ x1 x2 => tk1 rfl (by omega)) (fun s x _ x1 => tk1n rfl (by omega)) (fun s _ => by show ¬ ((1 : Int) = 4 ∨ (1 : Int) = 5); decide)
      have b1 : w_H47 = 1 → (up (up (up (up (up B (5 * (v 11)) 114) ((5 * (v 11)) + 1) (sg X (v 7) a_H5 - 48)) ((5 * (v 11)) + 3) (v 13)) ((5 * (v 11)) + 4) 0) ((5 * (v 11)) + 2) z64) (5 * v 11 + 1) = X (a_H5) - 48 := fun w1 => (show (up (up (up (up (up B (5 * (v 11)) 114) ((5 * (v 11)) + 1) (sg X (v 7) a_H5 - 48)) ((5 * (v 11)) + 3) (v 13)) ((5 * (v 11)) + 4) 0) ((5 * (v 11)) + 2) z64) (5 * v 11 + 1) = sg X (v 7) (a_H5) - 48 from (by repeat (first | rw [up_self] | rw [up_ne _ _ (by omega)]))).trans (by rw [sg_in (by omega)])
      have q2 : chn X (v 7) (v 8) (a_H5 + w_H47 + w_H60) w_H60 (fun s => ⟨0, 3, 1, ((wln 1 : Nat) : Int), X (a_H5) - 48, s.A⟩) := ch_take (G' := fun x s => ⟨0, 3, 1, ((wln 1 : Nat) : Int), X (a_H5) - 48, s.A⟩) q1 (by omega) (by decide) k3_H60 (fun s x _ x1 x2 => tk2 rfl (by omega)) (fun s x _ x1 => tk2n rfl (by omega)) (fun s _ => by show ¬ ((2 : Int) = 4 ∨ (2 : Int) = 5); decide)
      obtain ⟨qn, qd⟩ := ch_num q2 (by omega) nm1_H65 no1_H65 (fun s _ => (⟨rfl, rfl, rfl, Int.le_refl 0, by show (0 : Int) < 30; decide⟩ : nps 1 12 (⟨0, 3, 1, ((wln 1 : Nat) : Int), X (a_H5) - 48, s.A⟩ : rS)))
      have b2 : (up (up (up (up (up B (5 * (v 11)) 114) ((5 * (v 11)) + 1) (sg X (v 7) a_H5 - 48)) ((5 * (v 11)) + 3) (v 13)) ((5 * (v 11)) + 4) 0) ((5 * (v 11)) + 2) z64) (5 * v 11 + 2) = z64 := (by repeat (first | rw [up_self] | rw [up_ne _ _ (by omega)]))
      have ln : ∀ s : rS, lnm (up s.A 0 z64) (0 + 1) = z64 := fun s => lnm_up (c := 0) ⟨Int.le_refl 0, by decide⟩
      exact ⟨rfl, a_H65, w_H65, 0, up (up (up (up (up B (5 * (v 11)) 114) ((5 * (v 11)) + 1) (sg X (v 7) a_H5 - 48)) ((5 * (v 11)) + 3) (v 13)) ((5 * (v 11)) + 4) 0) ((5 * (v 11)) + 2) z64, C, ch_end4 (o := 1) (by decide) (by decide) qn (fun w1 s hs w2 => by show ¬ dig2 (0 + 1) 1 (lnm (up s.A 0 z64) (0 + 1)) _; rw [ln s]; exact (qd w1).2.2.2.2 s hs w2) (fun w1 s hs => ⟨rfl, rfl, (b0.trans (by decide)), (fun _ => b1 (by omega)), (fun _ => b2.trans (ln s).symm), (fun x1 => absurd x1 (by decide))⟩), ⟨by omega, by omega⟩, ⟨by omega, by omega, fun _ => by omega⟩, fun x x1 => (by repeat (first | rw [up_self] | rw [up_ne _ _ (by omega)])), fun _ _ => rfl, (by rw [Int.add_zero]; exact e9), (f73.at (by decide) e68), (f73.at (by decide) (f69.at (by decide) (f_H65.at (by decide) (f_H60.at (by decide) (f57.at (by decide) (f54.at (by decide) (f51.at (by decide) (f_H47.at (by decide) (f45.at (by decide) (f_H5.at (by decide) (f3.at (by decide) hC))))))))))), (yfr.tr (yfr.tr (yfr.tr (yfr.tr (yfr.tr (yfr.tr (yfr.tr (yfr.tr (yfr.tr (yfr.tr (f3.mono (by decide)) f_H5 (fun _ h => h) (by decide)) f45 (fun _ h => h) (by decide)) f_H47 (fun _ h => h) (by decide)) f51 (fun _ h => h) (by decide)) f54 (fun _ h => h) (by decide)) f57 (fun _ h => h) (by decide)) f_H60 (fun _ h => h) (by decide)) f_H65 (fun _ h => h) (by decide)) f69 (fun _ h => h) (by decide)) f73 (fun _ h => h) (by decide))⟩)
                    ·
                      refine E_run hk 2 (j' := 127) (lv' := [(3, yi 0), (2, yi 114), (1, yi (5 * (v 11))), (0, .ref 63)]) (st' := [yi 1, yi (v 11), .ref 63]) (hp' := H67) rfl ?_
                      refine Y_iadd (a := (v 11)) (b := 1) hk rfl ?_
                      refine Y_put hk rfl (f69.at (by decide) e_H65) (by decide) (Nat.le_of_ble_eq_true rfl) rfl (fs' := [yi (v 0), .ref 64, .ref 65, yi (v 3), .ref 66, yi (v 5), .ref 67, yi (v 7), yi a_H65, yi w_H65, .ref 68, yi ((v 11) + 1), .ref 69, yi (v 13), .ref 70, .ref 71, .ref 72, .ref 73, .ref 74, .ref 75, yi (v 20), yi (v 21)]) rfl (fun H74 e75 f76 => ?_)
                      exact E_ret hk rfl rfl (by
      have e9 := e75
      rw [show (v 11) + 1 = v 11 + w_H65 by omega] at e9
      have q0 : chn X (v 7) (v 8) a_H5 w_H5 (fun s => ⟨0, 1, 1, ((wln 1 : Nat) : Int), s.t, s.A⟩) := ch_word rw_H5 (o := 1) (by decide) ((show z4 = 114 by omega).trans (by decide))
      have b0 : (up (up (up (up (up B (5 * (v 11)) 114) ((5 * (v 11)) + 1) (sg X (v 7) a_H5 - 48)) ((5 * (v 11)) + 3) (v 13)) ((5 * (v 11)) + 4) 0) ((5 * (v 11)) + 2) z64) (5 * v 11) = 114 := (by repeat (first | rw [up_self] | rw [up_ne _ _ (by omega)]))
      have q1 : chn X (v 7) (v 8) (a_H5 + w_H47) w_H47 (fun s => ⟨0, 2, 1, ((wln 1 : Nat) : Int), X (a_H5) - 48, s.A⟩) := ch_take (G' := fun x s => ⟨0, 2, 1, ((wln 1 : Nat) : Int), x - 48, s.A⟩) q0 (by omega) (by decide) k3_H47 (fun s x _ x1 x2 => tk1 rfl (by omega)) (fun s x _ x1 => tk1n rfl (by omega)) (fun s _ => by show ¬ ((1 : Int) = 4 ∨ (1 : Int) = 5); decide)
      have b1 : w_H47 = 1 → (up (up (up (up (up B (5 * (v 11)) 114) ((5 * (v 11)) + 1) (sg X (v 7) a_H5 - 48)) ((5 * (v 11)) + 3) (v 13)) ((5 * (v 11)) + 4) 0) ((5 * (v 11)) + 2) z64) (5 * v 11 + 1) = X (a_H5) - 48 := fun w1 => (show (up (up (up (up (up B (5 * (v 11)) 114) ((5 * (v 11)) + 1) (sg X (v 7) a_H5 - 48)) ((5 * (v 11)) + 3) (v 13)) ((5 * (v 11)) + 4) 0) ((5 * (v 11)) + 2) z64) (5 * v 11 + 1) = sg X (v 7) (a_H5) - 48 from (by repeat (first | rw [up_self] | rw [up_ne _ _ (by omega)]))).trans (by rw [sg_in (by omega)])
      have q2 : chn X (v 7) (v 8) (a_H5 + w_H47 + w_H60) w_H60 (fun s => ⟨0, 3, 1, ((wln 1 : Nat) : Int), X (a_H5) - 48, s.A⟩) := ch_take (G' := fun x s => ⟨0, 3, 1, ((wln 1 : Nat) : Int), X (a_H5) - 48, s.A⟩) q1 (by omega) (by decide) k3_H60 (fun s x _ x1 x2 => tk2 rfl (by omega)) (fun s x _ x1 => tk2n rfl (by omega)) (fun s _ => by show ¬ ((2 : Int) = 4 ∨ (2 : Int) = 5); decide)
      obtain ⟨qn, qd⟩ := ch_num q2 (by omega) nm1_H65 no1_H65 (fun s _ => (⟨rfl, rfl, rfl, Int.le_refl 0, by show (0 : Int) < 30; decide⟩ : nps 1 12 (⟨0, 3, 1, ((wln 1 : Nat) : Int), X (a_H5) - 48, s.A⟩ : rS)))
      have b2 : (up (up (up (up (up B (5 * (v 11)) 114) ((5 * (v 11)) + 1) (sg X (v 7) a_H5 - 48)) ((5 * (v 11)) + 3) (v 13)) ((5 * (v 11)) + 4) 0) ((5 * (v 11)) + 2) z64) (5 * v 11 + 2) = z64 := (by repeat (first | rw [up_self] | rw [up_ne _ _ (by omega)]))
      have ln : ∀ s : rS, lnm (up s.A 0 z64) (0 + 1) = z64 := fun s => lnm_up (c := 0) ⟨Int.le_refl 0, by decide⟩
      exact ⟨rfl, a_H65, w_H65, 0, up (up (up (up (up B (5 * (v 11)) 114) ((5 * (v 11)) + 1) (sg X (v 7) a_H5 - 48)) ((5 * (v 11)) + 3) (v 13)) ((5 * (v 11)) + 4) 0) ((5 * (v 11)) + 2) z64, C, ch_end4 (o := 1) (by decide) (by decide) qn (fun w1 s hs w2 => by show ¬ dig2 (0 + 1) 1 (lnm (up s.A 0 z64) (0 + 1)) _; rw [ln s]; exact (qd w1).2.2.2.2 s hs w2) (fun w1 s hs => ⟨rfl, rfl, (b0.trans (by decide)), (fun _ => b1 (by omega)), (fun _ => b2.trans (ln s).symm), (fun x1 => absurd x1 (by decide))⟩), ⟨by omega, by omega⟩, ⟨by omega, by omega, fun _ => by omega⟩, fun x x1 => (by repeat (first | rw [up_self] | rw [up_ne _ _ (by omega)])), fun _ _ => rfl, (by rw [Int.add_zero]; exact e9), (f76.at (by decide) e68), (f76.at (by decide) (f69.at (by decide) (f_H65.at (by decide) (f_H60.at (by decide) (f57.at (by decide) (f54.at (by decide) (f51.at (by decide) (f_H47.at (by decide) (f45.at (by decide) (f_H5.at (by decide) (f3.at (by decide) hC))))))))))), (yfr.tr (yfr.tr (yfr.tr (yfr.tr (yfr.tr (yfr.tr (yfr.tr (yfr.tr (yfr.tr (yfr.tr (f3.mono (by decide)) f_H5 (fun _ h => h) (by decide)) f45 (fun _ h => h) (by decide)) f_H47 (fun _ h => h) (by decide)) f51 (fun _ h => h) (by decide)) f54 (fun _ h => h) (by decide)) f57 (fun _ h => h) (by decide)) f_H60 (fun _ h => h) (by decide)) f_H65 (fun _ h => h) (by decide)) f69 (fun _ h => h) (by decide)) f76 (fun _ h => h) (by decide))⟩)
                  · exfalso; omega
                · exfalso; omega
          · exfalso; omega
        · exfalso; omega
  · rw [w7]
    refine E_run hk 2 (j' := 13) (lv' := [(2, yi 108), (1, yi (5 * (v 11))), (0, .ref 63)]) (st' := [yi 98, yi 108]) (hp' := H5) rfl ?_
    refine Y_ic_eq (a := 108) (b := 98) (by omega) hk rfl (fun g77 => ?_) (fun g77 => ?_)
    · exfalso; omega
    ·
      refine E_run hk 2 (j' := 16) (lv' := [(2, yi 108), (1, yi (5 * (v 11))), (0, .ref 63)]) (st' := [yi 104, yi 108]) (hp' := H5) rfl ?_
      refine Y_ic_eq (a := 108) (b := 104) (by omega) hk rfl (fun g78 => ?_) (fun g78 => ?_)
      · exfalso; omega
      ·
        refine E_run hk 2 (j' := 19) (lv' := [(2, yi 108), (1, yi (5 * (v 11))), (0, .ref 63)]) (st' := [yi 106, yi 108]) (hp' := H5) rfl ?_
        refine Y_ic_ne (a := 108) (b := 106) (by omega) hk rfl (fun g79 => ?_) (fun g79 => ?_)
        ·
          refine E_run hk 2 (j' := 24) (lv' := [(3, yi 0), (2, yi 108), (1, yi (5 * (v 11))), (0, .ref 63)]) (st' := []) (hp' := H5) rfl ?_
          refine E_run hk 1 (j' := 25) (lv' := [(3, yi 0), (2, yi 108), (1, yi (5 * (v 11))), (0, .ref 63)]) (st' := [.ref 63]) (hp' := H5) rfl ?_
          refine E_get (v := .ref 68) hk rfl e_H5 rfl ?_
          refine E_run hk 2 (j' := 28) (lv' := [(3, yi 0), (2, yi 108), (1, yi (5 * (v 11))), (0, .ref 63)]) (st' := [yi 108, yi (5 * (v 11)), .ref 68]) (hp' := H5) rfl ?_
          refine Y_iast (a := (5 * (v 11))) (x := 108) (by omega) (by decide) (by decide) hk rfl (f_H5.at (by decide) (f3.at (by decide) hB)) (fun H80 e81 f82 => ?_)
          refine E_run hk 1 (j' := 30) (lv' := [(3, yi 0), (2, yi 108), (1, yi (5 * (v 11))), (0, .ref 63)]) (st' := [.ref 63]) (hp' := H80) rfl ?_
          refine E_get (v := .ref 68) hk rfl (f82.at (by decide) e_H5) rfl ?_
          refine E_run hk 2 (j' := 33) (lv' := [(3, yi 0), (2, yi 108), (1, yi (5 * (v 11))), (0, .ref 63)]) (st' := [yi 1, yi (5 * (v 11)), .ref 68]) (hp' := H80) rfl ?_
          refine Y_iadd (a := (5 * (v 11))) (b := 1) hk rfl ?_
          refine E_run hk 1 (j' := 35) (lv' := [(3, yi 0), (2, yi 108), (1, yi (5 * (v 11))), (0, .ref 63)]) (st' := [yi 0, yi ((5 * (v 11)) + 1), .ref 68]) (hp' := H80) rfl ?_
          refine Y_if_eq (a := 0) (by omega) hk rfl (fun g83 => ?_) (fun g83 => ?_)
          ·
            refine E_run hk 3 (j' := 41) (lv' := [(3, yi 0), (2, yi 108), (1, yi (5 * (v 11))), (0, .ref 63)]) (st' := [yi 49, yi 48, .ref 63, yi ((5 * (v 11)) + 1), .ref 68]) (hp' := H80) rfl ?_
            refine Y_call hk rfl (as := [.ref 63, yi 48, yi 49]) (rest := [yi ((5 * (v 11)) + 1), .ref 68]) (v := some (yi (sg X (v 7) a_H5 - 48))) rfl rfl (Nat.le_of_ble_eq_true rfl) (rcv0 (f82.at (by decide) e_H5)) (Nat.le_of_ble_eq_true rfl) (c_X9_takes (v := (vup (vup (vup v 9 1) 9 w_H5) 8 a_H5)) (f82.at (by decide) e_H5) (f82.at (by decide) (f_H5.at (by decide) (f3.at (by decide) hX))) hn hc (show 0 ≤ a_H5 ∧ a_H5 ≤ v 7 by omega) (show w_H5 = 0 ∨ w_H5 = 1 by omega) (l := 48) (u := 49) (by omega) (hd := by omega)) (fun H84 r85 => ?_)
            obtain ⟨e0_H84, f_H84⟩ := r85
            obtain ⟨w_H84, hq_H84⟩ : ∃ w, b2 (w_H5 = 1 ∧ 48 ≤ sg X (v 7) a_H5 ∧ sg X (v 7) a_H5 ≤ 49) = w := ⟨_, rfl⟩
            have e_H84 : xat H84 63 = some (yMo (vup (vup (vup (vup (vup v 9 1) 9 w_H5) 8 a_H5) 9 w_H84) 8 (a_H5 + w_H84))) := by rw [← hq_H84]; exact e0_H84
            obtain ⟨k1_H84, k2_H84, k3_H84⟩ := tk_step hc (show 0 ≤ a_H5 ∧ a_H5 ≤ v 7 by omega) (show w_H5 = 0 ∨ w_H5 = 1 by omega) (by omega) hq_H84
            refine Y_iast (a := ((5 * (v 11)) + 1)) (x := (sg X (v 7) a_H5 - 48)) (by omega) (by decide) (by decide) hk rfl (f_H84.at (by decide) e81) (fun H86 e87 f88 => ?_)
            refine E_run hk 1 (j' := 44) (lv' := [(3, yi 0), (2, yi 108), (1, yi (5 * (v 11))), (0, .ref 63)]) (st' := [.ref 63]) (hp' := H86) rfl ?_
            refine E_get (v := .ref 68) hk rfl (f88.at (by decide) e_H84) rfl ?_
            refine E_run hk 2 (j' := 47) (lv' := [(3, yi 0), (2, yi 108), (1, yi (5 * (v 11))), (0, .ref 63)]) (st' := [yi 3, yi (5 * (v 11)), .ref 68]) (hp' := H86) rfl ?_
            refine Y_iadd (a := (5 * (v 11))) (b := 3) hk rfl ?_
            refine E_run hk 1 (j' := 49) (lv' := [(3, yi 0), (2, yi 108), (1, yi (5 * (v 11))), (0, .ref 63)]) (st' := [.ref 63, yi ((5 * (v 11)) + 3), .ref 68]) (hp' := H86) rfl ?_
            refine E_get (v := yi (v 13)) hk rfl (f88.at (by decide) e_H84) rfl ?_
            refine Y_iast (a := ((5 * (v 11)) + 3)) (x := (v 13)) (by omega) (by decide) (by decide) hk rfl e87 (fun H89 e90 f91 => ?_)
            refine E_run hk 1 (j' := 52) (lv' := [(3, yi 0), (2, yi 108), (1, yi (5 * (v 11))), (0, .ref 63)]) (st' := [.ref 63]) (hp' := H89) rfl ?_
            refine E_get (v := .ref 68) hk rfl (f91.at (by decide) (f88.at (by decide) e_H84)) rfl ?_
            refine E_run hk 2 (j' := 55) (lv' := [(3, yi 0), (2, yi 108), (1, yi (5 * (v 11))), (0, .ref 63)]) (st' := [yi 4, yi (5 * (v 11)), .ref 68]) (hp' := H89) rfl ?_
            refine Y_iadd (a := (5 * (v 11))) (b := 4) hk rfl ?_
            refine E_run hk 1 (j' := 57) (lv' := [(3, yi 0), (2, yi 108), (1, yi (5 * (v 11))), (0, .ref 63)]) (st' := [yi 0, yi ((5 * (v 11)) + 4), .ref 68]) (hp' := H89) rfl ?_
            refine Y_iast (a := ((5 * (v 11)) + 4)) (x := 0) (by omega) (by decide) (by decide) hk rfl e90 (fun H92 e93 f94 => ?_)
            refine E_run hk 2 (j' := 60) (lv' := [(3, yi 0), (2, yi 108), (1, yi (5 * (v 11))), (0, .ref 63)]) (st' := [yi 119, yi 108]) (hp' := H92) rfl ?_
            refine Y_ic_eq (a := 108) (b := 119) (by omega) hk rfl (fun g95 => ?_) (fun g95 => ?_)
            · exfalso; omega
            ·
              refine E_run hk 2 (j' := 63) (lv' := [(3, yi 0), (2, yi 108), (1, yi (5 * (v 11))), (0, .ref 63)]) (st' := [yi 102, yi 108]) (hp' := H92) rfl ?_
              refine Y_ic_eq (a := 108) (b := 102) (by omega) hk rfl (fun g96 => ?_) (fun g96 => ?_)
              · exfalso; omega
              ·
                refine E_run hk 3 (j' := 67) (lv' := [(3, yi 0), (2, yi 108), (1, yi (5 * (v 11))), (0, .ref 63)]) (st' := [yi 58, yi 58, .ref 63]) (hp' := H92) rfl ?_
                refine Y_call hk rfl (as := [.ref 63, yi 58, yi 58]) (rest := []) (v := some (yi (sg X (v 7) (a_H5 + w_H84) - 48))) rfl rfl (Nat.le_of_ble_eq_true rfl) (rcv0 (f94.at (by decide) (f91.at (by decide) (f88.at (by decide) e_H84)))) (Nat.le_of_ble_eq_true rfl) (c_X9_takes (v := (vup (vup (vup (vup (vup v 9 1) 9 w_H5) 8 a_H5) 9 w_H84) 8 (a_H5 + w_H84))) (f94.at (by decide) (f91.at (by decide) (f88.at (by decide) e_H84))) (f94.at (by decide) (f91.at (by decide) (f88.at (by decide) (f_H84.at (by decide) (f82.at (by decide) (f_H5.at (by decide) (f3.at (by decide) hX))))))) hn hc (show 0 ≤ a_H5 + w_H84 ∧ a_H5 + w_H84 ≤ v 7 by omega) (show w_H84 = 0 ∨ w_H84 = 1 by omega) (l := 58) (u := 58) (by omega) (hd := by omega)) (fun H97 r98 => ?_)
                obtain ⟨e0_H97, f_H97⟩ := r98
                obtain ⟨w_H97, hq_H97⟩ : ∃ w, b2 (w_H84 = 1 ∧ 58 ≤ sg X (v 7) (a_H5 + w_H84) ∧ sg X (v 7) (a_H5 + w_H84) ≤ 58) = w := ⟨_, rfl⟩
                have e_H97 : xat H97 63 = some (yMo (vup (vup (vup (vup (vup (vup (vup v 9 1) 9 w_H5) 8 a_H5) 9 w_H84) 8 (a_H5 + w_H84)) 9 w_H97) 8 ((a_H5 + w_H84) + w_H97))) := by rw [← hq_H97]; exact e0_H97
                obtain ⟨k1_H97, k2_H97, k3_H97⟩ := tk_step hc (show 0 ≤ a_H5 + w_H84 ∧ a_H5 + w_H84 ≤ v 7 by omega) (show w_H84 = 0 ∨ w_H84 = 1 by omega) (by omega) hq_H97
                refine E_run hk 3 (j' := 71) (lv' := [(3, yi 0), (2, yi 108), (1, yi (5 * (v 11))), (0, .ref 63)]) (st' := [yi 115, yi 108]) (hp' := H97) rfl ?_
                refine Y_ic_ne (a := 108) (b := 115) (by omega) hk rfl (fun g99 => ?_) (fun g99 => ?_)
                ·
                  refine E_run hk 2 (j' := 78) (lv' := [(3, yi 0), (2, yi 108), (1, yi (5 * (v 11))), (0, .ref 63)]) (st' := [yi 114, yi 108]) (hp' := H97) rfl ?_
                  refine Y_ic_eq (a := 108) (b := 114) (by omega) hk rfl (fun g100 => ?_) (fun g100 => ?_)
                  · exfalso; omega
                  ·
                    refine E_run hk 2 (j' := 81) (lv' := [(3, yi 0), (2, yi 108), (1, yi (5 * (v 11))), (0, .ref 63)]) (st' := [yi 108, yi 108]) (hp' := H97) rfl ?_
                    refine Y_ic_ne (a := 108) (b := 108) (by omega) hk rfl (fun g101 => ?_) (fun g101 => ?_)
                    · exfalso; omega
                    ·
                      refine E_run hk 1 (j' := 83) (lv' := [(3, yi 0), (2, yi 108), (1, yi (5 * (v 11))), (0, .ref 63)]) (st' := [.ref 63]) (hp' := H97) rfl ?_
                      refine E_get (v := .ref 68) hk rfl e_H97 rfl ?_
                      refine E_run hk 2 (j' := 86) (lv' := [(3, yi 0), (2, yi 108), (1, yi (5 * (v 11))), (0, .ref 63)]) (st' := [yi 2, yi (5 * (v 11)), .ref 68]) (hp' := H97) rfl ?_
                      refine Y_iadd (a := (5 * (v 11))) (b := 2) hk rfl ?_
                      refine E_run hk 3 (j' := 90) (lv' := [(3, yi 0), (2, yi 108), (1, yi (5 * (v 11))), (0, .ref 63)]) (st' := [yi 12, yi 1, .ref 63, yi ((5 * (v 11)) + 2), .ref 68]) (hp' := H97) rfl ?_
                      refine Y_callE hk rfl (as := [.ref 63, yi 1, yi 12]) (rest := [yi ((5 * (v 11)) + 2), .ref 68]) rfl rfl (Nat.le_of_ble_eq_true rfl) (rcv0 e_H97) (Nat.le_of_ble_eq_true rfl) (c_X9_number (v := (vup (vup (vup (vup (vup (vup (vup v 9 1) 9 w_H5) 8 a_H5) 9 w_H84) 8 (a_H5 + w_H84)) 9 w_H97) 8 ((a_H5 + w_H84) + w_H97))) e_H97 (f_H97.at (by decide) (f94.at (by decide) (f91.at (by decide) (f88.at (by decide) (f_H84.at (by decide) (f82.at (by decide) (f_H5.at (by decide) (f3.at (by decide) hX)))))))) hn hc (show 0 ≤ (a_H5 + w_H84) + w_H97 ∧ (a_H5 + w_H84) + w_H97 ≤ v 7 by omega) (show w_H97 = 0 ∨ w_H97 = 1 by omega) (l := 1) (u := 12) (by omega) (by omega) (hd := by omega)) (fun z102 H103 r104 => ?_)
                      obtain ⟨a_H103, w_H103, nm_H103, no_H103, zr_H103, e0_H103, f_H103⟩ := r104
                      have e_H103 : xat H103 63 = some (yMo (vup (vup (vup (vup (vup (vup (vup (vup (vup v 9 1) 9 w_H5) 8 a_H5) 9 w_H84) 8 (a_H5 + w_H84)) 9 w_H97) 8 ((a_H5 + w_H84) + w_H97)) 9 w_H103) 8 a_H103)) := e0_H103
                      have nm1_H103 : w_H97 = 1 → nmb X (v 7) 1 12 ((a_H5 + w_H84) + w_H97) z102 a_H103 w_H103 := nm_H103
                      have no1_H103 : w_H97 = 0 → w_H103 = 0 ∧ a_H103 = (a_H5 + w_H84) + w_H97 := no_H103
                      have k_H103 : (w_H103 = 0 ∧ a_H103 = (a_H5 + w_H84) + w_H97) ∨ (w_H103 = 1 ∧ w_H97 = 1 ∧ (a_H5 + w_H84) + w_H97 < a_H103 ∧ a_H103 ≤ v 7 ∧ 0 ≤ z102 ∧ z102 ≤ 12) := by rcases (show w_H97 = 0 ∨ w_H97 = 1 by omega) with x9 | x9; exact Or.inl (no1_H103 x9); rcases nm1_H103 x9 with ⟨x1, x2, -⟩ | ⟨x1, x2, x3, x4, x5, -⟩; exact Or.inl ⟨x1, x2⟩; exact Or.inr ⟨x1, x9, x2, x3, x4, x5⟩
                      refine Y_iast (a := ((5 * (v 11)) + 2)) (x := z102) (by omega) (by decide) (by decide) hk rfl (f_H103.at (by decide) (f_H97.at (by decide) e93)) (fun H105 e106 f107 => ?_)
                      refine E_run hk 3 (j' := 120) (lv' := [(3, yi 0), (2, yi 108), (1, yi (5 * (v 11))), (0, .ref 63)]) (st' := [.ref 63, .ref 63]) (hp' := H105) rfl ?_
                      refine E_get (v := yi (v 11)) hk rfl (f107.at (by decide) e_H103) rfl ?_
                      refine E_run hk 1 (j' := 122) (lv' := [(3, yi 0), (2, yi 108), (1, yi (5 * (v 11))), (0, .ref 63)]) (st' := [.ref 63, yi (v 11), .ref 63]) (hp' := H105) rfl ?_
                      refine E_get (v := yi w_H103) hk rfl (f107.at (by decide) e_H103) rfl ?_
                      refine Y_if_eq (a := w_H103) (by omega) hk rfl (fun g108 => ?_) (fun g108 => ?_)
                      ·
                        refine E_run hk 1 (j' := 127) (lv' := [(3, yi 0), (2, yi 108), (1, yi (5 * (v 11))), (0, .ref 63)]) (st' := [yi 0, yi (v 11), .ref 63]) (hp' := H105) rfl ?_
                        refine Y_iadd (a := (v 11)) (b := 0) hk rfl ?_
                        refine Y_put hk rfl (f107.at (by decide) e_H103) (by decide) (Nat.le_of_ble_eq_true rfl) rfl (fs' := [yi (v 0), .ref 64, .ref 65, yi (v 3), .ref 66, yi (v 5), .ref 67, yi (v 7), yi a_H103, yi w_H103, .ref 68, yi ((v 11) + 0), .ref 69, yi (v 13), .ref 70, .ref 71, .ref 72, .ref 73, .ref 74, .ref 75, yi (v 20), yi (v 21)]) rfl (fun H109 e110 f111 => ?_)
                        exact E_ret hk rfl rfl (by
      have e9 := e110
      rw [show (v 11) + 0 = v 11 + w_H103 by omega] at e9
      have q0 : chn X (v 7) (v 8) a_H5 w_H5 (fun s => ⟨0, 1, 2, ((wln 2 : Nat) : Int), s.t, s.A⟩) := ch_word rw_H5 (o := 2) (by decide) ((show z4 = 108 by omega).trans (by decide))
      have b0 : (up (up (up (up (up B (5 * (v 11)) 108) ((5 * (v 11)) + 1) (sg X (v 7) a_H5 - 48)) ((5 * (v 11)) + 3) (v 13)) ((5 * (v 11)) + 4) 0) ((5 * (v 11)) + 2) z102) (5 * v 11) = 108 := (by repeat (first | rw [up_self] | rw [up_ne _ _ (by omega)]))
      have q1 : chn X (v 7) (v 8) (a_H5 + w_H84) w_H84 (fun s => ⟨0, 2, 2, ((wln 2 : Nat) : Int), X (a_H5) - 48, s.A⟩) := ch_take (G' := fun x s => ⟨0, 2, 2, ((wln 2 : Nat) : Int), x - 48, s.A⟩) q0 (by omega) (by decide) k3_H84 (fun s x _ x1 x2 => tk1 rfl (by omega)) (fun s x _ x1 => tk1n rfl (by omega)) (fun s _ => by show ¬ ((1 : Int) = 4 ∨ (1 : Int) = 5); decide)
      have b1 : w_H84 = 1 → (up (up (up (up (up B (5 * (v 11)) 108) ((5 * (v 11)) + 1) (sg X (v 7) a_H5 - 48)) ((5 * (v 11)) + 3) (v 13)) ((5 * (v 11)) + 4) 0) ((5 * (v 11)) + 2) z102) (5 * v 11 + 1) = X (a_H5) - 48 := fun w1 => (show (up (up (up (up (up B (5 * (v 11)) 108) ((5 * (v 11)) + 1) (sg X (v 7) a_H5 - 48)) ((5 * (v 11)) + 3) (v 13)) ((5 * (v 11)) + 4) 0) ((5 * (v 11)) + 2) z102) (5 * v 11 + 1) = sg X (v 7) (a_H5) - 48 from (by repeat (first | rw [up_self] | rw [up_ne _ _ (by omega)]))).trans (by rw [sg_in (by omega)])
      have q2 : chn X (v 7) (v 8) (a_H5 + w_H84 + w_H97) w_H97 (fun s => ⟨0, 3, 2, ((wln 2 : Nat) : Int), X (a_H5) - 48, s.A⟩) := ch_take (G' := fun x s => ⟨0, 3, 2, ((wln 2 : Nat) : Int), X (a_H5) - 48, s.A⟩) q1 (by omega) (by decide) k3_H97 (fun s x _ x1 x2 => tk2 rfl (by omega)) (fun s x _ x1 => tk2n rfl (by omega)) (fun s _ => by show ¬ ((2 : Int) = 4 ∨ (2 : Int) = 5); decide)
      obtain ⟨qn, qd⟩ := ch_num q2 (by omega) nm1_H103 no1_H103 (fun s _ => (⟨rfl, rfl, rfl, Int.le_refl 0, by show (0 : Int) < 30; decide⟩ : nps 1 12 (⟨0, 3, 2, ((wln 2 : Nat) : Int), X (a_H5) - 48, s.A⟩ : rS)))
      have b2 : (up (up (up (up (up B (5 * (v 11)) 108) ((5 * (v 11)) + 1) (sg X (v 7) a_H5 - 48)) ((5 * (v 11)) + 3) (v 13)) ((5 * (v 11)) + 4) 0) ((5 * (v 11)) + 2) z102) (5 * v 11 + 2) = z102 := (by repeat (first | rw [up_self] | rw [up_ne _ _ (by omega)]))
      have ln : ∀ s : rS, lnm (up s.A 0 z102) (0 + 1) = z102 := fun s => lnm_up (c := 0) ⟨Int.le_refl 0, by decide⟩
      exact ⟨rfl, a_H103, w_H103, 0, up (up (up (up (up B (5 * (v 11)) 108) ((5 * (v 11)) + 1) (sg X (v 7) a_H5 - 48)) ((5 * (v 11)) + 3) (v 13)) ((5 * (v 11)) + 4) 0) ((5 * (v 11)) + 2) z102, C, ch_end4 (o := 2) (by decide) (by decide) qn (fun w1 s hs w2 => by show ¬ dig2 (0 + 1) 2 (lnm (up s.A 0 z102) (0 + 1)) _; rw [ln s]; exact (qd w1).2.2.2.2 s hs w2) (fun w1 s hs => ⟨rfl, rfl, (b0.trans (by decide)), (fun _ => b1 (by omega)), (fun _ => b2.trans (ln s).symm), (fun x1 => absurd x1 (by decide))⟩), ⟨by omega, by omega⟩, ⟨by omega, by omega, fun _ => by omega⟩, fun x x1 => (by repeat (first | rw [up_self] | rw [up_ne _ _ (by omega)])), fun _ _ => rfl, (by rw [Int.add_zero]; exact e9), (f111.at (by decide) e106), (f111.at (by decide) (f107.at (by decide) (f_H103.at (by decide) (f_H97.at (by decide) (f94.at (by decide) (f91.at (by decide) (f88.at (by decide) (f_H84.at (by decide) (f82.at (by decide) (f_H5.at (by decide) (f3.at (by decide) hC))))))))))), (yfr.tr (yfr.tr (yfr.tr (yfr.tr (yfr.tr (yfr.tr (yfr.tr (yfr.tr (yfr.tr (yfr.tr (f3.mono (by decide)) f_H5 (fun _ h => h) (by decide)) f82 (fun _ h => h) (by decide)) f_H84 (fun _ h => h) (by decide)) f88 (fun _ h => h) (by decide)) f91 (fun _ h => h) (by decide)) f94 (fun _ h => h) (by decide)) f_H97 (fun _ h => h) (by decide)) f_H103 (fun _ h => h) (by decide)) f107 (fun _ h => h) (by decide)) f111 (fun _ h => h) (by decide))⟩)
                      ·
                        refine E_run hk 2 (j' := 127) (lv' := [(3, yi 0), (2, yi 108), (1, yi (5 * (v 11))), (0, .ref 63)]) (st' := [yi 1, yi (v 11), .ref 63]) (hp' := H105) rfl ?_
                        refine Y_iadd (a := (v 11)) (b := 1) hk rfl ?_
                        refine Y_put hk rfl (f107.at (by decide) e_H103) (by decide) (Nat.le_of_ble_eq_true rfl) rfl (fs' := [yi (v 0), .ref 64, .ref 65, yi (v 3), .ref 66, yi (v 5), .ref 67, yi (v 7), yi a_H103, yi w_H103, .ref 68, yi ((v 11) + 1), .ref 69, yi (v 13), .ref 70, .ref 71, .ref 72, .ref 73, .ref 74, .ref 75, yi (v 20), yi (v 21)]) rfl (fun H112 e113 f114 => ?_)
                        exact E_ret hk rfl rfl (by
      have e9 := e113
      rw [show (v 11) + 1 = v 11 + w_H103 by omega] at e9
      have q0 : chn X (v 7) (v 8) a_H5 w_H5 (fun s => ⟨0, 1, 2, ((wln 2 : Nat) : Int), s.t, s.A⟩) := ch_word rw_H5 (o := 2) (by decide) ((show z4 = 108 by omega).trans (by decide))
      have b0 : (up (up (up (up (up B (5 * (v 11)) 108) ((5 * (v 11)) + 1) (sg X (v 7) a_H5 - 48)) ((5 * (v 11)) + 3) (v 13)) ((5 * (v 11)) + 4) 0) ((5 * (v 11)) + 2) z102) (5 * v 11) = 108 := (by repeat (first | rw [up_self] | rw [up_ne _ _ (by omega)]))
      have q1 : chn X (v 7) (v 8) (a_H5 + w_H84) w_H84 (fun s => ⟨0, 2, 2, ((wln 2 : Nat) : Int), X (a_H5) - 48, s.A⟩) := ch_take (G' := fun x s => ⟨0, 2, 2, ((wln 2 : Nat) : Int), x - 48, s.A⟩) q0 (by omega) (by decide) k3_H84 (fun s x _ x1 x2 => tk1 rfl (by omega)) (fun s x _ x1 => tk1n rfl (by omega)) (fun s _ => by show ¬ ((1 : Int) = 4 ∨ (1 : Int) = 5); decide)
      have b1 : w_H84 = 1 → (up (up (up (up (up B (5 * (v 11)) 108) ((5 * (v 11)) + 1) (sg X (v 7) a_H5 - 48)) ((5 * (v 11)) + 3) (v 13)) ((5 * (v 11)) + 4) 0) ((5 * (v 11)) + 2) z102) (5 * v 11 + 1) = X (a_H5) - 48 := fun w1 => (show (up (up (up (up (up B (5 * (v 11)) 108) ((5 * (v 11)) + 1) (sg X (v 7) a_H5 - 48)) ((5 * (v 11)) + 3) (v 13)) ((5 * (v 11)) + 4) 0) ((5 * (v 11)) + 2) z102) (5 * v 11 + 1) = sg X (v 7) (a_H5) - 48 from (by repeat (first | rw [up_self] | rw [up_ne _ _ (by omega)]))).trans (by rw [sg_in (by omega)])
      have q2 : chn X (v 7) (v 8) (a_H5 + w_H84 + w_H97) w_H97 (fun s => ⟨0, 3, 2, ((wln 2 : Nat) : Int), X (a_H5) - 48, s.A⟩) := ch_take (G' := fun x s => ⟨0, 3, 2, ((wln 2 : Nat) : Int), X (a_H5) - 48, s.A⟩) q1 (by omega) (by decide) k3_H97 (fun s x _ x1 x2 => tk2 rfl (by omega)) (fun s x _ x1 => tk2n rfl (by omega)) (fun s _ => by show ¬ ((2 : Int) = 4 ∨ (2 : Int) = 5); decide)
      obtain ⟨qn, qd⟩ := ch_num q2 (by omega) nm1_H103 no1_H103 (fun s _ => (⟨rfl, rfl, rfl, Int.le_refl 0, by show (0 : Int) < 30; decide⟩ : nps 1 12 (⟨0, 3, 2, ((wln 2 : Nat) : Int), X (a_H5) - 48, s.A⟩ : rS)))
      have b2 : (up (up (up (up (up B (5 * (v 11)) 108) ((5 * (v 11)) + 1) (sg X (v 7) a_H5 - 48)) ((5 * (v 11)) + 3) (v 13)) ((5 * (v 11)) + 4) 0) ((5 * (v 11)) + 2) z102) (5 * v 11 + 2) = z102 := (by repeat (first | rw [up_self] | rw [up_ne _ _ (by omega)]))
      have ln : ∀ s : rS, lnm (up s.A 0 z102) (0 + 1) = z102 := fun s => lnm_up (c := 0) ⟨Int.le_refl 0, by decide⟩
      exact ⟨rfl, a_H103, w_H103, 0, up (up (up (up (up B (5 * (v 11)) 108) ((5 * (v 11)) + 1) (sg X (v 7) a_H5 - 48)) ((5 * (v 11)) + 3) (v 13)) ((5 * (v 11)) + 4) 0) ((5 * (v 11)) + 2) z102, C, ch_end4 (o := 2) (by decide) (by decide) qn (fun w1 s hs w2 => by show ¬ dig2 (0 + 1) 2 (lnm (up s.A 0 z102) (0 + 1)) _; rw [ln s]; exact (qd w1).2.2.2.2 s hs w2) (fun w1 s hs => ⟨rfl, rfl, (b0.trans (by decide)), (fun _ => b1 (by omega)), (fun _ => b2.trans (ln s).symm), (fun x1 => absurd x1 (by decide))⟩), ⟨by omega, by omega⟩, ⟨by omega, by omega, fun _ => by omega⟩, fun x x1 => (by repeat (first | rw [up_self] | rw [up_ne _ _ (by omega)])), fun _ _ => rfl, (by rw [Int.add_zero]; exact e9), (f114.at (by decide) e106), (f114.at (by decide) (f107.at (by decide) (f_H103.at (by decide) (f_H97.at (by decide) (f94.at (by decide) (f91.at (by decide) (f88.at (by decide) (f_H84.at (by decide) (f82.at (by decide) (f_H5.at (by decide) (f3.at (by decide) hC))))))))))), (yfr.tr (yfr.tr (yfr.tr (yfr.tr (yfr.tr (yfr.tr (yfr.tr (yfr.tr (yfr.tr (yfr.tr (f3.mono (by decide)) f_H5 (fun _ h => h) (by decide)) f82 (fun _ h => h) (by decide)) f_H84 (fun _ h => h) (by decide)) f88 (fun _ h => h) (by decide)) f91 (fun _ h => h) (by decide)) f94 (fun _ h => h) (by decide)) f_H97 (fun _ h => h) (by decide)) f_H103 (fun _ h => h) (by decide)) f107 (fun _ h => h) (by decide)) f114 (fun _ h => h) (by decide))⟩)
                · exfalso; omega
          · exfalso; omega
        · exfalso; omega
  · rw [w7]
    refine E_run hk 2 (j' := 13) (lv' := [(2, yi 119), (1, yi (5 * (v 11))), (0, .ref 63)]) (st' := [yi 98, yi 119]) (hp' := H5) rfl ?_
    refine Y_ic_eq (a := 119) (b := 98) (by omega) hk rfl (fun g115 => ?_) (fun g115 => ?_)
    · exfalso; omega
    ·
      refine E_run hk 2 (j' := 16) (lv' := [(2, yi 119), (1, yi (5 * (v 11))), (0, .ref 63)]) (st' := [yi 104, yi 119]) (hp' := H5) rfl ?_
      refine Y_ic_eq (a := 119) (b := 104) (by omega) hk rfl (fun g116 => ?_) (fun g116 => ?_)
      · exfalso; omega
      ·
        refine E_run hk 2 (j' := 19) (lv' := [(2, yi 119), (1, yi (5 * (v 11))), (0, .ref 63)]) (st' := [yi 106, yi 119]) (hp' := H5) rfl ?_
        refine Y_ic_ne (a := 119) (b := 106) (by omega) hk rfl (fun g117 => ?_) (fun g117 => ?_)
        ·
          refine E_run hk 2 (j' := 24) (lv' := [(3, yi 0), (2, yi 119), (1, yi (5 * (v 11))), (0, .ref 63)]) (st' := []) (hp' := H5) rfl ?_
          refine E_run hk 1 (j' := 25) (lv' := [(3, yi 0), (2, yi 119), (1, yi (5 * (v 11))), (0, .ref 63)]) (st' := [.ref 63]) (hp' := H5) rfl ?_
          refine E_get (v := .ref 68) hk rfl e_H5 rfl ?_
          refine E_run hk 2 (j' := 28) (lv' := [(3, yi 0), (2, yi 119), (1, yi (5 * (v 11))), (0, .ref 63)]) (st' := [yi 119, yi (5 * (v 11)), .ref 68]) (hp' := H5) rfl ?_
          refine Y_iast (a := (5 * (v 11))) (x := 119) (by omega) (by decide) (by decide) hk rfl (f_H5.at (by decide) (f3.at (by decide) hB)) (fun H118 e119 f120 => ?_)
          refine E_run hk 1 (j' := 30) (lv' := [(3, yi 0), (2, yi 119), (1, yi (5 * (v 11))), (0, .ref 63)]) (st' := [.ref 63]) (hp' := H118) rfl ?_
          refine E_get (v := .ref 68) hk rfl (f120.at (by decide) e_H5) rfl ?_
          refine E_run hk 2 (j' := 33) (lv' := [(3, yi 0), (2, yi 119), (1, yi (5 * (v 11))), (0, .ref 63)]) (st' := [yi 1, yi (5 * (v 11)), .ref 68]) (hp' := H118) rfl ?_
          refine Y_iadd (a := (5 * (v 11))) (b := 1) hk rfl ?_
          refine E_run hk 1 (j' := 35) (lv' := [(3, yi 0), (2, yi 119), (1, yi (5 * (v 11))), (0, .ref 63)]) (st' := [yi 0, yi ((5 * (v 11)) + 1), .ref 68]) (hp' := H118) rfl ?_
          refine Y_if_eq (a := 0) (by omega) hk rfl (fun g121 => ?_) (fun g121 => ?_)
          ·
            refine E_run hk 3 (j' := 41) (lv' := [(3, yi 0), (2, yi 119), (1, yi (5 * (v 11))), (0, .ref 63)]) (st' := [yi 49, yi 48, .ref 63, yi ((5 * (v 11)) + 1), .ref 68]) (hp' := H118) rfl ?_
            refine Y_call hk rfl (as := [.ref 63, yi 48, yi 49]) (rest := [yi ((5 * (v 11)) + 1), .ref 68]) (v := some (yi (sg X (v 7) a_H5 - 48))) rfl rfl (Nat.le_of_ble_eq_true rfl) (rcv0 (f120.at (by decide) e_H5)) (Nat.le_of_ble_eq_true rfl) (c_X9_takes (v := (vup (vup (vup v 9 1) 9 w_H5) 8 a_H5)) (f120.at (by decide) e_H5) (f120.at (by decide) (f_H5.at (by decide) (f3.at (by decide) hX))) hn hc (show 0 ≤ a_H5 ∧ a_H5 ≤ v 7 by omega) (show w_H5 = 0 ∨ w_H5 = 1 by omega) (l := 48) (u := 49) (by omega) (hd := by omega)) (fun H122 r123 => ?_)
            obtain ⟨e0_H122, f_H122⟩ := r123
            obtain ⟨w_H122, hq_H122⟩ : ∃ w, b2 (w_H5 = 1 ∧ 48 ≤ sg X (v 7) a_H5 ∧ sg X (v 7) a_H5 ≤ 49) = w := ⟨_, rfl⟩
            have e_H122 : xat H122 63 = some (yMo (vup (vup (vup (vup (vup v 9 1) 9 w_H5) 8 a_H5) 9 w_H122) 8 (a_H5 + w_H122))) := by rw [← hq_H122]; exact e0_H122
            obtain ⟨k1_H122, k2_H122, k3_H122⟩ := tk_step hc (show 0 ≤ a_H5 ∧ a_H5 ≤ v 7 by omega) (show w_H5 = 0 ∨ w_H5 = 1 by omega) (by omega) hq_H122
            refine Y_iast (a := ((5 * (v 11)) + 1)) (x := (sg X (v 7) a_H5 - 48)) (by omega) (by decide) (by decide) hk rfl (f_H122.at (by decide) e119) (fun H124 e125 f126 => ?_)
            refine E_run hk 1 (j' := 44) (lv' := [(3, yi 0), (2, yi 119), (1, yi (5 * (v 11))), (0, .ref 63)]) (st' := [.ref 63]) (hp' := H124) rfl ?_
            refine E_get (v := .ref 68) hk rfl (f126.at (by decide) e_H122) rfl ?_
            refine E_run hk 2 (j' := 47) (lv' := [(3, yi 0), (2, yi 119), (1, yi (5 * (v 11))), (0, .ref 63)]) (st' := [yi 3, yi (5 * (v 11)), .ref 68]) (hp' := H124) rfl ?_
            refine Y_iadd (a := (5 * (v 11))) (b := 3) hk rfl ?_
            refine E_run hk 1 (j' := 49) (lv' := [(3, yi 0), (2, yi 119), (1, yi (5 * (v 11))), (0, .ref 63)]) (st' := [.ref 63, yi ((5 * (v 11)) + 3), .ref 68]) (hp' := H124) rfl ?_
            refine E_get (v := yi (v 13)) hk rfl (f126.at (by decide) e_H122) rfl ?_
            refine Y_iast (a := ((5 * (v 11)) + 3)) (x := (v 13)) (by omega) (by decide) (by decide) hk rfl e125 (fun H127 e128 f129 => ?_)
            refine E_run hk 1 (j' := 52) (lv' := [(3, yi 0), (2, yi 119), (1, yi (5 * (v 11))), (0, .ref 63)]) (st' := [.ref 63]) (hp' := H127) rfl ?_
            refine E_get (v := .ref 68) hk rfl (f129.at (by decide) (f126.at (by decide) e_H122)) rfl ?_
            refine E_run hk 2 (j' := 55) (lv' := [(3, yi 0), (2, yi 119), (1, yi (5 * (v 11))), (0, .ref 63)]) (st' := [yi 4, yi (5 * (v 11)), .ref 68]) (hp' := H127) rfl ?_
            refine Y_iadd (a := (5 * (v 11))) (b := 4) hk rfl ?_
            refine E_run hk 1 (j' := 57) (lv' := [(3, yi 0), (2, yi 119), (1, yi (5 * (v 11))), (0, .ref 63)]) (st' := [yi 0, yi ((5 * (v 11)) + 4), .ref 68]) (hp' := H127) rfl ?_
            refine Y_iast (a := ((5 * (v 11)) + 4)) (x := 0) (by omega) (by decide) (by decide) hk rfl e128 (fun H130 e131 f132 => ?_)
            refine E_run hk 2 (j' := 60) (lv' := [(3, yi 0), (2, yi 119), (1, yi (5 * (v 11))), (0, .ref 63)]) (st' := [yi 119, yi 119]) (hp' := H130) rfl ?_
            refine Y_ic_eq (a := 119) (b := 119) (by omega) hk rfl (fun g133 => ?_) (fun g133 => ?_)
            ·
              refine E_run hk 2 (j' := 71) (lv' := [(3, yi 0), (2, yi 119), (1, yi (5 * (v 11))), (0, .ref 63)]) (st' := [yi 115, yi 119]) (hp' := H130) rfl ?_
              refine Y_ic_ne (a := 119) (b := 115) (by omega) hk rfl (fun g134 => ?_) (fun g134 => ?_)
              ·
                refine E_run hk 2 (j' := 78) (lv' := [(3, yi 0), (2, yi 119), (1, yi (5 * (v 11))), (0, .ref 63)]) (st' := [yi 114, yi 119]) (hp' := H130) rfl ?_
                refine Y_ic_eq (a := 119) (b := 114) (by omega) hk rfl (fun g135 => ?_) (fun g135 => ?_)
                · exfalso; omega
                ·
                  refine E_run hk 2 (j' := 81) (lv' := [(3, yi 0), (2, yi 119), (1, yi (5 * (v 11))), (0, .ref 63)]) (st' := [yi 108, yi 119]) (hp' := H130) rfl ?_
                  refine Y_ic_ne (a := 119) (b := 108) (by omega) hk rfl (fun g136 => ?_) (fun g136 => ?_)
                  ·
                    refine E_run hk 1 (j' := 94) (lv' := [(3, yi 0), (2, yi 119), (1, yi (5 * (v 11))), (0, .ref 63)]) (st' := [yi 0]) (hp' := H130) rfl ?_
                    refine Y_if_eq (a := 0) (by omega) hk rfl (fun g137 => ?_) (fun g137 => ?_)
                    ·
                      refine E_run hk 2 (j' := 120) (lv' := [(3, yi 0), (2, yi 119), (1, yi (5 * (v 11))), (0, .ref 63)]) (st' := [.ref 63, .ref 63]) (hp' := H130) rfl ?_
                      refine E_get (v := yi (v 11)) hk rfl (f132.at (by decide) (f129.at (by decide) (f126.at (by decide) e_H122))) rfl ?_
                      refine E_run hk 1 (j' := 122) (lv' := [(3, yi 0), (2, yi 119), (1, yi (5 * (v 11))), (0, .ref 63)]) (st' := [.ref 63, yi (v 11), .ref 63]) (hp' := H130) rfl ?_
                      refine E_get (v := yi w_H122) hk rfl (f132.at (by decide) (f129.at (by decide) (f126.at (by decide) e_H122))) rfl ?_
                      refine Y_if_eq (a := w_H122) (by omega) hk rfl (fun g138 => ?_) (fun g138 => ?_)
                      ·
                        refine E_run hk 1 (j' := 127) (lv' := [(3, yi 0), (2, yi 119), (1, yi (5 * (v 11))), (0, .ref 63)]) (st' := [yi 0, yi (v 11), .ref 63]) (hp' := H130) rfl ?_
                        refine Y_iadd (a := (v 11)) (b := 0) hk rfl ?_
                        refine Y_put hk rfl (f132.at (by decide) (f129.at (by decide) (f126.at (by decide) e_H122))) (by decide) (Nat.le_of_ble_eq_true rfl) rfl (fs' := [yi (v 0), .ref 64, .ref 65, yi (v 3), .ref 66, yi (v 5), .ref 67, yi (v 7), yi (a_H5 + w_H122), yi w_H122, .ref 68, yi ((v 11) + 0), .ref 69, yi (v 13), .ref 70, .ref 71, .ref 72, .ref 73, .ref 74, .ref 75, yi (v 20), yi (v 21)]) rfl (fun H139 e140 f141 => ?_)
                        exact E_ret hk rfl rfl (by
      have e9 := e140
      rw [show (v 11) + 0 = v 11 + w_H122 by omega] at e9
      have q0 : chn X (v 7) (v 8) a_H5 w_H5 (fun s => ⟨0, 1, 3, ((wln 3 : Nat) : Int), s.t, s.A⟩) := ch_word rw_H5 (o := 3) (by decide) ((show z4 = 119 by omega).trans (by decide))
      have b0 : (up (up (up (up B (5 * (v 11)) 119) ((5 * (v 11)) + 1) (sg X (v 7) a_H5 - 48)) ((5 * (v 11)) + 3) (v 13)) ((5 * (v 11)) + 4) 0) (5 * v 11) = 119 := (by repeat (first | rw [up_self] | rw [up_ne _ _ (by omega)]))
      have q1 : chn X (v 7) (v 8) (a_H5 + w_H122) w_H122 (fun s => ⟨0, 5, 3, ((wln 3 : Nat) : Int), X (a_H5) - 48, s.A⟩) := ch_take (G' := fun x s => ⟨0, 5, 3, ((wln 3 : Nat) : Int), x - 48, s.A⟩) q0 (by omega) (by decide) k3_H122 (fun s x _ x1 x2 => tk1 rfl (by omega)) (fun s x _ x1 => tk1n rfl (by omega)) (fun s _ => by show ¬ ((1 : Int) = 4 ∨ (1 : Int) = 5); decide)
      have b1 : w_H122 = 1 → (up (up (up (up B (5 * (v 11)) 119) ((5 * (v 11)) + 1) (sg X (v 7) a_H5 - 48)) ((5 * (v 11)) + 3) (v 13)) ((5 * (v 11)) + 4) 0) (5 * v 11 + 1) = X (a_H5) - 48 := fun w1 => (show (up (up (up (up B (5 * (v 11)) 119) ((5 * (v 11)) + 1) (sg X (v 7) a_H5 - 48)) ((5 * (v 11)) + 3) (v 13)) ((5 * (v 11)) + 4) 0) (5 * v 11 + 1) = sg X (v 7) (a_H5) - 48 from (by repeat (first | rw [up_self] | rw [up_ne _ _ (by omega)]))).trans (by rw [sg_in (by omega)])
      exact ⟨rfl, a_H5 + w_H122, w_H122, 0, up (up (up (up B (5 * (v 11)) 119) ((5 * (v 11)) + 1) (sg X (v 7) a_H5 - 48)) ((5 * (v 11)) + 3) (v 13)) ((5 * (v 11)) + 4) 0, C, ch_end5 (o := 3) (by decide) q1 (fun w1 s hs => ⟨rfl, rfl, (b0.trans (by decide)), (fun _ => b1 (by omega)), (fun x1 => by rcases x1 with x1 | x1 | x1 <;> omega), (fun x1 => absurd x1 (by decide))⟩), ⟨by omega, by omega⟩, ⟨by omega, by omega, fun _ => by omega⟩, fun x x1 => (by repeat (first | rw [up_self] | rw [up_ne _ _ (by omega)])), fun _ _ => rfl, (by rw [Int.add_zero]; exact e9), (f141.at (by decide) e131), (f141.at (by decide) (f132.at (by decide) (f129.at (by decide) (f126.at (by decide) (f_H122.at (by decide) (f120.at (by decide) (f_H5.at (by decide) (f3.at (by decide) hC)))))))), (yfr.tr (yfr.tr (yfr.tr (yfr.tr (yfr.tr (yfr.tr (yfr.tr (f3.mono (by decide)) f_H5 (fun _ h => h) (by decide)) f120 (fun _ h => h) (by decide)) f_H122 (fun _ h => h) (by decide)) f126 (fun _ h => h) (by decide)) f129 (fun _ h => h) (by decide)) f132 (fun _ h => h) (by decide)) f141 (fun _ h => h) (by decide))⟩)
                      ·
                        refine E_run hk 2 (j' := 127) (lv' := [(3, yi 0), (2, yi 119), (1, yi (5 * (v 11))), (0, .ref 63)]) (st' := [yi 1, yi (v 11), .ref 63]) (hp' := H130) rfl ?_
                        refine Y_iadd (a := (v 11)) (b := 1) hk rfl ?_
                        refine Y_put hk rfl (f132.at (by decide) (f129.at (by decide) (f126.at (by decide) e_H122))) (by decide) (Nat.le_of_ble_eq_true rfl) rfl (fs' := [yi (v 0), .ref 64, .ref 65, yi (v 3), .ref 66, yi (v 5), .ref 67, yi (v 7), yi (a_H5 + w_H122), yi w_H122, .ref 68, yi ((v 11) + 1), .ref 69, yi (v 13), .ref 70, .ref 71, .ref 72, .ref 73, .ref 74, .ref 75, yi (v 20), yi (v 21)]) rfl (fun H142 e143 f144 => ?_)
                        exact E_ret hk rfl rfl (by
      have e9 := e143
      rw [show (v 11) + 1 = v 11 + w_H122 by omega] at e9
      have q0 : chn X (v 7) (v 8) a_H5 w_H5 (fun s => ⟨0, 1, 3, ((wln 3 : Nat) : Int), s.t, s.A⟩) := ch_word rw_H5 (o := 3) (by decide) ((show z4 = 119 by omega).trans (by decide))
      have b0 : (up (up (up (up B (5 * (v 11)) 119) ((5 * (v 11)) + 1) (sg X (v 7) a_H5 - 48)) ((5 * (v 11)) + 3) (v 13)) ((5 * (v 11)) + 4) 0) (5 * v 11) = 119 := (by repeat (first | rw [up_self] | rw [up_ne _ _ (by omega)]))
      have q1 : chn X (v 7) (v 8) (a_H5 + w_H122) w_H122 (fun s => ⟨0, 5, 3, ((wln 3 : Nat) : Int), X (a_H5) - 48, s.A⟩) := ch_take (G' := fun x s => ⟨0, 5, 3, ((wln 3 : Nat) : Int), x - 48, s.A⟩) q0 (by omega) (by decide) k3_H122 (fun s x _ x1 x2 => tk1 rfl (by omega)) (fun s x _ x1 => tk1n rfl (by omega)) (fun s _ => by show ¬ ((1 : Int) = 4 ∨ (1 : Int) = 5); decide)
      have b1 : w_H122 = 1 → (up (up (up (up B (5 * (v 11)) 119) ((5 * (v 11)) + 1) (sg X (v 7) a_H5 - 48)) ((5 * (v 11)) + 3) (v 13)) ((5 * (v 11)) + 4) 0) (5 * v 11 + 1) = X (a_H5) - 48 := fun w1 => (show (up (up (up (up B (5 * (v 11)) 119) ((5 * (v 11)) + 1) (sg X (v 7) a_H5 - 48)) ((5 * (v 11)) + 3) (v 13)) ((5 * (v 11)) + 4) 0) (5 * v 11 + 1) = sg X (v 7) (a_H5) - 48 from (by repeat (first | rw [up_self] | rw [up_ne _ _ (by omega)]))).trans (by rw [sg_in (by omega)])
      exact ⟨rfl, a_H5 + w_H122, w_H122, 0, up (up (up (up B (5 * (v 11)) 119) ((5 * (v 11)) + 1) (sg X (v 7) a_H5 - 48)) ((5 * (v 11)) + 3) (v 13)) ((5 * (v 11)) + 4) 0, C, ch_end5 (o := 3) (by decide) q1 (fun w1 s hs => ⟨rfl, rfl, (b0.trans (by decide)), (fun _ => b1 (by omega)), (fun x1 => by rcases x1 with x1 | x1 | x1 <;> omega), (fun x1 => absurd x1 (by decide))⟩), ⟨by omega, by omega⟩, ⟨by omega, by omega, fun _ => by omega⟩, fun x x1 => (by repeat (first | rw [up_self] | rw [up_ne _ _ (by omega)])), fun _ _ => rfl, (by rw [Int.add_zero]; exact e9), (f144.at (by decide) e131), (f144.at (by decide) (f132.at (by decide) (f129.at (by decide) (f126.at (by decide) (f_H122.at (by decide) (f120.at (by decide) (f_H5.at (by decide) (f3.at (by decide) hC)))))))), (yfr.tr (yfr.tr (yfr.tr (yfr.tr (yfr.tr (yfr.tr (yfr.tr (f3.mono (by decide)) f_H5 (fun _ h => h) (by decide)) f120 (fun _ h => h) (by decide)) f_H122 (fun _ h => h) (by decide)) f126 (fun _ h => h) (by decide)) f129 (fun _ h => h) (by decide)) f132 (fun _ h => h) (by decide)) f144 (fun _ h => h) (by decide))⟩)
                    · exfalso; omega
                  · exfalso; omega
              · exfalso; omega
            · exfalso; omega
          · exfalso; omega
        · exfalso; omega
  · rw [w7]
    refine E_run hk 2 (j' := 13) (lv' := [(2, yi 102), (1, yi (5 * (v 11))), (0, .ref 63)]) (st' := [yi 98, yi 102]) (hp' := H5) rfl ?_
    refine Y_ic_eq (a := 102) (b := 98) (by omega) hk rfl (fun g145 => ?_) (fun g145 => ?_)
    · exfalso; omega
    ·
      refine E_run hk 2 (j' := 16) (lv' := [(2, yi 102), (1, yi (5 * (v 11))), (0, .ref 63)]) (st' := [yi 104, yi 102]) (hp' := H5) rfl ?_
      refine Y_ic_eq (a := 102) (b := 104) (by omega) hk rfl (fun g146 => ?_) (fun g146 => ?_)
      · exfalso; omega
      ·
        refine E_run hk 2 (j' := 19) (lv' := [(2, yi 102), (1, yi (5 * (v 11))), (0, .ref 63)]) (st' := [yi 106, yi 102]) (hp' := H5) rfl ?_
        refine Y_ic_ne (a := 102) (b := 106) (by omega) hk rfl (fun g147 => ?_) (fun g147 => ?_)
        ·
          refine E_run hk 2 (j' := 24) (lv' := [(3, yi 0), (2, yi 102), (1, yi (5 * (v 11))), (0, .ref 63)]) (st' := []) (hp' := H5) rfl ?_
          refine E_run hk 1 (j' := 25) (lv' := [(3, yi 0), (2, yi 102), (1, yi (5 * (v 11))), (0, .ref 63)]) (st' := [.ref 63]) (hp' := H5) rfl ?_
          refine E_get (v := .ref 68) hk rfl e_H5 rfl ?_
          refine E_run hk 2 (j' := 28) (lv' := [(3, yi 0), (2, yi 102), (1, yi (5 * (v 11))), (0, .ref 63)]) (st' := [yi 102, yi (5 * (v 11)), .ref 68]) (hp' := H5) rfl ?_
          refine Y_iast (a := (5 * (v 11))) (x := 102) (by omega) (by decide) (by decide) hk rfl (f_H5.at (by decide) (f3.at (by decide) hB)) (fun H148 e149 f150 => ?_)
          refine E_run hk 1 (j' := 30) (lv' := [(3, yi 0), (2, yi 102), (1, yi (5 * (v 11))), (0, .ref 63)]) (st' := [.ref 63]) (hp' := H148) rfl ?_
          refine E_get (v := .ref 68) hk rfl (f150.at (by decide) e_H5) rfl ?_
          refine E_run hk 2 (j' := 33) (lv' := [(3, yi 0), (2, yi 102), (1, yi (5 * (v 11))), (0, .ref 63)]) (st' := [yi 1, yi (5 * (v 11)), .ref 68]) (hp' := H148) rfl ?_
          refine Y_iadd (a := (5 * (v 11))) (b := 1) hk rfl ?_
          refine E_run hk 1 (j' := 35) (lv' := [(3, yi 0), (2, yi 102), (1, yi (5 * (v 11))), (0, .ref 63)]) (st' := [yi 0, yi ((5 * (v 11)) + 1), .ref 68]) (hp' := H148) rfl ?_
          refine Y_if_eq (a := 0) (by omega) hk rfl (fun g151 => ?_) (fun g151 => ?_)
          ·
            refine E_run hk 3 (j' := 41) (lv' := [(3, yi 0), (2, yi 102), (1, yi (5 * (v 11))), (0, .ref 63)]) (st' := [yi 49, yi 48, .ref 63, yi ((5 * (v 11)) + 1), .ref 68]) (hp' := H148) rfl ?_
            refine Y_call hk rfl (as := [.ref 63, yi 48, yi 49]) (rest := [yi ((5 * (v 11)) + 1), .ref 68]) (v := some (yi (sg X (v 7) a_H5 - 48))) rfl rfl (Nat.le_of_ble_eq_true rfl) (rcv0 (f150.at (by decide) e_H5)) (Nat.le_of_ble_eq_true rfl) (c_X9_takes (v := (vup (vup (vup v 9 1) 9 w_H5) 8 a_H5)) (f150.at (by decide) e_H5) (f150.at (by decide) (f_H5.at (by decide) (f3.at (by decide) hX))) hn hc (show 0 ≤ a_H5 ∧ a_H5 ≤ v 7 by omega) (show w_H5 = 0 ∨ w_H5 = 1 by omega) (l := 48) (u := 49) (by omega) (hd := by omega)) (fun H152 r153 => ?_)
            obtain ⟨e0_H152, f_H152⟩ := r153
            obtain ⟨w_H152, hq_H152⟩ : ∃ w, b2 (w_H5 = 1 ∧ 48 ≤ sg X (v 7) a_H5 ∧ sg X (v 7) a_H5 ≤ 49) = w := ⟨_, rfl⟩
            have e_H152 : xat H152 63 = some (yMo (vup (vup (vup (vup (vup v 9 1) 9 w_H5) 8 a_H5) 9 w_H152) 8 (a_H5 + w_H152))) := by rw [← hq_H152]; exact e0_H152
            obtain ⟨k1_H152, k2_H152, k3_H152⟩ := tk_step hc (show 0 ≤ a_H5 ∧ a_H5 ≤ v 7 by omega) (show w_H5 = 0 ∨ w_H5 = 1 by omega) (by omega) hq_H152
            refine Y_iast (a := ((5 * (v 11)) + 1)) (x := (sg X (v 7) a_H5 - 48)) (by omega) (by decide) (by decide) hk rfl (f_H152.at (by decide) e149) (fun H154 e155 f156 => ?_)
            refine E_run hk 1 (j' := 44) (lv' := [(3, yi 0), (2, yi 102), (1, yi (5 * (v 11))), (0, .ref 63)]) (st' := [.ref 63]) (hp' := H154) rfl ?_
            refine E_get (v := .ref 68) hk rfl (f156.at (by decide) e_H152) rfl ?_
            refine E_run hk 2 (j' := 47) (lv' := [(3, yi 0), (2, yi 102), (1, yi (5 * (v 11))), (0, .ref 63)]) (st' := [yi 3, yi (5 * (v 11)), .ref 68]) (hp' := H154) rfl ?_
            refine Y_iadd (a := (5 * (v 11))) (b := 3) hk rfl ?_
            refine E_run hk 1 (j' := 49) (lv' := [(3, yi 0), (2, yi 102), (1, yi (5 * (v 11))), (0, .ref 63)]) (st' := [.ref 63, yi ((5 * (v 11)) + 3), .ref 68]) (hp' := H154) rfl ?_
            refine E_get (v := yi (v 13)) hk rfl (f156.at (by decide) e_H152) rfl ?_
            refine Y_iast (a := ((5 * (v 11)) + 3)) (x := (v 13)) (by omega) (by decide) (by decide) hk rfl e155 (fun H157 e158 f159 => ?_)
            refine E_run hk 1 (j' := 52) (lv' := [(3, yi 0), (2, yi 102), (1, yi (5 * (v 11))), (0, .ref 63)]) (st' := [.ref 63]) (hp' := H157) rfl ?_
            refine E_get (v := .ref 68) hk rfl (f159.at (by decide) (f156.at (by decide) e_H152)) rfl ?_
            refine E_run hk 2 (j' := 55) (lv' := [(3, yi 0), (2, yi 102), (1, yi (5 * (v 11))), (0, .ref 63)]) (st' := [yi 4, yi (5 * (v 11)), .ref 68]) (hp' := H157) rfl ?_
            refine Y_iadd (a := (5 * (v 11))) (b := 4) hk rfl ?_
            refine E_run hk 1 (j' := 57) (lv' := [(3, yi 0), (2, yi 102), (1, yi (5 * (v 11))), (0, .ref 63)]) (st' := [yi 0, yi ((5 * (v 11)) + 4), .ref 68]) (hp' := H157) rfl ?_
            refine Y_iast (a := ((5 * (v 11)) + 4)) (x := 0) (by omega) (by decide) (by decide) hk rfl e158 (fun H160 e161 f162 => ?_)
            refine E_run hk 2 (j' := 60) (lv' := [(3, yi 0), (2, yi 102), (1, yi (5 * (v 11))), (0, .ref 63)]) (st' := [yi 119, yi 102]) (hp' := H160) rfl ?_
            refine Y_ic_eq (a := 102) (b := 119) (by omega) hk rfl (fun g163 => ?_) (fun g163 => ?_)
            · exfalso; omega
            ·
              refine E_run hk 2 (j' := 63) (lv' := [(3, yi 0), (2, yi 102), (1, yi (5 * (v 11))), (0, .ref 63)]) (st' := [yi 102, yi 102]) (hp' := H160) rfl ?_
              refine Y_ic_eq (a := 102) (b := 102) (by omega) hk rfl (fun g164 => ?_) (fun g164 => ?_)
              ·
                refine E_run hk 2 (j' := 71) (lv' := [(3, yi 0), (2, yi 102), (1, yi (5 * (v 11))), (0, .ref 63)]) (st' := [yi 115, yi 102]) (hp' := H160) rfl ?_
                refine Y_ic_ne (a := 102) (b := 115) (by omega) hk rfl (fun g165 => ?_) (fun g165 => ?_)
                ·
                  refine E_run hk 2 (j' := 78) (lv' := [(3, yi 0), (2, yi 102), (1, yi (5 * (v 11))), (0, .ref 63)]) (st' := [yi 114, yi 102]) (hp' := H160) rfl ?_
                  refine Y_ic_eq (a := 102) (b := 114) (by omega) hk rfl (fun g166 => ?_) (fun g166 => ?_)
                  · exfalso; omega
                  ·
                    refine E_run hk 2 (j' := 81) (lv' := [(3, yi 0), (2, yi 102), (1, yi (5 * (v 11))), (0, .ref 63)]) (st' := [yi 108, yi 102]) (hp' := H160) rfl ?_
                    refine Y_ic_ne (a := 102) (b := 108) (by omega) hk rfl (fun g167 => ?_) (fun g167 => ?_)
                    ·
                      refine E_run hk 1 (j' := 94) (lv' := [(3, yi 0), (2, yi 102), (1, yi (5 * (v 11))), (0, .ref 63)]) (st' := [yi 0]) (hp' := H160) rfl ?_
                      refine Y_if_eq (a := 0) (by omega) hk rfl (fun g168 => ?_) (fun g168 => ?_)
                      ·
                        refine E_run hk 2 (j' := 120) (lv' := [(3, yi 0), (2, yi 102), (1, yi (5 * (v 11))), (0, .ref 63)]) (st' := [.ref 63, .ref 63]) (hp' := H160) rfl ?_
                        refine E_get (v := yi (v 11)) hk rfl (f162.at (by decide) (f159.at (by decide) (f156.at (by decide) e_H152))) rfl ?_
                        refine E_run hk 1 (j' := 122) (lv' := [(3, yi 0), (2, yi 102), (1, yi (5 * (v 11))), (0, .ref 63)]) (st' := [.ref 63, yi (v 11), .ref 63]) (hp' := H160) rfl ?_
                        refine E_get (v := yi w_H152) hk rfl (f162.at (by decide) (f159.at (by decide) (f156.at (by decide) e_H152))) rfl ?_
                        refine Y_if_eq (a := w_H152) (by omega) hk rfl (fun g169 => ?_) (fun g169 => ?_)
                        ·
                          refine E_run hk 1 (j' := 127) (lv' := [(3, yi 0), (2, yi 102), (1, yi (5 * (v 11))), (0, .ref 63)]) (st' := [yi 0, yi (v 11), .ref 63]) (hp' := H160) rfl ?_
                          refine Y_iadd (a := (v 11)) (b := 0) hk rfl ?_
                          refine Y_put hk rfl (f162.at (by decide) (f159.at (by decide) (f156.at (by decide) e_H152))) (by decide) (Nat.le_of_ble_eq_true rfl) rfl (fs' := [yi (v 0), .ref 64, .ref 65, yi (v 3), .ref 66, yi (v 5), .ref 67, yi (v 7), yi (a_H5 + w_H152), yi w_H152, .ref 68, yi ((v 11) + 0), .ref 69, yi (v 13), .ref 70, .ref 71, .ref 72, .ref 73, .ref 74, .ref 75, yi (v 20), yi (v 21)]) rfl (fun H170 e171 f172 => ?_)
                          exact E_ret hk rfl rfl (by
      have e9 := e171
      rw [show (v 11) + 0 = v 11 + w_H152 by omega] at e9
      have q0 : chn X (v 7) (v 8) a_H5 w_H5 (fun s => ⟨0, 1, 4, ((wln 4 : Nat) : Int), s.t, s.A⟩) := ch_word rw_H5 (o := 4) (by decide) ((show z4 = 102 by omega).trans (by decide))
      have b0 : (up (up (up (up B (5 * (v 11)) 102) ((5 * (v 11)) + 1) (sg X (v 7) a_H5 - 48)) ((5 * (v 11)) + 3) (v 13)) ((5 * (v 11)) + 4) 0) (5 * v 11) = 102 := (by repeat (first | rw [up_self] | rw [up_ne _ _ (by omega)]))
      have q1 : chn X (v 7) (v 8) (a_H5 + w_H152) w_H152 (fun s => ⟨0, 5, 4, ((wln 4 : Nat) : Int), X (a_H5) - 48, s.A⟩) := ch_take (G' := fun x s => ⟨0, 5, 4, ((wln 4 : Nat) : Int), x - 48, s.A⟩) q0 (by omega) (by decide) k3_H152 (fun s x _ x1 x2 => tk1 rfl (by omega)) (fun s x _ x1 => tk1n rfl (by omega)) (fun s _ => by show ¬ ((1 : Int) = 4 ∨ (1 : Int) = 5); decide)
      have b1 : w_H152 = 1 → (up (up (up (up B (5 * (v 11)) 102) ((5 * (v 11)) + 1) (sg X (v 7) a_H5 - 48)) ((5 * (v 11)) + 3) (v 13)) ((5 * (v 11)) + 4) 0) (5 * v 11 + 1) = X (a_H5) - 48 := fun w1 => (show (up (up (up (up B (5 * (v 11)) 102) ((5 * (v 11)) + 1) (sg X (v 7) a_H5 - 48)) ((5 * (v 11)) + 3) (v 13)) ((5 * (v 11)) + 4) 0) (5 * v 11 + 1) = sg X (v 7) (a_H5) - 48 from (by repeat (first | rw [up_self] | rw [up_ne _ _ (by omega)]))).trans (by rw [sg_in (by omega)])
      exact ⟨rfl, a_H5 + w_H152, w_H152, 0, up (up (up (up B (5 * (v 11)) 102) ((5 * (v 11)) + 1) (sg X (v 7) a_H5 - 48)) ((5 * (v 11)) + 3) (v 13)) ((5 * (v 11)) + 4) 0, C, ch_end5 (o := 4) (by decide) q1 (fun w1 s hs => ⟨rfl, rfl, (b0.trans (by decide)), (fun _ => b1 (by omega)), (fun x1 => by rcases x1 with x1 | x1 | x1 <;> omega), (fun x1 => absurd x1 (by decide))⟩), ⟨by omega, by omega⟩, ⟨by omega, by omega, fun _ => by omega⟩, fun x x1 => (by repeat (first | rw [up_self] | rw [up_ne _ _ (by omega)])), fun _ _ => rfl, (by rw [Int.add_zero]; exact e9), (f172.at (by decide) e161), (f172.at (by decide) (f162.at (by decide) (f159.at (by decide) (f156.at (by decide) (f_H152.at (by decide) (f150.at (by decide) (f_H5.at (by decide) (f3.at (by decide) hC)))))))), (yfr.tr (yfr.tr (yfr.tr (yfr.tr (yfr.tr (yfr.tr (yfr.tr (f3.mono (by decide)) f_H5 (fun _ h => h) (by decide)) f150 (fun _ h => h) (by decide)) f_H152 (fun _ h => h) (by decide)) f156 (fun _ h => h) (by decide)) f159 (fun _ h => h) (by decide)) f162 (fun _ h => h) (by decide)) f172 (fun _ h => h) (by decide))⟩)
                        ·
                          refine E_run hk 2 (j' := 127) (lv' := [(3, yi 0), (2, yi 102), (1, yi (5 * (v 11))), (0, .ref 63)]) (st' := [yi 1, yi (v 11), .ref 63]) (hp' := H160) rfl ?_
                          refine Y_iadd (a := (v 11)) (b := 1) hk rfl ?_
                          refine Y_put hk rfl (f162.at (by decide) (f159.at (by decide) (f156.at (by decide) e_H152))) (by decide) (Nat.le_of_ble_eq_true rfl) rfl (fs' := [yi (v 0), .ref 64, .ref 65, yi (v 3), .ref 66, yi (v 5), .ref 67, yi (v 7), yi (a_H5 + w_H152), yi w_H152, .ref 68, yi ((v 11) + 1), .ref 69, yi (v 13), .ref 70, .ref 71, .ref 72, .ref 73, .ref 74, .ref 75, yi (v 20), yi (v 21)]) rfl (fun H173 e174 f175 => ?_)
                          exact E_ret hk rfl rfl (by
      have e9 := e174
      rw [show (v 11) + 1 = v 11 + w_H152 by omega] at e9
      have q0 : chn X (v 7) (v 8) a_H5 w_H5 (fun s => ⟨0, 1, 4, ((wln 4 : Nat) : Int), s.t, s.A⟩) := ch_word rw_H5 (o := 4) (by decide) ((show z4 = 102 by omega).trans (by decide))
      have b0 : (up (up (up (up B (5 * (v 11)) 102) ((5 * (v 11)) + 1) (sg X (v 7) a_H5 - 48)) ((5 * (v 11)) + 3) (v 13)) ((5 * (v 11)) + 4) 0) (5 * v 11) = 102 := (by repeat (first | rw [up_self] | rw [up_ne _ _ (by omega)]))
      have q1 : chn X (v 7) (v 8) (a_H5 + w_H152) w_H152 (fun s => ⟨0, 5, 4, ((wln 4 : Nat) : Int), X (a_H5) - 48, s.A⟩) := ch_take (G' := fun x s => ⟨0, 5, 4, ((wln 4 : Nat) : Int), x - 48, s.A⟩) q0 (by omega) (by decide) k3_H152 (fun s x _ x1 x2 => tk1 rfl (by omega)) (fun s x _ x1 => tk1n rfl (by omega)) (fun s _ => by show ¬ ((1 : Int) = 4 ∨ (1 : Int) = 5); decide)
      have b1 : w_H152 = 1 → (up (up (up (up B (5 * (v 11)) 102) ((5 * (v 11)) + 1) (sg X (v 7) a_H5 - 48)) ((5 * (v 11)) + 3) (v 13)) ((5 * (v 11)) + 4) 0) (5 * v 11 + 1) = X (a_H5) - 48 := fun w1 => (show (up (up (up (up B (5 * (v 11)) 102) ((5 * (v 11)) + 1) (sg X (v 7) a_H5 - 48)) ((5 * (v 11)) + 3) (v 13)) ((5 * (v 11)) + 4) 0) (5 * v 11 + 1) = sg X (v 7) (a_H5) - 48 from (by repeat (first | rw [up_self] | rw [up_ne _ _ (by omega)]))).trans (by rw [sg_in (by omega)])
      exact ⟨rfl, a_H5 + w_H152, w_H152, 0, up (up (up (up B (5 * (v 11)) 102) ((5 * (v 11)) + 1) (sg X (v 7) a_H5 - 48)) ((5 * (v 11)) + 3) (v 13)) ((5 * (v 11)) + 4) 0, C, ch_end5 (o := 4) (by decide) q1 (fun w1 s hs => ⟨rfl, rfl, (b0.trans (by decide)), (fun _ => b1 (by omega)), (fun x1 => by rcases x1 with x1 | x1 | x1 <;> omega), (fun x1 => absurd x1 (by decide))⟩), ⟨by omega, by omega⟩, ⟨by omega, by omega, fun _ => by omega⟩, fun x x1 => (by repeat (first | rw [up_self] | rw [up_ne _ _ (by omega)])), fun _ _ => rfl, (by rw [Int.add_zero]; exact e9), (f175.at (by decide) e161), (f175.at (by decide) (f162.at (by decide) (f159.at (by decide) (f156.at (by decide) (f_H152.at (by decide) (f150.at (by decide) (f_H5.at (by decide) (f3.at (by decide) hC)))))))), (yfr.tr (yfr.tr (yfr.tr (yfr.tr (yfr.tr (yfr.tr (yfr.tr (f3.mono (by decide)) f_H5 (fun _ h => h) (by decide)) f150 (fun _ h => h) (by decide)) f_H152 (fun _ h => h) (by decide)) f156 (fun _ h => h) (by decide)) f159 (fun _ h => h) (by decide)) f162 (fun _ h => h) (by decide)) f175 (fun _ h => h) (by decide))⟩)
                      · exfalso; omega
                    · exfalso; omega
                · exfalso; omega
              · exfalso; omega
          · exfalso; omega
        · exfalso; omega
  · rw [w7]
    refine E_run hk 2 (j' := 13) (lv' := [(2, yi 98), (1, yi (5 * (v 11))), (0, .ref 63)]) (st' := [yi 98, yi 98]) (hp' := H5) rfl ?_
    refine Y_ic_eq (a := 98) (b := 98) (by omega) hk rfl (fun g176 => ?_) (fun g176 => ?_)
    ·
      refine E_run hk 3 (j' := 24) (lv' := [(3, yi 1), (2, yi 98), (1, yi (5 * (v 11))), (0, .ref 63)]) (st' := []) (hp' := H5) rfl ?_
      refine E_run hk 1 (j' := 25) (lv' := [(3, yi 1), (2, yi 98), (1, yi (5 * (v 11))), (0, .ref 63)]) (st' := [.ref 63]) (hp' := H5) rfl ?_
      refine E_get (v := .ref 68) hk rfl e_H5 rfl ?_
      refine E_run hk 2 (j' := 28) (lv' := [(3, yi 1), (2, yi 98), (1, yi (5 * (v 11))), (0, .ref 63)]) (st' := [yi 98, yi (5 * (v 11)), .ref 68]) (hp' := H5) rfl ?_
      refine Y_iast (a := (5 * (v 11))) (x := 98) (by omega) (by decide) (by decide) hk rfl (f_H5.at (by decide) (f3.at (by decide) hB)) (fun H177 e178 f179 => ?_)
      refine E_run hk 1 (j' := 30) (lv' := [(3, yi 1), (2, yi 98), (1, yi (5 * (v 11))), (0, .ref 63)]) (st' := [.ref 63]) (hp' := H177) rfl ?_
      refine E_get (v := .ref 68) hk rfl (f179.at (by decide) e_H5) rfl ?_
      refine E_run hk 2 (j' := 33) (lv' := [(3, yi 1), (2, yi 98), (1, yi (5 * (v 11))), (0, .ref 63)]) (st' := [yi 1, yi (5 * (v 11)), .ref 68]) (hp' := H177) rfl ?_
      refine Y_iadd (a := (5 * (v 11))) (b := 1) hk rfl ?_
      refine E_run hk 1 (j' := 35) (lv' := [(3, yi 1), (2, yi 98), (1, yi (5 * (v 11))), (0, .ref 63)]) (st' := [yi 1, yi ((5 * (v 11)) + 1), .ref 68]) (hp' := H177) rfl ?_
      refine Y_if_eq (a := 1) (by omega) hk rfl (fun g180 => ?_) (fun g180 => ?_)
      · exfalso; omega
      ·
        refine E_run hk 2 (j' := 42) (lv' := [(3, yi 1), (2, yi 98), (1, yi (5 * (v 11))), (0, .ref 63)]) (st' := [yi 0, yi ((5 * (v 11)) + 1), .ref 68]) (hp' := H177) rfl ?_
        refine Y_iast (a := ((5 * (v 11)) + 1)) (x := 0) (by omega) (by decide) (by decide) hk rfl e178 (fun H181 e182 f183 => ?_)
        refine E_run hk 1 (j' := 44) (lv' := [(3, yi 1), (2, yi 98), (1, yi (5 * (v 11))), (0, .ref 63)]) (st' := [.ref 63]) (hp' := H181) rfl ?_
        refine E_get (v := .ref 68) hk rfl (f183.at (by decide) (f179.at (by decide) e_H5)) rfl ?_
        refine E_run hk 2 (j' := 47) (lv' := [(3, yi 1), (2, yi 98), (1, yi (5 * (v 11))), (0, .ref 63)]) (st' := [yi 3, yi (5 * (v 11)), .ref 68]) (hp' := H181) rfl ?_
        refine Y_iadd (a := (5 * (v 11))) (b := 3) hk rfl ?_
        refine E_run hk 1 (j' := 49) (lv' := [(3, yi 1), (2, yi 98), (1, yi (5 * (v 11))), (0, .ref 63)]) (st' := [.ref 63, yi ((5 * (v 11)) + 3), .ref 68]) (hp' := H181) rfl ?_
        refine E_get (v := yi (v 13)) hk rfl (f183.at (by decide) (f179.at (by decide) e_H5)) rfl ?_
        refine Y_iast (a := ((5 * (v 11)) + 3)) (x := (v 13)) (by omega) (by decide) (by decide) hk rfl e182 (fun H184 e185 f186 => ?_)
        refine E_run hk 1 (j' := 52) (lv' := [(3, yi 1), (2, yi 98), (1, yi (5 * (v 11))), (0, .ref 63)]) (st' := [.ref 63]) (hp' := H184) rfl ?_
        refine E_get (v := .ref 68) hk rfl (f186.at (by decide) (f183.at (by decide) (f179.at (by decide) e_H5))) rfl ?_
        refine E_run hk 2 (j' := 55) (lv' := [(3, yi 1), (2, yi 98), (1, yi (5 * (v 11))), (0, .ref 63)]) (st' := [yi 4, yi (5 * (v 11)), .ref 68]) (hp' := H184) rfl ?_
        refine Y_iadd (a := (5 * (v 11))) (b := 4) hk rfl ?_
        refine E_run hk 1 (j' := 57) (lv' := [(3, yi 1), (2, yi 98), (1, yi (5 * (v 11))), (0, .ref 63)]) (st' := [yi 0, yi ((5 * (v 11)) + 4), .ref 68]) (hp' := H184) rfl ?_
        refine Y_iast (a := ((5 * (v 11)) + 4)) (x := 0) (by omega) (by decide) (by decide) hk rfl e185 (fun H187 e188 f189 => ?_)
        refine E_run hk 2 (j' := 60) (lv' := [(3, yi 1), (2, yi 98), (1, yi (5 * (v 11))), (0, .ref 63)]) (st' := [yi 119, yi 98]) (hp' := H187) rfl ?_
        refine Y_ic_eq (a := 98) (b := 119) (by omega) hk rfl (fun g190 => ?_) (fun g190 => ?_)
        · exfalso; omega
        ·
          refine E_run hk 2 (j' := 63) (lv' := [(3, yi 1), (2, yi 98), (1, yi (5 * (v 11))), (0, .ref 63)]) (st' := [yi 102, yi 98]) (hp' := H187) rfl ?_
          refine Y_ic_eq (a := 98) (b := 102) (by omega) hk rfl (fun g191 => ?_) (fun g191 => ?_)
          · exfalso; omega
          ·
            refine E_run hk 3 (j' := 67) (lv' := [(3, yi 1), (2, yi 98), (1, yi (5 * (v 11))), (0, .ref 63)]) (st' := [yi 58, yi 58, .ref 63]) (hp' := H187) rfl ?_
            refine Y_call hk rfl (as := [.ref 63, yi 58, yi 58]) (rest := []) (v := some (yi (sg X (v 7) a_H5 - 48))) rfl rfl (Nat.le_of_ble_eq_true rfl) (rcv0 (f189.at (by decide) (f186.at (by decide) (f183.at (by decide) (f179.at (by decide) e_H5))))) (Nat.le_of_ble_eq_true rfl) (c_X9_takes (v := (vup (vup (vup v 9 1) 9 w_H5) 8 a_H5)) (f189.at (by decide) (f186.at (by decide) (f183.at (by decide) (f179.at (by decide) e_H5)))) (f189.at (by decide) (f186.at (by decide) (f183.at (by decide) (f179.at (by decide) (f_H5.at (by decide) (f3.at (by decide) hX)))))) hn hc (show 0 ≤ a_H5 ∧ a_H5 ≤ v 7 by omega) (show w_H5 = 0 ∨ w_H5 = 1 by omega) (l := 58) (u := 58) (by omega) (hd := by omega)) (fun H192 r193 => ?_)
            obtain ⟨e0_H192, f_H192⟩ := r193
            obtain ⟨w_H192, hq_H192⟩ : ∃ w, b2 (w_H5 = 1 ∧ 58 ≤ sg X (v 7) a_H5 ∧ sg X (v 7) a_H5 ≤ 58) = w := ⟨_, rfl⟩
            have e_H192 : xat H192 63 = some (yMo (vup (vup (vup (vup (vup v 9 1) 9 w_H5) 8 a_H5) 9 w_H192) 8 (a_H5 + w_H192))) := by rw [← hq_H192]; exact e0_H192
            obtain ⟨k1_H192, k2_H192, k3_H192⟩ := tk_step hc (show 0 ≤ a_H5 ∧ a_H5 ≤ v 7 by omega) (show w_H5 = 0 ∨ w_H5 = 1 by omega) (by omega) hq_H192
            refine E_run hk 3 (j' := 71) (lv' := [(3, yi 1), (2, yi 98), (1, yi (5 * (v 11))), (0, .ref 63)]) (st' := [yi 115, yi 98]) (hp' := H192) rfl ?_
            refine Y_ic_ne (a := 98) (b := 115) (by omega) hk rfl (fun g194 => ?_) (fun g194 => ?_)
            ·
              refine E_run hk 2 (j' := 78) (lv' := [(3, yi 1), (2, yi 98), (1, yi (5 * (v 11))), (0, .ref 63)]) (st' := [yi 114, yi 98]) (hp' := H192) rfl ?_
              refine Y_ic_eq (a := 98) (b := 114) (by omega) hk rfl (fun g195 => ?_) (fun g195 => ?_)
              · exfalso; omega
              ·
                refine E_run hk 2 (j' := 81) (lv' := [(3, yi 1), (2, yi 98), (1, yi (5 * (v 11))), (0, .ref 63)]) (st' := [yi 108, yi 98]) (hp' := H192) rfl ?_
                refine Y_ic_ne (a := 98) (b := 108) (by omega) hk rfl (fun g196 => ?_) (fun g196 => ?_)
                ·
                  refine E_run hk 1 (j' := 94) (lv' := [(3, yi 1), (2, yi 98), (1, yi (5 * (v 11))), (0, .ref 63)]) (st' := [yi 1]) (hp' := H192) rfl ?_
                  refine Y_if_eq (a := 1) (by omega) hk rfl (fun g197 => ?_) (fun g197 => ?_)
                  · exfalso; omega
                  ·
                    refine E_run hk 1 (j' := 96) (lv' := [(3, yi 1), (2, yi 98), (1, yi (5 * (v 11))), (0, .ref 63)]) (st' := [.ref 63]) (hp' := H192) rfl ?_
                    refine E_get (v := .ref 68) hk rfl e_H192 rfl ?_
                    refine E_run hk 2 (j' := 99) (lv' := [(3, yi 1), (2, yi 98), (1, yi (5 * (v 11))), (0, .ref 63)]) (st' := [yi 2, yi (5 * (v 11)), .ref 68]) (hp' := H192) rfl ?_
                    refine Y_iadd (a := (5 * (v 11))) (b := 2) hk rfl ?_
                    refine E_run hk 2 (j' := 102) (lv' := [(3, yi 1), (2, yi 98), (1, yi (5 * (v 11))), (0, .ref 63)]) (st' := [yi 106, yi 98, yi ((5 * (v 11)) + 2), .ref 68]) (hp' := H192) rfl ?_
                    refine Y_ic_ne (a := 98) (b := 106) (by omega) hk rfl (fun g198 => ?_) (fun g198 => ?_)
                    ·
                      refine E_run hk 4 (j' := 112) (lv' := [(3, yi 1), (2, yi 98), (1, yi (5 * (v 11))), (0, .ref 63)]) (st' := [yi 98, yi 98, yi 0, .ref 63, yi ((5 * (v 11)) + 2), .ref 68]) (hp' := H192) rfl ?_
                      refine Y_ic_ne (a := 98) (b := 98) (by omega) hk rfl (fun g199 => ?_) (fun g199 => ?_)
                      · exfalso; omega
                      ·
                        refine E_run hk 2 (j' := 116) (lv' := [(3, yi 1), (2, yi 98), (1, yi (5 * (v 11))), (0, .ref 63)]) (st' := [yi 20, yi 0, .ref 63, yi ((5 * (v 11)) + 2), .ref 68]) (hp' := H192) rfl ?_
                        refine Y_callE hk rfl (as := [.ref 63, yi 0, yi 20]) (rest := [yi ((5 * (v 11)) + 2), .ref 68]) rfl rfl (Nat.le_of_ble_eq_true rfl) (rcv0 e_H192) (Nat.le_of_ble_eq_true rfl) (c_X9_number (v := (vup (vup (vup (vup (vup v 9 1) 9 w_H5) 8 a_H5) 9 w_H192) 8 (a_H5 + w_H192))) e_H192 (f_H192.at (by decide) (f189.at (by decide) (f186.at (by decide) (f183.at (by decide) (f179.at (by decide) (f_H5.at (by decide) (f3.at (by decide) hX))))))) hn hc (show 0 ≤ a_H5 + w_H192 ∧ a_H5 + w_H192 ≤ v 7 by omega) (show w_H192 = 0 ∨ w_H192 = 1 by omega) (l := 0) (u := 20) (by omega) (by omega) (hd := by omega)) (fun z200 H201 r202 => ?_)
                        obtain ⟨a_H201, w_H201, nm_H201, no_H201, zr_H201, e0_H201, f_H201⟩ := r202
                        have e_H201 : xat H201 63 = some (yMo (vup (vup (vup (vup (vup (vup (vup v 9 1) 9 w_H5) 8 a_H5) 9 w_H192) 8 (a_H5 + w_H192)) 9 w_H201) 8 a_H201)) := e0_H201
                        have nm1_H201 : w_H192 = 1 → nmb X (v 7) 0 20 (a_H5 + w_H192) z200 a_H201 w_H201 := nm_H201
                        have no1_H201 : w_H192 = 0 → w_H201 = 0 ∧ a_H201 = a_H5 + w_H192 := no_H201
                        have k_H201 : (w_H201 = 0 ∧ a_H201 = a_H5 + w_H192) ∨ (w_H201 = 1 ∧ w_H192 = 1 ∧ a_H5 + w_H192 < a_H201 ∧ a_H201 ≤ v 7 ∧ 0 ≤ z200 ∧ z200 ≤ 20) := by rcases (show w_H192 = 0 ∨ w_H192 = 1 by omega) with x9 | x9; exact Or.inl (no1_H201 x9); rcases nm1_H201 x9 with ⟨x1, x2, -⟩ | ⟨x1, x2, x3, x4, x5, -⟩; exact Or.inl ⟨x1, x2⟩; exact Or.inr ⟨x1, x9, x2, x3, x4, x5⟩
                        refine Y_iast (a := ((5 * (v 11)) + 2)) (x := z200) (by omega) (by decide) (by decide) hk rfl (f_H201.at (by decide) (f_H192.at (by decide) e188)) (fun H203 e204 f205 => ?_)
                        refine E_run hk 2 (j' := 120) (lv' := [(3, yi 1), (2, yi 98), (1, yi (5 * (v 11))), (0, .ref 63)]) (st' := [.ref 63, .ref 63]) (hp' := H203) rfl ?_
                        refine E_get (v := yi (v 11)) hk rfl (f205.at (by decide) e_H201) rfl ?_
                        refine E_run hk 1 (j' := 122) (lv' := [(3, yi 1), (2, yi 98), (1, yi (5 * (v 11))), (0, .ref 63)]) (st' := [.ref 63, yi (v 11), .ref 63]) (hp' := H203) rfl ?_
                        refine E_get (v := yi w_H201) hk rfl (f205.at (by decide) e_H201) rfl ?_
                        refine Y_if_eq (a := w_H201) (by omega) hk rfl (fun g206 => ?_) (fun g206 => ?_)
                        ·
                          refine E_run hk 1 (j' := 127) (lv' := [(3, yi 1), (2, yi 98), (1, yi (5 * (v 11))), (0, .ref 63)]) (st' := [yi 0, yi (v 11), .ref 63]) (hp' := H203) rfl ?_
                          refine Y_iadd (a := (v 11)) (b := 0) hk rfl ?_
                          refine Y_put hk rfl (f205.at (by decide) e_H201) (by decide) (Nat.le_of_ble_eq_true rfl) rfl (fs' := [yi (v 0), .ref 64, .ref 65, yi (v 3), .ref 66, yi (v 5), .ref 67, yi (v 7), yi a_H201, yi w_H201, .ref 68, yi ((v 11) + 0), .ref 69, yi (v 13), .ref 70, .ref 71, .ref 72, .ref 73, .ref 74, .ref 75, yi (v 20), yi (v 21)]) rfl (fun H207 e208 f209 => ?_)
                          exact E_ret hk rfl rfl (by
      have e9 := e208
      rw [show (v 11) + 0 = v 11 + w_H201 by omega] at e9
      have q0 : chn X (v 7) (v 8) a_H5 w_H5 (fun s => ⟨0, 2, 5, ((wln 5 : Nat) : Int), s.t, s.A⟩) := ch_word rw_H5 (o := 5) (by decide) ((show z4 = 98 by omega).trans (by decide))
      have b0 : (up (up (up (up (up B (5 * (v 11)) 98) ((5 * (v 11)) + 1) 0) ((5 * (v 11)) + 3) (v 13)) ((5 * (v 11)) + 4) 0) ((5 * (v 11)) + 2) z200) (5 * v 11) = 98 := (by repeat (first | rw [up_self] | rw [up_ne _ _ (by omega)]))
      have q1 : chn X (v 7) (v 8) (a_H5 + w_H192) w_H192 (fun s => ⟨0, 3, 5, ((wln 5 : Nat) : Int), s.t, s.A⟩) := ch_take (G' := fun x s => ⟨0, 3, 5, ((wln 5 : Nat) : Int), s.t, s.A⟩) q0 (by omega) (by decide) k3_H192 (fun s x _ x1 x2 => tk2 rfl (by omega)) (fun s x _ x1 => tk2n rfl (by omega)) (fun s _ => by show ¬ ((2 : Int) = 4 ∨ (2 : Int) = 5); decide)
      obtain ⟨qn, qd⟩ := ch_num q1 (by omega) nm1_H201 no1_H201 (fun s _ => (⟨rfl, rfl, rfl, Int.le_refl 0, by show (0 : Int) < 30; decide⟩ : nps 0 20 (⟨0, 3, 5, ((wln 5 : Nat) : Int), s.t, s.A⟩ : rS)))
      have b2 : (up (up (up (up (up B (5 * (v 11)) 98) ((5 * (v 11)) + 1) 0) ((5 * (v 11)) + 3) (v 13)) ((5 * (v 11)) + 4) 0) ((5 * (v 11)) + 2) z200) (5 * v 11 + 2) = z200 := (by repeat (first | rw [up_self] | rw [up_ne _ _ (by omega)]))
      have ln : ∀ s : rS, lnm (up s.A 0 z200) (0 + 1) = z200 := fun s => lnm_up (c := 0) ⟨Int.le_refl 0, by decide⟩
      exact ⟨rfl, a_H201, w_H201, 0, up (up (up (up (up B (5 * (v 11)) 98) ((5 * (v 11)) + 1) 0) ((5 * (v 11)) + 3) (v 13)) ((5 * (v 11)) + 4) 0) ((5 * (v 11)) + 2) z200, C, ch_end4 (o := 5) (by decide) (by decide) qn (fun w1 s hs w2 => by show ¬ dig2 (0 + 1) 5 (lnm (up s.A 0 z200) (0 + 1)) _; rw [ln s]; exact (qd w1).2.2.2.2 s hs w2) (fun w1 s hs => ⟨rfl, rfl, (b0.trans (by decide)), (fun x1 => absurd x1 (by decide)), (fun _ => b2.trans (ln s).symm), (fun x1 => absurd x1 (by decide))⟩), ⟨by omega, by omega⟩, ⟨by omega, by omega, fun _ => by omega⟩, fun x x1 => (by repeat (first | rw [up_self] | rw [up_ne _ _ (by omega)])), fun _ _ => rfl, (by rw [Int.add_zero]; exact e9), (f209.at (by decide) e204), (f209.at (by decide) (f205.at (by decide) (f_H201.at (by decide) (f_H192.at (by decide) (f189.at (by decide) (f186.at (by decide) (f183.at (by decide) (f179.at (by decide) (f_H5.at (by decide) (f3.at (by decide) hC)))))))))), (yfr.tr (yfr.tr (yfr.tr (yfr.tr (yfr.tr (yfr.tr (yfr.tr (yfr.tr (yfr.tr (f3.mono (by decide)) f_H5 (fun _ h => h) (by decide)) f179 (fun _ h => h) (by decide)) f183 (fun _ h => h) (by decide)) f186 (fun _ h => h) (by decide)) f189 (fun _ h => h) (by decide)) f_H192 (fun _ h => h) (by decide)) f_H201 (fun _ h => h) (by decide)) f205 (fun _ h => h) (by decide)) f209 (fun _ h => h) (by decide))⟩)
                        ·
                          refine E_run hk 2 (j' := 127) (lv' := [(3, yi 1), (2, yi 98), (1, yi (5 * (v 11))), (0, .ref 63)]) (st' := [yi 1, yi (v 11), .ref 63]) (hp' := H203) rfl ?_
                          refine Y_iadd (a := (v 11)) (b := 1) hk rfl ?_
                          refine Y_put hk rfl (f205.at (by decide) e_H201) (by decide) (Nat.le_of_ble_eq_true rfl) rfl (fs' := [yi (v 0), .ref 64, .ref 65, yi (v 3), .ref 66, yi (v 5), .ref 67, yi (v 7), yi a_H201, yi w_H201, .ref 68, yi ((v 11) + 1), .ref 69, yi (v 13), .ref 70, .ref 71, .ref 72, .ref 73, .ref 74, .ref 75, yi (v 20), yi (v 21)]) rfl (fun H210 e211 f212 => ?_)
                          exact E_ret hk rfl rfl (by
      have e9 := e211
      rw [show (v 11) + 1 = v 11 + w_H201 by omega] at e9
      have q0 : chn X (v 7) (v 8) a_H5 w_H5 (fun s => ⟨0, 2, 5, ((wln 5 : Nat) : Int), s.t, s.A⟩) := ch_word rw_H5 (o := 5) (by decide) ((show z4 = 98 by omega).trans (by decide))
      have b0 : (up (up (up (up (up B (5 * (v 11)) 98) ((5 * (v 11)) + 1) 0) ((5 * (v 11)) + 3) (v 13)) ((5 * (v 11)) + 4) 0) ((5 * (v 11)) + 2) z200) (5 * v 11) = 98 := (by repeat (first | rw [up_self] | rw [up_ne _ _ (by omega)]))
      have q1 : chn X (v 7) (v 8) (a_H5 + w_H192) w_H192 (fun s => ⟨0, 3, 5, ((wln 5 : Nat) : Int), s.t, s.A⟩) := ch_take (G' := fun x s => ⟨0, 3, 5, ((wln 5 : Nat) : Int), s.t, s.A⟩) q0 (by omega) (by decide) k3_H192 (fun s x _ x1 x2 => tk2 rfl (by omega)) (fun s x _ x1 => tk2n rfl (by omega)) (fun s _ => by show ¬ ((2 : Int) = 4 ∨ (2 : Int) = 5); decide)
      obtain ⟨qn, qd⟩ := ch_num q1 (by omega) nm1_H201 no1_H201 (fun s _ => (⟨rfl, rfl, rfl, Int.le_refl 0, by show (0 : Int) < 30; decide⟩ : nps 0 20 (⟨0, 3, 5, ((wln 5 : Nat) : Int), s.t, s.A⟩ : rS)))
      have b2 : (up (up (up (up (up B (5 * (v 11)) 98) ((5 * (v 11)) + 1) 0) ((5 * (v 11)) + 3) (v 13)) ((5 * (v 11)) + 4) 0) ((5 * (v 11)) + 2) z200) (5 * v 11 + 2) = z200 := (by repeat (first | rw [up_self] | rw [up_ne _ _ (by omega)]))
      have ln : ∀ s : rS, lnm (up s.A 0 z200) (0 + 1) = z200 := fun s => lnm_up (c := 0) ⟨Int.le_refl 0, by decide⟩
      exact ⟨rfl, a_H201, w_H201, 0, up (up (up (up (up B (5 * (v 11)) 98) ((5 * (v 11)) + 1) 0) ((5 * (v 11)) + 3) (v 13)) ((5 * (v 11)) + 4) 0) ((5 * (v 11)) + 2) z200, C, ch_end4 (o := 5) (by decide) (by decide) qn (fun w1 s hs w2 => by show ¬ dig2 (0 + 1) 5 (lnm (up s.A 0 z200) (0 + 1)) _; rw [ln s]; exact (qd w1).2.2.2.2 s hs w2) (fun w1 s hs => ⟨rfl, rfl, (b0.trans (by decide)), (fun x1 => absurd x1 (by decide)), (fun _ => b2.trans (ln s).symm), (fun x1 => absurd x1 (by decide))⟩), ⟨by omega, by omega⟩, ⟨by omega, by omega, fun _ => by omega⟩, fun x x1 => (by repeat (first | rw [up_self] | rw [up_ne _ _ (by omega)])), fun _ _ => rfl, (by rw [Int.add_zero]; exact e9), (f212.at (by decide) e204), (f212.at (by decide) (f205.at (by decide) (f_H201.at (by decide) (f_H192.at (by decide) (f189.at (by decide) (f186.at (by decide) (f183.at (by decide) (f179.at (by decide) (f_H5.at (by decide) (f3.at (by decide) hC)))))))))), (yfr.tr (yfr.tr (yfr.tr (yfr.tr (yfr.tr (yfr.tr (yfr.tr (yfr.tr (yfr.tr (f3.mono (by decide)) f_H5 (fun _ h => h) (by decide)) f179 (fun _ h => h) (by decide)) f183 (fun _ h => h) (by decide)) f186 (fun _ h => h) (by decide)) f189 (fun _ h => h) (by decide)) f_H192 (fun _ h => h) (by decide)) f_H201 (fun _ h => h) (by decide)) f205 (fun _ h => h) (by decide)) f212 (fun _ h => h) (by decide))⟩)
                    · exfalso; omega
                · exfalso; omega
            · exfalso; omega
    · exfalso; omega
  · rw [w7]
    refine E_run hk 2 (j' := 13) (lv' := [(2, yi 104), (1, yi (5 * (v 11))), (0, .ref 63)]) (st' := [yi 98, yi 104]) (hp' := H5) rfl ?_
    refine Y_ic_eq (a := 104) (b := 98) (by omega) hk rfl (fun g213 => ?_) (fun g213 => ?_)
    · exfalso; omega
    ·
      refine E_run hk 2 (j' := 16) (lv' := [(2, yi 104), (1, yi (5 * (v 11))), (0, .ref 63)]) (st' := [yi 104, yi 104]) (hp' := H5) rfl ?_
      refine Y_ic_eq (a := 104) (b := 104) (by omega) hk rfl (fun g214 => ?_) (fun g214 => ?_)
      ·
        refine E_run hk 3 (j' := 24) (lv' := [(3, yi 1), (2, yi 104), (1, yi (5 * (v 11))), (0, .ref 63)]) (st' := []) (hp' := H5) rfl ?_
        refine E_run hk 1 (j' := 25) (lv' := [(3, yi 1), (2, yi 104), (1, yi (5 * (v 11))), (0, .ref 63)]) (st' := [.ref 63]) (hp' := H5) rfl ?_
        refine E_get (v := .ref 68) hk rfl e_H5 rfl ?_
        refine E_run hk 2 (j' := 28) (lv' := [(3, yi 1), (2, yi 104), (1, yi (5 * (v 11))), (0, .ref 63)]) (st' := [yi 104, yi (5 * (v 11)), .ref 68]) (hp' := H5) rfl ?_
        refine Y_iast (a := (5 * (v 11))) (x := 104) (by omega) (by decide) (by decide) hk rfl (f_H5.at (by decide) (f3.at (by decide) hB)) (fun H215 e216 f217 => ?_)
        refine E_run hk 1 (j' := 30) (lv' := [(3, yi 1), (2, yi 104), (1, yi (5 * (v 11))), (0, .ref 63)]) (st' := [.ref 63]) (hp' := H215) rfl ?_
        refine E_get (v := .ref 68) hk rfl (f217.at (by decide) e_H5) rfl ?_
        refine E_run hk 2 (j' := 33) (lv' := [(3, yi 1), (2, yi 104), (1, yi (5 * (v 11))), (0, .ref 63)]) (st' := [yi 1, yi (5 * (v 11)), .ref 68]) (hp' := H215) rfl ?_
        refine Y_iadd (a := (5 * (v 11))) (b := 1) hk rfl ?_
        refine E_run hk 1 (j' := 35) (lv' := [(3, yi 1), (2, yi 104), (1, yi (5 * (v 11))), (0, .ref 63)]) (st' := [yi 1, yi ((5 * (v 11)) + 1), .ref 68]) (hp' := H215) rfl ?_
        refine Y_if_eq (a := 1) (by omega) hk rfl (fun g218 => ?_) (fun g218 => ?_)
        · exfalso; omega
        ·
          refine E_run hk 2 (j' := 42) (lv' := [(3, yi 1), (2, yi 104), (1, yi (5 * (v 11))), (0, .ref 63)]) (st' := [yi 0, yi ((5 * (v 11)) + 1), .ref 68]) (hp' := H215) rfl ?_
          refine Y_iast (a := ((5 * (v 11)) + 1)) (x := 0) (by omega) (by decide) (by decide) hk rfl e216 (fun H219 e220 f221 => ?_)
          refine E_run hk 1 (j' := 44) (lv' := [(3, yi 1), (2, yi 104), (1, yi (5 * (v 11))), (0, .ref 63)]) (st' := [.ref 63]) (hp' := H219) rfl ?_
          refine E_get (v := .ref 68) hk rfl (f221.at (by decide) (f217.at (by decide) e_H5)) rfl ?_
          refine E_run hk 2 (j' := 47) (lv' := [(3, yi 1), (2, yi 104), (1, yi (5 * (v 11))), (0, .ref 63)]) (st' := [yi 3, yi (5 * (v 11)), .ref 68]) (hp' := H219) rfl ?_
          refine Y_iadd (a := (5 * (v 11))) (b := 3) hk rfl ?_
          refine E_run hk 1 (j' := 49) (lv' := [(3, yi 1), (2, yi 104), (1, yi (5 * (v 11))), (0, .ref 63)]) (st' := [.ref 63, yi ((5 * (v 11)) + 3), .ref 68]) (hp' := H219) rfl ?_
          refine E_get (v := yi (v 13)) hk rfl (f221.at (by decide) (f217.at (by decide) e_H5)) rfl ?_
          refine Y_iast (a := ((5 * (v 11)) + 3)) (x := (v 13)) (by omega) (by decide) (by decide) hk rfl e220 (fun H222 e223 f224 => ?_)
          refine E_run hk 1 (j' := 52) (lv' := [(3, yi 1), (2, yi 104), (1, yi (5 * (v 11))), (0, .ref 63)]) (st' := [.ref 63]) (hp' := H222) rfl ?_
          refine E_get (v := .ref 68) hk rfl (f224.at (by decide) (f221.at (by decide) (f217.at (by decide) e_H5))) rfl ?_
          refine E_run hk 2 (j' := 55) (lv' := [(3, yi 1), (2, yi 104), (1, yi (5 * (v 11))), (0, .ref 63)]) (st' := [yi 4, yi (5 * (v 11)), .ref 68]) (hp' := H222) rfl ?_
          refine Y_iadd (a := (5 * (v 11))) (b := 4) hk rfl ?_
          refine E_run hk 1 (j' := 57) (lv' := [(3, yi 1), (2, yi 104), (1, yi (5 * (v 11))), (0, .ref 63)]) (st' := [yi 0, yi ((5 * (v 11)) + 4), .ref 68]) (hp' := H222) rfl ?_
          refine Y_iast (a := ((5 * (v 11)) + 4)) (x := 0) (by omega) (by decide) (by decide) hk rfl e223 (fun H225 e226 f227 => ?_)
          refine E_run hk 2 (j' := 60) (lv' := [(3, yi 1), (2, yi 104), (1, yi (5 * (v 11))), (0, .ref 63)]) (st' := [yi 119, yi 104]) (hp' := H225) rfl ?_
          refine Y_ic_eq (a := 104) (b := 119) (by omega) hk rfl (fun g228 => ?_) (fun g228 => ?_)
          · exfalso; omega
          ·
            refine E_run hk 2 (j' := 63) (lv' := [(3, yi 1), (2, yi 104), (1, yi (5 * (v 11))), (0, .ref 63)]) (st' := [yi 102, yi 104]) (hp' := H225) rfl ?_
            refine Y_ic_eq (a := 104) (b := 102) (by omega) hk rfl (fun g229 => ?_) (fun g229 => ?_)
            · exfalso; omega
            ·
              refine E_run hk 3 (j' := 67) (lv' := [(3, yi 1), (2, yi 104), (1, yi (5 * (v 11))), (0, .ref 63)]) (st' := [yi 58, yi 58, .ref 63]) (hp' := H225) rfl ?_
              refine Y_call hk rfl (as := [.ref 63, yi 58, yi 58]) (rest := []) (v := some (yi (sg X (v 7) a_H5 - 48))) rfl rfl (Nat.le_of_ble_eq_true rfl) (rcv0 (f227.at (by decide) (f224.at (by decide) (f221.at (by decide) (f217.at (by decide) e_H5))))) (Nat.le_of_ble_eq_true rfl) (c_X9_takes (v := (vup (vup (vup v 9 1) 9 w_H5) 8 a_H5)) (f227.at (by decide) (f224.at (by decide) (f221.at (by decide) (f217.at (by decide) e_H5)))) (f227.at (by decide) (f224.at (by decide) (f221.at (by decide) (f217.at (by decide) (f_H5.at (by decide) (f3.at (by decide) hX)))))) hn hc (show 0 ≤ a_H5 ∧ a_H5 ≤ v 7 by omega) (show w_H5 = 0 ∨ w_H5 = 1 by omega) (l := 58) (u := 58) (by omega) (hd := by omega)) (fun H230 r231 => ?_)
              obtain ⟨e0_H230, f_H230⟩ := r231
              obtain ⟨w_H230, hq_H230⟩ : ∃ w, b2 (w_H5 = 1 ∧ 58 ≤ sg X (v 7) a_H5 ∧ sg X (v 7) a_H5 ≤ 58) = w := ⟨_, rfl⟩
              have e_H230 : xat H230 63 = some (yMo (vup (vup (vup (vup (vup v 9 1) 9 w_H5) 8 a_H5) 9 w_H230) 8 (a_H5 + w_H230))) := by rw [← hq_H230]; exact e0_H230
              obtain ⟨k1_H230, k2_H230, k3_H230⟩ := tk_step hc (show 0 ≤ a_H5 ∧ a_H5 ≤ v 7 by omega) (show w_H5 = 0 ∨ w_H5 = 1 by omega) (by omega) hq_H230
              refine E_run hk 3 (j' := 71) (lv' := [(3, yi 1), (2, yi 104), (1, yi (5 * (v 11))), (0, .ref 63)]) (st' := [yi 115, yi 104]) (hp' := H230) rfl ?_
              refine Y_ic_ne (a := 104) (b := 115) (by omega) hk rfl (fun g232 => ?_) (fun g232 => ?_)
              ·
                refine E_run hk 2 (j' := 78) (lv' := [(3, yi 1), (2, yi 104), (1, yi (5 * (v 11))), (0, .ref 63)]) (st' := [yi 114, yi 104]) (hp' := H230) rfl ?_
                refine Y_ic_eq (a := 104) (b := 114) (by omega) hk rfl (fun g233 => ?_) (fun g233 => ?_)
                · exfalso; omega
                ·
                  refine E_run hk 2 (j' := 81) (lv' := [(3, yi 1), (2, yi 104), (1, yi (5 * (v 11))), (0, .ref 63)]) (st' := [yi 108, yi 104]) (hp' := H230) rfl ?_
                  refine Y_ic_ne (a := 104) (b := 108) (by omega) hk rfl (fun g234 => ?_) (fun g234 => ?_)
                  ·
                    refine E_run hk 1 (j' := 94) (lv' := [(3, yi 1), (2, yi 104), (1, yi (5 * (v 11))), (0, .ref 63)]) (st' := [yi 1]) (hp' := H230) rfl ?_
                    refine Y_if_eq (a := 1) (by omega) hk rfl (fun g235 => ?_) (fun g235 => ?_)
                    · exfalso; omega
                    ·
                      refine E_run hk 1 (j' := 96) (lv' := [(3, yi 1), (2, yi 104), (1, yi (5 * (v 11))), (0, .ref 63)]) (st' := [.ref 63]) (hp' := H230) rfl ?_
                      refine E_get (v := .ref 68) hk rfl e_H230 rfl ?_
                      refine E_run hk 2 (j' := 99) (lv' := [(3, yi 1), (2, yi 104), (1, yi (5 * (v 11))), (0, .ref 63)]) (st' := [yi 2, yi (5 * (v 11)), .ref 68]) (hp' := H230) rfl ?_
                      refine Y_iadd (a := (5 * (v 11))) (b := 2) hk rfl ?_
                      refine E_run hk 2 (j' := 102) (lv' := [(3, yi 1), (2, yi 104), (1, yi (5 * (v 11))), (0, .ref 63)]) (st' := [yi 106, yi 104, yi ((5 * (v 11)) + 2), .ref 68]) (hp' := H230) rfl ?_
                      refine Y_ic_ne (a := 104) (b := 106) (by omega) hk rfl (fun g236 => ?_) (fun g236 => ?_)
                      ·
                        refine E_run hk 4 (j' := 112) (lv' := [(3, yi 1), (2, yi 104), (1, yi (5 * (v 11))), (0, .ref 63)]) (st' := [yi 98, yi 104, yi 0, .ref 63, yi ((5 * (v 11)) + 2), .ref 68]) (hp' := H230) rfl ?_
                        refine Y_ic_ne (a := 104) (b := 98) (by omega) hk rfl (fun g237 => ?_) (fun g237 => ?_)
                        ·
                          refine E_run hk 1 (j' := 116) (lv' := [(3, yi 1), (2, yi 104), (1, yi (5 * (v 11))), (0, .ref 63)]) (st' := [yi 50, yi 0, .ref 63, yi ((5 * (v 11)) + 2), .ref 68]) (hp' := H230) rfl ?_
                          refine Y_callE hk rfl (as := [.ref 63, yi 0, yi 50]) (rest := [yi ((5 * (v 11)) + 2), .ref 68]) rfl rfl (Nat.le_of_ble_eq_true rfl) (rcv0 e_H230) (Nat.le_of_ble_eq_true rfl) (c_X9_number (v := (vup (vup (vup (vup (vup v 9 1) 9 w_H5) 8 a_H5) 9 w_H230) 8 (a_H5 + w_H230))) e_H230 (f_H230.at (by decide) (f227.at (by decide) (f224.at (by decide) (f221.at (by decide) (f217.at (by decide) (f_H5.at (by decide) (f3.at (by decide) hX))))))) hn hc (show 0 ≤ a_H5 + w_H230 ∧ a_H5 + w_H230 ≤ v 7 by omega) (show w_H230 = 0 ∨ w_H230 = 1 by omega) (l := 0) (u := 50) (by omega) (by omega) (hd := by omega)) (fun z238 H239 r240 => ?_)
                          obtain ⟨a_H239, w_H239, nm_H239, no_H239, zr_H239, e0_H239, f_H239⟩ := r240
                          have e_H239 : xat H239 63 = some (yMo (vup (vup (vup (vup (vup (vup (vup v 9 1) 9 w_H5) 8 a_H5) 9 w_H230) 8 (a_H5 + w_H230)) 9 w_H239) 8 a_H239)) := e0_H239
                          have nm1_H239 : w_H230 = 1 → nmb X (v 7) 0 50 (a_H5 + w_H230) z238 a_H239 w_H239 := nm_H239
                          have no1_H239 : w_H230 = 0 → w_H239 = 0 ∧ a_H239 = a_H5 + w_H230 := no_H239
                          have k_H239 : (w_H239 = 0 ∧ a_H239 = a_H5 + w_H230) ∨ (w_H239 = 1 ∧ w_H230 = 1 ∧ a_H5 + w_H230 < a_H239 ∧ a_H239 ≤ v 7 ∧ 0 ≤ z238 ∧ z238 ≤ 50) := by rcases (show w_H230 = 0 ∨ w_H230 = 1 by omega) with x9 | x9; exact Or.inl (no1_H239 x9); rcases nm1_H239 x9 with ⟨x1, x2, -⟩ | ⟨x1, x2, x3, x4, x5, -⟩; exact Or.inl ⟨x1, x2⟩; exact Or.inr ⟨x1, x9, x2, x3, x4, x5⟩
                          refine Y_iast (a := ((5 * (v 11)) + 2)) (x := z238) (by omega) (by decide) (by decide) hk rfl (f_H239.at (by decide) (f_H230.at (by decide) e226)) (fun H241 e242 f243 => ?_)
                          refine E_run hk 2 (j' := 120) (lv' := [(3, yi 1), (2, yi 104), (1, yi (5 * (v 11))), (0, .ref 63)]) (st' := [.ref 63, .ref 63]) (hp' := H241) rfl ?_
                          refine E_get (v := yi (v 11)) hk rfl (f243.at (by decide) e_H239) rfl ?_
                          refine E_run hk 1 (j' := 122) (lv' := [(3, yi 1), (2, yi 104), (1, yi (5 * (v 11))), (0, .ref 63)]) (st' := [.ref 63, yi (v 11), .ref 63]) (hp' := H241) rfl ?_
                          refine E_get (v := yi w_H239) hk rfl (f243.at (by decide) e_H239) rfl ?_
                          refine Y_if_eq (a := w_H239) (by omega) hk rfl (fun g244 => ?_) (fun g244 => ?_)
                          ·
                            refine E_run hk 1 (j' := 127) (lv' := [(3, yi 1), (2, yi 104), (1, yi (5 * (v 11))), (0, .ref 63)]) (st' := [yi 0, yi (v 11), .ref 63]) (hp' := H241) rfl ?_
                            refine Y_iadd (a := (v 11)) (b := 0) hk rfl ?_
                            refine Y_put hk rfl (f243.at (by decide) e_H239) (by decide) (Nat.le_of_ble_eq_true rfl) rfl (fs' := [yi (v 0), .ref 64, .ref 65, yi (v 3), .ref 66, yi (v 5), .ref 67, yi (v 7), yi a_H239, yi w_H239, .ref 68, yi ((v 11) + 0), .ref 69, yi (v 13), .ref 70, .ref 71, .ref 72, .ref 73, .ref 74, .ref 75, yi (v 20), yi (v 21)]) rfl (fun H245 e246 f247 => ?_)
                            exact E_ret hk rfl rfl (by
      have e9 := e246
      rw [show (v 11) + 0 = v 11 + w_H239 by omega] at e9
      have q0 : chn X (v 7) (v 8) a_H5 w_H5 (fun s => ⟨0, 2, 6, ((wln 6 : Nat) : Int), s.t, s.A⟩) := ch_word rw_H5 (o := 6) (by decide) ((show z4 = 104 by omega).trans (by decide))
      have b0 : (up (up (up (up (up B (5 * (v 11)) 104) ((5 * (v 11)) + 1) 0) ((5 * (v 11)) + 3) (v 13)) ((5 * (v 11)) + 4) 0) ((5 * (v 11)) + 2) z238) (5 * v 11) = 104 := (by repeat (first | rw [up_self] | rw [up_ne _ _ (by omega)]))
      have q1 : chn X (v 7) (v 8) (a_H5 + w_H230) w_H230 (fun s => ⟨0, 3, 6, ((wln 6 : Nat) : Int), s.t, s.A⟩) := ch_take (G' := fun x s => ⟨0, 3, 6, ((wln 6 : Nat) : Int), s.t, s.A⟩) q0 (by omega) (by decide) k3_H230 (fun s x _ x1 x2 => tk2 rfl (by omega)) (fun s x _ x1 => tk2n rfl (by omega)) (fun s _ => by show ¬ ((2 : Int) = 4 ∨ (2 : Int) = 5); decide)
      obtain ⟨qn, qd⟩ := ch_num q1 (by omega) nm1_H239 no1_H239 (fun s _ => (⟨rfl, rfl, rfl, Int.le_refl 0, by show (0 : Int) < 30; decide⟩ : nps 0 50 (⟨0, 3, 6, ((wln 6 : Nat) : Int), s.t, s.A⟩ : rS)))
      have b2 : (up (up (up (up (up B (5 * (v 11)) 104) ((5 * (v 11)) + 1) 0) ((5 * (v 11)) + 3) (v 13)) ((5 * (v 11)) + 4) 0) ((5 * (v 11)) + 2) z238) (5 * v 11 + 2) = z238 := (by repeat (first | rw [up_self] | rw [up_ne _ _ (by omega)]))
      have ln : ∀ s : rS, lnm (up s.A 0 z238) (0 + 1) = z238 := fun s => lnm_up (c := 0) ⟨Int.le_refl 0, by decide⟩
      exact ⟨rfl, a_H239, w_H239, 0, up (up (up (up (up B (5 * (v 11)) 104) ((5 * (v 11)) + 1) 0) ((5 * (v 11)) + 3) (v 13)) ((5 * (v 11)) + 4) 0) ((5 * (v 11)) + 2) z238, C, ch_end4 (o := 6) (by decide) (by decide) qn (fun w1 s hs w2 => by show ¬ dig2 (0 + 1) 6 (lnm (up s.A 0 z238) (0 + 1)) _; rw [ln s]; exact (qd w1).2.2.2.2 s hs w2) (fun w1 s hs => ⟨rfl, rfl, (b0.trans (by decide)), (fun x1 => absurd x1 (by decide)), (fun _ => b2.trans (ln s).symm), (fun x1 => absurd x1 (by decide))⟩), ⟨by omega, by omega⟩, ⟨by omega, by omega, fun _ => by omega⟩, fun x x1 => (by repeat (first | rw [up_self] | rw [up_ne _ _ (by omega)])), fun _ _ => rfl, (by rw [Int.add_zero]; exact e9), (f247.at (by decide) e242), (f247.at (by decide) (f243.at (by decide) (f_H239.at (by decide) (f_H230.at (by decide) (f227.at (by decide) (f224.at (by decide) (f221.at (by decide) (f217.at (by decide) (f_H5.at (by decide) (f3.at (by decide) hC)))))))))), (yfr.tr (yfr.tr (yfr.tr (yfr.tr (yfr.tr (yfr.tr (yfr.tr (yfr.tr (yfr.tr (f3.mono (by decide)) f_H5 (fun _ h => h) (by decide)) f217 (fun _ h => h) (by decide)) f221 (fun _ h => h) (by decide)) f224 (fun _ h => h) (by decide)) f227 (fun _ h => h) (by decide)) f_H230 (fun _ h => h) (by decide)) f_H239 (fun _ h => h) (by decide)) f243 (fun _ h => h) (by decide)) f247 (fun _ h => h) (by decide))⟩)
                          ·
                            refine E_run hk 2 (j' := 127) (lv' := [(3, yi 1), (2, yi 104), (1, yi (5 * (v 11))), (0, .ref 63)]) (st' := [yi 1, yi (v 11), .ref 63]) (hp' := H241) rfl ?_
                            refine Y_iadd (a := (v 11)) (b := 1) hk rfl ?_
                            refine Y_put hk rfl (f243.at (by decide) e_H239) (by decide) (Nat.le_of_ble_eq_true rfl) rfl (fs' := [yi (v 0), .ref 64, .ref 65, yi (v 3), .ref 66, yi (v 5), .ref 67, yi (v 7), yi a_H239, yi w_H239, .ref 68, yi ((v 11) + 1), .ref 69, yi (v 13), .ref 70, .ref 71, .ref 72, .ref 73, .ref 74, .ref 75, yi (v 20), yi (v 21)]) rfl (fun H248 e249 f250 => ?_)
                            exact E_ret hk rfl rfl (by
      have e9 := e249
      rw [show (v 11) + 1 = v 11 + w_H239 by omega] at e9
      have q0 : chn X (v 7) (v 8) a_H5 w_H5 (fun s => ⟨0, 2, 6, ((wln 6 : Nat) : Int), s.t, s.A⟩) := ch_word rw_H5 (o := 6) (by decide) ((show z4 = 104 by omega).trans (by decide))
      have b0 : (up (up (up (up (up B (5 * (v 11)) 104) ((5 * (v 11)) + 1) 0) ((5 * (v 11)) + 3) (v 13)) ((5 * (v 11)) + 4) 0) ((5 * (v 11)) + 2) z238) (5 * v 11) = 104 := (by repeat (first | rw [up_self] | rw [up_ne _ _ (by omega)]))
      have q1 : chn X (v 7) (v 8) (a_H5 + w_H230) w_H230 (fun s => ⟨0, 3, 6, ((wln 6 : Nat) : Int), s.t, s.A⟩) := ch_take (G' := fun x s => ⟨0, 3, 6, ((wln 6 : Nat) : Int), s.t, s.A⟩) q0 (by omega) (by decide) k3_H230 (fun s x _ x1 x2 => tk2 rfl (by omega)) (fun s x _ x1 => tk2n rfl (by omega)) (fun s _ => by show ¬ ((2 : Int) = 4 ∨ (2 : Int) = 5); decide)
      obtain ⟨qn, qd⟩ := ch_num q1 (by omega) nm1_H239 no1_H239 (fun s _ => (⟨rfl, rfl, rfl, Int.le_refl 0, by show (0 : Int) < 30; decide⟩ : nps 0 50 (⟨0, 3, 6, ((wln 6 : Nat) : Int), s.t, s.A⟩ : rS)))
      have b2 : (up (up (up (up (up B (5 * (v 11)) 104) ((5 * (v 11)) + 1) 0) ((5 * (v 11)) + 3) (v 13)) ((5 * (v 11)) + 4) 0) ((5 * (v 11)) + 2) z238) (5 * v 11 + 2) = z238 := (by repeat (first | rw [up_self] | rw [up_ne _ _ (by omega)]))
      have ln : ∀ s : rS, lnm (up s.A 0 z238) (0 + 1) = z238 := fun s => lnm_up (c := 0) ⟨Int.le_refl 0, by decide⟩
      exact ⟨rfl, a_H239, w_H239, 0, up (up (up (up (up B (5 * (v 11)) 104) ((5 * (v 11)) + 1) 0) ((5 * (v 11)) + 3) (v 13)) ((5 * (v 11)) + 4) 0) ((5 * (v 11)) + 2) z238, C, ch_end4 (o := 6) (by decide) (by decide) qn (fun w1 s hs w2 => by show ¬ dig2 (0 + 1) 6 (lnm (up s.A 0 z238) (0 + 1)) _; rw [ln s]; exact (qd w1).2.2.2.2 s hs w2) (fun w1 s hs => ⟨rfl, rfl, (b0.trans (by decide)), (fun x1 => absurd x1 (by decide)), (fun _ => b2.trans (ln s).symm), (fun x1 => absurd x1 (by decide))⟩), ⟨by omega, by omega⟩, ⟨by omega, by omega, fun _ => by omega⟩, fun x x1 => (by repeat (first | rw [up_self] | rw [up_ne _ _ (by omega)])), fun _ _ => rfl, (by rw [Int.add_zero]; exact e9), (f250.at (by decide) e242), (f250.at (by decide) (f243.at (by decide) (f_H239.at (by decide) (f_H230.at (by decide) (f227.at (by decide) (f224.at (by decide) (f221.at (by decide) (f217.at (by decide) (f_H5.at (by decide) (f3.at (by decide) hC)))))))))), (yfr.tr (yfr.tr (yfr.tr (yfr.tr (yfr.tr (yfr.tr (yfr.tr (yfr.tr (yfr.tr (f3.mono (by decide)) f_H5 (fun _ h => h) (by decide)) f217 (fun _ h => h) (by decide)) f221 (fun _ h => h) (by decide)) f224 (fun _ h => h) (by decide)) f227 (fun _ h => h) (by decide)) f_H230 (fun _ h => h) (by decide)) f_H239 (fun _ h => h) (by decide)) f243 (fun _ h => h) (by decide)) f250 (fun _ h => h) (by decide))⟩)
                        · exfalso; omega
                      · exfalso; omega
                  · exfalso; omega
              · exfalso; omega
      · exfalso; omega
  · rw [w7]
    refine E_run hk 2 (j' := 13) (lv' := [(2, yi 106), (1, yi (5 * (v 11))), (0, .ref 63)]) (st' := [yi 98, yi 106]) (hp' := H5) rfl ?_
    refine Y_ic_eq (a := 106) (b := 98) (by omega) hk rfl (fun g251 => ?_) (fun g251 => ?_)
    · exfalso; omega
    ·
      refine E_run hk 2 (j' := 16) (lv' := [(2, yi 106), (1, yi (5 * (v 11))), (0, .ref 63)]) (st' := [yi 104, yi 106]) (hp' := H5) rfl ?_
      refine Y_ic_eq (a := 106) (b := 104) (by omega) hk rfl (fun g252 => ?_) (fun g252 => ?_)
      · exfalso; omega
      ·
        refine E_run hk 2 (j' := 19) (lv' := [(2, yi 106), (1, yi (5 * (v 11))), (0, .ref 63)]) (st' := [yi 106, yi 106]) (hp' := H5) rfl ?_
        refine Y_ic_ne (a := 106) (b := 106) (by omega) hk rfl (fun g253 => ?_) (fun g253 => ?_)
        · exfalso; omega
        ·
          refine E_run hk 3 (j' := 24) (lv' := [(3, yi 1), (2, yi 106), (1, yi (5 * (v 11))), (0, .ref 63)]) (st' := []) (hp' := H5) rfl ?_
          refine E_run hk 1 (j' := 25) (lv' := [(3, yi 1), (2, yi 106), (1, yi (5 * (v 11))), (0, .ref 63)]) (st' := [.ref 63]) (hp' := H5) rfl ?_
          refine E_get (v := .ref 68) hk rfl e_H5 rfl ?_
          refine E_run hk 2 (j' := 28) (lv' := [(3, yi 1), (2, yi 106), (1, yi (5 * (v 11))), (0, .ref 63)]) (st' := [yi 106, yi (5 * (v 11)), .ref 68]) (hp' := H5) rfl ?_
          refine Y_iast (a := (5 * (v 11))) (x := 106) (by omega) (by decide) (by decide) hk rfl (f_H5.at (by decide) (f3.at (by decide) hB)) (fun H254 e255 f256 => ?_)
          refine E_run hk 1 (j' := 30) (lv' := [(3, yi 1), (2, yi 106), (1, yi (5 * (v 11))), (0, .ref 63)]) (st' := [.ref 63]) (hp' := H254) rfl ?_
          refine E_get (v := .ref 68) hk rfl (f256.at (by decide) e_H5) rfl ?_
          refine E_run hk 2 (j' := 33) (lv' := [(3, yi 1), (2, yi 106), (1, yi (5 * (v 11))), (0, .ref 63)]) (st' := [yi 1, yi (5 * (v 11)), .ref 68]) (hp' := H254) rfl ?_
          refine Y_iadd (a := (5 * (v 11))) (b := 1) hk rfl ?_
          refine E_run hk 1 (j' := 35) (lv' := [(3, yi 1), (2, yi 106), (1, yi (5 * (v 11))), (0, .ref 63)]) (st' := [yi 1, yi ((5 * (v 11)) + 1), .ref 68]) (hp' := H254) rfl ?_
          refine Y_if_eq (a := 1) (by omega) hk rfl (fun g257 => ?_) (fun g257 => ?_)
          · exfalso; omega
          ·
            refine E_run hk 2 (j' := 42) (lv' := [(3, yi 1), (2, yi 106), (1, yi (5 * (v 11))), (0, .ref 63)]) (st' := [yi 0, yi ((5 * (v 11)) + 1), .ref 68]) (hp' := H254) rfl ?_
            refine Y_iast (a := ((5 * (v 11)) + 1)) (x := 0) (by omega) (by decide) (by decide) hk rfl e255 (fun H258 e259 f260 => ?_)
            refine E_run hk 1 (j' := 44) (lv' := [(3, yi 1), (2, yi 106), (1, yi (5 * (v 11))), (0, .ref 63)]) (st' := [.ref 63]) (hp' := H258) rfl ?_
            refine E_get (v := .ref 68) hk rfl (f260.at (by decide) (f256.at (by decide) e_H5)) rfl ?_
            refine E_run hk 2 (j' := 47) (lv' := [(3, yi 1), (2, yi 106), (1, yi (5 * (v 11))), (0, .ref 63)]) (st' := [yi 3, yi (5 * (v 11)), .ref 68]) (hp' := H258) rfl ?_
            refine Y_iadd (a := (5 * (v 11))) (b := 3) hk rfl ?_
            refine E_run hk 1 (j' := 49) (lv' := [(3, yi 1), (2, yi 106), (1, yi (5 * (v 11))), (0, .ref 63)]) (st' := [.ref 63, yi ((5 * (v 11)) + 3), .ref 68]) (hp' := H258) rfl ?_
            refine E_get (v := yi (v 13)) hk rfl (f260.at (by decide) (f256.at (by decide) e_H5)) rfl ?_
            refine Y_iast (a := ((5 * (v 11)) + 3)) (x := (v 13)) (by omega) (by decide) (by decide) hk rfl e259 (fun H261 e262 f263 => ?_)
            refine E_run hk 1 (j' := 52) (lv' := [(3, yi 1), (2, yi 106), (1, yi (5 * (v 11))), (0, .ref 63)]) (st' := [.ref 63]) (hp' := H261) rfl ?_
            refine E_get (v := .ref 68) hk rfl (f263.at (by decide) (f260.at (by decide) (f256.at (by decide) e_H5))) rfl ?_
            refine E_run hk 2 (j' := 55) (lv' := [(3, yi 1), (2, yi 106), (1, yi (5 * (v 11))), (0, .ref 63)]) (st' := [yi 4, yi (5 * (v 11)), .ref 68]) (hp' := H261) rfl ?_
            refine Y_iadd (a := (5 * (v 11))) (b := 4) hk rfl ?_
            refine E_run hk 1 (j' := 57) (lv' := [(3, yi 1), (2, yi 106), (1, yi (5 * (v 11))), (0, .ref 63)]) (st' := [yi 0, yi ((5 * (v 11)) + 4), .ref 68]) (hp' := H261) rfl ?_
            refine Y_iast (a := ((5 * (v 11)) + 4)) (x := 0) (by omega) (by decide) (by decide) hk rfl e262 (fun H264 e265 f266 => ?_)
            refine E_run hk 2 (j' := 60) (lv' := [(3, yi 1), (2, yi 106), (1, yi (5 * (v 11))), (0, .ref 63)]) (st' := [yi 119, yi 106]) (hp' := H264) rfl ?_
            refine Y_ic_eq (a := 106) (b := 119) (by omega) hk rfl (fun g267 => ?_) (fun g267 => ?_)
            · exfalso; omega
            ·
              refine E_run hk 2 (j' := 63) (lv' := [(3, yi 1), (2, yi 106), (1, yi (5 * (v 11))), (0, .ref 63)]) (st' := [yi 102, yi 106]) (hp' := H264) rfl ?_
              refine Y_ic_eq (a := 106) (b := 102) (by omega) hk rfl (fun g268 => ?_) (fun g268 => ?_)
              · exfalso; omega
              ·
                refine E_run hk 3 (j' := 67) (lv' := [(3, yi 1), (2, yi 106), (1, yi (5 * (v 11))), (0, .ref 63)]) (st' := [yi 58, yi 58, .ref 63]) (hp' := H264) rfl ?_
                refine Y_call hk rfl (as := [.ref 63, yi 58, yi 58]) (rest := []) (v := some (yi (sg X (v 7) a_H5 - 48))) rfl rfl (Nat.le_of_ble_eq_true rfl) (rcv0 (f266.at (by decide) (f263.at (by decide) (f260.at (by decide) (f256.at (by decide) e_H5))))) (Nat.le_of_ble_eq_true rfl) (c_X9_takes (v := (vup (vup (vup v 9 1) 9 w_H5) 8 a_H5)) (f266.at (by decide) (f263.at (by decide) (f260.at (by decide) (f256.at (by decide) e_H5)))) (f266.at (by decide) (f263.at (by decide) (f260.at (by decide) (f256.at (by decide) (f_H5.at (by decide) (f3.at (by decide) hX)))))) hn hc (show 0 ≤ a_H5 ∧ a_H5 ≤ v 7 by omega) (show w_H5 = 0 ∨ w_H5 = 1 by omega) (l := 58) (u := 58) (by omega) (hd := by omega)) (fun H269 r270 => ?_)
                obtain ⟨e0_H269, f_H269⟩ := r270
                obtain ⟨w_H269, hq_H269⟩ : ∃ w, b2 (w_H5 = 1 ∧ 58 ≤ sg X (v 7) a_H5 ∧ sg X (v 7) a_H5 ≤ 58) = w := ⟨_, rfl⟩
                have e_H269 : xat H269 63 = some (yMo (vup (vup (vup (vup (vup v 9 1) 9 w_H5) 8 a_H5) 9 w_H269) 8 (a_H5 + w_H269))) := by rw [← hq_H269]; exact e0_H269
                obtain ⟨k1_H269, k2_H269, k3_H269⟩ := tk_step hc (show 0 ≤ a_H5 ∧ a_H5 ≤ v 7 by omega) (show w_H5 = 0 ∨ w_H5 = 1 by omega) (by omega) hq_H269
                refine E_run hk 3 (j' := 71) (lv' := [(3, yi 1), (2, yi 106), (1, yi (5 * (v 11))), (0, .ref 63)]) (st' := [yi 115, yi 106]) (hp' := H269) rfl ?_
                refine Y_ic_ne (a := 106) (b := 115) (by omega) hk rfl (fun g271 => ?_) (fun g271 => ?_)
                ·
                  refine E_run hk 2 (j' := 78) (lv' := [(3, yi 1), (2, yi 106), (1, yi (5 * (v 11))), (0, .ref 63)]) (st' := [yi 114, yi 106]) (hp' := H269) rfl ?_
                  refine Y_ic_eq (a := 106) (b := 114) (by omega) hk rfl (fun g272 => ?_) (fun g272 => ?_)
                  · exfalso; omega
                  ·
                    refine E_run hk 2 (j' := 81) (lv' := [(3, yi 1), (2, yi 106), (1, yi (5 * (v 11))), (0, .ref 63)]) (st' := [yi 108, yi 106]) (hp' := H269) rfl ?_
                    refine Y_ic_ne (a := 106) (b := 108) (by omega) hk rfl (fun g273 => ?_) (fun g273 => ?_)
                    ·
                      refine E_run hk 1 (j' := 94) (lv' := [(3, yi 1), (2, yi 106), (1, yi (5 * (v 11))), (0, .ref 63)]) (st' := [yi 1]) (hp' := H269) rfl ?_
                      refine Y_if_eq (a := 1) (by omega) hk rfl (fun g274 => ?_) (fun g274 => ?_)
                      · exfalso; omega
                      ·
                        refine E_run hk 1 (j' := 96) (lv' := [(3, yi 1), (2, yi 106), (1, yi (5 * (v 11))), (0, .ref 63)]) (st' := [.ref 63]) (hp' := H269) rfl ?_
                        refine E_get (v := .ref 68) hk rfl e_H269 rfl ?_
                        refine E_run hk 2 (j' := 99) (lv' := [(3, yi 1), (2, yi 106), (1, yi (5 * (v 11))), (0, .ref 63)]) (st' := [yi 2, yi (5 * (v 11)), .ref 68]) (hp' := H269) rfl ?_
                        refine Y_iadd (a := (5 * (v 11))) (b := 2) hk rfl ?_
                        refine E_run hk 2 (j' := 102) (lv' := [(3, yi 1), (2, yi 106), (1, yi (5 * (v 11))), (0, .ref 63)]) (st' := [yi 106, yi 106, yi ((5 * (v 11)) + 2), .ref 68]) (hp' := H269) rfl ?_
                        refine Y_ic_ne (a := 106) (b := 106) (by omega) hk rfl (fun g275 => ?_) (fun g275 => ?_)
                        · exfalso; omega
                        ·
                          refine E_run hk 3 (j' := 106) (lv' := [(3, yi 1), (2, yi 106), (1, yi (5 * (v 11))), (0, .ref 63)]) (st' := [yi 51, yi 48, .ref 63, yi ((5 * (v 11)) + 2), .ref 68]) (hp' := H269) rfl ?_
                          refine Y_call hk rfl (as := [.ref 63, yi 48, yi 51]) (rest := [yi ((5 * (v 11)) + 2), .ref 68]) (v := some (yi (sg X (v 7) (a_H5 + w_H269) - 48))) rfl rfl (Nat.le_of_ble_eq_true rfl) (rcv0 e_H269) (Nat.le_of_ble_eq_true rfl) (c_X9_takes (v := (vup (vup (vup (vup (vup v 9 1) 9 w_H5) 8 a_H5) 9 w_H269) 8 (a_H5 + w_H269))) e_H269 (f_H269.at (by decide) (f266.at (by decide) (f263.at (by decide) (f260.at (by decide) (f256.at (by decide) (f_H5.at (by decide) (f3.at (by decide) hX))))))) hn hc (show 0 ≤ a_H5 + w_H269 ∧ a_H5 + w_H269 ≤ v 7 by omega) (show w_H269 = 0 ∨ w_H269 = 1 by omega) (l := 48) (u := 51) (by omega) (hd := by omega)) (fun H276 r277 => ?_)
                          obtain ⟨e0_H276, f_H276⟩ := r277
                          obtain ⟨w_H276, hq_H276⟩ : ∃ w, b2 (w_H269 = 1 ∧ 48 ≤ sg X (v 7) (a_H5 + w_H269) ∧ sg X (v 7) (a_H5 + w_H269) ≤ 51) = w := ⟨_, rfl⟩
                          have e_H276 : xat H276 63 = some (yMo (vup (vup (vup (vup (vup (vup (vup v 9 1) 9 w_H5) 8 a_H5) 9 w_H269) 8 (a_H5 + w_H269)) 9 w_H276) 8 ((a_H5 + w_H269) + w_H276))) := by rw [← hq_H276]; exact e0_H276
                          obtain ⟨k1_H276, k2_H276, k3_H276⟩ := tk_step hc (show 0 ≤ a_H5 + w_H269 ∧ a_H5 + w_H269 ≤ v 7 by omega) (show w_H269 = 0 ∨ w_H269 = 1 by omega) (by omega) hq_H276
                          refine E_run hk 1 (j' := 117) (lv' := [(3, yi 1), (2, yi 106), (1, yi (5 * (v 11))), (0, .ref 63)]) (st' := [yi (sg X (v 7) (a_H5 + w_H269) - 48), yi ((5 * (v 11)) + 2), .ref 68]) (hp' := H276) rfl ?_
                          refine Y_iast (a := ((5 * (v 11)) + 2)) (x := (sg X (v 7) (a_H5 + w_H269) - 48)) (by omega) (by decide) (by decide) hk rfl (f_H276.at (by decide) (f_H269.at (by decide) e265)) (fun H278 e279 f280 => ?_)
                          refine E_run hk 2 (j' := 120) (lv' := [(3, yi 1), (2, yi 106), (1, yi (5 * (v 11))), (0, .ref 63)]) (st' := [.ref 63, .ref 63]) (hp' := H278) rfl ?_
                          refine E_get (v := yi (v 11)) hk rfl (f280.at (by decide) e_H276) rfl ?_
                          refine E_run hk 1 (j' := 122) (lv' := [(3, yi 1), (2, yi 106), (1, yi (5 * (v 11))), (0, .ref 63)]) (st' := [.ref 63, yi (v 11), .ref 63]) (hp' := H278) rfl ?_
                          refine E_get (v := yi w_H276) hk rfl (f280.at (by decide) e_H276) rfl ?_
                          refine Y_if_eq (a := w_H276) (by omega) hk rfl (fun g281 => ?_) (fun g281 => ?_)
                          ·
                            refine E_run hk 1 (j' := 127) (lv' := [(3, yi 1), (2, yi 106), (1, yi (5 * (v 11))), (0, .ref 63)]) (st' := [yi 0, yi (v 11), .ref 63]) (hp' := H278) rfl ?_
                            refine Y_iadd (a := (v 11)) (b := 0) hk rfl ?_
                            refine Y_put hk rfl (f280.at (by decide) e_H276) (by decide) (Nat.le_of_ble_eq_true rfl) rfl (fs' := [yi (v 0), .ref 64, .ref 65, yi (v 3), .ref 66, yi (v 5), .ref 67, yi (v 7), yi ((a_H5 + w_H269) + w_H276), yi w_H276, .ref 68, yi ((v 11) + 0), .ref 69, yi (v 13), .ref 70, .ref 71, .ref 72, .ref 73, .ref 74, .ref 75, yi (v 20), yi (v 21)]) rfl (fun H282 e283 f284 => ?_)
                            exact E_ret hk rfl rfl (by
      have e9 := e283
      rw [show (v 11) + 0 = v 11 + w_H276 by omega] at e9
      have q0 : chn X (v 7) (v 8) a_H5 w_H5 (fun s => ⟨0, 2, 7, ((wln 7 : Nat) : Int), s.t, s.A⟩) := ch_word rw_H5 (o := 7) (by decide) ((show z4 = 106 by omega).trans (by decide))
      have b0 : (up (up (up (up (up B (5 * (v 11)) 106) ((5 * (v 11)) + 1) 0) ((5 * (v 11)) + 3) (v 13)) ((5 * (v 11)) + 4) 0) ((5 * (v 11)) + 2) (sg X (v 7) (a_H5 + w_H269) - 48)) (5 * v 11) = 106 := (by repeat (first | rw [up_self] | rw [up_ne _ _ (by omega)]))
      have q1 : chn X (v 7) (v 8) (a_H5 + w_H269) w_H269 (fun s => ⟨0, 3, 7, ((wln 7 : Nat) : Int), s.t, s.A⟩) := ch_take (G' := fun x s => ⟨0, 3, 7, ((wln 7 : Nat) : Int), s.t, s.A⟩) q0 (by omega) (by decide) k3_H269 (fun s x _ x1 x2 => tk2 rfl (by omega)) (fun s x _ x1 => tk2n rfl (by omega)) (fun s _ => by show ¬ ((2 : Int) = 4 ∨ (2 : Int) = 5); decide)
      have q2 : chn X (v 7) (v 8) (a_H5 + w_H269 + w_H276) w_H276 (fun s => ⟨1, 4, 7, ((wln 7 : Nat) : Int), s.t, up s.A 0 (X (a_H5 + w_H269) - 48)⟩) := ch_take (G' := fun x s => ⟨1, 4, 7, ((wln 7 : Nat) : Int), s.t, up s.A 0 (x - 48)⟩) q1 (by omega) (by decide) k3_H276 (fun s x _ x1 x2 => tk3 rfl (by show dig 0 7 x; have w9 : wlo 7 = 0 := rfl; have w8 : whi 7 = 3 := rfl; unfold dig; omega)) (fun s x _ x1 => tk3n rfl (by show ¬ dig 0 7 x; have w9 : wlo 7 = 0 := rfl; have w8 : whi 7 = 3 := rfl; unfold dig; omega)) (fun s _ => by show ¬ ((3 : Int) = 4 ∨ (3 : Int) = 5); decide)
      have b2 : w_H276 = 1 → (up (up (up (up (up B (5 * (v 11)) 106) ((5 * (v 11)) + 1) 0) ((5 * (v 11)) + 3) (v 13)) ((5 * (v 11)) + 4) 0) ((5 * (v 11)) + 2) (sg X (v 7) (a_H5 + w_H269) - 48)) (5 * v 11 + 2) = X (a_H5 + w_H269) - 48 := fun w1 => (show (up (up (up (up (up B (5 * (v 11)) 106) ((5 * (v 11)) + 1) 0) ((5 * (v 11)) + 3) (v 13)) ((5 * (v 11)) + 4) 0) ((5 * (v 11)) + 2) (sg X (v 7) (a_H5 + w_H269) - 48)) (5 * v 11 + 2) = sg X (v 7) (a_H5 + w_H269) - 48 from (by repeat (first | rw [up_self] | rw [up_ne _ _ (by omega)]))).trans (by rw [sg_in (by omega)])
      have ln : ∀ s : rS, lnm (up s.A 0 (X (a_H5 + w_H269) - 48)) 1 = X (a_H5 + w_H269) - 48 := fun s => lnm_up (c := 0) ⟨Int.le_refl 0, by decide⟩
      exact ⟨rfl, (a_H5 + w_H269) + w_H276, w_H276, 0, up (up (up (up (up B (5 * (v 11)) 106) ((5 * (v 11)) + 1) 0) ((5 * (v 11)) + 3) (v 13)) ((5 * (v 11)) + 4) 0) ((5 * (v 11)) + 2) (sg X (v 7) (a_H5 + w_H269) - 48), C, ch_end4 (o := 7) (by decide) (by decide) q2 (fun w1 s hs w2 => by show ¬ dig2 1 7 (lnm (up s.A 0 (X (a_H5 + w_H269) - 48)) 1) _; rw [ln s]; have w8 : whi 7 = 3 := rfl; unfold dig2; omega) (fun w1 s hs => ⟨rfl, rfl, (b0.trans (by decide)), (fun x1 => absurd x1 (by decide)), (fun _ => (b2 (by omega)).trans (ln s).symm), (fun x1 => absurd x1 (by decide))⟩), ⟨by omega, by omega⟩, ⟨by omega, by omega, fun _ => by omega⟩, fun x x1 => (by repeat (first | rw [up_self] | rw [up_ne _ _ (by omega)])), fun _ _ => rfl, (by rw [Int.add_zero]; exact e9), (f284.at (by decide) e279), (f284.at (by decide) (f280.at (by decide) (f_H276.at (by decide) (f_H269.at (by decide) (f266.at (by decide) (f263.at (by decide) (f260.at (by decide) (f256.at (by decide) (f_H5.at (by decide) (f3.at (by decide) hC)))))))))), (yfr.tr (yfr.tr (yfr.tr (yfr.tr (yfr.tr (yfr.tr (yfr.tr (yfr.tr (yfr.tr (f3.mono (by decide)) f_H5 (fun _ h => h) (by decide)) f256 (fun _ h => h) (by decide)) f260 (fun _ h => h) (by decide)) f263 (fun _ h => h) (by decide)) f266 (fun _ h => h) (by decide)) f_H269 (fun _ h => h) (by decide)) f_H276 (fun _ h => h) (by decide)) f280 (fun _ h => h) (by decide)) f284 (fun _ h => h) (by decide))⟩)
                          ·
                            refine E_run hk 2 (j' := 127) (lv' := [(3, yi 1), (2, yi 106), (1, yi (5 * (v 11))), (0, .ref 63)]) (st' := [yi 1, yi (v 11), .ref 63]) (hp' := H278) rfl ?_
                            refine Y_iadd (a := (v 11)) (b := 1) hk rfl ?_
                            refine Y_put hk rfl (f280.at (by decide) e_H276) (by decide) (Nat.le_of_ble_eq_true rfl) rfl (fs' := [yi (v 0), .ref 64, .ref 65, yi (v 3), .ref 66, yi (v 5), .ref 67, yi (v 7), yi ((a_H5 + w_H269) + w_H276), yi w_H276, .ref 68, yi ((v 11) + 1), .ref 69, yi (v 13), .ref 70, .ref 71, .ref 72, .ref 73, .ref 74, .ref 75, yi (v 20), yi (v 21)]) rfl (fun H285 e286 f287 => ?_)
                            exact E_ret hk rfl rfl (by
      have e9 := e286
      rw [show (v 11) + 1 = v 11 + w_H276 by omega] at e9
      have q0 : chn X (v 7) (v 8) a_H5 w_H5 (fun s => ⟨0, 2, 7, ((wln 7 : Nat) : Int), s.t, s.A⟩) := ch_word rw_H5 (o := 7) (by decide) ((show z4 = 106 by omega).trans (by decide))
      have b0 : (up (up (up (up (up B (5 * (v 11)) 106) ((5 * (v 11)) + 1) 0) ((5 * (v 11)) + 3) (v 13)) ((5 * (v 11)) + 4) 0) ((5 * (v 11)) + 2) (sg X (v 7) (a_H5 + w_H269) - 48)) (5 * v 11) = 106 := (by repeat (first | rw [up_self] | rw [up_ne _ _ (by omega)]))
      have q1 : chn X (v 7) (v 8) (a_H5 + w_H269) w_H269 (fun s => ⟨0, 3, 7, ((wln 7 : Nat) : Int), s.t, s.A⟩) := ch_take (G' := fun x s => ⟨0, 3, 7, ((wln 7 : Nat) : Int), s.t, s.A⟩) q0 (by omega) (by decide) k3_H269 (fun s x _ x1 x2 => tk2 rfl (by omega)) (fun s x _ x1 => tk2n rfl (by omega)) (fun s _ => by show ¬ ((2 : Int) = 4 ∨ (2 : Int) = 5); decide)
      have q2 : chn X (v 7) (v 8) (a_H5 + w_H269 + w_H276) w_H276 (fun s => ⟨1, 4, 7, ((wln 7 : Nat) : Int), s.t, up s.A 0 (X (a_H5 + w_H269) - 48)⟩) := ch_take (G' := fun x s => ⟨1, 4, 7, ((wln 7 : Nat) : Int), s.t, up s.A 0 (x - 48)⟩) q1 (by omega) (by decide) k3_H276 (fun s x _ x1 x2 => tk3 rfl (by show dig 0 7 x; have w9 : wlo 7 = 0 := rfl; have w8 : whi 7 = 3 := rfl; unfold dig; omega)) (fun s x _ x1 => tk3n rfl (by show ¬ dig 0 7 x; have w9 : wlo 7 = 0 := rfl; have w8 : whi 7 = 3 := rfl; unfold dig; omega)) (fun s _ => by show ¬ ((3 : Int) = 4 ∨ (3 : Int) = 5); decide)
      have b2 : w_H276 = 1 → (up (up (up (up (up B (5 * (v 11)) 106) ((5 * (v 11)) + 1) 0) ((5 * (v 11)) + 3) (v 13)) ((5 * (v 11)) + 4) 0) ((5 * (v 11)) + 2) (sg X (v 7) (a_H5 + w_H269) - 48)) (5 * v 11 + 2) = X (a_H5 + w_H269) - 48 := fun w1 => (show (up (up (up (up (up B (5 * (v 11)) 106) ((5 * (v 11)) + 1) 0) ((5 * (v 11)) + 3) (v 13)) ((5 * (v 11)) + 4) 0) ((5 * (v 11)) + 2) (sg X (v 7) (a_H5 + w_H269) - 48)) (5 * v 11 + 2) = sg X (v 7) (a_H5 + w_H269) - 48 from (by repeat (first | rw [up_self] | rw [up_ne _ _ (by omega)]))).trans (by rw [sg_in (by omega)])
      have ln : ∀ s : rS, lnm (up s.A 0 (X (a_H5 + w_H269) - 48)) 1 = X (a_H5 + w_H269) - 48 := fun s => lnm_up (c := 0) ⟨Int.le_refl 0, by decide⟩
      exact ⟨rfl, (a_H5 + w_H269) + w_H276, w_H276, 0, up (up (up (up (up B (5 * (v 11)) 106) ((5 * (v 11)) + 1) 0) ((5 * (v 11)) + 3) (v 13)) ((5 * (v 11)) + 4) 0) ((5 * (v 11)) + 2) (sg X (v 7) (a_H5 + w_H269) - 48), C, ch_end4 (o := 7) (by decide) (by decide) q2 (fun w1 s hs w2 => by show ¬ dig2 1 7 (lnm (up s.A 0 (X (a_H5 + w_H269) - 48)) 1) _; rw [ln s]; have w8 : whi 7 = 3 := rfl; unfold dig2; omega) (fun w1 s hs => ⟨rfl, rfl, (b0.trans (by decide)), (fun x1 => absurd x1 (by decide)), (fun _ => (b2 (by omega)).trans (ln s).symm), (fun x1 => absurd x1 (by decide))⟩), ⟨by omega, by omega⟩, ⟨by omega, by omega, fun _ => by omega⟩, fun x x1 => (by repeat (first | rw [up_self] | rw [up_ne _ _ (by omega)])), fun _ _ => rfl, (by rw [Int.add_zero]; exact e9), (f287.at (by decide) e279), (f287.at (by decide) (f280.at (by decide) (f_H276.at (by decide) (f_H269.at (by decide) (f266.at (by decide) (f263.at (by decide) (f260.at (by decide) (f256.at (by decide) (f_H5.at (by decide) (f3.at (by decide) hC)))))))))), (yfr.tr (yfr.tr (yfr.tr (yfr.tr (yfr.tr (yfr.tr (yfr.tr (yfr.tr (yfr.tr (f3.mono (by decide)) f_H5 (fun _ h => h) (by decide)) f256 (fun _ h => h) (by decide)) f260 (fun _ h => h) (by decide)) f263 (fun _ h => h) (by decide)) f266 (fun _ h => h) (by decide)) f_H269 (fun _ h => h) (by decide)) f_H276 (fun _ h => h) (by decide)) f280 (fun _ h => h) (by decide)) f287 (fun _ h => h) (by decide))⟩)
                    · exfalso; omega
                · exfalso; omega
