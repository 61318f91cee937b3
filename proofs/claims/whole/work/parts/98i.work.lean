/-! The reference reads a text, and does it. -/
theorem c_X9_readsPart {d : Nat} {hp : xH} {v : Nat → Int} (hM : xat hp 63 = some (yMo v)) {X : Int → Int} (hX : xat hp 67 = some (yI 60 X)) (hn : 0 ≤ v 7 ∧ v 7 ≤ 60) (hc : ∀ q, 0 ≤ q → q < v 7 → 33 ≤ X q ∧ X q ≤ 126) (ha : 0 ≤ v 8 ∧ v 8 ≤ v 7) {B C : Int → Int} (hB : xat hp 68 = some (yI 60 B)) (hC : xat hp 69 = some (yI 60 C)) (hm : 0 ≤ v 13 ∧ 2 * v 13 ≤ v 8) (hpn : 0 ≤ v 11 ∧ 6 * v 11 ≤ v 8) (hd : 4 ≤ d) : Cv d 204 [.ref 63] hp (yR none (fun h => ∃ a2 w2 k b c, ((w2 = 1 ∧ okp X (v 7) (v 8) a2 b c (5 * v 11) (v 13) k) ∨ (w2 = 0 ∧ badp X (v 7) (v 8) a2)) ∧ (0 ≤ k ∧ 2 * k ≤ a2 - v 8) ∧ (v 8 ≤ a2 ∧ a2 ≤ v 7 ∧ (w2 = 1 → v 8 + 5 ≤ a2)) ∧ (∀ x, x < 5 * v 11 → b x = B x) ∧ (∀ x, x < v 13 → c x = C x) ∧ xat h 63 = some (yMo (vup (vup (vup (vup v 9 w2) 8 a2) 13 (v 13 + k)) 11 (v 11 + w2))) ∧ xat h 68 = some (yI 60 b) ∧ xat h 69 = some (yI 60 c) ∧ yfr [63, 68, 69] hp h)) := by
  by_cases hg : iwd X (v 7) (v 8)
  · exact c_partGood hM hX hn hc ha hB hC hm hpn hg hd
  · exact c_partBad hM hX hn hc ha hB hC hm hpn hg hd
theorem c_X9_readsWorks {d : Nat} {hp : xH} {v : Nat → Int} (hM : xat hp 63 = some (yMo v)) {X : Int → Int} (hX : xat hp 67 = some (yI 60 X)) (hn : 0 ≤ v 7 ∧ v 7 ≤ 60) (hc : ∀ q, 0 ≤ q → q < v 7 → 33 ≤ X q ∧ X q ≤ 126) {B C : Int → Int} (hB : xat hp 68 = some (yI 60 B)) (hC : xat hp 69 = some (yI 60 C)) (hd : 5 ≤ d) : Cv d 205 [.ref 63] hp (yE (fun z h => ∃ a pn m b c, ((z = 1 ∧ a = v 7 ∧ glb X (v 7) pn.toNat (v 7) m b c) ∨ (z = 0 ∧ gbad X (v 7) a)) ∧ (0 ≤ pn ∧ 6 * pn ≤ v 7 + 1 ∧ 0 ≤ m ∧ 2 * m ≤ v 7) ∧ (0 ≤ a ∧ a ≤ v 7) ∧ xat h 63 = some (yMo (vup (vup (vup (vup v 9 z) 8 a) 13 m) 11 pn)) ∧ xat h 68 = some (yI 60 b) ∧ xat h 69 = some (yI 60 c) ∧ yfr [63, 68, 69] hp h)) := by
  have hk : xtab 205 = (xc_205, 1, 2, []) := rfl
  obtain ⟨d, rfl⟩ : ∃ e, d = e + 1 := ⟨d - 1, by omega⟩
  show Ev (d + 1) 205 0 [(0, .ref 63)] [] hp _
  refine E_run hk 2 (j' := 2) (lv' := [(0, .ref 63)]) (st' := [yi 0, .ref 63]) (hp' := hp) rfl ?_
  refine Y_put hk rfl hM (by decide) (Nat.le_of_ble_eq_true rfl) rfl (fs' := [yi (v 0), .ref 64, .ref 65, yi (v 3), .ref 66, yi (v 5), .ref 67, yi (v 7), yi 0, yi (v 9), .ref 68, yi (v 11), .ref 69, yi (v 13), .ref 70, .ref 71, .ref 72, .ref 73, .ref 74, .ref 75, yi (v 20), yi (v 21)]) rfl (fun H1 e2 f3 => ?_)
  refine E_run hk 2 (j' := 5) (lv' := [(0, .ref 63)]) (st' := [yi 0, .ref 63]) (hp' := H1) rfl ?_
  refine Y_put hk rfl e2 (by decide) (Nat.le_of_ble_eq_true rfl) rfl (fs' := [yi (v 0), .ref 64, .ref 65, yi (v 3), .ref 66, yi (v 5), .ref 67, yi (v 7), yi 0, yi (v 9), .ref 68, yi 0, .ref 69, yi (v 13), .ref 70, .ref 71, .ref 72, .ref 73, .ref 74, .ref 75, yi (v 20), yi (v 21)]) rfl (fun H4 e5 f6 => ?_)
  refine E_run hk 2 (j' := 8) (lv' := [(0, .ref 63)]) (st' := [yi 0, .ref 63]) (hp' := H4) rfl ?_
  refine Y_put hk rfl e5 (by decide) (Nat.le_of_ble_eq_true rfl) rfl (fs' := [yi (v 0), .ref 64, .ref 65, yi (v 3), .ref 66, yi (v 5), .ref 67, yi (v 7), yi 0, yi (v 9), .ref 68, yi 0, .ref 69, yi 0, .ref 70, .ref 71, .ref 72, .ref 73, .ref 74, .ref 75, yi (v 20), yi (v 21)]) rfl (fun H7 e8 f9 => ?_)
  refine E_run hk 1 (j' := 10) (lv' := [(0, .ref 63)]) (st' := [.ref 63]) (hp' := H7) rfl ?_
  refine Y_call hk rfl (as := [.ref 63]) (rest := []) (v := none) rfl rfl (Nat.le_of_ble_eq_true rfl) (rcv0 e8) (Nat.le_of_ble_eq_true rfl) (c_X9_readsPart (v := (vup (vup (vup v 8 0) 11 0) 13 0)) e8 (f9.at (by decide) (f6.at (by decide) (f3.at (by decide) hX))) hn hc (show (0 : Int) ≤ 0 ∧ 0 ≤ (v 7) by omega) (f9.at (by decide) (f6.at (by decide) (f3.at (by decide) hB))) (f9.at (by decide) (f6.at (by decide) (f3.at (by decide) hC))) (show (0 : Int) ≤ 0 ∧ 2 * 0 ≤ (0 : Int) by omega) (show (0 : Int) ≤ 0 ∧ 6 * 0 ≤ (0 : Int) by omega) (hd := by omega)) (fun H10 r11 => ?_)
  obtain ⟨a_H10, w_H10, kk_H10, b_H10, c_H10, pp0_H10, pk0_H10, pa0_H10, pb0_H10, pc0_H10, e0_H10, eb_H10, ec_H10, f_H10⟩ := r11
  have e_H10 : xat H10 63 = some (yMo (vup (vup (vup (vup (vup (vup (vup v 8 0) 11 0) 13 0) 9 w_H10) 8 a_H10) 13 (0 + kk_H10)) 11 (0 + w_H10))) := e0_H10
  have pp_H10 : (w_H10 = 1 ∧ okp X (v 7) 0 a_H10 b_H10 c_H10 (5 * 0) 0 kk_H10) ∨ (w_H10 = 0 ∧ badp X (v 7) 0 a_H10) := pp0_H10
  have pk_H10 : 0 ≤ kk_H10 ∧ 2 * kk_H10 ≤ a_H10 - 0 := pk0_H10
  have pa_H10 : 0 ≤ a_H10 ∧ a_H10 ≤ (v 7) ∧ (w_H10 = 1 → 0 + 5 ≤ a_H10) := pa0_H10
  have pb_H10 : ∀ x : Int, x < 5 * 0 → b_H10 x = B x := pb0_H10
  have pc_H10 : ∀ x : Int, x < 0 → c_H10 x = C x := pc0_H10
  have pw_H10 : w_H10 = 0 ∨ w_H10 = 1 := by rcases pp_H10 with ⟨x1, -⟩ | ⟨x1, -⟩; exact Or.inr x1; exact Or.inl x1
  have loop11 : ∀ (N : Nat) (a : Int) (wv : Int) (m : Int) (pn : Int) (b : Int → Int) (c : Int → Int) (hl11 : xH), (wv = 0 ∨ wv = 1) → (0 ≤ a ∧ a ≤ v 7) → (0 ≤ m ∧ 2 * m ≤ a ∧ 0 ≤ pn ∧ 6 * pn ≤ a + 1) → (wv = 1 → glb X (v 7) pn.toNat a m b c) → (wv = 0 → gbad X (v 7) a) → (xat hl11 63 = some (yMo (vup (vup (vup (vup v 9 wv) 8 a) 13 m) 11 pn))) → (xat hl11 68 = some (yI 60 b)) → (xat hl11 69 = some (yI 60 c)) → (yfr [63, 68, 69] H10 hl11) → (2 * (v 7 - a) + wv).toNat = N → Ev (d + 1) 205 11 [(0, .ref 63)] [] hl11 (yE (fun z h => ∃ a pn m b c, ((z = 1 ∧ a = v 7 ∧ glb X (v 7) pn.toNat (v 7) m b c) ∨ (z = 0 ∧ gbad X (v 7) a)) ∧ (0 ≤ pn ∧ 6 * pn ≤ v 7 + 1 ∧ 0 ≤ m ∧ 2 * m ≤ v 7) ∧ (0 ≤ a ∧ a ≤ v 7) ∧ xat h 63 = some (yMo (vup (vup (vup (vup v 9 z) 8 a) 13 m) 11 pn)) ∧ xat h 68 = some (yI 60 b) ∧ xat h 69 = some (yI 60 c) ∧ yfr [63, 68, 69] hp h)) := by
    intro N
    induction N using Nat.strongRecOn with
    | ind N ih11 =>
      intro a wv m pn b c hl11 Jw Ja Jm J1 J0 ec11_63 ec11_68 ec11_69 fr11 hm11
      refine E_run hk 1 (j' := 12) (lv' := [(0, .ref 63)]) (st' := [.ref 63]) (hp' := hl11) rfl ?_
      refine E_get (v := yi wv) hk rfl ec11_63 rfl ?_
      refine Y_if_eq (a := wv) (by omega) hk rfl (fun g12 => ?_) (fun g12 => ?_)
      ·
        refine E_run hk 1 (j' := 31) (lv' := [(0, .ref 63)]) (st' := [.ref 63]) (hp' := hl11) rfl ?_
        refine E_get (v := yi wv) hk rfl ec11_63 rfl ?_
        exact E_ret hk rfl (xret_01 (by omega)) ⟨wv, rfl, a, pn, m, b, c, (by rcases Jw with x9 | x9; exact Or.inr ⟨x9, J0 x9⟩; exact Or.inl ⟨x9, by omega, by have q9 := J1 x9; rw [show a = v 7 by omega] at q9; exact q9⟩), by omega, Ja, ec11_63, ec11_68, ec11_69, (yfr.tr (yfr.tr (yfr.tr (yfr.tr (f3.mono (by decide)) f6 (fun _ h => h) (by decide)) f9 (fun _ h => h) (by decide)) f_H10 (fun _ h => h) (by decide)) fr11 (fun _ h => h) (by decide))⟩
      ·
        refine E_run hk 1 (j' := 15) (lv' := [(0, .ref 63)]) (st' := [.ref 63]) (hp' := hl11) rfl ?_
        refine E_get (v := yi a) hk rfl ec11_63 rfl ?_
        refine E_run hk 1 (j' := 17) (lv' := [(0, .ref 63)]) (st' := [.ref 63, yi a]) (hp' := hl11) rfl ?_
        refine E_get (v := yi (v 7)) hk rfl ec11_63 rfl ?_
        refine Y_ic_ge (a := a) (b := (v 7)) (by omega) hk rfl (fun g13 => ?_) (fun g13 => ?_)
        ·
          refine E_run hk 1 (j' := 31) (lv' := [(0, .ref 63)]) (st' := [.ref 63]) (hp' := hl11) rfl ?_
          refine E_get (v := yi wv) hk rfl ec11_63 rfl ?_
          exact E_ret hk rfl (xret_01 (by omega)) ⟨wv, rfl, a, pn, m, b, c, (by rcases Jw with x9 | x9; exact Or.inr ⟨x9, J0 x9⟩; exact Or.inl ⟨x9, by omega, by have q9 := J1 x9; rw [show a = v 7 by omega] at q9; exact q9⟩), by omega, Ja, ec11_63, ec11_68, ec11_69, (yfr.tr (yfr.tr (yfr.tr (yfr.tr (f3.mono (by decide)) f6 (fun _ h => h) (by decide)) f9 (fun _ h => h) (by decide)) f_H10 (fun _ h => h) (by decide)) fr11 (fun _ h => h) (by decide))⟩
        ·
          refine E_run hk 3 (j' := 22) (lv' := [(0, .ref 63)]) (st' := [yi 59, yi 59, .ref 63]) (hp' := hl11) rfl ?_
          refine Y_call hk rfl (as := [.ref 63, yi 59, yi 59]) (rest := []) (v := some (yi (sg X (v 7) a - 48))) rfl rfl (Nat.le_of_ble_eq_true rfl) (rcv0 ec11_63) (Nat.le_of_ble_eq_true rfl) (c_X9_takes (v := (vup (vup (vup (vup v 9 wv) 8 a) 13 m) 11 pn)) ec11_63 (fr11.at (by decide) (f_H10.at (by decide) (f9.at (by decide) (f6.at (by decide) (f3.at (by decide) hX))))) hn hc (show 0 ≤ a ∧ a ≤ v 7 by omega) (show wv = 0 ∨ wv = 1 by omega) (l := 59) (u := 59) (by omega) (hd := by omega)) (fun H14 r15 => ?_)
          obtain ⟨e0_H14, f_H14⟩ := r15
          obtain ⟨w_H14, hq_H14⟩ : ∃ w, b2 (wv = 1 ∧ 59 ≤ sg X (v 7) a ∧ sg X (v 7) a ≤ 59) = w := ⟨_, rfl⟩
          have e_H14 : xat H14 63 = some (yMo (vup (vup (vup (vup (vup (vup v 9 wv) 8 a) 13 m) 11 pn) 9 w_H14) 8 (a + w_H14))) := by rw [← hq_H14]; exact e0_H14
          obtain ⟨k1_H14, k2_H14, k3_H14⟩ := tk_step hc (show 0 ≤ a ∧ a ≤ v 7 by omega) (show wv = 0 ∨ wv = 1 by omega) (by omega) hq_H14
          refine E_run hk 2 (j' := 25) (lv' := [(0, .ref 63)]) (st' := [.ref 63]) (hp' := H14) rfl ?_
          refine E_get (v := yi w_H14) hk rfl e_H14 rfl ?_
          refine Y_if_eq (a := w_H14) (by omega) hk rfl (fun g16 => ?_) (fun g16 => ?_)
          ·
            exact Ev_le (xle_s rfl rfl (xle_z _ rfl)) (ih11 _ (by omega) (a + w_H14) w_H14 m pn b c H14 (by omega) (by omega) (by omega) (fun x9 => absurd x9 (by omega)) (fun _ => by rw [show a + w_H14 = a by omega]; exact glb_stop (J1 (by omega)) ⟨by omega, fun x9 => by omega⟩) e_H14 (f_H14.at (by decide) ec11_68) (f_H14.at (by decide) ec11_69) (yfr.tr fr11 f_H14 (fun _ h => h) (by decide)) rfl)
          ·
            refine E_run hk 1 (j' := 28) (lv' := [(0, .ref 63)]) (st' := [.ref 63]) (hp' := H14) rfl ?_
            refine Y_call hk rfl (as := [.ref 63]) (rest := []) (v := none) rfl rfl (Nat.le_of_ble_eq_true rfl) (rcv0 e_H14) (Nat.le_of_ble_eq_true rfl) (c_X9_readsPart (v := (vup (vup (vup (vup (vup (vup v 9 wv) 8 a) 13 m) 11 pn) 9 w_H14) 8 (a + w_H14))) e_H14 (f_H14.at (by decide) (fr11.at (by decide) (f_H10.at (by decide) (f9.at (by decide) (f6.at (by decide) (f3.at (by decide) hX)))))) hn hc (show (0 : Int) ≤ (a + w_H14) ∧ (a + w_H14) ≤ (v 7) by omega) (f_H14.at (by decide) ec11_68) (f_H14.at (by decide) ec11_69) (show (0 : Int) ≤ m ∧ 2 * m ≤ ((a + w_H14) : Int) by omega) (show (0 : Int) ≤ pn ∧ 6 * pn ≤ ((a + w_H14) : Int) by omega) (hd := by omega)) (fun H17 r18 => ?_)
            obtain ⟨a_H17, w_H17, kk_H17, b_H17, c_H17, pp0_H17, pk0_H17, pa0_H17, pb0_H17, pc0_H17, e0_H17, eb_H17, ec_H17, f_H17⟩ := r18
            have e_H17 : xat H17 63 = some (yMo (vup (vup (vup (vup (vup (vup (vup (vup (vup (vup v 9 wv) 8 a) 13 m) 11 pn) 9 w_H14) 8 (a + w_H14)) 9 w_H17) 8 a_H17) 13 (m + kk_H17)) 11 (pn + w_H17))) := e0_H17
            have pp_H17 : (w_H17 = 1 ∧ okp X (v 7) (a + w_H14) a_H17 b_H17 c_H17 (5 * pn) m kk_H17) ∨ (w_H17 = 0 ∧ badp X (v 7) (a + w_H14) a_H17) := pp0_H17
            have pk_H17 : 0 ≤ kk_H17 ∧ 2 * kk_H17 ≤ a_H17 - (a + w_H14) := pk0_H17
            have pa_H17 : (a + w_H14) ≤ a_H17 ∧ a_H17 ≤ (v 7) ∧ (w_H17 = 1 → (a + w_H14) + 5 ≤ a_H17) := pa0_H17
            have pb_H17 : ∀ x : Int, x < 5 * pn → b_H17 x = b x := pb0_H17
            have pc_H17 : ∀ x : Int, x < m → c_H17 x = c x := pc0_H17
            have pw_H17 : w_H17 = 0 ∨ w_H17 = 1 := by rcases pp_H17 with ⟨x1, -⟩ | ⟨x1, -⟩; exact Or.inr x1; exact Or.inl x1
            refine E_run hk 1 (j' := 11) (lv' := [(0, .ref 63)]) (st' := []) (hp' := H17) rfl ?_
            exact Ev_le (xle_s rfl rfl (xle_z _ rfl)) (ih11 _ (by omega) a_H17 w_H17 (m + kk_H17) (pn + w_H17) b_H17 c_H17 H17 (by omega) (by omega) (by omega) (fun x9 => by have g9 := J1 (by omega); rcases pp_H17 with ⟨x1, x2⟩ | ⟨x1, -⟩; have x3 : okp X (v 7) (a + 1) a_H17 b_H17 c_H17 (5 * ((pn.toNat : Nat) : Int)) m kk_H17 := (by rw [show ((pn.toNat : Nat) : Int) = pn by omega, show a + 1 = a + w_H14 by omega]; exact x2); rw [show (pn + w_H17).toNat = pn.toNat + 1 by omega]; exact glb_next g9 ⟨by omega, by omega⟩ x3 (by omega) pk_H17.1 (fun x x9 => pb_H17 x (by omega)) pc_H17; omega) (fun x9 => by rcases pp_H17 with ⟨x1, -⟩ | ⟨-, x2⟩; omega; exact glb_bad (J1 (by omega)) ⟨by omega, by omega⟩ (by rw [show a + 1 = a + w_H14 by omega]; exact x2) (by omega)) e_H17 eb_H17 ec_H17 (yfr.tr (yfr.tr fr11 f_H14 (fun _ h => h) (by decide)) f_H17 (fun _ h => h) (by decide)) rfl)
  exact Ev_le (xle_s rfl rfl (xle_z _ rfl)) (loop11 _ a_H10 w_H10 (0 + kk_H10) (0 + w_H10) b_H10 c_H10 H10 (by omega) (by omega) (by omega) (fun x9 => by rcases pp_H10 with ⟨x1, x2⟩ | ⟨x1, -⟩; rw [show (0 + w_H10).toNat = 1 by omega, show 0 + kk_H10 = kk_H10 by omega]; exact glb_first x2 (by omega) pk_H10.1; omega) (fun x9 => by rcases pp_H10 with ⟨x1, -⟩ | ⟨-, x2⟩; omega; exact gbad_first x2 (by omega)) e_H10 eb_H10 ec_H10 (yfr.refl _ _) rfl)
theorem c_X9_firstError {d : Nat} {hp : xH} {v : Nat → Int} (hM : xat hp 63 = some (yMo v)) {X : Int → Int} (hX : xat hp 67 = some (yI 60 X)) (hn : 0 ≤ v 7 ∧ v 7 ≤ 60) (hc : ∀ q, 0 ≤ q → q < v 7 → 33 ≤ X q ∧ X q ≤ 126) {B C : Int → Int} (hB : xat hp 68 = some (yI 60 B)) (hC : xat hp 69 = some (yI 60 C)) (hd : 6 ≤ d) : Cv d 206 [.ref 63] hp (yE (fun z h => ∃ a w pn m b c, ((z = v 7 ∧ glb X (v 7) pn.toNat (v 7) m b c) ∨ (gbad X (v 7) z ∧ 0 ≤ z ∧ z ≤ v 7)) ∧ xat h 63 = some (yMo (vup (vup (vup (vup (vup v 0 0) 9 w) 8 a) 13 m) 11 pn)) ∧ xat h 68 = some (yI 60 b) ∧ xat h 69 = some (yI 60 c) ∧ yfr [63, 68, 69] hp h)) := by
  have hk : xtab 206 = (xc_206, 1, 1, []) := rfl
  obtain ⟨d, rfl⟩ : ∃ e, d = e + 1 := ⟨d - 1, by omega⟩
  show Ev (d + 1) 206 0 [(0, .ref 63)] [] hp _
  refine E_run hk 2 (j' := 2) (lv' := [(0, .ref 63)]) (st' := [yi 0, .ref 63]) (hp' := hp) rfl ?_
  refine Y_put hk rfl hM (by decide) (Nat.le_of_ble_eq_true rfl) rfl (fs' := [yi 0, .ref 64, .ref 65, yi (v 3), .ref 66, yi (v 5), .ref 67, yi (v 7), yi (v 8), yi (v 9), .ref 68, yi (v 11), .ref 69, yi (v 13), .ref 70, .ref 71, .ref 72, .ref 73, .ref 74, .ref 75, yi (v 20), yi (v 21)]) rfl (fun H1 e2 f3 => ?_)
  refine E_run hk 1 (j' := 4) (lv' := [(0, .ref 63)]) (st' := [.ref 63]) (hp' := H1) rfl ?_
  refine Y_callE hk rfl (as := [.ref 63]) (rest := []) rfl rfl (Nat.le_of_ble_eq_true rfl) (rcv0 e2) (Nat.le_of_ble_eq_true rfl) (c_X9_readsWorks (v := (vup v 0 0)) e2 (f3.at (by decide) hX) hn hc (f3.at (by decide) hB) (f3.at (by decide) hC) (hd := by omega)) (fun z4 H5 r6 => ?_)
  obtain ⟨a_H5, p_H5, m_H5, b_H5, c_H5, rr0_H5, rp0_H5, ra0_H5, e0_H5, eb_H5, ec_H5, f_H5⟩ := r6
  have e_H5 : xat H5 63 = some (yMo (vup (vup (vup (vup (vup v 0 0) 9 z4) 8 a_H5) 13 m_H5) 11 p_H5)) := e0_H5
  have rr_H5 : (z4 = 1 ∧ a_H5 = (v 7) ∧ glb X (v 7) p_H5.toNat (v 7) m_H5 b_H5 c_H5) ∨ (z4 = 0 ∧ gbad X (v 7) a_H5) := rr0_H5
  have rp_H5 : 0 ≤ p_H5 ∧ 6 * p_H5 ≤ (v 7) + 1 ∧ 0 ≤ m_H5 ∧ 2 * m_H5 ≤ (v 7) := rp0_H5
  have ra_H5 : 0 ≤ a_H5 ∧ a_H5 ≤ (v 7) := ra0_H5
  refine Y_if_eq (a := z4) (by omega) hk rfl (fun g7 => ?_) (fun g7 => ?_)
  ·
    refine E_run hk 1 (j' := 10) (lv' := [(0, .ref 63)]) (st' := [.ref 63]) (hp' := H5) rfl ?_
    refine E_get (v := yi a_H5) hk rfl e_H5 rfl ?_
    exact E_ret hk rfl rfl ⟨_, rfl, a_H5, z4, p_H5, m_H5, b_H5, c_H5, (by rcases rr_H5 with ⟨x1, x2, x3⟩ | ⟨x1, x2⟩; (first | exact Or.inl ⟨rfl, x3⟩ | (exfalso; omega)); (first | exact Or.inr ⟨x2, ra_H5⟩ | (exfalso; omega))), e_H5, eb_H5, ec_H5, (yfr.tr (f3.mono (by decide)) f_H5 (fun _ h => h) (by decide))⟩
  ·
    refine E_run hk 1 (j' := 7) (lv' := [(0, .ref 63)]) (st' := [.ref 63]) (hp' := H5) rfl ?_
    refine E_get (v := yi (v 7)) hk rfl e_H5 rfl ?_
    refine E_run hk 1 (j' := 11) (lv' := [(0, .ref 63)]) (st' := [yi (v 7)]) (hp' := H5) rfl ?_
    exact E_ret hk rfl rfl ⟨_, rfl, a_H5, z4, p_H5, m_H5, b_H5, c_H5, (by rcases rr_H5 with ⟨x1, x2, x3⟩ | ⟨x1, x2⟩; (first | exact Or.inl ⟨rfl, x3⟩ | (exfalso; omega)); (first | exact Or.inr ⟨x2, ra_H5⟩ | (exfalso; omega))), e_H5, eb_H5, ec_H5, (yfr.tr (f3.mono (by decide)) f_H5 (fun _ h => h) (by decide))⟩
theorem c_X9_work {d : Nat} {hp : xH} {v : Nat → Int} (hM : xat hp 63 = some (yMo v)) {X : Int → Int} (hX : xat hp 67 = some (yI 60 X)) (hn : 0 ≤ v 7 ∧ v 7 ≤ 60) (hc : ∀ q, 0 ≤ q → q < v 7 → 33 ≤ X q ∧ X q ≤ 126) {B C : Int → Int} (hB : xat hp 68 = some (yI 60 B)) (hC : xat hp 69 = some (yI 60 C)) {S : Int → Int} (hS : xat hp 64 = some (yI 47 S)) {T : Int → Int} (hT : xat hp 65 = some (yI 282 T)) (hm : 0 ≤ v 3 ∧ v 3 ≤ 6) (hS0 : okS S) (hd : 6 ≤ d) : Cv d 210 [.ref 63] hp (yE (fun z h => ∃ a w pn m b c, xat h 68 = some (yI 60 b) ∧ xat h 69 = some (yI 60 c) ∧ yfr [63, 64, 65, 68, 69] hp h ∧ ((z = 0 ∧ gbad X (v 7) a ∧ (0 ≤ a ∧ a ≤ v 7) ∧ xat h 64 = some (yI 47 S) ∧ xat h 65 = some (yI 282 T) ∧ xat h 63 = some (yMo (vup (vup (vup (vup (vup (vup v 0 0) 9 w) 8 a) 13 m) 11 pn) 0 1))) ∨ (∃ j N bb ee Sq zz U, good X (v 7) S j N bb ee Sq zz ∧ z = (N : Int) ∧ (0 ≤ zz ∧ zz ≤ 2) ∧ N ≤ 60 ∧ recd (v 3) S T U ∧ xat h 64 = some (yI 47 (up (up (Sq N) 5 (if zz = 0 then -1 else (N : Int))) 6 zz)) ∧ xat h 65 = some (yI 282 U) ∧ xat h 63 = some (yMo (vup (vup (vup (vup (vup (vup (vup v 0 0) 9 w) 8 a) 13 m) 11 pn) 3 (if v 3 = 6 then 6 else v 3 + 1)) 7 0)))))) := by
  have hk : xtab 210 = (xc_210, 3, 1, []) := rfl
  obtain ⟨d, rfl⟩ : ∃ e, d = e + 1 := ⟨d - 1, by omega⟩
  show Ev (d + 1) 210 0 [(0, .ref 63)] [] hp _
  refine E_run hk 2 (j' := 2) (lv' := [(0, .ref 63)]) (st' := [yi 0, .ref 63]) (hp' := hp) rfl ?_
  refine Y_put hk rfl hM (by decide) (Nat.le_of_ble_eq_true rfl) rfl (fs' := [yi 0, .ref 64, .ref 65, yi (v 3), .ref 66, yi (v 5), .ref 67, yi (v 7), yi (v 8), yi (v 9), .ref 68, yi (v 11), .ref 69, yi (v 13), .ref 70, .ref 71, .ref 72, .ref 73, .ref 74, .ref 75, yi (v 20), yi (v 21)]) rfl (fun H1 e2 f3 => ?_)
  refine E_run hk 1 (j' := 4) (lv' := [(0, .ref 63)]) (st' := [.ref 63]) (hp' := H1) rfl ?_
  refine Y_callE hk rfl (as := [.ref 63]) (rest := []) rfl rfl (Nat.le_of_ble_eq_true rfl) (rcv0 e2) (Nat.le_of_ble_eq_true rfl) (c_X9_readsWorks (v := (vup v 0 0)) e2 (f3.at (by decide) hX) hn hc (f3.at (by decide) hB) (f3.at (by decide) hC) (hd := by omega)) (fun z4 H5 r6 => ?_)
  obtain ⟨a_H5, p_H5, m_H5, b_H5, c_H5, rr0_H5, rp0_H5, ra0_H5, e0_H5, eb_H5, ec_H5, f_H5⟩ := r6
  have e_H5 : xat H5 63 = some (yMo (vup (vup (vup (vup (vup v 0 0) 9 z4) 8 a_H5) 13 m_H5) 11 p_H5)) := e0_H5
  have rr_H5 : (z4 = 1 ∧ a_H5 = (v 7) ∧ glb X (v 7) p_H5.toNat (v 7) m_H5 b_H5 c_H5) ∨ (z4 = 0 ∧ gbad X (v 7) a_H5) := rr0_H5
  have rp_H5 : 0 ≤ p_H5 ∧ 6 * p_H5 ≤ (v 7) + 1 ∧ 0 ≤ m_H5 ∧ 2 * m_H5 ≤ (v 7) := rp0_H5
  have ra_H5 : 0 ≤ a_H5 ∧ a_H5 ≤ (v 7) := ra0_H5
  refine Y_if_ne (a := z4) (by omega) hk rfl (fun g7 => ?_) (fun g7 => ?_)
  ·
    have gl9 : glb X (v 7) p_H5.toNat (v 7) m_H5 b_H5 c_H5 := by rcases rr_H5 with ⟨-, -, x1⟩ | ⟨x1, -⟩; exact x1; omega
    obtain ⟨b9, e9, mm9, kk9, o9, j9, b09, bj9, m09, hpp9, hss9⟩ := gl9
    obtain ⟨ps8, hs8⟩ := hss9 rS0
    have ok8 : ∀ i, i < p_H5.toNat → okR (ps8 i) ∧ okQ (ps8 i) := fun i hi => ok_tks _ _ _ _ (fun q q1 q2 => by have x7 := (hpp9 i hi).1; have x8 := hc q q1 (by omega); omega) okR_0.beg (okQ_beg rS0) (hs8 i hi).1
    have rc8 : ∀ i, i < p_H5.toNat → rcd b_H5 (5 * (i : Int)) (o9 i) := fun i hi => rcd_of (hs8 i hi).2.2.2.1 (hs8 i hi).2.1 (ok8 i hi).1 (ok8 i hi).2 (hs8 i hi).2.2.1 (by have x7 := (hpp9 i hi).2.2.2.2.2; omega)
    refine E_run hk 1 (j' := 11) (lv' := [(0, .ref 63)]) (st' := [.ref 63]) (hp' := H5) rfl ?_
    refine Y_call hk rfl (as := [.ref 63]) (rest := []) (v := none) rfl rfl (Nat.le_of_ble_eq_true rfl) (rcv0 e_H5) (Nat.le_of_ble_eq_true rfl) (c_X9_records (v := (vup (vup (vup (vup (vup v 0 0) 9 z4) 8 a_H5) 13 m_H5) 11 p_H5)) e_H5 (f_H5.at (by decide) (f3.at (by decide) hS)) (f_H5.at (by decide) (f3.at (by decide) hT)) (hm)) (fun H8 r9 => ?_)
    obtain ⟨T_H8, e_H8, t_H8, a_H8, b_H8, f_H8⟩ := r9
    refine E_run hk 2 (j' := 14) (lv' := [(0, .ref 63)]) (st' := [yi 0, .ref 63]) (hp' := H8) rfl ?_
    refine Y_put hk rfl e_H8 (by decide) (Nat.le_of_ble_eq_true rfl) rfl (fs' := [yi 0, .ref 64, .ref 65, yi (if (v 3) = 6 then 6 else (v 3) + 1), .ref 66, yi (v 5), .ref 67, yi 0, yi a_H5, yi z4, .ref 68, yi p_H5, .ref 69, yi m_H5, .ref 70, .ref 71, .ref 72, .ref 73, .ref 74, .ref 75, yi (v 20), yi (v 21)]) rfl (fun H10 e11 f12 => ?_)
    refine E_run hk 4 (j' := 19) (lv' := [(2, yi 0), (1, yi 0), (0, .ref 63)]) (st' := []) (hp' := H10) rfl ?_
    have loop19 : ∀ (N : Nat) (rr : Int) (nq : Nat) (y : Int) (Sq : Nat → Int → Int) (hl19 : xH), (rr = ((nq : Nat) : Int) ∧ nq ≤ p_H5.toNat) → (0 ≤ y ∧ y ≤ 2) → (Sq 0 = S) → (∀ i : Nat, i ≤ nq → okS (Sq i)) → (∀ j : Nat, j < nq → doesP (o9 j) (b_H5 (5 * ((j : Nat) : Int) + 1)) (b_H5 (5 * ((j : Nat) : Int) + 2)) (b_H5 (5 * ((j : Nat) : Int) + 4)) (fun i => c_H5 (b_H5 (5 * ((j : Nat) : Int) + 3) + i)) (Sq j) (Sq (j + 1)) 0) → (y ≠ 0 → (nq < p_H5.toNat ∧ doesP (o9 nq) (b_H5 (5 * ((nq : Nat) : Int) + 1)) (b_H5 (5 * ((nq : Nat) : Int) + 2)) (b_H5 (5 * ((nq : Nat) : Int) + 4)) (fun i => c_H5 (b_H5 (5 * ((nq : Nat) : Int) + 3) + i)) (Sq nq) (Sq nq) y)) → (xat hl19 64 = some (yI 47 (Sq nq))) → (yfr [64] H10 hl19) → (2 * (p_H5 - rr) - y + 2).toNat = N → Ev (d + 1) 210 19 [(0, .ref 63), (1, yi rr), (2, yi y)] [] hl19 (yE (fun z h => ∃ a w pn m b c, xat h 68 = some (yI 60 b) ∧ xat h 69 = some (yI 60 c) ∧ yfr [63, 64, 65, 68, 69] hp h ∧ ((z = 0 ∧ gbad X (v 7) a ∧ (0 ≤ a ∧ a ≤ v 7) ∧ xat h 64 = some (yI 47 S) ∧ xat h 65 = some (yI 282 T) ∧ xat h 63 = some (yMo (vup (vup (vup (vup (vup (vup v 0 0) 9 w) 8 a) 13 m) 11 pn) 0 1))) ∨ (∃ j N bb ee Sq zz U, good X (v 7) S j N bb ee Sq zz ∧ z = (N : Int) ∧ (0 ≤ zz ∧ zz ≤ 2) ∧ N ≤ 60 ∧ recd (v 3) S T U ∧ xat h 64 = some (yI 47 (up (up (Sq N) 5 (if zz = 0 then -1 else (N : Int))) 6 zz)) ∧ xat h 65 = some (yI 282 U) ∧ xat h 63 = some (yMo (vup (vup (vup (vup (vup (vup (vup v 0 0) 9 w) 8 a) 13 m) 11 pn) 3 (if v 3 = 6 then 6 else v 3 + 1)) 7 0)))))) := by
      intro N
      induction N using Nat.strongRecOn with
      | ind N ih19 =>
        intro rr nq y Sq hl19 Jn Jy J0 Jo Jd Jz ec19_64 fr19 hm19
        refine E_run hk 1 (j' := 20) (lv' := [(0, .ref 63), (1, yi rr), (2, yi y)]) (st' := [yi rr]) (hp' := hl19) rfl ?_
        refine E_run hk 1 (j' := 21) (lv' := [(0, .ref 63), (1, yi rr), (2, yi y)]) (st' := [.ref 63, yi rr]) (hp' := hl19) rfl ?_
        refine E_get (v := yi p_H5) hk rfl (fr19.at (by decide) e11) rfl ?_
        refine Y_ic_ge (a := rr) (b := p_H5) (by omega) hk rfl (fun g13 => ?_) (fun g13 => ?_)
        ·
          refine E_run hk 1 (j' := 41) (lv' := [(0, .ref 63), (1, yi rr), (2, yi y)]) (st' := [.ref 63]) (hp' := hl19) rfl ?_
          refine E_get (v := .ref 64) hk rfl (fr19.at (by decide) e11) rfl ?_
          refine E_run hk 2 (j' := 44) (lv' := [(0, .ref 63), (1, yi rr), (2, yi y)]) (st' := [yi y, yi 5, .ref 64]) (hp' := hl19) rfl ?_
          refine Y_if_ne (a := y) (by omega) hk rfl (fun g14 => ?_) (fun g14 => ?_)
          ·
            refine E_run hk 1 (j' := 48) (lv' := [(0, .ref 63), (1, yi rr), (2, yi y)]) (st' := [yi rr, yi 5, .ref 64]) (hp' := hl19) rfl ?_
            refine Y_iast (a := 5) (x := rr) (by omega) (by decide) (by decide) hk rfl ec19_64 (fun H15 e16 f17 => ?_)
            refine E_run hk 1 (j' := 50) (lv' := [(0, .ref 63), (1, yi rr), (2, yi y)]) (st' := [.ref 63]) (hp' := H15) rfl ?_
            refine E_get (v := .ref 64) hk rfl (f17.at (by decide) (fr19.at (by decide) e11)) rfl ?_
            refine E_run hk 2 (j' := 53) (lv' := [(0, .ref 63), (1, yi rr), (2, yi y)]) (st' := [yi y, yi 6, .ref 64]) (hp' := H15) rfl ?_
            refine Y_iast (a := 6) (x := y) (by omega) (by decide) (by decide) hk rfl e16 (fun H18 e19 f20 => ?_)
            refine E_run hk 1 (j' := 55) (lv' := [(0, .ref 63), (1, yi rr), (2, yi y)]) (st' := [yi rr]) (hp' := H18) rfl ?_
            exact E_ret hk rfl rfl ⟨_, rfl, a_H5, z4, p_H5, m_H5, b_H5, c_H5, (f20.at (by decide) (f17.at (by decide) (fr19.at (by decide) (f12.at (by decide) (f_H8.at (by decide) eb_H5))))), (f20.at (by decide) (f17.at (by decide) (fr19.at (by decide) (f12.at (by decide) (f_H8.at (by decide) ec_H5))))), (yfr.tr (yfr.tr (yfr.tr (yfr.tr (yfr.tr (yfr.tr (f3.mono (by decide)) f_H5 (fun _ h => h) (by decide)) f_H8 (fun _ h => h) (by decide)) f12 (fun _ h => h) (by decide)) fr19 (fun _ h => h) (by decide)) f17 (fun _ h => h) (by decide)) f20 (fun _ h => h) (by decide)), Or.inr ⟨p_H5.toNat, nq, b9, e9, Sq, y, T_H8, glb_good j9 b09 hpp9 hss9 J0 Jo ⟨Jn.2, Jd, (by rcases (by omega : y = 0 ∨ y ≠ 0) with x9 | x9; exact Or.inl ⟨x9, by omega⟩; exact Or.inr ⟨x9, Jz x9⟩)⟩, Jn.1, Jy, by omega, ⟨a_H8, b_H8⟩, (by rw [if_neg (by omega), ← Jn.1]; exact e19), (f20.at (by decide) (f17.at (by decide) (fr19.at (by decide) (f12.at (by decide) t_H8)))), (f20.at (by decide) (f17.at (by decide) (fr19.at (by decide) e11)))⟩⟩
          ·
            refine E_run hk 2 (j' := 48) (lv' := [(0, .ref 63), (1, yi rr), (2, yi y)]) (st' := [yi (-1), yi 5, .ref 64]) (hp' := hl19) rfl ?_
            refine Y_iast (a := 5) (x := (-1)) (by omega) (by decide) (by decide) hk rfl ec19_64 (fun H21 e22 f23 => ?_)
            refine E_run hk 1 (j' := 50) (lv' := [(0, .ref 63), (1, yi rr), (2, yi y)]) (st' := [.ref 63]) (hp' := H21) rfl ?_
            refine E_get (v := .ref 64) hk rfl (f23.at (by decide) (fr19.at (by decide) e11)) rfl ?_
            refine E_run hk 2 (j' := 53) (lv' := [(0, .ref 63), (1, yi rr), (2, yi y)]) (st' := [yi y, yi 6, .ref 64]) (hp' := H21) rfl ?_
            refine Y_iast (a := 6) (x := y) (by omega) (by decide) (by decide) hk rfl e22 (fun H24 e25 f26 => ?_)
            refine E_run hk 1 (j' := 55) (lv' := [(0, .ref 63), (1, yi rr), (2, yi y)]) (st' := [yi rr]) (hp' := H24) rfl ?_
            exact E_ret hk rfl rfl ⟨_, rfl, a_H5, z4, p_H5, m_H5, b_H5, c_H5, (f26.at (by decide) (f23.at (by decide) (fr19.at (by decide) (f12.at (by decide) (f_H8.at (by decide) eb_H5))))), (f26.at (by decide) (f23.at (by decide) (fr19.at (by decide) (f12.at (by decide) (f_H8.at (by decide) ec_H5))))), (yfr.tr (yfr.tr (yfr.tr (yfr.tr (yfr.tr (yfr.tr (f3.mono (by decide)) f_H5 (fun _ h => h) (by decide)) f_H8 (fun _ h => h) (by decide)) f12 (fun _ h => h) (by decide)) fr19 (fun _ h => h) (by decide)) f23 (fun _ h => h) (by decide)) f26 (fun _ h => h) (by decide)), Or.inr ⟨p_H5.toNat, nq, b9, e9, Sq, y, T_H8, glb_good j9 b09 hpp9 hss9 J0 Jo ⟨Jn.2, Jd, (by rcases (by omega : y = 0 ∨ y ≠ 0) with x9 | x9; exact Or.inl ⟨x9, by omega⟩; exact Or.inr ⟨x9, Jz x9⟩)⟩, Jn.1, Jy, by omega, ⟨a_H8, b_H8⟩, (by rw [if_pos (by omega)]; exact e25), (f26.at (by decide) (f23.at (by decide) (fr19.at (by decide) (f12.at (by decide) t_H8)))), (f26.at (by decide) (f23.at (by decide) (fr19.at (by decide) e11)))⟩⟩
        ·
          refine E_run hk 1 (j' := 24) (lv' := [(0, .ref 63), (1, yi rr), (2, yi y)]) (st' := [yi y]) (hp' := hl19) rfl ?_
          refine Y_if_ne (a := y) (by omega) hk rfl (fun g27 => ?_) (fun g27 => ?_)
          ·
            refine E_run hk 1 (j' := 41) (lv' := [(0, .ref 63), (1, yi rr), (2, yi y)]) (st' := [.ref 63]) (hp' := hl19) rfl ?_
            refine E_get (v := .ref 64) hk rfl (fr19.at (by decide) e11) rfl ?_
            refine E_run hk 2 (j' := 44) (lv' := [(0, .ref 63), (1, yi rr), (2, yi y)]) (st' := [yi y, yi 5, .ref 64]) (hp' := hl19) rfl ?_
            refine Y_if_ne (a := y) (by omega) hk rfl (fun g28 => ?_) (fun g28 => ?_)
            ·
              refine E_run hk 1 (j' := 48) (lv' := [(0, .ref 63), (1, yi rr), (2, yi y)]) (st' := [yi rr, yi 5, .ref 64]) (hp' := hl19) rfl ?_
              refine Y_iast (a := 5) (x := rr) (by omega) (by decide) (by decide) hk rfl ec19_64 (fun H29 e30 f31 => ?_)
              refine E_run hk 1 (j' := 50) (lv' := [(0, .ref 63), (1, yi rr), (2, yi y)]) (st' := [.ref 63]) (hp' := H29) rfl ?_
              refine E_get (v := .ref 64) hk rfl (f31.at (by decide) (fr19.at (by decide) e11)) rfl ?_
              refine E_run hk 2 (j' := 53) (lv' := [(0, .ref 63), (1, yi rr), (2, yi y)]) (st' := [yi y, yi 6, .ref 64]) (hp' := H29) rfl ?_
              refine Y_iast (a := 6) (x := y) (by omega) (by decide) (by decide) hk rfl e30 (fun H32 e33 f34 => ?_)
              refine E_run hk 1 (j' := 55) (lv' := [(0, .ref 63), (1, yi rr), (2, yi y)]) (st' := [yi rr]) (hp' := H32) rfl ?_
              exact E_ret hk rfl rfl ⟨_, rfl, a_H5, z4, p_H5, m_H5, b_H5, c_H5, (f34.at (by decide) (f31.at (by decide) (fr19.at (by decide) (f12.at (by decide) (f_H8.at (by decide) eb_H5))))), (f34.at (by decide) (f31.at (by decide) (fr19.at (by decide) (f12.at (by decide) (f_H8.at (by decide) ec_H5))))), (yfr.tr (yfr.tr (yfr.tr (yfr.tr (yfr.tr (yfr.tr (f3.mono (by decide)) f_H5 (fun _ h => h) (by decide)) f_H8 (fun _ h => h) (by decide)) f12 (fun _ h => h) (by decide)) fr19 (fun _ h => h) (by decide)) f31 (fun _ h => h) (by decide)) f34 (fun _ h => h) (by decide)), Or.inr ⟨p_H5.toNat, nq, b9, e9, Sq, y, T_H8, glb_good j9 b09 hpp9 hss9 J0 Jo ⟨Jn.2, Jd, (by rcases (by omega : y = 0 ∨ y ≠ 0) with x9 | x9; exact Or.inl ⟨x9, by omega⟩; exact Or.inr ⟨x9, Jz x9⟩)⟩, Jn.1, Jy, by omega, ⟨a_H8, b_H8⟩, (by rw [if_neg (by omega), ← Jn.1]; exact e33), (f34.at (by decide) (f31.at (by decide) (fr19.at (by decide) (f12.at (by decide) t_H8)))), (f34.at (by decide) (f31.at (by decide) (fr19.at (by decide) e11)))⟩⟩
            ·
              refine E_run hk 2 (j' := 48) (lv' := [(0, .ref 63), (1, yi rr), (2, yi y)]) (st' := [yi (-1), yi 5, .ref 64]) (hp' := hl19) rfl ?_
              refine Y_iast (a := 5) (x := (-1)) (by omega) (by decide) (by decide) hk rfl ec19_64 (fun H35 e36 f37 => ?_)
              refine E_run hk 1 (j' := 50) (lv' := [(0, .ref 63), (1, yi rr), (2, yi y)]) (st' := [.ref 63]) (hp' := H35) rfl ?_
              refine E_get (v := .ref 64) hk rfl (f37.at (by decide) (fr19.at (by decide) e11)) rfl ?_
              refine E_run hk 2 (j' := 53) (lv' := [(0, .ref 63), (1, yi rr), (2, yi y)]) (st' := [yi y, yi 6, .ref 64]) (hp' := H35) rfl ?_
              refine Y_iast (a := 6) (x := y) (by omega) (by decide) (by decide) hk rfl e36 (fun H38 e39 f40 => ?_)
              refine E_run hk 1 (j' := 55) (lv' := [(0, .ref 63), (1, yi rr), (2, yi y)]) (st' := [yi rr]) (hp' := H38) rfl ?_
              exact E_ret hk rfl rfl ⟨_, rfl, a_H5, z4, p_H5, m_H5, b_H5, c_H5, (f40.at (by decide) (f37.at (by decide) (fr19.at (by decide) (f12.at (by decide) (f_H8.at (by decide) eb_H5))))), (f40.at (by decide) (f37.at (by decide) (fr19.at (by decide) (f12.at (by decide) (f_H8.at (by decide) ec_H5))))), (yfr.tr (yfr.tr (yfr.tr (yfr.tr (yfr.tr (yfr.tr (f3.mono (by decide)) f_H5 (fun _ h => h) (by decide)) f_H8 (fun _ h => h) (by decide)) f12 (fun _ h => h) (by decide)) fr19 (fun _ h => h) (by decide)) f37 (fun _ h => h) (by decide)) f40 (fun _ h => h) (by decide)), Or.inr ⟨p_H5.toNat, nq, b9, e9, Sq, y, T_H8, glb_good j9 b09 hpp9 hss9 J0 Jo ⟨Jn.2, Jd, (by rcases (by omega : y = 0 ∨ y ≠ 0) with x9 | x9; exact Or.inl ⟨x9, by omega⟩; exact Or.inr ⟨x9, Jz x9⟩)⟩, Jn.1, Jy, by omega, ⟨a_H8, b_H8⟩, (by rw [if_pos (by omega)]; exact e39), (f40.at (by decide) (f37.at (by decide) (fr19.at (by decide) (f12.at (by decide) t_H8)))), (f40.at (by decide) (f37.at (by decide) (fr19.at (by decide) e11)))⟩⟩
          ·
            have rc9 : rcd b_H5 (5 * rr) (o9 nq) := by rw [Jn.1]; exact rc8 nq (by omega)
            refine E_run hk 3 (j' := 28) (lv' := [(0, .ref 63), (1, yi rr), (2, yi y)]) (st' := [yi rr, yi 5, .ref 63]) (hp' := hl19) rfl ?_
            refine Y_imul (a := 5) (b := rr) hk rfl ?_
            refine Y_callE hk rfl (as := [.ref 63, yi (5 * rr)]) (rest := []) rfl rfl (Nat.le_of_ble_eq_true rfl) (rcv0 (fr19.at (by decide) e11)) (Nat.le_of_ble_eq_true rfl) (c_X9_does (v := (vup (vup (vup (vup (vup (vup (vup v 0 0) 9 z4) 8 a_H5) 13 m_H5) 11 p_H5) 3 (if (v 3) = 6 then 6 else (v 3) + 1)) 7 0)) (fr19.at (by decide) e11) ec19_64 (fr19.at (by decide) (f12.at (by decide) (f_H8.at (by decide) eb_H5))) (fr19.at (by decide) (f12.at (by decide) (f_H8.at (by decide) ec_H5))) (q := (5 * rr)) (by omega) rc9.1 rc9.2.1 (by have x7 := (Jo nq (Nat.le_refl nq)).1; omega) (okS_pa (Jo nq (Nat.le_refl nq))) rc9.2.2.1 rc9.2.2.2.1 rc9.2.2.2.2 (hd := by omega)) (fun z41 H42 r43 => ?_)
            obtain ⟨S_H42, d_H42, e_H42, f_H42⟩ := r43
            have dz_H42 := doesP_z d_H42
            refine E_run hk 3 (j' := 33) (lv' := [(2, yi z41), (0, .ref 63), (1, yi rr)]) (st' := [yi z41, yi rr]) (hp' := H42) rfl ?_
            refine Y_if_ne (a := z41) (by omega) hk rfl (fun g44 => ?_) (fun g44 => ?_)
            ·
              refine E_run hk 1 (j' := 37) (lv' := [(2, yi z41), (0, .ref 63), (1, yi rr)]) (st' := [yi 0, yi rr]) (hp' := H42) rfl ?_
              refine Y_iadd (a := rr) (b := 0) hk rfl ?_
              refine E_run hk 2 (j' := 19) (lv' := [(1, yi (rr + 0)), (2, yi z41), (0, .ref 63)]) (st' := []) (hp' := H42) rfl ?_
              exact Ev_le (xle_s rfl rfl (xle_s rfl rfl (xle_s rfl rfl (xle_z _ rfl)))) (ih19 _ (by omega) (rr + 0) nq z41 Sq H42 (by omega) (by omega) (J0) (Jo) (Jd) (fun _ => ⟨by omega, by have d9 := d_H42; rw [Jn.1, doesP_nz d_H42 (by omega)] at d9; exact d9⟩) (by rw [← doesP_nz d_H42 (by omega)]; exact e_H42) (yfr.tr fr19 f_H42 (fun _ h => h) (by decide)) rfl)
            ·
              refine E_run hk 2 (j' := 37) (lv' := [(2, yi z41), (0, .ref 63), (1, yi rr)]) (st' := [yi 1, yi rr]) (hp' := H42) rfl ?_
              refine Y_iadd (a := rr) (b := 1) hk rfl ?_
              refine E_run hk 2 (j' := 19) (lv' := [(1, yi (rr + 1)), (2, yi z41), (0, .ref 63)]) (st' := []) (hp' := H42) rfl ?_
              exact Ev_le (xle_s rfl rfl (xle_s rfl rfl (xle_s rfl rfl (xle_z _ rfl)))) (ih19 _ (by omega) (rr + 1) (nq + 1) z41 (fun i => if i = nq + 1 then S_H42 else Sq i) H42 (by omega) (by omega) (by show (if 0 = nq + 1 then _ else Sq 0) = S; rw [if_neg (by omega)]; exact J0) (fun i hi => by show okS (if i = nq + 1 then S_H42 else Sq i); by_cases x9 : i = nq + 1; rw [if_pos x9]; have r9 := (hs8 nq (by omega)).2.2.2.1; rw [← Jn.1] at r9; exact okS_does (Jo nq (Nat.le_refl nq)) (ok8 nq (by omega)).1 (ok8 nq (by omega)).2 (hs8 nq (by omega)).2.2.1 (doesP_rec d_H42 r9 (hs8 nq (by omega)).2.1); rw [if_neg x9]; exact Jo i (by omega)) (fun j hj => by show doesP _ _ _ _ _ (if j = nq + 1 then S_H42 else Sq j) (if j + 1 = nq + 1 then S_H42 else Sq (j + 1)) 0; rw [if_neg (by omega)]; by_cases x9 : j = nq; rw [x9, if_pos rfl]; have d9 := d_H42; rw [Jn.1, show z41 = 0 by omega] at d9; exact d9; rw [if_neg (by omega)]; exact Jd j (by omega)) (fun x9 => absurd x9 (by omega)) (by show xat H42 64 = some (yI 47 (if nq + 1 = nq + 1 then S_H42 else Sq (nq + 1))); rw [if_pos rfl]; exact e_H42) (yfr.tr fr19 f_H42 (fun _ h => h) (by decide)) rfl)
    exact Ev_le (xle_s rfl rfl (xle_s rfl rfl (xle_s rfl rfl (xle_z _ rfl)))) (loop19 _ 0 0 0 (fun _ => S) H10 (⟨rfl, Nat.zero_le _⟩) (by omega) (rfl) (fun _ _ => hS0) (fun j hj => absurd hj (Nat.not_lt_zero j)) (fun x9 => absurd rfl x9) (f12.at (by decide) (f_H8.at (by decide) (f_H5.at (by decide) (f3.at (by decide) hS)))) (yfr.refl _ _) rfl)
  ·
    refine E_run hk 2 (j' := 8) (lv' := [(0, .ref 63)]) (st' := [yi 1, .ref 63]) (hp' := H5) rfl ?_
    refine Y_call hk rfl (as := [.ref 63, yi 1]) (rest := []) (v := some (yi 0)) rfl rfl (Nat.le_of_ble_eq_true rfl) (rcv0 e_H5) (Nat.le_of_ble_eq_true rfl) (c_X9_fails (c := 1) (v := (vup (vup (vup (vup (vup v 0 0) 9 z4) 8 a_H5) 13 m_H5) 11 p_H5)) e_H5) (fun H45 r46 => ?_)
    obtain ⟨e_H45, f_H45⟩ := r46
    exact E_ret hk rfl rfl ⟨_, rfl, a_H5, z4, p_H5, m_H5, b_H5, c_H5, (f_H45.at (by decide) eb_H5), (f_H45.at (by decide) ec_H5), (yfr.tr (yfr.tr (f3.mono (by decide)) f_H5 (fun _ h => h) (by decide)) f_H45 (fun _ h => h) (by decide)), Or.inl ⟨rfl, (by rcases rr_H5 with ⟨x1, -, -⟩ | ⟨-, x1⟩; omega; exact x1), ra_H5, (f_H45.at (by decide) (f_H5.at (by decide) (f3.at (by decide) hS))), (f_H45.at (by decide) (f_H5.at (by decide) (f3.at (by decide) hT))), e_H45⟩⟩
