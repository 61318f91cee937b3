/-! The reference reads the pitches of a part. -/
def pps (s : rS) : Prop := s.p = 3 ∧ s.w = 0 ∧ s.c = 0
def pit1 (X : Int → Int) (b a k : Int) (C : Int → Int) (m : Int) : Prop := n59 X b a ∧ ∀ s, pps s → ∃ A, tks X (a - b).toNat b s = some ⟨k, 3, 0, s.k, s.t, A⟩ ∧ ∀ i, 0 ≤ i → i < k → C (m + i) = A i
def pit4 (X : Int → Int) (n b a k : Int) (C : Int → Int) (m : Int) : Prop := n59 X b a ∧ ∀ s, pps s → ∃ A, tks X (a - b).toNat b s = some ⟨k, 4, 0, s.k, s.t, A⟩ ∧ (∀ i, 0 ≤ i → i < k → C (m + i) = A i) ∧ (a < n → X a ≠ 59 → tk (⟨k, 4, 0, s.k, s.t, A⟩ : rS) (X a) = none)
def pit0 (X : Int → Int) (n b a : Int) : Prop := ∀ s, pps s → ∃ s1, tks X (a - b).toNat b s = some s1 ∧ s1.p = 3 ∧ (a = n ∨ tk s1 (X a) = none)
theorem p_start {X C : Int → Int} {b m : Int} : pit1 X b b 0 C m := by
  refine ⟨n59.nil, fun s ⟨h1, h2, h3⟩ => ?_⟩
  refine ⟨s.A, ?_, fun i i0 i1 => absurd i1 (by omega)⟩
  rw [Int.sub_self]
  show some s = _
  rw [← h1, ← h2]
  show some s = some ⟨0, s.p, s.w, s.k, s.t, s.A⟩
  rw [show (0 : Int) = s.c from h3.symm]
theorem p_num {X C : Int → Int} {n b a k m z a' : Int} (h : pit1 X b a k C m) (hb : b ≤ a) (hk : 0 ≤ k ∧ k < 30) (g : nmb X n 0 60 a z a' 1) (s : rS) (hs : pps s) : ∃ A, tks X (a' - b).toNat b s = some ⟨k + 1, 4, 0, s.k, s.t, A⟩ ∧ (∀ i, 0 ≤ i → i < k + 1 → up C (m + k) z (m + i) = A i) ∧ (a' < n → ¬ dig2 (k + 1) 0 (lnm A (k + 1)) (X a')) := by
  obtain ⟨A, t, hA⟩ := h.2 s hs
  rcases g with ⟨g, -⟩ | ⟨-, g1, g2, g3, g4, -, g5⟩
  · omega
  · obtain ⟨g6, g7⟩ := g5 ⟨k, 3, 0, s.k, s.t, A⟩ ⟨rfl, rfl, rfl, hk.1, hk.2⟩
    refine ⟨up A k z, ?_, fun i i0 i1 => ?_, ?_⟩
    · rw [show (a' - b).toNat = (a - b).toNat + (a' - a).toNat by omega, tks_add _ _ _ _ _ t, show b + (((a - b).toNat : Nat) : Int) = a by omega]
      exact g6
    · by_cases e : i = k
      · rw [e, up_self, up_self]
      · rw [up_ne _ _ (by omega), up_ne _ _ e]
        exact hA i i0 (by omega)
    · rw [lnm_up hk]
      exact g7
theorem nmb59 {X : Int → Int} {n l u a z a' : Int} (g : nmb X n l u a z a' 1) : n59 X a a' := by
  rcases g with ⟨g, -⟩ | ⟨-, -, -, -, -, g, -⟩
  · omega
  · exact g
theorem p_comma {X C : Int → Int} {n b a k m z a' : Int} (h : pit1 X b a k C m) (hb : b ≤ a ∧ a ≤ a') (hk : 0 ≤ k ∧ k < 30) (g : nmb X n 0 60 a z a' 1) (hn : a' < n) (hx : X a' = 44) : pit1 X b (a' + 1) (k + 1) (up C (m + k) z) m := by
  refine ⟨((h.1.tr (nmb59 g))).one (by omega), fun s hs => ?_⟩
  obtain ⟨A, t, h1, h2⟩ := p_num (m := m) h hb.1 hk g s hs
  refine ⟨A, ?_, h1⟩
  rw [show (a' + 1 - b).toNat = (a' - b).toNat + 1 by omega]
  refine tks_s _ _ _ _ _ t ?_
  rw [show b + (((a' - b).toNat : Nat) : Int) = a' by omega]
  exact tk4b (s := (⟨k + 1, 4, 0, s.k, s.t, A⟩ : rS)) rfl (h2 hn) ⟨hx, rfl⟩
theorem p_end {X C : Int → Int} {n b a k m z a' : Int} (h : pit1 X b a k C m) (hb : b ≤ a) (hk : 0 ≤ k ∧ k < 30) (g : nmb X n 0 60 a z a' 1) (hx : a' < n → X a' ≠ 44) : pit4 X n b a' (k + 1) (up C (m + k) z) m := by
  refine ⟨h.1.tr (nmb59 g), fun s hs => ?_⟩
  obtain ⟨A, t, h1, h2⟩ := p_num (m := m) h hb hk g s hs
  exact ⟨A, t, h1, fun q1 q2 => tk4n (s := (⟨k + 1, 4, 0, s.k, s.t, A⟩ : rS)) rfl (h2 q1) (fun q => hx q1 q.1) q2⟩
theorem p_fail {X C : Int → Int} {n b a k m z a' : Int} (h : pit1 X b a k C m) (hk : 0 ≤ k) (hk2 : a < n → k < 30) (g : nmb X n 0 60 a z a' 0) (hn : a ≤ n) : pit0 X n b a' := by
  intro s hs
  obtain ⟨A, t, hA⟩ := h.2 s hs
  rcases g with ⟨-, g1, g2⟩ | ⟨g, -⟩
  · subst g1
    refine ⟨_, t, rfl, ?_⟩
    by_cases e : a' = n
    · exact Or.inl e
    · exact g2 _ ⟨rfl, rfl, rfl, hk, hk2 (by omega)⟩
  · omega
theorem c_X9_readsPitches {d : Nat} {hp : xH} {v : Nat → Int} (hM : xat hp 63 = some (yMo v)) {X : Int → Int} (hX : xat hp 67 = some (yI 60 X)) (hn : 0 ≤ v 7 ∧ v 7 ≤ 60) (hc : ∀ q, 0 ≤ q → q < v 7 → 33 ≤ X q ∧ X q ≤ 126) (ha : 0 ≤ v 8 ∧ v 8 ≤ v 7) {B C : Int → Int} (hB : xat hp 68 = some (yI 60 B)) (hC : xat hp 69 = some (yI 60 C)) (hw : v 9 = 0 ∨ v 9 = 1) (hm : 0 ≤ v 13 ∧ 2 * v 13 ≤ v 8) {q : Int} (hq : 0 ≤ q ∧ q ≤ 55) (hd : 3 ≤ d) : Cv d 202 [.ref 63, yi q] hp (yR none (fun h => ∃ a2 w2 k b c, ((w2 = 1 ∧ v 9 = 1 ∧ 1 ≤ k ∧ pit4 X (v 7) (v 8) a2 k c (v 13)) ∨ (w2 = 0 ∧ (v 9 = 1 → pit0 X (v 7) (v 8) a2) ∧ (v 9 = 0 → a2 = v 8 ∧ k = 0))) ∧ (0 ≤ k ∧ 2 * k ≤ a2 - v 8 + 1) ∧ (v 8 ≤ a2 ∧ a2 ≤ v 7) ∧ b (q + 4) = B (q + 4) + k ∧ (∀ x, x ≠ q + 4 → b x = B x) ∧ (∀ x, x < v 13 → c x = C x) ∧ xat h 63 = some (yMo (vup (vup (vup v 9 w2) 8 a2) 13 (v 13 + k))) ∧ xat h 68 = some (yI 60 b) ∧ xat h 69 = some (yI 60 c) ∧ yfr [63, 68, 69] hp h)) := by
  have hk : xtab 202 = (xc_202, 4, 0, []) := rfl
  obtain ⟨d, rfl⟩ : ∃ e, d = e + 1 := ⟨d - 1, by omega⟩
  show Ev (d + 1) 202 0 [(0, .ref 63), (1, yi q)] [] hp _
  refine E_run hk 2 (j' := 2) (lv' := [(2, yi 1), (0, .ref 63), (1, yi q)]) (st' := []) (hp' := hp) rfl ?_
  have loop2 : ∀ (N : Nat) (go : Int) (a : Int) (w : Int) (m : Int) (k : Int) (b : Int → Int) (c : Int → Int) (hl2 : xH), ((go = 0 ∨ go = 1) ∧ (w = 0 ∨ w = 1)) → (v 8 ≤ a ∧ a ≤ v 7 ∧ 0 ≤ k ∧ m = v 13 + k ∧ 2 * k ≤ a - v 8 + (1 - go)) → (b (q + 4) = B (q + 4) + k) → (∀ x, x ≠ q + 4 → b x = B x) → (∀ x, x < v 13 → c x = C x) → (go = 1 → (w = v 9 ∧ pit1 X (v 8) a k c (v 13) ∧ (v 9 = 0 → a = v 8 ∧ k = 0))) → (go = 0 → ((w = 1 ∧ v 9 = 1 ∧ 1 ≤ k ∧ pit4 X (v 7) (v 8) a k c (v 13)) ∨ (w = 0 ∧ (v 9 = 1 → pit0 X (v 7) (v 8) a) ∧ (v 9 = 0 → a = v 8 ∧ k = 0)))) → (xat hl2 63 = some (yMo (vup (vup (vup v 9 w) 8 a) 13 m))) → (xat hl2 68 = some (yI 60 b)) → (xat hl2 69 = some (yI 60 c)) → (yfr [63, 68, 69] hp hl2) → (2 * (v 7 - a) + go).toNat = N → Ev (d + 1) 202 2 [(0, .ref 63), (1, yi q), (2, yi go)] [] hl2 (yR none (fun h => ∃ a2 w2 k b c, ((w2 = 1 ∧ v 9 = 1 ∧ 1 ≤ k ∧ pit4 X (v 7) (v 8) a2 k c (v 13)) ∨ (w2 = 0 ∧ (v 9 = 1 → pit0 X (v 7) (v 8) a2) ∧ (v 9 = 0 → a2 = v 8 ∧ k = 0))) ∧ (0 ≤ k ∧ 2 * k ≤ a2 - v 8 + 1) ∧ (v 8 ≤ a2 ∧ a2 ≤ v 7) ∧ b (q + 4) = B (q + 4) + k ∧ (∀ x, x ≠ q + 4 → b x = B x) ∧ (∀ x, x < v 13 → c x = C x) ∧ xat h 63 = some (yMo (vup (vup (vup v 9 w2) 8 a2) 13 (v 13 + k))) ∧ xat h 68 = some (yI 60 b) ∧ xat h 69 = some (yI 60 c) ∧ yfr [63, 68, 69] hp h)) := by
    intro N
    induction N using Nat.strongRecOn with
    | ind N ih2 =>
      intro go a w m k b c hl2 Jg Ja Jb Jx Jc J1 J0 ec2_63 ec2_68 ec2_69 fr2 hm2
      refine E_run hk 1 (j' := 3) (lv' := [(0, .ref 63), (1, yi q), (2, yi go)]) (st' := [yi go]) (hp' := hl2) rfl ?_
      refine Y_if_eq (a := go) (by omega) hk rfl (fun g1 => ?_) (fun g1 => ?_)
      ·
        exact E_ret hk rfl rfl ⟨rfl, a, w, k, b, c, J0 (by omega), by omega, by omega, Jb, Jx, Jc, by rw [show v 13 + k = m by omega]; exact ec2_63, ec2_68, ec2_69, fr2⟩
      ·
        obtain ⟨w1, y1, y0⟩ := J1 (by omega)
        refine E_run hk 3 (j' := 7) (lv' := [(0, .ref 63), (1, yi q), (2, yi go)]) (st' := [yi 60, yi 0, .ref 63]) (hp' := hl2) rfl ?_
        refine Y_callE hk rfl (as := [.ref 63, yi 0, yi 60]) (rest := []) rfl rfl (Nat.le_of_ble_eq_true rfl) (rcv0 ec2_63) (Nat.le_of_ble_eq_true rfl) (c_X9_number (v := (vup (vup (vup v 9 w) 8 a) 13 m)) ec2_63 (fr2.at (by decide) hX) hn hc (show 0 ≤ a ∧ a ≤ v 7 by omega) (show w = 0 ∨ w = 1 by omega) (l := 0) (u := 60) (by omega) (by omega) (hd := by omega)) (fun z2 H3 r4 => ?_)
        obtain ⟨a_H3, w_H3, nm_H3, no_H3, zr_H3, e0_H3, f_H3⟩ := r4
        have e_H3 : xat H3 63 = some (yMo (vup (vup (vup (vup (vup v 9 w) 8 a) 13 m) 9 w_H3) 8 a_H3)) := e0_H3
        have nm1_H3 : w = 1 → nmb X (v 7) 0 60 a z2 a_H3 w_H3 := nm_H3
        have no1_H3 : w = 0 → w_H3 = 0 ∧ a_H3 = a := no_H3
        have k_H3 : (w_H3 = 0 ∧ a_H3 = a) ∨ (w_H3 = 1 ∧ w = 1 ∧ a < a_H3 ∧ a_H3 ≤ v 7 ∧ 0 ≤ z2 ∧ z2 ≤ 60) := by rcases (show w = 0 ∨ w = 1 by omega) with x9 | x9; exact Or.inl (no1_H3 x9); rcases nm1_H3 x9 with ⟨x1, x2, -⟩ | ⟨x1, x2, x3, x4, x5, -⟩; exact Or.inl ⟨x1, x2⟩; exact Or.inr ⟨x1, x9, x2, x3, x4, x5⟩
        refine E_run hk 2 (j' := 10) (lv' := [(3, yi z2), (0, .ref 63), (1, yi q), (2, yi go)]) (st' := [.ref 63]) (hp' := H3) rfl ?_
        refine E_get (v := yi w_H3) hk rfl e_H3 rfl ?_
        refine Y_if_eq (a := w_H3) (by omega) hk rfl (fun g5 => ?_) (fun g5 => ?_)
        ·
          refine E_run hk 1 (j' := 35) (lv' := [(3, yi z2), (0, .ref 63), (1, yi q), (2, yi go)]) (st' := [.ref 63]) (hp' := H3) rfl ?_
          refine E_get (v := yi w_H3) hk rfl e_H3 rfl ?_
          refine Y_if_eq (a := w_H3) (by omega) hk rfl (fun g6 => ?_) (fun g6 => ?_)
          ·
            refine E_run hk 4 (j' := 47) (lv' := [(2, yi 0), (3, yi z2), (0, .ref 63), (1, yi q)]) (st' := [.ref 63, .ref 63]) (hp' := H3) rfl ?_
            refine E_get (v := yi a_H3) hk rfl e_H3 rfl ?_
            refine E_run hk 1 (j' := 49) (lv' := [(2, yi 0), (3, yi z2), (0, .ref 63), (1, yi q)]) (st' := [yi 0, yi a_H3, .ref 63]) (hp' := H3) rfl ?_
            refine Y_if_eq (a := 0) (by omega) hk rfl (fun g7 => ?_) (fun g7 => ?_)
            ·
              refine E_run hk 1 (j' := 53) (lv' := [(2, yi 0), (3, yi z2), (0, .ref 63), (1, yi q)]) (st' := [yi 0, yi a_H3, .ref 63]) (hp' := H3) rfl ?_
              refine Y_iadd (a := a_H3) (b := 0) hk rfl ?_
              refine Y_put hk rfl e_H3 (by decide) (Nat.le_of_ble_eq_true rfl) rfl (fs' := [yi (v 0), .ref 64, .ref 65, yi (v 3), .ref 66, yi (v 5), .ref 67, yi (v 7), yi (a_H3 + 0), yi w_H3, .ref 68, yi (v 11), .ref 69, yi m, .ref 70, .ref 71, .ref 72, .ref 73, .ref 74, .ref 75, yi (v 20), yi (v 21)]) rfl (fun H8 e9 f10 => ?_)
              refine E_run hk 1 (j' := 2) (lv' := [(2, yi 0), (3, yi z2), (0, .ref 63), (1, yi q)]) (st' := []) (hp' := H8) rfl ?_
              exact Ev_le (xle_s rfl rfl (xle_s rfl rfl (xle_s rfl rfl (xle_z _ rfl)))) (ih2 _ (by omega) 0 (a_H3 + 0) w_H3 m k b c H8 (by omega) (by omega) (Jb) (Jx) (Jc) (fun w9 => absurd w9 (by omega)) (by intro _; have x1 : w_H3 = 0 := (by omega); exact Or.inr ⟨x1, fun w9 => (by have g9 := nm1_H3 (by omega); rw [x1] at g9; rw [show a_H3 + 0 = a_H3 by omega]; exact p_fail y1 (by omega) (fun w8 => by omega) g9 (by omega)), fun w9 => by have := y0 w9; have := no1_H3 (by omega); omega⟩) e9 (f10.at (by decide) (f_H3.at (by decide) ec2_68)) (f10.at (by decide) (f_H3.at (by decide) ec2_69)) (yfr.tr (yfr.tr fr2 f_H3 (fun _ h => h) (by decide)) f10 (fun _ h => h) (by decide)) rfl)
            · exfalso; omega
          ·
            have srb := sg_rng (a := a_H3) hc (by omega)
            refine E_run hk 1 (j' := 38) (lv' := [(3, yi z2), (0, .ref 63), (1, yi q), (2, yi go)]) (st' := [.ref 63]) (hp' := H3) rfl ?_
            refine Y_callP hk rfl (as := [.ref 63]) (rest := []) (v := some (yi (sg X (v 7) a_H3))) rfl rfl (Nat.le_of_ble_eq_true rfl) (rcv0 e_H3) (Nat.le_of_ble_eq_true rfl) (c_X9_sign (v := (vup (vup (vup (vup (vup v 9 w) 8 a) 13 m) 9 w_H3) 8 a_H3)) e_H3 (f_H3.at (by decide) (fr2.at (by decide) hX)) (by first | exact hn | (show 0 ≤ v 7 ∧ v 7 ≤ 60; omega)) (by first | exact ha | (show 0 ≤ a_H3 ∧ a_H3 ≤ v 7; omega))) ?_
            refine E_run hk 1 (j' := 40) (lv' := [(3, yi z2), (0, .ref 63), (1, yi q), (2, yi go)]) (st' := [yi 44, yi (sg X (v 7) a_H3)]) (hp' := H3) rfl ?_
            refine Y_ic_ne (a := (sg X (v 7) a_H3)) (b := 44) (by omega) hk rfl (fun g11 => ?_) (fun g11 => ?_)
            ·
              refine E_run hk 4 (j' := 47) (lv' := [(2, yi 0), (3, yi z2), (0, .ref 63), (1, yi q)]) (st' := [.ref 63, .ref 63]) (hp' := H3) rfl ?_
              refine E_get (v := yi a_H3) hk rfl e_H3 rfl ?_
              refine E_run hk 1 (j' := 49) (lv' := [(2, yi 0), (3, yi z2), (0, .ref 63), (1, yi q)]) (st' := [yi 0, yi a_H3, .ref 63]) (hp' := H3) rfl ?_
              refine Y_if_eq (a := 0) (by omega) hk rfl (fun g12 => ?_) (fun g12 => ?_)
              ·
                refine E_run hk 1 (j' := 53) (lv' := [(2, yi 0), (3, yi z2), (0, .ref 63), (1, yi q)]) (st' := [yi 0, yi a_H3, .ref 63]) (hp' := H3) rfl ?_
                refine Y_iadd (a := a_H3) (b := 0) hk rfl ?_
                refine Y_put hk rfl e_H3 (by decide) (Nat.le_of_ble_eq_true rfl) rfl (fs' := [yi (v 0), .ref 64, .ref 65, yi (v 3), .ref 66, yi (v 5), .ref 67, yi (v 7), yi (a_H3 + 0), yi w_H3, .ref 68, yi (v 11), .ref 69, yi m, .ref 70, .ref 71, .ref 72, .ref 73, .ref 74, .ref 75, yi (v 20), yi (v 21)]) rfl (fun H13 e14 f15 => ?_)
                refine E_run hk 1 (j' := 2) (lv' := [(2, yi 0), (3, yi z2), (0, .ref 63), (1, yi q)]) (st' := []) (hp' := H13) rfl ?_
                exact Ev_le (xle_s rfl rfl (xle_s rfl rfl (xle_s rfl rfl (xle_z _ rfl)))) (ih2 _ (by omega) 0 (a_H3 + 0) w_H3 m k b c H13 (by omega) (by omega) (Jb) (Jx) (Jc) (fun w9 => absurd w9 (by omega)) (by intro _; have x1 : w_H3 = 0 := (by omega); exact Or.inr ⟨x1, fun w9 => (by have g9 := nm1_H3 (by omega); rw [x1] at g9; rw [show a_H3 + 0 = a_H3 by omega]; exact p_fail y1 (by omega) (fun w8 => by omega) g9 (by omega)), fun w9 => by have := y0 w9; have := no1_H3 (by omega); omega⟩) e14 (f15.at (by decide) (f_H3.at (by decide) ec2_68)) (f15.at (by decide) (f_H3.at (by decide) ec2_69)) (yfr.tr (yfr.tr fr2 f_H3 (fun _ h => h) (by decide)) f15 (fun _ h => h) (by decide)) rfl)
              · exfalso; omega
            ·
              refine E_run hk 5 (j' := 47) (lv' := [(2, yi 1), (3, yi z2), (0, .ref 63), (1, yi q)]) (st' := [.ref 63, .ref 63]) (hp' := H3) rfl ?_
              refine E_get (v := yi a_H3) hk rfl e_H3 rfl ?_
              refine E_run hk 1 (j' := 49) (lv' := [(2, yi 1), (3, yi z2), (0, .ref 63), (1, yi q)]) (st' := [yi 1, yi a_H3, .ref 63]) (hp' := H3) rfl ?_
              refine Y_if_eq (a := 1) (by omega) hk rfl (fun g16 => ?_) (fun g16 => ?_)
              · exfalso; omega
              ·
                refine E_run hk 2 (j' := 53) (lv' := [(2, yi 1), (3, yi z2), (0, .ref 63), (1, yi q)]) (st' := [yi 1, yi a_H3, .ref 63]) (hp' := H3) rfl ?_
                refine Y_iadd (a := a_H3) (b := 1) hk rfl ?_
                refine Y_put hk rfl e_H3 (by decide) (Nat.le_of_ble_eq_true rfl) rfl (fs' := [yi (v 0), .ref 64, .ref 65, yi (v 3), .ref 66, yi (v 5), .ref 67, yi (v 7), yi (a_H3 + 1), yi w_H3, .ref 68, yi (v 11), .ref 69, yi m, .ref 70, .ref 71, .ref 72, .ref 73, .ref 74, .ref 75, yi (v 20), yi (v 21)]) rfl (fun H17 e18 f19 => ?_)
                refine E_run hk 1 (j' := 2) (lv' := [(2, yi 1), (3, yi z2), (0, .ref 63), (1, yi q)]) (st' := []) (hp' := H17) rfl ?_
                exact Ev_le (xle_s rfl rfl (xle_s rfl rfl (xle_s rfl rfl (xle_z _ rfl)))) (ih2 _ (by omega) 1 (a_H3 + 1) w_H3 m k b c H17 (by omega) (by omega) (Jb) (Jx) (Jc) (fun w9 => absurd w9 (by omega)) (fun w9 => absurd w9 (by omega)) e18 (f19.at (by decide) (f_H3.at (by decide) ec2_68)) (f19.at (by decide) (f_H3.at (by decide) ec2_69)) (yfr.tr (yfr.tr fr2 f_H3 (fun _ h => h) (by decide)) f19 (fun _ h => h) (by decide)) rfl)
        ·
          refine E_run hk 1 (j' := 13) (lv' := [(3, yi z2), (0, .ref 63), (1, yi q), (2, yi go)]) (st' := [.ref 63]) (hp' := H3) rfl ?_
          refine E_get (v := .ref 69) hk rfl e_H3 rfl ?_
          refine E_run hk 1 (j' := 15) (lv' := [(3, yi z2), (0, .ref 63), (1, yi q), (2, yi go)]) (st' := [.ref 63, .ref 69]) (hp' := H3) rfl ?_
          refine E_get (v := yi m) hk rfl e_H3 rfl ?_
          refine E_run hk 1 (j' := 17) (lv' := [(3, yi z2), (0, .ref 63), (1, yi q), (2, yi go)]) (st' := [yi z2, yi m, .ref 69]) (hp' := H3) rfl ?_
          refine Y_iast (a := m) (x := z2) (by omega) (by decide) (by decide) hk rfl (f_H3.at (by decide) ec2_69) (fun H20 e21 f22 => ?_)
          refine E_run hk 2 (j' := 20) (lv' := [(3, yi z2), (0, .ref 63), (1, yi q), (2, yi go)]) (st' := [.ref 63, .ref 63]) (hp' := H20) rfl ?_
          refine E_get (v := yi m) hk rfl (f22.at (by decide) e_H3) rfl ?_
          refine E_run hk 1 (j' := 22) (lv' := [(3, yi z2), (0, .ref 63), (1, yi q), (2, yi go)]) (st' := [yi 1, yi m, .ref 63]) (hp' := H20) rfl ?_
          refine Y_iadd (a := m) (b := 1) hk rfl ?_
          refine Y_put hk rfl (f22.at (by decide) e_H3) (by decide) (Nat.le_of_ble_eq_true rfl) rfl (fs' := [yi (v 0), .ref 64, .ref 65, yi (v 3), .ref 66, yi (v 5), .ref 67, yi (v 7), yi a_H3, yi w_H3, .ref 68, yi (v 11), .ref 69, yi (m + 1), .ref 70, .ref 71, .ref 72, .ref 73, .ref 74, .ref 75, yi (v 20), yi (v 21)]) rfl (fun H23 e24 f25 => ?_)
          refine E_run hk 1 (j' := 25) (lv' := [(3, yi z2), (0, .ref 63), (1, yi q), (2, yi go)]) (st' := [.ref 63]) (hp' := H23) rfl ?_
          refine E_get (v := .ref 68) hk rfl e24 rfl ?_
          refine E_run hk 2 (j' := 28) (lv' := [(3, yi z2), (0, .ref 63), (1, yi q), (2, yi go)]) (st' := [yi 4, yi q, .ref 68]) (hp' := H23) rfl ?_
          refine Y_iadd (a := q) (b := 4) hk rfl ?_
          refine E_run hk 1 (j' := 30) (lv' := [(3, yi z2), (0, .ref 63), (1, yi q), (2, yi go)]) (st' := [yi (q + 4), .ref 68, yi (q + 4), .ref 68]) (hp' := H23) rfl ?_
          refine Y_iald (a := (q + 4)) (by omega) (by decide) hk rfl (f25.at (by decide) (f22.at (by decide) (f_H3.at (by decide) ec2_68))) ?_
          refine E_run hk 1 (j' := 32) (lv' := [(3, yi z2), (0, .ref 63), (1, yi q), (2, yi go)]) (st' := [yi 1, yi (b (q + 4)), yi (q + 4), .ref 68]) (hp' := H23) rfl ?_
          refine Y_iadd (a := (b (q + 4))) (b := 1) hk rfl ?_
          refine Y_iast (a := (q + 4)) (x := ((b (q + 4)) + 1)) (by omega) (by decide) (by decide) hk rfl (f25.at (by decide) (f22.at (by decide) (f_H3.at (by decide) ec2_68))) (fun H26 e27 f28 => ?_)
          refine E_run hk 1 (j' := 35) (lv' := [(3, yi z2), (0, .ref 63), (1, yi q), (2, yi go)]) (st' := [.ref 63]) (hp' := H26) rfl ?_
          refine E_get (v := yi w_H3) hk rfl (f28.at (by decide) e24) rfl ?_
          refine Y_if_eq (a := w_H3) (by omega) hk rfl (fun g29 => ?_) (fun g29 => ?_)
          ·
            refine E_run hk 4 (j' := 47) (lv' := [(2, yi 0), (3, yi z2), (0, .ref 63), (1, yi q)]) (st' := [.ref 63, .ref 63]) (hp' := H26) rfl ?_
            refine E_get (v := yi a_H3) hk rfl (f28.at (by decide) e24) rfl ?_
            refine E_run hk 1 (j' := 49) (lv' := [(2, yi 0), (3, yi z2), (0, .ref 63), (1, yi q)]) (st' := [yi 0, yi a_H3, .ref 63]) (hp' := H26) rfl ?_
            refine Y_if_eq (a := 0) (by omega) hk rfl (fun g30 => ?_) (fun g30 => ?_)
            ·
              refine E_run hk 1 (j' := 53) (lv' := [(2, yi 0), (3, yi z2), (0, .ref 63), (1, yi q)]) (st' := [yi 0, yi a_H3, .ref 63]) (hp' := H26) rfl ?_
              refine Y_iadd (a := a_H3) (b := 0) hk rfl ?_
              refine Y_put hk rfl (f28.at (by decide) e24) (by decide) (Nat.le_of_ble_eq_true rfl) rfl (fs' := [yi (v 0), .ref 64, .ref 65, yi (v 3), .ref 66, yi (v 5), .ref 67, yi (v 7), yi (a_H3 + 0), yi w_H3, .ref 68, yi (v 11), .ref 69, yi (m + 1), .ref 70, .ref 71, .ref 72, .ref 73, .ref 74, .ref 75, yi (v 20), yi (v 21)]) rfl (fun H31 e32 f33 => ?_)
              refine E_run hk 1 (j' := 2) (lv' := [(2, yi 0), (3, yi z2), (0, .ref 63), (1, yi q)]) (st' := []) (hp' := H31) rfl ?_
              exact Ev_le (xle_s rfl rfl (xle_s rfl rfl (xle_s rfl rfl (xle_z _ rfl)))) (ih2 _ (by omega) 0 (a_H3 + 0) w_H3 (m + 1) (k + 1) (up b (q + 4) ((b (q + 4)) + 1)) (up c m z2) H31 (by omega) (by omega) (by rw [up_self]; omega) (fun x w9 => (up_ne _ _ w9).trans (Jx x w9)) (fun x w9 => (up_ne _ _ (by omega)).trans (Jc x w9)) (fun w9 => absurd w9 (by omega)) (by intro _; have x1 : w_H3 = 1 := (by omega); have g9 := nm1_H3 (by omega); rw [x1] at g9; exact Or.inl ⟨x1, by omega, by omega, by rw [show m = v 13 + k by omega, show a_H3 + 0 = a_H3 by omega]; exact p_end y1 (by omega) (by omega) g9 (fun w8 => by omega)⟩) e32 (f33.at (by decide) e27) (f33.at (by decide) (f28.at (by decide) (f25.at (by decide) e21))) (yfr.tr (yfr.tr (yfr.tr (yfr.tr (yfr.tr fr2 f_H3 (fun _ h => h) (by decide)) f22 (fun _ h => h) (by decide)) f25 (fun _ h => h) (by decide)) f28 (fun _ h => h) (by decide)) f33 (fun _ h => h) (by decide)) rfl)
            · exfalso; omega
          ·
            have srb := sg_rng (a := a_H3) hc (by omega)
            refine E_run hk 1 (j' := 38) (lv' := [(3, yi z2), (0, .ref 63), (1, yi q), (2, yi go)]) (st' := [.ref 63]) (hp' := H26) rfl ?_
            refine Y_callP hk rfl (as := [.ref 63]) (rest := []) (v := some (yi (sg X (v 7) a_H3))) rfl rfl (Nat.le_of_ble_eq_true rfl) (rcv0 (f28.at (by decide) e24)) (Nat.le_of_ble_eq_true rfl) (c_X9_sign (v := (vup (vup (vup (vup (vup (vup v 9 w) 8 a) 13 m) 9 w_H3) 8 a_H3) 13 (m + 1))) (f28.at (by decide) e24) (f28.at (by decide) (f25.at (by decide) (f22.at (by decide) (f_H3.at (by decide) (fr2.at (by decide) hX))))) (by first | exact hn | (show 0 ≤ v 7 ∧ v 7 ≤ 60; omega)) (by first | exact ha | (show 0 ≤ a_H3 ∧ a_H3 ≤ v 7; omega))) ?_
            refine E_run hk 1 (j' := 40) (lv' := [(3, yi z2), (0, .ref 63), (1, yi q), (2, yi go)]) (st' := [yi 44, yi (sg X (v 7) a_H3)]) (hp' := H26) rfl ?_
            refine Y_ic_ne (a := (sg X (v 7) a_H3)) (b := 44) (by omega) hk rfl (fun g34 => ?_) (fun g34 => ?_)
            ·
              refine E_run hk 4 (j' := 47) (lv' := [(2, yi 0), (3, yi z2), (0, .ref 63), (1, yi q)]) (st' := [.ref 63, .ref 63]) (hp' := H26) rfl ?_
              refine E_get (v := yi a_H3) hk rfl (f28.at (by decide) e24) rfl ?_
              refine E_run hk 1 (j' := 49) (lv' := [(2, yi 0), (3, yi z2), (0, .ref 63), (1, yi q)]) (st' := [yi 0, yi a_H3, .ref 63]) (hp' := H26) rfl ?_
              refine Y_if_eq (a := 0) (by omega) hk rfl (fun g35 => ?_) (fun g35 => ?_)
              ·
                refine E_run hk 1 (j' := 53) (lv' := [(2, yi 0), (3, yi z2), (0, .ref 63), (1, yi q)]) (st' := [yi 0, yi a_H3, .ref 63]) (hp' := H26) rfl ?_
                refine Y_iadd (a := a_H3) (b := 0) hk rfl ?_
                refine Y_put hk rfl (f28.at (by decide) e24) (by decide) (Nat.le_of_ble_eq_true rfl) rfl (fs' := [yi (v 0), .ref 64, .ref 65, yi (v 3), .ref 66, yi (v 5), .ref 67, yi (v 7), yi (a_H3 + 0), yi w_H3, .ref 68, yi (v 11), .ref 69, yi (m + 1), .ref 70, .ref 71, .ref 72, .ref 73, .ref 74, .ref 75, yi (v 20), yi (v 21)]) rfl (fun H36 e37 f38 => ?_)
                refine E_run hk 1 (j' := 2) (lv' := [(2, yi 0), (3, yi z2), (0, .ref 63), (1, yi q)]) (st' := []) (hp' := H36) rfl ?_
                exact Ev_le (xle_s rfl rfl (xle_s rfl rfl (xle_s rfl rfl (xle_z _ rfl)))) (ih2 _ (by omega) 0 (a_H3 + 0) w_H3 (m + 1) (k + 1) (up b (q + 4) ((b (q + 4)) + 1)) (up c m z2) H36 (by omega) (by omega) (by rw [up_self]; omega) (fun x w9 => (up_ne _ _ w9).trans (Jx x w9)) (fun x w9 => (up_ne _ _ (by omega)).trans (Jc x w9)) (fun w9 => absurd w9 (by omega)) (by intro _; have x1 : w_H3 = 1 := (by omega); have g9 := nm1_H3 (by omega); rw [x1] at g9; exact Or.inl ⟨x1, by omega, by omega, by rw [show m = v 13 + k by omega, show a_H3 + 0 = a_H3 by omega]; exact p_end y1 (by omega) (by omega) g9 (fun w8 => by omega)⟩) e37 (f38.at (by decide) e27) (f38.at (by decide) (f28.at (by decide) (f25.at (by decide) e21))) (yfr.tr (yfr.tr (yfr.tr (yfr.tr (yfr.tr fr2 f_H3 (fun _ h => h) (by decide)) f22 (fun _ h => h) (by decide)) f25 (fun _ h => h) (by decide)) f28 (fun _ h => h) (by decide)) f38 (fun _ h => h) (by decide)) rfl)
              · exfalso; omega
            ·
              refine E_run hk 5 (j' := 47) (lv' := [(2, yi 1), (3, yi z2), (0, .ref 63), (1, yi q)]) (st' := [.ref 63, .ref 63]) (hp' := H26) rfl ?_
              refine E_get (v := yi a_H3) hk rfl (f28.at (by decide) e24) rfl ?_
              refine E_run hk 1 (j' := 49) (lv' := [(2, yi 1), (3, yi z2), (0, .ref 63), (1, yi q)]) (st' := [yi 1, yi a_H3, .ref 63]) (hp' := H26) rfl ?_
              refine Y_if_eq (a := 1) (by omega) hk rfl (fun g39 => ?_) (fun g39 => ?_)
              · exfalso; omega
              ·
                refine E_run hk 2 (j' := 53) (lv' := [(2, yi 1), (3, yi z2), (0, .ref 63), (1, yi q)]) (st' := [yi 1, yi a_H3, .ref 63]) (hp' := H26) rfl ?_
                refine Y_iadd (a := a_H3) (b := 1) hk rfl ?_
                refine Y_put hk rfl (f28.at (by decide) e24) (by decide) (Nat.le_of_ble_eq_true rfl) rfl (fs' := [yi (v 0), .ref 64, .ref 65, yi (v 3), .ref 66, yi (v 5), .ref 67, yi (v 7), yi (a_H3 + 1), yi w_H3, .ref 68, yi (v 11), .ref 69, yi (m + 1), .ref 70, .ref 71, .ref 72, .ref 73, .ref 74, .ref 75, yi (v 20), yi (v 21)]) rfl (fun H40 e41 f42 => ?_)
                refine E_run hk 1 (j' := 2) (lv' := [(2, yi 1), (3, yi z2), (0, .ref 63), (1, yi q)]) (st' := []) (hp' := H40) rfl ?_
                exact Ev_le (xle_s rfl rfl (xle_s rfl rfl (xle_s rfl rfl (xle_z _ rfl)))) (ih2 _ (by omega) 1 (a_H3 + 1) w_H3 (m + 1) (k + 1) (up b (q + 4) ((b (q + 4)) + 1)) (up c m z2) H40 (by omega) (by omega) (by rw [up_self]; omega) (fun x w9 => (up_ne _ _ w9).trans (Jx x w9)) (fun x w9 => (up_ne _ _ (by omega)).trans (Jc x w9)) (by intro _; have x1 : w_H3 = 1 := (by omega); have g9 := nm1_H3 (by omega); rw [x1] at g9; exact ⟨by omega, (by rw [show m = v 13 + k by omega]; exact p_comma y1 (by omega) (by omega) g9 (by omega) (by omega)), fun w8 => by omega⟩) (fun w9 => absurd w9 (by omega)) e41 (f42.at (by decide) e27) (f42.at (by decide) (f28.at (by decide) (f25.at (by decide) e21))) (yfr.tr (yfr.tr (yfr.tr (yfr.tr (yfr.tr fr2 f_H3 (fun _ h => h) (by decide)) f22 (fun _ h => h) (by decide)) f25 (fun _ h => h) (by decide)) f28 (fun _ h => h) (by decide)) f42 (fun _ h => h) (by decide)) rfl)
  exact Ev_le (xle_s rfl rfl (xle_s rfl rfl (xle_s rfl rfl (xle_z _ rfl)))) (loop2 _ 1 (v 8) (v 9) (v 13) 0 B C hp (by omega) (by omega) ((Int.add_zero _).symm) (fun _ _ => rfl) (fun _ _ => rfl) (fun _ => ⟨rfl, p_start, fun _ => ⟨rfl, rfl⟩⟩) (fun w9 => absurd w9 (by omega)) hM hB hC (yfr.refl _ _) rfl)
