/-! The law: its beginning. -/
theorem nX8.eq {h h1 : xH} (H : nX8 h) (F : ∀ i, 28 ≤ i → i ≤ 62 → xat h1 i = xat h i) : nX8 h1 := by
  obtain ⟨a28, y29, a34, y35, a40, a41, a42, ⟨m43, m44, m45, m46, m47, m48, m49, m50, m51, m52, m53, m54, m55⟩, a56, a57, p58, p59, p60, p61, p62⟩ := H
  exact ⟨(F _ (by decide) (by decide)).trans a28, y29.at2 (fun i i1 i2 => F i (by omega) (by omega)), (F _ (by decide) (by decide)).trans a34, y35.at2 (fun i i1 i2 => F i (by omega) (by omega)), (F _ (by decide) (by decide)).trans a40, (F _ (by decide) (by decide)).trans a41, (F _ (by decide) (by decide)).trans a42, ⟨(F _ (by decide) (by decide)).trans m43, (F _ (by decide) (by decide)).trans m44, (F _ (by decide) (by decide)).trans m45, (F _ (by decide) (by decide)).trans m46, (F _ (by decide) (by decide)).trans m47, (F _ (by decide) (by decide)).trans m48, (F _ (by decide) (by decide)).trans m49, (F _ (by decide) (by decide)).trans m50, (F _ (by decide) (by decide)).trans m51, (F _ (by decide) (by decide)).trans m52, (F _ (by decide) (by decide)).trans m53, (F _ (by decide) (by decide)).trans m54, (F _ (by decide) (by decide)).trans m55⟩, (F _ (by decide) (by decide)).trans a56, (F _ (by decide) (by decide)).trans a57, (F _ (by decide) (by decide)).trans p58, (F _ (by decide) (by decide)).trans p59, (F _ (by decide) (by decide)).trans p60, (F _ (by decide) (by decide)).trans p61, (F _ (by decide) (by decide)).trans p62⟩
theorem nX9.eq {h h1 : xH} (H : nX9 h) (F : ∀ i, 63 ≤ i → i ≤ 75 → xat h1 i = xat h i) : nX9 h1 := by
  obtain ⟨a63, a64, a65, a66, a67, a68, a69, a70, a71, a72, a73, a74, a75⟩ := H
  exact ⟨(F _ (by decide) (by decide)).trans a63, (F _ (by decide) (by decide)).trans a64, (F _ (by decide) (by decide)).trans a65, (F _ (by decide) (by decide)).trans a66, (F _ (by decide) (by decide)).trans a67, (F _ (by decide) (by decide)).trans a68, (F _ (by decide) (by decide)).trans a69, (F _ (by decide) (by decide)).trans a70, (F _ (by decide) (by decide)).trans a71, (F _ (by decide) (by decide)).trans a72, (F _ (by decide) (by decide)).trans a73, (F _ (by decide) (by decide)).trans a74, (F _ (by decide) (by decide)).trans a75⟩
theorem law_start {hp : xH} (N_hp : hp.1 = 28) {Q : xO → xH → Prop} (kk : ∀ h, nX8 h → nX9 h → (∃ f, xat h 76 = some (.inl (.long, 1, f))) → h.1 = 77 → h.2.1 ≤ hp.2.1 + 8100 → (∀ i, i < 28 → xat h i = xat hp i) → Ev 11 303 13 [(4, yi 0), (0, .ref 25), (1, .ref 28), (2, .ref 63), (3, .ref 76)] [] h Q) : Ev 11 303 0 [(0, .ref 25)] [] hp Q := by
  have hk : xtab 303 = (xc_303, 9, 2, []) := rfl
  refine Y_newN (A := 28) N_hp hk rfl (fs := [.null, .null, .null, yi 0, .null, yi 0, .null, .null, yi 0, .null, .null]) rfl (fun H1 e2 f3 => ?_)
  have N_H1 : H1.1 = 29 := f3.1.trans (congrArg Nat.succ N_hp)
  refine E_run hk 1 (j' := 2) (lv' := [(0, .ref 25)]) (st' := [.ref 28, .ref 28]) (hp' := H1) rfl ?_
  refine Y_call hk rfl (as := [.ref 28]) (rest := [.ref 28]) (v := none) rfl rfl (Nat.le_of_ble_eq_true rfl) (rcv2 e2) (Nat.le_of_ble_eq_true rfl) (c_X8_init e2 N_H1 (hd := by decide)) (fun H4 r5 => ?_)
  obtain ⟨x8_H4, w_H4, hw_H4, f_H4⟩ := r5
  have N_H4 : H4.1 = 63 := by rw [f_H4.1, N_H1]
  refine E_run hk 1 (j' := 4) (lv' := [(1, .ref 28), (0, .ref 25)]) (st' := []) (hp' := H4) rfl ?_
  refine Y_newN (A := 63) N_H4 hk rfl (fs := [yi 0, .null, .null, yi 0, .null, yi 0, .null, yi 0, yi 0, yi 0, .null, yi 0, .null, yi 0, .null, .null, .null, .null, .null, .null, yi 0, yi 0]) rfl (fun H6 e7 f8 => ?_)
  have N_H6 : H6.1 = 64 := f8.1.trans (congrArg Nat.succ N_H4)
  refine E_run hk 1 (j' := 6) (lv' := [(1, .ref 28), (0, .ref 25)]) (st' := [.ref 63, .ref 63]) (hp' := H6) rfl ?_
  refine Y_call hk rfl (as := [.ref 63]) (rest := [.ref 63]) (v := none) rfl rfl (Nat.le_of_ble_eq_true rfl) (rcv2 e7) (Nat.le_of_ble_eq_true rfl) (c_X9_init e7 N_H6) (fun H9 r10 => ?_)
  obtain ⟨x9_H9, w_H9, hw_H9, f_H9⟩ := r10
  have N_H9 : H9.1 = 76 := by rw [f_H9.1, N_H6]
  refine E_run hk 2 (j' := 9) (lv' := [(2, .ref 63), (1, .ref 28), (0, .ref 25)]) (st' := [yi 1]) (hp' := H9) rfl ?_
  refine Y_newLN (A := 76) N_H9 (a := 1) (by omega) hk rfl (fun H11 e12 f13 => ?_)
  have N_H11 : H11.1 = 77 := f13.1.trans (congrArg Nat.succ N_H9)
  refine E_run hk 3 (j' := 13) (lv' := [(4, yi 0), (3, .ref 76), (2, .ref 63), (1, .ref 28), (0, .ref 25)]) (st' := []) (hp' := H11) rfl ?_
  exact Ev_le (xle_s rfl rfl (xle_s rfl rfl (xle_s rfl rfl (xle_s rfl rfl (xle_s rfl rfl (xle_z _ rfl)))))) (kk H11 (x8_H4.eq (fun i i1 i2 => (((((yfa.refl [] H4).w f8).tr f_H9 (fun i hi => by simp only [List.mem_cons, List.not_mem_nil, or_false] at hi ⊢; omega)).w f13)).2.2 i (by rw [N_H4]; omega) List.not_mem_nil)) (x9_H9.eq (fun i i1 i2 => (((yfa.refl [] H9).w f13)).2.2 i (by rw [N_H9]; omega) List.not_mem_nil)) ⟨_, e12⟩ N_H11 (by have w9 := (((((((yfa.refl [] hp).w f3).tr f_H4 (fun i hi => by simp only [List.mem_cons, List.not_mem_nil, or_false] at hi ⊢; omega)).w f8).tr f_H9 (fun i hi => by simp only [List.mem_cons, List.not_mem_nil, or_false] at hi ⊢; omega)).w f13)).2.1; have w8 : (60 : Int).toNat = 60 := rfl; have w7 : (1 : Int).toNat = 1 := rfl; omega) (fun i i1 => (((((((yfa.refl [] hp).w f3).tr f_H4 (fun i hi => by simp only [List.mem_cons, List.not_mem_nil, or_false] at hi ⊢; omega)).w f8).tr f_H9 (fun i hi => by simp only [List.mem_cons, List.not_mem_nil, or_false] at hi ⊢; omega)).w f13)).2.2 i (by rw [N_hp]; exact i1) List.not_mem_nil))
theorem fI_rng (x : Int32) : -2147483648 ≤ x.toInt ∧ x.toInt ≤ 2147483647 := iN_rng x
def scr (xs : Nat → Int32) : Int → Int := fun q => (xs q.toNat).toInt
theorem scr_25 (L : Nat) (xs : Nat → Int32) : xcst L xs 25 = some (yI L (scr xs)) := by
  show some (Sum.inl (FieldType.int, L, fun j => Value.int (xs j))) = some (Sum.inl (FieldType.int, L, fun q : Nat => yi (scr xs (q : Int))))
  congr 4
  funext j
  show Value.int (xs j) = Value.int (iN (xs ((j : Int).toNat)).toInt)
  rw [iN_of, Int.toNat_natCast]
theorem rel_start {L : Nat} {xs : Nat → Int32} {h : xH} (h8 : nX8 h) (h9 : nX9 h) (o : ∃ f, xat h 76 = some (.inl (.long, 1, f))) (N : h.1 = 77) (F : ∀ i, i < 28 → xat h i = xcst L xs i) : yRel L (scr xs) h := by
  have e26 : xcst L xs 26 = some (yO 0 (fun _ => .null)) := rfl
  have B : yBs L (scr xs) h := ⟨fun k hk => by
    rw [F k (by omega)]
    have g : ∀ k : Nat, k < 25 → xcst L xs k = xcst 0 (fun _ => 0) k := fun k hk => by
      match k, hk with
      | 0, _ => rfl
      | 1, _ => rfl
      | 2, _ => rfl
      | 3, _ => rfl
      | 4, _ => rfl
      | 5, _ => rfl
      | 6, _ => rfl
      | 7, _ => rfl
      | 8, _ => rfl
      | 9, _ => rfl
      | 10, _ => rfl
      | 11, _ => rfl
      | 12, _ => rfl
      | 13, _ => rfl
      | 14, _ => rfl
      | 15, _ => rfl
      | 16, _ => rfl
      | 17, _ => rfl
      | 18, _ => rfl
      | 19, _ => rfl
      | 20, _ => rfl
      | 21, _ => rfl
      | 22, _ => rfl
      | 23, _ => rfl
      | 24, _ => rfl
      | n + 25, h => exact absurd h (by omega)
    exact g k hk, (F 25 (by decide)).trans (scr_25 L xs), (F 26 (by decide)).trans e26, o, by omega⟩
  have u : ∀ q, q ≠ 5 → up (up (up (fun _ => 0) 2 20) 3 1) 5 (-1) q = sini q := fun q hq => by
    rw [up_ne _ _ hq]
    unfold sini up
    by_cases a : q = 2
    · subst a
      rfl
    · by_cases b : q = 3
      · subst b
        rfl
      · simp [a, b]
  have ok : okS (up (up (up (fun _ => 0) 2 20) 3 1) 5 (-1)) := ⟨by decide, fun q q0 q1 => absurd q1 (by show ¬ q < 0; omega), fun q q0 q1 => absurd q1 (by show ¬ q < 0; omega), Or.inl rfl⟩
  have yy : ∀ {s z o : Nat} {f g : Int → Int}, yS h s z o sini f g 0 0 → yS h s z o (up (up (up (fun _ => 0) 2 20) 3 1) 5 (-1)) f g 0 0 := fun ⟨hid, e1, e2, e3, e4, e5, ef, eg⟩ => ⟨hid, e1, e2, e3, e4, e5, fun q q0 q1 => absurd q1 (by show ¬ q < 0; omega), fun q q0 q1 => absurd q1 (by show ¬ q < 0; omega)⟩
  obtain ⟨a28, y29, a34, y35, a40, a41, a42, ⟨m43, m44, m45, m46, m47, m48, m49, m50, m51, m52, m53, m54, m55⟩, a56, a57, p58, p59, p60, p61, p62⟩ := h8
  obtain ⟨a63, a64, a65, a66, a67, a68, a69, a70, a71, a72, a73, a74, a75⟩ := h9
  refine ⟨fun _ => 0, _, fun _ => 0, fun _ => 0, fun _ => 0, B, ⟨⟨1, a28, m44, m46, m48, m50, ⟨_, m49⟩, ⟨_, m51⟩, 0, _, _, _, _, _, _, Or.inr ⟨rfl, 0, 0, m43, m45, m47, m52, m53, m54, m55⟩⟩, ⟨30, 32, _, _, 0, 0, yy y29, Or.inl ⟨rfl, rfl⟩⟩, ⟨0, 26, fun _ => .null, fun _ => 0, a34, Or.inl ⟨rfl, rfl⟩, fun i hi => absurd hi (by show ¬ (i : Int) < 0; omega), fun i j hi => absurd hi (by show ¬ (i : Int) < 0; omega)⟩, ⟨36, 38, sini, _, _, 0, 0, y35, by decide, fun e => absurd e (by show ¬ (0 : Int) = 1; decide)⟩, ⟨_, a40, fun q q0 q1 => absurd q1 (by show ¬ q < 0; omega)⟩, ⟨rS0, okR_0, a41, a42⟩, ⟨a56, _, a57⟩, ⟨0, 0, 0, _, _, p58⟩, p59, p61, ⟨_, p60⟩, _, p62⟩, ⟨a63, a64, a65, a66, a67, ⟨_, a68⟩, ⟨_, a69⟩, ⟨_, a70⟩, ⟨_, a71⟩, ⟨_, a72⟩, ⟨_, a73⟩, ⟨_, a74⟩, ⟨_, a75⟩⟩, ok, ⟨by show (0 : Int) ≤ 0; decide, by show (0 : Int) ≤ 6; decide⟩, Or.inl rfl, ⟨by show (0 : Int) ≤ 0; decide, by show (0 : Int) ≤ 60; decide⟩, fun q q0 q1 => absurd q1 (by show ¬ q < 0; omega), fun e => absurd e (by show ¬ (0 : Int) = 1; decide)⟩
