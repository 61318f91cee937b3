/-! The law comes to its end. -/
set_option maxRecDepth 100000 in
theorem law_loop {L : Nat} {F0 : Int → Int} (hF : ∀ q, -2147483648 ≤ F0 q ∧ F0 q ≤ 2147483647) (hL : L ≤ 2048) {h0 : xH} (s0 : h0.1 = 77 ∧ h0.2.1 ≤ 8100) : ∀ (n : Nat) (i : Int) (h : xH), 0 ≤ i → ((L : Int) - i).toNat = n → yRel L F0 h → (h.1 : Int) ≤ 77 + 2 * i → (h.2.1 : Int) ≤ 8100 + 16 * i → i ≤ (L : Int) + 4 → Ev 11 303 13 [(4, yi i), (0, .ref 25), (1, .ref 28), (2, .ref 63), (3, .ref 76)] [] h (fun o h => o = .inl (some (.int 1)) ∧ h.1 ≤ 28 + 600000 ∧ h.2.1 ≤ 7000000) := by
  have hk : xtab 303 = (xc_303, 9, 2, []) := rfl
  intro n
  induction n using Nat.strongRecOn with
  | ind n ih =>
    intro i h i0 hn H c1 c2 i4
    have m25 : xat h 25 = some (yI L F0) := by
      obtain ⟨v0, S0, T0, N0, X0, B0, A0, Y0, -⟩ := id H
      exact B0.2.1
    refine E_run hk 2 (j' := 15) (lv' := [(4, yi i), (0, .ref 25), (1, .ref 28), (2, .ref 63), (3, .ref 76)]) (st' := [.ref 25, yi i]) (hp' := h) rfl ?_
    refine Y_alen (by omega) hk rfl m25 ?_
    refine E_run hk 1 (j' := 17) (lv' := [(4, yi i), (0, .ref 25), (1, .ref 28), (2, .ref 63), (3, .ref 76)]) (st' := [yi 4, yi (L : Int), yi i]) (hp' := h) rfl ?_
    refine Y_isub (a := (L : Int)) (b := 4) hk rfl ?_
    refine Y_ic_gt (a := i) (b := (L : Int) - 4) (by omega) hk rfl (fun g => ?_) (fun g => ?_)
    · refine E_run hk 1 (j' := 1220) (lv' := [(4, yi i), (0, .ref 25), (1, .ref 28), (2, .ref 63), (3, .ref 76)]) (st' := [yi 1]) (hp' := h) rfl ?_
      exact E_ret hk rfl rfl ⟨rfl, by omega, by omega⟩
    · have hi : 0 ≤ i ∧ i ≤ (L : Int) - 4 := ⟨i0, by omega⟩
      have nx : ∀ h', yRel L F0 h' → yrm h h' → Ev 11 303 1217 [(4, yi i), (0, .ref 25), (1, .ref 28), (2, .ref 63), (3, .ref 76)] [] h' (fun o h => o = .inl (some (.int 1)) ∧ h.1 ≤ 28 + 600000 ∧ h.2.1 ≤ 7000000) := fun h' H' rm => by
        obtain ⟨rm1, rm2, rm3⟩ := rm
        refine Y_iinc (a := i) (z := 4) hk rfl rfl rfl (by decide) (lv' := [(4, yi (i + 4)), (0, .ref 25), (1, .ref 28), (2, .ref 63), (3, .ref 76)]) rfl ?_
        refine E_run hk 1 (j' := 13) (lv' := [(4, yi (i + 4)), (0, .ref 25), (1, .ref 28), (2, .ref 63), (3, .ref 76)]) (st' := []) (hp' := h') rfl ?_
        exact ih _ (by omega) (i + 4) h' (by omega) rfl H' (by omega) (by omega) (by omega)
      refine E_run hk 2 (j' := 21) (lv' := [(4, yi i), (0, .ref 25), (1, .ref 28), (2, .ref 63), (3, .ref 76)]) (st' := [yi i, .ref 25]) (hp' := h) rfl ?_
      refine Y_iald (a := i) (by omega) (by omega) hk rfl m25 ?_
      refine E_run hk 1 (j' := 23) (lv' := [(4, yi i), (0, .ref 25), (1, .ref 28), (2, .ref 63), (3, .ref 76)]) (st' := [yi 63, yi (F0 i)]) (hp' := h) rfl ?_
      refine Y_and63 hk rfl (fun z hz => ?_)
      refine Y_sw (a := z) (by omega) hk rfl (fun g2 => ?_) (fun g2 => ?_)
      · refine E_tgt (t := 1217) rfl ?_
        exact nx h H ⟨Nat.le_refl _, by omega, by omega⟩
      · rcases (by omega : z = 0 ∨ z = 1 ∨ z = 2 ∨ z = 3 ∨ z = 4 ∨ z = 5 ∨ z = 6 ∨ z = 7 ∨ z = 8 ∨ z = 9 ∨ z = 10 ∨ z = 11 ∨ z = 12 ∨ z = 13 ∨ z = 14 ∨ z = 15 ∨ z = 16 ∨ z = 17 ∨ z = 18 ∨ z = 19 ∨ z = 20 ∨ z = 21 ∨ z = 22 ∨ z = 23 ∨ z = 24 ∨ z = 25 ∨ z = 26 ∨ z = 27 ∨ z = 28 ∨ z = 29 ∨ z = 30 ∨ z = 31 ∨ z = 32 ∨ z = 33 ∨ z = 34 ∨ z = 35 ∨ z = 36 ∨ z = 37 ∨ z = 38 ∨ z = 39 ∨ z = 40 ∨ z = 41 ∨ z = 42 ∨ z = 43 ∨ z = 44 ∨ z = 45 ∨ z = 46) with e | e | e | e | e | e | e | e | e | e | e | e | e | e | e | e | e | e | e | e | e | e | e | e | e | e | e | e | e | e | e | e | e | e | e | e | e | e | e | e | e | e | e | e | e | e | e
        · subst e
          refine E_tgt (t := 25) rfl ?_
          exact blk_0 H hF hL hi nx
        · subst e
          refine E_tgt (t := 70) rfl ?_
          exact blk_1 H hF hL hi nx
        · subst e
          refine E_tgt (t := 125) rfl ?_
          exact blk_2 H hF hL hi nx
        · subst e
          refine E_tgt (t := 170) rfl ?_
          exact blk_3 H hF hL hi nx
        · subst e
          refine E_tgt (t := 215) rfl ?_
          exact blk_4 H hF hL hi nx
        · subst e
          refine E_tgt (t := 250) rfl ?_
          exact blk_5 H hF hL hi nx
        · subst e
          refine E_tgt (t := 285) rfl ?_
          exact blk_6 H hF hL hi nx
        · subst e
          refine E_tgt (t := 292) rfl ?_
          exact blk_7 H hF hL hi nx
        · subst e
          refine E_tgt (t := 327) rfl ?_
          exact blk_8 H hF hL hi nx
        · subst e
          refine E_tgt (t := 362) rfl ?_
          exact blk_9 H hF hL hi nx
        · subst e
          refine E_tgt (t := 397) rfl ?_
          exact blk_10 H hF hL hi nx
        · subst e
          refine E_tgt (t := 432) rfl ?_
          exact blk_11 H hF hL hi nx
        · subst e
          refine E_tgt (t := 439) rfl ?_
          exact blk_12 H hF hL hi nx
        · subst e
          refine E_tgt (t := 446) rfl ?_
          exact blk_13 H hF hL hi nx
        · subst e
          refine E_tgt (t := 471) rfl ?_
          exact blk_14 H hF hL hi nx
        · subst e
          refine E_tgt (t := 478) rfl ?_
          exact blk_15 H hF hL hi nx
        · subst e
          refine E_tgt (t := 503) rfl ?_
          exact blk_16 H hF hL hi nx
        · subst e
          refine E_tgt (t := 528) rfl ?_
          exact blk_17 H hF hL hi nx
        · subst e
          refine E_tgt (t := 553) rfl ?_
          exact blk_18 H hF hL hi nx
        · subst e
          refine E_tgt (t := 560) rfl ?_
          exact blk_19 H hF hL hi nx
        · subst e
          refine E_tgt (t := 585) rfl ?_
          exact blk_20 H hF hL hi nx
        · subst e
          refine E_tgt (t := 592) rfl ?_
          exact blk_21 H hF hL hi nx
        · subst e
          refine E_tgt (t := 627) rfl ?_
          exact blk_22 H hF hL hi nx
        · subst e
          refine E_tgt (t := 672) rfl ?_
          exact blk_23 H hF hL hi nx
        · subst e
          refine E_tgt (t := 679) rfl ?_
          exact blk_24 H hF hL hi nx
        · subst e
          refine E_tgt (t := 686) rfl ?_
          exact blk_25 H hF hL hi nx
        · subst e
          refine E_tgt (t := 693) rfl ?_
          exact blk_26 H hF hL hi nx
        · subst e
          refine E_tgt (t := 738) rfl ?_
          exact blk_27 H hF hL hi nx
        · subst e
          refine E_tgt (t := 745) rfl ?_
          exact blk_28 H hF hL hi nx
        · subst e
          refine E_tgt (t := 752) rfl ?_
          exact blk_29 H hF hL hi nx
        · subst e
          refine E_tgt (t := 777) rfl ?_
          exact blk_30 H hF hL hi nx
        · subst e
          refine E_tgt (t := 802) rfl ?_
          exact blk_31 H hF hL hi nx
        · subst e
          refine E_tgt (t := 847) rfl ?_
          exact blk_32 H hF hL hi nx
        · subst e
          refine E_tgt (t := 872) rfl ?_
          exact blk_33 H hF hL hi nx
        · subst e
          refine E_tgt (t := 917) rfl ?_
          exact blk_34 H hF hL hi nx
        · subst e
          refine E_tgt (t := 962) rfl ?_
          exact blk_35 H hF hL hi nx
        · subst e
          refine E_tgt (t := 997) rfl ?_
          exact blk_36 H hF hL hi nx
        · subst e
          refine E_tgt (t := 1004) rfl ?_
          exact blk_37 H hF hL hi nx
        · subst e
          refine E_tgt (t := 1011) rfl ?_
          exact blk_38 H hF hL hi nx
        · subst e
          refine E_tgt (t := 1036) rfl ?_
          exact blk_39 H hF hL hi nx
        · subst e
          refine E_tgt (t := 1061) rfl ?_
          exact blk_40 H hF hL hi nx
        · subst e
          refine E_tgt (t := 1086) rfl ?_
          exact blk_41 H hF hL hi nx
        · subst e
          refine E_tgt (t := 1121) rfl ?_
          exact blk_42 H hF hL hi nx
        · subst e
          refine E_tgt (t := 1146) rfl ?_
          exact blk_43 H hF hL hi nx
        · subst e
          refine E_tgt (t := 1181) rfl ?_
          exact blk_44 H hF hL hi nx
        · subst e
          refine E_tgt (t := 1188) rfl ?_
          exact blk_45 H hF hL hi nx
        · subst e
          refine E_tgt (t := 1209) rfl ?_
          exact blk_46 H hF hL hi nx
theorem y_ends : y_Ends := by
  intro L xs hL
  refine law_start rfl (fun h h8 h9 o N hs F => ?_)
  have R := rel_start (L := L) (xs := xs) h8 h9 o N F
  have hs : h.2.1 ≤ 8100 := by
    have : ((28, 0, xcst L xs) : xH).2.1 = 0 := rfl
    omega
  exact law_loop (fun q => fI_rng _) hL (h0 := h) ⟨N, hs⟩ _ 0 h (Int.le_refl 0) rfl R (by omega) (by omega) (by omega)
