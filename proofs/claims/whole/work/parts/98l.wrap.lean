/-! The law's wrappers: what a call throws becomes a number. -/
theorem c_L_addNote {d : Nat} {hp : xH} {fs : List Value} (h28 : xat hp 28 = some (.inr (8, fs))) {x0 x1 : Int} {Rq : Option Nat → Int → xH → Prop} (hc : Cv d 70 [.ref 28, yi x0, yi x1] hp (yA Rq)) (h76 : ∀ z h, Rq none z h → ∃ f, xat h 76 = some (.inl (.long, 1, f))) (hE : ∀ E h, Rq (some E) 0 h → E = 0 ∨ E = 1 ∨ E = 2) : Cv (d + 1) 272 [.ref 28, yi x0, yi x1, .ref 76] hp (yW [0, 1, 2] Rq) := by
  have hk : xtab 272 = (xc_272, 5, 1, [(0, 10, 0, 4, 10), (0, 10, 1, 4, 13), (0, 10, 2, 4, 16)]) := rfl
  show Ev (d + 1) 272 0 [(0, .ref 28), (1, yi x0), (2, yi x1), (3, .ref 76)] [] hp _
  refine E_run hk 5 (j' := 5) (lv' := [(0, .ref 28), (1, yi x0), (2, yi x1), (3, .ref 76)]) (st' := [yi x1, yi x0, .ref 28, yi 0, .ref 76]) (hp' := hp) rfl ?_
  refine E_callX hk rfl (as := [.ref 28, yi x0, yi x1]) (rest := [yi 0, .ref 76]) rfl rfl (Nat.le_of_ble_eq_true rfl) (rcv0 h28) (Nat.le_of_ble_eq_true rfl) hc (fun v' h' q => ?_) (fun E' h' q => ?_)
  · rcases q with ⟨z, q1, q2⟩ | ⟨E, q1, -⟩
    · cases q1
      obtain ⟨f, hf⟩ := h76 z h' q2
      show Ev (d + 1) 272 6 [(0, .ref 28), (1, yi x0), (2, yi x1), (3, .ref 76)] [yi z, yi 0, .ref 76] h' _
      refine E_run hk 1 (j' := 7) (lv' := [(0, .ref 28), (1, yi x0), (2, yi x1), (3, .ref 76)]) (st' := [.long ((iN z).toInt64), yi 0, .ref 76]) (hp' := h') rfl ?_
      refine Y_last (a := 0) (by omega) (by decide) (by decide) hk rfl hf (fun h1 e3 f3 => ?_)
      refine E_run hk 2 (j' := 19) (lv' := [(0, .ref 28), (1, yi x0), (2, yi x1), (3, .ref 76)]) (st' := [yi 0]) (hp' := h1) rfl ?_
      exact E_ret hk rfl rfl ⟨0, rfl, Or.inl ⟨rfl, z, h', q2, ⟨_, e3, rfl⟩, f3⟩⟩
    · cases q1
  · rcases q with ⟨z, q1, -⟩ | ⟨E, q1, q2⟩
    · cases q1
    · cases q1
      have q3 := hE E' h' q2
      rcases q3 with q3 | q3 | q3
      · subst q3
        refine Or.inr ⟨4, 10, rfl, ?_⟩
        refine E_run hk 1 (j' := 11) (lv' := [(0, .ref 28), (1, yi x0), (2, yi x1), (3, .ref 76)]) (st' := [yi 1]) (hp' := h') rfl ?_
        exact E_ret hk rfl rfl ⟨1, rfl, Or.inr ⟨0, by decide, by decide, q2⟩⟩
      · subst q3
        refine Or.inr ⟨4, 13, rfl, ?_⟩
        refine E_run hk 1 (j' := 14) (lv' := [(0, .ref 28), (1, yi x0), (2, yi x1), (3, .ref 76)]) (st' := [yi 2]) (hp' := h') rfl ?_
        exact E_ret hk rfl rfl ⟨2, rfl, Or.inr ⟨1, by decide, by decide, q2⟩⟩
      · subst q3
        refine Or.inr ⟨4, 16, rfl, ?_⟩
        refine E_run hk 1 (j' := 17) (lv' := [(0, .ref 28), (1, yi x0), (2, yi x1), (3, .ref 76)]) (st' := [yi 3]) (hp' := h') rfl ?_
        exact E_ret hk rfl rfl ⟨3, rfl, Or.inr ⟨2, by decide, by decide, q2⟩⟩
theorem c_L_setNote {d : Nat} {hp : xH} {fs : List Value} (h28 : xat hp 28 = some (.inr (8, fs))) {x0 x1 x2 : Int} {Rq : Option Nat → Int → xH → Prop} (hc : Cv d 71 [.ref 28, yi x0, yi x1, yi x2] hp (yA Rq)) (h76 : ∀ z h, Rq none z h → ∃ f, xat h 76 = some (.inl (.long, 1, f))) (hE : ∀ E h, Rq (some E) 0 h → E = 0 ∨ E = 1) : Cv (d + 1) 273 [.ref 28, yi x0, yi x1, yi x2, .ref 76] hp (yW [0, 1] Rq) := by
  have hk : xtab 273 = (xc_273, 6, 1, [(0, 12, 0, 5, 11), (0, 12, 1, 5, 14)]) := rfl
  show Ev (d + 1) 273 0 [(0, .ref 28), (1, yi x0), (2, yi x1), (3, yi x2), (4, .ref 76)] [] hp _
  refine E_run hk 6 (j' := 6) (lv' := [(0, .ref 28), (1, yi x0), (2, yi x1), (3, yi x2), (4, .ref 76)]) (st' := [yi x2, yi x1, yi x0, .ref 28, yi 0, .ref 76]) (hp' := hp) rfl ?_
  refine E_callX hk rfl (as := [.ref 28, yi x0, yi x1, yi x2]) (rest := [yi 0, .ref 76]) rfl rfl (Nat.le_of_ble_eq_true rfl) (rcv0 h28) (Nat.le_of_ble_eq_true rfl) hc (fun v' h' q => ?_) (fun E' h' q => ?_)
  · rcases q with ⟨z, q1, q2⟩ | ⟨E, q1, -⟩
    · cases q1
      obtain ⟨f, hf⟩ := h76 z h' q2
      show Ev (d + 1) 273 7 [(0, .ref 28), (1, yi x0), (2, yi x1), (3, yi x2), (4, .ref 76)] [yi z, yi 0, .ref 76] h' _
      refine E_run hk 1 (j' := 8) (lv' := [(0, .ref 28), (1, yi x0), (2, yi x1), (3, yi x2), (4, .ref 76)]) (st' := [.long ((iN z).toInt64), yi 0, .ref 76]) (hp' := h') rfl ?_
      refine Y_last (a := 0) (by omega) (by decide) (by decide) hk rfl hf (fun h1 e3 f3 => ?_)
      refine E_run hk 2 (j' := 17) (lv' := [(0, .ref 28), (1, yi x0), (2, yi x1), (3, yi x2), (4, .ref 76)]) (st' := [yi 0]) (hp' := h1) rfl ?_
      exact E_ret hk rfl rfl ⟨0, rfl, Or.inl ⟨rfl, z, h', q2, ⟨_, e3, rfl⟩, f3⟩⟩
    · cases q1
  · rcases q with ⟨z, q1, -⟩ | ⟨E, q1, q2⟩
    · cases q1
    · cases q1
      have q3 := hE E' h' q2
      rcases q3 with q3 | q3
      · subst q3
        refine Or.inr ⟨5, 11, rfl, ?_⟩
        refine E_run hk 1 (j' := 12) (lv' := [(0, .ref 28), (1, yi x0), (2, yi x1), (3, yi x2), (4, .ref 76)]) (st' := [yi 1]) (hp' := h') rfl ?_
        exact E_ret hk rfl rfl ⟨1, rfl, Or.inr ⟨0, by decide, by decide, q2⟩⟩
      · subst q3
        refine Or.inr ⟨5, 14, rfl, ?_⟩
        refine E_run hk 1 (j' := 15) (lv' := [(0, .ref 28), (1, yi x0), (2, yi x1), (3, yi x2), (4, .ref 76)]) (st' := [yi 2]) (hp' := h') rfl ?_
        exact E_ret hk rfl rfl ⟨2, rfl, Or.inr ⟨1, by decide, by decide, q2⟩⟩
theorem c_L_dropNote {d : Nat} {hp : xH} {fs : List Value} (h28 : xat hp 28 = some (.inr (8, fs))) {x0 x1 : Int} {Rq : Option Nat → Int → xH → Prop} (hc : Cv d 72 [.ref 28, yi x0, yi x1] hp (yA Rq)) (h76 : ∀ z h, Rq none z h → ∃ f, xat h 76 = some (.inl (.long, 1, f))) (hE : ∀ E h, Rq (some E) 0 h → E = 0) : Cv (d + 1) 274 [.ref 28, yi x0, yi x1, .ref 76] hp (yW [0] Rq) := by
  have hk : xtab 274 = (xc_274, 5, 1, [(0, 10, 0, 4, 10)]) := rfl
  show Ev (d + 1) 274 0 [(0, .ref 28), (1, yi x0), (2, yi x1), (3, .ref 76)] [] hp _
  refine E_run hk 5 (j' := 5) (lv' := [(0, .ref 28), (1, yi x0), (2, yi x1), (3, .ref 76)]) (st' := [yi x1, yi x0, .ref 28, yi 0, .ref 76]) (hp' := hp) rfl ?_
  refine E_callX hk rfl (as := [.ref 28, yi x0, yi x1]) (rest := [yi 0, .ref 76]) rfl rfl (Nat.le_of_ble_eq_true rfl) (rcv0 h28) (Nat.le_of_ble_eq_true rfl) hc (fun v' h' q => ?_) (fun E' h' q => ?_)
  · rcases q with ⟨z, q1, q2⟩ | ⟨E, q1, -⟩
    · cases q1
      obtain ⟨f, hf⟩ := h76 z h' q2
      show Ev (d + 1) 274 6 [(0, .ref 28), (1, yi x0), (2, yi x1), (3, .ref 76)] [yi z, yi 0, .ref 76] h' _
      refine E_run hk 1 (j' := 7) (lv' := [(0, .ref 28), (1, yi x0), (2, yi x1), (3, .ref 76)]) (st' := [.long ((iN z).toInt64), yi 0, .ref 76]) (hp' := h') rfl ?_
      refine Y_last (a := 0) (by omega) (by decide) (by decide) hk rfl hf (fun h1 e3 f3 => ?_)
      refine E_run hk 2 (j' := 13) (lv' := [(0, .ref 28), (1, yi x0), (2, yi x1), (3, .ref 76)]) (st' := [yi 0]) (hp' := h1) rfl ?_
      exact E_ret hk rfl rfl ⟨0, rfl, Or.inl ⟨rfl, z, h', q2, ⟨_, e3, rfl⟩, f3⟩⟩
    · cases q1
  · rcases q with ⟨z, q1, -⟩ | ⟨E, q1, q2⟩
    · cases q1
    · cases q1
      have q3 := hE E' h' q2
      subst q3
      refine Or.inr ⟨4, 10, rfl, ?_⟩
      refine E_run hk 1 (j' := 11) (lv' := [(0, .ref 28), (1, yi x0), (2, yi x1), (3, .ref 76)]) (st' := [yi 1]) (hp' := h') rfl ?_
      exact E_ret hk rfl rfl ⟨1, rfl, Or.inr ⟨0, by decide, by decide, q2⟩⟩
theorem c_L_shift {d : Nat} {hp : xH} {fs : List Value} (h28 : xat hp 28 = some (.inr (8, fs))) {x0 x1 : Int} {Rq : Option Nat → Int → xH → Prop} (hc : Cv d 73 [.ref 28, yi x0, yi x1] hp (yA Rq)) (h76 : ∀ z h, Rq none z h → ∃ f, xat h 76 = some (.inl (.long, 1, f))) (hE : ∀ E h, Rq (some E) 0 h → E = 0 ∨ E = 1 ∨ E = 2) : Cv (d + 1) 275 [.ref 28, yi x0, yi x1, .ref 76] hp (yW [0, 1, 2] Rq) := by
  have hk : xtab 275 = (xc_275, 5, 1, [(0, 10, 0, 4, 10), (0, 10, 1, 4, 13), (0, 10, 2, 4, 16)]) := rfl
  show Ev (d + 1) 275 0 [(0, .ref 28), (1, yi x0), (2, yi x1), (3, .ref 76)] [] hp _
  refine E_run hk 5 (j' := 5) (lv' := [(0, .ref 28), (1, yi x0), (2, yi x1), (3, .ref 76)]) (st' := [yi x1, yi x0, .ref 28, yi 0, .ref 76]) (hp' := hp) rfl ?_
  refine E_callX hk rfl (as := [.ref 28, yi x0, yi x1]) (rest := [yi 0, .ref 76]) rfl rfl (Nat.le_of_ble_eq_true rfl) (rcv0 h28) (Nat.le_of_ble_eq_true rfl) hc (fun v' h' q => ?_) (fun E' h' q => ?_)
  · rcases q with ⟨z, q1, q2⟩ | ⟨E, q1, -⟩
    · cases q1
      obtain ⟨f, hf⟩ := h76 z h' q2
      show Ev (d + 1) 275 6 [(0, .ref 28), (1, yi x0), (2, yi x1), (3, .ref 76)] [yi z, yi 0, .ref 76] h' _
      refine E_run hk 1 (j' := 7) (lv' := [(0, .ref 28), (1, yi x0), (2, yi x1), (3, .ref 76)]) (st' := [.long ((iN z).toInt64), yi 0, .ref 76]) (hp' := h') rfl ?_
      refine Y_last (a := 0) (by omega) (by decide) (by decide) hk rfl hf (fun h1 e3 f3 => ?_)
      refine E_run hk 2 (j' := 19) (lv' := [(0, .ref 28), (1, yi x0), (2, yi x1), (3, .ref 76)]) (st' := [yi 0]) (hp' := h1) rfl ?_
      exact E_ret hk rfl rfl ⟨0, rfl, Or.inl ⟨rfl, z, h', q2, ⟨_, e3, rfl⟩, f3⟩⟩
    · cases q1
  · rcases q with ⟨z, q1, -⟩ | ⟨E, q1, q2⟩
    · cases q1
    · cases q1
      have q3 := hE E' h' q2
      rcases q3 with q3 | q3 | q3
      · subst q3
        refine Or.inr ⟨4, 10, rfl, ?_⟩
        refine E_run hk 1 (j' := 11) (lv' := [(0, .ref 28), (1, yi x0), (2, yi x1), (3, .ref 76)]) (st' := [yi 1]) (hp' := h') rfl ?_
        exact E_ret hk rfl rfl ⟨1, rfl, Or.inr ⟨0, by decide, by decide, q2⟩⟩
      · subst q3
        refine Or.inr ⟨4, 13, rfl, ?_⟩
        refine E_run hk 1 (j' := 14) (lv' := [(0, .ref 28), (1, yi x0), (2, yi x1), (3, .ref 76)]) (st' := [yi 2]) (hp' := h') rfl ?_
        exact E_ret hk rfl rfl ⟨2, rfl, Or.inr ⟨1, by decide, by decide, q2⟩⟩
      · subst q3
        refine Or.inr ⟨4, 16, rfl, ?_⟩
        refine E_run hk 1 (j' := 17) (lv' := [(0, .ref 28), (1, yi x0), (2, yi x1), (3, .ref 76)]) (st' := [yi 3]) (hp' := h') rfl ?_
        exact E_ret hk rfl rfl ⟨3, rfl, Or.inr ⟨2, by decide, by decide, q2⟩⟩
theorem c_L_slow {d : Nat} {hp : xH} {fs : List Value} (h28 : xat hp 28 = some (.inr (8, fs))) {x0 : Int} {Rq : Option Nat → Int → xH → Prop} (hc : Cv d 74 [.ref 28, yi x0] hp (yA Rq)) (h76 : ∀ z h, Rq none z h → ∃ f, xat h 76 = some (.inl (.long, 1, f))) (hE : ∀ E h, Rq (some E) 0 h → E = 0 ∨ E = 2) : Cv (d + 1) 276 [.ref 28, yi x0, .ref 76] hp (yW [0, 2] Rq) := by
  have hk : xtab 276 = (xc_276, 4, 1, [(0, 9, 0, 3, 9), (0, 9, 2, 3, 12)]) := rfl
  show Ev (d + 1) 276 0 [(0, .ref 28), (1, yi x0), (2, .ref 76)] [] hp _
  refine E_run hk 4 (j' := 4) (lv' := [(0, .ref 28), (1, yi x0), (2, .ref 76)]) (st' := [yi x0, .ref 28, yi 0, .ref 76]) (hp' := hp) rfl ?_
  refine E_callX hk rfl (as := [.ref 28, yi x0]) (rest := [yi 0, .ref 76]) rfl rfl (Nat.le_of_ble_eq_true rfl) (rcv0 h28) (Nat.le_of_ble_eq_true rfl) hc (fun v' h' q => ?_) (fun E' h' q => ?_)
  · rcases q with ⟨z, q1, q2⟩ | ⟨E, q1, -⟩
    · cases q1
      obtain ⟨f, hf⟩ := h76 z h' q2
      show Ev (d + 1) 276 5 [(0, .ref 28), (1, yi x0), (2, .ref 76)] [yi z, yi 0, .ref 76] h' _
      refine E_run hk 1 (j' := 6) (lv' := [(0, .ref 28), (1, yi x0), (2, .ref 76)]) (st' := [.long ((iN z).toInt64), yi 0, .ref 76]) (hp' := h') rfl ?_
      refine Y_last (a := 0) (by omega) (by decide) (by decide) hk rfl hf (fun h1 e3 f3 => ?_)
      refine E_run hk 2 (j' := 15) (lv' := [(0, .ref 28), (1, yi x0), (2, .ref 76)]) (st' := [yi 0]) (hp' := h1) rfl ?_
      exact E_ret hk rfl rfl ⟨0, rfl, Or.inl ⟨rfl, z, h', q2, ⟨_, e3, rfl⟩, f3⟩⟩
    · cases q1
  · rcases q with ⟨z, q1, -⟩ | ⟨E, q1, q2⟩
    · cases q1
    · cases q1
      have q3 := hE E' h' q2
      rcases q3 with q3 | q3
      · subst q3
        refine Or.inr ⟨3, 9, rfl, ?_⟩
        refine E_run hk 1 (j' := 10) (lv' := [(0, .ref 28), (1, yi x0), (2, .ref 76)]) (st' := [yi 1]) (hp' := h') rfl ?_
        exact E_ret hk rfl rfl ⟨1, rfl, Or.inr ⟨0, by decide, by decide, q2⟩⟩
      · subst q3
        refine Or.inr ⟨3, 12, rfl, ?_⟩
        refine E_run hk 1 (j' := 13) (lv' := [(0, .ref 28), (1, yi x0), (2, .ref 76)]) (st' := [yi 2]) (hp' := h') rfl ?_
        exact E_ret hk rfl rfl ⟨2, rfl, Or.inr ⟨2, by decide, by decide, q2⟩⟩
theorem c_L_flip {d : Nat} {hp : xH} {fs : List Value} (h28 : xat hp 28 = some (.inr (8, fs))) {x0 : Int} {Rq : Option Nat → Int → xH → Prop} (hc : Cv d 75 [.ref 28, yi x0] hp (yA Rq)) (h76 : ∀ z h, Rq none z h → ∃ f, xat h 76 = some (.inl (.long, 1, f))) (hE : ∀ E h, Rq (some E) 0 h → E = 0) : Cv (d + 1) 277 [.ref 28, yi x0, .ref 76] hp (yW [0] Rq) := by
  have hk : xtab 277 = (xc_277, 4, 1, [(0, 9, 0, 3, 9)]) := rfl
  show Ev (d + 1) 277 0 [(0, .ref 28), (1, yi x0), (2, .ref 76)] [] hp _
  refine E_run hk 4 (j' := 4) (lv' := [(0, .ref 28), (1, yi x0), (2, .ref 76)]) (st' := [yi x0, .ref 28, yi 0, .ref 76]) (hp' := hp) rfl ?_
  refine E_callX hk rfl (as := [.ref 28, yi x0]) (rest := [yi 0, .ref 76]) rfl rfl (Nat.le_of_ble_eq_true rfl) (rcv0 h28) (Nat.le_of_ble_eq_true rfl) hc (fun v' h' q => ?_) (fun E' h' q => ?_)
  · rcases q with ⟨z, q1, q2⟩ | ⟨E, q1, -⟩
    · cases q1
      obtain ⟨f, hf⟩ := h76 z h' q2
      show Ev (d + 1) 277 5 [(0, .ref 28), (1, yi x0), (2, .ref 76)] [yi z, yi 0, .ref 76] h' _
      refine E_run hk 1 (j' := 6) (lv' := [(0, .ref 28), (1, yi x0), (2, .ref 76)]) (st' := [.long ((iN z).toInt64), yi 0, .ref 76]) (hp' := h') rfl ?_
      refine Y_last (a := 0) (by omega) (by decide) (by decide) hk rfl hf (fun h1 e3 f3 => ?_)
      refine E_run hk 2 (j' := 12) (lv' := [(0, .ref 28), (1, yi x0), (2, .ref 76)]) (st' := [yi 0]) (hp' := h1) rfl ?_
      exact E_ret hk rfl rfl ⟨0, rfl, Or.inl ⟨rfl, z, h', q2, ⟨_, e3, rfl⟩, f3⟩⟩
    · cases q1
  · rcases q with ⟨z, q1, -⟩ | ⟨E, q1, q2⟩
    · cases q1
    · cases q1
      have q3 := hE E' h' q2
      subst q3
      refine Or.inr ⟨3, 9, rfl, ?_⟩
      refine E_run hk 1 (j' := 10) (lv' := [(0, .ref 28), (1, yi x0), (2, .ref 76)]) (st' := [yi 1]) (hp' := h') rfl ?_
      exact E_ret hk rfl rfl ⟨1, rfl, Or.inr ⟨0, by decide, by decide, q2⟩⟩
theorem c_L_setBound {d : Nat} {hp : xH} {fs : List Value} (h28 : xat hp 28 = some (.inr (8, fs))) {x0 : Int} {Rq : Option Nat → Int → xH → Prop} (hc : Cv d 77 [.ref 28, yi x0] hp (yA Rq)) (h76 : ∀ z h, Rq none z h → ∃ f, xat h 76 = some (.inl (.long, 1, f))) (hE : ∀ E h, Rq (some E) 0 h → E = 1) : Cv (d + 1) 278 [.ref 28, yi x0, .ref 76] hp (yW [1] Rq) := by
  have hk : xtab 278 = (xc_278, 4, 1, [(0, 9, 1, 3, 9)]) := rfl
  show Ev (d + 1) 278 0 [(0, .ref 28), (1, yi x0), (2, .ref 76)] [] hp _
  refine E_run hk 4 (j' := 4) (lv' := [(0, .ref 28), (1, yi x0), (2, .ref 76)]) (st' := [yi x0, .ref 28, yi 0, .ref 76]) (hp' := hp) rfl ?_
  refine E_callX hk rfl (as := [.ref 28, yi x0]) (rest := [yi 0, .ref 76]) rfl rfl (Nat.le_of_ble_eq_true rfl) (rcv0 h28) (Nat.le_of_ble_eq_true rfl) hc (fun v' h' q => ?_) (fun E' h' q => ?_)
  · rcases q with ⟨z, q1, q2⟩ | ⟨E, q1, -⟩
    · cases q1
      obtain ⟨f, hf⟩ := h76 z h' q2
      show Ev (d + 1) 278 5 [(0, .ref 28), (1, yi x0), (2, .ref 76)] [yi z, yi 0, .ref 76] h' _
      refine E_run hk 1 (j' := 6) (lv' := [(0, .ref 28), (1, yi x0), (2, .ref 76)]) (st' := [.long ((iN z).toInt64), yi 0, .ref 76]) (hp' := h') rfl ?_
      refine Y_last (a := 0) (by omega) (by decide) (by decide) hk rfl hf (fun h1 e3 f3 => ?_)
      refine E_run hk 2 (j' := 12) (lv' := [(0, .ref 28), (1, yi x0), (2, .ref 76)]) (st' := [yi 0]) (hp' := h1) rfl ?_
      exact E_ret hk rfl rfl ⟨0, rfl, Or.inl ⟨rfl, z, h', q2, ⟨_, e3, rfl⟩, f3⟩⟩
    · cases q1
  · rcases q with ⟨z, q1, -⟩ | ⟨E, q1, q2⟩
    · cases q1
    · cases q1
      have q3 := hE E' h' q2
      subst q3
      refine Or.inr ⟨3, 9, rfl, ?_⟩
      refine E_run hk 1 (j' := 10) (lv' := [(0, .ref 28), (1, yi x0), (2, .ref 76)]) (st' := [yi 1]) (hp' := h') rfl ?_
      exact E_ret hk rfl rfl ⟨1, rfl, Or.inr ⟨1, by decide, by decide, q2⟩⟩
theorem c_L_setHold {d : Nat} {hp : xH} {fs : List Value} (h28 : xat hp 28 = some (.inr (8, fs))) {x0 : Int} {Rq : Option Nat → Int → xH → Prop} (hc : Cv d 78 [.ref 28, yi x0] hp (yA Rq)) (h76 : ∀ z h, Rq none z h → ∃ f, xat h 76 = some (.inl (.long, 1, f))) (hE : ∀ E h, Rq (some E) 0 h → E = 1) : Cv (d + 1) 279 [.ref 28, yi x0, .ref 76] hp (yW [1] Rq) := by
  have hk : xtab 279 = (xc_279, 4, 1, [(0, 9, 1, 3, 9)]) := rfl
  show Ev (d + 1) 279 0 [(0, .ref 28), (1, yi x0), (2, .ref 76)] [] hp _
  refine E_run hk 4 (j' := 4) (lv' := [(0, .ref 28), (1, yi x0), (2, .ref 76)]) (st' := [yi x0, .ref 28, yi 0, .ref 76]) (hp' := hp) rfl ?_
  refine E_callX hk rfl (as := [.ref 28, yi x0]) (rest := [yi 0, .ref 76]) rfl rfl (Nat.le_of_ble_eq_true rfl) (rcv0 h28) (Nat.le_of_ble_eq_true rfl) hc (fun v' h' q => ?_) (fun E' h' q => ?_)
  · rcases q with ⟨z, q1, q2⟩ | ⟨E, q1, -⟩
    · cases q1
      obtain ⟨f, hf⟩ := h76 z h' q2
      show Ev (d + 1) 279 5 [(0, .ref 28), (1, yi x0), (2, .ref 76)] [yi z, yi 0, .ref 76] h' _
      refine E_run hk 1 (j' := 6) (lv' := [(0, .ref 28), (1, yi x0), (2, .ref 76)]) (st' := [.long ((iN z).toInt64), yi 0, .ref 76]) (hp' := h') rfl ?_
      refine Y_last (a := 0) (by omega) (by decide) (by decide) hk rfl hf (fun h1 e3 f3 => ?_)
      refine E_run hk 2 (j' := 12) (lv' := [(0, .ref 28), (1, yi x0), (2, .ref 76)]) (st' := [yi 0]) (hp' := h1) rfl ?_
      exact E_ret hk rfl rfl ⟨0, rfl, Or.inl ⟨rfl, z, h', q2, ⟨_, e3, rfl⟩, f3⟩⟩
    · cases q1
  · rcases q with ⟨z, q1, -⟩ | ⟨E, q1, q2⟩
    · cases q1
    · cases q1
      have q3 := hE E' h' q2
      subst q3
      refine Or.inr ⟨3, 9, rfl, ?_⟩
      refine E_run hk 1 (j' := 10) (lv' := [(0, .ref 28), (1, yi x0), (2, .ref 76)]) (st' := [yi 1]) (hp' := h') rfl ?_
      exact E_ret hk rfl rfl ⟨1, rfl, Or.inr ⟨1, by decide, by decide, q2⟩⟩
theorem c_L_setJudge {d : Nat} {hp : xH} {fs : List Value} (h28 : xat hp 28 = some (.inr (8, fs))) {x0 : Int} {Rq : Option Nat → Int → xH → Prop} (hc : Cv d 79 [.ref 28, yi x0] hp (yA Rq)) (h76 : ∀ z h, Rq none z h → ∃ f, xat h 76 = some (.inl (.long, 1, f))) (hE : ∀ E h, Rq (some E) 0 h → E = 1) : Cv (d + 1) 280 [.ref 28, yi x0, .ref 76] hp (yW [1] Rq) := by
  have hk : xtab 280 = (xc_280, 4, 1, [(0, 9, 1, 3, 9)]) := rfl
  show Ev (d + 1) 280 0 [(0, .ref 28), (1, yi x0), (2, .ref 76)] [] hp _
  refine E_run hk 4 (j' := 4) (lv' := [(0, .ref 28), (1, yi x0), (2, .ref 76)]) (st' := [yi x0, .ref 28, yi 0, .ref 76]) (hp' := hp) rfl ?_
  refine E_callX hk rfl (as := [.ref 28, yi x0]) (rest := [yi 0, .ref 76]) rfl rfl (Nat.le_of_ble_eq_true rfl) (rcv0 h28) (Nat.le_of_ble_eq_true rfl) hc (fun v' h' q => ?_) (fun E' h' q => ?_)
  · rcases q with ⟨z, q1, q2⟩ | ⟨E, q1, -⟩
    · cases q1
      obtain ⟨f, hf⟩ := h76 z h' q2
      show Ev (d + 1) 280 5 [(0, .ref 28), (1, yi x0), (2, .ref 76)] [yi z, yi 0, .ref 76] h' _
      refine E_run hk 1 (j' := 6) (lv' := [(0, .ref 28), (1, yi x0), (2, .ref 76)]) (st' := [.long ((iN z).toInt64), yi 0, .ref 76]) (hp' := h') rfl ?_
      refine Y_last (a := 0) (by omega) (by decide) (by decide) hk rfl hf (fun h1 e3 f3 => ?_)
      refine E_run hk 2 (j' := 12) (lv' := [(0, .ref 28), (1, yi x0), (2, .ref 76)]) (st' := [yi 0]) (hp' := h1) rfl ?_
      exact E_ret hk rfl rfl ⟨0, rfl, Or.inl ⟨rfl, z, h', q2, ⟨_, e3, rfl⟩, f3⟩⟩
    · cases q1
  · rcases q with ⟨z, q1, -⟩ | ⟨E, q1, q2⟩
    · cases q1
    · cases q1
      have q3 := hE E' h' q2
      subst q3
      refine Or.inr ⟨3, 9, rfl, ?_⟩
      refine E_run hk 1 (j' := 10) (lv' := [(0, .ref 28), (1, yi x0), (2, .ref 76)]) (st' := [yi 1]) (hp' := h') rfl ?_
      exact E_ret hk rfl rfl ⟨1, rfl, Or.inr ⟨1, by decide, by decide, q2⟩⟩
theorem c_L_append {d : Nat} {hp : xH} {fs : List Value} (h28 : xat hp 28 = some (.inr (8, fs))) {x0 : Int} {Rq : Option Nat → Int → xH → Prop} (hc : Cv d 80 [.ref 28, yi x0] hp (yA Rq)) (h76 : ∀ z h, Rq none z h → ∃ f, xat h 76 = some (.inl (.long, 1, f))) (hE : ∀ E h, Rq (some E) 0 h → E = 1 ∨ E = 2) : Cv (d + 1) 281 [.ref 28, yi x0, .ref 76] hp (yW [1, 2] Rq) := by
  have hk : xtab 281 = (xc_281, 4, 1, [(0, 9, 1, 3, 9), (0, 9, 2, 3, 12)]) := rfl
  show Ev (d + 1) 281 0 [(0, .ref 28), (1, yi x0), (2, .ref 76)] [] hp _
  refine E_run hk 4 (j' := 4) (lv' := [(0, .ref 28), (1, yi x0), (2, .ref 76)]) (st' := [yi x0, .ref 28, yi 0, .ref 76]) (hp' := hp) rfl ?_
  refine E_callX hk rfl (as := [.ref 28, yi x0]) (rest := [yi 0, .ref 76]) rfl rfl (Nat.le_of_ble_eq_true rfl) (rcv0 h28) (Nat.le_of_ble_eq_true rfl) hc (fun v' h' q => ?_) (fun E' h' q => ?_)
  · rcases q with ⟨z, q1, q2⟩ | ⟨E, q1, -⟩
    · cases q1
      obtain ⟨f, hf⟩ := h76 z h' q2
      show Ev (d + 1) 281 5 [(0, .ref 28), (1, yi x0), (2, .ref 76)] [yi z, yi 0, .ref 76] h' _
      refine E_run hk 1 (j' := 6) (lv' := [(0, .ref 28), (1, yi x0), (2, .ref 76)]) (st' := [.long ((iN z).toInt64), yi 0, .ref 76]) (hp' := h') rfl ?_
      refine Y_last (a := 0) (by omega) (by decide) (by decide) hk rfl hf (fun h1 e3 f3 => ?_)
      refine E_run hk 2 (j' := 15) (lv' := [(0, .ref 28), (1, yi x0), (2, .ref 76)]) (st' := [yi 0]) (hp' := h1) rfl ?_
      exact E_ret hk rfl rfl ⟨0, rfl, Or.inl ⟨rfl, z, h', q2, ⟨_, e3, rfl⟩, f3⟩⟩
    · cases q1
  · rcases q with ⟨z, q1, -⟩ | ⟨E, q1, q2⟩
    · cases q1
    · cases q1
      have q3 := hE E' h' q2
      rcases q3 with q3 | q3
      · subst q3
        refine Or.inr ⟨3, 9, rfl, ?_⟩
        refine E_run hk 1 (j' := 10) (lv' := [(0, .ref 28), (1, yi x0), (2, .ref 76)]) (st' := [yi 1]) (hp' := h') rfl ?_
        exact E_ret hk rfl rfl ⟨1, rfl, Or.inr ⟨1, by decide, by decide, q2⟩⟩
      · subst q3
        refine Or.inr ⟨3, 12, rfl, ?_⟩
        refine E_run hk 1 (j' := 13) (lv' := [(0, .ref 28), (1, yi x0), (2, .ref 76)]) (st' := [yi 2]) (hp' := h') rfl ?_
        exact E_ret hk rfl rfl ⟨2, rfl, Or.inr ⟨2, by decide, by decide, q2⟩⟩
theorem c_L_work {d : Nat} {hp : xH} {fs : List Value} (h28 : xat hp 28 = some (.inr (8, fs))) {Rq : Option Nat → Int → xH → Prop} (hc : Cv d 83 [.ref 28] hp (yA Rq)) (h76 : ∀ z h, Rq none z h → ∃ f, xat h 76 = some (.inl (.long, 1, f))) (hE : ∀ E h, Rq (some E) 0 h → E = 1) : Cv (d + 1) 282 [.ref 28, .ref 76] hp (yW [1] Rq) := by
  have hk : xtab 282 = (xc_282, 3, 1, [(0, 8, 1, 2, 8)]) := rfl
  show Ev (d + 1) 282 0 [(0, .ref 28), (1, .ref 76)] [] hp _
  refine E_run hk 3 (j' := 3) (lv' := [(0, .ref 28), (1, .ref 76)]) (st' := [.ref 28, yi 0, .ref 76]) (hp' := hp) rfl ?_
  refine E_callX hk rfl (as := [.ref 28]) (rest := [yi 0, .ref 76]) rfl rfl (Nat.le_of_ble_eq_true rfl) (rcv0 h28) (Nat.le_of_ble_eq_true rfl) hc (fun v' h' q => ?_) (fun E' h' q => ?_)
  · rcases q with ⟨z, q1, q2⟩ | ⟨E, q1, -⟩
    · cases q1
      obtain ⟨f, hf⟩ := h76 z h' q2
      show Ev (d + 1) 282 4 [(0, .ref 28), (1, .ref 76)] [yi z, yi 0, .ref 76] h' _
      refine E_run hk 1 (j' := 5) (lv' := [(0, .ref 28), (1, .ref 76)]) (st' := [.long ((iN z).toInt64), yi 0, .ref 76]) (hp' := h') rfl ?_
      refine Y_last (a := 0) (by omega) (by decide) (by decide) hk rfl hf (fun h1 e3 f3 => ?_)
      refine E_run hk 2 (j' := 11) (lv' := [(0, .ref 28), (1, .ref 76)]) (st' := [yi 0]) (hp' := h1) rfl ?_
      exact E_ret hk rfl rfl ⟨0, rfl, Or.inl ⟨rfl, z, h', q2, ⟨_, e3, rfl⟩, f3⟩⟩
    · cases q1
  · rcases q with ⟨z, q1, -⟩ | ⟨E, q1, q2⟩
    · cases q1
    · cases q1
      have q3 := hE E' h' q2
      subst q3
      refine Or.inr ⟨2, 8, rfl, ?_⟩
      refine E_run hk 1 (j' := 9) (lv' := [(0, .ref 28), (1, .ref 76)]) (st' := [yi 1]) (hp' := h') rfl ?_
      exact E_ret hk rfl rfl ⟨1, rfl, Or.inr ⟨1, by decide, by decide, q2⟩⟩
theorem c_L_stoppedPart {d : Nat} {hp : xH} {fs : List Value} (h28 : xat hp 28 = some (.inr (8, fs))) {Rq : Option Nat → Int → xH → Prop} (hc : Cv d 85 [.ref 28] hp (yA Rq)) (h76 : ∀ z h, Rq none z h → ∃ f, xat h 76 = some (.inl (.long, 1, f))) (hE : ∀ E h, Rq (some E) 0 h → E = 2) : Cv (d + 1) 283 [.ref 28, .ref 76] hp (yW [2] Rq) := by
  have hk : xtab 283 = (xc_283, 3, 1, [(0, 8, 2, 2, 8)]) := rfl
  show Ev (d + 1) 283 0 [(0, .ref 28), (1, .ref 76)] [] hp _
  refine E_run hk 3 (j' := 3) (lv' := [(0, .ref 28), (1, .ref 76)]) (st' := [.ref 28, yi 0, .ref 76]) (hp' := hp) rfl ?_
  refine E_callX hk rfl (as := [.ref 28]) (rest := [yi 0, .ref 76]) rfl rfl (Nat.le_of_ble_eq_true rfl) (rcv0 h28) (Nat.le_of_ble_eq_true rfl) hc (fun v' h' q => ?_) (fun E' h' q => ?_)
  · rcases q with ⟨z, q1, q2⟩ | ⟨E, q1, -⟩
    · cases q1
      obtain ⟨f, hf⟩ := h76 z h' q2
      show Ev (d + 1) 283 4 [(0, .ref 28), (1, .ref 76)] [yi z, yi 0, .ref 76] h' _
      refine E_run hk 1 (j' := 5) (lv' := [(0, .ref 28), (1, .ref 76)]) (st' := [.long ((iN z).toInt64), yi 0, .ref 76]) (hp' := h') rfl ?_
      refine Y_last (a := 0) (by omega) (by decide) (by decide) hk rfl hf (fun h1 e3 f3 => ?_)
      refine E_run hk 2 (j' := 11) (lv' := [(0, .ref 28), (1, .ref 76)]) (st' := [yi 0]) (hp' := h1) rfl ?_
      exact E_ret hk rfl rfl ⟨0, rfl, Or.inl ⟨rfl, z, h', q2, ⟨_, e3, rfl⟩, f3⟩⟩
    · cases q1
  · rcases q with ⟨z, q1, -⟩ | ⟨E, q1, q2⟩
    · cases q1
    · cases q1
      have q3 := hE E' h' q2
      subst q3
      refine Or.inr ⟨2, 8, rfl, ?_⟩
      refine E_run hk 1 (j' := 9) (lv' := [(0, .ref 28), (1, .ref 76)]) (st' := [yi 1]) (hp' := h') rfl ?_
      exact E_ret hk rfl rfl ⟨1, rfl, Or.inr ⟨2, by decide, by decide, q2⟩⟩
theorem c_L_whyStopped {d : Nat} {hp : xH} {fs : List Value} (h28 : xat hp 28 = some (.inr (8, fs))) {Rq : Option Nat → Int → xH → Prop} (hc : Cv d 86 [.ref 28] hp (yA Rq)) (h76 : ∀ z h, Rq none z h → ∃ f, xat h 76 = some (.inl (.long, 1, f))) (hE : ∀ E h, Rq (some E) 0 h → E = 2) : Cv (d + 1) 284 [.ref 28, .ref 76] hp (yW [2] Rq) := by
  have hk : xtab 284 = (xc_284, 3, 1, [(0, 8, 2, 2, 8)]) := rfl
  show Ev (d + 1) 284 0 [(0, .ref 28), (1, .ref 76)] [] hp _
  refine E_run hk 3 (j' := 3) (lv' := [(0, .ref 28), (1, .ref 76)]) (st' := [.ref 28, yi 0, .ref 76]) (hp' := hp) rfl ?_
  refine E_callX hk rfl (as := [.ref 28]) (rest := [yi 0, .ref 76]) rfl rfl (Nat.le_of_ble_eq_true rfl) (rcv0 h28) (Nat.le_of_ble_eq_true rfl) hc (fun v' h' q => ?_) (fun E' h' q => ?_)
  · rcases q with ⟨z, q1, q2⟩ | ⟨E, q1, -⟩
    · cases q1
      obtain ⟨f, hf⟩ := h76 z h' q2
      show Ev (d + 1) 284 4 [(0, .ref 28), (1, .ref 76)] [yi z, yi 0, .ref 76] h' _
      refine E_run hk 1 (j' := 5) (lv' := [(0, .ref 28), (1, .ref 76)]) (st' := [.long ((iN z).toInt64), yi 0, .ref 76]) (hp' := h') rfl ?_
      refine Y_last (a := 0) (by omega) (by decide) (by decide) hk rfl hf (fun h1 e3 f3 => ?_)
      refine E_run hk 2 (j' := 11) (lv' := [(0, .ref 28), (1, .ref 76)]) (st' := [yi 0]) (hp' := h1) rfl ?_
      exact E_ret hk rfl rfl ⟨0, rfl, Or.inl ⟨rfl, z, h', q2, ⟨_, e3, rfl⟩, f3⟩⟩
    · cases q1
  · rcases q with ⟨z, q1, -⟩ | ⟨E, q1, q2⟩
    · cases q1
    · cases q1
      have q3 := hE E' h' q2
      subst q3
      refine Or.inr ⟨2, 8, rfl, ?_⟩
      refine E_run hk 1 (j' := 9) (lv' := [(0, .ref 28), (1, .ref 76)]) (st' := [yi 1]) (hp' := h') rfl ?_
      exact E_ret hk rfl rfl ⟨1, rfl, Or.inr ⟨2, by decide, by decide, q2⟩⟩
theorem c_L_undo {d : Nat} {hp : xH} {fs : List Value} (h28 : xat hp 28 = some (.inr (8, fs))) {Rq : Option Nat → Int → xH → Prop} (hc : Cv d 87 [.ref 28] hp (yA Rq)) (h76 : ∀ z h, Rq none z h → ∃ f, xat h 76 = some (.inl (.long, 1, f))) (hE : ∀ E h, Rq (some E) 0 h → E = 2) : Cv (d + 1) 285 [.ref 28, .ref 76] hp (yW [2] Rq) := by
  have hk : xtab 285 = (xc_285, 3, 1, [(0, 8, 2, 2, 8)]) := rfl
  show Ev (d + 1) 285 0 [(0, .ref 28), (1, .ref 76)] [] hp _
  refine E_run hk 3 (j' := 3) (lv' := [(0, .ref 28), (1, .ref 76)]) (st' := [.ref 28, yi 0, .ref 76]) (hp' := hp) rfl ?_
  refine E_callX hk rfl (as := [.ref 28]) (rest := [yi 0, .ref 76]) rfl rfl (Nat.le_of_ble_eq_true rfl) (rcv0 h28) (Nat.le_of_ble_eq_true rfl) hc (fun v' h' q => ?_) (fun E' h' q => ?_)
  · rcases q with ⟨z, q1, q2⟩ | ⟨E, q1, -⟩
    · cases q1
      obtain ⟨f, hf⟩ := h76 z h' q2
      show Ev (d + 1) 285 4 [(0, .ref 28), (1, .ref 76)] [yi z, yi 0, .ref 76] h' _
      refine E_run hk 1 (j' := 5) (lv' := [(0, .ref 28), (1, .ref 76)]) (st' := [.long ((iN z).toInt64), yi 0, .ref 76]) (hp' := h') rfl ?_
      refine Y_last (a := 0) (by omega) (by decide) (by decide) hk rfl hf (fun h1 e3 f3 => ?_)
      refine E_run hk 2 (j' := 11) (lv' := [(0, .ref 28), (1, .ref 76)]) (st' := [yi 0]) (hp' := h1) rfl ?_
      exact E_ret hk rfl rfl ⟨0, rfl, Or.inl ⟨rfl, z, h', q2, ⟨_, e3, rfl⟩, f3⟩⟩
    · cases q1
  · rcases q with ⟨z, q1, -⟩ | ⟨E, q1, q2⟩
    · cases q1
    · cases q1
      have q3 := hE E' h' q2
      subst q3
      refine Or.inr ⟨2, 8, rfl, ?_⟩
      refine E_run hk 1 (j' := 9) (lv' := [(0, .ref 28), (1, .ref 76)]) (st' := [yi 1]) (hp' := h') rfl ?_
      exact E_ret hk rfl rfl ⟨1, rfl, Or.inr ⟨2, by decide, by decide, q2⟩⟩
theorem c_L_restore {d : Nat} {hp : xH} {fs : List Value} (h28 : xat hp 28 = some (.inr (8, fs))) {Rq : Option Nat → Int → xH → Prop} (hc : Cv d 89 [.ref 28] hp (yA Rq)) (h76 : ∀ z h, Rq none z h → ∃ f, xat h 76 = some (.inl (.long, 1, f))) (hE : ∀ E h, Rq (some E) 0 h → E = 2) : Cv (d + 1) 286 [.ref 28, .ref 76] hp (yW [2] Rq) := by
  have hk : xtab 286 = (xc_286, 3, 1, [(0, 8, 2, 2, 8)]) := rfl
  show Ev (d + 1) 286 0 [(0, .ref 28), (1, .ref 76)] [] hp _
  refine E_run hk 3 (j' := 3) (lv' := [(0, .ref 28), (1, .ref 76)]) (st' := [.ref 28, yi 0, .ref 76]) (hp' := hp) rfl ?_
  refine E_callX hk rfl (as := [.ref 28]) (rest := [yi 0, .ref 76]) rfl rfl (Nat.le_of_ble_eq_true rfl) (rcv0 h28) (Nat.le_of_ble_eq_true rfl) hc (fun v' h' q => ?_) (fun E' h' q => ?_)
  · rcases q with ⟨z, q1, q2⟩ | ⟨E, q1, -⟩
    · cases q1
      obtain ⟨f, hf⟩ := h76 z h' q2
      show Ev (d + 1) 286 4 [(0, .ref 28), (1, .ref 76)] [yi z, yi 0, .ref 76] h' _
      refine E_run hk 1 (j' := 5) (lv' := [(0, .ref 28), (1, .ref 76)]) (st' := [.long ((iN z).toInt64), yi 0, .ref 76]) (hp' := h') rfl ?_
      refine Y_last (a := 0) (by omega) (by decide) (by decide) hk rfl hf (fun h1 e3 f3 => ?_)
      refine E_run hk 2 (j' := 11) (lv' := [(0, .ref 28), (1, .ref 76)]) (st' := [yi 0]) (hp' := h1) rfl ?_
      exact E_ret hk rfl rfl ⟨0, rfl, Or.inl ⟨rfl, z, h', q2, ⟨_, e3, rfl⟩, f3⟩⟩
    · cases q1
  · rcases q with ⟨z, q1, -⟩ | ⟨E, q1, q2⟩
    · cases q1
    · cases q1
      have q3 := hE E' h' q2
      subst q3
      refine Or.inr ⟨2, 8, rfl, ?_⟩
      refine E_run hk 1 (j' := 9) (lv' := [(0, .ref 28), (1, .ref 76)]) (st' := [yi 1]) (hp' := h') rfl ?_
      exact E_ret hk rfl rfl ⟨1, rfl, Or.inr ⟨2, by decide, by decide, q2⟩⟩
theorem c_L_notes {d : Nat} {hp : xH} {fs : List Value} (h28 : xat hp 28 = some (.inr (8, fs))) {x0 : Int} {Rq : Option Nat → Int → xH → Prop} (hc : Cv d 91 [.ref 28, yi x0] hp (yA Rq)) (h76 : ∀ z h, Rq none z h → ∃ f, xat h 76 = some (.inl (.long, 1, f))) (hE : ∀ E h, Rq (some E) 0 h → E = 0) : Cv (d + 1) 287 [.ref 28, yi x0, .ref 76] hp (yW [0] Rq) := by
  have hk : xtab 287 = (xc_287, 4, 1, [(0, 9, 0, 3, 9)]) := rfl
  show Ev (d + 1) 287 0 [(0, .ref 28), (1, yi x0), (2, .ref 76)] [] hp _
  refine E_run hk 4 (j' := 4) (lv' := [(0, .ref 28), (1, yi x0), (2, .ref 76)]) (st' := [yi x0, .ref 28, yi 0, .ref 76]) (hp' := hp) rfl ?_
  refine E_callX hk rfl (as := [.ref 28, yi x0]) (rest := [yi 0, .ref 76]) rfl rfl (Nat.le_of_ble_eq_true rfl) (rcv0 h28) (Nat.le_of_ble_eq_true rfl) hc (fun v' h' q => ?_) (fun E' h' q => ?_)
  · rcases q with ⟨z, q1, q2⟩ | ⟨E, q1, -⟩
    · cases q1
      obtain ⟨f, hf⟩ := h76 z h' q2
      show Ev (d + 1) 287 5 [(0, .ref 28), (1, yi x0), (2, .ref 76)] [yi z, yi 0, .ref 76] h' _
      refine E_run hk 1 (j' := 6) (lv' := [(0, .ref 28), (1, yi x0), (2, .ref 76)]) (st' := [.long ((iN z).toInt64), yi 0, .ref 76]) (hp' := h') rfl ?_
      refine Y_last (a := 0) (by omega) (by decide) (by decide) hk rfl hf (fun h1 e3 f3 => ?_)
      refine E_run hk 2 (j' := 12) (lv' := [(0, .ref 28), (1, yi x0), (2, .ref 76)]) (st' := [yi 0]) (hp' := h1) rfl ?_
      exact E_ret hk rfl rfl ⟨0, rfl, Or.inl ⟨rfl, z, h', q2, ⟨_, e3, rfl⟩, f3⟩⟩
    · cases q1
  · rcases q with ⟨z, q1, -⟩ | ⟨E, q1, q2⟩
    · cases q1
    · cases q1
      have q3 := hE E' h' q2
      subst q3
      refine Or.inr ⟨3, 9, rfl, ?_⟩
      refine E_run hk 1 (j' := 10) (lv' := [(0, .ref 28), (1, yi x0), (2, .ref 76)]) (st' := [yi 1]) (hp' := h') rfl ?_
      exact E_ret hk rfl rfl ⟨1, rfl, Or.inr ⟨0, by decide, by decide, q2⟩⟩
theorem c_L_pitch {d : Nat} {hp : xH} {fs : List Value} (h28 : xat hp 28 = some (.inr (8, fs))) {x0 x1 : Int} {Rq : Option Nat → Int → xH → Prop} (hc : Cv d 92 [.ref 28, yi x0, yi x1] hp (yA Rq)) (h76 : ∀ z h, Rq none z h → ∃ f, xat h 76 = some (.inl (.long, 1, f))) (hE : ∀ E h, Rq (some E) 0 h → E = 0) : Cv (d + 1) 288 [.ref 28, yi x0, yi x1, .ref 76] hp (yW [0] Rq) := by
  have hk : xtab 288 = (xc_288, 5, 1, [(0, 10, 0, 4, 10)]) := rfl
  show Ev (d + 1) 288 0 [(0, .ref 28), (1, yi x0), (2, yi x1), (3, .ref 76)] [] hp _
  refine E_run hk 5 (j' := 5) (lv' := [(0, .ref 28), (1, yi x0), (2, yi x1), (3, .ref 76)]) (st' := [yi x1, yi x0, .ref 28, yi 0, .ref 76]) (hp' := hp) rfl ?_
  refine E_callX hk rfl (as := [.ref 28, yi x0, yi x1]) (rest := [yi 0, .ref 76]) rfl rfl (Nat.le_of_ble_eq_true rfl) (rcv0 h28) (Nat.le_of_ble_eq_true rfl) hc (fun v' h' q => ?_) (fun E' h' q => ?_)
  · rcases q with ⟨z, q1, q2⟩ | ⟨E, q1, -⟩
    · cases q1
      obtain ⟨f, hf⟩ := h76 z h' q2
      show Ev (d + 1) 288 6 [(0, .ref 28), (1, yi x0), (2, yi x1), (3, .ref 76)] [yi z, yi 0, .ref 76] h' _
      refine E_run hk 1 (j' := 7) (lv' := [(0, .ref 28), (1, yi x0), (2, yi x1), (3, .ref 76)]) (st' := [.long ((iN z).toInt64), yi 0, .ref 76]) (hp' := h') rfl ?_
      refine Y_last (a := 0) (by omega) (by decide) (by decide) hk rfl hf (fun h1 e3 f3 => ?_)
      refine E_run hk 2 (j' := 13) (lv' := [(0, .ref 28), (1, yi x0), (2, yi x1), (3, .ref 76)]) (st' := [yi 0]) (hp' := h1) rfl ?_
      exact E_ret hk rfl rfl ⟨0, rfl, Or.inl ⟨rfl, z, h', q2, ⟨_, e3, rfl⟩, f3⟩⟩
    · cases q1
  · rcases q with ⟨z, q1, -⟩ | ⟨E, q1, q2⟩
    · cases q1
    · cases q1
      have q3 := hE E' h' q2
      subst q3
      refine Or.inr ⟨4, 10, rfl, ?_⟩
      refine E_run hk 1 (j' := 11) (lv' := [(0, .ref 28), (1, yi x0), (2, yi x1), (3, .ref 76)]) (st' := [yi 1]) (hp' := h') rfl ?_
      exact E_ret hk rfl rfl ⟨1, rfl, Or.inr ⟨0, by decide, by decide, q2⟩⟩
theorem c_L_unlike {d : Nat} {hp : xH} {fs : List Value} (h28 : xat hp 28 = some (.inr (8, fs))) {x0 x1 : Int} {Rq : Option Nat → Int → xH → Prop} (hc : Cv d 96 [.ref 28, yi x0, yi x1] hp (yA Rq)) (h76 : ∀ z h, Rq none z h → ∃ f, xat h 76 = some (.inl (.long, 1, f))) (hE : ∀ E h, Rq (some E) 0 h → E = 0) : Cv (d + 1) 289 [.ref 28, yi x0, yi x1, .ref 76] hp (yW [0] Rq) := by
  have hk : xtab 289 = (xc_289, 5, 1, [(0, 10, 0, 4, 10)]) := rfl
  show Ev (d + 1) 289 0 [(0, .ref 28), (1, yi x0), (2, yi x1), (3, .ref 76)] [] hp _
  refine E_run hk 5 (j' := 5) (lv' := [(0, .ref 28), (1, yi x0), (2, yi x1), (3, .ref 76)]) (st' := [yi x1, yi x0, .ref 28, yi 0, .ref 76]) (hp' := hp) rfl ?_
  refine E_callX hk rfl (as := [.ref 28, yi x0, yi x1]) (rest := [yi 0, .ref 76]) rfl rfl (Nat.le_of_ble_eq_true rfl) (rcv0 h28) (Nat.le_of_ble_eq_true rfl) hc (fun v' h' q => ?_) (fun E' h' q => ?_)
  · rcases q with ⟨z, q1, q2⟩ | ⟨E, q1, -⟩
    · cases q1
      obtain ⟨f, hf⟩ := h76 z h' q2
      show Ev (d + 1) 289 6 [(0, .ref 28), (1, yi x0), (2, yi x1), (3, .ref 76)] [yi z, yi 0, .ref 76] h' _
      refine E_run hk 1 (j' := 7) (lv' := [(0, .ref 28), (1, yi x0), (2, yi x1), (3, .ref 76)]) (st' := [.long ((iN z).toInt64), yi 0, .ref 76]) (hp' := h') rfl ?_
      refine Y_last (a := 0) (by omega) (by decide) (by decide) hk rfl hf (fun h1 e3 f3 => ?_)
      refine E_run hk 2 (j' := 13) (lv' := [(0, .ref 28), (1, yi x0), (2, yi x1), (3, .ref 76)]) (st' := [yi 0]) (hp' := h1) rfl ?_
      exact E_ret hk rfl rfl ⟨0, rfl, Or.inl ⟨rfl, z, h', q2, ⟨_, e3, rfl⟩, f3⟩⟩
    · cases q1
  · rcases q with ⟨z, q1, -⟩ | ⟨E, q1, q2⟩
    · cases q1
    · cases q1
      have q3 := hE E' h' q2
      subst q3
      refine Or.inr ⟨4, 10, rfl, ?_⟩
      refine E_run hk 1 (j' := 11) (lv' := [(0, .ref 28), (1, yi x0), (2, yi x1), (3, .ref 76)]) (st' := [yi 1]) (hp' := h') rfl ?_
      exact E_ret hk rfl rfl ⟨1, rfl, Or.inr ⟨0, by decide, by decide, q2⟩⟩
theorem c_L_cost {d : Nat} {hp : xH} {fs : List Value} (h28 : xat hp 28 = some (.inr (8, fs))) {Rq : Option Nat → Int → xH → Prop} (hc : Cv d 99 [.ref 28] hp (yA Rq)) (h76 : ∀ z h, Rq none z h → ∃ f, xat h 76 = some (.inl (.long, 1, f))) (hE : ∀ E h, Rq (some E) 0 h → E = 2) : Cv (d + 1) 290 [.ref 28, .ref 76] hp (yW [2] Rq) := by
  have hk : xtab 290 = (xc_290, 3, 1, [(0, 8, 2, 2, 8)]) := rfl
  show Ev (d + 1) 290 0 [(0, .ref 28), (1, .ref 76)] [] hp _
  refine E_run hk 3 (j' := 3) (lv' := [(0, .ref 28), (1, .ref 76)]) (st' := [.ref 28, yi 0, .ref 76]) (hp' := hp) rfl ?_
  refine E_callX hk rfl (as := [.ref 28]) (rest := [yi 0, .ref 76]) rfl rfl (Nat.le_of_ble_eq_true rfl) (rcv0 h28) (Nat.le_of_ble_eq_true rfl) hc (fun v' h' q => ?_) (fun E' h' q => ?_)
  · rcases q with ⟨z, q1, q2⟩ | ⟨E, q1, -⟩
    · cases q1
      obtain ⟨f, hf⟩ := h76 z h' q2
      show Ev (d + 1) 290 4 [(0, .ref 28), (1, .ref 76)] [yi z, yi 0, .ref 76] h' _
      refine E_run hk 1 (j' := 5) (lv' := [(0, .ref 28), (1, .ref 76)]) (st' := [.long ((iN z).toInt64), yi 0, .ref 76]) (hp' := h') rfl ?_
      refine Y_last (a := 0) (by omega) (by decide) (by decide) hk rfl hf (fun h1 e3 f3 => ?_)
      refine E_run hk 2 (j' := 11) (lv' := [(0, .ref 28), (1, .ref 76)]) (st' := [yi 0]) (hp' := h1) rfl ?_
      exact E_ret hk rfl rfl ⟨0, rfl, Or.inl ⟨rfl, z, h', q2, ⟨_, e3, rfl⟩, f3⟩⟩
    · cases q1
  · rcases q with ⟨z, q1, -⟩ | ⟨E, q1, q2⟩
    · cases q1
    · cases q1
      have q3 := hE E' h' q2
      subst q3
      refine Or.inr ⟨2, 8, rfl, ?_⟩
      refine E_run hk 1 (j' := 9) (lv' := [(0, .ref 28), (1, .ref 76)]) (st' := [yi 1]) (hp' := h') rfl ?_
      exact E_ret hk rfl rfl ⟨1, rfl, Or.inr ⟨2, by decide, by decide, q2⟩⟩
theorem c_L_costFromEnd {d : Nat} {hp : xH} {fs : List Value} (h28 : xat hp 28 = some (.inr (8, fs))) {Rq : Option Nat → Int → xH → Prop} (hc : Cv d 100 [.ref 28] hp (yA Rq)) (h76 : ∀ z h, Rq none z h → ∃ f, xat h 76 = some (.inl (.long, 1, f))) (hE : ∀ E h, Rq (some E) 0 h → E = 2) : Cv (d + 1) 291 [.ref 28, .ref 76] hp (yW [2] Rq) := by
  have hk : xtab 291 = (xc_291, 3, 1, [(0, 8, 2, 2, 8)]) := rfl
  show Ev (d + 1) 291 0 [(0, .ref 28), (1, .ref 76)] [] hp _
  refine E_run hk 3 (j' := 3) (lv' := [(0, .ref 28), (1, .ref 76)]) (st' := [.ref 28, yi 0, .ref 76]) (hp' := hp) rfl ?_
  refine E_callX hk rfl (as := [.ref 28]) (rest := [yi 0, .ref 76]) rfl rfl (Nat.le_of_ble_eq_true rfl) (rcv0 h28) (Nat.le_of_ble_eq_true rfl) hc (fun v' h' q => ?_) (fun E' h' q => ?_)
  · rcases q with ⟨z, q1, q2⟩ | ⟨E, q1, -⟩
    · cases q1
      obtain ⟨f, hf⟩ := h76 z h' q2
      show Ev (d + 1) 291 4 [(0, .ref 28), (1, .ref 76)] [yi z, yi 0, .ref 76] h' _
      refine E_run hk 1 (j' := 5) (lv' := [(0, .ref 28), (1, .ref 76)]) (st' := [.long ((iN z).toInt64), yi 0, .ref 76]) (hp' := h') rfl ?_
      refine Y_last (a := 0) (by omega) (by decide) (by decide) hk rfl hf (fun h1 e3 f3 => ?_)
      refine E_run hk 2 (j' := 11) (lv' := [(0, .ref 28), (1, .ref 76)]) (st' := [yi 0]) (hp' := h1) rfl ?_
      exact E_ret hk rfl rfl ⟨0, rfl, Or.inl ⟨rfl, z, h', q2, ⟨_, e3, rfl⟩, f3⟩⟩
    · cases q1
  · rcases q with ⟨z, q1, -⟩ | ⟨E, q1, q2⟩
    · cases q1
    · cases q1
      have q3 := hE E' h' q2
      subst q3
      refine Or.inr ⟨2, 8, rfl, ?_⟩
      refine E_run hk 1 (j' := 9) (lv' := [(0, .ref 28), (1, .ref 76)]) (st' := [yi 1]) (hp' := h') rfl ?_
      exact E_ret hk rfl rfl ⟨1, rfl, Or.inr ⟨2, by decide, by decide, q2⟩⟩
theorem c_L_costTo {d : Nat} {hp : xH} {fs : List Value} (h28 : xat hp 28 = some (.inr (8, fs))) {x0 x1 : Int} {Rq : Option Nat → Int → xH → Prop} (hc : Cv d 101 [.ref 28, yi x0, yi x1] hp (yA Rq)) (h76 : ∀ z h, Rq none z h → ∃ f, xat h 76 = some (.inl (.long, 1, f))) (hE : ∀ E h, Rq (some E) 0 h → E = 0) : Cv (d + 1) 292 [.ref 28, yi x0, yi x1, .ref 76] hp (yW [0] Rq) := by
  have hk : xtab 292 = (xc_292, 5, 1, [(0, 10, 0, 4, 10)]) := rfl
  show Ev (d + 1) 292 0 [(0, .ref 28), (1, yi x0), (2, yi x1), (3, .ref 76)] [] hp _
  refine E_run hk 5 (j' := 5) (lv' := [(0, .ref 28), (1, yi x0), (2, yi x1), (3, .ref 76)]) (st' := [yi x1, yi x0, .ref 28, yi 0, .ref 76]) (hp' := hp) rfl ?_
  refine E_callX hk rfl (as := [.ref 28, yi x0, yi x1]) (rest := [yi 0, .ref 76]) rfl rfl (Nat.le_of_ble_eq_true rfl) (rcv0 h28) (Nat.le_of_ble_eq_true rfl) hc (fun v' h' q => ?_) (fun E' h' q => ?_)
  · rcases q with ⟨z, q1, q2⟩ | ⟨E, q1, -⟩
    · cases q1
      obtain ⟨f, hf⟩ := h76 z h' q2
      show Ev (d + 1) 292 6 [(0, .ref 28), (1, yi x0), (2, yi x1), (3, .ref 76)] [yi z, yi 0, .ref 76] h' _
      refine E_run hk 1 (j' := 7) (lv' := [(0, .ref 28), (1, yi x0), (2, yi x1), (3, .ref 76)]) (st' := [.long ((iN z).toInt64), yi 0, .ref 76]) (hp' := h') rfl ?_
      refine Y_last (a := 0) (by omega) (by decide) (by decide) hk rfl hf (fun h1 e3 f3 => ?_)
      refine E_run hk 2 (j' := 13) (lv' := [(0, .ref 28), (1, yi x0), (2, yi x1), (3, .ref 76)]) (st' := [yi 0]) (hp' := h1) rfl ?_
      exact E_ret hk rfl rfl ⟨0, rfl, Or.inl ⟨rfl, z, h', q2, ⟨_, e3, rfl⟩, f3⟩⟩
    · cases q1
  · rcases q with ⟨z, q1, -⟩ | ⟨E, q1, q2⟩
    · cases q1
    · cases q1
      have q3 := hE E' h' q2
      subst q3
      refine Or.inr ⟨4, 10, rfl, ?_⟩
      refine E_run hk 1 (j' := 11) (lv' := [(0, .ref 28), (1, yi x0), (2, yi x1), (3, .ref 76)]) (st' := [yi 1]) (hp' := h') rfl ?_
      exact E_ret hk rfl rfl ⟨1, rfl, Or.inr ⟨0, by decide, by decide, q2⟩⟩
theorem c_L_pairs {d : Nat} {hp : xH} {fs : List Value} (h28 : xat hp 28 = some (.inr (8, fs))) {Rq : Option Nat → Int → xH → Prop} (hc : Cv d 102 [.ref 28] hp (yA Rq)) (h76 : ∀ z h, Rq none z h → ∃ f, xat h 76 = some (.inl (.long, 1, f))) (hE : ∀ E h, Rq (some E) 0 h → E = 2) : Cv (d + 1) 293 [.ref 28, .ref 76] hp (yW [2] Rq) := by
  have hk : xtab 293 = (xc_293, 3, 1, [(0, 8, 2, 2, 8)]) := rfl
  show Ev (d + 1) 293 0 [(0, .ref 28), (1, .ref 76)] [] hp _
  refine E_run hk 3 (j' := 3) (lv' := [(0, .ref 28), (1, .ref 76)]) (st' := [.ref 28, yi 0, .ref 76]) (hp' := hp) rfl ?_
  refine E_callX hk rfl (as := [.ref 28]) (rest := [yi 0, .ref 76]) rfl rfl (Nat.le_of_ble_eq_true rfl) (rcv0 h28) (Nat.le_of_ble_eq_true rfl) hc (fun v' h' q => ?_) (fun E' h' q => ?_)
  · rcases q with ⟨z, q1, q2⟩ | ⟨E, q1, -⟩
    · cases q1
      obtain ⟨f, hf⟩ := h76 z h' q2
      show Ev (d + 1) 293 4 [(0, .ref 28), (1, .ref 76)] [yi z, yi 0, .ref 76] h' _
      refine E_run hk 1 (j' := 5) (lv' := [(0, .ref 28), (1, .ref 76)]) (st' := [.long ((iN z).toInt64), yi 0, .ref 76]) (hp' := h') rfl ?_
      refine Y_last (a := 0) (by omega) (by decide) (by decide) hk rfl hf (fun h1 e3 f3 => ?_)
      refine E_run hk 2 (j' := 11) (lv' := [(0, .ref 28), (1, .ref 76)]) (st' := [yi 0]) (hp' := h1) rfl ?_
      exact E_ret hk rfl rfl ⟨0, rfl, Or.inl ⟨rfl, z, h', q2, ⟨_, e3, rfl⟩, f3⟩⟩
    · cases q1
  · rcases q with ⟨z, q1, -⟩ | ⟨E, q1, q2⟩
    · cases q1
    · cases q1
      have q3 := hE E' h' q2
      subst q3
      refine Or.inr ⟨2, 8, rfl, ?_⟩
      refine E_run hk 1 (j' := 9) (lv' := [(0, .ref 28), (1, .ref 76)]) (st' := [yi 1]) (hp' := h') rfl ?_
      exact E_ret hk rfl rfl ⟨1, rfl, Or.inr ⟨2, by decide, by decide, q2⟩⟩
theorem c_L_noteOfPair {d : Nat} {hp : xH} {fs : List Value} (h28 : xat hp 28 = some (.inr (8, fs))) {x0 x1 : Int} {Rq : Option Nat → Int → xH → Prop} (hc : Cv d 103 [.ref 28, yi x0, yi x1] hp (yA Rq)) (h76 : ∀ z h, Rq none z h → ∃ f, xat h 76 = some (.inl (.long, 1, f))) (hE : ∀ E h, Rq (some E) 0 h → E = 0) : Cv (d + 1) 294 [.ref 28, yi x0, yi x1, .ref 76] hp (yW [0] Rq) := by
  have hk : xtab 294 = (xc_294, 5, 1, [(0, 10, 0, 4, 10)]) := rfl
  show Ev (d + 1) 294 0 [(0, .ref 28), (1, yi x0), (2, yi x1), (3, .ref 76)] [] hp _
  refine E_run hk 5 (j' := 5) (lv' := [(0, .ref 28), (1, yi x0), (2, yi x1), (3, .ref 76)]) (st' := [yi x1, yi x0, .ref 28, yi 0, .ref 76]) (hp' := hp) rfl ?_
  refine E_callX hk rfl (as := [.ref 28, yi x0, yi x1]) (rest := [yi 0, .ref 76]) rfl rfl (Nat.le_of_ble_eq_true rfl) (rcv0 h28) (Nat.le_of_ble_eq_true rfl) hc (fun v' h' q => ?_) (fun E' h' q => ?_)
  · rcases q with ⟨z, q1, q2⟩ | ⟨E, q1, -⟩
    · cases q1
      obtain ⟨f, hf⟩ := h76 z h' q2
      show Ev (d + 1) 294 6 [(0, .ref 28), (1, yi x0), (2, yi x1), (3, .ref 76)] [yi z, yi 0, .ref 76] h' _
      refine E_run hk 1 (j' := 7) (lv' := [(0, .ref 28), (1, yi x0), (2, yi x1), (3, .ref 76)]) (st' := [.long ((iN z).toInt64), yi 0, .ref 76]) (hp' := h') rfl ?_
      refine Y_last (a := 0) (by omega) (by decide) (by decide) hk rfl hf (fun h1 e3 f3 => ?_)
      refine E_run hk 2 (j' := 13) (lv' := [(0, .ref 28), (1, yi x0), (2, yi x1), (3, .ref 76)]) (st' := [yi 0]) (hp' := h1) rfl ?_
      exact E_ret hk rfl rfl ⟨0, rfl, Or.inl ⟨rfl, z, h', q2, ⟨_, e3, rfl⟩, f3⟩⟩
    · cases q1
  · rcases q with ⟨z, q1, -⟩ | ⟨E, q1, q2⟩
    · cases q1
    · cases q1
      have q3 := hE E' h' q2
      subst q3
      refine Or.inr ⟨4, 10, rfl, ?_⟩
      refine E_run hk 1 (j' := 11) (lv' := [(0, .ref 28), (1, yi x0), (2, yi x1), (3, .ref 76)]) (st' := [yi 1]) (hp' := h') rfl ?_
      exact E_ret hk rfl rfl ⟨1, rfl, Or.inr ⟨0, by decide, by decide, q2⟩⟩
theorem c_L_stretch {d : Nat} {hp : xH} {fs : List Value} (h28 : xat hp 28 = some (.inr (8, fs))) {x0 x1 : Int} {Rq : Option Nat → Int → xH → Prop} (hc : Cv d 104 [.ref 28, yi x0, yi x1] hp (yA Rq)) (h76 : ∀ z h, Rq none z h → ∃ f, xat h 76 = some (.inl (.long, 1, f))) (hE : ∀ E h, Rq (some E) 0 h → E = 0) : Cv (d + 1) 295 [.ref 28, yi x0, yi x1, .ref 76] hp (yW [0] Rq) := by
  have hk : xtab 295 = (xc_295, 5, 1, [(0, 10, 0, 4, 10)]) := rfl
  show Ev (d + 1) 295 0 [(0, .ref 28), (1, yi x0), (2, yi x1), (3, .ref 76)] [] hp _
  refine E_run hk 5 (j' := 5) (lv' := [(0, .ref 28), (1, yi x0), (2, yi x1), (3, .ref 76)]) (st' := [yi x1, yi x0, .ref 28, yi 0, .ref 76]) (hp' := hp) rfl ?_
  refine E_callX hk rfl (as := [.ref 28, yi x0, yi x1]) (rest := [yi 0, .ref 76]) rfl rfl (Nat.le_of_ble_eq_true rfl) (rcv0 h28) (Nat.le_of_ble_eq_true rfl) hc (fun v' h' q => ?_) (fun E' h' q => ?_)
  · rcases q with ⟨z, q1, q2⟩ | ⟨E, q1, -⟩
    · cases q1
      obtain ⟨f, hf⟩ := h76 z h' q2
      show Ev (d + 1) 295 6 [(0, .ref 28), (1, yi x0), (2, yi x1), (3, .ref 76)] [yi z, yi 0, .ref 76] h' _
      refine E_run hk 1 (j' := 7) (lv' := [(0, .ref 28), (1, yi x0), (2, yi x1), (3, .ref 76)]) (st' := [.long ((iN z).toInt64), yi 0, .ref 76]) (hp' := h') rfl ?_
      refine Y_last (a := 0) (by omega) (by decide) (by decide) hk rfl hf (fun h1 e3 f3 => ?_)
      refine E_run hk 2 (j' := 13) (lv' := [(0, .ref 28), (1, yi x0), (2, yi x1), (3, .ref 76)]) (st' := [yi 0]) (hp' := h1) rfl ?_
      exact E_ret hk rfl rfl ⟨0, rfl, Or.inl ⟨rfl, z, h', q2, ⟨_, e3, rfl⟩, f3⟩⟩
    · cases q1
  · rcases q with ⟨z, q1, -⟩ | ⟨E, q1, q2⟩
    · cases q1
    · cases q1
      have q3 := hE E' h' q2
      subst q3
      refine Or.inr ⟨4, 10, rfl, ?_⟩
      refine E_run hk 1 (j' := 11) (lv' := [(0, .ref 28), (1, yi x0), (2, yi x1), (3, .ref 76)]) (st' := [yi 1]) (hp' := h') rfl ?_
      exact E_ret hk rfl rfl ⟨1, rfl, Or.inr ⟨0, by decide, by decide, q2⟩⟩
theorem c_L_longestStretch {d : Nat} {hp : xH} {fs : List Value} (h28 : xat hp 28 = some (.inr (8, fs))) {x0 : Int} {Rq : Option Nat → Int → xH → Prop} (hc : Cv d 105 [.ref 28, yi x0] hp (yA Rq)) (h76 : ∀ z h, Rq none z h → ∃ f, xat h 76 = some (.inl (.long, 1, f))) (hE : ∀ E h, Rq (some E) 0 h → E = 0) : Cv (d + 1) 296 [.ref 28, yi x0, .ref 76] hp (yW [0] Rq) := by
  have hk : xtab 296 = (xc_296, 4, 1, [(0, 9, 0, 3, 9)]) := rfl
  show Ev (d + 1) 296 0 [(0, .ref 28), (1, yi x0), (2, .ref 76)] [] hp _
  refine E_run hk 4 (j' := 4) (lv' := [(0, .ref 28), (1, yi x0), (2, .ref 76)]) (st' := [yi x0, .ref 28, yi 0, .ref 76]) (hp' := hp) rfl ?_
  refine E_callX hk rfl (as := [.ref 28, yi x0]) (rest := [yi 0, .ref 76]) rfl rfl (Nat.le_of_ble_eq_true rfl) (rcv0 h28) (Nat.le_of_ble_eq_true rfl) hc (fun v' h' q => ?_) (fun E' h' q => ?_)
  · rcases q with ⟨z, q1, q2⟩ | ⟨E, q1, -⟩
    · cases q1
      obtain ⟨f, hf⟩ := h76 z h' q2
      show Ev (d + 1) 296 5 [(0, .ref 28), (1, yi x0), (2, .ref 76)] [yi z, yi 0, .ref 76] h' _
      refine E_run hk 1 (j' := 6) (lv' := [(0, .ref 28), (1, yi x0), (2, .ref 76)]) (st' := [.long ((iN z).toInt64), yi 0, .ref 76]) (hp' := h') rfl ?_
      refine Y_last (a := 0) (by omega) (by decide) (by decide) hk rfl hf (fun h1 e3 f3 => ?_)
      refine E_run hk 2 (j' := 12) (lv' := [(0, .ref 28), (1, yi x0), (2, .ref 76)]) (st' := [yi 0]) (hp' := h1) rfl ?_
      exact E_ret hk rfl rfl ⟨0, rfl, Or.inl ⟨rfl, z, h', q2, ⟨_, e3, rfl⟩, f3⟩⟩
    · cases q1
  · rcases q with ⟨z, q1, -⟩ | ⟨E, q1, q2⟩
    · cases q1
    · cases q1
      have q3 := hE E' h' q2
      subst q3
      refine Or.inr ⟨3, 9, rfl, ?_⟩
      refine E_run hk 1 (j' := 10) (lv' := [(0, .ref 28), (1, yi x0), (2, .ref 76)]) (st' := [yi 1]) (hp' := h') rfl ?_
      exact E_ret hk rfl rfl ⟨1, rfl, Or.inr ⟨0, by decide, by decide, q2⟩⟩
theorem c_L_partCost {d : Nat} {hp : xH} {fs : List Value} (h28 : xat hp 28 = some (.inr (8, fs))) {Rq : Option Nat → Int → xH → Prop} (hc : Cv d 108 [.ref 28] hp (yA Rq)) (h76 : ∀ z h, Rq none z h → ∃ f, xat h 76 = some (.inl (.long, 1, f))) (hE : ∀ E h, Rq (some E) 0 h → E = 2) : Cv (d + 1) 297 [.ref 28, .ref 76] hp (yW [2] Rq) := by
  have hk : xtab 297 = (xc_297, 3, 1, [(0, 8, 2, 2, 8)]) := rfl
  show Ev (d + 1) 297 0 [(0, .ref 28), (1, .ref 76)] [] hp _
  refine E_run hk 3 (j' := 3) (lv' := [(0, .ref 28), (1, .ref 76)]) (st' := [.ref 28, yi 0, .ref 76]) (hp' := hp) rfl ?_
  refine E_callX hk rfl (as := [.ref 28]) (rest := [yi 0, .ref 76]) rfl rfl (Nat.le_of_ble_eq_true rfl) (rcv0 h28) (Nat.le_of_ble_eq_true rfl) hc (fun v' h' q => ?_) (fun E' h' q => ?_)
  · rcases q with ⟨z, q1, q2⟩ | ⟨E, q1, -⟩
    · cases q1
      obtain ⟨f, hf⟩ := h76 z h' q2
      show Ev (d + 1) 297 4 [(0, .ref 28), (1, .ref 76)] [yi z, yi 0, .ref 76] h' _
      refine E_run hk 1 (j' := 5) (lv' := [(0, .ref 28), (1, .ref 76)]) (st' := [.long ((iN z).toInt64), yi 0, .ref 76]) (hp' := h') rfl ?_
      refine Y_last (a := 0) (by omega) (by decide) (by decide) hk rfl hf (fun h1 e3 f3 => ?_)
      refine E_run hk 2 (j' := 11) (lv' := [(0, .ref 28), (1, .ref 76)]) (st' := [yi 0]) (hp' := h1) rfl ?_
      exact E_ret hk rfl rfl ⟨0, rfl, Or.inl ⟨rfl, z, h', q2, ⟨_, e3, rfl⟩, f3⟩⟩
    · cases q1
  · rcases q with ⟨z, q1, -⟩ | ⟨E, q1, q2⟩
    · cases q1
    · cases q1
      have q3 := hE E' h' q2
      subst q3
      refine Or.inr ⟨2, 8, rfl, ?_⟩
      refine E_run hk 1 (j' := 9) (lv' := [(0, .ref 28), (1, .ref 76)]) (st' := [yi 1]) (hp' := h') rfl ?_
      exact E_ret hk rfl rfl ⟨1, rfl, Or.inr ⟨2, by decide, by decide, q2⟩⟩
theorem c_L_partBegin {d : Nat} {hp : xH} {fs : List Value} (h28 : xat hp 28 = some (.inr (8, fs))) {Rq : Option Nat → Int → xH → Prop} (hc : Cv d 109 [.ref 28] hp (yA Rq)) (h76 : ∀ z h, Rq none z h → ∃ f, xat h 76 = some (.inl (.long, 1, f))) (hE : ∀ E h, Rq (some E) 0 h → E = 2) : Cv (d + 1) 298 [.ref 28, .ref 76] hp (yW [2] Rq) := by
  have hk : xtab 298 = (xc_298, 3, 1, [(0, 8, 2, 2, 8)]) := rfl
  show Ev (d + 1) 298 0 [(0, .ref 28), (1, .ref 76)] [] hp _
  refine E_run hk 3 (j' := 3) (lv' := [(0, .ref 28), (1, .ref 76)]) (st' := [.ref 28, yi 0, .ref 76]) (hp' := hp) rfl ?_
  refine E_callX hk rfl (as := [.ref 28]) (rest := [yi 0, .ref 76]) rfl rfl (Nat.le_of_ble_eq_true rfl) (rcv0 h28) (Nat.le_of_ble_eq_true rfl) hc (fun v' h' q => ?_) (fun E' h' q => ?_)
  · rcases q with ⟨z, q1, q2⟩ | ⟨E, q1, -⟩
    · cases q1
      obtain ⟨f, hf⟩ := h76 z h' q2
      show Ev (d + 1) 298 4 [(0, .ref 28), (1, .ref 76)] [yi z, yi 0, .ref 76] h' _
      refine E_run hk 1 (j' := 5) (lv' := [(0, .ref 28), (1, .ref 76)]) (st' := [.long ((iN z).toInt64), yi 0, .ref 76]) (hp' := h') rfl ?_
      refine Y_last (a := 0) (by omega) (by decide) (by decide) hk rfl hf (fun h1 e3 f3 => ?_)
      refine E_run hk 2 (j' := 11) (lv' := [(0, .ref 28), (1, .ref 76)]) (st' := [yi 0]) (hp' := h1) rfl ?_
      exact E_ret hk rfl rfl ⟨0, rfl, Or.inl ⟨rfl, z, h', q2, ⟨_, e3, rfl⟩, f3⟩⟩
    · cases q1
  · rcases q with ⟨z, q1, -⟩ | ⟨E, q1, q2⟩
    · cases q1
    · cases q1
      have q3 := hE E' h' q2
      subst q3
      refine Or.inr ⟨2, 8, rfl, ?_⟩
      refine E_run hk 1 (j' := 9) (lv' := [(0, .ref 28), (1, .ref 76)]) (st' := [yi 1]) (hp' := h') rfl ?_
      exact E_ret hk rfl rfl ⟨1, rfl, Or.inr ⟨2, by decide, by decide, q2⟩⟩
theorem c_L_partEnd {d : Nat} {hp : xH} {fs : List Value} (h28 : xat hp 28 = some (.inr (8, fs))) {Rq : Option Nat → Int → xH → Prop} (hc : Cv d 110 [.ref 28] hp (yA Rq)) (h76 : ∀ z h, Rq none z h → ∃ f, xat h 76 = some (.inl (.long, 1, f))) (hE : ∀ E h, Rq (some E) 0 h → E = 2) : Cv (d + 1) 299 [.ref 28, .ref 76] hp (yW [2] Rq) := by
  have hk : xtab 299 = (xc_299, 3, 1, [(0, 8, 2, 2, 8)]) := rfl
  show Ev (d + 1) 299 0 [(0, .ref 28), (1, .ref 76)] [] hp _
  refine E_run hk 3 (j' := 3) (lv' := [(0, .ref 28), (1, .ref 76)]) (st' := [.ref 28, yi 0, .ref 76]) (hp' := hp) rfl ?_
  refine E_callX hk rfl (as := [.ref 28]) (rest := [yi 0, .ref 76]) rfl rfl (Nat.le_of_ble_eq_true rfl) (rcv0 h28) (Nat.le_of_ble_eq_true rfl) hc (fun v' h' q => ?_) (fun E' h' q => ?_)
  · rcases q with ⟨z, q1, q2⟩ | ⟨E, q1, -⟩
    · cases q1
      obtain ⟨f, hf⟩ := h76 z h' q2
      show Ev (d + 1) 299 4 [(0, .ref 28), (1, .ref 76)] [yi z, yi 0, .ref 76] h' _
      refine E_run hk 1 (j' := 5) (lv' := [(0, .ref 28), (1, .ref 76)]) (st' := [.long ((iN z).toInt64), yi 0, .ref 76]) (hp' := h') rfl ?_
      refine Y_last (a := 0) (by omega) (by decide) (by decide) hk rfl hf (fun h1 e3 f3 => ?_)
      refine E_run hk 2 (j' := 11) (lv' := [(0, .ref 28), (1, .ref 76)]) (st' := [yi 0]) (hp' := h1) rfl ?_
      exact E_ret hk rfl rfl ⟨0, rfl, Or.inl ⟨rfl, z, h', q2, ⟨_, e3, rfl⟩, f3⟩⟩
    · cases q1
  · rcases q with ⟨z, q1, -⟩ | ⟨E, q1, q2⟩
    · cases q1
    · cases q1
      have q3 := hE E' h' q2
      subst q3
      refine Or.inr ⟨2, 8, rfl, ?_⟩
      refine E_run hk 1 (j' := 9) (lv' := [(0, .ref 28), (1, .ref 76)]) (st' := [yi 1]) (hp' := h') rfl ?_
      exact E_ret hk rfl rfl ⟨1, rfl, Or.inr ⟨2, by decide, by decide, q2⟩⟩
theorem c_L_costWithShift {d : Nat} {hp : xH} {fs : List Value} (h28 : xat hp 28 = some (.inr (8, fs))) {x0 : Int} {Rq : Option Nat → Int → xH → Prop} (hc : Cv d 111 [.ref 28, yi x0] hp (yA Rq)) (h76 : ∀ z h, Rq none z h → ∃ f, xat h 76 = some (.inl (.long, 1, f))) (hE : ∀ E h, Rq (some E) 0 h → E = 1 ∨ E = 2) : Cv (d + 1) 300 [.ref 28, yi x0, .ref 76] hp (yW [1, 2] Rq) := by
  have hk : xtab 300 = (xc_300, 4, 1, [(0, 9, 1, 3, 9), (0, 9, 2, 3, 12)]) := rfl
  show Ev (d + 1) 300 0 [(0, .ref 28), (1, yi x0), (2, .ref 76)] [] hp _
  refine E_run hk 4 (j' := 4) (lv' := [(0, .ref 28), (1, yi x0), (2, .ref 76)]) (st' := [yi x0, .ref 28, yi 0, .ref 76]) (hp' := hp) rfl ?_
  refine E_callX hk rfl (as := [.ref 28, yi x0]) (rest := [yi 0, .ref 76]) rfl rfl (Nat.le_of_ble_eq_true rfl) (rcv0 h28) (Nat.le_of_ble_eq_true rfl) hc (fun v' h' q => ?_) (fun E' h' q => ?_)
  · rcases q with ⟨z, q1, q2⟩ | ⟨E, q1, -⟩
    · cases q1
      obtain ⟨f, hf⟩ := h76 z h' q2
      show Ev (d + 1) 300 5 [(0, .ref 28), (1, yi x0), (2, .ref 76)] [yi z, yi 0, .ref 76] h' _
      refine E_run hk 1 (j' := 6) (lv' := [(0, .ref 28), (1, yi x0), (2, .ref 76)]) (st' := [.long ((iN z).toInt64), yi 0, .ref 76]) (hp' := h') rfl ?_
      refine Y_last (a := 0) (by omega) (by decide) (by decide) hk rfl hf (fun h1 e3 f3 => ?_)
      refine E_run hk 2 (j' := 15) (lv' := [(0, .ref 28), (1, yi x0), (2, .ref 76)]) (st' := [yi 0]) (hp' := h1) rfl ?_
      exact E_ret hk rfl rfl ⟨0, rfl, Or.inl ⟨rfl, z, h', q2, ⟨_, e3, rfl⟩, f3⟩⟩
    · cases q1
  · rcases q with ⟨z, q1, -⟩ | ⟨E, q1, q2⟩
    · cases q1
    · cases q1
      have q3 := hE E' h' q2
      rcases q3 with q3 | q3
      · subst q3
        refine Or.inr ⟨3, 9, rfl, ?_⟩
        refine E_run hk 1 (j' := 10) (lv' := [(0, .ref 28), (1, yi x0), (2, .ref 76)]) (st' := [yi 1]) (hp' := h') rfl ?_
        exact E_ret hk rfl rfl ⟨1, rfl, Or.inr ⟨1, by decide, by decide, q2⟩⟩
      · subst q3
        refine Or.inr ⟨3, 12, rfl, ?_⟩
        refine E_run hk 1 (j' := 13) (lv' := [(0, .ref 28), (1, yi x0), (2, .ref 76)]) (st' := [yi 2]) (hp' := h') rfl ?_
        exact E_ret hk rfl rfl ⟨2, rfl, Or.inr ⟨2, by decide, by decide, q2⟩⟩
theorem c_L_bestShift {d : Nat} {hp : xH} {fs : List Value} (h28 : xat hp 28 = some (.inr (8, fs))) {Rq : Option Nat → Int → xH → Prop} (hc : Cv d 112 [.ref 28] hp (yA Rq)) (h76 : ∀ z h, Rq none z h → ∃ f, xat h 76 = some (.inl (.long, 1, f))) (hE : ∀ E h, Rq (some E) 0 h → E = 2) : Cv (d + 1) 301 [.ref 28, .ref 76] hp (yW [2] Rq) := by
  have hk : xtab 301 = (xc_301, 3, 1, [(0, 8, 2, 2, 8)]) := rfl
  show Ev (d + 1) 301 0 [(0, .ref 28), (1, .ref 76)] [] hp _
  refine E_run hk 3 (j' := 3) (lv' := [(0, .ref 28), (1, .ref 76)]) (st' := [.ref 28, yi 0, .ref 76]) (hp' := hp) rfl ?_
  refine E_callX hk rfl (as := [.ref 28]) (rest := [yi 0, .ref 76]) rfl rfl (Nat.le_of_ble_eq_true rfl) (rcv0 h28) (Nat.le_of_ble_eq_true rfl) hc (fun v' h' q => ?_) (fun E' h' q => ?_)
  · rcases q with ⟨z, q1, q2⟩ | ⟨E, q1, -⟩
    · cases q1
      obtain ⟨f, hf⟩ := h76 z h' q2
      show Ev (d + 1) 301 4 [(0, .ref 28), (1, .ref 76)] [yi z, yi 0, .ref 76] h' _
      refine E_run hk 1 (j' := 5) (lv' := [(0, .ref 28), (1, .ref 76)]) (st' := [.long ((iN z).toInt64), yi 0, .ref 76]) (hp' := h') rfl ?_
      refine Y_last (a := 0) (by omega) (by decide) (by decide) hk rfl hf (fun h1 e3 f3 => ?_)
      refine E_run hk 2 (j' := 11) (lv' := [(0, .ref 28), (1, .ref 76)]) (st' := [yi 0]) (hp' := h1) rfl ?_
      exact E_ret hk rfl rfl ⟨0, rfl, Or.inl ⟨rfl, z, h', q2, ⟨_, e3, rfl⟩, f3⟩⟩
    · cases q1
  · rcases q with ⟨z, q1, -⟩ | ⟨E, q1, q2⟩
    · cases q1
    · cases q1
      have q3 := hE E' h' q2
      subst q3
      refine Or.inr ⟨2, 8, rfl, ?_⟩
      refine E_run hk 1 (j' := 9) (lv' := [(0, .ref 28), (1, .ref 76)]) (st' := [yi 1]) (hp' := h') rfl ?_
      exact E_ret hk rfl rfl ⟨1, rfl, Or.inr ⟨2, by decide, by decide, q2⟩⟩
theorem c_L_costWithBound {d : Nat} {hp : xH} {fs : List Value} (h28 : xat hp 28 = some (.inr (8, fs))) {x0 : Int} {Rq : Option Nat → Int → xH → Prop} (hc : Cv d 113 [.ref 28, yi x0] hp (yA Rq)) (h76 : ∀ z h, Rq none z h → ∃ f, xat h 76 = some (.inl (.long, 1, f))) (hE : ∀ E h, Rq (some E) 0 h → E = 1) : Cv (d + 1) 302 [.ref 28, yi x0, .ref 76] hp (yW [1] Rq) := by
  have hk : xtab 302 = (xc_302, 4, 1, [(0, 9, 1, 3, 9)]) := rfl
  show Ev (d + 1) 302 0 [(0, .ref 28), (1, yi x0), (2, .ref 76)] [] hp _
  refine E_run hk 4 (j' := 4) (lv' := [(0, .ref 28), (1, yi x0), (2, .ref 76)]) (st' := [yi x0, .ref 28, yi 0, .ref 76]) (hp' := hp) rfl ?_
  refine E_callX hk rfl (as := [.ref 28, yi x0]) (rest := [yi 0, .ref 76]) rfl rfl (Nat.le_of_ble_eq_true rfl) (rcv0 h28) (Nat.le_of_ble_eq_true rfl) hc (fun v' h' q => ?_) (fun E' h' q => ?_)
  · rcases q with ⟨z, q1, q2⟩ | ⟨E, q1, -⟩
    · cases q1
      obtain ⟨f, hf⟩ := h76 z h' q2
      show Ev (d + 1) 302 5 [(0, .ref 28), (1, yi x0), (2, .ref 76)] [yi z, yi 0, .ref 76] h' _
      refine E_run hk 1 (j' := 6) (lv' := [(0, .ref 28), (1, yi x0), (2, .ref 76)]) (st' := [.long ((iN z).toInt64), yi 0, .ref 76]) (hp' := h') rfl ?_
      refine Y_last (a := 0) (by omega) (by decide) (by decide) hk rfl hf (fun h1 e3 f3 => ?_)
      refine E_run hk 2 (j' := 12) (lv' := [(0, .ref 28), (1, yi x0), (2, .ref 76)]) (st' := [yi 0]) (hp' := h1) rfl ?_
      exact E_ret hk rfl rfl ⟨0, rfl, Or.inl ⟨rfl, z, h', q2, ⟨_, e3, rfl⟩, f3⟩⟩
    · cases q1
  · rcases q with ⟨z, q1, -⟩ | ⟨E, q1, q2⟩
    · cases q1
    · cases q1
      have q3 := hE E' h' q2
      subst q3
      refine Or.inr ⟨3, 9, rfl, ?_⟩
      refine E_run hk 1 (j' := 10) (lv' := [(0, .ref 28), (1, yi x0), (2, .ref 76)]) (st' := [yi 1]) (hp' := h') rfl ?_
      exact E_ret hk rfl rfl ⟨1, rfl, Or.inr ⟨1, by decide, by decide, q2⟩⟩
