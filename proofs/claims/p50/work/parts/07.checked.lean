/-! The checks, by the kernel. -/
theorem xkL_of {L : List xE} {y : MethodName} {bytes : ByteArray} : ∀ (a : List xE), (∀ (j : Nat) (e : xE), a[j]? = some e → xkE L y bytes (a.drop (j + 1)) e = true) → xkL L y bytes a = true := by
  intro a
  induction a with
  | nil => intro _; rfl
  | cons x r ih =>
    intro h
    rw [xkL, Bool.and_eq_true]
    exact ⟨h 0 x rfl, ih (fun j e he => h (j + 1) e (by rw [List.getElem?_cons_succ]; exact he))⟩
theorem xkM_of {g : Nat} (h1 : xkL (xtab g).1 (xinf g).1 (xinf g).2.1 (xtab g).1 = true) (h2 : (xtab g).2.1 ≤ 18) (h3 : xkR (xtab g).2.2.1 (xinf g).2.2.1 = true) (h4 : xkX (xtab g).1 (xinf g).1.cls (xtab g).2.2.2 (xinf g).2.2.2.1 = true) (h5 : (xinf g).2.2.2.1 = []) (h6 : (xtab g).1.head?.map (fun e => e.1) = some 0) (h7 : (xtab g).2.2.2.all (fun x => decide (x.2.2.2.1 < (xtab g).2.1)) = true) : xkM g = true := by
  unfold xkM
  simp only [Bool.and_eq_true]
  exact ⟨⟨⟨⟨⟨⟨h1, decide_eq_true h2⟩, h3⟩, h4⟩, decide_eq_true h5⟩, decide_eq_true h6⟩, h7⟩
set_option maxRecDepth 100000 in
theorem xk_0 : ∀ g, 0 ≤ g → g < 7 → xkM g = true ∧ xkW g = true := by
  intro g h1 h2
  have h : ((List.range 7).all fun i => xkM (0 + i) && xkW (0 + i)) = true := by decide +kernel
  have h3 := List.all_eq_true.mp h (g - 0) (List.mem_range.mpr (by omega))
  rw [Nat.add_sub_cancel' h1] at h3
  exact Bool.and_eq_true_iff.mp h3
set_option maxRecDepth 100000 in
theorem xk_1 : ∀ g, 7 ≤ g → g < 16 → xkM g = true ∧ xkW g = true := by
  intro g h1 h2
  have h : ((List.range 9).all fun i => xkM (7 + i) && xkW (7 + i)) = true := by decide +kernel
  have h3 := List.all_eq_true.mp h (g - 7) (List.mem_range.mpr (by omega))
  rw [Nat.add_sub_cancel' h1] at h3
  exact Bool.and_eq_true_iff.mp h3
set_option maxRecDepth 100000 in
theorem xk_2 : ∀ g, 16 ≤ g → g < 22 → xkM g = true ∧ xkW g = true := by
  intro g h1 h2
  have h : ((List.range 6).all fun i => xkM (16 + i) && xkW (16 + i)) = true := by decide +kernel
  have h3 := List.all_eq_true.mp h (g - 16) (List.mem_range.mpr (by omega))
  rw [Nat.add_sub_cancel' h1] at h3
  exact Bool.and_eq_true_iff.mp h3
set_option maxRecDepth 100000 in
theorem xk_3 : ∀ g, 22 ≤ g → g < 27 → xkM g = true ∧ xkW g = true := by
  intro g h1 h2
  have h : ((List.range 5).all fun i => xkM (22 + i) && xkW (22 + i)) = true := by decide +kernel
  have h3 := List.all_eq_true.mp h (g - 22) (List.mem_range.mpr (by omega))
  rw [Nat.add_sub_cancel' h1] at h3
  exact Bool.and_eq_true_iff.mp h3
set_option maxRecDepth 100000 in
theorem xk_4 : ∀ g, 27 ≤ g → g < 39 → xkM g = true ∧ xkW g = true := by
  intro g h1 h2
  have h : ((List.range 12).all fun i => xkM (27 + i) && xkW (27 + i)) = true := by decide +kernel
  have h3 := List.all_eq_true.mp h (g - 27) (List.mem_range.mpr (by omega))
  rw [Nat.add_sub_cancel' h1] at h3
  exact Bool.and_eq_true_iff.mp h3
set_option maxRecDepth 100000 in
theorem xk_5 : ∀ g, 39 ≤ g → g < 50 → xkM g = true ∧ xkW g = true := by
  intro g h1 h2
  have h : ((List.range 11).all fun i => xkM (39 + i) && xkW (39 + i)) = true := by decide +kernel
  have h3 := List.all_eq_true.mp h (g - 39) (List.mem_range.mpr (by omega))
  rw [Nat.add_sub_cancel' h1] at h3
  exact Bool.and_eq_true_iff.mp h3
set_option maxRecDepth 100000 in
theorem xk_6 : ∀ g, 50 ≤ g → g < 70 → xkM g = true ∧ xkW g = true := by
  intro g h1 h2
  have h : ((List.range 20).all fun i => xkM (50 + i) && xkW (50 + i)) = true := by decide +kernel
  have h3 := List.all_eq_true.mp h (g - 50) (List.mem_range.mpr (by omega))
  rw [Nat.add_sub_cancel' h1] at h3
  exact Bool.and_eq_true_iff.mp h3
set_option maxRecDepth 100000 in
theorem xk_7 : ∀ g, 70 ≤ g → g < 95 → xkM g = true ∧ xkW g = true := by
  intro g h1 h2
  have h : ((List.range 25).all fun i => xkM (70 + i) && xkW (70 + i)) = true := by decide +kernel
  have h3 := List.all_eq_true.mp h (g - 70) (List.mem_range.mpr (by omega))
  rw [Nat.add_sub_cancel' h1] at h3
  exact Bool.and_eq_true_iff.mp h3
set_option maxRecDepth 100000 in
theorem xk_8 : ∀ g, 95 ≤ g → g < 110 → xkM g = true ∧ xkW g = true := by
  intro g h1 h2
  have h : ((List.range 15).all fun i => xkM (95 + i) && xkW (95 + i)) = true := by decide +kernel
  have h3 := List.all_eq_true.mp h (g - 95) (List.mem_range.mpr (by omega))
  rw [Nat.add_sub_cancel' h1] at h3
  exact Bool.and_eq_true_iff.mp h3
set_option maxRecDepth 100000 in
theorem xk_9 : ∀ g, 110 ≤ g → g < 117 → xkM g = true ∧ xkW g = true := by
  intro g h1 h2
  have h : ((List.range 7).all fun i => xkM (110 + i) && xkW (110 + i)) = true := by decide +kernel
  have h3 := List.all_eq_true.mp h (g - 110) (List.mem_range.mpr (by omega))
  rw [Nat.add_sub_cancel' h1] at h3
  exact Bool.and_eq_true_iff.mp h3
set_option maxRecDepth 100000 in
theorem xk_m117_0 : xkJ (xtab 117).1 (xinf 117).1 (xinf 117).2.1 0 40 = true := by decide +kernel
set_option maxRecDepth 100000 in
theorem xk_m117_1 : xkJ (xtab 117).1 (xinf 117).1 (xinf 117).2.1 40 40 = true := by decide +kernel
set_option maxRecDepth 100000 in
theorem xk_m117_2 : xkJ (xtab 117).1 (xinf 117).1 (xinf 117).2.1 80 40 = true := by decide +kernel
set_option maxRecDepth 100000 in
theorem xk_m117_3 : xkJ (xtab 117).1 (xinf 117).1 (xinf 117).2.1 120 40 = true := by decide +kernel
set_option maxRecDepth 100000 in
theorem xk_m117_n : (xtab 117).1.length = 137 ∧ (xtab 117).2.1 ≤ 18 ∧ xkR (xtab 117).2.2.1 (xinf 117).2.2.1 = true ∧ xkX (xtab 117).1 (xinf 117).1.cls (xtab 117).2.2.2 (xinf 117).2.2.2.1 = true ∧ (xinf 117).2.2.2.1 = [] ∧ (xtab 117).1.head?.map (fun e => e.1) = some 0 ∧ (xtab 117).2.2.2.all (fun x => decide (x.2.2.2.1 < (xtab 117).2.1)) = true := by decide +kernel
set_option maxRecDepth 100000 in
theorem xk_m117_w : xkW 117 = true := by decide +kernel
theorem xk_m117 : xkM 117 = true := by
  obtain ⟨h1, h2, h3, h4, h5, h6, h7⟩ := xk_m117_n
  refine xkM_of (xkL_of _ (fun j e h => ?_)) h2 h3 h4 h5 h6 h7
  have hl : j < 137 := by rw [← h1]; exact (List.getElem?_eq_some_iff.mp h).1
  rcases Nat.lt_or_ge j 40 with h_0 | h_0
  · exact xkJ_use xk_m117_0 (by omega) (by omega) h
  rcases Nat.lt_or_ge j 80 with h_40 | h_40
  · exact xkJ_use xk_m117_1 (by omega) (by omega) h
  rcases Nat.lt_or_ge j 120 with h_80 | h_80
  · exact xkJ_use xk_m117_2 (by omega) (by omega) h
  rcases Nat.lt_or_ge j 160 with h_120 | h_120
  · exact xkJ_use xk_m117_3 (by omega) (by omega) h
  omega
theorem xk_10 : ∀ g, 117 ≤ g → g < 118 → xkM g = true ∧ xkW g = true := by
  intro g h1 h2
  obtain rfl : g = 117 := by omega
  exact ⟨xk_m117, xk_m117_w⟩
set_option maxRecDepth 100000 in
theorem xk_m118_0 : xkJ (xtab 118).1 (xinf 118).1 (xinf 118).2.1 0 40 = true := by decide +kernel
set_option maxRecDepth 100000 in
theorem xk_m118_1 : xkJ (xtab 118).1 (xinf 118).1 (xinf 118).2.1 40 40 = true := by decide +kernel
set_option maxRecDepth 100000 in
theorem xk_m118_2 : xkJ (xtab 118).1 (xinf 118).1 (xinf 118).2.1 80 40 = true := by decide +kernel
set_option maxRecDepth 100000 in
theorem xk_m118_3 : xkJ (xtab 118).1 (xinf 118).1 (xinf 118).2.1 120 40 = true := by decide +kernel
set_option maxRecDepth 100000 in
theorem xk_m118_4 : xkJ (xtab 118).1 (xinf 118).1 (xinf 118).2.1 160 40 = true := by decide +kernel
set_option maxRecDepth 100000 in
theorem xk_m118_5 : xkJ (xtab 118).1 (xinf 118).1 (xinf 118).2.1 200 40 = true := by decide +kernel
set_option maxRecDepth 100000 in
theorem xk_m118_6 : xkJ (xtab 118).1 (xinf 118).1 (xinf 118).2.1 240 40 = true := by decide +kernel
set_option maxRecDepth 100000 in
theorem xk_m118_n : (xtab 118).1.length = 280 ∧ (xtab 118).2.1 ≤ 18 ∧ xkR (xtab 118).2.2.1 (xinf 118).2.2.1 = true ∧ xkX (xtab 118).1 (xinf 118).1.cls (xtab 118).2.2.2 (xinf 118).2.2.2.1 = true ∧ (xinf 118).2.2.2.1 = [] ∧ (xtab 118).1.head?.map (fun e => e.1) = some 0 ∧ (xtab 118).2.2.2.all (fun x => decide (x.2.2.2.1 < (xtab 118).2.1)) = true := by decide +kernel
set_option maxRecDepth 100000 in
theorem xk_m118_w : xkW 118 = true := by decide +kernel
theorem xk_m118 : xkM 118 = true := by
  obtain ⟨h1, h2, h3, h4, h5, h6, h7⟩ := xk_m118_n
  refine xkM_of (xkL_of _ (fun j e h => ?_)) h2 h3 h4 h5 h6 h7
  have hl : j < 280 := by rw [← h1]; exact (List.getElem?_eq_some_iff.mp h).1
  rcases Nat.lt_or_ge j 40 with h_0 | h_0
  · exact xkJ_use xk_m118_0 (by omega) (by omega) h
  rcases Nat.lt_or_ge j 80 with h_40 | h_40
  · exact xkJ_use xk_m118_1 (by omega) (by omega) h
  rcases Nat.lt_or_ge j 120 with h_80 | h_80
  · exact xkJ_use xk_m118_2 (by omega) (by omega) h
  rcases Nat.lt_or_ge j 160 with h_120 | h_120
  · exact xkJ_use xk_m118_3 (by omega) (by omega) h
  rcases Nat.lt_or_ge j 200 with h_160 | h_160
  · exact xkJ_use xk_m118_4 (by omega) (by omega) h
  rcases Nat.lt_or_ge j 240 with h_200 | h_200
  · exact xkJ_use xk_m118_5 (by omega) (by omega) h
  rcases Nat.lt_or_ge j 280 with h_240 | h_240
  · exact xkJ_use xk_m118_6 (by omega) (by omega) h
  omega
theorem xk_11 : ∀ g, 118 ≤ g → g < 119 → xkM g = true ∧ xkW g = true := by
  intro g h1 h2
  obtain rfl : g = 118 := by omega
  exact ⟨xk_m118, xk_m118_w⟩
theorem xk_all : ∀ g, g < 119 → xkM g = true ∧ xkW g = true := by
  intro g h
  rcases Nat.lt_or_ge g 7 with h_0 | h_0
  · exact xk_0 g (by omega) h_0
  rcases Nat.lt_or_ge g 16 with h_1 | h_1
  · exact xk_1 g (by omega) h_1
  rcases Nat.lt_or_ge g 22 with h_2 | h_2
  · exact xk_2 g (by omega) h_2
  rcases Nat.lt_or_ge g 27 with h_3 | h_3
  · exact xk_3 g (by omega) h_3
  rcases Nat.lt_or_ge g 39 with h_4 | h_4
  · exact xk_4 g (by omega) h_4
  rcases Nat.lt_or_ge g 50 with h_5 | h_5
  · exact xk_5 g (by omega) h_5
  rcases Nat.lt_or_ge g 70 with h_6 | h_6
  · exact xk_6 g (by omega) h_6
  rcases Nat.lt_or_ge g 95 with h_7 | h_7
  · exact xk_7 g (by omega) h_7
  rcases Nat.lt_or_ge g 110 with h_8 | h_8
  · exact xk_8 g (by omega) h_8
  rcases Nat.lt_or_ge g 117 with h_9 | h_9
  · exact xk_9 g (by omega) h_9
  rcases Nat.lt_or_ge g 118 with h_10 | h_10
  · exact xk_10 g (by omega) h_10
  exact xk_11 g (by omega) (by omega)
set_option maxRecDepth 100000 in
theorem xk_law_0 : xkJ (xtab 119).1 (xinf 119).1 (xinf 119).2.1 0 40 = true := by decide +kernel
set_option maxRecDepth 100000 in
theorem xk_law_1 : xkJ (xtab 119).1 (xinf 119).1 (xinf 119).2.1 40 40 = true := by decide +kernel
set_option maxRecDepth 100000 in
theorem xk_law_2 : xkJ (xtab 119).1 (xinf 119).1 (xinf 119).2.1 80 40 = true := by decide +kernel
set_option maxRecDepth 100000 in
theorem xk_law_3 : xkJ (xtab 119).1 (xinf 119).1 (xinf 119).2.1 120 40 = true := by decide +kernel
set_option maxRecDepth 100000 in
theorem xk_law_n : (xtab 119).1.length = 149 ∧ (xtab 119).2.1 ≤ 18 ∧ xkR (xtab 119).2.2.1 (xinf 119).2.2.1 = true ∧ (xtab 119).2.2.2 = [] ∧ (xinf 119).2.2.2.1 = [] := by decide +kernel
theorem xk_law : ∀ j e, (xtab 119).1[j]? = some e → xkE (xtab 119).1 (xinf 119).1 (xinf 119).2.1 ((xtab 119).1.drop (j + 1)) e = true := by
  intro j e h
  have hl : j < 149 := by rw [← xk_law_n.1]; exact (List.getElem?_eq_some_iff.mp h).1
  rcases Nat.lt_or_ge j 40 with h_0 | h_0
  · exact xkJ_use xk_law_0 (by omega) (by omega) h
  rcases Nat.lt_or_ge j 80 with h_40 | h_40
  · exact xkJ_use xk_law_1 (by omega) (by omega) h
  rcases Nat.lt_or_ge j 120 with h_80 | h_80
  · exact xkJ_use xk_law_2 (by omega) (by omega) h
  rcases Nat.lt_or_ge j 160 with h_120 | h_120
  · exact xkJ_use xk_law_3 (by omega) (by omega) h
  omega
set_option maxRecDepth 100000 in
theorem xk_cl : ∀ ci, ci < 10 → xkCl ci = true := by decide +kernel
theorem xk_thr : ∀ E, E < 3 → xkTh E = true := by decide +kernel
