/-! The checks, by the kernel. -/
set_option maxRecDepth 100000 in
theorem xk_0 : ∀ g, 0 ≤ g → g < 12 → xkM g = true ∧ xkW g = true := by
  intro g h1 h2
  have h : ((List.range 12).all fun i => xkM (0 + i) && xkW (0 + i)) = true := by decide +kernel
  have h3 := List.all_eq_true.mp h (g - 0) (List.mem_range.mpr (by omega))
  rw [Nat.add_sub_cancel' h1] at h3
  exact Bool.and_eq_true_iff.mp h3
set_option maxRecDepth 100000 in
theorem xk_1 : ∀ g, 12 ≤ g → g < 24 → xkM g = true ∧ xkW g = true := by
  intro g h1 h2
  have h : ((List.range 12).all fun i => xkM (12 + i) && xkW (12 + i)) = true := by decide +kernel
  have h3 := List.all_eq_true.mp h (g - 12) (List.mem_range.mpr (by omega))
  rw [Nat.add_sub_cancel' h1] at h3
  exact Bool.and_eq_true_iff.mp h3
set_option maxRecDepth 100000 in
theorem xk_2 : ∀ g, 24 ≤ g → g < 36 → xkM g = true ∧ xkW g = true := by
  intro g h1 h2
  have h : ((List.range 12).all fun i => xkM (24 + i) && xkW (24 + i)) = true := by decide +kernel
  have h3 := List.all_eq_true.mp h (g - 24) (List.mem_range.mpr (by omega))
  rw [Nat.add_sub_cancel' h1] at h3
  exact Bool.and_eq_true_iff.mp h3
set_option maxRecDepth 100000 in
theorem xk_3 : ∀ g, 36 ≤ g → g < 48 → xkM g = true ∧ xkW g = true := by
  intro g h1 h2
  have h : ((List.range 12).all fun i => xkM (36 + i) && xkW (36 + i)) = true := by decide +kernel
  have h3 := List.all_eq_true.mp h (g - 36) (List.mem_range.mpr (by omega))
  rw [Nat.add_sub_cancel' h1] at h3
  exact Bool.and_eq_true_iff.mp h3
set_option maxRecDepth 100000 in
theorem xk_4 : ∀ g, 48 ≤ g → g < 60 → xkM g = true ∧ xkW g = true := by
  intro g h1 h2
  have h : ((List.range 12).all fun i => xkM (48 + i) && xkW (48 + i)) = true := by decide +kernel
  have h3 := List.all_eq_true.mp h (g - 48) (List.mem_range.mpr (by omega))
  rw [Nat.add_sub_cancel' h1] at h3
  exact Bool.and_eq_true_iff.mp h3
set_option maxRecDepth 100000 in
theorem xk_5 : ∀ g, 60 ≤ g → g < 72 → xkM g = true ∧ xkW g = true := by
  intro g h1 h2
  have h : ((List.range 12).all fun i => xkM (60 + i) && xkW (60 + i)) = true := by decide +kernel
  have h3 := List.all_eq_true.mp h (g - 60) (List.mem_range.mpr (by omega))
  rw [Nat.add_sub_cancel' h1] at h3
  exact Bool.and_eq_true_iff.mp h3
set_option maxRecDepth 100000 in
theorem xk_6 : ∀ g, 72 ≤ g → g < 84 → xkM g = true ∧ xkW g = true := by
  intro g h1 h2
  have h : ((List.range 12).all fun i => xkM (72 + i) && xkW (72 + i)) = true := by decide +kernel
  have h3 := List.all_eq_true.mp h (g - 72) (List.mem_range.mpr (by omega))
  rw [Nat.add_sub_cancel' h1] at h3
  exact Bool.and_eq_true_iff.mp h3
set_option maxRecDepth 100000 in
theorem xk_7 : ∀ g, 84 ≤ g → g < 96 → xkM g = true ∧ xkW g = true := by
  intro g h1 h2
  have h : ((List.range 12).all fun i => xkM (84 + i) && xkW (84 + i)) = true := by decide +kernel
  have h3 := List.all_eq_true.mp h (g - 84) (List.mem_range.mpr (by omega))
  rw [Nat.add_sub_cancel' h1] at h3
  exact Bool.and_eq_true_iff.mp h3
set_option maxRecDepth 100000 in
theorem xk_8 : ∀ g, 96 ≤ g → g < 108 → xkM g = true ∧ xkW g = true := by
  intro g h1 h2
  have h : ((List.range 12).all fun i => xkM (96 + i) && xkW (96 + i)) = true := by decide +kernel
  have h3 := List.all_eq_true.mp h (g - 96) (List.mem_range.mpr (by omega))
  rw [Nat.add_sub_cancel' h1] at h3
  exact Bool.and_eq_true_iff.mp h3
set_option maxRecDepth 100000 in
theorem xk_9 : ∀ g, 108 ≤ g → g < 120 → xkM g = true ∧ xkW g = true := by
  intro g h1 h2
  have h : ((List.range 12).all fun i => xkM (108 + i) && xkW (108 + i)) = true := by decide +kernel
  have h3 := List.all_eq_true.mp h (g - 108) (List.mem_range.mpr (by omega))
  rw [Nat.add_sub_cancel' h1] at h3
  exact Bool.and_eq_true_iff.mp h3
set_option maxRecDepth 100000 in
theorem xk_10 : ∀ g, 120 ≤ g → g < 132 → xkM g = true ∧ xkW g = true := by
  intro g h1 h2
  have h : ((List.range 12).all fun i => xkM (120 + i) && xkW (120 + i)) = true := by decide +kernel
  have h3 := List.all_eq_true.mp h (g - 120) (List.mem_range.mpr (by omega))
  rw [Nat.add_sub_cancel' h1] at h3
  exact Bool.and_eq_true_iff.mp h3
set_option maxRecDepth 100000 in
theorem xk_11 : ∀ g, 132 ≤ g → g < 144 → xkM g = true ∧ xkW g = true := by
  intro g h1 h2
  have h : ((List.range 12).all fun i => xkM (132 + i) && xkW (132 + i)) = true := by decide +kernel
  have h3 := List.all_eq_true.mp h (g - 132) (List.mem_range.mpr (by omega))
  rw [Nat.add_sub_cancel' h1] at h3
  exact Bool.and_eq_true_iff.mp h3
set_option maxRecDepth 100000 in
theorem xk_12 : ∀ g, 144 ≤ g → g < 156 → xkM g = true ∧ xkW g = true := by
  intro g h1 h2
  have h : ((List.range 12).all fun i => xkM (144 + i) && xkW (144 + i)) = true := by decide +kernel
  have h3 := List.all_eq_true.mp h (g - 144) (List.mem_range.mpr (by omega))
  rw [Nat.add_sub_cancel' h1] at h3
  exact Bool.and_eq_true_iff.mp h3
set_option maxRecDepth 100000 in
theorem xk_13 : ∀ g, 156 ≤ g → g < 168 → xkM g = true ∧ xkW g = true := by
  intro g h1 h2
  have h : ((List.range 12).all fun i => xkM (156 + i) && xkW (156 + i)) = true := by decide +kernel
  have h3 := List.all_eq_true.mp h (g - 156) (List.mem_range.mpr (by omega))
  rw [Nat.add_sub_cancel' h1] at h3
  exact Bool.and_eq_true_iff.mp h3
set_option maxRecDepth 100000 in
theorem xk_14 : ∀ g, 168 ≤ g → g < 180 → xkM g = true ∧ xkW g = true := by
  intro g h1 h2
  have h : ((List.range 12).all fun i => xkM (168 + i) && xkW (168 + i)) = true := by decide +kernel
  have h3 := List.all_eq_true.mp h (g - 168) (List.mem_range.mpr (by omega))
  rw [Nat.add_sub_cancel' h1] at h3
  exact Bool.and_eq_true_iff.mp h3
set_option maxRecDepth 100000 in
theorem xk_15 : ∀ g, 180 ≤ g → g < 192 → xkM g = true ∧ xkW g = true := by
  intro g h1 h2
  have h : ((List.range 12).all fun i => xkM (180 + i) && xkW (180 + i)) = true := by decide +kernel
  have h3 := List.all_eq_true.mp h (g - 180) (List.mem_range.mpr (by omega))
  rw [Nat.add_sub_cancel' h1] at h3
  exact Bool.and_eq_true_iff.mp h3
set_option maxRecDepth 100000 in
theorem xk_16 : ∀ g, 192 ≤ g → g < 204 → xkM g = true ∧ xkW g = true := by
  intro g h1 h2
  have h : ((List.range 12).all fun i => xkM (192 + i) && xkW (192 + i)) = true := by decide +kernel
  have h3 := List.all_eq_true.mp h (g - 192) (List.mem_range.mpr (by omega))
  rw [Nat.add_sub_cancel' h1] at h3
  exact Bool.and_eq_true_iff.mp h3
set_option maxRecDepth 100000 in
theorem xk_17 : ∀ g, 204 ≤ g → g < 216 → xkM g = true ∧ xkW g = true := by
  intro g h1 h2
  have h : ((List.range 12).all fun i => xkM (204 + i) && xkW (204 + i)) = true := by decide +kernel
  have h3 := List.all_eq_true.mp h (g - 204) (List.mem_range.mpr (by omega))
  rw [Nat.add_sub_cancel' h1] at h3
  exact Bool.and_eq_true_iff.mp h3
set_option maxRecDepth 100000 in
theorem xk_18 : ∀ g, 216 ≤ g → g < 228 → xkM g = true ∧ xkW g = true := by
  intro g h1 h2
  have h : ((List.range 12).all fun i => xkM (216 + i) && xkW (216 + i)) = true := by decide +kernel
  have h3 := List.all_eq_true.mp h (g - 216) (List.mem_range.mpr (by omega))
  rw [Nat.add_sub_cancel' h1] at h3
  exact Bool.and_eq_true_iff.mp h3
set_option maxRecDepth 100000 in
theorem xk_19 : ∀ g, 228 ≤ g → g < 240 → xkM g = true ∧ xkW g = true := by
  intro g h1 h2
  have h : ((List.range 12).all fun i => xkM (228 + i) && xkW (228 + i)) = true := by decide +kernel
  have h3 := List.all_eq_true.mp h (g - 228) (List.mem_range.mpr (by omega))
  rw [Nat.add_sub_cancel' h1] at h3
  exact Bool.and_eq_true_iff.mp h3
set_option maxRecDepth 100000 in
theorem xk_20 : ∀ g, 240 ≤ g → g < 252 → xkM g = true ∧ xkW g = true := by
  intro g h1 h2
  have h : ((List.range 12).all fun i => xkM (240 + i) && xkW (240 + i)) = true := by decide +kernel
  have h3 := List.all_eq_true.mp h (g - 240) (List.mem_range.mpr (by omega))
  rw [Nat.add_sub_cancel' h1] at h3
  exact Bool.and_eq_true_iff.mp h3
set_option maxRecDepth 100000 in
theorem xk_21 : ∀ g, 252 ≤ g → g < 264 → xkM g = true ∧ xkW g = true := by
  intro g h1 h2
  have h : ((List.range 12).all fun i => xkM (252 + i) && xkW (252 + i)) = true := by decide +kernel
  have h3 := List.all_eq_true.mp h (g - 252) (List.mem_range.mpr (by omega))
  rw [Nat.add_sub_cancel' h1] at h3
  exact Bool.and_eq_true_iff.mp h3
set_option maxRecDepth 100000 in
theorem xk_22 : ∀ g, 264 ≤ g → g < 276 → xkM g = true ∧ xkW g = true := by
  intro g h1 h2
  have h : ((List.range 12).all fun i => xkM (264 + i) && xkW (264 + i)) = true := by decide +kernel
  have h3 := List.all_eq_true.mp h (g - 264) (List.mem_range.mpr (by omega))
  rw [Nat.add_sub_cancel' h1] at h3
  exact Bool.and_eq_true_iff.mp h3
set_option maxRecDepth 100000 in
theorem xk_23 : ∀ g, 276 ≤ g → g < 288 → xkM g = true ∧ xkW g = true := by
  intro g h1 h2
  have h : ((List.range 12).all fun i => xkM (276 + i) && xkW (276 + i)) = true := by decide +kernel
  have h3 := List.all_eq_true.mp h (g - 276) (List.mem_range.mpr (by omega))
  rw [Nat.add_sub_cancel' h1] at h3
  exact Bool.and_eq_true_iff.mp h3
set_option maxRecDepth 100000 in
theorem xk_24 : ∀ g, 288 ≤ g → g < 300 → xkM g = true ∧ xkW g = true := by
  intro g h1 h2
  have h : ((List.range 12).all fun i => xkM (288 + i) && xkW (288 + i)) = true := by decide +kernel
  have h3 := List.all_eq_true.mp h (g - 288) (List.mem_range.mpr (by omega))
  rw [Nat.add_sub_cancel' h1] at h3
  exact Bool.and_eq_true_iff.mp h3
set_option maxRecDepth 100000 in
theorem xk_25 : ∀ g, 300 ≤ g → g < 303 → xkM g = true ∧ xkW g = true := by
  intro g h1 h2
  have h : ((List.range 3).all fun i => xkM (300 + i) && xkW (300 + i)) = true := by decide +kernel
  have h3 := List.all_eq_true.mp h (g - 300) (List.mem_range.mpr (by omega))
  rw [Nat.add_sub_cancel' h1] at h3
  exact Bool.and_eq_true_iff.mp h3
theorem xk_all : ∀ g, g < 303 → xkM g = true ∧ xkW g = true := by
  intro g h
  rcases Nat.lt_or_ge g 12 with h_0 | h_0
  · exact xk_0 g (by omega) h_0
  rcases Nat.lt_or_ge g 24 with h_1 | h_1
  · exact xk_1 g (by omega) h_1
  rcases Nat.lt_or_ge g 36 with h_2 | h_2
  · exact xk_2 g (by omega) h_2
  rcases Nat.lt_or_ge g 48 with h_3 | h_3
  · exact xk_3 g (by omega) h_3
  rcases Nat.lt_or_ge g 60 with h_4 | h_4
  · exact xk_4 g (by omega) h_4
  rcases Nat.lt_or_ge g 72 with h_5 | h_5
  · exact xk_5 g (by omega) h_5
  rcases Nat.lt_or_ge g 84 with h_6 | h_6
  · exact xk_6 g (by omega) h_6
  rcases Nat.lt_or_ge g 96 with h_7 | h_7
  · exact xk_7 g (by omega) h_7
  rcases Nat.lt_or_ge g 108 with h_8 | h_8
  · exact xk_8 g (by omega) h_8
  rcases Nat.lt_or_ge g 120 with h_9 | h_9
  · exact xk_9 g (by omega) h_9
  rcases Nat.lt_or_ge g 132 with h_10 | h_10
  · exact xk_10 g (by omega) h_10
  rcases Nat.lt_or_ge g 144 with h_11 | h_11
  · exact xk_11 g (by omega) h_11
  rcases Nat.lt_or_ge g 156 with h_12 | h_12
  · exact xk_12 g (by omega) h_12
  rcases Nat.lt_or_ge g 168 with h_13 | h_13
  · exact xk_13 g (by omega) h_13
  rcases Nat.lt_or_ge g 180 with h_14 | h_14
  · exact xk_14 g (by omega) h_14
  rcases Nat.lt_or_ge g 192 with h_15 | h_15
  · exact xk_15 g (by omega) h_15
  rcases Nat.lt_or_ge g 204 with h_16 | h_16
  · exact xk_16 g (by omega) h_16
  rcases Nat.lt_or_ge g 216 with h_17 | h_17
  · exact xk_17 g (by omega) h_17
  rcases Nat.lt_or_ge g 228 with h_18 | h_18
  · exact xk_18 g (by omega) h_18
  rcases Nat.lt_or_ge g 240 with h_19 | h_19
  · exact xk_19 g (by omega) h_19
  rcases Nat.lt_or_ge g 252 with h_20 | h_20
  · exact xk_20 g (by omega) h_20
  rcases Nat.lt_or_ge g 264 with h_21 | h_21
  · exact xk_21 g (by omega) h_21
  rcases Nat.lt_or_ge g 276 with h_22 | h_22
  · exact xk_22 g (by omega) h_22
  rcases Nat.lt_or_ge g 288 with h_23 | h_23
  · exact xk_23 g (by omega) h_23
  rcases Nat.lt_or_ge g 300 with h_24 | h_24
  · exact xk_24 g (by omega) h_24
  exact xk_25 g (by omega) (by omega)
set_option maxRecDepth 100000 in
theorem xk_law_0 : xkJ (xtab 303).1 (xinf 303).1 (xinf 303).2.1 0 40 = true := by decide +kernel
set_option maxRecDepth 100000 in
theorem xk_law_1 : xkJ (xtab 303).1 (xinf 303).1 (xinf 303).2.1 40 40 = true := by decide +kernel
set_option maxRecDepth 100000 in
theorem xk_law_2 : xkJ (xtab 303).1 (xinf 303).1 (xinf 303).2.1 80 40 = true := by decide +kernel
set_option maxRecDepth 100000 in
theorem xk_law_3 : xkJ (xtab 303).1 (xinf 303).1 (xinf 303).2.1 120 40 = true := by decide +kernel
set_option maxRecDepth 100000 in
theorem xk_law_4 : xkJ (xtab 303).1 (xinf 303).1 (xinf 303).2.1 160 40 = true := by decide +kernel
set_option maxRecDepth 100000 in
theorem xk_law_5 : xkJ (xtab 303).1 (xinf 303).1 (xinf 303).2.1 200 40 = true := by decide +kernel
set_option maxRecDepth 100000 in
theorem xk_law_6 : xkJ (xtab 303).1 (xinf 303).1 (xinf 303).2.1 240 40 = true := by decide +kernel
set_option maxRecDepth 100000 in
theorem xk_law_7 : xkJ (xtab 303).1 (xinf 303).1 (xinf 303).2.1 280 40 = true := by decide +kernel
set_option maxRecDepth 100000 in
theorem xk_law_8 : xkJ (xtab 303).1 (xinf 303).1 (xinf 303).2.1 320 40 = true := by decide +kernel
set_option maxRecDepth 100000 in
theorem xk_law_9 : xkJ (xtab 303).1 (xinf 303).1 (xinf 303).2.1 360 40 = true := by decide +kernel
set_option maxRecDepth 100000 in
theorem xk_law_10 : xkJ (xtab 303).1 (xinf 303).1 (xinf 303).2.1 400 40 = true := by decide +kernel
set_option maxRecDepth 100000 in
theorem xk_law_11 : xkJ (xtab 303).1 (xinf 303).1 (xinf 303).2.1 440 40 = true := by decide +kernel
set_option maxRecDepth 100000 in
theorem xk_law_12 : xkJ (xtab 303).1 (xinf 303).1 (xinf 303).2.1 480 40 = true := by decide +kernel
set_option maxRecDepth 100000 in
theorem xk_law_13 : xkJ (xtab 303).1 (xinf 303).1 (xinf 303).2.1 520 40 = true := by decide +kernel
set_option maxRecDepth 100000 in
theorem xk_law_14 : xkJ (xtab 303).1 (xinf 303).1 (xinf 303).2.1 560 40 = true := by decide +kernel
set_option maxRecDepth 100000 in
theorem xk_law_15 : xkJ (xtab 303).1 (xinf 303).1 (xinf 303).2.1 600 40 = true := by decide +kernel
set_option maxRecDepth 100000 in
theorem xk_law_16 : xkJ (xtab 303).1 (xinf 303).1 (xinf 303).2.1 640 40 = true := by decide +kernel
set_option maxRecDepth 100000 in
theorem xk_law_17 : xkJ (xtab 303).1 (xinf 303).1 (xinf 303).2.1 680 40 = true := by decide +kernel
set_option maxRecDepth 100000 in
theorem xk_law_18 : xkJ (xtab 303).1 (xinf 303).1 (xinf 303).2.1 720 40 = true := by decide +kernel
set_option maxRecDepth 100000 in
theorem xk_law_19 : xkJ (xtab 303).1 (xinf 303).1 (xinf 303).2.1 760 40 = true := by decide +kernel
set_option maxRecDepth 100000 in
theorem xk_law_20 : xkJ (xtab 303).1 (xinf 303).1 (xinf 303).2.1 800 40 = true := by decide +kernel
set_option maxRecDepth 100000 in
theorem xk_law_21 : xkJ (xtab 303).1 (xinf 303).1 (xinf 303).2.1 840 40 = true := by decide +kernel
set_option maxRecDepth 100000 in
theorem xk_law_22 : xkJ (xtab 303).1 (xinf 303).1 (xinf 303).2.1 880 40 = true := by decide +kernel
set_option maxRecDepth 100000 in
theorem xk_law_23 : xkJ (xtab 303).1 (xinf 303).1 (xinf 303).2.1 920 40 = true := by decide +kernel
set_option maxRecDepth 100000 in
theorem xk_law_24 : xkJ (xtab 303).1 (xinf 303).1 (xinf 303).2.1 960 40 = true := by decide +kernel
set_option maxRecDepth 100000 in
theorem xk_law_25 : xkJ (xtab 303).1 (xinf 303).1 (xinf 303).2.1 1000 40 = true := by decide +kernel
set_option maxRecDepth 100000 in
theorem xk_law_26 : xkJ (xtab 303).1 (xinf 303).1 (xinf 303).2.1 1040 40 = true := by decide +kernel
set_option maxRecDepth 100000 in
theorem xk_law_27 : xkJ (xtab 303).1 (xinf 303).1 (xinf 303).2.1 1080 40 = true := by decide +kernel
set_option maxRecDepth 100000 in
theorem xk_law_28 : xkJ (xtab 303).1 (xinf 303).1 (xinf 303).2.1 1120 40 = true := by decide +kernel
set_option maxRecDepth 100000 in
theorem xk_law_29 : xkJ (xtab 303).1 (xinf 303).1 (xinf 303).2.1 1160 40 = true := by decide +kernel
set_option maxRecDepth 100000 in
theorem xk_law_30 : xkJ (xtab 303).1 (xinf 303).1 (xinf 303).2.1 1200 40 = true := by decide +kernel
set_option maxRecDepth 100000 in
theorem xk_law_n : (xtab 303).1.length = 1221 ∧ (xtab 303).2.1 ≤ 18 ∧ xkR (xtab 303).2.2.1 (xinf 303).2.2.1 = true ∧ (xtab 303).2.2.2 = [] ∧ (xinf 303).2.2.2.1 = [] := by decide +kernel
theorem xk_law : ∀ j e, (xtab 303).1[j]? = some e → xkE (xtab 303).1 (xinf 303).1 (xinf 303).2.1 ((xtab 303).1.drop (j + 1)) e = true := by
  intro j e h
  have hl : j < 1221 := by rw [← xk_law_n.1]; exact (List.getElem?_eq_some_iff.mp h).1
  rcases Nat.lt_or_ge j 40 with h_0 | h_0
  · exact xkJ_use xk_law_0 (by omega) (by omega) h
  rcases Nat.lt_or_ge j 80 with h_40 | h_40
  · exact xkJ_use xk_law_1 (by omega) (by omega) h
  rcases Nat.lt_or_ge j 120 with h_80 | h_80
  · exact xkJ_use xk_law_2 (by omega) (by omega) h
  rcases Nat.lt_or_ge j 160 with h_120 | h_120
  · exact xkJ_use xk_law_3 (by omega) (by omega) h
  rcases Nat.lt_or_ge j 200 with h_160 | h_160
  · exact xkJ_use xk_law_4 (by omega) (by omega) h
  rcases Nat.lt_or_ge j 240 with h_200 | h_200
  · exact xkJ_use xk_law_5 (by omega) (by omega) h
  rcases Nat.lt_or_ge j 280 with h_240 | h_240
  · exact xkJ_use xk_law_6 (by omega) (by omega) h
  rcases Nat.lt_or_ge j 320 with h_280 | h_280
  · exact xkJ_use xk_law_7 (by omega) (by omega) h
  rcases Nat.lt_or_ge j 360 with h_320 | h_320
  · exact xkJ_use xk_law_8 (by omega) (by omega) h
  rcases Nat.lt_or_ge j 400 with h_360 | h_360
  · exact xkJ_use xk_law_9 (by omega) (by omega) h
  rcases Nat.lt_or_ge j 440 with h_400 | h_400
  · exact xkJ_use xk_law_10 (by omega) (by omega) h
  rcases Nat.lt_or_ge j 480 with h_440 | h_440
  · exact xkJ_use xk_law_11 (by omega) (by omega) h
  rcases Nat.lt_or_ge j 520 with h_480 | h_480
  · exact xkJ_use xk_law_12 (by omega) (by omega) h
  rcases Nat.lt_or_ge j 560 with h_520 | h_520
  · exact xkJ_use xk_law_13 (by omega) (by omega) h
  rcases Nat.lt_or_ge j 600 with h_560 | h_560
  · exact xkJ_use xk_law_14 (by omega) (by omega) h
  rcases Nat.lt_or_ge j 640 with h_600 | h_600
  · exact xkJ_use xk_law_15 (by omega) (by omega) h
  rcases Nat.lt_or_ge j 680 with h_640 | h_640
  · exact xkJ_use xk_law_16 (by omega) (by omega) h
  rcases Nat.lt_or_ge j 720 with h_680 | h_680
  · exact xkJ_use xk_law_17 (by omega) (by omega) h
  rcases Nat.lt_or_ge j 760 with h_720 | h_720
  · exact xkJ_use xk_law_18 (by omega) (by omega) h
  rcases Nat.lt_or_ge j 800 with h_760 | h_760
  · exact xkJ_use xk_law_19 (by omega) (by omega) h
  rcases Nat.lt_or_ge j 840 with h_800 | h_800
  · exact xkJ_use xk_law_20 (by omega) (by omega) h
  rcases Nat.lt_or_ge j 880 with h_840 | h_840
  · exact xkJ_use xk_law_21 (by omega) (by omega) h
  rcases Nat.lt_or_ge j 920 with h_880 | h_880
  · exact xkJ_use xk_law_22 (by omega) (by omega) h
  rcases Nat.lt_or_ge j 960 with h_920 | h_920
  · exact xkJ_use xk_law_23 (by omega) (by omega) h
  rcases Nat.lt_or_ge j 1000 with h_960 | h_960
  · exact xkJ_use xk_law_24 (by omega) (by omega) h
  rcases Nat.lt_or_ge j 1040 with h_1000 | h_1000
  · exact xkJ_use xk_law_25 (by omega) (by omega) h
  rcases Nat.lt_or_ge j 1080 with h_1040 | h_1040
  · exact xkJ_use xk_law_26 (by omega) (by omega) h
  rcases Nat.lt_or_ge j 1120 with h_1080 | h_1080
  · exact xkJ_use xk_law_27 (by omega) (by omega) h
  rcases Nat.lt_or_ge j 1160 with h_1120 | h_1120
  · exact xkJ_use xk_law_28 (by omega) (by omega) h
  rcases Nat.lt_or_ge j 1200 with h_1160 | h_1160
  · exact xkJ_use xk_law_29 (by omega) (by omega) h
  rcases Nat.lt_or_ge j 1240 with h_1200 | h_1200
  · exact xkJ_use xk_law_30 (by omega) (by omega) h
  omega
set_option maxRecDepth 100000 in
theorem xk_cl : ∀ ci, ci < 10 → xkCl ci = true := by decide +kernel
theorem xk_thr : ∀ E, E < 3 → xkTh E = true := by decide +kernel
