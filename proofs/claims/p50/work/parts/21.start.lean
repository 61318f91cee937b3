/-! The entry: what the claim's premises say of the heap. -/
section SA1
variable {args : Array Value} {s : State}
theorem y_eqr {t u : Jvm.Term} {b : Nat} (h : (Jvm.Cond.eq t u).before args s = true) (hu : u.eval args s none [] s = some (.ref b)) : t.eval args s none [] s = some (.ref b) := by
  cases hv : t.eval args s none [] s with
  | none => simp [Jvm.Cond.before, Jvm.Cond.holds, Jvm.Cond.value, hv] at h
  | some w =>
    simp only [Jvm.Cond.before, Jvm.Cond.holds, Jvm.Cond.value, hv, hu] at h
    cases w <;> simp_all
theorem y_fld {t : Jvm.Term} {a : Nat} {cell : Cell} {o n d : String} {v : Value} (ht : t.eval args s none [] s = some (.ref a)) (hc : s.heap[a]? = some cell) (hv : (Jvm.Term.field t o n d).eval args s none [] s = some v) : cell.vm ≠ .unknown ∧ ∃ (cf : ClassId) (kf : Class) (fi : Nat) (fd : Field), s.fieldFound? o n d = some (cf, kf, fi, fd) ∧ fd.isStatic = false ∧ cell.slots[fd.slot]? = some v := by
  obtain ⟨cf, k, i, f, cell', h1, h2, h3, h4, h5, -⟩ := vk_OFof (A := fun _ => False) ht hv (fun _ _ h => h)
  cases h3.symm.trans hc
  exact ⟨h4, cf, k, i, f, h1, h2, h5⟩
end SA1
theorem y_tst : ∀ q ∈ xstL, Jvm.Cond.laysStatic q.1 q.2.1 q.2.2.1 ∈ tables_1 ∧ Jvm.Cond.initialized q.1 ∈ tables_1 := by decide +kernel
def y_txs : List (Nat × String) := [(84, "the tune is full"), (124, "there would be too many notes"), (177, "no state is saved"), (234, "there is no such pair"), (325, "there is no such tune"), (333, "there is no such note"), (335, "a number is out of range"), (337, "there is no match"), (342, "a tune is empty"), (344, "the latest work did not stop")]
theorem y_ttx : ∀ q ∈ y_txs, Jvm.Cond.stringRef "SlowTunes" q.1 q.2 ∈ tables_1 := by decide +kernel
theorem y_tx0 : ∀ i ∈ xstrL, ∃ q ∈ y_txs, q.1 = i := by decide +kernel
theorem y_thr1 : Jvm.Cond.laysStatic Bundle.tN "UNASSIGNED_STACK" Bundle.steD ∈ tables_1 ∧ Jvm.Cond.laysStatic Bundle.tN "SUPPRESSED_SENTINEL" Bundle.listD ∈ tables_1 ∧ Jvm.Cond.initialized Bundle.tN ∈ tables_1 := by decide +kernel
theorem y_cst1 : ∀ a, a < 3 → Jvm.Cond.castable (xexn a) (xexn a) ∈ tables_1 := by decide +kernel
def y_N : List Jvm.Cond := flatC (Jvm.Cond.and given_1 narrow_1)
theorem y_Nx : ∀ i ∈ xstrL, Jvm.Cond.exactly (.string "SlowTunes" i) "java/lang/String" ∈ y_N := by decide +kernel
theorem y_oth : Jvm.Cond.arrayOf (.static "java/util/ArrayList" "DEFAULTCAPACITY_EMPTY_ELEMENTDATA" "[Ljava/lang/Object;") (.object "java/lang/Object") ∈ y_N ∧ Jvm.Cond.eq (.length (.static "java/util/ArrayList" "DEFAULTCAPACITY_EMPTY_ELEMENTDATA" "[Ljava/lang/Object;")) (.int (Int32.ofNat 0)) ∈ y_N ∧ Jvm.Cond.exactly (.static "SlowTunes$Word" "SING" "LSlowTunes$Word;") "SlowTunes$Word" ∈ y_N ∧ Jvm.Cond.isRef (.static Bundle.tN "UNASSIGNED_STACK" Bundle.steD) ∈ y_N ∧ Jvm.Cond.isRef (.static Bundle.tN "SUPPRESSED_SENTINEL" Bundle.listD) ∈ y_N := by decide +kernel
theorem y_isr {args : Array Value} {s : State} {t : Jvm.Term} (h : (Jvm.Cond.isRef t).before args s = true) : ∃ q : Option Nat, t.eval args s none [] s = some (va_rf q) := by
  cases hv : t.eval args s none [] s with
  | none => simp [Jvm.Cond.before, Jvm.Cond.holds, Jvm.Cond.value, hv] at h
  | some w =>
    simp only [Jvm.Cond.before, Jvm.Cond.holds, Jvm.Cond.value, hv] at h
    cases w with
    | null => exact ⟨none, rfl⟩
    | ref t => exact ⟨some t, rfl⟩
    | _ => simp at h
set_option maxHeartbeats 4000000 in
theorem y_start {s : State} {b L : Nat} {xs : Nat → Int32} (hL : L ≤ 260) (hts : ∀ w ∈ lw_tbl, w.before #[Value.ref b] s = true) (hX : va_X b L xs s s.heap) (hgv : (Jvm.Cond.and given_1 narrow_1).before #[Value.ref b] s = true) : ∃ adc : Nat → Option Nat, xGl s b adc L xs ∧ xGx s ∧ adc 25 = some b := by
  have hs : ∀ w ∈ y_N, w.before #[Value.ref b] s = true := flat_of_before _ hgv
  have ht : ∀ w ∈ tables_1, w.before #[Value.ref b] s = true := fun w hw => hts w (List.mem_append_right _ hw)
  have hA : ∀ a : Nat, a < s.heap.size → ¬ s.heap.size ≤ a := fun a h1 h2 => absurd h1 (by omega)
  obtain ⟨o1, o2, o3, o4, o5⟩ := y_oth
  obtain ⟨da, eda, cda, gd1, gd2, gd3, gd4, gd5, -, -⟩ := va_Tof (A := fun _ => False) (f := fun _ => .null) (by decide : 0 < 2 ^ 31) (hs _ o1) (va_eqt (hs _ o2)) (fun j hj => absurd hj (Nat.not_lt_zero j)) (fun _ _ h => h)
  obtain ⟨sg, -, -, -, esg, -⟩ := Jvm.Cond.exactly_spec (show (Jvm.Cond.exactly (.static "SlowTunes$Word" "SING" "LSlowTunes$Word;") "SlowTunes$Word").holds #[Value.ref b] s none s [] = true from hs _ o3)
  obtain ⟨scr, x1, x2, x3, x4, x5⟩ := hX
  refine ⟨fun k => if k < 8 then some (sg + k) else if k = 25 then some b else if k = 26 then some da else none, ⟨hts, fun k c hk hc => ?_, fun x y hx hy hxy => ?_, fun q hq => ?_⟩, ⟨?_, ?_, ?_, ?_⟩, rfl⟩
  · by_cases k25 : k = 25
    · subst k25
      cases hc
      exact ⟨b, scr, rfl, (Array.getElem?_eq_some_iff.mp x1).1, x1, x2, x3, by rw [x4]; exact Nat.le_refl _, by rw [x4], x5⟩
    · by_cases k26 : k = 26
      · subst k26
        cases hc
        exact ⟨da, cda, rfl, (Array.getElem?_eq_some_iff.mp gd1).1, gd1, gd2, gd3, Nat.zero_le _, gd5, fun j hj => absurd hj (Nat.not_lt_zero j)⟩
      · exfalso
        unfold xcst at hc
        split at hc
        · exact k25 rfl
        · exact k26 rfl
        · cases hc
  · dsimp only at hxy
    rw [if_pos hx, if_pos hy, Option.some.injEq] at hxy
    omega
  · obtain ⟨t1, t2⟩ := y_tst q hq
    refine va_Zof (ht _ t1) (ht _ t2) ?_ hA
    simp only [xstL, List.mem_cons, List.not_mem_nil, or_false] at hq
    rcases hq with rfl | rfl
    · exact esg
    · exact eda
  · intro i hi
    obtain ⟨q, hq, rfl⟩ := y_tx0 i hi
    obtain ⟨sa, -, -, -, e1, -⟩ := Jvm.Cond.exactly_spec (show (Jvm.Cond.exactly (.string "SlowTunes" q.1) "java/lang/String").holds #[Value.ref b] s none s [] = true from hs _ (y_Nx _ hi))
    exact ⟨q.2, sa, vk_R.of (ht _ (y_ttx q hq)) e1⟩
  · exact vx_Zqof (ht _ y_thr1.1) (ht _ y_thr1.2.2) (hs _ o4) hA
  · exact vx_Zqof (ht _ y_thr1.2.1) (ht _ y_thr1.2.2) (hs _ o5) hA
  · exact fun x hx => va_Nw.of rfl (ht _ (y_cst1 x hx))
