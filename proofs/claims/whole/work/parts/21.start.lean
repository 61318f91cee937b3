/-! The entry: what the claim's premises say of the heap. -/
section SA1
variable {args : Array Value} {s : State}
theorem y_eqr {t u : Jvm.Term} {b : Nat} (h : (Jvm.Cond.eq t u).before args s = true) (hu : u.eval args s none [] s = some (.ref b)) : t.eval args s none [] s = some (.ref b) := by
  cases hv : t.eval args s none [] s with
  | none => simp [Jvm.Cond.before, Jvm.Cond.holds, Jvm.Cond.value, hv] at h
  | some w =>
    simp only [Jvm.Cond.before, Jvm.Cond.holds, Jvm.Cond.value, hv, hu] at h
    cases w <;> simp_all
theorem y_fld {t : Jvm.Term} {a : Nat} {cell : Cell} {o n d : String} {v : Value} (ht : t.eval args s none [] s = some (.ref a)) (hc : s.heap[a]? = some cell) (hv : (Jvm.Term.field t o n d).eval args s none [] s = some v) : cell.vm ≠ .unknown ∧ ∃ (cf : ClassId) (kf : Class) (fi : Nat) (fd : Field), s.fieldFound? o n d = some (cf, kf, fi, fd) ∧ fd.isStatic = false ∧ cell.slots[fd.slot]? = some v := by
  obtain ⟨cf, k, i, f, cell', h1, h2, h3, h4, h5, -⟩ := vk_OFof (A := fun _ => False) ht hv (fun _ _ h => h)
  cases h3.symm.trans hc
  exact ⟨h4, cf, k, i, f, h1, h2, h5⟩
/-- an object of a class, field by field -/
theorem y_obj {adc : Nat → Option Nat} {ci : Nat} {v0 : Value} {fs : List Value} {t : Jvm.Term} {a : Nat} {cell : Cell} (ht : t.eval args s none [] s = some (.ref a)) (hcls : s.vm.findClass (xcl ci).1 = some cell.cls) (hst : cell.vm.isStatics = false) (hcell : s.heap[a]? = some cell) (hf : ∀ (k : Nat) (v : Value), (v0 :: fs)[k]? = some v → k < (xcl ci).2.2 ∧ (Jvm.Term.field t ((xcl ci).2.1 k).1 ((xcl ci).2.1 k).2.1 ((xcl ci).2.1 k).2.2.1).eval args s none [] s = some (xv s adc v)) : xObjAt s adc ci (v0 :: fs) cell := by
  refine ⟨hcls, ?_, hst, fun k v hk => ?_⟩
  · obtain ⟨-, h2⟩ := hf 0 v0 rfl
    exact (y_fld ht hcell h2).1
  · obtain ⟨h1, h2⟩ := hf k v hk
    exact ⟨h1, (y_fld ht hcell h2).2⟩
/-- a text of the class of words -/
theorem y_str {si n : Nat} {l : List Int32} (hn : n < 2 ^ 31) (h1 : (Jvm.Cond.exactly (.string "SlowTunes$Word" si) "java/lang/String").before args s = true) (h2 : (Jvm.Cond.eq (.field (.string "SlowTunes$Word" si) "java/lang/String" "coder" "B") (.int 0)).before args s = true) (h3 : (Jvm.Cond.arrayOf (.field (.string "SlowTunes$Word" si) "java/lang/String" "value" "[B") .byte).before args s = true) (h4 : (Jvm.Cond.eq (.length (.field (.string "SlowTunes$Word" si) "java/lang/String" "value" "[B")) (.int (Int32.ofNat n))).before args s = true)
    (h5 : ∀ j, j < n → (Jvm.Cond.eq (.elem (.field (.string "SlowTunes$Word" si) "java/lang/String" "value" "[B") (.int (Int32.ofNat j))) (.int (l.getD j 0))).before args s = true) :
    ∃ sa va : Nat, (Jvm.Term.string "SlowTunes$Word" si).eval args s none [] s = some (.ref sa) ∧ (∃ cell, s.heap[sa]? = some cell ∧ ∀ (adc : Nat → Option Nat) (k : Nat), k < xNC → adc k = some va → xObjAt s adc 11 [.ref k, .int 0] cell) ∧ ∃ cell, s.heap[va]? = some cell ∧ ∀ adc : Nat → Option Nat, xArrAt s adc .byte n (fun j => .int (l.getD j 0)) cell := by
  obtain ⟨sa, cc, cell, k, e1, e2, e3, e4, e5, e6, -⟩ := Jvm.Cond.exactly_spec (show (Jvm.Cond.exactly (.string "SlowTunes$Word" si) "java/lang/String").holds args s none s [] = true from h1)
  obtain ⟨va, f1, cell2, g1, g2, g3, g4, g5, g6, -⟩ := va_Tof (A := fun _ => False) (f := fun j => .int (l.getD j 0)) hn h3 (va_eqt h4) (fun j hj => va_eqt (h5 j hj)) (fun _ _ h => h)
  refine ⟨sa, va, e1, ⟨cell, e3, fun adc q hq ha => y_obj e1 (by rw [e6]; exact e2) e5 e3 ?_⟩, cell2, g1, fun adc => ⟨g2, g3, g4, g5, g6⟩⟩
  intro q2 v hv
  match q2, hv with
  | 0, hv =>
    cases hv
    refine ⟨by decide, ?_⟩
    show (Jvm.Term.field _ "java/lang/String" "value" "[B").eval args s none [] s = some (va_rf (xad s adc q))
    rw [xad, if_pos hq, ha]
    exact f1
  | 1, hv =>
    cases hv
    exact ⟨by decide, va_eqt h2⟩
  | q2 + 2, hv => simp at hv
/-- a word -/
theorem y_wrd {nm : String} {si sa : Nat} {v1 v2 v3 v4 : Int32} (h1 : (Jvm.Cond.exactly (.static "SlowTunes$Word" nm "LSlowTunes$Word;") "SlowTunes$Word").before args s = true) (hs : (Jvm.Term.string "SlowTunes$Word" si).eval args s none [] s = some (.ref sa)) (h2 : (Jvm.Cond.eq (.field (.static "SlowTunes$Word" nm "LSlowTunes$Word;") "SlowTunes$Word" "letters" "Ljava/lang/String;") (.string "SlowTunes$Word" si)).before args s = true) (h3 : (Jvm.Cond.eq (.field (.static "SlowTunes$Word" nm "LSlowTunes$Word;") "SlowTunes$Word" "hasTune" "Z") (.int v1)).before args s = true)
    (h4 : (Jvm.Cond.eq (.field (.static "SlowTunes$Word" nm "LSlowTunes$Word;") "SlowTunes$Word" "hasNumber" "Z") (.int v2)).before args s = true) (h5 : (Jvm.Cond.eq (.field (.static "SlowTunes$Word" nm "LSlowTunes$Word;") "SlowTunes$Word" "leastNumber" "I") (.int v3)).before args s = true) (h6 : (Jvm.Cond.eq (.field (.static "SlowTunes$Word" nm "LSlowTunes$Word;") "SlowTunes$Word" "mostNumber" "I") (.int v4)).before args s = true) :
    ∃ a : Nat, (Jvm.Term.static "SlowTunes$Word" nm "LSlowTunes$Word;").eval args s none [] s = some (.ref a) ∧ ∃ cell, s.heap[a]? = some cell ∧ ∀ (adc : Nat → Option Nat) (k : Nat), k < xNC → adc k = some sa → xObjAt s adc 10 [.ref k, .int v1, .int v2, .int v3, .int v4] cell := by
  obtain ⟨a, cc, cell, k, e1, e2, e3, e4, e5, e6, -⟩ := Jvm.Cond.exactly_spec (show (Jvm.Cond.exactly (.static "SlowTunes$Word" nm "LSlowTunes$Word;") "SlowTunes$Word").holds args s none s [] = true from h1)
  refine ⟨a, e1, cell, e3, fun adc q hq ha => y_obj e1 (by rw [e6]; exact e2) e5 e3 ?_⟩
  intro q2 v hv
  match q2, hv with
  | 0, hv =>
    cases hv
    refine ⟨by decide, ?_⟩
    show (Jvm.Term.field _ "SlowTunes$Word" "letters" "Ljava/lang/String;").eval args s none [] s = some (va_rf (xad s adc q))
    rw [xad, if_pos hq, ha]
    exact y_eqr h2 hs
  | 1, hv => cases hv; exact ⟨by decide, va_eqt h3⟩
  | 2, hv => cases hv; exact ⟨by decide, va_eqt h4⟩
  | 3, hv => cases hv; exact ⟨by decide, va_eqt h5⟩
  | 4, hv => cases hv; exact ⟨by decide, va_eqt h6⟩
  | q2 + 5, hv => simp at hv
end SA1
theorem y_tst : ∀ q ∈ xstL, Jvm.Cond.laysStatic q.1 q.2.1 q.2.2.1 ∈ tables_1 ∧ Jvm.Cond.initialized q.1 ∈ tables_1 := by decide +kernel
def y_txs : List (Nat × String) := [(84, "the tune is full"), (115, "a pitch would be out of range"), (124, "there would be too many notes"), (148, "the buffer is full"), (159, "the buffer is not complete works as a text"), (177, "no state is saved"), (193, "there is no snapshot"), (234, "there is no such pair"), (325, "there is no such tune"), (333, "there is no such note"), (335, "a number is out of range"), (337, "there is no match"), (342, "a tune is empty"), (344, "the latest work did not stop")]
theorem y_ttx : ∀ q ∈ y_txs, Jvm.Cond.stringRef "SlowTunes" q.1 q.2 ∈ tables_1 := by decide +kernel
theorem y_tx0 : ∀ i ∈ xstrL, ∃ q ∈ y_txs, q.1 = i := by decide +kernel
theorem y_thr1 : Jvm.Cond.laysStatic Bundle.tN "UNASSIGNED_STACK" Bundle.steD ∈ tables_1 ∧ Jvm.Cond.laysStatic Bundle.tN "SUPPRESSED_SENTINEL" Bundle.listD ∈ tables_1 ∧ Jvm.Cond.initialized Bundle.tN ∈ tables_1 := by decide +kernel
theorem y_cst1 : ∀ a, a < 3 → Jvm.Cond.castable (xexn a) (xexn a) ∈ tables_1 ∧ Jvm.Cond.classLink "SlowTunesLaw" (13 + 2 * a) (xexn a) ∈ tables_1 := by decide +kernel
def y_N : List Jvm.Cond := flatC (Jvm.Cond.and given_1 narrow_1)
theorem y_Nx : ∀ i ∈ xstrL, Jvm.Cond.exactly (.string "SlowTunes" i) "java/lang/String" ∈ y_N := by decide +kernel
theorem y_Nc : ∀ a, a < 3 → ∀ b, b < 3 → a ≠ b → Jvm.Cond.not (.castable (xexn a) (xexn b)) ∈ y_N := by decide +kernel
theorem y_s0 : (Jvm.Cond.exactly (.string "SlowTunes$Word" 78) "java/lang/String" ∈ y_N ∧ Jvm.Cond.eq (.field (.string "SlowTunes$Word" 78) "java/lang/String" "coder" "B") (.int 0) ∈ y_N ∧ Jvm.Cond.arrayOf (.field (.string "SlowTunes$Word" 78) "java/lang/String" "value" "[B") .byte ∈ y_N ∧ Jvm.Cond.eq (.length (.field (.string "SlowTunes$Word" 78) "java/lang/String" "value" "[B")) (.int (Int32.ofNat 4)) ∈ y_N) ∧ ∀ j, j < 4 → Jvm.Cond.eq (.elem (.field (.string "SlowTunes$Word" 78) "java/lang/String" "value" "[B") (.int (Int32.ofNat j))) (.int (([115, 105, 110, 103] : List Int32).getD j 0)) ∈ y_N := by decide +kernel
theorem y_w0 : Jvm.Cond.exactly (.static "SlowTunes$Word" "SING" "LSlowTunes$Word;") "SlowTunes$Word" ∈ y_N ∧ Jvm.Cond.eq (.field (.static "SlowTunes$Word" "SING" "LSlowTunes$Word;") "SlowTunes$Word" "letters" "Ljava/lang/String;") (.string "SlowTunes$Word" 78) ∈ y_N ∧ Jvm.Cond.eq (.field (.static "SlowTunes$Word" "SING" "LSlowTunes$Word;") "SlowTunes$Word" "hasTune" "Z") (.int 1) ∈ y_N ∧ Jvm.Cond.eq (.field (.static "SlowTunes$Word" "SING" "LSlowTunes$Word;") "SlowTunes$Word" "hasNumber" "Z") (.int 1) ∈ y_N ∧ Jvm.Cond.eq (.field (.static "SlowTunes$Word" "SING" "LSlowTunes$Word;") "SlowTunes$Word" "leastNumber" "I") (.int 0) ∈ y_N ∧ Jvm.Cond.eq (.field (.static "SlowTunes$Word" "SING" "LSlowTunes$Word;") "SlowTunes$Word" "mostNumber" "I") (.int 60) ∈ y_N := by decide +kernel
theorem y_s1 : (Jvm.Cond.exactly (.string "SlowTunes$Word" 84) "java/lang/String" ∈ y_N ∧ Jvm.Cond.eq (.field (.string "SlowTunes$Word" 84) "java/lang/String" "coder" "B") (.int 0) ∈ y_N ∧ Jvm.Cond.arrayOf (.field (.string "SlowTunes$Word" 84) "java/lang/String" "value" "[B") .byte ∈ y_N ∧ Jvm.Cond.eq (.length (.field (.string "SlowTunes$Word" 84) "java/lang/String" "value" "[B")) (.int (Int32.ofNat 5)) ∈ y_N) ∧ ∀ j, j < 5 → Jvm.Cond.eq (.elem (.field (.string "SlowTunes$Word" 84) "java/lang/String" "value" "[B") (.int (Int32.ofNat j))) (.int (([114, 97, 105, 115, 101] : List Int32).getD j 0)) ∈ y_N := by decide +kernel
theorem y_w1 : Jvm.Cond.exactly (.static "SlowTunes$Word" "RAISE" "LSlowTunes$Word;") "SlowTunes$Word" ∈ y_N ∧ Jvm.Cond.eq (.field (.static "SlowTunes$Word" "RAISE" "LSlowTunes$Word;") "SlowTunes$Word" "letters" "Ljava/lang/String;") (.string "SlowTunes$Word" 84) ∈ y_N ∧ Jvm.Cond.eq (.field (.static "SlowTunes$Word" "RAISE" "LSlowTunes$Word;") "SlowTunes$Word" "hasTune" "Z") (.int 1) ∈ y_N ∧ Jvm.Cond.eq (.field (.static "SlowTunes$Word" "RAISE" "LSlowTunes$Word;") "SlowTunes$Word" "hasNumber" "Z") (.int 1) ∈ y_N ∧ Jvm.Cond.eq (.field (.static "SlowTunes$Word" "RAISE" "LSlowTunes$Word;") "SlowTunes$Word" "leastNumber" "I") (.int 1) ∈ y_N ∧ Jvm.Cond.eq (.field (.static "SlowTunes$Word" "RAISE" "LSlowTunes$Word;") "SlowTunes$Word" "mostNumber" "I") (.int 12) ∈ y_N := by decide +kernel
theorem y_s2 : (Jvm.Cond.exactly (.string "SlowTunes$Word" 87) "java/lang/String" ∈ y_N ∧ Jvm.Cond.eq (.field (.string "SlowTunes$Word" 87) "java/lang/String" "coder" "B") (.int 0) ∈ y_N ∧ Jvm.Cond.arrayOf (.field (.string "SlowTunes$Word" 87) "java/lang/String" "value" "[B") .byte ∈ y_N ∧ Jvm.Cond.eq (.length (.field (.string "SlowTunes$Word" 87) "java/lang/String" "value" "[B")) (.int (Int32.ofNat 5)) ∈ y_N) ∧ ∀ j, j < 5 → Jvm.Cond.eq (.elem (.field (.string "SlowTunes$Word" 87) "java/lang/String" "value" "[B") (.int (Int32.ofNat j))) (.int (([108, 111, 119, 101, 114] : List Int32).getD j 0)) ∈ y_N := by decide +kernel
theorem y_w2 : Jvm.Cond.exactly (.static "SlowTunes$Word" "LOWER" "LSlowTunes$Word;") "SlowTunes$Word" ∈ y_N ∧ Jvm.Cond.eq (.field (.static "SlowTunes$Word" "LOWER" "LSlowTunes$Word;") "SlowTunes$Word" "letters" "Ljava/lang/String;") (.string "SlowTunes$Word" 87) ∈ y_N ∧ Jvm.Cond.eq (.field (.static "SlowTunes$Word" "LOWER" "LSlowTunes$Word;") "SlowTunes$Word" "hasTune" "Z") (.int 1) ∈ y_N ∧ Jvm.Cond.eq (.field (.static "SlowTunes$Word" "LOWER" "LSlowTunes$Word;") "SlowTunes$Word" "hasNumber" "Z") (.int 1) ∈ y_N ∧ Jvm.Cond.eq (.field (.static "SlowTunes$Word" "LOWER" "LSlowTunes$Word;") "SlowTunes$Word" "leastNumber" "I") (.int 1) ∈ y_N ∧ Jvm.Cond.eq (.field (.static "SlowTunes$Word" "LOWER" "LSlowTunes$Word;") "SlowTunes$Word" "mostNumber" "I") (.int 12) ∈ y_N := by decide +kernel
theorem y_s3 : (Jvm.Cond.exactly (.string "SlowTunes$Word" 90) "java/lang/String" ∈ y_N ∧ Jvm.Cond.eq (.field (.string "SlowTunes$Word" 90) "java/lang/String" "coder" "B") (.int 0) ∈ y_N ∧ Jvm.Cond.arrayOf (.field (.string "SlowTunes$Word" 90) "java/lang/String" "value" "[B") .byte ∈ y_N ∧ Jvm.Cond.eq (.length (.field (.string "SlowTunes$Word" 90) "java/lang/String" "value" "[B")) (.int (Int32.ofNat 4)) ∈ y_N) ∧ ∀ j, j < 4 → Jvm.Cond.eq (.elem (.field (.string "SlowTunes$Word" 90) "java/lang/String" "value" "[B") (.int (Int32.ofNat j))) (.int (([115, 108, 111, 119] : List Int32).getD j 0)) ∈ y_N := by decide +kernel
theorem y_w3 : Jvm.Cond.exactly (.static "SlowTunes$Word" "SLOW" "LSlowTunes$Word;") "SlowTunes$Word" ∈ y_N ∧ Jvm.Cond.eq (.field (.static "SlowTunes$Word" "SLOW" "LSlowTunes$Word;") "SlowTunes$Word" "letters" "Ljava/lang/String;") (.string "SlowTunes$Word" 90) ∈ y_N ∧ Jvm.Cond.eq (.field (.static "SlowTunes$Word" "SLOW" "LSlowTunes$Word;") "SlowTunes$Word" "hasTune" "Z") (.int 1) ∈ y_N ∧ Jvm.Cond.eq (.field (.static "SlowTunes$Word" "SLOW" "LSlowTunes$Word;") "SlowTunes$Word" "hasNumber" "Z") (.int 0) ∈ y_N ∧ Jvm.Cond.eq (.field (.static "SlowTunes$Word" "SLOW" "LSlowTunes$Word;") "SlowTunes$Word" "leastNumber" "I") (.int 0) ∈ y_N ∧ Jvm.Cond.eq (.field (.static "SlowTunes$Word" "SLOW" "LSlowTunes$Word;") "SlowTunes$Word" "mostNumber" "I") (.int 0) ∈ y_N := by decide +kernel
theorem y_s4 : (Jvm.Cond.exactly (.string "SlowTunes$Word" 93) "java/lang/String" ∈ y_N ∧ Jvm.Cond.eq (.field (.string "SlowTunes$Word" 93) "java/lang/String" "coder" "B") (.int 0) ∈ y_N ∧ Jvm.Cond.arrayOf (.field (.string "SlowTunes$Word" 93) "java/lang/String" "value" "[B") .byte ∈ y_N ∧ Jvm.Cond.eq (.length (.field (.string "SlowTunes$Word" 93) "java/lang/String" "value" "[B")) (.int (Int32.ofNat 4)) ∈ y_N) ∧ ∀ j, j < 4 → Jvm.Cond.eq (.elem (.field (.string "SlowTunes$Word" 93) "java/lang/String" "value" "[B") (.int (Int32.ofNat j))) (.int (([102, 108, 105, 112] : List Int32).getD j 0)) ∈ y_N := by decide +kernel
theorem y_w4 : Jvm.Cond.exactly (.static "SlowTunes$Word" "FLIP" "LSlowTunes$Word;") "SlowTunes$Word" ∈ y_N ∧ Jvm.Cond.eq (.field (.static "SlowTunes$Word" "FLIP" "LSlowTunes$Word;") "SlowTunes$Word" "letters" "Ljava/lang/String;") (.string "SlowTunes$Word" 93) ∈ y_N ∧ Jvm.Cond.eq (.field (.static "SlowTunes$Word" "FLIP" "LSlowTunes$Word;") "SlowTunes$Word" "hasTune" "Z") (.int 1) ∈ y_N ∧ Jvm.Cond.eq (.field (.static "SlowTunes$Word" "FLIP" "LSlowTunes$Word;") "SlowTunes$Word" "hasNumber" "Z") (.int 0) ∈ y_N ∧ Jvm.Cond.eq (.field (.static "SlowTunes$Word" "FLIP" "LSlowTunes$Word;") "SlowTunes$Word" "leastNumber" "I") (.int 0) ∈ y_N ∧ Jvm.Cond.eq (.field (.static "SlowTunes$Word" "FLIP" "LSlowTunes$Word;") "SlowTunes$Word" "mostNumber" "I") (.int 0) ∈ y_N := by decide +kernel
theorem y_s5 : (Jvm.Cond.exactly (.string "SlowTunes$Word" 96) "java/lang/String" ∈ y_N ∧ Jvm.Cond.eq (.field (.string "SlowTunes$Word" 96) "java/lang/String" "coder" "B") (.int 0) ∈ y_N ∧ Jvm.Cond.arrayOf (.field (.string "SlowTunes$Word" 96) "java/lang/String" "value" "[B") .byte ∈ y_N ∧ Jvm.Cond.eq (.length (.field (.string "SlowTunes$Word" 96) "java/lang/String" "value" "[B")) (.int (Int32.ofNat 5)) ∈ y_N) ∧ ∀ j, j < 5 → Jvm.Cond.eq (.elem (.field (.string "SlowTunes$Word" 96) "java/lang/String" "value" "[B") (.int (Int32.ofNat j))) (.int (([98, 111, 117, 110, 100] : List Int32).getD j 0)) ∈ y_N := by decide +kernel
theorem y_w5 : Jvm.Cond.exactly (.static "SlowTunes$Word" "BOUND" "LSlowTunes$Word;") "SlowTunes$Word" ∈ y_N ∧ Jvm.Cond.eq (.field (.static "SlowTunes$Word" "BOUND" "LSlowTunes$Word;") "SlowTunes$Word" "letters" "Ljava/lang/String;") (.string "SlowTunes$Word" 96) ∈ y_N ∧ Jvm.Cond.eq (.field (.static "SlowTunes$Word" "BOUND" "LSlowTunes$Word;") "SlowTunes$Word" "hasTune" "Z") (.int 0) ∈ y_N ∧ Jvm.Cond.eq (.field (.static "SlowTunes$Word" "BOUND" "LSlowTunes$Word;") "SlowTunes$Word" "hasNumber" "Z") (.int 1) ∈ y_N ∧ Jvm.Cond.eq (.field (.static "SlowTunes$Word" "BOUND" "LSlowTunes$Word;") "SlowTunes$Word" "leastNumber" "I") (.int 0) ∈ y_N ∧ Jvm.Cond.eq (.field (.static "SlowTunes$Word" "BOUND" "LSlowTunes$Word;") "SlowTunes$Word" "mostNumber" "I") (.int 20) ∈ y_N := by decide +kernel
theorem y_s6 : (Jvm.Cond.exactly (.string "SlowTunes$Word" 99) "java/lang/String" ∈ y_N ∧ Jvm.Cond.eq (.field (.string "SlowTunes$Word" 99) "java/lang/String" "coder" "B") (.int 0) ∈ y_N ∧ Jvm.Cond.arrayOf (.field (.string "SlowTunes$Word" 99) "java/lang/String" "value" "[B") .byte ∈ y_N ∧ Jvm.Cond.eq (.length (.field (.string "SlowTunes$Word" 99) "java/lang/String" "value" "[B")) (.int (Int32.ofNat 4)) ∈ y_N) ∧ ∀ j, j < 4 → Jvm.Cond.eq (.elem (.field (.string "SlowTunes$Word" 99) "java/lang/String" "value" "[B") (.int (Int32.ofNat j))) (.int (([104, 111, 108, 100] : List Int32).getD j 0)) ∈ y_N := by decide +kernel
theorem y_w6 : Jvm.Cond.exactly (.static "SlowTunes$Word" "HOLD" "LSlowTunes$Word;") "SlowTunes$Word" ∈ y_N ∧ Jvm.Cond.eq (.field (.static "SlowTunes$Word" "HOLD" "LSlowTunes$Word;") "SlowTunes$Word" "letters" "Ljava/lang/String;") (.string "SlowTunes$Word" 99) ∈ y_N ∧ Jvm.Cond.eq (.field (.static "SlowTunes$Word" "HOLD" "LSlowTunes$Word;") "SlowTunes$Word" "hasTune" "Z") (.int 0) ∈ y_N ∧ Jvm.Cond.eq (.field (.static "SlowTunes$Word" "HOLD" "LSlowTunes$Word;") "SlowTunes$Word" "hasNumber" "Z") (.int 1) ∈ y_N ∧ Jvm.Cond.eq (.field (.static "SlowTunes$Word" "HOLD" "LSlowTunes$Word;") "SlowTunes$Word" "leastNumber" "I") (.int 0) ∈ y_N ∧ Jvm.Cond.eq (.field (.static "SlowTunes$Word" "HOLD" "LSlowTunes$Word;") "SlowTunes$Word" "mostNumber" "I") (.int 50) ∈ y_N := by decide +kernel
theorem y_s7 : (Jvm.Cond.exactly (.string "SlowTunes$Word" 102) "java/lang/String" ∈ y_N ∧ Jvm.Cond.eq (.field (.string "SlowTunes$Word" 102) "java/lang/String" "coder" "B") (.int 0) ∈ y_N ∧ Jvm.Cond.arrayOf (.field (.string "SlowTunes$Word" 102) "java/lang/String" "value" "[B") .byte ∈ y_N ∧ Jvm.Cond.eq (.length (.field (.string "SlowTunes$Word" 102) "java/lang/String" "value" "[B")) (.int (Int32.ofNat 5)) ∈ y_N) ∧ ∀ j, j < 5 → Jvm.Cond.eq (.elem (.field (.string "SlowTunes$Word" 102) "java/lang/String" "value" "[B") (.int (Int32.ofNat j))) (.int (([106, 117, 100, 103, 101] : List Int32).getD j 0)) ∈ y_N := by decide +kernel
theorem y_w7 : Jvm.Cond.exactly (.static "SlowTunes$Word" "JUDGE" "LSlowTunes$Word;") "SlowTunes$Word" ∈ y_N ∧ Jvm.Cond.eq (.field (.static "SlowTunes$Word" "JUDGE" "LSlowTunes$Word;") "SlowTunes$Word" "letters" "Ljava/lang/String;") (.string "SlowTunes$Word" 102) ∈ y_N ∧ Jvm.Cond.eq (.field (.static "SlowTunes$Word" "JUDGE" "LSlowTunes$Word;") "SlowTunes$Word" "hasTune" "Z") (.int 0) ∈ y_N ∧ Jvm.Cond.eq (.field (.static "SlowTunes$Word" "JUDGE" "LSlowTunes$Word;") "SlowTunes$Word" "hasNumber" "Z") (.int 1) ∈ y_N ∧ Jvm.Cond.eq (.field (.static "SlowTunes$Word" "JUDGE" "LSlowTunes$Word;") "SlowTunes$Word" "leastNumber" "I") (.int 0) ∈ y_N ∧ Jvm.Cond.eq (.field (.static "SlowTunes$Word" "JUDGE" "LSlowTunes$Word;") "SlowTunes$Word" "mostNumber" "I") (.int 3) ∈ y_N := by decide +kernel
theorem y_neW : ∀ q ∈ ([("SING", "RAISE"), ("SING", "LOWER"), ("SING", "SLOW"), ("SING", "FLIP"), ("SING", "BOUND"), ("SING", "HOLD"), ("SING", "JUDGE"), ("RAISE", "LOWER"), ("RAISE", "SLOW"), ("RAISE", "FLIP"), ("RAISE", "BOUND"), ("RAISE", "HOLD"), ("RAISE", "JUDGE"), ("LOWER", "SLOW"), ("LOWER", "FLIP"), ("LOWER", "BOUND"), ("LOWER", "HOLD"), ("LOWER", "JUDGE"), ("SLOW", "JUDGE"), ("FLIP", "SLOW"), ("FLIP", "BOUND"), ("FLIP", "HOLD"), ("FLIP", "JUDGE"), ("BOUND", "SLOW"), ("BOUND", "HOLD"), ("BOUND", "JUDGE"), ("HOLD", "SLOW"), ("HOLD", "JUDGE")] : List (String × String)), Jvm.Cond.not (.eq (.static "SlowTunes$Word" q.1 "LSlowTunes$Word;") (.static "SlowTunes$Word" q.2 "LSlowTunes$Word;")) ∈ y_N := by decide +kernel
def y_nm (i : Nat) : String := (["SING", "RAISE", "LOWER", "SLOW", "FLIP", "BOUND", "HOLD", "JUDGE"] : List String).getD i ""
theorem y_els : ∀ j, j < 8 → Jvm.Cond.eq (.elem (.static "SlowTunes" "WORDS" "[LSlowTunes$Word;") (.int (Int32.ofNat j))) (.static "SlowTunes$Word" (y_nm j) "LSlowTunes$Word;") ∈ y_N := by decide +kernel
theorem y_oth : Jvm.Cond.arrayOf (.static "SlowTunes" "WORDS" "[LSlowTunes$Word;") (.object "SlowTunes$Word") ∈ y_N ∧ Jvm.Cond.eq (.length (.static "SlowTunes" "WORDS" "[LSlowTunes$Word;")) (.int (Int32.ofNat 8)) ∈ y_N ∧ Jvm.Cond.arrayOf (.static "java/util/ArrayList" "DEFAULTCAPACITY_EMPTY_ELEMENTDATA" "[Ljava/lang/Object;") (.object "java/lang/Object") ∈ y_N ∧ Jvm.Cond.eq (.length (.static "java/util/ArrayList" "DEFAULTCAPACITY_EMPTY_ELEMENTDATA" "[Ljava/lang/Object;")) (.int (Int32.ofNat 0)) ∈ y_N ∧ Jvm.Cond.eq (.static "java/lang/String" "COMPACT_STRINGS" "Z") (.int 1) ∈ y_N ∧ Jvm.Cond.isRef (.static "jdk/internal/util/Preconditions" "SIOOBE_FORMATTER" "Ljava/util/function/BiFunction;") ∈ y_N ∧ Jvm.Cond.isRef (.static Bundle.tN "UNASSIGNED_STACK" Bundle.steD) ∈ y_N ∧ Jvm.Cond.isRef (.static Bundle.tN "SUPPRESSED_SENTINEL" Bundle.listD) ∈ y_N := by decide +kernel
theorem y_isr {args : Array Value} {s : State} {t : Jvm.Term} (h : (Jvm.Cond.isRef t).before args s = true) : ∃ q : Option Nat, t.eval args s none [] s = some (va_rf q) := by
  cases hv : t.eval args s none [] s with
  | none => simp [Jvm.Cond.before, Jvm.Cond.holds, Jvm.Cond.value, hv] at h
  | some w =>
    simp only [Jvm.Cond.before, Jvm.Cond.holds, Jvm.Cond.value, hv] at h
    cases w with
    | null => exact ⟨none, rfl⟩
    | ref t => exact ⟨some t, rfl⟩
    | _ => simp at h
set_option maxHeartbeats 4000000 in
theorem y_start {s : State} {b L : Nat} {xs : Nat → Int32} (hL : L ≤ 2048) (hts : ∀ w ∈ lw_tbl, w.before #[Value.ref b] s = true) (hX : va_X b L xs s s.heap) (hgv : (Jvm.Cond.and given_1 narrow_1).before #[Value.ref b] s = true) : ∃ adc : Nat → Option Nat, xGl s b adc L xs ∧ xGx s ∧ adc 25 = some b := by
  have hs : ∀ w ∈ y_N, w.before #[Value.ref b] s = true := flat_of_before _ hgv
  have ht : ∀ w ∈ tables_1, w.before #[Value.ref b] s = true := fun w hw => hts w (List.mem_append_right _ hw)
  have hA : ∀ a : Nat, a < s.heap.size → ¬ s.heap.size ≤ a := fun a h1 h2 => absurd h1 (by omega)
  obtain ⟨s0, v0, es0, ⟨cs0, hs0, os0⟩, cv0, hv0, ov0⟩ := y_str (by decide) (hs _ y_s0.1.1) (hs _ y_s0.1.2.1) (hs _ y_s0.1.2.2.1) (hs _ y_s0.1.2.2.2) (fun j hj => hs _ (y_s0.2 j hj))
  obtain ⟨a0, ew0, cw0, hw0, ow0⟩ := y_wrd (hs _ y_w0.1) es0 (hs _ y_w0.2.1) (hs _ y_w0.2.2.1) (hs _ y_w0.2.2.2.1) (hs _ y_w0.2.2.2.2.1) (hs _ y_w0.2.2.2.2.2)
  obtain ⟨s1, v1, es1, ⟨cs1, hs1, os1⟩, cv1, hv1, ov1⟩ := y_str (by decide) (hs _ y_s1.1.1) (hs _ y_s1.1.2.1) (hs _ y_s1.1.2.2.1) (hs _ y_s1.1.2.2.2) (fun j hj => hs _ (y_s1.2 j hj))
  obtain ⟨a1, ew1, cw1, hw1, ow1⟩ := y_wrd (hs _ y_w1.1) es1 (hs _ y_w1.2.1) (hs _ y_w1.2.2.1) (hs _ y_w1.2.2.2.1) (hs _ y_w1.2.2.2.2.1) (hs _ y_w1.2.2.2.2.2)
  obtain ⟨s2, v2, es2, ⟨cs2, hs2, os2⟩, cv2, hv2, ov2⟩ := y_str (by decide) (hs _ y_s2.1.1) (hs _ y_s2.1.2.1) (hs _ y_s2.1.2.2.1) (hs _ y_s2.1.2.2.2) (fun j hj => hs _ (y_s2.2 j hj))
  obtain ⟨a2, ew2, cw2, hw2, ow2⟩ := y_wrd (hs _ y_w2.1) es2 (hs _ y_w2.2.1) (hs _ y_w2.2.2.1) (hs _ y_w2.2.2.2.1) (hs _ y_w2.2.2.2.2.1) (hs _ y_w2.2.2.2.2.2)
  obtain ⟨s3, v3, es3, ⟨cs3, hs3, os3⟩, cv3, hv3, ov3⟩ := y_str (by decide) (hs _ y_s3.1.1) (hs _ y_s3.1.2.1) (hs _ y_s3.1.2.2.1) (hs _ y_s3.1.2.2.2) (fun j hj => hs _ (y_s3.2 j hj))
  obtain ⟨a3, ew3, cw3, hw3, ow3⟩ := y_wrd (hs _ y_w3.1) es3 (hs _ y_w3.2.1) (hs _ y_w3.2.2.1) (hs _ y_w3.2.2.2.1) (hs _ y_w3.2.2.2.2.1) (hs _ y_w3.2.2.2.2.2)
  obtain ⟨s4, v4, es4, ⟨cs4, hs4, os4⟩, cv4, hv4, ov4⟩ := y_str (by decide) (hs _ y_s4.1.1) (hs _ y_s4.1.2.1) (hs _ y_s4.1.2.2.1) (hs _ y_s4.1.2.2.2) (fun j hj => hs _ (y_s4.2 j hj))
  obtain ⟨a4, ew4, cw4, hw4, ow4⟩ := y_wrd (hs _ y_w4.1) es4 (hs _ y_w4.2.1) (hs _ y_w4.2.2.1) (hs _ y_w4.2.2.2.1) (hs _ y_w4.2.2.2.2.1) (hs _ y_w4.2.2.2.2.2)
  obtain ⟨s5, v5, es5, ⟨cs5, hs5, os5⟩, cv5, hv5, ov5⟩ := y_str (by decide) (hs _ y_s5.1.1) (hs _ y_s5.1.2.1) (hs _ y_s5.1.2.2.1) (hs _ y_s5.1.2.2.2) (fun j hj => hs _ (y_s5.2 j hj))
  obtain ⟨a5, ew5, cw5, hw5, ow5⟩ := y_wrd (hs _ y_w5.1) es5 (hs _ y_w5.2.1) (hs _ y_w5.2.2.1) (hs _ y_w5.2.2.2.1) (hs _ y_w5.2.2.2.2.1) (hs _ y_w5.2.2.2.2.2)
  obtain ⟨s6, v6, es6, ⟨cs6, hs6, os6⟩, cv6, hv6, ov6⟩ := y_str (by decide) (hs _ y_s6.1.1) (hs _ y_s6.1.2.1) (hs _ y_s6.1.2.2.1) (hs _ y_s6.1.2.2.2) (fun j hj => hs _ (y_s6.2 j hj))
  obtain ⟨a6, ew6, cw6, hw6, ow6⟩ := y_wrd (hs _ y_w6.1) es6 (hs _ y_w6.2.1) (hs _ y_w6.2.2.1) (hs _ y_w6.2.2.2.1) (hs _ y_w6.2.2.2.2.1) (hs _ y_w6.2.2.2.2.2)
  obtain ⟨s7, v7, es7, ⟨cs7, hs7, os7⟩, cv7, hv7, ov7⟩ := y_str (by decide) (hs _ y_s7.1.1) (hs _ y_s7.1.2.1) (hs _ y_s7.1.2.2.1) (hs _ y_s7.1.2.2.2) (fun j hj => hs _ (y_s7.2 j hj))
  obtain ⟨a7, ew7, cw7, hw7, ow7⟩ := y_wrd (hs _ y_w7.1) es7 (hs _ y_w7.2.1) (hs _ y_w7.2.2.1) (hs _ y_w7.2.2.2.1) (hs _ y_w7.2.2.2.2.1) (hs _ y_w7.2.2.2.2.2)
  have nW : ∀ (q : String × String) (x y : Nat), q ∈ ([("SING", "RAISE"), ("SING", "LOWER"), ("SING", "SLOW"), ("SING", "FLIP"), ("SING", "BOUND"), ("SING", "HOLD"), ("SING", "JUDGE"), ("RAISE", "LOWER"), ("RAISE", "SLOW"), ("RAISE", "FLIP"), ("RAISE", "BOUND"), ("RAISE", "HOLD"), ("RAISE", "JUDGE"), ("LOWER", "SLOW"), ("LOWER", "FLIP"), ("LOWER", "BOUND"), ("LOWER", "HOLD"), ("LOWER", "JUDGE"), ("SLOW", "JUDGE"), ("FLIP", "SLOW"), ("FLIP", "BOUND"), ("FLIP", "HOLD"), ("FLIP", "JUDGE"), ("BOUND", "SLOW"), ("BOUND", "HOLD"), ("BOUND", "JUDGE"), ("HOLD", "SLOW"), ("HOLD", "JUDGE")] : List (String × String)) → (Jvm.Term.static "SlowTunes$Word" q.1 "LSlowTunes$Word;").eval #[Value.ref b] s none [] s = some (.ref x) → (Jvm.Term.static "SlowTunes$Word" q.2 "LSlowTunes$Word;").eval #[Value.ref b] s none [] s = some (.ref y) → x ≠ y := fun q x y hq h1 h2 => va_neR (hs _ (y_neW q hq)) h1 h2
  have n01 : a0 ≠ a1 := nW ("SING", "RAISE") _ _ (by decide) ew0 ew1
  have n10 : a1 ≠ a0 := Ne.symm n01
  have n02 : a0 ≠ a2 := nW ("SING", "LOWER") _ _ (by decide) ew0 ew2
  have n20 : a2 ≠ a0 := Ne.symm n02
  have n03 : a0 ≠ a3 := nW ("SING", "SLOW") _ _ (by decide) ew0 ew3
  have n30 : a3 ≠ a0 := Ne.symm n03
  have n04 : a0 ≠ a4 := nW ("SING", "FLIP") _ _ (by decide) ew0 ew4
  have n40 : a4 ≠ a0 := Ne.symm n04
  have n05 : a0 ≠ a5 := nW ("SING", "BOUND") _ _ (by decide) ew0 ew5
  have n50 : a5 ≠ a0 := Ne.symm n05
  have n06 : a0 ≠ a6 := nW ("SING", "HOLD") _ _ (by decide) ew0 ew6
  have n60 : a6 ≠ a0 := Ne.symm n06
  have n07 : a0 ≠ a7 := nW ("SING", "JUDGE") _ _ (by decide) ew0 ew7
  have n70 : a7 ≠ a0 := Ne.symm n07
  have n12 : a1 ≠ a2 := nW ("RAISE", "LOWER") _ _ (by decide) ew1 ew2
  have n21 : a2 ≠ a1 := Ne.symm n12
  have n13 : a1 ≠ a3 := nW ("RAISE", "SLOW") _ _ (by decide) ew1 ew3
  have n31 : a3 ≠ a1 := Ne.symm n13
  have n14 : a1 ≠ a4 := nW ("RAISE", "FLIP") _ _ (by decide) ew1 ew4
  have n41 : a4 ≠ a1 := Ne.symm n14
  have n15 : a1 ≠ a5 := nW ("RAISE", "BOUND") _ _ (by decide) ew1 ew5
  have n51 : a5 ≠ a1 := Ne.symm n15
  have n16 : a1 ≠ a6 := nW ("RAISE", "HOLD") _ _ (by decide) ew1 ew6
  have n61 : a6 ≠ a1 := Ne.symm n16
  have n17 : a1 ≠ a7 := nW ("RAISE", "JUDGE") _ _ (by decide) ew1 ew7
  have n71 : a7 ≠ a1 := Ne.symm n17
  have n23 : a2 ≠ a3 := nW ("LOWER", "SLOW") _ _ (by decide) ew2 ew3
  have n32 : a3 ≠ a2 := Ne.symm n23
  have n24 : a2 ≠ a4 := nW ("LOWER", "FLIP") _ _ (by decide) ew2 ew4
  have n42 : a4 ≠ a2 := Ne.symm n24
  have n25 : a2 ≠ a5 := nW ("LOWER", "BOUND") _ _ (by decide) ew2 ew5
  have n52 : a5 ≠ a2 := Ne.symm n25
  have n26 : a2 ≠ a6 := nW ("LOWER", "HOLD") _ _ (by decide) ew2 ew6
  have n62 : a6 ≠ a2 := Ne.symm n26
  have n27 : a2 ≠ a7 := nW ("LOWER", "JUDGE") _ _ (by decide) ew2 ew7
  have n72 : a7 ≠ a2 := Ne.symm n27
  have n37 : a3 ≠ a7 := nW ("SLOW", "JUDGE") _ _ (by decide) ew3 ew7
  have n73 : a7 ≠ a3 := Ne.symm n37
  have n43 : a4 ≠ a3 := nW ("FLIP", "SLOW") _ _ (by decide) ew4 ew3
  have n34 : a3 ≠ a4 := Ne.symm n43
  have n45 : a4 ≠ a5 := nW ("FLIP", "BOUND") _ _ (by decide) ew4 ew5
  have n54 : a5 ≠ a4 := Ne.symm n45
  have n46 : a4 ≠ a6 := nW ("FLIP", "HOLD") _ _ (by decide) ew4 ew6
  have n64 : a6 ≠ a4 := Ne.symm n46
  have n47 : a4 ≠ a7 := nW ("FLIP", "JUDGE") _ _ (by decide) ew4 ew7
  have n74 : a7 ≠ a4 := Ne.symm n47
  have n53 : a5 ≠ a3 := nW ("BOUND", "SLOW") _ _ (by decide) ew5 ew3
  have n35 : a3 ≠ a5 := Ne.symm n53
  have n56 : a5 ≠ a6 := nW ("BOUND", "HOLD") _ _ (by decide) ew5 ew6
  have n65 : a6 ≠ a5 := Ne.symm n56
  have n57 : a5 ≠ a7 := nW ("BOUND", "JUDGE") _ _ (by decide) ew5 ew7
  have n75 : a7 ≠ a5 := Ne.symm n57
  have n63 : a6 ≠ a3 := nW ("HOLD", "SLOW") _ _ (by decide) ew6 ew3
  have n36 : a3 ≠ a6 := Ne.symm n63
  have n67 : a6 ≠ a7 := nW ("HOLD", "JUDGE") _ _ (by decide) ew6 ew7
  have n76 : a7 ≠ a6 := Ne.symm n67
  have hnd : ([a0, a1, a2, a3, a4, a5, a6, a7] : List Nat).Nodup := by simp only [List.nodup_cons, List.mem_cons, List.not_mem_nil, or_false, not_or]; exact ⟨⟨n01, n02, n03, n04, n05, n06, n07⟩, ⟨n12, n13, n14, n15, n16, n17⟩, ⟨n23, n24, n25, n26, n27⟩, ⟨n34, n35, n36, n37⟩, ⟨n45, n46, n47⟩, ⟨n56, n57⟩, n67, not_false, List.nodup_nil⟩
  obtain ⟨o1, o2, o3, o4, o5, o6, o7, o8⟩ := y_oth
  obtain ⟨wa, ewa, cwa, gw1, gw2, gw3, gw4, gw5, gw6, -⟩ := va_Tof (A := fun _ => False) (f := fun j => va_rf ([a0, a1, a2, a3, a4, a5, a6, a7] : List Nat)[j]?) (by decide : 8 < 2 ^ 31) (hs _ o1) (va_eqt (hs _ o2)) (fun j hj => by
    have h9 := hs _ (y_els j hj)
    match j, hj, h9 with
    | 0, _, h9 => exact y_eqr h9 ew0
    | 1, _, h9 => exact y_eqr h9 ew1
    | 2, _, h9 => exact y_eqr h9 ew2
    | 3, _, h9 => exact y_eqr h9 ew3
    | 4, _, h9 => exact y_eqr h9 ew4
    | 5, _, h9 => exact y_eqr h9 ew5
    | 6, _, h9 => exact y_eqr h9 ew6
    | 7, _, h9 => exact y_eqr h9 ew7
    | j + 8, hj, _ => omega) (fun _ _ h => h)
  obtain ⟨da, eda, cda, gd1, gd2, gd3, gd4, gd5, -, -⟩ := va_Tof (A := fun _ => False) (f := fun _ => .null) (by decide : 0 < 2 ^ 31) (hs _ o3) (va_eqt (hs _ o4)) (fun j hj => absurd hj (Nat.not_lt_zero j)) (fun _ _ h => h)
  obtain ⟨sio, esio⟩ := y_isr (hs _ o6)
  obtain ⟨scr, x1, x2, x3, x4, x5⟩ := hX
  refine ⟨fun k => if k < 8 then ([a0, a1, a2, a3, a4, a5, a6, a7] : List Nat)[k]? else ([some s0, some s1, some s2, some s3, some s4, some s5, some s6, some s7, some v0, some v1, some v2, some v3, some v4, some v5, some v6, some v7, some wa, some b, some da, sio] : List (Option Nat)).getD (k - 8) none, ⟨hts, fun k c hk hc => ?_, fun x y hx hy hxy => ?_, fun q hq => ?_⟩, ⟨?_, ?_, ?_, ?_, ?_, ?_⟩, rfl⟩
  · match k, hk, hc with
    | 0, _, hc => cases hc; exact ⟨a0, cw0, rfl, (Array.getElem?_eq_some_iff.mp hw0).1, hw0, ow0 _ 8 (by decide) rfl⟩
    | 1, _, hc => cases hc; exact ⟨a1, cw1, rfl, (Array.getElem?_eq_some_iff.mp hw1).1, hw1, ow1 _ 9 (by decide) rfl⟩
    | 2, _, hc => cases hc; exact ⟨a2, cw2, rfl, (Array.getElem?_eq_some_iff.mp hw2).1, hw2, ow2 _ 10 (by decide) rfl⟩
    | 3, _, hc => cases hc; exact ⟨a3, cw3, rfl, (Array.getElem?_eq_some_iff.mp hw3).1, hw3, ow3 _ 11 (by decide) rfl⟩
    | 4, _, hc => cases hc; exact ⟨a4, cw4, rfl, (Array.getElem?_eq_some_iff.mp hw4).1, hw4, ow4 _ 12 (by decide) rfl⟩
    | 5, _, hc => cases hc; exact ⟨a5, cw5, rfl, (Array.getElem?_eq_some_iff.mp hw5).1, hw5, ow5 _ 13 (by decide) rfl⟩
    | 6, _, hc => cases hc; exact ⟨a6, cw6, rfl, (Array.getElem?_eq_some_iff.mp hw6).1, hw6, ow6 _ 14 (by decide) rfl⟩
    | 7, _, hc => cases hc; exact ⟨a7, cw7, rfl, (Array.getElem?_eq_some_iff.mp hw7).1, hw7, ow7 _ 15 (by decide) rfl⟩
    | 8, _, hc => cases hc; exact ⟨s0, cs0, rfl, (Array.getElem?_eq_some_iff.mp hs0).1, hs0, os0 _ 16 (by decide) rfl⟩
    | 9, _, hc => cases hc; exact ⟨s1, cs1, rfl, (Array.getElem?_eq_some_iff.mp hs1).1, hs1, os1 _ 17 (by decide) rfl⟩
    | 10, _, hc => cases hc; exact ⟨s2, cs2, rfl, (Array.getElem?_eq_some_iff.mp hs2).1, hs2, os2 _ 18 (by decide) rfl⟩
    | 11, _, hc => cases hc; exact ⟨s3, cs3, rfl, (Array.getElem?_eq_some_iff.mp hs3).1, hs3, os3 _ 19 (by decide) rfl⟩
    | 12, _, hc => cases hc; exact ⟨s4, cs4, rfl, (Array.getElem?_eq_some_iff.mp hs4).1, hs4, os4 _ 20 (by decide) rfl⟩
    | 13, _, hc => cases hc; exact ⟨s5, cs5, rfl, (Array.getElem?_eq_some_iff.mp hs5).1, hs5, os5 _ 21 (by decide) rfl⟩
    | 14, _, hc => cases hc; exact ⟨s6, cs6, rfl, (Array.getElem?_eq_some_iff.mp hs6).1, hs6, os6 _ 22 (by decide) rfl⟩
    | 15, _, hc => cases hc; exact ⟨s7, cs7, rfl, (Array.getElem?_eq_some_iff.mp hs7).1, hs7, os7 _ 23 (by decide) rfl⟩
    | 16, _, hc => cases hc; exact ⟨v0, cv0, rfl, (Array.getElem?_eq_some_iff.mp hv0).1, hv0, ov0 _⟩
    | 17, _, hc => cases hc; exact ⟨v1, cv1, rfl, (Array.getElem?_eq_some_iff.mp hv1).1, hv1, ov1 _⟩
    | 18, _, hc => cases hc; exact ⟨v2, cv2, rfl, (Array.getElem?_eq_some_iff.mp hv2).1, hv2, ov2 _⟩
    | 19, _, hc => cases hc; exact ⟨v3, cv3, rfl, (Array.getElem?_eq_some_iff.mp hv3).1, hv3, ov3 _⟩
    | 20, _, hc => cases hc; exact ⟨v4, cv4, rfl, (Array.getElem?_eq_some_iff.mp hv4).1, hv4, ov4 _⟩
    | 21, _, hc => cases hc; exact ⟨v5, cv5, rfl, (Array.getElem?_eq_some_iff.mp hv5).1, hv5, ov5 _⟩
    | 22, _, hc => cases hc; exact ⟨v6, cv6, rfl, (Array.getElem?_eq_some_iff.mp hv6).1, hv6, ov6 _⟩
    | 23, _, hc => cases hc; exact ⟨v7, cv7, rfl, (Array.getElem?_eq_some_iff.mp hv7).1, hv7, ov7 _⟩
    | 24, _, hc =>
      cases hc
      refine ⟨wa, cwa, rfl, (Array.getElem?_eq_some_iff.mp gw1).1, gw1, gw2, gw3, gw4, gw5, fun j hj => ?_⟩
      rw [gw6 j hj]
      show some (va_rf _) = some (va_rf (xad s _ j))
      rw [xad, if_pos (show j < xNC from Nat.lt_of_lt_of_le (show j < 8 from hj) (by decide)), if_pos (show j < 8 from hj)]
    | 25, _, hc => cases hc; exact ⟨b, scr, rfl, (Array.getElem?_eq_some_iff.mp x1).1, x1, x2, x3, by rw [x4]; exact Nat.le_refl _, by rw [x4], x5⟩
    | 26, _, hc => cases hc; exact ⟨da, cda, rfl, (Array.getElem?_eq_some_iff.mp gd1).1, gd1, gd2, gd3, Nat.zero_le _, gd5, fun j hj => absurd hj (Nat.not_lt_zero j)⟩
    | 27, _, hc => exact absurd hc (by simp [xcst])
    | k + 28, hk, _ => exact absurd hk (by show ¬ k + 28 < 28; omega)
  · dsimp only at hxy
    rw [if_pos hx, if_pos hy] at hxy
    exact (List.getElem?_inj (by exact hx) hnd).mp hxy
  · obtain ⟨t1, t2⟩ := y_tst q hq
    refine va_Zof (ht _ t1) (ht _ t2) ?_ hA
    simp only [xstL, List.mem_cons, List.not_mem_nil, or_false] at hq
    rcases hq with rfl | rfl | rfl | rfl | rfl | rfl | rfl | rfl | rfl | rfl | rfl | rfl
    · exact ew0
    · exact ew1
    · exact ew2
    · exact ew3
    · exact ew4
    · exact ew5
    · exact ew6
    · exact ew7
    · exact ewa
    · exact eda
    · exact esio
    · exact va_eqt (hs _ o5)
  · intro i hi
    obtain ⟨q, hq, rfl⟩ := y_tx0 i hi
    obtain ⟨sa, -, -, -, e1, -⟩ := Jvm.Cond.exactly_spec (show (Jvm.Cond.exactly (.string "SlowTunes" q.1) "java/lang/String").holds #[Value.ref b] s none s [] = true from hs _ (y_Nx _ hi))
    exact ⟨q.2, sa, vk_R.of (ht _ (y_ttx q hq)) e1⟩
  · exact vx_Zqof (ht _ y_thr1.1) (ht _ y_thr1.2.2) (hs _ o7) hA
  · exact vx_Zqof (ht _ y_thr1.2.1) (ht _ y_thr1.2.2) (hs _ o8) hA
  · exact fun x y hx hy hxy => va_Nc.of (hs _ (y_Nc x hx y hy hxy))
  · exact fun x hx => va_Nw.of rfl (ht _ (y_cst1 x hx).1)
  · exact fun x hx => va_Nw.of rfl (ht _ (y_cst1 x hx).2)
