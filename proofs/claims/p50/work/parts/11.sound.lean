section SE
variable {p : Program} {l : Launch} {e : Env} {R : Room} {s : State} {m : MethodId} {args : Array Value} {below : List Frame} {meth : Method} {c : Code} {H : Heap} {locs : List Loc} {cells slots : Nat} {Q : State → Prop}
variable {s0 : State} {b0 : Nat} {adc : Nat → Option Nat} {cc : ByteArray} {own : String} {L : Nat} {xs : Nat → Int32} {hp : xH}
variable {pc : Nat} {ls : Array Slot} {rest : List Value} {a n : Nat} {f : Nat → Value} {ty : FieldType}
theorem xArr (hG : xGl s0 b0 adc L xs) (hW : s0.WarmedH s.vm) (hR : xRel s0 adc L xs hp H) (ha : hp.2.2 a = some (.inl (ty, n, f))) : ∃ (ar : Nat) (cell : Cell), xv s0 adc (.ref a) = .ref ar ∧ H[ar]? = some cell ∧ s.isArrayOf cell ty ∧ cell.vm ≠ .unknown ∧ (n ≤ cell.slots.size ∧ cell.slots.size.toInt32 = Int32.ofNat n) ∧ ∀ j : Nat, j < n → cell.slots[j]? = some (xv s0 adc (f j)) := by
  obtain ⟨ar, cell, h1, h2, h3⟩ := hR.wk hG ha
  have h3 : xArrAt s0 adc ty n f cell := h3
  obtain ⟨g1, g2, g3, g5, g4⟩ := h3
  refine ⟨ar, cell, ?_, h2, State.isArrayOf_alike hW.alike g1, g2, ⟨g3, g5⟩, g4⟩
  exact congrArg va_rf h1
theorem xin_use {i : Int32} (h : xin i n = true) : ¬ (i < 0 ∨ n ≤ i.toNatClampNeg) := of_decide_eq_true h
theorem S_alen (hx : p.tables.exec = Jvm.exec) (hb : c.code = cc) (hG : xGl s0 b0 adc L xs) (hW : s0.WarmedH s.vm) (hR : xRel s0 adc L xs hp H) (ha : hp.2.2 a = some (.inl (ty, n, f))) (hd : decode cc pc = .ok (.arraylength, 1)) (K : W p l e R s m args below meth c H locs cells slots Q (F0 m (pc + 1) ls (.int (Int32.ofNat n) :: rest))) : W p l e R s m args below meth c H locs cells slots Q (F0 m pc ls (xv s0 adc (.ref a) :: rest)) := by
  obtain ⟨ar, cell, h1, h2, h3, h4, h5, h6⟩ := xArr hG hW hR ha
  rw [h1]
  exact W.alen (n := Int32.ofNat n) hx hb h2 h3 h5.2 rfl rfl hd K
theorem S_iald (hx : p.tables.exec = Jvm.exec) (hb : c.code = cc) (hG : xGl s0 b0 adc L xs) (hW : s0.WarmedH s.vm) (hR : xRel s0 adc L xs hp H) (ha : hp.2.2 a = some (.inl (.int, n, f))) {i : Int32} (hi : xin i n = true) (hd : decode cc pc = .ok (.iaload, 1)) (K : W p l e R s m args below meth c H locs cells slots Q (F0 m (pc + 1) ls (xv s0 adc (f i.toNatClampNeg) :: rest))) : W p l e R s m args below meth c H locs cells slots Q (F0 m pc ls (.int i :: xv s0 adc (.ref a) :: rest)) := by
  obtain ⟨ar, cell, h1, h2, h3, h4, h5, h6⟩ := xArr hG hW hR ha
  have hi' := xin_use hi
  rw [h1]
  exact W.iald hx hb h2 h3 h4 (fun h => hi' (h.imp id (fun h => Nat.le_trans h5.1 h))) (h6 _ (by omega)) rfl rfl hd K
theorem S_lald (hx : p.tables.exec = Jvm.exec) (hb : c.code = cc) (hG : xGl s0 b0 adc L xs) (hW : s0.WarmedH s.vm) (hR : xRel s0 adc L xs hp H) (ha : hp.2.2 a = some (.inl (.long, n, f))) {i : Int32} (hi : xin i n = true) (hd : decode cc pc = .ok (.laload, 1)) (K : W p l e R s m args below meth c H locs cells slots Q (F0 m (pc + 1) ls (xv s0 adc (f i.toNatClampNeg) :: rest))) : W p l e R s m args below meth c H locs cells slots Q (F0 m pc ls (.int i :: xv s0 adc (.ref a) :: rest)) := by
  obtain ⟨ar, cell, h1, h2, h3, h4, h5, h6⟩ := xArr hG hW hR ha
  have hi' := xin_use hi
  rw [h1]
  exact W.lald hx hb h2 h3 h4 (fun h => hi' (h.imp id (fun h => Nat.le_trans h5.1 h))) (h6 _ (by omega)) rfl rfl hd K
theorem S_bald (hx : p.tables.exec = Jvm.exec) (hb : c.code = cc) (hG : xGl s0 b0 adc L xs) (hW : s0.WarmedH s.vm) (hR : xRel s0 adc L xs hp H) (ha : hp.2.2 a = some (.inl (.byte, n, f))) {i : Int32} (hi : xin i n = true) (hd : decode cc pc = .ok (.baload, 1)) (K : W p l e R s m args below meth c H locs cells slots Q (F0 m (pc + 1) ls (xv s0 adc (f i.toNatClampNeg) :: rest))) : W p l e R s m args below meth c H locs cells slots Q (F0 m pc ls (.int i :: xv s0 adc (.ref a) :: rest)) := by
  obtain ⟨ar, cell, h1, h2, h3, h4, h5, h6⟩ := xArr hG hW hR ha
  have hi' := xin_use hi
  rw [h1]
  exact W.bald hx hb h2 h3 h4 (fun h => hi' (h.imp id (fun h => Nat.le_trans h5.1 h))) (h6 _ (by omega)) rfl rfl hd K
theorem S_aald (hx : p.tables.exec = Jvm.exec) (hb : c.code = cc) (hG : xGl s0 b0 adc L xs) (hW : s0.WarmedH s.vm) (hR : xRel s0 adc L xs hp H) {C : String} (ha : hp.2.2 a = some (.inl (.object C, n, f))) {i : Int32} (hi : xin i n = true) (hd : decode cc pc = .ok (.aaload, 1)) (K : W p l e R s m args below meth c H locs cells slots Q (F0 m (pc + 1) ls (xv s0 adc (f i.toNatClampNeg) :: rest))) : W p l e R s m args below meth c H locs cells slots Q (F0 m pc ls (.int i :: xv s0 adc (.ref a) :: rest)) := by
  obtain ⟨ar, cell, h1, h2, h3, h4, h5, h6⟩ := xArr hG hW hR ha
  have hi' := xin_use hi
  rw [h1]
  exact W.aald hx hb h2 h3 rfl h4 (fun h => hi' (h.imp id (fun h => Nat.le_trans h5.1 h))) (h6 _ (by omega)) rfl rfl hd K
/-- an array of the small heap that may be written -/
theorem xArrS (hW : s0.WarmedH s.vm) (hR : xRel s0 adc L xs hp H) (hn : xNC ≤ a) (ha : hp.2.2 a = some (.inl (ty, n, f))) : xv s0 adc (.ref a) = .ref (s0.heap.size + (a - xNC)) ∧ ∃ cA : ClassId, ArrOfT s0 cA ty ∧ va_RA s0 cA ty ∧ ArrOfT s cA ty ∧ va_RA s cA ty ∧ H[s0.heap.size + (a - xNC)]? = some (arrV cA n (fun j => xv s0 adc (f j))) := by
  obtain ⟨-, cell, h2, h3⟩ := hR.2.2.2.2 a _ hn ha
  have h3 : ∃ cA : ClassId, ArrOfT s0 cA ty ∧ va_RA s0 cA ty ∧ cell = arrV cA n (fun j => xv s0 adc (f j)) := h3
  obtain ⟨cA, g1, g2, rfl⟩ := h3
  refine ⟨?_, cA, g1, g2, arrOfT_moved hW.alike g1, g2.moved hW.alike, h2⟩
  show va_rf (xad s0 adc a) = _
  rw [xad, if_neg (by omega)]
  rfl
theorem xv_upd (k : Nat) (v : Value) : updV (fun j => xv s0 adc (f j)) k (xv s0 adc v) = fun j => xv s0 adc (updV f k v j) := by
  funext j
  by_cases h : j = k <;> simp [updV, h]
theorem S_iast (hx : p.tables.exec = Jvm.exec) (hb : c.code = cc) (hW : s0.WarmedH s.vm) (hR : xRel s0 adc L xs hp H) (hl : xLk s0 locs) (hn : xNC ≤ a) (ha : hp.2.2 a = some (.inl (.int, n, f))) {i x : Int32} (hi : xin i n = true) (hd : decode cc pc = .ok (.iastore, 1)) (K : ∀ (H1 : Heap) (locs1 : List Loc), xRel s0 adc L xs (xput hp a (.inl (.int, n, updV f i.toNatClampNeg (.int x)))) H1 → xLk s0 locs1 → W p l e R s m args below meth c H1 locs1 cells slots Q (F0 m (pc + 1) ls rest)) : W p l e R s m args below meth c H locs cells slots Q (F0 m pc ls (.int x :: .int i :: xv s0 adc (.ref a) :: rest)) := by
  obtain ⟨h1, cA, g1, g2, g3, -, h2⟩ := xArrS hW hR hn ha
  have hi' := xin_use hi
  rw [h1]
  refine W.iast hx hb h2 (g3 _ _) (fun q => nomatch q) (by rw [arrV_size]; exact hi') rfl rfl hd fun H1 e z oq => ?_
  refine K H1 _ (hR.put hn ha e ⟨cA, g1, g2, ?_⟩ z oq) (hl.add (Nat.le_add_right _ _))
  rw [arrV_store]
  exact congrArg (arrV cA n) (xv_upd i.toNatClampNeg (.int x))
theorem S_last (hx : p.tables.exec = Jvm.exec) (hb : c.code = cc) (hW : s0.WarmedH s.vm) (hR : xRel s0 adc L xs hp H) (hl : xLk s0 locs) (hn : xNC ≤ a) (ha : hp.2.2 a = some (.inl (.long, n, f))) {i : Int32} {x : Int64} (hi : xin i n = true) (hd : decode cc pc = .ok (.lastore, 1)) (K : ∀ (H1 : Heap) (locs1 : List Loc), xRel s0 adc L xs (xput hp a (.inl (.long, n, updV f i.toNatClampNeg (.long x)))) H1 → xLk s0 locs1 → W p l e R s m args below meth c H1 locs1 cells slots Q (F0 m (pc + 1) ls rest)) : W p l e R s m args below meth c H locs cells slots Q (F0 m pc ls (.long x :: .int i :: xv s0 adc (.ref a) :: rest)) := by
  obtain ⟨h1, cA, g1, g2, g3, -, h2⟩ := xArrS hW hR hn ha
  have hi' := xin_use hi
  rw [h1]
  refine W.last hx hb h2 (g3 _ _) (fun q => nomatch q) (by rw [arrV_size]; exact hi') rfl rfl hd fun H1 e z oq => ?_
  refine K H1 _ (hR.put hn ha e ⟨cA, g1, g2, ?_⟩ z oq) (hl.add (Nat.le_add_right _ _))
  rw [arrV_store]
  exact congrArg (arrV cA n) (xv_upd i.toNatClampNeg (.long x))
/-- a state may stand in an array of objects -/
theorem xState (hG : xGl s0 b0 adc L xs) (hW : s0.WarmedH s.vm) (hR : xRel s0 adc L xs hp H) {v : Nat} (hv : xisS hp (.ref v) = true) : ∃ (av : Nat) (cell : Cell), xv s0 adc (.ref v) = .ref av ∧ H[av]? = some cell ∧ cell.vm.isStatics = false ∧ s.vm.findClass "SlowTunes$State" = some cell.cls := by
  unfold xisS at hv
  dsimp only at hv
  split at hv
  · rename_i ci fs ha
    have hci : ci = 6 := by simpa using hv
    subst hci
    obtain ⟨av, cell, h1, h2, h3⟩ := hR.wk hG ha
    have h3 : xObjAt s0 adc 6 fs cell := h3
    refine ⟨av, cell, ?_, h2, h3.2.2.1, xcls hW h3.1⟩
    show va_rf (xad s0 adc v) = _
    rw [h1]
    rfl
  · exact absurd hv (by simp)
/-- State's objects are Objects -/
theorem xStObj (hG : xGl s0 b0 adc L xs) (hW : s0.WarmedH s.vm) {c1 c2 : ClassId} (h1 : s.vm.findClass xObj = some c1) (h2 : s.vm.findClass "SlowTunes$State" = some c2) : s.vm.assignable c2 c1 = true := by
  have hw : xw 3 164 = some (.castable "SlowTunes$State" "java/lang/Object") := by decide +kernel
  obtain ⟨c3, c4, hc3, hc4, hasg⟩ := Jvm.Cond.castable_spec (hG.1 _ (tables_lw (xtb_in hw)))
  cases Option.some.inj (hc3.symm.trans (xcls' hW h2))
  cases Option.some.inj (hc4.symm.trans (xcls' hW h1))
  rw [hW.alike.assignable]
  exact hasg
theorem S_aast (hx : p.tables.exec = Jvm.exec) (hb : c.code = cc) (hG : xGl s0 b0 adc L xs) (hW : s0.WarmedH s.vm) (hR : xRel s0 adc L xs hp H) (hl : xLk s0 locs) (hn : xNC ≤ a) (ha : hp.2.2 a = some (.inl (.object xObj, n, f))) {i : Int32} {v : Value} (hv : xisS hp v = true) (hi : xin i n = true) (hd : decode cc pc = .ok (.aastore, 1)) (K : ∀ (H1 : Heap) (locs1 : List Loc), xRel s0 adc L xs (xput hp a (.inl (.object xObj, n, updV f i.toNatClampNeg v))) H1 → xLk s0 locs1 → W p l e R s m args below meth c H1 locs1 cells slots Q (F0 m (pc + 1) ls rest)) : W p l e R s m args below meth c H locs cells slots Q (F0 m pc ls (xv s0 adc v :: .int i :: xv s0 adc (.ref a) :: rest)) := by
  obtain ⟨h1, cA, g1, g2, g3, g4, h2⟩ := xArrS hW hR hn ha
  have hi' := xin_use hi
  rw [h1]
  have fin : ∀ (H1 : Heap), H1[s0.heap.size + (a - xNC)]? = some ((arrV cA n (fun j => xv s0 adc (f j))).setSlot i.toNatClampNeg (xv s0 adc v)) → H1.size = H.size → (∀ q, q ≠ s0.heap.size + (a - xNC) → H1[q]? = H[q]?) → W p l e R s m args below meth c H1 (locs ++ [⟨s0.heap.size + (a - xNC), i.toNatClampNeg⟩]) cells slots Q (F0 m (pc + 1) ls rest) := by
    intro H1 e z oq
    refine K H1 _ (hR.put hn ha e ⟨cA, g1, g2, ?_⟩ z oq) (hl.add (Nat.le_add_right _ _))
    rw [arrV_store]
    exact congrArg (arrV cA n) (xv_upd i.toNatClampNeg v)
  cases v with
  | null => exact va_WaastN (C := xObj) hx hb h2 (g3 _ _) (fun q => nomatch q) (by rw [arrV_size]; exact hi') rfl rfl hd fin
  | ref w =>
    obtain ⟨av, cell, e1, e2, e3, e4⟩ := xState hG hW hR hv
    rw [e1] at fin ⊢
    obtain ⟨kA, comp, k1, k2, k3, k4⟩ := g4
    obtain ⟨kC, hkC, -⟩ := Vm.findClass_spec e4
    obtain ⟨kO, hkO, -⟩ := Vm.findClass_spec k3
    exact W.aast hx hb h2 (fun q h => nomatch h) (fun h => nomatch h) k1 k2 rfl hkO ⟨fun q => hi' (Or.inl q), by rw [arrV_size]; omega⟩ e2 (fun q h => by rw [h] at e3; cases e3) hkC (xStObj hG hW k3 e4) rfl rfl hd fin
  | _ => exact absurd hv (by simp [xisS])
theorem S_newa {at_ : ArrayType} (hat : at_ = .int ∨ at_ = .long) (hx : p.tables.exec = Jvm.exec) (hb : c.code = cc) (hG : xGl s0 b0 adc L xs) (hW : s0.WarmedH s.vm) (hR : xRel s0 adc L xs hp H) {q0 p0 : Nat} (hw : xw q0 p0 = some (.arrayClass (newarray.typeOf at_))) {x : Int32} (hn : ¬ (x < 0 ∨ 1000 < x.toNatClampNeg)) (hc : cells + 1 ≤ R.cells) (hs : slots + x.toNatClampNeg ≤ R.slots) (hd : decode cc pc = .ok (.newarray at_, 2))
    (K : ∀ (H1 : Heap), xRel s0 adc L xs (xnew hp (.inl (newarray.typeOf at_, x.toNatClampNeg, fun _ => defaultValue (newarray.typeOf at_))) x.toNatClampNeg) H1 → W p l e R s m args below meth c H1 locs (cells + 1) (slots + x.toNatClampNeg) Q (F0 m (pc + 2) ls (xv s0 adc (.ref hp.1) :: rest))) : W p l e R s m args below meth c H locs cells slots Q (F0 m pc ls (.int x :: rest)) := by
  have hw2 : (Jvm.Cond.arrayClass (newarray.typeOf at_)).before args s = true := xwd hG.1 hW hw rfl
  have hbytes : x.toNatClampNeg * componentBytes (newarray.typeOf at_) ≤ 536870912 := by
    have h8 : componentBytes (newarray.typeOf at_) ≤ 8 := by rcases hat with rfl | rfl <;> decide
    have h9 : x.toNatClampNeg ≤ 1000 := by omega
    exact Nat.le_trans (Nat.mul_le_mul h9 h8) (by omega)
  refine va_newaK hx hb hw2 rfl hd rfl (fun q => hn (Or.inl q)) rfl hbytes hc hs rfl fun H1 cA e1 z1 o1 hAr hNm => ?_
  have hr : xv s0 adc (.ref hp.1) = .ref H.size := by
    show va_rf (xad s0 adc hp.1) = _
    rw [hR.new]
    rfl
  rw [← hr]
  refine K H1 (hR.push e1 ?_ z1 o1)
  refine ⟨cA, arrOfT_moved hW.alike.symm hAr, ?_, ?_⟩
  · have h1 : va_RA s cA (newarray.typeOf at_) := by rcases hat with rfl | rfl <;> exact hNm
    exact h1.moved hW.alike.symm
  · rcases hat with rfl | rfl <;> rfl
theorem S_anew (hx : p.tables.exec = Jvm.exec) (hb : c.code = cc) (hown : s.vm.findClass own = some m.cls) (hG : xGl s0 b0 adc L xs) (hW : s0.WarmedH s.vm) (hR : xRel s0 adc L xs hp H) {q0 p0 q1 p1 ix : Nat} (hw : xw q0 p0 = some (.classLink own ix xObj)) (hw1 : xw q1 p1 = some (.arrayOver (.object xObj))) {x : Int32} (hn : ¬ (x < 0 ∨ 1000 < x.toNatClampNeg)) (hc : cells + 1 ≤ R.cells) (hs : slots + x.toNatClampNeg ≤ R.slots) (hd : decode cc pc = .ok (.anewarray ix, 3))
    (K : ∀ (H1 : Heap), xRel s0 adc L xs (xnew hp (.inl (.object xObj, x.toNatClampNeg, fun _ => .null)) x.toNatClampNeg) H1 → W p l e R s m args below meth c H1 locs (cells + 1) (slots + x.toNatClampNeg) Q (F0 m (pc + 3) ls (xv s0 adc (.ref hp.1) :: rest))) : W p l e R s m args below meth c H locs cells slots Q (F0 m pc ls (.int x :: rest)) := by
  have hw2 : (Jvm.Cond.classLink own ix xObj).before args s = true := xwd hG.1 hW hw rfl
  have hw3 : (Jvm.Cond.arrayOver (.object xObj)).before args s = true := va_AO.use (va_AO.moved hW.alike (va_AO.of (hG.1 _ (tables_lw (xtb_in hw1)))))
  refine W.anew hx hb hown hw2 hw3 rfl hd rfl (fun q => hn (Or.inl q)) (by omega) hc hs fun cA kA comp f1 f2 f3 f4 => ?_
  have hr : xv s0 adc (.ref hp.1) = .ref H.size := by
    show va_rf (xad s0 adc hp.1) = _
    rw [hR.new]
    rfl
  rw [← hr]
  refine K _ (hR.push (cell := arrV cA x.toNatClampNeg (fun _ => .null)) (by rw [Array.getElem?_push_size, ← arrV_new]) ?_ (by rw [Array.size_push]) (fun q hq => by rw [Array.getElem?_push, if_neg (Nat.ne_of_lt hq)]))
  refine ⟨cA, arrOfT_moved hW.alike.symm (fun N z => ⟨(fun k h => nomatch h), kA, f2, comp, f3⟩), ?_, rfl⟩
  have h1 : va_RA s cA (.object xObj) := ⟨kA, comp, f2, f3, f4, f1⟩
  exact h1.moved hW.alike.symm
theorem S_new (hcl : ∀ ci, ci < 10 → xkCl ci = true) (hx : p.tables.exec = Jvm.exec) (hb : c.code = cc) (hown : s.vm.findClass own = some m.cls) (hG : xGl s0 b0 adc L xs) (hW : s0.WarmedH s.vm) (hR : xRel s0 adc L xs hp H) {ci k q0 p0 q1 p1 q2 p2 ix : Nat} (hci : ci < 10) (hw : xw q0 p0 = some (.classLink own ix (xcl ci).1)) (hw1 : xw q1 p1 = some (.instantiable (xcl ci).1 k)) (hw2 : xw q2 p2 = some (.initialized (xcl ci).1)) (hc : cells + 1 ≤ R.cells) (hs : slots + k ≤ R.slots) (hd : decode cc pc = .ok (.new ix, 3))
    (K : ∀ (H1 : Heap), xRel s0 adc L xs (xnew hp (.inr (ci, xdef ci)) k) H1 → W p l e R s m args below meth c H1 locs (cells + 1) (slots + k) Q (F0 m (pc + 3) ls (xv s0 adc (.ref hp.1) :: rest))) : W p l e R s m args below meth c H locs cells slots Q (F0 m pc ls rest) := by
  have hi1 : (Jvm.Cond.instantiable (xcl ci).1 k).before args s = true := xwd hG.1 hW hw1 rfl
  obtain ⟨cC, kC, i1, i2, i3, -⟩ := Jvm.Cond.instantiable_spec hi1
  refine W.newcK hx hb hown (xwd hG.1 hW hw rfl) hi1 (xwd hG.1 hW hw2 rfl) rfl hd hc hs i1 rfl fun H1 kC' hkC e1 z1 o1 => ?_
  cases i2.symm.trans hkC
  have hr : xv s0 adc (.ref hp.1) = .ref H.size := by
    show va_rf (xad s0 adc hp.1) = _
    rw [hR.new]
    rfl
  show W p l e R s m args below meth c H1 locs (cells + 1) (slots + k) Q (F0 m (pc + 3) ls (.ref H.size :: rest))
  rw [← hr]
  refine K H1 (hR.push e1 ?_ z1 o1)
  obtain ⟨c1, -, -, -, -, c6, c7⟩ := xkCl_use (args := args) hG.1 hW (hcl ci hci)
  refine ⟨hci, rfl, xcls' hW i1, (fun q => nomatch q), rfl, fun j v hj => ?_⟩
  have hjN : j < (xcl ci).2.2 := by rw [← c7]; exact (List.getElem?_eq_some_iff.mp hj).1
  obtain ⟨ty, t1, t2⟩ := c6 j hjN
  have hv : v = defaultValue ty := Option.some.inj (hj.symm.trans t2)
  obtain ⟨i, cf, kf, fi, fd, g1, -⟩ := u_found (c1 j hjN)
  have g1' : ∃ kf', s0.fieldFound? ((xcl ci).2.1 j).1 ((xcl ci).2.1 j).2.1 ((xcl ci).2.1 j).2.2.1 = some (cf, kf', fi, fd) := by
    obtain ⟨k', hi', -⟩ := State.fieldFound?_setVm (s := s) hW.alike.symm g1
    exact ⟨k', hi'⟩
  obtain ⟨kf', g2⟩ := g1'
  obtain ⟨f1, f2, f3⟩ := u_facts i1 i2 (c1 j hjN) g1
  refine ⟨hjN, cf, kf', fi, fd, g2, f1, ?_⟩
  rw [(State.fieldFound?_type g1 t1).2] at f3
  rw [k2_blank f3, hv]
  cases ty <;> rfl
theorem S_gets (hx : p.tables.exec = Jvm.exec) (hb : c.code = cc) (hown : s.vm.findClass own = some m.cls) (hG : xGl s0 b0 adc L xs) (hW : s0.WarmedH s.vm) (hR : xRel s0 adc L xs hp H) {x q0 p0 : Nat} {b : Bool} {C n d : String} {cv : Value} (hl : xfl own x q0 p0 = some (b, C, n, d)) (hm : (C, n, d, cv) ∈ xstL) (hd : decode cc pc = .ok (.getstatic x, 3))
    (K : W p l e R s m args below meth c H locs cells slots Q (F0 m (pc + 3) ls (xv s0 adc cv :: rest))) : W p l e R s m args below meth c H locs cells slots Q (F0 m pc ls rest) := by
  have hZ := va_Z.moved hW.alike (hG.2.2.2 _ hm)
  obtain ⟨cf, kf, fi, f, a, cell, h1, h2, h3, h4, h5, h6, h7, h8⟩ := hZ
  have hcell : H[a]? = some cell := by rw [hR.2.2.1 a (by omega)]; exact h5
  have hk : cell.vm ≠ .unknown := fun q => by rw [q] at h6; cases h6
  unfold xfl at hl
  split at hl
  · rename_i hw
    split at hl
    · rename_i ho
      obtain ⟨rfl, rfl⟩ := ho
      cases hl
      exact W.gets hx hb hown (xwd hG.1 hW hw rfl) h1 h2 h3 h4 hcell hk h7 rfl hd K
    · exact absurd hl (by simp)
  · rename_i hw
    split at hl
    · rename_i ho
      obtain ⟨rfl, rfl⟩ := ho
      cases hl
      exact va_WgetsN hx hb hown (xwdF hG.1 hW hw) h1 h2 h3 h4 hcell hk h7 rfl hd K
    · exact absurd hl (by simp)
  · exact absurd hl (by simp)
end SE
