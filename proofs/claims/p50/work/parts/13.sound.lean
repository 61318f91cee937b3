/-! Object.<init>, System.arraycopy, Double.doubleToRawLongBits, Math. -/
section SH
variable {p : Program} {l : Launch} {e : Env} {R : Room} {s : State} {m : MethodId} {args : Array Value} {below : List Frame} {meth : Method} {c : Code} {H : Heap} {locs : List Loc} {cells slots : Nat} {Q : State → Prop}
variable {s0 : State} {b0 : Nat} {adc : Nat → Option Nat} {cc : ByteArray} {own : String} {L : Nat} {xs : Nat → Int32} {hp : xH}
variable {pc : Nat} {ls : Array Slot} {rest : List Value}
theorem xnn : ∀ z : Int32, ¬ z < 0 → z.toInt = (z.toNatClampNeg : Int) := by
  intro z hz
  have hz0 : (0 : Int) ≤ z.toInt := by
    have := Int32.not_lt.mp hz
    simpa using Int32.le_iff_toInt_le.mp this
  show z.toInt = ((z.toInt.toNat : Nat) : Int)
  omega
theorem xv_cpy (f g : Nat → Value) (sp dp n : Nat) : va_cpy (fun j => xv s0 adc (f j)) (fun j => xv s0 adc (g j)) sp dp n = fun j => xv s0 adc (va_cpy f g sp dp n j) := by
  funext j
  by_cases h : dp ≤ j ∧ j < dp + n <;> simp [va_cpy, h]
theorem S_copy (hx : p.tables.exec = Jvm.exec) (hb : c.code = cc) (hml : c.maxLocals = ls.size) (hown : s.vm.findClass own = some m.cls) (hG : xGl s0 b0 adc L xs) (hW : s0.WarmedH s.vm) (hR : xRel s0 adc L xs hp H) (hlk : xLk s0 locs) {ix q0 p0 : Nat} (hw : xw q0 p0 = some (.methodLink own ix arraycopyName)) {a b n0 n1 : Nat} {f g : Nat → Value} {ty ty1 : FieldType} (hna : xNC ≤ a) (hnb : xNC ≤ b) (ha : hp.2.2 a = some (.inl (ty, n0, f))) (hbb : hp.2.2 b = some (.inl (ty1, n1, g)))
    {sp dp n : Int32} (h1 : ¬ sp < 0) (h2 : ¬ dp < 0) (h3 : ¬ n < 0) (h4 : sp.toNatClampNeg + n.toNatClampNeg ≤ n0) (h5 : dp.toNatClampNeg + n.toNatClampNeg ≤ n1)
    (hk : (ty = .int ∧ ty1 = .int ∧ (List.range n.toNatClampNeg).all (fun i => xisI (f (sp.toNatClampNeg + i))) = true) ∨ (∃ C, ty = .object C ∧ ty1 = .object xObj ∧ (List.range n.toNatClampNeg).all (fun i => xisS hp (f (sp.toNatClampNeg + i))) = true))
    (hframes : 1 ≤ R.frames) (hlocals : (rest.map fun v => v.category).sum + (nativeFrameWords "java/lang/System" "arraycopy" 5 + 11) ≤ R.locals) (hd : decode cc pc = .ok (.invokestatic ix, 3))
    (K : ∀ (H1 : Heap) (locs1 : List Loc), xRel s0 adc L xs (xput hp b (.inl (ty1, n1, va_cpy f g sp.toNatClampNeg dp.toNatClampNeg n.toNatClampNeg))) H1 → xLk s0 locs1 → W p l e R s m args below meth c H1 locs1 cells slots Q (F0 m (pc + 3) ls rest)) : W p l e R s m args below meth c H locs cells slots Q (F0 m pc ls (.int n :: .int dp :: xv s0 adc (.ref b) :: .int sp :: xv s0 adc (.ref a) :: rest)) := by
  obtain ⟨e1, c0, -, -, g3, g4, hc0⟩ := xArrS hW hR hna ha
  obtain ⟨e2, c1, k1, k2, k3, k4, hc1⟩ := xArrS hW hR hnb hbb
  rw [e1, e2]
  have hlink : (Jvm.Cond.methodLink own ix arraycopyName).before args s = true := xwd hG.1 hW hw rfl
  have hnat : (Jvm.Cond.native arraycopyName).before args s = true := xwd hG.1 hW (show xw 1 133 = some (.native arraycopyName) by decide +kernel) rfl
  have hstat : (Jvm.Cond.static arraycopyName).before args s = true := xwd hG.1 hW (show xw 1 132 = some (.static arraycopyName) by decide +kernel) rfl
  have hini : (Jvm.Cond.initialized "java/lang/System").before args s = true := xwd hG.1 hW (show xw 0 23 = some (.initialized "java/lang/System") by decide +kernel) rfl
  intro T hT X
  obtain ⟨-, kk0, hk0, cm0, hkk0⟩ := g3 n0 (fun j => xv s0 adc (f j))
  obtain ⟨-, kk1, hk1, cm1, hkk1⟩ := k3 n1 (fun j => xv s0 adc (g j))
  obtain ⟨vm', X', step⟩ := X.arraycopy hx hown hlink hnat hstat hini (src := s0.heap.size + (a - xNC)) (dst := s0.heap.size + (b - xNC)) (cs := arrV c0 n0 (fun j => xv s0 adc (f j))) (cd := arrV c1 n1 (fun j => xv s0 adc (g j))) (srcPos := sp) (destPos := dp) (n := n) (by rw [hT]; exact hc0) (by rw [hT]; exact hc1)
    (fun _ h => nomatch h) (fun _ h => nomatch h) (fun h => nomatch h) (fun h => nomatch h) hk0 hk1 hkk0 hkk1 (by rcases hk with ⟨rfl, rfl, -⟩ | ⟨C, rfl, rfl, -⟩ <;> rfl) h1 h2 h3
    (by rw [xnn sp h1, xnn n h3, arrV_size]; omega)
    (by rw [xnn dp h2, xnn n h3, arrV_size]; omega)
    (fun vm₁ hal i hi => by
      have e : (arrV c0 n0 (fun j => xv s0 adc (f j))).slots.getD (sp.toNatClampNeg + i) .null = xv s0 adc (f (sp.toNatClampNeg + i)) := by
        rw [Array.getD_eq_getD_getElem?, arrV_read _ _ (by omega)]
        rfl
      rw [e]
      rcases hk with ⟨rfl, rfl, hall⟩ | ⟨C, rfl, rfl, hall⟩
      · have h6 := List.all_eq_true.mp hall i (List.mem_range.mpr hi)
        cases hv : f (sp.toNatClampNeg + i) with
        | int z => exact ⟨rfl, trivial⟩
        | _ => rw [hv] at h6; exact absurd h6 (by simp [xisI])
      · have h6 := List.all_eq_true.mp hall i (List.mem_range.mpr hi)
        cases hv : f (sp.toNatClampNeg + i) with
        | null => exact ⟨rfl, trivial⟩
        | ref y =>
          rw [hv] at h6
          obtain ⟨av, cell, z1, z2, z3, z4⟩ := xState hG hW hR h6
          rw [z1]
          obtain ⟨kA, comp, r1, r2, r3, -⟩ := k4
          cases hk1.symm.trans r1
          cases hkk1.symm.trans r2
          obtain ⟨kC, hkC, -⟩ := Vm.findClass_spec z4
          obtain ⟨kE, hkE, -⟩ := Vm.findClass_spec r3
          obtain ⟨kC', hkC', -⟩ := hal.2.2 _ _ hkC
          obtain ⟨kE', hkE', -⟩ := hal.2.2 _ _ hkE
          refine ⟨rfl, cell, (show T.heap[av]? = some cell by rw [hT]; exact z2), (fun q h => by rw [h] at z3; cases z3), ⟨kC', hkC'⟩, ?_, ?_⟩
          · exact ⟨kE', hkE'⟩
          · show vm₁.assignable _ _ = true
            rw [hal.assignable]
            exact xStObj hG hW r3 z4
        | _ => rw [hv] at h6; exact absurd h6 (by simp [xisS]))
    (g := F0 m pc ls (.int n :: .int dp :: .ref (s0.heap.size + (b - xNC)) :: .int sp :: .ref (s0.heap.size + (a - xNC)) :: rest)) rfl (by rw [hml]) (rest := rest) rfl (by rw [hb]; exact hd) hframes (by show 2 * 0 + _ + _ ≤ _; omega)
  have e3 : copied (arrV c0 n0 (fun j => xv s0 adc (f j))) (arrV c1 n1 (fun j => xv s0 adc (g j))) sp dp n = arrV c1 n1 (fun j => xv s0 adc (va_cpy f g sp.toNatClampNeg dp.toNatClampNeg n.toNatClampNeg j)) := by
    rw [← xv_cpy]
    exact va_copied (fun z => z) c0 c1 (fun j => xv s0 adc (f j)) (fun j => xv s0 adc (g j)) h4
  rw [e3] at X' step
  have hl : s0.heap.size + (b - xNC) < H.size := (Array.getElem?_eq_some_iff.mp hc1).1
  have hheap : ((T.setVm vm').setCell (s0.heap.size + (b - xNC)) (arrV c1 n1 (fun j => xv s0 adc (va_cpy f g sp.toNatClampNeg dp.toNatClampNeg n.toNatClampNeg j)))).heap = H.setIfInBounds (s0.heap.size + (b - xNC)) (arrV c1 n1 (fun j => xv s0 adc (va_cpy f g sp.toNatClampNeg dp.toNatClampNeg n.toNatClampNeg j))) := by rw [← hT]; rfl
  obtain ⟨t, a1, b1⟩ := K _ _ (hR.put hnb hbb (cell := arrV c1 n1 (fun j => xv s0 adc (va_cpy f g sp.toNatClampNeg dp.toNatClampNeg n.toNatClampNeg j))) (by simp [Array.getElem?_setIfInBounds, hl]) ⟨c1, k1, k2, rfl⟩ (by simp) (fun q hq => by simp [Array.getElem?_setIfInBounds, Ne.symm hq])) (fun q hq => by
      rcases List.mem_append.mp hq with h | h
      · exact hlk q h
      · obtain ⟨z, -, hz⟩ := List.mem_map.mp h
        rw [← hz]
        exact Nat.le_add_right _ _) _ hheap X'
  exact ⟨t, step t a1, b1⟩
theorem snd_step {Lc : List xE} {nL kd j len : Nat} {i : Instr} {ax : List Nat} {cv : Value} {lv lv' : xL} {st st' : List Value} {hp' : xH} {j' : Nat} {e' : xE} {y : MethodName} {bytes : ByteArray} {rest : List xE} (hcl : ∀ ci, ci < 10 → xkCl ci = true) (hx : p.tables.exec = Jvm.exec) (hb : c.code = bytes) (hml : c.maxLocals = nL) (hown : s.vm.findClass y.cls = some m.cls) (hname : meth.name = y.name) (hW : s0.WarmedH s.vm) (hG : xGl s0 b0 adc L xs) (hR : xRel s0 adc L xs hp H) (hlk : xLk s0 locs) (hl : lv_has ls nL (xlv s0 adc lv)) (hfr : 1 ≤ R.frames) (hlo : 30 ≤ R.locals)
    (hck : xkE Lc y bytes rest (pc, kd, i, len, ax, cv) = true) (hrest : Lc[j + 1]? = rest.head?) (k1 : kd ≠ 1) (k2 : kd ≠ 2) (k3 : kd ≠ 3) (hcr : cells ≤ R.cells) (hsr : slots ≤ R.slots)
    (h : xstp nL kd j i ax cv lv st hp = some (j', lv', st', hp')) (he' : Lc[j']? = some e') (hrc : cells + (hp'.1 - hp.1) ≤ R.cells) (hrs : slots + (hp'.2.1 - hp.2.1) ≤ R.slots)
    (K : ∀ (H1 : Heap) (locs1 : List Loc) (ls1 : Array Slot), xRel s0 adc L xs hp' H1 → xLk s0 locs1 → lv_has ls1 nL (xlv s0 adc lv') → W p l e R s m args below meth c H1 locs1 (cells + (hp'.1 - hp.1)) (slots + (hp'.2.1 - hp.2.1)) Q (F0 m e'.1 ls1 (st'.map (xv s0 adc)))) :
    W p l e R s m args below meth c H locs cells slots Q (F0 m pc ls (st.map (xv s0 adc))) := by
  simp only [xkE, Bool.and_eq_true, decide_eq_true_eq] at hck
  obtain ⟨⟨hd, hnx⟩, hck⟩ := hck
  have hn : ∀ e1, Lc[j + 1]? = some e1 → e1.1 = pc + len := by
    intro e1 he1
    rw [hrest] at he1
    cases rest with
    | nil => cases he1
    | cons a r =>
      cases he1
      exact eq_of_beq hnx
  have hsz : c.maxLocals = ls.size := by rw [hml]; exact hl.1.symm
  have rm := hlo
  unfold xstp at h
  split at h
  · obtain ⟨e1, hw⟩ := snd_A (R := R) (e := e) (l := l) (args := args) (below := below) (meth := meth) (H := H) (locs := locs) (cells := cells) (slots := slots) (Q := Q) hx hb hown hG.1 hW hd hn hck h he' hl (fun e1 ls' h' => by
      subst e1
      have K1 := K H locs ls' hR hlk h'
      simp only [Nat.sub_self, Nat.add_zero] at K1
      exact K1)
    exact hw
  · have elv : lv' = lv := (snd_B (R := R) (e := e) (l := l) (args := args) (below := below) (meth := meth) (H := H) (locs := locs) (cells := cells) (slots := slots) (Q := fun _ => True) (ls := ls) hcl hx hb hown hname hW hG hR hlk hd hn hck h he' hrc hrs (fun H1 locs1 _ _ T hT X => ⟨_, Steps.refl _, trivial⟩)).1
    subst elv
    exact (snd_B (R := R) (e := e) (l := l) (args := args) (below := below) (meth := meth) (H := H) (locs := locs) (cells := cells) (slots := slots) (Q := Q) hcl hx hb hown hname hW hG hR hlk hd hn hck h he' hrc hrs (fun H1 locs1 h1 h2 => K H1 locs1 ls h1 h2 hl)).2
  · simp only [Bool.and_eq_true, beq_iff_eq] at hck
    obtain ⟨hlen, hck⟩ := hck
    split at h
    · rename_i a st2
      split at h
      · rename_i hok
        obtain ⟨hsome, hsum⟩ := hok
        simp only [Option.some.injEq, Prod.mk.injEq] at h
        obtain ⟨rfl, rfl, rfl, rfl⟩ := h
        have hpc := hn e' he'
        have K1 := K H locs ls hR hlk hl
        simp only [Nat.sub_self, Nat.add_zero] at K1
        split at hck
        · rename_i x o z w hw
          obtain ⟨rfl, rfl, rfl⟩ := of_decide_eq_true hck
          rw [hlen] at hd hpc
          rw [hpc] at K1
          obtain ⟨cc0, hcc0⟩ := Option.isSome_iff_exists.mp hsome
          obtain ⟨ar, cell, g1, -⟩ := hR.wk hG hcc0
          have hv : xv s0 adc (.ref a) = .ref ar := congrArg va_rf g1
          show W p l e R s m args below meth c H locs cells slots Q (F0 m pc ls (xv s0 adc (.ref a) :: st2.map (xv s0 adc)))
          rw [hv]
          exact W.objInit hx hb hown (xwd hG.1 hW hw rfl) (xwd hG.1 hW (show xw 0 31 = some (.instanceMethod objectInit) by decide +kernel) rfl) (xwd hG.1 hW (show xw 0 32 = some (.code objectInit ⟨#[0xb1]⟩ 1 none) by decide +kernel) rfl) rfl hsz.symm rfl hd hfr (by
            show 2 * 0 + _ + 12 ≤ _
            rw [xv_sum]
            omega) K1
        · exact absurd hck (by simp)
      · exact absurd h (by simp)
    · exact absurd h (by simp)
  · simp only [Bool.and_eq_true, beq_iff_eq] at hck
    obtain ⟨hlen, hck⟩ := hck
    unfold xcopy at h
    split at h
    · rename_i n dp b sp a st2
      split at h
      · rename_i n0 f n1 g hfa hfb
        split at h
        · rename_i hok
          obtain ⟨o1, o2, o3, o4, o5, o6, o7, o8, o9⟩ := hok
          simp only [Option.some.injEq, Prod.mk.injEq] at h
          obtain ⟨rfl, rfl, rfl, rfl⟩ := h
          have hpc := hn e' he'
          simp only [xput, Nat.sub_self, Nat.add_zero] at K
          split at hck
          · rename_i x o z w hw
            obtain ⟨rfl, rfl, rfl⟩ := of_decide_eq_true hck
            rw [hlen] at hd hpc
            rw [hpc] at K
            refine S_copy hx hb hsz hown hG hW hR hlk hw o6 o7 hfa hfb o1 o2 o3 o4 o5 (Or.inl ⟨rfl, rfl, o9⟩) hfr (by
              rw [xv_sum]
              have hnw : nativeFrameWords "java/lang/System" "arraycopy" 5 = 7 := by decide
              omega) hd (fun H1 locs1 g1 g2 => K H1 locs1 ls g1 g2 hl)
          · exact absurd hck (by simp)
        · exact absurd h (by simp)
      · rename_i C n0 f D n1 g hfa hfb
        split at h
        · rename_i hok
          obtain ⟨o1, o2, o3, o4, o5, o6, o7, o8, rfl, o9⟩ := hok
          simp only [Option.some.injEq, Prod.mk.injEq] at h
          obtain ⟨rfl, rfl, rfl, rfl⟩ := h
          have hpc := hn e' he'
          simp only [xput, Nat.sub_self, Nat.add_zero] at K
          split at hck
          · rename_i x o z w hw
            obtain ⟨rfl, rfl, rfl⟩ := of_decide_eq_true hck
            rw [hlen] at hd hpc
            rw [hpc] at K
            refine S_copy hx hb hsz hown hG hW hR hlk hw o6 o7 hfa hfb o1 o2 o3 o4 o5 (Or.inr ⟨C, rfl, rfl, o9⟩) hfr (by
              rw [xv_sum]
              have hnw : nativeFrameWords "java/lang/System" "arraycopy" 5 = 7 := by decide
              omega) hd (fun H1 locs1 g1 g2 => K H1 locs1 ls g1 g2 hl)
          · exact absurd hck (by simp)
        · exact absurd h (by simp)
      · exact absurd h (by simp)
    · exact absurd h (by simp)
  · simp only [Bool.and_eq_true, beq_iff_eq] at hck
    obtain ⟨hlen, hck⟩ := hck
    split at hck
    · rename_i ix o z w hw
      obtain ⟨rfl, rfl, rfl⟩ := of_decide_eq_true hck
      rw [hlen] at hd hn
      have hlink := xwd (args := args) hG.1 hW hw rfl
      have hini : (Jvm.Cond.initialized "java/lang/Math").before args s = true := xwd hG.1 hW (show xw 0 17 = some (.initialized "java/lang/Math") by decide +kernel) rfl
      split at h
      · rename_i st2 b a hax
        split at h
        · rename_i hsum
          simp only [Option.some.injEq, Prod.mk.injEq] at h
          obtain ⟨rfl, rfl, rfl, rfl⟩ := h
          have hpc := hn e' he'
          have K1 := K H locs ls hR hlk hl
          simp only [Nat.sub_self, Nat.add_zero] at K1
          rw [hpc] at K1
          have hlk2 := hlink
          rw [hax] at hlk2
          exact va_mmax hx hb hsz hown hlk2 (xwd hG.1 hW (show xw 2 2 = some (.static Lib.Math.max.name) by decide +kernel) rfl) hini (xwd hG.1 hW (show xw 2 3 = some (.code Lib.Math.max.name Lib.Math.max.code 2 (some .int)) by decide +kernel) rfl) hfr (by rw [xv_sum]; omega) hcr hsr hd K1
        · exact absurd h (by simp)
      · rename_i st2 b a hax
        split at h
        · rename_i hsum
          simp only [Option.some.injEq, Prod.mk.injEq] at h
          obtain ⟨rfl, rfl, rfl, rfl⟩ := h
          have hpc := hn e' he'
          have K1 := K H locs ls hR hlk hl
          simp only [Nat.sub_self, Nat.add_zero] at K1
          rw [hpc] at K1
          have hlk2 := hlink
          rw [hax] at hlk2
          exact va_mmin hx hb hsz hown hlk2 (xwd hG.1 hW (show xw 2 5 = some (.static Lib.Math.min.name) by decide +kernel) rfl) hini (xwd hG.1 hW (show xw 2 6 = some (.code Lib.Math.min.name Lib.Math.min.code 2 (some .int)) by decide +kernel) rfl) hfr (by rw [xv_sum]; omega) hcr hsr hd K1
        · exact absurd h (by simp)
      · rename_i st2 a hax
        split at h
        · rename_i hsum
          simp only [Option.some.injEq, Prod.mk.injEq] at h
          obtain ⟨rfl, rfl, rfl, rfl⟩ := h
          have hpc := hn e' he'
          have K1 := K H locs ls hR hlk hl
          simp only [Nat.sub_self, Nat.add_zero] at K1
          rw [hpc] at K1
          have hlk2 := hlink
          rw [hax] at hlk2
          exact va_mabs hx hb hsz hown hlk2 (xwd hG.1 hW (show xw 1 207 = some (.static Lib.Math.abs.name) by decide +kernel) rfl) hini (xwd hG.1 hW (show xw 1 208 = some (.code Lib.Math.abs.name Lib.Math.abs.code 1 (some .int)) by decide +kernel) rfl) hfr (by rw [xv_sum]; omega) hcr hsr hd K1
        · exact absurd h (by simp)
      · exact absurd h (by simp)
    · exact absurd hck (by simp)
  · exact absurd h (by simp)
end SH
