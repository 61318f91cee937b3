section SY
variable {s0 : State} {b0 : Nat} {adc : Nat → Option Nat} {L : Nat} {xs : Nat → Int32} {l : Launch}
/-- the method g's list, checked -/
def xOk (g : Nat) : Prop := (∀ j e, (xtab g).1[j]? = some e → xkE (xtab g).1 (xinf g).1 (xinf g).2.1 ((xtab g).1.drop (j + 1)) e = true) ∧ xkR (xtab g).2.2.1 (xinf g).2.2.1 = true ∧ xkX (xtab g).1 (xinf g).1.cls (xtab g).2.2.2 (xinf g).2.2.2.1 = true ∧ ((xinf g).2.2.2.1 = []) ∧ (xtab g).2.1 ≤ 18 ∧ (xtab g).1.head?.map (fun e => e.1) = some 0 ∧ ∀ x ∈ (xtab g).2.2.2, x.2.2.2.1 < (xtab g).2.1
theorem xOk_of {g : Nat} (h : xkM g = true) : xOk g := by
  simp only [xkM, Bool.and_eq_true, decide_eq_true_eq, List.all_eq_true] at h
  obtain ⟨⟨⟨⟨⟨⟨h1, h2⟩, h3⟩, h4⟩, h5⟩, h6⟩, h7⟩ := h
  exact ⟨xkL_use _ h1, h3, h4, h5, h2, h6, h7⟩
/-- a run of the small machine, followed by the real one -/
def xWst (s0 : State) (adc : Nat → Option Nat) (L : Nat) (xs : Nat → Int32) (l : Launch) (n : Nat) : Prop :=
  ∀ (d k j : Nat) (lv : xL) (st : List Value) (hp : xH) (o : xO) (hpf : xH), xrun xtab n d k j lv st hp = some (o, hpf) → xOk k →
  ∀ (p : Program) (e : Env) (R : Room) (s : State) (m : MethodId) (args : Array Value) (below : List Frame) (meth : Method) (c : Code) (H : Heap) (locs : List Loc) (cells slots : Nat) (ls : Array Slot) (e0 : xE), xFr s0 p s m meth c k → xRel s0 adc L xs hp H → xLk s0 locs → lv_has ls (xtab k).2.1 (xlv s0 adc lv) → (xtab k).1[j]? = some e0 → d + 3 ≤ R.frames → 37 * d + 113 ≤ R.locals → cells + (hpf.1 - hp.1) ≤ R.cells → slots + (hpf.2.1 - hp.2.1) ≤ R.slots →
    W p l e R s m args below meth c H locs cells slots (vx_MQ below (xQc s0 adc L xs o hpf) (xXC s0 adc L xs o hpf) args s R.cells R.slots (xfree s0)) (F0 m e0.1 ls (st.map (xv s0 adc)))
theorem xargs_map (vs : List Value) : ∀ i, lv_args i (vs.map (xv s0 adc)) = xlv s0 adc (lv_args i vs) := by
  induction vs with
  | nil => intro i; rfl
  | cons v vs ih =>
    intro i
    show (i, xv s0 adc v) :: lv_args _ _ = (i, xv s0 adc v) :: xlv s0 adc (lv_args _ vs)
    rw [ih, xv_cat]
theorem lg_sl_len (vs : List Value) : (lg_sl vs).length = (vs.map fun v => v.category).sum := by
  induction vs with
  | nil => rfl
  | cons v vs ih =>
    have e : lg_sl (v :: vs) = (if v.category = 2 then [Slot.val v, .second] else [Slot.val v]) ++ lg_sl vs := rfl
    rw [e, List.length_append, ih, List.map_cons, List.sum_cons]
    rcases lv_cat v with h | h <;> simp [h]
theorem xMet_of {n d g : Nat} (ih : xWst s0 adc L xs l n) (hok : xOk g) (hw : xkW g = true) {as : List Value} {hp hp1 : xH} {o1 : xO} (hcall : xrun xtab n d g 0 (lv_args 0 as) [] hp = some (o1, hp1)) (hal : (as.map fun v => v.category).sum ≤ (xtab g).2.1) :
    vx_Met l (xinf g).1 [xcode g] (xroom d hp hp1) (xPc s0 adc L xs as hp) (xQc s0 adc L xs o1 hp1) (xXC s0 adc L xs o1 hp1) (hp1.1 - hp.1) (hp1.2.1 - hp.2.1) (xfree s0) := by
  have hpl : plainName (xinf g).1.cls = true := by
    simp only [xkW, Bool.and_eq_true] at hw
    exact hw.1.1.1.1.2
  have hlen : (lg_sl (as.map (xv s0 adc))).length ≤ (xtab g).2.1 := by rw [lg_sl_len, xv_sum]; exact hal
  have hbody : ∀ (p : Program) (e : Env) (s : State) (m : MethodId) (args : Array Value) (below : List Frame) (meth : Method) (c : Code), xFr s0 p s m meth c g → xPc s0 adc L xs as hp args s →
      W p l e (xroom d hp hp1) s m args below meth c s.heap [] 0 0 (vx_MQ below (xQc s0 adc L xs o1 hp1) (xXC s0 adc L xs o1 hp1) args s (hp1.1 - hp.1) (hp1.2.1 - hp.2.1) (xfree s0)) (entryFrame m args (xtab g).2.1) := by
    intro p e s m args below meth c hfr hv
    obtain ⟨rfl, hW, hR⟩ := hv
    rw [lg_entry_eq]
    have hl := lv_entry (as.map (xv s0 adc)) (n := (xtab g).2.1) hlen
    rw [xargs_map] at hl
    obtain ⟨e0, he0⟩ : ∃ e0, (xtab g).1[0]? = some e0 := by
      cases hh : (xtab g).1 with
      | nil =>
        have h6 := hok.2.2.2.2.2.1
        rw [hh] at h6
        exact absurd h6 (by simp)
      | cons a r => exact ⟨a, rfl⟩
    have hpc : e0.1 = 0 := by
      have h6 := hok.2.2.2.2.2.1
      rw [List.head?_eq_getElem?, he0] at h6
      exact Option.some.inj h6
    have h := ih d g 0 _ [] hp o1 hp1 hcall hok p e (xroom d hp hp1) s m ((as.map (xv s0 adc)).toArray) below meth c s.heap [] 0 0 _ e0 hfr hR (fun q hq => nomatch hq) hl he0 (Nat.le_refl _) (Nat.le_refl _) (by rw [Nat.zero_add]; exact Nat.le_refl _) (by rw [Nat.zero_add]; exact Nat.le_refl _)
    rw [hpc] at h
    exact h
  by_cases hh : (xinf g).2.2.2.1 = []
  · refine vx_ofW (cc := (xinf g).2.1) (maxL := (xtab g).2.1) (ret := (xinf g).2.2.1) (ws' := []) hpl (by rw [xcode, if_pos hh]) ?_
    intro p e s m args below meth c s₁ B hml htab hv
    have ht : c.exceptionTable.toList = tableOf (xinf g).2.2.2.1 := by
      rw [hh]
      cases hc : c.exceptionTable.toList with
      | nil => rfl
      | cons x r => exact (htab x (by rw [hc]; exact List.mem_cons_self)).elim
    exact hbody p e s m args below meth c ⟨B.exec, B.bytes, hml, findClass_of_methodNamed B.named, B.notSynchronized, B.returns, (name_of_methodNamed B.named B.method).1, ht, hv.2.1⟩ hv
  · refine vx_ofWH (cc := (xinf g).2.1) (maxL := (xtab g).2.1) (ret := (xinf g).2.2.1) (hh := (xinf g).2.2.2.1) (ws' := []) hpl (by rw [xcode, if_neg hh]) ?_
    intro p e s m args below meth c s₁ B hml hv
    have hcw : (Jvm.Cond.codeWith (xinf g).1 (xinf g).2.1 (xtab g).2.1 (xinf g).2.2.1 (xinf g).2.2.2.1).before args s = true := by
      have h1 := atoms_spec (ws := [xcode g]) B.pre (xcode g) List.mem_cons_self
      rw [xcode, if_neg hh] at h1
      exact h1
    have ht : c.exceptionTable.toList = tableOf (xinf g).2.2.2.1 := vx_table (x := (xinf g).1) B hcw
    exact hbody p e s m args below meth c ⟨B.exec, B.bytes, hml, findClass_of_methodNamed B.named, B.notSynchronized, B.returns, (name_of_methodNamed B.named B.method).1, ht, hv.2.1⟩ hv
end SY
