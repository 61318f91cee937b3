/-! The heap: what the small machine's cells say of the real ones. -/
def xObjAt (s0 : State) (adc : Nat → Option Nat) (ci : Nat) (fs : List Value) (cell : Cell) : Prop := s0.vm.findClass (xcl ci).1 = some cell.cls ∧ cell.vm ≠ .unknown ∧ cell.vm.isStatics = false ∧ ∀ (k : Nat) (v : Value), fs[k]? = some v → k < (xcl ci).2.2 ∧ ∃ (cf : ClassId) (kf : Class) (fi : Nat) (fd : Field), s0.fieldFound? ((xcl ci).2.1 k).1 ((xcl ci).2.1 k).2.1 ((xcl ci).2.1 k).2.2.1 = some (cf, kf, fi, fd) ∧ fd.isStatic = false ∧ cell.slots[fd.slot]? = some (xv s0 adc v)
def xArrAt (s0 : State) (adc : Nat → Option Nat) (ty : FieldType) (n : Nat) (f : Nat → Value) (cell : Cell) : Prop := s0.isArrayOf cell ty ∧ cell.vm ≠ .unknown ∧ n ≤ cell.slots.size ∧ cell.slots.size.toInt32 = Int32.ofNat n ∧ ∀ j : Nat, j < n → cell.slots[j]? = some (xv s0 adc (f j))
def xWk (s0 : State) (adc : Nat → Option Nat) (c : xC) (cell : Cell) : Prop := match c with
  | .inl a => xArrAt s0 adc a.1 a.2.1 a.2.2 cell
  | .inr o => xObjAt s0 adc o.1 o.2 cell
def xSt (s0 : State) (adc : Nat → Option Nat) (c : xC) (cell : Cell) : Prop := match c with
  | .inl a => ∃ cA : ClassId, ArrOfT s0 cA a.1 ∧ va_RA s0 cA a.1 ∧ cell = arrV cA a.2.1 (fun j => xv s0 adc (a.2.2 j))
  | .inr o => o.1 < 10 ∧ cell.vm = .none ∧ xObjAt s0 adc o.1 o.2 cell
theorem xSt.wk {s0 : State} {adc : Nat → Option Nat} {c : xC} {cell : Cell} (h : xSt s0 adc c cell) : xWk s0 adc c cell := by
  cases c with
  | inl a =>
    obtain ⟨cA, h1, -, rfl⟩ := h
    show xArrAt _ _ _ _ _ _
    exact ⟨h1 _ _, (fun q => nomatch q), Nat.le_of_eq (arrV_size _ _ _).symm, congrArg Nat.toInt32 (arrV_size _ _ _), fun j hj => arrV_read _ _ hj⟩
  | inr o => exact h.2.2
/-- the cells that were there at the start -/
def xcst (L : Nat) (xs : Nat → Int32) (k : Nat) : Option xC := match k with
  | 25 => some (.inl (.int, L, fun j => .int (xs j)))
  | 26 => some (.inl (.object "java/lang/Object", 0, fun _ => .null))
  | _ => none
def xRel (s0 : State) (adc : Nat → Option Nat) (L : Nat) (xs : Nat → Int32) (hp : xH) (H : Heap) : Prop := xNC ≤ hp.1 ∧ H.size + xNC = s0.heap.size + hp.1 ∧ (∀ q : Nat, q < s0.heap.size → H[q]? = s0.heap[q]?) ∧ (∀ k : Nat, k < xNC → hp.2.2 k = xcst L xs k) ∧
  ∀ (k : Nat) (c : xC), xNC ≤ k → hp.2.2 k = some c → k < hp.1 ∧ ∃ cell : Cell, H[s0.heap.size + (k - xNC)]? = some cell ∧ xSt s0 adc c cell
/-- what is known of the start: the words, the constants, the static fields -/
def xGl (s0 : State) (b0 : Nat) (adc : Nat → Option Nat) (L : Nat) (xs : Nat → Int32) : Prop := xWd s0 b0 ∧
  (∀ (k : Nat) (c : xC), k < xNC → xcst L xs k = some c → ∃ (a : Nat) (cell : Cell), adc k = some a ∧ a < s0.heap.size ∧ s0.heap[a]? = some cell ∧ xWk s0 adc c cell) ∧
  (∀ a b : Nat, a < 8 → b < 8 → adc a = adc b → a = b) ∧
  (∀ q ∈ xstL, va_Z q.1 q.2.1 q.2.2.1 (xv s0 adc q.2.2.2) (fun q : Nat => s0.heap.size ≤ q) s0 s0.heap)
section SB
variable {s0 : State} {b0 : Nat} {adc : Nat → Option Nat} {L : Nat} {xs : Nat → Int32} {hp : xH} {H : Heap}
theorem xRel.wk (hG : xGl s0 b0 adc L xs) (hR : xRel s0 adc L xs hp H) {k : Nat} {c : xC} (h : hp.2.2 k = some c) : ∃ (a : Nat) (cell : Cell), xad s0 adc k = some a ∧ H[a]? = some cell ∧ xWk s0 adc c cell := by
  obtain ⟨r1, r2, r3, r4, r5⟩ := hR
  by_cases hk : k < xNC
  · rw [r4 k hk] at h
    obtain ⟨a, cell, h1, h2, h3, h4⟩ := hG.2.1 k c hk h
    exact ⟨a, cell, by rw [xad, if_pos hk]; exact h1, by rw [r3 a h2]; exact h3, h4⟩
  · obtain ⟨-, cell, h2, h3⟩ := r5 k c (by omega) h
    exact ⟨_, cell, by rw [xad, if_neg hk], h2, h3.wk⟩
/-- a new cell's address -/
theorem xRel.new (hR : xRel s0 adc L xs hp H) : xad s0 adc hp.1 = some H.size := by
  obtain ⟨r1, r2, -⟩ := hR
  rw [xad, if_neg (by omega)]
  congr 1
  omega
theorem xRel.put {H1 : Heap} (hR : xRel s0 adc L xs hp H) {k : Nat} {c0 c : xC} (hk : xNC ≤ k) (h0 : hp.2.2 k = some c0) {cell : Cell} (e : H1[s0.heap.size + (k - xNC)]? = some cell) (hc : xSt s0 adc c cell) (z : H1.size = H.size) (oq : ∀ q : Nat, q ≠ s0.heap.size + (k - xNC) → H1[q]? = H[q]?) : xRel s0 adc L xs (xput hp k c) H1 := by
  obtain ⟨r1, r2, r3, r4, r5⟩ := hR
  refine ⟨r1, by rw [z]; exact r2, fun q hq => by rw [oq q (by omega)]; exact r3 q hq, fun k' h' => ?_, fun k' c' h' hc' => ?_⟩
  · show xup hp.2.2 k c k' = _
    rw [xup, if_neg (by omega)]
    exact r4 k' h'
  · have hc'' : xup hp.2.2 k c k' = some c' := hc'
    by_cases hkk : k' = k
    · subst hkk
      rw [xup, if_pos rfl] at hc''
      cases hc''
      exact ⟨(r5 k' c0 h' h0).1, cell, e, hc⟩
    · rw [xup, if_neg hkk] at hc''
      obtain ⟨g1, cell', g2, g3⟩ := r5 k' c' h' hc''
      exact ⟨g1, cell', by rw [oq _ (by omega)]; exact g2, g3⟩
theorem xRel.push {H1 : Heap} (hR : xRel s0 adc L xs hp H) {c : xC} {w : Nat} {cell : Cell} (e : H1[H.size]? = some cell) (hc : xSt s0 adc c cell) (z : H1.size = H.size + 1) (oq : ∀ q : Nat, q < H.size → H1[q]? = H[q]?) : xRel s0 adc L xs (xnew hp c w) H1 := by
  obtain ⟨r1, r2, r3, r4, r5⟩ := hR
  have hn : s0.heap.size ≤ H.size := by omega
  refine ⟨Nat.le_succ_of_le r1, by show _ = _ + (hp.1 + 1); omega, fun q hq => by rw [oq q (by omega)]; exact r3 q hq, fun k' h' => ?_, fun k' c' h' hc' => ?_⟩
  · show xup hp.2.2 hp.1 c k' = _
    rw [xup, if_neg (by omega)]
    exact r4 k' h'
  · have hc'' : xup hp.2.2 hp.1 c k' = some c' := hc'
    show k' < hp.1 + 1 ∧ _
    by_cases hkk : k' = hp.1
    · subst hkk
      rw [xup, if_pos rfl] at hc''
      cases hc''
      exact ⟨by omega, cell, by rw [show s0.heap.size + (hp.1 - xNC) = H.size by omega]; exact e, hc⟩
    · rw [xup, if_neg hkk] at hc''
      obtain ⟨g1, cell', g2, g3⟩ := r5 k' c' h' hc''
      exact ⟨by omega, cell', by rw [oq _ (Array.getElem?_eq_some_iff.mp g2).1]; exact g2, g3⟩
theorem xRel.bare {H1 : Heap} (hR : xRel s0 adc L xs hp H) {w : Nat} (z : H1.size = H.size + 1) (oq : ∀ q : Nat, q < H.size → H1[q]? = H[q]?) : xRel s0 adc L xs (xbare hp w) H1 := by
  obtain ⟨r1, r2, r3, r4, r5⟩ := hR
  have hn : s0.heap.size ≤ H.size := by omega
  refine ⟨Nat.le_succ_of_le r1, by show _ = _ + (hp.1 + 1); omega, fun q hq => by rw [oq q (by omega)]; exact r3 q hq, r4, fun k' c' h' hc' => ?_⟩
  obtain ⟨g1, cell', g2, g3⟩ := r5 k' c' h' hc'
  exact ⟨Nat.lt_succ_of_lt g1, cell', by rw [oq _ (Array.getElem?_eq_some_iff.mp g2).1]; exact g2, g3⟩
end SB
section SC
variable {p : Program} {l : Launch} {e : Env} {R : Room} {s : State} {m : MethodId} {args : Array Value} {below : List Frame} {meth : Method} {c : Code} {H : Heap} {locs : List Loc} {cells slots : Nat} {Q : State → Prop}
variable {s0 : State} {b0 : Nat} {adc : Nat → Option Nat} {cc : ByteArray} {own : String} {L : Nat} {xs : Nat → Int32} {hp : xH}
def xLk (s0 : State) (locs : List Loc) : Prop := ∀ q ∈ locs, s0.heap.size ≤ q.base
theorem xLk.add (h : xLk s0 locs) {a k : Nat} (ha : s0.heap.size ≤ a) : xLk s0 (locs ++ [⟨a, k⟩]) := by
  intro q hq
  rcases List.mem_append.mp hq with h1 | h1
  · exact h q h1
  · rw [List.mem_singleton.mp h1]
    exact ha
theorem xfound (hW : s0.WarmedH s.vm) {o n d : String} {cf fi : Nat} {kf : Class} {fd : Field} (h : s0.fieldFound? o n d = some (cf, kf, fi, fd)) : ∃ kf', s.fieldFound? o n d = some (cf, kf', fi, fd) := by
  obtain ⟨k', hi', -⟩ := State.fieldFound?_setVm hW.alike h
  exact ⟨k', hi'⟩
/-- the check of a field's link, used -/
theorem xkF_use (hts : xWd s0 b0) (hW : s0.WarmedH s.vm) {x : Nat} {ax : List Nat} {b : Bool} (h : xkF own x ax = some b) {cf fi : Nat} {kf : Class} {fd : Field} (hf : s0.fieldFound? ((xcl (ax.headD 0)).2.1 (ax.getD 1 0)).1 ((xcl (ax.headD 0)).2.1 (ax.getD 1 0)).2.1 ((xcl (ax.headD 0)).2.1 (ax.getD 1 0)).2.2.1 = some (cf, kf, fi, fd)) :
    ax.getD 1 0 < (xcl (ax.headD 0)).2.2 ∧ ∃ (ref n d : String) (kf' : Class), s.fieldFound? ref n d = some (cf, kf', fi, fd) ∧ ((b = false ∧ (Jvm.Cond.fieldLink own x ref n d).before args s = true) ∨ (b = true ∧ ∃ host, (Jvm.Cond.fieldLinkNest own x ref n d host).before args s = true)) := by
  unfold xkF at h
  split at h
  · rename_i b1 r n d hl
    dsimp only at h
    split at h
    · rename_i hc
      cases h
      obtain ⟨hlt, rfl, rfl, hr⟩ := hc
      refine ⟨hlt, ?_⟩
      have hff : ∃ kf', s.fieldFound? r ((xcl (ax.headD 0)).2.1 (ax.getD 1 0)).2.1 ((xcl (ax.headD 0)).2.1 (ax.getD 1 0)).2.2.1 = some (cf, kf', fi, fd) := by
        obtain ⟨kf', h1⟩ := xfound hW hf
        rcases hr with rfl | hr
        · exact ⟨kf', h1⟩
        · exact ⟨kf', u_same (args := args) (xwd hts hW hr rfl) _ h1⟩
      obtain ⟨kf', h1⟩ := hff
      refine ⟨_, _, _, kf', h1, ?_⟩
      unfold xfl at hl
      split at hl
      · rename_i hw
        split at hl
        · rename_i ho
          obtain ⟨rfl, rfl⟩ := ho
          cases hl
          exact Or.inl ⟨rfl, xwd hts hW hw rfl⟩
        · exact absurd hl (by simp)
      · rename_i hw
        split at hl
        · rename_i ho
          obtain ⟨rfl, rfl⟩ := ho
          cases hl
          exact Or.inr ⟨rfl, _, xwdF hts hW hw⟩
        · exact absurd hl (by simp)
      · exact absurd hl (by simp)
    · exact absurd h (by simp)
  · exact absurd h (by simp)
theorem S_getf (hx : p.tables.exec = Jvm.exec) (hb : c.code = cc) (hown : s.vm.findClass own = some m.cls) (hW : s0.WarmedH s.vm) (hG : xGl s0 b0 adc L xs) (hR : xRel s0 adc L xs hp H) {x pc : Nat} {ax : List Nat} {b : Bool} (h : xkF own x ax = some b) {a : Nat} {fs : List Value} {v : Value} (ha : hp.2.2 a = some (.inr (ax.headD 0, fs))) (hv : fs[ax.getD 1 0]? = some v)
    {ls : Array Slot} {rest : List Value} (hd : decode cc pc = .ok (.getfield x, 3)) (K : W p l e R s m args below meth c H locs cells slots Q (F0 m (pc + 3) ls (xv s0 adc v :: rest))) : W p l e R s m args below meth c H locs cells slots Q (F0 m pc ls (xv s0 adc (.ref a) :: rest)) := by
  obtain ⟨ar, cell, h1, h2, h3⟩ := hR.wk hG ha
  have h3 : xObjAt s0 adc (ax.headD 0) fs cell := h3
  obtain ⟨-, hk, -, h4⟩ := h3
  obtain ⟨-, cf, kf, fi, fd, h5, h6, h7⟩ := h4 _ _ hv
  obtain ⟨-, ref, n, d, kf', h8, h9⟩ := xkF_use (args := args) hG.1 hW h h5
  show W p l e R s m args below meth c H locs cells slots Q (F0 m pc ls (va_rf (xad s0 adc a) :: rest))
  rw [h1]
  rcases h9 with ⟨-, h9⟩ | ⟨-, host, h9⟩
  · exact W.getf hx hb hown h9 h8 h6 h2 hk h7 rfl rfl hd K
  · exact va_Wgetf hx hb hown h9 h8 h6 h2 hk h7 rfl rfl hd K
end SC
