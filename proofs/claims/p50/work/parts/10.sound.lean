/-! Fields and arrays are written, cells are made. -/
section SD
variable {p : Program} {l : Launch} {e : Env} {R : Room} {s : State} {m : MethodId} {args : Array Value} {below : List Frame} {meth : Method} {c : Code} {H : Heap} {locs : List Loc} {cells slots : Nat} {Q : State → Prop}
variable {s0 : State} {b0 : Nat} {adc : Nat → Option Nat} {cc : ByteArray} {own : String} {L : Nat} {xs : Nat → Int32} {hp : xH}
theorem xfit_ok {d : String} {t : Nat} {v : Value} (h1 : xkT d t = true) (h2 : xfit t v = true) : ∃ ty, parseFieldDescriptor d = some ty ∧ narrow ty (xv s0 adc v) = xv s0 adc v ∧ fits ty (xv s0 adc v) = true := by
  unfold xkT at h1
  split at h1
  · rename_i hd
    cases v <;> first | exact ⟨_, hd, rfl, rfl⟩ | exact absurd h2 (by simp [xfit])
  · rename_i hd
    cases v with
    | int x =>
      have h3 : x = 0 ∨ x = 1 := by simpa [xfit] using h2
      rcases h3 with rfl | rfl <;> exact ⟨_, hd, rfl, rfl⟩
    | _ => exact absurd h2 (by simp [xfit])
  · rename_i hd
    cases v <;> first | exact ⟨_, hd, rfl, rfl⟩ | exact absurd h2 (by simp [xfit])
  · rename_i hd
    refine ⟨_, hd, ?_⟩
    cases v with
    | ref k =>
      have hv : xv s0 adc (.ref k) = va_rf (xad s0 adc k) := rfl
      rw [hv]
      generalize xad s0 adc k = r
      cases r <;> exact ⟨rfl, rfl⟩
    | null => exact ⟨rfl, rfl⟩
    | _ => exact absurd h2 (by simp [xfit])
  · rename_i hd
    refine ⟨_, hd, ?_⟩
    cases v with
    | ref k =>
      have hv : xv s0 adc (.ref k) = va_rf (xad s0 adc k) := rfl
      rw [hv]
      generalize xad s0 adc k = r
      cases r <;> exact ⟨rfl, rfl⟩
    | null => exact ⟨rfl, rfl⟩
    | _ => exact absurd h2 (by simp [xfit])
  · exact absurd h1 (by simp)
/-- what the check of a class gives in a frame -/
theorem xkCl_use (hts : xWd s0 b0) (hW : s0.WarmedH s.vm) {ci : Nat} (h : xkCl ci = true) :
    (∀ k, k < (xcl ci).2.2 → (Jvm.Cond.lays (xcl ci).1 ((xcl ci).2.1 k).1 ((xcl ci).2.1 k).2.1 ((xcl ci).2.1 k).2.2.1).before args s = true ∨ (Jvm.Cond.laysFinal (xcl ci).1 ((xcl ci).2.1 k).1 ((xcl ci).2.1 k).2.1 ((xcl ci).2.1 k).2.2.1).before args s = true) ∧
    (∀ k, k < (xcl ci).2.2 → ((xcl ci).2.1 k).2.2.2 = false → (Jvm.Cond.lays (xcl ci).1 ((xcl ci).2.1 k).1 ((xcl ci).2.1 k).2.1 ((xcl ci).2.1 k).2.2.1).before args s = true) ∧
    (∀ k, k < (xcl ci).2.2 → ((xcl ci).2.1 k).2.2.2 = true → (Jvm.Cond.laysFinal (xcl ci).1 ((xcl ci).2.1 k).1 ((xcl ci).2.1 k).2.1 ((xcl ci).2.1 k).2.2.1).before args s = true) ∧
    (∀ a, a < (xcl ci).2.2 → ∀ b, b < (xcl ci).2.2 → a ≠ b → ((xcl ci).2.1 a).2.1 ≠ ((xcl ci).2.1 b).2.1) ∧
    (∃ n, (Jvm.Cond.instantiable (xcl ci).1 n).before args s = true) ∧
    (∀ k, k < (xcl ci).2.2 → ∃ ty, parseFieldDescriptor ((xcl ci).2.1 k).2.2.1 = some ty ∧ (xdef ci)[k]? = some (defaultValue ty)) ∧ (xdef ci).length = (xcl ci).2.2 := by
  simp only [xkCl, Bool.and_eq_true, decide_eq_true_eq] at h
  obtain ⟨⟨⟨⟨h1, h2⟩, h3⟩, h4⟩, h5⟩ := h
  have hlay : ∀ k, k < (xcl ci).2.2 → (u_lay (xcl ci).1 (xcl ci).2.1 k).before args s = true := by
    intro k hk
    refine xwd hts hW (h1 k hk) ?_
    unfold u_lay
    split <;> rfl
  have hF : ∀ k, k < (xcl ci).2.2 → ((xcl ci).2.1 k).2.2.2 = false → (Jvm.Cond.lays (xcl ci).1 ((xcl ci).2.1 k).1 ((xcl ci).2.1 k).2.1 ((xcl ci).2.1 k).2.2.1).before args s = true := by
    intro k hk hf
    have h6 := hlay k hk
    unfold u_lay at h6
    rwa [if_neg (by rw [hf]; decide)] at h6
  have hT : ∀ k, k < (xcl ci).2.2 → ((xcl ci).2.1 k).2.2.2 = true → (Jvm.Cond.laysFinal (xcl ci).1 ((xcl ci).2.1 k).1 ((xcl ci).2.1 k).2.1 ((xcl ci).2.1 k).2.2.1).before args s = true := by
    intro k hk hf
    have h6 := hlay k hk
    unfold u_lay at h6
    rwa [if_pos hf] at h6
  refine ⟨fun k hk => ?_, hF, hT, h2, ?_, fun k hk => ?_, h5⟩
  · cases hb : ((xcl ci).2.1 k).2.2.2 with
    | false => exact Or.inl (hF k hk hb)
    | true => exact Or.inr (hT k hk hb)
  · split at h3
    · rename_i hw
      have h7 := of_decide_eq_true h3
      subst h7
      exact ⟨_, xwd hts hW hw rfl⟩
    · exact absurd h3 (by simp)
  · obtain ⟨g1, g2⟩ := h4 k hk
    obtain ⟨ty, hty⟩ := Option.isSome_iff_exists.mp g1
    exact ⟨ty, hty, by rw [g2, hty]; rfl⟩
theorem xcls {C : String} {cC : ClassId} (hW : s0.WarmedH s.vm) (h : s0.vm.findClass C = some cC) : s.vm.findClass C = some cC := by
  rw [hW.alike.findClass]
  exact h
theorem xcls' {C : String} {cC : ClassId} (hW : s0.WarmedH s.vm) (h : s.vm.findClass C = some cC) : s0.vm.findClass C = some cC := by
  rw [← hW.alike.findClass]
  exact h
/-- an object's field is written: the picture behind it -/
theorem xObj_set (hts : xWd s0 b0) (hW : s0.WarmedH s.vm) (args : Array Value) {ci : Nat} (hcl : xkCl ci = true) {fs : List Value} {cell : Cell} {k : Nat} {v : Value} (h : xObjAt s0 adc ci fs cell) (hk : k < fs.length) {cf fi : Nat} {kf : Class} {fd : Field} (hf : s0.fieldFound? ((xcl ci).2.1 k).1 ((xcl ci).2.1 k).2.1 ((xcl ci).2.1 k).2.2.1 = some (cf, kf, fi, fd)) (hlt : fd.slot < cell.slots.size) :
    xObjAt s0 adc ci (fs.set k v) (cell.setSlot fd.slot (xv s0 adc v)) := by
  obtain ⟨h1, h2, h3, h4⟩ := h
  obtain ⟨c1, -, -, c4, -, c6, -⟩ := xkCl_use (args := args) hts hW hcl
  refine ⟨h1, h2, h3, fun j w hj => ?_⟩
  have hkN := (h4 k fs[k] (List.getElem?_eq_getElem hk)).1
  by_cases e : k = j
  · subst e
    rw [List.getElem?_set_self hk] at hj
    cases hj
    have hst := (h4 k fs[k] (List.getElem?_eq_getElem hk)).2
    obtain ⟨cf', kf', fi', fd', g1, g2, -⟩ := hst
    cases hf.symm.trans g1
    refine ⟨hkN, cf, kf, fi, fd, hf, g2, ?_⟩
    simp [Cell.setSlot, hlt]
  · rw [List.getElem?_set_ne e] at hj
    obtain ⟨hjN, cf', kf', fi', fd', g1, g2, g3⟩ := h4 j w hj
    refine ⟨hjN, cf', kf', fi', fd', g1, g2, ?_⟩
    obtain ⟨kf1, e1⟩ := xfound hW hf
    obtain ⟨kf2, e2⟩ := xfound hW g1
    obtain ⟨ty1, t1, -⟩ := c6 k hkN
    obtain ⟨ty2, t2, -⟩ := c6 j hjN
    have hne : fd.slot ≠ fd'.slot := u_apart (c1 k hkN) (c1 j hjN) e1 e2 (by
      rw [(State.fieldFound?_type e1 t1).1, (State.fieldFound?_type e2 t2).1]
      exact c4 k hkN j hjN e)
    simp [Cell.setSlot, Array.getElem?_setIfInBounds, hne, g3]
theorem S_putf (hcl : ∀ ci, ci < 10 → xkCl ci = true) (hx : p.tables.exec = Jvm.exec) (hb : c.code = cc) (hown : s.vm.findClass own = some m.cls) (hW : s0.WarmedH s.vm) (hG : xGl s0 b0 adc L xs) (hR : xRel s0 adc L xs hp H) (hl : xLk s0 locs) {x pc : Nat} {ax : List Nat} {b : Bool} (h : xkF own x ax = some b) (hT : xkT ((xcl (ax.headD 0)).2.1 (ax.getD 1 0)).2.2.1 (ax.getD 2 99) = true) (hfin : ((xcl (ax.headD 0)).2.1 (ax.getD 1 0)).2.2.2 = false ∨ (b = false ∧ meth.name = "<init>" ∧ ((xcl (ax.headD 0)).2.1 (ax.getD 1 0)).1 = own))
    {a : Nat} {fs : List Value} {v : Value} (ha : hp.2.2 a = some (.inr (ax.headD 0, fs))) (hn : xNC ≤ a) (hlt : ax.getD 1 0 < fs.length) (hfit : xfit (ax.getD 2 99) v = true)
    {ls : Array Slot} {rest : List Value} (hd : decode cc pc = .ok (.putfield x, 3)) (K : ∀ (H1 : Heap) (locs1 : List Loc), xRel s0 adc L xs (xput hp a (.inr (ax.headD 0, fs.set (ax.getD 1 0) v))) H1 → xLk s0 locs1 → W p l e R s m args below meth c H1 locs1 cells slots Q (F0 m (pc + 3) ls rest)) :
    W p l e R s m args below meth c H locs cells slots Q (F0 m pc ls (xv s0 adc v :: xv s0 adc (.ref a) :: rest)) := by
  obtain ⟨-, cell, h2, h3⟩ := hR.2.2.2.2 a _ hn ha
  have h3 : ax.headD 0 < 10 ∧ cell.vm = .none ∧ xObjAt s0 adc (ax.headD 0) fs cell := h3
  obtain ⟨hci, hvm, hO⟩ := h3
  obtain ⟨hkN, cf, kf, fi, fd, h5, h6, h7⟩ := hO.2.2.2 _ _ (List.getElem?_eq_getElem hlt)
  obtain ⟨hkk, ref, n, d, kf', h8, h9⟩ := xkF_use (args := args) hG.1 hW h h5
  obtain ⟨kf2, h8o⟩ := xfound hW h5
  obtain ⟨c1, c2, c3, -, ⟨nn, c5⟩, -⟩ := xkCl_use (args := args) hG.1 hW (hcl _ hci)
  obtain ⟨cC, kC, i1, i2, i3, -⟩ := Jvm.Cond.instantiable_spec c5
  have hcC : cell.cls = cC := Option.some.inj ((xcls hW hO.1).symm.trans i1)
  obtain ⟨ty, t1, t2, t3⟩ := xfit_ok (s0 := s0) (adc := adc) hT hfit
  have hsz : fd.slot < cell.slots.size := (Array.getElem?_eq_some_iff.mp h7).1
  have hne : s0.heap.size ≤ s0.heap.size + (a - xNC) := Nat.le_add_right _ _
  have hbase : ∀ H' : Heap, H'[s0.heap.size + (a - xNC)]? = some (cell.setSlot fd.slot (xv s0 adc v)) → H'.size = H.size → (∀ q, q ≠ s0.heap.size + (a - xNC) → H'[q]? = H[q]?) → W p l e R s m args below meth c H' (locs ++ [⟨s0.heap.size + (a - xNC), fd.slot⟩]) cells slots Q (F0 m (pc + 3) ls rest) := by
    intro H' e1 e2 e3
    refine K H' _ (hR.put hn ha e1 ?_ e2 e3) (hl.add hne)
    exact ⟨hci, hvm, xObj_set hG.1 hW args (hcl _ hci) hO hlt h5 hsz⟩
  show W p l e R s m args below meth c H locs cells slots Q (F0 m pc ls (xv s0 adc v :: va_rf (xad s0 adc a) :: rest))
  rw [xad, if_neg (by omega)]
  cases hfb : ((xcl (ax.headD 0)).2.1 (ax.getD 1 0)).2.2.2 with
  | false =>
    have hS : k2_Sd s fd cell.cls (xv s0 adc v) := by rw [hcC]; exact u_store i1 i2 i3 (c2 _ hkN hfb) h8o t1 t2 t3
    rcases h9 with ⟨-, h9⟩ | ⟨-, host, h9⟩
    · exact W.putK hx hb ⟨hown, h9, ⟨_, _, _, h8⟩, h6⟩ hS h2 hvm hsz rfl rfl hd hbase
    · exact va_WputK hx hb hown h9 h8 h6 hS h2 hvm hsz rfl rfl hd hbase
  | true =>
    rcases hfin with hfin | ⟨hb0, hin, hdecl⟩
    · rw [hfb] at hfin; cases hfin
    · have hlay := c3 _ hkN hfb
      have hcf : m.cls = cf := by
        obtain ⟨_, _, c', _, _, _, -, -, hf', -, -, -, hown2, -⟩ := Jvm.Cond.laysFinal_spec hlay
        have e1 : c' = cf := by have := h8o.symm.trans hf'; simp at this; exact this.1.symm
        rw [hdecl] at hown2
        rw [← e1]; exact Option.some.inj (hown.symm.trans hown2)
      have hS : narrow fd.type (xv s0 adc v) = xv s0 adc v ∧ s.fitsSlot cell.cls .none fd.slot (xv s0 adc v) = true := by rw [hcC]; exact u_fits i1 i2 i3 (Or.inr hlay) h8o t1 t2 t3
      rcases h9 with ⟨-, h9⟩ | ⟨hbt, -⟩
      · exact W.putFinK hx hb hown h9 h8 h6 hcf hin hS h2 hvm hsz rfl rfl hd hbase
      · rw [hb0] at hbt; cases hbt
end SD
