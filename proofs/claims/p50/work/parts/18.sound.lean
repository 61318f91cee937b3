section SZ
variable {p : Program} {l : Launch} {e : Env} {R : Room} {s : State} {m : MethodId} {args : Array Value} {below : List Frame} {meth : Method} {c : Code} {H : Heap} {locs : List Loc} {cells slots : Nat}
variable {s0 : State} {b0 : Nat} {adc : Nat → Option Nat} {L : Nat} {xs : Nat → Int32}
/-- a return -/
theorem S_ret {rk pc : Nat} {i : Instr} {st : List Value} {v : Option Value} {hp : xH} {ls : Array Slot} {bytes : ByteArray} (hx : p.tables.exec = Jvm.exec) (hb : c.code = bytes) (hr : xkR rk meth.sig.returnType = true) (hlocks : meth.locks = false) (hd : decode bytes pc = .ok (i, 1)) (h : xret rk i st = some v) (hR : xRel s0 adc L xs hp H) (hlk : xLk s0 locs) (hc : cells ≤ R.cells) (hs : slots ≤ R.slots) :
    W p l e R s m args below meth c H locs cells slots (vx_MQ below (xQc s0 adc L xs (.inl v) hp) (xXC s0 adc L xs (.inl v) hp) args s R.cells R.slots (xfree s0)) (F0 m pc ls (st.map (xv s0 adc))) := by
  refine vx_ret (W.widen hc hs ?_)
  have hq : ∀ t : State, t.heap = H → s.WarmedH t.vm → xQc s0 adc L xs (.inl v) hp args s (.returned (v.map (xv s0 adc))) t := fun t ht _ => ⟨v, rfl, rfl, by rw [ht]; exact hR⟩
  unfold xkR at hr
  unfold xret at h
  split at h
  · cases h
    split at hr <;> first | (simp at hr; done) | (exfalso; omega) | skip
    rename_i hrt
    exact W.vret hx hb hrt hq hlk hd
  · cases h
    split at hr <;> first | (simp at hr; done) | (exfalso; omega) | skip
    rename_i hrt
    exact W.iret hx hb hrt hq hlk hd
  · split at h
    · rename_i h01
      cases h
      split at hr <;> first | (simp at hr; done) | (exfalso; omega) | skip
      rename_i hrt
      refine W.zret hx hb hrt ?_ hq hlk hd
      rcases h01 with rfl | rfl <;> rfl
    · exact absurd h (by simp)
  · split at h
    · rename_i h01
      cases h
      split at hr <;> first | (simp at hr; done) | (exfalso; omega) | skip
      rename_i hrt
      refine W.zret hx hb hrt ?_ hq hlk hd
      rw [narrow_byte, h01]
    · exact absurd h (by simp)
  · split at h
    · rename_i x h01
      cases h
      split at hr <;> first | (simp at hr; done) | (exfalso; omega) | skip
      rename_i hrt
      refine W.zret hx hb hrt ?_ hq hlk hd
      rw [← h01]
      exact pk_nc x
    · exact absurd h (by simp)
  · cases h
    split at hr <;> first | (simp at hr; done) | (exfalso; omega) | skip
    rename_i hrt
    exact W.lret hx hb hrt hq hlk hd
  · cases h
    split at hr <;> first | (simp at hr; done) | (exfalso; omega) | skip
    rename_i hrt
    exact W.dret hx hb hrt hq hlk hd
  · rename_i x
    cases h
    have hrf : xv s0 adc (.ref x) = .null ∨ ∃ a, xv s0 adc (.ref x) = .ref a := by
      show va_rf (xad s0 adc x) = .null ∨ ∃ a, va_rf (xad s0 adc x) = .ref a
      cases xad s0 adc x with
      | none => exact Or.inl rfl
      | some a => exact Or.inr ⟨a, rfl⟩
    split at hr <;> first | (simp at hr; done) | (exfalso; omega) | skip
    · rename_i hrt
      exact W.aret hx hb hrt (Or.inl ⟨_, rfl⟩) hrf hq hlk hd
    · rename_i hrt
      exact W.aret hx hb hrt (Or.inr ⟨_, rfl⟩) hrf hq hlk hd
  · exact absurd h (by simp)
theorem xwdC (hW : s0.WarmedH s.vm) {a b : String} (h : va_Nw (.castable a b) s0) : (Jvm.Cond.castable a b).before args s = true := va_Nw.use rfl (va_Nw.warmC hW h)
theorem xwdD (hW : s0.WarmedH s.vm) {A : Array Value} {x : MethodName} (h : (Jvm.Cond.declares x).before A s0 = true) : (Jvm.Cond.declares x).before args s = true := by
  have h1 : (Jvm.Cond.declares x).before #[] s0 = true := va_tabs rfl rfl h
  exact va_tabs rfl (rfl : (s0.setVm s.vm).vm = s.vm) (show (Jvm.Cond.declares x).before #[] (s0.setVm s.vm) = true by rw [Jvm.Cond.declares_setVm hW.alike]; exact h1)
/-- throw new E("text") -/
theorem S_throw {Lc : List xE} {own : String} {bytes : ByteArray} {j pc : Nat} {i : Instr} {ax : List Nat} {st : List Value} {hp : xH} {ls : Array Slot} (hthr : ∀ E, E < 3 → xkTh E = true) (hst : l.stackTraces = false) (hx : p.tables.exec = Jvm.exec) (hb : c.code = bytes) (hml : c.maxLocals = ls.size) (hown : s.vm.findClass own = some m.cls) (hlocks : meth.locks = false) (hW : s0.WarmedH s.vm) (hG : xGl s0 b0 adc L xs) (hGx : xGx s0) (hE : ∀ (j : Nat) (z : xE), Lc[j]? = some z → decode bytes z.1 = .ok (z.2.2.1, z.2.2.2.1))
    (hck : xkT5 own (Lc.drop (j + 1)) pc i ax = true) (htab : c.exceptionTable.toList = []) (hsum : (st.map fun v => v.category).sum ≤ 8) (hR : xRel s0 adc L xs hp H) (hlk : xLk s0 locs) (hfr : 7 ≤ R.frames) (hlo : 100 ≤ R.locals) (hc : cells + 1 ≤ R.cells) (hs : slots + 6 ≤ R.slots) (hd3 : decode bytes pc = .ok (i, 3)) :
    W p l e R s m args below meth c H locs cells slots (vx_MQ below (xQc s0 adc L xs (.inr (ax.headD 0)) (xbare hp 6)) (xXC s0 adc L xs (.inr (ax.headD 0)) (xbare hp 6)) args s R.cells R.slots (xfree s0)) (F0 m pc ls (st.map (xv s0 adc))) := by
  unfold xkT5 at hck
  split at hck
  · rename_i E ik is ic wd q0 p0 q2 p2 x p1 k1 l1 a1 v1 p2' k2 i2 l2 a2 v2 p3 k3 y l3 a3 v3 p4 k4 l4 a4 v4 r hdrop
    simp only [Bool.and_eq_true, decide_eq_true_eq] at hck
    obtain ⟨⟨rfl, rfl, rfl, rfl, hE3, hstr, hw1, hw2, rfl, rfl, rfl, rfl, rfl⟩, hck⟩ := hck
    have at1 : ∀ (k : Nat) (z : xE), (Lc.drop (j + 1))[k]? = some z → decode bytes z.1 = .ok (z.2.2.1, z.2.2.2.1) := by
      intro k z hz
      rw [List.getElem?_drop] at hz
      exact hE _ z hz
    have d1 := at1 0 _ (by rw [hdrop]; rfl)
    have d2 := at1 1 _ (by rw [hdrop]; rfl)
    have d3 := at1 2 _ (by rw [hdrop]; rfl)
    have d4 := at1 3 _ (by rw [hdrop]; rfl)
    have hth := hthr E hE3
    simp only [xkTh, Bool.and_eq_true] at hth
    obtain ⟨⟨⟨t1, t2⟩, t3⟩, t4⟩ := hth
    have hat : ∀ w ∈ vx_atS "SlowTunes" (xic E) (xexn E) xnms, w.before args s = true := by
      intro w hw
      have h1 := List.all_eq_true.mp t2 w hw
      simp only [Bool.or_eq_true, Bool.and_eq_true, decide_eq_true_eq] at h1
      rcases h1 with ⟨h1, h2⟩ | h1
      · exact word_at hW (good_of_word h1) (hG.1 w h2)
      · split at h1
        · exact xwdC hW (va_Nw.of rfl (hG.1 _ (of_decide_eq_true h1)))
        · exact xwdD hW (hG.1 _ (of_decide_eq_true h1))
        · exact absurd h1 (by simp)
    have hgood : ∀ w ∈ Jvm.Cond.classLink "SlowTunes" x (xexn E) :: Jvm.Cond.initialized (xexn E) :: vx_atS "SlowTunes" (xic E) (xexn E) xnms, vx_ot w = true := by
      intro w hw
      rcases List.mem_cons.mp hw with rfl | hw
      · rfl
      · exact List.all_eq_true.mp t1 w (List.mem_cons_of_mem _ hw)
    obtain ⟨tx, sa, hsa⟩ := hGx.1 _ hstr
    have hU : vx_Zq Bundle.tN "UNASSIGNED_STACK" Bundle.steD (fun q : Nat => s0.heap.size ≤ q) s s0.heap := vx_Zq.moved hW.alike hGx.2.1
    have hN : vx_Zq Bundle.tN "SUPPRESSED_SENTINEL" Bundle.listD (fun q : Nat => s0.heap.size ≤ q) s s0.heap := vx_Zq.moved hW.alike hGx.2.2.1
    have hlo2 : ((st.map (xv s0 adc)).map fun v => v.category).sum + (13 * (xnms.length + 1) + 43) ≤ R.locals := by
      rw [xv_sum]
      show _ + (13 * 3 + 43) ≤ _
      omega
    have hxx : ∀ t : State, s.vm.Alike t.vm → t.heap.size = H.size + 1 → (∀ q : Nat, q < H.size → t.heap[q]? = H[q]?) → xXC s0 adc L xs (.inr E) (xbare hp 6) (xexn E) s t := fun t _ h1 h2 => ⟨E, rfl, hE3, rfl, hR.bare h1 h2⟩
    have hout : ∀ k, ∀ z ∈ c.exceptionTable.toList, covers z k = false := fun k z hz => by rw [htab] at hz; cases hz
    have hS : ∀ C n d, vx_Zq C n d (fun q : Nat => s0.heap.size ≤ q) s s0.heap → vx_Zq C n d (fun q : Nat => s0.heap.size ≤ q) s H := fun C n d h => h.kept (fun a h1 _ => hR.2.2.1 a h1)
    split at hck
    · rename_i z
      obtain ⟨rfl, rfl, rfl, rfl⟩ := of_decide_eq_true hck
      exact x_throwS hx hb hst hown t3 (List.all_eq_true.mp t4) (xwd hG.1 hW hw1 rfl) (xwd hG.1 hW hw2 rfl) (vk_R.warm hW hsa) hat hgood (hS _ _ _ hU) (hS _ _ _ hN) hml.symm hd3 d1 d2 d3 d4 (hout _) (by show 2 + 3 < _; omega) hlo2 hc hs hlocks hxx hlk hc hs
    · rename_i z
      obtain ⟨rfl, rfl, rfl, rfl⟩ := of_decide_eq_true hck
      exact x_throwSW hx hb hst hown t3 (List.all_eq_true.mp t4) (xwd hG.1 hW hw1 rfl) (xwd hG.1 hW hw2 rfl) (vk_R.warm hW hsa) hat hgood (hS _ _ _ hU) (hS _ _ _ hN) hml.symm hd3 d1 d2 d3 d4 (hout _) (by show 2 + 3 < _; omega) hlo2 hc hs hlocks hxx hlk hc hs
    · exact absurd hck (by simp)
  · exact absurd hck (by simp)
end SZ
