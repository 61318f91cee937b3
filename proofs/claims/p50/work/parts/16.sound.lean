/-! Calls, throws, returns: the real machine follows the small one. -/
section SX
variable {p : Program} {l : Launch} {e : Env} {R : Room} {s : State} {m : MethodId} {args : Array Value} {below : List Frame} {meth : Method} {c : Code} {H : Heap} {locs : List Loc} {cells slots : Nat} {Q : State → Prop}
variable {s0 : State} {b0 : Nat} {adc : Nat → Option Nat} {L : Nat} {xs : Nat → Int32}
/-- what else is known of the start: texts, Throwable's statics, which exceptions are which -/
def xGx (s0 : State) : Prop := (∀ is ∈ xstrL, ∃ (tx : String) (sa : Nat), vk_R "SlowTunes" is tx sa s0) ∧
  vx_Zq Bundle.tN "UNASSIGNED_STACK" Bundle.steD (fun q : Nat => s0.heap.size ≤ q) s0 s0.heap ∧ vx_Zq Bundle.tN "SUPPRESSED_SENTINEL" Bundle.listD (fun q : Nat => s0.heap.size ≤ q) s0 s0.heap ∧
  (∀ a : Nat, a < 3 → va_Nw (.castable (xexn a) (xexn a)) s0)
def xQc (s0 : State) (adc : Nat → Option Nat) (L : Nat) (xs : Nat → Int32) (o : xO) (hpf : xH) : Array Value → State → Outcome → State → Prop := fun _ _ oc t => ∃ v : Option Value, o = .inl v ∧ oc = .returned (v.map (xv s0 adc)) ∧ xRel s0 adc L xs hpf t.heap
def xXC (s0 : State) (adc : Nat → Option Nat) (L : Nat) (xs : Nat → Int32) (o : xO) (hpf : xH) : String → State → State → Prop := fun E _ t => ∃ ei : Nat, o = .inr ei ∧ ei < 3 ∧ E = xexn ei ∧ xRel s0 adc L xs hpf t.heap
def xfree (s0 : State) : Addr → Prop := fun q => s0.heap.size ≤ q
def xPc (s0 : State) (adc : Nat → Option Nat) (L : Nat) (xs : Nat → Int32) (as : List Value) (hp : xH) : Array Value → State → Prop := fun a U => a = (as.map (xv s0 adc)).toArray ∧ s0.WarmedH U.vm ∧ xRel s0 adc L xs hp U.heap
theorem xPc.blind {as : List Value} {hp : xH} : FrameBlind (xPc s0 adc L xs as hp) := fun a U g mk h => h
def xcode (g : Nat) : Jvm.Cond := if (xinf g).2.2.2.1 = [] then .code (xinf g).1 (xinf g).2.1 (xtab g).2.1 (xinf g).2.2.1 else .codeWith (xinf g).1 (xinf g).2.1 (xtab g).2.1 (xinf g).2.2.1 (xinf g).2.2.2.1
def xroom (d : Nat) (hp hpf : xH) : Room := { frames := d + 3, cells := hpf.1 - hp.1, slots := hpf.2.1 - hp.2.1, locals := 37 * d + 113 }
/-- the facts of a frame of the method g -/
def xFr (s0 : State) (p : Program) (s : State) (m : MethodId) (meth : Method) (c : Code) (g : Nat) : Prop := p.tables.exec = Jvm.exec ∧ c.code = (xinf g).2.1 ∧ c.maxLocals = (xtab g).2.1 ∧ s.vm.findClass (xinf g).1.cls = some m.cls ∧ meth.locks = false ∧ meth.sig.returnType = (xinf g).2.2.1 ∧ meth.name = (xinf g).1.name ∧ c.exceptionTable.toList = tableOf (xinf g).2.2.2.1 ∧ s0.WarmedH s.vm
theorem S_after {mc ms pc : Nat} {ls : Array Slot} {st0 rest : List Value} {o : xO} {hp1 : xH} {a : Array Value} (hr : vx_Run p l e R s m args below meth c H locs cells slots mc ms (F0 m pc ls st0) rest (xQc s0 adc L xs o hp1 a) (xXC s0 adc L xs o hp1) (xfree s0)) (hlk : xLk s0 locs)
    (kk : ∀ (v : Option Value) (H1 : Heap) (locs1 : List Loc), o = .inl v → xRel s0 adc L xs hp1 H1 → xLk s0 locs1 → W p l e R s m args below meth c H1 locs1 (cells + mc) (slots + ms) Q (F0 m (pc + 3) ls ((v.map (xv s0 adc)).toList ++ rest)))
    (kx : ∀ (ei : Nat) (H1 : Heap) (locs1 : List Loc) (q : Addr) (ce : Cell), o = .inr ei → ei < 3 → xRel s0 adc L xs hp1 H1 → xLk s0 locs1 → H1[q]? = some ce → ce.vm = .none → s.vm.findClass (xexn ei) = some ce.cls → vx_W p l e R s m args below meth c H1 locs1 (cells + mc) (slots + ms) Q (F0 m pc ls rest) q) :
    W p l e R s m args below meth c H locs cells slots Q (F0 m pc ls st0) := by
  have hlk2 : ∀ Lx : List Loc, (∀ z ∈ Lx, xfree s0 z.base) → xLk s0 (locs ++ Lx) := by
    intro Lx hL q hq
    rcases List.mem_append.mp hq with h | h
    · exact hlk q h
    · exact hL q h
  intro T hT X
  rcases hr T hT X with ⟨v, st₀, t, T', Lx, h0, X', hL, e1, e2, ⟨v', ho, hv, hrel⟩, st⟩ | ⟨q, st₀, t, T', Lx, E, ce, h0, X', hL, e1, e2, ⟨ei, ho, hei, hE, hrel⟩, hce, hcv, hcl, st⟩
  · have hv2 : v = v'.map (xv s0 adc) := Outcome.returned.inj hv
    subst hv2
    obtain ⟨t2, a1, b1⟩ := kk v' T'.heap (locs ++ Lx) ho (by rw [e1]; exact hrel) (hlk2 Lx hL) T' rfl X'
    exact ⟨t2, st t2 a1, b1⟩
  · subst hE
    obtain ⟨t2, a1, b1⟩ := kx ei T'.heap (locs ++ Lx) q ce ho hei (by rw [e1]; exact hrel) (hlk2 Lx hL) (by rw [e1]; exact hce) hcv hcl T' rfl X'
    exact ⟨t2, st.trans a1, b1⟩
/-- the handlers: which one takes what was thrown -/
theorem xcatch_at {Lc : List xE} {own : String} {pc ei : Nat} (hei : ei < 3) : ∀ (hs : List xX) (hh : List (Nat × Nat × Nat × Nat)), xkX Lc own hs hh = true →
    (xcatch hs pc ei = none ∧ ∀ z ∈ tableOf hh, covers z pc = false ∨ ∃ a, a < 3 ∧ a ≠ ei ∧ z.catchType = 13 + 2 * a) ∨
    (∃ v t pre x suf e0 e1, xcatch hs pc ei = some (v, t) ∧ tableOf hh = pre ++ x :: suf ∧ (∀ z ∈ pre, covers z pc = false ∨ ∃ a, a < 3 ∧ a ≠ ei ∧ z.catchType = 13 + 2 * a) ∧ covers x pc = true ∧ x.catchType = 13 + 2 * ei ∧ Lc[t - 1]? = some e0 ∧ Lc[t]? = some e1 ∧ e0.1 = x.handlerPc ∧ e1.1 = x.handlerPc + e0.2.2.2.1 ∧ ((e0.2.2.1 = .astore v ∧ e0.2.2.2.1 = 2) ∨ ∃ w : Fin 4, e0.2.2.1 = .astore_n w ∧ (w : Nat) = v ∧ e0.2.2.2.1 = 1)) := by
  intro hs
  induction hs with
  | nil =>
    intro hh h
    cases hh with
    | nil => exact Or.inl ⟨rfl, fun z hz => nomatch hz⟩
    | cons a r => exact absurd h (by simp [xkX])
  | cons x hs ih =>
    intro hh h
    cases hh with
    | nil =>
      obtain ⟨a, b, E, v, t⟩ := x
      exact absurd h (by simp [xkX])
    | cons y hh =>
      obtain ⟨a, b, E, v, t⟩ := x
      obtain ⟨a', b', hd, ct⟩ := y
      simp only [xkX, Bool.and_eq_true, decide_eq_true_eq] at h
      obtain ⟨⟨⟨⟨⟨rfl, rfl, ht, hE, rfl⟩, -⟩, h1⟩, h2⟩, h3⟩ := h
      have hcov : ∀ z : ExceptionTableEntry, z = ⟨a, b, hd, 13 + 2 * E⟩ → (covers z pc = true ↔ a ≤ pc ∧ pc < b) := by
        intro z hz
        subst hz
        simp [covers]
      by_cases hc : a ≤ pc ∧ pc < b ∧ E = ei
      · obtain ⟨c1, c2, rfl⟩ := hc
        refine Or.inr ?_
        split at h2
        · rename_i e1 e0 g1 g2
          have h4 := eq_of_beq h2
          refine ⟨v, t, [], ⟨a, b, hd, 13 + 2 * E⟩, tableOf hh, e0, e1, by simp [xcatch, c1, c2], rfl, (fun z hz => nomatch hz), (hcov _ rfl).mpr ⟨c1, c2⟩, rfl, g2, g1, ?_⟩
          rw [g2] at h1
          obtain ⟨pc0, kd0, i0, len0, ax0, cv0⟩ := e0
          split at h1
          · rename_i hq
            cases hq
            obtain ⟨r1, r2, r3⟩ := of_decide_eq_true h1
            subst r2
            exact ⟨r1, h4, Or.inl ⟨rfl, r3⟩⟩
          · rename_i hq
            cases hq
            obtain ⟨r1, r2, r3⟩ := of_decide_eq_true h1
            exact ⟨r1, h4, Or.inr ⟨_, rfl, r2, r3⟩⟩
          · exact absurd h1 (by simp)
        · exact absurd h2 (by simp)
      · have hnc : xcatch ((a, b, E, v, t) :: hs) pc ei = xcatch hs pc ei := by simp [xcatch, hc]
        have hz : covers (⟨a, b, hd, 13 + 2 * E⟩ : ExceptionTableEntry) pc = false ∨ ∃ a', a' < 3 ∧ a' ≠ ei ∧ (⟨a, b, hd, 13 + 2 * E⟩ : ExceptionTableEntry).catchType = 13 + 2 * a' := by
          by_cases h5 : a ≤ pc ∧ pc < b
          · exact Or.inr ⟨E, hE, fun q => hc ⟨h5.1, h5.2, q⟩, rfl⟩
          · refine Or.inl ?_
            cases h6 : covers (⟨a, b, hd, 13 + 2 * E⟩ : ExceptionTableEntry) pc with
            | false => rfl
            | true => exact absurd ((hcov _ rfl).mp h6) h5
        rcases ih hh h3 with ⟨g1, g2⟩ | ⟨v', t', pre, x', suf, e0, e1, g1, g2, g3, g4⟩
        · refine Or.inl ⟨hnc.trans g1, fun z hz' => ?_⟩
          have hz2 : z ∈ (⟨a, b, hd, 13 + 2 * E⟩ : ExceptionTableEntry) :: tableOf hh := hz'
          rcases List.mem_cons.mp hz2 with rfl | h7
          · exact hz
          · exact g2 z h7
        · refine Or.inr ⟨v', t', ⟨a, b, hd, 13 + 2 * E⟩ :: pre, x', suf, e0, e1, hnc.trans g1, ?_, fun z hz' => ?_, g4⟩
          · show (⟨a, b, hd, 13 + 2 * E⟩ : ExceptionTableEntry) :: tableOf hh = _
            rw [g2]
            rfl
          · rcases List.mem_cons.mp hz' with rfl | h7
            · exact hz
            · exact g3 z h7
end SX
