section
/-! ===== BEGIN words of one list among another's, by their places ===== -/
theorem goodIn_r {big : List Cond} (ws : List Cond) (ps : List Nat) (hp : ws = ps.filterMap (fun i => big[i]?)) (h : ws.all goodWord = true) : GoodIn big ws := by
  intro w hw
  have h1 := List.all_eq_true.mp h w hw
  rw [hp] at hw
  obtain ⟨i, -, hi⟩ := List.mem_filterMap.mp hw
  have hm : w ∈ big := by first | exact List.mem_of_getElem? hi | exact List.getElem?_mem hi
  exact ⟨hm, good_of_word h1⟩
theorem goodIn_app {big a b : List Cond} (ha : GoodIn big a) (hb : GoodIn big b) : GoodIn big (a ++ b) := fun w h => (List.mem_append.mp h).elim (ha w) (hb w)
theorem goodIn_ca {big a b : List Cond} {c : Cond} (ha : GoodIn big (c :: a)) (hb : GoodIn big b) : GoodIn big (c :: (a ++ b)) := fun w h => (List.mem_cons.mp h).elim (fun e => ha w (List.mem_cons.mpr (Or.inl e))) (fun h => (List.mem_append.mp h).elim (fun h => ha w (List.mem_cons.mpr (Or.inr h))) (hb w))
theorem goodIn_sub {big ws : List Cond} (hm : ∀ w ∈ ws, w ∈ big) (h : ws.all goodWord = true) : GoodIn big ws := fun w hw => ⟨hm w hw, good_of_word (List.all_eq_true.mp h w hw)⟩
/-! ===== END ===== -/

/-! ===== BEGIN exceptions that leave a method, and their catching by the caller (launches without stack traces) ===== -/
section VXA
/-! The laws vx_back, vx_callV, vx_callS, vx_callSW, vx_throw0, vx_throwS follow proofs of the library, with one case more: JvmDerived/Free/Laws.lean (Back.of_free), Shelf42/LK1.lean (callV, callS), Shelf/KitTraced.lean (throwNew0V, throwNewS). -/
/-- where a method has thrown q: the class by its name, the cell, what was written, the world -/
def vx_T (XC : String → State → State → Prop) (st : State) (q : Addr) (t : State) (mc ms : Nat) (free : Addr → Prop) : Prop :=
  ∃ (E : String) (ce : Cell) (L : List Loc), XC E st t ∧ t.heap[q]? = some ce ∧ ce.vm = .none ∧ st.vm.findClass E = some ce.cls ∧ st.WarmedH t.vm ∧ st.sameButNew ({ t with vm := st.vm } : State) L mc ms ∧ ∀ z ∈ L, free z.base
def vx_Q (Qc : Array Value → State → Outcome → State → Prop) (XC : String → State → State → Prop) (mc ms : Nat) (free : Addr → Prop) : Array Value → State → Outcome → State → Prop := fun a st o t =>
  (Qc a st o t ∧ ∃ L, FrameEnd st o t L mc ms ∧ ∀ q ∈ L, free q.base) ∨ ∃ q, o = .threw q ∧ vx_T XC st q t mc ms free
/-- a callee that returns or throws -/
def vx_Met (l : Launch) (y : MethodName) (ws : List Cond) (rm : Room) (Pc : Array Value → State → Prop) (Qc : Array Value → State → Outcome → State → Prop) (XC : String → State → State → Prop) (mc ms : Nat) (free : Addr → Prop) : Prop :=
  MetFree l y (headSpec ws rm) Pc (fun _ _ _ _ _ => True) (vx_Q Qc XC mc ms free)
def vx_Post (XC : String → State → State → Prop) (mc ms : Nat) (free : Addr → Prop) : Pt → Array Value → Addr → Pt → Prop := fun A a q B =>
  ∃ (g : JFrame) (mk : MethodId) (t : State) (L : List Loc) (E : String) (ce : Cell), B.U.heap = t.heap ∧ B.U.vm = t.vm ∧ XC E (A.U.calling g mk a) t ∧ t.heap[q]? = some ce ∧ ce.vm = .none ∧ A.U.vm.findClass E = some ce.cls ∧ B.locs = A.locs ++ L ∧ (∀ z ∈ L, free z.base) ∧ B.cells = A.cells + mc ∧ B.slots = A.slots + ms
def vx_Back (l : Launch) (R : Room) (p : Program) (e : Env) (below : List Frame) (s : State) (sargs : Array Value) (y : MethodName) (len W9 : Nat)
    (Pre : Pt → Array Value → Prop) (Post : Pt → Array Value → Option Value → Pt → Prop) (PostX : Pt → Array Value → Addr → Pt → Prop) : Prop :=
  ∀ (m : MethodId) (meth : Method) (c : Code) (A : Pt) (g : JFrame) (ig : Instr) (mk : MethodId) (a : Array Value),
    Stand p l e R s m sargs below meth c A.U A.locs A.cells A.slots → g.method = m → g.locals.size = c.maxLocals → decode c.code g.pc = .ok (ig, len) →
    2 * g.monitorRoom + (g.stack.map fun v => v.category).sum ≤ W9 → A.U.methodNamed? y = some mk → Pre A a →
    (∃ (v : Option Value) (B : Pt), Stand p l e R s m sargs below meth c B.U B.locs B.cells B.slots ∧ Post A a v B ∧
      Steps p.tables e below (doInvoke e (A.U.setTop g) [] mk a).1 (B.U.setTop { g with pc := g.pc + len, stack := v.toList ++ g.stack })) ∨
    (∃ (q : Addr) (B : Pt), Stand p l e R s m sargs below meth c B.U B.locs B.cells B.slots ∧ PostX A a q B ∧
      Steps p.tables e below (doInvoke e (A.U.setTop g) [] mk a).1 ((B.U.setTop g).pushFrame (.throwing q)))
section Payer
variable {l : Launch} {R : Room} {p : Program} {e : Env} {below : List Frame} {s : State} {sargs : Array Value} {y : MethodName} {len W9 : Nat}
theorem vx_back {ws : List Cond} {rm : Room} {Pc : Array Value → State → Prop} {Qc : Array Value → State → Outcome → State → Prop} {XC : String → State → State → Prop} {mc ms : Nat} {free : Addr → Prop} {bytes : ByteArray} {maxL : Nat} {ret : Option FieldType}
    (hM : vx_Met l y ws rm Pc Qc XC mc ms free) (hblind : FrameBlind Pc) (hrc : rm.cells = mc) (hrs : rm.slots = ms)
    (hframes : rm.frames + 1 ≤ R.frames) (hlocals : W9 + (maxL + 11) + rm.locals ≤ R.locals)
    (hws : ∀ w ∈ ws, ∀ a' U, s.WarmedH U.vm → w.before a' U = true) (hcode : Cond.code y bytes maxL ret ∈ ws) (hinit : ∀ a' U, s.WarmedH U.vm → (Cond.initialized y.cls).before a' U = true) :
    vx_Back l R p e below s sargs y len W9 (PreOf R mc ms Pc) (PostOf Qc mc ms free) (vx_Post XC mc ms free) := by
  intro m meth c A g ig mk a X hg hsize hdg hW hn hp
  have h1 : (headSpec ws rm).pre.before a A.U = true := atoms_intro fun w hw => hws w hw _ _ X.warmed
  have h2 : (Cond.code y bytes maxL ret).before a A.U = true := hws _ hcode _ _ X.warmed
  have h3 : (Cond.initialized y.cls).before a A.U = true := hinit _ _ X.warmed
  have h4 : A.cells + (headSpec ws rm).room.cells ≤ R.cells := by rw [show (headSpec ws rm).room.cells = mc from hrc]; exact hp.1
  have h5 : A.slots + (headSpec ws rm).room.slots ≤ R.slots := by rw [show (headSpec ws rm).room.slots = ms from hrs]; exact hp.2.1
  have hPc : Pc a (A.U.calling g mk a) := hblind _ _ _ _ hp.2.2
  obtain ⟨U, Ls, c0, s0⟩ := A
  dsimp only [Pt.U, Pt.locs, Pt.cells, Pt.slots] at h1 h2 h3 h4 h5 X hn hPc ⊢
  obtain ⟨methY, cY, hmY, hcY, -, hlY, -, -, -, -⟩ := Cond.code_spec hn h2
  obtain ⟨kY, hkY, -⟩ := className_of_methodNamed hn
  have hinitY : kY.init = .initialized := Cond.initialized_spec (findClass_of_methodNamed hn) hkY h3
  have h : At U g.method c below := by rw [hg]; exact X.here
  have hlocals9 : W9 + (maxL + 11) + (headSpec ws rm).room.locals ≤ R.locals := hlocals
  have happ : (headSpec ws rm).appliesLoose y e.platform (U.calling g mk a) = true :=
    Spec.appliesLoose_calling (g := g) h hdg hn hkY hinitY
      (X.room_calling (g := g) (R' := (headSpec ws rm).room) hsize hmY hcY hframes (by rw [hlY]; omega) h4 h5) h1
  obtain ⟨mid, hmid⟩ := h.above
  have hfr : (U.setTop g).frames = (.java g :: mid) ++ below := by rw [State.frames_setTop' g h.top, hmid]; rfl
  obtain ⟨o, s₂, hsteps, -, hend, hq⟩ := Steps.callFree hM p X.admits X.cas X.clock (acts := []) hfr happ hPc trivial
  have hq' : vx_Q Qc XC mc ms free a (U.calling g mk a) o s₂ := hq
  rw [State.frames_setTop' g h.top] at hend
  obtain ⟨g₀, hg0⟩ := Option.isSome_iff_exists.mp h.top
  obtain ⟨r, hr⟩ := State.topJava?_eq_some.mp hg0
  have hr' : (({ U with heap := s₂.heap, slotsUsed := s₂.slotsUsed } : State).setVm s₂.vm).frames = .java g₀ :: r := hr
  rcases hq' with ⟨hqc, L, hfe, hL⟩ | ⟨q, rfl, E, ce, L, hx, hce, hcv, hcl, hW₂, hsm, hL⟩
  · obtain ⟨⟨v, rfl⟩, hW₂, e2, q2, q3, q4, q5, q6⟩ := id hfe
    have e3 : s₂ = ({ (U.calling g mk a).setFrames s₂.frames with heap := s₂.heap, slotsUsed := s₂.slotsUsed } : State).setVm s₂.vm := by
      have : s₂ = ({ s₂ with vm := (U.calling g mk a).vm } : State).setVm s₂.vm := rfl
      rw [e2] at this
      exact this
    obtain ⟨c₂, i₂, len₂, hc₂, hd₂, hf₂⟩ := hend
    have hW' : U.WarmedH s₂.vm := hW₂
    have hcc : c₂ = c := by
      have h1 : s₂.code? g.method = U.code? g.method := by
        rw [State.code?_eq, State.code?_eq, hW'.alike.method?]
      exact Option.some.inj (hc₂.symm.trans (h1.trans h.code))
    subst hcc
    have hlen : len₂ = len := by rw [hdg] at hd₂; cases hd₂; rfl
    subst hlen
    have hs₂ : s₂ = (({ U with heap := s₂.heap, slotsUsed := s₂.slotsUsed } : State).setVm s₂.vm).setTop { g with pc := g.pc + len₂, stack := v.toList ++ g.stack } := by
      refine e3.trans ?_
      rw [hf₂, State.calling_eq h.top, State.setFrames_setFrames, State.setTop_of_frames _ hr', hr]
      rfl
    have hsame : U.sameButNew ({ U with heap := s₂.heap, slotsUsed := s₂.slotsUsed } : State) L mc ms := by
      refine ⟨?_, q2, q3, q4, q5, q6⟩
      obtain ⟨t, ht, -⟩ := State.frames_cons hr
      show ({ U with heap := s₂.heap, slotsUsed := s₂.slotsUsed } : State) = { U.setFrames U.frames with heap := s₂.heap, slotsUsed := s₂.slotsUsed }
      rw [State.setFrames_self ht]
    subst hg
    refine Or.inl ⟨v, ⟨(({ U with heap := s₂.heap, slotsUsed := s₂.slotsUsed } : State).setVm s₂.vm), Ls ++ L, c0 + mc, s0 + ms⟩,
      ⟨X.admits, X.cas, X.clock, X.frames, X.room, X.hears, X.method, X.code, (X.here.setHeapUsed s₂.heap s₂.slotsUsed).setVm hW'.alike, X.tail, State.WarmedH.trans X.warmed hW', X.limits, X.bytes, X.same.trans (hsame.setVm s.vm)⟩,
      ⟨g, mk, s₂, L, rfl, rfl, hqc, rfl, hL, rfl, rfl⟩, ?_⟩
    show Steps p.tables e below _ ((({ U with heap := s₂.heap, slotsUsed := s₂.slotsUsed } : State).setVm s₂.vm).setTop { g with pc := g.pc + len₂, stack := v.toList ++ g.stack })
    rw [← hs₂]
    exact hsteps
  · obtain ⟨e2, q2, q3, q4, q5, q6⟩ := id hsm
    have e3 : s₂ = ({ (U.calling g mk a).setFrames s₂.frames with heap := s₂.heap, slotsUsed := s₂.slotsUsed } : State).setVm s₂.vm := by
      have : s₂ = ({ s₂ with vm := (U.calling g mk a).vm } : State).setVm s₂.vm := rfl
      rw [e2] at this
      exact this
    have hf₂ : s₂.frames = .throwing q :: .java g :: U.frames.tail := hend
    have hW' : U.WarmedH s₂.vm := hW₂
    have hs₂ : s₂ = ((({ U with heap := s₂.heap, slotsUsed := s₂.slotsUsed } : State).setVm s₂.vm).setTop g).pushFrame (.throwing q) := by
      refine e3.trans ?_
      rw [hf₂, State.calling_eq h.top, State.setFrames_setFrames, State.pushFrame, State.frames_setTop _ hr', State.setTop_of_frames _ hr', State.setFrames_setFrames, hr]
      rfl
    have hsame : U.sameButNew ({ U with heap := s₂.heap, slotsUsed := s₂.slotsUsed } : State) L mc ms := by
      refine ⟨?_, q2, q3, q4, q5, q6⟩
      obtain ⟨t, ht, -⟩ := State.frames_cons hr
      show ({ U with heap := s₂.heap, slotsUsed := s₂.slotsUsed } : State) = { U.setFrames U.frames with heap := s₂.heap, slotsUsed := s₂.slotsUsed }
      rw [State.setFrames_self ht]
    subst hg
    refine Or.inr ⟨q, ⟨(({ U with heap := s₂.heap, slotsUsed := s₂.slotsUsed } : State).setVm s₂.vm), Ls ++ L, c0 + mc, s0 + ms⟩,
      ⟨X.admits, X.cas, X.clock, X.frames, X.room, X.hears, X.method, X.code, (X.here.setHeapUsed s₂.heap s₂.slotsUsed).setVm hW'.alike, X.tail, State.WarmedH.trans X.warmed hW', X.limits, X.bytes, X.same.trans (hsame.setVm s.vm)⟩,
      ⟨g, mk, s₂, L, E, ce, rfl, rfl, hx, hce, hcv, hcl, rfl, hL, rfl, rfl⟩, ?_⟩
    show Steps p.tables e below _ (((({ U with heap := s₂.heap, slotsUsed := s₂.slotsUsed } : State).setVm s₂.vm).setTop g).pushFrame (.throwing q))
    rw [← hs₂]
    exact hsteps
end Payer
section Calls
variable {p : Program} {l : Launch} {e : Env} {R : Room} {s : State} {m : MethodId} {args : Array Value} {below : List Frame} {meth : Method} {c : Code} {T : State} {locs : List Loc} {cells slots : Nat}
theorem vx_callV (X : Stand p l e R s m args below meth c T locs cells slots) (hexec : p.tables.exec = Jvm.exec) {own C : String} {index : Nat} {y : MethodName} {bytes : ByteArray} {maxL : Nat} {ret : Option FieldType}
    (hown : s.vm.findClass own = some m.cls) (hlink : (Cond.methodLink own index y).before args s = true) (hinst : (Cond.instanceMethod y).before args s = true) (hsel : (Cond.selects C y y).before args s = true)
    (hcode : (Cond.code y bytes maxL ret).before args s = true) (hy : y.cls ≠ "java/lang/invoke/MethodHandle" ∧ y.cls ≠ "java/lang/invoke/VarHandle")
    {W9 : Nat} {Pre : Pt → Array Value → Prop} {Post : Pt → Array Value → Option Value → Pt → Prop} {PostX : Pt → Array Value → Addr → Pt → Prop} (hK : vx_Back l R p e below s args y 3 W9 Pre Post PostX)
    {b : Addr} {cellB : Cell} (hcell : T.heap[b]? = some cellB) (hobj : cellB.vm.isStatics = false) (hcls : s.vm.findClass C = some cellB.cls)
    {g : JFrame} (hg : g.method = m) (hsize : g.locals.size = c.maxLocals) {argsL rest : List Value} (hlen : ∀ sig, parseMethodDescriptor y.desc = some sig → argsL.length = sig.parameters.length)
    (hstack : g.stack = argsL.reverse ++ .ref b :: rest) (hW : 2 * g.monitorRoom + (rest.map fun v => v.category).sum ≤ W9) (hdg : decode c.code g.pc = .ok (.invokevirtual index, 3))
    (hpre : ∀ vm₁, s.WarmedH vm₁ → Pre ⟨T.setVm vm₁, locs, cells, slots⟩ (Value.ref b :: argsL).toArray) :
    (∃ (v : Option Value) (vm₁ : Vm) (B : Pt), s.WarmedH vm₁ ∧ Stand p l e R s m args below meth c B.U B.locs B.cells B.slots ∧ Post ⟨T.setVm vm₁, locs, cells, slots⟩ (Value.ref b :: argsL).toArray v B ∧
      ∀ target, Steps p.tables e below (B.U.setTop { g with pc := g.pc + 3, stack := v.toList ++ rest }) target → Steps p.tables e below (T.setTop g) target) ∨
    (∃ (q : Addr) (vm₁ : Vm) (B : Pt), s.WarmedH vm₁ ∧ Stand p l e R s m args below meth c B.U B.locs B.cells B.slots ∧ PostX ⟨T.setVm vm₁, locs, cells, slots⟩ (Value.ref b :: argsL).toArray q B ∧
      Steps p.tables e below (T.setTop g) ((B.U.setTop { g with stack := rest }).pushFrame (.throwing q))) := by
  obtain ⟨mk, methM, hnamed, hmethM, hstM, habM⟩ := Cond.instanceMethod_spec hinst
  obtain ⟨methM', cM, hmethM', -, -, -, -, -, -, hsigM⟩ := Cond.code_spec hnamed hcode
  cases hmethM.symm.trans hmethM'
  obtain ⟨c2, r2, m2, q1, q2, q3, q4, kP, hkP, hkPi⟩ := Cond.selects_spec hsel
  cases hcls.symm.trans q1
  cases (State.methodFound?_of_named hnamed hy).symm.trans q2
  cases hnamed.symm.trans q3
  have hselP : selectMethod e.platform s.vm cellB.cls mk = .method mk := by rw [Launch.admits_selectMethod X.admits]; exact q4
  obtain ⟨vm₁, X₁, hstep₁⟩ := X.invokevirtual hexec hown hlink hnamed hmethM hstM hkP hkPi hy (a := b) (cell := cellB) hcell
    (fun z h => by rw [h] at hobj; cases hobj) hselP hmethM habM hkP hkPi (g := g) hg (argsL := argsL) (rest := rest) (hlen _ hsigM) hstack hdg
  rcases hK m meth c ⟨T.setVm vm₁, locs, cells, slots⟩ { g with stack := rest } (.invokevirtual index) mk (Value.ref b :: argsL).toArray X₁ hg hsize hdg hW (X₁.named hnamed) (hpre vm₁ X₁.warmed) with ⟨v, B, X', hpost, hsteps⟩ | ⟨q, B, X', hpost, hsteps⟩
  · exact Or.inl ⟨v, vm₁, B, X₁.warmed, X', hpost, fun target h => hstep₁ _ fun acts => by rw [doInvoke_state]; exact hsteps.trans h⟩
  · exact Or.inr ⟨q, vm₁, B, X₁.warmed, X', hpost, hstep₁ _ fun acts => by rw [doInvoke_state]; exact hsteps⟩
theorem vx_callS (X : Stand p l e R s m args below meth c T locs cells slots) (hexec : p.tables.exec = Jvm.exec) {own : String} {index : Nat} {y : MethodName} {bytes : ByteArray} {maxL : Nat} {ret : Option FieldType}
    (hown : s.vm.findClass own = some m.cls) (hlink : (Cond.methodLink own index y).before args s = true) (hstat : (Cond.static y).before args s = true) (hinit : (Cond.initialized y.cls).before args s = true)
    (hcode : (Cond.code y bytes maxL ret).before args s = true) (hy : y.cls ≠ "java/lang/invoke/MethodHandle" ∧ y.cls ≠ "java/lang/invoke/VarHandle")
    {W9 : Nat} {Pre : Pt → Array Value → Prop} {Post : Pt → Array Value → Option Value → Pt → Prop} {PostX : Pt → Array Value → Addr → Pt → Prop} (hK : vx_Back l R p e below s args y 3 W9 Pre Post PostX)
    {g : JFrame} (hg : g.method = m) (hsize : g.locals.size = c.maxLocals) {argsL rest : List Value} (hlen : ∀ sig, parseMethodDescriptor y.desc = some sig → argsL.length = sig.parameters.length)
    (hstack : g.stack = argsL.reverse ++ rest) (hW : 2 * g.monitorRoom + (rest.map fun v => v.category).sum ≤ W9) (hdg : decode c.code g.pc = .ok (.invokestatic index, 3))
    (hpre : ∀ vm₁, s.WarmedH vm₁ → Pre ⟨T.setVm vm₁, locs, cells, slots⟩ argsL.toArray) :
    (∃ (v : Option Value) (vm₁ : Vm) (B : Pt), s.WarmedH vm₁ ∧ Stand p l e R s m args below meth c B.U B.locs B.cells B.slots ∧ Post ⟨T.setVm vm₁, locs, cells, slots⟩ argsL.toArray v B ∧
      ∀ target, Steps p.tables e below (B.U.setTop { g with pc := g.pc + 3, stack := v.toList ++ rest }) target → Steps p.tables e below (T.setTop g) target) ∨
    (∃ (q : Addr) (vm₁ : Vm) (B : Pt), s.WarmedH vm₁ ∧ Stand p l e R s m args below meth c B.U B.locs B.cells B.slots ∧ PostX ⟨T.setVm vm₁, locs, cells, slots⟩ argsL.toArray q B ∧
      Steps p.tables e below (T.setTop g) ((B.U.setTop { g with stack := rest }).pushFrame (.throwing q))) := by
  obtain ⟨mk, hnamed⟩ := Cond.code_named hcode
  obtain ⟨methM, cM, hmethM, -, -, -, -, -, -, hsigM⟩ := Cond.code_spec hnamed hcode
  have hstatic : methM.isStatic = true := Cond.static_spec hnamed hmethM hstat
  obtain ⟨kP, hkP, -⟩ := className_of_methodNamed hnamed
  have hinitP : kP.init = .initialized := Cond.initialized_spec (findClass_of_methodNamed hnamed) hkP hinit
  obtain ⟨vm₁, X₁, hstep₁⟩ := X.invokestatic hexec hown hlink hnamed hmethM hstatic hkP hinitP hy (g := g) hg (argsL := argsL) (rest := rest) (hlen _ hsigM) hstack hdg
  rcases hK m meth c ⟨T.setVm vm₁, locs, cells, slots⟩ { g with stack := rest } (.invokestatic index) mk argsL.toArray X₁ hg hsize hdg hW (X₁.named hnamed) (hpre vm₁ X₁.warmed) with ⟨v, B, X', hpost, hsteps⟩ | ⟨q, B, X', hpost, hsteps⟩
  · exact Or.inl ⟨v, vm₁, B, X₁.warmed, X', hpost, fun target h => hstep₁ _ fun acts => by rw [doInvoke_state]; exact hsteps.trans h⟩
  · exact Or.inr ⟨q, vm₁, B, X₁.warmed, X', hpost, hstep₁ _ fun acts => by rw [doInvoke_state]; exact hsteps⟩
end Calls
theorem vx_cls {s : State} {T : State} {vm₁ : Vm} {E : String} {k : ClassId} (hW : s.WarmedH vm₁) (h : (T.setVm vm₁).vm.findClass E = some k) : s.vm.findClass E = some k := by
  have h1 : vm₁.findClass E = some k := h
  rw [hW.alike.findClass] at h1
  exact h1
/-- the method's frame g, with q thrown over it -/
def vx_W (p : Program) (l : Launch) (e : Env) (R : Room) (s : State) (m : MethodId) (args : Array Value) (below : List Frame) (meth : Method) (c : Code) (H : Heap) (locs : List Loc) (cells slots : Nat) (Q : State → Prop) (g : JFrame) (q : Addr) : Prop :=
  ∀ T : State, T.heap = H → Stand p l e R s m args below meth c T locs cells slots → ∃ t, Steps p.tables e below ((T.setTop g).pushFrame (.throwing q)) t ∧ Q t
def vx_Run (p : Program) (l : Launch) (e : Env) (R : Room) (s : State) (m : MethodId) (args : Array Value) (below : List Frame) (meth : Method) (c : Code) (H : Heap) (locs : List Loc) (cells slots mc ms : Nat) (g : JFrame) (rest : List Value) (Qa : State → Outcome → State → Prop) (XC : String → State → State → Prop) (free : Addr → Prop) : Prop :=
  ∀ T : State, T.heap = H → Stand p l e R s m args below meth c T locs cells slots →
    (∃ (v : Option Value) (st₀ t T' : State) (L : List Loc), st₀.heap = H ∧ Stand p l e R s m args below meth c T' (locs ++ L) (cells + mc) (slots + ms) ∧ (∀ q ∈ L, free q.base) ∧ T'.heap = t.heap ∧ T'.vm = t.vm ∧ Qa st₀ (.returned v) t ∧
      Goes p e below T g T' { g with pc := g.pc + 3, stack := v.toList ++ rest }) ∨
    (∃ (q : Addr) (st₀ t T' : State) (L : List Loc) (E : String) (ce : Cell), st₀.heap = H ∧ Stand p l e R s m args below meth c T' (locs ++ L) (cells + mc) (slots + ms) ∧ (∀ z ∈ L, free z.base) ∧ T'.heap = t.heap ∧ T'.vm = t.vm ∧ XC E st₀ t ∧ t.heap[q]? = some ce ∧ ce.vm = .none ∧ s.vm.findClass E = some ce.cls ∧
      Steps p.tables e below (T.setTop g) ((T'.setTop { g with stack := rest }).pushFrame (.throwing q)))
def vx_X {S : Type} (px : S → Prop) (B : String → S → State → Prop) (A : Nat → Prop) : String → State → State → Prop := fun E st t => ∃ u : S, px u ∧ B E u t ∧ va_F A st t
section Runs
variable {p : Program} {l : Launch} {e : Env} {R : Room} {s : State} {m : MethodId} {args : Array Value} {below : List Frame} {meth : Method} {c : Code} {H : Heap} {locs : List Loc} {cells slots : Nat}
variable {y : MethodName} {bytes cc : ByteArray} {maxL nL mc ms n index : Nat} {ret : Option FieldType} {ws : List Cond} {rm : Room} {Pc : Array Value → State → Prop} {Qc : Array Value → State → Outcome → State → Prop} {XC : String → State → State → Prop} {free : Addr → Prop} {Ts : List Cond} {own C : String} {b : Addr} {As rest : List Value} {g : JFrame}
theorem vx_callBack (cb : CallB R s args own index y bytes maxL ret ws rm mc ms n) (hM : vx_Met l y ws rm Pc Qc XC mc ms free) (hbl : FrameBlind Pc) : vx_Back l R p e below s args y 3 8 (PreOf R mc ms Pc) (PostOf Qc mc ms free) (vx_Post XC mc ms free) := by
  obtain ⟨hrc, hrs, hfr, hlo, hws, hcw, -, hini, -⟩ := cb
  exact vx_back (bytes := bytes) (maxL := maxL) (ret := ret) hM hbl hrc hrs hfr hlo hws hcw (fun a' U hW => word_at hW (Or.inl (by first | rfl | simp [Cond.onTables, Cond.keeps, Cond.steady])) hini)
theorem vx_runV (S : CallFix p m c cc nL s args Ts own) (hM : vx_Met l y ws rm Pc Qc XC mc ms free) (cw : CallW R s args own C index y bytes maxL ret ws rm mc ms n) (hp : PreV s H C b Pc As)
    (hg : g.method = m) (hn : As.length = n) (hsize : g.locals.size = nL) (hstack : g.stack = As.reverse ++ .ref b :: rest) (hW : 2 * g.monitorRoom + (rest.map fun v => v.category).sum ≤ 8) (hdg : decode cc g.pc = .ok (.invokevirtual index, 3)) (hf : cells + mc ≤ R.cells ∧ slots + ms ≤ R.slots) :
    vx_Run p l e R s m args below meth c H locs cells slots mc ms g rest (Qc (Value.ref b :: As).toArray) XC free := by
  have hK : vx_Back l R p e below s args y 3 8 (PreOf R mc ms Pc) (PostOf Qc mc ms free) (vx_Post XC mc ms free) := vx_callBack cw.1 hM hp.1
  obtain ⟨⟨-, -, -, -, -, -, hcode, -, hy, hlen, hl⟩, hin, hse⟩ := cw
  obtain ⟨hx, hb, hml, ho, -⟩ := S
  obtain ⟨-, ⟨cellB, hcB, hoB, hclB⟩, hPc⟩ := hp
  intro T hT X
  rcases vx_callV X hx (C := C) (bytes := bytes) (maxL := maxL) (ret := ret) ho hl hin hse hcode hy hK (by rw [hT]; exact hcB) hoB hclB hg (hsize.trans hml.symm) (argsL := As) (rest := rest) (fun sig h => hn.trans (hlen sig h)) hstack hW (by rw [hb]; exact hdg)
    (fun vm₁ hW₁ => ⟨hf.1, hf.2, hPc (T.setVm vm₁) hT hW₁⟩) with ⟨v, vm₁, ⟨U', l2, c2, s2⟩, hW₁, X', ⟨g', mk, t, L, e1, e2, hq, h1, hL, h2, h3⟩, st⟩ | ⟨q, vm₁, ⟨U', l2, c2, s2⟩, hW₁, X', ⟨g', mk, t, L, E, ce, e1, e2, hq, hce, hcv, hcl, h1, hL, h2, h3⟩, st⟩
  · dsimp only [Pt.U, Pt.locs, Pt.cells, Pt.slots] at X' e1 e2 h1 h2 h3 st
    subst h1; subst h2; subst h3
    exact Or.inl ⟨v, (T.setVm vm₁).calling g' mk (Value.ref b :: As).toArray, t, U', L, hT, X', hL, e1, e2, hq, st⟩
  · dsimp only [Pt.U, Pt.locs, Pt.cells, Pt.slots] at X' e1 e2 h1 h2 h3 st hcl
    subst h1; subst h2; subst h3
    exact Or.inr ⟨q, (T.setVm vm₁).calling g' mk (Value.ref b :: As).toArray, t, U', L, E, ce, hT, X', hL, e1, e2, hq, hce, hcv, vx_cls hW₁ hcl, st⟩
theorem vx_runS (S : CallFix p m c cc nL s args Ts own) (hM : vx_Met l y ws rm Pc Qc XC mc ms free) (cw : CallB R s args own index y bytes maxL ret ws rm mc ms n ∧ (Cond.static y).before args s = true) (hp : PreS s H Pc As)
    (hg : g.method = m) (hn : As.length = n) (hsize : g.locals.size = nL) (hstack : g.stack = As.reverse ++ rest) (hW : 2 * g.monitorRoom + (rest.map fun v => v.category).sum ≤ 8) (hdg : decode cc g.pc = .ok (.invokestatic index, 3)) (hf : cells + mc ≤ R.cells ∧ slots + ms ≤ R.slots) :
    vx_Run p l e R s m args below meth c H locs cells slots mc ms g rest (Qc As.toArray) XC free := by
  have hK : vx_Back l R p e below s args y 3 8 (PreOf R mc ms Pc) (PostOf Qc mc ms free) (vx_Post XC mc ms free) := vx_callBack cw.1 hM hp.1
  obtain ⟨⟨-, -, -, -, -, -, hcode, hini, hy, hlen, hl⟩, hstt⟩ := cw
  obtain ⟨hx, hb, hml, ho, -⟩ := S
  intro T hT X
  rcases vx_callS X hx (bytes := bytes) (maxL := maxL) (ret := ret) ho hl hstt hini hcode hy hK hg (hsize.trans hml.symm) (argsL := As) (rest := rest) (fun sig h => hn.trans (hlen sig h)) hstack hW (by rw [hb]; exact hdg)
    (fun vm₁ hW₁ => ⟨hf.1, hf.2, hp.2 (T.setVm vm₁) hT hW₁⟩) with ⟨v, vm₁, ⟨U', l2, c2, s2⟩, hW₁, X', ⟨g', mk, t, L, e1, e2, hq, h1, hL, h2, h3⟩, st⟩ | ⟨q, vm₁, ⟨U', l2, c2, s2⟩, hW₁, X', ⟨g', mk, t, L, E, ce, e1, e2, hq, hce, hcv, hcl, h1, hL, h2, h3⟩, st⟩
  · dsimp only [Pt.U, Pt.locs, Pt.cells, Pt.slots] at X' e1 e2 h1 h2 h3 st
    subst h1; subst h2; subst h3
    exact Or.inl ⟨v, (T.setVm vm₁).calling g' mk As.toArray, t, U', L, hT, X', hL, e1, e2, hq, st⟩
  · dsimp only [Pt.U, Pt.locs, Pt.cells, Pt.slots] at X' e1 e2 h1 h2 h3 st hcl
    subst h1; subst h2; subst h3
    exact Or.inr ⟨q, (T.setVm vm₁).calling g' mk As.toArray, t, U', L, E, ce, hT, X', hL, e1, e2, hq, hce, hcv, vx_cls hW₁ hcl, st⟩
end Runs
section Rows
variable {p : Program} {l : Launch} {e : Env} {R : Room} {s : State} {m : MethodId} {args : Array Value} {below : List Frame} {meth : Method} {c : Code} {H : Heap} {locs : List Loc} {cells slots : Nat} {Q : State → Prop}
variable {mc ms : Nat} {free : Addr → Prop} {A0 A1 : Nat → Prop} {H0 : Heap} {a : Array Value} {pc : Nat} {ls : Array Slot} {st0 rest : List Value}
theorem vx_keep {st₀ t T' : State} {L : List Loc} (h0 : st₀.heap = H) (e1 : T'.heap = t.heap) (hS : va_S A0 H0 H locs) (hA : ∀ q, q < H.size → A1 q → A0 q) (hf : ∀ q, free q → A0 q) (hL : ∀ q ∈ L, free q.base) (hF : va_F A1 st₀ t) :
    H.size ≤ T'.heap.size ∧ (∀ q : Nat, q < H.size → ¬ A1 q → T'.heap[q]? = H[q]?) ∧ va_S A0 H0 T'.heap (locs ++ L) := by
  obtain ⟨hz, hk⟩ := hF
  rw [h0] at hz hk
  exact ⟨by rw [e1]; exact hz, fun q h1 h2 => by rw [e1]; exact hk q h1 h2,
    ⟨Nat.le_trans hS.1 (by rw [e1]; exact hz), fun q h1 h2 => by rw [e1, hk q (Nat.lt_of_lt_of_le h1 hS.1) (fun z => h2 (hA q (Nat.lt_of_lt_of_le h1 hS.1) z))]; exact hS.2.1 q h1 h2, fun q hq => by
      rcases List.mem_append.mp hq with h | h
      · exact hS.2.2 q h
      · exact hf _ (hL q h)⟩⟩
theorem vx_calli {S SX : Type} {post : Int32 → S → Prop} {px : SX → Prop} {B : S → State → Prop} {BX : String → SX → State → Prop} {AX : Nat → Prop} (hr : vx_Run p l e R s m args below meth c H locs cells slots mc ms (F0 m pc ls st0) rest (va_Qi post B A1 a) (vx_X px BX AX) free) (hS : va_S A0 H0 H locs) (hA : ∀ q, q < H.size → A1 q → A0 q) (hf : ∀ q, free q → A0 q) (hAX : ∀ q, q < H.size → AX q → A0 q)
    (kx : ∀ (E : String) (ce : Cell) (q9 : Addr) (u : SX) (t : State) (H1 : Heap) (locs1 : List Loc), t.heap = H1 → s.vm.Alike t.vm → px u → BX E u t → H.size ≤ H1.size → (∀ q : Nat, q < H.size → ¬ AX q → H1[q]? = H[q]?) → va_S A0 H0 H1 locs1 → H1[q9]? = some ce → ce.vm = .none → s.vm.findClass E = some ce.cls → vx_W p l e R s m args below meth c H1 locs1 (cells + mc) (slots + ms) Q (F0 m pc ls rest) q9)
    (kk : ∀ (r : Int32) (u : S) (t : State) (H1 : Heap) (locs1 : List Loc), t.heap = H1 → s.vm.Alike t.vm → post r u → B u t → H.size ≤ H1.size → (∀ q : Nat, q < H.size → ¬ A1 q → H1[q]? = H[q]?) → va_S A0 H0 H1 locs1 → W p l e R s m args below meth c H1 locs1 (cells + mc) (slots + ms) Q (F0 m (pc + 3) ls (.int r :: rest))) : W p l e R s m args below meth c H locs cells slots Q (F0 m pc ls st0) := by
  intro T hT X
  rcases hr T hT X with ⟨v, st₀, t, T', L, h0, X', hL, e1, e2, ⟨⟨r, u, hv, hp, hb⟩, hF⟩, st⟩ | ⟨q, st₀, t, T', L, E, ce, h0, X', hL, e1, e2, ⟨u, hp, hb, hF⟩, hce, hcv, hcl, st⟩
  · cases hv
    obtain ⟨k1, k2, k3⟩ := vx_keep h0 e1 hS hA hf hL hF
    obtain ⟨t2, a1, b1⟩ := kk r u t T'.heap (locs ++ L) e1.symm (by rw [← e2]; exact X'.warmed.alike) hp hb k1 k2 k3 T' rfl X'
    exact ⟨t2, st t2 a1, b1⟩
  · obtain ⟨k1, k2, k3⟩ := vx_keep h0 e1 hS hAX hf hL hF
    obtain ⟨t2, a1, b1⟩ := kx E ce q u t T'.heap (locs ++ L) e1.symm (by rw [← e2]; exact X'.warmed.alike) hp hb k1 k2 k3 (by rw [e1]; exact hce) hcv hcl T' rfl X'
    exact ⟨t2, st.trans a1, b1⟩
theorem vx_calll {S SX : Type} {post : Int64 → S → Prop} {px : SX → Prop} {B : S → State → Prop} {BX : String → SX → State → Prop} {AX : Nat → Prop} (hr : vx_Run p l e R s m args below meth c H locs cells slots mc ms (F0 m pc ls st0) rest (va_Ql post B A1 a) (vx_X px BX AX) free) (hS : va_S A0 H0 H locs) (hA : ∀ q, q < H.size → A1 q → A0 q) (hf : ∀ q, free q → A0 q) (hAX : ∀ q, q < H.size → AX q → A0 q)
    (kx : ∀ (E : String) (ce : Cell) (q9 : Addr) (u : SX) (t : State) (H1 : Heap) (locs1 : List Loc), t.heap = H1 → s.vm.Alike t.vm → px u → BX E u t → H.size ≤ H1.size → (∀ q : Nat, q < H.size → ¬ AX q → H1[q]? = H[q]?) → va_S A0 H0 H1 locs1 → H1[q9]? = some ce → ce.vm = .none → s.vm.findClass E = some ce.cls → vx_W p l e R s m args below meth c H1 locs1 (cells + mc) (slots + ms) Q (F0 m pc ls rest) q9)
    (kk : ∀ (r : Int64) (u : S) (t : State) (H1 : Heap) (locs1 : List Loc), t.heap = H1 → s.vm.Alike t.vm → post r u → B u t → H.size ≤ H1.size → (∀ q : Nat, q < H.size → ¬ A1 q → H1[q]? = H[q]?) → va_S A0 H0 H1 locs1 → W p l e R s m args below meth c H1 locs1 (cells + mc) (slots + ms) Q (F0 m (pc + 3) ls (.long r :: rest))) : W p l e R s m args below meth c H locs cells slots Q (F0 m pc ls st0) := by
  intro T hT X
  rcases hr T hT X with ⟨v, st₀, t, T', L, h0, X', hL, e1, e2, ⟨⟨r, u, hv, hp, hb⟩, hF⟩, st⟩ | ⟨q, st₀, t, T', L, E, ce, h0, X', hL, e1, e2, ⟨u, hp, hb, hF⟩, hce, hcv, hcl, st⟩
  · cases hv
    obtain ⟨k1, k2, k3⟩ := vx_keep h0 e1 hS hA hf hL hF
    obtain ⟨t2, a1, b1⟩ := kk r u t T'.heap (locs ++ L) e1.symm (by rw [← e2]; exact X'.warmed.alike) hp hb k1 k2 k3 T' rfl X'
    exact ⟨t2, st t2 a1, b1⟩
  · obtain ⟨k1, k2, k3⟩ := vx_keep h0 e1 hS hAX hf hL hF
    obtain ⟨t2, a1, b1⟩ := kx E ce q u t T'.heap (locs ++ L) e1.symm (by rw [← e2]; exact X'.warmed.alike) hp hb k1 k2 k3 (by rw [e1]; exact hce) hcv hcl T' rfl X'
    exact ⟨t2, st.trans a1, b1⟩
theorem vx_callf {S SX : Type} {post : UInt32 → S → Prop} {px : SX → Prop} {B : S → State → Prop} {BX : String → SX → State → Prop} {AX : Nat → Prop} (hr : vx_Run p l e R s m args below meth c H locs cells slots mc ms (F0 m pc ls st0) rest (va_Qf post B A1 a) (vx_X px BX AX) free) (hS : va_S A0 H0 H locs) (hA : ∀ q, q < H.size → A1 q → A0 q) (hf : ∀ q, free q → A0 q) (hAX : ∀ q, q < H.size → AX q → A0 q)
    (kx : ∀ (E : String) (ce : Cell) (q9 : Addr) (u : SX) (t : State) (H1 : Heap) (locs1 : List Loc), t.heap = H1 → s.vm.Alike t.vm → px u → BX E u t → H.size ≤ H1.size → (∀ q : Nat, q < H.size → ¬ AX q → H1[q]? = H[q]?) → va_S A0 H0 H1 locs1 → H1[q9]? = some ce → ce.vm = .none → s.vm.findClass E = some ce.cls → vx_W p l e R s m args below meth c H1 locs1 (cells + mc) (slots + ms) Q (F0 m pc ls rest) q9)
    (kk : ∀ (r : UInt32) (u : S) (t : State) (H1 : Heap) (locs1 : List Loc), t.heap = H1 → s.vm.Alike t.vm → post r u → B u t → H.size ≤ H1.size → (∀ q : Nat, q < H.size → ¬ A1 q → H1[q]? = H[q]?) → va_S A0 H0 H1 locs1 → W p l e R s m args below meth c H1 locs1 (cells + mc) (slots + ms) Q (F0 m (pc + 3) ls (.float r :: rest))) : W p l e R s m args below meth c H locs cells slots Q (F0 m pc ls st0) := by
  intro T hT X
  rcases hr T hT X with ⟨v, st₀, t, T', L, h0, X', hL, e1, e2, ⟨⟨r, u, hv, hp, hb⟩, hF⟩, st⟩ | ⟨q, st₀, t, T', L, E, ce, h0, X', hL, e1, e2, ⟨u, hp, hb, hF⟩, hce, hcv, hcl, st⟩
  · cases hv
    obtain ⟨k1, k2, k3⟩ := vx_keep h0 e1 hS hA hf hL hF
    obtain ⟨t2, a1, b1⟩ := kk r u t T'.heap (locs ++ L) e1.symm (by rw [← e2]; exact X'.warmed.alike) hp hb k1 k2 k3 T' rfl X'
    exact ⟨t2, st t2 a1, b1⟩
  · obtain ⟨k1, k2, k3⟩ := vx_keep h0 e1 hS hAX hf hL hF
    obtain ⟨t2, a1, b1⟩ := kx E ce q u t T'.heap (locs ++ L) e1.symm (by rw [← e2]; exact X'.warmed.alike) hp hb k1 k2 k3 (by rw [e1]; exact hce) hcv hcl T' rfl X'
    exact ⟨t2, st.trans a1, b1⟩
theorem vx_calld {S SX : Type} {post : UInt64 → S → Prop} {px : SX → Prop} {B : S → State → Prop} {BX : String → SX → State → Prop} {AX : Nat → Prop} (hr : vx_Run p l e R s m args below meth c H locs cells slots mc ms (F0 m pc ls st0) rest (va_Qd post B A1 a) (vx_X px BX AX) free) (hS : va_S A0 H0 H locs) (hA : ∀ q, q < H.size → A1 q → A0 q) (hf : ∀ q, free q → A0 q) (hAX : ∀ q, q < H.size → AX q → A0 q)
    (kx : ∀ (E : String) (ce : Cell) (q9 : Addr) (u : SX) (t : State) (H1 : Heap) (locs1 : List Loc), t.heap = H1 → s.vm.Alike t.vm → px u → BX E u t → H.size ≤ H1.size → (∀ q : Nat, q < H.size → ¬ AX q → H1[q]? = H[q]?) → va_S A0 H0 H1 locs1 → H1[q9]? = some ce → ce.vm = .none → s.vm.findClass E = some ce.cls → vx_W p l e R s m args below meth c H1 locs1 (cells + mc) (slots + ms) Q (F0 m pc ls rest) q9)
    (kk : ∀ (r : UInt64) (u : S) (t : State) (H1 : Heap) (locs1 : List Loc), t.heap = H1 → s.vm.Alike t.vm → post r u → B u t → H.size ≤ H1.size → (∀ q : Nat, q < H.size → ¬ A1 q → H1[q]? = H[q]?) → va_S A0 H0 H1 locs1 → W p l e R s m args below meth c H1 locs1 (cells + mc) (slots + ms) Q (F0 m (pc + 3) ls (.double r :: rest))) : W p l e R s m args below meth c H locs cells slots Q (F0 m pc ls st0) := by
  intro T hT X
  rcases hr T hT X with ⟨v, st₀, t, T', L, h0, X', hL, e1, e2, ⟨⟨r, u, hv, hp, hb⟩, hF⟩, st⟩ | ⟨q, st₀, t, T', L, E, ce, h0, X', hL, e1, e2, ⟨u, hp, hb, hF⟩, hce, hcv, hcl, st⟩
  · cases hv
    obtain ⟨k1, k2, k3⟩ := vx_keep h0 e1 hS hA hf hL hF
    obtain ⟨t2, a1, b1⟩ := kk r u t T'.heap (locs ++ L) e1.symm (by rw [← e2]; exact X'.warmed.alike) hp hb k1 k2 k3 T' rfl X'
    exact ⟨t2, st t2 a1, b1⟩
  · obtain ⟨k1, k2, k3⟩ := vx_keep h0 e1 hS hAX hf hL hF
    obtain ⟨t2, a1, b1⟩ := kx E ce q u t T'.heap (locs ++ L) e1.symm (by rw [← e2]; exact X'.warmed.alike) hp hb k1 k2 k3 (by rw [e1]; exact hce) hcv hcl T' rfl X'
    exact ⟨t2, st.trans a1, b1⟩
theorem vx_callv {S SX : Type} {post : S → Prop} {px : SX → Prop} {B : S → State → Prop} {BX : String → SX → State → Prop} {AX : Nat → Prop} (hr : vx_Run p l e R s m args below meth c H locs cells slots mc ms (F0 m pc ls st0) rest (va_Qv post B A1 a) (vx_X px BX AX) free) (hS : va_S A0 H0 H locs) (hA : ∀ q, q < H.size → A1 q → A0 q) (hf : ∀ q, free q → A0 q) (hAX : ∀ q, q < H.size → AX q → A0 q)
    (kx : ∀ (E : String) (ce : Cell) (q9 : Addr) (u : SX) (t : State) (H1 : Heap) (locs1 : List Loc), t.heap = H1 → s.vm.Alike t.vm → px u → BX E u t → H.size ≤ H1.size → (∀ q : Nat, q < H.size → ¬ AX q → H1[q]? = H[q]?) → va_S A0 H0 H1 locs1 → H1[q9]? = some ce → ce.vm = .none → s.vm.findClass E = some ce.cls → vx_W p l e R s m args below meth c H1 locs1 (cells + mc) (slots + ms) Q (F0 m pc ls rest) q9)
    (kk : ∀ (u : S) (t : State) (H1 : Heap) (locs1 : List Loc), t.heap = H1 → s.vm.Alike t.vm → post u → B u t → H.size ≤ H1.size → (∀ q : Nat, q < H.size → ¬ A1 q → H1[q]? = H[q]?) → va_S A0 H0 H1 locs1 → W p l e R s m args below meth c H1 locs1 (cells + mc) (slots + ms) Q (F0 m (pc + 3) ls (rest))) : W p l e R s m args below meth c H locs cells slots Q (F0 m pc ls st0) := by
  intro T hT X
  rcases hr T hT X with ⟨v, st₀, t, T', L, h0, X', hL, e1, e2, ⟨⟨u, hv, hp, hb⟩, hF⟩, st⟩ | ⟨q, st₀, t, T', L, E, ce, h0, X', hL, e1, e2, ⟨u, hp, hb, hF⟩, hce, hcv, hcl, st⟩
  · cases hv
    obtain ⟨k1, k2, k3⟩ := vx_keep h0 e1 hS hA hf hL hF
    obtain ⟨t2, a1, b1⟩ := kk u t T'.heap (locs ++ L) e1.symm (by rw [← e2]; exact X'.warmed.alike) hp hb k1 k2 k3 T' rfl X'
    exact ⟨t2, st t2 a1, b1⟩
  · obtain ⟨k1, k2, k3⟩ := vx_keep h0 e1 hS hAX hf hL hF
    obtain ⟨t2, a1, b1⟩ := kx E ce q u t T'.heap (locs ++ L) e1.symm (by rw [← e2]; exact X'.warmed.alike) hp hb k1 k2 k3 (by rw [e1]; exact hce) hcv hcl T' rfl X'
    exact ⟨t2, st.trans a1, b1⟩
/-- caught by the row x of this method's table; the rows ahead don't take it -/
theorem vx_catch {own name : String} {E : String} {ce : Cell} {q : Addr} (hown : s.vm.findClass own = some m.cls) (pre : List ExceptionTableEntry) (x : ExceptionTableEntry) (suf : List ExceptionTableEntry) (hsplit : c.exceptionTable.toList = pre ++ x :: suf)
    (hpass : ∀ z ∈ pre, covers z pc = false ∨ (z.catchType ≠ 0 ∧ ∃ nm : String, (Cond.classLink own z.catchType nm).before args s = true ∧ va_Nc E nm s)) (hx : covers x pc = true) (h0 : x.catchType ≠ 0)
    (hlink : (Cond.classLink own x.catchType name).before args s = true) (hcast : (Cond.castable E name).before args s = true) (hcell : H[q]? = some ce) (hv : ce.vm = .none) (hcl : s.vm.findClass E = some ce.cls)
    (kk : W p l e R s m args below meth c H locs cells slots Q (F0 m x.handlerPc ls [.ref q])) : vx_W p l e R s m args below meth c H locs cells slots Q (F0 m pc ls rest) q := by
  intro T hT X
  have hpl : e.platform.magicAccessors = ({} : Platform).magicAccessors := by rw [X.admits.platform]
  obtain ⟨c3, c4, hc3, hc4, hasg⟩ := Cond.castable_spec hcast
  cases Option.some.inj (hc3.symm.trans hcl)
  obtain ⟨c5, hc5, hcl5⟩ := Cond.classLink_spec hown hlink e.platform hpl
  cases Option.some.inj (hc4.symm.trans hc5)
  obtain ⟨vm', X', st⟩ := X.thenCaughtThrough q (g := F0 m pc ls rest) rfl (Steps.refl _) (by rw [hT]; exact hcell) (by rw [hv]; rfl) (by obtain ⟨k9, h9, -⟩ := Vm.findClass_spec hcl; exact ⟨k9, h9⟩) pre x suf hsplit
    (fun z hz => by
      rcases hpass z hz with h | ⟨hz0, nm, hl1, hn1⟩
      · exact Or.inl h
      · obtain ⟨c6, hc6, hcl6⟩ := Cond.classLink_spec hown hl1 e.platform hpl
        obtain ⟨a8, b8, h1, h2, h3⟩ := hn1
        cases Option.some.inj (h1.symm.trans hcl)
        cases Option.some.inj (h2.symm.trans hc6)
        exact Or.inr ⟨hz0, _, hcl6, h3⟩) hx (Or.inr ⟨h0, c4, hcl5, hasg⟩)
  obtain ⟨t, a1, b1⟩ := kk (T.setVm vm') hT X'
  exact ⟨t, st.trans a1, b1⟩
end Rows
section Ends
variable {p : Program} {l : Launch} {e : Env} {R : Room} {s : State} {m : MethodId} {args : Array Value} {below : List Frame} {meth : Method} {c : Code} {H : Heap} {locs : List Loc} {cells slots : Nat} {Q : State → Prop}
variable {mc ms : Nat} {free : Addr → Prop} {A0 A1 : Nat → Prop} {H0 : Heap} {a : Array Value} {ls : Array Slot} {st0 rest : List Value}
variable {Qc : Array Value → State → Outcome → State → Prop} {XC : String → State → State → Prop}
/-- what a body that may throw owes at its end -/
def vx_MQ (below : List Frame) (Qc : Array Value → State → Outcome → State → Prop) (XC : String → State → State → Prop) (a : Array Value) (s : State) (mc ms : Nat) (free : Addr → Prop) : State → Prop := fun t =>
  ∃ o, t.status = .running ∧ Ended t below o ∧ vx_Q Qc XC mc ms free a s o t
theorem vx_ret {g : JFrame} {mc ms : Nat} (k : W p l e R s m args below meth c H locs cells slots (MQ below Qc args s mc ms free) g) : W p l e R s m args below meth c H locs cells slots (vx_MQ below Qc XC args s mc ms free) g := by
  intro T hT X
  obtain ⟨t, a1, o, b1, b2, b3, b4⟩ := k T hT X
  exact ⟨t, a1, o, b1, b2, Or.inl ⟨b3, b4⟩⟩
/-- not caught here: it goes on to the caller -/
theorem vx_widen {g : JFrame} {q : Addr} {k n : Nat} (h1 : cells ≤ k) (h2 : slots ≤ n) (kk : vx_W p l e R s m args below meth c H locs k n Q g q) : vx_W p l e R s m args below meth c H locs cells slots Q g q := fun T hT X => kk T hT (stand_widen X h1 h2)
theorem vx_out {pc : Nat} {E : String} {ce : Cell} {q : Addr} {mc ms : Nat} (hout : ∀ x ∈ c.exceptionTable.toList, covers x pc = false) (hlocks : meth.locks = false) (hcell : H[q]? = some ce) (hv : ce.vm = .none) (hcl : s.vm.findClass E = some ce.cls)
    (hx : ∀ t : State, t.heap = H → s.vm.Alike t.vm → XC E s t) (hf : ∀ z ∈ locs, free z.base) (hc : cells ≤ mc) (hs : slots ≤ ms) :
    vx_W p l e R s m args below meth c H locs cells slots (vx_MQ below Qc XC args s mc ms free) (F0 m pc ls rest) q := by
  intro T hT X
  obtain ⟨st1, hrun, hend, hW, hsm⟩ := X.leaveThrown q (g := F0 m pc ls rest) rfl rfl rfl hout hlocks
  have hcell9 : (T.setFrames (.throwing q :: below)).heap[q]? = some ce := by
    show T.heap[q]? = some ce
    rw [hT]; exact hcell
  exact ⟨_, st1, .threw q, hrun, hend, Or.inr ⟨q, rfl, E, ce, locs, hx _ hT hW.alike, hcell9, hv, hcl, hW, hsm.mono hc hs, hf⟩⟩
theorem vx_frame {U : State} {k n : Nat} (h : s.sameButNew ({ U with vm := s.vm } : State) locs k n) : s.heap.size ≤ U.heap.size ∧ ∀ q : Nat, q < s.heap.size → (∀ z ∈ locs, z.base ≠ q) → U.heap[q]? = s.heap[q]? := by
  obtain ⟨-, h2, -, -, -, h6⟩ := h
  refine ⟨h2, fun q hq hz => ?_⟩
  obtain ⟨c9, e1, e2, e3, e4⟩ := h6 q _ (Array.getElem?_eq_getElem hq)
  have hs : c9.slots = (s.heap[q]).slots := Array.ext_getElem? fun i => e4 i fun hm => hz _ hm rfl
  have h9 : c9 = s.heap[q] := by
    rw [hs] at e2
    exact e2
  have e5 : U.heap[q]? = some c9 := e1
  rw [e5, h9, Array.getElem?_eq_getElem hq]
/-- the words of a throw but the four that speak of the heap -/
def vx_no (w : Cond) : Bool := decide (w ≠ .isRef (.static Bundle.tN "UNASSIGNED_STACK" Bundle.steD)) && decide (w ≠ .isRef (.static Bundle.tN "SUPPRESSED_SENTINEL" Bundle.listD)) && decide (w ≠ .laysStatic Bundle.tN "UNASSIGNED_STACK" Bundle.steD) && decide (w ≠ .laysStatic Bundle.tN "SUPPRESSED_SENTINEL" Bundle.listD)
def vx_at0 (own : String) (ic : Nat) (X : String) (names : List String) : List Cond := (Bundle.ownAtoms0 own ic X names).filter vx_no
def vx_atS (own : String) (ic : Nat) (X : String) (names : List String) : List Cond := (Bundle.ownAtoms own ic X names).filter vx_no
/-- a word that the tables alone decide, or a good one -/
def vx_ot (w : Cond) : Bool := w.onTables || goodWord w
theorem vx_ot_at {args a' : Array Value} {s U : State} {w : Cond} (hW : s.WarmedH U.vm) (hvm : s.vm = U.vm) (hg : vx_ot w = true) (h : w.before args s = true) : w.before a' U = true := by
  simp only [vx_ot, Bool.or_eq_true] at hg
  rcases hg with hg | hg
  · exact va_tabs hg hvm h
  · exact word_at hW (good_of_word hg) h
/-- a list's words: the good ones out of the method's own list, the others by premises of their own -/
theorem vx_hat {args : Array Value} {s : State} {L B : List Cond} (h1 : ∀ w ∈ L.filter goodWord, w.before args s = true) (h2 : ∀ w ∈ L.filter (fun w => !goodWord w), w ∈ B) (h3 : ∀ w ∈ B, w.before args s = true) : ∀ w ∈ L, w.before args s = true := by
  intro w hw
  by_cases g : goodWord w = true
  · exact h1 w (List.mem_filter.mpr ⟨hw, g⟩)
  · refine h3 w (h2 w (List.mem_filter.mpr ⟨hw, ?_⟩))
    show (!goodWord w) = true
    cases hgw : goodWord w
    · rfl
    · exact absurd hgw g
theorem vx_c {args : Array Value} {s : State} {w : Cond} {B : List Cond} (h : w.before args s = true) (t : ∀ w ∈ B, w.before args s = true) : ∀ w' ∈ w :: B, w'.before args s = true := fun w' h' => (List.mem_cons.mp h').elim (fun e => by rw [e]; exact h) (t w')
theorem vx_n {args : Array Value} {s : State} : ∀ w ∈ ([] : List Cond), w.before args s = true := fun _ h => nomatch h
theorem vx_own {args : Array Value} {s : State} {L : List Cond} (h1 : ∀ w ∈ L.filter vx_no, w.before args s = true)
    (hU : (Cond.isRef (.static Bundle.tN "UNASSIGNED_STACK" Bundle.steD)).before args s = true) (hN : (Cond.isRef (.static Bundle.tN "SUPPRESSED_SENTINEL" Bundle.listD)).before args s = true)
    (lU : (Cond.laysStatic Bundle.tN "UNASSIGNED_STACK" Bundle.steD).before args s = true) (lN : (Cond.laysStatic Bundle.tN "SUPPRESSED_SENTINEL" Bundle.listD).before args s = true) : ∀ w ∈ L, w.before args s = true := by
  intro w hw
  by_cases e1 : w = .isRef (.static Bundle.tN "UNASSIGNED_STACK" Bundle.steD)
  · rw [e1]; exact hU
  · by_cases e2 : w = .isRef (.static Bundle.tN "SUPPRESSED_SENTINEL" Bundle.listD)
    · rw [e2]; exact hN
    · by_cases e3 : w = .laysStatic Bundle.tN "UNASSIGNED_STACK" Bundle.steD
      · rw [e3]; exact lU
      · by_cases e4 : w = .laysStatic Bundle.tN "SUPPRESSED_SENTINEL" Bundle.listD
        · rw [e4]; exact lN
        · exact h1 w (List.mem_filter.mpr ⟨hw, by unfold vx_no; rw [decide_eq_true e1, decide_eq_true e2, decide_eq_true e3, decide_eq_true e4]; rfl⟩)
/-- where a static field lies, its class's statics cell in H -/
def vx_L (C n d : String) (A : Nat → Prop) (U : State) (H : Heap) : Prop := ∃ (c : ClassId) (k : Class) (i : Nat) (f : Field) (a : Nat) (cell : Cell), U.vm.findClass C = some c ∧ U.fieldFound? C n d = some (c, k, i, f) ∧ f.isStatic = true ∧ k.statics = some a ∧ H[a]? = some cell ∧ cell.vm.isStatics = true ∧ cell.cls = c ∧ f.slot < cell.slots.size ∧ k.staticTypes[f.slot]? = some f.type ∧ ¬ A a
theorem vx_L.moved {C n d : String} {A : Nat → Prop} {u U : State} {H : Heap} (hvm : u.vm.Alike U.vm) (h : vx_L C n d A u H) : vx_L C n d A U H := by
  obtain ⟨c, k, i, f, a, cell, h1, h2, h3, h4, h5, h6, h7, h8, h9, h10⟩ := h
  obtain ⟨k', hi', he⟩ := State.fieldFound?_setVm hvm h2
  exact ⟨c, k', i, f, a, cell, by rw [hvm.findClass]; exact h1, hi', h3, by rw [he]; exact h4, h5, h6, h7, h8, by rw [he]; exact h9, h10⟩
theorem vx_L.kept {C n d : String} {A : Nat → Prop} {U : State} {H H1 : Heap} (h : vx_L C n d A U H) (hq : ∀ a : Nat, a < H.size → ¬ A a → H1[a]? = H[a]?) : vx_L C n d A U H1 := by
  obtain ⟨c, k, i, f, a, cell, h1, h2, h3, h4, h5, h6, h7, h8, h9, h10⟩ := h
  exact ⟨c, k, i, f, a, cell, h1, h2, h3, h4, by rw [hq a (Array.getElem?_eq_some_iff.mp h5).1 h10]; exact h5, h6, h7, h8, h9, h10⟩
theorem vx_L.narrow {C n d : String} {A B : Nat → Prop} {U : State} {H : Heap} (h : vx_L C n d A U H) (hAB : ∀ q, B q → A q) : vx_L C n d B U H := by
  obtain ⟨c, k, i, f, a, cell, h1, h2, h3, h4, h5, h6, h7, h8, h9, h10⟩ := h
  exact ⟨c, k, i, f, a, cell, h1, h2, h3, h4, h5, h6, h7, h8, h9, fun z => h10 (hAB _ z)⟩
theorem vx_L.word {C n d : String} {A : Nat → Prop} {s : State} {args : Array Value} (h : vx_L C n d A s s.heap) : (Cond.laysStatic C n d).before args s = true := by
  obtain ⟨c, k, i, f, a, cell, h1, h2, h3, h4, h5, h6, h7, h8, h9, -⟩ := h
  show (Cond.laysStatic C n d).holds args s none s [] = true
  exact Cond.laysStatic_of h1 h2 h3 h4 h5 h6 h7 h8 h9
/-- .. and what it holds: null or some reference -/
def vx_Zq (C n d : String) (A : Nat → Prop) (U : State) (H : Heap) : Prop := va_Zq C n d A U H ∧ vx_L C n d A U H
theorem vx_Zq.moved {C n d : String} {A : Nat → Prop} {u U : State} {H : Heap} (hvm : u.vm.Alike U.vm) (h : vx_Zq C n d A u H) : vx_Zq C n d A U H := ⟨va_Zq.moved hvm h.1, vx_L.moved hvm h.2⟩
theorem vx_Zq.kept {C n d : String} {A : Nat → Prop} {U : State} {H H1 : Heap} (h : vx_Zq C n d A U H) (hq : ∀ a : Nat, a < H.size → ¬ A a → H1[a]? = H[a]?) : vx_Zq C n d A U H1 := ⟨va_Zq.kept h.1 hq, vx_L.kept h.2 hq⟩
theorem vx_Zq.narrow {C n d : String} {A B : Nat → Prop} {U : State} {H : Heap} (h : vx_Zq C n d A U H) (hAB : ∀ q, B q → A q) : vx_Zq C n d B U H := ⟨va_Zq.narrow h.1 hAB, vx_L.narrow h.2 hAB⟩
theorem vx_Zqof {args : Array Value} {s : State} {C n d : String} {A : Nat → Prop} (hl : (Cond.laysStatic C n d).before args s = true) (hini : (Cond.initialized C).before args s = true) (h : (Cond.isRef (.static C n d)).before args s = true) (hA : ∀ a : Nat, a < s.heap.size → ¬ A a) : vx_Zq C n d A s s.heap := by
  refine ⟨va_Zqof hl hini h hA, ?_⟩
  obtain ⟨c, k, i, f, a, cell, h1, h2, h3, h4, h5, h6, h7, h8, h9⟩ := Cond.laysStatic_spec hl
  exact ⟨c, k, i, f, a, cell, h1, h2, h3, h4, h5, h6, h7, h8, h9, hA a (Array.getElem?_eq_some_iff.mp h5).1⟩
theorem vx_isRef {C n d : String} {v : Value} {A : Nat → Prop} {s : State} {args : Array Value} (h : va_Z C n d v A s s.heap) (hv : v.isRef = true) : (Cond.isRef (.static C n d)).before args s = true := by
  obtain ⟨cf, kf, fi, f, a, cell, h1, h2, h3, h4, h5, h6, h7, -⟩ := h
  have he : (Term.static C n d).eval args s none [] s = some v := by
    simp [Term.eval, State.fieldNamed?, h1, h2, h4, h5, h6, h7]
  simp only [Cond.before, Cond.holds, Cond.value, he]
  cases v <;> simp_all [Value.isRef]
theorem vx_isRefq {C n d : String} {A : Nat → Prop} {s : State} {args : Array Value} (h : va_Zq C n d A s s.heap) : (Cond.isRef (.static C n d)).before args s = true := by
  rcases h with h | ⟨t, h⟩
  · exact vx_isRef h rfl
  · exact vx_isRef h rfl
/-- the same frame, seen from here: as if the method were called anew in this heap -/
theorem vx_rebase {T : State} (X : Stand p l e R s m args below meth c T locs cells slots) {R' : Room} (hf : R'.frames ≤ R.frames) (hl : R'.locals ≤ R.locals) (hc : cells + R'.cells ≤ R.cells) (hs : slots + R'.slots ≤ R.slots) :
    Stand p l e R' ((T.setVm s.vm).setFrames (.invoking m args :: below)) m args below meth c T [] 0 0 := by
  have htop : (T.setVm s.vm).topJava?.isSome := X.here.top
  have hF : ((T.setVm s.vm).setFrames (.invoking m args :: below)).frames = .invoking m args :: below := State.frames_setFrames _ (State.cur_lt_of_top htop)
  obtain ⟨g₀, hg0⟩ := Option.isSome_iff_exists.mp htop
  obtain ⟨r, hr⟩ := State.topJava?_eq_some.mp hg0
  have hl9 : e.platform.stackLimits (T.setVm s.vm).me = e.platform.stackLimits s.me := X.limits
  have hb9 : (T.setVm s.vm).me.stackBytes = s.me.stackBytes := X.bytes
  refine ⟨X.admits, X.cas, X.clock, hF, ?_, X.hears, X.method, X.code, X.here, X.tail, X.warmed, ?_, ?_, ?_⟩
  · have h := X.room
    have hU : ((T.setVm s.vm).setFrames (.invoking m args :: below)).localsInUse = s.localsInUse := by
      rw [State.localsInUse_invoking hF (meth := meth) (c := c) X.method X.code, State.localsInUse_invoking X.frames X.method X.code]
    simp only [State.hasRoom, Bool.and_eq_true, decide_eq_true_eq] at h ⊢
    obtain ⟨⟨⟨⟨h1, h2, h3, h4, h5, h6⟩, h7⟩, h8⟩, h9⟩ := h
    rw [X.frames, List.length_cons] at h2 h3
    have q1 := X.heapSize
    have q2 := X.used
    simp only [hF, hU, List.length_cons, State.stackLimits_setFrames, State.stackBytes_setFrames, hl9, hb9]
    refine ⟨⟨⟨⟨by omega, by omega, by omega, by omega, by omega, h6⟩, ?_⟩, ?_⟩, X.book⟩
    · show T.heap.size + R'.cells ≤ e.platform.maxCells
      omega
    · show T.slotsUsed + R'.slots ≤ e.platform.maxSlots
      omega
  · rw [State.stackLimits_setFrames]; rfl
  · rw [State.stackBytes_setFrames]; rfl
  · refine ⟨?_, Nat.le_refl _, Nat.le_refl _, ?_, ?_, fun a c9 h9 => ⟨c9, h9, rfl, rfl, fun _ _ => rfl⟩⟩
    · obtain ⟨t, ht, -⟩ := State.frames_cons hr
      show T.setVm s.vm = { ((T.setVm s.vm).setFrames (.invoking m args :: below)).setFrames (T.setVm s.vm).frames with heap := T.heap, slotsUsed := T.slotsUsed }
      rw [State.setFrames_setFrames, State.setFrames_self ht]
      rfl
    · show T.slotsUsed = T.slotsUsed + ((T.heap.toList.drop T.heap.size).map (·.slots.size)).sum
      rw [List.drop_eq_nil_of_le (Nat.le_of_eq Array.length_toList)]
      rfl
    · show ((T.heap.toList.drop T.heap.size).map (·.slots.size)).sum ≤ 0
      rw [List.drop_eq_nil_of_le (Nat.le_of_eq Array.length_toList)]
      exact Nat.le_refl _
/-- 'throw new E()': new; dup; invokespecial; athrow -/
theorem vx_throw0 {cc : ByteArray} {pc : Nat} (hexec : p.tables.exec = Jvm.exec) (hb : c.code = cc) (hl : l.stackTraces = false) {own cls : String} {names : List String} {ik ic mc ms : Nat} {A : Nat → Prop}
    (hown : s.vm.findClass own = some m.cls) (hcls : Bundle.fit cls = true) (hnames : ∀ n ∈ names, Bundle.fit n = true)
    (hk : (Cond.classLink own ik cls).before args s = true) (hini : (Cond.initialized cls).before args s = true) (hat : ∀ w ∈ vx_at0 own ic cls names, w.before args s = true)
    (hgood : ∀ w ∈ Cond.classLink own ik cls :: Cond.initialized cls :: vx_at0 own ic cls names, vx_ot w = true)
    (hU : vx_Zq Bundle.tN "UNASSIGNED_STACK" Bundle.steD A s s.heap) (hN : vx_Zq Bundle.tN "SUPPRESSED_SENTINEL" Bundle.listD A s s.heap) (hS : va_S A s.heap H locs) (hsize : ls.size = c.maxLocals)
    (d0 : decode cc pc = .ok (.new ik, 3)) (d3 : decode cc (pc + 3) = .ok (.dup, 1)) (d4 : decode cc (pc + 4) = .ok (.invokespecial ic, 3)) (d7 : decode cc (pc + 7) = .ok (.athrow, 1))
    (hout : ∀ x ∈ c.exceptionTable.toList, covers x (pc + 7) = false)
    (hRframes : names.length + 3 < R.frames) (hRlocals : (rest.map fun v => v.category).sum + (13 * (names.length + 1) + 42) ≤ R.locals) (hRcells : cells + 1 ≤ R.cells) (hRslots : slots + 6 ≤ R.slots) (hlocks : meth.locks = false)
    (hx : ∀ t : State, s.vm.Alike t.vm → H.size ≤ t.heap.size → (∀ q : Nat, q < H.size → t.heap[q]? = H[q]?) → XC cls s t)
    (hf : ∀ z ∈ locs, free z.base) (hc : cells + 1 ≤ mc) (hs : slots + 6 ≤ ms) :
    W p l e R s m args below meth c H locs cells slots (vx_MQ below Qc XC args s mc ms free) (F0 m pc ls rest) := by
  intro T hT X
  have htr : e.platform.stackTraces = false := (show e.platform.stackTraces = l.stackTraces by rw [X.admits.platform]).trans hl
  have Y := vx_rebase X (R' := { frames := R.frames, locals := R.locals, cells := 1, slots := 6 }) (Nat.le_refl _) (Nat.le_refl _) hRcells hRslots
  obtain ⟨s', hA⟩ : ∃ z, z = (T.setVm s.vm).setFrames (.invoking m args :: below) := ⟨_, rfl⟩
  rw [← hA] at Y
  have hvm : s'.vm = s.vm := by rw [hA]; rfl
  have hhp : s'.heap = H := by rw [hA]; exact hT
  have hW0 : s.WarmedH s'.vm := by rw [hvm]; exact State.WarmedH.refl s
  have hat' : ∀ w ∈ vx_at0 own ic cls names, w.before args s' = true := fun w hw => vx_ot_at hW0 hvm.symm (hgood w (List.mem_cons_of_mem _ (List.mem_cons_of_mem _ hw))) (hat w hw)
  have hk' : (Cond.classLink own ik cls).before args s' = true := vx_ot_at hW0 hvm.symm (hgood _ List.mem_cons_self) hk
  have hini' : (Cond.initialized cls).before args s' = true := vx_ot_at hW0 hvm.symm (hgood _ (List.mem_cons_of_mem _ List.mem_cons_self)) hini
  have hU' : vx_Zq Bundle.tN "UNASSIGNED_STACK" Bundle.steD A s' s'.heap := by rw [hhp]; exact vx_Zq.moved hW0.alike (hU.kept hS.2.1)
  have hN' : vx_Zq Bundle.tN "SUPPRESSED_SENTINEL" Bundle.listD A s' s'.heap := by rw [hhp]; exact vx_Zq.moved hW0.alike (hN.kept hS.2.1)
  have h : ∀ w ∈ Bundle.ownAtoms0 own ic cls names, w.before args s' = true := vx_own hat' (vx_isRefq hU'.1) (vx_isRefq hN'.1) hU'.2.word hN'.2.word
  have hown' : s'.vm.findClass own = some m.cls := by rw [hvm]; exact hown
  have hins : (Cond.instantiable cls 6).before args s' = true := h _ (by simp [Bundle.ownAtoms0])
  obtain ⟨vm₁, cX, kX, hfX, hkX, -, -, X₁, st1⟩ := Y.newCold hexec (own := own) (C := cls) (index := ik) (n := 6) hown' hk' hins hini'
    (g := F0 m pc ls rest) rfl (by rw [hb]; exact d0) (Nat.le_refl _) (Nat.le_refl _)
  generalize hT1 : (T.setVm vm₁).pushCell { cls := cX, slots := kX.instanceTypes.map defaultValue, vm := .none } = T1 at X₁ st1
  have hcat : (Value.ref T.heap.size).category = 1 := rfl
  have hcellA : T1.heap[T.heap.size]? = some (freshCell cX kX) := by rw [← hT1]; exact State.heap_pushCell_size _ _
  have d3' : decode c.code (pc + 3) = .ok (.dup, 1) := by rw [hb]; exact d3
  obtain ⟨U, hsteps, hrun, hend, hW, hsame, ce, hce, hO⟩ := X₁.ctorThrow0 hexec htr (own := own) (cls := cls) (names := names) (ic := ic) hown' hcls hnames h (fun x hx => nomatch hx) hfX hkX hcellA (by rw [hhp, hT]; exact Nat.le_refl _)
    (g := { method := m, pc := pc + 4, locals := ls, stack := .ref T.heap.size :: .ref T.heap.size :: rest, locked := none }) rfl hsize rfl rfl (rest := rest) rfl
    (by rw [hb]; exact d4) (by rw [hb]; exact d7) hout hRframes (by simp only [List.map_cons, List.sum_cons, hcat]; omega) hlocks
  obtain ⟨f1, f2⟩ := vx_frame hsame
  rw [hhp] at f1 f2
  have hWs : s.WarmedH U.vm := State.WarmedH.trans hW0 hW
  have hcl : s.vm.findClass cls = some ce.cls := by
    have h9 := hO.cls
    rw [hvm] at h9
    exact h9
  have hall : s.sameButNew ({ U with vm := s.vm } : State) locs mc ms := by
    subst hA
    obtain ⟨e1, e2⟩ := hsame
    rw [State.setFrames_setFrames] at e1
    have h2 : (T.setVm s.vm).sameButNew ({ U with vm := s.vm } : State) [] (0 + 1) (0 + 6) := ⟨e1, e2⟩
    have h3 := X.same.trans h2
    rw [List.append_nil] at h3
    exact h3.mono hc hs
  refine ⟨U, ?_, .threw T.heap.size, hrun, hend, Or.inr ⟨T.heap.size, rfl, cls, ce, locs, hx U hWs.alike f1 (fun q hq => f2 q hq (fun z hz => nomatch hz)), hce, hO.vm, hcl, hWs, hall, hf⟩⟩
  refine st1 _ ?_
  show Steps p.tables e below (T1.setTop { method := m, pc := pc + 3, locals := ls, stack := .ref T.heap.size :: rest, locked := none }) _
  jvm_step X₁.here [X₁.here.top, hexec, d3', Value.category]
  exact hsteps
/-- 'throw new E("text")': new; dup; ldc; invokespecial; athrow -/
theorem vx_throwS {cc : ByteArray} {pc : Nat} (hexec : p.tables.exec = Jvm.exec) (hb : c.code = cc) (hl : l.stackTraces = false) {own cls text : String} {names : List String} {ik is ic mc ms sa : Nat} {A : Nat → Prop}
    (hown : s.vm.findClass own = some m.cls) (hcls : Bundle.fit cls = true) (hnames : ∀ n ∈ names, Bundle.fit n = true)
    (hk : (Cond.classLink own ik cls).before args s = true) (hini : (Cond.initialized cls).before args s = true) (hstr : vk_R own is text sa s) (hat : ∀ w ∈ vx_atS own ic cls names, w.before args s = true)
    (hgood : ∀ w ∈ Cond.classLink own ik cls :: Cond.initialized cls :: vx_atS own ic cls names, vx_ot w = true)
    (hU : vx_Zq Bundle.tN "UNASSIGNED_STACK" Bundle.steD A s s.heap) (hN : vx_Zq Bundle.tN "SUPPRESSED_SENTINEL" Bundle.listD A s s.heap) (hS : va_S A s.heap H locs) (hsize : ls.size = c.maxLocals)
    (d0 : decode cc pc = .ok (.new ik, 3)) (d3 : decode cc (pc + 3) = .ok (.dup, 1)) (d4 : decode cc (pc + 4) = .ok (.ldc is, 2)) (d6 : decode cc (pc + 6) = .ok (.invokespecial ic, 3)) (d9 : decode cc (pc + 9) = .ok (.athrow, 1))
    (hout : ∀ x ∈ c.exceptionTable.toList, covers x (pc + 9) = false)
    (hRframes : names.length + 3 < R.frames) (hRlocals : (rest.map fun v => v.category).sum + (13 * (names.length + 1) + 43) ≤ R.locals) (hRcells : cells + 1 ≤ R.cells) (hRslots : slots + 6 ≤ R.slots) (hlocks : meth.locks = false)
    (hx : ∀ t : State, s.vm.Alike t.vm → H.size ≤ t.heap.size → (∀ q : Nat, q < H.size → t.heap[q]? = H[q]?) → XC cls s t)
    (hf : ∀ z ∈ locs, free z.base) (hc : cells + 1 ≤ mc) (hs : slots + 6 ≤ ms) :
    W p l e R s m args below meth c H locs cells slots (vx_MQ below Qc XC args s mc ms free) (F0 m pc ls rest) := by
  intro T hT X
  have htr : e.platform.stackTraces = false := (show e.platform.stackTraces = l.stackTraces by rw [X.admits.platform]).trans hl
  have Y := vx_rebase X (R' := { frames := R.frames, locals := R.locals, cells := 1, slots := 6 }) (Nat.le_refl _) (Nat.le_refl _) hRcells hRslots
  obtain ⟨s', hA⟩ : ∃ z, z = (T.setVm s.vm).setFrames (.invoking m args :: below) := ⟨_, rfl⟩
  rw [← hA] at Y
  have hvm : s'.vm = s.vm := by rw [hA]; rfl
  have hhp : s'.heap = H := by rw [hA]; exact hT
  have hW0 : s.WarmedH s'.vm := by rw [hvm]; exact State.WarmedH.refl s
  have hat' : ∀ w ∈ vx_atS own ic cls names, w.before args s' = true := fun w hw => vx_ot_at hW0 hvm.symm (hgood w (List.mem_cons_of_mem _ (List.mem_cons_of_mem _ hw))) (hat w hw)
  have hk' : (Cond.classLink own ik cls).before args s' = true := vx_ot_at hW0 hvm.symm (hgood _ List.mem_cons_self) hk
  have hini' : (Cond.initialized cls).before args s' = true := vx_ot_at hW0 hvm.symm (hgood _ (List.mem_cons_of_mem _ List.mem_cons_self)) hini
  have hU' : vx_Zq Bundle.tN "UNASSIGNED_STACK" Bundle.steD A s' s'.heap := by rw [hhp]; exact vx_Zq.moved hW0.alike (hU.kept hS.2.1)
  have hN' : vx_Zq Bundle.tN "SUPPRESSED_SENTINEL" Bundle.listD A s' s'.heap := by rw [hhp]; exact vx_Zq.moved hW0.alike (hN.kept hS.2.1)
  have h : ∀ w ∈ Bundle.ownAtoms own ic cls names, w.before args s' = true := vx_own hat' (vx_isRefq hU'.1) (vx_isRefq hN'.1) hU'.2.word hN'.2.word
  have hown' : s'.vm.findClass own = some m.cls := by rw [hvm]; exact hown
  have hins : (Cond.instantiable cls 6).before args s' = true := h _ (by simp [Bundle.ownAtoms])
  obtain ⟨vm₁, cX, kX, hfX, hkX, -, -, X₁, st1⟩ := Y.newCold hexec (own := own) (C := cls) (index := ik) (n := 6) hown' hk' hins hini'
    (g := F0 m pc ls rest) rfl (by rw [hb]; exact d0) (Nat.le_refl _) (Nat.le_refl _)
  generalize hT1 : (T.setVm vm₁).pushCell { cls := cX, slots := kX.instanceTypes.map defaultValue, vm := .none } = T1 at X₁ st1
  have hcat : (Value.ref T.heap.size).category = 1 := rfl
  have hcellA : T1.heap[T.heap.size]? = some (freshCell cX kX) := by rw [← hT1]; exact State.heap_pushCell_size _ _
  have d3' : decode c.code (pc + 3) = .ok (.dup, 1) := by rw [hb]; exact d3
  have d4' : decode c.code (pc + 4) = .ok (.ldc is, 2) := by rw [hb]; exact d4
  have hstr' : vk_R own is text sa s' := vk_R.warm hW0 hstr
  obtain ⟨U, hsteps, hrun, hend, hW, hsame, ce, hce, hO⟩ := X₁.ctorThrowS hexec htr (own := own) (cls := cls) (names := names) (ic := ic) hown' hcls hnames h (fun x hx => nomatch hx) hfX hkX hcellA (by rw [hhp, hT]; exact Nat.le_refl _) (msg := .ref sa) rfl
    (g := { method := m, pc := pc + 6, locals := ls, stack := .ref sa :: .ref T.heap.size :: .ref T.heap.size :: rest, locked := none }) rfl hsize rfl rfl (rest := rest) rfl
    (by rw [hb]; exact d6) (by rw [hb]; exact d9) hout hRframes (by simp only [List.map_cons, List.sum_cons, hcat]; omega) hlocks
  obtain ⟨f1, f2⟩ := vx_frame hsame
  rw [hhp] at f1 f2
  have hWs : s.WarmedH U.vm := State.WarmedH.trans hW0 hW
  have hcl : s.vm.findClass cls = some ce.cls := by
    have h9 := hO.cls
    rw [hvm] at h9
    exact h9
  have hall : s.sameButNew ({ U with vm := s.vm } : State) locs mc ms := by
    subst hA
    obtain ⟨e1, e2⟩ := hsame
    rw [State.setFrames_setFrames] at e1
    have h2 : (T.setVm s.vm).sameButNew ({ U with vm := s.vm } : State) [] (0 + 1) (0 + 6) := ⟨e1, e2⟩
    have h3 := X.same.trans h2
    rw [List.append_nil] at h3
    exact h3.mono hc hs
  refine ⟨U, ?_, .threw T.heap.size, hrun, hend, Or.inr ⟨T.heap.size, rfl, cls, ce, locs, hx U hWs.alike f1 (fun q hq => f2 q hq (fun z hz => nomatch hz)), hce, hO.vm, hcl, hWs, hall, hf⟩⟩
  refine st1 _ ?_
  show Steps p.tables e below (T1.setTop { method := m, pc := pc + 3, locals := ls, stack := .ref T.heap.size :: rest, locked := none }) _
  jvm_step X₁.here [X₁.here.top, hexec, d3', Value.category]
  exact X₁.ldcString hexec (own := own) (text := text) (index := is) (a := sa) hown' hstr'.1 hstr'.2
    (g := { method := m, pc := pc + 4, locals := ls, stack := .ref T.heap.size :: .ref T.heap.size :: rest, locked := none }) rfl d4' _ hsteps
/-- 'throw new E("text")', the text by a wide index -/
theorem vx_throwSW {cc : ByteArray} {pc : Nat} (hexec : p.tables.exec = Jvm.exec) (hb : c.code = cc) (hl : l.stackTraces = false) {own cls text : String} {names : List String} {ik is ic mc ms sa : Nat} {A : Nat → Prop}
    (hown : s.vm.findClass own = some m.cls) (hcls : Bundle.fit cls = true) (hnames : ∀ n ∈ names, Bundle.fit n = true)
    (hk : (Cond.classLink own ik cls).before args s = true) (hini : (Cond.initialized cls).before args s = true) (hstr : vk_R own is text sa s) (hat : ∀ w ∈ vx_atS own ic cls names, w.before args s = true)
    (hgood : ∀ w ∈ Cond.classLink own ik cls :: Cond.initialized cls :: vx_atS own ic cls names, vx_ot w = true)
    (hU : vx_Zq Bundle.tN "UNASSIGNED_STACK" Bundle.steD A s s.heap) (hN : vx_Zq Bundle.tN "SUPPRESSED_SENTINEL" Bundle.listD A s s.heap) (hS : va_S A s.heap H locs) (hsize : ls.size = c.maxLocals)
    (d0 : decode cc pc = .ok (.new ik, 3)) (d3 : decode cc (pc + 3) = .ok (.dup, 1)) (d4 : decode cc (pc + 4) = .ok (.ldc_w is, 3)) (d7 : decode cc (pc + 7) = .ok (.invokespecial ic, 3)) (d10 : decode cc (pc + 10) = .ok (.athrow, 1))
    (hout : ∀ x ∈ c.exceptionTable.toList, covers x (pc + 10) = false)
    (hRframes : names.length + 3 < R.frames) (hRlocals : (rest.map fun v => v.category).sum + (13 * (names.length + 1) + 43) ≤ R.locals) (hRcells : cells + 1 ≤ R.cells) (hRslots : slots + 6 ≤ R.slots) (hlocks : meth.locks = false)
    (hx : ∀ t : State, s.vm.Alike t.vm → H.size ≤ t.heap.size → (∀ q : Nat, q < H.size → t.heap[q]? = H[q]?) → XC cls s t)
    (hf : ∀ z ∈ locs, free z.base) (hc : cells + 1 ≤ mc) (hs : slots + 6 ≤ ms) :
    W p l e R s m args below meth c H locs cells slots (vx_MQ below Qc XC args s mc ms free) (F0 m pc ls rest) := by
  intro T hT X
  have htr : e.platform.stackTraces = false := (show e.platform.stackTraces = l.stackTraces by rw [X.admits.platform]).trans hl
  have Y := vx_rebase X (R' := { frames := R.frames, locals := R.locals, cells := 1, slots := 6 }) (Nat.le_refl _) (Nat.le_refl _) hRcells hRslots
  obtain ⟨s', hA⟩ : ∃ z, z = (T.setVm s.vm).setFrames (.invoking m args :: below) := ⟨_, rfl⟩
  rw [← hA] at Y
  have hvm : s'.vm = s.vm := by rw [hA]; rfl
  have hhp : s'.heap = H := by rw [hA]; exact hT
  have hW0 : s.WarmedH s'.vm := by rw [hvm]; exact State.WarmedH.refl s
  have hat' : ∀ w ∈ vx_atS own ic cls names, w.before args s' = true := fun w hw => vx_ot_at hW0 hvm.symm (hgood w (List.mem_cons_of_mem _ (List.mem_cons_of_mem _ hw))) (hat w hw)
  have hk' : (Cond.classLink own ik cls).before args s' = true := vx_ot_at hW0 hvm.symm (hgood _ List.mem_cons_self) hk
  have hini' : (Cond.initialized cls).before args s' = true := vx_ot_at hW0 hvm.symm (hgood _ (List.mem_cons_of_mem _ List.mem_cons_self)) hini
  have hU' : vx_Zq Bundle.tN "UNASSIGNED_STACK" Bundle.steD A s' s'.heap := by rw [hhp]; exact vx_Zq.moved hW0.alike (hU.kept hS.2.1)
  have hN' : vx_Zq Bundle.tN "SUPPRESSED_SENTINEL" Bundle.listD A s' s'.heap := by rw [hhp]; exact vx_Zq.moved hW0.alike (hN.kept hS.2.1)
  have h : ∀ w ∈ Bundle.ownAtoms own ic cls names, w.before args s' = true := vx_own hat' (vx_isRefq hU'.1) (vx_isRefq hN'.1) hU'.2.word hN'.2.word
  have hown' : s'.vm.findClass own = some m.cls := by rw [hvm]; exact hown
  have hins : (Cond.instantiable cls 6).before args s' = true := h _ (by simp [Bundle.ownAtoms])
  obtain ⟨vm₁, cX, kX, hfX, hkX, -, -, X₁, st1⟩ := Y.newCold hexec (own := own) (C := cls) (index := ik) (n := 6) hown' hk' hins hini'
    (g := F0 m pc ls rest) rfl (by rw [hb]; exact d0) (Nat.le_refl _) (Nat.le_refl _)
  generalize hT1 : (T.setVm vm₁).pushCell { cls := cX, slots := kX.instanceTypes.map defaultValue, vm := .none } = T1 at X₁ st1
  have hcat : (Value.ref T.heap.size).category = 1 := rfl
  have hcellA : T1.heap[T.heap.size]? = some (freshCell cX kX) := by rw [← hT1]; exact State.heap_pushCell_size _ _
  have d3' : decode c.code (pc + 3) = .ok (.dup, 1) := by rw [hb]; exact d3
  have d4' : decode c.code (pc + 4) = .ok (.ldc_w is, 3) := by rw [hb]; exact d4
  have hstr' : vk_R own is text sa s' := vk_R.warm hW0 hstr
  obtain ⟨U, hsteps, hrun, hend, hW, hsame, ce, hce, hO⟩ := X₁.ctorThrowS hexec htr (own := own) (cls := cls) (names := names) (ic := ic) hown' hcls hnames h (fun x hx => nomatch hx) hfX hkX hcellA (by rw [hhp, hT]; exact Nat.le_refl _) (msg := .ref sa) rfl
    (g := { method := m, pc := pc + 7, locals := ls, stack := .ref sa :: .ref T.heap.size :: .ref T.heap.size :: rest, locked := none }) rfl hsize rfl rfl (rest := rest) rfl
    (by rw [hb]; exact d7) (by rw [hb]; exact d10) hout hRframes (by simp only [List.map_cons, List.sum_cons, hcat]; omega) hlocks
  obtain ⟨f1, f2⟩ := vx_frame hsame
  rw [hhp] at f1 f2
  have hWs : s.WarmedH U.vm := State.WarmedH.trans hW0 hW
  have hcl : s.vm.findClass cls = some ce.cls := by
    have h9 := hO.cls
    rw [hvm] at h9
    exact h9
  have hall : s.sameButNew ({ U with vm := s.vm } : State) locs mc ms := by
    subst hA
    obtain ⟨e1, e2⟩ := hsame
    rw [State.setFrames_setFrames] at e1
    have h2 : (T.setVm s.vm).sameButNew ({ U with vm := s.vm } : State) [] (0 + 1) (0 + 6) := ⟨e1, e2⟩
    have h3 := X.same.trans h2
    rw [List.append_nil] at h3
    exact h3.mono hc hs
  refine ⟨U, ?_, .threw T.heap.size, hrun, hend, Or.inr ⟨T.heap.size, rfl, cls, ce, locs, hx U hWs.alike f1 (fun q hq => f2 q hq (fun z hz => nomatch hz)), hce, hO.vm, hcl, hWs, hall, hf⟩⟩
  refine st1 _ ?_
  show Steps p.tables e below (T1.setTop { method := m, pc := pc + 3, locals := ls, stack := .ref T.heap.size :: rest, locked := none }) _
  jvm_step X₁.here [X₁.here.top, hexec, d3', Value.category]
  exact X₁.ldcStringW hexec (own := own) (text := text) (index := is) (a := sa) hown' hstr'.1 hstr'.2
    (g := { method := m, pc := pc + 4, locals := ls, stack := .ref T.heap.size :: .ref T.heap.size :: rest, locked := none }) rfl d4' _ hsteps
end Ends
section Bodies
variable {l : Launch}
theorem vx_ofW {y : MethodName} {ws ws' : List Cond} {rm : Room} {Pc : Array Value → State → Prop} {Qc : Array Value → State → Outcome → State → Prop} {XC : String → State → State → Prop} {mc ms : Nat} {free : Addr → Prop} {cc : ByteArray} {maxL : Nat} {ret : Option FieldType}
    (hy : plainName y.cls = true) (hw : ws = Cond.code y cc maxL ret :: ws')
    (body : ∀ p e s m args below meth c s₁, BodyLoose p l y (headSpec ws rm) cc maxL ret e s m args below meth c s₁ → c.maxLocals = maxL → (∀ x ∈ c.exceptionTable.toList, False) → Pc args s →
      W p l e (headSpec ws rm).room s m args below meth c s.heap [] 0 0 (vx_MQ below Qc XC args s mc ms free) (entryFrame m args maxL)) : vx_Met l y ws rm Pc Qc XC mc ms free := by
  refine MetFree.of_bodyS (code := cc) (maxLocals := maxL) (ret := ret) hy ?_ ?_
  · intro args s m h hn
    obtain ⟨meth, c, h1, h2, h3, h4, h5, h6, -, -⟩ := Cond.code_spec hn (atoms_spec (ws := ws) h _ (by rw [hw]; exact List.mem_cons_self))
    exact ⟨meth, c, h1, h2, h3, h4, h5, h6⟩
  · intro p e s m args below meth c s₁ B hml hP _
    have hh0 : s₁.heap = s.heap := by rw [B.state]; rfl
    have ht : ∀ x ∈ c.exceptionTable.toList, False := by
      obtain ⟨meth9, c9, h1, h2, -, -, -, -, h7, -⟩ := Cond.code_spec B.named (atoms_spec (ws := ws) B.pre _ (by rw [hw]; exact List.mem_cons_self))
      cases Option.some.inj (h1.symm.trans B.method)
      cases Option.some.inj (h2.symm.trans (Stand.of_body B).code)
      intro x hx
      rw [Array.isEmpty_iff.mp h7] at hx
      cases hx
    obtain ⟨t, a1, o, b1, b2, b3⟩ := body p e s m args below meth c s₁ B hml ht hP s₁ hh0 (Stand.of_body B)
    exact ⟨t, o, a1, b1, b2, b3⟩
/-- the table of a body with handlers -/
theorem vx_table {p : Program} {x y : MethodName} {S : Spec} {cc bytes : ByteArray} {maxL maxL' : Nat} {ret ret' : Option FieldType} {e : Env} {s s₁ : State} {m : MethodId} {args : Array Value} {below : List Frame} {meth : Method} {c : Code} {hh : List (Nat × Nat × Nat × Nat)}
    (B : BodyLoose p l y S cc maxL ret e s m args below meth c s₁) (h : (Cond.codeWith y bytes maxL' ret' hh).before args s = true) : c.exceptionTable.toList = tableOf hh := by
  obtain ⟨m9, meth9, c9, hn9, h1, h2, -, -, h6, -⟩ := Cond.codeWith_spec h
  cases Option.some.inj (hn9.symm.trans B.named)
  cases Option.some.inj (h1.symm.trans B.method)
  cases Option.some.inj (h2.symm.trans (Stand.of_body B).code)
  rw [← h6, table_eq]
end Bodies
end VXA
/-! ===== END ===== -/
/-! ===== BEGIN a static call of a method with an exception table ===== -/
section VXS
variable {p : Program} {l : Launch} {e : Env} {R : Room} {s : State} {m : MethodId} {args : Array Value} {below : List Frame} {meth : Method} {c : Code} {T : State} {H : Heap} {locs : List Loc} {cells slots : Nat}
abbrev vx_CSW (R : Room) (s : State) (args : Array Value) (own : String) (index : Nat) (y : MethodName) (bytes : ByteArray) (maxL : Nat) (ret : Option FieldType) (hh : List (Nat × Nat × Nat × Nat)) (ws : List Cond) (rm : Room) (mc ms n : Nat) : Prop :=
  (rm.cells = mc ∧ rm.slots = ms ∧ rm.frames + 1 ≤ R.frames ∧ 8 + (maxL + 11) + rm.locals ≤ R.locals ∧ (∀ w ∈ ws, ∀ (a' : Array Value) (U : State), s.WarmedH U.vm → w.before a' U = true) ∧ Cond.codeWith y bytes maxL ret hh ∈ ws) ∧
  (Cond.codeWith y bytes maxL ret hh).before args s = true ∧ (Cond.initialized y.cls).before args s = true ∧ (y.cls ≠ "java/lang/invoke/MethodHandle" ∧ y.cls ≠ "java/lang/invoke/VarHandle") ∧
  (∀ sig, parseMethodDescriptor y.desc = some sig → n = sig.parameters.length) ∧ (Cond.methodLink own index y).before args s = true ∧ (Cond.static y).before args s = true
theorem vx_cwSW {own : String} {index maxL mc ms : Nat} {y : MethodName} {bytes : ByteArray} {ret : Option FieldType} {hh : List (Nat × Nat × Nat × Nat)} {Ts ws ws' : List Cond} {rm : Room} (n : Nat) (ht : ∀ w ∈ Ts, w.before args s = true) (hT : GoodIn Ts (va_wsS own index y ws)) (hw : ws = Cond.codeWith y bytes maxL ret hh :: ws') (hrc : rm.cells = mc) (hrs : rm.slots = ms)
    (hd : y.cls ≠ "java/lang/invoke/MethodHandle" ∧ y.cls ≠ "java/lang/invoke/VarHandle" ∧ (parseMethodDescriptor y.desc).map (fun d => d.parameters.length) = some n) (hR : rm.frames + 1 ≤ R.frames ∧ 8 + (maxL + 11) + rm.locals ≤ R.locals) :
    vx_CSW R s args own index y bytes maxL ret hh ws rm mc ms n := by
  have ok : ∀ w ∈ va_wsS own index y ws, w.before args s = true := fun w h => ht w (hT w h).1
  have hG : GoodIn Ts ws := fun w h => hT w (by unfold va_wsS; exact List.mem_append_right _ h)
  have hc : Cond.codeWith y bytes maxL ret hh ∈ ws := by rw [hw]; exact List.mem_cons_self
  refine ⟨⟨hrc, hrs, hR.1, hR.2, pay_in ht hG, hc⟩, ht _ (hG _ hc).1, ok _ (by simp [va_wsS]), ⟨hd.1, hd.2.1⟩, fun sig h => ?_, ok _ (by simp [va_wsS]), ok _ (by simp [va_wsS])⟩
  have h2 := hd.2.2
  rw [h] at h2
  exact (Option.some.inj h2).symm
theorem vx_callSW (X : Stand p l e R s m args below meth c T locs cells slots) (hexec : p.tables.exec = Jvm.exec) {own : String} {index : Nat} {y : MethodName} {bytes : ByteArray} {maxL : Nat} {ret : Option FieldType} {hh : List (Nat × Nat × Nat × Nat)}
    (hown : s.vm.findClass own = some m.cls) (hlink : (Cond.methodLink own index y).before args s = true) (hstat : (Cond.static y).before args s = true) (hinit : (Cond.initialized y.cls).before args s = true)
    (hcode : (Cond.codeWith y bytes maxL ret hh).before args s = true) (hy : y.cls ≠ "java/lang/invoke/MethodHandle" ∧ y.cls ≠ "java/lang/invoke/VarHandle")
    {W9 : Nat} {Pre : Pt → Array Value → Prop} {Post : Pt → Array Value → Option Value → Pt → Prop} (hK : Back l R p e below s args y 3 W9 Pre Post)
    {g : JFrame} (hg : g.method = m) (hsize : g.locals.size = c.maxLocals) {argsL rest : List Value} (hlen : ∀ sig, parseMethodDescriptor y.desc = some sig → argsL.length = sig.parameters.length)
    (hstack : g.stack = argsL.reverse ++ rest) (hW : 2 * g.monitorRoom + (rest.map fun v => v.category).sum ≤ W9) (hdg : decode c.code g.pc = .ok (.invokestatic index, 3))
    (hpre : ∀ vm₁, s.WarmedH vm₁ → Pre ⟨T.setVm vm₁, locs, cells, slots⟩ argsL.toArray) :
    ∃ (v : Option Value) (vm₁ : Vm) (B : Pt), s.WarmedH vm₁ ∧ Stand p l e R s m args below meth c B.U B.locs B.cells B.slots ∧ Post ⟨T.setVm vm₁, locs, cells, slots⟩ argsL.toArray v B ∧
      ∀ target, Steps p.tables e below (B.U.setTop { g with pc := g.pc + 3, stack := v.toList ++ rest }) target → Steps p.tables e below (T.setTop g) target := by
  obtain ⟨mk, methM, cM, hnamed, hmethM, -, -, -, -, -, -, hsigM⟩ := Cond.codeWith_spec hcode
  have hstatic : methM.isStatic = true := Cond.static_spec hnamed hmethM hstat
  obtain ⟨kP, hkP, -⟩ := className_of_methodNamed hnamed
  have hinitP : kP.init = .initialized := Cond.initialized_spec (findClass_of_methodNamed hnamed) hkP hinit
  obtain ⟨vm₁, X₁, hstep₁⟩ := X.invokestatic hexec hown hlink hnamed hmethM hstatic hkP hinitP hy (g := g) hg (argsL := argsL) (rest := rest) (hlen _ hsigM) hstack hdg
  obtain ⟨v, B, X', hpost, hsteps⟩ := hK m meth c ⟨T.setVm vm₁, locs, cells, slots⟩ { g with stack := rest } (.invokestatic index) mk argsL.toArray X₁ hg hsize hdg hW (X₁.named hnamed) (hpre vm₁ X₁.warmed)
  exact ⟨v, vm₁, B, X₁.warmed, X', hpost, fun target h => hstep₁ _ fun acts => by rw [doInvoke_state]; exact hsteps.trans h⟩
theorem vx_runSW {y : MethodName} {bytes cc : ByteArray} {maxL nL mc ms n index : Nat} {ret : Option FieldType} {hh : List (Nat × Nat × Nat × Nat)} {ws : List Cond} {rm : Room} {Pc : Array Value → State → Prop} {Qc : Array Value → State → Outcome → State → Prop} {free : Addr → Prop} {Ts : List Cond} {own : String} {As rest : List Value} {g : JFrame}
    (S : CallFix p m c cc nL s args Ts own) (hM : Met l y ws rm Pc Qc mc ms free) (cw : vx_CSW R s args own index y bytes maxL ret hh ws rm mc ms n) (hp : PreS s H Pc As)
    (hg : g.method = m) (hn : As.length = n) (hsize : g.locals.size = nL) (hstack : g.stack = As.reverse ++ rest) (hW : 2 * g.monitorRoom + (rest.map fun v => v.category).sum ≤ 8) (hdg : decode cc g.pc = .ok (.invokestatic index, 3)) (hf : cells + mc ≤ R.cells ∧ slots + ms ≤ R.slots) :
    va_Run p l e R s m args below meth c H locs cells slots mc ms g rest (Qc As.toArray) (free) := by
  obtain ⟨⟨hrc, hrs, hfr, hlo, hws, hcw⟩, hcode, hini, hy, hlen, hl, hstt⟩ := cw
  have hK : Back l R p e below s args y 3 8 (PreOf R mc ms Pc) (PostOf Qc mc ms free) := va_backW (hh := hh) (bytes := bytes) (maxL := maxL) (ret := ret) hM hp.1 hrc hrs hfr hlo hws hcw (fun a' U hW => word_at hW (Or.inl (by first | rfl | simp [Cond.onTables, Cond.keeps, Cond.steady])) hini)
  obtain ⟨hx, hb, hml, ho, -⟩ := S
  intro T hT X
  obtain ⟨v, vm₁, ⟨U', l2, c2, s2⟩, hW₁, X', ⟨g', mk, t, L, e1, e2, hq, h1, hL, h2, h3⟩, st⟩ := vx_callSW X hx (hh := hh) (bytes := bytes) (maxL := maxL) (ret := ret) ho hl hstt hini hcode hy hK hg (hsize.trans hml.symm) (argsL := As) (rest := rest) (fun sig h => hn.trans (hlen sig h)) hstack hW (by rw [hb]; exact hdg)
    (fun vm₁ hW₁ => ⟨hf.1, hf.2, hp.2 (T.setVm vm₁) hT hW₁⟩)
  dsimp only [Pt.U, Pt.locs, Pt.cells, Pt.slots] at X' e1 e2 h1 h2 h3 st
  subst h1; subst h2; subst h3
  exact ⟨v, (T.setVm vm₁).calling g' mk As.toArray, t, U', L, hT, X', hL, e1, e2, hq, st⟩
/-- not caught here, past rows that name other classes: it goes on to the caller -/
theorem vx_outP {p : Program} {l : Launch} {e : Env} {R : Room} {s : State} {m : MethodId} {args : Array Value} {below : List Frame} {meth : Method} {c : Code} {H : Heap} {locs : List Loc} {cells slots : Nat} {free : Addr → Prop} {ls : Array Slot} {rest : List Value} {Qc : Array Value → State → Outcome → State → Prop} {XC : String → State → State → Prop}
    {pc : Nat} {own E : String} {ce : Cell} {q : Addr} {mc ms : Nat} (hown : s.vm.findClass own = some m.cls) (hlocks : meth.locks = false)
    (hpass : ∀ z ∈ c.exceptionTable.toList, covers z pc = false ∨ (z.catchType ≠ 0 ∧ ∃ nm : String, (Cond.classLink own z.catchType nm).before args s = true ∧ va_Nc E nm s)) (hcell : H[q]? = some ce) (hv : ce.vm = .none) (hcl : s.vm.findClass E = some ce.cls)
    (hx : ∀ t : State, t.heap = H → s.vm.Alike t.vm → XC E s t) (hf : ∀ z ∈ locs, free z.base) (hc : cells ≤ mc) (hs : slots ≤ ms) :
    vx_W p l e R s m args below meth c H locs cells slots (vx_MQ below Qc XC args s mc ms free) (F0 m pc ls rest) q := by
  intro T hT X
  have hpl : e.platform.magicAccessors = ({} : Platform).magicAccessors := by rw [X.admits.platform]
  obtain ⟨vm', hW', X', st⟩ := X.outThrough hlocks q (g := F0 m pc ls rest) rfl rfl rfl (cell := ce) (by rw [hT]; exact hcell) (by rw [hv]; rfl)
    (by obtain ⟨k9, h9, -⟩ := Vm.findClass_spec hcl; exact ⟨k9, h9⟩) (fun z hz => by
      rcases hpass z hz with h | ⟨hz0, nm, hl1, hn1⟩
      · exact Or.inl h
      · obtain ⟨c6, hc6, hcl6⟩ := Cond.classLink_spec hown hl1 e.platform hpl
        obtain ⟨a8, b8, h1, h2, h3⟩ := hn1
        cases Option.some.inj (h1.symm.trans hcl)
        cases Option.some.inj (h2.symm.trans hc6)
        exact Or.inr ⟨hz0, _, hcl6, h3⟩)
  obtain ⟨g₀, hfr⟩ := X'.frames_eq
  have hcell9 : ((T.setVm vm').setFrames (.throwing q :: below)).heap[q]? = some ce := by
    show T.heap[q]? = some ce
    rw [hT]; exact hcell
  have hend : Ended ((T.setVm vm').setFrames (.throwing q :: below)) below (.threw q) := State.frames_setFrames _ (State.cur_lt_of_frames hfr)
  refine ⟨(T.setVm vm').setFrames (.throwing q :: below), ?_, .threw q, X'.here.running, hend, Or.inr ⟨q, rfl, E, ce, locs, hx _ hT (X'.ends _).1.alike, hcell9, hv, hcl, (X'.ends _).1, (X'.ends _).2.mono hc hs, hf⟩⟩
  rw [X.pushThrowing_eq]
  exact st
/-- a thing of a world lies in the heap -/
theorem vx_lt {D : va_G} {cl : List vw_C} {ws : va_W} {H1 : Heap} (h : va_P D cl ws H1) {k : Nat} {q : Nat × va_E} (hk : ws[k]? = some q) : q.1 < H1.size := (h k q hk).lt
end VXS
/-! ===== END ===== -/
/-! ===== BEGIN methods with a table of their own: called by a name, returning or throwing ===== -/
section VXH
/-! vx_backW, vx_callVX, vx_callSX, vx_callVW, vx_runVW, vx_runVX, vx_runSX, vx_ofWH follow the same proofs as their sisters above (Free/Laws.lean, Shelf42/LK1.lean); vx_outP calls Shelf42/NT130.lean (outThrough). -/
section
variable {l : Launch} {R : Room} {p : Program} {e : Env} {below : List Frame} {s : State} {sargs : Array Value} {y : MethodName} {len W9 : Nat}
theorem vx_backW {ws : List Cond} {rm : Room} {Pc : Array Value → State → Prop} {Qc : Array Value → State → Outcome → State → Prop} {XC : String → State → State → Prop} {mc ms : Nat} {free : Addr → Prop} {bytes : ByteArray} {maxL : Nat} {ret : Option FieldType} {hh : List (Nat × Nat × Nat × Nat)}
    (hM : vx_Met l y ws rm Pc Qc XC mc ms free) (hblind : FrameBlind Pc) (hrc : rm.cells = mc) (hrs : rm.slots = ms)
    (hframes : rm.frames + 1 ≤ R.frames) (hlocals : W9 + (maxL + 11) + rm.locals ≤ R.locals)
    (hws : ∀ w ∈ ws, ∀ a' U, s.WarmedH U.vm → w.before a' U = true) (hcode : Cond.codeWith y bytes maxL ret hh ∈ ws) (hinit : ∀ a' U, s.WarmedH U.vm → (Cond.initialized y.cls).before a' U = true) :
    vx_Back l R p e below s sargs y len W9 (PreOf R mc ms Pc) (PostOf Qc mc ms free) (vx_Post XC mc ms free) := by
  intro m meth c A g ig mk a X hg hsize hdg hW hn hp
  have h1 : (headSpec ws rm).pre.before a A.U = true := atoms_intro fun w hw => hws w hw _ _ X.warmed
  have h2 : (Cond.codeWith y bytes maxL ret hh).before a A.U = true := hws _ hcode _ _ X.warmed
  have h3 : (Cond.initialized y.cls).before a A.U = true := hinit _ _ X.warmed
  have h4 : A.cells + (headSpec ws rm).room.cells ≤ R.cells := by rw [show (headSpec ws rm).room.cells = mc from hrc]; exact hp.1
  have h5 : A.slots + (headSpec ws rm).room.slots ≤ R.slots := by rw [show (headSpec ws rm).room.slots = ms from hrs]; exact hp.2.1
  have hPc : Pc a (A.U.calling g mk a) := hblind _ _ _ _ hp.2.2
  obtain ⟨U, Ls, c0, s0⟩ := A
  dsimp only [Pt.U, Pt.locs, Pt.cells, Pt.slots] at h1 h2 h3 h4 h5 X hn hPc ⊢
  obtain ⟨m9, methY, cY, hn9, hmY, hcY, -, hlY, -⟩ := Cond.codeWith_spec h2
  cases Option.some.inj (hn9.symm.trans hn)
  obtain ⟨kY, hkY, -⟩ := className_of_methodNamed hn
  have hinitY : kY.init = .initialized := Cond.initialized_spec (findClass_of_methodNamed hn) hkY h3
  have h : At U g.method c below := by rw [hg]; exact X.here
  have hlocals9 : W9 + (maxL + 11) + (headSpec ws rm).room.locals ≤ R.locals := hlocals
  have happ : (headSpec ws rm).appliesLoose y e.platform (U.calling g mk a) = true :=
    Spec.appliesLoose_calling (g := g) h hdg hn hkY hinitY
      (X.room_calling (g := g) (R' := (headSpec ws rm).room) hsize hmY hcY hframes (by rw [hlY]; omega) h4 h5) h1
  obtain ⟨mid, hmid⟩ := h.above
  have hfr : (U.setTop g).frames = (.java g :: mid) ++ below := by rw [State.frames_setTop' g h.top, hmid]; rfl
  obtain ⟨o, s₂, hsteps, -, hend, hq⟩ := Steps.callFree hM p X.admits X.cas X.clock (acts := []) hfr happ hPc trivial
  have hq' : vx_Q Qc XC mc ms free a (U.calling g mk a) o s₂ := hq
  rw [State.frames_setTop' g h.top] at hend
  obtain ⟨g₀, hg0⟩ := Option.isSome_iff_exists.mp h.top
  obtain ⟨r, hr⟩ := State.topJava?_eq_some.mp hg0
  have hr' : (({ U with heap := s₂.heap, slotsUsed := s₂.slotsUsed } : State).setVm s₂.vm).frames = .java g₀ :: r := hr
  rcases hq' with ⟨hqc, L, hfe, hL⟩ | ⟨q, rfl, E, ce, L, hx, hce, hcv, hcl, hW₂, hsm, hL⟩
  · obtain ⟨⟨v, rfl⟩, hW₂, e2, q2, q3, q4, q5, q6⟩ := id hfe
    have e3 : s₂ = ({ (U.calling g mk a).setFrames s₂.frames with heap := s₂.heap, slotsUsed := s₂.slotsUsed } : State).setVm s₂.vm := by
      have : s₂ = ({ s₂ with vm := (U.calling g mk a).vm } : State).setVm s₂.vm := rfl
      rw [e2] at this
      exact this
    obtain ⟨c₂, i₂, len₂, hc₂, hd₂, hf₂⟩ := hend
    have hW' : U.WarmedH s₂.vm := hW₂
    have hcc : c₂ = c := by
      have h1 : s₂.code? g.method = U.code? g.method := by
        rw [State.code?_eq, State.code?_eq, hW'.alike.method?]
      exact Option.some.inj (hc₂.symm.trans (h1.trans h.code))
    subst hcc
    have hlen : len₂ = len := by rw [hdg] at hd₂; cases hd₂; rfl
    subst hlen
    have hs₂ : s₂ = (({ U with heap := s₂.heap, slotsUsed := s₂.slotsUsed } : State).setVm s₂.vm).setTop { g with pc := g.pc + len₂, stack := v.toList ++ g.stack } := by
      refine e3.trans ?_
      rw [hf₂, State.calling_eq h.top, State.setFrames_setFrames, State.setTop_of_frames _ hr', hr]
      rfl
    have hsame : U.sameButNew ({ U with heap := s₂.heap, slotsUsed := s₂.slotsUsed } : State) L mc ms := by
      refine ⟨?_, q2, q3, q4, q5, q6⟩
      obtain ⟨t, ht, -⟩ := State.frames_cons hr
      show ({ U with heap := s₂.heap, slotsUsed := s₂.slotsUsed } : State) = { U.setFrames U.frames with heap := s₂.heap, slotsUsed := s₂.slotsUsed }
      rw [State.setFrames_self ht]
    subst hg
    refine Or.inl ⟨v, ⟨(({ U with heap := s₂.heap, slotsUsed := s₂.slotsUsed } : State).setVm s₂.vm), Ls ++ L, c0 + mc, s0 + ms⟩,
      ⟨X.admits, X.cas, X.clock, X.frames, X.room, X.hears, X.method, X.code, (X.here.setHeapUsed s₂.heap s₂.slotsUsed).setVm hW'.alike, X.tail, State.WarmedH.trans X.warmed hW', X.limits, X.bytes, X.same.trans (hsame.setVm s.vm)⟩,
      ⟨g, mk, s₂, L, rfl, rfl, hqc, rfl, hL, rfl, rfl⟩, ?_⟩
    show Steps p.tables e below _ ((({ U with heap := s₂.heap, slotsUsed := s₂.slotsUsed } : State).setVm s₂.vm).setTop { g with pc := g.pc + len₂, stack := v.toList ++ g.stack })
    rw [← hs₂]
    exact hsteps
  · obtain ⟨e2, q2, q3, q4, q5, q6⟩ := id hsm
    have e3 : s₂ = ({ (U.calling g mk a).setFrames s₂.frames with heap := s₂.heap, slotsUsed := s₂.slotsUsed } : State).setVm s₂.vm := by
      have : s₂ = ({ s₂ with vm := (U.calling g mk a).vm } : State).setVm s₂.vm := rfl
      rw [e2] at this
      exact this
    have hf₂ : s₂.frames = .throwing q :: .java g :: U.frames.tail := hend
    have hW' : U.WarmedH s₂.vm := hW₂
    have hs₂ : s₂ = ((({ U with heap := s₂.heap, slotsUsed := s₂.slotsUsed } : State).setVm s₂.vm).setTop g).pushFrame (.throwing q) := by
      refine e3.trans ?_
      rw [hf₂, State.calling_eq h.top, State.setFrames_setFrames, State.pushFrame, State.frames_setTop _ hr', State.setTop_of_frames _ hr', State.setFrames_setFrames, hr]
      rfl
    have hsame : U.sameButNew ({ U with heap := s₂.heap, slotsUsed := s₂.slotsUsed } : State) L mc ms := by
      refine ⟨?_, q2, q3, q4, q5, q6⟩
      obtain ⟨t, ht, -⟩ := State.frames_cons hr
      show ({ U with heap := s₂.heap, slotsUsed := s₂.slotsUsed } : State) = { U.setFrames U.frames with heap := s₂.heap, slotsUsed := s₂.slotsUsed }
      rw [State.setFrames_self ht]
    subst hg
    refine Or.inr ⟨q, ⟨(({ U with heap := s₂.heap, slotsUsed := s₂.slotsUsed } : State).setVm s₂.vm), Ls ++ L, c0 + mc, s0 + ms⟩,
      ⟨X.admits, X.cas, X.clock, X.frames, X.room, X.hears, X.method, X.code, (X.here.setHeapUsed s₂.heap s₂.slotsUsed).setVm hW'.alike, X.tail, State.WarmedH.trans X.warmed hW', X.limits, X.bytes, X.same.trans (hsame.setVm s.vm)⟩,
      ⟨g, mk, s₂, L, E, ce, rfl, rfl, hx, hce, hcv, hcl, rfl, hL, rfl, rfl⟩, ?_⟩
    show Steps p.tables e below _ (((({ U with heap := s₂.heap, slotsUsed := s₂.slotsUsed } : State).setVm s₂.vm).setTop g).pushFrame (.throwing q))
    rw [← hs₂]
    exact hsteps
end
variable {p : Program} {l : Launch} {e : Env} {R : Room} {s : State} {m : MethodId} {args : Array Value} {below : List Frame} {meth : Method} {c : Code} {T : State} {H : Heap} {locs : List Loc} {cells slots : Nat}
theorem vx_callVX (X : Stand p l e R s m args below meth c T locs cells slots) (hexec : p.tables.exec = Jvm.exec) {own C : String} {index : Nat} {y : MethodName} {bytes : ByteArray} {maxL : Nat} {ret : Option FieldType} {hh : List (Nat × Nat × Nat × Nat)}
    (hown : s.vm.findClass own = some m.cls) (hlink : (Cond.methodLink own index y).before args s = true) (hinst : (Cond.instanceMethod y).before args s = true) (hsel : (Cond.selects C y y).before args s = true)
    (hcode : (Cond.codeWith y bytes maxL ret hh).before args s = true) (hy : y.cls ≠ "java/lang/invoke/MethodHandle" ∧ y.cls ≠ "java/lang/invoke/VarHandle")
    {W9 : Nat} {Pre : Pt → Array Value → Prop} {Post : Pt → Array Value → Option Value → Pt → Prop} {PostX : Pt → Array Value → Addr → Pt → Prop} (hK : vx_Back l R p e below s args y 3 W9 Pre Post PostX)
    {b : Addr} {cellB : Cell} (hcell : T.heap[b]? = some cellB) (hobj : cellB.vm.isStatics = false) (hcls : s.vm.findClass C = some cellB.cls)
    {g : JFrame} (hg : g.method = m) (hsize : g.locals.size = c.maxLocals) {argsL rest : List Value} (hlen : ∀ sig, parseMethodDescriptor y.desc = some sig → argsL.length = sig.parameters.length)
    (hstack : g.stack = argsL.reverse ++ .ref b :: rest) (hW : 2 * g.monitorRoom + (rest.map fun v => v.category).sum ≤ W9) (hdg : decode c.code g.pc = .ok (.invokevirtual index, 3))
    (hpre : ∀ vm₁, s.WarmedH vm₁ → Pre ⟨T.setVm vm₁, locs, cells, slots⟩ (Value.ref b :: argsL).toArray) :
    (∃ (v : Option Value) (vm₁ : Vm) (B : Pt), s.WarmedH vm₁ ∧ Stand p l e R s m args below meth c B.U B.locs B.cells B.slots ∧ Post ⟨T.setVm vm₁, locs, cells, slots⟩ (Value.ref b :: argsL).toArray v B ∧
      ∀ target, Steps p.tables e below (B.U.setTop { g with pc := g.pc + 3, stack := v.toList ++ rest }) target → Steps p.tables e below (T.setTop g) target) ∨
    (∃ (q : Addr) (vm₁ : Vm) (B : Pt), s.WarmedH vm₁ ∧ Stand p l e R s m args below meth c B.U B.locs B.cells B.slots ∧ PostX ⟨T.setVm vm₁, locs, cells, slots⟩ (Value.ref b :: argsL).toArray q B ∧
      Steps p.tables e below (T.setTop g) ((B.U.setTop { g with stack := rest }).pushFrame (.throwing q))) := by
  obtain ⟨mk, methM, hnamed, hmethM, hstM, habM⟩ := Cond.instanceMethod_spec hinst
  obtain ⟨m8, methM', cM, hn8, hmethM', -, -, -, -, -, -, hsigM⟩ := Cond.codeWith_spec hcode
  cases Option.some.inj (hn8.symm.trans hnamed)
  cases hmethM.symm.trans hmethM'
  obtain ⟨c2, r2, m2, q1, q2, q3, q4, kP, hkP, hkPi⟩ := Cond.selects_spec hsel
  cases hcls.symm.trans q1
  cases (State.methodFound?_of_named hnamed hy).symm.trans q2
  cases hnamed.symm.trans q3
  have hselP : selectMethod e.platform s.vm cellB.cls mk = .method mk := by rw [Launch.admits_selectMethod X.admits]; exact q4
  obtain ⟨vm₁, X₁, hstep₁⟩ := X.invokevirtual hexec hown hlink hnamed hmethM hstM hkP hkPi hy (a := b) (cell := cellB) hcell
    (fun z h => by rw [h] at hobj; cases hobj) hselP hmethM habM hkP hkPi (g := g) hg (argsL := argsL) (rest := rest) (hlen _ hsigM) hstack hdg
  rcases hK m meth c ⟨T.setVm vm₁, locs, cells, slots⟩ { g with stack := rest } (.invokevirtual index) mk (Value.ref b :: argsL).toArray X₁ hg hsize hdg hW (X₁.named hnamed) (hpre vm₁ X₁.warmed) with ⟨v, B, X', hpost, hsteps⟩ | ⟨q, B, X', hpost, hsteps⟩
  · exact Or.inl ⟨v, vm₁, B, X₁.warmed, X', hpost, fun target h => hstep₁ _ fun acts => by rw [doInvoke_state]; exact hsteps.trans h⟩
  · exact Or.inr ⟨q, vm₁, B, X₁.warmed, X', hpost, hstep₁ _ fun acts => by rw [doInvoke_state]; exact hsteps⟩
theorem vx_callSX (X : Stand p l e R s m args below meth c T locs cells slots) (hexec : p.tables.exec = Jvm.exec) {own : String} {index : Nat} {y : MethodName} {bytes : ByteArray} {maxL : Nat} {ret : Option FieldType} {hh : List (Nat × Nat × Nat × Nat)}
    (hown : s.vm.findClass own = some m.cls) (hlink : (Cond.methodLink own index y).before args s = true) (hstat : (Cond.static y).before args s = true) (hinit : (Cond.initialized y.cls).before args s = true)
    (hcode : (Cond.codeWith y bytes maxL ret hh).before args s = true) (hy : y.cls ≠ "java/lang/invoke/MethodHandle" ∧ y.cls ≠ "java/lang/invoke/VarHandle")
    {W9 : Nat} {Pre : Pt → Array Value → Prop} {Post : Pt → Array Value → Option Value → Pt → Prop} {PostX : Pt → Array Value → Addr → Pt → Prop} (hK : vx_Back l R p e below s args y 3 W9 Pre Post PostX)
    {g : JFrame} (hg : g.method = m) (hsize : g.locals.size = c.maxLocals) {argsL rest : List Value} (hlen : ∀ sig, parseMethodDescriptor y.desc = some sig → argsL.length = sig.parameters.length)
    (hstack : g.stack = argsL.reverse ++ rest) (hW : 2 * g.monitorRoom + (rest.map fun v => v.category).sum ≤ W9) (hdg : decode c.code g.pc = .ok (.invokestatic index, 3))
    (hpre : ∀ vm₁, s.WarmedH vm₁ → Pre ⟨T.setVm vm₁, locs, cells, slots⟩ argsL.toArray) :
    (∃ (v : Option Value) (vm₁ : Vm) (B : Pt), s.WarmedH vm₁ ∧ Stand p l e R s m args below meth c B.U B.locs B.cells B.slots ∧ Post ⟨T.setVm vm₁, locs, cells, slots⟩ argsL.toArray v B ∧
      ∀ target, Steps p.tables e below (B.U.setTop { g with pc := g.pc + 3, stack := v.toList ++ rest }) target → Steps p.tables e below (T.setTop g) target) ∨
    (∃ (q : Addr) (vm₁ : Vm) (B : Pt), s.WarmedH vm₁ ∧ Stand p l e R s m args below meth c B.U B.locs B.cells B.slots ∧ PostX ⟨T.setVm vm₁, locs, cells, slots⟩ argsL.toArray q B ∧
      Steps p.tables e below (T.setTop g) ((B.U.setTop { g with stack := rest }).pushFrame (.throwing q))) := by
  obtain ⟨mk, methM, cM, hnamed, hmethM, -, -, -, -, -, -, hsigM⟩ := Cond.codeWith_spec hcode
  have hstatic : methM.isStatic = true := Cond.static_spec hnamed hmethM hstat
  obtain ⟨kP, hkP, -⟩ := className_of_methodNamed hnamed
  have hinitP : kP.init = .initialized := Cond.initialized_spec (findClass_of_methodNamed hnamed) hkP hinit
  obtain ⟨vm₁, X₁, hstep₁⟩ := X.invokestatic hexec hown hlink hnamed hmethM hstatic hkP hinitP hy (g := g) hg (argsL := argsL) (rest := rest) (hlen _ hsigM) hstack hdg
  rcases hK m meth c ⟨T.setVm vm₁, locs, cells, slots⟩ { g with stack := rest } (.invokestatic index) mk argsL.toArray X₁ hg hsize hdg hW (X₁.named hnamed) (hpre vm₁ X₁.warmed) with ⟨v, B, X', hpost, hsteps⟩ | ⟨q, B, X', hpost, hsteps⟩
  · exact Or.inl ⟨v, vm₁, B, X₁.warmed, X', hpost, fun target h => hstep₁ _ fun acts => by rw [doInvoke_state]; exact hsteps.trans h⟩
  · exact Or.inr ⟨q, vm₁, B, X₁.warmed, X', hpost, hstep₁ _ fun acts => by rw [doInvoke_state]; exact hsteps⟩
theorem vx_callVW (X : Stand p l e R s m args below meth c T locs cells slots) (hexec : p.tables.exec = Jvm.exec) {own C : String} {index : Nat} {y : MethodName} {bytes : ByteArray} {maxL : Nat} {ret : Option FieldType} {hh : List (Nat × Nat × Nat × Nat)}
    (hown : s.vm.findClass own = some m.cls) (hlink : (Cond.methodLink own index y).before args s = true) (hinst : (Cond.instanceMethod y).before args s = true) (hsel : (Cond.selects C y y).before args s = true)
    (hcode : (Cond.codeWith y bytes maxL ret hh).before args s = true) (hy : y.cls ≠ "java/lang/invoke/MethodHandle" ∧ y.cls ≠ "java/lang/invoke/VarHandle")
    {W9 : Nat} {Pre : Pt → Array Value → Prop} {Post : Pt → Array Value → Option Value → Pt → Prop} (hK : Back l R p e below s args y 3 W9 Pre Post)
    {b : Addr} {cellB : Cell} (hcell : T.heap[b]? = some cellB) (hobj : cellB.vm.isStatics = false) (hcls : s.vm.findClass C = some cellB.cls)
    {g : JFrame} (hg : g.method = m) (hsize : g.locals.size = c.maxLocals) {argsL rest : List Value} (hlen : ∀ sig, parseMethodDescriptor y.desc = some sig → argsL.length = sig.parameters.length)
    (hstack : g.stack = argsL.reverse ++ .ref b :: rest) (hW : 2 * g.monitorRoom + (rest.map fun v => v.category).sum ≤ W9) (hdg : decode c.code g.pc = .ok (.invokevirtual index, 3))
    (hpre : ∀ vm₁, s.WarmedH vm₁ → Pre ⟨T.setVm vm₁, locs, cells, slots⟩ (Value.ref b :: argsL).toArray) :
    ∃ (v : Option Value) (vm₁ : Vm) (B : Pt), s.WarmedH vm₁ ∧ Stand p l e R s m args below meth c B.U B.locs B.cells B.slots ∧ Post ⟨T.setVm vm₁, locs, cells, slots⟩ (Value.ref b :: argsL).toArray v B ∧
      ∀ target, Steps p.tables e below (B.U.setTop { g with pc := g.pc + 3, stack := v.toList ++ rest }) target → Steps p.tables e below (T.setTop g) target := by
  obtain ⟨mk, methM, hnamed, hmethM, hstM, habM⟩ := Cond.instanceMethod_spec hinst
  obtain ⟨m8, methM', cM, hn8, hmethM', -, -, -, -, -, -, hsigM⟩ := Cond.codeWith_spec hcode
  cases Option.some.inj (hn8.symm.trans hnamed)
  cases hmethM.symm.trans hmethM'
  obtain ⟨c2, r2, m2, q1, q2, q3, q4, kP, hkP, hkPi⟩ := Cond.selects_spec hsel
  cases hcls.symm.trans q1
  cases (State.methodFound?_of_named hnamed hy).symm.trans q2
  cases hnamed.symm.trans q3
  have hselP : selectMethod e.platform s.vm cellB.cls mk = .method mk := by rw [Launch.admits_selectMethod X.admits]; exact q4
  obtain ⟨vm₁, X₁, hstep₁⟩ := X.invokevirtual hexec hown hlink hnamed hmethM hstM hkP hkPi hy (a := b) (cell := cellB) hcell
    (fun z h => by rw [h] at hobj; cases hobj) hselP hmethM habM hkP hkPi (g := g) hg (argsL := argsL) (rest := rest) (hlen _ hsigM) hstack hdg
  obtain ⟨v, B, X', hpost, hsteps⟩ := hK m meth c ⟨T.setVm vm₁, locs, cells, slots⟩ { g with stack := rest } (.invokevirtual index) mk (Value.ref b :: argsL).toArray X₁ hg hsize hdg hW (X₁.named hnamed) (hpre vm₁ X₁.warmed)
  exact ⟨v, vm₁, B, X₁.warmed, X', hpost, fun target h => hstep₁ _ fun acts => by rw [doInvoke_state]; exact hsteps.trans h⟩
abbrev vx_CVW (R : Room) (s : State) (args : Array Value) (own C : String) (index : Nat) (y : MethodName) (bytes : ByteArray) (maxL : Nat) (ret : Option FieldType) (hh : List (Nat × Nat × Nat × Nat)) (ws : List Cond) (rm : Room) (mc ms n : Nat) : Prop :=
  (rm.cells = mc ∧ rm.slots = ms ∧ rm.frames + 1 ≤ R.frames ∧ 8 + (maxL + 11) + rm.locals ≤ R.locals ∧ (∀ w ∈ ws, ∀ (a' : Array Value) (U : State), s.WarmedH U.vm → w.before a' U = true) ∧ Cond.codeWith y bytes maxL ret hh ∈ ws) ∧
  (Cond.codeWith y bytes maxL ret hh).before args s = true ∧ (Cond.initialized y.cls).before args s = true ∧ (y.cls ≠ "java/lang/invoke/MethodHandle" ∧ y.cls ≠ "java/lang/invoke/VarHandle") ∧
  (∀ sig, parseMethodDescriptor y.desc = some sig → n = sig.parameters.length) ∧ (Cond.methodLink own index y).before args s = true ∧ (Cond.instanceMethod y).before args s = true ∧ (Cond.selects C y y).before args s = true
theorem vx_cwVW {own C : String} {index maxL mc ms : Nat} {y : MethodName} {bytes : ByteArray} {ret : Option FieldType} {hh : List (Nat × Nat × Nat × Nat)} {Ts ws ws' : List Cond} {rm : Room} (n : Nat) (ht : ∀ w ∈ Ts, w.before args s = true) (hT : GoodIn Ts (wsV own index C y ws)) (hw : ws = Cond.codeWith y bytes maxL ret hh :: ws') (hrc : rm.cells = mc) (hrs : rm.slots = ms)
    (hd : y.cls = C ∧ y.cls ≠ "java/lang/invoke/MethodHandle" ∧ y.cls ≠ "java/lang/invoke/VarHandle" ∧ (parseMethodDescriptor y.desc).map (fun d => d.parameters.length) = some n) (hR : rm.frames + 1 ≤ R.frames ∧ 8 + (maxL + 11) + rm.locals ≤ R.locals) :
    vx_CVW R s args own C index y bytes maxL ret hh ws rm mc ms n := by
  obtain ⟨hC, hd⟩ := hd
  subst hC
  have ok : ∀ w ∈ wsV own index y.cls y ws, w.before args s = true := fun w h => ht w (hT w h).1
  have hG : GoodIn Ts ws := fun w h => hT w (by unfold wsV; exact List.mem_append_right _ h)
  have hc : Cond.codeWith y bytes maxL ret hh ∈ ws := by rw [hw]; exact List.mem_cons_self
  refine ⟨⟨hrc, hrs, hR.1, hR.2, pay_in ht hG, hc⟩, ht _ (hG _ hc).1, ok _ (by simp [wsV]), ⟨hd.1, hd.2.1⟩, fun sig h => ?_, ok _ (by simp [wsV]), ok _ (by simp [wsV]), ok _ (by simp [wsV])⟩
  have h2 := hd.2.2
  rw [h] at h2
  exact (Option.some.inj h2).symm
theorem vx_runVW {y : MethodName} {bytes cc : ByteArray} {maxL nL mc ms n index : Nat} {ret : Option FieldType} {hh : List (Nat × Nat × Nat × Nat)} {ws : List Cond} {rm : Room} {Pc : Array Value → State → Prop} {Qc : Array Value → State → Outcome → State → Prop} {free : Addr → Prop} {Ts : List Cond} {own C : String} {b : Addr} {As rest : List Value} {g : JFrame}
    (S : CallFix p m c cc nL s args Ts own) (hM : Met l y ws rm Pc Qc mc ms free) (cw : vx_CVW R s args own C index y bytes maxL ret hh ws rm mc ms n) (hp : PreV s H C b Pc As)
    (hg : g.method = m) (hn : As.length = n) (hsize : g.locals.size = nL) (hstack : g.stack = As.reverse ++ .ref b :: rest) (hW : 2 * g.monitorRoom + (rest.map fun v => v.category).sum ≤ 8) (hdg : decode cc g.pc = .ok (.invokevirtual index, 3)) (hf : cells + mc ≤ R.cells ∧ slots + ms ≤ R.slots) :
    va_Run p l e R s m args below meth c H locs cells slots mc ms g rest (Qc (Value.ref b :: As).toArray) free := by
  obtain ⟨⟨hrc, hrs, hfr, hlo, hws, hcw⟩, hcode, hini, hy, hlen, hl, hin, hse⟩ := cw
  have hK : Back l R p e below s args y 3 8 (PreOf R mc ms Pc) (PostOf Qc mc ms free) := va_backW (hh := hh) (bytes := bytes) (maxL := maxL) (ret := ret) hM hp.1 hrc hrs hfr hlo hws hcw (fun a' U hW => word_at hW (Or.inl (by first | rfl | simp [Cond.onTables, Cond.keeps, Cond.steady])) hini)
  obtain ⟨hx, hb, hml, ho, -⟩ := S
  obtain ⟨-, ⟨cellB, hcB, hoB, hclB⟩, hPc⟩ := hp
  intro T hT X
  obtain ⟨v, vm₁, ⟨U', l2, c2, s2⟩, hW₁, X', ⟨g', mk, t, L, e1, e2, hq, h1, hL, h2, h3⟩, st⟩ := vx_callVW X hx (C := C) (hh := hh) (bytes := bytes) (maxL := maxL) (ret := ret) ho hl hin hse hcode hy hK (by rw [hT]; exact hcB) hoB hclB hg (hsize.trans hml.symm) (argsL := As) (rest := rest) (fun sig h => hn.trans (hlen sig h)) hstack hW (by rw [hb]; exact hdg)
    (fun vm₁ hW₁ => ⟨hf.1, hf.2, hPc (T.setVm vm₁) hT hW₁⟩)
  dsimp only [Pt.U, Pt.locs, Pt.cells, Pt.slots] at X' e1 e2 h1 h2 h3 st
  subst h1; subst h2; subst h3
  exact ⟨v, (T.setVm vm₁).calling g' mk (Value.ref b :: As).toArray, t, U', L, hT, X', hL, e1, e2, hq, st⟩
section
variable {y : MethodName} {bytes cc : ByteArray} {maxL nL mc ms n index : Nat} {ret : Option FieldType} {ws : List Cond} {rm : Room} {Pc : Array Value → State → Prop} {Qc : Array Value → State → Outcome → State → Prop} {XC : String → State → State → Prop} {free : Addr → Prop} {Ts : List Cond} {own C : String} {b : Addr} {As rest : List Value} {g : JFrame}
theorem vx_runVX {hh : List (Nat × Nat × Nat × Nat)} (S : CallFix p m c cc nL s args Ts own) (hM : vx_Met l y ws rm Pc Qc XC mc ms free) (cw : vx_CVW R s args own C index y bytes maxL ret hh ws rm mc ms n) (hp : PreV s H C b Pc As)
    (hg : g.method = m) (hn : As.length = n) (hsize : g.locals.size = nL) (hstack : g.stack = As.reverse ++ .ref b :: rest) (hW : 2 * g.monitorRoom + (rest.map fun v => v.category).sum ≤ 8) (hdg : decode cc g.pc = .ok (.invokevirtual index, 3)) (hf : cells + mc ≤ R.cells ∧ slots + ms ≤ R.slots) :
    vx_Run p l e R s m args below meth c H locs cells slots mc ms g rest (Qc (Value.ref b :: As).toArray) XC free := by
  obtain ⟨⟨hrc, hrs, hfr, hlo, hws, hcw⟩, hcode, hini, hy, hlen, hl, hin, hse⟩ := cw
  have hK : vx_Back l R p e below s args y 3 8 (PreOf R mc ms Pc) (PostOf Qc mc ms free) (vx_Post XC mc ms free) := vx_backW (hh := hh) (bytes := bytes) (maxL := maxL) (ret := ret) hM hp.1 hrc hrs hfr hlo hws hcw (fun a' U hW => word_at hW (Or.inl (by first | rfl | simp [Cond.onTables, Cond.keeps, Cond.steady])) hini)
  obtain ⟨hx, hb, hml, ho, -⟩ := S
  obtain ⟨-, ⟨cellB, hcB, hoB, hclB⟩, hPc⟩ := hp
  intro T hT X
  rcases vx_callVX X hx (C := C) (hh := hh) (bytes := bytes) (maxL := maxL) (ret := ret) ho hl hin hse hcode hy hK (by rw [hT]; exact hcB) hoB hclB hg (hsize.trans hml.symm) (argsL := As) (rest := rest) (fun sig h => hn.trans (hlen sig h)) hstack hW (by rw [hb]; exact hdg)
    (fun vm₁ hW₁ => ⟨hf.1, hf.2, hPc (T.setVm vm₁) hT hW₁⟩) with ⟨v, vm₁, ⟨U', l2, c2, s2⟩, hW₁, X', ⟨g', mk, t, L, e1, e2, hq, h1, hL, h2, h3⟩, st⟩ | ⟨q, vm₁, ⟨U', l2, c2, s2⟩, hW₁, X', ⟨g', mk, t, L, E, ce, e1, e2, hq, hce, hcv, hcl, h1, hL, h2, h3⟩, st⟩
  · dsimp only [Pt.U, Pt.locs, Pt.cells, Pt.slots] at X' e1 e2 h1 h2 h3 st
    subst h1; subst h2; subst h3
    exact Or.inl ⟨v, (T.setVm vm₁).calling g' mk (Value.ref b :: As).toArray, t, U', L, hT, X', hL, e1, e2, hq, st⟩
  · dsimp only [Pt.U, Pt.locs, Pt.cells, Pt.slots] at X' e1 e2 h1 h2 h3 st hcl
    subst h1; subst h2; subst h3
    exact Or.inr ⟨q, (T.setVm vm₁).calling g' mk (Value.ref b :: As).toArray, t, U', L, E, ce, hT, X', hL, e1, e2, hq, hce, hcv, vx_cls hW₁ hcl, st⟩
theorem vx_runSX {hh : List (Nat × Nat × Nat × Nat)} (S : CallFix p m c cc nL s args Ts own) (hM : vx_Met l y ws rm Pc Qc XC mc ms free) (cw : vx_CSW R s args own index y bytes maxL ret hh ws rm mc ms n) (hp : PreS s H Pc As)
    (hg : g.method = m) (hn : As.length = n) (hsize : g.locals.size = nL) (hstack : g.stack = As.reverse ++ rest) (hW : 2 * g.monitorRoom + (rest.map fun v => v.category).sum ≤ 8) (hdg : decode cc g.pc = .ok (.invokestatic index, 3)) (hf : cells + mc ≤ R.cells ∧ slots + ms ≤ R.slots) :
    vx_Run p l e R s m args below meth c H locs cells slots mc ms g rest (Qc As.toArray) XC free := by
  obtain ⟨⟨hrc, hrs, hfr, hlo, hws, hcw⟩, hcode, hini, hy, hlen, hl, hstt⟩ := cw
  have hK : vx_Back l R p e below s args y 3 8 (PreOf R mc ms Pc) (PostOf Qc mc ms free) (vx_Post XC mc ms free) := vx_backW (hh := hh) (bytes := bytes) (maxL := maxL) (ret := ret) hM hp.1 hrc hrs hfr hlo hws hcw (fun a' U hW => word_at hW (Or.inl (by first | rfl | simp [Cond.onTables, Cond.keeps, Cond.steady])) hini)
  obtain ⟨hx, hb, hml, ho, -⟩ := S
  intro T hT X
  rcases vx_callSX X hx (hh := hh) (bytes := bytes) (maxL := maxL) (ret := ret) ho hl hstt hini hcode hy hK hg (hsize.trans hml.symm) (argsL := As) (rest := rest) (fun sig h => hn.trans (hlen sig h)) hstack hW (by rw [hb]; exact hdg)
    (fun vm₁ hW₁ => ⟨hf.1, hf.2, hp.2 (T.setVm vm₁) hT hW₁⟩) with ⟨v, vm₁, ⟨U', l2, c2, s2⟩, hW₁, X', ⟨g', mk, t, L, e1, e2, hq, h1, hL, h2, h3⟩, st⟩ | ⟨q, vm₁, ⟨U', l2, c2, s2⟩, hW₁, X', ⟨g', mk, t, L, E, ce, e1, e2, hq, hce, hcv, hcl, h1, hL, h2, h3⟩, st⟩
  · dsimp only [Pt.U, Pt.locs, Pt.cells, Pt.slots] at X' e1 e2 h1 h2 h3 st
    subst h1; subst h2; subst h3
    exact Or.inl ⟨v, (T.setVm vm₁).calling g' mk As.toArray, t, U', L, hT, X', hL, e1, e2, hq, st⟩
  · dsimp only [Pt.U, Pt.locs, Pt.cells, Pt.slots] at X' e1 e2 h1 h2 h3 st hcl
    subst h1; subst h2; subst h3
    exact Or.inr ⟨q, (T.setVm vm₁).calling g' mk As.toArray, t, U', L, E, ce, hT, X', hL, e1, e2, hq, hce, hcv, vx_cls hW₁ hcl, st⟩
end
end VXH
theorem vx_ofWH {l : Launch} {y : MethodName} {ws ws' : List Cond} {rm : Room} {Pc : Array Value → State → Prop} {Qc : Array Value → State → Outcome → State → Prop} {XC : String → State → State → Prop} {mc ms : Nat} {free : Addr → Prop} {cc : ByteArray} {maxL : Nat} {ret : Option FieldType} {hh : List (Nat × Nat × Nat × Nat)}
    (hy : plainName y.cls = true) (hw : ws = Cond.codeWith y cc maxL ret hh :: ws')
    (body : ∀ p e s m args below meth c s₁, BodyLoose p l y (headSpec ws rm) cc maxL ret e s m args below meth c s₁ → c.maxLocals = maxL → Pc args s →
      W p l e (headSpec ws rm).room s m args below meth c s.heap [] 0 0 (vx_MQ below Qc XC args s mc ms free) (entryFrame m args maxL)) : vx_Met l y ws rm Pc Qc XC mc ms free := by
  refine MetFree.of_bodyS (code := cc) (maxLocals := maxL) (ret := ret) hy ?_ ?_
  · intro args s m h hn
    obtain ⟨m9, meth, c, hn9, h1, h2, h3, h4, -, h5, h6, -⟩ := Cond.codeWith_spec (atoms_spec (ws := ws) h _ (by rw [hw]; exact List.mem_cons_self))
    cases hn.symm.trans hn9
    exact ⟨meth, c, h1, h2, h3, h4, h5, h6⟩
  · intro p e s m args below meth c s₁ B hml hP _
    have hh0 : s₁.heap = s.heap := by rw [B.state]; rfl
    obtain ⟨t, a1, o, b1, b2, b3⟩ := body p e s m args below meth c s₁ B hml hP s₁ hh0 (Stand.of_body B)
    exact ⟨t, o, a1, b1, b2, b3⟩
/-! ===== END ===== -/
end
section
-- ===== PART A: goes FIRST, ahead of the names: the tables' words, and 'selects' of the private methods out of them =====
/-- a private method of a class that the tables say can be made, by its rows of tables_1 -/
def lw_okq (q : MethodName × Nat) : Prop := (q.1.cls ≠ "java/lang/invoke/MethodHandle" ∧ q.1.cls ≠ "java/lang/invoke/VarHandle") ∧ Cond.instantiable q.1.cls q.2 ∈ tables_1 ∧ Cond.privateMethod q.1 ∈ tables_1 ∧ Cond.instanceMethod q.1 ∈ tables_1
theorem lw_p0 : lw_okq (⟨"java/lang/Throwable", "fillInStackTrace", "(I)Ljava/lang/Throwable;"⟩, 6) := ⟨⟨by decide +kernel, by decide +kernel⟩, List.mem_of_getElem? (i := 324) (by decide +kernel), List.mem_of_getElem? (i := 322) (by decide +kernel), List.mem_of_getElem? (i := 323) (by decide +kernel)⟩
theorem lw_p1 : lw_okq (⟨"java/util/ArrayList", "fastRemove", "([Ljava/lang/Object;I)V"⟩, 3) := ⟨⟨by decide +kernel, by decide +kernel⟩, List.mem_of_getElem? (i := 99) (by decide +kernel), List.mem_of_getElem? (i := 368) (by decide +kernel), List.mem_of_getElem? (i := 369) (by decide +kernel)⟩
theorem lw_p2 : lw_okq (⟨"SlowTunes", "tuneAt", "(I)LSlowTunes$Tune;"⟩, 11) := ⟨⟨by decide +kernel, by decide +kernel⟩, List.mem_of_getElem? (i := 26) (by decide +kernel), List.mem_of_getElem? (i := 392) (by decide +kernel), List.mem_of_getElem? (i := 393) (by decide +kernel)⟩
theorem lw_p3 : lw_okq (⟨"SlowTunes", "found", "()LSlowTunes$Matches;"⟩, 11) := ⟨⟨by decide +kernel, by decide +kernel⟩, List.mem_of_getElem? (i := 26) (by decide +kernel), List.mem_of_getElem? (i := 454) (by decide +kernel), List.mem_of_getElem? (i := 455) (by decide +kernel)⟩
theorem lw_p4 : lw_okq (⟨"SlowTunes$Grid", "tellRowFromBegin", "(LSlowTunes$State;III)V"⟩, 1) := ⟨⟨by decide +kernel, by decide +kernel⟩, List.mem_of_getElem? (i := 158) (by decide +kernel), List.mem_of_getElem? (i := 474) (by decide +kernel), List.mem_of_getElem? (i := 475) (by decide +kernel)⟩
theorem lw_p5 : lw_okq (⟨"SlowTunes$Grid", "tellRowFromEnd", "(LSlowTunes$State;I)V"⟩, 1) := ⟨⟨by decide +kernel, by decide +kernel⟩, List.mem_of_getElem? (i := 158) (by decide +kernel), List.mem_of_getElem? (i := 504) (by decide +kernel), List.mem_of_getElem? (i := 505) (by decide +kernel)⟩
theorem lw_p6 : lw_okq (⟨"SlowTunes$Matches", "tellSteps", "(LSlowTunes$State;)V"⟩, 11) := ⟨⟨by decide +kernel, by decide +kernel⟩, List.mem_of_getElem? (i := 152) (by decide +kernel), List.mem_of_getElem? (i := 518) (by decide +kernel), List.mem_of_getElem? (i := 519) (by decide +kernel)⟩
theorem lw_p7 : lw_okq (⟨"SlowTunes$Matches", "isBestStep", "(LSlowTunes$State;III)Z"⟩, 11) := ⟨⟨by decide +kernel, by decide +kernel⟩, List.mem_of_getElem? (i := 152) (by decide +kernel), List.mem_of_getElem? (i := 523) (by decide +kernel), List.mem_of_getElem? (i := 524) (by decide +kernel)⟩
theorem lw_p8 : lw_okq (⟨"SlowTunes$Matches", "walkFirst", "(LSlowTunes$State;)V"⟩, 11) := ⟨⟨by decide +kernel, by decide +kernel⟩, List.mem_of_getElem? (i := 152) (by decide +kernel), List.mem_of_getElem? (i := 539) (by decide +kernel), List.mem_of_getElem? (i := 540) (by decide +kernel)⟩
theorem lw_p9 : lw_okq (⟨"SlowTunes$Matches", "addPair", "(II)V"⟩, 11) := ⟨⟨by decide +kernel, by decide +kernel⟩, List.mem_of_getElem? (i := 152) (by decide +kernel), List.mem_of_getElem? (i := 545) (by decide +kernel), List.mem_of_getElem? (i := 546) (by decide +kernel)⟩
theorem lw_p10 : lw_okq (⟨"SlowTunes", "leastNeededBound", "()I"⟩, 11) := ⟨⟨by decide +kernel, by decide +kernel⟩, List.mem_of_getElem? (i := 26) (by decide +kernel), List.mem_of_getElem? (i := 553) (by decide +kernel), List.mem_of_getElem? (i := 554) (by decide +kernel)⟩
theorem lw_p11 : lw_okq (⟨"SlowTunes", "costIf", "(II)I"⟩, 11) := ⟨⟨by decide +kernel, by decide +kernel⟩, List.mem_of_getElem? (i := 26) (by decide +kernel), List.mem_of_getElem? (i := 558) (by decide +kernel), List.mem_of_getElem? (i := 559) (by decide +kernel)⟩
theorem lw_p12 : lw_okq (⟨"SlowTunes", "checkMatched", "()V"⟩, 11) := ⟨⟨by decide +kernel, by decide +kernel⟩, List.mem_of_getElem? (i := 26) (by decide +kernel), List.mem_of_getElem? (i := 590) (by decide +kernel), List.mem_of_getElem? (i := 591) (by decide +kernel)⟩
theorem lw_p13 : lw_okq (⟨"SlowTunes", "checkStopped", "()V"⟩, 11) := ⟨⟨by decide +kernel, by decide +kernel⟩, List.mem_of_getElem? (i := 26) (by decide +kernel), List.mem_of_getElem? (i := 603) (by decide +kernel), List.mem_of_getElem? (i := 604) (by decide +kernel)⟩
theorem lw_p14 : lw_okq (⟨"SlowTunes", "saveState", "()V"⟩, 11) := ⟨⟨by decide +kernel, by decide +kernel⟩, List.mem_of_getElem? (i := 26) (by decide +kernel), List.mem_of_getElem? (i := 643) (by decide +kernel), List.mem_of_getElem? (i := 644) (by decide +kernel)⟩
theorem lw_p15 : lw_okq (⟨"java/util/ArrayList", "add", "(Ljava/lang/Object;[Ljava/lang/Object;I)V"⟩, 3) := ⟨⟨by decide +kernel, by decide +kernel⟩, List.mem_of_getElem? (i := 99) (by decide +kernel), List.mem_of_getElem? (i := 651) (by decide +kernel), List.mem_of_getElem? (i := 652) (by decide +kernel)⟩
def lw_privs_1 : List (MethodName × Nat) := [(⟨"java/lang/Throwable", "fillInStackTrace", "(I)Ljava/lang/Throwable;"⟩, 6), (⟨"java/util/ArrayList", "fastRemove", "([Ljava/lang/Object;I)V"⟩, 3), (⟨"SlowTunes", "tuneAt", "(I)LSlowTunes$Tune;"⟩, 11), (⟨"SlowTunes", "found", "()LSlowTunes$Matches;"⟩, 11), (⟨"SlowTunes$Grid", "tellRowFromBegin", "(LSlowTunes$State;III)V"⟩, 1), (⟨"SlowTunes$Grid", "tellRowFromEnd", "(LSlowTunes$State;I)V"⟩, 1), (⟨"SlowTunes$Matches", "tellSteps", "(LSlowTunes$State;)V"⟩, 11), (⟨"SlowTunes$Matches", "isBestStep", "(LSlowTunes$State;III)Z"⟩, 11), (⟨"SlowTunes$Matches", "walkFirst", "(LSlowTunes$State;)V"⟩, 11), (⟨"SlowTunes$Matches", "addPair", "(II)V"⟩, 11), (⟨"SlowTunes", "leastNeededBound", "()I"⟩, 11), (⟨"SlowTunes", "costIf", "(II)I"⟩, 11), (⟨"SlowTunes", "checkMatched", "()V"⟩, 11), (⟨"SlowTunes", "checkStopped", "()V"⟩, 11), (⟨"SlowTunes", "saveState", "()V"⟩, 11), (⟨"java/util/ArrayList", "add", "(Ljava/lang/Object;[Ljava/lang/Object;I)V"⟩, 3)]
theorem lw_r1 : ∀ q ∈ lw_privs_1, lw_okq q := List.forall_mem_cons.mpr ⟨lw_p0, List.forall_mem_cons.mpr ⟨lw_p1, List.forall_mem_cons.mpr ⟨lw_p2, List.forall_mem_cons.mpr ⟨lw_p3, List.forall_mem_cons.mpr ⟨lw_p4, List.forall_mem_cons.mpr ⟨lw_p5, List.forall_mem_cons.mpr ⟨lw_p6, List.forall_mem_cons.mpr ⟨lw_p7, List.forall_mem_cons.mpr ⟨lw_p8, List.forall_mem_cons.mpr ⟨lw_p9, List.forall_mem_cons.mpr ⟨lw_p10, List.forall_mem_cons.mpr ⟨lw_p11, List.forall_mem_cons.mpr ⟨lw_p12, List.forall_mem_cons.mpr ⟨lw_p13, List.forall_mem_cons.mpr ⟨lw_p14, List.forall_mem_cons.mpr ⟨lw_p15, fun _ h => absurd h List.not_mem_nil⟩⟩⟩⟩⟩⟩⟩⟩⟩⟩⟩⟩⟩⟩⟩⟩
theorem lw_p16 : lw_okq (⟨"java/util/ArrayList", "grow", "()[Ljava/lang/Object;"⟩, 3) := ⟨⟨by decide +kernel, by decide +kernel⟩, List.mem_of_getElem? (i := 99) (by decide +kernel), List.mem_of_getElem? (i := 655) (by decide +kernel), List.mem_of_getElem? (i := 656) (by decide +kernel)⟩
theorem lw_p17 : lw_okq (⟨"java/util/ArrayList", "grow", "(I)[Ljava/lang/Object;"⟩, 3) := ⟨⟨by decide +kernel, by decide +kernel⟩, List.mem_of_getElem? (i := 99) (by decide +kernel), List.mem_of_getElem? (i := 659) (by decide +kernel), List.mem_of_getElem? (i := 660) (by decide +kernel)⟩
theorem lw_p18 : lw_okq (⟨"SlowTunes", "checkNoneEmpty", "()V"⟩, 11) := ⟨⟨by decide +kernel, by decide +kernel⟩, List.mem_of_getElem? (i := 26) (by decide +kernel), List.mem_of_getElem? (i := 770) (by decide +kernel), List.mem_of_getElem? (i := 771) (by decide +kernel)⟩
theorem lw_p19 : lw_okq (⟨"SlowTunes$Parts", "tellCell", "(LSlowTunes$State;II)V"⟩, 7) := ⟨⟨by decide +kernel, by decide +kernel⟩, List.mem_of_getElem? (i := 206) (by decide +kernel), List.mem_of_getElem? (i := 779) (by decide +kernel), List.mem_of_getElem? (i := 780) (by decide +kernel)⟩
theorem lw_p20 : lw_okq (⟨"SlowTunes$Parts", "consider", "(II)V"⟩, 7) := ⟨⟨by decide +kernel, by decide +kernel⟩, List.mem_of_getElem? (i := 206) (by decide +kernel), List.mem_of_getElem? (i := 783) (by decide +kernel), List.mem_of_getElem? (i := 784) (by decide +kernel)⟩
theorem lw_p21 : lw_okq (⟨"SlowTunes$Parts", "choose", "(II)V"⟩, 7) := ⟨⟨by decide +kernel, by decide +kernel⟩, List.mem_of_getElem? (i := 206) (by decide +kernel), List.mem_of_getElem? (i := 790) (by decide +kernel), List.mem_of_getElem? (i := 791) (by decide +kernel)⟩
theorem lw_p22 : lw_okq (⟨"SlowTunes", "nearestBestShift", "()I"⟩, 11) := ⟨⟨by decide +kernel, by decide +kernel⟩, List.mem_of_getElem? (i := 26) (by decide +kernel), List.mem_of_getElem? (i := 875) (by decide +kernel), List.mem_of_getElem? (i := 876) (by decide +kernel)⟩
def lw_privs_2 : List (MethodName × Nat) := [(⟨"java/util/ArrayList", "grow", "()[Ljava/lang/Object;"⟩, 3), (⟨"java/util/ArrayList", "grow", "(I)[Ljava/lang/Object;"⟩, 3), (⟨"SlowTunes", "checkNoneEmpty", "()V"⟩, 11), (⟨"SlowTunes$Parts", "tellCell", "(LSlowTunes$State;II)V"⟩, 7), (⟨"SlowTunes$Parts", "consider", "(II)V"⟩, 7), (⟨"SlowTunes$Parts", "choose", "(II)V"⟩, 7), (⟨"SlowTunes", "nearestBestShift", "()I"⟩, 11)]
theorem lw_r2 : ∀ q ∈ lw_privs_2, lw_okq q := List.forall_mem_cons.mpr ⟨lw_p16, List.forall_mem_cons.mpr ⟨lw_p17, List.forall_mem_cons.mpr ⟨lw_p18, List.forall_mem_cons.mpr ⟨lw_p19, List.forall_mem_cons.mpr ⟨lw_p20, List.forall_mem_cons.mpr ⟨lw_p21, List.forall_mem_cons.mpr ⟨lw_p22, fun _ h => absurd h List.not_mem_nil⟩⟩⟩⟩⟩⟩⟩
def lw_privs : List (MethodName × Nat) := lw_privs_1 ++ (lw_privs_2)
def lw_tbl : List Cond := k2_sels lw_privs ++ tables_1
theorem lw_privs_ok : ∀ q ∈ lw_privs, lw_okq q := by
  show ∀ q ∈ lw_privs_1 ++ (lw_privs_2), lw_okq q
  exact List.forall_mem_append.mpr ⟨lw_r1, lw_r2⟩
/-- the streams that the claim lets the run draw from -/
abbrev lw_cs : List Choice := [Jvm.Choice.named "NaN.bits"]
theorem lw_bits : nanBits ∈ lw_cs := by first | decide | exact List.mem_cons_self | simp [lw_cs, nanBits]
end
section
/-! A small machine of our own: cells by numbers, locals and stack as lists. Below it is shown that the real machine follows it. -/
abbrev xE : Type := Nat × Nat × Instr × Nat × List Nat × Value
abbrev xL : Type := List (Nat × Value)
abbrev xA : Type := FieldType × Nat × (Nat → Value)
abbrev xC : Type := xA ⊕ (Nat × List Value)
abbrev xH : Type := Nat × Nat × (Nat → Option xC)
abbrev xO : Type := Option Value ⊕ Nat
abbrev xR : Type := Nat × xL × List Value × xH
/-- the numbers below this one are cells that were there at the start -/
def xNC : Nat := 28
def xup (f : Nat → Option xC) (k : Nat) (c : xC) : Nat → Option xC := fun j => if j = k then some c else f j
def xput (hp : xH) (k : Nat) (c : xC) : xH := (hp.1, hp.2.1, xup hp.2.2 k c)
def xnew (hp : xH) (c : xC) (w : Nat) : xH := (hp.1 + 1, hp.2.1 + w, xup hp.2.2 hp.1 c)
/-- a cell of which nothing is known -/
def xbare (hp : xH) (w : Nat) : xH := (hp.1 + 1, hp.2.1 + w, hp.2.2)
def xget : xL → Nat → Option Value
  | [], _ => none
  | (k, v) :: l, i => if k = i then some v else xget l i
def xdel (lv : xL) (i : Nat) : xL := lv.filter (fun q => !(q.1 == i) && !(q.1 + 1 == i && q.2.category == 2))
def xst1 (lv : xL) (i : Nat) (v : Value) : xL := (i, v) :: xdel lv i
def xst2 (lv : xL) (i : Nat) (v : Value) : xL := (i, v) :: lv.filter (fun q => !(q.1 == i) && (!(q.1 == i + 1) && !(q.1 + 1 == i && q.2.category == 2)))
def xcI (c : ClassFile.Cond) (x y : Int32) : Bool := match c with
  | .eq => decide (x = y)
  | .ne => decide (¬ x = y)
  | .lt => decide (x < y)
  | .ge => decide (y ≤ x)
  | .gt => decide (y < x)
  | .le => decide (x ≤ y)
/-- a field's kind: 0 int, 1 boolean, 2 long, 3 a reference -/
def xfit (t : Nat) (v : Value) : Bool := match t, v with
  | 0, .int _ => true
  | 1, .int x => decide (x = 0) || decide (x = 1)
  | 2, .long _ => true
  | 3, .ref _ => true
  | 3, .null => true
  | _, _ => false
/-- an index within -/
def xin (i : Int32) (n : Nat) : Bool := decide (¬ (i < 0 ∨ n ≤ i.toNatClampNeg))
def xld (j i : Nat) (lv : xL) (st : List Value) (hp : xH) : Option xR := match xget lv i with
  | some v => some (j + 1, lv, v :: st, hp)
  | none => none
def xjmp (t j : Nat) (b : Bool) (lv : xL) (st : List Value) (hp : xH) : Option xR := if b = true then some (t, lv, st, hp) else some (j + 1, lv, st, hp)
/-- loads, constants, arithmetic: nothing of the heap -/
def xsA (nL j : Nat) (i : Instr) (ax : List Nat) (cv : Value) (lv : xL) (st : List Value) (hp : xH) : Option xR := match i, st with
  | .iconst _, st => some (j + 1, lv, cv :: st, hp)
  | .bipush _, st => some (j + 1, lv, cv :: st, hp)
  | .sipush _, st => some (j + 1, lv, cv :: st, hp)
  | .lconst _, st => some (j + 1, lv, cv :: st, hp)
  | .dconst _, st => some (j + 1, lv, cv :: st, hp)
  | .ldc _, st => some (j + 1, lv, cv :: st, hp)
  | .ldc_w _, st => some (j + 1, lv, cv :: st, hp)
  | .ldc2_w _, st => some (j + 1, lv, cv :: st, hp)
  | .aconst_null, st => some (j + 1, lv, .null :: st, hp)
  | .iload_n k, st => match xget lv k with
    | some (.int x) => some (j + 1, lv, .int x :: st, hp)
    | _ => none
  | .iload k, st => match xget lv k with
    | some (.int x) => some (j + 1, lv, .int x :: st, hp)
    | _ => none
  | .lload_n k, st => match xget lv k with
    | some (.long x) => some (j + 1, lv, .long x :: st, hp)
    | _ => none
  | .lload k, st => match xget lv k with
    | some (.long x) => some (j + 1, lv, .long x :: st, hp)
    | _ => none
  | .dload_n k, st => match xget lv k with
    | some (.double x) => some (j + 1, lv, .double x :: st, hp)
    | _ => none
  | .dload k, st => match xget lv k with
    | some (.double x) => some (j + 1, lv, .double x :: st, hp)
    | _ => none
  | .aload_n k, st => match xget lv k with
    | some (.ref x) => some (j + 1, lv, .ref x :: st, hp)
    | _ => none
  | .aload k, st => match xget lv k with
    | some (.ref x) => some (j + 1, lv, .ref x :: st, hp)
    | _ => none
  | .istore_n k, .int x :: st => if (k : Nat) < nL then some (j + 1, xst1 lv k (.int x), st, hp) else none
  | .istore k, .int x :: st => if k < nL then some (j + 1, xst1 lv k (.int x), st, hp) else none
  | .astore_n k, .ref x :: st => if (k : Nat) < nL then some (j + 1, xst1 lv k (.ref x), st, hp) else none
  | .astore k, .ref x :: st => if k < nL then some (j + 1, xst1 lv k (.ref x), st, hp) else none
  | .lstore_n k, .long x :: st => if (k : Nat) + 1 < nL then some (j + 1, xst2 lv k (.long x), st, hp) else none
  | .lstore k, .long x :: st => if k + 1 < nL then some (j + 1, xst2 lv k (.long x), st, hp) else none
  | .dstore_n k, .double x :: st => if (k : Nat) + 1 < nL then some (j + 1, xst2 lv k (.double x), st, hp) else none
  | .dstore k, .double x :: st => if k + 1 < nL then some (j + 1, xst2 lv k (.double x), st, hp) else none
  | .iinc k _, st => match xget lv k, cv with
    | some (.int x), .int d => if k < nL then some (j + 1, xst1 lv k (.int (x + d)), st, hp) else none
    | _, _ => none
  | .iadd, .int y :: .int x :: st => some (j + 1, lv, .int (x + y) :: st, hp)
  | .isub, .int y :: .int x :: st => some (j + 1, lv, .int (x - y) :: st, hp)
  | .imul, .int y :: .int x :: st => some (j + 1, lv, .int (x * y) :: st, hp)
  | .iand, .int y :: .int x :: st => some (j + 1, lv, .int (x &&& y) :: st, hp)
  | .ior, .int y :: .int x :: st => some (j + 1, lv, .int (x ||| y) :: st, hp)
  | .idiv, .int y :: .int x :: st => if y = 0 then none else some (j + 1, lv, .int (x / y) :: st, hp)
  | .irem, .int y :: .int x :: st => if y = 0 then none else some (j + 1, lv, .int (x - x / y * y) :: st, hp)
  | .ineg, .int x :: st => some (j + 1, lv, .int (-x) :: st, hp)
  | .ishl, .int y :: .int x :: st => some (j + 1, lv, .int (x <<< (y &&& 31)) :: st, hp)
  | .ishr, .int y :: .int x :: st => some (j + 1, lv, .int (x >>> (y &&& 31)) :: st, hp)
  | .ladd, .long y :: .long x :: st => some (j + 1, lv, .long (x + y) :: st, hp)
  | .lsub, .long y :: .long x :: st => some (j + 1, lv, .long (x - y) :: st, hp)
  | .lmul, .long y :: .long x :: st => some (j + 1, lv, .long (x * y) :: st, hp)
  | .lshl, .int y :: .long x :: st => some (j + 1, lv, .long (x <<< (y.toInt64 &&& 63)) :: st, hp)
  | .lcmp, .long y :: .long x :: st => some (j + 1, lv, .int (lg_cmp x y) :: st, hp)
  | .i2l, .int x :: st => some (j + 1, lv, .long x.toInt64 :: st, hp)
  | .i2c, .int x :: st => some (j + 1, lv, .int (x.toUInt32 % 65536).toInt32 :: st, hp)
  | .i2d, .int x :: st => some (j + 1, lv, .double (FP.i2d x) :: st, hp)
  | .d2l, .double x :: st => some (j + 1, lv, .long (FP.d2l x) :: st, hp)
  | .dsub, .double y :: .double x :: st => if FP.dsub x y &&& 0x7fffffffffffffff ≤ 0x7ff0000000000000 then some (j + 1, lv, .double (FP.dsub x y) :: st, hp) else none
  | .dmul, .double y :: .double x :: st => if FP.dmul x y &&& 0x7fffffffffffffff ≤ 0x7ff0000000000000 then some (j + 1, lv, .double (FP.dmul x y) :: st, hp) else none
  | .ddiv, .double y :: .double x :: st => if FP.ddiv x y &&& 0x7fffffffffffffff ≤ 0x7ff0000000000000 then some (j + 1, lv, .double (FP.ddiv x y) :: st, hp) else none
  | .dcmp op, .double y :: .double x :: st => some (j + 1, lv, .int (Op.cmpValue (FP.dcmp x y) op) :: st, hp)
  | .dup, v :: st => if v.category = 1 then some (j + 1, lv, v :: v :: st, hp) else none
  | .pop, v :: st => if v.category = 1 then some (j + 1, lv, st, hp) else none
  | .dup_x1, v :: w :: st => if v.category = 1 ∧ w.category = 1 then some (j + 1, lv, v :: w :: v :: st, hp) else none
  | .dup2, v :: w :: st => if v.category = 1 ∧ w.category = 1 then some (j + 1, lv, v :: w :: v :: w :: st, hp) else none
  | .ifCond c _, .int x :: st => xjmp (ax.headD 0) j (xcI c x 0) lv st hp
  | .if_icmp c _, .int y :: .int x :: st => xjmp (ax.headD 0) j (xcI c x y) lv st hp
  | .goto _, st => some (ax.headD 0, lv, st, hp)
  | .tableswitch _ lo hi _, .int x :: st => if x.toInt < lo ∨ hi < x.toInt then some (ax.headD 0, lv, st, hp) else some (ax.getD ((x.toInt - lo).toNat + 1) 0, lv, st, hp)
  | _, _ => none
/-- the fields of a new object, by its class's number -/
def xdef (ci : Nat) : List Value := match ci with
  | 0 => [.int 0, .null, .int 0]
  | 1 => [.null]
  | 2 => [.null]
  | 3 => [.null, .null, .null, .null, .null, .null, .null, .null, .int 0, .int 0, .int 0]
  | 4 => [.null, .null, .int 0, .int 0, .int 0, .int 0, .int 0]
  | 5 => [.null, .int 0, .int 0, .null, .int 0, .int 0]
  | 6 => [.null, .null, .int 0, .int 0, .int 0, .int 0, .int 0]
  | 7 => [.null, .int 0]
  | 8 => [.null, .null, .null, .int 0, .null, .int 0, .null, .null, .int 0, .null, .null]
  | 9 => [.null]
  | _ => []
def xObj : String := "java/lang/Object"
/-- what a place of an array of objects may take: null, or a state -/
def xisS (hp : xH) (v : Value) : Bool := match v with
  | .null => true
  | .ref a => match hp.2.2 a with
    | some (.inr (ci, _)) => ci == 6
    | _ => false
  | _ => false
def xisI (v : Value) : Bool := match v with
  | .int _ => true
  | _ => false
/-- fields, arrays, new cells -/
def xsB (j : Nat) (i : Instr) (ax : List Nat) (cv : Value) (lv : xL) (st : List Value) (hp : xH) : Option xR := match i, st with
  | .getstatic _, st => some (j + 1, lv, cv :: st, hp)
  | .getfield _, .ref a :: st => match hp.2.2 a with
    | some (.inr (ci, fs)) => if ci = ax.headD 0 then (match fs[ax.getD 1 0]? with
      | some v => some (j + 1, lv, v :: st, hp)
      | none => none) else none
    | _ => none
  | .putfield _, v :: .ref a :: st => match hp.2.2 a with
    | some (.inr (ci, fs)) => if ci = ax.headD 0 ∧ xNC ≤ a ∧ ax.getD 1 0 < fs.length ∧ xfit (ax.getD 2 0) v = true then some (j + 1, lv, st, xput hp a (.inr (ci, fs.set (ax.getD 1 0) v))) else none
    | _ => none
  | .arraylength, .ref a :: st => match hp.2.2 a with
    | some (.inl (_, n, _)) => some (j + 1, lv, .int (Int32.ofNat n) :: st, hp)
    | _ => none
  | .iaload, .int i :: .ref a :: st => match hp.2.2 a with
    | some (.inl (.int, n, f)) => if xin i n = true then some (j + 1, lv, f i.toNatClampNeg :: st, hp) else none
    | _ => none
  | .laload, .int i :: .ref a :: st => match hp.2.2 a with
    | some (.inl (.long, n, f)) => if xin i n = true then some (j + 1, lv, f i.toNatClampNeg :: st, hp) else none
    | _ => none
  | .baload, .int i :: .ref a :: st => match hp.2.2 a with
    | some (.inl (.byte, n, f)) => if xin i n = true then some (j + 1, lv, f i.toNatClampNeg :: st, hp) else none
    | _ => none
  | .aaload, .int i :: .ref a :: st => match hp.2.2 a with
    | some (.inl (.object _, n, f)) => if xin i n = true then some (j + 1, lv, f i.toNatClampNeg :: st, hp) else none
    | _ => none
  | .iastore, .int x :: .int i :: .ref a :: st => match hp.2.2 a with
    | some (.inl (.int, n, f)) => if xin i n = true ∧ xNC ≤ a then some (j + 1, lv, st, xput hp a (.inl (.int, n, updV f i.toNatClampNeg (.int x)))) else none
    | _ => none
  | .lastore, .long x :: .int i :: .ref a :: st => match hp.2.2 a with
    | some (.inl (.long, n, f)) => if xin i n = true ∧ xNC ≤ a then some (j + 1, lv, st, xput hp a (.inl (.long, n, updV f i.toNatClampNeg (.long x)))) else none
    | _ => none
  | .aastore, v :: .int i :: .ref a :: st => match hp.2.2 a with
    | some (.inl (.object C, n, f)) => if xin i n = true ∧ xNC ≤ a ∧ C = xObj ∧ xisS hp v = true then some (j + 1, lv, st, xput hp a (.inl (.object C, n, updV f i.toNatClampNeg v))) else none
    | _ => none
  | .if_acmp c _, .ref b :: .ref a :: st => if a = b ∨ (a < 8 ∧ b < 8 ∧ (hp.2.2 a).isSome = true ∧ (hp.2.2 b).isSome = true) then xjmp (ax.headD 0) j (match c with
      | .eq => decide (a = b)
      | .ne => decide (¬ a = b)) lv st hp else none
  | .new _, st => some (j + 1, lv, .ref hp.1 :: st, xnew hp (.inr (ax.headD 0, xdef (ax.headD 0))) (ax.getD 1 0))
  | .newarray .int, .int n :: st => if n < 0 ∨ 1000 < n.toNatClampNeg then none else some (j + 1, lv, .ref hp.1 :: st, xnew hp (.inl (.int, n.toNatClampNeg, fun _ => .int 0)) n.toNatClampNeg)
  | .newarray .long, .int n :: st => if n < 0 ∨ 1000 < n.toNatClampNeg then none else some (j + 1, lv, .ref hp.1 :: st, xnew hp (.inl (.long, n.toNatClampNeg, fun _ => .long 0)) n.toNatClampNeg)
  | .anewarray _, .int n :: st => if n < 0 ∨ 1000 < n.toNatClampNeg then none else some (j + 1, lv, .ref hp.1 :: st, xnew hp (.inl (.object xObj, n.toNatClampNeg, fun _ => .null)) n.toNatClampNeg)
  | .checkcast _, .ref a :: st => match hp.2.2 a with
    | some (.inr (ci, _)) => if ci = ax.headD 0 then some (j + 1, lv, .ref a :: st, hp) else none
    | _ => none
  | _, _ => none
/-- System.arraycopy of ints, or of states -/
def xcopy (j : Nat) (lv : xL) (st : List Value) (hp : xH) : Option xR := match st with
  | .int n :: .int dp :: .ref b :: .int sp :: .ref a :: st => match hp.2.2 a, hp.2.2 b with
    | some (.inl (.int, n0, f)), some (.inl (.int, n1, g)) => if ¬ sp < 0 ∧ ¬ dp < 0 ∧ ¬ n < 0 ∧ sp.toNatClampNeg + n.toNatClampNeg ≤ n0 ∧ dp.toNatClampNeg + n.toNatClampNeg ≤ n1 ∧ xNC ≤ a ∧ xNC ≤ b ∧ (st.map fun v => v.category).sum ≤ 8 ∧ (List.range n.toNatClampNeg).all (fun i => xisI (f (sp.toNatClampNeg + i))) = true
      then some (j + 1, lv, st, xput hp b (.inl (.int, n1, va_cpy f g sp.toNatClampNeg dp.toNatClampNeg n.toNatClampNeg))) else none
    | some (.inl (.object C, n0, f)), some (.inl (.object D, n1, g)) => if ¬ sp < 0 ∧ ¬ dp < 0 ∧ ¬ n < 0 ∧ sp.toNatClampNeg + n.toNatClampNeg ≤ n0 ∧ dp.toNatClampNeg + n.toNatClampNeg ≤ n1 ∧ xNC ≤ a ∧ xNC ≤ b ∧ (st.map fun v => v.category).sum ≤ 8 ∧ D = xObj ∧ (List.range n.toNatClampNeg).all (fun i => xisS hp (f (sp.toNatClampNeg + i))) = true
      then some (j + 1, lv, st, xput hp b (.inl (.object D, n1, va_cpy f g sp.toNatClampNeg dp.toNatClampNeg n.toNatClampNeg))) else none
    | _, _ => none
  | _ => none
/-- one instruction that calls nothing of ours: kind 0; Object.<init>: kind 4; arraycopy: kind 5; doubleToRawLongBits: kind 6; kind 7: of the heap; Math.max, min, abs: kind 8 -/
def xstp (nL kd j : Nat) (i : Instr) (ax : List Nat) (cv : Value) (lv : xL) (st : List Value) (hp : xH) : Option xR := match kd with
  | 0 => xsA nL j i ax cv lv st hp
  | 7 => xsB j i ax cv lv st hp
  | 4 => match st with
    | .ref a :: st => if (hp.2.2 a).isSome = true ∧ (st.map fun v => v.category).sum ≤ 8 then some (j + 1, lv, st, hp) else none
    | _ => none
  | 5 => xcopy j lv st hp
  | 8 => match ax.headD 9, st with
    | 0, .int y :: .int x :: st => if (st.map fun v => v.category).sum ≤ 8 then some (j + 1, lv, .int (if x < y then y else x) :: st, hp) else none
    | 1, .int y :: .int x :: st => if (st.map fun v => v.category).sum ≤ 8 then some (j + 1, lv, .int (if y < x then y else x) :: st, hp) else none
    | 2, .int x :: st => if (st.map fun v => v.category).sum ≤ 8 then some (j + 1, lv, .int (if 0 ≤ x then x else 0 - x) :: st, hp) else none
    | _, _ => none
  | _ => none
/-- what a return hands back: the kind of the method's answer: 0 none, 1 int, 2 boolean, 3 long, 4 double, 5 a reference, 6 byte, 7 char -/
def xret (rk : Nat) (i : Instr) (st : List Value) : Option (Option Value) := match i, rk, st with
  | .return_, 0, [] => some none
  | .ireturn, 1, [.int x] => some (some (.int x))
  | .ireturn, 2, [.int x] => if x = 0 ∨ x = 1 then some (some (.int x)) else none
  | .ireturn, 6, [.int x] => if x.toInt8.toInt32 = x then some (some (.int x)) else none
  | .ireturn, 7, [.int x] => if (x.toUInt32 % 65536).toInt32 = x then some (some (.int x)) else none
  | .lreturn, 3, [.long x] => some (some (.long x))
  | .dreturn, 4, [.double x] => some (some (.double x))
  | .areturn, 5, [.ref x] => some (some (.ref x))
  | _, _, _ => none
/-- the receiver of a call is an object of the class that is expected -/
def xrcv (md ci : Nat) (as : List Value) (hp : xH) : Bool := match md, as with
  | 0, .ref a :: _ => match hp.2.2 a with
    | some (.inr (c, _)) => c == ci
    | _ => false
  | 1, _ => true
  | 2, .ref a :: _ => (hp.2.2 a).isSome
  | 3, .ref a :: _ => (hp.2.2 a).isSome
  | _, _ => false
/-- a handler of a method: from pc, to pc, the class's number, the local that takes what was thrown, the instruction behind -/
abbrev xX : Type := Nat × Nat × Nat × Nat × Nat
def xcatch (hs : List xX) (pc E : Nat) : Option (Nat × Nat) := match hs with
  | [] => none
  | (a, b, c, v, t) :: hs => if a ≤ pc ∧ pc < b ∧ c = E then some (v, t) else xcatch hs pc E
/-- a method: its code, how many locals, its answer's kind, its handlers -/
abbrev xM : Type := List xE × Nat × Nat × List xX
end
section
/-! The methods of this claim as lists: each instruction with its place, its kind, what it names. Written by a program out of the listing. -/
def xc_0 : List xE := [(0, 0, .aload_n 0, 1, [], .null), (1, 4, .invokespecial 3, 3, [0, 162], .null), (4, 0, .aload_n 0, 1, [], .null), (5, 0, .sipush 400, 3, [], .int 400), (8, 7, .newarray .int, 2, [0, 57], .null), (10, 7, .putfield 9, 3, [1, 0, 3, 0, 163], .null), (13, 2, .return_, 1, [], .null)] -- X0_init
def xc_1 : List xE := [(0, 0, .iload_n 1, 1, [], .null), (1, 0, .bipush 20, 2, [], .int 20), (3, 0, .imul, 1, [], .null), (4, 0, .iload_n 2, 1, [], .null), (5, 0, .iadd, 1, [], .null), (6, 0, .istore_n 3, 1, [], .null), (7, 0, .iload_n 2, 1, [], .null), (8, 0, .ifCond .lt 13, 3, [13], .null), (11, 0, .iload_n 2, 1, [], .null), (12, 0, .bipush 20, 2, [], .int 20), (14, 0, .if_icmp .ge 7, 3, [13], .null), (17, 0, .iconst 1, 1, [], .int 1), (18, 0, .goto 4, 3, [14], .null), (21, 0, .iconst 0, 1, [], .int 0), (22, 0, .istore 4, 2, [], .null), (24, 0, .iload 4, 2, [], .null), (26, 0, .ifCond .eq 25, 3, [29], .null), (29, 0, .iload_n 3, 1, [], .null), (30, 0, .ifCond .lt 21, 3, [29], .null), (33, 0, .iload_n 3, 1, [], .null), (34, 0, .aload_n 0, 1, [], .null), (35, 7, .getfield 9, 3, [1, 0, 3, 0, 163], .null), (38, 7, .arraylength, 1, [], .null), (39, 0, .if_icmp .ge 12, 3, [29], .null), (42, 0, .aload_n 0, 1, [], .null), (43, 7, .getfield 9, 3, [1, 0, 3, 0, 163], .null), (46, 0, .iload_n 3, 1, [], .null), (47, 7, .iaload, 1, [], .null), (48, 0, .goto 5, 3, [30], .null), (51, 0, .ldc 15, 2, [1, 229], .int 1000000000), (53, 2, .ireturn, 1, [], .null)] -- X0_at
def xc_2 : List xE := [(0, 0, .iload_n 1, 1, [], .null), (1, 0, .bipush 20, 2, [], .int 20), (3, 0, .imul, 1, [], .null), (4, 0, .iload_n 2, 1, [], .null), (5, 0, .iadd, 1, [], .null), (6, 0, .istore 4, 2, [], .null), (8, 0, .iload_n 2, 1, [], .null), (9, 0, .ifCond .lt 13, 3, [13], .null), (12, 0, .iload_n 2, 1, [], .null), (13, 0, .bipush 20, 2, [], .int 20), (15, 0, .if_icmp .ge 7, 3, [13], .null), (18, 0, .iconst 1, 1, [], .int 1), (19, 0, .goto 4, 3, [14], .null), (22, 0, .iconst 0, 1, [], .int 0), (23, 0, .istore 5, 2, [], .null), (25, 0, .iload 5, 2, [], .null), (27, 0, .ifCond .eq 26, 3, [29], .null), (30, 0, .iload 4, 2, [], .null), (32, 0, .ifCond .lt 21, 3, [29], .null), (35, 0, .iload 4, 2, [], .null), (37, 0, .aload_n 0, 1, [], .null), (38, 7, .getfield 9, 3, [1, 0, 3, 0, 163], .null), (41, 7, .arraylength, 1, [], .null), (42, 0, .if_icmp .ge 11, 3, [29], .null), (45, 0, .aload_n 0, 1, [], .null), (46, 7, .getfield 9, 3, [1, 0, 3, 0, 163], .null), (49, 0, .iload 4, 2, [], .null), (51, 0, .iload_n 3, 1, [], .null), (52, 7, .iastore, 1, [], .null), (53, 2, .return_, 1, [], .null)] -- X0_put
def xc_3 : List xE := [(0, 0, .aload_n 0, 1, [], .null), (1, 7, .getfield 9, 3, [1, 0, 3, 0, 163], .null), (4, 0, .ldc 15, 2, [1, 229], .int 1000000000), (6, 1, .invokestatic 16, 3, [111, 2, 1, 0, 1, 230], .null), (9, 2, .return_, 1, [], .null)] -- X0_clear
def xc_4 : List xE := [(0, 0, .aload_n 0, 1, [], .null), (1, 1, .invokevirtual 22, 3, [3, 1, 0, 1, 1, 225], .null), (4, 0, .iconst 0, 1, [], .int 0), (5, 0, .istore 4, 2, [], .null), (7, 0, .iload 4, 2, [], .null), (9, 0, .aload_n 1, 1, [], .null), (10, 7, .getfield 25, 3, [6, 0, 3, 0, 61], .null), (13, 7, .getfield 31, 3, [7, 1, 0, 0, 50], .null), (16, 0, .if_icmp .ge 18, 3, [17], .null), (19, 0, .aload_n 0, 1, [], .null), (20, 0, .aload_n 1, 1, [], .null), (21, 0, .iload 4, 2, [], .null), (23, 0, .iload_n 2, 1, [], .null), (24, 0, .iload_n 3, 1, [], .null), (25, 1, .invokevirtual 37, 3, [5, 5, 0, 1, 1, 233], .null), (28, 0, .iinc 4 1, 3, [], .int 1), (31, 0, .goto (-24), 3, [4], .null), (34, 2, .return_, 1, [], .null)] -- X0_tellFromBegin
def xc_5 : List xE := [(0, 0, .aload_n 1, 1, [], .null), (1, 7, .getfield 25, 3, [6, 0, 3, 0, 61], .null), (4, 0, .iload_n 2, 1, [], .null), (5, 1, .invokevirtual 41, 3, [42, 2, 0, 7, 1, 237], .null), (8, 0, .iload_n 3, 1, [], .null), (9, 0, .isub, 1, [], .null), (10, 0, .istore 5, 2, [], .null), (12, 0, .iconst 0, 1, [], .int 0), (13, 0, .iload_n 2, 1, [], .null), (14, 0, .iload 4, 2, [], .null), (16, 0, .isub, 1, [], .null), (17, 8, .invokestatic 45, 3, [0, 2, 1], .null), (20, 0, .istore 6, 2, [], .null), (22, 0, .aload_n 1, 1, [], .null), (23, 7, .getfield 51, 3, [6, 1, 3, 0, 66], .null), (26, 7, .getfield 31, 3, [7, 1, 0, 0, 50], .null), (29, 0, .iconst 1, 1, [], .int 1), (30, 0, .isub, 1, [], .null), (31, 0, .iload_n 2, 1, [], .null), (32, 0, .iload 4, 2, [], .null), (34, 0, .iadd, 1, [], .null), (35, 8, .invokestatic 54, 3, [1, 2, 4], .null), (38, 0, .istore 7, 2, [], .null), (40, 0, .ldc 15, 2, [1, 229], .int 1000000000), (42, 0, .istore 8, 2, [], .null), (44, 0, .aload_n 0, 1, [], .null), (45, 0, .iload_n 2, 1, [], .null), (46, 0, .iconst 1, 1, [], .int 1), (47, 0, .isub, 1, [], .null), (48, 0, .iload 6, 2, [], .null), (50, 0, .iconst 1, 1, [], .int 1), (51, 0, .isub, 1, [], .null), (52, 1, .invokevirtual 57, 3, [1, 3, 0, 1, 2, 7], .null), (55, 0, .istore 9, 2, [], .null), (57, 0, .iload 6, 2, [], .null), (59, 0, .istore 10, 2, [], .null), (61, 0, .iload 10, 2, [], .null), (63, 0, .iload 7, 2, [], .null), (65, 0, .if_icmp .gt 90, 3, [83], .null), (68, 0, .aload_n 0, 1, [], .null), (69, 0, .iload_n 2, 1, [], .null), (70, 0, .iconst 1, 1, [], .int 1), (71, 0, .isub, 1, [], .null), (72, 0, .iload 10, 2, [], .null), (74, 1, .invokevirtual 57, 3, [1, 3, 0, 1, 2, 7], .null), (77, 0, .istore 11, 2, [], .null), (79, 0, .iload 9, 2, [], .null), (81, 0, .iload 11, 2, [], .null), (83, 0, .iload 8, 2, [], .null), (85, 8, .invokestatic 54, 3, [1, 2, 4], .null), (88, 0, .aload_n 1, 1, [], .null), (89, 7, .getfield 60, 3, [6, 3, 0, 0, 74], .null), (92, 0, .iadd, 1, [], .null), (93, 8, .invokestatic 54, 3, [1, 2, 4], .null), (96, 0, .istore 12, 2, [], .null), (98, 0, .iload_n 2, 1, [], .null), (99, 0, .ifCond .ne 11, 3, [61], .null), (102, 0, .iload 10, 2, [], .null), (104, 0, .ifCond .ne 6, 3, [61], .null), (107, 0, .iconst 0, 1, [], .int 0), (108, 0, .istore 12, 2, [], .null), (110, 0, .ldc 15, 2, [1, 229], .int 1000000000), (112, 0, .iload 12, 2, [], .null), (114, 0, .aload_n 1, 1, [], .null), (115, 0, .iload 5, 2, [], .null), (117, 0, .aload_n 1, 1, [], .null), (118, 7, .getfield 51, 3, [6, 1, 3, 0, 66], .null), (121, 0, .iload 10, 2, [], .null), (123, 1, .invokevirtual 41, 3, [42, 2, 0, 7, 1, 237], .null), (126, 0, .isub, 1, [], .null), (127, 1, .invokevirtual 63, 3, [38, 2, 0, 6, 2, 11], .null), (130, 0, .iadd, 1, [], .null), (131, 8, .invokestatic 54, 3, [1, 2, 4], .null), (134, 0, .istore 8, 2, [], .null), (136, 0, .aload_n 0, 1, [], .null), (137, 0, .iload_n 2, 1, [], .null), (138, 0, .iload 10, 2, [], .null), (140, 0, .iload 8, 2, [], .null), (142, 1, .invokevirtual 66, 3, [2, 4, 0, 1, 2, 15], .null), (145, 0, .iload 11, 2, [], .null), (147, 0, .istore 9, 2, [], .null), (149, 0, .iinc 10 1, 3, [], .int 1), (152, 0, .goto (-91), 3, [36], .null), (155, 2, .return_, 1, [], .null)] -- X0_tellRowFromBegin
def xc_6 : List xE := [(0, 0, .aload_n 0, 1, [], .null), (1, 1, .invokevirtual 22, 3, [3, 1, 0, 1, 1, 225], .null), (4, 0, .aload_n 1, 1, [], .null), (5, 7, .getfield 25, 3, [6, 0, 3, 0, 61], .null), (8, 7, .getfield 31, 3, [7, 1, 0, 0, 50], .null), (11, 0, .iconst 1, 1, [], .int 1), (12, 0, .isub, 1, [], .null), (13, 0, .istore_n 2, 1, [], .null), (14, 0, .iload_n 2, 1, [], .null), (15, 0, .ifCond .lt 15, 3, [16], .null), (18, 0, .aload_n 0, 1, [], .null), (19, 0, .aload_n 1, 1, [], .null), (20, 0, .iload_n 2, 1, [], .null), (21, 1, .invokevirtual 70, 3, [7, 3, 0, 1, 2, 23], .null), (24, 0, .iinc 2 (-1), 3, [], .int (-1)), (27, 0, .goto (-13), 3, [8], .null), (30, 2, .return_, 1, [], .null)] -- X0_tellFromEnd
def xc_7 : List xE := [(0, 0, .iconst 0, 1, [], .int 0), (1, 0, .iload_n 2, 1, [], .null), (2, 0, .aload_n 1, 1, [], .null), (3, 7, .getfield 74, 3, [6, 2, 0, 0, 70], .null), (6, 0, .isub, 1, [], .null), (7, 8, .invokestatic 45, 3, [0, 2, 1], .null), (10, 0, .istore_n 3, 1, [], .null), (11, 0, .aload_n 1, 1, [], .null), (12, 7, .getfield 51, 3, [6, 1, 3, 0, 66], .null), (15, 7, .getfield 31, 3, [7, 1, 0, 0, 50], .null), (18, 0, .iconst 1, 1, [], .int 1), (19, 0, .isub, 1, [], .null), (20, 0, .iload_n 2, 1, [], .null), (21, 0, .aload_n 1, 1, [], .null), (22, 7, .getfield 74, 3, [6, 2, 0, 0, 70], .null), (25, 0, .iadd, 1, [], .null), (26, 8, .invokestatic 54, 3, [1, 2, 4], .null), (29, 0, .istore 4, 2, [], .null), (31, 0, .ldc 15, 2, [1, 229], .int 1000000000), (33, 0, .istore 5, 2, [], .null), (35, 0, .aload_n 0, 1, [], .null), (36, 0, .iload_n 2, 1, [], .null), (37, 0, .iconst 1, 1, [], .int 1), (38, 0, .iadd, 1, [], .null), (39, 0, .iload 4, 2, [], .null), (41, 0, .iconst 1, 1, [], .int 1), (42, 0, .iadd, 1, [], .null), (43, 1, .invokevirtual 57, 3, [1, 3, 0, 1, 2, 7], .null), (46, 0, .istore 6, 2, [], .null), (48, 0, .iload 4, 2, [], .null), (50, 0, .istore 7, 2, [], .null), (52, 0, .iload 7, 2, [], .null), (54, 0, .iload_n 3, 1, [], .null), (55, 0, .if_icmp .lt 82, 3, [75], .null), (58, 0, .aload_n 0, 1, [], .null), (59, 0, .iload_n 2, 1, [], .null), (60, 0, .iconst 1, 1, [], .int 1), (61, 0, .iadd, 1, [], .null), (62, 0, .iload 7, 2, [], .null), (64, 1, .invokevirtual 57, 3, [1, 3, 0, 1, 2, 7], .null), (67, 0, .istore 8, 2, [], .null), (69, 0, .iload 6, 2, [], .null), (71, 0, .iload 8, 2, [], .null), (73, 0, .iload 5, 2, [], .null), (75, 8, .invokestatic 54, 3, [1, 2, 4], .null), (78, 0, .aload_n 1, 1, [], .null), (79, 7, .getfield 60, 3, [6, 3, 0, 0, 74], .null), (82, 0, .iadd, 1, [], .null), (83, 8, .invokestatic 54, 3, [1, 2, 4], .null), (86, 0, .istore 9, 2, [], .null), (88, 0, .aload_n 1, 1, [], .null), (89, 0, .iload_n 2, 1, [], .null), (90, 0, .iload 7, 2, [], .null), (92, 1, .invokevirtual 77, 3, [36, 3, 0, 6, 2, 27], .null), (95, 0, .ifCond .eq 6, 3, [57], .null), (98, 0, .iconst 0, 1, [], .int 0), (99, 0, .istore 9, 2, [], .null), (101, 0, .ldc 15, 2, [1, 229], .int 1000000000), (103, 0, .iload 9, 2, [], .null), (105, 0, .aload_n 1, 1, [], .null), (106, 0, .iload_n 2, 1, [], .null), (107, 0, .iload 7, 2, [], .null), (109, 1, .invokevirtual 81, 3, [37, 3, 0, 6, 2, 31], .null), (112, 0, .iadd, 1, [], .null), (113, 8, .invokestatic 54, 3, [1, 2, 4], .null), (116, 0, .istore 5, 2, [], .null), (118, 0, .aload_n 0, 1, [], .null), (119, 0, .iload_n 2, 1, [], .null), (120, 0, .iload 7, 2, [], .null), (122, 0, .iload 5, 2, [], .null), (124, 1, .invokevirtual 66, 3, [2, 4, 0, 1, 2, 15], .null), (127, 0, .iload 8, 2, [], .null), (129, 0, .istore 6, 2, [], .null), (131, 0, .iinc 7 (-1), 3, [], .int (-1)), (134, 0, .goto (-82), 3, [31], .null), (137, 2, .return_, 1, [], .null)] -- X0_tellRowFromEnd
def xc_8 : List xE := [(0, 0, .aload_n 0, 1, [], .null), (1, 4, .invokespecial 3, 3, [0, 156], .null), (4, 0, .aload_n 0, 1, [], .null), (5, 7, .new 9, 3, [1, 1, 0, 157, 0, 158, 0, 11], .null), (8, 0, .dup, 1, [], .null), (9, 1, .invokespecial 11, 3, [0, 1, 3, 1, 0, 159], .null), (12, 7, .putfield 12, 3, [3, 0, 3, 0, 167], .null), (15, 0, .aload_n 0, 1, [], .null), (16, 7, .new 9, 3, [1, 1, 0, 157, 0, 158, 0, 11], .null), (19, 0, .dup, 1, [], .null), (20, 1, .invokespecial 11, 3, [0, 1, 3, 1, 0, 159], .null), (23, 7, .putfield 18, 3, [3, 1, 3, 0, 168], .null), (26, 0, .aload_n 0, 1, [], .null), (27, 7, .new 9, 3, [1, 1, 0, 157, 0, 158, 0, 11], .null), (30, 0, .dup, 1, [], .null), (31, 1, .invokespecial 11, 3, [0, 1, 3, 1, 0, 159], .null), (34, 7, .putfield 21, 3, [3, 2, 3, 0, 169], .null), (37, 0, .aload_n 0, 1, [], .null), (38, 7, .new 9, 3, [1, 1, 0, 157, 0, 158, 0, 11], .null), (41, 0, .dup, 1, [], .null), (42, 1, .invokespecial 11, 3, [0, 1, 3, 1, 0, 159], .null), (45, 7, .putfield 24, 3, [3, 3, 3, 0, 170], .null), (48, 0, .aload_n 0, 1, [], .null), (49, 0, .bipush 39, 2, [], .int 39), (51, 7, .newarray .int, 2, [0, 57], .null), (53, 7, .putfield 27, 3, [3, 4, 3, 0, 171], .null), (56, 0, .aload_n 0, 1, [], .null), (57, 0, .bipush 39, 2, [], .int 39), (59, 7, .newarray .int, 2, [0, 57], .null), (61, 7, .putfield 31, 3, [3, 5, 3, 0, 172], .null), (64, 0, .aload_n 0, 1, [], .null), (65, 0, .bipush 20, 2, [], .int 20), (67, 7, .newarray .int, 2, [0, 57], .null), (69, 7, .putfield 34, 3, [3, 6, 3, 0, 173], .null), (72, 0, .aload_n 0, 1, [], .null), (73, 0, .bipush 20, 2, [], .int 20), (75, 7, .newarray .int, 2, [0, 57], .null), (77, 7, .putfield 37, 3, [3, 7, 3, 0, 174], .null), (80, 0, .aload_n 0, 1, [], .null), (81, 0, .iconst 0, 1, [], .int 0), (82, 7, .putfield 40, 3, [3, 8, 0, 0, 175], .null), (85, 0, .aload_n 0, 1, [], .null), (86, 0, .iconst 0, 1, [], .int 0), (87, 7, .putfield 44, 3, [3, 9, 0, 0, 177], .null), (90, 0, .aload_n 0, 1, [], .null), (91, 0, .iconst 0, 1, [], .int 0), (92, 7, .putfield 47, 3, [3, 10, 0, 0, 178], .null), (95, 2, .return_, 1, [], .null)] -- X2_init
def xc_9 : List xE := [(0, 0, .aload_n 0, 1, [], .null), (1, 7, .getfield 12, 3, [3, 0, 3, 0, 167], .null), (4, 0, .aload_n 1, 1, [], .null), (5, 0, .iconst 0, 1, [], .int 0), (6, 0, .aload_n 1, 1, [], .null), (7, 7, .getfield 50, 3, [6, 2, 0, 0, 69], .null), (10, 1, .invokevirtual 55, 3, [4, 4, 0, 1, 1, 221], .null), (13, 0, .aload_n 0, 1, [], .null), (14, 7, .getfield 18, 3, [3, 1, 3, 0, 168], .null), (17, 0, .aload_n 1, 1, [], .null), (18, 1, .invokevirtual 59, 3, [6, 2, 0, 1, 2, 19], .null), (21, 0, .aload_n 0, 1, [], .null), (22, 0, .aload_n 1, 1, [], .null), (23, 1, .invokevirtual 63, 3, [17, 2, 0, 3, 2, 37], .null), (26, 0, .aload_n 0, 1, [], .null), (27, 0, .aload_n 1, 1, [], .null), (28, 1, .invokevirtual 66, 3, [21, 2, 0, 3, 2, 58], .null), (31, 0, .aload_n 0, 1, [], .null), (32, 0, .aload_n 1, 1, [], .null), (33, 1, .invokevirtual 69, 3, [35, 1, 0, 6, 2, 63], .null), (36, 0, .ifCond .eq 15, 3, [27], .null), (39, 0, .aload_n 0, 1, [], .null), (40, 7, .getfield 24, 3, [3, 3, 3, 0, 170], .null), (43, 0, .iconst 0, 1, [], .int 0), (44, 0, .iconst 0, 1, [], .int 0), (45, 1, .invokevirtual 73, 3, [1, 3, 0, 1, 2, 52], .null), (48, 0, .goto 4, 3, [28], .null), (51, 0, .iconst 0, 1, [], .int 0), (52, 7, .putfield 47, 3, [3, 10, 0, 0, 178], .null), (55, 2, .return_, 1, [], .null)] -- X2_find
def xc_10 : List xE := [(0, 0, .aload_n 0, 1, [], .null), (1, 7, .getfield 12, 3, [3, 0, 3, 0, 167], .null), (4, 0, .iload_n 1, 1, [], .null), (5, 0, .iload_n 2, 1, [], .null), (6, 1, .invokevirtual 73, 3, [1, 3, 0, 1, 2, 52], .null), (9, 2, .ireturn, 1, [], .null)] -- X2_leastTo
def xc_11 : List xE := [(0, 0, .aload_n 0, 1, [], .null), (1, 7, .getfield 12, 3, [3, 0, 3, 0, 167], .null), (4, 0, .aload_n 1, 1, [], .null), (5, 7, .getfield 77, 3, [6, 0, 3, 0, 60], .null), (8, 7, .getfield 81, 3, [7, 1, 0, 0, 49], .null), (11, 0, .iconst 1, 1, [], .int 1), (12, 0, .isub, 1, [], .null), (13, 0, .aload_n 1, 1, [], .null), (14, 7, .getfield 84, 3, [6, 1, 3, 0, 65], .null), (17, 7, .getfield 81, 3, [7, 1, 0, 0, 49], .null), (20, 0, .iconst 1, 1, [], .int 1), (21, 0, .isub, 1, [], .null), (22, 1, .invokevirtual 73, 3, [1, 3, 0, 1, 2, 52], .null), (25, 2, .ireturn, 1, [], .null)] -- X2_leastFromBegin
def xc_12 : List xE := [(0, 0, .aload_n 0, 1, [], .null), (1, 7, .getfield 18, 3, [3, 1, 3, 0, 168], .null), (4, 0, .iconst 0, 1, [], .int 0), (5, 0, .iconst 0, 1, [], .int 0), (6, 1, .invokevirtual 73, 3, [1, 3, 0, 1, 2, 52], .null), (9, 2, .ireturn, 1, [], .null)] -- X2_leastFromEnd
def xc_13 : List xE := [(0, 0, .iload_n 1, 1, [], .null), (1, 0, .ifCond .ne 10, 3, [5], .null), (4, 0, .aload_n 0, 1, [], .null), (5, 7, .getfield 27, 3, [3, 4, 3, 0, 171], .null), (8, 0, .goto 7, 3, [7], .null), (11, 0, .aload_n 0, 1, [], .null), (12, 7, .getfield 31, 3, [3, 5, 3, 0, 172], .null), (15, 0, .astore_n 3, 1, [], .null), (16, 0, .iload_n 2, 1, [], .null), (17, 0, .ifCond .lt 9, 3, [14], .null), (20, 0, .iload_n 2, 1, [], .null), (21, 0, .aload_n 3, 1, [], .null), (22, 7, .arraylength, 1, [], .null), (23, 0, .if_icmp .lt 7, 3, [16], .null), (26, 0, .iconst 0, 1, [], .int 0), (27, 0, .goto 6, 3, [19], .null), (30, 0, .aload_n 3, 1, [], .null), (31, 0, .iload_n 2, 1, [], .null), (32, 7, .iaload, 1, [], .null), (33, 2, .ireturn, 1, [], .null)] -- X2_noteOf
def xc_14 : List xE := [(0, 0, .iload_n 1, 1, [], .null), (1, 0, .ifCond .ne 10, 3, [5], .null), (4, 0, .aload_n 0, 1, [], .null), (5, 7, .getfield 34, 3, [3, 6, 3, 0, 173], .null), (8, 0, .goto 7, 3, [7], .null), (11, 0, .aload_n 0, 1, [], .null), (12, 7, .getfield 37, 3, [3, 7, 3, 0, 174], .null), (15, 0, .astore_n 3, 1, [], .null), (16, 0, .iload_n 2, 1, [], .null), (17, 0, .ifCond .lt 9, 3, [14], .null), (20, 0, .iload_n 2, 1, [], .null), (21, 0, .aload_n 3, 1, [], .null), (22, 7, .arraylength, 1, [], .null), (23, 0, .if_icmp .lt 7, 3, [16], .null), (26, 0, .iconst 0, 1, [], .int 0), (27, 0, .goto 6, 3, [19], .null), (30, 0, .aload_n 3, 1, [], .null), (31, 0, .iload_n 2, 1, [], .null), (32, 7, .iaload, 1, [], .null), (33, 2, .ireturn, 1, [], .null)] -- X2_stretchOf
def xc_15 : List xE := [(0, 0, .iconst 0, 1, [], .int 0), (1, 0, .istore_n 2, 1, [], .null), (2, 0, .iconst 0, 1, [], .int 0), (3, 0, .istore_n 3, 1, [], .null), (4, 0, .iload_n 3, 1, [], .null), (5, 0, .bipush 20, 2, [], .int 20), (7, 0, .if_icmp .ge 20, 3, [16], .null), (10, 0, .iload_n 2, 1, [], .null), (11, 0, .aload_n 0, 1, [], .null), (12, 0, .iload_n 1, 1, [], .null), (13, 0, .iload_n 3, 1, [], .null), (14, 1, .invokevirtual 87, 3, [14, 3, 0, 3, 3, 139], .null), (17, 8, .invokestatic 90, 3, [0, 3, 140], .null), (20, 0, .istore_n 2, 1, [], .null), (21, 0, .iinc 3 1, 3, [], .int 1), (24, 0, .goto (-20), 3, [4], .null), (27, 0, .iload_n 2, 1, [], .null), (28, 2, .ireturn, 1, [], .null)] -- X2_greatestStretch
def xc_16 : List xE := [(0, 0, .aload_n 0, 1, [], .null), (1, 7, .getfield 40, 3, [3, 8, 0, 0, 175], .null), (4, 0, .ifCond .gt 7, 3, [5], .null), (7, 0, .dconst 0, 1, [], .double FP.dconst0), (8, 0, .goto 19, 3, [15], .null), (11, 0, .aload_n 0, 1, [], .null), (12, 7, .getfield 40, 3, [3, 8, 0, 0, 175], .null), (15, 0, .aload_n 0, 1, [], .null), (16, 7, .getfield 44, 3, [3, 9, 0, 0, 177], .null), (19, 0, .isub, 1, [], .null), (20, 0, .i2d, 1, [], .null), (21, 0, .aload_n 0, 1, [], .null), (22, 7, .getfield 40, 3, [3, 8, 0, 0, 175], .null), (25, 0, .i2d, 1, [], .null), (26, 0, .ddiv, 1, [], .null), (27, 2, .dreturn, 1, [], .null)] -- X2_shareOfBoth
def xc_17 : List xE := [(0, 0, .aload_n 1, 1, [], .null), (1, 7, .getfield 77, 3, [6, 0, 3, 0, 60], .null), (4, 7, .getfield 81, 3, [7, 1, 0, 0, 49], .null), (7, 0, .iconst 1, 1, [], .int 1), (8, 0, .isub, 1, [], .null), (9, 0, .istore_n 2, 1, [], .null), (10, 0, .iload_n 2, 1, [], .null), (11, 0, .ifCond .lt 130, 3, [73], .null), (14, 0, .aload_n 1, 1, [], .null), (15, 7, .getfield 84, 3, [6, 1, 3, 0, 65], .null), (18, 7, .getfield 81, 3, [7, 1, 0, 0, 49], .null), (21, 0, .iconst 1, 1, [], .int 1), (22, 0, .isub, 1, [], .null), (23, 0, .istore_n 3, 1, [], .null), (24, 0, .iload_n 3, 1, [], .null), (25, 0, .ifCond .lt 110, 3, [71], .null), (28, 0, .iconst 0, 1, [], .int 0), (29, 0, .istore 4, 2, [], .null), (31, 0, .aload_n 1, 1, [], .null), (32, 0, .iload_n 2, 1, [], .null), (33, 0, .iload_n 3, 1, [], .null), (34, 1, .invokevirtual 95, 3, [36, 3, 0, 6, 2, 41], .null), (37, 0, .ifCond .eq 7, 3, [25], .null), (40, 0, .iconst 1, 1, [], .int 1), (41, 0, .goto 4, 3, [26], .null), (44, 0, .iconst 0, 1, [], .int 0), (45, 0, .istore 5, 2, [], .null), (47, 0, .iconst 3, 1, [], .int 3), (48, 0, .istore 6, 2, [], .null), (50, 0, .iload 6, 2, [], .null), (52, 0, .iconst 1, 1, [], .int 1), (53, 0, .if_icmp .lt 49, 3, [55], .null), (56, 0, .aload_n 0, 1, [], .null), (57, 0, .aload_n 1, 1, [], .null), (58, 0, .iload_n 2, 1, [], .null), (59, 0, .iload_n 3, 1, [], .null), (60, 0, .iload 6, 2, [], .null), (62, 1, .invokevirtual 99, 3, [18, 5, 0, 3, 2, 42], .null), (65, 0, .ifCond .eq 31, 3, [53], .null), (68, 0, .iload 6, 2, [], .null), (70, 0, .istore 4, 2, [], .null), (72, 0, .iload 5, 2, [], .null), (74, 0, .aload_n 0, 1, [], .null), (75, 7, .getfield 24, 3, [3, 3, 3, 0, 170], .null), (78, 0, .iload_n 2, 1, [], .null), (79, 0, .iload 6, 2, [], .null), (81, 1, .invokestatic 103, 3, [19, 2, 1, 3, 2, 46], .null), (84, 0, .iload_n 3, 1, [], .null), (85, 0, .iload 6, 2, [], .null), (87, 1, .invokestatic 106, 3, [20, 2, 1, 3, 2, 49], .null), (90, 1, .invokevirtual 73, 3, [1, 3, 0, 1, 2, 52], .null), (93, 0, .iadd, 1, [], .null), (94, 0, .istore 5, 2, [], .null), (96, 0, .iinc 6 (-1), 3, [], .int (-1)), (99, 0, .goto (-49), 3, [29], .null), (102, 0, .aload_n 0, 1, [], .null), (103, 7, .getfield 21, 3, [3, 2, 3, 0, 169], .null), (106, 0, .iload_n 2, 1, [], .null), (107, 0, .iload_n 3, 1, [], .null), (108, 0, .iload 4, 2, [], .null), (110, 1, .invokevirtual 109, 3, [2, 4, 0, 1, 2, 55], .null), (113, 0, .aload_n 0, 1, [], .null), (114, 7, .getfield 24, 3, [3, 3, 3, 0, 170], .null), (117, 0, .iload_n 2, 1, [], .null), (118, 0, .iload_n 3, 1, [], .null), (119, 0, .ldc 113, 2, [2, 56], .int 1000000), (121, 0, .iload 5, 2, [], .null), (123, 8, .invokestatic 114, 3, [1, 2, 57], .null), (126, 1, .invokevirtual 109, 3, [2, 4, 0, 1, 2, 55], .null), (129, 0, .iinc 3 (-1), 3, [], .int (-1)), (132, 0, .goto (-108), 3, [14], .null), (135, 0, .iinc 2 (-1), 3, [], .int (-1)), (138, 0, .goto (-128), 3, [6], .null), (141, 2, .return_, 1, [], .null)] -- X2_tellSteps
def xc_18 : List xE := [(0, 0, .aload_n 0, 1, [], .null), (1, 7, .getfield 18, 3, [3, 1, 3, 0, 168], .null), (4, 0, .iload_n 2, 1, [], .null), (5, 0, .iload 4, 2, [], .null), (7, 1, .invokestatic 103, 3, [19, 2, 1, 3, 2, 46], .null), (10, 0, .iload_n 3, 1, [], .null), (11, 0, .iload 4, 2, [], .null), (13, 1, .invokestatic 106, 3, [20, 2, 1, 3, 2, 49], .null), (16, 1, .invokevirtual 73, 3, [1, 3, 0, 1, 2, 52], .null), (19, 0, .istore 5, 2, [], .null), (21, 0, .iload 4, 2, [], .null), (23, 0, .iconst 1, 1, [], .int 1), (24, 0, .if_icmp .ne 7, 3, [15], .null), (27, 0, .iconst 0, 1, [], .int 0), (28, 0, .goto 7, 3, [17], .null), (31, 0, .aload_n 1, 1, [], .null), (32, 7, .getfield 117, 3, [6, 3, 0, 0, 76], .null), (35, 0, .istore 6, 2, [], .null), (37, 0, .iload 5, 2, [], .null), (39, 0, .ldc 120, 2, [2, 53], .int 1000000000), (41, 0, .if_icmp .ge 31, 3, [37], .null), (44, 0, .aload_n 0, 1, [], .null), (45, 7, .getfield 18, 3, [3, 1, 3, 0, 168], .null), (48, 0, .iload_n 2, 1, [], .null), (49, 0, .iload_n 3, 1, [], .null), (50, 1, .invokevirtual 73, 3, [1, 3, 0, 1, 2, 52], .null), (53, 0, .aload_n 1, 1, [], .null), (54, 0, .iload_n 2, 1, [], .null), (55, 0, .iload_n 3, 1, [], .null), (56, 1, .invokevirtual 121, 3, [37, 3, 0, 6, 2, 54], .null), (59, 0, .iload 6, 2, [], .null), (61, 0, .iadd, 1, [], .null), (62, 0, .iload 5, 2, [], .null), (64, 0, .iadd, 1, [], .null), (65, 0, .if_icmp .ne 7, 3, [37], .null), (68, 0, .iconst 1, 1, [], .int 1), (69, 0, .goto 4, 3, [38], .null), (72, 0, .iconst 0, 1, [], .int 0), (73, 2, .ireturn, 1, [], .null)] -- X2_isBestStep
def xc_19 : List xE := [(0, 0, .iload_n 1, 1, [], .null), (1, 0, .iconst 1, 1, [], .int 1), (2, 0, .if_icmp .eq 8, 3, [6], .null), (5, 0, .iload_n 1, 1, [], .null), (6, 0, .iconst 2, 1, [], .int 2), (7, 0, .if_icmp .ne 9, 3, [10], .null), (10, 0, .iload_n 0, 1, [], .null), (11, 0, .iconst 1, 1, [], .int 1), (12, 0, .iadd, 1, [], .null), (13, 0, .goto 4, 3, [11], .null), (16, 0, .iload_n 0, 1, [], .null), (17, 2, .ireturn, 1, [], .null)] -- X2_firstAfter
def xc_20 : List xE := [(0, 0, .iload_n 1, 1, [], .null), (1, 0, .iconst 1, 1, [], .int 1), (2, 0, .if_icmp .eq 8, 3, [6], .null), (5, 0, .iload_n 1, 1, [], .null), (6, 0, .iconst 3, 1, [], .int 3), (7, 0, .if_icmp .ne 9, 3, [10], .null), (10, 0, .iload_n 0, 1, [], .null), (11, 0, .iconst 1, 1, [], .int 1), (12, 0, .iadd, 1, [], .null), (13, 0, .goto 4, 3, [11], .null), (16, 0, .iload_n 0, 1, [], .null), (17, 2, .ireturn, 1, [], .null)] -- X2_secondAfter
def xc_21 : List xE := [(0, 0, .aload_n 0, 1, [], .null), (1, 0, .iconst 0, 1, [], .int 0), (2, 7, .putfield 40, 3, [3, 8, 0, 0, 175], .null), (5, 0, .aload_n 0, 1, [], .null), (6, 0, .iconst 0, 1, [], .int 0), (7, 7, .putfield 44, 3, [3, 9, 0, 0, 177], .null), (10, 0, .aload_n 0, 1, [], .null), (11, 7, .getfield 34, 3, [3, 6, 3, 0, 173], .null), (14, 0, .iconst 0, 1, [], .int 0), (15, 1, .invokestatic 124, 3, [111, 2, 1, 0, 2, 62], .null), (18, 0, .aload_n 0, 1, [], .null), (19, 7, .getfield 37, 3, [3, 7, 3, 0, 174], .null), (22, 0, .iconst 0, 1, [], .int 0), (23, 1, .invokestatic 124, 3, [111, 2, 1, 0, 2, 62], .null), (26, 0, .iconst 0, 1, [], .int 0), (27, 0, .istore_n 2, 1, [], .null), (28, 0, .iconst 0, 1, [], .int 0), (29, 0, .istore_n 3, 1, [], .null), (30, 0, .aload_n 1, 1, [], .null), (31, 1, .invokevirtual 69, 3, [35, 1, 0, 6, 2, 63], .null), (34, 0, .istore 4, 2, [], .null), (36, 0, .iconst 0, 1, [], .int 0), (37, 0, .istore 5, 2, [], .null), (39, 0, .iload 5, 2, [], .null), (41, 0, .bipush 39, 2, [], .int 39), (43, 0, .if_icmp .ge 79, 3, [66], .null), (46, 0, .iload 4, 2, [], .null), (48, 0, .ifCond .eq 74, 3, [66], .null), (51, 0, .aload_n 0, 1, [], .null), (52, 0, .iload_n 2, 1, [], .null), (53, 0, .iload_n 3, 1, [], .null), (54, 1, .invokevirtual 130, 3, [22, 3, 0, 3, 2, 64], .null), (57, 0, .aload_n 0, 1, [], .null), (58, 7, .getfield 21, 3, [3, 2, 3, 0, 169], .null), (61, 0, .iload_n 2, 1, [], .null), (62, 0, .iload_n 3, 1, [], .null), (63, 1, .invokevirtual 73, 3, [1, 3, 0, 1, 2, 52], .null), (66, 0, .istore 6, 2, [], .null), (68, 0, .iload 6, 2, [], .null), (70, 0, .ifCond .eq 7, 3, [42], .null), (73, 0, .iconst 1, 1, [], .int 1), (74, 0, .goto 4, 3, [43], .null), (77, 0, .iconst 0, 1, [], .int 0), (78, 0, .istore 4, 2, [], .null), (80, 0, .iload 6, 2, [], .null), (82, 0, .iconst 2, 1, [], .int 2), (83, 0, .if_icmp .eq 9, 3, [50], .null), (86, 0, .iload 6, 2, [], .null), (88, 0, .iconst 3, 1, [], .int 3), (89, 0, .if_icmp .ne 13, 3, [56], .null), (92, 0, .aload_n 0, 1, [], .null), (93, 0, .dup, 1, [], .null), (94, 7, .getfield 44, 3, [3, 9, 0, 0, 177], .null), (97, 0, .iconst 1, 1, [], .int 1), (98, 0, .iadd, 1, [], .null), (99, 7, .putfield 44, 3, [3, 9, 0, 0, 177], .null), (102, 0, .iload_n 2, 1, [], .null), (103, 0, .iload 6, 2, [], .null), (105, 1, .invokestatic 103, 3, [19, 2, 1, 3, 2, 46], .null), (108, 0, .istore_n 2, 1, [], .null), (109, 0, .iload_n 3, 1, [], .null), (110, 0, .iload 6, 2, [], .null), (112, 1, .invokestatic 106, 3, [20, 2, 1, 3, 2, 49], .null), (115, 0, .istore_n 3, 1, [], .null), (116, 0, .iinc 5 1, 3, [], .int 1), (119, 0, .goto (-80), 3, [23], .null), (122, 2, .return_, 1, [], .null)] -- X2_walkFirst
def xc_22 : List xE := [(0, 0, .aload_n 0, 1, [], .null), (1, 7, .getfield 40, 3, [3, 8, 0, 0, 175], .null), (4, 0, .ifCond .lt 57, 3, [33], .null), (7, 0, .aload_n 0, 1, [], .null), (8, 7, .getfield 40, 3, [3, 8, 0, 0, 175], .null), (11, 0, .aload_n 0, 1, [], .null), (12, 7, .getfield 27, 3, [3, 4, 3, 0, 171], .null), (15, 7, .arraylength, 1, [], .null), (16, 0, .if_icmp .ge 45, 3, [33], .null), (19, 0, .aload_n 0, 1, [], .null), (20, 7, .getfield 40, 3, [3, 8, 0, 0, 175], .null), (23, 0, .aload_n 0, 1, [], .null), (24, 7, .getfield 31, 3, [3, 5, 3, 0, 172], .null), (27, 7, .arraylength, 1, [], .null), (28, 0, .if_icmp .ge 33, 3, [33], .null), (31, 0, .aload_n 0, 1, [], .null), (32, 7, .getfield 27, 3, [3, 4, 3, 0, 171], .null), (35, 0, .aload_n 0, 1, [], .null), (36, 7, .getfield 40, 3, [3, 8, 0, 0, 175], .null), (39, 0, .iload_n 1, 1, [], .null), (40, 7, .iastore, 1, [], .null), (41, 0, .aload_n 0, 1, [], .null), (42, 7, .getfield 31, 3, [3, 5, 3, 0, 172], .null), (45, 0, .aload_n 0, 1, [], .null), (46, 7, .getfield 40, 3, [3, 8, 0, 0, 175], .null), (49, 0, .iload_n 2, 1, [], .null), (50, 7, .iastore, 1, [], .null), (51, 0, .aload_n 0, 1, [], .null), (52, 0, .dup, 1, [], .null), (53, 7, .getfield 40, 3, [3, 8, 0, 0, 175], .null), (56, 0, .iconst 1, 1, [], .int 1), (57, 0, .iadd, 1, [], .null), (58, 7, .putfield 40, 3, [3, 8, 0, 0, 175], .null), (61, 0, .iload_n 1, 1, [], .null), (62, 0, .ifCond .lt 22, 3, [48], .null), (65, 0, .iload_n 1, 1, [], .null), (66, 0, .aload_n 0, 1, [], .null), (67, 7, .getfield 34, 3, [3, 6, 3, 0, 173], .null), (70, 7, .arraylength, 1, [], .null), (71, 0, .if_icmp .ge 13, 3, [48], .null), (74, 0, .aload_n 0, 1, [], .null), (75, 7, .getfield 34, 3, [3, 6, 3, 0, 173], .null), (78, 0, .iload_n 1, 1, [], .null), (79, 0, .dup2, 1, [], .null), (80, 7, .iaload, 1, [], .null), (81, 0, .iconst 1, 1, [], .int 1), (82, 0, .iadd, 1, [], .null), (83, 7, .iastore, 1, [], .null), (84, 0, .iload_n 2, 1, [], .null), (85, 0, .ifCond .lt 22, 3, [63], .null), (88, 0, .iload_n 2, 1, [], .null), (89, 0, .aload_n 0, 1, [], .null), (90, 7, .getfield 37, 3, [3, 7, 3, 0, 174], .null), (93, 7, .arraylength, 1, [], .null), (94, 0, .if_icmp .ge 13, 3, [63], .null), (97, 0, .aload_n 0, 1, [], .null), (98, 7, .getfield 37, 3, [3, 7, 3, 0, 174], .null), (101, 0, .iload_n 2, 1, [], .null), (102, 0, .dup2, 1, [], .null), (103, 7, .iaload, 1, [], .null), (104, 0, .iconst 1, 1, [], .int 1), (105, 0, .iadd, 1, [], .null), (106, 7, .iastore, 1, [], .null), (107, 2, .return_, 1, [], .null)] -- X2_addPair
def xc_23 : List xE := [(0, 0, .aload_n 0, 1, [], .null), (1, 4, .invokespecial 3, 3, [0, 210], .null), (4, 0, .aload_n 0, 1, [], .null), (5, 7, .new 9, 3, [1, 1, 0, 211, 0, 158, 0, 11], .null), (8, 0, .dup, 1, [], .null), (9, 1, .invokespecial 11, 3, [0, 1, 3, 1, 0, 212], .null), (12, 7, .putfield 12, 3, [4, 0, 3, 0, 214], .null), (15, 0, .aload_n 0, 1, [], .null), (16, 7, .new 9, 3, [1, 1, 0, 211, 0, 158, 0, 11], .null), (19, 0, .dup, 1, [], .null), (20, 1, .invokespecial 11, 3, [0, 1, 3, 1, 0, 212], .null), (23, 7, .putfield 18, 3, [4, 1, 3, 0, 215], .null), (26, 0, .aload_n 0, 1, [], .null), (27, 0, .iconst 0, 1, [], .int 0), (28, 7, .putfield 21, 3, [4, 2, 0, 0, 216], .null), (31, 0, .aload_n 0, 1, [], .null), (32, 0, .iconst 0, 1, [], .int 0), (33, 7, .putfield 25, 3, [4, 3, 0, 0, 218], .null), (36, 0, .aload_n 0, 1, [], .null), (37, 0, .iconst 0, 1, [], .int 0), (38, 7, .putfield 28, 3, [4, 4, 0, 0, 220], .null), (41, 0, .aload_n 0, 1, [], .null), (42, 0, .ldc 31, 2, [0, 213], .int 1000000000), (44, 7, .putfield 32, 3, [4, 5, 0, 0, 222], .null), (47, 0, .aload_n 0, 1, [], .null), (48, 0, .iconst (-1), 1, [], .int (-1)), (49, 7, .putfield 35, 3, [4, 6, 0, 0, 223], .null), (52, 2, .return_, 1, [], .null)] -- X3_init
def xc_24 : List xE := [(0, 0, .iconst 0, 1, [], .int 0), (1, 0, .istore_n 2, 1, [], .null), (2, 0, .iload_n 2, 1, [], .null), (3, 0, .aload_n 1, 1, [], .null), (4, 7, .getfield 38, 3, [6, 0, 3, 0, 59], .null), (7, 7, .getfield 44, 3, [7, 1, 0, 0, 47], .null), (10, 0, .if_icmp .ge 35, 3, [23], .null), (13, 0, .iconst 0, 1, [], .int 0), (14, 0, .istore_n 3, 1, [], .null), (15, 0, .iload_n 3, 1, [], .null), (16, 0, .aload_n 1, 1, [], .null), (17, 7, .getfield 49, 3, [6, 1, 3, 0, 64], .null), (20, 7, .getfield 44, 3, [7, 1, 0, 0, 47], .null), (23, 0, .if_icmp .ge 16, 3, [21], .null), (26, 0, .aload_n 0, 1, [], .null), (27, 0, .aload_n 1, 1, [], .null), (28, 0, .iload_n 2, 1, [], .null), (29, 0, .iload_n 3, 1, [], .null), (30, 1, .invokevirtual 52, 3, [25, 4, 0, 4, 3, 58], .null), (33, 0, .iinc 3 1, 3, [], .int 1), (36, 0, .goto (-21), 3, [9], .null), (39, 0, .iinc 2 1, 3, [], .int 1), (42, 0, .goto (-40), 3, [2], .null), (45, 0, .aload_n 0, 1, [], .null), (46, 0, .aload_n 1, 1, [], .null), (47, 7, .getfield 38, 3, [6, 0, 3, 0, 59], .null), (50, 7, .getfield 44, 3, [7, 1, 0, 0, 47], .null), (53, 0, .iconst 1, 1, [], .int 1), (54, 0, .isub, 1, [], .null), (55, 0, .aload_n 1, 1, [], .null), (56, 7, .getfield 49, 3, [6, 1, 3, 0, 64], .null), (59, 7, .getfield 44, 3, [7, 1, 0, 0, 47], .null), (62, 1, .invokevirtual 56, 3, [27, 3, 0, 4, 3, 69], .null), (65, 2, .return_, 1, [], .null)] -- X3_find
def xc_25 : List xE := [(0, 0, .aload_n 0, 1, [], .null), (1, 0, .ldc 31, 2, [0, 213], .int 1000000000), (3, 7, .putfield 32, 3, [4, 5, 0, 0, 222], .null), (6, 0, .aload_n 0, 1, [], .null), (7, 0, .iconst (-1), 1, [], .int (-1)), (8, 7, .putfield 35, 3, [4, 6, 0, 0, 223], .null), (11, 0, .iload_n 2, 1, [], .null), (12, 0, .ifCond .ne 9, 3, [12], .null), (15, 0, .aload_n 0, 1, [], .null), (16, 0, .iconst 0, 1, [], .int 0), (17, 0, .iload_n 3, 1, [], .null), (18, 1, .invokevirtual 60, 3, [26, 3, 0, 4, 3, 62], .null), (21, 0, .aload_n 0, 1, [], .null), (22, 0, .aload_n 0, 1, [], .null), (23, 7, .getfield 12, 3, [4, 0, 3, 0, 214], .null), (26, 0, .iload_n 2, 1, [], .null), (27, 0, .iconst 1, 1, [], .int 1), (28, 0, .isub, 1, [], .null), (29, 0, .iload_n 3, 1, [], .null), (30, 0, .iconst 1, 1, [], .int 1), (31, 0, .isub, 1, [], .null), (32, 1, .invokevirtual 63, 3, [1, 3, 0, 1, 3, 66], .null), (35, 0, .aload_n 0, 1, [], .null), (36, 7, .getfield 18, 3, [4, 1, 3, 0, 215], .null), (39, 0, .iload_n 2, 1, [], .null), (40, 0, .iconst 1, 1, [], .int 1), (41, 0, .isub, 1, [], .null), (42, 0, .iload_n 3, 1, [], .null), (43, 0, .iconst 1, 1, [], .int 1), (44, 0, .isub, 1, [], .null), (45, 1, .invokevirtual 63, 3, [1, 3, 0, 1, 3, 66], .null), (48, 1, .invokevirtual 60, 3, [26, 3, 0, 4, 3, 62], .null), (51, 0, .aload_n 0, 1, [], .null), (52, 0, .aload_n 0, 1, [], .null), (53, 7, .getfield 12, 3, [4, 0, 3, 0, 214], .null), (56, 0, .iload_n 2, 1, [], .null), (57, 0, .iconst 1, 1, [], .int 1), (58, 0, .isub, 1, [], .null), (59, 0, .iload_n 3, 1, [], .null), (60, 1, .invokevirtual 63, 3, [1, 3, 0, 1, 3, 66], .null), (63, 0, .aload_n 1, 1, [], .null), (64, 7, .getfield 67, 3, [6, 3, 0, 0, 73], .null), (67, 0, .iadd, 1, [], .null), (68, 0, .aload_n 0, 1, [], .null), (69, 7, .getfield 18, 3, [4, 1, 3, 0, 215], .null), (72, 0, .iload_n 2, 1, [], .null), (73, 0, .iconst 1, 1, [], .int 1), (74, 0, .isub, 1, [], .null), (75, 0, .iload_n 3, 1, [], .null), (76, 1, .invokevirtual 63, 3, [1, 3, 0, 1, 3, 66], .null), (79, 1, .invokevirtual 60, 3, [26, 3, 0, 4, 3, 62], .null), (82, 0, .aload_n 0, 1, [], .null), (83, 0, .aload_n 0, 1, [], .null), (84, 7, .getfield 12, 3, [4, 0, 3, 0, 214], .null), (87, 0, .iload_n 2, 1, [], .null), (88, 0, .iload_n 3, 1, [], .null), (89, 0, .iconst 1, 1, [], .int 1), (90, 0, .isub, 1, [], .null), (91, 1, .invokevirtual 63, 3, [1, 3, 0, 1, 3, 66], .null), (94, 0, .aload_n 1, 1, [], .null), (95, 7, .getfield 67, 3, [6, 3, 0, 0, 73], .null), (98, 0, .iadd, 1, [], .null), (99, 0, .aload_n 0, 1, [], .null), (100, 7, .getfield 18, 3, [4, 1, 3, 0, 215], .null), (103, 0, .iload_n 2, 1, [], .null), (104, 0, .iload_n 3, 1, [], .null), (105, 0, .iconst 1, 1, [], .int 1), (106, 0, .isub, 1, [], .null), (107, 1, .invokevirtual 63, 3, [1, 3, 0, 1, 3, 66], .null), (110, 1, .invokevirtual 60, 3, [26, 3, 0, 4, 3, 62], .null), (113, 0, .aload_n 0, 1, [], .null), (114, 7, .getfield 12, 3, [4, 0, 3, 0, 214], .null), (117, 0, .iload_n 2, 1, [], .null), (118, 0, .iload_n 3, 1, [], .null), (119, 0, .aload_n 0, 1, [], .null), (120, 7, .getfield 32, 3, [4, 5, 0, 0, 222], .null), (123, 0, .aload_n 1, 1, [], .null), (124, 0, .iload_n 2, 1, [], .null), (125, 0, .iload_n 3, 1, [], .null), (126, 1, .invokevirtual 70, 3, [37, 3, 0, 6, 3, 67], .null), (129, 0, .iadd, 1, [], .null), (130, 1, .invokevirtual 73, 3, [2, 4, 0, 1, 3, 68], .null), (133, 0, .aload_n 0, 1, [], .null), (134, 7, .getfield 18, 3, [4, 1, 3, 0, 215], .null), (137, 0, .iload_n 2, 1, [], .null), (138, 0, .iload_n 3, 1, [], .null), (139, 0, .aload_n 0, 1, [], .null), (140, 7, .getfield 35, 3, [4, 6, 0, 0, 223], .null), (143, 1, .invokevirtual 73, 3, [2, 4, 0, 1, 3, 68], .null), (146, 2, .return_, 1, [], .null)] -- X3_tellCell
def xc_26 : List xE := [(0, 0, .iload_n 1, 1, [], .null), (1, 0, .aload_n 0, 1, [], .null), (2, 7, .getfield 32, 3, [4, 5, 0, 0, 222], .null), (5, 0, .if_icmp .lt 19, 3, [12], .null), (8, 0, .iload_n 1, 1, [], .null), (9, 0, .aload_n 0, 1, [], .null), (10, 7, .getfield 32, 3, [4, 5, 0, 0, 222], .null), (13, 0, .if_icmp .ne 21, 3, [18], .null), (16, 0, .iload_n 2, 1, [], .null), (17, 0, .aload_n 0, 1, [], .null), (18, 7, .getfield 35, 3, [4, 6, 0, 0, 223], .null), (21, 0, .if_icmp .le 13, 3, [18], .null), (24, 0, .aload_n 0, 1, [], .null), (25, 0, .iload_n 1, 1, [], .null), (26, 7, .putfield 32, 3, [4, 5, 0, 0, 222], .null), (29, 0, .aload_n 0, 1, [], .null), (30, 0, .iload_n 2, 1, [], .null), (31, 7, .putfield 35, 3, [4, 6, 0, 0, 223], .null), (34, 2, .return_, 1, [], .null)] -- X3_consider
def xc_27 : List xE := [(0, 0, .aload_n 0, 1, [], .null), (1, 0, .ldc 31, 2, [0, 213], .int 1000000000), (3, 7, .putfield 21, 3, [4, 2, 0, 0, 216], .null), (6, 0, .iconst 0, 1, [], .int 0), (7, 0, .istore_n 3, 1, [], .null), (8, 0, .iload_n 3, 1, [], .null), (9, 0, .iload_n 2, 1, [], .null), (10, 0, .if_icmp .ge 56, 3, [35], .null), (13, 0, .aload_n 0, 1, [], .null), (14, 7, .getfield 12, 3, [4, 0, 3, 0, 214], .null), (17, 0, .iload_n 1, 1, [], .null), (18, 0, .iload_n 3, 1, [], .null), (19, 1, .invokevirtual 63, 3, [1, 3, 0, 1, 3, 66], .null), (22, 0, .aload_n 0, 1, [], .null), (23, 7, .getfield 21, 3, [4, 2, 0, 0, 216], .null), (26, 0, .if_icmp .ge 34, 3, [33], .null), (29, 0, .aload_n 0, 1, [], .null), (30, 0, .aload_n 0, 1, [], .null), (31, 7, .getfield 12, 3, [4, 0, 3, 0, 214], .null), (34, 0, .iload_n 1, 1, [], .null), (35, 0, .iload_n 3, 1, [], .null), (36, 1, .invokevirtual 63, 3, [1, 3, 0, 1, 3, 66], .null), (39, 7, .putfield 21, 3, [4, 2, 0, 0, 216], .null), (42, 0, .aload_n 0, 1, [], .null), (43, 0, .aload_n 0, 1, [], .null), (44, 7, .getfield 18, 3, [4, 1, 3, 0, 215], .null), (47, 0, .iload_n 1, 1, [], .null), (48, 0, .iload_n 3, 1, [], .null), (49, 1, .invokevirtual 63, 3, [1, 3, 0, 1, 3, 66], .null), (52, 7, .putfield 25, 3, [4, 3, 0, 0, 218], .null), (55, 0, .aload_n 0, 1, [], .null), (56, 0, .iload_n 3, 1, [], .null), (57, 7, .putfield 28, 3, [4, 4, 0, 0, 220], .null), (60, 0, .iinc 3 1, 3, [], .int 1), (63, 0, .goto (-55), 3, [5], .null), (66, 2, .return_, 1, [], .null)] -- X3_choose
def xc_28 : List xE := [(0, 0, .aload_n 0, 1, [], .null), (1, 4, .invokespecial 3, 3, [0, 129], .null), (4, 0, .aload_n 0, 1, [], .null), (5, 0, .bipush 30, 2, [], .int 30), (7, 7, .newarray .int, 2, [0, 57], .null), (9, 7, .putfield 9, 3, [5, 0, 3, 0, 132], .null), (12, 0, .aload_n 0, 1, [], .null), (13, 0, .iconst 0, 1, [], .int 0), (14, 7, .putfield 15, 3, [5, 1, 0, 0, 133], .null), (17, 0, .aload_n 0, 1, [], .null), (18, 0, .iconst 0, 1, [], .int 0), (19, 7, .putfield 19, 3, [5, 2, 0, 0, 134], .null), (22, 0, .aload_n 0, 1, [], .null), (23, 7, .getstatic 22, 3, [0, 130], .ref 0), (26, 7, .putfield 28, 3, [5, 3, 3, 0, 135], .null), (29, 0, .aload_n 0, 1, [], .null), (30, 0, .iconst 0, 1, [], .int 0), (31, 7, .putfield 31, 3, [5, 4, 0, 0, 136], .null), (34, 0, .aload_n 0, 1, [], .null), (35, 0, .iconst 0, 1, [], .int 0), (36, 7, .putfield 34, 3, [5, 5, 0, 0, 137], .null), (39, 2, .return_, 1, [], .null)] -- X4_init
def xc_29 : List xE := [(0, 0, .aload_n 0, 1, [], .null), (1, 4, .invokespecial 3, 3, [0, 38], .null), (4, 0, .aload_n 0, 1, [], .null), (5, 7, .new 9, 3, [7, 2, 0, 39, 0, 40, 0, 3], .null), (8, 0, .dup, 1, [], .null), (9, 1, .invokespecial 11, 3, [39, 1, 3, 7, 0, 41], .null), (12, 7, .putfield 12, 3, [6, 0, 3, 0, 58], .null), (15, 0, .aload_n 0, 1, [], .null), (16, 7, .new 9, 3, [7, 2, 0, 39, 0, 40, 0, 3], .null), (19, 0, .dup, 1, [], .null), (20, 1, .invokespecial 11, 3, [39, 1, 3, 7, 0, 41], .null), (23, 7, .putfield 18, 3, [6, 1, 3, 0, 63], .null), (26, 0, .aload_n 0, 1, [], .null), (27, 0, .bipush 20, 2, [], .int 20), (29, 7, .putfield 21, 3, [6, 2, 0, 0, 68], .null), (32, 0, .aload_n 0, 1, [], .null), (33, 0, .iconst 1, 1, [], .int 1), (34, 7, .putfield 25, 3, [6, 3, 0, 0, 72], .null), (37, 0, .aload_n 0, 1, [], .null), (38, 0, .iconst 0, 1, [], .int 0), (39, 7, .putfield 28, 3, [6, 4, 0, 0, 77], .null), (42, 0, .aload_n 0, 1, [], .null), (43, 0, .iconst 0, 1, [], .int 0), (44, 7, .putfield 31, 3, [6, 5, 0, 0, 79], .null), (47, 0, .aload_n 0, 1, [], .null), (48, 0, .iconst 0, 1, [], .int 0), (49, 7, .putfield 34, 3, [6, 6, 0, 0, 81], .null), (52, 2, .return_, 1, [], .null)] -- X5_init
def xc_30 : List xE := [(0, 0, .aload_n 0, 1, [], .null), (1, 7, .getfield 12, 3, [6, 0, 3, 0, 58], .null), (4, 0, .aload_n 1, 1, [], .null), (5, 7, .getfield 12, 3, [6, 0, 3, 0, 58], .null), (8, 1, .invokevirtual 37, 3, [40, 2, 0, 7, 1, 138], .null), (11, 0, .aload_n 0, 1, [], .null), (12, 7, .getfield 18, 3, [6, 1, 3, 0, 63], .null), (15, 0, .aload_n 1, 1, [], .null), (16, 7, .getfield 18, 3, [6, 1, 3, 0, 63], .null), (19, 1, .invokevirtual 37, 3, [40, 2, 0, 7, 1, 138], .null), (22, 0, .aload_n 0, 1, [], .null), (23, 0, .aload_n 1, 1, [], .null), (24, 7, .getfield 21, 3, [6, 2, 0, 0, 68], .null), (27, 7, .putfield 21, 3, [6, 2, 0, 0, 68], .null), (30, 0, .aload_n 0, 1, [], .null), (31, 0, .aload_n 1, 1, [], .null), (32, 7, .getfield 25, 3, [6, 3, 0, 0, 72], .null), (35, 7, .putfield 25, 3, [6, 3, 0, 0, 72], .null), (38, 0, .aload_n 0, 1, [], .null), (39, 0, .aload_n 1, 1, [], .null), (40, 7, .getfield 28, 3, [6, 4, 0, 0, 77], .null), (43, 7, .putfield 28, 3, [6, 4, 0, 0, 77], .null), (46, 0, .aload_n 0, 1, [], .null), (47, 0, .aload_n 1, 1, [], .null), (48, 7, .getfield 31, 3, [6, 5, 0, 0, 79], .null), (51, 7, .putfield 31, 3, [6, 5, 0, 0, 79], .null), (54, 0, .aload_n 0, 1, [], .null), (55, 0, .aload_n 1, 1, [], .null), (56, 7, .getfield 34, 3, [6, 6, 0, 0, 81], .null), (59, 7, .putfield 34, 3, [6, 6, 0, 0, 81], .null), (62, 2, .return_, 1, [], .null)] -- X5_copyFrom
def xc_31 : List xE := [(0, 0, .iload_n 1, 1, [], .null), (1, 0, .ifCond .ne 10, 3, [5], .null), (4, 0, .aload_n 0, 1, [], .null), (5, 7, .getfield 12, 3, [6, 0, 3, 0, 58], .null), (8, 0, .goto 7, 3, [7], .null), (11, 0, .aload_n 0, 1, [], .null), (12, 7, .getfield 18, 3, [6, 1, 3, 0, 63], .null), (15, 2, .areturn, 1, [], .null)] -- X5_tuneOf
def xc_32 : List xE := [(0, 0, .aload_n 0, 1, [], .null), (1, 7, .getfield 12, 3, [6, 0, 3, 0, 58], .null), (4, 0, .astore_n 1, 1, [], .null), (5, 0, .aload_n 0, 1, [], .null), (6, 0, .aload_n 0, 1, [], .null), (7, 7, .getfield 18, 3, [6, 1, 3, 0, 63], .null), (10, 7, .putfield 12, 3, [6, 0, 3, 0, 58], .null), (13, 0, .aload_n 0, 1, [], .null), (14, 0, .aload_n 1, 1, [], .null), (15, 7, .putfield 18, 3, [6, 1, 3, 0, 63], .null), (18, 2, .return_, 1, [], .null)] -- X5_swapTunes
def xc_33 : List xE := [(0, 0, .aload_n 0, 1, [], .null), (1, 7, .getfield 12, 3, [6, 0, 3, 0, 58], .null), (4, 7, .getfield 41, 3, [7, 1, 0, 0, 51], .null), (7, 0, .aload_n 0, 1, [], .null), (8, 7, .getfield 18, 3, [6, 1, 3, 0, 63], .null), (11, 7, .getfield 41, 3, [7, 1, 0, 0, 51], .null), (14, 0, .isub, 1, [], .null), (15, 8, .invokestatic 44, 3, [2, 1, 206], .null), (18, 2, .ireturn, 1, [], .null)] -- X5_lengthsApart
def xc_34 : List xE := [(0, 0, .aload_n 0, 1, [], .null), (1, 7, .getfield 12, 3, [6, 0, 3, 0, 58], .null), (4, 7, .getfield 41, 3, [7, 1, 0, 0, 51], .null), (7, 0, .ifCond .eq 13, 3, [8], .null), (10, 0, .aload_n 0, 1, [], .null), (11, 7, .getfield 18, 3, [6, 1, 3, 0, 63], .null), (14, 7, .getfield 41, 3, [7, 1, 0, 0, 51], .null), (17, 0, .ifCond .ne 7, 3, [10], .null), (20, 0, .iconst 1, 1, [], .int 1), (21, 0, .goto 4, 3, [11], .null), (24, 0, .iconst 0, 1, [], .int 0), (25, 2, .ireturn, 1, [], .null)] -- X5_hasEmptyTune
def xc_35 : List xE := [(0, 0, .aload_n 0, 1, [], .null), (1, 1, .invokevirtual 50, 3, [34, 1, 0, 6, 1, 198], .null), (4, 0, .ifCond .ne 18, 3, [10], .null), (7, 0, .aload_n 0, 1, [], .null), (8, 1, .invokevirtual 54, 3, [33, 1, 0, 6, 1, 202], .null), (11, 0, .aload_n 0, 1, [], .null), (12, 7, .getfield 21, 3, [6, 2, 0, 0, 68], .null), (15, 0, .if_icmp .gt 7, 3, [10], .null), (18, 0, .iconst 1, 1, [], .int 1), (19, 0, .goto 4, 3, [11], .null), (22, 0, .iconst 0, 1, [], .int 0), (23, 2, .ireturn, 1, [], .null)] -- X5_hasMatch
def xc_36 : List xE := [(0, 0, .iload_n 1, 1, [], .null), (1, 0, .aload_n 0, 1, [], .null), (2, 7, .getfield 12, 3, [6, 0, 3, 0, 58], .null), (5, 7, .getfield 41, 3, [7, 1, 0, 0, 51], .null), (8, 0, .iconst 1, 1, [], .int 1), (9, 0, .isub, 1, [], .null), (10, 0, .if_icmp .ne 20, 3, [16], .null), (13, 0, .iload_n 2, 1, [], .null), (14, 0, .aload_n 0, 1, [], .null), (15, 7, .getfield 18, 3, [6, 1, 3, 0, 63], .null), (18, 7, .getfield 41, 3, [7, 1, 0, 0, 51], .null), (21, 0, .iconst 1, 1, [], .int 1), (22, 0, .isub, 1, [], .null), (23, 0, .if_icmp .ne 7, 3, [16], .null), (26, 0, .iconst 1, 1, [], .int 1), (27, 0, .goto 4, 3, [17], .null), (30, 0, .iconst 0, 1, [], .int 0), (31, 2, .ireturn, 1, [], .null)] -- X5_isLastPair
def xc_37 : List xE := [(0, 0, .aload_n 0, 1, [], .null), (1, 0, .aload_n 0, 1, [], .null), (2, 7, .getfield 12, 3, [6, 0, 3, 0, 58], .null), (5, 0, .iload_n 1, 1, [], .null), (6, 1, .invokevirtual 58, 3, [42, 2, 0, 7, 2, 35], .null), (9, 0, .aload_n 0, 1, [], .null), (10, 7, .getfield 18, 3, [6, 1, 3, 0, 63], .null), (13, 0, .iload_n 2, 1, [], .null), (14, 1, .invokevirtual 58, 3, [42, 2, 0, 7, 2, 35], .null), (17, 0, .isub, 1, [], .null), (18, 1, .invokevirtual 61, 3, [38, 2, 0, 6, 2, 36], .null), (21, 2, .ireturn, 1, [], .null)] -- X5_difference
def xc_38 : List xE := [(0, 0, .iload_n 1, 1, [], .null), (1, 0, .ifCond .ge 8, 3, [5], .null), (4, 0, .iload_n 1, 1, [], .null), (5, 0, .ineg, 1, [], .null), (6, 0, .goto 4, 3, [6], .null), (9, 0, .iload_n 1, 1, [], .null), (10, 0, .istore_n 2, 1, [], .null), (11, 0, .aload_n 0, 1, [], .null), (12, 7, .getfield 28, 3, [6, 4, 0, 0, 77], .null), (15, 0, .ifCond .ne 5, 3, [12], .null), (18, 0, .iload_n 2, 1, [], .null), (19, 2, .ireturn, 1, [], .null), (20, 0, .aload_n 0, 1, [], .null), (21, 7, .getfield 28, 3, [6, 4, 0, 0, 77], .null), (24, 0, .iconst 1, 1, [], .int 1), (25, 0, .if_icmp .ne 7, 3, [20], .null), (28, 0, .iload_n 2, 1, [], .null), (29, 0, .iload_n 2, 1, [], .null), (30, 0, .imul, 1, [], .null), (31, 2, .ireturn, 1, [], .null), (32, 0, .aload_n 0, 1, [], .null), (33, 7, .getfield 28, 3, [6, 4, 0, 0, 77], .null), (36, 0, .iconst 2, 1, [], .int 2), (37, 0, .if_icmp .ne 25, 3, [39], .null), (40, 0, .iload_n 2, 1, [], .null), (41, 0, .bipush 12, 2, [], .int 12), (43, 0, .irem, 1, [], .null), (44, 0, .istore_n 3, 1, [], .null), (45, 0, .iload_n 3, 1, [], .null), (46, 0, .bipush 12, 2, [], .int 12), (48, 0, .iload_n 3, 1, [], .null), (49, 0, .isub, 1, [], .null), (50, 0, .if_icmp .gt 7, 3, [35], .null), (53, 0, .iload_n 3, 1, [], .null), (54, 0, .goto 7, 3, [38], .null), (57, 0, .bipush 12, 2, [], .int 12), (59, 0, .iload_n 3, 1, [], .null), (60, 0, .isub, 1, [], .null), (61, 2, .ireturn, 1, [], .null), (62, 0, .iload_n 2, 1, [], .null), (63, 0, .ifCond .ne 7, 3, [43], .null), (66, 0, .iconst 0, 1, [], .int 0), (67, 0, .goto 4, 3, [44], .null), (70, 0, .iconst 1, 1, [], .int 1), (71, 2, .ireturn, 1, [], .null)] -- X5_judged
def xc_39 : List xE := [(0, 0, .aload_n 0, 1, [], .null), (1, 4, .invokespecial 3, 3, [0, 44], .null), (4, 0, .aload_n 0, 1, [], .null), (5, 0, .bipush 20, 2, [], .int 20), (7, 7, .newarray .int, 2, [0, 57], .null), (9, 7, .putfield 9, 3, [7, 0, 3, 0, 45], .null), (12, 0, .aload_n 0, 1, [], .null), (13, 0, .iconst 0, 1, [], .int 0), (14, 7, .putfield 15, 3, [7, 1, 0, 0, 46], .null), (17, 2, .return_, 1, [], .null)] -- X6_init
def xc_40 : List xE := [(0, 0, .aload_n 1, 1, [], .null), (1, 7, .getfield 9, 3, [7, 0, 3, 0, 45], .null), (4, 0, .iconst 0, 1, [], .int 0), (5, 0, .aload_n 0, 1, [], .null), (6, 7, .getfield 9, 3, [7, 0, 3, 0, 45], .null), (9, 0, .iconst 0, 1, [], .int 0), (10, 0, .bipush 20, 2, [], .int 20), (12, 5, .invokestatic 19, 3, [1, 142], .null), (15, 0, .aload_n 0, 1, [], .null), (16, 0, .aload_n 1, 1, [], .null), (17, 7, .getfield 15, 3, [7, 1, 0, 0, 46], .null), (20, 7, .putfield 15, 3, [7, 1, 0, 0, 46], .null), (23, 2, .return_, 1, [], .null)] -- X6_copyFrom
def xc_41 : List xE := [(0, 0, .iload_n 1, 1, [], .null), (1, 0, .ifCond .lt 15, 3, [8], .null), (4, 0, .iload_n 1, 1, [], .null), (5, 0, .aload_n 0, 1, [], .null), (6, 7, .getfield 15, 3, [7, 1, 0, 0, 46], .null), (9, 0, .if_icmp .ge 7, 3, [8], .null), (12, 0, .iconst 1, 1, [], .int 1), (13, 0, .goto 4, 3, [9], .null), (16, 0, .iconst 0, 1, [], .int 0), (17, 2, .ireturn, 1, [], .null)] -- X6_hasNote
def xc_42 : List xE := [(0, 0, .iload_n 1, 1, [], .null), (1, 0, .ifCond .lt 12, 3, [7], .null), (4, 0, .iload_n 1, 1, [], .null), (5, 0, .aload_n 0, 1, [], .null), (6, 7, .getfield 9, 3, [7, 0, 3, 0, 45], .null), (9, 7, .arraylength, 1, [], .null), (10, 0, .if_icmp .lt 7, 3, [9], .null), (13, 0, .iconst 0, 1, [], .int 0), (14, 0, .goto 9, 3, [13], .null), (17, 0, .aload_n 0, 1, [], .null), (18, 7, .getfield 9, 3, [7, 0, 3, 0, 45], .null), (21, 0, .iload_n 1, 1, [], .null), (22, 7, .iaload, 1, [], .null), (23, 2, .ireturn, 1, [], .null)] -- X6_pitchOf
def xc_43 : List xE := [(0, 0, .iload_n 1, 1, [], .null), (1, 0, .ifCond .lt 19, 3, [12], .null), (4, 0, .iload_n 1, 1, [], .null), (5, 0, .aload_n 0, 1, [], .null), (6, 7, .getfield 9, 3, [7, 0, 3, 0, 45], .null), (9, 7, .arraylength, 1, [], .null), (10, 0, .if_icmp .ge 10, 3, [12], .null), (13, 0, .aload_n 0, 1, [], .null), (14, 7, .getfield 9, 3, [7, 0, 3, 0, 45], .null), (17, 0, .iload_n 1, 1, [], .null), (18, 0, .iload_n 2, 1, [], .null), (19, 7, .iastore, 1, [], .null), (20, 2, .return_, 1, [], .null)] -- X6_put
def xc_44 : List xE := [(0, 0, .aload_n 0, 1, [], .null), (1, 7, .getfield 15, 3, [7, 1, 0, 0, 46], .null), (4, 0, .bipush 20, 2, [], .int 20), (6, 0, .if_icmp .ge 22, 3, [15], .null), (9, 0, .aload_n 0, 1, [], .null), (10, 0, .aload_n 0, 1, [], .null), (11, 7, .getfield 15, 3, [7, 1, 0, 0, 46], .null), (14, 0, .iload_n 1, 1, [], .null), (15, 1, .invokevirtual 25, 3, [43, 3, 0, 7, 2, 223], .null), (18, 0, .aload_n 0, 1, [], .null), (19, 0, .dup, 1, [], .null), (20, 7, .getfield 15, 3, [7, 1, 0, 0, 46], .null), (23, 0, .iconst 1, 1, [], .int 1), (24, 0, .iadd, 1, [], .null), (25, 7, .putfield 15, 3, [7, 1, 0, 0, 46], .null), (28, 2, .return_, 1, [], .null)] -- X6_add
def xc_45 : List xE := [(0, 0, .iload_n 1, 1, [], .null), (1, 0, .istore_n 2, 1, [], .null), (2, 0, .iload_n 2, 1, [], .null), (3, 0, .aload_n 0, 1, [], .null), (4, 7, .getfield 15, 3, [7, 1, 0, 0, 46], .null), (7, 0, .iconst 1, 1, [], .int 1), (8, 0, .isub, 1, [], .null), (9, 0, .if_icmp .ge 21, 3, [18], .null), (12, 0, .aload_n 0, 1, [], .null), (13, 0, .iload_n 2, 1, [], .null), (14, 0, .aload_n 0, 1, [], .null), (15, 0, .iload_n 2, 1, [], .null), (16, 0, .iconst 1, 1, [], .int 1), (17, 0, .iadd, 1, [], .null), (18, 1, .invokevirtual 29, 3, [42, 2, 0, 7, 3, 0], .null), (21, 1, .invokevirtual 25, 3, [43, 3, 0, 7, 2, 223], .null), (24, 0, .iinc 2 1, 3, [], .int 1), (27, 0, .goto (-25), 3, [2], .null), (30, 0, .aload_n 0, 1, [], .null), (31, 0, .dup, 1, [], .null), (32, 7, .getfield 15, 3, [7, 1, 0, 0, 46], .null), (35, 0, .iconst 1, 1, [], .int 1), (36, 0, .isub, 1, [], .null), (37, 7, .putfield 15, 3, [7, 1, 0, 0, 46], .null), (40, 2, .return_, 1, [], .null)] -- X6_takeOut
def xc_46 : List xE := [(0, 0, .iconst 2, 1, [], .int 2), (1, 0, .aload_n 0, 1, [], .null), (2, 7, .getfield 15, 3, [7, 1, 0, 0, 46], .null), (5, 0, .imul, 1, [], .null), (6, 0, .bipush 20, 2, [], .int 20), (8, 0, .if_icmp .gt 7, 3, [8], .null), (11, 0, .iconst 1, 1, [], .int 1), (12, 0, .goto 4, 3, [9], .null), (15, 0, .iconst 0, 1, [], .int 0), (16, 2, .ireturn, 1, [], .null)] -- X6_canDouble
def xc_47 : List xE := [(0, 0, .aload_n 0, 1, [], .null), (1, 7, .getfield 15, 3, [7, 1, 0, 0, 46], .null), (4, 0, .iconst 1, 1, [], .int 1), (5, 0, .isub, 1, [], .null), (6, 0, .istore_n 1, 1, [], .null), (7, 0, .iload_n 1, 1, [], .null), (8, 0, .ifCond .lt 33, 3, [27], .null), (11, 0, .aload_n 0, 1, [], .null), (12, 0, .iload_n 1, 1, [], .null), (13, 1, .invokevirtual 29, 3, [42, 2, 0, 7, 3, 0], .null), (16, 0, .istore_n 2, 1, [], .null), (17, 0, .aload_n 0, 1, [], .null), (18, 0, .iconst 2, 1, [], .int 2), (19, 0, .iload_n 1, 1, [], .null), (20, 0, .imul, 1, [], .null), (21, 0, .iload_n 2, 1, [], .null), (22, 1, .invokevirtual 25, 3, [43, 3, 0, 7, 2, 223], .null), (25, 0, .aload_n 0, 1, [], .null), (26, 0, .iconst 2, 1, [], .int 2), (27, 0, .iload_n 1, 1, [], .null), (28, 0, .imul, 1, [], .null), (29, 0, .iconst 1, 1, [], .int 1), (30, 0, .iadd, 1, [], .null), (31, 0, .iload_n 2, 1, [], .null), (32, 1, .invokevirtual 25, 3, [43, 3, 0, 7, 2, 223], .null), (35, 0, .iinc 1 (-1), 3, [], .int (-1)), (38, 0, .goto (-31), 3, [5], .null), (41, 0, .aload_n 0, 1, [], .null), (42, 0, .iconst 2, 1, [], .int 2), (43, 0, .aload_n 0, 1, [], .null), (44, 7, .getfield 15, 3, [7, 1, 0, 0, 46], .null), (47, 0, .imul, 1, [], .null), (48, 7, .putfield 15, 3, [7, 1, 0, 0, 46], .null), (51, 2, .return_, 1, [], .null)] -- X6_doubleNotes
def xc_48 : List xE := [(0, 0, .iconst 0, 1, [], .int 0), (1, 0, .istore_n 1, 1, [], .null), (2, 0, .iload_n 1, 1, [], .null), (3, 0, .aload_n 0, 1, [], .null), (4, 7, .getfield 15, 3, [7, 1, 0, 0, 46], .null), (7, 0, .iconst 2, 1, [], .int 2), (8, 0, .idiv, 1, [], .null), (9, 0, .if_icmp .ge 40, 3, [31], .null), (12, 0, .aload_n 0, 1, [], .null), (13, 7, .getfield 15, 3, [7, 1, 0, 0, 46], .null), (16, 0, .iconst 1, 1, [], .int 1), (17, 0, .isub, 1, [], .null), (18, 0, .iload_n 1, 1, [], .null), (19, 0, .isub, 1, [], .null), (20, 0, .istore_n 2, 1, [], .null), (21, 0, .aload_n 0, 1, [], .null), (22, 0, .iload_n 1, 1, [], .null), (23, 1, .invokevirtual 29, 3, [42, 2, 0, 7, 3, 0], .null), (26, 0, .istore_n 3, 1, [], .null), (27, 0, .aload_n 0, 1, [], .null), (28, 0, .iload_n 1, 1, [], .null), (29, 0, .aload_n 0, 1, [], .null), (30, 0, .iload_n 2, 1, [], .null), (31, 1, .invokevirtual 29, 3, [42, 2, 0, 7, 3, 0], .null), (34, 1, .invokevirtual 25, 3, [43, 3, 0, 7, 2, 223], .null), (37, 0, .aload_n 0, 1, [], .null), (38, 0, .iload_n 2, 1, [], .null), (39, 0, .iload_n 3, 1, [], .null), (40, 1, .invokevirtual 25, 3, [43, 3, 0, 7, 2, 223], .null), (43, 0, .iinc 1 1, 3, [], .int 1), (46, 0, .goto (-44), 3, [2], .null), (49, 2, .return_, 1, [], .null)] -- X6_turnRound
def xc_49 : List xE := [(0, 0, .aload_n 0, 1, [], .null), (1, 4, .invokespecial 3, 3, [0, 30], .null), (4, 0, .aload_n 0, 1, [], .null), (5, 7, .new 9, 3, [6, 7, 0, 33, 0, 34, 0, 2], .null), (8, 0, .dup, 1, [], .null), (9, 1, .invokespecial 11, 3, [29, 1, 3, 6, 0, 35], .null), (12, 7, .putfield 12, 3, [8, 0, 3, 0, 239], .null), (15, 0, .aload_n 0, 1, [], .null), (16, 7, .new 16, 3, [0, 3, 0, 98, 0, 99, 0, 6], .null), (19, 0, .dup, 1, [], .null), (20, 1, .invokespecial 18, 3, [102, 1, 2, 0, 0, 100], .null), (23, 7, .putfield 19, 3, [8, 1, 3, 1, 0], .null), (26, 0, .aload_n 0, 1, [], .null), (27, 7, .new 9, 3, [6, 7, 0, 33, 0, 34, 0, 2], .null), (30, 0, .dup, 1, [], .null), (31, 1, .invokespecial 11, 3, [29, 1, 3, 6, 0, 35], .null), (34, 7, .putfield 23, 3, [8, 2, 3, 1, 1], .null), (37, 0, .aload_n 0, 1, [], .null), (38, 0, .iconst 0, 1, [], .int 0), (39, 7, .putfield 26, 3, [8, 3, 1, 1, 2], .null), (42, 0, .aload_n 0, 1, [], .null), (43, 0, .bipush 60, 2, [], .int 60), (45, 7, .newarray .int, 2, [0, 57], .null), (47, 7, .putfield 30, 3, [8, 4, 3, 1, 3], .null), (50, 0, .aload_n 0, 1, [], .null), (51, 0, .iconst 0, 1, [], .int 0), (52, 7, .putfield 34, 3, [8, 5, 0, 1, 4], .null), (55, 0, .aload_n 0, 1, [], .null), (56, 7, .new 38, 3, [5, 6, 0, 124, 0, 125, 0, 7], .null), (59, 0, .dup, 1, [], .null), (60, 1, .invokespecial 40, 3, [28, 1, 3, 5, 0, 126], .null), (63, 7, .putfield 41, 3, [8, 6, 3, 1, 5], .null), (66, 0, .aload_n 0, 1, [], .null), (67, 7, .new 45, 3, [3, 11, 0, 151, 0, 152, 0, 10], .null), (70, 0, .dup, 1, [], .null), (71, 1, .invokespecial 47, 3, [8, 1, 3, 3, 0, 153], .null), (74, 7, .putfield 48, 3, [8, 7, 3, 1, 6], .null), (77, 0, .aload_n 0, 1, [], .null), (78, 0, .iconst 1, 1, [], .int 1), (79, 7, .putfield 52, 3, [8, 8, 1, 1, 7], .null), (82, 0, .aload_n 0, 1, [], .null), (83, 7, .new 55, 3, [1, 1, 0, 203, 0, 158, 0, 11], .null), (86, 0, .dup, 1, [], .null), (87, 1, .invokespecial 57, 3, [0, 1, 3, 1, 0, 204], .null), (90, 7, .putfield 58, 3, [8, 9, 3, 1, 8], .null), (93, 0, .aload_n 0, 1, [], .null), (94, 7, .new 62, 3, [4, 7, 0, 205, 0, 206, 0, 12], .null), (97, 0, .dup, 1, [], .null), (98, 1, .invokespecial 64, 3, [23, 1, 3, 4, 0, 207], .null), (101, 7, .putfield 65, 3, [8, 10, 3, 1, 9], .null), (104, 2, .return_, 1, [], .null)] -- X8_init
def xc_50 : List xE := [(0, 0, .aload_n 0, 1, [], .null), (1, 0, .iload_n 1, 1, [], .null), (2, 1, .invokevirtual 69, 3, [88, 2, 0, 8, 1, 151], .null), (5, 0, .astore_n 3, 1, [], .null), (6, 0, .iload_n 2, 1, [], .null), (7, 0, .iconst 0, 1, [], .int 0), (8, 0, .bipush 60, 2, [], .int 60), (10, 1, .invokestatic 73, 3, [90, 3, 1, 8, 2, 142], .null), (13, 0, .aload_n 3, 1, [], .null), (14, 7, .getfield 77, 3, [7, 1, 0, 0, 48], .null), (17, 0, .bipush 20, 2, [], .int 20), (19, 0, .if_icmp .lt 13, 3, [17], .null), (22, 3, .new 82, 3, [2, 82, 84, 86, 0, 1, 45, 0, 19], .null), (25, 9, .dup, 1, [], .null), (26, 9, .ldc 84, 2, [], .null), (28, 9, .invokespecial 86, 3, [], .null), (31, 9, .athrow, 1, [], .null), (32, 0, .aload_n 0, 1, [], .null), (33, 1, .invokevirtual 89, 3, [94, 1, 0, 8, 2, 162], .null), (36, 0, .aload_n 3, 1, [], .null), (37, 0, .iload_n 2, 1, [], .null), (38, 1, .invokevirtual 92, 3, [44, 2, 0, 7, 2, 219], .null), (41, 0, .aload_n 3, 1, [], .null), (42, 7, .getfield 77, 3, [7, 1, 0, 0, 48], .null), (45, 2, .ireturn, 1, [], .null)] -- X8_addNote
def xc_51 : List xE := [(0, 0, .aload_n 0, 1, [], .null), (1, 0, .iload_n 1, 1, [], .null), (2, 1, .invokevirtual 69, 3, [88, 2, 0, 8, 1, 151], .null), (5, 0, .astore 4, 2, [], .null), (7, 0, .aload 4, 2, [], .null), (9, 0, .iload_n 2, 1, [], .null), (10, 1, .invokestatic 96, 3, [89, 2, 1, 8, 2, 96], .null), (13, 0, .iload_n 3, 1, [], .null), (14, 0, .iconst 0, 1, [], .int 0), (15, 0, .bipush 60, 2, [], .int 60), (17, 1, .invokestatic 73, 3, [90, 3, 1, 8, 2, 142], .null), (20, 0, .aload_n 0, 1, [], .null), (21, 1, .invokevirtual 89, 3, [94, 1, 0, 8, 2, 162], .null), (24, 0, .aload 4, 2, [], .null), (26, 0, .iload_n 2, 1, [], .null), (27, 1, .invokevirtual 100, 3, [42, 2, 0, 7, 2, 104], .null), (30, 0, .istore 5, 2, [], .null), (32, 0, .aload 4, 2, [], .null), (34, 0, .iload_n 2, 1, [], .null), (35, 0, .iload_n 3, 1, [], .null), (36, 1, .invokevirtual 104, 3, [43, 3, 0, 7, 2, 231], .null), (39, 0, .iload 5, 2, [], .null), (41, 2, .ireturn, 1, [], .null)] -- X8_setNote
def xc_52 : List xE := [(0, 0, .aload_n 0, 1, [], .null), (1, 0, .iload_n 1, 1, [], .null), (2, 1, .invokevirtual 69, 3, [88, 2, 0, 8, 1, 151], .null), (5, 0, .astore_n 3, 1, [], .null), (6, 0, .aload_n 3, 1, [], .null), (7, 0, .iload_n 2, 1, [], .null), (8, 1, .invokestatic 96, 3, [89, 2, 1, 8, 2, 96], .null), (11, 0, .aload_n 0, 1, [], .null), (12, 1, .invokevirtual 89, 3, [94, 1, 0, 8, 2, 162], .null), (15, 0, .aload_n 3, 1, [], .null), (16, 0, .iload_n 2, 1, [], .null), (17, 1, .invokevirtual 100, 3, [42, 2, 0, 7, 2, 104], .null), (20, 0, .istore 4, 2, [], .null), (22, 0, .aload_n 3, 1, [], .null), (23, 0, .iload_n 2, 1, [], .null), (24, 1, .invokevirtual 108, 3, [45, 2, 0, 7, 2, 236], .null), (27, 0, .iload 4, 2, [], .null), (29, 2, .ireturn, 1, [], .null)] -- X8_dropNote
def xc_53 : List xE := [(0, 0, .aload_n 0, 1, [], .null), (1, 0, .iload_n 1, 1, [], .null), (2, 1, .invokevirtual 69, 3, [88, 2, 0, 8, 1, 151], .null), (5, 0, .astore_n 2, 1, [], .null), (6, 0, .aload_n 2, 1, [], .null), (7, 1, .invokevirtual 120, 3, [46, 1, 0, 7, 3, 5], .null), (10, 0, .ifCond .ne 13, 3, [12], .null), (13, 3, .new 82, 3, [2, 82, 124, 86, 0, 1, 45, 0, 19], .null), (16, 9, .dup, 1, [], .null), (17, 9, .ldc 124, 2, [], .null), (19, 9, .invokespecial 86, 3, [], .null), (22, 9, .athrow, 1, [], .null), (23, 0, .aload_n 0, 1, [], .null), (24, 1, .invokevirtual 89, 3, [94, 1, 0, 8, 2, 162], .null), (27, 0, .aload_n 2, 1, [], .null), (28, 1, .invokevirtual 126, 3, [47, 1, 0, 7, 3, 10], .null), (31, 0, .aload_n 2, 1, [], .null), (32, 7, .getfield 77, 3, [7, 1, 0, 0, 48], .null), (35, 2, .ireturn, 1, [], .null)] -- X8_slow
def xc_54 : List xE := [(0, 0, .aload_n 0, 1, [], .null), (1, 0, .iload_n 1, 1, [], .null), (2, 1, .invokevirtual 69, 3, [88, 2, 0, 8, 1, 151], .null), (5, 0, .astore_n 2, 1, [], .null), (6, 0, .aload_n 0, 1, [], .null), (7, 1, .invokevirtual 89, 3, [94, 1, 0, 8, 2, 162], .null), (10, 0, .aload_n 2, 1, [], .null), (11, 1, .invokevirtual 129, 3, [48, 1, 0, 7, 3, 18], .null), (14, 0, .aload_n 2, 1, [], .null), (15, 7, .getfield 77, 3, [7, 1, 0, 0, 48], .null), (18, 2, .ireturn, 1, [], .null)] -- X8_flip
def xc_55 : List xE := [(0, 0, .aload_n 0, 1, [], .null), (1, 1, .invokevirtual 89, 3, [94, 1, 0, 8, 2, 162], .null), (4, 0, .aload_n 0, 1, [], .null), (5, 7, .getfield 12, 3, [8, 0, 3, 0, 239], .null), (8, 1, .invokevirtual 132, 3, [32, 1, 0, 6, 3, 26], .null), (11, 0, .aload_n 0, 1, [], .null), (12, 7, .getfield 12, 3, [8, 0, 3, 0, 239], .null), (15, 7, .getfield 135, 3, [6, 0, 3, 0, 62], .null), (18, 7, .getfield 77, 3, [7, 1, 0, 0, 48], .null), (21, 2, .ireturn, 1, [], .null)] -- X8_exchange
def xc_56 : List xE := [(0, 0, .iload_n 1, 1, [], .null), (1, 0, .iconst 0, 1, [], .int 0), (2, 0, .bipush 20, 2, [], .int 20), (4, 1, .invokestatic 73, 3, [90, 3, 1, 8, 2, 142], .null), (7, 0, .aload_n 0, 1, [], .null), (8, 1, .invokevirtual 89, 3, [94, 1, 0, 8, 2, 162], .null), (11, 0, .aload_n 0, 1, [], .null), (12, 7, .getfield 12, 3, [8, 0, 3, 0, 239], .null), (15, 7, .getfield 139, 3, [6, 2, 0, 0, 71], .null), (18, 0, .istore_n 2, 1, [], .null), (19, 0, .aload_n 0, 1, [], .null), (20, 7, .getfield 12, 3, [8, 0, 3, 0, 239], .null), (23, 0, .iload_n 1, 1, [], .null), (24, 7, .putfield 139, 3, [6, 2, 0, 0, 71], .null), (27, 0, .iload_n 2, 1, [], .null), (28, 2, .ireturn, 1, [], .null)] -- X8_setBound
def xc_57 : List xE := [(0, 0, .iload_n 1, 1, [], .null), (1, 0, .iconst 0, 1, [], .int 0), (2, 0, .bipush 50, 2, [], .int 50), (4, 1, .invokestatic 73, 3, [90, 3, 1, 8, 2, 142], .null), (7, 0, .aload_n 0, 1, [], .null), (8, 1, .invokevirtual 89, 3, [94, 1, 0, 8, 2, 162], .null), (11, 0, .aload_n 0, 1, [], .null), (12, 7, .getfield 12, 3, [8, 0, 3, 0, 239], .null), (15, 7, .getfield 142, 3, [6, 3, 0, 0, 75], .null), (18, 0, .istore_n 2, 1, [], .null), (19, 0, .aload_n 0, 1, [], .null), (20, 7, .getfield 12, 3, [8, 0, 3, 0, 239], .null), (23, 0, .iload_n 1, 1, [], .null), (24, 7, .putfield 142, 3, [6, 3, 0, 0, 75], .null), (27, 0, .iload_n 2, 1, [], .null), (28, 2, .ireturn, 1, [], .null)] -- X8_setHold
def xc_58 : List xE := [(0, 0, .iload_n 1, 1, [], .null), (1, 0, .iconst 0, 1, [], .int 0), (2, 0, .iconst 3, 1, [], .int 3), (3, 1, .invokestatic 73, 3, [90, 3, 1, 8, 2, 142], .null), (6, 0, .aload_n 0, 1, [], .null), (7, 1, .invokevirtual 89, 3, [94, 1, 0, 8, 2, 162], .null), (10, 0, .aload_n 0, 1, [], .null), (11, 7, .getfield 12, 3, [8, 0, 3, 0, 239], .null), (14, 7, .getfield 145, 3, [6, 4, 0, 0, 78], .null), (17, 0, .istore_n 2, 1, [], .null), (18, 0, .aload_n 0, 1, [], .null), (19, 7, .getfield 12, 3, [8, 0, 3, 0, 239], .null), (22, 0, .iload_n 1, 1, [], .null), (23, 7, .putfield 145, 3, [6, 4, 0, 0, 78], .null), (26, 0, .iload_n 2, 1, [], .null), (27, 2, .ireturn, 1, [], .null)] -- X8_setJudge
def xc_59 : List xE := [(0, 0, .aload_n 0, 1, [], .null), (1, 7, .getfield 12, 3, [8, 0, 3, 0, 239], .null), (4, 7, .getfield 162, 3, [6, 5, 0, 0, 80], .null), (7, 0, .ifCond .eq 7, 3, [6], .null), (10, 0, .iconst 1, 1, [], .int 1), (11, 0, .goto 4, 3, [7], .null), (14, 0, .iconst 0, 1, [], .int 0), (15, 2, .ireturn, 1, [], .null)] -- X8_hasStopped
def xc_60 : List xE := [(0, 0, .aload_n 0, 1, [], .null), (1, 1, .invokevirtual 171, 3, [93, 1, 0, 8, 2, 122], .null), (4, 0, .aload_n 0, 1, [], .null), (5, 7, .getfield 12, 3, [8, 0, 3, 0, 239], .null), (8, 7, .getfield 165, 3, [6, 6, 0, 0, 82], .null), (11, 2, .ireturn, 1, [], .null)] -- X8_stoppedPart
def xc_61 : List xE := [(0, 0, .aload_n 0, 1, [], .null), (1, 1, .invokevirtual 171, 3, [93, 1, 0, 8, 2, 122], .null), (4, 0, .aload_n 0, 1, [], .null), (5, 7, .getfield 12, 3, [8, 0, 3, 0, 239], .null), (8, 7, .getfield 162, 3, [6, 5, 0, 0, 80], .null), (11, 2, .ireturn, 1, [], .null)] -- X8_whyStopped
def xc_62 : List xE := [(0, 0, .aload_n 0, 1, [], .null), (1, 7, .getfield 19, 3, [8, 1, 3, 1, 0], .null), (4, 1, .invokevirtual 174, 3, [106, 1, 0, 0, 1, 41], .null), (7, 0, .ifCond .eq 13, 3, [9], .null), (10, 3, .new 82, 3, [2, 82, 177, 86, 0, 1, 45, 0, 19], .null), (13, 9, .dup, 1, [], .null), (14, 9, .ldc 177, 2, [], .null), (16, 9, .invokespecial 86, 3, [], .null), (19, 9, .athrow, 1, [], .null), (20, 0, .aload_n 0, 1, [], .null), (21, 7, .getfield 12, 3, [8, 0, 3, 0, 239], .null), (24, 0, .aload_n 0, 1, [], .null), (25, 7, .getfield 19, 3, [8, 1, 3, 1, 0], .null), (28, 0, .aload_n 0, 1, [], .null), (29, 7, .getfield 19, 3, [8, 1, 3, 1, 0], .null), (32, 1, .invokevirtual 179, 3, [105, 1, 0, 0, 1, 113], .null), (35, 0, .iconst 1, 1, [], .int 1), (36, 0, .isub, 1, [], .null), (37, 1, .invokevirtual 182, 3, [109, 2, 0, 0, 1, 117], .null), (40, 7, .checkcast 9, 3, [6, 0, 33], .null), (43, 1, .invokevirtual 186, 3, [30, 2, 0, 6, 1, 134], .null), (46, 0, .aload_n 0, 1, [], .null), (47, 0, .iconst 1, 1, [], .int 1), (48, 7, .putfield 52, 3, [8, 8, 1, 1, 7], .null), (51, 0, .aload_n 0, 1, [], .null), (52, 7, .getfield 19, 3, [8, 1, 3, 1, 0], .null), (55, 1, .invokevirtual 179, 3, [105, 1, 0, 0, 1, 113], .null), (58, 2, .ireturn, 1, [], .null)] -- X8_undo
def xc_63 : List xE := [(0, 0, .aload_n 0, 1, [], .null), (1, 7, .getfield 19, 3, [8, 1, 3, 1, 0], .null), (4, 1, .invokevirtual 179, 3, [105, 1, 0, 0, 1, 113], .null), (7, 2, .ireturn, 1, [], .null)] -- X8_savedStates
def xc_64 : List xE := [(0, 0, .aload_n 0, 1, [], .null), (1, 0, .iload_n 1, 1, [], .null), (2, 1, .invokevirtual 69, 3, [88, 2, 0, 8, 1, 151], .null), (5, 7, .getfield 77, 3, [7, 1, 0, 0, 48], .null), (8, 2, .ireturn, 1, [], .null)] -- X8_notes
def xc_65 : List xE := [(0, 0, .aload_n 0, 1, [], .null), (1, 0, .iload_n 1, 1, [], .null), (2, 1, .invokevirtual 69, 3, [88, 2, 0, 8, 1, 151], .null), (5, 0, .astore_n 3, 1, [], .null), (6, 0, .aload_n 3, 1, [], .null), (7, 0, .iload_n 2, 1, [], .null), (8, 1, .invokestatic 96, 3, [89, 2, 1, 8, 2, 96], .null), (11, 0, .aload_n 3, 1, [], .null), (12, 0, .iload_n 2, 1, [], .null), (13, 1, .invokevirtual 100, 3, [42, 2, 0, 7, 2, 104], .null), (16, 2, .ireturn, 1, [], .null)] -- X8_pitch
def xc_66 : List xE := [(0, 0, .aload_n 0, 1, [], .null), (1, 7, .getfield 12, 3, [8, 0, 3, 0, 239], .null), (4, 7, .getfield 139, 3, [6, 2, 0, 0, 71], .null), (7, 2, .ireturn, 1, [], .null)] -- X8_bound
def xc_67 : List xE := [(0, 0, .aload_n 0, 1, [], .null), (1, 7, .getfield 12, 3, [8, 0, 3, 0, 239], .null), (4, 7, .getfield 142, 3, [6, 3, 0, 0, 75], .null), (7, 2, .ireturn, 1, [], .null)] -- X8_hold
def xc_68 : List xE := [(0, 0, .aload_n 0, 1, [], .null), (1, 7, .getfield 12, 3, [8, 0, 3, 0, 239], .null), (4, 7, .getfield 145, 3, [6, 4, 0, 0, 78], .null), (7, 2, .ireturn, 1, [], .null)] -- X8_judge
def xc_69 : List xE := [(0, 0, .aload_n 0, 1, [], .null), (1, 7, .getfield 12, 3, [8, 0, 3, 0, 239], .null), (4, 7, .getfield 135, 3, [6, 0, 3, 0, 62], .null), (7, 0, .iload_n 1, 1, [], .null), (8, 1, .invokestatic 96, 3, [89, 2, 1, 8, 2, 96], .null), (11, 0, .aload_n 0, 1, [], .null), (12, 7, .getfield 12, 3, [8, 0, 3, 0, 239], .null), (15, 7, .getfield 195, 3, [6, 1, 3, 0, 67], .null), (18, 0, .iload_n 2, 1, [], .null), (19, 1, .invokestatic 96, 3, [89, 2, 1, 8, 2, 96], .null), (22, 0, .aload_n 0, 1, [], .null), (23, 7, .getfield 12, 3, [8, 0, 3, 0, 239], .null), (26, 0, .iload_n 1, 1, [], .null), (27, 0, .iload_n 2, 1, [], .null), (28, 1, .invokevirtual 198, 3, [37, 3, 0, 6, 3, 101], .null), (31, 2, .ireturn, 1, [], .null)] -- X8_unlike
def xc_70 : List xE := [(0, 0, .aload_n 0, 1, [], .null), (1, 7, .getfield 12, 3, [8, 0, 3, 0, 239], .null), (4, 1, .invokevirtual 205, 3, [35, 1, 0, 6, 1, 194], .null), (7, 2, .ireturn, 1, [], .null)] -- X8_isMatched
def xc_71 : List xE := [(0, 0, .aload_n 0, 1, [], .null), (1, 1, .invokevirtual 208, 3, [91, 1, 0, 8, 2, 109], .null), (4, 0, .aload_n 0, 1, [], .null), (5, 1, .invokevirtual 211, 3, [95, 1, 0, 8, 1, 213], .null), (8, 0, .aload_n 0, 1, [], .null), (9, 7, .getfield 12, 3, [8, 0, 3, 0, 239], .null), (12, 1, .invokevirtual 215, 3, [11, 2, 0, 3, 2, 114], .null), (15, 2, .ireturn, 1, [], .null)] -- X8_cost
def xc_72 : List xE := [(0, 0, .aload_n 0, 1, [], .null), (1, 1, .invokevirtual 208, 3, [91, 1, 0, 8, 2, 109], .null), (4, 0, .aload_n 0, 1, [], .null), (5, 1, .invokevirtual 211, 3, [95, 1, 0, 8, 1, 213], .null), (8, 1, .invokevirtual 219, 3, [12, 1, 0, 3, 3, 145], .null), (11, 2, .ireturn, 1, [], .null)] -- X8_costFromEnd
def xc_73 : List xE := [(0, 0, .aload_n 0, 1, [], .null), (1, 7, .getfield 12, 3, [8, 0, 3, 0, 239], .null), (4, 7, .getfield 135, 3, [6, 0, 3, 0, 62], .null), (7, 0, .iload_n 1, 1, [], .null), (8, 1, .invokestatic 96, 3, [89, 2, 1, 8, 2, 96], .null), (11, 0, .aload_n 0, 1, [], .null), (12, 7, .getfield 12, 3, [8, 0, 3, 0, 239], .null), (15, 7, .getfield 195, 3, [6, 1, 3, 0, 67], .null), (18, 0, .iload_n 2, 1, [], .null), (19, 1, .invokestatic 96, 3, [89, 2, 1, 8, 2, 96], .null), (22, 0, .aload_n 0, 1, [], .null), (23, 1, .invokevirtual 211, 3, [95, 1, 0, 8, 1, 213], .null), (26, 0, .iload_n 1, 1, [], .null), (27, 0, .iload_n 2, 1, [], .null), (28, 1, .invokevirtual 222, 3, [10, 3, 0, 3, 3, 93], .null), (31, 1, .invokestatic 225, 3, [96, 1, 1, 8, 3, 85], .null), (34, 2, .ireturn, 1, [], .null)] -- X8_costTo
def xc_74 : List xE := [(0, 0, .aload_n 0, 1, [], .null), (1, 1, .invokevirtual 208, 3, [91, 1, 0, 8, 2, 109], .null), (4, 0, .aload_n 0, 1, [], .null), (5, 1, .invokevirtual 211, 3, [95, 1, 0, 8, 1, 213], .null), (8, 7, .getfield 228, 3, [3, 8, 0, 0, 176], .null), (11, 2, .ireturn, 1, [], .null)] -- X8_pairs
def xc_75 : List xE := [(0, 0, .iload_n 1, 1, [], .null), (1, 1, .invokestatic 229, 3, [87, 1, 1, 8, 1, 155], .null), (4, 0, .aload_n 0, 1, [], .null), (5, 1, .invokevirtual 211, 3, [95, 1, 0, 8, 1, 213], .null), (8, 0, .astore_n 3, 1, [], .null), (9, 0, .iload_n 2, 1, [], .null), (10, 0, .ifCond .lt 11, 3, [11], .null), (13, 0, .iload_n 2, 1, [], .null), (14, 0, .aload_n 3, 1, [], .null), (15, 7, .getfield 228, 3, [3, 8, 0, 0, 176], .null), (18, 0, .if_icmp .lt 13, 3, [16], .null), (21, 3, .new 232, 3, [0, 232, 234, 236, 0, 1, 158, 0, 16], .null), (24, 9, .dup, 1, [], .null), (25, 9, .ldc 234, 2, [], .null), (27, 9, .invokespecial 236, 3, [], .null), (30, 9, .athrow, 1, [], .null), (31, 0, .aload_n 3, 1, [], .null), (32, 0, .iload_n 1, 1, [], .null), (33, 0, .iload_n 2, 1, [], .null), (34, 1, .invokevirtual 237, 3, [13, 3, 0, 3, 3, 119], .null), (37, 2, .ireturn, 1, [], .null)] -- X8_noteOfPair
def xc_76 : List xE := [(0, 0, .aload_n 0, 1, [], .null), (1, 0, .iload_n 1, 1, [], .null), (2, 1, .invokevirtual 69, 3, [88, 2, 0, 8, 1, 151], .null), (5, 0, .iload_n 2, 1, [], .null), (6, 1, .invokestatic 96, 3, [89, 2, 1, 8, 2, 96], .null), (9, 0, .aload_n 0, 1, [], .null), (10, 1, .invokevirtual 211, 3, [95, 1, 0, 8, 1, 213], .null), (13, 0, .iload_n 1, 1, [], .null), (14, 0, .iload_n 2, 1, [], .null), (15, 1, .invokevirtual 240, 3, [14, 3, 0, 3, 3, 127], .null), (18, 2, .ireturn, 1, [], .null)] -- X8_stretch
def xc_77 : List xE := [(0, 0, .iload_n 1, 1, [], .null), (1, 1, .invokestatic 229, 3, [87, 1, 1, 8, 1, 155], .null), (4, 0, .aload_n 0, 1, [], .null), (5, 1, .invokevirtual 211, 3, [95, 1, 0, 8, 1, 213], .null), (8, 0, .iload_n 1, 1, [], .null), (9, 1, .invokevirtual 243, 3, [15, 2, 0, 3, 3, 135], .null), (12, 2, .ireturn, 1, [], .null)] -- X8_longestStretch
def xc_78 : List xE := [(0, 0, .aload_n 0, 1, [], .null), (1, 1, .invokevirtual 211, 3, [95, 1, 0, 8, 1, 213], .null), (4, 7, .getfield 249, 3, [3, 10, 0, 0, 179], .null), (7, 2, .ireturn, 1, [], .null)] -- X8_bestMatches
def xc_79 : List xE := [(0, 0, .aload_n 0, 1, [], .null), (1, 1, .invokevirtual 252, 3, [92, 1, 0, 8, 3, 49], .null), (4, 0, .aload_n 0, 1, [], .null), (5, 7, .getfield 65, 3, [8, 10, 3, 1, 9], .null), (8, 0, .aload_n 0, 1, [], .null), (9, 7, .getfield 12, 3, [8, 0, 3, 0, 239], .null), (12, 1, .invokevirtual 255, 3, [24, 2, 0, 4, 3, 54], .null), (15, 0, .aload_n 0, 1, [], .null), (16, 7, .getfield 65, 3, [8, 10, 3, 1, 9], .null), (19, 7, .getfield 258, 3, [4, 2, 0, 0, 217], .null), (22, 2, .ireturn, 1, [], .null)] -- X8_partCost
def xc_80 : List xE := [(0, 0, .aload_n 0, 1, [], .null), (1, 1, .invokevirtual 252, 3, [92, 1, 0, 8, 3, 49], .null), (4, 0, .aload_n 0, 1, [], .null), (5, 7, .getfield 65, 3, [8, 10, 3, 1, 9], .null), (8, 0, .aload_n 0, 1, [], .null), (9, 7, .getfield 12, 3, [8, 0, 3, 0, 239], .null), (12, 1, .invokevirtual 255, 3, [24, 2, 0, 4, 3, 54], .null), (15, 0, .aload_n 0, 1, [], .null), (16, 7, .getfield 65, 3, [8, 10, 3, 1, 9], .null), (19, 7, .getfield 261, 3, [4, 3, 0, 0, 219], .null), (22, 2, .ireturn, 1, [], .null)] -- X8_partBegin
def xc_81 : List xE := [(0, 0, .aload_n 0, 1, [], .null), (1, 1, .invokevirtual 252, 3, [92, 1, 0, 8, 3, 49], .null), (4, 0, .aload_n 0, 1, [], .null), (5, 7, .getfield 65, 3, [8, 10, 3, 1, 9], .null), (8, 0, .aload_n 0, 1, [], .null), (9, 7, .getfield 12, 3, [8, 0, 3, 0, 239], .null), (12, 1, .invokevirtual 255, 3, [24, 2, 0, 4, 3, 54], .null), (15, 0, .aload_n 0, 1, [], .null), (16, 7, .getfield 65, 3, [8, 10, 3, 1, 9], .null), (19, 7, .getfield 264, 3, [4, 4, 0, 0, 221], .null), (22, 2, .ireturn, 1, [], .null)] -- X8_partEnd
def xc_82 : List xE := [(0, 0, .iload_n 1, 1, [], .null), (1, 0, .bipush (-12), 2, [], .int (-12)), (3, 0, .bipush 12, 2, [], .int 12), (5, 1, .invokestatic 73, 3, [90, 3, 1, 8, 2, 142], .null), (8, 0, .aload_n 0, 1, [], .null), (9, 1, .invokevirtual 208, 3, [91, 1, 0, 8, 2, 109], .null), (12, 0, .aload_n 0, 1, [], .null), (13, 0, .iload_n 1, 1, [], .null), (14, 0, .aload_n 0, 1, [], .null), (15, 7, .getfield 12, 3, [8, 0, 3, 0, 239], .null), (18, 7, .getfield 139, 3, [6, 2, 0, 0, 71], .null), (21, 1, .invokevirtual 267, 3, [97, 3, 0, 8, 2, 77], .null), (24, 2, .ireturn, 1, [], .null)] -- X8_costWithShift
def xc_83 : List xE := [(0, 0, .aload_n 0, 1, [], .null), (1, 1, .invokevirtual 208, 3, [91, 1, 0, 8, 2, 109], .null), (4, 0, .aload_n 0, 1, [], .null), (5, 1, .invokevirtual 270, 3, [98, 1, 0, 8, 3, 154], .null), (8, 2, .ireturn, 1, [], .null)] -- X8_bestShift
def xc_84 : List xE := [(0, 0, .iload_n 1, 1, [], .null), (1, 0, .iconst 0, 1, [], .int 0), (2, 0, .bipush 20, 2, [], .int 20), (4, 1, .invokestatic 73, 3, [90, 3, 1, 8, 2, 142], .null), (7, 0, .aload_n 0, 1, [], .null), (8, 0, .iconst 0, 1, [], .int 0), (9, 0, .iload_n 1, 1, [], .null), (10, 1, .invokevirtual 267, 3, [97, 3, 0, 8, 2, 77], .null), (13, 1, .invokestatic 225, 3, [96, 1, 1, 8, 3, 85], .null), (16, 2, .ireturn, 1, [], .null)] -- X8_costWithBound
def xc_85 : List xE := [(0, 0, .aload_n 0, 1, [], .null), (1, 1, .invokevirtual 273, 3, [99, 1, 0, 8, 2, 72], .null), (4, 2, .ireturn, 1, [], .null)] -- X8_neededBound
def xc_86 : List xE := [(0, 0, .aload_n 0, 1, [], .null), (1, 1, .invokevirtual 211, 3, [95, 1, 0, 8, 1, 213], .null), (4, 1, .invokevirtual 276, 3, [16, 1, 0, 3, 3, 106], .null), (7, 2, .dreturn, 1, [], .null)] -- X8_evenShare
def xc_87 : List xE := [(0, 0, .iload_n 0, 1, [], .null), (1, 0, .ifCond .lt 8, 3, [5], .null), (4, 0, .iload_n 0, 1, [], .null), (5, 0, .iconst 2, 1, [], .int 2), (6, 0, .if_icmp .lt 14, 3, [10], .null), (9, 3, .new 232, 3, [0, 232, 325, 236, 1, 1, 158, 0, 16], .null), (12, 9, .dup, 1, [], .null), (13, 9, .ldc_w 325, 3, [], .null), (16, 9, .invokespecial 236, 3, [], .null), (19, 9, .athrow, 1, [], .null), (20, 2, .return_, 1, [], .null)] -- X8_checkTune
def xc_88 : List xE := [(0, 0, .iload_n 1, 1, [], .null), (1, 1, .invokestatic 229, 3, [87, 1, 1, 8, 1, 155], .null), (4, 0, .aload_n 0, 1, [], .null), (5, 7, .getfield 12, 3, [8, 0, 3, 0, 239], .null), (8, 0, .iload_n 1, 1, [], .null), (9, 1, .invokevirtual 327, 3, [31, 2, 0, 6, 1, 174], .null), (12, 2, .areturn, 1, [], .null)] -- X8_tuneAt
def xc_89 : List xE := [(0, 0, .aload_n 0, 1, [], .null), (1, 0, .iload_n 1, 1, [], .null), (2, 1, .invokevirtual 330, 3, [41, 2, 0, 7, 2, 99], .null), (5, 0, .ifCond .ne 14, 3, [9], .null), (8, 3, .new 232, 3, [0, 232, 333, 236, 1, 1, 158, 0, 16], .null), (11, 9, .dup, 1, [], .null), (12, 9, .ldc_w 333, 3, [], .null), (15, 9, .invokespecial 236, 3, [], .null), (18, 9, .athrow, 1, [], .null), (19, 2, .return_, 1, [], .null)] -- X8_checkNote
def xc_90 : List xE := [(0, 0, .iload_n 0, 1, [], .null), (1, 0, .iload_n 1, 1, [], .null), (2, 0, .if_icmp .lt 8, 3, [6], .null), (5, 0, .iload_n 0, 1, [], .null), (6, 0, .iload_n 2, 1, [], .null), (7, 0, .if_icmp .le 14, 3, [11], .null), (10, 3, .new 157, 3, [1, 157, 335, 161, 1, 2, 145, 0, 20], .null), (13, 9, .dup, 1, [], .null), (14, 9, .ldc_w 335, 3, [], .null), (17, 9, .invokespecial 161, 3, [], .null), (20, 9, .athrow, 1, [], .null), (21, 2, .return_, 1, [], .null)] -- X8_checkRange
def xc_91 : List xE := [(0, 0, .aload_n 0, 1, [], .null), (1, 7, .getfield 12, 3, [8, 0, 3, 0, 239], .null), (4, 1, .invokevirtual 205, 3, [35, 1, 0, 6, 1, 194], .null), (7, 0, .ifCond .ne 14, 3, [9], .null), (10, 3, .new 82, 3, [2, 82, 337, 86, 1, 1, 45, 0, 19], .null), (13, 9, .dup, 1, [], .null), (14, 9, .ldc_w 337, 3, [], .null), (17, 9, .invokespecial 86, 3, [], .null), (20, 9, .athrow, 1, [], .null), (21, 2, .return_, 1, [], .null)] -- X8_checkMatched
def xc_92 : List xE := [(0, 0, .aload_n 0, 1, [], .null), (1, 7, .getfield 12, 3, [8, 0, 3, 0, 239], .null), (4, 1, .invokevirtual 339, 3, [34, 1, 0, 6, 2, 76], .null), (7, 0, .ifCond .eq 14, 3, [9], .null), (10, 3, .new 82, 3, [2, 82, 342, 86, 1, 1, 45, 0, 19], .null), (13, 9, .dup, 1, [], .null), (14, 9, .ldc_w 342, 3, [], .null), (17, 9, .invokespecial 86, 3, [], .null), (20, 9, .athrow, 1, [], .null), (21, 2, .return_, 1, [], .null)] -- X8_checkNoneEmpty
def xc_93 : List xE := [(0, 0, .aload_n 0, 1, [], .null), (1, 7, .getfield 12, 3, [8, 0, 3, 0, 239], .null), (4, 7, .getfield 162, 3, [6, 5, 0, 0, 80], .null), (7, 0, .ifCond .ne 14, 3, [9], .null), (10, 3, .new 82, 3, [2, 82, 344, 86, 1, 1, 45, 0, 19], .null), (13, 9, .dup, 1, [], .null), (14, 9, .ldc_w 344, 3, [], .null), (17, 9, .invokespecial 86, 3, [], .null), (20, 9, .athrow, 1, [], .null), (21, 2, .return_, 1, [], .null)] -- X8_checkStopped
def xc_94 : List xE := [(0, 0, .aload_n 0, 1, [], .null), (1, 7, .getfield 19, 3, [8, 1, 3, 1, 0], .null), (4, 1, .invokevirtual 179, 3, [105, 1, 0, 0, 1, 113], .null), (7, 0, .bipush 6, 2, [], .int 6), (9, 0, .if_icmp .lt 17, 3, [11], .null), (12, 0, .aload_n 0, 1, [], .null), (13, 7, .getfield 19, 3, [8, 1, 3, 1, 0], .null), (16, 0, .iconst 0, 1, [], .int 0), (17, 1, .invokevirtual 182, 3, [109, 2, 0, 0, 1, 117], .null), (20, 7, .checkcast 9, 3, [6, 0, 33], .null), (23, 0, .goto 10, 3, [14], .null), (26, 7, .new 9, 3, [6, 7, 0, 33, 0, 34, 0, 2], .null), (29, 0, .dup, 1, [], .null), (30, 1, .invokespecial 11, 3, [29, 1, 3, 6, 0, 35], .null), (33, 0, .astore_n 1, 1, [], .null), (34, 0, .aload_n 1, 1, [], .null), (35, 0, .aload_n 0, 1, [], .null), (36, 7, .getfield 12, 3, [8, 0, 3, 0, 239], .null), (39, 1, .invokevirtual 186, 3, [30, 2, 0, 6, 1, 134], .null), (42, 0, .aload_n 0, 1, [], .null), (43, 7, .getfield 19, 3, [8, 1, 3, 1, 0], .null), (46, 0, .aload_n 1, 1, [], .null), (47, 1, .invokevirtual 346, 3, [108, 2, 0, 0, 2, 166], .null), (50, 0, .pop, 1, [], .null), (51, 0, .aload_n 0, 1, [], .null), (52, 0, .iconst 1, 1, [], .int 1), (53, 7, .putfield 52, 3, [8, 8, 1, 1, 7], .null), (56, 2, .return_, 1, [], .null)] -- X8_saveState
def xc_95 : List xE := [(0, 0, .aload_n 0, 1, [], .null), (1, 7, .getfield 52, 3, [8, 8, 1, 1, 7], .null), (4, 0, .ifCond .eq 19, 3, [11], .null), (7, 0, .aload_n 0, 1, [], .null), (8, 7, .getfield 48, 3, [8, 7, 3, 1, 6], .null), (11, 0, .aload_n 0, 1, [], .null), (12, 7, .getfield 12, 3, [8, 0, 3, 0, 239], .null), (15, 1, .invokevirtual 349, 3, [9, 2, 0, 3, 1, 217], .null), (18, 0, .aload_n 0, 1, [], .null), (19, 0, .iconst 0, 1, [], .int 0), (20, 7, .putfield 52, 3, [8, 8, 1, 1, 7], .null), (23, 0, .aload_n 0, 1, [], .null), (24, 7, .getfield 48, 3, [8, 7, 3, 1, 6], .null), (27, 2, .areturn, 1, [], .null)] -- X8_found
def xc_96 : List xE := [(0, 0, .iload_n 0, 1, [], .null), (1, 0, .ldc_w 350, 3, [3, 88], .int 1000000000), (4, 0, .if_icmp .lt 7, 3, [5], .null), (7, 0, .iconst (-1), 1, [], .int (-1)), (8, 0, .goto 4, 3, [6], .null), (11, 0, .iload_n 0, 1, [], .null), (12, 2, .ireturn, 1, [], .null)] -- X8_orNothing
def xc_97 : List xE := [(0, 0, .aload_n 0, 1, [], .null), (1, 7, .getfield 58, 3, [8, 9, 3, 1, 8], .null), (4, 0, .aload_n 0, 1, [], .null), (5, 7, .getfield 12, 3, [8, 0, 3, 0, 239], .null), (8, 0, .iload_n 1, 1, [], .null), (9, 0, .iload_n 2, 1, [], .null), (10, 1, .invokevirtual 351, 3, [4, 4, 0, 1, 2, 81], .null), (13, 0, .aload_n 0, 1, [], .null), (14, 7, .getfield 58, 3, [8, 9, 3, 1, 8], .null), (17, 0, .aload_n 0, 1, [], .null), (18, 7, .getfield 12, 3, [8, 0, 3, 0, 239], .null), (21, 7, .getfield 135, 3, [6, 0, 3, 0, 62], .null), (24, 7, .getfield 77, 3, [7, 1, 0, 0, 48], .null), (27, 0, .iconst 1, 1, [], .int 1), (28, 0, .isub, 1, [], .null), (29, 0, .aload_n 0, 1, [], .null), (30, 7, .getfield 12, 3, [8, 0, 3, 0, 239], .null), (33, 7, .getfield 195, 3, [6, 1, 3, 0, 67], .null), (36, 7, .getfield 77, 3, [7, 1, 0, 0, 48], .null), (39, 0, .iconst 1, 1, [], .int 1), (40, 0, .isub, 1, [], .null), (41, 1, .invokevirtual 355, 3, [1, 3, 0, 1, 2, 82], .null), (44, 2, .ireturn, 1, [], .null)] -- X8_costIf
def xc_98 : List xE := [(0, 0, .iconst 0, 1, [], .int 0), (1, 0, .istore_n 1, 1, [], .null), (2, 0, .aload_n 0, 1, [], .null), (3, 0, .iconst 0, 1, [], .int 0), (4, 0, .aload_n 0, 1, [], .null), (5, 7, .getfield 12, 3, [8, 0, 3, 0, 239], .null), (8, 7, .getfield 139, 3, [6, 2, 0, 0, 71], .null), (11, 1, .invokevirtual 267, 3, [97, 3, 0, 8, 2, 77], .null), (14, 0, .istore_n 2, 1, [], .null), (15, 0, .iconst 1, 1, [], .int 1), (16, 0, .istore_n 3, 1, [], .null), (17, 0, .iload_n 3, 1, [], .null), (18, 0, .bipush 12, 2, [], .int 12), (20, 0, .if_icmp .gt 61, 3, [46], .null), (23, 0, .aload_n 0, 1, [], .null), (24, 0, .iload_n 3, 1, [], .null), (25, 0, .aload_n 0, 1, [], .null), (26, 7, .getfield 12, 3, [8, 0, 3, 0, 239], .null), (29, 7, .getfield 139, 3, [6, 2, 0, 0, 71], .null), (32, 1, .invokevirtual 267, 3, [97, 3, 0, 8, 2, 77], .null), (35, 0, .istore 4, 2, [], .null), (37, 0, .iload 4, 2, [], .null), (39, 0, .iload_n 2, 1, [], .null), (40, 0, .if_icmp .ge 8, 3, [28], .null), (43, 0, .iload 4, 2, [], .null), (45, 0, .istore_n 2, 1, [], .null), (46, 0, .iload_n 3, 1, [], .null), (47, 0, .istore_n 1, 1, [], .null), (48, 0, .aload_n 0, 1, [], .null), (49, 0, .iload_n 3, 1, [], .null), (50, 0, .ineg, 1, [], .null), (51, 0, .aload_n 0, 1, [], .null), (52, 7, .getfield 12, 3, [8, 0, 3, 0, 239], .null), (55, 7, .getfield 139, 3, [6, 2, 0, 0, 71], .null), (58, 1, .invokevirtual 267, 3, [97, 3, 0, 8, 2, 77], .null), (61, 0, .istore 5, 2, [], .null), (63, 0, .iload 5, 2, [], .null), (65, 0, .iload_n 2, 1, [], .null), (66, 0, .if_icmp .ge 9, 3, [44], .null), (69, 0, .iload 5, 2, [], .null), (71, 0, .istore_n 2, 1, [], .null), (72, 0, .iload_n 3, 1, [], .null), (73, 0, .ineg, 1, [], .null), (74, 0, .istore_n 1, 1, [], .null), (75, 0, .iinc 3 1, 3, [], .int 1), (78, 0, .goto (-61), 3, [11], .null), (81, 0, .iload_n 1, 1, [], .null), (82, 2, .ireturn, 1, [], .null)] -- X8_nearestBestShift
def xc_99 : List xE := [(0, 0, .aload_n 0, 1, [], .null), (1, 7, .getfield 12, 3, [8, 0, 3, 0, 239], .null), (4, 1, .invokevirtual 339, 3, [34, 1, 0, 6, 2, 76], .null), (7, 0, .ifCond .eq 5, 3, [6], .null), (10, 0, .iconst (-1), 1, [], .int (-1)), (11, 2, .ireturn, 1, [], .null), (12, 0, .aload_n 0, 1, [], .null), (13, 0, .iconst 0, 1, [], .int 0), (14, 0, .bipush 20, 2, [], .int 20), (16, 1, .invokevirtual 267, 3, [97, 3, 0, 8, 2, 77], .null), (19, 0, .istore_n 1, 1, [], .null), (20, 0, .aload_n 0, 1, [], .null), (21, 7, .getfield 12, 3, [8, 0, 3, 0, 239], .null), (24, 1, .invokevirtual 358, 3, [33, 1, 0, 6, 2, 83], .null), (27, 0, .istore_n 2, 1, [], .null), (28, 0, .iload_n 2, 1, [], .null), (29, 0, .bipush 20, 2, [], .int 20), (31, 0, .if_icmp .ge 19, 3, [26], .null), (34, 0, .aload_n 0, 1, [], .null), (35, 0, .iconst 0, 1, [], .int 0), (36, 0, .iload_n 2, 1, [], .null), (37, 1, .invokevirtual 267, 3, [97, 3, 0, 8, 2, 77], .null), (40, 0, .iload_n 1, 1, [], .null), (41, 0, .if_icmp .eq 9, 3, [26], .null), (44, 0, .iinc 2 1, 3, [], .int 1), (47, 0, .goto (-19), 3, [15], .null), (50, 0, .iload_n 2, 1, [], .null), (51, 2, .ireturn, 1, [], .null)] -- X8_leastNeededBound
def xc_100 : List xE := [(0, 0, .aload_n 0, 1, [], .null), (1, 4, .invokespecial 1, 3, [0, 109], .null), (4, 2, .return_, 1, [], .null)] -- Jxa1e45_init_da8c8
def xc_101 : List xE := [(0, 0, .aload_n 0, 1, [], .null), (1, 1, .invokespecial 1, 3, [100, 1, 2, 0, 0, 106], .null), (4, 0, .aload_n 0, 1, [], .null), (5, 0, .iconst 0, 1, [], .int 0), (6, 7, .putfield 7, 3, [0, 0, 0, 0, 114], .null), (9, 2, .return_, 1, [], .null)] -- Jxc12de_init_da8c8
def xc_102 : List xE := [(0, 0, .aload_n 0, 1, [], .null), (1, 1, .invokespecial 1, 3, [101, 1, 2, 0, 0, 103], .null), (4, 0, .aload_n 0, 1, [], .null), (5, 7, .getstatic 39, 3, [0, 110], .ref 26), (8, 7, .putfield 9, 3, [0, 1, 3, 0, 112], .null), (11, 2, .return_, 1, [], .null)] -- Jx4a65c_init_da8c8
def xc_103 : List xE := [(0, 0, .aload_n 0, 1, [], .null), (1, 7, .getfield 9, 3, [0, 1, 3, 0, 112], .null), (4, 7, .arraylength, 1, [], .null), (5, 0, .istore_n 2, 1, [], .null), (6, 0, .iload_n 2, 1, [], .null), (7, 0, .ifCond .gt 13, 3, [10], .null), (10, 0, .aload_n 0, 1, [], .null), (11, 7, .getfield 9, 3, [0, 1, 3, 0, 112], .null), (14, 7, .getstatic 39, 3, [0, 110], .ref 26), (17, 7, .if_acmp .eq 28, 3, [27], .null), (20, 0, .iload_n 2, 1, [], .null), (21, 0, .iload_n 1, 1, [], .null), (22, 0, .iload_n 2, 1, [], .null), (23, 0, .isub, 1, [], .null), (24, 0, .iload_n 2, 1, [], .null), (25, 0, .iconst 1, 1, [], .int 1), (26, 0, .ishr, 1, [], .null), (27, 9, .invokestatic 73, 3, [], .null), (30, 0, .istore_n 3, 1, [], .null), (31, 0, .aload_n 0, 1, [], .null), (32, 0, .aload_n 0, 1, [], .null), (33, 7, .getfield 9, 3, [0, 1, 3, 0, 112], .null), (36, 0, .iload_n 3, 1, [], .null), (37, 9, .invokestatic 66, 3, [], .null), (40, 0, .dup_x1, 1, [], .null), (41, 7, .putfield 9, 3, [0, 1, 3, 0, 112], .null), (44, 2, .areturn, 1, [], .null), (45, 0, .aload_n 0, 1, [], .null), (46, 0, .bipush 10, 2, [], .int 10), (48, 0, .iload_n 1, 1, [], .null), (49, 8, .invokestatic 79, 3, [0, 2, 217], .null), (52, 7, .anewarray 7, 3, [2, 218, 2, 213], .null), (55, 0, .dup_x1, 1, [], .null), (56, 7, .putfield 9, 3, [0, 1, 3, 0, 112], .null), (59, 2, .areturn, 1, [], .null)] -- Jx4a65c_grow_92f84
def xc_104 : List xE := [(0, 0, .aload_n 0, 1, [], .null), (1, 0, .aload_n 0, 1, [], .null), (2, 7, .getfield 48, 3, [0, 2, 0, 0, 113], .null), (5, 0, .iconst 1, 1, [], .int 1), (6, 0, .iadd, 1, [], .null), (7, 1, .invokevirtual 69, 3, [103, 2, 0, 0, 2, 178], .null), (10, 2, .areturn, 1, [], .null)] -- Jx4a65c_grow_d5877
def xc_105 : List xE := [(0, 0, .aload_n 0, 1, [], .null), (1, 7, .getfield 48, 3, [0, 2, 0, 0, 113], .null), (4, 2, .ireturn, 1, [], .null)] -- Jx4a65c_size_8abf5
def xc_106 : List xE := [(0, 0, .aload_n 0, 1, [], .null), (1, 7, .getfield 48, 3, [0, 2, 0, 0, 113], .null), (4, 0, .ifCond .ne 7, 3, [5], .null), (7, 0, .iconst 1, 1, [], .int 1), (8, 0, .goto 4, 3, [6], .null), (11, 0, .iconst 0, 1, [], .int 0), (12, 2, .ireturn, 1, [], .null)] -- Jx4a65c_isEmpty_aae02
def xc_107 : List xE := [(0, 0, .iload_n 3, 1, [], .null), (1, 0, .aload_n 2, 1, [], .null), (2, 7, .arraylength, 1, [], .null), (3, 0, .if_icmp .ne 8, 3, [7], .null), (6, 0, .aload_n 0, 1, [], .null), (7, 1, .invokevirtual 129, 3, [104, 1, 0, 0, 2, 174], .null), (10, 0, .astore_n 2, 1, [], .null), (11, 0, .aload_n 2, 1, [], .null), (12, 0, .iload_n 3, 1, [], .null), (13, 0, .aload_n 1, 1, [], .null), (14, 7, .aastore, 1, [], .null), (15, 0, .aload_n 0, 1, [], .null), (16, 0, .iload_n 3, 1, [], .null), (17, 0, .iconst 1, 1, [], .int 1), (18, 0, .iadd, 1, [], .null), (19, 7, .putfield 48, 3, [0, 2, 0, 0, 113], .null), (22, 2, .return_, 1, [], .null)] -- Jx4a65c_add_72be8
def xc_108 : List xE := [(0, 0, .aload_n 0, 1, [], .null), (1, 0, .dup, 1, [], .null), (2, 7, .getfield 63, 3, [0, 0, 0, 0, 115, 0, 116], .null), (5, 0, .iconst 1, 1, [], .int 1), (6, 0, .iadd, 1, [], .null), (7, 7, .putfield 63, 3, [0, 0, 0, 0, 115, 0, 116], .null), (10, 0, .aload_n 0, 1, [], .null), (11, 0, .aload_n 1, 1, [], .null), (12, 0, .aload_n 0, 1, [], .null), (13, 7, .getfield 9, 3, [0, 1, 3, 0, 112], .null), (16, 0, .aload_n 0, 1, [], .null), (17, 7, .getfield 48, 3, [0, 2, 0, 0, 113], .null), (20, 1, .invokevirtual 131, 3, [107, 4, 0, 0, 2, 170], .null), (23, 0, .iconst 1, 1, [], .int 1), (24, 2, .ireturn, 1, [], .null)] -- Jx4a65c_add_9ea2d
def xc_109 : List xE := [(0, 0, .iload_n 1, 1, [], .null), (1, 0, .aload_n 0, 1, [], .null), (2, 7, .getfield 48, 3, [0, 2, 0, 0, 113], .null), (5, 1, .invokestatic 118, 3, [112, 2, 1, 0, 1, 121], .null), (8, 0, .pop, 1, [], .null), (9, 0, .aload_n 0, 1, [], .null), (10, 7, .getfield 9, 3, [0, 1, 3, 0, 112], .null), (13, 0, .astore_n 2, 1, [], .null), (14, 0, .aload_n 2, 1, [], .null), (15, 0, .iload_n 1, 1, [], .null), (16, 7, .aaload, 1, [], .null), (17, 0, .astore_n 3, 1, [], .null), (18, 0, .aload_n 0, 1, [], .null), (19, 0, .aload_n 2, 1, [], .null), (20, 0, .iload_n 1, 1, [], .null), (21, 1, .invokevirtual 144, 3, [110, 3, 0, 0, 1, 127], .null), (24, 0, .aload_n 3, 1, [], .null), (25, 2, .areturn, 1, [], .null)] -- Jx4a65c_remove_915e3
def xc_110 : List xE := [(0, 0, .aload_n 0, 1, [], .null), (1, 0, .dup, 1, [], .null), (2, 7, .getfield 63, 3, [0, 0, 0, 0, 115, 0, 116], .null), (5, 0, .iconst 1, 1, [], .int 1), (6, 0, .iadd, 1, [], .null), (7, 7, .putfield 63, 3, [0, 0, 0, 0, 115, 0, 116], .null), (10, 0, .aload_n 0, 1, [], .null), (11, 7, .getfield 48, 3, [0, 2, 0, 0, 113], .null), (14, 0, .iconst 1, 1, [], .int 1), (15, 0, .isub, 1, [], .null), (16, 0, .dup, 1, [], .null), (17, 0, .istore_n 3, 1, [], .null), (18, 0, .iload_n 2, 1, [], .null), (19, 0, .if_icmp .le 15, 3, [24], .null), (22, 0, .aload_n 1, 1, [], .null), (23, 0, .iload_n 2, 1, [], .null), (24, 0, .iconst 1, 1, [], .int 1), (25, 0, .iadd, 1, [], .null), (26, 0, .aload_n 1, 1, [], .null), (27, 0, .iload_n 2, 1, [], .null), (28, 0, .iload_n 3, 1, [], .null), (29, 0, .iload_n 2, 1, [], .null), (30, 0, .isub, 1, [], .null), (31, 5, .invokestatic 112, 3, [1, 131], .null), (34, 0, .aload_n 1, 1, [], .null), (35, 0, .aload_n 0, 1, [], .null), (36, 0, .iload_n 3, 1, [], .null), (37, 0, .dup_x1, 1, [], .null), (38, 7, .putfield 48, 3, [0, 2, 0, 0, 113], .null), (41, 0, .aconst_null, 1, [], .null), (42, 7, .aastore, 1, [], .null), (43, 2, .return_, 1, [], .null)] -- Jx4a65c_fastRemove_b59b0
def xc_111 : List xE := [(0, 0, .iconst 0, 1, [], .int 0), (1, 0, .istore_n 2, 1, [], .null), (2, 0, .aload_n 0, 1, [], .null), (3, 7, .arraylength, 1, [], .null), (4, 0, .istore_n 3, 1, [], .null), (5, 0, .iload_n 2, 1, [], .null), (6, 0, .iload_n 3, 1, [], .null), (7, 0, .if_icmp .ge 13, 3, [14], .null), (10, 0, .aload_n 0, 1, [], .null), (11, 0, .iload_n 2, 1, [], .null), (12, 0, .iload_n 1, 1, [], .null), (13, 7, .iastore, 1, [], .null), (14, 0, .iinc 2 1, 3, [], .int 1), (17, 0, .goto (-12), 3, [5], .null), (20, 2, .return_, 1, [], .null)] -- J7_fill_53178
def xc_112 : List xE := [(0, 0, .iload_n 0, 1, [], .null), (1, 0, .iload_n 1, 1, [], .null), (2, 0, .aconst_null, 1, [], .null), (3, 1, .invokestatic 105, 3, [113, 3, 1, 0, 1, 124], .null), (6, 2, .ireturn, 1, [], .null)] -- J15_checkIndex_7cf53
def xc_113 : List xE := [(0, 0, .iload_n 0, 1, [], .null), (1, 0, .ifCond .lt 8, 3, [5], .null), (4, 0, .iload_n 0, 1, [], .null), (5, 0, .iload_n 1, 1, [], .null), (6, 0, .if_icmp .lt 10, 3, [10], .null), (9, 0, .aload_n 2, 1, [], .null), (10, 0, .iload_n 0, 1, [], .null), (11, 0, .iload_n 1, 1, [], .null), (12, 9, .invokestatic 95, 3, [], .null), (15, 9, .athrow, 1, [], .null), (16, 0, .iload_n 0, 1, [], .null), (17, 2, .ireturn, 1, [], .null)] -- J3_checkIndex_8e157
def xc_114 : List xE := [(0, 0, .iload_n 1, 1, [], .null), (1, 0, .aload_n 0, 1, [], .null), (2, 7, .arraylength, 1, [], .null), (3, 0, .if_icmp .ge 9, 3, [8], .null), (6, 0, .aload_n 0, 1, [], .null), (7, 0, .iload_n 1, 1, [], .null), (8, 7, .iaload, 1, [], .null), (9, 0, .goto 15, 3, [17], .null), (12, 0, .sipush 7919, 3, [], .int 7919), (15, 0, .iload_n 1, 1, [], .null), (16, 0, .iconst 3, 1, [], .int 3), (17, 0, .iadd, 1, [], .null), (18, 0, .imul, 1, [], .null), (19, 0, .iload_n 1, 1, [], .null), (20, 0, .bipush 11, 2, [], .int 11), (22, 0, .iadd, 1, [], .null), (23, 0, .imul, 1, [], .null), (24, 2, .ireturn, 1, [], .null)] -- L_cell
def xc_115 : List xE := [(0, 0, .iload_n 0, 1, [], .null), (1, 0, .ldc 7, 2, [2, 137], .int 2147483647), (3, 0, .iand, 1, [], .null), (4, 0, .iload_n 1, 1, [], .null), (5, 0, .irem, 1, [], .null), (6, 2, .ireturn, 1, [], .null)] -- L_low
def xc_116 : List xE := [(0, 0, .ldc2_w 8, 3, [2, 90], .long 3), (3, 0, .lstore_n 1, 1, [], .null), (4, 0, .ldc2_w 10, 3, [2, 91], .long 31), (7, 0, .ldc2_w 10, 3, [2, 91], .long 31), (10, 0, .ldc2_w 10, 3, [2, 91], .long 31), (13, 0, .lload_n 1, 1, [], .null), (14, 0, .lmul, 1, [], .null), (15, 0, .aload_n 0, 1, [], .null), (16, 1, .invokevirtual 12, 3, [66, 1, 0, 8, 1, 178], .null), (19, 0, .i2l, 1, [], .null), (20, 0, .ladd, 1, [], .null), (21, 0, .lmul, 1, [], .null), (22, 0, .aload_n 0, 1, [], .null), (23, 1, .invokevirtual 18, 3, [67, 1, 0, 8, 1, 182], .null), (26, 0, .i2l, 1, [], .null), (27, 0, .ladd, 1, [], .null), (28, 0, .lmul, 1, [], .null), (29, 0, .aload_n 0, 1, [], .null), (30, 1, .invokevirtual 21, 3, [68, 1, 0, 8, 1, 186], .null), (33, 0, .i2l, 1, [], .null), (34, 0, .ladd, 1, [], .null), (35, 0, .lstore_n 1, 1, [], .null), (36, 0, .iconst 0, 1, [], .int 0), (37, 0, .istore_n 3, 1, [], .null), (38, 0, .iload_n 3, 1, [], .null), (39, 0, .iconst 2, 1, [], .int 2), (40, 0, .if_icmp .ge 56, 3, [57], .null), (43, 0, .ldc2_w 10, 3, [2, 91], .long 31), (46, 0, .lload_n 1, 1, [], .null), (47, 0, .lmul, 1, [], .null), (48, 0, .aload_n 0, 1, [], .null), (49, 0, .iload_n 3, 1, [], .null), (50, 1, .invokevirtual 24, 3, [64, 2, 0, 8, 1, 147], .null), (53, 0, .i2l, 1, [], .null), (54, 0, .ladd, 1, [], .null), (55, 0, .lstore_n 1, 1, [], .null), (56, 0, .iconst 0, 1, [], .int 0), (57, 0, .istore 4, 2, [], .null), (59, 0, .iload 4, 2, [], .null), (61, 0, .aload_n 0, 1, [], .null), (62, 0, .iload_n 3, 1, [], .null), (63, 1, .invokevirtual 24, 3, [64, 2, 0, 8, 1, 147], .null), (66, 0, .if_icmp .ge 24, 3, [55], .null), (69, 0, .ldc2_w 10, 3, [2, 91], .long 31), (72, 0, .lload_n 1, 1, [], .null), (73, 0, .lmul, 1, [], .null), (74, 0, .aload_n 0, 1, [], .null), (75, 0, .iload_n 3, 1, [], .null), (76, 0, .iload 4, 2, [], .null), (78, 1, .invokevirtual 28, 3, [65, 3, 0, 8, 2, 92], .null), (81, 0, .i2l, 1, [], .null), (82, 0, .ladd, 1, [], .null), (83, 0, .lstore_n 1, 1, [], .null), (84, 0, .iinc 4 1, 3, [], .int 1), (87, 0, .goto (-28), 3, [38], .null), (90, 0, .iinc 3 1, 3, [], .int 1), (93, 0, .goto (-55), 3, [24], .null), (96, 0, .ldc2_w 10, 3, [2, 91], .long 31), (99, 0, .lload_n 1, 1, [], .null), (100, 0, .lmul, 1, [], .null), (101, 0, .aload_n 0, 1, [], .null), (102, 1, .invokevirtual 32, 3, [70, 1, 0, 8, 1, 190], .null), (105, 0, .ifCond .eq 10, 3, [66], .null), (108, 0, .aload_n 0, 1, [], .null), (109, 1, .invokevirtual 36, 3, [71, 1, 0, 8, 2, 105], .null), (112, 0, .goto 4, 3, [67], .null), (115, 0, .iconst (-1), 1, [], .int (-1)), (116, 0, .i2l, 1, [], .null), (117, 0, .ladd, 1, [], .null), (118, 0, .lstore_n 1, 1, [], .null), (119, 0, .ldc2_w 10, 3, [2, 91], .long 31), (122, 0, .lload_n 1, 1, [], .null), (123, 0, .lmul, 1, [], .null), (124, 0, .aload_n 0, 1, [], .null), (125, 1, .invokevirtual 39, 3, [59, 1, 0, 8, 1, 33], .null), (128, 0, .ifCond .eq 20, 3, [86], .null), (131, 0, .bipush 10, 2, [], .int 10), (133, 0, .iconst 1, 1, [], .int 1), (134, 0, .aload_n 0, 1, [], .null), (135, 1, .invokevirtual 42, 3, [60, 1, 0, 8, 2, 118], .null), (138, 0, .iadd, 1, [], .null), (139, 0, .imul, 1, [], .null), (140, 0, .aload_n 0, 1, [], .null), (141, 1, .invokevirtual 45, 3, [61, 1, 0, 8, 2, 127], .null), (144, 0, .iadd, 1, [], .null), (145, 0, .goto 4, 3, [87], .null), (148, 0, .iconst 0, 1, [], .int 0), (149, 0, .i2l, 1, [], .null), (150, 0, .ladd, 1, [], .null), (151, 2, .lreturn, 1, [], .null)] -- L_told
def xc_117 : List xE := [(0, 0, .iload_n 1, 1, [], .null), (1, 0, .iconst 4, 1, [], .int 4), (2, 0, .ishr, 1, [], .null), (3, 0, .iconst 1, 1, [], .int 1), (4, 0, .iand, 1, [], .null), (5, 0, .istore_n 3, 1, [], .null), (6, 0, .iload_n 2, 1, [], .null), (7, 0, .iload_n 2, 1, [], .null), (8, 0, .bipush 20, 2, [], .int 20), (10, 0, .ishr, 1, [], .null), (11, 0, .iconst 1, 1, [], .int 1), (12, 0, .iand, 1, [], .null), (13, 0, .ifCond .ne 8, 3, [15], .null), (16, 0, .bipush 14, 2, [], .int 14), (18, 0, .goto 5, 3, [16], .null), (21, 0, .bipush 61, 2, [], .int 61), (23, 1, .invokestatic 48, 3, [115, 2, 1, 0, 2, 134], .null), (26, 0, .istore 4, 2, [], .null), (28, 0, .aload_n 0, 1, [], .null), (29, 0, .iload_n 3, 1, [], .null), (30, 1, .invokevirtual 24, 3, [64, 2, 0, 8, 1, 147], .null), (33, 0, .ifCond .ne 7, 3, [24], .null), (36, 0, .iconst (-1), 1, [], .int (-1)), (37, 0, .goto 14, 3, [31], .null), (40, 0, .iload_n 1, 1, [], .null), (41, 0, .iconst 5, 1, [], .int 5), (42, 0, .ishr, 1, [], .null), (43, 0, .aload_n 0, 1, [], .null), (44, 0, .iload_n 3, 1, [], .null), (45, 1, .invokevirtual 24, 3, [64, 2, 0, 8, 1, 147], .null), (48, 1, .invokestatic 48, 3, [115, 2, 1, 0, 2, 134], .null), (51, 0, .istore 5, 2, [], .null), (53, 0, .iload_n 1, 1, [], .null), (54, 0, .bipush 15, 2, [], .int 15), (56, 0, .iand, 1, [], .null), (57, 0, .tableswitch 217 0 13 #[71, 71, 71, 71, 71, 71, 93, 112, 129, 149, 157, 164, 164, 191], 71, [129, 36, 36, 36, 36, 36, 36, 50, 62, 73, 86, 92, 97, 97, 113], .null), (128, 0, .aload_n 0, 1, [], .null), (129, 0, .iload_n 3, 1, [], .null), (130, 1, .invokevirtual 24, 3, [64, 2, 0, 8, 1, 147], .null), (133, 0, .bipush 12, 2, [], .int 12), (135, 0, .if_icmp .ne 5, 3, [43], .null), (138, 0, .iconst 0, 1, [], .int 0), (139, 2, .ireturn, 1, [], .null), (140, 0, .aload_n 0, 1, [], .null), (141, 0, .iload_n 3, 1, [], .null), (142, 0, .iload 4, 2, [], .null), (144, 1, .invokevirtual 53, 3, [50, 3, 0, 8, 2, 138], .null), (147, 0, .pop, 1, [], .null), (148, 0, .iconst 1, 1, [], .int 1), (149, 2, .ireturn, 1, [], .null), (150, 0, .iload 5, 2, [], .null), (152, 0, .ifCond .ge 5, 3, [54], .null), (155, 0, .iconst 0, 1, [], .int 0), (156, 2, .ireturn, 1, [], .null), (157, 0, .aload_n 0, 1, [], .null), (158, 0, .iload_n 3, 1, [], .null), (159, 0, .iload 5, 2, [], .null), (161, 0, .iload 4, 2, [], .null), (163, 1, .invokevirtual 56, 3, [51, 4, 0, 8, 2, 227], .null), (166, 0, .pop, 1, [], .null), (167, 0, .iconst 1, 1, [], .int 1), (168, 2, .ireturn, 1, [], .null), (169, 0, .iload 5, 2, [], .null), (171, 0, .ifCond .ge 5, 3, [66], .null), (174, 0, .iconst 0, 1, [], .int 0), (175, 2, .ireturn, 1, [], .null), (176, 0, .aload_n 0, 1, [], .null), (177, 0, .iload_n 3, 1, [], .null), (178, 0, .iload 5, 2, [], .null), (180, 1, .invokevirtual 60, 3, [52, 3, 0, 8, 2, 232], .null), (183, 0, .pop, 1, [], .null), (184, 0, .iconst 1, 1, [], .int 1), (185, 2, .ireturn, 1, [], .null), (186, 0, .aload_n 0, 1, [], .null), (187, 0, .iload_n 3, 1, [], .null), (188, 1, .invokevirtual 24, 3, [64, 2, 0, 8, 1, 147], .null), (191, 0, .bipush 6, 2, [], .int 6), (193, 0, .if_icmp .le 5, 3, [80], .null), (196, 0, .iconst 0, 1, [], .int 0), (197, 2, .ireturn, 1, [], .null), (198, 0, .aload_n 0, 1, [], .null), (199, 0, .iload_n 3, 1, [], .null), (200, 1, .invokevirtual 63, 3, [53, 2, 0, 8, 3, 1], .null), (203, 0, .pop, 1, [], .null), (204, 0, .iconst 1, 1, [], .int 1), (205, 2, .ireturn, 1, [], .null), (206, 0, .aload_n 0, 1, [], .null), (207, 0, .iload_n 3, 1, [], .null), (208, 1, .invokevirtual 66, 3, [54, 2, 0, 8, 3, 14], .null), (211, 0, .pop, 1, [], .null), (212, 0, .iconst 1, 1, [], .int 1), (213, 2, .ireturn, 1, [], .null), (214, 0, .aload_n 0, 1, [], .null), (215, 1, .invokevirtual 69, 3, [55, 1, 0, 8, 3, 22], .null), (218, 0, .pop, 1, [], .null), (219, 0, .iconst 1, 1, [], .int 1), (220, 2, .ireturn, 1, [], .null), (221, 0, .aload_n 0, 1, [], .null), (222, 0, .iload_n 2, 1, [], .null), (223, 0, .iload_n 2, 1, [], .null), (224, 0, .bipush 20, 2, [], .int 20), (226, 0, .ishr, 1, [], .null), (227, 0, .iconst 1, 1, [], .int 1), (228, 0, .iand, 1, [], .null), (229, 0, .ifCond .ne 8, 3, [107], .null), (232, 0, .bipush 6, 2, [], .int 6), (234, 0, .goto 5, 3, [108], .null), (237, 0, .bipush 21, 2, [], .int 21), (239, 1, .invokestatic 48, 3, [115, 2, 1, 0, 2, 134], .null), (242, 1, .invokevirtual 72, 3, [56, 2, 0, 8, 3, 30], .null), (245, 0, .pop, 1, [], .null), (246, 0, .iconst 1, 1, [], .int 1), (247, 2, .ireturn, 1, [], .null), (248, 0, .aload_n 0, 1, [], .null), (249, 0, .iload_n 2, 1, [], .null), (250, 0, .iload_n 2, 1, [], .null), (251, 0, .bipush 20, 2, [], .int 20), (253, 0, .ishr, 1, [], .null), (254, 0, .iconst 1, 1, [], .int 1), (255, 0, .iand, 1, [], .null), (256, 0, .ifCond .ne 7, 3, [123], .null), (259, 0, .iconst 5, 1, [], .int 5), (260, 0, .goto 5, 3, [124], .null), (263, 0, .bipush 51, 2, [], .int 51), (265, 1, .invokestatic 48, 3, [115, 2, 1, 0, 2, 134], .null), (268, 1, .invokevirtual 75, 3, [57, 2, 0, 8, 3, 34], .null), (271, 0, .pop, 1, [], .null), (272, 0, .iconst 1, 1, [], .int 1), (273, 2, .ireturn, 1, [], .null), (274, 0, .aload_n 0, 1, [], .null), (275, 0, .iload_n 2, 1, [], .null), (276, 0, .iconst 3, 1, [], .int 3), (277, 0, .iand, 1, [], .null), (278, 1, .invokevirtual 78, 3, [58, 2, 0, 8, 3, 38], .null), (281, 0, .pop, 1, [], .null), (282, 0, .iconst 1, 1, [], .int 1), (283, 2, .ireturn, 1, [], .null)] -- L_act
def xc_118_0 : List xE := [(0, 0, .aload_n 0, 1, [], .null), (1, 0, .iconst 0, 1, [], .int 0), (2, 1, .invokevirtual 24, 3, [64, 2, 0, 8, 1, 147], .null), (5, 0, .ifCond .eq 11, 3, [8], .null), (8, 0, .aload_n 0, 1, [], .null), (9, 0, .iconst 1, 1, [], .int 1), (10, 1, .invokevirtual 24, 3, [64, 2, 0, 8, 1, 147], .null), (13, 0, .ifCond .ne 7, 3, [10], .null), (16, 0, .iconst 1, 1, [], .int 1), (17, 0, .goto 4, 3, [11], .null), (20, 0, .iconst 0, 1, [], .int 0), (21, 0, .istore_n 2, 1, [], .null), (22, 0, .aload_n 0, 1, [], .null), (23, 0, .iconst 0, 1, [], .int 0), (24, 1, .invokevirtual 24, 3, [64, 2, 0, 8, 1, 147], .null), (27, 0, .aload_n 0, 1, [], .null), (28, 0, .iconst 1, 1, [], .int 1), (29, 1, .invokevirtual 24, 3, [64, 2, 0, 8, 1, 147], .null), (32, 0, .isub, 1, [], .null), (33, 0, .istore_n 3, 1, [], .null), (34, 0, .aload_n 0, 1, [], .null), (35, 1, .invokevirtual 32, 3, [70, 1, 0, 8, 1, 190], .null), (38, 0, .iload_n 2, 1, [], .null), (39, 0, .ifCond .ne 24, 3, [35], .null), (42, 0, .iload_n 3, 1, [], .null), (43, 0, .aload_n 0, 1, [], .null), (44, 1, .invokevirtual 12, 3, [66, 1, 0, 8, 1, 178], .null), (47, 0, .if_icmp .gt 16, 3, [35], .null), (50, 0, .iload_n 3, 1, [], .null), (51, 0, .ineg, 1, [], .null), (52, 0, .aload_n 0, 1, [], .null), (53, 1, .invokevirtual 12, 3, [66, 1, 0, 8, 1, 178], .null), (56, 0, .if_icmp .gt 7, 3, [35], .null), (59, 0, .iconst 1, 1, [], .int 1), (60, 0, .goto 4, 3, [36], .null), (63, 0, .iconst 0, 1, [], .int 0), (64, 0, .if_icmp .ne 24, 3, [48], .null), (67, 0, .aload_n 0, 1, [], .null), (68, 1, .invokevirtual 81, 3, [85, 1, 0, 8, 2, 68], .null), (71, 0, .iconst (-1), 1, [], .int (-1)), (72, 0, .if_icmp .ne 7, 3, [43], .null), (75, 0, .iconst 1, 1, [], .int 1), (76, 0, .goto 4, 3, [44], .null), (79, 0, .iconst 0, 1, [], .int 0), (80, 0, .iload_n 2, 1, [], .null), (81, 0, .if_icmp .ne 7, 3, [48], .null), (84, 0, .iconst 1, 1, [], .int 1), (85, 0, .goto 4, 3, [49], .null), (88, 0, .iconst 0, 1, [], .int 0), (89, 0, .istore 4, 2, [], .null), (91, 0, .iload_n 2, 1, [], .null), (92, 0, .ifCond .ne 71, 3, [86], .null), (95, 0, .iload 4, 2, [], .null), (97, 0, .ifCond .eq 63, 3, [84], .null), (100, 0, .aload_n 0, 1, [], .null), (101, 1, .invokevirtual 84, 3, [80, 1, 0, 8, 3, 45], .null), (104, 0, .aload_n 0, 1, [], .null), (105, 1, .invokevirtual 87, 3, [81, 1, 0, 8, 3, 73], .null), (108, 0, .if_icmp .gt 52, 3, [84], .null), (111, 0, .aload_n 0, 1, [], .null), (112, 1, .invokevirtual 90, 3, [79, 1, 0, 8, 3, 77], .null), (115, 0, .aload_n 0, 1, [], .null), (116, 0, .bipush 20, 2, [], .int 20), (118, 1, .invokevirtual 93, 3, [84, 2, 0, 8, 3, 81], .null), (121, 0, .if_icmp .gt 39, 3, [84], .null), (124, 0, .aload_n 0, 1, [], .null), (125, 0, .iconst 0, 1, [], .int 0), (126, 0, .iconst 0, 1, [], .int 0), (127, 1, .invokevirtual 96, 3, [73, 3, 0, 8, 3, 89], .null), (130, 0, .aload_n 0, 1, [], .null), (131, 0, .iconst 0, 1, [], .int 0), (132, 0, .iconst 0, 1, [], .int 0), (133, 1, .invokevirtual 99, 3, [69, 3, 0, 8, 3, 97], .null), (136, 0, .if_icmp .ne 24, 3, [84], .null), (139, 0, .aload_n 0, 1, [], .null), (140, 0, .aload_n 0, 1, [], .null), (141, 1, .invokevirtual 81, 3, [85, 1, 0, 8, 2, 68], .null), (144, 1, .invokevirtual 93, 3, [84, 2, 0, 8, 3, 81], .null), (147, 0, .aload_n 0, 1, [], .null), (148, 0, .bipush 20, 2, [], .int 20), (150, 1, .invokevirtual 93, 3, [84, 2, 0, 8, 3, 81], .null), (153, 0, .if_icmp .ne 7, 3, [84], .null), (156, 0, .iconst 1, 1, [], .int 1), (157, 0, .goto 4, 3, [85], .null), (160, 0, .iconst 0, 1, [], .int 0), (161, 0, .istore 4, 2, [], .null), (163, 0, .aload_n 0, 1, [], .null), (164, 1, .invokevirtual 32, 3, [70, 1, 0, 8, 1, 190], .null), (167, 0, .ifCond .ne 30, 3, [103], .null), (170, 0, .iload 4, 2, [], .null), (172, 0, .ifCond .eq 23, 3, [101], .null), (175, 0, .aload_n 0, 1, [], .null), (176, 1, .invokevirtual 102, 3, [78, 1, 0, 8, 1, 209], .null), (179, 0, .ifCond .ne 16, 3, [101], .null), (182, 0, .aload_n 0, 1, [], .null), (183, 1, .invokevirtual 105, 3, [86, 1, 0, 8, 3, 102], .null), (186, 0, .dconst 0, 1, [], .double FP.dconst0), (187, 0, .dcmp .l, 1, [], .null), (188, 0, .ifCond .ne 7, 3, [101], .null), (191, 0, .iconst 1, 1, [], .int 1)]
def xc_118_1 : List xE := [(192, 0, .goto 4, 3, [102], .null), (195, 0, .iconst 0, 1, [], .int 0), (196, 2, .ireturn, 1, [], .null), (197, 0, .aload_n 0, 1, [], .null), (198, 1, .invokevirtual 109, 3, [74, 1, 0, 8, 3, 110], .null), (201, 0, .istore 5, 2, [], .null), (203, 0, .iconst 0, 1, [], .int 0), (204, 0, .istore 6, 2, [], .null), (206, 0, .iconst 0, 1, [], .int 0), (207, 0, .istore 7, 2, [], .null), (209, 0, .iconst 0, 1, [], .int 0), (210, 0, .istore 8, 2, [], .null), (212, 0, .iload 8, 2, [], .null), (214, 0, .iload 5, 2, [], .null), (216, 0, .if_icmp .ge 146, 3, [190], .null), (219, 0, .aload_n 0, 1, [], .null), (220, 0, .iconst 0, 1, [], .int 0), (221, 0, .iload 8, 2, [], .null), (223, 1, .invokevirtual 112, 3, [75, 3, 0, 8, 3, 114], .null), (226, 0, .istore 9, 2, [], .null), (228, 0, .aload_n 0, 1, [], .null), (229, 0, .iconst 1, 1, [], .int 1), (230, 0, .iload 8, 2, [], .null), (232, 1, .invokevirtual 112, 3, [75, 3, 0, 8, 3, 114], .null), (235, 0, .istore 10, 2, [], .null), (237, 0, .iload 8, 2, [], .null), (239, 0, .ifCond .ne 7, 3, [129], .null), (242, 0, .iconst 1, 1, [], .int 1), (243, 0, .goto 15, 3, [137], .null), (246, 0, .iload 9, 2, [], .null), (248, 0, .aload_n 0, 1, [], .null), (249, 0, .iconst 0, 1, [], .int 0), (250, 0, .iload 8, 2, [], .null), (252, 0, .iconst 1, 1, [], .int 1), (253, 0, .isub, 1, [], .null), (254, 1, .invokevirtual 112, 3, [75, 3, 0, 8, 3, 114], .null), (257, 0, .isub, 1, [], .null), (258, 0, .istore 11, 2, [], .null), (260, 0, .iload 8, 2, [], .null), (262, 0, .ifCond .ne 7, 3, [142], .null), (265, 0, .iconst 1, 1, [], .int 1), (266, 0, .goto 15, 3, [150], .null), (269, 0, .iload 10, 2, [], .null), (271, 0, .aload_n 0, 1, [], .null), (272, 0, .iconst 1, 1, [], .int 1), (273, 0, .iload 8, 2, [], .null), (275, 0, .iconst 1, 1, [], .int 1), (276, 0, .isub, 1, [], .null), (277, 1, .invokevirtual 112, 3, [75, 3, 0, 8, 3, 114], .null), (280, 0, .isub, 1, [], .null), (281, 0, .istore 12, 2, [], .null), (283, 0, .iload 6, 2, [], .null), (285, 0, .aload_n 0, 1, [], .null), (286, 0, .iload 9, 2, [], .null), (288, 0, .iload 10, 2, [], .null), (290, 1, .invokevirtual 99, 3, [69, 3, 0, 8, 3, 97], .null), (293, 0, .iload 11, 2, [], .null), (295, 0, .iload 12, 2, [], .null), (297, 0, .iadd, 1, [], .null), (298, 0, .iconst 1, 1, [], .int 1), (299, 0, .if_icmp .ne 10, 3, [164], .null), (302, 0, .aload_n 0, 1, [], .null), (303, 1, .invokevirtual 18, 3, [67, 1, 0, 8, 1, 182], .null), (306, 0, .goto 4, 3, [165], .null), (309, 0, .iconst 0, 1, [], .int 0), (310, 0, .iadd, 1, [], .null), (311, 0, .iadd, 1, [], .null), (312, 0, .istore 6, 2, [], .null), (314, 0, .iload 4, 2, [], .null), (316, 0, .ifCond .eq 37, 3, [186], .null), (319, 0, .iload 11, 2, [], .null), (321, 0, .ifCond .lt 32, 3, [186], .null), (324, 0, .iload 12, 2, [], .null), (326, 0, .ifCond .lt 27, 3, [186], .null), (329, 0, .iload 11, 2, [], .null), (331, 0, .iconst 2, 1, [], .int 2), (332, 0, .if_icmp .ge 21, 3, [186], .null), (335, 0, .iload 12, 2, [], .null), (337, 0, .iconst 2, 1, [], .int 2), (338, 0, .if_icmp .ge 15, 3, [186], .null), (341, 0, .iload 11, 2, [], .null), (343, 0, .iload 12, 2, [], .null), (345, 0, .iadd, 1, [], .null), (346, 0, .ifCond .le 7, 3, [186], .null), (349, 0, .iconst 1, 1, [], .int 1), (350, 0, .goto 4, 3, [187], .null), (353, 0, .iconst 0, 1, [], .int 0), (354, 0, .istore 4, 2, [], .null), (356, 0, .iinc 8 1, 3, [], .int 1), (359, 0, .goto (-147), 3, [112], .null), (362, 0, .iconst 0, 1, [], .int 0), (363, 0, .istore 8, 2, [], .null), (365, 0, .iload 8, 2, [], .null), (367, 0, .iconst 2, 1, [], .int 2), (368, 0, .if_icmp .ge 82, 3, [232], .null), (371, 0, .iconst 0, 1, [], .int 0), (372, 0, .istore 9, 2, [], .null), (374, 0, .iload 9, 2, [], .null), (376, 0, .aload_n 0, 1, [], .null), (377, 0, .iload 8, 2, [], .null)]
def xc_118_2 : List xE := [(379, 1, .invokevirtual 24, 3, [64, 2, 0, 8, 1, 147], .null), (382, 0, .if_icmp .ge 62, 3, [230], .null), (385, 0, .iload 7, 2, [], .null), (387, 0, .aload_n 0, 1, [], .null), (388, 0, .iload 8, 2, [], .null), (390, 0, .iload 9, 2, [], .null), (392, 1, .invokevirtual 115, 3, [76, 3, 0, 8, 3, 123], .null), (395, 0, .iadd, 1, [], .null), (396, 0, .istore 7, 2, [], .null), (398, 0, .iload 4, 2, [], .null), (400, 0, .ifCond .eq 35, 3, [226], .null), (403, 0, .aload_n 0, 1, [], .null), (404, 0, .iload 8, 2, [], .null), (406, 0, .iload 9, 2, [], .null), (408, 1, .invokevirtual 115, 3, [76, 3, 0, 8, 3, 123], .null), (411, 0, .ifCond .le 24, 3, [226], .null), (414, 0, .aload_n 0, 1, [], .null), (415, 0, .iload 8, 2, [], .null), (417, 0, .iload 9, 2, [], .null), (419, 1, .invokevirtual 115, 3, [76, 3, 0, 8, 3, 123], .null), (422, 0, .aload_n 0, 1, [], .null), (423, 0, .iload 8, 2, [], .null), (425, 1, .invokevirtual 118, 3, [77, 2, 0, 8, 3, 131], .null), (428, 0, .if_icmp .gt 7, 3, [226], .null), (431, 0, .iconst 1, 1, [], .int 1), (432, 0, .goto 4, 3, [227], .null), (435, 0, .iconst 0, 1, [], .int 0), (436, 0, .istore 4, 2, [], .null), (438, 0, .iinc 9 1, 3, [], .int 1), (441, 0, .goto (-67), 3, [197], .null), (444, 0, .iinc 8 1, 3, [], .int 1), (447, 0, .goto (-82), 3, [192], .null), (450, 0, .iload 4, 2, [], .null), (452, 0, .ifCond .eq 92, 3, [278], .null), (455, 0, .iload 7, 2, [], .null), (457, 0, .iconst 2, 1, [], .int 2), (458, 0, .iload 5, 2, [], .null), (460, 0, .imul, 1, [], .null), (461, 0, .if_icmp .ne 83, 3, [278], .null), (464, 0, .iload 6, 2, [], .null), (466, 0, .aload_n 0, 1, [], .null), (467, 1, .invokevirtual 36, 3, [71, 1, 0, 8, 2, 105], .null), (470, 0, .if_icmp .ne 74, 3, [278], .null), (473, 0, .aload_n 0, 1, [], .null), (474, 1, .invokevirtual 121, 3, [72, 1, 0, 8, 3, 141], .null), (477, 0, .iload 6, 2, [], .null), (479, 0, .if_icmp .ne 65, 3, [278], .null), (482, 0, .aload_n 0, 1, [], .null), (483, 1, .invokevirtual 102, 3, [78, 1, 0, 8, 1, 209], .null), (486, 0, .ifCond .le 58, 3, [278], .null), (489, 0, .aload_n 0, 1, [], .null), (490, 1, .invokevirtual 102, 3, [78, 1, 0, 8, 1, 209], .null), (493, 0, .ldc 124, 2, [3, 149], .int 1000000), (495, 0, .if_icmp .gt 49, 3, [278], .null), (498, 0, .aload_n 0, 1, [], .null), (499, 0, .aload_n 0, 1, [], .null), (500, 1, .invokevirtual 125, 3, [83, 1, 0, 8, 3, 150], .null), (503, 1, .invokevirtual 128, 3, [82, 2, 0, 8, 3, 158], .null), (506, 0, .aload_n 0, 1, [], .null), (507, 0, .iload_n 1, 1, [], .null), (508, 0, .bipush 25, 2, [], .int 25), (510, 1, .invokestatic 48, 3, [115, 2, 1, 0, 2, 134], .null), (513, 0, .bipush 12, 2, [], .int 12), (515, 0, .isub, 1, [], .null), (516, 1, .invokevirtual 128, 3, [82, 2, 0, 8, 3, 158], .null), (519, 0, .if_icmp .gt 25, 3, [278], .null), (522, 0, .aload_n 0, 1, [], .null), (523, 1, .invokevirtual 105, 3, [86, 1, 0, 8, 3, 102], .null), (526, 0, .dconst 0, 1, [], .double FP.dconst0), (527, 0, .dcmp .l, 1, [], .null), (528, 0, .ifCond .lt 16, 3, [278], .null), (531, 0, .aload_n 0, 1, [], .null), (532, 1, .invokevirtual 105, 3, [86, 1, 0, 8, 3, 102], .null), (535, 0, .dconst 1, 1, [], .double FP.dconst1), (536, 0, .dcmp .g, 1, [], .null), (537, 0, .ifCond .gt 7, 3, [278], .null), (540, 0, .iconst 1, 1, [], .int 1), (541, 0, .goto 4, 3, [279], .null), (544, 0, .iconst 0, 1, [], .int 0), (545, 2, .ireturn, 1, [], .null)]
def xc_118 : List xE := xc_118_0 ++ (xc_118_1 ++ (xc_118_2)) -- L_holds
def xc_119 : List xE := [(0, 7, .new 13, 3, [8, 11, 0, 25, 0, 26, 0, 1], .null), (3, 0, .dup, 1, [], .null), (4, 1, .invokespecial 131, 3, [49, 1, 2, 8, 0, 27], .null), (7, 0, .astore_n 1, 1, [], .null), (8, 0, .aload_n 1, 1, [], .null), (9, 1, .invokevirtual 132, 3, [63, 1, 0, 8, 1, 143], .null), (12, 0, .ifCond .ne 64, 3, [35], .null), (15, 0, .aload_n 1, 1, [], .null), (16, 0, .iconst 0, 1, [], .int 0), (17, 1, .invokevirtual 24, 3, [64, 2, 0, 8, 1, 147], .null), (20, 0, .ifCond .ne 56, 3, [35], .null), (23, 0, .aload_n 1, 1, [], .null), (24, 1, .invokevirtual 12, 3, [66, 1, 0, 8, 1, 178], .null), (27, 0, .bipush 20, 2, [], .int 20), (29, 0, .if_icmp .ne 47, 3, [35], .null), (32, 0, .aload_n 1, 1, [], .null), (33, 1, .invokevirtual 18, 3, [67, 1, 0, 8, 1, 182], .null), (36, 0, .iconst 1, 1, [], .int 1), (37, 0, .if_icmp .ne 39, 3, [35], .null), (40, 0, .aload_n 1, 1, [], .null), (41, 1, .invokevirtual 21, 3, [68, 1, 0, 8, 1, 186], .null), (44, 0, .ifCond .ne 32, 3, [35], .null), (47, 0, .aload_n 1, 1, [], .null), (48, 1, .invokevirtual 32, 3, [70, 1, 0, 8, 1, 190], .null), (51, 0, .ifCond .ne 25, 3, [35], .null), (54, 0, .aload_n 1, 1, [], .null), (55, 1, .invokevirtual 81, 3, [85, 1, 0, 8, 2, 68], .null), (58, 0, .iconst (-1), 1, [], .int (-1)), (59, 0, .if_icmp .ne 17, 3, [35], .null), (62, 0, .aload_n 1, 1, [], .null), (63, 1, .invokevirtual 102, 3, [78, 1, 0, 8, 1, 209], .null), (66, 0, .ifCond .ne 10, 3, [35], .null), (69, 0, .aload_n 1, 1, [], .null), (70, 1, .invokevirtual 39, 3, [59, 1, 0, 8, 1, 33], .null), (73, 0, .ifCond .eq 5, 3, [37], .null), (76, 0, .iconst 0, 1, [], .int 0), (77, 2, .ireturn, 1, [], .null), (78, 0, .iconst 0, 1, [], .int 0), (79, 0, .istore_n 2, 1, [], .null), (80, 0, .iload_n 2, 1, [], .null), (81, 0, .bipush 34, 2, [], .int 34), (83, 0, .if_icmp .ge 196, 3, [147], .null), (86, 0, .aload_n 0, 1, [], .null), (87, 0, .iconst 2, 1, [], .int 2), (88, 0, .iload_n 2, 1, [], .null), (89, 0, .imul, 1, [], .null), (90, 1, .invokestatic 135, 3, [114, 2, 1, 0, 2, 84], .null), (93, 0, .istore_n 3, 1, [], .null), (94, 0, .iload_n 2, 1, [], .null), (95, 0, .bipush 6, 2, [], .int 6), (97, 0, .if_icmp .ge 10, 3, [55], .null), (100, 0, .iload_n 3, 1, [], .null), (101, 0, .bipush (-16), 2, [], .int (-16)), (103, 0, .iand, 1, [], .null), (104, 0, .goto 4, 3, [56], .null), (107, 0, .iload_n 3, 1, [], .null), (108, 0, .istore_n 3, 1, [], .null), (109, 0, .aload_n 0, 1, [], .null), (110, 0, .iconst 2, 1, [], .int 2), (111, 0, .iload_n 2, 1, [], .null), (112, 0, .imul, 1, [], .null), (113, 0, .iconst 1, 1, [], .int 1), (114, 0, .iadd, 1, [], .null), (115, 1, .invokestatic 135, 3, [114, 2, 1, 0, 2, 84], .null), (118, 0, .istore 4, 2, [], .null), (120, 0, .aload_n 1, 1, [], .null), (121, 1, .invokestatic 139, 3, [116, 1, 1, 0, 2, 87], .null), (124, 0, .lstore 5, 2, [], .null), (126, 0, .aload_n 1, 1, [], .null), (127, 1, .invokevirtual 132, 3, [63, 1, 0, 8, 1, 143], .null), (130, 0, .istore 7, 2, [], .null), (132, 0, .aload_n 1, 1, [], .null), (133, 0, .iload_n 3, 1, [], .null), (134, 0, .iload 4, 2, [], .null), (136, 1, .invokestatic 143, 3, [117, 3, 1, 0, 2, 131], .null), (139, 0, .istore 8, 2, [], .null), (141, 0, .aload_n 1, 1, [], .null), (142, 1, .invokestatic 139, 3, [116, 1, 1, 0, 2, 87], .null), (145, 0, .lstore 9, 2, [], .null), (147, 0, .iload 8, 2, [], .null), (149, 0, .ifCond .ne 23, 3, [90], .null), (152, 0, .lload 9, 2, [], .null), (154, 0, .lload 5, 2, [], .null), (156, 0, .lcmp, 1, [], .null), (157, 0, .ifCond .ne 38, 3, [101], .null), (160, 0, .aload_n 1, 1, [], .null), (161, 1, .invokevirtual 132, 3, [63, 1, 0, 8, 1, 143], .null), (164, 0, .iload 7, 2, [], .null), (166, 0, .if_icmp .eq 31, 3, [103], .null), (169, 0, .goto 26, 3, [101], .null), (172, 0, .aload_n 1, 1, [], .null), (173, 1, .invokevirtual 132, 3, [63, 1, 0, 8, 1, 143], .null), (176, 0, .iload 7, 2, [], .null), (178, 0, .bipush 6, 2, [], .int 6), (180, 0, .if_icmp .ge 10, 3, [99], .null), (183, 0, .iload 7, 2, [], .null), (185, 0, .iconst 1, 1, [], .int 1), (186, 0, .iadd, 1, [], .null), (187, 0, .goto 5, 3, [100], .null), (190, 0, .bipush 6, 2, [], .int 6), (192, 0, .if_icmp .eq 5, 3, [103], .null), (195, 0, .iconst 0, 1, [], .int 0), (196, 2, .ireturn, 1, [], .null), (197, 0, .iload 8, 2, [], .null), (199, 0, .ifCond .eq 61, 3, [137], .null), (202, 0, .iload_n 3, 1, [], .null), (203, 0, .bipush 20, 2, [], .int 20), (205, 0, .ishr, 1, [], .null), (206, 0, .iconst 1, 1, [], .int 1), (207, 0, .iand, 1, [], .null), (208, 0, .ifCond .ne 52, 3, [137], .null), (211, 0, .aload_n 1, 1, [], .null), (212, 1, .invokevirtual 132, 3, [63, 1, 0, 8, 1, 143], .null), (215, 0, .iconst 1, 1, [], .int 1), (216, 0, .isub, 1, [], .null), (217, 0, .istore 11, 2, [], .null), (219, 0, .aload_n 1, 1, [], .null), (220, 1, .invokevirtual 147, 3, [62, 1, 0, 8, 1, 37], .null), (223, 0, .iload 11, 2, [], .null), (225, 0, .if_icmp .ne 33, 3, [135], .null), (228, 0, .aload_n 1, 1, [], .null), (229, 1, .invokestatic 139, 3, [116, 1, 1, 0, 2, 87], .null), (232, 0, .lload 5, 2, [], .null), (234, 0, .lcmp, 1, [], .null), (235, 0, .ifCond .ne 23, 3, [135], .null), (238, 0, .aload_n 1, 1, [], .null), (239, 0, .iload_n 3, 1, [], .null), (240, 0, .iload 4, 2, [], .null), (242, 1, .invokestatic 143, 3, [117, 3, 1, 0, 2, 131], .null), (245, 0, .ifCond .eq 13, 3, [135], .null), (248, 0, .aload_n 1, 1, [], .null), (249, 1, .invokestatic 139, 3, [116, 1, 1, 0, 2, 87], .null), (252, 0, .lload 9, 2, [], .null), (254, 0, .lcmp, 1, [], .null), (255, 0, .ifCond .eq 5, 3, [137], .null), (258, 0, .iconst 0, 1, [], .int 0), (259, 2, .ireturn, 1, [], .null), (260, 0, .aload_n 1, 1, [], .null), (261, 0, .iload 4, 2, [], .null), (263, 0, .iconst 4, 1, [], .int 4), (264, 0, .ishr, 1, [], .null), (265, 1, .invokestatic 150, 3, [118, 2, 1, 0, 3, 42], .null), (268, 0, .ifCond .ne 5, 3, [145], .null), (271, 0, .iconst 0, 1, [], .int 0), (272, 2, .ireturn, 1, [], .null), (273, 0, .iinc 2 1, 3, [], .int 1), (276, 0, .goto (-196), 3, [39], .null), (279, 0, .iconst 1, 1, [], .int 1), (280, 2, .ireturn, 1, [], .null)] -- L_law
def xtl_0 : List xM := [(xc_0, 1, 0, []), (xc_1, 5, 1, []), (xc_2, 6, 0, []), (xc_3, 1, 0, []), (xc_4, 5, 0, []), (xc_5, 13, 0, []), (xc_6, 3, 0, []), (xc_7, 10, 0, []), (xc_8, 1, 0, []), (xc_9, 2, 0, []), (xc_10, 3, 1, []), (xc_11, 2, 1, []), (xc_12, 1, 1, []), (xc_13, 4, 1, []), (xc_14, 4, 1, []), (xc_15, 4, 1, []), (xc_16, 1, 4, []), (xc_17, 7, 0, []), (xc_18, 7, 2, []), (xc_19, 2, 1, []), (xc_20, 2, 1, []), (xc_21, 7, 0, []), (xc_22, 3, 0, []), (xc_23, 1, 0, []), (xc_24, 4, 0, []), (xc_25, 4, 0, []), (xc_26, 3, 0, []), (xc_27, 4, 0, []), (xc_28, 1, 0, []), (xc_29, 1, 0, []), (xc_30, 2, 0, []), (xc_31, 2, 5, [])]
def xtl_1 : List xM := [(xc_32, 2, 0, []), (xc_33, 1, 1, []), (xc_34, 1, 2, []), (xc_35, 1, 2, []), (xc_36, 3, 2, []), (xc_37, 3, 1, []), (xc_38, 4, 1, []), (xc_39, 1, 0, []), (xc_40, 2, 0, []), (xc_41, 2, 2, []), (xc_42, 2, 1, []), (xc_43, 3, 0, []), (xc_44, 2, 0, []), (xc_45, 3, 0, []), (xc_46, 1, 2, []), (xc_47, 3, 0, []), (xc_48, 4, 0, []), (xc_49, 1, 0, []), (xc_50, 4, 1, []), (xc_51, 6, 1, []), (xc_52, 5, 1, []), (xc_53, 3, 1, []), (xc_54, 3, 1, []), (xc_55, 1, 1, []), (xc_56, 3, 1, []), (xc_57, 3, 1, []), (xc_58, 3, 1, []), (xc_59, 1, 2, []), (xc_60, 1, 1, []), (xc_61, 1, 1, []), (xc_62, 1, 1, []), (xc_63, 1, 1, [])]
def xtl_2 : List xM := [(xc_64, 2, 1, []), (xc_65, 4, 1, []), (xc_66, 1, 1, []), (xc_67, 1, 1, []), (xc_68, 1, 1, []), (xc_69, 3, 1, []), (xc_70, 1, 2, []), (xc_71, 1, 1, []), (xc_72, 1, 1, []), (xc_73, 3, 1, []), (xc_74, 1, 1, []), (xc_75, 4, 1, []), (xc_76, 3, 1, []), (xc_77, 2, 1, []), (xc_78, 1, 1, []), (xc_79, 1, 1, []), (xc_80, 1, 1, []), (xc_81, 1, 1, []), (xc_82, 2, 1, []), (xc_83, 1, 1, []), (xc_84, 2, 1, []), (xc_85, 1, 1, []), (xc_86, 1, 4, []), (xc_87, 1, 0, []), (xc_88, 2, 5, []), (xc_89, 2, 0, []), (xc_90, 3, 0, []), (xc_91, 1, 0, []), (xc_92, 1, 0, []), (xc_93, 1, 0, []), (xc_94, 2, 0, []), (xc_95, 1, 5, [])]
def xtl_3 : List xM := [(xc_96, 1, 1, []), (xc_97, 3, 1, []), (xc_98, 6, 1, []), (xc_99, 3, 1, []), (xc_100, 1, 0, []), (xc_101, 1, 0, []), (xc_102, 1, 0, []), (xc_103, 4, 5, []), (xc_104, 1, 5, []), (xc_105, 1, 1, []), (xc_106, 1, 2, []), (xc_107, 4, 0, []), (xc_108, 2, 2, []), (xc_109, 4, 5, []), (xc_110, 4, 0, []), (xc_111, 4, 0, []), (xc_112, 2, 1, []), (xc_113, 3, 1, []), (xc_114, 2, 1, []), (xc_115, 2, 1, []), (xc_116, 5, 3, []), (xc_117, 6, 2, []), (xc_118, 13, 2, []), (xc_119, 12, 2, [])]
def xm0 : xM := ([], 0, 0, [])
def xtab (k : Nat) : xM := if 120 ≤ k then xm0 else if k < 64 then (if k < 32 then (xtl_0.getD (k % 32) xm0) else (xtl_1.getD (k % 32) xm0)) else (if k < 96 then (xtl_2.getD (k % 32) xm0) else (xtl_3.getD (k % 32) xm0))
end
section
/-! What the lists name, checked against the tables of the claim. -/
def xcl (ci : Nat) : String × u_T × Nat := match ci with
  | 0 => ("java/util/ArrayList", (fun k => match k with
    | 0 => ("java/util/AbstractList", "modCount", "I", false)
    | 1 => ("java/util/ArrayList", "elementData", "[Ljava/lang/Object;", false)
    | _ => ("java/util/ArrayList", "size", "I", false)), 3)
  | 1 => ("SlowTunes$Grid", (fun k => match k with
    | _ => ("SlowTunes$Grid", "cells", "[I", true)), 1)
  | 2 => ("SlowTunes$Grid", (fun k => match k with
    | _ => ("SlowTunes$Grid", "cells", "[I", true)), 1)
  | 3 => ("SlowTunes$Matches", (fun k => match k with
    | 0 => ("SlowTunes$Matches", "fromBegin", "LSlowTunes$Grid;", true)
    | 1 => ("SlowTunes$Matches", "fromEnd", "LSlowTunes$Grid;", true)
    | 2 => ("SlowTunes$Matches", "firstSteps", "LSlowTunes$Grid;", true)
    | 3 => ("SlowTunes$Matches", "counts", "LSlowTunes$Grid;", true)
    | 4 => ("SlowTunes$Matches", "zeroNotes", "[I", true)
    | 5 => ("SlowTunes$Matches", "oneNotes", "[I", true)
    | 6 => ("SlowTunes$Matches", "zeroStretches", "[I", true)
    | 7 => ("SlowTunes$Matches", "oneStretches", "[I", true)
    | 8 => ("SlowTunes$Matches", "length", "I", false)
    | 9 => ("SlowTunes$Matches", "held", "I", false)
    | _ => ("SlowTunes$Matches", "number", "I", false)), 11)
  | 4 => ("SlowTunes$Parts", (fun k => match k with
    | 0 => ("SlowTunes$Parts", "costs", "LSlowTunes$Grid;", true)
    | 1 => ("SlowTunes$Parts", "begins", "LSlowTunes$Grid;", true)
    | 2 => ("SlowTunes$Parts", "least", "I", false)
    | 3 => ("SlowTunes$Parts", "first", "I", false)
    | 4 => ("SlowTunes$Parts", "last", "I", false)
    | 5 => ("SlowTunes$Parts", "leastBefore", "I", false)
    | _ => ("SlowTunes$Parts", "latestBegin", "I", false)), 7)
  | 5 => ("SlowTunes$Reader", (fun k => match k with
    | 0 => ("SlowTunes$Reader", "numbers", "[I", true)
    | 1 => ("SlowTunes$Reader", "numbersLength", "I", false)
    | 2 => ("SlowTunes$Reader", "place", "I", false)
    | 3 => ("SlowTunes$Reader", "word", "LSlowTunes$Word;", false)
    | 4 => ("SlowTunes$Reader", "lettersRead", "I", false)
    | _ => ("SlowTunes$Reader", "tune", "I", false)), 6)
  | 6 => ("SlowTunes$State", (fun k => match k with
    | 0 => ("SlowTunes$State", "zero", "LSlowTunes$Tune;", false)
    | 1 => ("SlowTunes$State", "one", "LSlowTunes$Tune;", false)
    | 2 => ("SlowTunes$State", "farthest", "I", false)
    | 3 => ("SlowTunes$State", "price", "I", false)
    | 4 => ("SlowTunes$State", "teller", "I", false)
    | 5 => ("SlowTunes$State", "stopReason", "I", false)
    | _ => ("SlowTunes$State", "stopPart", "I", false)), 7)
  | 7 => ("SlowTunes$Tune", (fun k => match k with
    | 0 => ("SlowTunes$Tune", "pitches", "[I", true)
    | _ => ("SlowTunes$Tune", "length", "I", false)), 2)
  | 8 => ("SlowTunes", (fun k => match k with
    | 0 => ("SlowTunes", "now", "LSlowTunes$State;", true)
    | 1 => ("SlowTunes", "saved", "Ljava/util/ArrayList;", true)
    | 2 => ("SlowTunes", "kept", "LSlowTunes$State;", true)
    | 3 => ("SlowTunes", "isKept", "Z", false)
    | 4 => ("SlowTunes", "codes", "[I", true)
    | 5 => ("SlowTunes", "codesLength", "I", false)
    | 6 => ("SlowTunes", "reader", "LSlowTunes$Reader;", true)
    | 7 => ("SlowTunes", "matches", "LSlowTunes$Matches;", true)
    | 8 => ("SlowTunes", "matchesAreOld", "Z", false)
    | 9 => ("SlowTunes", "trial", "LSlowTunes$Grid;", true)
    | _ => ("SlowTunes", "parts", "LSlowTunes$Parts;", true)), 11)
  | 9 => ("SlowTunes$Grid", (fun k => match k with
    | _ => ("SlowTunes$Grid", "cells", "[I", true)), 1)
  | 10 => ("SlowTunes$Word", (fun k => match k with
    | 0 => ("SlowTunes$Word", "letters", "Ljava/lang/String;", true)
    | 1 => ("SlowTunes$Word", "hasTune", "Z", true)
    | 2 => ("SlowTunes$Word", "hasNumber", "Z", true)
    | 3 => ("SlowTunes$Word", "leastNumber", "I", true)
    | _ => ("SlowTunes$Word", "mostNumber", "I", true)), 5)
  | 11 => ("java/lang/String", (fun k => match k with
    | 0 => ("java/lang/String", "value", "[B", true)
    | _ => ("java/lang/String", "coder", "B", true)), 2)
  | _ => ("", (fun _ => ("", "", "", true)), 0)
/-- where the words of a class's fields stand -/
def xlay (ci k : Nat) : Nat × Nat := match ci with
  | 0 => ([(0, 121), (0, 117), (0, 119)] : List (Nat × Nat)).getD k (99, 99)
  | 1 => ([(0, 164)] : List (Nat × Nat)).getD k (99, 99)
  | 2 => ([(0, 164)] : List (Nat × Nat)).getD k (99, 99)
  | 3 => ([(0, 180), (0, 182), (0, 184), (0, 186), (0, 188), (0, 190), (0, 192), (0, 194), (0, 196), (0, 198), (0, 200)] : List (Nat × Nat)).getD k (99, 99)
  | 4 => ([(0, 224), (0, 226), (0, 228), (0, 230), (0, 232), (0, 234), (0, 236)] : List (Nat × Nat)).getD k (99, 99)
  | 5 => ([(0, 138), (0, 140), (0, 142), (0, 144), (0, 146), (0, 148)] : List (Nat × Nat)).getD k (99, 99)
  | 6 => ([(0, 83), (0, 85), (0, 87), (0, 89), (0, 91), (0, 93), (0, 95)] : List (Nat × Nat)).getD k (99, 99)
  | 7 => ([(0, 52), (0, 54)] : List (Nat × Nat)).getD k (99, 99)
  | 8 => ([(1, 10), (1, 12), (1, 14), (1, 16), (1, 18), (1, 20), (1, 22), (1, 24), (1, 26), (1, 28), (1, 30)] : List (Nat × Nat)).getD k (99, 99)
  | 9 => ([(0, 164)] : List (Nat × Nat)).getD k (99, 99)
  | _ => (99, 99)
def xins (ci : Nat) : Nat × Nat := match ci with
  | 0 => (0, 99)
  | 1 => (0, 158)
  | 2 => (0, 158)
  | 3 => (0, 152)
  | 4 => (0, 206)
  | 5 => (0, 125)
  | 6 => (0, 34)
  | 7 => (0, 40)
  | 8 => (0, 26)
  | 9 => (0, 158)
  | _ => (99, 99)
def xtb (q : Nat) : List Jvm.Cond := match q with
  | 0 => tables_1_1
  | 1 => tables_1_2
  | 2 => tables_1_3
  | 3 => tables_1_4
  | _ => []
def xw (q p : Nat) : Option Jvm.Cond := (xtb q)[p]?
theorem xtb_in {q p : Nat} {w : Jvm.Cond} (h : xw q p = some w) : w ∈ tables_1 := by
  have hm : w ∈ xtb q := List.mem_of_getElem? h
  unfold tables_1
  unfold xtb at hm
  split at hm <;> first | (exact absurd hm List.not_mem_nil) | simp only [List.mem_append, hm, true_or, or_true]
/-- the static fields that are read: what they hold -/
def xstL : List (String × String × String × Value) := [("SlowTunes$Word", "SING", "LSlowTunes$Word;", .ref 0), ("java/util/ArrayList", "DEFAULTCAPACITY_EMPTY_ELEMENTDATA", "[Ljava/lang/Object;", .ref 26)]
def xexn (E : Nat) : String := match E with
  | 0 => "java/lang/IndexOutOfBoundsException"
  | 1 => "java/lang/IllegalArgumentException"
  | 2 => "java/lang/IllegalStateException"
  | _ => ""
abbrev xI : Type := MethodName × ByteArray × Option FieldType × List (Nat × Nat × Nat × Nat) × List (Nat × Nat)
def xil_0 : List xI := [(⟨"SlowTunes$Grid", "<init>", "()V"⟩, prog_2_method_1_code, none, [], [(0, 161), (0, 11), (0, 160)]), (⟨"SlowTunes$Grid", "at", "(II)I"⟩, prog_2_method_2_code, (some (.int)), [], [(2, 10), (0, 11), (2, 8), (2, 9)]), (⟨"SlowTunes$Grid", "put", "(III)V"⟩, prog_2_method_3_code, none, [], [(2, 18), (0, 11), (2, 16), (2, 17)]), (⟨"SlowTunes$Grid", "clear", "()V"⟩, prog_2_method_4_code, none, [], [(1, 228), (0, 11), (1, 226), (1, 227)]), (⟨"SlowTunes$Grid", "tellFromBegin", "(LSlowTunes$State;II)V"⟩, prog_2_method_5_code, none, [], [(1, 224), (0, 11), (1, 222), (1, 223)]), (⟨"SlowTunes$Grid", "tellRowFromBegin", "(LSlowTunes$State;III)V"⟩, prog_2_method_6_code, none, [], [(1, 236), (0, 11), (1, 235), (50, 4)]), (⟨"SlowTunes$Grid", "tellFromEnd", "(LSlowTunes$State;)V"⟩, prog_2_method_7_code, none, [], [(2, 22), (0, 11), (2, 20), (2, 21)]), (⟨"SlowTunes$Grid", "tellRowFromEnd", "(LSlowTunes$State;I)V"⟩, prog_2_method_8_code, none, [], [(2, 26), (0, 11), (2, 25), (50, 5)]), (⟨"SlowTunes$Matches", "<init>", "()V"⟩, prog_4_method_1_code, none, [], [(0, 155), (0, 10), (0, 154)]), (⟨"SlowTunes$Matches", "find", "(LSlowTunes$State;)V"⟩, prog_4_method_2_code, none, [], [(1, 220), (0, 10), (1, 218), (1, 219)]), (⟨"SlowTunes$Matches", "leastTo", "(II)I"⟩, prog_4_method_3_code, (some (.int)), [], [(3, 96), (0, 10), (3, 94), (3, 95)]), (⟨"SlowTunes$Matches", "leastFromBegin", "(LSlowTunes$State;)I"⟩, prog_4_method_4_code, (some (.int)), [], [(2, 117), (0, 10), (2, 115), (2, 116)]), (⟨"SlowTunes$Matches", "leastFromEnd", "()I"⟩, prog_4_method_5_code, (some (.int)), [], [(3, 148), (0, 10), (3, 146), (3, 147)]), (⟨"SlowTunes$Matches", "noteOf", "(II)I"⟩, prog_4_method_6_code, (some (.int)), [], [(3, 122), (0, 10), (3, 120), (3, 121)]), (⟨"SlowTunes$Matches", "stretchOf", "(II)I"⟩, prog_4_method_7_code, (some (.int)), [], [(3, 130), (0, 10), (3, 128), (3, 129)]), (⟨"SlowTunes$Matches", "greatestStretch", "(I)I"⟩, prog_4_method_8_code, (some (.int)), [], [(3, 138), (0, 10), (3, 136), (3, 137)]), (⟨"SlowTunes$Matches", "shareOfBoth", "()D"⟩, prog_4_method_9_code, (some (.double)), [], [(3, 109), (0, 10), (3, 107), (3, 108)]), (⟨"SlowTunes$Matches", "tellSteps", "(LSlowTunes$State;)V"⟩, prog_4_method_10_code, none, [], [(2, 40), (0, 10), (2, 39), (50, 6)]), (⟨"SlowTunes$Matches", "isBestStep", "(LSlowTunes$State;III)Z"⟩, prog_4_method_11_code, (some (.boolean)), [], [(2, 45), (0, 10), (2, 44), (50, 7)]), (⟨"SlowTunes$Matches", "firstAfter", "(II)I"⟩, prog_4_method_12_code, (some (.int)), [], [(2, 48), (0, 10), (2, 47)]), (⟨"SlowTunes$Matches", "secondAfter", "(II)I"⟩, prog_4_method_13_code, (some (.int)), [], [(2, 51), (0, 10), (2, 50)]), (⟨"SlowTunes$Matches", "walkFirst", "(LSlowTunes$State;)V"⟩, prog_4_method_14_code, none, [], [(2, 61), (0, 10), (2, 60), (50, 8)]), (⟨"SlowTunes$Matches", "addPair", "(II)V"⟩, prog_4_method_15_code, none, [], [(2, 67), (0, 10), (2, 66), (50, 9)]), (⟨"SlowTunes$Parts", "<init>", "()V"⟩, prog_5_method_1_code, none, [], [(0, 209), (0, 12), (0, 208)]), (⟨"SlowTunes$Parts", "find", "(LSlowTunes$State;)V"⟩, prog_5_method_2_code, none, [], [(3, 57), (0, 12), (3, 55), (3, 56)]), (⟨"SlowTunes$Parts", "tellCell", "(LSlowTunes$State;II)V"⟩, prog_5_method_3_code, none, [], [(3, 61), (0, 12), (3, 60), (50, 19)]), (⟨"SlowTunes$Parts", "consider", "(II)V"⟩, prog_5_method_4_code, none, [], [(3, 65), (0, 12), (3, 64), (50, 20)]), (⟨"SlowTunes$Parts", "choose", "(II)V"⟩, prog_5_method_5_code, none, [], [(3, 72), (0, 12), (3, 71), (50, 21)]), (⟨"SlowTunes$Reader", "<init>", "()V"⟩, prog_6_method_1_code, none, [], [(0, 128), (0, 7), (0, 127)]), (⟨"SlowTunes$State", "<init>", "()V"⟩, prog_7_method_1_code, none, [], [(0, 37), (0, 2), (0, 36)]), (⟨"SlowTunes$State", "copyFrom", "(LSlowTunes$State;)V"⟩, prog_7_method_2_code, none, [], [(1, 137), (0, 2), (1, 135), (1, 136)]), (⟨"SlowTunes$State", "tuneOf", "(I)LSlowTunes$Tune;"⟩, prog_7_method_3_code, (some (.object "SlowTunes$Tune")), [], [(1, 177), (0, 2), (1, 175), (1, 176)])]
def xil_1 : List xI := [(⟨"SlowTunes$State", "swapTunes", "()V"⟩, prog_7_method_4_code, none, [], [(3, 29), (0, 2), (3, 27), (3, 28)]), (⟨"SlowTunes$State", "lengthsApart", "()I"⟩, prog_7_method_6_code, (some (.int)), [], [(1, 205), (0, 2), (1, 203), (1, 204)]), (⟨"SlowTunes$State", "hasEmptyTune", "()Z"⟩, prog_7_method_7_code, (some (.boolean)), [], [(1, 201), (0, 2), (1, 199), (1, 200)]), (⟨"SlowTunes$State", "hasMatch", "()Z"⟩, prog_7_method_8_code, (some (.boolean)), [], [(1, 197), (0, 2), (1, 195), (1, 196)]), (⟨"SlowTunes$State", "isLastPair", "(II)Z"⟩, prog_7_method_9_code, (some (.boolean)), [], [(2, 30), (0, 2), (2, 28), (2, 29)]), (⟨"SlowTunes$State", "difference", "(II)I"⟩, prog_7_method_10_code, (some (.int)), [], [(2, 34), (0, 2), (2, 32), (2, 33)]), (⟨"SlowTunes$State", "judged", "(I)I"⟩, prog_7_method_11_code, (some (.int)), [], [(2, 14), (0, 2), (2, 12), (2, 13)]), (⟨"SlowTunes$Tune", "<init>", "()V"⟩, prog_8_method_1_code, none, [], [(0, 43), (0, 3), (0, 42)]), (⟨"SlowTunes$Tune", "copyFrom", "(LSlowTunes$Tune;)V"⟩, prog_8_method_2_code, none, [], [(1, 141), (0, 3), (1, 139), (1, 140)]), (⟨"SlowTunes$Tune", "hasNote", "(I)Z"⟩, prog_8_method_3_code, (some (.boolean)), [], [(2, 102), (0, 3), (2, 100), (2, 101)]), (⟨"SlowTunes$Tune", "pitchOf", "(I)I"⟩, prog_8_method_4_code, (some (.int)), [], [(2, 0), (0, 3), (1, 238), (1, 239)]), (⟨"SlowTunes$Tune", "put", "(II)V"⟩, prog_8_method_5_code, none, [], [(2, 226), (0, 3), (2, 224), (2, 225)]), (⟨"SlowTunes$Tune", "add", "(I)V"⟩, prog_8_method_6_code, none, [], [(2, 222), (0, 3), (2, 220), (2, 221)]), (⟨"SlowTunes$Tune", "takeOut", "(I)V"⟩, prog_8_method_7_code, none, [], [(2, 239), (0, 3), (2, 237), (2, 238)]), (⟨"SlowTunes$Tune", "canDouble", "()Z"⟩, prog_8_method_10_code, (some (.boolean)), [], [(3, 8), (0, 3), (3, 6), (3, 7)]), (⟨"SlowTunes$Tune", "doubleNotes", "()V"⟩, prog_8_method_11_code, none, [], [(3, 13), (0, 3), (3, 11), (3, 12)]), (⟨"SlowTunes$Tune", "turnRound", "()V"⟩, prog_8_method_12_code, none, [], [(3, 21), (0, 3), (3, 19), (3, 20)]), (⟨"SlowTunes", "<init>", "()V"⟩, prog_1_method_1_code, none, [], [(0, 29), (0, 1), (0, 28)]), (⟨"SlowTunes", "addNote", "(II)I"⟩, prog_1_method_2_code, (some (.int)), [], [(2, 141), (0, 1), (2, 139), (2, 140)]), (⟨"SlowTunes", "setNote", "(III)I"⟩, prog_1_method_3_code, (some (.int)), [], [(2, 230), (0, 1), (2, 228), (2, 229)]), (⟨"SlowTunes", "dropNote", "(II)I"⟩, prog_1_method_4_code, (some (.int)), [], [(2, 235), (0, 1), (2, 233), (2, 234)]), (⟨"SlowTunes", "slow", "(I)I"⟩, prog_1_method_6_code, (some (.int)), [], [(3, 4), (0, 1), (3, 2), (3, 3)]), (⟨"SlowTunes", "flip", "(I)I"⟩, prog_1_method_7_code, (some (.int)), [], [(3, 17), (0, 1), (3, 15), (3, 16)]), (⟨"SlowTunes", "exchange", "()I"⟩, prog_1_method_8_code, (some (.int)), [], [(3, 25), (0, 1), (3, 23), (3, 24)]), (⟨"SlowTunes", "setBound", "(I)I"⟩, prog_1_method_9_code, (some (.int)), [], [(3, 33), (0, 1), (3, 31), (3, 32)]), (⟨"SlowTunes", "setHold", "(I)I"⟩, prog_1_method_10_code, (some (.int)), [], [(3, 37), (0, 1), (3, 35), (3, 36)]), (⟨"SlowTunes", "setJudge", "(I)I"⟩, prog_1_method_11_code, (some (.int)), [], [(3, 41), (0, 1), (3, 39), (3, 40)]), (⟨"SlowTunes", "hasStopped", "()Z"⟩, prog_1_method_16_code, (some (.boolean)), [], [(1, 36), (0, 1), (1, 34), (1, 35)]), (⟨"SlowTunes", "stoppedPart", "()I"⟩, prog_1_method_17_code, (some (.int)), [], [(2, 121), (0, 1), (2, 119), (2, 120)]), (⟨"SlowTunes", "whyStopped", "()I"⟩, prog_1_method_18_code, (some (.int)), [], [(2, 130), (0, 1), (2, 128), (2, 129)]), (⟨"SlowTunes", "undo", "()I"⟩, prog_1_method_19_code, (some (.int)), [], [(1, 40), (0, 1), (1, 38), (1, 39)]), (⟨"SlowTunes", "savedStates", "()I"⟩, prog_1_method_22_code, (some (.int)), [], [(1, 146), (0, 1), (1, 144), (1, 145)])]
def xil_2 : List xI := [(⟨"SlowTunes", "notes", "(I)I"⟩, prog_1_method_23_code, (some (.int)), [], [(1, 150), (0, 1), (1, 148), (1, 149)]), (⟨"SlowTunes", "pitch", "(II)I"⟩, prog_1_method_24_code, (some (.int)), [], [(2, 95), (0, 1), (2, 93), (2, 94)]), (⟨"SlowTunes", "bound", "()I"⟩, prog_1_method_25_code, (some (.int)), [], [(1, 181), (0, 1), (1, 179), (1, 180)]), (⟨"SlowTunes", "hold", "()I"⟩, prog_1_method_26_code, (some (.int)), [], [(1, 185), (0, 1), (1, 183), (1, 184)]), (⟨"SlowTunes", "judge", "()I"⟩, prog_1_method_27_code, (some (.int)), [], [(1, 189), (0, 1), (1, 187), (1, 188)]), (⟨"SlowTunes", "unlike", "(II)I"⟩, prog_1_method_28_code, (some (.int)), [], [(3, 100), (0, 1), (3, 98), (3, 99)]), (⟨"SlowTunes", "isMatched", "()Z"⟩, prog_1_method_30_code, (some (.boolean)), [], [(1, 193), (0, 1), (1, 191), (1, 192)]), (⟨"SlowTunes", "cost", "()I"⟩, prog_1_method_31_code, (some (.int)), [], [(2, 108), (0, 1), (2, 106), (2, 107)]), (⟨"SlowTunes", "costFromEnd", "()I"⟩, prog_1_method_32_code, (some (.int)), [], [(3, 144), (0, 1), (3, 142), (3, 143)]), (⟨"SlowTunes", "costTo", "(II)I"⟩, prog_1_method_33_code, (some (.int)), [], [(3, 92), (0, 1), (3, 90), (3, 91)]), (⟨"SlowTunes", "pairs", "()I"⟩, prog_1_method_34_code, (some (.int)), [], [(3, 113), (0, 1), (3, 111), (3, 112)]), (⟨"SlowTunes", "noteOfPair", "(II)I"⟩, prog_1_method_35_code, (some (.int)), [], [(3, 117), (0, 1), (3, 115), (3, 116)]), (⟨"SlowTunes", "stretch", "(II)I"⟩, prog_1_method_36_code, (some (.int)), [], [(3, 126), (0, 1), (3, 124), (3, 125)]), (⟨"SlowTunes", "longestStretch", "(I)I"⟩, prog_1_method_37_code, (some (.int)), [], [(3, 134), (0, 1), (3, 132), (3, 133)]), (⟨"SlowTunes", "bestMatches", "()I"⟩, prog_1_method_39_code, (some (.int)), [], [(1, 212), (0, 1), (1, 210), (1, 211)]), (⟨"SlowTunes", "partCost", "()I"⟩, prog_1_method_40_code, (some (.int)), [], [(3, 80), (0, 1), (3, 78), (3, 79)]), (⟨"SlowTunes", "partBegin", "()I"⟩, prog_1_method_41_code, (some (.int)), [], [(3, 48), (0, 1), (3, 46), (3, 47)]), (⟨"SlowTunes", "partEnd", "()I"⟩, prog_1_method_42_code, (some (.int)), [], [(3, 76), (0, 1), (3, 74), (3, 75)]), (⟨"SlowTunes", "costWithShift", "(I)I"⟩, prog_1_method_43_code, (some (.int)), [], [(3, 161), (0, 1), (3, 159), (3, 160)]), (⟨"SlowTunes", "bestShift", "()I"⟩, prog_1_method_44_code, (some (.int)), [], [(3, 153), (0, 1), (3, 151), (3, 152)]), (⟨"SlowTunes", "costWithBound", "(I)I"⟩, prog_1_method_45_code, (some (.int)), [], [(3, 84), (0, 1), (3, 82), (3, 83)]), (⟨"SlowTunes", "neededBound", "()I"⟩, prog_1_method_46_code, (some (.int)), [], [(2, 71), (0, 1), (2, 69), (2, 70)]), (⟨"SlowTunes", "evenShare", "()D"⟩, prog_1_method_47_code, (some (.double)), [], [(3, 105), (0, 1), (3, 103), (3, 104)]), (⟨"SlowTunes", "checkTune", "(I)V"⟩, prog_1_method_49_code, none, [], [(1, 157), (0, 1), (1, 156)]), (⟨"SlowTunes", "tuneAt", "(I)LSlowTunes$Tune;"⟩, prog_1_method_50_code, (some (.object "SlowTunes$Tune")), [], [(1, 154), (0, 1), (1, 153), (50, 2)]), (⟨"SlowTunes", "checkNote", "(LSlowTunes$Tune;I)V"⟩, prog_1_method_51_code, none, [], [(2, 98), (0, 1), (2, 97)]), (⟨"SlowTunes", "checkRange", "(III)V"⟩, prog_1_method_52_code, none, [], [(2, 144), (0, 1), (2, 143)]), (⟨"SlowTunes", "checkMatched", "()V"⟩, prog_1_method_53_code, none, [], [(2, 112), (0, 1), (2, 111), (50, 12)]), (⟨"SlowTunes", "checkNoneEmpty", "()V"⟩, prog_1_method_54_code, none, [], [(3, 52), (0, 1), (3, 51), (50, 18)]), (⟨"SlowTunes", "checkStopped", "()V"⟩, prog_1_method_55_code, none, [], [(2, 125), (0, 1), (2, 124), (50, 13)]), (⟨"SlowTunes", "saveState", "()V"⟩, prog_1_method_56_code, none, [], [(2, 165), (0, 1), (2, 164), (50, 14)]), (⟨"SlowTunes", "found", "()LSlowTunes$Matches;"⟩, prog_1_method_57_code, (some (.object "SlowTunes$Matches")), [], [(1, 216), (0, 1), (1, 215), (50, 3)])]
def xil_3 : List xI := [(⟨"SlowTunes", "orNothing", "(I)I"⟩, prog_1_method_58_code, (some (.int)), [], [(3, 87), (0, 1), (3, 86)]), (⟨"SlowTunes", "costIf", "(II)I"⟩, prog_1_method_59_code, (some (.int)), [], [(2, 80), (0, 1), (2, 79), (50, 11)]), (⟨"SlowTunes", "nearestBestShift", "()I"⟩, prog_1_method_60_code, (some (.int)), [], [(3, 157), (0, 1), (3, 156), (50, 22)]), (⟨"SlowTunes", "leastNeededBound", "()I"⟩, prog_1_method_61_code, (some (.int)), [], [(2, 75), (0, 1), (2, 74), (50, 10)]), (⟨"java/util/AbstractCollection", "<init>", "()V"⟩, prog_25_method_1_code, none, [], [(0, 108), (0, 4), (0, 107)]), (⟨"java/util/AbstractList", "<init>", "()V"⟩, prog_26_method_1_code, none, [], [(0, 105), (0, 5), (0, 104)]), (⟨"java/util/ArrayList", "<init>", "()V"⟩, prog_27_method_2_code, none, [], [(0, 102), (0, 6), (0, 101)]), (⟨"java/util/ArrayList", "grow", "(I)[Ljava/lang/Object;"⟩, prog_27_method_6_code, (some (.array (.object "java/lang/Object"))), [], [(2, 181), (0, 6), (2, 180), (50, 17)]), (⟨"java/util/ArrayList", "grow", "()[Ljava/lang/Object;"⟩, prog_27_method_7_code, (some (.array (.object "java/lang/Object"))), [], [(2, 177), (0, 6), (2, 176), (50, 16)]), (⟨"java/util/ArrayList", "size", "()I"⟩, prog_27_method_8_code, (some (.int)), [], [(1, 116), (0, 6), (1, 114), (1, 115)]), (⟨"java/util/ArrayList", "isEmpty", "()Z"⟩, prog_27_method_9_code, (some (.boolean)), [], [(1, 44), (0, 6), (1, 42), (1, 43)]), (⟨"java/util/ArrayList", "add", "(Ljava/lang/Object;[Ljava/lang/Object;I)V"⟩, prog_27_method_24_code, none, [], [(2, 173), (0, 6), (2, 172), (50, 15)]), (⟨"java/util/ArrayList", "add", "(Ljava/lang/Object;)Z"⟩, prog_27_method_25_code, (some (.boolean)), [], [(2, 169), (0, 6), (2, 167), (2, 168)]), (⟨"java/util/ArrayList", "remove", "(I)Ljava/lang/Object;"⟩, prog_27_method_29_code, (some (.object "java/lang/Object")), [], [(1, 120), (0, 6), (1, 118), (1, 119)]), (⟨"java/util/ArrayList", "fastRemove", "([Ljava/lang/Object;I)V"⟩, prog_27_method_39_code, none, [], [(1, 130), (0, 6), (1, 129), (50, 1)]), (⟨"java/util/Arrays", "fill", "([II)V"⟩, prog_28_method_103_code, none, [], [(1, 232), (0, 18), (1, 231)]), (⟨"java/util/Objects", "checkIndex", "(II)I"⟩, prog_31_method_17_code, (some (.int)), [], [(1, 123), (0, 21), (1, 122)]), (⟨"jdk/internal/util/Preconditions", "checkIndex", "(IILjava/util/function/BiFunction;)I"⟩, prog_35_method_11_code, (some (.int)), [], [(1, 126), (0, 22), (1, 125)]), (⟨"SlowTunesLaw", "cell", "([II)I"⟩, method_2_code, (some (.int)), [], [(2, 86), (0, 0), (2, 85)]), (⟨"SlowTunesLaw", "low", "(II)I"⟩, method_3_code, (some (.int)), [], [(2, 136), (0, 0), (2, 135)]), (⟨"SlowTunesLaw", "told", "(LSlowTunes;)J"⟩, method_4_code, (some (.long)), [], [(2, 89), (0, 0), (2, 88)]), (⟨"SlowTunesLaw", "act", "(LSlowTunes;II)Z"⟩, method_5_code, (some (.boolean)), [], [(2, 133), (0, 0), (2, 132)]), (⟨"SlowTunesLaw", "holds", "(LSlowTunes;I)Z"⟩, method_6_code, (some (.boolean)), [], [(3, 44), (0, 0), (3, 43)]), (⟨"SlowTunesLaw", "law", "([I)Z"⟩, code, (some (.boolean)), [], [])]
def xi0 : xI := (⟨"", "", ""⟩, ⟨#[]⟩, none, [], [])
def xinf (k : Nat) : xI := if 120 ≤ k then xi0 else if k < 64 then (if k < 32 then (xil_0.getD (k % 32) xi0) else (xil_1.getD (k % 32) xi0)) else (if k < 96 then (xil_2.getD (k % 32) xi0) else (xil_3.getD (k % 32) xi0))
def xpriv : List Jvm.Cond := k2_sels lw_privs
def xNM : Nat := 120
def xsel (q p : Nat) : Option Jvm.Cond := if q = 50 then xpriv[p]? else xw q p
/-- the place of an instruction that is named by its number -/
def xto (L : List xE) (pc t : Nat) (off : Int) : Bool := match L[t]? with
  | some e => decide ((pc : Int) + off = (e.1 : Int))
  | none => false
def xkA (L : List xE) (own : String) (pc : Nat) (i : Instr) (len : Nat) (ax : List Nat) (cv : Value) : Bool := match i with
  | .iconst n => decide (cv = .int (Int32.ofInt n) ∧ len = 1)
  | .bipush n => decide (cv = .int (Int8.ofInt n).toInt32 ∧ len = 2)
  | .sipush n => decide (cv = .int (Int16.ofInt n).toInt32 ∧ len = 3)
  | .lconst n => decide (cv = .long (Int64.ofNat (n : Nat)) ∧ len = 1)
  | .dconst n => (n == 0 && decide (cv = .double FP.dconst0 ∧ len = 1)) || (n == 1 && decide (cv = .double FP.dconst1 ∧ len = 1))
  | .ldc x => decide (len = 2) && (match xw (ax.headD 99) (ax.getD 1 0) with
    | some (.constant o y v) => decide (o = own ∧ y = x ∧ cv = .int v)
    | _ => false)
  | .ldc_w x => decide (len = 3) && (match xw (ax.headD 99) (ax.getD 1 0) with
    | some (.constant o y v) => decide (o = own ∧ y = x ∧ cv = .int v)
    | _ => false)
  | .ldc2_w x => decide (len = 3) && (match xw (ax.headD 99) (ax.getD 1 0) with
    | some (.constantLong o y v) => decide (o = own ∧ y = x ∧ cv = .long v)
    | some (.constantDouble o y v) => decide (o = own ∧ y = x ∧ cv = .double v)
    | _ => false)
  | .iinc _ n => decide (cv = .int (Int32.ofInt n) ∧ len = 3)
  | .iload _ => len == 2
  | .lload _ => len == 2
  | .dload _ => len == 2
  | .aload _ => len == 2
  | .istore _ => len == 2
  | .lstore _ => len == 2
  | .dstore _ => len == 2
  | .astore _ => len == 2
  | .ifCond _ off => len == 3 && xto L pc (ax.headD 0) off
  | .if_icmp _ off => len == 3 && xto L pc (ax.headD 0) off
  | .goto off => len == 3 && xto L pc (ax.headD 0) off
  | .tableswitch d lo hi offs => xto L pc (ax.headD 0) d && decide (offs.size = (hi - lo + 1).toNat) && (List.range offs.size).all (fun q => match offs[q]? with
    | some f => xto L pc (ax.getD (q + 1) 0) f
    | none => false)
  | _ => len == 1
/-- the link of a field, and what it names: class, name, descriptor -/
def xfl (own : String) (x q p : Nat) : Option (Bool × String × String × String) := match xw q p with
  | some (.fieldLink o y r n d) => if o = own ∧ y = x then some (false, r, n, d) else none
  | some (.fieldLinkNest o y r n d _) => if o = own ∧ y = x then some (true, r, n, d) else none
  | _ => none
/-- the field j of the class ci, by a link -/
def xkF (own : String) (x : Nat) (ax : List Nat) : Option Bool := match xfl own x (ax.getD 3 99) (ax.getD 4 0) with
  | some (b, r, n, d) => let T := (xcl (ax.headD 0)).2.1 (ax.getD 1 0)
    if ax.getD 1 0 < (xcl (ax.headD 0)).2.2 ∧ n = T.2.1 ∧ d = T.2.2.1 ∧ (r = T.1 ∨ xw (ax.getD 5 99) (ax.getD 6 0) = some (.sameField r T.1 n d)) then some b else none
  | none => none
def xkT (d : String) (t : Nat) : Bool := match parseFieldDescriptor d, t with
  | some .int, 0 => true
  | some .boolean, 1 => true
  | some .long, 2 => true
  | some (.object _), 3 => true
  | some (.array _), 3 => true
  | _, _ => false
def xkB (L : List xE) (own name : String) (pc : Nat) (i : Instr) (len : Nat) (ax : List Nat) (cv : Value) : Bool := match i with
  | .getstatic x => len == 3 && (match xfl own x (ax.headD 99) (ax.getD 1 0) with
    | some (_, C, n, d) => decide ((C, n, d, cv) ∈ xstL)
    | none => false)
  | .getfield x => len == 3 && (xkF own x ax).isSome
  | .putfield x => len == 3 && decide (ax.headD 0 < 10) && xkT ((xcl (ax.headD 0)).2.1 (ax.getD 1 0)).2.2.1 (ax.getD 2 99) && (match xkF own x ax with
    | some b => let T := (xcl (ax.headD 0)).2.1 (ax.getD 1 0)
      decide (T.2.2.2 = false ∨ (b = false ∧ name = "<init>" ∧ T.1 = own))
    | none => false)
  | .new x => len == 3 && decide (ax.headD 0 < 10 ∧ xw (ax.getD 2 99) (ax.getD 3 0) = some (.classLink own x (xcl (ax.headD 0)).1) ∧ xw (ax.getD 4 99) (ax.getD 5 0) = some (.instantiable (xcl (ax.headD 0)).1 (ax.getD 1 0)) ∧ xw (ax.getD 6 99) (ax.getD 7 0) = some (.initialized (xcl (ax.headD 0)).1))
  | .newarray .int => len == 2 && decide (xw (ax.headD 99) (ax.getD 1 0) = some (.arrayClass .int))
  | .newarray .long => len == 2 && decide (xw (ax.headD 99) (ax.getD 1 0) = some (.arrayClass .long))
  | .anewarray x => len == 3 && decide (xw (ax.headD 99) (ax.getD 1 0) = some (.classLink own x xObj) ∧ xw (ax.getD 2 99) (ax.getD 3 0) = some (.arrayOver (.object xObj)))
  | .checkcast x => len == 3 && decide (ax.headD 0 < 10 ∧ xw (ax.getD 1 99) (ax.getD 2 0) = some (.classLink own x (xcl (ax.headD 0)).1))
  | .if_acmp _ off => len == 3 && xto L pc (ax.headD 0) off
  | .arraylength => len == 1
  | .iaload => len == 1
  | .laload => len == 1
  | .baload => len == 1
  | .aaload => len == 1
  | .iastore => len == 1
  | .lastore => len == 1
  | .aastore => len == 1
  | _ => false
/-- a call: the method that is named, how, and how many values it takes -/
def xkC (own : String) (i : Instr) (ax : List Nat) : Bool := let y := (xinf (ax.headD 0)).1
  decide (ax.headD 0 + 1 < xNM) && (match ax.getD 2 0, i, xw (ax.getD 4 99) (ax.getD 5 0) with
  | 0, .invokevirtual x, some (.methodLink o z w) => decide (o = own ∧ z = x ∧ w = y ∧ (xcl (ax.getD 3 0)).1 = y.cls ∧ (parseMethodDescriptor y.desc).map (fun d => d.parameters.length + 1) = some (ax.getD 1 0) ∧ (xinf (ax.headD 0)).2.2.2.1 = [] ∧ (xinf (ax.headD 0)).2.2.2.2.length = 4)
  | 1, .invokestatic x, some (.methodLink o z w) => decide (o = own ∧ z = x ∧ w = y ∧ (parseMethodDescriptor y.desc).map (fun d => d.parameters.length) = some (ax.getD 1 0) ∧ xw ((xinf (ax.headD 0)).2.2.2.2.getD 2 (99, 0)).1 ((xinf (ax.headD 0)).2.2.2.2.getD 2 (99, 0)).2 = some (.static y))
  | 2, .invokespecial x, some (.methodLink o z w) => decide (o = own ∧ z = x ∧ w = y ∧ y.name = "<init>" ∧ (xinf (ax.headD 0)).2.2.1 = none ∧ (parseMethodDescriptor y.desc).map (fun d => d.parameters.length + 1) = some (ax.getD 1 0) ∧ (xinf (ax.headD 0)).2.2.2.1 = [] ∧ xw ((xinf (ax.headD 0)).2.2.2.2.getD 2 (99, 0)).1 ((xinf (ax.headD 0)).2.2.2.2.getD 2 (99, 0)).2 = some (.instanceMethod y))
  | 3, .invokespecial x, some (.methodLinkNest o z w _) => decide (o = own ∧ z = x ∧ w = y ∧ y.name = "<init>" ∧ (xinf (ax.headD 0)).2.2.1 = none ∧ (parseMethodDescriptor y.desc).map (fun d => d.parameters.length + 1) = some (ax.getD 1 0) ∧ (xinf (ax.headD 0)).2.2.2.1 = [] ∧ xw ((xinf (ax.headD 0)).2.2.2.2.getD 2 (99, 0)).1 ((xinf (ax.headD 0)).2.2.2.2.getD 2 (99, 0)).2 = some (.instanceMethod y))
  | _, _, _ => false)
def xnat (w : Nat) : MethodName := match w with
  | 4 => objectInit
  | 5 => arraycopyName
  | _ => ⟨"java/lang/Double", "doubleToRawLongBits", "(D)J"⟩
def xmth (w : Nat) : MethodName := match w with
  | 0 => Lib.Math.max.name
  | 1 => Lib.Math.min.name
  | _ => Lib.Math.abs.name
def xnms : List String := ["java/lang/RuntimeException", "java/lang/Exception"]
def xic (E : Nat) : Nat := match E with
  | 0 => 236
  | 1 => 161
  | _ => 86
def xstrL : List Nat := [84, 124, 177, 234, 325, 333, 335, 337, 342, 344]
/-- throw new E("text"): five instructions -/
def xkT5 (own : String) (r : List xE) (pc : Nat) (i : Instr) (ax : List Nat) : Bool := match ax, i, r with
  | [E, ik, is, ic, wd, q, p, q2, p2], .new x, (p1, _, .dup, l1, _, _) :: (p2', _, i2, l2, _, _) :: (p3, _, .invokespecial y, l3, _, _) :: (p4, _, .athrow, l4, _, _) :: _ =>
    decide (own = "SlowTunes" ∧ x = ik ∧ y = ic ∧ ic = xic E ∧ E < 3 ∧ is ∈ xstrL ∧ xw q p = some (.classLink own ik (xexn E)) ∧ xw q2 p2 = some (.initialized (xexn E)) ∧ p1 = pc + 3 ∧ p2' = pc + 4 ∧ l1 = 1 ∧ l3 = 3 ∧ l4 = 1) && (match wd, i2 with
      | 0, .ldc z => decide (z = is ∧ p3 = pc + 6 ∧ p4 = pc + 9 ∧ l2 = 2)
      | 1, .ldc_w z => decide (z = is ∧ p3 = pc + 7 ∧ p4 = pc + 10 ∧ l2 = 3)
      | _, _ => false)
  | _, _, _ => false
/-- the words of a throw -/
def xkTh (E : Nat) : Bool := ((Jvm.Cond.classLink "SlowTunes" 0 (xexn E) :: Jvm.Cond.initialized (xexn E) :: vx_atS "SlowTunes" (xic E) (xexn E) xnms).all vx_ot) && ((vx_atS "SlowTunes" (xic E) (xexn E) xnms).all fun w => (goodWord w && decide (w ∈ lw_tbl)) || (match w with
  | .castable _ _ => decide (w ∈ lw_tbl)
  | .declares _ => decide (w ∈ lw_tbl)
  | _ => false)) && Bundle.fit (xexn E) && xnms.all Bundle.fit
def xkE (L : List xE) (y : MethodName) (bytes : ByteArray) (rest : List xE) (e : xE) : Bool := match e with
  | (pc, kd, i, len, ax, cv) => decide (decode bytes pc = .ok (i, len)) && (match rest with
    | [] => true
    | e' :: _ => e'.1 == pc + len) && (match kd with
    | 0 => xkA L y.cls pc i len ax cv
    | 7 => xkB L y.cls y.name pc i len ax cv
    | 1 => len == 3 && xkC y.cls i ax
    | 2 => len == 1
    | 3 => len == 3 && xkT5 y.cls rest pc i ax
    | 4 => len == 3 && (match i, xw (ax.headD 99) (ax.getD 1 0) with
      | .invokespecial x, some (.methodLink o z w) => decide (o = y.cls ∧ z = x ∧ w = xnat 4)
      | _, _ => false)
    | 5 => len == 3 && (match i, xw (ax.headD 99) (ax.getD 1 0) with
      | .invokestatic x, some (.methodLink o z w) => decide (o = y.cls ∧ z = x ∧ w = xnat 5)
      | _, _ => false)
    | 8 => len == 3 && (match i, xw (ax.getD 1 99) (ax.getD 2 0) with
      | .invokestatic x, some (.methodLink o z w) => decide (o = y.cls ∧ z = x ∧ w = xmth (ax.headD 9))
      | _, _ => false)
    | 9 => true
    | _ => false)
def xkL (L : List xE) (y : MethodName) (bytes : ByteArray) : List xE → Bool
  | [] => true
  | e :: r => xkE L y bytes r e && xkL L y bytes r
/-- the checks of the places from lo on, n of them -/
def xkJ (L : List xE) (y : MethodName) (bytes : ByteArray) (lo n : Nat) : Bool := (List.range n).all fun i => match L[lo + i]? with
  | some e => xkE L y bytes (L.drop (lo + i + 1)) e
  | none => true
theorem xkJ_use {L : List xE} {y : MethodName} {bytes : ByteArray} {lo n j : Nat} {e : xE} (h : xkJ L y bytes lo n = true) (h1 : lo ≤ j) (h2 : j < lo + n) (he : L[j]? = some e) : xkE L y bytes (L.drop (j + 1)) e = true := by
  have h3 := List.all_eq_true.mp h (j - lo) (List.mem_range.mpr (by omega))
  rw [Nat.add_sub_cancel' h1, he] at h3
  exact h3
theorem xkL_use {L : List xE} {y : MethodName} {bytes : ByteArray} : ∀ (a : List xE), xkL L y bytes a = true → ∀ (j : Nat) (e : xE), a[j]? = some e → xkE L y bytes (a.drop (j + 1)) e = true := by
  intro a
  induction a with
  | nil => intro _ j e h; simp at h
  | cons x r ih =>
    intro h j e he
    rw [xkL, Bool.and_eq_true] at h
    cases j with
    | zero =>
      simp only [List.getElem?_cons_zero, Option.some.injEq] at he
      subst he
      exact h.1
    | succ j =>
      rw [List.getElem?_cons_succ] at he
      exact ih h.2 j e he
def xkR (rk : Nat) (ret : Option FieldType) : Bool := match rk, ret with
  | 0, none => true
  | 1, some .int => true
  | 2, some .boolean => true
  | 3, some .long => true
  | 4, some .double => true
  | 5, some (.object _) => true
  | 5, some (.array _) => true
  | 6, some .byte => true
  | 7, some .char => true
  | _, _ => false
/-- the handlers -/
def xkX (L : List xE) (own : String) : List xX → List (Nat × Nat × Nat × Nat) → Bool
  | [], [] => true
  | (a, b, E, v, t) :: hs, (a', b', h, ct) :: hh => decide (a = a' ∧ b = b' ∧ 0 < t ∧ E < 3 ∧ ct = 13 + 2 * E) && decide (own = "SlowTunesLaw") && (match L[t - 1]? with
    | some (pc, _, .astore w, len, _, _) => decide (pc = h ∧ w = v ∧ len = 2)
    | some (pc, _, .astore_n w, len, _, _) => decide (pc = h ∧ (w : Nat) = v ∧ len = 1)
    | _ => false) && (match L[t]?, L[t - 1]? with
    | some e, some e0 => e.1 == h + e0.2.2.2.1
    | _, _ => false) && xkX L own hs hh
  | _, _ => false
def xkM (g : Nat) : Bool := let y := (xinf g).1
  xkL (xtab g).1 y (xinf g).2.1 (xtab g).1 && decide ((xtab g).2.1 ≤ 18) && xkR (xtab g).2.2.1 (xinf g).2.2.1 && xkX (xtab g).1 y.cls (xtab g).2.2.2 (xinf g).2.2.2.1 && decide ((xinf g).2.2.2.1 = []) && decide ((xtab g).1.head?.map (fun e => e.1) = some 0) && (xtab g).2.2.2.all (fun x => decide (x.2.2.2.1 < (xtab g).2.1))
/-- the words of a method that is called -/
def xkW (g : Nat) : Bool := let y := (xinf g).1
  let ps := (xinf g).2.2.2.2
  decide (y.cls ≠ "java/lang/invoke/MethodHandle" ∧ y.cls ≠ "java/lang/invoke/VarHandle") && plainName y.cls &&
  decide (xw (ps.headD (99, 0)).1 (ps.headD (99, 0)).2 = some (if (xinf g).2.2.2.1 = [] then .code y (xinf g).2.1 (xtab g).2.1 (xinf g).2.2.1 else .codeWith y (xinf g).2.1 (xtab g).2.1 (xinf g).2.2.1 (xinf g).2.2.2.1)) &&
  decide (xw (ps.getD 1 (99, 0)).1 (ps.getD 1 (99, 0)).2 = some (.initialized y.cls)) &&
  decide (xw (ps.getD 2 (99, 0)).1 (ps.getD 2 (99, 0)).2 = some (.instanceMethod y) ∨ xw (ps.getD 2 (99, 0)).1 (ps.getD 2 (99, 0)).2 = some (.static y)) &&
  (match ps with
  | [_, _, _, s] => decide (xsel s.1 s.2 = some (.selects y.cls y y) ∧ xw (ps.getD 2 (99, 0)).1 (ps.getD 2 (99, 0)).2 = some (.instanceMethod y))
  | _ => true)
def xkCl (ci : Nat) : Bool := decide (∀ k, k < (xcl ci).2.2 → xw (xlay ci k).1 (xlay ci k).2 = some (u_lay (xcl ci).1 (xcl ci).2.1 k)) && decide (∀ a, a < (xcl ci).2.2 → ∀ b, b < (xcl ci).2.2 → a ≠ b → ((xcl ci).2.1 a).2.1 ≠ ((xcl ci).2.1 b).2.1) && (match xw (xins ci).1 (xins ci).2 with
  | some (.instantiable C n) => decide (C = (xcl ci).1)
  | _ => false) && decide (∀ k, k < (xcl ci).2.2 → (parseFieldDescriptor ((xcl ci).2.1 k).2.2.1).isSome = true ∧ (xdef ci)[k]? = (parseFieldDescriptor ((xcl ci).2.1 k).2.2.1).map defaultValue) && decide ((xdef ci).length = (xcl ci).2.2)
end
section
/-! The checks, by the kernel. -/
theorem xkL_of {L : List xE} {y : MethodName} {bytes : ByteArray} : ∀ (a : List xE), (∀ (j : Nat) (e : xE), a[j]? = some e → xkE L y bytes (a.drop (j + 1)) e = true) → xkL L y bytes a = true := by
  intro a
  induction a with
  | nil => intro _; rfl
  | cons x r ih =>
    intro h
    rw [xkL, Bool.and_eq_true]
    exact ⟨h 0 x rfl, ih (fun j e he => h (j + 1) e (by rw [List.getElem?_cons_succ]; exact he))⟩
theorem xkM_of {g : Nat} (h1 : xkL (xtab g).1 (xinf g).1 (xinf g).2.1 (xtab g).1 = true) (h2 : (xtab g).2.1 ≤ 18) (h3 : xkR (xtab g).2.2.1 (xinf g).2.2.1 = true) (h4 : xkX (xtab g).1 (xinf g).1.cls (xtab g).2.2.2 (xinf g).2.2.2.1 = true) (h5 : (xinf g).2.2.2.1 = []) (h6 : (xtab g).1.head?.map (fun e => e.1) = some 0) (h7 : (xtab g).2.2.2.all (fun x => decide (x.2.2.2.1 < (xtab g).2.1)) = true) : xkM g = true := by
  unfold xkM
  simp only [Bool.and_eq_true]
  exact ⟨⟨⟨⟨⟨⟨h1, decide_eq_true h2⟩, h3⟩, h4⟩, decide_eq_true h5⟩, decide_eq_true h6⟩, h7⟩
set_option maxRecDepth 100000 in
theorem xk_0 : ∀ g, 0 ≤ g → g < 7 → xkM g = true ∧ xkW g = true := by
  intro g h1 h2
  have h : ((List.range 7).all fun i => xkM (0 + i) && xkW (0 + i)) = true := by decide +kernel
  have h3 := List.all_eq_true.mp h (g - 0) (List.mem_range.mpr (by omega))
  rw [Nat.add_sub_cancel' h1] at h3
  exact Bool.and_eq_true_iff.mp h3
set_option maxRecDepth 100000 in
theorem xk_1 : ∀ g, 7 ≤ g → g < 16 → xkM g = true ∧ xkW g = true := by
  intro g h1 h2
  have h : ((List.range 9).all fun i => xkM (7 + i) && xkW (7 + i)) = true := by decide +kernel
  have h3 := List.all_eq_true.mp h (g - 7) (List.mem_range.mpr (by omega))
  rw [Nat.add_sub_cancel' h1] at h3
  exact Bool.and_eq_true_iff.mp h3
set_option maxRecDepth 100000 in
theorem xk_2 : ∀ g, 16 ≤ g → g < 22 → xkM g = true ∧ xkW g = true := by
  intro g h1 h2
  have h : ((List.range 6).all fun i => xkM (16 + i) && xkW (16 + i)) = true := by decide +kernel
  have h3 := List.all_eq_true.mp h (g - 16) (List.mem_range.mpr (by omega))
  rw [Nat.add_sub_cancel' h1] at h3
  exact Bool.and_eq_true_iff.mp h3
set_option maxRecDepth 100000 in
theorem xk_3 : ∀ g, 22 ≤ g → g < 27 → xkM g = true ∧ xkW g = true := by
  intro g h1 h2
  have h : ((List.range 5).all fun i => xkM (22 + i) && xkW (22 + i)) = true := by decide +kernel
  have h3 := List.all_eq_true.mp h (g - 22) (List.mem_range.mpr (by omega))
  rw [Nat.add_sub_cancel' h1] at h3
  exact Bool.and_eq_true_iff.mp h3
set_option maxRecDepth 100000 in
theorem xk_4 : ∀ g, 27 ≤ g → g < 39 → xkM g = true ∧ xkW g = true := by
  intro g h1 h2
  have h : ((List.range 12).all fun i => xkM (27 + i) && xkW (27 + i)) = true := by decide +kernel
  have h3 := List.all_eq_true.mp h (g - 27) (List.mem_range.mpr (by omega))
  rw [Nat.add_sub_cancel' h1] at h3
  exact Bool.and_eq_true_iff.mp h3
set_option maxRecDepth 100000 in
theorem xk_5 : ∀ g, 39 ≤ g → g < 50 → xkM g = true ∧ xkW g = true := by
  intro g h1 h2
  have h : ((List.range 11).all fun i => xkM (39 + i) && xkW (39 + i)) = true := by decide +kernel
  have h3 := List.all_eq_true.mp h (g - 39) (List.mem_range.mpr (by omega))
  rw [Nat.add_sub_cancel' h1] at h3
  exact Bool.and_eq_true_iff.mp h3
set_option maxRecDepth 100000 in
theorem xk_6 : ∀ g, 50 ≤ g → g < 70 → xkM g = true ∧ xkW g = true := by
  intro g h1 h2
  have h : ((List.range 20).all fun i => xkM (50 + i) && xkW (50 + i)) = true := by decide +kernel
  have h3 := List.all_eq_true.mp h (g - 50) (List.mem_range.mpr (by omega))
  rw [Nat.add_sub_cancel' h1] at h3
  exact Bool.and_eq_true_iff.mp h3
set_option maxRecDepth 100000 in
theorem xk_7 : ∀ g, 70 ≤ g → g < 95 → xkM g = true ∧ xkW g = true := by
  intro g h1 h2
  have h : ((List.range 25).all fun i => xkM (70 + i) && xkW (70 + i)) = true := by decide +kernel
  have h3 := List.all_eq_true.mp h (g - 70) (List.mem_range.mpr (by omega))
  rw [Nat.add_sub_cancel' h1] at h3
  exact Bool.and_eq_true_iff.mp h3
set_option maxRecDepth 100000 in
theorem xk_8 : ∀ g, 95 ≤ g → g < 110 → xkM g = true ∧ xkW g = true := by
  intro g h1 h2
  have h : ((List.range 15).all fun i => xkM (95 + i) && xkW (95 + i)) = true := by decide +kernel
  have h3 := List.all_eq_true.mp h (g - 95) (List.mem_range.mpr (by omega))
  rw [Nat.add_sub_cancel' h1] at h3
  exact Bool.and_eq_true_iff.mp h3
set_option maxRecDepth 100000 in
theorem xk_9 : ∀ g, 110 ≤ g → g < 117 → xkM g = true ∧ xkW g = true := by
  intro g h1 h2
  have h : ((List.range 7).all fun i => xkM (110 + i) && xkW (110 + i)) = true := by decide +kernel
  have h3 := List.all_eq_true.mp h (g - 110) (List.mem_range.mpr (by omega))
  rw [Nat.add_sub_cancel' h1] at h3
  exact Bool.and_eq_true_iff.mp h3
set_option maxRecDepth 100000 in
theorem xk_m117_0 : xkJ (xtab 117).1 (xinf 117).1 (xinf 117).2.1 0 40 = true := by decide +kernel
set_option maxRecDepth 100000 in
theorem xk_m117_1 : xkJ (xtab 117).1 (xinf 117).1 (xinf 117).2.1 40 40 = true := by decide +kernel
set_option maxRecDepth 100000 in
theorem xk_m117_2 : xkJ (xtab 117).1 (xinf 117).1 (xinf 117).2.1 80 40 = true := by decide +kernel
set_option maxRecDepth 100000 in
theorem xk_m117_3 : xkJ (xtab 117).1 (xinf 117).1 (xinf 117).2.1 120 40 = true := by decide +kernel
set_option maxRecDepth 100000 in
theorem xk_m117_n : (xtab 117).1.length = 137 ∧ (xtab 117).2.1 ≤ 18 ∧ xkR (xtab 117).2.2.1 (xinf 117).2.2.1 = true ∧ xkX (xtab 117).1 (xinf 117).1.cls (xtab 117).2.2.2 (xinf 117).2.2.2.1 = true ∧ (xinf 117).2.2.2.1 = [] ∧ (xtab 117).1.head?.map (fun e => e.1) = some 0 ∧ (xtab 117).2.2.2.all (fun x => decide (x.2.2.2.1 < (xtab 117).2.1)) = true := by decide +kernel
set_option maxRecDepth 100000 in
theorem xk_m117_w : xkW 117 = true := by decide +kernel
theorem xk_m117 : xkM 117 = true := by
  obtain ⟨h1, h2, h3, h4, h5, h6, h7⟩ := xk_m117_n
  refine xkM_of (xkL_of _ (fun j e h => ?_)) h2 h3 h4 h5 h6 h7
  have hl : j < 137 := by rw [← h1]; exact (List.getElem?_eq_some_iff.mp h).1
  rcases Nat.lt_or_ge j 40 with h_0 | h_0
  · exact xkJ_use xk_m117_0 (by omega) (by omega) h
  rcases Nat.lt_or_ge j 80 with h_40 | h_40
  · exact xkJ_use xk_m117_1 (by omega) (by omega) h
  rcases Nat.lt_or_ge j 120 with h_80 | h_80
  · exact xkJ_use xk_m117_2 (by omega) (by omega) h
  rcases Nat.lt_or_ge j 160 with h_120 | h_120
  · exact xkJ_use xk_m117_3 (by omega) (by omega) h
  omega
theorem xk_10 : ∀ g, 117 ≤ g → g < 118 → xkM g = true ∧ xkW g = true := by
  intro g h1 h2
  obtain rfl : g = 117 := by omega
  exact ⟨xk_m117, xk_m117_w⟩
set_option maxRecDepth 100000 in
theorem xk_m118_0 : xkJ (xtab 118).1 (xinf 118).1 (xinf 118).2.1 0 40 = true := by decide +kernel
set_option maxRecDepth 100000 in
theorem xk_m118_1 : xkJ (xtab 118).1 (xinf 118).1 (xinf 118).2.1 40 40 = true := by decide +kernel
set_option maxRecDepth 100000 in
theorem xk_m118_2 : xkJ (xtab 118).1 (xinf 118).1 (xinf 118).2.1 80 40 = true := by decide +kernel
set_option maxRecDepth 100000 in
theorem xk_m118_3 : xkJ (xtab 118).1 (xinf 118).1 (xinf 118).2.1 120 40 = true := by decide +kernel
set_option maxRecDepth 100000 in
theorem xk_m118_4 : xkJ (xtab 118).1 (xinf 118).1 (xinf 118).2.1 160 40 = true := by decide +kernel
set_option maxRecDepth 100000 in
theorem xk_m118_5 : xkJ (xtab 118).1 (xinf 118).1 (xinf 118).2.1 200 40 = true := by decide +kernel
set_option maxRecDepth 100000 in
theorem xk_m118_6 : xkJ (xtab 118).1 (xinf 118).1 (xinf 118).2.1 240 40 = true := by decide +kernel
set_option maxRecDepth 100000 in
theorem xk_m118_n : (xtab 118).1.length = 280 ∧ (xtab 118).2.1 ≤ 18 ∧ xkR (xtab 118).2.2.1 (xinf 118).2.2.1 = true ∧ xkX (xtab 118).1 (xinf 118).1.cls (xtab 118).2.2.2 (xinf 118).2.2.2.1 = true ∧ (xinf 118).2.2.2.1 = [] ∧ (xtab 118).1.head?.map (fun e => e.1) = some 0 ∧ (xtab 118).2.2.2.all (fun x => decide (x.2.2.2.1 < (xtab 118).2.1)) = true := by decide +kernel
set_option maxRecDepth 100000 in
theorem xk_m118_w : xkW 118 = true := by decide +kernel
theorem xk_m118 : xkM 118 = true := by
  obtain ⟨h1, h2, h3, h4, h5, h6, h7⟩ := xk_m118_n
  refine xkM_of (xkL_of _ (fun j e h => ?_)) h2 h3 h4 h5 h6 h7
  have hl : j < 280 := by rw [← h1]; exact (List.getElem?_eq_some_iff.mp h).1
  rcases Nat.lt_or_ge j 40 with h_0 | h_0
  · exact xkJ_use xk_m118_0 (by omega) (by omega) h
  rcases Nat.lt_or_ge j 80 with h_40 | h_40
  · exact xkJ_use xk_m118_1 (by omega) (by omega) h
  rcases Nat.lt_or_ge j 120 with h_80 | h_80
  · exact xkJ_use xk_m118_2 (by omega) (by omega) h
  rcases Nat.lt_or_ge j 160 with h_120 | h_120
  · exact xkJ_use xk_m118_3 (by omega) (by omega) h
  rcases Nat.lt_or_ge j 200 with h_160 | h_160
  · exact xkJ_use xk_m118_4 (by omega) (by omega) h
  rcases Nat.lt_or_ge j 240 with h_200 | h_200
  · exact xkJ_use xk_m118_5 (by omega) (by omega) h
  rcases Nat.lt_or_ge j 280 with h_240 | h_240
  · exact xkJ_use xk_m118_6 (by omega) (by omega) h
  omega
theorem xk_11 : ∀ g, 118 ≤ g → g < 119 → xkM g = true ∧ xkW g = true := by
  intro g h1 h2
  obtain rfl : g = 118 := by omega
  exact ⟨xk_m118, xk_m118_w⟩
theorem xk_all : ∀ g, g < 119 → xkM g = true ∧ xkW g = true := by
  intro g h
  rcases Nat.lt_or_ge g 7 with h_0 | h_0
  · exact xk_0 g (by omega) h_0
  rcases Nat.lt_or_ge g 16 with h_1 | h_1
  · exact xk_1 g (by omega) h_1
  rcases Nat.lt_or_ge g 22 with h_2 | h_2
  · exact xk_2 g (by omega) h_2
  rcases Nat.lt_or_ge g 27 with h_3 | h_3
  · exact xk_3 g (by omega) h_3
  rcases Nat.lt_or_ge g 39 with h_4 | h_4
  · exact xk_4 g (by omega) h_4
  rcases Nat.lt_or_ge g 50 with h_5 | h_5
  · exact xk_5 g (by omega) h_5
  rcases Nat.lt_or_ge g 70 with h_6 | h_6
  · exact xk_6 g (by omega) h_6
  rcases Nat.lt_or_ge g 95 with h_7 | h_7
  · exact xk_7 g (by omega) h_7
  rcases Nat.lt_or_ge g 110 with h_8 | h_8
  · exact xk_8 g (by omega) h_8
  rcases Nat.lt_or_ge g 117 with h_9 | h_9
  · exact xk_9 g (by omega) h_9
  rcases Nat.lt_or_ge g 118 with h_10 | h_10
  · exact xk_10 g (by omega) h_10
  exact xk_11 g (by omega) (by omega)
set_option maxRecDepth 100000 in
theorem xk_law_0 : xkJ (xtab 119).1 (xinf 119).1 (xinf 119).2.1 0 40 = true := by decide +kernel
set_option maxRecDepth 100000 in
theorem xk_law_1 : xkJ (xtab 119).1 (xinf 119).1 (xinf 119).2.1 40 40 = true := by decide +kernel
set_option maxRecDepth 100000 in
theorem xk_law_2 : xkJ (xtab 119).1 (xinf 119).1 (xinf 119).2.1 80 40 = true := by decide +kernel
set_option maxRecDepth 100000 in
theorem xk_law_3 : xkJ (xtab 119).1 (xinf 119).1 (xinf 119).2.1 120 40 = true := by decide +kernel
set_option maxRecDepth 100000 in
theorem xk_law_n : (xtab 119).1.length = 149 ∧ (xtab 119).2.1 ≤ 18 ∧ xkR (xtab 119).2.2.1 (xinf 119).2.2.1 = true ∧ (xtab 119).2.2.2 = [] ∧ (xinf 119).2.2.2.1 = [] := by decide +kernel
theorem xk_law : ∀ j e, (xtab 119).1[j]? = some e → xkE (xtab 119).1 (xinf 119).1 (xinf 119).2.1 ((xtab 119).1.drop (j + 1)) e = true := by
  intro j e h
  have hl : j < 149 := by rw [← xk_law_n.1]; exact (List.getElem?_eq_some_iff.mp h).1
  rcases Nat.lt_or_ge j 40 with h_0 | h_0
  · exact xkJ_use xk_law_0 (by omega) (by omega) h
  rcases Nat.lt_or_ge j 80 with h_40 | h_40
  · exact xkJ_use xk_law_1 (by omega) (by omega) h
  rcases Nat.lt_or_ge j 120 with h_80 | h_80
  · exact xkJ_use xk_law_2 (by omega) (by omega) h
  rcases Nat.lt_or_ge j 160 with h_120 | h_120
  · exact xkJ_use xk_law_3 (by omega) (by omega) h
  omega
set_option maxRecDepth 100000 in
theorem xk_cl : ∀ ci, ci < 10 → xkCl ci = true := by decide +kernel
theorem xk_thr : ∀ E, E < 3 → xkTh E = true := by decide +kernel
end
section
/-! The run of the small machine. -/
def xrun (tab : Nat → xM) : Nat → Nat → Nat → Nat → xL → List Value → xH → Option (xO × xH)
  | 0, _, _, _, _, _, _ => none
  | n + 1, d, k, j, lv, st, hp => match (tab k).1[j]? with
    | none => none
    | some (pc, kd, i, len, ax, cv) => match kd with
      | 1 => if st.length < ax.getD 1 0 ∨ 8 < ((st.drop (ax.getD 1 0)).map fun v => v.category).sum ∨ (tab (ax.headD 0)).2.1 < (((st.take (ax.getD 1 0)).reverse).map fun v => v.category).sum then none else
          if xrcv (ax.getD 2 0) (ax.getD 3 0) (st.take (ax.getD 1 0)).reverse hp = true then (match d with
            | 0 => none
            | d + 1 => match xrun tab n d (ax.headD 0) 0 (lv_args 0 (st.take (ax.getD 1 0)).reverse) [] hp with
              | none => none
              | some (.inl v, hp1) => xrun tab n (d + 1) k (j + 1) lv (v.toList ++ st.drop (ax.getD 1 0)) hp1
              | some (.inr E, hp1) => match xcatch (tab k).2.2.2 pc E with
                | none => some (.inr E, hp1)
                | some (v, t) => xrun tab n (d + 1) k t (xdel lv v) [] hp1) else none
      | 2 => match xret (tab k).2.2.1 i st with
        | some v => some (.inl v, hp)
        | none => none
      | 3 => if d < 4 then none else if (st.map fun v => v.category).sum ≤ 8 then some (.inr (ax.headD 0), xbare hp 6) else none
      | kd => match xstp (tab k).2.1 kd j i ax cv lv st hp with
        | none => none
        | some (j', lv', st', hp') => xrun tab n d k j' lv' st' hp'
end
section
/-! Walking the small machine: what a run comes to, an instruction or a block a row. -/
theorem xrun_mono (tab : Nat → xM) : ∀ (n d k j : Nat) (lv : xL) (st : List Value) (hp : xH) (r : xO × xH), xrun tab n d k j lv st hp = some r → ∀ m, xrun tab (n + m) d k j lv st hp = some r := by
  intro n
  induction n with
  | zero => intro d k j lv st hp r h; simp [xrun] at h
  | succ n ih =>
    intro d k j lv st hp r h m
    rw [Nat.succ_add]
    unfold xrun at h ⊢
    split at h
    · exact absurd h (by simp)
    · rename_i pc kd i len ax cv he
      split at h
      · split at h
        · exact absurd h (by simp)
        · rename_i hc
          try dsimp only
          rw [if_neg hc]
          split at h
          · rename_i hr
            rw [if_pos hr]
            cases d with
            | zero => exact absurd h (by simp)
            | succ d =>
              dsimp only at h ⊢
              split at h
              · exact absurd h (by simp)
              · rename_i v hp1 hcall
                rw [ih _ _ _ _ _ _ _ hcall m]
                dsimp only
                exact ih _ _ _ _ _ _ _ h m
              · rename_i E hp1 hcall
                rw [ih _ _ _ _ _ _ _ hcall m]
                dsimp only
                split at h
                · exact h
                · exact ih _ _ _ _ _ _ _ h m
          · exact absurd h (by simp)
      · exact h
      · exact h
      · rename_i h1 h2 h3
        split at h
        · exact absurd h (by simp)
        · exact ih _ _ _ _ _ _ _ h m
def xat (hp : xH) (a : Nat) : Option xC := hp.2.2 a
theorem xat_put_self (hp : xH) (a : Nat) (c : xC) : xat (xput hp a c) a = some c := by simp [xat, xput, xup]
theorem xat_put_ne (hp : xH) {a b : Nat} (c : xC) (h : b ≠ a) : xat (xput hp a c) b = xat hp b := by simp [xat, xput, xup, h]
theorem xat_new_self (hp : xH) (c : xC) (w : Nat) : xat (xnew hp c w) hp.1 = some c := by simp [xat, xnew, xup]
theorem xat_new_ne (hp : xH) {b : Nat} (c : xC) (w : Nat) (h : b ≠ hp.1) : xat (xnew hp c w) b = xat hp b := by simp [xat, xnew, xup, h]
theorem xat_bare (hp : xH) (w b : Nat) : xat (xbare hp w) b = xat hp b := rfl
/-- from here the method k comes, at most d calls deep, to an end with Q -/
def Ev (d k j : Nat) (lv : xL) (st : List Value) (hp : xH) (Q : xO → xH → Prop) : Prop := ∃ n o hp', xrun xtab n d k j lv st hp = some (o, hp') ∧ Q o hp'
/-- a call of the method k -/
def Cv (d k : Nat) (as : List Value) (hp : xH) (Q : xO → xH → Prop) : Prop := Ev d k 0 (lv_args 0 as) [] hp Q
theorem Ev.imp {d k j : Nat} {lv : xL} {st : List Value} {hp : xH} {Q Q' : xO → xH → Prop} (h : Ev d k j lv st hp Q) (hq : ∀ o hp', Q o hp' → Q' o hp') : Ev d k j lv st hp Q' := by
  obtain ⟨n, o, hp', h1, h2⟩ := h
  exact ⟨n, o, hp', h1, hq _ _ h2⟩
/-- several instructions, none of which calls or leaves -/
def xsteps (L : List xE) (nL : Nat) : Nat → xR → Option xR
  | 0, r => some r
  | m + 1, (j, lv, st, hp) => match L[j]? with
    | some (_, 0, i, _, ax, cv) => (match xsA nL j i ax cv lv st hp with
      | some r => xsteps L nL m r
      | none => none)
    | _ => none
theorem E_step {d k j pc kd len nL rk : Nat} {i : Instr} {ax : List Nat} {cv : Value} {L : List xE} {hs : List xX} {lv lv' : xL} {st st' : List Value} {hp hp' : xH} {j' : Nat} {Q : xO → xH → Prop} (hk : xtab k = (L, nL, rk, hs)) (he : L[j]? = some (pc, kd, i, len, ax, cv)) (h1 : kd ≠ 1) (h2 : kd ≠ 2) (h3 : kd ≠ 3)
    (h : xstp nL kd j i ax cv lv st hp = some (j', lv', st', hp')) (kk : Ev d k j' lv' st' hp' Q) : Ev d k j lv st hp Q := by
  obtain ⟨n, o, hq, e1, e2⟩ := kk
  refine ⟨n + 1, o, hq, ?_, e2⟩
  unfold xrun
  rw [hk]
  dsimp only
  rw [he]
  dsimp only
  split
  · exact absurd rfl h1
  · exact absurd rfl h2
  · exact absurd rfl h3
  · rw [h]
    exact e1
theorem E_run {d k nL rk : Nat} {L : List xE} {hs : List xX} (hk : xtab k = (L, nL, rk, hs)) {Q : xO → xH → Prop} : ∀ (m : Nat) {j : Nat} {lv : xL} {st : List Value} {hp : xH} {j' : Nat} {lv' : xL} {st' : List Value} {hp' : xH}, xsteps L nL m (j, lv, st, hp) = some (j', lv', st', hp') → Ev d k j' lv' st' hp' Q → Ev d k j lv st hp Q := by
  intro m
  induction m with
  | zero =>
    intro j lv st hp j' lv' st' hp' h kk
    simp only [xsteps, Option.some.injEq, Prod.mk.injEq] at h
    obtain ⟨rfl, rfl, rfl, rfl⟩ := h
    exact kk
  | succ m ih =>
    intro j lv st hp j' lv' st' hp' h kk
    unfold xsteps at h
    split at h
    · rename_i pc i len ax cv he
      split at h
      · rename_i r hr
        obtain ⟨j1, lv1, st1, hp1⟩ := r
        exact E_step hk he (by decide) (by decide) (by decide) hr (ih h kk)
      · exact absurd h (by simp)
    · exact absurd h (by simp)
section EW
variable {d k j nL rk : Nat} {L : List xE} {hs : List xX} {lv : xL} {st : List Value} {hp : xH} {Q : xO → xH → Prop} {pc len : Nat} {ax : List Nat} {cv : Value}
theorem E_jmp {i : Instr} {b : Bool} {st0 : List Value} {t : Nat} (hk : xtab k = (L, nL, rk, hs)) {kd : Nat} (he : L[j]? = some (pc, kd, i, len, ax, cv)) (h1 : kd ≠ 1) (h2 : kd ≠ 2) (h3 : kd ≠ 3) (h : xstp nL kd j i ax cv lv st0 hp = xjmp t j b lv st hp) (kt : b = true → Ev d k t lv st hp Q) (kf : b = false → Ev d k (j + 1) lv st hp Q) : Ev d k j lv st0 hp Q := by
  cases b with
  | true => exact E_step hk he h1 h2 h3 (h.trans (by simp [xjmp])) (kt rfl)
  | false => exact E_step hk he h1 h2 h3 (h.trans (by simp [xjmp])) (kf rfl)
theorem E_if_eq {x : Int32} {off : Int} {t : Nat} (hk : xtab k = (L, nL, rk, hs)) (he : L[j]? = some (pc, 0, .ifCond .eq off, len, [t], cv)) (kt : x = 0 → Ev d k t lv st hp Q) (kf : ¬ x = 0 → Ev d k (j + 1) lv st hp Q) : Ev d k j lv (.int x :: st) hp Q :=
  E_jmp (b := decide (x = 0)) hk he (by decide) (by decide) (by decide) rfl (fun h => kt (of_decide_eq_true h)) (fun h => kf (of_decide_eq_false h))
theorem E_if_ne {x : Int32} {off : Int} {t : Nat} (hk : xtab k = (L, nL, rk, hs)) (he : L[j]? = some (pc, 0, .ifCond .ne off, len, [t], cv)) (kt : ¬ x = 0 → Ev d k t lv st hp Q) (kf : x = 0 → Ev d k (j + 1) lv st hp Q) : Ev d k j lv (.int x :: st) hp Q :=
  E_jmp (b := decide (¬ x = 0)) hk he (by decide) (by decide) (by decide) rfl (fun h => kt (of_decide_eq_true h)) (fun h => kf (Decidable.not_not.mp (of_decide_eq_false h)))
theorem E_if_lt {x : Int32} {off : Int} {t : Nat} (hk : xtab k = (L, nL, rk, hs)) (he : L[j]? = some (pc, 0, .ifCond .lt off, len, [t], cv)) (kt : x < 0 → Ev d k t lv st hp Q) (kf : ¬ x < 0 → Ev d k (j + 1) lv st hp Q) : Ev d k j lv (.int x :: st) hp Q :=
  E_jmp (b := decide (x < 0)) hk he (by decide) (by decide) (by decide) rfl (fun h => kt (of_decide_eq_true h)) (fun h => kf (of_decide_eq_false h))
theorem E_if_ge {x : Int32} {off : Int} {t : Nat} (hk : xtab k = (L, nL, rk, hs)) (he : L[j]? = some (pc, 0, .ifCond .ge off, len, [t], cv)) (kt : ¬ x < 0 → Ev d k t lv st hp Q) (kf : x < 0 → Ev d k (j + 1) lv st hp Q) : Ev d k j lv (.int x :: st) hp Q :=
  E_jmp (b := decide (0 ≤ x)) hk he (by decide) (by decide) (by decide) rfl (fun h => kt (Int32.not_lt.mpr (of_decide_eq_true h))) (fun h => kf (Int32.not_le.mp (of_decide_eq_false h)))
theorem E_if_gt {x : Int32} {off : Int} {t : Nat} (hk : xtab k = (L, nL, rk, hs)) (he : L[j]? = some (pc, 0, .ifCond .gt off, len, [t], cv)) (kt : 0 < x → Ev d k t lv st hp Q) (kf : ¬ 0 < x → Ev d k (j + 1) lv st hp Q) : Ev d k j lv (.int x :: st) hp Q :=
  E_jmp (b := decide (0 < x)) hk he (by decide) (by decide) (by decide) rfl (fun h => kt (of_decide_eq_true h)) (fun h => kf (of_decide_eq_false h))
theorem E_if_le {x : Int32} {off : Int} {t : Nat} (hk : xtab k = (L, nL, rk, hs)) (he : L[j]? = some (pc, 0, .ifCond .le off, len, [t], cv)) (kt : ¬ 0 < x → Ev d k t lv st hp Q) (kf : 0 < x → Ev d k (j + 1) lv st hp Q) : Ev d k j lv (.int x :: st) hp Q :=
  E_jmp (b := decide (x ≤ 0)) hk he (by decide) (by decide) (by decide) rfl (fun h => kt (Int32.not_lt.mpr (of_decide_eq_true h))) (fun h => kf (Int32.not_le.mp (of_decide_eq_false h)))
theorem E_ic_eq {x y : Int32} {off : Int} {t : Nat} (hk : xtab k = (L, nL, rk, hs)) (he : L[j]? = some (pc, 0, .if_icmp .eq off, len, [t], cv)) (kt : x = y → Ev d k t lv st hp Q) (kf : ¬ x = y → Ev d k (j + 1) lv st hp Q) : Ev d k j lv (.int y :: .int x :: st) hp Q :=
  E_jmp (b := decide (x = y)) hk he (by decide) (by decide) (by decide) rfl (fun h => kt (of_decide_eq_true h)) (fun h => kf (of_decide_eq_false h))
theorem E_ic_ne {x y : Int32} {off : Int} {t : Nat} (hk : xtab k = (L, nL, rk, hs)) (he : L[j]? = some (pc, 0, .if_icmp .ne off, len, [t], cv)) (kt : ¬ x = y → Ev d k t lv st hp Q) (kf : x = y → Ev d k (j + 1) lv st hp Q) : Ev d k j lv (.int y :: .int x :: st) hp Q :=
  E_jmp (b := decide (¬ x = y)) hk he (by decide) (by decide) (by decide) rfl (fun h => kt (of_decide_eq_true h)) (fun h => kf (Decidable.not_not.mp (of_decide_eq_false h)))
theorem E_ic_lt {x y : Int32} {off : Int} {t : Nat} (hk : xtab k = (L, nL, rk, hs)) (he : L[j]? = some (pc, 0, .if_icmp .lt off, len, [t], cv)) (kt : x < y → Ev d k t lv st hp Q) (kf : ¬ x < y → Ev d k (j + 1) lv st hp Q) : Ev d k j lv (.int y :: .int x :: st) hp Q :=
  E_jmp (b := decide (x < y)) hk he (by decide) (by decide) (by decide) rfl (fun h => kt (of_decide_eq_true h)) (fun h => kf (of_decide_eq_false h))
theorem E_ic_ge {x y : Int32} {off : Int} {t : Nat} (hk : xtab k = (L, nL, rk, hs)) (he : L[j]? = some (pc, 0, .if_icmp .ge off, len, [t], cv)) (kt : ¬ x < y → Ev d k t lv st hp Q) (kf : x < y → Ev d k (j + 1) lv st hp Q) : Ev d k j lv (.int y :: .int x :: st) hp Q :=
  E_jmp (b := decide (y ≤ x)) hk he (by decide) (by decide) (by decide) rfl (fun h => kt (Int32.not_lt.mpr (of_decide_eq_true h))) (fun h => kf (Int32.not_le.mp (of_decide_eq_false h)))
theorem E_ic_gt {x y : Int32} {off : Int} {t : Nat} (hk : xtab k = (L, nL, rk, hs)) (he : L[j]? = some (pc, 0, .if_icmp .gt off, len, [t], cv)) (kt : y < x → Ev d k t lv st hp Q) (kf : ¬ y < x → Ev d k (j + 1) lv st hp Q) : Ev d k j lv (.int y :: .int x :: st) hp Q :=
  E_jmp (b := decide (y < x)) hk he (by decide) (by decide) (by decide) rfl (fun h => kt (of_decide_eq_true h)) (fun h => kf (of_decide_eq_false h))
theorem E_ic_le {x y : Int32} {off : Int} {t : Nat} (hk : xtab k = (L, nL, rk, hs)) (he : L[j]? = some (pc, 0, .if_icmp .le off, len, [t], cv)) (kt : ¬ y < x → Ev d k t lv st hp Q) (kf : y < x → Ev d k (j + 1) lv st hp Q) : Ev d k j lv (.int y :: .int x :: st) hp Q :=
  E_jmp (b := decide (x ≤ y)) hk he (by decide) (by decide) (by decide) rfl (fun h => kt (Int32.not_lt.mpr (of_decide_eq_true h))) (fun h => kf (Int32.not_le.mp (of_decide_eq_false h)))
theorem E_get {a ci f t q : Nat} {r : List Nat} {fs : List Value} {v : Value} {ix : Nat} (hk : xtab k = (L, nL, rk, hs)) (he : L[j]? = some (pc, 7, .getfield ix, len, ci :: f :: t :: q :: r, cv)) (ha : xat hp a = some (.inr (ci, fs))) (hv : fs[f]? = some v) (kk : Ev d k (j + 1) lv (v :: st) hp Q) : Ev d k j lv (.ref a :: st) hp Q := by
  refine E_step hk he (by decide) (by decide) (by decide) ?_ kk
  have ha : hp.2.2 a = some (.inr (ci, fs)) := ha
  simp [xstp, xsB, ha, hv]
theorem E_put {a ci f t q : Nat} {r : List Nat} {fs fs' : List Value} {v : Value} {ix : Nat} (hk : xtab k = (L, nL, rk, hs)) (he : L[j]? = some (pc, 7, .putfield ix, len, ci :: f :: t :: q :: r, cv)) (ha : xat hp a = some (.inr (ci, fs))) (hn : xNC ≤ a) (hl : f < fs.length) (hf : xfit t v = true) (hfs : fs.set f v = fs') (kk : Ev d k (j + 1) lv st (xput hp a (.inr (ci, fs'))) Q) : Ev d k j lv (v :: .ref a :: st) hp Q := by
  subst hfs
  refine E_step hk he (by decide) (by decide) (by decide) ?_ kk
  have ha : hp.2.2 a = some (.inr (ci, fs)) := ha
  simp [xstp, xsB, ha, hn, hl, hf]
theorem E_gets {ix : Nat} (hk : xtab k = (L, nL, rk, hs)) (he : L[j]? = some (pc, 7, .getstatic ix, len, ax, cv)) (kk : Ev d k (j + 1) lv (cv :: st) hp Q) : Ev d k j lv st hp Q :=
  E_step hk he (by decide) (by decide) (by decide) rfl kk
theorem E_alen {a n : Nat} {ty : FieldType} {f : Nat → Value} (hk : xtab k = (L, nL, rk, hs)) (he : L[j]? = some (pc, 7, .arraylength, len, ax, cv)) (ha : xat hp a = some (.inl (ty, n, f))) (kk : Ev d k (j + 1) lv (.int (nI n) :: st) hp Q) : Ev d k j lv (.ref a :: st) hp Q := by
  refine E_step hk he (by decide) (by decide) (by decide) ?_ kk
  have ha : hp.2.2 a = some (.inl (ty, n, f)) := ha
  simp [xstp, xsB, ha, nI]
theorem xin_of {i : Int32} {n : Nat} (h : vp_in i n) : xin i n = true := decide_eq_true h
theorem E_iald {a n : Nat} {f : Nat → Int32} {i : Int32} (hk : xtab k = (L, nL, rk, hs)) (he : L[j]? = some (pc, 7, .iaload, len, ax, cv)) (ha : xat hp a = some (.inl (.int, n, fun q => .int (f q)))) (hi : vp_in i n) (kk : Ev d k (j + 1) lv (.int (f i.toNatClampNeg) :: st) hp Q) : Ev d k j lv (.int i :: .ref a :: st) hp Q := by
  refine E_step hk he (by decide) (by decide) (by decide) ?_ kk
  have ha : hp.2.2 a = some (.inl (.int, n, fun q => .int (f q))) := ha
  simp [xstp, xsB, ha, xin_of hi]
theorem updV_int (f : Nat → Int32) (k : Nat) (x : Int32) : updV (fun q => .int (f q)) k (.int x) = fun q => .int (upd f k x q) := by
  funext q
  by_cases h : q = k <;> simp [updV, upd, h]
theorem E_iast {a n : Nat} {f : Nat → Int32} {i x : Int32} (hk : xtab k = (L, nL, rk, hs)) (he : L[j]? = some (pc, 7, .iastore, len, ax, cv)) (ha : xat hp a = some (.inl (.int, n, fun q => .int (f q)))) (hi : vp_in i n) (hn : xNC ≤ a) (kk : Ev d k (j + 1) lv st (xput hp a (.inl (.int, n, fun q => .int (upd f i.toNatClampNeg x q)))) Q) : Ev d k j lv (.int x :: .int i :: .ref a :: st) hp Q := by
  refine E_step hk he (by decide) (by decide) (by decide) ?_ kk
  have ha : hp.2.2 a = some (.inl (.int, n, fun q => .int (f q))) := ha
  simp [xstp, xsB, ha, xin_of hi, hn, updV_int]
theorem E_ret {v : Option Value} {i : Instr} (hk : xtab k = (L, nL, rk, hs)) (he : L[j]? = some (pc, 2, i, len, ax, cv)) (h : xret rk i st = some v) (hq : Q (.inl v) hp) : Ev d k j lv st hp Q := by
  refine ⟨1, .inl v, hp, ?_, hq⟩
  unfold xrun
  rw [hk]
  dsimp only
  rw [he]
  dsimp only
  rw [h]
  rfl
theorem E_throw {E : Nat} {r : List Nat} {i : Instr} (hd4 : 4 ≤ d) (hk : xtab k = (L, nL, rk, hs)) (he : L[j]? = some (pc, 3, i, len, E :: r, cv)) (hst : (st.map fun v => v.category).sum ≤ 8) (hq : Q (.inr E) (xbare hp 6)) : Ev d k j lv st hp Q := by
  refine ⟨1, .inr E, xbare hp 6, ?_, hq⟩
  unfold xrun
  rw [hk]
  dsimp only
  rw [he]
  dsimp only
  show (if d < 4 then none else if (st.map fun v => v.category).sum ≤ 8 then some (Sum.inr ((E :: r).headD 0), xbare hp 6) else none) = some (Sum.inr E, xbare hp 6)
  rw [if_neg (Nat.not_lt.mpr hd4), if_pos hst]
  rfl
/-- a call: the callee's contract, then both roads -/
theorem E_callX0 {g na md ci : Nat} {i : Instr} {as rest : List Value} {P : xO → xH → Prop} (hk : xtab k = (L, nL, rk, hs)) (he : L[j]? = some (pc, 1, i, len, ax, cv)) (a0 : ax.headD 0 = g) (a1 : ax.getD 1 0 = na) (a2 : ax.getD 2 0 = md) (a3 : ax.getD 3 0 = ci) (hst : st = as.reverse ++ rest) (hna : as.length = na) (hcat : (rest.map fun v => v.category).sum ≤ 8) (hr : xrcv md ci as hp = true) (hv : (as.map fun v => v.category).sum ≤ (xtab g).2.1)
    (hc : Cv d g as hp P) (kk : ∀ v hp1, P (.inl v) hp1 → Ev (d + 1) k (j + 1) lv (v.toList ++ rest) hp1 Q)
    (kx : ∀ E hp1, P (.inr E) hp1 → (xcatch hs pc E = none ∧ Q (.inr E) hp1) ∨ ∃ v t, xcatch hs pc E = some (v, t) ∧ Ev (d + 1) k t (xdel lv v) [] hp1 Q) : Ev (d + 1) k j lv st hp Q := by
  obtain ⟨n, o, hp1, e1, e2⟩ := hc
  subst a0; subst a1; subst a2; subst a3
  have hl : ax.getD 1 0 = as.reverse.length := by rw [List.length_reverse]; exact hna.symm
  have ht : (st.take (ax.getD 1 0)).reverse = as := by rw [hst, hl, List.take_left', List.reverse_reverse]; rfl
  have hd : st.drop (ax.getD 1 0) = rest := by rw [hst, hl, List.drop_left']; rfl
  have hlen : ¬ (st.length < ax.getD 1 0 ∨ 8 < ((st.drop (ax.getD 1 0)).map fun v => v.category).sum ∨ (xtab (ax.headD 0)).2.1 < (((st.take (ax.getD 1 0)).reverse).map fun v => v.category).sum) := by
    rw [hd, ht, hst, List.length_append, ← hl]
    omega
  cases o with
  | inl v =>
    obtain ⟨n2, o2, hq2, f1, f2⟩ := kk v hp1 e2
    refine ⟨n + n2 + 1, o2, hq2, ?_, f2⟩
    unfold xrun
    rw [hk]
    dsimp only
    rw [he]
    dsimp only
    rw [if_neg hlen, ht, hd, if_pos hr, xrun_mono xtab _ _ _ _ _ _ _ _ e1 n2]
    dsimp only
    rw [Nat.add_comm n n2]
    exact xrun_mono xtab _ _ _ _ _ _ _ _ f1 n
  | inr E =>
    rcases kx E hp1 e2 with ⟨h1, h2⟩ | ⟨v, t, h1, n2, o2, hq2, f1, f2⟩
    · refine ⟨n + 1, .inr E, hp1, ?_, h2⟩
      unfold xrun
      rw [hk]
      dsimp only
      rw [he]
      dsimp only
      rw [if_neg hlen, ht, if_pos hr, e1]
      dsimp only
      rw [h1]
      rfl
    · refine ⟨n + n2 + 1, o2, hq2, ?_, f2⟩
      unfold xrun
      rw [hk]
      dsimp only
      rw [he]
      dsimp only
      rw [if_neg hlen, ht, if_pos hr, xrun_mono xtab _ _ _ _ _ _ _ _ e1 n2]
      dsimp only
      rw [h1]
      dsimp only
      rw [Nat.add_comm n n2]
      exact xrun_mono xtab _ _ _ _ _ _ _ _ f1 n
theorem E_callX {g na md ci : Nat} {r : List Nat} {i : Instr} {as rest : List Value} {P : xO → xH → Prop} (hk : xtab k = (L, nL, rk, hs)) (he : L[j]? = some (pc, 1, i, len, g :: na :: md :: ci :: r, cv)) (hst : st = as.reverse ++ rest) (hna : as.length = na) (hcat : (rest.map fun v => v.category).sum ≤ 8) (hr : xrcv md ci as hp = true) (hv : (as.map fun v => v.category).sum ≤ (xtab g).2.1)
    (hc : Cv d g as hp P) (kk : ∀ v hp1, P (.inl v) hp1 → Ev (d + 1) k (j + 1) lv (v.toList ++ rest) hp1 Q)
    (kx : ∀ E hp1, P (.inr E) hp1 → (xcatch hs pc E = none ∧ Q (.inr E) hp1) ∨ ∃ v t, xcatch hs pc E = some (v, t) ∧ Ev (d + 1) k t (xdel lv v) [] hp1 Q) : Ev (d + 1) k j lv st hp Q :=
  E_callX0 hk he rfl rfl rfl rfl hst hna hcat hr hv hc kk kx
/-- an end with this answer and this heap -/
def xEq (v : Option Value) (h : xH) : xO → xH → Prop := fun o h' => o = .inl v ∧ h' = h
/-- a call of a method that always returns: its answer and heap are known -/
theorem E_call {g na md ci : Nat} {r : List Nat} {i : Instr} {as rest : List Value} {v : Option Value} {hp1 : xH} (hk : xtab k = (L, nL, rk, hs)) (he : L[j]? = some (pc, 1, i, len, g :: na :: md :: ci :: r, cv)) (hst : st = as.reverse ++ rest) (hna : as.length = na) (hcat : (rest.map fun v => v.category).sum ≤ 8) (hr : xrcv md ci as hp = true) (hv : (as.map fun v => v.category).sum ≤ (xtab g).2.1)
    (hc : Cv d g as hp (xEq v hp1)) (kk : Ev (d + 1) k (j + 1) lv (v.toList ++ rest) hp1 Q) : Ev (d + 1) k j lv st hp Q :=
  E_callX hk he hst hna hcat hr hv hc (fun v' h' e => by obtain ⟨e1, e2⟩ := e; cases e1; subst e2; exact kk) (fun E h' e => by obtain ⟨e1, -⟩ := e; cases e1)
end EW
end
section
/-! The real machine follows the small one. -/
def xad (s0 : State) (adc : Nat → Option Nat) (k : Nat) : Option Nat := if k < xNC then adc k else some (s0.heap.size + (k - xNC))
def xv (s0 : State) (adc : Nat → Option Nat) (v : Value) : Value := match v with
  | .ref k => va_rf (xad s0 adc k)
  | v => v
def xlv (s0 : State) (adc : Nat → Option Nat) (lv : xL) : List (Nat × Value) := lv.map fun q => (q.1, xv s0 adc q.2)
theorem xv_int (s0 : State) (adc : Nat → Option Nat) (x : Int32) : xv s0 adc (.int x) = .int x := rfl
theorem xv_cat (s0 : State) (adc : Nat → Option Nat) (v : Value) : (xv s0 adc v).category = v.category := by
  cases v with
  | ref k =>
    show (va_rf (xad s0 adc k)).category = 1
    cases xad s0 adc k <;> rfl
  | _ => rfl
theorem xv_sum (s0 : State) (adc : Nat → Option Nat) (st : List Value) : ((st.map (xv s0 adc)).map fun v => v.category).sum = (st.map fun v => v.category).sum := by
  rw [List.map_map]
  congr 1
  exact List.map_congr_left fun v _ => xv_cat s0 adc v
theorem xlv_get {s0 : State} {adc : Nat → Option Nat} {lv : xL} {k : Nat} {v : Value} {ls : Array Slot} {nL : Nat} (h : lv_has ls nL (xlv s0 adc lv)) (hg : xget lv k = some v) : ls[k]? = some (.val (xv s0 adc v)) := by
  have hm : ∀ lv : xL, xget lv k = some v → (k, v) ∈ lv := by
    intro lv
    induction lv with
    | nil => intro h; simp [xget] at h
    | cons q lv ih =>
      intro h
      obtain ⟨a, w⟩ := q
      simp only [xget] at h
      by_cases e : a = k
      · rw [if_pos e] at h
        cases h
        subst e
        exact List.mem_cons_self
      · rw [if_neg e] at h
        exact List.mem_cons_of_mem _ (ih h)
  exact h.2.2 (k, xv s0 adc v) (List.mem_map.mpr ⟨(k, v), hm lv hg, rfl⟩)
theorem xlv_del (s0 : State) (adc : Nat → Option Nat) (lv : xL) (i : Nat) : (xlv s0 adc lv).filter (fun q => !(q.1 == i) && !(q.1 + 1 == i && q.2.category == 2)) = xlv s0 adc (xdel lv i) := by
  unfold xlv xdel
  rw [List.filter_map]
  congr 1
  refine List.filter_congr fun q _ => ?_
  simp only [Function.comp, xv_cat]
theorem xlv_st1 (s0 : State) (adc : Nat → Option Nat) (lv : xL) (i : Nat) (v : Value) : (i, xv s0 adc v) :: (xlv s0 adc lv).filter (fun q => !(q.1 == i) && !(q.1 + 1 == i && q.2.category == 2)) = xlv s0 adc (xst1 lv i v) := by
  rw [xlv_del]
  rfl
theorem xlv_st2 (s0 : State) (adc : Nat → Option Nat) (lv : xL) (i : Nat) (v : Value) : (i, xv s0 adc v) :: (xlv s0 adc lv).filter (fun q => !(q.1 == i) && (!(q.1 == i + 1) && !(q.1 + 1 == i && q.2.category == 2))) = xlv s0 adc (xst2 lv i v) := by
  unfold xlv xst2
  rw [List.filter_map]
  show _ :: _ = _ :: _
  congr 2
  refine List.filter_congr fun q _ => ?_
  simp only [Function.comp, xv_cat]
/-- words that stand in the tables hold in every frame behind the start -/
def xWd (s0 : State) (b0 : Nat) : Prop := ∀ w ∈ lw_tbl, w.before #[Value.ref b0] s0 = true
theorem tables_lw {w : Jvm.Cond} (h : w ∈ tables_1) : w ∈ lw_tbl := List.mem_append_right _ h
theorem xwd {s0 s : State} {b0 : Nat} {args : Array Value} (hts : xWd s0 b0) (hW : s0.WarmedH s.vm) {q p : Nat} {w : Jvm.Cond} (h : xw q p = some w) (hg : goodWord w = true) : w.before args s = true :=
  word_at hW (good_of_word hg) (hts w (tables_lw (xtb_in h)))
theorem xwdF {s0 s : State} {b0 : Nat} {args : Array Value} (hts : xWd s0 b0) (hW : s0.WarmedH s.vm) {q p : Nat} {a : String} {i : Nat} {b n d h : String} (e : xw q p = some (.fieldLinkNest a i b n d h)) : (Jvm.Cond.fieldLinkNest a i b n d h).before args s = true :=
  va_Nw.use rfl (va_Nw.warmF hW (va_Nw.of rfl (hts _ (tables_lw (xtb_in e)))))
theorem xwdM {s0 s : State} {b0 : Nat} (hts : xWd s0 b0) (hW : s0.WarmedH s.vm) {q p : Nat} {a : String} {i : Nat} {x : MethodName} {h : String} (e : xw q p = some (.methodLinkNest a i x h)) : va_Nw (.methodLinkNest a i x h) s :=
  va_Nw.warmM hW (va_Nw.of rfl (hts _ (tables_lw (xtb_in e))))
section SA
variable {p : Program} {l : Launch} {e : Env} {R : Room} {s : State} {m : MethodId} {args : Array Value} {below : List Frame} {meth : Method} {c : Code} {H : Heap} {locs : List Loc} {cells slots : Nat} {Q : State → Prop}
variable {s0 : State} {b0 : Nat} {adc : Nat → Option Nat} {cc : ByteArray} {own : String} {nL : Nat}
theorem xto_ex {L : List xE} {pc t : Nat} {off : Int} (h : xto L pc t off = true) : ∃ tg : Nat, (pc : Int) + off = (tg : Int) := by
  unfold xto at h
  split at h
  · exact ⟨_, of_decide_eq_true h⟩
  · exact absurd h (by simp)
theorem xto_at {L : List xE} {pc t : Nat} {off : Int} {e' : xE} (h : xto L pc t off = true) (he : L[t]? = some e') : (pc : Int) + off = (e'.1 : Int) := by
  unfold xto at h
  rw [he] at h
  exact of_decide_eq_true h
theorem xlv_mem {lv : xL} {k : Nat} {v : Value} (hg : xget lv k = some v) : (k, xv s0 adc v) ∈ xlv s0 adc lv := by
  have hm : ∀ lv : xL, xget lv k = some v → (k, v) ∈ lv := by
    intro lv
    induction lv with
    | nil => intro h; simp [xget] at h
    | cons q lv ih =>
      intro h
      obtain ⟨a, w⟩ := q
      simp only [xget] at h
      by_cases e : a = k
      · rw [if_pos e] at h
        cases h
        subst e
        exact List.mem_cons_self
      · rw [if_neg e] at h
        exact List.mem_cons_of_mem _ (ih h)
  exact List.mem_map.mpr ⟨(k, v), hm lv hg, rfl⟩
set_option maxHeartbeats 4000000 in
theorem snd_A {L : List xE} {j pc len : Nat} {i : Instr} {ax : List Nat} {cv : Value} {lv lv' : xL} {st st' : List Value} {hp hp' : xH} {j' : Nat} {ls : Array Slot} {e' : xE} (hx : p.tables.exec = Jvm.exec) (hb : c.code = cc) (hown : s.vm.findClass own = some m.cls) (hts : xWd s0 b0) (hW : s0.WarmedH s.vm) (hd : decode cc pc = .ok (i, len)) (hn : ∀ e1, L[j + 1]? = some e1 → e1.1 = pc + len) (hc : xkA L own pc i len ax cv = true)
    (h : xsA nL j i ax cv lv st hp = some (j', lv', st', hp')) (he' : L[j']? = some e') (hl : lv_has ls nL (xlv s0 adc lv)) (K : hp' = hp → ∀ ls', lv_has ls' nL (xlv s0 adc lv') → W p l e R s m args below meth c H locs cells slots Q (F0 m e'.1 ls' (st'.map (xv s0 adc)))) :
    hp' = hp ∧ W p l e R s m args below meth c H locs cells slots Q (F0 m pc ls (st.map (xv s0 adc))) := by
  unfold xsA at h
  split at h
  · simp only [Option.some.injEq, Prod.mk.injEq] at h
    obtain ⟨rfl, rfl, rfl, rfl⟩ := h
    replace K := K rfl
    refine ⟨rfl, ?_⟩
    have hpc := hn e' he'
    have hc2 : cv = _ ∧ len = _ := of_decide_eq_true hc
    obtain ⟨hcv, hlen⟩ := hc2
    subst hcv
    rw [hlen] at hd hpc
    have K1 := K ls hl
    rw [hpc] at K1
    refine lv_iconst (v := _) hx hb hd rfl ?_
    exact K1
  · simp only [Option.some.injEq, Prod.mk.injEq] at h
    obtain ⟨rfl, rfl, rfl, rfl⟩ := h
    replace K := K rfl
    refine ⟨rfl, ?_⟩
    have hpc := hn e' he'
    have hc2 : cv = _ ∧ len = _ := of_decide_eq_true hc
    obtain ⟨hcv, hlen⟩ := hc2
    subst hcv
    rw [hlen] at hd hpc
    have K1 := K ls hl
    rw [hpc] at K1
    refine lv_bipush hx hb hd rfl ?_
    exact K1
  · simp only [Option.some.injEq, Prod.mk.injEq] at h
    obtain ⟨rfl, rfl, rfl, rfl⟩ := h
    replace K := K rfl
    refine ⟨rfl, ?_⟩
    have hpc := hn e' he'
    have hc2 : cv = _ ∧ len = _ := of_decide_eq_true hc
    obtain ⟨hcv, hlen⟩ := hc2
    subst hcv
    rw [hlen] at hd hpc
    have K1 := K ls hl
    rw [hpc] at K1
    refine lv_sipush hx hb hd rfl ?_
    exact K1
  · simp only [Option.some.injEq, Prod.mk.injEq] at h
    obtain ⟨rfl, rfl, rfl, rfl⟩ := h
    replace K := K rfl
    refine ⟨rfl, ?_⟩
    have hpc := hn e' he'
    have hc2 : cv = _ ∧ len = _ := of_decide_eq_true hc
    obtain ⟨hcv, hlen⟩ := hc2
    subst hcv
    rw [hlen] at hd hpc
    have K1 := K ls hl
    rw [hpc] at K1
    refine lv_lconst hx hb hd rfl ?_
    exact K1
  · simp only [Option.some.injEq, Prod.mk.injEq] at h
    obtain ⟨rfl, rfl, rfl, rfl⟩ := h
    replace K := K rfl
    refine ⟨rfl, ?_⟩
    have hpc := hn e' he'
    simp only [xkA, Bool.or_eq_true, Bool.and_eq_true, beq_iff_eq, decide_eq_true_eq] at hc
    rcases hc with ⟨rfl, rfl, hlen⟩ | ⟨rfl, rfl, hlen⟩
    · rw [hlen] at hd hpc
      have K1 := K ls hl
      rw [hpc] at K1
      exact lv_dconst0 hx hb hd K1
    · rw [hlen] at hd hpc
      have K1 := K ls hl
      rw [hpc] at K1
      exact lv_dconst1 hx hb hd K1
  · simp only [Option.some.injEq, Prod.mk.injEq] at h
    obtain ⟨rfl, rfl, rfl, rfl⟩ := h
    replace K := K rfl
    refine ⟨rfl, ?_⟩
    have hpc := hn e' he'
    simp only [xkA, Bool.and_eq_true, decide_eq_true_eq] at hc
    obtain ⟨hlen, hc⟩ := hc
    split at hc
    · rename_i hw
      obtain ⟨rfl, rfl, rfl⟩ := of_decide_eq_true hc
      rw [hlen] at hd hpc
      have K1 := K ls hl
      rw [hpc] at K1
      exact lv_ldc hx hb hown (xwd hts hW hw rfl) hd K1
    · exact absurd hc (by simp)
  · simp only [Option.some.injEq, Prod.mk.injEq] at h
    obtain ⟨rfl, rfl, rfl, rfl⟩ := h
    replace K := K rfl
    refine ⟨rfl, ?_⟩
    have hpc := hn e' he'
    simp only [xkA, Bool.and_eq_true, decide_eq_true_eq] at hc
    obtain ⟨hlen, hc⟩ := hc
    split at hc
    · rename_i hw
      obtain ⟨rfl, rfl, rfl⟩ := of_decide_eq_true hc
      rw [hlen] at hd hpc
      have K1 := K ls hl
      rw [hpc] at K1
      exact lv_ldcw hx hb hown (xwd hts hW hw rfl) hd K1
    · exact absurd hc (by simp)
  · simp only [Option.some.injEq, Prod.mk.injEq] at h
    obtain ⟨rfl, rfl, rfl, rfl⟩ := h
    replace K := K rfl
    refine ⟨rfl, ?_⟩
    have hpc := hn e' he'
    simp only [xkA, Bool.and_eq_true, decide_eq_true_eq] at hc
    obtain ⟨hlen, hc⟩ := hc
    split at hc
    · rename_i hw
      obtain ⟨rfl, rfl, rfl⟩ := of_decide_eq_true hc
      rw [hlen] at hd hpc
      have K1 := K ls hl
      rw [hpc] at K1
      exact lv_ldc2 hx hb hown (xwd hts hW hw rfl) hd K1
    · rename_i hw
      obtain ⟨rfl, rfl, rfl⟩ := of_decide_eq_true hc
      rw [hlen] at hd hpc
      have K1 := K ls hl
      rw [hpc] at K1
      exact lv_ldc2d hx hb hown (xwd hts hW hw rfl) hd K1
    · exact absurd hc (by simp)
  · simp only [Option.some.injEq, Prod.mk.injEq] at h
    obtain ⟨rfl, rfl, rfl, rfl⟩ := h
    replace K := K rfl
    refine ⟨rfl, ?_⟩
    have hpc := hn e' he'
    have hlen : len = 1 := by simpa [xkA] using hc
    rw [hlen] at hd hpc
    have K1 := K ls hl
    rw [hpc] at K1
    refine lv_null hx hb hd ?_
    exact K1
  · split at h
    · rename_i hg
      simp only [Option.some.injEq, Prod.mk.injEq] at h
      obtain ⟨rfl, rfl, rfl, rfl⟩ := h
      replace K := K rfl
      refine ⟨rfl, ?_⟩
      have hpc := hn e' he'
      have hlen : len = 1 := by simpa [xkA] using hc
      rw [hlen] at hd hpc
      have K1 := K ls hl
      rw [hpc] at K1
      have hg1 := xlv_get hl hg
      exact lv_iload_n hx hb hd rfl hg1 K1
    · exact absurd h (by simp)
  · split at h
    · rename_i hg
      simp only [Option.some.injEq, Prod.mk.injEq] at h
      obtain ⟨rfl, rfl, rfl, rfl⟩ := h
      replace K := K rfl
      refine ⟨rfl, ?_⟩
      have hpc := hn e' he'
      have hlen : len = 2 := by simpa [xkA] using hc
      rw [hlen] at hd hpc
      have K1 := K ls hl
      rw [hpc] at K1
      have hg1 := xlv_get hl hg
      exact lv_iload hx hb hd hg1 K1
    · exact absurd h (by simp)
  · split at h
    · rename_i hg
      simp only [Option.some.injEq, Prod.mk.injEq] at h
      obtain ⟨rfl, rfl, rfl, rfl⟩ := h
      replace K := K rfl
      refine ⟨rfl, ?_⟩
      have hpc := hn e' he'
      have hlen : len = 1 := by simpa [xkA] using hc
      rw [hlen] at hd hpc
      have K1 := K ls hl
      rw [hpc] at K1
      have hg1 := xlv_get hl hg
      exact lv_lload_n hx hb hd rfl hg1 K1
    · exact absurd h (by simp)
  · split at h
    · rename_i hg
      simp only [Option.some.injEq, Prod.mk.injEq] at h
      obtain ⟨rfl, rfl, rfl, rfl⟩ := h
      replace K := K rfl
      refine ⟨rfl, ?_⟩
      have hpc := hn e' he'
      have hlen : len = 2 := by simpa [xkA] using hc
      rw [hlen] at hd hpc
      have K1 := K ls hl
      rw [hpc] at K1
      have hg1 := xlv_get hl hg
      exact lv_lload hx hb hd hg1 K1
    · exact absurd h (by simp)
  · split at h
    · rename_i hg
      simp only [Option.some.injEq, Prod.mk.injEq] at h
      obtain ⟨rfl, rfl, rfl, rfl⟩ := h
      replace K := K rfl
      refine ⟨rfl, ?_⟩
      have hpc := hn e' he'
      have hlen : len = 1 := by simpa [xkA] using hc
      rw [hlen] at hd hpc
      have K1 := K ls hl
      rw [hpc] at K1
      have hg1 := xlv_get hl hg
      exact lv_dload_n hx hb hd rfl hg1 K1
    · exact absurd h (by simp)
  · split at h
    · rename_i hg
      simp only [Option.some.injEq, Prod.mk.injEq] at h
      obtain ⟨rfl, rfl, rfl, rfl⟩ := h
      replace K := K rfl
      refine ⟨rfl, ?_⟩
      have hpc := hn e' he'
      have hlen : len = 2 := by simpa [xkA] using hc
      rw [hlen] at hd hpc
      have K1 := K ls hl
      rw [hpc] at K1
      have hg1 := xlv_get hl hg
      exact lv_dload hx hb hd hg1 K1
    · exact absurd h (by simp)
  · split at h
    · rename_i hg
      simp only [Option.some.injEq, Prod.mk.injEq] at h
      obtain ⟨rfl, rfl, rfl, rfl⟩ := h
      replace K := K rfl
      refine ⟨rfl, ?_⟩
      have hpc := hn e' he'
      have hlen : len = 1 := by simpa [xkA] using hc
      rw [hlen] at hd hpc
      have K1 := K ls hl
      rw [hpc] at K1
      have hg1 := xlv_get hl hg
      simp only [List.map_cons] at K1
      simp only [xv] at hg1 K1
      cases hr : xad s0 adc _ with
      | none =>
        rw [hr] at hg1 K1
        exact lv_aload_nN hx hb hd rfl hg1 K1
      | some a =>
        rw [hr] at hg1 K1
        exact lv_aload_n hx hb hd rfl hg1 K1
    · exact absurd h (by simp)
  · split at h
    · rename_i hg
      simp only [Option.some.injEq, Prod.mk.injEq] at h
      obtain ⟨rfl, rfl, rfl, rfl⟩ := h
      replace K := K rfl
      refine ⟨rfl, ?_⟩
      have hpc := hn e' he'
      have hlen : len = 2 := by simpa [xkA] using hc
      rw [hlen] at hd hpc
      have K1 := K ls hl
      rw [hpc] at K1
      have hg1 := xlv_get hl hg
      simp only [List.map_cons] at K1
      simp only [xv] at hg1 K1
      cases hr : xad s0 adc _ with
      | none =>
        rw [hr] at hg1 K1
        exact lv_aloadN hx hb hd hg1 K1
      | some a =>
        rw [hr] at hg1 K1
        exact lv_aload hx hb hd hg1 K1
    · exact absurd h (by simp)
  · split at h
    · rename_i hlt
      simp only [Option.some.injEq, Prod.mk.injEq] at h
      obtain ⟨rfl, rfl, rfl, rfl⟩ := h
      replace K := K rfl
      refine ⟨rfl, ?_⟩
      have hpc := hn e' he'
      have hlen : len = 1 := by simpa [xkA] using hc
      rw [hlen] at hd hpc
      rw [hpc] at K
      exact lv_istore_n hx hb hd rfl hl hlt (xlv_st1 s0 adc lv _ (.int _)) (fun ls' h' => K ls' h')
    · exact absurd h (by simp)
  · split at h
    · rename_i hlt
      simp only [Option.some.injEq, Prod.mk.injEq] at h
      obtain ⟨rfl, rfl, rfl, rfl⟩ := h
      replace K := K rfl
      refine ⟨rfl, ?_⟩
      have hpc := hn e' he'
      have hlen : len = 2 := by simpa [xkA] using hc
      rw [hlen] at hd hpc
      rw [hpc] at K
      exact lv_istore hx hb hd hl hlt (xlv_st1 s0 adc lv _ (.int _)) (fun ls' h' => K ls' h')
    · exact absurd h (by simp)
  · rename_i k x st2
    split at h
    · rename_i hlt
      simp only [Option.some.injEq, Prod.mk.injEq] at h
      obtain ⟨rfl, rfl, rfl, rfl⟩ := h
      replace K := K rfl
      refine ⟨rfl, ?_⟩
      have hpc := hn e' he'
      have hlen : len = 1 := by simpa [xkA] using hc
      rw [hlen] at hd hpc
      rw [hpc] at K
      have hst := xlv_st1 s0 adc lv k (.ref x)
      simp only [List.map_cons]
      simp only [xv] at hst ⊢
      cases hr : xad s0 adc x with
      | none =>
        rw [hr] at hst
        exact lv_astore_nN hx hb hd rfl hl hlt hst (fun ls' h' => K ls' h')
      | some a =>
        rw [hr] at hst
        exact lv_astore_n hx hb hd rfl hl hlt hst (fun ls' h' => K ls' h')
    · exact absurd h (by simp)
  · rename_i k x st2
    split at h
    · rename_i hlt
      simp only [Option.some.injEq, Prod.mk.injEq] at h
      obtain ⟨rfl, rfl, rfl, rfl⟩ := h
      replace K := K rfl
      refine ⟨rfl, ?_⟩
      have hpc := hn e' he'
      have hlen : len = 2 := by simpa [xkA] using hc
      rw [hlen] at hd hpc
      rw [hpc] at K
      have hst := xlv_st1 s0 adc lv k (.ref x)
      simp only [List.map_cons]
      simp only [xv] at hst ⊢
      cases hr : xad s0 adc x with
      | none =>
        rw [hr] at hst
        exact lv_astoreN hx hb hd hl hlt hst (fun ls' h' => K ls' h')
      | some a =>
        rw [hr] at hst
        exact lv_astore hx hb hd hl hlt hst (fun ls' h' => K ls' h')
    · exact absurd h (by simp)
  · split at h
    · rename_i hlt
      simp only [Option.some.injEq, Prod.mk.injEq] at h
      obtain ⟨rfl, rfl, rfl, rfl⟩ := h
      replace K := K rfl
      refine ⟨rfl, ?_⟩
      have hpc := hn e' he'
      have hlen : len = 1 := by simpa [xkA] using hc
      rw [hlen] at hd hpc
      rw [hpc] at K
      exact lv_lstore_n hx hb hd rfl hl hlt (xlv_st2 s0 adc lv _ (.long _)) (fun ls' h' => K ls' h')
    · exact absurd h (by simp)
  · split at h
    · rename_i hlt
      simp only [Option.some.injEq, Prod.mk.injEq] at h
      obtain ⟨rfl, rfl, rfl, rfl⟩ := h
      replace K := K rfl
      refine ⟨rfl, ?_⟩
      have hpc := hn e' he'
      have hlen : len = 2 := by simpa [xkA] using hc
      rw [hlen] at hd hpc
      rw [hpc] at K
      exact lv_lstore hx hb hd hl hlt (xlv_st2 s0 adc lv _ (.long _)) (fun ls' h' => K ls' h')
    · exact absurd h (by simp)
  · split at h
    · rename_i hlt
      simp only [Option.some.injEq, Prod.mk.injEq] at h
      obtain ⟨rfl, rfl, rfl, rfl⟩ := h
      replace K := K rfl
      refine ⟨rfl, ?_⟩
      have hpc := hn e' he'
      have hlen : len = 1 := by simpa [xkA] using hc
      rw [hlen] at hd hpc
      rw [hpc] at K
      exact lv_dstore_n hx hb hd rfl hl hlt (xlv_st2 s0 adc lv _ (.double _)) (fun ls' h' => K ls' h')
    · exact absurd h (by simp)
  · split at h
    · rename_i hlt
      simp only [Option.some.injEq, Prod.mk.injEq] at h
      obtain ⟨rfl, rfl, rfl, rfl⟩ := h
      replace K := K rfl
      refine ⟨rfl, ?_⟩
      have hpc := hn e' he'
      have hlen : len = 2 := by simpa [xkA] using hc
      rw [hlen] at hd hpc
      rw [hpc] at K
      exact lv_dstore hx hb hd hl hlt (xlv_st2 s0 adc lv _ (.double _)) (fun ls' h' => K ls' h')
    · exact absurd h (by simp)
  · split at h
    · rename_i hg
      split at h
      · rename_i hlt
        simp only [Option.some.injEq, Prod.mk.injEq] at h
        obtain ⟨rfl, rfl, rfl, rfl⟩ := h
        replace K := K rfl
        refine ⟨rfl, ?_⟩
        have hpc := hn e' he'
        have hc2 : Value.int _ = Value.int _ ∧ len = 3 := of_decide_eq_true hc
        obtain ⟨hcv, hlen⟩ := hc2
        cases hcv
        rw [hlen] at hd hpc
        rw [hpc] at K
        obtain ⟨q, hq⟩ := List.getElem?_of_mem (xlv_mem (s0 := s0) (adc := adc) hg)
        exact lv_iinc hx hb hd hl hq rfl hlt (xlv_st1 s0 adc lv _ (.int _)) (fun ls' h' => K ls' h')
      · exact absurd h (by simp)
    · exact absurd h (by simp)
  · simp only [Option.some.injEq, Prod.mk.injEq] at h
    obtain ⟨rfl, rfl, rfl, rfl⟩ := h
    replace K := K rfl
    refine ⟨rfl, ?_⟩
    have hpc := hn e' he'
    have hlen : len = 1 := by simpa [xkA] using hc
    rw [hlen] at hd hpc
    have K1 := K ls hl
    rw [hpc] at K1
    refine lv_iadd hx hb hd ?_
    exact K1
  · simp only [Option.some.injEq, Prod.mk.injEq] at h
    obtain ⟨rfl, rfl, rfl, rfl⟩ := h
    replace K := K rfl
    refine ⟨rfl, ?_⟩
    have hpc := hn e' he'
    have hlen : len = 1 := by simpa [xkA] using hc
    rw [hlen] at hd hpc
    have K1 := K ls hl
    rw [hpc] at K1
    refine lv_isub hx hb hd ?_
    exact K1
  · simp only [Option.some.injEq, Prod.mk.injEq] at h
    obtain ⟨rfl, rfl, rfl, rfl⟩ := h
    replace K := K rfl
    refine ⟨rfl, ?_⟩
    have hpc := hn e' he'
    have hlen : len = 1 := by simpa [xkA] using hc
    rw [hlen] at hd hpc
    have K1 := K ls hl
    rw [hpc] at K1
    refine lv_imul hx hb hd ?_
    exact K1
  · simp only [Option.some.injEq, Prod.mk.injEq] at h
    obtain ⟨rfl, rfl, rfl, rfl⟩ := h
    replace K := K rfl
    refine ⟨rfl, ?_⟩
    have hpc := hn e' he'
    have hlen : len = 1 := by simpa [xkA] using hc
    rw [hlen] at hd hpc
    have K1 := K ls hl
    rw [hpc] at K1
    refine lv_iand hx hb hd ?_
    exact K1
  · simp only [Option.some.injEq, Prod.mk.injEq] at h
    obtain ⟨rfl, rfl, rfl, rfl⟩ := h
    replace K := K rfl
    refine ⟨rfl, ?_⟩
    have hpc := hn e' he'
    have hlen : len = 1 := by simpa [xkA] using hc
    rw [hlen] at hd hpc
    have K1 := K ls hl
    rw [hpc] at K1
    refine lv_ior hx hb hd ?_
    exact K1
  · split at h
    · exact absurd h (by simp)
    · rename_i hne
      simp only [Option.some.injEq, Prod.mk.injEq] at h
      obtain ⟨rfl, rfl, rfl, rfl⟩ := h
      replace K := K rfl
      refine ⟨rfl, ?_⟩
      have hpc := hn e' he'
      have hlen : len = 1 := by simpa [xkA] using hc
      rw [hlen] at hd hpc
      have K1 := K ls hl
      rw [hpc] at K1
      exact lv_idiv hx hb hd hne K1
  · split at h
    · exact absurd h (by simp)
    · rename_i hne
      simp only [Option.some.injEq, Prod.mk.injEq] at h
      obtain ⟨rfl, rfl, rfl, rfl⟩ := h
      replace K := K rfl
      refine ⟨rfl, ?_⟩
      have hpc := hn e' he'
      have hlen : len = 1 := by simpa [xkA] using hc
      rw [hlen] at hd hpc
      have K1 := K ls hl
      rw [hpc] at K1
      exact lv_irem hx hb hd hne K1
  · simp only [Option.some.injEq, Prod.mk.injEq] at h
    obtain ⟨rfl, rfl, rfl, rfl⟩ := h
    replace K := K rfl
    refine ⟨rfl, ?_⟩
    have hpc := hn e' he'
    have hlen : len = 1 := by simpa [xkA] using hc
    rw [hlen] at hd hpc
    have K1 := K ls hl
    rw [hpc] at K1
    refine lv_ineg hx hb hd ?_
    exact K1
  · simp only [Option.some.injEq, Prod.mk.injEq] at h
    obtain ⟨rfl, rfl, rfl, rfl⟩ := h
    replace K := K rfl
    refine ⟨rfl, ?_⟩
    have hpc := hn e' he'
    have hlen : len = 1 := by simpa [xkA] using hc
    rw [hlen] at hd hpc
    have K1 := K ls hl
    rw [hpc] at K1
    refine lv_ishl hx hb hd ?_
    exact K1
  · simp only [Option.some.injEq, Prod.mk.injEq] at h
    obtain ⟨rfl, rfl, rfl, rfl⟩ := h
    replace K := K rfl
    refine ⟨rfl, ?_⟩
    have hpc := hn e' he'
    have hlen : len = 1 := by simpa [xkA] using hc
    rw [hlen] at hd hpc
    have K1 := K ls hl
    rw [hpc] at K1
    refine lv_ishr hx hb hd ?_
    exact K1
  · simp only [Option.some.injEq, Prod.mk.injEq] at h
    obtain ⟨rfl, rfl, rfl, rfl⟩ := h
    replace K := K rfl
    refine ⟨rfl, ?_⟩
    have hpc := hn e' he'
    have hlen : len = 1 := by simpa [xkA] using hc
    rw [hlen] at hd hpc
    have K1 := K ls hl
    rw [hpc] at K1
    refine lv_ladd hx hb hd ?_
    exact K1
  · simp only [Option.some.injEq, Prod.mk.injEq] at h
    obtain ⟨rfl, rfl, rfl, rfl⟩ := h
    replace K := K rfl
    refine ⟨rfl, ?_⟩
    have hpc := hn e' he'
    have hlen : len = 1 := by simpa [xkA] using hc
    rw [hlen] at hd hpc
    have K1 := K ls hl
    rw [hpc] at K1
    refine lv_lsub hx hb hd ?_
    exact K1
  · simp only [Option.some.injEq, Prod.mk.injEq] at h
    obtain ⟨rfl, rfl, rfl, rfl⟩ := h
    replace K := K rfl
    refine ⟨rfl, ?_⟩
    have hpc := hn e' he'
    have hlen : len = 1 := by simpa [xkA] using hc
    rw [hlen] at hd hpc
    have K1 := K ls hl
    rw [hpc] at K1
    refine lv_lmul hx hb hd ?_
    exact K1
  · simp only [Option.some.injEq, Prod.mk.injEq] at h
    obtain ⟨rfl, rfl, rfl, rfl⟩ := h
    replace K := K rfl
    refine ⟨rfl, ?_⟩
    have hpc := hn e' he'
    have hlen : len = 1 := by simpa [xkA] using hc
    rw [hlen] at hd hpc
    have K1 := K ls hl
    rw [hpc] at K1
    refine lv_lshl hx hb hd rfl ?_
    exact K1
  · simp only [Option.some.injEq, Prod.mk.injEq] at h
    obtain ⟨rfl, rfl, rfl, rfl⟩ := h
    replace K := K rfl
    refine ⟨rfl, ?_⟩
    have hpc := hn e' he'
    have hlen : len = 1 := by simpa [xkA] using hc
    rw [hlen] at hd hpc
    have K1 := K ls hl
    rw [hpc] at K1
    refine W.lcmp hx hb hd ?_
    exact K1
  · simp only [Option.some.injEq, Prod.mk.injEq] at h
    obtain ⟨rfl, rfl, rfl, rfl⟩ := h
    replace K := K rfl
    refine ⟨rfl, ?_⟩
    have hpc := hn e' he'
    have hlen : len = 1 := by simpa [xkA] using hc
    rw [hlen] at hd hpc
    have K1 := K ls hl
    rw [hpc] at K1
    refine lv_i2l hx hb hd rfl ?_
    exact K1
  · simp only [Option.some.injEq, Prod.mk.injEq] at h
    obtain ⟨rfl, rfl, rfl, rfl⟩ := h
    replace K := K rfl
    refine ⟨rfl, ?_⟩
    have hpc := hn e' he'
    have hlen : len = 1 := by simpa [xkA] using hc
    rw [hlen] at hd hpc
    have K1 := K ls hl
    rw [hpc] at K1
    refine lv_i2c hx hb hd rfl ?_
    exact K1
  · simp only [Option.some.injEq, Prod.mk.injEq] at h
    obtain ⟨rfl, rfl, rfl, rfl⟩ := h
    replace K := K rfl
    refine ⟨rfl, ?_⟩
    have hpc := hn e' he'
    have hlen : len = 1 := by simpa [xkA] using hc
    rw [hlen] at hd hpc
    have K1 := K ls hl
    rw [hpc] at K1
    refine lv_i2d hx hb hd ?_
    exact K1
  · simp only [Option.some.injEq, Prod.mk.injEq] at h
    obtain ⟨rfl, rfl, rfl, rfl⟩ := h
    replace K := K rfl
    refine ⟨rfl, ?_⟩
    have hpc := hn e' he'
    have hlen : len = 1 := by simpa [xkA] using hc
    rw [hlen] at hd hpc
    have K1 := K ls hl
    rw [hpc] at K1
    refine lv_d2l hx hb hd ?_
    exact K1
  · split at h
    · rename_i hne
      simp only [Option.some.injEq, Prod.mk.injEq] at h
      obtain ⟨rfl, rfl, rfl, rfl⟩ := h
      replace K := K rfl
      refine ⟨rfl, ?_⟩
      have hpc := hn e' he'
      have hlen : len = 1 := by simpa [xkA] using hc
      rw [hlen] at hd hpc
      have K1 := K ls hl
      rw [hpc] at K1
      exact lv_dsub hx hb hd hne K1
    · exact absurd h (by simp)
  · split at h
    · rename_i hne
      simp only [Option.some.injEq, Prod.mk.injEq] at h
      obtain ⟨rfl, rfl, rfl, rfl⟩ := h
      replace K := K rfl
      refine ⟨rfl, ?_⟩
      have hpc := hn e' he'
      have hlen : len = 1 := by simpa [xkA] using hc
      rw [hlen] at hd hpc
      have K1 := K ls hl
      rw [hpc] at K1
      exact lv_dmul hx hb hd hne K1
    · exact absurd h (by simp)
  · split at h
    · rename_i hne
      simp only [Option.some.injEq, Prod.mk.injEq] at h
      obtain ⟨rfl, rfl, rfl, rfl⟩ := h
      replace K := K rfl
      refine ⟨rfl, ?_⟩
      have hpc := hn e' he'
      have hlen : len = 1 := by simpa [xkA] using hc
      rw [hlen] at hd hpc
      have K1 := K ls hl
      rw [hpc] at K1
      exact lv_ddiv hx hb hd hne K1
    · exact absurd h (by simp)
  · simp only [Option.some.injEq, Prod.mk.injEq] at h
    obtain ⟨rfl, rfl, rfl, rfl⟩ := h
    replace K := K rfl
    refine ⟨rfl, ?_⟩
    have hpc := hn e' he'
    have hlen : len = 1 := by simpa [xkA] using hc
    rw [hlen] at hd hpc
    have K1 := K ls hl
    rw [hpc] at K1
    refine lv_dcmp hx hb hd ?_
    exact K1
  · split at h
    · rename_i hne
      simp only [Option.some.injEq, Prod.mk.injEq] at h
      obtain ⟨rfl, rfl, rfl, rfl⟩ := h
      replace K := K rfl
      refine ⟨rfl, ?_⟩
      have hpc := hn e' he'
      have hlen : len = 1 := by simpa [xkA] using hc
      rw [hlen] at hd hpc
      have K1 := K ls hl
      rw [hpc] at K1
      exact lv_dup hx hb hd (by rw [xv_cat]; exact hne) K1
    · exact absurd h (by simp)
  · split at h
    · rename_i hne
      simp only [Option.some.injEq, Prod.mk.injEq] at h
      obtain ⟨rfl, rfl, rfl, rfl⟩ := h
      replace K := K rfl
      refine ⟨rfl, ?_⟩
      have hpc := hn e' he'
      have hlen : len = 1 := by simpa [xkA] using hc
      rw [hlen] at hd hpc
      have K1 := K ls hl
      rw [hpc] at K1
      exact lv_pop hx hb hd (by rw [xv_cat]; exact hne) K1
    · exact absurd h (by simp)
  · split at h
    · rename_i hne
      simp only [Option.some.injEq, Prod.mk.injEq] at h
      obtain ⟨rfl, rfl, rfl, rfl⟩ := h
      replace K := K rfl
      refine ⟨rfl, ?_⟩
      have hpc := hn e' he'
      have hlen : len = 1 := by simpa [xkA] using hc
      rw [hlen] at hd hpc
      have K1 := K ls hl
      rw [hpc] at K1
      exact lv_dup_x1 hx hb hd (by rw [xv_cat]; exact hne.1) (by rw [xv_cat]; exact hne.2) K1
    · exact absurd h (by simp)
  · split at h
    · rename_i hne
      simp only [Option.some.injEq, Prod.mk.injEq] at h
      obtain ⟨rfl, rfl, rfl, rfl⟩ := h
      replace K := K rfl
      refine ⟨rfl, ?_⟩
      have hpc := hn e' he'
      have hlen : len = 1 := by simpa [xkA] using hc
      rw [hlen] at hd hpc
      have K1 := K ls hl
      rw [hpc] at K1
      exact lv_dup2_11 hx hb hd (by rw [xv_cat]; exact hne.1) (by rw [xv_cat]; exact hne.2) K1
    · exact absurd h (by simp)
  · rename_i cnd off x st2
    simp only [xkA, Bool.and_eq_true, beq_iff_eq] at hc
    obtain ⟨hlen, hto⟩ := hc
    rw [hlen] at hd hn
    unfold xjmp at h
    split at h
    · rename_i hcd
      simp only [Option.some.injEq, Prod.mk.injEq] at h
      obtain ⟨rfl, rfl, rfl, rfl⟩ := h
      replace K := K rfl
      refine ⟨rfl, ?_⟩
      have ht := xto_at hto he'
      have K1 := K ls hl
      cases cnd with
      | eq => exact lv_if_eq hx hb hd ht (fun _ => K1) (fun q => absurd (of_decide_eq_true hcd) q)
      | ne => exact lv_if_ne hx hb hd ht (fun _ => K1) (fun q => absurd q (of_decide_eq_true hcd))
      | lt => exact lv_if_lt hx hb hd ht (fun _ => K1) (fun q => absurd (of_decide_eq_true hcd) q)
      | ge => exact lv_if_ge hx hb hd ht (fun _ => K1) (fun q => absurd (of_decide_eq_true hcd) q)
      | gt => exact lv_if_gt hx hb hd ht (fun _ => K1) (fun q => absurd (of_decide_eq_true hcd) q)
      | le => exact lv_if_le hx hb hd ht (fun _ => K1) (fun q => absurd (of_decide_eq_true hcd) q)
    · rename_i hcd
      simp only [Option.some.injEq, Prod.mk.injEq] at h
      obtain ⟨rfl, rfl, rfl, rfl⟩ := h
      replace K := K rfl
      refine ⟨rfl, ?_⟩
      have hpc := hn e' he'
      have K1 := K ls hl
      rw [hpc] at K1
      obtain ⟨tg, htg⟩ : ∃ tg : Nat, (pc : Int) + off = (tg : Int) := xto_ex hto
      cases cnd with
      | eq => exact lv_if_eq hx hb hd htg (fun q => absurd (decide_eq_true q) hcd) (fun _ => K1)
      | ne => exact lv_if_ne hx hb hd htg (fun q => absurd (decide_eq_true q) hcd) (fun _ => K1)
      | lt => exact lv_if_lt hx hb hd htg (fun q => absurd (decide_eq_true q) hcd) (fun _ => K1)
      | ge => exact lv_if_ge hx hb hd htg (fun q => absurd (decide_eq_true q) hcd) (fun _ => K1)
      | gt => exact lv_if_gt hx hb hd htg (fun q => absurd (decide_eq_true q) hcd) (fun _ => K1)
      | le => exact lv_if_le hx hb hd htg (fun q => absurd (decide_eq_true q) hcd) (fun _ => K1)
  · rename_i cnd off y x st2
    simp only [xkA, Bool.and_eq_true, beq_iff_eq] at hc
    obtain ⟨hlen, hto⟩ := hc
    rw [hlen] at hd hn
    unfold xjmp at h
    split at h
    · rename_i hcd
      simp only [Option.some.injEq, Prod.mk.injEq] at h
      obtain ⟨rfl, rfl, rfl, rfl⟩ := h
      replace K := K rfl
      refine ⟨rfl, ?_⟩
      have ht := xto_at hto he'
      have K1 := K ls hl
      cases cnd with
      | eq => exact lv_icmp_eq hx hb hd ht (fun _ => K1) (fun q => absurd (of_decide_eq_true hcd) q)
      | ne => exact lv_icmp_ne hx hb hd ht (fun _ => K1) (fun q => absurd q (of_decide_eq_true hcd))
      | lt => exact lv_icmp_lt hx hb hd ht (fun _ => K1) (fun q => absurd (of_decide_eq_true hcd) q)
      | ge => exact lv_icmp_ge hx hb hd ht (fun _ => K1) (fun q => absurd (of_decide_eq_true hcd) q)
      | gt => exact lv_icmp_gt hx hb hd ht (fun _ => K1) (fun q => absurd (of_decide_eq_true hcd) q)
      | le => exact lv_icmp_le hx hb hd ht (fun _ => K1) (fun q => absurd (of_decide_eq_true hcd) q)
    · rename_i hcd
      simp only [Option.some.injEq, Prod.mk.injEq] at h
      obtain ⟨rfl, rfl, rfl, rfl⟩ := h
      replace K := K rfl
      refine ⟨rfl, ?_⟩
      have hpc := hn e' he'
      have K1 := K ls hl
      rw [hpc] at K1
      obtain ⟨tg, htg⟩ : ∃ tg : Nat, (pc : Int) + off = (tg : Int) := xto_ex hto
      cases cnd with
      | eq => exact lv_icmp_eq hx hb hd htg (fun q => absurd (decide_eq_true q) hcd) (fun _ => K1)
      | ne => exact lv_icmp_ne hx hb hd htg (fun q => absurd (decide_eq_true q) hcd) (fun _ => K1)
      | lt => exact lv_icmp_lt hx hb hd htg (fun q => absurd (decide_eq_true q) hcd) (fun _ => K1)
      | ge => exact lv_icmp_ge hx hb hd htg (fun q => absurd (decide_eq_true q) hcd) (fun _ => K1)
      | gt => exact lv_icmp_gt hx hb hd htg (fun q => absurd (decide_eq_true q) hcd) (fun _ => K1)
      | le => exact lv_icmp_le hx hb hd htg (fun q => absurd (decide_eq_true q) hcd) (fun _ => K1)
  · simp only [Option.some.injEq, Prod.mk.injEq] at h
    obtain ⟨rfl, rfl, rfl, rfl⟩ := h
    replace K := K rfl
    refine ⟨rfl, ?_⟩
    simp only [xkA, Bool.and_eq_true, beq_iff_eq] at hc
    obtain ⟨hlen, hto⟩ := hc
    rw [hlen] at hd
    exact lv_goto hx hb hd (xto_at hto he') (K ls hl)
  · simp only [xkA, Bool.and_eq_true, decide_eq_true_eq] at hc
    obtain ⟨⟨hto, hsz⟩, hall⟩ := hc
    split at h
    · rename_i hcd
      simp only [Option.some.injEq, Prod.mk.injEq] at h
      obtain ⟨rfl, rfl, rfl, rfl⟩ := h
      replace K := K rfl
      refine ⟨rfl, ?_⟩
      exact lv_tableOut hx hb hd hcd (xto_at hto he') (K ls hl)
    · rename_i hcd
      simp only [Option.some.injEq, Prod.mk.injEq] at h
      obtain ⟨rfl, rfl, rfl, rfl⟩ := h
      replace K := K rfl
      refine ⟨rfl, ?_⟩
      rename_i lo hi offs x _
      have h1 : ¬ x.toInt < lo := fun q => hcd (Or.inl q)
      have h2 : ¬ hi < x.toInt := fun q => hcd (Or.inr q)
      have h3 : (x.toInt - lo).toNat < offs.size := by rw [hsz]; omega
      have h4 := List.all_eq_true.mp hall _ (List.mem_range.mpr h3)
      rw [Array.getElem?_eq_getElem h3] at h4
      exact lv_tableIn hx hb hd h1 h2 (Array.getElem?_eq_getElem h3) (xto_at h4 he') (K ls hl)
  · exact absurd h (by simp)
end SA
end
section
/-! The heap: what the small machine's cells say of the real ones. -/
def xObjAt (s0 : State) (adc : Nat → Option Nat) (ci : Nat) (fs : List Value) (cell : Cell) : Prop := s0.vm.findClass (xcl ci).1 = some cell.cls ∧ cell.vm ≠ .unknown ∧ cell.vm.isStatics = false ∧ ∀ (k : Nat) (v : Value), fs[k]? = some v → k < (xcl ci).2.2 ∧ ∃ (cf : ClassId) (kf : Class) (fi : Nat) (fd : Field), s0.fieldFound? ((xcl ci).2.1 k).1 ((xcl ci).2.1 k).2.1 ((xcl ci).2.1 k).2.2.1 = some (cf, kf, fi, fd) ∧ fd.isStatic = false ∧ cell.slots[fd.slot]? = some (xv s0 adc v)
def xArrAt (s0 : State) (adc : Nat → Option Nat) (ty : FieldType) (n : Nat) (f : Nat → Value) (cell : Cell) : Prop := s0.isArrayOf cell ty ∧ cell.vm ≠ .unknown ∧ n ≤ cell.slots.size ∧ cell.slots.size.toInt32 = Int32.ofNat n ∧ ∀ j : Nat, j < n → cell.slots[j]? = some (xv s0 adc (f j))
def xWk (s0 : State) (adc : Nat → Option Nat) (c : xC) (cell : Cell) : Prop := match c with
  | .inl a => xArrAt s0 adc a.1 a.2.1 a.2.2 cell
  | .inr o => xObjAt s0 adc o.1 o.2 cell
def xSt (s0 : State) (adc : Nat → Option Nat) (c : xC) (cell : Cell) : Prop := match c with
  | .inl a => ∃ cA : ClassId, ArrOfT s0 cA a.1 ∧ va_RA s0 cA a.1 ∧ cell = arrV cA a.2.1 (fun j => xv s0 adc (a.2.2 j))
  | .inr o => o.1 < 10 ∧ cell.vm = .none ∧ xObjAt s0 adc o.1 o.2 cell
theorem xSt.wk {s0 : State} {adc : Nat → Option Nat} {c : xC} {cell : Cell} (h : xSt s0 adc c cell) : xWk s0 adc c cell := by
  cases c with
  | inl a =>
    obtain ⟨cA, h1, -, rfl⟩ := h
    show xArrAt _ _ _ _ _ _
    exact ⟨h1 _ _, (fun q => nomatch q), Nat.le_of_eq (arrV_size _ _ _).symm, congrArg Nat.toInt32 (arrV_size _ _ _), fun j hj => arrV_read _ _ hj⟩
  | inr o => exact h.2.2
/-- the cells that were there at the start -/
def xcst (L : Nat) (xs : Nat → Int32) (k : Nat) : Option xC := match k with
  | 25 => some (.inl (.int, L, fun j => .int (xs j)))
  | 26 => some (.inl (.object "java/lang/Object", 0, fun _ => .null))
  | _ => none
def xRel (s0 : State) (adc : Nat → Option Nat) (L : Nat) (xs : Nat → Int32) (hp : xH) (H : Heap) : Prop := xNC ≤ hp.1 ∧ H.size + xNC = s0.heap.size + hp.1 ∧ (∀ q : Nat, q < s0.heap.size → H[q]? = s0.heap[q]?) ∧ (∀ k : Nat, k < xNC → hp.2.2 k = xcst L xs k) ∧
  ∀ (k : Nat) (c : xC), xNC ≤ k → hp.2.2 k = some c → k < hp.1 ∧ ∃ cell : Cell, H[s0.heap.size + (k - xNC)]? = some cell ∧ xSt s0 adc c cell
/-- what is known of the start: the words, the constants, the static fields -/
def xGl (s0 : State) (b0 : Nat) (adc : Nat → Option Nat) (L : Nat) (xs : Nat → Int32) : Prop := xWd s0 b0 ∧
  (∀ (k : Nat) (c : xC), k < xNC → xcst L xs k = some c → ∃ (a : Nat) (cell : Cell), adc k = some a ∧ a < s0.heap.size ∧ s0.heap[a]? = some cell ∧ xWk s0 adc c cell) ∧
  (∀ a b : Nat, a < 8 → b < 8 → adc a = adc b → a = b) ∧
  (∀ q ∈ xstL, va_Z q.1 q.2.1 q.2.2.1 (xv s0 adc q.2.2.2) (fun q : Nat => s0.heap.size ≤ q) s0 s0.heap)
section SB
variable {s0 : State} {b0 : Nat} {adc : Nat → Option Nat} {L : Nat} {xs : Nat → Int32} {hp : xH} {H : Heap}
theorem xRel.wk (hG : xGl s0 b0 adc L xs) (hR : xRel s0 adc L xs hp H) {k : Nat} {c : xC} (h : hp.2.2 k = some c) : ∃ (a : Nat) (cell : Cell), xad s0 adc k = some a ∧ H[a]? = some cell ∧ xWk s0 adc c cell := by
  obtain ⟨r1, r2, r3, r4, r5⟩ := hR
  by_cases hk : k < xNC
  · rw [r4 k hk] at h
    obtain ⟨a, cell, h1, h2, h3, h4⟩ := hG.2.1 k c hk h
    exact ⟨a, cell, by rw [xad, if_pos hk]; exact h1, by rw [r3 a h2]; exact h3, h4⟩
  · obtain ⟨-, cell, h2, h3⟩ := r5 k c (by omega) h
    exact ⟨_, cell, by rw [xad, if_neg hk], h2, h3.wk⟩
/-- a new cell's address -/
theorem xRel.new (hR : xRel s0 adc L xs hp H) : xad s0 adc hp.1 = some H.size := by
  obtain ⟨r1, r2, -⟩ := hR
  rw [xad, if_neg (by omega)]
  congr 1
  omega
theorem xRel.put {H1 : Heap} (hR : xRel s0 adc L xs hp H) {k : Nat} {c0 c : xC} (hk : xNC ≤ k) (h0 : hp.2.2 k = some c0) {cell : Cell} (e : H1[s0.heap.size + (k - xNC)]? = some cell) (hc : xSt s0 adc c cell) (z : H1.size = H.size) (oq : ∀ q : Nat, q ≠ s0.heap.size + (k - xNC) → H1[q]? = H[q]?) : xRel s0 adc L xs (xput hp k c) H1 := by
  obtain ⟨r1, r2, r3, r4, r5⟩ := hR
  refine ⟨r1, by rw [z]; exact r2, fun q hq => by rw [oq q (by omega)]; exact r3 q hq, fun k' h' => ?_, fun k' c' h' hc' => ?_⟩
  · show xup hp.2.2 k c k' = _
    rw [xup, if_neg (by omega)]
    exact r4 k' h'
  · have hc'' : xup hp.2.2 k c k' = some c' := hc'
    by_cases hkk : k' = k
    · subst hkk
      rw [xup, if_pos rfl] at hc''
      cases hc''
      exact ⟨(r5 k' c0 h' h0).1, cell, e, hc⟩
    · rw [xup, if_neg hkk] at hc''
      obtain ⟨g1, cell', g2, g3⟩ := r5 k' c' h' hc''
      exact ⟨g1, cell', by rw [oq _ (by omega)]; exact g2, g3⟩
theorem xRel.push {H1 : Heap} (hR : xRel s0 adc L xs hp H) {c : xC} {w : Nat} {cell : Cell} (e : H1[H.size]? = some cell) (hc : xSt s0 adc c cell) (z : H1.size = H.size + 1) (oq : ∀ q : Nat, q < H.size → H1[q]? = H[q]?) : xRel s0 adc L xs (xnew hp c w) H1 := by
  obtain ⟨r1, r2, r3, r4, r5⟩ := hR
  have hn : s0.heap.size ≤ H.size := by omega
  refine ⟨Nat.le_succ_of_le r1, by show _ = _ + (hp.1 + 1); omega, fun q hq => by rw [oq q (by omega)]; exact r3 q hq, fun k' h' => ?_, fun k' c' h' hc' => ?_⟩
  · show xup hp.2.2 hp.1 c k' = _
    rw [xup, if_neg (by omega)]
    exact r4 k' h'
  · have hc'' : xup hp.2.2 hp.1 c k' = some c' := hc'
    show k' < hp.1 + 1 ∧ _
    by_cases hkk : k' = hp.1
    · subst hkk
      rw [xup, if_pos rfl] at hc''
      cases hc''
      exact ⟨by omega, cell, by rw [show s0.heap.size + (hp.1 - xNC) = H.size by omega]; exact e, hc⟩
    · rw [xup, if_neg hkk] at hc''
      obtain ⟨g1, cell', g2, g3⟩ := r5 k' c' h' hc''
      exact ⟨by omega, cell', by rw [oq _ (Array.getElem?_eq_some_iff.mp g2).1]; exact g2, g3⟩
theorem xRel.bare {H1 : Heap} (hR : xRel s0 adc L xs hp H) {w : Nat} (z : H1.size = H.size + 1) (oq : ∀ q : Nat, q < H.size → H1[q]? = H[q]?) : xRel s0 adc L xs (xbare hp w) H1 := by
  obtain ⟨r1, r2, r3, r4, r5⟩ := hR
  have hn : s0.heap.size ≤ H.size := by omega
  refine ⟨Nat.le_succ_of_le r1, by show _ = _ + (hp.1 + 1); omega, fun q hq => by rw [oq q (by omega)]; exact r3 q hq, r4, fun k' c' h' hc' => ?_⟩
  obtain ⟨g1, cell', g2, g3⟩ := r5 k' c' h' hc'
  exact ⟨Nat.lt_succ_of_lt g1, cell', by rw [oq _ (Array.getElem?_eq_some_iff.mp g2).1]; exact g2, g3⟩
end SB
section SC
variable {p : Program} {l : Launch} {e : Env} {R : Room} {s : State} {m : MethodId} {args : Array Value} {below : List Frame} {meth : Method} {c : Code} {H : Heap} {locs : List Loc} {cells slots : Nat} {Q : State → Prop}
variable {s0 : State} {b0 : Nat} {adc : Nat → Option Nat} {cc : ByteArray} {own : String} {L : Nat} {xs : Nat → Int32} {hp : xH}
def xLk (s0 : State) (locs : List Loc) : Prop := ∀ q ∈ locs, s0.heap.size ≤ q.base
theorem xLk.add (h : xLk s0 locs) {a k : Nat} (ha : s0.heap.size ≤ a) : xLk s0 (locs ++ [⟨a, k⟩]) := by
  intro q hq
  rcases List.mem_append.mp hq with h1 | h1
  · exact h q h1
  · rw [List.mem_singleton.mp h1]
    exact ha
theorem xfound (hW : s0.WarmedH s.vm) {o n d : String} {cf fi : Nat} {kf : Class} {fd : Field} (h : s0.fieldFound? o n d = some (cf, kf, fi, fd)) : ∃ kf', s.fieldFound? o n d = some (cf, kf', fi, fd) := by
  obtain ⟨k', hi', -⟩ := State.fieldFound?_setVm hW.alike h
  exact ⟨k', hi'⟩
/-- the check of a field's link, used -/
theorem xkF_use (hts : xWd s0 b0) (hW : s0.WarmedH s.vm) {x : Nat} {ax : List Nat} {b : Bool} (h : xkF own x ax = some b) {cf fi : Nat} {kf : Class} {fd : Field} (hf : s0.fieldFound? ((xcl (ax.headD 0)).2.1 (ax.getD 1 0)).1 ((xcl (ax.headD 0)).2.1 (ax.getD 1 0)).2.1 ((xcl (ax.headD 0)).2.1 (ax.getD 1 0)).2.2.1 = some (cf, kf, fi, fd)) :
    ax.getD 1 0 < (xcl (ax.headD 0)).2.2 ∧ ∃ (ref n d : String) (kf' : Class), s.fieldFound? ref n d = some (cf, kf', fi, fd) ∧ ((b = false ∧ (Jvm.Cond.fieldLink own x ref n d).before args s = true) ∨ (b = true ∧ ∃ host, (Jvm.Cond.fieldLinkNest own x ref n d host).before args s = true)) := by
  unfold xkF at h
  split at h
  · rename_i b1 r n d hl
    dsimp only at h
    split at h
    · rename_i hc
      cases h
      obtain ⟨hlt, rfl, rfl, hr⟩ := hc
      refine ⟨hlt, ?_⟩
      have hff : ∃ kf', s.fieldFound? r ((xcl (ax.headD 0)).2.1 (ax.getD 1 0)).2.1 ((xcl (ax.headD 0)).2.1 (ax.getD 1 0)).2.2.1 = some (cf, kf', fi, fd) := by
        obtain ⟨kf', h1⟩ := xfound hW hf
        rcases hr with rfl | hr
        · exact ⟨kf', h1⟩
        · exact ⟨kf', u_same (args := args) (xwd hts hW hr rfl) _ h1⟩
      obtain ⟨kf', h1⟩ := hff
      refine ⟨_, _, _, kf', h1, ?_⟩
      unfold xfl at hl
      split at hl
      · rename_i hw
        split at hl
        · rename_i ho
          obtain ⟨rfl, rfl⟩ := ho
          cases hl
          exact Or.inl ⟨rfl, xwd hts hW hw rfl⟩
        · exact absurd hl (by simp)
      · rename_i hw
        split at hl
        · rename_i ho
          obtain ⟨rfl, rfl⟩ := ho
          cases hl
          exact Or.inr ⟨rfl, _, xwdF hts hW hw⟩
        · exact absurd hl (by simp)
      · exact absurd hl (by simp)
    · exact absurd h (by simp)
  · exact absurd h (by simp)
theorem S_getf (hx : p.tables.exec = Jvm.exec) (hb : c.code = cc) (hown : s.vm.findClass own = some m.cls) (hW : s0.WarmedH s.vm) (hG : xGl s0 b0 adc L xs) (hR : xRel s0 adc L xs hp H) {x pc : Nat} {ax : List Nat} {b : Bool} (h : xkF own x ax = some b) {a : Nat} {fs : List Value} {v : Value} (ha : hp.2.2 a = some (.inr (ax.headD 0, fs))) (hv : fs[ax.getD 1 0]? = some v)
    {ls : Array Slot} {rest : List Value} (hd : decode cc pc = .ok (.getfield x, 3)) (K : W p l e R s m args below meth c H locs cells slots Q (F0 m (pc + 3) ls (xv s0 adc v :: rest))) : W p l e R s m args below meth c H locs cells slots Q (F0 m pc ls (xv s0 adc (.ref a) :: rest)) := by
  obtain ⟨ar, cell, h1, h2, h3⟩ := hR.wk hG ha
  have h3 : xObjAt s0 adc (ax.headD 0) fs cell := h3
  obtain ⟨-, hk, -, h4⟩ := h3
  obtain ⟨-, cf, kf, fi, fd, h5, h6, h7⟩ := h4 _ _ hv
  obtain ⟨-, ref, n, d, kf', h8, h9⟩ := xkF_use (args := args) hG.1 hW h h5
  show W p l e R s m args below meth c H locs cells slots Q (F0 m pc ls (va_rf (xad s0 adc a) :: rest))
  rw [h1]
  rcases h9 with ⟨-, h9⟩ | ⟨-, host, h9⟩
  · exact W.getf hx hb hown h9 h8 h6 h2 hk h7 rfl rfl hd K
  · exact va_Wgetf hx hb hown h9 h8 h6 h2 hk h7 rfl rfl hd K
end SC
end
section
/-! Fields and arrays are written, cells are made. -/
section SD
variable {p : Program} {l : Launch} {e : Env} {R : Room} {s : State} {m : MethodId} {args : Array Value} {below : List Frame} {meth : Method} {c : Code} {H : Heap} {locs : List Loc} {cells slots : Nat} {Q : State → Prop}
variable {s0 : State} {b0 : Nat} {adc : Nat → Option Nat} {cc : ByteArray} {own : String} {L : Nat} {xs : Nat → Int32} {hp : xH}
theorem xfit_ok {d : String} {t : Nat} {v : Value} (h1 : xkT d t = true) (h2 : xfit t v = true) : ∃ ty, parseFieldDescriptor d = some ty ∧ narrow ty (xv s0 adc v) = xv s0 adc v ∧ fits ty (xv s0 adc v) = true := by
  unfold xkT at h1
  split at h1
  · rename_i hd
    cases v <;> first | exact ⟨_, hd, rfl, rfl⟩ | exact absurd h2 (by simp [xfit])
  · rename_i hd
    cases v with
    | int x =>
      have h3 : x = 0 ∨ x = 1 := by simpa [xfit] using h2
      rcases h3 with rfl | rfl <;> exact ⟨_, hd, rfl, rfl⟩
    | _ => exact absurd h2 (by simp [xfit])
  · rename_i hd
    cases v <;> first | exact ⟨_, hd, rfl, rfl⟩ | exact absurd h2 (by simp [xfit])
  · rename_i hd
    refine ⟨_, hd, ?_⟩
    cases v with
    | ref k =>
      have hv : xv s0 adc (.ref k) = va_rf (xad s0 adc k) := rfl
      rw [hv]
      generalize xad s0 adc k = r
      cases r <;> exact ⟨rfl, rfl⟩
    | null => exact ⟨rfl, rfl⟩
    | _ => exact absurd h2 (by simp [xfit])
  · rename_i hd
    refine ⟨_, hd, ?_⟩
    cases v with
    | ref k =>
      have hv : xv s0 adc (.ref k) = va_rf (xad s0 adc k) := rfl
      rw [hv]
      generalize xad s0 adc k = r
      cases r <;> exact ⟨rfl, rfl⟩
    | null => exact ⟨rfl, rfl⟩
    | _ => exact absurd h2 (by simp [xfit])
  · exact absurd h1 (by simp)
/-- what the check of a class gives in a frame -/
theorem xkCl_use (hts : xWd s0 b0) (hW : s0.WarmedH s.vm) {ci : Nat} (h : xkCl ci = true) :
    (∀ k, k < (xcl ci).2.2 → (Jvm.Cond.lays (xcl ci).1 ((xcl ci).2.1 k).1 ((xcl ci).2.1 k).2.1 ((xcl ci).2.1 k).2.2.1).before args s = true ∨ (Jvm.Cond.laysFinal (xcl ci).1 ((xcl ci).2.1 k).1 ((xcl ci).2.1 k).2.1 ((xcl ci).2.1 k).2.2.1).before args s = true) ∧
    (∀ k, k < (xcl ci).2.2 → ((xcl ci).2.1 k).2.2.2 = false → (Jvm.Cond.lays (xcl ci).1 ((xcl ci).2.1 k).1 ((xcl ci).2.1 k).2.1 ((xcl ci).2.1 k).2.2.1).before args s = true) ∧
    (∀ k, k < (xcl ci).2.2 → ((xcl ci).2.1 k).2.2.2 = true → (Jvm.Cond.laysFinal (xcl ci).1 ((xcl ci).2.1 k).1 ((xcl ci).2.1 k).2.1 ((xcl ci).2.1 k).2.2.1).before args s = true) ∧
    (∀ a, a < (xcl ci).2.2 → ∀ b, b < (xcl ci).2.2 → a ≠ b → ((xcl ci).2.1 a).2.1 ≠ ((xcl ci).2.1 b).2.1) ∧
    (∃ n, (Jvm.Cond.instantiable (xcl ci).1 n).before args s = true) ∧
    (∀ k, k < (xcl ci).2.2 → ∃ ty, parseFieldDescriptor ((xcl ci).2.1 k).2.2.1 = some ty ∧ (xdef ci)[k]? = some (defaultValue ty)) ∧ (xdef ci).length = (xcl ci).2.2 := by
  simp only [xkCl, Bool.and_eq_true, decide_eq_true_eq] at h
  obtain ⟨⟨⟨⟨h1, h2⟩, h3⟩, h4⟩, h5⟩ := h
  have hlay : ∀ k, k < (xcl ci).2.2 → (u_lay (xcl ci).1 (xcl ci).2.1 k).before args s = true := by
    intro k hk
    refine xwd hts hW (h1 k hk) ?_
    unfold u_lay
    split <;> rfl
  have hF : ∀ k, k < (xcl ci).2.2 → ((xcl ci).2.1 k).2.2.2 = false → (Jvm.Cond.lays (xcl ci).1 ((xcl ci).2.1 k).1 ((xcl ci).2.1 k).2.1 ((xcl ci).2.1 k).2.2.1).before args s = true := by
    intro k hk hf
    have h6 := hlay k hk
    unfold u_lay at h6
    rwa [if_neg (by rw [hf]; decide)] at h6
  have hT : ∀ k, k < (xcl ci).2.2 → ((xcl ci).2.1 k).2.2.2 = true → (Jvm.Cond.laysFinal (xcl ci).1 ((xcl ci).2.1 k).1 ((xcl ci).2.1 k).2.1 ((xcl ci).2.1 k).2.2.1).before args s = true := by
    intro k hk hf
    have h6 := hlay k hk
    unfold u_lay at h6
    rwa [if_pos hf] at h6
  refine ⟨fun k hk => ?_, hF, hT, h2, ?_, fun k hk => ?_, h5⟩
  · cases hb : ((xcl ci).2.1 k).2.2.2 with
    | false => exact Or.inl (hF k hk hb)
    | true => exact Or.inr (hT k hk hb)
  · split at h3
    · rename_i hw
      have h7 := of_decide_eq_true h3
      subst h7
      exact ⟨_, xwd hts hW hw rfl⟩
    · exact absurd h3 (by simp)
  · obtain ⟨g1, g2⟩ := h4 k hk
    obtain ⟨ty, hty⟩ := Option.isSome_iff_exists.mp g1
    exact ⟨ty, hty, by rw [g2, hty]; rfl⟩
theorem xcls {C : String} {cC : ClassId} (hW : s0.WarmedH s.vm) (h : s0.vm.findClass C = some cC) : s.vm.findClass C = some cC := by
  rw [hW.alike.findClass]
  exact h
theorem xcls' {C : String} {cC : ClassId} (hW : s0.WarmedH s.vm) (h : s.vm.findClass C = some cC) : s0.vm.findClass C = some cC := by
  rw [← hW.alike.findClass]
  exact h
/-- an object's field is written: the picture behind it -/
theorem xObj_set (hts : xWd s0 b0) (hW : s0.WarmedH s.vm) (args : Array Value) {ci : Nat} (hcl : xkCl ci = true) {fs : List Value} {cell : Cell} {k : Nat} {v : Value} (h : xObjAt s0 adc ci fs cell) (hk : k < fs.length) {cf fi : Nat} {kf : Class} {fd : Field} (hf : s0.fieldFound? ((xcl ci).2.1 k).1 ((xcl ci).2.1 k).2.1 ((xcl ci).2.1 k).2.2.1 = some (cf, kf, fi, fd)) (hlt : fd.slot < cell.slots.size) :
    xObjAt s0 adc ci (fs.set k v) (cell.setSlot fd.slot (xv s0 adc v)) := by
  obtain ⟨h1, h2, h3, h4⟩ := h
  obtain ⟨c1, -, -, c4, -, c6, -⟩ := xkCl_use (args := args) hts hW hcl
  refine ⟨h1, h2, h3, fun j w hj => ?_⟩
  have hkN := (h4 k fs[k] (List.getElem?_eq_getElem hk)).1
  by_cases e : k = j
  · subst e
    rw [List.getElem?_set_self hk] at hj
    cases hj
    have hst := (h4 k fs[k] (List.getElem?_eq_getElem hk)).2
    obtain ⟨cf', kf', fi', fd', g1, g2, -⟩ := hst
    cases hf.symm.trans g1
    refine ⟨hkN, cf, kf, fi, fd, hf, g2, ?_⟩
    simp [Cell.setSlot, hlt]
  · rw [List.getElem?_set_ne e] at hj
    obtain ⟨hjN, cf', kf', fi', fd', g1, g2, g3⟩ := h4 j w hj
    refine ⟨hjN, cf', kf', fi', fd', g1, g2, ?_⟩
    obtain ⟨kf1, e1⟩ := xfound hW hf
    obtain ⟨kf2, e2⟩ := xfound hW g1
    obtain ⟨ty1, t1, -⟩ := c6 k hkN
    obtain ⟨ty2, t2, -⟩ := c6 j hjN
    have hne : fd.slot ≠ fd'.slot := u_apart (c1 k hkN) (c1 j hjN) e1 e2 (by
      rw [(State.fieldFound?_type e1 t1).1, (State.fieldFound?_type e2 t2).1]
      exact c4 k hkN j hjN e)
    simp [Cell.setSlot, Array.getElem?_setIfInBounds, hne, g3]
theorem S_putf (hcl : ∀ ci, ci < 10 → xkCl ci = true) (hx : p.tables.exec = Jvm.exec) (hb : c.code = cc) (hown : s.vm.findClass own = some m.cls) (hW : s0.WarmedH s.vm) (hG : xGl s0 b0 adc L xs) (hR : xRel s0 adc L xs hp H) (hl : xLk s0 locs) {x pc : Nat} {ax : List Nat} {b : Bool} (h : xkF own x ax = some b) (hT : xkT ((xcl (ax.headD 0)).2.1 (ax.getD 1 0)).2.2.1 (ax.getD 2 99) = true) (hfin : ((xcl (ax.headD 0)).2.1 (ax.getD 1 0)).2.2.2 = false ∨ (b = false ∧ meth.name = "<init>" ∧ ((xcl (ax.headD 0)).2.1 (ax.getD 1 0)).1 = own))
    {a : Nat} {fs : List Value} {v : Value} (ha : hp.2.2 a = some (.inr (ax.headD 0, fs))) (hn : xNC ≤ a) (hlt : ax.getD 1 0 < fs.length) (hfit : xfit (ax.getD 2 99) v = true)
    {ls : Array Slot} {rest : List Value} (hd : decode cc pc = .ok (.putfield x, 3)) (K : ∀ (H1 : Heap) (locs1 : List Loc), xRel s0 adc L xs (xput hp a (.inr (ax.headD 0, fs.set (ax.getD 1 0) v))) H1 → xLk s0 locs1 → W p l e R s m args below meth c H1 locs1 cells slots Q (F0 m (pc + 3) ls rest)) :
    W p l e R s m args below meth c H locs cells slots Q (F0 m pc ls (xv s0 adc v :: xv s0 adc (.ref a) :: rest)) := by
  obtain ⟨-, cell, h2, h3⟩ := hR.2.2.2.2 a _ hn ha
  have h3 : ax.headD 0 < 10 ∧ cell.vm = .none ∧ xObjAt s0 adc (ax.headD 0) fs cell := h3
  obtain ⟨hci, hvm, hO⟩ := h3
  obtain ⟨hkN, cf, kf, fi, fd, h5, h6, h7⟩ := hO.2.2.2 _ _ (List.getElem?_eq_getElem hlt)
  obtain ⟨hkk, ref, n, d, kf', h8, h9⟩ := xkF_use (args := args) hG.1 hW h h5
  obtain ⟨kf2, h8o⟩ := xfound hW h5
  obtain ⟨c1, c2, c3, -, ⟨nn, c5⟩, -⟩ := xkCl_use (args := args) hG.1 hW (hcl _ hci)
  obtain ⟨cC, kC, i1, i2, i3, -⟩ := Jvm.Cond.instantiable_spec c5
  have hcC : cell.cls = cC := Option.some.inj ((xcls hW hO.1).symm.trans i1)
  obtain ⟨ty, t1, t2, t3⟩ := xfit_ok (s0 := s0) (adc := adc) hT hfit
  have hsz : fd.slot < cell.slots.size := (Array.getElem?_eq_some_iff.mp h7).1
  have hne : s0.heap.size ≤ s0.heap.size + (a - xNC) := Nat.le_add_right _ _
  have hbase : ∀ H' : Heap, H'[s0.heap.size + (a - xNC)]? = some (cell.setSlot fd.slot (xv s0 adc v)) → H'.size = H.size → (∀ q, q ≠ s0.heap.size + (a - xNC) → H'[q]? = H[q]?) → W p l e R s m args below meth c H' (locs ++ [⟨s0.heap.size + (a - xNC), fd.slot⟩]) cells slots Q (F0 m (pc + 3) ls rest) := by
    intro H' e1 e2 e3
    refine K H' _ (hR.put hn ha e1 ?_ e2 e3) (hl.add hne)
    exact ⟨hci, hvm, xObj_set hG.1 hW args (hcl _ hci) hO hlt h5 hsz⟩
  show W p l e R s m args below meth c H locs cells slots Q (F0 m pc ls (xv s0 adc v :: va_rf (xad s0 adc a) :: rest))
  rw [xad, if_neg (by omega)]
  cases hfb : ((xcl (ax.headD 0)).2.1 (ax.getD 1 0)).2.2.2 with
  | false =>
    have hS : k2_Sd s fd cell.cls (xv s0 adc v) := by rw [hcC]; exact u_store i1 i2 i3 (c2 _ hkN hfb) h8o t1 t2 t3
    rcases h9 with ⟨-, h9⟩ | ⟨-, host, h9⟩
    · exact W.putK hx hb ⟨hown, h9, ⟨_, _, _, h8⟩, h6⟩ hS h2 hvm hsz rfl rfl hd hbase
    · exact va_WputK hx hb hown h9 h8 h6 hS h2 hvm hsz rfl rfl hd hbase
  | true =>
    rcases hfin with hfin | ⟨hb0, hin, hdecl⟩
    · rw [hfb] at hfin; cases hfin
    · have hlay := c3 _ hkN hfb
      have hcf : m.cls = cf := by
        obtain ⟨_, _, c', _, _, _, -, -, hf', -, -, -, hown2, -⟩ := Jvm.Cond.laysFinal_spec hlay
        have e1 : c' = cf := by have := h8o.symm.trans hf'; simp at this; exact this.1.symm
        rw [hdecl] at hown2
        rw [← e1]; exact Option.some.inj (hown.symm.trans hown2)
      have hS : narrow fd.type (xv s0 adc v) = xv s0 adc v ∧ s.fitsSlot cell.cls .none fd.slot (xv s0 adc v) = true := by rw [hcC]; exact u_fits i1 i2 i3 (Or.inr hlay) h8o t1 t2 t3
      rcases h9 with ⟨-, h9⟩ | ⟨hbt, -⟩
      · exact W.putFinK hx hb hown h9 h8 h6 hcf hin hS h2 hvm hsz rfl rfl hd hbase
      · rw [hb0] at hbt; cases hbt
end SD
end
section
section SE
variable {p : Program} {l : Launch} {e : Env} {R : Room} {s : State} {m : MethodId} {args : Array Value} {below : List Frame} {meth : Method} {c : Code} {H : Heap} {locs : List Loc} {cells slots : Nat} {Q : State → Prop}
variable {s0 : State} {b0 : Nat} {adc : Nat → Option Nat} {cc : ByteArray} {own : String} {L : Nat} {xs : Nat → Int32} {hp : xH}
variable {pc : Nat} {ls : Array Slot} {rest : List Value} {a n : Nat} {f : Nat → Value} {ty : FieldType}
theorem xArr (hG : xGl s0 b0 adc L xs) (hW : s0.WarmedH s.vm) (hR : xRel s0 adc L xs hp H) (ha : hp.2.2 a = some (.inl (ty, n, f))) : ∃ (ar : Nat) (cell : Cell), xv s0 adc (.ref a) = .ref ar ∧ H[ar]? = some cell ∧ s.isArrayOf cell ty ∧ cell.vm ≠ .unknown ∧ (n ≤ cell.slots.size ∧ cell.slots.size.toInt32 = Int32.ofNat n) ∧ ∀ j : Nat, j < n → cell.slots[j]? = some (xv s0 adc (f j)) := by
  obtain ⟨ar, cell, h1, h2, h3⟩ := hR.wk hG ha
  have h3 : xArrAt s0 adc ty n f cell := h3
  obtain ⟨g1, g2, g3, g5, g4⟩ := h3
  refine ⟨ar, cell, ?_, h2, State.isArrayOf_alike hW.alike g1, g2, ⟨g3, g5⟩, g4⟩
  exact congrArg va_rf h1
theorem xin_use {i : Int32} (h : xin i n = true) : ¬ (i < 0 ∨ n ≤ i.toNatClampNeg) := of_decide_eq_true h
theorem S_alen (hx : p.tables.exec = Jvm.exec) (hb : c.code = cc) (hG : xGl s0 b0 adc L xs) (hW : s0.WarmedH s.vm) (hR : xRel s0 adc L xs hp H) (ha : hp.2.2 a = some (.inl (ty, n, f))) (hd : decode cc pc = .ok (.arraylength, 1)) (K : W p l e R s m args below meth c H locs cells slots Q (F0 m (pc + 1) ls (.int (Int32.ofNat n) :: rest))) : W p l e R s m args below meth c H locs cells slots Q (F0 m pc ls (xv s0 adc (.ref a) :: rest)) := by
  obtain ⟨ar, cell, h1, h2, h3, h4, h5, h6⟩ := xArr hG hW hR ha
  rw [h1]
  exact W.alen (n := Int32.ofNat n) hx hb h2 h3 h5.2 rfl rfl hd K
theorem S_iald (hx : p.tables.exec = Jvm.exec) (hb : c.code = cc) (hG : xGl s0 b0 adc L xs) (hW : s0.WarmedH s.vm) (hR : xRel s0 adc L xs hp H) (ha : hp.2.2 a = some (.inl (.int, n, f))) {i : Int32} (hi : xin i n = true) (hd : decode cc pc = .ok (.iaload, 1)) (K : W p l e R s m args below meth c H locs cells slots Q (F0 m (pc + 1) ls (xv s0 adc (f i.toNatClampNeg) :: rest))) : W p l e R s m args below meth c H locs cells slots Q (F0 m pc ls (.int i :: xv s0 adc (.ref a) :: rest)) := by
  obtain ⟨ar, cell, h1, h2, h3, h4, h5, h6⟩ := xArr hG hW hR ha
  have hi' := xin_use hi
  rw [h1]
  exact W.iald hx hb h2 h3 h4 (fun h => hi' (h.imp id (fun h => Nat.le_trans h5.1 h))) (h6 _ (by omega)) rfl rfl hd K
theorem S_lald (hx : p.tables.exec = Jvm.exec) (hb : c.code = cc) (hG : xGl s0 b0 adc L xs) (hW : s0.WarmedH s.vm) (hR : xRel s0 adc L xs hp H) (ha : hp.2.2 a = some (.inl (.long, n, f))) {i : Int32} (hi : xin i n = true) (hd : decode cc pc = .ok (.laload, 1)) (K : W p l e R s m args below meth c H locs cells slots Q (F0 m (pc + 1) ls (xv s0 adc (f i.toNatClampNeg) :: rest))) : W p l e R s m args below meth c H locs cells slots Q (F0 m pc ls (.int i :: xv s0 adc (.ref a) :: rest)) := by
  obtain ⟨ar, cell, h1, h2, h3, h4, h5, h6⟩ := xArr hG hW hR ha
  have hi' := xin_use hi
  rw [h1]
  exact W.lald hx hb h2 h3 h4 (fun h => hi' (h.imp id (fun h => Nat.le_trans h5.1 h))) (h6 _ (by omega)) rfl rfl hd K
theorem S_bald (hx : p.tables.exec = Jvm.exec) (hb : c.code = cc) (hG : xGl s0 b0 adc L xs) (hW : s0.WarmedH s.vm) (hR : xRel s0 adc L xs hp H) (ha : hp.2.2 a = some (.inl (.byte, n, f))) {i : Int32} (hi : xin i n = true) (hd : decode cc pc = .ok (.baload, 1)) (K : W p l e R s m args below meth c H locs cells slots Q (F0 m (pc + 1) ls (xv s0 adc (f i.toNatClampNeg) :: rest))) : W p l e R s m args below meth c H locs cells slots Q (F0 m pc ls (.int i :: xv s0 adc (.ref a) :: rest)) := by
  obtain ⟨ar, cell, h1, h2, h3, h4, h5, h6⟩ := xArr hG hW hR ha
  have hi' := xin_use hi
  rw [h1]
  exact W.bald hx hb h2 h3 h4 (fun h => hi' (h.imp id (fun h => Nat.le_trans h5.1 h))) (h6 _ (by omega)) rfl rfl hd K
theorem S_aald (hx : p.tables.exec = Jvm.exec) (hb : c.code = cc) (hG : xGl s0 b0 adc L xs) (hW : s0.WarmedH s.vm) (hR : xRel s0 adc L xs hp H) {C : String} (ha : hp.2.2 a = some (.inl (.object C, n, f))) {i : Int32} (hi : xin i n = true) (hd : decode cc pc = .ok (.aaload, 1)) (K : W p l e R s m args below meth c H locs cells slots Q (F0 m (pc + 1) ls (xv s0 adc (f i.toNatClampNeg) :: rest))) : W p l e R s m args below meth c H locs cells slots Q (F0 m pc ls (.int i :: xv s0 adc (.ref a) :: rest)) := by
  obtain ⟨ar, cell, h1, h2, h3, h4, h5, h6⟩ := xArr hG hW hR ha
  have hi' := xin_use hi
  rw [h1]
  exact W.aald hx hb h2 h3 rfl h4 (fun h => hi' (h.imp id (fun h => Nat.le_trans h5.1 h))) (h6 _ (by omega)) rfl rfl hd K
/-- an array of the small heap that may be written -/
theorem xArrS (hW : s0.WarmedH s.vm) (hR : xRel s0 adc L xs hp H) (hn : xNC ≤ a) (ha : hp.2.2 a = some (.inl (ty, n, f))) : xv s0 adc (.ref a) = .ref (s0.heap.size + (a - xNC)) ∧ ∃ cA : ClassId, ArrOfT s0 cA ty ∧ va_RA s0 cA ty ∧ ArrOfT s cA ty ∧ va_RA s cA ty ∧ H[s0.heap.size + (a - xNC)]? = some (arrV cA n (fun j => xv s0 adc (f j))) := by
  obtain ⟨-, cell, h2, h3⟩ := hR.2.2.2.2 a _ hn ha
  have h3 : ∃ cA : ClassId, ArrOfT s0 cA ty ∧ va_RA s0 cA ty ∧ cell = arrV cA n (fun j => xv s0 adc (f j)) := h3
  obtain ⟨cA, g1, g2, rfl⟩ := h3
  refine ⟨?_, cA, g1, g2, arrOfT_moved hW.alike g1, g2.moved hW.alike, h2⟩
  show va_rf (xad s0 adc a) = _
  rw [xad, if_neg (by omega)]
  rfl
theorem xv_upd (k : Nat) (v : Value) : updV (fun j => xv s0 adc (f j)) k (xv s0 adc v) = fun j => xv s0 adc (updV f k v j) := by
  funext j
  by_cases h : j = k <;> simp [updV, h]
theorem S_iast (hx : p.tables.exec = Jvm.exec) (hb : c.code = cc) (hW : s0.WarmedH s.vm) (hR : xRel s0 adc L xs hp H) (hl : xLk s0 locs) (hn : xNC ≤ a) (ha : hp.2.2 a = some (.inl (.int, n, f))) {i x : Int32} (hi : xin i n = true) (hd : decode cc pc = .ok (.iastore, 1)) (K : ∀ (H1 : Heap) (locs1 : List Loc), xRel s0 adc L xs (xput hp a (.inl (.int, n, updV f i.toNatClampNeg (.int x)))) H1 → xLk s0 locs1 → W p l e R s m args below meth c H1 locs1 cells slots Q (F0 m (pc + 1) ls rest)) : W p l e R s m args below meth c H locs cells slots Q (F0 m pc ls (.int x :: .int i :: xv s0 adc (.ref a) :: rest)) := by
  obtain ⟨h1, cA, g1, g2, g3, -, h2⟩ := xArrS hW hR hn ha
  have hi' := xin_use hi
  rw [h1]
  refine W.iast hx hb h2 (g3 _ _) (fun q => nomatch q) (by rw [arrV_size]; exact hi') rfl rfl hd fun H1 e z oq => ?_
  refine K H1 _ (hR.put hn ha e ⟨cA, g1, g2, ?_⟩ z oq) (hl.add (Nat.le_add_right _ _))
  rw [arrV_store]
  exact congrArg (arrV cA n) (xv_upd i.toNatClampNeg (.int x))
theorem S_last (hx : p.tables.exec = Jvm.exec) (hb : c.code = cc) (hW : s0.WarmedH s.vm) (hR : xRel s0 adc L xs hp H) (hl : xLk s0 locs) (hn : xNC ≤ a) (ha : hp.2.2 a = some (.inl (.long, n, f))) {i : Int32} {x : Int64} (hi : xin i n = true) (hd : decode cc pc = .ok (.lastore, 1)) (K : ∀ (H1 : Heap) (locs1 : List Loc), xRel s0 adc L xs (xput hp a (.inl (.long, n, updV f i.toNatClampNeg (.long x)))) H1 → xLk s0 locs1 → W p l e R s m args below meth c H1 locs1 cells slots Q (F0 m (pc + 1) ls rest)) : W p l e R s m args below meth c H locs cells slots Q (F0 m pc ls (.long x :: .int i :: xv s0 adc (.ref a) :: rest)) := by
  obtain ⟨h1, cA, g1, g2, g3, -, h2⟩ := xArrS hW hR hn ha
  have hi' := xin_use hi
  rw [h1]
  refine W.last hx hb h2 (g3 _ _) (fun q => nomatch q) (by rw [arrV_size]; exact hi') rfl rfl hd fun H1 e z oq => ?_
  refine K H1 _ (hR.put hn ha e ⟨cA, g1, g2, ?_⟩ z oq) (hl.add (Nat.le_add_right _ _))
  rw [arrV_store]
  exact congrArg (arrV cA n) (xv_upd i.toNatClampNeg (.long x))
/-- a state may stand in an array of objects -/
theorem xState (hG : xGl s0 b0 adc L xs) (hW : s0.WarmedH s.vm) (hR : xRel s0 adc L xs hp H) {v : Nat} (hv : xisS hp (.ref v) = true) : ∃ (av : Nat) (cell : Cell), xv s0 adc (.ref v) = .ref av ∧ H[av]? = some cell ∧ cell.vm.isStatics = false ∧ s.vm.findClass "SlowTunes$State" = some cell.cls := by
  unfold xisS at hv
  dsimp only at hv
  split at hv
  · rename_i ci fs ha
    have hci : ci = 6 := by simpa using hv
    subst hci
    obtain ⟨av, cell, h1, h2, h3⟩ := hR.wk hG ha
    have h3 : xObjAt s0 adc 6 fs cell := h3
    refine ⟨av, cell, ?_, h2, h3.2.2.1, xcls hW h3.1⟩
    show va_rf (xad s0 adc v) = _
    rw [h1]
    rfl
  · exact absurd hv (by simp)
/-- State's objects are Objects -/
theorem xStObj (hG : xGl s0 b0 adc L xs) (hW : s0.WarmedH s.vm) {c1 c2 : ClassId} (h1 : s.vm.findClass xObj = some c1) (h2 : s.vm.findClass "SlowTunes$State" = some c2) : s.vm.assignable c2 c1 = true := by
  have hw : xw 3 164 = some (.castable "SlowTunes$State" "java/lang/Object") := by decide +kernel
  obtain ⟨c3, c4, hc3, hc4, hasg⟩ := Jvm.Cond.castable_spec (hG.1 _ (tables_lw (xtb_in hw)))
  cases Option.some.inj (hc3.symm.trans (xcls' hW h2))
  cases Option.some.inj (hc4.symm.trans (xcls' hW h1))
  rw [hW.alike.assignable]
  exact hasg
theorem S_aast (hx : p.tables.exec = Jvm.exec) (hb : c.code = cc) (hG : xGl s0 b0 adc L xs) (hW : s0.WarmedH s.vm) (hR : xRel s0 adc L xs hp H) (hl : xLk s0 locs) (hn : xNC ≤ a) (ha : hp.2.2 a = some (.inl (.object xObj, n, f))) {i : Int32} {v : Value} (hv : xisS hp v = true) (hi : xin i n = true) (hd : decode cc pc = .ok (.aastore, 1)) (K : ∀ (H1 : Heap) (locs1 : List Loc), xRel s0 adc L xs (xput hp a (.inl (.object xObj, n, updV f i.toNatClampNeg v))) H1 → xLk s0 locs1 → W p l e R s m args below meth c H1 locs1 cells slots Q (F0 m (pc + 1) ls rest)) : W p l e R s m args below meth c H locs cells slots Q (F0 m pc ls (xv s0 adc v :: .int i :: xv s0 adc (.ref a) :: rest)) := by
  obtain ⟨h1, cA, g1, g2, g3, g4, h2⟩ := xArrS hW hR hn ha
  have hi' := xin_use hi
  rw [h1]
  have fin : ∀ (H1 : Heap), H1[s0.heap.size + (a - xNC)]? = some ((arrV cA n (fun j => xv s0 adc (f j))).setSlot i.toNatClampNeg (xv s0 adc v)) → H1.size = H.size → (∀ q, q ≠ s0.heap.size + (a - xNC) → H1[q]? = H[q]?) → W p l e R s m args below meth c H1 (locs ++ [⟨s0.heap.size + (a - xNC), i.toNatClampNeg⟩]) cells slots Q (F0 m (pc + 1) ls rest) := by
    intro H1 e z oq
    refine K H1 _ (hR.put hn ha e ⟨cA, g1, g2, ?_⟩ z oq) (hl.add (Nat.le_add_right _ _))
    rw [arrV_store]
    exact congrArg (arrV cA n) (xv_upd i.toNatClampNeg v)
  cases v with
  | null => exact va_WaastN (C := xObj) hx hb h2 (g3 _ _) (fun q => nomatch q) (by rw [arrV_size]; exact hi') rfl rfl hd fin
  | ref w =>
    obtain ⟨av, cell, e1, e2, e3, e4⟩ := xState hG hW hR hv
    rw [e1] at fin ⊢
    obtain ⟨kA, comp, k1, k2, k3, k4⟩ := g4
    obtain ⟨kC, hkC, -⟩ := Vm.findClass_spec e4
    obtain ⟨kO, hkO, -⟩ := Vm.findClass_spec k3
    exact W.aast hx hb h2 (fun q h => nomatch h) (fun h => nomatch h) k1 k2 rfl hkO ⟨fun q => hi' (Or.inl q), by rw [arrV_size]; omega⟩ e2 (fun q h => by rw [h] at e3; cases e3) hkC (xStObj hG hW k3 e4) rfl rfl hd fin
  | _ => exact absurd hv (by simp [xisS])
theorem S_newa {at_ : ArrayType} (hat : at_ = .int ∨ at_ = .long) (hx : p.tables.exec = Jvm.exec) (hb : c.code = cc) (hG : xGl s0 b0 adc L xs) (hW : s0.WarmedH s.vm) (hR : xRel s0 adc L xs hp H) {q0 p0 : Nat} (hw : xw q0 p0 = some (.arrayClass (newarray.typeOf at_))) {x : Int32} (hn : ¬ (x < 0 ∨ 1000 < x.toNatClampNeg)) (hc : cells + 1 ≤ R.cells) (hs : slots + x.toNatClampNeg ≤ R.slots) (hd : decode cc pc = .ok (.newarray at_, 2))
    (K : ∀ (H1 : Heap), xRel s0 adc L xs (xnew hp (.inl (newarray.typeOf at_, x.toNatClampNeg, fun _ => defaultValue (newarray.typeOf at_))) x.toNatClampNeg) H1 → W p l e R s m args below meth c H1 locs (cells + 1) (slots + x.toNatClampNeg) Q (F0 m (pc + 2) ls (xv s0 adc (.ref hp.1) :: rest))) : W p l e R s m args below meth c H locs cells slots Q (F0 m pc ls (.int x :: rest)) := by
  have hw2 : (Jvm.Cond.arrayClass (newarray.typeOf at_)).before args s = true := xwd hG.1 hW hw rfl
  have hbytes : x.toNatClampNeg * componentBytes (newarray.typeOf at_) ≤ 536870912 := by
    have h8 : componentBytes (newarray.typeOf at_) ≤ 8 := by rcases hat with rfl | rfl <;> decide
    have h9 : x.toNatClampNeg ≤ 1000 := by omega
    exact Nat.le_trans (Nat.mul_le_mul h9 h8) (by omega)
  refine va_newaK hx hb hw2 rfl hd rfl (fun q => hn (Or.inl q)) rfl hbytes hc hs rfl fun H1 cA e1 z1 o1 hAr hNm => ?_
  have hr : xv s0 adc (.ref hp.1) = .ref H.size := by
    show va_rf (xad s0 adc hp.1) = _
    rw [hR.new]
    rfl
  rw [← hr]
  refine K H1 (hR.push e1 ?_ z1 o1)
  refine ⟨cA, arrOfT_moved hW.alike.symm hAr, ?_, ?_⟩
  · have h1 : va_RA s cA (newarray.typeOf at_) := by rcases hat with rfl | rfl <;> exact hNm
    exact h1.moved hW.alike.symm
  · rcases hat with rfl | rfl <;> rfl
theorem S_anew (hx : p.tables.exec = Jvm.exec) (hb : c.code = cc) (hown : s.vm.findClass own = some m.cls) (hG : xGl s0 b0 adc L xs) (hW : s0.WarmedH s.vm) (hR : xRel s0 adc L xs hp H) {q0 p0 q1 p1 ix : Nat} (hw : xw q0 p0 = some (.classLink own ix xObj)) (hw1 : xw q1 p1 = some (.arrayOver (.object xObj))) {x : Int32} (hn : ¬ (x < 0 ∨ 1000 < x.toNatClampNeg)) (hc : cells + 1 ≤ R.cells) (hs : slots + x.toNatClampNeg ≤ R.slots) (hd : decode cc pc = .ok (.anewarray ix, 3))
    (K : ∀ (H1 : Heap), xRel s0 adc L xs (xnew hp (.inl (.object xObj, x.toNatClampNeg, fun _ => .null)) x.toNatClampNeg) H1 → W p l e R s m args below meth c H1 locs (cells + 1) (slots + x.toNatClampNeg) Q (F0 m (pc + 3) ls (xv s0 adc (.ref hp.1) :: rest))) : W p l e R s m args below meth c H locs cells slots Q (F0 m pc ls (.int x :: rest)) := by
  have hw2 : (Jvm.Cond.classLink own ix xObj).before args s = true := xwd hG.1 hW hw rfl
  have hw3 : (Jvm.Cond.arrayOver (.object xObj)).before args s = true := va_AO.use (va_AO.moved hW.alike (va_AO.of (hG.1 _ (tables_lw (xtb_in hw1)))))
  refine W.anew hx hb hown hw2 hw3 rfl hd rfl (fun q => hn (Or.inl q)) (by omega) hc hs fun cA kA comp f1 f2 f3 f4 => ?_
  have hr : xv s0 adc (.ref hp.1) = .ref H.size := by
    show va_rf (xad s0 adc hp.1) = _
    rw [hR.new]
    rfl
  rw [← hr]
  refine K _ (hR.push (cell := arrV cA x.toNatClampNeg (fun _ => .null)) (by rw [Array.getElem?_push_size, ← arrV_new]) ?_ (by rw [Array.size_push]) (fun q hq => by rw [Array.getElem?_push, if_neg (Nat.ne_of_lt hq)]))
  refine ⟨cA, arrOfT_moved hW.alike.symm (fun N z => ⟨(fun k h => nomatch h), kA, f2, comp, f3⟩), ?_, rfl⟩
  have h1 : va_RA s cA (.object xObj) := ⟨kA, comp, f2, f3, f4, f1⟩
  exact h1.moved hW.alike.symm
theorem S_new (hcl : ∀ ci, ci < 10 → xkCl ci = true) (hx : p.tables.exec = Jvm.exec) (hb : c.code = cc) (hown : s.vm.findClass own = some m.cls) (hG : xGl s0 b0 adc L xs) (hW : s0.WarmedH s.vm) (hR : xRel s0 adc L xs hp H) {ci k q0 p0 q1 p1 q2 p2 ix : Nat} (hci : ci < 10) (hw : xw q0 p0 = some (.classLink own ix (xcl ci).1)) (hw1 : xw q1 p1 = some (.instantiable (xcl ci).1 k)) (hw2 : xw q2 p2 = some (.initialized (xcl ci).1)) (hc : cells + 1 ≤ R.cells) (hs : slots + k ≤ R.slots) (hd : decode cc pc = .ok (.new ix, 3))
    (K : ∀ (H1 : Heap), xRel s0 adc L xs (xnew hp (.inr (ci, xdef ci)) k) H1 → W p l e R s m args below meth c H1 locs (cells + 1) (slots + k) Q (F0 m (pc + 3) ls (xv s0 adc (.ref hp.1) :: rest))) : W p l e R s m args below meth c H locs cells slots Q (F0 m pc ls rest) := by
  have hi1 : (Jvm.Cond.instantiable (xcl ci).1 k).before args s = true := xwd hG.1 hW hw1 rfl
  obtain ⟨cC, kC, i1, i2, i3, -⟩ := Jvm.Cond.instantiable_spec hi1
  refine W.newcK hx hb hown (xwd hG.1 hW hw rfl) hi1 (xwd hG.1 hW hw2 rfl) rfl hd hc hs i1 rfl fun H1 kC' hkC e1 z1 o1 => ?_
  cases i2.symm.trans hkC
  have hr : xv s0 adc (.ref hp.1) = .ref H.size := by
    show va_rf (xad s0 adc hp.1) = _
    rw [hR.new]
    rfl
  show W p l e R s m args below meth c H1 locs (cells + 1) (slots + k) Q (F0 m (pc + 3) ls (.ref H.size :: rest))
  rw [← hr]
  refine K H1 (hR.push e1 ?_ z1 o1)
  obtain ⟨c1, -, -, -, -, c6, c7⟩ := xkCl_use (args := args) hG.1 hW (hcl ci hci)
  refine ⟨hci, rfl, xcls' hW i1, (fun q => nomatch q), rfl, fun j v hj => ?_⟩
  have hjN : j < (xcl ci).2.2 := by rw [← c7]; exact (List.getElem?_eq_some_iff.mp hj).1
  obtain ⟨ty, t1, t2⟩ := c6 j hjN
  have hv : v = defaultValue ty := Option.some.inj (hj.symm.trans t2)
  obtain ⟨i, cf, kf, fi, fd, g1, -⟩ := u_found (c1 j hjN)
  have g1' : ∃ kf', s0.fieldFound? ((xcl ci).2.1 j).1 ((xcl ci).2.1 j).2.1 ((xcl ci).2.1 j).2.2.1 = some (cf, kf', fi, fd) := by
    obtain ⟨k', hi', -⟩ := State.fieldFound?_setVm (s := s) hW.alike.symm g1
    exact ⟨k', hi'⟩
  obtain ⟨kf', g2⟩ := g1'
  obtain ⟨f1, f2, f3⟩ := u_facts i1 i2 (c1 j hjN) g1
  refine ⟨hjN, cf, kf', fi, fd, g2, f1, ?_⟩
  rw [(State.fieldFound?_type g1 t1).2] at f3
  rw [k2_blank f3, hv]
  cases ty <;> rfl
theorem S_gets (hx : p.tables.exec = Jvm.exec) (hb : c.code = cc) (hown : s.vm.findClass own = some m.cls) (hG : xGl s0 b0 adc L xs) (hW : s0.WarmedH s.vm) (hR : xRel s0 adc L xs hp H) {x q0 p0 : Nat} {b : Bool} {C n d : String} {cv : Value} (hl : xfl own x q0 p0 = some (b, C, n, d)) (hm : (C, n, d, cv) ∈ xstL) (hd : decode cc pc = .ok (.getstatic x, 3))
    (K : W p l e R s m args below meth c H locs cells slots Q (F0 m (pc + 3) ls (xv s0 adc cv :: rest))) : W p l e R s m args below meth c H locs cells slots Q (F0 m pc ls rest) := by
  have hZ := va_Z.moved hW.alike (hG.2.2.2 _ hm)
  obtain ⟨cf, kf, fi, f, a, cell, h1, h2, h3, h4, h5, h6, h7, h8⟩ := hZ
  have hcell : H[a]? = some cell := by rw [hR.2.2.1 a (by omega)]; exact h5
  have hk : cell.vm ≠ .unknown := fun q => by rw [q] at h6; cases h6
  unfold xfl at hl
  split at hl
  · rename_i hw
    split at hl
    · rename_i ho
      obtain ⟨rfl, rfl⟩ := ho
      cases hl
      exact W.gets hx hb hown (xwd hG.1 hW hw rfl) h1 h2 h3 h4 hcell hk h7 rfl hd K
    · exact absurd hl (by simp)
  · rename_i hw
    split at hl
    · rename_i ho
      obtain ⟨rfl, rfl⟩ := ho
      cases hl
      exact va_WgetsN hx hb hown (xwdF hG.1 hW hw) h1 h2 h3 h4 hcell hk h7 rfl hd K
    · exact absurd hl (by simp)
  · exact absurd hl (by simp)
end SE
end
section
/-! One instruction of the heap. -/
theorem xfit99 {d : String} {ax : List Nat} {v : Value} (hT : xkT d (ax.getD 2 99) = true) (h : xfit (ax.getD 2 0) v = true) : xfit (ax.getD 2 99) v = true := by
  cases e : ax[2]? with
  | none =>
    simp only [List.getD, e] at hT
    exfalso
    unfold xkT at hT
    split at hT <;> simp_all
  | some t =>
    simp only [List.getD, e] at h ⊢
    exact h
section SG
variable {p : Program} {l : Launch} {e : Env} {R : Room} {s : State} {m : MethodId} {args : Array Value} {below : List Frame} {meth : Method} {c : Code} {H : Heap} {locs : List Loc} {cells slots : Nat} {Q : State → Prop}
variable {s0 : State} {b0 : Nat} {adc : Nat → Option Nat} {cc : ByteArray} {own : String} {L : Nat} {xs : Nat → Int32}
set_option maxHeartbeats 4000000 in
theorem snd_B {Lc : List xE} {j pc len : Nat} {i : Instr} {ax : List Nat} {cv : Value} {lv lv' : xL} {st st' : List Value} {hp hp' : xH} {j' : Nat} {ls : Array Slot} {e' : xE} {name : String} (hcl : ∀ ci, ci < 10 → xkCl ci = true) (hx : p.tables.exec = Jvm.exec) (hb : c.code = cc) (hown : s.vm.findClass own = some m.cls) (hname : meth.name = name) (hW : s0.WarmedH s.vm) (hG : xGl s0 b0 adc L xs) (hR : xRel s0 adc L xs hp H) (hlk : xLk s0 locs) (hd : decode cc pc = .ok (i, len)) (hn : ∀ e1, Lc[j + 1]? = some e1 → e1.1 = pc + len) (hc : xkB Lc own name pc i len ax cv = true)
    (h : xsB j i ax cv lv st hp = some (j', lv', st', hp')) (he' : Lc[j']? = some e') (hrc : cells + (hp'.1 - hp.1) ≤ R.cells) (hrs : slots + (hp'.2.1 - hp.2.1) ≤ R.slots)
    (K : ∀ (H1 : Heap) (locs1 : List Loc), xRel s0 adc L xs hp' H1 → xLk s0 locs1 → W p l e R s m args below meth c H1 locs1 (cells + (hp'.1 - hp.1)) (slots + (hp'.2.1 - hp.2.1)) Q (F0 m e'.1 ls (st'.map (xv s0 adc)))) :
    lv' = lv ∧ W p l e R s m args below meth c H locs cells slots Q (F0 m pc ls (st.map (xv s0 adc))) := by
  unfold xsB at h
  split at h
  · simp only [Option.some.injEq, Prod.mk.injEq] at h
    obtain ⟨rfl, rfl, rfl, rfl⟩ := h
    refine ⟨rfl, ?_⟩
    have hpc := hn e' he'
    simp only [Nat.sub_self, Nat.add_zero] at K
    simp only [xkB, Bool.and_eq_true, beq_iff_eq] at hc
    obtain ⟨hlen, hc⟩ := hc
    split at hc
    · rename_i hfl
      rw [hlen] at hd hpc
      have K1 := K H locs hR hlk
      rw [hpc] at K1
      exact S_gets hx hb hown hG hW hR hfl (of_decide_eq_true hc) hd K1
    · exact absurd hc (by simp)
  · split at h
    · rename_i ci fs ha
      split at h
      · rename_i hci
        subst hci
        split at h
        · rename_i v hv
          simp only [Option.some.injEq, Prod.mk.injEq] at h
          obtain ⟨rfl, rfl, rfl, rfl⟩ := h
          refine ⟨rfl, ?_⟩
          have hpc := hn e' he'
          simp only [Nat.sub_self, Nat.add_zero] at K
          simp only [xkB, Bool.and_eq_true, beq_iff_eq] at hc
          obtain ⟨hlen, hc⟩ := hc
          obtain ⟨b, hbk⟩ := Option.isSome_iff_exists.mp hc
          rw [hlen] at hd hpc
          have K1 := K H locs hR hlk
          rw [hpc] at K1
          exact S_getf hx hb hown hW hG hR hbk ha hv hd K1
        · exact absurd h (by simp)
      · exact absurd h (by simp)
    · exact absurd h (by simp)
  · split at h
    · rename_i ci fs ha
      split at h
      · rename_i hcs
        obtain ⟨rfl, hnc, hlt, hfit⟩ := hcs
        simp only [Option.some.injEq, Prod.mk.injEq] at h
        obtain ⟨rfl, rfl, rfl, rfl⟩ := h
        refine ⟨rfl, ?_⟩
        have hpc := hn e' he'
        simp only [xput, Nat.sub_self, Nat.add_zero] at K
        simp only [xkB, Bool.and_eq_true, beq_iff_eq, decide_eq_true_eq] at hc
        obtain ⟨⟨⟨hlen, hci⟩, hT⟩, hc⟩ := hc
        split at hc
        · rename_i b hbk
          have hfin := of_decide_eq_true hc
          rw [hlen] at hd hpc
          rw [hpc] at K
          have hfit2 : xfit (ax.getD 2 99) _ = true := xfit99 hT hfit
          refine S_putf hcl hx hb hown hW hG hR hlk hbk hT (by rw [hname]; exact hfin) ha hnc hlt hfit2 hd K
        · exact absurd hc (by simp)
      · exact absurd h (by simp)
    · exact absurd h (by simp)
  · split at h
    · rename_i ty n f ha
      simp only [Option.some.injEq, Prod.mk.injEq] at h
      obtain ⟨rfl, rfl, rfl, rfl⟩ := h
      refine ⟨rfl, ?_⟩
      have hpc := hn e' he'
      simp only [Nat.sub_self, Nat.add_zero] at K
      have hlen : len = 1 := by simpa [xkB] using hc
      rw [hlen] at hd hpc
      have K1 := K H locs hR hlk
      rw [hpc] at K1
      exact S_alen hx hb hG hW hR ha hd K1
    · exact absurd h (by simp)
  · split at h
    · rename_i ha
      split at h
      · rename_i hi
        simp only [Option.some.injEq, Prod.mk.injEq] at h
        obtain ⟨rfl, rfl, rfl, rfl⟩ := h
        refine ⟨rfl, ?_⟩
        have hpc := hn e' he'
        simp only [Nat.sub_self, Nat.add_zero] at K
        have hlen : len = 1 := by simpa [xkB] using hc
        rw [hlen] at hd hpc
        have K1 := K H locs hR hlk
        rw [hpc] at K1
        exact S_iald hx hb hG hW hR ha hi hd K1
      · exact absurd h (by simp)
    · exact absurd h (by simp)
  · split at h
    · rename_i ha
      split at h
      · rename_i hi
        simp only [Option.some.injEq, Prod.mk.injEq] at h
        obtain ⟨rfl, rfl, rfl, rfl⟩ := h
        refine ⟨rfl, ?_⟩
        have hpc := hn e' he'
        simp only [Nat.sub_self, Nat.add_zero] at K
        have hlen : len = 1 := by simpa [xkB] using hc
        rw [hlen] at hd hpc
        have K1 := K H locs hR hlk
        rw [hpc] at K1
        exact S_lald hx hb hG hW hR ha hi hd K1
      · exact absurd h (by simp)
    · exact absurd h (by simp)
  · split at h
    · rename_i ha
      split at h
      · rename_i hi
        simp only [Option.some.injEq, Prod.mk.injEq] at h
        obtain ⟨rfl, rfl, rfl, rfl⟩ := h
        refine ⟨rfl, ?_⟩
        have hpc := hn e' he'
        simp only [Nat.sub_self, Nat.add_zero] at K
        have hlen : len = 1 := by simpa [xkB] using hc
        rw [hlen] at hd hpc
        have K1 := K H locs hR hlk
        rw [hpc] at K1
        exact S_bald hx hb hG hW hR ha hi hd K1
      · exact absurd h (by simp)
    · exact absurd h (by simp)
  · split at h
    · rename_i ha
      split at h
      · rename_i hi
        simp only [Option.some.injEq, Prod.mk.injEq] at h
        obtain ⟨rfl, rfl, rfl, rfl⟩ := h
        refine ⟨rfl, ?_⟩
        have hpc := hn e' he'
        simp only [Nat.sub_self, Nat.add_zero] at K
        have hlen : len = 1 := by simpa [xkB] using hc
        rw [hlen] at hd hpc
        have K1 := K H locs hR hlk
        rw [hpc] at K1
        exact S_aald hx hb hG hW hR ha hi hd K1
      · exact absurd h (by simp)
    · exact absurd h (by simp)
  · split at h
    · rename_i ha
      split at h
      · rename_i hi
        simp only [Option.some.injEq, Prod.mk.injEq] at h
        obtain ⟨rfl, rfl, rfl, rfl⟩ := h
        refine ⟨rfl, ?_⟩
        have hpc := hn e' he'
        simp only [xput, Nat.sub_self, Nat.add_zero] at K
        have hlen : len = 1 := by simpa [xkB] using hc
        rw [hlen] at hd hpc
        rw [hpc] at K
        exact S_iast hx hb hW hR hlk hi.2 ha hi.1 hd K
      · exact absurd h (by simp)
    · exact absurd h (by simp)
  · split at h
    · rename_i ha
      split at h
      · rename_i hi
        simp only [Option.some.injEq, Prod.mk.injEq] at h
        obtain ⟨rfl, rfl, rfl, rfl⟩ := h
        refine ⟨rfl, ?_⟩
        have hpc := hn e' he'
        simp only [xput, Nat.sub_self, Nat.add_zero] at K
        have hlen : len = 1 := by simpa [xkB] using hc
        rw [hlen] at hd hpc
        rw [hpc] at K
        exact S_last hx hb hW hR hlk hi.2 ha hi.1 hd K
      · exact absurd h (by simp)
    · exact absurd h (by simp)
  · split at h
    · rename_i C n f ha
      split at h
      · rename_i hi
        obtain ⟨h1, h2, rfl, h4⟩ := hi
        simp only [Option.some.injEq, Prod.mk.injEq] at h
        obtain ⟨rfl, rfl, rfl, rfl⟩ := h
        refine ⟨rfl, ?_⟩
        have hpc := hn e' he'
        simp only [xput, Nat.sub_self, Nat.add_zero] at K
        have hlen : len = 1 := by simpa [xkB] using hc
        rw [hlen] at hd hpc
        rw [hpc] at K
        exact S_aast hx hb hG hW hR hlk h2 ha h4 h1 hd K
      · exact absurd h (by simp)
    · exact absurd h (by simp)
  · rename_i cnd off b a st2
    split at h
    · rename_i hok
      simp only [xkB, Bool.and_eq_true, beq_iff_eq] at hc
      obtain ⟨hlen, hto⟩ := hc
      rw [hlen] at hd hn
      obtain ⟨tg, htg⟩ := xto_ex hto
      have hinj : xad s0 adc a = xad s0 adc b → a = b := by
        intro e1
        rcases hok with rfl | ⟨h1, h2, -, -⟩
        · rfl
        · rw [xad, xad, if_pos (Nat.lt_of_lt_of_le h1 (by decide)), if_pos (Nat.lt_of_lt_of_le h2 (by decide))] at e1
          exact hG.2.2.1 a b h1 h2 e1
      unfold xjmp at h
      cases cnd with
      | eq =>
        dsimp only at h
        split at h
        · rename_i hcd
          simp only [Option.some.injEq, Prod.mk.injEq] at h
          obtain ⟨rfl, rfl, rfl, rfl⟩ := h
          refine ⟨rfl, ?_⟩
          simp only [Nat.sub_self, Nat.add_zero] at K
          have ht := xto_at hto he'
          have K1 := K H locs hR hlk
          have hab : a = b := of_decide_eq_true hcd
          subst hab
          exact lv_acmp_eq hx hb hd ht (fun _ => K1) (fun q => absurd rfl q)
        · rename_i hcd
          simp only [Option.some.injEq, Prod.mk.injEq] at h
          obtain ⟨rfl, rfl, rfl, rfl⟩ := h
          refine ⟨rfl, ?_⟩
          simp only [Nat.sub_self, Nat.add_zero] at K
          have hpc := hn e' he'
          have K1 := K H locs hR hlk
          rw [hpc] at K1
          exact lv_acmp_eq hx hb hd htg (fun q => absurd (decide_eq_true (hinj q)) hcd) (fun _ => K1)
      | ne =>
        dsimp only at h
        split at h
        · rename_i hcd
          simp only [Option.some.injEq, Prod.mk.injEq] at h
          obtain ⟨rfl, rfl, rfl, rfl⟩ := h
          refine ⟨rfl, ?_⟩
          simp only [Nat.sub_self, Nat.add_zero] at K
          have ht := xto_at hto he'
          have K1 := K H locs hR hlk
          exact lv_acmp_ne hx hb hd ht (fun _ => K1) (fun q => absurd (hinj q) (of_decide_eq_true hcd))
        · rename_i hcd
          simp only [Option.some.injEq, Prod.mk.injEq] at h
          obtain ⟨rfl, rfl, rfl, rfl⟩ := h
          refine ⟨rfl, ?_⟩
          simp only [Nat.sub_self, Nat.add_zero] at K
          have hpc := hn e' he'
          have K1 := K H locs hR hlk
          rw [hpc] at K1
          have hab : a = b := Decidable.not_not.mp (fun q => hcd (decide_eq_true q))
          subst hab
          exact lv_acmp_ne hx hb hd htg (fun q => absurd rfl q) (fun _ => K1)
    · exact absurd h (by simp)
  · simp only [Option.some.injEq, Prod.mk.injEq] at h
    obtain ⟨rfl, rfl, rfl, rfl⟩ := h
    refine ⟨rfl, ?_⟩
    have hpc := hn e' he'
    simp only [xnew, Nat.add_sub_cancel_left] at K hrc hrs
    simp only [xkB, Bool.and_eq_true, beq_iff_eq, decide_eq_true_eq] at hc
    obtain ⟨hlen, hci, w1, w2, w3⟩ := hc
    rw [hlen] at hd hpc
    rw [hpc] at K
    exact S_new hcl hx hb hown hG hW hR hci w1 w2 w3 hrc hrs hd (fun H1 h1 => K H1 locs h1 hlk)
  · split at h
    · exact absurd h (by simp)
    · rename_i hnn
      simp only [Option.some.injEq, Prod.mk.injEq] at h
      obtain ⟨rfl, rfl, rfl, rfl⟩ := h
      refine ⟨rfl, ?_⟩
      have hpc := hn e' he'
      simp only [xnew, Nat.add_sub_cancel_left] at K hrc hrs
      simp only [xkB, Bool.and_eq_true, beq_iff_eq, decide_eq_true_eq] at hc
      obtain ⟨hlen, w1⟩ := hc
      rw [hlen] at hd hpc
      rw [hpc] at K
      exact S_newa (at_ := .int) (Or.inl rfl) hx hb hG hW hR w1 hnn hrc hrs hd (fun H1 h1 => K H1 locs h1 hlk)
  · split at h
    · exact absurd h (by simp)
    · rename_i hnn
      simp only [Option.some.injEq, Prod.mk.injEq] at h
      obtain ⟨rfl, rfl, rfl, rfl⟩ := h
      refine ⟨rfl, ?_⟩
      have hpc := hn e' he'
      simp only [xnew, Nat.add_sub_cancel_left] at K hrc hrs
      simp only [xkB, Bool.and_eq_true, beq_iff_eq, decide_eq_true_eq] at hc
      obtain ⟨hlen, w1⟩ := hc
      rw [hlen] at hd hpc
      rw [hpc] at K
      exact S_newa (at_ := .long) (Or.inr rfl) hx hb hG hW hR w1 hnn hrc hrs hd (fun H1 h1 => K H1 locs h1 hlk)
  · split at h
    · exact absurd h (by simp)
    · rename_i hnn
      simp only [Option.some.injEq, Prod.mk.injEq] at h
      obtain ⟨rfl, rfl, rfl, rfl⟩ := h
      refine ⟨rfl, ?_⟩
      have hpc := hn e' he'
      simp only [xnew, Nat.add_sub_cancel_left] at K hrc hrs
      simp only [xkB, Bool.and_eq_true, beq_iff_eq, decide_eq_true_eq] at hc
      obtain ⟨hlen, w1, w2⟩ := hc
      rw [hlen] at hd hpc
      rw [hpc] at K
      exact S_anew hx hb hown hG hW hR w1 w2 hnn hrc hrs hd (fun H1 h1 => K H1 locs h1 hlk)
  · split at h
    · rename_i ci fs ha
      split at h
      · rename_i hci
        subst hci
        simp only [Option.some.injEq, Prod.mk.injEq] at h
        obtain ⟨rfl, rfl, rfl, rfl⟩ := h
        refine ⟨rfl, ?_⟩
        have hpc := hn e' he'
        simp only [Nat.sub_self, Nat.add_zero] at K
        simp only [xkB, Bool.and_eq_true, beq_iff_eq, decide_eq_true_eq] at hc
        obtain ⟨hlen, hci, w1⟩ := hc
        rw [hlen] at hd hpc
        have K1 := K H locs hR hlk
        rw [hpc] at K1
        obtain ⟨ar, cell, g1, g2, g3⟩ := hR.wk hG ha
        have g3 : xObjAt s0 adc (ax.headD 0) fs cell := g3
        simp only [List.map_cons] at K1 ⊢
        have hv : xv s0 adc (.ref _) = .ref ar := congrArg va_rf g1
        rw [hv] at K1 ⊢
        exact va_castE hx hb hown (xwd hG.1 hW w1 rfl) ⟨cell, g2, g3.2.2.1, xcls hW g3.1⟩ hd K1
      · exact absurd h (by simp)
    · exact absurd h (by simp)
  · exact absurd h (by simp)
end SG
end
section
/-! Object.<init>, System.arraycopy, Double.doubleToRawLongBits, Math. -/
section SH
variable {p : Program} {l : Launch} {e : Env} {R : Room} {s : State} {m : MethodId} {args : Array Value} {below : List Frame} {meth : Method} {c : Code} {H : Heap} {locs : List Loc} {cells slots : Nat} {Q : State → Prop}
variable {s0 : State} {b0 : Nat} {adc : Nat → Option Nat} {cc : ByteArray} {own : String} {L : Nat} {xs : Nat → Int32} {hp : xH}
variable {pc : Nat} {ls : Array Slot} {rest : List Value}
theorem xnn : ∀ z : Int32, ¬ z < 0 → z.toInt = (z.toNatClampNeg : Int) := by
  intro z hz
  have hz0 : (0 : Int) ≤ z.toInt := by
    have := Int32.not_lt.mp hz
    simpa using Int32.le_iff_toInt_le.mp this
  show z.toInt = ((z.toInt.toNat : Nat) : Int)
  omega
theorem xv_cpy (f g : Nat → Value) (sp dp n : Nat) : va_cpy (fun j => xv s0 adc (f j)) (fun j => xv s0 adc (g j)) sp dp n = fun j => xv s0 adc (va_cpy f g sp dp n j) := by
  funext j
  by_cases h : dp ≤ j ∧ j < dp + n <;> simp [va_cpy, h]
theorem S_copy (hx : p.tables.exec = Jvm.exec) (hb : c.code = cc) (hml : c.maxLocals = ls.size) (hown : s.vm.findClass own = some m.cls) (hG : xGl s0 b0 adc L xs) (hW : s0.WarmedH s.vm) (hR : xRel s0 adc L xs hp H) (hlk : xLk s0 locs) {ix q0 p0 : Nat} (hw : xw q0 p0 = some (.methodLink own ix arraycopyName)) {a b n0 n1 : Nat} {f g : Nat → Value} {ty ty1 : FieldType} (hna : xNC ≤ a) (hnb : xNC ≤ b) (ha : hp.2.2 a = some (.inl (ty, n0, f))) (hbb : hp.2.2 b = some (.inl (ty1, n1, g)))
    {sp dp n : Int32} (h1 : ¬ sp < 0) (h2 : ¬ dp < 0) (h3 : ¬ n < 0) (h4 : sp.toNatClampNeg + n.toNatClampNeg ≤ n0) (h5 : dp.toNatClampNeg + n.toNatClampNeg ≤ n1)
    (hk : (ty = .int ∧ ty1 = .int ∧ (List.range n.toNatClampNeg).all (fun i => xisI (f (sp.toNatClampNeg + i))) = true) ∨ (∃ C, ty = .object C ∧ ty1 = .object xObj ∧ (List.range n.toNatClampNeg).all (fun i => xisS hp (f (sp.toNatClampNeg + i))) = true))
    (hframes : 1 ≤ R.frames) (hlocals : (rest.map fun v => v.category).sum + (nativeFrameWords "java/lang/System" "arraycopy" 5 + 11) ≤ R.locals) (hd : decode cc pc = .ok (.invokestatic ix, 3))
    (K : ∀ (H1 : Heap) (locs1 : List Loc), xRel s0 adc L xs (xput hp b (.inl (ty1, n1, va_cpy f g sp.toNatClampNeg dp.toNatClampNeg n.toNatClampNeg))) H1 → xLk s0 locs1 → W p l e R s m args below meth c H1 locs1 cells slots Q (F0 m (pc + 3) ls rest)) : W p l e R s m args below meth c H locs cells slots Q (F0 m pc ls (.int n :: .int dp :: xv s0 adc (.ref b) :: .int sp :: xv s0 adc (.ref a) :: rest)) := by
  obtain ⟨e1, c0, -, -, g3, g4, hc0⟩ := xArrS hW hR hna ha
  obtain ⟨e2, c1, k1, k2, k3, k4, hc1⟩ := xArrS hW hR hnb hbb
  rw [e1, e2]
  have hlink : (Jvm.Cond.methodLink own ix arraycopyName).before args s = true := xwd hG.1 hW hw rfl
  have hnat : (Jvm.Cond.native arraycopyName).before args s = true := xwd hG.1 hW (show xw 1 133 = some (.native arraycopyName) by decide +kernel) rfl
  have hstat : (Jvm.Cond.static arraycopyName).before args s = true := xwd hG.1 hW (show xw 1 132 = some (.static arraycopyName) by decide +kernel) rfl
  have hini : (Jvm.Cond.initialized "java/lang/System").before args s = true := xwd hG.1 hW (show xw 0 23 = some (.initialized "java/lang/System") by decide +kernel) rfl
  intro T hT X
  obtain ⟨-, kk0, hk0, cm0, hkk0⟩ := g3 n0 (fun j => xv s0 adc (f j))
  obtain ⟨-, kk1, hk1, cm1, hkk1⟩ := k3 n1 (fun j => xv s0 adc (g j))
  obtain ⟨vm', X', step⟩ := X.arraycopy hx hown hlink hnat hstat hini (src := s0.heap.size + (a - xNC)) (dst := s0.heap.size + (b - xNC)) (cs := arrV c0 n0 (fun j => xv s0 adc (f j))) (cd := arrV c1 n1 (fun j => xv s0 adc (g j))) (srcPos := sp) (destPos := dp) (n := n) (by rw [hT]; exact hc0) (by rw [hT]; exact hc1)
    (fun _ h => nomatch h) (fun _ h => nomatch h) (fun h => nomatch h) (fun h => nomatch h) hk0 hk1 hkk0 hkk1 (by rcases hk with ⟨rfl, rfl, -⟩ | ⟨C, rfl, rfl, -⟩ <;> rfl) h1 h2 h3
    (by rw [xnn sp h1, xnn n h3, arrV_size]; omega)
    (by rw [xnn dp h2, xnn n h3, arrV_size]; omega)
    (fun vm₁ hal i hi => by
      have e : (arrV c0 n0 (fun j => xv s0 adc (f j))).slots.getD (sp.toNatClampNeg + i) .null = xv s0 adc (f (sp.toNatClampNeg + i)) := by
        rw [Array.getD_eq_getD_getElem?, arrV_read _ _ (by omega)]
        rfl
      rw [e]
      rcases hk with ⟨rfl, rfl, hall⟩ | ⟨C, rfl, rfl, hall⟩
      · have h6 := List.all_eq_true.mp hall i (List.mem_range.mpr hi)
        cases hv : f (sp.toNatClampNeg + i) with
        | int z => exact ⟨rfl, trivial⟩
        | _ => rw [hv] at h6; exact absurd h6 (by simp [xisI])
      · have h6 := List.all_eq_true.mp hall i (List.mem_range.mpr hi)
        cases hv : f (sp.toNatClampNeg + i) with
        | null => exact ⟨rfl, trivial⟩
        | ref y =>
          rw [hv] at h6
          obtain ⟨av, cell, z1, z2, z3, z4⟩ := xState hG hW hR h6
          rw [z1]
          obtain ⟨kA, comp, r1, r2, r3, -⟩ := k4
          cases hk1.symm.trans r1
          cases hkk1.symm.trans r2
          obtain ⟨kC, hkC, -⟩ := Vm.findClass_spec z4
          obtain ⟨kE, hkE, -⟩ := Vm.findClass_spec r3
          obtain ⟨kC', hkC', -⟩ := hal.2.2 _ _ hkC
          obtain ⟨kE', hkE', -⟩ := hal.2.2 _ _ hkE
          refine ⟨rfl, cell, (show T.heap[av]? = some cell by rw [hT]; exact z2), (fun q h => by rw [h] at z3; cases z3), ⟨kC', hkC'⟩, ?_, ?_⟩
          · exact ⟨kE', hkE'⟩
          · show vm₁.assignable _ _ = true
            rw [hal.assignable]
            exact xStObj hG hW r3 z4
        | _ => rw [hv] at h6; exact absurd h6 (by simp [xisS]))
    (g := F0 m pc ls (.int n :: .int dp :: .ref (s0.heap.size + (b - xNC)) :: .int sp :: .ref (s0.heap.size + (a - xNC)) :: rest)) rfl (by rw [hml]) (rest := rest) rfl (by rw [hb]; exact hd) hframes (by show 2 * 0 + _ + _ ≤ _; omega)
  have e3 : copied (arrV c0 n0 (fun j => xv s0 adc (f j))) (arrV c1 n1 (fun j => xv s0 adc (g j))) sp dp n = arrV c1 n1 (fun j => xv s0 adc (va_cpy f g sp.toNatClampNeg dp.toNatClampNeg n.toNatClampNeg j)) := by
    rw [← xv_cpy]
    exact va_copied (fun z => z) c0 c1 (fun j => xv s0 adc (f j)) (fun j => xv s0 adc (g j)) h4
  rw [e3] at X' step
  have hl : s0.heap.size + (b - xNC) < H.size := (Array.getElem?_eq_some_iff.mp hc1).1
  have hheap : ((T.setVm vm').setCell (s0.heap.size + (b - xNC)) (arrV c1 n1 (fun j => xv s0 adc (va_cpy f g sp.toNatClampNeg dp.toNatClampNeg n.toNatClampNeg j)))).heap = H.setIfInBounds (s0.heap.size + (b - xNC)) (arrV c1 n1 (fun j => xv s0 adc (va_cpy f g sp.toNatClampNeg dp.toNatClampNeg n.toNatClampNeg j))) := by rw [← hT]; rfl
  obtain ⟨t, a1, b1⟩ := K _ _ (hR.put hnb hbb (cell := arrV c1 n1 (fun j => xv s0 adc (va_cpy f g sp.toNatClampNeg dp.toNatClampNeg n.toNatClampNeg j))) (by simp [Array.getElem?_setIfInBounds, hl]) ⟨c1, k1, k2, rfl⟩ (by simp) (fun q hq => by simp [Array.getElem?_setIfInBounds, Ne.symm hq])) (fun q hq => by
      rcases List.mem_append.mp hq with h | h
      · exact hlk q h
      · obtain ⟨z, -, hz⟩ := List.mem_map.mp h
        rw [← hz]
        exact Nat.le_add_right _ _) _ hheap X'
  exact ⟨t, step t a1, b1⟩
theorem snd_step {Lc : List xE} {nL kd j len : Nat} {i : Instr} {ax : List Nat} {cv : Value} {lv lv' : xL} {st st' : List Value} {hp' : xH} {j' : Nat} {e' : xE} {y : MethodName} {bytes : ByteArray} {rest : List xE} (hcl : ∀ ci, ci < 10 → xkCl ci = true) (hx : p.tables.exec = Jvm.exec) (hb : c.code = bytes) (hml : c.maxLocals = nL) (hown : s.vm.findClass y.cls = some m.cls) (hname : meth.name = y.name) (hW : s0.WarmedH s.vm) (hG : xGl s0 b0 adc L xs) (hR : xRel s0 adc L xs hp H) (hlk : xLk s0 locs) (hl : lv_has ls nL (xlv s0 adc lv)) (hfr : 1 ≤ R.frames) (hlo : 30 ≤ R.locals)
    (hck : xkE Lc y bytes rest (pc, kd, i, len, ax, cv) = true) (hrest : Lc[j + 1]? = rest.head?) (k1 : kd ≠ 1) (k2 : kd ≠ 2) (k3 : kd ≠ 3) (hcr : cells ≤ R.cells) (hsr : slots ≤ R.slots)
    (h : xstp nL kd j i ax cv lv st hp = some (j', lv', st', hp')) (he' : Lc[j']? = some e') (hrc : cells + (hp'.1 - hp.1) ≤ R.cells) (hrs : slots + (hp'.2.1 - hp.2.1) ≤ R.slots)
    (K : ∀ (H1 : Heap) (locs1 : List Loc) (ls1 : Array Slot), xRel s0 adc L xs hp' H1 → xLk s0 locs1 → lv_has ls1 nL (xlv s0 adc lv') → W p l e R s m args below meth c H1 locs1 (cells + (hp'.1 - hp.1)) (slots + (hp'.2.1 - hp.2.1)) Q (F0 m e'.1 ls1 (st'.map (xv s0 adc)))) :
    W p l e R s m args below meth c H locs cells slots Q (F0 m pc ls (st.map (xv s0 adc))) := by
  simp only [xkE, Bool.and_eq_true, decide_eq_true_eq] at hck
  obtain ⟨⟨hd, hnx⟩, hck⟩ := hck
  have hn : ∀ e1, Lc[j + 1]? = some e1 → e1.1 = pc + len := by
    intro e1 he1
    rw [hrest] at he1
    cases rest with
    | nil => cases he1
    | cons a r =>
      cases he1
      exact eq_of_beq hnx
  have hsz : c.maxLocals = ls.size := by rw [hml]; exact hl.1.symm
  have rm := hlo
  unfold xstp at h
  split at h
  · obtain ⟨e1, hw⟩ := snd_A (R := R) (e := e) (l := l) (args := args) (below := below) (meth := meth) (H := H) (locs := locs) (cells := cells) (slots := slots) (Q := Q) hx hb hown hG.1 hW hd hn hck h he' hl (fun e1 ls' h' => by
      subst e1
      have K1 := K H locs ls' hR hlk h'
      simp only [Nat.sub_self, Nat.add_zero] at K1
      exact K1)
    exact hw
  · have elv : lv' = lv := (snd_B (R := R) (e := e) (l := l) (args := args) (below := below) (meth := meth) (H := H) (locs := locs) (cells := cells) (slots := slots) (Q := fun _ => True) (ls := ls) hcl hx hb hown hname hW hG hR hlk hd hn hck h he' hrc hrs (fun H1 locs1 _ _ T hT X => ⟨_, Steps.refl _, trivial⟩)).1
    subst elv
    exact (snd_B (R := R) (e := e) (l := l) (args := args) (below := below) (meth := meth) (H := H) (locs := locs) (cells := cells) (slots := slots) (Q := Q) hcl hx hb hown hname hW hG hR hlk hd hn hck h he' hrc hrs (fun H1 locs1 h1 h2 => K H1 locs1 ls h1 h2 hl)).2
  · simp only [Bool.and_eq_true, beq_iff_eq] at hck
    obtain ⟨hlen, hck⟩ := hck
    split at h
    · rename_i a st2
      split at h
      · rename_i hok
        obtain ⟨hsome, hsum⟩ := hok
        simp only [Option.some.injEq, Prod.mk.injEq] at h
        obtain ⟨rfl, rfl, rfl, rfl⟩ := h
        have hpc := hn e' he'
        have K1 := K H locs ls hR hlk hl
        simp only [Nat.sub_self, Nat.add_zero] at K1
        split at hck
        · rename_i x o z w hw
          obtain ⟨rfl, rfl, rfl⟩ := of_decide_eq_true hck
          rw [hlen] at hd hpc
          rw [hpc] at K1
          obtain ⟨cc0, hcc0⟩ := Option.isSome_iff_exists.mp hsome
          obtain ⟨ar, cell, g1, -⟩ := hR.wk hG hcc0
          have hv : xv s0 adc (.ref a) = .ref ar := congrArg va_rf g1
          show W p l e R s m args below meth c H locs cells slots Q (F0 m pc ls (xv s0 adc (.ref a) :: st2.map (xv s0 adc)))
          rw [hv]
          exact W.objInit hx hb hown (xwd hG.1 hW hw rfl) (xwd hG.1 hW (show xw 0 31 = some (.instanceMethod objectInit) by decide +kernel) rfl) (xwd hG.1 hW (show xw 0 32 = some (.code objectInit ⟨#[0xb1]⟩ 1 none) by decide +kernel) rfl) rfl hsz.symm rfl hd hfr (by
            show 2 * 0 + _ + 12 ≤ _
            rw [xv_sum]
            omega) K1
        · exact absurd hck (by simp)
      · exact absurd h (by simp)
    · exact absurd h (by simp)
  · simp only [Bool.and_eq_true, beq_iff_eq] at hck
    obtain ⟨hlen, hck⟩ := hck
    unfold xcopy at h
    split at h
    · rename_i n dp b sp a st2
      split at h
      · rename_i n0 f n1 g hfa hfb
        split at h
        · rename_i hok
          obtain ⟨o1, o2, o3, o4, o5, o6, o7, o8, o9⟩ := hok
          simp only [Option.some.injEq, Prod.mk.injEq] at h
          obtain ⟨rfl, rfl, rfl, rfl⟩ := h
          have hpc := hn e' he'
          simp only [xput, Nat.sub_self, Nat.add_zero] at K
          split at hck
          · rename_i x o z w hw
            obtain ⟨rfl, rfl, rfl⟩ := of_decide_eq_true hck
            rw [hlen] at hd hpc
            rw [hpc] at K
            refine S_copy hx hb hsz hown hG hW hR hlk hw o6 o7 hfa hfb o1 o2 o3 o4 o5 (Or.inl ⟨rfl, rfl, o9⟩) hfr (by
              rw [xv_sum]
              have hnw : nativeFrameWords "java/lang/System" "arraycopy" 5 = 7 := by decide
              omega) hd (fun H1 locs1 g1 g2 => K H1 locs1 ls g1 g2 hl)
          · exact absurd hck (by simp)
        · exact absurd h (by simp)
      · rename_i C n0 f D n1 g hfa hfb
        split at h
        · rename_i hok
          obtain ⟨o1, o2, o3, o4, o5, o6, o7, o8, rfl, o9⟩ := hok
          simp only [Option.some.injEq, Prod.mk.injEq] at h
          obtain ⟨rfl, rfl, rfl, rfl⟩ := h
          have hpc := hn e' he'
          simp only [xput, Nat.sub_self, Nat.add_zero] at K
          split at hck
          · rename_i x o z w hw
            obtain ⟨rfl, rfl, rfl⟩ := of_decide_eq_true hck
            rw [hlen] at hd hpc
            rw [hpc] at K
            refine S_copy hx hb hsz hown hG hW hR hlk hw o6 o7 hfa hfb o1 o2 o3 o4 o5 (Or.inr ⟨C, rfl, rfl, o9⟩) hfr (by
              rw [xv_sum]
              have hnw : nativeFrameWords "java/lang/System" "arraycopy" 5 = 7 := by decide
              omega) hd (fun H1 locs1 g1 g2 => K H1 locs1 ls g1 g2 hl)
          · exact absurd hck (by simp)
        · exact absurd h (by simp)
      · exact absurd h (by simp)
    · exact absurd h (by simp)
  · simp only [Bool.and_eq_true, beq_iff_eq] at hck
    obtain ⟨hlen, hck⟩ := hck
    split at hck
    · rename_i ix o z w hw
      obtain ⟨rfl, rfl, rfl⟩ := of_decide_eq_true hck
      rw [hlen] at hd hn
      have hlink := xwd (args := args) hG.1 hW hw rfl
      have hini : (Jvm.Cond.initialized "java/lang/Math").before args s = true := xwd hG.1 hW (show xw 0 17 = some (.initialized "java/lang/Math") by decide +kernel) rfl
      split at h
      · rename_i st2 b a hax
        split at h
        · rename_i hsum
          simp only [Option.some.injEq, Prod.mk.injEq] at h
          obtain ⟨rfl, rfl, rfl, rfl⟩ := h
          have hpc := hn e' he'
          have K1 := K H locs ls hR hlk hl
          simp only [Nat.sub_self, Nat.add_zero] at K1
          rw [hpc] at K1
          have hlk2 := hlink
          rw [hax] at hlk2
          exact va_mmax hx hb hsz hown hlk2 (xwd hG.1 hW (show xw 2 2 = some (.static Lib.Math.max.name) by decide +kernel) rfl) hini (xwd hG.1 hW (show xw 2 3 = some (.code Lib.Math.max.name Lib.Math.max.code 2 (some .int)) by decide +kernel) rfl) hfr (by rw [xv_sum]; omega) hcr hsr hd K1
        · exact absurd h (by simp)
      · rename_i st2 b a hax
        split at h
        · rename_i hsum
          simp only [Option.some.injEq, Prod.mk.injEq] at h
          obtain ⟨rfl, rfl, rfl, rfl⟩ := h
          have hpc := hn e' he'
          have K1 := K H locs ls hR hlk hl
          simp only [Nat.sub_self, Nat.add_zero] at K1
          rw [hpc] at K1
          have hlk2 := hlink
          rw [hax] at hlk2
          exact va_mmin hx hb hsz hown hlk2 (xwd hG.1 hW (show xw 2 5 = some (.static Lib.Math.min.name) by decide +kernel) rfl) hini (xwd hG.1 hW (show xw 2 6 = some (.code Lib.Math.min.name Lib.Math.min.code 2 (some .int)) by decide +kernel) rfl) hfr (by rw [xv_sum]; omega) hcr hsr hd K1
        · exact absurd h (by simp)
      · rename_i st2 a hax
        split at h
        · rename_i hsum
          simp only [Option.some.injEq, Prod.mk.injEq] at h
          obtain ⟨rfl, rfl, rfl, rfl⟩ := h
          have hpc := hn e' he'
          have K1 := K H locs ls hR hlk hl
          simp only [Nat.sub_self, Nat.add_zero] at K1
          rw [hpc] at K1
          have hlk2 := hlink
          rw [hax] at hlk2
          exact va_mabs hx hb hsz hown hlk2 (xwd hG.1 hW (show xw 1 207 = some (.static Lib.Math.abs.name) by decide +kernel) rfl) hini (xwd hG.1 hW (show xw 1 208 = some (.code Lib.Math.abs.name Lib.Math.abs.code 1 (some .int)) by decide +kernel) rfl) hfr (by rw [xv_sum]; omega) hcr hsr hd K1
        · exact absurd h (by simp)
      · exact absurd h (by simp)
    · exact absurd hck (by simp)
  · exact absurd h (by simp)
end SH
end
section
/-! Calls of constructors that may throw (the kit's vx_callI, vx_runI, vx_callIN, vx_runIN), and throws of which the heap is known to the cell (after the kit's vx_throwS, vx_throwSW). -/
section VXIA
variable {p : Program} {l : Launch} {e : Env} {R : Room} {s : State} {m : MethodId} {args : Array Value} {below : List Frame} {meth : Method} {c : Code} {T : State} {locs : List Loc} {cells slots : Nat}
theorem vx_callI (X : Stand p l e R s m args below meth c T locs cells slots) (hexec : p.tables.exec = Jvm.exec) {own : String} {index : Nat} {y : MethodName} {bytes : ByteArray} {maxL : Nat}
    (hown : s.vm.findClass own = some m.cls) (hy1 : y.name = "<init>") (hlink : (Cond.methodLink own index y).before args s = true) (hinst : (Cond.instanceMethod y).before args s = true)
    (hcode : (Cond.code y bytes maxL none).before args s = true) (hy : y.cls ≠ "java/lang/invoke/MethodHandle" ∧ y.cls ≠ "java/lang/invoke/VarHandle")
    {W9 : Nat} {Pre : Pt → Array Value → Prop} {Post : Pt → Array Value → Option Value → Pt → Prop} {PostX : Pt → Array Value → Addr → Pt → Prop} (hK : vx_Back l R p e below s args y 3 W9 Pre Post PostX)
    {g : JFrame} (hg : g.method = m) (hsize : g.locals.size = c.maxLocals) {a : Addr} {argsL rest : List Value} (hlen : ∀ sig, parseMethodDescriptor y.desc = some sig → argsL.length = sig.parameters.length)
    (hstack : g.stack = argsL.reverse ++ .ref a :: rest) (hW : 2 * g.monitorRoom + (rest.map fun v => v.category).sum ≤ W9) (hdg : decode c.code g.pc = .ok (.invokespecial index, 3))
    (hpre : ∀ vm₁, s.WarmedH vm₁ → Pre ⟨T.setVm vm₁, locs, cells, slots⟩ (Value.ref a :: argsL).toArray) :
    (∃ (v : Option Value) (vm₁ : Vm) (B : Pt), s.WarmedH vm₁ ∧ Stand p l e R s m args below meth c B.U B.locs B.cells B.slots ∧ Post ⟨T.setVm vm₁, locs, cells, slots⟩ (Value.ref a :: argsL).toArray v B ∧
      ∀ target, Steps p.tables e below (B.U.setTop { g with pc := g.pc + 3, stack := v.toList ++ rest }) target → Steps p.tables e below (T.setTop g) target) ∨
    (∃ (q : Addr) (vm₁ : Vm) (B : Pt), s.WarmedH vm₁ ∧ Stand p l e R s m args below meth c B.U B.locs B.cells B.slots ∧ PostX ⟨T.setVm vm₁, locs, cells, slots⟩ (Value.ref a :: argsL).toArray q B ∧
      Steps p.tables e below (T.setTop g) ((B.U.setTop { g with stack := rest }).pushFrame (.throwing q))) := by
  subst hg
  have hpl : e.platform.magicAccessors = ({} : Platform).magicAccessors := by rw [X.admits.platform]
  obtain ⟨mk, methM, cM, kP, vm₁, hnamed, hmethM, hcodeM, -, hlocalsM, -, hkP, -, hW₁, hstep₁⟩ := Steps.initColdArgs (e := e) X.here hexec X.warmed hpl hown hy1 hy hlink hinst hcode (f := g) rfl hlen hstack hdg
  have X₁ := X.noted hW₁
  rcases hK g.method meth c ⟨T.setVm vm₁, locs, cells, slots⟩ { g with stack := rest } (.invokespecial index) mk (Value.ref a :: argsL).toArray X₁ rfl hsize hdg hW (X₁.named hnamed) (hpre vm₁ X₁.warmed) with ⟨v, B, X', hpost, hsteps⟩ | ⟨q, B, X', hpost, hsteps⟩
  · exact Or.inl ⟨v, vm₁, B, X₁.warmed, X', hpost, fun target h => hstep₁ _ fun acts => by rw [doInvoke_state]; exact hsteps.trans h⟩
  · exact Or.inr ⟨q, vm₁, B, X₁.warmed, X', hpost, hstep₁ _ fun acts => by rw [doInvoke_state]; exact hsteps⟩
end VXIA
section VXIB
variable {p : Program} {l : Launch} {e : Env} {R : Room} {s : State} {m : MethodId} {args : Array Value} {below : List Frame} {meth : Method} {c : Code} {H : Heap} {locs : List Loc} {cells slots : Nat}
variable {y : MethodName} {bytes cc : ByteArray} {maxL nL mc ms n index : Nat} {ret : Option FieldType} {ws : List Cond} {rm : Room} {Pc : Array Value → State → Prop} {Qc : Array Value → State → Outcome → State → Prop} {XC : String → State → State → Prop} {free : Addr → Prop} {Ts : List Cond} {own C : String} {b : Addr} {As rest : List Value} {g : JFrame}
theorem vx_runI (S : CallFix p m c cc nL s args Ts own) (hM : vx_Met l y ws rm Pc Qc XC mc ms free) (cw : CallB R s args own index y bytes maxL none ws rm mc ms n ∧ y.name = "<init>" ∧ (Cond.instanceMethod y).before args s = true) (hp : PreS s H Pc (.ref b :: As))
    (hg : g.method = m) (hn : As.length = n) (hsize : g.locals.size = nL) (hstack : g.stack = As.reverse ++ .ref b :: rest) (hW : 2 * g.monitorRoom + (rest.map fun v => v.category).sum ≤ 8) (hdg : decode cc g.pc = .ok (.invokespecial index, 3)) (hf : cells + mc ≤ R.cells ∧ slots + ms ≤ R.slots) :
    vx_Run p l e R s m args below meth c H locs cells slots mc ms g rest (Qc (Value.ref b :: As).toArray) XC free := by
  have hK : vx_Back l R p e below s args y 3 8 (PreOf R mc ms Pc) (PostOf Qc mc ms free) (vx_Post XC mc ms free) := vx_callBack cw.1 hM hp.1
  obtain ⟨⟨-, -, -, -, -, -, hcode, -, hy, hlen, hl⟩, hy1, hin⟩ := cw
  obtain ⟨hx, hb, hml, ho, -⟩ := S
  have hPc := hp.2
  intro T hT X
  rcases vx_callI X hx (bytes := bytes) (maxL := maxL) ho hy1 hl hin hcode hy hK hg (hsize.trans hml.symm) (a := b) (argsL := As) (rest := rest) (fun sig h => hn.trans (hlen sig h)) hstack hW (by rw [hb]; exact hdg)
    (fun vm₁ hW₁ => ⟨hf.1, hf.2, hPc (T.setVm vm₁) hT hW₁⟩) with ⟨v, vm₁, ⟨U', l2, c2, s2⟩, hW₁, X', ⟨g', mk, t, L, e1, e2, hq, h1, hL, h2, h3⟩, st⟩ | ⟨q, vm₁, ⟨U', l2, c2, s2⟩, hW₁, X', ⟨g', mk, t, L, E, ce, e1, e2, hq, hce, hcv, hcl, h1, hL, h2, h3⟩, st⟩
  · dsimp only [Pt.U, Pt.locs, Pt.cells, Pt.slots] at X' e1 e2 h1 h2 h3 st
    subst h1; subst h2; subst h3
    exact Or.inl ⟨v, (T.setVm vm₁).calling g' mk (Value.ref b :: As).toArray, t, U', L, hT, X', hL, e1, e2, hq, st⟩
  · dsimp only [Pt.U, Pt.locs, Pt.cells, Pt.slots] at X' e1 e2 h1 h2 h3 st hcl
    subst h1; subst h2; subst h3
    exact Or.inr ⟨q, (T.setVm vm₁).calling g' mk (Value.ref b :: As).toArray, t, U', L, E, ce, hT, X', hL, e1, e2, hq, hce, hcv, vx_cls hW₁ hcl, st⟩
end VXIB
/-! ===== END ===== -/
/-! ===== BEGIN a private constructor of a nest mate that throws ===== -/
section VXIC
variable {p : Program} {l : Launch} {e : Env} {R : Room} {s : State} {m : MethodId} {args : Array Value} {below : List Frame} {meth : Method} {c : Code} {T : State} {locs : List Loc} {cells slots : Nat}
theorem vx_callIN (X : Stand p l e R s m args below meth c T locs cells slots) (hexec : p.tables.exec = Jvm.exec) {own : String} {index : Nat} {host : String} {y : MethodName} {bytes : ByteArray} {maxL : Nat}
    (hown : s.vm.findClass own = some m.cls) (hy1 : y.name = "<init>") (hlink : (Cond.methodLinkNest own index y host).before args s = true) (hinst : (Cond.instanceMethod y).before args s = true)
    (hcode : (Cond.code y bytes maxL none).before args s = true) (hy : y.cls ≠ "java/lang/invoke/MethodHandle" ∧ y.cls ≠ "java/lang/invoke/VarHandle")
    {W9 : Nat} {Pre : Pt → Array Value → Prop} {Post : Pt → Array Value → Option Value → Pt → Prop} {PostX : Pt → Array Value → Addr → Pt → Prop} (hK : vx_Back l R p e below s args y 3 W9 Pre Post PostX)
    {g : JFrame} (hg : g.method = m) (hsize : g.locals.size = c.maxLocals) {a : Addr} {argsL rest : List Value} (hlen : ∀ sig, parseMethodDescriptor y.desc = some sig → argsL.length = sig.parameters.length)
    (hstack : g.stack = argsL.reverse ++ .ref a :: rest) (hW : 2 * g.monitorRoom + (rest.map fun v => v.category).sum ≤ W9) (hdg : decode c.code g.pc = .ok (.invokespecial index, 3))
    (hpre : ∀ vm₁, s.WarmedH vm₁ → Pre ⟨T.setVm vm₁, locs, cells, slots⟩ (Value.ref a :: argsL).toArray) :
    (∃ (v : Option Value) (vm₁ : Vm) (B : Pt), s.WarmedH vm₁ ∧ Stand p l e R s m args below meth c B.U B.locs B.cells B.slots ∧ Post ⟨T.setVm vm₁, locs, cells, slots⟩ (Value.ref a :: argsL).toArray v B ∧
      ∀ target, Steps p.tables e below (B.U.setTop { g with pc := g.pc + 3, stack := v.toList ++ rest }) target → Steps p.tables e below (T.setTop g) target) ∨
    (∃ (q : Addr) (vm₁ : Vm) (B : Pt), s.WarmedH vm₁ ∧ Stand p l e R s m args below meth c B.U B.locs B.cells B.slots ∧ PostX ⟨T.setVm vm₁, locs, cells, slots⟩ (Value.ref a :: argsL).toArray q B ∧
      Steps p.tables e below (T.setTop g) ((B.U.setTop { g with stack := rest }).pushFrame (.throwing q))) := by
  subst hg
  have hpl : e.platform.magicAccessors = ({} : Platform).magicAccessors := by rw [X.admits.platform]
  obtain ⟨mk, methM, cM, kP, vm₁, hnamed, hmethM, hcodeM, -, hlocalsM, -, hkP, -, hW₁, hstep₁⟩ := Steps.initColdArgsNest (e := e) X.here hexec X.warmed hpl hown hy1 hy hlink hinst hcode (f := g) rfl hlen hstack hdg
  have X₁ := X.noted hW₁
  rcases hK g.method meth c ⟨T.setVm vm₁, locs, cells, slots⟩ { g with stack := rest } (.invokespecial index) mk (Value.ref a :: argsL).toArray X₁ rfl hsize hdg hW (X₁.named hnamed) (hpre vm₁ X₁.warmed) with ⟨v, B, X', hpost, hsteps⟩ | ⟨q, B, X', hpost, hsteps⟩
  · exact Or.inl ⟨v, vm₁, B, X₁.warmed, X', hpost, fun target h => hstep₁ _ fun acts => by rw [doInvoke_state]; exact hsteps.trans h⟩
  · exact Or.inr ⟨q, vm₁, B, X₁.warmed, X', hpost, hstep₁ _ fun acts => by rw [doInvoke_state]; exact hsteps⟩
end VXIC
section VXID
variable {p : Program} {l : Launch} {e : Env} {R : Room} {s : State} {m : MethodId} {args : Array Value} {below : List Frame} {meth : Method} {c : Code} {H : Heap} {locs : List Loc} {cells slots : Nat}
theorem vx_runIN {y : MethodName} {bytes cc : ByteArray} {maxL nL mc ms n index : Nat} {ws : List Cond} {rm : Room} {Pc : Array Value → State → Prop} {Qc : Array Value → State → Outcome → State → Prop} {XC : String → State → State → Prop} {free : Addr → Prop} {Ts : List Cond} {own host : String} {b : Addr} {As rest : List Value} {g : JFrame}
    (S : CallFix p m c cc nL s args Ts own) (hM : vx_Met l y ws rm Pc Qc XC mc ms free) (cw : va_CN R s args own index y host bytes maxL none ws rm mc ms n ∧ y.name = "<init>" ∧ (Cond.instanceMethod y).before args s = true) (hp : PreS s H Pc (.ref b :: As))
    (hg : g.method = m) (hn : As.length = n) (hsize : g.locals.size = nL) (hstack : g.stack = As.reverse ++ .ref b :: rest) (hW : 2 * g.monitorRoom + (rest.map fun v => v.category).sum ≤ 8) (hdg : decode cc g.pc = .ok (.invokespecial index, 3)) (hf : cells + mc ≤ R.cells ∧ slots + ms ≤ R.slots) :
    vx_Run p l e R s m args below meth c H locs cells slots mc ms g rest (Qc (Value.ref b :: As).toArray) XC free := by
  obtain ⟨⟨⟨hrc, hrs, hfr, hlo, hws, hcw⟩, hcode, hini, hy, hlen, hl⟩, hx1, hx2⟩ := cw
  have hK : vx_Back l R p e below s args y 3 8 (PreOf R mc ms Pc) (PostOf Qc mc ms free) (vx_Post XC mc ms free) := vx_back (bytes := bytes) (maxL := maxL) (ret := none) hM hp.1 hrc hrs hfr hlo hws hcw (fun a' U hW => word_at hW (Or.inl (by first | rfl | simp [Cond.onTables, Cond.keeps, Cond.steady])) hini)
  obtain ⟨hx, hb, hml, ho, -⟩ := S
  have hPc := hp.2
  intro T hT X
  rcases vx_callIN X hx (bytes := bytes) (maxL := maxL) ho hx1 hl hx2 hcode hy hK hg (hsize.trans hml.symm) (a := b) (argsL := As) (rest := rest) (fun sig h => hn.trans (hlen sig h)) hstack hW (by rw [hb]; exact hdg)
    (fun vm₁ hW₁ => ⟨hf.1, hf.2, hPc (T.setVm vm₁) hT hW₁⟩) with ⟨v, vm₁, ⟨U', l2, c2, s2⟩, hW₁, X', ⟨g', mk, t, L, e1, e2, hq, h1, hL, h2, h3⟩, st⟩ | ⟨q, vm₁, ⟨U', l2, c2, s2⟩, hW₁, X', ⟨g', mk, t, L, E, ce, e1, e2, hq, hce, hcv, hcl, h1, hL, h2, h3⟩, st⟩
  · dsimp only [Pt.U, Pt.locs, Pt.cells, Pt.slots] at X' e1 e2 h1 h2 h3 st
    subst h1; subst h2; subst h3
    exact Or.inl ⟨v, (T.setVm vm₁).calling g' mk (Value.ref b :: As).toArray, t, U', L, hT, X', hL, e1, e2, hq, st⟩
  · dsimp only [Pt.U, Pt.locs, Pt.cells, Pt.slots] at X' e1 e2 h1 h2 h3 st hcl
    subst h1; subst h2; subst h3
    exact Or.inr ⟨q, (T.setVm vm₁).calling g' mk (Value.ref b :: As).toArray, t, U', L, E, ce, hT, X', hL, e1, e2, hq, hce, hcv, vx_cls hW₁ hcl, st⟩
end VXID
section XTH
variable {p : Program} {l : Launch} {e : Env} {R : Room} {s : State} {m : MethodId} {args : Array Value} {below : List Frame} {meth : Method} {c : Code} {H : Heap} {locs : List Loc} {cells slots : Nat} {Q : State → Prop}
variable {mc ms : Nat} {free : Addr → Prop} {A0 A1 : Nat → Prop} {H0 : Heap} {a : Array Value} {ls : Array Slot} {st0 rest : List Value}
variable {Qc : Array Value → State → Outcome → State → Prop} {XC : String → State → State → Prop}
theorem x_throwS {cc : ByteArray} {pc : Nat} (hexec : p.tables.exec = Jvm.exec) (hb : c.code = cc) (hl : l.stackTraces = false) {own cls text : String} {names : List String} {ik is ic mc ms sa : Nat} {A : Nat → Prop}
    (hown : s.vm.findClass own = some m.cls) (hcls : Bundle.fit cls = true) (hnames : ∀ n ∈ names, Bundle.fit n = true)
    (hk : (Cond.classLink own ik cls).before args s = true) (hini : (Cond.initialized cls).before args s = true) (hstr : vk_R own is text sa s) (hat : ∀ w ∈ vx_atS own ic cls names, w.before args s = true)
    (hgood : ∀ w ∈ Cond.classLink own ik cls :: Cond.initialized cls :: vx_atS own ic cls names, vx_ot w = true)
    (hU : vx_Zq Bundle.tN "UNASSIGNED_STACK" Bundle.steD A s H) (hN : vx_Zq Bundle.tN "SUPPRESSED_SENTINEL" Bundle.listD A s H) (hsize : ls.size = c.maxLocals)
    (d0 : decode cc pc = .ok (.new ik, 3)) (d3 : decode cc (pc + 3) = .ok (.dup, 1)) (d4 : decode cc (pc + 4) = .ok (.ldc is, 2)) (d6 : decode cc (pc + 6) = .ok (.invokespecial ic, 3)) (d9 : decode cc (pc + 9) = .ok (.athrow, 1))
    (hout : ∀ x ∈ c.exceptionTable.toList, covers x (pc + 9) = false)
    (hRframes : names.length + 3 < R.frames) (hRlocals : (rest.map fun v => v.category).sum + (13 * (names.length + 1) + 43) ≤ R.locals) (hRcells : cells + 1 ≤ R.cells) (hRslots : slots + 6 ≤ R.slots) (hlocks : meth.locks = false)
    (hx : ∀ t : State, s.vm.Alike t.vm → t.heap.size = H.size + 1 → (∀ q : Nat, q < H.size → t.heap[q]? = H[q]?) → XC cls s t)
    (hf : ∀ z ∈ locs, free z.base) (hc : cells + 1 ≤ mc) (hs : slots + 6 ≤ ms) :
    W p l e R s m args below meth c H locs cells slots (vx_MQ below Qc XC args s mc ms free) (F0 m pc ls rest) := by
  intro T hT X
  have htr : e.platform.stackTraces = false := (show e.platform.stackTraces = l.stackTraces by rw [X.admits.platform]).trans hl
  have Y := vx_rebase X (R' := { frames := R.frames, locals := R.locals, cells := 1, slots := 6 }) (Nat.le_refl _) (Nat.le_refl _) hRcells hRslots
  obtain ⟨s', hA⟩ : ∃ z, z = (T.setVm s.vm).setFrames (.invoking m args :: below) := ⟨_, rfl⟩
  rw [← hA] at Y
  have hvm : s'.vm = s.vm := by rw [hA]; rfl
  have hhp : s'.heap = H := by rw [hA]; exact hT
  have hW0 : s.WarmedH s'.vm := by rw [hvm]; exact State.WarmedH.refl s
  have hat' : ∀ w ∈ vx_atS own ic cls names, w.before args s' = true := fun w hw => vx_ot_at hW0 hvm.symm (hgood w (List.mem_cons_of_mem _ (List.mem_cons_of_mem _ hw))) (hat w hw)
  have hk' : (Cond.classLink own ik cls).before args s' = true := vx_ot_at hW0 hvm.symm (hgood _ List.mem_cons_self) hk
  have hini' : (Cond.initialized cls).before args s' = true := vx_ot_at hW0 hvm.symm (hgood _ (List.mem_cons_of_mem _ List.mem_cons_self)) hini
  have hU' : vx_Zq Bundle.tN "UNASSIGNED_STACK" Bundle.steD A s' s'.heap := by rw [hhp]; exact vx_Zq.moved hW0.alike hU
  have hN' : vx_Zq Bundle.tN "SUPPRESSED_SENTINEL" Bundle.listD A s' s'.heap := by rw [hhp]; exact vx_Zq.moved hW0.alike hN
  have h : ∀ w ∈ Bundle.ownAtoms own ic cls names, w.before args s' = true := vx_own hat' (vx_isRefq hU'.1) (vx_isRefq hN'.1) hU'.2.word hN'.2.word
  have hown' : s'.vm.findClass own = some m.cls := by rw [hvm]; exact hown
  have hins : (Cond.instantiable cls 6).before args s' = true := h _ (by simp [Bundle.ownAtoms])
  obtain ⟨vm₁, cX, kX, hfX, hkX, -, -, X₁, st1⟩ := Y.newCold hexec (own := own) (C := cls) (index := ik) (n := 6) hown' hk' hins hini'
    (g := F0 m pc ls rest) rfl (by rw [hb]; exact d0) (Nat.le_refl _) (Nat.le_refl _)
  generalize hT1 : (T.setVm vm₁).pushCell { cls := cX, slots := kX.instanceTypes.map defaultValue, vm := .none } = T1 at X₁ st1
  have hcat : (Value.ref T.heap.size).category = 1 := rfl
  have hcellA : T1.heap[T.heap.size]? = some (freshCell cX kX) := by rw [← hT1]; exact State.heap_pushCell_size _ _
  have d3' : decode c.code (pc + 3) = .ok (.dup, 1) := by rw [hb]; exact d3
  have d4' : decode c.code (pc + 4) = .ok (.ldc is, 2) := by rw [hb]; exact d4
  have hstr' : vk_R own is text sa s' := vk_R.warm hW0 hstr
  obtain ⟨U, hsteps, hrun, hend, hW, hsame, ce, hce, hO⟩ := X₁.ctorThrowS hexec htr (own := own) (cls := cls) (names := names) (ic := ic) hown' hcls hnames h (fun x hx => nomatch hx) hfX hkX hcellA (by rw [hhp, hT]; exact Nat.le_refl _) (msg := .ref sa) rfl
    (g := { method := m, pc := pc + 6, locals := ls, stack := .ref sa :: .ref T.heap.size :: .ref T.heap.size :: rest, locked := none }) rfl hsize rfl rfl (rest := rest) rfl
    (by rw [hb]; exact d6) (by rw [hb]; exact d9) hout hRframes (by simp only [List.map_cons, List.sum_cons, hcat]; omega) hlocks
  obtain ⟨f1, f2⟩ := vx_frame hsame
  rw [hhp] at f1 f2
  have hWs : s.WarmedH U.vm := State.WarmedH.trans hW0 hW
  have hcl : s.vm.findClass cls = some ce.cls := by
    have h9 := hO.cls
    rw [hvm] at h9
    exact h9
  have hsz1 : U.heap.size = H.size + 1 := by
    have g1 : U.heap.size ≤ s'.heap.size + 1 := hsame.2.2.1
    have g2 : T.heap.size < U.heap.size := (Array.getElem?_eq_some_iff.mp hce).1
    rw [hhp] at g1
    rw [hT] at g2
    omega
  have hall : s.sameButNew ({ U with vm := s.vm } : State) locs mc ms := by
    subst hA
    obtain ⟨e1, e2⟩ := hsame
    rw [State.setFrames_setFrames] at e1
    have h2 : (T.setVm s.vm).sameButNew ({ U with vm := s.vm } : State) [] (0 + 1) (0 + 6) := ⟨e1, e2⟩
    have h3 := X.same.trans h2
    rw [List.append_nil] at h3
    exact h3.mono hc hs
  refine ⟨U, ?_, .threw T.heap.size, hrun, hend, Or.inr ⟨T.heap.size, rfl, cls, ce, locs, hx U hWs.alike hsz1 (fun q hq => f2 q hq (fun z hz => nomatch hz)), hce, hO.vm, hcl, hWs, hall, hf⟩⟩
  refine st1 _ ?_
  show Steps p.tables e below (T1.setTop { method := m, pc := pc + 3, locals := ls, stack := .ref T.heap.size :: rest, locked := none }) _
  jvm_step X₁.here [X₁.here.top, hexec, d3', Value.category]
  exact X₁.ldcString hexec (own := own) (text := text) (index := is) (a := sa) hown' hstr'.1 hstr'.2
    (g := { method := m, pc := pc + 4, locals := ls, stack := .ref T.heap.size :: .ref T.heap.size :: rest, locked := none }) rfl d4' _ hsteps
theorem x_throwSW {cc : ByteArray} {pc : Nat} (hexec : p.tables.exec = Jvm.exec) (hb : c.code = cc) (hl : l.stackTraces = false) {own cls text : String} {names : List String} {ik is ic mc ms sa : Nat} {A : Nat → Prop}
    (hown : s.vm.findClass own = some m.cls) (hcls : Bundle.fit cls = true) (hnames : ∀ n ∈ names, Bundle.fit n = true)
    (hk : (Cond.classLink own ik cls).before args s = true) (hini : (Cond.initialized cls).before args s = true) (hstr : vk_R own is text sa s) (hat : ∀ w ∈ vx_atS own ic cls names, w.before args s = true)
    (hgood : ∀ w ∈ Cond.classLink own ik cls :: Cond.initialized cls :: vx_atS own ic cls names, vx_ot w = true)
    (hU : vx_Zq Bundle.tN "UNASSIGNED_STACK" Bundle.steD A s H) (hN : vx_Zq Bundle.tN "SUPPRESSED_SENTINEL" Bundle.listD A s H) (hsize : ls.size = c.maxLocals)
    (d0 : decode cc pc = .ok (.new ik, 3)) (d3 : decode cc (pc + 3) = .ok (.dup, 1)) (d4 : decode cc (pc + 4) = .ok (.ldc_w is, 3)) (d7 : decode cc (pc + 7) = .ok (.invokespecial ic, 3)) (d10 : decode cc (pc + 10) = .ok (.athrow, 1))
    (hout : ∀ x ∈ c.exceptionTable.toList, covers x (pc + 10) = false)
    (hRframes : names.length + 3 < R.frames) (hRlocals : (rest.map fun v => v.category).sum + (13 * (names.length + 1) + 43) ≤ R.locals) (hRcells : cells + 1 ≤ R.cells) (hRslots : slots + 6 ≤ R.slots) (hlocks : meth.locks = false)
    (hx : ∀ t : State, s.vm.Alike t.vm → t.heap.size = H.size + 1 → (∀ q : Nat, q < H.size → t.heap[q]? = H[q]?) → XC cls s t)
    (hf : ∀ z ∈ locs, free z.base) (hc : cells + 1 ≤ mc) (hs : slots + 6 ≤ ms) :
    W p l e R s m args below meth c H locs cells slots (vx_MQ below Qc XC args s mc ms free) (F0 m pc ls rest) := by
  intro T hT X
  have htr : e.platform.stackTraces = false := (show e.platform.stackTraces = l.stackTraces by rw [X.admits.platform]).trans hl
  have Y := vx_rebase X (R' := { frames := R.frames, locals := R.locals, cells := 1, slots := 6 }) (Nat.le_refl _) (Nat.le_refl _) hRcells hRslots
  obtain ⟨s', hA⟩ : ∃ z, z = (T.setVm s.vm).setFrames (.invoking m args :: below) := ⟨_, rfl⟩
  rw [← hA] at Y
  have hvm : s'.vm = s.vm := by rw [hA]; rfl
  have hhp : s'.heap = H := by rw [hA]; exact hT
  have hW0 : s.WarmedH s'.vm := by rw [hvm]; exact State.WarmedH.refl s
  have hat' : ∀ w ∈ vx_atS own ic cls names, w.before args s' = true := fun w hw => vx_ot_at hW0 hvm.symm (hgood w (List.mem_cons_of_mem _ (List.mem_cons_of_mem _ hw))) (hat w hw)
  have hk' : (Cond.classLink own ik cls).before args s' = true := vx_ot_at hW0 hvm.symm (hgood _ List.mem_cons_self) hk
  have hini' : (Cond.initialized cls).before args s' = true := vx_ot_at hW0 hvm.symm (hgood _ (List.mem_cons_of_mem _ List.mem_cons_self)) hini
  have hU' : vx_Zq Bundle.tN "UNASSIGNED_STACK" Bundle.steD A s' s'.heap := by rw [hhp]; exact vx_Zq.moved hW0.alike hU
  have hN' : vx_Zq Bundle.tN "SUPPRESSED_SENTINEL" Bundle.listD A s' s'.heap := by rw [hhp]; exact vx_Zq.moved hW0.alike hN
  have h : ∀ w ∈ Bundle.ownAtoms own ic cls names, w.before args s' = true := vx_own hat' (vx_isRefq hU'.1) (vx_isRefq hN'.1) hU'.2.word hN'.2.word
  have hown' : s'.vm.findClass own = some m.cls := by rw [hvm]; exact hown
  have hins : (Cond.instantiable cls 6).before args s' = true := h _ (by simp [Bundle.ownAtoms])
  obtain ⟨vm₁, cX, kX, hfX, hkX, -, -, X₁, st1⟩ := Y.newCold hexec (own := own) (C := cls) (index := ik) (n := 6) hown' hk' hins hini'
    (g := F0 m pc ls rest) rfl (by rw [hb]; exact d0) (Nat.le_refl _) (Nat.le_refl _)
  generalize hT1 : (T.setVm vm₁).pushCell { cls := cX, slots := kX.instanceTypes.map defaultValue, vm := .none } = T1 at X₁ st1
  have hcat : (Value.ref T.heap.size).category = 1 := rfl
  have hcellA : T1.heap[T.heap.size]? = some (freshCell cX kX) := by rw [← hT1]; exact State.heap_pushCell_size _ _
  have d3' : decode c.code (pc + 3) = .ok (.dup, 1) := by rw [hb]; exact d3
  have d4' : decode c.code (pc + 4) = .ok (.ldc_w is, 3) := by rw [hb]; exact d4
  have hstr' : vk_R own is text sa s' := vk_R.warm hW0 hstr
  obtain ⟨U, hsteps, hrun, hend, hW, hsame, ce, hce, hO⟩ := X₁.ctorThrowS hexec htr (own := own) (cls := cls) (names := names) (ic := ic) hown' hcls hnames h (fun x hx => nomatch hx) hfX hkX hcellA (by rw [hhp, hT]; exact Nat.le_refl _) (msg := .ref sa) rfl
    (g := { method := m, pc := pc + 7, locals := ls, stack := .ref sa :: .ref T.heap.size :: .ref T.heap.size :: rest, locked := none }) rfl hsize rfl rfl (rest := rest) rfl
    (by rw [hb]; exact d7) (by rw [hb]; exact d10) hout hRframes (by simp only [List.map_cons, List.sum_cons, hcat]; omega) hlocks
  obtain ⟨f1, f2⟩ := vx_frame hsame
  rw [hhp] at f1 f2
  have hWs : s.WarmedH U.vm := State.WarmedH.trans hW0 hW
  have hcl : s.vm.findClass cls = some ce.cls := by
    have h9 := hO.cls
    rw [hvm] at h9
    exact h9
  have hsz1 : U.heap.size = H.size + 1 := by
    have g1 : U.heap.size ≤ s'.heap.size + 1 := hsame.2.2.1
    have g2 : T.heap.size < U.heap.size := (Array.getElem?_eq_some_iff.mp hce).1
    rw [hhp] at g1
    rw [hT] at g2
    omega
  have hall : s.sameButNew ({ U with vm := s.vm } : State) locs mc ms := by
    subst hA
    obtain ⟨e1, e2⟩ := hsame
    rw [State.setFrames_setFrames] at e1
    have h2 : (T.setVm s.vm).sameButNew ({ U with vm := s.vm } : State) [] (0 + 1) (0 + 6) := ⟨e1, e2⟩
    have h3 := X.same.trans h2
    rw [List.append_nil] at h3
    exact h3.mono hc hs
  refine ⟨U, ?_, .threw T.heap.size, hrun, hend, Or.inr ⟨T.heap.size, rfl, cls, ce, locs, hx U hWs.alike hsz1 (fun q hq => f2 q hq (fun z hz => nomatch hz)), hce, hO.vm, hcl, hWs, hall, hf⟩⟩
  refine st1 _ ?_
  show Steps p.tables e below (T1.setTop { method := m, pc := pc + 3, locals := ls, stack := .ref T.heap.size :: rest, locked := none }) _
  jvm_step X₁.here [X₁.here.top, hexec, d3', Value.category]
  exact X₁.ldcStringW hexec (own := own) (text := text) (index := is) (a := sa) hown' hstr'.1 hstr'.2
    (g := { method := m, pc := pc + 4, locals := ls, stack := .ref T.heap.size :: .ref T.heap.size :: rest, locked := none }) rfl d4' _ hsteps
end XTH
end
section
/-! The counters only grow. -/
theorem xsA_hp {nL j : Nat} {i : Instr} {ax : List Nat} {cv : Value} {lv lv' : xL} {st st' : List Value} {hp hp' : xH} {j' : Nat} (h : xsA nL j i ax cv lv st hp = some (j', lv', st', hp')) : hp' = hp := by
  unfold xsA at h
  simp only [xjmp] at h
  split at h <;> (repeat' split at h) <;> first | (simp only [Option.some.injEq, Prod.mk.injEq] at h; exact h.2.2.2.symm) | (simp at h)
theorem xsB_grow {j : Nat} {i : Instr} {ax : List Nat} {cv : Value} {lv lv' : xL} {st st' : List Value} {hp hp' : xH} {j' : Nat} (h : xsB j i ax cv lv st hp = some (j', lv', st', hp')) : hp.1 ≤ hp'.1 ∧ hp.2.1 ≤ hp'.2.1 := by
  unfold xsB at h
  simp only [xjmp] at h
  split at h <;> (repeat' split at h) <;> first | (simp only [Option.some.injEq, Prod.mk.injEq] at h; obtain ⟨-, -, -, rfl⟩ := h; first | exact ⟨Nat.le_refl _, Nat.le_refl _⟩ | exact ⟨Nat.le_succ _, Nat.le_add_right _ _⟩) | (simp at h)
theorem xstp_grow {nL kd j : Nat} {i : Instr} {ax : List Nat} {cv : Value} {lv lv' : xL} {st st' : List Value} {hp hp' : xH} {j' : Nat} (h : xstp nL kd j i ax cv lv st hp = some (j', lv', st', hp')) : hp.1 ≤ hp'.1 ∧ hp.2.1 ≤ hp'.2.1 := by
  unfold xstp at h
  split at h
  · rw [xsA_hp h]
    exact ⟨Nat.le_refl _, Nat.le_refl _⟩
  · exact xsB_grow h
  all_goals (try unfold xcopy at h)
  all_goals (repeat' split at h)
  all_goals first | (simp only [Option.some.injEq, Prod.mk.injEq] at h; obtain ⟨-, -, -, rfl⟩ := h; exact ⟨Nat.le_refl _, Nat.le_refl _⟩) | (simp at h)
theorem xrun_grow (tab : Nat → xM) : ∀ (n d k j : Nat) (lv : xL) (st : List Value) (hp : xH) (o : xO) (hp' : xH), xrun tab n d k j lv st hp = some (o, hp') → hp.1 ≤ hp'.1 ∧ hp.2.1 ≤ hp'.2.1 := by
  intro n
  induction n with
  | zero => intro d k j lv st hp o hp' h; simp [xrun] at h
  | succ n ih =>
    intro d k j lv st hp o hp' h
    unfold xrun at h
    split at h
    · exact absurd h (by simp)
    · rename_i pc kd i len ax cv he
      split at h
      · split at h
        · exact absurd h (by simp)
        · split at h
          · split at h
            · exact absurd h (by simp)
            · split at h
              · exact absurd h (by simp)
              · rename_i v hp1 hcall
                have g1 := ih _ _ _ _ _ _ _ _ hcall
                have g2 := ih _ _ _ _ _ _ _ _ h
                omega
              · rename_i E hp1 hcall
                have g1 := ih _ _ _ _ _ _ _ _ hcall
                split at h
                · cases h
                  exact g1
                · have g2 := ih _ _ _ _ _ _ _ _ h
                  omega
          · exact absurd h (by simp)
      · split at h
        · cases h
          exact ⟨Nat.le_refl _, Nat.le_refl _⟩
        · exact absurd h (by simp)
      · split at h
        · exact absurd h (by simp)
        · split at h
          · cases h
            exact ⟨Nat.le_succ _, Nat.le_add_right _ _⟩
          · exact absurd h (by simp)
      · split at h
        · exact absurd h (by simp)
        · rename_i hs
          have g1 := xstp_grow hs
          have g2 := ih _ _ _ _ _ _ _ _ h
          omega
end
section
/-! Calls, throws, returns: the real machine follows the small one. -/
section SX
variable {p : Program} {l : Launch} {e : Env} {R : Room} {s : State} {m : MethodId} {args : Array Value} {below : List Frame} {meth : Method} {c : Code} {H : Heap} {locs : List Loc} {cells slots : Nat} {Q : State → Prop}
variable {s0 : State} {b0 : Nat} {adc : Nat → Option Nat} {L : Nat} {xs : Nat → Int32}
/-- what else is known of the start: texts, Throwable's statics, which exceptions are which -/
def xGx (s0 : State) : Prop := (∀ is ∈ xstrL, ∃ (tx : String) (sa : Nat), vk_R "SlowTunes" is tx sa s0) ∧
  vx_Zq Bundle.tN "UNASSIGNED_STACK" Bundle.steD (fun q : Nat => s0.heap.size ≤ q) s0 s0.heap ∧ vx_Zq Bundle.tN "SUPPRESSED_SENTINEL" Bundle.listD (fun q : Nat => s0.heap.size ≤ q) s0 s0.heap ∧
  (∀ a : Nat, a < 3 → va_Nw (.castable (xexn a) (xexn a)) s0)
def xQc (s0 : State) (adc : Nat → Option Nat) (L : Nat) (xs : Nat → Int32) (o : xO) (hpf : xH) : Array Value → State → Outcome → State → Prop := fun _ _ oc t => ∃ v : Option Value, o = .inl v ∧ oc = .returned (v.map (xv s0 adc)) ∧ xRel s0 adc L xs hpf t.heap
def xXC (s0 : State) (adc : Nat → Option Nat) (L : Nat) (xs : Nat → Int32) (o : xO) (hpf : xH) : String → State → State → Prop := fun E _ t => ∃ ei : Nat, o = .inr ei ∧ ei < 3 ∧ E = xexn ei ∧ xRel s0 adc L xs hpf t.heap
def xfree (s0 : State) : Addr → Prop := fun q => s0.heap.size ≤ q
def xPc (s0 : State) (adc : Nat → Option Nat) (L : Nat) (xs : Nat → Int32) (as : List Value) (hp : xH) : Array Value → State → Prop := fun a U => a = (as.map (xv s0 adc)).toArray ∧ s0.WarmedH U.vm ∧ xRel s0 adc L xs hp U.heap
theorem xPc.blind {as : List Value} {hp : xH} : FrameBlind (xPc s0 adc L xs as hp) := fun a U g mk h => h
def xcode (g : Nat) : Jvm.Cond := if (xinf g).2.2.2.1 = [] then .code (xinf g).1 (xinf g).2.1 (xtab g).2.1 (xinf g).2.2.1 else .codeWith (xinf g).1 (xinf g).2.1 (xtab g).2.1 (xinf g).2.2.1 (xinf g).2.2.2.1
def xroom (d : Nat) (hp hpf : xH) : Room := { frames := d + 3, cells := hpf.1 - hp.1, slots := hpf.2.1 - hp.2.1, locals := 37 * d + 113 }
/-- the facts of a frame of the method g -/
def xFr (s0 : State) (p : Program) (s : State) (m : MethodId) (meth : Method) (c : Code) (g : Nat) : Prop := p.tables.exec = Jvm.exec ∧ c.code = (xinf g).2.1 ∧ c.maxLocals = (xtab g).2.1 ∧ s.vm.findClass (xinf g).1.cls = some m.cls ∧ meth.locks = false ∧ meth.sig.returnType = (xinf g).2.2.1 ∧ meth.name = (xinf g).1.name ∧ c.exceptionTable.toList = tableOf (xinf g).2.2.2.1 ∧ s0.WarmedH s.vm
theorem S_after {mc ms pc : Nat} {ls : Array Slot} {st0 rest : List Value} {o : xO} {hp1 : xH} {a : Array Value} (hr : vx_Run p l e R s m args below meth c H locs cells slots mc ms (F0 m pc ls st0) rest (xQc s0 adc L xs o hp1 a) (xXC s0 adc L xs o hp1) (xfree s0)) (hlk : xLk s0 locs)
    (kk : ∀ (v : Option Value) (H1 : Heap) (locs1 : List Loc), o = .inl v → xRel s0 adc L xs hp1 H1 → xLk s0 locs1 → W p l e R s m args below meth c H1 locs1 (cells + mc) (slots + ms) Q (F0 m (pc + 3) ls ((v.map (xv s0 adc)).toList ++ rest)))
    (kx : ∀ (ei : Nat) (H1 : Heap) (locs1 : List Loc) (q : Addr) (ce : Cell), o = .inr ei → ei < 3 → xRel s0 adc L xs hp1 H1 → xLk s0 locs1 → H1[q]? = some ce → ce.vm = .none → s.vm.findClass (xexn ei) = some ce.cls → vx_W p l e R s m args below meth c H1 locs1 (cells + mc) (slots + ms) Q (F0 m pc ls rest) q) :
    W p l e R s m args below meth c H locs cells slots Q (F0 m pc ls st0) := by
  have hlk2 : ∀ Lx : List Loc, (∀ z ∈ Lx, xfree s0 z.base) → xLk s0 (locs ++ Lx) := by
    intro Lx hL q hq
    rcases List.mem_append.mp hq with h | h
    · exact hlk q h
    · exact hL q h
  intro T hT X
  rcases hr T hT X with ⟨v, st₀, t, T', Lx, h0, X', hL, e1, e2, ⟨v', ho, hv, hrel⟩, st⟩ | ⟨q, st₀, t, T', Lx, E, ce, h0, X', hL, e1, e2, ⟨ei, ho, hei, hE, hrel⟩, hce, hcv, hcl, st⟩
  · have hv2 : v = v'.map (xv s0 adc) := Outcome.returned.inj hv
    subst hv2
    obtain ⟨t2, a1, b1⟩ := kk v' T'.heap (locs ++ Lx) ho (by rw [e1]; exact hrel) (hlk2 Lx hL) T' rfl X'
    exact ⟨t2, st t2 a1, b1⟩
  · subst hE
    obtain ⟨t2, a1, b1⟩ := kx ei T'.heap (locs ++ Lx) q ce ho hei (by rw [e1]; exact hrel) (hlk2 Lx hL) (by rw [e1]; exact hce) hcv hcl T' rfl X'
    exact ⟨t2, st.trans a1, b1⟩
/-- the handlers: which one takes what was thrown -/
theorem xcatch_at {Lc : List xE} {own : String} {pc ei : Nat} (hei : ei < 3) : ∀ (hs : List xX) (hh : List (Nat × Nat × Nat × Nat)), xkX Lc own hs hh = true →
    (xcatch hs pc ei = none ∧ ∀ z ∈ tableOf hh, covers z pc = false ∨ ∃ a, a < 3 ∧ a ≠ ei ∧ z.catchType = 13 + 2 * a) ∨
    (∃ v t pre x suf e0 e1, xcatch hs pc ei = some (v, t) ∧ tableOf hh = pre ++ x :: suf ∧ (∀ z ∈ pre, covers z pc = false ∨ ∃ a, a < 3 ∧ a ≠ ei ∧ z.catchType = 13 + 2 * a) ∧ covers x pc = true ∧ x.catchType = 13 + 2 * ei ∧ Lc[t - 1]? = some e0 ∧ Lc[t]? = some e1 ∧ e0.1 = x.handlerPc ∧ e1.1 = x.handlerPc + e0.2.2.2.1 ∧ ((e0.2.2.1 = .astore v ∧ e0.2.2.2.1 = 2) ∨ ∃ w : Fin 4, e0.2.2.1 = .astore_n w ∧ (w : Nat) = v ∧ e0.2.2.2.1 = 1)) := by
  intro hs
  induction hs with
  | nil =>
    intro hh h
    cases hh with
    | nil => exact Or.inl ⟨rfl, fun z hz => nomatch hz⟩
    | cons a r => exact absurd h (by simp [xkX])
  | cons x hs ih =>
    intro hh h
    cases hh with
    | nil =>
      obtain ⟨a, b, E, v, t⟩ := x
      exact absurd h (by simp [xkX])
    | cons y hh =>
      obtain ⟨a, b, E, v, t⟩ := x
      obtain ⟨a', b', hd, ct⟩ := y
      simp only [xkX, Bool.and_eq_true, decide_eq_true_eq] at h
      obtain ⟨⟨⟨⟨⟨rfl, rfl, ht, hE, rfl⟩, -⟩, h1⟩, h2⟩, h3⟩ := h
      have hcov : ∀ z : ExceptionTableEntry, z = ⟨a, b, hd, 13 + 2 * E⟩ → (covers z pc = true ↔ a ≤ pc ∧ pc < b) := by
        intro z hz
        subst hz
        simp [covers]
      by_cases hc : a ≤ pc ∧ pc < b ∧ E = ei
      · obtain ⟨c1, c2, rfl⟩ := hc
        refine Or.inr ?_
        split at h2
        · rename_i e1 e0 g1 g2
          have h4 := eq_of_beq h2
          refine ⟨v, t, [], ⟨a, b, hd, 13 + 2 * E⟩, tableOf hh, e0, e1, by simp [xcatch, c1, c2], rfl, (fun z hz => nomatch hz), (hcov _ rfl).mpr ⟨c1, c2⟩, rfl, g2, g1, ?_⟩
          rw [g2] at h1
          obtain ⟨pc0, kd0, i0, len0, ax0, cv0⟩ := e0
          split at h1
          · rename_i hq
            cases hq
            obtain ⟨r1, r2, r3⟩ := of_decide_eq_true h1
            subst r2
            exact ⟨r1, h4, Or.inl ⟨rfl, r3⟩⟩
          · rename_i hq
            cases hq
            obtain ⟨r1, r2, r3⟩ := of_decide_eq_true h1
            exact ⟨r1, h4, Or.inr ⟨_, rfl, r2, r3⟩⟩
          · exact absurd h1 (by simp)
        · exact absurd h2 (by simp)
      · have hnc : xcatch ((a, b, E, v, t) :: hs) pc ei = xcatch hs pc ei := by simp [xcatch, hc]
        have hz : covers (⟨a, b, hd, 13 + 2 * E⟩ : ExceptionTableEntry) pc = false ∨ ∃ a', a' < 3 ∧ a' ≠ ei ∧ (⟨a, b, hd, 13 + 2 * E⟩ : ExceptionTableEntry).catchType = 13 + 2 * a' := by
          by_cases h5 : a ≤ pc ∧ pc < b
          · exact Or.inr ⟨E, hE, fun q => hc ⟨h5.1, h5.2, q⟩, rfl⟩
          · refine Or.inl ?_
            cases h6 : covers (⟨a, b, hd, 13 + 2 * E⟩ : ExceptionTableEntry) pc with
            | false => rfl
            | true => exact absurd ((hcov _ rfl).mp h6) h5
        rcases ih hh h3 with ⟨g1, g2⟩ | ⟨v', t', pre, x', suf, e0, e1, g1, g2, g3, g4⟩
        · refine Or.inl ⟨hnc.trans g1, fun z hz' => ?_⟩
          have hz2 : z ∈ (⟨a, b, hd, 13 + 2 * E⟩ : ExceptionTableEntry) :: tableOf hh := hz'
          rcases List.mem_cons.mp hz2 with rfl | h7
          · exact hz
          · exact g2 z h7
        · refine Or.inr ⟨v', t', ⟨a, b, hd, 13 + 2 * E⟩ :: pre, x', suf, e0, e1, hnc.trans g1, ?_, fun z hz' => ?_, g4⟩
          · show (⟨a, b, hd, 13 + 2 * E⟩ : ExceptionTableEntry) :: tableOf hh = _
            rw [g2]
            rfl
          · rcases List.mem_cons.mp hz' with rfl | h7
            · exact hz
            · exact g3 z h7
end SX
end
section
section SY
variable {s0 : State} {b0 : Nat} {adc : Nat → Option Nat} {L : Nat} {xs : Nat → Int32} {l : Launch}
/-- the method g's list, checked -/
def xOk (g : Nat) : Prop := (∀ j e, (xtab g).1[j]? = some e → xkE (xtab g).1 (xinf g).1 (xinf g).2.1 ((xtab g).1.drop (j + 1)) e = true) ∧ xkR (xtab g).2.2.1 (xinf g).2.2.1 = true ∧ xkX (xtab g).1 (xinf g).1.cls (xtab g).2.2.2 (xinf g).2.2.2.1 = true ∧ ((xinf g).2.2.2.1 = []) ∧ (xtab g).2.1 ≤ 18 ∧ (xtab g).1.head?.map (fun e => e.1) = some 0 ∧ ∀ x ∈ (xtab g).2.2.2, x.2.2.2.1 < (xtab g).2.1
theorem xOk_of {g : Nat} (h : xkM g = true) : xOk g := by
  simp only [xkM, Bool.and_eq_true, decide_eq_true_eq, List.all_eq_true] at h
  obtain ⟨⟨⟨⟨⟨⟨h1, h2⟩, h3⟩, h4⟩, h5⟩, h6⟩, h7⟩ := h
  exact ⟨xkL_use _ h1, h3, h4, h5, h2, h6, h7⟩
/-- a run of the small machine, followed by the real one -/
def xWst (s0 : State) (adc : Nat → Option Nat) (L : Nat) (xs : Nat → Int32) (l : Launch) (n : Nat) : Prop :=
  ∀ (d k j : Nat) (lv : xL) (st : List Value) (hp : xH) (o : xO) (hpf : xH), xrun xtab n d k j lv st hp = some (o, hpf) → xOk k →
  ∀ (p : Program) (e : Env) (R : Room) (s : State) (m : MethodId) (args : Array Value) (below : List Frame) (meth : Method) (c : Code) (H : Heap) (locs : List Loc) (cells slots : Nat) (ls : Array Slot) (e0 : xE), xFr s0 p s m meth c k → xRel s0 adc L xs hp H → xLk s0 locs → lv_has ls (xtab k).2.1 (xlv s0 adc lv) → (xtab k).1[j]? = some e0 → d + 3 ≤ R.frames → 37 * d + 113 ≤ R.locals → cells + (hpf.1 - hp.1) ≤ R.cells → slots + (hpf.2.1 - hp.2.1) ≤ R.slots →
    W p l e R s m args below meth c H locs cells slots (vx_MQ below (xQc s0 adc L xs o hpf) (xXC s0 adc L xs o hpf) args s R.cells R.slots (xfree s0)) (F0 m e0.1 ls (st.map (xv s0 adc)))
theorem xargs_map (vs : List Value) : ∀ i, lv_args i (vs.map (xv s0 adc)) = xlv s0 adc (lv_args i vs) := by
  induction vs with
  | nil => intro i; rfl
  | cons v vs ih =>
    intro i
    show (i, xv s0 adc v) :: lv_args _ _ = (i, xv s0 adc v) :: xlv s0 adc (lv_args _ vs)
    rw [ih, xv_cat]
theorem lg_sl_len (vs : List Value) : (lg_sl vs).length = (vs.map fun v => v.category).sum := by
  induction vs with
  | nil => rfl
  | cons v vs ih =>
    have e : lg_sl (v :: vs) = (if v.category = 2 then [Slot.val v, .second] else [Slot.val v]) ++ lg_sl vs := rfl
    rw [e, List.length_append, ih, List.map_cons, List.sum_cons]
    rcases lv_cat v with h | h <;> simp [h]
theorem xMet_of {n d g : Nat} (ih : xWst s0 adc L xs l n) (hok : xOk g) (hw : xkW g = true) {as : List Value} {hp hp1 : xH} {o1 : xO} (hcall : xrun xtab n d g 0 (lv_args 0 as) [] hp = some (o1, hp1)) (hal : (as.map fun v => v.category).sum ≤ (xtab g).2.1) :
    vx_Met l (xinf g).1 [xcode g] (xroom d hp hp1) (xPc s0 adc L xs as hp) (xQc s0 adc L xs o1 hp1) (xXC s0 adc L xs o1 hp1) (hp1.1 - hp.1) (hp1.2.1 - hp.2.1) (xfree s0) := by
  have hpl : plainName (xinf g).1.cls = true := by
    simp only [xkW, Bool.and_eq_true] at hw
    exact hw.1.1.1.1.2
  have hlen : (lg_sl (as.map (xv s0 adc))).length ≤ (xtab g).2.1 := by rw [lg_sl_len, xv_sum]; exact hal
  have hbody : ∀ (p : Program) (e : Env) (s : State) (m : MethodId) (args : Array Value) (below : List Frame) (meth : Method) (c : Code), xFr s0 p s m meth c g → xPc s0 adc L xs as hp args s →
      W p l e (xroom d hp hp1) s m args below meth c s.heap [] 0 0 (vx_MQ below (xQc s0 adc L xs o1 hp1) (xXC s0 adc L xs o1 hp1) args s (hp1.1 - hp.1) (hp1.2.1 - hp.2.1) (xfree s0)) (entryFrame m args (xtab g).2.1) := by
    intro p e s m args below meth c hfr hv
    obtain ⟨rfl, hW, hR⟩ := hv
    rw [lg_entry_eq]
    have hl := lv_entry (as.map (xv s0 adc)) (n := (xtab g).2.1) hlen
    rw [xargs_map] at hl
    obtain ⟨e0, he0⟩ : ∃ e0, (xtab g).1[0]? = some e0 := by
      cases hh : (xtab g).1 with
      | nil =>
        have h6 := hok.2.2.2.2.2.1
        rw [hh] at h6
        exact absurd h6 (by simp)
      | cons a r => exact ⟨a, rfl⟩
    have hpc : e0.1 = 0 := by
      have h6 := hok.2.2.2.2.2.1
      rw [List.head?_eq_getElem?, he0] at h6
      exact Option.some.inj h6
    have h := ih d g 0 _ [] hp o1 hp1 hcall hok p e (xroom d hp hp1) s m ((as.map (xv s0 adc)).toArray) below meth c s.heap [] 0 0 _ e0 hfr hR (fun q hq => nomatch hq) hl he0 (Nat.le_refl _) (Nat.le_refl _) (by rw [Nat.zero_add]; exact Nat.le_refl _) (by rw [Nat.zero_add]; exact Nat.le_refl _)
    rw [hpc] at h
    exact h
  by_cases hh : (xinf g).2.2.2.1 = []
  · refine vx_ofW (cc := (xinf g).2.1) (maxL := (xtab g).2.1) (ret := (xinf g).2.2.1) (ws' := []) hpl (by rw [xcode, if_pos hh]) ?_
    intro p e s m args below meth c s₁ B hml htab hv
    have ht : c.exceptionTable.toList = tableOf (xinf g).2.2.2.1 := by
      rw [hh]
      cases hc : c.exceptionTable.toList with
      | nil => rfl
      | cons x r => exact (htab x (by rw [hc]; exact List.mem_cons_self)).elim
    exact hbody p e s m args below meth c ⟨B.exec, B.bytes, hml, findClass_of_methodNamed B.named, B.notSynchronized, B.returns, (name_of_methodNamed B.named B.method).1, ht, hv.2.1⟩ hv
  · refine vx_ofWH (cc := (xinf g).2.1) (maxL := (xtab g).2.1) (ret := (xinf g).2.2.1) (hh := (xinf g).2.2.2.1) (ws' := []) hpl (by rw [xcode, if_neg hh]) ?_
    intro p e s m args below meth c s₁ B hml hv
    have hcw : (Jvm.Cond.codeWith (xinf g).1 (xinf g).2.1 (xtab g).2.1 (xinf g).2.2.1 (xinf g).2.2.2.1).before args s = true := by
      have h1 := atoms_spec (ws := [xcode g]) B.pre (xcode g) List.mem_cons_self
      rw [xcode, if_neg hh] at h1
      exact h1
    have ht : c.exceptionTable.toList = tableOf (xinf g).2.2.2.1 := vx_table (x := (xinf g).1) B hcw
    exact hbody p e s m args below meth c ⟨B.exec, B.bytes, hml, findClass_of_methodNamed B.named, B.notSynchronized, B.returns, (name_of_methodNamed B.named B.method).1, ht, hv.2.1⟩ hv
end SY
end
section
section SZ
variable {p : Program} {l : Launch} {e : Env} {R : Room} {s : State} {m : MethodId} {args : Array Value} {below : List Frame} {meth : Method} {c : Code} {H : Heap} {locs : List Loc} {cells slots : Nat}
variable {s0 : State} {b0 : Nat} {adc : Nat → Option Nat} {L : Nat} {xs : Nat → Int32}
/-- a return -/
theorem S_ret {rk pc : Nat} {i : Instr} {st : List Value} {v : Option Value} {hp : xH} {ls : Array Slot} {bytes : ByteArray} (hx : p.tables.exec = Jvm.exec) (hb : c.code = bytes) (hr : xkR rk meth.sig.returnType = true) (hlocks : meth.locks = false) (hd : decode bytes pc = .ok (i, 1)) (h : xret rk i st = some v) (hR : xRel s0 adc L xs hp H) (hlk : xLk s0 locs) (hc : cells ≤ R.cells) (hs : slots ≤ R.slots) :
    W p l e R s m args below meth c H locs cells slots (vx_MQ below (xQc s0 adc L xs (.inl v) hp) (xXC s0 adc L xs (.inl v) hp) args s R.cells R.slots (xfree s0)) (F0 m pc ls (st.map (xv s0 adc))) := by
  refine vx_ret (W.widen hc hs ?_)
  have hq : ∀ t : State, t.heap = H → s.WarmedH t.vm → xQc s0 adc L xs (.inl v) hp args s (.returned (v.map (xv s0 adc))) t := fun t ht _ => ⟨v, rfl, rfl, by rw [ht]; exact hR⟩
  unfold xkR at hr
  unfold xret at h
  split at h
  · cases h
    split at hr <;> first | (simp at hr; done) | (exfalso; omega) | skip
    rename_i hrt
    exact W.vret hx hb hrt hq hlk hd
  · cases h
    split at hr <;> first | (simp at hr; done) | (exfalso; omega) | skip
    rename_i hrt
    exact W.iret hx hb hrt hq hlk hd
  · split at h
    · rename_i h01
      cases h
      split at hr <;> first | (simp at hr; done) | (exfalso; omega) | skip
      rename_i hrt
      refine W.zret hx hb hrt ?_ hq hlk hd
      rcases h01 with rfl | rfl <;> rfl
    · exact absurd h (by simp)
  · split at h
    · rename_i h01
      cases h
      split at hr <;> first | (simp at hr; done) | (exfalso; omega) | skip
      rename_i hrt
      refine W.zret hx hb hrt ?_ hq hlk hd
      rw [narrow_byte, h01]
    · exact absurd h (by simp)
  · split at h
    · rename_i x h01
      cases h
      split at hr <;> first | (simp at hr; done) | (exfalso; omega) | skip
      rename_i hrt
      refine W.zret hx hb hrt ?_ hq hlk hd
      rw [← h01]
      exact pk_nc x
    · exact absurd h (by simp)
  · cases h
    split at hr <;> first | (simp at hr; done) | (exfalso; omega) | skip
    rename_i hrt
    exact W.lret hx hb hrt hq hlk hd
  · cases h
    split at hr <;> first | (simp at hr; done) | (exfalso; omega) | skip
    rename_i hrt
    exact W.dret hx hb hrt hq hlk hd
  · rename_i x
    cases h
    have hrf : xv s0 adc (.ref x) = .null ∨ ∃ a, xv s0 adc (.ref x) = .ref a := by
      show va_rf (xad s0 adc x) = .null ∨ ∃ a, va_rf (xad s0 adc x) = .ref a
      cases xad s0 adc x with
      | none => exact Or.inl rfl
      | some a => exact Or.inr ⟨a, rfl⟩
    split at hr <;> first | (simp at hr; done) | (exfalso; omega) | skip
    · rename_i hrt
      exact W.aret hx hb hrt (Or.inl ⟨_, rfl⟩) hrf hq hlk hd
    · rename_i hrt
      exact W.aret hx hb hrt (Or.inr ⟨_, rfl⟩) hrf hq hlk hd
  · exact absurd h (by simp)
theorem xwdC (hW : s0.WarmedH s.vm) {a b : String} (h : va_Nw (.castable a b) s0) : (Jvm.Cond.castable a b).before args s = true := va_Nw.use rfl (va_Nw.warmC hW h)
theorem xwdD (hW : s0.WarmedH s.vm) {A : Array Value} {x : MethodName} (h : (Jvm.Cond.declares x).before A s0 = true) : (Jvm.Cond.declares x).before args s = true := by
  have h1 : (Jvm.Cond.declares x).before #[] s0 = true := va_tabs rfl rfl h
  exact va_tabs rfl (rfl : (s0.setVm s.vm).vm = s.vm) (show (Jvm.Cond.declares x).before #[] (s0.setVm s.vm) = true by rw [Jvm.Cond.declares_setVm hW.alike]; exact h1)
/-- throw new E("text") -/
theorem S_throw {Lc : List xE} {own : String} {bytes : ByteArray} {j pc : Nat} {i : Instr} {ax : List Nat} {st : List Value} {hp : xH} {ls : Array Slot} (hthr : ∀ E, E < 3 → xkTh E = true) (hst : l.stackTraces = false) (hx : p.tables.exec = Jvm.exec) (hb : c.code = bytes) (hml : c.maxLocals = ls.size) (hown : s.vm.findClass own = some m.cls) (hlocks : meth.locks = false) (hW : s0.WarmedH s.vm) (hG : xGl s0 b0 adc L xs) (hGx : xGx s0) (hE : ∀ (j : Nat) (z : xE), Lc[j]? = some z → decode bytes z.1 = .ok (z.2.2.1, z.2.2.2.1))
    (hck : xkT5 own (Lc.drop (j + 1)) pc i ax = true) (htab : c.exceptionTable.toList = []) (hsum : (st.map fun v => v.category).sum ≤ 8) (hR : xRel s0 adc L xs hp H) (hlk : xLk s0 locs) (hfr : 7 ≤ R.frames) (hlo : 100 ≤ R.locals) (hc : cells + 1 ≤ R.cells) (hs : slots + 6 ≤ R.slots) (hd3 : decode bytes pc = .ok (i, 3)) :
    W p l e R s m args below meth c H locs cells slots (vx_MQ below (xQc s0 adc L xs (.inr (ax.headD 0)) (xbare hp 6)) (xXC s0 adc L xs (.inr (ax.headD 0)) (xbare hp 6)) args s R.cells R.slots (xfree s0)) (F0 m pc ls (st.map (xv s0 adc))) := by
  unfold xkT5 at hck
  split at hck
  · rename_i E ik is ic wd q0 p0 q2 p2 x p1 k1 l1 a1 v1 p2' k2 i2 l2 a2 v2 p3 k3 y l3 a3 v3 p4 k4 l4 a4 v4 r hdrop
    simp only [Bool.and_eq_true, decide_eq_true_eq] at hck
    obtain ⟨⟨rfl, rfl, rfl, rfl, hE3, hstr, hw1, hw2, rfl, rfl, rfl, rfl, rfl⟩, hck⟩ := hck
    have at1 : ∀ (k : Nat) (z : xE), (Lc.drop (j + 1))[k]? = some z → decode bytes z.1 = .ok (z.2.2.1, z.2.2.2.1) := by
      intro k z hz
      rw [List.getElem?_drop] at hz
      exact hE _ z hz
    have d1 := at1 0 _ (by rw [hdrop]; rfl)
    have d2 := at1 1 _ (by rw [hdrop]; rfl)
    have d3 := at1 2 _ (by rw [hdrop]; rfl)
    have d4 := at1 3 _ (by rw [hdrop]; rfl)
    have hth := hthr E hE3
    simp only [xkTh, Bool.and_eq_true] at hth
    obtain ⟨⟨⟨t1, t2⟩, t3⟩, t4⟩ := hth
    have hat : ∀ w ∈ vx_atS "SlowTunes" (xic E) (xexn E) xnms, w.before args s = true := by
      intro w hw
      have h1 := List.all_eq_true.mp t2 w hw
      simp only [Bool.or_eq_true, Bool.and_eq_true, decide_eq_true_eq] at h1
      rcases h1 with ⟨h1, h2⟩ | h1
      · exact word_at hW (good_of_word h1) (hG.1 w h2)
      · split at h1
        · exact xwdC hW (va_Nw.of rfl (hG.1 _ (of_decide_eq_true h1)))
        · exact xwdD hW (hG.1 _ (of_decide_eq_true h1))
        · exact absurd h1 (by simp)
    have hgood : ∀ w ∈ Jvm.Cond.classLink "SlowTunes" x (xexn E) :: Jvm.Cond.initialized (xexn E) :: vx_atS "SlowTunes" (xic E) (xexn E) xnms, vx_ot w = true := by
      intro w hw
      rcases List.mem_cons.mp hw with rfl | hw
      · rfl
      · exact List.all_eq_true.mp t1 w (List.mem_cons_of_mem _ hw)
    obtain ⟨tx, sa, hsa⟩ := hGx.1 _ hstr
    have hU : vx_Zq Bundle.tN "UNASSIGNED_STACK" Bundle.steD (fun q : Nat => s0.heap.size ≤ q) s s0.heap := vx_Zq.moved hW.alike hGx.2.1
    have hN : vx_Zq Bundle.tN "SUPPRESSED_SENTINEL" Bundle.listD (fun q : Nat => s0.heap.size ≤ q) s s0.heap := vx_Zq.moved hW.alike hGx.2.2.1
    have hlo2 : ((st.map (xv s0 adc)).map fun v => v.category).sum + (13 * (xnms.length + 1) + 43) ≤ R.locals := by
      rw [xv_sum]
      show _ + (13 * 3 + 43) ≤ _
      omega
    have hxx : ∀ t : State, s.vm.Alike t.vm → t.heap.size = H.size + 1 → (∀ q : Nat, q < H.size → t.heap[q]? = H[q]?) → xXC s0 adc L xs (.inr E) (xbare hp 6) (xexn E) s t := fun t _ h1 h2 => ⟨E, rfl, hE3, rfl, hR.bare h1 h2⟩
    have hout : ∀ k, ∀ z ∈ c.exceptionTable.toList, covers z k = false := fun k z hz => by rw [htab] at hz; cases hz
    have hS : ∀ C n d, vx_Zq C n d (fun q : Nat => s0.heap.size ≤ q) s s0.heap → vx_Zq C n d (fun q : Nat => s0.heap.size ≤ q) s H := fun C n d h => h.kept (fun a h1 _ => hR.2.2.1 a h1)
    split at hck
    · rename_i z
      obtain ⟨rfl, rfl, rfl, rfl⟩ := of_decide_eq_true hck
      exact x_throwS hx hb hst hown t3 (List.all_eq_true.mp t4) (xwd hG.1 hW hw1 rfl) (xwd hG.1 hW hw2 rfl) (vk_R.warm hW hsa) hat hgood (hS _ _ _ hU) (hS _ _ _ hN) hml.symm hd3 d1 d2 d3 d4 (hout _) (by show 2 + 3 < _; omega) hlo2 hc hs hlocks hxx hlk hc hs
    · rename_i z
      obtain ⟨rfl, rfl, rfl, rfl⟩ := of_decide_eq_true hck
      exact x_throwSW hx hb hst hown t3 (List.all_eq_true.mp t4) (xwd hG.1 hW hw1 rfl) (xwd hG.1 hW hw2 rfl) (vk_R.warm hW hsa) hat hgood (hS _ _ _ hU) (hS _ _ _ hN) hml.symm hd3 d1 d2 d3 d4 (hout _) (by show 2 + 3 < _; omega) hlo2 hc hs hlocks hxx hlk hc hs
    · exact absurd hck (by simp)
  · exact absurd hck (by simp)
end SZ
end
section
section SW
variable {s0 : State} {b0 : Nat} {adc : Nat → Option Nat} {L : Nat} {xs : Nat → Int32} {l : Launch}
variable {p : Program} {e : Env} {R : Room} {s : State} {m : MethodId} {args : Array Value} {below : List Frame} {meth : Method} {c : Code} {H : Heap} {locs : List Loc} {cells slots : Nat}
/-- a call of the small machine is a call of the real one -/
theorem S_call {d k g na md ci pc : Nat} {i : Instr} {ax : List Nat} {rest as : List Value} {hp hp1 : xH} {o1 : xO} {ls : Array Slot} {st : List Value} (hM : vx_Met l (xinf g).1 [xcode g] (xroom d hp hp1) (xPc s0 adc L xs as hp) (xQc s0 adc L xs o1 hp1) (xXC s0 adc L xs o1 hp1) (hp1.1 - hp.1) (hp1.2.1 - hp.2.1) (xfree s0))
    (hgw : xkW g = true) (hgo : xOk g) (a0 : ax.headD 0 = g) (a1 : ax.getD 1 0 = na) (a2 : ax.getD 2 0 = md) (a3 : ax.getD 3 0 = ci) (hck : xkC (xinf k).1.cls i ax = true) (hfr : xFr s0 p s m meth c k) (hG : xGl s0 b0 adc L xs) (hR : xRel s0 adc L xs hp H) (hl : ls.size = (xtab k).2.1) (hd : decode (xinf k).2.1 pc = .ok (i, 3)) (hst : st = as.reverse ++ rest) (hna : as.length = na) (hcat : (rest.map fun v => v.category).sum ≤ 8) (hrc : xrcv md ci as hp = true)
    (hf : d + 4 ≤ R.frames) (hlo : 37 * (d + 1) + 113 ≤ R.locals) (hce : cells + (hp1.1 - hp.1) ≤ R.cells) (hsl : slots + (hp1.2.1 - hp.2.1) ≤ R.slots) :
    vx_Run p l e R s m args below meth c H locs cells slots (hp1.1 - hp.1) (hp1.2.1 - hp.2.1) (F0 m pc ls (st.map (xv s0 adc))) (rest.map (xv s0 adc)) (xQc s0 adc L xs o1 hp1 #[]) (xXC s0 adc L xs o1 hp1) (xfree s0) := by
  subst a0; subst a1; subst a2; subst a3
  obtain ⟨hx, hb, hml, hown, hlocks, hret, hname, htab, hW⟩ := hfr
  simp only [xkW, Bool.and_eq_true, decide_eq_true_eq] at hgw
  obtain ⟨⟨⟨⟨⟨g1, g2⟩, g3⟩, g4⟩, g5⟩, g6⟩ := hgw
  simp only [xkC, Bool.and_eq_true, decide_eq_true_eq] at hck
  obtain ⟨hlt, hck⟩ := hck
  have S : CallFix p m c (xinf k).2.1 (xtab k).2.1 s args [] (xinf k).1.cls := ⟨hx, hb, hml, hown, fun w hw => nomatch hw⟩
  have hcode : xw ((xinf (ax.headD 0)).2.2.2.2.headD (99, 0)).1 ((xinf (ax.headD 0)).2.2.2.2.headD (99, 0)).2 = some (xcode (ax.headD 0)) := g3
  have hgc : goodWord (xcode (ax.headD 0)) = true := by
    unfold xcode
    split <;> rfl
  have hws : ∀ w ∈ [xcode (ax.headD 0)], ∀ (a' : Array Value) (U : State), s.WarmedH U.vm → w.before a' U = true := by
    intro w hw a' U hU
    rw [List.mem_singleton.mp hw]
    exact xwd hG.1 (State.WarmedH.trans hW hU) hcode hgc
  have hinit : (Jvm.Cond.initialized (xinf (ax.headD 0)).1.cls).before args s = true := xwd hG.1 hW g4 rfl
  have hf1 : (xroom d hp hp1).frames + 1 ≤ R.frames := hf
  have hf2 : 8 + ((xtab (ax.headD 0)).2.1 + 11) + (xroom d hp hp1).locals ≤ R.locals := by
    have h18 := hgo.2.2.2.2.1
    show 8 + _ + (37 * d + 113) ≤ _
    omega
  have hcb : (xcode (ax.headD 0)).before args s = true := xwd hG.1 hW hcode hgc
  have hpre : ∀ U : State, U.heap = H → s.WarmedH U.vm → xPc s0 adc L xs as hp ((as.map (xv s0 adc)).toArray) U := fun U hU hV => ⟨rfl, State.WarmedH.trans hW hV, by rw [hU]; exact hR⟩
  have hstm : st.map (xv s0 adc) = (as.map (xv s0 adc)).reverse ++ rest.map (xv s0 adc) := by rw [hst, List.map_append, List.map_reverse]
  have hroom : 2 * (F0 m pc ls (st.map (xv s0 adc))).monitorRoom + ((rest.map (xv s0 adc)).map fun v => v.category).sum ≤ 8 := lv_room (by rw [xv_sum]; exact hcat)
  split at hck
  · -- invokevirtual
    rename_i x o z w h0 hwl
    obtain ⟨rfl, rfl, rfl, hcls, hpar, hhh, hps⟩ := of_decide_eq_true hck
    rw [h0] at hrc
    have hxc : xcode (ax.headD 0) = .code (xinf (ax.headD 0)).1 (xinf (ax.headD 0)).2.1 (xtab (ax.headD 0)).2.1 (xinf (ax.headD 0)).2.2.1 := by rw [xcode, if_pos hhh]
    unfold xrcv at hrc
    split at hrc
    · rename_i a As hq
      split at hrc
      · rename_i cc fs ha
        have hcc : cc = ax.getD 3 0 := eq_of_beq hrc
        obtain ⟨ar, cell, e1, e2, e3⟩ := hR.wk hG ha
        have e3 : xObjAt s0 adc cc fs cell := e3
        have hva : xv s0 adc (.ref a) = .ref ar := congrArg va_rf e1
        subst hcc
        have hn : (As.map (xv s0 adc)).length + 1 = ax.getD 1 0 := by rw [List.length_map]; exact hna
        have hsel : (Jvm.Cond.selects (xinf (ax.headD 0)).1.cls (xinf (ax.headD 0)).1 (xinf (ax.headD 0)).1).before args s = true ∧ (Jvm.Cond.instanceMethod (xinf (ax.headD 0)).1).before args s = true := by
          split at g6
          · rename_i s3 hp4
            obtain ⟨k1, k2⟩ := of_decide_eq_true g6
            refine ⟨?_, xwd hG.1 hW k2 rfl⟩
            unfold xsel at k1
            split at k1
            · exact word_at hW (good_of_word rfl) (hG.1 _ (List.mem_append_left _ (List.mem_of_getElem? k1)))
            · exact xwd hG.1 hW k1 rfl
          · rename_i hno
            exfalso
            rcases hq4 : (xinf (ax.headD 0)).2.2.2.2 with _ | ⟨q1, _ | ⟨q2, _ | ⟨q3, _ | ⟨q4, _ | ⟨q5, r5⟩⟩⟩⟩⟩ <;> rw [hq4] at hps hno <;> simp at hps
            exact hno _ _ _ _ rfl
        rw [hxc] at hM hws hcb
        exact vx_runV (cells := cells) (slots := slots) (g := F0 m pc ls (st.map (xv s0 adc))) (As := As.map (xv s0 adc)) (rest := rest.map (xv s0 adc)) (b := ar) (C := (xinf (ax.headD 0)).1.cls) (n := (As.map (xv s0 adc)).length) S hM
          ⟨⟨rfl, rfl, hf1, hf2, hws, List.mem_cons_self, hcb, hinit, g1, fun sig hs => by
            rw [hs] at hpar
            have h9 : sig.parameters.length + 1 = ax.getD 1 0 := Option.some.inj hpar
            omega, xwd hG.1 hW hwl rfl⟩, hsel.2, hsel.1⟩
          ⟨xPc.blind, ⟨cell, e2, e3.2.2.1, by rw [← hcls]; exact xcls hW e3.1⟩, fun U hU hV => by
            have h9 := hpre U hU hV
            rw [List.map_cons, hva] at h9
            exact h9⟩
          rfl rfl hl (by
            show st.map (xv s0 adc) = _
            rw [hstm, List.map_cons, hva, List.reverse_cons, List.append_assoc]
            rfl) hroom hd ⟨hce, hsl⟩
      · exact absurd hrc (by simp)
    all_goals first | (simp at hrc; done) | (exfalso; omega)
  · -- invokestatic
    rename_i x o z w h0 hwl
    obtain ⟨rfl, rfl, rfl, hpar, g7⟩ := of_decide_eq_true hck
    have hstat : (Jvm.Cond.static (xinf (ax.headD 0)).1).before args s = true := xwd hG.1 hW g7 rfl
    have hnp : ∀ sig, parseMethodDescriptor (xinf (ax.headD 0)).1.desc = some sig → (as.map (xv s0 adc)).length = sig.parameters.length := fun sig hs => by
      rw [hs] at hpar
      have h9 : sig.parameters.length = ax.getD 1 0 := Option.some.inj hpar
      rw [List.length_map]
      omega
    by_cases hhh : (xinf (ax.headD 0)).2.2.2.1 = []
    · have hxc : xcode (ax.headD 0) = .code (xinf (ax.headD 0)).1 (xinf (ax.headD 0)).2.1 (xtab (ax.headD 0)).2.1 (xinf (ax.headD 0)).2.2.1 := by rw [xcode, if_pos hhh]
      rw [hxc] at hM hws hcb
      exact vx_runS (cells := cells) (slots := slots) (g := F0 m pc ls (st.map (xv s0 adc))) (As := as.map (xv s0 adc)) (rest := rest.map (xv s0 adc)) (n := (as.map (xv s0 adc)).length) S hM
        ⟨⟨rfl, rfl, hf1, hf2, hws, List.mem_cons_self, hcb, hinit, g1, hnp, xwd hG.1 hW hwl rfl⟩, hstat⟩ ⟨xPc.blind, hpre⟩ rfl rfl hl hstm hroom hd ⟨hce, hsl⟩
    · have hxc : xcode (ax.headD 0) = .codeWith (xinf (ax.headD 0)).1 (xinf (ax.headD 0)).2.1 (xtab (ax.headD 0)).2.1 (xinf (ax.headD 0)).2.2.1 (xinf (ax.headD 0)).2.2.2.1 := by rw [xcode, if_neg hhh]
      rw [hxc] at hM hws hcb
      exact vx_runSX (cells := cells) (slots := slots) (g := F0 m pc ls (st.map (xv s0 adc))) (As := as.map (xv s0 adc)) (rest := rest.map (xv s0 adc)) (n := (as.map (xv s0 adc)).length) S hM
        ⟨⟨rfl, rfl, hf1, hf2, hws, List.mem_cons_self⟩, hcb, hinit, g1, hnp, xwd hG.1 hW hwl rfl, hstat⟩ ⟨xPc.blind, hpre⟩ rfl rfl hl hstm hroom hd ⟨hce, hsl⟩
  · -- invokespecial
    rename_i x o z w h0 hwl
    obtain ⟨rfl, rfl, rfl, hin, hrn, hpar, hhh, g7⟩ := of_decide_eq_true hck
    rw [h0] at hrc
    have hxc : xcode (ax.headD 0) = .code (xinf (ax.headD 0)).1 (xinf (ax.headD 0)).2.1 (xtab (ax.headD 0)).2.1 none := by rw [xcode, if_pos hhh, hrn]
    have hinst : (Jvm.Cond.instanceMethod (xinf (ax.headD 0)).1).before args s = true := xwd hG.1 hW g7 rfl
    unfold xrcv at hrc
    split at hrc
    · exfalso; omega
    · exfalso; omega
    · rename_i a As hq
      obtain ⟨c9, hc9⟩ := Option.isSome_iff_exists.mp hrc
      obtain ⟨ar, cell, e1, -⟩ := hR.wk hG hc9
      have hva : xv s0 adc (.ref a) = .ref ar := congrArg va_rf e1
      rw [hxc] at hM hws hcb
      exact vx_runI (cells := cells) (slots := slots) (g := F0 m pc ls (st.map (xv s0 adc))) (As := As.map (xv s0 adc)) (rest := rest.map (xv s0 adc)) (b := ar) (n := (As.map (xv s0 adc)).length) S hM
        ⟨⟨rfl, rfl, hf1, hf2, hws, List.mem_cons_self, hcb, hinit, g1, fun sig hs => by
          rw [hs] at hpar
          have h9 : sig.parameters.length + 1 = ax.getD 1 0 := Option.some.inj hpar
          have h8 : As.length + 1 = ax.getD 1 0 := hna
          rw [List.length_map]
          omega, xwd hG.1 hW hwl rfl⟩, hin, hinst⟩
        ⟨xPc.blind, fun U hU hV => by
          have h9 := hpre U hU hV
          rw [List.map_cons, hva] at h9
          exact h9⟩
        rfl rfl hl (by
          show st.map (xv s0 adc) = _
          rw [hstm, List.map_cons, hva, List.reverse_cons, List.append_assoc]
          rfl) hroom hd ⟨hce, hsl⟩
    · exfalso; omega
    · exact absurd hrc (by simp)
  · rename_i x o z w hst2 h0 hwl
    obtain ⟨rfl, rfl, rfl, hin, hrn, hpar, hhh, g7⟩ := of_decide_eq_true hck
    rw [h0] at hrc
    have hxc : xcode (ax.headD 0) = .code (xinf (ax.headD 0)).1 (xinf (ax.headD 0)).2.1 (xtab (ax.headD 0)).2.1 none := by rw [xcode, if_pos hhh, hrn]
    have hinst : (Jvm.Cond.instanceMethod (xinf (ax.headD 0)).1).before args s = true := xwd hG.1 hW g7 rfl
    unfold xrcv at hrc
    split at hrc
    · exfalso; omega
    · exfalso; omega
    · exfalso; omega
    · rename_i a As hq
      obtain ⟨c9, hc9⟩ := Option.isSome_iff_exists.mp hrc
      obtain ⟨ar, cell, e1, -⟩ := hR.wk hG hc9
      have hva : xv s0 adc (.ref a) = .ref ar := congrArg va_rf e1
      rw [hxc] at hM hws hcb
      exact vx_runIN (cells := cells) (slots := slots) (g := F0 m pc ls (st.map (xv s0 adc))) (As := As.map (xv s0 adc)) (rest := rest.map (xv s0 adc)) (b := ar) (n := (As.map (xv s0 adc)).length) S hM
        ⟨⟨⟨rfl, rfl, hf1, hf2, hws, List.mem_cons_self⟩, hcb, hinit, g1, fun sig hs => by
          rw [hs] at hpar
          have h9 : sig.parameters.length + 1 = ax.getD 1 0 := Option.some.inj hpar
          have h8 : As.length + 1 = ax.getD 1 0 := hna
          rw [List.length_map]
          omega, xwdM hG.1 hW hwl⟩, hin, hinst⟩
        ⟨xPc.blind, fun U hU hV => by
          have h9 := hpre U hU hV
          rw [List.map_cons, hva] at h9
          exact h9⟩
        rfl rfl hl (by
          show st.map (xv s0 adc) = _
          rw [hstm, List.map_cons, hva, List.reverse_cons, List.append_assoc]
          rfl) hroom hd ⟨hce, hsl⟩
    · exact absurd hrc (by simp)
  · exact absurd hck (by simp)
end SW
end
section
section SV
variable {s0 : State} {b0 : Nat} {adc : Nat → Option Nat} {L : Nat} {xs : Nat → Int32} {l : Launch}
theorem xcatch_lt {pc E v t n : Nat} : ∀ {hs : List xX}, xcatch hs pc E = some (v, t) → (∀ x ∈ hs, x.2.2.2.1 < n) → v < n := by
  intro hs
  induction hs with
  | nil => intro h; simp [xcatch] at h
  | cons x hs ih =>
    intro h h2
    obtain ⟨a, b, c, v', t'⟩ := x
    unfold xcatch at h
    split at h
    · cases h
      exact h2 _ List.mem_cons_self
    · exact ih h fun x hx => h2 x (List.mem_cons_of_mem _ hx)
theorem xwdL {s : State} {args : Array Value} (hW : s0.WarmedH s.vm) {a : String} {i : Nat} {b : String} (h : va_Nw (.classLink a i b) s0) : (Jvm.Cond.classLink a i b).before args s = true := word_at hW (good_of_word rfl) h
set_option maxHeartbeats 4000000 in
/-- THE REAL MACHINE FOLLOWS THE SMALL ONE -/
theorem xsound (hcl : ∀ ci, ci < 10 → xkCl ci = true) (hall : ∀ g, g < 119 → xkM g = true ∧ xkW g = true) (hthr : ∀ E, E < 3 → xkTh E = true) (hst : l.stackTraces = false) (hG : xGl s0 b0 adc L xs) (hGx : xGx s0) : ∀ n, xWst s0 adc L xs l n := by
  intro n
  induction n with
  | zero =>
    intro d k j lv st hp o hpf h
    simp [xrun] at h
  | succ n ih =>
    intro d k j lv st hp o hpf h hok p e R s m args below meth c H locs cells slots ls e0 hfr hR hlk hl he0 hRf hRl hce hsl
    have hgr := xrun_grow xtab _ _ _ _ _ _ _ _ _ h
    obtain ⟨hx, hb, hml, hown, hlocks, hret, hname, htab, hW⟩ := id hfr
    obtain ⟨o1, o2, o3, o4, o5, o6, o7⟩ := id hok
    unfold xrun at h
    rw [he0] at h
    obtain ⟨pc, kd, i, len, ax, cv⟩ := e0
    dsimp only at h
    have hck := o1 j _ he0
    have hck0 := hck
    simp only [xkE, Bool.and_eq_true, decide_eq_true_eq] at hck
    obtain ⟨⟨hd, hnx⟩, hck⟩ := hck
    have hrest : (xtab k).1[j + 1]? = ((xtab k).1.drop (j + 1)).head? := by
      rw [List.head?_drop]
    have hn : ∀ e1, (xtab k).1[j + 1]? = some e1 → e1.1 = pc + len := by
      intro e1 he1
      rw [hrest] at he1
      cases hdr : (xtab k).1.drop (j + 1) with
      | nil => rw [hdr] at he1; cases he1
      | cons a r =>
        rw [hdr] at he1 hnx
        cases he1
        exact eq_of_beq hnx
    -- an instruction behind this one, where the run goes on
    have hex : ∀ d' j' lv' st' hp' r, xrun xtab n d' k j' lv' st' hp' = some r → ∃ e', (xtab k).1[j']? = some e' := by
      intro d' j' lv' st' hp' r hr
      cases n with
      | zero => simp [xrun] at hr
      | succ n =>
        unfold xrun at hr
        split at hr
        · exact absurd hr (by simp)
        · exact ⟨_, by assumption⟩
    split at h
    · -- a call
      simp only [Bool.and_eq_true, beq_iff_eq] at hck
      obtain ⟨hlen, hckC⟩ := hck
      subst hlen
      split at h
      · exact absurd h (by simp)
      · rename_i hgd
        split at h
        · rename_i hrc
          split at h
          · exact absurd h (by simp)
          · rename_i d
            have hgLW : ax.headD 0 < 119 := by
              simp only [xkC, Bool.and_eq_true, decide_eq_true_eq] at hckC
              have h1 : ax.headD 0 + 1 < xNM := hckC.1
              have h3 : xNM = 120 := rfl
              omega
            obtain ⟨hgm, hgw⟩ := hall _ hgLW
            have hgo := xOk_of hgm
            have hst2 : st = (st.take (ax.getD 1 0)).reverse.reverse ++ st.drop (ax.getD 1 0) := by rw [List.reverse_reverse, List.take_append_drop]
            have hna : (st.take (ax.getD 1 0)).reverse.length = ax.getD 1 0 := by rw [List.length_reverse, List.length_take]; omega
            have hcat : ((st.drop (ax.getD 1 0)).map fun v => v.category).sum ≤ 8 := by omega
            have hal : ((st.take (ax.getD 1 0)).reverse.map fun v => v.category).sum ≤ (xtab (ax.headD 0)).2.1 := by omega
            have run : ∀ o1 hp1, xrun xtab n d (ax.headD 0) 0 (lv_args 0 (st.take (ax.getD 1 0)).reverse) [] hp = some (o1, hp1) → cells + (hp1.1 - hp.1) ≤ R.cells → slots + (hp1.2.1 - hp.2.1) ≤ R.slots → vx_Run p l e R s m args below meth c H locs cells slots (hp1.1 - hp.1) (hp1.2.1 - hp.2.1) (F0 m pc ls (st.map (xv s0 adc))) ((st.drop (ax.getD 1 0)).map (xv s0 adc)) (xQc s0 adc L xs o1 hp1 #[]) (xXC s0 adc L xs o1 hp1) (xfree s0) := by
              intro o1 hp1 hcall hc1 hs1
              exact S_call (xMet_of ih hgo hgw hcall hal) hgw hgo rfl rfl rfl rfl hckC hfr hG hR hl.1 hd hst2 hna hcat hrc (by omega) (by omega) hc1 hs1
            split at h
            · exact absurd h (by simp)
            · -- it returns
              rename_i v hp1 hcall
              have g1 := xrun_grow xtab _ _ _ _ _ _ _ _ _ hcall
              have g2 := xrun_grow xtab _ _ _ _ _ _ _ _ _ h
              obtain ⟨e1, he1⟩ := hex _ _ _ _ _ _ h
              refine S_after (run _ _ hcall (by omega) (by omega)) hlk (fun v' H1 locs1 ho hR1 hl1 => ?_) (fun ei H1 locs1 q ce ho => nomatch ho)
              cases ho
              have K := ih (d + 1) k (j + 1) lv _ hp1 o hpf h hok p e R s m args below meth c H1 locs1 (cells + (hp1.1 - hp.1)) (slots + (hp1.2.1 - hp.2.1)) ls e1 hfr hR1 hl1 hl he1 hRf hRl (by omega) (by omega)
              rw [hn e1 he1, List.map_append] at K
              cases v <;> exact K
            · -- it throws
              rename_i E hp1 hcall
              have g1 := xrun_grow xtab _ _ _ _ _ _ _ _ _ hcall
              have hp1f : hp1.1 ≤ hpf.1 ∧ hp1.2.1 ≤ hpf.2.1 := by
                split at h
                · cases h
                  exact ⟨Nat.le_refl _, Nat.le_refl _⟩
                · exact xrun_grow xtab _ _ _ _ _ _ _ _ _ h
              refine S_after (run _ _ hcall (by omega) (by omega)) hlk (fun v' H1 locs1 ho => nomatch ho) (fun ei H1 locs1 q ce ho hei hR1 hl1 hcell hcv hcls => ?_)
              cases ho
              have hpass : ∀ z : ExceptionTableEntry, z ∈ tableOf (xinf k).2.2.2.1 → (covers z pc = false ∨ ∃ a, a < 3 ∧ a ≠ E ∧ z.catchType = 13 + 2 * a) → covers z pc = false ∨ (z.catchType ≠ 0 ∧ ∃ nm : String, (Jvm.Cond.classLink (xinf k).1.cls z.catchType nm).before args s = true ∧ va_Nc (xexn E) nm s) := by
                intro z hz hz2
                rcases hz2 with hz2 | ⟨a, ha, hne, hct⟩
                · exact Or.inl hz2
                · rw [o4] at hz; cases hz
              rcases xcatch_at (pc := pc) hei _ _ o3 with ⟨q1, q2⟩ | ⟨v, t, pre, x, suf, e2, e3, q1, q2, q3, q4, q5, q6, q7, q8, q9, q10⟩
              · rw [q1] at h
                cases h
                exact vx_outP hown hlocks (by rw [htab]; exact fun z hz => hpass z hz (q2 z hz)) hcell hcv hcls (fun t ht _ => ⟨E, rfl, hei, rfl, by rw [ht]; exact hR1⟩) hl1 (by omega) (by omega)
              · rw [q1] at h
                rw [o4] at q2
                exact absurd q2 (by simp [tableOf])
        · exact absurd h (by simp)
    · -- a return
      have hlen : len = 1 := eq_of_beq hck
      subst hlen
      split at h
      · rename_i v hv
        cases h
        exact S_ret hx hb (by rw [hret]; exact o2) hlocks hd hv hR hlk (by omega) (by omega)
      · exact absurd h (by simp)
    · -- a throw
      split at h
      · exact absurd h (by simp)
      · split at h
        · rename_i hsum
          cases h
          simp only [Bool.and_eq_true, beq_iff_eq] at hck
          obtain ⟨rfl, hck⟩ := hck
          have hcs : (xinf k).1.cls = "SlowTunes" := by
            unfold xkT5 at hck
            split at hck
            · simp only [Bool.and_eq_true, decide_eq_true_eq] at hck
              exact hck.1.1
            · exact absurd hck (by simp)
          have hhh : (xinf k).2.2.2.1 = [] := o4
          have hh1 : (xbare hp 6).1 = hp.1 + 1 ∧ (xbare hp 6).2.1 = hp.2.1 + 6 := ⟨rfl, rfl⟩
          refine S_throw (own := (xinf k).1.cls) hthr hst hx hb (by rw [hml]; exact hl.1.symm) hown hlocks hW hG hGx (fun j z hz => ?_) hck (by rw [htab, hhh]; rfl) hsum hR hlk (by omega) (by omega) (by omega) (by omega) hd
          have h9 := o1 j z hz
          obtain ⟨a1, a2, a3, a4, a5, a6⟩ := z
          simp only [xkE, Bool.and_eq_true, decide_eq_true_eq] at h9
          exact h9.1.1
        · exact absurd h (by simp)
    · -- all else
      rename_i k1 k2 k3
      split at h
      · exact absurd h (by simp)
      · rename_i j' lv' st' hp' hs
        have g1 := xstp_grow hs
        have g2 := xrun_grow xtab _ _ _ _ _ _ _ _ _ h
        obtain ⟨e1, he1⟩ := hex _ _ _ _ _ _ h
        exact snd_step hcl hx hb hml hown hname hW hG hR hlk hl (by omega) (by omega) hck0 hrest k1 k2 k3 (by omega) (by omega) hs he1 (by omega) (by omega) (fun H1 locs1 ls1 r1 r2 r3 =>
          ih d k j' lv' st' hp' o hpf h hok p e R s m args below meth c H1 locs1 _ _ ls1 e1 hfr r1 r2 r3 he1 hRf hRl (by omega) (by omega))
end SV
end
section
/-! The entry: what the claim's premises say of the heap. -/
section SA1
variable {args : Array Value} {s : State}
theorem y_eqr {t u : Jvm.Term} {b : Nat} (h : (Jvm.Cond.eq t u).before args s = true) (hu : u.eval args s none [] s = some (.ref b)) : t.eval args s none [] s = some (.ref b) := by
  cases hv : t.eval args s none [] s with
  | none => simp [Jvm.Cond.before, Jvm.Cond.holds, Jvm.Cond.value, hv] at h
  | some w =>
    simp only [Jvm.Cond.before, Jvm.Cond.holds, Jvm.Cond.value, hv, hu] at h
    cases w <;> simp_all
theorem y_fld {t : Jvm.Term} {a : Nat} {cell : Cell} {o n d : String} {v : Value} (ht : t.eval args s none [] s = some (.ref a)) (hc : s.heap[a]? = some cell) (hv : (Jvm.Term.field t o n d).eval args s none [] s = some v) : cell.vm ≠ .unknown ∧ ∃ (cf : ClassId) (kf : Class) (fi : Nat) (fd : Field), s.fieldFound? o n d = some (cf, kf, fi, fd) ∧ fd.isStatic = false ∧ cell.slots[fd.slot]? = some v := by
  obtain ⟨cf, k, i, f, cell', h1, h2, h3, h4, h5, -⟩ := vk_OFof (A := fun _ => False) ht hv (fun _ _ h => h)
  cases h3.symm.trans hc
  exact ⟨h4, cf, k, i, f, h1, h2, h5⟩
end SA1
theorem y_tst : ∀ q ∈ xstL, Jvm.Cond.laysStatic q.1 q.2.1 q.2.2.1 ∈ tables_1 ∧ Jvm.Cond.initialized q.1 ∈ tables_1 := by decide +kernel
def y_txs : List (Nat × String) := [(84, "the tune is full"), (124, "there would be too many notes"), (177, "no state is saved"), (234, "there is no such pair"), (325, "there is no such tune"), (333, "there is no such note"), (335, "a number is out of range"), (337, "there is no match"), (342, "a tune is empty"), (344, "the latest work did not stop")]
theorem y_ttx : ∀ q ∈ y_txs, Jvm.Cond.stringRef "SlowTunes" q.1 q.2 ∈ tables_1 := by decide +kernel
theorem y_tx0 : ∀ i ∈ xstrL, ∃ q ∈ y_txs, q.1 = i := by decide +kernel
theorem y_thr1 : Jvm.Cond.laysStatic Bundle.tN "UNASSIGNED_STACK" Bundle.steD ∈ tables_1 ∧ Jvm.Cond.laysStatic Bundle.tN "SUPPRESSED_SENTINEL" Bundle.listD ∈ tables_1 ∧ Jvm.Cond.initialized Bundle.tN ∈ tables_1 := by decide +kernel
theorem y_cst1 : ∀ a, a < 3 → Jvm.Cond.castable (xexn a) (xexn a) ∈ tables_1 := by decide +kernel
def y_N : List Jvm.Cond := flatC (Jvm.Cond.and given_1 narrow_1)
theorem y_Nx : ∀ i ∈ xstrL, Jvm.Cond.exactly (.string "SlowTunes" i) "java/lang/String" ∈ y_N := by decide +kernel
theorem y_oth : Jvm.Cond.arrayOf (.static "java/util/ArrayList" "DEFAULTCAPACITY_EMPTY_ELEMENTDATA" "[Ljava/lang/Object;") (.object "java/lang/Object") ∈ y_N ∧ Jvm.Cond.eq (.length (.static "java/util/ArrayList" "DEFAULTCAPACITY_EMPTY_ELEMENTDATA" "[Ljava/lang/Object;")) (.int (Int32.ofNat 0)) ∈ y_N ∧ Jvm.Cond.exactly (.static "SlowTunes$Word" "SING" "LSlowTunes$Word;") "SlowTunes$Word" ∈ y_N ∧ Jvm.Cond.isRef (.static Bundle.tN "UNASSIGNED_STACK" Bundle.steD) ∈ y_N ∧ Jvm.Cond.isRef (.static Bundle.tN "SUPPRESSED_SENTINEL" Bundle.listD) ∈ y_N := by decide +kernel
theorem y_isr {args : Array Value} {s : State} {t : Jvm.Term} (h : (Jvm.Cond.isRef t).before args s = true) : ∃ q : Option Nat, t.eval args s none [] s = some (va_rf q) := by
  cases hv : t.eval args s none [] s with
  | none => simp [Jvm.Cond.before, Jvm.Cond.holds, Jvm.Cond.value, hv] at h
  | some w =>
    simp only [Jvm.Cond.before, Jvm.Cond.holds, Jvm.Cond.value, hv] at h
    cases w with
    | null => exact ⟨none, rfl⟩
    | ref t => exact ⟨some t, rfl⟩
    | _ => simp at h
set_option maxHeartbeats 4000000 in
theorem y_start {s : State} {b L : Nat} {xs : Nat → Int32} (hL : L ≤ 260) (hts : ∀ w ∈ lw_tbl, w.before #[Value.ref b] s = true) (hX : va_X b L xs s s.heap) (hgv : (Jvm.Cond.and given_1 narrow_1).before #[Value.ref b] s = true) : ∃ adc : Nat → Option Nat, xGl s b adc L xs ∧ xGx s ∧ adc 25 = some b := by
  have hs : ∀ w ∈ y_N, w.before #[Value.ref b] s = true := flat_of_before _ hgv
  have ht : ∀ w ∈ tables_1, w.before #[Value.ref b] s = true := fun w hw => hts w (List.mem_append_right _ hw)
  have hA : ∀ a : Nat, a < s.heap.size → ¬ s.heap.size ≤ a := fun a h1 h2 => absurd h1 (by omega)
  obtain ⟨o1, o2, o3, o4, o5⟩ := y_oth
  obtain ⟨da, eda, cda, gd1, gd2, gd3, gd4, gd5, -, -⟩ := va_Tof (A := fun _ => False) (f := fun _ => .null) (by decide : 0 < 2 ^ 31) (hs _ o1) (va_eqt (hs _ o2)) (fun j hj => absurd hj (Nat.not_lt_zero j)) (fun _ _ h => h)
  obtain ⟨sg, -, -, -, esg, -⟩ := Jvm.Cond.exactly_spec (show (Jvm.Cond.exactly (.static "SlowTunes$Word" "SING" "LSlowTunes$Word;") "SlowTunes$Word").holds #[Value.ref b] s none s [] = true from hs _ o3)
  obtain ⟨scr, x1, x2, x3, x4, x5⟩ := hX
  refine ⟨fun k => if k < 8 then some (sg + k) else if k = 25 then some b else if k = 26 then some da else none, ⟨hts, fun k c hk hc => ?_, fun x y hx hy hxy => ?_, fun q hq => ?_⟩, ⟨?_, ?_, ?_, ?_⟩, rfl⟩
  · by_cases k25 : k = 25
    · subst k25
      cases hc
      exact ⟨b, scr, rfl, (Array.getElem?_eq_some_iff.mp x1).1, x1, x2, x3, by rw [x4]; exact Nat.le_refl _, by rw [x4], x5⟩
    · by_cases k26 : k = 26
      · subst k26
        cases hc
        exact ⟨da, cda, rfl, (Array.getElem?_eq_some_iff.mp gd1).1, gd1, gd2, gd3, Nat.zero_le _, gd5, fun j hj => absurd hj (Nat.not_lt_zero j)⟩
      · exfalso
        unfold xcst at hc
        split at hc
        · exact k25 rfl
        · exact k26 rfl
        · cases hc
  · dsimp only at hxy
    rw [if_pos hx, if_pos hy, Option.some.injEq] at hxy
    omega
  · obtain ⟨t1, t2⟩ := y_tst q hq
    refine va_Zof (ht _ t1) (ht _ t2) ?_ hA
    simp only [xstL, List.mem_cons, List.not_mem_nil, or_false] at hq
    rcases hq with rfl | rfl
    · exact esg
    · exact eda
  · intro i hi
    obtain ⟨q, hq, rfl⟩ := y_tx0 i hi
    obtain ⟨sa, -, -, -, e1, -⟩ := Jvm.Cond.exactly_spec (show (Jvm.Cond.exactly (.string "SlowTunes" q.1) "java/lang/String").holds #[Value.ref b] s none s [] = true from hs _ (y_Nx _ hi))
    exact ⟨q.2, sa, vk_R.of (ht _ (y_ttx q hq)) e1⟩
  · exact vx_Zqof (ht _ y_thr1.1) (ht _ y_thr1.2.2) (hs _ o4) hA
  · exact vx_Zqof (ht _ y_thr1.2.1) (ht _ y_thr1.2.2) (hs _ o5) hA
  · exact fun x hx => va_Nw.of rfl (ht _ (y_cst1 x hx))
end
section
/-! THE CLAIM OUT OF ONE WALK OF THE LAW'S BODY. Your part is whole_start (and what it stands on); all else here is the same for every law, but numbers. -/
def R_law : String := "SlowTunesLaw"
def lw_P (b : Addr) (xs : List Int32) (args : Array Value) (s : State) : Prop := args = #[.ref b] ∧ s.IntsAt b xs ∧ xs.length ≤ 260 ∧ (Jvm.Cond.and given_1 narrow_1).before args s = true
/-- what a walk over the start with the record d0 says of its end, said of the start itself -/
theorem lw_closed {s t : State} {o : Outcome} {d0 : Drawn} {L : List Loc} {k n : Nat} (hd0 : s.drawn.sameBut d0 lw_cs) (hv : ∃ v, o = .returned v) (hW : (s.setDrawn d0).WarmedH t.vm) (hs : (s.setDrawn d0).sameButNew ({ t with vm := s.vm } : State) L k n) : State.butDraws s t lw_cs (fun t1 => Framed s o t1 L k n) := by
  have h2 : t.drawn = d0 := congrArg State.drawn hs.1
  refine ⟨⟨hv, hW, State.sameButNew.setDrawn hs s.drawn⟩, ?_, by decide⟩
  rw [h2]
  exact hd0
def lw_Q (_ : Array Value) (s : State) (o : Outcome) (t : State) : Prop := o = .returned (some (.int 1)) ∧ State.butDraws s t lw_cs (fun t1 => Framed s o t1 [] room_1.cells room_1.slots)
def lw_Z (below : List Frame) (a : Array Value) (s : State) : State → Prop := fun t => ∃ o, t.status = .running ∧ Ended t below o ∧ lw_Q a s o t
/-- the law's own end, with 1 on the stack, nothing written that was there before, its room as the claim has it; d0: the record of draws at this point (at the entry s.drawn: begin with 'refine W.base ?_' and 'have hd0 := Drawn.sameBut.refl s.drawn lw_cs') -/
theorem lw_ret {p : Program} {l : Launch} {e : Env} {s : State} {m : MethodId} {below : List Frame} {meth : Method} {c : Code} {b : Nat} {d0 : Drawn} (hd0 : s.drawn.sameBut d0 lw_cs) (hx : p.tables.exec = Jvm.exec) (hb : c.code = code) (hr : meth.sig.returnType = ret) (hlocks : meth.locks = false) {pc : Nat} {H : Heap} {ls : Array Slot} (hdg : decode code pc = .ok (.ireturn, 1)) : W p l e room_1 (s.setDrawn d0) m #[Value.ref b] below meth c H [] room_1.cells room_1.slots (lw_Z below #[Value.ref b] s) (F0 m pc ls [.int 1]) := by
  intro T hT X
  obtain ⟨fs, hret, hrun, hended, hW, hframe⟩ := X.leave (v := some (.int 1)) (hlocks := hlocks) (fun h => by rw [hr] at h; cases h)
  have hmeth' : T.vm.method? m = some meth := X.method'
  refine ⟨T.setFrames fs, ?_, .returned (some (.int 1)), hrun, hended, rfl, lw_closed hd0 ⟨_, rfl⟩ hW hframe⟩
  jvm_step X.here [X.here.top, hx, hb, hdg, hmeth', hr, ret, narrow_b1]
  (try refine ⟨rfl, ?_⟩); (try refine ⟨rfl, ?_⟩)
  first | (intro acts; rw [hret _ acts rfl rfl rfl]) | rw [hret _ _ rfl rfl rfl]
  exact Steps.refl _
/-- what holds at the law's entry: the machine, the code, the tables' words (any of lw_tbl by 'hts w (by decide +kernel)'), the script of L ints xs at the cell b, what the Statement gives of the start (any of its parts by flat_of_before) -/
def lw_At (p : Program) (s : State) (m : MethodId) (meth : Method) (c : Code) (b L : Nat) (xs : Nat → Int32) : Prop :=
  p.tables.exec = Jvm.exec ∧ c.code = code ∧ meth.sig.returnType = ret ∧ c.maxLocals = 12 ∧ s.vm.findClass R_law = some m.cls ∧ (∀ w ∈ lw_tbl, w.before #[Value.ref b] s = true) ∧ va_X b L xs s s.heap ∧ b < s.heap.size ∧ meth.locks = false ∧ (Jvm.Cond.and given_1 narrow_1).before #[Value.ref b] s = true
/-- the law on the small machine comes to its end with true, within the room -/
def y_Ends : Prop := ∀ (L : Nat) (xs : Nat → Int32), L ≤ 260 → Cv 9 119 [.ref 25] (28, 0, xcst L xs) (fun o h => o = .inl (some (.int 1)) ∧ h.1 ≤ 28 + 600000 ∧ h.2.1 ≤ 7000000)
theorem y_weak {s t : State} {Lx : List Loc} {k n : Nat} (h : s.sameButNew t Lx k n) (hl : ∀ q ∈ Lx, s.heap.size ≤ q.base) : s.sameButNew t [] k n := by
  obtain ⟨h1, h2, h3, h4, h5, h6⟩ := h
  refine ⟨h1, h2, h3, h4, h5, fun a c ha => ?_⟩
  obtain ⟨c', g1, g2, g3, g4⟩ := h6 a c ha
  refine ⟨c', g1, g2, g3, fun i _ => g4 i fun hm => ?_⟩
  have h7 := hl _ hm
  have h8 := (Array.getElem?_eq_some_iff.mp ha).1
  exact absurd h7 (Nat.not_le.mpr h8)
theorem y_ok : xOk 119 := by
  obtain ⟨h1, h2, h3, h4, h5⟩ := xk_law_n
  refine ⟨xk_law, h3, ?_, h5, h2, by decide +kernel, fun x hx => by rw [h4] at hx; cases hx⟩
  rw [h4, h5]
  rfl
set_option maxHeartbeats 4000000 in
theorem y_whole (hrun : y_Ends) {p : Program} {e : Env} {s : State} {m : MethodId} {below : List Frame} {meth : Method} {c : Code} (l : Launch) (hflags : l.flags = flags0) {b L : Nat} {xs : Nat → Int32} (hL : L ≤ 260) (C0 : lw_At p s m meth c b L xs) (hnm : meth.name = "law") (hex : c.exceptionTable.toList = []) : W p l e room_1 s m #[Value.ref b] below meth c s.heap [] 0 0 (lw_Z below #[Value.ref b] s) (entryFrame m ([Value.ref b] : List Value).toArray 12) := by
  obtain ⟨hx, hbytes, hret, hml, hown, hts, hX, hbl, hlk, hgv⟩ := C0
  obtain ⟨adc, hG, hGx, h25⟩ := y_start hL hts hX hgv
  obtain ⟨n, o, hpf, hr, ho, hc, hs⟩ := hrun L xs hL
  have hst : l.stackTraces = false := by rw [Launch.stackTraces, hflags]; decide
  have hR : xRel s adc L xs (28, 0, xcst L xs) s.heap := by
    refine ⟨Nat.le_refl _, rfl, fun q _ => rfl, fun k _ => rfl, fun k c hk hc => ?_⟩
    have h28 : 28 ≤ k := hk
    exfalso
    obtain ⟨k', rfl⟩ : ∃ k', k = k' + 28 := ⟨k - 28, by omega⟩
    exact absurd hc (by simp [xcst])
  have hfr : xFr s p s m meth c 119 := ⟨hx, hbytes, hml, hown, hlk, hret, hnm, by rw [hex]; rfl, State.WarmedH.refl s⟩
  have hv25 : xv s adc (.ref 25) = .ref b := by
    show va_rf (xad s adc 25) = .ref b
    rw [xad, if_pos (by decide), h25]
    rfl
  have hargs : ([Value.ref 25].map (xv s adc)) = [Value.ref b] := by rw [List.map_cons, hv25]; rfl
  have hl := lv_entry ([Value.ref 25].map (xv s adc)) (n := 12) (by rw [lg_sl_len, xv_sum]; decide)
  rw [xargs_map, hargs] at hl
  obtain ⟨e0, he0, hpc⟩ : ∃ e0, (xtab 119).1[0]? = some e0 ∧ e0.1 = 0 := by
    have h6 := y_ok.2.2.2.2.2.1
    cases hh : (xtab 119).1 with
    | nil => rw [hh] at h6; exact absurd h6 (by simp)
    | cons a r =>
      rw [hh] at h6
      exact ⟨a, rfl, Option.some.inj h6⟩
  have K := xsound (fun ci h => xk_cl ci h) xk_all xk_thr hst hG hGx n 9 119 0 _ [] (28, 0, xcst L xs) o hpf hr y_ok p e room_1 s m #[Value.ref b] below meth c s.heap [] 0 0 _ e0 hfr hR (fun q hq => nomatch hq) hl he0 (by decide) (by decide) (show 0 + (hpf.1 - 28) ≤ room_1.cells from Nat.le_trans (show 0 + (hpf.1 - 28) ≤ 600000 by omega) (by decide)) (show 0 + (hpf.2.1 - 0) ≤ room_1.slots from Nat.le_trans (show 0 + (hpf.2.1 - 0) ≤ 7000000 by omega) (by decide))
  rw [hpc] at K
  rw [lg_entry_eq]
  intro T hT X
  obtain ⟨t, a1, oc, b1, b2, b3⟩ := K T hT X
  refine ⟨t, a1, oc, b1, b2, ?_⟩
  rcases b3 with ⟨⟨v, hv, hoc, -⟩, Lx, ⟨hret2, hW2, hsame⟩, hfree⟩ | ⟨q, -, E, ce, Lx, ⟨ei, hE, -⟩, -⟩
  · subst ho
    cases hv
    refine ⟨hoc, ?_⟩
    exact lw_closed (d0 := s.drawn) (Drawn.sameBut.refl s.drawn lw_cs) hret2 hW2 (y_weak hsame hfree)
  · subst ho
    cases hE
set_option maxHeartbeats 4000000 in
theorem lw_walk (hrun : y_Ends) (l : Launch) (hflags : l.flags = flags0) (b : Addr) (xs : List Int32) : MetFree l x (headSpec (Jvm.Cond.code x code maxLocals ret :: tables_1) room_1) (lw_P b xs) (fun _ _ _ _ _ => True) lw_Q := by
  refine MetFree.of_bodyS (code := code) (maxLocals := maxLocals) (ret := ret) (by decide) ?_ ?_
  · intro args s m h hn
    obtain ⟨meth, c, h1, h2, h3, h4, h5, h6, -, -⟩ := Cond.code_spec hn (atoms_spec (ws := Jvm.Cond.code x code maxLocals ret :: tables_1) h _ List.mem_cons_self)
    exact ⟨meth, c, h1, h2, h3, h4, h5, h6⟩
  · intro p e s m args below meth c s₁ B hml0 hP _
    obtain ⟨rfl, hx, hbd, hgv⟩ := hP
    obtain ⟨scr, harrAt, hlist, hof, hsmall⟩ := hx
    obtain ⟨hcb, hkn, -, -⟩ := State.arrayAt?_spec harrAt
    have hown : s.vm.findClass R_law = some m.cls := findClass_of_methodNamed B.named
    have hts0 : ∀ c ∈ (Jvm.Cond.code x code maxLocals ret :: tables_1), c.before #[Value.ref b] s = true := atoms_spec (ws := Jvm.Cond.code x code maxLocals ret :: tables_1) B.pre
    have hts : ∀ w ∈ lw_tbl, w.before #[Value.ref b] s = true := k2_hts_sels lw_privs (fun w hw => hts0 w (List.mem_cons_of_mem _ hw)) lw_privs_ok
    have hml : c.maxLocals = 12 := B.maxLocals_eq (hts0 _ List.mem_cons_self)
    have htab : c.exceptionTable.toList = [] := by
      obtain ⟨meth9, c9, h1, h2, -, -, -, -, h7, -⟩ := Cond.code_spec B.named (hts0 _ List.mem_cons_self)
      cases Option.some.inj (h1.symm.trans B.method)
      cases Option.some.inj (h2.symm.trans (Stand.of_body B).code)
      rw [Array.isEmpty_iff.mp h7]
    have X₀ : Stand p l e room_1 s m #[Value.ref b] below meth c s₁ [] 0 0 := Stand.of_body B
    have hh0 : s₁.heap = s.heap := by rw [B.state]; rfl
    have hsz : scr.slots.size = xs.length := by rw [← Array.length_toList, hlist, List.length_map]
    have hval : ∀ j : Nat, j < xs.length → scr.slots[j]? = some (.int (xs.getD j 0)) := fun j hj => by
      rw [← Array.getElem?_toList, hlist]
      simp [hj]
    have hbl : b < s.heap.size := (Array.getElem?_eq_some_iff.mp hcb).1
    have hX : va_X b xs.length (fun j => xs.getD j 0) s s.heap := ⟨scr, hcb, hof, hkn, hsz, hval⟩
    have K : W p l e room_1 s m #[Value.ref b] below meth c s₁.heap [] 0 0 (lw_Z below #[Value.ref b] s) (entryFrame m ([Value.ref b] : List Value).toArray 12) := by
      rw [hh0]
      exact y_whole hrun l hflags hbd ⟨B.exec, B.bytes, B.returns, hml, hown, hts, hX, hbl, B.notSynchronized, hgv⟩ (name_of_methodNamed B.named B.method).1 htab
    obtain ⟨t, a1, o, b1, b2, b3⟩ := K s₁ rfl X₀
    exact ⟨t, o, a1, b1, b2, b3⟩
theorem lw_pre_spec {args : Array Value} {s : State} (h : (Jvm.Cond.and given_1 narrow_1).before args s = true) (hr : rest_1_c.before args s = true) : ∃ (b : Addr) (xs : List Int32), lw_P b xs args s := by
  have hs := flat_of_before _ h
  have hq := flat_of_before _ hr
  have hc : (Cond.count 1).before args s = true := hs _ (by decide +kernel)
  have harr : (Cond.arrayOf (.arg 0) .int).before args s = true := hs _ (by decide +kernel)
  have hle : (Cond.le (.length (.arg 0)) (.int 260)).before args s = true := hs _ (by decide +kernel)
  have hlen : (Cond.isInt (.length (.arg 0))).before args s = true := hq _ (by decide +kernel)
  have hall : (Cond.all (.arg 0) (.isInt (.elem (.arg 0) (.index 0)))).before args s = true := hq _ (by decide +kernel)
  obtain ⟨b, xs, hb, hx⟩ := State.ints_of_pre rfl harr hlen hall
  have hsm : xs.length < 2 ^ 31 := hx.choose_spec.2.2.2
  have hev : (Term.length (.arg 0)).eval args s none [] s = some (.int xs.length.toInt32) := hx.length_eval hb
  have hv := Cond.le_ints hev (show (Term.int 260).eval args s none [] s = some (.int 260) from rfl)
  have hd : xs.length.toInt32 ≤ 260 := by
    simpa [Cond.before, Cond.holds, hv] using hle
  have hN : xs.length ≤ 260 := (Int32.ofNat_le_ofNat hsm (by decide)).mp (show Int32.ofNat xs.length ≤ Int32.ofNat 260 from hd)
  exact ⟨b, xs, Cond.one_arg hc (show args[0]? = some (.ref b) from hb), hx, hN, h⟩
theorem lw_comes (hrun : y_Ends) (l : Launch) (hflags : l.flags = flags0) : Comes l x (Jvm.Cond.code x code maxLocals ret :: tables_1) room_1 (fun tb e args s => Calls_1 tb e args s ∧ rest_1 tb e args s ∧ Pre_1 tb e args s)
    (fun _ _ args s o t => lw_Q args s o t) := by
  intro p e ha hc hk s m args below hf hfit hheap happ hpre
  obtain ⟨b, xs, hP⟩ := lw_pre_spec hpre.2.2 hpre.2.1
  obtain ⟨k, o, h1, h2, h3, hQ⟩ := lw_walk hrun l hflags b xs p e ha hc hk s m args below hf ((Spec.applies_iff_loose hf).mp happ).1 hP trivial
  exact ⟨k, o, h1, h2, h3, hQ⟩
theorem lw_frame {s t : State} {o : Outcome} {args : Array Value} (h : State.butDraws s t lw_cs (fun t1 => Framed s o t1 [] room_1.cells room_1.slots)) :
    State.butDraws s t [Jvm.Choice.named "NaN.bits"] (fun t1 => Framed s o t1 (fieldLocs frame_1_writes args s ++ arrayLocs frame_1_arrays args s ++ staticLocs frame_1_statics s) room_1.cells room_1.slots) := h
theorem lw_limb (hrun : y_Ends) (L : Cond) (hL : ∀ (args : Array Value) (s t : State), L.after args s (.returned (some (.int 1))) t = true) :
    ArmFor flags0 classFile x code maxLocals ret World_1 tables_1 room_1 Calls_1 rest_1 Pre_1
      (fun tb e a s o t => postC L tb e a s o t ∧ State.butDraws s t [Jvm.Choice.named "NaN.bits"] (fun t1 => Framed s o t1 (fieldLocs frame_1_writes a s ++ arrayLocs frame_1_arrays a s ++ staticLocs frame_1_statics s) room_1.cells room_1.slots)) := by
  intro l hflags _ _ p e ha hc hk s m args below hf hfit hheap happ hpre
  obtain ⟨k, o, h1, h2, h3, rfl, hF⟩ := lw_comes hrun l hflags p e ha hc hk s m args below hf hfit hheap happ hpre
  exact ⟨k, _, h1, h2, h3, hL args s _, lw_frame hF⟩
theorem y_vc (hrun : y_Ends) : Claimed_1_1 ∧ Claimed_1_2 := ⟨lw_limb hrun limb_1_1 (fun args s t => by simp [limb_1_1, Cond.after, Cond.holds, Cond.value]), lw_limb hrun limb_1_2 (fun args s t => Cond.after_iff.mpr (by
  first | (rw [show limb_1_2 = Cond.eq .result (.int 1) from rfl, Cond.eq_ints (x := 1) (y := 1) rfl rfl]; simp; done) | (simp [limb_1_2, Cond.value, Term.eval]; done)))⟩
end
section
/-! Walking on numbers: ints as integers, frames, loops. -/
/-- the locals of the one are those of the other, and perhaps fewer -/
def xle (a b : xL) : Prop := (∀ i v, xget a i = some v → xget b i = some v) ∧ (a.map Prod.fst).Nodup ∧ (b.map Prod.fst).Nodup
theorem xget_cons (a : Nat) (w : Value) (l : xL) (k : Nat) : xget ((a, w) :: l) k = if a = k then some w else xget l k := rfl
theorem xget_filter {p : Nat × Value → Bool} : ∀ (l : xL), (l.map Prod.fst).Nodup → ∀ (k : Nat) (v : Value), xget (l.filter p) k = some v ↔ (xget l k = some v ∧ p (k, v) = true) := by
  have hmem : ∀ (l : xL) (k : Nat) (v : Value), xget l k = some v → k ∈ l.map Prod.fst := by
    intro l
    induction l with
    | nil => intro k v h; simp [xget] at h
    | cons q l ih =>
      intro k v h
      obtain ⟨a, w⟩ := q
      unfold xget at h
      split at h
      · rename_i e
        subst e
        simp
      · simp [ih k v h]
  intro l
  induction l with
  | nil => intro _ k v; simp [xget]
  | cons q l ih =>
    intro hn k v
    obtain ⟨a, w⟩ := q
    simp only [List.map_cons, List.nodup_cons] at hn
    have ih := ih hn.2
    rw [List.filter_cons]
    by_cases hp : p (a, w) = true
    · rw [if_pos hp]
      unfold xget
      split
      · rename_i e
        subst e
        constructor
        · intro h
          cases h
          exact ⟨rfl, hp⟩
        · intro h
          exact h.1
      · exact ih k v
    · rw [if_neg hp, ih k v, xget_cons]
      split
      · rename_i e
        subst e
        constructor
        · intro h
          exact absurd (hmem l a v h.1) hn.1
        · intro h
          obtain ⟨h1, h2⟩ := h
          cases h1
          exact absurd h2 hp
      · rfl
theorem xnod_filter {p : Nat × Value → Bool} {l : xL} (h : (l.map Prod.fst).Nodup) : ((l.filter p).map Prod.fst).Nodup := (List.Sublist.map Prod.fst List.filter_sublist).nodup h
theorem xle_cons1 {a b : xL} (h : xle a b) {p : Nat × Value → Bool} {i : Nat} {v : Value} (hp : ∀ w, p (i, w) = false) : xle ((i, v) :: a.filter p) ((i, v) :: b.filter p) := by
  obtain ⟨h1, h2, h3⟩ := h
  have hni : ∀ l : xL, i ∉ (l.filter p).map Prod.fst := by
    intro l hm
    obtain ⟨q, hq, e⟩ := List.mem_map.mp hm
    have h4 := (List.mem_filter.mp hq).2
    obtain ⟨a, w⟩ := q
    subst e
    rw [hp w] at h4
    exact absurd h4 (by simp)
  refine ⟨fun k w hk => ?_, ?_, ?_⟩
  · unfold xget at hk ⊢
    split at hk
    · rename_i e
      rw [if_pos e]
      exact hk
    · rename_i e
      rw [if_neg e]
      rw [xget_filter _ h2] at hk
      rw [xget_filter _ h3]
      exact ⟨h1 _ _ hk.1, hk.2⟩
  · rw [List.map_cons, List.nodup_cons]
    exact ⟨hni a, xnod_filter h2⟩
  · rw [List.map_cons, List.nodup_cons]
    exact ⟨hni b, xnod_filter h3⟩
theorem xle_st1 {a b : xL} (h : xle a b) (i : Nat) (v : Value) : xle (xst1 a i v) (xst1 b i v) := xle_cons1 h (fun w => by simp)
theorem xle_st2 {a b : xL} (h : xle a b) (i : Nat) (v : Value) : xle (xst2 a i v) (xst2 b i v) := xle_cons1 h (fun w => by simp)
theorem xle_del {a b : xL} (h : xle a b) (i : Nat) : xle (xdel a i) (xdel b i) := by
  obtain ⟨h1, h2, h3⟩ := h
  refine ⟨fun k w hk => ?_, xnod_filter h2, xnod_filter h3⟩
  unfold xdel at hk ⊢
  rw [xget_filter _ h2] at hk
  rw [xget_filter _ h3]
  exact ⟨h1 _ _ hk.1, hk.2⟩
theorem xsA_le {nL j : Nat} {i : Instr} {ax : List Nat} {cv : Value} {a b lv' : xL} {st st' : List Value} {hp hp' : xH} {j' : Nat} (hl : xle a b) (h : xsA nL j i ax cv a st hp = some (j', lv', st', hp')) : ∃ lv1, xsA nL j i ax cv b st hp = some (j', lv1, st', hp') ∧ xle lv' lv1 := by
  unfold xsA at h ⊢
  simp only [xjmp] at h ⊢
  split at h
  all_goals (try dsimp only)
  all_goals first
    | (cases h; exact ⟨_, rfl, hl⟩)
    | (cases h; done)
    | (split at h
       · rename_i x hx
         cases h
         rw [hl.1 _ _ hx]
         exact ⟨_, rfl, hl⟩
       · cases h)
    | (split at h
       · rename_i hx
         cases h
         rw [if_pos hx]
         first | exact ⟨_, rfl, xle_st1 hl _ _⟩ | exact ⟨_, rfl, xle_st2 hl _ _⟩ | exact ⟨_, rfl, hl⟩
       · first | (cases h; done) | (rename_i hx; cases h; rw [if_neg hx]; exact ⟨_, rfl, hl⟩))
    | (split at h
       · cases h
       · rename_i hx
         cases h
         rw [if_neg hx]
         exact ⟨_, rfl, hl⟩)
    | (split at h
       · rename_i x dd hx
         rw [hl.1 _ _ hx]
         dsimp only
         split at h
         · rename_i h3
           cases h
           rw [if_pos h3]
           exact ⟨_, rfl, xle_st1 hl _ _⟩
         · cases h
       · cases h)
    | skip
theorem xsB_le {j : Nat} {i : Instr} {ax : List Nat} {cv : Value} {a b lv' : xL} {st st' : List Value} {hp hp' : xH} {j' : Nat} (h : xsB j i ax cv a st hp = some (j', lv', st', hp')) : lv' = a ∧ xsB j i ax cv b st hp = some (j', b, st', hp') := by
  unfold xsB at h ⊢
  simp only [xjmp] at h ⊢
  split at h
  all_goals (repeat' split at h)
  all_goals first | (cases h; done) | (cases h; refine ⟨rfl, ?_⟩; simp_all; done) | (rename_i g1 cc g2; cases h; refine ⟨rfl, ?_⟩; rw [if_pos g1]; first | rw [if_pos g2] | rw [if_neg g2])
end
section
theorem xstp_le {nL kd j : Nat} {i : Instr} {ax : List Nat} {cv : Value} {a b lv' : xL} {st st' : List Value} {hp hp' : xH} {j' : Nat} (hl : xle a b) (h : xstp nL kd j i ax cv a st hp = some (j', lv', st', hp')) : ∃ lv1, xstp nL kd j i ax cv b st hp = some (j', lv1, st', hp') ∧ xle lv' lv1 := by
  unfold xstp at h ⊢
  split at h
  · exact xsA_le hl h
  · obtain ⟨rfl, h2⟩ := xsB_le (b := b) h
    exact ⟨b, h2, hl⟩
  all_goals (try unfold xcopy at h)
  all_goals (try unfold xcopy)
  all_goals (try dsimp only)
  all_goals (repeat' split at h)
  all_goals first | (cases h; done) | (cases h; refine ⟨b, ?_, hl⟩; simp_all; done) | (rename_i g1 g2; cases h; refine ⟨b, ?_, hl⟩; rw [if_pos g1]; first | rw [if_pos g2] | rw [if_neg g2])
theorem xrun_le (tab : Nat → xM) : ∀ (n d k j : Nat) (a b : xL) (st : List Value) (hp : xH) (r : xO × xH), xle a b → xrun tab n d k j a st hp = some r → xrun tab n d k j b st hp = some r := by
  intro n
  induction n with
  | zero => intro d k j a b st hp r _ h; simp [xrun] at h
  | succ n ih =>
    intro d k j a b st hp r hl h
    unfold xrun at h ⊢
    split at h
    · exact absurd h (by simp)
    · rename_i pc kd i len ax cv he
      split at h
      · split at h
        · exact absurd h (by simp)
        · rename_i hc
          try dsimp only
          rw [if_neg hc]
          split at h
          · rename_i hr
            rw [if_pos hr]
            cases d with
            | zero => exact absurd h (by simp)
            | succ d =>
              dsimp only at h ⊢
              split at h
              · exact absurd h (by simp)
              · rename_i v hp1 hcall
                exact ih _ _ _ _ _ _ _ _ hl h
              · rename_i E hp1 hcall
                split at h
                · exact h
                · exact ih _ _ _ _ _ _ _ _ (xle_del hl _) h
          · exact absurd h (by simp)
      · exact h
      · exact h
      · rename_i h1 h2 h3
        split at h
        · exact absurd h (by simp)
        · rename_i j1 lv1 st1 hp1 hs
          obtain ⟨lv2, e1, e2⟩ := xstp_le hl hs
          rw [e1]
          exact ih _ _ _ _ _ _ _ _ e2 h
theorem Ev_le {d k j : Nat} {a b : xL} {st : List Value} {hp : xH} {Q : xO → xH → Prop} (hl : xle a b) (h : Ev d k j a st hp Q) : Ev d k j b st hp Q := by
  obtain ⟨n, o, hp', h1, h2⟩ := h
  exact ⟨n, o, hp', xrun_le xtab _ _ _ _ _ _ _ _ _ hl h1, h2⟩
theorem xle_nil (b : xL) (h : (b.map Prod.fst).Nodup) : xle [] b := ⟨fun i v h => by simp [xget] at h, List.nodup_nil, h⟩
theorem xle_cons {a b : xL} {i : Nat} {v : Value} (h1 : xget b i = some v) (h2 : i ∉ a.map Prod.fst) (h : xle a b) : xle ((i, v) :: a) b := by
  refine ⟨fun k w hk => ?_, ?_, h.2.2⟩
  · rw [xget_cons] at hk
    split at hk
    · rename_i e
      subst e
      cases hk
      exact h1
    · exact h.1 _ _ hk
  · rw [List.map_cons, List.nodup_cons]
    exact ⟨h2, h.2.1⟩
def xnd : List Nat → Bool
  | [] => true
  | a :: l => l.all (fun b => !(a == b)) && xnd l
theorem xnd_of : ∀ {l : List Nat}, xnd l = true → l.Nodup := by
  intro l
  induction l with
  | nil => intro _; exact List.nodup_nil
  | cons a l ih =>
    intro h
    unfold xnd at h
    rw [Bool.and_eq_true, List.all_eq_true] at h
    rw [List.nodup_cons]
    refine ⟨fun hm => ?_, ih h.2⟩
    have h1 := h.1 a hm
    simp at h1
theorem xle_z (b : xL) (h : xnd (b.map Prod.fst) = true) : xle [] b := xle_nil b (xnd_of h)
theorem xle_s {a b : xL} {i : Nat} {v : Value} (h1 : xget b i = some v) (h2 : (a.map Prod.fst).all (fun b => !(i == b)) = true) (h : xle a b) : xle ((i, v) :: a) b := xle_cons h1 (fun hm => by
  have h3 := List.all_eq_true.mp h2 i hm
  simp at h3) h
end
section
def iN (z : Int) : Int32 := Int32.ofInt z
abbrev yi (z : Int) : Value := .int (iN z)
theorem iN_toInt {z : Int} (h : -2147483648 ≤ z ∧ z ≤ 2147483647) : (iN z).toInt = z := Int32.toInt_ofInt_of_le (by omega) (by omega)
theorem iN_of (x : Int32) : iN x.toInt = x := Int32.ofInt_toInt x
theorem iN_rng (x : Int32) : -2147483648 ≤ x.toInt ∧ x.toInt ≤ 2147483647 := ⟨Int32.le_toInt x, by have := Int32.toInt_lt x; omega⟩
theorem iN_lt {a b : Int} (h : -2147483648 ≤ a ∧ a ≤ 2147483647 ∧ -2147483648 ≤ b ∧ b ≤ 2147483647) : iN a < iN b ↔ a < b := by
  rw [Int32.lt_iff_toInt_lt, iN_toInt ⟨h.1, h.2.1⟩, iN_toInt h.2.2]
theorem iN_le {a b : Int} (h : -2147483648 ≤ a ∧ a ≤ 2147483647 ∧ -2147483648 ≤ b ∧ b ≤ 2147483647) : iN a ≤ iN b ↔ a ≤ b := by
  rw [Int32.le_iff_toInt_le, iN_toInt ⟨h.1, h.2.1⟩, iN_toInt h.2.2]
theorem iN_eq {a b : Int} (h : -2147483648 ≤ a ∧ a ≤ 2147483647 ∧ -2147483648 ≤ b ∧ b ≤ 2147483647) : iN a = iN b ↔ a = b := by
  constructor
  · intro e
    rw [← iN_toInt ⟨h.1, h.2.1⟩, e, iN_toInt h.2.2]
  · rintro rfl
    rfl
theorem iN_add (a b : Int) : iN a + iN b = iN (a + b) := (Int32.ofInt_add a b).symm
theorem iN_sub (a b : Int) : iN a - iN b = iN (a - b) := (Int32.ofInt_sub a b).symm
theorem iN_mul (a b : Int) : iN a * iN b = iN (a * b) := (Int32.ofInt_mul a b).symm
theorem iN_neg (a : Int) : -iN a = iN (-a) := (Int32.ofInt_neg a).symm
theorem iN_nat {z : Int} (h : -2147483648 ≤ z ∧ z ≤ 2147483647) : (iN z).toNatClampNeg = z.toNat := by
  rw [Int32.toNatClampNeg, iN_toInt h]
theorem iN_ofInt {x : Int32} {z : Int} (h : x.toInt = z) : x = iN z := by rw [← h, iN_of]
theorem iN_div {a b : Int} (h : 0 ≤ a ∧ a ≤ 2147483647 ∧ 0 < b ∧ b ≤ 2147483647) : iN a / iN b = iN (a / b) := by
  apply iN_ofInt
  have h1 : a.tdiv b = a / b := Int.tdiv_eq_ediv_of_nonneg h.1
  have h2 : 0 ≤ a / b := Int.ediv_nonneg h.1 (by omega)
  have h3 : a / b ≤ a := Int.ediv_le_self b h.1
  rw [Int32.toInt_div, iN_toInt (by omega), iN_toInt (by omega), h1, Int.bmod_eq_of_le (by omega) (by omega)]
theorem iN_rem {a b : Int} (h : 0 ≤ a ∧ a ≤ 2147483647 ∧ 0 < b ∧ b ≤ 2147483647) : iN a - iN a / iN b * iN b = iN (a % b) := by
  rw [iN_div h, iN_mul, iN_sub, Int.emod_def, Int.mul_comm b]
end
section
def yI (n : Nat) (f : Int → Int) : xC := .inl (.int, n, fun q => yi (f (q : Int)))
def up (f : Int → Int) (k x : Int) : Int → Int := fun q => if q = k then x else f q
theorem up_self (f : Int → Int) (k x : Int) : up f k x k = x := if_pos rfl
theorem up_ne (f : Int → Int) {k q : Int} (x : Int) (h : q ≠ k) : up f k x q = f q := if_neg h
def b2 (P : Prop) [Decidable P] : Int := if P then 1 else 0
theorem b2_t {P : Prop} {_ : Decidable P} (h : P) : b2 P = 1 := if_pos h
theorem b2_f {P : Prop} {_ : Decidable P} (h : ¬ P) : b2 P = 0 := if_neg h
/-- the heap is the same but for the cells of S -/
def yfr (S : List Nat) (h h' : xH) : Prop := h'.1 = h.1 ∧ h'.2.1 = h.2.1 ∧ ∀ i, i ∉ S → xat h' i = xat h i
theorem yfr.refl (S : List Nat) (h : xH) : yfr S h h := ⟨rfl, rfl, fun _ _ => rfl⟩
theorem yfr.tr {S1 S2 S : List Nat} {h h1 h2 : xH} (a : yfr S1 h h1) (b : yfr S2 h1 h2) (s1 : ∀ i ∈ S1, i ∈ S) (s2 : ∀ i ∈ S2, i ∈ S) : yfr S h h2 :=
  ⟨b.1.trans a.1, b.2.1.trans a.2.1, fun i hi => (b.2.2 i (fun h => hi (s2 i h))).trans (a.2.2 i (fun h => hi (s1 i h)))⟩
theorem yfr.mono {S1 S : List Nat} {h h1 : xH} (a : yfr S1 h h1) (s1 : ∀ i ∈ S1, i ∈ S) : yfr S h h1 := ⟨a.1, a.2.1, fun i hi => a.2.2 i (fun h => hi (s1 i h))⟩
theorem yfr.at {S : List Nat} {h h' : xH} (a : yfr S h h') {i : Nat} {c : Option xC} (hi : i ∉ S) (e : xat h i = c) : xat h' i = c := (a.2.2 i hi).trans e
theorem yfr_put (h : xH) (a : Nat) (c : xC) : yfr [a] h (xput h a c) := ⟨rfl, rfl, fun i hi => xat_put_ne h c (by simpa using hi)⟩
/-- it returns v, and of the heap R is true -/
def yR (v : Option Value) (R : xH → Prop) : xO → xH → Prop := fun o h => o = .inl v ∧ R h
/-- it returns v and the heap is as it was -/
abbrev yP (v : Option Value) (h : xH) : xO → xH → Prop := yR v (fun h' => h' = h)
/-- it returns v where P holds, and throws E where it doesn't -/
def yT (P : Prop) (E : Nat) (v : Option Value) (h : xH) : xO → xH → Prop := fun o h' => (P ∧ o = .inl v ∧ h' = h) ∨ (¬ P ∧ o = .inr E ∧ h' = xbare h 6)
theorem rcv0 {hp : xH} {a ci : Nat} {fs : List Value} {as : List Value} (h : xat hp a = some (.inr (ci, fs))) : xrcv 0 ci (.ref a :: as) hp = true := by
  have h : hp.2.2 a = some (.inr (ci, fs)) := h
  simp [xrcv, h]
theorem rcv2 {hp : xH} {a ci : Nat} {c : xC} {as : List Value} (h : xat hp a = some c) : xrcv 2 ci (.ref a :: as) hp = true := by
  have h : hp.2.2 a = some c := h
  simp [xrcv, h]
theorem rcv3 {hp : xH} {a ci : Nat} {c : xC} {as : List Value} (h : xat hp a = some c) : xrcv 3 ci (.ref a :: as) hp = true := by
  have h : hp.2.2 a = some c := h
  simp [xrcv, h]
theorem xret_b2 {P : Prop} {_ : Decidable P} : xret 2 .ireturn [yi (b2 P)] = some (some (yi (b2 P))) := by
  by_cases h : P
  · rw [b2_t h]; rfl
  · rw [b2_f h]; rfl
theorem xret_01 {z : Int} (h : z = 0 ∨ z = 1) : xret 2 .ireturn [yi z] = some (some (yi z)) := by
  rcases h with rfl | rfl <;> rfl
theorem xfit_01 {z : Int} (h : z = 0 ∨ z = 1) : xfit 1 (yi z) = true := by
  rcases h with rfl | rfl <;> rfl
theorem xfit_b2 {P : Prop} {_ : Decidable P} : xfit 1 (yi (b2 P)) = true := by
  by_cases h : P
  · rw [b2_t h]; rfl
  · rw [b2_f h]; rfl
section EY
variable {d k j nL rk : Nat} {L : List xE} {hs : List xX} {lv : xL} {st : List Value} {hp : xH} {Q : xO → xH → Prop} {pc len : Nat} {ax : List Nat} {cv : Value} {a b : Int}
theorem Y_con {i : Instr} {x : Int32} {z : Int} (hk : xtab k = (L, nL, rk, hs)) (he : L[j]? = some (pc, 0, i, len, ax, .int x)) (hi : (∃ c, i = .iconst c) ∨ (∃ c, i = .bipush c) ∨ (∃ c, i = .sipush c) ∨ (∃ c, i = .ldc c) ∨ (∃ c, i = .ldc_w c)) (hz : x = iN z) (kk : Ev d k (j + 1) lv (yi z :: st) hp Q) : Ev d k j lv st hp Q := by
  subst hz
  rcases hi with ⟨c, rfl⟩ | ⟨c, rfl⟩ | ⟨c, rfl⟩ | ⟨c, rfl⟩ | ⟨c, rfl⟩ <;> exact E_step hk he (by decide) (by decide) (by decide) rfl kk
theorem Y_iadd (hk : xtab k = (L, nL, rk, hs)) (he : L[j]? = some (pc, 0, .iadd, len, ax, cv)) (kk : Ev d k (j + 1) lv (yi (a + b) :: st) hp Q) : Ev d k j lv (yi b :: yi a :: st) hp Q :=
  E_step hk he (by decide) (by decide) (by decide) (by show some _ = _; rw [iN_add]) kk
theorem Y_isub (hk : xtab k = (L, nL, rk, hs)) (he : L[j]? = some (pc, 0, .isub, len, ax, cv)) (kk : Ev d k (j + 1) lv (yi (a - b) :: st) hp Q) : Ev d k j lv (yi b :: yi a :: st) hp Q :=
  E_step hk he (by decide) (by decide) (by decide) (by show some _ = _; rw [iN_sub]) kk
theorem Y_imul (hk : xtab k = (L, nL, rk, hs)) (he : L[j]? = some (pc, 0, .imul, len, ax, cv)) (kk : Ev d k (j + 1) lv (yi (a * b) :: st) hp Q) : Ev d k j lv (yi b :: yi a :: st) hp Q :=
  E_step hk he (by decide) (by decide) (by decide) (by show some _ = _; rw [iN_mul]) kk
theorem Y_ineg (hk : xtab k = (L, nL, rk, hs)) (he : L[j]? = some (pc, 0, .ineg, len, ax, cv)) (kk : Ev d k (j + 1) lv (yi (-a) :: st) hp Q) : Ev d k j lv (yi a :: st) hp Q :=
  E_step hk he (by decide) (by decide) (by decide) (by show some _ = _; rw [iN_neg]) kk
theorem Y_idiv (hr : 0 ≤ a ∧ a ≤ 2147483647 ∧ 0 < b ∧ b ≤ 2147483647) (hk : xtab k = (L, nL, rk, hs)) (he : L[j]? = some (pc, 0, .idiv, len, ax, cv)) (kk : Ev d k (j + 1) lv (yi (a / b) :: st) hp Q) : Ev d k j lv (yi b :: yi a :: st) hp Q := by
  refine E_step hk he (by decide) (by decide) (by decide) ?_ kk
  have h0 : ¬ iN b = 0 := fun h => by
    have h1 : iN b = iN 0 := h
    rw [iN_eq (by omega)] at h1
    omega
  show (if iN b = 0 then none else _) = _
  rw [if_neg h0, iN_div hr]
theorem Y_irem (hr : 0 ≤ a ∧ a ≤ 2147483647 ∧ 0 < b ∧ b ≤ 2147483647) (hk : xtab k = (L, nL, rk, hs)) (he : L[j]? = some (pc, 0, .irem, len, ax, cv)) (kk : Ev d k (j + 1) lv (yi (a % b) :: st) hp Q) : Ev d k j lv (yi b :: yi a :: st) hp Q := by
  refine E_step hk he (by decide) (by decide) (by decide) ?_ kk
  have h0 : ¬ iN b = 0 := fun h => by
    have h1 : iN b = iN 0 := h
    rw [iN_eq (by omega)] at h1
    omega
  show (if iN b = 0 then none else _) = _
  rw [if_neg h0, iN_rem hr]
theorem Y_iinc {i : Nat} {x : Int32} {c z : Int} (hk : xtab k = (L, nL, rk, hs)) (he : L[j]? = some (pc, 0, .iinc i c, len, ax, .int x)) (hx : x = iN z) (hg : xget lv i = some (yi a)) (hn : i < nL) {lv' : xL} (hlv : xst1 lv i (yi (a + z)) = lv') (kk : Ev d k (j + 1) lv' st hp Q) : Ev d k j lv st hp Q := by
  subst hx
  subst hlv
  refine E_step hk he (by decide) (by decide) (by decide) ?_ kk
  simp [xstp, xsA, hg, hn, iN_add]
abbrev y2 (a b : Int) : Prop := -2147483648 ≤ a ∧ a ≤ 2147483647 ∧ -2147483648 ≤ b ∧ b ≤ 2147483647
theorem Y_ic_eq (hr : -2147483648 ≤ a ∧ a ≤ 2147483647 ∧ -2147483648 ≤ b ∧ b ≤ 2147483647) {off : Int} {t : Nat} (hk : xtab k = (L, nL, rk, hs)) (he : L[j]? = some (pc, 0, .if_icmp .eq off, len, [t], cv)) (kt : a = b → Ev d k t lv st hp Q) (kf : ¬ a = b → Ev d k (j + 1) lv st hp Q) : Ev d k j lv (yi b :: yi a :: st) hp Q :=
  E_ic_eq hk he (fun h => kt ((iN_eq hr).mp h)) (fun h => kf (fun g => h ((iN_eq hr).mpr g)))
theorem Y_ic_ne (hr : -2147483648 ≤ a ∧ a ≤ 2147483647 ∧ -2147483648 ≤ b ∧ b ≤ 2147483647) {off : Int} {t : Nat} (hk : xtab k = (L, nL, rk, hs)) (he : L[j]? = some (pc, 0, .if_icmp .ne off, len, [t], cv)) (kt : ¬ a = b → Ev d k t lv st hp Q) (kf : a = b → Ev d k (j + 1) lv st hp Q) : Ev d k j lv (yi b :: yi a :: st) hp Q :=
  E_ic_ne hk he (fun h => kt (fun g => h ((iN_eq hr).mpr g))) (fun h => kf ((iN_eq hr).mp h))
theorem Y_ic_lt (hr : -2147483648 ≤ a ∧ a ≤ 2147483647 ∧ -2147483648 ≤ b ∧ b ≤ 2147483647) {off : Int} {t : Nat} (hk : xtab k = (L, nL, rk, hs)) (he : L[j]? = some (pc, 0, .if_icmp .lt off, len, [t], cv)) (kt : a < b → Ev d k t lv st hp Q) (kf : ¬ a < b → Ev d k (j + 1) lv st hp Q) : Ev d k j lv (yi b :: yi a :: st) hp Q :=
  E_ic_lt hk he (fun h => kt ((iN_lt hr).mp h)) (fun h => kf (fun g => h ((iN_lt hr).mpr g)))
theorem Y_ic_ge (hr : -2147483648 ≤ a ∧ a ≤ 2147483647 ∧ -2147483648 ≤ b ∧ b ≤ 2147483647) {off : Int} {t : Nat} (hk : xtab k = (L, nL, rk, hs)) (he : L[j]? = some (pc, 0, .if_icmp .ge off, len, [t], cv)) (kt : ¬ a < b → Ev d k t lv st hp Q) (kf : a < b → Ev d k (j + 1) lv st hp Q) : Ev d k j lv (yi b :: yi a :: st) hp Q :=
  E_ic_ge hk he (fun h => kt (fun g => h ((iN_lt hr).mpr g))) (fun h => kf ((iN_lt hr).mp h))
theorem Y_ic_gt (hr : -2147483648 ≤ a ∧ a ≤ 2147483647 ∧ -2147483648 ≤ b ∧ b ≤ 2147483647) {off : Int} {t : Nat} (hk : xtab k = (L, nL, rk, hs)) (he : L[j]? = some (pc, 0, .if_icmp .gt off, len, [t], cv)) (kt : b < a → Ev d k t lv st hp Q) (kf : ¬ b < a → Ev d k (j + 1) lv st hp Q) : Ev d k j lv (yi b :: yi a :: st) hp Q :=
  E_ic_gt hk he (fun h => kt ((iN_lt ⟨hr.2.2.1, hr.2.2.2, hr.1, hr.2.1⟩).mp h)) (fun h => kf (fun g => h ((iN_lt ⟨hr.2.2.1, hr.2.2.2, hr.1, hr.2.1⟩).mpr g)))
theorem Y_ic_le (hr : -2147483648 ≤ a ∧ a ≤ 2147483647 ∧ -2147483648 ≤ b ∧ b ≤ 2147483647) {off : Int} {t : Nat} (hk : xtab k = (L, nL, rk, hs)) (he : L[j]? = some (pc, 0, .if_icmp .le off, len, [t], cv)) (kt : ¬ b < a → Ev d k t lv st hp Q) (kf : b < a → Ev d k (j + 1) lv st hp Q) : Ev d k j lv (yi b :: yi a :: st) hp Q :=
  E_ic_le hk he (fun h => kt (fun g => h ((iN_lt ⟨hr.2.2.1, hr.2.2.2, hr.1, hr.2.1⟩).mpr g))) (fun h => kf ((iN_lt ⟨hr.2.2.1, hr.2.2.2, hr.1, hr.2.1⟩).mp h))
theorem Y_if_eq (hr : -2147483648 ≤ a ∧ a ≤ 2147483647) {off : Int} {t : Nat} (hk : xtab k = (L, nL, rk, hs)) (he : L[j]? = some (pc, 0, .ifCond .eq off, len, [t], cv)) (kt : a = 0 → Ev d k t lv st hp Q) (kf : ¬ a = 0 → Ev d k (j + 1) lv st hp Q) : Ev d k j lv (yi a :: st) hp Q :=
  E_if_eq hk he (fun h => kt ((iN_eq (b := 0) (by omega)).mp h)) (fun h => kf (fun g => h ((iN_eq (b := 0) (by omega)).mpr g)))
theorem Y_if_ne (hr : -2147483648 ≤ a ∧ a ≤ 2147483647) {off : Int} {t : Nat} (hk : xtab k = (L, nL, rk, hs)) (he : L[j]? = some (pc, 0, .ifCond .ne off, len, [t], cv)) (kt : ¬ a = 0 → Ev d k t lv st hp Q) (kf : a = 0 → Ev d k (j + 1) lv st hp Q) : Ev d k j lv (yi a :: st) hp Q :=
  E_if_ne hk he (fun h => kt (fun g => h ((iN_eq (b := 0) (by omega)).mpr g))) (fun h => kf ((iN_eq (b := 0) (by omega)).mp h))
theorem Y_if_lt (hr : -2147483648 ≤ a ∧ a ≤ 2147483647) {off : Int} {t : Nat} (hk : xtab k = (L, nL, rk, hs)) (he : L[j]? = some (pc, 0, .ifCond .lt off, len, [t], cv)) (kt : a < 0 → Ev d k t lv st hp Q) (kf : ¬ a < 0 → Ev d k (j + 1) lv st hp Q) : Ev d k j lv (yi a :: st) hp Q :=
  E_if_lt hk he (fun h => kt ((iN_lt (b := 0) (by omega)).mp h)) (fun h => kf (fun g => h ((iN_lt (b := 0) (by omega)).mpr g)))
theorem Y_if_ge (hr : -2147483648 ≤ a ∧ a ≤ 2147483647) {off : Int} {t : Nat} (hk : xtab k = (L, nL, rk, hs)) (he : L[j]? = some (pc, 0, .ifCond .ge off, len, [t], cv)) (kt : ¬ a < 0 → Ev d k t lv st hp Q) (kf : a < 0 → Ev d k (j + 1) lv st hp Q) : Ev d k j lv (yi a :: st) hp Q :=
  E_if_ge hk he (fun h => kt (fun g => h ((iN_lt (b := 0) (by omega)).mpr g))) (fun h => kf ((iN_lt (b := 0) (by omega)).mp h))
theorem Y_if_gt (hr : -2147483648 ≤ a ∧ a ≤ 2147483647) {off : Int} {t : Nat} (hk : xtab k = (L, nL, rk, hs)) (he : L[j]? = some (pc, 0, .ifCond .gt off, len, [t], cv)) (kt : 0 < a → Ev d k t lv st hp Q) (kf : ¬ 0 < a → Ev d k (j + 1) lv st hp Q) : Ev d k j lv (yi a :: st) hp Q :=
  E_if_gt hk he (fun h => kt ((iN_lt (a := 0) (by omega)).mp h)) (fun h => kf (fun g => h ((iN_lt (a := 0) (by omega)).mpr g)))
theorem Y_if_le (hr : -2147483648 ≤ a ∧ a ≤ 2147483647) {off : Int} {t : Nat} (hk : xtab k = (L, nL, rk, hs)) (he : L[j]? = some (pc, 0, .ifCond .le off, len, [t], cv)) (kt : ¬ 0 < a → Ev d k t lv st hp Q) (kf : 0 < a → Ev d k (j + 1) lv st hp Q) : Ev d k j lv (yi a :: st) hp Q :=
  E_if_le hk he (fun h => kt (fun g => h ((iN_lt (a := 0) (by omega)).mpr g))) (fun h => kf ((iN_lt (a := 0) (by omega)).mp h))
/-- a truth, asked -/
theorem Y_b_eq {P : Prop} {_ : Decidable P} {off : Int} {t : Nat} (hk : xtab k = (L, nL, rk, hs)) (he : L[j]? = some (pc, 0, .ifCond .eq off, len, [t], cv)) (kt : ¬ P → Ev d k t lv st hp Q) (kf : P → Ev d k (j + 1) lv st hp Q) : Ev d k j lv (yi (b2 P) :: st) hp Q := by
  by_cases h : P
  · rw [b2_t h]
    exact Y_if_eq (by decide) hk he (fun h => absurd h (by decide)) (fun _ => kf h)
  · rw [b2_f h]
    exact Y_if_eq (by decide) hk he (fun _ => kt h) (fun g => absurd rfl g)
theorem Y_b_ne {P : Prop} {_ : Decidable P} {off : Int} {t : Nat} (hk : xtab k = (L, nL, rk, hs)) (he : L[j]? = some (pc, 0, .ifCond .ne off, len, [t], cv)) (kt : P → Ev d k t lv st hp Q) (kf : ¬ P → Ev d k (j + 1) lv st hp Q) : Ev d k j lv (yi (b2 P) :: st) hp Q := by
  by_cases h : P
  · rw [b2_t h]
    exact Y_if_ne (by decide) hk he (fun _ => kt h) (fun h => absurd h (by decide))
  · rw [b2_f h]
    exact Y_if_ne (by decide) hk he (fun g => absurd rfl g) (fun _ => kf h)
theorem Y_iald {r n : Nat} {f : Int → Int} (hi : 0 ≤ a ∧ a < n) (hN : n ≤ 2147483647) (hk : xtab k = (L, nL, rk, hs)) (he : L[j]? = some (pc, 7, .iaload, len, ax, cv)) (ha : xat hp r = some (yI n f)) (kk : Ev d k (j + 1) lv (yi (f a) :: st) hp Q) : Ev d k j lv (yi a :: .ref r :: st) hp Q := by
  have hr : -2147483648 ≤ a ∧ a ≤ 2147483647 := by omega
  have h0 : ¬ iN a < 0 := fun h => by
    have h1 : iN a < iN 0 := h
    rw [iN_lt (by omega)] at h1
    omega
  have hv : vp_in (iN a) n := by
    unfold vp_in
    rintro (h | h)
    · exact h0 h
    · rw [iN_nat hr] at h
      omega
  refine E_iald (f := fun q => iN (f (q : Int))) hk he ha hv ?_
  rw [iN_nat hr, show ((a.toNat : Nat) : Int) = a by omega]
  exact kk
theorem Y_iast {r n : Nat} {f : Int → Int} {x : Int} (hi : 0 ≤ a ∧ a < n) (hN : n ≤ 2147483647) (hc : xNC ≤ r) (hk : xtab k = (L, nL, rk, hs)) (he : L[j]? = some (pc, 7, .iastore, len, ax, cv)) (ha : xat hp r = some (yI n f)) (kk : ∀ h', xat h' r = some (yI n (up f a x)) → yfr [r] hp h' → Ev d k (j + 1) lv st h' Q) : Ev d k j lv (yi x :: yi a :: .ref r :: st) hp Q := by
  have hr : -2147483648 ≤ a ∧ a ≤ 2147483647 := by omega
  have h0 : ¬ iN a < 0 := fun h => by
    have h1 : iN a < iN 0 := h
    rw [iN_lt (by omega)] at h1
    omega
  have hv : vp_in (iN a) n := by
    unfold vp_in
    rintro (h | h)
    · exact h0 h
    · rw [iN_nat hr] at h
      omega
  refine E_iast (f := fun q => iN (f (q : Int))) hk he ha hv hc (kk _ ?_ (yfr_put _ _ _))
  rw [xat_put_self, yI]
  congr 4
  funext q
  rw [iN_nat hr]
  unfold upd up
  by_cases h : q = a.toNat
  · rw [if_pos h, if_pos (by omega)]
  · rw [if_neg h, if_neg (by omega)]
theorem Y_alen {r n : Nat} {f : Int → Int} (hN : n ≤ 2147483647) (hk : xtab k = (L, nL, rk, hs)) (he : L[j]? = some (pc, 7, .arraylength, len, ax, cv)) (ha : xat hp r = some (yI n f)) (kk : Ev d k (j + 1) lv (yi (n : Int) :: st) hp Q) : Ev d k j lv (.ref r :: st) hp Q := by
  refine E_alen hk he ha ?_
  rw [show nI n = iN (n : Int) from by unfold nI iN; first | exact Int32.ofInt_eq_ofNat.symm | exact (Int32.ofInt_eq_ofNat n).symm | rfl | simp]
  exact kk
theorem Y_put {r ci f t q : Nat} {rr : List Nat} {fs : List Value} {v : Value} {ix : Nat} (hk : xtab k = (L, nL, rk, hs)) (he : L[j]? = some (pc, 7, .putfield ix, len, ci :: f :: t :: q :: rr, cv)) (ha : xat hp r = some (.inr (ci, fs))) (hn : xNC ≤ r) (hl : f < fs.length) (hf : xfit t v = true) {fs' : List Value} (hfs : fs.set f v = fs') (kk : ∀ h', xat h' r = some (.inr (ci, fs')) → yfr [r] hp h' → Ev d k (j + 1) lv st h' Q) : Ev d k j lv (v :: .ref r :: st) hp Q :=
  E_put hk he ha hn hl hf hfs (kk _ (xat_put_self _ _ _) (yfr_put _ _ _))
/-- a call that always returns -/
theorem Y_call {g na md ci : Nat} {r : List Nat} {i : Instr} {as rest : List Value} {v : Option Value} {R : xH → Prop} (hk : xtab k = (L, nL, rk, hs)) (he : L[j]? = some (pc, 1, i, len, g :: na :: md :: ci :: r, cv)) (hst : st = as.reverse ++ rest) (hna : as.length = na) (hcat : (rest.map fun v => v.category).sum ≤ 8) (hr : xrcv md ci as hp = true) (hv : (as.map fun v => v.category).sum ≤ (xtab g).2.1)
    (hc : Cv d g as hp (yR v R)) (kk : ∀ h', R h' → Ev (d + 1) k (j + 1) lv (v.toList ++ rest) h' Q) : Ev (d + 1) k j lv st hp Q :=
  E_callX hk he hst hna hcat hr hv hc (fun v' h' e => by obtain ⟨e1, e2⟩ := e; cases e1; exact kk h' e2) (fun E h' e => by obtain ⟨e1, -⟩ := e; cases e1)
/-- ... and leaves the heap alone -/
theorem Y_callP {g na md ci : Nat} {r : List Nat} {i : Instr} {as rest : List Value} {v : Option Value} (hk : xtab k = (L, nL, rk, hs)) (he : L[j]? = some (pc, 1, i, len, g :: na :: md :: ci :: r, cv)) (hst : st = as.reverse ++ rest) (hna : as.length = na) (hcat : (rest.map fun v => v.category).sum ≤ 8) (hr : xrcv md ci as hp = true) (hv : (as.map fun v => v.category).sum ≤ (xtab g).2.1)
    (hc : Cv d g as hp (yP v hp)) (kk : Ev (d + 1) k (j + 1) lv (v.toList ++ rest) hp Q) : Ev (d + 1) k j lv st hp Q :=
  Y_call hk he hst hna hcat hr hv hc (fun h' e => by subst e; exact kk)
/-- a call whose answer is some number -/
def yE (R : Int → xH → Prop) : xO → xH → Prop := fun o h => ∃ z, o = .inl (some (yi z)) ∧ R z h
theorem Y_callE {g na md ci : Nat} {r : List Nat} {i : Instr} {as rest : List Value} {R : Int → xH → Prop} (hk : xtab k = (L, nL, rk, hs)) (he : L[j]? = some (pc, 1, i, len, g :: na :: md :: ci :: r, cv)) (hst : st = as.reverse ++ rest) (hna : as.length = na) (hcat : (rest.map fun v => v.category).sum ≤ 8) (hr : xrcv md ci as hp = true) (hv : (as.map fun v => v.category).sum ≤ (xtab g).2.1)
    (hc : Cv d g as hp (yE R)) (kk : ∀ z h', R z h' → Ev (d + 1) k (j + 1) lv (yi z :: rest) h' Q) : Ev (d + 1) k j lv st hp Q :=
  E_callX hk he hst hna hcat hr hv hc (fun v' h' e => by obtain ⟨z, e1, e2⟩ := e; cases e1; exact kk z h' e2) (fun E h' e => by obtain ⟨z, e1, -⟩ := e; cases e1)
/-- a call that may throw; not caught here -/
theorem Y_callT {g na md ci E : Nat} {r : List Nat} {i : Instr} {as rest : List Value} {v : Option Value} {P : Prop} (hk : xtab k = (L, nL, rk, hs)) (he : L[j]? = some (pc, 1, i, len, g :: na :: md :: ci :: r, cv)) (hst : st = as.reverse ++ rest) (hna : as.length = na) (hcat : (rest.map fun v => v.category).sum ≤ 8) (hr : xrcv md ci as hp = true) (hv : (as.map fun v => v.category).sum ≤ (xtab g).2.1)
    (hc : Cv d g as hp (yT P E v hp)) (kk : P → Ev (d + 1) k (j + 1) lv (v.toList ++ rest) hp Q) (hx : xcatch hs pc E = none) (kx : ¬ P → Q (.inr E) (xbare hp 6)) : Ev (d + 1) k j lv st hp Q :=
  E_callX hk he hst hna hcat hr hv hc (fun v' h' e => by
    rcases e with ⟨e1, e2, e3⟩ | ⟨e1, e2, e3⟩
    · cases e2; subst e3; exact kk e1
    · cases e2) (fun E' h' e => by
    rcases e with ⟨e1, e2, e3⟩ | ⟨e1, e2, e3⟩
    · cases e2
    · cases e2; subst e3; exact Or.inl ⟨hx, kx e1⟩)
end EY
end
section
theorem y_ends : y_Ends := sorry
theorem i_vc : Claimed_1_1 ∧ Claimed_1_2 := y_vc y_ends
end
