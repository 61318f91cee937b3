section SW
variable {s0 : State} {b0 : Nat} {adc : Nat → Option Nat} {L : Nat} {xs : Nat → Int32} {l : Launch}
variable {p : Program} {e : Env} {R : Room} {s : State} {m : MethodId} {args : Array Value} {below : List Frame} {meth : Method} {c : Code} {H : Heap} {locs : List Loc} {cells slots : Nat}
/-- a call of the small machine is a call of the real one -/
theorem S_call {d k g na md ci pc : Nat} {i : Instr} {ax : List Nat} {rest as : List Value} {hp hp1 : xH} {o1 : xO} {ls : Array Slot} {st : List Value} (hM : vx_Met l (xinf g).1 [xcode g] (xroom d hp hp1) (xPc s0 adc L xs as hp) (xQc s0 adc L xs o1 hp1) (xXC s0 adc L xs o1 hp1) (hp1.1 - hp.1) (hp1.2.1 - hp.2.1) (xfree s0))
    (hgw : xkW g = true) (hgo : xOk g) (a0 : ax.headD 0 = g) (a1 : ax.getD 1 0 = na) (a2 : ax.getD 2 0 = md) (a3 : ax.getD 3 0 = ci) (hck : xkC (xinf k).1.cls i ax = true) (hfr : xFr s0 p s m meth c k) (hG : xGl s0 b0 adc L xs) (hR : xRel s0 adc L xs hp H) (hl : ls.size = (xtab k).2.1) (hd : decode (xinf k).2.1 pc = .ok (i, 3)) (hst : st = as.reverse ++ rest) (hna : as.length = na) (hcat : (rest.map fun v => v.category).sum ≤ 8) (hrc : xrcv md ci as hp = true)
    (hf : d + 4 ≤ R.frames) (hlo : 37 * (d + 1) + 113 ≤ R.locals) (hce : cells + (hp1.1 - hp.1) ≤ R.cells) (hsl : slots + (hp1.2.1 - hp.2.1) ≤ R.slots) :
    vx_Run p l e R s m args below meth c H locs cells slots (hp1.1 - hp.1) (hp1.2.1 - hp.2.1) (F0 m pc ls (st.map (xv s0 adc))) (rest.map (xv s0 adc)) (xQc s0 adc L xs o1 hp1 #[]) (xXC s0 adc L xs o1 hp1) (xfree s0) := by
  subst a0; subst a1; subst a2; subst a3
  obtain ⟨hx, hb, hml, hown, hlocks, hret, hname, htab, hW⟩ := hfr
  simp only [xkW, Bool.and_eq_true, decide_eq_true_eq] at hgw
  obtain ⟨⟨⟨⟨⟨g1, g2⟩, g3⟩, g4⟩, g5⟩, g6⟩ := hgw
  simp only [xkC, Bool.and_eq_true, decide_eq_true_eq] at hck
  obtain ⟨hlt, hck⟩ := hck
  have S : CallFix p m c (xinf k).2.1 (xtab k).2.1 s args [] (xinf k).1.cls := ⟨hx, hb, hml, hown, fun w hw => nomatch hw⟩
  have hcode : xw ((xinf (ax.headD 0)).2.2.2.2.headD (99, 0)).1 ((xinf (ax.headD 0)).2.2.2.2.headD (99, 0)).2 = some (xcode (ax.headD 0)) := g3
  have hgc : goodWord (xcode (ax.headD 0)) = true := by
    unfold xcode
    split <;> rfl
  have hws : ∀ w ∈ [xcode (ax.headD 0)], ∀ (a' : Array Value) (U : State), s.WarmedH U.vm → w.before a' U = true := by
    intro w hw a' U hU
    rw [List.mem_singleton.mp hw]
    exact xwd hG.1 (State.WarmedH.trans hW hU) hcode hgc
  have hinit : (Jvm.Cond.initialized (xinf (ax.headD 0)).1.cls).before args s = true := xwd hG.1 hW g4 rfl
  have hf1 : (xroom d hp hp1).frames + 1 ≤ R.frames := hf
  have hf2 : 8 + ((xtab (ax.headD 0)).2.1 + 11) + (xroom d hp hp1).locals ≤ R.locals := by
    have h18 := hgo.2.2.2.2.1
    show 8 + _ + (37 * d + 113) ≤ _
    omega
  have hcb : (xcode (ax.headD 0)).before args s = true := xwd hG.1 hW hcode hgc
  have hpre : ∀ U : State, U.heap = H → s.WarmedH U.vm → xPc s0 adc L xs as hp ((as.map (xv s0 adc)).toArray) U := fun U hU hV => ⟨rfl, State.WarmedH.trans hW hV, by rw [hU]; exact hR⟩
  have hstm : st.map (xv s0 adc) = (as.map (xv s0 adc)).reverse ++ rest.map (xv s0 adc) := by rw [hst, List.map_append, List.map_reverse]
  have hroom : 2 * (F0 m pc ls (st.map (xv s0 adc))).monitorRoom + ((rest.map (xv s0 adc)).map fun v => v.category).sum ≤ 8 := lv_room (by rw [xv_sum]; exact hcat)
  split at hck
  · -- invokevirtual
    rename_i x o z w h0 hwl
    obtain ⟨rfl, rfl, rfl, hcls, hpar, hhh, hps⟩ := of_decide_eq_true hck
    rw [h0] at hrc
    have hxc : xcode (ax.headD 0) = .code (xinf (ax.headD 0)).1 (xinf (ax.headD 0)).2.1 (xtab (ax.headD 0)).2.1 (xinf (ax.headD 0)).2.2.1 := by rw [xcode, if_pos hhh]
    unfold xrcv at hrc
    split at hrc
    · rename_i a As hq
      split at hrc
      · rename_i cc fs ha
        have hcc : cc = ax.getD 3 0 := eq_of_beq hrc
        obtain ⟨ar, cell, e1, e2, e3⟩ := hR.wk hG ha
        have e3 : xObjAt s0 adc cc fs cell := e3
        have hva : xv s0 adc (.ref a) = .ref ar := congrArg va_rf e1
        subst hcc
        have hn : (As.map (xv s0 adc)).length + 1 = ax.getD 1 0 := by rw [List.length_map]; exact hna
        have hsel : (Jvm.Cond.selects (xinf (ax.headD 0)).1.cls (xinf (ax.headD 0)).1 (xinf (ax.headD 0)).1).before args s = true ∧ (Jvm.Cond.instanceMethod (xinf (ax.headD 0)).1).before args s = true := by
          split at g6
          · rename_i s3 hp4
            obtain ⟨k1, k2⟩ := of_decide_eq_true g6
            refine ⟨?_, xwd hG.1 hW k2 rfl⟩
            unfold xsel at k1
            split at k1
            · exact word_at hW (good_of_word rfl) (hG.1 _ (List.mem_append_left _ (List.mem_of_getElem? k1)))
            · exact xwd hG.1 hW k1 rfl
          · rename_i hno
            exfalso
            rcases hq4 : (xinf (ax.headD 0)).2.2.2.2 with _ | ⟨q1, _ | ⟨q2, _ | ⟨q3, _ | ⟨q4, _ | ⟨q5, r5⟩⟩⟩⟩⟩ <;> rw [hq4] at hps hno <;> simp at hps
            exact hno _ _ _ _ rfl
        rw [hxc] at hM hws hcb
        exact vx_runV (cells := cells) (slots := slots) (g := F0 m pc ls (st.map (xv s0 adc))) (As := As.map (xv s0 adc)) (rest := rest.map (xv s0 adc)) (b := ar) (C := (xinf (ax.headD 0)).1.cls) (n := (As.map (xv s0 adc)).length) S hM
          ⟨⟨rfl, rfl, hf1, hf2, hws, List.mem_cons_self, hcb, hinit, g1, fun sig hs => by
            rw [hs] at hpar
            have h9 : sig.parameters.length + 1 = ax.getD 1 0 := Option.some.inj hpar
            omega, xwd hG.1 hW hwl rfl⟩, hsel.2, hsel.1⟩
          ⟨xPc.blind, ⟨cell, e2, e3.2.2.1, by rw [← hcls]; exact xcls hW e3.1⟩, fun U hU hV => by
            have h9 := hpre U hU hV
            rw [List.map_cons, hva] at h9
            exact h9⟩
          rfl rfl hl (by
            show st.map (xv s0 adc) = _
            rw [hstm, List.map_cons, hva, List.reverse_cons, List.append_assoc]
            rfl) hroom hd ⟨hce, hsl⟩
      · exact absurd hrc (by simp)
    all_goals first | (simp at hrc; done) | (exfalso; omega)
  · -- invokestatic
    rename_i x o z w h0 hwl
    obtain ⟨rfl, rfl, rfl, hpar, g7⟩ := of_decide_eq_true hck
    have hstat : (Jvm.Cond.static (xinf (ax.headD 0)).1).before args s = true := xwd hG.1 hW g7 rfl
    have hnp : ∀ sig, parseMethodDescriptor (xinf (ax.headD 0)).1.desc = some sig → (as.map (xv s0 adc)).length = sig.parameters.length := fun sig hs => by
      rw [hs] at hpar
      have h9 : sig.parameters.length = ax.getD 1 0 := Option.some.inj hpar
      rw [List.length_map]
      omega
    by_cases hhh : (xinf (ax.headD 0)).2.2.2.1 = []
    · have hxc : xcode (ax.headD 0) = .code (xinf (ax.headD 0)).1 (xinf (ax.headD 0)).2.1 (xtab (ax.headD 0)).2.1 (xinf (ax.headD 0)).2.2.1 := by rw [xcode, if_pos hhh]
      rw [hxc] at hM hws hcb
      exact vx_runS (cells := cells) (slots := slots) (g := F0 m pc ls (st.map (xv s0 adc))) (As := as.map (xv s0 adc)) (rest := rest.map (xv s0 adc)) (n := (as.map (xv s0 adc)).length) S hM
        ⟨⟨rfl, rfl, hf1, hf2, hws, List.mem_cons_self, hcb, hinit, g1, hnp, xwd hG.1 hW hwl rfl⟩, hstat⟩ ⟨xPc.blind, hpre⟩ rfl rfl hl hstm hroom hd ⟨hce, hsl⟩
    · have hxc : xcode (ax.headD 0) = .codeWith (xinf (ax.headD 0)).1 (xinf (ax.headD 0)).2.1 (xtab (ax.headD 0)).2.1 (xinf (ax.headD 0)).2.2.1 (xinf (ax.headD 0)).2.2.2.1 := by rw [xcode, if_neg hhh]
      rw [hxc] at hM hws hcb
      exact vx_runSX (cells := cells) (slots := slots) (g := F0 m pc ls (st.map (xv s0 adc))) (As := as.map (xv s0 adc)) (rest := rest.map (xv s0 adc)) (n := (as.map (xv s0 adc)).length) S hM
        ⟨⟨rfl, rfl, hf1, hf2, hws, List.mem_cons_self⟩, hcb, hinit, g1, hnp, xwd hG.1 hW hwl rfl, hstat⟩ ⟨xPc.blind, hpre⟩ rfl rfl hl hstm hroom hd ⟨hce, hsl⟩
  · -- invokespecial
    rename_i x o z w h0 hwl
    obtain ⟨rfl, rfl, rfl, hin, hrn, hpar, hhh, g7⟩ := of_decide_eq_true hck
    rw [h0] at hrc
    have hxc : xcode (ax.headD 0) = .code (xinf (ax.headD 0)).1 (xinf (ax.headD 0)).2.1 (xtab (ax.headD 0)).2.1 none := by rw [xcode, if_pos hhh, hrn]
    have hinst : (Jvm.Cond.instanceMethod (xinf (ax.headD 0)).1).before args s = true := xwd hG.1 hW g7 rfl
    unfold xrcv at hrc
    split at hrc
    · exfalso; omega
    · exfalso; omega
    · rename_i a As hq
      obtain ⟨c9, hc9⟩ := Option.isSome_iff_exists.mp hrc
      obtain ⟨ar, cell, e1, -⟩ := hR.wk hG hc9
      have hva : xv s0 adc (.ref a) = .ref ar := congrArg va_rf e1
      rw [hxc] at hM hws hcb
      exact vx_runI (cells := cells) (slots := slots) (g := F0 m pc ls (st.map (xv s0 adc))) (As := As.map (xv s0 adc)) (rest := rest.map (xv s0 adc)) (b := ar) (n := (As.map (xv s0 adc)).length) S hM
        ⟨⟨rfl, rfl, hf1, hf2, hws, List.mem_cons_self, hcb, hinit, g1, fun sig hs => by
          rw [hs] at hpar
          have h9 : sig.parameters.length + 1 = ax.getD 1 0 := Option.some.inj hpar
          have h8 : As.length + 1 = ax.getD 1 0 := hna
          rw [List.length_map]
          omega, xwd hG.1 hW hwl rfl⟩, hin, hinst⟩
        ⟨xPc.blind, fun U hU hV => by
          have h9 := hpre U hU hV
          rw [List.map_cons, hva] at h9
          exact h9⟩
        rfl rfl hl (by
          show st.map (xv s0 adc) = _
          rw [hstm, List.map_cons, hva, List.reverse_cons, List.append_assoc]
          rfl) hroom hd ⟨hce, hsl⟩
    · exfalso; omega
    · exact absurd hrc (by simp)
  · rename_i x o z w hst2 h0 hwl
    obtain ⟨rfl, rfl, rfl, hin, hrn, hpar, hhh, g7⟩ := of_decide_eq_true hck
    rw [h0] at hrc
    have hxc : xcode (ax.headD 0) = .code (xinf (ax.headD 0)).1 (xinf (ax.headD 0)).2.1 (xtab (ax.headD 0)).2.1 none := by rw [xcode, if_pos hhh, hrn]
    have hinst : (Jvm.Cond.instanceMethod (xinf (ax.headD 0)).1).before args s = true := xwd hG.1 hW g7 rfl
    unfold xrcv at hrc
    split at hrc
    · exfalso; omega
    · exfalso; omega
    · exfalso; omega
    · rename_i a As hq
      obtain ⟨c9, hc9⟩ := Option.isSome_iff_exists.mp hrc
      obtain ⟨ar, cell, e1, -⟩ := hR.wk hG hc9
      have hva : xv s0 adc (.ref a) = .ref ar := congrArg va_rf e1
      rw [hxc] at hM hws hcb
      exact vx_runIN (cells := cells) (slots := slots) (g := F0 m pc ls (st.map (xv s0 adc))) (As := As.map (xv s0 adc)) (rest := rest.map (xv s0 adc)) (b := ar) (n := (As.map (xv s0 adc)).length) S hM
        ⟨⟨⟨rfl, rfl, hf1, hf2, hws, List.mem_cons_self⟩, hcb, hinit, g1, fun sig hs => by
          rw [hs] at hpar
          have h9 : sig.parameters.length + 1 = ax.getD 1 0 := Option.some.inj hpar
          have h8 : As.length + 1 = ax.getD 1 0 := hna
          rw [List.length_map]
          omega, xwdM hG.1 hW hwl⟩, hin, hinst⟩
        ⟨xPc.blind, fun U hU hV => by
          have h9 := hpre U hU hV
          rw [List.map_cons, hva] at h9
          exact h9⟩
        rfl rfl hl (by
          show st.map (xv s0 adc) = _
          rw [hstm, List.map_cons, hva, List.reverse_cons, List.append_assoc]
          rfl) hroom hd ⟨hce, hsl⟩
    · exact absurd hrc (by simp)
  · exact absurd hck (by simp)
end SW
