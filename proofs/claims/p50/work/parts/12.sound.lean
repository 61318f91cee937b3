/-! One instruction of the heap. -/
theorem xfit99 {d : String} {ax : List Nat} {v : Value} (hT : xkT d (ax.getD 2 99) = true) (h : xfit (ax.getD 2 0) v = true) : xfit (ax.getD 2 99) v = true := by
  cases e : ax[2]? with
  | none =>
    simp only [List.getD, e] at hT
    exfalso
    unfold xkT at hT
    split at hT <;> simp_all
  | some t =>
    simp only [List.getD, e] at h ⊢
    exact h
section SG
variable {p : Program} {l : Launch} {e : Env} {R : Room} {s : State} {m : MethodId} {args : Array Value} {below : List Frame} {meth : Method} {c : Code} {H : Heap} {locs : List Loc} {cells slots : Nat} {Q : State → Prop}
variable {s0 : State} {b0 : Nat} {adc : Nat → Option Nat} {cc : ByteArray} {own : String} {L : Nat} {xs : Nat → Int32}
set_option maxHeartbeats 4000000 in
theorem snd_B {Lc : List xE} {j pc len : Nat} {i : Instr} {ax : List Nat} {cv : Value} {lv lv' : xL} {st st' : List Value} {hp hp' : xH} {j' : Nat} {ls : Array Slot} {e' : xE} {name : String} (hcl : ∀ ci, ci < 10 → xkCl ci = true) (hx : p.tables.exec = Jvm.exec) (hb : c.code = cc) (hown : s.vm.findClass own = some m.cls) (hname : meth.name = name) (hW : s0.WarmedH s.vm) (hG : xGl s0 b0 adc L xs) (hR : xRel s0 adc L xs hp H) (hlk : xLk s0 locs) (hd : decode cc pc = .ok (i, len)) (hn : ∀ e1, Lc[j + 1]? = some e1 → e1.1 = pc + len) (hc : xkB Lc own name pc i len ax cv = true)
    (h : xsB j i ax cv lv st hp = some (j', lv', st', hp')) (he' : Lc[j']? = some e') (hrc : cells + (hp'.1 - hp.1) ≤ R.cells) (hrs : slots + (hp'.2.1 - hp.2.1) ≤ R.slots)
    (K : ∀ (H1 : Heap) (locs1 : List Loc), xRel s0 adc L xs hp' H1 → xLk s0 locs1 → W p l e R s m args below meth c H1 locs1 (cells + (hp'.1 - hp.1)) (slots + (hp'.2.1 - hp.2.1)) Q (F0 m e'.1 ls (st'.map (xv s0 adc)))) :
    lv' = lv ∧ W p l e R s m args below meth c H locs cells slots Q (F0 m pc ls (st.map (xv s0 adc))) := by
  unfold xsB at h
  split at h
  · simp only [Option.some.injEq, Prod.mk.injEq] at h
    obtain ⟨rfl, rfl, rfl, rfl⟩ := h
    refine ⟨rfl, ?_⟩
    have hpc := hn e' he'
    simp only [Nat.sub_self, Nat.add_zero] at K
    simp only [xkB, Bool.and_eq_true, beq_iff_eq] at hc
    obtain ⟨hlen, hc⟩ := hc
    split at hc
    · rename_i hfl
      rw [hlen] at hd hpc
      have K1 := K H locs hR hlk
      rw [hpc] at K1
      exact S_gets hx hb hown hG hW hR hfl (of_decide_eq_true hc) hd K1
    · exact absurd hc (by simp)
  · split at h
    · rename_i ci fs ha
      split at h
      · rename_i hci
        subst hci
        split at h
        · rename_i v hv
          simp only [Option.some.injEq, Prod.mk.injEq] at h
          obtain ⟨rfl, rfl, rfl, rfl⟩ := h
          refine ⟨rfl, ?_⟩
          have hpc := hn e' he'
          simp only [Nat.sub_self, Nat.add_zero] at K
          simp only [xkB, Bool.and_eq_true, beq_iff_eq] at hc
          obtain ⟨hlen, hc⟩ := hc
          obtain ⟨b, hbk⟩ := Option.isSome_iff_exists.mp hc
          rw [hlen] at hd hpc
          have K1 := K H locs hR hlk
          rw [hpc] at K1
          exact S_getf hx hb hown hW hG hR hbk ha hv hd K1
        · exact absurd h (by simp)
      · exact absurd h (by simp)
    · exact absurd h (by simp)
  · split at h
    · rename_i ci fs ha
      split at h
      · rename_i hcs
        obtain ⟨rfl, hnc, hlt, hfit⟩ := hcs
        simp only [Option.some.injEq, Prod.mk.injEq] at h
        obtain ⟨rfl, rfl, rfl, rfl⟩ := h
        refine ⟨rfl, ?_⟩
        have hpc := hn e' he'
        simp only [xput, Nat.sub_self, Nat.add_zero] at K
        simp only [xkB, Bool.and_eq_true, beq_iff_eq, decide_eq_true_eq] at hc
        obtain ⟨⟨⟨hlen, hci⟩, hT⟩, hc⟩ := hc
        split at hc
        · rename_i b hbk
          have hfin := of_decide_eq_true hc
          rw [hlen] at hd hpc
          rw [hpc] at K
          have hfit2 : xfit (ax.getD 2 99) _ = true := xfit99 hT hfit
          refine S_putf hcl hx hb hown hW hG hR hlk hbk hT (by rw [hname]; exact hfin) ha hnc hlt hfit2 hd K
        · exact absurd hc (by simp)
      · exact absurd h (by simp)
    · exact absurd h (by simp)
  · split at h
    · rename_i ty n f ha
      simp only [Option.some.injEq, Prod.mk.injEq] at h
      obtain ⟨rfl, rfl, rfl, rfl⟩ := h
      refine ⟨rfl, ?_⟩
      have hpc := hn e' he'
      simp only [Nat.sub_self, Nat.add_zero] at K
      have hlen : len = 1 := by simpa [xkB] using hc
      rw [hlen] at hd hpc
      have K1 := K H locs hR hlk
      rw [hpc] at K1
      exact S_alen hx hb hG hW hR ha hd K1
    · exact absurd h (by simp)
  · split at h
    · rename_i ha
      split at h
      · rename_i hi
        simp only [Option.some.injEq, Prod.mk.injEq] at h
        obtain ⟨rfl, rfl, rfl, rfl⟩ := h
        refine ⟨rfl, ?_⟩
        have hpc := hn e' he'
        simp only [Nat.sub_self, Nat.add_zero] at K
        have hlen : len = 1 := by simpa [xkB] using hc
        rw [hlen] at hd hpc
        have K1 := K H locs hR hlk
        rw [hpc] at K1
        exact S_iald hx hb hG hW hR ha hi hd K1
      · exact absurd h (by simp)
    · exact absurd h (by simp)
  · split at h
    · rename_i ha
      split at h
      · rename_i hi
        simp only [Option.some.injEq, Prod.mk.injEq] at h
        obtain ⟨rfl, rfl, rfl, rfl⟩ := h
        refine ⟨rfl, ?_⟩
        have hpc := hn e' he'
        simp only [Nat.sub_self, Nat.add_zero] at K
        have hlen : len = 1 := by simpa [xkB] using hc
        rw [hlen] at hd hpc
        have K1 := K H locs hR hlk
        rw [hpc] at K1
        exact S_lald hx hb hG hW hR ha hi hd K1
      · exact absurd h (by simp)
    · exact absurd h (by simp)
  · split at h
    · rename_i ha
      split at h
      · rename_i hi
        simp only [Option.some.injEq, Prod.mk.injEq] at h
        obtain ⟨rfl, rfl, rfl, rfl⟩ := h
        refine ⟨rfl, ?_⟩
        have hpc := hn e' he'
        simp only [Nat.sub_self, Nat.add_zero] at K
        have hlen : len = 1 := by simpa [xkB] using hc
        rw [hlen] at hd hpc
        have K1 := K H locs hR hlk
        rw [hpc] at K1
        exact S_bald hx hb hG hW hR ha hi hd K1
      · exact absurd h (by simp)
    · exact absurd h (by simp)
  · split at h
    · rename_i ha
      split at h
      · rename_i hi
        simp only [Option.some.injEq, Prod.mk.injEq] at h
        obtain ⟨rfl, rfl, rfl, rfl⟩ := h
        refine ⟨rfl, ?_⟩
        have hpc := hn e' he'
        simp only [Nat.sub_self, Nat.add_zero] at K
        have hlen : len = 1 := by simpa [xkB] using hc
        rw [hlen] at hd hpc
        have K1 := K H locs hR hlk
        rw [hpc] at K1
        exact S_aald hx hb hG hW hR ha hi hd K1
      · exact absurd h (by simp)
    · exact absurd h (by simp)
  · split at h
    · rename_i ha
      split at h
      · rename_i hi
        simp only [Option.some.injEq, Prod.mk.injEq] at h
        obtain ⟨rfl, rfl, rfl, rfl⟩ := h
        refine ⟨rfl, ?_⟩
        have hpc := hn e' he'
        simp only [xput, Nat.sub_self, Nat.add_zero] at K
        have hlen : len = 1 := by simpa [xkB] using hc
        rw [hlen] at hd hpc
        rw [hpc] at K
        exact S_iast hx hb hW hR hlk hi.2 ha hi.1 hd K
      · exact absurd h (by simp)
    · exact absurd h (by simp)
  · split at h
    · rename_i ha
      split at h
      · rename_i hi
        simp only [Option.some.injEq, Prod.mk.injEq] at h
        obtain ⟨rfl, rfl, rfl, rfl⟩ := h
        refine ⟨rfl, ?_⟩
        have hpc := hn e' he'
        simp only [xput, Nat.sub_self, Nat.add_zero] at K
        have hlen : len = 1 := by simpa [xkB] using hc
        rw [hlen] at hd hpc
        rw [hpc] at K
        exact S_last hx hb hW hR hlk hi.2 ha hi.1 hd K
      · exact absurd h (by simp)
    · exact absurd h (by simp)
  · split at h
    · rename_i C n f ha
      split at h
      · rename_i hi
        obtain ⟨h1, h2, rfl, h4⟩ := hi
        simp only [Option.some.injEq, Prod.mk.injEq] at h
        obtain ⟨rfl, rfl, rfl, rfl⟩ := h
        refine ⟨rfl, ?_⟩
        have hpc := hn e' he'
        simp only [xput, Nat.sub_self, Nat.add_zero] at K
        have hlen : len = 1 := by simpa [xkB] using hc
        rw [hlen] at hd hpc
        rw [hpc] at K
        exact S_aast hx hb hG hW hR hlk h2 ha h4 h1 hd K
      · exact absurd h (by simp)
    · exact absurd h (by simp)
  · rename_i cnd off b a st2
    split at h
    · rename_i hok
      simp only [xkB, Bool.and_eq_true, beq_iff_eq] at hc
      obtain ⟨hlen, hto⟩ := hc
      rw [hlen] at hd hn
      obtain ⟨tg, htg⟩ := xto_ex hto
      have hinj : xad s0 adc a = xad s0 adc b → a = b := by
        intro e1
        rcases hok with rfl | ⟨h1, h2, -, -⟩
        · rfl
        · rw [xad, xad, if_pos (Nat.lt_of_lt_of_le h1 (by decide)), if_pos (Nat.lt_of_lt_of_le h2 (by decide))] at e1
          exact hG.2.2.1 a b h1 h2 e1
      unfold xjmp at h
      cases cnd with
      | eq =>
        dsimp only at h
        split at h
        · rename_i hcd
          simp only [Option.some.injEq, Prod.mk.injEq] at h
          obtain ⟨rfl, rfl, rfl, rfl⟩ := h
          refine ⟨rfl, ?_⟩
          simp only [Nat.sub_self, Nat.add_zero] at K
          have ht := xto_at hto he'
          have K1 := K H locs hR hlk
          have hab : a = b := of_decide_eq_true hcd
          subst hab
          exact lv_acmp_eq hx hb hd ht (fun _ => K1) (fun q => absurd rfl q)
        · rename_i hcd
          simp only [Option.some.injEq, Prod.mk.injEq] at h
          obtain ⟨rfl, rfl, rfl, rfl⟩ := h
          refine ⟨rfl, ?_⟩
          simp only [Nat.sub_self, Nat.add_zero] at K
          have hpc := hn e' he'
          have K1 := K H locs hR hlk
          rw [hpc] at K1
          exact lv_acmp_eq hx hb hd htg (fun q => absurd (decide_eq_true (hinj q)) hcd) (fun _ => K1)
      | ne =>
        dsimp only at h
        split at h
        · rename_i hcd
          simp only [Option.some.injEq, Prod.mk.injEq] at h
          obtain ⟨rfl, rfl, rfl, rfl⟩ := h
          refine ⟨rfl, ?_⟩
          simp only [Nat.sub_self, Nat.add_zero] at K
          have ht := xto_at hto he'
          have K1 := K H locs hR hlk
          exact lv_acmp_ne hx hb hd ht (fun _ => K1) (fun q => absurd (hinj q) (of_decide_eq_true hcd))
        · rename_i hcd
          simp only [Option.some.injEq, Prod.mk.injEq] at h
          obtain ⟨rfl, rfl, rfl, rfl⟩ := h
          refine ⟨rfl, ?_⟩
          simp only [Nat.sub_self, Nat.add_zero] at K
          have hpc := hn e' he'
          have K1 := K H locs hR hlk
          rw [hpc] at K1
          have hab : a = b := Decidable.not_not.mp (fun q => hcd (decide_eq_true q))
          subst hab
          exact lv_acmp_ne hx hb hd htg (fun q => absurd rfl q) (fun _ => K1)
    · exact absurd h (by simp)
  · simp only [Option.some.injEq, Prod.mk.injEq] at h
    obtain ⟨rfl, rfl, rfl, rfl⟩ := h
    refine ⟨rfl, ?_⟩
    have hpc := hn e' he'
    simp only [xnew, Nat.add_sub_cancel_left] at K hrc hrs
    simp only [xkB, Bool.and_eq_true, beq_iff_eq, decide_eq_true_eq] at hc
    obtain ⟨hlen, hci, w1, w2, w3⟩ := hc
    rw [hlen] at hd hpc
    rw [hpc] at K
    exact S_new hcl hx hb hown hG hW hR hci w1 w2 w3 hrc hrs hd (fun H1 h1 => K H1 locs h1 hlk)
  · split at h
    · exact absurd h (by simp)
    · rename_i hnn
      simp only [Option.some.injEq, Prod.mk.injEq] at h
      obtain ⟨rfl, rfl, rfl, rfl⟩ := h
      refine ⟨rfl, ?_⟩
      have hpc := hn e' he'
      simp only [xnew, Nat.add_sub_cancel_left] at K hrc hrs
      simp only [xkB, Bool.and_eq_true, beq_iff_eq, decide_eq_true_eq] at hc
      obtain ⟨hlen, w1⟩ := hc
      rw [hlen] at hd hpc
      rw [hpc] at K
      exact S_newa (at_ := .int) (Or.inl rfl) hx hb hG hW hR w1 hnn hrc hrs hd (fun H1 h1 => K H1 locs h1 hlk)
  · split at h
    · exact absurd h (by simp)
    · rename_i hnn
      simp only [Option.some.injEq, Prod.mk.injEq] at h
      obtain ⟨rfl, rfl, rfl, rfl⟩ := h
      refine ⟨rfl, ?_⟩
      have hpc := hn e' he'
      simp only [xnew, Nat.add_sub_cancel_left] at K hrc hrs
      simp only [xkB, Bool.and_eq_true, beq_iff_eq, decide_eq_true_eq] at hc
      obtain ⟨hlen, w1⟩ := hc
      rw [hlen] at hd hpc
      rw [hpc] at K
      exact S_newa (at_ := .long) (Or.inr rfl) hx hb hG hW hR w1 hnn hrc hrs hd (fun H1 h1 => K H1 locs h1 hlk)
  · split at h
    · exact absurd h (by simp)
    · rename_i hnn
      simp only [Option.some.injEq, Prod.mk.injEq] at h
      obtain ⟨rfl, rfl, rfl, rfl⟩ := h
      refine ⟨rfl, ?_⟩
      have hpc := hn e' he'
      simp only [xnew, Nat.add_sub_cancel_left] at K hrc hrs
      simp only [xkB, Bool.and_eq_true, beq_iff_eq, decide_eq_true_eq] at hc
      obtain ⟨hlen, w1, w2⟩ := hc
      rw [hlen] at hd hpc
      rw [hpc] at K
      exact S_anew hx hb hown hG hW hR w1 w2 hnn hrc hrs hd (fun H1 h1 => K H1 locs h1 hlk)
  · split at h
    · rename_i ci fs ha
      split at h
      · rename_i hci
        subst hci
        simp only [Option.some.injEq, Prod.mk.injEq] at h
        obtain ⟨rfl, rfl, rfl, rfl⟩ := h
        refine ⟨rfl, ?_⟩
        have hpc := hn e' he'
        simp only [Nat.sub_self, Nat.add_zero] at K
        simp only [xkB, Bool.and_eq_true, beq_iff_eq, decide_eq_true_eq] at hc
        obtain ⟨hlen, hci, w1⟩ := hc
        rw [hlen] at hd hpc
        have K1 := K H locs hR hlk
        rw [hpc] at K1
        obtain ⟨ar, cell, g1, g2, g3⟩ := hR.wk hG ha
        have g3 : xObjAt s0 adc (ax.headD 0) fs cell := g3
        simp only [List.map_cons] at K1 ⊢
        have hv : xv s0 adc (.ref _) = .ref ar := congrArg va_rf g1
        rw [hv] at K1 ⊢
        exact va_castE hx hb hown (xwd hG.1 hW w1 rfl) ⟨cell, g2, g3.2.2.1, xcls hW g3.1⟩ hd K1
      · exact absurd h (by simp)
    · exact absurd h (by simp)
  · exact absurd h (by simp)
end SG
