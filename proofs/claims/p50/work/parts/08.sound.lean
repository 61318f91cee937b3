/-! The real machine follows the small one. -/
def xad (s0 : State) (adc : Nat → Option Nat) (k : Nat) : Option Nat := if k < xNC then adc k else some (s0.heap.size + (k - xNC))
def xv (s0 : State) (adc : Nat → Option Nat) (v : Value) : Value := match v with
  | .ref k => va_rf (xad s0 adc k)
  | v => v
def xlv (s0 : State) (adc : Nat → Option Nat) (lv : xL) : List (Nat × Value) := lv.map fun q => (q.1, xv s0 adc q.2)
theorem xv_int (s0 : State) (adc : Nat → Option Nat) (x : Int32) : xv s0 adc (.int x) = .int x := rfl
theorem xv_cat (s0 : State) (adc : Nat → Option Nat) (v : Value) : (xv s0 adc v).category = v.category := by
  cases v with
  | ref k =>
    show (va_rf (xad s0 adc k)).category = 1
    cases xad s0 adc k <;> rfl
  | _ => rfl
theorem xv_sum (s0 : State) (adc : Nat → Option Nat) (st : List Value) : ((st.map (xv s0 adc)).map fun v => v.category).sum = (st.map fun v => v.category).sum := by
  rw [List.map_map]
  congr 1
  exact List.map_congr_left fun v _ => xv_cat s0 adc v
theorem xlv_get {s0 : State} {adc : Nat → Option Nat} {lv : xL} {k : Nat} {v : Value} {ls : Array Slot} {nL : Nat} (h : lv_has ls nL (xlv s0 adc lv)) (hg : xget lv k = some v) : ls[k]? = some (.val (xv s0 adc v)) := by
  have hm : ∀ lv : xL, xget lv k = some v → (k, v) ∈ lv := by
    intro lv
    induction lv with
    | nil => intro h; simp [xget] at h
    | cons q lv ih =>
      intro h
      obtain ⟨a, w⟩ := q
      simp only [xget] at h
      by_cases e : a = k
      · rw [if_pos e] at h
        cases h
        subst e
        exact List.mem_cons_self
      · rw [if_neg e] at h
        exact List.mem_cons_of_mem _ (ih h)
  exact h.2.2 (k, xv s0 adc v) (List.mem_map.mpr ⟨(k, v), hm lv hg, rfl⟩)
theorem xlv_del (s0 : State) (adc : Nat → Option Nat) (lv : xL) (i : Nat) : (xlv s0 adc lv).filter (fun q => !(q.1 == i) && !(q.1 + 1 == i && q.2.category == 2)) = xlv s0 adc (xdel lv i) := by
  unfold xlv xdel
  rw [List.filter_map]
  congr 1
  refine List.filter_congr fun q _ => ?_
  simp only [Function.comp, xv_cat]
theorem xlv_st1 (s0 : State) (adc : Nat → Option Nat) (lv : xL) (i : Nat) (v : Value) : (i, xv s0 adc v) :: (xlv s0 adc lv).filter (fun q => !(q.1 == i) && !(q.1 + 1 == i && q.2.category == 2)) = xlv s0 adc (xst1 lv i v) := by
  rw [xlv_del]
  rfl
theorem xlv_st2 (s0 : State) (adc : Nat → Option Nat) (lv : xL) (i : Nat) (v : Value) : (i, xv s0 adc v) :: (xlv s0 adc lv).filter (fun q => !(q.1 == i) && (!(q.1 == i + 1) && !(q.1 + 1 == i && q.2.category == 2))) = xlv s0 adc (xst2 lv i v) := by
  unfold xlv xst2
  rw [List.filter_map]
  show _ :: _ = _ :: _
  congr 2
  refine List.filter_congr fun q _ => ?_
  simp only [Function.comp, xv_cat]
/-- words that stand in the tables hold in every frame behind the start -/
def xWd (s0 : State) (b0 : Nat) : Prop := ∀ w ∈ lw_tbl, w.before #[Value.ref b0] s0 = true
theorem tables_lw {w : Jvm.Cond} (h : w ∈ tables_1) : w ∈ lw_tbl := List.mem_append_right _ h
theorem xwd {s0 s : State} {b0 : Nat} {args : Array Value} (hts : xWd s0 b0) (hW : s0.WarmedH s.vm) {q p : Nat} {w : Jvm.Cond} (h : xw q p = some w) (hg : goodWord w = true) : w.before args s = true :=
  word_at hW (good_of_word hg) (hts w (tables_lw (xtb_in h)))
theorem xwdF {s0 s : State} {b0 : Nat} {args : Array Value} (hts : xWd s0 b0) (hW : s0.WarmedH s.vm) {q p : Nat} {a : String} {i : Nat} {b n d h : String} (e : xw q p = some (.fieldLinkNest a i b n d h)) : (Jvm.Cond.fieldLinkNest a i b n d h).before args s = true :=
  va_Nw.use rfl (va_Nw.warmF hW (va_Nw.of rfl (hts _ (tables_lw (xtb_in e)))))
theorem xwdM {s0 s : State} {b0 : Nat} (hts : xWd s0 b0) (hW : s0.WarmedH s.vm) {q p : Nat} {a : String} {i : Nat} {x : MethodName} {h : String} (e : xw q p = some (.methodLinkNest a i x h)) : va_Nw (.methodLinkNest a i x h) s :=
  va_Nw.warmM hW (va_Nw.of rfl (hts _ (tables_lw (xtb_in e))))
section SA
variable {p : Program} {l : Launch} {e : Env} {R : Room} {s : State} {m : MethodId} {args : Array Value} {below : List Frame} {meth : Method} {c : Code} {H : Heap} {locs : List Loc} {cells slots : Nat} {Q : State → Prop}
variable {s0 : State} {b0 : Nat} {adc : Nat → Option Nat} {cc : ByteArray} {own : String} {nL : Nat}
theorem xto_ex {L : List xE} {pc t : Nat} {off : Int} (h : xto L pc t off = true) : ∃ tg : Nat, (pc : Int) + off = (tg : Int) := by
  unfold xto at h
  split at h
  · exact ⟨_, of_decide_eq_true h⟩
  · exact absurd h (by simp)
theorem xto_at {L : List xE} {pc t : Nat} {off : Int} {e' : xE} (h : xto L pc t off = true) (he : L[t]? = some e') : (pc : Int) + off = (e'.1 : Int) := by
  unfold xto at h
  rw [he] at h
  exact of_decide_eq_true h
theorem xlv_mem {lv : xL} {k : Nat} {v : Value} (hg : xget lv k = some v) : (k, xv s0 adc v) ∈ xlv s0 adc lv := by
  have hm : ∀ lv : xL, xget lv k = some v → (k, v) ∈ lv := by
    intro lv
    induction lv with
    | nil => intro h; simp [xget] at h
    | cons q lv ih =>
      intro h
      obtain ⟨a, w⟩ := q
      simp only [xget] at h
      by_cases e : a = k
      · rw [if_pos e] at h
        cases h
        subst e
        exact List.mem_cons_self
      · rw [if_neg e] at h
        exact List.mem_cons_of_mem _ (ih h)
  exact List.mem_map.mpr ⟨(k, v), hm lv hg, rfl⟩
set_option maxHeartbeats 4000000 in
theorem snd_A {L : List xE} {j pc len : Nat} {i : Instr} {ax : List Nat} {cv : Value} {lv lv' : xL} {st st' : List Value} {hp hp' : xH} {j' : Nat} {ls : Array Slot} {e' : xE} (hx : p.tables.exec = Jvm.exec) (hb : c.code = cc) (hown : s.vm.findClass own = some m.cls) (hts : xWd s0 b0) (hW : s0.WarmedH s.vm) (hd : decode cc pc = .ok (i, len)) (hn : ∀ e1, L[j + 1]? = some e1 → e1.1 = pc + len) (hc : xkA L own pc i len ax cv = true)
    (h : xsA nL j i ax cv lv st hp = some (j', lv', st', hp')) (he' : L[j']? = some e') (hl : lv_has ls nL (xlv s0 adc lv)) (K : hp' = hp → ∀ ls', lv_has ls' nL (xlv s0 adc lv') → W p l e R s m args below meth c H locs cells slots Q (F0 m e'.1 ls' (st'.map (xv s0 adc)))) :
    hp' = hp ∧ W p l e R s m args below meth c H locs cells slots Q (F0 m pc ls (st.map (xv s0 adc))) := by
  unfold xsA at h
  split at h
  · simp only [Option.some.injEq, Prod.mk.injEq] at h
    obtain ⟨rfl, rfl, rfl, rfl⟩ := h
    replace K := K rfl
    refine ⟨rfl, ?_⟩
    have hpc := hn e' he'
    have hc2 : cv = _ ∧ len = _ := of_decide_eq_true hc
    obtain ⟨hcv, hlen⟩ := hc2
    subst hcv
    rw [hlen] at hd hpc
    have K1 := K ls hl
    rw [hpc] at K1
    refine lv_iconst (v := _) hx hb hd rfl ?_
    exact K1
  · simp only [Option.some.injEq, Prod.mk.injEq] at h
    obtain ⟨rfl, rfl, rfl, rfl⟩ := h
    replace K := K rfl
    refine ⟨rfl, ?_⟩
    have hpc := hn e' he'
    have hc2 : cv = _ ∧ len = _ := of_decide_eq_true hc
    obtain ⟨hcv, hlen⟩ := hc2
    subst hcv
    rw [hlen] at hd hpc
    have K1 := K ls hl
    rw [hpc] at K1
    refine lv_bipush hx hb hd rfl ?_
    exact K1
  · simp only [Option.some.injEq, Prod.mk.injEq] at h
    obtain ⟨rfl, rfl, rfl, rfl⟩ := h
    replace K := K rfl
    refine ⟨rfl, ?_⟩
    have hpc := hn e' he'
    have hc2 : cv = _ ∧ len = _ := of_decide_eq_true hc
    obtain ⟨hcv, hlen⟩ := hc2
    subst hcv
    rw [hlen] at hd hpc
    have K1 := K ls hl
    rw [hpc] at K1
    refine lv_sipush hx hb hd rfl ?_
    exact K1
  · simp only [Option.some.injEq, Prod.mk.injEq] at h
    obtain ⟨rfl, rfl, rfl, rfl⟩ := h
    replace K := K rfl
    refine ⟨rfl, ?_⟩
    have hpc := hn e' he'
    have hc2 : cv = _ ∧ len = _ := of_decide_eq_true hc
    obtain ⟨hcv, hlen⟩ := hc2
    subst hcv
    rw [hlen] at hd hpc
    have K1 := K ls hl
    rw [hpc] at K1
    refine lv_lconst hx hb hd rfl ?_
    exact K1
  · simp only [Option.some.injEq, Prod.mk.injEq] at h
    obtain ⟨rfl, rfl, rfl, rfl⟩ := h
    replace K := K rfl
    refine ⟨rfl, ?_⟩
    have hpc := hn e' he'
    simp only [xkA, Bool.or_eq_true, Bool.and_eq_true, beq_iff_eq, decide_eq_true_eq] at hc
    rcases hc with ⟨rfl, rfl, hlen⟩ | ⟨rfl, rfl, hlen⟩
    · rw [hlen] at hd hpc
      have K1 := K ls hl
      rw [hpc] at K1
      exact lv_dconst0 hx hb hd K1
    · rw [hlen] at hd hpc
      have K1 := K ls hl
      rw [hpc] at K1
      exact lv_dconst1 hx hb hd K1
  · simp only [Option.some.injEq, Prod.mk.injEq] at h
    obtain ⟨rfl, rfl, rfl, rfl⟩ := h
    replace K := K rfl
    refine ⟨rfl, ?_⟩
    have hpc := hn e' he'
    simp only [xkA, Bool.and_eq_true, decide_eq_true_eq] at hc
    obtain ⟨hlen, hc⟩ := hc
    split at hc
    · rename_i hw
      obtain ⟨rfl, rfl, rfl⟩ := of_decide_eq_true hc
      rw [hlen] at hd hpc
      have K1 := K ls hl
      rw [hpc] at K1
      exact lv_ldc hx hb hown (xwd hts hW hw rfl) hd K1
    · exact absurd hc (by simp)
  · simp only [Option.some.injEq, Prod.mk.injEq] at h
    obtain ⟨rfl, rfl, rfl, rfl⟩ := h
    replace K := K rfl
    refine ⟨rfl, ?_⟩
    have hpc := hn e' he'
    simp only [xkA, Bool.and_eq_true, decide_eq_true_eq] at hc
    obtain ⟨hlen, hc⟩ := hc
    split at hc
    · rename_i hw
      obtain ⟨rfl, rfl, rfl⟩ := of_decide_eq_true hc
      rw [hlen] at hd hpc
      have K1 := K ls hl
      rw [hpc] at K1
      exact lv_ldcw hx hb hown (xwd hts hW hw rfl) hd K1
    · exact absurd hc (by simp)
  · simp only [Option.some.injEq, Prod.mk.injEq] at h
    obtain ⟨rfl, rfl, rfl, rfl⟩ := h
    replace K := K rfl
    refine ⟨rfl, ?_⟩
    have hpc := hn e' he'
    simp only [xkA, Bool.and_eq_true, decide_eq_true_eq] at hc
    obtain ⟨hlen, hc⟩ := hc
    split at hc
    · rename_i hw
      obtain ⟨rfl, rfl, rfl⟩ := of_decide_eq_true hc
      rw [hlen] at hd hpc
      have K1 := K ls hl
      rw [hpc] at K1
      exact lv_ldc2 hx hb hown (xwd hts hW hw rfl) hd K1
    · rename_i hw
      obtain ⟨rfl, rfl, rfl⟩ := of_decide_eq_true hc
      rw [hlen] at hd hpc
      have K1 := K ls hl
      rw [hpc] at K1
      exact lv_ldc2d hx hb hown (xwd hts hW hw rfl) hd K1
    · exact absurd hc (by simp)
  · simp only [Option.some.injEq, Prod.mk.injEq] at h
    obtain ⟨rfl, rfl, rfl, rfl⟩ := h
    replace K := K rfl
    refine ⟨rfl, ?_⟩
    have hpc := hn e' he'
    have hlen : len = 1 := by simpa [xkA] using hc
    rw [hlen] at hd hpc
    have K1 := K ls hl
    rw [hpc] at K1
    refine lv_null hx hb hd ?_
    exact K1
  · split at h
    · rename_i hg
      simp only [Option.some.injEq, Prod.mk.injEq] at h
      obtain ⟨rfl, rfl, rfl, rfl⟩ := h
      replace K := K rfl
      refine ⟨rfl, ?_⟩
      have hpc := hn e' he'
      have hlen : len = 1 := by simpa [xkA] using hc
      rw [hlen] at hd hpc
      have K1 := K ls hl
      rw [hpc] at K1
      have hg1 := xlv_get hl hg
      exact lv_iload_n hx hb hd rfl hg1 K1
    · exact absurd h (by simp)
  · split at h
    · rename_i hg
      simp only [Option.some.injEq, Prod.mk.injEq] at h
      obtain ⟨rfl, rfl, rfl, rfl⟩ := h
      replace K := K rfl
      refine ⟨rfl, ?_⟩
      have hpc := hn e' he'
      have hlen : len = 2 := by simpa [xkA] using hc
      rw [hlen] at hd hpc
      have K1 := K ls hl
      rw [hpc] at K1
      have hg1 := xlv_get hl hg
      exact lv_iload hx hb hd hg1 K1
    · exact absurd h (by simp)
  · split at h
    · rename_i hg
      simp only [Option.some.injEq, Prod.mk.injEq] at h
      obtain ⟨rfl, rfl, rfl, rfl⟩ := h
      replace K := K rfl
      refine ⟨rfl, ?_⟩
      have hpc := hn e' he'
      have hlen : len = 1 := by simpa [xkA] using hc
      rw [hlen] at hd hpc
      have K1 := K ls hl
      rw [hpc] at K1
      have hg1 := xlv_get hl hg
      exact lv_lload_n hx hb hd rfl hg1 K1
    · exact absurd h (by simp)
  · split at h
    · rename_i hg
      simp only [Option.some.injEq, Prod.mk.injEq] at h
      obtain ⟨rfl, rfl, rfl, rfl⟩ := h
      replace K := K rfl
      refine ⟨rfl, ?_⟩
      have hpc := hn e' he'
      have hlen : len = 2 := by simpa [xkA] using hc
      rw [hlen] at hd hpc
      have K1 := K ls hl
      rw [hpc] at K1
      have hg1 := xlv_get hl hg
      exact lv_lload hx hb hd hg1 K1
    · exact absurd h (by simp)
  · split at h
    · rename_i hg
      simp only [Option.some.injEq, Prod.mk.injEq] at h
      obtain ⟨rfl, rfl, rfl, rfl⟩ := h
      replace K := K rfl
      refine ⟨rfl, ?_⟩
      have hpc := hn e' he'
      have hlen : len = 1 := by simpa [xkA] using hc
      rw [hlen] at hd hpc
      have K1 := K ls hl
      rw [hpc] at K1
      have hg1 := xlv_get hl hg
      exact lv_dload_n hx hb hd rfl hg1 K1
    · exact absurd h (by simp)
  · split at h
    · rename_i hg
      simp only [Option.some.injEq, Prod.mk.injEq] at h
      obtain ⟨rfl, rfl, rfl, rfl⟩ := h
      replace K := K rfl
      refine ⟨rfl, ?_⟩
      have hpc := hn e' he'
      have hlen : len = 2 := by simpa [xkA] using hc
      rw [hlen] at hd hpc
      have K1 := K ls hl
      rw [hpc] at K1
      have hg1 := xlv_get hl hg
      exact lv_dload hx hb hd hg1 K1
    · exact absurd h (by simp)
  · split at h
    · rename_i hg
      simp only [Option.some.injEq, Prod.mk.injEq] at h
      obtain ⟨rfl, rfl, rfl, rfl⟩ := h
      replace K := K rfl
      refine ⟨rfl, ?_⟩
      have hpc := hn e' he'
      have hlen : len = 1 := by simpa [xkA] using hc
      rw [hlen] at hd hpc
      have K1 := K ls hl
      rw [hpc] at K1
      have hg1 := xlv_get hl hg
      simp only [List.map_cons] at K1
      simp only [xv] at hg1 K1
      cases hr : xad s0 adc _ with
      | none =>
        rw [hr] at hg1 K1
        exact lv_aload_nN hx hb hd rfl hg1 K1
      | some a =>
        rw [hr] at hg1 K1
        exact lv_aload_n hx hb hd rfl hg1 K1
    · exact absurd h (by simp)
  · split at h
    · rename_i hg
      simp only [Option.some.injEq, Prod.mk.injEq] at h
      obtain ⟨rfl, rfl, rfl, rfl⟩ := h
      replace K := K rfl
      refine ⟨rfl, ?_⟩
      have hpc := hn e' he'
      have hlen : len = 2 := by simpa [xkA] using hc
      rw [hlen] at hd hpc
      have K1 := K ls hl
      rw [hpc] at K1
      have hg1 := xlv_get hl hg
      simp only [List.map_cons] at K1
      simp only [xv] at hg1 K1
      cases hr : xad s0 adc _ with
      | none =>
        rw [hr] at hg1 K1
        exact lv_aloadN hx hb hd hg1 K1
      | some a =>
        rw [hr] at hg1 K1
        exact lv_aload hx hb hd hg1 K1
    · exact absurd h (by simp)
  · split at h
    · rename_i hlt
      simp only [Option.some.injEq, Prod.mk.injEq] at h
      obtain ⟨rfl, rfl, rfl, rfl⟩ := h
      replace K := K rfl
      refine ⟨rfl, ?_⟩
      have hpc := hn e' he'
      have hlen : len = 1 := by simpa [xkA] using hc
      rw [hlen] at hd hpc
      rw [hpc] at K
      exact lv_istore_n hx hb hd rfl hl hlt (xlv_st1 s0 adc lv _ (.int _)) (fun ls' h' => K ls' h')
    · exact absurd h (by simp)
  · split at h
    · rename_i hlt
      simp only [Option.some.injEq, Prod.mk.injEq] at h
      obtain ⟨rfl, rfl, rfl, rfl⟩ := h
      replace K := K rfl
      refine ⟨rfl, ?_⟩
      have hpc := hn e' he'
      have hlen : len = 2 := by simpa [xkA] using hc
      rw [hlen] at hd hpc
      rw [hpc] at K
      exact lv_istore hx hb hd hl hlt (xlv_st1 s0 adc lv _ (.int _)) (fun ls' h' => K ls' h')
    · exact absurd h (by simp)
  · rename_i k x st2
    split at h
    · rename_i hlt
      simp only [Option.some.injEq, Prod.mk.injEq] at h
      obtain ⟨rfl, rfl, rfl, rfl⟩ := h
      replace K := K rfl
      refine ⟨rfl, ?_⟩
      have hpc := hn e' he'
      have hlen : len = 1 := by simpa [xkA] using hc
      rw [hlen] at hd hpc
      rw [hpc] at K
      have hst := xlv_st1 s0 adc lv k (.ref x)
      simp only [List.map_cons]
      simp only [xv] at hst ⊢
      cases hr : xad s0 adc x with
      | none =>
        rw [hr] at hst
        exact lv_astore_nN hx hb hd rfl hl hlt hst (fun ls' h' => K ls' h')
      | some a =>
        rw [hr] at hst
        exact lv_astore_n hx hb hd rfl hl hlt hst (fun ls' h' => K ls' h')
    · exact absurd h (by simp)
  · rename_i k x st2
    split at h
    · rename_i hlt
      simp only [Option.some.injEq, Prod.mk.injEq] at h
      obtain ⟨rfl, rfl, rfl, rfl⟩ := h
      replace K := K rfl
      refine ⟨rfl, ?_⟩
      have hpc := hn e' he'
      have hlen : len = 2 := by simpa [xkA] using hc
      rw [hlen] at hd hpc
      rw [hpc] at K
      have hst := xlv_st1 s0 adc lv k (.ref x)
      simp only [List.map_cons]
      simp only [xv] at hst ⊢
      cases hr : xad s0 adc x with
      | none =>
        rw [hr] at hst
        exact lv_astoreN hx hb hd hl hlt hst (fun ls' h' => K ls' h')
      | some a =>
        rw [hr] at hst
        exact lv_astore hx hb hd hl hlt hst (fun ls' h' => K ls' h')
    · exact absurd h (by simp)
  · split at h
    · rename_i hlt
      simp only [Option.some.injEq, Prod.mk.injEq] at h
      obtain ⟨rfl, rfl, rfl, rfl⟩ := h
      replace K := K rfl
      refine ⟨rfl, ?_⟩
      have hpc := hn e' he'
      have hlen : len = 1 := by simpa [xkA] using hc
      rw [hlen] at hd hpc
      rw [hpc] at K
      exact lv_lstore_n hx hb hd rfl hl hlt (xlv_st2 s0 adc lv _ (.long _)) (fun ls' h' => K ls' h')
    · exact absurd h (by simp)
  · split at h
    · rename_i hlt
      simp only [Option.some.injEq, Prod.mk.injEq] at h
      obtain ⟨rfl, rfl, rfl, rfl⟩ := h
      replace K := K rfl
      refine ⟨rfl, ?_⟩
      have hpc := hn e' he'
      have hlen : len = 2 := by simpa [xkA] using hc
      rw [hlen] at hd hpc
      rw [hpc] at K
      exact lv_lstore hx hb hd hl hlt (xlv_st2 s0 adc lv _ (.long _)) (fun ls' h' => K ls' h')
    · exact absurd h (by simp)
  · split at h
    · rename_i hlt
      simp only [Option.some.injEq, Prod.mk.injEq] at h
      obtain ⟨rfl, rfl, rfl, rfl⟩ := h
      replace K := K rfl
      refine ⟨rfl, ?_⟩
      have hpc := hn e' he'
      have hlen : len = 1 := by simpa [xkA] using hc
      rw [hlen] at hd hpc
      rw [hpc] at K
      exact lv_dstore_n hx hb hd rfl hl hlt (xlv_st2 s0 adc lv _ (.double _)) (fun ls' h' => K ls' h')
    · exact absurd h (by simp)
  · split at h
    · rename_i hlt
      simp only [Option.some.injEq, Prod.mk.injEq] at h
      obtain ⟨rfl, rfl, rfl, rfl⟩ := h
      replace K := K rfl
      refine ⟨rfl, ?_⟩
      have hpc := hn e' he'
      have hlen : len = 2 := by simpa [xkA] using hc
      rw [hlen] at hd hpc
      rw [hpc] at K
      exact lv_dstore hx hb hd hl hlt (xlv_st2 s0 adc lv _ (.double _)) (fun ls' h' => K ls' h')
    · exact absurd h (by simp)
  · split at h
    · rename_i hg
      split at h
      · rename_i hlt
        simp only [Option.some.injEq, Prod.mk.injEq] at h
        obtain ⟨rfl, rfl, rfl, rfl⟩ := h
        replace K := K rfl
        refine ⟨rfl, ?_⟩
        have hpc := hn e' he'
        have hc2 : Value.int _ = Value.int _ ∧ len = 3 := of_decide_eq_true hc
        obtain ⟨hcv, hlen⟩ := hc2
        cases hcv
        rw [hlen] at hd hpc
        rw [hpc] at K
        obtain ⟨q, hq⟩ := List.getElem?_of_mem (xlv_mem (s0 := s0) (adc := adc) hg)
        exact lv_iinc hx hb hd hl hq rfl hlt (xlv_st1 s0 adc lv _ (.int _)) (fun ls' h' => K ls' h')
      · exact absurd h (by simp)
    · exact absurd h (by simp)
  · simp only [Option.some.injEq, Prod.mk.injEq] at h
    obtain ⟨rfl, rfl, rfl, rfl⟩ := h
    replace K := K rfl
    refine ⟨rfl, ?_⟩
    have hpc := hn e' he'
    have hlen : len = 1 := by simpa [xkA] using hc
    rw [hlen] at hd hpc
    have K1 := K ls hl
    rw [hpc] at K1
    refine lv_iadd hx hb hd ?_
    exact K1
  · simp only [Option.some.injEq, Prod.mk.injEq] at h
    obtain ⟨rfl, rfl, rfl, rfl⟩ := h
    replace K := K rfl
    refine ⟨rfl, ?_⟩
    have hpc := hn e' he'
    have hlen : len = 1 := by simpa [xkA] using hc
    rw [hlen] at hd hpc
    have K1 := K ls hl
    rw [hpc] at K1
    refine lv_isub hx hb hd ?_
    exact K1
  · simp only [Option.some.injEq, Prod.mk.injEq] at h
    obtain ⟨rfl, rfl, rfl, rfl⟩ := h
    replace K := K rfl
    refine ⟨rfl, ?_⟩
    have hpc := hn e' he'
    have hlen : len = 1 := by simpa [xkA] using hc
    rw [hlen] at hd hpc
    have K1 := K ls hl
    rw [hpc] at K1
    refine lv_imul hx hb hd ?_
    exact K1
  · simp only [Option.some.injEq, Prod.mk.injEq] at h
    obtain ⟨rfl, rfl, rfl, rfl⟩ := h
    replace K := K rfl
    refine ⟨rfl, ?_⟩
    have hpc := hn e' he'
    have hlen : len = 1 := by simpa [xkA] using hc
    rw [hlen] at hd hpc
    have K1 := K ls hl
    rw [hpc] at K1
    refine lv_iand hx hb hd ?_
    exact K1
  · simp only [Option.some.injEq, Prod.mk.injEq] at h
    obtain ⟨rfl, rfl, rfl, rfl⟩ := h
    replace K := K rfl
    refine ⟨rfl, ?_⟩
    have hpc := hn e' he'
    have hlen : len = 1 := by simpa [xkA] using hc
    rw [hlen] at hd hpc
    have K1 := K ls hl
    rw [hpc] at K1
    refine lv_ior hx hb hd ?_
    exact K1
  · split at h
    · exact absurd h (by simp)
    · rename_i hne
      simp only [Option.some.injEq, Prod.mk.injEq] at h
      obtain ⟨rfl, rfl, rfl, rfl⟩ := h
      replace K := K rfl
      refine ⟨rfl, ?_⟩
      have hpc := hn e' he'
      have hlen : len = 1 := by simpa [xkA] using hc
      rw [hlen] at hd hpc
      have K1 := K ls hl
      rw [hpc] at K1
      exact lv_idiv hx hb hd hne K1
  · split at h
    · exact absurd h (by simp)
    · rename_i hne
      simp only [Option.some.injEq, Prod.mk.injEq] at h
      obtain ⟨rfl, rfl, rfl, rfl⟩ := h
      replace K := K rfl
      refine ⟨rfl, ?_⟩
      have hpc := hn e' he'
      have hlen : len = 1 := by simpa [xkA] using hc
      rw [hlen] at hd hpc
      have K1 := K ls hl
      rw [hpc] at K1
      exact lv_irem hx hb hd hne K1
  · simp only [Option.some.injEq, Prod.mk.injEq] at h
    obtain ⟨rfl, rfl, rfl, rfl⟩ := h
    replace K := K rfl
    refine ⟨rfl, ?_⟩
    have hpc := hn e' he'
    have hlen : len = 1 := by simpa [xkA] using hc
    rw [hlen] at hd hpc
    have K1 := K ls hl
    rw [hpc] at K1
    refine lv_ineg hx hb hd ?_
    exact K1
  · simp only [Option.some.injEq, Prod.mk.injEq] at h
    obtain ⟨rfl, rfl, rfl, rfl⟩ := h
    replace K := K rfl
    refine ⟨rfl, ?_⟩
    have hpc := hn e' he'
    have hlen : len = 1 := by simpa [xkA] using hc
    rw [hlen] at hd hpc
    have K1 := K ls hl
    rw [hpc] at K1
    refine lv_ishl hx hb hd ?_
    exact K1
  · simp only [Option.some.injEq, Prod.mk.injEq] at h
    obtain ⟨rfl, rfl, rfl, rfl⟩ := h
    replace K := K rfl
    refine ⟨rfl, ?_⟩
    have hpc := hn e' he'
    have hlen : len = 1 := by simpa [xkA] using hc
    rw [hlen] at hd hpc
    have K1 := K ls hl
    rw [hpc] at K1
    refine lv_ishr hx hb hd ?_
    exact K1
  · simp only [Option.some.injEq, Prod.mk.injEq] at h
    obtain ⟨rfl, rfl, rfl, rfl⟩ := h
    replace K := K rfl
    refine ⟨rfl, ?_⟩
    have hpc := hn e' he'
    have hlen : len = 1 := by simpa [xkA] using hc
    rw [hlen] at hd hpc
    have K1 := K ls hl
    rw [hpc] at K1
    refine lv_ladd hx hb hd ?_
    exact K1
  · simp only [Option.some.injEq, Prod.mk.injEq] at h
    obtain ⟨rfl, rfl, rfl, rfl⟩ := h
    replace K := K rfl
    refine ⟨rfl, ?_⟩
    have hpc := hn e' he'
    have hlen : len = 1 := by simpa [xkA] using hc
    rw [hlen] at hd hpc
    have K1 := K ls hl
    rw [hpc] at K1
    refine lv_lsub hx hb hd ?_
    exact K1
  · simp only [Option.some.injEq, Prod.mk.injEq] at h
    obtain ⟨rfl, rfl, rfl, rfl⟩ := h
    replace K := K rfl
    refine ⟨rfl, ?_⟩
    have hpc := hn e' he'
    have hlen : len = 1 := by simpa [xkA] using hc
    rw [hlen] at hd hpc
    have K1 := K ls hl
    rw [hpc] at K1
    refine lv_lmul hx hb hd ?_
    exact K1
  · simp only [Option.some.injEq, Prod.mk.injEq] at h
    obtain ⟨rfl, rfl, rfl, rfl⟩ := h
    replace K := K rfl
    refine ⟨rfl, ?_⟩
    have hpc := hn e' he'
    have hlen : len = 1 := by simpa [xkA] using hc
    rw [hlen] at hd hpc
    have K1 := K ls hl
    rw [hpc] at K1
    refine lv_lshl hx hb hd rfl ?_
    exact K1
  · simp only [Option.some.injEq, Prod.mk.injEq] at h
    obtain ⟨rfl, rfl, rfl, rfl⟩ := h
    replace K := K rfl
    refine ⟨rfl, ?_⟩
    have hpc := hn e' he'
    have hlen : len = 1 := by simpa [xkA] using hc
    rw [hlen] at hd hpc
    have K1 := K ls hl
    rw [hpc] at K1
    refine W.lcmp hx hb hd ?_
    exact K1
  · simp only [Option.some.injEq, Prod.mk.injEq] at h
    obtain ⟨rfl, rfl, rfl, rfl⟩ := h
    replace K := K rfl
    refine ⟨rfl, ?_⟩
    have hpc := hn e' he'
    have hlen : len = 1 := by simpa [xkA] using hc
    rw [hlen] at hd hpc
    have K1 := K ls hl
    rw [hpc] at K1
    refine lv_i2l hx hb hd rfl ?_
    exact K1
  · simp only [Option.some.injEq, Prod.mk.injEq] at h
    obtain ⟨rfl, rfl, rfl, rfl⟩ := h
    replace K := K rfl
    refine ⟨rfl, ?_⟩
    have hpc := hn e' he'
    have hlen : len = 1 := by simpa [xkA] using hc
    rw [hlen] at hd hpc
    have K1 := K ls hl
    rw [hpc] at K1
    refine lv_i2c hx hb hd rfl ?_
    exact K1
  · simp only [Option.some.injEq, Prod.mk.injEq] at h
    obtain ⟨rfl, rfl, rfl, rfl⟩ := h
    replace K := K rfl
    refine ⟨rfl, ?_⟩
    have hpc := hn e' he'
    have hlen : len = 1 := by simpa [xkA] using hc
    rw [hlen] at hd hpc
    have K1 := K ls hl
    rw [hpc] at K1
    refine lv_i2d hx hb hd ?_
    exact K1
  · simp only [Option.some.injEq, Prod.mk.injEq] at h
    obtain ⟨rfl, rfl, rfl, rfl⟩ := h
    replace K := K rfl
    refine ⟨rfl, ?_⟩
    have hpc := hn e' he'
    have hlen : len = 1 := by simpa [xkA] using hc
    rw [hlen] at hd hpc
    have K1 := K ls hl
    rw [hpc] at K1
    refine lv_d2l hx hb hd ?_
    exact K1
  · split at h
    · rename_i hne
      simp only [Option.some.injEq, Prod.mk.injEq] at h
      obtain ⟨rfl, rfl, rfl, rfl⟩ := h
      replace K := K rfl
      refine ⟨rfl, ?_⟩
      have hpc := hn e' he'
      have hlen : len = 1 := by simpa [xkA] using hc
      rw [hlen] at hd hpc
      have K1 := K ls hl
      rw [hpc] at K1
      exact lv_dsub hx hb hd hne K1
    · exact absurd h (by simp)
  · split at h
    · rename_i hne
      simp only [Option.some.injEq, Prod.mk.injEq] at h
      obtain ⟨rfl, rfl, rfl, rfl⟩ := h
      replace K := K rfl
      refine ⟨rfl, ?_⟩
      have hpc := hn e' he'
      have hlen : len = 1 := by simpa [xkA] using hc
      rw [hlen] at hd hpc
      have K1 := K ls hl
      rw [hpc] at K1
      exact lv_dmul hx hb hd hne K1
    · exact absurd h (by simp)
  · split at h
    · rename_i hne
      simp only [Option.some.injEq, Prod.mk.injEq] at h
      obtain ⟨rfl, rfl, rfl, rfl⟩ := h
      replace K := K rfl
      refine ⟨rfl, ?_⟩
      have hpc := hn e' he'
      have hlen : len = 1 := by simpa [xkA] using hc
      rw [hlen] at hd hpc
      have K1 := K ls hl
      rw [hpc] at K1
      exact lv_ddiv hx hb hd hne K1
    · exact absurd h (by simp)
  · simp only [Option.some.injEq, Prod.mk.injEq] at h
    obtain ⟨rfl, rfl, rfl, rfl⟩ := h
    replace K := K rfl
    refine ⟨rfl, ?_⟩
    have hpc := hn e' he'
    have hlen : len = 1 := by simpa [xkA] using hc
    rw [hlen] at hd hpc
    have K1 := K ls hl
    rw [hpc] at K1
    refine lv_dcmp hx hb hd ?_
    exact K1
  · split at h
    · rename_i hne
      simp only [Option.some.injEq, Prod.mk.injEq] at h
      obtain ⟨rfl, rfl, rfl, rfl⟩ := h
      replace K := K rfl
      refine ⟨rfl, ?_⟩
      have hpc := hn e' he'
      have hlen : len = 1 := by simpa [xkA] using hc
      rw [hlen] at hd hpc
      have K1 := K ls hl
      rw [hpc] at K1
      exact lv_dup hx hb hd (by rw [xv_cat]; exact hne) K1
    · exact absurd h (by simp)
  · split at h
    · rename_i hne
      simp only [Option.some.injEq, Prod.mk.injEq] at h
      obtain ⟨rfl, rfl, rfl, rfl⟩ := h
      replace K := K rfl
      refine ⟨rfl, ?_⟩
      have hpc := hn e' he'
      have hlen : len = 1 := by simpa [xkA] using hc
      rw [hlen] at hd hpc
      have K1 := K ls hl
      rw [hpc] at K1
      exact lv_pop hx hb hd (by rw [xv_cat]; exact hne) K1
    · exact absurd h (by simp)
  · split at h
    · rename_i hne
      simp only [Option.some.injEq, Prod.mk.injEq] at h
      obtain ⟨rfl, rfl, rfl, rfl⟩ := h
      replace K := K rfl
      refine ⟨rfl, ?_⟩
      have hpc := hn e' he'
      have hlen : len = 1 := by simpa [xkA] using hc
      rw [hlen] at hd hpc
      have K1 := K ls hl
      rw [hpc] at K1
      exact lv_dup_x1 hx hb hd (by rw [xv_cat]; exact hne.1) (by rw [xv_cat]; exact hne.2) K1
    · exact absurd h (by simp)
  · split at h
    · rename_i hne
      simp only [Option.some.injEq, Prod.mk.injEq] at h
      obtain ⟨rfl, rfl, rfl, rfl⟩ := h
      replace K := K rfl
      refine ⟨rfl, ?_⟩
      have hpc := hn e' he'
      have hlen : len = 1 := by simpa [xkA] using hc
      rw [hlen] at hd hpc
      have K1 := K ls hl
      rw [hpc] at K1
      exact lv_dup2_11 hx hb hd (by rw [xv_cat]; exact hne.1) (by rw [xv_cat]; exact hne.2) K1
    · exact absurd h (by simp)
  · rename_i cnd off x st2
    simp only [xkA, Bool.and_eq_true, beq_iff_eq] at hc
    obtain ⟨hlen, hto⟩ := hc
    rw [hlen] at hd hn
    unfold xjmp at h
    split at h
    · rename_i hcd
      simp only [Option.some.injEq, Prod.mk.injEq] at h
      obtain ⟨rfl, rfl, rfl, rfl⟩ := h
      replace K := K rfl
      refine ⟨rfl, ?_⟩
      have ht := xto_at hto he'
      have K1 := K ls hl
      cases cnd with
      | eq => exact lv_if_eq hx hb hd ht (fun _ => K1) (fun q => absurd (of_decide_eq_true hcd) q)
      | ne => exact lv_if_ne hx hb hd ht (fun _ => K1) (fun q => absurd q (of_decide_eq_true hcd))
      | lt => exact lv_if_lt hx hb hd ht (fun _ => K1) (fun q => absurd (of_decide_eq_true hcd) q)
      | ge => exact lv_if_ge hx hb hd ht (fun _ => K1) (fun q => absurd (of_decide_eq_true hcd) q)
      | gt => exact lv_if_gt hx hb hd ht (fun _ => K1) (fun q => absurd (of_decide_eq_true hcd) q)
      | le => exact lv_if_le hx hb hd ht (fun _ => K1) (fun q => absurd (of_decide_eq_true hcd) q)
    · rename_i hcd
      simp only [Option.some.injEq, Prod.mk.injEq] at h
      obtain ⟨rfl, rfl, rfl, rfl⟩ := h
      replace K := K rfl
      refine ⟨rfl, ?_⟩
      have hpc := hn e' he'
      have K1 := K ls hl
      rw [hpc] at K1
      obtain ⟨tg, htg⟩ : ∃ tg : Nat, (pc : Int) + off = (tg : Int) := xto_ex hto
      cases cnd with
      | eq => exact lv_if_eq hx hb hd htg (fun q => absurd (decide_eq_true q) hcd) (fun _ => K1)
      | ne => exact lv_if_ne hx hb hd htg (fun q => absurd (decide_eq_true q) hcd) (fun _ => K1)
      | lt => exact lv_if_lt hx hb hd htg (fun q => absurd (decide_eq_true q) hcd) (fun _ => K1)
      | ge => exact lv_if_ge hx hb hd htg (fun q => absurd (decide_eq_true q) hcd) (fun _ => K1)
      | gt => exact lv_if_gt hx hb hd htg (fun q => absurd (decide_eq_true q) hcd) (fun _ => K1)
      | le => exact lv_if_le hx hb hd htg (fun q => absurd (decide_eq_true q) hcd) (fun _ => K1)
  · rename_i cnd off y x st2
    simp only [xkA, Bool.and_eq_true, beq_iff_eq] at hc
    obtain ⟨hlen, hto⟩ := hc
    rw [hlen] at hd hn
    unfold xjmp at h
    split at h
    · rename_i hcd
      simp only [Option.some.injEq, Prod.mk.injEq] at h
      obtain ⟨rfl, rfl, rfl, rfl⟩ := h
      replace K := K rfl
      refine ⟨rfl, ?_⟩
      have ht := xto_at hto he'
      have K1 := K ls hl
      cases cnd with
      | eq => exact lv_icmp_eq hx hb hd ht (fun _ => K1) (fun q => absurd (of_decide_eq_true hcd) q)
      | ne => exact lv_icmp_ne hx hb hd ht (fun _ => K1) (fun q => absurd q (of_decide_eq_true hcd))
      | lt => exact lv_icmp_lt hx hb hd ht (fun _ => K1) (fun q => absurd (of_decide_eq_true hcd) q)
      | ge => exact lv_icmp_ge hx hb hd ht (fun _ => K1) (fun q => absurd (of_decide_eq_true hcd) q)
      | gt => exact lv_icmp_gt hx hb hd ht (fun _ => K1) (fun q => absurd (of_decide_eq_true hcd) q)
      | le => exact lv_icmp_le hx hb hd ht (fun _ => K1) (fun q => absurd (of_decide_eq_true hcd) q)
    · rename_i hcd
      simp only [Option.some.injEq, Prod.mk.injEq] at h
      obtain ⟨rfl, rfl, rfl, rfl⟩ := h
      replace K := K rfl
      refine ⟨rfl, ?_⟩
      have hpc := hn e' he'
      have K1 := K ls hl
      rw [hpc] at K1
      obtain ⟨tg, htg⟩ : ∃ tg : Nat, (pc : Int) + off = (tg : Int) := xto_ex hto
      cases cnd with
      | eq => exact lv_icmp_eq hx hb hd htg (fun q => absurd (decide_eq_true q) hcd) (fun _ => K1)
      | ne => exact lv_icmp_ne hx hb hd htg (fun q => absurd (decide_eq_true q) hcd) (fun _ => K1)
      | lt => exact lv_icmp_lt hx hb hd htg (fun q => absurd (decide_eq_true q) hcd) (fun _ => K1)
      | ge => exact lv_icmp_ge hx hb hd htg (fun q => absurd (decide_eq_true q) hcd) (fun _ => K1)
      | gt => exact lv_icmp_gt hx hb hd htg (fun q => absurd (decide_eq_true q) hcd) (fun _ => K1)
      | le => exact lv_icmp_le hx hb hd htg (fun q => absurd (decide_eq_true q) hcd) (fun _ => K1)
  · simp only [Option.some.injEq, Prod.mk.injEq] at h
    obtain ⟨rfl, rfl, rfl, rfl⟩ := h
    replace K := K rfl
    refine ⟨rfl, ?_⟩
    simp only [xkA, Bool.and_eq_true, beq_iff_eq] at hc
    obtain ⟨hlen, hto⟩ := hc
    rw [hlen] at hd
    exact lv_goto hx hb hd (xto_at hto he') (K ls hl)
  · simp only [xkA, Bool.and_eq_true, decide_eq_true_eq] at hc
    obtain ⟨⟨hto, hsz⟩, hall⟩ := hc
    split at h
    · rename_i hcd
      simp only [Option.some.injEq, Prod.mk.injEq] at h
      obtain ⟨rfl, rfl, rfl, rfl⟩ := h
      replace K := K rfl
      refine ⟨rfl, ?_⟩
      exact lv_tableOut hx hb hd hcd (xto_at hto he') (K ls hl)
    · rename_i hcd
      simp only [Option.some.injEq, Prod.mk.injEq] at h
      obtain ⟨rfl, rfl, rfl, rfl⟩ := h
      replace K := K rfl
      refine ⟨rfl, ?_⟩
      rename_i lo hi offs x _
      have h1 : ¬ x.toInt < lo := fun q => hcd (Or.inl q)
      have h2 : ¬ hi < x.toInt := fun q => hcd (Or.inr q)
      have h3 : (x.toInt - lo).toNat < offs.size := by rw [hsz]; omega
      have h4 := List.all_eq_true.mp hall _ (List.mem_range.mpr h3)
      rw [Array.getElem?_eq_getElem h3] at h4
      exact lv_tableIn hx hb hd h1 h2 (Array.getElem?_eq_getElem h3) (xto_at h4 he') (K ls hl)
  · exact absurd h (by simp)
end SA
