section SV
variable {s0 : State} {b0 : Nat} {adc : Nat → Option Nat} {L : Nat} {xs : Nat → Int32} {l : Launch}
theorem xcatch_lt {pc E v t n : Nat} : ∀ {hs : List xX}, xcatch hs pc E = some (v, t) → (∀ x ∈ hs, x.2.2.2.1 < n) → v < n := by
  intro hs
  induction hs with
  | nil => intro h; simp [xcatch] at h
  | cons x hs ih =>
    intro h h2
    obtain ⟨a, b, c, v', t'⟩ := x
    unfold xcatch at h
    split at h
    · cases h
      exact h2 _ List.mem_cons_self
    · exact ih h fun x hx => h2 x (List.mem_cons_of_mem _ hx)
theorem xwdL {s : State} {args : Array Value} (hW : s0.WarmedH s.vm) {a : String} {i : Nat} {b : String} (h : va_Nw (.classLink a i b) s0) : (Jvm.Cond.classLink a i b).before args s = true := word_at hW (good_of_word rfl) h
set_option maxHeartbeats 4000000 in
/-- THE REAL MACHINE FOLLOWS THE SMALL ONE -/
theorem xsound (hcl : ∀ ci, ci < 10 → xkCl ci = true) (hall : ∀ g, g < 119 → xkM g = true ∧ xkW g = true) (hthr : ∀ E, E < 3 → xkTh E = true) (hst : l.stackTraces = false) (hG : xGl s0 b0 adc L xs) (hGx : xGx s0) : ∀ n, xWst s0 adc L xs l n := by
  intro n
  induction n with
  | zero =>
    intro d k j lv st hp o hpf h
    simp [xrun] at h
  | succ n ih =>
    intro d k j lv st hp o hpf h hok p e R s m args below meth c H locs cells slots ls e0 hfr hR hlk hl he0 hRf hRl hce hsl
    have hgr := xrun_grow xtab _ _ _ _ _ _ _ _ _ h
    obtain ⟨hx, hb, hml, hown, hlocks, hret, hname, htab, hW⟩ := id hfr
    obtain ⟨o1, o2, o3, o4, o5, o6, o7⟩ := id hok
    unfold xrun at h
    rw [he0] at h
    obtain ⟨pc, kd, i, len, ax, cv⟩ := e0
    dsimp only at h
    have hck := o1 j _ he0
    have hck0 := hck
    simp only [xkE, Bool.and_eq_true, decide_eq_true_eq] at hck
    obtain ⟨⟨hd, hnx⟩, hck⟩ := hck
    have hrest : (xtab k).1[j + 1]? = ((xtab k).1.drop (j + 1)).head? := by
      rw [List.head?_drop]
    have hn : ∀ e1, (xtab k).1[j + 1]? = some e1 → e1.1 = pc + len := by
      intro e1 he1
      rw [hrest] at he1
      cases hdr : (xtab k).1.drop (j + 1) with
      | nil => rw [hdr] at he1; cases he1
      | cons a r =>
        rw [hdr] at he1 hnx
        cases he1
        exact eq_of_beq hnx
    -- an instruction behind this one, where the run goes on
    have hex : ∀ d' j' lv' st' hp' r, xrun xtab n d' k j' lv' st' hp' = some r → ∃ e', (xtab k).1[j']? = some e' := by
      intro d' j' lv' st' hp' r hr
      cases n with
      | zero => simp [xrun] at hr
      | succ n =>
        unfold xrun at hr
        split at hr
        · exact absurd hr (by simp)
        · exact ⟨_, by assumption⟩
    split at h
    · -- a call
      simp only [Bool.and_eq_true, beq_iff_eq] at hck
      obtain ⟨hlen, hckC⟩ := hck
      subst hlen
      split at h
      · exact absurd h (by simp)
      · rename_i hgd
        split at h
        · rename_i hrc
          split at h
          · exact absurd h (by simp)
          · rename_i d
            have hgLW : ax.headD 0 < 119 := by
              simp only [xkC, Bool.and_eq_true, decide_eq_true_eq] at hckC
              have h1 : ax.headD 0 + 1 < xNM := hckC.1
              have h3 : xNM = 120 := rfl
              omega
            obtain ⟨hgm, hgw⟩ := hall _ hgLW
            have hgo := xOk_of hgm
            have hst2 : st = (st.take (ax.getD 1 0)).reverse.reverse ++ st.drop (ax.getD 1 0) := by rw [List.reverse_reverse, List.take_append_drop]
            have hna : (st.take (ax.getD 1 0)).reverse.length = ax.getD 1 0 := by rw [List.length_reverse, List.length_take]; omega
            have hcat : ((st.drop (ax.getD 1 0)).map fun v => v.category).sum ≤ 8 := by omega
            have hal : ((st.take (ax.getD 1 0)).reverse.map fun v => v.category).sum ≤ (xtab (ax.headD 0)).2.1 := by omega
            have run : ∀ o1 hp1, xrun xtab n d (ax.headD 0) 0 (lv_args 0 (st.take (ax.getD 1 0)).reverse) [] hp = some (o1, hp1) → cells + (hp1.1 - hp.1) ≤ R.cells → slots + (hp1.2.1 - hp.2.1) ≤ R.slots → vx_Run p l e R s m args below meth c H locs cells slots (hp1.1 - hp.1) (hp1.2.1 - hp.2.1) (F0 m pc ls (st.map (xv s0 adc))) ((st.drop (ax.getD 1 0)).map (xv s0 adc)) (xQc s0 adc L xs o1 hp1 #[]) (xXC s0 adc L xs o1 hp1) (xfree s0) := by
              intro o1 hp1 hcall hc1 hs1
              exact S_call (xMet_of ih hgo hgw hcall hal) hgw hgo rfl rfl rfl rfl hckC hfr hG hR hl.1 hd hst2 hna hcat hrc (by omega) (by omega) hc1 hs1
            split at h
            · exact absurd h (by simp)
            · -- it returns
              rename_i v hp1 hcall
              have g1 := xrun_grow xtab _ _ _ _ _ _ _ _ _ hcall
              have g2 := xrun_grow xtab _ _ _ _ _ _ _ _ _ h
              obtain ⟨e1, he1⟩ := hex _ _ _ _ _ _ h
              refine S_after (run _ _ hcall (by omega) (by omega)) hlk (fun v' H1 locs1 ho hR1 hl1 => ?_) (fun ei H1 locs1 q ce ho => nomatch ho)
              cases ho
              have K := ih (d + 1) k (j + 1) lv _ hp1 o hpf h hok p e R s m args below meth c H1 locs1 (cells + (hp1.1 - hp.1)) (slots + (hp1.2.1 - hp.2.1)) ls e1 hfr hR1 hl1 hl he1 hRf hRl (by omega) (by omega)
              rw [hn e1 he1, List.map_append] at K
              cases v <;> exact K
            · -- it throws
              rename_i E hp1 hcall
              have g1 := xrun_grow xtab _ _ _ _ _ _ _ _ _ hcall
              have hp1f : hp1.1 ≤ hpf.1 ∧ hp1.2.1 ≤ hpf.2.1 := by
                split at h
                · cases h
                  exact ⟨Nat.le_refl _, Nat.le_refl _⟩
                · exact xrun_grow xtab _ _ _ _ _ _ _ _ _ h
              refine S_after (run _ _ hcall (by omega) (by omega)) hlk (fun v' H1 locs1 ho => nomatch ho) (fun ei H1 locs1 q ce ho hei hR1 hl1 hcell hcv hcls => ?_)
              cases ho
              have hpass : ∀ z : ExceptionTableEntry, z ∈ tableOf (xinf k).2.2.2.1 → (covers z pc = false ∨ ∃ a, a < 3 ∧ a ≠ E ∧ z.catchType = 13 + 2 * a) → covers z pc = false ∨ (z.catchType ≠ 0 ∧ ∃ nm : String, (Jvm.Cond.classLink (xinf k).1.cls z.catchType nm).before args s = true ∧ va_Nc (xexn E) nm s) := by
                intro z hz hz2
                rcases hz2 with hz2 | ⟨a, ha, hne, hct⟩
                · exact Or.inl hz2
                · rw [o4] at hz; cases hz
              rcases xcatch_at (pc := pc) hei _ _ o3 with ⟨q1, q2⟩ | ⟨v, t, pre, x, suf, e2, e3, q1, q2, q3, q4, q5, q6, q7, q8, q9, q10⟩
              · rw [q1] at h
                cases h
                exact vx_outP hown hlocks (by rw [htab]; exact fun z hz => hpass z hz (q2 z hz)) hcell hcv hcls (fun t ht _ => ⟨E, rfl, hei, rfl, by rw [ht]; exact hR1⟩) hl1 (by omega) (by omega)
              · rw [q1] at h
                rw [o4] at q2
                exact absurd q2 (by simp [tableOf])
        · exact absurd h (by simp)
    · -- a return
      have hlen : len = 1 := eq_of_beq hck
      subst hlen
      split at h
      · rename_i v hv
        cases h
        exact S_ret hx hb (by rw [hret]; exact o2) hlocks hd hv hR hlk (by omega) (by omega)
      · exact absurd h (by simp)
    · -- a throw
      split at h
      · exact absurd h (by simp)
      · split at h
        · rename_i hsum
          cases h
          simp only [Bool.and_eq_true, beq_iff_eq] at hck
          obtain ⟨rfl, hck⟩ := hck
          have hcs : (xinf k).1.cls = "SlowTunes" := by
            unfold xkT5 at hck
            split at hck
            · simp only [Bool.and_eq_true, decide_eq_true_eq] at hck
              exact hck.1.1
            · exact absurd hck (by simp)
          have hhh : (xinf k).2.2.2.1 = [] := o4
          have hh1 : (xbare hp 6).1 = hp.1 + 1 ∧ (xbare hp 6).2.1 = hp.2.1 + 6 := ⟨rfl, rfl⟩
          refine S_throw (own := (xinf k).1.cls) hthr hst hx hb (by rw [hml]; exact hl.1.symm) hown hlocks hW hG hGx (fun j z hz => ?_) hck (by rw [htab, hhh]; rfl) hsum hR hlk (by omega) (by omega) (by omega) (by omega) hd
          have h9 := o1 j z hz
          obtain ⟨a1, a2, a3, a4, a5, a6⟩ := z
          simp only [xkE, Bool.and_eq_true, decide_eq_true_eq] at h9
          exact h9.1.1
        · exact absurd h (by simp)
    · -- all else
      rename_i k1 k2 k3
      split at h
      · exact absurd h (by simp)
      · rename_i j' lv' st' hp' hs
        have g1 := xstp_grow hs
        have g2 := xrun_grow xtab _ _ _ _ _ _ _ _ _ h
        obtain ⟨e1, he1⟩ := hex _ _ _ _ _ _ h
        exact snd_step hcl hx hb hml hown hname hW hG hR hlk hl (by omega) (by omega) hck0 hrest k1 k2 k3 (by omega) (by omega) hs he1 (by omega) (by omega) (fun H1 locs1 ls1 r1 r2 r3 =>
          ih d k j' lv' st' hp' o hpf h hok p e R s m args below meth c H1 locs1 _ _ ls1 e1 hfr r1 r2 r3 he1 hRf hRl (by omega) (by omega))
end SV
