/-! The words of a work: their letters. -/
/-- an array of bytes -/
def yB (n : Nat) (f : Int → Int) : xC := .inl (.byte, n, fun q => yi (f (q : Int)))
def wls (w : Nat) : List Int := match w with
  | 0 => [115, 105, 110, 103]
  | 1 => [114, 97, 105, 115, 101]
  | 2 => [108, 111, 119, 101, 114]
  | 3 => [115, 108, 111, 119]
  | 4 => [102, 108, 105, 112]
  | 5 => [98, 111, 117, 110, 100]
  | 6 => [104, 111, 108, 100]
  | _ => [106, 117, 100, 103, 101]
def wln (w : Nat) : Nat := (wls w).length
def wb (w : Nat) (i : Int) : Int := (wls w).getD i.toNat 0
def wl (w : Nat) (i : Int) : Int := if 0 ≤ i ∧ i < (wln w : Int) then wb w i else -1
def wht (w : Nat) : Int := if w < 5 then 1 else 0
def whn (w : Nat) : Int := if w = 3 ∨ w = 4 then 0 else 1
def wlo (w : Nat) : Int := if w = 1 ∨ w = 2 then 1 else 0
def whi (w : Nat) : Int := [60, 12, 12, 0, 0, 20, 50, 3].getD w 0
/-- the cells of the start that never change -/
def yC (hp : xH) : Prop := ∀ k, k < 25 → xat hp k = xcst 0 (fun _ => 0) k
theorem yC.wd {hp : xH} (h : yC hp) {w : Nat} (hw : w < 8) : xat hp w = some (.inr (10, [.ref (8 + w), yi (wht w), yi (whn w), yi (wlo w), yi (whi w)])) := by
  rw [h w (by omega)]
  match w, hw with
  | 0, _ => rfl
  | 1, _ => rfl
  | 2, _ => rfl
  | 3, _ => rfl
  | 4, _ => rfl
  | 5, _ => rfl
  | 6, _ => rfl
  | 7, _ => rfl
theorem yC.ws {hp : xH} (h : yC hp) {w : Nat} (hw : w < 8) : xat hp (8 + w) = some (.inr (11, [.ref (16 + w), yi 0])) := by
  rw [h (8 + w) (by omega)]
  match w, hw with
  | 0, _ => rfl
  | 1, _ => rfl
  | 2, _ => rfl
  | 3, _ => rfl
  | 4, _ => rfl
  | 5, _ => rfl
  | 6, _ => rfl
  | 7, _ => rfl
theorem yB_eq {n : Nat} {f : Nat → Int32} {w : Nat} (hn : n = wln w) (hf : ∀ q : Nat, f q = iN ((wls w).getD q 0)) : some (Sum.inl (FieldType.byte, n, fun j => Value.int (f j)) : xC) = some (yB (wln w) (wb w)) := by
  subst hn
  unfold yB wb
  congr 4
  funext q
  rw [hf q]
  rfl
theorem yC.wb {hp : xH} (h : yC hp) {w : Nat} (hw : w < 8) : xat hp (16 + w) = some (yB (wln w) (wb w)) := by
  rw [h (16 + w) (by omega)]
  match w, hw with
  | 0, _ => exact yB_eq (w := 0) rfl (fun q => match q with | 0 => rfl | 1 => rfl | 2 => rfl | 3 => rfl | _ + 4 => rfl)
  | 1, _ => exact yB_eq (w := 1) rfl (fun q => match q with | 0 => rfl | 1 => rfl | 2 => rfl | 3 => rfl | 4 => rfl | _ + 5 => rfl)
  | 2, _ => exact yB_eq (w := 2) rfl (fun q => match q with | 0 => rfl | 1 => rfl | 2 => rfl | 3 => rfl | 4 => rfl | _ + 5 => rfl)
  | 3, _ => exact yB_eq (w := 3) rfl (fun q => match q with | 0 => rfl | 1 => rfl | 2 => rfl | 3 => rfl | _ + 4 => rfl)
  | 4, _ => exact yB_eq (w := 4) rfl (fun q => match q with | 0 => rfl | 1 => rfl | 2 => rfl | 3 => rfl | _ + 4 => rfl)
  | 5, _ => exact yB_eq (w := 5) rfl (fun q => match q with | 0 => rfl | 1 => rfl | 2 => rfl | 3 => rfl | 4 => rfl | _ + 5 => rfl)
  | 6, _ => exact yB_eq (w := 6) rfl (fun q => match q with | 0 => rfl | 1 => rfl | 2 => rfl | 3 => rfl | _ + 4 => rfl)
  | 7, _ => exact yB_eq (w := 7) rfl (fun q => match q with | 0 => rfl | 1 => rfl | 2 => rfl | 3 => rfl | 4 => rfl | _ + 5 => rfl)
theorem yC.w24 {hp : xH} (h : yC hp) : xat hp 24 = some (.inl (.object "SlowTunes$Word", 8, fun j => .ref j)) := h 24 (by decide)
theorem wln_rng {w : Nat} (hw : w < 8) : 4 ≤ wln w ∧ wln w ≤ 5 := by
  have : ∀ w : Fin 8, 4 ≤ wln w.val ∧ wln w.val ≤ 5 := by decide
  exact this ⟨w, hw⟩
theorem wb_rng {w : Nat} (hw : w < 8) {i : Int} (hi : 0 ≤ i ∧ i < (wln w : Int)) : 97 ≤ wb w i ∧ wb w i ≤ 122 := by
  have g : ∀ w : Fin 8, ∀ i : Fin 5, i.val < wln w.val → 97 ≤ wb w.val (i.val : Int) ∧ wb w.val (i.val : Int) ≤ 122 := by decide +kernel
  have r := wln_rng hw
  have q := g ⟨w, hw⟩ ⟨i.toNat, by omega⟩ (by show i.toNat < wln w; omega)
  have e : ((i.toNat : Nat) : Int) = i := Int.toNat_of_nonneg hi.1
  dsimp only at q
  rw [e] at q
  exact q
theorem wnum_rng {w : Nat} (hw : w < 8) : (wht w = 0 ∨ wht w = 1) ∧ (whn w = 0 ∨ whn w = 1) ∧ 0 ≤ wlo w ∧ wlo w ≤ 1 ∧ 0 ≤ whi w ∧ whi w ≤ 60 := by
  have : ∀ w : Fin 8, (wht w.val = 0 ∨ wht w.val = 1) ∧ (whn w.val = 0 ∨ whn w.val = 1) ∧ 0 ≤ wlo w.val ∧ wlo w.val ≤ 1 ∧ 0 ≤ whi w.val ∧ whi w.val ≤ 60 := by decide +kernel
  exact this ⟨w, hw⟩
theorem wl_in {w : Nat} {i : Int} (h : 0 ≤ i ∧ i < (wln w : Int)) : wl w i = wb w i := if_pos h
theorem wl_out {w : Nat} {i : Int} (h : ¬ (0 ≤ i ∧ i < (wln w : Int))) : wl w i = -1 := if_neg h
theorem wl_rng {w : Nat} (hw : w < 8) (i : Int) : -1 ≤ wl w i ∧ wl w i ≤ 122 := by
  unfold wl
  split
  · rename_i h
    have := wb_rng hw h
    omega
  · omega
section EW
variable {d k j nL rk : Nat} {L : List xE} {hs : List xX} {lv : xL} {st : List Value} {hp : xH} {Q : xO → xH → Prop} {pc len : Nat} {ax r : List Nat} {cv : Value} {a : Int}
theorem Y_bald {r0 n : Nat} {f : Int → Int} (hi : 0 ≤ a ∧ a < n) (hN : n ≤ 2147483647) (hk : xtab k = (L, nL, rk, hs)) (he : L[j]? = some (pc, 7, .baload, len, ax, cv)) (ha : xat hp r0 = some (yB n f)) (kk : Ev d k (j + 1) lv (yi (f a) :: st) hp Q) : Ev d k j lv (yi a :: .ref r0 :: st) hp Q := by
  obtain ⟨h1, h2⟩ := vp_of hi hN
  have e : ((a.toNat : Nat) : Int) = a := Int.toNat_of_nonneg hi.1
  refine E_step hk he (by decide) (by decide) (by decide) ?_ kk
  have ha : hp.2.2 r0 = some (.inl (.byte, n, fun q => yi (f (q : Int)))) := ha
  simp only [xstp, xsB, ha, xin_of h1, h2, ↓reduceIte, e]
theorem Y_alenB {r0 n : Nat} {f : Int → Int} (hN : n ≤ 2147483647) (hk : xtab k = (L, nL, rk, hs)) (he : L[j]? = some (pc, 7, .arraylength, len, ax, cv)) (ha : xat hp r0 = some (yB n f)) (kk : Ev d k (j + 1) lv (yi (n : Int) :: st) hp Q) : Ev d k j lv (.ref r0 :: st) hp Q := by
  refine E_alen hk he ha ?_
  rw [show nI n = iN (n : Int) from by unfold nI iN; first | exact Int32.ofInt_eq_ofNat.symm | exact (Int32.ofInt_eq_ofNat n).symm | rfl | simp]
  exact kk
theorem byt_and : ∀ n : Fin 256, iN (n.val : Int) &&& iN 255 = iN (n.val : Int) := by decide +kernel
theorem byt_chr : ∀ n : Fin 256, ((iN (n.val : Int)).toUInt32 % 65536).toInt32 = iN (n.val : Int) := by decide +kernel
theorem byt_shr : ∀ n : Fin 256, iN (n.val : Int) >>> (iN 0 &&& 31) = iN (n.val : Int) := by decide +kernel
theorem byt_of {P : Int → Prop} (h : ∀ n : Fin 256, P (n.val : Int)) {x : Int} (hx : 0 ≤ x ∧ x ≤ 255) : P x := by
  have q := h ⟨x.toNat, by omega⟩
  have e : ((x.toNat : Nat) : Int) = x := Int.toNat_of_nonneg hx.1
  dsimp only at q
  rw [e] at q
  exact q
theorem Y_and255 (hx : 0 ≤ a ∧ a ≤ 255) (hk : xtab k = (L, nL, rk, hs)) (he : L[j]? = some (pc, 0, .iand, len, ax, cv)) (kk : Ev d k (j + 1) lv (yi a :: st) hp Q) : Ev d k j lv (yi 255 :: yi a :: st) hp Q := by
  refine E_step hk he (by decide) (by decide) (by decide) ?_ kk
  show some (j + 1, lv, Value.int (iN a &&& iN 255) :: st, hp) = some (j + 1, lv, Value.int (iN a) :: st, hp)
  rw [byt_of (P := fun x => iN x &&& iN 255 = iN x) byt_and hx]
theorem Y_chr (hx : 0 ≤ a ∧ a ≤ 255) (hk : xtab k = (L, nL, rk, hs)) (he : L[j]? = some (pc, 0, .i2c, len, ax, cv)) (kk : Ev d k (j + 1) lv (yi a :: st) hp Q) : Ev d k j lv (yi a :: st) hp Q := by
  refine E_step hk he (by decide) (by decide) (by decide) ?_ kk
  show some (j + 1, lv, Value.int ((iN a).toUInt32 % 65536).toInt32 :: st, hp) = some (j + 1, lv, Value.int (iN a) :: st, hp)
  rw [byt_of (P := fun x => ((iN x).toUInt32 % 65536).toInt32 = iN x) byt_chr hx]
theorem Y_shr0 (hx : 0 ≤ a ∧ a ≤ 255) (hk : xtab k = (L, nL, rk, hs)) (he : L[j]? = some (pc, 0, .ishr, len, ax, cv)) (kk : Ev d k (j + 1) lv (yi a :: st) hp Q) : Ev d k j lv (yi 0 :: yi a :: st) hp Q := by
  refine E_step hk he (by decide) (by decide) (by decide) ?_ kk
  show some (j + 1, lv, Value.int (iN a >>> (iN 0 &&& 31)) :: st, hp) = some (j + 1, lv, Value.int (iN a) :: st, hp)
  rw [byt_of (P := fun x => iN x >>> (iN 0 &&& 31) = iN x) byt_shr hx]
theorem xret_ch {x : Int} (hx : 0 ≤ x ∧ x ≤ 255) : xret 7 .ireturn [yi x] = some (some (yi x)) := by
  show (if ((iN x).toUInt32 % 65536).toInt32 = iN x then some (some (Value.int (iN x))) else none) = some (some (Value.int (iN x)))
  rw [if_pos (byt_of (P := fun x => ((iN x).toUInt32 % 65536).toInt32 = iN x) byt_chr hx)]
theorem Y_ac_eq {c b t : Nat} {off : Int} {x y : xC} (h8 : c < 8 ∧ b < 8) (hk : xtab k = (L, nL, rk, hs)) (he : L[j]? = some (pc, 7, .if_acmp .eq off, len, [t], cv)) (hc : xat hp c = some x) (hb : xat hp b = some y) (kt : c = b → Ev d k t lv st hp Q) (kf : c ≠ b → Ev d k (j + 1) lv st hp Q) : Ev d k j lv (.ref b :: .ref c :: st) hp Q := by
  have hc : hp.2.2 c = some x := hc
  have hb : hp.2.2 b = some y := hb
  by_cases h : c = b
  · refine E_step hk he (by decide) (by decide) (by decide) ?_ (kt h)
    simp [xstp, xsB, xjmp, h]
  · refine E_step hk he (by decide) (by decide) (by decide) ?_ (kf h)
    simp [xstp, xsB, xjmp, h, h8.1, h8.2, hc, hb]
theorem Y_ac_ne {c b t : Nat} {off : Int} {x y : xC} (h8 : c < 8 ∧ b < 8) (hk : xtab k = (L, nL, rk, hs)) (he : L[j]? = some (pc, 7, .if_acmp .ne off, len, [t], cv)) (hc : xat hp c = some x) (hb : xat hp b = some y) (kt : c ≠ b → Ev d k t lv st hp Q) (kf : c = b → Ev d k (j + 1) lv st hp Q) : Ev d k j lv (.ref b :: .ref c :: st) hp Q := by
  have hc : hp.2.2 c = some x := hc
  have hb : hp.2.2 b = some y := hb
  by_cases h : c = b
  · refine E_step hk he (by decide) (by decide) (by decide) ?_ (kf h)
    simp [xstp, xsB, xjmp, h]
  · refine E_step hk he (by decide) (by decide) (by decide) ?_ (kt h)
    simp [xstp, xsB, xjmp, h, h8.1, h8.2, hc, hb]
end EW
theorem yC.fr {h h' : xH} (C : yC h) {K : List Nat} (f : yfr K h h') (hK : ∀ i ∈ K, 25 ≤ i) : yC h' := fun i hi => (f.2.2 i (fun q => by have := hK i q; omega)).trans (C i hi)
theorem yC.fz {h h' : xH} (C : yC h) {K : List Nat} (f : yfz K h h') (hK : ∀ i ∈ K, 25 ≤ i) : yC h' := fun i hi => (f.2.2.2.1 i (by omega) (fun q => by have := hK i q; omega)).trans (C i hi)
theorem c_J0_coder_7d493 {d : Nat} {hp : xH} (hC : yC hp) {w : Nat} (hw : w < 8) : Cv d 254 [.ref (8 + w)] hp (yP (some (yi 0)) hp) := by
  have hk : xtab 254 = (xc_254, 1, 6, []) := rfl
  have wr := wln_rng hw
  show Ev d 254 0 [(0, .ref (8 + w))] [] hp _
  refine E_gets hk rfl ?_
  refine Y_if_eq (a := 1) (by omega) hk rfl (fun g1 => ?_) (fun g1 => ?_)
  · exfalso; omega
  ·
    refine E_run hk 1 (j' := 3) (lv' := [(0, .ref (8 + w))]) (st' := [.ref (8 + w)]) (hp' := hp) rfl ?_
    refine E_get (v := yi 0) hk rfl (hC.ws (w := w) (by omega)) rfl ?_
    refine E_run hk 1 (j' := 6) (lv' := [(0, .ref (8 + w))]) (st' := [yi 0]) (hp' := hp) rfl ?_
    exact E_ret hk rfl rfl ⟨rfl, rfl⟩
theorem c_J0_isLatin1_aae02 {d : Nat} {hp : xH} (hC : yC hp) {w : Nat} (hw : w < 8) : Cv d 255 [.ref (8 + w)] hp (yP (some (yi 1)) hp) := by
  have hk : xtab 255 = (xc_255, 1, 2, []) := rfl
  have wr := wln_rng hw
  show Ev d 255 0 [(0, .ref (8 + w))] [] hp _
  refine E_gets hk rfl ?_
  refine Y_if_eq (a := 1) (by omega) hk rfl (fun g1 => ?_) (fun g1 => ?_)
  · exfalso; omega
  ·
    refine E_run hk 1 (j' := 3) (lv' := [(0, .ref (8 + w))]) (st' := [.ref (8 + w)]) (hp' := hp) rfl ?_
    refine E_get (v := yi 0) hk rfl (hC.ws (w := w) (by omega)) rfl ?_
    refine Y_if_ne (a := 0) (by omega) hk rfl (fun g2 => ?_) (fun g2 => ?_)
    · exfalso; omega
    ·
      refine E_run hk 2 (j' := 8) (lv' := [(0, .ref (8 + w))]) (st' := [yi 1]) (hp' := hp) rfl ?_
      exact E_ret hk rfl rfl ⟨rfl, rfl⟩
theorem c_J0_length_8abf5 {d : Nat} {hp : xH} (hC : yC hp) {w : Nat} (hw : w < 8) (hd : 1 ≤ d) : Cv d 252 [.ref (8 + w)] hp (yP (some (yi (wln w))) hp) := by
  have hk : xtab 252 = (xc_252, 1, 1, []) := rfl
  obtain ⟨d, rfl⟩ : ∃ e, d = e + 1 := ⟨d - 1, by omega⟩
  have wr := wln_rng hw
  show Ev (d + 1) 252 0 [(0, .ref (8 + w))] [] hp _
  refine E_run hk 1 (j' := 1) (lv' := [(0, .ref (8 + w))]) (st' := [.ref (8 + w)]) (hp' := hp) rfl ?_
  refine E_get (v := .ref (16 + w)) hk rfl (hC.ws (w := w) (by omega)) rfl ?_
  refine Y_alenB (by omega) hk rfl (hC.wb (w := w) (by omega)) ?_
  refine E_run hk 1 (j' := 4) (lv' := [(0, .ref (8 + w))]) (st' := [.ref (8 + w), yi (wln w)]) (hp' := hp) rfl ?_
  refine Y_callP hk rfl (as := [.ref (8 + w)]) (rest := [yi (wln w)]) (v := some (yi 0)) rfl rfl (Nat.le_of_ble_eq_true rfl) (rcv0 (hC.ws (w := w) (by omega))) (Nat.le_of_ble_eq_true rfl) (c_J0_coder_7d493 hC (w := w) (by omega)) ?_
  refine Y_shr0 (a := (wln w)) (by omega) hk rfl ?_
  exact E_ret hk rfl rfl ⟨rfl, rfl⟩
theorem c_checkIndexF {d : Nat} {hp : xH} {i n : Int} (hi : 0 ≤ i ∧ i < n ∧ n ≤ 100) : Cv d 271 [yi i, yi n, .ref 27] hp (yP (some (yi i)) hp) := by
  have hk : xtab 271 = (xc_271, 3, 1, []) := rfl
  show Ev d 271 0 [(0, yi i), (1, yi n), (2, .ref 27)] [] hp _
  refine E_run hk 1 (j' := 1) (lv' := [(0, yi i), (1, yi n), (2, .ref 27)]) (st' := [yi i]) (hp' := hp) rfl ?_
  refine Y_if_lt (a := i) (by omega) hk rfl (fun g1 => ?_) (fun g1 => ?_)
  · exfalso; omega
  ·
    refine E_run hk 2 (j' := 4) (lv' := [(0, yi i), (1, yi n), (2, .ref 27)]) (st' := [yi n, yi i]) (hp' := hp) rfl ?_
    refine Y_ic_lt (a := i) (b := n) (by omega) hk rfl (fun g2 => ?_) (fun g2 => ?_)
    ·
      refine E_run hk 1 (j' := 11) (lv' := [(0, yi i), (1, yi n), (2, .ref 27)]) (st' := [yi i]) (hp' := hp) rfl ?_
      exact E_ret hk rfl rfl ⟨rfl, rfl⟩
    · exfalso; omega
theorem c_J0_checkIndex_df160 {d : Nat} {hp : xH} {i n : Int} (hi : 0 ≤ i ∧ i < n ∧ n ≤ 100) (hd : 1 ≤ d) : Cv d 256 [yi i, yi n] hp (yP none hp) := by
  have hk : xtab 256 = (xc_256, 2, 0, []) := rfl
  obtain ⟨d, rfl⟩ : ∃ e, d = e + 1 := ⟨d - 1, by omega⟩
  show Ev (d + 1) 256 0 [(0, yi i), (1, yi n)] [] hp _
  refine E_run hk 2 (j' := 2) (lv' := [(0, yi i), (1, yi n)]) (st' := [yi n, yi i]) (hp' := hp) rfl ?_
  refine E_gets hk rfl ?_
  refine Y_callP hk rfl (as := [yi i, yi n, .ref 27]) (rest := []) (v := some (yi i)) rfl rfl (Nat.le_of_ble_eq_true rfl) rfl (Nat.le_of_ble_eq_true rfl) (c_checkIndexF (i := i) (n := n) (by omega)) ?_
  refine E_run hk 1 (j' := 5) (lv' := [(0, yi i), (1, yi n)]) (st' := []) (hp' := hp) rfl ?_
  exact E_ret hk rfl rfl ⟨rfl, rfl⟩
theorem c_J1_charAt_3b067 {d : Nat} {hp : xH} (hC : yC hp) {w : Nat} (hw : w < 8) {i : Int} (hi : 0 ≤ i ∧ i < (wln w : Int)) (hd : 2 ≤ d) : Cv d 257 [.ref (16 + w), yi i] hp (yP (some (yi (wb w i))) hp) := by
  have hk : xtab 257 = (xc_257, 2, 7, []) := rfl
  obtain ⟨d, rfl⟩ : ∃ e, d = e + 1 := ⟨d - 1, by omega⟩
  have wr := wln_rng hw
  have br := wb_rng hw hi
  show Ev (d + 1) 257 0 [(0, .ref (16 + w)), (1, yi i)] [] hp _
  refine E_run hk 2 (j' := 2) (lv' := [(0, .ref (16 + w)), (1, yi i)]) (st' := [.ref (16 + w), yi i]) (hp' := hp) rfl ?_
  refine Y_alenB (by omega) hk rfl (hC.wb (w := w) (by omega)) ?_
  refine Y_callP hk rfl (as := [yi i, yi (wln w)]) (rest := []) (v := none) rfl rfl (Nat.le_of_ble_eq_true rfl) rfl (Nat.le_of_ble_eq_true rfl) (c_J0_checkIndex_df160 (i := i) (n := (wln w)) (by omega) (hd := by omega)) ?_
  refine E_run hk 2 (j' := 6) (lv' := [(0, .ref (16 + w)), (1, yi i)]) (st' := [yi i, .ref (16 + w)]) (hp' := hp) rfl ?_
  refine Y_bald (a := i) (by omega) (by omega) hk rfl (hC.wb (w := w) (by omega)) ?_
  refine E_run hk 1 (j' := 8) (lv' := [(0, .ref (16 + w)), (1, yi i)]) (st' := [yi 255, yi ((wb w) i)]) (hp' := hp) rfl ?_
  refine Y_and255 (a := ((wb w) i)) (by omega) hk rfl ?_
  refine Y_chr (a := ((wb w) i)) (by omega) hk rfl ?_
  exact E_ret hk rfl (xret_ch (by omega)) ⟨rfl, rfl⟩
theorem c_J0_charAt_5068e {d : Nat} {hp : xH} (hC : yC hp) {w : Nat} (hw : w < 8) {i : Int} (hi : 0 ≤ i ∧ i < (wln w : Int)) (hd : 3 ≤ d) : Cv d 253 [.ref (8 + w), yi i] hp (yP (some (yi (wb w i))) hp) := by
  have hk : xtab 253 = (xc_253, 2, 7, []) := rfl
  obtain ⟨d, rfl⟩ : ∃ e, d = e + 1 := ⟨d - 1, by omega⟩
  have wr := wln_rng hw
  have br := wb_rng hw hi
  show Ev (d + 1) 253 0 [(0, .ref (8 + w)), (1, yi i)] [] hp _
  refine E_run hk 1 (j' := 1) (lv' := [(0, .ref (8 + w)), (1, yi i)]) (st' := [.ref (8 + w)]) (hp' := hp) rfl ?_
  refine Y_callP hk rfl (as := [.ref (8 + w)]) (rest := []) (v := some (yi 1)) rfl rfl (Nat.le_of_ble_eq_true rfl) (rcv0 (hC.ws (w := w) (by omega))) (Nat.le_of_ble_eq_true rfl) (c_J0_isLatin1_aae02 hC (w := w) (by omega)) ?_
  refine Y_if_eq (a := 1) (by omega) hk rfl (fun g1 => ?_) (fun g1 => ?_)
  · exfalso; omega
  ·
    refine E_run hk 1 (j' := 4) (lv' := [(0, .ref (8 + w)), (1, yi i)]) (st' := [.ref (8 + w)]) (hp' := hp) rfl ?_
    refine E_get (v := .ref (16 + w)) hk rfl (hC.ws (w := w) (by omega)) rfl ?_
    refine E_run hk 1 (j' := 6) (lv' := [(0, .ref (8 + w)), (1, yi i)]) (st' := [yi i, .ref (16 + w)]) (hp' := hp) rfl ?_
    refine Y_callP hk rfl (as := [.ref (16 + w), yi i]) (rest := []) (v := some (yi (wb w i))) rfl rfl (Nat.le_of_ble_eq_true rfl) rfl (Nat.le_of_ble_eq_true rfl) (c_J1_charAt_3b067 hC (w := w) (by omega) (i := i) (by omega) (hd := by omega)) ?_
    exact E_ret hk rfl (xret_ch (by omega)) ⟨rfl, rfl⟩
theorem c_X7_letterAt {d : Nat} {hp : xH} (hC : yC hp) {w : Nat} (hw : w < 8) {i : Int} (hi : -2147483648 ≤ i ∧ i ≤ 2147483647) (hd : 4 ≤ d) : Cv d 68 [.ref w, yi i] hp (yP (some (yi (wl w i))) hp) := by
  have hk : xtab 68 = (xc_68, 2, 1, []) := rfl
  obtain ⟨d, rfl⟩ : ∃ e, d = e + 1 := ⟨d - 1, by omega⟩
  have wr := wln_rng hw
  show Ev (d + 1) 68 0 [(0, .ref w), (1, yi i)] [] hp _
  refine E_run hk 1 (j' := 1) (lv' := [(0, .ref w), (1, yi i)]) (st' := [yi i]) (hp' := hp) rfl ?_
  refine Y_if_lt (a := i) (by omega) hk rfl (fun g1 => ?_) (fun g1 => ?_)
  ·
    refine E_run hk 1 (j' := 13) (lv' := [(0, .ref w), (1, yi i)]) (st' := [yi (-1)]) (hp' := hp) rfl ?_
    exact E_ret hk rfl rfl ⟨by rw [wl_out (by omega)], rfl⟩
  ·
    refine E_run hk 2 (j' := 4) (lv' := [(0, .ref w), (1, yi i)]) (st' := [.ref w, yi i]) (hp' := hp) rfl ?_
    refine E_get (v := .ref (8 + w)) hk rfl (hC.wd (w := w) (by omega)) rfl ?_
    refine Y_callP hk rfl (as := [.ref (8 + w)]) (rest := [yi i]) (v := some (yi (wln w))) rfl rfl (Nat.le_of_ble_eq_true rfl) (rcv0 (hC.ws (w := w) (by omega))) (Nat.le_of_ble_eq_true rfl) (c_J0_length_8abf5 hC (w := w) (by omega) (hd := by omega)) ?_
    refine Y_ic_ge (a := i) (b := (wln w)) (by omega) hk rfl (fun g2 => ?_) (fun g2 => ?_)
    ·
      refine E_run hk 1 (j' := 13) (lv' := [(0, .ref w), (1, yi i)]) (st' := [yi (-1)]) (hp' := hp) rfl ?_
      exact E_ret hk rfl rfl ⟨by rw [wl_out (by omega)], rfl⟩
    ·
      refine E_run hk 1 (j' := 8) (lv' := [(0, .ref w), (1, yi i)]) (st' := [.ref w]) (hp' := hp) rfl ?_
      refine E_get (v := .ref (8 + w)) hk rfl (hC.wd (w := w) (by omega)) rfl ?_
      refine E_run hk 1 (j' := 10) (lv' := [(0, .ref w), (1, yi i)]) (st' := [yi i, .ref (8 + w)]) (hp' := hp) rfl ?_
      refine Y_callP hk rfl (as := [.ref (8 + w), yi i]) (rest := []) (v := some (yi (wb w i))) rfl rfl (Nat.le_of_ble_eq_true rfl) (rcv0 (hC.ws (w := w) (by omega))) (Nat.le_of_ble_eq_true rfl) (c_J0_charAt_5068e hC (w := w) (by omega) (i := i) (by omega) (hd := by omega)) ?_
      refine E_run hk 1 (j' := 13) (lv' := [(0, .ref w), (1, yi i)]) (st' := [yi (wb w i)]) (hp' := hp) rfl ?_
      exact E_ret hk rfl rfl ⟨by rw [wl_in (by omega)], rfl⟩
