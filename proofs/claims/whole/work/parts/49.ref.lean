/-- how many of the first ones are x -/
def cnt (f : Int → Int) (x : Int) : Nat → Int
  | 0 => 0
  | k + 1 => cnt f x k + (if f (k : Int) = x then 1 else 0)
theorem cnt_s {f : Int → Int} {x i : Int} (h : 0 ≤ i) : cnt f x (i + 1).toNat = cnt f x i.toNat + (if f i = x then 1 else 0) := by
  rw [show (i + 1).toNat = i.toNat + 1 by omega]
  show cnt f x i.toNat + (if f ((i.toNat : Nat) : Int) = x then 1 else 0) = _
  rw [show ((i.toNat : Nat) : Int) = i by omega]
theorem cnt_rng (f : Int → Int) (x : Int) : ∀ n : Nat, 0 ≤ cnt f x n ∧ cnt f x n ≤ n := by
  intro n
  induction n with
  | zero => exact ⟨Int.le_refl 0, Int.le_refl 0⟩
  | succ n ih =>
    show 0 ≤ cnt f x n + (if f (n : Int) = x then 1 else 0) ∧ cnt f x n + (if f (n : Int) = x then 1 else 0) ≤ _
    split <;> omega
/-- the most that one of the first ones is met -/
def lng (f : Int → Int) (c : Nat) : Nat → Int
  | 0 => 0
  | k + 1 => if lng f c k < cnt f (k : Int) c then cnt f (k : Int) c else lng f c k
theorem lng_s {f : Int → Int} {c : Nat} {i : Int} (h : 0 ≤ i) : lng f c (i + 1).toNat = if lng f c i.toNat < cnt f i c then cnt f i c else lng f c i.toNat := by
  rw [show (i + 1).toNat = i.toNat + 1 by omega]
  show (if lng f c i.toNat < cnt f ((i.toNat : Nat) : Int) c then cnt f ((i.toNat : Nat) : Int) c else lng f c i.toNat) = _
  rw [show ((i.toNat : Nat) : Int) = i by omega]
/-- how many times, of k + 1 pairs, a note is held -/
def hld (p q : Int → Int) : Nat → Int
  | 0 => 0
  | k + 1 => hld p q k + (if p ((k : Int) + 1) = p (k : Int) ∨ q ((k : Int) + 1) = q (k : Int) then 1 else 0)
theorem hld_s {p q : Int → Int} {i : Int} (h : 1 ≤ i) : hld p q (i + 1 - 1).toNat = hld p q (i - 1).toNat + (if p i = p (i - 1) ∨ q i = q (i - 1) then 1 else 0) := by
  rw [show (i + 1 - 1).toNat = (i - 1).toNat + 1 by omega]
  show hld p q (i - 1).toNat + (if p (((i - 1).toNat : Int) + 1) = p ((i - 1).toNat : Int) ∨ q (((i - 1).toNat : Int) + 1) = q ((i - 1).toNat : Int) then 1 else 0) = _
  rw [show (((i - 1).toNat : Nat) : Int) = i - 1 by omega, show i - 1 + 1 = i by omega]
/-- how many of n + 1 notes are above the one before -/
def ris (f : Int → Int) : Nat → Int
  | 0 => 0
  | k + 1 => ris f k + (if f (k : Int) < f ((k : Int) + 1) then 1 else 0)
theorem ris_s {f : Int → Int} {i : Int} (h : 1 ≤ i) : ris f (i + 1 - 1).toNat = ris f (i - 1).toNat + (if f (i - 1) < f i then 1 else 0) := by
  rw [show (i + 1 - 1).toNat = (i - 1).toNat + 1 by omega]
  show ris f (i - 1).toNat + (if f ((i - 1).toNat : Int) < f (((i - 1).toNat : Int) + 1) then 1 else 0) = _
  rw [show (((i - 1).toNat : Nat) : Int) = i - 1 by omega, show i - 1 + 1 = i by omega]
theorem c_X9_stretchOf {d : Nat} {hp : xH} {v : Nat → Int} (hM : xat hp 63 = some (yMo v)) {p q : Int → Int} (hp1 : xat hp 74 = some (yI 40 p)) (hp2 : xat hp 75 = some (yI 40 q)) {t x c : Int} (e0 : v 20 = c) (hc : 0 ≤ c ∧ c ≤ 40) (ht : 0 ≤ t ∧ t ≤ 1 ∧ -1 ≤ x ∧ x ≤ 20) (hq : ∀ y, 0 ≤ y → y < c → 0 ≤ p y ∧ p y ≤ 20 ∧ 0 ≤ q y ∧ q y ≤ 20) : Cv d 169 [.ref 63, yi t, yi x] hp (yP (some (yi (cnt (if t = 0 then p else q) x c.toNat))) hp) := by
  have hk : xtab 169 = (xc_169, 5, 1, []) := rfl
  show Ev d 169 0 [(0, .ref 63), (1, yi t), (2, yi x)] [] hp _
  refine E_run hk 4 (j' := 4) (lv' := [(4, yi 0), (3, yi 0), (0, .ref 63), (1, yi t), (2, yi x)]) (st' := []) (hp' := hp) rfl ?_
  have loop4 : ∀ (N : Nat) (i : Int) (n : Int), (0 ≤ i ∧ i ≤ c ∧ 0 ≤ n ∧ n ≤ i) → (n = cnt (if t = 0 then p else q) x i.toNat) → (c - i).toNat = N → Ev d 169 4 [(0, .ref 63), (1, yi t), (2, yi x), (3, yi n), (4, yi i)] [] hp (yP (some (yi (cnt (if t = 0 then p else q) x c.toNat))) hp) := by
    intro N
    induction N using Nat.strongRecOn with
    | ind N ih4 =>
      intro i n J1 J2 hm4
      refine E_run hk 1 (j' := 5) (lv' := [(0, .ref 63), (1, yi t), (2, yi x), (3, yi n), (4, yi i)]) (st' := [yi i]) (hp' := hp) rfl ?_
      refine E_run hk 1 (j' := 6) (lv' := [(0, .ref 63), (1, yi t), (2, yi x), (3, yi n), (4, yi i)]) (st' := [.ref 63, yi i]) (hp' := hp) rfl ?_
      refine E_get (v := yi (v 20)) hk rfl hM rfl ?_
      refine Y_ic_ge (a := i) (b := (v 20)) (by omega) hk rfl (fun g1 => ?_) (fun g1 => ?_)
      ·
        refine E_run hk 1 (j' := 30) (lv' := [(0, .ref 63), (1, yi t), (2, yi x), (3, yi n), (4, yi i)]) (st' := [yi n]) (hp' := hp) rfl ?_
        exact E_ret hk rfl rfl (li (by rw [show c = i by omega]; exact J2))
      ·
        have w1 := hq i (by omega) (by omega)
        refine E_run hk 2 (j' := 10) (lv' := [(0, .ref 63), (1, yi t), (2, yi x), (3, yi n), (4, yi i)]) (st' := [yi t, yi n]) (hp' := hp) rfl ?_
        refine Y_if_ne (a := t) (by omega) hk rfl (fun g2 => ?_) (fun g2 => ?_)
        ·
          refine E_run hk 1 (j' := 17) (lv' := [(0, .ref 63), (1, yi t), (2, yi x), (3, yi n), (4, yi i)]) (st' := [.ref 63, yi n]) (hp' := hp) rfl ?_
          refine E_get (v := .ref 75) hk rfl hM rfl ?_
          refine E_run hk 1 (j' := 19) (lv' := [(0, .ref 63), (1, yi t), (2, yi x), (3, yi n), (4, yi i)]) (st' := [yi i, .ref 75, yi n]) (hp' := hp) rfl ?_
          refine Y_iald (a := i) (by omega) (by decide) hk rfl hp2 ?_
          refine E_run hk 1 (j' := 21) (lv' := [(0, .ref 63), (1, yi t), (2, yi x), (3, yi n), (4, yi i)]) (st' := [yi x, yi (q i), yi n]) (hp' := hp) rfl ?_
          refine Y_ic_ne (a := (q i)) (b := x) (by omega) hk rfl (fun g3 => ?_) (fun g3 => ?_)
          ·
            refine E_run hk 1 (j' := 25) (lv' := [(0, .ref 63), (1, yi t), (2, yi x), (3, yi n), (4, yi i)]) (st' := [yi 0, yi n]) (hp' := hp) rfl ?_
            refine Y_iadd (a := n) (b := 0) hk rfl ?_
            refine E_run hk 1 (j' := 27) (lv' := [(3, yi (n + 0)), (0, .ref 63), (1, yi t), (2, yi x), (4, yi i)]) (st' := []) (hp' := hp) rfl ?_
            refine Y_iinc (a := i) (z := 1) hk rfl rfl rfl (by decide) (lv' := [(4, yi (i + 1)), (3, yi (n + 0)), (0, .ref 63), (1, yi t), (2, yi x)]) rfl ?_
            refine E_run hk 1 (j' := 4) (lv' := [(4, yi (i + 1)), (3, yi (n + 0)), (0, .ref 63), (1, yi t), (2, yi x)]) (st' := []) (hp' := hp) rfl ?_
            exact Ev_le (xle_s rfl rfl (xle_s rfl rfl (xle_s rfl rfl (xle_s rfl rfl (xle_s rfl rfl (xle_z _ rfl)))))) (ih4 _ (by omega) (i + 1) (n + 0)  (by omega) (by rw [cnt_s (by omega), ← J2]; first | (rw [if_pos (show t = 0 by omega)]; first | rw [if_pos (by omega)] | rw [if_neg (by omega)]) | (rw [if_neg (show ¬ t = 0 by omega)]; first | rw [if_pos (by omega)] | rw [if_neg (by omega)])) rfl)
          ·
            refine E_run hk 2 (j' := 25) (lv' := [(0, .ref 63), (1, yi t), (2, yi x), (3, yi n), (4, yi i)]) (st' := [yi 1, yi n]) (hp' := hp) rfl ?_
            refine Y_iadd (a := n) (b := 1) hk rfl ?_
            refine E_run hk 1 (j' := 27) (lv' := [(3, yi (n + 1)), (0, .ref 63), (1, yi t), (2, yi x), (4, yi i)]) (st' := []) (hp' := hp) rfl ?_
            refine Y_iinc (a := i) (z := 1) hk rfl rfl rfl (by decide) (lv' := [(4, yi (i + 1)), (3, yi (n + 1)), (0, .ref 63), (1, yi t), (2, yi x)]) rfl ?_
            refine E_run hk 1 (j' := 4) (lv' := [(4, yi (i + 1)), (3, yi (n + 1)), (0, .ref 63), (1, yi t), (2, yi x)]) (st' := []) (hp' := hp) rfl ?_
            exact Ev_le (xle_s rfl rfl (xle_s rfl rfl (xle_s rfl rfl (xle_s rfl rfl (xle_s rfl rfl (xle_z _ rfl)))))) (ih4 _ (by omega) (i + 1) (n + 1)  (by omega) (by rw [cnt_s (by omega), ← J2]; first | (rw [if_pos (show t = 0 by omega)]; first | rw [if_pos (by omega)] | rw [if_neg (by omega)]) | (rw [if_neg (show ¬ t = 0 by omega)]; first | rw [if_pos (by omega)] | rw [if_neg (by omega)])) rfl)
        ·
          refine E_run hk 1 (j' := 12) (lv' := [(0, .ref 63), (1, yi t), (2, yi x), (3, yi n), (4, yi i)]) (st' := [.ref 63, yi n]) (hp' := hp) rfl ?_
          refine E_get (v := .ref 74) hk rfl hM rfl ?_
          refine E_run hk 1 (j' := 14) (lv' := [(0, .ref 63), (1, yi t), (2, yi x), (3, yi n), (4, yi i)]) (st' := [yi i, .ref 74, yi n]) (hp' := hp) rfl ?_
          refine Y_iald (a := i) (by omega) (by decide) hk rfl hp1 ?_
          refine E_run hk 2 (j' := 21) (lv' := [(0, .ref 63), (1, yi t), (2, yi x), (3, yi n), (4, yi i)]) (st' := [yi x, yi (p i), yi n]) (hp' := hp) rfl ?_
          refine Y_ic_ne (a := (p i)) (b := x) (by omega) hk rfl (fun g4 => ?_) (fun g4 => ?_)
          ·
            refine E_run hk 1 (j' := 25) (lv' := [(0, .ref 63), (1, yi t), (2, yi x), (3, yi n), (4, yi i)]) (st' := [yi 0, yi n]) (hp' := hp) rfl ?_
            refine Y_iadd (a := n) (b := 0) hk rfl ?_
            refine E_run hk 1 (j' := 27) (lv' := [(3, yi (n + 0)), (0, .ref 63), (1, yi t), (2, yi x), (4, yi i)]) (st' := []) (hp' := hp) rfl ?_
            refine Y_iinc (a := i) (z := 1) hk rfl rfl rfl (by decide) (lv' := [(4, yi (i + 1)), (3, yi (n + 0)), (0, .ref 63), (1, yi t), (2, yi x)]) rfl ?_
            refine E_run hk 1 (j' := 4) (lv' := [(4, yi (i + 1)), (3, yi (n + 0)), (0, .ref 63), (1, yi t), (2, yi x)]) (st' := []) (hp' := hp) rfl ?_
            exact Ev_le (xle_s rfl rfl (xle_s rfl rfl (xle_s rfl rfl (xle_s rfl rfl (xle_s rfl rfl (xle_z _ rfl)))))) (ih4 _ (by omega) (i + 1) (n + 0)  (by omega) (by rw [cnt_s (by omega), ← J2]; first | (rw [if_pos (show t = 0 by omega)]; first | rw [if_pos (by omega)] | rw [if_neg (by omega)]) | (rw [if_neg (show ¬ t = 0 by omega)]; first | rw [if_pos (by omega)] | rw [if_neg (by omega)])) rfl)
          ·
            refine E_run hk 2 (j' := 25) (lv' := [(0, .ref 63), (1, yi t), (2, yi x), (3, yi n), (4, yi i)]) (st' := [yi 1, yi n]) (hp' := hp) rfl ?_
            refine Y_iadd (a := n) (b := 1) hk rfl ?_
            refine E_run hk 1 (j' := 27) (lv' := [(3, yi (n + 1)), (0, .ref 63), (1, yi t), (2, yi x), (4, yi i)]) (st' := []) (hp' := hp) rfl ?_
            refine Y_iinc (a := i) (z := 1) hk rfl rfl rfl (by decide) (lv' := [(4, yi (i + 1)), (3, yi (n + 1)), (0, .ref 63), (1, yi t), (2, yi x)]) rfl ?_
            refine E_run hk 1 (j' := 4) (lv' := [(4, yi (i + 1)), (3, yi (n + 1)), (0, .ref 63), (1, yi t), (2, yi x)]) (st' := []) (hp' := hp) rfl ?_
            exact Ev_le (xle_s rfl rfl (xle_s rfl rfl (xle_s rfl rfl (xle_s rfl rfl (xle_s rfl rfl (xle_z _ rfl)))))) (ih4 _ (by omega) (i + 1) (n + 1)  (by omega) (by rw [cnt_s (by omega), ← J2]; first | (rw [if_pos (show t = 0 by omega)]; first | rw [if_pos (by omega)] | rw [if_neg (by omega)]) | (rw [if_neg (show ¬ t = 0 by omega)]; first | rw [if_pos (by omega)] | rw [if_neg (by omega)])) rfl)
  exact Ev_le (xle_s rfl rfl (xle_s rfl rfl (xle_s rfl rfl (xle_s rfl rfl (xle_s rfl rfl (xle_z _ rfl)))))) (loop4 _ 0 0  (by omega) (rfl) rfl)
theorem c_X9_longest {d : Nat} {hp : xH} {v : Nat → Int} (hM : xat hp 63 = some (yMo v)) {S : Int → Int} (hS : xat hp 64 = some (yI 47 S)) {p q : Int → Int} (hp1 : xat hp 74 = some (yI 40 p)) (hp2 : xat hp 75 = some (yI 40 q)) {t c : Int} (e0 : v 20 = c) (hc : 0 ≤ c ∧ c ≤ 40) (ht : 0 ≤ t ∧ t ≤ 1) (hq : ∀ y, 0 ≤ y → y < c → 0 ≤ p y ∧ p y ≤ 20 ∧ 0 ≤ q y ∧ q y ≤ 20) (hl : 0 ≤ S (0 + t) ∧ S (0 + t) ≤ 20) (hd : 1 ≤ d) : Cv d 170 [.ref 63, yi t] hp (yP (some (yi (lng (if t = 0 then p else q) c.toNat (S (0 + t)).toNat))) hp) := by
  have hk : xtab 170 = (xc_170, 4, 1, []) := rfl
  obtain ⟨d, rfl⟩ : ∃ e, d = e + 1 := ⟨d - 1, by omega⟩
  show Ev (d + 1) 170 0 [(0, .ref 63), (1, yi t)] [] hp _
  refine E_run hk 4 (j' := 4) (lv' := [(3, yi 0), (2, yi 0), (0, .ref 63), (1, yi t)]) (st' := []) (hp' := hp) rfl ?_
  have loop4 : ∀ (N : Nat) (i : Int) (n : Int), (0 ≤ i ∧ i ≤ S (0 + t) ∧ 0 ≤ n ∧ n ≤ 40) → (n = lng (if t = 0 then p else q) c.toNat i.toNat) → (S (0 + t) - i).toNat = N → Ev (d + 1) 170 4 [(0, .ref 63), (1, yi t), (2, yi n), (3, yi i)] [] hp (yP (some (yi (lng (if t = 0 then p else q) c.toNat (S (0 + t)).toNat))) hp) := by
    intro N
    induction N using Nat.strongRecOn with
    | ind N ih4 =>
      intro i n J1 J2 hm4
      refine E_run hk 1 (j' := 5) (lv' := [(0, .ref 63), (1, yi t), (2, yi n), (3, yi i)]) (st' := [yi i]) (hp' := hp) rfl ?_
      refine E_run hk 2 (j' := 7) (lv' := [(0, .ref 63), (1, yi t), (2, yi n), (3, yi i)]) (st' := [yi t, .ref 63, yi i]) (hp' := hp) rfl ?_
      refine Y_callP hk rfl (as := [.ref 63, yi t]) (rest := [yi i]) (v := some (yi (S (0 + t)))) rfl rfl (Nat.le_of_ble_eq_true rfl) (rcv0 hM) (Nat.le_of_ble_eq_true rfl) (c_X9_many (t := t) (v := v) hM hS (by omega)) ?_
      refine Y_ic_ge (a := i) (b := (S (0 + t))) (by omega) hk rfl (fun g1 => ?_) (fun g1 => ?_)
      ·
        refine E_run hk 1 (j' := 25) (lv' := [(0, .ref 63), (1, yi t), (2, yi n), (3, yi i)]) (st' := [yi n]) (hp' := hp) rfl ?_
        exact E_ret hk rfl rfl (li (by rw [show S (0 + t) = i by omega]; exact J2))
      ·
        have w1 := cnt_rng (if t = 0 then p else q) i c.toNat
        refine E_run hk 3 (j' := 12) (lv' := [(0, .ref 63), (1, yi t), (2, yi n), (3, yi i)]) (st' := [yi i, yi t, .ref 63]) (hp' := hp) rfl ?_
        refine Y_callP hk rfl (as := [.ref 63, yi t, yi i]) (rest := []) (v := some (yi (cnt (if t = 0 then p else q) i c.toNat))) rfl rfl (Nat.le_of_ble_eq_true rfl) (rcv0 hM) (Nat.le_of_ble_eq_true rfl) (c_X9_stretchOf (t := t) (x := i) (c := c) (v := v) hM hp1 hp2 e0 (by omega) (by omega) hq) ?_
        refine E_run hk 1 (j' := 14) (lv' := [(0, .ref 63), (1, yi t), (2, yi n), (3, yi i)]) (st' := [yi n, yi (cnt (if t = 0 then p else q) i c.toNat)]) (hp' := hp) rfl ?_
        refine Y_ic_le (a := (cnt (if t = 0 then p else q) i c.toNat)) (b := n) (by omega) hk rfl (fun g2 => ?_) (fun g2 => ?_)
        ·
          refine E_run hk 2 (j' := 22) (lv' := [(2, yi n), (0, .ref 63), (1, yi t), (3, yi i)]) (st' := []) (hp' := hp) rfl ?_
          refine Y_iinc (a := i) (z := 1) hk rfl rfl rfl (by decide) (lv' := [(3, yi (i + 1)), (2, yi n), (0, .ref 63), (1, yi t)]) rfl ?_
          refine E_run hk 1 (j' := 4) (lv' := [(3, yi (i + 1)), (2, yi n), (0, .ref 63), (1, yi t)]) (st' := []) (hp' := hp) rfl ?_
          exact Ev_le (xle_s rfl rfl (xle_s rfl rfl (xle_s rfl rfl (xle_s rfl rfl (xle_z _ rfl))))) (ih4 _ (by omega) (i + 1) n  (by omega) (by rw [lng_s (by omega), ← J2]; first | exact (if_pos (by omega)).symm | exact (if_neg (by omega)).symm) rfl)
        ·
          refine E_run hk 3 (j' := 18) (lv' := [(0, .ref 63), (1, yi t), (2, yi n), (3, yi i)]) (st' := [yi i, yi t, .ref 63]) (hp' := hp) rfl ?_
          refine Y_callP hk rfl (as := [.ref 63, yi t, yi i]) (rest := []) (v := some (yi (cnt (if t = 0 then p else q) i c.toNat))) rfl rfl (Nat.le_of_ble_eq_true rfl) (rcv0 hM) (Nat.le_of_ble_eq_true rfl) (c_X9_stretchOf (t := t) (x := i) (c := c) (v := v) hM hp1 hp2 e0 (by omega) (by omega) hq) ?_
          refine E_run hk 2 (j' := 22) (lv' := [(2, yi (cnt (if t = 0 then p else q) i c.toNat)), (0, .ref 63), (1, yi t), (3, yi i)]) (st' := []) (hp' := hp) rfl ?_
          refine Y_iinc (a := i) (z := 1) hk rfl rfl rfl (by decide) (lv' := [(3, yi (i + 1)), (2, yi (cnt (if t = 0 then p else q) i c.toNat)), (0, .ref 63), (1, yi t)]) rfl ?_
          refine E_run hk 1 (j' := 4) (lv' := [(3, yi (i + 1)), (2, yi (cnt (if t = 0 then p else q) i c.toNat)), (0, .ref 63), (1, yi t)]) (st' := []) (hp' := hp) rfl ?_
          exact Ev_le (xle_s rfl rfl (xle_s rfl rfl (xle_s rfl rfl (xle_s rfl rfl (xle_z _ rfl))))) (ih4 _ (by omega) (i + 1) (cnt (if t = 0 then p else q) i c.toNat)  (by omega) (by rw [lng_s (by omega), ← J2]; first | exact (if_pos (by omega)).symm | exact (if_neg (by omega)).symm) rfl)
  exact Ev_le (xle_s rfl rfl (xle_s rfl rfl (xle_s rfl rfl (xle_s rfl rfl (xle_z _ rfl))))) (loop4 _ 0 0  (by omega) (rfl) rfl)
theorem c_X9_riseMany {d : Nat} {hp : xH} {v : Nat → Int} (hM : xat hp 63 = some (yMo v)) {S : Int → Int} (hS : xat hp 64 = some (yI 47 S)) (hl : 0 ≤ S 0 ∧ S 0 ≤ 20 ∧ 0 ≤ S 1 ∧ S 1 ≤ 20) (hpi : ∀ t q, 0 ≤ t → t ≤ 1 → 0 ≤ q → q < S (0 + t) → 0 ≤ S (7 + 20 * t + q) ∧ S (7 + 20 * t + q) ≤ 60) (hd : 1 ≤ d) : Cv d 225 [.ref 63] hp (yP (some (yi (ris (fun q => S (7 + q)) (S 0 - 1).toNat + ris (fun q => S (27 + q)) (S 1 - 1).toNat))) hp) := by
  have hk : xtab 225 = (xc_225, 4, 1, []) := rfl
  obtain ⟨d, rfl⟩ : ∃ e, d = e + 1 := ⟨d - 1, by omega⟩
  show Ev (d + 1) 225 0 [(0, .ref 63)] [] hp _
  refine E_run hk 4 (j' := 4) (lv' := [(2, yi 0), (1, yi 0), (0, .ref 63)]) (st' := []) (hp' := hp) rfl ?_
  have loop4 : ∀ (N : Nat) (t : Int) (n : Int), (0 ≤ t ∧ t ≤ 2 ∧ 0 ≤ n ∧ n ≤ 20 * t) → (n = if t = 0 then 0 else if t = 1 then ris (fun q => S (7 + q)) (S 0 - 1).toNat else ris (fun q => S (7 + q)) (S 0 - 1).toNat + ris (fun q => S (27 + q)) (S 1 - 1).toNat) → (2 - t).toNat = N → Ev (d + 1) 225 4 [(0, .ref 63), (1, yi n), (2, yi t)] [] hp (yP (some (yi (ris (fun q => S (7 + q)) (S 0 - 1).toNat + ris (fun q => S (27 + q)) (S 1 - 1).toNat))) hp) := by
    intro N
    induction N using Nat.strongRecOn with
    | ind N ih4 =>
      intro t n J1 J2 hm4
      refine E_run hk 1 (j' := 5) (lv' := [(0, .ref 63), (1, yi n), (2, yi t)]) (st' := [yi t]) (hp' := hp) rfl ?_
      refine E_run hk 1 (j' := 6) (lv' := [(0, .ref 63), (1, yi n), (2, yi t)]) (st' := [yi 2, yi t]) (hp' := hp) rfl ?_
      refine Y_ic_ge (a := t) (b := 2) (by omega) hk rfl (fun g1 => ?_) (fun g1 => ?_)
      ·
        refine E_run hk 1 (j' := 36) (lv' := [(0, .ref 63), (1, yi n), (2, yi t)]) (st' := [yi n]) (hp' := hp) rfl ?_
        exact E_ret hk rfl rfl (li (by rw [J2, if_neg (by omega), if_neg (by omega)]))
      ·
        have w0 : 0 ≤ S (0 + t) ∧ S (0 + t) ≤ 20 := by rcases (by omega : t = 0 ∨ t = 1) with e | e <;> rw [e] <;> first | exact ⟨hl.1, hl.2.1⟩ | exact hl.2.2
        refine E_run hk 2 (j' := 9) (lv' := [(3, yi 1), (0, .ref 63), (1, yi n), (2, yi t)]) (st' := []) (hp' := hp) rfl ?_
        have loop9 : ∀ (N : Nat) (i : Int) (k : Int), (1 ≤ i ∧ (i ≤ S (0 + t) ∨ i = 1) ∧ n ≤ k ∧ k ≤ n + i - 1) → (k = n + ris (fun q => S (7 + 20 * t + q)) (i - 1).toNat) → (S (0 + t) - i).toNat = N → Ev (d + 1) 225 9 [(0, .ref 63), (1, yi k), (2, yi t), (3, yi i)] [] hp (yP (some (yi (ris (fun q => S (7 + q)) (S 0 - 1).toNat + ris (fun q => S (27 + q)) (S 1 - 1).toNat))) hp) := by
          intro N
          induction N using Nat.strongRecOn with
          | ind N ih9 =>
            intro i k K1 K2 hm9
            refine E_run hk 1 (j' := 10) (lv' := [(0, .ref 63), (1, yi k), (2, yi t), (3, yi i)]) (st' := [yi i]) (hp' := hp) rfl ?_
            refine E_run hk 2 (j' := 12) (lv' := [(0, .ref 63), (1, yi k), (2, yi t), (3, yi i)]) (st' := [yi t, .ref 63, yi i]) (hp' := hp) rfl ?_
            refine Y_callP hk rfl (as := [.ref 63, yi t]) (rest := [yi i]) (v := some (yi (S (0 + t)))) rfl rfl (Nat.le_of_ble_eq_true rfl) (rcv0 hM) (Nat.le_of_ble_eq_true rfl) (c_X9_many (t := t) (v := v) hM hS (by omega)) ?_
            refine Y_ic_ge (a := i) (b := (S (0 + t))) (by omega) hk rfl (fun g2 => ?_) (fun g2 => ?_)
            ·
              refine Y_iinc (a := t) (z := 1) hk rfl rfl rfl (by decide) (lv' := [(2, yi (t + 1)), (0, .ref 63), (1, yi k), (3, yi i)]) rfl ?_
              refine E_run hk 1 (j' := 4) (lv' := [(2, yi (t + 1)), (0, .ref 63), (1, yi k), (3, yi i)]) (st' := []) (hp' := hp) rfl ?_
              exact Ev_le (xle_s rfl rfl (xle_s rfl rfl (xle_s rfl rfl (xle_z _ rfl)))) (ih4 _ (by omega) (t + 1) k  (by omega) (by rw [K2, J2, (by omega : (i - 1).toNat = (S (0 + t) - 1).toNat)]; rcases (by omega : t = 0 ∨ t = 1) with e | e <;> subst e <;> simp) rfl)
            ·
              have w1 := hpi t i (by omega) (by omega) (by omega) (by omega)
              have w2 := hpi t (i - 1) (by omega) (by omega) (by omega) (by omega)
              refine E_run hk 4 (j' := 18) (lv' := [(0, .ref 63), (1, yi k), (2, yi t), (3, yi i)]) (st' := [yi i, yi t, .ref 63, yi k]) (hp' := hp) rfl ?_
              refine Y_callP hk rfl (as := [.ref 63, yi t, yi i]) (rest := [yi k]) (v := some (yi (S (7 + 20 * t + i)))) rfl rfl (Nat.le_of_ble_eq_true rfl) (rcv0 hM) (Nat.le_of_ble_eq_true rfl) (c_X9_of (t := t) (i := i) (v := v) hM hS (by omega)) ?_
              refine E_run hk 4 (j' := 23) (lv' := [(0, .ref 63), (1, yi k), (2, yi t), (3, yi i)]) (st' := [yi 1, yi i, yi t, .ref 63, yi (S (7 + 20 * t + i)), yi k]) (hp' := hp) rfl ?_
              refine Y_isub (a := i) (b := 1) hk rfl ?_
              refine Y_callP hk rfl (as := [.ref 63, yi t, yi (i - 1)]) (rest := [yi (S (7 + 20 * t + i)), yi k]) (v := some (yi (S (7 + 20 * t + (i - 1))))) rfl rfl (Nat.le_of_ble_eq_true rfl) (rcv0 hM) (Nat.le_of_ble_eq_true rfl) (c_X9_of (t := t) (i := (i - 1)) (v := v) hM hS (by omega)) ?_
              refine Y_ic_le (a := (S (7 + 20 * t + i))) (b := (S (7 + 20 * t + (i - 1)))) (by omega) hk rfl (fun g3 => ?_) (fun g3 => ?_)
              ·
                refine E_run hk 1 (j' := 29) (lv' := [(0, .ref 63), (1, yi k), (2, yi t), (3, yi i)]) (st' := [yi 0, yi k]) (hp' := hp) rfl ?_
                refine Y_iadd (a := k) (b := 0) hk rfl ?_
                refine E_run hk 1 (j' := 31) (lv' := [(1, yi (k + 0)), (0, .ref 63), (2, yi t), (3, yi i)]) (st' := []) (hp' := hp) rfl ?_
                refine Y_iinc (a := i) (z := 1) hk rfl rfl rfl (by decide) (lv' := [(3, yi (i + 1)), (1, yi (k + 0)), (0, .ref 63), (2, yi t)]) rfl ?_
                refine E_run hk 1 (j' := 9) (lv' := [(3, yi (i + 1)), (1, yi (k + 0)), (0, .ref 63), (2, yi t)]) (st' := []) (hp' := hp) rfl ?_
                exact Ev_le (xle_s rfl rfl (xle_s rfl rfl (xle_s rfl rfl (xle_s rfl rfl (xle_z _ rfl))))) (ih9 _ (by omega) (i + 1) (k + 0)  (by omega) (by rw [ris_s (by omega), ← Int.add_assoc, ← K2]; first | rw [if_pos (by omega)] | rw [if_neg (by omega)]) rfl)
              ·
                refine E_run hk 2 (j' := 29) (lv' := [(0, .ref 63), (1, yi k), (2, yi t), (3, yi i)]) (st' := [yi 1, yi k]) (hp' := hp) rfl ?_
                refine Y_iadd (a := k) (b := 1) hk rfl ?_
                refine E_run hk 1 (j' := 31) (lv' := [(1, yi (k + 1)), (0, .ref 63), (2, yi t), (3, yi i)]) (st' := []) (hp' := hp) rfl ?_
                refine Y_iinc (a := i) (z := 1) hk rfl rfl rfl (by decide) (lv' := [(3, yi (i + 1)), (1, yi (k + 1)), (0, .ref 63), (2, yi t)]) rfl ?_
                refine E_run hk 1 (j' := 9) (lv' := [(3, yi (i + 1)), (1, yi (k + 1)), (0, .ref 63), (2, yi t)]) (st' := []) (hp' := hp) rfl ?_
                exact Ev_le (xle_s rfl rfl (xle_s rfl rfl (xle_s rfl rfl (xle_s rfl rfl (xle_z _ rfl))))) (ih9 _ (by omega) (i + 1) (k + 1)  (by omega) (by rw [ris_s (by omega), ← Int.add_assoc, ← K2]; first | rw [if_pos (by omega)] | rw [if_neg (by omega)]) rfl)
        exact Ev_le (xle_s rfl rfl (xle_s rfl rfl (xle_s rfl rfl (xle_s rfl rfl (xle_z _ rfl))))) (loop9 _ 1 n  (by omega) ((Int.add_zero n).symm) rfl)
  exact Ev_le (xle_s rfl rfl (xle_s rfl rfl (xle_s rfl rfl (xle_z _ rfl)))) (loop4 _ 0 0  (by omega) (rfl) rfl)
