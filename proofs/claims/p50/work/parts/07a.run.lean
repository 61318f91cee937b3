/-! The run of the small machine. -/
def xrun (tab : Nat → xM) : Nat → Nat → Nat → Nat → xL → List Value → xH → Option (xO × xH)
  | 0, _, _, _, _, _, _ => none
  | n + 1, d, k, j, lv, st, hp => match (tab k).1[j]? with
    | none => none
    | some (pc, kd, i, len, ax, cv) => match kd with
      | 1 => if st.length < ax.getD 1 0 ∨ 8 < ((st.drop (ax.getD 1 0)).map fun v => v.category).sum ∨ (tab (ax.headD 0)).2.1 < (((st.take (ax.getD 1 0)).reverse).map fun v => v.category).sum then none else
          if xrcv (ax.getD 2 0) (ax.getD 3 0) (st.take (ax.getD 1 0)).reverse hp = true then (match d with
            | 0 => none
            | d + 1 => match xrun tab n d (ax.headD 0) 0 (lv_args 0 (st.take (ax.getD 1 0)).reverse) [] hp with
              | none => none
              | some (.inl v, hp1) => xrun tab n (d + 1) k (j + 1) lv (v.toList ++ st.drop (ax.getD 1 0)) hp1
              | some (.inr E, hp1) => match xcatch (tab k).2.2.2 pc E with
                | none => some (.inr E, hp1)
                | some (v, t) => xrun tab n (d + 1) k t (xdel lv v) [] hp1) else none
      | 2 => match xret (tab k).2.2.1 i st with
        | some v => some (.inl v, hp)
        | none => none
      | 3 => if d < 4 then none else if (st.map fun v => v.category).sum ≤ 8 then some (.inr (ax.headD 0), xbare hp 6) else none
      | kd => match xstp (tab k).2.1 kd j i ax cv lv st hp with
        | none => none
        | some (j', lv', st', hp') => xrun tab n d k j' lv' st' hp'
