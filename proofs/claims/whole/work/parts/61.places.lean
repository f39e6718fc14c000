theorem rdL_le (ty : Nat → Int32) (mcode : Int32) (mtot : Int64) (mfl : Int32) (mru : Int32) (mpd : Bool) (mk : Int32) (mg : Int64) (mw : Int64) (mn : Int32) (mgp : Bool) (mga : Int64) (mgb : Int64) (mfc : Int32) (sz : Nat) : ∀ (n k : Nat) (v : Int32) (pa : Nat), (rdL ty mcode mtot mfl mru mpd mk mg mw mn mgp mga mgb mfc sz n k v pa).2.2 ≤ pa + n := by
  intro n
  induction n with
  | zero => intro k v pa; rw [rdL]; exact Nat.le_refl _
  | succ n ih =>
    intro k v pa
    rw [rdL]
    split
    · have h := ih (k + 1) (((10 * v) + (fM_here ty mcode mtot mfl mru mpd mk mg mw mn mgp mga mgb mfc sz pa)) - 48) (pa + 1)
      omega
    · show pa ≤ pa + (n + 1)
      omega
theorem rnL_le (ft : Nat → Int32) (tl : Nat) : ∀ (n k : Nat) (v : Int32) (pn : Nat), (rnL ft tl n k v pn).2 ≤ pn + n := by
  intro n
  induction n with
  | zero => intro k v pn; rw [rnL]; exact Nat.le_refl _
  | succ n ih =>
    intro k v pn
    rw [rnL]
    split
    · show pn ≤ pn + (n + 1)
      omega
    · split
      · show pn ≤ pn + (n + 1)
        omega
      · split
        · have h := ih (k + 1) ((fT_next ft tl pn) - 48) (pn + 1)
          omega
        · have h := ih (k + 1) ((v * 10) + ((fT_next ft tl pn) - 48)) (pn + 1)
          omega
