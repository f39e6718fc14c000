/-! a term: the class's reader and the reference's -/
theorem upd_at (f : Nat → Int32) (k : Nat) (x : Int32) : upd f k x k = x := if_pos rfl
theorem upd_off (f : Nat → Int32) {k j : Nat} (x : Int32) (h : j ≠ k) : upd f k x j = f j := if_neg h
theorem rnL_ge (ft : Nat → Int32) (tl : Nat) : ∀ (n k : Nat) (v : Int32) (pn : Nat), pn ≤ (rnL ft tl n k v pn).2 := by
  intro n
  induction n with
  | zero => intro k v pn; rw [rnL]; exact Nat.le_refl _
  | succ n ih =>
    intro k v pn
    rw [rnL]
    repeat' split
    all_goals first | exact Nat.le_refl _ | exact Nat.le_trans (Nat.le_succ _) (ih _ _ _)
section TERM
variable {mcode fl mru mk mn mfc : Int32} {mtot mg mw mga mgb : Int64} {mpd mgp : Bool} {tl rc : Nat} {ft ty dd fw fr fb : Nat → Int32}
theorem letter_hn (hT : txR tl ft ty) (ht : tl ≤ 120) {p : Nat} (hp : p < 2147483648) : fJ_ix (fT_next ft tl p) = fM_letterOf (fM_here ty mcode mtot fl mru mpd mk mg mw mn mgp mga mgb mfc tl p) ∧ (0 ≤ fM_letterOf (fM_here ty mcode mtot fl mru mpd mk mg mw mn mgp mga mgb mfc tl p) → p < tl) := by
  rw [letter_eq, here_eq hT ht hp, next_eq ht hp]
  by_cases h : p < tl
  · rw [if_pos h, if_pos h]; exact ⟨rfl, fun _ => h⟩
  · rw [if_neg h, if_neg h]; exact ⟨by decide, fun e => absurd e (by decide)⟩
theorem term_eq (hT : txR tl ft ty) (ht : tl ≤ 120) (hrc : rc < 8) {p : Nat} (hp : p < 2147000000) (hfl : fl < 0) :
    (fT_readTerm ft tl fw fr fb rc p = true ∧ (fM_readTerm_c0f4 ty dd mcode mtot fl mru mpd mk mg mw mn mgp mga mgb mfc tl p (nI rc)) = fT_readTerm_c0f2 ft tl fw fr fb rc p ∧ (fM_readTerm_c0f5 ty dd mcode mtot fl mru mpd mk mg mw mn mgp mga mgb mfc tl p (nI rc)) = fl ∧ fT_readTerm_c0f2 ft tl fw fr fb rc p ≤ tl ∧ p < fT_readTerm_c0f2 ft tl fw fr fb rc p ∧
      ∃ (i : Nat) (w : Int32), i < 5 ∧ 0 ≤ w.toInt ∧ w.toInt ≤ 99 ∧ (fM_readTerm_a2 ty dd mcode mtot fl mru mpd mk mg mw mn mgp mga mgb mfc tl p (nI rc)) = upd dd (7 * rc + i) (dd (7 * rc + i) + w) ∧ fT_readTerm_a3 ft tl fw fr fb rc p = upd fw (5 * rc + i) (fw (5 * rc + i) + w)) ∨
    (fT_readTerm ft tl fw fr fb rc p = false ∧ (fM_readTerm_c0f5 ty dd mcode mtot fl mru mpd mk mg mw mn mgp mga mgb mfc tl p (nI rc)) = nI (fT_readTerm_c0f2 ft tl fw fr fb rc p) ∧ fT_readTerm_c0f2 ft tl fw fr fb rc p < 2147001000) := by
  have hrn := rn_rd (mfl := fl) (mcode := mcode) (mru := mru) (mk := mk) (mn := mn) (mfc := mfc) (mtot := mtot) (mg := mg) (mw := mw) (mga := mga) (mgb := mgb) (mpd := mpd) (mgp := mgp) hT ht 2 p (by decide) (by omega)
  have hle := rnL_le ft tl 2 0 (-1) p
  have hbd := rn_bd (ft := ft) (tl := tl) 2 0 (-1) p 1 (by decide) (Or.inl rfl) (by decide) (by decide)
  have hge := rnL_ge ft tl 2 0 (-1) p
  rw [hrn] at hle hbd hge
  have hP : (rdL ty mcode mtot fl mru mpd mk mg mw mn mgp mga mgb mfc tl 2 0 0 p).2.2 < 2147483648 := by
    have : (rdL ty mcode mtot fl mru mpd mk mg mw mn mgp mga mgb mfc tl 2 0 0 p).2.2 ≤ p + 2 := hle
    omega
  obtain ⟨hL, hLt⟩ := letter_hn (fl := fl) (mcode := mcode) (mru := mru) (mk := mk) (mn := mn) (mfc := mfc) (mtot := mtot) (mg := mg) (mw := mw) (mga := mga) (mgb := mgb) (mpd := mpd) (mgp := mgp) hT ht hP
  have hge2 : p ≤ (rdL ty mcode mtot fl mru mpd mk mg mw mn mgp mga mgb mfc tl 2 0 0 p).2.2 := hge
  have hle2 : (rdL ty mcode mtot fl mru mpd mk mg mw mn mgp mga mgb mfc tl 2 0 0 p).2.2 ≤ p + 2 := hle
  have hbd2 : ((fM_rd ty mcode mtot fl mru mpd mk mg mw mn mgp mga mgb mfc tl 2 p) = -1 ∧ (0 : Nat) = 0) ∨ (0 ≤ (fM_rd ty mcode mtot fl mru mpd mk mg mw mn mgp mga mgb mfc tl 2 p).toInt ∧ (fM_rd ty mcode mtot fl mru mpd mk mg mw mn mgp mga mgb mfc tl 2 p).toInt < 100) := hbd
  clear hbd hge hle
  unfold fT_readTerm fT_readTerm_c0f2 fT_readTerm_a3 fM_readTerm_c0f4 fM_readTerm_c0f5 fM_readTerm_a2
  rw [hrn]
  dsimp only
  rw [hL]
  generalize (rdL ty mcode mtot fl mru mpd mk mg mw mn mgp mga mgb mfc tl 2 0 0 p).2.2 = q at *
  generalize (fM_rd ty mcode mtot fl mru mpd mk mg mw mn mgp mga mgb mfc tl 2 p) = v at *
  rcases mletv (fM_here ty mcode mtot fl mru mpd mk mg mw mn mgp mga mgb mfc tl q) with h | ⟨i, hi, h⟩
  · refine Or.inr ?_
    rw [h]
    rw [if_neg (by decide), if_neg (by decide), if_neg (by decide)]
    refine ⟨rfl, ?_, by omega⟩
    unfold fM_fail_c0f5
    rw [if_neg (Int32.not_le.mpr hfl)]
  · refine Or.inl ?_
    have h0 : 0 ≤ fM_letterOf (fM_here ty mcode mtot fl mru mpd mk mg mw mn mgp mga mgb mfc tl q) := by rw [← h]; exact (show (0 : Int32) ≤ nI i from nI_le (a := 0) (by omega) (by omega))
    have hq := hLt h0
    rw [if_pos h0, if_pos h0, if_pos h0, if_pos h0, if_pos h0, if_pos h0, ← h]
    have a8 : ¬ 8 ≤ nI rc := nI_ge (b := 8) hrc (by decide)
    have i0 : ¬ nI i < 0 := nI_nlt (a := i) (b := 0) (by omega) (by omega)
    have i5 : ¬ 5 ≤ nI i := nI_ge (b := 5) hi (by decide)
    have hadd : ∀ w : Int32, fS_add_a1 fw fr fb rc w (nI i) = upd fw (5 * rc + i) (fw (5 * rc + i) + w) := by
      intro w
      unfold fS_add_a1
      rw [if_neg a8, if_neg i0, if_neg i5, ix5 i hrc hi]
    rw [ix7 i hrc (by omega)]
    rcases hbd2 with ⟨e, -⟩ | ⟨e0, e1⟩
    · have n0 : ¬ 0 ≤ v := by rw [e]; decide
      rw [if_pos e, if_pos e, if_pos e, if_neg n0, if_neg n0, if_neg n0]
      exact ⟨rfl, rfl, rfl, by omega, by omega, i, 1, hi, by decide, by decide, rfl, hadd 1⟩
    · have n1 : ¬ v = -1 := fun e => by rw [e] at e0; exact absurd e0 (by decide)
      have n0 : 0 ≤ v := by rw [Int32.le_iff_toInt_le, Int32.toInt_zero]; exact e0
      rw [if_neg n1, if_neg n1, if_neg n1, if_pos n0, if_pos n0, if_pos n0]
      exact ⟨rfl, rfl, rfl, by omega, by omega, i, v, hi, e0, by omega, rfl, hadd v⟩
end TERM
