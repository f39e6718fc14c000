/-! the text: the class's characters and the reference's; numbers; letters -/
def txR (tl : Nat) (ft ty : Nat → Int32) : Prop := ∀ p : Nat, p < tl → ty p = ft p ∧ 33 ≤ (ft p).toInt ∧ (ft p).toInt ≤ 126
section CHR
variable {mcode mfl mru mk mn mfc : Int32} {mtot mg mw mga mgb : Int64} {mpd mgp : Bool} {tl : Nat} {ft ty : Nat → Int32}
theorem here_eq (hT : txR tl ft ty) (ht : tl ≤ 120) {p : Nat} (hp : p < 2147483648) : fM_here ty mcode mtot mfl mru mpd mk mg mw mn mgp mga mgb mfc tl p = if p < tl then ft p else (-1) := by
  unfold fM_here
  by_cases h : p < tl
  · rw [if_neg (nI_ge h (by omega)), if_pos h, nClamp hp]
    exact (hT p h).1
  · rw [if_pos (nI_le (by omega) hp), if_neg h]
theorem next_eq (ht : tl ≤ 120) {p : Nat} (hp : p < 2147483648) : fT_next ft tl p = if p < tl then ft p else 0 := by
  unfold fT_next
  rw [if_neg (show ¬ nI p < 0 from nI_nlt (a := p) (b := 0) (by omega) hp)]
  by_cases h : p < tl
  · rw [if_neg (nI_ge h (by omega)), if_neg (show ¬ 120 ≤ nI p from nI_ge (b := 120) (by omega) (by decide)), if_pos h, nClamp hp]
  · rw [if_pos (nI_le (by omega) hp), if_neg h]
theorem hn_c (hT : txR tl ft ty) (ht : tl ≤ 120) {p : Nat} (hp : p < 2147483648) {c : Int32} (h1 : ¬ c = -1) (h0 : ¬ c = 0) : (fM_here ty mcode mtot mfl mru mpd mk mg mw mn mgp mga mgb mfc tl p = c) = (fT_next ft tl p = c) := by
  rw [here_eq hT ht hp, next_eq ht hp]
  by_cases h : p < tl
  · rw [if_pos h, if_pos h]
  · rw [if_neg h, if_neg h]
    exact propext ⟨fun e => absurd e.symm h1, fun e => absurd e.symm h0⟩
/-- a character that isn't the end's stands at both -/
theorem hn_same (hT : txR tl ft ty) (ht : tl ≤ 120) {p : Nat} (hp : p < 2147483648) (h : ¬ fT_next ft tl p = 0) : fM_here ty mcode mtot mfl mru mpd mk mg mw mn mgp mga mgb mfc tl p = fT_next ft tl p ∧ p < tl := by
  rw [next_eq ht hp] at h ⊢
  rw [here_eq hT ht hp]
  by_cases q : p < tl
  · rw [if_pos q, if_pos q]; exact ⟨rfl, q⟩
  · rw [if_neg q] at h; exact absurd rfl h
theorem dig_eq (hT : txR tl ft ty) (ht : tl ≤ 120) {p : Nat} (hp : p < 2147483648) : (fM_isDigit ty mcode mtot mfl mru mpd mk mg mw mn mgp mga mgb mfc tl p = true) = (¬ fT_next ft tl p < 48 ∧ ¬ 57 < fT_next ft tl p) := by
  unfold fM_isDigit
  rw [here_eq hT ht hp, next_eq ht hp]
  by_cases h : p < tl
  · rw [if_pos h, if_pos h]
    by_cases a : ft p < 48
    · rw [if_pos a]; exact propext ⟨fun e => (by cases e), fun e => absurd a e.1⟩
    · rw [if_neg a]
      by_cases b : 57 < ft p
      · rw [if_pos b]; exact propext ⟨fun e => (by cases e), fun e => absurd b e.2⟩
      · rw [if_neg b]; exact propext ⟨fun _ => ⟨a, b⟩, fun _ => rfl⟩
  · rw [if_neg h, if_neg h, if_pos (by decide)]
    exact propext ⟨fun e => (by cases e), fun e => absurd (by decide) e.1⟩
theorem rdL_k : ∀ (n k : Nat) (v : Int32) (p : Nat), (rdL ty mcode mtot mfl mru mpd mk mg mw mn mgp mga mgb mfc tl n k v p).1 ≤ k + n ∧ k ≤ (rdL ty mcode mtot mfl mru mpd mk mg mw mn mgp mga mgb mfc tl n k v p).1 := by
  intro n
  induction n with
  | zero => intro k v p; rw [rdL]; exact ⟨Nat.le_refl _, Nat.le_refl _⟩
  | succ n ih =>
    intro k v p
    rw [rdL]
    split
    · have h := ih (k + 1) (((10 * v) + (fM_here ty mcode mtot mfl mru mpd mk mg mw mn mgp mga mgb mfc tl p)) - 48) (p + 1)
      exact ⟨by omega, by omega⟩
    · exact ⟨Nat.le_add_right _ _, Nat.le_refl _⟩
theorem rd_eq (hT : txR tl ft ty) (ht : tl ≤ 120) : ∀ (n k : Nat) (v : Int32) (p : Nat), p + n < 2147483648 → n + k ≤ 100 → (k = 0 → v = 0) →
    rnL ft tl n k (if k = 0 then (-1) else v) p = ((if (rdL ty mcode mtot mfl mru mpd mk mg mw mn mgp mga mgb mfc tl n k v p).1 = 0 then (-1) else (rdL ty mcode mtot mfl mru mpd mk mg mw mn mgp mga mgb mfc tl n k v p).2.1), (rdL ty mcode mtot mfl mru mpd mk mg mw mn mgp mga mgb mfc tl n k v p).2.2) := by
  intro n
  induction n with
  | zero => intro k v p _ _ _; rw [rnL, rdL]
  | succ n ih =>
    intro k v p hp hk hv
    have hd := dig_eq (mcode := mcode) (mfl := mfl) (mru := mru) (mk := mk) (mn := mn) (mfc := mfc) (mtot := mtot) (mg := mg) (mw := mw) (mga := mga) (mgb := mgb) (mpd := mpd) (mgp := mgp) hT ht (p := p) (by omega)
    rw [rnL, rdL]
    by_cases a : fT_next ft tl p < 48
    · have hdn : ¬ fM_isDigit ty mcode mtot mfl mru mpd mk mg mw mn mgp mga mgb mfc tl p = true := by rw [hd]; exact fun e => e.1 a
      rw [if_pos a, if_neg hdn]
    · rw [if_neg a]
      by_cases b : 57 < fT_next ft tl p
      · have hdn : ¬ fM_isDigit ty mcode mtot mfl mru mpd mk mg mw mn mgp mga mgb mfc tl p = true := by rw [hd]; exact fun e => e.2 b
        rw [if_pos b, if_neg hdn]
      · have hdy : fM_isDigit ty mcode mtot mfl mru mpd mk mg mw mn mgp mga mgb mfc tl p = true := by rw [hd]; exact ⟨a, b⟩
        rw [if_neg b, if_pos hdy]
        have hn0 : ¬ fT_next ft tl p = 0 := fun e => a (by rw [e]; decide)
        have hh := (hn_same (mcode := mcode) (mfl := mfl) (mru := mru) (mk := mk) (mn := mn) (mfc := mfc) (mtot := mtot) (mg := mg) (mw := mw) (mga := mga) (mgb := mgb) (mpd := mpd) (mgp := mgp) hT ht (p := p) (by omega) hn0).1
        rw [hh]
        have ihh := ih (k + 1) (((10 * v) + fT_next ft tl p) - 48) (p + 1) (by omega) (by omega) (fun e => absurd e (by omega))
        rw [if_neg (show ¬ k + 1 = 0 by omega)] at ihh
        rw [← ihh]
        by_cases k0 : k = 0
        · subst k0
          rw [if_pos (show nI 0 = 0 from rfl), hv rfl]
          congr 1
          rw [Int32.mul_zero, Int32.zero_add]
        · rw [if_neg k0, if_neg (show ¬ nI k = 0 from fun e => k0 ((nI_eq (b := 0) (by omega) (by decide)).mp e))]
          congr 1
          rw [Int32.mul_comm v 10, Int32.sub_eq_add_neg, Int32.sub_eq_add_neg, Int32.add_assoc]
theorem rn_rd (hT : txR tl ft ty) (ht : tl ≤ 120) (mo p : Nat) (hm : mo ≤ 100) (hp : p + mo < 2147483648) : rnL ft tl mo 0 (-1) p = (fM_rd ty mcode mtot mfl mru mpd mk mg mw mn mgp mga mgb mfc tl mo p, (rdL ty mcode mtot mfl mru mpd mk mg mw mn mgp mga mgb mfc tl mo 0 0 p).2.2) := by
  have h := rd_eq (mcode := mcode) (mfl := mfl) (mru := mru) (mk := mk) (mn := mn) (mfc := mfc) (mtot := mtot) (mg := mg) (mw := mw) (mga := mga) (mgb := mgb) (mpd := mpd) (mgp := mgp) hT ht mo 0 0 p hp (by omega) (fun _ => rfl)
  rw [if_pos rfl] at h
  rw [h]
  have hk := (rdL_k (mcode := mcode) (mfl := mfl) (mru := mru) (mk := mk) (mn := mn) (mfc := mfc) (mtot := mtot) (mg := mg) (mw := mw) (mga := mga) (mgb := mgb) (mpd := mpd) (mgp := mgp) (ty := ty) (tl := tl) mo 0 0 p).1
  unfold fM_rd
  congr 1
  by_cases e : (rdL ty mcode mtot mfl mru mpd mk mg mw mn mgp mga mgb mfc tl mo 0 0 p).1 = 0
  · rw [if_pos e, if_pos (show nI (rdL ty mcode mtot mfl mru mpd mk mg mw mn mgp mga mgb mfc tl mo 0 0 p).1 = 0 from by rw [e]; rfl)]
  · rw [if_neg e, if_neg (show ¬ nI (rdL ty mcode mtot mfl mru mpd mk mg mw mn mgp mga mgb mfc tl mo 0 0 p).1 = 0 from fun q => e ((nI_eq (b := 0) (by omega) (by decide)).mp q))]
/-- how great a number of two digits is -/
theorem rn_bd : ∀ (n k : Nat) (v : Int32) (p a : Nat), a * 10 ^ n ≤ 1000000 → (k = 0 ∨ (0 ≤ v.toInt ∧ v.toInt < a)) → 1 ≤ a → n + k ≤ 100 →
    ((rnL ft tl n k v p).1 = v ∧ k = 0) ∨ (0 ≤ (rnL ft tl n k v p).1.toInt ∧ (rnL ft tl n k v p).1.toInt < ((a * 10 ^ n : Nat) : Int)) := by
  intro n
  induction n with
  | zero =>
    intro k v p a ha hv h1 _
    rw [rnL]
    rcases hv with h | h
    · exact Or.inl ⟨rfl, h⟩
    · refine Or.inr ?_
      rw [Nat.pow_zero, Nat.mul_one]
      exact h
  | succ n ih =>
    intro k v p a ha hv h1 hk
    have e10 : a * 10 ^ (n + 1) = (a * 10) * 10 ^ n := by rw [Nat.pow_succ, Nat.mul_comm (10 ^ n), Nat.mul_assoc]
    have hpos : 1 ≤ 10 ^ n := Nat.one_le_pow _ _ (by decide)
    have hle : a ≤ a * 10 ^ (n + 1) := Nat.le_mul_of_pos_right _ (Nat.pow_pos (by decide))
    have hle10 : a * 10 ≤ a * 10 ^ (n + 1) := by rw [e10]; exact Nat.le_mul_of_pos_right _ (by omega)
    have stay : ((v, p).1 = v ∧ k = 0) ∨ (0 ≤ (v, p).1.toInt ∧ (v, p).1.toInt < ((a * 10 ^ (n + 1) : Nat) : Int)) := by
      rcases hv with h | h
      · exact Or.inl ⟨rfl, h⟩
      · exact Or.inr ⟨h.1, by show v.toInt < _; omega⟩
    rw [rnL]
    by_cases c1 : fT_next ft tl p < 48
    · rw [if_pos c1]; exact stay
    · rw [if_neg c1]
      by_cases c2 : 57 < fT_next ft tl p
      · rw [if_pos c2]; exact stay
      · rw [if_neg c2]
        have g1 : 48 ≤ (fT_next ft tl p).toInt := by
          have h := Int32.not_lt.mp c1
          rw [Int32.le_iff_toInt_le] at h
          exact h
        have g2 : (fT_next ft tl p).toInt ≤ 57 := by
          have h := Int32.not_lt.mp c2
          rw [Int32.le_iff_toInt_le] at h
          exact h
        have g3 : (fT_next ft tl p - 48).toInt = (fT_next ft tl p).toInt - 48 := by
          rw [Int32.toInt_sub]
          exact bm32 (by show _ ≤ _ - (48 : Int); omega) (by show _ - (48 : Int) < _; omega)
        rw [e10] at ha ⊢
        have go : ∀ w : Int32, 0 ≤ w.toInt → w.toInt < ((a * 10 : Nat) : Int) → ((rnL ft tl n (k + 1) w (p + 1)).1 = v ∧ k = 0) ∨ (0 ≤ (rnL ft tl n (k + 1) w (p + 1)).1.toInt ∧ (rnL ft tl n (k + 1) w (p + 1)).1.toInt < ((a * 10 * 10 ^ n : Nat) : Int)) := by
          intro w w0 w1
          rcases ih (k + 1) w (p + 1) (a * 10) ha (Or.inr ⟨w0, w1⟩) (by omega) (by omega) with h | h
          · exact absurd h.2 (by omega)
          · exact Or.inr h
        by_cases k0 : nI k = 0
        · rw [if_pos k0]
          exact go _ (by omega) (by omega)
        · rw [if_neg k0]
          rcases hv with h | h
          · exact absurd (by rw [h]; rfl) k0
          · have ha2 : a * 10 ≤ 1000000 := by
              rw [← e10] at ha
              omega
            have m1 : (v * 10).toInt = v.toInt * 10 := by
              rw [Int32.toInt_mul]
              exact bm32 (by show _ ≤ v.toInt * (10 : Int); omega) (by show v.toInt * (10 : Int) < _; omega)
            have m2 : (v * 10 + (fT_next ft tl p - 48)).toInt = v.toInt * 10 + ((fT_next ft tl p).toInt - 48) := by
              rw [Int32.toInt_add, m1, g3]
              exact bm32 (by omega) (by omega)
            exact go _ (by omega) (by omega)
end CHR
theorem rgIx_0 {t : Int32} (h : ∀ k : Nat, k < 5 → ¬ rgB.getD k 0 = t) : rgIx t 5 0 = -1 := by
  have e : ∀ k : Nat, k < 5 → ¬ rgB.getD (nI k).toNatClampNeg 0 = t := fun k hk => by rw [nClamp (by omega)]; exact h k hk
  rw [rgIx, if_neg (e 0 (by decide)), rgIx, if_neg (e 1 (by decide)), rgIx, if_neg (e 2 (by decide)), rgIx, if_neg (e 3 (by decide)), rgIx, if_neg (e 4 (by decide)), rgIx]
theorem letter_small : ∀ n : Nat, n < 256 → fJ_ix (nI n) = fM_letterOf (nI n) := by decide +kernel
theorem letter_eq (c : Int32) : fJ_ix c = fM_letterOf c := by
  by_cases h : 0 ≤ c.toInt ∧ c.toInt < 256
  · have e : c = nI c.toInt.toNat := by
      apply Int32.toInt_inj.mp
      rw [nI_toInt (by omega)]
      omega
    rw [e]
    exact letter_small _ (by omega)
  · have h1 : fJ_ix c = -1 := by
      unfold fJ_ix fJ_ix2 fK_ixl fK_can
      by_cases a : c < 0
      · rw [if_pos a]; rfl
      · rw [if_neg a]
        have a' := Int32.not_lt.mp a
        rw [Int32.le_iff_toInt_le, Int32.toInt_zero] at a'
        rw [if_pos (show 255 < c by rw [Int32.lt_iff_toInt_lt]; show (255 : Int) < c.toInt; omega)]; rfl
    have ne : ∀ n : Nat, n < 256 → ¬ c = nI n := fun n hn e => h (by rw [e, nI_toInt (by omega)]; omega)
    rw [h1]
    unfold fM_letterOf
    rw [if_neg (show ¬ c = 114 from ne 114 (by decide)), if_neg (show ¬ c = 103 from ne 103 (by decide)), if_neg (show ¬ c = 110 from ne 110 (by decide)), if_neg (show ¬ c = 119 from ne 119 (by decide)), if_neg (show ¬ c = 116 from ne 116 (by decide))]
