/-! rules: the class's words and the reference's; the search for the fewest rises -/
/-- the rules of the class stand in the reference's table -/
def rlR (rc : Nat) (fw fr fb to : Nat → Int32) : Prop := ∀ k : Nat, k < rc → (∀ i : Nat, i < 5 → to (7 * k + i) = fw (5 * k + i) ∧ 0 ≤ (fw (5 * k + i)).toInt ∧ (fw (5 * k + i)).toInt ≤ 396) ∧ to (7 * k + 5) = fr k ∧ to (7 * k + 6) = fb k
section HOLD
variable {mcode msz mat mfl mru mfc kind mk mn : Int32} {tot mg mw mga mgb : Int64} {mpd mgp : Bool}
theorem ix7 {k : Nat} (i : Nat) (hk : k < 8) (hi : i < 7) : ((7 * (nI k)) + nI i).toNatClampNeg = 7 * k + i := by
  rw [show (7 : Int32) = nI 7 from rfl, pk_mul, nI_add]
  exact nClamp (by omega)
theorem ix70 {k : Nat} (hk : k < 8) : (7 * (nI k)).toNatClampNeg = 7 * k := by
  rw [show (7 : Int32) = nI 7 from rfl, pk_mul]
  exact nClamp (by omega)
theorem ix5 {k : Nat} (i : Nat) (hk : k < 8) (hi : i < 5) : ((nI k * 5) + nI i).toNatClampNeg = 5 * k + i := by
  rw [show (5 : Int32) = nI 5 from rfl, pk_mul, nI_add, Nat.mul_comm]
  exact nClamp (by omega)
theorem ix50 {k : Nat} (hk : k < 8) : (nI k * 5).toNatClampNeg = 5 * k := by
  rw [show (5 : Int32) = nI 5 from rfl, pk_mul, Nat.mul_comm]
  exact nClamp (by omega)
theorem mul_wide {w : Int32} {j : Nat} (h0 : 0 ≤ w.toInt) (h1 : w.toInt ≤ 396) (hj : j ≤ 60) : (w * nI j).toInt64 = w.toInt64 * (nI j).toInt64 := by
  have hn : (nI j).toInt = (j : Int) := nI_toInt (by omega)
  have hp : w.toInt * (j : Int) ≤ 396 * 60 := Int.mul_le_mul h1 (by omega) (by omega) (by omega)
  have hp0 : 0 ≤ w.toInt * (j : Int) := Int.mul_nonneg h0 (by omega)
  apply Int64.toInt_inj.mp
  rw [Int32.toInt_toInt64, Int32.toInt_mul, hn, bm32 (by omega) (by omega), i64_mul (by rw [Int32.toInt_toInt64, Int32.toInt_toInt64, hn]; omega) (by rw [Int32.toInt_toInt64, Int32.toInt_toInt64, hn]; omega), Int32.toInt_toInt64, Int32.toInt_toInt64, hn]
theorem holds_eq {rc : Nat} {fw fr fb to : Nat → Int32} (hR : rlR rc fw fr fb to) (hrc : rc ≤ 8) {k j : Nat} (hk : k < rc) (hj : j ≤ 60) (cf ct : Int32) (g w : Int64) :
    fM_holds to mcode tot msz mat mfl mru mpd mk mg mw mn mgp mga mgb mfc (nI k) g w (nI j) = fS_holds fw fr fb (nI rc) kind (nI j) tot g w cf ct (nI k) := by
  obtain ⟨hw, hr, hb⟩ := hR k hk
  have k8 : k < 8 := by omega
  have e5 : to ((7 * (nI k)) + 5).toNatClampNeg = fr k := by rw [show (5 : Int32) = nI 5 from rfl, ix7 5 k8 (by decide)]; exact hr
  have e6 : to ((7 * (nI k)) + 6).toNatClampNeg = fb k := by rw [show (6 : Int32) = nI 6 from rfl, ix7 6 k8 (by decide)]; exact hb
  have e0 : to (7 * (nI k)).toNatClampNeg = fw (5 * k) := by rw [ix70 k8]; exact (hw 0 (by decide)).1
  have e1 : to ((7 * (nI k)) + 1).toNatClampNeg = fw (5 * k + 1) := by rw [show (1 : Int32) = nI 1 from rfl, ix7 1 k8 (by decide)]; exact (hw 1 (by decide)).1
  have e2 : to ((7 * (nI k)) + 2).toNatClampNeg = fw (5 * k + 2) := by rw [show (2 : Int32) = nI 2 from rfl, ix7 2 k8 (by decide)]; exact (hw 2 (by decide)).1
  have e3 : to ((7 * (nI k)) + 3).toNatClampNeg = fw (5 * k + 3) := by rw [show (3 : Int32) = nI 3 from rfl, ix7 3 k8 (by decide)]; exact (hw 3 (by decide)).1
  have e4 : to ((7 * (nI k)) + 4).toNatClampNeg = fw (5 * k + 4) := by rw [show (4 : Int32) = nI 4 from rfl, ix7 4 k8 (by decide)]; exact (hw 4 (by decide)).1
  have s0 : ¬ nI k < 0 := nI_nlt (a := k) (b := 0) (by omega) (by omega)
  have s1 : ¬ nI rc ≤ nI k := nI_ge (by omega) (by omega)
  have s2 : nI k < 8 := nI_lt (b := 8) k8 (by decide)
  have s3 : ¬ nI k * 5 < 0 := by
    rw [show (5 : Int32) = nI 5 from rfl, pk_mul]
    exact nI_nlt (a := k * 5) (b := 0) (by omega) (by omega)
  have s4 : nI k * 5 ≤ 40 - 5 := by
    rw [show (5 : Int32) = nI 5 from rfl, pk_mul]
    exact (nI_le (b := 35) (by omega) (by decide) : nI (k * 5) ≤ nI 35)
  have hsum : fS_sum fw fr fb (nI rc) kind (nI j) tot g w cf ct (nI k * 5) = (((to (7 * (nI k)).toNatClampNeg).toInt64) * tot) + ((nI j).toInt64 * ((((((to ((7 * (nI k)) + 1).toNatClampNeg).toInt64) * g) + (((to ((7 * (nI k)) + 2).toNatClampNeg) * (nI j)).toInt64)) + (((to ((7 * (nI k)) + 3).toNatClampNeg).toInt64) * w)) + (((to ((7 * (nI k)) + 4).toNatClampNeg).toInt64) * tot))) := by
    unfold fS_sum
    rw [if_neg s3, if_pos s4, e0, e1, e2, e3, e4, mul_wide (hw 2 (by decide)).2.1 (hw 2 (by decide)).2.2 hj, ix50 k8,
      show (1 : Int32) = nI 1 from rfl, show (2 : Int32) = nI 2 from rfl, show (3 : Int32) = nI 3 from rfl, show (4 : Int32) = nI 4 from rfl, ix5 1 k8 (by decide), ix5 2 k8 (by decide), ix5 3 k8 (by decide), ix5 4 k8 (by decide), Int64.mul_comm (nI j).toInt64]
  unfold fM_holds fS_holds
  rw [if_neg s0, if_neg s1, if_pos s2, hsum, e5, e6, nClamp (show k < 2147483648 by omega)]
theorem held_eq {rc : Nat} {fw fr fb to : Nat → Int32} (hR : rlR rc fw fr fb to) (hrc : rc ≤ 8) {j : Nat} (hj : j ≤ 60) (cf ct : Int32) (g w : Int64) : ∀ (n k : Nat), n + k = rc →
    hldL to mcode tot msz mat mfl mpd mk mg mw mn mgp mga mgb mfc rc g w (nI j) n k = heldL fw fr fb rc kind (nI j) tot g w cf ct n k := by
  intro n
  induction n with
  | zero => intro k _; rw [hldL, heldL]
  | succ n ih =>
    intro k hk
    rw [hldL, heldL, holds_eq (kind := kind) hR hrc (by omega) hj cf ct g w, ih (k + 1) (by omega)]
theorem hold_eq {rc : Nat} {fw fr fb to : Nat → Int32} (hR : rlR rc fw fr fb to) (hrc : rc ≤ 8) {j : Nat} (hj : j ≤ 60) (g w : Int64) : mrH to tot msz mat mfl mpd mk mg mw mn mgp mga mgb mfc rc g w j = runH fw fr fb rc kind tot g w j := by
  unfold mrH runH fM_holding fS_held
  rw [held_eq (kind := kind) hR hrc hj (dcf kind (nI j)) (dct kind (nI j)) g w rc 0 rfl]
end HOLD
section RUN
variable {fw fr fb : Nat → Int32} {rc : Nat} {k1 : Int32} {tot g1 w1 : Int64}
theorem runF_le : ∀ (n j : Nat), j ≤ runF fw fr fb rc k1 tot g1 w1 n j ∧ runF fw fr fb rc k1 tot g1 w1 n j ≤ j + n := by
  intro n
  induction n with
  | zero => intro j; rw [runF]; exact ⟨Nat.le_refl _, Nat.le_refl _⟩
  | succ n ih =>
    intro j
    have h := ih (j + 1)
    rw [runF]
    split
    · exact ⟨Nat.le_refl _, by omega⟩
    · exact ⟨by omega, by omega⟩
/-- the search upward, told from its last place -/
theorem runF_top : ∀ (n j : Nat), runF fw fr fb rc k1 tot g1 w1 (n + 1) j = if runF fw fr fb rc k1 tot g1 w1 n j = j + n then (if runH fw fr fb rc k1 tot g1 w1 (j + n) = nI rc then j + n else j + n + 1) else runF fw fr fb rc k1 tot g1 w1 n j := by
  intro n
  induction n with
  | zero =>
    intro j
    rw [runF, runF, runF]
    rw [if_pos (show j = j + 0 from rfl)]
    rfl
  | succ n ih =>
    intro j
    rw [runF]
    by_cases h : runH fw fr fb rc k1 tot g1 w1 j = nI rc
    · rw [if_pos h]
      have e : runF fw fr fb rc k1 tot g1 w1 (n + 1) j = j := by rw [runF, if_pos h]
      rw [e, if_neg (by omega)]
    · rw [if_neg h, ih (j + 1)]
      have e : runF fw fr fb rc k1 tot g1 w1 (n + 1) j = runF fw fr fb rc k1 tot g1 w1 n (j + 1) := by rw [runF, if_neg h]
      rw [e, show j + 1 + n = j + (n + 1) from by omega]
theorem runM_max : ∀ (n j : Nat) (b c : Int32), runM fw fr fb rc k1 tot g1 w1 n j (if b < c then c else b) = (if runM fw fr fb rc k1 tot g1 w1 n j b < c then c else runM fw fr fb rc k1 tot g1 w1 n j b) := by
  intro n
  induction n with
  | zero => intro j b c; rw [runM, runM]
  | succ n ih =>
    intro j b c
    rw [runM, runM]
    generalize runH fw fr fb rc k1 tot g1 w1 j = h
    have e : (if (if b < c then c else b) < h then h else (if b < c then c else b)) = (if (if b < h then h else b) < c then c else (if b < h then h else b)) := by
      simp only [Int32.lt_iff_toInt_lt]
      repeat' split
      all_goals first | rfl | omega | (apply Int32.toInt_inj.mp; omega)
    rw [e]
    exact ih (j + 1) _ c
theorem runM_top : ∀ (n j : Nat) (b : Int32), runM fw fr fb rc k1 tot g1 w1 (n + 1) j b = (if runM fw fr fb rc k1 tot g1 w1 n j b < runH fw fr fb rc k1 tot g1 w1 (j + n) then runH fw fr fb rc k1 tot g1 w1 (j + n) else runM fw fr fb rc k1 tot g1 w1 n j b) := by
  intro n
  induction n with
  | zero => intro j b; rw [runM, runM, runM]; rfl
  | succ n ih =>
    intro j b
    rw [runM, ih (j + 1), show j + 1 + n = j + (n + 1) from by omega]
    rw [show runM fw fr fb rc k1 tot g1 w1 (n + 1) j b = runM fw fr fb rc k1 tot g1 w1 n (j + 1) (if b < runH fw fr fb rc k1 tot g1 w1 j then runH fw fr fb rc k1 tot g1 w1 j else b) from by rw [runM]]
end RUN
section RUN2
variable {fw fr fb to : Nat → Int32} {rc : Nat} {kind msz mat mfl mfc mk mn : Int32} {tot mg mw mga mgb g w : Int64} {mpd mgp : Bool}
theorem mrF_eq (hR : rlR rc fw fr fb to) (hrc : rc ≤ 8) (fm : Nat) : ∀ (n : Nat) (b : Int32), fm + n ≤ 60 → mrF to tot msz mat mfl mpd mk mg mw mn mgp mga mgb mfc rc g w fm n b = (if runF fw fr fb rc kind tot g w n (fm + 1) = fm + 1 + n then b else nI (runF fw fr fb rc kind tot g w n (fm + 1))) := by
  intro n
  induction n with
  | zero => intro b _; rw [mrF, runF, if_pos rfl]
  | succ n ih =>
    intro b hn
    have hle := runF_le (fw := fw) (fr := fr) (fb := fb) (rc := rc) (k1 := kind) (tot := tot) (g1 := g) (w1 := w) n (fm + 1)
    rw [mrF, hold_eq (kind := kind) hR hrc (by omega) g w, runF_top, show fm + 1 + n = fm + (n + 1) from by omega]
    by_cases h : runH fw fr fb rc kind tot g w (fm + (n + 1)) = nI rc
    · rw [if_pos h, if_pos h, ih _ (by omega), show fm + 1 + n = fm + (n + 1) from by omega]
      by_cases h2 : runF fw fr fb rc kind tot g w n (fm + 1) = fm + (n + 1)
      · rw [if_pos h2, if_pos h2, if_neg (by omega)]
      · rw [if_neg h2, if_neg h2, if_neg (by omega)]
    · rw [if_neg h, if_neg h, ih _ (by omega), show fm + 1 + n = fm + (n + 1) from by omega]
      by_cases h2 : runF fw fr fb rc kind tot g w n (fm + 1) = fm + (n + 1)
      · rw [if_pos h2, if_pos h2, if_pos (by omega)]
      · rw [if_neg h2, if_neg h2, if_neg (by omega)]
theorem mrB_eq (hR : rlR rc fw fr fb to) (hrc : rc ≤ 8) (fm : Nat) : ∀ (n : Nat) (b : Int32), fm + n ≤ 60 → mrB to tot msz mat mfl mpd mk mg mw mn mgp mga mgb mfc rc g w fm n b = runM fw fr fb rc kind tot g w n (fm + 1) b := by
  intro n
  induction n with
  | zero => intro b _; rw [mrB, runM]
  | succ n ih =>
    intro b hn
    rw [mrB, hold_eq (kind := kind) hR hrc (by omega) g w, runM_top, show fm + 1 + n = fm + (n + 1) from by omega, ← runM_max]
    by_cases h : runH fw fr fb rc kind tot g w (fm + (n + 1)) ≤ b
    · rw [if_pos h, if_neg (Int32.not_lt.mpr h), ih _ (by omega)]
    · rw [if_neg h, if_pos (Int32.not_le.mp h), ih _ (by omega)]
end RUN2
