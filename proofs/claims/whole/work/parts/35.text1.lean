/-! ===== the text: bytes, tokens ===== -/
theorem fstN_lt {P : Nat → Bool} : ∀ r i, fstN P r i < i + r → P (fstN P r i) = true := by
  intro r
  induction r with
  | zero => intro i h; simp only [fstN] at h; omega
  | succ r ih =>
    intro i h
    simp only [fstN] at h ⊢
    by_cases c : P i = true
    · rw [if_pos c]; exact c
    · rw [if_neg c] at h ⊢; exact ih (i + 1) (by omega)
theorem fstN_bf {P : Nat → Bool} : ∀ r i k, i ≤ k → k < fstN P r i → P k = false := by
  intro r
  induction r with
  | zero => intro i k h1 h2; simp only [fstN] at h2; omega
  | succ r ih =>
    intro i k h1 h2
    simp only [fstN] at h2
    by_cases c : P i = true
    · rw [if_pos c] at h2; omega
    · rw [if_neg c] at h2
      by_cases e : k = i
      · subst e; simpa using c
      · exact ih (i + 1) k (by omega) h2
theorem fstN_c {P P' : Nat → Bool} : ∀ r i, (∀ k, i ≤ k → k < i + r → P k = P' k) → fstN P r i = fstN P' r i := by
  intro r
  induction r with
  | zero => intro i _; rfl
  | succ r ih =>
    intro i h
    simp only [fstN]
    rw [h i (by omega) (by omega), ih (i + 1) (fun k h1 h2 => h k (by omega) (by omega))]
def srtN (b : Nat) : Nat := if 97 ≤ b ∧ b ≤ 122 then 1 else if 48 ≤ b ∧ b ≤ 57 then 2 else if b = 59 then 3 else 4
theorem sb1 : ∀ b, b < 256 → (sb_b b < 97 ↔ (b < 97 ∨ 128 ≤ b)) := by decide +kernel
theorem sb2 : ∀ b, b < 256 → (122 < sb_b b ↔ (122 < b ∧ b < 128)) := by decide +kernel
theorem sb3 : ∀ b, b < 256 → (sb_b b < 48 ↔ (b < 48 ∨ 128 ≤ b)) := by decide +kernel
theorem sb4 : ∀ b, b < 256 → (57 < sb_b b ↔ (57 < b ∧ b < 128)) := by decide +kernel
theorem sb5 : ∀ b, b < 256 → (sb_b b = 59 ↔ b = 59) := by decide +kernel
theorem sb6 : ∀ b, b < 256 → (sb_b b = 32 ↔ b = 32) := by decide +kernel
theorem sb7 : ∀ b, b < 128 → sb_b b = nI b := by decide +kernel
theorem c_sort {b : Nat} (hb : b < 256) {Q : Int32 → Prop} (hQ : Q (nI (srtN b))) : wp_X8_sortOf (sb_b b) Q := by
  unfold srtN at hQ
  have s3 : ¬ (97 ≤ b ∧ b ≤ 122) → (sb_b b < 48 → (sb_b b = 59 → Q 3) ∧ (¬ (sb_b b = 59) → Q 4)) ∧ (¬ (sb_b b < 48) → (57 < sb_b b → (sb_b b = 59 → Q 3) ∧ (¬ (sb_b b = 59) → Q 4)) ∧ (¬ (57 < sb_b b) → Q 2)) := by
    intro c
    rw [if_neg c] at hQ
    have s5 : ¬ (48 ≤ b ∧ b ≤ 57) → (sb_b b = 59 → Q 3) ∧ (¬ (sb_b b = 59) → Q 4) := by
      intro c2
      rw [if_neg c2] at hQ
      refine ek_if (sb5 b hb) (fun e => ?_) (fun e => ?_)
      · rw [if_pos e] at hQ; exact hQ
      · rw [if_neg e] at hQ; exact hQ
    refine ek_if (sb3 b hb) (fun q => s5 (by omega)) (fun q => ek_if (sb4 b hb) (fun q2 => s5 (by omega)) (fun q2 => ?_))
    rw [if_pos (by omega)] at hQ
    exact hQ
  refine ek_if (sb1 b hb) (fun q => s3 (by omega)) (fun q => ek_if (sb2 b hb) (fun q2 => s3 (by omega)) (fun q2 => ?_))
  rw [if_pos (by omega)] at hQ
  exact hQ
theorem srtN_r (b : Nat) : 1 ≤ srtN b ∧ srtN b ≤ 4 := by unfold srtN; repeat' split
                                                         all_goals omega
theorem srtN_1 {b : Nat} : srtN b = 1 ↔ (97 ≤ b ∧ b ≤ 122) := by
  unfold srtN
  by_cases c : 97 ≤ b ∧ b ≤ 122
  · rw [if_pos c]; exact ⟨fun _ => c, fun _ => rfl⟩
  · rw [if_neg c]; refine ⟨fun z => ?_, fun z => absurd z c⟩
    split at z
    · omega
    · split at z <;> omega
theorem srtN_2 {b : Nat} : srtN b = 2 ↔ (48 ≤ b ∧ b ≤ 57) := by
  unfold srtN
  by_cases c : 97 ≤ b ∧ b ≤ 122
  · rw [if_pos c]; omega
  · rw [if_neg c]
    by_cases c2 : 48 ≤ b ∧ b ≤ 57
    · rw [if_pos c2]; exact ⟨fun _ => c2, fun _ => rfl⟩
    · rw [if_neg c2]; refine ⟨fun z => ?_, fun z => absurd z c2⟩
      split at z <;> omega
theorem srtN_3 {b : Nat} : srtN b = 3 ↔ b = 59 := by
  unfold srtN
  by_cases c : 97 ≤ b ∧ b ≤ 122
  · rw [if_pos c]; omega
  · rw [if_neg c]
    by_cases c2 : 48 ≤ b ∧ b ≤ 57
    · rw [if_pos c2]; omega
    · rw [if_neg c2]
      by_cases c3 : b = 59
      · rw [if_pos c3]; omega
      · rw [if_neg c3]; omega
section Tk
variable (y : Nat → Nat) (n : Nat)
def tS (a : Nat) : Nat := fstN (fun i => !(y i == 32)) (n - a) a
def tK (a : Nat) : Nat := if tS y n a < n then srtN (y (tS y n a)) else 0
def tE (a : Nat) : Nat := if tS y n a < n then (if srtN (y (tS y n a)) = 1 ∨ srtN (y (tS y n a)) = 2 then fstN (fun i => !(srtN (y i) == srtN (y (tS y n a)))) (n - (tS y n a + 1)) (tS y n a + 1) else tS y n a + 1) else tS y n a
def namN (k : Nat) : Nat := (namL.getD k 0).toNatClampNeg
def pmN (w : Nat) : Nat := [0, 1, 2, 3, 4, 5, 8, 9, 6, 7].getD w 0
def WE (s L w : Nat) : Bool := decide (L = lenS.getD (pmN w) 0 ∧ ∀ j, j < L → y (s + j) = namN (7 * w + j))
def wdN (s L : Nat) : Nat := fstN (fun w => WE y s L w) 10 0
def valL : Nat → Nat → Nat → Nat
  | 0, _, v => v
  | r + 1, i, v => valL r (i + 1) (if v ≤ 999 then 10 * v + y i - 48 else v)
def tk (a : Nat) : Nat := if tK y n a = 0 then 22 else if tK y n a = 1 then (if wdN y (tS y n a) (tE y n a - tS y n a) < 10 then wdN y (tS y n a) (tE y n a - tS y n a) else 23) else if tK y n a = 2 then 20 else if tK y n a = 3 then 21 else 23
def tV (a : Nat) : Nat := if tK y n a = 2 then valL y (tE y n a - tS y n a) (tS y n a) 0 else 0
variable {y n}
theorem tS_r {a : Nat} (h : a ≤ n) : a ≤ tS y n a ∧ tS y n a ≤ n := by
  have := fstN_le (fun i => !(y i == 32)) (n - a) a
  unfold tS; omega
theorem tE_r {a : Nat} (h : a ≤ n) : tS y n a ≤ tE y n a ∧ tE y n a ≤ n ∧ (tK y n a ≠ 0 → tS y n a < tE y n a) ∧ a ≤ tE y n a := by
  have h1 := tS_r (y := y) h
  unfold tE tK
  by_cases c : tS y n a < n
  · rw [if_pos c, if_pos c]
    by_cases d : srtN (y (tS y n a)) = 1 ∨ srtN (y (tS y n a)) = 2
    · rw [if_pos d]
      have := fstN_le (fun i => !(srtN (y i) == srtN (y (tS y n a)))) (n - (tS y n a + 1)) (tS y n a + 1)
      omega
    · rw [if_neg d]; omega
  · rw [if_neg c, if_neg c]; omega
theorem tE_in {a k : Nat} (hk : tK y n a = k) (h12 : k = 1 ∨ k = 2) : ∀ i, tS y n a ≤ i → i < tE y n a → srtN (y i) = k := by
  intro i h1 h2
  unfold tK at hk
  unfold tE at h2
  by_cases c : tS y n a < n
  · rw [if_pos c] at hk h2
    rw [if_pos (by omega)] at h2
    by_cases e : i = tS y n a
    · subst e; exact hk
    · have := fstN_bf _ _ i (by omega) h2
      simp at this
      omega
  · rw [if_neg c] at hk; omega
theorem tk_w {a : Nat} : tk y n a ≤ 9 → tK y n a = 1 := by
  unfold tk
  intro h
  by_cases c : tK y n a = 0
  · rw [if_pos c] at h; omega
  · rw [if_neg c] at h
    by_cases c1 : tK y n a = 1
    · exact c1
    · rw [if_neg c1] at h
      split at h
      · omega
      · split at h <;> omega
theorem tk_20 {a : Nat} : tk y n a = 20 ↔ tK y n a = 2 := by
  unfold tk
  by_cases c : tK y n a = 0
  · rw [if_pos c]; omega
  · rw [if_neg c]
    by_cases c1 : tK y n a = 1
    · rw [if_pos c1]; split <;> omega
    · rw [if_neg c1]
      by_cases c2 : tK y n a = 2
      · rw [if_pos c2]; omega
      · rw [if_neg c2]; split <;> omega
theorem tk_22 {a : Nat} : tk y n a = 22 ↔ tK y n a = 0 := by
  unfold tk
  by_cases c : tK y n a = 0
  · rw [if_pos c]; omega
  · rw [if_neg c]
    by_cases c1 : tK y n a = 1
    · rw [if_pos c1]; split <;> omega
    · rw [if_neg c1]; split
      · omega
      · split <;> omega
theorem tk_21 {a : Nat} : tk y n a = 21 ↔ tK y n a = 3 := by
  unfold tk
  by_cases c : tK y n a = 0
  · rw [if_pos c]; omega
  · rw [if_neg c]
    by_cases c1 : tK y n a = 1
    · rw [if_pos c1]; split <;> omega
    · rw [if_neg c1]
      by_cases c2 : tK y n a = 2
      · rw [if_pos c2]; omega
      · rw [if_neg c2]; split <;> omega
theorem tK_r (a : Nat) : tK y n a ≤ 4 := by
  unfold tK; split
  · exact (srtN_r _).2
  · omega
theorem tk_r (a : Nat) : tk y n a ≤ 23 := by
  unfold tk; repeat' split
  all_goals omega
theorem nam0 : ∀ k, k < 70 → namL.getD k 0 = nI (namN k) := by decide
theorem nam1 : ∀ w, w < 10 → pmN w < 10 ∧ 1 ≤ lenS.getD (pmN w) 0 ∧ lenS.getD (pmN w) 0 ≤ 7 ∧ (∀ j, j < 7 → lenS.getD (pmN w) 0 ≤ j → namN (7 * w + j) = 0) ∧ (∀ j, j < lenS.getD (pmN w) 0 → 97 ≤ namN (7 * w + j) ∧ namN (7 * w + j) ≤ 122 ∧ ((bytS.getD (pmN w) []).getD j 0) &&& 255 = nI (namN (7 * w + j))) := by decide +kernel
theorem nam2 : ∀ w, w < 10 → ∀ w', w' < 10 → w ≠ w' → lenS.getD (pmN w) 0 = lenS.getD (pmN w') 0 → ∃ j, j < lenS.getD (pmN w) 0 ∧ namN (7 * w + j) ≠ namN (7 * w' + j) := by decide +kernel
theorem WE_u {s L w w' : Nat} (hw : w < 10) (hw' : w' < 10) (h1 : WE y s L w = true) (h2 : WE y s L w' = true) : w = w' := by
  simp only [WE, decide_eq_true_eq] at h1 h2
  by_cases e : w = w'
  · exact e
  · obtain ⟨j, hj, hne⟩ := nam2 w hw w' hw' e (by omega)
    exact absurd ((h1.2 j (by omega)).symm.trans (h2.2 j (by omega))) hne
theorem wd_eq {s L w : Nat} (hw : w < 10) : WE y s L w = true ↔ wdN y s L = w := by
  have hl := fstN_le (fun w => WE y s L w) 10 0
  constructor
  · intro h
    unfold wdN
    by_cases c : fstN (fun w => WE y s L w) 10 0 < 10
    · exact WE_u c hw (fstN_lt (P := fun w => WE y s L w) 10 0 (by omega)) h
    · have := fstN_bf (P := fun w => WE y s L w) 10 0 w (by omega) (by omega)
      rw [h] at this
      exact absurd this (by decide)
  · intro h
    unfold wdN at h
    have := fstN_lt (P := fun w => WE y s L w) 10 0 (by omega)
    rw [h] at this
    exact this
theorem tk_eq {a w : Nat} (hw : w < 10) : tk y n a = w ↔ tK y n a = 1 ∧ WE y (tS y n a) (tE y n a - tS y n a) w = true := by
  constructor
  · intro h
    have h1 := tk_w (y := y) (n := n) (a := a) (by omega)
    refine ⟨h1, (wd_eq hw).mpr ?_⟩
    unfold tk at h
    rw [if_neg (by omega), if_pos h1] at h
    split at h <;> omega
  · rintro ⟨h1, h2⟩
    have h3 := (wd_eq hw).mp h2
    unfold tk
    rw [if_neg (by omega), if_pos h1, if_pos (by omega)]
    exact h3
theorem valL_r : ∀ r i v, v ≤ 9999 → (∀ k, i ≤ k → k < i + r → y k ≤ 57) → valL y r i v ≤ 9999 := by
  intro r
  induction r with
  | zero => intro i v h _; exact h
  | succ r ih =>
    intro i v h hy
    have := hy i (by omega) (by omega)
    simp only [valL]
    refine ih _ _ ?_ (fun k h1 h2 => hy k (by omega) (by omega))
    split <;> omega
theorem tV_r {a : Nat} (h : a ≤ n) : tV y n a ≤ 9999 := by
  unfold tV
  split
  · rename_i c
    have h1 := tE_r (y := y) h
    exact valL_r _ _ _ (by omega) (fun k h2 h3 => by have := srtN_2.mp (tE_in c (Or.inr rfl) k h2 (by omega)); omega)
  · omega
end Tk
