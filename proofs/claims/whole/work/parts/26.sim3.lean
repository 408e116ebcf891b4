/-! ===== sets, sums ===== -/
def setL (b : Nat → Bool) : Nat → Nat → Int32 → Int32
  | 0, _, a => a
  | r + 1, t, a => setL b r (t + 1) (if b t then a ||| (1 <<< (nI t &&& 31)) else a)
def sumL (f : Nat → Int32) : Nat → Nat → Int32 → Int32
  | 0, _, a => a
  | r + 1, t, a => sumL f r (t + 1) (a + f t)
theorem sumL_c {f g : Nat → Int32} : ∀ r t a, (∀ i, i < t + r → f i = g i) → sumL f r t a = sumL g r t a := by
  intro r
  induction r with
  | zero => intro t a _; rfl
  | succ r ih =>
    intro t a h
    simp only [sumL]
    rw [h t (by omega)]
    exact ih _ _ (fun i hi => h i (by omega))
theorem wI_inj {a b : Nat} (ha : a ≤ 6) (hb : b ≤ 6) : wI a = wI b ↔ a = b := by
  cases b with
  | zero => exact wI_m1 a (by omega)
  | succ p => exact wI_p a p (by omega) (by omega)
section S3
variable {fd fo sk ze ma ki dn wi du m : Nat → Int32} {yr sz : Int32} {A : AS}
theorem c_finS_l (h4 : RN dn 8 (A 4)) (hI : Inv A) {K : Int32 → Int32 → Prop} : ∀ r t a, t + r = A 7 0 → K (setL (fun t => A 4 t == 100) r t a) (nI (A 7 0)) → wpl_X2_finishedSet_4 dn (nI (A 7 0)) K (r + 1) a (nI t) := by
  have h8 := hI.1
  intro r
  induction r with
  | zero =>
    intro t a ht hK
    rw [wpl_X2_finishedSet_4]
    refine br_t ((cle (by omega) (by omega)).mpr (by omega)) ?_
    rw [show t = A 7 0 by omega]
    exact hK
  | succ r ih =>
    intro t a ht hK
    rw [wpl_X2_finishedSet_4, nI_1]
    refine br_f (fun z => absurd ((cle (by omega) (by omega)).mp z) (by omega)) ?_
    simp only [setL] at hK
    refine c_isFinished h4 (by omega) (hI.2.2 t (by omega)).2.1 (fun e => br_f (by decide) ?_) (fun e => br_t rfl ?_)
    · exact ih (t + 1) _ (by omega) (by simpa [e] using hK)
    · exact ih (t + 1) _ (by omega) (by simpa [e] using hK)
def finS (A : AS) : Int32 := setL (fun t => A 4 t == 100) (A 7 0) 0 0
def hldS (A : AS) (w : Nat) : Int32 := setL (fun t => A 5 t == w) (A 7 0) 0 0
theorem c_finishedSet (h4 : RN dn 8 (A 4)) (hI : Inv A) {Q : Int32 → Prop} (hQ : Q (finS A)) : wp_X2_finishedSet dn (nI (A 7 0)) Q :=
  ⟨A 7 0 + 1, c_finS_l h4 hI _ 0 0 (by omega) hQ⟩
theorem m_done_l (h : RelM m A yr) (hI : Inv A) {K : Int32 → Int32 → Prop} : ∀ r t a, t + r = A 7 0 → K (setL (fun t => A 4 t == 100) r t a) (nI (A 7 0)) → wpl_X10_doneOnes_4 m K (r + 1) a (nI t) := by
  have h8 := hI.1
  intro r
  induction r with
  | zero =>
    intro t a ht hK
    rw [wpl_X10_doneOnes_4, RelM_sz h]
    refine ⟨vp_lit 1 (by decide) (by decide), br_t ((cle (by omega) (by omega)).mpr (by omega)) ?_⟩
    rw [show t = A 7 0 by omega]
    exact hK
  | succ r ih =>
    intro t a ht hK
    rw [wpl_X10_doneOnes_4, RelM_sz h, nI_1, Int32.or_zero]
    refine ⟨vp_lit 1 (by decide) (by decide), br_f (fun z => absurd ((cle (by omega) (by omega)).mp z) (by omega)) ?_⟩
    simp only [setL] at hK
    refine m_isDone h hI (by omega) (fun e => br_f (by decide) ?_) (fun e => br_t rfl ?_)
    · exact ih (t + 1) _ (by omega) (by simpa [e] using hK)
    · exact ih (t + 1) _ (by omega) (by simpa [e] using hK)
theorem m_doneOnes (h : RelM m A yr) (hI : Inv A) {Q : Int32 → Prop} (hQ : Q (finS A)) : wp_X10_doneOnes m Q :=
  ⟨A 7 0 + 1, m_done_l h hI _ 0 0 (by omega) hQ⟩
theorem c_hldS_l (h5 : RW wi 8 (A 5)) (hI : Inv A) {w : Nat} (hw : w ≤ 6) {K : Int32 → Int32 → Prop} : ∀ r t a, t + r = A 7 0 → K (setL (fun t => A 5 t == w) r t a) (nI (A 7 0)) → wpl_X2_heldSet_4 wi (nI (A 7 0)) (wI w) K (r + 1) a (nI t) := by
  have h8 := hI.1
  intro r
  induction r with
  | zero =>
    intro t a ht hK
    rw [wpl_X2_heldSet_4]
    refine br_t ((cle (by omega) (by omega)).mpr (by omega)) ?_
    rw [show t = A 7 0 by omega]
    exact hK
  | succ r ih =>
    intro t a ht hK
    rw [wpl_X2_heldSet_4, nI_1, nI_clamp (by omega), h5 t (by omega)]
    refine br_f (fun z => absurd ((cle (by omega) (by omega)).mp z) (by omega)) ⟨vp_in_nI (by omega) (by decide), ?_⟩
    simp only [setL] at hK
    refine ek_if (wI_inj (hI.2.2 t (by omega)).2.2.1 hw) (fun e => ?_) (fun e => ?_)
    · exact ih (t + 1) _ (by omega) (by simpa [e] using hK)
    · exact ih (t + 1) _ (by omega) (by simpa [e] using hK)
theorem c_heldSet (h5 : RW wi 8 (A 5)) (hI : Inv A) {w : Nat} (hw : w ≤ 6) {Q : Int32 → Prop} (hQ : Q (hldS A w)) : wp_X2_heldSet wi (nI (A 7 0)) (wI w) Q :=
  ⟨A 7 0 + 1, c_hldS_l h5 hI hw _ 0 0 (by omega) hQ⟩
theorem m_with_l (h : RelM m A yr) (hI : Inv A) {w : Nat} (hw : w ≤ 6) {K : Int32 → Int32 → Prop} : ∀ r t a, t + r = A 7 0 → K (setL (fun t => A 5 t == w) r t a) (nI (A 7 0)) → wpl_X10_withOf_4 m (wI w) K (r + 1) a (nI t) := by
  have h8 := hI.1
  intro r
  induction r with
  | zero =>
    intro t a ht hK
    rw [wpl_X10_withOf_4, RelM_sz h]
    refine ⟨vp_lit 1 (by decide) (by decide), br_t ((cle (by omega) (by omega)).mpr (by omega)) ?_⟩
    rw [show t = A 7 0 by omega]
    exact hK
  | succ r ih =>
    intro t a ht hK
    rw [wpl_X10_withOf_4, RelM_sz h, nI_1, Int32.or_zero]
    refine ⟨vp_lit 1 (by decide) (by decide), br_f (fun z => absurd ((cle (by omega) (by omega)).mp z) (by omega)) ?_⟩
    simp only [setL] at hK
    refine m_it2 h (by omega) (ek_if (wI_inj (hI.2.2 t (by omega)).2.2.1 hw) (fun e => ?_) (fun e => ?_))
    · exact ih (t + 1) _ (by omega) (by simpa [e] using hK)
    · exact ih (t + 1) _ (by omega) (by simpa [e] using hK)
theorem m_withOf (h : RelM m A yr) (hI : Inv A) {w : Nat} (hw : w ≤ 6) {Q : Int32 → Prop} (hQ : Q (hldS A w)) : wp_X10_withOf m (wI w) Q :=
  ⟨A 7 0 + 1, m_with_l h hI hw _ 0 0 (by omega) hQ⟩
theorem c_sum_l {f : Nat → Int32} {n rn : Nat} (hn : n ≤ rn) (hr : rn < 2 ^ 31) {K : Int32 → Int32 → Prop} : ∀ r t a, t + r = n → K (sumL f r t a) (nI n) → wpl_X9_sum_4 f (nI n) rn K (r + 1) a (nI t) := by
  intro r
  induction r with
  | zero =>
    intro t a ht hK
    rw [wpl_X9_sum_4]
    refine br_t ((cle (by omega) (by omega)).mpr (by omega)) ?_
    rw [show t = n by omega]
    exact hK
  | succ r ih =>
    intro t a ht hK
    rw [wpl_X9_sum_4, nI_1, nI_clamp (by omega)]
    refine br_f (fun z => absurd ((cle (by omega) (by omega)).mp z) (by omega)) (br_f (fun z => absurd ((cle (a := rn) (by omega) (by omega)).mp z) (by omega)) ⟨vp_in_nI (by omega) (by omega), ?_⟩)
    exact ih (t + 1) _ (by omega) hK
theorem c_sum {f : Nat → Int32} {n rn : Nat} (hn : n ≤ rn) (hr : rn < 2 ^ 31) {Q : Int32 → Prop} (hQ : Q (sumL f n 0 0)) : wp_X9_sum f rn (nI n) Q :=
  ⟨n + 1, c_sum_l hn hr _ 0 0 (by omega) hQ⟩
theorem m_sums_l (h : RelM m A yr) (hI : Inv A) {k : Nat} (hk : k < 4) (hk2 : k ≠ 2) {K : Int32 → Int32 → Prop} : ∀ r t a, t + r = A 7 0 → K (sumL (fun t => nI (A (3 + k) t)) r t a) (nI (A 7 0)) → wpl_X10_sums_4 m (nI k) K (r + 1) a (nI t) := by
  have h8 := hI.1
  intro r
  induction r with
  | zero =>
    intro t a ht hK
    rw [wpl_X10_sums_4, RelM_sz h]
    refine ⟨vp_lit 1 (by decide) (by decide), br_t ((cle (by omega) (by omega)).mpr (by omega)) ?_⟩
    rw [show t = A 7 0 by omega]
    exact hK
  | succ r ih =>
    intro t a ht hK
    rw [wpl_X10_sums_4, RelM_sz h, nI_1]
    refine ⟨vp_lit 1 (by decide) (by decide), br_f (fun z => absurd ((cle (by omega) (by omega)).mp z) (by omega)) ?_⟩
    refine m_it h (by omega) hk ?_
    rw [if_neg hk2]
    exact ih (t + 1) _ (by omega) hK
def dneS (A : AS) : Int32 := sumL (fun t => nI (A 4 t)) (A 7 0) 0 0
theorem m_sums (h : RelM m A yr) (hI : Inv A) {k : Nat} (hk : k < 4) (hk2 : k ≠ 2) {Q : Int32 → Prop} (hQ : Q (sumL (fun t => nI (A (3 + k) t)) (A 7 0) 0 0)) : wp_X10_sums m (nI k) Q :=
  ⟨A 7 0 + 1, m_sums_l h hI hk hk2 _ 0 0 (by omega) hQ⟩
theorem m_doneAll (h : RelM m A yr) (hI : Inv A) {Q : Int32 → Prop} (hQ : Q (dneS A)) : wp_X10_sums m 1 Q := m_sums (k := 1) h hI (by decide) (by decide) hQ
theorem c_doneAll (h4 : RN dn 8 (A 4)) (hI : Inv A) {Q : Int32 → Prop} (hQ : Q (dneS A)) : wp_X2_doneOfAll dn (nI (A 7 0)) Q := by
  have h8 := hI.1
  refine c_sum h8 (by decide) ?_
  rw [sumL_c (g := fun t => nI (A 4 t)) _ _ _ (fun i hi => h4 i (by omega))]
  exact hQ
theorem m_made_l (h : RelM m A yr) {K : Int32 → Int32 → Prop} : ∀ r t a, t + r = 6 → K (sumL (fun t => nI (A 2 t)) r t a) (nI 6) → wpl_X10_allMade_4 m K (r + 1) a (nI t) := by
  intro r
  induction r with
  | zero =>
    intro t a ht hK
    rw [wpl_X10_allMade_4, show t = 6 by omega]
    exact br_t (by decide) hK
  | succ r ih =>
    intro t a ht hK
    rw [wpl_X10_allMade_4, nI_1]
    refine br_f (fun z => absurd ((cle (a := 6) (by decide) (by omega)).mp z) (by omega)) (m_his (k := 2) h (by omega) (by decide) ?_)
    exact ih (t + 1) _ (by omega) hK
theorem m_allMade (h : RelM m A yr) {Q : Int32 → Prop} (hQ : Q (sumL (fun t => nI (A 2 t)) 6 0 0)) : wp_X10_allMade m Q :=
  ⟨7, m_made_l h 6 0 0 (by omega) hQ⟩
/-! ===== how many in a set ===== -/
def cntB (b : Nat → Bool) : Nat → Nat → Nat
  | 0, _ => 0
  | r + 1, t => (if b t then 1 else 0) + cntB b r (t + 1)
def bcV (a1 : Int32) : Int32 := ((((((((a1 - ((((a1).toUInt32 >>> ((1 : Int32).toUInt32 &&& Int32.toUInt32 31)).toInt32) &&& 1431655765)) &&& 858993459) + ((((a1 - ((((a1).toUInt32 >>> ((1 : Int32).toUInt32 &&& Int32.toUInt32 31)).toInt32) &&& 1431655765)).toUInt32 >>> ((2 : Int32).toUInt32 &&& Int32.toUInt32 31)).toInt32) &&& 858993459)) + (((((a1 - ((((a1).toUInt32 >>> ((1 : Int32).toUInt32 &&& Int32.toUInt32 31)).toInt32) &&& 1431655765)) &&& 858993459) + ((((a1 - ((((a1).toUInt32 >>> ((1 : Int32).toUInt32 &&& Int32.toUInt32 31)).toInt32) &&& 1431655765)).toUInt32 >>> ((2 : Int32).toUInt32 &&& Int32.toUInt32 31)).toInt32) &&& 858993459)).toUInt32 >>> ((4 : Int32).toUInt32 &&& Int32.toUInt32 31)).toInt32)) &&& 252645135) + (((((((a1 - ((((a1).toUInt32 >>> ((1 : Int32).toUInt32 &&& Int32.toUInt32 31)).toInt32) &&& 1431655765)) &&& 858993459) + ((((a1 - ((((a1).toUInt32 >>> ((1 : Int32).toUInt32 &&& Int32.toUInt32 31)).toInt32) &&& 1431655765)).toUInt32 >>> ((2 : Int32).toUInt32 &&& Int32.toUInt32 31)).toInt32) &&& 858993459)) + (((((a1 - ((((a1).toUInt32 >>> ((1 : Int32).toUInt32 &&& Int32.toUInt32 31)).toInt32) &&& 1431655765)) &&& 858993459) + ((((a1 - ((((a1).toUInt32 >>> ((1 : Int32).toUInt32 &&& Int32.toUInt32 31)).toInt32) &&& 1431655765)).toUInt32 >>> ((2 : Int32).toUInt32 &&& Int32.toUInt32 31)).toInt32) &&& 858993459)).toUInt32 >>> ((4 : Int32).toUInt32 &&& Int32.toUInt32 31)).toInt32)) &&& 252645135).toUInt32 >>> ((8 : Int32).toUInt32 &&& Int32.toUInt32 31)).toInt32)) + ((((((((a1 - ((((a1).toUInt32 >>> ((1 : Int32).toUInt32 &&& Int32.toUInt32 31)).toInt32) &&& 1431655765)) &&& 858993459) + ((((a1 - ((((a1).toUInt32 >>> ((1 : Int32).toUInt32 &&& Int32.toUInt32 31)).toInt32) &&& 1431655765)).toUInt32 >>> ((2 : Int32).toUInt32 &&& Int32.toUInt32 31)).toInt32) &&& 858993459)) + (((((a1 - ((((a1).toUInt32 >>> ((1 : Int32).toUInt32 &&& Int32.toUInt32 31)).toInt32) &&& 1431655765)) &&& 858993459) + ((((a1 - ((((a1).toUInt32 >>> ((1 : Int32).toUInt32 &&& Int32.toUInt32 31)).toInt32) &&& 1431655765)).toUInt32 >>> ((2 : Int32).toUInt32 &&& Int32.toUInt32 31)).toInt32) &&& 858993459)).toUInt32 >>> ((4 : Int32).toUInt32 &&& Int32.toUInt32 31)).toInt32)) &&& 252645135) + (((((((a1 - ((((a1).toUInt32 >>> ((1 : Int32).toUInt32 &&& Int32.toUInt32 31)).toInt32) &&& 1431655765)) &&& 858993459) + ((((a1 - ((((a1).toUInt32 >>> ((1 : Int32).toUInt32 &&& Int32.toUInt32 31)).toInt32) &&& 1431655765)).toUInt32 >>> ((2 : Int32).toUInt32 &&& Int32.toUInt32 31)).toInt32) &&& 858993459)) + (((((a1 - ((((a1).toUInt32 >>> ((1 : Int32).toUInt32 &&& Int32.toUInt32 31)).toInt32) &&& 1431655765)) &&& 858993459) + ((((a1 - ((((a1).toUInt32 >>> ((1 : Int32).toUInt32 &&& Int32.toUInt32 31)).toInt32) &&& 1431655765)).toUInt32 >>> ((2 : Int32).toUInt32 &&& Int32.toUInt32 31)).toInt32) &&& 858993459)).toUInt32 >>> ((4 : Int32).toUInt32 &&& Int32.toUInt32 31)).toInt32)) &&& 252645135).toUInt32 >>> ((8 : Int32).toUInt32 &&& Int32.toUInt32 31)).toInt32)).toUInt32 >>> ((16 : Int32).toUInt32 &&& Int32.toUInt32 31)).toInt32)) &&& 63)
theorem p_bc {a : Int32} {Q : Int32 → Prop} (hQ : Q (bcV a)) : wp_J6_bitCount_0f7a4 a Q := hQ
theorem bc8 : ∀ b0 b1 b2 b3 b4 b5 b6 b7 : Bool, bcV (setL (fun t => [b0, b1, b2, b3, b4, b5, b6, b7].getD t false) 8 0 0) = nI (cntB (fun t => [b0, b1, b2, b3, b4, b5, b6, b7].getD t false) 8 0) := by decide +kernel
theorem setL_8 (b : Nat → Bool) {n : Nat} (hn : n ≤ 8) : setL b n 0 0 = setL (fun t => [b 0 && decide (0 < n), b 1 && decide (1 < n), b 2 && decide (2 < n), b 3 && decide (3 < n), b 4 && decide (4 < n), b 5 && decide (5 < n), b 6 && decide (6 < n), b 7 && decide (7 < n)].getD t false) 8 0 0 := by
  rcases (by omega : n = 0 ∨ n = 1 ∨ n = 2 ∨ n = 3 ∨ n = 4 ∨ n = 5 ∨ n = 6 ∨ n = 7 ∨ n = 8) with e | e | e | e | e | e | e | e | e <;> subst e <;> simp [setL]
theorem cntB_8 (b : Nat → Bool) {n : Nat} (hn : n ≤ 8) : cntB b n 0 = cntB (fun t => [b 0 && decide (0 < n), b 1 && decide (1 < n), b 2 && decide (2 < n), b 3 && decide (3 < n), b 4 && decide (4 < n), b 5 && decide (5 < n), b 6 && decide (6 < n), b 7 && decide (7 < n)].getD t false) 8 0 := by
  rcases (by omega : n = 0 ∨ n = 1 ∨ n = 2 ∨ n = 3 ∨ n = 4 ∨ n = 5 ∨ n = 6 ∨ n = 7 ∨ n = 8) with e | e | e | e | e | e | e | e | e <;> subst e <;> simp [cntB]
theorem bc_set (b : Nat → Bool) {n : Nat} (hn : n ≤ 8) : bcV (setL b n 0 0) = nI (cntB b n 0) := by
  rw [setL_8 b hn, cntB_8 b hn]; exact bc8 _ _ _ _ _ _ _ _
theorem bitx : ∀ t, t < 8 → ∀ i, i < 32 → ((1 : Int32) <<< (nI t &&& 31)).toBitVec.getLsbD i = decide (i = t) := by decide
theorem bitm : ∀ i, i < 32 → (-1 : Int32).toBitVec.getLsbD i = true := by decide
theorem bitg (x1 x2 y1 y2 z : Bool) : ∀ e : Bool, (e = true → x1 = false ∧ x2 = false) → z = e → ((y1 = true ∧ y2 = true → ((x1 || z) && ((x2 || z) ^^ true)) = (x1 && (x2 ^^ true))) ∧ (y1 = true ∧ ¬ y2 = true → ((x1 || z) && (x2 ^^ true)) = ((x1 && (x2 ^^ true)) || z)) ∧ (¬ y1 = true ∧ y2 = true → (x1 && ((x2 || z) ^^ true)) = (x1 && (x2 ^^ true)))) := by
  revert x1 x2 y1 y2 z; decide
theorem andNot (b c : Nat → Bool) {n : Nat} (hn : n ≤ 8) : setL b n 0 0 &&& (setL c n 0 0 ^^^ (-1)) = setL (fun t => b t && !c t) n 0 0 := by
  have key : ∀ r t (a1 a2 a3 : Int32), t + r ≤ 8 → (∀ i, i < 32 → t ≤ i → a1.toBitVec.getLsbD i = false ∧ a2.toBitVec.getLsbD i = false) → a1 &&& (a2 ^^^ (-1)) = a3 → setL b r t a1 &&& (setL c r t a2 ^^^ (-1)) = setL (fun t => b t && !c t) r t a3 := by
    intro r
    induction r with
    | zero => intro t a1 a2 a3 _ _ h; exact h
    | succ r ih =>
      intro t a1 a2 a3 ht hb h
      simp only [setL]
      have e1 : ∃ x : Int32, (1 <<< (nI t &&& 31) : Int32) = x ∧ ∀ i, i < 32 → x.toBitVec.getLsbD i = decide (i = t) := by
        exact ⟨_, rfl, bitx t (by omega)⟩
      obtain ⟨x, ex, hx⟩ := e1
      rw [ex]
      refine ih (t + 1) _ _ _ (by omega) (fun i hi hti => ?_) ?_
      · have h1 := hb i hi (by omega)
        have h2 := hx i hi
        rw [decide_eq_false (by omega)] at h2
        constructor
        · split
          · rw [Int32.toBitVec_or, BitVec.getLsbD_or, h1.1, h2]; rfl
          · exact h1.1
        · split
          · rw [Int32.toBitVec_or, BitVec.getLsbD_or, h1.2, h2]; rfl
          · exact h1.2
      · rw [← h]
        apply Int32.toBitVec_inj.mp
        apply BitVec.eq_of_getLsbD_eq
        intro i hi
        have h1 := hb i hi
        have h2 := hx i hi
        have hm := bitm i hi
        have g := bitg (a1.toBitVec.getLsbD i) (a2.toBitVec.getLsbD i) (b t) (c t) (x.toBitVec.getLsbD i) (decide (i = t)) (fun e => h1 (by have := of_decide_eq_true e; omega)) h2
        by_cases hbt : b t = true
        · by_cases hct : c t = true
          · rw [if_pos hbt, if_pos hct, if_neg (by simp [hct])]
            simp only [Int32.toBitVec_and, Int32.toBitVec_or, Int32.toBitVec_xor, BitVec.getLsbD_and, BitVec.getLsbD_or, BitVec.getLsbD_xor, hm]
            exact g.1 ⟨hbt, hct⟩
          · rw [if_pos hbt, if_neg hct, if_pos (by simp [hbt, hct])]
            simp only [Int32.toBitVec_and, Int32.toBitVec_or, Int32.toBitVec_xor, BitVec.getLsbD_and, BitVec.getLsbD_or, BitVec.getLsbD_xor, hm]
            exact g.2.1 ⟨hbt, hct⟩
        · by_cases hct : c t = true
          · rw [if_neg hbt, if_pos hct, if_neg (by simp [hct])]
            simp only [Int32.toBitVec_and, Int32.toBitVec_or, Int32.toBitVec_xor, BitVec.getLsbD_and, BitVec.getLsbD_or, BitVec.getLsbD_xor, hm]
            exact g.2.2 ⟨hbt, hct⟩
          · rw [if_neg hbt, if_neg hct, if_neg (by simp [hbt])]
  exact key n 0 0 0 _ (by omega) (fun i _ _ => by simp) (by decide)
theorem cntB_cntN (A : AS) (p : Nat) : ∀ r t, cntB (fun t => A 5 t == p + 1 && !(A 4 t == 100)) r t = cntN A p t r := by
  intro r
  induction r with
  | zero => intro t; rfl
  | succ r ih =>
    intro t
    simp only [cntB, cntN]
    rw [ih]
    congr 1
    by_cases e1 : A 5 t = p + 1 <;> by_cases e2 : A 4 t = 100 <;> simp [e1, e2]
theorem bc_open (A : AS) (hI : Inv A) (p : Nat) : bcV (hldS A (p + 1) &&& (finS A ^^^ (-1))) = nI (cnt A p) := by
  unfold hldS finS cnt
  rw [andNot _ _ hI.1, bc_set _ hI.1, cntB_cntN]
theorem m_howMany_l (h : RelM m A yr) (hI : Inv A) {K : Int32 → Int32 → Prop} : ∀ r t c, t + r = A 7 0 → K (nI (c + cntB (fun t => A 4 t == 100) r t)) (nI (A 7 0)) → wpl_X10_howMany_4 m K (r + 1) (nI c) (nI t) := by
  have h8 := hI.1
  intro r
  induction r with
  | zero =>
    intro t c ht hK
    rw [wpl_X10_howMany_4, RelM_sz h]
    refine ⟨vp_lit 1 (by decide) (by decide), br_t ((cle (by omega) (by omega)).mpr (by omega)) ?_⟩
    rw [show t = A 7 0 by omega]
    exact hK
  | succ r ih =>
    intro t c ht hK
    rw [wpl_X10_howMany_4, RelM_sz h, nI_1, nI_1, i0]
    refine ⟨vp_lit 1 (by decide) (by decide), br_f (fun z => absurd ((cle (by omega) (by omega)).mp z) (by omega)) ?_⟩
    simp only [cntB] at hK
    refine m_isDone h hI (by omega) (fun e => br_f (by decide) ?_) (fun e => br_t rfl ?_)
    · exact ih (t + 1) _ (by omega) (by simpa [e, Nat.add_assoc] using hK)
    · exact ih (t + 1) _ (by omega) (by simpa [e] using hK)
theorem m_howMany (h : RelM m A yr) (hI : Inv A) {Q : Int32 → Prop} (hQ : Q (bcV (finS A))) : wp_X10_howMany m Q := by
  refine ⟨A 7 0 + 1, m_howMany_l h hI _ 0 0 (by omega) ?_⟩
  rw [Nat.zero_add, ← bc_set _ hI.1]
  exact hQ
/-! ===== leave, goesTo, years, now, personOf, status ===== -/
def lvN (A : AS) (t : Nat) : AS := u2 (u2 (u2 A 5 t 0) 6 t 0) 1 (A 5 t - 1) 4
theorem lvN_inv (hI : Inv A) (t : Nat) : Inv (lvN A t) := ((hI.t (k := 2) 0 (by decide) (by simp)).t (k := 3) 0 (by decide) (by simp)).p (k := 1) 4 (by decide) (by simp)
theorem c_letGo (hC : RelC sk ze ma ki dn wi du sz A) (hI : Inv A) {t : Nat} (ht : t < 8) (hw : A 5 t ≠ 0) {Q : (Nat → Int32) → (Nat → Int32) → (Nat → Int32) → Prop} (hQ : ∀ ze' wi' du', RelC sk ze' ma ki dn wi' du' sz (lvN A t) → Q ze' wi' du') : wp_X2_letGo ze wi du (nI t) Q := by
  obtain ⟨p, hp⟩ : ∃ p, A 5 t = p + 1 := ⟨A 5 t - 1, by omega⟩
  have h5 := (hI.2.2 t ht).2.2.1
  have ew : wi t = nI p := by rw [hC.2.2.2.2.2.1 t ht, hp]; rfl
  have vt : vp_in (nI t) 8 := vp_in_nI ht (by decide)
  unfold wp_X2_letGo
  rw [nI_clamp (by omega), ew, nI_clamp (by omega)]
  refine ⟨vt, vp_in_nI (by omega) (by decide), vt, vt, hQ _ _ _ ?_⟩
  unfold lvN
  rw [hp]
  exact ((hC.u_wi t 0).u_du t 0).u_ze p 4
theorem m_leaves (h : RelM m A yr) (hI : Inv A) {t : Nat} (ht : t < 8) (hw : A 5 t ≠ 0) {Q : Int32 → (Nat → Int32) → Prop} (hQ : ∀ m', RelM m' (lvN A t) yr → Q (wI (A 5 t)) m') : wp_X10_leaves m (nI t) Q := by
  obtain ⟨p, hp⟩ : ∃ p, A 5 t = p + 1 := ⟨A 5 t - 1, by omega⟩
  have h5 := (hI.2.2 t ht).2.2.1
  refine m_it2 h ht (m_put (k := 2) (v := 0) h ht (by decide) (by simp [wI]) (fun m2 h2 => m_put (k := 3) (v := 0) h2 ht (by decide) (by simp; rfl) (fun m3 h3 => ?_)))
  rw [hp, show wI (p + 1) = nI p from rfl]
  refine m_gets (k := 1) (v := 4) h3 (by omega) (by decide) (fun m4 h4 => ?_)
  have := hQ m4 (by unfold lvN; rw [hp]; exact h4)
  rw [hp] at this
  exact this
theorem sim_leave (h1 : R1 sk ze ma ki dn wi du yr sz m) (h2 : R2 fd fo) (a1 : Int32) {K : Int32 → Int32 → (Nat → Int32) → (Nat → Int32) → (Nat → Int32) → (Nat → Int32) → (Nat → Int32) → (Nat → Int32) → Prop} (hK : ∀ r fd' ze' wi' du' m' fo', R1 sk ze' ma ki dn wi' du' yr sz m' → R2 fd' fo' → K r r fd' ze' wi' du' m' fo') : wp_X9_leave fd ze dn wi du sz a1 (fun r c0 c1 c2 c3 => wp_X10_leave m fo a1 (fun r' c0' c1' => K r r' c0 c1 c2 c3 c0' c1')) := by
  obtain ⟨A, hC, hM, hI⟩ := id h1
  have hsz := hC.2.2.2.2.2.2.2
  subst hsz
  have h8 := hI.1
  rcases rg_t a1 h8 with ⟨t, ht, rfl⟩ | hn
  · refine ct_t ht h8 (br_f (by decide) ?_)
    have ht8 : t < 8 := by omega
    refine c_canBeLeft hC.2.2.2.2.1 hC.2.2.2.2.2.1 ht8 hI (fun e => br_f (by decide) ⟨vp_in_nI ht8 (by decide), ?_⟩) (fun e => br_t rfl (c_fnd 4 (by decide) bf4 ?_))
    · refine c_letGo hC hI ht8 e.1 (fun ze' wi' du' hC' => ?_)
      rw [nI_clamp (by omega), hC.2.2.2.2.2.1 t ht8]
      refine mt_t hM hI ht (br_f (by decide) (m_canLeave hM hI ht8 (fun _ => br_f (by decide) (m_leaves hM hI ht8 e.1 (fun m' hM' => hK _ _ _ _ _ _ _ ⟨_, hC', hM', lvN_inv hI t⟩ h2))) (fun e' => absurd e e')))
    · exact mt_t hM hI ht (br_f (by decide) (m_canLeave hM hI ht8 (fun e' => absurd e' e) (fun _ => br_t rfl (m_fnd 4 (by decide) bf4 (hK _ _ _ _ _ _ _ h1 (R2_up h2 (by decide)))))))
  · exact ct_f hn (br_t rfl (c_fnd 0 (by decide) bf0 (mt_f hM hn (br_t rfl (m_fnd 0 (by decide) bf0 (hK _ _ _ _ _ _ _ h1 (R2_up h2 (by decide))))))))
theorem sim_goesTo (h1 : R1 sk ze ma ki dn wi du yr sz m) (h2 : R2 fd fo) (he : Nat → Int32) (a1 : Int32) {K : Int32 → Int32 → (Nat → Int32) → (Nat → Int32) → (Nat → Int32) → Prop} (hK : ∀ r fd' he' fo', R2 fd' fo' → K r r fd' he' fo') : wp_X9_goesTo fd sk ki dn wi du he sz a1 (fun r c0 c1 => wp_X10_goesTo m fo a1 (fun r' c0' => K r r' c0 c1 c0')) := by
  obtain ⟨A, hC, hM, hI⟩ := id h1
  have hsz := hC.2.2.2.2.2.2.2
  subst hsz
  have h8 := hI.1
  rcases rg_t a1 h8 with ⟨t, ht, rfl⟩ | hn
  · refine ct_t ht h8 (br_f (by decide) ?_)
    have ht8 : t < 8 := by omega
    have h5 := (hI.2.2 t ht8).2.2.1
    refine c_isForTheFair hC.2.2.2.2.1 hC.2.2.2.2.2.1 ht8 hI (fun e => br_f (by decide) ?_) (fun e => br_t rfl (c_fnd 4 (by decide) bf4 ?_))
    · refine c_countHeld hC.2.2.2.2.1 hC.2.2.2.2.2.1 hI he (fun he' hh => c_takerOf hC.1 hC.2.2.2.1 hC.2.2.2.2.1 hC.2.2.2.2.2.2.1 hh hI ht8 ?_)
      have hw := winN_le hI ht8
      have mm : ∀ {Q : Int32 → (Nat → Int32) → Prop}, wp_X10_orNone fo (wI (winN A t)) Q → wp_X10_goesTo m fo (nI t) Q := fun hq => mt_t hM hI ht (br_f (by decide) (m_it2 hM ht8 (br_f (fun z => (wI_ge _ (by omega)).mp z e.1) (m_isDone hM hI ht8 (fun z => absurd z e.2) (fun _ => br_t rfl (m_winner hM hI ht8 hq))))))
      refine ek_if (wI_m1 _ (by omega)) (fun c => c_fnd 3 (by decide) bf3 (mm (br_f (fun z => (wI_ge _ (by omega)).mp z c) (m_fnd 3 (by decide) bf3 (hK _ _ _ _ (R2_up h2 (by decide))))))) (fun c => mm (br_t ((wI_ge _ (by omega)).mpr c) (hK _ _ _ _ h2)))
    · refine mt_t hM hI ht (br_f (by decide) (m_it2 hM ht8 (ek_if (wI_ge _ (by omega)) (fun _ => m_fnd 4 (by decide) bf4 (hK _ _ _ _ (R2_up h2 (by decide)))) (fun z => m_isDone hM hI ht8 (fun _ => br_f (by decide) (m_fnd 4 (by decide) bf4 (hK _ _ _ _ (R2_up h2 (by decide))))) (fun z2 => absurd ⟨by omega, z2⟩ e)))))
  · exact ct_f hn (br_t rfl (c_fnd 0 (by decide) bf0 (mt_f hM hn (br_t rfl (m_fnd 0 (by decide) bf0 (hK _ _ _ _ (R2_up h2 (by decide))))))))
/-- a number from lo to hi, or not -/
theorem rg_l (v : Int32) (lo hi : Nat) (hl : lo ≤ hi) (h : hi < 2 ^ 31) : (∃ j, lo ≤ j ∧ j ≤ hi ∧ v = nI j) ∨ ¬ (nI lo ≤ v ∧ v ≤ nI hi) := by
  by_cases c : nI lo ≤ v ∧ v ≤ nI hi
  · rcases rg v hi h with ⟨j, hj, e⟩ | hn
    · subst e
      exact Or.inl ⟨j, (cle (by omega) (by omega)).mp c.1, hj, rfl⟩
    · exact absurd ⟨Int32.le_trans (nI_pos' (by omega)) c.1, c.2⟩ hn
  · exact Or.inr c
end S3
