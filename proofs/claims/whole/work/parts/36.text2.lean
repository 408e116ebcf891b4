section T2
variable {y : Nat → Nat} {n : Nat} {bb ta : Nat → Int32}
/-- the text on both tapes -/
def Tx (y : Nat → Nat) (n : Nat) (bb ta : Nat → Int32) : Prop := n ≤ 120 ∧ ∀ i, i < n → y i < 256 ∧ ta i = nI (y i) ∧ bb i = sb_b (y i)
theorem c_skip_l (hT : Tx y n bb ta) {K : Int32 → Prop} : ∀ r a, a + r = n → K (nI (fstN (fun i => !(y i == 32)) r a)) → wpl_X8_nextToken_8 bb (nI n) K (r + 1) (nI a) := by
  obtain ⟨hn, hT⟩ := hT
  intro r
  induction r with
  | zero =>
    intro a ha hK
    rw [wpl_X8_nextToken_8]
    exact br_t ((cle (by omega) (by omega)).mpr (by omega)) hK
  | succ r ih =>
    intro a ha hK
    obtain ⟨h1, h2, h3⟩ := hT a (by omega)
    rw [wpl_X8_nextToken_8, nI_1, nI_clamp (by omega), h3]
    simp only [fstN] at hK
    refine br_f (fun z => absurd ((cle (by omega) (by omega)).mp z) (by omega)) ⟨vp_in_nI (by omega) (by decide), ek_if (sb6 _ h1) (fun e => ?_) (fun e => ?_)⟩
    · rw [if_neg (by simp [e])] at hK; exact ih (a + 1) (by omega) hK
    · rw [if_pos (by simp [e])] at hK; exact hK
theorem c_run_l (hT : Tx y n bb ta) {k : Nat} (hk : k ≤ 4) {K : Int32 → Prop} : ∀ r a, a + r = n → K (nI (fstN (fun i => !(srtN (y i) == k)) r a)) → wpl_X8_nextToken_117 bb (nI n) (nI k) K (r + 1) (nI a) := by
  obtain ⟨hn, hT⟩ := hT
  intro r
  induction r with
  | zero =>
    intro a ha hK
    rw [wpl_X8_nextToken_117]
    exact br_t ((cle (by omega) (by omega)).mpr (by omega)) hK
  | succ r ih =>
    intro a ha hK
    obtain ⟨h1, h2, h3⟩ := hT a (by omega)
    have hs := srtN_r (y a)
    rw [wpl_X8_nextToken_117, nI_1, nI_clamp (by omega), h3]
    simp only [fstN] at hK
    refine br_f (fun z => absurd ((cle (by omega) (by omega)).mp z) (by omega)) ⟨vp_in_nI (by omega) (by decide), c_sort h1 (ek_if (cq (by omega) (by omega)) (fun e => ?_) (fun e => ?_))⟩
    · rw [if_neg (by simp [e])] at hK; exact ih (a + 1) (by omega) hK
    · rw [if_pos (by simp [e])] at hK; exact hK
theorem c_skip (hT : Tx y n bb ta) {a : Nat} (ha : a ≤ n) {K : Int32 → Prop} (hK : K (nI (tS y n a))) : wpl_X8_nextToken_8 bb (nI n) K (n - a + 1) (nI a) := c_skip_l hT (n - a) a (by omega) hK
theorem c_next (hT : Tx y n bb ta) {a : Nat} (ha : a ≤ n) {Q : Int32 → Int32 → Int32 → Prop} (hQ : Q (nI (tK y n a)) (nI (tS y n a)) (nI (tE y n a))) : wp_X8_nextToken bb (nI n) (nI a) Q := by
  have hn := hT.1
  have hs := tS_r (y := y) ha
  refine ⟨_, c_skip hT ha ?_⟩
  unfold tK tE at hQ
  refine ek_if (cle (by omega) (by omega)) (fun c => ?_) (fun c => ⟨vp_in_nI (by omega) (by decide), ?_⟩)
  · rw [if_neg (by omega), if_neg (by omega)] at hQ
    exact hQ
  · obtain ⟨h1, h2, h3⟩ := hT.2 (tS y n a) (by omega)
    have hr := srtN_r (y (tS y n a))
    rw [nI_clamp (by omega), h3]
    refine c_sort h1 ?_
    rw [if_pos (by omega), if_pos (by omega)] at hQ
    refine br_f (fun z => absurd ((cq (b := 0) (by omega)).mp z) (by omega)) ?_
    have cs : srtN (y (tS y n a)) = 1 ∨ srtN (y (tS y n a)) = 2 ∨ ¬ (srtN (y (tS y n a)) = 1 ∨ srtN (y (tS y n a)) = 2) := by omega
    rcases cs with e | e | e
    · rw [if_pos (Or.inl e)] at hQ
      refine br_t ((cq (b := 1) (by omega)).mpr e) ⟨n - (tS y n a + 1) + 1, ?_⟩
      rw [nI_1]
      exact c_run_l hT (by omega) _ _ (by omega) hQ
    · rw [if_pos (Or.inr e)] at hQ
      refine br_f (fun z => absurd ((cq (b := 1) (by omega)).mp z) (by omega)) (br_t ((cq (b := 2) (by omega)).mpr e) ⟨n - (tS y n a + 1) + 1, ?_⟩)
      rw [nI_1]
      exact c_run_l hT (by omega) _ _ (by omega) hQ
    · rw [if_neg e] at hQ
      refine br_f (fun z => absurd ((cq (b := 1) (by omega)).mp z) (by omega)) (br_f (fun z => absurd ((cq (b := 2) (by omega)).mp z) (by omega)) ?_)
      rw [nI_1]
      exact hQ
theorem m_isByte (hT : Tx y n bb ta) {i lo hi : Nat} (hi' : hi < 2 ^ 31) (h : i ≤ n) {Q : Int32 → Prop} (h1 : i < n → lo ≤ y i ∧ y i ≤ hi → Q 1) (h0 : ¬ (i < n ∧ lo ≤ y i ∧ y i ≤ hi) → Q 0) (hlo : lo ≤ hi := by decide) : wp_X10_isByte ta (nI n) (nI i) (nI lo) (nI hi) Q := by
  have hn := hT.1
  refine ek_if (cle (by omega) (by omega)) (fun c => h0 (by omega)) (fun c => ⟨vp_in_nI (by omega) (by decide), ?_⟩)
  obtain ⟨b1, b2, b3⟩ := hT.2 i (by omega)
  rw [nI_clamp (by omega), b2]
  by_cases e : lo ≤ y i ∧ y i ≤ hi
  · exact inl_t e.1 e.2 hi' (br_f (by decide) (h1 (by omega) e))
  · refine in_f (fun z => e ⟨(cle (by omega) (by omega)).mp z.1, (cle (by omega) (by omega)).mp z.2⟩) (br_t rfl (h0 (fun z => e z.2)))
theorem m_skip_l (hT : Tx y n bb ta) {K : Int32 → Prop} : ∀ r a, a + r = n → K (nI (fstN (fun i => !(y i == 32)) r a)) → wpl_X10_reads_0 ta (nI n) K (r + 1) (nI a) := by
  intro r
  induction r with
  | zero =>
    intro a ha hK
    rw [wpl_X10_reads_0]
    exact m_isByte hT (lo := 32) (hi := 32) (by decide) (by omega) (fun z => by omega) (fun _ => br_t rfl hK)
  | succ r ih =>
    intro a ha hK
    rw [wpl_X10_reads_0, nI_1]
    simp only [fstN] at hK
    refine m_isByte hT (lo := 32) (hi := 32) (by decide) (by omega) (fun _ e => br_f (by decide) ?_) (fun e => br_t rfl ?_)
    · rw [if_neg (by simp; omega)] at hK; exact ih (a + 1) (by omega) hK
    · rw [if_pos (by simp; omega)] at hK; exact hK
theorem m_skip (hT : Tx y n bb ta) {a : Nat} (ha : a ≤ n) {K : Int32 → Prop} (hK : K (nI (tS y n a))) : wpl_X10_reads_0 ta (nI n) K (n - a + 1) (nI a) := m_skip_l hT (n - a) a (by omega) hK
theorem m_let_l (hT : Tx y n bb ta) {K : Int32 → Prop} : ∀ r a, a + r = n → K (nI (fstN (fun i => !(srtN (y i) == 1)) r a)) → wpl_X10_reads_76 ta (nI n) K (r + 1) (nI a) := by
  intro r
  induction r with
  | zero =>
    intro a ha hK
    rw [wpl_X10_reads_76]
    exact m_isByte hT (lo := 97) (hi := 122) (by decide) (by omega) (fun z => by omega) (fun _ => br_t rfl hK)
  | succ r ih =>
    intro a ha hK
    rw [wpl_X10_reads_76, nI_1]
    simp only [fstN] at hK
    refine m_isByte hT (lo := 97) (hi := 122) (by decide) (by omega) (fun _ e => br_f (by decide) ?_) (fun e => br_t rfl ?_)
    · rw [if_neg (by simp [srtN_1.mpr e])] at hK; exact ih (a + 1) (by omega) hK
    · rw [if_pos (by simp; exact fun z => e ⟨by omega, srtN_1.mp z⟩)] at hK; exact hK
theorem m_dig_l (hT : Tx y n bb ta) {K : Int32 → Int32 → Prop} : ∀ r a v, a + r = n → v ≤ 9999 → K (nI (fstN (fun i => !(srtN (y i) == 2)) r a)) (nI (valL y (fstN (fun i => !(srtN (y i) == 2)) r a - a) a v)) → wpl_X10_reads_130 ta (nI n) K (r + 1) (nI a) (nI v) := by
  have hn := hT.1
  intro r
  induction r with
  | zero =>
    intro a v ha hv hK
    rw [wpl_X10_reads_130]
    refine m_isByte hT (lo := 48) (hi := 57) (by decide) (by omega) (fun z => by omega) (fun _ => br_t rfl ?_)
    simp only [fstN, Nat.sub_self, valL] at hK
    exact hK
  | succ r ih =>
    intro a v ha hv hK
    rw [wpl_X10_reads_130, nI_1]
    simp only [fstN] at hK
    refine m_isByte hT (lo := 48) (hi := 57) (by decide) (by omega) (fun _ e => br_f (by decide) ?_) (fun e => br_t rfl ?_)
    · rw [if_neg (by simp [srtN_2.mpr e])] at hK
      have hl := fstN_le (fun i => !(srtN (y i) == 2)) r (a + 1)
      rw [show fstN (fun i => !(srtN (y i) == 2)) r (a + 1) - a = (fstN (fun i => !(srtN (y i) == 2)) r (a + 1) - (a + 1)) + 1 by omega] at hK
      simp only [valL] at hK
      refine ek_if (cle (b := 999) (by omega) (by decide)) (fun c => ⟨vp_in_nI (by omega) (by decide), ?_⟩) (fun c => ?_)
      · rw [if_pos c] at hK
        rw [nI_clamp (by omega), (hT.2 a (by omega)).2.1, show (10 : Int32) * nI v + nI (y a) - 48 = nI (10 * v + y a - 48) from by
          rw [show (10 : Int32) = nI 10 from rfl, show (48 : Int32) = nI 48 from rfl, nmul, nadd, nsub (by omega)]]
        exact ih (a + 1) _ (by omega) (by omega) hK
      · rw [if_neg c] at hK
        exact ih (a + 1) v (by omega) hv hK
    · rw [if_pos (by simp; exact fun z => e ⟨by omega, srtN_2.mp z⟩)] at hK
      simp only [Nat.sub_self, valL] at hK
      exact hK
/-! ===== words ===== -/
def eqL (y : Nat → Nat) (s w : Nat) : Nat → Nat → Bool
  | 0, _ => true
  | r + 1, j => if namN (7 * w + j) = y (s + j) then eqL y s w r (j + 1) else false
theorem eqL_a {s w : Nat} : ∀ r j, eqL y s w r j = true ↔ ∀ k, j ≤ k → k < j + r → y (s + k) = namN (7 * w + k) := by
  intro r
  induction r with
  | zero => intro j; exact ⟨fun _ k h1 h2 => by omega, fun _ => rfl⟩
  | succ r ih =>
    intro j
    simp only [eqL]
    by_cases c : namN (7 * w + j) = y (s + j)
    · rw [if_pos c, ih]
      constructor
      · intro h k h1 h2
        by_cases e : k = j
        · subst e; exact c.symm
        · exact h k (by omega) (by omega)
      · intro h k h1 h2; exact h k (by omega) (by omega)
    · rw [if_neg c]
      exact ⟨fun z => absurd z (by decide), fun h => absurd (h j (by omega) (by omega)).symm c⟩
theorem m_nm_l (hT : Tx y n bb ta) {s w L : Nat} (hw : w < 10) (hL : L ≤ 7) (hs : s + L ≤ n) {K : Int32 → Int32 → Prop} : ∀ r j, j + r = L → (∀ x, K (b01 (eqL y s w r j)) x) → wpl_X10_isName_34_2 ta (nI s) (nI w) (nI L) K (r + 1) 1 (nI j) := by
  have hn := hT.1
  intro r
  induction r with
  | zero =>
    intro j hj hK
    rw [wpl_X10_isName_34_2]
    exact br_t ((cle (by omega) (by omega)).mpr (by omega)) (hK _)
  | succ r ih =>
    intro j hj hK
    obtain ⟨b1, b2, b3⟩ := hT.2 (s + j) (by omega)
    have hk : namN (7 * w + j) < 2 ^ 31 := by
      have : ∀ k, k < 70 → namN k < 2 ^ 31 := by decide
      exact this _ (by omega)
    rw [wpl_X10_isName_34_2, nI_1, nadd, show (7 : Int32) * nI w + nI j = nI (7 * w + j) from by rw [show (7 : Int32) = nI 7 from rfl, nmul, nadd], nI_clamp (n := 7 * w + j) (by omega), nI_clamp (n := s + j) (by omega), nam0 _ (by omega), b2]
    simp only [eqL] at hK
    refine br_f (fun z => absurd ((cle (by omega) (by omega)).mp z) (by omega)) (br_f (by decide) ⟨vp_in_nI (by omega) (by decide), vp_in_nI (by omega) (by decide), ek_if (cq hk (by omega)) (fun e => ?_) (fun e => ?_)⟩)
    · rw [if_pos e] at hK; exact ih (j + 1) (by omega) hK
    · rw [if_neg e] at hK
      rw [wpl_X10_isName_34_2]
      exact ⟨fun _ => hK _, fun _ => br_t rfl (hK _)⟩
theorem m_isName (hT : Tx y n bb ta) {s w L : Nat} (hw : w < 10) (hL : 1 ≤ L) (hs : s + L ≤ n) (hl : ∀ i, i < L → 97 ≤ y (s + i) ∧ y (s + i) ≤ 122) {Q : Int32 → Prop} (h1 : WE y s L w = true → Q 1) (h0 : ¬ WE y s L w = true → Q 0) : wp_X10_isName ta (nI s) (nI w) (nI L) Q := by
  have hn := hT.1
  obtain ⟨t0, t1, t2, t3, t4⟩ := nam1 w hw
  simp only [WE, decide_eq_true_eq] at h1 h0
  have fz : ∀ {K : Int32 → Int32 → Prop}, (∀ x, K 0 x) → wpl_X10_isName_34 ta (nI s) (nI w) (nI L) K 1 0 0 := by
    intro K hK
    rw [wpl_X10_isName_34]
    exact ⟨fun _ => hK _, fun _ => br_t rfl (hK _)⟩
  refine ek_if (clt (a := 7) (by decide) (by omega)) (fun c => ⟨1, fz (fun x => ⟨nb0, h0 (by omega)⟩)⟩) (fun c => ?_)
  have ok : (L = 7 ∨ namN (7 * w + L) = 0) → ∀ x, (fun (y3 y4 : Int32) => (narrow .boolean (.int y3) = .int y3) ∧ Q y3) (b01 (eqL y s w L 0)) x := by
    intro hz x
    have key : eqL y s w L 0 = true ↔ (L = lenS.getD (pmN w) 0 ∧ ∀ j, j < L → y (s + j) = namN (7 * w + j)) := by
      rw [eqL_a]
      constructor
      · intro h
        refine ⟨?_, fun j hj => h j (by omega) (by omega)⟩
        by_cases c1 : L ≤ lenS.getD (pmN w) 0
        · by_cases c2 : L < lenS.getD (pmN w) 0
          · have := (t4 L c2).1; omega
          · omega
        · have q1 := t3 (lenS.getD (pmN w) 0) (by omega) (by omega)
          have q2 := h (lenS.getD (pmN w) 0) (by omega) (by omega)
          have q3 := hl (lenS.getD (pmN w) 0) (by omega)
          omega
      · intro h k _ hk; exact h.2 k (by omega)
    cases he : eqL y s w L 0 with
    | true => exact ⟨nb1, h1 (key.mp he)⟩
    | false => exact ⟨nb0, h0 (fun z => by rw [key.mpr z] at he; exact absurd he (by decide))⟩
  refine ek_if (cq (b := 7) (by omega)) (fun e => ⟨L + 1, m_nm_l hT hw (by omega) hs L 0 (by omega) (ok (Or.inl e))⟩) (fun e => ?_)
  have hk : namN (7 * w + L) < 2 ^ 31 := by
    have : ∀ k, k < 70 → namN k < 2 ^ 31 := by decide
    exact this _ (by omega)
  rw [show (7 : Int32) * nI w + nI L = nI (7 * w + L) from by rw [show (7 : Int32) = nI 7 from rfl, nmul, nadd], nI_clamp (n := 7 * w + L) (by omega), nam0 _ (by omega)]
  refine ⟨vp_in_nI (by omega) (by decide), ek_if (cq (b := 0) hk) (fun e2 => ⟨L + 1, m_nm_l hT hw (by omega) hs L 0 (by omega) (ok (Or.inr e2))⟩) (fun e2 => ⟨1, fz (fun x => ⟨nb0, h0 (fun z => ?_)⟩)⟩)⟩
  exact e2 (t3 L (by omega) (by omega))
theorem m_word_l (hT : Tx y n bb ta) {s L : Nat} (hL : 1 ≤ L) (hs : s + L ≤ n) (hl : ∀ i, i < L → 97 ≤ y (s + i) ∧ y (s + i) ≤ 122) {K : Int32 → Prop} : ∀ r w, w + r = 10 → K (nI (fstN (fun w => WE y s L w) r w)) → wpl_X10_wordHere_2 ta (nI s) (nI (s + L)) K (r + 1) (nI w) := by
  have hn := hT.1
  intro r
  induction r with
  | zero =>
    intro w hw hK
    rw [wpl_X10_wordHere_2, show w = 10 by omega]
    rw [show w = 10 by omega] at hK
    exact br_t (by decide) hK
  | succ r ih =>
    intro w hw hK
    rw [wpl_X10_wordHere_2, nI_1, nsub (by omega), show s + L - s = L by omega]
    simp only [fstN] at hK
    refine br_f (fun z => absurd ((cle (a := 10) (by decide) (by omega)).mp z) (by omega)) (m_isName hT (by omega) hL hs hl (fun e => br_f (by decide) ?_) (fun e => br_t rfl ?_))
    · rw [if_pos e] at hK; exact hK
    · rw [if_neg e] at hK; exact ih (w + 1) (by omega) hK
theorem m_reads (hT : Tx y n bb ta) {a : Nat} (ha : a ≤ n) {Q : Int32 → Int32 → Int32 → Int32 → Prop} (hQ : Q (nI (tk y n a)) (nI (tS y n a)) (nI (tE y n a)) (nI (tV y n a))) : wp_X10_reads ta (nI n) (nI a) Q := by
  have hn := hT.1
  have hs := tS_r (y := y) ha
  have he := tE_r (y := y) ha
  refine ⟨_, m_skip hT ha ?_⟩
  refine ek_if (cq (by omega) (by omega)) (fun c => ?_) (fun c => ?_)
  · have k0 : tK y n a = 0 := by unfold tK; rw [if_neg (by omega)]
    have e0 : tE y n a = tS y n a := by unfold tE; rw [if_neg (by omega)]
    rw [tk_22.mpr k0, e0] at hQ
    have v0 : tV y n a = 0 := by unfold tV; rw [if_neg (by omega)]
    rw [v0] at hQ
    exact hQ
  · have kS : tK y n a = srtN (y (tS y n a)) := by unfold tK; rw [if_pos (by omega)]
    have step : ∀ k, k = 1 ∨ k = 2 → tK y n a = k → fstN (fun i => !(srtN (y i) == k)) (n - tS y n a) (tS y n a) = tE y n a := by
      intro k h12 hk
      unfold tE
      rw [if_pos (by omega), if_pos (by omega), show n - tS y n a = (n - (tS y n a + 1)) + 1 by omega]
      simp only [fstN]
      rw [if_neg (by simp; omega), ← kS, hk]
    refine m_isByte hT (lo := 97) (hi := 122) (by decide) (by omega) (fun _ e => br_f (by decide) ⟨n - tS y n a + 1, m_let_l hT _ _ (by omega) ?_⟩) (fun e => br_t rfl ?_)
    · have k1 : tK y n a = 1 := by rw [kS]; exact srtN_1.mpr e
      rw [step 1 (Or.inl rfl) k1]
      have hlt := he.2.2.1 (by omega)
      have v0 : tV y n a = 0 := by unfold tV; rw [if_neg (by omega)]
      rw [v0] at hQ
      have hw := m_word_l hT (s := tS y n a) (L := tE y n a - tS y n a) (by omega) (by omega) (fun i hi => srtN_1.mp (tE_in k1 (Or.inl rfl) (tS y n a + i) (by omega) (by omega))) (K := fun y2_1 => (10 ≤ y2_1 → (fun r11 => Q r11 (nI (tS y n a)) (nI (tE y n a)) 0) 23) ∧ (¬ (10 ≤ y2_1) → (fun r11 => Q r11 (nI (tS y n a)) (nI (tE y n a)) 0) y2_1)) 10 0 (by omega) (by
        have hl := fstN_le (fun w => WE y (tS y n a) (tE y n a - tS y n a) w) 10 0
        unfold tk at hQ
        rw [if_neg (by omega), if_pos k1] at hQ
        unfold wdN at hQ
        refine ek_if (cle (a := 10) (by decide) (by omega)) (fun q => ?_) (fun q => ?_)
        · rw [if_neg (by omega)] at hQ; exact hQ
        · rw [if_pos (by omega)] at hQ; exact hQ)
      rw [show tS y n a + (tE y n a - tS y n a) = tE y n a by omega] at hw
      exact ⟨11, hw⟩
    · have k1 : ¬ tK y n a = 1 := by rw [kS]; exact fun z => e ⟨by omega, srtN_1.mp z⟩
      refine m_isByte hT (lo := 48) (hi := 57) (by decide) (by omega) (fun _ e2 => br_f (by decide) ⟨n - tS y n a + 1, m_dig_l hT _ _ 0 (by omega) (by omega) ?_⟩) (fun e2 => br_t rfl ?_)
      · have k2 : tK y n a = 2 := by rw [kS]; exact srtN_2.mpr e2
        rw [step 2 (Or.inr rfl) k2]
        rw [tk_20.mpr k2] at hQ
        unfold tV at hQ
        rw [if_pos k2] at hQ
        exact hQ
      · have k2 : ¬ tK y n a = 2 := by rw [kS]; exact fun z => e2 ⟨by omega, srtN_2.mp z⟩
        have v0 : tV y n a = 0 := by unfold tV; rw [if_neg (by omega)]
        have e0 : tE y n a = tS y n a + 1 := by unfold tE; rw [if_pos (by omega), if_neg (by omega)]
        rw [v0, e0] at hQ
        refine m_isByte hT (lo := 59) (hi := 59) (by decide) (by omega) (fun _ e3 => br_f (by decide) ?_) (fun e3 => br_t rfl ?_)
        · rw [tk_21.mpr (by rw [kS]; exact srtN_3.mpr (by omega))] at hQ
          change Q 21 (nI (tS y n a)) (nI (tS y n a) + 1) 0
          rw [nI_1]
          exact hQ
        · have k3 : ¬ tK y n a = 3 := by rw [kS]; exact fun z => e3 ⟨by omega, by rw [srtN_3.mp z]; omega⟩
          have k0 : ¬ tK y n a = 0 := by have := srtN_r (y (tS y n a)); omega
          unfold tk at hQ
          rw [if_neg k0, if_neg k1, if_neg k2, if_neg k3] at hQ
          change Q 23 (nI (tS y n a)) (nI (tS y n a) + 1) 0
          rw [nI_1]
          exact hQ
end T2
