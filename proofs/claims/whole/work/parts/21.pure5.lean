/-! ===== counts, the fair, the year ===== -/
def cntN (A : AS) (p : Nat) : Nat → Nat → Nat
  | _, 0 => 0
  | t, r + 1 => (if A 5 t = p + 1 ∧ A 4 t ≠ 100 then 1 else 0) + cntN A p (t + 1) r
def cnt (A : AS) (p : Nat) : Nat := cntN A p 0 (A 7 0)
theorem cntN_le (A : AS) (p : Nat) : ∀ r t, cntN A p t r ≤ r := by
  intro r
  induction r with
  | zero => intro t; simp [cntN]
  | succ r ih => intro t; have := ih (t + 1); simp only [cntN]; split <;> omega
theorem cnt_le {A : AS} (h : Inv A) (p : Nat) : cnt A p ≤ 8 := Nat.le_trans (cntN_le A p _ _) h.1
def winL (A : AS) (t : Nat) : Nat → Nat → Nat → Nat → Nat × Nat
  | 0, _, b, mo => (b, mo)
  | r + 1, p, b, mo => if cnt A p < 2 ∧ (b = 0 ∨ mo < bidN (A 3 t) (A 0 p) (A 4 t) (A 6 t)) then winL A t r (p + 1) (p + 1) (bidN (A 3 t) (A 0 p) (A 4 t) (A 6 t)) else winL A t r (p + 1) b mo
def winN (A : AS) (t : Nat) : Nat := if (winL A t 6 0 0 0).1 = 0 then 0 else if askN (A 3 t) (A 4 t) (A 6 t) ≤ (winL A t 6 0 0 0).2 then (winL A t 6 0 0 0).1 else 0
theorem winL_le {A : AS} (h : Inv A) {t : Nat} (ht : t < 8) : ∀ r p b mo, p + r = 6 → b ≤ 6 → mo ≤ 999 → (winL A t r p b mo).1 ≤ 6 ∧ (winL A t r p b mo).2 ≤ 999 := by
  intro r
  induction r with
  | zero => intro p b mo _ hb hm; exact ⟨hb, hm⟩
  | succ r ih =>
    intro p b mo hp hb hm
    have hh := h.2.2 t ht
    have := bidN_le (A 3 t) (A 0 p) (A 4 t) (A 6 t) (h.2.1 p (by omega)).1 hh.2.2.2
    simp only [winL]
    split
    · exact ih _ _ _ (by omega) (by omega) this
    · exact ih _ _ _ (by omega) hb hm
theorem winN_le {A : AS} (h : Inv A) {t : Nat} (ht : t < 8) : winN A t ≤ 6 := by
  have := (winL_le h ht 6 0 0 0 rfl (by omega) (by omega)).1
  unfold winN; split
  · omega
  · split <;> omega
theorem u2_id {A : AS} {f i v : Nat} (h : A f i = v) : u2 A f i v = A := by
  funext g j; simp only [u2]; by_cases c : g = f ∧ j = i
  · rw [if_pos c, c.1, c.2]; exact h.symm
  · rw [if_neg c]
theorem workN_7 (A : AS) (t : Nat) : workN A t 7 0 = A 7 0 := by
  unfold workN; split
  · rw [u2_f (by decide), u2_f (by decide), u2_f (by decide)]
  · split
    · rw [u2_f (by decide), u2_f (by decide)]
    · rw [u2_f (by decide), u2_f (by decide), u2_f (by decide), u2_f (by decide)]
def duN (A : AS) (t : Nat) : AS := u2 A 6 t (if A 6 t + 1 < 999 then A 6 t + 1 else 999)
def frN (A : AS) (t : Nat) : AS := if A 5 t = 0 ∧ A 4 t ≠ 100 then u2 (duN A t) 5 t (winN (duN A t) t) else A
theorem frN_7 (A : AS) (t : Nat) : frN A t 7 0 = A 7 0 := by
  unfold frN duN; split
  · rw [u2_f (by decide), u2_f (by decide)]
  · rfl
theorem duN_inv {A : AS} (h : Inv A) (t : Nat) : Inv (duN A t) := h.t (k := 3) _ (by decide) (by simp; split <;> omega)
theorem frN_inv {A : AS} (h : Inv A) {t : Nat} (ht : t < 8) : Inv (frN A t) := by
  unfold frN; split
  · exact (duN_inv h t).t (k := 2) _ (by decide) (by simp; exact winN_le (duN_inv h t) ht)
  · exact h
def wkL : Nat → Nat → AS → AS
  | 0, _, A => A
  | r + 1, t, A => wkL r (t + 1) (if A 5 t ≠ 0 ∧ A 4 t ≠ 100 then workN A t else A)
def frL : Nat → Nat → AS → AS
  | 0, _, A => A
  | r + 1, t, A => frL r (t + 1) (frN A t)
def yearN (A : AS) : AS := frL (A 7 0) 0 (wkL (A 7 0) 0 A)
def yearsN : Nat → AS → AS
  | 0, A => A
  | n + 1, A => yearsN n (yearN A)
theorem wk_inv {A : AS} (h : Inv A) {t : Nat} (ht : t < 8) : Inv (if A 5 t ≠ 0 ∧ A 4 t ≠ 100 then workN A t else A) := by
  split
  · exact workN_inv h ht
  · exact h
theorem wk_7 (A : AS) (t : Nat) : (if A 5 t ≠ 0 ∧ A 4 t ≠ 100 then workN A t else A) 7 0 = A 7 0 := by
  split
  · exact workN_7 A t
  · rfl
theorem wkL_inv : ∀ r t A, Inv A → t + r ≤ 8 → Inv (wkL r t A) ∧ wkL r t A 7 0 = A 7 0 := by
  intro r
  induction r with
  | zero => intro t A h _; exact ⟨h, rfl⟩
  | succ r ih =>
    intro t A h ht
    obtain ⟨h1, h2⟩ := ih (t + 1) _ (wk_inv h (t := t) (by omega)) (by omega)
    exact ⟨h1, h2.trans (wk_7 A t)⟩
theorem frL_inv : ∀ r t A, Inv A → t + r ≤ 8 → Inv (frL r t A) ∧ frL r t A 7 0 = A 7 0 := by
  intro r
  induction r with
  | zero => intro t A h _; exact ⟨h, rfl⟩
  | succ r ih =>
    intro t A h ht
    obtain ⟨h1, h2⟩ := ih (t + 1) _ (frN_inv h (t := t) (by omega)) (by omega)
    exact ⟨h1, h2.trans (frN_7 A t)⟩
theorem yearN_inv {A : AS} (h : Inv A) : Inv (yearN A) ∧ yearN A 7 0 = A 7 0 := by
  have h8 := h.1
  obtain ⟨h1, h2⟩ := wkL_inv (A 7 0) 0 A h (by omega)
  obtain ⟨h3, h4⟩ := frL_inv (A 7 0) 0 _ h1 (by omega)
  exact ⟨h3, h4.trans h2⟩
theorem yearsN_inv : ∀ n A, Inv A → Inv (yearsN n A) ∧ yearsN n A 7 0 = A 7 0 := by
  intro n
  induction n with
  | zero => intro A h; exact ⟨h, rfl⟩
  | succ n ih =>
    intro A h
    obtain ⟨h1, h2⟩ := yearN_inv h
    obtain ⟨h3, h4⟩ := ih _ h1
    exact ⟨h3, h4.trans h2⟩
theorem cntN_du (A : AS) (p i v : Nat) : ∀ r t, cntN (u2 A 6 i v) p t r = cntN A p t r := by
  intro r
  induction r with
  | zero => intro t; rfl
  | succ r ih => intro t; simp only [cntN]; rw [ih, u2_f (by decide), u2_f (by decide)]
theorem cntN_wi (A : AS) (p q i : Nat) (h0 : A 5 i = 0) (h4 : A 4 i ≠ 100) : ∀ r t, cntN (u2 A 5 i (q + 1)) p t r = cntN A p t r + (if t ≤ i ∧ i < t + r ∧ p = q then 1 else 0) := by
  intro r
  induction r with
  | zero => intro t; simp only [cntN]; rw [if_neg (by omega)]
  | succ r ih =>
    intro t
    simp only [cntN]
    rw [ih, u2_f (g := 4) (by decide)]
    by_cases e : t = i
    · subst e
      rw [u2_s, h0]
      by_cases e2 : p = q
      · subst e2
        rw [if_pos ⟨rfl, h4⟩, if_neg (by omega), if_neg (by omega), if_pos (by omega)]; omega
      · rw [if_neg (by omega), if_neg (by omega), if_neg (by omega), if_neg (by omega)]; omega
    · rw [u2_i e]
      have e1 : (t + 1 ≤ i ∧ i < t + 1 + r ∧ p = q) = (t ≤ i ∧ i < t + (r + 1) ∧ p = q) := by
        apply propext; omega
      simp only [e1]
      omega
section MW
variable {m : Nat → Int32} {A : AS} {yr : Int32} {t p : Nat}
theorem m_openOf_l (h : RelM m A yr) (hI : Inv A) (hp : p < 6) {K : Int32 → Int32 → Prop} : ∀ r t c, t + r = A 7 0 → K (nI (c + cntN A p t r)) (nI (A 7 0)) → wpl_X10_openOf_4 m (nI p) K (r + 1) (nI c) (nI t) := by
  have h8 := hI.1
  intro r
  induction r with
  | zero =>
    intro t c ht hK
    rw [wpl_X10_openOf_4, RelM_sz h]
    refine ⟨vp_lit 1 (by decide) (by decide), br_t ((cle (by omega) (by omega)).mpr (by omega)) ?_⟩
    rw [show t = A 7 0 by omega]
    exact hK
  | succ r ih =>
    intro t c ht hK
    have hb := hI.2.2 t (by omega)
    rw [wpl_X10_openOf_4, RelM_sz h]
    refine ⟨vp_lit 1 (by decide) (by decide), br_f (fun z => absurd ((cle (by omega) (by omega)).mp z) (by omega)) ?_⟩
    simp only [cntN] at hK
    refine m_it2 h (by omega) (ek_if (wI_p _ p (by omega) (by omega)) (fun c1 => ?_) (fun c1 => ?_))
    · refine m_isDone h hI (by omega) (fun e => br_f (by decide) ?_) (fun e => br_t rfl ?_)
      · rw [i0, nI_1]
        rw [if_neg (by omega)] at hK
        exact ih (t + 1) c (by omega) (by rw [Nat.zero_add] at hK; exact hK)
      · rw [nI_1, nI_1]
        rw [if_pos ⟨c1, e⟩] at hK
        exact ih (t + 1) (c + 1) (by omega) (by rw [← Nat.add_assoc] at hK; exact hK)
    · rw [i0, nI_1]
      rw [if_neg (by omega)] at hK
      exact ih (t + 1) c (by omega) (by rw [Nat.zero_add] at hK; exact hK)
theorem m_openOf (h : RelM m A yr) (hI : Inv A) (hp : p < 6) {Q : Int32 → Prop} (hQ : Q (nI (cnt A p))) : wp_X10_openOf m (nI p) Q :=
  ⟨A 7 0 + 1, m_openOf_l h hI hp (A 7 0) 0 0 (by omega) (by rw [Nat.zero_add]; exact hQ)⟩
theorem m_winner_l (h : RelM m A yr) (hI : Inv A) (ht : t < 8) {K : Int32 → Int32 → Int32 → Prop} : ∀ r p b mo, p + r = 6 → b ≤ 6 → mo ≤ 999 → K (wI (winL A t r p b mo).1) (nI (winL A t r p b mo).2) (nI 6) → wpl_X10_winner_7 m (nI t) K (r + 1) (wI b) (nI mo) (nI p) := by
  intro r
  induction r with
  | zero =>
    intro p b mo hp hb hm hK
    rw [wpl_X10_winner_7]
    rw [show p = 6 by omega]
    exact br_t (by decide) hK
  | succ r ih =>
    intro p b mo hp hb hm hK
    have hh := hI.2.2 t ht
    have hs := (hI.2.1 p (by omega)).1
    have hbl := bidN_le (A 3 t) (A 0 p) (A 4 t) (A 6 t) hs hh.2.2.2
    have hcl := cnt_le hI p
    rw [wpl_X10_winner_7]
    refine br_f (fun z => absurd ((cle (a := 6) (by decide) (by omega)).mp z) (by omega)) ?_
    refine m_his (k := 0) h (by omega) (by decide) (m_bids h hI ht hs (m_openOf h hI (by omega) ?_))
    rw [nI_1]
    simp only [winL] at hK
    refine ek_if (cle (a := 2) (by decide) (by omega)) (fun c => ?_) (fun c => ?_)
    · rw [if_neg (by omega)] at hK
      exact ih _ _ _ (by omega) hb hm hK
    · refine ek_if (wI_neg b (by omega)) (fun c1 => ?_) (fun c1 => ?_)
      · rw [if_pos ⟨by omega, Or.inl c1⟩] at hK
        exact ih _ (p + 1) _ (by omega) (by omega) hbl hK
      · refine ek_if (cle (by omega) (by omega)) (fun c2 => ?_) (fun c2 => ?_)
        · rw [if_neg (by omega)] at hK
          exact ih _ _ _ (by omega) hb hm hK
        · rw [if_pos ⟨by omega, Or.inr (by omega)⟩] at hK
          exact ih _ (p + 1) _ (by omega) (by omega) hbl hK
theorem m_winner (h : RelM m A yr) (hI : Inv A) (ht : t < 8) {Q : Int32 → Prop} (hQ : Q (wI (winN A t))) : wp_X10_winner m (nI t) Q := by
  have hb := winL_le hI ht 6 0 0 0 rfl (by omega) (by omega)
  have hh := hI.2.2 t ht
  have ha := askN_le (A 3 t) (A 4 t) (A 6 t) hh.2.1
  refine ⟨7, m_winner_l h hI ht 6 0 0 0 rfl (by omega) (by omega) ?_⟩
  unfold winN at hQ
  refine ek_if (wI_neg _ (by omega)) (fun c => ?_) (fun c => ?_)
  · rw [if_pos c] at hQ; exact hQ
  · rw [if_neg c] at hQ
    refine m_asked h hI ht (ek_if (clt (by omega) (by omega)) (fun c1 => ?_) (fun c1 => ?_))
    · rw [if_neg (by omega)] at hQ; exact hQ
    · rw [if_pos (by omega)] at hQ; exact hQ
theorem m_goes_w {K : Int32 → (Nat → Int32) → Prop} : ∀ r t (A : AS) (m : Nat → Int32), RelM m A yr → Inv A → t + r = A 7 0 → (∀ m', RelM m' (wkL r t A) yr → K (nI (A 7 0)) m') → wpl_X10_goes_2 K (r + 1) (nI t) m := by
  intro r
  induction r with
  | zero =>
    intro t A m h hI ht hK
    have h8 := hI.1
    rw [wpl_X10_goes_2, RelM_sz h]
    refine ⟨vp_lit 1 (by decide) (by decide), br_t ((cle (by omega) (by omega)).mpr (by omega)) ?_⟩
    rw [show t = A 7 0 by omega]
    exact hK m h
  | succ r ih =>
    intro t A m h hI ht hK
    have h8 := hI.1
    rw [wpl_X10_goes_2, RelM_sz h]
    refine ⟨vp_lit 1 (by decide) (by decide), br_f (fun z => absurd ((cle (by omega) (by omega)).mp z) (by omega)) ?_⟩
    simp only [wkL] at hK
    refine m_canLeave h hI (by omega) (fun e => br_f (by decide) ?_) (fun e => br_t rfl ?_)
    · refine m_worksOn h hI (by omega) e.1 (fun m1 h1 => ?_)
      rw [if_pos e] at hK
      rw [nI_1]
      exact ih (t + 1) _ m1 h1 (workN_inv hI (by omega)) (by rw [workN_7]; omega) (by rw [workN_7]; exact hK)
    · rw [if_neg e] at hK
      rw [nI_1]
      exact ih (t + 1) _ m h hI (by omega) hK
theorem m_held {a c : Nat} {Q : Int32 → Prop} (ha : a < 2 ^ 31) (hc : c < 2 ^ 31) (hq : Q (nI (if a < c then a else c))) : wp_X10_held (nI a) 0 (nI c) Q := by
  refine br_t (nI_pos' ha) (ek_if (cle ha hc) (fun z => ?_) (fun z => ?_))
  · by_cases e : a < c
    · rw [if_pos e] at hq; exact hq
    · rw [if_neg e] at hq; rw [show a = c by omega]; exact hq
  · rw [if_neg (by omega)] at hq; exact hq
theorem wI_ge (w : Nat) (h : w < 2 ^ 31) : 0 ≤ wI w ↔ w ≠ 0 := by
  cases w with
  | zero => simp only [wI]; constructor
            · intro z; exact absurd z (by decide)
            · intro z; omega
  | succ p => simp only [wI]; constructor
              · intro _; omega
              · intro _; exact nI_pos' (by omega)
theorem m_goes_f {K : Int32 → (Nat → Int32) → Prop} : ∀ r t (A : AS) (m : Nat → Int32), RelM m A yr → Inv A → t + r = A 7 0 → (∀ m', RelM m' (frL r t A) yr → K (nI (A 7 0)) m') → wpl_X10_goes_33 K (r + 1) (nI t) m := by
  intro r
  induction r with
  | zero =>
    intro t A m h hI ht hK
    have h8 := hI.1
    rw [wpl_X10_goes_33, RelM_sz h]
    refine ⟨vp_lit 1 (by decide) (by decide), br_t ((cle (by omega) (by omega)).mpr (by omega)) ?_⟩
    rw [show t = A 7 0 by omega]
    exact hK m h
  | succ r ih =>
    intro t A m h hI ht hK
    have h8 := hI.1
    have hb := hI.2.2 t (by omega)
    rw [wpl_X10_goes_33, RelM_sz h]
    refine ⟨vp_lit 1 (by decide) (by decide), br_f (fun z => absurd ((cle (by omega) (by omega)).mp z) (by omega)) ?_⟩
    simp only [frL] at hK
    rw [nI_1]
    refine m_it2 h (by omega) (ek_if (wI_ge _ (by omega)) (fun c => ?_) (fun c => ?_))
    · rw [show frN A t = A from by unfold frN; rw [if_neg (by omega)]] at hK
      exact ih (t + 1) A m h hI (by omega) hK
    · refine m_isDone h hI (by omega) (fun e => br_f (by decide) ?_) (fun e => br_t rfl ?_)
      · rw [show frN A t = A from by unfold frN; rw [if_neg (by omega)]] at hK
        exact ih (t + 1) A m h hI (by omega) hK
      · have hfr : frN A t = u2 (duN A t) 5 t (winN (duN A t) t) := by unfold frN; rw [if_pos ⟨by omega, e⟩]
        refine m_it3 h (by omega) ?_
        rw [nI_1]
        refine m_held (c := 999) (by omega) (by decide) (m_put (k := 3) (v := if A 6 t + 1 < 999 then A 6 t + 1 else 999) h (by omega) (by decide) (by simp) (fun m1 h1 => ?_))
        have h1' : RelM m1 (duN A t) yr := h1
        refine m_winner h1' (duN_inv hI t) (by omega) (m_put (k := 2) (v := winN (duN A t) t) h1' (by omega) (by decide) (by simp) (fun m2 h2 => ?_))
        have h2' : RelM m2 (frN A t) yr := by rw [hfr]; exact h2
        exact ih (t + 1) (frN A t) m2 h2' (frN_inv hI (by omega)) (by rw [frN_7]; omega) (by rw [frN_7]; exact hK)
theorem m_goes (h : RelM m A yr) (hI : Inv A) {Q : (Nat → Int32) → Prop} (hQ : ∀ m', RelM m' (yearN A) (yr + 1) → Q m') : wp_X10_goes m Q := by
  have h8 := hI.1
  obtain ⟨hi, h7⟩ := wkL_inv (A 7 0) 0 A hI (by omega)
  refine ⟨A 7 0 + 1, m_goes_w (A 7 0) 0 A m h hI (by omega) (fun m1 h1 => ⟨A 7 0 + 1, ?_⟩)⟩
  refine m_goes_f (A 7 0) 0 _ m1 h1 hi (by omega) (fun m2 h2 => ⟨vp_lit 0 (by decide) (by decide), vp_lit 0 (by decide) (by decide), hQ _ ?_⟩)
  rw [RelM_yr h2]
  exact RelM_y h2 _
theorem m_goesFor_l {N : Nat} (hN : N ≤ 1000) {K : Int32 → (Nat → Int32) → Prop} : ∀ r i (A : AS) (yr : Int32) (m : Nat → Int32), RelM m A yr → Inv A → i + r = N → (∀ m' yr', RelM m' (yearsN r A) yr' → yr' = yr + nI r → K (nI N) m') → wpl_X10_goesFor_2 (nI N) K (r + 1) (nI i) m := by
  intro r
  induction r with
  | zero =>
    intro i A yr m h hI hi hK
    rw [wpl_X10_goesFor_2]
    refine br_t ((cle (by omega) (by omega)).mpr (by omega)) ?_
    rw [show i = N by omega]
    exact hK m yr h (by rw [nI_0]; exact (i0 yr).symm)
  | succ r ih =>
    intro i A yr m h hI hi hK
    rw [wpl_X10_goesFor_2]
    refine br_f (fun z => absurd ((cle (by omega) (by omega)).mp z) (by omega)) ?_
    refine m_goes h hI (fun m1 h1 => ?_)
    rw [nI_1]
    refine ih (i + 1) _ (yr + 1) m1 h1 (yearN_inv hI).1 (by omega) (fun m2 y2 h2 e2 => hK m2 y2 h2 ?_)
    rw [e2, nI_succ, Int32.add_assoc, Int32.add_comm 1 (nI r)]
theorem m_goesFor (h : RelM m A yr) (hI : Inv A) {N : Nat} (hN : N ≤ 1000) {Q : (Nat → Int32) → Prop} (hQ : ∀ m', RelM m' (yearsN N A) (yr + nI N) → Q m') : wp_X10_goesFor m (nI N) Q :=
  ⟨N + 1, m_goesFor_l hN N 0 A yr m h hI (by omega) (fun m' y' h' e => hQ m' (e ▸ h'))⟩
end MW
