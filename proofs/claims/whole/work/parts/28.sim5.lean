/-! ===== trials ===== -/
abbrev KT := Int32 → Int32 → (Nat → Int32) → (Nat → Int32) → (Nat → Int32) → (Nat → Int32) → (Nat → Int32) → (Nat → Int32) → (Nat → Int32) → (Nat → Int32) → (Nat → Int32) → Int32 → Int32 → (Nat → Int32) → (Nat → Int32) → (Nat → Int32) → Prop
def HK (sk ze ma ki dn wi du : Nat → Int32) (yr sz : Int32) (K : KT) : Prop := ∀ r fd t0 t1 t2 t3 t4 t5 t6 t7 t8 t9 m wa fo, R1 sk ze ma ki dn wi du yr sz m → R2 fd fo → K r r fd t0 t1 t2 t3 t4 t5 t6 t7 t8 t9 m wa fo
theorem HK.a {sk ze ma ki dn wi du : Nat → Int32} {yr sz : Int32} {K : KT} (h : HK sk ze ma ki dn wi du yr sz K) {r : Int32} {fd t0 t1 t2 t3 t4 t5 t6 t7 : Nat → Int32} {t8 t9 : Int32} {m wa fo : Nat → Int32} (h1 : R1 sk ze ma ki dn wi du yr sz m) (h2 : R2 fd fo) : K r r fd t0 t1 t2 t3 t4 t5 t6 t7 t8 t9 m wa fo := h _ _ _ _ _ _ _ _ _ _ _ _ _ _ _ h1 h2
section S5
variable {fd fo sk ze ma ki dn wi du m wa : Nat → Int32} {yr sz : Int32} {A : AS}
theorem m_cp_l {f : Nat → Int32} {K : Int32 → (Nat → Int32) → Prop} : ∀ r i (g : Nat → Int32), i + r = 52 → (∀ j, j < i → g j = f j) → (∀ g', (∀ j, j < 52 → g' j = f j) → K (nI 52) g') → wpl_X10_copyAll_2 f K (r + 1) (nI i) g := by
  intro r
  induction r with
  | zero =>
    intro i g hi hg hK
    rw [wpl_X10_copyAll_2, show i = 52 by omega]
    exact br_t (by decide) (hK g (fun j hj => hg j (by omega)))
  | succ r ih =>
    intro i g hi hg hK
    rw [wpl_X10_copyAll_2, nI_1, nI_clamp (by omega)]
    refine br_f (fun z => absurd ((cle (a := 52) (by decide) (by omega)).mp z) (by omega)) ⟨vp_in_nI (by omega) (by decide), vp_in_nI (by omega) (by decide), ?_⟩
    refine ih (i + 1) _ (by omega) (fun j hj => ?_) hK
    by_cases e : j = i
    · rw [e, pk_us]
    · rw [pk_un e]; exact hg j (by omega)
theorem m_copyAll {f g : Nat → Int32} {Q : (Nat → Int32) → Prop} (hQ : ∀ g', (∀ j, j < 52 → g' j = f j) → Q g') : wp_X10_copyAll f g Q :=
  ⟨53, m_cp_l 52 0 g (by omega) (fun j hj => by omega) hQ⟩
theorem m_thinks (h : RelM m A yr) {Q : (Nat → Int32) → Prop} (hQ : ∀ wa', RelM wa' A yr → Q wa') : wp_X10_thinks m wa Q :=
  m_copyAll (fun g hg => hQ g (fun i hi => (hg i hi).trans (h i hi)))
theorem m_putsBack (h : RelM wa A yr) {Q : (Nat → Int32) → Prop} (hQ : ∀ m', RelM m' A yr → Q m') : wp_X10_putsBack m wa Q :=
  m_copyAll (fun g hg => hQ g (fun i hi => (hg i hi).trans (h i hi)))
theorem cpy_i {f g : Nat → Int32} {n k : Nat} (h : k < n) : va_cpy f g 0 0 n k = f k := by
  unfold va_cpy
  rw [if_pos (by omega)]
  congr 1
  omega
theorem c_become {tsk tze tma tki tdn twi tdu : Nat → Int32} (h : RelC sk ze ma ki dn wi du sz A) {Q : (Nat → Int32) → (Nat → Int32) → (Nat → Int32) → (Nat → Int32) → (Nat → Int32) → (Nat → Int32) → (Nat → Int32) → Int32 → Int32 → Prop} (hQ : ∀ c0 c1 c2 c3 c4 c5 c6, RelC c0 c1 c2 c3 c4 c5 c6 sz A → Q c0 c1 c2 c3 c4 c5 c6 yr sz) : wp_X2_become tsk tze tma tki tdn twi tdu sk ze ma ki dn wi du yr sz Q := by
  obtain ⟨h0, h1, h2, h3, h4, h5, h6, h7⟩ := h
  exact hQ _ _ _ _ _ _ _ ⟨fun i hi => (cpy_i hi).trans (h0 i hi), fun i hi => (cpy_i hi).trans (h1 i hi), fun i hi => (cpy_i hi).trans (h2 i hi), fun i hi => (cpy_i hi).trans (h3 i hi), fun i hi => (cpy_i hi).trans (h4 i hi), fun i hi => (cpy_i hi).trans (h5 i hi), fun i hi => (cpy_i hi).trans (h6 i hi), h7⟩
/-- the first year in which it holds -/
def firstN (P : AS → Bool) : Nat → AS → Nat
  | 0, _ => 0
  | r + 1, A => if P A then 0 else firstN P r (yearN A) + 1
theorem firstN_le (P : AS → Bool) : ∀ r A, firstN P r A ≤ r := by
  intro r
  induction r with
  | zero => intro A; exact Nat.le_refl 0
  | succ r ih => intro A; have := ih (yearN A); simp only [firstN]; split <;> omega
theorem firstN_min (P : AS → Bool) : ∀ r s A, r ≤ s → firstN P r A = min (firstN P s A) r := by
  intro r
  induction r with
  | zero => intro s A _; simp [firstN]
  | succ r ih =>
    intro s A h
    cases s with
    | zero => omega
    | succ s =>
      have := ih s (yearN A) (by omega)
      simp only [firstN]
      by_cases c : P A = true
      · rw [if_pos c, if_pos c]; omega
      · rw [if_neg c, if_neg c]; omega
def fnd (n M : Nat) : Int32 := if n < M then nI n else -1
theorem fnd_neg {n M : Nat} (h : M ≤ 1000) : fnd n M < 0 ↔ ¬ n < M := by
  unfold fnd
  by_cases c : n < M
  · rw [if_pos c]; exact ⟨fun z => absurd z (Int32.not_lt.mpr (nI_pos' (by omega))), fun z => absurd c z⟩
  · rw [if_neg c]; exact ⟨fun _ => c, fun _ => by decide⟩
theorem fnd_pos {n M : Nat} (h : M ≤ 1000) : 0 ≤ fnd n M ↔ n < M := by
  unfold fnd
  by_cases c : n < M
  · rw [if_pos c]; exact ⟨fun _ => c, fun _ => nI_pos' (by omega)⟩
  · rw [if_neg c]; exact ⟨fun z => absurd z (by decide), fun z => absurd z c⟩
theorem ltp {M i : Nat} (hM : M ≤ 1000) (hi : i ≤ 1000) : nI M - 1 < nI i ↔ M ≤ i := by
  cases M with
  | zero => exact ⟨fun _ => by omega, fun _ => Int32.lt_of_lt_of_le (by decide : nI 0 - 1 < 0) (nI_pos' (by omega))⟩
  | succ k => rw [nI_pred, clt (by omega) (by omega)]; omega
def dnP (t : Nat) : AS → Bool := fun A => A 4 t == 100
def wiP (t p : Nat) : AS → Bool := fun A => A 5 t == p + 1
def alP : AS → Bool := fun A => finS A == (1 <<< (nI (A 7 0) &&& 31)) - 1
theorem c_trial_l {t M : Nat} (ht : t < 8) (hM : M ≤ 1000) {Q : Int32 → (Nat → Int32) → (Nat → Int32) → (Nat → Int32) → (Nat → Int32) → (Nat → Int32) → (Nat → Int32) → Int32 → Prop} {K : Int32 → (Nat → Int32) → (Nat → Int32) → (Nat → Int32) → (Nat → Int32) → (Nat → Int32) → (Nat → Int32) → Int32 → Prop} : ∀ r i (A : AS) (ze ma dn wi du he : Nat → Int32) (yr : Int32), RelC sk ze ma ki dn wi du sz A → Inv A → i + r = M → (firstN (dnP t) r A < r → ∀ ze' ma' dn' wi' du' he' yr', Q (nI (i + firstN (dnP t) r A)) ze' ma' dn' wi' du' he' yr') → (¬ firstN (dnP t) r A < r → ∀ x ze' ma' dn' wi' du' he' yr', K x ze' ma' dn' wi' du' he' yr') → wpl_X9_trialYearsToFinish_2 sk ki sz (nI t) (nI M - 1) Q K (r + 1) (nI i) ze ma dn wi du he yr := by
  intro r
  induction r with
  | zero =>
    intro i A ze ma dn wi du he yr h hI hi _ hK
    rw [wpl_X9_trialYearsToFinish_2]
    exact br_t ((ltp hM (by omega)).mpr (by omega)) (hK (by omega) _ _ _ _ _ _ _ _)
  | succ r ih =>
    intro i A ze ma dn wi du he yr h hI hi hQ hK
    rw [wpl_X9_trialYearsToFinish_2, nI_1]
    refine br_f (fun z => absurd ((ltp hM (by omega)).mp z) (by omega)) ?_
    simp only [firstN] at hQ hK
    refine c_isFinished h.2.2.2.2.1 ht (hI.2.2 t ht).2.1 (fun e => br_f (by decide) ?_) (fun e => br_t rfl ?_)
    · rw [if_pos (by simp [dnP, e])] at hQ
      exact hQ (by omega) _ _ _ _ _ _ _
    · rw [if_neg (by simp [dnP, e])] at hQ hK
      refine c_goYear h hI he yr (fun ze1 ma1 dn1 wi1 du1 he1 h1 => ?_)
      refine ih (i + 1) _ _ _ _ _ _ _ _ h1 (yearN_inv hI).1 (by omega) (fun c => ?_) (fun c => hK (by omega))
      have := hQ (by omega)
      rw [show i + 1 + firstN (dnP t) r (yearN A) = i + (firstN (dnP t) r (yearN A) + 1) by omega]
      exact this
theorem c_trial {t M : Nat} (h : RelC sk ze ma ki dn wi du sz A) (hI : Inv A) (ht : t < 8) (hM : M ≤ 1000) (he : Nat → Int32) (yr : Int32) {Q : Int32 → (Nat → Int32) → (Nat → Int32) → (Nat → Int32) → (Nat → Int32) → (Nat → Int32) → (Nat → Int32) → Int32 → Prop} (hQ : ∀ ze' ma' dn' wi' du' he' yr', Q (fnd (firstN (dnP t) M A) M) ze' ma' dn' wi' du' he' yr') : wp_X9_trialYearsToFinish sk ze ma ki dn wi du he yr sz (nI t) (nI M - 1) Q := by
  refine ⟨M + 1, c_trial_l ht hM M 0 A ze ma dn wi du he yr h hI (by omega) (fun c => ?_) (fun c => ?_)⟩
  · intro ze' ma' dn' wi' du' he' yr'
    have := hQ ze' ma' dn' wi' du' he' yr'
    unfold fnd at this
    rw [if_pos c] at this
    rw [Nat.zero_add]
    exact this
  · intro x ze' ma' dn' wi' du' he' yr'
    have := hQ ze' ma' dn' wi' du' he' yr'
    unfold fnd at this
    rw [if_neg c] at this
    exact this
theorem m_dIn_l {t L : Nat} (ht : t < 8) (hL : L < 1000) {K : Int32 → (Nat → Int32) → Prop} : ∀ r i (A : AS) (yr : Int32) (m : Nat → Int32), RelM m A yr → Inv A → i + r = L + 1 → (∀ m', K (nI (i + firstN (dnP t) r A)) m') → wpl_X10_doneIn_2 (nI t) (nI L) K (r + 1) (nI i) m := by
  intro r
  induction r with
  | zero =>
    intro i A yr m h hI hi hK
    rw [wpl_X10_doneIn_2]
    exact br_t ((clt (by omega) (by omega)).mpr (by omega)) (hK _)
  | succ r ih =>
    intro i A yr m h hI hi hK
    rw [wpl_X10_doneIn_2, nI_1]
    refine br_f (fun z => absurd ((clt (by omega) (by omega)).mp z) (by omega)) ?_
    simp only [firstN] at hK
    refine m_isDone h hI ht (fun e => br_f (by decide) ?_) (fun e => br_t rfl ?_)
    · rw [if_pos (by simp [dnP, e])] at hK
      exact hK _
    · rw [if_neg (by simp [dnP, e])] at hK
      refine m_goes h hI (fun m1 h1 => ih (i + 1) _ _ _ h1 (yearN_inv hI).1 (by omega) (fun m' => ?_))
      rw [show i + 1 + firstN (dnP t) r (yearN A) = i + (firstN (dnP t) r (yearN A) + 1) by omega]
      exact hK m'
theorem m_doneIn {t L : Nat} {B : AS} {yb : Int32} (h : RelM m A yr) (hw : RelM wa B yb) (hI : Inv A) (ht : t < 8) (hL : L < 1000) {Q : Int32 → (Nat → Int32) → Prop} (hQ : ∀ m', RelM m' B yb → Q (fnd (firstN (dnP t) (L + 1) A) (L + 1)) m') : wp_X10_doneIn m wa (nI t) (nI L) Q := by
  have hl := firstN_le (dnP t) (L + 1) A
  refine ⟨L + 2, m_dIn_l ht hL (L + 1) 0 A yr m h hI (by omega) (fun m' => m_putsBack hw (fun m2 h2 => ?_))⟩
  have := hQ m2 h2
  unfold fnd at this
  rw [Nat.zero_add]
  refine ek_if (cle (by omega) (by omega)) (fun c => ?_) (fun c => ?_)
  · rw [if_pos (by omega)] at this; exact this
  · rw [if_neg (by omega)] at this; exact this
section T
variable {K : KT}
theorem sim_on (h1 : R1 sk ze ma ki dn wi du yr sz m) (h2 : R2 fd fo) (tsk tze tma tki tdn twi tdu the : Nat → Int32) (tyr tsz : Int32) (wa : Nat → Int32) (hK : HK sk ze ma ki dn wi du yr sz K) (a1 a2 a3 : Int32) : wp_X9_on fd tsk tze tma tki tdn twi tdu the tyr tsz sk ze ma ki dn wi du yr sz a1 a2 a3 (fun r c0 c1 c2 c3 c4 c5 c6 c7 c8 c9 c10 => wp_X10_on m wa fo a1 a2 a3 (fun r' d0 d1 d2 => K r r' c0 c1 c2 c3 c4 c5 c6 c7 c8 c9 c10 d0 d1 d2)) := by
  obtain ⟨A, hC, hM, hI⟩ := id h1
  have hsz := hC.2.2.2.2.2.2.2
  subst hsz
  have h8 := hI.1
  rcases rg_t a1 h8 with ⟨t, ht, rfl⟩ | hn
  · refine ct_t ht h8 (br_f (by decide) ?_)
    have ht8 : t < 8 := by omega
    rcases rg a2 100 (by decide) with ⟨N, hN, rfl⟩ | hn
    · refine wn_t (n := 100) hN (by decide) (br_f (by decide) ?_)
      rcases rg a3 2 (by decide) with ⟨k, hk, rfl⟩ | hn
      · refine wn_t (n := 2) hk (by decide) (br_f (by decide) (c_become hC (fun c0 c1 c2 c3 c4 c5 c6 hC1 => c_goYears hC1 hI the yr (by omega) (fun ze' ma' dn' wi' du' he' hC2 => ?_))))
        have mm : ∀ r, r = (if k = 1 then wI (yearsN N A 5 t) else nI (yearsN N A (4 + k) t)) → wp_X10_on m wa fo (nI t) (nI N) (nI k) (fun r' d0 d1 d2 => K r r' fd c0 ze' ma' c3 dn' wi' du' he' (yr + nI N) (nI (A 7 0)) d0 d1 d2) := by
          intro r er
          refine mt_t hM hI ht (br_f (by decide) (inn_t (n := 100) hN (by decide) (br_f (by decide) (inn_t (n := 2) hk (by decide) (br_f (by decide) (m_thinks hM (fun wa' hW => m_goesFor hM hI (by omega) (fun m' hM' => ?_))))))))
          rw [show (1 : Int32) = nI 1 from rfl, nadd]
          refine m_it (k := 1 + k) hM' ht8 (by omega) (m_putsBack hW (fun m2 hM2 => ?_))
          have e : (if 1 + k = 2 then wI (yearsN N A 5 t) else nI (yearsN N A (3 + (1 + k)) t)) = r := by
            rw [er]
            by_cases c : k = 1
            · rw [if_pos c, if_pos (by omega)]
            · rw [if_neg c, if_neg (by omega), show 3 + (1 + k) = 4 + k by omega]
          rw [e]
          exact hK.a ⟨A, hC, hM2, hI⟩ h2
        have vt : vp_in (nI t) 8 := vp_in_nI ht8 (by decide)
        rw [nI_clamp (by omega)]
        rcases (by omega : k = 0 ∨ k = 1 ∨ k = 2) with e | e | e <;> subst e
        · exact br_t rfl ⟨vt, mm _ (hC2.2.2.2.2.1 t ht8)⟩
        · exact br_f (by decide) (br_t rfl ⟨vt, mm _ (hC2.2.2.2.2.2.1 t ht8)⟩)
        · exact br_f (by decide) (br_f (by decide) ⟨vt, mm _ (hC2.2.2.2.2.2.2.1 t ht8)⟩)
      · exact w_f hn (br_t rfl (c_fnd 0 (by decide) bf0 (mt_t hM hI ht (br_f (by decide) (inn_t (n := 100) hN (by decide) (br_f (by decide) (in_f hn (br_t rfl (m_fnd 0 (by decide) bf0 (hK.a h1 (R2_up h2 (by decide))))))))))))
    · exact w_f hn (br_t rfl (c_fnd 0 (by decide) bf0 (mt_t hM hI ht (br_f (by decide) (in_f hn (br_t rfl (m_fnd 0 (by decide) bf0 (hK.a h1 (R2_up h2 (by decide))))))))))
  · exact ct_f hn (br_t rfl (c_fnd 0 (by decide) bf0 (mt_f hM hn (br_t rfl (m_fnd 0 (by decide) bf0 (hK.a h1 (R2_up h2 (by decide))))))))
theorem sim_then (h1 : R1 sk ze ma ki dn wi du yr sz m) (h2 : R2 fd fo) (tsk tze tma tki tdn twi tdu the : Nat → Int32) (tyr tsz : Int32) (wa : Nat → Int32) (hK : HK sk ze ma ki dn wi du yr sz K) (a1 a2 a3 : Int32) : wp_X9_then fd tsk tze tma tki tdn twi tdu the tyr tsz sk ze ma ki dn wi du yr sz a1 a2 a3 (fun r c0 c1 c2 c3 c4 c5 c6 c7 c8 c9 c10 => wp_X10_then m wa fo a1 a2 a3 (fun r' d0 d1 d2 => K r r' c0 c1 c2 c3 c4 c5 c6 c7 c8 c9 c10 d0 d1 d2)) := by
  obtain ⟨A, hC, hM, hI⟩ := id h1
  have hsz := hC.2.2.2.2.2.2.2
  subst hsz
  have h8 := hI.1
  rcases rg a1 5 (by decide) with ⟨p, hp, rfl⟩ | hn
  · refine cp_t hp (br_f (by decide) ?_)
    have hp6 : p < 6 := by omega
    rcases rg a2 100 (by decide) with ⟨N, hN, rfl⟩ | hn
    · refine wn_t (n := 100) hN (by decide) (br_f (by decide) ?_)
      rcases rg a3 1 (by decide) with ⟨k, hk, rfl⟩ | hn
      · refine wn_t (n := 1) hk (by decide) (br_f (by decide) (c_become hC (fun c0 c1 c2 c3 c4 c5 c6 hC1 => c_goYears hC1 hI the yr (by omega) (fun ze' ma' dn' wi' du' he' hC2 => ?_))))
        have mm : ∀ r, r = nI (yearsN N A (1 + k) p) → wp_X10_then m wa fo (nI p) (nI N) (nI k) (fun r' d0 d1 d2 => K r r' fd c0 ze' ma' c3 dn' wi' du' he' (yr + nI N) (nI (A 7 0)) d0 d1 d2) := by
          intro r er
          refine mp_t hp (br_f (by decide) (inn_t (n := 100) hN (by decide) (br_f (by decide) (inn_t (n := 1) hk (by decide) (br_f (by decide) (m_thinks hM (fun wa' hW => m_goesFor hM hI (by omega) (fun m' hM' => ?_))))))))
          rw [show (1 : Int32) = nI 1 from rfl, nadd]
          refine m_his (k := 1 + k) hM' hp6 (by omega) (m_putsBack hW (fun m2 hM2 => ?_))
          rw [er]
          exact hK.a ⟨A, hC, hM2, hI⟩ h2
        have vt : vp_in (nI p) 6 := vp_in_nI hp6 (by decide)
        rw [nI_clamp (by omega)]
        rcases (by omega : k = 0 ∨ k = 1) with e | e <;> subst e
        · exact br_t rfl ⟨vt, mm _ (hC2.2.1 p hp6)⟩
        · exact br_f (by decide) ⟨vt, mm _ (hC2.2.2.1 p hp6)⟩
      · exact w_f hn (br_t rfl (c_fnd 0 (by decide) bf0 (mp_t hp (br_f (by decide) (inn_t (n := 100) hN (by decide) (br_f (by decide) (in_f hn (br_t rfl (m_fnd 0 (by decide) bf0 (hK.a h1 (R2_up h2 (by decide))))))))))))
    · exact w_f hn (br_t rfl (c_fnd 0 (by decide) bf0 (mp_t hp (br_f (by decide) (in_f hn (br_t rfl (m_fnd 0 (by decide) bf0 (hK.a h1 (R2_up h2 (by decide))))))))))
  · exact cp_f hn (br_t rfl (c_fnd 0 (by decide) bf0 (mp_f hn (br_t rfl (m_fnd 0 (by decide) bf0 (hK.a h1 (R2_up h2 (by decide))))))))
theorem sim_finished (h1 : R1 sk ze ma ki dn wi du yr sz m) (h2 : R2 fd fo) (tsk tze tma tki tdn twi tdu the : Nat → Int32) (tyr tsz : Int32) (wa : Nat → Int32) (hK : HK sk ze ma ki dn wi du yr sz K) (a1 : Int32) : wp_X9_finished fd tsk tze tma tki tdn twi tdu the tyr tsz sk ze ma ki dn wi du yr sz a1 (fun r c0 c1 c2 c3 c4 c5 c6 c7 c8 c9 c10 => wp_X10_finished m wa fo a1 (fun r' d0 d1 d2 => K r r' c0 c1 c2 c3 c4 c5 c6 c7 c8 c9 c10 d0 d1 d2)) := by
  obtain ⟨A, hC, hM, hI⟩ := id h1
  have hsz := hC.2.2.2.2.2.2.2
  subst hsz
  have h8 := hI.1
  rcases rg_t a1 h8 with ⟨t, ht, rfl⟩ | hn
  · refine ct_t ht h8 (br_f (by decide) ?_)
    have ht8 : t < 8 := by omega
    refine c_become hC (fun c0 c1 c2 c3 c4 c5 c6 hC1 => c_trial (M := 201) hC1 hI ht8 (by decide) the yr (fun ze' ma' dn' wi' du' he' yr' => ?_))
    have mm : ∀ {Q : Int32 → (Nat → Int32) → (Nat → Int32) → (Nat → Int32) → Prop}, (∀ m' wa', RelM m' A yr → wp_X10_orNone fo (fnd (firstN (dnP t) 201 A) 201) (fun r4 c4 => Q r4 m' wa' c4)) → wp_X10_finished m wa fo (nI t) Q := fun hq => mt_t hM hI ht (br_f (by decide) (m_thinks hM (fun wa' hW => m_doneIn (L := 200) hM hW hI ht8 (by decide) (fun m' hM' => hq m' wa' hM'))))
    refine ⟨fun c => mm (fun m' wa' hM' => br_t c (hK.a ⟨A, hC, hM', hI⟩ h2)), fun c => c_fnd 3 (by decide) bf3 (mm (fun m' wa' hM' => br_f c (m_fnd 3 (by decide) bf3 (hK.a ⟨A, hC, hM', hI⟩ (R2_up h2 (by decide))))))⟩
  · exact ct_f hn (br_t rfl (c_fnd 0 (by decide) bf0 (mt_f hM hn (br_t rfl (m_fnd 0 (by decide) bf0 (hK.a h1 (R2_up h2 (by decide))))))))
end T
end S5
