section S6
variable {fd fo sk ze ma ki dn wi du m wa : Nat → Int32} {yr sz : Int32} {A : AS}
theorem c_comes_l {t p : Nat} (ht : t < 8) (hp : p < 6) {Q : Int32 → (Nat → Int32) → (Nat → Int32) → (Nat → Int32) → (Nat → Int32) → (Nat → Int32) → (Nat → Int32) → (Nat → Int32) → (Nat → Int32) → (Nat → Int32) → Int32 → Int32 → Prop} {K : Int32 → (Nat → Int32) → (Nat → Int32) → (Nat → Int32) → (Nat → Int32) → (Nat → Int32) → (Nat → Int32) → Int32 → Prop} : ∀ r i (A : AS) (ze ma dn wi du he : Nat → Int32) (yr : Int32), RelC sk ze ma ki dn wi du sz A → Inv A → i + r = 201 → (firstN (wiP t p) r A < r → ∀ ze' ma' dn' wi' du' he' yr', Q (nI (i + firstN (wiP t p) r A)) fd sk ze' ma' ki dn' wi' du' he' yr' sz) → (¬ firstN (wiP t p) r A < r → ∀ x ze' ma' dn' wi' du' he' yr', K x ze' ma' dn' wi' du' he' yr') → wpl_X9_comes_35 fd sk ki sz (nI t) (nI p) Q K (r + 1) (nI i) ze ma dn wi du he yr := by
  intro r
  induction r with
  | zero =>
    intro i A ze ma dn wi du he yr h hI hi _ hK
    rw [wpl_X9_comes_35, show i = 201 by omega]
    exact br_t (by decide) (hK (by omega) _ _ _ _ _ _ _ _)
  | succ r ih =>
    intro i A ze ma dn wi du he yr h hI hi hQ hK
    have h5 := (hI.2.2 t ht).2.2.1
    rw [wpl_X9_comes_35, nI_1, nI_clamp (by omega), h.2.2.2.2.2.1 t ht]
    refine br_f (fun z => absurd ((clt (a := 200) (by decide) (by omega)).mp z) (by omega)) ⟨vp_in_nI ht (by decide), ?_⟩
    simp only [firstN] at hQ hK
    refine ek_if (wI_p _ _ (by omega) (by omega)) (fun e => ?_) (fun e => ?_)
    · rw [if_pos (by simp [wiP, e])] at hQ
      exact hQ (by omega) _ _ _ _ _ _ _
    · rw [if_neg (by simp [wiP, e])] at hQ hK
      refine c_goYear h hI he yr (fun ze1 ma1 dn1 wi1 du1 he1 h1 => ?_)
      refine ih (i + 1) _ _ _ _ _ _ _ _ h1 (yearN_inv hI).1 (by omega) (fun c => ?_) (fun c => hK (by omega))
      have := hQ (by omega)
      rw [show i + 1 + firstN (wiP t p) r (yearN A) = i + (firstN (wiP t p) r (yearN A) + 1) by omega]
      exact this
theorem m_comes_l {t p : Nat} (ht : t < 8) (hp : p < 6) {K : Int32 → (Nat → Int32) → Prop} : ∀ r i (A : AS) (yr : Int32) (m : Nat → Int32), RelM m A yr → Inv A → i + r = 201 → (∀ m', K (nI (i + firstN (wiP t p) r A)) m') → wpl_X10_comes_28 (nI t) (nI p) K (r + 1) (nI i) m := by
  intro r
  induction r with
  | zero =>
    intro i A yr m h hI hi hK
    rw [wpl_X10_comes_28, show i = 201 by omega]
    rw [show i = 201 by omega] at hK
    exact br_t (by decide) (hK _)
  | succ r ih =>
    intro i A yr m h hI hi hK
    have h5 := (hI.2.2 t ht).2.2.1
    rw [wpl_X10_comes_28, nI_1]
    refine br_f (fun z => absurd ((clt (a := 200) (by decide) (by omega)).mp z) (by omega)) ?_
    simp only [firstN] at hK
    refine m_it2 h ht (ek_if (wI_p _ _ (by omega) (by omega)) (fun e => ?_) (fun e => ?_))
    · rw [if_pos (by simp [wiP, e])] at hK
      exact hK _
    · rw [if_neg (by simp [wiP, e])] at hK
      refine m_goes h hI (fun m1 h1 => ih (i + 1) _ _ _ h1 (yearN_inv hI).1 (by omega) (fun m' => ?_))
      rw [show i + 1 + firstN (wiP t p) r (yearN A) = i + (firstN (wiP t p) r (yearN A) + 1) by omega]
      exact hK m'
theorem c_isAll (h4 : RN dn 8 (A 4)) (hI : Inv A) {Q : Int32 → Prop} (h1 : alP A = true → Q 1) (h0 : ¬ alP A = true → Q 0) : wp_X2_isAllFinished dn (nI (A 7 0)) Q :=
  c_finishedSet h4 hI ⟨fun e => h1 (by simp [alP, e]), fun e => h0 (by simpa [alP] using e)⟩
theorem m_areDone (h : RelM m A yr) (hI : Inv A) {Q : Int32 → Prop} (h1 : alP A = true → Q 1) (h0 : ¬ alP A = true → Q 0) : wp_X10_areDone m Q := by
  refine m_doneOnes h hI ⟨vp_lit 1 (by decide) (by decide), ?_⟩
  rw [RelM_sz h]
  exact ⟨fun e => h1 (by simp [alP, e]), fun e => h0 (by simpa [alP] using e)⟩
theorem c_all_l {N : Nat} {Q : Int32 → (Nat → Int32) → (Nat → Int32) → (Nat → Int32) → (Nat → Int32) → (Nat → Int32) → (Nat → Int32) → (Nat → Int32) → (Nat → Int32) → (Nat → Int32) → Int32 → Int32 → Prop} {K : Int32 → (Nat → Int32) → (Nat → Int32) → (Nat → Int32) → (Nat → Int32) → (Nat → Int32) → (Nat → Int32) → Int32 → Prop} : ∀ r i (A : AS) (ze ma dn wi du he : Nat → Int32) (yr : Int32), RelC sk ze ma ki dn wi du (nI N) A → Inv A → A 7 0 = N → i + r = 201 → (firstN alP r A < r → ∀ ze' ma' dn' wi' du' he' yr', Q (nI (i + firstN alP r A)) fd sk ze' ma' ki dn' wi' du' he' yr' (nI N)) → (¬ firstN alP r A < r → ∀ x ze' ma' dn' wi' du' he' yr', K x ze' ma' dn' wi' du' he' yr') → wpl_X9_all_13 fd sk ki (nI N) Q K (r + 1) (nI i) ze ma dn wi du he yr := by
  intro r
  induction r with
  | zero =>
    intro i A ze ma dn wi du he yr h hI hsz hi _ hK
    rw [wpl_X9_all_13, show i = 201 by omega]
    exact br_t (by decide) (hK (by omega) _ _ _ _ _ _ _ _)
  | succ r ih =>
    intro i A ze ma dn wi du he yr h hI hsz hi hQ hK
    subst hsz
    rw [wpl_X9_all_13, nI_1]
    refine br_f (fun z => absurd ((clt (a := 200) (by decide) (by omega)).mp z) (by omega)) ?_
    simp only [firstN] at hQ hK
    refine c_isAll h.2.2.2.2.1 hI (fun e => br_f (by decide) ?_) (fun e => br_t rfl ?_)
    · rw [if_pos e] at hQ
      exact hQ (by omega) _ _ _ _ _ _ _
    · rw [if_neg e] at hQ hK
      refine c_goYear h hI he yr (fun ze1 ma1 dn1 wi1 du1 he1 h1 => ?_)
      refine ih (i + 1) _ _ _ _ _ _ _ _ h1 (yearN_inv hI).1 (yearN_inv hI).2 (by omega) (fun c => ?_) (fun c => hK (by omega))
      have := hQ (by omega)
      rw [show i + 1 + firstN alP r (yearN A) = i + (firstN alP r (yearN A) + 1) by omega]
      exact this
theorem m_all_l {K : Int32 → (Nat → Int32) → Prop} : ∀ r i (A : AS) (yr : Int32) (m : Nat → Int32), RelM m A yr → Inv A → i + r = 201 → (∀ m', K (nI (i + firstN alP r A)) m') → wpl_X10_all_6 K (r + 1) (nI i) m := by
  intro r
  induction r with
  | zero =>
    intro i A yr m h hI hi hK
    rw [wpl_X10_all_6, show i = 201 by omega]
    rw [show i = 201 by omega] at hK
    exact br_t (by decide) (hK _)
  | succ r ih =>
    intro i A yr m h hI hi hK
    rw [wpl_X10_all_6, nI_1]
    refine br_f (fun z => absurd ((clt (a := 200) (by decide) (by omega)).mp z) (by omega)) ?_
    simp only [firstN] at hK
    refine m_areDone h hI (fun e => br_f (by decide) ?_) (fun e => br_t rfl ?_)
    · rw [if_pos e] at hK
      exact hK _
    · rw [if_neg e] at hK
      refine m_goes h hI (fun m1 h1 => ih (i + 1) _ _ _ h1 (yearN_inv hI).1 (by omega) (fun m' => ?_))
      rw [show i + 1 + firstN alP r (yearN A) = i + (firstN alP r (yearN A) + 1) by omega]
      exact hK m'
section T
variable {K : KT}
theorem sim_comes (h1 : R1 sk ze ma ki dn wi du yr sz m) (h2 : R2 fd fo) (tsk tze tma tki tdn twi tdu the : Nat → Int32) (tyr tsz : Int32) (wa : Nat → Int32) (hK : HK sk ze ma ki dn wi du yr sz K) (a1 a2 : Int32) : wp_X9_comes fd tsk tze tma tki tdn twi tdu the tyr tsz sk ze ma ki dn wi du yr sz a1 a2 (fun r c0 c1 c2 c3 c4 c5 c6 c7 c8 c9 c10 => wp_X10_comes m wa fo a1 a2 (fun r' d0 d1 d2 => K r r' c0 c1 c2 c3 c4 c5 c6 c7 c8 c9 c10 d0 d1 d2)) := by
  obtain ⟨A, hC, hM, hI⟩ := id h1
  have hsz := hC.2.2.2.2.2.2.2
  subst hsz
  have h8 := hI.1
  rcases rg_t a1 h8 with ⟨t, ht, rfl⟩ | hn
  · refine ct_t ht h8 (br_f (by decide) ?_)
    have ht8 : t < 8 := by omega
    rcases rg a2 5 (by decide) with ⟨p, hp, rfl⟩ | hn
    · have hp6 : p < 6 := by omega
      have hl := firstN_le (wiP t p) 201 A
      refine cp_t hp (br_f (by decide) (c_become hC (fun c0 c1 c2 c3 c4 c5 c6 hC1 => ⟨202, c_comes_l ht8 hp6 201 0 A c1 c2 c4 c5 c6 the yr hC1 hI (by omega) ?_ ?_⟩)))
      · intro c ze' ma' dn' wi' du' he' yr'
        refine mt_t hM hI ht (br_f (by decide) (mp_t hp (br_f (by decide) (m_thinks hM (fun wa' hW => ⟨202, m_comes_l ht8 hp6 201 0 A yr m hM hI (by omega) (fun m' => m_putsBack hW (fun m2 hM2 => br_t ?_ ?_))⟩)))))
        · exact (cle (b := 200) (by omega) (by decide)).mpr (by omega)
        · exact hK.a ⟨A, hC, hM2, hI⟩ h2
      · intro c x ze' ma' dn' wi' du' he' yr'
        refine c_fnd 3 (by decide) bf3 (mt_t hM hI ht (br_f (by decide) (mp_t hp (br_f (by decide) (m_thinks hM (fun wa' hW => ⟨202, m_comes_l ht8 hp6 201 0 A yr m hM hI (by omega) (fun m' => m_putsBack hW (fun m2 hM2 => br_f ?_ (m_fnd 3 (by decide) bf3 ?_)))⟩))))))
        · exact fun z => absurd ((cle (b := 200) (by omega) (by decide)).mp z) (by omega)
        · exact hK.a ⟨A, hC, hM2, hI⟩ (R2_up h2 (by decide))
    · exact cp_f hn (br_t rfl (c_fnd 0 (by decide) bf0 (mt_t hM hI ht (br_f (by decide) (mp_f hn (br_t rfl (m_fnd 0 (by decide) bf0 (hK.a h1 (R2_up h2 (by decide))))))))))
  · exact ct_f hn (br_t rfl (c_fnd 0 (by decide) bf0 (mt_f hM hn (br_t rfl (m_fnd 0 (by decide) bf0 (hK.a h1 (R2_up h2 (by decide))))))))
theorem sim_all (h1 : R1 sk ze ma ki dn wi du yr sz m) (h2 : R2 fd fo) (tsk tze tma tki tdn twi tdu the : Nat → Int32) (tyr tsz : Int32) (wa : Nat → Int32) (hK : HK sk ze ma ki dn wi du yr sz K) : wp_X9_all fd tsk tze tma tki tdn twi tdu the sk ze ma ki dn wi du yr sz (fun r c0 c1 c2 c3 c4 c5 c6 c7 c8 c9 c10 => wp_X10_all m wa fo (fun r' d0 d1 d2 => K r r' c0 c1 c2 c3 c4 c5 c6 c7 c8 c9 c10 d0 d1 d2)) := by
  obtain ⟨A, hC, hM, hI⟩ := id h1
  have hsz := hC.2.2.2.2.2.2.2
  subst hsz
  have h8 := hI.1
  have hl := firstN_le alP 201 A
  refine c_become hC (fun c0 c1 c2 c3 c4 c5 c6 hC1 => ⟨202, c_all_l 201 0 A c1 c2 c4 c5 c6 the yr hC1 hI rfl (by omega) ?_ ?_⟩)
  · intro c ze' ma' dn' wi' du' he' yr'
    refine m_thinks hM (fun wa' hW => ⟨202, m_all_l 201 0 A yr m hM hI (by omega) (fun m' => m_putsBack hW (fun m2 hM2 => br_t ?_ ?_))⟩)
    · exact (cle (b := 200) (by omega) (by decide)).mpr (by omega)
    · exact hK.a ⟨A, hC, hM2, hI⟩ h2
  · intro c x ze' ma' dn' wi' du' he' yr'
    refine c_fnd 3 (by decide) bf3 (m_thinks hM (fun wa' hW => ⟨202, m_all_l 201 0 A yr m hM hI (by omega) (fun m' => m_putsBack hW (fun m2 hM2 => br_f ?_ (m_fnd 3 (by decide) bf3 ?_)))⟩))
    · exact fun z => absurd ((cle (b := 200) (by omega) (by decide)).mp z) (by omega)
    · exact hK.a ⟨A, hC, hM2, hI⟩ (R2_up h2 (by decide))
end T
/-! ===== give, kind ===== -/
def soL (n : Nat → Nat) : Nat → Nat → Nat → Nat → Nat × Nat
  | 0, _, b, s => (b, s)
  | r + 1, p, b, s => if n p < s then soL n r (p + 1) (p + 1) (n p) else soL n r (p + 1) b s
theorem soL_le (n : Nat → Nat) : ∀ r p b s, p + r = 6 → b ≤ 6 → (soL n r p b s).1 ≤ 6 := by
  intro r
  induction r with
  | zero => intro p b s _ hb; exact hb
  | succ r ih =>
    intro p b s hp hb
    simp only [soL]
    split
    · exact ih _ _ _ (by omega) (by omega)
    · exact ih _ _ _ (by omega) hb
theorem fnd_eq (P : AS → Bool) (B : AS) {M : Nat} (hM : M ≤ 101) : fnd (firstN P M B) M = fnd (firstN P 101 B) M := by
  have := firstN_min P M 101 B hM
  unfold fnd
  by_cases c : firstN P 101 B < M
  · rw [if_pos c, if_pos (by omega), show firstN P M B = firstN P 101 B by omega]
  · rw [if_neg c, if_neg (by omega)]
section G
variable {t : Nat} (ht : t < 8) (hC : RelC sk ze ma ki dn wi du sz A) (hI : Inv A)
theorem c_give_l (ht : t < 8) (hC : RelC sk ze ma ki dn wi du sz A) (hI : Inv A) (yr : Int32) {K : Int32 → Int32 → Int32 → (Nat → Int32) → (Nat → Int32) → (Nat → Int32) → (Nat → Int32) → (Nat → Int32) → (Nat → Int32) → (Nat → Int32) → (Nat → Int32) → Int32 → Int32 → Prop} : ∀ r p b s (t0 t1 t2 t3 t4 t5 t6 t7 : Nat → Int32) (t8 t9 : Int32), p + r = 6 → s ≤ 101 → (∀ x y t0 t1 t2 t3 t4 t5 t6 t7 t8 t9, K (wI (soL (fun p => firstN (dnP t) 101 (u2 A 5 t (p + 1))) r p b s).1) x y t0 t1 t2 t3 t4 t5 t6 t7 t8 t9) → wpl_X9_give_41 sk ze ma ki dn wi du yr sz (nI t) K (r + 1) (wI b) (nI s) (nI p) t0 t1 t2 t3 t4 t5 t6 t7 t8 t9 := by
  intro r
  induction r with
  | zero =>
    intro p b s t0 t1 t2 t3 t4 t5 t6 t7 t8 t9 hp hs hK
    rw [wpl_X9_give_41, show p = 6 by omega]
    exact br_t (by decide) (hK _ _ _ _ _ _ _ _ _ _ _ _)
  | succ r ih =>
    intro p b s t0 t1 t2 t3 t4 t5 t6 t7 t8 t9 hp hs hK
    rw [wpl_X9_give_41, nI_1]
    refine br_f (fun z => absurd ((cle (a := 6) (by decide) (by omega)).mp z) (by omega)) (c_become hC (fun c0 c1 c2 c3 c4 c5 c6 hC1 => ⟨vp_in_nI ht (by decide), ?_⟩))
    rw [nI_clamp (by omega)]
    simp only [soL] at hK
    have hB : Inv (u2 A 5 t (p + 1)) := hI.t (k := 2) _ (by decide) (by simp; omega)
    refine c_trial (M := s) (hC1.u_wi t (p + 1)) hB ht (by omega) t7 yr (fun ze' ma' dn' wi' du' he' yr' => ?_)
    rw [fnd_eq _ _ hs]
    refine ek_if (fnd_neg (by omega)) (fun c => ?_) (fun c => ?_)
    · rw [if_neg c] at hK
      exact ih (p + 1) b s _ _ _ _ _ _ _ _ _ _ (by omega) hs hK
    · have c := Classical.byContradiction c
      rw [if_pos c] at hK
      unfold fnd
      rw [if_pos c]
      exact ih (p + 1) (p + 1) _ _ _ _ _ _ _ _ _ _ _ (by omega) (by omega) hK
theorem c_kind_l (ht : t < 8) (hC : RelC sk ze ma ki dn wi du sz A) (hI : Inv A) (yr : Int32) {K : Int32 → Int32 → Int32 → (Nat → Int32) → (Nat → Int32) → (Nat → Int32) → (Nat → Int32) → (Nat → Int32) → (Nat → Int32) → (Nat → Int32) → (Nat → Int32) → Int32 → Int32 → Prop} : ∀ r p b s (t0 t1 t2 t3 t4 t5 t6 t7 : Nat → Int32) (t8 t9 : Int32), p + r = 6 → s ≤ 101 → (∀ x y t0 t1 t2 t3 t4 t5 t6 t7 t8 t9, K (wI (soL (fun p => firstN (dnP t) 101 (u2 A 3 t p)) r p b s).1) x y t0 t1 t2 t3 t4 t5 t6 t7 t8 t9) → wpl_X9_kind_23 sk ze ma ki dn wi du yr sz (nI t) K (r + 1) (wI b) (nI s) (nI p) t0 t1 t2 t3 t4 t5 t6 t7 t8 t9 := by
  intro r
  induction r with
  | zero =>
    intro p b s t0 t1 t2 t3 t4 t5 t6 t7 t8 t9 hp hs hK
    rw [wpl_X9_kind_23, show p = 6 by omega]
    exact br_t (by decide) (hK _ _ _ _ _ _ _ _ _ _ _ _)
  | succ r ih =>
    intro p b s t0 t1 t2 t3 t4 t5 t6 t7 t8 t9 hp hs hK
    rw [wpl_X9_kind_23, nI_1]
    refine br_f (fun z => absurd ((cle (a := 6) (by decide) (by omega)).mp z) (by omega)) (c_become hC (fun c0 c1 c2 c3 c4 c5 c6 hC1 => ⟨vp_in_nI ht (by decide), ?_⟩))
    rw [nI_clamp (by omega)]
    simp only [soL] at hK
    have hB : Inv (u2 A 3 t p) := hI.t (k := 0) _ (by decide) (by simp; omega)
    refine c_trial (M := s) (hC1.u_ki t p) hB ht (by omega) t7 yr (fun ze' ma' dn' wi' du' he' yr' => ?_)
    rw [fnd_eq _ _ hs]
    refine ek_if (fnd_neg (by omega)) (fun c => ?_) (fun c => ?_)
    · rw [if_neg c] at hK
      exact ih (p + 1) b s _ _ _ _ _ _ _ _ _ _ (by omega) hs hK
    · have c := Classical.byContradiction c
      rw [if_pos c] at hK
      unfold fnd
      rw [if_pos c]
      exact ih (p + 1) (p + 1) _ _ _ _ _ _ _ _ _ _ _ (by omega) (by omega) hK
theorem m_dIn100 {B : AS} {yb : Int32} (h : RelM m A yr) (hw : RelM wa B yb) (hI : Inv A) (ht : t < 8) {Q : Int32 → (Nat → Int32) → Prop} (hQ : ∀ m', RelM m' B yb → Q (fnd (firstN (dnP t) 101 A) 101) m') : wp_X10_doneIn m wa (nI t) 100 Q := m_doneIn (L := 100) h hw hI ht (by decide) hQ
theorem m_so_l {j : Nat} {B : Nat → AS} (ht : t < 8) (hj : j < 52) (hw : RelM wa A yr) (hB : ∀ p, p < 6 → Inv (B p)) (hu : ∀ m, RelM m A yr → ∀ p, p < 6 → RelM (upd m j (nI p)) (B p) yr) {K : Int32 → Int32 → Int32 → (Nat → Int32) → Prop} : ∀ r p b s (m : Nat → Int32), RelM m A yr → p + r = 6 → b ≤ 6 → ((b = 0 ∧ s = 101) ∨ (b ≠ 0 ∧ s ≤ 100)) → (∀ x y m', RelM m' A yr → K (wI (soL (fun p => firstN (dnP t) 101 (B p)) r p b s).1) x y m') → wpl_X10_soonestBy_13 wa (nI j) 6 (nI t) K (r + 1) (wI b) (if b = 0 then 0 else nI s) (nI p) m := by
  intro r
  induction r with
  | zero =>
    intro p b s m hM hp hb hs hK
    rw [wpl_X10_soonestBy_13, show p = 6 by omega]
    exact br_t (by decide) (hK _ _ _ hM)
  | succ r ih =>
    intro p b s m hM hp hb hs hK
    rw [wpl_X10_soonestBy_13, nI_1, nI_clamp (by omega)]
    refine br_f (fun z => absurd ((cle (a := 6) (by decide) (by omega)).mp z) (by omega)) ⟨vp_in_nI hj (by decide), ?_⟩
    simp only [soL] at hK
    refine m_dIn100 (hu m hM p (by omega)) hw (hB p (by omega)) ht (fun m' hM' => ?_)
    refine ek_if (fnd_neg (by omega)) (fun c => ?_) (fun c => ?_)
    · rw [if_neg (by omega)] at hK
      exact ih (p + 1) b s m' hM' (by omega) hb hs hK
    · have c := Classical.byContradiction c
      have tk : firstN (dnP t) 101 (B p) < s → wpl_X10_soonestBy_13 wa (nI j) 6 (nI t) K (r + 1) (nI p) (fnd (firstN (dnP t) 101 (B p)) 101) (nI (p + 1)) m' := by
        intro c2
        rw [if_pos c2] at hK
        have := ih (p + 1) (p + 1) (firstN (dnP t) 101 (B p)) m' hM' (by omega) (by omega) (Or.inr ⟨by omega, by omega⟩) hK
        rw [if_neg (by omega)] at this
        unfold fnd
        rw [if_pos c]
        exact this
      refine ek_if (wI_neg b (by omega)) (fun c1 => tk (by omega)) (fun c1 => ?_)
      have ef : fnd (firstN (dnP t) 101 (B p)) 101 = nI (firstN (dnP t) 101 (B p)) := by unfold fnd; rw [if_pos c]
      rw [if_neg c1]
      refine ek_if (show nI s ≤ fnd (firstN (dnP t) 101 (B p)) 101 ↔ s ≤ firstN (dnP t) 101 (B p) from by rw [ef, cle (by omega) (by omega)]) (fun c2 => ?_) (fun c2 => tk (by omega))
      rw [if_neg (by omega)] at hK
      have := ih (p + 1) b s m' hM' (by omega) hb hs hK
      rw [if_neg c1] at this
      exact this
end G
section T2
variable {K : KT}
theorem sim_give (h1 : R1 sk ze ma ki dn wi du yr sz m) (h2 : R2 fd fo) (tsk tze tma tki tdn twi tdu the : Nat → Int32) (tyr tsz : Int32) (wa : Nat → Int32) (hK : HK sk ze ma ki dn wi du yr sz K) (a1 : Int32) : wp_X9_give fd tsk tze tma tki tdn twi tdu the tyr tsz sk ze ma ki dn wi du yr sz a1 (fun r c0 c1 c2 c3 c4 c5 c6 c7 c8 c9 c10 => wp_X10_give m wa fo a1 (fun r' d0 d1 d2 => K r r' c0 c1 c2 c3 c4 c5 c6 c7 c8 c9 c10 d0 d1 d2)) := by
  obtain ⟨A, hC, hM, hI⟩ := id h1
  have hsz := hC.2.2.2.2.2.2.2
  subst hsz
  have h8 := hI.1
  rcases rg_t a1 h8 with ⟨t, ht, rfl⟩ | hn
  · refine ct_t ht h8 (br_f (by decide) ?_)
    have ht8 : t < 8 := by omega
    refine c_isFinished hC.2.2.2.2.1 ht8 (hI.2.2 t ht8).2.1 (fun e => br_f (by decide) (c_fnd 4 (by decide) bf4 ?_)) (fun e => br_t rfl ?_)
    · exact mt_t hM hI ht (br_f (by decide) (m_isDone hM hI ht8 (fun _ => br_f (by decide) (m_fnd 4 (by decide) bf4 (hK.a h1 (R2_up h2 (by decide))))) (fun z => absurd e z)))
    · have hb := soL_le (fun p => firstN (dnP t) 101 (u2 A 5 t (p + 1))) 6 0 0 101 rfl (by omega)
      have mm : ∀ {Q : Int32 → (Nat → Int32) → (Nat → Int32) → (Nat → Int32) → Prop}, (∀ m' wa', RelM m' A yr → wp_X10_orNone fo (wI (soL (fun p => firstN (dnP t) 101 (u2 A 5 t (p + 1))) 6 0 0 101).1) (fun r4 c4 => Q r4 m' wa' c4)) → wp_X10_give m wa fo (nI t) Q := by
        intro Q hq
        refine mt_t hM hI ht (br_f (by decide) (m_isDone hM hI ht8 (fun z => absurd z e) (fun _ => br_t rfl (m_thinks hM (fun wa' hW => ?_)))))
        rw [show (20 : Int32) + 4 * nI t + 2 = nI (20 + 4 * t + 2) from ix_t t 2]
        exact ⟨7, m_so_l (B := fun p => u2 A 5 t (p + 1)) ht8 (by omega) hW (fun p hp => hI.t (k := 2) _ (by decide) (by simp; omega)) (fun m hm p hp => RelM_t (k := 2) hm (p + 1) ht8 (by decide) rfl) 6 0 0 101 m hM rfl (by omega) (Or.inl ⟨rfl, rfl⟩) (fun x y m' hM' => hq m' wa' hM')⟩
      refine ⟨7, c_give_l ht8 hC hI yr 6 0 0 101 _ _ _ _ _ _ _ _ _ _ rfl (by omega) (fun x y t0 t1 t2 t3 t4 t5 t6 t7 t8 t9 => ?_)⟩
      exact ⟨fun c => mm (fun m' wa' hM' => br_t c (hK.a ⟨A, hC, hM', hI⟩ h2)), fun c => c_fnd 3 (by decide) bf3 (mm (fun m' wa' hM' => br_f c (m_fnd 3 (by decide) bf3 (hK.a ⟨A, hC, hM', hI⟩ (R2_up h2 (by decide))))))⟩
  · exact ct_f hn (br_t rfl (c_fnd 0 (by decide) bf0 (mt_f hM hn (br_t rfl (m_fnd 0 (by decide) bf0 (hK.a h1 (R2_up h2 (by decide))))))))
theorem sim_kind (h1 : R1 sk ze ma ki dn wi du yr sz m) (h2 : R2 fd fo) (tsk tze tma tki tdn twi tdu the : Nat → Int32) (tyr tsz : Int32) (wa : Nat → Int32) (hK : HK sk ze ma ki dn wi du yr sz K) (a1 : Int32) : wp_X9_kind fd tsk tze tma tki tdn twi tdu the tyr tsz sk ze ma ki dn wi du yr sz a1 (fun r c0 c1 c2 c3 c4 c5 c6 c7 c8 c9 c10 => wp_X10_kind m wa fo a1 (fun r' d0 d1 d2 => K r r' c0 c1 c2 c3 c4 c5 c6 c7 c8 c9 c10 d0 d1 d2)) := by
  obtain ⟨A, hC, hM, hI⟩ := id h1
  have hsz := hC.2.2.2.2.2.2.2
  subst hsz
  have h8 := hI.1
  rcases rg_t a1 h8 with ⟨t, ht, rfl⟩ | hn
  · refine ct_t ht h8 (br_f (by decide) ?_)
    have ht8 : t < 8 := by omega
    have mm : ∀ {Q : Int32 → (Nat → Int32) → (Nat → Int32) → (Nat → Int32) → Prop}, (∀ m' wa', RelM m' A yr → wp_X10_orNone fo (wI (soL (fun p => firstN (dnP t) 101 (u2 A 3 t p)) 6 0 0 101).1) (fun r4 c4 => Q r4 m' wa' c4)) → wp_X10_kind m wa fo (nI t) Q := by
      intro Q hq
      refine mt_t hM hI ht (br_f (by decide) (m_thinks hM (fun wa' hW => ?_)))
      rw [show (20 : Int32) + 4 * nI t = nI (20 + 4 * t + 0) from by rw [← ix_t, show nI 0 = 0 from rfl, i0]]
      exact ⟨7, m_so_l (B := fun p => u2 A 3 t p) ht8 (by omega) hW (fun p hp => hI.t (k := 0) _ (by decide) (by simp; omega)) (fun m hm p hp => RelM_t (k := 0) hm p ht8 (by decide) rfl) 6 0 0 101 m hM rfl (by omega) (Or.inl ⟨rfl, rfl⟩) (fun x y m' hM' => hq m' wa' hM')⟩
    refine ⟨7, c_kind_l ht8 hC hI yr 6 0 0 101 _ _ _ _ _ _ _ _ _ _ rfl (by omega) (fun x y t0 t1 t2 t3 t4 t5 t6 t7 t8 t9 => ?_)⟩
    exact ⟨fun c => mm (fun m' wa' hM' => br_t c (hK.a ⟨A, hC, hM', hI⟩ h2)), fun c => c_fnd 3 (by decide) bf3 (mm (fun m' wa' hM' => br_f c (m_fnd 3 (by decide) bf3 (hK.a ⟨A, hC, hM', hI⟩ (R2_up h2 (by decide))))))⟩
  · exact ct_f hn (br_t rfl (c_fnd 0 (by decide) bf0 (mt_f hM hn (br_t rfl (m_fnd 0 (by decide) bf0 (hK.a h1 (R2_up h2 (by decide))))))))
end T2
end S6
