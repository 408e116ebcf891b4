section S4
variable {fd fo sk ze ma ki dn wi du m : Nat → Int32} {yr sz : Int32} {A : AS}
theorem n_inl {lo j hi : Nat} (h1 : lo ≤ j) (h2 : j ≤ hi) (h : hi < 2 ^ 31) : nI lo ≤ nI j ∧ nI j ≤ nI hi := ⟨(cle (by omega) (by omega)).mpr h1, (cle (by omega) (by omega)).mpr h2⟩
theorem wl_t {lo j hi : Nat} {Q : Int32 → Prop} (h1 : lo ≤ j) (h2 : j ≤ hi) (h : hi < 2 ^ 31) (hQ : Q 1) : wp_X9_isWithin (nI j) (nI lo) (nI hi) Q := w_t (n_inl h1 h2 h).1 (n_inl h1 h2 h).2 hQ
theorem inl_t {lo j hi : Nat} {Q : Int32 → Prop} (h1 : lo ≤ j) (h2 : j ≤ hi) (h : hi < 2 ^ 31) (hQ : Q 1) : wp_X10_in (nI j).toInt64 (nI lo) (nI hi) Q := in_t (n_inl h1 h2 h).1 (n_inl h1 h2 h).2 hQ
theorem sim_years (h1 : R1 sk ze ma ki dn wi du yr sz m) (h2 : R2 fd fo) (he : Nat → Int32) (a1 : Int32) {K : Int32 → Int32 → (Nat → Int32) → (Nat → Int32) → (Nat → Int32) → (Nat → Int32) → (Nat → Int32) → (Nat → Int32) → (Nat → Int32) → Int32 → (Nat → Int32) → (Nat → Int32) → Prop} (hK : ∀ r fd' ze' ma' dn' wi' du' he' yr' m' fo', R1 sk ze' ma' ki dn' wi' du' yr' sz m' → R2 fd' fo' → K r r fd' ze' ma' dn' wi' du' he' yr' m' fo') : wp_X9_years fd sk ze ma ki dn wi du he yr sz a1 (fun r c0 c1 c2 c3 c4 c5 c6 c7 => wp_X10_years m fo a1 (fun r' c0' c1' => K r r' c0 c1 c2 c3 c4 c5 c6 c7 c0' c1')) := by
  obtain ⟨A, hC, hM, hI⟩ := id h1
  have hsz := hC.2.2.2.2.2.2.2
  subst hsz
  have h8 := hI.1
  rcases rg_l a1 1 60 (by decide) (by decide) with ⟨N, hl, hN, rfl⟩ | hn
  · refine wl_t (lo := 1) (hi := 60) hl hN (by decide) (br_f (by decide) ?_)
    have hM0 : ∀ {Q : Int32 → (Nat → Int32) → (Nat → Int32) → Prop}, ((yr + nI N ≤ 9999 → wp_X10_goesFor m (nI N) (fun c3 => wp_X10_doneOnes c3 (fun r4 => Q r4 c3 fo))) ∧ (¬ (yr + nI N ≤ 9999) → wp_X10_finds fo (-1000000005) (fun r5 c5 => Q r5 m c5))) → wp_X10_years m fo (nI N) Q := by
      intro Q hq
      refine inl_t (lo := 1) (hi := 60) hl hN (by decide) (br_f (by decide) ⟨vp_lit 0 (by decide) (by decide), ?_⟩)
      rw [RelM_yr hM]
      exact hq
    refine ⟨fun c => ?_, fun c => ?_⟩
    · have hy := yearsN_inv N A hI
      refine c_goYears hC hI he yr (by omega) (fun ze' ma' dn' wi' du' he' hC' => ?_)
      rw [← hy.2] at hC' ⊢
      refine c_finishedSet hC'.2.2.2.2.1 hy.1 (hM0 (br_t c (m_goesFor hM hI (by omega) (fun m' hM' => m_doneOnes hM' hy.1 ?_))))
      rw [hy.2] at hC'
      exact hK _ _ _ _ _ _ _ _ _ _ _ ⟨_, hC', hM', hy.1⟩ h2
    · exact c_fnd 4 (by decide) bf4 (hM0 (br_f c (m_fnd 4 (by decide) bf4 (hK _ _ _ _ _ _ _ _ _ _ _ h1 (R2_up h2 (by decide))))))
  · exact w_f hn (br_t rfl (c_fnd 0 (by decide) bf0 (in_f hn (br_t rfl (m_fnd 0 (by decide) bf0 (hK _ _ _ _ _ _ _ _ _ _ _ h1 (R2_up h2 (by decide))))))))
theorem sim_now (h1 : R1 sk ze ma ki dn wi du yr sz m) (h2 : R2 fd fo) (a1 : Int32) {K : Int32 → Int32 → (Nat → Int32) → (Nat → Int32) → Prop} (hK : ∀ r fd' fo', R2 fd' fo' → K r r fd' fo') : wp_X9_now fd ma dn wi yr sz a1 (fun r c0 => wp_X10_now m fo a1 (fun r' c0' => K r r' c0 c0')) := by
  obtain ⟨A, hC, hM, hI⟩ := id h1
  have hsz := hC.2.2.2.2.2.2.2
  subst hsz
  have h8 := hI.1
  by_cases e0 : a1 = 0
  · subst e0
    refine br_t rfl (br_t rfl ⟨vp_lit 0 (by decide) (by decide), ?_⟩)
    rw [RelM_yr hM]
    exact hK _ _ _ h2
  · by_cases e1 : a1 = 1
    · subst e1
      exact br_f e0 (br_t rfl (c_finishedSet hC.2.2.2.2.1 hI (br_f e0 (br_t rfl (m_doneOnes hM hI (hK _ _ _ h2))))))
    · by_cases e2 : a1 = 2
      · subst e2
        exact br_f e0 (br_f e1 (br_t rfl (c_heldSet (w := 0) hC.2.2.2.2.2.1 hI (by decide) (br_f e0 (br_f e1 (br_t rfl (m_withOf (w := 0) hM hI (by decide) (hK _ _ _ h2))))))))
      · by_cases e3 : a1 = 3
        · subst e3
          exact br_f e0 (br_f e1 (br_f e2 (br_t rfl (c_doneAll hC.2.2.2.2.1 hI (br_f e0 (br_f e1 (br_f e2 (br_t rfl (m_doneAll hM hI (hK _ _ _ h2))))))))))
        · by_cases e4 : a1 = 4
          · subst e4
            refine br_f e0 (br_f e1 (br_f e2 (br_f e3 (br_t rfl (c_sum (n := 6) (by decide) (by decide) (br_f e0 (br_f e1 (br_f e2 (br_f e3 (br_t rfl (m_allMade hM ?_)))))))))))
            rw [sumL_c (f := ma) (g := fun t => nI (A 2 t)) _ _ _ (fun i hi => hC.2.2.1 i (by omega))]
            exact hK _ _ _ h2
          · exact br_f e0 (br_f e1 (br_f e2 (br_f e3 (br_f e4 (c_fnd 0 (by decide) bf0 (br_f e0 (br_f e1 (br_f e2 (br_f e3 (br_f e4 (m_fnd 0 (by decide) bf0 (hK _ _ _ (R2_up h2 (by decide))))))))))))))
theorem sim_personOf (h1 : R1 sk ze ma ki dn wi du yr sz m) (h2 : R2 fd fo) (a1 a2 : Int32) {K : Int32 → Int32 → (Nat → Int32) → (Nat → Int32) → Prop} (hK : ∀ r fd' fo', R2 fd' fo' → K r r fd' fo') : wp_X9_personOf fd sk ze ma dn wi sz a1 a2 (fun r c0 => wp_X10_personOf m fo a1 a2 (fun r' c0' => K r r' c0 c0')) := by
  obtain ⟨A, hC, hM, hI⟩ := id h1
  have hsz := hC.2.2.2.2.2.2.2
  subst hsz
  have h8 := hI.1
  have hby : K (-1000000001) (-1000000001) (upd fd 0 (fd 0 + 1)) (upd fo 0 (fo 0 + 1)) := hK _ _ _ (R2_up h2 (by decide))
  rcases rg a1 5 (by decide) with ⟨p, hp, rfl⟩ | hn
  · have hp6 : p < 6 := by omega
    have vp : vp_in (nI p) 6 := vp_in_nI hp6 (by decide)
    refine cp_t hp (br_f (by decide) ?_)
    rcases rg a2 4 (by decide) with ⟨k, hk, rfl⟩ | hn
    · have mm : ∀ {Q : Int32 → (Nat → Int32) → Prop}, ((3 ≤ nI k → (nI k = 3 → wp_X10_withOf m (nI p) (fun r5 => Q r5 fo)) ∧ (¬ (nI k = 3) → wp_X10_openOf m (nI p) (fun r4 => Q r4 fo))) ∧ (¬ (3 ≤ nI k) → wp_X10_his m (nI p) (nI k) (fun r6 => Q r6 fo))) → wp_X10_personOf m fo (nI p) (nI k) Q := fun hq => mp_t hp (br_f (by decide) (inn_t (n := 4) hk (by decide) (br_f (by decide) hq)))
      rw [nI_clamp (by omega)]
      rcases (by omega : k = 0 ∨ k = 1 ∨ k = 2 ∨ k = 3 ∨ k = 4) with e | e | e | e | e <;> subst e
      · refine br_t rfl ⟨vp, mm (br_f (by decide) (m_his (k := 0) hM hp6 (by decide) ?_))⟩
        rw [hC.1 p hp6]; exact hK _ _ _ h2
      · refine br_f (by decide) (br_t rfl ⟨vp, mm (br_f (by decide) (m_his (k := 1) hM hp6 (by decide) ?_))⟩)
        rw [hC.2.1 p hp6]; exact hK _ _ _ h2
      · refine br_f (by decide) (br_f (by decide) (br_t rfl ⟨vp, mm (br_f (by decide) (m_his (k := 2) hM hp6 (by decide) ?_))⟩))
        rw [hC.2.2.1 p hp6]; exact hK _ _ _ h2
      · exact br_f (by decide) (br_f (by decide) (br_f (by decide) (br_t rfl (c_heldSet (w := p + 1) hC.2.2.2.2.2.1 hI (by omega) (mm (br_t (by decide) (br_t rfl (m_withOf (w := p + 1) hM hI (by omega) (hK _ _ _ h2)))))))))
      · refine br_f (by decide) (br_f (by decide) (br_f (by decide) (br_f (by decide) (br_t rfl (c_heldSet (w := p + 1) hC.2.2.2.2.2.1 hI (by omega) (c_finishedSet hC.2.2.2.2.1 hI (p_bc ?_)))))))
        rw [bc_open A hI p]
        exact mm (br_t (by decide) (br_f (by decide) (m_openOf hM hI hp6 (hK _ _ _ h2))))
    · refine br_f (ne_lit hn 0 (by decide) (by decide)) (br_f (ne_lit hn 1 (by decide) (by decide)) (br_f (ne_lit hn 2 (by decide) (by decide)) (br_f (ne_lit hn 3 (by decide) (by decide)) (br_f (ne_lit hn 4 (by decide) (by decide)) (c_fnd 0 (by decide) bf0 ?_)))))
      exact mp_t hp (br_f (by decide) (in_f hn (br_t rfl (m_fnd 0 (by decide) bf0 hby))))
  · exact cp_f hn (br_t rfl (c_fnd 0 (by decide) bf0 (mp_f hn (br_t rfl (m_fnd 0 (by decide) bf0 hby)))))
theorem sim_count (h1 : R1 sk ze ma ki dn wi du yr sz m) (h2 : R2 fd fo) (td : Int32) (a1 : Int32) {K : Int32 → Int32 → (Nat → Int32) → (Nat → Int32) → Prop} (hK : ∀ r fd' fo', R2 fd' fo' → K r r fd' fo') : wp_X9_count fd dn du sz td a1 (fun r c0 => wp_X10_count m fo td a1 (fun r' c0' => K r r' c0 c0')) := by
  obtain ⟨A, hC, hM, hI⟩ := id h1
  have hsz := hC.2.2.2.2.2.2.2
  subst hsz
  have h8 := hI.1
  by_cases e0 : a1 = 0
  · subst e0
    refine br_t rfl (br_t rfl ⟨vp_lit 1 (by decide) (by decide), ?_⟩)
    rw [RelM_sz hM]
    exact hK _ _ _ h2
  · by_cases e1 : a1 = 1
    · subst e1
      exact br_f e0 (br_t rfl (br_f e0 (br_t rfl (hK _ _ _ h2))))
    · by_cases e2 : a1 = 2
      · subst e2
        exact br_f e0 (br_f e1 (br_t rfl (c_finishedSet hC.2.2.2.2.1 hI (p_bc (br_f e0 (br_f e1 (br_t rfl (m_howMany hM hI (hK _ _ _ h2)))))))))
      · by_cases e3 : a1 = 3
        · subst e3
          refine br_f e0 (br_f e1 (br_f e2 (br_t rfl (c_sum (n := A 7 0) h8 (by decide) (br_f e0 (br_f e1 (br_f e2 (br_t rfl (m_sums (k := 3) hM hI (by decide) (by decide) ?_)))))))))
          rw [sumL_c (f := du) (g := fun t => nI (A 6 t)) _ _ _ (fun i hi => hC.2.2.2.2.2.2.1 i (by omega))]
          exact hK _ _ _ h2
        · exact br_f e0 (br_f e1 (br_f e2 (br_f e3 (c_fnd 0 (by decide) bf0 (br_f e0 (br_f e1 (br_f e2 (br_f e3 (m_fnd 0 (by decide) bf0 (hK _ _ _ (R2_up h2 (by decide))))))))))))
theorem m_st_all {K : Int32 → Int32 → Prop} : ∀ r t a, t + r = 7 → K (sumL fo r t a) (nI 7) → wpl_X10_status_22 fo (-1) K (r + 1) a (nI t) := by
  intro r
  induction r with
  | zero =>
    intro t a ht hK
    rw [wpl_X10_status_22, show t = 7 by omega]
    exact br_t (by decide) hK
  | succ r ih =>
    intro t a ht hK
    rw [wpl_X10_status_22, nI_1, nI_clamp (by omega)]
    refine br_f (fun z => absurd ((cle (a := 7) (by decide) (by omega)).mp z) (by omega)) (br_t (by decide) ⟨vp_in_nI (by omega) (by decide), ?_⟩)
    exact ih (t + 1) _ (by omega) hK
theorem m_st_one {j : Nat} (hj : j ≤ 6) {K : Int32 → Int32 → Prop} : ∀ r t a, t + r = 7 → (t ≤ j → a = 0) → (j < t → a = fo j) → K (fo j) (nI 7) → wpl_X10_status_22 fo (nI j) K (r + 1) a (nI t) := by
  intro r
  induction r with
  | zero =>
    intro t a ht h1 h2 hK
    rw [wpl_X10_status_22, show t = 7 by omega]
    exact br_t (by decide) (by rw [h2 (by omega)]; exact hK)
  | succ r ih =>
    intro t a ht h1 h2 hK
    rw [wpl_X10_status_22, nI_1, nI_clamp (by omega)]
    refine br_f (fun z => absurd ((cle (a := 7) (by decide) (by omega)).mp z) (by omega)) (br_f (Int32.not_lt.mpr (nI_pos' (by omega))) (ek_if (cq (by omega) (by omega)) (fun e => ⟨vp_in_nI (by omega) (by decide), ?_⟩) (fun e => ?_)))
    · subst e
      exact ih (j + 1) _ (by omega) (fun z => by omega) (fun _ => by rw [h1 (by omega), Int32.zero_add]) hK
    · rw [i0]
      exact ih (t + 1) _ (by omega) (fun z => h1 (by omega)) (fun z => h2 (by omega)) hK
theorem sim_status (h2 : R2 fd fo) (a1 : Int32) {K : Int32 → Int32 → (Nat → Int32) → (Nat → Int32) → Prop} (hK : ∀ r fd' fo', R2 fd' fo' → K r r fd' fo') : wp_X9_status fd a1 (fun r c0 => wp_X10_status fo a1 (fun r' c0' => K r r' c0 c0')) := by
  by_cases e : a1 = -1
  · subst e
    refine br_t rfl (c_sum (n := 7) (by decide) (by decide) (in_t (by decide) (by decide) (br_f (by decide) ⟨8, m_st_all 7 0 0 (by omega) ?_⟩)))
    rw [sumL_c (f := fd) (g := fo) _ _ _ (fun i hi => h2 i (by omega))]
    exact hK _ _ _ h2
  · refine br_f e ?_
    rcases rg a1 6 (by decide) with ⟨j, hj, rfl⟩ | hn
    · refine wn_t (n := 6) hj (by decide) (br_f (by decide) ⟨vp_in_nI (by omega) (by decide), ?_⟩)
      rw [nI_clamp (by omega), h2 j (by omega)]
      exact in_t (Int32.le_trans (by decide : (-1 : Int32) ≤ 0) (n_in hj (by decide)).1) (n_in hj (by decide)).2 (br_f (by decide) ⟨8, m_st_one hj 7 0 0 (by omega) (fun _ => rfl) (fun z => by omega) (hK _ _ _ h2)⟩)
    · refine w_f hn (br_t rfl (c_fnd 0 (by decide) bf0 (in_f (fun z => hn ⟨?_, z.2⟩) (br_t rfl (m_fnd 0 (by decide) bf0 (hK _ _ _ (R2_up h2 (by decide))))))))
      have h1 := Int32.le_iff_toInt_le.mp z.1
      rw [Int32.le_iff_toInt_le]
      have h2 : a1.toInt ≠ -1 := fun q => e (Int32.toInt_inj.mp q)
      have h3 : (-1 : Int32).toInt = -1 := rfl
      have h4 : (0 : Int32).toInt = 0 := rfl
      omega
end S4
