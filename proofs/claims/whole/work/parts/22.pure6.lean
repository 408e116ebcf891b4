/-! ===== the class's year ===== -/
theorem p_fill_l {n : Nat} (hn : n < 2 ^ 31) (v : Int32) {K : Int32 → (Nat → Int32) → Prop} : ∀ r i (f : Nat → Int32), i + r = n → (∀ j, j < i → f j = v) → (∀ g, (∀ j, j < n → g j = v) → (∀ j, n ≤ j → g j = f j) → K (nI n) g) → wpl_J7_fill_53178_5 v (Int32.ofNat n) n K (r + 1) (nI i) f := by
  intro r
  induction r with
  | zero =>
    intro i f hi hf hK
    rw [wpl_J7_fill_53178_5]
    refine br_t ((cle hn (by omega)).mpr (by omega)) ?_
    rw [show i = n by omega] at hf ⊢
    exact hK f hf (fun _ _ => rfl)
  | succ r ih =>
    intro i f hi hf hK
    rw [wpl_J7_fill_53178_5]
    refine br_f (fun z => absurd ((cle hn (by omega)).mp z) (by omega)) ⟨vp_in_nI (by omega) hn, ?_⟩
    rw [nI_1, nI_clamp (by omega)]
    refine ih (i + 1) _ (by omega) (fun j hj => ?_) (fun g hg hg2 => hK g hg (fun j hj => ?_))
    · by_cases e : j = i
      · rw [e, pk_us]
      · rw [pk_un e]; exact hf j (by omega)
    · rw [hg2 j hj, pk_un (by omega)]
theorem p_fill {n : Nat} (hn : n < 2 ^ 31) (v : Int32) (f : Nat → Int32) {Q : (Nat → Int32) → Prop} (hQ : ∀ g, (∀ j, j < n → g j = v) → (∀ j, n ≤ j → g j = f j) → Q g) : wp_J7_fill_53178 f n v Q :=
  ⟨n + 1, p_fill_l hn v n 0 f (by omega) (fun j hj => by omega) hQ⟩
def RH (he : Nat → Int32) (A : AS) : Prop := ∀ p, p < 6 → he p = nI (cnt A p)
section CY
variable {sk ze ma ki dn wi du : Nat → Int32} {sz : Int32} {A : AS} {t : Nat}
theorem c_count_l (h4 : RN dn 8 (A 4)) (h5 : RW wi 8 (A 5)) (hI : Inv A) {K : Int32 → (Nat → Int32) → Prop} : ∀ r t (c : Nat → Nat) (he : Nat → Int32), t + r = A 7 0 → (∀ p, p < 6 → he p = nI (c p)) → (∀ he', (∀ p, p < 6 → he' p = nI (c p + cntN A p t r)) → K (nI (A 7 0)) he') → wpl_X2_countHeld_10 dn wi (nI (A 7 0)) K (r + 1) (nI t) he := by
  have h8 := hI.1
  intro r
  induction r with
  | zero =>
    intro t c he ht hh hK
    rw [wpl_X2_countHeld_10]
    refine br_t ((cle (by omega) (by omega)).mpr (by omega)) ?_
    rw [show t = A 7 0 by omega]
    exact hK he (fun p hp => by rw [hh p hp]; rfl)
  | succ r ih =>
    intro t c he ht hh hK
    have hb := hI.2.2 t (by omega)
    rw [wpl_X2_countHeld_10]
    refine br_f (fun z => absurd ((cle (by omega) (by omega)).mp z) (by omega)) ?_
    simp only [cntN] at hK
    rw [nI_1]
    refine c_canBeLeft h4 h5 (by omega) hI (fun e => br_f (by decide) ?_) (fun e => br_t rfl ?_)
    · obtain ⟨q, hq⟩ : ∃ q, A 5 t = q + 1 := ⟨A 5 t - 1, by omega⟩
      have ew : wi t = nI q := by rw [h5 t (by omega), hq]; rfl
      rw [nI_clamp (by omega), ew, nI_clamp (by omega), hh q (by omega), nI_1]
      refine ⟨vp_in_nI (by omega) (by decide), vp_in_nI (by omega) (by decide), vp_in_nI (by omega) (by decide), ?_⟩
      refine ih (t + 1) (fun p => if p = q then c p + 1 else c p) _ (by omega) (fun p hp => ?_) (fun he' hh' => hK he' (fun p hp => ?_))
      · by_cases e2 : p = q
        · rw [e2, pk_us, if_pos rfl]
        · rw [pk_un e2, if_neg e2]; exact hh p hp
      · rw [hh' p hp]
        by_cases e2 : p = q
        · subst e2
          rw [if_pos rfl, if_pos ⟨hq, e.2⟩, Nat.add_assoc]
        · rw [if_neg e2, if_neg (by omega), Nat.zero_add]
    · refine ih (t + 1) c he (by omega) hh (fun he' hh' => hK he' (fun p hp => ?_))
      rw [hh' p hp, if_neg (by omega), Nat.zero_add]
theorem c_countHeld (h4 : RN dn 8 (A 4)) (h5 : RW wi 8 (A 5)) (hI : Inv A) (he : Nat → Int32) {Q : (Nat → Int32) → Prop} (hQ : ∀ he', RH he' A → Q he') : wp_X2_countHeld dn wi he (nI (A 7 0)) Q := by
  refine p_fill (by decide) 0 he (fun g hg _ => ⟨A 7 0 + 1, ?_⟩)
  refine c_count_l h4 h5 hI (A 7 0) 0 (fun _ => 0) g (by omega) (fun p hp => hg p hp) (fun he' hh' => hQ he' (fun p hp => ?_))
  rw [hh' p hp, Nat.zero_add]; rfl
def bI (b mo : Nat) : Int32 := if b = 0 then -1 else nI mo
theorem c_taker_l (h0 : RN sk 6 (A 0)) {he : Nat → Int32} (hh : RH he A) (hI : Inv A) (ht : t < 8) {K : Int32 → Int32 → Int32 → Prop} : ∀ r p b mo, p + r = 6 → b ≤ 6 → mo ≤ 999 → K (wI (winL A t r p b mo).1) (bI (winL A t r p b mo).1 (winL A t r p b mo).2) (nI 6) → wpl_X2_takerOf_30 sk he (A 3 t) (nI (A 4 t)) (nI (A 6 t)) K (r + 1) (wI b) (bI b mo) (nI p) := by
  intro r
  induction r with
  | zero =>
    intro p b mo hp hb hm hK
    rw [wpl_X2_takerOf_30, show p = 6 by omega]
    exact br_t (by decide) hK
  | succ r ih =>
    intro p b mo hp hb hm hK
    have hx := hI.2.2 t ht
    have hs := (hI.2.1 p (by omega)).1
    have hbl := bidN_le (A 3 t) (A 0 p) (A 4 t) (A 6 t) hs hx.2.2.2
    have hcl := cnt_le hI p
    have hm1 : (-1 : Int32) ≤ bI b mo := by
      unfold bI; split
      · decide
      · exact Int32.le_trans (by decide : (-1 : Int32) ≤ 0) (nI_pos' (by omega))
    rw [wpl_X2_takerOf_30]
    refine br_f (fun z => absurd ((cle (a := 6) (by decide) (by omega)).mp z) (by omega)) ⟨vp_in_nI (by omega) (by decide), ?_⟩
    rw [nI_clamp (by omega), hh p (by omega), h0 p (by omega), nI_1]
    simp only [winL] at hK
    refine ek_if (cle (a := 2) (by decide) (by omega)) (fun c => ?_) (fun c => ⟨vp_in_nI (by omega) (by decide), ?_⟩)
    · rw [if_neg (by omega)] at hK
      exact br_t hm1 (ih _ _ _ (by omega) hb hm hK)
    · refine v_bid hx.1 hs hx.2.1 hx.2.2.2 ?_
      have eb : nI (bidN (A 3 t) (A 0 p) (A 4 t) (A 6 t)) ≤ bI b mo ↔ ¬ (b = 0 ∨ mo < bidN (A 3 t) (A 0 p) (A 4 t) (A 6 t)) := by
        unfold bI
        by_cases e : b = 0
        · rw [if_pos e]
          constructor
          · intro z; exact absurd (Int32.le_trans (nI_pos' (by omega)) z) (by decide)
          · intro z; exact absurd (Or.inl e) z
        · rw [if_neg e, cle (by omega) (by omega)]; omega
      refine ek_if eb (fun c1 => ?_) (fun c1 => ?_)
      · rw [if_neg (fun z => c1 z.2)] at hK
        exact ih _ _ _ (by omega) hb hm hK
      · rw [if_pos ⟨by omega, Classical.byContradiction c1⟩] at hK
        have := ih (p + 1) (p + 1) (bidN (A 3 t) (A 0 p) (A 4 t) (A 6 t)) (by omega) (by omega) hbl hK
        exact this
theorem c_takerOf (h0 : RN sk 6 (A 0)) (h3 : RN ki 8 (A 3)) (h4 : RN dn 8 (A 4)) (h6 : RN du 8 (A 6)) {he : Nat → Int32} (hh : RH he A) (hI : Inv A) (ht : t < 8) {Q : Int32 → Prop} (hQ : Q (wI (winN A t))) : wp_X2_takerOf sk ki dn du he (nI t) Q := by
  have hb := winL_le hI ht 6 0 0 0 rfl (by omega) (by omega)
  have hx := hI.2.2 t ht
  have ha := askN_le (A 3 t) (A 4 t) (A 6 t) hx.2.1
  have vt : vp_in (nI t) 8 := vp_in_nI ht (by decide)
  unfold wp_X2_takerOf
  rw [nI_clamp (by omega), h4 t ht, h6 t ht]
  refine c_natureOf h3 ht hx.1 ⟨vt, vt, 7, c_taker_l h0 hh hI ht 6 0 0 0 rfl (by omega) (by omega) ?_⟩
  refine v_asked hx.1 hx.2.1 hx.2.2.2 ?_
  unfold winN at hQ
  have eb : bI (winL A t 6 0 0 0).1 (winL A t 6 0 0 0).2 < nI (askN (A 3 t) (A 4 t) (A 6 t)) ↔ ¬ ((winL A t 6 0 0 0).1 ≠ 0 ∧ askN (A 3 t) (A 4 t) (A 6 t) ≤ (winL A t 6 0 0 0).2) := by
    unfold bI
    by_cases e : (winL A t 6 0 0 0).1 = 0
    · rw [if_pos e]
      constructor
      · intro _ z; exact z.1 e
      · intro _; exact Int32.lt_of_lt_of_le (by decide : (-1 : Int32) < 0) (nI_pos' (by omega))
    · rw [if_neg e, clt (by omega) (by omega)]; omega
  refine ek_if eb (fun c => ?_) (fun c => ?_)
  · by_cases e : (winL A t 6 0 0 0).1 = 0
    · rw [if_pos e] at hQ; exact hQ
    · rw [if_neg e, if_neg (by omega)] at hQ; exact hQ
  · have c := Classical.byContradiction c
    rw [if_neg c.1, if_pos c.2] at hQ
    exact hQ
theorem c_goYear_w {K : Int32 → (Nat → Int32) → (Nat → Int32) → (Nat → Int32) → (Nat → Int32) → (Nat → Int32) → Prop} : ∀ r t (A : AS) (ze ma dn wi du : Nat → Int32), RelC sk ze ma ki dn wi du (nI (A 7 0)) A → Inv A → t + r = A 7 0 → (∀ ze' ma' dn' wi' du', RelC sk ze' ma' ki dn' wi' du' (nI (A 7 0)) (wkL r t A) → K (nI (A 7 0)) ze' ma' dn' wi' du') → wpl_X2_goYear_2 sk ki (nI (A 7 0)) K (r + 1) (nI t) ze ma dn wi du := by
  intro r
  induction r with
  | zero =>
    intro t A ze ma dn wi du h hI ht hK
    have h8 := hI.1
    rw [wpl_X2_goYear_2]
    refine br_t ((cle (by omega) (by omega)).mpr (by omega)) ?_
    rw [show t = A 7 0 by omega]
    exact hK _ _ _ _ _ h
  | succ r ih =>
    intro t A ze ma dn wi du h hI ht hK
    have h8 := hI.1
    rw [wpl_X2_goYear_2]
    refine br_f (fun z => absurd ((cle (by omega) (by omega)).mp z) (by omega)) ?_
    simp only [wkL] at hK
    rw [nI_1]
    refine c_canBeLeft h.2.2.2.2.1 h.2.2.2.2.2.1 (by omega) hI (fun e => br_f (by decide) ?_) (fun e => br_t rfl ?_)
    · rw [if_pos e] at hK
      refine c_workOn h hI (by omega) e.1 (fun ze' ma' dn' wi' du' h1 => ?_)
      have := ih (t + 1) (workN A t) ze' ma' dn' wi' du' (by rw [workN_7]; exact h1) (workN_inv hI (by omega)) (by rw [workN_7]; omega) (by rw [workN_7]; exact hK)
      rw [workN_7] at this
      exact this
    · rw [if_neg e] at hK
      exact ih (t + 1) A ze ma dn wi du h hI (by omega) hK
theorem c_goYear_f (h0 : ∀ A : AS, True) {K : Int32 → (Nat → Int32) → (Nat → Int32) → (Nat → Int32) → Prop} : ∀ r t (A : AS) (wi du he : Nat → Int32), RelC sk ze ma ki dn wi du (nI (A 7 0)) A → RH he A → Inv A → t + r = A 7 0 → (∀ wi' du' he', RelC sk ze ma ki dn wi' du' (nI (A 7 0)) (frL r t A) → K (nI (A 7 0)) wi' du' he') → wpl_X2_goYear_35 sk ki dn (nI (A 7 0)) K (r + 1) (nI t) wi du he := by
  intro r
  induction r with
  | zero =>
    intro t A wi du he h hh hI ht hK
    have h8 := hI.1
    rw [wpl_X2_goYear_35]
    refine br_t ((cle (by omega) (by omega)).mpr (by omega)) ?_
    rw [show t = A 7 0 by omega]
    exact hK _ _ _ h
  | succ r ih =>
    intro t A wi du he h hh hI ht hK
    have h8 := hI.1
    have hb := hI.2.2 t (by omega)
    rw [wpl_X2_goYear_35]
    refine br_f (fun z => absurd ((cle (by omega) (by omega)).mp z) (by omega)) ?_
    simp only [frL] at hK
    rw [nI_1]
    refine c_isForTheFair h.2.2.2.2.1 h.2.2.2.2.2.1 (by omega) hI (fun e => br_f (by decide) ?_) (fun e => br_t rfl ?_)
    · have hfr : frN A t = u2 (duN A t) 5 t (winN (duN A t) t) := by unfold frN; rw [if_pos e]
      have hD := h.u_du t (if A 6 t + 1 < 999 then A 6 t + 1 else 999)
      have hcd : ∀ p, cnt (duN A t) p = cnt A p := by
        intro p; unfold cnt duN; rw [u2_f (by decide), cntN_du]
      have hhd : RH he (duN A t) := fun p hp => by rw [hcd]; exact hh p hp
      have hId := duN_inv hI t
      have hwl := winN_le hId (t := t) (by omega)
      have vt : vp_in (nI t) 8 := vp_in_nI (by omega) (by decide)
      have ed : (if nI (A 6 t) + 1 < 999 then nI (A 6 t) + 1 else 999) = nI (if A 6 t + 1 < 999 then A 6 t + 1 else 999) := by
        rw [show (1 : Int32) = nI 1 from rfl, nadd]; exact ifmin (by omega) (by decide)
      unfold wp_X2_offer
      rw [nI_clamp (by omega), h.2.2.2.2.2.2.1 t (by omega), ed]
      refine ⟨vt, vt, c_takerOf (A := duN A t) hD.1 hD.2.2.2.1 hD.2.2.2.2.1 hD.2.2.2.2.2.2.1 hhd hId (by omega) ?_⟩
      have d5 : duN A t 5 t = 0 := by unfold duN; rw [u2_f (by decide)]; exact e.1
      have d4 : duN A t 4 t ≠ 100 := by unfold duN; rw [u2_f (by decide)]; exact e.2
      have goal : ∀ wi' he', RelC sk ze ma ki dn wi' (upd du t (nI (if A 6 t + 1 < 999 then A 6 t + 1 else 999))) (nI (A 7 0)) (frN A t) → RH he' (frN A t) → wpl_X2_goYear_35 sk ki dn (nI (A 7 0)) K (r + 1) (nI (t + 1)) wi' (upd du t (nI (if A 6 t + 1 < 999 then A 6 t + 1 else 999))) he' := by
        intro wi' he' h1 h2
        have := ih (t + 1) (frN A t) wi' _ he' (by rw [frN_7]; exact h1) h2 (frN_inv hI (by omega)) (by rw [frN_7]; omega) (by rw [frN_7]; exact hK)
        rw [frN_7] at this
        exact this
      refine ek_if (wI_m1 _ (by omega)) (fun c => ?_) (fun c => ?_)
      · have e2 : frN A t = duN A t := by rw [hfr, c]; exact u2_id d5
        exact goal wi he (by rw [e2]; exact hD) (by rw [e2]; exact hhd)
      · obtain ⟨q, hq⟩ : ∃ q, winN (duN A t) t = q + 1 := ⟨winN (duN A t) t - 1, by omega⟩
        rw [hq, show wI (q + 1) = nI q from rfl, nI_clamp (by omega)]
        refine ⟨vt, vp_in_nI (by omega) (by decide), vp_in_nI (by omega) (by decide), ?_⟩
        refine goal _ _ ?_ ?_
        · rw [hfr, hq]; exact hD.u_wi t (q + 1)
        · intro p hp
          have hc2 : cnt (frN A t) p = cnt A p + (if p = q then 1 else 0) := by
            have a1 : cnt (frN A t) p = cntN (u2 (duN A t) 5 t (q + 1)) p 0 (A 7 0) := by
              unfold cnt; rw [frN_7, hfr, hq]
            rw [a1, cntN_wi _ _ _ _ d5 d4]
            have a2 : cntN (duN A t) p 0 (A 7 0) = cnt A p := by unfold duN cnt; exact cntN_du _ _ _ _ _ _
            rw [a2]
            by_cases e3 : p = q
            · rw [if_pos (by omega), if_pos e3]
            · rw [if_neg (by omega), if_neg e3]
          rw [hc2]
          by_cases e3 : p = q
          · subst e3; rw [pk_us, if_pos rfl, hh p hp, nI_1]
          · rw [pk_un e3, if_neg e3]; exact hh p hp
    · have e2 : frN A t = A := by unfold frN; rw [if_neg e]
      rw [e2] at hK
      exact ih (t + 1) A wi du he h hh hI (by omega) hK
theorem c_goYear (h : RelC sk ze ma ki dn wi du sz A) (hI : Inv A) (he : Nat → Int32) (yr : Int32) {Q : (Nat → Int32) → (Nat → Int32) → (Nat → Int32) → (Nat → Int32) → (Nat → Int32) → (Nat → Int32) → Int32 → Prop} (hQ : ∀ ze' ma' dn' wi' du' he', RelC sk ze' ma' ki dn' wi' du' sz (yearN A) → Q ze' ma' dn' wi' du' he' (yr + 1)) : wp_X2_goYear sk ze ma ki dn wi du he yr sz Q := by
  have h8 := hI.1
  have esz := h.2.2.2.2.2.2.2
  subst esz
  obtain ⟨hi, h7⟩ := wkL_inv (A 7 0) 0 A hI (by omega)
  refine ⟨A 7 0 + 1, c_goYear_w (A 7 0) 0 A ze ma dn wi du h hI (by omega) (fun ze1 ma1 dn1 wi1 du1 h1 => ?_)⟩
  have key : yearN A = frL (A 7 0) 0 (wkL (A 7 0) 0 A) := rfl
  rw [key] at hQ
  generalize wkL (A 7 0) 0 A = B at hi h7 h1 hQ
  rw [← h7] at h1 hQ ⊢
  refine c_countHeld h1.2.2.2.2.1 h1.2.2.2.2.2.1 hi he (fun he1 hh1 => ⟨B 7 0 + 1, ?_⟩)
  exact c_goYear_f (fun _ => trivial) _ 0 _ wi1 du1 he1 h1 hh1 hi (by omega) (fun wi2 du2 he2 h2 => hQ _ _ _ _ _ _ h2)
theorem c_goYears_l {N : Nat} (hN : N ≤ 1000) {K : Int32 → (Nat → Int32) → (Nat → Int32) → (Nat → Int32) → (Nat → Int32) → (Nat → Int32) → (Nat → Int32) → Int32 → Prop} : ∀ r i (A : AS) (ze ma dn wi du he : Nat → Int32) (yr : Int32), RelC sk ze ma ki dn wi du sz A → Inv A → i + r = N → (∀ ze' ma' dn' wi' du' he' yr', RelC sk ze' ma' ki dn' wi' du' sz (yearsN r A) → yr' = yr + nI r → K (nI N) ze' ma' dn' wi' du' he' yr') → wpl_X2_goYears_2 sk ki sz (nI N) K (r + 1) (nI i) ze ma dn wi du he yr := by
  intro r
  induction r with
  | zero =>
    intro i A ze ma dn wi du he yr h hI hi hK
    rw [wpl_X2_goYears_2]
    refine br_t ((cle (by omega) (by omega)).mpr (by omega)) ?_
    rw [show i = N by omega]
    exact hK _ _ _ _ _ _ _ h (by rw [nI_0]; exact (i0 yr).symm)
  | succ r ih =>
    intro i A ze ma dn wi du he yr h hI hi hK
    rw [wpl_X2_goYears_2]
    refine br_f (fun z => absurd ((cle (by omega) (by omega)).mp z) (by omega)) ?_
    refine c_goYear h hI he yr (fun ze1 ma1 dn1 wi1 du1 he1 h1 => ?_)
    rw [nI_1]
    refine ih (i + 1) _ _ _ _ _ _ _ _ h1 (yearN_inv hI).1 (by omega) (fun a b c d e f y2 h2 e2 => hK _ _ _ _ _ _ _ h2 ?_)
    rw [e2, nI_succ, Int32.add_assoc, Int32.add_comm 1 (nI r)]
theorem c_goYears (h : RelC sk ze ma ki dn wi du sz A) (hI : Inv A) (he : Nat → Int32) (yr : Int32) {N : Nat} (hN : N ≤ 1000) {Q : (Nat → Int32) → (Nat → Int32) → (Nat → Int32) → (Nat → Int32) → (Nat → Int32) → (Nat → Int32) → Int32 → Prop} (hQ : ∀ ze' ma' dn' wi' du' he', RelC sk ze' ma' ki dn' wi' du' sz (yearsN N A) → Q ze' ma' dn' wi' du' he' (yr + nI N)) : wp_X2_goYears sk ze ma ki dn wi du he yr sz (nI N) Q :=
  ⟨N + 1, c_goYears_l hN N 0 A ze ma dn wi du he yr h hI (by omega) (fun a b c d e f y h1 e1 => e1 ▸ hQ a b c d e f h1)⟩
end CY
