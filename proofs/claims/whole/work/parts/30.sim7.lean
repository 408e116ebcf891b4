section S7
variable {fd fo sk ze ma ki dn wi du m wa : Nat → Int32} {yr sz : Int32} {A : AS}
/-- the first that will do -/
def fstN (P : Nat → Bool) : Nat → Nat → Nat
  | 0, i => i
  | r + 1, i => if P i then i else fstN P r (i + 1)
theorem fstN_le (P : Nat → Bool) : ∀ r i, i ≤ fstN P r i ∧ fstN P r i ≤ i + r := by
  intro r
  induction r with
  | zero => intro i; exact ⟨Nat.le_refl _, Nat.le_refl _⟩
  | succ r ih => intro i; have := ih (i + 1); simp only [fstN]; split <;> omega
theorem c_zeal_l {p N v : Nat} (hp : p < 6) (hN : N ≤ 60) (hv : v ≤ 999) (hC : RelC sk ze ma ki dn wi du sz A) (hI : Inv A) (yr : Int32) {Q : Int32 → (Nat → Int32) → (Nat → Int32) → (Nat → Int32) → (Nat → Int32) → (Nat → Int32) → (Nat → Int32) → (Nat → Int32) → (Nat → Int32) → (Nat → Int32) → Int32 → Int32 → Prop} {K : Int32 → (Nat → Int32) → (Nat → Int32) → (Nat → Int32) → (Nat → Int32) → (Nat → Int32) → (Nat → Int32) → (Nat → Int32) → (Nat → Int32) → Int32 → Int32 → Prop} : ∀ r i (t0 t1 t2 t3 t4 t5 t6 t7 : Nat → Int32) (t8 t9 : Int32), i + r = 10 → (fstN (fun z => decide (¬ yearsN N (u2 A 1 p z) 2 p < v)) r i < 10 → ∀ t0 t1 t2 t3 t4 t5 t6 t7 t8 t9, Q (nI (fstN (fun z => decide (¬ yearsN N (u2 A 1 p z) 2 p < v)) r i)) fd t0 t1 t2 t3 t4 t5 t6 t7 t8 t9) → (¬ fstN (fun z => decide (¬ yearsN N (u2 A 1 p z) 2 p < v)) r i < 10 → ∀ x t0 t1 t2 t3 t4 t5 t6 t7 t8 t9, K x t0 t1 t2 t3 t4 t5 t6 t7 t8 t9) → wpl_X9_zeal_38 fd sk ze ma ki dn wi du yr sz (nI p) (nI N) (nI v) Q K (r + 1) (nI i) t0 t1 t2 t3 t4 t5 t6 t7 t8 t9 := by
  intro r
  induction r with
  | zero =>
    intro i t0 t1 t2 t3 t4 t5 t6 t7 t8 t9 hi _ hK
    rw [wpl_X9_zeal_38, show i = 10 by omega]
    exact br_t (by decide) (hK (by simp only [fstN]; omega) _ _ _ _ _ _ _ _ _ _ _)
  | succ r ih =>
    intro i t0 t1 t2 t3 t4 t5 t6 t7 t8 t9 hi hQ hK
    have hB : Inv (u2 A 1 p i) := hI.p (k := 1) _ (by decide) (by simp; omega)
    have hm := ((yearsN_inv N _ hB).1.2.1 p hp).2.2
    have vp : vp_in (nI p) 6 := vp_in_nI hp (by decide)
    rw [wpl_X9_zeal_38, nI_1]
    refine br_f (fun z => absurd ((clt (a := 9) (by decide) (by omega)).mp z) (by omega)) (c_become hC (fun c0 c1 c2 c3 c4 c5 c6 hC1 => ⟨vp, ?_⟩))
    rw [nI_clamp (by omega)]
    refine c_goYears (hC1.u_ze p i) hB t7 yr (by omega) (fun ze' ma' dn' wi' du' he' hC2 => ⟨vp, ?_⟩)
    rw [hC2.2.2.1 p hp]
    simp only [fstN] at hQ hK
    refine ek_if (clt (by omega) (by omega)) (fun c => ?_) (fun c => ?_)
    · rw [if_neg (by simpa using c)] at hQ hK
      exact ih (i + 1) _ _ _ _ _ _ _ _ _ _ (by omega) hQ hK
    · rw [if_pos (by simpa using c)] at hQ
      exact hQ (by omega) _ _ _ _ _ _ _ _ _ _
theorem m_zeal_l {p N v : Nat} (hp : p < 6) (hN : N ≤ 60) (hv : v ≤ 999) (hw : RelM wa A yr) (hI : Inv A) {K : Int32 → Int32 → (Nat → Int32) → Prop} : ∀ r i (m : Nat → Int32), RelM m A yr → i + r = 10 → (∀ x m', RelM m' A yr → K (fnd (fstN (fun z => decide (¬ yearsN N (u2 A 1 p z) 2 p < v)) r i) 10) x m') → wpl_X10_zeal_47 wa (nI p) (nI N) (nI v) K (r + 1) (-1) (nI i) m := by
  intro r
  induction r with
  | zero =>
    intro i m hM hi hK
    rw [wpl_X10_zeal_47, show i = 10 by omega]
    rw [show i = 10 by omega] at hK
    exact br_t (by decide) (hK _ _ hM)
  | succ r ih =>
    intro i m hM hi hK
    have hB : Inv (u2 A 1 p i) := hI.p (k := 1) _ (by decide) (by simp; omega)
    have hm := ((yearsN_inv N _ hB).1.2.1 p hp).2.2
    rw [wpl_X10_zeal_47, nI_1]
    refine br_f (fun z => absurd ((clt (a := 9) (by decide) (by omega)).mp z) (by omega)) (br_f (by decide) (m_gets (k := 1) hM hp (by decide) (fun m1 h1 => m_goesFor h1 hB (by omega) (fun m2 h2 => m_his (k := 2) h2 hp (by decide) ?_))))
    simp only [fstN] at hK
    refine ek_if (clt (by omega) (by omega)) (fun c => m_putsBack hw (fun m3 h3 => ?_)) (fun c => m_putsBack hw (fun m3 h3 => ?_))
    · rw [if_neg (by simpa using c)] at hK
      exact ih (i + 1) m3 h3 (by omega) hK
    · rw [if_pos (by simpa using c)] at hK
      unfold fnd at hK
      rw [if_pos (by omega)] at hK
      cases r with
      | zero =>
        rw [wpl_X10_zeal_47, show i = 9 by omega]
        rw [show i = 9 by omega] at hK
        exact br_t (by decide) (hK _ _ h3)
      | succ r =>
        rw [wpl_X10_zeal_47]
        exact br_f (fun z => absurd ((clt (a := 9) (by decide) (by omega)).mp z) (by omega)) (br_t (nI_pos' (by omega)) (hK _ _ h3))
theorem c_skill_l {p N : Nat} (hp : p < 6) (hN : N ≤ 60) (hC : RelC sk ze ma ki dn wi du (nI (A 7 0)) A) (hI : Inv A) (yr : Int32) {Q : Int32 → (Nat → Int32) → (Nat → Int32) → (Nat → Int32) → (Nat → Int32) → (Nat → Int32) → (Nat → Int32) → (Nat → Int32) → (Nat → Int32) → (Nat → Int32) → Int32 → Int32 → Prop} {K : Int32 → (Nat → Int32) → (Nat → Int32) → (Nat → Int32) → (Nat → Int32) → (Nat → Int32) → (Nat → Int32) → (Nat → Int32) → (Nat → Int32) → Int32 → Int32 → Prop} : ∀ r i (t0 t1 t2 t3 t4 t5 t6 t7 : Nat → Int32) (t8 t9 : Int32), i + r = 21 → (fstN (fun z => alP (yearsN N (u2 A 0 p z))) r i < 21 → ∀ t0 t1 t2 t3 t4 t5 t6 t7 t8 t9, Q (nI (fstN (fun z => alP (yearsN N (u2 A 0 p z))) r i)) fd t0 t1 t2 t3 t4 t5 t6 t7 t8 t9) → (¬ fstN (fun z => alP (yearsN N (u2 A 0 p z))) r i < 21 → ∀ x t0 t1 t2 t3 t4 t5 t6 t7 t8 t9, K x t0 t1 t2 t3 t4 t5 t6 t7 t8 t9) → wpl_X9_skill_26 fd sk ze ma ki dn wi du yr (nI (A 7 0)) (nI p) (nI N) Q K (r + 1) (nI i) t0 t1 t2 t3 t4 t5 t6 t7 t8 t9 := by
  intro r
  induction r with
  | zero =>
    intro i t0 t1 t2 t3 t4 t5 t6 t7 t8 t9 hi _ hK
    rw [wpl_X9_skill_26, show i = 21 by omega]
    exact br_t (by decide) (hK (by simp only [fstN]; omega) _ _ _ _ _ _ _ _ _ _ _)
  | succ r ih =>
    intro i t0 t1 t2 t3 t4 t5 t6 t7 t8 t9 hi hQ hK
    have hB : Inv (u2 A 0 p i) := hI.p (k := 0) _ (by decide) (by simp; omega)
    have hy := yearsN_inv N _ hB
    have vp : vp_in (nI p) 6 := vp_in_nI hp (by decide)
    rw [wpl_X9_skill_26, nI_1]
    refine br_f (fun z => absurd ((clt (a := 20) (by decide) (by omega)).mp z) (by omega)) (c_become hC (fun c0 c1 c2 c3 c4 c5 c6 hC1 => ⟨vp, ?_⟩))
    rw [nI_clamp (by omega)]
    refine c_goYears (hC1.u_sk p i) hB t7 yr (by omega) (fun ze' ma' dn' wi' du' he' hC2 => ?_)
    have e7 : A 7 0 = yearsN N (u2 A 0 p i) 7 0 := by rw [hy.2, u2_f (by decide)]
    simp only [fstN] at hQ hK
    rw [e7]
    refine c_isAll hC2.2.2.2.2.1 hy.1 (fun c => br_f (by decide) ?_) (fun c => br_t rfl ?_)
    · rw [if_pos c] at hQ
      exact hQ (by omega) _ _ _ _ _ _ _ _ _ _
    · rw [if_neg c] at hQ hK
      rw [← e7]
      exact ih (i + 1) _ _ _ _ _ _ _ _ _ _ (by omega) hQ hK
theorem m_skill_l {p N : Nat} (hp : p < 6) (hN : N ≤ 60) (hw : RelM wa A yr) (hI : Inv A) {K : Int32 → Int32 → (Nat → Int32) → Prop} : ∀ r i (m : Nat → Int32), RelM m A yr → i + r = 21 → (∀ x m', RelM m' A yr → K (fnd (fstN (fun z => alP (yearsN N (u2 A 0 p z))) r i) 21) x m') → wpl_X10_skill_34 wa (nI p) (nI N) K (r + 1) (-1) (nI i) m := by
  intro r
  induction r with
  | zero =>
    intro i m hM hi hK
    rw [wpl_X10_skill_34, show i = 21 by omega]
    rw [show i = 21 by omega] at hK
    exact br_t (by decide) (hK _ _ hM)
  | succ r ih =>
    intro i m hM hi hK
    have hB : Inv (u2 A 0 p i) := hI.p (k := 0) _ (by decide) (by simp; omega)
    have hy := yearsN_inv N _ hB
    rw [wpl_X10_skill_34, nI_1]
    simp only [fstN] at hK
    refine br_f (fun z => absurd ((clt (a := 20) (by decide) (by omega)).mp z) (by omega)) (br_f (by decide) (m_gets (k := 0) hM hp (by decide) (fun m1 h1 => m_goesFor h1 hB (by omega) (fun m2 h2 => m_areDone h2 hy.1 (fun c => br_f (by decide) (m_putsBack hw (fun m3 h3 => ?_))) (fun c => br_t rfl (m_putsBack hw (fun m3 h3 => ?_)))))))
    · rw [if_pos c] at hK
      unfold fnd at hK
      rw [if_pos (by omega)] at hK
      cases r with
      | zero =>
        rw [wpl_X10_skill_34, show i = 20 by omega]
        rw [show i = 20 by omega] at hK
        exact br_t (by decide) (hK _ _ h3)
      | succ r =>
        rw [wpl_X10_skill_34]
        exact br_f (fun z => absurd ((clt (a := 20) (by decide) (by omega)).mp z) (by omega)) (br_t (nI_pos' (by omega)) (hK _ _ h3))
    · rw [if_neg c] at hK
      exact ih (i + 1) m3 h3 (by omega) hK
def mkL (f : Nat → Nat) : Nat → Nat → Nat → Nat
  | 0, b, _ => b
  | r + 1, b, i => if f i ≤ f b then mkL f r b (i + 1) else mkL f r i (i + 1)
theorem c_maker_l {tma : Nat → Int32} (h : RN tma 6 (A 2)) (hI : Inv A) {K : Int32 → Int32 → Prop} : ∀ r b i, i + r = 6 → b < 6 → (∀ x, K (nI (mkL (A 2) r b i)) x) → wpl_X9_maker_40 tma K (r + 1) (nI b) (nI i) := by
  intro r
  induction r with
  | zero =>
    intro b i hi hb hK
    rw [wpl_X9_maker_40, show i = 6 by omega]
    exact br_t (by decide) (hK _)
  | succ r ih =>
    intro b i hi hb hK
    have m1 := (hI.2.1 i (by omega)).2.2
    have m2 := (hI.2.1 b (by omega)).2.2
    rw [wpl_X9_maker_40, nI_1, nI_clamp (by omega), nI_clamp (by omega), h i (by omega), h b hb]
    refine br_f (fun z => absurd ((cle (a := 6) (by decide) (by omega)).mp z) (by omega)) ⟨vp_in_nI (by omega) (by decide), vp_in_nI hb (by decide), ?_⟩
    simp only [mkL] at hK
    refine ek_if (cle (by omega) (by omega)) (fun c => ?_) (fun c => ?_)
    · rw [if_pos c] at hK; exact ih b (i + 1) (by omega) hb hK
    · rw [if_neg c] at hK; exact ih i (i + 1) (by omega) (by omega) hK
theorem m_maker_l (h : RelM m A yr) (hI : Inv A) {K : Int32 → Int32 → Prop} : ∀ r b i, i + r = 6 → b < 6 → (∀ x, K (nI (mkL (A 2) r b i)) x) → wpl_X10_maker_31 m K (r + 1) (nI b) (nI i) := by
  intro r
  induction r with
  | zero =>
    intro b i hi hb hK
    rw [wpl_X10_maker_31, show i = 6 by omega]
    exact br_t (by decide) (hK _)
  | succ r ih =>
    intro b i hi hb hK
    have m1 := (hI.2.1 i (by omega)).2.2
    have m2 := (hI.2.1 b (by omega)).2.2
    rw [wpl_X10_maker_31, nI_1]
    refine br_f (fun z => absurd ((cle (a := 6) (by decide) (by omega)).mp z) (by omega)) (m_his (k := 2) h (by omega) (by decide) (m_his (k := 2) h hb (by decide) ?_))
    simp only [mkL] at hK
    refine ek_if (cle (by omega) (by omega)) (fun c => ?_) (fun c => ?_)
    · rw [if_pos c] at hK; exact ih b (i + 1) (by omega) hb hK
    · rw [if_neg c] at hK; exact ih i (i + 1) (by omega) (by omega) hK
def drL (A : AS) (N : Nat) : Nat → Nat → Int32 → Int32 → Int32
  | 0, _, b, _ => b
  | r + 1, t, b, s => if A 5 t ≠ 0 ∧ A 4 t ≠ 100 then (if dneS (yearsN N (lvN A t)) ≤ s then drL A N r (t + 1) b s else drL A N r (t + 1) (nI t) (dneS (yearsN N (lvN A t)))) else drL A N r (t + 1) b s
theorem c_drop_l {N : Nat} (hN : N ≤ 60) (hC : RelC sk ze ma ki dn wi du (nI (A 7 0)) A) (hI : Inv A) (yr : Int32) {K : Int32 → Int32 → Int32 → (Nat → Int32) → (Nat → Int32) → (Nat → Int32) → (Nat → Int32) → (Nat → Int32) → (Nat → Int32) → (Nat → Int32) → (Nat → Int32) → Int32 → Int32 → Prop} : ∀ r t (b s : Int32) (t0 t1 t2 t3 t4 t5 t6 t7 : Nat → Int32) (t8 t9 : Int32), t + r = A 7 0 → (∀ x y t0 t1 t2 t3 t4 t5 t6 t7 t8 t9, K (drL A N r t b s) x y t0 t1 t2 t3 t4 t5 t6 t7 t8 t9) → wpl_X9_drop_24 sk ze ma ki dn wi du yr (nI (A 7 0)) (nI N) K (r + 1) b s (nI t) t0 t1 t2 t3 t4 t5 t6 t7 t8 t9 := by
  have h8 := hI.1
  intro r
  induction r with
  | zero =>
    intro t b s t0 t1 t2 t3 t4 t5 t6 t7 t8 t9 ht hK
    rw [wpl_X9_drop_24]
    exact br_t ((cle (by omega) (by omega)).mpr (by omega)) (hK _ _ _ _ _ _ _ _ _ _ _ _)
  | succ r ih =>
    intro t b s t0 t1 t2 t3 t4 t5 t6 t7 t8 t9 ht hK
    rw [wpl_X9_drop_24, nI_1]
    refine br_f (fun z => absurd ((cle (by omega) (by omega)).mp z) (by omega)) ?_
    simp only [drL] at hK
    refine c_canBeLeft hC.2.2.2.2.1 hC.2.2.2.2.2.1 (by omega) hI (fun e => br_f (by decide) ?_) (fun e => br_t rfl ?_)
    · rw [if_pos e] at hK
      refine c_become hC (fun c0 c1 c2 c3 c4 c5 c6 hC1 => c_letGo hC1 hI (by omega) e.1 (fun d1 d5 d6 hC2 => ?_))
      have hy := yearsN_inv N _ (lvN_inv hI t)
      have e7 : A 7 0 = yearsN N (lvN A t) 7 0 := by rw [hy.2]; unfold lvN; rw [u2_f (by decide), u2_f (by decide), u2_f (by decide)]
      refine c_goYears hC2 (lvN_inv hI t) t7 yr (by omega) (fun ze' ma' dn' wi' du' he' hC3 => ?_)
      rw [e7]
      refine c_doneAll hC3.2.2.2.2.1 hy.1 ⟨fun c => ?_, fun c => ?_⟩
      · rw [if_pos c] at hK
        rw [← e7]
        exact ih (t + 1) b s _ _ _ _ _ _ _ _ _ _ (by omega) hK
      · rw [if_neg c] at hK
        rw [← e7]
        exact ih (t + 1) _ _ _ _ _ _ _ _ _ _ _ _ (by omega) hK
    · rw [if_neg e] at hK
      exact ih (t + 1) b s _ _ _ _ _ _ _ _ _ _ (by omega) hK
theorem m_drop_l {N : Nat} (hN : N ≤ 60) (hw : RelM wa A yr) (hI : Inv A) {K : Int32 → Int32 → Int32 → (Nat → Int32) → Prop} : ∀ r t (b s : Int32) (m : Nat → Int32), RelM m A yr → t + r = A 7 0 → (∀ x y m', RelM m' A yr → K (drL A N r t b s) x y m') → wpl_X10_drop_29 wa (nI N) K (r + 1) b s (nI t) m := by
  have h8 := hI.1
  intro r
  induction r with
  | zero =>
    intro t b s m hM ht hK
    rw [wpl_X10_drop_29, RelM_sz hM]
    exact ⟨vp_lit 1 (by decide) (by decide), br_t ((cle (by omega) (by omega)).mpr (by omega)) (hK _ _ _ hM)⟩
  | succ r ih =>
    intro t b s m hM ht hK
    rw [wpl_X10_drop_29, RelM_sz hM, nI_1]
    refine ⟨vp_lit 1 (by decide) (by decide), br_f (fun z => absurd ((cle (by omega) (by omega)).mp z) (by omega)) ?_⟩
    simp only [drL] at hK
    refine m_canLeave hM hI (by omega) (fun e => br_f (by decide) ?_) (fun e => br_t rfl ?_)
    · rw [if_pos e] at hK
      refine m_leaves hM hI (by omega) e.1 (fun m1 h1 => m_goesFor h1 (lvN_inv hI t) (by omega) (fun m2 h2 => m_doneAll h2 (yearsN_inv N _ (lvN_inv hI t)).1 (m_putsBack hw (fun m3 h3 => ⟨fun c => br_t c ?_, fun c => br_f c ?_⟩))))
      · rw [if_pos c] at hK
        exact ih (t + 1) b s m3 h3 (by omega) hK
      · rw [if_neg c] at hK
        exact ih (t + 1) _ _ m3 h3 (by omega) hK
    · rw [if_neg e] at hK
      exact ih (t + 1) b s m hM (by omega) hK
section T
variable {K : KT}
theorem sim_zeal (h1 : R1 sk ze ma ki dn wi du yr sz m) (h2 : R2 fd fo) (tsk tze tma tki tdn twi tdu the : Nat → Int32) (tyr tsz : Int32) (wa : Nat → Int32) (hK : HK sk ze ma ki dn wi du yr sz K) (a1 a2 a3 : Int32) : wp_X9_zeal fd tsk tze tma tki tdn twi tdu the tyr tsz sk ze ma ki dn wi du yr sz a1 a2 a3 (fun r c0 c1 c2 c3 c4 c5 c6 c7 c8 c9 c10 => wp_X10_zeal m wa fo a1 a2 a3 (fun r' d0 d1 d2 => K r r' c0 c1 c2 c3 c4 c5 c6 c7 c8 c9 c10 d0 d1 d2)) := by
  obtain ⟨A, hC, hM, hI⟩ := id h1
  have hsz := hC.2.2.2.2.2.2.2
  subst hsz
  have h8 := hI.1
  rcases rg a1 5 (by decide) with ⟨p, hp, rfl⟩ | hn
  · refine cp_t hp (br_f (by decide) ?_)
    have hp6 : p < 6 := by omega
    rcases rg_l a2 1 60 (by decide) (by decide) with ⟨N, hl, hN, rfl⟩ | hn
    · refine wl_t (lo := 1) (hi := 60) hl hN (by decide) (br_f (by decide) ?_)
      rcases rg a3 999 (by decide) with ⟨v, hv, rfl⟩ | hn
      · refine wn_t (n := 999) hv (by decide) (br_f (by decide) ?_)
        have mm : ∀ {Q : Int32 → (Nat → Int32) → (Nat → Int32) → (Nat → Int32) → Prop}, (∀ m' wa', RelM m' A yr → wp_X10_orNone fo (fnd (fstN (fun z => decide (¬ yearsN N (u2 A 1 p z) 2 p < v)) 10 0) 10) (fun r4 c4 => Q r4 m' wa' c4)) → wp_X10_zeal m wa fo (nI p) (nI N) (nI v) Q := fun hq => mp_t hp (br_f (by decide) (inl_t (lo := 1) (hi := 60) hl hN (by decide) (br_f (by decide) (inn_t (n := 999) hv (by decide) (br_f (by decide) (m_thinks hM (fun wa' hW => ⟨11, m_zeal_l hp6 hN hv hW hI 10 0 m hM (by omega) (fun x m' hM' => hq m' wa' hM')⟩)))))))
        refine ⟨11, c_zeal_l hp6 hN hv hC hI yr 10 0 _ _ _ _ _ _ _ _ _ _ (by omega) (fun c t0 t1 t2 t3 t4 t5 t6 t7 t8 t9 => mm (fun m' wa' hM' => br_t ((fnd_pos (by decide)).mpr c) ?_)) (fun c x t0 t1 t2 t3 t4 t5 t6 t7 t8 t9 => c_fnd 3 (by decide) bf3 (mm (fun m' wa' hM' => br_f (fun z => c ((fnd_pos (by decide)).mp z)) (m_fnd 3 (by decide) bf3 ?_))))⟩
        · unfold fnd
          rw [if_pos c]
          exact hK.a ⟨A, hC, hM', hI⟩ h2
        · exact hK.a ⟨A, hC, hM', hI⟩ (R2_up h2 (by decide))
      · exact w_f hn (br_t rfl (c_fnd 0 (by decide) bf0 (mp_t hp (br_f (by decide) (inl_t (lo := 1) (hi := 60) hl hN (by decide) (br_f (by decide) (in_f hn (br_t rfl (m_fnd 0 (by decide) bf0 (hK.a h1 (R2_up h2 (by decide))))))))))))
    · exact w_f hn (br_t rfl (c_fnd 0 (by decide) bf0 (mp_t hp (br_f (by decide) (in_f hn (br_t rfl (m_fnd 0 (by decide) bf0 (hK.a h1 (R2_up h2 (by decide))))))))))
  · exact cp_f hn (br_t rfl (c_fnd 0 (by decide) bf0 (mp_f hn (br_t rfl (m_fnd 0 (by decide) bf0 (hK.a h1 (R2_up h2 (by decide))))))))
theorem sim_skill (h1 : R1 sk ze ma ki dn wi du yr sz m) (h2 : R2 fd fo) (tsk tze tma tki tdn twi tdu the : Nat → Int32) (tyr tsz : Int32) (wa : Nat → Int32) (hK : HK sk ze ma ki dn wi du yr sz K) (a1 a2 : Int32) : wp_X9_skill fd tsk tze tma tki tdn twi tdu the tyr tsz sk ze ma ki dn wi du yr sz a1 a2 (fun r c0 c1 c2 c3 c4 c5 c6 c7 c8 c9 c10 => wp_X10_skill m wa fo a1 a2 (fun r' d0 d1 d2 => K r r' c0 c1 c2 c3 c4 c5 c6 c7 c8 c9 c10 d0 d1 d2)) := by
  obtain ⟨A, hC, hM, hI⟩ := id h1
  have hsz := hC.2.2.2.2.2.2.2
  subst hsz
  have h8 := hI.1
  rcases rg a1 5 (by decide) with ⟨p, hp, rfl⟩ | hn
  · refine cp_t hp (br_f (by decide) ?_)
    have hp6 : p < 6 := by omega
    rcases rg_l a2 1 60 (by decide) (by decide) with ⟨N, hl, hN, rfl⟩ | hn
    · refine wl_t (lo := 1) (hi := 60) hl hN (by decide) (br_f (by decide) ?_)
      have mm : ∀ {Q : Int32 → (Nat → Int32) → (Nat → Int32) → (Nat → Int32) → Prop}, (∀ m' wa', RelM m' A yr → wp_X10_orNone fo (fnd (fstN (fun z => alP (yearsN N (u2 A 0 p z))) 21 0) 21) (fun r4 c4 => Q r4 m' wa' c4)) → wp_X10_skill m wa fo (nI p) (nI N) Q := fun hq => mp_t hp (br_f (by decide) (inl_t (lo := 1) (hi := 60) hl hN (by decide) (br_f (by decide) (m_thinks hM (fun wa' hW => ⟨22, m_skill_l hp6 hN hW hI 21 0 m hM (by omega) (fun x m' hM' => hq m' wa' hM')⟩)))))
      refine ⟨22, c_skill_l hp6 hN hC hI yr 21 0 _ _ _ _ _ _ _ _ _ _ (by omega) (fun c t0 t1 t2 t3 t4 t5 t6 t7 t8 t9 => mm (fun m' wa' hM' => br_t ((fnd_pos (by decide)).mpr c) ?_)) (fun c x t0 t1 t2 t3 t4 t5 t6 t7 t8 t9 => c_fnd 3 (by decide) bf3 (mm (fun m' wa' hM' => br_f (fun z => c ((fnd_pos (by decide)).mp z)) (m_fnd 3 (by decide) bf3 ?_))))⟩
      · unfold fnd
        rw [if_pos c]
        exact hK.a ⟨A, hC, hM', hI⟩ h2
      · exact hK.a ⟨A, hC, hM', hI⟩ (R2_up h2 (by decide))
    · exact w_f hn (br_t rfl (c_fnd 0 (by decide) bf0 (mp_t hp (br_f (by decide) (in_f hn (br_t rfl (m_fnd 0 (by decide) bf0 (hK.a h1 (R2_up h2 (by decide))))))))))
  · exact cp_f hn (br_t rfl (c_fnd 0 (by decide) bf0 (mp_f hn (br_t rfl (m_fnd 0 (by decide) bf0 (hK.a h1 (R2_up h2 (by decide))))))))
theorem sim_maker (h1 : R1 sk ze ma ki dn wi du yr sz m) (h2 : R2 fd fo) (tsk tze tma tki tdn twi tdu the : Nat → Int32) (tyr tsz : Int32) (wa : Nat → Int32) (hK : HK sk ze ma ki dn wi du yr sz K) (a1 : Int32) : wp_X9_maker fd tsk tze tma tki tdn twi tdu the tyr tsz sk ze ma ki dn wi du yr sz a1 (fun r c0 c1 c2 c3 c4 c5 c6 c7 c8 c9 c10 => wp_X10_maker m wa fo a1 (fun r' d0 d1 d2 => K r r' c0 c1 c2 c3 c4 c5 c6 c7 c8 c9 c10 d0 d1 d2)) := by
  obtain ⟨A, hC, hM, hI⟩ := id h1
  have hsz := hC.2.2.2.2.2.2.2
  subst hsz
  have h8 := hI.1
  rcases rg a1 100 (by decide) with ⟨N, hN, rfl⟩ | hn
  · have hy := yearsN_inv N _ hI
    refine wn_t (n := 100) hN (by decide) (br_f (by decide) (c_become hC (fun c0 c1 c2 c3 c4 c5 c6 hC1 => c_goYears hC1 hI the yr (by omega) (fun ze' ma' dn' wi' du' he' hC2 => ⟨6, c_maker_l hC2.2.2.1 hy.1 5 0 1 (by omega) (by omega) (fun x => ?_)⟩))))
    exact inn_t (n := 100) hN (by decide) (br_f (by decide) (m_thinks hM (fun wa' hW => m_goesFor hM hI (by omega) (fun m' hM' => ⟨6, m_maker_l hM' hy.1 5 0 1 (by omega) (by omega) (fun y => m_putsBack hW (fun m2 hM2 => hK.a ⟨A, hC, hM2, hI⟩ h2))⟩))))
  · exact w_f hn (br_t rfl (c_fnd 0 (by decide) bf0 (in_f hn (br_t rfl (m_fnd 0 (by decide) bf0 (hK.a h1 (R2_up h2 (by decide))))))))
theorem sim_drop (h1 : R1 sk ze ma ki dn wi du yr sz m) (h2 : R2 fd fo) (tsk tze tma tki tdn twi tdu the : Nat → Int32) (tyr tsz : Int32) (wa : Nat → Int32) (hK : HK sk ze ma ki dn wi du yr sz K) (a1 : Int32) : wp_X9_drop fd tsk tze tma tki tdn twi tdu the tyr tsz sk ze ma ki dn wi du yr sz a1 (fun r c0 c1 c2 c3 c4 c5 c6 c7 c8 c9 c10 => wp_X10_drop m wa fo a1 (fun r' d0 d1 d2 => K r r' c0 c1 c2 c3 c4 c5 c6 c7 c8 c9 c10 d0 d1 d2)) := by
  obtain ⟨A, hC, hM, hI⟩ := id h1
  have hsz := hC.2.2.2.2.2.2.2
  subst hsz
  have h8 := hI.1
  rcases rg_l a1 1 30 (by decide) (by decide) with ⟨N, hl, hN, rfl⟩ | hn
  · refine wl_t (lo := 1) (hi := 30) hl hN (by decide) (br_f (by decide) ?_)
    have mm : ∀ {Q : Int32 → (Nat → Int32) → (Nat → Int32) → (Nat → Int32) → Prop}, (∀ m' wa', RelM m' A yr → wp_X10_orNone fo (drL A N (A 7 0) 0 (-1) (-1)) (fun r4 c4 => Q r4 m' wa' c4)) → wp_X10_drop m wa fo (nI N) Q := fun hq => inl_t (lo := 1) (hi := 30) hl hN (by decide) (br_f (by decide) (m_thinks hM (fun wa' hW => ⟨A 7 0 + 1, m_drop_l (by omega) hW hI (A 7 0) 0 (-1) (-1) m hM (by omega) (fun x y m' hM' => hq m' wa' hM')⟩)))
    refine ⟨A 7 0 + 1, c_drop_l (by omega) hC hI yr (A 7 0) 0 (-1) (-1) _ _ _ _ _ _ _ _ _ _ (by omega) (fun x y t0 t1 t2 t3 t4 t5 t6 t7 t8 t9 => ?_)⟩
    exact ⟨fun c => mm (fun m' wa' hM' => br_t c (hK.a ⟨A, hC, hM', hI⟩ h2)), fun c => c_fnd 3 (by decide) bf3 (mm (fun m' wa' hM' => br_f c (m_fnd 3 (by decide) bf3 (hK.a ⟨A, hC, hM', hI⟩ (R2_up h2 (by decide))))))⟩
  · exact w_f hn (br_t rfl (c_fnd 0 (by decide) bf0 (in_f hn (br_t rfl (m_fnd 0 (by decide) bf0 (hK.a h1 (R2_up h2 (by decide))))))))
end T
end S7
