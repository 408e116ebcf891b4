section Wk
variable {sk ze ma ki dn wi du : Nat → Int32} {sz : Int32} {A : AS} {t : Nat}
theorem c_isFinished {Q : Int32 → Prop} (h : RN dn 8 (A 4)) (ht : t < 8) (hd : A 4 t ≤ 100) (h1 : A 4 t = 100 → Q 1) (h0 : ¬ A 4 t = 100 → Q 0) : wp_X2_isFinished dn (nI t) Q := by
  unfold wp_X2_isFinished
  rw [nI_clamp (by omega), h t ht]
  exact ⟨vp_in_nI ht (by decide), ek_if (clt (b := 100) (by omega) (by decide)) (fun c => h0 (by omega)) (fun c => h1 (by omega))⟩
theorem c_canBeLeft {Q : Int32 → Prop} (h : RN dn 8 (A 4)) (hw : RW wi 8 (A 5)) (ht : t < 8) (hI : Inv A) (h1 : A 5 t ≠ 0 ∧ A 4 t ≠ 100 → Q 1) (h0 : ¬ (A 5 t ≠ 0 ∧ A 4 t ≠ 100) → Q 0) : wp_X2_canBeLeft dn wi (nI t) Q := by
  have hb := hI.2.2 t ht
  unfold wp_X2_canBeLeft
  rw [nI_clamp (by omega), hw t ht]
  refine ⟨vp_in_nI ht (by decide), ek_if (wI_m1 _ (by omega)) (fun c => h0 (by omega)) (fun c => ?_)⟩
  exact c_isFinished h ht hb.2.1 (fun e => br_f (by decide) (h0 (by omega))) (fun e => br_t rfl (h1 (by omega)))
theorem c_isForTheFair {Q : Int32 → Prop} (h : RN dn 8 (A 4)) (hw : RW wi 8 (A 5)) (ht : t < 8) (hI : Inv A) (h1 : A 5 t = 0 ∧ A 4 t ≠ 100 → Q 1) (h0 : ¬ (A 5 t = 0 ∧ A 4 t ≠ 100) → Q 0) : wp_X2_isForTheFair dn wi (nI t) Q := by
  have hb := hI.2.2 t ht
  unfold wp_X2_isForTheFair
  rw [nI_clamp (by omega), hw t ht]
  refine ⟨vp_in_nI ht (by decide), ek_if (wI_m1 _ (by omega)) (fun c => ?_) (fun c => h0 (by omega))⟩
  exact c_isFinished h ht hb.2.1 (fun e => br_f (by decide) (h0 (by omega))) (fun e => br_t rfl (h1 (by omega)))
theorem c_natureOf {Q : Nat → Prop} (h : RN ki 8 (A 3)) (ht : t < 8) (hk : A 3 t ≤ 5) (hQ : Q (A 3 t)) : wp_X2_natureOf ki (nI t) Q := by
  unfold wp_X2_natureOf
  rw [nI_clamp (by omega), h t ht, nI_clamp (by omega)]
  exact ⟨vp_in_nI ht (by decide), vp_in_nI (by omega) (by decide), hQ⟩
theorem c_workOn {Q : (Nat → Int32) → (Nat → Int32) → (Nat → Int32) → (Nat → Int32) → (Nat → Int32) → Prop} (hC : RelC sk ze ma ki dn wi du sz A) (hI : Inv A) (ht : t < 8) (hw : A 5 t ≠ 0) (hQ : ∀ ze' ma' dn' wi' du', RelC sk ze' ma' ki dn' wi' du' sz (workN A t) → Q ze' ma' dn' wi' du') : wp_X2_workOn sk ze ma ki dn wi du (nI t) Q := by
  obtain ⟨hk, hd, h5, hu⟩ := hI.2.2 t ht
  obtain ⟨p, hp⟩ : ∃ p, A 5 t = p + 1 := ⟨A 5 t - 1, by omega⟩
  have hp6 : p < 6 := by omega
  obtain ⟨hs, hz, hm⟩ := hI.2.1 p hp6
  have ewi : wi t = nI p := by rw [hC.2.2.2.2.2.1 t ht, hp]; rfl
  have vt : vp_in (nI t) 8 := vp_in_nI ht (by decide)
  have vp : vp_in (nI p) 6 := vp_in_nI hp6 (by decide)
  have hgl := goN_le (A 3 t) (A 0 p) (A 4 t) (A 6 t) hs
  have htl := tiN_le (A 3 t)
  have hdn : dN A t = if A 4 t + goN (A 3 t) (A 0 p) (A 4 t) (A 6 t) < 100 then A 4 t + goN (A 3 t) (A 0 p) (A 4 t) (A 6 t) else 100 := by
    unfold dN; rw [hp]; rfl
  unfold wp_X2_workOn
  rw [nI_clamp (by omega), ewi, nI_clamp (by omega), hC.1 p hp6, hC.2.2.2.2.1 t ht, hC.2.2.2.2.2.2.1 t ht, hC.2.1 p hp6, hC.2.2.1 p hp6]
  refine ⟨vt, c_natureOf hC.2.2.2.1 ht hk ⟨vp, vt, vt, v_goesOn hk hs hd hu ⟨vt, vt, ?_⟩⟩⟩
  have ed : (if nI (A 4 t) + nI (goN (A 3 t) (A 0 p) (A 4 t) (A 6 t)) < 100 then nI (A 4 t) + nI (goN (A 3 t) (A 0 p) (A 4 t) (A 6 t)) else 100) = nI (dN A t) := by
    rw [nadd, hdn]; exact ifmin (by omega) (by decide)
  rw [ed]
  have hdl := dN_le A t
  have hC1 := hC.u_dn t (dN A t)
  refine c_isFinished (A := u2 A 4 t (dN A t)) hC1.2.2.2.2.1 ht (by rw [u2_s]; exact hdl) (fun e => ?_) (fun e => ?_)
  · rw [u2_s] at e
    refine br_f (by decide) ⟨vp, vp, vp, vp, hQ _ _ _ _ _ ?_⟩
    have e1 : (if nI (A 2 p) + 1 < 999 then nI (A 2 p) + 1 else 999) = nI (if A 2 p + 1 < 999 then A 2 p + 1 else 999) := by
      rw [show (1 : Int32) = nI 1 from rfl, nadd]; exact ifmin (by omega) (by decide)
    have e2 : (if nI (A 1 p) + 2 < 9 then nI (A 1 p) + 2 else 9) = nI (if A 1 p + 2 < 9 then A 1 p + 2 else 9) := by
      rw [show (2 : Int32) = nI 2 from rfl, nadd]; exact ifmin (by omega) (by decide)
    rw [e1, e2]
    have := (hC1.u_ma p (if A 2 p + 1 < 999 then A 2 p + 1 else 999)).u_ze p (if A 1 p + 2 < 9 then A 1 p + 2 else 9)
    unfold workN
    rw [if_pos e, hp]
    exact this
  · rw [u2_s] at e
    refine br_t rfl ⟨vp, v_tires hk ⟨vp, vp, ?_⟩⟩
    rw [pk_us]
    refine ek_if (zlt (by omega) (by omega)) (fun c => hQ _ _ _ _ _ ?_) (fun c => ?_)
    · rw [nsub (by omega)]
      have := hC1.u_ze p (A 1 p - tiN (A 3 t))
      unfold workN
      rw [if_neg e, hp, if_pos (by simpa using c)]
      exact this
    · unfold wp_X2_letGo
      rw [nI_clamp (by omega), ewi, nI_clamp (by omega)]
      refine ⟨vt, vp, vt, vt, hQ _ _ _ _ _ ?_⟩
      rw [upd_upd]
      have := ((hC1.u_wi t 0).u_du t 0).u_ze p 4
      unfold workN
      rw [if_neg e, hp, if_neg (by simpa using c)]
      exact this
theorem m_worksOn {m : Nat → Int32} {yr : Int32} {Q : (Nat → Int32) → Prop} (h : RelM m A yr) (hI : Inv A) (ht : t < 8) (hw : A 5 t ≠ 0) (hQ : ∀ m', RelM m' (workN A t) yr → Q m') : wp_X10_worksOn m (nI t) Q := by
  obtain ⟨hk, hd, h5, hu⟩ := hI.2.2 t ht
  obtain ⟨p, hp⟩ : ∃ p, A 5 t = p + 1 := ⟨A 5 t - 1, by omega⟩
  have hp6 : p < 6 := by omega
  obtain ⟨hs, hz, hm⟩ := hI.2.1 p hp6
  have hgl := goN_le (A 3 t) (A 0 p) (A 4 t) (A 6 t) hs
  have htl := tiN_le (A 3 t)
  have hdn : dN A t = if A 4 t + goN (A 3 t) (A 0 p) (A 4 t) (A 6 t) < 100 then A 4 t + goN (A 3 t) (A 0 p) (A 4 t) (A 6 t) else 100 := by
    unfold dN; rw [hp]; rfl
  have hdl := dN_le A t
  unfold wp_X10_worksOn
  refine m_it2 h ht ?_
  rw [hp, show wI (p + 1) = nI p from rfl]
  refine m_it1 h ht (m_his (k := 0) h hp6 (by decide) (m_goesOn h hI ht hs ?_))
  rw [nadd]
  have held : ∀ {a c : Nat} {Q : Int32 → Prop}, a < 2 ^ 31 → c < 2 ^ 31 → Q (nI (if a < c then a else c)) → wp_X10_held (nI a) 0 (nI c) Q := by
    intro a c Q ha hc hq
    refine br_t (nI_pos' ha) (ek_if (cle ha hc) (fun z => ?_) (fun z => ?_))
    · by_cases e : a < c
      · rw [if_pos e] at hq; exact hq
      · rw [if_neg e] at hq; rw [show a = c by omega]; exact hq
    · rw [if_neg (by omega)] at hq; exact hq
  refine held (c := 100) (by omega) (by decide) ?_
  rw [← hdn]
  refine m_put (k := 1) (v := dN A t) h ht (by decide) (by simp) (fun m1 h1 => ?_)
  have hI1 : Inv (u2 A 4 t (dN A t)) := hI.t (k := 1) _ (by decide) (by simp; exact hdl)
  refine m_isDone h1 hI1 ht (fun e => ?_) (fun e => ?_)
  · change u2 A 4 t (dN A t) 4 t = 100 at e
    rw [u2_s] at e
    refine br_f (by decide) (m_his (k := 2) h1 hp6 (by decide) ?_)
    rw [show (3 + 1) = 4 from rfl, u2_f (by decide), show (1 : Int32) = nI 1 from rfl, nadd]
    refine held (c := 999) (by omega) (by decide) (m_gets (k := 2) h1 hp6 (by decide) (fun m2 h2 => ?_))
    refine m_his (k := 1) h2 hp6 (by decide) ?_
    rw [show (3 + 1) = 4 from rfl, u2_f (by decide), u2_f (by decide), show (2 : Int32) = nI 2 from rfl, nadd]
    refine held (c := 9) (by omega) (by decide) (m_gets (k := 1) h2 hp6 (by decide) (fun m3 h3 => hQ _ ?_))
    unfold workN
    rw [if_pos e, hp]
    exact h3
  · change ¬ u2 A 4 t (dN A t) 4 t = 100 at e
    rw [u2_s] at e
    refine br_t rfl (m_his (k := 1) h1 hp6 (by decide) (m_tires h1 hI1 ht ?_))
    rw [show (3 + 1) = 4 from rfl, u2_f (by decide), u2_f (by decide)]
    unfold wp_X10_gets
    rw [show (1 : Int32) = nI 1 from rfl, ix_p]
    refine ⟨vp_in_nI (by omega) (by decide), ?_⟩
    rw [nI_clamp (by omega)]
    refine ek_if (zlt (by omega) (by omega)) (fun c => hQ _ ?_) (fun c => ?_)
    · rw [nsub (by omega)]
      have := RelM_p h1 (p := p) (k := 1) (A 1 p - tiN (A 3 t)) hp6 (by decide)
      unfold workN
      rw [if_neg e, hp, if_pos (by simpa using c)]
      exact this
    · have er : (upd m1 (2 + 3 * p + 1) (nI (A 1 p) - nI (tiN (A 3 t)))) ((20 : Int32) + 4 * nI t + 2).toNatClampNeg = nI p := by
        rw [show (20 : Int32) + 4 * nI t + 2 = nI (20 + 4 * t + 2) from ix_t t 2, nI_clamp (by omega), pk_un (by omega), h1 _ (by omega), rm_t _ _ ht (by decide)]
        simp only [if_true]
        rw [show (3 + 1) = 4 from rfl, u2_f (by decide), hp]
        rfl
      unfold wp_X10_leaves wp_X10_it wp_X10_put wp_X10_gets
      dsimp only
      rw [er, show (20 : Int32) + 4 * nI t + 2 = nI (20 + 4 * t + 2) from ix_t t 2, show (20 : Int32) + 4 * nI t + 3 = nI (20 + 4 * t + 3) from ix_t t 3, show (2 : Int32) + 3 * nI p + 1 = nI (2 + 3 * p + 1) from ix_p p 1]
      refine ⟨vp_in_nI (by omega) (by decide), vp_in_nI (by omega) (by decide), vp_in_nI (by omega) (by decide), vp_in_nI (by omega) (by decide), hQ _ ?_⟩
      rw [nI_clamp (by omega), nI_clamp (by omega), nI_clamp (by omega), upd_4 _ _ _ _ _ (by omega) (by omega)]
      have := RelM_p (RelM_t (RelM_t h1 (t := t) (k := 2) 0 (x := -1) ht (by decide) (by simp [wI])) (t := t) (k := 3) 0 (x := 0) ht (by decide) (by simp; rfl)) (p := p) (k := 1) 4 hp6 (by decide)
      unfold workN
      rw [if_neg e, hp, if_neg (by simpa using c)]
      exact this
end Wk
