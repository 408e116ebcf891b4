section S2
variable {fd fo sk ze ma ki dn wi du he m : Nat → Int32} {yr sz : Int32}
theorem sim_of (h1 : R1 sk ze ma ki dn wi du yr sz m) (h2 : R2 fd fo) (a1 a2 : Int32) {K : Int32 → Int32 → (Nat → Int32) → (Nat → Int32) → Prop} (hK : ∀ r fd' fo', R2 fd' fo' → K r r fd' fo') : wp_X9_of fd ki dn wi du sz a1 a2 (fun r c0 => wp_X10_of m fo a1 a2 (fun r' c0' => K r r' c0 c0')) := by
  obtain ⟨A, hC, hM, hI⟩ := id h1
  have hsz := hC.2.2.2.2.2.2.2
  subst hsz
  have h8 := hI.1
  have hby : K (-1000000001) (-1000000001) (upd fd 0 (fd 0 + 1)) (upd fo 0 (fo 0 + 1)) := hK _ _ _ (R2_up h2 (by decide))
  rcases rg_t a1 h8 with ⟨t, ht, rfl⟩ | hn
  · refine ct_t ht h8 (br_f (by decide) ?_)
    have ht8 : t < 8 := by omega
    obtain ⟨hk5, hd, h5, hu⟩ := hI.2.2 t ht8
    have vt : vp_in (nI t) 8 := vp_in_nI ht8 (by decide)
    rcases rg a2 5 (by decide) with ⟨k, hk, rfl⟩ | hn
    · have mm : ∀ r, (k < 4 → r = if k = 2 then wI (A 5 t) else nI (A (3 + k) t)) → (k = 4 → r = nI (tiN (A 3 t))) → (k = 5 → r = nI (askN (A 3 t) (A 4 t) (A 6 t))) → wp_X10_of m fo (nI t) (nI k) (fun r' c0' => K r r' fd c0') := by
        intro r e1 e2 e3
        refine mt_t hM hI ht (br_f (by decide) (inn_t (n := 5) hk (by decide) (br_f (by decide) (ek_if (cle (a := 4) (by decide) (by omega)) (fun c => ek_if (cq (b := 4) (by omega)) (fun c4 => ?_) (fun c4 => ?_)) (fun c => ?_)))))
        · exact m_tires hM hI ht8 (by rw [e2 c4]; exact hK _ _ _ h2)
        · exact m_asked hM hI ht8 (by rw [e3 (by omega)]; exact hK _ _ _ h2)
        · exact m_it hM ht8 (by omega) (by rw [e1 (by omega)]; exact hK _ _ _ h2)
      unfold wp_X9_of at *
      have cl : (nI t).toNatClampNeg = t := nI_clamp (by omega)
      rcases (by omega : k = 0 ∨ k = 1 ∨ k = 2 ∨ k = 3 ∨ k = 4 ∨ k = 5) with e | e | e | e | e | e <;> subst e
      · refine br_t rfl ⟨vt, ?_⟩; rw [cl]
        exact mm _ (fun _ => hC.2.2.2.1 t ht8) (fun z => by omega) (fun z => by omega)
      · refine br_f (by decide) (br_t rfl ⟨vt, ?_⟩); rw [cl]
        exact mm _ (fun _ => hC.2.2.2.2.1 t ht8) (fun z => by omega) (fun z => by omega)
      · refine br_f (by decide) (br_f (by decide) (br_t rfl ⟨vt, ?_⟩)); rw [cl]
        exact mm _ (fun _ => hC.2.2.2.2.2.1 t ht8) (fun z => by omega) (fun z => by omega)
      · refine br_f (by decide) (br_f (by decide) (br_f (by decide) (br_t rfl ⟨vt, ?_⟩))); rw [cl]
        exact mm _ (fun _ => hC.2.2.2.2.2.2.1 t ht8) (fun z => by omega) (fun z => by omega)
      · refine br_f (by decide) (br_f (by decide) (br_f (by decide) (br_f (by decide) (br_t rfl (c_natureOf hC.2.2.2.1 ht8 hk5 (v_tires hk5 ?_))))))
        exact mm _ (fun z => by omega) (fun _ => rfl) (fun z => by omega)
      · refine br_f (by decide) (br_f (by decide) (br_f (by decide) (br_f (by decide) (br_f (by decide) (br_t rfl (c_natureOf hC.2.2.2.1 ht8 hk5 ⟨vt, vt, ?_⟩))))))
        rw [cl, hC.2.2.2.2.1 t ht8, hC.2.2.2.2.2.2.1 t ht8]
        exact v_asked hk5 hd hu (mm _ (fun z => by omega) (fun z => by omega) (fun _ => rfl))
    · refine br_f (ne_lit hn 0 (by decide) (by decide)) (br_f (ne_lit hn 1 (by decide) (by decide)) (br_f (ne_lit hn 2 (by decide) (by decide)) (br_f (ne_lit hn 3 (by decide) (by decide)) (br_f (ne_lit hn 4 (by decide) (by decide)) (br_f (ne_lit hn 5 (by decide) (by decide)) (c_fnd 0 (by decide) bf0 ?_))))))
      exact mt_t hM hI ht (br_f (by decide) (in_f hn (br_t rfl (m_fnd 0 (by decide) bf0 hby))))
  · exact ct_f hn (br_t rfl (c_fnd 0 (by decide) bf0 (mt_f hM hn (br_t rfl (m_fnd 0 (by decide) bf0 hby)))))
theorem sim_by (h1 : R1 sk ze ma ki dn wi du yr sz m) (h2 : R2 fd fo) (a1 a2 a3 : Int32) {K : Int32 → Int32 → (Nat → Int32) → (Nat → Int32) → Prop} (hK : ∀ r fd' fo', R2 fd' fo' → K r r fd' fo') : wp_X9_by fd sk ki dn du sz a1 a2 a3 (fun r c0 => wp_X10_by m fo a1 a2 a3 (fun r' c0' => K r r' c0 c0')) := by
  obtain ⟨A, hC, hM, hI⟩ := id h1
  have hsz := hC.2.2.2.2.2.2.2
  subst hsz
  have h8 := hI.1
  have hby : K (-1000000001) (-1000000001) (upd fd 0 (fd 0 + 1)) (upd fo 0 (fo 0 + 1)) := hK _ _ _ (R2_up h2 (by decide))
  rcases rg_t a1 h8 with ⟨t, ht, rfl⟩ | hn
  · refine ct_t ht h8 (br_f (by decide) ?_)
    have ht8 : t < 8 := by omega
    obtain ⟨hk5, hd, h5, hu⟩ := hI.2.2 t ht8
    have vt : vp_in (nI t) 8 := vp_in_nI ht8 (by decide)
    rcases rg a2 5 (by decide) with ⟨p, hp, rfl⟩ | hn
    · have hp6 : p < 6 := by omega
      have hs := (hI.2.1 p hp6).1
      have vp : vp_in (nI p) 6 := vp_in_nI hp6 (by decide)
      refine cp_t hp (br_f (by decide) (c_natureOf hC.2.2.2.1 ht8 hk5 ⟨vp, ?_⟩))
      rw [nI_clamp (n := t) (by omega), nI_clamp (n := p) (by omega), hC.1 p hp6, hC.2.2.2.2.1 t ht8, hC.2.2.2.2.2.2.1 t ht8]
      rcases rg a3 1 (by decide) with ⟨k, hk, rfl⟩ | hn
      · rcases (by omega : k = 0 ∨ k = 1) with e | e <;> subst e
        · refine br_t rfl ⟨vt, vt, v_goesOn hk5 hs hd hu ?_⟩
          refine mt_t hM hI ht (br_f (by decide) (mp_t hp (br_f (by decide) (inn_t (n := 1) hk (by decide) (br_f (by decide) (br_t rfl (m_his (k := 0) hM hp6 (by decide) (m_goesOn hM hI ht8 hs (hK _ _ _ h2)))))))))
        · refine br_f (by decide) (br_t rfl ⟨vt, vt, v_bid hk5 hs hd hu ?_⟩)
          refine mt_t hM hI ht (br_f (by decide) (mp_t hp (br_f (by decide) (inn_t (n := 1) hk (by decide) (br_f (by decide) (br_f (by decide) (m_his (k := 0) hM hp6 (by decide) (m_bids hM hI ht8 hs (hK _ _ _ h2)))))))))
      · refine br_f (ne_lit hn 0 (by decide) (by decide)) (br_f (ne_lit hn 1 (by decide) (by decide)) (c_fnd 0 (by decide) bf0 ?_))
        exact mt_t hM hI ht (br_f (by decide) (mp_t hp (br_f (by decide) (in_f hn (br_t rfl (m_fnd 0 (by decide) bf0 hby))))))
    · refine cp_f hn (br_t rfl (c_fnd 0 (by decide) bf0 ?_))
      exact mt_t hM hI ht (br_f (by decide) (mp_f hn (br_t rfl (m_fnd 0 (by decide) bf0 hby))))
  · exact ct_f hn (br_t rfl (c_fnd 0 (by decide) bf0 (mt_f hM hn (br_t rfl (m_fnd 0 (by decide) bf0 hby)))))
/-- with whom: -1 to 5, or not -/
theorem rg_w (v : Int32) : (∃ w, w ≤ 6 ∧ v = wI w) ∨ ¬ ((-1) ≤ v ∧ v ≤ nI 5) := by
  by_cases e : v = -1
  · exact Or.inl ⟨0, by omega, e⟩
  · rcases rg v 5 (by decide) with ⟨j, hj, rfl⟩ | h
    · exact Or.inl ⟨j + 1, by omega, rfl⟩
    · refine Or.inr (fun z => h ⟨?_, z.2⟩)
      have h1 := Int32.le_iff_toInt_le.mp z.1
      rw [Int32.le_iff_toInt_le]
      have h2 : v.toInt ≠ -1 := fun q => e (Int32.toInt_inj.mp q)
      have h3 : (-1 : Int32).toInt = -1 := rfl
      have h4 : (0 : Int32).toInt = 0 := rfl
      omega
theorem w_in {w : Nat} (h : w ≤ 6) : (-1 : Int32) ≤ wI w ∧ wI w ≤ nI 5 := by
  rcases (by omega : w = 0 ∨ w = 1 ∨ w = 2 ∨ w = 3 ∨ w = 4 ∨ w = 5 ∨ w = 6) with e | e | e | e | e | e | e <;> subst e <;> decide
theorem sim_set (h1 : R1 sk ze ma ki dn wi du yr sz m) (h2 : R2 fd fo) (a1 a2 a3 : Int32) {K : Int32 → Int32 → (Nat → Int32) → (Nat → Int32) → (Nat → Int32) → (Nat → Int32) → (Nat → Int32) → (Nat → Int32) → Prop} (hK : ∀ r fd' dn' wi' du' m' fo', R1 sk ze ma ki dn' wi' du' yr sz m' → R2 fd' fo' → K r r fd' dn' wi' du' m' fo') : wp_X9_set fd dn wi du sz a1 a2 a3 (fun r c0 c1 c2 c3 => wp_X10_set m fo a1 a2 a3 (fun r' c0' c1' => K r r' c0 c1 c2 c3 c0' c1')) := by
  obtain ⟨A, hC, hM, hI⟩ := id h1
  have hsz := hC.2.2.2.2.2.2.2
  subst hsz
  have h8 := hI.1
  have hby : K (-1000000001) (-1000000001) (upd fd 0 (fd 0 + 1)) dn wi du m (upd fo 0 (fo 0 + 1)) := hK _ _ _ _ _ _ _ h1 (R2_up h2 (by decide))
  have mby : ∀ {Q : Int32 → (Nat → Int32) → Prop}, Q (-1000000001) (upd fo 0 (fo 0 + 1)) → wp_X10_finds fo (-1000000001) Q := fun h => m_fnd 0 (by decide) bf0 h
  rcases rg_t a1 h8 with ⟨t, ht, rfl⟩ | hn
  · refine ct_t ht h8 (br_f (by decide) ?_)
    have ht8 : t < 8 := by omega
    have bec : ∀ (k : Nat) (x : Int32) {Q : Int32 → (Nat → Int32) → Prop}, k < 4 → Q (if k = 2 then wI (A 5 t) else nI (A (3 + k) t)) (upd m (20 + 4 * t + k) x) → wp_X10_becomes m ((20 + 4 * nI t) + nI k) x Q := by
      intro k x Q hk h
      rw [ix_t]
      refine m_bec (by omega) ?_
      rw [hM _ (by omega), rm_t _ _ ht8 hk]
      exact h
    by_cases e1 : a2 = 1
    · subst e1
      refine br_t rfl ?_
      rcases rg a3 100 (by decide) with ⟨v, hv, rfl⟩ | hn
      · refine wn_t (n := 100) hv (by decide) (br_f (by decide) (c_exch ht8 (by decide) ?_))
        refine mt_t hM hI ht (br_f (by decide) (in_t (by decide) (by decide) (br_f (by decide) (br_f (by decide) (br_t rfl (inn_t (n := 100) hv (by decide) (br_f (by decide) (bec 1 _ (by decide) ?_))))))))
        rw [hC.2.2.2.2.1 t ht8]
        exact hK _ _ _ _ _ _ _ ⟨_, hC.u_dn t v, RelM_t hM v ht8 (by decide) (by simp), hI.t (k := 1) v (by decide) (by simpa using hv)⟩ h2
      · refine w_f hn (br_t rfl (c_fnd 0 (by decide) bf0 ?_))
        exact mt_t hM hI ht (br_f (by decide) (in_t (by decide) (by decide) (br_f (by decide) (br_f (by decide) (br_t rfl (in_f hn (br_t rfl (mby hby))))))))
    · by_cases e2 : a2 = 2
      · subst e2
        refine br_f (by decide) (br_t rfl ?_)
        rcases rg_w a3 with ⟨w, hw, rfl⟩ | hn
        · refine w_t (w_in hw).1 (w_in hw).2 (br_f (by decide) (c_exch ht8 (by decide) ?_))
          refine mt_t hM hI ht (br_f (by decide) (in_t (by decide) (by decide) (br_f (by decide) (br_t rfl (br_f (by decide) (br_t rfl (in_t (w_in hw).1 (w_in hw).2 (br_f (by decide) (bec 2 _ (by decide) ?_)))))))))
          rw [hC.2.2.2.2.2.1 t ht8]
          exact hK _ _ _ _ _ _ _ ⟨_, hC.u_wi t w, RelM_t hM w ht8 (by decide) (by simp), hI.t (k := 2) w (by decide) (by simpa using hw)⟩ h2
        · refine w_f hn (br_t rfl (c_fnd 0 (by decide) bf0 ?_))
          exact mt_t hM hI ht (br_f (by decide) (in_t (by decide) (by decide) (br_f (by decide) (br_t rfl (br_f (by decide) (br_t rfl (in_f hn (br_t rfl (mby hby)))))))))
      · by_cases e3 : a2 = 3
        · subst e3
          refine br_f (by decide) (br_f (by decide) (br_t rfl ?_))
          rcases rg a3 999 (by decide) with ⟨v, hv, rfl⟩ | hn
          · refine wn_t (n := 999) hv (by decide) (br_f (by decide) (c_exch ht8 (by decide) ?_))
            refine mt_t hM hI ht (br_f (by decide) (in_t (by decide) (by decide) (br_f (by decide) (br_f (by decide) (br_f (by decide) (br_f (by decide) (inn_t (n := 999) hv (by decide) (br_f (by decide) (bec 3 _ (by decide) ?_)))))))))
            rw [hC.2.2.2.2.2.2.1 t ht8]
            exact hK _ _ _ _ _ _ _ ⟨_, hC.u_du t v, RelM_t hM v ht8 (by decide) (by simp), hI.t (k := 3) v (by decide) (by simpa using hv)⟩ h2
          · refine w_f hn (br_t rfl (c_fnd 0 (by decide) bf0 ?_))
            exact mt_t hM hI ht (br_f (by decide) (in_t (by decide) (by decide) (br_f (by decide) (br_f (by decide) (br_f (by decide) (br_f (by decide) (in_f hn (br_t rfl (mby hby)))))))))
        · refine br_f e1 (br_f e2 (br_f e3 (c_fnd 0 (by decide) bf0 ?_)))
          have hn : ¬ ((1 : Int32) ≤ a2 ∧ a2 ≤ 3) := by
            intro z
            have z1 := Int32.le_iff_toInt_le.mp z.1
            have z2 := Int32.le_iff_toInt_le.mp z.2
            have q1 := lv_neT e1 (show (1 : Int32).toInt = 1 from rfl)
            have q2 := lv_neT e2 (show (2 : Int32).toInt = 2 from rfl)
            have q3 := lv_neT e3 (show (3 : Int32).toInt = 3 from rfl)
            have a : (1 : Int32).toInt = 1 := rfl
            have b : (3 : Int32).toInt = 3 := rfl
            omega
          exact mt_t hM hI ht (br_f (by decide) (in_f hn (br_t rfl (mby hby))))
  · exact ct_f hn (br_t rfl (c_fnd 0 (by decide) bf0 (mt_f hM hn (br_t rfl (mby hby)))))
theorem u_step {u a s : Nat} {n : Nat} {Q : Int32 → Prop} {K : Int32 → Int32 → Prop} (ha : a ≤ 5) (hu : u ≤ 5) (hs : s < 6) (h1 : a = u → Q 1) (h0 : a ≠ u → wpl_X9_isOrIsUnder_4 (nI u) Q K n (abvL.getD a 0) (nI (s + 1))) : wpl_X9_isOrIsUnder_4 (nI u) Q K (n + 1) (nI a) (nI s) := by
  rw [wpl_X9_isOrIsUnder_4]
  refine br_f (fun z => absurd ((cle (a := 6) (by decide) (by omega)).mp z) (by omega)) (ck_t ha (br_f (by decide) (ek_if (cq (by omega) (by omega)) h1 (fun c => ⟨vp_in_nI (by omega) (by decide), ?_⟩))))
  rw [nI_clamp (by omega), nI_1]
  exact h0 c
theorem u_end {u s : Nat} {n : Nat} {Q : Int32 → Prop} {K : Int32 → Int32 → Prop} (hs : s < 6) (h : K (-1) (nI s)) : wpl_X9_isOrIsUnder_4 (nI u) Q K (n + 1) (-1) (nI s) := by
  rw [wpl_X9_isOrIsUnder_4]
  exact br_f (fun z => absurd ((cle (a := 6) (by decide) (by omega)).mp z) (by omega)) (ck_f (by decide) (br_t rfl h))
def unN (k u : Nat) : Prop := u = 0 ∨ u = k ∨ (u = 1 ∧ k = 4) ∨ (u = 2 ∧ k = 5)
theorem c_under {k u : Nat} {Q : Int32 → Prop} (hk : k ≤ 5) (hu : u ≤ 5) (h1 : unN k u → Q 1) (h0 : ¬ unN k u → Q 0) : wp_X9_isOrIsUnder (nI k) (nI u) Q := by
  unfold unN at h1 h0
  refine ⟨5, ?_⟩
  rcases (by omega : k = 0 ∨ k = 1 ∨ k = 2 ∨ k = 3 ∨ k = 4 ∨ k = 5) with e | e | e | e | e | e <;> subst e
  · exact u_step (s := 0) hk hu (by decide) (fun e => h1 (by omega)) (fun e => u_end (s := 1) (by decide) (h0 (by omega)))
  · exact u_step (s := 0) hk hu (by decide) (fun e => h1 (by omega)) (fun e => u_step (s := 1) (a := 0) (by decide) hu (by decide) (fun e => h1 (by omega)) (fun e => u_end (s := 2) (by decide) (h0 (by omega))))
  · exact u_step (s := 0) hk hu (by decide) (fun e => h1 (by omega)) (fun e => u_step (s := 1) (a := 0) (by decide) hu (by decide) (fun e => h1 (by omega)) (fun e => u_end (s := 2) (by decide) (h0 (by omega))))
  · exact u_step (s := 0) hk hu (by decide) (fun e => h1 (by omega)) (fun e => u_step (s := 1) (a := 0) (by decide) hu (by decide) (fun e => h1 (by omega)) (fun e => u_end (s := 2) (by decide) (h0 (by omega))))
  · exact u_step (s := 0) hk hu (by decide) (fun e => h1 (by omega)) (fun e => u_step (s := 1) (a := 1) (by decide) hu (by decide) (fun e => h1 (by omega)) (fun e => u_step (s := 2) (a := 0) (by decide) hu (by decide) (fun e => h1 (by omega)) (fun e => u_end (s := 3) (by decide) (h0 (by omega)))))
  · exact u_step (s := 0) hk hu (by decide) (fun e => h1 (by omega)) (fun e => u_step (s := 1) (a := 2) (by decide) hu (by decide) (fun e => h1 (by omega)) (fun e => u_step (s := 2) (a := 0) (by decide) hu (by decide) (fun e => h1 (by omega)) (fun e => u_end (s := 3) (by decide) (h0 (by omega)))))
theorem sim_as (h1 : R1 sk ze ma ki dn wi du yr sz m) (h2 : R2 fd fo) (a1 a2 : Int32) {K : Int32 → Int32 → (Nat → Int32) → (Nat → Int32) → Prop} (hK : ∀ r fd' fo', R2 fd' fo' → K r r fd' fo') : wp_X9_as fd ki dn sz a1 a2 (fun r c0 => wp_X10_as m fo a1 a2 (fun r' c0' => K r r' c0 c0')) := by
  obtain ⟨A, hC, hM, hI⟩ := id h1
  have hsz := hC.2.2.2.2.2.2.2
  subst hsz
  have h8 := hI.1
  have hby : K (-1000000001) (-1000000001) (upd fd 0 (fd 0 + 1)) (upd fo 0 (fo 0 + 1)) := hK _ _ _ (R2_up h2 (by decide))
  rcases rg_t a1 h8 with ⟨t, ht, rfl⟩ | hn
  · refine ct_t ht h8 (br_f (by decide) ?_)
    have ht8 : t < 8 := by omega
    obtain ⟨hk5, hd, h5, hu⟩ := hI.2.2 t ht8
    have vt : vp_in (nI t) 8 := vp_in_nI ht8 (by decide)
    rcases rg a2 5 (by decide) with ⟨u, hu5, rfl⟩ | hn
    · refine ck_t hu5 (br_f (by decide) ⟨vt, ?_⟩)
      rw [nI_clamp (by omega), hC.2.2.2.1 t ht8, hC.2.2.2.2.1 t ht8]
      have mm : ∀ r fd', (unN (A 3 t) u → r = nI (A 4 t) ∧ fd' = fd) → (¬ unN (A 3 t) u → r = -1000000003 ∧ fd' = upd fd 2 (fd 2 + 1)) → wp_X10_as m fo (nI t) (nI u) (fun r' c0' => K r r' fd' c0') := by
        intro r fd' e1 e0
        have T : unN (A 3 t) u → wp_X10_it m (nI t) 1 (fun r5 => K r r5 fd' fo) := fun z => m_it1 hM ht8 (by obtain ⟨a, b⟩ := e1 z; rw [a, b]; exact hK _ _ _ h2)
        have F : ¬ unN (A 3 t) u → wp_X10_finds fo (-1000000003) (fun r' c0' => K r r' fd' c0') := fun z => m_fnd 2 (by decide) bf2 (by obtain ⟨a, b⟩ := e0 z; rw [a, b]; exact hK _ _ _ (R2_up h2 (by decide)))
        unfold unN at T F
        refine mt_t hM hI ht (br_f (by decide) (inn_t (n := 5) hu5 (by decide) (br_f (by decide) (m_it0 hM ht8 (ek_if (cq (b := 0) (by omega)) (fun c => T (by omega)) (fun c => ek_if (cq (by omega) (by omega)) (fun c1 => T (by omega)) (fun c1 => ek_if (cq (b := 1) (by omega)) (fun c2 => ek_if (cq (b := 4) (by omega)) (fun c3 => T (by omega)) (fun c3 => ek_if (cq (b := 2) (by omega)) (fun c4 => ek_if (cq (b := 5) (by omega)) (fun c5 => T (by omega)) (fun c5 => F (by omega))) (fun c4 => F (by omega)))) (fun c2 => ek_if (cq (b := 2) (by omega)) (fun c4 => ek_if (cq (b := 5) (by omega)) (fun c5 => T (by omega)) (fun c5 => F (by omega))) (fun c4 => F (by omega))))))))))
      exact c_under hk5 hu5 (fun z => br_f (by decide) ⟨vt, mm _ _ (fun _ => ⟨rfl, rfl⟩) (fun q => absurd z q)⟩) (fun z => br_t rfl (c_fnd 2 (by decide) bf2 (mm _ _ (fun q => absurd q z) (fun _ => ⟨rfl, rfl⟩))))
    · refine ck_f hn (br_t rfl (c_fnd 0 (by decide) bf0 ?_))
      exact mt_t hM hI ht (br_f (by decide) (in_f hn (br_t rfl (m_fnd 0 (by decide) bf0 hby))))
  · exact ct_f hn (br_t rfl (c_fnd 0 (by decide) bf0 (mt_f hM hn (br_t rfl (m_fnd 0 (by decide) bf0 hby)))))
end S2
