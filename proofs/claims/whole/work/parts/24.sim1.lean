section S1
variable {fd fo sk ze ma ki dn wi du m : Nat → Int32} {yr sz : Int32}
theorem RelC.u_sz {A : AS} (h : RelC sk ze ma ki dn wi du sz A) (v : Nat) : RelC sk ze ma ki dn wi du (nI v) (u2 A 7 0 v) := by
  obtain ⟨h0, h1, h2, h3, h4, h5, h6, h7⟩ := h
  exact ⟨RN_o h0 _ v (by decide), RN_o h1 _ v (by decide), RN_o h2 _ v (by decide), RN_o h3 _ v (by decide), RN_o h4 _ v (by decide), RW_o h5 _ v (by decide), RN_o h6 _ v (by decide), by rw [u2_s]⟩
theorem Inv.n {A : AS} (h : Inv A) {v : Nat} (hv : v ≤ 8) : Inv (u2 A 7 0 v) := by
  refine ⟨by rw [u2_s]; exact hv, fun p hp => ?_, fun t ht => ?_⟩
  · rw [u2_f (by decide), u2_f (by decide), u2_f (by decide)]; exact h.2.1 p hp
  · rw [u2_f (by decide), u2_f (by decide), u2_f (by decide), u2_f (by decide)]; exact h.2.2 t ht
def addN (A : AS) (k d w u : Nat) : AS := u2 (u2 (u2 (u2 (u2 A 7 0 (A 7 0 + 1)) 3 (A 7 0) k) 4 (A 7 0) d) 5 (A 7 0) w) 6 (A 7 0) u
theorem addN_inv {A : AS} (h : Inv A) {k d w u : Nat} (hn : A 7 0 < 8) (hk : k ≤ 5) (hd : d ≤ 100) (hw : w ≤ 6) (hu : u ≤ 999) : Inv (addN A k d w u) :=
  ((((h.n (by omega)).t (k := 0) k (by decide) (by simpa using hk)).t (k := 1) d (by decide) (by simpa using hd)).t (k := 2) w (by decide) (by simpa using hw)).t (k := 3) u (by decide) (by simpa using hu)
theorem c_add {A : AS} (h : RelC sk ze ma ki dn wi du sz A) (hn : A 7 0 < 8) (k d w u : Nat) {Q : (Nat → Int32) → (Nat → Int32) → (Nat → Int32) → (Nat → Int32) → Int32 → Prop} (hQ : ∀ ki' dn' wi' du', RelC sk ze ma ki' dn' wi' du' (nI (A 7 0 + 1)) (addN A k d w u) → Q ki' dn' wi' du' (nI (A 7 0 + 1))) : wp_X2_add ki dn wi du sz (nI k) (nI d) (wI w) (nI u) Q := by
  have hsz := h.2.2.2.2.2.2.2
  subst hsz
  have v8 : vp_in (nI (A 7 0)) 8 := vp_in_nI hn (by decide)
  unfold wp_X2_add
  refine br_t ((clt (b := 8) (by omega) (by decide)).mpr hn) (br_t rfl ⟨v8, v8, v8, v8, ?_⟩)
  rw [nI_clamp (by omega), nI_1]
  exact hQ _ _ _ _ (((((h.u_sz (A 7 0 + 1)).u_ki (A 7 0) k).u_dn (A 7 0) d).u_wi (A 7 0) w).u_du (A 7 0) u)
theorem m_comesAs {A : AS} (h : RelM m A yr) (hn : A 7 0 < 8) (k d w u : Nat) {Q : Int32 → (Nat → Int32) → Prop} (hQ : ∀ m', RelM m' (addN A k d w u) yr → Q (nI (A 7 0)) m') : wp_X10_comesAs m (nI k) (nI d) (wI w) (nI u) Q := by
  unfold wp_X10_comesAs
  rw [RelM_sz h, nI_1]
  have v1 : vp_in 1 52 := vp_lit 1 (by decide) (by decide)
  have h1 := RelM_n h (A 7 0 + 1)
  refine ⟨v1, v1, v1, ?_⟩
  refine m_put (k := 0) (v := k) h1 hn (by decide) (by simp) (fun m2 h2 => ?_)
  refine m_put (k := 1) (v := d) h2 hn (by decide) (by simp) (fun m3 h3 => ?_)
  refine m_put (k := 2) (v := w) h3 hn (by decide) (by simp) (fun m4 h4 => ?_)
  exact m_put (k := 3) (v := u) h4 hn (by decide) (by simp) (fun m5 h5 => hQ m5 h5)
theorem ne_lit {v : Int32} {n : Nat} (hn : ¬ (0 ≤ v ∧ v ≤ nI n)) (j : Nat) (hj : j ≤ n) (h : n < 2 ^ 31) : ¬ v = nI j := fun e => hn (e ▸ n_in hj h)
theorem mb_t {k v : Nat} {Q : Int32 → Prop} (hk : k ≤ 2) (hv : v ≤ (if k = 0 then 20 else if k = 1 then 9 else 999)) (hQ : Q 1) : wp_X10_mayBe (nI k) (nI v) Q := by
  refine inn_t (n := 2) hk (by decide) (br_f (by decide) ?_)
  rcases (by omega : k = 0 ∨ k = 1 ∨ k = 2) with e | e | e <;> subst e
  · exact br_t rfl (inn_t (n := 20) (by simpa using hv) (by decide) (br_f (by decide) hQ))
  · exact br_f (by decide) (br_t rfl (inn_t (n := 9) (by simpa using hv) (by decide) (br_f (by decide) hQ)))
  · exact br_f (by decide) (br_f (by decide) (inn_t (n := 999) (by simpa using hv) (by decide) (br_f (by decide) hQ)))
theorem mb_f {k : Nat} {v : Int32} {Q : Int32 → Prop} (hk : k ≤ 2) (hv : ¬ (0 ≤ v ∧ v ≤ nI (if k = 0 then 20 else if k = 1 then 9 else 999))) (hQ : Q 0) : wp_X10_mayBe (nI k) v Q := by
  refine inn_t (n := 2) hk (by decide) (br_f (by decide) ?_)
  rcases (by omega : k = 0 ∨ k = 1 ∨ k = 2) with e | e | e <;> subst e
  · exact br_t rfl (in_f hv (br_t rfl hQ))
  · exact br_f (by decide) (br_t rfl (in_f hv (br_t rfl hQ)))
  · exact br_f (by decide) (br_f (by decide) (in_f hv (br_t rfl hQ)))
theorem sim_person (h1 : R1 sk ze ma ki dn wi du yr sz m) (h2 : R2 fd fo) (a1 a2 a3 : Int32) {K : Int32 → Int32 → (Nat → Int32) → (Nat → Int32) → (Nat → Int32) → (Nat → Int32) → (Nat → Int32) → (Nat → Int32) → Prop} (hK : ∀ r fd' sk' ze' ma' m' fo', R1 sk' ze' ma' ki dn wi du yr sz m' → R2 fd' fo' → K r r fd' sk' ze' ma' m' fo') : wp_X9_person fd sk ze ma a1 a2 a3 (fun r c0 c1 c2 c3 => wp_X10_person m fo a1 a2 a3 (fun r' c0' c1' => K r r' c0 c1 c2 c3 c0' c1')) := by
  obtain ⟨A, hC, hM, hI⟩ := id h1
  have hby : K (-1000000001) (-1000000001) (upd fd 0 (fd 0 + 1)) sk ze ma m (upd fo 0 (fo 0 + 1)) := hK _ _ _ _ _ _ _ h1 (R2_up h2 (by decide))
  rcases rg a1 5 (by decide) with ⟨p, hp, rfl⟩ | hn
  · refine cp_t hp (br_f (by decide) ?_)
    rcases rg a2 2 (by decide) with ⟨k, hk, rfl⟩ | hn
    · rcases rg a3 (if k = 0 then 20 else if k = 1 then 9 else 999) (by split; decide; split <;> decide) with ⟨v, hv, rfl⟩ | hn
      · have mm : ∀ r fd' sk' ze' ma', r = nI (A k p) → R1 sk' ze' ma' ki dn wi du yr sz (upd m (2 + 3 * p + k) (nI v)) → fd' = fd → wp_X10_person m fo (nI p) (nI k) (nI v) (fun r' c0' c1' => K r r' fd' sk' ze' ma' c0' c1') := by
          intro r fd' sk' ze' ma' er hr ef
          refine mp_t hp (br_f (by decide) (mb_t hk hv (br_f (by decide) ?_)))
          rw [ix_p]
          refine m_bec (by omega) ?_
          rw [hM _ (by omega), rm_p _ _ (by omega) (by omega), er, ef]
          exact hK _ _ _ _ _ _ _ hr h2
        have hM' := RelM_p hM (p := p) (k := k) v (by omega) (by omega)
        rcases (by omega : k = 0 ∨ k = 1 ∨ k = 2) with e | e | e <;> subst e
        · refine br_t rfl (wn_t (n := 20) (by simpa using hv) (by decide) (br_f (by decide) (c_exch (by omega) (by decide) ?_)))
          exact mm _ _ _ _ _ (hC.1 p (by omega)) ⟨_, hC.u_sk p v, hM', hI.p (k := 0) v (by decide) (by simpa using hv)⟩ rfl
        · refine br_f (by decide) (br_t rfl (wn_t (n := 9) (by simpa using hv) (by decide) (br_f (by decide) (c_exch (by omega) (by decide) ?_))))
          exact mm _ _ _ _ _ (hC.2.1 p (by omega)) ⟨_, hC.u_ze p v, hM', hI.p (k := 1) v (by decide) (by simpa using hv)⟩ rfl
        · refine br_f (by decide) (br_f (by decide) (br_t rfl (wn_t (n := 999) (by simpa using hv) (by decide) (br_f (by decide) (c_exch (by omega) (by decide) ?_)))))
          exact mm _ _ _ _ _ (hC.2.2.1 p (by omega)) ⟨_, hC.u_ma p v, hM', hI.p (k := 2) v (by decide) (by simpa using hv)⟩ rfl
      · have mf : wp_X10_person m fo (nI p) (nI k) a3 (fun r' c0' c1' => K (-1000000001) r' (upd fd 0 (fd 0 + 1)) sk ze ma c0' c1') := mp_t hp (br_f (by decide) (mb_f hk hn (br_t rfl (m_fnd 0 (by decide) bf0 hby))))
        rcases (by omega : k = 0 ∨ k = 1 ∨ k = 2) with e | e | e <;> subst e
        · exact br_t rfl (w_f hn (br_t rfl (c_fnd 0 (by decide) bf0 mf)))
        · exact br_f (by decide) (br_t rfl (w_f hn (br_t rfl (c_fnd 0 (by decide) bf0 mf))))
        · exact br_f (by decide) (br_f (by decide) (br_t rfl (w_f hn (br_t rfl (c_fnd 0 (by decide) bf0 mf)))))
    · refine br_f (ne_lit hn 0 (by decide) (by decide)) (br_f (ne_lit hn 1 (by decide) (by decide)) (br_f (ne_lit hn 2 (by decide) (by decide)) (c_fnd 0 (by decide) bf0 ?_)))
      exact mp_t hp (br_f (by decide) (in_f hn (br_t rfl (br_t rfl (m_fnd 0 (by decide) bf0 hby)))))
  · exact cp_f hn (br_t rfl (c_fnd 0 (by decide) bf0 (mp_f hn (br_t rfl (m_fnd 0 (by decide) bf0 hby)))))
theorem sim_thing (h1 : R1 sk ze ma ki dn wi du yr sz m) (h2 : R2 fd fo) (a1 a2 : Int32) {K : Int32 → Int32 → (Nat → Int32) → (Nat → Int32) → (Nat → Int32) → (Nat → Int32) → (Nat → Int32) → Int32 → (Nat → Int32) → (Nat → Int32) → Prop} (hK : ∀ r fd' ki' dn' wi' du' sz' m' fo', R1 sk ze ma ki' dn' wi' du' yr sz' m' → R2 fd' fo' → K r r fd' ki' dn' wi' du' sz' m' fo') : wp_X9_thing fd ki dn wi du sz a1 a2 (fun r c0 c1 c2 c3 c4 c5 => wp_X10_thing m fo a1 a2 (fun r' c0' c1' => K r r' c0 c1 c2 c3 c4 c5 c0' c1')) := by
  obtain ⟨A, hC, hM, hI⟩ := id h1
  have hsz := hC.2.2.2.2.2.2.2
  have h8 := hI.1
  have hby : K (-1000000001) (-1000000001) (upd fd 0 (fd 0 + 1)) ki dn wi du sz m (upd fo 0 (fo 0 + 1)) := hK _ _ _ _ _ _ _ _ _ h1 (R2_up h2 (by decide))
  rcases rg a1 5 (by decide) with ⟨k, hk, rfl⟩ | hn
  · refine ck_t hk (br_f (by decide) ?_)
    rcases rg a2 99 (by decide) with ⟨d, hd, rfl⟩ | hn
    · refine wn_t (n := 99) hd (by decide) (br_f (by decide) ?_)
      by_cases hf : A 7 0 < 8
      · unfold wp_X2_isFull
        rw [hsz]
        refine br_t ((clt (b := 8) (by omega) (by decide)).mpr hf) (br_t rfl ?_)
        rw [← hsz]
        refine c_add hC hf k d 0 0 (fun ki' dn' wi' du' hC' => ?_)
        refine inn_t (n := 5) hk (by decide) (br_f (by decide) (inn_t (n := 99) hd (by decide) (br_f (by decide) ⟨vp_lit 1 (by decide) (by decide), ?_⟩)))
        rw [RelM_sz hM]
        refine br_f (fun z => absurd ((cq (b := 8) (by omega)).mp z) (by omega)) (m_comesAs hM hf k d 0 0 (fun m' hM' => ?_))
        rw [hsz]
        exact hK _ _ _ _ _ _ _ _ _ ⟨_, hC', hM', addN_inv hI hf hk (by omega) (by omega) (by omega)⟩ h2
      · unfold wp_X2_isFull
        rw [hsz]
        refine br_f (fun z => absurd ((clt (b := 8) (by omega) (by decide)).mp z) (by omega)) (br_f (by decide) (c_fnd 1 (by decide) bf1 ?_))
        rw [← hsz]
        refine inn_t (n := 5) hk (by decide) (br_f (by decide) (inn_t (n := 99) hd (by decide) (br_f (by decide) ⟨vp_lit 1 (by decide) (by decide), ?_⟩)))
        rw [RelM_sz hM]
        exact br_t ((cq (b := 8) (by omega)).mpr (by omega)) (m_fnd 1 (by decide) bf1 (hK _ _ _ _ _ _ _ _ _ h1 (R2_up h2 (by decide))))
    · refine w_f hn (br_t rfl (c_fnd 0 (by decide) bf0 ?_))
      exact inn_t (n := 5) hk (by decide) (br_f (by decide) (in_f hn (br_t rfl (m_fnd 0 (by decide) bf0 hby))))
  · exact ck_f hn (br_t rfl (c_fnd 0 (by decide) bf0 (in_f hn (br_t rfl (m_fnd 0 (by decide) bf0 hby)))))
end S1
