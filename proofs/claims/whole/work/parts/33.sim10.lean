section S10
variable {fd fo sk ze ma ki dn wi du m wa : Nat → Int32} {yr sz : Int32} {A : AS}
variable {bo so : Nat → Int32} {ce nu : Nat → Int64} {bi le : Int32} {j : Nat}
/-! ===== lays ===== -/
def k20 (v : Int64) : Bool := decide (¬ v < 0) && decide (¬ 20 < v)
theorem v20 : ∀ v : Int64, k20 v = true → v.toInt.toNat ≤ 20 ∧ v.toInt32 = nI v.toInt.toNat := by
  intro v h
  simp only [k20, Bool.and_eq_true, decide_eq_true_eq] at h
  have h1 := Int64.le_iff_toInt_le.mp (Int64.not_lt.mp h.1)
  have h2 := Int64.le_iff_toInt_le.mp (Int64.not_lt.mp h.2)
  have e0 : (0 : Int64).toInt = 0 := rfl
  have e2 : (20 : Int64).toInt = 20 := rfl
  rw [e0] at h1
  rw [e2] at h2
  obtain ⟨k, hk⟩ : ∃ k : Nat, v.toInt = k := ⟨v.toInt.toNat, by omega⟩
  have hk20 : k ≤ 20 := by omega
  have ev : v = Int64.ofNat k := by
    apply Int64.toInt_inj.mp
    rw [hk]
    have : ∀ k, k ≤ 20 → ((k : Nat) : Int) = (Int64.ofNat k).toInt := by decide
    exact this k hk20
  subst ev
  have : ∀ k, k ≤ 20 → (Int64.ofNat k).toInt.toNat ≤ 20 ∧ (Int64.ofNat k).toInt32 = nI (Int64.ofNat k).toInt.toNat := by decide
  exact this k hk20
def lyL (nu : Nat → Int64) : Nat → Nat → Nat → AS → Nat × AS
  | 0, _, c, A => (c, A)
  | r + 1, i, c, A => if k20 (nu i) then lyL nu r (i + 1) (c + 1) (u2 A 0 i (nu i).toInt.toNat) else lyL nu r (i + 1) c A
theorem lyL_inv (nu : Nat → Int64) : ∀ r i c A, Inv A → Inv (lyL nu r i c A).2 := by
  intro r
  induction r with
  | zero => intro i c A h; exact h
  | succ r ih =>
    intro i c A h
    simp only [lyL]
    split
    · rename_i hk
      exact ih _ _ _ (h.p (k := 0) _ (by decide) (by simpa using (v20 _ hk).1))
    · exact ih _ _ _ h
theorem c_lays_l {n : Nat} (hn : n ≤ 40) {K : Int32 → Int32 → (Nat → Int32) → Prop} : ∀ r i c (A : AS) (sk : Nat → Int32), RelC sk ze ma ki dn wi du sz A → i + r = min 6 n → (∀ x sk', RelC sk' ze ma ki dn wi du sz (lyL nu r i c A).2 → K (nI (lyL nu r i c A).1) x sk') → wpl_X9_lays_40 nu (nI n) K (r + 1) (nI c) (nI i) sk := by
  intro r
  induction r with
  | zero =>
    intro i c A sk h hi hK
    rw [wpl_X9_lays_40]
    refine ek_if (cle (a := 6) (by decide) (by omega)) (fun _ => hK _ _ h) (fun q => br_t ((cle (by omega) (by omega)).mpr (by omega)) (hK _ _ h))
  | succ r ih =>
    intro i c A sk h hi hK
    rw [wpl_X9_lays_40, nI_1, nI_1, nI_clamp (by omega)]
    simp only [lyL] at hK
    refine br_f (fun z => absurd ((cle (a := 6) (by decide) (by omega)).mp z) (by omega)) (br_f (fun z => absurd ((cle (by omega) (by omega)).mp z) (by omega)) ⟨vp_in_nI (by omega) (by decide), ?_⟩)
    refine ek_if (lg_neg _ _) (fun q => ?_) (fun q => ek_if (lg_pos _ _) (fun q2 => ?_) (fun q2 => ⟨vp_in_nI (by omega) (by decide), ?_⟩))
    · rw [if_neg (by simp [k20, q])] at hK
      exact ih (i + 1) c A sk h (by omega) hK
    · rw [if_neg (by simp [k20, q2])] at hK
      exact ih (i + 1) c A sk h (by omega) hK
    · have hk : k20 (nu i) = true := by simp only [k20, Bool.and_eq_true, decide_eq_true_eq]; exact ⟨q, q2⟩
      rw [if_pos hk] at hK
      rw [(v20 _ hk).2]
      exact ih (i + 1) (c + 1) _ _ (h.u_sk i _) (by omega) hK
theorem m_lays_l {n : Nat} (hn : n ≤ 40) (hj : j ≤ 3) (hso : so j = nI n) (hce : ∀ i, i < 40 → ce (40 * j + i) = nu i) {K : Int32 → Int32 → (Nat → Int32) → Prop} : ∀ r i c (A : AS) (m : Nat → Int32), RelM m A yr → i + r = min 6 n → (∀ x m', RelM m' (lyL nu r i c A).2 yr → K (nI (lyL nu r i c A).1) x m') → wpl_X10_lays_21 so ce (nI j) K (r + 1) (nI c) (nI i) m := by
  have vj : vp_in (nI j) 4 := vp_in_nI (by omega) (by decide)
  intro r
  induction r with
  | zero =>
    intro i c A m h hi hK
    rw [wpl_X10_lays_21, nI_clamp (by omega), hso]
    refine ⟨vj, ek_if (cle (by omega) (by omega)) (fun _ => hK _ _ h) (fun q => br_t ((cle (a := 6) (by omega) (by omega)).mpr (by omega)) (hK _ _ h))⟩
  | succ r ih =>
    intro i c A m h hi hK
    rw [wpl_X10_lays_21, nI_1, nI_1, nI_clamp (n := j) (by omega), hso, ix_s, nI_clamp (n := 40 * j + i) (by omega), hce i (by omega)]
    simp only [lyL] at hK
    refine ⟨vj, br_f (fun z => absurd ((cle (by omega) (by omega)).mp z) (by omega)) (br_f (fun z => absurd ((cle (a := 6) (by decide) (by omega)).mp z) (by omega)) ⟨vp_in_nI (by omega) (by decide), ?_⟩)⟩
    refine ek_if (lg_neg _ _) (fun q => br_t rfl ?_) (fun q => ek_if (lg_pos _ _) (fun q2 => br_t rfl ?_) (fun q2 => br_f (by decide) ⟨vp_in_nI (by omega) (by decide), ?_⟩))
    · rw [if_neg (by simp only [k20, Bool.and_eq_true, decide_eq_true_eq]; exact fun z => z.1 q)] at hK
      exact ih (i + 1) c A m h (by omega) hK
    · rw [if_neg (by simp only [k20, Bool.and_eq_true, decide_eq_true_eq]; exact fun z => z.2 q2)] at hK
      exact ih (i + 1) c A m h (by omega) hK
    · have hk : k20 (nu i) = true := by simp only [k20, Bool.and_eq_true, decide_eq_true_eq]; exact ⟨q, q2⟩
      rw [if_pos hk] at hK
      rw [(v20 _ hk).2]
      exact m_gets (k := 0) h (by omega) (by decide) (fun m' h' => ih (i + 1) (c + 1) _ _ h' (by omega) hK)
theorem sim_lays (h1 : R1 sk ze ma ki dn wi du yr sz m) (h2 : R2 fd fo) (hj3 : j ≤ 3) (h5 : R5 j nu bi le bo so ce) (a1 : Int32) (hj : vp_in a1 4 → a1.toNatClampNeg = j) {K : Int32 → Int32 → (Nat → Int32) → (Nat → Int32) → (Nat → Int32) → (Nat → Int32) → Prop} (hK : ∀ r fd' sk' m' fo', R1 sk' ze ma ki dn wi du yr sz m' → R2 fd' fo' → K r r fd' sk' m' fo') : wp_X9_lays fd sk nu bi le a1 (fun r c0 c1 => wp_X10_lays m fo bo so ce a1 (fun r' d0 d1 => K r r' c0 c1 d0 d1)) := by
  obtain ⟨A, hC, hM, hI⟩ := id h1
  obtain ⟨e1, e2, ⟨n, hn, e3⟩, e4⟩ := id h5
  subst e3
  rcases rg a1 3 (by decide) with ⟨i, hi, ei⟩ | hx
  · have := hj_eq hj hi ei
    subst this
    subst ei
    refine cs_t hi (br_f (by decide) ⟨vp_in_nI (by omega) (by decide), fun z => br_f (by decide) (c_fnd 5 (by decide) bf5 ?_), fun z => br_t rfl ⟨min 6 n + 1, c_lays_l hn (min 6 n) 0 0 A sk hC (by omega) (fun x sk' hC' => ?_)⟩⟩)
    · exact m_nt hi (fun _ => br_f (by decide) (m_fnd 5 (by decide) bf5 (hK _ _ _ _ _ h1 (R2_up h2 (by decide))))) (fun q => absurd (e1.trans z) q)
    · refine m_nt hi (fun q => absurd (e1.symm.trans q) z) (fun _ => br_t rfl ⟨min 6 n + 1, m_lays_l hn hi e2 e4 (min 6 n) 0 0 A m hM (by omega) (fun y m' hM' => ?_)⟩)
      exact hK _ _ _ _ _ ⟨_, hC', hM', lyL_inv _ _ _ _ _ hI⟩ h2
  · exact cs_f hx (br_t rfl (c_fnd 0 (by decide) bf0 (m_ntf hx (br_f (by decide) (m_fnd 0 (by decide) bf0 (hK _ _ _ _ _ h1 (R2_up h2 (by decide))))))))
/-! ===== book ===== -/
theorem yearsN_s : ∀ n A, yearN (yearsN n A) = yearsN (n + 1) A := by
  intro n
  induction n with
  | zero => intro A; rfl
  | succ n ih => intro A; exact ih (yearN A)
def bkV (bi : Int32) (A : AS) (t y : Nat) : Int64 := cutV bi (nI (yearsN y A 4 t)).toInt64
theorem c_book_l {n t : Nat} (hn : n ≤ 40) (ht : t < 8) (hI : Inv A) {K : Int32 → (Nat → Int32) → (Nat → Int32) → (Nat → Int32) → (Nat → Int32) → (Nat → Int32) → (Nat → Int32) → Int32 → (Nat → Int64) → Prop} : ∀ r i (ze ma dn wi du he : Nat → Int32) (yr : Int32) (f : Nat → Int64), RelC sk ze ma ki dn wi du sz (yearsN i A) → i + r = n → (∀ y, f y = if y < i then bkV bi A t y else nu y) → (∀ x t0 t1 t2 t3 t4 t5 t6 f', (∀ y, f' y = if y < n then bkV bi A t y else nu y) → K x t0 t1 t2 t3 t4 t5 t6 f') → wpl_X9_book_64 sk ki sz bi (nI n) (nI t) K (r + 1) (nI i) ze ma dn wi du he yr f := by
  intro r
  induction r with
  | zero =>
    intro i ze ma dn wi du he yr f h hi hf hK
    rw [wpl_X9_book_64]
    refine br_t ((cle (by omega) (by omega)).mpr (by omega)) (hK _ _ _ _ _ _ _ _ _ (fun y => ?_))
    rw [hf, show i = n by omega]
  | succ r ih =>
    intro i ze ma dn wi du he yr f h hi hf hK
    have hy := yearsN_inv i A hI
    rw [wpl_X9_book_64, nI_1, nI_clamp (by omega), h.2.2.2.2.1 t ht]
    refine br_f (fun z => absurd ((cle (by omega) (by omega)).mp z) (by omega)) ⟨vp_in_nI ht (by decide), c_put (by omega) (c_goYear h hy.1 he yr (fun ze1 ma1 dn1 wi1 du1 he1 h1 => ?_))⟩
    rw [yearsN_s] at h1
    refine ih (i + 1) _ _ _ _ _ _ _ _ h1 (by omega) (fun y => ?_) hK
    by_cases e : y = i
    · subst e; rw [pk_uLs, if_pos (by omega)]; rfl
    · rw [pk_uLn e, hf]
      by_cases d : y < i
      · rw [if_pos d, if_pos (by omega)]
      · rw [if_neg d, if_neg (by omega)]
theorem m_book_l {n t : Nat} (hn : n ≤ 40) (ht : t < 8) (hj : j ≤ 3) (hso : so j = nI n) (hI : Inv A) {K : Int32 → (Nat → Int32) → (Nat → Int64) → Prop} : ∀ r i (m : Nat → Int32) (yr : Int32) (f : Nat → Int64), RelM m (yearsN i A) yr → i + r = n → (∀ y, f y = if 40 * j ≤ y ∧ y < 40 * j + i then bkV (bo j) A t (y - 40 * j) else ce y) → (∀ x m' f', (∀ y, f' y = if 40 * j ≤ y ∧ y < 40 * j + n then bkV (bo j) A t (y - 40 * j) else ce y) → K x m' f') → wpl_X10_book_24 bo so (nI j) (nI t) K (r + 1) (nI i) m f := by
  have vj : vp_in (nI j) 4 := vp_in_nI (by omega) (by decide)
  intro r
  induction r with
  | zero =>
    intro i m yr f h hi hf hK
    rw [wpl_X10_book_24, nI_clamp (by omega), hso]
    refine ⟨vj, br_t ((cle (by omega) (by omega)).mpr (by omega)) (hK _ _ _ (fun y => ?_))⟩
    rw [hf, show i = n by omega]
  | succ r ih =>
    intro i m yr f h hi hf hK
    have hy := yearsN_inv i A hI
    rw [wpl_X10_book_24, nI_1, nI_clamp (n := j) (by omega), hso, ix_s, nI_clamp (n := 40 * j + i) (by omega)]
    refine ⟨vj, br_f (fun z => absurd ((cle (by omega) (by omega)).mp z) (by omega)) ⟨vj, m_it1 h ht (m_cut ⟨vp_in_nI (by omega) (by decide), m_goes h hy.1 (fun m1 h1 => ?_)⟩)⟩⟩
    rw [yearsN_s] at h1
    refine ih (i + 1) _ _ _ h1 (by omega) (fun y => ?_) hK
    by_cases e : y = 40 * j + i
    · subst e; rw [pk_uLs, if_pos (by omega), show 40 * j + i - 40 * j = i by omega]; rfl
    · rw [pk_uLn e, hf]
      by_cases d : 40 * j ≤ y ∧ y < 40 * j + i
      · rw [if_pos d, if_pos (by omega)]
      · rw [if_neg d, if_neg (by omega)]
theorem m_na (hj : j ≤ 3) {t : Nat} (h : RelM m A yr) (hI : Inv A) (ht : t < A 7 0) (hb : ¬ bo j = 0) {Q : Int32 → Prop} (hQ : Q 0) : wp_X10_notAsked m bo (nI j) (nI t) Q :=
  m_nt hj (fun q => absurd q hb) (fun _ => br_t rfl (mt_t h hI ht (br_f (by decide) hQ)))
theorem m_na_miss (hj : j ≤ 3) (hb : bo j = 0) {a2 : Int32} {Q : Int32 → Prop} (hQ : Q (-1000000006)) : wp_X10_notAsked m bo (nI j) a2 Q :=
  m_nt hj (fun _ => br_f (by decide) hQ) (fun q => absurd hb q)
theorem m_na_bad (hj : j ≤ 3) {v : Int32} (h : RelM m A yr) (hn : ¬ (0 ≤ v ∧ v ≤ nI (A 7 0) - 1)) (hb : ¬ bo j = 0) {Q : Int32 → Prop} (hQ : Q (-1000000001)) : wp_X10_notAsked m bo (nI j) v Q :=
  m_nt hj (fun q => absurd q hb) (fun _ => br_t rfl (mt_f h hn (br_t rfl hQ)))
theorem m_na_out {v a2 : Int32} (h : ¬ (0 ≤ v ∧ v ≤ nI 3)) {Q : Int32 → Prop} (hQ : Q (-1000000001)) : wp_X10_notAsked m bo v a2 Q :=
  m_ntf h (br_f (by decide) hQ)
theorem sim_book (h1 : R1 sk ze ma ki dn wi du yr sz m) (h2 : R2 fd fo) (hj3 : j ≤ 3) (h5 : R5 j nu bi le bo so ce) (tsk tze tma tki tdn twi tdu the : Nat → Int32) (tyr tsz : Int32) (wa : Nat → Int32) (a1 a2 : Int32) (hj : vp_in a1 4 → a1.toNatClampNeg = j) {K : Int32 → Int32 → (Nat → Int32) → (Nat → Int32) → (Nat → Int32) → (Nat → Int32) → (Nat → Int32) → (Nat → Int32) → (Nat → Int32) → (Nat → Int32) → (Nat → Int32) → Int32 → Int32 → (Nat → Int64) → (Nat → Int32) → (Nat → Int32) → (Nat → Int32) → (Nat → Int64) → Prop} (hK : ∀ r fd' t0 t1 t2 t3 t4 t5 t6 t7 t8 t9 nu' m' wa' fo' ce', R1 sk ze ma ki dn wi du yr sz m' → R2 fd' fo' → R5 j nu' bi le bo so ce' → FS j bo so ce bo so ce' → K r r fd' t0 t1 t2 t3 t4 t5 t6 t7 t8 t9 nu' m' wa' fo' ce') : wp_X9_book fd tsk tze tma tki tdn twi tdu the tyr tsz sk ze ma ki dn wi du yr sz nu bi le a1 a2 (fun r c0 c1 c2 c3 c4 c5 c6 c7 c8 c9 c10 c11 => wp_X10_book m wa fo bo so ce a1 a2 (fun r' d0 d1 d2 d3 => K r r' c0 c1 c2 c3 c4 c5 c6 c7 c8 c9 c10 c11 d0 d1 d2 d3)) := by
  obtain ⟨A, hC, hM, hI⟩ := id h1
  have hsz := hC.2.2.2.2.2.2.2
  subst hsz
  have h8 := hI.1
  obtain ⟨e1, e2, ⟨n, hn, e3⟩, e4⟩ := id h5
  subst e3
  rcases rg a1 3 (by decide) with ⟨i, hi, ei⟩ | hx
  · have := hj_eq hj hi ei
    subst this
    subst ei
    have vj : vp_in (nI i) 4 := vp_in_nI (by omega) (by decide)
    refine cs_t hi (br_f (by decide) ⟨vj, fun z => br_f (by decide) (c_fnd 5 (by decide) bf5 ?_), fun z => br_t rfl ?_⟩)
    · exact m_na_miss hi (e1.trans z) (br_f (by decide) (m_fnd 5 (by decide) bf5 (hK _ _ _ _ _ _ _ _ _ _ _ _ _ _ _ _ _ h1 (R2_up h2 (by decide)) h5 (FS.r _ _ _ _))))
    · rcases rg_t a2 h8 with ⟨t, ht, rfl⟩ | hx
      · have ht8 : t < 8 := by omega
        refine ct_t ht h8 (br_f (by decide) (c_become hC (fun c0 c1 c2 c3 c4 c5 c6 hC1 => ⟨n + 1, c_book_l (A := A) hn ht8 hI n 0 c1 c2 c4 c5 c6 the yr nu hC1 (by omega) (fun y => by rw [if_neg (by omega)]) (fun x t0 t1 t2 t3 t4 t5 t6 f' hf' => ?_)⟩)))
        refine m_na hi hM hI ht (fun q => z (e1.symm.trans q)) (br_t rfl (m_thinks hM (fun wa' hW => ⟨n + 1, m_book_l (A := A) hn ht8 hi e2 hI n 0 m yr ce hM (by omega) (fun y => by rw [if_neg (by omega)]) (fun x m' g hg => m_putsBack hW (fun m2 hM2 => ⟨vj, ?_⟩))⟩)))
        rw [nI_clamp (by omega), e2]
        refine hK _ _ _ _ _ _ _ _ _ _ _ _ _ _ _ _ _ ⟨A, hC, hM2, hI⟩ h2 ⟨e1, e2, ⟨n, hn, rfl⟩, fun y hy => ?_⟩ (fun k hk hne => ⟨rfl, rfl, fun y hy => ?_⟩)
        · rw [hg, hf', e1]
          by_cases d : y < n
          · rw [if_pos d, if_pos (by omega), show 40 * i + y - 40 * i = y by omega]
          · rw [if_neg d, if_neg (by omega)]; exact e4 y hy
        · rw [hg, if_neg (by omega)]
      · exact ct_f hx (br_t rfl (c_fnd 0 (by decide) bf0 (m_na_bad hi hM hx (fun q => z (e1.symm.trans q)) (br_f (by decide) (m_fnd 0 (by decide) bf0 (hK _ _ _ _ _ _ _ _ _ _ _ _ _ _ _ _ _ h1 (R2_up h2 (by decide)) h5 (FS.r _ _ _ _)))))))
  · exact cs_f hx (br_t rfl (c_fnd 0 (by decide) bf0 (m_na_out hx (br_f (by decide) (m_fnd 0 (by decide) bf0 (hK _ _ _ _ _ _ _ _ _ _ _ _ _ _ _ _ _ h1 (R2_up h2 (by decide)) h5 (FS.r _ _ _ _)))))))
end S10
