section S9
variable {fd fo sk ze ma ki dn wi du m wa : Nat → Int32} {yr sz : Int32} {A : AS}
variable {bo so : Nat → Int32} {ce nu : Nat → Int64} {bi le : Int32} {j : Nat}
theorem rg_m (v : Int32) {n : Nat} (hn : n ≤ 1000) : (∃ j, j < n ∧ v = nI j) ∨ ¬ (0 ≤ v ∧ v ≤ nI n - 1) := by
  cases n with
  | zero =>
    refine Or.inr (fun z => ?_)
    have := Int32.le_trans z.1 z.2
    exact absurd this (by decide)
  | succ n =>
    rw [nI_pred]
    rcases rg v n (by omega) with ⟨j, hj, e⟩ | h
    · exact Or.inl ⟨j, by omega, e⟩
    · exact Or.inr h
theorem wm_t {i n : Nat} {Q : Int32 → Prop} (h : i < n) (hn : n ≤ 1000) (hQ : Q 1) : wp_X9_isWithin (nI i) 0 (nI n - 1) Q := by
  obtain ⟨k, rfl⟩ : ∃ k, n = k + 1 := ⟨n - 1, by omega⟩
  rw [nI_pred]
  exact wn_t (by omega) (by omega) hQ
theorem inm_t {i n : Nat} {Q : Int32 → Prop} (h : i < n) (hn : n ≤ 1000) (hQ : Q 1) : wp_X10_in (nI i).toInt64 0 (nI n - 1) Q := by
  obtain ⟨k, rfl⟩ : ∃ k, n = k + 1 := ⟨n - 1, by omega⟩
  rw [nI_pred]
  exact inn_t (by omega) (by omega) hQ
theorem m_nt {j : Nat} (hj : j ≤ 3) {Q : Int32 → Prop} (h0 : bo j = 0 → Q (-1000000006)) (h1 : ¬ bo j = 0 → Q 0) : wp_X10_notThere bo (nI j) Q := by
  refine ms_t hj (br_f (by decide) ⟨vp_in_nI (by omega) (by decide), ?_⟩)
  rw [nI_clamp (by omega)]
  exact ⟨h0, h1⟩
theorem m_ntf {v : Int32} (h : ¬ (0 ≤ v ∧ v ≤ nI 3)) {Q : Int32 → Prop} (hQ : Q (-1000000001)) : wp_X10_notThere bo v Q := ms_f h (br_t rfl hQ)
def cutV (b : Int32) (v : Int64) : Int64 := if b = 8 then ((v.toInt32).toInt8.toInt32).toInt64 else if b = 16 then ((v.toInt32).toInt16.toInt32).toInt64 else v
theorem c_put {i : Nat} (hi : i < 40) {v : Int64} {Q : (Nat → Int64) → Prop} (hQ : Q (vp_updL nu i (cutV bi v))) : wp_X7_put nu bi (nI i) v Q := by
  have vi : vp_in (nI i) 40 := vp_in_nI hi (by decide)
  unfold wp_X7_put
  rw [nI_clamp (by omega)]
  unfold cutV at hQ
  refine ⟨fun c => ⟨vi, ?_⟩, fun c => ⟨fun c2 => ⟨vi, ?_⟩, fun c2 => ⟨vi, ?_⟩⟩⟩
  · rw [if_pos c] at hQ; exact hQ
  · rw [if_neg c, if_pos c2] at hQ; exact hQ
  · rw [if_neg c, if_neg c2] at hQ; exact hQ
theorem m_cut {b : Int32} {v : Int64} {Q : Int64 → Prop} (hQ : Q (cutV b v)) : wp_X10_cutTo b v Q := by
  unfold cutV at hQ
  refine ⟨fun c => ?_, fun c => ⟨fun c2 => ?_, fun c2 => ?_⟩⟩
  · rw [if_pos c] at hQ; exact hQ
  · rw [if_neg c, if_pos c2] at hQ; exact hQ
  · rw [if_neg c, if_neg c2] at hQ; exact hQ
theorem R5_up (h5 : R5 j nu bi le bo so ce) {i : Nat} (hi : i < 40) (v : Int64) : R5 j (vp_updL nu i v) bi le bo so (vp_updL ce (40 * j + i) v) := by
  refine ⟨h5.1, h5.2.1, h5.2.2.1, fun x hx => ?_⟩
  by_cases e : x = i
  · subst e; rw [pk_uLs, pk_uLs]
  · rw [pk_uLn e, pk_uLn (by omega)]; exact h5.2.2.2 x hx
theorem FS_up (hj : j ≤ 3) {i : Nat} (hi : i < 40) (v : Int64) : FS j bo so ce bo so (vp_updL ce (40 * j + i) v) :=
  fun k hk hne => ⟨rfl, rfl, fun x hx => pk_uLn (by omega)⟩
theorem sim_write (h2 : R2 fd fo) (hj3 : j ≤ 3) (h5 : R5 j nu bi le bo so ce) (a1 a2 : Int32) (a3 : Int64) (hj : vp_in a1 4 → a1.toNatClampNeg = j) {K : Int64 → Int64 → (Nat → Int32) → (Nat → Int64) → (Nat → Int32) → (Nat → Int64) → Prop} (hK : ∀ r fd' nu' fo' ce', R2 fd' fo' → R5 j nu' bi le bo so ce' → FS j bo so ce bo so ce' → K r r fd' nu' fo' ce') : wp_X9_write fd nu bi le a1 a2 a3 (fun r c0 c1 => wp_X10_write fo bo so ce a1 a2 a3 (fun r' d0 d1 => K r r' c0 c1 d0 d1)) := by
  have hby : ∀ i, i < 7 → ∀ f : Int32, K f.toInt64 f.toInt64 (upd fd i (fd i + 1)) nu (upd fo i (fo i + 1)) ce := fun i hi f => hK _ _ _ _ _ (R2_up h2 hi) h5 (FS.r _ _ _ _)
  obtain ⟨e1, e2, ⟨n, hn, e3⟩, e4⟩ := id h5
  subst e3
  rcases rg a1 3 (by decide) with ⟨i, hi, e⟩ | hn
  · have := hj_eq hj hi e
    subst this
    subst e
    have vj : vp_in (nI i) 4 := vp_in_nI (by omega) (by decide)
    refine cs_t hi (br_f (by decide) ⟨vj, fun c => br_f (by decide) (c_fnd 5 (by decide) bf5 ?_), fun c => br_t rfl ?_⟩)
    · exact m_nt hi (fun _ => br_f (by decide) (br_f (by decide) (m_fnd 5 (by decide) bf5 (hby 5 (by decide) _)))) (fun z => absurd (e1.trans c) z)
    · have mm : ∀ {Q : Int64 → (Nat → Int32) → (Nat → Int64) → Prop}, wp_X10_in a2.toInt64 0 (nI n - 1) (fun r8 => (r8 = 0 → wp_X10_finds fo (-1000000001) (fun r14 c14 => Q (r14.toInt64) c14 ce)) ∧ (¬ (r8 = 0) → vp_in ((40 * nI i) + a2) 160 ∧ (vp_in (nI i) 4 ∧ (wp_X10_cutTo bi a3 (fun r11 => vp_in ((40 * nI i) + a2) 160 ∧ (Q (ce (((40 * nI i) + a2).toNatClampNeg)) fo (vp_updL ce (((40 * nI i) + a2).toNatClampNeg) r11))))))) → wp_X10_write fo bo so ce (nI i) a2 a3 Q := by
        intro Q hq
        refine m_nt hi (fun z => absurd (e1.symm.trans z) c) (fun _ => br_t rfl ⟨vj, ?_⟩)
        rw [nI_clamp (by omega), e2, e1]
        have w : ∀ {lo hi : Int32} {P Q : Int32 → Prop}, (∀ r, P r → Q r) → wp_X10_in a2.toInt64 lo hi P → wp_X10_in a2.toInt64 lo hi Q := fun hm h => ⟨fun a => hm _ (h.1 a), fun a => ⟨fun b => hm _ ((h.2 a).1 b), fun b => hm _ ((h.2 a).2 b)⟩⟩
        exact w (fun r h => ⟨h.1, fun z => br_t rfl (h.2 z)⟩) hq
      rcases rg_m a2 (n := n) (by omega) with ⟨x, hx, rfl⟩ | hx
      · refine wm_t hx (by omega) (br_f (by decide) ⟨vp_in_nI (by omega) (by decide), c_put (by omega) (mm (inm_t hx (by omega) (br_f (by decide) ?_)))⟩)
        rw [ix_s, nI_clamp (n := 40 * i + x) (by omega), nI_clamp (n := x) (by omega), ← e4 x (by omega)]
        exact ⟨vp_in_nI (by omega) (by decide), vj, m_cut ⟨vp_in_nI (by omega) (by decide), hK _ _ _ _ _ h2 (R5_up h5 (by omega) _) (FS_up hi (by omega) _)⟩⟩
      · exact w_f hx (br_t rfl (c_fnd 0 (by decide) bf0 (mm (in_f hx (br_t rfl (m_fnd 0 (by decide) bf0 (hby 0 (by decide) _)))))))
  · exact cs_f hn (br_t rfl (c_fnd 0 (by decide) bf0 (m_ntf hn (br_f (by decide) (br_f (by decide) (m_fnd 0 (by decide) bf0 (hby 0 (by decide) _)))))))
/-! ===== copy ===== -/
theorem nn {v : Int32} (h : ¬ v < 0) : ∃ k, k < 2 ^ 31 ∧ v = nI k := by
  have h1 : v ≤ nI (2 ^ 31 - 1) := by
    rw [Int32.le_iff_toInt_le, nI_toInt (by decide)]
    have := Int32.toInt_lt v
    omega
  rcases rg v (2 ^ 31 - 1) (by decide) with ⟨k, hk, e⟩ | hn
  · exact ⟨k, by omega, e⟩
  · exact absurd ⟨Int32.not_lt.mp h, h1⟩ hn
def spn (n : Nat) (f c : Int32) : Prop := ∃ a b, f = nI a ∧ c = nI b ∧ a + b ≤ n
theorem c_span {n : Nat} (hn : n ≤ 40) {f c : Int32} {Q : Int32 → Prop} (h1 : spn n f c → Q 1) (h0 : ¬ spn n f c → Q 0) : wp_X7_hasSpan (nI n) f c Q := by
  have inj : ∀ {a b : Nat}, a < 2 ^ 31 → b ≤ 40 → nI a = nI b → a = b := fun ha hb e => (cq ha (by omega)).mp e
  refine ⟨fun z => h0 ?_, fun z => ⟨fun z2 => h0 ?_, fun z2 => ?_⟩⟩
  · rintro ⟨a, b, rfl, rfl, h⟩
    exact absurd z (Int32.not_lt.mpr (nI_pos' (by omega)))
  · rintro ⟨a, b, rfl, rfl, h⟩
    exact absurd z2 (Int32.not_lt.mpr (nI_pos' (by omega)))
  · obtain ⟨a, ha, rfl⟩ := nn z
    obtain ⟨b, hb, rfl⟩ := nn z2
    have sp : spn n (nI a) (nI b) ↔ a + b ≤ n := by
      constructor
      · rintro ⟨a', b', e1, e2, h⟩
        have := inj ha (by omega) e1
        have := inj hb (by omega) e2
        omega
      · intro h; exact ⟨a, b, rfl, rfl, h⟩
    refine ek_if (clt (by omega) hb) (fun q => h0 (fun s => by have := sp.mp s; omega)) (fun q => ?_)
    rw [nsub (by omega)]
    exact ek_if (clt (by omega) ha) (fun q2 => h0 (fun s => by have := sp.mp s; omega)) (fun q2 => h1 (sp.mpr (by omega)))
theorem m_sub {n : Nat} (hn : n ≤ 40) {a b : Nat} (ha : a < 2 ^ 31) (hb : b < 2 ^ 31) : nI n - nI a < nI b ↔ n < a + b := by
  by_cases c : a ≤ n
  · rw [nsub c, clt (by omega) hb]; omega
  · have h1 : (nI n - nI a).toInt = (n : Int) - a := by
      rw [Int32.toInt_sub, nI_toInt (by omega), nI_toInt ha]
      exact Int.bmod_eq_of_le (by omega) (by omega)
    rw [Int32.lt_iff_toInt_lt, h1, nI_toInt hb]
    omega
theorem m_cpy_l {S D N : Nat} {x1 x2 x3 x4 : Int32} (hS : S + N ≤ 160) (hD : D + N ≤ 160) (e1 : (40 * x1) + x2 = nI S) (e2 : (40 * x3) + x4 = nI D) (ca : x4 ≤ x2 → D ≤ S ∨ S + N ≤ D) (cd : ¬ x4 ≤ x2 → S ≤ D ∨ D + N ≤ S) {K : Int32 → (Nat → Int64) → Prop} : ∀ r i (f : Nat → Int64), i + r = N → (x4 ≤ x2 → ∀ y, f y = if D ≤ y ∧ y < D + i then ce (S + (y - D)) else ce y) → (¬ x4 ≤ x2 → ∀ y, f y = if D + (N - i) ≤ y ∧ y < D + N then ce (S + (y - D)) else ce y) → (∀ g, (∀ y, g y = if D ≤ y ∧ y < D + N then ce (S + (y - D)) else ce y) → K (nI N) g) → wpl_X10_copy_28 x1 x2 x3 x4 (nI N) K (r + 1) (nI i) f := by
  intro r
  induction r with
  | zero =>
    intro i f hi hf hf2 hK
    rw [wpl_X10_copy_28, show i = N by omega]
    refine br_t (Int32.le_refl _) (hK f (fun y => ?_))
    by_cases c : x4 ≤ x2
    · rw [hf c y, show i = N by omega]
    · rw [hf2 c y, show D + (N - i) = D by omega]
  | succ r ih =>
    intro i f hi hf hf2 hK
    rw [wpl_X10_copy_28, e1, e2, nI_1, nadd, nadd]
    refine br_f (fun z => absurd ((cle (by omega) (by omega)).mp z) (by omega)) ⟨fun c => ?_, fun c => ?_⟩
    · rw [nI_clamp (by omega), nI_clamp (by omega)]
      refine ⟨vp_in_nI (by omega) (by decide), vp_in_nI (by omega) (by decide), ih (i + 1) _ (by omega) (fun _ y => ?_) (fun z => absurd c z) hK⟩
      have hr : f (S + i) = ce (S + i) := by
        rw [hf c]; exact if_neg (by have := ca c; omega)
      by_cases e : y = D + i
      · subst e
        rw [pk_uLs, hr, if_pos (by omega)]
        congr 1; omega
      · rw [pk_uLn e, hf c y]
        by_cases d : D ≤ y ∧ y < D + i
        · rw [if_pos d, if_pos (by omega)]
        · rw [if_neg d, if_neg (by omega)]
    · rw [show (nI N - 1 : Int32) - nI i = nI (N - 1 - i) from by
        rw [show (1 : Int32) = nI 1 from rfl, nsub (by omega), nsub (by omega)], nadd, nadd, nI_clamp (by omega), nI_clamp (by omega)]
      refine ⟨vp_in_nI (by omega) (by decide), vp_in_nI (by omega) (by decide), ih (i + 1) _ (by omega) (fun z => absurd z c) (fun _ y => ?_) hK⟩
      have hr : f (S + (N - 1 - i)) = ce (S + (N - 1 - i)) := by
        rw [hf2 c]; exact if_neg (by have := cd c; omega)
      by_cases e : y = D + (N - 1 - i)
      · subst e
        rw [pk_uLs, hr, if_pos (by omega)]
        congr 1; omega
      · rw [pk_uLn e, hf2 c y]
        by_cases d : D + (N - i) ≤ y ∧ y < D + N
        · rw [if_pos d, if_pos (by omega)]
        · rw [if_neg d, if_neg (by omega)]
section C
variable {qnu : Nat → Int64} {qbi qle : Int32} {j2 : Nat}
theorem m_copy_in (hj : j ≤ 3) (hj2 : j2 ≤ 3) (h5 : R5 j nu bi le bo so ce) (h6 : R5 j2 qnu qbi qle bo so ce) {n n2 a b c : Nat} (e : le = nI n) (e2 : qle = nI n2) (hn : n ≤ 40) (hn2 : n2 ≤ 40) (h0 : ¬ bi = 0) (h02 : ¬ qbi = 0) (hb : bi = qbi) (hs : a + c ≤ n) (hd : b + c ≤ n2) {Q : Int32 → (Nat → Int32) → (Nat → Int64) → Prop} (hQ : ∀ g, (∀ y, g y = if 40 * j2 + b ≤ y ∧ y < 40 * j2 + b + c then ce (40 * j + a + (y - (40 * j2 + b))) else ce y) → Q (nI c) fo g) : wp_X10_copy fo bo so ce (nI j) (nI a) (nI j2) (nI b) (nI c) Q := by
  have v1 : vp_in (nI j) 4 := vp_in_nI (by omega) (by decide)
  have v2 : vp_in (nI j2) 4 := vp_in_nI (by omega) (by decide)
  subst e e2
  unfold wp_X10_copy wp_X10_notCopied
  rw [nI_clamp (n := j) (by omega), nI_clamp (n := j2) (by omega), h5.1, h6.1, h5.2.1, h6.2.1]
  refine ms_t hj (br_f (by decide) (ms_t hj2 (br_f (by decide) ⟨v1, br_f h0 ⟨v2, br_f h02 ⟨v1, v2, br_t hb (br_f (Int32.not_lt.mpr (nI_pos' (by omega))) (br_f (Int32.not_lt.mpr (nI_pos' (by omega))) (br_f (Int32.not_lt.mpr (nI_pos' (by omega))) ⟨v1, br_f (fun z => absurd ((m_sub hn (by omega) (by omega)).mp z) (by omega)) ⟨v2, br_f (fun z => absurd ((m_sub hn2 (by omega) (by omega)).mp z) (by omega)) (br_t rfl ⟨c + 1, ?_⟩)⟩⟩)))⟩⟩⟩)))
  refine m_cpy_l (S := 40 * j + a) (D := 40 * j2 + b) (N := c) (by omega) (by omega) (ix_s j a) (ix_s j2 b) (fun z => ?_) (fun z => ?_) c 0 ce (by omega) (fun _ y => by rw [if_neg (by omega)]) (fun _ y => by rw [if_neg (by omega)]) hQ
  · rw [cle (by omega) (by omega)] at z
    by_cases q : j2 = j
    · subst q; omega
    · omega
  · rw [cle (by omega) (by omega)] at z
    by_cases q : j2 = j
    · subst q; omega
    · omega
theorem m_copy_bad (hj : j ≤ 3) (hj2 : j2 ≤ 3) (h5 : R5 j nu bi le bo so ce) (h6 : R5 j2 qnu qbi qle bo so ce) {n n2 : Nat} (e : le = nI n) (e2 : qle = nI n2) (hn : n ≤ 40) (hn2 : n2 ≤ 40) {a2 a4 a5 : Int32} {Q : Int32 → (Nat → Int32) → (Nat → Int64) → Prop} (c1 : bi = 0 ∨ qbi = 0 → wp_X10_finds fo (-1000000006) (fun r c => Q r c ce)) (c2 : ¬ bi = 0 → ¬ qbi = 0 → ¬ bi = qbi → wp_X10_finds fo (-1000000003) (fun r c => Q r c ce)) (c3 : ¬ bi = 0 → ¬ qbi = 0 → bi = qbi → ¬ (spn n a2 a5 ∧ spn n2 a4 a5) ∧ wp_X10_finds fo (-1000000001) (fun r c => Q r c ce)) : wp_X10_copy fo bo so ce (nI j) a2 (nI j2) a4 a5 Q := by
  have v1 : vp_in (nI j) 4 := vp_in_nI (by omega) (by decide)
  have v2 : vp_in (nI j2) 4 := vp_in_nI (by omega) (by decide)
  subst e e2
  unfold wp_X10_copy wp_X10_notCopied
  rw [nI_clamp (n := j) (by omega), nI_clamp (n := j2) (by omega), h5.1, h6.1, h5.2.1, h6.2.1]
  refine ms_t hj (br_f (by decide) (ms_t hj2 (br_f (by decide) ⟨v1, fun z => br_f (by decide) (c1 (Or.inl z)), fun z => ⟨v2, fun z2 => br_f (by decide) (c1 (Or.inr z2)), fun z2 => ⟨v1, v2, fun z3 => ?_, fun z3 => br_f (by decide) (c2 z z2 z3)⟩⟩⟩)))
  obtain ⟨hb, hf⟩ := c3 z z2 z3
  refine ⟨fun _ => br_f (by decide) hf, fun q5 => ⟨fun _ => br_f (by decide) hf, fun q2 => ⟨fun _ => br_f (by decide) hf, fun q4 => ⟨v1, fun _ => br_f (by decide) hf, fun q => ⟨v2, fun _ => br_f (by decide) hf, fun q' => ?_⟩⟩⟩⟩⟩
  exfalso
  obtain ⟨a, ha, rfl⟩ := nn q2
  obtain ⟨b, hb', rfl⟩ := nn q4
  obtain ⟨c, hc, rfl⟩ := nn q5
  rw [m_sub hn ha hc] at q
  rw [m_sub hn2 hb' hc] at q'
  exact hb ⟨⟨a, c, rfl, rfl, by omega⟩, ⟨b, c, rfl, rfl, by omega⟩⟩
theorem m_copy_out {a1 a2 a3 a4 a5 : Int32} (h : ¬ (0 ≤ a1 ∧ a1 ≤ nI 3) ∨ ¬ (0 ≤ a3 ∧ a3 ≤ nI 3)) {Q : Int32 → (Nat → Int32) → (Nat → Int64) → Prop} (hq : wp_X10_finds fo (-1000000001) (fun r c => Q r c ce)) : wp_X10_copy fo bo so ce a1 a2 a3 a4 a5 Q := by
  unfold wp_X10_copy wp_X10_notCopied
  rcases rg a1 3 (by decide) with ⟨i, hi, rfl⟩ | hn
  · rcases h with h | h
    · exact absurd (n_in hi (by decide)) h
    · exact ms_t hi (br_f (by decide) (ms_f h (br_t rfl (br_f (by decide) hq))))
  · exact ms_f hn (br_t rfl (br_f (by decide) hq))
theorem R5_cp (h5 : R5 j nu bi le bo so ce) (h6 : R5 j2 qnu qbi qle bo so ce) (hj : j ≤ 3) {a b c : Nat} (ha : a + c ≤ 40) (hb : b + c ≤ 40) {g : Nat → Int64} (hg : ∀ y, g y = if 40 * j2 + b ≤ y ∧ y < 40 * j2 + b + c then ce (40 * j + a + (y - (40 * j2 + b))) else ce y) : R5 j2 (va_cpy nu qnu a b c) qbi qle bo so g ∧ FS j2 bo so ce bo so g := by
  refine ⟨⟨h6.1, h6.2.1, h6.2.2.1, fun x hx => ?_⟩, fun k hk hne => ⟨rfl, rfl, fun x hx => ?_⟩⟩
  · rw [hg]
    unfold va_cpy
    by_cases d : b ≤ x ∧ x < b + c
    · rw [if_pos d, if_pos (by omega), ← h5.2.2.2 _ (by omega)]
      congr 1; omega
    · rw [if_neg d, if_neg (by omega)]; exact h6.2.2.2 x hx
  · rw [hg, if_neg (by omega)]
theorem sim_copyN (h2 : R2 fd fo) (hj3 : j ≤ 3) (hj23 : j2 ≤ 3) (h5 : R5 j nu bi le bo so ce) (h6 : R5 j2 qnu qbi qle bo so ce) (a1 a2 a3 a4 a5 : Int32) (hj : vp_in a1 4 → a1.toNatClampNeg = j) (hj2 : vp_in a3 4 → a3.toNatClampNeg = j2) {K : Int32 → Int32 → (Nat → Int32) → (Nat → Int64) → (Nat → Int32) → (Nat → Int64) → Prop} (hK : ∀ r fd' nu' fo' ce', R2 fd' fo' → R5 j2 nu' qbi qle bo so ce' → FS j2 bo so ce bo so ce' → K r r fd' nu' fo' ce') : wp_X9_copyN fd nu bi le qnu qbi qle a1 a2 a3 a4 a5 (fun r c0 c1 => wp_X10_copy fo bo so ce a1 a2 a3 a4 a5 (fun r' d0 d1 => K r r' c0 c1 d0 d1)) := by
  have hby : ∀ i, i < 7 → ∀ f : Int32, K f f (upd fd i (fd i + 1)) qnu (upd fo i (fo i + 1)) ce := fun i hi f => hK _ _ _ _ _ (R2_up h2 hi) h6 (FS.r _ _ _ _)
  obtain ⟨n, hn, e⟩ := h5.2.2.1
  obtain ⟨n2, hn2, e2⟩ := h6.2.2.1
  rcases rg a1 3 (by decide) with ⟨i, hi, ei⟩ | hx
  · have := hj_eq hj hi ei
    subst this
    subst ei
    refine cs_t hi (br_f (by decide) ?_)
    rcases rg a3 3 (by decide) with ⟨i2, hi2, ei2⟩ | hx
    · have := hj_eq hj2 hi2 ei2
      subst this
      subst ei2
      have v1 : vp_in (nI i) 4 := vp_in_nI (by omega) (by decide)
      have v2 : vp_in (nI i2) 4 := vp_in_nI (by omega) (by decide)
      refine cs_t hi2 (br_f (by decide) ⟨v1, v2, fun z => br_f (by decide) (c_fnd 5 (by decide) bf5 (m_copy_bad hi hi2 h5 h6 e e2 hn hn2 (fun _ => m_fnd 5 (by decide) bf5 (hby 5 (by decide) _)) (fun q => absurd z q) (fun q => absurd z q))), fun z => br_t rfl ⟨fun z2 => br_f (by decide) (c_fnd 5 (by decide) bf5 (m_copy_bad hi hi2 h5 h6 e e2 hn hn2 (fun _ => m_fnd 5 (by decide) bf5 (hby 5 (by decide) _)) (fun _ q => absurd z2 q) (fun _ q => absurd z2 q))), fun z2 => br_t rfl ⟨fun z3 => ?_, fun z3 => c_fnd 2 (by decide) bf2 (m_copy_bad hi hi2 h5 h6 e e2 hn hn2 (fun q => q.elim (fun q => absurd q z) (fun q => absurd q z2)) (fun _ _ _ => m_fnd 2 (by decide) bf2 (hby 2 (by decide) _)) (fun _ _ q => absurd q z3))⟩⟩⟩)
      have bad : ¬ (spn n a2 a5 ∧ spn n2 a4 a5) → wp_X9_found fd (-1000000001) (fun r c0 => wp_X10_copy fo bo so ce (nI i) a2 (nI i2) a4 a5 (fun r' d0 d1 => K r r' c0 qnu d0 d1)) := fun q => c_fnd 0 (by decide) bf0 (m_copy_bad hi hi2 h5 h6 e e2 hn hn2 (fun q => q.elim (fun q => absurd q z) (fun q => absurd q z2)) (fun _ _ q => absurd z3 q) (fun _ _ _ => ⟨q, m_fnd 0 (by decide) bf0 (hby 0 (by decide) _)⟩))
      rw [e, e2]
      refine c_span hn (fun s1 => br_f (by decide) (c_span hn2 (fun s2 => br_f (by decide) ?_) (fun s2 => br_t rfl (bad (fun q => s2 q.2))))) (fun s1 => br_t rfl (bad (fun q => s1 q.1)))
      obtain ⟨a, c, rfl, rfl, hs⟩ := s1
      obtain ⟨b, c', rfl, ec, hd⟩ := s2
      have : c = c' := (cq (by omega) (by omega)).mp ec
      subst this
      rw [nI_clamp (n := a) (by omega), nI_clamp (n := b) (by omega), nI_clamp (n := c) (by omega)]
      refine ⟨⟨Int32.not_lt.mpr (nI_pos' (by omega)), Int32.not_lt.mpr (nI_pos' (by omega)), Int32.not_lt.mpr (nI_pos' (by omega)), by omega, by omega⟩, m_copy_in hi hi2 h5 h6 e e2 hn hn2 z z2 z3 hs hd (fun g hg => ?_)⟩
      have := R5_cp h5 h6 hi (a := a) (b := b) (c := c) (by omega) (by omega) hg
      rw [e2] at this
      exact hK _ _ _ _ _ h2 (by rw [e2]; exact this.1) this.2
    · exact cs_f hx (br_t rfl (c_fnd 0 (by decide) bf0 (m_copy_out (Or.inr hx) (m_fnd 0 (by decide) bf0 (hby 0 (by decide) _)))))
  · exact cs_f hx (br_t rfl (c_fnd 0 (by decide) bf0 (m_copy_out (Or.inl hx) (m_fnd 0 (by decide) bf0 (hby 0 (by decide) _)))))
end C
theorem sim_copyE (h2 : R2 fd fo) (hj3 : j ≤ 3) (h5 : R5 j nu bi le bo so ce) (a1 a2 a3 a4 a5 : Int32) (hj : vp_in a1 4 → a1.toNatClampNeg = j) (hj2 : vp_in a3 4 → a3.toNatClampNeg = j) {K : Int32 → Int32 → (Nat → Int32) → (Nat → Int64) → (Nat → Int32) → (Nat → Int64) → Prop} (hK : ∀ r fd' nu' fo' ce', R2 fd' fo' → R5 j nu' bi le bo so ce' → FS j bo so ce bo so ce' → K r r fd' nu' fo' ce') : wp_X9_copyE fd nu bi le a1 a2 a3 a4 a5 (fun r c0 c1 => wp_X10_copy fo bo so ce a1 a2 a3 a4 a5 (fun r' d0 d1 => K r r' c0 c1 d0 d1)) :=
  sim_copyN (qnu := nu) (qbi := bi) (qle := le) h2 hj3 hj3 h5 h5 a1 a2 a3 a4 a5 hj hj2 hK
end S9
