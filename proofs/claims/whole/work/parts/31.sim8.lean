/-! ===== the image kept, the sheets ===== -/
def R3 (ksk kze kma kki kdn kwi kdu : Nat → Int32) (kyr ksz ik : Int32) (kp : Nat → Int32) (ik' : Int32) : Prop := ik = ik' ∧ (ik = 0 ∨ ik = 1) ∧ (ik = 1 → R1 ksk kze kma kki kdn kwi kdu kyr ksz kp)
def R5 (j : Nat) (nu : Nat → Int64) (bi le : Int32) (bo so : Nat → Int32) (ce : Nat → Int64) : Prop := bo j = bi ∧ so j = le ∧ (∃ n, n ≤ 40 ∧ le = nI n) ∧ ∀ i, i < 40 → ce (40 * j + i) = nu i
def FS (j : Nat) (bo so : Nat → Int32) (ce : Nat → Int64) (bo' so' : Nat → Int32) (ce' : Nat → Int64) : Prop := ∀ i, i ≤ 3 → i ≠ j → bo' i = bo i ∧ so' i = so i ∧ ∀ x, x < 40 → ce' (40 * i + x) = ce (40 * i + x)
theorem FS.r (j : Nat) (bo so : Nat → Int32) (ce : Nat → Int64) : FS j bo so ce bo so ce := fun _ _ _ => ⟨rfl, rfl, fun _ _ => rfl⟩
theorem FS.s {j : Nat} {bo so bo' so' : Nat → Int32} {ce ce' : Nat → Int64} (h : FS j bo so ce bo' so' ce') {i : Nat} (hi : i ≤ 3) (hn : i ≠ j) {nu : Nat → Int64} {bi le : Int32} (h5 : R5 i nu bi le bo so ce) : R5 i nu bi le bo' so' ce' := by
  obtain ⟨a, b, c⟩ := h i hi hn
  exact ⟨a.trans h5.1, b.trans h5.2.1, h5.2.2.1, fun x hx => (c x hx).trans (h5.2.2.2 x hx)⟩
theorem lg_0 (x y : Int64) : lg_cmp x y = 0 ↔ x = y := by
  unfold lg_cmp
  by_cases h1 : y < x
  · simp only [h1, if_true]
    exact ⟨fun z => absurd z (by decide), fun z => by subst z; exact (Int64.lt_irrefl h1).elim⟩
  · by_cases h2 : x = y
    · subst h2; simp [h1]
    · simp only [h1, h2, if_false]
      exact ⟨fun z => absurd z (by decide), fun z => z.elim⟩
section S8
variable {fd fo sk ze ma ki dn wi du m wa : Nat → Int32} {yr sz : Int32} {A : AS} {ksk kze kma kki kdn kwi kdu kp : Nat → Int32} {kyr ksz ik ik' : Int32}
theorem sim_image (h1 : R1 sk ze ma ki dn wi du yr sz m) {K : Int32 → Int32 → Int32 → (Nat → Int32) → (Nat → Int32) → (Nat → Int32) → (Nat → Int32) → (Nat → Int32) → (Nat → Int32) → (Nat → Int32) → Int32 → Int32 → (Nat → Int32) → Int32 → Prop} (hK : ∀ r i k0 k1 k2 k3 k4 k5 k6 k7 k8 kp' i', R3 k0 k1 k2 k3 k4 k5 k6 k7 k8 i kp' i' → K r r i k0 k1 k2 k3 k4 k5 k6 k7 k8 kp' i') : wp_X9_image ksk kze kma kki kdn kwi kdu sk ze ma ki dn wi du yr sz (fun r c0 c1 c2 c3 c4 c5 c6 c7 c8 c9 => wp_X10_image m kp (fun r' d0 d1 => K r r' c0 c1 c2 c3 c4 c5 c6 c7 c8 c9 d0 d1)) := by
  obtain ⟨A, hC, hM, hI⟩ := id h1
  exact c_become hC (fun c0 c1 c2 c3 c4 c5 c6 hC1 => m_copyAll (fun g hg => hK _ _ _ _ _ _ _ _ _ _ _ _ _ ⟨rfl, Or.inr rfl, fun _ => ⟨A, hC1, fun i hi => (hg i hi).trans (hM i hi), hI⟩⟩))
theorem c_becomeR {tsk tze tma tki tdn twi tdu : Nat → Int32} (h : RelC sk ze ma ki dn wi du sz A) {Q : (Nat → Int32) → (Nat → Int32) → (Nat → Int32) → (Nat → Int32) → (Nat → Int32) → (Nat → Int32) → (Nat → Int32) → Int32 → Int32 → Prop} (hQ : ∀ c0 c1 c2 c3 c4 c5 c6, RelC c0 c1 c2 c3 c4 c5 c6 sz A → Q c0 c1 c2 c3 c4 c5 c6 yr sz) : wp_X2_becomeR sk ze ma ki dn wi du yr sz tsk tze tma tki tdn twi tdu Q := c_become h hQ
theorem sim_undo (h1 : R1 sk ze ma ki dn wi du yr sz m) (h2 : R2 fd fo) (h3 : R3 ksk kze kma kki kdn kwi kdu kyr ksz ik kp ik') {K : Int32 → Int32 → (Nat → Int32) → (Nat → Int32) → (Nat → Int32) → (Nat → Int32) → (Nat → Int32) → (Nat → Int32) → (Nat → Int32) → (Nat → Int32) → Int32 → Int32 → (Nat → Int32) → (Nat → Int32) → Prop} (hK : ∀ r fd' k0 k1 k2 k3 k4 k5 k6 k7 k8 m' fo', R1 k0 k1 k2 k3 k4 k5 k6 k7 k8 m' → R2 fd' fo' → K r r fd' k0 k1 k2 k3 k4 k5 k6 k7 k8 m' fo') : wp_X9_undo fd ik ksk kze kma kki kdn kwi kdu kyr ksz sk ze ma ki dn wi du yr sz (fun r c0 c1 c2 c3 c4 c5 c6 c7 c8 c9 => wp_X10_undo m kp fo ik' (fun r' d0 d1 => K r r' c0 c1 c2 c3 c4 c5 c6 c7 c8 c9 d0 d1)) := by
  obtain ⟨e, hor, hk⟩ := h3
  subst e
  rcases hor with e | e
  · subst e
    exact br_t rfl (c_fnd 3 (by decide) bf3 (br_t rfl (m_fnd 3 (by decide) bf3 (hK _ _ _ _ _ _ _ _ _ _ _ _ _ h1 (R2_up h2 (by decide))))))
  · subst e
    obtain ⟨A, hC, hM, hI⟩ := hk rfl
    refine br_f (by decide) (c_becomeR hC (fun c0 c1 c2 c3 c4 c5 c6 hC1 => br_f (by decide) (m_copyAll (fun g hg => ⟨vp_lit 1 (by decide) (by decide), ?_⟩))))
    have hM' : RelM g A kyr := fun i hi => (hg i hi).trans (hM i hi)
    rw [RelM_sz hM', hC1.2.2.2.2.2.2.2]
    have := hC1.2.2.2.2.2.2.2
    subst this
    exact hK _ _ _ _ _ _ _ _ _ _ _ _ _ ⟨A, hC1, hM', hI⟩ h2
theorem sim_tear (h3 : R3 ksk kze kma kki kdn kwi kdu kyr ksz ik kp ik') {K : Int32 → Int32 → Int32 → Int32 → Prop} (hK : ∀ r i i', R3 ksk kze kma kki kdn kwi kdu kyr ksz i kp i' → K r r i i') : wp_X9_tear ik (fun r c0 => wp_X10_tear ik' (fun r' d0 => K r r' c0 d0)) := by
  obtain ⟨e, hor, hk⟩ := h3
  subst e
  have h0 : R3 ksk kze kma kki kdn kwi kdu kyr ksz 0 kp 0 := ⟨rfl, Or.inl rfl, fun z => absurd z (by decide)⟩
  exact ⟨fun e => br_t e (hK _ _ _ h0), fun e => br_f e (hK _ _ _ h0)⟩
theorem p_fillL_l {n : Nat} (hn : n < 2 ^ 31) (v : Int64) {K : Int32 → (Nat → Int64) → Prop} : ∀ r i (f : Nat → Int64), i + r = n → (∀ j, j < i → f j = v) → (∀ g, (∀ j, j < n → g j = v) → K (nI n) g) → wpl_J7_fill_d0a16_6 v (nI n) n K (r + 1) (nI i) f := by
  intro r
  induction r with
  | zero =>
    intro i f hi hf hK
    rw [wpl_J7_fill_d0a16_6]
    refine br_t ((cle hn (by omega)).mpr (by omega)) ?_
    rw [show i = n by omega] at hf ⊢
    exact hK f hf
  | succ r ih =>
    intro i f hi hf hK
    rw [wpl_J7_fill_d0a16_6]
    refine br_f (fun z => absurd ((cle hn (by omega)).mp z) (by omega)) ⟨vp_in_nI (by omega) hn, ?_⟩
    rw [nI_1, nI_clamp (by omega)]
    refine ih (i + 1) _ (by omega) (fun j hj => ?_) hK
    by_cases e : j = i
    · rw [e, pk_uLs]
    · rw [pk_uLn e]; exact hf j (by omega)
theorem p_fillL {n : Nat} (hn : n < 2 ^ 31) (v : Int64) (f : Nat → Int64) {Q : (Nat → Int64) → Prop} (hQ : ∀ g, (∀ j, j < n → g j = v) → Q g) : wp_J7_fill_d0a16 f n v Q :=
  ⟨n + 1, p_fillL_l hn v n 0 f (by omega) (fun j hj => by omega) hQ⟩
variable {bo so : Nat → Int32} {ce nu : Nat → Int64} {bi le : Int32} {j : Nat}
theorem ix_s (j i : Nat) : (40 : Int32) * nI j + nI i = nI (40 * j + i) := by
  rw [show (40 : Int32) = nI 40 from rfl, pk_mul, nI_add]
theorem m_clr_l (hj : j ≤ 3) {K : Int32 → (Nat → Int64) → Prop} : ∀ r i (f : Nat → Int64), i + r = 40 → (∀ x, x < i → f (40 * j + x) = 0) → (∀ g, (∀ x, x < 40 → g (40 * j + x) = 0) → (∀ y, ¬ (40 * j ≤ y ∧ y < 40 * j + 40) → g y = f y) → K (nI 40) g) → wpl_X10_sheet_85 (nI j) K (r + 1) (nI i) f := by
  intro r
  induction r with
  | zero =>
    intro i f hi hf hK
    rw [wpl_X10_sheet_85, show i = 40 by omega]
    exact br_t (by decide) (hK f (fun x hx => hf x (by omega)) (fun _ _ => rfl))
  | succ r ih =>
    intro i f hi hf hK
    rw [wpl_X10_sheet_85, ix_s, nI_1, nI_clamp (by omega)]
    refine br_f (fun z => absurd ((cle (a := 40) (by decide) (by omega)).mp z) (by omega)) ⟨vp_in_nI (by omega) (by decide), ?_⟩
    refine ih (i + 1) _ (by omega) (fun x hx => ?_) (fun g hg hg2 => hK g hg (fun y hy => ?_))
    · by_cases e : x = i
      · rw [e, pk_uLs]
      · rw [pk_uLn (by omega)]; exact hf x (by omega)
    · rw [hg2 y hy, pk_uLn (by omega)]
theorem m_clr (hj : j ≤ 3) {K : Int32 → (Nat → Int64) → Prop} (hK : ∀ g x, (∀ x, x < 40 → g (40 * j + x) = 0) → (∀ y, ¬ (40 * j ≤ y ∧ y < 40 * j + 40) → g y = ce y) → K x g) : ∃ n, wpl_X10_sheet_85 (nI j) K n 0 ce :=
  ⟨41, m_clr_l hj 40 0 ce (by omega) (fun x hx => by omega) (fun g h1 h2 => hK g _ h1 h2)⟩
theorem hj_eq {a1 : Int32} {j i : Nat} (hj : vp_in a1 4 → a1.toNatClampNeg = j) (hi : i ≤ 3) (e : a1 = nI i) : i = j := by
  have := hj (by rw [e]; exact vp_in_nI (by omega) (by decide))
  rw [e, nI_clamp (by omega)] at this
  exact this
theorem cs_t {p : Nat} {Q : Int32 → Prop} (hp : p ≤ 3) (hQ : Q 1) : wp_X9_isSheet (nI p) Q := wn_t (n := 3) hp (by decide) ⟨nb1, hQ⟩
theorem cs_f {v : Int32} {Q : Int32 → Prop} (h : ¬ (0 ≤ v ∧ v ≤ nI 3)) (hQ : Q 0) : wp_X9_isSheet v Q := w_f h ⟨nb0, hQ⟩
theorem ms_t {p : Nat} {Q : Int32 → Prop} (hp : p ≤ 3) (hQ : Q 1) : wp_X10_isSheet (nI p) Q := inn_t (n := 3) hp (by decide) ⟨nb1, hQ⟩
theorem ms_f {v : Int32} {Q : Int32 → Prop} (h : ¬ (0 ≤ v ∧ v ≤ nI 3)) (hQ : Q 0) : wp_X10_isSheet v Q := in_f h ⟨nb0, hQ⟩
theorem m_sheet_in (hj : j ≤ 3) {a2 : Int32} {n : Nat} (hn : n ≤ 40) (ha : a2 = 0 ∨ a2 = 8 ∨ a2 = 16 ∨ a2 = 64) {Q : Int32 → (Nat → Int32) → (Nat → Int32) → (Nat → Int32) → (Nat → Int64) → Prop} (hQ : ∀ g, (∀ x, x < 40 → g (40 * j + x) = 0) → (∀ y, ¬ (40 * j ≤ y ∧ y < 40 * j + 40) → g y = ce y) → Q (nI (if a2 = 0 then 0 else n)) fo (upd bo j a2) (upd so j (nI (if a2 = 0 then 0 else n))) g) : wp_X10_sheet fo bo so ce (nI j) a2 (nI n) Q := by
  have vj : vp_in (nI j) 4 := vp_in_nI (by omega) (by decide)
  have h0 : (0 : Int32) ≤ nI n := nI_pos' (by omega)
  have h4 : nI n ≤ 40 := (cle (b := 40) (by omega) (by decide)).mpr hn
  refine ms_t hj (br_f (by decide) ?_)
  rw [nI_clamp (by omega)]
  rcases ha with e | e | e | e <;> subst e
  · refine br_t rfl (br_t h0 (br_t h4 ⟨vj, br_t rfl ⟨vj, m_clr hj (fun g x h1 h2 => ⟨vj, ?_⟩)⟩⟩))
    rw [pk_us]; exact hQ g h1 h2
  · refine br_f (by decide) (br_t rfl (br_t h0 (br_t h4 ⟨vj, br_f (by decide) ⟨vj, m_clr hj (fun g x h1 h2 => ⟨vj, ?_⟩)⟩⟩)))
    rw [pk_us]; exact hQ g h1 h2
  · refine br_f (by decide) (br_f (by decide) (br_t rfl (br_t h0 (br_t h4 ⟨vj, br_f (by decide) ⟨vj, m_clr hj (fun g x h1 h2 => ⟨vj, ?_⟩)⟩⟩))))
    rw [pk_us]; exact hQ g h1 h2
  · refine br_f (by decide) (br_f (by decide) (br_f (by decide) (br_t rfl (br_t h0 (br_t h4 ⟨vj, br_f (by decide) ⟨vj, m_clr hj (fun g x h1 h2 => ⟨vj, ?_⟩)⟩⟩)))))
    rw [pk_us]; exact hQ g h1 h2
theorem m_sheet_bad (hj : j ≤ 3) {a2 a3 : Int32} (ha : a2 = 0 ∨ a2 = 8 ∨ a2 = 16 ∨ a2 = 64) {Q : Int32 → (Nat → Int32) → (Nat → Int32) → (Nat → Int32) → (Nat → Int64) → Prop} (h0 : ¬ 0 ≤ a3 → wp_X10_finds fo (-1000000007) (fun r c => Q r c bo so ce)) (h4 : ¬ a3 ≤ 40 → wp_X10_finds fo (-1000000001) (fun r c => Q r c bo so ce)) (hb : ¬ (0 ≤ a3 ∧ a3 ≤ 40)) : wp_X10_sheet fo bo so ce (nI j) a2 a3 Q := by
  refine ms_t hj (br_f (by decide) ?_)
  rcases ha with e | e | e | e <;> subst e
  · exact br_t rfl ⟨fun c => br_f (fun z => hb ⟨c, z⟩) (h4 (fun z => hb ⟨c, z⟩)), h0⟩
  · exact br_f (by decide) (br_t rfl ⟨fun c => br_f (fun z => hb ⟨c, z⟩) (h4 (fun z => hb ⟨c, z⟩)), h0⟩)
  · exact br_f (by decide) (br_f (by decide) (br_t rfl ⟨fun c => br_f (fun z => hb ⟨c, z⟩) (h4 (fun z => hb ⟨c, z⟩)), h0⟩))
  · exact br_f (by decide) (br_f (by decide) (br_f (by decide) (br_t rfl ⟨fun c => br_f (fun z => hb ⟨c, z⟩) (h4 (fun z => hb ⟨c, z⟩)), h0⟩)))
theorem cw_t {a2 : Int32} (ha : a2 = 0 ∨ a2 = 8 ∨ a2 = 16 ∨ a2 = 64) {Q : Int32 → Prop} (hQ : Q 1) : wp_X9_isWidth a2 Q := by
  rcases ha with e | e | e | e <;> subst e
  · exact br_t rfl hQ
  · exact br_f (by decide) (br_t rfl hQ)
  · exact br_f (by decide) (br_f (by decide) (br_t rfl hQ))
  · exact br_f (by decide) (br_f (by decide) (br_f (by decide) (br_t rfl hQ)))
theorem sim_sheet (h2 : R2 fd fo) (hj3 : j ≤ 3) (h5 : R5 j nu bi le bo so ce) (a1 a2 a3 : Int32) (hj : vp_in a1 4 → a1.toNatClampNeg = j) {K : Int32 → Int32 → (Nat → Int32) → (Nat → Int64) → Int32 → Int32 → (Nat → Int32) → (Nat → Int32) → (Nat → Int32) → (Nat → Int64) → Prop} (hK : ∀ r fd' nu' bi' le' fo' bo' so' ce', R2 fd' fo' → R5 j nu' bi' le' bo' so' ce' → FS j bo so ce bo' so' ce' → K r r fd' nu' bi' le' fo' bo' so' ce') : wp_X9_sheet fd nu bi le a1 a2 a3 (fun r c0 c1 c2 c3 => wp_X10_sheet fo bo so ce a1 a2 a3 (fun r' d0 d1 d2 d3 => K r r' c0 c1 c2 c3 d0 d1 d2 d3)) := by
  have hby : K (-1000000001) (-1000000001) (upd fd 0 (fd 0 + 1)) nu bi le (upd fo 0 (fo 0 + 1)) bo so ce := hK _ _ _ _ _ _ _ _ _ (R2_up h2 (by decide)) h5 (FS.r _ _ _ _)
  rcases rg a1 3 (by decide) with ⟨i, hi, e⟩ | hn
  · have := hj_eq hj hi e
    subst this
    subst e
    have vj : vp_in (nI i) 4 := vp_in_nI (by omega) (by decide)
    refine cs_t hi (br_f (by decide) ?_)
    by_cases ha : a2 = 0 ∨ a2 = 8 ∨ a2 = 16 ∨ a2 = 64
    · refine cw_t ha (br_f (by decide) ?_)
      rcases rg a3 40 (by decide) with ⟨n, hn, rfl⟩ | hn
      · refine br_t (nI_pos' (by omega)) (br_t ((cle (b := 40) (by omega) (by decide)).mpr hn) ⟨vj, ?_⟩)
        have fin : ∀ g, (∀ x, x < 40 → g x = 0) → wp_X10_sheet fo bo so ce (nI i) a2 (nI n) (fun r' d0 d1 d2 d3 => K (nI (if a2 = 0 then 0 else n)) r' fd g a2 (nI (if a2 = 0 then 0 else n)) d0 d1 d2 d3) := by
          intro g hg
          refine m_sheet_in hi hn ha (fun g2 h1 h3 => hK _ _ _ _ _ _ _ _ _ h2 ⟨pk_us, pk_us, ⟨_, ?_, rfl⟩, fun x hx => (h1 x hx).trans (hg x hx).symm⟩ (fun k hk hne => ⟨pk_un hne, pk_un hne, fun x hx => h3 _ (by omega)⟩))
          split <;> omega
        refine ⟨fun c => p_fillL (n := 40) (by decide) 0 nu (fun g hg => ⟨vj, ?_⟩), fun c => p_fillL (n := 40) (by decide) 0 nu (fun g hg => ⟨vj, ?_⟩)⟩
        · have := fin g hg
          simp only [if_pos c] at this
          exact this
        · have := fin g hg
          simp only [if_neg c] at this
          exact this
      · refine ⟨fun c => br_f (fun z => hn ⟨c, z⟩) (c_fnd 0 (by decide) bf0 (m_sheet_bad hi ha (fun z => absurd c z) (fun _ => m_fnd 0 (by decide) bf0 hby) hn)), fun c => c_fnd 6 (by decide) bf6 (m_sheet_bad hi ha (fun _ => m_fnd 6 (by decide) bf6 (hK _ _ _ _ _ _ _ _ _ (R2_up h2 (by decide)) h5 (FS.r _ _ _ _))) ?_ hn)⟩
        intro z
        exfalso
        have z1 := Int32.not_le.mp z
        have c1 := Int32.not_le.mp c
        exact absurd (Int32.lt_trans z1 c1) (by decide)
    · have e0 : ¬ a2 = 0 := fun z => ha (Or.inl z)
      have e1 : ¬ a2 = 8 := fun z => ha (Or.inr (Or.inl z))
      have e2 : ¬ a2 = 16 := fun z => ha (Or.inr (Or.inr (Or.inl z)))
      have e3 : ¬ a2 = 64 := fun z => ha (Or.inr (Or.inr (Or.inr z)))
      exact br_f e0 (br_f e1 (br_f e2 (br_f e3 (br_t rfl (c_fnd 0 (by decide) bf0 (ms_t hi (br_f (by decide) (br_f e0 (br_f e1 (br_f e2 (br_f e3 (m_fnd 0 (by decide) bf0 hby))))))))))))
  · exact cs_f hn (br_t rfl (c_fnd 0 (by decide) bf0 (ms_f hn (br_t rfl (m_fnd 0 (by decide) bf0 hby)))))
end S8
