section S11
variable {fd fo sk ze ma ki dn wi du m wa : Nat → Int32} {yr sz : Int32} {A : AS}
variable {bo so : Nat → Int32} {ce nu : Nat → Int64} {bi le : Int32} {j : Nat}
/-! ===== read ===== -/
def toldN (nu : Nat → Int64) (t : Nat) : Nat → Nat → AS → Bool
  | 0, _, _ => true
  | r + 1, i, A => if nu i = (nI (A 4 t)).toInt64 then toldN nu t r (i + 1) (yearN A) else false
def b01 (b : Bool) : Int32 := if b then 1 else 0
theorem c_told_l {n t : Nat} (hn : n ≤ 40) (ht : t < 8) {Q : Int32 → (Nat → Int32) → (Nat → Int32) → (Nat → Int32) → (Nat → Int32) → (Nat → Int32) → (Nat → Int32) → Int32 → Prop} {K : Int32 → (Nat → Int32) → (Nat → Int32) → (Nat → Int32) → (Nat → Int32) → (Nat → Int32) → (Nat → Int32) → Int32 → Prop} : ∀ r i (A : AS) (ze ma dn wi du he : Nat → Int32) (yr : Int32), RelC sk ze ma ki dn wi du sz A → Inv A → i + r = n → (toldN nu t r i A = false → ∀ ze' ma' dn' wi' du' he' yr', Q 0 ze' ma' dn' wi' du' he' yr') → (toldN nu t r i A = true → ∀ x ze' ma' dn' wi' du' he' yr', K x ze' ma' dn' wi' du' he' yr') → wpl_X9_trialGoesAsTold_2 sk ki sz nu (nI n) (nI t) Q K (r + 1) (nI i) ze ma dn wi du he yr := by
  intro r
  induction r with
  | zero =>
    intro i A ze ma dn wi du he yr h hI hi hQ hK
    rw [wpl_X9_trialGoesAsTold_2]
    exact br_t ((cle (by omega) (by omega)).mpr (by omega)) (hK rfl _ _ _ _ _ _ _ _)
  | succ r ih =>
    intro i A ze ma dn wi du he yr h hI hi hQ hK
    rw [wpl_X9_trialGoesAsTold_2, nI_1, nI_clamp (n := i) (by omega), nI_clamp (n := t) (by omega), h.2.2.2.2.1 t ht]
    simp only [toldN] at hQ hK
    refine br_f (fun z => absurd ((cle (by omega) (by omega)).mp z) (by omega)) ⟨vp_in_nI (by omega) (by decide), vp_in_nI ht (by decide), ek_if (lg_0 _ _) (fun c => ?_) (fun c => ?_)⟩
    · rw [if_pos c] at hQ hK
      exact c_goYear h hI he yr (fun ze1 ma1 dn1 wi1 du1 he1 h1 => ih (i + 1) _ _ _ _ _ _ _ _ h1 (yearN_inv hI).1 (by omega) hQ hK)
    · rw [if_neg c] at hQ
      exact hQ rfl _ _ _ _ _ _ _
theorem c_told {n t : Nat} (h : RelC sk ze ma ki dn wi du sz A) (hI : Inv A) (hn : n ≤ 40) (ht : t < 8) (he : Nat → Int32) (yr : Int32) {Q : Int32 → (Nat → Int32) → (Nat → Int32) → (Nat → Int32) → (Nat → Int32) → (Nat → Int32) → (Nat → Int32) → Int32 → Prop} (hQ : ∀ ze' ma' dn' wi' du' he' yr', Q (b01 (toldN nu t n 0 A)) ze' ma' dn' wi' du' he' yr') : wp_X9_trialGoesAsTold sk ze ma ki dn wi du he yr sz nu (nI n) (nI t) Q := by
  refine ⟨n + 1, c_told_l hn ht n 0 A ze ma dn wi du he yr h hI (by omega) (fun c => ?_) (fun c => ?_)⟩
  · rw [c] at hQ; exact hQ
  · rw [c] at hQ; exact fun _ => hQ
theorem m_told_l {n t : Nat} (hn : n ≤ 40) (ht : t < 8) (hj : j ≤ 3) (hso : so j = nI n) (hce : ∀ i, i < 40 → ce (40 * j + i) = nu i) {K : Int32 → Int32 → (Nat → Int32) → Prop} : ∀ r i (A : AS) (yr : Int32) (m : Nat → Int32), RelM m A yr → Inv A → i + r = n → (∀ x m', K (b01 (toldN nu t r i A)) x m') → wpl_X10_isBook_5 so ce (nI j) (nI t) K (r + 1) 1 (nI i) m := by
  have vj : vp_in (nI j) 4 := vp_in_nI (by omega) (by decide)
  intro r
  induction r with
  | zero =>
    intro i A yr m h hI hi hK
    rw [wpl_X10_isBook_5, nI_clamp (by omega), hso]
    exact ⟨vj, br_t ((cle (by omega) (by omega)).mpr (by omega)) (hK _ _)⟩
  | succ r ih =>
    intro i A yr m h hI hi hK
    rw [wpl_X10_isBook_5, nI_1, nI_clamp (n := j) (by omega), hso, ix_s, nI_clamp (n := 40 * j + i) (by omega), hce i (by omega)]
    simp only [toldN] at hK
    refine ⟨vj, br_f (fun z => absurd ((cle (by omega) (by omega)).mp z) (by omega)) (br_f (by decide) ⟨vp_in_nI (by omega) (by decide), m_it1 h ht (ek_if (lg_0 _ _) (fun c => ?_) (fun c => ?_))⟩)⟩
    · rw [if_pos c] at hK
      exact m_goes h hI (fun m1 h1 => ih (i + 1) _ _ _ h1 (yearN_inv hI).1 (by omega) hK)
    · rw [if_neg c] at hK
      refine m_goes h hI (fun m1 h1 => ?_)
      rw [wpl_X10_isBook_5, nI_clamp (n := j) (by omega), hso]
      exact ⟨vj, fun _ => hK _ _, fun _ => br_t rfl (hK _ _)⟩
theorem m_isBook {n t : Nat} {B : AS} {yb : Int32} (h : RelM m B yb) (hB : Inv B) (hw : RelM wa A yr) (hn : n ≤ 40) (ht : t < 8) (hj : j ≤ 3) (hso : so j = nI n) (hce : ∀ i, i < 40 → ce (40 * j + i) = nu i) {Q : Int32 → (Nat → Int32) → Prop} (hQ : ∀ m', RelM m' A yr → Q (b01 (toldN nu t n 0 B)) m') : wp_X10_isBook m wa so ce (nI j) (nI t) Q := by
  refine ⟨n + 1, m_told_l hn ht hj hso hce n 0 B yb m h hB (by omega) (fun x m' => m_putsBack hw (fun m2 h2 => ⟨?_, hQ m2 h2⟩))⟩
  cases toldN nu t n 0 B
  · exact nb0
  · exact nb1
def rdN (P : Nat → Bool) : Nat → Nat → Nat → Nat
  | 0, _, c => c
  | r + 1, i, c => if P i then rdN P r (i + 1) (c + 1) else rdN P r (i + 1) c
theorem rdN_add (P : Nat → Bool) : ∀ a b i c, rdN P (a + b) i c = rdN P b (i + a) (rdN P a i c) := by
  intro a
  induction a with
  | zero => intro b i c; rw [Nat.zero_add]; rfl
  | succ a ih =>
    intro b i c
    rw [show a + 1 + b = (a + b) + 1 by omega]
    simp only [rdN]
    by_cases h : P i = true
    · rw [if_pos h, if_pos h, ih, show i + 1 + a = i + (a + 1) by omega]
    · rw [if_neg h, if_neg h, ih, show i + 1 + a = i + (a + 1) by omega]
def rdB (A : AS) (t p i : Nat) : AS := u2 (u2 A 3 t (i / 21)) 0 p (i % 21)
theorem rdB_inv (hI : Inv A) (t p : Nat) {i : Nat} (hi : i < 126) : Inv (rdB A t p i) := (hI.t (k := 0) _ (by decide) (by simp; omega)).p (k := 0) _ (by decide) (by simp; omega)
theorem b01_0 {b : Bool} : b01 b = 0 ↔ ¬ b = true := by cases b <;> decide
theorem c_rd75 {n t p k : Nat} (hn : n ≤ 40) (ht : t < 8) (hp : p < 6) (hk : k < 6) (hC : RelC sk ze ma ki dn wi du sz A) (hI : Inv A) (yr : Int32) {K : Int32 → Int32 → (Nat → Int32) → (Nat → Int32) → (Nat → Int32) → (Nat → Int32) → (Nat → Int32) → (Nat → Int32) → (Nat → Int32) → (Nat → Int32) → Int32 → Int32 → Prop} : ∀ r s c (t0 t1 t2 t3 t4 t5 t6 t7 : Nat → Int32) (t8 t9 : Int32), s + r = 21 → (∀ x t0 t1 t2 t3 t4 t5 t6 t7 t8 t9, K (nI (rdN (fun i => toldN nu t n 0 (rdB A t p i)) r (21 * k + s) c)) x t0 t1 t2 t3 t4 t5 t6 t7 t8 t9) → wpl_X9_read_75 sk ze ma ki dn wi du yr sz nu (nI n) (nI t) (nI p) (nI k) K (r + 1) (nI c) (nI s) t0 t1 t2 t3 t4 t5 t6 t7 t8 t9 := by
  intro r
  induction r with
  | zero =>
    intro s c t0 t1 t2 t3 t4 t5 t6 t7 t8 t9 hs hK
    rw [wpl_X9_read_75, show s = 21 by omega]
    exact br_t (by decide) (hK _ _ _ _ _ _ _ _ _ _ _)
  | succ r ih =>
    intro s c t0 t1 t2 t3 t4 t5 t6 t7 t8 t9 hs hK
    rw [wpl_X9_read_75, nI_1, nI_1]
    refine br_f (fun z => absurd ((clt (a := 20) (by decide) (by omega)).mp z) (by omega)) (c_become hC (fun c0 c1 c2 c3 c4 c5 c6 hC1 => ⟨vp_in_nI ht (by decide), vp_in_nI hp (by decide), ?_⟩))
    rw [nI_clamp (n := p) (by omega), nI_clamp (n := t) (by omega)]
    have hB : RelC (upd c0 p (nI s)) c1 c2 (upd c3 t (nI k)) c4 c5 c6 sz (rdB A t p (21 * k + s)) := by
      have := (hC1.u_ki t k).u_sk p s
      unfold rdB
      rw [show (21 * k + s) / 21 = k by omega, show (21 * k + s) % 21 = s by omega]
      exact this
    refine c_told hB (rdB_inv hI t p (by omega)) hn ht t7 yr (fun ze' ma' dn' wi' du' he' yr' => ?_)
    simp only [rdN] at hK
    refine ek_if b01_0 (fun q => ?_) (fun q => ?_)
    · rw [if_neg q] at hK
      exact ih (s + 1) c _ _ _ _ _ _ _ _ _ _ (by omega) hK
    · rw [if_pos (Classical.byContradiction q)] at hK
      exact ih (s + 1) (c + 1) _ _ _ _ _ _ _ _ _ _ (by omega) hK
theorem c_rd65 {n t p : Nat} (hn : n ≤ 40) (ht : t < 8) (hp : p < 6) (hC : RelC sk ze ma ki dn wi du sz A) (hI : Inv A) (yr : Int32) {K : Int32 → Int32 → (Nat → Int32) → (Nat → Int32) → (Nat → Int32) → (Nat → Int32) → (Nat → Int32) → (Nat → Int32) → (Nat → Int32) → (Nat → Int32) → Int32 → Int32 → Prop} : ∀ r k c (t0 t1 t2 t3 t4 t5 t6 t7 : Nat → Int32) (t8 t9 : Int32), k + r = 6 → (∀ x t0 t1 t2 t3 t4 t5 t6 t7 t8 t9, K (nI (rdN (fun i => toldN nu t n 0 (rdB A t p i)) (21 * r) (21 * k) c)) x t0 t1 t2 t3 t4 t5 t6 t7 t8 t9) → wpl_X9_read_65 sk ze ma ki dn wi du yr sz nu (nI n) (nI t) (nI p) K (r + 1) (nI c) (nI k) t0 t1 t2 t3 t4 t5 t6 t7 t8 t9 := by
  intro r
  induction r with
  | zero =>
    intro k c t0 t1 t2 t3 t4 t5 t6 t7 t8 t9 hk hK
    rw [wpl_X9_read_65, show k = 6 by omega]
    exact br_t (by decide) (hK _ _ _ _ _ _ _ _ _ _ _)
  | succ r ih =>
    intro k c t0 t1 t2 t3 t4 t5 t6 t7 t8 t9 hk hK
    rw [wpl_X9_read_65, nI_1]
    refine br_f (fun z => absurd ((cle (a := 6) (by decide) (by omega)).mp z) (by omega)) ⟨22, c_rd75 hn ht hp (by omega) hC hI yr 21 0 c _ _ _ _ _ _ _ _ _ _ (by omega) (fun x t0 t1 t2 t3 t4 t5 t6 t7 t8 t9 => ?_)⟩
    rw [show 21 * (r + 1) = 21 + 21 * r by omega, rdN_add, show 21 * k + 21 = 21 * (k + 1) by omega] at hK
    exact ih (k + 1) _ _ _ _ _ _ _ _ _ _ _ (by omega) hK
theorem m_read_l {n t p : Nat} (hn : n ≤ 40) (ht : t < 8) (hp : p < 6) (hj : j ≤ 3) (hso : so j = nI n) (hce : ∀ i, i < 40 → ce (40 * j + i) = nu i) (hI : Inv A) (hw : RelM wa A yr) {K : Int32 → Int32 → (Nat → Int32) → Prop} : ∀ r i c (m : Nat → Int32), RelM m A yr → i + r = 126 → (∀ x m', RelM m' A yr → K (nI (rdN (fun i => toldN nu t n 0 (rdB A t p i)) r i c)) x m') → wpl_X10_read_51 wa so ce (nI j) (nI t) (nI p) K (r + 1) (nI c) (nI i) m := by
  intro r
  induction r with
  | zero =>
    intro i c m h hi hK
    rw [wpl_X10_read_51, show i = 126 by omega]
    exact br_t (by decide) (hK _ _ h)
  | succ r ih =>
    intro i c m h hi hK
    rw [wpl_X10_read_51, nI_1, nI_1, i0, show nI i / 21 = nI (i / 21) from pk_div (by omega) (by decide) (by decide), show nI (i / 21) * 21 = nI (i / 21 * 21) from pk_mul _ 21, nsub (by omega), show i - i / 21 * 21 = i % 21 by omega]
    refine br_f (fun z => absurd ((cle (a := 126) (by decide) (by omega)).mp z) (by omega)) (m_put (k := 0) (v := i / 21) h ht (by decide) (by simp) (fun m1 h1 => m_gets (k := 0) h1 hp (by decide) (fun m2 h2 => m_isBook (B := rdB A t p i) h2 (rdB_inv hI t p (i := i) (by omega)) hw hn ht hj hso hce (fun m3 h3 => ?_))))
    simp only [rdN] at hK
    refine ek_if b01_0 (fun q => ?_) (fun q => ?_)
    · rw [if_neg q] at hK
      exact ih (i + 1) c m3 h3 (by omega) hK
    · rw [if_pos (Classical.byContradiction q)] at hK
      exact ih (i + 1) (c + 1) m3 h3 (by omega) hK
theorem sim_read {K : KT} (h1 : R1 sk ze ma ki dn wi du yr sz m) (h2 : R2 fd fo) (hj3 : j ≤ 3) (h5 : R5 j nu bi le bo so ce) (tsk tze tma tki tdn twi tdu the : Nat → Int32) (tyr tsz : Int32) (wa : Nat → Int32) (a1 a2 a3 : Int32) (hj : vp_in a1 4 → a1.toNatClampNeg = j) (hK : HK sk ze ma ki dn wi du yr sz K) : wp_X9_read fd tsk tze tma tki tdn twi tdu the tyr tsz sk ze ma ki dn wi du yr sz nu bi le a1 a2 a3 (fun r c0 c1 c2 c3 c4 c5 c6 c7 c8 c9 c10 => wp_X10_read m wa fo bo so ce a1 a2 a3 (fun r' d0 d1 d2 => K r r' c0 c1 c2 c3 c4 c5 c6 c7 c8 c9 c10 d0 d1 d2)) := by
  obtain ⟨A, hC, hM, hI⟩ := id h1
  have hsz := hC.2.2.2.2.2.2.2
  subst hsz
  have h8 := hI.1
  obtain ⟨e1, e2, ⟨n, hn, e3⟩, e4⟩ := id h5
  subst e3
  rcases rg a1 3 (by decide) with ⟨i, hi, ei⟩ | hx
  · have := hj_eq hj hi ei
    subst this
    subst ei
    refine cs_t hi (br_f (by decide) ⟨vp_in_nI (by omega) (by decide), fun z => br_f (by decide) (c_fnd 5 (by decide) bf5 ?_), fun z => br_t rfl ?_⟩)
    · exact m_na_miss hi (e1.trans z) (br_f (by decide) (br_f (by decide) (m_fnd 5 (by decide) bf5 (hK.a h1 (R2_up h2 (by decide))))))
    · have nz : ¬ bo i = 0 := fun q => z (e1.symm.trans q)
      rcases rg_t a2 h8 with ⟨t, ht, rfl⟩ | hx
      · have ht8 : t < 8 := by omega
        refine ct_t ht h8 (br_f (by decide) ?_)
        rcases rg a3 5 (by decide) with ⟨p, hp, rfl⟩ | hx
        · have hp6 : p < 6 := by omega
          refine cp_t hp (br_f (by decide) ⟨7, c_rd65 hn ht8 hp6 hC hI yr 6 0 0 _ _ _ _ _ _ _ _ _ _ (by omega) (fun x t0 t1 t2 t3 t4 t5 t6 t7 t8 t9 => ?_)⟩)
          refine m_na hi hM hI ht nz (br_t rfl (mp_t hp (br_f (by decide) (br_t rfl (m_thinks hM (fun wa' hW => ⟨127, m_read_l hn ht8 hp6 hi e2 e4 hI hW 126 0 0 m hM (by omega) (fun y m' hM' => ?_)⟩))))))
          exact hK.a ⟨A, hC, hM', hI⟩ h2
        · exact cp_f hx (br_t rfl (c_fnd 0 (by decide) bf0 (m_na hi hM hI ht nz (br_t rfl (mp_f hx (br_t rfl (m_fnd 0 (by decide) bf0 (hK.a h1 (R2_up h2 (by decide))))))))))
      · exact ct_f hx (br_t rfl (c_fnd 0 (by decide) bf0 (m_na_bad hi hM hx nz (br_f (by decide) (br_f (by decide) (m_fnd 0 (by decide) bf0 (hK.a h1 (R2_up h2 (by decide)))))))))
  · exact cs_f hx (br_t rfl (c_fnd 0 (by decide) bf0 (m_na_out hx (br_f (by decide) (br_f (by decide) (m_fnd 0 (by decide) bf0 (hK.a h1 (R2_up h2 (by decide)))))))))
/-! ===== the tape: feed, wipe ===== -/
def R4 (pbb : Nat → Int32) (pln : Int32) (ta : Nat → Int32) (td : Int32) : Prop := ∃ n, n ≤ 120 ∧ pln = nI n ∧ td = nI n ∧ ∀ i, i < n → ∃ b, b < 256 ∧ ta i = nI b ∧ pbb i = sb_b b
theorem bit8 : ∀ i, i < 8 → (255 : Int32).toBitVec.getLsbD i = true := by decide
theorem byt (v : Int32) : ∃ b, b < 256 ∧ v &&& 255 = nI b ∧ vp_nar .byte (v.toInt8.toInt32) = sb_b b := by
  have e1 : v &&& 255 = nI (v &&& 255).toBitVec.toNat := by
    apply Int32.toBitVec_inj.mp
    show _ = BitVec.ofNat 32 _
    rw [BitVec.ofNat_toNat]
    exact (BitVec.setWidth_eq _).symm
  have e2 : (v &&& 255).toBitVec.toNat < 256 := by
    rw [Int32.toBitVec_and, BitVec.toNat_and]
    have : (255 : Int32).toBitVec.toNat = 255 := rfl
    rw [this]
    exact Nat.lt_of_le_of_lt Nat.and_le_right (by decide)
  refine ⟨_, e2, e1, ?_⟩
  unfold sb_b
  rw [← e1, pk_vb]
  congr 1
  apply Int8.toBitVec_inj.mp
  rw [Int32.toBitVec_toInt8, Int32.toBitVec_toInt8]
  apply BitVec.eq_of_getLsbD_eq
  intro i hi
  rw [BitVec.getLsbD_signExtend, BitVec.getLsbD_signExtend, Int32.toBitVec_and, BitVec.getLsbD_and, bit8 i hi]
  simp [show i < 32 by omega]
theorem nI_m1 (k : Nat) : nI (k + 1) + (-1) = nI k := by
  have := nI_pred k
  rw [Int32.sub_eq_add_neg] at this
  exact this
def shV (a1 : Int32) (k : Nat) : Int32 := a1 >>> ((8 * nI k) &&& 31)
theorem c_app_l {a1 : Int32} {n c : Nat} {bb : Nat → Int32} (hc : n + c ≤ 120) {K : Int32 → (Nat → Int32) → Int32 → Prop} : ∀ r (f : Nat → Int32), r ≤ c → (∀ i, f i = if n ≤ i ∧ i < n + (c - r) then vp_nar .byte ((shV a1 (c - 1 - (i - n))).toInt8.toInt32) else bb i) → (∀ x g, (∀ i, g i = if n ≤ i ∧ i < n + c then vp_nar .byte ((shV a1 (c - 1 - (i - n))).toInt8.toInt32) else bb i) → K x g (nI (n + c))) → wpl_X8_append_4 a1 K (r + 1) (nI r + (-1)) f (nI (n + (c - r))) := by
  intro r
  induction r with
  | zero =>
    intro f _ hf hK
    rw [wpl_X8_append_4]
    exact br_t (by decide) (by rw [show n + (c - 0) = n + c by omega] at hf ⊢; exact hK _ f hf)
  | succ r ih =>
    intro f hr hf hK
    rw [wpl_X8_append_4, nI_m1, nI_1, nI_clamp (by omega)]
    refine br_f (Int32.not_lt.mpr (nI_pos' (by omega))) (br_f (fun z => absurd ((cle (a := 120) (by decide) (by omega)).mp z) (by omega)) ⟨vp_in_nI (by omega) (by decide), ?_⟩)
    rw [show n + (c - (r + 1)) + 1 = n + (c - r) by omega]
    refine ih _ (by omega) (fun i => ?_) hK
    by_cases e : i = n + (c - (r + 1))
    · subst e
      rw [pk_us, if_pos (by omega), show c - 1 - (n + (c - (r + 1)) - n) = r by omega]
      rfl
    · rw [pk_un e, hf]
      by_cases d : n ≤ i ∧ i < n + (c - (r + 1))
      · rw [if_pos d, if_pos (by omega)]
      · rw [if_neg d, if_neg (by omega)]
theorem m_feed_l {a1 : Int32} {n c : Nat} {bb : Nat → Int32} (hc : n + c ≤ 120) {K : Int32 → (Nat → Int32) → Int32 → Prop} : ∀ r (f : Nat → Int32), r ≤ c → (∀ i, f i = if n ≤ i ∧ i < n + (c - r) then shV a1 (c - 1 - (i - n)) &&& 255 else bb i) → (∀ x g, (∀ i, g i = if n ≤ i ∧ i < n + c then shV a1 (c - 1 - (i - n)) &&& 255 else bb i) → K x g (nI (n + c))) → wpl_X10_feed_39 a1 K (r + 1) (nI r + (-1)) f (nI (n + (c - r))) := by
  intro r
  induction r with
  | zero =>
    intro f _ hf hK
    rw [wpl_X10_feed_39]
    exact br_t (by decide) (by rw [show n + (c - 0) = n + c by omega] at hf ⊢; exact hK _ f hf)
  | succ r ih =>
    intro f hr hf hK
    rw [wpl_X10_feed_39, nI_m1, nI_1, nI_clamp (by omega)]
    refine br_f (Int32.not_lt.mpr (nI_pos' (by omega))) ⟨vp_in_nI (by omega) (by decide), ?_⟩
    rw [show n + (c - (r + 1)) + 1 = n + (c - r) by omega]
    refine ih _ (by omega) (fun i => ?_) hK
    by_cases e : i = n + (c - (r + 1))
    · subst e
      rw [pk_us, if_pos (by omega), show c - 1 - (n + (c - (r + 1)) - n) = r by omega]
      rfl
    · rw [pk_un e, hf]
      by_cases d : n ≤ i ∧ i < n + (c - (r + 1))
      · rw [if_pos d, if_pos (by omega)]
      · rw [if_neg d, if_neg (by omega)]
theorem sim_feed (h2 : R2 fd fo) {pbb ta : Nat → Int32} {pln td : Int32} (h4 : R4 pbb pln ta td) (a1 a2 : Int32) {K : Int32 → Int32 → (Nat → Int32) → (Nat → Int32) → Int32 → (Nat → Int32) → (Nat → Int32) → Int32 → Prop} (hK : ∀ r fd' pbb' pln' fo' ta' td', R2 fd' fo' → R4 pbb' pln' ta' td' → K r r fd' pbb' pln' fo' ta' td') : wp_X9_feed fd pbb pln a1 a2 (fun r c0 c1 c2 => wp_X10_feed fo ta td a1 a2 (fun r' d0 d1 d2 => K r r' c0 c1 c2 d0 d1 d2)) := by
  obtain ⟨n, hn, e1, e2, hb⟩ := id h4
  subst e1 e2
  rcases rg_l a2 1 4 (by decide) (by decide) with ⟨c, hl, hc, rfl⟩ | hx
  · refine wl_t (lo := 1) (hi := 4) hl hc (by decide) (br_f (by decide) ?_)
    have mm : ∀ {Q : Int32 → (Nat → Int32) → (Nat → Int32) → Int32 → Prop}, ((nI (n + c) ≤ 120 → ∃ n3 : Nat, wpl_X10_feed_39 a1 (fun y3_3 y3_ta y3_td => Q y3_td fo y3_ta y3_td) n3 (nI c - 1) ta (nI n)) ∧ (¬ (nI (n + c) ≤ 120) → wp_X10_finds fo (-1000000002) (fun r4 c4_0 => Q r4 c4_0 ta (nI n)))) → wp_X10_feed fo ta (nI n) a1 (nI c) Q := by
      intro Q hq
      rw [← nadd] at hq
      exact inl_t (lo := 1) (hi := 4) hl hc (by decide) (br_f (by decide) hq)
    unfold wp_X8_hasRoomFor
    rw [nadd]
    refine ek_if (clt (a := 120) (by decide) (by omega)) (fun q => br_t rfl (c_fnd 1 (by decide) bf1 (mm (br_f (fun z => absurd ((cle (b := 120) (by omega) (by decide)).mp z) (by omega)) (m_fnd 1 (by decide) bf1 (hK _ _ _ _ _ _ _ (R2_up h2 (by decide)) h4)))))) (fun q => br_f (by decide) ⟨c + 1, ?_⟩)
    have l1 := c_app_l (a1 := a1) (n := n) (c := c) (bb := pbb) (by omega) (K := fun y2_3 y2_bb y2_ln => wp_X10_feed fo ta (nI n) a1 (nI c) (fun r' d0 d1 d2 => K y2_ln r' fd y2_bb y2_ln d0 d1 d2)) c pbb (Nat.le_refl c) (fun i => by rw [if_neg (by omega)]) (fun x g hg => mm (br_t ((cle (b := 120) (by omega) (by decide)).mpr (by omega)) ⟨c + 1, ?_⟩))
    · rw [show n + (c - c) = n by omega, ← Int32.sub_eq_add_neg] at l1
      exact l1
    · have l2 := m_feed_l (a1 := a1) (n := n) (c := c) (bb := ta) (by omega) (K := fun y3_3 y3_ta y3_td => K (nI (n + c)) y3_td fd g (nI (n + c)) fo y3_ta y3_td) c ta (Nat.le_refl c) (fun i => by rw [if_neg (by omega)]) (fun x g2 hg2 => hK _ _ _ _ _ _ _ h2 ⟨n + c, by omega, rfl, rfl, fun i hi => ?_⟩)
      · rw [show n + (c - c) = n by omega, ← Int32.sub_eq_add_neg] at l2
        exact l2
      · rw [hg, hg2]
        by_cases d : n ≤ i ∧ i < n + c
        · rw [if_pos d, if_pos d]
          obtain ⟨b, b1, b2, b3⟩ := byt (shV a1 (c - 1 - (i - n)))
          exact ⟨b, b1, b2, b3⟩
        · rw [if_neg d, if_neg d]
          exact hb i (by omega)
  · exact w_f hx (br_t rfl (c_fnd 0 (by decide) bf0 (in_f hx (br_t rfl (m_fnd 0 (by decide) bf0 (hK _ _ _ _ _ _ _ (R2_up h2 (by decide)) h4))))))
theorem sim_wipe {pbb ta : Nat → Int32} {pln td : Int32} (h4 : R4 pbb pln ta td) {K : Int32 → Int32 → Int32 → Int32 → Prop} (hK : ∀ r pln' td', R4 pbb pln' ta td' → K r r pln' td') : wp_X9_wipe pln (fun r c0 => wp_X10_wipe td (fun r' d0 => K r r' c0 d0)) := by
  obtain ⟨n, hn, e1, e2, hb⟩ := id h4
  subst e1 e2
  exact hK _ _ _ ⟨0, by omega, rfl, rfl, fun i hi => by omega⟩
end S11
