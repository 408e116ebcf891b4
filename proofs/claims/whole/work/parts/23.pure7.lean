/-! ===== both sides: ranges, findings ===== -/
section Rg
theorem w_t {v lo hi : Int32} {Q : Int32 → Prop} (h1 : lo ≤ v) (h2 : v ≤ hi) (hQ : Q 1) : wp_X9_isWithin v lo hi Q :=
  br_f (Int32.not_lt.mpr h1) (br_f (Int32.not_lt.mpr h2) hQ)
theorem w_f {v lo hi : Int32} {Q : Int32 → Prop} (h : ¬ (lo ≤ v ∧ v ≤ hi)) (hQ : Q 0) : wp_X9_isWithin v lo hi Q := by
  by_cases c : v < lo
  · exact br_t c hQ
  · refine br_f c (br_t ?_ hQ)
    by_cases d : hi < v
    · exact d
    · exact absurd ⟨Int32.not_lt.mp c, Int32.not_lt.mp d⟩ h
theorem i64_lt (a b : Int32) : a.toInt64 < b.toInt64 ↔ a < b := by
  rw [Int64.lt_iff_toInt_lt, Int32.lt_iff_toInt_lt, Int32.toInt_toInt64, Int32.toInt_toInt64]
theorem lg_neg (x y : Int64) : lg_cmp x y < 0 ↔ x < y := by
  unfold lg_cmp
  by_cases h1 : y < x
  · simp only [h1, if_true]
    constructor
    · intro z; exact absurd z (by decide)
    · intro z; exact (Int64.lt_irrefl (Int64.lt_trans h1 z)).elim
  · by_cases h2 : x = y
    · subst h2; simp [Int64.lt_irrefl]
    · simp only [h1, h2, if_false]
      constructor
      · intro _; exact Int64.lt_of_le_of_ne (Int64.not_lt.mp h1) h2
      · intro _; decide
theorem lg_pos (x y : Int64) : 0 < lg_cmp x y ↔ y < x := by
  unfold lg_cmp
  by_cases h1 : y < x
  · simp only [h1, if_true]; simp
  · by_cases h2 : x = y
    · subst h2; simp [Int64.lt_irrefl]
    · simp only [h1, h2, if_false]
      constructor
      · intro z; exact absurd z (by decide)
      · intro z; exact z.elim
theorem in_t {v lo hi : Int32} {Q : Int32 → Prop} (h1 : lo ≤ v) (h2 : v ≤ hi) (hQ : Q 1) : wp_X10_in v.toInt64 lo hi Q :=
  br_f (fun z => absurd ((i64_lt _ _).mp ((lg_neg _ _).mp z)) (Int32.not_lt.mpr h1)) (br_f (fun z => absurd ((i64_lt _ _).mp ((lg_pos _ _).mp z)) (Int32.not_lt.mpr h2)) hQ)
theorem in_f {v lo hi : Int32} {Q : Int32 → Prop} (h : ¬ (lo ≤ v ∧ v ≤ hi)) (hQ : Q 0) : wp_X10_in v.toInt64 lo hi Q := by
  by_cases c : v < lo
  · exact br_t ((lg_neg _ _).mpr ((i64_lt _ _).mpr c)) hQ
  · refine br_f (fun z => c ((i64_lt _ _).mp ((lg_neg _ _).mp z))) (br_t ((lg_pos _ _).mpr ((i64_lt _ _).mpr ?_)) hQ)
    by_cases d : hi < v
    · exact d
    · exact absurd ⟨Int32.not_lt.mp c, Int32.not_lt.mp d⟩ h
/-- a number from 0 to n, or not -/
theorem rg (v : Int32) (n : Nat) (hn : n < 2 ^ 31) : (∃ j, j ≤ n ∧ v = nI j) ∨ ¬ (0 ≤ v ∧ v ≤ nI n) := by
  by_cases c : 0 ≤ v ∧ v ≤ nI n
  · exact Or.inl (nI_of2 (M := nI n) (nI_toInt hn) (Int32.not_lt.mpr c.1) c.2)
  · exact Or.inr c
theorem nb0 : narrow .boolean (.int 0) = .int 0 := rfl
theorem nb1 : narrow .boolean (.int 1) = .int 1 := rfl
theorem n_in {j n : Nat} (h : j ≤ n) (hn : n < 2 ^ 31) : 0 ≤ nI j ∧ nI j ≤ nI n := ⟨nI_pos' (by omega), (cle (by omega) hn).mpr h⟩
theorem wn_t {j n : Nat} {Q : Int32 → Prop} (h : j ≤ n) (hn : n < 2 ^ 31) (hQ : Q 1) : wp_X9_isWithin (nI j) 0 (nI n) Q := w_t (n_in h hn).1 (n_in h hn).2 hQ
theorem inn_t {j n : Nat} {Q : Int32 → Prop} (h : j ≤ n) (hn : n < 2 ^ 31) (hQ : Q 1) : wp_X10_in (nI j).toInt64 0 (nI n) Q := in_t (n_in h hn).1 (n_in h hn).2 hQ
theorem bf0 : (-1000000001 : Int32) - (-1000000001) = nI 0 := by decide
theorem bf1 : (-1000000001 : Int32) - (-1000000002) = nI 1 := by decide
theorem bf2 : (-1000000001 : Int32) - (-1000000003) = nI 2 := by decide
theorem bf3 : (-1000000001 : Int32) - (-1000000004) = nI 3 := by decide
theorem bf4 : (-1000000001 : Int32) - (-1000000005) = nI 4 := by decide
theorem bf5 : (-1000000001 : Int32) - (-1000000006) = nI 5 := by decide
theorem bf6 : (-1000000001 : Int32) - (-1000000007) = nI 6 := by decide
theorem c_fnd {fd : Nat → Int32} {f : Int32} (i : Nat) (hi : i < 7) (hf : (-1000000001) - f = nI i) {Q : Int32 → (Nat → Int32) → Prop} (hQ : Q f (upd fd i (fd i + 1))) : wp_X9_found fd f Q := by
  unfold wp_X9_found
  rw [hf, nI_clamp (by omega)]
  exact wn_t (n := 6) (by omega) (by decide) (br_f (by decide) ⟨vp_in_nI hi (by decide), vp_in_nI hi (by decide), hQ⟩)
theorem m_fnd {fo : Nat → Int32} {f : Int32} (i : Nat) (hi : i < 7) (hf : (-1000000001) - f = nI i) {Q : Int32 → (Nat → Int32) → Prop} (hQ : Q f (upd fo i (fo i + 1))) : wp_X10_finds fo f Q := by
  unfold wp_X10_finds
  rw [hf, nI_clamp (by omega)]
  exact ⟨vp_in_nI hi (by decide), vp_in_nI hi (by decide), hQ⟩
def R2 (fd fo : Nat → Int32) : Prop := ∀ i, i < 7 → fd i = fo i
theorem R2_up {fd fo : Nat → Int32} (h : R2 fd fo) {i : Nat} (hi : i < 7) : R2 (upd fd i (fd i + 1)) (upd fo i (fo i + 1)) := by
  intro j hj
  by_cases e : j = i
  · subst e; rw [pk_us, pk_us, h j hj]
  · rw [pk_un e, pk_un e]; exact h j hj
def R1 (sk ze ma ki dn wi du : Nat → Int32) (yr sz : Int32) (m : Nat → Int32) : Prop := ∃ A, RelC sk ze ma ki dn wi du sz A ∧ RelM m A yr ∧ Inv A
/-- a thing's number, or not -/
theorem rg_t (v : Int32) {n : Nat} (hn : n ≤ 8) : (∃ j, j < n ∧ v = nI j) ∨ ¬ (0 ≤ v ∧ v ≤ nI n - 1) := by
  cases n with
  | zero =>
    refine Or.inr (fun z => ?_)
    have := Int32.le_trans z.1 z.2
    exact absurd this (by decide)
  | succ n =>
    rw [nI_pred]
    rcases rg v n (by omega) with ⟨j, hj, e⟩ | h
    · exact Or.inl ⟨j, by omega, e⟩
    · exact Or.inr h
section Ask
variable {m : Nat → Int32} {A : AS} {yr : Int32} {Q : Int32 → Prop}
theorem ct_t {t n : Nat} (ht : t < n) (hn : n ≤ 8) (hQ : Q 1) : wp_X9_isThing (nI n) (nI t) Q := by
  obtain ⟨k, rfl⟩ : ∃ k, n = k + 1 := ⟨n - 1, by omega⟩
  unfold wp_X9_isThing
  rw [nI_pred]
  exact wn_t (by omega) (by omega) ⟨nb1, hQ⟩
theorem ct_f {n : Nat} {v : Int32} (h : ¬ (0 ≤ v ∧ v ≤ nI n - 1)) (hQ : Q 0) : wp_X9_isThing (nI n) v Q := w_f h ⟨nb0, hQ⟩
theorem mt_t {t : Nat} (h : RelM m A yr) (hI : Inv A) (ht : t < A 7 0) (hQ : Q 1) : wp_X10_isThing m (nI t) Q := by
  have h8 := hI.1
  unfold wp_X10_isThing
  rw [RelM_sz h]
  obtain ⟨k, hk⟩ : ∃ k, A 7 0 = k + 1 := ⟨A 7 0 - 1, by omega⟩
  rw [hk, nI_pred]
  exact ⟨vp_lit 1 (by decide) (by decide), inn_t (by omega) (by omega) ⟨nb1, hQ⟩⟩
theorem mt_f {v : Int32} (h : RelM m A yr) (hn : ¬ (0 ≤ v ∧ v ≤ nI (A 7 0) - 1)) (hQ : Q 0) : wp_X10_isThing m v Q := by
  unfold wp_X10_isThing
  rw [RelM_sz h]
  exact ⟨vp_lit 1 (by decide) (by decide), in_f hn ⟨nb0, hQ⟩⟩
theorem cp_t {p : Nat} (hp : p ≤ 5) (hQ : Q 1) : wp_X9_isPerson (nI p) Q := wn_t (n := 5) hp (by decide) ⟨nb1, hQ⟩
theorem cp_f {v : Int32} (h : ¬ (0 ≤ v ∧ v ≤ nI 5)) (hQ : Q 0) : wp_X9_isPerson v Q := w_f h ⟨nb0, hQ⟩
theorem ck_t {p : Nat} (hp : p ≤ 5) (hQ : Q 1) : wp_X9_isKind (nI p) Q := wn_t (n := 5) hp (by decide) ⟨nb1, hQ⟩
theorem ck_f {v : Int32} (h : ¬ (0 ≤ v ∧ v ≤ nI 5)) (hQ : Q 0) : wp_X9_isKind v Q := w_f h ⟨nb0, hQ⟩
theorem mp_t {p : Nat} (hp : p ≤ 5) (hQ : Q 1) : wp_X10_isPerson (nI p) Q := inn_t (n := 5) hp (by decide) ⟨nb1, hQ⟩
theorem mp_f {v : Int32} (h : ¬ (0 ≤ v ∧ v ≤ nI 5)) (hQ : Q 0) : wp_X10_isPerson v Q := in_f h ⟨nb0, hQ⟩
theorem c_exch {f : Nat → Int32} {n i : Nat} {v : Int32} {Q : Int32 → (Nat → Int32) → Prop} (hi : i < n) (hn : n < 2 ^ 31) (hQ : Q (f i) (upd f i v)) : wp_X9_exchange f n (nI i) v Q := by
  unfold wp_X9_exchange
  rw [nI_clamp (by omega)]
  exact ⟨vp_in_nI hi hn, vp_in_nI hi hn, hQ⟩
theorem m_bec {i : Nat} {v : Int32} {Q : Int32 → (Nat → Int32) → Prop} (hi : i < 52) (hQ : Q (m i) (upd m i v)) : wp_X10_becomes m (nI i) v Q := by
  unfold wp_X10_becomes
  rw [nI_clamp (by omega)]
  exact ⟨vp_in_nI hi (by decide), vp_in_nI hi (by decide), hQ⟩
end Ask
end Rg
/-! ===== the methods, both sides at once ===== -/
section Sim
variable {fd fo sk ze ma ki dn wi du m : Nat → Int32} {yr sz : Int32}
theorem sim_turn (h1 : R1 sk ze ma ki dn wi du yr sz m) (h2 : R2 fd fo) (a1 a2 : Int32) {K : Int32 → Int32 → (Nat → Int32) → (Nat → Int32) → (Nat → Int32) → (Nat → Int32) → Prop} (hK : ∀ r fd' ki' m' fo', R1 sk ze ma ki' dn wi du yr sz m' → R2 fd' fo' → K r r fd' ki' m' fo') : wp_X9_turn fd ki sz a1 a2 (fun r c0 c1 => wp_X10_turn m fo a1 a2 (fun r' c0' c1' => K r r' c0 c1 c0' c1')) := by
  obtain ⟨A, hC, hM, hI⟩ := h1
  have hsz := hC.2.2.2.2.2.2.2
  subst hsz
  have h8 := hI.1
  have hby : K (-1000000001) (-1000000001) (upd fd 0 (fd 0 + 1)) ki m (upd fo 0 (fo 0 + 1)) := hK _ _ _ _ _ ⟨A, hC, hM, hI⟩ (R2_up h2 (by decide))
  rcases rg_t a1 h8 with ⟨t, ht, rfl⟩ | hn
  · refine ct_t ht h8 (br_f (by decide) ?_)
    rcases rg a2 5 (by decide) with ⟨k, hk, rfl⟩ | hn
    · refine ck_t hk (br_f (by decide) (c_exch (by omega) (by decide) ?_))
      refine mt_t hM hI ht (br_f (by decide) (inn_t (n := 5) hk (by decide) (br_f (by decide) ?_)))
      rw [show (20 : Int32) + 4 * nI t = nI (20 + 4 * t + 0) from by rw [← ix_t, show nI 0 = 0 from rfl, i0]]
      refine m_bec (by omega) ?_
      rw [hM _ (by omega), rm_t _ _ (by omega) (by decide), hC.2.2.2.1 t (by omega)]
      exact hK _ _ _ _ _ ⟨_, hC.u_ki t k, RelM_t hM k (by omega) (by decide) (by simp), hI.t (k := 0) k (by decide) (by simpa using hk)⟩ h2
    · refine ck_f hn (br_t rfl (c_fnd 0 (by decide) bf0 ?_))
      exact mt_t hM hI ht (br_f (by decide) (in_f hn (br_t rfl (m_fnd 0 (by decide) bf0 hby))))
  · refine ct_f hn (br_t rfl (c_fnd 0 (by decide) bf0 ?_))
    exact mt_f hM hn (br_t rfl (m_fnd 0 (by decide) bf0 hby))
end Sim
