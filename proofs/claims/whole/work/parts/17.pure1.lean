/-! ===== the pure part: a common as numbers ===== -/
/-- with whom: 0 nobody, p + 1 one of the people -/
def wI : Nat → Int32
  | 0 => -1
  | p + 1 => nI p
/-- 0 skill 1 zeal 2 made (by person), 3 kind 4 done 5 with 6 dust (by thing), 7 0 how many things -/
abbrev AS := Nat → Nat → Nat
def u2 (A : AS) (f i v : Nat) : AS := fun g j => if g = f ∧ j = i then v else A g j
def Inv (A : AS) : Prop := A 7 0 ≤ 8 ∧ (∀ p, p < 6 → A 0 p ≤ 20 ∧ A 1 p ≤ 9 ∧ A 2 p ≤ 999) ∧ ∀ t, t < 8 → A 3 t ≤ 5 ∧ A 4 t ≤ 100 ∧ A 5 t ≤ 6 ∧ A 6 t ≤ 999
def rowM (A : AS) (yr : Int32) (i : Nat) : Int32 := if i = 0 then yr else if i = 1 then nI (A 7 0) else if i < 20 then nI (A ((i - 2) % 3) ((i - 2) / 3)) else if (i - 20) % 4 = 2 then wI (A 5 ((i - 20) / 4)) else nI (A (3 + (i - 20) % 4) ((i - 20) / 4))
def RelM (m : Nat → Int32) (A : AS) (yr : Int32) : Prop := ∀ i, i < 52 → m i = rowM A yr i
def RN (f : Nat → Int32) (n : Nat) (g : Nat → Nat) : Prop := ∀ i, i < n → f i = nI (g i)
def RW (f : Nat → Int32) (n : Nat) (g : Nat → Nat) : Prop := ∀ i, i < n → f i = wI (g i)
def RelC (sk ze ma ki dn wi du : Nat → Int32) (sz : Int32) (A : AS) : Prop := RN sk 6 (A 0) ∧ RN ze 6 (A 1) ∧ RN ma 6 (A 2) ∧ RN ki 8 (A 3) ∧ RN dn 8 (A 4) ∧ RW wi 8 (A 5) ∧ RN du 8 (A 6) ∧ sz = nI (A 7 0)
theorem u2_s (A : AS) (f i v : Nat) : u2 A f i v f i = v := by simp [u2]
theorem u2_f {A : AS} {f i v g j : Nat} (h : g ≠ f) : u2 A f i v g j = A g j := by simp [u2, h]
theorem u2_i {A : AS} {f i v g j : Nat} (h : j ≠ i) : u2 A f i v g j = A g j := by simp [u2, h]
theorem RN_up {f : Nat → Int32} {n : Nat} {A : AS} {k : Nat} (h : RN f n (A k)) (i v : Nat) : RN (upd f i (nI v)) n (u2 A k i v k) := by
  intro j hj
  by_cases e : j = i
  · subst e; rw [pk_us, u2_s]
  · rw [pk_un e, u2_i e]; exact h j hj
theorem RW_up {f : Nat → Int32} {n : Nat} {A : AS} {k : Nat} (h : RW f n (A k)) (i v : Nat) : RW (upd f i (wI v)) n (u2 A k i v k) := by
  intro j hj
  by_cases e : j = i
  · subst e; rw [pk_us, u2_s]
  · rw [pk_un e, u2_i e]; exact h j hj
theorem RN_o {f : Nat → Int32} {n : Nat} {A : AS} {k : Nat} (h : RN f n (A k)) {g : Nat} (i v : Nat) (hg : k ≠ g) : RN f n (u2 A g i v k) := by
  intro j hj; rw [u2_f hg]; exact h j hj
theorem RW_o {f : Nat → Int32} {n : Nat} {A : AS} {k : Nat} (h : RW f n (A k)) {g : Nat} (i v : Nat) (hg : k ≠ g) : RW f n (u2 A g i v k) := by
  intro j hj; rw [u2_f hg]; exact h j hj
theorem rm_p (A : AS) (yr : Int32) {p k : Nat} (hp : p < 6) (hk : k < 3) : rowM A yr (2 + 3 * p + k) = nI (A k p) := by
  have h1 : (2 + 3 * p + k - 2) % 3 = k := by omega
  have h2 : (2 + 3 * p + k - 2) / 3 = p := by omega
  simp only [rowM]
  rw [if_neg (by omega), if_neg (by omega), if_pos (by omega), h1, h2]
theorem rm_t (A : AS) (yr : Int32) {t k : Nat} (ht : t < 8) (hk : k < 4) : rowM A yr (20 + 4 * t + k) = if k = 2 then wI (A 5 t) else nI (A (3 + k) t) := by
  have h1 : (20 + 4 * t + k - 20) % 4 = k := by omega
  have h2 : (20 + 4 * t + k - 20) / 4 = t := by omega
  simp only [rowM]
  rw [if_neg (by omega), if_neg (by omega), if_neg (by omega), h1, h2]
theorem ix_p (p k : Nat) : ((2 : Int32) + (3 * nI p)) + nI k = nI (2 + 3 * p + k) := by
  rw [show (2 : Int32) = nI 2 from rfl, show (3 : Int32) = nI 3 from rfl, pk_mul, nI_add, nI_add]
theorem ix_t (t k : Nat) : ((20 : Int32) + (4 * nI t)) + nI k = nI (20 + 4 * t + k) := by
  rw [show (20 : Int32) = nI 20 from rfl, show (4 : Int32) = nI 4 from rfl, pk_mul, nI_add, nI_add]
theorem RelM_p {m : Nat → Int32} {A : AS} {yr : Int32} (h : RelM m A yr) {p k : Nat} (v : Nat) (hp : p < 6) (hk : k < 3) : RelM (upd m (2 + 3 * p + k) (nI v)) (u2 A k p v) yr := by
  intro i hi
  by_cases e : i = 2 + 3 * p + k
  · subst e; rw [pk_us, rm_p _ _ hp hk, u2_s]
  · rw [pk_un e, h i hi]
    simp only [rowM]
    by_cases h0 : i = 0
    · rw [if_pos h0, if_pos h0]
    · rw [if_neg h0, if_neg h0]
      by_cases h1 : i = 1
      · rw [if_pos h1, if_pos h1, u2_f (by omega)]
      · rw [if_neg h1, if_neg h1]
        by_cases h2 : i < 20
        · rw [if_pos h2, if_pos h2]
          by_cases h3 : (i - 2) % 3 = k
          · rw [u2_i (by omega)]
          · rw [u2_f h3]
        · rw [if_neg h2, if_neg h2, u2_f (by omega), u2_f (by omega)]
theorem RelM_t {m : Nat → Int32} {A : AS} {yr : Int32} (h : RelM m A yr) {t k : Nat} (v : Nat) {x : Int32} (ht : t < 8) (hk : k < 4) (hx : x = if k = 2 then wI v else nI v) : RelM (upd m (20 + 4 * t + k) x) (u2 A (3 + k) t v) yr := by
  intro i hi
  by_cases e : i = 20 + 4 * t + k
  · subst e; rw [pk_us, rm_t _ _ ht hk, hx]
    by_cases hk2 : k = 2
    · subst hk2; rw [if_pos rfl, if_pos rfl, u2_s]
    · rw [if_neg hk2, if_neg hk2, u2_s]
  · rw [pk_un e, h i hi]
    simp only [rowM]
    by_cases h0 : i = 0
    · rw [if_pos h0, if_pos h0]
    · rw [if_neg h0, if_neg h0]
      by_cases h1 : i = 1
      · rw [if_pos h1, if_pos h1, u2_f (by omega)]
      · rw [if_neg h1, if_neg h1]
        by_cases h2 : i < 20
        · rw [if_pos h2, if_pos h2, u2_f (by omega)]
        · rw [if_neg h2, if_neg h2]
          by_cases h3 : (i - 20) % 4 = k
          · have h4 : (i - 20) / 4 ≠ t := by omega
            rw [u2_i h4, u2_i h4]
          · by_cases h5 : (i - 20) % 4 = 2
            · rw [if_pos h5, if_pos h5, u2_f (by omega)]
            · rw [if_neg h5, if_neg h5, u2_f (by omega)]
theorem RelM_y {m : Nat → Int32} {A : AS} {yr : Int32} (h : RelM m A yr) (y : Int32) : RelM (upd m 0 y) A y := by
  intro i hi
  by_cases e : i = 0
  · subst e; rw [pk_us]; rfl
  · rw [pk_un e, h i hi]; simp only [rowM]; rw [if_neg e, if_neg e]
theorem RelM_n {m : Nat → Int32} {A : AS} {yr : Int32} (h : RelM m A yr) (n : Nat) : RelM (upd m 1 (nI n)) (u2 A 7 0 n) yr := by
  intro i hi
  by_cases e : i = 1
  · subst e; rw [pk_us]; simp [rowM, u2_s]
  · rw [pk_un e, h i hi]; simp only [rowM]
    by_cases h0 : i = 0
    · rw [if_pos h0, if_pos h0]
    · rw [if_neg h0, if_neg h0, if_neg e, if_neg e]
      by_cases h2 : i < 20
      · rw [if_pos h2, if_pos h2, u2_f (by omega)]
      · rw [if_neg h2, if_neg h2, u2_f (by omega), u2_f (by omega)]
theorem RelM_sz {m : Nat → Int32} {A : AS} {yr : Int32} (h : RelM m A yr) : m ((1 : Int32).toNatClampNeg) = nI (A 7 0) := h 1 (by decide)
theorem RelM_yr {m : Nat → Int32} {A : AS} {yr : Int32} (h : RelM m A yr) : m ((0 : Int32).toNatClampNeg) = yr := h 0 (by decide)
theorem vp_lit (n : Nat) {N : Nat} (h : n < N) (hN : N < 2 ^ 31) : vp_in (nI n) N := vp_in_nI h hN
section Mit
variable {m : Nat → Int32} {A : AS} {yr : Int32} {t p : Nat}
theorem m_it {k : Nat} (h : RelM m A yr) (ht : t < 8) (hk : k < 4) {Q : Int32 → Prop} (hQ : Q (if k = 2 then wI (A 5 t) else nI (A (3 + k) t))) : wp_X10_it m (nI t) (nI k) Q := by
  unfold wp_X10_it
  rw [ix_t]
  refine ⟨vp_in_nI (by omega) (by decide), ?_⟩
  rw [nI_clamp (by omega), h _ (by omega), rm_t _ _ ht hk]
  exact hQ
theorem m_it0 (h : RelM m A yr) (ht : t < 8) {Q : Int32 → Prop} (hQ : Q (nI (A 3 t))) : wp_X10_it m (nI t) 0 Q := m_it (k := 0) h ht (by decide) hQ
theorem m_it1 (h : RelM m A yr) (ht : t < 8) {Q : Int32 → Prop} (hQ : Q (nI (A 4 t))) : wp_X10_it m (nI t) 1 Q := m_it (k := 1) h ht (by decide) hQ
theorem m_it2 (h : RelM m A yr) (ht : t < 8) {Q : Int32 → Prop} (hQ : Q (wI (A 5 t))) : wp_X10_it m (nI t) 2 Q := m_it (k := 2) h ht (by decide) hQ
theorem m_it3 (h : RelM m A yr) (ht : t < 8) {Q : Int32 → Prop} (hQ : Q (nI (A 6 t))) : wp_X10_it m (nI t) 3 Q := m_it (k := 3) h ht (by decide) hQ
theorem m_put {k v : Nat} {x : Int32} (h : RelM m A yr) (ht : t < 8) (hk : k < 4) (hx : x = if k = 2 then wI v else nI v) {Q : (Nat → Int32) → Prop} (hQ : ∀ m', RelM m' (u2 A (3 + k) t v) yr → Q m') : wp_X10_put m (nI t) (nI k) x Q := by
  unfold wp_X10_put
  rw [ix_t]
  refine ⟨vp_in_nI (by omega) (by decide), ?_⟩
  rw [nI_clamp (by omega)]
  exact hQ _ (RelM_t h v ht hk hx)
theorem m_his {k : Nat} (h : RelM m A yr) (hp : p < 6) (hk : k < 3) {Q : Int32 → Prop} (hQ : Q (nI (A k p))) : wp_X10_his m (nI p) (nI k) Q := by
  unfold wp_X10_his
  rw [ix_p]
  refine ⟨vp_in_nI (by omega) (by decide), ?_⟩
  rw [nI_clamp (by omega), h _ (by omega), rm_p _ _ hp hk]
  exact hQ
theorem m_gets {k v : Nat} (h : RelM m A yr) (hp : p < 6) (hk : k < 3) {Q : (Nat → Int32) → Prop} (hQ : ∀ m', RelM m' (u2 A k p v) yr → Q m') : wp_X10_gets m (nI p) (nI k) (nI v) Q := by
  unfold wp_X10_gets
  rw [ix_p]
  refine ⟨vp_in_nI (by omega) (by decide), ?_⟩
  rw [nI_clamp (by omega)]
  exact hQ _ (RelM_p h v hp hk)
end Mit
/-- comparisons of small numbers -/
theorem cq {a b : Nat} (ha : a < 2 ^ 31) (hb : b < 2 ^ 31 := by decide) : nI a = nI b ↔ a = b := nI_eq ha hb
theorem cle {a b : Nat} (ha : a < 2 ^ 31) (hb : b < 2 ^ 31) : nI a ≤ nI b ↔ a ≤ b := nI_leI ha hb
theorem clt {a b : Nat} (ha : a < 2 ^ 31) (hb : b < 2 ^ 31) : nI a < nI b ↔ a < b := nI_ltI ha hb
theorem wI_neg (w : Nat) (h : w < 2 ^ 31) : wI w < 0 ↔ w = 0 := by
  cases w with
  | zero => simp [wI]
  | succ p => simp [wI]; exact nI_pos' (by omega)
theorem wI_m1 (w : Nat) (h : w < 2 ^ 31) : wI w = (-1) ↔ w = 0 := by
  cases w with
  | zero => simp [wI]
  | succ p =>
    simp only [wI]
    constructor
    · intro e
      have h1 := nI_pos' (n := p) (by omega)
      rw [e] at h1
      exact absurd h1 (by decide)
    · intro e; omega
theorem wI_p (w p : Nat) (h : w < 2 ^ 31) (hp : p < 2 ^ 31) : wI w = nI p ↔ w = p + 1 := by
  cases w with
  | zero =>
    simp only [wI]
    constructor
    · intro e
      have h1 := nI_pos' (n := p) hp
      rw [← e] at h1
      exact absurd h1 (by decide)
    · intro e; omega
  | succ q =>
    simp only [wI]
    rw [cq (by omega) hp]
    omega
