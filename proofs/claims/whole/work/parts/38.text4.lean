section T4
variable {y : Nat → Nat} {n : Nat} {bb ta : Nat → Int32} {sk ze ma ki dn wi du m wa : Nat → Int32} {yr sz : Int32} {A : AS}
abbrev QJ := (Nat → Int32) → Int32 → Int32 → Int32 → Int32 → Int32 → Prop
def QM (y : Nat → Nat) (n : Nat) (yr : Int32) (Q : QJ) (o : Bool × AS × Nat) : Prop := ∀ m', RelM m' o.2.1 yr → Q m' (nI (tk y n o.2.2)) (nI (tS y n o.2.2)) (nI (tE y n o.2.2)) (nI (tV y n o.2.2)) (b01 (!o.1))
theorem m_item (hT : Tx y n bb ta) {a : Nat} (ha : a ≤ n) (hM : RelM m A yr) (hI : Inv A) {Q : QJ} (hQ : QM y n yr Q (itN y n A a)) : wp_X10_item m ta (nI n) (nI (tk y n a)) (nI (tS y n a)) (nI (tE y n a)) (nI (tV y n a)) 0 Q := by
  have hn := hT.1
  have h8 := hI.1
  have hk := tk_r (y := y) (n := n) a
  have l1 := (tE_r (y := y) ha).2.1
  have l2 := (tE_r (y := y) l1).2.1
  have l3 := (tE_r (y := y) l2).2.1
  have l4 := (tE_r (y := y) l3).2.1
  have l5 := (tE_r (y := y) l4).2.1
  refine ek_if (clt (a := 5) (by decide) (by omega)) (fun c5 => ?_) (fun c5 => ?_)
  · unfold itN at hQ
    rw [if_neg (by omega)] at hQ
    refine ek_if (cq (b := 8) (by omega)) (fun w8 => ?_) (fun w8 => ek_if (cq (b := 9) (by omega)) (fun w9 => ?_) (fun w9 => ?_))
    · rw [if_pos (Or.inl w8), if_pos w8] at hQ
      refine br_t ((cq (b := 8) (by omega)).mpr w8) (m_reads hT l1 (m_num hT (M := 5) l1 (by decide) (fun k1 => ?_) (fun k1 => m_num1 (br_f (by decide) ?_))))
      · rw [if_pos k1] at hQ
        have v5 := k1.2
        refine m_num hT (M := 20) l2 (by decide) (fun k2 => br_t rfl (m_gets (k := 0) hM (by omega) (by decide) (fun m' h' => ?_))) (fun k2 => br_f (by decide) ?_)
        · rw [if_pos k2, w8] at hQ
          exact hQ m' h'
        · rw [if_neg k2] at hQ
          exact hQ m hM
      · rw [if_neg k1] at hQ
        exact hQ m hM
    · rw [if_pos (Or.inr w9), if_neg w8] at hQ
      refine br_f (fun z => w8 ((cq (b := 8) (by omega)).mp z)) (m_reads hT l1 (m_num hT (M := 5) l1 (by decide) (fun k1 => ?_) (fun k1 => m_num1 (br_f (by decide) ?_))))
      · rw [if_pos k1] at hQ
        have v5 := k1.2
        refine m_num hT (M := 9) l2 (by decide) (fun k2 => br_t rfl (m_gets (k := 1) hM (by omega) (by decide) (fun m' h' => ?_))) (fun k2 => br_f (by decide) ?_)
        · rw [if_pos k2, w9] at hQ
          exact hQ m' h'
        · rw [if_neg k2] at hQ
          exact hQ m hM
      · rw [if_neg k1] at hQ
        exact hQ m hM
    · rw [if_neg (by omega)] at hQ
      exact hQ m hM
  · unfold itN at hQ
    rw [if_pos (by omega)] at hQ
    unfold wp_X10_thingItem
    rw [RelM_sz hM]
    refine ⟨vp_lit 1 (by decide) (by decide), ek_if (cq (b := 8) (by omega)) (fun c8 => ?_) (fun c8 => ?_)⟩
    · rw [if_pos c8] at hQ
      exact hQ m hM
    · rw [if_neg c8] at hQ
      have add : ∀ (d w u a' : Nat), QM y n yr Q (true, addN A (tk y n a) d w u, a') → wp_X10_comesAs m (nI (tk y n a)) (nI d) (wI w) (nI u) (fun r6 c6_0 => Q c6_0 (nI (tk y n a')) (nI (tS y n a')) (nI (tE y n a')) (nI (tV y n a')) 0) := fun d w u a' h => m_comesAs hM (by omega) (tk y n a) d w u (fun m' h' => h m' h')
      refine m_reads hT l1 (m_num hT (M := 99) l1 (by decide) (fun k1 => ?_) (fun k1 => m_perh1 (m_perh1 (br_f (by decide) ?_))))
      · rw [if_pos k1] at hQ
        refine m_perh hT (w := 6) (M := 5) l2 (by decide) (by decide) (fun w6 k3 => ?_) (fun w6 k3 => m_perh1 (br_f (by decide) ?_)) (fun w6 => ?_)
        · rw [if_pos w6, if_pos k3] at hQ
          refine m_perh hT (w := 7) (M := 999) l4 (by decide) (by decide) (fun w7 k5 => br_t rfl ?_) (fun w7 k5 => br_f (by decide) ?_) (fun w7 => br_t rfl ?_)
          · rw [if_pos w7, if_pos k5] at hQ; exact add _ _ _ _ hQ
          · rw [if_pos w7, if_neg k5] at hQ; exact hQ m hM
          · rw [if_neg w7] at hQ; exact add _ _ 0 _ hQ
        · rw [if_pos w6, if_neg k3] at hQ; exact hQ m hM
        · rw [if_neg w6] at hQ
          refine m_perh hT (w := 7) (M := 999) l2 (by decide) (by decide) (fun w7 k5 => br_t rfl ?_) (fun w7 k5 => br_f (by decide) ?_) (fun w7 => br_t rfl ?_)
          · rw [if_pos w7, if_pos k5] at hQ; exact add _ 0 _ _ hQ
          · rw [if_pos w7, if_neg k5] at hQ; exact hQ m hM
          · rw [if_neg w7] at hQ; exact add _ 0 0 _ hQ
      · rw [if_neg k1] at hQ; exact hQ m hM
theorem itN_r {a : Nat} (ha : a ≤ n) (hI : Inv A) : Inv (itN y n A a).2.1 ∧ (itN y n A a).2.2 ≤ n ∧ a ≤ (itN y n A a).2.2 ∧ ((itN y n A a).1 = true → a + 1 ≤ (itN y n A a).2.2) := by
  have h8 := hI.1
  have h0 := tS_r (y := y) ha
  have l1 := tE_r (y := y) ha
  have l2 := tE_r (y := y) l1.2.1
  have l3 := tE_r (y := y) l2.2.1
  have l4 := tE_r (y := y) l3.2.1
  have l5 := tE_r (y := y) l4.2.1
  have l6 := tE_r (y := y) l5.2.1
  have pr : tk y n a ≤ 9 → a + 1 ≤ tE y n a := fun h => by have := l1.2.2.1 (by have := tk_w h; omega); omega
  unfold itN
  by_cases c5 : tk y n a ≤ 5
  · have p := pr (by omega)
    rw [if_pos c5]
    by_cases c8 : A 7 0 = 8
    · rw [if_pos c8]; exact ⟨hI, ha, by dsimp; omega, fun z => absurd (show false = true from z) (by decide)⟩
    · rw [if_neg c8]
      by_cases k1 : nOK y n (tE y n a) 99
      · rw [if_pos k1]
        have v1 := k1.2
        by_cases w6 : tk y n (tE y n (tE y n a)) = 6
        · rw [if_pos w6]
          by_cases k3 : nOK y n (tE y n (tE y n (tE y n a))) 5
          · rw [if_pos k3]
            have v3 := k3.2
            by_cases w7 : tk y n (tE y n (tE y n (tE y n (tE y n a)))) = 7
            · rw [if_pos w7]
              by_cases k5 : nOK y n (tE y n (tE y n (tE y n (tE y n (tE y n a))))) 999
              · rw [if_pos k5]
                exact ⟨addN_inv hI (by omega) c5 (by omega) (by omega) k5.2, by dsimp; omega, by dsimp; omega, fun _ => by dsimp; omega⟩
              · rw [if_neg k5]; exact ⟨hI, by dsimp; omega, by dsimp; omega, fun _ => by dsimp; omega⟩
            · rw [if_neg w7]
              exact ⟨addN_inv hI (by omega) c5 (by omega) (by omega) (by omega), by dsimp; omega, by dsimp; omega, fun _ => by dsimp; omega⟩
          · rw [if_neg k3]; exact ⟨hI, by dsimp; omega, by dsimp; omega, fun _ => by dsimp; omega⟩
        · rw [if_neg w6]
          by_cases w7 : tk y n (tE y n (tE y n a)) = 7
          · rw [if_pos w7]
            by_cases k5 : nOK y n (tE y n (tE y n (tE y n a))) 999
            · rw [if_pos k5]
              exact ⟨addN_inv hI (by omega) c5 (by omega) (by omega) k5.2, by dsimp; omega, by dsimp; omega, fun _ => by dsimp; omega⟩
            · rw [if_neg k5]; exact ⟨hI, by dsimp; omega, by dsimp; omega, fun _ => by dsimp; omega⟩
          · rw [if_neg w7]
            exact ⟨addN_inv hI (by omega) c5 (by omega) (by omega) (by omega), by dsimp; omega, by dsimp; omega, fun _ => by dsimp; omega⟩
      · rw [if_neg k1]; exact ⟨hI, by dsimp; omega, by dsimp; omega, fun _ => by dsimp; omega⟩
  · rw [if_neg c5]
    by_cases c9 : tk y n a = 8 ∨ tk y n a = 9
    · have p := pr (by omega)
      rw [if_pos c9]
      by_cases k1 : nOK y n (tE y n a) 5
      · rw [if_pos k1]
        by_cases k2 : nOK y n (tE y n (tE y n a)) (if tk y n a = 8 then 20 else 9)
        · rw [if_pos k2]
          have v2 := k2.2
          refine ⟨hI.p _ (by omega) ?_, by dsimp; omega, by dsimp; omega, fun _ => by dsimp; omega⟩
          rcases c9 with e | e
          · rw [e] at v2 ⊢; simpa using v2
          · rw [e] at v2 ⊢; simpa using v2
        · rw [if_neg k2]; exact ⟨hI, by dsimp; omega, by dsimp; omega, fun _ => by dsimp; omega⟩
      · rw [if_neg k1]; exact ⟨hI, by dsimp; omega, by dsimp; omega, fun _ => by dsimp; omega⟩
    · rw [if_neg c9]; exact ⟨hI, ha, by dsimp; omega, fun z => absurd (show false = true from z) (by decide)⟩
/-! ===== the whole text ===== -/
def afN (y : Nat → Nat) (n : Nat) : Nat → Nat → AS → Nat → Bool × Nat × AS × Nat
  | 0, x, A, a => (false, x, A, a)
  | r + 1, x, A, a => if tk y n a = 22 then (true, x, A, a) else if tk y n a = 21 then (if (itN y n A (tE y n a)).1 = true then afN y n r (x + 1) (itN y n A (tE y n a)).2.1 (itN y n A (tE y n a)).2.2 else (false, x + 1, (itN y n A (tE y n a)).2.1, (itN y n A (tE y n a)).2.2)) else (false, x, A, a)
def tpN (y : Nat → Nat) (n r x : Nat) (A : AS) (a : Nat) : Bool × Nat × AS × Nat := if (itN y n A a).1 = true then afN y n r x (itN y n A a).2.1 (itN y n A a).2.2 else (false, x, (itN y n A a).2.1, (itN y n A a).2.2)
theorem afN_inv : ∀ r x A a, Inv A → a ≤ n → Inv (afN y n r x A a).2.2.1 ∧ (afN y n r x A a).2.2.2 ≤ n ∧ (afN y n r x A a).2.1 ≤ x + r := by
  intro r
  induction r with
  | zero => intro x A a h ha; exact ⟨h, ha, by dsimp [afN]; omega⟩
  | succ r ih =>
    intro x A a h ha
    have l1 := tE_r (y := y) ha
    have it := itN_r (y := y) (A := A) l1.2.1 h
    simp only [afN]
    split
    · exact ⟨h, ha, by dsimp; omega⟩
    · split
      · split
        · have := ih (x + 1) (itN y n A (tE y n a)).2.1 (itN y n A (tE y n a)).2.2 it.1 it.2.1
          exact ⟨this.1, this.2.1, by omega⟩
        · exact ⟨it.1, it.2.1, by dsimp; omega⟩
      · exact ⟨h, ha, by dsimp; omega⟩
theorem tpN_inv {r x a : Nat} (h : Inv A) (ha : a ≤ n) : Inv (tpN y n r x A a).2.2.1 ∧ (tpN y n r x A a).2.2.2 ≤ n ∧ (tpN y n r x A a).2.1 ≤ x + r := by
  have it := itN_r (y := y) (A := A) ha h
  unfold tpN
  split
  · exact afN_inv _ _ _ _ it.1 it.2.1
  · exact ⟨it.1, it.2.1, by dsimp; omega⟩
def PC (y : Nat → Nat) (n : Nat) (ma : Nat → Int32) (Q : QI) (o : Bool × Nat × AS × Nat) : Prop := ∀ sk' ze' ki' dn' wi' du' sz', RelC sk' ze' ma ki' dn' wi' du' sz' o.2.2.1 → Q (if o.1 = true then nI o.2.1 else (-1) - nI (tS y n o.2.2.2)) (nI (tK y n o.2.2.2)) (nI (tS y n o.2.2.2)) (nI (tE y n o.2.2.2)) sk' ze' ki' dn' wi' du' sz'
theorem c_tell_l (hT : Tx y n bb ta) {Q K : QI} : ∀ r x (A : AS) a (sk ze ki dn wi du : Nat → Int32) (sz : Int32), n < a + r → a ≤ n → 2 * x ≤ a + 2 → RelC sk ze ma ki dn wi du sz A → Inv A → PC y n ma Q (tpN y n r x A a) → wpl_X8_tellTo_11 bb (nI n) Q K r (nI x) (nI (tK y n a)) (nI (tS y n a)) (nI (tE y n a)) sk ze ki dn wi du sz := by
  have hn := hT.1
  intro r
  induction r with
  | zero => intro x A a sk ze ki dn wi du sz h1 h2 _ _ _ _; omega
  | succ r ih =>
    intro x A a sk ze ki dn wi du sz h1 h2 hx hC hI hP
    have it := itN_r (y := y) (A := A) h2 hI
    rw [wpl_X8_tellTo_11, nI_1]
    refine br_f (fun z => absurd ((clt (a := 120) (by decide) (by omega)).mp z) (by omega)) (c_item hT h2 hC hI ?_)
    intro sk' ze' ki' dn' wi' du' sz' hC'
    unfold tpN at hP
    generalize itN y n A a = o at *
    obtain ⟨ok, A1, a1⟩ := o
    dsimp only at *
    have hk := tK_r (y := y) (n := n) a1
    cases ok with
    | false => exact br_t rfl (hP _ _ _ _ _ _ _ hC')
    | true =>
      have l1 := tE_r (y := y) it.2.1
      refine br_f (by decide) ?_
      rw [if_pos rfl] at hP
      simp only [afN] at hP
      refine ek_if (cq (b := 0) (by omega)) (fun c => ?_) (fun c => ek_if (cq (b := 3) (by omega)) (fun c3 => ?_) (fun c3 => ?_))
      · rw [if_pos (tk_22.mpr c)] at hP; exact hP _ _ _ _ _ _ _ hC'
      · rw [if_neg (fun z => c (tk_22.mp z)), if_pos (tk_21.mpr c3)] at hP
        have q := l1.2.2.1 c
        have q0 := tS_r (y := y) it.2.1
        have q1 := it.2.2.2 rfl
        exact c_next hT l1.2.1 (ih (x + 1) A1 (tE y n a1) _ _ _ _ _ _ _ (by omega) l1.2.1 (by omega) hC' it.1 hP)
      · rw [if_neg (fun z => c (tk_22.mp z)), if_neg (fun z => c3 (tk_21.mp z))] at hP; exact hP _ _ _ _ _ _ _ hC'
def PM (y : Nat → Nat) (n : Nat) (yr : Int32) (K : Int32 → (Nat → Int32) → Int32 → Int32 → Int32 → Int32 → Int32 → Prop) (o : Bool × Nat × AS × Nat) : Prop := ∀ m', RelM m' o.2.2.1 yr → (o.1 = true → K (nI o.2.1) m' 22 (nI (tS y n o.2.2.2)) (nI (tE y n o.2.2.2)) (nI (tV y n o.2.2.2)) 0) ∧ (o.1 = false → ∀ x k v bd, (bd = 0 → k ≠ 22) → K x m' k (nI (tS y n o.2.2.2)) (nI (tE y n o.2.2.2)) v bd)
theorem m_bad {r : Nat} (hr : 1 ≤ r) {td x k s e v : Int32} {K : Int32 → (Nat → Int32) → Int32 → Int32 → Int32 → Int32 → Int32 → Prop} (h : K x m k s e v 1) : wpl_X10_common_24 ta td K r x m k s e v 1 := by
  obtain ⟨r, rfl⟩ : ∃ q, r = q + 1 := ⟨r - 1, by omega⟩
  rw [wpl_X10_common_24]
  exact br_f (by decide) (br_t rfl h)
theorem m_aft_l (hT : Tx y n bb ta) {K : Int32 → (Nat → Int32) → Int32 → Int32 → Int32 → Int32 → Int32 → Prop} : ∀ r x (A : AS) a (m : Nat → Int32), n < a + r → a ≤ n → RelM m A yr → Inv A → PM y n yr K (afN y n r x A a) → wpl_X10_common_24 ta (nI n) K r (nI x) m (nI (tk y n a)) (nI (tS y n a)) (nI (tE y n a)) (nI (tV y n a)) 0 := by
  have hn := hT.1
  intro r
  induction r with
  | zero => intro x A a m h1 h2 _ _ _; omega
  | succ r ih =>
    intro x A a m h1 h2 hM hI hP
    have l0 := tS_r (y := y) h2
    have l1 := tE_r (y := y) h2
    have hk := tk_r (y := y) (n := n) a
    have it := itN_r (y := y) (A := A) l1.2.1 hI
    rw [wpl_X10_common_24, nI_1]
    simp only [afN] at hP
    refine br_t rfl (ek_if (cq (b := 21) (by omega)) (fun c => ?_) (fun c => br_t rfl ?_))
    · rw [if_neg (by omega), if_pos c] at hP
      have q := l1.2.2.1 (by have := tk_21.mp c; omega)
      refine m_reads hT l1.2.1 (br_f (by decide) (m_item hT l1.2.1 hM hI ?_))
      intro m' hM'
      generalize itN y n A (tE y n a) = o at *
      obtain ⟨ok, A1, a1⟩ := o
      dsimp only at *
      cases ok with
      | false =>
        rw [if_neg (by decide)] at hP
        exact m_bad (by omega) ((hP m' hM').2 rfl _ _ _ _ (fun z => absurd z (by decide)))
      | true =>
        rw [if_pos rfl] at hP
        exact ih (x + 1) A1 a1 m' (by omega) it.2.1 hM' it.1 hP
    · rw [if_neg c] at hP
      by_cases c22 : tk y n a = 22
      · rw [if_pos c22] at hP
        have := (hP m hM).1 rfl
        rw [c22]
        exact this
      · rw [if_neg c22] at hP
        exact (hP m hM).2 rfl _ _ _ _ (fun _ z => c22 ((cq (b := 22) (by omega)).mp z))
theorem m1_neg (s : Nat) (h : s ≤ 1000) : (-1 : Int32) - nI s < 0 := by
  have h1 : ((-1 : Int32) - nI s).toInt = -1 - (s : Int) := by
    rw [Int32.toInt_sub, nI_toInt (by omega), show (-1 : Int32).toInt = -1 from rfl]
    exact Int.bmod_eq_of_le (by omega) (by omega)
  rw [Int32.lt_iff_toInt_lt, h1, show (0 : Int32).toInt = 0 from rfl]
  omega
abbrev KC := Int32 → Int32 → Int32 → Int32 → Int32 → Int32 → (Nat → Int32) → (Nat → Int32) → (Nat → Int32) → (Nat → Int32) → (Nat → Int32) → (Nat → Int32) → (Nat → Int32) → Int32 → Int32 → (Nat → Int32) → (Nat → Int32) → (Nat → Int32) → (Nat → Int32) → (Nat → Int32) → (Nat → Int32) → (Nat → Int32) → Int32 → Int32 → (Nat → Int32) → (Nat → Int32) → Int32 → Int32 → Int32 → Int32 → Int32 → Int32 → Prop
theorem sim_common {pln td : Int32} {pbb ta : Nat → Int32} (h1 : R1 sk ze ma ki dn wi du yr sz m) (h4 : R4 pbb pln ta td) (tsk tze tma tki tdn twi tdu wa : Nat → Int32) {K : KC} (hK : ∀ r pl' s0 s1 s2 t0 t1 t2 t3 t4 t5 t6 t7 t8 l0 l1 l2 l3 l4 l5 l6 l7 l8 m' wa' td' k0 k1 k2 k3 k4, R1 l0 l1 l2 l3 l4 l5 l6 l7 l8 m' → R4 pbb pl' ta td' → K r r pl' s0 s1 s2 t0 t1 t2 t3 t4 t5 t6 t7 t8 l0 l1 l2 l3 l4 l5 l6 l7 l8 m' wa' td' k0 k1 k2 k3 k4) : wp_X9_common pbb pln tsk tze tma tki tdn twi tdu sk ze ma ki dn wi du yr sz (fun r c0 c1 c2 c3 c4 c5 c6 c7 c8 c9 c10 c11 c12 c13 c14 c15 c16 c17 c18 c19 c20 c21 => wp_X10_common m wa ta td (fun r' d0 d1 d2 d3 d4 d5 d6 d7 => K r r' c0 c1 c2 c3 c4 c5 c6 c7 c8 c9 c10 c11 c12 c13 c14 c15 c16 c17 c18 c19 c20 c21 d0 d1 d2 d3 d4 d5 d6 d7)) := by
  obtain ⟨A, hC, hM, hI⟩ := id h1
  obtain ⟨n, hn, e1, e2, hb⟩ := id h4
  subst e1 e2
  have h40 : R4 pbb 0 ta 0 := ⟨0, by omega, rfl, rfl, fun i hi => by omega⟩
  have hT : Tx (fun i => (ta i).toNatClampNeg) n pbb ta := by
    refine ⟨hn, fun i hi => ?_⟩
    obtain ⟨b, b1, b2, b3⟩ := hb i hi
    dsimp only
    rw [b2, nI_clamp (by omega)]
    exact ⟨b1, rfl, b3⟩
  generalize (fun i => (ta i).toNatClampNeg) = y at hT
  have hti := tpN_inv (y := y) (n := n) (r := n + 1) (x := 1) (a := 0) hI (by omega)
  have it := itN_r (y := y) (n := n) (a := 0) (A := A) (by omega) hI
  refine c_become hC (fun c0 c1 c2 c3 c4 c5 c6 hC1 => c_next hT (a := 0) (by omega) ⟨n + 1, c_tell_l hT (n + 1) 1 A 0 _ _ _ _ _ _ _ (by omega) (by omega) (by omega) hC1 hI ?_⟩)
  have mm : ∀ {Q : Int32 → (Nat → Int32) → (Nat → Int32) → Int32 → Int32 → Int32 → Int32 → Int32 → Int32 → Prop}, ((tpN y n (n + 1) 1 A 0).1 = true → ∀ m' wa' k0 k1 k2 k3 k4, RelM m' (tpN y n (n + 1) 1 A 0).2.2.1 yr → Q (nI (tpN y n (n + 1) 1 A 0).2.1) m' wa' 0 k0 k1 k2 k3 k4) → ((tpN y n (n + 1) 1 A 0).1 = false → ∀ m' wa' k0 k1 k2 k3 k4, RelM m' A yr → Q ((-1) - nI (tS y n (tpN y n (n + 1) 1 A 0).2.2.2)) m' wa' 0 k0 k1 k2 k3 k4) → wp_X10_common m wa ta (nI n) Q := by
    intro Q q1 q0
    refine m_thinks hM (fun wa' hW => m_reads hT (a := 0) (by omega) (m_item hT (a := 0) (by omega) hM hI ?_))
    intro m' hM'
    refine ⟨n + 1, ?_⟩
    unfold tpN at q1 q0
    generalize itN y n A 0 = o at *
    obtain ⟨ok, A1, a1⟩ := o
    dsimp only at *
    cases ok with
    | false =>
      refine m_bad (by omega) (br_f (by decide) (m_putsBack hW (fun m2 h2 => ?_)))
      exact q0 rfl m2 _ _ _ _ _ _ h2
    | true =>
      rw [if_pos rfl] at q1 q0
      refine m_aft_l hT (n + 1) 1 A1 a1 m' (by omega) it.2.1 hM' it.1 ?_
      intro m2 h2
      refine ⟨fun e => br_t rfl (br_t rfl (q1 e m2 _ _ _ _ _ _ h2)), fun e x k v bd hbd => ⟨fun z => br_f (hbd z) (m_putsBack hW (fun m3 h3 => q0 e m3 _ _ _ _ _ _ h3)), fun z => m_putsBack hW (fun m3 h3 => q0 e m3 _ _ _ _ _ _ h3)⟩⟩
  intro sk' ze' ki' dn' wi' du' sz' hC'
  have hts := (tS_r (y := y) hti.2.1).2
  cases hb2 : (tpN y n (n + 1) 1 A 0).1 with
  | false =>
    rw [if_neg (by decide)]
    refine br_t (m1_neg _ (by omega)) (mm (fun z => by rw [hb2] at z; exact absurd z (by decide)) (fun _ m' wa' k0 k1 k2 k3 k4 hM' => ?_))
    exact hK _ _ _ _ _ _ _ _ _ _ _ _ _ _ _ _ _ _ _ _ _ _ _ _ _ _ _ _ _ _ _ ⟨A, hC, hM', hI⟩ h40
  | true =>
    rw [if_pos rfl]
    refine br_f (Int32.not_lt.mpr (nI_pos' (by omega))) (c_becomeR hC' (fun d0 d1 d2 d3 d4 d5 d6 hC2 => mm (fun _ m' wa' k0 k1 k2 k3 k4 hM' => ?_) (fun z => by rw [hb2] at z; exact absurd z (by decide))))
    exact hK _ _ _ _ _ _ _ _ _ _ _ _ _ _ _ _ _ _ _ _ _ _ _ _ _ _ _ _ _ _ _ ⟨_, hC2, hM', hti.1⟩ h40
end T4
