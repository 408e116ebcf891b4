section T3
variable {y : Nat → Nat} {n : Nat} {bb ta : Nat → Int32}
theorem pmK : ∀ k, k < 6 → pmN k = k := by decide
theorem c_wd_l (hT : Tx y n bb ta) {s w : Nat} (hw : w < 10) (hs : s + lenS.getD (pmN w) 0 ≤ n) (hl : ∀ i, i < lenS.getD (pmN w) 0 → 97 ≤ y (s + i) ∧ y (s + i) ≤ 122) {Q K : Int32 → Prop} : ∀ r j, j + r = lenS.getD (pmN w) 0 → (eqL y s w r j = true → ∀ x, K x) → (eqL y s w r j = false → Q 0) → wpl_X8_isAtWord_28 bb (nI s) (pmN w) Q K (r + 1) (nI j) := by
  have hn := hT.1
  obtain ⟨t0, t1, t2, t3, t4⟩ := nam1 w hw
  intro r
  induction r with
  | zero =>
    intro j hj hK hQ
    rw [wpl_X8_isAtWord_28]
    exact ⟨t0, br_t ((cle (by omega) (by omega)).mpr (by omega)) (hK rfl _)⟩
  | succ r ih =>
    intro j hj hK hQ
    obtain ⟨b1, b2, b3⟩ := hT.2 (s + j) (by omega)
    have l := hl j (by omega)
    have t := t4 j (by omega)
    rw [wpl_X8_isAtWord_28, nI_1, nadd, nI_clamp (n := s + j) (by omega), nI_clamp (n := j) (by omega), b3, sb7 _ (by omega), t.2.2]
    simp only [eqL] at hK hQ
    refine ⟨t0, br_f (fun z => absurd ((cle (by omega) (by omega)).mp z) (by omega)) ⟨vp_in_nI (by omega) (by decide), ⟨t0, vp_in_nI (by omega) (by omega)⟩, ek_if (cq (by omega) (by omega)) (fun e => ?_) (fun e => ?_)⟩⟩
    · rw [if_pos e.symm] at hK hQ; exact ih (j + 1) (by omega) hK hQ
    · rw [if_neg (fun z => e z.symm)] at hQ; exact hQ rfl
theorem c_word (hT : Tx y n bb ta) {a w : Nat} (ha : a ≤ n) (hw : w < 10) {Q : Int32 → Prop} (h1 : tk y n a = w → Q 1) (h0 : ¬ tk y n a = w → Q 0) : wp_X8_isAtWord bb (nI (tK y n a)) (nI (tS y n a)) (nI (tE y n a)) (pmN w) Q := by
  have hn := hT.1
  have he := tE_r (y := y) ha
  have hk := tK_r (y := y) (n := n) a
  have t := nam1 w hw
  rw [tk_eq hw] at h1 h0
  simp only [WE, decide_eq_true_eq] at h1 h0
  refine ek_if (cq (b := 1) (by omega)) (fun k1 => ⟨t.1, ?_⟩) (fun k1 => h0 (fun z => k1 z.1))
  have hl : ∀ i, i < tE y n a - tS y n a → 97 ≤ y (tS y n a + i) ∧ y (tS y n a + i) ≤ 122 := fun i hi => srtN_1.mp (tE_in k1 (Or.inl rfl) (tS y n a + i) (by omega) (by omega))
  rw [nsub (by omega)]
  refine ek_if (cq (by omega) (by omega)) (fun e => ⟨lenS.getD (pmN w) 0 + 1, ?_⟩) (fun e => h0 (fun z => e z.2.1))
  refine c_wd_l hT hw (by omega) (fun i hi => hl i (by omega)) _ 0 (by omega) (fun q _ => h1 ⟨k1, e, fun j hj => (eqL_a _ _).mp q j (by omega) (by omega)⟩) (fun q => h0 (fun z => ?_))
  have := (eqL_a (y := y) (s := tS y n a) (w := w) (lenS.getD (pmN w) 0) 0).mpr (fun k _ hk => z.2.2 k (by omega))
  rw [q] at this
  exact absurd this (by decide)
theorem c_kind_h (hT : Tx y n bb ta) {a : Nat} (ha : a ≤ n) {Q : Int32 → Prop} (h1 : tk y n a ≤ 5 → Q (nI (tk y n a))) (h0 : ¬ tk y n a ≤ 5 → Q (-1)) : wp_X8_kindAtHand bb (nI (tK y n a)) (nI (tS y n a)) (nI (tE y n a)) Q := by
  have key : ∀ r k, k + r = 6 → k ≤ tk y n a → wpl_X8_kindAtHand_2 bb (nI (tK y n a)) (nI (tS y n a)) (nI (tE y n a)) Q (fun y3_1 => Q (-1)) (r + 1) (nI k) := by
    intro r
    induction r with
    | zero =>
      intro k hk hl
      rw [wpl_X8_kindAtHand_2, show k = 6 by omega]
      exact br_t (by decide) (h0 (by omega))
    | succ r ih =>
      intro k hk hl
      rw [wpl_X8_kindAtHand_2, nI_1, nI_clamp (by omega)]
      refine br_f (fun z => absurd ((cle (a := 6) (by decide) (by omega)).mp z) (by omega)) ⟨vp_in_nI (by omega) (by decide), ?_⟩
      have := c_word hT (w := k) ha (by omega) (Q := fun r2 => (r2 = 0 → wpl_X8_kindAtHand_2 bb (nI (tK y n a)) (nI (tS y n a)) (nI (tE y n a)) Q (fun y3_1 => Q (-1)) (r + 1) (nI (k + 1))) ∧ (¬ (r2 = 0) → Q (nI k))) (fun e => br_f (by decide) (by rw [← e]; exact h1 (by omega))) (fun e => br_t rfl (ih (k + 1) (by omega) (by omega)))
      rw [pmK k (by omega)] at this
      exact this
  exact ⟨7, key 6 0 (by omega) (by omega)⟩
theorem c_val_l (hT : Tx y n bb ta) {e : Nat} (he : e ≤ n) {K : Int32 → Int32 → Prop} : ∀ r i v, i + r = e → (∀ k, i ≤ k → k < e → 48 ≤ y k ∧ y k ≤ 57) → (∀ x, K (nI (min (valL y r i v) 1000)) x) → wpl_X8_valueAtHand_7 bb (nI e) K (r + 1) (nI (min v 1000)) (nI i) := by
  have hn := hT.1
  intro r
  induction r with
  | zero =>
    intro i v hi _ hK
    rw [wpl_X8_valueAtHand_7]
    exact br_t ((cle (by omega) (by omega)).mpr (by omega)) (hK _)
  | succ r ih =>
    intro i v hi hd hK
    have d := hd i (by omega) (by omega)
    rw [wpl_X8_valueAtHand_7, nI_1, nI_clamp (n := i) (by omega), (hT.2 i (by omega)).2.2, sb7 _ (by omega), show (10 : Int32) * nI (min v 1000) + nI (y i) - 48 = nI (10 * min v 1000 + y i - 48) from by
      rw [show (10 : Int32) = nI 10 from rfl, show (48 : Int32) = nI 48 from rfl, nmul, nadd, nsub (by omega)]]
    refine br_f (fun z => absurd ((cle (by omega) (by omega)).mp z) (by omega)) ⟨vp_in_nI (by omega) (by decide), ?_⟩
    have e1 : (if nI (10 * min v 1000 + y i - 48) < 1000 then nI (10 * min v 1000 + y i - 48) else 1000) = nI (min (if v ≤ 999 then 10 * v + y i - 48 else v) 1000) := by
      have := ifmin (a := 10 * min v 1000 + y i - 48) (c := 1000) (by omega) (by decide)
      refine this.trans (congrArg nI ?_)
      by_cases c : v ≤ 999
      · rw [if_pos c]; split <;> omega
      · rw [if_neg c]; split <;> omega
    rw [e1]
    exact ih (i + 1) _ (by omega) (fun k h1 h2 => hd k (by omega) h2) hK
abbrev nOK (y : Nat → Nat) (n a M : Nat) : Prop := tk y n a = 20 ∧ tV y n a ≤ M
theorem c_num (hT : Tx y n bb ta) {a M : Nat} (ha : a ≤ n) (hM : M ≤ 999) {Q : Int32 → Int32 → Int32 → Int32 → Prop} (h1 : nOK y n a M → Q (nI (tV y n a)) (nI (tK y n (tE y n a))) (nI (tS y n (tE y n a))) (nI (tE y n (tE y n a)))) (h0 : ¬ nOK y n a M → Q (-1) (nI (tK y n a)) (nI (tS y n a)) (nI (tE y n a))) : wp_X8_takeNumber bb (nI n) (nI (tK y n a)) (nI (tS y n a)) (nI (tE y n a)) (nI M) Q := by
  have hn := hT.1
  have he := tE_r (y := y) ha
  have hk := tK_r (y := y) (n := n) a
  have hv := tV_r (y := y) ha
  unfold nOK at h1 h0
  refine ek_if (cq (b := 2) (by omega)) (fun k2 => ?_) (fun k2 => h0 (fun z => k2 (tk_20.mp z.1)))
  have ev : tV y n a = valL y (tE y n a - tS y n a) (tS y n a) 0 := by unfold tV; rw [if_pos k2]
  refine ⟨tE y n a - tS y n a + 1, c_val_l hT he.2.1 _ _ 0 (by omega) (fun k q1 q2 => srtN_2.mp (tE_in k2 (Or.inr rfl) k q1 q2)) (fun x => ?_)⟩
  rw [← ev]
  refine br_f (Int32.not_lt.mpr (nI_pos' (by omega))) (ek_if (cle (by omega) (by omega)) (fun c => ?_) (fun c => h0 (fun z => by omega)))
  have e2 : min (tV y n a) 1000 = tV y n a := by omega
  rw [e2]
  exact c_next hT he.2.1 (h1 ⟨tk_20.mpr k2, by omega⟩)
theorem m_num (hT : Tx y n bb ta) {a M : Nat} (ha : a ≤ n) (hM : M ≤ 999) {Q : Int32 → Int32 → Int32 → Int32 → Int32 → Int32 → Prop} (h1 : nOK y n a M → Q (nI (tV y n a)) (nI (tk y n (tE y n a))) (nI (tS y n (tE y n a))) (nI (tE y n (tE y n a))) (nI (tV y n (tE y n a))) 0) (h0 : ¬ nOK y n a M → Q (nI (tV y n a)) (nI (tk y n a)) (nI (tS y n a)) (nI (tE y n a)) (nI (tV y n a)) 1) : wp_X10_number ta (nI n) (nI (tk y n a)) (nI (tS y n a)) (nI (tE y n a)) (nI (tV y n a)) 0 0 (nI M) Q := by
  have hn := hT.1
  have he := tE_r (y := y) ha
  have hk := tk_r (y := y) (n := n) a
  have hv := tV_r (y := y) ha
  unfold nOK at h1 h0
  refine br_t rfl (ek_if (cq (b := 20) (by omega)) (fun k2 => ?_) (fun k2 => h0 (fun z => k2 z.1)))
  by_cases c : tV y n a ≤ M
  · exact inn_t c (by omega) (br_f (by decide) (m_reads hT he.2.1 (h1 ⟨k2, c⟩)))
  · exact in_f (fun z => c ((cle (by omega) (by omega)).mp z.2)) (br_t rfl (h0 (fun z => c z.2)))
theorem m_num1 {td k s e v lo hi : Int32} {Q : Int32 → Int32 → Int32 → Int32 → Int32 → Int32 → Prop} (h : Q v k s e v 1) : wp_X10_number ta td k s e v 1 lo hi Q := br_f (by decide) h
theorem m_perh (hT : Tx y n bb ta) {a w M : Nat} (ha : a ≤ n) (hw : w < 10) (hM : M ≤ 999) {d : Int32} {Q : Int32 → Int32 → Int32 → Int32 → Int32 → Int32 → Prop} (h1 : tk y n a = w → nOK y n (tE y n a) M → Q (nI (tV y n (tE y n a))) (nI (tk y n (tE y n (tE y n a)))) (nI (tS y n (tE y n (tE y n a)))) (nI (tE y n (tE y n (tE y n a)))) (nI (tV y n (tE y n (tE y n a)))) 0) (h2 : tk y n a = w → ¬ nOK y n (tE y n a) M → Q (nI (tV y n (tE y n a))) (nI (tk y n (tE y n a))) (nI (tS y n (tE y n a))) (nI (tE y n (tE y n a))) (nI (tV y n (tE y n a))) 1) (h0 : ¬ tk y n a = w → Q d (nI (tk y n a)) (nI (tS y n a)) (nI (tE y n a)) (nI (tV y n a)) 0) : wp_X10_perhaps ta (nI n) (nI (tk y n a)) (nI (tS y n a)) (nI (tE y n a)) (nI (tV y n a)) 0 (nI w) 0 (nI M) d Q := by
  have he := tE_r (y := y) ha
  have hk := tk_r (y := y) (n := n) a
  exact br_t rfl (ek_if (cq (by omega) (by omega)) (fun e => m_reads hT he.2.1 (br_f (by decide) (m_num hT he.2.1 hM (h1 e) (h2 e)))) (fun e => br_t rfl (h0 e)))
theorem m_perh1 {td k s e v w lo hi d : Int32} {Q : Int32 → Int32 → Int32 → Int32 → Int32 → Int32 → Prop} (h : Q d k s e v 1) : wp_X10_perhaps ta td k s e v 1 w lo hi d Q := br_f (by decide) (br_t rfl h)
/-! ===== an item ===== -/

def itN (y : Nat → Nat) (n : Nat) (A : AS) (a : Nat) : Bool × AS × Nat :=
  if tk y n a ≤ 5 then
    if A 7 0 = 8 then (false, A, a)
    else if nOK y n (tE y n a) 99 then
      if tk y n (tE y n (tE y n a)) = 6 then
        if nOK y n (tE y n (tE y n (tE y n a))) 5 then
          if tk y n (tE y n (tE y n (tE y n (tE y n a)))) = 7 then
            if nOK y n (tE y n (tE y n (tE y n (tE y n (tE y n a))))) 999 then (true, addN A (tk y n a) (tV y n (tE y n a)) (tV y n (tE y n (tE y n (tE y n a))) + 1) (tV y n (tE y n (tE y n (tE y n (tE y n (tE y n a)))))), tE y n (tE y n (tE y n (tE y n (tE y n (tE y n a))))))
            else (false, A, tE y n (tE y n (tE y n (tE y n (tE y n a)))))
          else (true, addN A (tk y n a) (tV y n (tE y n a)) (tV y n (tE y n (tE y n (tE y n a))) + 1) 0, tE y n (tE y n (tE y n (tE y n a))))
        else (false, A, tE y n (tE y n (tE y n a)))
      else if tk y n (tE y n (tE y n a)) = 7 then
        if nOK y n (tE y n (tE y n (tE y n a))) 999 then (true, addN A (tk y n a) (tV y n (tE y n a)) 0 (tV y n (tE y n (tE y n (tE y n a)))), tE y n (tE y n (tE y n (tE y n a))))
        else (false, A, tE y n (tE y n (tE y n a)))
      else (true, addN A (tk y n a) (tV y n (tE y n a)) 0 0, tE y n (tE y n a))
    else (false, A, tE y n a)
  else if tk y n a = 8 ∨ tk y n a = 9 then
    if nOK y n (tE y n a) 5 then
      if nOK y n (tE y n (tE y n a)) (if tk y n a = 8 then 20 else 9) then (true, u2 A (tk y n a - 8) (tV y n (tE y n a)) (tV y n (tE y n (tE y n a))), tE y n (tE y n (tE y n a)))
      else (false, A, tE y n (tE y n a))
    else (false, A, tE y n a)
  else (false, A, a)
variable {sk ze ma ki dn wi du m : Nat → Int32} {yr sz : Int32} {A : AS}
abbrev QI := Int32 → Int32 → Int32 → Int32 → (Nat → Int32) → (Nat → Int32) → (Nat → Int32) → (Nat → Int32) → (Nat → Int32) → (Nat → Int32) → Int32 → Prop
def QC (y : Nat → Nat) (n : Nat) (ma : Nat → Int32) (Q : QI) (o : Bool × AS × Nat) : Prop := ∀ sk' ze' ki' dn' wi' du' sz', RelC sk' ze' ma ki' dn' wi' du' sz' o.2.1 → Q (b01 o.1) (nI (tK y n o.2.2)) (nI (tS y n o.2.2)) (nI (tE y n o.2.2)) sk' ze' ki' dn' wi' du' sz'
theorem c_item (hT : Tx y n bb ta) {a : Nat} (ha : a ≤ n) (hC : RelC sk ze ma ki dn wi du sz A) (hI : Inv A) {Q : QI} (hQ : QC y n ma Q (itN y n A a)) : wp_X8_takeItem bb (nI n) (nI (tK y n a)) (nI (tS y n a)) (nI (tE y n a)) sk ze ki dn wi du sz Q := by
  have hn := hT.1
  have h8 := hI.1
  have hsz := hC.2.2.2.2.2.2.2
  have l1 := (tE_r (y := y) ha).2.1
  have l2 := (tE_r (y := y) l1).2.1
  have l3 := (tE_r (y := y) l2).2.1
  have l4 := (tE_r (y := y) l3).2.1
  have l5 := (tE_r (y := y) l4).2.1
  refine c_kind_h hT ha (fun hk => br_f (Int32.not_lt.mpr (nI_pos' (by omega))) ?_) (fun hk => br_t (by decide) ?_)
  · unfold itN at hQ
    rw [if_pos hk] at hQ
    subst hsz
    refine ek_if (clt (b := 8) (by omega) (by decide)) (fun c8 => br_t rfl ?_) (fun c8 => br_f (by decide) ?_)
    · rw [if_neg (by omega)] at hQ
      have add : ∀ (d w u a' : Nat), QC y n ma Q (true, addN A (tk y n a) d w u, a') → wp_X2_add ki dn wi du (nI (A 7 0)) (nI (tk y n a)) (nI d) (wI w) (nI u) (fun c0 c1 c2 c3 c4 => (narrow .boolean (.int 1) = .int 1) ∧ Q 1 (nI (tK y n a')) (nI (tS y n a')) (nI (tE y n a')) sk ze c0 c1 c2 c3 c4) := fun d w u a' h => c_add hC c8 (tk y n a) d w u (fun ki' dn' wi' du' hC' => ⟨nb1, h _ _ _ _ _ _ _ hC'⟩)
      refine c_next hT l1 (c_num hT (M := 99) l1 (by decide) (fun k1 => br_t (nI_pos' (by have := k1.2; omega)) ?_) (fun k1 => br_f (by decide) ?_))
      · rw [if_pos k1] at hQ
        refine c_word hT (w := 6) l2 (by decide) (fun w6 => br_f (by decide) ?_) (fun w6 => br_t rfl ?_)
        · rw [if_pos w6] at hQ
          refine c_next hT l3 (c_num hT (M := 5) l3 (by decide) (fun k3 => br_t (nI_pos' (by have := k3.2; omega)) ?_) (fun k3 => br_f (by decide) ?_))
          · rw [if_pos k3] at hQ
            refine c_word hT (w := 7) l4 (by decide) (fun w7 => br_f (by decide) ?_) (fun w7 => br_t rfl ?_)
            · rw [if_pos w7] at hQ
              refine c_next hT l5 (c_num hT (M := 999) l5 (by decide) (fun k5 => br_t (nI_pos' (by have := k5.2; omega)) ?_) (fun k5 => br_f (by decide) ?_))
              · rw [if_pos k5] at hQ; exact add _ _ _ _ hQ
              · rw [if_neg k5] at hQ; exact ⟨nb0, hQ _ _ _ _ _ _ _ hC⟩
            · rw [if_neg w7] at hQ; exact add _ _ 0 _ hQ
          · rw [if_neg k3] at hQ; exact ⟨nb0, hQ _ _ _ _ _ _ _ hC⟩
        · rw [if_neg w6] at hQ
          refine c_word hT (w := 7) l2 (by decide) (fun w7 => br_f (by decide) ?_) (fun w7 => br_t rfl ?_)
          · rw [if_pos w7] at hQ
            refine c_next hT l3 (c_num hT (M := 999) l3 (by decide) (fun k5 => br_t (nI_pos' (by have := k5.2; omega)) ?_) (fun k5 => br_f (by decide) ?_))
            · rw [if_pos k5] at hQ; exact add _ 0 _ _ hQ
            · rw [if_neg k5] at hQ; exact ⟨nb0, hQ _ _ _ _ _ _ _ hC⟩
          · rw [if_neg w7] at hQ; exact add _ 0 0 _ hQ
      · rw [if_neg k1] at hQ; exact ⟨nb0, hQ _ _ _ _ _ _ _ hC⟩
    · rw [if_pos (by omega)] at hQ
      exact ⟨nb0, hQ _ _ _ _ _ _ _ hC⟩
  · unfold itN at hQ
    rw [if_neg hk] at hQ
    have trait : ∀ (f : Nat → Int32) (M : Nat), M ≤ 999 → (¬ nOK y n (tE y n a) 5 → QC y n ma Q (false, A, tE y n a)) → (nOK y n (tE y n a) 5 → ¬ nOK y n (tE y n (tE y n a)) M → QC y n ma Q (false, A, tE y n (tE y n a))) → ∀ {P : Int32 → Int32 → Int32 → Int32 → (Nat → Int32) → Prop}, (∀ a', QC y n ma Q (false, A, a') → P 0 (nI (tK y n a')) (nI (tS y n a')) (nI (tE y n a')) f) → (nOK y n (tE y n a) 5 → nOK y n (tE y n (tE y n a)) M → P 1 (nI (tK y n (tE y n (tE y n (tE y n a))))) (nI (tS y n (tE y n (tE y n (tE y n a))))) (nI (tE y n (tE y n (tE y n (tE y n a))))) (upd f (tV y n (tE y n a)) (nI (tV y n (tE y n (tE y n a)))))) → wp_X8_takeTrait bb (nI n) (nI (tE y n a)) f 6 (nI M) P := by
      intro f M hM f1 f2 P p0 p1
      refine c_next hT l1 (c_num hT (M := 5) l1 (by decide) (fun k1 => br_f (Int32.not_lt.mpr (nI_pos' (by have := k1.2; omega))) (br_t ((clt (b := 6) (by have := k1.2; omega) (by decide)).mpr (by have := k1.2; omega)) ?_)) (fun k1 => br_t (by decide) (p0 _ (f1 k1))))
      have v5 := k1.2
      refine c_num hT l2 hM (fun k2 => br_t (nI_pos' (by have := k2.2; omega)) ⟨vp_in_nI (by omega) (by decide), ?_⟩) (fun k2 => br_f (by decide) (p0 _ (f2 k1 k2)))
      rw [nI_clamp (by omega)]
      exact p1 k1 k2
    refine c_word hT (w := 8) ha (by decide) (fun w8 => br_f (by decide) ?_) (fun w8 => br_t rfl (c_word hT (w := 9) ha (by decide) (fun w9 => br_f (by decide) ?_) (fun w9 => br_t rfl ?_)))
    · rw [if_pos (Or.inl w8), if_pos w8] at hQ
      refine trait sk 20 (by decide) (fun k => by rw [if_neg k] at hQ; exact hQ) (fun k k2 => by rw [if_pos k, if_neg k2] at hQ; exact hQ) (fun a' h => ⟨nb0, h _ _ _ _ _ _ _ hC⟩) (fun k k2 => ⟨nb1, ?_⟩)
      rw [if_pos k, if_pos k2, w8] at hQ
      exact hQ _ _ _ _ _ _ _ (hC.u_sk _ _)
    · rw [if_pos (Or.inr w9), if_neg w8] at hQ
      refine trait ze 9 (by decide) (fun k => by rw [if_neg k] at hQ; exact hQ) (fun k k2 => by rw [if_pos k, if_neg k2] at hQ; exact hQ) (fun a' h => ⟨nb0, h _ _ _ _ _ _ _ hC⟩) (fun k k2 => ⟨nb1, ?_⟩)
      rw [if_pos k, if_pos k2, w9] at hQ
      exact hQ _ _ _ _ _ _ _ (hC.u_ze _ _)
    · rw [if_neg (by omega)] at hQ
      exact hQ _ _ _ _ _ _ _ hC
end T3
