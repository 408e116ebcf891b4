/-! ===== what a thing does, as numbers ===== -/
def goN (k s d du : Nat) : Nat := if k = 1 then s / 2 else if k = 2 then (if 50 ≤ d then s else s + 3) else if k = 3 then (if d = 99 then 0 else 1) else if k = 4 then s / 2 + 2 else if k = 5 then (if du ≤ 10 then (if 50 ≤ d then s else s + 3) else 2 * (if 50 ≤ d then s else s + 3)) else s
def tiN (k : Nat) : Nat := if k = 1 then 2 else if k = 2 then 1 else if k = 3 then 0 else if k = 4 then 2 else if k = 5 then 0 else 1
def bidN (k s d du : Nat) : Nat := if k = 1 then s else if k = 2 then (if d ≤ 70 then 2 * s else 3 * s) else if k = 3 then 20 - s else if k = 4 then s + du / 10 else if k = 5 then (if d ≤ 70 then 2 * s else 3 * s) else 2 * s
def askN (k d du : Nat) : Nat := if k = 1 then (if 7 ≤ du then 1 else 8 - du) else if k = 2 then 8 else if k = 3 then 1 else if k = 4 then (if 7 ≤ du then 1 else 8 - du) else if k = 5 then 8 + d / 10 else 8
theorem goN_le (k s d du : Nat) (hs : s ≤ 20) : goN k s d du ≤ 46 := by
  unfold goN; repeat' split
  all_goals omega
theorem tiN_le (k : Nat) : tiN k ≤ 2 := by
  unfold tiN; repeat' split
  all_goals omega
theorem bidN_le (k s d du : Nat) (hs : s ≤ 20) (hu : du ≤ 999) : bidN k s d du ≤ 999 := by
  unfold bidN; repeat' split
  all_goals omega
theorem askN_le (k d du : Nat) (hd : d ≤ 100) : 1 ≤ askN k d du ∧ askN k d du ≤ 18 := by
  unfold askN; repeat' split
  all_goals omega
theorem d2 {s : Nat} (h : s < 2 ^ 31) : nI s / 2 = nI (s / 2) := pk_div h (by decide) (by decide)
theorem d10 {s : Nat} (h : s < 2 ^ 31) : nI s / 10 = nI (s / 10) := pk_div h (by decide) (by decide)
theorem nadd (a b : Nat) : nI a + nI b = nI (a + b) := nI_add a b
theorem nmul (a b : Nat) : nI a * nI b = nI (a * b) := pk_mul a b
theorem nsub {a b : Nat} (h : b ≤ a) : nI a - nI b = nI (a - b) := pk_sub h
theorem i0 (x : Int32) : x + 0 = x := Int32.add_zero x
section Val
variable {k s d du : Nat} {Q : Int32 → Prop}
theorem v_goesOn (hk : k ≤ 5) (hs : s ≤ 20) (hd : d ≤ 100) (hu : du ≤ 999) (hQ : Q (nI (goN k s d du))) : wpv_goesOn k (nI s) (nI d) (nI du) Q := by
  have hj : ∀ {Q : Int32 → Prop}, Q (nI (if 50 ≤ d then s else s + 3)) → wp_X3_goesOn (nI s) (nI d) (nI du) Q := by
    intro Q h
    show (_ → Q (nI s + 0)) ∧ (_ → Q (nI s + nI 3))
    refine ek_if (cle (a := 50) (b := d) (by decide) (by omega)) (fun c => ?_) (fun c => ?_)
    · rw [if_pos c] at h; rw [i0]; exact h
    · rw [if_neg c] at h; rw [nadd]; exact h
  rcases (by omega : k = 0 ∨ k = 1 ∨ k = 2 ∨ k = 3 ∨ k = 4 ∨ k = 5) with e | e | e | e | e | e <;> subst e
  · exact hQ
  · show Q (nI s / 2); rw [d2 (by omega)]; exact hQ
  · exact hj hQ
  · show (_ → Q (nI 0)) ∧ (_ → Q (nI 1))
    refine ek_if (cq (a := d) (b := 99) (by omega)) (fun c => ?_) (fun c => ?_)
    · simp only [goN, if_pos c] at hQ; exact hQ
    · simp only [goN, if_neg c] at hQ; exact hQ
  · show Q (nI s / 2 + nI 2); rw [d2 (by omega), nadd]; exact hQ
  · show wp_X5_goesOn (nI s) (nI d) (nI du) Q
    unfold wp_X5_goesOn
    refine hj ?_
    refine ek_if (cle (a := du) (b := 10) (by omega) (by decide)) (fun c => ?_) (fun c => ?_)
    · simp only [goN, if_pos c] at hQ; exact hQ
    · simp only [goN, if_neg c] at hQ
      rw [show (2 : Int32) = nI 2 from rfl, nmul]; exact hQ
theorem v_tires (hk : k ≤ 5) (hQ : Q (nI (tiN k))) : wpv_tires k Q := by
  rcases (by omega : k = 0 ∨ k = 1 ∨ k = 2 ∨ k = 3 ∨ k = 4 ∨ k = 5) with e | e | e | e | e | e <;> subst e <;> exact hQ
theorem v_bid (hk : k ≤ 5) (hs : s ≤ 20) (hd : d ≤ 100) (hu : du ≤ 999) (hQ : Q (nI (bidN k s d du))) : wpv_bid k (nI s) (nI d) (nI du) Q := by
  have hj : ∀ {Q : Int32 → Prop}, Q (nI (if d ≤ 70 then 2 * s else 3 * s)) → wp_X3_bid (nI s) (nI d) (nI du) Q := by
    intro Q h
    show (_ → Q (nI 2 * nI s + 0)) ∧ (_ → Q (nI 2 * nI s + nI s))
    rw [nmul]
    refine ek_if (cle (a := d) (b := 70) (by omega) (by decide)) (fun c => ?_) (fun c => ?_)
    · rw [if_pos c] at h; rw [i0]; exact h
    · rw [if_neg c] at h; rw [nadd, show 2 * s + s = 3 * s by omega]; exact h
  rcases (by omega : k = 0 ∨ k = 1 ∨ k = 2 ∨ k = 3 ∨ k = 4 ∨ k = 5) with e | e | e | e | e | e <;> subst e
  · show Q (nI 2 * nI s); rw [nmul]; exact hQ
  · exact hQ
  · exact hj hQ
  · show Q (nI 20 - nI s); rw [nsub (by omega)]; exact hQ
  · show Q (nI s + nI du / 10); rw [d10 (by omega), nadd]; exact hQ
  · exact hj hQ
theorem v_asked (hk : k ≤ 5) (hd : d ≤ 100) (hu : du ≤ 999) (hQ : Q (nI (askN k d du))) : wpv_asked k (nI d) (nI du) Q := by
  have hb : ∀ {Q : Int32 → Prop}, Q (nI (if 7 ≤ du then 1 else 8 - du)) → wp_X0_asked (nI d) (nI du) Q := by
    intro Q h
    show Q (if (1 : Int32) < (8 - nI du) then (8 - nI du) else 1)
    by_cases c : 7 ≤ du
    · rw [if_pos c] at h
      rw [if_neg]
      · exact h
      · intro z
        by_cases c8 : du ≤ 8
        · rw [show (8 : Int32) = nI 8 from rfl, nsub c8, show (1 : Int32) = nI 1 from rfl, clt (by decide) (by omega)] at z
          omega
        · have := pk_sneg (a := 8) (b := du) (by omega) (by omega)
          exact absurd (Int32.lt_trans z this) (by decide)
    · rw [if_neg c] at h
      rw [show (8 : Int32) = nI 8 from rfl, nsub (by omega), if_pos]
      · exact h
      · exact (clt (a := 1) (by decide) (by omega)).mpr (by omega)
  rcases (by omega : k = 0 ∨ k = 1 ∨ k = 2 ∨ k = 3 ∨ k = 4 ∨ k = 5) with e | e | e | e | e | e <;> subst e
  · exact hQ
  · exact hb hQ
  · exact hQ
  · exact hQ
  · exact hb hQ
  · show Q (nI 8 + nI d / 10); rw [d10 (by omega), nadd]; exact hQ
end Val
section Mod
variable {m : Nat → Int32} {A : AS} {yr : Int32} {t p s : Nat} {Q : Int32 → Prop}
theorem m_isDone (h : RelM m A yr) (hI : Inv A) (ht : t < 8) (h1 : A 4 t = 100 → Q 1) (h0 : ¬ A 4 t = 100 → Q 0) : wp_X10_isDone m (nI t) Q := by
  have hb := (hI.2.2 t ht).2.1
  exact m_it1 h ht (ek_if (cq (a := A 4 t) (b := 100) (by omega)) h1 h0)
theorem m_canLeave (h : RelM m A yr) (hI : Inv A) (ht : t < 8) (h1 : A 5 t ≠ 0 ∧ A 4 t ≠ 100 → Q 1) (h0 : ¬ (A 5 t ≠ 0 ∧ A 4 t ≠ 100) → Q 0) : wp_X10_canLeave m (nI t) Q := by
  have hb := (hI.2.2 t ht)
  refine m_it2 h ht (ek_if (wI_neg (A 5 t) (by omega)) (fun c => h0 (by omega)) (fun c => ?_))
  exact m_isDone h hI ht (fun e => br_f (by decide) (h0 (by omega))) (fun e => br_t rfl (h1 (by omega)))
theorem m_goesOn (h : RelM m A yr) (hI : Inv A) (ht : t < 8) (hs : s ≤ 20) (hQ : Q (nI (goN (A 3 t) s (A 4 t) (A 6 t)))) : wp_X10_goesOn m (nI t) (nI s) Q := by
  obtain ⟨hk, hd, -, hu⟩ := hI.2.2 t ht
  refine m_it1 h ht ?_
  generalize A 4 t = d at *
  have key : ∀ j : Nat, j = (if 50 ≤ d then s else s + 3) → wp_X10_it m (nI t) 0 (fun r2 => (r2 = 1 → Q (nI s / 2)) ∧ (¬ (r2 = 1) → (r2 = 2 → Q (nI j)) ∧ (¬ (r2 = 2) → (r2 = 3 → (nI d = 99 → Q 0) ∧ (¬ (nI d = 99) → Q 1)) ∧ (¬ (r2 = 3) → (r2 = 4 → Q ((nI s / 2) + 2)) ∧ (¬ (r2 = 4) → (r2 = 5 → wp_X10_it m (nI t) 3 (fun r3 => (r3 ≤ 10 → Q (nI j)) ∧ (¬ (r3 ≤ 10) → Q (2 * nI j)))) ∧ (¬ (r2 = 5) → Q (nI s))))))) := by
    intro j hj
    refine m_it0 h ht ?_
    rcases (by omega : A 3 t = 0 ∨ A 3 t = 1 ∨ A 3 t = 2 ∨ A 3 t = 3 ∨ A 3 t = 4 ∨ A 3 t = 5) with e | e | e | e | e | e <;> rw [e] at hQ ⊢
    · exact br_f (by decide) (br_f (by decide) (br_f (by decide) (br_f (by decide) (br_f (by decide) hQ))))
    · refine br_t (by decide) ?_; rw [d2 (by omega)]; exact hQ
    · refine br_f (by decide) (br_t (by decide) ?_); rw [hj]; exact hQ
    · refine br_f (by decide) (br_f (by decide) (br_t (by decide) (ek_if (cq (a := d) (b := 99) (by omega)) (fun c => ?_) (fun c => ?_))))
      · simp only [goN, if_pos c] at hQ; exact hQ
      · simp only [goN, if_neg c] at hQ; exact hQ
    · refine br_f (by decide) (br_f (by decide) (br_f (by decide) (br_t (by decide) ?_)))
      rw [d2 (by omega), show (2 : Int32) = nI 2 from rfl, nadd]; exact hQ
    · refine br_f (by decide) (br_f (by decide) (br_f (by decide) (br_f (by decide) (br_t (by decide) ?_))))
      refine m_it3 h ht (ek_if (cle (a := A 6 t) (b := 10) (by omega) (by decide)) (fun c => ?_) (fun c => ?_))
      · simp only [goN, if_pos c] at hQ; rw [hj]; exact hQ
      · simp only [goN, if_neg c] at hQ; rw [hj, show (2 : Int32) = nI 2 from rfl, nmul]; exact hQ
  refine ek_if (cle (a := 50) (b := d) (by decide) (by omega)) (fun c => ?_) (fun c => ?_)
  · exact key s (by rw [if_pos c])
  · have := key (s + 3) (by rw [if_neg c])
    rw [← nadd] at this
    exact this
theorem m_tires (h : RelM m A yr) (hI : Inv A) (ht : t < 8) (hQ : Q (nI (tiN (A 3 t)))) : wp_X10_tires m (nI t) Q := by
  obtain ⟨hk, -⟩ := hI.2.2 t ht
  refine m_it0 h ht ?_
  rcases (by omega : A 3 t = 0 ∨ A 3 t = 1 ∨ A 3 t = 2 ∨ A 3 t = 3 ∨ A 3 t = 4 ∨ A 3 t = 5) with e | e | e | e | e | e <;> rw [e] at hQ ⊢
  · exact br_f (by decide) (br_f (by decide) (br_f (by decide) (br_f (by decide) (br_f (by decide) hQ))))
  · exact br_t (by decide) hQ
  · exact br_f (by decide) (br_t (by decide) hQ)
  · exact br_f (by decide) (br_f (by decide) (br_t (by decide) hQ))
  · exact br_f (by decide) (br_f (by decide) (br_f (by decide) (br_t (by decide) hQ)))
  · exact br_f (by decide) (br_f (by decide) (br_f (by decide) (br_f (by decide) (br_t (by decide) hQ))))
theorem m_bids (h : RelM m A yr) (hI : Inv A) (ht : t < 8) (hs : s ≤ 20) (hQ : Q (nI (bidN (A 3 t) s (A 4 t) (A 6 t)))) : wp_X10_bids m (nI t) (nI s) Q := by
  obtain ⟨hk, hd, -, hu⟩ := hI.2.2 t ht
  refine m_it1 h ht ?_
  generalize A 4 t = d at *
  have key : ∀ j : Nat, j = (if d ≤ 70 then 2 * s else 3 * s) → wp_X10_it m (nI t) 0 (fun r2 => (r2 = 1 → Q (nI s)) ∧ (¬ (r2 = 1) → (r2 = 2 → Q (nI j)) ∧ (¬ (r2 = 2) → (r2 = 3 → Q (20 - nI s)) ∧ (¬ (r2 = 3) → (r2 = 4 → wp_X10_it m (nI t) 3 (fun r3 => Q (nI s + (r3 / 10)))) ∧ (¬ (r2 = 4) → (r2 = 5 → Q (nI j)) ∧ (¬ (r2 = 5) → Q (2 * nI s))))))) := by
    intro j hj
    refine m_it0 h ht ?_
    rcases (by omega : A 3 t = 0 ∨ A 3 t = 1 ∨ A 3 t = 2 ∨ A 3 t = 3 ∨ A 3 t = 4 ∨ A 3 t = 5) with e | e | e | e | e | e <;> rw [e] at hQ ⊢
    · refine br_f (by decide) (br_f (by decide) (br_f (by decide) (br_f (by decide) (br_f (by decide) ?_))))
      rw [show (2 : Int32) = nI 2 from rfl, nmul]; exact hQ
    · exact br_t (by decide) hQ
    · refine br_f (by decide) (br_t (by decide) ?_); rw [hj]; exact hQ
    · refine br_f (by decide) (br_f (by decide) (br_t (by decide) ?_))
      rw [show (20 : Int32) = nI 20 from rfl, nsub (by omega)]; exact hQ
    · refine br_f (by decide) (br_f (by decide) (br_f (by decide) (br_t (by decide) ?_)))
      refine m_it3 h ht ?_
      rw [d10 (by omega), nadd]; exact hQ
    · refine br_f (by decide) (br_f (by decide) (br_f (by decide) (br_f (by decide) (br_t (by decide) ?_)))); rw [hj]; exact hQ
  refine ek_if (cle (a := d) (b := 70) (by omega) (by decide)) (fun c => ?_) (fun c => ?_)
  · have := key (2 * s) (by rw [if_pos c])
    rw [← nmul] at this
    exact this
  · have := key (3 * s) (by rw [if_neg c])
    rw [← nmul] at this
    exact this
theorem m_asked (h : RelM m A yr) (hI : Inv A) (ht : t < 8) (hQ : Q (nI (askN (A 3 t) (A 4 t) (A 6 t)))) : wp_X10_asked m (nI t) Q := by
  obtain ⟨hk, hd, -, hu⟩ := hI.2.2 t ht
  have hb : Q (nI (if 7 ≤ A 6 t then 1 else 8 - A 6 t)) → wp_X10_it m (nI t) 3 (fun r2 => (7 ≤ r2 → Q 1) ∧ (¬ (7 ≤ r2) → wp_X10_it m (nI t) 3 (fun r3 => Q (8 - r3)))) := by
    intro hQ
    refine m_it3 h ht (ek_if (cle (a := 7) (b := A 6 t) (by decide) (by omega)) (fun c => ?_) (fun c => m_it3 h ht ?_))
    · rw [if_pos c] at hQ; exact hQ
    · rw [if_neg c] at hQ; rw [show (8 : Int32) = nI 8 from rfl, nsub (by omega)]; exact hQ
  refine m_it0 h ht ?_
  rcases (by omega : A 3 t = 0 ∨ A 3 t = 1 ∨ A 3 t = 2 ∨ A 3 t = 3 ∨ A 3 t = 4 ∨ A 3 t = 5) with e | e | e | e | e | e <;> rw [e] at hQ ⊢
  · exact br_f (by decide) (br_f (by decide) (br_f (by decide) (br_f (by decide) (br_f (by decide) hQ))))
  · exact br_t (by decide) (hb hQ)
  · exact br_f (by decide) (br_t (by decide) hQ)
  · exact br_f (by decide) (br_f (by decide) (br_t (by decide) hQ))
  · exact br_f (by decide) (br_f (by decide) (br_f (by decide) (br_t (by decide) (hb hQ))))
  · refine br_f (by decide) (br_f (by decide) (br_f (by decide) (br_f (by decide) (br_t (by decide) (m_it1 h ht ?_)))))
    rw [d10 (by omega), show (8 : Int32) = nI 8 from rfl, nadd]; exact hQ
end Mod
