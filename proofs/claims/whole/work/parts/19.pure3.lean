/-! ===== a year, as numbers ===== -/
def dN (A : AS) (t : Nat) : Nat := let g := goN (A 3 t) (A 0 (A 5 t - 1)) (A 4 t) (A 6 t); if A 4 t + g < 100 then A 4 t + g else 100
def workN (A : AS) (t : Nat) : AS :=
  if dN A t = 100 then u2 (u2 (u2 A 4 t (dN A t)) 2 (A 5 t - 1) (if A 2 (A 5 t - 1) + 1 < 999 then A 2 (A 5 t - 1) + 1 else 999)) 1 (A 5 t - 1) (if A 1 (A 5 t - 1) + 2 < 9 then A 1 (A 5 t - 1) + 2 else 9)
  else if tiN (A 3 t) < A 1 (A 5 t - 1) then u2 (u2 A 4 t (dN A t)) 1 (A 5 t - 1) (A 1 (A 5 t - 1) - tiN (A 3 t))
  else u2 (u2 (u2 (u2 A 4 t (dN A t)) 5 t 0) 6 t 0) 1 (A 5 t - 1) 4
theorem upd_upd (f : Nat → Int32) (k : Nat) (x y : Int32) : upd (upd f k x) k y = upd f k y := by
  funext j; simp only [upd]; by_cases h : j = k <;> simp [h]
theorem upd_4 (f : Nat → Int32) {k a b : Nat} (x y u v : Int32) (h1 : a ≠ k) (h2 : b ≠ k) : upd (upd (upd (upd f k x) a u) b v) k y = upd (upd (upd f a u) b v) k y := by
  funext j; simp only [upd]
  by_cases h : j = k
  · simp [h]
  · simp [h]
theorem zlt {z w : Nat} (hz : z ≤ 1000) (hw : w ≤ 1000) : 0 < nI z - nI w ↔ w < z := by
  by_cases h : w ≤ z
  · rw [nsub h, show (0 : Int32) = nI 0 from rfl, clt (by decide) (by omega)]; omega
  · have := pk_sneg (a := z) (b := w) (by omega) (by omega)
    constructor
    · intro q; exact absurd (Int32.lt_trans q this) (by decide)
    · intro q; omega
theorem ifmin {a c : Nat} (ha : a < 2 ^ 31) (hc : c < 2 ^ 31) : (if nI a < nI c then nI a else nI c) = nI (if a < c then a else c) := by
  by_cases h : a < c
  · rw [if_pos h, if_pos ((clt ha hc).mpr h)]
  · rw [if_neg h, if_neg (fun z => h ((clt ha hc).mp z))]
section RC
variable {sk ze ma ki dn wi du : Nat → Int32} {sz : Int32} {A : AS}
theorem RelC.u_sk (h : RelC sk ze ma ki dn wi du sz A) (i v : Nat) : RelC (upd sk i (nI v)) ze ma ki dn wi du sz (u2 A 0 i v) := by
  obtain ⟨h0, h1, h2, h3, h4, h5, h6, h7⟩ := h
  exact ⟨RN_up h0 i v, RN_o h1 i v (by decide), RN_o h2 i v (by decide), RN_o h3 i v (by decide), RN_o h4 i v (by decide), RW_o h5 i v (by decide), RN_o h6 i v (by decide), by rw [u2_f (by decide)]; exact h7⟩
theorem RelC.u_ze (h : RelC sk ze ma ki dn wi du sz A) (i v : Nat) : RelC sk (upd ze i (nI v)) ma ki dn wi du sz (u2 A 1 i v) := by
  obtain ⟨h0, h1, h2, h3, h4, h5, h6, h7⟩ := h
  exact ⟨RN_o h0 i v (by decide), RN_up h1 i v, RN_o h2 i v (by decide), RN_o h3 i v (by decide), RN_o h4 i v (by decide), RW_o h5 i v (by decide), RN_o h6 i v (by decide), by rw [u2_f (by decide)]; exact h7⟩
theorem RelC.u_ma (h : RelC sk ze ma ki dn wi du sz A) (i v : Nat) : RelC sk ze (upd ma i (nI v)) ki dn wi du sz (u2 A 2 i v) := by
  obtain ⟨h0, h1, h2, h3, h4, h5, h6, h7⟩ := h
  exact ⟨RN_o h0 i v (by decide), RN_o h1 i v (by decide), RN_up h2 i v, RN_o h3 i v (by decide), RN_o h4 i v (by decide), RW_o h5 i v (by decide), RN_o h6 i v (by decide), by rw [u2_f (by decide)]; exact h7⟩
theorem RelC.u_ki (h : RelC sk ze ma ki dn wi du sz A) (i v : Nat) : RelC sk ze ma (upd ki i (nI v)) dn wi du sz (u2 A 3 i v) := by
  obtain ⟨h0, h1, h2, h3, h4, h5, h6, h7⟩ := h
  exact ⟨RN_o h0 i v (by decide), RN_o h1 i v (by decide), RN_o h2 i v (by decide), RN_up h3 i v, RN_o h4 i v (by decide), RW_o h5 i v (by decide), RN_o h6 i v (by decide), by rw [u2_f (by decide)]; exact h7⟩
theorem RelC.u_dn (h : RelC sk ze ma ki dn wi du sz A) (i v : Nat) : RelC sk ze ma ki (upd dn i (nI v)) wi du sz (u2 A 4 i v) := by
  obtain ⟨h0, h1, h2, h3, h4, h5, h6, h7⟩ := h
  exact ⟨RN_o h0 i v (by decide), RN_o h1 i v (by decide), RN_o h2 i v (by decide), RN_o h3 i v (by decide), RN_up h4 i v, RW_o h5 i v (by decide), RN_o h6 i v (by decide), by rw [u2_f (by decide)]; exact h7⟩
theorem RelC.u_wi (h : RelC sk ze ma ki dn wi du sz A) (i v : Nat) : RelC sk ze ma ki dn (upd wi i (wI v)) du sz (u2 A 5 i v) := by
  obtain ⟨h0, h1, h2, h3, h4, h5, h6, h7⟩ := h
  exact ⟨RN_o h0 i v (by decide), RN_o h1 i v (by decide), RN_o h2 i v (by decide), RN_o h3 i v (by decide), RN_o h4 i v (by decide), RW_up h5 i v, RN_o h6 i v (by decide), by rw [u2_f (by decide)]; exact h7⟩
theorem RelC.u_du (h : RelC sk ze ma ki dn wi du sz A) (i v : Nat) : RelC sk ze ma ki dn wi (upd du i (nI v)) sz (u2 A 6 i v) := by
  obtain ⟨h0, h1, h2, h3, h4, h5, h6, h7⟩ := h
  exact ⟨RN_o h0 i v (by decide), RN_o h1 i v (by decide), RN_o h2 i v (by decide), RN_o h3 i v (by decide), RN_o h4 i v (by decide), RW_o h5 i v (by decide), RN_up h6 i v, by rw [u2_f (by decide)]; exact h7⟩
end RC
theorem Inv.p {A : AS} (h : Inv A) {k p : Nat} (v : Nat) (hk : k < 3) (hv : v ≤ (if k = 0 then 20 else if k = 1 then 9 else 999)) : Inv (u2 A k p v) := by
  refine ⟨by rw [u2_f (by omega)]; exact h.1, fun q hq => ?_, fun t ht => ?_⟩
  · have hh := h.2.1 q hq
    simp only [u2]
    rcases (by omega : k = 0 ∨ k = 1 ∨ k = 2) with e | e | e <;> subst e <;> simp at hv ⊢ <;> by_cases c : q = p <;> simp [c] <;> (try subst c) <;> omega
  · rw [u2_f (by omega), u2_f (by omega), u2_f (by omega), u2_f (by omega)]; exact h.2.2 t ht
theorem Inv.t {A : AS} (h : Inv A) {k t : Nat} (v : Nat) (hk : k < 4) (hv : v ≤ (if k = 0 then 5 else if k = 1 then 100 else if k = 2 then 6 else 999)) : Inv (u2 A (3 + k) t v) := by
  refine ⟨by rw [u2_f (by omega)]; exact h.1, fun q hq => ?_, fun q hq => ?_⟩
  · rw [u2_f (by omega), u2_f (by omega), u2_f (by omega)]; exact h.2.1 q hq
  · have hh := h.2.2 q hq
    simp only [u2]
    rcases (by omega : k = 0 ∨ k = 1 ∨ k = 2 ∨ k = 3) with e | e | e | e <;> subst e <;> simp at hv ⊢ <;> by_cases c : q = t <;> simp [c] <;> (try subst c) <;> omega
theorem dN_le (A : AS) (t : Nat) : dN A t ≤ 100 := by
  unfold dN; dsimp only; split <;> omega
theorem workN_inv {A : AS} (h : Inv A) {t : Nat} (ht : t < 8) : Inv (workN A t) := by
  have hd := dN_le A t
  unfold workN
  split
  · exact ((h.t (k := 1) _ (by decide) (by simp; exact hd)).p (k := 2) _ (by decide) (by simp; split <;> omega)).p (k := 1) _ (by decide) (by simp; split <;> omega)
  · split
    · refine (h.t (k := 1) _ (by decide) (by simp; exact hd)).p (k := 1) _ (by decide) ?_
      simp
      have h5 := (h.2.2 t ht).2.2.1
      have := (h.2.1 (A 5 t - 1) (by omega)).2.1
      omega
    · exact (((h.t (k := 1) _ (by decide) (by simp; exact hd)).t (k := 2) _ (by decide) (by simp)).t (k := 3) _ (by decide) (by simp)).p (k := 1) _ (by decide) (by simp)
