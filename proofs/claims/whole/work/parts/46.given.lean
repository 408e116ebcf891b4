/-! ===== what the start gives: the constants, the texts, the tables' array words ===== -/
def GVL : List Cond := flatC (Jvm.Cond.and given_1 narrow_1)
def tmS : Nat → Term := fun i => match i with
  | 0 => .string "UnfinishedFair" 9
  | 1 => .string "UnfinishedFair" 16
  | 2 => .string "UnfinishedFair" 21
  | 3 => .string "UnfinishedFair" 26
  | 4 => .string "UnfinishedFair" 31
  | 5 => .string "UnfinishedFair" 36
  | 6 => .string "UnfinishedFair$Tape" 47
  | 7 => .string "UnfinishedFair$Tape" 63
  | 8 => .string "UnfinishedFair$Tape" 76
  | _ => .string "UnfinishedFair$Tape" 78
def sdF (t0 t1 : Nat) (aK aV : Nat → Nat) : Nat → Nat := fun n => if n = 0 then t0 else if n = 1 then t1 else if n < 12 then aK (n - 2) else aV (n - 12)
theorem sdF_K {t0 t1 : Nat} {aK aV : Nat → Nat} {i : Nat} (h : i < 10) : sdF t0 t1 aK aV (2 + i) = aK i := by
  unfold sdF
  rw [if_neg (by omega), if_neg (by omega), if_pos (by omega), show 2 + i - 2 = i by omega]
theorem sdF_V {t0 t1 : Nat} {aK aV : Nat → Nat} {i : Nat} : sdF t0 t1 aK aV (12 + i) = aV i := by
  unfold sdF
  rw [if_neg (by omega), if_neg (by omega), if_neg (by omega), show 12 + i - 12 = i by omega]
theorem gv_ex : ∀ i, i < 10 → Cond.exactly (tmS i) "java/lang/String" ∈ GVL := by decide +kernel
theorem gv_co : ∀ i, i < 10 → Cond.eq (.field (tmS i) "java/lang/String" "coder" "B") (.int 0) ∈ GVL := by decide +kernel
theorem gv_ar : ∀ i, i < 10 → Cond.arrayOf (.field (tmS i) "java/lang/String" "value" "[B") .byte ∈ GVL := by decide +kernel
theorem gv_le : ∀ i, i < 10 → Cond.eq (.length (.field (tmS i) "java/lang/String" "value" "[B")) (.int (Int32.ofNat (lenS.getD i 0))) ∈ GVL := by decide +kernel
theorem gv_el : ∀ i, i < 10 → ∀ j, j < lenS.getD i 0 → Cond.eq (.elem (.field (tmS i) "java/lang/String" "value" "[B") (.int (Int32.ofNat j))) (.int ((bytS.getD i []).getD j 0)) ∈ GVL := by decide +kernel
theorem gv_ne : ∀ i, i < 10 → ∀ j, j < 10 → i ≠ j → Cond.not (.eq (tmS i) (tmS j)) ∈ GVL ∨ Cond.not (.eq (tmS j) (tmS i)) ∈ GVL := by decide +kernel
theorem gv_ab : ∀ j, j < 6 → Cond.eq (.elem (.static "UnfinishedFair" "ABOVE" "[I") (.int (Int32.ofNat j))) (.int (abvL.getD j 0)) ∈ GVL := by decide +kernel
theorem gv_na : ∀ j, j < 70 → Cond.eq (.elem (.static "UnfinishedFairModel" "NAMES" "[I") (.int (Int32.ofNat j))) (.int (namL.getD j 0)) ∈ GVL := by decide +kernel
theorem gv_len : ∀ i, i < 10 → lenS.getD i 0 < 2 ^ 31 := by decide +kernel
theorem gv_a1 : Cond.arrayOf (.static "UnfinishedFair" "ABOVE" "[I") .int ∈ GVL := List.mem_of_getElem? (i := 5) (by decide +kernel)
theorem gv_a2 : Cond.eq (.length (.static "UnfinishedFair" "ABOVE" "[I")) (.int (Int32.ofNat 6)) ∈ GVL := List.mem_of_getElem? (i := 6) (by decide +kernel)
theorem gv_n1 : Cond.arrayOf (.static "UnfinishedFairModel" "NAMES" "[I") .int ∈ GVL := List.mem_of_getElem? (i := 19) (by decide +kernel)
theorem gv_n2 : Cond.eq (.length (.static "UnfinishedFairModel" "NAMES" "[I")) (.int (Int32.ofNat 70)) ∈ GVL := List.mem_of_getElem? (i := 20) (by decide +kernel)
theorem gv_cs : Cond.eq (.static "java/lang/String" "COMPACT_STRINGS" "Z") (.int 1) ∈ GVL := List.mem_of_getElem? (i := 13) (by decide +kernel)
theorem gv_sf : Cond.isRef (.static "jdk/internal/util/Preconditions" "SIOOBE_FORMATTER" "Ljava/util/function/BiFunction;") ∈ GVL := List.mem_of_getElem? (i := 14) (by decide +kernel)
set_option maxRecDepth 100000 in
set_option maxHeartbeats 4000000 in
/-- the fixed things, at the start -/
theorem gS_start {args : Array Value} {s : State} (hts : ∀ w ∈ lw_tbl, w.before args s = true) (hgv : (Jvm.Cond.and given_1 narrow_1).before args s = true) : ∃ sd : Nat → Nat, gS sd (fun q => s.heap.size ≤ q) s s.heap := by
  have hg : ∀ w ∈ GVL, w.before args s = true := flat_of_before _ hgv
  have hA : ∀ a : Nat, a < s.heap.size → ¬ (fun q : Nat => s.heap.size ≤ q) a := fun a h => Nat.not_le.mpr h
  obtain ⟨t0, e0, hT0⟩ := va_Tof (f := fun j => .int (abvL.getD j 0)) (A := fun q => s.heap.size ≤ q) (N := 6) (by decide) (hg _ gv_a1) (va_eqt (hg _ gv_a2)) (fun j hj => va_eqt (hg _ (gv_ab j hj))) hA
  obtain ⟨t1, e1, hT1⟩ := va_Tof (f := fun j => .int (namL.getD j 0)) (A := fun q => s.heap.size ≤ q) (N := 70) (by decide) (hg _ gv_n1) (va_eqt (hg _ gv_n2)) (fun j hj => va_eqt (hg _ (gv_na j hj))) hA
  obtain ⟨aK, aV, hS, hev⟩ := vk_Sof (args := args) (s := s) (N := 10) (tm := tmS) (len := lenS) (byt := bytS) (A := fun q => s.heap.size ≤ q) gv_len (fun i hi => hg _ (gv_ex i hi)) (fun i hi => hg _ (gv_co i hi)) (fun i hi => hg _ (gv_ar i hi)) (fun i hi => hg _ (gv_le i hi)) (fun i hi j hj => hg _ (gv_el i hi j hj)) (fun i j hi hj hij => (gv_ne i hi j hj hij).elim (fun h => Or.inl (hg _ h)) (fun h => Or.inr (hg _ h))) hA
  refine ⟨sdF t0 t1 aK aV, ?_, hT0, ?_, hT1, ?_, ?_, ?_, ?_, ?_, ?_, ?_⟩
  · exact va_Zof (hts _ (List.mem_append_right _ (List.mem_of_getElem? (i := 387) (by decide +kernel)))) (hts _ (List.mem_append_right _ (List.mem_of_getElem? (i := 1) (by decide +kernel)))) e0 hA
  · exact va_Zof (hts _ (List.mem_append_right _ (List.mem_of_getElem? (i := 1038) (by decide +kernel)))) (hts _ (List.mem_append_right _ (List.mem_of_getElem? (i := 12) (by decide +kernel)))) e1 hA
  · exact va_Zof (hts _ (List.mem_append_right _ (List.mem_of_getElem? (i := 581) (by decide +kernel)))) (hts _ (List.mem_append_right _ (List.mem_of_getElem? (i := 16) (by decide +kernel)))) (va_eqt (hg _ gv_cs)) hA
  · exact va_Zqof (hts _ (List.mem_append_right _ (List.mem_of_getElem? (i := 597) (by decide +kernel)))) (hts _ (List.mem_append_right _ (List.mem_of_getElem? (i := 18) (by decide +kernel)))) (hg _ gv_sf) hA
  · refine ⟨fun i hi => ?_, fun i j hi hj e => ?_⟩
    · have h := hS.1 i hi
      dsimp only
      rw [sdF_K hi, sdF_V]
      exact h
    · dsimp only at e
      rw [sdF_K hi, sdF_K hj] at e
      exact hS.2 i j hi hj e
  · intro q hq
    obtain ⟨i, hi⟩ := List.getElem?_of_mem hq
    match i, hi with
    | 0, hi => cases hi; exact vk_R.of (hts _ (List.mem_append_right _ (List.mem_of_getElem? (i := 31) (by decide +kernel)))) (by rw [show (2 + ("UnfinishedFair", 9, "thing", 0).2.2.2 : Nat) = 2 + 0 from rfl, sdF_K (by decide)]; exact hev 0 (by decide))
    | 1, hi => cases hi; exact vk_R.of (hts _ (List.mem_append_right _ (List.mem_of_getElem? (i := 44) (by decide +kernel)))) (by rw [show (2 + ("UnfinishedFair", 16, "boat", 1).2.2.2 : Nat) = 2 + 1 from rfl, sdF_K (by decide)]; exact hev 1 (by decide))
    | 2, hi => cases hi; exact vk_R.of (hts _ (List.mem_append_right _ (List.mem_of_getElem? (i := 53) (by decide +kernel)))) (by rw [show (2 + ("UnfinishedFair", 21, "jersey", 2).2.2.2 : Nat) = 2 + 2 from rfl, sdF_K (by decide)]; exact hev 2 (by decide))
    | 3, hi => cases hi; exact vk_R.of (hts _ (List.mem_append_right _ (List.mem_of_getElem? (i := 62) (by decide +kernel)))) (by rw [show (2 + ("UnfinishedFair", 26, "quarrel", 3).2.2.2 : Nat) = 2 + 3 from rfl, sdF_K (by decide)]; exact hev 3 (by decide))
    | 4, hi => cases hi; exact vk_R.of (hts _ (List.mem_append_right _ (List.mem_of_getElem? (i := 71) (by decide +kernel)))) (by rw [show (2 + ("UnfinishedFair", 31, "bridge", 4).2.2.2 : Nat) = 2 + 4 from rfl, sdF_K (by decide)]; exact hev 4 (by decide))
    | 5, hi => cases hi; exact vk_R.of (hts _ (List.mem_append_right _ (List.mem_of_getElem? (i := 80) (by decide +kernel)))) (by rw [show (2 + ("UnfinishedFair", 36, "letter", 5).2.2.2 : Nat) = 2 + 5 from rfl, sdF_K (by decide)]; exact hev 5 (by decide))
    | 6, hi => cases hi; exact vk_R.of (hts _ (List.mem_append_right _ (List.mem_of_getElem? (i := 637) (by decide +kernel)))) (by rw [show (2 + ("UnfinishedFair$Tape", 47, "skill", 6).2.2.2 : Nat) = 2 + 6 from rfl, sdF_K (by decide)]; exact hev 6 (by decide))
    | 7, hi => cases hi; exact vk_R.of (hts _ (List.mem_append_right _ (List.mem_of_getElem? (i := 642) (by decide +kernel)))) (by rw [show (2 + ("UnfinishedFair$Tape", 63, "zeal", 7).2.2.2 : Nat) = 2 + 7 from rfl, sdF_K (by decide)]; exact hev 7 (by decide))
    | 8, hi => cases hi; exact vk_R.of (hts _ (List.mem_append_right _ (List.mem_of_getElem? (i := 634) (by decide +kernel)))) (by rw [show (2 + ("UnfinishedFair$Tape", 76, "by", 8).2.2.2 : Nat) = 2 + 8 from rfl, sdF_K (by decide)]; exact hev 8 (by decide))
    | 9, hi => cases hi; exact vk_R.of (hts _ (List.mem_append_right _ (List.mem_of_getElem? (i := 635) (by decide +kernel)))) (by rw [show (2 + ("UnfinishedFair$Tape", 78, "dust", 9).2.2.2 : Nat) = 2 + 9 from rfl, sdF_K (by decide)]; exact hev 9 (by decide))
    | i + 10, hi => simp [litS] at hi
  · intro q hq
    obtain ⟨i, hi⟩ := List.getElem?_of_mem hq
    match i, hi with
    | 0, hi => cases hi; exact va_Nw.of rfl (hts (Cond.methodLinkNest "UnfinishedFair" 73 ⟨"UnfinishedFair$Sheet", "<init>", "()V"⟩ "UnfinishedFair") (List.mem_append_right _ (List.mem_of_getElem? (i := 171) (by decide +kernel))))
    | 1, hi => cases hi; exact va_Nw.of rfl (hts (Cond.methodLinkNest "UnfinishedFair$Common" 122 ⟨"UnfinishedFair", "sum", "([II)I"⟩ "UnfinishedFair") (List.mem_append_right _ (List.mem_of_getElem? (i := 460) (by decide +kernel))))
    | i + 2, hi => simp [nestS] at hi
  · exact va_AO.of (hts _ (List.mem_append_right _ (List.mem_of_getElem? (i := 29) (by decide +kernel))))
  · exact va_AO.of (hts _ (List.mem_append_right _ (List.mem_of_getElem? (i := 169) (by decide +kernel))))
theorem ak_p {args : Array Value} {s : State} {ty : FieldType} (h : (Cond.arrayClass ty).before args s = true) (hp : ∀ C, ty ≠ .object C) : ∃ cA : ClassId, ArrOfT s cA ty ∧ va_RA s cA ty := by
  obtain ⟨c, k, comp, h1, h2, h3⟩ := Cond.arrayClass_spec h
  refine ⟨c, fun n z => ⟨fun k h => (by cases h), k, h2, comp, h3⟩, ?_⟩
  cases ty with
  | object C => exact absurd rfl (hp C)
  | _ => exact h1
theorem ak_o {args : Array Value} {s : State} {E : String} (h : (Cond.arrayOver (.object E)).before args s = true) : ∃ cA : ClassId, ArrOfT s cA (.object E) ∧ va_RA s cA (.object E) := by
  obtain ⟨comp, c, k, h1, h2, h3, h4, h5⟩ := Cond.arrayOver_spec h
  exact ⟨c, fun n z => ⟨fun k h => (by cases h), k, h3, comp, h4⟩, k, comp, h3, h4, h1, h5⟩
set_option maxRecDepth 100000 in
set_option maxHeartbeats 4000000 in
theorem vK_start {args : Array Value} {s : State} (hts : ∀ w ∈ lw_tbl, w.before args s = true) : ∃ (D : va_G) (ca : Nat → ClassId), va_K D vwCl (gT ca) s := by
  have htb : ∀ w ∈ TB, w.before args s = true := fun w hw => hts w (List.mem_filter.mp hw).1
  obtain ⟨c0, i0, k0⟩ := u_known (C := RX0) (T := TX0) (N := 1) (n := 1) htb uw_X0 (htb _ (tb_t 43 (by decide +kernel) rfl))
  obtain ⟨c1, i1, k1⟩ := u_known (C := RX1) (T := TX1) (N := 1) (n := 1) htb uw_X1 (htb _ (tb_t 70 (by decide +kernel) rfl))
  obtain ⟨c2, i2, k2⟩ := u_known (C := RX2) (T := TX2) (N := 11) (n := 11) htb uw_X2 (htb _ (tb_t 88 (by decide +kernel) rfl))
  obtain ⟨c3, i3, k3⟩ := u_known (C := RX3) (T := TX3) (N := 1) (n := 1) htb uw_X3 (htb _ (tb_t 52 (by decide +kernel) rfl))
  obtain ⟨c4, i4, k4⟩ := u_known (C := RX4) (T := TX4) (N := 1) (n := 1) htb uw_X4 (htb _ (tb_t 30 (by decide +kernel) rfl))
  obtain ⟨c5, i5, k5⟩ := u_known (C := RX5) (T := TX5) (N := 1) (n := 1) htb uw_X5 (htb _ (tb_t 79 (by decide +kernel) rfl))
  obtain ⟨c6, i6, k6⟩ := u_known (C := RX6) (T := TX6) (N := 1) (n := 1) htb uw_X6 (htb _ (tb_t 61 (by decide +kernel) rfl))
  obtain ⟨c7, i7, k7⟩ := u_known (C := RX7) (T := TX7) (N := 3) (n := 3) htb uw_X7 (htb _ (tb_t 170 (by decide +kernel) rfl))
  obtain ⟨c8, i8, k8⟩ := u_known (C := RX8) (T := TX8) (N := 6) (n := 6) htb uw_X8 (htb _ (tb_t 143 (by decide +kernel) rfl))
  obtain ⟨c9, i9, k9⟩ := u_known (C := RX9) (T := TX9) (N := 7) (n := 7) htb uw_X9 (htb _ (tb_t 21 (by decide +kernel) rfl))
  obtain ⟨c10, i10, k10⟩ := u_known (C := RX10) (T := TX10) (N := 15) (n := 15) htb uw_X10 (htb _ (tb_t 726 (by decide +kernel) rfl))
  obtain ⟨a0, x0⟩ := ak_p (htb _ wa_int) (fun C h => by cases h)
  obtain ⟨a1, x1⟩ := ak_p (htb _ wa_long) (fun C h => by cases h)
  obtain ⟨a2, x2⟩ := ak_p (htb _ wa_byte) (fun C h => by cases h)
  obtain ⟨a3, x3⟩ := ak_o (E := "UnfinishedFair$Kind") (hts _ (List.mem_append_right _ (List.mem_of_getElem? (i := 29) (by decide +kernel))))
  obtain ⟨a4, x4⟩ := ak_o (E := "UnfinishedFair$Sheet") (hts _ (List.mem_append_right _ (List.mem_of_getElem? (i := 169) (by decide +kernel))))
  refine ⟨(fun k => [c0, c1, c2, c3, c4, c5, c6, c7, c8, c9, c10].getD k c0, fun k => [i0, i1, i2, i3, i4, i5, i6, i7, i8, i9, i10].getD k i0), fun k => [a0, a1, a2, a3, a4].getD k a0, ?_, ?_⟩
  · intro k q hq
    match k, hq with
    | 0, hq => cases hq; exact k0
    | 1, hq => cases hq; exact k1
    | 2, hq => cases hq; exact k2
    | 3, hq => cases hq; exact k3
    | 4, hq => cases hq; exact k4
    | 5, hq => cases hq; exact k5
    | 6, hq => cases hq; exact k6
    | 7, hq => cases hq; exact k7
    | 8, hq => cases hq; exact k8
    | 9, hq => cases hq; exact k9
    | 10, hq => cases hq; exact k10
    | k + 11, hq => simp [vwCl] at hq
  · intro k q hq
    match k, hq with
    | 0, hq => cases hq; exact x0
    | 1, hq => cases hq; exact x1
    | 2, hq => cases hq; exact x2
    | 3, hq => cases hq; exact x3
    | 4, hq => cases hq; exact x4
    | k + 5, hq => simp [gT] at hq
def A0 : AS := fun f _ => match f with
  | 0 => 5
  | 1 => 4
  | 5 => 1
  | _ => 0
theorem rM_start : RelM mI_12 A0 0 := by
  show ∀ i, i < 52 → mI_12 i = rowM A0 0 i
  decide +kernel
theorem inv_start : Inv A0 := by
  refine ⟨by decide, fun p _ => ⟨?_, ?_, ?_⟩, fun t _ => ⟨?_, ?_, ?_, ?_⟩⟩ <;> exact Nat.le_of_ble_eq_true rfl
theorem rC_start {sk ze : Nat → Int32} (h5 : ∀ i, i < 6 → sk i = 5) (h4 : ∀ i, i < 6 → ze i = 4) : RelC sk ze zI zI zI zI zI 0 A0 :=
  ⟨fun i hi => h5 i hi, fun i hi => h4 i hi, fun _ _ => rfl, fun _ _ => rfl, fun _ _ => rfl, fun _ _ => rfl, fun _ _ => rfl, rfl⟩
