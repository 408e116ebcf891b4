theorem fw_X4_7_0 : FW RX4 7 0 0 true (.object "java/lang/String") := ⟨RX0, TX0, 1, tyX0, rfl, by decide, uw_X0, (tb_t 36 (by decide +kernel) rfl), tyX0_ok, nmX0, rfl, by decide +kernel, fun _ => rfl⟩
theorem fw_X4_7_1 : FW RX4 7 1 0 true (.object "java/lang/String") := ⟨RX1, TX1, 1, tyX1, rfl, by decide, uw_X1, (tb_t 36 (by decide +kernel) rfl), tyX1_ok, nmX1, rfl, by decide +kernel, fun _ => rfl⟩
theorem fw_X4_7_3 : FW RX4 7 3 0 true (.object "java/lang/String") := ⟨RX3, TX3, 1, tyX3, rfl, by decide, uw_X3, (tb_t 36 (by decide +kernel) rfl), tyX3_ok, nmX3, rfl, by decide +kernel, fun _ => rfl⟩
theorem fw_X4_7_4 : FW RX4 7 4 0 true (.object "java/lang/String") := ⟨RX4, TX4, 1, tyX4, rfl, by decide, uw_X4, (tb_t 36 (by decide +kernel) rfl), tyX4_ok, nmX4, rfl, by decide +kernel, fun _ => rfl⟩
theorem fw_X4_7_5 : FW RX4 7 5 0 true (.object "java/lang/String") := ⟨RX5, TX5, 1, tyX5, rfl, by decide, uw_X5, (tb_t 36 (by decide +kernel) rfl), tyX5_ok, nmX5, rfl, by decide +kernel, fun _ => rfl⟩
theorem fw_X4_7_6 : FW RX4 7 6 0 true (.object "java/lang/String") := ⟨RX6, TX6, 1, tyX6, rfl, by decide, uw_X6, (tb_t 36 (by decide +kernel) rfl), tyX6_ok, nmX6, rfl, by decide +kernel, fun _ => rfl⟩
theorem oi_X4_1 : Cond.methodLink RX4 1 Lib.objectInit ∈ TB := (tb_t 35 (by decide +kernel) rfl)
set_option maxRecDepth 100000 in
set_option maxHeartbeats 8000000 in
theorem c_X4_init {l : Launch} {D : va_G} {ca : Nat → ClassId} {sd : Nat → Nat} (h0 ci tt : Nat) (fw : FW RX4 7 ci 0 true (.object "java/lang/String")) : Cn l D ca sd yX4_init cX4_init 2 none { frames := 1, cells := 0, slots := 0, locals := 12 } [.ref h0, .ref tt] [(h0, .inr (ci, [.null]))] [(h0, .inr (ci, [.null]))] 0 0 (Rv D (fun _ : Unit => True) (fun _ => wO h0 ci tt)) := by
  refine cn_of (by decide) (Nat.le_of_ble_eq_true rfl) (fun k C hR hB hI => ?_)
  have C : Cx D ca sd cX4_init RX4 none { frames := 1, cells := 0, slots := 0, locals := 12 } k 2 := C
  show J l D k 2 0 0 0 [(h0, .inr (ci, [.null]))] [(0, .ref h0), (1, .ref tt)] []
  refine j_aload_n C 0 dX4_init_0 rfl ?_
  refine j_oinit C oi_X4_1 (by decide) (by decide) dX4_init_1 ?_
  refine j_aload_n C 0 dX4_init_4 rfl ?_
  refine j_aload_n C 1 dX4_init_5 rfl ?_
  refine j_putF C hB (hI rfl) fw 0 (wO h0 ci tt) dX4_init_6 rfl rfl rfl (Nat.le_of_ble_eq_true rfl) rfl ?_
  exact j_vret C hB hR () rfl dX4_init_9 trivial rfl
theorem lkI_X0_1 : LkI RX0 1 yX4_init cX4_init 2 1 := ⟨(tb_t 48 (by decide +kernel) rfl), (tb_t 33 (by decide +kernel) rfl), (tb_t 2 (by decide +kernel) rfl), (tb_t 34 (by decide +kernel) rfl), rfl, by decide, by decide, by decide +kernel⟩
set_option maxRecDepth 100000 in
set_option maxHeartbeats 8000000 in
theorem c_X0_init {l : Launch} {D : va_G} {ca : Nat → ClassId} {sd : Nat → Nat} (h0 ci tt : Nat) (fw : FW RX4 7 ci 0 true (.object "java/lang/String")) : Cn l D ca sd yX0_init cX0_init 2 none { frames := 2, cells := 0, slots := 0, locals := 33 } [.ref h0, .ref tt] [(h0, .inr (ci, [.null]))] [(h0, .inr (ci, [.null]))] 0 0 (Rv D (fun _ : Unit => True) (fun _ => wO h0 ci tt)) := by
  refine cn_of (by decide) (Nat.le_of_ble_eq_true rfl) (fun k C hR hB hI => ?_)
  have C : Cx D ca sd cX0_init RX0 none { frames := 2, cells := 0, slots := 0, locals := 33 } k 2 := C
  show J l D k 2 0 0 0 [(h0, .inr (ci, [.null]))] [(0, .ref h0), (1, .ref tt)] []
  refine j_aload_n C 0 dX0_init_0 rfl ?_
  refine j_aload_n C 1 dX0_init_1 rfl ?_
  refine j_cvT C hB 0 1 (fun _ : Unit => wO h0 ci tt) rfl (fun _ => rfl) (jr_I C lkI_X0_1 (c_X4_init h0 ci tt fw) ⟨rfl, rfl, by decide, by decide, by decide, by decide⟩ [0] (by decide) rfl (fx_rw C hB [0] rfl) rfl rfl (Nat.le_of_ble_eq_true rfl) dX0_init_2) (fun _ _ => ?_)
  exact j_vret C hB hR () rfl dX0_init_5 trivial rfl
theorem lkI_X3_1 : LkI RX3 1 yX4_init cX4_init 2 1 := ⟨(tb_t 57 (by decide +kernel) rfl), (tb_t 33 (by decide +kernel) rfl), (tb_t 2 (by decide +kernel) rfl), (tb_t 34 (by decide +kernel) rfl), rfl, by decide, by decide, by decide +kernel⟩
set_option maxRecDepth 100000 in
set_option maxHeartbeats 8000000 in
theorem c_X3_init {l : Launch} {D : va_G} {ca : Nat → ClassId} {sd : Nat → Nat} (h0 ci tt : Nat) (fw : FW RX4 7 ci 0 true (.object "java/lang/String")) : Cn l D ca sd yX3_init cX3_init 2 none { frames := 2, cells := 0, slots := 0, locals := 33 } [.ref h0, .ref tt] [(h0, .inr (ci, [.null]))] [(h0, .inr (ci, [.null]))] 0 0 (Rv D (fun _ : Unit => True) (fun _ => wO h0 ci tt)) := by
  refine cn_of (by decide) (Nat.le_of_ble_eq_true rfl) (fun k C hR hB hI => ?_)
  have C : Cx D ca sd cX3_init RX3 none { frames := 2, cells := 0, slots := 0, locals := 33 } k 2 := C
  show J l D k 2 0 0 0 [(h0, .inr (ci, [.null]))] [(0, .ref h0), (1, .ref tt)] []
  refine j_aload_n C 0 dX3_init_0 rfl ?_
  refine j_aload_n C 1 dX3_init_1 rfl ?_
  refine j_cvT C hB 0 1 (fun _ : Unit => wO h0 ci tt) rfl (fun _ => rfl) (jr_I C lkI_X3_1 (c_X4_init h0 ci tt fw) ⟨rfl, rfl, by decide, by decide, by decide, by decide⟩ [0] (by decide) rfl (fx_rw C hB [0] rfl) rfl rfl (Nat.le_of_ble_eq_true rfl) dX3_init_2) (fun _ _ => ?_)
  exact j_vret C hB hR () rfl dX3_init_5 trivial rfl
theorem lkI_X6_1 : LkI RX6 1 yX4_init cX4_init 2 1 := ⟨(tb_t 66 (by decide +kernel) rfl), (tb_t 33 (by decide +kernel) rfl), (tb_t 2 (by decide +kernel) rfl), (tb_t 34 (by decide +kernel) rfl), rfl, by decide, by decide, by decide +kernel⟩
set_option maxRecDepth 100000 in
set_option maxHeartbeats 8000000 in
theorem c_X6_init {l : Launch} {D : va_G} {ca : Nat → ClassId} {sd : Nat → Nat} (h0 ci tt : Nat) (fw : FW RX4 7 ci 0 true (.object "java/lang/String")) : Cn l D ca sd yX6_init cX6_init 2 none { frames := 2, cells := 0, slots := 0, locals := 33 } [.ref h0, .ref tt] [(h0, .inr (ci, [.null]))] [(h0, .inr (ci, [.null]))] 0 0 (Rv D (fun _ : Unit => True) (fun _ => wO h0 ci tt)) := by
  refine cn_of (by decide) (Nat.le_of_ble_eq_true rfl) (fun k C hR hB hI => ?_)
  have C : Cx D ca sd cX6_init RX6 none { frames := 2, cells := 0, slots := 0, locals := 33 } k 2 := C
  show J l D k 2 0 0 0 [(h0, .inr (ci, [.null]))] [(0, .ref h0), (1, .ref tt)] []
  refine j_aload_n C 0 dX6_init_0 rfl ?_
  refine j_aload_n C 1 dX6_init_1 rfl ?_
  refine j_cvT C hB 0 1 (fun _ : Unit => wO h0 ci tt) rfl (fun _ => rfl) (jr_I C lkI_X6_1 (c_X4_init h0 ci tt fw) ⟨rfl, rfl, by decide, by decide, by decide, by decide⟩ [0] (by decide) rfl (fx_rw C hB [0] rfl) rfl rfl (Nat.le_of_ble_eq_true rfl) dX6_init_2) (fun _ _ => ?_)
  exact j_vret C hB hR () rfl dX6_init_5 trivial rfl
theorem lkI_X1_1 : LkI RX1 1 yX0_init cX0_init 2 1 := ⟨(tb_t 75 (by decide +kernel) rfl), (tb_t 46 (by decide +kernel) rfl), (tb_t 3 (by decide +kernel) rfl), (tb_t 47 (by decide +kernel) rfl), rfl, by decide, by decide, by decide +kernel⟩
set_option maxRecDepth 100000 in
set_option maxHeartbeats 8000000 in
theorem c_X1_init {l : Launch} {D : va_G} {ca : Nat → ClassId} {sd : Nat → Nat} (h0 ci tt : Nat) (fw : FW RX4 7 ci 0 true (.object "java/lang/String")) : Cn l D ca sd yX1_init cX1_init 2 none { frames := 3, cells := 0, slots := 0, locals := 54 } [.ref h0, .ref tt] [(h0, .inr (ci, [.null]))] [(h0, .inr (ci, [.null]))] 0 0 (Rv D (fun _ : Unit => True) (fun _ => wO h0 ci tt)) := by
  refine cn_of (by decide) (Nat.le_of_ble_eq_true rfl) (fun k C hR hB hI => ?_)
  have C : Cx D ca sd cX1_init RX1 none { frames := 3, cells := 0, slots := 0, locals := 54 } k 2 := C
  show J l D k 2 0 0 0 [(h0, .inr (ci, [.null]))] [(0, .ref h0), (1, .ref tt)] []
  refine j_aload_n C 0 dX1_init_0 rfl ?_
  refine j_aload_n C 1 dX1_init_1 rfl ?_
  refine j_cvT C hB 0 1 (fun _ : Unit => wO h0 ci tt) rfl (fun _ => rfl) (jr_I C lkI_X1_1 (c_X0_init h0 ci tt fw) ⟨rfl, rfl, by decide, by decide, by decide, by decide⟩ [0] (by decide) rfl (fx_rw C hB [0] rfl) rfl rfl (Nat.le_of_ble_eq_true rfl) dX1_init_2) (fun _ _ => ?_)
  exact j_vret C hB hR () rfl dX1_init_5 trivial rfl
theorem lkI_X5_1 : LkI RX5 1 yX3_init cX3_init 2 1 := ⟨(tb_t 84 (by decide +kernel) rfl), (tb_t 55 (by decide +kernel) rfl), (tb_t 4 (by decide +kernel) rfl), (tb_t 56 (by decide +kernel) rfl), rfl, by decide, by decide, by decide +kernel⟩
set_option maxRecDepth 100000 in
set_option maxHeartbeats 8000000 in
theorem c_X5_init {l : Launch} {D : va_G} {ca : Nat → ClassId} {sd : Nat → Nat} (h0 ci tt : Nat) (fw : FW RX4 7 ci 0 true (.object "java/lang/String")) : Cn l D ca sd yX5_init cX5_init 2 none { frames := 3, cells := 0, slots := 0, locals := 54 } [.ref h0, .ref tt] [(h0, .inr (ci, [.null]))] [(h0, .inr (ci, [.null]))] 0 0 (Rv D (fun _ : Unit => True) (fun _ => wO h0 ci tt)) := by
  refine cn_of (by decide) (Nat.le_of_ble_eq_true rfl) (fun k C hR hB hI => ?_)
  have C : Cx D ca sd cX5_init RX5 none { frames := 3, cells := 0, slots := 0, locals := 54 } k 2 := C
  show J l D k 2 0 0 0 [(h0, .inr (ci, [.null]))] [(0, .ref h0), (1, .ref tt)] []
  refine j_aload_n C 0 dX5_init_0 rfl ?_
  refine j_aload_n C 1 dX5_init_1 rfl ?_
  refine j_cvT C hB 0 1 (fun _ : Unit => wO h0 ci tt) rfl (fun _ => rfl) (jr_I C lkI_X5_1 (c_X3_init h0 ci tt fw) ⟨rfl, rfl, by decide, by decide, by decide, by decide⟩ [0] (by decide) rfl (fx_rw C hB [0] rfl) rfl rfl (Nat.le_of_ble_eq_true rfl) dX5_init_2) (fun _ _ => ?_)
  exact j_vret C hB hR () rfl dX5_init_5 trivial rfl
theorem oi_X2_3 : Cond.methodLink RX2 3 Lib.objectInit ∈ TB := (tb_t 92 (by decide +kernel) rfl)
theorem fw_X2_9_2 : FW RX2 9 2 1 true (.array .int) := ⟨RX2, TX2, 11, tyX2, rfl, by decide, uw_X2, (tb_t 97 (by decide +kernel) rfl), tyX2_ok, nmX2, rfl, by decide +kernel, fun _ => rfl⟩
theorem fw_X2_15_2 : FW RX2 15 2 2 true (.array .int) := ⟨RX2, TX2, 11, tyX2, rfl, by decide, uw_X2, (tb_t 100 (by decide +kernel) rfl), tyX2_ok, nmX2, rfl, by decide +kernel, fun _ => rfl⟩
theorem fw_X2_18_2 : FW RX2 18 2 3 true (.array .int) := ⟨RX2, TX2, 11, tyX2, rfl, by decide, uw_X2, (tb_t 103 (by decide +kernel) rfl), tyX2_ok, nmX2, rfl, by decide +kernel, fun _ => rfl⟩
theorem fw_X2_21_2 : FW RX2 21 2 4 true (.array .int) := ⟨RX2, TX2, 11, tyX2, rfl, by decide, uw_X2, (tb_t 105 (by decide +kernel) rfl), tyX2_ok, nmX2, rfl, by decide +kernel, fun _ => rfl⟩
theorem fw_X2_24_2 : FW RX2 24 2 5 true (.array .int) := ⟨RX2, TX2, 11, tyX2, rfl, by decide, uw_X2, (tb_t 107 (by decide +kernel) rfl), tyX2_ok, nmX2, rfl, by decide +kernel, fun _ => rfl⟩
theorem fw_X2_27_2 : FW RX2 27 2 6 true (.array .int) := ⟨RX2, TX2, 11, tyX2, rfl, by decide, uw_X2, (tb_t 109 (by decide +kernel) rfl), tyX2_ok, nmX2, rfl, by decide +kernel, fun _ => rfl⟩
theorem fw_X2_30_2 : FW RX2 30 2 7 true (.array .int) := ⟨RX2, TX2, 11, tyX2, rfl, by decide, uw_X2, (tb_t 111 (by decide +kernel) rfl), tyX2_ok, nmX2, rfl, by decide +kernel, fun _ => rfl⟩
theorem fw_X2_33_2 : FW RX2 33 2 8 true (.array .int) := ⟨RX2, TX2, 11, tyX2, rfl, by decide, uw_X2, (tb_t 113 (by decide +kernel) rfl), tyX2_ok, nmX2, rfl, by decide +kernel, fun _ => rfl⟩
theorem fw_X2_36_2 : FW RX2 36 2 0 true (.array (.object "UnfinishedFair$Kind")) := ⟨RX2, TX2, 11, tyX2, rfl, by decide, uw_X2, (tb_t 96 (by decide +kernel) rfl), tyX2_ok, nmX2, rfl, by decide +kernel, fun _ => rfl⟩
set_option maxRecDepth 100000 in
set_option maxHeartbeats 8000000 in
theorem c_X2_init {l : Launch} {D : va_G} {ca : Nat → ClassId} {sd : Nat → Nat} (h0 n0 : Nat) : Cn l D ca sd yX2_init cX2_init 2 none { frames := 1, cells := 8, slots := 56, locals := 23 } [.ref h0, .ref n0] [(h0, .inr (2, [.null, .null, .null, .null, .null, .null, .null, .null, .null, .int 0, .int 0]))] [(h0, .inr (2, [.null, .null, .null, .null, .null, .null, .null, .null, .null, .int 0, .int 0]))] 8 56 (Rv D (fun u : (Nat → Nat) × (Nat → Int32) × (Nat → Int32) => u.1 0 = h0 ∧ (∀ j, j < 6 → u.2.1 j = 5) ∧ ∀ j, j < 6 → u.2.2 j = 4) (fun u => wC ca u.1 n0 u.2.1 u.2.2 zI zI zI zI zI zI 0 0)) := by
  refine cn_of (by decide) (Nat.le_of_ble_eq_true rfl) (fun k C hR hB hI => ?_)
  have C : Cx D ca sd cX2_init RX2 none { frames := 1, cells := 8, slots := 56, locals := 23 } k 2 := C
  show J l D k 2 0 0 0 [(h0, .inr (2, [.null, .null, .null, .null, .null, .null, .null, .null, .null, .int 0, .int 0]))] [(0, .ref h0), (1, .ref n0)] []
  refine j_aload_n C 0 dX2_init_0 rfl ?_
  refine j_oinit C oi_X2_3 (by decide) (by decide) dX2_init_1 ?_
  refine j_aload_n C 0 dX2_init_4 rfl ?_
  refine j_bipush C 6 dX2_init_5 (by decide) ?_
  refine j_newI C hB 6 (fun q1 => [(h0, .inr (2, [.null, .null, .null, .null, .null, .null, .null, .null, .null, .int 0, .int 0])), (q1, .inl (ca 0, 6, .inl zI))]) (by decide) (by decide) (by decide) (by decide) (by decide) dX2_init_7 (fun _ => rfl) (fun q1 => ?_)
  refine j_putF C hB (hI rfl) fw_X2_9_2 0 [(h0, .inr (2, [.null, .ref q1, .null, .null, .null, .null, .null, .null, .null, .int 0, .int 0])), (q1, .inl (ca 0, 6, .inl zI))] dX2_init_9 rfl rfl rfl (Nat.le_of_ble_eq_true rfl) rfl ?_
  refine j_aload_n C 0 dX2_init_12 rfl ?_
  refine j_bipush C 6 dX2_init_13 (by decide) ?_
  refine j_newI C hB 6 (fun q2 => [(h0, .inr (2, [.null, .ref q1, .null, .null, .null, .null, .null, .null, .null, .int 0, .int 0])), (q1, .inl (ca 0, 6, .inl zI)), (q2, .inl (ca 0, 6, .inl zI))]) (by decide) (by decide) (by decide) (by decide) (by decide) dX2_init_15 (fun _ => rfl) (fun q2 => ?_)
  refine j_putF C hB (hI rfl) fw_X2_15_2 0 [(h0, .inr (2, [.null, .ref q1, .ref q2, .null, .null, .null, .null, .null, .null, .int 0, .int 0])), (q1, .inl (ca 0, 6, .inl zI)), (q2, .inl (ca 0, 6, .inl zI))] dX2_init_17 rfl rfl rfl (Nat.le_of_ble_eq_true rfl) rfl ?_
  refine j_aload_n C 0 dX2_init_20 rfl ?_
  refine j_bipush C 6 dX2_init_21 (by decide) ?_
  refine j_newI C hB 6 (fun q3 => [(h0, .inr (2, [.null, .ref q1, .ref q2, .null, .null, .null, .null, .null, .null, .int 0, .int 0])), (q1, .inl (ca 0, 6, .inl zI)), (q2, .inl (ca 0, 6, .inl zI)), (q3, .inl (ca 0, 6, .inl zI))]) (by decide) (by decide) (by decide) (by decide) (by decide) dX2_init_23 (fun _ => rfl) (fun q3 => ?_)
  refine j_putF C hB (hI rfl) fw_X2_18_2 0 [(h0, .inr (2, [.null, .ref q1, .ref q2, .ref q3, .null, .null, .null, .null, .null, .int 0, .int 0])), (q1, .inl (ca 0, 6, .inl zI)), (q2, .inl (ca 0, 6, .inl zI)), (q3, .inl (ca 0, 6, .inl zI))] dX2_init_25 rfl rfl rfl (Nat.le_of_ble_eq_true rfl) rfl ?_
  refine j_aload_n C 0 dX2_init_28 rfl ?_
  refine j_bipush C 8 dX2_init_29 (by decide) ?_
  refine j_newI C hB 8 (fun q4 => [(h0, .inr (2, [.null, .ref q1, .ref q2, .ref q3, .null, .null, .null, .null, .null, .int 0, .int 0])), (q1, .inl (ca 0, 6, .inl zI)), (q2, .inl (ca 0, 6, .inl zI)), (q3, .inl (ca 0, 6, .inl zI)), (q4, .inl (ca 0, 8, .inl zI))]) (by decide) (by decide) (by decide) (by decide) (by decide) dX2_init_31 (fun _ => rfl) (fun q4 => ?_)
  refine j_putF C hB (hI rfl) fw_X2_21_2 0 [(h0, .inr (2, [.null, .ref q1, .ref q2, .ref q3, .ref q4, .null, .null, .null, .null, .int 0, .int 0])), (q1, .inl (ca 0, 6, .inl zI)), (q2, .inl (ca 0, 6, .inl zI)), (q3, .inl (ca 0, 6, .inl zI)), (q4, .inl (ca 0, 8, .inl zI))] dX2_init_33 rfl rfl rfl (Nat.le_of_ble_eq_true rfl) rfl ?_
  refine j_aload_n C 0 dX2_init_36 rfl ?_
  refine j_bipush C 8 dX2_init_37 (by decide) ?_
  refine j_newI C hB 8 (fun q5 => [(h0, .inr (2, [.null, .ref q1, .ref q2, .ref q3, .ref q4, .null, .null, .null, .null, .int 0, .int 0])), (q1, .inl (ca 0, 6, .inl zI)), (q2, .inl (ca 0, 6, .inl zI)), (q3, .inl (ca 0, 6, .inl zI)), (q4, .inl (ca 0, 8, .inl zI)), (q5, .inl (ca 0, 8, .inl zI))]) (by decide) (by decide) (by decide) (by decide) (by decide) dX2_init_39 (fun _ => rfl) (fun q5 => ?_)
  refine j_putF C hB (hI rfl) fw_X2_24_2 0 [(h0, .inr (2, [.null, .ref q1, .ref q2, .ref q3, .ref q4, .ref q5, .null, .null, .null, .int 0, .int 0])), (q1, .inl (ca 0, 6, .inl zI)), (q2, .inl (ca 0, 6, .inl zI)), (q3, .inl (ca 0, 6, .inl zI)), (q4, .inl (ca 0, 8, .inl zI)), (q5, .inl (ca 0, 8, .inl zI))] dX2_init_41 rfl rfl rfl (Nat.le_of_ble_eq_true rfl) rfl ?_
  refine j_aload_n C 0 dX2_init_44 rfl ?_
  refine j_bipush C 8 dX2_init_45 (by decide) ?_
  refine j_newI C hB 8 (fun q6 => [(h0, .inr (2, [.null, .ref q1, .ref q2, .ref q3, .ref q4, .ref q5, .null, .null, .null, .int 0, .int 0])), (q1, .inl (ca 0, 6, .inl zI)), (q2, .inl (ca 0, 6, .inl zI)), (q3, .inl (ca 0, 6, .inl zI)), (q4, .inl (ca 0, 8, .inl zI)), (q5, .inl (ca 0, 8, .inl zI)), (q6, .inl (ca 0, 8, .inl zI))]) (by decide) (by decide) (by decide) (by decide) (by decide) dX2_init_47 (fun _ => rfl) (fun q6 => ?_)
  refine j_putF C hB (hI rfl) fw_X2_27_2 0 [(h0, .inr (2, [.null, .ref q1, .ref q2, .ref q3, .ref q4, .ref q5, .ref q6, .null, .null, .int 0, .int 0])), (q1, .inl (ca 0, 6, .inl zI)), (q2, .inl (ca 0, 6, .inl zI)), (q3, .inl (ca 0, 6, .inl zI)), (q4, .inl (ca 0, 8, .inl zI)), (q5, .inl (ca 0, 8, .inl zI)), (q6, .inl (ca 0, 8, .inl zI))] dX2_init_49 rfl rfl rfl (Nat.le_of_ble_eq_true rfl) rfl ?_
  refine j_aload_n C 0 dX2_init_52 rfl ?_
  refine j_bipush C 8 dX2_init_53 (by decide) ?_
  refine j_newI C hB 8 (fun q7 => [(h0, .inr (2, [.null, .ref q1, .ref q2, .ref q3, .ref q4, .ref q5, .ref q6, .null, .null, .int 0, .int 0])), (q1, .inl (ca 0, 6, .inl zI)), (q2, .inl (ca 0, 6, .inl zI)), (q3, .inl (ca 0, 6, .inl zI)), (q4, .inl (ca 0, 8, .inl zI)), (q5, .inl (ca 0, 8, .inl zI)), (q6, .inl (ca 0, 8, .inl zI)), (q7, .inl (ca 0, 8, .inl zI))]) (by decide) (by decide) (by decide) (by decide) (by decide) dX2_init_55 (fun _ => rfl) (fun q7 => ?_)
  refine j_putF C hB (hI rfl) fw_X2_30_2 0 [(h0, .inr (2, [.null, .ref q1, .ref q2, .ref q3, .ref q4, .ref q5, .ref q6, .ref q7, .null, .int 0, .int 0])), (q1, .inl (ca 0, 6, .inl zI)), (q2, .inl (ca 0, 6, .inl zI)), (q3, .inl (ca 0, 6, .inl zI)), (q4, .inl (ca 0, 8, .inl zI)), (q5, .inl (ca 0, 8, .inl zI)), (q6, .inl (ca 0, 8, .inl zI)), (q7, .inl (ca 0, 8, .inl zI))] dX2_init_57 rfl rfl rfl (Nat.le_of_ble_eq_true rfl) rfl ?_
  refine j_aload_n C 0 dX2_init_60 rfl ?_
  refine j_bipush C 6 dX2_init_61 (by decide) ?_
  refine j_newI C hB 6 (fun q8 => [(h0, .inr (2, [.null, .ref q1, .ref q2, .ref q3, .ref q4, .ref q5, .ref q6, .ref q7, .null, .int 0, .int 0])), (q1, .inl (ca 0, 6, .inl zI)), (q2, .inl (ca 0, 6, .inl zI)), (q3, .inl (ca 0, 6, .inl zI)), (q4, .inl (ca 0, 8, .inl zI)), (q5, .inl (ca 0, 8, .inl zI)), (q6, .inl (ca 0, 8, .inl zI)), (q7, .inl (ca 0, 8, .inl zI)), (q8, .inl (ca 0, 6, .inl zI))]) (by decide) (by decide) (by decide) (by decide) (by decide) dX2_init_63 (fun _ => rfl) (fun q8 => ?_)
  refine j_putF C hB (hI rfl) fw_X2_33_2 0 [(h0, .inr (2, [.null, .ref q1, .ref q2, .ref q3, .ref q4, .ref q5, .ref q6, .ref q7, .ref q8, .int 0, .int 0])), (q1, .inl (ca 0, 6, .inl zI)), (q2, .inl (ca 0, 6, .inl zI)), (q3, .inl (ca 0, 6, .inl zI)), (q4, .inl (ca 0, 8, .inl zI)), (q5, .inl (ca 0, 8, .inl zI)), (q6, .inl (ca 0, 8, .inl zI)), (q7, .inl (ca 0, 8, .inl zI)), (q8, .inl (ca 0, 6, .inl zI))] dX2_init_65 rfl rfl rfl (Nat.le_of_ble_eq_true rfl) rfl ?_
  refine j_aload_n C 0 dX2_init_68 rfl ?_
  refine j_aload_n C 1 dX2_init_69 rfl ?_
  refine j_putF C hB (hI rfl) fw_X2_36_2 0 [(h0, .inr (2, [.ref n0, .ref q1, .ref q2, .ref q3, .ref q4, .ref q5, .ref q6, .ref q7, .ref q8, .int 0, .int 0])), (q1, .inl (ca 0, 6, .inl zI)), (q2, .inl (ca 0, 6, .inl zI)), (q3, .inl (ca 0, 6, .inl zI)), (q4, .inl (ca 0, 8, .inl zI)), (q5, .inl (ca 0, 8, .inl zI)), (q6, .inl (ca 0, 8, .inl zI)), (q7, .inl (ca 0, 8, .inl zI)), (q8, .inl (ca 0, 6, .inl zI))] dX2_init_70 rfl rfl rfl (Nat.le_of_ble_eq_true rfl) rfl ?_
  refine j_aload_n C 0 dX2_init_73 rfl ?_
  refine j_get C fl_X2_9_2 0 dX2_init_74 rfl rfl ?_
  refine j_iconst C 5 dX2_init_77 (by decide) ?_
  refine j_cvT C hB 1 2 (fun g1 : Nat → Int32 => [(h0, .inr (2, [.ref n0, .ref q1, .ref q2, .ref q3, .ref q4, .ref q5, .ref q6, .ref q7, .ref q8, .int 0, .int 0])), (q1, .inl (ca 0, 6, .inl g1)), (q2, .inl (ca 0, 6, .inl zI)), (q3, .inl (ca 0, 6, .inl zI)), (q4, .inl (ca 0, 8, .inl zI)), (q5, .inl (ca 0, 8, .inl zI)), (q6, .inl (ca 0, 8, .inl zI)), (q7, .inl (ca 0, 8, .inl zI)), (q8, .inl (ca 0, 6, .inl zI))]) rfl (fun _ => rfl) (jr_S C lkS_X2_40 (c_J7_fill_53178 q1 6 zI 5 (p_fill (Q := fun g => ∀ j, j < 6 → g j = 5) (by decide) 5 zI (fun g hg _ => hg))) ⟨rfl, rfl, by decide, by decide, by decide, by decide⟩ [1] (by decide) rfl (fx_rw C hB [1] rfl) rfl rfl (Nat.le_of_ble_eq_true rfl) dX2_init_78) (fun g1 hg1 => ?_)
  refine j_aload_n C 0 dX2_init_81 rfl ?_
  refine j_get C fl_X2_15_2 0 dX2_init_82 rfl rfl ?_
  refine j_iconst C 4 dX2_init_85 (by decide) ?_
  refine j_cvT C hB 2 3 (fun g2 : Nat → Int32 => [(h0, .inr (2, [.ref n0, .ref q1, .ref q2, .ref q3, .ref q4, .ref q5, .ref q6, .ref q7, .ref q8, .int 0, .int 0])), (q1, .inl (ca 0, 6, .inl g1)), (q2, .inl (ca 0, 6, .inl g2)), (q3, .inl (ca 0, 6, .inl zI)), (q4, .inl (ca 0, 8, .inl zI)), (q5, .inl (ca 0, 8, .inl zI)), (q6, .inl (ca 0, 8, .inl zI)), (q7, .inl (ca 0, 8, .inl zI)), (q8, .inl (ca 0, 6, .inl zI))]) rfl (fun _ => rfl) (jr_S C lkS_X2_40 (c_J7_fill_53178 q2 6 zI 4 (p_fill (Q := fun g => ∀ j, j < 6 → g j = 4) (by decide) 4 zI (fun g hg _ => hg))) ⟨rfl, rfl, by decide, by decide, by decide, by decide⟩ [2] (by decide) rfl (fx_rw C hB [2] rfl) rfl rfl (Nat.le_of_ble_eq_true rfl) dX2_init_86) (fun g2 hg2 => ?_)
  refine j_widen (c1 := 8) (s1 := 56) (by decide) (by decide) ?_
  exact j_vret C hB hR (fun i => [h0, q1, q2, q3, q4, q5, q6, q7, q8].getD i 0, g1, g2) rfl dX2_init_89 ⟨rfl, hg1, hg2⟩ rfl
theorem oi_X8_3 : Cond.methodLink RX8 3 Lib.objectInit ∈ TB := (tb_t 147 (by decide +kernel) rfl)
theorem fw_X8_9_8 : FW RX8 9 8 1 true (.array .byte) := ⟨RX8, TX8, 6, tyX8, rfl, by decide, uw_X8, (tb_t 149 (by decide +kernel) rfl), tyX8_ok, nmX8, rfl, by decide +kernel, fun _ => rfl⟩
theorem fw_X8_15_8 : FW RX8 15 8 0 true (.array (.object "UnfinishedFair$Kind")) := ⟨RX8, TX8, 6, tyX8, rfl, by decide, uw_X8, (tb_t 148 (by decide +kernel) rfl), tyX8_ok, nmX8, rfl, by decide +kernel, fun _ => rfl⟩
set_option maxRecDepth 100000 in
set_option maxHeartbeats 8000000 in
theorem c_X8_init {l : Launch} {D : va_G} {ca : Nat → ClassId} {sd : Nat → Nat} (h0 n0 : Nat) : Cn l D ca sd yX8_init cX8_init 2 none { frames := 1, cells := 1, slots := 120, locals := 12 } [.ref h0, .ref n0] [(h0, .inr (8, [.null, .null, .int 0, .int 0, .int 0, .int 0]))] [(h0, .inr (8, [.null, .null, .int 0, .int 0, .int 0, .int 0]))] 1 120 (Rv D (fun u : Nat → Nat => u 0 = h0) (fun u => wT ca u n0 zI 0 0 0 0)) := by
  refine cn_of (by decide) (Nat.le_of_ble_eq_true rfl) (fun k C hR hB hI => ?_)
  have C : Cx D ca sd cX8_init RX8 none { frames := 1, cells := 1, slots := 120, locals := 12 } k 2 := C
  show J l D k 2 0 0 0 [(h0, .inr (8, [.null, .null, .int 0, .int 0, .int 0, .int 0]))] [(0, .ref h0), (1, .ref n0)] []
  refine j_aload_n C 0 dX8_init_0 rfl ?_
  refine j_oinit C oi_X8_3 (by decide) (by decide) dX8_init_1 ?_
  refine j_aload_n C 0 dX8_init_4 rfl ?_
  refine j_bipush C 120 dX8_init_5 (by decide) ?_
  refine j_newB C hB 120 (fun q1 => [(h0, .inr (8, [.null, .null, .int 0, .int 0, .int 0, .int 0])), (q1, .inl (ca 2, 120, .inl zI))]) (by decide) (by decide) (by decide) (by decide) (by decide) dX8_init_7 (fun _ => rfl) (fun q1 => ?_)
  refine j_putF C hB (hI rfl) fw_X8_9_8 0 [(h0, .inr (8, [.null, .ref q1, .int 0, .int 0, .int 0, .int 0])), (q1, .inl (ca 2, 120, .inl zI))] dX8_init_9 rfl rfl rfl (Nat.le_of_ble_eq_true rfl) rfl ?_
  refine j_aload_n C 0 dX8_init_12 rfl ?_
  refine j_aload_n C 1 dX8_init_13 rfl ?_
  refine j_putF C hB (hI rfl) fw_X8_15_8 0 [(h0, .inr (8, [.ref n0, .ref q1, .int 0, .int 0, .int 0, .int 0])), (q1, .inl (ca 2, 120, .inl zI))] dX8_init_14 rfl rfl rfl (Nat.le_of_ble_eq_true rfl) rfl ?_
  refine j_widen (c1 := 1) (s1 := 120) (by decide) (by decide) ?_
  exact j_vret C hB hR (fun i => [h0, q1].getD i 0) rfl dX8_init_17 rfl rfl
theorem oi_X7_3 : Cond.methodLink RX7 3 Lib.objectInit ∈ TB := (tb_t 174 (by decide +kernel) rfl)
theorem fw_X7_9_7 : FW RX7 9 7 0 true (.array .long) := ⟨RX7, TX7, 3, tyX7, rfl, by decide, uw_X7, (tb_t 175 (by decide +kernel) rfl), tyX7_ok, nmX7, rfl, by decide +kernel, fun _ => rfl⟩
set_option maxRecDepth 100000 in
set_option maxHeartbeats 8000000 in
theorem c_X7_init {l : Launch} {D : va_G} {ca : Nat → ClassId} {sd : Nat → Nat} (h0 : Nat) : Cn l D ca sd yX7_init cX7_init 1 none { frames := 1, cells := 1, slots := 40, locals := 12 } [.ref h0] [(h0, .inr (7, [.null, .int 0, .int 0]))] [(h0, .inr (7, [.null, .int 0, .int 0]))] 1 40 (Rv D (fun _ : Nat => True) (fun u => wS ca h0 u zL 0 0)) := by
  refine cn_of (by decide) (Nat.le_of_ble_eq_true rfl) (fun k C hR hB hI => ?_)
  have C : Cx D ca sd cX7_init RX7 none { frames := 1, cells := 1, slots := 40, locals := 12 } k 1 := C
  show J l D k 1 0 0 0 [(h0, .inr (7, [.null, .int 0, .int 0]))] [(0, .ref h0)] []
  refine j_aload_n C 0 dX7_init_0 rfl ?_
  refine j_oinit C oi_X7_3 (by decide) (by decide) dX7_init_1 ?_
  refine j_aload_n C 0 dX7_init_4 rfl ?_
  refine j_bipush C 40 dX7_init_5 (by decide) ?_
  refine j_newL C hB 40 (fun q1 => [(h0, .inr (7, [.null, .int 0, .int 0])), (q1, .inl (ca 1, 40, .inr (.inl zL)))]) (by decide) (by decide) (by decide) (by decide) (by decide) dX7_init_7 (fun _ => rfl) (fun q1 => ?_)
  refine j_putF C hB (hI rfl) fw_X7_9_7 0 [(h0, .inr (7, [.ref q1, .int 0, .int 0])), (q1, .inl (ca 1, 40, .inr (.inl zL)))] dX7_init_9 rfl rfl rfl (Nat.le_of_ble_eq_true rfl) rfl ?_
  refine j_widen (c1 := 1) (s1 := 40) (by decide) (by decide) ?_
  exact j_vret C hB hR q1 rfl dX7_init_12 trivial rfl
theorem oi_X10_3 : Cond.methodLink RX10 3 Lib.objectInit ∈ TB := (tb_t 730 (by decide +kernel) rfl)
theorem fw_X10_9_10 : FW RX10 9 10 0 true (.array .int) := ⟨RX10, TX10, 15, tyX10, rfl, by decide, uw_X10, (tb_t 731 (by decide +kernel) rfl), tyX10_ok, nmX10, rfl, by decide +kernel, fun _ => rfl⟩
theorem fw_X10_13_10 : FW RX10 13 10 1 true (.array .int) := ⟨RX10, TX10, 15, tyX10, rfl, by decide, uw_X10, (tb_t 732 (by decide +kernel) rfl), tyX10_ok, nmX10, rfl, by decide +kernel, fun _ => rfl⟩
theorem fw_X10_16_10 : FW RX10 16 10 2 true (.array .int) := ⟨RX10, TX10, 15, tyX10, rfl, by decide, uw_X10, (tb_t 733 (by decide +kernel) rfl), tyX10_ok, nmX10, rfl, by decide +kernel, fun _ => rfl⟩
theorem fw_X10_19_10 : FW RX10 19 10 4 true (.array .int) := ⟨RX10, TX10, 15, tyX10, rfl, by decide, uw_X10, (tb_t 735 (by decide +kernel) rfl), tyX10_ok, nmX10, rfl, by decide +kernel, fun _ => rfl⟩
theorem fw_X10_22_10 : FW RX10 22 10 5 true (.array .int) := ⟨RX10, TX10, 15, tyX10, rfl, by decide, uw_X10, (tb_t 736 (by decide +kernel) rfl), tyX10_ok, nmX10, rfl, by decide +kernel, fun _ => rfl⟩
theorem fw_X10_25_10 : FW RX10 25 10 12 true (.array .int) := ⟨RX10, TX10, 15, tyX10, rfl, by decide, uw_X10, (tb_t 743 (by decide +kernel) rfl), tyX10_ok, nmX10, rfl, by decide +kernel, fun _ => rfl⟩
theorem fw_X10_28_10 : FW RX10 28 10 13 true (.array .int) := ⟨RX10, TX10, 15, tyX10, rfl, by decide, uw_X10, (tb_t 744 (by decide +kernel) rfl), tyX10_ok, nmX10, rfl, by decide +kernel, fun _ => rfl⟩
theorem fw_X10_31_10 : FW RX10 31 10 14 true (.array .long) := ⟨RX10, TX10, 15, tyX10, rfl, by decide, uw_X10, (tb_t 745 (by decide +kernel) rfl), tyX10_ok, nmX10, rfl, by decide +kernel, fun _ => rfl⟩
/-- the model's first row, after so many stores -/
def mI_0 : Nat → Int32 := zI
def mI_1 : Nat → Int32 := upd mI_0 2 5
def mI_2 : Nat → Int32 := upd mI_1 3 4
def mI_3 : Nat → Int32 := upd mI_2 5 5
def mI_4 : Nat → Int32 := upd mI_3 6 4
def mI_5 : Nat → Int32 := upd mI_4 8 5
def mI_6 : Nat → Int32 := upd mI_5 9 4
def mI_7 : Nat → Int32 := upd mI_6 11 5
def mI_8 : Nat → Int32 := upd mI_7 12 4
def mI_9 : Nat → Int32 := upd mI_8 14 5
def mI_10 : Nat → Int32 := upd mI_9 15 4
def mI_11 : Nat → Int32 := upd mI_10 17 5
def mI_12 : Nat → Int32 := upd mI_11 18 4
set_option maxRecDepth 100000 in
set_option maxHeartbeats 8000000 in
theorem c_X10_init {l : Launch} {D : va_G} {ca : Nat → ClassId} {sd : Nat → Nat} (h0 : Nat) : Cn l D ca sd yX10_init cX10_init 2 none { frames := 1, cells := 8, slots := 451, locals := 12 } [.ref h0] [(h0, .inr (10, [.null, .null, .null, .int 0, .null, .null, .int 0, .int 0, .int 0, .int 0, .int 0, .int 0, .null, .null, .null]))] [(h0, .inr (10, [.null, .null, .null, .int 0, .null, .null, .int 0, .int 0, .int 0, .int 0, .int 0, .int 0, .null, .null, .null]))] 8 451 (Rv D (fun u : Nat → Nat => u 0 = h0) (fun u => wM ca u mI_12 zI zI zI zI zI zI zL 0 0 0 0 0 0 0)) := by
  refine cn_of (by decide) (Nat.le_of_ble_eq_true rfl) (fun k C hR hB hI => ?_)
  have C : Cx D ca sd cX10_init RX10 none { frames := 1, cells := 8, slots := 451, locals := 12 } k 2 := C
  show J l D k 2 0 0 0 [(h0, .inr (10, [.null, .null, .null, .int 0, .null, .null, .int 0, .int 0, .int 0, .int 0, .int 0, .int 0, .null, .null, .null]))] [(0, .ref h0)] []
  refine j_aload_n C 0 dX10_init_0 rfl ?_
  refine j_oinit C oi_X10_3 (by decide) (by decide) dX10_init_1 ?_
  refine j_aload_n C 0 dX10_init_4 rfl ?_
  refine j_bipush C 52 dX10_init_5 (by decide) ?_
  refine j_newI C hB 52 (fun q1 => [(h0, .inr (10, [.null, .null, .null, .int 0, .null, .null, .int 0, .int 0, .int 0, .int 0, .int 0, .int 0, .null, .null, .null])), (q1, .inl (ca 0, 52, .inl zI))]) (by decide) (by decide) (by decide) (by decide) (by decide) dX10_init_7 (fun _ => rfl) (fun q1 => ?_)
  refine j_putF C hB (hI rfl) fw_X10_9_10 0 [(h0, .inr (10, [.ref q1, .null, .null, .int 0, .null, .null, .int 0, .int 0, .int 0, .int 0, .int 0, .int 0, .null, .null, .null])), (q1, .inl (ca 0, 52, .inl zI))] dX10_init_9 rfl rfl rfl (Nat.le_of_ble_eq_true rfl) rfl ?_
  refine j_aload_n C 0 dX10_init_12 rfl ?_
  refine j_bipush C 52 dX10_init_13 (by decide) ?_
  refine j_newI C hB 52 (fun q2 => [(h0, .inr (10, [.ref q1, .null, .null, .int 0, .null, .null, .int 0, .int 0, .int 0, .int 0, .int 0, .int 0, .null, .null, .null])), (q1, .inl (ca 0, 52, .inl zI)), (q2, .inl (ca 0, 52, .inl zI))]) (by decide) (by decide) (by decide) (by decide) (by decide) dX10_init_15 (fun _ => rfl) (fun q2 => ?_)
  refine j_putF C hB (hI rfl) fw_X10_13_10 0 [(h0, .inr (10, [.ref q1, .ref q2, .null, .int 0, .null, .null, .int 0, .int 0, .int 0, .int 0, .int 0, .int 0, .null, .null, .null])), (q1, .inl (ca 0, 52, .inl zI)), (q2, .inl (ca 0, 52, .inl zI))] dX10_init_17 rfl rfl rfl (Nat.le_of_ble_eq_true rfl) rfl ?_
  refine j_aload_n C 0 dX10_init_20 rfl ?_
  refine j_bipush C 52 dX10_init_21 (by decide) ?_
  refine j_newI C hB 52 (fun q3 => [(h0, .inr (10, [.ref q1, .ref q2, .null, .int 0, .null, .null, .int 0, .int 0, .int 0, .int 0, .int 0, .int 0, .null, .null, .null])), (q1, .inl (ca 0, 52, .inl zI)), (q2, .inl (ca 0, 52, .inl zI)), (q3, .inl (ca 0, 52, .inl zI))]) (by decide) (by decide) (by decide) (by decide) (by decide) dX10_init_23 (fun _ => rfl) (fun q3 => ?_)
  refine j_putF C hB (hI rfl) fw_X10_16_10 0 [(h0, .inr (10, [.ref q1, .ref q2, .ref q3, .int 0, .null, .null, .int 0, .int 0, .int 0, .int 0, .int 0, .int 0, .null, .null, .null])), (q1, .inl (ca 0, 52, .inl zI)), (q2, .inl (ca 0, 52, .inl zI)), (q3, .inl (ca 0, 52, .inl zI))] dX10_init_25 rfl rfl rfl (Nat.le_of_ble_eq_true rfl) rfl ?_
  refine j_aload_n C 0 dX10_init_28 rfl ?_
  refine j_bipush C 7 dX10_init_29 (by decide) ?_
  refine j_newI C hB 7 (fun q4 => [(h0, .inr (10, [.ref q1, .ref q2, .ref q3, .int 0, .null, .null, .int 0, .int 0, .int 0, .int 0, .int 0, .int 0, .null, .null, .null])), (q1, .inl (ca 0, 52, .inl zI)), (q2, .inl (ca 0, 52, .inl zI)), (q3, .inl (ca 0, 52, .inl zI)), (q4, .inl (ca 0, 7, .inl zI))]) (by decide) (by decide) (by decide) (by decide) (by decide) dX10_init_31 (fun _ => rfl) (fun q4 => ?_)
  refine j_putF C hB (hI rfl) fw_X10_19_10 0 [(h0, .inr (10, [.ref q1, .ref q2, .ref q3, .int 0, .ref q4, .null, .int 0, .int 0, .int 0, .int 0, .int 0, .int 0, .null, .null, .null])), (q1, .inl (ca 0, 52, .inl zI)), (q2, .inl (ca 0, 52, .inl zI)), (q3, .inl (ca 0, 52, .inl zI)), (q4, .inl (ca 0, 7, .inl zI))] dX10_init_33 rfl rfl rfl (Nat.le_of_ble_eq_true rfl) rfl ?_
  refine j_aload_n C 0 dX10_init_36 rfl ?_
  refine j_bipush C 120 dX10_init_37 (by decide) ?_
  refine j_newI C hB 120 (fun q5 => [(h0, .inr (10, [.ref q1, .ref q2, .ref q3, .int 0, .ref q4, .null, .int 0, .int 0, .int 0, .int 0, .int 0, .int 0, .null, .null, .null])), (q1, .inl (ca 0, 52, .inl zI)), (q2, .inl (ca 0, 52, .inl zI)), (q3, .inl (ca 0, 52, .inl zI)), (q4, .inl (ca 0, 7, .inl zI)), (q5, .inl (ca 0, 120, .inl zI))]) (by decide) (by decide) (by decide) (by decide) (by decide) dX10_init_39 (fun _ => rfl) (fun q5 => ?_)
  refine j_putF C hB (hI rfl) fw_X10_22_10 0 [(h0, .inr (10, [.ref q1, .ref q2, .ref q3, .int 0, .ref q4, .ref q5, .int 0, .int 0, .int 0, .int 0, .int 0, .int 0, .null, .null, .null])), (q1, .inl (ca 0, 52, .inl zI)), (q2, .inl (ca 0, 52, .inl zI)), (q3, .inl (ca 0, 52, .inl zI)), (q4, .inl (ca 0, 7, .inl zI)), (q5, .inl (ca 0, 120, .inl zI))] dX10_init_41 rfl rfl rfl (Nat.le_of_ble_eq_true rfl) rfl ?_
  refine j_aload_n C 0 dX10_init_44 rfl ?_
  refine j_iconst C 4 dX10_init_45 (by decide) ?_
  refine j_newI C hB 4 (fun q6 => [(h0, .inr (10, [.ref q1, .ref q2, .ref q3, .int 0, .ref q4, .ref q5, .int 0, .int 0, .int 0, .int 0, .int 0, .int 0, .null, .null, .null])), (q1, .inl (ca 0, 52, .inl zI)), (q2, .inl (ca 0, 52, .inl zI)), (q3, .inl (ca 0, 52, .inl zI)), (q4, .inl (ca 0, 7, .inl zI)), (q5, .inl (ca 0, 120, .inl zI)), (q6, .inl (ca 0, 4, .inl zI))]) (by decide) (by decide) (by decide) (by decide) (by decide) dX10_init_46 (fun _ => rfl) (fun q6 => ?_)
  refine j_putF C hB (hI rfl) fw_X10_25_10 0 [(h0, .inr (10, [.ref q1, .ref q2, .ref q3, .int 0, .ref q4, .ref q5, .int 0, .int 0, .int 0, .int 0, .int 0, .int 0, .ref q6, .null, .null])), (q1, .inl (ca 0, 52, .inl zI)), (q2, .inl (ca 0, 52, .inl zI)), (q3, .inl (ca 0, 52, .inl zI)), (q4, .inl (ca 0, 7, .inl zI)), (q5, .inl (ca 0, 120, .inl zI)), (q6, .inl (ca 0, 4, .inl zI))] dX10_init_48 rfl rfl rfl (Nat.le_of_ble_eq_true rfl) rfl ?_
  refine j_aload_n C 0 dX10_init_51 rfl ?_
  refine j_iconst C 4 dX10_init_52 (by decide) ?_
  refine j_newI C hB 4 (fun q7 => [(h0, .inr (10, [.ref q1, .ref q2, .ref q3, .int 0, .ref q4, .ref q5, .int 0, .int 0, .int 0, .int 0, .int 0, .int 0, .ref q6, .null, .null])), (q1, .inl (ca 0, 52, .inl zI)), (q2, .inl (ca 0, 52, .inl zI)), (q3, .inl (ca 0, 52, .inl zI)), (q4, .inl (ca 0, 7, .inl zI)), (q5, .inl (ca 0, 120, .inl zI)), (q6, .inl (ca 0, 4, .inl zI)), (q7, .inl (ca 0, 4, .inl zI))]) (by decide) (by decide) (by decide) (by decide) (by decide) dX10_init_53 (fun _ => rfl) (fun q7 => ?_)
  refine j_putF C hB (hI rfl) fw_X10_28_10 0 [(h0, .inr (10, [.ref q1, .ref q2, .ref q3, .int 0, .ref q4, .ref q5, .int 0, .int 0, .int 0, .int 0, .int 0, .int 0, .ref q6, .ref q7, .null])), (q1, .inl (ca 0, 52, .inl zI)), (q2, .inl (ca 0, 52, .inl zI)), (q3, .inl (ca 0, 52, .inl zI)), (q4, .inl (ca 0, 7, .inl zI)), (q5, .inl (ca 0, 120, .inl zI)), (q6, .inl (ca 0, 4, .inl zI)), (q7, .inl (ca 0, 4, .inl zI))] dX10_init_55 rfl rfl rfl (Nat.le_of_ble_eq_true rfl) rfl ?_
  refine j_aload_n C 0 dX10_init_58 rfl ?_
  refine j_sipush C 160 dX10_init_59 (by decide) ?_
  refine j_newL C hB 160 (fun q8 => [(h0, .inr (10, [.ref q1, .ref q2, .ref q3, .int 0, .ref q4, .ref q5, .int 0, .int 0, .int 0, .int 0, .int 0, .int 0, .ref q6, .ref q7, .null])), (q1, .inl (ca 0, 52, .inl zI)), (q2, .inl (ca 0, 52, .inl zI)), (q3, .inl (ca 0, 52, .inl zI)), (q4, .inl (ca 0, 7, .inl zI)), (q5, .inl (ca 0, 120, .inl zI)), (q6, .inl (ca 0, 4, .inl zI)), (q7, .inl (ca 0, 4, .inl zI)), (q8, .inl (ca 1, 160, .inr (.inl zL)))]) (by decide) (by decide) (by decide) (by decide) (by decide) dX10_init_62 (fun _ => rfl) (fun q8 => ?_)
  refine j_putF C hB (hI rfl) fw_X10_31_10 0 [(h0, .inr (10, [.ref q1, .ref q2, .ref q3, .int 0, .ref q4, .ref q5, .int 0, .int 0, .int 0, .int 0, .int 0, .int 0, .ref q6, .ref q7, .ref q8])), (q1, .inl (ca 0, 52, .inl zI)), (q2, .inl (ca 0, 52, .inl zI)), (q3, .inl (ca 0, 52, .inl zI)), (q4, .inl (ca 0, 7, .inl zI)), (q5, .inl (ca 0, 120, .inl zI)), (q6, .inl (ca 0, 4, .inl zI)), (q7, .inl (ca 0, 4, .inl zI)), (q8, .inl (ca 1, 160, .inr (.inl zL)))] dX10_init_64 rfl rfl rfl (Nat.le_of_ble_eq_true rfl) rfl ?_
  refine j_iconst C 0 dX10_init_67 (by decide) ?_
  refine j_istore_n C [(1, .int 0), (0, .ref h0)] dX10_init_68 (by decide) rfl ?_
  refine j_eq (ws' := [(h0, .inr (10, [.ref q1, .ref q2, .ref q3, .int 0, .ref q4, .ref q5, .int 0, .int 0, .int 0, .int 0, .int 0, .int 0, .ref q6, .ref q7, .ref q8])), (q1, .inl (ca 0, 52, .inl mI_0)), (q2, .inl (ca 0, 52, .inl zI)), (q3, .inl (ca 0, 52, .inl zI)), (q4, .inl (ca 0, 7, .inl zI)), (q5, .inl (ca 0, 120, .inl zI)), (q6, .inl (ca 0, 4, .inl zI)), (q7, .inl (ca 0, 4, .inl zI)), (q8, .inl (ca 1, 160, .inr (.inl zL)))]) rfl rfl rfl ?_
  refine j_iload_n C 0 dX10_init_69 rfl ?_
  refine j_bipush C 6 dX10_init_70 (by decide) ?_
  refine j_icmp_ge C 105 dX10_init_72 (by decide) (fun z => absurd z (by decide)) (fun _ => ?_)
  refine j_aload_n C 1 dX10_init_75 rfl ?_
  refine j_get C fl_X10_9_10 0 dX10_init_76 rfl rfl ?_
  refine j_iconst C 2 dX10_init_79 (by decide) ?_
  refine j_iconst C 3 dX10_init_80 (by decide) ?_
  refine j_iload_n C 0 dX10_init_81 rfl ?_
  refine j_imul C dX10_init_82 ?_
  refine j_iadd C dX10_init_83 ?_
  refine j_top 2 (by decide) ?_
  refine j_iconst C 5 dX10_init_84 (by decide) ?_
  refine j_iast C hB 1 [(h0, .inr (10, [.ref q1, .ref q2, .ref q3, .int 0, .ref q4, .ref q5, .int 0, .int 0, .int 0, .int 0, .int 0, .int 0, .ref q6, .ref q7, .ref q8])), (q1, .inl (ca 0, 52, .inl mI_1)), (q2, .inl (ca 0, 52, .inl zI)), (q3, .inl (ca 0, 52, .inl zI)), (q4, .inl (ca 0, 7, .inl zI)), (q5, .inl (ca 0, 120, .inl zI)), (q6, .inl (ca 0, 4, .inl zI)), (q7, .inl (ca 0, 4, .inl zI)), (q8, .inl (ca 1, 160, .inr (.inl zL)))] dX10_init_85 rfl (by unfold vp_in; decide) rfl ?_
  refine j_aload_n C 1 dX10_init_86 rfl ?_
  refine j_get C fl_X10_9_10 0 dX10_init_87 rfl rfl ?_
  refine j_iconst C 2 dX10_init_90 (by decide) ?_
  refine j_iconst C 3 dX10_init_91 (by decide) ?_
  refine j_iload_n C 0 dX10_init_92 rfl ?_
  refine j_imul C dX10_init_93 ?_
  refine j_iadd C dX10_init_94 ?_
  refine j_iconst C 1 dX10_init_95 (by decide) ?_
  refine j_iadd C dX10_init_96 ?_
  refine j_top 3 (by decide) ?_
  refine j_iconst C 4 dX10_init_97 (by decide) ?_
  refine j_iast C hB 1 [(h0, .inr (10, [.ref q1, .ref q2, .ref q3, .int 0, .ref q4, .ref q5, .int 0, .int 0, .int 0, .int 0, .int 0, .int 0, .ref q6, .ref q7, .ref q8])), (q1, .inl (ca 0, 52, .inl mI_2)), (q2, .inl (ca 0, 52, .inl zI)), (q3, .inl (ca 0, 52, .inl zI)), (q4, .inl (ca 0, 7, .inl zI)), (q5, .inl (ca 0, 120, .inl zI)), (q6, .inl (ca 0, 4, .inl zI)), (q7, .inl (ca 0, 4, .inl zI)), (q8, .inl (ca 1, 160, .inr (.inl zL)))] dX10_init_98 rfl (by unfold vp_in; decide) rfl ?_
  refine j_iinc C 0 1 [(1, .int 1), (0, .ref h0)] dX10_init_99 rfl (by decide) (by decide) rfl ?_
  refine j_goto C 69 dX10_init_102 (by decide) ?_
  refine j_iload_n C 0 dX10_init_69 rfl ?_
  refine j_bipush C 6 dX10_init_70 (by decide) ?_
  refine j_icmp_ge C 105 dX10_init_72 (by decide) (fun z => absurd z (by decide)) (fun _ => ?_)
  refine j_aload_n C 1 dX10_init_75 rfl ?_
  refine j_get C fl_X10_9_10 0 dX10_init_76 rfl rfl ?_
  refine j_iconst C 2 dX10_init_79 (by decide) ?_
  refine j_iconst C 3 dX10_init_80 (by decide) ?_
  refine j_iload_n C 0 dX10_init_81 rfl ?_
  refine j_imul C dX10_init_82 ?_
  refine j_iadd C dX10_init_83 ?_
  refine j_top 5 (by decide) ?_
  refine j_iconst C 5 dX10_init_84 (by decide) ?_
  refine j_iast C hB 1 [(h0, .inr (10, [.ref q1, .ref q2, .ref q3, .int 0, .ref q4, .ref q5, .int 0, .int 0, .int 0, .int 0, .int 0, .int 0, .ref q6, .ref q7, .ref q8])), (q1, .inl (ca 0, 52, .inl mI_3)), (q2, .inl (ca 0, 52, .inl zI)), (q3, .inl (ca 0, 52, .inl zI)), (q4, .inl (ca 0, 7, .inl zI)), (q5, .inl (ca 0, 120, .inl zI)), (q6, .inl (ca 0, 4, .inl zI)), (q7, .inl (ca 0, 4, .inl zI)), (q8, .inl (ca 1, 160, .inr (.inl zL)))] dX10_init_85 rfl (by unfold vp_in; decide) rfl ?_
  refine j_aload_n C 1 dX10_init_86 rfl ?_
  refine j_get C fl_X10_9_10 0 dX10_init_87 rfl rfl ?_
  refine j_iconst C 2 dX10_init_90 (by decide) ?_
  refine j_iconst C 3 dX10_init_91 (by decide) ?_
  refine j_iload_n C 0 dX10_init_92 rfl ?_
  refine j_imul C dX10_init_93 ?_
  refine j_iadd C dX10_init_94 ?_
  refine j_iconst C 1 dX10_init_95 (by decide) ?_
  refine j_iadd C dX10_init_96 ?_
  refine j_top 6 (by decide) ?_
  refine j_iconst C 4 dX10_init_97 (by decide) ?_
  refine j_iast C hB 1 [(h0, .inr (10, [.ref q1, .ref q2, .ref q3, .int 0, .ref q4, .ref q5, .int 0, .int 0, .int 0, .int 0, .int 0, .int 0, .ref q6, .ref q7, .ref q8])), (q1, .inl (ca 0, 52, .inl mI_4)), (q2, .inl (ca 0, 52, .inl zI)), (q3, .inl (ca 0, 52, .inl zI)), (q4, .inl (ca 0, 7, .inl zI)), (q5, .inl (ca 0, 120, .inl zI)), (q6, .inl (ca 0, 4, .inl zI)), (q7, .inl (ca 0, 4, .inl zI)), (q8, .inl (ca 1, 160, .inr (.inl zL)))] dX10_init_98 rfl (by unfold vp_in; decide) rfl ?_
  refine j_iinc C 0 2 [(1, .int 2), (0, .ref h0)] dX10_init_99 rfl (by decide) (by decide) rfl ?_
  refine j_goto C 69 dX10_init_102 (by decide) ?_
  refine j_iload_n C 0 dX10_init_69 rfl ?_
  refine j_bipush C 6 dX10_init_70 (by decide) ?_
  refine j_icmp_ge C 105 dX10_init_72 (by decide) (fun z => absurd z (by decide)) (fun _ => ?_)
  refine j_aload_n C 1 dX10_init_75 rfl ?_
  refine j_get C fl_X10_9_10 0 dX10_init_76 rfl rfl ?_
  refine j_iconst C 2 dX10_init_79 (by decide) ?_
  refine j_iconst C 3 dX10_init_80 (by decide) ?_
  refine j_iload_n C 0 dX10_init_81 rfl ?_
  refine j_imul C dX10_init_82 ?_
  refine j_iadd C dX10_init_83 ?_
  refine j_top 8 (by decide) ?_
  refine j_iconst C 5 dX10_init_84 (by decide) ?_
  refine j_iast C hB 1 [(h0, .inr (10, [.ref q1, .ref q2, .ref q3, .int 0, .ref q4, .ref q5, .int 0, .int 0, .int 0, .int 0, .int 0, .int 0, .ref q6, .ref q7, .ref q8])), (q1, .inl (ca 0, 52, .inl mI_5)), (q2, .inl (ca 0, 52, .inl zI)), (q3, .inl (ca 0, 52, .inl zI)), (q4, .inl (ca 0, 7, .inl zI)), (q5, .inl (ca 0, 120, .inl zI)), (q6, .inl (ca 0, 4, .inl zI)), (q7, .inl (ca 0, 4, .inl zI)), (q8, .inl (ca 1, 160, .inr (.inl zL)))] dX10_init_85 rfl (by unfold vp_in; decide) rfl ?_
  refine j_aload_n C 1 dX10_init_86 rfl ?_
  refine j_get C fl_X10_9_10 0 dX10_init_87 rfl rfl ?_
  refine j_iconst C 2 dX10_init_90 (by decide) ?_
  refine j_iconst C 3 dX10_init_91 (by decide) ?_
  refine j_iload_n C 0 dX10_init_92 rfl ?_
  refine j_imul C dX10_init_93 ?_
  refine j_iadd C dX10_init_94 ?_
  refine j_iconst C 1 dX10_init_95 (by decide) ?_
  refine j_iadd C dX10_init_96 ?_
  refine j_top 9 (by decide) ?_
  refine j_iconst C 4 dX10_init_97 (by decide) ?_
  refine j_iast C hB 1 [(h0, .inr (10, [.ref q1, .ref q2, .ref q3, .int 0, .ref q4, .ref q5, .int 0, .int 0, .int 0, .int 0, .int 0, .int 0, .ref q6, .ref q7, .ref q8])), (q1, .inl (ca 0, 52, .inl mI_6)), (q2, .inl (ca 0, 52, .inl zI)), (q3, .inl (ca 0, 52, .inl zI)), (q4, .inl (ca 0, 7, .inl zI)), (q5, .inl (ca 0, 120, .inl zI)), (q6, .inl (ca 0, 4, .inl zI)), (q7, .inl (ca 0, 4, .inl zI)), (q8, .inl (ca 1, 160, .inr (.inl zL)))] dX10_init_98 rfl (by unfold vp_in; decide) rfl ?_
  refine j_iinc C 0 3 [(1, .int 3), (0, .ref h0)] dX10_init_99 rfl (by decide) (by decide) rfl ?_
  refine j_goto C 69 dX10_init_102 (by decide) ?_
  refine j_iload_n C 0 dX10_init_69 rfl ?_
  refine j_bipush C 6 dX10_init_70 (by decide) ?_
  refine j_icmp_ge C 105 dX10_init_72 (by decide) (fun z => absurd z (by decide)) (fun _ => ?_)
  refine j_aload_n C 1 dX10_init_75 rfl ?_
  refine j_get C fl_X10_9_10 0 dX10_init_76 rfl rfl ?_
  refine j_iconst C 2 dX10_init_79 (by decide) ?_
  refine j_iconst C 3 dX10_init_80 (by decide) ?_
  refine j_iload_n C 0 dX10_init_81 rfl ?_
  refine j_imul C dX10_init_82 ?_
  refine j_iadd C dX10_init_83 ?_
  refine j_top 11 (by decide) ?_
  refine j_iconst C 5 dX10_init_84 (by decide) ?_
  refine j_iast C hB 1 [(h0, .inr (10, [.ref q1, .ref q2, .ref q3, .int 0, .ref q4, .ref q5, .int 0, .int 0, .int 0, .int 0, .int 0, .int 0, .ref q6, .ref q7, .ref q8])), (q1, .inl (ca 0, 52, .inl mI_7)), (q2, .inl (ca 0, 52, .inl zI)), (q3, .inl (ca 0, 52, .inl zI)), (q4, .inl (ca 0, 7, .inl zI)), (q5, .inl (ca 0, 120, .inl zI)), (q6, .inl (ca 0, 4, .inl zI)), (q7, .inl (ca 0, 4, .inl zI)), (q8, .inl (ca 1, 160, .inr (.inl zL)))] dX10_init_85 rfl (by unfold vp_in; decide) rfl ?_
  refine j_aload_n C 1 dX10_init_86 rfl ?_
  refine j_get C fl_X10_9_10 0 dX10_init_87 rfl rfl ?_
  refine j_iconst C 2 dX10_init_90 (by decide) ?_
  refine j_iconst C 3 dX10_init_91 (by decide) ?_
  refine j_iload_n C 0 dX10_init_92 rfl ?_
  refine j_imul C dX10_init_93 ?_
  refine j_iadd C dX10_init_94 ?_
  refine j_iconst C 1 dX10_init_95 (by decide) ?_
  refine j_iadd C dX10_init_96 ?_
  refine j_top 12 (by decide) ?_
  refine j_iconst C 4 dX10_init_97 (by decide) ?_
  refine j_iast C hB 1 [(h0, .inr (10, [.ref q1, .ref q2, .ref q3, .int 0, .ref q4, .ref q5, .int 0, .int 0, .int 0, .int 0, .int 0, .int 0, .ref q6, .ref q7, .ref q8])), (q1, .inl (ca 0, 52, .inl mI_8)), (q2, .inl (ca 0, 52, .inl zI)), (q3, .inl (ca 0, 52, .inl zI)), (q4, .inl (ca 0, 7, .inl zI)), (q5, .inl (ca 0, 120, .inl zI)), (q6, .inl (ca 0, 4, .inl zI)), (q7, .inl (ca 0, 4, .inl zI)), (q8, .inl (ca 1, 160, .inr (.inl zL)))] dX10_init_98 rfl (by unfold vp_in; decide) rfl ?_
  refine j_iinc C 0 4 [(1, .int 4), (0, .ref h0)] dX10_init_99 rfl (by decide) (by decide) rfl ?_
  refine j_goto C 69 dX10_init_102 (by decide) ?_
  refine j_iload_n C 0 dX10_init_69 rfl ?_
  refine j_bipush C 6 dX10_init_70 (by decide) ?_
  refine j_icmp_ge C 105 dX10_init_72 (by decide) (fun z => absurd z (by decide)) (fun _ => ?_)
  refine j_aload_n C 1 dX10_init_75 rfl ?_
  refine j_get C fl_X10_9_10 0 dX10_init_76 rfl rfl ?_
  refine j_iconst C 2 dX10_init_79 (by decide) ?_
  refine j_iconst C 3 dX10_init_80 (by decide) ?_
  refine j_iload_n C 0 dX10_init_81 rfl ?_
  refine j_imul C dX10_init_82 ?_
  refine j_iadd C dX10_init_83 ?_
  refine j_top 14 (by decide) ?_
  refine j_iconst C 5 dX10_init_84 (by decide) ?_
  refine j_iast C hB 1 [(h0, .inr (10, [.ref q1, .ref q2, .ref q3, .int 0, .ref q4, .ref q5, .int 0, .int 0, .int 0, .int 0, .int 0, .int 0, .ref q6, .ref q7, .ref q8])), (q1, .inl (ca 0, 52, .inl mI_9)), (q2, .inl (ca 0, 52, .inl zI)), (q3, .inl (ca 0, 52, .inl zI)), (q4, .inl (ca 0, 7, .inl zI)), (q5, .inl (ca 0, 120, .inl zI)), (q6, .inl (ca 0, 4, .inl zI)), (q7, .inl (ca 0, 4, .inl zI)), (q8, .inl (ca 1, 160, .inr (.inl zL)))] dX10_init_85 rfl (by unfold vp_in; decide) rfl ?_
  refine j_aload_n C 1 dX10_init_86 rfl ?_
  refine j_get C fl_X10_9_10 0 dX10_init_87 rfl rfl ?_
  refine j_iconst C 2 dX10_init_90 (by decide) ?_
  refine j_iconst C 3 dX10_init_91 (by decide) ?_
  refine j_iload_n C 0 dX10_init_92 rfl ?_
  refine j_imul C dX10_init_93 ?_
  refine j_iadd C dX10_init_94 ?_
  refine j_iconst C 1 dX10_init_95 (by decide) ?_
  refine j_iadd C dX10_init_96 ?_
  refine j_top 15 (by decide) ?_
  refine j_iconst C 4 dX10_init_97 (by decide) ?_
  refine j_iast C hB 1 [(h0, .inr (10, [.ref q1, .ref q2, .ref q3, .int 0, .ref q4, .ref q5, .int 0, .int 0, .int 0, .int 0, .int 0, .int 0, .ref q6, .ref q7, .ref q8])), (q1, .inl (ca 0, 52, .inl mI_10)), (q2, .inl (ca 0, 52, .inl zI)), (q3, .inl (ca 0, 52, .inl zI)), (q4, .inl (ca 0, 7, .inl zI)), (q5, .inl (ca 0, 120, .inl zI)), (q6, .inl (ca 0, 4, .inl zI)), (q7, .inl (ca 0, 4, .inl zI)), (q8, .inl (ca 1, 160, .inr (.inl zL)))] dX10_init_98 rfl (by unfold vp_in; decide) rfl ?_
  refine j_iinc C 0 5 [(1, .int 5), (0, .ref h0)] dX10_init_99 rfl (by decide) (by decide) rfl ?_
  refine j_goto C 69 dX10_init_102 (by decide) ?_
  refine j_iload_n C 0 dX10_init_69 rfl ?_
  refine j_bipush C 6 dX10_init_70 (by decide) ?_
  refine j_icmp_ge C 105 dX10_init_72 (by decide) (fun z => absurd z (by decide)) (fun _ => ?_)
  refine j_aload_n C 1 dX10_init_75 rfl ?_
  refine j_get C fl_X10_9_10 0 dX10_init_76 rfl rfl ?_
  refine j_iconst C 2 dX10_init_79 (by decide) ?_
  refine j_iconst C 3 dX10_init_80 (by decide) ?_
  refine j_iload_n C 0 dX10_init_81 rfl ?_
  refine j_imul C dX10_init_82 ?_
  refine j_iadd C dX10_init_83 ?_
  refine j_top 17 (by decide) ?_
  refine j_iconst C 5 dX10_init_84 (by decide) ?_
  refine j_iast C hB 1 [(h0, .inr (10, [.ref q1, .ref q2, .ref q3, .int 0, .ref q4, .ref q5, .int 0, .int 0, .int 0, .int 0, .int 0, .int 0, .ref q6, .ref q7, .ref q8])), (q1, .inl (ca 0, 52, .inl mI_11)), (q2, .inl (ca 0, 52, .inl zI)), (q3, .inl (ca 0, 52, .inl zI)), (q4, .inl (ca 0, 7, .inl zI)), (q5, .inl (ca 0, 120, .inl zI)), (q6, .inl (ca 0, 4, .inl zI)), (q7, .inl (ca 0, 4, .inl zI)), (q8, .inl (ca 1, 160, .inr (.inl zL)))] dX10_init_85 rfl (by unfold vp_in; decide) rfl ?_
  refine j_aload_n C 1 dX10_init_86 rfl ?_
  refine j_get C fl_X10_9_10 0 dX10_init_87 rfl rfl ?_
  refine j_iconst C 2 dX10_init_90 (by decide) ?_
  refine j_iconst C 3 dX10_init_91 (by decide) ?_
  refine j_iload_n C 0 dX10_init_92 rfl ?_
  refine j_imul C dX10_init_93 ?_
  refine j_iadd C dX10_init_94 ?_
  refine j_iconst C 1 dX10_init_95 (by decide) ?_
  refine j_iadd C dX10_init_96 ?_
  refine j_top 18 (by decide) ?_
  refine j_iconst C 4 dX10_init_97 (by decide) ?_
  refine j_iast C hB 1 [(h0, .inr (10, [.ref q1, .ref q2, .ref q3, .int 0, .ref q4, .ref q5, .int 0, .int 0, .int 0, .int 0, .int 0, .int 0, .ref q6, .ref q7, .ref q8])), (q1, .inl (ca 0, 52, .inl mI_12)), (q2, .inl (ca 0, 52, .inl zI)), (q3, .inl (ca 0, 52, .inl zI)), (q4, .inl (ca 0, 7, .inl zI)), (q5, .inl (ca 0, 120, .inl zI)), (q6, .inl (ca 0, 4, .inl zI)), (q7, .inl (ca 0, 4, .inl zI)), (q8, .inl (ca 1, 160, .inr (.inl zL)))] dX10_init_98 rfl (by unfold vp_in; decide) rfl ?_
  refine j_iinc C 0 6 [(1, .int 6), (0, .ref h0)] dX10_init_99 rfl (by decide) (by decide) rfl ?_
  refine j_goto C 69 dX10_init_102 (by decide) ?_
  refine j_iload_n C 0 dX10_init_69 rfl ?_
  refine j_bipush C 6 dX10_init_70 (by decide) ?_
  refine j_icmp_ge C 105 dX10_init_72 (by decide) (fun _ => ?_) (fun z => absurd (by decide) z)
  refine j_widen (c1 := 8) (s1 := 451) (by decide) (by decide) ?_
  exact j_vret C hB hR (fun i => [h0, q1, q2, q3, q4, q5, q6, q7, q8].getD i 0) rfl dX10_init_105 rfl rfl
theorem oi_X9_1 : Cond.methodLink RX9 1 Lib.objectInit ∈ TB := (tb_t 25 (by decide +kernel) rfl)
theorem cl_X9_7 : Cond.classLink RX9 7 "UnfinishedFair$Kind" ∈ TB := (tb_t 28 (by decide +kernel) rfl)
theorem cl_X9_67 : Cond.classLink RX9 67 "UnfinishedFair$Sheet" ∈ TB := (tb_t 168 (by decide +kernel) rfl)
theorem nw_X9_7 : NW RX9 7 4 1 [.null] := by
  refine ⟨RX4, TX4, tyX4, rfl, uw_X4, tyX4_ok, (tb_t 28 (by decide +kernel) rfl), (tb_t 30 (by decide +kernel) rfl), (tb_t 2 (by decide +kernel) rfl), fun j hj => ?_⟩
  match j, hj with
  | 0, _ => rfl
  | j + 1, hj => exact absurd hj (by omega)
theorem lkI_X9_11 : LkI RX9 11 yX4_init cX4_init 2 1 := ⟨(tb_t 32 (by decide +kernel) rfl), (tb_t 33 (by decide +kernel) rfl), (tb_t 2 (by decide +kernel) rfl), (tb_t 34 (by decide +kernel) rfl), rfl, by decide, by decide, by decide +kernel⟩
theorem nw_X9_14 : NW RX9 14 0 1 [.null] := by
  refine ⟨RX0, TX0, tyX0, rfl, uw_X0, tyX0_ok, (tb_t 42 (by decide +kernel) rfl), (tb_t 43 (by decide +kernel) rfl), (tb_t 3 (by decide +kernel) rfl), fun j hj => ?_⟩
  match j, hj with
  | 0, _ => rfl
  | j + 1, hj => exact absurd hj (by omega)
theorem lkI_X9_18 : LkI RX9 18 yX0_init cX0_init 2 1 := ⟨(tb_t 45 (by decide +kernel) rfl), (tb_t 46 (by decide +kernel) rfl), (tb_t 3 (by decide +kernel) rfl), (tb_t 47 (by decide +kernel) rfl), rfl, by decide, by decide, by decide +kernel⟩
theorem ch_X0 : Ch RX0 "UnfinishedFair$Kind" := Or.inl ⟨"java/lang/Object", (tb_t 50 (by decide +kernel) rfl), (tb_t 40 (by decide +kernel) rfl)⟩
theorem nw_X9_19 : NW RX9 19 3 1 [.null] := by
  refine ⟨RX3, TX3, tyX3, rfl, uw_X3, tyX3_ok, (tb_t 51 (by decide +kernel) rfl), (tb_t 52 (by decide +kernel) rfl), (tb_t 4 (by decide +kernel) rfl), fun j hj => ?_⟩
  match j, hj with
  | 0, _ => rfl
  | j + 1, hj => exact absurd hj (by omega)
theorem lkI_X9_23 : LkI RX9 23 yX3_init cX3_init 2 1 := ⟨(tb_t 54 (by decide +kernel) rfl), (tb_t 55 (by decide +kernel) rfl), (tb_t 4 (by decide +kernel) rfl), (tb_t 56 (by decide +kernel) rfl), rfl, by decide, by decide, by decide +kernel⟩
theorem ch_X3 : Ch RX3 "UnfinishedFair$Kind" := Or.inl ⟨"java/lang/Object", (tb_t 59 (by decide +kernel) rfl), (tb_t 40 (by decide +kernel) rfl)⟩
theorem nw_X9_24 : NW RX9 24 6 1 [.null] := by
  refine ⟨RX6, TX6, tyX6, rfl, uw_X6, tyX6_ok, (tb_t 60 (by decide +kernel) rfl), (tb_t 61 (by decide +kernel) rfl), (tb_t 5 (by decide +kernel) rfl), fun j hj => ?_⟩
  match j, hj with
  | 0, _ => rfl
  | j + 1, hj => exact absurd hj (by omega)
theorem lkI_X9_28 : LkI RX9 28 yX6_init cX6_init 2 1 := ⟨(tb_t 63 (by decide +kernel) rfl), (tb_t 64 (by decide +kernel) rfl), (tb_t 5 (by decide +kernel) rfl), (tb_t 65 (by decide +kernel) rfl), rfl, by decide, by decide, by decide +kernel⟩
theorem ch_X6 : Ch RX6 "UnfinishedFair$Kind" := Or.inl ⟨"java/lang/Object", (tb_t 68 (by decide +kernel) rfl), (tb_t 40 (by decide +kernel) rfl)⟩
theorem nw_X9_29 : NW RX9 29 1 1 [.null] := by
  refine ⟨RX1, TX1, tyX1, rfl, uw_X1, tyX1_ok, (tb_t 69 (by decide +kernel) rfl), (tb_t 70 (by decide +kernel) rfl), (tb_t 6 (by decide +kernel) rfl), fun j hj => ?_⟩
  match j, hj with
  | 0, _ => rfl
  | j + 1, hj => exact absurd hj (by omega)
theorem lkI_X9_33 : LkI RX9 33 yX1_init cX1_init 2 1 := ⟨(tb_t 72 (by decide +kernel) rfl), (tb_t 73 (by decide +kernel) rfl), (tb_t 6 (by decide +kernel) rfl), (tb_t 74 (by decide +kernel) rfl), rfl, by decide, by decide, by decide +kernel⟩
theorem ch_X1 : Ch RX1 "UnfinishedFair$Kind" := Or.inr ⟨RX0, "java/lang/Object", (tb_t 77 (by decide +kernel) rfl), (tb_t 50 (by decide +kernel) rfl), (tb_t 40 (by decide +kernel) rfl)⟩
theorem nw_X9_34 : NW RX9 34 5 1 [.null] := by
  refine ⟨RX5, TX5, tyX5, rfl, uw_X5, tyX5_ok, (tb_t 78 (by decide +kernel) rfl), (tb_t 79 (by decide +kernel) rfl), (tb_t 7 (by decide +kernel) rfl), fun j hj => ?_⟩
  match j, hj with
  | 0, _ => rfl
  | j + 1, hj => exact absurd hj (by omega)
theorem lkI_X9_38 : LkI RX9 38 yX5_init cX5_init 2 1 := ⟨(tb_t 81 (by decide +kernel) rfl), (tb_t 82 (by decide +kernel) rfl), (tb_t 7 (by decide +kernel) rfl), (tb_t 83 (by decide +kernel) rfl), rfl, by decide, by decide, by decide +kernel⟩
theorem ch_X5 : Ch RX5 "UnfinishedFair$Kind" := Or.inr ⟨RX3, "java/lang/Object", (tb_t 86 (by decide +kernel) rfl), (tb_t 59 (by decide +kernel) rfl), (tb_t 40 (by decide +kernel) rfl)⟩
theorem nw_X9_39 : NW RX9 39 2 11 [.null, .null, .null, .null, .null, .null, .null, .null, .null, .int 0, .int 0] := by
  refine ⟨RX2, TX2, tyX2, rfl, uw_X2, tyX2_ok, (tb_t 87 (by decide +kernel) rfl), (tb_t 88 (by decide +kernel) rfl), (tb_t 8 (by decide +kernel) rfl), fun j hj => ?_⟩
  match j, hj with
  | 0, _ => rfl
  | 1, _ => rfl
  | 2, _ => rfl
  | 3, _ => rfl
  | 4, _ => rfl
  | 5, _ => rfl
  | 6, _ => rfl
  | 7, _ => rfl
  | 8, _ => rfl
  | 9, _ => rfl
  | 10, _ => rfl
  | j + 11, hj => exact absurd hj (by omega)
theorem lkI_X9_41 : LkI RX9 41 yX2_init cX2_init 2 1 := ⟨(tb_t 89 (by decide +kernel) rfl), (tb_t 90 (by decide +kernel) rfl), (tb_t 8 (by decide +kernel) rfl), (tb_t 91 (by decide +kernel) rfl), rfl, by decide, by decide, by decide +kernel⟩
theorem fw_X9_44_9 : FW RX9 44 9 0 true (.object "UnfinishedFair$Common") := ⟨RX9, TX9, 7, tyX9, rfl, by decide, uw_X9, (tb_t 189 (by decide +kernel) rfl), tyX9_ok, nmX9, rfl, by decide +kernel, fun _ => rfl⟩
theorem fw_X9_50_9 : FW RX9 50 9 1 true (.object "UnfinishedFair$Common") := ⟨RX9, TX9, 7, tyX9, rfl, by decide, uw_X9, (tb_t 190 (by decide +kernel) rfl), tyX9_ok, nmX9, rfl, by decide +kernel, fun _ => rfl⟩
theorem fw_X9_53_9 : FW RX9 53 9 2 true (.object "UnfinishedFair$Common") := ⟨RX9, TX9, 7, tyX9, rfl, by decide, uw_X9, (tb_t 191 (by decide +kernel) rfl), tyX9_ok, nmX9, rfl, by decide +kernel, fun _ => rfl⟩
theorem nw_X9_60 : NW RX9 60 8 6 [.null, .null, .int 0, .int 0, .int 0, .int 0] := by
  refine ⟨RX8, TX8, tyX8, rfl, uw_X8, tyX8_ok, (tb_t 142 (by decide +kernel) rfl), (tb_t 143 (by decide +kernel) rfl), (tb_t 10 (by decide +kernel) rfl), fun j hj => ?_⟩
  match j, hj with
  | 0, _ => rfl
  | 1, _ => rfl
  | 2, _ => rfl
  | 3, _ => rfl
  | 4, _ => rfl
  | 5, _ => rfl
  | j + 6, hj => exact absurd hj (by omega)
theorem lkI_X9_62 : LkI RX9 62 yX8_init cX8_init 2 1 := ⟨(tb_t 144 (by decide +kernel) rfl), (tb_t 145 (by decide +kernel) rfl), (tb_t 10 (by decide +kernel) rfl), (tb_t 146 (by decide +kernel) rfl), rfl, by decide, by decide, by decide +kernel⟩
theorem fw_X9_63_9 : FW RX9 63 9 4 true (.object "UnfinishedFair$Tape") := ⟨RX9, TX9, 7, tyX9, rfl, by decide, uw_X9, (tb_t 193 (by decide +kernel) rfl), tyX9_ok, nmX9, rfl, by decide +kernel, fun _ => rfl⟩
theorem fw_X9_69_9 : FW RX9 69 9 5 true (.array (.object "UnfinishedFair$Sheet")) := ⟨RX9, TX9, 7, tyX9, rfl, by decide, uw_X9, (tb_t 194 (by decide +kernel) rfl), tyX9_ok, nmX9, rfl, by decide +kernel, fun _ => rfl⟩
theorem lkN_X9_73 : Cond.initialized yX7_init.cls ∈ TB ∧ Cond.instanceMethod yX7_init ∈ TB ∧ Cond.code yX7_init cX7_init 1 none ∈ TB ∧ yX7_init.name = "<init>" ∧ yX7_init.cls ≠ "java/lang/invoke/MethodHandle" ∧ yX7_init.cls ≠ "java/lang/invoke/VarHandle" ∧ (parseMethodDescriptor yX7_init.desc).map (fun d => d.parameters.length) = some 0 := ⟨(tb_t 11 (by decide +kernel) rfl), (tb_t 172 (by decide +kernel) rfl), (tb_t 173 (by decide +kernel) rfl), rfl, by decide, by decide, by decide +kernel⟩
theorem nw_X9_67 : NW RX9 67 7 3 [.null, .int 0, .int 0] := by
  refine ⟨RX7, TX7, tyX7, rfl, uw_X7, tyX7_ok, (tb_t 168 (by decide +kernel) rfl), (tb_t 170 (by decide +kernel) rfl), (tb_t 11 (by decide +kernel) rfl), fun j hj => ?_⟩
  match j, hj with
  | 0, _ => rfl
  | 1, _ => rfl
  | 2, _ => rfl
  | j + 3, hj => exact absurd hj (by omega)
theorem fw_X9_74_9 : FW RX9 74 9 6 true (.array .int) := ⟨RX9, TX9, 7, tyX9, rfl, by decide, uw_X9, (tb_t 195 (by decide +kernel) rfl), tyX9_ok, nmX9, rfl, by decide +kernel, fun _ => rfl⟩
def pX9 (h0 : Nat) (u : (Nat → Nat → Nat) × (Nat → Nat → Int32)) : Prop := u.1 7 0 = h0 ∧ (∀ j, j < 3 → ∀ i, i < 6 → u.2 j i = 5) ∧ ∀ j, j < 3 → ∀ i, i < 6 → u.2 (3 + j) i = 4
def wX9 (ca : Nat → ClassId) (sd : Nat → Nat) (u : (Nat → Nat → Nat) × (Nat → Nat → Int32)) : va_W := (wF (u.1 7 0) (u.1 1 0) (u.1 2 0) (u.1 3 0) (u.1 4 0) (u.1 7 1) (u.1 7 2) 0) ++ ((wN ca (u.1 0) sd) ++ ((wC ca (u.1 1) (u.1 0 0) (u.2 0) (u.2 3) zI zI zI zI zI zI 0 0) ++ ((wC ca (u.1 2) (u.1 0 0) (u.2 1) (u.2 4) zI zI zI zI zI zI 0 0) ++ ((wC ca (u.1 3) (u.1 0 0) (u.2 2) (u.2 5) zI zI zI zI zI zI 0 0) ++ ((wT ca (u.1 4) (u.1 0 0) zI 0 0 0 0) ++ ((wA ca (u.1 7 1) (u.1 5)) ++ ((wS ca (u.1 5 0) (u.1 6 0) zL 0 0) ++ ((wS ca (u.1 5 1) (u.1 6 1) zL 0 0) ++ ((wS ca (u.1 5 2) (u.1 6 2) zL 0 0) ++ ((wS ca (u.1 5 3) (u.1 6 3) zL 0 0) ++ (wD ca (u.1 7 2) zI)))))))))))
set_option maxRecDepth 100000 in
set_option maxHeartbeats 8000000 in
theorem x9_b {l : Launch} {D : va_G} {ca : Nat → ClassId} {sd : Nat → Nat} {k : Kx} (h0 : Nat) (nd : Nat → Nat) (C : Cx D ca sd cX9_init RX9 none { frames := 4, cells := 46, slots := 522, locals := 75 } k 3) (hB : Wx k) (hI : Ix k) (hR : Rx (Rv D (pX9 h0) (wX9 ca sd)) 46 522 k) : J l D k 3 7 12 81 ([(h0, .inr (9, [.null, .null, .null, .int 0, .null, .null, .null]))] ++ (wN ca nd sd)) [(0, .ref h0)] [.ref (nd 0)] := by
  refine j_astore_n C [(1, .ref (nd 0)), (0, .ref h0)] dX9_init_81 (by decide) rfl ?_
  refine j_aload_n C 1 dX9_init_82 rfl ?_
  refine j_new C hB nw_X9_39 (fun q1 => ([(h0, .inr (9, [.null, .null, .null, .int 0, .null, .null, .null]))] ++ ((wN ca nd sd) ++ [(q1, .inr (2, [.null, .null, .null, .null, .null, .null, .null, .null, .null, .int 0, .int 0]))]))) (by decide) (by decide) dX9_init_83 (fun _ => rfl) (fun q1 => ?_)
  refine j_dup C dX9_init_86 rfl ?_
  refine j_aload_n C 0 dX9_init_87 rfl ?_
  refine j_cvN C hB 8 9 (fun u : (Nat → Nat) × (Nat → Int32) × (Nat → Int32) => ([(h0, .inr (9, [.null, .null, .null, .int 0, .null, .null, .null]))] ++ ((wN ca nd sd) ++ (wC ca u.1 (nd 0) u.2.1 u.2.2 zI zI zI zI zI zI 0 0)))) rfl (fun _ => rfl) (jr_I C lkI_X9_41 (c_X2_init q1 (nd 0)) ⟨rfl, rfl, by decide, by decide, by decide, by decide⟩ [8] (by decide) rfl (fx_rw C hB [8] rfl) rfl rfl (Nat.le_of_ble_eq_true rfl) dX9_init_88) (fun u hp => ?_)
  obtain ⟨aL, Lsk, Lze⟩ := u
  obtain ⟨eL, hLsk, hLze⟩ := hp
  replace eL : aL 0 = q1 := eL
  subst eL
  refine j_putF C hB hI fw_X9_44_9 0 ([(h0, .inr (9, [.ref (aL 0), .null, .null, .int 0, .null, .null, .null]))] ++ ((wN ca nd sd) ++ (wC ca aL (nd 0) Lsk Lze zI zI zI zI zI zI 0 0))) dX9_init_91 rfl rfl rfl (Nat.le_of_ble_eq_true rfl) rfl ?_
  refine j_aload_n C 1 dX9_init_94 rfl ?_
  refine j_new C hB nw_X9_39 (fun q2 => ([(h0, .inr (9, [.ref (aL 0), .null, .null, .int 0, .null, .null, .null]))] ++ ((wN ca nd sd) ++ ((wC ca aL (nd 0) Lsk Lze zI zI zI zI zI zI 0 0) ++ [(q2, .inr (2, [.null, .null, .null, .null, .null, .null, .null, .null, .null, .int 0, .int 0]))])))) (by decide) (by decide) dX9_init_95 (fun _ => rfl) (fun q2 => ?_)
  refine j_dup C dX9_init_98 rfl ?_
  refine j_aload_n C 0 dX9_init_99 rfl ?_
  refine j_cvN C hB 17 18 (fun u : (Nat → Nat) × (Nat → Int32) × (Nat → Int32) => ([(h0, .inr (9, [.ref (aL 0), .null, .null, .int 0, .null, .null, .null]))] ++ ((wN ca nd sd) ++ ((wC ca aL (nd 0) Lsk Lze zI zI zI zI zI zI 0 0) ++ (wC ca u.1 (nd 0) u.2.1 u.2.2 zI zI zI zI zI zI 0 0))))) rfl (fun _ => rfl) (jr_I C lkI_X9_41 (c_X2_init q2 (nd 0)) ⟨rfl, rfl, by decide, by decide, by decide, by decide⟩ [17] (by decide) rfl (fx_rw C hB [17] rfl) rfl rfl (Nat.le_of_ble_eq_true rfl) dX9_init_100) (fun u hp => ?_)
  obtain ⟨aT, Tsk, Tze⟩ := u
  obtain ⟨eT, hTsk, hTze⟩ := hp
  replace eT : aT 0 = q2 := eT
  subst eT
  refine j_putF C hB hI fw_X9_50_9 0 ([(h0, .inr (9, [.ref (aL 0), .ref (aT 0), .null, .int 0, .null, .null, .null]))] ++ ((wN ca nd sd) ++ ((wC ca aL (nd 0) Lsk Lze zI zI zI zI zI zI 0 0) ++ (wC ca aT (nd 0) Tsk Tze zI zI zI zI zI zI 0 0)))) dX9_init_103 rfl rfl rfl (Nat.le_of_ble_eq_true rfl) rfl ?_
  refine j_aload_n C 1 dX9_init_106 rfl ?_
  refine j_new C hB nw_X9_39 (fun q3 => ([(h0, .inr (9, [.ref (aL 0), .ref (aT 0), .null, .int 0, .null, .null, .null]))] ++ ((wN ca nd sd) ++ ((wC ca aL (nd 0) Lsk Lze zI zI zI zI zI zI 0 0) ++ ((wC ca aT (nd 0) Tsk Tze zI zI zI zI zI zI 0 0) ++ [(q3, .inr (2, [.null, .null, .null, .null, .null, .null, .null, .null, .null, .int 0, .int 0]))]))))) (by decide) (by decide) dX9_init_107 (fun _ => rfl) (fun q3 => ?_)
  refine j_dup C dX9_init_110 rfl ?_
  refine j_aload_n C 0 dX9_init_111 rfl ?_
  refine j_cvN C hB 26 27 (fun u : (Nat → Nat) × (Nat → Int32) × (Nat → Int32) => ([(h0, .inr (9, [.ref (aL 0), .ref (aT 0), .null, .int 0, .null, .null, .null]))] ++ ((wN ca nd sd) ++ ((wC ca aL (nd 0) Lsk Lze zI zI zI zI zI zI 0 0) ++ ((wC ca aT (nd 0) Tsk Tze zI zI zI zI zI zI 0 0) ++ (wC ca u.1 (nd 0) u.2.1 u.2.2 zI zI zI zI zI zI 0 0)))))) rfl (fun _ => rfl) (jr_I C lkI_X9_41 (c_X2_init q3 (nd 0)) ⟨rfl, rfl, by decide, by decide, by decide, by decide⟩ [26] (by decide) rfl (fx_rw C hB [26] rfl) rfl rfl (Nat.le_of_ble_eq_true rfl) dX9_init_112) (fun u hp => ?_)
  obtain ⟨aK, Ksk, Kze⟩ := u
  obtain ⟨eK, hKsk, hKze⟩ := hp
  replace eK : aK 0 = q3 := eK
  subst eK
  refine j_putF C hB hI fw_X9_53_9 0 ([(h0, .inr (9, [.ref (aL 0), .ref (aT 0), .ref (aK 0), .int 0, .null, .null, .null]))] ++ ((wN ca nd sd) ++ ((wC ca aL (nd 0) Lsk Lze zI zI zI zI zI zI 0 0) ++ ((wC ca aT (nd 0) Tsk Tze zI zI zI zI zI zI 0 0) ++ (wC ca aK (nd 0) Ksk Kze zI zI zI zI zI zI 0 0))))) dX9_init_115 rfl rfl rfl (Nat.le_of_ble_eq_true rfl) rfl ?_
  refine j_aload_n C 1 dX9_init_118 rfl ?_
  refine j_iconst C 0 dX9_init_119 (by decide) ?_
  refine j_put C hB fw_X9_56_9 0 ([(h0, .inr (9, [.ref (aL 0), .ref (aT 0), .ref (aK 0), .int 0, .null, .null, .null]))] ++ ((wN ca nd sd) ++ ((wC ca aL (nd 0) Lsk Lze zI zI zI zI zI zI 0 0) ++ ((wC ca aT (nd 0) Tsk Tze zI zI zI zI zI zI 0 0) ++ (wC ca aK (nd 0) Ksk Kze zI zI zI zI zI zI 0 0))))) dX9_init_120 rfl rfl rfl (Nat.le_of_ble_eq_true rfl) rfl ?_
  refine j_aload_n C 1 dX9_init_123 rfl ?_
  refine j_new C hB nw_X9_60 (fun q4 => ([(h0, .inr (9, [.ref (aL 0), .ref (aT 0), .ref (aK 0), .int 0, .null, .null, .null]))] ++ ((wN ca nd sd) ++ ((wC ca aL (nd 0) Lsk Lze zI zI zI zI zI zI 0 0) ++ ((wC ca aT (nd 0) Tsk Tze zI zI zI zI zI zI 0 0) ++ ((wC ca aK (nd 0) Ksk Kze zI zI zI zI zI zI 0 0) ++ [(q4, .inr (8, [.null, .null, .int 0, .int 0, .int 0, .int 0]))])))))) (by decide) (by decide) dX9_init_124 (fun _ => rfl) (fun q4 => ?_)
  refine j_dup C dX9_init_127 rfl ?_
  refine j_aload_n C 0 dX9_init_128 rfl ?_
  refine j_cvN C hB 35 36 (fun tp : Nat → Nat => ([(h0, .inr (9, [.ref (aL 0), .ref (aT 0), .ref (aK 0), .int 0, .null, .null, .null]))] ++ ((wN ca nd sd) ++ ((wC ca aL (nd 0) Lsk Lze zI zI zI zI zI zI 0 0) ++ ((wC ca aT (nd 0) Tsk Tze zI zI zI zI zI zI 0 0) ++ ((wC ca aK (nd 0) Ksk Kze zI zI zI zI zI zI 0 0) ++ (wT ca tp (nd 0) zI 0 0 0 0))))))) rfl (fun _ => rfl) (jr_I C lkI_X9_62 (c_X8_init q4 (nd 0)) ⟨rfl, rfl, by decide, by decide, by decide, by decide⟩ [35] (by decide) rfl (fx_rw C hB [35] rfl) rfl rfl (Nat.le_of_ble_eq_true rfl) dX9_init_129) (fun tp eP => ?_)
  replace eP : tp 0 = q4 := eP
  subst eP
  refine j_putF C hB hI fw_X9_63_9 0 ([(h0, .inr (9, [.ref (aL 0), .ref (aT 0), .ref (aK 0), .int 0, .ref (tp 0), .null, .null]))] ++ ((wN ca nd sd) ++ ((wC ca aL (nd 0) Lsk Lze zI zI zI zI zI zI 0 0) ++ ((wC ca aT (nd 0) Tsk Tze zI zI zI zI zI zI 0 0) ++ ((wC ca aK (nd 0) Ksk Kze zI zI zI zI zI zI 0 0) ++ (wT ca tp (nd 0) zI 0 0 0 0)))))) dX9_init_132 rfl rfl rfl (Nat.le_of_ble_eq_true rfl) rfl ?_
  refine j_aload_n C 1 dX9_init_135 rfl ?_
  refine j_iconst C 4 dX9_init_136 (by decide) ?_
  refine j_newQ C hB 4 4 (fun q5 => ([(h0, .inr (9, [.ref (aL 0), .ref (aT 0), .ref (aK 0), .int 0, .ref (tp 0), .null, .null]))] ++ ((wN ca nd sd) ++ ((wC ca aL (nd 0) Lsk Lze zI zI zI zI zI zI 0 0) ++ ((wC ca aT (nd 0) Tsk Tze zI zI zI zI zI zI 0 0) ++ ((wC ca aK (nd 0) Ksk Kze zI zI zI zI zI zI 0 0) ++ ((wT ca tp (nd 0) zI 0 0 0 0) ++ [(q5, .inl (ca 4, 4, .inr (.inr (.inr (.inr (fun _ => none))))))]))))))) (Or.inr rfl) rfl cl_X9_67 (by decide) (by decide) (by decide) (by decide) (by decide) dX9_init_137 (fun _ => rfl) (fun q5 => ?_)
  refine j_putF C hB hI fw_X9_69_9 0 ([(h0, .inr (9, [.ref (aL 0), .ref (aT 0), .ref (aK 0), .int 0, .ref (tp 0), .ref q5, .null]))] ++ ((wN ca nd sd) ++ ((wC ca aL (nd 0) Lsk Lze zI zI zI zI zI zI 0 0) ++ ((wC ca aT (nd 0) Tsk Tze zI zI zI zI zI zI 0 0) ++ ((wC ca aK (nd 0) Ksk Kze zI zI zI zI zI zI 0 0) ++ ((wT ca tp (nd 0) zI 0 0 0 0) ++ [(q5, .inl (ca 4, 4, .inr (.inr (.inr (.inr (fun _ => none))))))])))))) dX9_init_140 rfl rfl rfl (Nat.le_of_ble_eq_true rfl) rfl ?_
  refine j_iconst C 0 dX9_init_143 (by decide) ?_
  refine j_istore_n C [(2, .int 0), (1, .ref (nd 0)), (0, .ref h0)] dX9_init_144 (by decide) rfl ?_
  refine j_iload_n C 0 dX9_init_145 rfl ?_
  refine j_iconst C 4 dX9_init_146 (by decide) ?_
  refine j_icmp_ge C 169 dX9_init_147 (by decide) (fun z => absurd z (by decide)) (fun _ => ?_)
  refine j_aload_n C 2 dX9_init_150 rfl ?_
  refine j_get C fl_X9_69_9 0 dX9_init_151 rfl rfl ?_
  refine j_iload_n C 0 dX9_init_154 rfl ?_
  refine j_new C hB nw_X9_67 (fun b0 => ([(h0, .inr (9, [.ref (aL 0), .ref (aT 0), .ref (aK 0), .int 0, .ref (tp 0), .ref q5, .null]))] ++ ((wN ca nd sd) ++ ((wC ca aL (nd 0) Lsk Lze zI zI zI zI zI zI 0 0) ++ ((wC ca aT (nd 0) Tsk Tze zI zI zI zI zI zI 0 0) ++ ((wC ca aK (nd 0) Ksk Kze zI zI zI zI zI zI 0 0) ++ ((wT ca tp (nd 0) zI 0 0 0 0) ++ ([(q5, .inl (ca 4, 4, .inr (.inr (.inr (.inr (fun _ => none))))))] ++ [(b0, .inr (7, [.null, .int 0, .int 0]))])))))))) (by decide) (by decide) dX9_init_155 (fun _ => rfl) (fun b0 => ?_)
  refine j_dup C dX9_init_158 rfl ?_
  refine j_cvN C hB 38 39 (fun n0 : Nat => ([(h0, .inr (9, [.ref (aL 0), .ref (aT 0), .ref (aK 0), .int 0, .ref (tp 0), .ref q5, .null]))] ++ ((wN ca nd sd) ++ ((wC ca aL (nd 0) Lsk Lze zI zI zI zI zI zI 0 0) ++ ((wC ca aT (nd 0) Tsk Tze zI zI zI zI zI zI 0 0) ++ ((wC ca aK (nd 0) Ksk Kze zI zI zI zI zI zI 0 0) ++ ((wT ca tp (nd 0) zI 0 0 0 0) ++ ([(q5, .inl (ca 4, 4, .inr (.inr (.inr (.inr (fun _ => none))))))] ++ (wS ca b0 n0 zL 0 0))))))))) rfl (fun _ => rfl) (jr_IN C (host := "UnfinishedFair") (by decide +kernel) lkN_X9_73 (c_X7_init b0) ⟨rfl, rfl, by decide, by decide, by decide, by decide⟩ [38] (by decide) rfl (fx_rw C hB [38] rfl) rfl rfl (Nat.le_of_ble_eq_true rfl) dX9_init_159) (fun n0 _ => ?_)
  refine j_astq C hB 37 38 0 ([(h0, .inr (9, [.ref (aL 0), .ref (aT 0), .ref (aK 0), .int 0, .ref (tp 0), .ref q5, .null]))] ++ ((wN ca nd sd) ++ ((wC ca aL (nd 0) Lsk Lze zI zI zI zI zI zI 0 0) ++ ((wC ca aT (nd 0) Tsk Tze zI zI zI zI zI zI 0 0) ++ ((wC ca aK (nd 0) Ksk Kze zI zI zI zI zI zI 0 0) ++ ((wT ca tp (nd 0) zI 0 0 0 0) ++ ([(q5, .inl (ca 4, 4, .inr (.inr (.inr (.inr (va_up (fun _ => none) 0 (some b0)))))))] ++ (wS ca b0 n0 zL 0 0)))))))) dX9_init_162 rfl rfl rfl rfl (by unfold vp_in; decide) (by decide) rfl ?_
  refine j_iinc C 0 1 [(2, .int 1), (1, .ref (nd 0)), (0, .ref h0)] dX9_init_163 rfl (by decide) (by decide) rfl ?_
  refine j_goto C 145 dX9_init_166 (by decide) ?_
  refine j_iload_n C 0 dX9_init_145 rfl ?_
  refine j_iconst C 4 dX9_init_146 (by decide) ?_
  refine j_icmp_ge C 169 dX9_init_147 (by decide) (fun z => absurd z (by decide)) (fun _ => ?_)
  refine j_aload_n C 2 dX9_init_150 rfl ?_
  refine j_get C fl_X9_69_9 0 dX9_init_151 rfl rfl ?_
  refine j_iload_n C 0 dX9_init_154 rfl ?_
  refine j_new C hB nw_X9_67 (fun b1 => ([(h0, .inr (9, [.ref (aL 0), .ref (aT 0), .ref (aK 0), .int 0, .ref (tp 0), .ref q5, .null]))] ++ ((wN ca nd sd) ++ ((wC ca aL (nd 0) Lsk Lze zI zI zI zI zI zI 0 0) ++ ((wC ca aT (nd 0) Tsk Tze zI zI zI zI zI zI 0 0) ++ ((wC ca aK (nd 0) Ksk Kze zI zI zI zI zI zI 0 0) ++ ((wT ca tp (nd 0) zI 0 0 0 0) ++ ([(q5, .inl (ca 4, 4, .inr (.inr (.inr (.inr (va_up (fun _ => none) 0 (some b0)))))))] ++ ((wS ca b0 n0 zL 0 0) ++ [(b1, .inr (7, [.null, .int 0, .int 0]))]))))))))) (by decide) (by decide) dX9_init_155 (fun _ => rfl) (fun b1 => ?_)
  refine j_dup C dX9_init_158 rfl ?_
  refine j_cvN C hB 40 41 (fun n1 : Nat => ([(h0, .inr (9, [.ref (aL 0), .ref (aT 0), .ref (aK 0), .int 0, .ref (tp 0), .ref q5, .null]))] ++ ((wN ca nd sd) ++ ((wC ca aL (nd 0) Lsk Lze zI zI zI zI zI zI 0 0) ++ ((wC ca aT (nd 0) Tsk Tze zI zI zI zI zI zI 0 0) ++ ((wC ca aK (nd 0) Ksk Kze zI zI zI zI zI zI 0 0) ++ ((wT ca tp (nd 0) zI 0 0 0 0) ++ ([(q5, .inl (ca 4, 4, .inr (.inr (.inr (.inr (va_up (fun _ => none) 0 (some b0)))))))] ++ ((wS ca b0 n0 zL 0 0) ++ (wS ca b1 n1 zL 0 0)))))))))) rfl (fun _ => rfl) (jr_IN C (host := "UnfinishedFair") (by decide +kernel) lkN_X9_73 (c_X7_init b1) ⟨rfl, rfl, by decide, by decide, by decide, by decide⟩ [40] (by decide) rfl (fx_rw C hB [40] rfl) rfl rfl (Nat.le_of_ble_eq_true rfl) dX9_init_159) (fun n1 _ => ?_)
  refine j_astq C hB 37 40 1 ([(h0, .inr (9, [.ref (aL 0), .ref (aT 0), .ref (aK 0), .int 0, .ref (tp 0), .ref q5, .null]))] ++ ((wN ca nd sd) ++ ((wC ca aL (nd 0) Lsk Lze zI zI zI zI zI zI 0 0) ++ ((wC ca aT (nd 0) Tsk Tze zI zI zI zI zI zI 0 0) ++ ((wC ca aK (nd 0) Ksk Kze zI zI zI zI zI zI 0 0) ++ ((wT ca tp (nd 0) zI 0 0 0 0) ++ ([(q5, .inl (ca 4, 4, .inr (.inr (.inr (.inr (va_up (va_up (fun _ => none) 0 (some b0)) 1 (some b1)))))))] ++ ((wS ca b0 n0 zL 0 0) ++ (wS ca b1 n1 zL 0 0))))))))) dX9_init_162 rfl rfl rfl rfl (by unfold vp_in; decide) (by decide) rfl ?_
  refine j_iinc C 0 2 [(2, .int 2), (1, .ref (nd 0)), (0, .ref h0)] dX9_init_163 rfl (by decide) (by decide) rfl ?_
  refine j_goto C 145 dX9_init_166 (by decide) ?_
  refine j_iload_n C 0 dX9_init_145 rfl ?_
  refine j_iconst C 4 dX9_init_146 (by decide) ?_
  refine j_icmp_ge C 169 dX9_init_147 (by decide) (fun z => absurd z (by decide)) (fun _ => ?_)
  refine j_aload_n C 2 dX9_init_150 rfl ?_
  refine j_get C fl_X9_69_9 0 dX9_init_151 rfl rfl ?_
  refine j_iload_n C 0 dX9_init_154 rfl ?_
  refine j_new C hB nw_X9_67 (fun b2 => ([(h0, .inr (9, [.ref (aL 0), .ref (aT 0), .ref (aK 0), .int 0, .ref (tp 0), .ref q5, .null]))] ++ ((wN ca nd sd) ++ ((wC ca aL (nd 0) Lsk Lze zI zI zI zI zI zI 0 0) ++ ((wC ca aT (nd 0) Tsk Tze zI zI zI zI zI zI 0 0) ++ ((wC ca aK (nd 0) Ksk Kze zI zI zI zI zI zI 0 0) ++ ((wT ca tp (nd 0) zI 0 0 0 0) ++ ([(q5, .inl (ca 4, 4, .inr (.inr (.inr (.inr (va_up (va_up (fun _ => none) 0 (some b0)) 1 (some b1)))))))] ++ ((wS ca b0 n0 zL 0 0) ++ ((wS ca b1 n1 zL 0 0) ++ [(b2, .inr (7, [.null, .int 0, .int 0]))])))))))))) (by decide) (by decide) dX9_init_155 (fun _ => rfl) (fun b2 => ?_)
  refine j_dup C dX9_init_158 rfl ?_
  refine j_cvN C hB 42 43 (fun n2 : Nat => ([(h0, .inr (9, [.ref (aL 0), .ref (aT 0), .ref (aK 0), .int 0, .ref (tp 0), .ref q5, .null]))] ++ ((wN ca nd sd) ++ ((wC ca aL (nd 0) Lsk Lze zI zI zI zI zI zI 0 0) ++ ((wC ca aT (nd 0) Tsk Tze zI zI zI zI zI zI 0 0) ++ ((wC ca aK (nd 0) Ksk Kze zI zI zI zI zI zI 0 0) ++ ((wT ca tp (nd 0) zI 0 0 0 0) ++ ([(q5, .inl (ca 4, 4, .inr (.inr (.inr (.inr (va_up (va_up (fun _ => none) 0 (some b0)) 1 (some b1)))))))] ++ ((wS ca b0 n0 zL 0 0) ++ ((wS ca b1 n1 zL 0 0) ++ (wS ca b2 n2 zL 0 0))))))))))) rfl (fun _ => rfl) (jr_IN C (host := "UnfinishedFair") (by decide +kernel) lkN_X9_73 (c_X7_init b2) ⟨rfl, rfl, by decide, by decide, by decide, by decide⟩ [42] (by decide) rfl (fx_rw C hB [42] rfl) rfl rfl (Nat.le_of_ble_eq_true rfl) dX9_init_159) (fun n2 _ => ?_)
  refine j_astq C hB 37 42 2 ([(h0, .inr (9, [.ref (aL 0), .ref (aT 0), .ref (aK 0), .int 0, .ref (tp 0), .ref q5, .null]))] ++ ((wN ca nd sd) ++ ((wC ca aL (nd 0) Lsk Lze zI zI zI zI zI zI 0 0) ++ ((wC ca aT (nd 0) Tsk Tze zI zI zI zI zI zI 0 0) ++ ((wC ca aK (nd 0) Ksk Kze zI zI zI zI zI zI 0 0) ++ ((wT ca tp (nd 0) zI 0 0 0 0) ++ ([(q5, .inl (ca 4, 4, .inr (.inr (.inr (.inr (va_up (va_up (va_up (fun _ => none) 0 (some b0)) 1 (some b1)) 2 (some b2)))))))] ++ ((wS ca b0 n0 zL 0 0) ++ ((wS ca b1 n1 zL 0 0) ++ (wS ca b2 n2 zL 0 0)))))))))) dX9_init_162 rfl rfl rfl rfl (by unfold vp_in; decide) (by decide) rfl ?_
  refine j_iinc C 0 3 [(2, .int 3), (1, .ref (nd 0)), (0, .ref h0)] dX9_init_163 rfl (by decide) (by decide) rfl ?_
  refine j_goto C 145 dX9_init_166 (by decide) ?_
  refine j_iload_n C 0 dX9_init_145 rfl ?_
  refine j_iconst C 4 dX9_init_146 (by decide) ?_
  refine j_icmp_ge C 169 dX9_init_147 (by decide) (fun z => absurd z (by decide)) (fun _ => ?_)
  refine j_aload_n C 2 dX9_init_150 rfl ?_
  refine j_get C fl_X9_69_9 0 dX9_init_151 rfl rfl ?_
  refine j_iload_n C 0 dX9_init_154 rfl ?_
  refine j_new C hB nw_X9_67 (fun b3 => ([(h0, .inr (9, [.ref (aL 0), .ref (aT 0), .ref (aK 0), .int 0, .ref (tp 0), .ref q5, .null]))] ++ ((wN ca nd sd) ++ ((wC ca aL (nd 0) Lsk Lze zI zI zI zI zI zI 0 0) ++ ((wC ca aT (nd 0) Tsk Tze zI zI zI zI zI zI 0 0) ++ ((wC ca aK (nd 0) Ksk Kze zI zI zI zI zI zI 0 0) ++ ((wT ca tp (nd 0) zI 0 0 0 0) ++ ([(q5, .inl (ca 4, 4, .inr (.inr (.inr (.inr (va_up (va_up (va_up (fun _ => none) 0 (some b0)) 1 (some b1)) 2 (some b2)))))))] ++ ((wS ca b0 n0 zL 0 0) ++ ((wS ca b1 n1 zL 0 0) ++ ((wS ca b2 n2 zL 0 0) ++ [(b3, .inr (7, [.null, .int 0, .int 0]))]))))))))))) (by decide) (by decide) dX9_init_155 (fun _ => rfl) (fun b3 => ?_)
  refine j_dup C dX9_init_158 rfl ?_
  refine j_cvN C hB 44 45 (fun n3 : Nat => ([(h0, .inr (9, [.ref (aL 0), .ref (aT 0), .ref (aK 0), .int 0, .ref (tp 0), .ref q5, .null]))] ++ ((wN ca nd sd) ++ ((wC ca aL (nd 0) Lsk Lze zI zI zI zI zI zI 0 0) ++ ((wC ca aT (nd 0) Tsk Tze zI zI zI zI zI zI 0 0) ++ ((wC ca aK (nd 0) Ksk Kze zI zI zI zI zI zI 0 0) ++ ((wT ca tp (nd 0) zI 0 0 0 0) ++ ([(q5, .inl (ca 4, 4, .inr (.inr (.inr (.inr (va_up (va_up (va_up (fun _ => none) 0 (some b0)) 1 (some b1)) 2 (some b2)))))))] ++ ((wS ca b0 n0 zL 0 0) ++ ((wS ca b1 n1 zL 0 0) ++ ((wS ca b2 n2 zL 0 0) ++ (wS ca b3 n3 zL 0 0)))))))))))) rfl (fun _ => rfl) (jr_IN C (host := "UnfinishedFair") (by decide +kernel) lkN_X9_73 (c_X7_init b3) ⟨rfl, rfl, by decide, by decide, by decide, by decide⟩ [44] (by decide) rfl (fx_rw C hB [44] rfl) rfl rfl (Nat.le_of_ble_eq_true rfl) dX9_init_159) (fun n3 _ => ?_)
  refine j_astq C hB 37 44 3 ([(h0, .inr (9, [.ref (aL 0), .ref (aT 0), .ref (aK 0), .int 0, .ref (tp 0), .ref q5, .null]))] ++ ((wN ca nd sd) ++ ((wC ca aL (nd 0) Lsk Lze zI zI zI zI zI zI 0 0) ++ ((wC ca aT (nd 0) Tsk Tze zI zI zI zI zI zI 0 0) ++ ((wC ca aK (nd 0) Ksk Kze zI zI zI zI zI zI 0 0) ++ ((wT ca tp (nd 0) zI 0 0 0 0) ++ ([(q5, .inl (ca 4, 4, .inr (.inr (.inr (.inr (va_up (va_up (va_up (va_up (fun _ => none) 0 (some b0)) 1 (some b1)) 2 (some b2)) 3 (some b3)))))))] ++ ((wS ca b0 n0 zL 0 0) ++ ((wS ca b1 n1 zL 0 0) ++ ((wS ca b2 n2 zL 0 0) ++ (wS ca b3 n3 zL 0 0))))))))))) dX9_init_162 rfl rfl rfl rfl (by unfold vp_in; decide) (by decide) rfl ?_
  refine j_iinc C 0 4 [(2, .int 4), (1, .ref (nd 0)), (0, .ref h0)] dX9_init_163 rfl (by decide) (by decide) rfl ?_
  refine j_goto C 145 dX9_init_166 (by decide) ?_
  refine j_iload_n C 0 dX9_init_145 rfl ?_
  refine j_iconst C 4 dX9_init_146 (by decide) ?_
  refine j_icmp_ge C 169 dX9_init_147 (by decide) (fun _ => ?_) (fun z => absurd (by decide) z)
  refine j_aload_n C 2 dX9_init_169 rfl ?_
  refine j_bipush C 7 dX9_init_170 (by decide) ?_
  refine j_newI C hB 7 (fun q6 => ([(h0, .inr (9, [.ref (aL 0), .ref (aT 0), .ref (aK 0), .int 0, .ref (tp 0), .ref q5, .null]))] ++ ((wN ca nd sd) ++ ((wC ca aL (nd 0) Lsk Lze zI zI zI zI zI zI 0 0) ++ ((wC ca aT (nd 0) Tsk Tze zI zI zI zI zI zI 0 0) ++ ((wC ca aK (nd 0) Ksk Kze zI zI zI zI zI zI 0 0) ++ ((wT ca tp (nd 0) zI 0 0 0 0) ++ ([(q5, .inl (ca 4, 4, .inr (.inr (.inr (.inr (va_up (va_up (va_up (va_up (fun _ => none) 0 (some b0)) 1 (some b1)) 2 (some b2)) 3 (some b3)))))))] ++ ((wS ca b0 n0 zL 0 0) ++ ((wS ca b1 n1 zL 0 0) ++ ((wS ca b2 n2 zL 0 0) ++ ((wS ca b3 n3 zL 0 0) ++ (wD ca q6 zI))))))))))))) (by decide) (by decide) (by decide) (by decide) (by decide) dX9_init_172 (fun _ => rfl) (fun q6 => ?_)
  refine j_putF C hB hI fw_X9_74_9 0 ([(h0, .inr (9, [.ref (aL 0), .ref (aT 0), .ref (aK 0), .int 0, .ref (tp 0), .ref q5, .ref q6]))] ++ ((wN ca nd sd) ++ ((wC ca aL (nd 0) Lsk Lze zI zI zI zI zI zI 0 0) ++ ((wC ca aT (nd 0) Tsk Tze zI zI zI zI zI zI 0 0) ++ ((wC ca aK (nd 0) Ksk Kze zI zI zI zI zI zI 0 0) ++ ((wT ca tp (nd 0) zI 0 0 0 0) ++ ([(q5, .inl (ca 4, 4, .inr (.inr (.inr (.inr (va_up (va_up (va_up (va_up (fun _ => none) 0 (some b0)) 1 (some b1)) 2 (some b2)) 3 (some b3)))))))] ++ ((wS ca b0 n0 zL 0 0) ++ ((wS ca b1 n1 zL 0 0) ++ ((wS ca b2 n2 zL 0 0) ++ ((wS ca b3 n3 zL 0 0) ++ (wD ca q6 zI)))))))))))) dX9_init_174 rfl rfl rfl (Nat.le_of_ble_eq_true rfl) rfl ?_
  refine j_wq 37 (fun j => some ([b0, b1, b2, b3].getD j 0)) _ rfl (fun j hj => ?_) rfl ?_
  · match j, hj with
    | 0, _ => rfl
    | 1, _ => rfl
    | 2, _ => rfl
    | 3, _ => rfl
    | j + 4, hj => exact absurd hj (by omega)
  refine j_widen (c1 := 46) (s1 := 522) (by decide) (by decide) ?_
  have h5 : ∀ j, j < 3 → ∀ i, i < 6 → ([Lsk, Tsk, Ksk, Lze, Tze, Kze].getD j zI) i = 5 := by
    intro j hj
    match j, hj with
    | 0, _ => exact hLsk
    | 1, _ => exact hTsk
    | 2, _ => exact hKsk
    | j + 3, hj => exact absurd hj (by omega)
  have h4 : ∀ j, j < 3 → ∀ i, i < 6 → ([Lsk, Tsk, Ksk, Lze, Tze, Kze].getD (3 + j) zI) i = 4 := by
    intro j hj
    match j, hj with
    | 0, _ => exact hLze
    | 1, _ => exact hTze
    | 2, _ => exact hKze
    | j + 3, hj => exact absurd hj (by omega)
  exact j_vret C hB hR (fun j => [nd, aL, aT, aK, tp, fun i => [b0, b1, b2, b3].getD i 0, fun i => [n0, n1, n2, n3].getD i 0, fun i => [h0, q5, q6].getD i 0].getD j (fun _ => 0), fun j => [Lsk, Tsk, Ksk, Lze, Tze, Kze].getD j zI) rfl dX9_init_177 ⟨rfl, h5, h4⟩ rfl
set_option maxRecDepth 100000 in
set_option maxHeartbeats 8000000 in
theorem c_X9_init {l : Launch} {D : va_G} {ca : Nat → ClassId} {sd : Nat → Nat} (h0 : Nat) : Cn l D ca sd yX9_init cX9_init 3 none { frames := 4, cells := 46, slots := 522, locals := 75 } [.ref h0] [(h0, .inr (9, [.null, .null, .null, .int 0, .null, .null, .null]))] [(h0, .inr (9, [.null, .null, .null, .int 0, .null, .null, .null]))] 46 522 (Rv D (pX9 h0) (wX9 ca sd)) := by
  refine cn_of (by decide) (Nat.le_of_ble_eq_true rfl) (fun k C hR hB hI => ?_)
  have C : Cx D ca sd cX9_init RX9 none { frames := 4, cells := 46, slots := 522, locals := 75 } k 3 := C
  show J l D k 3 0 0 0 [(h0, .inr (9, [.null, .null, .null, .int 0, .null, .null, .null]))] [(0, .ref h0)] []
  refine j_aload_n C 0 dX9_init_0 rfl ?_
  refine j_oinit C oi_X9_1 (by decide) (by decide) dX9_init_1 ?_
  refine j_bipush C 6 dX9_init_4 (by decide) ?_
  refine j_newQ C hB 6 3 (fun q0 => [(h0, .inr (9, [.null, .null, .null, .int 0, .null, .null, .null])), (q0, .inl (ca 3, 6, .inr (.inr (.inr (.inr (fun _ => none))))))]) (Or.inl rfl) rfl cl_X9_7 (by decide) (by decide) (by decide) (by decide) (by decide) dX9_init_6 (fun _ => rfl) (fun q0 => ?_)
  refine j_dup C dX9_init_9 rfl ?_
  refine j_iconst C 0 dX9_init_10 (by decide) ?_
  refine j_new C hB nw_X9_7 (fun q1 => [(h0, .inr (9, [.null, .null, .null, .int 0, .null, .null, .null])), (q0, .inl (ca 3, 6, .inr (.inr (.inr (.inr (fun _ => none)))))), (q1, .inr (4, [.null]))]) (by decide) (by decide) dX9_init_11 (fun _ => rfl) (fun q1 => ?_)
  refine j_dup C dX9_init_14 rfl ?_
  refine j_ldcS C 0 "thing" dX9_init_15 (by decide) ?_
  refine j_cvT C hB 2 3 (fun _ : Unit => [(h0, .inr (9, [.null, .null, .null, .int 0, .null, .null, .null])), (q0, .inl (ca 3, 6, .inr (.inr (.inr (.inr (fun _ => none)))))), (q1, .inr (4, [.ref (sd 2)]))]) rfl (fun _ => rfl) (jr_I C lkI_X9_11 (c_X4_init q1 4 (sd 2) fw_X4_7_4) ⟨rfl, rfl, by decide, by decide, by decide, by decide⟩ [2] (by decide) rfl (fx_rw C hB [2] rfl) rfl rfl (Nat.le_of_ble_eq_true rfl) dX9_init_17) (fun _ _ => ?_)
  refine j_astq C hB 1 2 0 [(h0, .inr (9, [.null, .null, .null, .int 0, .null, .null, .null])), (q0, .inl (ca 3, 6, .inr (.inr (.inr (.inr (va_up (fun _ => none) 0 (some q1))))))), (q1, .inr (4, [.ref (sd 2)]))] dX9_init_20 rfl rfl rfl rfl (by unfold vp_in; decide) (by decide) rfl ?_
  refine j_dup C dX9_init_21 rfl ?_
  refine j_iconst C 1 dX9_init_22 (by decide) ?_
  refine j_new C hB nw_X9_14 (fun q2 => [(h0, .inr (9, [.null, .null, .null, .int 0, .null, .null, .null])), (q0, .inl (ca 3, 6, .inr (.inr (.inr (.inr (va_up (fun _ => none) 0 (some q1))))))), (q1, .inr (4, [.ref (sd 2)])), (q2, .inr (0, [.null]))]) (by decide) (by decide) dX9_init_23 (fun _ => rfl) (fun q2 => ?_)
  refine j_dup C dX9_init_26 rfl ?_
  refine j_ldcS C 1 "boat" dX9_init_27 (by decide) ?_
  refine j_cvT C hB 3 4 (fun _ : Unit => [(h0, .inr (9, [.null, .null, .null, .int 0, .null, .null, .null])), (q0, .inl (ca 3, 6, .inr (.inr (.inr (.inr (va_up (fun _ => none) 0 (some q1))))))), (q1, .inr (4, [.ref (sd 2)])), (q2, .inr (0, [.ref (sd 3)]))]) rfl (fun _ => rfl) (jr_I C lkI_X9_18 (c_X0_init q2 0 (sd 3) fw_X4_7_0) ⟨rfl, rfl, by decide, by decide, by decide, by decide⟩ [3] (by decide) rfl (fx_rw C hB [3] rfl) rfl rfl (Nat.le_of_ble_eq_true rfl) dX9_init_29) (fun _ _ => ?_)
  refine j_astqO C hB ch_X0 1 3 1 [(h0, .inr (9, [.null, .null, .null, .int 0, .null, .null, .null])), (q0, .inl (ca 3, 6, .inr (.inr (.inr (.inr (va_up (va_up (fun _ => none) 0 (some q1)) 1 (some q2))))))), (q1, .inr (4, [.ref (sd 2)])), (q2, .inr (0, [.ref (sd 3)]))] dX9_init_32 rfl rfl rfl rfl (by unfold vp_in; decide) (by decide) rfl ?_
  refine j_dup C dX9_init_33 rfl ?_
  refine j_iconst C 2 dX9_init_34 (by decide) ?_
  refine j_new C hB nw_X9_19 (fun q3 => [(h0, .inr (9, [.null, .null, .null, .int 0, .null, .null, .null])), (q0, .inl (ca 3, 6, .inr (.inr (.inr (.inr (va_up (va_up (fun _ => none) 0 (some q1)) 1 (some q2))))))), (q1, .inr (4, [.ref (sd 2)])), (q2, .inr (0, [.ref (sd 3)])), (q3, .inr (3, [.null]))]) (by decide) (by decide) dX9_init_35 (fun _ => rfl) (fun q3 => ?_)
  refine j_dup C dX9_init_38 rfl ?_
  refine j_ldcS C 2 "jersey" dX9_init_39 (by decide) ?_
  refine j_cvT C hB 4 5 (fun _ : Unit => [(h0, .inr (9, [.null, .null, .null, .int 0, .null, .null, .null])), (q0, .inl (ca 3, 6, .inr (.inr (.inr (.inr (va_up (va_up (fun _ => none) 0 (some q1)) 1 (some q2))))))), (q1, .inr (4, [.ref (sd 2)])), (q2, .inr (0, [.ref (sd 3)])), (q3, .inr (3, [.ref (sd 4)]))]) rfl (fun _ => rfl) (jr_I C lkI_X9_23 (c_X3_init q3 3 (sd 4) fw_X4_7_3) ⟨rfl, rfl, by decide, by decide, by decide, by decide⟩ [4] (by decide) rfl (fx_rw C hB [4] rfl) rfl rfl (Nat.le_of_ble_eq_true rfl) dX9_init_41) (fun _ _ => ?_)
  refine j_astqO C hB ch_X3 1 4 2 [(h0, .inr (9, [.null, .null, .null, .int 0, .null, .null, .null])), (q0, .inl (ca 3, 6, .inr (.inr (.inr (.inr (va_up (va_up (va_up (fun _ => none) 0 (some q1)) 1 (some q2)) 2 (some q3))))))), (q1, .inr (4, [.ref (sd 2)])), (q2, .inr (0, [.ref (sd 3)])), (q3, .inr (3, [.ref (sd 4)]))] dX9_init_44 rfl rfl rfl rfl (by unfold vp_in; decide) (by decide) rfl ?_
  refine j_dup C dX9_init_45 rfl ?_
  refine j_iconst C 3 dX9_init_46 (by decide) ?_
  refine j_new C hB nw_X9_24 (fun q4 => [(h0, .inr (9, [.null, .null, .null, .int 0, .null, .null, .null])), (q0, .inl (ca 3, 6, .inr (.inr (.inr (.inr (va_up (va_up (va_up (fun _ => none) 0 (some q1)) 1 (some q2)) 2 (some q3))))))), (q1, .inr (4, [.ref (sd 2)])), (q2, .inr (0, [.ref (sd 3)])), (q3, .inr (3, [.ref (sd 4)])), (q4, .inr (6, [.null]))]) (by decide) (by decide) dX9_init_47 (fun _ => rfl) (fun q4 => ?_)
  refine j_dup C dX9_init_50 rfl ?_
  refine j_ldcS C 3 "quarrel" dX9_init_51 (by decide) ?_
  refine j_cvT C hB 5 6 (fun _ : Unit => [(h0, .inr (9, [.null, .null, .null, .int 0, .null, .null, .null])), (q0, .inl (ca 3, 6, .inr (.inr (.inr (.inr (va_up (va_up (va_up (fun _ => none) 0 (some q1)) 1 (some q2)) 2 (some q3))))))), (q1, .inr (4, [.ref (sd 2)])), (q2, .inr (0, [.ref (sd 3)])), (q3, .inr (3, [.ref (sd 4)])), (q4, .inr (6, [.ref (sd 5)]))]) rfl (fun _ => rfl) (jr_I C lkI_X9_28 (c_X6_init q4 6 (sd 5) fw_X4_7_6) ⟨rfl, rfl, by decide, by decide, by decide, by decide⟩ [5] (by decide) rfl (fx_rw C hB [5] rfl) rfl rfl (Nat.le_of_ble_eq_true rfl) dX9_init_53) (fun _ _ => ?_)
  refine j_astqO C hB ch_X6 1 5 3 [(h0, .inr (9, [.null, .null, .null, .int 0, .null, .null, .null])), (q0, .inl (ca 3, 6, .inr (.inr (.inr (.inr (va_up (va_up (va_up (va_up (fun _ => none) 0 (some q1)) 1 (some q2)) 2 (some q3)) 3 (some q4))))))), (q1, .inr (4, [.ref (sd 2)])), (q2, .inr (0, [.ref (sd 3)])), (q3, .inr (3, [.ref (sd 4)])), (q4, .inr (6, [.ref (sd 5)]))] dX9_init_56 rfl rfl rfl rfl (by unfold vp_in; decide) (by decide) rfl ?_
  refine j_dup C dX9_init_57 rfl ?_
  refine j_iconst C 4 dX9_init_58 (by decide) ?_
  refine j_new C hB nw_X9_29 (fun q5 => [(h0, .inr (9, [.null, .null, .null, .int 0, .null, .null, .null])), (q0, .inl (ca 3, 6, .inr (.inr (.inr (.inr (va_up (va_up (va_up (va_up (fun _ => none) 0 (some q1)) 1 (some q2)) 2 (some q3)) 3 (some q4))))))), (q1, .inr (4, [.ref (sd 2)])), (q2, .inr (0, [.ref (sd 3)])), (q3, .inr (3, [.ref (sd 4)])), (q4, .inr (6, [.ref (sd 5)])), (q5, .inr (1, [.null]))]) (by decide) (by decide) dX9_init_59 (fun _ => rfl) (fun q5 => ?_)
  refine j_dup C dX9_init_62 rfl ?_
  refine j_ldcS C 4 "bridge" dX9_init_63 (by decide) ?_
  refine j_cvT C hB 6 7 (fun _ : Unit => [(h0, .inr (9, [.null, .null, .null, .int 0, .null, .null, .null])), (q0, .inl (ca 3, 6, .inr (.inr (.inr (.inr (va_up (va_up (va_up (va_up (fun _ => none) 0 (some q1)) 1 (some q2)) 2 (some q3)) 3 (some q4))))))), (q1, .inr (4, [.ref (sd 2)])), (q2, .inr (0, [.ref (sd 3)])), (q3, .inr (3, [.ref (sd 4)])), (q4, .inr (6, [.ref (sd 5)])), (q5, .inr (1, [.ref (sd 6)]))]) rfl (fun _ => rfl) (jr_I C lkI_X9_33 (c_X1_init q5 1 (sd 6) fw_X4_7_1) ⟨rfl, rfl, by decide, by decide, by decide, by decide⟩ [6] (by decide) rfl (fx_rw C hB [6] rfl) rfl rfl (Nat.le_of_ble_eq_true rfl) dX9_init_65) (fun _ _ => ?_)
  refine j_astqO C hB ch_X1 1 6 4 [(h0, .inr (9, [.null, .null, .null, .int 0, .null, .null, .null])), (q0, .inl (ca 3, 6, .inr (.inr (.inr (.inr (va_up (va_up (va_up (va_up (va_up (fun _ => none) 0 (some q1)) 1 (some q2)) 2 (some q3)) 3 (some q4)) 4 (some q5))))))), (q1, .inr (4, [.ref (sd 2)])), (q2, .inr (0, [.ref (sd 3)])), (q3, .inr (3, [.ref (sd 4)])), (q4, .inr (6, [.ref (sd 5)])), (q5, .inr (1, [.ref (sd 6)]))] dX9_init_68 rfl rfl rfl rfl (by unfold vp_in; decide) (by decide) rfl ?_
  refine j_dup C dX9_init_69 rfl ?_
  refine j_iconst C 5 dX9_init_70 (by decide) ?_
  refine j_new C hB nw_X9_34 (fun q6 => [(h0, .inr (9, [.null, .null, .null, .int 0, .null, .null, .null])), (q0, .inl (ca 3, 6, .inr (.inr (.inr (.inr (va_up (va_up (va_up (va_up (va_up (fun _ => none) 0 (some q1)) 1 (some q2)) 2 (some q3)) 3 (some q4)) 4 (some q5))))))), (q1, .inr (4, [.ref (sd 2)])), (q2, .inr (0, [.ref (sd 3)])), (q3, .inr (3, [.ref (sd 4)])), (q4, .inr (6, [.ref (sd 5)])), (q5, .inr (1, [.ref (sd 6)])), (q6, .inr (5, [.null]))]) (by decide) (by decide) dX9_init_71 (fun _ => rfl) (fun q6 => ?_)
  refine j_dup C dX9_init_74 rfl ?_
  refine j_ldcS C 5 "letter" dX9_init_75 (by decide) ?_
  refine j_cvT C hB 7 8 (fun _ : Unit => [(h0, .inr (9, [.null, .null, .null, .int 0, .null, .null, .null])), (q0, .inl (ca 3, 6, .inr (.inr (.inr (.inr (va_up (va_up (va_up (va_up (va_up (fun _ => none) 0 (some q1)) 1 (some q2)) 2 (some q3)) 3 (some q4)) 4 (some q5))))))), (q1, .inr (4, [.ref (sd 2)])), (q2, .inr (0, [.ref (sd 3)])), (q3, .inr (3, [.ref (sd 4)])), (q4, .inr (6, [.ref (sd 5)])), (q5, .inr (1, [.ref (sd 6)])), (q6, .inr (5, [.ref (sd 7)]))]) rfl (fun _ => rfl) (jr_I C lkI_X9_38 (c_X5_init q6 5 (sd 7) fw_X4_7_5) ⟨rfl, rfl, by decide, by decide, by decide, by decide⟩ [7] (by decide) rfl (fx_rw C hB [7] rfl) rfl rfl (Nat.le_of_ble_eq_true rfl) dX9_init_77) (fun _ _ => ?_)
  refine j_astqO C hB ch_X5 1 7 5 [(h0, .inr (9, [.null, .null, .null, .int 0, .null, .null, .null])), (q0, .inl (ca 3, 6, .inr (.inr (.inr (.inr (va_up (va_up (va_up (va_up (va_up (va_up (fun _ => none) 0 (some q1)) 1 (some q2)) 2 (some q3)) 3 (some q4)) 4 (some q5)) 5 (some q6))))))), (q1, .inr (4, [.ref (sd 2)])), (q2, .inr (0, [.ref (sd 3)])), (q3, .inr (3, [.ref (sd 4)])), (q4, .inr (6, [.ref (sd 5)])), (q5, .inr (1, [.ref (sd 6)])), (q6, .inr (5, [.ref (sd 7)]))] dX9_init_80 rfl rfl rfl rfl (by unfold vp_in; decide) (by decide) rfl ?_
  refine j_wq 1 (fun j => some ([q0, q1, q2, q3, q4, q5, q6].getD (j + 1) 0)) _ rfl (fun j hj => ?_) rfl ?_
  · match j, hj with
    | 0, _ => rfl
    | 1, _ => rfl
    | 2, _ => rfl
    | 3, _ => rfl
    | 4, _ => rfl
    | 5, _ => rfl
    | j + 6, hj => exact absurd hj (by omega)
  refine j_widen (c1 := 7) (s1 := 12) (by decide) (by decide) ?_
  exact x9_b h0 (fun i => [q0, q1, q2, q3, q4, q5, q6].getD i 0) C hB (hI rfl) hR
