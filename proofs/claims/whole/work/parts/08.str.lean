theorem lkS_J0_1059 : LkS RJ0 1059 yJ3_checkIndex_8e157 cJ3_checkIndex_8e157 3 (some .int) 3 := ⟨(tb_t 598 (by decide +kernel) rfl), (tb_t 599 (by decide +kernel) rfl), (tb_t 18 (by decide +kernel) rfl), (tb_t 600 (by decide +kernel) rfl), by decide, by decide, by decide +kernel⟩
theorem lkS_J0_495 : LkS RJ0 495 yJ1_charAt_3b067 cJ1_charAt_3b067 2 (some .char) 2 := ⟨(tb_t 590 (by decide +kernel) rfl), (tb_t 591 (by decide +kernel) rfl), (tb_t 17 (by decide +kernel) rfl), (tb_t 592 (by decide +kernel) rfl), by decide, by decide, by decide +kernel⟩
theorem lkS_J1_9 : LkS RJ1 9 yJ0_checkIndex_df160 cJ0_checkIndex_df160 2 none 2 := ⟨(tb_t 593 (by decide +kernel) rfl), (tb_t 594 (by decide +kernel) rfl), (tb_t 16 (by decide +kernel) rfl), (tb_t 595 (by decide +kernel) rfl), by decide, by decide, by decide +kernel⟩
theorem lkV_J0_335 : LkV RJ0 335 RJ0 yJ0_coder_7d493 cJ0_coder_7d493 1 (some .byte) 0 := ⟨(tb_t 576 (by decide +kernel) rfl), (tb_t 577 (by decide +kernel) rfl), (tb_t 578 (by decide +kernel) rfl), (tb_t 16 (by decide +kernel) rfl), (tb_t 579 (by decide +kernel) rfl), rfl, by decide, by decide, by decide +kernel⟩
theorem lkV_J0_492 : LkV RJ0 492 RJ0 yJ0_isLatin1_aae02 cJ0_isLatin1_aae02 1 (some .boolean) 0 := ⟨(tb_t 586 (by decide +kernel) rfl), (tb_t 587 (by decide +kernel) rfl), (tb_t 588 (by decide +kernel) rfl), (tb_t 16 (by decide +kernel) rfl), (tb_t 589 (by decide +kernel) rfl), rfl, by decide, by decide, by decide +kernel⟩
theorem sl_J0_1053 : Cond.fieldLink RJ0 1053 "jdk/internal/util/Preconditions" "SIOOBE_FORMATTER" "Ljava/util/function/BiFunction;" ∈ TB := (tb_t 596 (by decide +kernel) rfl)
theorem sl_J0_15 : Cond.fieldLink RJ0 15 "java/lang/String" "coder" "B" ∈ TB := (tb_t 1145 (by decide +kernel) rfl)
theorem sl_J0_38 : Cond.fieldLink RJ0 38 "java/lang/String" "COMPACT_STRINGS" "Z" ∈ TB := (tb_t 580 (by decide +kernel) rfl)
theorem sl_J0_9 : Cond.fieldLink RJ0 9 "java/lang/String" "value" "[B" ∈ TB := (tb_t 1144 (by decide +kernel) rfl)
section Js
variable {l : Launch} {D : va_G} {ca : Nat → ClassId} {sd : Nat → Nat} {cc : ByteArray} {own : String} {ret : Option FieldType} {R0 : Room} {k : Kx} {nL cells slots pc : Nat} {ws : va_W} {lv : List (Nat × Value)} {st : List Value}
theorem j_sval (C : Cx D ca sd cc own ret R0 k nL) {index w : Nat} (hw : w < 10) (hlk : Cond.fieldLink own index "java/lang/String" "value" "[B" ∈ TB) (d : decode cc pc = .ok (.getfield index, 3)) (h : J l D k nL cells slots (pc + 3) ws lv (.ref (sd (12 + w)) :: st)) : J l D k nL cells slots (pc) ws lv (.ref (sd (2 + w)) :: st) := by
  obtain ⟨p, e, R, s, m, args, below, meth, c, Q, A, B⟩ := k
  obtain ⟨hx, hb, hr, hml, hown, hts, hlocks, hR0, hK, hG, hA⟩ := C
  have hE := hG.2.2.2.2.2.2.1
  intro H locs ls hP hD hS hl
  exact vk_getf hx hb (hE.1 w hw).2.2.1 hS hown (hts _ hlk) (fun _ z => z) d (h H locs ls hP hD hS hl)
theorem j_scod (C : Cx D ca sd cc own ret R0 k nL) {index w : Nat} (hw : w < 10) (hlk : Cond.fieldLink own index "java/lang/String" "coder" "B" ∈ TB) (d : decode cc pc = .ok (.getfield index, 3)) (h : J l D k nL cells slots (pc + 3) ws lv (.int 0 :: st)) : J l D k nL cells slots (pc) ws lv (.ref (sd (2 + w)) :: st) := by
  obtain ⟨p, e, R, s, m, args, below, meth, c, Q, A, B⟩ := k
  obtain ⟨hx, hb, hr, hml, hown, hts, hlocks, hR0, hK, hG, hA⟩ := C
  have hE := hG.2.2.2.2.2.2.1
  intro H locs ls hP hD hS hl
  exact vk_getf hx hb (hE.1 w hw).2.1 hS hown (hts _ hlk) (fun _ z => z) d (h H locs ls hP hD hS hl)
theorem j_slen (C : Cx D ca sd cc own ret R0 k nL) {w : Nat} (hw : w < 10) (d : decode cc pc = .ok (.arraylength, 1)) (h : J l D k nL cells slots (pc + 1) ws lv (.int (nI (lenS.getD w 0)) :: st)) : J l D k nL cells slots (pc) ws lv (.ref (sd (12 + w)) :: st) := by
  obtain ⟨p, e, R, s, m, args, below, meth, c, Q, A, B⟩ := k
  obtain ⟨hx, hb, hr, hml, hown, hts, hlocks, hR0, hK, hG, hA⟩ := C
  have hE := hG.2.2.2.2.2.2.1
  intro H locs ls hP hD hS hl
  exact va_tlen hx hb (hE.1 w hw).2.2.2 hS rfl d (h H locs ls hP hD hS hl)
theorem j_sbal (C : Cx D ca sd cc own ret R0 k nL) {w : Nat} {i : Int32} (hw : w < 10) (hi : vp_in i (lenS.getD w 0)) (d : decode cc pc = .ok (.baload, 1)) (h : J l D k nL cells slots (pc + 1) ws lv (.int ((bytS.getD w []).getD i.toNatClampNeg 0) :: st)) : J l D k nL cells slots (pc) ws lv (.int i :: .ref (sd (12 + w)) :: st) := by
  obtain ⟨p, e, R, s, m, args, below, meth, c, Q, A, B⟩ := k
  obtain ⟨hx, hb, hr, hml, hown, hts, hlocks, hR0, hK, hG, hA⟩ := C
  have hE := hG.2.2.2.2.2.2.1
  intro H locs ls hP hD hS hl
  exact va_tb hx hb (hE.1 w hw).2.2.2 hS hi rfl d (h H locs ls hP hD hS hl)
theorem j_comp (C : Cx D ca sd cc own ret R0 k nL) {index : Nat} (hlk : Cond.fieldLink own index "java/lang/String" "COMPACT_STRINGS" "Z" ∈ TB) (d : decode cc pc = .ok (.getstatic index, 3)) (h : J l D k nL cells slots (pc + 3) ws lv (.int 1 :: st)) : J l D k nL cells slots (pc) ws lv (st) := by
  obtain ⟨p, e, R, s, m, args, below, meth, c, Q, A, B⟩ := k
  obtain ⟨hx, hb, hr, hml, hown, hts, hlocks, hR0, hK, hG, hA⟩ := C
  have hE := hG.2.2.2.2.2.2.1
  intro H locs ls hP hD hS hl
  exact va_gets hx hb hG.2.2.2.2.1 hS hown (hts _ hlk) (fun _ z => z) d (h H locs ls hP hD hS hl)
theorem j_sio (C : Cx D ca sd cc own ret R0 k nL) {index : Nat} (hlk : Cond.fieldLink own index "jdk/internal/util/Preconditions" "SIOOBE_FORMATTER" "Ljava/util/function/BiFunction;" ∈ TB) (d : decode cc pc = .ok (.getstatic index, 3)) (h : ∀ v : Value, v.category = 1 → J l D k nL cells slots (pc + 3) ws lv (v :: st)) : J l D k nL cells slots (pc) ws lv (st) := by
  obtain ⟨p, e, R, s, m, args, below, meth, c, Q, A, B⟩ := k
  obtain ⟨hx, hb, hr, hml, hown, hts, hlocks, hR0, hK, hG, hA⟩ := C
  have hE := hG.2.2.2.2.2.2.1
  intro H locs ls hP hD hS hl
  rcases hG.2.2.2.2.2.1 with hZ | ⟨t, hZ⟩
  · exact va_gets hx hb hZ hS hown (hts _ hlk) (fun _ z => z) d (h .null rfl H locs ls hP hD hS hl)
  · exact va_gets hx hb hZ hS hown (hts _ hlk) (fun _ z => z) d (h (.ref t) rfl H locs ls hP hD hS hl)
/-- a call on a literal -/
theorem jr_VS (C : Cx D ca sd cc own ret R0 k nL) {index w maxL n : Nat} {y : MethodName} {cc1 : ByteArray} {ret1 : Option FieldType} {rm : Room} {Qc : (Nat → Prop) → Array Value → State → Outcome → State → Prop} {As st0 : List Value} (hw0 : w < 10) (lk : LkV own index "java/lang/String" y cc1 maxL ret1 n) (hM : Cn l D ca sd y cc1 maxL ret1 rm (.ref (sd (2 + w)) :: As) [] [] 0 0 Qc) (hrm : rm.cells = 0 ∧ rm.slots = 0 ∧ rm.frames + 1 ≤ R0.frames ∧ 8 + (maxL + 11) + rm.locals ≤ R0.locals ∧ cells + 0 ≤ R0.cells ∧ slots + 0 ≤ R0.slots) (hn : As.length = n) (hst : st0 = As.reverse ++ .ref (sd (2 + w)) :: st) (hw : (st.map fun v => v.category).sum ≤ 8) (d : decode cc pc = .ok (.invokevirtual index, 3)) : JR l D k nL cells slots pc ws lv st0 st [] 0 0 Qc (.ref (sd (2 + w)) :: As) := by
  have hF := fx_ro (ws := ws) C
  obtain ⟨p, e, R, s, m, args, below, meth, c, Q, A, B⟩ := k
  obtain ⟨hx, hb, hr, hml, hown, hts, hlocks, hR0, hK, hG, hA⟩ := C
  have hE := hG.2.2.2.2.2.2.1
  obtain ⟨l1, l2, l3, l4, l5, l6, l7, l8, l9⟩ := lk
  subst hR0
  intro H locs ls hP hD hS hl
  exact va_runV (Ts := TB) ⟨hx, hb, hml, hown, hts⟩ (hM H.size) (cwV n hts (tb_gi (tb_app (tb_cons l1 (tb_cons l2 (tb_cons l3 (tb_cons l4 tb_nil)))) (tb_cons l5 (fun _ h => h)))) rfl hrm.1 hrm.2.1 ⟨l6, l7, l8, l9⟩ ⟨hrm.2.2.1, hrm.2.2.2.1⟩) ⟨blind_pc, vk_recv (adK := fun i => sd (2 + i)) hE hw0 hS, pre_pc hP hD hS hK hG (hF H locs hD hS) [] rfl rfl _⟩ rfl hn hl.1 hst (lv_room hw) d ⟨hrm.2.2.2.2.1, hrm.2.2.2.2.2⟩
end Js
set_option maxRecDepth 100000 in
set_option maxHeartbeats 8000000 in
theorem c_J0coder {l : Launch} {D : va_G} {ca : Nat → ClassId} {sd : Nat → Nat} (w : Nat) (hw : w < 10) : Cn l D ca sd yJ0_coder_7d493 cJ0_coder_7d493 1 (some .byte) { frames := 0, cells := 0, slots := 0, locals := 0 } [.ref (sd (2 + w))] [] [] 0 0 (Ri D (fun (r : Int32) (_ : Unit) => r = 0) (fun _ => [])) := by
  refine cn_ofR (by decide) (Nat.le_of_ble_eq_true rfl) (fun k C hR => ?_)
  have C : Cx D ca sd cJ0_coder_7d493 RJ0 (some .byte) { frames := 0, cells := 0, slots := 0, locals := 0 } k 1 := C
  show J l D k 1 0 0 0 [] [(0, .ref (sd (2 + w)))] []
  refine j_comp C sl_J0_38 dJ0_coder_7d493_0 ?_
  refine j_if_eq C 13 dJ0_coder_7d493_3 (by decide) (fun z => absurd z (by decide)) (fun _ => ?_)
  refine j_aload_n C 0 dJ0_coder_7d493_6 rfl ?_
  refine j_scod C hw sl_J0_15 dJ0_coder_7d493_7 ?_
  refine j_goto C 14 dJ0_coder_7d493_10 (by decide) ?_
  exact j_zretR C hR (by decide) () rfl dJ0_coder_7d493_14 rfl
set_option maxRecDepth 100000 in
set_option maxHeartbeats 8000000 in
theorem c_J0lat {l : Launch} {D : va_G} {ca : Nat → ClassId} {sd : Nat → Nat} (w : Nat) (hw : w < 10) : Cn l D ca sd yJ0_isLatin1_aae02 cJ0_isLatin1_aae02 1 (some .boolean) { frames := 0, cells := 0, slots := 0, locals := 0 } [.ref (sd (2 + w))] [] [] 0 0 (Ri D (fun (r : Int32) (_ : Unit) => r = 1) (fun _ => [])) := by
  refine cn_ofR (by decide) (Nat.le_of_ble_eq_true rfl) (fun k C hR => ?_)
  have C : Cx D ca sd cJ0_isLatin1_aae02 RJ0 (some .boolean) { frames := 0, cells := 0, slots := 0, locals := 0 } k 1 := C
  show J l D k 1 0 0 0 [] [(0, .ref (sd (2 + w)))] []
  refine j_comp C sl_J0_38 dJ0_isLatin1_aae02_0 ?_
  refine j_if_eq C 17 dJ0_isLatin1_aae02_3 (by decide) (fun z => absurd z (by decide)) (fun _ => ?_)
  refine j_aload_n C 0 dJ0_isLatin1_aae02_6 rfl ?_
  refine j_scod C hw sl_J0_15 dJ0_isLatin1_aae02_7 ?_
  refine j_if_ne C 17 dJ0_isLatin1_aae02_10 (by decide) (fun z => absurd rfl z) (fun _ => ?_)
  refine j_iconst C 1 dJ0_isLatin1_aae02_13 (by decide) ?_
  refine j_goto C 18 dJ0_isLatin1_aae02_14 (by decide) ?_
  exact j_zretR C hR (by decide) () rfl dJ0_isLatin1_aae02_18 rfl
set_option maxRecDepth 100000 in
set_option maxHeartbeats 8000000 in
theorem c_J0length {l : Launch} {D : va_G} {ca : Nat → ClassId} {sd : Nat → Nat} (w : Nat) (hw : w < 10) : Cn l D ca sd yJ0_length_8abf5 cJ0_length_8abf5 1 (some .int) { frames := 1, cells := 0, slots := 0, locals := 20 } [.ref (sd (2 + w))] [] [] 0 0 (Ri D (fun (r : Int32) (_ : Unit) => r = nI (lenS.getD w 0)) (fun _ => [])) := by
  refine cn_ofR (by decide) (Nat.le_of_ble_eq_true rfl) (fun k C hR => ?_)
  have C : Cx D ca sd cJ0_length_8abf5 RJ0 (some .int) { frames := 1, cells := 0, slots := 0, locals := 20 } k 1 := C
  show J l D k 1 0 0 0 [] [(0, .ref (sd (2 + w)))] []
  refine j_aload_n C 0 dJ0_length_8abf5_0 rfl ?_
  refine j_sval C hw sl_J0_9 dJ0_length_8abf5_1 ?_
  refine j_slen C hw dJ0_length_8abf5_4 ?_
  refine j_aload_n C 0 dJ0_length_8abf5_5 rfl ?_
  refine j_ciZ C (jr_VS C hw lkV_J0_335 (c_J0coder w hw) ⟨rfl, rfl, by decide, by decide, by decide, by decide⟩ rfl rfl (Nat.le_of_ble_eq_true rfl) dJ0_length_8abf5_6) (fun r1 u1 h1 => ?_)
  refine j_ishr C dJ0_length_8abf5_9 ?_
  refine j_iretR C hR () rfl dJ0_length_8abf5_10 ?_
  show nI (lenS.getD w 0) >>> (r1 &&& 31) = nI (lenS.getD w 0)
  rw [h1]
  exact sb_shr0 _
set_option maxRecDepth 100000 in
set_option maxHeartbeats 8000000 in
theorem c_J3ck {l : Launch} {D : va_G} {ca : Nat → ClassId} {sd : Nat → Nat} (i n : Int32) (v : Value) (hv : v.category = 1) (h1 : ¬ i < 0) (h2 : i < n) : Cn l D ca sd yJ3_checkIndex_8e157 cJ3_checkIndex_8e157 3 (some .int) { frames := 0, cells := 0, slots := 0, locals := 0 } [.int i, .int n, v] [] [] 0 0 (Ri D (fun (r : Int32) (_ : Unit) => True) (fun _ => [])) := by
  refine cn_ofR (by decide) (by rw [show lg_sl [Value.int i, Value.int n, v] = [Slot.val (.int i)] ++ ([Slot.val (.int n)] ++ ((if v.category = 2 then [Slot.val v, Slot.second] else [Slot.val v]) ++ [])) from rfl, hv]; exact Nat.le_of_ble_eq_true rfl) (fun k C hR => ?_)
  have C : Cx D ca sd cJ3_checkIndex_8e157 RJ3 (some .int) { frames := 0, cells := 0, slots := 0, locals := 0 } k 3 := C
  show J l D k 3 0 0 0 [] [(0, .int i), (1, .int n), (2, v)] []
  refine j_iload_n C 0 dJ3_checkIndex_8e157_0 rfl ?_
  refine j_if_lt C 9 dJ3_checkIndex_8e157_1 (by decide) (fun z => absurd z h1) (fun _ => ?_)
  refine j_iload_n C 0 dJ3_checkIndex_8e157_4 rfl ?_
  refine j_iload_n C 1 dJ3_checkIndex_8e157_5 rfl ?_
  refine j_icmp_lt C 16 dJ3_checkIndex_8e157_6 (by decide) (fun _ => ?_) (fun z => absurd h2 z)
  refine j_iload_n C 0 dJ3_checkIndex_8e157_16 rfl ?_
  exact j_iretR C hR () rfl dJ3_checkIndex_8e157_17 trivial
set_option maxRecDepth 100000 in
set_option maxHeartbeats 8000000 in
theorem c_J0ck {l : Launch} {D : va_G} {ca : Nat → ClassId} {sd : Nat → Nat} (i n : Int32) (h1 : ¬ i < 0) (h2 : i < n) : Cn l D ca sd yJ0_checkIndex_df160 cJ0_checkIndex_df160 2 none { frames := 1, cells := 0, slots := 0, locals := 22 } [.int i, .int n] [] [] 0 0 (Rv D (fun (_ : Unit) => True) (fun _ => [])) := by
  refine cn_ofR (by decide) (Nat.le_of_ble_eq_true rfl) (fun k C hR => ?_)
  have C : Cx D ca sd cJ0_checkIndex_df160 RJ0 none { frames := 1, cells := 0, slots := 0, locals := 22 } k 2 := C
  show J l D k 2 0 0 0 [] [(0, .int i), (1, .int n)] []
  refine j_iload_n C 0 dJ0_checkIndex_df160_0 rfl ?_
  refine j_iload_n C 1 dJ0_checkIndex_df160_1 rfl ?_
  refine j_sio C sl_J0_1053 dJ0_checkIndex_df160_2 (fun v hv => ?_)
  refine j_ciZ C (jr_S C lkS_J0_1059 (c_J3ck i n v hv h1 h2) ⟨rfl, rfl, by decide, by decide, by decide, by decide⟩ [] rfl rfl (fx_ro C) rfl rfl (Nat.le_of_ble_eq_true rfl) dJ0_checkIndex_df160_5) (fun r1 u1 _ => ?_)
  refine j_pop C dJ0_checkIndex_df160_8 rfl ?_
  exact j_vretR C hR () rfl dJ0_checkIndex_df160_9 trivial
set_option maxRecDepth 100000 in
set_option maxHeartbeats 8000000 in
theorem c_J1charAt {l : Launch} {D : va_G} {ca : Nat → ClassId} {sd : Nat → Nat} (w : Nat) (i : Int32) (hw : w < 10) (hi : vp_in i (lenS.getD w 0)) : Cn l D ca sd yJ1_charAt_3b067 cJ1_charAt_3b067 2 (some .char) { frames := 2, cells := 0, slots := 0, locals := 43 } [.ref (sd (12 + w)), .int i] [] [] 0 0 (Ri D (fun (r : Int32) (_ : Unit) => r = (bytS.getD w []).getD i.toNatClampNeg 0 &&& 255) (fun _ => [])) := by
  refine cn_ofR (by decide) (Nat.le_of_ble_eq_true rfl) (fun k C hR => ?_)
  have C : Cx D ca sd cJ1_charAt_3b067 RJ1 (some .char) { frames := 2, cells := 0, slots := 0, locals := 43 } k 2 := C
  show J l D k 2 0 0 0 [] [(0, .ref (sd (12 + w))), (1, .int i)] []
  have h1 : ¬ i < 0 := fun z => hi (Or.inl z)
  have hL : lenS.getD w 0 < 2 ^ 31 := by
    have : ∀ w, w < 10 → lenS.getD w 0 < 2 ^ 31 := by decide +kernel
    exact this w hw
  have h2 : i < nI (lenS.getD w 0) := by
    obtain ⟨j, hj, rfl⟩ := vp_in_of hi hL
    exact nI_lt hj hL
  refine j_iload_n C 1 dJ1_charAt_3b067_0 rfl ?_
  refine j_aload_n C 0 dJ1_charAt_3b067_1 rfl ?_
  refine j_slen C hw dJ1_charAt_3b067_2 ?_
  refine j_cvZ C (jr_S C lkS_J1_9 (c_J0ck i (nI (lenS.getD w 0)) h1 h2) ⟨rfl, rfl, by decide, by decide, by decide, by decide⟩ [] rfl rfl (fx_ro C) rfl rfl (Nat.le_of_ble_eq_true rfl) dJ1_charAt_3b067_3) (fun u1 _ => ?_)
  refine j_aload_n C 0 dJ1_charAt_3b067_6 rfl ?_
  refine j_iload_n C 1 dJ1_charAt_3b067_7 rfl ?_
  refine j_sbal C hw hi dJ1_charAt_3b067_8 ?_
  refine j_sipush C 255 dJ1_charAt_3b067_9 (by decide) ?_
  refine j_iand C dJ1_charAt_3b067_12 ?_
  refine j_i2c C dJ1_charAt_3b067_13 ?_
  exact j_zretR C hR (pk_nc _) () rfl dJ1_charAt_3b067_14 (sc_c2 _)
set_option maxRecDepth 100000 in
set_option maxHeartbeats 8000000 in
theorem c_J0charAt {l : Launch} {D : va_G} {ca : Nat → ClassId} {sd : Nat → Nat} (w : Nat) (i : Int32) (hw : w < 10) (hi : vp_in i (lenS.getD w 0)) : Cn l D ca sd yJ0_charAt_5068e cJ0_charAt_5068e 2 (some .char) { frames := 3, cells := 0, slots := 0, locals := 64 } [.ref (sd (2 + w)), .int i] [] [] 0 0 (Ri D (fun (r : Int32) (_ : Unit) => r = (bytS.getD w []).getD i.toNatClampNeg 0 &&& 255) (fun _ => [])) := by
  refine cn_ofR (by decide) (Nat.le_of_ble_eq_true rfl) (fun k C hR => ?_)
  have C : Cx D ca sd cJ0_charAt_5068e RJ0 (some .char) { frames := 3, cells := 0, slots := 0, locals := 64 } k 2 := C
  show J l D k 2 0 0 0 [] [(0, .ref (sd (2 + w))), (1, .int i)] []
  refine j_aload_n C 0 dJ0_charAt_5068e_0 rfl ?_
  refine j_ciZ C (jr_VS C hw lkV_J0_492 (c_J0lat w hw) ⟨rfl, rfl, by decide, by decide, by decide, by decide⟩ rfl rfl (Nat.le_of_ble_eq_true rfl) dJ0_charAt_5068e_1) (fun r1 u1 h1 => ?_)
  refine j_if_eq C 16 dJ0_charAt_5068e_4 (by decide) (fun z => absurd (h1.symm.trans z) (by decide)) (fun _ => ?_)
  refine j_aload_n C 0 dJ0_charAt_5068e_7 rfl ?_
  refine j_sval C hw sl_J0_9 dJ0_charAt_5068e_8 ?_
  refine j_iload_n C 1 dJ0_charAt_5068e_11 rfl ?_
  refine j_ciZ C (jr_S C lkS_J0_495 (c_J1charAt w i hw hi) ⟨rfl, rfl, by decide, by decide, by decide, by decide⟩ [] rfl rfl (fx_ro C) rfl rfl (Nat.le_of_ble_eq_true rfl) dJ0_charAt_5068e_12) (fun r2 u2 h2 => ?_)
  exact j_zretR C hR (by rw [h2]; exact sc_nar _) () rfl dJ0_charAt_5068e_15 h2
section Jt
variable {l : Launch} {D : va_G} {ca : Nat → ClassId} {sd : Nat → Nat} {cc : ByteArray} {own : String} {ret : Option FieldType} {R0 : Room} {k : Kx} {nL cells slots pc : Nat} {ws : va_W} {lv : List (Nat × Value)} {st : List Value}
theorem j_strlen (C : Cx D ca sd cc own ret R0 k nL) {index : Nat} (lk : LkV own index "java/lang/String" yJ0_length_8abf5 cJ0_length_8abf5 1 (some .int) 0) (w : Nat) (hw : w < 10) (hf : 2 ≤ R0.frames ∧ 40 ≤ R0.locals ∧ cells ≤ R0.cells ∧ slots ≤ R0.slots) (hst : (st.map fun v => v.category).sum ≤ 8) (d : decode cc pc = .ok (.invokevirtual index, 3)) (h : J l D k nL cells slots (pc + 3) ws lv (.int (nI (lenS.getD w 0)) :: st)) : J l D k nL cells slots (pc) ws lv (.ref (sd (2 + w)) :: st) := by
  refine j_ciZ C (jr_VS C hw lk (c_J0length w hw) ⟨rfl, rfl, Nat.le_trans (by decide) hf.1, Nat.le_trans (by decide) hf.2.1, hf.2.2.1, hf.2.2.2⟩ rfl rfl hst d) (fun r1 u1 h1 => ?_)
  subst h1
  exact h
theorem j_strat (C : Cx D ca sd cc own ret R0 k nL) {index : Nat} {i : Int32} (lk : LkV own index "java/lang/String" yJ0_charAt_5068e cJ0_charAt_5068e 2 (some .char) 1) (w : Nat) (hw : w < 10) (hi : vp_in i (lenS.getD w 0)) (hf : 4 ≤ R0.frames ∧ 85 ≤ R0.locals ∧ cells ≤ R0.cells ∧ slots ≤ R0.slots) (hst : (st.map fun v => v.category).sum ≤ 8) (d : decode cc pc = .ok (.invokevirtual index, 3)) (h : J l D k nL cells slots (pc + 3) ws lv (.int ((bytS.getD w []).getD i.toNatClampNeg 0 &&& 255) :: st)) : J l D k nL cells slots (pc) ws lv (.int i :: .ref (sd (2 + w)) :: st) := by
  refine j_ciZ C (jr_VS C hw lk (c_J0charAt w i hw hi) ⟨rfl, rfl, Nat.le_trans (by decide) hf.1, Nat.le_trans (by decide) hf.2.1, hf.2.2.1, hf.2.2.2⟩ rfl rfl hst d) (fun r1 u1 h1 => ?_)
  subst h1
  exact h
end Jt

