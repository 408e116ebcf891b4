theorem ct_X10_214 : Cond.constant RX10 214 (-1000000007) ∈ TB := (tb_t 1070 (by decide +kernel) rfl)
theorem fl_X10_13_10 : FL RX10 13 10 1 := ⟨RX10, TX10, 15, rfl, by decide, uw_X10, (tb_t 732 (by decide +kernel) rfl)⟩
theorem fl_X10_233_10 : FL RX10 233 10 3 := ⟨RX10, TX10, 15, rfl, by decide, uw_X10, (tb_t 734 (by decide +kernel) rfl)⟩
theorem fw_X10_157_10 : FW RX10 157 10 6 false .int := ⟨RX10, TX10, 15, tyX10, rfl, by decide, uw_X10, (tb_t 737 (by decide +kernel) rfl), tyX10_ok, nmX10, rfl, by decide +kernel, fun h => by cases h⟩
theorem fw_X10_233_10 : FW RX10 233 10 3 false .boolean := ⟨RX10, TX10, 15, tyX10, rfl, by decide, uw_X10, (tb_t 734 (by decide +kernel) rfl), tyX10_ok, nmX10, rfl, by decide +kernel, fun h => by cases h⟩
theorem lkS_X10_219 : LkS RX10 219 yX10_cutTo cX10_cutTo 3 (some .long) 2 := ⟨(tb_t 1080 (by decide +kernel) rfl), (tb_t 1081 (by decide +kernel) rfl), (tb_t 12 (by decide +kernel) rfl), (tb_t 1082 (by decide +kernel) rfl), by decide, by decide, by decide +kernel⟩
theorem lkV_X10_208 : LkV RX10 208 RX10 yX10_item cX10_item 1 none 0 := ⟨(tb_t 1039 (by decide +kernel) rfl), (tb_t 1041 (by decide +kernel) rfl), (tb_in 38 (by decide +kernel) rfl), (tb_t 12 (by decide +kernel) rfl), (tb_t 1042 (by decide +kernel) rfl), rfl, by decide, by decide, by decide +kernel⟩
theorem lkV_X10_223 : LkV RX10 223 RX10 yX10_notCopied cX10_notCopied 7 (some .int) 5 := ⟨(tb_t 1087 (by decide +kernel) rfl), (tb_t 1089 (by decide +kernel) rfl), (tb_in 45 (by decide +kernel) rfl), (tb_t 12 (by decide +kernel) rfl), (tb_t 1090 (by decide +kernel) rfl), rfl, by decide, by decide, by decide +kernel⟩
theorem lkV_X10_227 : LkV RX10 227 RX10 yX10_notAsked cX10_notAsked 4 (some .int) 2 := ⟨(tb_t 1099 (by decide +kernel) rfl), (tb_t 1101 (by decide +kernel) rfl), (tb_in 46 (by decide +kernel) rfl), (tb_t 12 (by decide +kernel) rfl), (tb_t 1102 (by decide +kernel) rfl), rfl, by decide, by decide, by decide +kernel⟩
theorem lkV_X10_230 : LkV RX10 230 RX10 yX10_isBook cX10_isBook 5 (some .boolean) 2 := ⟨(tb_t 1107 (by decide +kernel) rfl), (tb_t 1109 (by decide +kernel) rfl), (tb_in 47 (by decide +kernel) rfl), (tb_t 12 (by decide +kernel) rfl), (tb_t 1110 (by decide +kernel) rfl), rfl, by decide, by decide, by decide +kernel⟩
theorem lkV_X10_236 : LkV RX10 236 RX10 yX10_howMany cX10_howMany 3 (some .int) 0 := ⟨(tb_t 1127 (by decide +kernel) rfl), (tb_t 1129 (by decide +kernel) rfl), (tb_in 48 (by decide +kernel) rfl), (tb_t 12 (by decide +kernel) rfl), (tb_t 1130 (by decide +kernel) rfl), rfl, by decide, by decide, by decide +kernel⟩
def wpl_X10_feed_39 (x1 : Int32) (K : (Int32) → (Nat → Int32) → (Int32) → Prop) : Nat → (Int32) → (Nat → Int32) → (Int32) → Prop
  | 0, _, _, _ => False
  | n + 1, x3, ta, td => (x3 < 0 → K x3 ta td) ∧ (¬ (x3 < 0) → vp_in td 120 ∧ (wpl_X10_feed_39 x1  K n (x3 + (-1)) (upd ta (td.toNatClampNeg) ((x1 >>> ((8 * x3) &&& 31)) &&& 255)) (td + 1)))
def wp_X10_feed (fo : Nat → Int32) (ta : Nat → Int32) (td : Int32)  (a1 : Int32) (a2 : Int32) (Q : (Int32) → (Nat → Int32) → (Nat → Int32) → (Int32) → Prop) : Prop := wp_X10_in ((a2).toInt64) 1 4 (fun r1 => (r1 = 0 → wp_X10_finds fo (-1000000001) (fun r5 c5_0 => Q r5 c5_0 ta td)) ∧ (¬ (r1 = 0) → ((td + a2) ≤ 120 → ∃ n3 : Nat, wpl_X10_feed_39 a1  (fun y3_3 y3_ta y3_td => Q y3_td fo y3_ta y3_td) n3 (a2 - 1) ta td) ∧ (¬ ((td + a2) ≤ 120) → wp_X10_finds fo (-1000000002) (fun r4 c4_0 => Q r4 c4_0 ta td))))
set_option maxRecDepth 100000 in
set_option maxHeartbeats 8000000 in
theorem ml_X10_feed_39 {l : Launch} {D : va_G} {ca : Nat → ClassId} {sd : Nat → Nat}  {k : Kx} (am : Nat → Nat)  (m : Nat → Int32) (kp : Nat → Int32) (wa : Nat → Int32) (fo : Nat → Int32) (bo : Nat → Int32) (so : Nat → Int32) (ce : Nat → Int64) (ik : Int32) (tk : Int32) (bg : Int32) (aa : Int32) (vl : Int32) (bd : Int32) (x1 : Int32) (x2 : Int32) (C : Cx D ca sd cX10_feed RX10 (some .int) { frames := 1, cells := 0, slots := 0, locals := 23 } k 4) {Q : (Int32) → (Nat → Int32) → (Nat → Int32) → (Int32) → Prop} (hR : Rx (Ri D (fun (r : Int32) (u : (Nat → Int32) × (Nat → Int32) × (Int32)) => Q r u.1 u.2.1 u.2.2) (fun u => (wM ca am m kp wa u.1 u.2.1 bo so ce ik u.2.2 tk bg aa vl bd))) 0 0 k) (hB : Wx k) {K : (Int32) → (Nat → Int32) → (Int32) → Prop} (hK : ∀ (x3' : Int32) (ta' : Nat → Int32) (td' : Int32), K x3' ta' td' → J l D k 4 0 0 78 (wM ca am m kp wa fo ta' bo so ce ik td' tk bg aa vl bd) [(0, .ref (am 0)), (1, .int x1), (2, .int x2), (3, .int x3')] []) : ∀ (n : Nat) (x3 : Int32) (ta : Nat → Int32) (td : Int32), wpl_X10_feed_39 x1  K n x3 ta td → J l D k 4 0 0 39 (wM ca am m kp wa fo ta bo so ce ik td tk bg aa vl bd) [(0, .ref (am 0)), (1, .int x1), (2, .int x2), (3, .int x3)] [] := by
  intro n
  induction n with
  | zero =>
    intro x3 ta td hw
    rw [wpl_X10_feed_39] at hw
    exact hw.elim
  | succ n ih =>
    intro x3 ta td hw
    rw [wpl_X10_feed_39] at hw
    refine j_iload_n C 3 dX10_feed_39 rfl ?_
    refine j_if_lt C 78 dX10_feed_40 (by decide) (fun z => ?_) (fun z => ?_)
    · replace hw := hw.1 z
      exact hK x3 ta td hw
    · replace hw := hw.2 z
      refine j_aload_n C 0 dX10_feed_43 rfl ?_
      refine j_get C fl_X10_22_10 0 dX10_feed_44 rfl rfl ?_
      refine j_aload_n C 0 dX10_feed_47 rfl ?_
      refine j_get C fl_X10_157_10 0 dX10_feed_48 rfl rfl ?_
      refine j_iload_n C 1 dX10_feed_51 rfl ?_
      refine j_bipush C 8 dX10_feed_52 (by decide) ?_
      refine j_iload_n C 3 dX10_feed_54 rfl ?_
      refine j_imul C dX10_feed_55 ?_
      refine j_ishr C dX10_feed_56 ?_
      refine j_sipush C 255 dX10_feed_57 (by decide) ?_
      refine j_iand C dX10_feed_60 ?_
      have hi2 := hw.1
      replace hw := hw.2
      refine j_iast C hB 5 (wM ca am m kp wa fo (upd ta (td.toNatClampNeg) ((x1 >>> ((8 * x3) &&& 31)) &&& 255)) bo so ce ik td tk bg aa vl bd) dX10_feed_61 rfl hi2 rfl ?_
      refine j_aload_n C 0 dX10_feed_62 rfl ?_
      refine j_dup C dX10_feed_63 rfl ?_
      refine j_get C fl_X10_157_10 0 dX10_feed_64 rfl rfl ?_
      refine j_iconst C 1 dX10_feed_67 (by decide) ?_
      refine j_iadd C dX10_feed_68 ?_
      refine j_put C hB fw_X10_157_10 0 (wM ca am m kp wa fo (upd ta (td.toNatClampNeg) ((x1 >>> ((8 * x3) &&& 31)) &&& 255)) bo so ce ik (td + 1) tk bg aa vl bd) dX10_feed_69 rfl rfl rfl (Nat.le_of_ble_eq_true rfl) rfl ?_
      refine j_iinc C 3 (x3 + (-1)) [(3, .int (x3 + (-1))), (0, .ref (am 0)), (1, .int x1), (2, .int x2)] dX10_feed_72 rfl rfl (by decide) rfl ?_
      refine j_goto C 39 dX10_feed_75 (by decide) ?_
      refine j_lsub [1, 2, 3, 0] [(0, .ref (am 0)), (1, .int x1), (2, .int x2), (3, .int (x3 + (-1)))] rfl ?_
      exact ih (x3 + (-1)) (upd ta (td.toNatClampNeg) ((x1 >>> ((8 * x3) &&& 31)) &&& 255)) (td + 1) hw
set_option maxRecDepth 100000 in
set_option maxHeartbeats 8000000 in
theorem c_X10_feed {l : Launch} {D : va_G} {ca : Nat → ClassId} {sd : Nat → Nat}  (am : Nat → Nat) (m : Nat → Int32) (kp : Nat → Int32) (wa : Nat → Int32) (fo : Nat → Int32) (ta : Nat → Int32) (bo : Nat → Int32) (so : Nat → Int32) (ce : Nat → Int64) (ik : Int32) (td : Int32) (tk : Int32) (bg : Int32) (aa : Int32) (vl : Int32) (bd : Int32)  (a1 : Int32) (a2 : Int32)  {Q : (Int32) → (Nat → Int32) → (Nat → Int32) → (Int32) → Prop} (hw : wp_X10_feed fo ta td  a1 a2 Q) : Cn l D ca sd yX10_feed cX10_feed 4 (some .int) { frames := 1, cells := 0, slots := 0, locals := 23 } [.ref (am 0), .int a1, .int a2] (wM ca am m kp wa fo ta bo so ce ik td tk bg aa vl bd) (wM ca am m kp wa fo ta bo so ce ik td tk bg aa vl bd) 0 0 (Ri D (fun (r : Int32) (u : (Nat → Int32) × (Nat → Int32) × (Int32)) => Q r u.1 u.2.1 u.2.2) (fun u => (wM ca am m kp wa u.1 u.2.1 bo so ce ik u.2.2 tk bg aa vl bd))) := by
  refine cn_of (by decide) (Nat.le_of_ble_eq_true rfl) (fun k C hR hB _ => ?_)
  have C : Cx D ca sd cX10_feed RX10 (some .int) { frames := 1, cells := 0, slots := 0, locals := 23 } k 4 := C
  unfold wp_X10_feed at hw
  show J l D k 4 0 0 0 (wM ca am m kp wa fo ta bo so ce ik td tk bg aa vl bd) [(0, .ref (am 0)), (1, .int a1), (2, .int a2)] []
  refine j_iload_n C 2 dX10_feed_0 rfl ?_
  refine j_i2l C dX10_feed_1 ?_
  refine j_iconst C 1 dX10_feed_2 (by decide) ?_
  refine j_iconst C 4 dX10_feed_3 (by decide) ?_
  refine j_ciZ C (jr_S C lkS_X10_41 (c_X10_in ((a2).toInt64) 1 4 hw) ⟨rfl, rfl, by decide, by decide, by decide, by decide⟩ [] (by decide) rfl (fx_ro C) rfl rfl (Nat.le_of_ble_eq_true rfl) dX10_feed_4) (fun r1 u1 hw => ?_)
  refine j_if_ne C 17 dX10_feed_7 (by decide) (fun z => ?_) (fun z => ?_)
  · replace hw := hw.2 z
    refine j_aload_n C 0 dX10_feed_17 rfl ?_
    refine j_get C fl_X10_157_10 0 dX10_feed_18 rfl rfl ?_
    refine j_iload_n C 2 dX10_feed_21 rfl ?_
    refine j_iadd C dX10_feed_22 ?_
    refine j_bipush C 120 dX10_feed_23 (by decide) ?_
    refine j_icmp_le C 35 dX10_feed_25 (by decide) (fun z => ?_) (fun z => ?_)
    · replace hw := hw.1 z
      refine j_iload_n C 2 dX10_feed_35 rfl ?_
      refine j_iconst C 1 dX10_feed_36 (by decide) ?_
      refine j_isub C dX10_feed_37 ?_
      refine j_istore_n C [(3, .int (a2 - 1)), (0, .ref (am 0)), (1, .int a1), (2, .int a2)] dX10_feed_38 (by decide) rfl ?_
      refine j_lsub [1, 2, 3, 0] [(0, .ref (am 0)), (1, .int a1), (2, .int a2), (3, .int (a2 - 1))] rfl ?_
      obtain ⟨n3, hw⟩ := hw
      refine ml_X10_feed_39 am  m kp wa fo bo so ce ik tk bg aa vl bd a1 a2 C hR hB (fun y3_3 y3_ta y3_td hw => ?_) n3 (a2 - 1) ta td hw
      refine j_aload_n C 0 dX10_feed_78 rfl ?_
      refine j_get C fl_X10_157_10 0 dX10_feed_79 rfl rfl ?_
      exact j_iret C hB hR (fo, y3_ta, y3_td) rfl dX10_feed_82 hw rfl
    · replace hw := hw.2 z
      refine j_aload_n C 0 dX10_feed_28 rfl ?_
      refine j_ldc C dX10_feed_29 ct_X10_76 ?_
      refine j_ciT C hB 0 9 (fun u4 : (Nat → Int32) => (wM ca am m kp wa u4 ta bo so ce ik td tk bg aa vl bd)) rfl (fun _ => rfl) (jr_V C lkV_X10_37 (c_X10_finds am m kp wa fo ta bo so ce ik td tk bg aa vl bd (-1000000002) hw) ⟨rfl, rfl, by decide, by decide, by decide, by decide⟩ [0, 1, 2, 3, 4, 5, 6, 7, 8] (by decide) rfl (fx_rw C hB [0, 1, 2, 3, 4, 5, 6, 7, 8] rfl) 0 10 rfl rfl rfl rfl (Nat.le_of_ble_eq_true rfl) dX10_feed_31) (fun r4 u4 hw => ?_)
      exact j_iret C hB hR (u4, ta, td) rfl dX10_feed_34 hw rfl
  · replace hw := hw.1 z
    refine j_aload_n C 0 dX10_feed_10 rfl ?_
    refine j_ldc C dX10_feed_11 ct_X10_35 ?_
    refine j_ciT C hB 0 9 (fun u5 : (Nat → Int32) => (wM ca am m kp wa u5 ta bo so ce ik td tk bg aa vl bd)) rfl (fun _ => rfl) (jr_V C lkV_X10_37 (c_X10_finds am m kp wa fo ta bo so ce ik td tk bg aa vl bd (-1000000001) hw) ⟨rfl, rfl, by decide, by decide, by decide, by decide⟩ [0, 1, 2, 3, 4, 5, 6, 7, 8] (by decide) rfl (fx_rw C hB [0, 1, 2, 3, 4, 5, 6, 7, 8] rfl) 0 10 rfl rfl rfl rfl (Nat.le_of_ble_eq_true rfl) dX10_feed_13) (fun r5 u5 hw => ?_)
    exact j_iret C hB hR (u5, ta, td) rfl dX10_feed_16 hw rfl
def wp_X10_wipe (td : Int32)   (Q : (Int32) → (Int32) → Prop) : Prop := Q td 0
set_option maxRecDepth 100000 in
set_option maxHeartbeats 8000000 in
theorem c_X10_wipe {l : Launch} {D : va_G} {ca : Nat → ClassId} {sd : Nat → Nat}  (am : Nat → Nat) (m : Nat → Int32) (kp : Nat → Int32) (wa : Nat → Int32) (fo : Nat → Int32) (ta : Nat → Int32) (bo : Nat → Int32) (so : Nat → Int32) (ce : Nat → Int64) (ik : Int32) (td : Int32) (tk : Int32) (bg : Int32) (aa : Int32) (vl : Int32) (bd : Int32)    {Q : (Int32) → (Int32) → Prop} (hw : wp_X10_wipe td   Q) : Cn l D ca sd yX10_wipe cX10_wipe 2 (some .int) { frames := 0, cells := 0, slots := 0, locals := 0 } [.ref (am 0)] (wM ca am m kp wa fo ta bo so ce ik td tk bg aa vl bd) (wM ca am m kp wa fo ta bo so ce ik td tk bg aa vl bd) 0 0 (Ri D (fun (r : Int32) (u : (Int32)) => Q r u) (fun u => (wM ca am m kp wa fo ta bo so ce ik u tk bg aa vl bd))) := by
  refine cn_of (by decide) (Nat.le_of_ble_eq_true rfl) (fun k C hR hB _ => ?_)
  have C : Cx D ca sd cX10_wipe RX10 (some .int) { frames := 0, cells := 0, slots := 0, locals := 0 } k 2 := C
  unfold wp_X10_wipe at hw
  show J l D k 2 0 0 0 (wM ca am m kp wa fo ta bo so ce ik td tk bg aa vl bd) [(0, .ref (am 0))] []
  refine j_aload_n C 0 dX10_wipe_0 rfl ?_
  refine j_get C fl_X10_157_10 0 dX10_wipe_1 rfl rfl ?_
  refine j_istore_n C [(1, .int td), (0, .ref (am 0))] dX10_wipe_4 (by decide) rfl ?_
  refine j_aload_n C 1 dX10_wipe_5 rfl ?_
  refine j_iconst C 0 dX10_wipe_6 (by decide) ?_
  refine j_put C hB fw_X10_157_10 0 (wM ca am m kp wa fo ta bo so ce ik 0 tk bg aa vl bd) dX10_wipe_7 rfl rfl rfl (Nat.le_of_ble_eq_true rfl) rfl ?_
  refine j_iload_n C 0 dX10_wipe_10 rfl ?_
  exact j_iret C hB hR 0 rfl dX10_wipe_11 hw rfl
def wpl_X10_common_24 (ta : Nat → Int32) (td : Int32) (K : (Int32) → (Nat → Int32) → (Int32) → (Int32) → (Int32) → (Int32) → (Int32) → Prop) : Nat → (Int32) → (Nat → Int32) → (Int32) → (Int32) → (Int32) → (Int32) → (Int32) → Prop
  | 0, _, _, _, _, _, _, _ => False
  | n + 1, x1, m, tk, bg, aa, vl, bd => wp_X10_passes ta td tk bg aa vl bd 21 (fun r4 c4_0 c4_1 c4_2 c4_3 => (r4 = 0 → K x1 m c4_0 c4_1 c4_2 c4_3 bd) ∧ (¬ (r4 = 0) → wp_X10_item m ta td c4_0 c4_1 c4_2 c4_3 bd (fun c5_0 c5_1 c5_2 c5_3 c5_4 c5_5 => wpl_X10_common_24 ta td  K n (x1 + 1) c5_0 c5_1 c5_2 c5_3 c5_4 c5_5)))
def wp_X10_common (m : Nat → Int32) (wa : Nat → Int32) (ta : Nat → Int32) (td : Int32)   (Q : (Int32) → (Nat → Int32) → (Nat → Int32) → (Int32) → (Int32) → (Int32) → (Int32) → (Int32) → (Int32) → Prop) : Prop := wp_X10_thinks m wa (fun c1_0 => wp_X10_reads ta td 0 (fun c2_0 c2_1 c2_2 c2_3 => wp_X10_item m ta td c2_0 c2_1 c2_2 c2_3 0 (fun c3_0 c3_1 c3_2 c3_3 c3_4 c3_5 => ∃ n6 : Nat, wpl_X10_common_24 ta td  (fun y6_1 y6_m y6_tk y6_bg y6_aa y6_vl y6_bd => (y6_bd = 0 → (y6_tk = 22 → Q y6_1 y6_m c1_0 0 y6_tk y6_bg y6_aa y6_vl 0) ∧ (¬ (y6_tk = 22) → wp_X10_putsBack y6_m c1_0 (fun c8_0 => Q ((-1) - y6_bg) c8_0 c1_0 0 y6_tk y6_bg y6_aa y6_vl 1))) ∧ (¬ (y6_bd = 0) → wp_X10_putsBack y6_m c1_0 (fun c7_0 => Q ((-1) - y6_bg) c7_0 c1_0 0 y6_tk y6_bg y6_aa y6_vl 1))) n6 1 c3_0 c3_1 c3_2 c3_3 c3_4 c3_5)))
set_option maxRecDepth 100000 in
set_option maxHeartbeats 8000000 in
theorem ml_X10_common_24 {l : Launch} {D : va_G} {ca : Nat → ClassId} {sd : Nat → Nat}  {k : Kx} (am : Nat → Nat)  (kp : Nat → Int32) (wa : Nat → Int32) (fo : Nat → Int32) (ta : Nat → Int32) (bo : Nat → Int32) (so : Nat → Int32) (ce : Nat → Int64) (ik : Int32) (td : Int32) (C : Cx D ca sd cX10_common RX10 (some .int) { frames := 7, cells := 0, slots := 0, locals := 158 } k 2) {Q : (Int32) → (Nat → Int32) → (Nat → Int32) → (Int32) → (Int32) → (Int32) → (Int32) → (Int32) → (Int32) → Prop} (hR : Rx (Ri D (fun (r : Int32) (u : (Nat → Int32) × (Nat → Int32) × (Int32) × (Int32) × (Int32) × (Int32) × (Int32) × (Int32)) => Q r u.1 u.2.1 u.2.2.1 u.2.2.2.1 u.2.2.2.2.1 u.2.2.2.2.2.1 u.2.2.2.2.2.2.1 u.2.2.2.2.2.2.2) (fun u => (wM ca am u.1 kp u.2.1 fo ta bo so ce ik u.2.2.1 u.2.2.2.1 u.2.2.2.2.1 u.2.2.2.2.2.1 u.2.2.2.2.2.2.1 u.2.2.2.2.2.2.2))) 0 0 k) (hB : Wx k) {K : (Int32) → (Nat → Int32) → (Int32) → (Int32) → (Int32) → (Int32) → (Int32) → Prop} (hK : ∀ (x1' : Int32) (m' : Nat → Int32) (tk' : Int32) (bg' : Int32) (aa' : Int32) (vl' : Int32) (bd' : Int32), K x1' m' tk' bg' aa' vl' bd' → J l D k 2 0 0 43 (wM ca am m' kp wa fo ta bo so ce ik td tk' bg' aa' vl' bd') [(0, .ref (am 0)), (1, .int x1')] []) : ∀ (n : Nat) (x1 : Int32) (m : Nat → Int32) (tk : Int32) (bg : Int32) (aa : Int32) (vl : Int32) (bd : Int32), wpl_X10_common_24 ta td  K n x1 m tk bg aa vl bd → J l D k 2 0 0 24 (wM ca am m kp wa fo ta bo so ce ik td tk bg aa vl bd) [(0, .ref (am 0)), (1, .int x1)] [] := by
  intro n
  induction n with
  | zero =>
    intro x1 m tk bg aa vl bd hw
    rw [wpl_X10_common_24] at hw
    exact hw.elim
  | succ n ih =>
    intro x1 m tk bg aa vl bd hw
    rw [wpl_X10_common_24] at hw
    refine j_aload_n C 0 dX10_common_24 rfl ?_
    refine j_bipush C 21 dX10_common_25 (by decide) ?_
    refine j_ciT C hB 0 9 (fun u4 : (Int32) × (Int32) × (Int32) × (Int32) => (wM ca am m kp wa fo ta bo so ce ik td u4.1 u4.2.1 u4.2.2.1 u4.2.2.2 bd)) rfl (fun _ => rfl) (jr_V C lkV_X10_193 (c_X10_passes am m kp wa fo ta bo so ce ik td tk bg aa vl bd 21 hw) ⟨rfl, rfl, by decide, by decide, by decide, by decide⟩ [0, 1, 2, 3, 4, 5, 6, 7, 8] (by decide) rfl (fx_rw C hB [0, 1, 2, 3, 4, 5, 6, 7, 8] rfl) 0 10 rfl rfl rfl rfl (Nat.le_of_ble_eq_true rfl) dX10_common_27) (fun r4 u4 hw => ?_)
    refine j_if_eq C 43 dX10_common_30 (by decide) (fun z => ?_) (fun z => ?_)
    · replace hw := hw.1 z
      exact hK x1 m u4.1 u4.2.1 u4.2.2.1 u4.2.2.2 bd hw
    · replace hw := hw.2 z
      refine j_aload_n C 0 dX10_common_33 rfl ?_
      refine j_cvT C hB 0 9 (fun u5 : (Nat → Int32) × (Int32) × (Int32) × (Int32) × (Int32) × (Int32) => (wM ca am u5.1 kp wa fo ta bo so ce ik td u5.2.1 u5.2.2.1 u5.2.2.2.1 u5.2.2.2.2.1 u5.2.2.2.2.2)) rfl (fun _ => rfl) (jr_V C lkV_X10_208 (c_X10_item am m kp wa fo ta bo so ce ik td u4.1 u4.2.1 u4.2.2.1 u4.2.2.2 bd hw) ⟨rfl, rfl, by decide, by decide, by decide, by decide⟩ [0, 1, 2, 3, 4, 5, 6, 7, 8] (by decide) rfl (fx_rw C hB [0, 1, 2, 3, 4, 5, 6, 7, 8] rfl) 0 10 rfl rfl rfl rfl (Nat.le_of_ble_eq_true rfl) dX10_common_34) (fun u5 hw => ?_)
      refine j_iinc C 1 (x1 + 1) [(1, .int (x1 + 1)), (0, .ref (am 0))] dX10_common_37 rfl rfl (by decide) rfl ?_
      refine j_goto C 24 dX10_common_40 (by decide) ?_
      refine j_lsub [1, 0] [(0, .ref (am 0)), (1, .int (x1 + 1))] rfl ?_
      exact ih (x1 + 1) u5.1 u5.2.1 u5.2.2.1 u5.2.2.2.1 u5.2.2.2.2.1 u5.2.2.2.2.2 hw
set_option maxRecDepth 100000 in
set_option maxHeartbeats 8000000 in
theorem c_X10_common {l : Launch} {D : va_G} {ca : Nat → ClassId} {sd : Nat → Nat}  (am : Nat → Nat) (m : Nat → Int32) (kp : Nat → Int32) (wa : Nat → Int32) (fo : Nat → Int32) (ta : Nat → Int32) (bo : Nat → Int32) (so : Nat → Int32) (ce : Nat → Int64) (ik : Int32) (td : Int32) (tk : Int32) (bg : Int32) (aa : Int32) (vl : Int32) (bd : Int32)    {Q : (Int32) → (Nat → Int32) → (Nat → Int32) → (Int32) → (Int32) → (Int32) → (Int32) → (Int32) → (Int32) → Prop} (hw : wp_X10_common m wa ta td   Q) : Cn l D ca sd yX10_common cX10_common 2 (some .int) { frames := 7, cells := 0, slots := 0, locals := 158 } [.ref (am 0)] (wM ca am m kp wa fo ta bo so ce ik td tk bg aa vl bd) (wM ca am m kp wa fo ta bo so ce ik td tk bg aa vl bd) 0 0 (Ri D (fun (r : Int32) (u : (Nat → Int32) × (Nat → Int32) × (Int32) × (Int32) × (Int32) × (Int32) × (Int32) × (Int32)) => Q r u.1 u.2.1 u.2.2.1 u.2.2.2.1 u.2.2.2.2.1 u.2.2.2.2.2.1 u.2.2.2.2.2.2.1 u.2.2.2.2.2.2.2) (fun u => (wM ca am u.1 kp u.2.1 fo ta bo so ce ik u.2.2.1 u.2.2.2.1 u.2.2.2.2.1 u.2.2.2.2.2.1 u.2.2.2.2.2.2.1 u.2.2.2.2.2.2.2))) := by
  refine cn_of (by decide) (Nat.le_of_ble_eq_true rfl) (fun k C hR hB _ => ?_)
  have C : Cx D ca sd cX10_common RX10 (some .int) { frames := 7, cells := 0, slots := 0, locals := 158 } k 2 := C
  unfold wp_X10_common at hw
  show J l D k 2 0 0 0 (wM ca am m kp wa fo ta bo so ce ik td tk bg aa vl bd) [(0, .ref (am 0))] []
  refine j_aload_n C 0 dX10_common_0 rfl ?_
  refine j_cvT C hB 0 9 (fun u1 : (Nat → Int32) => (wM ca am m kp u1 fo ta bo so ce ik td tk bg aa vl bd)) rfl (fun _ => rfl) (jr_V C lkV_X10_141 (c_X10_thinks am m kp wa fo ta bo so ce ik td tk bg aa vl bd hw) ⟨rfl, rfl, by decide, by decide, by decide, by decide⟩ [0, 1, 2, 3, 4, 5, 6, 7, 8] (by decide) rfl (fx_rw C hB [0, 1, 2, 3, 4, 5, 6, 7, 8] rfl) 0 10 rfl rfl rfl rfl (Nat.le_of_ble_eq_true rfl) dX10_common_1) (fun u1 hw => ?_)
  refine j_aload_n C 0 dX10_common_4 rfl ?_
  refine j_iconst C 0 dX10_common_5 (by decide) ?_
  refine j_put C hB fw_X10_167_10 0 (wM ca am m kp u1 fo ta bo so ce ik td tk bg 0 vl bd) dX10_common_6 rfl rfl rfl (Nat.le_of_ble_eq_true rfl) rfl ?_
  refine j_aload_n C 0 dX10_common_9 rfl ?_
  refine j_iconst C 0 dX10_common_10 (by decide) ?_
  refine j_put C hB fw_X10_186_10 0 (wM ca am m kp u1 fo ta bo so ce ik td tk bg 0 vl 0) dX10_common_11 rfl (by decide) (by decide) (Nat.le_of_ble_eq_true rfl) rfl ?_
  refine j_aload_n C 0 dX10_common_14 rfl ?_
  refine j_cvT C hB 0 9 (fun u2 : (Int32) × (Int32) × (Int32) × (Int32) => (wM ca am m kp u1 fo ta bo so ce ik td u2.1 u2.2.1 u2.2.2.1 u2.2.2.2 0)) rfl (fun _ => rfl) (jr_V C lkV_X10_190 (c_X10_reads am m kp u1 fo ta bo so ce ik td tk bg 0 vl 0 hw) ⟨rfl, rfl, by decide, by decide, by decide, by decide⟩ [0, 1, 2, 3, 4, 5, 6, 7, 8] (by decide) rfl (fx_rw C hB [0, 1, 2, 3, 4, 5, 6, 7, 8] rfl) 0 10 rfl rfl rfl rfl (Nat.le_of_ble_eq_true rfl) dX10_common_15) (fun u2 hw => ?_)
  refine j_aload_n C 0 dX10_common_18 rfl ?_
  refine j_cvT C hB 0 9 (fun u3 : (Nat → Int32) × (Int32) × (Int32) × (Int32) × (Int32) × (Int32) => (wM ca am u3.1 kp u1 fo ta bo so ce ik td u3.2.1 u3.2.2.1 u3.2.2.2.1 u3.2.2.2.2.1 u3.2.2.2.2.2)) rfl (fun _ => rfl) (jr_V C lkV_X10_208 (c_X10_item am m kp u1 fo ta bo so ce ik td u2.1 u2.2.1 u2.2.2.1 u2.2.2.2 0 hw) ⟨rfl, rfl, by decide, by decide, by decide, by decide⟩ [0, 1, 2, 3, 4, 5, 6, 7, 8] (by decide) rfl (fx_rw C hB [0, 1, 2, 3, 4, 5, 6, 7, 8] rfl) 0 10 rfl rfl rfl rfl (Nat.le_of_ble_eq_true rfl) dX10_common_19) (fun u3 hw => ?_)
  refine j_iconst C 1 dX10_common_22 (by decide) ?_
  refine j_istore_n C [(1, .int 1), (0, .ref (am 0))] dX10_common_23 (by decide) rfl ?_
  refine j_lsub [1, 0] [(0, .ref (am 0)), (1, .int 1)] rfl ?_
  obtain ⟨n6, hw⟩ := hw
  refine ml_X10_common_24 am  kp u1 fo ta bo so ce ik td C hR hB (fun y6_1 y6_m y6_tk y6_bg y6_aa y6_vl y6_bd hw => ?_) n6 1 u3.1 u3.2.1 u3.2.2.1 u3.2.2.2.1 u3.2.2.2.2.1 u3.2.2.2.2.2 hw
  refine j_aload_n C 0 dX10_common_43 rfl ?_
  refine j_aload_n C 0 dX10_common_44 rfl ?_
  refine j_get C fl_X10_186_10 0 dX10_common_45 rfl rfl ?_
  refine j_if_ne C 60 dX10_common_48 (by decide) (fun z => ?_) (fun z => ?_)
  · replace hw := hw.2 z
    refine j_iconst C 1 dX10_common_60 (by decide) ?_
    refine j_goto C 65 dX10_common_61 (by decide) ?_
    refine j_put C hB fw_X10_186_10 0 (wM ca am y6_m kp u1 fo ta bo so ce ik td y6_tk y6_bg y6_aa y6_vl 1) dX10_common_65 rfl (by decide) (by decide) (Nat.le_of_ble_eq_true rfl) rfl ?_
    refine j_aload_n C 0 dX10_common_68 rfl ?_
    refine j_iconst C 0 dX10_common_69 (by decide) ?_
    refine j_put C hB fw_X10_157_10 0 (wM ca am y6_m kp u1 fo ta bo so ce ik 0 y6_tk y6_bg y6_aa y6_vl 1) dX10_common_70 rfl rfl rfl (Nat.le_of_ble_eq_true rfl) rfl ?_
    refine j_aload_n C 0 dX10_common_73 rfl ?_
    refine j_get C fl_X10_186_10 0 dX10_common_74 rfl rfl ?_
    refine j_if_ne C 82 dX10_common_77 (by decide) (fun _ => ?_) (fun z => absurd z (by decide))
    refine j_aload_n C 0 dX10_common_82 rfl ?_
    refine j_cvT C hB 0 9 (fun u7 : (Nat → Int32) => (wM ca am u7 kp u1 fo ta bo so ce ik 0 y6_tk y6_bg y6_aa y6_vl 1)) rfl (fun _ => rfl) (jr_V C lkV_X10_144 (c_X10_putsBack am y6_m kp u1 fo ta bo so ce ik 0 y6_tk y6_bg y6_aa y6_vl 1 hw) ⟨rfl, rfl, by decide, by decide, by decide, by decide⟩ [0, 1, 2, 3, 4, 5, 6, 7, 8] (by decide) rfl (fx_rw C hB [0, 1, 2, 3, 4, 5, 6, 7, 8] rfl) 0 10 rfl rfl rfl rfl (Nat.le_of_ble_eq_true rfl) dX10_common_83) (fun u7 hw => ?_)
    refine j_iconst C (-1) dX10_common_86 (by decide) ?_
    refine j_aload_n C 0 dX10_common_87 rfl ?_
    refine j_get C fl_X10_164_10 0 dX10_common_88 rfl rfl ?_
    refine j_isub C dX10_common_91 ?_
    exact j_iret C hB hR (u7, u1, 0, y6_tk, y6_bg, y6_aa, y6_vl, 1) rfl dX10_common_92 hw rfl
  · replace hw := hw.1 z
    refine j_aload_n C 0 dX10_common_51 rfl ?_
    refine j_get C fl_X10_180_10 0 dX10_common_52 rfl rfl ?_
    refine j_bipush C 22 dX10_common_55 (by decide) ?_
    refine j_icmp_eq C 64 dX10_common_57 (by decide) (fun z => ?_) (fun z => ?_)
    · replace hw := hw.1 z
      refine j_iconst C 0 dX10_common_64 (by decide) ?_
      refine j_put C hB fw_X10_186_10 0 (wM ca am y6_m kp u1 fo ta bo so ce ik td y6_tk y6_bg y6_aa y6_vl 0) dX10_common_65 rfl (by decide) (by decide) (Nat.le_of_ble_eq_true rfl) rfl ?_
      refine j_aload_n C 0 dX10_common_68 rfl ?_
      refine j_iconst C 0 dX10_common_69 (by decide) ?_
      refine j_put C hB fw_X10_157_10 0 (wM ca am y6_m kp u1 fo ta bo so ce ik 0 y6_tk y6_bg y6_aa y6_vl 0) dX10_common_70 rfl rfl rfl (Nat.le_of_ble_eq_true rfl) rfl ?_
      refine j_aload_n C 0 dX10_common_73 rfl ?_
      refine j_get C fl_X10_186_10 0 dX10_common_74 rfl rfl ?_
      refine j_if_ne C 82 dX10_common_77 (by decide) (fun z => absurd z (by decide)) (fun _ => ?_)
      refine j_iload_n C 1 dX10_common_80 rfl ?_
      exact j_iret C hB hR (y6_m, u1, 0, y6_tk, y6_bg, y6_aa, y6_vl, 0) rfl dX10_common_81 hw rfl
    · replace hw := hw.2 z
      refine j_iconst C 1 dX10_common_60 (by decide) ?_
      refine j_goto C 65 dX10_common_61 (by decide) ?_
      refine j_put C hB fw_X10_186_10 0 (wM ca am y6_m kp u1 fo ta bo so ce ik td y6_tk y6_bg y6_aa y6_vl 1) dX10_common_65 rfl (by decide) (by decide) (Nat.le_of_ble_eq_true rfl) rfl ?_
      refine j_aload_n C 0 dX10_common_68 rfl ?_
      refine j_iconst C 0 dX10_common_69 (by decide) ?_
      refine j_put C hB fw_X10_157_10 0 (wM ca am y6_m kp u1 fo ta bo so ce ik 0 y6_tk y6_bg y6_aa y6_vl 1) dX10_common_70 rfl rfl rfl (Nat.le_of_ble_eq_true rfl) rfl ?_
      refine j_aload_n C 0 dX10_common_73 rfl ?_
      refine j_get C fl_X10_186_10 0 dX10_common_74 rfl rfl ?_
      refine j_if_ne C 82 dX10_common_77 (by decide) (fun _ => ?_) (fun z => absurd z (by decide))
      refine j_aload_n C 0 dX10_common_82 rfl ?_
      refine j_cvT C hB 0 9 (fun u8 : (Nat → Int32) => (wM ca am u8 kp u1 fo ta bo so ce ik 0 y6_tk y6_bg y6_aa y6_vl 1)) rfl (fun _ => rfl) (jr_V C lkV_X10_144 (c_X10_putsBack am y6_m kp u1 fo ta bo so ce ik 0 y6_tk y6_bg y6_aa y6_vl 1 hw) ⟨rfl, rfl, by decide, by decide, by decide, by decide⟩ [0, 1, 2, 3, 4, 5, 6, 7, 8] (by decide) rfl (fx_rw C hB [0, 1, 2, 3, 4, 5, 6, 7, 8] rfl) 0 10 rfl rfl rfl rfl (Nat.le_of_ble_eq_true rfl) dX10_common_83) (fun u8 hw => ?_)
      refine j_iconst C (-1) dX10_common_86 (by decide) ?_
      refine j_aload_n C 0 dX10_common_87 rfl ?_
      refine j_get C fl_X10_164_10 0 dX10_common_88 rfl rfl ?_
      refine j_isub C dX10_common_91 ?_
      exact j_iret C hB hR (u8, u1, 0, y6_tk, y6_bg, y6_aa, y6_vl, 1) rfl dX10_common_92 hw rfl
def wpl_X10_sheet_85 (x1 : Int32) (K : (Int32) → (Nat → Int64) → Prop) : Nat → (Int32) → (Nat → Int64) → Prop
  | 0, _, _ => False
  | n + 1, x4, ce => (40 ≤ x4 → K x4 ce) ∧ (¬ (40 ≤ x4) → vp_in ((40 * x1) + x4) 160 ∧ (wpl_X10_sheet_85 x1  K n (x4 + 1) (vp_updL ce (((40 * x1) + x4).toNatClampNeg) 0)))
def wp_X10_sheet (fo : Nat → Int32) (bo : Nat → Int32) (so : Nat → Int32) (ce : Nat → Int64)  (a1 : Int32) (a2 : Int32) (a3 : Int32) (Q : (Int32) → (Nat → Int32) → (Nat → Int32) → (Nat → Int32) → (Nat → Int64) → Prop) : Prop := wp_X10_isSheet a1 (fun r1 => (r1 = 0 → wp_X10_finds fo (-1000000001) (fun r2 c2_0 => Q r2 c2_0 bo so ce)) ∧ (¬ (r1 = 0) → (a2 = 0 → (0 ≤ a3 → (a3 ≤ 40 → vp_in a1 4 ∧ ((a2 = 0 → vp_in a1 4 ∧ (∃ n9 : Nat, wpl_X10_sheet_85 a1  (fun y9_4 y9_ce => vp_in a1 4 ∧ (Q ((upd so (a1.toNatClampNeg) 0) (a1.toNatClampNeg)) fo (upd bo (a1.toNatClampNeg) a2) (upd so (a1.toNatClampNeg) 0) y9_ce)) n9 0 ce)) ∧ (¬ (a2 = 0) → vp_in a1 4 ∧ (∃ n6 : Nat, wpl_X10_sheet_85 a1  (fun y6_4 y6_ce => vp_in a1 4 ∧ (Q ((upd so (a1.toNatClampNeg) a3) (a1.toNatClampNeg)) fo (upd bo (a1.toNatClampNeg) a2) (upd so (a1.toNatClampNeg) a3) y6_ce)) n6 0 ce)))) ∧ (¬ (a3 ≤ 40) → wp_X10_finds fo (-1000000001) (fun r11 c11_0 => Q r11 c11_0 bo so ce))) ∧ (¬ (0 ≤ a3) → wp_X10_finds fo (-1000000007) (fun r12 c12_0 => Q r12 c12_0 bo so ce))) ∧ (¬ (a2 = 0) → (a2 = 8 → (0 ≤ a3 → (a3 ≤ 40 → vp_in a1 4 ∧ ((a2 = 0 → vp_in a1 4 ∧ (∃ n18 : Nat, wpl_X10_sheet_85 a1  (fun y18_4 y18_ce => vp_in a1 4 ∧ (Q ((upd so (a1.toNatClampNeg) 0) (a1.toNatClampNeg)) fo (upd bo (a1.toNatClampNeg) a2) (upd so (a1.toNatClampNeg) 0) y18_ce)) n18 0 ce)) ∧ (¬ (a2 = 0) → vp_in a1 4 ∧ (∃ n15 : Nat, wpl_X10_sheet_85 a1  (fun y15_4 y15_ce => vp_in a1 4 ∧ (Q ((upd so (a1.toNatClampNeg) a3) (a1.toNatClampNeg)) fo (upd bo (a1.toNatClampNeg) a2) (upd so (a1.toNatClampNeg) a3) y15_ce)) n15 0 ce)))) ∧ (¬ (a3 ≤ 40) → wp_X10_finds fo (-1000000001) (fun r20 c20_0 => Q r20 c20_0 bo so ce))) ∧ (¬ (0 ≤ a3) → wp_X10_finds fo (-1000000007) (fun r21 c21_0 => Q r21 c21_0 bo so ce))) ∧ (¬ (a2 = 8) → (a2 = 16 → (0 ≤ a3 → (a3 ≤ 40 → vp_in a1 4 ∧ ((a2 = 0 → vp_in a1 4 ∧ (∃ n27 : Nat, wpl_X10_sheet_85 a1  (fun y27_4 y27_ce => vp_in a1 4 ∧ (Q ((upd so (a1.toNatClampNeg) 0) (a1.toNatClampNeg)) fo (upd bo (a1.toNatClampNeg) a2) (upd so (a1.toNatClampNeg) 0) y27_ce)) n27 0 ce)) ∧ (¬ (a2 = 0) → vp_in a1 4 ∧ (∃ n24 : Nat, wpl_X10_sheet_85 a1  (fun y24_4 y24_ce => vp_in a1 4 ∧ (Q ((upd so (a1.toNatClampNeg) a3) (a1.toNatClampNeg)) fo (upd bo (a1.toNatClampNeg) a2) (upd so (a1.toNatClampNeg) a3) y24_ce)) n24 0 ce)))) ∧ (¬ (a3 ≤ 40) → wp_X10_finds fo (-1000000001) (fun r29 c29_0 => Q r29 c29_0 bo so ce))) ∧ (¬ (0 ≤ a3) → wp_X10_finds fo (-1000000007) (fun r30 c30_0 => Q r30 c30_0 bo so ce))) ∧ (¬ (a2 = 16) → (a2 = 64 → (0 ≤ a3 → (a3 ≤ 40 → vp_in a1 4 ∧ ((a2 = 0 → vp_in a1 4 ∧ (∃ n36 : Nat, wpl_X10_sheet_85 a1  (fun y36_4 y36_ce => vp_in a1 4 ∧ (Q ((upd so (a1.toNatClampNeg) 0) (a1.toNatClampNeg)) fo (upd bo (a1.toNatClampNeg) a2) (upd so (a1.toNatClampNeg) 0) y36_ce)) n36 0 ce)) ∧ (¬ (a2 = 0) → vp_in a1 4 ∧ (∃ n33 : Nat, wpl_X10_sheet_85 a1  (fun y33_4 y33_ce => vp_in a1 4 ∧ (Q ((upd so (a1.toNatClampNeg) a3) (a1.toNatClampNeg)) fo (upd bo (a1.toNatClampNeg) a2) (upd so (a1.toNatClampNeg) a3) y33_ce)) n33 0 ce)))) ∧ (¬ (a3 ≤ 40) → wp_X10_finds fo (-1000000001) (fun r38 c38_0 => Q r38 c38_0 bo so ce))) ∧ (¬ (0 ≤ a3) → wp_X10_finds fo (-1000000007) (fun r39 c39_0 => Q r39 c39_0 bo so ce))) ∧ (¬ (a2 = 64) → wp_X10_finds fo (-1000000001) (fun r40 c40_0 => Q r40 c40_0 bo so ce)))))))
set_option maxRecDepth 100000 in
set_option maxHeartbeats 8000000 in
theorem ml_X10_sheet_85 {l : Launch} {D : va_G} {ca : Nat → ClassId} {sd : Nat → Nat}  {k : Kx} (am : Nat → Nat)  (m : Nat → Int32) (kp : Nat → Int32) (wa : Nat → Int32) (fo : Nat → Int32) (ta : Nat → Int32) (bo : Nat → Int32) (so : Nat → Int32) (ik : Int32) (td : Int32) (tk : Int32) (bg : Int32) (aa : Int32) (vl : Int32) (bd : Int32) (x1 : Int32) (x2 : Int32) (x3 : Int32) (C : Cx D ca sd cX10_sheet RX10 (some .int) { frames := 2, cells := 0, slots := 0, locals := 43 } k 5) {Q : (Int32) → (Nat → Int32) → (Nat → Int32) → (Nat → Int32) → (Nat → Int64) → Prop} (hR : Rx (Ri D (fun (r : Int32) (u : (Nat → Int32) × (Nat → Int32) × (Nat → Int32) × (Nat → Int64)) => Q r u.1 u.2.1 u.2.2.1 u.2.2.2) (fun u => (wM ca am m kp wa u.1 ta u.2.1 u.2.2.1 u.2.2.2 ik td tk bg aa vl bd))) 0 0 k) (hB : Wx k) {K : (Int32) → (Nat → Int64) → Prop} (hK : ∀ (x4' : Int32) (ce' : Nat → Int64), K x4' ce' → J l D k 5 0 0 111 (wM ca am m kp wa fo ta bo so ce' ik td tk bg aa vl bd) [(0, .ref (am 0)), (1, .int x1), (2, .int x2), (3, .int x3), (4, .int x4')] []) : ∀ (n : Nat) (x4 : Int32) (ce : Nat → Int64), wpl_X10_sheet_85 x1  K n x4 ce → J l D k 5 0 0 85 (wM ca am m kp wa fo ta bo so ce ik td tk bg aa vl bd) [(0, .ref (am 0)), (1, .int x1), (2, .int x2), (3, .int x3), (4, .int x4)] [] := by
  intro n
  induction n with
  | zero =>
    intro x4 ce hw
    rw [wpl_X10_sheet_85] at hw
    exact hw.elim
  | succ n ih =>
    intro x4 ce hw
    rw [wpl_X10_sheet_85] at hw
    refine j_iload C 4 dX10_sheet_85 rfl ?_
    refine j_bipush C 40 dX10_sheet_87 (by decide) ?_
    refine j_icmp_ge C 111 dX10_sheet_89 (by decide) (fun z => ?_) (fun z => ?_)
    · replace hw := hw.1 z
      exact hK x4 ce hw
    · replace hw := hw.2 z
      refine j_aload_n C 0 dX10_sheet_92 rfl ?_
      refine j_get C fl_X10_31_10 0 dX10_sheet_93 rfl rfl ?_
      refine j_bipush C 40 dX10_sheet_96 (by decide) ?_
      refine j_iload_n C 1 dX10_sheet_98 rfl ?_
      refine j_imul C dX10_sheet_99 ?_
      refine j_iload C 4 dX10_sheet_100 rfl ?_
      refine j_iadd C dX10_sheet_102 ?_
      refine j_lconst C 0 dX10_sheet_103 (by decide) ?_
      have hi5 := hw.1
      replace hw := hw.2
      refine j_last C hB 8 (wM ca am m kp wa fo ta bo so (vp_updL ce (((40 * x1) + x4).toNatClampNeg) 0) ik td tk bg aa vl bd) dX10_sheet_104 rfl hi5 rfl ?_
      refine j_iinc C 4 (x4 + 1) [(4, .int (x4 + 1)), (0, .ref (am 0)), (1, .int x1), (2, .int x2), (3, .int x3)] dX10_sheet_105 rfl rfl (by decide) rfl ?_
      refine j_goto C 85 dX10_sheet_108 (by decide) ?_
      refine j_lsub [1, 2, 3, 4, 0] [(0, .ref (am 0)), (1, .int x1), (2, .int x2), (3, .int x3), (4, .int (x4 + 1))] rfl ?_
      exact ih (x4 + 1) (vp_updL ce (((40 * x1) + x4).toNatClampNeg) 0) hw
set_option maxRecDepth 100000 in
set_option maxHeartbeats 8000000 in
theorem c_X10_sheet {l : Launch} {D : va_G} {ca : Nat → ClassId} {sd : Nat → Nat}  (am : Nat → Nat) (m : Nat → Int32) (kp : Nat → Int32) (wa : Nat → Int32) (fo : Nat → Int32) (ta : Nat → Int32) (bo : Nat → Int32) (so : Nat → Int32) (ce : Nat → Int64) (ik : Int32) (td : Int32) (tk : Int32) (bg : Int32) (aa : Int32) (vl : Int32) (bd : Int32)  (a1 : Int32) (a2 : Int32) (a3 : Int32)  {Q : (Int32) → (Nat → Int32) → (Nat → Int32) → (Nat → Int32) → (Nat → Int64) → Prop} (hw : wp_X10_sheet fo bo so ce  a1 a2 a3 Q) : Cn l D ca sd yX10_sheet cX10_sheet 5 (some .int) { frames := 2, cells := 0, slots := 0, locals := 43 } [.ref (am 0), .int a1, .int a2, .int a3] (wM ca am m kp wa fo ta bo so ce ik td tk bg aa vl bd) (wM ca am m kp wa fo ta bo so ce ik td tk bg aa vl bd) 0 0 (Ri D (fun (r : Int32) (u : (Nat → Int32) × (Nat → Int32) × (Nat → Int32) × (Nat → Int64)) => Q r u.1 u.2.1 u.2.2.1 u.2.2.2) (fun u => (wM ca am m kp wa u.1 ta u.2.1 u.2.2.1 u.2.2.2 ik td tk bg aa vl bd))) := by
  refine cn_of (by decide) (Nat.le_of_ble_eq_true rfl) (fun k C hR hB _ => ?_)
  have C : Cx D ca sd cX10_sheet RX10 (some .int) { frames := 2, cells := 0, slots := 0, locals := 43 } k 5 := C
  unfold wp_X10_sheet at hw
  show J l D k 5 0 0 0 (wM ca am m kp wa fo ta bo so ce ik td tk bg aa vl bd) [(0, .ref (am 0)), (1, .int a1), (2, .int a2), (3, .int a3)] []
  refine j_iload_n C 1 dX10_sheet_0 rfl ?_
  refine j_ciZ C (jr_S C lkS_X10_211 (c_X10_isSheet a1 hw) ⟨rfl, rfl, by decide, by decide, by decide, by decide⟩ [] (by decide) rfl (fx_ro C) rfl rfl (Nat.le_of_ble_eq_true rfl) dX10_sheet_1) (fun r1 u1 hw => ?_)
  refine j_if_eq C 29 dX10_sheet_4 (by decide) (fun z => ?_) (fun z => ?_)
  · replace hw := hw.1 z
    refine j_aload_n C 0 dX10_sheet_29 rfl ?_
    refine j_ldc C dX10_sheet_30 ct_X10_35 ?_
    refine j_ciT C hB 0 9 (fun u2 : (Nat → Int32) => (wM ca am m kp wa u2 ta bo so ce ik td tk bg aa vl bd)) rfl (fun _ => rfl) (jr_V C lkV_X10_37 (c_X10_finds am m kp wa fo ta bo so ce ik td tk bg aa vl bd (-1000000001) hw) ⟨rfl, rfl, by decide, by decide, by decide, by decide⟩ [0, 1, 2, 3, 4, 5, 6, 7, 8] (by decide) rfl (fx_rw C hB [0, 1, 2, 3, 4, 5, 6, 7, 8] rfl) 0 10 rfl rfl rfl rfl (Nat.le_of_ble_eq_true rfl) dX10_sheet_32) (fun r2 u2 hw => ?_)
    exact j_iret C hB hR (u2, bo, so, ce) rfl dX10_sheet_35 hw rfl
  · replace hw := hw.2 z
    refine j_iload_n C 2 dX10_sheet_7 rfl ?_
    refine j_if_eq C 36 dX10_sheet_8 (by decide) (fun z => ?_) (fun z => ?_)
    · replace hw := hw.1 z
      refine j_iload_n C 3 dX10_sheet_36 rfl ?_
      refine j_if_ge C 47 dX10_sheet_37 (by decide) (fun z => ?_) (fun z => ?_)
      · replace hw := hw.1 z
        refine j_iload_n C 3 dX10_sheet_47 rfl ?_
        refine j_bipush C 40 dX10_sheet_48 (by decide) ?_
        refine j_icmp_le C 60 dX10_sheet_50 (by decide) (fun z => ?_) (fun z => ?_)
        · replace hw := hw.1 z
          refine j_aload_n C 0 dX10_sheet_60 rfl ?_
          refine j_get C fl_X10_25_10 0 dX10_sheet_61 rfl rfl ?_
          refine j_iload_n C 1 dX10_sheet_64 rfl ?_
          refine j_iload_n C 2 dX10_sheet_65 rfl ?_
          have hi3 := hw.1
          replace hw := hw.2
          refine j_iast C hB 6 (wM ca am m kp wa fo ta (upd bo (a1.toNatClampNeg) a2) so ce ik td tk bg aa vl bd) dX10_sheet_66 rfl hi3 rfl ?_
          refine j_aload_n C 0 dX10_sheet_67 rfl ?_
          refine j_get C fl_X10_28_10 0 dX10_sheet_68 rfl rfl ?_
          refine j_iload_n C 1 dX10_sheet_71 rfl ?_
          refine j_iload_n C 2 dX10_sheet_72 rfl ?_
          refine j_if_ne C 80 dX10_sheet_73 (by decide) (fun z => ?_) (fun z => ?_)
          · replace hw := hw.2 z
            refine j_iload_n C 3 dX10_sheet_80 rfl ?_
            have hi4 := hw.1
            replace hw := hw.2
            refine j_iast C hB 7 (wM ca am m kp wa fo ta (upd bo (a1.toNatClampNeg) a2) (upd so (a1.toNatClampNeg) a3) ce ik td tk bg aa vl bd) dX10_sheet_81 rfl hi4 rfl ?_
            refine j_iconst C 0 dX10_sheet_82 (by decide) ?_
            refine j_istore C [(4, .int 0), (0, .ref (am 0)), (1, .int a1), (2, .int a2), (3, .int a3)] dX10_sheet_83 (by decide) rfl ?_
            refine j_lsub [1, 2, 3, 4, 0] [(0, .ref (am 0)), (1, .int a1), (2, .int a2), (3, .int a3), (4, .int 0)] rfl ?_
            obtain ⟨n6, hw⟩ := hw
            refine ml_X10_sheet_85 am  m kp wa fo ta (upd bo (a1.toNatClampNeg) a2) (upd so (a1.toNatClampNeg) a3) ik td tk bg aa vl bd a1 a2 a3 C hR hB (fun y6_4 y6_ce hw => ?_) n6 0 ce hw
            refine j_aload_n C 0 dX10_sheet_111 rfl ?_
            refine j_get C fl_X10_28_10 0 dX10_sheet_112 rfl rfl ?_
            refine j_iload_n C 1 dX10_sheet_115 rfl ?_
            have hi7 := hw.1
            replace hw := hw.2
            refine j_iald C 7 dX10_sheet_116 rfl hi7 ?_
            exact j_iret C hB hR (fo, upd bo (a1.toNatClampNeg) a2, upd so (a1.toNatClampNeg) a3, y6_ce) rfl dX10_sheet_117 hw rfl
          · replace hw := hw.1 z
            refine j_iconst C 0 dX10_sheet_76 (by decide) ?_
            refine j_goto C 81 dX10_sheet_77 (by decide) ?_
            have hi8 := hw.1
            replace hw := hw.2
            refine j_iast C hB 7 (wM ca am m kp wa fo ta (upd bo (a1.toNatClampNeg) a2) (upd so (a1.toNatClampNeg) 0) ce ik td tk bg aa vl bd) dX10_sheet_81 rfl hi8 rfl ?_
            refine j_iconst C 0 dX10_sheet_82 (by decide) ?_
            refine j_istore C [(4, .int 0), (0, .ref (am 0)), (1, .int a1), (2, .int a2), (3, .int a3)] dX10_sheet_83 (by decide) rfl ?_
            refine j_lsub [1, 2, 3, 4, 0] [(0, .ref (am 0)), (1, .int a1), (2, .int a2), (3, .int a3), (4, .int 0)] rfl ?_
            obtain ⟨n9, hw⟩ := hw
            refine ml_X10_sheet_85 am  m kp wa fo ta (upd bo (a1.toNatClampNeg) a2) (upd so (a1.toNatClampNeg) 0) ik td tk bg aa vl bd a1 a2 a3 C hR hB (fun y9_4 y9_ce hw => ?_) n9 0 ce hw
            refine j_aload_n C 0 dX10_sheet_111 rfl ?_
            refine j_get C fl_X10_28_10 0 dX10_sheet_112 rfl rfl ?_
            refine j_iload_n C 1 dX10_sheet_115 rfl ?_
            have hi10 := hw.1
            replace hw := hw.2
            refine j_iald C 7 dX10_sheet_116 rfl hi10 ?_
            exact j_iret C hB hR (fo, upd bo (a1.toNatClampNeg) a2, upd so (a1.toNatClampNeg) 0, y9_ce) rfl dX10_sheet_117 hw rfl
        · replace hw := hw.2 z
          refine j_aload_n C 0 dX10_sheet_53 rfl ?_
          refine j_ldc C dX10_sheet_54 ct_X10_35 ?_
          refine j_ciT C hB 0 9 (fun u11 : (Nat → Int32) => (wM ca am m kp wa u11 ta bo so ce ik td tk bg aa vl bd)) rfl (fun _ => rfl) (jr_V C lkV_X10_37 (c_X10_finds am m kp wa fo ta bo so ce ik td tk bg aa vl bd (-1000000001) hw) ⟨rfl, rfl, by decide, by decide, by decide, by decide⟩ [0, 1, 2, 3, 4, 5, 6, 7, 8] (by decide) rfl (fx_rw C hB [0, 1, 2, 3, 4, 5, 6, 7, 8] rfl) 0 10 rfl rfl rfl rfl (Nat.le_of_ble_eq_true rfl) dX10_sheet_56) (fun r11 u11 hw => ?_)
          exact j_iret C hB hR (u11, bo, so, ce) rfl dX10_sheet_59 hw rfl
      · replace hw := hw.2 z
        refine j_aload_n C 0 dX10_sheet_40 rfl ?_
        refine j_ldc C dX10_sheet_41 ct_X10_214 ?_
        refine j_ciT C hB 0 9 (fun u12 : (Nat → Int32) => (wM ca am m kp wa u12 ta bo so ce ik td tk bg aa vl bd)) rfl (fun _ => rfl) (jr_V C lkV_X10_37 (c_X10_finds am m kp wa fo ta bo so ce ik td tk bg aa vl bd (-1000000007) hw) ⟨rfl, rfl, by decide, by decide, by decide, by decide⟩ [0, 1, 2, 3, 4, 5, 6, 7, 8] (by decide) rfl (fx_rw C hB [0, 1, 2, 3, 4, 5, 6, 7, 8] rfl) 0 10 rfl rfl rfl rfl (Nat.le_of_ble_eq_true rfl) dX10_sheet_43) (fun r12 u12 hw => ?_)
        exact j_iret C hB hR (u12, bo, so, ce) rfl dX10_sheet_46 hw rfl
    · replace hw := hw.2 z
      refine j_iload_n C 2 dX10_sheet_11 rfl ?_
      refine j_bipush C 8 dX10_sheet_12 (by decide) ?_
      refine j_icmp_eq C 36 dX10_sheet_14 (by decide) (fun z => ?_) (fun z => ?_)
      · replace hw := hw.1 z
        refine j_iload_n C 3 dX10_sheet_36 rfl ?_
        refine j_if_ge C 47 dX10_sheet_37 (by decide) (fun z => ?_) (fun z => ?_)
        · replace hw := hw.1 z
          refine j_iload_n C 3 dX10_sheet_47 rfl ?_
          refine j_bipush C 40 dX10_sheet_48 (by decide) ?_
          refine j_icmp_le C 60 dX10_sheet_50 (by decide) (fun z => ?_) (fun z => ?_)
          · replace hw := hw.1 z
            refine j_aload_n C 0 dX10_sheet_60 rfl ?_
            refine j_get C fl_X10_25_10 0 dX10_sheet_61 rfl rfl ?_
            refine j_iload_n C 1 dX10_sheet_64 rfl ?_
            refine j_iload_n C 2 dX10_sheet_65 rfl ?_
            have hi13 := hw.1
            replace hw := hw.2
            refine j_iast C hB 6 (wM ca am m kp wa fo ta (upd bo (a1.toNatClampNeg) a2) so ce ik td tk bg aa vl bd) dX10_sheet_66 rfl hi13 rfl ?_
            refine j_aload_n C 0 dX10_sheet_67 rfl ?_
            refine j_get C fl_X10_28_10 0 dX10_sheet_68 rfl rfl ?_
            refine j_iload_n C 1 dX10_sheet_71 rfl ?_
            refine j_iload_n C 2 dX10_sheet_72 rfl ?_
            refine j_if_ne C 80 dX10_sheet_73 (by decide) (fun z => ?_) (fun z => ?_)
            · replace hw := hw.2 z
              refine j_iload_n C 3 dX10_sheet_80 rfl ?_
              have hi14 := hw.1
              replace hw := hw.2
              refine j_iast C hB 7 (wM ca am m kp wa fo ta (upd bo (a1.toNatClampNeg) a2) (upd so (a1.toNatClampNeg) a3) ce ik td tk bg aa vl bd) dX10_sheet_81 rfl hi14 rfl ?_
              refine j_iconst C 0 dX10_sheet_82 (by decide) ?_
              refine j_istore C [(4, .int 0), (0, .ref (am 0)), (1, .int a1), (2, .int a2), (3, .int a3)] dX10_sheet_83 (by decide) rfl ?_
              refine j_lsub [1, 2, 3, 4, 0] [(0, .ref (am 0)), (1, .int a1), (2, .int a2), (3, .int a3), (4, .int 0)] rfl ?_
              obtain ⟨n15, hw⟩ := hw
              refine ml_X10_sheet_85 am  m kp wa fo ta (upd bo (a1.toNatClampNeg) a2) (upd so (a1.toNatClampNeg) a3) ik td tk bg aa vl bd a1 a2 a3 C hR hB (fun y15_4 y15_ce hw => ?_) n15 0 ce hw
              refine j_aload_n C 0 dX10_sheet_111 rfl ?_
              refine j_get C fl_X10_28_10 0 dX10_sheet_112 rfl rfl ?_
              refine j_iload_n C 1 dX10_sheet_115 rfl ?_
              have hi16 := hw.1
              replace hw := hw.2
              refine j_iald C 7 dX10_sheet_116 rfl hi16 ?_
              exact j_iret C hB hR (fo, upd bo (a1.toNatClampNeg) a2, upd so (a1.toNatClampNeg) a3, y15_ce) rfl dX10_sheet_117 hw rfl
            · replace hw := hw.1 z
              refine j_iconst C 0 dX10_sheet_76 (by decide) ?_
              refine j_goto C 81 dX10_sheet_77 (by decide) ?_
              have hi17 := hw.1
              replace hw := hw.2
              refine j_iast C hB 7 (wM ca am m kp wa fo ta (upd bo (a1.toNatClampNeg) a2) (upd so (a1.toNatClampNeg) 0) ce ik td tk bg aa vl bd) dX10_sheet_81 rfl hi17 rfl ?_
              refine j_iconst C 0 dX10_sheet_82 (by decide) ?_
              refine j_istore C [(4, .int 0), (0, .ref (am 0)), (1, .int a1), (2, .int a2), (3, .int a3)] dX10_sheet_83 (by decide) rfl ?_
              refine j_lsub [1, 2, 3, 4, 0] [(0, .ref (am 0)), (1, .int a1), (2, .int a2), (3, .int a3), (4, .int 0)] rfl ?_
              obtain ⟨n18, hw⟩ := hw
              refine ml_X10_sheet_85 am  m kp wa fo ta (upd bo (a1.toNatClampNeg) a2) (upd so (a1.toNatClampNeg) 0) ik td tk bg aa vl bd a1 a2 a3 C hR hB (fun y18_4 y18_ce hw => ?_) n18 0 ce hw
              refine j_aload_n C 0 dX10_sheet_111 rfl ?_
              refine j_get C fl_X10_28_10 0 dX10_sheet_112 rfl rfl ?_
              refine j_iload_n C 1 dX10_sheet_115 rfl ?_
              have hi19 := hw.1
              replace hw := hw.2
              refine j_iald C 7 dX10_sheet_116 rfl hi19 ?_
              exact j_iret C hB hR (fo, upd bo (a1.toNatClampNeg) a2, upd so (a1.toNatClampNeg) 0, y18_ce) rfl dX10_sheet_117 hw rfl
          · replace hw := hw.2 z
            refine j_aload_n C 0 dX10_sheet_53 rfl ?_
            refine j_ldc C dX10_sheet_54 ct_X10_35 ?_
            refine j_ciT C hB 0 9 (fun u20 : (Nat → Int32) => (wM ca am m kp wa u20 ta bo so ce ik td tk bg aa vl bd)) rfl (fun _ => rfl) (jr_V C lkV_X10_37 (c_X10_finds am m kp wa fo ta bo so ce ik td tk bg aa vl bd (-1000000001) hw) ⟨rfl, rfl, by decide, by decide, by decide, by decide⟩ [0, 1, 2, 3, 4, 5, 6, 7, 8] (by decide) rfl (fx_rw C hB [0, 1, 2, 3, 4, 5, 6, 7, 8] rfl) 0 10 rfl rfl rfl rfl (Nat.le_of_ble_eq_true rfl) dX10_sheet_56) (fun r20 u20 hw => ?_)
            exact j_iret C hB hR (u20, bo, so, ce) rfl dX10_sheet_59 hw rfl
        · replace hw := hw.2 z
          refine j_aload_n C 0 dX10_sheet_40 rfl ?_
          refine j_ldc C dX10_sheet_41 ct_X10_214 ?_
          refine j_ciT C hB 0 9 (fun u21 : (Nat → Int32) => (wM ca am m kp wa u21 ta bo so ce ik td tk bg aa vl bd)) rfl (fun _ => rfl) (jr_V C lkV_X10_37 (c_X10_finds am m kp wa fo ta bo so ce ik td tk bg aa vl bd (-1000000007) hw) ⟨rfl, rfl, by decide, by decide, by decide, by decide⟩ [0, 1, 2, 3, 4, 5, 6, 7, 8] (by decide) rfl (fx_rw C hB [0, 1, 2, 3, 4, 5, 6, 7, 8] rfl) 0 10 rfl rfl rfl rfl (Nat.le_of_ble_eq_true rfl) dX10_sheet_43) (fun r21 u21 hw => ?_)
          exact j_iret C hB hR (u21, bo, so, ce) rfl dX10_sheet_46 hw rfl
      · replace hw := hw.2 z
        refine j_iload_n C 2 dX10_sheet_17 rfl ?_
        refine j_bipush C 16 dX10_sheet_18 (by decide) ?_
        refine j_icmp_eq C 36 dX10_sheet_20 (by decide) (fun z => ?_) (fun z => ?_)
        · replace hw := hw.1 z
          refine j_iload_n C 3 dX10_sheet_36 rfl ?_
          refine j_if_ge C 47 dX10_sheet_37 (by decide) (fun z => ?_) (fun z => ?_)
          · replace hw := hw.1 z
            refine j_iload_n C 3 dX10_sheet_47 rfl ?_
            refine j_bipush C 40 dX10_sheet_48 (by decide) ?_
            refine j_icmp_le C 60 dX10_sheet_50 (by decide) (fun z => ?_) (fun z => ?_)
            · replace hw := hw.1 z
              refine j_aload_n C 0 dX10_sheet_60 rfl ?_
              refine j_get C fl_X10_25_10 0 dX10_sheet_61 rfl rfl ?_
              refine j_iload_n C 1 dX10_sheet_64 rfl ?_
              refine j_iload_n C 2 dX10_sheet_65 rfl ?_
              have hi22 := hw.1
              replace hw := hw.2
              refine j_iast C hB 6 (wM ca am m kp wa fo ta (upd bo (a1.toNatClampNeg) a2) so ce ik td tk bg aa vl bd) dX10_sheet_66 rfl hi22 rfl ?_
              refine j_aload_n C 0 dX10_sheet_67 rfl ?_
              refine j_get C fl_X10_28_10 0 dX10_sheet_68 rfl rfl ?_
              refine j_iload_n C 1 dX10_sheet_71 rfl ?_
              refine j_iload_n C 2 dX10_sheet_72 rfl ?_
              refine j_if_ne C 80 dX10_sheet_73 (by decide) (fun z => ?_) (fun z => ?_)
              · replace hw := hw.2 z
                refine j_iload_n C 3 dX10_sheet_80 rfl ?_
                have hi23 := hw.1
                replace hw := hw.2
                refine j_iast C hB 7 (wM ca am m kp wa fo ta (upd bo (a1.toNatClampNeg) a2) (upd so (a1.toNatClampNeg) a3) ce ik td tk bg aa vl bd) dX10_sheet_81 rfl hi23 rfl ?_
                refine j_iconst C 0 dX10_sheet_82 (by decide) ?_
                refine j_istore C [(4, .int 0), (0, .ref (am 0)), (1, .int a1), (2, .int a2), (3, .int a3)] dX10_sheet_83 (by decide) rfl ?_
                refine j_lsub [1, 2, 3, 4, 0] [(0, .ref (am 0)), (1, .int a1), (2, .int a2), (3, .int a3), (4, .int 0)] rfl ?_
                obtain ⟨n24, hw⟩ := hw
                refine ml_X10_sheet_85 am  m kp wa fo ta (upd bo (a1.toNatClampNeg) a2) (upd so (a1.toNatClampNeg) a3) ik td tk bg aa vl bd a1 a2 a3 C hR hB (fun y24_4 y24_ce hw => ?_) n24 0 ce hw
                refine j_aload_n C 0 dX10_sheet_111 rfl ?_
                refine j_get C fl_X10_28_10 0 dX10_sheet_112 rfl rfl ?_
                refine j_iload_n C 1 dX10_sheet_115 rfl ?_
                have hi25 := hw.1
                replace hw := hw.2
                refine j_iald C 7 dX10_sheet_116 rfl hi25 ?_
                exact j_iret C hB hR (fo, upd bo (a1.toNatClampNeg) a2, upd so (a1.toNatClampNeg) a3, y24_ce) rfl dX10_sheet_117 hw rfl
              · replace hw := hw.1 z
                refine j_iconst C 0 dX10_sheet_76 (by decide) ?_
                refine j_goto C 81 dX10_sheet_77 (by decide) ?_
                have hi26 := hw.1
                replace hw := hw.2
                refine j_iast C hB 7 (wM ca am m kp wa fo ta (upd bo (a1.toNatClampNeg) a2) (upd so (a1.toNatClampNeg) 0) ce ik td tk bg aa vl bd) dX10_sheet_81 rfl hi26 rfl ?_
                refine j_iconst C 0 dX10_sheet_82 (by decide) ?_
                refine j_istore C [(4, .int 0), (0, .ref (am 0)), (1, .int a1), (2, .int a2), (3, .int a3)] dX10_sheet_83 (by decide) rfl ?_
                refine j_lsub [1, 2, 3, 4, 0] [(0, .ref (am 0)), (1, .int a1), (2, .int a2), (3, .int a3), (4, .int 0)] rfl ?_
                obtain ⟨n27, hw⟩ := hw
                refine ml_X10_sheet_85 am  m kp wa fo ta (upd bo (a1.toNatClampNeg) a2) (upd so (a1.toNatClampNeg) 0) ik td tk bg aa vl bd a1 a2 a3 C hR hB (fun y27_4 y27_ce hw => ?_) n27 0 ce hw
                refine j_aload_n C 0 dX10_sheet_111 rfl ?_
                refine j_get C fl_X10_28_10 0 dX10_sheet_112 rfl rfl ?_
                refine j_iload_n C 1 dX10_sheet_115 rfl ?_
                have hi28 := hw.1
                replace hw := hw.2
                refine j_iald C 7 dX10_sheet_116 rfl hi28 ?_
                exact j_iret C hB hR (fo, upd bo (a1.toNatClampNeg) a2, upd so (a1.toNatClampNeg) 0, y27_ce) rfl dX10_sheet_117 hw rfl
            · replace hw := hw.2 z
              refine j_aload_n C 0 dX10_sheet_53 rfl ?_
              refine j_ldc C dX10_sheet_54 ct_X10_35 ?_
              refine j_ciT C hB 0 9 (fun u29 : (Nat → Int32) => (wM ca am m kp wa u29 ta bo so ce ik td tk bg aa vl bd)) rfl (fun _ => rfl) (jr_V C lkV_X10_37 (c_X10_finds am m kp wa fo ta bo so ce ik td tk bg aa vl bd (-1000000001) hw) ⟨rfl, rfl, by decide, by decide, by decide, by decide⟩ [0, 1, 2, 3, 4, 5, 6, 7, 8] (by decide) rfl (fx_rw C hB [0, 1, 2, 3, 4, 5, 6, 7, 8] rfl) 0 10 rfl rfl rfl rfl (Nat.le_of_ble_eq_true rfl) dX10_sheet_56) (fun r29 u29 hw => ?_)
              exact j_iret C hB hR (u29, bo, so, ce) rfl dX10_sheet_59 hw rfl
          · replace hw := hw.2 z
            refine j_aload_n C 0 dX10_sheet_40 rfl ?_
            refine j_ldc C dX10_sheet_41 ct_X10_214 ?_
            refine j_ciT C hB 0 9 (fun u30 : (Nat → Int32) => (wM ca am m kp wa u30 ta bo so ce ik td tk bg aa vl bd)) rfl (fun _ => rfl) (jr_V C lkV_X10_37 (c_X10_finds am m kp wa fo ta bo so ce ik td tk bg aa vl bd (-1000000007) hw) ⟨rfl, rfl, by decide, by decide, by decide, by decide⟩ [0, 1, 2, 3, 4, 5, 6, 7, 8] (by decide) rfl (fx_rw C hB [0, 1, 2, 3, 4, 5, 6, 7, 8] rfl) 0 10 rfl rfl rfl rfl (Nat.le_of_ble_eq_true rfl) dX10_sheet_43) (fun r30 u30 hw => ?_)
            exact j_iret C hB hR (u30, bo, so, ce) rfl dX10_sheet_46 hw rfl
        · replace hw := hw.2 z
          refine j_iload_n C 2 dX10_sheet_23 rfl ?_
          refine j_bipush C 64 dX10_sheet_24 (by decide) ?_
          refine j_icmp_eq C 36 dX10_sheet_26 (by decide) (fun z => ?_) (fun z => ?_)
          · replace hw := hw.1 z
            refine j_iload_n C 3 dX10_sheet_36 rfl ?_
            refine j_if_ge C 47 dX10_sheet_37 (by decide) (fun z => ?_) (fun z => ?_)
            · replace hw := hw.1 z
              refine j_iload_n C 3 dX10_sheet_47 rfl ?_
              refine j_bipush C 40 dX10_sheet_48 (by decide) ?_
              refine j_icmp_le C 60 dX10_sheet_50 (by decide) (fun z => ?_) (fun z => ?_)
              · replace hw := hw.1 z
                refine j_aload_n C 0 dX10_sheet_60 rfl ?_
                refine j_get C fl_X10_25_10 0 dX10_sheet_61 rfl rfl ?_
                refine j_iload_n C 1 dX10_sheet_64 rfl ?_
                refine j_iload_n C 2 dX10_sheet_65 rfl ?_
                have hi31 := hw.1
                replace hw := hw.2
                refine j_iast C hB 6 (wM ca am m kp wa fo ta (upd bo (a1.toNatClampNeg) a2) so ce ik td tk bg aa vl bd) dX10_sheet_66 rfl hi31 rfl ?_
                refine j_aload_n C 0 dX10_sheet_67 rfl ?_
                refine j_get C fl_X10_28_10 0 dX10_sheet_68 rfl rfl ?_
                refine j_iload_n C 1 dX10_sheet_71 rfl ?_
                refine j_iload_n C 2 dX10_sheet_72 rfl ?_
                refine j_if_ne C 80 dX10_sheet_73 (by decide) (fun z => ?_) (fun z => ?_)
                · replace hw := hw.2 z
                  refine j_iload_n C 3 dX10_sheet_80 rfl ?_
                  have hi32 := hw.1
                  replace hw := hw.2
                  refine j_iast C hB 7 (wM ca am m kp wa fo ta (upd bo (a1.toNatClampNeg) a2) (upd so (a1.toNatClampNeg) a3) ce ik td tk bg aa vl bd) dX10_sheet_81 rfl hi32 rfl ?_
                  refine j_iconst C 0 dX10_sheet_82 (by decide) ?_
                  refine j_istore C [(4, .int 0), (0, .ref (am 0)), (1, .int a1), (2, .int a2), (3, .int a3)] dX10_sheet_83 (by decide) rfl ?_
                  refine j_lsub [1, 2, 3, 4, 0] [(0, .ref (am 0)), (1, .int a1), (2, .int a2), (3, .int a3), (4, .int 0)] rfl ?_
                  obtain ⟨n33, hw⟩ := hw
                  refine ml_X10_sheet_85 am  m kp wa fo ta (upd bo (a1.toNatClampNeg) a2) (upd so (a1.toNatClampNeg) a3) ik td tk bg aa vl bd a1 a2 a3 C hR hB (fun y33_4 y33_ce hw => ?_) n33 0 ce hw
                  refine j_aload_n C 0 dX10_sheet_111 rfl ?_
                  refine j_get C fl_X10_28_10 0 dX10_sheet_112 rfl rfl ?_
                  refine j_iload_n C 1 dX10_sheet_115 rfl ?_
                  have hi34 := hw.1
                  replace hw := hw.2
                  refine j_iald C 7 dX10_sheet_116 rfl hi34 ?_
                  exact j_iret C hB hR (fo, upd bo (a1.toNatClampNeg) a2, upd so (a1.toNatClampNeg) a3, y33_ce) rfl dX10_sheet_117 hw rfl
                · replace hw := hw.1 z
                  refine j_iconst C 0 dX10_sheet_76 (by decide) ?_
                  refine j_goto C 81 dX10_sheet_77 (by decide) ?_
                  have hi35 := hw.1
                  replace hw := hw.2
                  refine j_iast C hB 7 (wM ca am m kp wa fo ta (upd bo (a1.toNatClampNeg) a2) (upd so (a1.toNatClampNeg) 0) ce ik td tk bg aa vl bd) dX10_sheet_81 rfl hi35 rfl ?_
                  refine j_iconst C 0 dX10_sheet_82 (by decide) ?_
                  refine j_istore C [(4, .int 0), (0, .ref (am 0)), (1, .int a1), (2, .int a2), (3, .int a3)] dX10_sheet_83 (by decide) rfl ?_
                  refine j_lsub [1, 2, 3, 4, 0] [(0, .ref (am 0)), (1, .int a1), (2, .int a2), (3, .int a3), (4, .int 0)] rfl ?_
                  obtain ⟨n36, hw⟩ := hw
                  refine ml_X10_sheet_85 am  m kp wa fo ta (upd bo (a1.toNatClampNeg) a2) (upd so (a1.toNatClampNeg) 0) ik td tk bg aa vl bd a1 a2 a3 C hR hB (fun y36_4 y36_ce hw => ?_) n36 0 ce hw
                  refine j_aload_n C 0 dX10_sheet_111 rfl ?_
                  refine j_get C fl_X10_28_10 0 dX10_sheet_112 rfl rfl ?_
                  refine j_iload_n C 1 dX10_sheet_115 rfl ?_
                  have hi37 := hw.1
                  replace hw := hw.2
                  refine j_iald C 7 dX10_sheet_116 rfl hi37 ?_
                  exact j_iret C hB hR (fo, upd bo (a1.toNatClampNeg) a2, upd so (a1.toNatClampNeg) 0, y36_ce) rfl dX10_sheet_117 hw rfl
              · replace hw := hw.2 z
                refine j_aload_n C 0 dX10_sheet_53 rfl ?_
                refine j_ldc C dX10_sheet_54 ct_X10_35 ?_
                refine j_ciT C hB 0 9 (fun u38 : (Nat → Int32) => (wM ca am m kp wa u38 ta bo so ce ik td tk bg aa vl bd)) rfl (fun _ => rfl) (jr_V C lkV_X10_37 (c_X10_finds am m kp wa fo ta bo so ce ik td tk bg aa vl bd (-1000000001) hw) ⟨rfl, rfl, by decide, by decide, by decide, by decide⟩ [0, 1, 2, 3, 4, 5, 6, 7, 8] (by decide) rfl (fx_rw C hB [0, 1, 2, 3, 4, 5, 6, 7, 8] rfl) 0 10 rfl rfl rfl rfl (Nat.le_of_ble_eq_true rfl) dX10_sheet_56) (fun r38 u38 hw => ?_)
                exact j_iret C hB hR (u38, bo, so, ce) rfl dX10_sheet_59 hw rfl
            · replace hw := hw.2 z
              refine j_aload_n C 0 dX10_sheet_40 rfl ?_
              refine j_ldc C dX10_sheet_41 ct_X10_214 ?_
              refine j_ciT C hB 0 9 (fun u39 : (Nat → Int32) => (wM ca am m kp wa u39 ta bo so ce ik td tk bg aa vl bd)) rfl (fun _ => rfl) (jr_V C lkV_X10_37 (c_X10_finds am m kp wa fo ta bo so ce ik td tk bg aa vl bd (-1000000007) hw) ⟨rfl, rfl, by decide, by decide, by decide, by decide⟩ [0, 1, 2, 3, 4, 5, 6, 7, 8] (by decide) rfl (fx_rw C hB [0, 1, 2, 3, 4, 5, 6, 7, 8] rfl) 0 10 rfl rfl rfl rfl (Nat.le_of_ble_eq_true rfl) dX10_sheet_43) (fun r39 u39 hw => ?_)
              exact j_iret C hB hR (u39, bo, so, ce) rfl dX10_sheet_46 hw rfl
          · replace hw := hw.2 z
            refine j_aload_n C 0 dX10_sheet_29 rfl ?_
            refine j_ldc C dX10_sheet_30 ct_X10_35 ?_
            refine j_ciT C hB 0 9 (fun u40 : (Nat → Int32) => (wM ca am m kp wa u40 ta bo so ce ik td tk bg aa vl bd)) rfl (fun _ => rfl) (jr_V C lkV_X10_37 (c_X10_finds am m kp wa fo ta bo so ce ik td tk bg aa vl bd (-1000000001) hw) ⟨rfl, rfl, by decide, by decide, by decide, by decide⟩ [0, 1, 2, 3, 4, 5, 6, 7, 8] (by decide) rfl (fx_rw C hB [0, 1, 2, 3, 4, 5, 6, 7, 8] rfl) 0 10 rfl rfl rfl rfl (Nat.le_of_ble_eq_true rfl) dX10_sheet_32) (fun r40 u40 hw => ?_)
            exact j_iret C hB hR (u40, bo, so, ce) rfl dX10_sheet_35 hw rfl
def wp_X10_write (fo : Nat → Int32) (bo : Nat → Int32) (so : Nat → Int32) (ce : Nat → Int64)  (a1 : Int32) (a2 : Int32) (a3 : Int64) (Q : (Int64) → (Nat → Int32) → (Nat → Int64) → Prop) : Prop := wp_X10_notThere bo a1 (fun r1 => (r1 = 0 → vp_in a1 4 ∧ (wp_X10_in ((a2).toInt64) 0 ((so (a1.toNatClampNeg)) - 1) (fun r8 => (r8 = 0 → wp_X10_finds fo (-1000000001) (fun r14 c14_0 => Q ((r14).toInt64) c14_0 ce)) ∧ (¬ (r8 = 0) → (r1 = 0 → vp_in ((40 * a1) + a2) 160 ∧ (vp_in a1 4 ∧ (wp_X10_cutTo (bo (a1.toNatClampNeg)) a3 (fun r11 => vp_in ((40 * a1) + a2) 160 ∧ (Q (ce (((40 * a1) + a2).toNatClampNeg)) fo (vp_updL ce (((40 * a1) + a2).toNatClampNeg) r11)))))) ∧ (¬ (r1 = 0) → wp_X10_finds fo r1 (fun r13 c13_0 => Q ((r13).toInt64) c13_0 ce)))))) ∧ (¬ (r1 = 0) → (r1 = 0 → vp_in ((40 * a1) + a2) 160 ∧ (vp_in a1 4 ∧ (wp_X10_cutTo (bo (a1.toNatClampNeg)) a3 (fun r4 => vp_in ((40 * a1) + a2) 160 ∧ (Q (ce (((40 * a1) + a2).toNatClampNeg)) fo (vp_updL ce (((40 * a1) + a2).toNatClampNeg) r4)))))) ∧ (¬ (r1 = 0) → wp_X10_finds fo r1 (fun r6 c6_0 => Q ((r6).toInt64) c6_0 ce))))
set_option maxRecDepth 100000 in
set_option maxHeartbeats 8000000 in
theorem c_X10_write {l : Launch} {D : va_G} {ca : Nat → ClassId} {sd : Nat → Nat}  (am : Nat → Nat) (m : Nat → Int32) (kp : Nat → Int32) (wa : Nat → Int32) (fo : Nat → Int32) (ta : Nat → Int32) (bo : Nat → Int32) (so : Nat → Int32) (ce : Nat → Int64) (ik : Int32) (td : Int32) (tk : Int32) (bg : Int32) (aa : Int32) (vl : Int32) (bd : Int32)  (a1 : Int32) (a2 : Int32) (a3 : Int64)  {Q : (Int64) → (Nat → Int32) → (Nat → Int64) → Prop} (hw : wp_X10_write fo bo so ce  a1 a2 a3 Q) : Cn l D ca sd yX10_write cX10_write 8 (some .long) { frames := 3, cells := 0, slots := 0, locals := 64 } [.ref (am 0), .int a1, .int a2, .long a3] (wM ca am m kp wa fo ta bo so ce ik td tk bg aa vl bd) (wM ca am m kp wa fo ta bo so ce ik td tk bg aa vl bd) 0 0 (Rl D (fun (r : Int64) (u : (Nat → Int32) × (Nat → Int64)) => Q r u.1 u.2) (fun u => (wM ca am m kp wa u.1 ta bo so u.2 ik td tk bg aa vl bd))) := by
  refine cn_of (by decide) (Nat.le_of_ble_eq_true rfl) (fun k C hR hB _ => ?_)
  have C : Cx D ca sd cX10_write RX10 (some .long) { frames := 3, cells := 0, slots := 0, locals := 64 } k 8 := C
  unfold wp_X10_write at hw
  show J l D k 8 0 0 0 (wM ca am m kp wa fo ta bo so ce ik td tk bg aa vl bd) [(0, .ref (am 0)), (1, .int a1), (2, .int a2), (3, .long a3)] []
  refine j_aload_n C 0 dX10_write_0 rfl ?_
  refine j_iload_n C 1 dX10_write_1 rfl ?_
  refine j_ciZ C (jr_V C lkV_X10_216 (c_X10_notThere am m kp wa fo ta bo so ce ik td tk bg aa vl bd a1 hw) ⟨rfl, rfl, by decide, by decide, by decide, by decide⟩ [0, 1, 2, 3, 4, 5, 6, 7, 8] (by decide) rfl (fx_ro C) 0 10 rfl rfl rfl rfl (Nat.le_of_ble_eq_true rfl) dX10_write_2) (fun r1 u1 hw => ?_)
  refine j_istore C [(5, .int r1), (0, .ref (am 0)), (1, .int a1), (2, .int a2), (3, .long a3)] dX10_write_5 (by decide) rfl ?_
  refine j_iload C 0 dX10_write_7 rfl ?_
  refine j_if_ne C 33 dX10_write_9 (by decide) (fun z => ?_) (fun z => ?_)
  · replace hw := hw.2 z
    refine j_iload C 0 dX10_write_33 rfl ?_
    refine j_if_eq C 46 dX10_write_35 (by decide) (fun z => ?_) (fun z => ?_)
    · replace hw := hw.1 z
      refine j_aload_n C 1 dX10_write_46 rfl ?_
      refine j_get C fl_X10_31_10 0 dX10_write_47 rfl rfl ?_
      refine j_bipush C 40 dX10_write_50 (by decide) ?_
      refine j_iload_n C 2 dX10_write_52 rfl ?_
      refine j_imul C dX10_write_53 ?_
      refine j_iload_n C 3 dX10_write_54 rfl ?_
      refine j_iadd C dX10_write_55 ?_
      have hi2 := hw.1
      replace hw := hw.2
      refine j_lald C 8 dX10_write_56 rfl hi2 ?_
      refine j_lstore C [(6, .long (ce (((40 * a1) + a2).toNatClampNeg))), (5, .int r1), (0, .ref (am 0)), (1, .int a1), (2, .int a2), (3, .long a3)] dX10_write_57 (by decide) rfl ?_
      refine j_aload_n C 2 dX10_write_59 rfl ?_
      refine j_get C fl_X10_31_10 0 dX10_write_60 rfl rfl ?_
      refine j_bipush C 40 dX10_write_63 (by decide) ?_
      refine j_iload_n C 3 dX10_write_65 rfl ?_
      refine j_imul C dX10_write_66 ?_
      refine j_iload_n C 4 dX10_write_67 rfl ?_
      refine j_iadd C dX10_write_68 ?_
      refine j_aload_n C 2 dX10_write_69 rfl ?_
      refine j_get C fl_X10_25_10 0 dX10_write_70 rfl rfl ?_
      refine j_iload_n C 3 dX10_write_73 rfl ?_
      have hi3 := hw.1
      replace hw := hw.2
      refine j_iald C 6 dX10_write_74 rfl hi3 ?_
      refine j_lload_n C 5 dX10_write_75 rfl ?_
      refine j_clZ C (jr_S C lkS_X10_219 (c_X10_cutTo (bo (a1.toNatClampNeg)) a3 hw) ⟨rfl, rfl, by decide, by decide, by decide, by decide⟩ [] (by decide) rfl (fx_ro C) rfl rfl (Nat.le_of_ble_eq_true rfl) dX10_write_76) (fun r4 u4 hw => ?_)
      have hi5 := hw.1
      replace hw := hw.2
      refine j_last C hB 8 (wM ca am m kp wa fo ta bo so (vp_updL ce (((40 * a1) + a2).toNatClampNeg) r4) ik td tk bg aa vl bd) dX10_write_79 rfl hi5 rfl ?_
      refine j_lload C 0 dX10_write_80 rfl ?_
      exact j_lret C hB hR (fo, vp_updL ce (((40 * a1) + a2).toNatClampNeg) r4) rfl dX10_write_82 hw rfl
    · replace hw := hw.2 z
      refine j_aload_n C 1 dX10_write_38 rfl ?_
      refine j_iload C 0 dX10_write_39 rfl ?_
      refine j_ciT C hB 0 9 (fun u6 : (Nat → Int32) => (wM ca am m kp wa u6 ta bo so ce ik td tk bg aa vl bd)) rfl (fun _ => rfl) (jr_V C lkV_X10_37 (c_X10_finds am m kp wa fo ta bo so ce ik td tk bg aa vl bd r1 hw) ⟨rfl, rfl, by decide, by decide, by decide, by decide⟩ [0, 1, 2, 3, 4, 5, 6, 7, 8] (by decide) rfl (fx_rw C hB [0, 1, 2, 3, 4, 5, 6, 7, 8] rfl) 0 10 rfl rfl rfl rfl (Nat.le_of_ble_eq_true rfl) dX10_write_41) (fun r6 u6 hw => ?_)
      refine j_i2l C dX10_write_44 ?_
      exact j_lret C hB hR (u6, ce) rfl dX10_write_45 hw rfl
  · replace hw := hw.1 z
    refine j_iload_n C 3 dX10_write_12 rfl ?_
    refine j_i2l C dX10_write_13 ?_
    refine j_iconst C 0 dX10_write_14 (by decide) ?_
    refine j_aload_n C 1 dX10_write_15 rfl ?_
    refine j_get C fl_X10_28_10 0 dX10_write_16 rfl rfl ?_
    refine j_iload_n C 2 dX10_write_19 rfl ?_
    have hi7 := hw.1
    replace hw := hw.2
    refine j_iald C 7 dX10_write_20 rfl hi7 ?_
    refine j_iconst C 1 dX10_write_21 (by decide) ?_
    refine j_isub C dX10_write_22 ?_
    refine j_ciZ C (jr_S C lkS_X10_41 (c_X10_in ((a2).toInt64) 0 ((so (a1.toNatClampNeg)) - 1) hw) ⟨rfl, rfl, by decide, by decide, by decide, by decide⟩ [] (by decide) rfl (fx_ro C) rfl rfl (Nat.le_of_ble_eq_true rfl) dX10_write_23) (fun r8 u8 hw => ?_)
    refine j_if_ne C 33 dX10_write_26 (by decide) (fun z => ?_) (fun z => ?_)
    · replace hw := hw.2 z
      refine j_iload C 0 dX10_write_33 rfl ?_
      refine j_if_eq C 46 dX10_write_35 (by decide) (fun z => ?_) (fun z => ?_)
      · replace hw := hw.1 z
        refine j_aload_n C 1 dX10_write_46 rfl ?_
        refine j_get C fl_X10_31_10 0 dX10_write_47 rfl rfl ?_
        refine j_bipush C 40 dX10_write_50 (by decide) ?_
        refine j_iload_n C 2 dX10_write_52 rfl ?_
        refine j_imul C dX10_write_53 ?_
        refine j_iload_n C 3 dX10_write_54 rfl ?_
        refine j_iadd C dX10_write_55 ?_
        have hi9 := hw.1
        replace hw := hw.2
        refine j_lald C 8 dX10_write_56 rfl hi9 ?_
        refine j_lstore C [(6, .long (ce (((40 * a1) + a2).toNatClampNeg))), (5, .int r1), (0, .ref (am 0)), (1, .int a1), (2, .int a2), (3, .long a3)] dX10_write_57 (by decide) rfl ?_
        refine j_aload_n C 2 dX10_write_59 rfl ?_
        refine j_get C fl_X10_31_10 0 dX10_write_60 rfl rfl ?_
        refine j_bipush C 40 dX10_write_63 (by decide) ?_
        refine j_iload_n C 3 dX10_write_65 rfl ?_
        refine j_imul C dX10_write_66 ?_
        refine j_iload_n C 4 dX10_write_67 rfl ?_
        refine j_iadd C dX10_write_68 ?_
        refine j_aload_n C 2 dX10_write_69 rfl ?_
        refine j_get C fl_X10_25_10 0 dX10_write_70 rfl rfl ?_
        refine j_iload_n C 3 dX10_write_73 rfl ?_
        have hi10 := hw.1
        replace hw := hw.2
        refine j_iald C 6 dX10_write_74 rfl hi10 ?_
        refine j_lload_n C 5 dX10_write_75 rfl ?_
        refine j_clZ C (jr_S C lkS_X10_219 (c_X10_cutTo (bo (a1.toNatClampNeg)) a3 hw) ⟨rfl, rfl, by decide, by decide, by decide, by decide⟩ [] (by decide) rfl (fx_ro C) rfl rfl (Nat.le_of_ble_eq_true rfl) dX10_write_76) (fun r11 u11 hw => ?_)
        have hi12 := hw.1
        replace hw := hw.2
        refine j_last C hB 8 (wM ca am m kp wa fo ta bo so (vp_updL ce (((40 * a1) + a2).toNatClampNeg) r11) ik td tk bg aa vl bd) dX10_write_79 rfl hi12 rfl ?_
        refine j_lload C 0 dX10_write_80 rfl ?_
        exact j_lret C hB hR (fo, vp_updL ce (((40 * a1) + a2).toNatClampNeg) r11) rfl dX10_write_82 hw rfl
      · replace hw := hw.2 z
        refine j_aload_n C 1 dX10_write_38 rfl ?_
        refine j_iload C 0 dX10_write_39 rfl ?_
        refine j_ciT C hB 0 9 (fun u13 : (Nat → Int32) => (wM ca am m kp wa u13 ta bo so ce ik td tk bg aa vl bd)) rfl (fun _ => rfl) (jr_V C lkV_X10_37 (c_X10_finds am m kp wa fo ta bo so ce ik td tk bg aa vl bd r1 hw) ⟨rfl, rfl, by decide, by decide, by decide, by decide⟩ [0, 1, 2, 3, 4, 5, 6, 7, 8] (by decide) rfl (fx_rw C hB [0, 1, 2, 3, 4, 5, 6, 7, 8] rfl) 0 10 rfl rfl rfl rfl (Nat.le_of_ble_eq_true rfl) dX10_write_41) (fun r13 u13 hw => ?_)
        refine j_i2l C dX10_write_44 ?_
        exact j_lret C hB hR (u13, ce) rfl dX10_write_45 hw rfl
    · replace hw := hw.1 z
      refine j_ldc C dX10_write_29 ct_X10_35 ?_
      refine j_istore C [(5, .int (-1000000001)), (0, .ref (am 0)), (1, .int a1), (2, .int a2), (3, .long a3)] dX10_write_31 (by decide) rfl ?_
      refine j_iload C 0 dX10_write_33 rfl ?_
      refine j_if_eq C 46 dX10_write_35 (by decide) (fun z => absurd z (by decide)) (fun _ => ?_)
      refine j_aload_n C 1 dX10_write_38 rfl ?_
      refine j_iload C 0 dX10_write_39 rfl ?_
      refine j_ciT C hB 0 9 (fun u14 : (Nat → Int32) => (wM ca am m kp wa u14 ta bo so ce ik td tk bg aa vl bd)) rfl (fun _ => rfl) (jr_V C lkV_X10_37 (c_X10_finds am m kp wa fo ta bo so ce ik td tk bg aa vl bd (-1000000001) hw) ⟨rfl, rfl, by decide, by decide, by decide, by decide⟩ [0, 1, 2, 3, 4, 5, 6, 7, 8] (by decide) rfl (fx_rw C hB [0, 1, 2, 3, 4, 5, 6, 7, 8] rfl) 0 10 rfl rfl rfl rfl (Nat.le_of_ble_eq_true rfl) dX10_write_41) (fun r14 u14 hw => ?_)
      refine j_i2l C dX10_write_44 ?_
      exact j_lret C hB hR (u14, ce) rfl dX10_write_45 hw rfl
def wpl_X10_copy_28 (x1 : Int32) (x2 : Int32) (x3 : Int32) (x4 : Int32) (x5 : Int32) (K : (Int32) → (Nat → Int64) → Prop) : Nat → (Int32) → (Nat → Int64) → Prop
  | 0, _, _ => False
  | n + 1, x7, ce => (x5 ≤ x7 → K x7 ce) ∧ (¬ (x5 ≤ x7) → (x4 ≤ x2 → vp_in (((40 * x1) + x2) + x7) 160 ∧ (vp_in (((40 * x3) + x4) + x7) 160 ∧ (wpl_X10_copy_28 x1 x2 x3 x4 x5  K n (x7 + 1) (vp_updL ce ((((40 * x3) + x4) + x7).toNatClampNeg) (ce ((((40 * x1) + x2) + x7).toNatClampNeg)))))) ∧ (¬ (x4 ≤ x2) → vp_in (((40 * x1) + x2) + ((x5 - 1) - x7)) 160 ∧ (vp_in (((40 * x3) + x4) + ((x5 - 1) - x7)) 160 ∧ (wpl_X10_copy_28 x1 x2 x3 x4 x5  K n (x7 + 1) (vp_updL ce ((((40 * x3) + x4) + ((x5 - 1) - x7)).toNatClampNeg) (ce ((((40 * x1) + x2) + ((x5 - 1) - x7)).toNatClampNeg)))))))
def wp_X10_copy (fo : Nat → Int32) (bo : Nat → Int32) (so : Nat → Int32) (ce : Nat → Int64)  (a1 : Int32) (a2 : Int32) (a3 : Int32) (a4 : Int32) (a5 : Int32) (Q : (Int32) → (Nat → Int32) → (Nat → Int64) → Prop) : Prop := wp_X10_notCopied bo so a1 a2 a3 a4 a5 (fun r1 => (r1 = 0 → ∃ n6 : Nat, wpl_X10_copy_28 a1 a2 a3 a4 a5  (fun y6_7 y6_ce => Q a5 fo y6_ce) n6 0 ce) ∧ (¬ (r1 = 0) → wp_X10_finds fo r1 (fun r7 c7_0 => Q r7 c7_0 ce)))
set_option maxRecDepth 100000 in
set_option maxHeartbeats 8000000 in
theorem ml_X10_copy_28 {l : Launch} {D : va_G} {ca : Nat → ClassId} {sd : Nat → Nat}  {k : Kx} (am : Nat → Nat)  (m : Nat → Int32) (kp : Nat → Int32) (wa : Nat → Int32) (fo : Nat → Int32) (ta : Nat → Int32) (bo : Nat → Int32) (so : Nat → Int32) (ik : Int32) (td : Int32) (tk : Int32) (bg : Int32) (aa : Int32) (vl : Int32) (bd : Int32) (x1 : Int32) (x2 : Int32) (x3 : Int32) (x4 : Int32) (x5 : Int32) (x6 : Int32) (C : Cx D ca sd cX10_copy RX10 (some .int) { frames := 3, cells := 0, slots := 0, locals := 69 } k 9) {Q : (Int32) → (Nat → Int32) → (Nat → Int64) → Prop} (hR : Rx (Ri D (fun (r : Int32) (u : (Nat → Int32) × (Nat → Int64)) => Q r u.1 u.2) (fun u => (wM ca am m kp wa u.1 ta bo so u.2 ik td tk bg aa vl bd))) 0 0 k) (hB : Wx k) {K : (Int32) → (Nat → Int64) → Prop} (hK : ∀ (x7' : Int32) (ce' : Nat → Int64), K x7' ce' → J l D k 9 0 0 90 (wM ca am m kp wa fo ta bo so ce' ik td tk bg aa vl bd) [(0, .ref (am 0)), (1, .int x1), (2, .int x2), (3, .int x3), (4, .int x4), (5, .int x5), (6, .int x6), (7, .int x7')] []) : ∀ (n : Nat) (x7 : Int32) (ce : Nat → Int64), wpl_X10_copy_28 x1 x2 x3 x4 x5  K n x7 ce → J l D k 9 0 0 28 (wM ca am m kp wa fo ta bo so ce ik td tk bg aa vl bd) [(0, .ref (am 0)), (1, .int x1), (2, .int x2), (3, .int x3), (4, .int x4), (5, .int x5), (6, .int x6), (7, .int x7)] [] := by
  intro n
  induction n with
  | zero =>
    intro x7 ce hw
    rw [wpl_X10_copy_28] at hw
    exact hw.elim
  | succ n ih =>
    intro x7 ce hw
    rw [wpl_X10_copy_28] at hw
    refine j_iload C 7 dX10_copy_28 rfl ?_
    refine j_iload C 5 dX10_copy_30 rfl ?_
    refine j_icmp_ge C 90 dX10_copy_32 (by decide) (fun z => ?_) (fun z => ?_)
    · replace hw := hw.1 z
      exact hK x7 ce hw
    · replace hw := hw.2 z
      refine j_iload_n C 2 dX10_copy_35 rfl ?_
      refine j_iload C 4 dX10_copy_36 rfl ?_
      refine j_icmp_ge C 51 dX10_copy_38 (by decide) (fun z => ?_) (fun z => ?_)
      · replace hw := hw.1 z
        refine j_iload C 7 dX10_copy_51 rfl ?_
        refine j_istore C [(8, .int x7), (0, .ref (am 0)), (1, .int x1), (2, .int x2), (3, .int x3), (4, .int x4), (5, .int x5), (6, .int x6), (7, .int x7)] dX10_copy_53 (by decide) rfl ?_
        refine j_aload_n C 1 dX10_copy_55 rfl ?_
        refine j_get C fl_X10_31_10 0 dX10_copy_56 rfl rfl ?_
        refine j_bipush C 40 dX10_copy_59 (by decide) ?_
        refine j_iload_n C 4 dX10_copy_61 rfl ?_
        refine j_imul C dX10_copy_62 ?_
        refine j_iload C 5 dX10_copy_63 rfl ?_
        refine j_iadd C dX10_copy_65 ?_
        refine j_iload C 0 dX10_copy_66 rfl ?_
        refine j_iadd C dX10_copy_68 ?_
        refine j_aload_n C 1 dX10_copy_69 rfl ?_
        refine j_get C fl_X10_31_10 0 dX10_copy_70 rfl rfl ?_
        refine j_bipush C 40 dX10_copy_73 (by decide) ?_
        refine j_iload_n C 2 dX10_copy_75 rfl ?_
        refine j_imul C dX10_copy_76 ?_
        refine j_iload_n C 3 dX10_copy_77 rfl ?_
        refine j_iadd C dX10_copy_78 ?_
        refine j_iload C 0 dX10_copy_79 rfl ?_
        refine j_iadd C dX10_copy_81 ?_
        have hi2 := hw.1
        replace hw := hw.2
        refine j_lald C 8 dX10_copy_82 rfl hi2 ?_
        have hi3 := hw.1
        replace hw := hw.2
        refine j_last C hB 8 (wM ca am m kp wa fo ta bo so (vp_updL ce ((((40 * x3) + x4) + x7).toNatClampNeg) (ce ((((40 * x1) + x2) + x7).toNatClampNeg))) ik td tk bg aa vl bd) dX10_copy_83 rfl hi3 rfl ?_
        refine j_iinc C 8 (x7 + 1) [(7, .int (x7 + 1)), (8, .int x7), (0, .ref (am 0)), (1, .int x1), (2, .int x2), (3, .int x3), (4, .int x4), (5, .int x5), (6, .int x6)] dX10_copy_84 rfl rfl (by decide) rfl ?_
        refine j_goto C 28 dX10_copy_87 (by decide) ?_
        refine j_lsub [2, 3, 4, 5, 6, 7, 8, 0] [(0, .ref (am 0)), (1, .int x1), (2, .int x2), (3, .int x3), (4, .int x4), (5, .int x5), (6, .int x6), (7, .int (x7 + 1))] rfl ?_
        exact ih (x7 + 1) (vp_updL ce ((((40 * x3) + x4) + x7).toNatClampNeg) (ce ((((40 * x1) + x2) + x7).toNatClampNeg))) hw
      · replace hw := hw.2 z
        refine j_iload C 5 dX10_copy_41 rfl ?_
        refine j_iconst C 1 dX10_copy_43 (by decide) ?_
        refine j_isub C dX10_copy_44 ?_
        refine j_iload C 7 dX10_copy_45 rfl ?_
        refine j_isub C dX10_copy_47 ?_
        refine j_goto C 53 dX10_copy_48 (by decide) ?_
        refine j_istore C [(8, .int ((x5 - 1) - x7)), (0, .ref (am 0)), (1, .int x1), (2, .int x2), (3, .int x3), (4, .int x4), (5, .int x5), (6, .int x6), (7, .int x7)] dX10_copy_53 (by decide) rfl ?_
        refine j_aload_n C 1 dX10_copy_55 rfl ?_
        refine j_get C fl_X10_31_10 0 dX10_copy_56 rfl rfl ?_
        refine j_bipush C 40 dX10_copy_59 (by decide) ?_
        refine j_iload_n C 4 dX10_copy_61 rfl ?_
        refine j_imul C dX10_copy_62 ?_
        refine j_iload C 5 dX10_copy_63 rfl ?_
        refine j_iadd C dX10_copy_65 ?_
        refine j_iload C 0 dX10_copy_66 rfl ?_
        refine j_iadd C dX10_copy_68 ?_
        refine j_aload_n C 1 dX10_copy_69 rfl ?_
        refine j_get C fl_X10_31_10 0 dX10_copy_70 rfl rfl ?_
        refine j_bipush C 40 dX10_copy_73 (by decide) ?_
        refine j_iload_n C 2 dX10_copy_75 rfl ?_
        refine j_imul C dX10_copy_76 ?_
        refine j_iload_n C 3 dX10_copy_77 rfl ?_
        refine j_iadd C dX10_copy_78 ?_
        refine j_iload C 0 dX10_copy_79 rfl ?_
        refine j_iadd C dX10_copy_81 ?_
        have hi4 := hw.1
        replace hw := hw.2
        refine j_lald C 8 dX10_copy_82 rfl hi4 ?_
        have hi5 := hw.1
        replace hw := hw.2
        refine j_last C hB 8 (wM ca am m kp wa fo ta bo so (vp_updL ce ((((40 * x3) + x4) + ((x5 - 1) - x7)).toNatClampNeg) (ce ((((40 * x1) + x2) + ((x5 - 1) - x7)).toNatClampNeg))) ik td tk bg aa vl bd) dX10_copy_83 rfl hi5 rfl ?_
        refine j_iinc C 8 (x7 + 1) [(7, .int (x7 + 1)), (8, .int ((x5 - 1) - x7)), (0, .ref (am 0)), (1, .int x1), (2, .int x2), (3, .int x3), (4, .int x4), (5, .int x5), (6, .int x6)] dX10_copy_84 rfl rfl (by decide) rfl ?_
        refine j_goto C 28 dX10_copy_87 (by decide) ?_
        refine j_lsub [2, 3, 4, 5, 6, 7, 8, 0] [(0, .ref (am 0)), (1, .int x1), (2, .int x2), (3, .int x3), (4, .int x4), (5, .int x5), (6, .int x6), (7, .int (x7 + 1))] rfl ?_
        exact ih (x7 + 1) (vp_updL ce ((((40 * x3) + x4) + ((x5 - 1) - x7)).toNatClampNeg) (ce ((((40 * x1) + x2) + ((x5 - 1) - x7)).toNatClampNeg))) hw
set_option maxRecDepth 100000 in
set_option maxHeartbeats 8000000 in
theorem c_X10_copy {l : Launch} {D : va_G} {ca : Nat → ClassId} {sd : Nat → Nat}  (am : Nat → Nat) (m : Nat → Int32) (kp : Nat → Int32) (wa : Nat → Int32) (fo : Nat → Int32) (ta : Nat → Int32) (bo : Nat → Int32) (so : Nat → Int32) (ce : Nat → Int64) (ik : Int32) (td : Int32) (tk : Int32) (bg : Int32) (aa : Int32) (vl : Int32) (bd : Int32)  (a1 : Int32) (a2 : Int32) (a3 : Int32) (a4 : Int32) (a5 : Int32)  {Q : (Int32) → (Nat → Int32) → (Nat → Int64) → Prop} (hw : wp_X10_copy fo bo so ce  a1 a2 a3 a4 a5 Q) : Cn l D ca sd yX10_copy cX10_copy 9 (some .int) { frames := 3, cells := 0, slots := 0, locals := 69 } [.ref (am 0), .int a1, .int a2, .int a3, .int a4, .int a5] (wM ca am m kp wa fo ta bo so ce ik td tk bg aa vl bd) (wM ca am m kp wa fo ta bo so ce ik td tk bg aa vl bd) 0 0 (Ri D (fun (r : Int32) (u : (Nat → Int32) × (Nat → Int64)) => Q r u.1 u.2) (fun u => (wM ca am m kp wa u.1 ta bo so u.2 ik td tk bg aa vl bd))) := by
  refine cn_of (by decide) (Nat.le_of_ble_eq_true rfl) (fun k C hR hB _ => ?_)
  have C : Cx D ca sd cX10_copy RX10 (some .int) { frames := 3, cells := 0, slots := 0, locals := 69 } k 9 := C
  unfold wp_X10_copy at hw
  show J l D k 9 0 0 0 (wM ca am m kp wa fo ta bo so ce ik td tk bg aa vl bd) [(0, .ref (am 0)), (1, .int a1), (2, .int a2), (3, .int a3), (4, .int a4), (5, .int a5)] []
  refine j_aload_n C 0 dX10_copy_0 rfl ?_
  refine j_iload_n C 1 dX10_copy_1 rfl ?_
  refine j_iload_n C 2 dX10_copy_2 rfl ?_
  refine j_iload_n C 3 dX10_copy_3 rfl ?_
  refine j_iload C 4 dX10_copy_4 rfl ?_
  refine j_iload C 5 dX10_copy_6 rfl ?_
  refine j_ciZ C (jr_V C lkV_X10_223 (c_X10_notCopied am m kp wa fo ta bo so ce ik td tk bg aa vl bd a1 a2 a3 a4 a5 hw) ⟨rfl, rfl, by decide, by decide, by decide, by decide⟩ [0, 1, 2, 3, 4, 5, 6, 7, 8] (by decide) rfl (fx_ro C) 0 10 rfl rfl rfl rfl (Nat.le_of_ble_eq_true rfl) dX10_copy_8) (fun r1 u1 hw => ?_)
  refine j_istore C [(6, .int r1), (0, .ref (am 0)), (1, .int a1), (2, .int a2), (3, .int a3), (4, .int a4), (5, .int a5)] dX10_copy_11 (by decide) rfl ?_
  refine j_iload C 0 dX10_copy_13 rfl ?_
  refine j_if_eq C 25 dX10_copy_15 (by decide) (fun z => ?_) (fun z => ?_)
  · replace hw := hw.1 z
    refine j_iconst C 0 dX10_copy_25 (by decide) ?_
    refine j_istore C [(7, .int 0), (6, .int r1), (0, .ref (am 0)), (1, .int a1), (2, .int a2), (3, .int a3), (4, .int a4), (5, .int a5)] dX10_copy_26 (by decide) rfl ?_
    refine j_lsub [2, 3, 4, 5, 6, 7, 1, 0] [(0, .ref (am 0)), (1, .int a1), (2, .int a2), (3, .int a3), (4, .int a4), (5, .int a5), (6, .int r1), (7, .int 0)] rfl ?_
    obtain ⟨n6, hw⟩ := hw
    refine ml_X10_copy_28 am  m kp wa fo ta bo so ik td tk bg aa vl bd a1 a2 a3 a4 a5 r1 C hR hB (fun y6_7 y6_ce hw => ?_) n6 0 ce hw
    refine j_iload C 5 dX10_copy_90 rfl ?_
    exact j_iret C hB hR (fo, y6_ce) rfl dX10_copy_92 hw rfl
  · replace hw := hw.2 z
    refine j_aload_n C 1 dX10_copy_18 rfl ?_
    refine j_iload C 0 dX10_copy_19 rfl ?_
    refine j_ciT C hB 0 9 (fun u7 : (Nat → Int32) => (wM ca am m kp wa u7 ta bo so ce ik td tk bg aa vl bd)) rfl (fun _ => rfl) (jr_V C lkV_X10_37 (c_X10_finds am m kp wa fo ta bo so ce ik td tk bg aa vl bd r1 hw) ⟨rfl, rfl, by decide, by decide, by decide, by decide⟩ [0, 1, 2, 3, 4, 5, 6, 7, 8] (by decide) rfl (fx_rw C hB [0, 1, 2, 3, 4, 5, 6, 7, 8] rfl) 0 10 rfl rfl rfl rfl (Nat.le_of_ble_eq_true rfl) dX10_copy_21) (fun r7 u7 hw => ?_)
    exact j_iret C hB hR (u7, ce) rfl dX10_copy_24 hw rfl
def wpl_X10_lays_21 (so : Nat → Int32) (ce : Nat → Int64) (x1 : Int32) (K : (Int32) → (Int32) → (Nat → Int32) → Prop) : Nat → (Int32) → (Int32) → (Nat → Int32) → Prop
  | 0, _, _, _ => False
  | n + 1, x3, x4, m => vp_in x1 4 ∧ (((so (x1.toNatClampNeg)) ≤ x4 → K x3 x4 m) ∧ (¬ ((so (x1.toNatClampNeg)) ≤ x4) → (6 ≤ x4 → K x3 x4 m) ∧ (¬ (6 ≤ x4) → vp_in ((40 * x1) + x4) 160 ∧ (wp_X10_in (ce (((40 * x1) + x4).toNatClampNeg)) 0 20 (fun r4 => (r4 = 0 → wpl_X10_lays_21 so ce x1  K n x3 (x4 + 1) m) ∧ (¬ (r4 = 0) → vp_in ((40 * x1) + x4) 160 ∧ (wp_X10_gets m x4 0 ((ce (((40 * x1) + x4).toNatClampNeg)).toInt32) (fun c6_0 => wpl_X10_lays_21 so ce x1  K n (x3 + 1) (x4 + 1) c6_0))))))))
def wp_X10_lays (m : Nat → Int32) (fo : Nat → Int32) (bo : Nat → Int32) (so : Nat → Int32) (ce : Nat → Int64)  (a1 : Int32) (Q : (Int32) → (Nat → Int32) → (Nat → Int32) → Prop) : Prop := wp_X10_notThere bo a1 (fun r1 => (r1 = 0 → ∃ n7 : Nat, wpl_X10_lays_21 so ce a1  (fun y7_3 y7_4 y7_m => Q y7_3 y7_m fo) n7 0 0 m) ∧ (¬ (r1 = 0) → wp_X10_finds fo r1 (fun r8 c8_0 => Q r8 m c8_0)))
set_option maxRecDepth 100000 in
set_option maxHeartbeats 8000000 in
theorem ml_X10_lays_21 {l : Launch} {D : va_G} {ca : Nat → ClassId} {sd : Nat → Nat}  {k : Kx} (am : Nat → Nat)  (kp : Nat → Int32) (wa : Nat → Int32) (fo : Nat → Int32) (ta : Nat → Int32) (bo : Nat → Int32) (so : Nat → Int32) (ce : Nat → Int64) (ik : Int32) (td : Int32) (tk : Int32) (bg : Int32) (aa : Int32) (vl : Int32) (bd : Int32) (x1 : Int32) (x2 : Int32) (C : Cx D ca sd cX10_lays RX10 (some .int) { frames := 3, cells := 0, slots := 0, locals := 64 } k 5) {Q : (Int32) → (Nat → Int32) → (Nat → Int32) → Prop} (hR : Rx (Ri D (fun (r : Int32) (u : (Nat → Int32) × (Nat → Int32)) => Q r u.1 u.2) (fun u => (wM ca am u.1 kp wa u.2 ta bo so ce ik td tk bg aa vl bd))) 0 0 k) (hB : Wx k) {K : (Int32) → (Int32) → (Nat → Int32) → Prop} (hK : ∀ (x3' : Int32) (x4' : Int32) (m' : Nat → Int32), K x3' x4' m' → J l D k 5 0 0 89 (wM ca am m' kp wa fo ta bo so ce ik td tk bg aa vl bd) [(0, .ref (am 0)), (1, .int x1), (2, .int x2), (3, .int x3'), (4, .int x4')] []) : ∀ (n : Nat) (x3 : Int32) (x4 : Int32) (m : Nat → Int32), wpl_X10_lays_21 so ce x1  K n x3 x4 m → J l D k 5 0 0 21 (wM ca am m kp wa fo ta bo so ce ik td tk bg aa vl bd) [(0, .ref (am 0)), (1, .int x1), (2, .int x2), (3, .int x3), (4, .int x4)] [] := by
  intro n
  induction n with
  | zero =>
    intro x3 x4 m hw
    rw [wpl_X10_lays_21] at hw
    exact hw.elim
  | succ n ih =>
    intro x3 x4 m hw
    rw [wpl_X10_lays_21] at hw
    refine j_iload C 4 dX10_lays_21 rfl ?_
    refine j_aload_n C 0 dX10_lays_23 rfl ?_
    refine j_get C fl_X10_28_10 0 dX10_lays_24 rfl rfl ?_
    refine j_iload_n C 1 dX10_lays_27 rfl ?_
    have hi2 := hw.1
    replace hw := hw.2
    refine j_iald C 7 dX10_lays_28 rfl hi2 ?_
    refine j_icmp_ge C 89 dX10_lays_29 (by decide) (fun z => ?_) (fun z => ?_)
    · replace hw := hw.1 z
      exact hK x3 x4 m hw
    · replace hw := hw.2 z
      refine j_iload C 4 dX10_lays_32 rfl ?_
      refine j_bipush C 6 dX10_lays_34 (by decide) ?_
      refine j_icmp_ge C 89 dX10_lays_36 (by decide) (fun z => ?_) (fun z => ?_)
      · replace hw := hw.1 z
        exact hK x3 x4 m hw
      · replace hw := hw.2 z
        refine j_aload_n C 0 dX10_lays_39 rfl ?_
        refine j_get C fl_X10_31_10 0 dX10_lays_40 rfl rfl ?_
        refine j_bipush C 40 dX10_lays_43 (by decide) ?_
        refine j_iload_n C 1 dX10_lays_45 rfl ?_
        refine j_imul C dX10_lays_46 ?_
        refine j_iload C 4 dX10_lays_47 rfl ?_
        refine j_iadd C dX10_lays_49 ?_
        have hi3 := hw.1
        replace hw := hw.2
        refine j_lald C 8 dX10_lays_50 rfl hi3 ?_
        refine j_iconst C 0 dX10_lays_51 (by decide) ?_
        refine j_bipush C 20 dX10_lays_52 (by decide) ?_
        refine j_ciZ C (jr_S C lkS_X10_41 (c_X10_in (ce (((40 * x1) + x4).toNatClampNeg)) 0 20 hw) ⟨rfl, rfl, by decide, by decide, by decide, by decide⟩ [] (by decide) rfl (fx_ro C) rfl rfl (Nat.le_of_ble_eq_true rfl) dX10_lays_54) (fun r4 u4 hw => ?_)
        refine j_if_eq C 83 dX10_lays_57 (by decide) (fun z => ?_) (fun z => ?_)
        · replace hw := hw.1 z
          refine j_iinc C 4 (x4 + 1) [(4, .int (x4 + 1)), (0, .ref (am 0)), (1, .int x1), (2, .int x2), (3, .int x3)] dX10_lays_83 rfl rfl (by decide) rfl ?_
          refine j_goto C 21 dX10_lays_86 (by decide) ?_
          refine j_lsub [1, 2, 3, 4, 0] [(0, .ref (am 0)), (1, .int x1), (2, .int x2), (3, .int x3), (4, .int (x4 + 1))] rfl ?_
          exact ih x3 (x4 + 1) m hw
        · replace hw := hw.2 z
          refine j_aload_n C 0 dX10_lays_60 rfl ?_
          refine j_iload C 4 dX10_lays_61 rfl ?_
          refine j_iconst C 0 dX10_lays_63 (by decide) ?_
          refine j_aload_n C 0 dX10_lays_64 rfl ?_
          refine j_get C fl_X10_31_10 0 dX10_lays_65 rfl rfl ?_
          refine j_bipush C 40 dX10_lays_68 (by decide) ?_
          refine j_iload_n C 1 dX10_lays_70 rfl ?_
          refine j_imul C dX10_lays_71 ?_
          refine j_iload C 4 dX10_lays_72 rfl ?_
          refine j_iadd C dX10_lays_74 ?_
          have hi5 := hw.1
          replace hw := hw.2
          refine j_lald C 8 dX10_lays_75 rfl hi5 ?_
          refine j_l2i C dX10_lays_76 ?_
          refine j_cvT C hB 0 9 (fun u6 : (Nat → Int32) => (wM ca am u6 kp wa fo ta bo so ce ik td tk bg aa vl bd)) rfl (fun _ => rfl) (jr_V C lkV_X10_97 (c_X10_gets am m kp wa fo ta bo so ce ik td tk bg aa vl bd x4 0 ((ce (((40 * x1) + x4).toNatClampNeg)).toInt32) hw) ⟨rfl, rfl, by decide, by decide, by decide, by decide⟩ [0, 1, 2, 3, 4, 5, 6, 7, 8] (by decide) rfl (fx_rw C hB [0, 1, 2, 3, 4, 5, 6, 7, 8] rfl) 0 10 rfl rfl rfl rfl (Nat.le_of_ble_eq_true rfl) dX10_lays_77) (fun u6 hw => ?_)
          refine j_iinc C 3 (x3 + 1) [(3, .int (x3 + 1)), (0, .ref (am 0)), (1, .int x1), (2, .int x2), (4, .int x4)] dX10_lays_80 rfl rfl (by decide) rfl ?_
          refine j_iinc C 4 (x4 + 1) [(4, .int (x4 + 1)), (3, .int (x3 + 1)), (0, .ref (am 0)), (1, .int x1), (2, .int x2)] dX10_lays_83 rfl rfl (by decide) rfl ?_
          refine j_goto C 21 dX10_lays_86 (by decide) ?_
          refine j_lsub [2, 3, 4, 1, 0] [(0, .ref (am 0)), (1, .int x1), (2, .int x2), (3, .int (x3 + 1)), (4, .int (x4 + 1))] rfl ?_
          exact ih (x3 + 1) (x4 + 1) u6 hw
set_option maxRecDepth 100000 in
set_option maxHeartbeats 8000000 in
theorem c_X10_lays {l : Launch} {D : va_G} {ca : Nat → ClassId} {sd : Nat → Nat}  (am : Nat → Nat) (m : Nat → Int32) (kp : Nat → Int32) (wa : Nat → Int32) (fo : Nat → Int32) (ta : Nat → Int32) (bo : Nat → Int32) (so : Nat → Int32) (ce : Nat → Int64) (ik : Int32) (td : Int32) (tk : Int32) (bg : Int32) (aa : Int32) (vl : Int32) (bd : Int32)  (a1 : Int32)  {Q : (Int32) → (Nat → Int32) → (Nat → Int32) → Prop} (hw : wp_X10_lays m fo bo so ce  a1 Q) : Cn l D ca sd yX10_lays cX10_lays 5 (some .int) { frames := 3, cells := 0, slots := 0, locals := 64 } [.ref (am 0), .int a1] (wM ca am m kp wa fo ta bo so ce ik td tk bg aa vl bd) (wM ca am m kp wa fo ta bo so ce ik td tk bg aa vl bd) 0 0 (Ri D (fun (r : Int32) (u : (Nat → Int32) × (Nat → Int32)) => Q r u.1 u.2) (fun u => (wM ca am u.1 kp wa u.2 ta bo so ce ik td tk bg aa vl bd))) := by
  refine cn_of (by decide) (Nat.le_of_ble_eq_true rfl) (fun k C hR hB _ => ?_)
  have C : Cx D ca sd cX10_lays RX10 (some .int) { frames := 3, cells := 0, slots := 0, locals := 64 } k 5 := C
  unfold wp_X10_lays at hw
  show J l D k 5 0 0 0 (wM ca am m kp wa fo ta bo so ce ik td tk bg aa vl bd) [(0, .ref (am 0)), (1, .int a1)] []
  refine j_aload_n C 0 dX10_lays_0 rfl ?_
  refine j_iload_n C 1 dX10_lays_1 rfl ?_
  refine j_ciZ C (jr_V C lkV_X10_216 (c_X10_notThere am m kp wa fo ta bo so ce ik td tk bg aa vl bd a1 hw) ⟨rfl, rfl, by decide, by decide, by decide, by decide⟩ [0, 1, 2, 3, 4, 5, 6, 7, 8] (by decide) rfl (fx_ro C) 0 10 rfl rfl rfl rfl (Nat.le_of_ble_eq_true rfl) dX10_lays_2) (fun r1 u1 hw => ?_)
  refine j_istore_n C [(2, .int r1), (0, .ref (am 0)), (1, .int a1)] dX10_lays_5 (by decide) rfl ?_
  refine j_iload_n C 0 dX10_lays_6 rfl ?_
  refine j_if_eq C 16 dX10_lays_7 (by decide) (fun z => ?_) (fun z => ?_)
  · replace hw := hw.1 z
    refine j_iconst C 0 dX10_lays_16 (by decide) ?_
    refine j_istore_n C [(3, .int 0), (2, .int r1), (0, .ref (am 0)), (1, .int a1)] dX10_lays_17 (by decide) rfl ?_
    refine j_iconst C 0 dX10_lays_18 (by decide) ?_
    refine j_istore C [(4, .int 0), (3, .int 0), (2, .int r1), (0, .ref (am 0)), (1, .int a1)] dX10_lays_19 (by decide) rfl ?_
    refine j_lsub [3, 4, 2, 1, 0] [(0, .ref (am 0)), (1, .int a1), (2, .int r1), (3, .int 0), (4, .int 0)] rfl ?_
    obtain ⟨n7, hw⟩ := hw
    refine ml_X10_lays_21 am  kp wa fo ta bo so ce ik td tk bg aa vl bd a1 r1 C hR hB (fun y7_3 y7_4 y7_m hw => ?_) n7 0 0 m hw
    refine j_iload_n C 3 dX10_lays_89 rfl ?_
    exact j_iret C hB hR (y7_m, fo) rfl dX10_lays_90 hw rfl
  · replace hw := hw.2 z
    refine j_aload_n C 1 dX10_lays_10 rfl ?_
    refine j_iload_n C 0 dX10_lays_11 rfl ?_
    refine j_ciT C hB 0 9 (fun u8 : (Nat → Int32) => (wM ca am m kp wa u8 ta bo so ce ik td tk bg aa vl bd)) rfl (fun _ => rfl) (jr_V C lkV_X10_37 (c_X10_finds am m kp wa fo ta bo so ce ik td tk bg aa vl bd r1 hw) ⟨rfl, rfl, by decide, by decide, by decide, by decide⟩ [0, 1, 2, 3, 4, 5, 6, 7, 8] (by decide) rfl (fx_rw C hB [0, 1, 2, 3, 4, 5, 6, 7, 8] rfl) 0 10 rfl rfl rfl rfl (Nat.le_of_ble_eq_true rfl) dX10_lays_12) (fun r8 u8 hw => ?_)
    exact j_iret C hB hR (m, u8) rfl dX10_lays_15 hw rfl
def wpl_X10_book_24 (bo : Nat → Int32) (so : Nat → Int32) (x1 : Int32) (x2 : Int32) (K : (Int32) → (Nat → Int32) → (Nat → Int64) → Prop) : Nat → (Int32) → (Nat → Int32) → (Nat → Int64) → Prop
  | 0, _, _, _ => False
  | n + 1, x4, m, ce => vp_in x1 4 ∧ (((so (x1.toNatClampNeg)) ≤ x4 → K x4 m ce) ∧ (¬ ((so (x1.toNatClampNeg)) ≤ x4) → vp_in x1 4 ∧ (wp_X10_it m x2 1 (fun r5 => wp_X10_cutTo (bo (x1.toNatClampNeg)) ((r5).toInt64) (fun r6 => vp_in ((40 * x1) + x4) 160 ∧ (wp_X10_goes m (fun c8_0 => wpl_X10_book_24 bo so x1 x2  K n (x4 + 1) c8_0 (vp_updL ce (((40 * x1) + x4).toNatClampNeg) r6))))))))
def wp_X10_book (m : Nat → Int32) (wa : Nat → Int32) (fo : Nat → Int32) (bo : Nat → Int32) (so : Nat → Int32) (ce : Nat → Int64)  (a1 : Int32) (a2 : Int32) (Q : (Int32) → (Nat → Int32) → (Nat → Int32) → (Nat → Int32) → (Nat → Int64) → Prop) : Prop := wp_X10_notAsked m bo a1 a2 (fun r1 => (r1 = 0 → wp_X10_thinks m wa (fun c2_0 => ∃ n9 : Nat, wpl_X10_book_24 bo so a1 a2  (fun y9_4 y9_m y9_ce => wp_X10_putsBack y9_m c2_0 (fun c10_0 => vp_in a1 4 ∧ (Q (so (a1.toNatClampNeg)) c10_0 c2_0 fo y9_ce))) n9 0 m ce)) ∧ (¬ (r1 = 0) → wp_X10_finds fo r1 (fun r12 c12_0 => Q r12 m wa c12_0 ce)))
set_option maxRecDepth 100000 in
set_option maxHeartbeats 8000000 in
theorem ml_X10_book_24 {l : Launch} {D : va_G} {ca : Nat → ClassId} {sd : Nat → Nat}  {k : Kx} (am : Nat → Nat)  (kp : Nat → Int32) (wa : Nat → Int32) (fo : Nat → Int32) (ta : Nat → Int32) (bo : Nat → Int32) (so : Nat → Int32) (ik : Int32) (td : Int32) (tk : Int32) (bg : Int32) (aa : Int32) (vl : Int32) (bd : Int32) (x1 : Int32) (x2 : Int32) (x3 : Int32) (C : Cx D ca sd cX10_book RX10 (some .int) { frames := 5, cells := 0, slots := 0, locals := 113 } k 5) {Q : (Int32) → (Nat → Int32) → (Nat → Int32) → (Nat → Int32) → (Nat → Int64) → Prop} (hR : Rx (Ri D (fun (r : Int32) (u : (Nat → Int32) × (Nat → Int32) × (Nat → Int32) × (Nat → Int64)) => Q r u.1 u.2.1 u.2.2.1 u.2.2.2) (fun u => (wM ca am u.1 kp u.2.1 u.2.2.1 ta bo so u.2.2.2 ik td tk bg aa vl bd))) 0 0 k) (hB : Wx k) {K : (Int32) → (Nat → Int32) → (Nat → Int64) → Prop} (hK : ∀ (x4' : Int32) (m' : Nat → Int32) (ce' : Nat → Int64), K x4' m' ce' → J l D k 5 0 0 73 (wM ca am m' kp wa fo ta bo so ce' ik td tk bg aa vl bd) [(0, .ref (am 0)), (1, .int x1), (2, .int x2), (3, .int x3), (4, .int x4')] []) : ∀ (n : Nat) (x4 : Int32) (m : Nat → Int32) (ce : Nat → Int64), wpl_X10_book_24 bo so x1 x2  K n x4 m ce → J l D k 5 0 0 24 (wM ca am m kp wa fo ta bo so ce ik td tk bg aa vl bd) [(0, .ref (am 0)), (1, .int x1), (2, .int x2), (3, .int x3), (4, .int x4)] [] := by
  intro n
  induction n with
  | zero =>
    intro x4 m ce hw
    rw [wpl_X10_book_24] at hw
    exact hw.elim
  | succ n ih =>
    intro x4 m ce hw
    rw [wpl_X10_book_24] at hw
    refine j_iload C 4 dX10_book_24 rfl ?_
    refine j_aload_n C 0 dX10_book_26 rfl ?_
    refine j_get C fl_X10_28_10 0 dX10_book_27 rfl rfl ?_
    refine j_iload_n C 1 dX10_book_30 rfl ?_
    have hi3 := hw.1
    replace hw := hw.2
    refine j_iald C 7 dX10_book_31 rfl hi3 ?_
    refine j_icmp_ge C 73 dX10_book_32 (by decide) (fun z => ?_) (fun z => ?_)
    · replace hw := hw.1 z
      exact hK x4 m ce hw
    · replace hw := hw.2 z
      refine j_aload_n C 0 dX10_book_35 rfl ?_
      refine j_get C fl_X10_31_10 0 dX10_book_36 rfl rfl ?_
      refine j_bipush C 40 dX10_book_39 (by decide) ?_
      refine j_iload_n C 1 dX10_book_41 rfl ?_
      refine j_imul C dX10_book_42 ?_
      refine j_iload C 4 dX10_book_43 rfl ?_
      refine j_iadd C dX10_book_45 ?_
      refine j_aload_n C 0 dX10_book_46 rfl ?_
      refine j_get C fl_X10_25_10 0 dX10_book_47 rfl rfl ?_
      refine j_iload_n C 1 dX10_book_50 rfl ?_
      have hi4 := hw.1
      replace hw := hw.2
      refine j_iald C 6 dX10_book_51 rfl hi4 ?_
      refine j_aload_n C 0 dX10_book_52 rfl ?_
      refine j_iload_n C 2 dX10_book_53 rfl ?_
      refine j_iconst C 1 dX10_book_54 (by decide) ?_
      refine j_ciZ C (jr_V C lkV_X10_45 (c_X10_it am m kp wa fo ta bo so ce ik td tk bg aa vl bd x2 1 hw) ⟨rfl, rfl, by decide, by decide, by decide, by decide⟩ [0, 1, 2, 3, 4, 5, 6, 7, 8] (by decide) rfl (fx_ro C) 0 10 rfl rfl rfl rfl (Nat.le_of_ble_eq_true rfl) dX10_book_55) (fun r5 u5 hw => ?_)
      refine j_i2l C dX10_book_58 ?_
      refine j_clZ C (jr_S C lkS_X10_219 (c_X10_cutTo (bo (x1.toNatClampNeg)) ((r5).toInt64) hw) ⟨rfl, rfl, by decide, by decide, by decide, by decide⟩ [] (by decide) rfl (fx_ro C) rfl rfl (Nat.le_of_ble_eq_true rfl) dX10_book_59) (fun r6 u6 hw => ?_)
      have hi7 := hw.1
      replace hw := hw.2
      refine j_last C hB 8 (wM ca am m kp wa fo ta bo so (vp_updL ce (((40 * x1) + x4).toNatClampNeg) r6) ik td tk bg aa vl bd) dX10_book_62 rfl hi7 rfl ?_
      refine j_aload_n C 0 dX10_book_63 rfl ?_
      refine j_cvT C hB 0 9 (fun u8 : (Nat → Int32) => (wM ca am u8 kp wa fo ta bo so (vp_updL ce (((40 * x1) + x4).toNatClampNeg) r6) ik td tk bg aa vl bd)) rfl (fun _ => rfl) (jr_V C lkV_X10_121 (c_X10_goes am m kp wa fo ta bo so (vp_updL ce (((40 * x1) + x4).toNatClampNeg) r6) ik td tk bg aa vl bd hw) ⟨rfl, rfl, by decide, by decide, by decide, by decide⟩ [0, 1, 2, 3, 4, 5, 6, 7, 8] (by decide) rfl (fx_rw C hB [0, 1, 2, 3, 4, 5, 6, 7, 8] rfl) 0 10 rfl rfl rfl rfl (Nat.le_of_ble_eq_true rfl) dX10_book_64) (fun u8 hw => ?_)
      refine j_iinc C 4 (x4 + 1) [(4, .int (x4 + 1)), (0, .ref (am 0)), (1, .int x1), (2, .int x2), (3, .int x3)] dX10_book_67 rfl rfl (by decide) rfl ?_
      refine j_goto C 24 dX10_book_70 (by decide) ?_
      refine j_lsub [1, 2, 3, 4, 0] [(0, .ref (am 0)), (1, .int x1), (2, .int x2), (3, .int x3), (4, .int (x4 + 1))] rfl ?_
      exact ih (x4 + 1) u8 (vp_updL ce (((40 * x1) + x4).toNatClampNeg) r6) hw
set_option maxRecDepth 100000 in
set_option maxHeartbeats 8000000 in
theorem c_X10_book {l : Launch} {D : va_G} {ca : Nat → ClassId} {sd : Nat → Nat}  (am : Nat → Nat) (m : Nat → Int32) (kp : Nat → Int32) (wa : Nat → Int32) (fo : Nat → Int32) (ta : Nat → Int32) (bo : Nat → Int32) (so : Nat → Int32) (ce : Nat → Int64) (ik : Int32) (td : Int32) (tk : Int32) (bg : Int32) (aa : Int32) (vl : Int32) (bd : Int32)  (a1 : Int32) (a2 : Int32)  {Q : (Int32) → (Nat → Int32) → (Nat → Int32) → (Nat → Int32) → (Nat → Int64) → Prop} (hw : wp_X10_book m wa fo bo so ce  a1 a2 Q) : Cn l D ca sd yX10_book cX10_book 5 (some .int) { frames := 5, cells := 0, slots := 0, locals := 113 } [.ref (am 0), .int a1, .int a2] (wM ca am m kp wa fo ta bo so ce ik td tk bg aa vl bd) (wM ca am m kp wa fo ta bo so ce ik td tk bg aa vl bd) 0 0 (Ri D (fun (r : Int32) (u : (Nat → Int32) × (Nat → Int32) × (Nat → Int32) × (Nat → Int64)) => Q r u.1 u.2.1 u.2.2.1 u.2.2.2) (fun u => (wM ca am u.1 kp u.2.1 u.2.2.1 ta bo so u.2.2.2 ik td tk bg aa vl bd))) := by
  refine cn_of (by decide) (Nat.le_of_ble_eq_true rfl) (fun k C hR hB _ => ?_)
  have C : Cx D ca sd cX10_book RX10 (some .int) { frames := 5, cells := 0, slots := 0, locals := 113 } k 5 := C
  unfold wp_X10_book at hw
  show J l D k 5 0 0 0 (wM ca am m kp wa fo ta bo so ce ik td tk bg aa vl bd) [(0, .ref (am 0)), (1, .int a1), (2, .int a2)] []
  refine j_aload_n C 0 dX10_book_0 rfl ?_
  refine j_iload_n C 1 dX10_book_1 rfl ?_
  refine j_iload_n C 2 dX10_book_2 rfl ?_
  refine j_ciZ C (jr_V C lkV_X10_227 (c_X10_notAsked am m kp wa fo ta bo so ce ik td tk bg aa vl bd a1 a2 hw) ⟨rfl, rfl, by decide, by decide, by decide, by decide⟩ [0, 1, 2, 3, 4, 5, 6, 7, 8] (by decide) rfl (fx_ro C) 0 10 rfl rfl rfl rfl (Nat.le_of_ble_eq_true rfl) dX10_book_3) (fun r1 u1 hw => ?_)
  refine j_istore_n C [(3, .int r1), (0, .ref (am 0)), (1, .int a1), (2, .int a2)] dX10_book_6 (by decide) rfl ?_
  refine j_iload_n C 0 dX10_book_7 rfl ?_
  refine j_if_eq C 17 dX10_book_8 (by decide) (fun z => ?_) (fun z => ?_)
  · replace hw := hw.1 z
    refine j_aload_n C 1 dX10_book_17 rfl ?_
    refine j_cvT C hB 0 9 (fun u2 : (Nat → Int32) => (wM ca am m kp u2 fo ta bo so ce ik td tk bg aa vl bd)) rfl (fun _ => rfl) (jr_V C lkV_X10_141 (c_X10_thinks am m kp wa fo ta bo so ce ik td tk bg aa vl bd hw) ⟨rfl, rfl, by decide, by decide, by decide, by decide⟩ [0, 1, 2, 3, 4, 5, 6, 7, 8] (by decide) rfl (fx_rw C hB [0, 1, 2, 3, 4, 5, 6, 7, 8] rfl) 0 10 rfl rfl rfl rfl (Nat.le_of_ble_eq_true rfl) dX10_book_18) (fun u2 hw => ?_)
    refine j_iconst C 0 dX10_book_21 (by decide) ?_
    refine j_istore C [(4, .int 0), (3, .int r1), (0, .ref (am 0)), (1, .int a1), (2, .int a2)] dX10_book_22 (by decide) rfl ?_
    refine j_lsub [2, 3, 4, 1, 0] [(0, .ref (am 0)), (1, .int a1), (2, .int a2), (3, .int r1), (4, .int 0)] rfl ?_
    obtain ⟨n9, hw⟩ := hw
    refine ml_X10_book_24 am  kp u2 fo ta bo so ik td tk bg aa vl bd a1 a2 r1 C hR hB (fun y9_4 y9_m y9_ce hw => ?_) n9 0 m ce hw
    refine j_aload_n C 0 dX10_book_73 rfl ?_
    refine j_cvT C hB 0 9 (fun u10 : (Nat → Int32) => (wM ca am u10 kp u2 fo ta bo so y9_ce ik td tk bg aa vl bd)) rfl (fun _ => rfl) (jr_V C lkV_X10_144 (c_X10_putsBack am y9_m kp u2 fo ta bo so y9_ce ik td tk bg aa vl bd hw) ⟨rfl, rfl, by decide, by decide, by decide, by decide⟩ [0, 1, 2, 3, 4, 5, 6, 7, 8] (by decide) rfl (fx_rw C hB [0, 1, 2, 3, 4, 5, 6, 7, 8] rfl) 0 10 rfl rfl rfl rfl (Nat.le_of_ble_eq_true rfl) dX10_book_74) (fun u10 hw => ?_)
    refine j_aload_n C 0 dX10_book_77 rfl ?_
    refine j_get C fl_X10_28_10 0 dX10_book_78 rfl rfl ?_
    refine j_iload_n C 1 dX10_book_81 rfl ?_
    have hi11 := hw.1
    replace hw := hw.2
    refine j_iald C 7 dX10_book_82 rfl hi11 ?_
    exact j_iret C hB hR (u10, u2, fo, y9_ce) rfl dX10_book_83 hw rfl
  · replace hw := hw.2 z
    refine j_aload_n C 1 dX10_book_11 rfl ?_
    refine j_iload_n C 0 dX10_book_12 rfl ?_
    refine j_ciT C hB 0 9 (fun u12 : (Nat → Int32) => (wM ca am m kp wa u12 ta bo so ce ik td tk bg aa vl bd)) rfl (fun _ => rfl) (jr_V C lkV_X10_37 (c_X10_finds am m kp wa fo ta bo so ce ik td tk bg aa vl bd r1 hw) ⟨rfl, rfl, by decide, by decide, by decide, by decide⟩ [0, 1, 2, 3, 4, 5, 6, 7, 8] (by decide) rfl (fx_rw C hB [0, 1, 2, 3, 4, 5, 6, 7, 8] rfl) 0 10 rfl rfl rfl rfl (Nat.le_of_ble_eq_true rfl) dX10_book_13) (fun r12 u12 hw => ?_)
    exact j_iret C hB hR (m, wa, u12, ce) rfl dX10_book_16 hw rfl
def wpl_X10_read_51 (wa : Nat → Int32) (so : Nat → Int32) (ce : Nat → Int64) (x1 : Int32) (x2 : Int32) (x3 : Int32) (K : (Int32) → (Int32) → (Nat → Int32) → Prop) : Nat → (Int32) → (Int32) → (Nat → Int32) → Prop
  | 0, _, _, _ => False
  | n + 1, x5, x6, m => (126 ≤ x6 → K x5 x6 m) ∧ (¬ (126 ≤ x6) → wp_X10_put m x2 0 (x6 / 21) (fun c3_0 => wp_X10_gets c3_0 x3 0 (x6 - x6 / 21 * 21) (fun c4_0 => wp_X10_isBook c4_0 wa so ce x1 x2 (fun r5 c5_0 => (r5 = 0 → wpl_X10_read_51 wa so ce x1 x2 x3  K n (x5 + 0) (x6 + 1) c5_0) ∧ (¬ (r5 = 0) → wpl_X10_read_51 wa so ce x1 x2 x3  K n (x5 + 1) (x6 + 1) c5_0)))))
def wp_X10_read (m : Nat → Int32) (wa : Nat → Int32) (fo : Nat → Int32) (bo : Nat → Int32) (so : Nat → Int32) (ce : Nat → Int64)  (a1 : Int32) (a2 : Int32) (a3 : Int32) (Q : (Int32) → (Nat → Int32) → (Nat → Int32) → (Nat → Int32) → Prop) : Prop := wp_X10_notAsked m bo a1 a2 (fun r1 => (r1 = 0 → wp_X10_isPerson a3 (fun r8 => (r8 = 0 → wp_X10_finds fo (-1000000001) (fun r12 c12_0 => Q r12 m wa c12_0)) ∧ (¬ (r8 = 0) → (r1 = 0 → wp_X10_thinks m wa (fun c9_0 => ∃ n10 : Nat, wpl_X10_read_51 c9_0 so ce a1 a2 a3  (fun y10_5 y10_6 y10_m => Q y10_5 y10_m c9_0 fo) n10 0 0 m)) ∧ (¬ (r1 = 0) → wp_X10_finds fo r1 (fun r11 c11_0 => Q r11 m wa c11_0))))) ∧ (¬ (r1 = 0) → (r1 = 0 → wp_X10_thinks m wa (fun c2_0 => ∃ n6 : Nat, wpl_X10_read_51 c2_0 so ce a1 a2 a3  (fun y6_5 y6_6 y6_m => Q y6_5 y6_m c2_0 fo) n6 0 0 m)) ∧ (¬ (r1 = 0) → wp_X10_finds fo r1 (fun r7 c7_0 => Q r7 m wa c7_0))))
set_option maxRecDepth 100000 in
set_option maxHeartbeats 8000000 in
theorem ml_X10_read_51 {l : Launch} {D : va_G} {ca : Nat → ClassId} {sd : Nat → Nat}  {k : Kx} (am : Nat → Nat)  (kp : Nat → Int32) (wa : Nat → Int32) (fo : Nat → Int32) (ta : Nat → Int32) (bo : Nat → Int32) (so : Nat → Int32) (ce : Nat → Int64) (ik : Int32) (td : Int32) (tk : Int32) (bg : Int32) (aa : Int32) (vl : Int32) (bd : Int32) (x1 : Int32) (x2 : Int32) (x3 : Int32) (x4 : Int32) (C : Cx D ca sd cX10_read RX10 (some .int) { frames := 6, cells := 0, slots := 0, locals := 137 } k 7) {Q : (Int32) → (Nat → Int32) → (Nat → Int32) → (Nat → Int32) → Prop} (hR : Rx (Ri D (fun (r : Int32) (u : (Nat → Int32) × (Nat → Int32) × (Nat → Int32)) => Q r u.1 u.2.1 u.2.2) (fun u => (wM ca am u.1 kp u.2.1 u.2.2 ta bo so ce ik td tk bg aa vl bd))) 0 0 k) (hB : Wx k) {K : (Int32) → (Int32) → (Nat → Int32) → Prop} (hK : ∀ (x5' : Int32) (x6' : Int32) (m' : Nat → Int32), K x5' x6' m' → J l D k 7 0 0 105 (wM ca am m' kp wa fo ta bo so ce ik td tk bg aa vl bd) [(0, .ref (am 0)), (1, .int x1), (2, .int x2), (3, .int x3), (4, .int x4), (5, .int x5'), (6, .int x6')] []) : ∀ (n : Nat) (x5 : Int32) (x6 : Int32) (m : Nat → Int32), wpl_X10_read_51 wa so ce x1 x2 x3  K n x5 x6 m → J l D k 7 0 0 51 (wM ca am m kp wa fo ta bo so ce ik td tk bg aa vl bd) [(0, .ref (am 0)), (1, .int x1), (2, .int x2), (3, .int x3), (4, .int x4), (5, .int x5), (6, .int x6)] [] := by
  intro n
  induction n with
  | zero =>
    intro x5 x6 m hw
    rw [wpl_X10_read_51] at hw
    exact hw.elim
  | succ n ih =>
    intro x5 x6 m hw
    rw [wpl_X10_read_51] at hw
    refine j_iload C 6 dX10_read_51 rfl ?_
    refine j_bipush C 126 dX10_read_53 (by decide) ?_
    refine j_icmp_ge C 105 dX10_read_55 (by decide) (fun z => ?_) (fun z => ?_)
    · replace hw := hw.1 z
      exact hK x5 x6 m hw
    · replace hw := hw.2 z
      refine j_aload_n C 0 dX10_read_58 rfl ?_
      refine j_iload_n C 2 dX10_read_59 rfl ?_
      refine j_iconst C 0 dX10_read_60 (by decide) ?_
      refine j_iload C 6 dX10_read_61 rfl ?_
      refine j_bipush C 21 dX10_read_63 (by decide) ?_
      refine j_idiv C dX10_read_65 (by decide) ?_
      refine j_cvT C hB 0 9 (fun u3 : (Nat → Int32) => (wM ca am u3 kp wa fo ta bo so ce ik td tk bg aa vl bd)) rfl (fun _ => rfl) (jr_V C lkV_X10_72 (c_X10_put am m kp wa fo ta bo so ce ik td tk bg aa vl bd x2 0 (x6 / 21) hw) ⟨rfl, rfl, by decide, by decide, by decide, by decide⟩ [0, 1, 2, 3, 4, 5, 6, 7, 8] (by decide) rfl (fx_rw C hB [0, 1, 2, 3, 4, 5, 6, 7, 8] rfl) 0 10 rfl rfl rfl rfl (Nat.le_of_ble_eq_true rfl) dX10_read_66) (fun u3 hw => ?_)
      refine j_aload_n C 0 dX10_read_69 rfl ?_
      refine j_iload_n C 3 dX10_read_70 rfl ?_
      refine j_iconst C 0 dX10_read_71 (by decide) ?_
      refine j_iload C 6 dX10_read_72 rfl ?_
      refine j_bipush C 21 dX10_read_74 (by decide) ?_
      refine j_irem C dX10_read_76 (by decide) ?_
      refine j_cvT C hB 0 9 (fun u4 : (Nat → Int32) => (wM ca am u4 kp wa fo ta bo so ce ik td tk bg aa vl bd)) rfl (fun _ => rfl) (jr_V C lkV_X10_97 (c_X10_gets am u3 kp wa fo ta bo so ce ik td tk bg aa vl bd x3 0 (x6 - x6 / 21 * 21) hw) ⟨rfl, rfl, by decide, by decide, by decide, by decide⟩ [0, 1, 2, 3, 4, 5, 6, 7, 8] (by decide) rfl (fx_rw C hB [0, 1, 2, 3, 4, 5, 6, 7, 8] rfl) 0 10 rfl rfl rfl rfl (Nat.le_of_ble_eq_true rfl) dX10_read_77) (fun u4 hw => ?_)
      refine j_iload C 5 dX10_read_80 rfl ?_
      refine j_aload_n C 0 dX10_read_82 rfl ?_
      refine j_iload_n C 1 dX10_read_83 rfl ?_
      refine j_iload_n C 2 dX10_read_84 rfl ?_
      refine j_ciT C hB 0 9 (fun u5 : (Nat → Int32) => (wM ca am u5 kp wa fo ta bo so ce ik td tk bg aa vl bd)) rfl (fun _ => rfl) (jr_V C lkV_X10_230 (c_X10_isBook am u4 kp wa fo ta bo so ce ik td tk bg aa vl bd x1 x2 hw) ⟨rfl, rfl, by decide, by decide, by decide, by decide⟩ [0, 1, 2, 3, 4, 5, 6, 7, 8] (by decide) rfl (fx_rw C hB [0, 1, 2, 3, 4, 5, 6, 7, 8] rfl) 0 10 rfl rfl rfl rfl (Nat.le_of_ble_eq_true rfl) dX10_read_85) (fun r5 u5 hw => ?_)
      refine j_if_eq C 95 dX10_read_88 (by decide) (fun z => ?_) (fun z => ?_)
      · replace hw := hw.1 z
        refine j_iconst C 0 dX10_read_95 (by decide) ?_
        refine j_iadd C dX10_read_96 ?_
        refine j_istore C [(5, .int (x5 + 0)), (0, .ref (am 0)), (1, .int x1), (2, .int x2), (3, .int x3), (4, .int x4), (6, .int x6)] dX10_read_97 (by decide) rfl ?_
        refine j_iinc C 6 (x6 + 1) [(6, .int (x6 + 1)), (5, .int (x5 + 0)), (0, .ref (am 0)), (1, .int x1), (2, .int x2), (3, .int x3), (4, .int x4)] dX10_read_99 rfl rfl (by decide) rfl ?_
        refine j_goto C 51 dX10_read_102 (by decide) ?_
        refine j_lsub [2, 3, 4, 5, 6, 1, 0] [(0, .ref (am 0)), (1, .int x1), (2, .int x2), (3, .int x3), (4, .int x4), (5, .int (x5 + 0)), (6, .int (x6 + 1))] rfl ?_
        exact ih (x5 + 0) (x6 + 1) u5 hw
      · replace hw := hw.2 z
        refine j_iconst C 1 dX10_read_91 (by decide) ?_
        refine j_goto C 96 dX10_read_92 (by decide) ?_
        refine j_iadd C dX10_read_96 ?_
        refine j_istore C [(5, .int (x5 + 1)), (0, .ref (am 0)), (1, .int x1), (2, .int x2), (3, .int x3), (4, .int x4), (6, .int x6)] dX10_read_97 (by decide) rfl ?_
        refine j_iinc C 6 (x6 + 1) [(6, .int (x6 + 1)), (5, .int (x5 + 1)), (0, .ref (am 0)), (1, .int x1), (2, .int x2), (3, .int x3), (4, .int x4)] dX10_read_99 rfl rfl (by decide) rfl ?_
        refine j_goto C 51 dX10_read_102 (by decide) ?_
        refine j_lsub [2, 3, 4, 5, 6, 1, 0] [(0, .ref (am 0)), (1, .int x1), (2, .int x2), (3, .int x3), (4, .int x4), (5, .int (x5 + 1)), (6, .int (x6 + 1))] rfl ?_
        exact ih (x5 + 1) (x6 + 1) u5 hw
set_option maxRecDepth 100000 in
set_option maxHeartbeats 8000000 in
theorem c_X10_read {l : Launch} {D : va_G} {ca : Nat → ClassId} {sd : Nat → Nat}  (am : Nat → Nat) (m : Nat → Int32) (kp : Nat → Int32) (wa : Nat → Int32) (fo : Nat → Int32) (ta : Nat → Int32) (bo : Nat → Int32) (so : Nat → Int32) (ce : Nat → Int64) (ik : Int32) (td : Int32) (tk : Int32) (bg : Int32) (aa : Int32) (vl : Int32) (bd : Int32)  (a1 : Int32) (a2 : Int32) (a3 : Int32)  {Q : (Int32) → (Nat → Int32) → (Nat → Int32) → (Nat → Int32) → Prop} (hw : wp_X10_read m wa fo bo so ce  a1 a2 a3 Q) : Cn l D ca sd yX10_read cX10_read 7 (some .int) { frames := 6, cells := 0, slots := 0, locals := 137 } [.ref (am 0), .int a1, .int a2, .int a3] (wM ca am m kp wa fo ta bo so ce ik td tk bg aa vl bd) (wM ca am m kp wa fo ta bo so ce ik td tk bg aa vl bd) 0 0 (Ri D (fun (r : Int32) (u : (Nat → Int32) × (Nat → Int32) × (Nat → Int32)) => Q r u.1 u.2.1 u.2.2) (fun u => (wM ca am u.1 kp u.2.1 u.2.2 ta bo so ce ik td tk bg aa vl bd))) := by
  refine cn_of (by decide) (Nat.le_of_ble_eq_true rfl) (fun k C hR hB _ => ?_)
  have C : Cx D ca sd cX10_read RX10 (some .int) { frames := 6, cells := 0, slots := 0, locals := 137 } k 7 := C
  unfold wp_X10_read at hw
  show J l D k 7 0 0 0 (wM ca am m kp wa fo ta bo so ce ik td tk bg aa vl bd) [(0, .ref (am 0)), (1, .int a1), (2, .int a2), (3, .int a3)] []
  refine j_aload_n C 0 dX10_read_0 rfl ?_
  refine j_iload_n C 1 dX10_read_1 rfl ?_
  refine j_iload_n C 2 dX10_read_2 rfl ?_
  refine j_ciZ C (jr_V C lkV_X10_227 (c_X10_notAsked am m kp wa fo ta bo so ce ik td tk bg aa vl bd a1 a2 hw) ⟨rfl, rfl, by decide, by decide, by decide, by decide⟩ [0, 1, 2, 3, 4, 5, 6, 7, 8] (by decide) rfl (fx_ro C) 0 10 rfl rfl rfl rfl (Nat.le_of_ble_eq_true rfl) dX10_read_3) (fun r1 u1 hw => ?_)
  refine j_istore C [(4, .int r1), (0, .ref (am 0)), (1, .int a1), (2, .int a2), (3, .int a3)] dX10_read_6 (by decide) rfl ?_
  refine j_iload C 0 dX10_read_8 rfl ?_
  refine j_if_ne C 25 dX10_read_10 (by decide) (fun z => ?_) (fun z => ?_)
  · replace hw := hw.2 z
    refine j_iload C 0 dX10_read_25 rfl ?_
    refine j_istore C [(4, .int r1), (0, .ref (am 0)), (1, .int a1), (2, .int a2), (3, .int a3)] dX10_read_27 (by decide) rfl ?_
    refine j_iload C 0 dX10_read_29 rfl ?_
    refine j_if_eq C 41 dX10_read_31 (by decide) (fun z => ?_) (fun z => ?_)
    · replace hw := hw.1 z
      refine j_aload_n C 1 dX10_read_41 rfl ?_
      refine j_cvT C hB 0 9 (fun u2 : (Nat → Int32) => (wM ca am m kp u2 fo ta bo so ce ik td tk bg aa vl bd)) rfl (fun _ => rfl) (jr_V C lkV_X10_141 (c_X10_thinks am m kp wa fo ta bo so ce ik td tk bg aa vl bd hw) ⟨rfl, rfl, by decide, by decide, by decide, by decide⟩ [0, 1, 2, 3, 4, 5, 6, 7, 8] (by decide) rfl (fx_rw C hB [0, 1, 2, 3, 4, 5, 6, 7, 8] rfl) 0 10 rfl rfl rfl rfl (Nat.le_of_ble_eq_true rfl) dX10_read_42) (fun u2 hw => ?_)
      refine j_iconst C 0 dX10_read_45 (by decide) ?_
      refine j_istore C [(5, .int 0), (4, .int r1), (0, .ref (am 0)), (1, .int a1), (2, .int a2), (3, .int a3)] dX10_read_46 (by decide) rfl ?_
      refine j_iconst C 0 dX10_read_48 (by decide) ?_
      refine j_istore C [(6, .int 0), (5, .int 0), (4, .int r1), (0, .ref (am 0)), (1, .int a1), (2, .int a2), (3, .int a3)] dX10_read_49 (by decide) rfl ?_
      refine j_lsub [3, 4, 5, 6, 2, 1, 0] [(0, .ref (am 0)), (1, .int a1), (2, .int a2), (3, .int a3), (4, .int r1), (5, .int 0), (6, .int 0)] rfl ?_
      obtain ⟨n6, hw⟩ := hw
      refine ml_X10_read_51 am  kp u2 fo ta bo so ce ik td tk bg aa vl bd a1 a2 a3 r1 C hR hB (fun y6_5 y6_6 y6_m hw => ?_) n6 0 0 m hw
      refine j_iload C 5 dX10_read_105 rfl ?_
      exact j_iret C hB hR (y6_m, u2, fo) rfl dX10_read_107 hw rfl
    · replace hw := hw.2 z
      refine j_aload_n C 1 dX10_read_34 rfl ?_
      refine j_iload C 0 dX10_read_35 rfl ?_
      refine j_ciT C hB 0 9 (fun u7 : (Nat → Int32) => (wM ca am m kp wa u7 ta bo so ce ik td tk bg aa vl bd)) rfl (fun _ => rfl) (jr_V C lkV_X10_37 (c_X10_finds am m kp wa fo ta bo so ce ik td tk bg aa vl bd r1 hw) ⟨rfl, rfl, by decide, by decide, by decide, by decide⟩ [0, 1, 2, 3, 4, 5, 6, 7, 8] (by decide) rfl (fx_rw C hB [0, 1, 2, 3, 4, 5, 6, 7, 8] rfl) 0 10 rfl rfl rfl rfl (Nat.le_of_ble_eq_true rfl) dX10_read_37) (fun r7 u7 hw => ?_)
      exact j_iret C hB hR (m, wa, u7) rfl dX10_read_40 hw rfl
  · replace hw := hw.1 z
    refine j_iload_n C 4 dX10_read_13 rfl ?_
    refine j_ciZ C (jr_S C lkS_X10_49 (c_X10_isPerson a3 hw) ⟨rfl, rfl, by decide, by decide, by decide, by decide⟩ [] (by decide) rfl (fx_ro C) rfl rfl (Nat.le_of_ble_eq_true rfl) dX10_read_14) (fun r8 u8 hw => ?_)
    refine j_if_ne C 25 dX10_read_17 (by decide) (fun z => ?_) (fun z => ?_)
    · replace hw := hw.2 z
      refine j_iload C 0 dX10_read_25 rfl ?_
      refine j_istore C [(4, .int r1), (0, .ref (am 0)), (1, .int a1), (2, .int a2), (3, .int a3)] dX10_read_27 (by decide) rfl ?_
      refine j_iload C 0 dX10_read_29 rfl ?_
      refine j_if_eq C 41 dX10_read_31 (by decide) (fun z => ?_) (fun z => ?_)
      · replace hw := hw.1 z
        refine j_aload_n C 1 dX10_read_41 rfl ?_
        refine j_cvT C hB 0 9 (fun u9 : (Nat → Int32) => (wM ca am m kp u9 fo ta bo so ce ik td tk bg aa vl bd)) rfl (fun _ => rfl) (jr_V C lkV_X10_141 (c_X10_thinks am m kp wa fo ta bo so ce ik td tk bg aa vl bd hw) ⟨rfl, rfl, by decide, by decide, by decide, by decide⟩ [0, 1, 2, 3, 4, 5, 6, 7, 8] (by decide) rfl (fx_rw C hB [0, 1, 2, 3, 4, 5, 6, 7, 8] rfl) 0 10 rfl rfl rfl rfl (Nat.le_of_ble_eq_true rfl) dX10_read_42) (fun u9 hw => ?_)
        refine j_iconst C 0 dX10_read_45 (by decide) ?_
        refine j_istore C [(5, .int 0), (4, .int r1), (0, .ref (am 0)), (1, .int a1), (2, .int a2), (3, .int a3)] dX10_read_46 (by decide) rfl ?_
        refine j_iconst C 0 dX10_read_48 (by decide) ?_
        refine j_istore C [(6, .int 0), (5, .int 0), (4, .int r1), (0, .ref (am 0)), (1, .int a1), (2, .int a2), (3, .int a3)] dX10_read_49 (by decide) rfl ?_
        refine j_lsub [3, 4, 5, 6, 2, 1, 0] [(0, .ref (am 0)), (1, .int a1), (2, .int a2), (3, .int a3), (4, .int r1), (5, .int 0), (6, .int 0)] rfl ?_
        obtain ⟨n10, hw⟩ := hw
        refine ml_X10_read_51 am  kp u9 fo ta bo so ce ik td tk bg aa vl bd a1 a2 a3 r1 C hR hB (fun y10_5 y10_6 y10_m hw => ?_) n10 0 0 m hw
        refine j_iload C 5 dX10_read_105 rfl ?_
        exact j_iret C hB hR (y10_m, u9, fo) rfl dX10_read_107 hw rfl
      · replace hw := hw.2 z
        refine j_aload_n C 1 dX10_read_34 rfl ?_
        refine j_iload C 0 dX10_read_35 rfl ?_
        refine j_ciT C hB 0 9 (fun u11 : (Nat → Int32) => (wM ca am m kp wa u11 ta bo so ce ik td tk bg aa vl bd)) rfl (fun _ => rfl) (jr_V C lkV_X10_37 (c_X10_finds am m kp wa fo ta bo so ce ik td tk bg aa vl bd r1 hw) ⟨rfl, rfl, by decide, by decide, by decide, by decide⟩ [0, 1, 2, 3, 4, 5, 6, 7, 8] (by decide) rfl (fx_rw C hB [0, 1, 2, 3, 4, 5, 6, 7, 8] rfl) 0 10 rfl rfl rfl rfl (Nat.le_of_ble_eq_true rfl) dX10_read_37) (fun r11 u11 hw => ?_)
        exact j_iret C hB hR (m, wa, u11) rfl dX10_read_40 hw rfl
    · replace hw := hw.1 z
      refine j_ldc C dX10_read_20 ct_X10_35 ?_
      refine j_goto C 27 dX10_read_22 (by decide) ?_
      refine j_istore C [(4, .int (-1000000001)), (0, .ref (am 0)), (1, .int a1), (2, .int a2), (3, .int a3)] dX10_read_27 (by decide) rfl ?_
      refine j_iload C 0 dX10_read_29 rfl ?_
      refine j_if_eq C 41 dX10_read_31 (by decide) (fun z => absurd z (by decide)) (fun _ => ?_)
      refine j_aload_n C 1 dX10_read_34 rfl ?_
      refine j_iload C 0 dX10_read_35 rfl ?_
      refine j_ciT C hB 0 9 (fun u12 : (Nat → Int32) => (wM ca am m kp wa u12 ta bo so ce ik td tk bg aa vl bd)) rfl (fun _ => rfl) (jr_V C lkV_X10_37 (c_X10_finds am m kp wa fo ta bo so ce ik td tk bg aa vl bd (-1000000001) hw) ⟨rfl, rfl, by decide, by decide, by decide, by decide⟩ [0, 1, 2, 3, 4, 5, 6, 7, 8] (by decide) rfl (fx_rw C hB [0, 1, 2, 3, 4, 5, 6, 7, 8] rfl) 0 10 rfl rfl rfl rfl (Nat.le_of_ble_eq_true rfl) dX10_read_37) (fun r12 u12 hw => ?_)
      exact j_iret C hB hR (m, wa, u12) rfl dX10_read_40 hw rfl
def wp_X10_image (m : Nat → Int32) (kp : Nat → Int32)   (Q : (Int32) → (Nat → Int32) → (Int32) → Prop) : Prop := wp_X10_copyAll m kp (fun c1_0 => Q 1 c1_0 1)
set_option maxRecDepth 100000 in
set_option maxHeartbeats 8000000 in
theorem c_X10_image {l : Launch} {D : va_G} {ca : Nat → ClassId} {sd : Nat → Nat}  (am : Nat → Nat) (m : Nat → Int32) (kp : Nat → Int32) (wa : Nat → Int32) (fo : Nat → Int32) (ta : Nat → Int32) (bo : Nat → Int32) (so : Nat → Int32) (ce : Nat → Int64) (ik : Int32) (td : Int32) (tk : Int32) (bg : Int32) (aa : Int32) (vl : Int32) (bd : Int32)    {Q : (Int32) → (Nat → Int32) → (Int32) → Prop} (hw : wp_X10_image m kp   Q) : Cn l D ca sd yX10_image cX10_image 1 (some .int) { frames := 1, cells := 0, slots := 0, locals := 22 } [.ref (am 0)] (wM ca am m kp wa fo ta bo so ce ik td tk bg aa vl bd) (wM ca am m kp wa fo ta bo so ce ik td tk bg aa vl bd) 0 0 (Ri D (fun (r : Int32) (u : (Nat → Int32) × (Int32)) => Q r u.1 u.2) (fun u => (wM ca am m u.1 wa fo ta bo so ce u.2 td tk bg aa vl bd))) := by
  refine cn_of (by decide) (Nat.le_of_ble_eq_true rfl) (fun k C hR hB _ => ?_)
  have C : Cx D ca sd cX10_image RX10 (some .int) { frames := 1, cells := 0, slots := 0, locals := 22 } k 1 := C
  unfold wp_X10_image at hw
  show J l D k 1 0 0 0 (wM ca am m kp wa fo ta bo so ce ik td tk bg aa vl bd) [(0, .ref (am 0))] []
  refine j_aload_n C 0 dX10_image_0 rfl ?_
  refine j_get C fl_X10_9_10 0 dX10_image_1 rfl rfl ?_
  refine j_aload_n C 0 dX10_image_4 rfl ?_
  refine j_get C fl_X10_13_10 0 dX10_image_5 rfl rfl ?_
  refine j_cvT C hB 1 3 (fun u1 : (Nat → Int32) => (wM ca am m u1 wa fo ta bo so ce ik td tk bg aa vl bd)) rfl (fun _ => rfl) (jr_S C lkS_X10_137 (c_X10_copyAll (am 1) (am 2) m kp hw) ⟨rfl, rfl, by decide, by decide, by decide, by decide⟩ [1, 2] (by decide) rfl (fx_rw C hB [1, 2] rfl) rfl rfl (Nat.le_of_ble_eq_true rfl) dX10_image_8) (fun u1 hw => ?_)
  refine j_aload_n C 0 dX10_image_11 rfl ?_
  refine j_iconst C 1 dX10_image_12 (by decide) ?_
  refine j_put C hB fw_X10_233_10 0 (wM ca am m u1 wa fo ta bo so ce 1 td tk bg aa vl bd) dX10_image_13 rfl (by decide) (by decide) (Nat.le_of_ble_eq_true rfl) rfl ?_
  refine j_iconst C 1 dX10_image_16 (by decide) ?_
  exact j_iret C hB hR (u1, 1) rfl dX10_image_17 hw rfl
def wp_X10_undo (m : Nat → Int32) (kp : Nat → Int32) (fo : Nat → Int32) (ik : Int32)   (Q : (Int32) → (Nat → Int32) → (Nat → Int32) → Prop) : Prop := (ik = 0 → wp_X10_finds fo (-1000000004) (fun r3 c3_0 => Q r3 m c3_0)) ∧ (¬ (ik = 0) → wp_X10_copyAll kp m (fun c1_0 => vp_in 1 52 ∧ (Q (c1_0 ((1 : Int32).toNatClampNeg)) c1_0 fo)))
set_option maxRecDepth 100000 in
set_option maxHeartbeats 8000000 in
theorem c_X10_undo {l : Launch} {D : va_G} {ca : Nat → ClassId} {sd : Nat → Nat}  (am : Nat → Nat) (m : Nat → Int32) (kp : Nat → Int32) (wa : Nat → Int32) (fo : Nat → Int32) (ta : Nat → Int32) (bo : Nat → Int32) (so : Nat → Int32) (ce : Nat → Int64) (ik : Int32) (td : Int32) (tk : Int32) (bg : Int32) (aa : Int32) (vl : Int32) (bd : Int32)    {Q : (Int32) → (Nat → Int32) → (Nat → Int32) → Prop} (hw : wp_X10_undo m kp fo ik   Q) : Cn l D ca sd yX10_undo cX10_undo 1 (some .int) { frames := 1, cells := 0, slots := 0, locals := 22 } [.ref (am 0)] (wM ca am m kp wa fo ta bo so ce ik td tk bg aa vl bd) (wM ca am m kp wa fo ta bo so ce ik td tk bg aa vl bd) 0 0 (Ri D (fun (r : Int32) (u : (Nat → Int32) × (Nat → Int32)) => Q r u.1 u.2) (fun u => (wM ca am u.1 kp wa u.2 ta bo so ce ik td tk bg aa vl bd))) := by
  refine cn_of (by decide) (Nat.le_of_ble_eq_true rfl) (fun k C hR hB _ => ?_)
  have C : Cx D ca sd cX10_undo RX10 (some .int) { frames := 1, cells := 0, slots := 0, locals := 22 } k 1 := C
  unfold wp_X10_undo at hw
  show J l D k 1 0 0 0 (wM ca am m kp wa fo ta bo so ce ik td tk bg aa vl bd) [(0, .ref (am 0))] []
  refine j_aload_n C 0 dX10_undo_0 rfl ?_
  refine j_get C fl_X10_233_10 0 dX10_undo_1 rfl rfl ?_
  refine j_if_ne C 14 dX10_undo_4 (by decide) (fun z => ?_) (fun z => ?_)
  · replace hw := hw.2 z
    refine j_aload_n C 0 dX10_undo_14 rfl ?_
    refine j_get C fl_X10_13_10 0 dX10_undo_15 rfl rfl ?_
    refine j_aload_n C 0 dX10_undo_18 rfl ?_
    refine j_get C fl_X10_9_10 0 dX10_undo_19 rfl rfl ?_
    refine j_cvP C hB [2, 1] [0, 3, 4, 5, 6, 7, 8] [0, 8, 7, 1, 2, 3, 4, 5, 6] (fun u1 : (Nat → Int32) => (wM ca am u1 kp wa fo ta bo so ce ik td tk bg aa vl bd)) (([0, 3, 4, 5, 6, 7, 8] : List Nat).filterMap (fun i => (wM ca am m kp wa fo ta bo so ce ik td tk bg aa vl bd)[i]?)) rfl rfl rfl (by decide) rfl (fun _ => rfl) (jr_S C lkS_X10_137 (c_X10_copyAll (am 2) (am 1) kp m hw) ⟨rfl, rfl, by decide, by decide, by decide, by decide⟩ [2, 1] (by decide) rfl (fx_rw C hB [2, 1] rfl) rfl rfl (Nat.le_of_ble_eq_true rfl) dX10_undo_22) (fun u1 hw => ?_)
    refine j_aload_n C 0 dX10_undo_25 rfl ?_
    refine j_get C fl_X10_9_10 0 dX10_undo_26 rfl rfl ?_
    refine j_iconst C 1 dX10_undo_29 (by decide) ?_
    have hi2 := hw.1
    replace hw := hw.2
    refine j_iald C 1 dX10_undo_30 rfl hi2 ?_
    exact j_iret C hB hR (u1, fo) rfl dX10_undo_31 hw rfl
  · replace hw := hw.1 z
    refine j_aload_n C 0 dX10_undo_7 rfl ?_
    refine j_ldc C dX10_undo_8 ct_X10_36 ?_
    refine j_ciT C hB 0 9 (fun u3 : (Nat → Int32) => (wM ca am m kp wa u3 ta bo so ce ik td tk bg aa vl bd)) rfl (fun _ => rfl) (jr_V C lkV_X10_37 (c_X10_finds am m kp wa fo ta bo so ce ik td tk bg aa vl bd (-1000000004) hw) ⟨rfl, rfl, by decide, by decide, by decide, by decide⟩ [0, 1, 2, 3, 4, 5, 6, 7, 8] (by decide) rfl (fx_rw C hB [0, 1, 2, 3, 4, 5, 6, 7, 8] rfl) 0 10 rfl rfl rfl rfl (Nat.le_of_ble_eq_true rfl) dX10_undo_10) (fun r3 u3 hw => ?_)
    exact j_iret C hB hR (m, u3) rfl dX10_undo_13 hw rfl
def wp_X10_tear (ik : Int32)   (Q : (Int32) → (Int32) → Prop) : Prop := (ik = 0 → Q 0 0) ∧ (¬ (ik = 0) → Q 1 0)
set_option maxRecDepth 100000 in
set_option maxHeartbeats 8000000 in
theorem c_X10_tear {l : Launch} {D : va_G} {ca : Nat → ClassId} {sd : Nat → Nat}  (am : Nat → Nat) (m : Nat → Int32) (kp : Nat → Int32) (wa : Nat → Int32) (fo : Nat → Int32) (ta : Nat → Int32) (bo : Nat → Int32) (so : Nat → Int32) (ce : Nat → Int64) (ik : Int32) (td : Int32) (tk : Int32) (bg : Int32) (aa : Int32) (vl : Int32) (bd : Int32)    {Q : (Int32) → (Int32) → Prop} (hw : wp_X10_tear ik   Q) : Cn l D ca sd yX10_tear cX10_tear 2 (some .int) { frames := 0, cells := 0, slots := 0, locals := 0 } [.ref (am 0)] (wM ca am m kp wa fo ta bo so ce ik td tk bg aa vl bd) (wM ca am m kp wa fo ta bo so ce ik td tk bg aa vl bd) 0 0 (Ri D (fun (r : Int32) (u : (Int32)) => Q r u) (fun u => (wM ca am m kp wa fo ta bo so ce u td tk bg aa vl bd))) := by
  refine cn_of (by decide) (Nat.le_of_ble_eq_true rfl) (fun k C hR hB _ => ?_)
  have C : Cx D ca sd cX10_tear RX10 (some .int) { frames := 0, cells := 0, slots := 0, locals := 0 } k 2 := C
  unfold wp_X10_tear at hw
  show J l D k 2 0 0 0 (wM ca am m kp wa fo ta bo so ce ik td tk bg aa vl bd) [(0, .ref (am 0))] []
  refine j_aload_n C 0 dX10_tear_0 rfl ?_
  refine j_get C fl_X10_233_10 0 dX10_tear_1 rfl rfl ?_
  refine j_if_eq C 11 dX10_tear_4 (by decide) (fun z => ?_) (fun z => ?_)
  · replace hw := hw.1 z
    refine j_iconst C 0 dX10_tear_11 (by decide) ?_
    refine j_istore_n C [(1, .int 0), (0, .ref (am 0))] dX10_tear_12 (by decide) rfl ?_
    refine j_aload_n C 1 dX10_tear_13 rfl ?_
    refine j_iconst C 0 dX10_tear_14 (by decide) ?_
    refine j_put C hB fw_X10_233_10 0 (wM ca am m kp wa fo ta bo so ce 0 td tk bg aa vl bd) dX10_tear_15 rfl (by decide) (by decide) (Nat.le_of_ble_eq_true rfl) rfl ?_
    refine j_iload_n C 0 dX10_tear_18 rfl ?_
    exact j_iret C hB hR 0 rfl dX10_tear_19 hw rfl
  · replace hw := hw.2 z
    refine j_iconst C 1 dX10_tear_7 (by decide) ?_
    refine j_goto C 12 dX10_tear_8 (by decide) ?_
    refine j_istore_n C [(1, .int 1), (0, .ref (am 0))] dX10_tear_12 (by decide) rfl ?_
    refine j_aload_n C 1 dX10_tear_13 rfl ?_
    refine j_iconst C 0 dX10_tear_14 (by decide) ?_
    refine j_put C hB fw_X10_233_10 0 (wM ca am m kp wa fo ta bo so ce 0 td tk bg aa vl bd) dX10_tear_15 rfl (by decide) (by decide) (Nat.le_of_ble_eq_true rfl) rfl ?_
    refine j_iload_n C 0 dX10_tear_18 rfl ?_
    exact j_iret C hB hR 0 rfl dX10_tear_19 hw rfl
def wp_X10_count (m : Nat → Int32) (fo : Nat → Int32) (td : Int32)  (a1 : Int32) (Q : (Int32) → (Nat → Int32) → Prop) : Prop := (a1 = 0 → vp_in 1 52 ∧ (Q (m ((1 : Int32).toNatClampNeg)) fo)) ∧ (¬ (a1 = 0) → (a1 = 1 → Q td fo) ∧ (¬ (a1 = 1) → (a1 = 2 → wp_X10_howMany m (fun r2 => Q r2 fo)) ∧ (¬ (a1 = 2) → (a1 = 3 → wp_X10_sums m 3 (fun r3 => Q r3 fo)) ∧ (¬ (a1 = 3) → wp_X10_finds fo (-1000000001) (fun r4 c4_0 => Q r4 c4_0)))))
set_option maxRecDepth 100000 in
set_option maxHeartbeats 8000000 in
theorem c_X10_count {l : Launch} {D : va_G} {ca : Nat → ClassId} {sd : Nat → Nat}  (am : Nat → Nat) (m : Nat → Int32) (kp : Nat → Int32) (wa : Nat → Int32) (fo : Nat → Int32) (ta : Nat → Int32) (bo : Nat → Int32) (so : Nat → Int32) (ce : Nat → Int64) (ik : Int32) (td : Int32) (tk : Int32) (bg : Int32) (aa : Int32) (vl : Int32) (bd : Int32)  (a1 : Int32)  {Q : (Int32) → (Nat → Int32) → Prop} (hw : wp_X10_count m fo td  a1 Q) : Cn l D ca sd yX10_count cX10_count 2 (some .int) { frames := 3, cells := 0, slots := 0, locals := 65 } [.ref (am 0), .int a1] (wM ca am m kp wa fo ta bo so ce ik td tk bg aa vl bd) (wM ca am m kp wa fo ta bo so ce ik td tk bg aa vl bd) 0 0 (Ri D (fun (r : Int32) (u : (Nat → Int32)) => Q r u) (fun u => (wM ca am m kp wa u ta bo so ce ik td tk bg aa vl bd))) := by
  refine cn_of (by decide) (Nat.le_of_ble_eq_true rfl) (fun k C hR hB _ => ?_)
  have C : Cx D ca sd cX10_count RX10 (some .int) { frames := 3, cells := 0, slots := 0, locals := 65 } k 2 := C
  unfold wp_X10_count at hw
  show J l D k 2 0 0 0 (wM ca am m kp wa fo ta bo so ce ik td tk bg aa vl bd) [(0, .ref (am 0)), (1, .int a1)] []
  refine j_iload_n C 1 dX10_count_0 rfl ?_
  by_cases z1 : a1 = 0
  · replace hw := hw.1 z1
    refine j_tabIn (off := 31) C 0 32 dX10_count_1 z1 (by decide) (by decide) (by decide) (by decide) ?_
    refine j_aload_n C 0 dX10_count_32 rfl ?_
    refine j_get C fl_X10_9_10 0 dX10_count_33 rfl rfl ?_
    refine j_iconst C 1 dX10_count_36 (by decide) ?_
    have hi1 := hw.1
    replace hw := hw.2
    refine j_iald C 1 dX10_count_37 rfl hi1 ?_
    exact j_iret C hB hR fo rfl dX10_count_38 hw rfl
  · replace hw := hw.2 z1
    by_cases z2 : a1 = 1
    · replace hw := hw.1 z2
      refine j_tabIn (off := 38) C 1 39 dX10_count_1 z2 (by decide) (by decide) (by decide) (by decide) ?_
      refine j_aload_n C 0 dX10_count_39 rfl ?_
      refine j_get C fl_X10_157_10 0 dX10_count_40 rfl rfl ?_
      exact j_iret C hB hR fo rfl dX10_count_43 hw rfl
    · replace hw := hw.2 z2
      by_cases z3 : a1 = 2
      · replace hw := hw.1 z3
        refine j_tabIn (off := 43) C 2 44 dX10_count_1 z3 (by decide) (by decide) (by decide) (by decide) ?_
        refine j_aload_n C 0 dX10_count_44 rfl ?_
        refine j_ciZ C (jr_V C lkV_X10_236 (c_X10_howMany am m kp wa fo ta bo so ce ik td tk bg aa vl bd hw) ⟨rfl, rfl, by decide, by decide, by decide, by decide⟩ [0, 1, 2, 3, 4, 5, 6, 7, 8] (by decide) rfl (fx_ro C) 0 10 rfl rfl rfl rfl (Nat.le_of_ble_eq_true rfl) dX10_count_45) (fun r2 u2 hw => ?_)
        exact j_iret C hB hR fo rfl dX10_count_48 hw rfl
      · replace hw := hw.2 z3
        by_cases z4 : a1 = 3
        · replace hw := hw.1 z4
          refine j_tabIn (off := 48) C 3 49 dX10_count_1 z4 (by decide) (by decide) (by decide) (by decide) ?_
          refine j_aload_n C 0 dX10_count_49 rfl ?_
          refine j_iconst C 3 dX10_count_50 (by decide) ?_
          refine j_ciZ C (jr_V C lkV_X10_131 (c_X10_sums am m kp wa fo ta bo so ce ik td tk bg aa vl bd 3 hw) ⟨rfl, rfl, by decide, by decide, by decide, by decide⟩ [0, 1, 2, 3, 4, 5, 6, 7, 8] (by decide) rfl (fx_ro C) 0 10 rfl rfl rfl rfl (Nat.le_of_ble_eq_true rfl) dX10_count_51) (fun r3 u3 hw => ?_)
          exact j_iret C hB hR fo rfl dX10_count_54 hw rfl
        · replace hw := hw.2 z4
          refine j_tabOut C 55 dX10_count_1 (by have qz1 := lv_neT z1 (show (0 : Int32).toInt = 0 from rfl); have qz2 := lv_neT z2 (show (1 : Int32).toInt = 1 from rfl); have qz3 := lv_neT z3 (show (2 : Int32).toInt = 2 from rfl); have qz4 := lv_neT z4 (show (3 : Int32).toInt = 3 from rfl); omega) (by decide) ?_
          refine j_aload_n C 0 dX10_count_55 rfl ?_
          refine j_ldc C dX10_count_56 ct_X10_35 ?_
          refine j_ciT C hB 0 9 (fun u4 : (Nat → Int32) => (wM ca am m kp wa u4 ta bo so ce ik td tk bg aa vl bd)) rfl (fun _ => rfl) (jr_V C lkV_X10_37 (c_X10_finds am m kp wa fo ta bo so ce ik td tk bg aa vl bd (-1000000001) hw) ⟨rfl, rfl, by decide, by decide, by decide, by decide⟩ [0, 1, 2, 3, 4, 5, 6, 7, 8] (by decide) rfl (fx_rw C hB [0, 1, 2, 3, 4, 5, 6, 7, 8] rfl) 0 10 rfl rfl rfl rfl (Nat.le_of_ble_eq_true rfl) dX10_count_58) (fun r4 u4 hw => ?_)
          exact j_iret C hB hR u4 rfl dX10_count_61 hw rfl
def wpl_X10_status_22 (fo : Nat → Int32) (x1 : Int32) (K : (Int32) → (Int32) → Prop) : Nat → (Int32) → (Int32) → Prop
  | 0, _, _ => False
  | n + 1, x2, x3 => (7 ≤ x3 → K x2 x3) ∧ (¬ (7 ≤ x3) → (x1 < 0 → vp_in x3 7 ∧ (wpl_X10_status_22 fo x1  K n (x2 + (fo (x3.toNatClampNeg))) (x3 + 1))) ∧ (¬ (x1 < 0) → (x1 = x3 → vp_in x3 7 ∧ (wpl_X10_status_22 fo x1  K n (x2 + (fo (x3.toNatClampNeg))) (x3 + 1))) ∧ (¬ (x1 = x3) → wpl_X10_status_22 fo x1  K n (x2 + 0) (x3 + 1))))
def wp_X10_status (fo : Nat → Int32)  (a1 : Int32) (Q : (Int32) → (Nat → Int32) → Prop) : Prop := wp_X10_in ((a1).toInt64) (-1) 6 (fun r1 => (r1 = 0 → wp_X10_finds fo (-1000000001) (fun r5 c5_0 => Q r5 c5_0)) ∧ (¬ (r1 = 0) → ∃ n4 : Nat, wpl_X10_status_22 fo a1  (fun y4_2 y4_3 => Q y4_2 fo) n4 0 0))
set_option maxRecDepth 100000 in
set_option maxHeartbeats 8000000 in
theorem ml_X10_status_22 {l : Launch} {D : va_G} {ca : Nat → ClassId} {sd : Nat → Nat}  {k : Kx} (am : Nat → Nat)  (m : Nat → Int32) (kp : Nat → Int32) (wa : Nat → Int32) (fo : Nat → Int32) (ta : Nat → Int32) (bo : Nat → Int32) (so : Nat → Int32) (ce : Nat → Int64) (ik : Int32) (td : Int32) (tk : Int32) (bg : Int32) (aa : Int32) (vl : Int32) (bd : Int32) (x1 : Int32) (C : Cx D ca sd cX10_status RX10 (some .int) { frames := 1, cells := 0, slots := 0, locals := 23 } k 4) {Q : (Int32) → (Nat → Int32) → Prop} (hR : Rx (Ri D (fun (r : Int32) (u : (Nat → Int32)) => Q r u) (fun u => (wM ca am m kp wa u ta bo so ce ik td tk bg aa vl bd))) 0 0 k) (hB : Wx k) {K : (Int32) → (Int32) → Prop} (hK : ∀ (x2' : Int32) (x3' : Int32), K x2' x3' → J l D k 4 0 0 56 (wM ca am m kp wa fo ta bo so ce ik td tk bg aa vl bd) [(0, .ref (am 0)), (1, .int x1), (2, .int x2'), (3, .int x3')] []) : ∀ (n : Nat) (x2 : Int32) (x3 : Int32), wpl_X10_status_22 fo x1  K n x2 x3 → J l D k 4 0 0 22 (wM ca am m kp wa fo ta bo so ce ik td tk bg aa vl bd) [(0, .ref (am 0)), (1, .int x1), (2, .int x2), (3, .int x3)] [] := by
  intro n
  induction n with
  | zero =>
    intro x2 x3 hw
    rw [wpl_X10_status_22] at hw
    exact hw.elim
  | succ n ih =>
    intro x2 x3 hw
    rw [wpl_X10_status_22] at hw
    refine j_iload_n C 3 dX10_status_22 rfl ?_
    refine j_bipush C 7 dX10_status_23 (by decide) ?_
    refine j_icmp_ge C 56 dX10_status_25 (by decide) (fun z => ?_) (fun z => ?_)
    · replace hw := hw.1 z
      exact hK x2 x3 hw
    · replace hw := hw.2 z
      refine j_iload_n C 2 dX10_status_28 rfl ?_
      refine j_iload_n C 1 dX10_status_29 rfl ?_
      refine j_if_lt C 38 dX10_status_30 (by decide) (fun z => ?_) (fun z => ?_)
      · replace hw := hw.1 z
        refine j_aload_n C 0 dX10_status_38 rfl ?_
        refine j_get C fl_X10_19_10 0 dX10_status_39 rfl rfl ?_
        refine j_iload_n C 3 dX10_status_42 rfl ?_
        have hi2 := hw.1
        replace hw := hw.2
        refine j_iald C 4 dX10_status_43 rfl hi2 ?_
        refine j_goto C 48 dX10_status_44 (by decide) ?_
        refine j_iadd C dX10_status_48 ?_
        refine j_istore_n C [(2, .int (x2 + (fo (x3.toNatClampNeg)))), (0, .ref (am 0)), (1, .int x1), (3, .int x3)] dX10_status_49 (by decide) rfl ?_
        refine j_iinc C 3 (x3 + 1) [(3, .int (x3 + 1)), (2, .int (x2 + (fo (x3.toNatClampNeg)))), (0, .ref (am 0)), (1, .int x1)] dX10_status_50 rfl rfl (by decide) rfl ?_
        refine j_goto C 22 dX10_status_53 (by decide) ?_
        refine j_lsub [2, 3, 1, 0] [(0, .ref (am 0)), (1, .int x1), (2, .int (x2 + (fo (x3.toNatClampNeg)))), (3, .int (x3 + 1))] rfl ?_
        exact ih (x2 + (fo (x3.toNatClampNeg))) (x3 + 1) hw
      · replace hw := hw.2 z
        refine j_iload_n C 1 dX10_status_33 rfl ?_
        refine j_iload_n C 3 dX10_status_34 rfl ?_
        refine j_icmp_ne C 47 dX10_status_35 (by decide) (fun z => ?_) (fun z => ?_)
        · replace hw := hw.2 z
          refine j_iconst C 0 dX10_status_47 (by decide) ?_
          refine j_iadd C dX10_status_48 ?_
          refine j_istore_n C [(2, .int (x2 + 0)), (0, .ref (am 0)), (1, .int x1), (3, .int x3)] dX10_status_49 (by decide) rfl ?_
          refine j_iinc C 3 (x3 + 1) [(3, .int (x3 + 1)), (2, .int (x2 + 0)), (0, .ref (am 0)), (1, .int x1)] dX10_status_50 rfl rfl (by decide) rfl ?_
          refine j_goto C 22 dX10_status_53 (by decide) ?_
          refine j_lsub [2, 3, 1, 0] [(0, .ref (am 0)), (1, .int x1), (2, .int (x2 + 0)), (3, .int (x3 + 1))] rfl ?_
          exact ih (x2 + 0) (x3 + 1) hw
        · replace hw := hw.1 z
          refine j_aload_n C 0 dX10_status_38 rfl ?_
          refine j_get C fl_X10_19_10 0 dX10_status_39 rfl rfl ?_
          refine j_iload_n C 3 dX10_status_42 rfl ?_
          have hi3 := hw.1
          replace hw := hw.2
          refine j_iald C 4 dX10_status_43 rfl hi3 ?_
          refine j_goto C 48 dX10_status_44 (by decide) ?_
          refine j_iadd C dX10_status_48 ?_
          refine j_istore_n C [(2, .int (x2 + (fo (x3.toNatClampNeg)))), (0, .ref (am 0)), (1, .int x1), (3, .int x3)] dX10_status_49 (by decide) rfl ?_
          refine j_iinc C 3 (x3 + 1) [(3, .int (x3 + 1)), (2, .int (x2 + (fo (x3.toNatClampNeg)))), (0, .ref (am 0)), (1, .int x1)] dX10_status_50 rfl rfl (by decide) rfl ?_
          refine j_goto C 22 dX10_status_53 (by decide) ?_
          refine j_lsub [2, 3, 1, 0] [(0, .ref (am 0)), (1, .int x1), (2, .int (x2 + (fo (x3.toNatClampNeg)))), (3, .int (x3 + 1))] rfl ?_
          exact ih (x2 + (fo (x3.toNatClampNeg))) (x3 + 1) hw
set_option maxRecDepth 100000 in
set_option maxHeartbeats 8000000 in
theorem c_X10_status {l : Launch} {D : va_G} {ca : Nat → ClassId} {sd : Nat → Nat}  (am : Nat → Nat) (m : Nat → Int32) (kp : Nat → Int32) (wa : Nat → Int32) (fo : Nat → Int32) (ta : Nat → Int32) (bo : Nat → Int32) (so : Nat → Int32) (ce : Nat → Int64) (ik : Int32) (td : Int32) (tk : Int32) (bg : Int32) (aa : Int32) (vl : Int32) (bd : Int32)  (a1 : Int32)  {Q : (Int32) → (Nat → Int32) → Prop} (hw : wp_X10_status fo  a1 Q) : Cn l D ca sd yX10_status cX10_status 4 (some .int) { frames := 1, cells := 0, slots := 0, locals := 23 } [.ref (am 0), .int a1] (wM ca am m kp wa fo ta bo so ce ik td tk bg aa vl bd) (wM ca am m kp wa fo ta bo so ce ik td tk bg aa vl bd) 0 0 (Ri D (fun (r : Int32) (u : (Nat → Int32)) => Q r u) (fun u => (wM ca am m kp wa u ta bo so ce ik td tk bg aa vl bd))) := by
  refine cn_of (by decide) (Nat.le_of_ble_eq_true rfl) (fun k C hR hB _ => ?_)
  have C : Cx D ca sd cX10_status RX10 (some .int) { frames := 1, cells := 0, slots := 0, locals := 23 } k 4 := C
  unfold wp_X10_status at hw
  show J l D k 4 0 0 0 (wM ca am m kp wa fo ta bo so ce ik td tk bg aa vl bd) [(0, .ref (am 0)), (1, .int a1)] []
  refine j_iload_n C 1 dX10_status_0 rfl ?_
  refine j_i2l C dX10_status_1 ?_
  refine j_iconst C (-1) dX10_status_2 (by decide) ?_
  refine j_bipush C 6 dX10_status_3 (by decide) ?_
  refine j_ciZ C (jr_S C lkS_X10_41 (c_X10_in ((a1).toInt64) (-1) 6 hw) ⟨rfl, rfl, by decide, by decide, by decide, by decide⟩ [] (by decide) rfl (fx_ro C) rfl rfl (Nat.le_of_ble_eq_true rfl) dX10_status_5) (fun r1 u1 hw => ?_)
  refine j_if_ne C 18 dX10_status_8 (by decide) (fun z => ?_) (fun z => ?_)
  · replace hw := hw.2 z
    refine j_iconst C 0 dX10_status_18 (by decide) ?_
    refine j_istore_n C [(2, .int 0), (0, .ref (am 0)), (1, .int a1)] dX10_status_19 (by decide) rfl ?_
    refine j_iconst C 0 dX10_status_20 (by decide) ?_
    refine j_istore_n C [(3, .int 0), (2, .int 0), (0, .ref (am 0)), (1, .int a1)] dX10_status_21 (by decide) rfl ?_
    refine j_lsub [2, 3, 1, 0] [(0, .ref (am 0)), (1, .int a1), (2, .int 0), (3, .int 0)] rfl ?_
    obtain ⟨n4, hw⟩ := hw
    refine ml_X10_status_22 am  m kp wa fo ta bo so ce ik td tk bg aa vl bd a1 C hR hB (fun y4_2 y4_3 hw => ?_) n4 0 0 hw
    refine j_iload_n C 2 dX10_status_56 rfl ?_
    exact j_iret C hB hR fo rfl dX10_status_57 hw rfl
  · replace hw := hw.1 z
    refine j_aload_n C 0 dX10_status_11 rfl ?_
    refine j_ldc C dX10_status_12 ct_X10_35 ?_
    refine j_ciT C hB 0 9 (fun u5 : (Nat → Int32) => (wM ca am m kp wa u5 ta bo so ce ik td tk bg aa vl bd)) rfl (fun _ => rfl) (jr_V C lkV_X10_37 (c_X10_finds am m kp wa fo ta bo so ce ik td tk bg aa vl bd (-1000000001) hw) ⟨rfl, rfl, by decide, by decide, by decide, by decide⟩ [0, 1, 2, 3, 4, 5, 6, 7, 8] (by decide) rfl (fx_rw C hB [0, 1, 2, 3, 4, 5, 6, 7, 8] rfl) 0 10 rfl rfl rfl rfl (Nat.le_of_ble_eq_true rfl) dX10_status_14) (fun r5 u5 hw => ?_)
    exact j_iret C hB hR u5 rfl dX10_status_17 hw rfl
