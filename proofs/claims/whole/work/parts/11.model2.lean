theorem ct_X10_215 : Cond.constant RX10 215 (-1000000006) ∈ TB := (tb_t 1079 (by decide +kernel) rfl)
theorem ct_X10_96 : Cond.constant RX10 96 (-1000000003) ∈ TB := (tb_t 876 (by decide +kernel) rfl)
theorem fl_X10_157_10 : FL RX10 157 10 6 := ⟨RX10, TX10, 15, rfl, by decide, uw_X10, (tb_t 737 (by decide +kernel) rfl)⟩
theorem fl_X10_164_10 : FL RX10 164 10 8 := ⟨RX10, TX10, 15, rfl, by decide, uw_X10, (tb_t 739 (by decide +kernel) rfl)⟩
theorem fl_X10_167_10 : FL RX10 167 10 9 := ⟨RX10, TX10, 15, rfl, by decide, uw_X10, (tb_t 740 (by decide +kernel) rfl)⟩
theorem fl_X10_177_10 : FL RX10 177 10 10 := ⟨RX10, TX10, 15, rfl, by decide, uw_X10, (tb_t 741 (by decide +kernel) rfl)⟩
theorem fl_X10_180_10 : FL RX10 180 10 7 := ⟨RX10, TX10, 15, rfl, by decide, uw_X10, (tb_t 738 (by decide +kernel) rfl)⟩
theorem fl_X10_186_10 : FL RX10 186 10 11 := ⟨RX10, TX10, 15, rfl, by decide, uw_X10, (tb_t 742 (by decide +kernel) rfl)⟩
theorem fl_X10_22_10 : FL RX10 22 10 5 := ⟨RX10, TX10, 15, rfl, by decide, uw_X10, (tb_t 736 (by decide +kernel) rfl)⟩
theorem fl_X10_25_10 : FL RX10 25 10 12 := ⟨RX10, TX10, 15, rfl, by decide, uw_X10, (tb_t 743 (by decide +kernel) rfl)⟩
theorem fl_X10_28_10 : FL RX10 28 10 13 := ⟨RX10, TX10, 15, rfl, by decide, uw_X10, (tb_t 744 (by decide +kernel) rfl)⟩
theorem fl_X10_31_10 : FL RX10 31 10 14 := ⟨RX10, TX10, 15, rfl, by decide, uw_X10, (tb_t 745 (by decide +kernel) rfl)⟩
theorem fw_X10_164_10 : FW RX10 164 10 8 false .int := ⟨RX10, TX10, 15, tyX10, rfl, by decide, uw_X10, (tb_t 739 (by decide +kernel) rfl), tyX10_ok, nmX10, rfl, by decide +kernel, fun h => by cases h⟩
theorem fw_X10_167_10 : FW RX10 167 10 9 false .int := ⟨RX10, TX10, 15, tyX10, rfl, by decide, uw_X10, (tb_t 740 (by decide +kernel) rfl), tyX10_ok, nmX10, rfl, by decide +kernel, fun h => by cases h⟩
theorem fw_X10_177_10 : FW RX10 177 10 10 false .int := ⟨RX10, TX10, 15, tyX10, rfl, by decide, uw_X10, (tb_t 741 (by decide +kernel) rfl), tyX10_ok, nmX10, rfl, by decide +kernel, fun h => by cases h⟩
theorem fw_X10_180_10 : FW RX10 180 10 7 false .int := ⟨RX10, TX10, 15, tyX10, rfl, by decide, uw_X10, (tb_t 738 (by decide +kernel) rfl), tyX10_ok, nmX10, rfl, by decide +kernel, fun h => by cases h⟩
theorem fw_X10_186_10 : FW RX10 186 10 11 false .boolean := ⟨RX10, TX10, 15, tyX10, rfl, by decide, uw_X10, (tb_t 742 (by decide +kernel) rfl), tyX10_ok, nmX10, rfl, by decide +kernel, fun h => by cases h⟩
theorem lkS_X10_211 : LkS RX10 211 yX10_isSheet cX10_isSheet 1 (some .boolean) 1 := ⟨(tb_t 1067 (by decide +kernel) rfl), (tb_t 1068 (by decide +kernel) rfl), (tb_t 12 (by decide +kernel) rfl), (tb_t 1069 (by decide +kernel) rfl), by decide, by decide, by decide +kernel⟩
theorem lkV_X10_170 : LkV RX10 170 RX10 yX10_isName cX10_isName 5 (some .boolean) 2 := ⟨(tb_t 1033 (by decide +kernel) rfl), (tb_t 1035 (by decide +kernel) rfl), (tb_in 37 (by decide +kernel) rfl), (tb_t 12 (by decide +kernel) rfl), (tb_t 1036 (by decide +kernel) rfl), rfl, by decide, by decide, by decide +kernel⟩
theorem lkV_X10_173 : LkV RX10 173 RX10 yX10_isByte cX10_isByte 4 (some .boolean) 3 := ⟨(tb_t 1025 (by decide +kernel) rfl), (tb_t 1027 (by decide +kernel) rfl), (tb_in 35 (by decide +kernel) rfl), (tb_t 12 (by decide +kernel) rfl), (tb_t 1028 (by decide +kernel) rfl), rfl, by decide, by decide, by decide +kernel⟩
theorem lkV_X10_183 : LkV RX10 183 RX10 yX10_wordHere cX10_wordHere 2 (some .int) 0 := ⟨(tb_t 1029 (by decide +kernel) rfl), (tb_t 1031 (by decide +kernel) rfl), (tb_in 36 (by decide +kernel) rfl), (tb_t 12 (by decide +kernel) rfl), (tb_t 1032 (by decide +kernel) rfl), rfl, by decide, by decide, by decide +kernel⟩
theorem lkV_X10_190 : LkV RX10 190 RX10 yX10_reads cX10_reads 1 none 0 := ⟨(tb_t 1021 (by decide +kernel) rfl), (tb_t 1023 (by decide +kernel) rfl), (tb_in 34 (by decide +kernel) rfl), (tb_t 12 (by decide +kernel) rfl), (tb_t 1024 (by decide +kernel) rfl), rfl, by decide, by decide, by decide +kernel⟩
theorem lkV_X10_193 : LkV RX10 193 RX10 yX10_passes cX10_passes 2 (some .boolean) 1 := ⟨(tb_t 1055 (by decide +kernel) rfl), (tb_t 1057 (by decide +kernel) rfl), (tb_in 42 (by decide +kernel) rfl), (tb_t 12 (by decide +kernel) rfl), (tb_t 1058 (by decide +kernel) rfl), rfl, by decide, by decide, by decide +kernel⟩
theorem lkV_X10_196 : LkV RX10 196 RX10 yX10_number cX10_number 4 (some .int) 2 := ⟨(tb_t 1047 (by decide +kernel) rfl), (tb_t 1049 (by decide +kernel) rfl), (tb_in 40 (by decide +kernel) rfl), (tb_t 12 (by decide +kernel) rfl), (tb_t 1050 (by decide +kernel) rfl), rfl, by decide, by decide, by decide +kernel⟩
theorem lkV_X10_199 : LkV RX10 199 RX10 yX10_perhaps cX10_perhaps 5 (some .int) 4 := ⟨(tb_t 1051 (by decide +kernel) rfl), (tb_t 1053 (by decide +kernel) rfl), (tb_in 41 (by decide +kernel) rfl), (tb_t 12 (by decide +kernel) rfl), (tb_t 1054 (by decide +kernel) rfl), rfl, by decide, by decide, by decide +kernel⟩
theorem lkV_X10_202 : LkV RX10 202 RX10 yX10_thingItem cX10_thingItem 6 none 0 := ⟨(tb_t 1043 (by decide +kernel) rfl), (tb_t 1045 (by decide +kernel) rfl), (tb_in 39 (by decide +kernel) rfl), (tb_t 12 (by decide +kernel) rfl), (tb_t 1046 (by decide +kernel) rfl), rfl, by decide, by decide, by decide +kernel⟩
theorem lkV_X10_205 : LkV RX10 205 RX10 yX10_personItem cX10_personItem 4 none 0 := ⟨(tb_t 1059 (by decide +kernel) rfl), (tb_t 1061 (by decide +kernel) rfl), (tb_in 43 (by decide +kernel) rfl), (tb_t 12 (by decide +kernel) rfl), (tb_t 1062 (by decide +kernel) rfl), rfl, by decide, by decide, by decide +kernel⟩
theorem lkV_X10_216 : LkV RX10 216 RX10 yX10_notThere cX10_notThere 2 (some .int) 1 := ⟨(tb_t 1075 (by decide +kernel) rfl), (tb_t 1077 (by decide +kernel) rfl), (tb_in 44 (by decide +kernel) rfl), (tb_t 12 (by decide +kernel) rfl), (tb_t 1078 (by decide +kernel) rfl), rfl, by decide, by decide, by decide +kernel⟩
theorem lkV_X10_77 : LkV RX10 77 RX10 yX10_comesAs cX10_comesAs 6 (some .int) 4 := ⟨(tb_t 828 (by decide +kernel) rfl), (tb_t 830 (by decide +kernel) rfl), (tb_in 11 (by decide +kernel) rfl), (tb_t 12 (by decide +kernel) rfl), (tb_t 831 (by decide +kernel) rfl), rfl, by decide, by decide, by decide +kernel⟩
theorem lkV_X10_81 : LkV RX10 81 RX10 yX10_isThing cX10_isThing 2 (some .boolean) 1 := ⟨(tb_t 840 (by decide +kernel) rfl), (tb_t 842 (by decide +kernel) rfl), (tb_in 13 (by decide +kernel) rfl), (tb_t 12 (by decide +kernel) rfl), (tb_t 843 (by decide +kernel) rfl), rfl, by decide, by decide, by decide +kernel⟩
theorem sl_X10_161 : Cond.fieldLink RX10 161 "UnfinishedFairModel" "NAMES" "[I" ∈ TB := (tb_t 1037 (by decide +kernel) rfl)
def wp_X10_isByte (ta : Nat → Int32) (td : Int32)  (a1 : Int32) (a2 : Int32) (a3 : Int32) (Q : (Int32) → Prop) : Prop := (td ≤ a1 → Q 0) ∧ (¬ (td ≤ a1) → vp_in a1 120 ∧ (wp_X10_in ((ta (a1.toNatClampNeg)).toInt64) a2 a3 (fun r2 => (r2 = 0 → Q 0) ∧ (¬ (r2 = 0) → Q 1))))
set_option maxRecDepth 100000 in
set_option maxHeartbeats 8000000 in
theorem c_X10_isByte {l : Launch} {D : va_G} {ca : Nat → ClassId} {sd : Nat → Nat}  (am : Nat → Nat) (m : Nat → Int32) (kp : Nat → Int32) (wa : Nat → Int32) (fo : Nat → Int32) (ta : Nat → Int32) (bo : Nat → Int32) (so : Nat → Int32) (ce : Nat → Int64) (ik : Int32) (td : Int32) (tk : Int32) (bg : Int32) (aa : Int32) (vl : Int32) (bd : Int32)  (a1 : Int32) (a2 : Int32) (a3 : Int32)  {Q : (Int32) → Prop} (hw : wp_X10_isByte ta td  a1 a2 a3 Q) : Cn l D ca sd yX10_isByte cX10_isByte 4 (some .boolean) { frames := 1, cells := 0, slots := 0, locals := 23 } [.ref (am 0), .int a1, .int a2, .int a3] (wM ca am m kp wa fo ta bo so ce ik td tk bg aa vl bd) [] 0 0 (Ri D (fun (r : Int32) (u : Unit) => Q r ) (fun _ => [])) := by
  refine cn_ofR (by decide) (Nat.le_of_ble_eq_true rfl) (fun k C hR => ?_)
  have C : Cx D ca sd cX10_isByte RX10 (some .boolean) { frames := 1, cells := 0, slots := 0, locals := 23 } k 4 := C
  unfold wp_X10_isByte at hw
  show J l D k 4 0 0 0 (wM ca am m kp wa fo ta bo so ce ik td tk bg aa vl bd) [(0, .ref (am 0)), (1, .int a1), (2, .int a2), (3, .int a3)] []
  refine j_iload_n C 1 dX10_isByte_0 rfl ?_
  refine j_aload_n C 0 dX10_isByte_1 rfl ?_
  refine j_get C fl_X10_157_10 0 dX10_isByte_2 rfl rfl ?_
  refine j_icmp_ge C 27 dX10_isByte_5 (by decide) (fun z => ?_) (fun z => ?_)
  · replace hw := hw.1 z
    refine j_iconst C 0 dX10_isByte_27 (by decide) ?_
    exact j_zretR C hR (by decide) () rfl dX10_isByte_28 hw
  · replace hw := hw.2 z
    refine j_aload_n C 0 dX10_isByte_8 rfl ?_
    refine j_get C fl_X10_22_10 0 dX10_isByte_9 rfl rfl ?_
    refine j_iload_n C 1 dX10_isByte_12 rfl ?_
    have hi1 := hw.1
    replace hw := hw.2
    refine j_iald C 5 dX10_isByte_13 rfl hi1 ?_
    refine j_i2l C dX10_isByte_14 ?_
    refine j_iload_n C 2 dX10_isByte_15 rfl ?_
    refine j_iload_n C 3 dX10_isByte_16 rfl ?_
    refine j_ciZ C (jr_S C lkS_X10_41 (c_X10_in ((ta (a1.toNatClampNeg)).toInt64) a2 a3 hw) ⟨rfl, rfl, by decide, by decide, by decide, by decide⟩ [] (by decide) rfl (fx_ro C) rfl rfl (Nat.le_of_ble_eq_true rfl) dX10_isByte_17) (fun r2 u2 hw => ?_)
    refine j_if_eq C 27 dX10_isByte_20 (by decide) (fun z => ?_) (fun z => ?_)
    · replace hw := hw.1 z
      refine j_iconst C 0 dX10_isByte_27 (by decide) ?_
      exact j_zretR C hR (by decide) () rfl dX10_isByte_28 hw
    · replace hw := hw.2 z
      refine j_iconst C 1 dX10_isByte_23 (by decide) ?_
      refine j_goto C 28 dX10_isByte_24 (by decide) ?_
      exact j_zretR C hR (by decide) () rfl dX10_isByte_28 hw
def wpl_X10_isName_34 (ta : Nat → Int32) (bg : Int32) (x1 : Int32) (x2 : Int32) (K : (Int32) → (Int32) → Prop) : Nat → (Int32) → (Int32) → Prop
  | 0, _, _ => False
  | n + 1, x3, x4 => (x2 ≤ x4 → K x3 x4) ∧ (¬ (x2 ≤ x4) → (x3 = 0 → K x3 x4) ∧ (¬ (x3 = 0) → vp_in ((7 * x1) + x4) 70 ∧ (vp_in (bg + x4) 120 ∧ (((namL.getD ((7 * x1) + x4).toNatClampNeg 0) = (ta ((bg + x4).toNatClampNeg)) → wpl_X10_isName_34 ta bg x1 x2  K n 1 (x4 + 1)) ∧ (¬ ((namL.getD ((7 * x1) + x4).toNatClampNeg 0) = (ta ((bg + x4).toNatClampNeg))) → wpl_X10_isName_34 ta bg x1 x2  K n 0 (x4 + 1))))))
def wpl_X10_isName_34_2 (ta : Nat → Int32) (bg : Int32) (x1 : Int32) (x2 : Int32) (K : (Int32) → (Int32) → Prop) : Nat → (Int32) → (Int32) → Prop
  | 0, _, _ => False
  | n + 1, x3, x4 => (x2 ≤ x4 → K x3 x4) ∧ (¬ (x2 ≤ x4) → (x3 = 0 → K x3 x4) ∧ (¬ (x3 = 0) → vp_in ((7 * x1) + x4) 70 ∧ (vp_in (bg + x4) 120 ∧ (((namL.getD ((7 * x1) + x4).toNatClampNeg 0) = (ta ((bg + x4).toNatClampNeg)) → wpl_X10_isName_34_2 ta bg x1 x2  K n 1 (x4 + 1)) ∧ (¬ ((namL.getD ((7 * x1) + x4).toNatClampNeg 0) = (ta ((bg + x4).toNatClampNeg))) → wpl_X10_isName_34_2 ta bg x1 x2  K n 0 (x4 + 1))))))
def wp_X10_isName (ta : Nat → Int32) (bg : Int32)  (a1 : Int32) (a2 : Int32) (Q : (Int32) → Prop) : Prop := (7 < a2 → ∃ n3 : Nat, wpl_X10_isName_34 ta bg a1 a2  (fun y3_3 y3_4 => (narrow .boolean (.int y3_3) = .int y3_3) ∧ Q y3_3) n3 0 0) ∧ (¬ (7 < a2) → (a2 = 7 → ∃ n6 : Nat, wpl_X10_isName_34_2 ta bg a1 a2  (fun y6_3 y6_4 => (narrow .boolean (.int y6_3) = .int y6_3) ∧ Q y6_3) n6 1 0) ∧ (¬ (a2 = 7) → vp_in ((7 * a1) + a2) 70 ∧ (((namL.getD ((7 * a1) + a2).toNatClampNeg 0) = 0 → ∃ n9 : Nat, wpl_X10_isName_34_2 ta bg a1 a2  (fun y9_3 y9_4 => (narrow .boolean (.int y9_3) = .int y9_3) ∧ Q y9_3) n9 1 0) ∧ (¬ ((namL.getD ((7 * a1) + a2).toNatClampNeg 0) = 0) → ∃ n8 : Nat, wpl_X10_isName_34 ta bg a1 a2  (fun y8_3 y8_4 => (narrow .boolean (.int y8_3) = .int y8_3) ∧ Q y8_3) n8 0 0))))
set_option maxRecDepth 100000 in
set_option maxHeartbeats 8000000 in
theorem ml_X10_isName_34 {l : Launch} {D : va_G} {ca : Nat → ClassId} {sd : Nat → Nat}  {k : Kx} (am : Nat → Nat)  (m : Nat → Int32) (kp : Nat → Int32) (wa : Nat → Int32) (fo : Nat → Int32) (ta : Nat → Int32) (bo : Nat → Int32) (so : Nat → Int32) (ce : Nat → Int64) (ik : Int32) (td : Int32) (tk : Int32) (bg : Int32) (aa : Int32) (vl : Int32) (bd : Int32) (x1 : Int32) (x2 : Int32) (C : Cx D ca sd cX10_isName RX10 (some .boolean) { frames := 0, cells := 0, slots := 0, locals := 0 } k 5) {Q : (Int32) → Prop} (hR : Rx (Ri D (fun (r : Int32) (u : Unit) => Q r ) (fun _ => [])) 0 0 k) {K : (Int32) → (Int32) → Prop} (hK : ∀ (x3' : Int32) (x4' : Int32), K x3' x4' → J l D k 5 0 0 82 (wM ca am m kp wa fo ta bo so ce ik td tk bg aa vl bd) [(0, .ref (am 0)), (1, .int x1), (2, .int x2), (3, .int x3'), (4, .int x4')] []) : ∀ (n : Nat) (x3 : Int32) (x4 : Int32), wpl_X10_isName_34 ta bg x1 x2  K n x3 x4 → J l D k 5 0 0 34 (wM ca am m kp wa fo ta bo so ce ik td tk bg aa vl bd) [(0, .ref (am 0)), (1, .int x1), (2, .int x2), (3, .int x3), (4, .int x4)] [] := by
  intro n
  induction n with
  | zero =>
    intro x3 x4 hw
    rw [wpl_X10_isName_34] at hw
    exact hw.elim
  | succ n ih =>
    intro x3 x4 hw
    rw [wpl_X10_isName_34] at hw
    refine j_iload C 4 dX10_isName_34 rfl ?_
    refine j_iload_n C 2 dX10_isName_36 rfl ?_
    refine j_icmp_ge C 82 dX10_isName_37 (by decide) (fun z => ?_) (fun z => ?_)
    · replace hw := hw.1 z
      exact hK x3 x4 hw
    · replace hw := hw.2 z
      refine j_iload_n C 3 dX10_isName_40 rfl ?_
      refine j_if_eq C 82 dX10_isName_41 (by decide) (fun z => ?_) (fun z => ?_)
      · replace hw := hw.1 z
        exact hK x3 x4 hw
      · replace hw := hw.2 z
        refine j_names C 161 dX10_isName_44 sl_X10_161 ?_
        refine j_bipush C 7 dX10_isName_47 (by decide) ?_
        refine j_iload_n C 1 dX10_isName_49 rfl ?_
        refine j_imul C dX10_isName_50 ?_
        refine j_iload C 4 dX10_isName_51 rfl ?_
        refine j_iadd C dX10_isName_53 ?_
        have hi1 := hw.1
        replace hw := hw.2
        refine j_st1 C dX10_isName_54 hi1 ?_
        refine j_aload_n C 0 dX10_isName_55 rfl ?_
        refine j_get C fl_X10_22_10 0 dX10_isName_56 rfl rfl ?_
        refine j_aload_n C 0 dX10_isName_59 rfl ?_
        refine j_get C fl_X10_164_10 0 dX10_isName_60 rfl rfl ?_
        refine j_iload C 4 dX10_isName_63 rfl ?_
        refine j_iadd C dX10_isName_65 ?_
        have hi2 := hw.1
        replace hw := hw.2
        refine j_iald C 5 dX10_isName_66 rfl hi2 ?_
        refine j_icmp_ne C 74 dX10_isName_67 (by decide) (fun z => ?_) (fun z => ?_)
        · replace hw := hw.2 z
          refine j_iconst C 0 dX10_isName_74 (by decide) ?_
          refine j_istore_n C [(3, .int 0), (0, .ref (am 0)), (1, .int x1), (2, .int x2), (4, .int x4)] dX10_isName_75 (by decide) rfl ?_
          refine j_iinc C 4 (x4 + 1) [(4, .int (x4 + 1)), (3, .int 0), (0, .ref (am 0)), (1, .int x1), (2, .int x2)] dX10_isName_76 rfl rfl (by decide) rfl ?_
          refine j_goto C 34 dX10_isName_79 (by decide) ?_
          refine j_lsub [2, 3, 4, 1, 0] [(0, .ref (am 0)), (1, .int x1), (2, .int x2), (3, .int 0), (4, .int (x4 + 1))] rfl ?_
          exact ih 0 (x4 + 1) hw
        · replace hw := hw.1 z
          refine j_iconst C 1 dX10_isName_70 (by decide) ?_
          refine j_goto C 75 dX10_isName_71 (by decide) ?_
          refine j_istore_n C [(3, .int 1), (0, .ref (am 0)), (1, .int x1), (2, .int x2), (4, .int x4)] dX10_isName_75 (by decide) rfl ?_
          refine j_iinc C 4 (x4 + 1) [(4, .int (x4 + 1)), (3, .int 1), (0, .ref (am 0)), (1, .int x1), (2, .int x2)] dX10_isName_76 rfl rfl (by decide) rfl ?_
          refine j_goto C 34 dX10_isName_79 (by decide) ?_
          refine j_lsub [2, 3, 4, 1, 0] [(0, .ref (am 0)), (1, .int x1), (2, .int x2), (3, .int 1), (4, .int (x4 + 1))] rfl ?_
          exact ih 1 (x4 + 1) hw
set_option maxRecDepth 100000 in
set_option maxHeartbeats 8000000 in
theorem ml_X10_isName_34_2 {l : Launch} {D : va_G} {ca : Nat → ClassId} {sd : Nat → Nat}  {k : Kx} (am : Nat → Nat)  (m : Nat → Int32) (kp : Nat → Int32) (wa : Nat → Int32) (fo : Nat → Int32) (ta : Nat → Int32) (bo : Nat → Int32) (so : Nat → Int32) (ce : Nat → Int64) (ik : Int32) (td : Int32) (tk : Int32) (bg : Int32) (aa : Int32) (vl : Int32) (bd : Int32) (x1 : Int32) (x2 : Int32) (C : Cx D ca sd cX10_isName RX10 (some .boolean) { frames := 0, cells := 0, slots := 0, locals := 0 } k 5) {Q : (Int32) → Prop} (hR : Rx (Ri D (fun (r : Int32) (u : Unit) => Q r ) (fun _ => [])) 0 0 k) {K : (Int32) → (Int32) → Prop} (hK : ∀ (x3' : Int32) (x4' : Int32), K x3' x4' → J l D k 5 0 0 82 (wM ca am m kp wa fo ta bo so ce ik td tk bg aa vl bd) [(0, .ref (am 0)), (1, .int x1), (2, .int x2), (3, .int x3'), (4, .int x4')] []) : ∀ (n : Nat) (x3 : Int32) (x4 : Int32), wpl_X10_isName_34_2 ta bg x1 x2  K n x3 x4 → J l D k 5 0 0 34 (wM ca am m kp wa fo ta bo so ce ik td tk bg aa vl bd) [(0, .ref (am 0)), (1, .int x1), (2, .int x2), (3, .int x3), (4, .int x4)] [] := by
  intro n
  induction n with
  | zero =>
    intro x3 x4 hw
    rw [wpl_X10_isName_34_2] at hw
    exact hw.elim
  | succ n ih =>
    intro x3 x4 hw
    rw [wpl_X10_isName_34_2] at hw
    refine j_iload C 4 dX10_isName_34 rfl ?_
    refine j_iload_n C 2 dX10_isName_36 rfl ?_
    refine j_icmp_ge C 82 dX10_isName_37 (by decide) (fun z => ?_) (fun z => ?_)
    · replace hw := hw.1 z
      exact hK x3 x4 hw
    · replace hw := hw.2 z
      refine j_iload_n C 3 dX10_isName_40 rfl ?_
      refine j_if_eq C 82 dX10_isName_41 (by decide) (fun z => ?_) (fun z => ?_)
      · replace hw := hw.1 z
        exact hK x3 x4 hw
      · replace hw := hw.2 z
        refine j_names C 161 dX10_isName_44 sl_X10_161 ?_
        refine j_bipush C 7 dX10_isName_47 (by decide) ?_
        refine j_iload_n C 1 dX10_isName_49 rfl ?_
        refine j_imul C dX10_isName_50 ?_
        refine j_iload C 4 dX10_isName_51 rfl ?_
        refine j_iadd C dX10_isName_53 ?_
        have hi4 := hw.1
        replace hw := hw.2
        refine j_st1 C dX10_isName_54 hi4 ?_
        refine j_aload_n C 0 dX10_isName_55 rfl ?_
        refine j_get C fl_X10_22_10 0 dX10_isName_56 rfl rfl ?_
        refine j_aload_n C 0 dX10_isName_59 rfl ?_
        refine j_get C fl_X10_164_10 0 dX10_isName_60 rfl rfl ?_
        refine j_iload C 4 dX10_isName_63 rfl ?_
        refine j_iadd C dX10_isName_65 ?_
        have hi5 := hw.1
        replace hw := hw.2
        refine j_iald C 5 dX10_isName_66 rfl hi5 ?_
        refine j_icmp_ne C 74 dX10_isName_67 (by decide) (fun z => ?_) (fun z => ?_)
        · replace hw := hw.2 z
          refine j_iconst C 0 dX10_isName_74 (by decide) ?_
          refine j_istore_n C [(3, .int 0), (0, .ref (am 0)), (1, .int x1), (2, .int x2), (4, .int x4)] dX10_isName_75 (by decide) rfl ?_
          refine j_iinc C 4 (x4 + 1) [(4, .int (x4 + 1)), (3, .int 0), (0, .ref (am 0)), (1, .int x1), (2, .int x2)] dX10_isName_76 rfl rfl (by decide) rfl ?_
          refine j_goto C 34 dX10_isName_79 (by decide) ?_
          refine j_lsub [2, 3, 4, 1, 0] [(0, .ref (am 0)), (1, .int x1), (2, .int x2), (3, .int 0), (4, .int (x4 + 1))] rfl ?_
          exact ih 0 (x4 + 1) hw
        · replace hw := hw.1 z
          refine j_iconst C 1 dX10_isName_70 (by decide) ?_
          refine j_goto C 75 dX10_isName_71 (by decide) ?_
          refine j_istore_n C [(3, .int 1), (0, .ref (am 0)), (1, .int x1), (2, .int x2), (4, .int x4)] dX10_isName_75 (by decide) rfl ?_
          refine j_iinc C 4 (x4 + 1) [(4, .int (x4 + 1)), (3, .int 1), (0, .ref (am 0)), (1, .int x1), (2, .int x2)] dX10_isName_76 rfl rfl (by decide) rfl ?_
          refine j_goto C 34 dX10_isName_79 (by decide) ?_
          refine j_lsub [2, 3, 4, 1, 0] [(0, .ref (am 0)), (1, .int x1), (2, .int x2), (3, .int 1), (4, .int (x4 + 1))] rfl ?_
          exact ih 1 (x4 + 1) hw
set_option maxRecDepth 100000 in
set_option maxHeartbeats 8000000 in
theorem c_X10_isName {l : Launch} {D : va_G} {ca : Nat → ClassId} {sd : Nat → Nat}  (am : Nat → Nat) (m : Nat → Int32) (kp : Nat → Int32) (wa : Nat → Int32) (fo : Nat → Int32) (ta : Nat → Int32) (bo : Nat → Int32) (so : Nat → Int32) (ce : Nat → Int64) (ik : Int32) (td : Int32) (tk : Int32) (bg : Int32) (aa : Int32) (vl : Int32) (bd : Int32)  (a1 : Int32) (a2 : Int32)  {Q : (Int32) → Prop} (hw : wp_X10_isName ta bg  a1 a2 Q) : Cn l D ca sd yX10_isName cX10_isName 5 (some .boolean) { frames := 0, cells := 0, slots := 0, locals := 0 } [.ref (am 0), .int a1, .int a2] (wM ca am m kp wa fo ta bo so ce ik td tk bg aa vl bd) [] 0 0 (Ri D (fun (r : Int32) (u : Unit) => Q r ) (fun _ => [])) := by
  refine cn_ofR (by decide) (Nat.le_of_ble_eq_true rfl) (fun k C hR => ?_)
  have C : Cx D ca sd cX10_isName RX10 (some .boolean) { frames := 0, cells := 0, slots := 0, locals := 0 } k 5 := C
  unfold wp_X10_isName at hw
  show J l D k 5 0 0 0 (wM ca am m kp wa fo ta bo so ce ik td tk bg aa vl bd) [(0, .ref (am 0)), (1, .int a1), (2, .int a2)] []
  refine j_iload_n C 2 dX10_isName_0 rfl ?_
  refine j_bipush C 7 dX10_isName_1 (by decide) ?_
  refine j_icmp_gt C 29 dX10_isName_3 (by decide) (fun z => ?_) (fun z => ?_)
  · replace hw := hw.1 z
    refine j_iconst C 0 dX10_isName_29 (by decide) ?_
    refine j_istore_n C [(3, .int 0), (0, .ref (am 0)), (1, .int a1), (2, .int a2)] dX10_isName_30 (by decide) rfl ?_
    refine j_iconst C 0 dX10_isName_31 (by decide) ?_
    refine j_istore C [(4, .int 0), (3, .int 0), (0, .ref (am 0)), (1, .int a1), (2, .int a2)] dX10_isName_32 (by decide) rfl ?_
    refine j_lsub [2, 3, 4, 1, 0] [(0, .ref (am 0)), (1, .int a1), (2, .int a2), (3, .int 0), (4, .int 0)] rfl ?_
    obtain ⟨n3, hw⟩ := hw
    refine ml_X10_isName_34 am  m kp wa fo ta bo so ce ik td tk bg aa vl bd a1 a2 C hR (fun y3_3 y3_4 hw => ?_) n3 0 0 hw
    refine j_iload_n C 3 dX10_isName_82 rfl ?_
    exact j_zretR C hR hw.1 () rfl dX10_isName_83 hw.2
  · replace hw := hw.2 z
    refine j_iload_n C 2 dX10_isName_6 rfl ?_
    refine j_bipush C 7 dX10_isName_7 (by decide) ?_
    refine j_icmp_eq C 25 dX10_isName_9 (by decide) (fun z => ?_) (fun z => ?_)
    · replace hw := hw.1 z
      refine j_iconst C 1 dX10_isName_25 (by decide) ?_
      refine j_goto C 30 dX10_isName_26 (by decide) ?_
      refine j_istore_n C [(3, .int 1), (0, .ref (am 0)), (1, .int a1), (2, .int a2)] dX10_isName_30 (by decide) rfl ?_
      refine j_iconst C 0 dX10_isName_31 (by decide) ?_
      refine j_istore C [(4, .int 0), (3, .int 1), (0, .ref (am 0)), (1, .int a1), (2, .int a2)] dX10_isName_32 (by decide) rfl ?_
      refine j_lsub [2, 3, 4, 1, 0] [(0, .ref (am 0)), (1, .int a1), (2, .int a2), (3, .int 1), (4, .int 0)] rfl ?_
      obtain ⟨n6, hw⟩ := hw
      refine ml_X10_isName_34_2 am  m kp wa fo ta bo so ce ik td tk bg aa vl bd a1 a2 C hR (fun y6_3 y6_4 hw => ?_) n6 1 0 hw
      refine j_iload_n C 3 dX10_isName_82 rfl ?_
      exact j_zretR C hR hw.1 () rfl dX10_isName_83 hw.2
    · replace hw := hw.2 z
      refine j_names C 161 dX10_isName_12 sl_X10_161 ?_
      refine j_bipush C 7 dX10_isName_15 (by decide) ?_
      refine j_iload_n C 1 dX10_isName_17 rfl ?_
      refine j_imul C dX10_isName_18 ?_
      refine j_iload_n C 2 dX10_isName_19 rfl ?_
      refine j_iadd C dX10_isName_20 ?_
      have hi7 := hw.1
      replace hw := hw.2
      refine j_st1 C dX10_isName_21 hi7 ?_
      refine j_if_ne C 29 dX10_isName_22 (by decide) (fun z => ?_) (fun z => ?_)
      · replace hw := hw.2 z
        refine j_iconst C 0 dX10_isName_29 (by decide) ?_
        refine j_istore_n C [(3, .int 0), (0, .ref (am 0)), (1, .int a1), (2, .int a2)] dX10_isName_30 (by decide) rfl ?_
        refine j_iconst C 0 dX10_isName_31 (by decide) ?_
        refine j_istore C [(4, .int 0), (3, .int 0), (0, .ref (am 0)), (1, .int a1), (2, .int a2)] dX10_isName_32 (by decide) rfl ?_
        refine j_lsub [2, 3, 4, 1, 0] [(0, .ref (am 0)), (1, .int a1), (2, .int a2), (3, .int 0), (4, .int 0)] rfl ?_
        obtain ⟨n8, hw⟩ := hw
        refine ml_X10_isName_34 am  m kp wa fo ta bo so ce ik td tk bg aa vl bd a1 a2 C hR (fun y8_3 y8_4 hw => ?_) n8 0 0 hw
        refine j_iload_n C 3 dX10_isName_82 rfl ?_
        exact j_zretR C hR hw.1 () rfl dX10_isName_83 hw.2
      · replace hw := hw.1 z
        refine j_iconst C 1 dX10_isName_25 (by decide) ?_
        refine j_goto C 30 dX10_isName_26 (by decide) ?_
        refine j_istore_n C [(3, .int 1), (0, .ref (am 0)), (1, .int a1), (2, .int a2)] dX10_isName_30 (by decide) rfl ?_
        refine j_iconst C 0 dX10_isName_31 (by decide) ?_
        refine j_istore C [(4, .int 0), (3, .int 1), (0, .ref (am 0)), (1, .int a1), (2, .int a2)] dX10_isName_32 (by decide) rfl ?_
        refine j_lsub [2, 3, 4, 1, 0] [(0, .ref (am 0)), (1, .int a1), (2, .int a2), (3, .int 1), (4, .int 0)] rfl ?_
        obtain ⟨n9, hw⟩ := hw
        refine ml_X10_isName_34_2 am  m kp wa fo ta bo so ce ik td tk bg aa vl bd a1 a2 C hR (fun y9_3 y9_4 hw => ?_) n9 1 0 hw
        refine j_iload_n C 3 dX10_isName_82 rfl ?_
        exact j_zretR C hR hw.1 () rfl dX10_isName_83 hw.2
def wpl_X10_wordHere_2 (ta : Nat → Int32) (bg : Int32) (aa : Int32) (K : (Int32) → Prop) : Nat → (Int32) → Prop
  | 0, _ => False
  | n + 1, x1 => (10 ≤ x1 → K x1) ∧ (¬ (10 ≤ x1) → wp_X10_isName ta bg x1 (aa - bg) (fun r1 => (r1 = 0 → wpl_X10_wordHere_2 ta bg aa  K n (x1 + 1)) ∧ (¬ (r1 = 0) → K x1)))
def wp_X10_wordHere (ta : Nat → Int32) (bg : Int32) (aa : Int32)   (Q : (Int32) → Prop) : Prop := ∃ n2 : Nat, wpl_X10_wordHere_2 ta bg aa  (fun y2_1 => (10 ≤ y2_1 → Q 23) ∧ (¬ (10 ≤ y2_1) → Q y2_1)) n2 0
set_option maxRecDepth 100000 in
set_option maxHeartbeats 8000000 in
theorem ml_X10_wordHere_2 {l : Launch} {D : va_G} {ca : Nat → ClassId} {sd : Nat → Nat}  {k : Kx} (am : Nat → Nat)  (m : Nat → Int32) (kp : Nat → Int32) (wa : Nat → Int32) (fo : Nat → Int32) (ta : Nat → Int32) (bo : Nat → Int32) (so : Nat → Int32) (ce : Nat → Int64) (ik : Int32) (td : Int32) (tk : Int32) (bg : Int32) (aa : Int32) (vl : Int32) (bd : Int32) (C : Cx D ca sd cX10_wordHere RX10 (some .int) { frames := 1, cells := 0, slots := 0, locals := 24 } k 2) {Q : (Int32) → Prop} (hR : Rx (Ri D (fun (r : Int32) (u : Unit) => Q r ) (fun _ => [])) 0 0 k) {K : (Int32) → Prop} (hK : ∀ (x1' : Int32), K x1' → J l D k 2 0 0 31 (wM ca am m kp wa fo ta bo so ce ik td tk bg aa vl bd) [(0, .ref (am 0)), (1, .int x1')] []) : ∀ (n : Nat) (x1 : Int32), wpl_X10_wordHere_2 ta bg aa  K n x1 → J l D k 2 0 0 2 (wM ca am m kp wa fo ta bo so ce ik td tk bg aa vl bd) [(0, .ref (am 0)), (1, .int x1)] [] := by
  intro n
  induction n with
  | zero =>
    intro x1 hw
    rw [wpl_X10_wordHere_2] at hw
    exact hw.elim
  | succ n ih =>
    intro x1 hw
    rw [wpl_X10_wordHere_2] at hw
    refine j_iload_n C 1 dX10_wordHere_2 rfl ?_
    refine j_bipush C 10 dX10_wordHere_3 (by decide) ?_
    refine j_icmp_ge C 31 dX10_wordHere_5 (by decide) (fun z => ?_) (fun z => ?_)
    · replace hw := hw.1 z
      exact hK x1 hw
    · replace hw := hw.2 z
      refine j_aload_n C 0 dX10_wordHere_8 rfl ?_
      refine j_iload_n C 1 dX10_wordHere_9 rfl ?_
      refine j_aload_n C 0 dX10_wordHere_10 rfl ?_
      refine j_get C fl_X10_167_10 0 dX10_wordHere_11 rfl rfl ?_
      refine j_aload_n C 0 dX10_wordHere_14 rfl ?_
      refine j_get C fl_X10_164_10 0 dX10_wordHere_15 rfl rfl ?_
      refine j_isub C dX10_wordHere_18 ?_
      refine j_ciZ C (jr_V C lkV_X10_170 (c_X10_isName am m kp wa fo ta bo so ce ik td tk bg aa vl bd x1 (aa - bg) hw) ⟨rfl, rfl, by decide, by decide, by decide, by decide⟩ [0, 1, 2, 3, 4, 5, 6, 7, 8] (by decide) rfl (fx_ro C) 0 10 rfl rfl rfl rfl (Nat.le_of_ble_eq_true rfl) dX10_wordHere_19) (fun r1 u1 hw => ?_)
      refine j_if_ne C 31 dX10_wordHere_22 (by decide) (fun z => ?_) (fun z => ?_)
      · replace hw := hw.2 z
        exact hK x1 hw
      · replace hw := hw.1 z
        refine j_iinc C 1 (x1 + 1) [(1, .int (x1 + 1)), (0, .ref (am 0))] dX10_wordHere_25 rfl rfl (by decide) rfl ?_
        refine j_goto C 2 dX10_wordHere_28 (by decide) ?_
        refine j_lsub [1, 0] [(0, .ref (am 0)), (1, .int (x1 + 1))] rfl ?_
        exact ih (x1 + 1) hw
set_option maxRecDepth 100000 in
set_option maxHeartbeats 8000000 in
theorem c_X10_wordHere {l : Launch} {D : va_G} {ca : Nat → ClassId} {sd : Nat → Nat}  (am : Nat → Nat) (m : Nat → Int32) (kp : Nat → Int32) (wa : Nat → Int32) (fo : Nat → Int32) (ta : Nat → Int32) (bo : Nat → Int32) (so : Nat → Int32) (ce : Nat → Int64) (ik : Int32) (td : Int32) (tk : Int32) (bg : Int32) (aa : Int32) (vl : Int32) (bd : Int32)    {Q : (Int32) → Prop} (hw : wp_X10_wordHere ta bg aa   Q) : Cn l D ca sd yX10_wordHere cX10_wordHere 2 (some .int) { frames := 1, cells := 0, slots := 0, locals := 24 } [.ref (am 0)] (wM ca am m kp wa fo ta bo so ce ik td tk bg aa vl bd) [] 0 0 (Ri D (fun (r : Int32) (u : Unit) => Q r ) (fun _ => [])) := by
  refine cn_ofR (by decide) (Nat.le_of_ble_eq_true rfl) (fun k C hR => ?_)
  have C : Cx D ca sd cX10_wordHere RX10 (some .int) { frames := 1, cells := 0, slots := 0, locals := 24 } k 2 := C
  unfold wp_X10_wordHere at hw
  show J l D k 2 0 0 0 (wM ca am m kp wa fo ta bo so ce ik td tk bg aa vl bd) [(0, .ref (am 0))] []
  refine j_iconst C 0 dX10_wordHere_0 (by decide) ?_
  refine j_istore_n C [(1, .int 0), (0, .ref (am 0))] dX10_wordHere_1 (by decide) rfl ?_
  refine j_lsub [1, 0] [(0, .ref (am 0)), (1, .int 0)] rfl ?_
  obtain ⟨n2, hw⟩ := hw
  refine ml_X10_wordHere_2 am  m kp wa fo ta bo so ce ik td tk bg aa vl bd C hR (fun y2_1 hw => ?_) n2 0 hw
  refine j_iload_n C 1 dX10_wordHere_31 rfl ?_
  refine j_bipush C 10 dX10_wordHere_32 (by decide) ?_
  refine j_icmp_ge C 41 dX10_wordHere_34 (by decide) (fun z => ?_) (fun z => ?_)
  · replace hw := hw.1 z
    refine j_bipush C 23 dX10_wordHere_41 (by decide) ?_
    exact j_iretR C hR () rfl dX10_wordHere_43 hw
  · replace hw := hw.2 z
    refine j_iload_n C 1 dX10_wordHere_37 rfl ?_
    refine j_goto C 43 dX10_wordHere_38 (by decide) ?_
    exact j_iretR C hR () rfl dX10_wordHere_43 hw
def wpl_X10_reads_0 (ta : Nat → Int32) (td : Int32) (K : (Int32) → Prop) : Nat → (Int32) → Prop
  | 0, _ => False
  | n + 1, aa => wp_X10_isByte ta td aa 32 32 (fun r1 => (r1 = 0 → K aa) ∧ (¬ (r1 = 0) → wpl_X10_reads_0 ta td  K n (aa + 1)))
def wpl_X10_reads_130 (ta : Nat → Int32) (td : Int32) (K : (Int32) → (Int32) → Prop) : Nat → (Int32) → (Int32) → Prop
  | 0, _, _ => False
  | n + 1, aa, vl => wp_X10_isByte ta td aa 48 57 (fun r6 => (r6 = 0 → K aa vl) ∧ (¬ (r6 = 0) → (vl ≤ 999 → vp_in aa 120 ∧ (wpl_X10_reads_130 ta td  K n (aa + 1) (((10 * vl) + (ta (aa.toNatClampNeg))) - 48))) ∧ (¬ (vl ≤ 999) → wpl_X10_reads_130 ta td  K n (aa + 1) vl)))
def wpl_X10_reads_76 (ta : Nat → Int32) (td : Int32) (K : (Int32) → Prop) : Nat → (Int32) → Prop
  | 0, _ => False
  | n + 1, aa => wp_X10_isByte ta td aa 97 122 (fun r9 => (r9 = 0 → K aa) ∧ (¬ (r9 = 0) → wpl_X10_reads_76 ta td  K n (aa + 1)))
def wp_X10_reads (ta : Nat → Int32) (td : Int32) (aa : Int32)   (Q : (Int32) → (Int32) → (Int32) → (Int32) → Prop) : Prop := ∃ n2 : Nat, wpl_X10_reads_0 ta td  (fun y2_aa => (y2_aa = td → Q 22 y2_aa y2_aa 0) ∧ (¬ (y2_aa = td) → wp_X10_isByte ta td y2_aa 97 122 (fun r3 => (r3 = 0 → wp_X10_isByte ta td y2_aa 48 57 (fun r4 => (r4 = 0 → wp_X10_isByte ta td y2_aa 59 59 (fun r5 => (r5 = 0 → Q 23 y2_aa (y2_aa + 1) 0) ∧ (¬ (r5 = 0) → Q 21 y2_aa (y2_aa + 1) 0))) ∧ (¬ (r4 = 0) → ∃ n8 : Nat, wpl_X10_reads_130 ta td  (fun y8_aa y8_vl => Q 20 y2_aa y8_aa y8_vl) n8 y2_aa 0))) ∧ (¬ (r3 = 0) → ∃ n10 : Nat, wpl_X10_reads_76 ta td  (fun y10_aa => wp_X10_wordHere ta y2_aa y10_aa (fun r11 => Q r11 y2_aa y10_aa 0)) n10 y2_aa)))) n2 aa
set_option maxRecDepth 100000 in
set_option maxHeartbeats 8000000 in
theorem ml_X10_reads_0 {l : Launch} {D : va_G} {ca : Nat → ClassId} {sd : Nat → Nat}  {k : Kx} (am : Nat → Nat)  (m : Nat → Int32) (kp : Nat → Int32) (wa : Nat → Int32) (fo : Nat → Int32) (ta : Nat → Int32) (bo : Nat → Int32) (so : Nat → Int32) (ce : Nat → Int64) (ik : Int32) (td : Int32) (tk : Int32) (bg : Int32) (vl : Int32) (bd : Int32) (C : Cx D ca sd cX10_reads RX10 none { frames := 2, cells := 0, slots := 0, locals := 46 } k 1) {Q : (Int32) → (Int32) → (Int32) → (Int32) → Prop} (hR : Rx (Rv D (fun u : (Int32) × (Int32) × (Int32) × (Int32) => Q u.1 u.2.1 u.2.2.1 u.2.2.2) (fun u => (wM ca am m kp wa fo ta bo so ce ik td u.1 u.2.1 u.2.2.1 u.2.2.2 bd))) 0 0 k) (hB : Wx k) {K : (Int32) → Prop} (hK : ∀ (aa' : Int32), K aa' → J l D k 1 0 0 28 (wM ca am m kp wa fo ta bo so ce ik td tk bg aa' vl bd) [(0, .ref (am 0))] []) : ∀ (n : Nat) (aa : Int32), wpl_X10_reads_0 ta td  K n aa → J l D k 1 0 0 0 (wM ca am m kp wa fo ta bo so ce ik td tk bg aa vl bd) [(0, .ref (am 0))] [] := by
  intro n
  induction n with
  | zero =>
    intro aa hw
    rw [wpl_X10_reads_0] at hw
    exact hw.elim
  | succ n ih =>
    intro aa hw
    rw [wpl_X10_reads_0] at hw
    refine j_aload_n C 0 dX10_reads_0 rfl ?_
    refine j_aload_n C 0 dX10_reads_1 rfl ?_
    refine j_get C fl_X10_167_10 0 dX10_reads_2 rfl rfl ?_
    refine j_bipush C 32 dX10_reads_5 (by decide) ?_
    refine j_bipush C 32 dX10_reads_7 (by decide) ?_
    refine j_ciZ C (jr_V C lkV_X10_173 (c_X10_isByte am m kp wa fo ta bo so ce ik td tk bg aa vl bd aa 32 32 hw) ⟨rfl, rfl, by decide, by decide, by decide, by decide⟩ [0, 1, 2, 3, 4, 5, 6, 7, 8] (by decide) rfl (fx_ro C) 0 10 rfl rfl rfl rfl (Nat.le_of_ble_eq_true rfl) dX10_reads_9) (fun r1 u1 hw => ?_)
    refine j_if_eq C 28 dX10_reads_12 (by decide) (fun z => ?_) (fun z => ?_)
    · replace hw := hw.1 z
      exact hK aa hw
    · replace hw := hw.2 z
      refine j_aload_n C 0 dX10_reads_15 rfl ?_
      refine j_dup C dX10_reads_16 rfl ?_
      refine j_get C fl_X10_167_10 0 dX10_reads_17 rfl rfl ?_
      refine j_iconst C 1 dX10_reads_20 (by decide) ?_
      refine j_iadd C dX10_reads_21 ?_
      refine j_put C hB fw_X10_167_10 0 (wM ca am m kp wa fo ta bo so ce ik td tk bg (aa + 1) vl bd) dX10_reads_22 rfl rfl rfl (Nat.le_of_ble_eq_true rfl) rfl ?_
      refine j_goto C 0 dX10_reads_25 (by decide) ?_
      exact ih (aa + 1) hw
set_option maxRecDepth 100000 in
set_option maxHeartbeats 8000000 in
theorem ml_X10_reads_130 {l : Launch} {D : va_G} {ca : Nat → ClassId} {sd : Nat → Nat}  {k : Kx} (am : Nat → Nat)  (m : Nat → Int32) (kp : Nat → Int32) (wa : Nat → Int32) (fo : Nat → Int32) (ta : Nat → Int32) (bo : Nat → Int32) (so : Nat → Int32) (ce : Nat → Int64) (ik : Int32) (td : Int32) (tk : Int32) (bg : Int32) (bd : Int32) (C : Cx D ca sd cX10_reads RX10 none { frames := 2, cells := 0, slots := 0, locals := 46 } k 1) {Q : (Int32) → (Int32) → (Int32) → (Int32) → Prop} (hR : Rx (Rv D (fun u : (Int32) × (Int32) × (Int32) × (Int32) => Q u.1 u.2.1 u.2.2.1 u.2.2.2) (fun u => (wM ca am m kp wa fo ta bo so ce ik td u.1 u.2.1 u.2.2.1 u.2.2.2 bd))) 0 0 k) (hB : Wx k) {K : (Int32) → (Int32) → Prop} (hK : ∀ (aa' : Int32) (vl' : Int32), K aa' vl' → J l D k 1 0 0 199 (wM ca am m kp wa fo ta bo so ce ik td tk bg aa' vl' bd) [(0, .ref (am 0))] []) : ∀ (n : Nat) (aa : Int32) (vl : Int32), wpl_X10_reads_130 ta td  K n aa vl → J l D k 1 0 0 130 (wM ca am m kp wa fo ta bo so ce ik td tk bg aa vl bd) [(0, .ref (am 0))] [] := by
  intro n
  induction n with
  | zero =>
    intro aa vl hw
    rw [wpl_X10_reads_130] at hw
    exact hw.elim
  | succ n ih =>
    intro aa vl hw
    rw [wpl_X10_reads_130] at hw
    refine j_aload_n C 0 dX10_reads_130 rfl ?_
    refine j_aload_n C 0 dX10_reads_131 rfl ?_
    refine j_get C fl_X10_167_10 0 dX10_reads_132 rfl rfl ?_
    refine j_bipush C 48 dX10_reads_135 (by decide) ?_
    refine j_bipush C 57 dX10_reads_137 (by decide) ?_
    refine j_ciZ C (jr_V C lkV_X10_173 (c_X10_isByte am m kp wa fo ta bo so ce ik td tk bg aa vl bd aa 48 57 hw) ⟨rfl, rfl, by decide, by decide, by decide, by decide⟩ [0, 1, 2, 3, 4, 5, 6, 7, 8] (by decide) rfl (fx_ro C) 0 10 rfl rfl rfl rfl (Nat.le_of_ble_eq_true rfl) dX10_reads_139) (fun r6 u6 hw => ?_)
    refine j_if_eq C 199 dX10_reads_142 (by decide) (fun z => ?_) (fun z => ?_)
    · replace hw := hw.1 z
      exact hK aa vl hw
    · replace hw := hw.2 z
      refine j_aload_n C 0 dX10_reads_145 rfl ?_
      refine j_aload_n C 0 dX10_reads_146 rfl ?_
      refine j_get C fl_X10_177_10 0 dX10_reads_147 rfl rfl ?_
      refine j_sipush C 999 dX10_reads_150 (by decide) ?_
      refine j_icmp_le C 163 dX10_reads_153 (by decide) (fun z => ?_) (fun z => ?_)
      · replace hw := hw.1 z
        refine j_bipush C 10 dX10_reads_163 (by decide) ?_
        refine j_aload_n C 0 dX10_reads_165 rfl ?_
        refine j_get C fl_X10_177_10 0 dX10_reads_166 rfl rfl ?_
        refine j_imul C dX10_reads_169 ?_
        refine j_aload_n C 0 dX10_reads_170 rfl ?_
        refine j_get C fl_X10_22_10 0 dX10_reads_171 rfl rfl ?_
        refine j_aload_n C 0 dX10_reads_174 rfl ?_
        refine j_get C fl_X10_167_10 0 dX10_reads_175 rfl rfl ?_
        have hi7 := hw.1
        replace hw := hw.2
        refine j_iald C 5 dX10_reads_178 rfl hi7 ?_
        refine j_iadd C dX10_reads_179 ?_
        refine j_bipush C 48 dX10_reads_180 (by decide) ?_
        refine j_isub C dX10_reads_182 ?_
        refine j_put C hB fw_X10_177_10 0 (wM ca am m kp wa fo ta bo so ce ik td tk bg aa (((10 * vl) + (ta (aa.toNatClampNeg))) - 48) bd) dX10_reads_183 rfl rfl rfl (Nat.le_of_ble_eq_true rfl) rfl ?_
        refine j_aload_n C 0 dX10_reads_186 rfl ?_
        refine j_dup C dX10_reads_187 rfl ?_
        refine j_get C fl_X10_167_10 0 dX10_reads_188 rfl rfl ?_
        refine j_iconst C 1 dX10_reads_191 (by decide) ?_
        refine j_iadd C dX10_reads_192 ?_
        refine j_put C hB fw_X10_167_10 0 (wM ca am m kp wa fo ta bo so ce ik td tk bg (aa + 1) (((10 * vl) + (ta (aa.toNatClampNeg))) - 48) bd) dX10_reads_193 rfl rfl rfl (Nat.le_of_ble_eq_true rfl) rfl ?_
        refine j_goto C 130 dX10_reads_196 (by decide) ?_
        exact ih (aa + 1) (((10 * vl) + (ta (aa.toNatClampNeg))) - 48) hw
      · replace hw := hw.2 z
        refine j_aload_n C 0 dX10_reads_156 rfl ?_
        refine j_get C fl_X10_177_10 0 dX10_reads_157 rfl rfl ?_
        refine j_goto C 183 dX10_reads_160 (by decide) ?_
        refine j_put C hB fw_X10_177_10 0 (wM ca am m kp wa fo ta bo so ce ik td tk bg aa vl bd) dX10_reads_183 rfl rfl rfl (Nat.le_of_ble_eq_true rfl) rfl ?_
        refine j_aload_n C 0 dX10_reads_186 rfl ?_
        refine j_dup C dX10_reads_187 rfl ?_
        refine j_get C fl_X10_167_10 0 dX10_reads_188 rfl rfl ?_
        refine j_iconst C 1 dX10_reads_191 (by decide) ?_
        refine j_iadd C dX10_reads_192 ?_
        refine j_put C hB fw_X10_167_10 0 (wM ca am m kp wa fo ta bo so ce ik td tk bg (aa + 1) vl bd) dX10_reads_193 rfl rfl rfl (Nat.le_of_ble_eq_true rfl) rfl ?_
        refine j_goto C 130 dX10_reads_196 (by decide) ?_
        exact ih (aa + 1) vl hw
set_option maxRecDepth 100000 in
set_option maxHeartbeats 8000000 in
theorem ml_X10_reads_76 {l : Launch} {D : va_G} {ca : Nat → ClassId} {sd : Nat → Nat}  {k : Kx} (am : Nat → Nat)  (m : Nat → Int32) (kp : Nat → Int32) (wa : Nat → Int32) (fo : Nat → Int32) (ta : Nat → Int32) (bo : Nat → Int32) (so : Nat → Int32) (ce : Nat → Int64) (ik : Int32) (td : Int32) (tk : Int32) (bg : Int32) (vl : Int32) (bd : Int32) (C : Cx D ca sd cX10_reads RX10 none { frames := 2, cells := 0, slots := 0, locals := 46 } k 1) {Q : (Int32) → (Int32) → (Int32) → (Int32) → Prop} (hR : Rx (Rv D (fun u : (Int32) × (Int32) × (Int32) × (Int32) => Q u.1 u.2.1 u.2.2.1 u.2.2.2) (fun u => (wM ca am m kp wa fo ta bo so ce ik td u.1 u.2.1 u.2.2.1 u.2.2.2 bd))) 0 0 k) (hB : Wx k) {K : (Int32) → Prop} (hK : ∀ (aa' : Int32), K aa' → J l D k 1 0 0 104 (wM ca am m kp wa fo ta bo so ce ik td tk bg aa' vl bd) [(0, .ref (am 0))] []) : ∀ (n : Nat) (aa : Int32), wpl_X10_reads_76 ta td  K n aa → J l D k 1 0 0 76 (wM ca am m kp wa fo ta bo so ce ik td tk bg aa vl bd) [(0, .ref (am 0))] [] := by
  intro n
  induction n with
  | zero =>
    intro aa hw
    rw [wpl_X10_reads_76] at hw
    exact hw.elim
  | succ n ih =>
    intro aa hw
    rw [wpl_X10_reads_76] at hw
    refine j_aload_n C 0 dX10_reads_76 rfl ?_
    refine j_aload_n C 0 dX10_reads_77 rfl ?_
    refine j_get C fl_X10_167_10 0 dX10_reads_78 rfl rfl ?_
    refine j_bipush C 97 dX10_reads_81 (by decide) ?_
    refine j_bipush C 122 dX10_reads_83 (by decide) ?_
    refine j_ciZ C (jr_V C lkV_X10_173 (c_X10_isByte am m kp wa fo ta bo so ce ik td tk bg aa vl bd aa 97 122 hw) ⟨rfl, rfl, by decide, by decide, by decide, by decide⟩ [0, 1, 2, 3, 4, 5, 6, 7, 8] (by decide) rfl (fx_ro C) 0 10 rfl rfl rfl rfl (Nat.le_of_ble_eq_true rfl) dX10_reads_85) (fun r9 u9 hw => ?_)
    refine j_if_eq C 104 dX10_reads_88 (by decide) (fun z => ?_) (fun z => ?_)
    · replace hw := hw.1 z
      exact hK aa hw
    · replace hw := hw.2 z
      refine j_aload_n C 0 dX10_reads_91 rfl ?_
      refine j_dup C dX10_reads_92 rfl ?_
      refine j_get C fl_X10_167_10 0 dX10_reads_93 rfl rfl ?_
      refine j_iconst C 1 dX10_reads_96 (by decide) ?_
      refine j_iadd C dX10_reads_97 ?_
      refine j_put C hB fw_X10_167_10 0 (wM ca am m kp wa fo ta bo so ce ik td tk bg (aa + 1) vl bd) dX10_reads_98 rfl rfl rfl (Nat.le_of_ble_eq_true rfl) rfl ?_
      refine j_goto C 76 dX10_reads_101 (by decide) ?_
      exact ih (aa + 1) hw
set_option maxRecDepth 100000 in
set_option maxHeartbeats 8000000 in
theorem c_X10_reads {l : Launch} {D : va_G} {ca : Nat → ClassId} {sd : Nat → Nat}  (am : Nat → Nat) (m : Nat → Int32) (kp : Nat → Int32) (wa : Nat → Int32) (fo : Nat → Int32) (ta : Nat → Int32) (bo : Nat → Int32) (so : Nat → Int32) (ce : Nat → Int64) (ik : Int32) (td : Int32) (tk : Int32) (bg : Int32) (aa : Int32) (vl : Int32) (bd : Int32)    {Q : (Int32) → (Int32) → (Int32) → (Int32) → Prop} (hw : wp_X10_reads ta td aa   Q) : Cn l D ca sd yX10_reads cX10_reads 1 none { frames := 2, cells := 0, slots := 0, locals := 46 } [.ref (am 0)] (wM ca am m kp wa fo ta bo so ce ik td tk bg aa vl bd) (wM ca am m kp wa fo ta bo so ce ik td tk bg aa vl bd) 0 0 (Rv D (fun u : (Int32) × (Int32) × (Int32) × (Int32) => Q u.1 u.2.1 u.2.2.1 u.2.2.2) (fun u => (wM ca am m kp wa fo ta bo so ce ik td u.1 u.2.1 u.2.2.1 u.2.2.2 bd))) := by
  refine cn_of (by decide) (Nat.le_of_ble_eq_true rfl) (fun k C hR hB _ => ?_)
  have C : Cx D ca sd cX10_reads RX10 none { frames := 2, cells := 0, slots := 0, locals := 46 } k 1 := C
  unfold wp_X10_reads at hw
  show J l D k 1 0 0 0 (wM ca am m kp wa fo ta bo so ce ik td tk bg aa vl bd) [(0, .ref (am 0))] []
  obtain ⟨n2, hw⟩ := hw
  refine ml_X10_reads_0 am  m kp wa fo ta bo so ce ik td tk bg vl bd C hR hB (fun y2_aa hw => ?_) n2 aa hw
  refine j_aload_n C 0 dX10_reads_28 rfl ?_
  refine j_aload_n C 0 dX10_reads_29 rfl ?_
  refine j_get C fl_X10_167_10 0 dX10_reads_30 rfl rfl ?_
  refine j_put C hB fw_X10_164_10 0 (wM ca am m kp wa fo ta bo so ce ik td tk y2_aa y2_aa vl bd) dX10_reads_33 rfl rfl rfl (Nat.le_of_ble_eq_true rfl) rfl ?_
  refine j_aload_n C 0 dX10_reads_36 rfl ?_
  refine j_iconst C 0 dX10_reads_37 (by decide) ?_
  refine j_put C hB fw_X10_177_10 0 (wM ca am m kp wa fo ta bo so ce ik td tk y2_aa y2_aa 0 bd) dX10_reads_38 rfl rfl rfl (Nat.le_of_ble_eq_true rfl) rfl ?_
  refine j_aload_n C 0 dX10_reads_41 rfl ?_
  refine j_get C fl_X10_167_10 0 dX10_reads_42 rfl rfl ?_
  refine j_aload_n C 0 dX10_reads_45 rfl ?_
  refine j_get C fl_X10_157_10 0 dX10_reads_46 rfl rfl ?_
  refine j_icmp_ne C 61 dX10_reads_49 (by decide) (fun z => ?_) (fun z => ?_)
  · replace hw := hw.2 z
    refine j_aload_n C 0 dX10_reads_61 rfl ?_
    refine j_aload_n C 0 dX10_reads_62 rfl ?_
    refine j_get C fl_X10_167_10 0 dX10_reads_63 rfl rfl ?_
    refine j_bipush C 97 dX10_reads_66 (by decide) ?_
    refine j_bipush C 122 dX10_reads_68 (by decide) ?_
    refine j_ciZ C (jr_V C lkV_X10_173 (c_X10_isByte am m kp wa fo ta bo so ce ik td tk y2_aa y2_aa 0 bd y2_aa 97 122 hw) ⟨rfl, rfl, by decide, by decide, by decide, by decide⟩ [0, 1, 2, 3, 4, 5, 6, 7, 8] (by decide) rfl (fx_ro C) 0 10 rfl rfl rfl rfl (Nat.le_of_ble_eq_true rfl) dX10_reads_70) (fun r3 u3 hw => ?_)
    refine j_if_eq C 115 dX10_reads_73 (by decide) (fun z => ?_) (fun z => ?_)
    · replace hw := hw.1 z
      refine j_aload_n C 0 dX10_reads_115 rfl ?_
      refine j_aload_n C 0 dX10_reads_116 rfl ?_
      refine j_get C fl_X10_167_10 0 dX10_reads_117 rfl rfl ?_
      refine j_bipush C 48 dX10_reads_120 (by decide) ?_
      refine j_bipush C 57 dX10_reads_122 (by decide) ?_
      refine j_ciZ C (jr_V C lkV_X10_173 (c_X10_isByte am m kp wa fo ta bo so ce ik td tk y2_aa y2_aa 0 bd y2_aa 48 57 hw) ⟨rfl, rfl, by decide, by decide, by decide, by decide⟩ [0, 1, 2, 3, 4, 5, 6, 7, 8] (by decide) rfl (fx_ro C) 0 10 rfl rfl rfl rfl (Nat.le_of_ble_eq_true rfl) dX10_reads_124) (fun r4 u4 hw => ?_)
      refine j_if_eq C 208 dX10_reads_127 (by decide) (fun z => ?_) (fun z => ?_)
      · replace hw := hw.1 z
        refine j_aload_n C 0 dX10_reads_208 rfl ?_
        refine j_aload_n C 0 dX10_reads_209 rfl ?_
        refine j_aload_n C 0 dX10_reads_210 rfl ?_
        refine j_get C fl_X10_167_10 0 dX10_reads_211 rfl rfl ?_
        refine j_bipush C 59 dX10_reads_214 (by decide) ?_
        refine j_bipush C 59 dX10_reads_216 (by decide) ?_
        refine j_ciZ C (jr_V C lkV_X10_173 (c_X10_isByte am m kp wa fo ta bo so ce ik td tk y2_aa y2_aa 0 bd y2_aa 59 59 hw) ⟨rfl, rfl, by decide, by decide, by decide, by decide⟩ [0, 1, 2, 3, 4, 5, 6, 7, 8] (by decide) rfl (fx_ro C) 0 10 rfl rfl rfl rfl (Nat.le_of_ble_eq_true rfl) dX10_reads_218) (fun r5 u5 hw => ?_)
        refine j_if_eq C 229 dX10_reads_221 (by decide) (fun z => ?_) (fun z => ?_)
        · replace hw := hw.1 z
          refine j_bipush C 23 dX10_reads_229 (by decide) ?_
          refine j_put C hB fw_X10_180_10 0 (wM ca am m kp wa fo ta bo so ce ik td 23 y2_aa y2_aa 0 bd) dX10_reads_231 rfl rfl rfl (Nat.le_of_ble_eq_true rfl) rfl ?_
          refine j_aload_n C 0 dX10_reads_234 rfl ?_
          refine j_dup C dX10_reads_235 rfl ?_
          refine j_get C fl_X10_167_10 0 dX10_reads_236 rfl rfl ?_
          refine j_iconst C 1 dX10_reads_239 (by decide) ?_
          refine j_iadd C dX10_reads_240 ?_
          refine j_put C hB fw_X10_167_10 0 (wM ca am m kp wa fo ta bo so ce ik td 23 y2_aa (y2_aa + 1) 0 bd) dX10_reads_241 rfl rfl rfl (Nat.le_of_ble_eq_true rfl) rfl ?_
          exact j_vret C hB hR (23, y2_aa, y2_aa + 1, 0) rfl dX10_reads_244 hw rfl
        · replace hw := hw.2 z
          refine j_bipush C 21 dX10_reads_224 (by decide) ?_
          refine j_goto C 231 dX10_reads_226 (by decide) ?_
          refine j_put C hB fw_X10_180_10 0 (wM ca am m kp wa fo ta bo so ce ik td 21 y2_aa y2_aa 0 bd) dX10_reads_231 rfl rfl rfl (Nat.le_of_ble_eq_true rfl) rfl ?_
          refine j_aload_n C 0 dX10_reads_234 rfl ?_
          refine j_dup C dX10_reads_235 rfl ?_
          refine j_get C fl_X10_167_10 0 dX10_reads_236 rfl rfl ?_
          refine j_iconst C 1 dX10_reads_239 (by decide) ?_
          refine j_iadd C dX10_reads_240 ?_
          refine j_put C hB fw_X10_167_10 0 (wM ca am m kp wa fo ta bo so ce ik td 21 y2_aa (y2_aa + 1) 0 bd) dX10_reads_241 rfl rfl rfl (Nat.le_of_ble_eq_true rfl) rfl ?_
          exact j_vret C hB hR (21, y2_aa, y2_aa + 1, 0) rfl dX10_reads_244 hw rfl
      · replace hw := hw.2 z
        obtain ⟨n8, hw⟩ := hw
        refine ml_X10_reads_130 am  m kp wa fo ta bo so ce ik td tk y2_aa bd C hR hB (fun y8_aa y8_vl hw => ?_) n8 y2_aa 0 hw
        refine j_aload_n C 0 dX10_reads_199 rfl ?_
        refine j_bipush C 20 dX10_reads_200 (by decide) ?_
        refine j_put C hB fw_X10_180_10 0 (wM ca am m kp wa fo ta bo so ce ik td 20 y2_aa y8_aa y8_vl bd) dX10_reads_202 rfl rfl rfl (Nat.le_of_ble_eq_true rfl) rfl ?_
        refine j_goto C 244 dX10_reads_205 (by decide) ?_
        exact j_vret C hB hR (20, y2_aa, y8_aa, y8_vl) rfl dX10_reads_244 hw rfl
    · replace hw := hw.2 z
      obtain ⟨n10, hw⟩ := hw
      refine ml_X10_reads_76 am  m kp wa fo ta bo so ce ik td tk y2_aa 0 bd C hR hB (fun y10_aa hw => ?_) n10 y2_aa hw
      refine j_aload_n C 0 dX10_reads_104 rfl ?_
      refine j_aload_n C 0 dX10_reads_105 rfl ?_
      refine j_ciZ C (jr_V C lkV_X10_183 (c_X10_wordHere am m kp wa fo ta bo so ce ik td tk y2_aa y10_aa 0 bd hw) ⟨rfl, rfl, by decide, by decide, by decide, by decide⟩ [0, 1, 2, 3, 4, 5, 6, 7, 8] (by decide) rfl (fx_ro C) 0 10 rfl rfl rfl rfl (Nat.le_of_ble_eq_true rfl) dX10_reads_106) (fun r11 u11 hw => ?_)
      refine j_put C hB fw_X10_180_10 0 (wM ca am m kp wa fo ta bo so ce ik td r11 y2_aa y10_aa 0 bd) dX10_reads_109 rfl rfl rfl (Nat.le_of_ble_eq_true rfl) rfl ?_
      refine j_goto C 244 dX10_reads_112 (by decide) ?_
      exact j_vret C hB hR (r11, y2_aa, y10_aa, 0) rfl dX10_reads_244 hw rfl
  · replace hw := hw.1 z
    refine j_aload_n C 0 dX10_reads_52 rfl ?_
    refine j_bipush C 22 dX10_reads_53 (by decide) ?_
    refine j_put C hB fw_X10_180_10 0 (wM ca am m kp wa fo ta bo so ce ik td 22 y2_aa y2_aa 0 bd) dX10_reads_55 rfl rfl rfl (Nat.le_of_ble_eq_true rfl) rfl ?_
    refine j_goto C 244 dX10_reads_58 (by decide) ?_
    exact j_vret C hB hR (22, y2_aa, y2_aa, 0) rfl dX10_reads_244 hw rfl
def wp_X10_passes (ta : Nat → Int32) (td : Int32) (tk : Int32) (bg : Int32) (aa : Int32) (vl : Int32) (bd : Int32)  (a1 : Int32) (Q : (Int32) → (Int32) → (Int32) → (Int32) → (Int32) → Prop) : Prop := (bd = 0 → (tk = a1 → wp_X10_reads ta td aa (fun c1_0 c1_1 c1_2 c1_3 => Q 1 c1_0 c1_1 c1_2 c1_3)) ∧ (¬ (tk = a1) → Q 0 tk bg aa vl)) ∧ (¬ (bd = 0) → Q 0 tk bg aa vl)
set_option maxRecDepth 100000 in
set_option maxHeartbeats 8000000 in
theorem c_X10_passes {l : Launch} {D : va_G} {ca : Nat → ClassId} {sd : Nat → Nat}  (am : Nat → Nat) (m : Nat → Int32) (kp : Nat → Int32) (wa : Nat → Int32) (fo : Nat → Int32) (ta : Nat → Int32) (bo : Nat → Int32) (so : Nat → Int32) (ce : Nat → Int64) (ik : Int32) (td : Int32) (tk : Int32) (bg : Int32) (aa : Int32) (vl : Int32) (bd : Int32)  (a1 : Int32)  {Q : (Int32) → (Int32) → (Int32) → (Int32) → (Int32) → Prop} (hw : wp_X10_passes ta td tk bg aa vl bd  a1 Q) : Cn l D ca sd yX10_passes cX10_passes 2 (some .boolean) { frames := 3, cells := 0, slots := 0, locals := 66 } [.ref (am 0), .int a1] (wM ca am m kp wa fo ta bo so ce ik td tk bg aa vl bd) (wM ca am m kp wa fo ta bo so ce ik td tk bg aa vl bd) 0 0 (Ri D (fun (r : Int32) (u : (Int32) × (Int32) × (Int32) × (Int32)) => Q r u.1 u.2.1 u.2.2.1 u.2.2.2) (fun u => (wM ca am m kp wa fo ta bo so ce ik td u.1 u.2.1 u.2.2.1 u.2.2.2 bd))) := by
  refine cn_of (by decide) (Nat.le_of_ble_eq_true rfl) (fun k C hR hB _ => ?_)
  have C : Cx D ca sd cX10_passes RX10 (some .boolean) { frames := 3, cells := 0, slots := 0, locals := 66 } k 2 := C
  unfold wp_X10_passes at hw
  show J l D k 2 0 0 0 (wM ca am m kp wa fo ta bo so ce ik td tk bg aa vl bd) [(0, .ref (am 0)), (1, .int a1)] []
  refine j_aload_n C 0 dX10_passes_0 rfl ?_
  refine j_get C fl_X10_186_10 0 dX10_passes_1 rfl rfl ?_
  refine j_if_ne C 15 dX10_passes_4 (by decide) (fun z => ?_) (fun z => ?_)
  · replace hw := hw.2 z
    refine j_iconst C 0 dX10_passes_15 (by decide) ?_
    exact j_zret C hB hR (by decide) (tk, bg, aa, vl) rfl dX10_passes_16 hw rfl
  · replace hw := hw.1 z
    refine j_aload_n C 0 dX10_passes_7 rfl ?_
    refine j_get C fl_X10_180_10 0 dX10_passes_8 rfl rfl ?_
    refine j_iload_n C 1 dX10_passes_11 rfl ?_
    refine j_icmp_eq C 17 dX10_passes_12 (by decide) (fun z => ?_) (fun z => ?_)
    · replace hw := hw.1 z
      refine j_aload_n C 0 dX10_passes_17 rfl ?_
      refine j_cvT C hB 0 9 (fun u1 : (Int32) × (Int32) × (Int32) × (Int32) => (wM ca am m kp wa fo ta bo so ce ik td u1.1 u1.2.1 u1.2.2.1 u1.2.2.2 bd)) rfl (fun _ => rfl) (jr_V C lkV_X10_190 (c_X10_reads am m kp wa fo ta bo so ce ik td tk bg aa vl bd hw) ⟨rfl, rfl, by decide, by decide, by decide, by decide⟩ [0, 1, 2, 3, 4, 5, 6, 7, 8] (by decide) rfl (fx_rw C hB [0, 1, 2, 3, 4, 5, 6, 7, 8] rfl) 0 10 rfl rfl rfl rfl (Nat.le_of_ble_eq_true rfl) dX10_passes_18) (fun u1 hw => ?_)
      refine j_iconst C 1 dX10_passes_21 (by decide) ?_
      exact j_zret C hB hR (by decide) (u1.1, u1.2.1, u1.2.2.1, u1.2.2.2) rfl dX10_passes_22 hw rfl
    · replace hw := hw.2 z
      refine j_iconst C 0 dX10_passes_15 (by decide) ?_
      exact j_zret C hB hR (by decide) (tk, bg, aa, vl) rfl dX10_passes_16 hw rfl
def wp_X10_number (ta : Nat → Int32) (td : Int32) (tk : Int32) (bg : Int32) (aa : Int32) (vl : Int32) (bd : Int32)  (a1 : Int32) (a2 : Int32) (Q : (Int32) → (Int32) → (Int32) → (Int32) → (Int32) → (Int32) → Prop) : Prop := (bd = 0 → (tk = 20 → wp_X10_in ((vl).toInt64) a1 a2 (fun r1 => (r1 = 0 → Q vl tk bg aa vl 1) ∧ (¬ (r1 = 0) → wp_X10_reads ta td aa (fun c2_0 c2_1 c2_2 c2_3 => Q vl c2_0 c2_1 c2_2 c2_3 0)))) ∧ (¬ (tk = 20) → Q vl tk bg aa vl 1)) ∧ (¬ (bd = 0) → Q vl tk bg aa vl 1)
set_option maxRecDepth 100000 in
set_option maxHeartbeats 8000000 in
theorem c_X10_number {l : Launch} {D : va_G} {ca : Nat → ClassId} {sd : Nat → Nat}  (am : Nat → Nat) (m : Nat → Int32) (kp : Nat → Int32) (wa : Nat → Int32) (fo : Nat → Int32) (ta : Nat → Int32) (bo : Nat → Int32) (so : Nat → Int32) (ce : Nat → Int64) (ik : Int32) (td : Int32) (tk : Int32) (bg : Int32) (aa : Int32) (vl : Int32) (bd : Int32)  (a1 : Int32) (a2 : Int32)  {Q : (Int32) → (Int32) → (Int32) → (Int32) → (Int32) → (Int32) → Prop} (hw : wp_X10_number ta td tk bg aa vl bd  a1 a2 Q) : Cn l D ca sd yX10_number cX10_number 4 (some .int) { frames := 3, cells := 0, slots := 0, locals := 66 } [.ref (am 0), .int a1, .int a2] (wM ca am m kp wa fo ta bo so ce ik td tk bg aa vl bd) (wM ca am m kp wa fo ta bo so ce ik td tk bg aa vl bd) 0 0 (Ri D (fun (r : Int32) (u : (Int32) × (Int32) × (Int32) × (Int32) × (Int32)) => Q r u.1 u.2.1 u.2.2.1 u.2.2.2.1 u.2.2.2.2) (fun u => (wM ca am m kp wa fo ta bo so ce ik td u.1 u.2.1 u.2.2.1 u.2.2.2.1 u.2.2.2.2))) := by
  refine cn_of (by decide) (Nat.le_of_ble_eq_true rfl) (fun k C hR hB _ => ?_)
  have C : Cx D ca sd cX10_number RX10 (some .int) { frames := 3, cells := 0, slots := 0, locals := 66 } k 4 := C
  unfold wp_X10_number at hw
  show J l D k 4 0 0 0 (wM ca am m kp wa fo ta bo so ce ik td tk bg aa vl bd) [(0, .ref (am 0)), (1, .int a1), (2, .int a2)] []
  refine j_aload_n C 0 dX10_number_0 rfl ?_
  refine j_get C fl_X10_177_10 0 dX10_number_1 rfl rfl ?_
  refine j_istore_n C [(3, .int vl), (0, .ref (am 0)), (1, .int a1), (2, .int a2)] dX10_number_4 (by decide) rfl ?_
  refine j_aload_n C 1 dX10_number_5 rfl ?_
  refine j_aload_n C 1 dX10_number_6 rfl ?_
  refine j_get C fl_X10_186_10 0 dX10_number_7 rfl rfl ?_
  refine j_if_ne C 32 dX10_number_10 (by decide) (fun z => ?_) (fun z => ?_)
  · replace hw := hw.2 z
    refine j_iconst C 1 dX10_number_32 (by decide) ?_
    refine j_goto C 37 dX10_number_33 (by decide) ?_
    refine j_put C hB fw_X10_186_10 0 (wM ca am m kp wa fo ta bo so ce ik td tk bg aa vl 1) dX10_number_37 rfl (by decide) (by decide) (Nat.le_of_ble_eq_true rfl) rfl ?_
    refine j_aload_n C 1 dX10_number_40 rfl ?_
    refine j_get C fl_X10_186_10 0 dX10_number_41 rfl rfl ?_
    refine j_if_ne C 51 dX10_number_44 (by decide) (fun _ => ?_) (fun z => absurd z (by decide))
    refine j_iload_n C 0 dX10_number_51 rfl ?_
    exact j_iret C hB hR (tk, bg, aa, vl, 1) rfl dX10_number_52 hw rfl
  · replace hw := hw.1 z
    refine j_aload_n C 1 dX10_number_13 rfl ?_
    refine j_get C fl_X10_180_10 0 dX10_number_14 rfl rfl ?_
    refine j_bipush C 20 dX10_number_17 (by decide) ?_
    refine j_icmp_ne C 32 dX10_number_19 (by decide) (fun z => ?_) (fun z => ?_)
    · replace hw := hw.2 z
      refine j_iconst C 1 dX10_number_32 (by decide) ?_
      refine j_goto C 37 dX10_number_33 (by decide) ?_
      refine j_put C hB fw_X10_186_10 0 (wM ca am m kp wa fo ta bo so ce ik td tk bg aa vl 1) dX10_number_37 rfl (by decide) (by decide) (Nat.le_of_ble_eq_true rfl) rfl ?_
      refine j_aload_n C 1 dX10_number_40 rfl ?_
      refine j_get C fl_X10_186_10 0 dX10_number_41 rfl rfl ?_
      refine j_if_ne C 51 dX10_number_44 (by decide) (fun _ => ?_) (fun z => absurd z (by decide))
      refine j_iload_n C 0 dX10_number_51 rfl ?_
      exact j_iret C hB hR (tk, bg, aa, vl, 1) rfl dX10_number_52 hw rfl
    · replace hw := hw.1 z
      refine j_iload_n C 0 dX10_number_22 rfl ?_
      refine j_i2l C dX10_number_23 ?_
      refine j_iload_n C 2 dX10_number_24 rfl ?_
      refine j_iload_n C 3 dX10_number_25 rfl ?_
      refine j_ciZ C (jr_S C lkS_X10_41 (c_X10_in ((vl).toInt64) a1 a2 hw) ⟨rfl, rfl, by decide, by decide, by decide, by decide⟩ [] (by decide) rfl (fx_ro C) rfl rfl (Nat.le_of_ble_eq_true rfl) dX10_number_26) (fun r1 u1 hw => ?_)
      refine j_if_ne C 36 dX10_number_29 (by decide) (fun z => ?_) (fun z => ?_)
      · replace hw := hw.2 z
        refine j_iconst C 0 dX10_number_36 (by decide) ?_
        refine j_put C hB fw_X10_186_10 0 (wM ca am m kp wa fo ta bo so ce ik td tk bg aa vl 0) dX10_number_37 rfl (by decide) (by decide) (Nat.le_of_ble_eq_true rfl) rfl ?_
        refine j_aload_n C 1 dX10_number_40 rfl ?_
        refine j_get C fl_X10_186_10 0 dX10_number_41 rfl rfl ?_
        refine j_if_ne C 51 dX10_number_44 (by decide) (fun z => absurd z (by decide)) (fun _ => ?_)
        refine j_aload_n C 1 dX10_number_47 rfl ?_
        refine j_cvT C hB 0 9 (fun u2 : (Int32) × (Int32) × (Int32) × (Int32) => (wM ca am m kp wa fo ta bo so ce ik td u2.1 u2.2.1 u2.2.2.1 u2.2.2.2 0)) rfl (fun _ => rfl) (jr_V C lkV_X10_190 (c_X10_reads am m kp wa fo ta bo so ce ik td tk bg aa vl 0 hw) ⟨rfl, rfl, by decide, by decide, by decide, by decide⟩ [0, 1, 2, 3, 4, 5, 6, 7, 8] (by decide) rfl (fx_rw C hB [0, 1, 2, 3, 4, 5, 6, 7, 8] rfl) 0 10 rfl rfl rfl rfl (Nat.le_of_ble_eq_true rfl) dX10_number_48) (fun u2 hw => ?_)
        refine j_iload_n C 0 dX10_number_51 rfl ?_
        exact j_iret C hB hR (u2.1, u2.2.1, u2.2.2.1, u2.2.2.2, 0) rfl dX10_number_52 hw rfl
      · replace hw := hw.1 z
        refine j_iconst C 1 dX10_number_32 (by decide) ?_
        refine j_goto C 37 dX10_number_33 (by decide) ?_
        refine j_put C hB fw_X10_186_10 0 (wM ca am m kp wa fo ta bo so ce ik td tk bg aa vl 1) dX10_number_37 rfl (by decide) (by decide) (Nat.le_of_ble_eq_true rfl) rfl ?_
        refine j_aload_n C 1 dX10_number_40 rfl ?_
        refine j_get C fl_X10_186_10 0 dX10_number_41 rfl rfl ?_
        refine j_if_ne C 51 dX10_number_44 (by decide) (fun _ => ?_) (fun z => absurd z (by decide))
        refine j_iload_n C 0 dX10_number_51 rfl ?_
        exact j_iret C hB hR (tk, bg, aa, vl, 1) rfl dX10_number_52 hw rfl
def wp_X10_perhaps (ta : Nat → Int32) (td : Int32) (tk : Int32) (bg : Int32) (aa : Int32) (vl : Int32) (bd : Int32)  (a1 : Int32) (a2 : Int32) (a3 : Int32) (a4 : Int32) (Q : (Int32) → (Int32) → (Int32) → (Int32) → (Int32) → (Int32) → Prop) : Prop := wp_X10_passes ta td tk bg aa vl bd a1 (fun r1 c1_0 c1_1 c1_2 c1_3 => (r1 = 0 → Q a4 c1_0 c1_1 c1_2 c1_3 bd) ∧ (¬ (r1 = 0) → wp_X10_number ta td c1_0 c1_1 c1_2 c1_3 bd a2 a3 (fun r2 c2_0 c2_1 c2_2 c2_3 c2_4 => Q r2 c2_0 c2_1 c2_2 c2_3 c2_4)))
set_option maxRecDepth 100000 in
set_option maxHeartbeats 8000000 in
theorem c_X10_perhaps {l : Launch} {D : va_G} {ca : Nat → ClassId} {sd : Nat → Nat}  (am : Nat → Nat) (m : Nat → Int32) (kp : Nat → Int32) (wa : Nat → Int32) (fo : Nat → Int32) (ta : Nat → Int32) (bo : Nat → Int32) (so : Nat → Int32) (ce : Nat → Int64) (ik : Int32) (td : Int32) (tk : Int32) (bg : Int32) (aa : Int32) (vl : Int32) (bd : Int32)  (a1 : Int32) (a2 : Int32) (a3 : Int32) (a4 : Int32)  {Q : (Int32) → (Int32) → (Int32) → (Int32) → (Int32) → (Int32) → Prop} (hw : wp_X10_perhaps ta td tk bg aa vl bd  a1 a2 a3 a4 Q) : Cn l D ca sd yX10_perhaps cX10_perhaps 5 (some .int) { frames := 4, cells := 0, slots := 0, locals := 89 } [.ref (am 0), .int a1, .int a2, .int a3, .int a4] (wM ca am m kp wa fo ta bo so ce ik td tk bg aa vl bd) (wM ca am m kp wa fo ta bo so ce ik td tk bg aa vl bd) 0 0 (Ri D (fun (r : Int32) (u : (Int32) × (Int32) × (Int32) × (Int32) × (Int32)) => Q r u.1 u.2.1 u.2.2.1 u.2.2.2.1 u.2.2.2.2) (fun u => (wM ca am m kp wa fo ta bo so ce ik td u.1 u.2.1 u.2.2.1 u.2.2.2.1 u.2.2.2.2))) := by
  refine cn_of (by decide) (Nat.le_of_ble_eq_true rfl) (fun k C hR hB _ => ?_)
  have C : Cx D ca sd cX10_perhaps RX10 (some .int) { frames := 4, cells := 0, slots := 0, locals := 89 } k 5 := C
  unfold wp_X10_perhaps at hw
  show J l D k 5 0 0 0 (wM ca am m kp wa fo ta bo so ce ik td tk bg aa vl bd) [(0, .ref (am 0)), (1, .int a1), (2, .int a2), (3, .int a3), (4, .int a4)] []
  refine j_aload_n C 0 dX10_perhaps_0 rfl ?_
  refine j_iload_n C 1 dX10_perhaps_1 rfl ?_
  refine j_ciT C hB 0 9 (fun u1 : (Int32) × (Int32) × (Int32) × (Int32) => (wM ca am m kp wa fo ta bo so ce ik td u1.1 u1.2.1 u1.2.2.1 u1.2.2.2 bd)) rfl (fun _ => rfl) (jr_V C lkV_X10_193 (c_X10_passes am m kp wa fo ta bo so ce ik td tk bg aa vl bd a1 hw) ⟨rfl, rfl, by decide, by decide, by decide, by decide⟩ [0, 1, 2, 3, 4, 5, 6, 7, 8] (by decide) rfl (fx_rw C hB [0, 1, 2, 3, 4, 5, 6, 7, 8] rfl) 0 10 rfl rfl rfl rfl (Nat.le_of_ble_eq_true rfl) dX10_perhaps_2) (fun r1 u1 hw => ?_)
  refine j_if_eq C 17 dX10_perhaps_5 (by decide) (fun z => ?_) (fun z => ?_)
  · replace hw := hw.1 z
    refine j_iload C 4 dX10_perhaps_17 rfl ?_
    exact j_iret C hB hR (u1.1, u1.2.1, u1.2.2.1, u1.2.2.2, bd) rfl dX10_perhaps_19 hw rfl
  · replace hw := hw.2 z
    refine j_aload_n C 0 dX10_perhaps_8 rfl ?_
    refine j_iload_n C 2 dX10_perhaps_9 rfl ?_
    refine j_iload_n C 3 dX10_perhaps_10 rfl ?_
    refine j_ciT C hB 0 9 (fun u2 : (Int32) × (Int32) × (Int32) × (Int32) × (Int32) => (wM ca am m kp wa fo ta bo so ce ik td u2.1 u2.2.1 u2.2.2.1 u2.2.2.2.1 u2.2.2.2.2)) rfl (fun _ => rfl) (jr_V C lkV_X10_196 (c_X10_number am m kp wa fo ta bo so ce ik td u1.1 u1.2.1 u1.2.2.1 u1.2.2.2 bd a2 a3 hw) ⟨rfl, rfl, by decide, by decide, by decide, by decide⟩ [0, 1, 2, 3, 4, 5, 6, 7, 8] (by decide) rfl (fx_rw C hB [0, 1, 2, 3, 4, 5, 6, 7, 8] rfl) 0 10 rfl rfl rfl rfl (Nat.le_of_ble_eq_true rfl) dX10_perhaps_11) (fun r2 u2 hw => ?_)
    refine j_goto C 19 dX10_perhaps_14 (by decide) ?_
    exact j_iret C hB hR (u2.1, u2.2.1, u2.2.2.1, u2.2.2.2.1, u2.2.2.2.2) rfl dX10_perhaps_19 hw rfl
def wp_X10_thingItem (m : Nat → Int32) (ta : Nat → Int32) (td : Int32) (tk : Int32) (bg : Int32) (aa : Int32) (vl : Int32)   (Q : (Nat → Int32) → (Int32) → (Int32) → (Int32) → (Int32) → (Int32) → Prop) : Prop := vp_in 1 52 ∧ (((m ((1 : Int32).toNatClampNeg)) = 8 → Q m tk bg aa vl 1) ∧ (¬ ((m ((1 : Int32).toNatClampNeg)) = 8) → wp_X10_reads ta td aa (fun c2_0 c2_1 c2_2 c2_3 => wp_X10_number ta td c2_0 c2_1 c2_2 c2_3 0 0 99 (fun r3 c3_0 c3_1 c3_2 c3_3 c3_4 => wp_X10_perhaps ta td c3_0 c3_1 c3_2 c3_3 c3_4 6 0 5 (-1) (fun r4 c4_0 c4_1 c4_2 c4_3 c4_4 => wp_X10_perhaps ta td c4_0 c4_1 c4_2 c4_3 c4_4 7 0 999 0 (fun r5 c5_0 c5_1 c5_2 c5_3 c5_4 => (c5_4 = 0 → wp_X10_comesAs m tk r3 r4 r5 (fun r6 c6_0 => Q c6_0 c5_0 c5_1 c5_2 c5_3 c5_4)) ∧ (¬ (c5_4 = 0) → Q m c5_0 c5_1 c5_2 c5_3 c5_4)))))))
set_option maxRecDepth 100000 in
set_option maxHeartbeats 8000000 in
theorem c_X10_thingItem {l : Launch} {D : va_G} {ca : Nat → ClassId} {sd : Nat → Nat}  (am : Nat → Nat) (m : Nat → Int32) (kp : Nat → Int32) (wa : Nat → Int32) (fo : Nat → Int32) (ta : Nat → Int32) (bo : Nat → Int32) (so : Nat → Int32) (ce : Nat → Int64) (ik : Int32) (td : Int32) (tk : Int32) (bg : Int32) (aa : Int32) (vl : Int32) (bd : Int32)    {Q : (Nat → Int32) → (Int32) → (Int32) → (Int32) → (Int32) → (Int32) → Prop} (hw : wp_X10_thingItem m ta td tk bg aa vl   Q) : Cn l D ca sd yX10_thingItem cX10_thingItem 6 none { frames := 5, cells := 0, slots := 0, locals := 113 } [.ref (am 0)] (wM ca am m kp wa fo ta bo so ce ik td tk bg aa vl bd) (wM ca am m kp wa fo ta bo so ce ik td tk bg aa vl bd) 0 0 (Rv D (fun u : (Nat → Int32) × (Int32) × (Int32) × (Int32) × (Int32) × (Int32) => Q u.1 u.2.1 u.2.2.1 u.2.2.2.1 u.2.2.2.2.1 u.2.2.2.2.2) (fun u => (wM ca am u.1 kp wa fo ta bo so ce ik td u.2.1 u.2.2.1 u.2.2.2.1 u.2.2.2.2.1 u.2.2.2.2.2))) := by
  refine cn_of (by decide) (Nat.le_of_ble_eq_true rfl) (fun k C hR hB _ => ?_)
  have C : Cx D ca sd cX10_thingItem RX10 none { frames := 5, cells := 0, slots := 0, locals := 113 } k 6 := C
  unfold wp_X10_thingItem at hw
  show J l D k 6 0 0 0 (wM ca am m kp wa fo ta bo so ce ik td tk bg aa vl bd) [(0, .ref (am 0))] []
  refine j_aload_n C 0 dX10_thingItem_0 rfl ?_
  refine j_get C fl_X10_180_10 0 dX10_thingItem_1 rfl rfl ?_
  refine j_istore_n C [(1, .int tk), (0, .ref (am 0))] dX10_thingItem_4 (by decide) rfl ?_
  refine j_aload_n C 1 dX10_thingItem_5 rfl ?_
  refine j_aload_n C 1 dX10_thingItem_6 rfl ?_
  refine j_get C fl_X10_9_10 0 dX10_thingItem_7 rfl rfl ?_
  refine j_iconst C 1 dX10_thingItem_10 (by decide) ?_
  have hi1 := hw.1
  replace hw := hw.2
  refine j_iald C 1 dX10_thingItem_11 rfl hi1 ?_
  refine j_bipush C 8 dX10_thingItem_12 (by decide) ?_
  refine j_icmp_ne C 21 dX10_thingItem_14 (by decide) (fun z => ?_) (fun z => ?_)
  · replace hw := hw.2 z
    refine j_iconst C 0 dX10_thingItem_21 (by decide) ?_
    refine j_put C hB fw_X10_186_10 0 (wM ca am m kp wa fo ta bo so ce ik td tk bg aa vl 0) dX10_thingItem_22 rfl (by decide) (by decide) (Nat.le_of_ble_eq_true rfl) rfl ?_
    refine j_aload_n C 1 dX10_thingItem_25 rfl ?_
    refine j_get C fl_X10_186_10 0 dX10_thingItem_26 rfl rfl ?_
    refine j_if_eq C 33 dX10_thingItem_29 (by decide) (fun _ => ?_) (fun z => absurd z (by decide))
    refine j_aload_n C 1 dX10_thingItem_33 rfl ?_
    refine j_cvT C hB 0 9 (fun u2 : (Int32) × (Int32) × (Int32) × (Int32) => (wM ca am m kp wa fo ta bo so ce ik td u2.1 u2.2.1 u2.2.2.1 u2.2.2.2 0)) rfl (fun _ => rfl) (jr_V C lkV_X10_190 (c_X10_reads am m kp wa fo ta bo so ce ik td tk bg aa vl 0 hw) ⟨rfl, rfl, by decide, by decide, by decide, by decide⟩ [0, 1, 2, 3, 4, 5, 6, 7, 8] (by decide) rfl (fx_rw C hB [0, 1, 2, 3, 4, 5, 6, 7, 8] rfl) 0 10 rfl rfl rfl rfl (Nat.le_of_ble_eq_true rfl) dX10_thingItem_34) (fun u2 hw => ?_)
    refine j_aload_n C 1 dX10_thingItem_37 rfl ?_
    refine j_iconst C 0 dX10_thingItem_38 (by decide) ?_
    refine j_bipush C 99 dX10_thingItem_39 (by decide) ?_
    refine j_ciT C hB 0 9 (fun u3 : (Int32) × (Int32) × (Int32) × (Int32) × (Int32) => (wM ca am m kp wa fo ta bo so ce ik td u3.1 u3.2.1 u3.2.2.1 u3.2.2.2.1 u3.2.2.2.2)) rfl (fun _ => rfl) (jr_V C lkV_X10_196 (c_X10_number am m kp wa fo ta bo so ce ik td u2.1 u2.2.1 u2.2.2.1 u2.2.2.2 0 0 99 hw) ⟨rfl, rfl, by decide, by decide, by decide, by decide⟩ [0, 1, 2, 3, 4, 5, 6, 7, 8] (by decide) rfl (fx_rw C hB [0, 1, 2, 3, 4, 5, 6, 7, 8] rfl) 0 10 rfl rfl rfl rfl (Nat.le_of_ble_eq_true rfl) dX10_thingItem_41) (fun r3 u3 hw => ?_)
    refine j_istore_n C [(2, .int r3), (1, .int tk), (0, .ref (am 0))] dX10_thingItem_44 (by decide) rfl ?_
    refine j_aload_n C 2 dX10_thingItem_45 rfl ?_
    refine j_bipush C 6 dX10_thingItem_46 (by decide) ?_
    refine j_iconst C 0 dX10_thingItem_48 (by decide) ?_
    refine j_iconst C 5 dX10_thingItem_49 (by decide) ?_
    refine j_iconst C (-1) dX10_thingItem_50 (by decide) ?_
    refine j_ciT C hB 0 9 (fun u4 : (Int32) × (Int32) × (Int32) × (Int32) × (Int32) => (wM ca am m kp wa fo ta bo so ce ik td u4.1 u4.2.1 u4.2.2.1 u4.2.2.2.1 u4.2.2.2.2)) rfl (fun _ => rfl) (jr_V C lkV_X10_199 (c_X10_perhaps am m kp wa fo ta bo so ce ik td u3.1 u3.2.1 u3.2.2.1 u3.2.2.2.1 u3.2.2.2.2 6 0 5 (-1) hw) ⟨rfl, rfl, by decide, by decide, by decide, by decide⟩ [0, 1, 2, 3, 4, 5, 6, 7, 8] (by decide) rfl (fx_rw C hB [0, 1, 2, 3, 4, 5, 6, 7, 8] rfl) 0 10 rfl rfl rfl rfl (Nat.le_of_ble_eq_true rfl) dX10_thingItem_51) (fun r4 u4 hw => ?_)
    refine j_istore_n C [(3, .int r4), (2, .int r3), (1, .int tk), (0, .ref (am 0))] dX10_thingItem_54 (by decide) rfl ?_
    refine j_aload_n C 3 dX10_thingItem_55 rfl ?_
    refine j_bipush C 7 dX10_thingItem_56 (by decide) ?_
    refine j_iconst C 0 dX10_thingItem_58 (by decide) ?_
    refine j_sipush C 999 dX10_thingItem_59 (by decide) ?_
    refine j_iconst C 0 dX10_thingItem_62 (by decide) ?_
    refine j_ciT C hB 0 9 (fun u5 : (Int32) × (Int32) × (Int32) × (Int32) × (Int32) => (wM ca am m kp wa fo ta bo so ce ik td u5.1 u5.2.1 u5.2.2.1 u5.2.2.2.1 u5.2.2.2.2)) rfl (fun _ => rfl) (jr_V C lkV_X10_199 (c_X10_perhaps am m kp wa fo ta bo so ce ik td u4.1 u4.2.1 u4.2.2.1 u4.2.2.2.1 u4.2.2.2.2 7 0 999 0 hw) ⟨rfl, rfl, by decide, by decide, by decide, by decide⟩ [0, 1, 2, 3, 4, 5, 6, 7, 8] (by decide) rfl (fx_rw C hB [0, 1, 2, 3, 4, 5, 6, 7, 8] rfl) 0 10 rfl rfl rfl rfl (Nat.le_of_ble_eq_true rfl) dX10_thingItem_63) (fun r5 u5 hw => ?_)
    refine j_istore C [(4, .int r5), (3, .int r4), (2, .int r3), (1, .int tk), (0, .ref (am 0))] dX10_thingItem_66 (by decide) rfl ?_
    refine j_aload_n C 4 dX10_thingItem_68 rfl ?_
    refine j_get C fl_X10_186_10 0 dX10_thingItem_69 rfl rfl ?_
    refine j_if_ne C 86 dX10_thingItem_72 (by decide) (fun z => ?_) (fun z => ?_)
    · replace hw := hw.2 z
      exact j_vret C hB hR (m, u5.1, u5.2.1, u5.2.2.1, u5.2.2.2.1, u5.2.2.2.2) rfl dX10_thingItem_86 hw rfl
    · replace hw := hw.1 z
      refine j_aload_n C 4 dX10_thingItem_75 rfl ?_
      refine j_iload_n C 3 dX10_thingItem_76 rfl ?_
      refine j_iload_n C 2 dX10_thingItem_77 rfl ?_
      refine j_iload_n C 1 dX10_thingItem_78 rfl ?_
      refine j_iload C 0 dX10_thingItem_79 rfl ?_
      refine j_ciT C hB 0 9 (fun u6 : (Nat → Int32) => (wM ca am u6 kp wa fo ta bo so ce ik td u5.1 u5.2.1 u5.2.2.1 u5.2.2.2.1 u5.2.2.2.2)) rfl (fun _ => rfl) (jr_V C lkV_X10_77 (c_X10_comesAs am m kp wa fo ta bo so ce ik td u5.1 u5.2.1 u5.2.2.1 u5.2.2.2.1 u5.2.2.2.2 tk r3 r4 r5 hw) ⟨rfl, rfl, by decide, by decide, by decide, by decide⟩ [0, 1, 2, 3, 4, 5, 6, 7, 8] (by decide) rfl (fx_rw C hB [0, 1, 2, 3, 4, 5, 6, 7, 8] rfl) 0 10 rfl rfl rfl rfl (Nat.le_of_ble_eq_true rfl) dX10_thingItem_81) (fun r6 u6 hw => ?_)
      refine j_istore C [(5, .int r6), (4, .int r5), (3, .int r4), (2, .int r3), (1, .int tk), (0, .ref (am 0))] dX10_thingItem_84 (by decide) rfl ?_
      exact j_vret C hB hR (u6, u5.1, u5.2.1, u5.2.2.1, u5.2.2.2.1, u5.2.2.2.2) rfl dX10_thingItem_86 hw rfl
  · replace hw := hw.1 z
    refine j_iconst C 1 dX10_thingItem_17 (by decide) ?_
    refine j_goto C 22 dX10_thingItem_18 (by decide) ?_
    refine j_put C hB fw_X10_186_10 0 (wM ca am m kp wa fo ta bo so ce ik td tk bg aa vl 1) dX10_thingItem_22 rfl (by decide) (by decide) (Nat.le_of_ble_eq_true rfl) rfl ?_
    refine j_aload_n C 1 dX10_thingItem_25 rfl ?_
    refine j_get C fl_X10_186_10 0 dX10_thingItem_26 rfl rfl ?_
    refine j_if_eq C 33 dX10_thingItem_29 (by decide) (fun z => absurd z (by decide)) (fun _ => ?_)
    exact j_vret C hB hR (m, tk, bg, aa, vl, 1) rfl dX10_thingItem_32 hw rfl
def wp_X10_personItem (m : Nat → Int32) (ta : Nat → Int32) (td : Int32) (tk : Int32) (aa : Int32) (bd : Int32)   (Q : (Nat → Int32) → (Int32) → (Int32) → (Int32) → (Int32) → (Int32) → Prop) : Prop := (tk = 8 → wp_X10_reads ta td aa (fun c5_0 c5_1 c5_2 c5_3 => wp_X10_number ta td c5_0 c5_1 c5_2 c5_3 bd 0 5 (fun r6 c6_0 c6_1 c6_2 c6_3 c6_4 => wp_X10_number ta td c6_0 c6_1 c6_2 c6_3 c6_4 0 20 (fun r7 c7_0 c7_1 c7_2 c7_3 c7_4 => (c7_4 = 0 → wp_X10_gets m r6 0 r7 (fun c8_0 => Q c8_0 c7_0 c7_1 c7_2 c7_3 c7_4)) ∧ (¬ (c7_4 = 0) → Q m c7_0 c7_1 c7_2 c7_3 c7_4))))) ∧ (¬ (tk = 8) → wp_X10_reads ta td aa (fun c1_0 c1_1 c1_2 c1_3 => wp_X10_number ta td c1_0 c1_1 c1_2 c1_3 bd 0 5 (fun r2 c2_0 c2_1 c2_2 c2_3 c2_4 => wp_X10_number ta td c2_0 c2_1 c2_2 c2_3 c2_4 0 9 (fun r3 c3_0 c3_1 c3_2 c3_3 c3_4 => (c3_4 = 0 → wp_X10_gets m r2 1 r3 (fun c4_0 => Q c4_0 c3_0 c3_1 c3_2 c3_3 c3_4)) ∧ (¬ (c3_4 = 0) → Q m c3_0 c3_1 c3_2 c3_3 c3_4)))))
set_option maxRecDepth 100000 in
set_option maxHeartbeats 8000000 in
theorem c_X10_personItem {l : Launch} {D : va_G} {ca : Nat → ClassId} {sd : Nat → Nat}  (am : Nat → Nat) (m : Nat → Int32) (kp : Nat → Int32) (wa : Nat → Int32) (fo : Nat → Int32) (ta : Nat → Int32) (bo : Nat → Int32) (so : Nat → Int32) (ce : Nat → Int64) (ik : Int32) (td : Int32) (tk : Int32) (bg : Int32) (aa : Int32) (vl : Int32) (bd : Int32)    {Q : (Nat → Int32) → (Int32) → (Int32) → (Int32) → (Int32) → (Int32) → Prop} (hw : wp_X10_personItem m ta td tk aa bd   Q) : Cn l D ca sd yX10_personItem cX10_personItem 4 none { frames := 4, cells := 0, slots := 0, locals := 89 } [.ref (am 0)] (wM ca am m kp wa fo ta bo so ce ik td tk bg aa vl bd) (wM ca am m kp wa fo ta bo so ce ik td tk bg aa vl bd) 0 0 (Rv D (fun u : (Nat → Int32) × (Int32) × (Int32) × (Int32) × (Int32) × (Int32) => Q u.1 u.2.1 u.2.2.1 u.2.2.2.1 u.2.2.2.2.1 u.2.2.2.2.2) (fun u => (wM ca am u.1 kp wa fo ta bo so ce ik td u.2.1 u.2.2.1 u.2.2.2.1 u.2.2.2.2.1 u.2.2.2.2.2))) := by
  refine cn_of (by decide) (Nat.le_of_ble_eq_true rfl) (fun k C hR hB _ => ?_)
  have C : Cx D ca sd cX10_personItem RX10 none { frames := 4, cells := 0, slots := 0, locals := 89 } k 4 := C
  unfold wp_X10_personItem at hw
  show J l D k 4 0 0 0 (wM ca am m kp wa fo ta bo so ce ik td tk bg aa vl bd) [(0, .ref (am 0))] []
  refine j_aload_n C 0 dX10_personItem_0 rfl ?_
  refine j_get C fl_X10_180_10 0 dX10_personItem_1 rfl rfl ?_
  refine j_bipush C 8 dX10_personItem_4 (by decide) ?_
  refine j_icmp_ne C 13 dX10_personItem_6 (by decide) (fun z => ?_) (fun z => ?_)
  · replace hw := hw.2 z
    refine j_iconst C 1 dX10_personItem_13 (by decide) ?_
    refine j_istore_n C [(1, .int 1), (0, .ref (am 0))] dX10_personItem_14 (by decide) rfl ?_
    refine j_aload_n C 1 dX10_personItem_15 rfl ?_
    refine j_cvT C hB 0 9 (fun u1 : (Int32) × (Int32) × (Int32) × (Int32) => (wM ca am m kp wa fo ta bo so ce ik td u1.1 u1.2.1 u1.2.2.1 u1.2.2.2 bd)) rfl (fun _ => rfl) (jr_V C lkV_X10_190 (c_X10_reads am m kp wa fo ta bo so ce ik td tk bg aa vl bd hw) ⟨rfl, rfl, by decide, by decide, by decide, by decide⟩ [0, 1, 2, 3, 4, 5, 6, 7, 8] (by decide) rfl (fx_rw C hB [0, 1, 2, 3, 4, 5, 6, 7, 8] rfl) 0 10 rfl rfl rfl rfl (Nat.le_of_ble_eq_true rfl) dX10_personItem_16) (fun u1 hw => ?_)
    refine j_aload_n C 1 dX10_personItem_19 rfl ?_
    refine j_iconst C 0 dX10_personItem_20 (by decide) ?_
    refine j_iconst C 5 dX10_personItem_21 (by decide) ?_
    refine j_ciT C hB 0 9 (fun u2 : (Int32) × (Int32) × (Int32) × (Int32) × (Int32) => (wM ca am m kp wa fo ta bo so ce ik td u2.1 u2.2.1 u2.2.2.1 u2.2.2.2.1 u2.2.2.2.2)) rfl (fun _ => rfl) (jr_V C lkV_X10_196 (c_X10_number am m kp wa fo ta bo so ce ik td u1.1 u1.2.1 u1.2.2.1 u1.2.2.2 bd 0 5 hw) ⟨rfl, rfl, by decide, by decide, by decide, by decide⟩ [0, 1, 2, 3, 4, 5, 6, 7, 8] (by decide) rfl (fx_rw C hB [0, 1, 2, 3, 4, 5, 6, 7, 8] rfl) 0 10 rfl rfl rfl rfl (Nat.le_of_ble_eq_true rfl) dX10_personItem_22) (fun r2 u2 hw => ?_)
    refine j_istore_n C [(2, .int r2), (1, .int 1), (0, .ref (am 0))] dX10_personItem_25 (by decide) rfl ?_
    refine j_aload_n C 2 dX10_personItem_26 rfl ?_
    refine j_iconst C 0 dX10_personItem_27 (by decide) ?_
    refine j_iload_n C 1 dX10_personItem_28 rfl ?_
    refine j_if_ne C 37 dX10_personItem_29 (by decide) (fun _ => ?_) (fun z => absurd z (by decide))
    refine j_bipush C 9 dX10_personItem_37 (by decide) ?_
    refine j_ciT C hB 0 9 (fun u3 : (Int32) × (Int32) × (Int32) × (Int32) × (Int32) => (wM ca am m kp wa fo ta bo so ce ik td u3.1 u3.2.1 u3.2.2.1 u3.2.2.2.1 u3.2.2.2.2)) rfl (fun _ => rfl) (jr_V C lkV_X10_196 (c_X10_number am m kp wa fo ta bo so ce ik td u2.1 u2.2.1 u2.2.2.1 u2.2.2.2.1 u2.2.2.2.2 0 9 hw) ⟨rfl, rfl, by decide, by decide, by decide, by decide⟩ [0, 1, 2, 3, 4, 5, 6, 7, 8] (by decide) rfl (fx_rw C hB [0, 1, 2, 3, 4, 5, 6, 7, 8] rfl) 0 10 rfl rfl rfl rfl (Nat.le_of_ble_eq_true rfl) dX10_personItem_39) (fun r3 u3 hw => ?_)
    refine j_istore_n C [(3, .int r3), (2, .int r2), (1, .int 1), (0, .ref (am 0))] dX10_personItem_42 (by decide) rfl ?_
    refine j_aload_n C 3 dX10_personItem_43 rfl ?_
    refine j_get C fl_X10_186_10 0 dX10_personItem_44 rfl rfl ?_
    refine j_if_ne C 57 dX10_personItem_47 (by decide) (fun z => ?_) (fun z => ?_)
    · replace hw := hw.2 z
      exact j_vret C hB hR (m, u3.1, u3.2.1, u3.2.2.1, u3.2.2.2.1, u3.2.2.2.2) rfl dX10_personItem_57 hw rfl
    · replace hw := hw.1 z
      refine j_aload_n C 3 dX10_personItem_50 rfl ?_
      refine j_iload_n C 1 dX10_personItem_51 rfl ?_
      refine j_iload_n C 2 dX10_personItem_52 rfl ?_
      refine j_iload_n C 0 dX10_personItem_53 rfl ?_
      refine j_cvT C hB 0 9 (fun u4 : (Nat → Int32) => (wM ca am u4 kp wa fo ta bo so ce ik td u3.1 u3.2.1 u3.2.2.1 u3.2.2.2.1 u3.2.2.2.2)) rfl (fun _ => rfl) (jr_V C lkV_X10_97 (c_X10_gets am m kp wa fo ta bo so ce ik td u3.1 u3.2.1 u3.2.2.1 u3.2.2.2.1 u3.2.2.2.2 r2 1 r3 hw) ⟨rfl, rfl, by decide, by decide, by decide, by decide⟩ [0, 1, 2, 3, 4, 5, 6, 7, 8] (by decide) rfl (fx_rw C hB [0, 1, 2, 3, 4, 5, 6, 7, 8] rfl) 0 10 rfl rfl rfl rfl (Nat.le_of_ble_eq_true rfl) dX10_personItem_54) (fun u4 hw => ?_)
      exact j_vret C hB hR (u4, u3.1, u3.2.1, u3.2.2.1, u3.2.2.2.1, u3.2.2.2.2) rfl dX10_personItem_57 hw rfl
  · replace hw := hw.1 z
    refine j_iconst C 0 dX10_personItem_9 (by decide) ?_
    refine j_goto C 14 dX10_personItem_10 (by decide) ?_
    refine j_istore_n C [(1, .int 0), (0, .ref (am 0))] dX10_personItem_14 (by decide) rfl ?_
    refine j_aload_n C 1 dX10_personItem_15 rfl ?_
    refine j_cvT C hB 0 9 (fun u5 : (Int32) × (Int32) × (Int32) × (Int32) => (wM ca am m kp wa fo ta bo so ce ik td u5.1 u5.2.1 u5.2.2.1 u5.2.2.2 bd)) rfl (fun _ => rfl) (jr_V C lkV_X10_190 (c_X10_reads am m kp wa fo ta bo so ce ik td tk bg aa vl bd hw) ⟨rfl, rfl, by decide, by decide, by decide, by decide⟩ [0, 1, 2, 3, 4, 5, 6, 7, 8] (by decide) rfl (fx_rw C hB [0, 1, 2, 3, 4, 5, 6, 7, 8] rfl) 0 10 rfl rfl rfl rfl (Nat.le_of_ble_eq_true rfl) dX10_personItem_16) (fun u5 hw => ?_)
    refine j_aload_n C 1 dX10_personItem_19 rfl ?_
    refine j_iconst C 0 dX10_personItem_20 (by decide) ?_
    refine j_iconst C 5 dX10_personItem_21 (by decide) ?_
    refine j_ciT C hB 0 9 (fun u6 : (Int32) × (Int32) × (Int32) × (Int32) × (Int32) => (wM ca am m kp wa fo ta bo so ce ik td u6.1 u6.2.1 u6.2.2.1 u6.2.2.2.1 u6.2.2.2.2)) rfl (fun _ => rfl) (jr_V C lkV_X10_196 (c_X10_number am m kp wa fo ta bo so ce ik td u5.1 u5.2.1 u5.2.2.1 u5.2.2.2 bd 0 5 hw) ⟨rfl, rfl, by decide, by decide, by decide, by decide⟩ [0, 1, 2, 3, 4, 5, 6, 7, 8] (by decide) rfl (fx_rw C hB [0, 1, 2, 3, 4, 5, 6, 7, 8] rfl) 0 10 rfl rfl rfl rfl (Nat.le_of_ble_eq_true rfl) dX10_personItem_22) (fun r6 u6 hw => ?_)
    refine j_istore_n C [(2, .int r6), (1, .int 0), (0, .ref (am 0))] dX10_personItem_25 (by decide) rfl ?_
    refine j_aload_n C 2 dX10_personItem_26 rfl ?_
    refine j_iconst C 0 dX10_personItem_27 (by decide) ?_
    refine j_iload_n C 1 dX10_personItem_28 rfl ?_
    refine j_if_ne C 37 dX10_personItem_29 (by decide) (fun z => absurd z (by decide)) (fun _ => ?_)
    refine j_bipush C 20 dX10_personItem_32 (by decide) ?_
    refine j_goto C 39 dX10_personItem_34 (by decide) ?_
    refine j_ciT C hB 0 9 (fun u7 : (Int32) × (Int32) × (Int32) × (Int32) × (Int32) => (wM ca am m kp wa fo ta bo so ce ik td u7.1 u7.2.1 u7.2.2.1 u7.2.2.2.1 u7.2.2.2.2)) rfl (fun _ => rfl) (jr_V C lkV_X10_196 (c_X10_number am m kp wa fo ta bo so ce ik td u6.1 u6.2.1 u6.2.2.1 u6.2.2.2.1 u6.2.2.2.2 0 20 hw) ⟨rfl, rfl, by decide, by decide, by decide, by decide⟩ [0, 1, 2, 3, 4, 5, 6, 7, 8] (by decide) rfl (fx_rw C hB [0, 1, 2, 3, 4, 5, 6, 7, 8] rfl) 0 10 rfl rfl rfl rfl (Nat.le_of_ble_eq_true rfl) dX10_personItem_39) (fun r7 u7 hw => ?_)
    refine j_istore_n C [(3, .int r7), (2, .int r6), (1, .int 0), (0, .ref (am 0))] dX10_personItem_42 (by decide) rfl ?_
    refine j_aload_n C 3 dX10_personItem_43 rfl ?_
    refine j_get C fl_X10_186_10 0 dX10_personItem_44 rfl rfl ?_
    refine j_if_ne C 57 dX10_personItem_47 (by decide) (fun z => ?_) (fun z => ?_)
    · replace hw := hw.2 z
      exact j_vret C hB hR (m, u7.1, u7.2.1, u7.2.2.1, u7.2.2.2.1, u7.2.2.2.2) rfl dX10_personItem_57 hw rfl
    · replace hw := hw.1 z
      refine j_aload_n C 3 dX10_personItem_50 rfl ?_
      refine j_iload_n C 1 dX10_personItem_51 rfl ?_
      refine j_iload_n C 2 dX10_personItem_52 rfl ?_
      refine j_iload_n C 0 dX10_personItem_53 rfl ?_
      refine j_cvT C hB 0 9 (fun u8 : (Nat → Int32) => (wM ca am u8 kp wa fo ta bo so ce ik td u7.1 u7.2.1 u7.2.2.1 u7.2.2.2.1 u7.2.2.2.2)) rfl (fun _ => rfl) (jr_V C lkV_X10_97 (c_X10_gets am m kp wa fo ta bo so ce ik td u7.1 u7.2.1 u7.2.2.1 u7.2.2.2.1 u7.2.2.2.2 r6 0 r7 hw) ⟨rfl, rfl, by decide, by decide, by decide, by decide⟩ [0, 1, 2, 3, 4, 5, 6, 7, 8] (by decide) rfl (fx_rw C hB [0, 1, 2, 3, 4, 5, 6, 7, 8] rfl) 0 10 rfl rfl rfl rfl (Nat.le_of_ble_eq_true rfl) dX10_personItem_54) (fun u8 hw => ?_)
      exact j_vret C hB hR (u8, u7.1, u7.2.1, u7.2.2.1, u7.2.2.2.1, u7.2.2.2.2) rfl dX10_personItem_57 hw rfl
def wp_X10_item (m : Nat → Int32) (ta : Nat → Int32) (td : Int32) (tk : Int32) (bg : Int32) (aa : Int32) (vl : Int32) (bd : Int32)   (Q : (Nat → Int32) → (Int32) → (Int32) → (Int32) → (Int32) → (Int32) → Prop) : Prop := (5 < tk → (tk = 8 → wp_X10_personItem m ta td tk aa bd (fun c1_0 c1_1 c1_2 c1_3 c1_4 c1_5 => Q c1_0 c1_1 c1_2 c1_3 c1_4 c1_5)) ∧ (¬ (tk = 8) → (tk = 9 → wp_X10_personItem m ta td tk aa bd (fun c2_0 c2_1 c2_2 c2_3 c2_4 c2_5 => Q c2_0 c2_1 c2_2 c2_3 c2_4 c2_5)) ∧ (¬ (tk = 9) → Q m tk bg aa vl 1))) ∧ (¬ (5 < tk) → wp_X10_thingItem m ta td tk bg aa vl (fun c3_0 c3_1 c3_2 c3_3 c3_4 c3_5 => Q c3_0 c3_1 c3_2 c3_3 c3_4 c3_5))
set_option maxRecDepth 100000 in
set_option maxHeartbeats 8000000 in
theorem c_X10_item {l : Launch} {D : va_G} {ca : Nat → ClassId} {sd : Nat → Nat}  (am : Nat → Nat) (m : Nat → Int32) (kp : Nat → Int32) (wa : Nat → Int32) (fo : Nat → Int32) (ta : Nat → Int32) (bo : Nat → Int32) (so : Nat → Int32) (ce : Nat → Int64) (ik : Int32) (td : Int32) (tk : Int32) (bg : Int32) (aa : Int32) (vl : Int32) (bd : Int32)    {Q : (Nat → Int32) → (Int32) → (Int32) → (Int32) → (Int32) → (Int32) → Prop} (hw : wp_X10_item m ta td tk bg aa vl bd   Q) : Cn l D ca sd yX10_item cX10_item 1 none { frames := 6, cells := 0, slots := 0, locals := 138 } [.ref (am 0)] (wM ca am m kp wa fo ta bo so ce ik td tk bg aa vl bd) (wM ca am m kp wa fo ta bo so ce ik td tk bg aa vl bd) 0 0 (Rv D (fun u : (Nat → Int32) × (Int32) × (Int32) × (Int32) × (Int32) × (Int32) => Q u.1 u.2.1 u.2.2.1 u.2.2.2.1 u.2.2.2.2.1 u.2.2.2.2.2) (fun u => (wM ca am u.1 kp wa fo ta bo so ce ik td u.2.1 u.2.2.1 u.2.2.2.1 u.2.2.2.2.1 u.2.2.2.2.2))) := by
  refine cn_of (by decide) (Nat.le_of_ble_eq_true rfl) (fun k C hR hB _ => ?_)
  have C : Cx D ca sd cX10_item RX10 none { frames := 6, cells := 0, slots := 0, locals := 138 } k 1 := C
  unfold wp_X10_item at hw
  show J l D k 1 0 0 0 (wM ca am m kp wa fo ta bo so ce ik td tk bg aa vl bd) [(0, .ref (am 0))] []
  refine j_aload_n C 0 dX10_item_0 rfl ?_
  refine j_get C fl_X10_180_10 0 dX10_item_1 rfl rfl ?_
  refine j_iconst C 5 dX10_item_4 (by decide) ?_
  refine j_icmp_gt C 15 dX10_item_5 (by decide) (fun z => ?_) (fun z => ?_)
  · replace hw := hw.1 z
    refine j_aload_n C 0 dX10_item_15 rfl ?_
    refine j_get C fl_X10_180_10 0 dX10_item_16 rfl rfl ?_
    refine j_bipush C 8 dX10_item_19 (by decide) ?_
    refine j_icmp_eq C 33 dX10_item_21 (by decide) (fun z => ?_) (fun z => ?_)
    · replace hw := hw.1 z
      refine j_aload_n C 0 dX10_item_33 rfl ?_
      refine j_cvT C hB 0 9 (fun u1 : (Nat → Int32) × (Int32) × (Int32) × (Int32) × (Int32) × (Int32) => (wM ca am u1.1 kp wa fo ta bo so ce ik td u1.2.1 u1.2.2.1 u1.2.2.2.1 u1.2.2.2.2.1 u1.2.2.2.2.2)) rfl (fun _ => rfl) (jr_V C lkV_X10_205 (c_X10_personItem am m kp wa fo ta bo so ce ik td tk bg aa vl bd hw) ⟨rfl, rfl, by decide, by decide, by decide, by decide⟩ [0, 1, 2, 3, 4, 5, 6, 7, 8] (by decide) rfl (fx_rw C hB [0, 1, 2, 3, 4, 5, 6, 7, 8] rfl) 0 10 rfl rfl rfl rfl (Nat.le_of_ble_eq_true rfl) dX10_item_34) (fun u1 hw => ?_)
      refine j_goto C 45 dX10_item_37 (by decide) ?_
      exact j_vret C hB hR (u1.1, u1.2.1, u1.2.2.1, u1.2.2.2.1, u1.2.2.2.2.1, u1.2.2.2.2.2) rfl dX10_item_45 hw rfl
    · replace hw := hw.2 z
      refine j_aload_n C 0 dX10_item_24 rfl ?_
      refine j_get C fl_X10_180_10 0 dX10_item_25 rfl rfl ?_
      refine j_bipush C 9 dX10_item_28 (by decide) ?_
      refine j_icmp_ne C 40 dX10_item_30 (by decide) (fun z => ?_) (fun z => ?_)
      · replace hw := hw.2 z
        refine j_aload_n C 0 dX10_item_40 rfl ?_
        refine j_iconst C 1 dX10_item_41 (by decide) ?_
        refine j_put C hB fw_X10_186_10 0 (wM ca am m kp wa fo ta bo so ce ik td tk bg aa vl 1) dX10_item_42 rfl (by decide) (by decide) (Nat.le_of_ble_eq_true rfl) rfl ?_
        exact j_vret C hB hR (m, tk, bg, aa, vl, 1) rfl dX10_item_45 hw rfl
      · replace hw := hw.1 z
        refine j_aload_n C 0 dX10_item_33 rfl ?_
        refine j_cvT C hB 0 9 (fun u2 : (Nat → Int32) × (Int32) × (Int32) × (Int32) × (Int32) × (Int32) => (wM ca am u2.1 kp wa fo ta bo so ce ik td u2.2.1 u2.2.2.1 u2.2.2.2.1 u2.2.2.2.2.1 u2.2.2.2.2.2)) rfl (fun _ => rfl) (jr_V C lkV_X10_205 (c_X10_personItem am m kp wa fo ta bo so ce ik td tk bg aa vl bd hw) ⟨rfl, rfl, by decide, by decide, by decide, by decide⟩ [0, 1, 2, 3, 4, 5, 6, 7, 8] (by decide) rfl (fx_rw C hB [0, 1, 2, 3, 4, 5, 6, 7, 8] rfl) 0 10 rfl rfl rfl rfl (Nat.le_of_ble_eq_true rfl) dX10_item_34) (fun u2 hw => ?_)
        refine j_goto C 45 dX10_item_37 (by decide) ?_
        exact j_vret C hB hR (u2.1, u2.2.1, u2.2.2.1, u2.2.2.2.1, u2.2.2.2.2.1, u2.2.2.2.2.2) rfl dX10_item_45 hw rfl
  · replace hw := hw.2 z
    refine j_aload_n C 0 dX10_item_8 rfl ?_
    refine j_cvT C hB 0 9 (fun u3 : (Nat → Int32) × (Int32) × (Int32) × (Int32) × (Int32) × (Int32) => (wM ca am u3.1 kp wa fo ta bo so ce ik td u3.2.1 u3.2.2.1 u3.2.2.2.1 u3.2.2.2.2.1 u3.2.2.2.2.2)) rfl (fun _ => rfl) (jr_V C lkV_X10_202 (c_X10_thingItem am m kp wa fo ta bo so ce ik td tk bg aa vl bd hw) ⟨rfl, rfl, by decide, by decide, by decide, by decide⟩ [0, 1, 2, 3, 4, 5, 6, 7, 8] (by decide) rfl (fx_rw C hB [0, 1, 2, 3, 4, 5, 6, 7, 8] rfl) 0 10 rfl rfl rfl rfl (Nat.le_of_ble_eq_true rfl) dX10_item_9) (fun u3 hw => ?_)
    refine j_goto C 45 dX10_item_12 (by decide) ?_
    exact j_vret C hB hR (u3.1, u3.2.1, u3.2.2.1, u3.2.2.2.1, u3.2.2.2.2.1, u3.2.2.2.2.2) rfl dX10_item_45 hw rfl
def wp_X10_notThere (bo : Nat → Int32)  (a1 : Int32) (Q : (Int32) → Prop) : Prop := wp_X10_isSheet a1 (fun r1 => (r1 = 0 → Q (-1000000001)) ∧ (¬ (r1 = 0) → vp_in a1 4 ∧ (((bo (a1.toNatClampNeg)) = 0 → Q (-1000000006)) ∧ (¬ ((bo (a1.toNatClampNeg)) = 0) → Q 0))))
set_option maxRecDepth 100000 in
set_option maxHeartbeats 8000000 in
theorem c_X10_notThere {l : Launch} {D : va_G} {ca : Nat → ClassId} {sd : Nat → Nat}  (am : Nat → Nat) (m : Nat → Int32) (kp : Nat → Int32) (wa : Nat → Int32) (fo : Nat → Int32) (ta : Nat → Int32) (bo : Nat → Int32) (so : Nat → Int32) (ce : Nat → Int64) (ik : Int32) (td : Int32) (tk : Int32) (bg : Int32) (aa : Int32) (vl : Int32) (bd : Int32)  (a1 : Int32)  {Q : (Int32) → Prop} (hw : wp_X10_notThere bo  a1 Q) : Cn l D ca sd yX10_notThere cX10_notThere 2 (some .int) { frames := 2, cells := 0, slots := 0, locals := 43 } [.ref (am 0), .int a1] (wM ca am m kp wa fo ta bo so ce ik td tk bg aa vl bd) [] 0 0 (Ri D (fun (r : Int32) (u : Unit) => Q r ) (fun _ => [])) := by
  refine cn_ofR (by decide) (Nat.le_of_ble_eq_true rfl) (fun k C hR => ?_)
  have C : Cx D ca sd cX10_notThere RX10 (some .int) { frames := 2, cells := 0, slots := 0, locals := 43 } k 2 := C
  unfold wp_X10_notThere at hw
  show J l D k 2 0 0 0 (wM ca am m kp wa fo ta bo so ce ik td tk bg aa vl bd) [(0, .ref (am 0)), (1, .int a1)] []
  refine j_iload_n C 1 dX10_notThere_0 rfl ?_
  refine j_ciZ C (jr_S C lkS_X10_211 (c_X10_isSheet a1 hw) ⟨rfl, rfl, by decide, by decide, by decide, by decide⟩ [] (by decide) rfl (fx_ro C) rfl rfl (Nat.le_of_ble_eq_true rfl) dX10_notThere_1) (fun r1 u1 hw => ?_)
  refine j_if_ne C 12 dX10_notThere_4 (by decide) (fun z => ?_) (fun z => ?_)
  · replace hw := hw.2 z
    refine j_aload_n C 0 dX10_notThere_12 rfl ?_
    refine j_get C fl_X10_25_10 0 dX10_notThere_13 rfl rfl ?_
    refine j_iload_n C 1 dX10_notThere_16 rfl ?_
    have hi2 := hw.1
    replace hw := hw.2
    refine j_iald C 6 dX10_notThere_17 rfl hi2 ?_
    refine j_if_ne C 26 dX10_notThere_18 (by decide) (fun z => ?_) (fun z => ?_)
    · replace hw := hw.2 z
      refine j_iconst C 0 dX10_notThere_26 (by decide) ?_
      exact j_iretR C hR () rfl dX10_notThere_27 hw
    · replace hw := hw.1 z
      refine j_ldc C dX10_notThere_21 ct_X10_215 ?_
      refine j_goto C 27 dX10_notThere_23 (by decide) ?_
      exact j_iretR C hR () rfl dX10_notThere_27 hw
  · replace hw := hw.1 z
    refine j_ldc C dX10_notThere_7 ct_X10_35 ?_
    refine j_goto C 27 dX10_notThere_9 (by decide) ?_
    exact j_iretR C hR () rfl dX10_notThere_27 hw
def wp_X10_notCopied (bo : Nat → Int32) (so : Nat → Int32)  (a1 : Int32) (a2 : Int32) (a3 : Int32) (a4 : Int32) (a5 : Int32) (Q : (Int32) → Prop) : Prop := wp_X10_isSheet a1 (fun r1 => (r1 = 0 → Q (-1000000001)) ∧ (¬ (r1 = 0) → wp_X10_isSheet a3 (fun r2 => (r2 = 0 → Q (-1000000001)) ∧ (¬ (r2 = 0) → vp_in a1 4 ∧ (((bo (a1.toNatClampNeg)) = 0 → Q (-1000000006)) ∧ (¬ ((bo (a1.toNatClampNeg)) = 0) → vp_in a3 4 ∧ (((bo (a3.toNatClampNeg)) = 0 → Q (-1000000006)) ∧ (¬ ((bo (a3.toNatClampNeg)) = 0) → vp_in a1 4 ∧ (vp_in a3 4 ∧ (((bo (a1.toNatClampNeg)) = (bo (a3.toNatClampNeg)) → (a5 < 0 → Q (-1000000001)) ∧ (¬ (a5 < 0) → (a2 < 0 → Q (-1000000001)) ∧ (¬ (a2 < 0) → (a4 < 0 → Q (-1000000001)) ∧ (¬ (a4 < 0) → vp_in a1 4 ∧ ((((so (a1.toNatClampNeg)) - a2) < a5 → Q (-1000000001)) ∧ (¬ (((so (a1.toNatClampNeg)) - a2) < a5) → vp_in a3 4 ∧ ((((so (a3.toNatClampNeg)) - a4) < a5 → Q (-1000000001)) ∧ (¬ (((so (a3.toNatClampNeg)) - a4) < a5) → Q 0)))))))) ∧ (¬ ((bo (a1.toNatClampNeg)) = (bo (a3.toNatClampNeg))) → Q (-1000000003))))))))))))
set_option maxRecDepth 100000 in
set_option maxHeartbeats 8000000 in
theorem c_X10_notCopied {l : Launch} {D : va_G} {ca : Nat → ClassId} {sd : Nat → Nat}  (am : Nat → Nat) (m : Nat → Int32) (kp : Nat → Int32) (wa : Nat → Int32) (fo : Nat → Int32) (ta : Nat → Int32) (bo : Nat → Int32) (so : Nat → Int32) (ce : Nat → Int64) (ik : Int32) (td : Int32) (tk : Int32) (bg : Int32) (aa : Int32) (vl : Int32) (bd : Int32)  (a1 : Int32) (a2 : Int32) (a3 : Int32) (a4 : Int32) (a5 : Int32)  {Q : (Int32) → Prop} (hw : wp_X10_notCopied bo so  a1 a2 a3 a4 a5 Q) : Cn l D ca sd yX10_notCopied cX10_notCopied 7 (some .int) { frames := 2, cells := 0, slots := 0, locals := 43 } [.ref (am 0), .int a1, .int a2, .int a3, .int a4, .int a5] (wM ca am m kp wa fo ta bo so ce ik td tk bg aa vl bd) [] 0 0 (Ri D (fun (r : Int32) (u : Unit) => Q r ) (fun _ => [])) := by
  refine cn_ofR (by decide) (Nat.le_of_ble_eq_true rfl) (fun k C hR => ?_)
  have C : Cx D ca sd cX10_notCopied RX10 (some .int) { frames := 2, cells := 0, slots := 0, locals := 43 } k 7 := C
  unfold wp_X10_notCopied at hw
  show J l D k 7 0 0 0 (wM ca am m kp wa fo ta bo so ce ik td tk bg aa vl bd) [(0, .ref (am 0)), (1, .int a1), (2, .int a2), (3, .int a3), (4, .int a4), (5, .int a5)] []
  refine j_iload_n C 1 dX10_notCopied_0 rfl ?_
  refine j_ciZ C (jr_S C lkS_X10_211 (c_X10_isSheet a1 hw) ⟨rfl, rfl, by decide, by decide, by decide, by decide⟩ [] (by decide) rfl (fx_ro C) rfl rfl (Nat.le_of_ble_eq_true rfl) dX10_notCopied_1) (fun r1 u1 hw => ?_)
  refine j_if_eq C 14 dX10_notCopied_4 (by decide) (fun z => ?_) (fun z => ?_)
  · replace hw := hw.1 z
    refine j_ldc C dX10_notCopied_14 ct_X10_35 ?_
    exact j_iretR C hR () rfl dX10_notCopied_16 hw
  · replace hw := hw.2 z
    refine j_iload_n C 3 dX10_notCopied_7 rfl ?_
    refine j_ciZ C (jr_S C lkS_X10_211 (c_X10_isSheet a3 hw) ⟨rfl, rfl, by decide, by decide, by decide, by decide⟩ [] (by decide) rfl (fx_ro C) rfl rfl (Nat.le_of_ble_eq_true rfl) dX10_notCopied_8) (fun r2 u2 hw => ?_)
    refine j_if_ne C 17 dX10_notCopied_11 (by decide) (fun z => ?_) (fun z => ?_)
    · replace hw := hw.2 z
      refine j_aload_n C 0 dX10_notCopied_17 rfl ?_
      refine j_get C fl_X10_25_10 0 dX10_notCopied_18 rfl rfl ?_
      refine j_iload_n C 1 dX10_notCopied_21 rfl ?_
      have hi3 := hw.1
      replace hw := hw.2
      refine j_iald C 6 dX10_notCopied_22 rfl hi3 ?_
      refine j_if_eq C 35 dX10_notCopied_23 (by decide) (fun z => ?_) (fun z => ?_)
      · replace hw := hw.1 z
        refine j_ldc C dX10_notCopied_35 ct_X10_215 ?_
        exact j_iretR C hR () rfl dX10_notCopied_37 hw
      · replace hw := hw.2 z
        refine j_aload_n C 0 dX10_notCopied_26 rfl ?_
        refine j_get C fl_X10_25_10 0 dX10_notCopied_27 rfl rfl ?_
        refine j_iload_n C 3 dX10_notCopied_30 rfl ?_
        have hi4 := hw.1
        replace hw := hw.2
        refine j_iald C 6 dX10_notCopied_31 rfl hi4 ?_
        refine j_if_ne C 38 dX10_notCopied_32 (by decide) (fun z => ?_) (fun z => ?_)
        · replace hw := hw.2 z
          refine j_aload_n C 0 dX10_notCopied_38 rfl ?_
          refine j_get C fl_X10_25_10 0 dX10_notCopied_39 rfl rfl ?_
          refine j_iload_n C 1 dX10_notCopied_42 rfl ?_
          have hi5 := hw.1
          replace hw := hw.2
          refine j_iald C 6 dX10_notCopied_43 rfl hi5 ?_
          refine j_aload_n C 0 dX10_notCopied_44 rfl ?_
          refine j_get C fl_X10_25_10 0 dX10_notCopied_45 rfl rfl ?_
          refine j_iload_n C 3 dX10_notCopied_48 rfl ?_
          have hi6 := hw.1
          replace hw := hw.2
          refine j_iald C 6 dX10_notCopied_49 rfl hi6 ?_
          refine j_icmp_eq C 56 dX10_notCopied_50 (by decide) (fun z => ?_) (fun z => ?_)
          · replace hw := hw.1 z
            refine j_iload C 5 dX10_notCopied_56 rfl ?_
            refine j_if_lt C 101 dX10_notCopied_58 (by decide) (fun z => ?_) (fun z => ?_)
            · replace hw := hw.1 z
              refine j_iconst C 0 dX10_notCopied_101 (by decide) ?_
              refine j_istore C [(6, .int 0), (0, .ref (am 0)), (1, .int a1), (2, .int a2), (3, .int a3), (4, .int a4), (5, .int a5)] dX10_notCopied_102 (by decide) rfl ?_
              refine j_iload C 0 dX10_notCopied_104 rfl ?_
              refine j_if_eq C 113 dX10_notCopied_106 (by decide) (fun _ => ?_) (fun z => absurd z (by decide))
              refine j_ldc C dX10_notCopied_113 ct_X10_35 ?_
              exact j_iretR C hR () rfl dX10_notCopied_115 hw
            · replace hw := hw.2 z
              refine j_iload_n C 2 dX10_notCopied_61 rfl ?_
              refine j_if_lt C 101 dX10_notCopied_62 (by decide) (fun z => ?_) (fun z => ?_)
              · replace hw := hw.1 z
                refine j_iconst C 0 dX10_notCopied_101 (by decide) ?_
                refine j_istore C [(6, .int 0), (0, .ref (am 0)), (1, .int a1), (2, .int a2), (3, .int a3), (4, .int a4), (5, .int a5)] dX10_notCopied_102 (by decide) rfl ?_
                refine j_iload C 0 dX10_notCopied_104 rfl ?_
                refine j_if_eq C 113 dX10_notCopied_106 (by decide) (fun _ => ?_) (fun z => absurd z (by decide))
                refine j_ldc C dX10_notCopied_113 ct_X10_35 ?_
                exact j_iretR C hR () rfl dX10_notCopied_115 hw
              · replace hw := hw.2 z
                refine j_iload C 4 dX10_notCopied_65 rfl ?_
                refine j_if_lt C 101 dX10_notCopied_67 (by decide) (fun z => ?_) (fun z => ?_)
                · replace hw := hw.1 z
                  refine j_iconst C 0 dX10_notCopied_101 (by decide) ?_
                  refine j_istore C [(6, .int 0), (0, .ref (am 0)), (1, .int a1), (2, .int a2), (3, .int a3), (4, .int a4), (5, .int a5)] dX10_notCopied_102 (by decide) rfl ?_
                  refine j_iload C 0 dX10_notCopied_104 rfl ?_
                  refine j_if_eq C 113 dX10_notCopied_106 (by decide) (fun _ => ?_) (fun z => absurd z (by decide))
                  refine j_ldc C dX10_notCopied_113 ct_X10_35 ?_
                  exact j_iretR C hR () rfl dX10_notCopied_115 hw
                · replace hw := hw.2 z
                  refine j_iload C 5 dX10_notCopied_70 rfl ?_
                  refine j_aload_n C 0 dX10_notCopied_72 rfl ?_
                  refine j_get C fl_X10_28_10 0 dX10_notCopied_73 rfl rfl ?_
                  refine j_iload_n C 1 dX10_notCopied_76 rfl ?_
                  have hi7 := hw.1
                  replace hw := hw.2
                  refine j_iald C 7 dX10_notCopied_77 rfl hi7 ?_
                  refine j_iload_n C 2 dX10_notCopied_78 rfl ?_
                  refine j_isub C dX10_notCopied_79 ?_
                  refine j_icmp_gt C 101 dX10_notCopied_80 (by decide) (fun z => ?_) (fun z => ?_)
                  · replace hw := hw.1 z
                    refine j_iconst C 0 dX10_notCopied_101 (by decide) ?_
                    refine j_istore C [(6, .int 0), (0, .ref (am 0)), (1, .int a1), (2, .int a2), (3, .int a3), (4, .int a4), (5, .int a5)] dX10_notCopied_102 (by decide) rfl ?_
                    refine j_iload C 0 dX10_notCopied_104 rfl ?_
                    refine j_if_eq C 113 dX10_notCopied_106 (by decide) (fun _ => ?_) (fun z => absurd z (by decide))
                    refine j_ldc C dX10_notCopied_113 ct_X10_35 ?_
                    exact j_iretR C hR () rfl dX10_notCopied_115 hw
                  · replace hw := hw.2 z
                    refine j_iload C 5 dX10_notCopied_83 rfl ?_
                    refine j_aload_n C 0 dX10_notCopied_85 rfl ?_
                    refine j_get C fl_X10_28_10 0 dX10_notCopied_86 rfl rfl ?_
                    refine j_iload_n C 3 dX10_notCopied_89 rfl ?_
                    have hi8 := hw.1
                    replace hw := hw.2
                    refine j_iald C 7 dX10_notCopied_90 rfl hi8 ?_
                    refine j_iload C 4 dX10_notCopied_91 rfl ?_
                    refine j_isub C dX10_notCopied_93 ?_
                    refine j_icmp_gt C 101 dX10_notCopied_94 (by decide) (fun z => ?_) (fun z => ?_)
                    · replace hw := hw.1 z
                      refine j_iconst C 0 dX10_notCopied_101 (by decide) ?_
                      refine j_istore C [(6, .int 0), (0, .ref (am 0)), (1, .int a1), (2, .int a2), (3, .int a3), (4, .int a4), (5, .int a5)] dX10_notCopied_102 (by decide) rfl ?_
                      refine j_iload C 0 dX10_notCopied_104 rfl ?_
                      refine j_if_eq C 113 dX10_notCopied_106 (by decide) (fun _ => ?_) (fun z => absurd z (by decide))
                      refine j_ldc C dX10_notCopied_113 ct_X10_35 ?_
                      exact j_iretR C hR () rfl dX10_notCopied_115 hw
                    · replace hw := hw.2 z
                      refine j_iconst C 1 dX10_notCopied_97 (by decide) ?_
                      refine j_goto C 102 dX10_notCopied_98 (by decide) ?_
                      refine j_istore C [(6, .int 1), (0, .ref (am 0)), (1, .int a1), (2, .int a2), (3, .int a3), (4, .int a4), (5, .int a5)] dX10_notCopied_102 (by decide) rfl ?_
                      refine j_iload C 0 dX10_notCopied_104 rfl ?_
                      refine j_if_eq C 113 dX10_notCopied_106 (by decide) (fun z => absurd z (by decide)) (fun _ => ?_)
                      refine j_iconst C 0 dX10_notCopied_109 (by decide) ?_
                      refine j_goto C 115 dX10_notCopied_110 (by decide) ?_
                      exact j_iretR C hR () rfl dX10_notCopied_115 hw
          · replace hw := hw.2 z
            refine j_ldc C dX10_notCopied_53 ct_X10_96 ?_
            exact j_iretR C hR () rfl dX10_notCopied_55 hw
        · replace hw := hw.1 z
          refine j_ldc C dX10_notCopied_35 ct_X10_215 ?_
          exact j_iretR C hR () rfl dX10_notCopied_37 hw
    · replace hw := hw.1 z
      refine j_ldc C dX10_notCopied_14 ct_X10_35 ?_
      exact j_iretR C hR () rfl dX10_notCopied_16 hw
def wp_X10_notAsked (m : Nat → Int32) (bo : Nat → Int32)  (a1 : Int32) (a2 : Int32) (Q : (Int32) → Prop) : Prop := wp_X10_notThere bo a1 (fun r1 => (r1 = 0 → wp_X10_isThing m a2 (fun r2 => (r2 = 0 → Q (-1000000001)) ∧ (¬ (r2 = 0) → Q r1))) ∧ (¬ (r1 = 0) → Q r1))
set_option maxRecDepth 100000 in
set_option maxHeartbeats 8000000 in
theorem c_X10_notAsked {l : Launch} {D : va_G} {ca : Nat → ClassId} {sd : Nat → Nat}  (am : Nat → Nat) (m : Nat → Int32) (kp : Nat → Int32) (wa : Nat → Int32) (fo : Nat → Int32) (ta : Nat → Int32) (bo : Nat → Int32) (so : Nat → Int32) (ce : Nat → Int64) (ik : Int32) (td : Int32) (tk : Int32) (bg : Int32) (aa : Int32) (vl : Int32) (bd : Int32)  (a1 : Int32) (a2 : Int32)  {Q : (Int32) → Prop} (hw : wp_X10_notAsked m bo  a1 a2 Q) : Cn l D ca sd yX10_notAsked cX10_notAsked 4 (some .int) { frames := 3, cells := 0, slots := 0, locals := 64 } [.ref (am 0), .int a1, .int a2] (wM ca am m kp wa fo ta bo so ce ik td tk bg aa vl bd) [] 0 0 (Ri D (fun (r : Int32) (u : Unit) => Q r ) (fun _ => [])) := by
  refine cn_ofR (by decide) (Nat.le_of_ble_eq_true rfl) (fun k C hR => ?_)
  have C : Cx D ca sd cX10_notAsked RX10 (some .int) { frames := 3, cells := 0, slots := 0, locals := 64 } k 4 := C
  unfold wp_X10_notAsked at hw
  show J l D k 4 0 0 0 (wM ca am m kp wa fo ta bo so ce ik td tk bg aa vl bd) [(0, .ref (am 0)), (1, .int a1), (2, .int a2)] []
  refine j_aload_n C 0 dX10_notAsked_0 rfl ?_
  refine j_iload_n C 1 dX10_notAsked_1 rfl ?_
  refine j_ciZ C (jr_V C lkV_X10_216 (c_X10_notThere am m kp wa fo ta bo so ce ik td tk bg aa vl bd a1 hw) ⟨rfl, rfl, by decide, by decide, by decide, by decide⟩ [0, 1, 2, 3, 4, 5, 6, 7, 8] (by decide) rfl (fx_ro C) 0 10 rfl rfl rfl rfl (Nat.le_of_ble_eq_true rfl) dX10_notAsked_2) (fun r1 u1 hw => ?_)
  refine j_istore_n C [(3, .int r1), (0, .ref (am 0)), (1, .int a1), (2, .int a2)] dX10_notAsked_5 (by decide) rfl ?_
  refine j_iload_n C 0 dX10_notAsked_6 rfl ?_
  refine j_if_ne C 23 dX10_notAsked_7 (by decide) (fun z => ?_) (fun z => ?_)
  · replace hw := hw.2 z
    refine j_iload_n C 0 dX10_notAsked_23 rfl ?_
    exact j_iretR C hR () rfl dX10_notAsked_24 hw
  · replace hw := hw.1 z
    refine j_aload_n C 1 dX10_notAsked_10 rfl ?_
    refine j_iload_n C 3 dX10_notAsked_11 rfl ?_
    refine j_ciZ C (jr_V C lkV_X10_81 (c_X10_isThing am m kp wa fo ta bo so ce ik td tk bg aa vl bd a2 hw) ⟨rfl, rfl, by decide, by decide, by decide, by decide⟩ [0, 1, 2, 3, 4, 5, 6, 7, 8] (by decide) rfl (fx_ro C) 0 10 rfl rfl rfl rfl (Nat.le_of_ble_eq_true rfl) dX10_notAsked_12) (fun r2 u2 hw => ?_)
    refine j_if_ne C 23 dX10_notAsked_15 (by decide) (fun z => ?_) (fun z => ?_)
    · replace hw := hw.2 z
      refine j_iload_n C 0 dX10_notAsked_23 rfl ?_
      exact j_iretR C hR () rfl dX10_notAsked_24 hw
    · replace hw := hw.1 z
      refine j_ldc C dX10_notAsked_18 ct_X10_35 ?_
      refine j_goto C 24 dX10_notAsked_20 (by decide) ?_
      exact j_iretR C hR () rfl dX10_notAsked_24 hw
def wpl_X10_isBook_5 (so : Nat → Int32) (ce : Nat → Int64) (x1 : Int32) (x2 : Int32) (K : (Int32) → (Int32) → (Nat → Int32) → Prop) : Nat → (Int32) → (Int32) → (Nat → Int32) → Prop
  | 0, _, _, _ => False
  | n + 1, x3, x4, m => vp_in x1 4 ∧ (((so (x1.toNatClampNeg)) ≤ x4 → K x3 x4 m) ∧ (¬ ((so (x1.toNatClampNeg)) ≤ x4) → (x3 = 0 → K x3 x4 m) ∧ (¬ (x3 = 0) → vp_in ((40 * x1) + x4) 160 ∧ (wp_X10_it m x2 1 (fun r3 => ((lg_cmp (ce (((40 * x1) + x4).toNatClampNeg)) ((r3).toInt64)) = 0 → wp_X10_goes m (fun c5_0 => wpl_X10_isBook_5 so ce x1 x2  K n 1 (x4 + 1) c5_0)) ∧ (¬ ((lg_cmp (ce (((40 * x1) + x4).toNatClampNeg)) ((r3).toInt64)) = 0) → wp_X10_goes m (fun c4_0 => wpl_X10_isBook_5 so ce x1 x2  K n 0 (x4 + 1) c4_0)))))))
def wp_X10_isBook (m : Nat → Int32) (wa : Nat → Int32) (so : Nat → Int32) (ce : Nat → Int64)  (a1 : Int32) (a2 : Int32) (Q : (Int32) → (Nat → Int32) → Prop) : Prop := ∃ n6 : Nat, wpl_X10_isBook_5 so ce a1 a2  (fun y6_3 y6_4 y6_m => wp_X10_putsBack y6_m wa (fun c7_0 => (narrow .boolean (.int y6_3) = .int y6_3) ∧ Q y6_3 c7_0)) n6 1 0 m
set_option maxRecDepth 100000 in
set_option maxHeartbeats 8000000 in
theorem ml_X10_isBook_5 {l : Launch} {D : va_G} {ca : Nat → ClassId} {sd : Nat → Nat}  {k : Kx} (am : Nat → Nat)  (kp : Nat → Int32) (wa : Nat → Int32) (fo : Nat → Int32) (ta : Nat → Int32) (bo : Nat → Int32) (so : Nat → Int32) (ce : Nat → Int64) (ik : Int32) (td : Int32) (tk : Int32) (bg : Int32) (aa : Int32) (vl : Int32) (bd : Int32) (x1 : Int32) (x2 : Int32) (C : Cx D ca sd cX10_isBook RX10 (some .boolean) { frames := 5, cells := 0, slots := 0, locals := 113 } k 5) {Q : (Int32) → (Nat → Int32) → Prop} (hR : Rx (Ri D (fun (r : Int32) (u : (Nat → Int32)) => Q r u) (fun u => (wM ca am u kp wa fo ta bo so ce ik td tk bg aa vl bd))) 0 0 k) (hB : Wx k) {K : (Int32) → (Int32) → (Nat → Int32) → Prop} (hK : ∀ (x3' : Int32) (x4' : Int32) (m' : Nat → Int32), K x3' x4' m' → J l D k 5 0 0 59 (wM ca am m' kp wa fo ta bo so ce ik td tk bg aa vl bd) [(0, .ref (am 0)), (1, .int x1), (2, .int x2), (3, .int x3'), (4, .int x4')] []) : ∀ (n : Nat) (x3 : Int32) (x4 : Int32) (m : Nat → Int32), wpl_X10_isBook_5 so ce x1 x2  K n x3 x4 m → J l D k 5 0 0 5 (wM ca am m kp wa fo ta bo so ce ik td tk bg aa vl bd) [(0, .ref (am 0)), (1, .int x1), (2, .int x2), (3, .int x3), (4, .int x4)] [] := by
  intro n
  induction n with
  | zero =>
    intro x3 x4 m hw
    rw [wpl_X10_isBook_5] at hw
    exact hw.elim
  | succ n ih =>
    intro x3 x4 m hw
    rw [wpl_X10_isBook_5] at hw
    refine j_iload C 4 dX10_isBook_5 rfl ?_
    refine j_aload_n C 0 dX10_isBook_7 rfl ?_
    refine j_get C fl_X10_28_10 0 dX10_isBook_8 rfl rfl ?_
    refine j_iload_n C 1 dX10_isBook_11 rfl ?_
    have hi1 := hw.1
    replace hw := hw.2
    refine j_iald C 7 dX10_isBook_12 rfl hi1 ?_
    refine j_icmp_ge C 59 dX10_isBook_13 (by decide) (fun z => ?_) (fun z => ?_)
    · replace hw := hw.1 z
      exact hK x3 x4 m hw
    · replace hw := hw.2 z
      refine j_iload_n C 3 dX10_isBook_16 rfl ?_
      refine j_if_eq C 59 dX10_isBook_17 (by decide) (fun z => ?_) (fun z => ?_)
      · replace hw := hw.1 z
        exact hK x3 x4 m hw
      · replace hw := hw.2 z
        refine j_aload_n C 0 dX10_isBook_20 rfl ?_
        refine j_get C fl_X10_31_10 0 dX10_isBook_21 rfl rfl ?_
        refine j_bipush C 40 dX10_isBook_24 (by decide) ?_
        refine j_iload_n C 1 dX10_isBook_26 rfl ?_
        refine j_imul C dX10_isBook_27 ?_
        refine j_iload C 4 dX10_isBook_28 rfl ?_
        refine j_iadd C dX10_isBook_30 ?_
        have hi2 := hw.1
        replace hw := hw.2
        refine j_lald C 8 dX10_isBook_31 rfl hi2 ?_
        refine j_aload_n C 0 dX10_isBook_32 rfl ?_
        refine j_iload_n C 2 dX10_isBook_33 rfl ?_
        refine j_iconst C 1 dX10_isBook_34 (by decide) ?_
        refine j_ciZ C (jr_V C lkV_X10_45 (c_X10_it am m kp wa fo ta bo so ce ik td tk bg aa vl bd x2 1 hw) ⟨rfl, rfl, by decide, by decide, by decide, by decide⟩ [0, 1, 2, 3, 4, 5, 6, 7, 8] (by decide) rfl (fx_ro C) 0 10 rfl rfl rfl rfl (Nat.le_of_ble_eq_true rfl) dX10_isBook_35) (fun r3 u3 hw => ?_)
        refine j_i2l C dX10_isBook_38 ?_
        refine j_lcmp C dX10_isBook_39 ?_
        refine j_if_ne C 47 dX10_isBook_40 (by decide) (fun z => ?_) (fun z => ?_)
        · replace hw := hw.2 z
          refine j_iconst C 0 dX10_isBook_47 (by decide) ?_
          refine j_istore_n C [(3, .int 0), (0, .ref (am 0)), (1, .int x1), (2, .int x2), (4, .int x4)] dX10_isBook_48 (by decide) rfl ?_
          refine j_aload_n C 1 dX10_isBook_49 rfl ?_
          refine j_cvT C hB 0 9 (fun u4 : (Nat → Int32) => (wM ca am u4 kp wa fo ta bo so ce ik td tk bg aa vl bd)) rfl (fun _ => rfl) (jr_V C lkV_X10_121 (c_X10_goes am m kp wa fo ta bo so ce ik td tk bg aa vl bd hw) ⟨rfl, rfl, by decide, by decide, by decide, by decide⟩ [0, 1, 2, 3, 4, 5, 6, 7, 8] (by decide) rfl (fx_rw C hB [0, 1, 2, 3, 4, 5, 6, 7, 8] rfl) 0 10 rfl rfl rfl rfl (Nat.le_of_ble_eq_true rfl) dX10_isBook_50) (fun u4 hw => ?_)
          refine j_iinc C 4 (x4 + 1) [(4, .int (x4 + 1)), (3, .int 0), (0, .ref (am 0)), (1, .int x1), (2, .int x2)] dX10_isBook_53 rfl rfl (by decide) rfl ?_
          refine j_goto C 5 dX10_isBook_56 (by decide) ?_
          refine j_lsub [2, 3, 4, 1, 0] [(0, .ref (am 0)), (1, .int x1), (2, .int x2), (3, .int 0), (4, .int (x4 + 1))] rfl ?_
          exact ih 0 (x4 + 1) u4 hw
        · replace hw := hw.1 z
          refine j_iconst C 1 dX10_isBook_43 (by decide) ?_
          refine j_goto C 48 dX10_isBook_44 (by decide) ?_
          refine j_istore_n C [(3, .int 1), (0, .ref (am 0)), (1, .int x1), (2, .int x2), (4, .int x4)] dX10_isBook_48 (by decide) rfl ?_
          refine j_aload_n C 1 dX10_isBook_49 rfl ?_
          refine j_cvT C hB 0 9 (fun u5 : (Nat → Int32) => (wM ca am u5 kp wa fo ta bo so ce ik td tk bg aa vl bd)) rfl (fun _ => rfl) (jr_V C lkV_X10_121 (c_X10_goes am m kp wa fo ta bo so ce ik td tk bg aa vl bd hw) ⟨rfl, rfl, by decide, by decide, by decide, by decide⟩ [0, 1, 2, 3, 4, 5, 6, 7, 8] (by decide) rfl (fx_rw C hB [0, 1, 2, 3, 4, 5, 6, 7, 8] rfl) 0 10 rfl rfl rfl rfl (Nat.le_of_ble_eq_true rfl) dX10_isBook_50) (fun u5 hw => ?_)
          refine j_iinc C 4 (x4 + 1) [(4, .int (x4 + 1)), (3, .int 1), (0, .ref (am 0)), (1, .int x1), (2, .int x2)] dX10_isBook_53 rfl rfl (by decide) rfl ?_
          refine j_goto C 5 dX10_isBook_56 (by decide) ?_
          refine j_lsub [2, 3, 4, 1, 0] [(0, .ref (am 0)), (1, .int x1), (2, .int x2), (3, .int 1), (4, .int (x4 + 1))] rfl ?_
          exact ih 1 (x4 + 1) u5 hw
set_option maxRecDepth 100000 in
set_option maxHeartbeats 8000000 in
theorem c_X10_isBook {l : Launch} {D : va_G} {ca : Nat → ClassId} {sd : Nat → Nat}  (am : Nat → Nat) (m : Nat → Int32) (kp : Nat → Int32) (wa : Nat → Int32) (fo : Nat → Int32) (ta : Nat → Int32) (bo : Nat → Int32) (so : Nat → Int32) (ce : Nat → Int64) (ik : Int32) (td : Int32) (tk : Int32) (bg : Int32) (aa : Int32) (vl : Int32) (bd : Int32)  (a1 : Int32) (a2 : Int32)  {Q : (Int32) → (Nat → Int32) → Prop} (hw : wp_X10_isBook m wa so ce  a1 a2 Q) : Cn l D ca sd yX10_isBook cX10_isBook 5 (some .boolean) { frames := 5, cells := 0, slots := 0, locals := 113 } [.ref (am 0), .int a1, .int a2] (wM ca am m kp wa fo ta bo so ce ik td tk bg aa vl bd) (wM ca am m kp wa fo ta bo so ce ik td tk bg aa vl bd) 0 0 (Ri D (fun (r : Int32) (u : (Nat → Int32)) => Q r u) (fun u => (wM ca am u kp wa fo ta bo so ce ik td tk bg aa vl bd))) := by
  refine cn_of (by decide) (Nat.le_of_ble_eq_true rfl) (fun k C hR hB _ => ?_)
  have C : Cx D ca sd cX10_isBook RX10 (some .boolean) { frames := 5, cells := 0, slots := 0, locals := 113 } k 5 := C
  unfold wp_X10_isBook at hw
  show J l D k 5 0 0 0 (wM ca am m kp wa fo ta bo so ce ik td tk bg aa vl bd) [(0, .ref (am 0)), (1, .int a1), (2, .int a2)] []
  refine j_iconst C 1 dX10_isBook_0 (by decide) ?_
  refine j_istore_n C [(3, .int 1), (0, .ref (am 0)), (1, .int a1), (2, .int a2)] dX10_isBook_1 (by decide) rfl ?_
  refine j_iconst C 0 dX10_isBook_2 (by decide) ?_
  refine j_istore C [(4, .int 0), (3, .int 1), (0, .ref (am 0)), (1, .int a1), (2, .int a2)] dX10_isBook_3 (by decide) rfl ?_
  refine j_lsub [2, 3, 4, 1, 0] [(0, .ref (am 0)), (1, .int a1), (2, .int a2), (3, .int 1), (4, .int 0)] rfl ?_
  obtain ⟨n6, hw⟩ := hw
  refine ml_X10_isBook_5 am  kp wa fo ta bo so ce ik td tk bg aa vl bd a1 a2 C hR hB (fun y6_3 y6_4 y6_m hw => ?_) n6 1 0 m hw
  refine j_aload_n C 0 dX10_isBook_59 rfl ?_
  refine j_cvT C hB 0 9 (fun u7 : (Nat → Int32) => (wM ca am u7 kp wa fo ta bo so ce ik td tk bg aa vl bd)) rfl (fun _ => rfl) (jr_V C lkV_X10_144 (c_X10_putsBack am y6_m kp wa fo ta bo so ce ik td tk bg aa vl bd hw) ⟨rfl, rfl, by decide, by decide, by decide, by decide⟩ [0, 1, 2, 3, 4, 5, 6, 7, 8] (by decide) rfl (fx_rw C hB [0, 1, 2, 3, 4, 5, 6, 7, 8] rfl) 0 10 rfl rfl rfl rfl (Nat.le_of_ble_eq_true rfl) dX10_isBook_60) (fun u7 hw => ?_)
  refine j_iload_n C 3 dX10_isBook_63 rfl ?_
  exact j_zret C hB hR hw.1 u7 rfl dX10_isBook_64 hw.2 rfl
def wpl_X10_howMany_4 (m : Nat → Int32) (K : (Int32) → (Int32) → Prop) : Nat → (Int32) → (Int32) → Prop
  | 0, _, _ => False
  | n + 1, x1, x2 => vp_in 1 52 ∧ (((m ((1 : Int32).toNatClampNeg)) ≤ x2 → K x1 x2) ∧ (¬ ((m ((1 : Int32).toNatClampNeg)) ≤ x2) → wp_X10_isDone m x2 (fun r2 => (r2 = 0 → wpl_X10_howMany_4 m  K n (x1 + 0) (x2 + 1)) ∧ (¬ (r2 = 0) → wpl_X10_howMany_4 m  K n (x1 + 1) (x2 + 1)))))
def wp_X10_howMany (m : Nat → Int32)   (Q : (Int32) → Prop) : Prop := ∃ n3 : Nat, wpl_X10_howMany_4 m  (fun y3_1 y3_2 => Q y3_1) n3 0 0
set_option maxRecDepth 100000 in
set_option maxHeartbeats 8000000 in
theorem ml_X10_howMany_4 {l : Launch} {D : va_G} {ca : Nat → ClassId} {sd : Nat → Nat}  {k : Kx} (am : Nat → Nat)  (m : Nat → Int32) (kp : Nat → Int32) (wa : Nat → Int32) (fo : Nat → Int32) (ta : Nat → Int32) (bo : Nat → Int32) (so : Nat → Int32) (ce : Nat → Int64) (ik : Int32) (td : Int32) (tk : Int32) (bg : Int32) (aa : Int32) (vl : Int32) (bd : Int32) (C : Cx D ca sd cX10_howMany RX10 (some .int) { frames := 2, cells := 0, slots := 0, locals := 43 } k 3) {Q : (Int32) → Prop} (hR : Rx (Ri D (fun (r : Int32) (u : Unit) => Q r ) (fun _ => [])) 0 0 k) {K : (Int32) → (Int32) → Prop} (hK : ∀ (x1' : Int32) (x2' : Int32), K x1' x2' → J l D k 3 0 0 36 (wM ca am m kp wa fo ta bo so ce ik td tk bg aa vl bd) [(0, .ref (am 0)), (1, .int x1'), (2, .int x2')] []) : ∀ (n : Nat) (x1 : Int32) (x2 : Int32), wpl_X10_howMany_4 m  K n x1 x2 → J l D k 3 0 0 4 (wM ca am m kp wa fo ta bo so ce ik td tk bg aa vl bd) [(0, .ref (am 0)), (1, .int x1), (2, .int x2)] [] := by
  intro n
  induction n with
  | zero =>
    intro x1 x2 hw
    rw [wpl_X10_howMany_4] at hw
    exact hw.elim
  | succ n ih =>
    intro x1 x2 hw
    rw [wpl_X10_howMany_4] at hw
    refine j_iload_n C 2 dX10_howMany_4 rfl ?_
    refine j_aload_n C 0 dX10_howMany_5 rfl ?_
    refine j_get C fl_X10_9_10 0 dX10_howMany_6 rfl rfl ?_
    refine j_iconst C 1 dX10_howMany_9 (by decide) ?_
    have hi1 := hw.1
    replace hw := hw.2
    refine j_iald C 1 dX10_howMany_10 rfl hi1 ?_
    refine j_icmp_ge C 36 dX10_howMany_11 (by decide) (fun z => ?_) (fun z => ?_)
    · replace hw := hw.1 z
      exact hK x1 x2 hw
    · replace hw := hw.2 z
      refine j_iload_n C 1 dX10_howMany_14 rfl ?_
      refine j_aload_n C 0 dX10_howMany_15 rfl ?_
      refine j_iload_n C 2 dX10_howMany_16 rfl ?_
      refine j_ciZ C (jr_V C lkV_X10_60 (c_X10_isDone am m kp wa fo ta bo so ce ik td tk bg aa vl bd x2 hw) ⟨rfl, rfl, by decide, by decide, by decide, by decide⟩ [0, 1, 2, 3, 4, 5, 6, 7, 8] (by decide) rfl (fx_ro C) 0 10 rfl rfl rfl rfl (Nat.le_of_ble_eq_true rfl) dX10_howMany_17) (fun r2 u2 hw => ?_)
      refine j_if_eq C 27 dX10_howMany_20 (by decide) (fun z => ?_) (fun z => ?_)
      · replace hw := hw.1 z
        refine j_iconst C 0 dX10_howMany_27 (by decide) ?_
        refine j_iadd C dX10_howMany_28 ?_
        refine j_istore_n C [(1, .int (x1 + 0)), (0, .ref (am 0)), (2, .int x2)] dX10_howMany_29 (by decide) rfl ?_
        refine j_iinc C 2 (x2 + 1) [(2, .int (x2 + 1)), (1, .int (x1 + 0)), (0, .ref (am 0))] dX10_howMany_30 rfl rfl (by decide) rfl ?_
        refine j_goto C 4 dX10_howMany_33 (by decide) ?_
        refine j_lsub [2, 1, 0] [(0, .ref (am 0)), (1, .int (x1 + 0)), (2, .int (x2 + 1))] rfl ?_
        exact ih (x1 + 0) (x2 + 1) hw
      · replace hw := hw.2 z
        refine j_iconst C 1 dX10_howMany_23 (by decide) ?_
        refine j_goto C 28 dX10_howMany_24 (by decide) ?_
        refine j_iadd C dX10_howMany_28 ?_
        refine j_istore_n C [(1, .int (x1 + 1)), (0, .ref (am 0)), (2, .int x2)] dX10_howMany_29 (by decide) rfl ?_
        refine j_iinc C 2 (x2 + 1) [(2, .int (x2 + 1)), (1, .int (x1 + 1)), (0, .ref (am 0))] dX10_howMany_30 rfl rfl (by decide) rfl ?_
        refine j_goto C 4 dX10_howMany_33 (by decide) ?_
        refine j_lsub [2, 1, 0] [(0, .ref (am 0)), (1, .int (x1 + 1)), (2, .int (x2 + 1))] rfl ?_
        exact ih (x1 + 1) (x2 + 1) hw
set_option maxRecDepth 100000 in
set_option maxHeartbeats 8000000 in
theorem c_X10_howMany {l : Launch} {D : va_G} {ca : Nat → ClassId} {sd : Nat → Nat}  (am : Nat → Nat) (m : Nat → Int32) (kp : Nat → Int32) (wa : Nat → Int32) (fo : Nat → Int32) (ta : Nat → Int32) (bo : Nat → Int32) (so : Nat → Int32) (ce : Nat → Int64) (ik : Int32) (td : Int32) (tk : Int32) (bg : Int32) (aa : Int32) (vl : Int32) (bd : Int32)    {Q : (Int32) → Prop} (hw : wp_X10_howMany m   Q) : Cn l D ca sd yX10_howMany cX10_howMany 3 (some .int) { frames := 2, cells := 0, slots := 0, locals := 43 } [.ref (am 0)] (wM ca am m kp wa fo ta bo so ce ik td tk bg aa vl bd) [] 0 0 (Ri D (fun (r : Int32) (u : Unit) => Q r ) (fun _ => [])) := by
  refine cn_ofR (by decide) (Nat.le_of_ble_eq_true rfl) (fun k C hR => ?_)
  have C : Cx D ca sd cX10_howMany RX10 (some .int) { frames := 2, cells := 0, slots := 0, locals := 43 } k 3 := C
  unfold wp_X10_howMany at hw
  show J l D k 3 0 0 0 (wM ca am m kp wa fo ta bo so ce ik td tk bg aa vl bd) [(0, .ref (am 0))] []
  refine j_iconst C 0 dX10_howMany_0 (by decide) ?_
  refine j_istore_n C [(1, .int 0), (0, .ref (am 0))] dX10_howMany_1 (by decide) rfl ?_
  refine j_iconst C 0 dX10_howMany_2 (by decide) ?_
  refine j_istore_n C [(2, .int 0), (1, .int 0), (0, .ref (am 0))] dX10_howMany_3 (by decide) rfl ?_
  refine j_lsub [2, 1, 0] [(0, .ref (am 0)), (1, .int 0), (2, .int 0)] rfl ?_
  obtain ⟨n3, hw⟩ := hw
  refine ml_X10_howMany_4 am  m kp wa fo ta bo so ce ik td tk bg aa vl bd C hR (fun y3_1 y3_2 hw => ?_) n3 0 0 hw
  refine j_iload_n C 1 dX10_howMany_36 rfl ?_
  exact j_iretR C hR () rfl dX10_howMany_37 hw
