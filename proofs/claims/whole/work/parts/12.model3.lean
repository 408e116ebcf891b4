theorem ct_X10_106 : Cond.constant RX10 106 (-1000000005) ∈ TB := (tb_t 893 (by decide +kernel) rfl)
theorem ct_X10_76 : Cond.constant RX10 76 (-1000000002) ∈ TB := (tb_t 827 (by decide +kernel) rfl)
theorem lkS_X10_49 : LkS RX10 49 yX10_isPerson cX10_isPerson 1 (some .boolean) 1 := ⟨(tb_t 781 (by decide +kernel) rfl), (tb_t 782 (by decide +kernel) rfl), (tb_t 12 (by decide +kernel) rfl), (tb_t 783 (by decide +kernel) rfl), by decide, by decide, by decide +kernel⟩
theorem lkS_X10_53 : LkS RX10 53 yX10_mayBe cX10_mayBe 2 (some .boolean) 2 := ⟨(tb_t 787 (by decide +kernel) rfl), (tb_t 788 (by decide +kernel) rfl), (tb_t 12 (by decide +kernel) rfl), (tb_t 789 (by decide +kernel) rfl), by decide, by decide, by decide +kernel⟩
theorem lkV_X10_110 : LkV RX10 110 RX10 yX10_orNone cX10_orNone 2 (some .int) 1 := ⟨(tb_t 902 (by decide +kernel) rfl), (tb_t 904 (by decide +kernel) rfl), (tb_in 22 (by decide +kernel) rfl), (tb_t 12 (by decide +kernel) rfl), (tb_t 905 (by decide +kernel) rfl), rfl, by decide, by decide, by decide +kernel⟩
theorem lkV_X10_128 : LkV RX10 128 RX10 yX10_goesFor cX10_goesFor 3 none 1 := ⟨(tb_t 911 (by decide +kernel) rfl), (tb_t 913 (by decide +kernel) rfl), (tb_in 23 (by decide +kernel) rfl), (tb_t 12 (by decide +kernel) rfl), (tb_t 914 (by decide +kernel) rfl), rfl, by decide, by decide, by decide +kernel⟩
theorem lkV_X10_131 : LkV RX10 131 RX10 yX10_sums cX10_sums 4 (some .int) 1 := ⟨(tb_t 934 (by decide +kernel) rfl), (tb_t 936 (by decide +kernel) rfl), (tb_in 27 (by decide +kernel) rfl), (tb_t 12 (by decide +kernel) rfl), (tb_t 937 (by decide +kernel) rfl), rfl, by decide, by decide, by decide +kernel⟩
theorem lkV_X10_134 : LkV RX10 134 RX10 yX10_allMade cX10_allMade 3 (some .int) 0 := ⟨(tb_t 938 (by decide +kernel) rfl), (tb_t 940 (by decide +kernel) rfl), (tb_in 28 (by decide +kernel) rfl), (tb_t 12 (by decide +kernel) rfl), (tb_t 941 (by decide +kernel) rfl), rfl, by decide, by decide, by decide +kernel⟩
theorem lkV_X10_150 : LkV RX10 150 RX10 yX10_areDone cX10_areDone 1 (some .boolean) 0 := ⟨(tb_t 977 (by decide +kernel) rfl), (tb_t 979 (by decide +kernel) rfl), (tb_in 32 (by decide +kernel) rfl), (tb_t 12 (by decide +kernel) rfl), (tb_t 980 (by decide +kernel) rfl), rfl, by decide, by decide, by decide +kernel⟩
theorem lkV_X10_154 : LkV RX10 154 RX10 yX10_soonestBy cX10_soonestBy 9 (some .int) 3 := ⟨(tb_t 985 (by decide +kernel) rfl), (tb_t 987 (by decide +kernel) rfl), (tb_in 33 (by decide +kernel) rfl), (tb_t 12 (by decide +kernel) rfl), (tb_t 988 (by decide +kernel) rfl), rfl, by decide, by decide, by decide +kernel⟩
theorem lkV_X10_57 : LkV RX10 57 RX10 yX10_becomes cX10_becomes 4 (some .int) 2 := ⟨(tb_t 790 (by decide +kernel) rfl), (tb_t 792 (by decide +kernel) rfl), (tb_in 4 (by decide +kernel) rfl), (tb_t 12 (by decide +kernel) rfl), (tb_t 793 (by decide +kernel) rfl), rfl, by decide, by decide, by decide +kernel⟩
theorem lkV_X10_66 : LkV RX10 66 RX10 yX10_withOf cX10_withOf 4 (some .int) 1 := ⟨(tb_t 807 (by decide +kernel) rfl), (tb_t 809 (by decide +kernel) rfl), (tb_in 7 (by decide +kernel) rfl), (tb_t 12 (by decide +kernel) rfl), (tb_t 810 (by decide +kernel) rfl), rfl, by decide, by decide, by decide +kernel⟩
def wp_X10_person (m : Nat → Int32) (fo : Nat → Int32)  (a1 : Int32) (a2 : Int32) (a3 : Int32) (Q : (Int32) → (Nat → Int32) → (Nat → Int32) → Prop) : Prop := wp_X10_isPerson a1 (fun r1 => (r1 = 0 → wp_X10_finds fo (-1000000001) (fun r2 c2_0 => Q r2 m c2_0)) ∧ (¬ (r1 = 0) → wp_X10_mayBe a2 a3 (fun r3 => (r3 = 0 → wp_X10_finds fo (-1000000001) (fun r4 c4_0 => Q r4 m c4_0)) ∧ (¬ (r3 = 0) → wp_X10_becomes m ((2 + (3 * a1)) + a2) a3 (fun r5 c5_0 => Q r5 c5_0 fo)))))
set_option maxRecDepth 100000 in
set_option maxHeartbeats 8000000 in
theorem c_X10_person {l : Launch} {D : va_G} {ca : Nat → ClassId} {sd : Nat → Nat}  (am : Nat → Nat) (m : Nat → Int32) (kp : Nat → Int32) (wa : Nat → Int32) (fo : Nat → Int32) (ta : Nat → Int32) (bo : Nat → Int32) (so : Nat → Int32) (ce : Nat → Int64) (ik : Int32) (td : Int32) (tk : Int32) (bg : Int32) (aa : Int32) (vl : Int32) (bd : Int32)  (a1 : Int32) (a2 : Int32) (a3 : Int32)  {Q : (Int32) → (Nat → Int32) → (Nat → Int32) → Prop} (hw : wp_X10_person m fo  a1 a2 a3 Q) : Cn l D ca sd yX10_person cX10_person 4 (some .int) { frames := 2, cells := 0, slots := 0, locals := 44 } [.ref (am 0), .int a1, .int a2, .int a3] (wM ca am m kp wa fo ta bo so ce ik td tk bg aa vl bd) (wM ca am m kp wa fo ta bo so ce ik td tk bg aa vl bd) 0 0 (Ri D (fun (r : Int32) (u : (Nat → Int32) × (Nat → Int32)) => Q r u.1 u.2) (fun u => (wM ca am u.1 kp wa u.2 ta bo so ce ik td tk bg aa vl bd))) := by
  refine cn_of (by decide) (Nat.le_of_ble_eq_true rfl) (fun k C hR hB _ => ?_)
  have C : Cx D ca sd cX10_person RX10 (some .int) { frames := 2, cells := 0, slots := 0, locals := 44 } k 4 := C
  unfold wp_X10_person at hw
  show J l D k 4 0 0 0 (wM ca am m kp wa fo ta bo so ce ik td tk bg aa vl bd) [(0, .ref (am 0)), (1, .int a1), (2, .int a2), (3, .int a3)] []
  refine j_iload_n C 1 dX10_person_0 rfl ?_
  refine j_ciZ C (jr_S C lkS_X10_49 (c_X10_isPerson a1 hw) ⟨rfl, rfl, by decide, by decide, by decide, by decide⟩ [] (by decide) rfl (fx_ro C) rfl rfl (Nat.le_of_ble_eq_true rfl) dX10_person_1) (fun r1 u1 hw => ?_)
  refine j_if_eq C 30 dX10_person_4 (by decide) (fun z => ?_) (fun z => ?_)
  · replace hw := hw.1 z
    refine j_aload_n C 0 dX10_person_30 rfl ?_
    refine j_ldc C dX10_person_31 ct_X10_35 ?_
    refine j_ciT C hB 0 9 (fun u2 : (Nat → Int32) => (wM ca am m kp wa u2 ta bo so ce ik td tk bg aa vl bd)) rfl (fun _ => rfl) (jr_V C lkV_X10_37 (c_X10_finds am m kp wa fo ta bo so ce ik td tk bg aa vl bd (-1000000001) hw) ⟨rfl, rfl, by decide, by decide, by decide, by decide⟩ [0, 1, 2, 3, 4, 5, 6, 7, 8] (by decide) rfl (fx_rw C hB [0, 1, 2, 3, 4, 5, 6, 7, 8] rfl) 0 10 rfl rfl rfl rfl (Nat.le_of_ble_eq_true rfl) dX10_person_33) (fun r2 u2 hw => ?_)
    exact j_iret C hB hR (m, u2) rfl dX10_person_36 hw rfl
  · replace hw := hw.2 z
    refine j_iload_n C 2 dX10_person_7 rfl ?_
    refine j_iload_n C 3 dX10_person_8 rfl ?_
    refine j_ciZ C (jr_S C lkS_X10_53 (c_X10_mayBe a2 a3 hw) ⟨rfl, rfl, by decide, by decide, by decide, by decide⟩ [] (by decide) rfl (fx_ro C) rfl rfl (Nat.le_of_ble_eq_true rfl) dX10_person_9) (fun r3 u3 hw => ?_)
    refine j_if_eq C 30 dX10_person_12 (by decide) (fun z => ?_) (fun z => ?_)
    · replace hw := hw.1 z
      refine j_aload_n C 0 dX10_person_30 rfl ?_
      refine j_ldc C dX10_person_31 ct_X10_35 ?_
      refine j_ciT C hB 0 9 (fun u4 : (Nat → Int32) => (wM ca am m kp wa u4 ta bo so ce ik td tk bg aa vl bd)) rfl (fun _ => rfl) (jr_V C lkV_X10_37 (c_X10_finds am m kp wa fo ta bo so ce ik td tk bg aa vl bd (-1000000001) hw) ⟨rfl, rfl, by decide, by decide, by decide, by decide⟩ [0, 1, 2, 3, 4, 5, 6, 7, 8] (by decide) rfl (fx_rw C hB [0, 1, 2, 3, 4, 5, 6, 7, 8] rfl) 0 10 rfl rfl rfl rfl (Nat.le_of_ble_eq_true rfl) dX10_person_33) (fun r4 u4 hw => ?_)
      exact j_iret C hB hR (m, u4) rfl dX10_person_36 hw rfl
    · replace hw := hw.2 z
      refine j_aload_n C 0 dX10_person_15 rfl ?_
      refine j_iconst C 2 dX10_person_16 (by decide) ?_
      refine j_iconst C 3 dX10_person_17 (by decide) ?_
      refine j_iload_n C 1 dX10_person_18 rfl ?_
      refine j_imul C dX10_person_19 ?_
      refine j_iadd C dX10_person_20 ?_
      refine j_iload_n C 2 dX10_person_21 rfl ?_
      refine j_iadd C dX10_person_22 ?_
      refine j_iload_n C 3 dX10_person_23 rfl ?_
      refine j_ciT C hB 0 9 (fun u5 : (Nat → Int32) => (wM ca am u5 kp wa fo ta bo so ce ik td tk bg aa vl bd)) rfl (fun _ => rfl) (jr_V C lkV_X10_57 (c_X10_becomes am m kp wa fo ta bo so ce ik td tk bg aa vl bd ((2 + (3 * a1)) + a2) a3 hw) ⟨rfl, rfl, by decide, by decide, by decide, by decide⟩ [0, 1, 2, 3, 4, 5, 6, 7, 8] (by decide) rfl (fx_rw C hB [0, 1, 2, 3, 4, 5, 6, 7, 8] rfl) 0 10 rfl rfl rfl rfl (Nat.le_of_ble_eq_true rfl) dX10_person_24) (fun r5 u5 hw => ?_)
      refine j_goto C 36 dX10_person_27 (by decide) ?_
      exact j_iret C hB hR (u5, fo) rfl dX10_person_36 hw rfl
def wp_X10_personOf (m : Nat → Int32) (fo : Nat → Int32)  (a1 : Int32) (a2 : Int32) (Q : (Int32) → (Nat → Int32) → Prop) : Prop := wp_X10_isPerson a1 (fun r1 => (r1 = 0 → wp_X10_finds fo (-1000000001) (fun r2 c2_0 => Q r2 c2_0)) ∧ (¬ (r1 = 0) → wp_X10_in ((a2).toInt64) 0 4 (fun r3 => (r3 = 0 → wp_X10_finds fo (-1000000001) (fun r7 c7_0 => Q r7 c7_0)) ∧ (¬ (r3 = 0) → (3 ≤ a2 → (a2 = 3 → wp_X10_withOf m a1 (fun r5 => Q r5 fo)) ∧ (¬ (a2 = 3) → wp_X10_openOf m a1 (fun r4 => Q r4 fo))) ∧ (¬ (3 ≤ a2) → wp_X10_his m a1 a2 (fun r6 => Q r6 fo))))))
set_option maxRecDepth 100000 in
set_option maxHeartbeats 8000000 in
theorem c_X10_personOf {l : Launch} {D : va_G} {ca : Nat → ClassId} {sd : Nat → Nat}  (am : Nat → Nat) (m : Nat → Int32) (kp : Nat → Int32) (wa : Nat → Int32) (fo : Nat → Int32) (ta : Nat → Int32) (bo : Nat → Int32) (so : Nat → Int32) (ce : Nat → Int64) (ik : Int32) (td : Int32) (tk : Int32) (bg : Int32) (aa : Int32) (vl : Int32) (bd : Int32)  (a1 : Int32) (a2 : Int32)  {Q : (Int32) → (Nat → Int32) → Prop} (hw : wp_X10_personOf m fo  a1 a2 Q) : Cn l D ca sd yX10_personOf cX10_personOf 3 (some .int) { frames := 3, cells := 0, slots := 0, locals := 66 } [.ref (am 0), .int a1, .int a2] (wM ca am m kp wa fo ta bo so ce ik td tk bg aa vl bd) (wM ca am m kp wa fo ta bo so ce ik td tk bg aa vl bd) 0 0 (Ri D (fun (r : Int32) (u : (Nat → Int32)) => Q r u) (fun u => (wM ca am m kp wa u ta bo so ce ik td tk bg aa vl bd))) := by
  refine cn_of (by decide) (Nat.le_of_ble_eq_true rfl) (fun k C hR hB _ => ?_)
  have C : Cx D ca sd cX10_personOf RX10 (some .int) { frames := 3, cells := 0, slots := 0, locals := 66 } k 3 := C
  unfold wp_X10_personOf at hw
  show J l D k 3 0 0 0 (wM ca am m kp wa fo ta bo so ce ik td tk bg aa vl bd) [(0, .ref (am 0)), (1, .int a1), (2, .int a2)] []
  refine j_iload_n C 1 dX10_personOf_0 rfl ?_
  refine j_ciZ C (jr_S C lkS_X10_49 (c_X10_isPerson a1 hw) ⟨rfl, rfl, by decide, by decide, by decide, by decide⟩ [] (by decide) rfl (fx_ro C) rfl rfl (Nat.le_of_ble_eq_true rfl) dX10_personOf_1) (fun r1 u1 hw => ?_)
  refine j_if_eq C 17 dX10_personOf_4 (by decide) (fun z => ?_) (fun z => ?_)
  · replace hw := hw.1 z
    refine j_aload_n C 0 dX10_personOf_17 rfl ?_
    refine j_ldc C dX10_personOf_18 ct_X10_35 ?_
    refine j_ciT C hB 0 9 (fun u2 : (Nat → Int32) => (wM ca am m kp wa u2 ta bo so ce ik td tk bg aa vl bd)) rfl (fun _ => rfl) (jr_V C lkV_X10_37 (c_X10_finds am m kp wa fo ta bo so ce ik td tk bg aa vl bd (-1000000001) hw) ⟨rfl, rfl, by decide, by decide, by decide, by decide⟩ [0, 1, 2, 3, 4, 5, 6, 7, 8] (by decide) rfl (fx_rw C hB [0, 1, 2, 3, 4, 5, 6, 7, 8] rfl) 0 10 rfl rfl rfl rfl (Nat.le_of_ble_eq_true rfl) dX10_personOf_20) (fun r2 u2 hw => ?_)
    exact j_iret C hB hR u2 rfl dX10_personOf_23 hw rfl
  · replace hw := hw.2 z
    refine j_iload_n C 2 dX10_personOf_7 rfl ?_
    refine j_i2l C dX10_personOf_8 ?_
    refine j_iconst C 0 dX10_personOf_9 (by decide) ?_
    refine j_iconst C 4 dX10_personOf_10 (by decide) ?_
    refine j_ciZ C (jr_S C lkS_X10_41 (c_X10_in ((a2).toInt64) 0 4 hw) ⟨rfl, rfl, by decide, by decide, by decide, by decide⟩ [] (by decide) rfl (fx_ro C) rfl rfl (Nat.le_of_ble_eq_true rfl) dX10_personOf_11) (fun r3 u3 hw => ?_)
    refine j_if_ne C 24 dX10_personOf_14 (by decide) (fun z => ?_) (fun z => ?_)
    · replace hw := hw.2 z
      refine j_iload_n C 2 dX10_personOf_24 rfl ?_
      refine j_iconst C 3 dX10_personOf_25 (by decide) ?_
      refine j_icmp_ge C 38 dX10_personOf_26 (by decide) (fun z => ?_) (fun z => ?_)
      · replace hw := hw.1 z
        refine j_iload_n C 2 dX10_personOf_38 rfl ?_
        refine j_iconst C 3 dX10_personOf_39 (by decide) ?_
        refine j_icmp_ne C 51 dX10_personOf_40 (by decide) (fun z => ?_) (fun z => ?_)
        · replace hw := hw.2 z
          refine j_aload_n C 0 dX10_personOf_51 rfl ?_
          refine j_iload_n C 1 dX10_personOf_52 rfl ?_
          refine j_ciZ C (jr_V C lkV_X10_69 (c_X10_openOf am m kp wa fo ta bo so ce ik td tk bg aa vl bd a1 hw) ⟨rfl, rfl, by decide, by decide, by decide, by decide⟩ [0, 1, 2, 3, 4, 5, 6, 7, 8] (by decide) rfl (fx_ro C) 0 10 rfl rfl rfl rfl (Nat.le_of_ble_eq_true rfl) dX10_personOf_53) (fun r4 u4 hw => ?_)
          exact j_iret C hB hR fo rfl dX10_personOf_56 hw rfl
        · replace hw := hw.1 z
          refine j_aload_n C 0 dX10_personOf_43 rfl ?_
          refine j_iload_n C 1 dX10_personOf_44 rfl ?_
          refine j_ciZ C (jr_V C lkV_X10_66 (c_X10_withOf am m kp wa fo ta bo so ce ik td tk bg aa vl bd a1 hw) ⟨rfl, rfl, by decide, by decide, by decide, by decide⟩ [0, 1, 2, 3, 4, 5, 6, 7, 8] (by decide) rfl (fx_ro C) 0 10 rfl rfl rfl rfl (Nat.le_of_ble_eq_true rfl) dX10_personOf_45) (fun r5 u5 hw => ?_)
          refine j_goto C 56 dX10_personOf_48 (by decide) ?_
          exact j_iret C hB hR fo rfl dX10_personOf_56 hw rfl
      · replace hw := hw.2 z
        refine j_aload_n C 0 dX10_personOf_29 rfl ?_
        refine j_iload_n C 1 dX10_personOf_30 rfl ?_
        refine j_iload_n C 2 dX10_personOf_31 rfl ?_
        refine j_ciZ C (jr_V C lkV_X10_63 (c_X10_his am m kp wa fo ta bo so ce ik td tk bg aa vl bd a1 a2 hw) ⟨rfl, rfl, by decide, by decide, by decide, by decide⟩ [0, 1, 2, 3, 4, 5, 6, 7, 8] (by decide) rfl (fx_ro C) 0 10 rfl rfl rfl rfl (Nat.le_of_ble_eq_true rfl) dX10_personOf_32) (fun r6 u6 hw => ?_)
        refine j_goto C 56 dX10_personOf_35 (by decide) ?_
        exact j_iret C hB hR fo rfl dX10_personOf_56 hw rfl
    · replace hw := hw.1 z
      refine j_aload_n C 0 dX10_personOf_17 rfl ?_
      refine j_ldc C dX10_personOf_18 ct_X10_35 ?_
      refine j_ciT C hB 0 9 (fun u7 : (Nat → Int32) => (wM ca am m kp wa u7 ta bo so ce ik td tk bg aa vl bd)) rfl (fun _ => rfl) (jr_V C lkV_X10_37 (c_X10_finds am m kp wa fo ta bo so ce ik td tk bg aa vl bd (-1000000001) hw) ⟨rfl, rfl, by decide, by decide, by decide, by decide⟩ [0, 1, 2, 3, 4, 5, 6, 7, 8] (by decide) rfl (fx_rw C hB [0, 1, 2, 3, 4, 5, 6, 7, 8] rfl) 0 10 rfl rfl rfl rfl (Nat.le_of_ble_eq_true rfl) dX10_personOf_20) (fun r7 u7 hw => ?_)
      exact j_iret C hB hR u7 rfl dX10_personOf_23 hw rfl
def wp_X10_thing (m : Nat → Int32) (fo : Nat → Int32)  (a1 : Int32) (a2 : Int32) (Q : (Int32) → (Nat → Int32) → (Nat → Int32) → Prop) : Prop := wp_X10_in ((a1).toInt64) 0 5 (fun r1 => (r1 = 0 → wp_X10_finds fo (-1000000001) (fun r2 c2_0 => Q r2 m c2_0)) ∧ (¬ (r1 = 0) → wp_X10_in ((a2).toInt64) 0 99 (fun r3 => (r3 = 0 → wp_X10_finds fo (-1000000001) (fun r7 c7_0 => Q r7 m c7_0)) ∧ (¬ (r3 = 0) → vp_in 1 52 ∧ (((m ((1 : Int32).toNatClampNeg)) = 8 → wp_X10_finds fo (-1000000002) (fun r6 c6_0 => Q r6 m c6_0)) ∧ (¬ ((m ((1 : Int32).toNatClampNeg)) = 8) → wp_X10_comesAs m a1 a2 (-1) 0 (fun r5 c5_0 => Q r5 c5_0 fo)))))))
set_option maxRecDepth 100000 in
set_option maxHeartbeats 8000000 in
theorem c_X10_thing {l : Launch} {D : va_G} {ca : Nat → ClassId} {sd : Nat → Nat}  (am : Nat → Nat) (m : Nat → Int32) (kp : Nat → Int32) (wa : Nat → Int32) (fo : Nat → Int32) (ta : Nat → Int32) (bo : Nat → Int32) (so : Nat → Int32) (ce : Nat → Int64) (ik : Int32) (td : Int32) (tk : Int32) (bg : Int32) (aa : Int32) (vl : Int32) (bd : Int32)  (a1 : Int32) (a2 : Int32)  {Q : (Int32) → (Nat → Int32) → (Nat → Int32) → Prop} (hw : wp_X10_thing m fo  a1 a2 Q) : Cn l D ca sd yX10_thing cX10_thing 3 (some .int) { frames := 2, cells := 0, slots := 0, locals := 48 } [.ref (am 0), .int a1, .int a2] (wM ca am m kp wa fo ta bo so ce ik td tk bg aa vl bd) (wM ca am m kp wa fo ta bo so ce ik td tk bg aa vl bd) 0 0 (Ri D (fun (r : Int32) (u : (Nat → Int32) × (Nat → Int32)) => Q r u.1 u.2) (fun u => (wM ca am u.1 kp wa u.2 ta bo so ce ik td tk bg aa vl bd))) := by
  refine cn_of (by decide) (Nat.le_of_ble_eq_true rfl) (fun k C hR hB _ => ?_)
  have C : Cx D ca sd cX10_thing RX10 (some .int) { frames := 2, cells := 0, slots := 0, locals := 48 } k 3 := C
  unfold wp_X10_thing at hw
  show J l D k 3 0 0 0 (wM ca am m kp wa fo ta bo so ce ik td tk bg aa vl bd) [(0, .ref (am 0)), (1, .int a1), (2, .int a2)] []
  refine j_iload_n C 1 dX10_thing_0 rfl ?_
  refine j_i2l C dX10_thing_1 ?_
  refine j_iconst C 0 dX10_thing_2 (by decide) ?_
  refine j_iconst C 5 dX10_thing_3 (by decide) ?_
  refine j_ciZ C (jr_S C lkS_X10_41 (c_X10_in ((a1).toInt64) 0 5 hw) ⟨rfl, rfl, by decide, by decide, by decide, by decide⟩ [] (by decide) rfl (fx_ro C) rfl rfl (Nat.le_of_ble_eq_true rfl) dX10_thing_4) (fun r1 u1 hw => ?_)
  refine j_if_eq C 21 dX10_thing_7 (by decide) (fun z => ?_) (fun z => ?_)
  · replace hw := hw.1 z
    refine j_aload_n C 0 dX10_thing_21 rfl ?_
    refine j_ldc C dX10_thing_22 ct_X10_35 ?_
    refine j_ciT C hB 0 9 (fun u2 : (Nat → Int32) => (wM ca am m kp wa u2 ta bo so ce ik td tk bg aa vl bd)) rfl (fun _ => rfl) (jr_V C lkV_X10_37 (c_X10_finds am m kp wa fo ta bo so ce ik td tk bg aa vl bd (-1000000001) hw) ⟨rfl, rfl, by decide, by decide, by decide, by decide⟩ [0, 1, 2, 3, 4, 5, 6, 7, 8] (by decide) rfl (fx_rw C hB [0, 1, 2, 3, 4, 5, 6, 7, 8] rfl) 0 10 rfl rfl rfl rfl (Nat.le_of_ble_eq_true rfl) dX10_thing_24) (fun r2 u2 hw => ?_)
    exact j_iret C hB hR (m, u2) rfl dX10_thing_27 hw rfl
  · replace hw := hw.2 z
    refine j_iload_n C 2 dX10_thing_10 rfl ?_
    refine j_i2l C dX10_thing_11 ?_
    refine j_iconst C 0 dX10_thing_12 (by decide) ?_
    refine j_bipush C 99 dX10_thing_13 (by decide) ?_
    refine j_ciZ C (jr_S C lkS_X10_41 (c_X10_in ((a2).toInt64) 0 99 hw) ⟨rfl, rfl, by decide, by decide, by decide, by decide⟩ [] (by decide) rfl (fx_ro C) rfl rfl (Nat.le_of_ble_eq_true rfl) dX10_thing_15) (fun r3 u3 hw => ?_)
    refine j_if_ne C 28 dX10_thing_18 (by decide) (fun z => ?_) (fun z => ?_)
    · replace hw := hw.2 z
      refine j_aload_n C 0 dX10_thing_28 rfl ?_
      refine j_get C fl_X10_9_10 0 dX10_thing_29 rfl rfl ?_
      refine j_iconst C 1 dX10_thing_32 (by decide) ?_
      have hi4 := hw.1
      replace hw := hw.2
      refine j_iald C 1 dX10_thing_33 rfl hi4 ?_
      refine j_bipush C 8 dX10_thing_34 (by decide) ?_
      refine j_icmp_ne C 48 dX10_thing_36 (by decide) (fun z => ?_) (fun z => ?_)
      · replace hw := hw.2 z
        refine j_aload_n C 0 dX10_thing_48 rfl ?_
        refine j_iload_n C 1 dX10_thing_49 rfl ?_
        refine j_iload_n C 2 dX10_thing_50 rfl ?_
        refine j_iconst C (-1) dX10_thing_51 (by decide) ?_
        refine j_iconst C 0 dX10_thing_52 (by decide) ?_
        refine j_ciT C hB 0 9 (fun u5 : (Nat → Int32) => (wM ca am u5 kp wa fo ta bo so ce ik td tk bg aa vl bd)) rfl (fun _ => rfl) (jr_V C lkV_X10_77 (c_X10_comesAs am m kp wa fo ta bo so ce ik td tk bg aa vl bd a1 a2 (-1) 0 hw) ⟨rfl, rfl, by decide, by decide, by decide, by decide⟩ [0, 1, 2, 3, 4, 5, 6, 7, 8] (by decide) rfl (fx_rw C hB [0, 1, 2, 3, 4, 5, 6, 7, 8] rfl) 0 10 rfl rfl rfl rfl (Nat.le_of_ble_eq_true rfl) dX10_thing_53) (fun r5 u5 hw => ?_)
        exact j_iret C hB hR (u5, fo) rfl dX10_thing_56 hw rfl
      · replace hw := hw.1 z
        refine j_aload_n C 0 dX10_thing_39 rfl ?_
        refine j_ldc C dX10_thing_40 ct_X10_76 ?_
        refine j_ciT C hB 0 9 (fun u6 : (Nat → Int32) => (wM ca am m kp wa u6 ta bo so ce ik td tk bg aa vl bd)) rfl (fun _ => rfl) (jr_V C lkV_X10_37 (c_X10_finds am m kp wa fo ta bo so ce ik td tk bg aa vl bd (-1000000002) hw) ⟨rfl, rfl, by decide, by decide, by decide, by decide⟩ [0, 1, 2, 3, 4, 5, 6, 7, 8] (by decide) rfl (fx_rw C hB [0, 1, 2, 3, 4, 5, 6, 7, 8] rfl) 0 10 rfl rfl rfl rfl (Nat.le_of_ble_eq_true rfl) dX10_thing_42) (fun r6 u6 hw => ?_)
        refine j_goto C 56 dX10_thing_45 (by decide) ?_
        exact j_iret C hB hR (m, u6) rfl dX10_thing_56 hw rfl
    · replace hw := hw.1 z
      refine j_aload_n C 0 dX10_thing_21 rfl ?_
      refine j_ldc C dX10_thing_22 ct_X10_35 ?_
      refine j_ciT C hB 0 9 (fun u7 : (Nat → Int32) => (wM ca am m kp wa u7 ta bo so ce ik td tk bg aa vl bd)) rfl (fun _ => rfl) (jr_V C lkV_X10_37 (c_X10_finds am m kp wa fo ta bo so ce ik td tk bg aa vl bd (-1000000001) hw) ⟨rfl, rfl, by decide, by decide, by decide, by decide⟩ [0, 1, 2, 3, 4, 5, 6, 7, 8] (by decide) rfl (fx_rw C hB [0, 1, 2, 3, 4, 5, 6, 7, 8] rfl) 0 10 rfl rfl rfl rfl (Nat.le_of_ble_eq_true rfl) dX10_thing_24) (fun r7 u7 hw => ?_)
      exact j_iret C hB hR (m, u7) rfl dX10_thing_27 hw rfl
def wp_X10_of (m : Nat → Int32) (fo : Nat → Int32)  (a1 : Int32) (a2 : Int32) (Q : (Int32) → (Nat → Int32) → Prop) : Prop := wp_X10_isThing m a1 (fun r1 => (r1 = 0 → wp_X10_finds fo (-1000000001) (fun r2 c2_0 => Q r2 c2_0)) ∧ (¬ (r1 = 0) → wp_X10_in ((a2).toInt64) 0 5 (fun r3 => (r3 = 0 → wp_X10_finds fo (-1000000001) (fun r7 c7_0 => Q r7 c7_0)) ∧ (¬ (r3 = 0) → (4 ≤ a2 → (a2 = 4 → wp_X10_tires m a1 (fun r5 => Q r5 fo)) ∧ (¬ (a2 = 4) → wp_X10_asked m a1 (fun r4 => Q r4 fo))) ∧ (¬ (4 ≤ a2) → wp_X10_it m a1 a2 (fun r6 => Q r6 fo))))))
set_option maxRecDepth 100000 in
set_option maxHeartbeats 8000000 in
theorem c_X10_of {l : Launch} {D : va_G} {ca : Nat → ClassId} {sd : Nat → Nat}  (am : Nat → Nat) (m : Nat → Int32) (kp : Nat → Int32) (wa : Nat → Int32) (fo : Nat → Int32) (ta : Nat → Int32) (bo : Nat → Int32) (so : Nat → Int32) (ce : Nat → Int64) (ik : Int32) (td : Int32) (tk : Int32) (bg : Int32) (aa : Int32) (vl : Int32) (bd : Int32)  (a1 : Int32) (a2 : Int32)  {Q : (Int32) → (Nat → Int32) → Prop} (hw : wp_X10_of m fo  a1 a2 Q) : Cn l D ca sd yX10_of cX10_of 3 (some .int) { frames := 2, cells := 0, slots := 0, locals := 44 } [.ref (am 0), .int a1, .int a2] (wM ca am m kp wa fo ta bo so ce ik td tk bg aa vl bd) (wM ca am m kp wa fo ta bo so ce ik td tk bg aa vl bd) 0 0 (Ri D (fun (r : Int32) (u : (Nat → Int32)) => Q r u) (fun u => (wM ca am m kp wa u ta bo so ce ik td tk bg aa vl bd))) := by
  refine cn_of (by decide) (Nat.le_of_ble_eq_true rfl) (fun k C hR hB _ => ?_)
  have C : Cx D ca sd cX10_of RX10 (some .int) { frames := 2, cells := 0, slots := 0, locals := 44 } k 3 := C
  unfold wp_X10_of at hw
  show J l D k 3 0 0 0 (wM ca am m kp wa fo ta bo so ce ik td tk bg aa vl bd) [(0, .ref (am 0)), (1, .int a1), (2, .int a2)] []
  refine j_aload_n C 0 dX10_of_0 rfl ?_
  refine j_iload_n C 1 dX10_of_1 rfl ?_
  refine j_ciZ C (jr_V C lkV_X10_81 (c_X10_isThing am m kp wa fo ta bo so ce ik td tk bg aa vl bd a1 hw) ⟨rfl, rfl, by decide, by decide, by decide, by decide⟩ [0, 1, 2, 3, 4, 5, 6, 7, 8] (by decide) rfl (fx_ro C) 0 10 rfl rfl rfl rfl (Nat.le_of_ble_eq_true rfl) dX10_of_2) (fun r1 u1 hw => ?_)
  refine j_if_eq C 18 dX10_of_5 (by decide) (fun z => ?_) (fun z => ?_)
  · replace hw := hw.1 z
    refine j_aload_n C 0 dX10_of_18 rfl ?_
    refine j_ldc C dX10_of_19 ct_X10_35 ?_
    refine j_ciT C hB 0 9 (fun u2 : (Nat → Int32) => (wM ca am m kp wa u2 ta bo so ce ik td tk bg aa vl bd)) rfl (fun _ => rfl) (jr_V C lkV_X10_37 (c_X10_finds am m kp wa fo ta bo so ce ik td tk bg aa vl bd (-1000000001) hw) ⟨rfl, rfl, by decide, by decide, by decide, by decide⟩ [0, 1, 2, 3, 4, 5, 6, 7, 8] (by decide) rfl (fx_rw C hB [0, 1, 2, 3, 4, 5, 6, 7, 8] rfl) 0 10 rfl rfl rfl rfl (Nat.le_of_ble_eq_true rfl) dX10_of_21) (fun r2 u2 hw => ?_)
    exact j_iret C hB hR u2 rfl dX10_of_24 hw rfl
  · replace hw := hw.2 z
    refine j_iload_n C 2 dX10_of_8 rfl ?_
    refine j_i2l C dX10_of_9 ?_
    refine j_iconst C 0 dX10_of_10 (by decide) ?_
    refine j_iconst C 5 dX10_of_11 (by decide) ?_
    refine j_ciZ C (jr_S C lkS_X10_41 (c_X10_in ((a2).toInt64) 0 5 hw) ⟨rfl, rfl, by decide, by decide, by decide, by decide⟩ [] (by decide) rfl (fx_ro C) rfl rfl (Nat.le_of_ble_eq_true rfl) dX10_of_12) (fun r3 u3 hw => ?_)
    refine j_if_ne C 25 dX10_of_15 (by decide) (fun z => ?_) (fun z => ?_)
    · replace hw := hw.2 z
      refine j_iload_n C 2 dX10_of_25 rfl ?_
      refine j_iconst C 4 dX10_of_26 (by decide) ?_
      refine j_icmp_ge C 39 dX10_of_27 (by decide) (fun z => ?_) (fun z => ?_)
      · replace hw := hw.1 z
        refine j_iload_n C 2 dX10_of_39 rfl ?_
        refine j_iconst C 4 dX10_of_40 (by decide) ?_
        refine j_icmp_ne C 52 dX10_of_41 (by decide) (fun z => ?_) (fun z => ?_)
        · replace hw := hw.2 z
          refine j_aload_n C 0 dX10_of_52 rfl ?_
          refine j_iload_n C 1 dX10_of_53 rfl ?_
          refine j_ciZ C (jr_V C lkV_X10_87 (c_X10_asked am m kp wa fo ta bo so ce ik td tk bg aa vl bd a1 hw) ⟨rfl, rfl, by decide, by decide, by decide, by decide⟩ [0, 1, 2, 3, 4, 5, 6, 7, 8] (by decide) rfl (fx_ro C) 0 10 rfl rfl rfl rfl (Nat.le_of_ble_eq_true rfl) dX10_of_54) (fun r4 u4 hw => ?_)
          exact j_iret C hB hR fo rfl dX10_of_57 hw rfl
        · replace hw := hw.1 z
          refine j_aload_n C 0 dX10_of_44 rfl ?_
          refine j_iload_n C 1 dX10_of_45 rfl ?_
          refine j_ciZ C (jr_V C lkV_X10_84 (c_X10_tires am m kp wa fo ta bo so ce ik td tk bg aa vl bd a1 hw) ⟨rfl, rfl, by decide, by decide, by decide, by decide⟩ [0, 1, 2, 3, 4, 5, 6, 7, 8] (by decide) rfl (fx_ro C) 0 10 rfl rfl rfl rfl (Nat.le_of_ble_eq_true rfl) dX10_of_46) (fun r5 u5 hw => ?_)
          refine j_goto C 57 dX10_of_49 (by decide) ?_
          exact j_iret C hB hR fo rfl dX10_of_57 hw rfl
      · replace hw := hw.2 z
        refine j_aload_n C 0 dX10_of_30 rfl ?_
        refine j_iload_n C 1 dX10_of_31 rfl ?_
        refine j_iload_n C 2 dX10_of_32 rfl ?_
        refine j_ciZ C (jr_V C lkV_X10_45 (c_X10_it am m kp wa fo ta bo so ce ik td tk bg aa vl bd a1 a2 hw) ⟨rfl, rfl, by decide, by decide, by decide, by decide⟩ [0, 1, 2, 3, 4, 5, 6, 7, 8] (by decide) rfl (fx_ro C) 0 10 rfl rfl rfl rfl (Nat.le_of_ble_eq_true rfl) dX10_of_33) (fun r6 u6 hw => ?_)
        refine j_goto C 57 dX10_of_36 (by decide) ?_
        exact j_iret C hB hR fo rfl dX10_of_57 hw rfl
    · replace hw := hw.1 z
      refine j_aload_n C 0 dX10_of_18 rfl ?_
      refine j_ldc C dX10_of_19 ct_X10_35 ?_
      refine j_ciT C hB 0 9 (fun u7 : (Nat → Int32) => (wM ca am m kp wa u7 ta bo so ce ik td tk bg aa vl bd)) rfl (fun _ => rfl) (jr_V C lkV_X10_37 (c_X10_finds am m kp wa fo ta bo so ce ik td tk bg aa vl bd (-1000000001) hw) ⟨rfl, rfl, by decide, by decide, by decide, by decide⟩ [0, 1, 2, 3, 4, 5, 6, 7, 8] (by decide) rfl (fx_rw C hB [0, 1, 2, 3, 4, 5, 6, 7, 8] rfl) 0 10 rfl rfl rfl rfl (Nat.le_of_ble_eq_true rfl) dX10_of_21) (fun r7 u7 hw => ?_)
      exact j_iret C hB hR u7 rfl dX10_of_24 hw rfl
def wp_X10_by (m : Nat → Int32) (fo : Nat → Int32)  (a1 : Int32) (a2 : Int32) (a3 : Int32) (Q : (Int32) → (Nat → Int32) → Prop) : Prop := wp_X10_isThing m a1 (fun r1 => (r1 = 0 → wp_X10_finds fo (-1000000001) (fun r2 c2_0 => Q r2 c2_0)) ∧ (¬ (r1 = 0) → wp_X10_isPerson a2 (fun r3 => (r3 = 0 → wp_X10_finds fo (-1000000001) (fun r4 c4_0 => Q r4 c4_0)) ∧ (¬ (r3 = 0) → wp_X10_in ((a3).toInt64) 0 1 (fun r5 => (r5 = 0 → wp_X10_finds fo (-1000000001) (fun r10 c10_0 => Q r10 c10_0)) ∧ (¬ (r5 = 0) → (a3 = 0 → wp_X10_his m a2 0 (fun r8 => wp_X10_goesOn m a1 r8 (fun r9 => Q r9 fo))) ∧ (¬ (a3 = 0) → wp_X10_his m a2 0 (fun r6 => wp_X10_bids m a1 r6 (fun r7 => Q r7 fo)))))))))
set_option maxRecDepth 100000 in
set_option maxHeartbeats 8000000 in
theorem c_X10_by {l : Launch} {D : va_G} {ca : Nat → ClassId} {sd : Nat → Nat}  (am : Nat → Nat) (m : Nat → Int32) (kp : Nat → Int32) (wa : Nat → Int32) (fo : Nat → Int32) (ta : Nat → Int32) (bo : Nat → Int32) (so : Nat → Int32) (ce : Nat → Int64) (ik : Int32) (td : Int32) (tk : Int32) (bg : Int32) (aa : Int32) (vl : Int32) (bd : Int32)  (a1 : Int32) (a2 : Int32) (a3 : Int32)  {Q : (Int32) → (Nat → Int32) → Prop} (hw : wp_X10_by m fo  a1 a2 a3 Q) : Cn l D ca sd yX10_by cX10_by 4 (some .int) { frames := 2, cells := 0, slots := 0, locals := 46 } [.ref (am 0), .int a1, .int a2, .int a3] (wM ca am m kp wa fo ta bo so ce ik td tk bg aa vl bd) (wM ca am m kp wa fo ta bo so ce ik td tk bg aa vl bd) 0 0 (Ri D (fun (r : Int32) (u : (Nat → Int32)) => Q r u) (fun u => (wM ca am m kp wa u ta bo so ce ik td tk bg aa vl bd))) := by
  refine cn_of (by decide) (Nat.le_of_ble_eq_true rfl) (fun k C hR hB _ => ?_)
  have C : Cx D ca sd cX10_by RX10 (some .int) { frames := 2, cells := 0, slots := 0, locals := 46 } k 4 := C
  unfold wp_X10_by at hw
  show J l D k 4 0 0 0 (wM ca am m kp wa fo ta bo so ce ik td tk bg aa vl bd) [(0, .ref (am 0)), (1, .int a1), (2, .int a2), (3, .int a3)] []
  refine j_aload_n C 0 dX10_by_0 rfl ?_
  refine j_iload_n C 1 dX10_by_1 rfl ?_
  refine j_ciZ C (jr_V C lkV_X10_81 (c_X10_isThing am m kp wa fo ta bo so ce ik td tk bg aa vl bd a1 hw) ⟨rfl, rfl, by decide, by decide, by decide, by decide⟩ [0, 1, 2, 3, 4, 5, 6, 7, 8] (by decide) rfl (fx_ro C) 0 10 rfl rfl rfl rfl (Nat.le_of_ble_eq_true rfl) dX10_by_2) (fun r1 u1 hw => ?_)
  refine j_if_eq C 25 dX10_by_5 (by decide) (fun z => ?_) (fun z => ?_)
  · replace hw := hw.1 z
    refine j_aload_n C 0 dX10_by_25 rfl ?_
    refine j_ldc C dX10_by_26 ct_X10_35 ?_
    refine j_ciT C hB 0 9 (fun u2 : (Nat → Int32) => (wM ca am m kp wa u2 ta bo so ce ik td tk bg aa vl bd)) rfl (fun _ => rfl) (jr_V C lkV_X10_37 (c_X10_finds am m kp wa fo ta bo so ce ik td tk bg aa vl bd (-1000000001) hw) ⟨rfl, rfl, by decide, by decide, by decide, by decide⟩ [0, 1, 2, 3, 4, 5, 6, 7, 8] (by decide) rfl (fx_rw C hB [0, 1, 2, 3, 4, 5, 6, 7, 8] rfl) 0 10 rfl rfl rfl rfl (Nat.le_of_ble_eq_true rfl) dX10_by_28) (fun r2 u2 hw => ?_)
    exact j_iret C hB hR u2 rfl dX10_by_31 hw rfl
  · replace hw := hw.2 z
    refine j_iload_n C 2 dX10_by_8 rfl ?_
    refine j_ciZ C (jr_S C lkS_X10_49 (c_X10_isPerson a2 hw) ⟨rfl, rfl, by decide, by decide, by decide, by decide⟩ [] (by decide) rfl (fx_ro C) rfl rfl (Nat.le_of_ble_eq_true rfl) dX10_by_9) (fun r3 u3 hw => ?_)
    refine j_if_eq C 25 dX10_by_12 (by decide) (fun z => ?_) (fun z => ?_)
    · replace hw := hw.1 z
      refine j_aload_n C 0 dX10_by_25 rfl ?_
      refine j_ldc C dX10_by_26 ct_X10_35 ?_
      refine j_ciT C hB 0 9 (fun u4 : (Nat → Int32) => (wM ca am m kp wa u4 ta bo so ce ik td tk bg aa vl bd)) rfl (fun _ => rfl) (jr_V C lkV_X10_37 (c_X10_finds am m kp wa fo ta bo so ce ik td tk bg aa vl bd (-1000000001) hw) ⟨rfl, rfl, by decide, by decide, by decide, by decide⟩ [0, 1, 2, 3, 4, 5, 6, 7, 8] (by decide) rfl (fx_rw C hB [0, 1, 2, 3, 4, 5, 6, 7, 8] rfl) 0 10 rfl rfl rfl rfl (Nat.le_of_ble_eq_true rfl) dX10_by_28) (fun r4 u4 hw => ?_)
      exact j_iret C hB hR u4 rfl dX10_by_31 hw rfl
    · replace hw := hw.2 z
      refine j_iload_n C 3 dX10_by_15 rfl ?_
      refine j_i2l C dX10_by_16 ?_
      refine j_iconst C 0 dX10_by_17 (by decide) ?_
      refine j_iconst C 1 dX10_by_18 (by decide) ?_
      refine j_ciZ C (jr_S C lkS_X10_41 (c_X10_in ((a3).toInt64) 0 1 hw) ⟨rfl, rfl, by decide, by decide, by decide, by decide⟩ [] (by decide) rfl (fx_ro C) rfl rfl (Nat.le_of_ble_eq_true rfl) dX10_by_19) (fun r5 u5 hw => ?_)
      refine j_if_ne C 32 dX10_by_22 (by decide) (fun z => ?_) (fun z => ?_)
      · replace hw := hw.2 z
        refine j_iload_n C 3 dX10_by_32 rfl ?_
        refine j_if_ne C 50 dX10_by_33 (by decide) (fun z => ?_) (fun z => ?_)
        · replace hw := hw.2 z
          refine j_aload_n C 0 dX10_by_50 rfl ?_
          refine j_iload_n C 1 dX10_by_51 rfl ?_
          refine j_aload_n C 0 dX10_by_52 rfl ?_
          refine j_iload_n C 2 dX10_by_53 rfl ?_
          refine j_iconst C 0 dX10_by_54 (by decide) ?_
          refine j_ciZ C (jr_V C lkV_X10_63 (c_X10_his am m kp wa fo ta bo so ce ik td tk bg aa vl bd a2 0 hw) ⟨rfl, rfl, by decide, by decide, by decide, by decide⟩ [0, 1, 2, 3, 4, 5, 6, 7, 8] (by decide) rfl (fx_ro C) 0 10 rfl rfl rfl rfl (Nat.le_of_ble_eq_true rfl) dX10_by_55) (fun r6 u6 hw => ?_)
          refine j_ciZ C (jr_V C lkV_X10_93 (c_X10_bids am m kp wa fo ta bo so ce ik td tk bg aa vl bd a1 r6 hw) ⟨rfl, rfl, by decide, by decide, by decide, by decide⟩ [0, 1, 2, 3, 4, 5, 6, 7, 8] (by decide) rfl (fx_ro C) 0 10 rfl rfl rfl rfl (Nat.le_of_ble_eq_true rfl) dX10_by_58) (fun r7 u7 hw => ?_)
          exact j_iret C hB hR fo rfl dX10_by_61 hw rfl
        · replace hw := hw.1 z
          refine j_aload_n C 0 dX10_by_36 rfl ?_
          refine j_iload_n C 1 dX10_by_37 rfl ?_
          refine j_aload_n C 0 dX10_by_38 rfl ?_
          refine j_iload_n C 2 dX10_by_39 rfl ?_
          refine j_iconst C 0 dX10_by_40 (by decide) ?_
          refine j_ciZ C (jr_V C lkV_X10_63 (c_X10_his am m kp wa fo ta bo so ce ik td tk bg aa vl bd a2 0 hw) ⟨rfl, rfl, by decide, by decide, by decide, by decide⟩ [0, 1, 2, 3, 4, 5, 6, 7, 8] (by decide) rfl (fx_ro C) 0 10 rfl rfl rfl rfl (Nat.le_of_ble_eq_true rfl) dX10_by_41) (fun r8 u8 hw => ?_)
          refine j_ciZ C (jr_V C lkV_X10_90 (c_X10_goesOn am m kp wa fo ta bo so ce ik td tk bg aa vl bd a1 r8 hw) ⟨rfl, rfl, by decide, by decide, by decide, by decide⟩ [0, 1, 2, 3, 4, 5, 6, 7, 8] (by decide) rfl (fx_ro C) 0 10 rfl rfl rfl rfl (Nat.le_of_ble_eq_true rfl) dX10_by_44) (fun r9 u9 hw => ?_)
          refine j_goto C 61 dX10_by_47 (by decide) ?_
          exact j_iret C hB hR fo rfl dX10_by_61 hw rfl
      · replace hw := hw.1 z
        refine j_aload_n C 0 dX10_by_25 rfl ?_
        refine j_ldc C dX10_by_26 ct_X10_35 ?_
        refine j_ciT C hB 0 9 (fun u10 : (Nat → Int32) => (wM ca am m kp wa u10 ta bo so ce ik td tk bg aa vl bd)) rfl (fun _ => rfl) (jr_V C lkV_X10_37 (c_X10_finds am m kp wa fo ta bo so ce ik td tk bg aa vl bd (-1000000001) hw) ⟨rfl, rfl, by decide, by decide, by decide, by decide⟩ [0, 1, 2, 3, 4, 5, 6, 7, 8] (by decide) rfl (fx_rw C hB [0, 1, 2, 3, 4, 5, 6, 7, 8] rfl) 0 10 rfl rfl rfl rfl (Nat.le_of_ble_eq_true rfl) dX10_by_28) (fun r10 u10 hw => ?_)
        exact j_iret C hB hR u10 rfl dX10_by_31 hw rfl
def wp_X10_set (m : Nat → Int32) (fo : Nat → Int32)  (a1 : Int32) (a2 : Int32) (a3 : Int32) (Q : (Int32) → (Nat → Int32) → (Nat → Int32) → Prop) : Prop := wp_X10_isThing m a1 (fun r1 => (r1 = 0 → wp_X10_finds fo (-1000000001) (fun r2 c2_0 => Q r2 m c2_0)) ∧ (¬ (r1 = 0) → wp_X10_in ((a2).toInt64) 1 3 (fun r3 => (r3 = 0 → wp_X10_finds fo (-1000000001) (fun r4 c4_0 => Q r4 m c4_0)) ∧ (¬ (r3 = 0) → (a2 = 2 → (a2 = 1 → wp_X10_in ((a3).toInt64) (-1) 100 (fun r20 => (r20 = 0 → wp_X10_finds fo (-1000000001) (fun r21 c21_0 => Q r21 m c21_0)) ∧ (¬ (r20 = 0) → wp_X10_becomes m ((20 + (4 * a1)) + a2) a3 (fun r22 c22_0 => Q r22 c22_0 fo)))) ∧ (¬ (a2 = 1) → (a2 = 2 → wp_X10_in ((a3).toInt64) (-1) 5 (fun r17 => (r17 = 0 → wp_X10_finds fo (-1000000001) (fun r18 c18_0 => Q r18 m c18_0)) ∧ (¬ (r17 = 0) → wp_X10_becomes m ((20 + (4 * a1)) + a2) a3 (fun r19 c19_0 => Q r19 c19_0 fo)))) ∧ (¬ (a2 = 2) → wp_X10_in ((a3).toInt64) (-1) 999 (fun r14 => (r14 = 0 → wp_X10_finds fo (-1000000001) (fun r15 c15_0 => Q r15 m c15_0)) ∧ (¬ (r14 = 0) → wp_X10_becomes m ((20 + (4 * a1)) + a2) a3 (fun r16 c16_0 => Q r16 c16_0 fo)))))) ∧ (¬ (a2 = 2) → (a2 = 1 → wp_X10_in ((a3).toInt64) 0 100 (fun r11 => (r11 = 0 → wp_X10_finds fo (-1000000001) (fun r12 c12_0 => Q r12 m c12_0)) ∧ (¬ (r11 = 0) → wp_X10_becomes m ((20 + (4 * a1)) + a2) a3 (fun r13 c13_0 => Q r13 c13_0 fo)))) ∧ (¬ (a2 = 1) → (a2 = 2 → wp_X10_in ((a3).toInt64) 0 5 (fun r8 => (r8 = 0 → wp_X10_finds fo (-1000000001) (fun r9 c9_0 => Q r9 m c9_0)) ∧ (¬ (r8 = 0) → wp_X10_becomes m ((20 + (4 * a1)) + a2) a3 (fun r10 c10_0 => Q r10 c10_0 fo)))) ∧ (¬ (a2 = 2) → wp_X10_in ((a3).toInt64) 0 999 (fun r5 => (r5 = 0 → wp_X10_finds fo (-1000000001) (fun r6 c6_0 => Q r6 m c6_0)) ∧ (¬ (r5 = 0) → wp_X10_becomes m ((20 + (4 * a1)) + a2) a3 (fun r7 c7_0 => Q r7 c7_0 fo))))))))))
set_option maxRecDepth 100000 in
set_option maxHeartbeats 8000000 in
theorem c_X10_set {l : Launch} {D : va_G} {ca : Nat → ClassId} {sd : Nat → Nat}  (am : Nat → Nat) (m : Nat → Int32) (kp : Nat → Int32) (wa : Nat → Int32) (fo : Nat → Int32) (ta : Nat → Int32) (bo : Nat → Int32) (so : Nat → Int32) (ce : Nat → Int64) (ik : Int32) (td : Int32) (tk : Int32) (bg : Int32) (aa : Int32) (vl : Int32) (bd : Int32)  (a1 : Int32) (a2 : Int32) (a3 : Int32)  {Q : (Int32) → (Nat → Int32) → (Nat → Int32) → Prop} (hw : wp_X10_set m fo  a1 a2 a3 Q) : Cn l D ca sd yX10_set cX10_set 5 (some .int) { frames := 2, cells := 0, slots := 0, locals := 44 } [.ref (am 0), .int a1, .int a2, .int a3] (wM ca am m kp wa fo ta bo so ce ik td tk bg aa vl bd) (wM ca am m kp wa fo ta bo so ce ik td tk bg aa vl bd) 0 0 (Ri D (fun (r : Int32) (u : (Nat → Int32) × (Nat → Int32)) => Q r u.1 u.2) (fun u => (wM ca am u.1 kp wa u.2 ta bo so ce ik td tk bg aa vl bd))) := by
  refine cn_of (by decide) (Nat.le_of_ble_eq_true rfl) (fun k C hR hB _ => ?_)
  have C : Cx D ca sd cX10_set RX10 (some .int) { frames := 2, cells := 0, slots := 0, locals := 44 } k 5 := C
  unfold wp_X10_set at hw
  show J l D k 5 0 0 0 (wM ca am m kp wa fo ta bo so ce ik td tk bg aa vl bd) [(0, .ref (am 0)), (1, .int a1), (2, .int a2), (3, .int a3)] []
  refine j_aload_n C 0 dX10_set_0 rfl ?_
  refine j_iload_n C 1 dX10_set_1 rfl ?_
  refine j_ciZ C (jr_V C lkV_X10_81 (c_X10_isThing am m kp wa fo ta bo so ce ik td tk bg aa vl bd a1 hw) ⟨rfl, rfl, by decide, by decide, by decide, by decide⟩ [0, 1, 2, 3, 4, 5, 6, 7, 8] (by decide) rfl (fx_ro C) 0 10 rfl rfl rfl rfl (Nat.le_of_ble_eq_true rfl) dX10_set_2) (fun r1 u1 hw => ?_)
  refine j_if_eq C 62 dX10_set_5 (by decide) (fun z => ?_) (fun z => ?_)
  · replace hw := hw.1 z
    refine j_iconst C 0 dX10_set_62 (by decide) ?_
    refine j_istore C [(4, .int 0), (0, .ref (am 0)), (1, .int a1), (2, .int a2), (3, .int a3)] dX10_set_63 (by decide) rfl ?_
    refine j_iload C 0 dX10_set_65 rfl ?_
    refine j_if_eq C 86 dX10_set_67 (by decide) (fun _ => ?_) (fun z => absurd z (by decide))
    refine j_aload_n C 1 dX10_set_86 rfl ?_
    refine j_ldc C dX10_set_87 ct_X10_35 ?_
    refine j_ciT C hB 0 9 (fun u2 : (Nat → Int32) => (wM ca am m kp wa u2 ta bo so ce ik td tk bg aa vl bd)) rfl (fun _ => rfl) (jr_V C lkV_X10_37 (c_X10_finds am m kp wa fo ta bo so ce ik td tk bg aa vl bd (-1000000001) hw) ⟨rfl, rfl, by decide, by decide, by decide, by decide⟩ [0, 1, 2, 3, 4, 5, 6, 7, 8] (by decide) rfl (fx_rw C hB [0, 1, 2, 3, 4, 5, 6, 7, 8] rfl) 0 10 rfl rfl rfl rfl (Nat.le_of_ble_eq_true rfl) dX10_set_89) (fun r2 u2 hw => ?_)
    exact j_iret C hB hR (m, u2) rfl dX10_set_92 hw rfl
  · replace hw := hw.2 z
    refine j_iload_n C 2 dX10_set_8 rfl ?_
    refine j_i2l C dX10_set_9 ?_
    refine j_iconst C 1 dX10_set_10 (by decide) ?_
    refine j_iconst C 3 dX10_set_11 (by decide) ?_
    refine j_ciZ C (jr_S C lkS_X10_41 (c_X10_in ((a2).toInt64) 1 3 hw) ⟨rfl, rfl, by decide, by decide, by decide, by decide⟩ [] (by decide) rfl (fx_ro C) rfl rfl (Nat.le_of_ble_eq_true rfl) dX10_set_12) (fun r3 u3 hw => ?_)
    refine j_if_eq C 62 dX10_set_15 (by decide) (fun z => ?_) (fun z => ?_)
    · replace hw := hw.1 z
      refine j_iconst C 0 dX10_set_62 (by decide) ?_
      refine j_istore C [(4, .int 0), (0, .ref (am 0)), (1, .int a1), (2, .int a2), (3, .int a3)] dX10_set_63 (by decide) rfl ?_
      refine j_iload C 0 dX10_set_65 rfl ?_
      refine j_if_eq C 86 dX10_set_67 (by decide) (fun _ => ?_) (fun z => absurd z (by decide))
      refine j_aload_n C 1 dX10_set_86 rfl ?_
      refine j_ldc C dX10_set_87 ct_X10_35 ?_
      refine j_ciT C hB 0 9 (fun u4 : (Nat → Int32) => (wM ca am m kp wa u4 ta bo so ce ik td tk bg aa vl bd)) rfl (fun _ => rfl) (jr_V C lkV_X10_37 (c_X10_finds am m kp wa fo ta bo so ce ik td tk bg aa vl bd (-1000000001) hw) ⟨rfl, rfl, by decide, by decide, by decide, by decide⟩ [0, 1, 2, 3, 4, 5, 6, 7, 8] (by decide) rfl (fx_rw C hB [0, 1, 2, 3, 4, 5, 6, 7, 8] rfl) 0 10 rfl rfl rfl rfl (Nat.le_of_ble_eq_true rfl) dX10_set_89) (fun r4 u4 hw => ?_)
      exact j_iret C hB hR (m, u4) rfl dX10_set_92 hw rfl
    · replace hw := hw.2 z
      refine j_iload_n C 3 dX10_set_18 rfl ?_
      refine j_i2l C dX10_set_19 ?_
      refine j_iload_n C 2 dX10_set_20 rfl ?_
      refine j_iconst C 2 dX10_set_21 (by decide) ?_
      refine j_icmp_ne C 29 dX10_set_22 (by decide) (fun z => ?_) (fun z => ?_)
      · replace hw := hw.2 z
        refine j_iconst C 0 dX10_set_29 (by decide) ?_
        refine j_iload_n C 2 dX10_set_30 rfl ?_
        refine j_iconst C 1 dX10_set_31 (by decide) ?_
        refine j_icmp_ne C 40 dX10_set_32 (by decide) (fun z => ?_) (fun z => ?_)
        · replace hw := hw.2 z
          refine j_iload_n C 2 dX10_set_40 rfl ?_
          refine j_iconst C 2 dX10_set_41 (by decide) ?_
          refine j_icmp_ne C 49 dX10_set_42 (by decide) (fun z => ?_) (fun z => ?_)
          · replace hw := hw.2 z
            refine j_sipush C 999 dX10_set_49 (by decide) ?_
            refine j_ciZ C (jr_S C lkS_X10_41 (c_X10_in ((a3).toInt64) 0 999 hw) ⟨rfl, rfl, by decide, by decide, by decide, by decide⟩ [] (by decide) rfl (fx_ro C) rfl rfl (Nat.le_of_ble_eq_true rfl) dX10_set_52) (fun r5 u5 hw => ?_)
            refine j_if_eq C 62 dX10_set_55 (by decide) (fun z => ?_) (fun z => ?_)
            · replace hw := hw.1 z
              refine j_iconst C 0 dX10_set_62 (by decide) ?_
              refine j_istore C [(4, .int 0), (0, .ref (am 0)), (1, .int a1), (2, .int a2), (3, .int a3)] dX10_set_63 (by decide) rfl ?_
              refine j_iload C 0 dX10_set_65 rfl ?_
              refine j_if_eq C 86 dX10_set_67 (by decide) (fun _ => ?_) (fun z => absurd z (by decide))
              refine j_aload_n C 1 dX10_set_86 rfl ?_
              refine j_ldc C dX10_set_87 ct_X10_35 ?_
              refine j_ciT C hB 0 9 (fun u6 : (Nat → Int32) => (wM ca am m kp wa u6 ta bo so ce ik td tk bg aa vl bd)) rfl (fun _ => rfl) (jr_V C lkV_X10_37 (c_X10_finds am m kp wa fo ta bo so ce ik td tk bg aa vl bd (-1000000001) hw) ⟨rfl, rfl, by decide, by decide, by decide, by decide⟩ [0, 1, 2, 3, 4, 5, 6, 7, 8] (by decide) rfl (fx_rw C hB [0, 1, 2, 3, 4, 5, 6, 7, 8] rfl) 0 10 rfl rfl rfl rfl (Nat.le_of_ble_eq_true rfl) dX10_set_89) (fun r6 u6 hw => ?_)
              exact j_iret C hB hR (m, u6) rfl dX10_set_92 hw rfl
            · replace hw := hw.2 z
              refine j_iconst C 1 dX10_set_58 (by decide) ?_
              refine j_goto C 63 dX10_set_59 (by decide) ?_
              refine j_istore C [(4, .int 1), (0, .ref (am 0)), (1, .int a1), (2, .int a2), (3, .int a3)] dX10_set_63 (by decide) rfl ?_
              refine j_iload C 0 dX10_set_65 rfl ?_
              refine j_if_eq C 86 dX10_set_67 (by decide) (fun z => absurd z (by decide)) (fun _ => ?_)
              refine j_aload_n C 1 dX10_set_70 rfl ?_
              refine j_bipush C 20 dX10_set_71 (by decide) ?_
              refine j_iconst C 4 dX10_set_73 (by decide) ?_
              refine j_iload_n C 2 dX10_set_74 rfl ?_
              refine j_imul C dX10_set_75 ?_
              refine j_iadd C dX10_set_76 ?_
              refine j_iload_n C 3 dX10_set_77 rfl ?_
              refine j_iadd C dX10_set_78 ?_
              refine j_iload_n C 4 dX10_set_79 rfl ?_
              refine j_ciT C hB 0 9 (fun u7 : (Nat → Int32) => (wM ca am u7 kp wa fo ta bo so ce ik td tk bg aa vl bd)) rfl (fun _ => rfl) (jr_V C lkV_X10_57 (c_X10_becomes am m kp wa fo ta bo so ce ik td tk bg aa vl bd ((20 + (4 * a1)) + a2) a3 hw) ⟨rfl, rfl, by decide, by decide, by decide, by decide⟩ [0, 1, 2, 3, 4, 5, 6, 7, 8] (by decide) rfl (fx_rw C hB [0, 1, 2, 3, 4, 5, 6, 7, 8] rfl) 0 10 rfl rfl rfl rfl (Nat.le_of_ble_eq_true rfl) dX10_set_80) (fun r7 u7 hw => ?_)
              refine j_goto C 92 dX10_set_83 (by decide) ?_
              exact j_iret C hB hR (u7, fo) rfl dX10_set_92 hw rfl
          · replace hw := hw.1 z
            refine j_iconst C 5 dX10_set_45 (by decide) ?_
            refine j_goto C 52 dX10_set_46 (by decide) ?_
            refine j_ciZ C (jr_S C lkS_X10_41 (c_X10_in ((a3).toInt64) 0 5 hw) ⟨rfl, rfl, by decide, by decide, by decide, by decide⟩ [] (by decide) rfl (fx_ro C) rfl rfl (Nat.le_of_ble_eq_true rfl) dX10_set_52) (fun r8 u8 hw => ?_)
            refine j_if_eq C 62 dX10_set_55 (by decide) (fun z => ?_) (fun z => ?_)
            · replace hw := hw.1 z
              refine j_iconst C 0 dX10_set_62 (by decide) ?_
              refine j_istore C [(4, .int 0), (0, .ref (am 0)), (1, .int a1), (2, .int a2), (3, .int a3)] dX10_set_63 (by decide) rfl ?_
              refine j_iload C 0 dX10_set_65 rfl ?_
              refine j_if_eq C 86 dX10_set_67 (by decide) (fun _ => ?_) (fun z => absurd z (by decide))
              refine j_aload_n C 1 dX10_set_86 rfl ?_
              refine j_ldc C dX10_set_87 ct_X10_35 ?_
              refine j_ciT C hB 0 9 (fun u9 : (Nat → Int32) => (wM ca am m kp wa u9 ta bo so ce ik td tk bg aa vl bd)) rfl (fun _ => rfl) (jr_V C lkV_X10_37 (c_X10_finds am m kp wa fo ta bo so ce ik td tk bg aa vl bd (-1000000001) hw) ⟨rfl, rfl, by decide, by decide, by decide, by decide⟩ [0, 1, 2, 3, 4, 5, 6, 7, 8] (by decide) rfl (fx_rw C hB [0, 1, 2, 3, 4, 5, 6, 7, 8] rfl) 0 10 rfl rfl rfl rfl (Nat.le_of_ble_eq_true rfl) dX10_set_89) (fun r9 u9 hw => ?_)
              exact j_iret C hB hR (m, u9) rfl dX10_set_92 hw rfl
            · replace hw := hw.2 z
              refine j_iconst C 1 dX10_set_58 (by decide) ?_
              refine j_goto C 63 dX10_set_59 (by decide) ?_
              refine j_istore C [(4, .int 1), (0, .ref (am 0)), (1, .int a1), (2, .int a2), (3, .int a3)] dX10_set_63 (by decide) rfl ?_
              refine j_iload C 0 dX10_set_65 rfl ?_
              refine j_if_eq C 86 dX10_set_67 (by decide) (fun z => absurd z (by decide)) (fun _ => ?_)
              refine j_aload_n C 1 dX10_set_70 rfl ?_
              refine j_bipush C 20 dX10_set_71 (by decide) ?_
              refine j_iconst C 4 dX10_set_73 (by decide) ?_
              refine j_iload_n C 2 dX10_set_74 rfl ?_
              refine j_imul C dX10_set_75 ?_
              refine j_iadd C dX10_set_76 ?_
              refine j_iload_n C 3 dX10_set_77 rfl ?_
              refine j_iadd C dX10_set_78 ?_
              refine j_iload_n C 4 dX10_set_79 rfl ?_
              refine j_ciT C hB 0 9 (fun u10 : (Nat → Int32) => (wM ca am u10 kp wa fo ta bo so ce ik td tk bg aa vl bd)) rfl (fun _ => rfl) (jr_V C lkV_X10_57 (c_X10_becomes am m kp wa fo ta bo so ce ik td tk bg aa vl bd ((20 + (4 * a1)) + a2) a3 hw) ⟨rfl, rfl, by decide, by decide, by decide, by decide⟩ [0, 1, 2, 3, 4, 5, 6, 7, 8] (by decide) rfl (fx_rw C hB [0, 1, 2, 3, 4, 5, 6, 7, 8] rfl) 0 10 rfl rfl rfl rfl (Nat.le_of_ble_eq_true rfl) dX10_set_80) (fun r10 u10 hw => ?_)
              refine j_goto C 92 dX10_set_83 (by decide) ?_
              exact j_iret C hB hR (u10, fo) rfl dX10_set_92 hw rfl
        · replace hw := hw.1 z
          refine j_bipush C 100 dX10_set_35 (by decide) ?_
          refine j_goto C 52 dX10_set_37 (by decide) ?_
          refine j_ciZ C (jr_S C lkS_X10_41 (c_X10_in ((a3).toInt64) 0 100 hw) ⟨rfl, rfl, by decide, by decide, by decide, by decide⟩ [] (by decide) rfl (fx_ro C) rfl rfl (Nat.le_of_ble_eq_true rfl) dX10_set_52) (fun r11 u11 hw => ?_)
          refine j_if_eq C 62 dX10_set_55 (by decide) (fun z => ?_) (fun z => ?_)
          · replace hw := hw.1 z
            refine j_iconst C 0 dX10_set_62 (by decide) ?_
            refine j_istore C [(4, .int 0), (0, .ref (am 0)), (1, .int a1), (2, .int a2), (3, .int a3)] dX10_set_63 (by decide) rfl ?_
            refine j_iload C 0 dX10_set_65 rfl ?_
            refine j_if_eq C 86 dX10_set_67 (by decide) (fun _ => ?_) (fun z => absurd z (by decide))
            refine j_aload_n C 1 dX10_set_86 rfl ?_
            refine j_ldc C dX10_set_87 ct_X10_35 ?_
            refine j_ciT C hB 0 9 (fun u12 : (Nat → Int32) => (wM ca am m kp wa u12 ta bo so ce ik td tk bg aa vl bd)) rfl (fun _ => rfl) (jr_V C lkV_X10_37 (c_X10_finds am m kp wa fo ta bo so ce ik td tk bg aa vl bd (-1000000001) hw) ⟨rfl, rfl, by decide, by decide, by decide, by decide⟩ [0, 1, 2, 3, 4, 5, 6, 7, 8] (by decide) rfl (fx_rw C hB [0, 1, 2, 3, 4, 5, 6, 7, 8] rfl) 0 10 rfl rfl rfl rfl (Nat.le_of_ble_eq_true rfl) dX10_set_89) (fun r12 u12 hw => ?_)
            exact j_iret C hB hR (m, u12) rfl dX10_set_92 hw rfl
          · replace hw := hw.2 z
            refine j_iconst C 1 dX10_set_58 (by decide) ?_
            refine j_goto C 63 dX10_set_59 (by decide) ?_
            refine j_istore C [(4, .int 1), (0, .ref (am 0)), (1, .int a1), (2, .int a2), (3, .int a3)] dX10_set_63 (by decide) rfl ?_
            refine j_iload C 0 dX10_set_65 rfl ?_
            refine j_if_eq C 86 dX10_set_67 (by decide) (fun z => absurd z (by decide)) (fun _ => ?_)
            refine j_aload_n C 1 dX10_set_70 rfl ?_
            refine j_bipush C 20 dX10_set_71 (by decide) ?_
            refine j_iconst C 4 dX10_set_73 (by decide) ?_
            refine j_iload_n C 2 dX10_set_74 rfl ?_
            refine j_imul C dX10_set_75 ?_
            refine j_iadd C dX10_set_76 ?_
            refine j_iload_n C 3 dX10_set_77 rfl ?_
            refine j_iadd C dX10_set_78 ?_
            refine j_iload_n C 4 dX10_set_79 rfl ?_
            refine j_ciT C hB 0 9 (fun u13 : (Nat → Int32) => (wM ca am u13 kp wa fo ta bo so ce ik td tk bg aa vl bd)) rfl (fun _ => rfl) (jr_V C lkV_X10_57 (c_X10_becomes am m kp wa fo ta bo so ce ik td tk bg aa vl bd ((20 + (4 * a1)) + a2) a3 hw) ⟨rfl, rfl, by decide, by decide, by decide, by decide⟩ [0, 1, 2, 3, 4, 5, 6, 7, 8] (by decide) rfl (fx_rw C hB [0, 1, 2, 3, 4, 5, 6, 7, 8] rfl) 0 10 rfl rfl rfl rfl (Nat.le_of_ble_eq_true rfl) dX10_set_80) (fun r13 u13 hw => ?_)
            refine j_goto C 92 dX10_set_83 (by decide) ?_
            exact j_iret C hB hR (u13, fo) rfl dX10_set_92 hw rfl
      · replace hw := hw.1 z
        refine j_iconst C (-1) dX10_set_25 (by decide) ?_
        refine j_goto C 30 dX10_set_26 (by decide) ?_
        refine j_iload_n C 2 dX10_set_30 rfl ?_
        refine j_iconst C 1 dX10_set_31 (by decide) ?_
        refine j_icmp_ne C 40 dX10_set_32 (by decide) (fun z => ?_) (fun z => ?_)
        · replace hw := hw.2 z
          refine j_iload_n C 2 dX10_set_40 rfl ?_
          refine j_iconst C 2 dX10_set_41 (by decide) ?_
          refine j_icmp_ne C 49 dX10_set_42 (by decide) (fun z => ?_) (fun z => ?_)
          · replace hw := hw.2 z
            refine j_sipush C 999 dX10_set_49 (by decide) ?_
            refine j_ciZ C (jr_S C lkS_X10_41 (c_X10_in ((a3).toInt64) (-1) 999 hw) ⟨rfl, rfl, by decide, by decide, by decide, by decide⟩ [] (by decide) rfl (fx_ro C) rfl rfl (Nat.le_of_ble_eq_true rfl) dX10_set_52) (fun r14 u14 hw => ?_)
            refine j_if_eq C 62 dX10_set_55 (by decide) (fun z => ?_) (fun z => ?_)
            · replace hw := hw.1 z
              refine j_iconst C 0 dX10_set_62 (by decide) ?_
              refine j_istore C [(4, .int 0), (0, .ref (am 0)), (1, .int a1), (2, .int a2), (3, .int a3)] dX10_set_63 (by decide) rfl ?_
              refine j_iload C 0 dX10_set_65 rfl ?_
              refine j_if_eq C 86 dX10_set_67 (by decide) (fun _ => ?_) (fun z => absurd z (by decide))
              refine j_aload_n C 1 dX10_set_86 rfl ?_
              refine j_ldc C dX10_set_87 ct_X10_35 ?_
              refine j_ciT C hB 0 9 (fun u15 : (Nat → Int32) => (wM ca am m kp wa u15 ta bo so ce ik td tk bg aa vl bd)) rfl (fun _ => rfl) (jr_V C lkV_X10_37 (c_X10_finds am m kp wa fo ta bo so ce ik td tk bg aa vl bd (-1000000001) hw) ⟨rfl, rfl, by decide, by decide, by decide, by decide⟩ [0, 1, 2, 3, 4, 5, 6, 7, 8] (by decide) rfl (fx_rw C hB [0, 1, 2, 3, 4, 5, 6, 7, 8] rfl) 0 10 rfl rfl rfl rfl (Nat.le_of_ble_eq_true rfl) dX10_set_89) (fun r15 u15 hw => ?_)
              exact j_iret C hB hR (m, u15) rfl dX10_set_92 hw rfl
            · replace hw := hw.2 z
              refine j_iconst C 1 dX10_set_58 (by decide) ?_
              refine j_goto C 63 dX10_set_59 (by decide) ?_
              refine j_istore C [(4, .int 1), (0, .ref (am 0)), (1, .int a1), (2, .int a2), (3, .int a3)] dX10_set_63 (by decide) rfl ?_
              refine j_iload C 0 dX10_set_65 rfl ?_
              refine j_if_eq C 86 dX10_set_67 (by decide) (fun z => absurd z (by decide)) (fun _ => ?_)
              refine j_aload_n C 1 dX10_set_70 rfl ?_
              refine j_bipush C 20 dX10_set_71 (by decide) ?_
              refine j_iconst C 4 dX10_set_73 (by decide) ?_
              refine j_iload_n C 2 dX10_set_74 rfl ?_
              refine j_imul C dX10_set_75 ?_
              refine j_iadd C dX10_set_76 ?_
              refine j_iload_n C 3 dX10_set_77 rfl ?_
              refine j_iadd C dX10_set_78 ?_
              refine j_iload_n C 4 dX10_set_79 rfl ?_
              refine j_ciT C hB 0 9 (fun u16 : (Nat → Int32) => (wM ca am u16 kp wa fo ta bo so ce ik td tk bg aa vl bd)) rfl (fun _ => rfl) (jr_V C lkV_X10_57 (c_X10_becomes am m kp wa fo ta bo so ce ik td tk bg aa vl bd ((20 + (4 * a1)) + a2) a3 hw) ⟨rfl, rfl, by decide, by decide, by decide, by decide⟩ [0, 1, 2, 3, 4, 5, 6, 7, 8] (by decide) rfl (fx_rw C hB [0, 1, 2, 3, 4, 5, 6, 7, 8] rfl) 0 10 rfl rfl rfl rfl (Nat.le_of_ble_eq_true rfl) dX10_set_80) (fun r16 u16 hw => ?_)
              refine j_goto C 92 dX10_set_83 (by decide) ?_
              exact j_iret C hB hR (u16, fo) rfl dX10_set_92 hw rfl
          · replace hw := hw.1 z
            refine j_iconst C 5 dX10_set_45 (by decide) ?_
            refine j_goto C 52 dX10_set_46 (by decide) ?_
            refine j_ciZ C (jr_S C lkS_X10_41 (c_X10_in ((a3).toInt64) (-1) 5 hw) ⟨rfl, rfl, by decide, by decide, by decide, by decide⟩ [] (by decide) rfl (fx_ro C) rfl rfl (Nat.le_of_ble_eq_true rfl) dX10_set_52) (fun r17 u17 hw => ?_)
            refine j_if_eq C 62 dX10_set_55 (by decide) (fun z => ?_) (fun z => ?_)
            · replace hw := hw.1 z
              refine j_iconst C 0 dX10_set_62 (by decide) ?_
              refine j_istore C [(4, .int 0), (0, .ref (am 0)), (1, .int a1), (2, .int a2), (3, .int a3)] dX10_set_63 (by decide) rfl ?_
              refine j_iload C 0 dX10_set_65 rfl ?_
              refine j_if_eq C 86 dX10_set_67 (by decide) (fun _ => ?_) (fun z => absurd z (by decide))
              refine j_aload_n C 1 dX10_set_86 rfl ?_
              refine j_ldc C dX10_set_87 ct_X10_35 ?_
              refine j_ciT C hB 0 9 (fun u18 : (Nat → Int32) => (wM ca am m kp wa u18 ta bo so ce ik td tk bg aa vl bd)) rfl (fun _ => rfl) (jr_V C lkV_X10_37 (c_X10_finds am m kp wa fo ta bo so ce ik td tk bg aa vl bd (-1000000001) hw) ⟨rfl, rfl, by decide, by decide, by decide, by decide⟩ [0, 1, 2, 3, 4, 5, 6, 7, 8] (by decide) rfl (fx_rw C hB [0, 1, 2, 3, 4, 5, 6, 7, 8] rfl) 0 10 rfl rfl rfl rfl (Nat.le_of_ble_eq_true rfl) dX10_set_89) (fun r18 u18 hw => ?_)
              exact j_iret C hB hR (m, u18) rfl dX10_set_92 hw rfl
            · replace hw := hw.2 z
              refine j_iconst C 1 dX10_set_58 (by decide) ?_
              refine j_goto C 63 dX10_set_59 (by decide) ?_
              refine j_istore C [(4, .int 1), (0, .ref (am 0)), (1, .int a1), (2, .int a2), (3, .int a3)] dX10_set_63 (by decide) rfl ?_
              refine j_iload C 0 dX10_set_65 rfl ?_
              refine j_if_eq C 86 dX10_set_67 (by decide) (fun z => absurd z (by decide)) (fun _ => ?_)
              refine j_aload_n C 1 dX10_set_70 rfl ?_
              refine j_bipush C 20 dX10_set_71 (by decide) ?_
              refine j_iconst C 4 dX10_set_73 (by decide) ?_
              refine j_iload_n C 2 dX10_set_74 rfl ?_
              refine j_imul C dX10_set_75 ?_
              refine j_iadd C dX10_set_76 ?_
              refine j_iload_n C 3 dX10_set_77 rfl ?_
              refine j_iadd C dX10_set_78 ?_
              refine j_iload_n C 4 dX10_set_79 rfl ?_
              refine j_ciT C hB 0 9 (fun u19 : (Nat → Int32) => (wM ca am u19 kp wa fo ta bo so ce ik td tk bg aa vl bd)) rfl (fun _ => rfl) (jr_V C lkV_X10_57 (c_X10_becomes am m kp wa fo ta bo so ce ik td tk bg aa vl bd ((20 + (4 * a1)) + a2) a3 hw) ⟨rfl, rfl, by decide, by decide, by decide, by decide⟩ [0, 1, 2, 3, 4, 5, 6, 7, 8] (by decide) rfl (fx_rw C hB [0, 1, 2, 3, 4, 5, 6, 7, 8] rfl) 0 10 rfl rfl rfl rfl (Nat.le_of_ble_eq_true rfl) dX10_set_80) (fun r19 u19 hw => ?_)
              refine j_goto C 92 dX10_set_83 (by decide) ?_
              exact j_iret C hB hR (u19, fo) rfl dX10_set_92 hw rfl
        · replace hw := hw.1 z
          refine j_bipush C 100 dX10_set_35 (by decide) ?_
          refine j_goto C 52 dX10_set_37 (by decide) ?_
          refine j_ciZ C (jr_S C lkS_X10_41 (c_X10_in ((a3).toInt64) (-1) 100 hw) ⟨rfl, rfl, by decide, by decide, by decide, by decide⟩ [] (by decide) rfl (fx_ro C) rfl rfl (Nat.le_of_ble_eq_true rfl) dX10_set_52) (fun r20 u20 hw => ?_)
          refine j_if_eq C 62 dX10_set_55 (by decide) (fun z => ?_) (fun z => ?_)
          · replace hw := hw.1 z
            refine j_iconst C 0 dX10_set_62 (by decide) ?_
            refine j_istore C [(4, .int 0), (0, .ref (am 0)), (1, .int a1), (2, .int a2), (3, .int a3)] dX10_set_63 (by decide) rfl ?_
            refine j_iload C 0 dX10_set_65 rfl ?_
            refine j_if_eq C 86 dX10_set_67 (by decide) (fun _ => ?_) (fun z => absurd z (by decide))
            refine j_aload_n C 1 dX10_set_86 rfl ?_
            refine j_ldc C dX10_set_87 ct_X10_35 ?_
            refine j_ciT C hB 0 9 (fun u21 : (Nat → Int32) => (wM ca am m kp wa u21 ta bo so ce ik td tk bg aa vl bd)) rfl (fun _ => rfl) (jr_V C lkV_X10_37 (c_X10_finds am m kp wa fo ta bo so ce ik td tk bg aa vl bd (-1000000001) hw) ⟨rfl, rfl, by decide, by decide, by decide, by decide⟩ [0, 1, 2, 3, 4, 5, 6, 7, 8] (by decide) rfl (fx_rw C hB [0, 1, 2, 3, 4, 5, 6, 7, 8] rfl) 0 10 rfl rfl rfl rfl (Nat.le_of_ble_eq_true rfl) dX10_set_89) (fun r21 u21 hw => ?_)
            exact j_iret C hB hR (m, u21) rfl dX10_set_92 hw rfl
          · replace hw := hw.2 z
            refine j_iconst C 1 dX10_set_58 (by decide) ?_
            refine j_goto C 63 dX10_set_59 (by decide) ?_
            refine j_istore C [(4, .int 1), (0, .ref (am 0)), (1, .int a1), (2, .int a2), (3, .int a3)] dX10_set_63 (by decide) rfl ?_
            refine j_iload C 0 dX10_set_65 rfl ?_
            refine j_if_eq C 86 dX10_set_67 (by decide) (fun z => absurd z (by decide)) (fun _ => ?_)
            refine j_aload_n C 1 dX10_set_70 rfl ?_
            refine j_bipush C 20 dX10_set_71 (by decide) ?_
            refine j_iconst C 4 dX10_set_73 (by decide) ?_
            refine j_iload_n C 2 dX10_set_74 rfl ?_
            refine j_imul C dX10_set_75 ?_
            refine j_iadd C dX10_set_76 ?_
            refine j_iload_n C 3 dX10_set_77 rfl ?_
            refine j_iadd C dX10_set_78 ?_
            refine j_iload_n C 4 dX10_set_79 rfl ?_
            refine j_ciT C hB 0 9 (fun u22 : (Nat → Int32) => (wM ca am u22 kp wa fo ta bo so ce ik td tk bg aa vl bd)) rfl (fun _ => rfl) (jr_V C lkV_X10_57 (c_X10_becomes am m kp wa fo ta bo so ce ik td tk bg aa vl bd ((20 + (4 * a1)) + a2) a3 hw) ⟨rfl, rfl, by decide, by decide, by decide, by decide⟩ [0, 1, 2, 3, 4, 5, 6, 7, 8] (by decide) rfl (fx_rw C hB [0, 1, 2, 3, 4, 5, 6, 7, 8] rfl) 0 10 rfl rfl rfl rfl (Nat.le_of_ble_eq_true rfl) dX10_set_80) (fun r22 u22 hw => ?_)
            refine j_goto C 92 dX10_set_83 (by decide) ?_
            exact j_iret C hB hR (u22, fo) rfl dX10_set_92 hw rfl
def wp_X10_turn (m : Nat → Int32) (fo : Nat → Int32)  (a1 : Int32) (a2 : Int32) (Q : (Int32) → (Nat → Int32) → (Nat → Int32) → Prop) : Prop := wp_X10_isThing m a1 (fun r1 => (r1 = 0 → wp_X10_finds fo (-1000000001) (fun r2 c2_0 => Q r2 m c2_0)) ∧ (¬ (r1 = 0) → wp_X10_in ((a2).toInt64) 0 5 (fun r3 => (r3 = 0 → wp_X10_finds fo (-1000000001) (fun r4 c4_0 => Q r4 m c4_0)) ∧ (¬ (r3 = 0) → wp_X10_becomes m (20 + (4 * a1)) a2 (fun r5 c5_0 => Q r5 c5_0 fo)))))
set_option maxRecDepth 100000 in
set_option maxHeartbeats 8000000 in
theorem c_X10_turn {l : Launch} {D : va_G} {ca : Nat → ClassId} {sd : Nat → Nat}  (am : Nat → Nat) (m : Nat → Int32) (kp : Nat → Int32) (wa : Nat → Int32) (fo : Nat → Int32) (ta : Nat → Int32) (bo : Nat → Int32) (so : Nat → Int32) (ce : Nat → Int64) (ik : Int32) (td : Int32) (tk : Int32) (bg : Int32) (aa : Int32) (vl : Int32) (bd : Int32)  (a1 : Int32) (a2 : Int32)  {Q : (Int32) → (Nat → Int32) → (Nat → Int32) → Prop} (hw : wp_X10_turn m fo  a1 a2 Q) : Cn l D ca sd yX10_turn cX10_turn 3 (some .int) { frames := 2, cells := 0, slots := 0, locals := 44 } [.ref (am 0), .int a1, .int a2] (wM ca am m kp wa fo ta bo so ce ik td tk bg aa vl bd) (wM ca am m kp wa fo ta bo so ce ik td tk bg aa vl bd) 0 0 (Ri D (fun (r : Int32) (u : (Nat → Int32) × (Nat → Int32)) => Q r u.1 u.2) (fun u => (wM ca am u.1 kp wa u.2 ta bo so ce ik td tk bg aa vl bd))) := by
  refine cn_of (by decide) (Nat.le_of_ble_eq_true rfl) (fun k C hR hB _ => ?_)
  have C : Cx D ca sd cX10_turn RX10 (some .int) { frames := 2, cells := 0, slots := 0, locals := 44 } k 3 := C
  unfold wp_X10_turn at hw
  show J l D k 3 0 0 0 (wM ca am m kp wa fo ta bo so ce ik td tk bg aa vl bd) [(0, .ref (am 0)), (1, .int a1), (2, .int a2)] []
  refine j_aload_n C 0 dX10_turn_0 rfl ?_
  refine j_iload_n C 1 dX10_turn_1 rfl ?_
  refine j_ciZ C (jr_V C lkV_X10_81 (c_X10_isThing am m kp wa fo ta bo so ce ik td tk bg aa vl bd a1 hw) ⟨rfl, rfl, by decide, by decide, by decide, by decide⟩ [0, 1, 2, 3, 4, 5, 6, 7, 8] (by decide) rfl (fx_ro C) 0 10 rfl rfl rfl rfl (Nat.le_of_ble_eq_true rfl) dX10_turn_2) (fun r1 u1 hw => ?_)
  refine j_if_eq C 32 dX10_turn_5 (by decide) (fun z => ?_) (fun z => ?_)
  · replace hw := hw.1 z
    refine j_aload_n C 0 dX10_turn_32 rfl ?_
    refine j_ldc C dX10_turn_33 ct_X10_35 ?_
    refine j_ciT C hB 0 9 (fun u2 : (Nat → Int32) => (wM ca am m kp wa u2 ta bo so ce ik td tk bg aa vl bd)) rfl (fun _ => rfl) (jr_V C lkV_X10_37 (c_X10_finds am m kp wa fo ta bo so ce ik td tk bg aa vl bd (-1000000001) hw) ⟨rfl, rfl, by decide, by decide, by decide, by decide⟩ [0, 1, 2, 3, 4, 5, 6, 7, 8] (by decide) rfl (fx_rw C hB [0, 1, 2, 3, 4, 5, 6, 7, 8] rfl) 0 10 rfl rfl rfl rfl (Nat.le_of_ble_eq_true rfl) dX10_turn_35) (fun r2 u2 hw => ?_)
    exact j_iret C hB hR (m, u2) rfl dX10_turn_38 hw rfl
  · replace hw := hw.2 z
    refine j_iload_n C 2 dX10_turn_8 rfl ?_
    refine j_i2l C dX10_turn_9 ?_
    refine j_iconst C 0 dX10_turn_10 (by decide) ?_
    refine j_iconst C 5 dX10_turn_11 (by decide) ?_
    refine j_ciZ C (jr_S C lkS_X10_41 (c_X10_in ((a2).toInt64) 0 5 hw) ⟨rfl, rfl, by decide, by decide, by decide, by decide⟩ [] (by decide) rfl (fx_ro C) rfl rfl (Nat.le_of_ble_eq_true rfl) dX10_turn_12) (fun r3 u3 hw => ?_)
    refine j_if_eq C 32 dX10_turn_15 (by decide) (fun z => ?_) (fun z => ?_)
    · replace hw := hw.1 z
      refine j_aload_n C 0 dX10_turn_32 rfl ?_
      refine j_ldc C dX10_turn_33 ct_X10_35 ?_
      refine j_ciT C hB 0 9 (fun u4 : (Nat → Int32) => (wM ca am m kp wa u4 ta bo so ce ik td tk bg aa vl bd)) rfl (fun _ => rfl) (jr_V C lkV_X10_37 (c_X10_finds am m kp wa fo ta bo so ce ik td tk bg aa vl bd (-1000000001) hw) ⟨rfl, rfl, by decide, by decide, by decide, by decide⟩ [0, 1, 2, 3, 4, 5, 6, 7, 8] (by decide) rfl (fx_rw C hB [0, 1, 2, 3, 4, 5, 6, 7, 8] rfl) 0 10 rfl rfl rfl rfl (Nat.le_of_ble_eq_true rfl) dX10_turn_35) (fun r4 u4 hw => ?_)
      exact j_iret C hB hR (m, u4) rfl dX10_turn_38 hw rfl
    · replace hw := hw.2 z
      refine j_aload_n C 0 dX10_turn_18 rfl ?_
      refine j_bipush C 20 dX10_turn_19 (by decide) ?_
      refine j_iconst C 4 dX10_turn_21 (by decide) ?_
      refine j_iload_n C 1 dX10_turn_22 rfl ?_
      refine j_imul C dX10_turn_23 ?_
      refine j_iadd C dX10_turn_24 ?_
      refine j_iload_n C 2 dX10_turn_25 rfl ?_
      refine j_ciT C hB 0 9 (fun u5 : (Nat → Int32) => (wM ca am u5 kp wa fo ta bo so ce ik td tk bg aa vl bd)) rfl (fun _ => rfl) (jr_V C lkV_X10_57 (c_X10_becomes am m kp wa fo ta bo so ce ik td tk bg aa vl bd (20 + (4 * a1)) a2 hw) ⟨rfl, rfl, by decide, by decide, by decide, by decide⟩ [0, 1, 2, 3, 4, 5, 6, 7, 8] (by decide) rfl (fx_rw C hB [0, 1, 2, 3, 4, 5, 6, 7, 8] rfl) 0 10 rfl rfl rfl rfl (Nat.le_of_ble_eq_true rfl) dX10_turn_26) (fun r5 u5 hw => ?_)
      refine j_goto C 38 dX10_turn_29 (by decide) ?_
      exact j_iret C hB hR (u5, fo) rfl dX10_turn_38 hw rfl
def wp_X10_as (m : Nat → Int32) (fo : Nat → Int32)  (a1 : Int32) (a2 : Int32) (Q : (Int32) → (Nat → Int32) → Prop) : Prop := wp_X10_isThing m a1 (fun r1 => (r1 = 0 → wp_X10_finds fo (-1000000001) (fun r2 c2_0 => Q r2 c2_0)) ∧ (¬ (r1 = 0) → wp_X10_in ((a2).toInt64) 0 5 (fun r3 => (r3 = 0 → wp_X10_finds fo (-1000000001) (fun r14 c14_0 => Q r14 c14_0)) ∧ (¬ (r3 = 0) → wp_X10_it m a1 0 (fun r4 => (a2 = 0 → wp_X10_it m a1 1 (fun r5 => Q r5 fo)) ∧ (¬ (a2 = 0) → (a2 = r4 → wp_X10_it m a1 1 (fun r6 => Q r6 fo)) ∧ (¬ (a2 = r4) → (a2 = 1 → (r4 = 4 → wp_X10_it m a1 1 (fun r10 => Q r10 fo)) ∧ (¬ (r4 = 4) → (a2 = 2 → (r4 = 5 → wp_X10_it m a1 1 (fun r13 => Q r13 fo)) ∧ (¬ (r4 = 5) → wp_X10_finds fo (-1000000003) (fun r12 c12_0 => Q r12 c12_0))) ∧ (¬ (a2 = 2) → wp_X10_finds fo (-1000000003) (fun r11 c11_0 => Q r11 c11_0)))) ∧ (¬ (a2 = 1) → (a2 = 2 → (r4 = 5 → wp_X10_it m a1 1 (fun r9 => Q r9 fo)) ∧ (¬ (r4 = 5) → wp_X10_finds fo (-1000000003) (fun r8 c8_0 => Q r8 c8_0))) ∧ (¬ (a2 = 2) → wp_X10_finds fo (-1000000003) (fun r7 c7_0 => Q r7 c7_0))))))))))
set_option maxRecDepth 100000 in
set_option maxHeartbeats 8000000 in
theorem c_X10_as {l : Launch} {D : va_G} {ca : Nat → ClassId} {sd : Nat → Nat}  (am : Nat → Nat) (m : Nat → Int32) (kp : Nat → Int32) (wa : Nat → Int32) (fo : Nat → Int32) (ta : Nat → Int32) (bo : Nat → Int32) (so : Nat → Int32) (ce : Nat → Int64) (ik : Int32) (td : Int32) (tk : Int32) (bg : Int32) (aa : Int32) (vl : Int32) (bd : Int32)  (a1 : Int32) (a2 : Int32)  {Q : (Int32) → (Nat → Int32) → Prop} (hw : wp_X10_as m fo  a1 a2 Q) : Cn l D ca sd yX10_as cX10_as 5 (some .int) { frames := 2, cells := 0, slots := 0, locals := 44 } [.ref (am 0), .int a1, .int a2] (wM ca am m kp wa fo ta bo so ce ik td tk bg aa vl bd) (wM ca am m kp wa fo ta bo so ce ik td tk bg aa vl bd) 0 0 (Ri D (fun (r : Int32) (u : (Nat → Int32)) => Q r u) (fun u => (wM ca am m kp wa u ta bo so ce ik td tk bg aa vl bd))) := by
  refine cn_of (by decide) (Nat.le_of_ble_eq_true rfl) (fun k C hR hB _ => ?_)
  have C : Cx D ca sd cX10_as RX10 (some .int) { frames := 2, cells := 0, slots := 0, locals := 44 } k 5 := C
  unfold wp_X10_as at hw
  show J l D k 5 0 0 0 (wM ca am m kp wa fo ta bo so ce ik td tk bg aa vl bd) [(0, .ref (am 0)), (1, .int a1), (2, .int a2)] []
  refine j_aload_n C 0 dX10_as_0 rfl ?_
  refine j_iload_n C 1 dX10_as_1 rfl ?_
  refine j_ciZ C (jr_V C lkV_X10_81 (c_X10_isThing am m kp wa fo ta bo so ce ik td tk bg aa vl bd a1 hw) ⟨rfl, rfl, by decide, by decide, by decide, by decide⟩ [0, 1, 2, 3, 4, 5, 6, 7, 8] (by decide) rfl (fx_ro C) 0 10 rfl rfl rfl rfl (Nat.le_of_ble_eq_true rfl) dX10_as_2) (fun r1 u1 hw => ?_)
  refine j_if_eq C 18 dX10_as_5 (by decide) (fun z => ?_) (fun z => ?_)
  · replace hw := hw.1 z
    refine j_aload_n C 0 dX10_as_18 rfl ?_
    refine j_ldc C dX10_as_19 ct_X10_35 ?_
    refine j_ciT C hB 0 9 (fun u2 : (Nat → Int32) => (wM ca am m kp wa u2 ta bo so ce ik td tk bg aa vl bd)) rfl (fun _ => rfl) (jr_V C lkV_X10_37 (c_X10_finds am m kp wa fo ta bo so ce ik td tk bg aa vl bd (-1000000001) hw) ⟨rfl, rfl, by decide, by decide, by decide, by decide⟩ [0, 1, 2, 3, 4, 5, 6, 7, 8] (by decide) rfl (fx_rw C hB [0, 1, 2, 3, 4, 5, 6, 7, 8] rfl) 0 10 rfl rfl rfl rfl (Nat.le_of_ble_eq_true rfl) dX10_as_21) (fun r2 u2 hw => ?_)
    exact j_iret C hB hR u2 rfl dX10_as_24 hw rfl
  · replace hw := hw.2 z
    refine j_iload_n C 2 dX10_as_8 rfl ?_
    refine j_i2l C dX10_as_9 ?_
    refine j_iconst C 0 dX10_as_10 (by decide) ?_
    refine j_iconst C 5 dX10_as_11 (by decide) ?_
    refine j_ciZ C (jr_S C lkS_X10_41 (c_X10_in ((a2).toInt64) 0 5 hw) ⟨rfl, rfl, by decide, by decide, by decide, by decide⟩ [] (by decide) rfl (fx_ro C) rfl rfl (Nat.le_of_ble_eq_true rfl) dX10_as_12) (fun r3 u3 hw => ?_)
    refine j_if_ne C 25 dX10_as_15 (by decide) (fun z => ?_) (fun z => ?_)
    · replace hw := hw.2 z
      refine j_aload_n C 0 dX10_as_25 rfl ?_
      refine j_iload_n C 1 dX10_as_26 rfl ?_
      refine j_iconst C 0 dX10_as_27 (by decide) ?_
      refine j_ciZ C (jr_V C lkV_X10_45 (c_X10_it am m kp wa fo ta bo so ce ik td tk bg aa vl bd a1 0 hw) ⟨rfl, rfl, by decide, by decide, by decide, by decide⟩ [0, 1, 2, 3, 4, 5, 6, 7, 8] (by decide) rfl (fx_ro C) 0 10 rfl rfl rfl rfl (Nat.le_of_ble_eq_true rfl) dX10_as_28) (fun r4 u4 hw => ?_)
      refine j_istore_n C [(3, .int r4), (0, .ref (am 0)), (1, .int a1), (2, .int a2)] dX10_as_31 (by decide) rfl ?_
      refine j_iload_n C 3 dX10_as_32 rfl ?_
      refine j_if_eq C 61 dX10_as_33 (by decide) (fun z => ?_) (fun z => ?_)
      · replace hw := hw.1 z
        refine j_iconst C 1 dX10_as_61 (by decide) ?_
        refine j_goto C 66 dX10_as_62 (by decide) ?_
        refine j_istore C [(4, .int 1), (3, .int r4), (0, .ref (am 0)), (1, .int a1), (2, .int a2)] dX10_as_66 (by decide) rfl ?_
        refine j_iload C 0 dX10_as_68 rfl ?_
        refine j_if_eq C 82 dX10_as_70 (by decide) (fun z => absurd z (by decide)) (fun _ => ?_)
        refine j_aload_n C 2 dX10_as_73 rfl ?_
        refine j_iload_n C 3 dX10_as_74 rfl ?_
        refine j_iconst C 1 dX10_as_75 (by decide) ?_
        refine j_ciZ C (jr_V C lkV_X10_45 (c_X10_it am m kp wa fo ta bo so ce ik td tk bg aa vl bd a1 1 hw) ⟨rfl, rfl, by decide, by decide, by decide, by decide⟩ [0, 1, 2, 3, 4, 5, 6, 7, 8] (by decide) rfl (fx_ro C) 0 10 rfl rfl rfl rfl (Nat.le_of_ble_eq_true rfl) dX10_as_76) (fun r5 u5 hw => ?_)
        refine j_goto C 88 dX10_as_79 (by decide) ?_
        exact j_iret C hB hR fo rfl dX10_as_88 hw rfl
      · replace hw := hw.2 z
        refine j_iload_n C 3 dX10_as_36 rfl ?_
        refine j_iload_n C 0 dX10_as_37 rfl ?_
        refine j_icmp_eq C 61 dX10_as_38 (by decide) (fun z => ?_) (fun z => ?_)
        · replace hw := hw.1 z
          refine j_iconst C 1 dX10_as_61 (by decide) ?_
          refine j_goto C 66 dX10_as_62 (by decide) ?_
          refine j_istore C [(4, .int 1), (3, .int r4), (0, .ref (am 0)), (1, .int a1), (2, .int a2)] dX10_as_66 (by decide) rfl ?_
          refine j_iload C 0 dX10_as_68 rfl ?_
          refine j_if_eq C 82 dX10_as_70 (by decide) (fun z => absurd z (by decide)) (fun _ => ?_)
          refine j_aload_n C 2 dX10_as_73 rfl ?_
          refine j_iload_n C 3 dX10_as_74 rfl ?_
          refine j_iconst C 1 dX10_as_75 (by decide) ?_
          refine j_ciZ C (jr_V C lkV_X10_45 (c_X10_it am m kp wa fo ta bo so ce ik td tk bg aa vl bd a1 1 hw) ⟨rfl, rfl, by decide, by decide, by decide, by decide⟩ [0, 1, 2, 3, 4, 5, 6, 7, 8] (by decide) rfl (fx_ro C) 0 10 rfl rfl rfl rfl (Nat.le_of_ble_eq_true rfl) dX10_as_76) (fun r6 u6 hw => ?_)
          refine j_goto C 88 dX10_as_79 (by decide) ?_
          exact j_iret C hB hR fo rfl dX10_as_88 hw rfl
        · replace hw := hw.2 z
          refine j_iload_n C 3 dX10_as_41 rfl ?_
          refine j_iconst C 1 dX10_as_42 (by decide) ?_
          refine j_icmp_ne C 51 dX10_as_43 (by decide) (fun z => ?_) (fun z => ?_)
          · replace hw := hw.2 z
            refine j_iload_n C 3 dX10_as_51 rfl ?_
            refine j_iconst C 2 dX10_as_52 (by decide) ?_
            refine j_icmp_ne C 65 dX10_as_53 (by decide) (fun z => ?_) (fun z => ?_)
            · replace hw := hw.2 z
              refine j_iconst C 0 dX10_as_65 (by decide) ?_
              refine j_istore C [(4, .int 0), (3, .int r4), (0, .ref (am 0)), (1, .int a1), (2, .int a2)] dX10_as_66 (by decide) rfl ?_
              refine j_iload C 0 dX10_as_68 rfl ?_
              refine j_if_eq C 82 dX10_as_70 (by decide) (fun _ => ?_) (fun z => absurd z (by decide))
              refine j_aload_n C 2 dX10_as_82 rfl ?_
              refine j_ldc C dX10_as_83 ct_X10_96 ?_
              refine j_ciT C hB 0 9 (fun u7 : (Nat → Int32) => (wM ca am m kp wa u7 ta bo so ce ik td tk bg aa vl bd)) rfl (fun _ => rfl) (jr_V C lkV_X10_37 (c_X10_finds am m kp wa fo ta bo so ce ik td tk bg aa vl bd (-1000000003) hw) ⟨rfl, rfl, by decide, by decide, by decide, by decide⟩ [0, 1, 2, 3, 4, 5, 6, 7, 8] (by decide) rfl (fx_rw C hB [0, 1, 2, 3, 4, 5, 6, 7, 8] rfl) 0 10 rfl rfl rfl rfl (Nat.le_of_ble_eq_true rfl) dX10_as_85) (fun r7 u7 hw => ?_)
              exact j_iret C hB hR u7 rfl dX10_as_88 hw rfl
            · replace hw := hw.1 z
              refine j_iload_n C 0 dX10_as_56 rfl ?_
              refine j_iconst C 5 dX10_as_57 (by decide) ?_
              refine j_icmp_ne C 65 dX10_as_58 (by decide) (fun z => ?_) (fun z => ?_)
              · replace hw := hw.2 z
                refine j_iconst C 0 dX10_as_65 (by decide) ?_
                refine j_istore C [(4, .int 0), (3, .int r4), (0, .ref (am 0)), (1, .int a1), (2, .int a2)] dX10_as_66 (by decide) rfl ?_
                refine j_iload C 0 dX10_as_68 rfl ?_
                refine j_if_eq C 82 dX10_as_70 (by decide) (fun _ => ?_) (fun z => absurd z (by decide))
                refine j_aload_n C 2 dX10_as_82 rfl ?_
                refine j_ldc C dX10_as_83 ct_X10_96 ?_
                refine j_ciT C hB 0 9 (fun u8 : (Nat → Int32) => (wM ca am m kp wa u8 ta bo so ce ik td tk bg aa vl bd)) rfl (fun _ => rfl) (jr_V C lkV_X10_37 (c_X10_finds am m kp wa fo ta bo so ce ik td tk bg aa vl bd (-1000000003) hw) ⟨rfl, rfl, by decide, by decide, by decide, by decide⟩ [0, 1, 2, 3, 4, 5, 6, 7, 8] (by decide) rfl (fx_rw C hB [0, 1, 2, 3, 4, 5, 6, 7, 8] rfl) 0 10 rfl rfl rfl rfl (Nat.le_of_ble_eq_true rfl) dX10_as_85) (fun r8 u8 hw => ?_)
                exact j_iret C hB hR u8 rfl dX10_as_88 hw rfl
              · replace hw := hw.1 z
                refine j_iconst C 1 dX10_as_61 (by decide) ?_
                refine j_goto C 66 dX10_as_62 (by decide) ?_
                refine j_istore C [(4, .int 1), (3, .int r4), (0, .ref (am 0)), (1, .int a1), (2, .int a2)] dX10_as_66 (by decide) rfl ?_
                refine j_iload C 0 dX10_as_68 rfl ?_
                refine j_if_eq C 82 dX10_as_70 (by decide) (fun z => absurd z (by decide)) (fun _ => ?_)
                refine j_aload_n C 2 dX10_as_73 rfl ?_
                refine j_iload_n C 3 dX10_as_74 rfl ?_
                refine j_iconst C 1 dX10_as_75 (by decide) ?_
                refine j_ciZ C (jr_V C lkV_X10_45 (c_X10_it am m kp wa fo ta bo so ce ik td tk bg aa vl bd a1 1 hw) ⟨rfl, rfl, by decide, by decide, by decide, by decide⟩ [0, 1, 2, 3, 4, 5, 6, 7, 8] (by decide) rfl (fx_ro C) 0 10 rfl rfl rfl rfl (Nat.le_of_ble_eq_true rfl) dX10_as_76) (fun r9 u9 hw => ?_)
                refine j_goto C 88 dX10_as_79 (by decide) ?_
                exact j_iret C hB hR fo rfl dX10_as_88 hw rfl
          · replace hw := hw.1 z
            refine j_iload_n C 0 dX10_as_46 rfl ?_
            refine j_iconst C 4 dX10_as_47 (by decide) ?_
            refine j_icmp_eq C 61 dX10_as_48 (by decide) (fun z => ?_) (fun z => ?_)
            · replace hw := hw.1 z
              refine j_iconst C 1 dX10_as_61 (by decide) ?_
              refine j_goto C 66 dX10_as_62 (by decide) ?_
              refine j_istore C [(4, .int 1), (3, .int r4), (0, .ref (am 0)), (1, .int a1), (2, .int a2)] dX10_as_66 (by decide) rfl ?_
              refine j_iload C 0 dX10_as_68 rfl ?_
              refine j_if_eq C 82 dX10_as_70 (by decide) (fun z => absurd z (by decide)) (fun _ => ?_)
              refine j_aload_n C 2 dX10_as_73 rfl ?_
              refine j_iload_n C 3 dX10_as_74 rfl ?_
              refine j_iconst C 1 dX10_as_75 (by decide) ?_
              refine j_ciZ C (jr_V C lkV_X10_45 (c_X10_it am m kp wa fo ta bo so ce ik td tk bg aa vl bd a1 1 hw) ⟨rfl, rfl, by decide, by decide, by decide, by decide⟩ [0, 1, 2, 3, 4, 5, 6, 7, 8] (by decide) rfl (fx_ro C) 0 10 rfl rfl rfl rfl (Nat.le_of_ble_eq_true rfl) dX10_as_76) (fun r10 u10 hw => ?_)
              refine j_goto C 88 dX10_as_79 (by decide) ?_
              exact j_iret C hB hR fo rfl dX10_as_88 hw rfl
            · replace hw := hw.2 z
              refine j_iload_n C 3 dX10_as_51 rfl ?_
              refine j_iconst C 2 dX10_as_52 (by decide) ?_
              refine j_icmp_ne C 65 dX10_as_53 (by decide) (fun z => ?_) (fun z => ?_)
              · replace hw := hw.2 z
                refine j_iconst C 0 dX10_as_65 (by decide) ?_
                refine j_istore C [(4, .int 0), (3, .int r4), (0, .ref (am 0)), (1, .int a1), (2, .int a2)] dX10_as_66 (by decide) rfl ?_
                refine j_iload C 0 dX10_as_68 rfl ?_
                refine j_if_eq C 82 dX10_as_70 (by decide) (fun _ => ?_) (fun z => absurd z (by decide))
                refine j_aload_n C 2 dX10_as_82 rfl ?_
                refine j_ldc C dX10_as_83 ct_X10_96 ?_
                refine j_ciT C hB 0 9 (fun u11 : (Nat → Int32) => (wM ca am m kp wa u11 ta bo so ce ik td tk bg aa vl bd)) rfl (fun _ => rfl) (jr_V C lkV_X10_37 (c_X10_finds am m kp wa fo ta bo so ce ik td tk bg aa vl bd (-1000000003) hw) ⟨rfl, rfl, by decide, by decide, by decide, by decide⟩ [0, 1, 2, 3, 4, 5, 6, 7, 8] (by decide) rfl (fx_rw C hB [0, 1, 2, 3, 4, 5, 6, 7, 8] rfl) 0 10 rfl rfl rfl rfl (Nat.le_of_ble_eq_true rfl) dX10_as_85) (fun r11 u11 hw => ?_)
                exact j_iret C hB hR u11 rfl dX10_as_88 hw rfl
              · replace hw := hw.1 z
                refine j_iload_n C 0 dX10_as_56 rfl ?_
                refine j_iconst C 5 dX10_as_57 (by decide) ?_
                refine j_icmp_ne C 65 dX10_as_58 (by decide) (fun z => ?_) (fun z => ?_)
                · replace hw := hw.2 z
                  refine j_iconst C 0 dX10_as_65 (by decide) ?_
                  refine j_istore C [(4, .int 0), (3, .int r4), (0, .ref (am 0)), (1, .int a1), (2, .int a2)] dX10_as_66 (by decide) rfl ?_
                  refine j_iload C 0 dX10_as_68 rfl ?_
                  refine j_if_eq C 82 dX10_as_70 (by decide) (fun _ => ?_) (fun z => absurd z (by decide))
                  refine j_aload_n C 2 dX10_as_82 rfl ?_
                  refine j_ldc C dX10_as_83 ct_X10_96 ?_
                  refine j_ciT C hB 0 9 (fun u12 : (Nat → Int32) => (wM ca am m kp wa u12 ta bo so ce ik td tk bg aa vl bd)) rfl (fun _ => rfl) (jr_V C lkV_X10_37 (c_X10_finds am m kp wa fo ta bo so ce ik td tk bg aa vl bd (-1000000003) hw) ⟨rfl, rfl, by decide, by decide, by decide, by decide⟩ [0, 1, 2, 3, 4, 5, 6, 7, 8] (by decide) rfl (fx_rw C hB [0, 1, 2, 3, 4, 5, 6, 7, 8] rfl) 0 10 rfl rfl rfl rfl (Nat.le_of_ble_eq_true rfl) dX10_as_85) (fun r12 u12 hw => ?_)
                  exact j_iret C hB hR u12 rfl dX10_as_88 hw rfl
                · replace hw := hw.1 z
                  refine j_iconst C 1 dX10_as_61 (by decide) ?_
                  refine j_goto C 66 dX10_as_62 (by decide) ?_
                  refine j_istore C [(4, .int 1), (3, .int r4), (0, .ref (am 0)), (1, .int a1), (2, .int a2)] dX10_as_66 (by decide) rfl ?_
                  refine j_iload C 0 dX10_as_68 rfl ?_
                  refine j_if_eq C 82 dX10_as_70 (by decide) (fun z => absurd z (by decide)) (fun _ => ?_)
                  refine j_aload_n C 2 dX10_as_73 rfl ?_
                  refine j_iload_n C 3 dX10_as_74 rfl ?_
                  refine j_iconst C 1 dX10_as_75 (by decide) ?_
                  refine j_ciZ C (jr_V C lkV_X10_45 (c_X10_it am m kp wa fo ta bo so ce ik td tk bg aa vl bd a1 1 hw) ⟨rfl, rfl, by decide, by decide, by decide, by decide⟩ [0, 1, 2, 3, 4, 5, 6, 7, 8] (by decide) rfl (fx_ro C) 0 10 rfl rfl rfl rfl (Nat.le_of_ble_eq_true rfl) dX10_as_76) (fun r13 u13 hw => ?_)
                  refine j_goto C 88 dX10_as_79 (by decide) ?_
                  exact j_iret C hB hR fo rfl dX10_as_88 hw rfl
    · replace hw := hw.1 z
      refine j_aload_n C 0 dX10_as_18 rfl ?_
      refine j_ldc C dX10_as_19 ct_X10_35 ?_
      refine j_ciT C hB 0 9 (fun u14 : (Nat → Int32) => (wM ca am m kp wa u14 ta bo so ce ik td tk bg aa vl bd)) rfl (fun _ => rfl) (jr_V C lkV_X10_37 (c_X10_finds am m kp wa fo ta bo so ce ik td tk bg aa vl bd (-1000000001) hw) ⟨rfl, rfl, by decide, by decide, by decide, by decide⟩ [0, 1, 2, 3, 4, 5, 6, 7, 8] (by decide) rfl (fx_rw C hB [0, 1, 2, 3, 4, 5, 6, 7, 8] rfl) 0 10 rfl rfl rfl rfl (Nat.le_of_ble_eq_true rfl) dX10_as_21) (fun r14 u14 hw => ?_)
      exact j_iret C hB hR u14 rfl dX10_as_24 hw rfl
def wp_X10_leave (m : Nat → Int32) (fo : Nat → Int32)  (a1 : Int32) (Q : (Int32) → (Nat → Int32) → (Nat → Int32) → Prop) : Prop := wp_X10_isThing m a1 (fun r1 => (r1 = 0 → wp_X10_finds fo (-1000000001) (fun r5 c5_0 => Q r5 m c5_0)) ∧ (¬ (r1 = 0) → wp_X10_canLeave m a1 (fun r2 => (r2 = 0 → wp_X10_finds fo (-1000000005) (fun r3 c3_0 => Q r3 m c3_0)) ∧ (¬ (r2 = 0) → wp_X10_leaves m a1 (fun r4 c4_0 => Q r4 c4_0 fo)))))
set_option maxRecDepth 100000 in
set_option maxHeartbeats 8000000 in
theorem c_X10_leave {l : Launch} {D : va_G} {ca : Nat → ClassId} {sd : Nat → Nat}  (am : Nat → Nat) (m : Nat → Int32) (kp : Nat → Int32) (wa : Nat → Int32) (fo : Nat → Int32) (ta : Nat → Int32) (bo : Nat → Int32) (so : Nat → Int32) (ce : Nat → Int64) (ik : Int32) (td : Int32) (tk : Int32) (bg : Int32) (aa : Int32) (vl : Int32) (bd : Int32)  (a1 : Int32)  {Q : (Int32) → (Nat → Int32) → (Nat → Int32) → Prop} (hw : wp_X10_leave m fo  a1 Q) : Cn l D ca sd yX10_leave cX10_leave 2 (some .int) { frames := 3, cells := 0, slots := 0, locals := 64 } [.ref (am 0), .int a1] (wM ca am m kp wa fo ta bo so ce ik td tk bg aa vl bd) (wM ca am m kp wa fo ta bo so ce ik td tk bg aa vl bd) 0 0 (Ri D (fun (r : Int32) (u : (Nat → Int32) × (Nat → Int32)) => Q r u.1 u.2) (fun u => (wM ca am u.1 kp wa u.2 ta bo so ce ik td tk bg aa vl bd))) := by
  refine cn_of (by decide) (Nat.le_of_ble_eq_true rfl) (fun k C hR hB _ => ?_)
  have C : Cx D ca sd cX10_leave RX10 (some .int) { frames := 3, cells := 0, slots := 0, locals := 64 } k 2 := C
  unfold wp_X10_leave at hw
  show J l D k 2 0 0 0 (wM ca am m kp wa fo ta bo so ce ik td tk bg aa vl bd) [(0, .ref (am 0)), (1, .int a1)] []
  refine j_aload_n C 0 dX10_leave_0 rfl ?_
  refine j_iload_n C 1 dX10_leave_1 rfl ?_
  refine j_ciZ C (jr_V C lkV_X10_81 (c_X10_isThing am m kp wa fo ta bo so ce ik td tk bg aa vl bd a1 hw) ⟨rfl, rfl, by decide, by decide, by decide, by decide⟩ [0, 1, 2, 3, 4, 5, 6, 7, 8] (by decide) rfl (fx_ro C) 0 10 rfl rfl rfl rfl (Nat.le_of_ble_eq_true rfl) dX10_leave_2) (fun r1 u1 hw => ?_)
  refine j_if_ne C 15 dX10_leave_5 (by decide) (fun z => ?_) (fun z => ?_)
  · replace hw := hw.2 z
    refine j_aload_n C 0 dX10_leave_15 rfl ?_
    refine j_iload_n C 1 dX10_leave_16 rfl ?_
    refine j_ciZ C (jr_V C lkV_X10_100 (c_X10_canLeave am m kp wa fo ta bo so ce ik td tk bg aa vl bd a1 hw) ⟨rfl, rfl, by decide, by decide, by decide, by decide⟩ [0, 1, 2, 3, 4, 5, 6, 7, 8] (by decide) rfl (fx_ro C) 0 10 rfl rfl rfl rfl (Nat.le_of_ble_eq_true rfl) dX10_leave_17) (fun r2 u2 hw => ?_)
    refine j_if_eq C 31 dX10_leave_20 (by decide) (fun z => ?_) (fun z => ?_)
    · replace hw := hw.1 z
      refine j_aload_n C 0 dX10_leave_31 rfl ?_
      refine j_ldc C dX10_leave_32 ct_X10_106 ?_
      refine j_ciT C hB 0 9 (fun u3 : (Nat → Int32) => (wM ca am m kp wa u3 ta bo so ce ik td tk bg aa vl bd)) rfl (fun _ => rfl) (jr_V C lkV_X10_37 (c_X10_finds am m kp wa fo ta bo so ce ik td tk bg aa vl bd (-1000000005) hw) ⟨rfl, rfl, by decide, by decide, by decide, by decide⟩ [0, 1, 2, 3, 4, 5, 6, 7, 8] (by decide) rfl (fx_rw C hB [0, 1, 2, 3, 4, 5, 6, 7, 8] rfl) 0 10 rfl rfl rfl rfl (Nat.le_of_ble_eq_true rfl) dX10_leave_34) (fun r3 u3 hw => ?_)
      exact j_iret C hB hR (m, u3) rfl dX10_leave_37 hw rfl
    · replace hw := hw.2 z
      refine j_aload_n C 0 dX10_leave_23 rfl ?_
      refine j_iload_n C 1 dX10_leave_24 rfl ?_
      refine j_ciT C hB 0 9 (fun u4 : (Nat → Int32) => (wM ca am u4 kp wa fo ta bo so ce ik td tk bg aa vl bd)) rfl (fun _ => rfl) (jr_V C lkV_X10_103 (c_X10_leaves am m kp wa fo ta bo so ce ik td tk bg aa vl bd a1 hw) ⟨rfl, rfl, by decide, by decide, by decide, by decide⟩ [0, 1, 2, 3, 4, 5, 6, 7, 8] (by decide) rfl (fx_rw C hB [0, 1, 2, 3, 4, 5, 6, 7, 8] rfl) 0 10 rfl rfl rfl rfl (Nat.le_of_ble_eq_true rfl) dX10_leave_25) (fun r4 u4 hw => ?_)
      refine j_goto C 37 dX10_leave_28 (by decide) ?_
      exact j_iret C hB hR (u4, fo) rfl dX10_leave_37 hw rfl
  · replace hw := hw.1 z
    refine j_aload_n C 0 dX10_leave_8 rfl ?_
    refine j_ldc C dX10_leave_9 ct_X10_35 ?_
    refine j_ciT C hB 0 9 (fun u5 : (Nat → Int32) => (wM ca am m kp wa u5 ta bo so ce ik td tk bg aa vl bd)) rfl (fun _ => rfl) (jr_V C lkV_X10_37 (c_X10_finds am m kp wa fo ta bo so ce ik td tk bg aa vl bd (-1000000001) hw) ⟨rfl, rfl, by decide, by decide, by decide, by decide⟩ [0, 1, 2, 3, 4, 5, 6, 7, 8] (by decide) rfl (fx_rw C hB [0, 1, 2, 3, 4, 5, 6, 7, 8] rfl) 0 10 rfl rfl rfl rfl (Nat.le_of_ble_eq_true rfl) dX10_leave_11) (fun r5 u5 hw => ?_)
    exact j_iret C hB hR (m, u5) rfl dX10_leave_14 hw rfl
def wp_X10_goesTo (m : Nat → Int32) (fo : Nat → Int32)  (a1 : Int32) (Q : (Int32) → (Nat → Int32) → Prop) : Prop := wp_X10_isThing m a1 (fun r1 => (r1 = 0 → wp_X10_finds fo (-1000000001) (fun r8 c8_0 => Q r8 c8_0)) ∧ (¬ (r1 = 0) → wp_X10_it m a1 2 (fun r2 => (0 ≤ r2 → wp_X10_finds fo (-1000000005) (fun r3 c3_0 => Q r3 c3_0)) ∧ (¬ (0 ≤ r2) → wp_X10_isDone m a1 (fun r4 => (r4 = 0 → wp_X10_winner m a1 (fun r5 => wp_X10_orNone fo r5 (fun r6 c6_0 => Q r6 c6_0))) ∧ (¬ (r4 = 0) → wp_X10_finds fo (-1000000005) (fun r7 c7_0 => Q r7 c7_0)))))))
set_option maxRecDepth 100000 in
set_option maxHeartbeats 8000000 in
theorem c_X10_goesTo {l : Launch} {D : va_G} {ca : Nat → ClassId} {sd : Nat → Nat}  (am : Nat → Nat) (m : Nat → Int32) (kp : Nat → Int32) (wa : Nat → Int32) (fo : Nat → Int32) (ta : Nat → Int32) (bo : Nat → Int32) (so : Nat → Int32) (ce : Nat → Int64) (ik : Int32) (td : Int32) (tk : Int32) (bg : Int32) (aa : Int32) (vl : Int32) (bd : Int32)  (a1 : Int32)  {Q : (Int32) → (Nat → Int32) → Prop} (hw : wp_X10_goesTo m fo  a1 Q) : Cn l D ca sd yX10_goesTo cX10_goesTo 2 (some .int) { frames := 4, cells := 0, slots := 0, locals := 92 } [.ref (am 0), .int a1] (wM ca am m kp wa fo ta bo so ce ik td tk bg aa vl bd) (wM ca am m kp wa fo ta bo so ce ik td tk bg aa vl bd) 0 0 (Ri D (fun (r : Int32) (u : (Nat → Int32)) => Q r u) (fun u => (wM ca am m kp wa u ta bo so ce ik td tk bg aa vl bd))) := by
  refine cn_of (by decide) (Nat.le_of_ble_eq_true rfl) (fun k C hR hB _ => ?_)
  have C : Cx D ca sd cX10_goesTo RX10 (some .int) { frames := 4, cells := 0, slots := 0, locals := 92 } k 2 := C
  unfold wp_X10_goesTo at hw
  show J l D k 2 0 0 0 (wM ca am m kp wa fo ta bo so ce ik td tk bg aa vl bd) [(0, .ref (am 0)), (1, .int a1)] []
  refine j_aload_n C 0 dX10_goesTo_0 rfl ?_
  refine j_iload_n C 1 dX10_goesTo_1 rfl ?_
  refine j_ciZ C (jr_V C lkV_X10_81 (c_X10_isThing am m kp wa fo ta bo so ce ik td tk bg aa vl bd a1 hw) ⟨rfl, rfl, by decide, by decide, by decide, by decide⟩ [0, 1, 2, 3, 4, 5, 6, 7, 8] (by decide) rfl (fx_ro C) 0 10 rfl rfl rfl rfl (Nat.le_of_ble_eq_true rfl) dX10_goesTo_2) (fun r1 u1 hw => ?_)
  refine j_if_ne C 15 dX10_goesTo_5 (by decide) (fun z => ?_) (fun z => ?_)
  · replace hw := hw.2 z
    refine j_aload_n C 0 dX10_goesTo_15 rfl ?_
    refine j_iload_n C 1 dX10_goesTo_16 rfl ?_
    refine j_iconst C 2 dX10_goesTo_17 (by decide) ?_
    refine j_ciZ C (jr_V C lkV_X10_45 (c_X10_it am m kp wa fo ta bo so ce ik td tk bg aa vl bd a1 2 hw) ⟨rfl, rfl, by decide, by decide, by decide, by decide⟩ [0, 1, 2, 3, 4, 5, 6, 7, 8] (by decide) rfl (fx_ro C) 0 10 rfl rfl rfl rfl (Nat.le_of_ble_eq_true rfl) dX10_goesTo_18) (fun r2 u2 hw => ?_)
    refine j_if_ge C 32 dX10_goesTo_21 (by decide) (fun z => ?_) (fun z => ?_)
    · replace hw := hw.1 z
      refine j_aload_n C 0 dX10_goesTo_32 rfl ?_
      refine j_ldc C dX10_goesTo_33 ct_X10_106 ?_
      refine j_ciT C hB 0 9 (fun u3 : (Nat → Int32) => (wM ca am m kp wa u3 ta bo so ce ik td tk bg aa vl bd)) rfl (fun _ => rfl) (jr_V C lkV_X10_37 (c_X10_finds am m kp wa fo ta bo so ce ik td tk bg aa vl bd (-1000000005) hw) ⟨rfl, rfl, by decide, by decide, by decide, by decide⟩ [0, 1, 2, 3, 4, 5, 6, 7, 8] (by decide) rfl (fx_rw C hB [0, 1, 2, 3, 4, 5, 6, 7, 8] rfl) 0 10 rfl rfl rfl rfl (Nat.le_of_ble_eq_true rfl) dX10_goesTo_35) (fun r3 u3 hw => ?_)
      refine j_goto C 50 dX10_goesTo_38 (by decide) ?_
      exact j_iret C hB hR u3 rfl dX10_goesTo_50 hw rfl
    · replace hw := hw.2 z
      refine j_aload_n C 0 dX10_goesTo_24 rfl ?_
      refine j_iload_n C 1 dX10_goesTo_25 rfl ?_
      refine j_ciZ C (jr_V C lkV_X10_60 (c_X10_isDone am m kp wa fo ta bo so ce ik td tk bg aa vl bd a1 hw) ⟨rfl, rfl, by decide, by decide, by decide, by decide⟩ [0, 1, 2, 3, 4, 5, 6, 7, 8] (by decide) rfl (fx_ro C) 0 10 rfl rfl rfl rfl (Nat.le_of_ble_eq_true rfl) dX10_goesTo_26) (fun r4 u4 hw => ?_)
      refine j_if_eq C 41 dX10_goesTo_29 (by decide) (fun z => ?_) (fun z => ?_)
      · replace hw := hw.1 z
        refine j_aload_n C 0 dX10_goesTo_41 rfl ?_
        refine j_aload_n C 0 dX10_goesTo_42 rfl ?_
        refine j_iload_n C 1 dX10_goesTo_43 rfl ?_
        refine j_ciZ C (jr_V C lkV_X10_107 (c_X10_winner am m kp wa fo ta bo so ce ik td tk bg aa vl bd a1 hw) ⟨rfl, rfl, by decide, by decide, by decide, by decide⟩ [0, 1, 2, 3, 4, 5, 6, 7, 8] (by decide) rfl (fx_ro C) 0 10 rfl rfl rfl rfl (Nat.le_of_ble_eq_true rfl) dX10_goesTo_44) (fun r5 u5 hw => ?_)
        refine j_ciT C hB 0 9 (fun u6 : (Nat → Int32) => (wM ca am m kp wa u6 ta bo so ce ik td tk bg aa vl bd)) rfl (fun _ => rfl) (jr_V C lkV_X10_110 (c_X10_orNone am m kp wa fo ta bo so ce ik td tk bg aa vl bd r5 hw) ⟨rfl, rfl, by decide, by decide, by decide, by decide⟩ [0, 1, 2, 3, 4, 5, 6, 7, 8] (by decide) rfl (fx_rw C hB [0, 1, 2, 3, 4, 5, 6, 7, 8] rfl) 0 10 rfl rfl rfl rfl (Nat.le_of_ble_eq_true rfl) dX10_goesTo_47) (fun r6 u6 hw => ?_)
        exact j_iret C hB hR u6 rfl dX10_goesTo_50 hw rfl
      · replace hw := hw.2 z
        refine j_aload_n C 0 dX10_goesTo_32 rfl ?_
        refine j_ldc C dX10_goesTo_33 ct_X10_106 ?_
        refine j_ciT C hB 0 9 (fun u7 : (Nat → Int32) => (wM ca am m kp wa u7 ta bo so ce ik td tk bg aa vl bd)) rfl (fun _ => rfl) (jr_V C lkV_X10_37 (c_X10_finds am m kp wa fo ta bo so ce ik td tk bg aa vl bd (-1000000005) hw) ⟨rfl, rfl, by decide, by decide, by decide, by decide⟩ [0, 1, 2, 3, 4, 5, 6, 7, 8] (by decide) rfl (fx_rw C hB [0, 1, 2, 3, 4, 5, 6, 7, 8] rfl) 0 10 rfl rfl rfl rfl (Nat.le_of_ble_eq_true rfl) dX10_goesTo_35) (fun r7 u7 hw => ?_)
        refine j_goto C 50 dX10_goesTo_38 (by decide) ?_
        exact j_iret C hB hR u7 rfl dX10_goesTo_50 hw rfl
  · replace hw := hw.1 z
    refine j_aload_n C 0 dX10_goesTo_8 rfl ?_
    refine j_ldc C dX10_goesTo_9 ct_X10_35 ?_
    refine j_ciT C hB 0 9 (fun u8 : (Nat → Int32) => (wM ca am m kp wa u8 ta bo so ce ik td tk bg aa vl bd)) rfl (fun _ => rfl) (jr_V C lkV_X10_37 (c_X10_finds am m kp wa fo ta bo so ce ik td tk bg aa vl bd (-1000000001) hw) ⟨rfl, rfl, by decide, by decide, by decide, by decide⟩ [0, 1, 2, 3, 4, 5, 6, 7, 8] (by decide) rfl (fx_rw C hB [0, 1, 2, 3, 4, 5, 6, 7, 8] rfl) 0 10 rfl rfl rfl rfl (Nat.le_of_ble_eq_true rfl) dX10_goesTo_11) (fun r8 u8 hw => ?_)
    exact j_iret C hB hR u8 rfl dX10_goesTo_14 hw rfl
def wp_X10_years (m : Nat → Int32) (fo : Nat → Int32)  (a1 : Int32) (Q : (Int32) → (Nat → Int32) → (Nat → Int32) → Prop) : Prop := wp_X10_in ((a1).toInt64) 1 60 (fun r1 => (r1 = 0 → wp_X10_finds fo (-1000000001) (fun r6 c6_0 => Q r6 m c6_0)) ∧ (¬ (r1 = 0) → vp_in 0 52 ∧ ((((m ((0 : Int32).toNatClampNeg)) + a1) ≤ 9999 → wp_X10_goesFor m a1 (fun c3_0 => wp_X10_doneOnes c3_0 (fun r4 => Q r4 c3_0 fo))) ∧ (¬ (((m ((0 : Int32).toNatClampNeg)) + a1) ≤ 9999) → wp_X10_finds fo (-1000000005) (fun r5 c5_0 => Q r5 m c5_0)))))
set_option maxRecDepth 100000 in
set_option maxHeartbeats 8000000 in
theorem c_X10_years {l : Launch} {D : va_G} {ca : Nat → ClassId} {sd : Nat → Nat}  (am : Nat → Nat) (m : Nat → Int32) (kp : Nat → Int32) (wa : Nat → Int32) (fo : Nat → Int32) (ta : Nat → Int32) (bo : Nat → Int32) (so : Nat → Int32) (ce : Nat → Int64) (ik : Int32) (td : Int32) (tk : Int32) (bg : Int32) (aa : Int32) (vl : Int32) (bd : Int32)  (a1 : Int32)  {Q : (Int32) → (Nat → Int32) → (Nat → Int32) → Prop} (hw : wp_X10_years m fo  a1 Q) : Cn l D ca sd yX10_years cX10_years 2 (some .int) { frames := 6, cells := 0, slots := 0, locals := 135 } [.ref (am 0), .int a1] (wM ca am m kp wa fo ta bo so ce ik td tk bg aa vl bd) (wM ca am m kp wa fo ta bo so ce ik td tk bg aa vl bd) 0 0 (Ri D (fun (r : Int32) (u : (Nat → Int32) × (Nat → Int32)) => Q r u.1 u.2) (fun u => (wM ca am u.1 kp wa u.2 ta bo so ce ik td tk bg aa vl bd))) := by
  refine cn_of (by decide) (Nat.le_of_ble_eq_true rfl) (fun k C hR hB _ => ?_)
  have C : Cx D ca sd cX10_years RX10 (some .int) { frames := 6, cells := 0, slots := 0, locals := 135 } k 2 := C
  unfold wp_X10_years at hw
  show J l D k 2 0 0 0 (wM ca am m kp wa fo ta bo so ce ik td tk bg aa vl bd) [(0, .ref (am 0)), (1, .int a1)] []
  refine j_iload_n C 1 dX10_years_0 rfl ?_
  refine j_i2l C dX10_years_1 ?_
  refine j_iconst C 1 dX10_years_2 (by decide) ?_
  refine j_bipush C 60 dX10_years_3 (by decide) ?_
  refine j_ciZ C (jr_S C lkS_X10_41 (c_X10_in ((a1).toInt64) 1 60 hw) ⟨rfl, rfl, by decide, by decide, by decide, by decide⟩ [] (by decide) rfl (fx_ro C) rfl rfl (Nat.le_of_ble_eq_true rfl) dX10_years_5) (fun r1 u1 hw => ?_)
  refine j_if_ne C 18 dX10_years_8 (by decide) (fun z => ?_) (fun z => ?_)
  · replace hw := hw.2 z
    refine j_aload_n C 0 dX10_years_18 rfl ?_
    refine j_get C fl_X10_9_10 0 dX10_years_19 rfl rfl ?_
    refine j_iconst C 0 dX10_years_22 (by decide) ?_
    have hi2 := hw.1
    replace hw := hw.2
    refine j_iald C 1 dX10_years_23 rfl hi2 ?_
    refine j_iload_n C 1 dX10_years_24 rfl ?_
    refine j_iadd C dX10_years_25 ?_
    refine j_sipush C 9999 dX10_years_26 (by decide) ?_
    refine j_icmp_le C 39 dX10_years_29 (by decide) (fun z => ?_) (fun z => ?_)
    · replace hw := hw.1 z
      refine j_aload_n C 0 dX10_years_39 rfl ?_
      refine j_iload_n C 1 dX10_years_40 rfl ?_
      refine j_cvT C hB 0 9 (fun u3 : (Nat → Int32) => (wM ca am u3 kp wa fo ta bo so ce ik td tk bg aa vl bd)) rfl (fun _ => rfl) (jr_V C lkV_X10_128 (c_X10_goesFor am m kp wa fo ta bo so ce ik td tk bg aa vl bd a1 hw) ⟨rfl, rfl, by decide, by decide, by decide, by decide⟩ [0, 1, 2, 3, 4, 5, 6, 7, 8] (by decide) rfl (fx_rw C hB [0, 1, 2, 3, 4, 5, 6, 7, 8] rfl) 0 10 rfl rfl rfl rfl (Nat.le_of_ble_eq_true rfl) dX10_years_41) (fun u3 hw => ?_)
      refine j_aload_n C 0 dX10_years_44 rfl ?_
      refine j_ciZ C (jr_V C lkV_X10_124 (c_X10_doneOnes am u3 kp wa fo ta bo so ce ik td tk bg aa vl bd hw) ⟨rfl, rfl, by decide, by decide, by decide, by decide⟩ [0, 1, 2, 3, 4, 5, 6, 7, 8] (by decide) rfl (fx_ro C) 0 10 rfl rfl rfl rfl (Nat.le_of_ble_eq_true rfl) dX10_years_45) (fun r4 u4 hw => ?_)
      exact j_iret C hB hR (u3, fo) rfl dX10_years_48 hw rfl
    · replace hw := hw.2 z
      refine j_aload_n C 0 dX10_years_32 rfl ?_
      refine j_ldc C dX10_years_33 ct_X10_106 ?_
      refine j_ciT C hB 0 9 (fun u5 : (Nat → Int32) => (wM ca am m kp wa u5 ta bo so ce ik td tk bg aa vl bd)) rfl (fun _ => rfl) (jr_V C lkV_X10_37 (c_X10_finds am m kp wa fo ta bo so ce ik td tk bg aa vl bd (-1000000005) hw) ⟨rfl, rfl, by decide, by decide, by decide, by decide⟩ [0, 1, 2, 3, 4, 5, 6, 7, 8] (by decide) rfl (fx_rw C hB [0, 1, 2, 3, 4, 5, 6, 7, 8] rfl) 0 10 rfl rfl rfl rfl (Nat.le_of_ble_eq_true rfl) dX10_years_35) (fun r5 u5 hw => ?_)
      exact j_iret C hB hR (m, u5) rfl dX10_years_38 hw rfl
  · replace hw := hw.1 z
    refine j_aload_n C 0 dX10_years_11 rfl ?_
    refine j_ldc C dX10_years_12 ct_X10_35 ?_
    refine j_ciT C hB 0 9 (fun u6 : (Nat → Int32) => (wM ca am m kp wa u6 ta bo so ce ik td tk bg aa vl bd)) rfl (fun _ => rfl) (jr_V C lkV_X10_37 (c_X10_finds am m kp wa fo ta bo so ce ik td tk bg aa vl bd (-1000000001) hw) ⟨rfl, rfl, by decide, by decide, by decide, by decide⟩ [0, 1, 2, 3, 4, 5, 6, 7, 8] (by decide) rfl (fx_rw C hB [0, 1, 2, 3, 4, 5, 6, 7, 8] rfl) 0 10 rfl rfl rfl rfl (Nat.le_of_ble_eq_true rfl) dX10_years_14) (fun r6 u6 hw => ?_)
    exact j_iret C hB hR (m, u6) rfl dX10_years_17 hw rfl
def wp_X10_now (m : Nat → Int32) (fo : Nat → Int32)  (a1 : Int32) (Q : (Int32) → (Nat → Int32) → Prop) : Prop := (a1 = 0 → vp_in 0 52 ∧ (Q (m ((0 : Int32).toNatClampNeg)) fo)) ∧ (¬ (a1 = 0) → (a1 = 1 → wp_X10_doneOnes m (fun r2 => Q r2 fo)) ∧ (¬ (a1 = 1) → (a1 = 2 → wp_X10_withOf m (-1) (fun r3 => Q r3 fo)) ∧ (¬ (a1 = 2) → (a1 = 3 → wp_X10_sums m 1 (fun r4 => Q r4 fo)) ∧ (¬ (a1 = 3) → (a1 = 4 → wp_X10_allMade m (fun r5 => Q r5 fo)) ∧ (¬ (a1 = 4) → wp_X10_finds fo (-1000000001) (fun r6 c6_0 => Q r6 c6_0))))))
set_option maxRecDepth 100000 in
set_option maxHeartbeats 8000000 in
theorem c_X10_now {l : Launch} {D : va_G} {ca : Nat → ClassId} {sd : Nat → Nat}  (am : Nat → Nat) (m : Nat → Int32) (kp : Nat → Int32) (wa : Nat → Int32) (fo : Nat → Int32) (ta : Nat → Int32) (bo : Nat → Int32) (so : Nat → Int32) (ce : Nat → Int64) (ik : Int32) (td : Int32) (tk : Int32) (bg : Int32) (aa : Int32) (vl : Int32) (bd : Int32)  (a1 : Int32)  {Q : (Int32) → (Nat → Int32) → Prop} (hw : wp_X10_now m fo  a1 Q) : Cn l D ca sd yX10_now cX10_now 2 (some .int) { frames := 3, cells := 0, slots := 0, locals := 65 } [.ref (am 0), .int a1] (wM ca am m kp wa fo ta bo so ce ik td tk bg aa vl bd) (wM ca am m kp wa fo ta bo so ce ik td tk bg aa vl bd) 0 0 (Ri D (fun (r : Int32) (u : (Nat → Int32)) => Q r u) (fun u => (wM ca am m kp wa u ta bo so ce ik td tk bg aa vl bd))) := by
  refine cn_of (by decide) (Nat.le_of_ble_eq_true rfl) (fun k C hR hB _ => ?_)
  have C : Cx D ca sd cX10_now RX10 (some .int) { frames := 3, cells := 0, slots := 0, locals := 65 } k 2 := C
  unfold wp_X10_now at hw
  show J l D k 2 0 0 0 (wM ca am m kp wa fo ta bo so ce ik td tk bg aa vl bd) [(0, .ref (am 0)), (1, .int a1)] []
  refine j_iload_n C 1 dX10_now_0 rfl ?_
  by_cases z1 : a1 = 0
  · replace hw := hw.1 z1
    refine j_tabIn (off := 35) C 0 36 dX10_now_1 z1 (by decide) (by decide) (by decide) (by decide) ?_
    refine j_aload_n C 0 dX10_now_36 rfl ?_
    refine j_get C fl_X10_9_10 0 dX10_now_37 rfl rfl ?_
    refine j_iconst C 0 dX10_now_40 (by decide) ?_
    have hi1 := hw.1
    replace hw := hw.2
    refine j_iald C 1 dX10_now_41 rfl hi1 ?_
    exact j_iret C hB hR fo rfl dX10_now_42 hw rfl
  · replace hw := hw.2 z1
    by_cases z2 : a1 = 1
    · replace hw := hw.1 z2
      refine j_tabIn (off := 42) C 1 43 dX10_now_1 z2 (by decide) (by decide) (by decide) (by decide) ?_
      refine j_aload_n C 0 dX10_now_43 rfl ?_
      refine j_ciZ C (jr_V C lkV_X10_124 (c_X10_doneOnes am m kp wa fo ta bo so ce ik td tk bg aa vl bd hw) ⟨rfl, rfl, by decide, by decide, by decide, by decide⟩ [0, 1, 2, 3, 4, 5, 6, 7, 8] (by decide) rfl (fx_ro C) 0 10 rfl rfl rfl rfl (Nat.le_of_ble_eq_true rfl) dX10_now_44) (fun r2 u2 hw => ?_)
      exact j_iret C hB hR fo rfl dX10_now_47 hw rfl
    · replace hw := hw.2 z2
      by_cases z3 : a1 = 2
      · replace hw := hw.1 z3
        refine j_tabIn (off := 47) C 2 48 dX10_now_1 z3 (by decide) (by decide) (by decide) (by decide) ?_
        refine j_aload_n C 0 dX10_now_48 rfl ?_
        refine j_iconst C (-1) dX10_now_49 (by decide) ?_
        refine j_ciZ C (jr_V C lkV_X10_66 (c_X10_withOf am m kp wa fo ta bo so ce ik td tk bg aa vl bd (-1) hw) ⟨rfl, rfl, by decide, by decide, by decide, by decide⟩ [0, 1, 2, 3, 4, 5, 6, 7, 8] (by decide) rfl (fx_ro C) 0 10 rfl rfl rfl rfl (Nat.le_of_ble_eq_true rfl) dX10_now_50) (fun r3 u3 hw => ?_)
        exact j_iret C hB hR fo rfl dX10_now_53 hw rfl
      · replace hw := hw.2 z3
        by_cases z4 : a1 = 3
        · replace hw := hw.1 z4
          refine j_tabIn (off := 53) C 3 54 dX10_now_1 z4 (by decide) (by decide) (by decide) (by decide) ?_
          refine j_aload_n C 0 dX10_now_54 rfl ?_
          refine j_iconst C 1 dX10_now_55 (by decide) ?_
          refine j_ciZ C (jr_V C lkV_X10_131 (c_X10_sums am m kp wa fo ta bo so ce ik td tk bg aa vl bd 1 hw) ⟨rfl, rfl, by decide, by decide, by decide, by decide⟩ [0, 1, 2, 3, 4, 5, 6, 7, 8] (by decide) rfl (fx_ro C) 0 10 rfl rfl rfl rfl (Nat.le_of_ble_eq_true rfl) dX10_now_56) (fun r4 u4 hw => ?_)
          exact j_iret C hB hR fo rfl dX10_now_59 hw rfl
        · replace hw := hw.2 z4
          by_cases z5 : a1 = 4
          · replace hw := hw.1 z5
            refine j_tabIn (off := 59) C 4 60 dX10_now_1 z5 (by decide) (by decide) (by decide) (by decide) ?_
            refine j_aload_n C 0 dX10_now_60 rfl ?_
            refine j_ciZ C (jr_V C lkV_X10_134 (c_X10_allMade am m kp wa fo ta bo so ce ik td tk bg aa vl bd hw) ⟨rfl, rfl, by decide, by decide, by decide, by decide⟩ [0, 1, 2, 3, 4, 5, 6, 7, 8] (by decide) rfl (fx_ro C) 0 10 rfl rfl rfl rfl (Nat.le_of_ble_eq_true rfl) dX10_now_61) (fun r5 u5 hw => ?_)
            exact j_iret C hB hR fo rfl dX10_now_64 hw rfl
          · replace hw := hw.2 z5
            refine j_tabOut C 65 dX10_now_1 (by have qz1 := lv_neT z1 (show (0 : Int32).toInt = 0 from rfl); have qz2 := lv_neT z2 (show (1 : Int32).toInt = 1 from rfl); have qz3 := lv_neT z3 (show (2 : Int32).toInt = 2 from rfl); have qz4 := lv_neT z4 (show (3 : Int32).toInt = 3 from rfl); have qz5 := lv_neT z5 (show (4 : Int32).toInt = 4 from rfl); omega) (by decide) ?_
            refine j_aload_n C 0 dX10_now_65 rfl ?_
            refine j_ldc C dX10_now_66 ct_X10_35 ?_
            refine j_ciT C hB 0 9 (fun u6 : (Nat → Int32) => (wM ca am m kp wa u6 ta bo so ce ik td tk bg aa vl bd)) rfl (fun _ => rfl) (jr_V C lkV_X10_37 (c_X10_finds am m kp wa fo ta bo so ce ik td tk bg aa vl bd (-1000000001) hw) ⟨rfl, rfl, by decide, by decide, by decide, by decide⟩ [0, 1, 2, 3, 4, 5, 6, 7, 8] (by decide) rfl (fx_rw C hB [0, 1, 2, 3, 4, 5, 6, 7, 8] rfl) 0 10 rfl rfl rfl rfl (Nat.le_of_ble_eq_true rfl) dX10_now_68) (fun r6 u6 hw => ?_)
            exact j_iret C hB hR u6 rfl dX10_now_71 hw rfl
def wp_X10_on (m : Nat → Int32) (wa : Nat → Int32) (fo : Nat → Int32)  (a1 : Int32) (a2 : Int32) (a3 : Int32) (Q : (Int32) → (Nat → Int32) → (Nat → Int32) → (Nat → Int32) → Prop) : Prop := wp_X10_isThing m a1 (fun r1 => (r1 = 0 → wp_X10_finds fo (-1000000001) (fun r2 c2_0 => Q r2 m wa c2_0)) ∧ (¬ (r1 = 0) → wp_X10_in ((a2).toInt64) 0 100 (fun r3 => (r3 = 0 → wp_X10_finds fo (-1000000001) (fun r4 c4_0 => Q r4 m wa c4_0)) ∧ (¬ (r3 = 0) → wp_X10_in ((a3).toInt64) 0 2 (fun r5 => (r5 = 0 → wp_X10_finds fo (-1000000001) (fun r10 c10_0 => Q r10 m wa c10_0)) ∧ (¬ (r5 = 0) → wp_X10_thinks m wa (fun c6_0 => wp_X10_goesFor m a2 (fun c7_0 => wp_X10_it c7_0 a1 (1 + a3) (fun r8 => wp_X10_putsBack c7_0 c6_0 (fun c9_0 => Q r8 c9_0 c6_0 fo))))))))))
set_option maxRecDepth 100000 in
set_option maxHeartbeats 8000000 in
theorem c_X10_on {l : Launch} {D : va_G} {ca : Nat → ClassId} {sd : Nat → Nat}  (am : Nat → Nat) (m : Nat → Int32) (kp : Nat → Int32) (wa : Nat → Int32) (fo : Nat → Int32) (ta : Nat → Int32) (bo : Nat → Int32) (so : Nat → Int32) (ce : Nat → Int64) (ik : Int32) (td : Int32) (tk : Int32) (bg : Int32) (aa : Int32) (vl : Int32) (bd : Int32)  (a1 : Int32) (a2 : Int32) (a3 : Int32)  {Q : (Int32) → (Nat → Int32) → (Nat → Int32) → (Nat → Int32) → Prop} (hw : wp_X10_on m wa fo  a1 a2 a3 Q) : Cn l D ca sd yX10_on cX10_on 5 (some .int) { frames := 6, cells := 0, slots := 0, locals := 135 } [.ref (am 0), .int a1, .int a2, .int a3] (wM ca am m kp wa fo ta bo so ce ik td tk bg aa vl bd) (wM ca am m kp wa fo ta bo so ce ik td tk bg aa vl bd) 0 0 (Ri D (fun (r : Int32) (u : (Nat → Int32) × (Nat → Int32) × (Nat → Int32)) => Q r u.1 u.2.1 u.2.2) (fun u => (wM ca am u.1 kp u.2.1 u.2.2 ta bo so ce ik td tk bg aa vl bd))) := by
  refine cn_of (by decide) (Nat.le_of_ble_eq_true rfl) (fun k C hR hB _ => ?_)
  have C : Cx D ca sd cX10_on RX10 (some .int) { frames := 6, cells := 0, slots := 0, locals := 135 } k 5 := C
  unfold wp_X10_on at hw
  show J l D k 5 0 0 0 (wM ca am m kp wa fo ta bo so ce ik td tk bg aa vl bd) [(0, .ref (am 0)), (1, .int a1), (2, .int a2), (3, .int a3)] []
  refine j_aload_n C 0 dX10_on_0 rfl ?_
  refine j_iload_n C 1 dX10_on_1 rfl ?_
  refine j_ciZ C (jr_V C lkV_X10_81 (c_X10_isThing am m kp wa fo ta bo so ce ik td tk bg aa vl bd a1 hw) ⟨rfl, rfl, by decide, by decide, by decide, by decide⟩ [0, 1, 2, 3, 4, 5, 6, 7, 8] (by decide) rfl (fx_ro C) 0 10 rfl rfl rfl rfl (Nat.le_of_ble_eq_true rfl) dX10_on_2) (fun r1 u1 hw => ?_)
  refine j_if_eq C 29 dX10_on_5 (by decide) (fun z => ?_) (fun z => ?_)
  · replace hw := hw.1 z
    refine j_aload_n C 0 dX10_on_29 rfl ?_
    refine j_ldc C dX10_on_30 ct_X10_35 ?_
    refine j_ciT C hB 0 9 (fun u2 : (Nat → Int32) => (wM ca am m kp wa u2 ta bo so ce ik td tk bg aa vl bd)) rfl (fun _ => rfl) (jr_V C lkV_X10_37 (c_X10_finds am m kp wa fo ta bo so ce ik td tk bg aa vl bd (-1000000001) hw) ⟨rfl, rfl, by decide, by decide, by decide, by decide⟩ [0, 1, 2, 3, 4, 5, 6, 7, 8] (by decide) rfl (fx_rw C hB [0, 1, 2, 3, 4, 5, 6, 7, 8] rfl) 0 10 rfl rfl rfl rfl (Nat.le_of_ble_eq_true rfl) dX10_on_32) (fun r2 u2 hw => ?_)
    exact j_iret C hB hR (m, wa, u2) rfl dX10_on_35 hw rfl
  · replace hw := hw.2 z
    refine j_iload_n C 2 dX10_on_8 rfl ?_
    refine j_i2l C dX10_on_9 ?_
    refine j_iconst C 0 dX10_on_10 (by decide) ?_
    refine j_bipush C 100 dX10_on_11 (by decide) ?_
    refine j_ciZ C (jr_S C lkS_X10_41 (c_X10_in ((a2).toInt64) 0 100 hw) ⟨rfl, rfl, by decide, by decide, by decide, by decide⟩ [] (by decide) rfl (fx_ro C) rfl rfl (Nat.le_of_ble_eq_true rfl) dX10_on_13) (fun r3 u3 hw => ?_)
    refine j_if_eq C 29 dX10_on_16 (by decide) (fun z => ?_) (fun z => ?_)
    · replace hw := hw.1 z
      refine j_aload_n C 0 dX10_on_29 rfl ?_
      refine j_ldc C dX10_on_30 ct_X10_35 ?_
      refine j_ciT C hB 0 9 (fun u4 : (Nat → Int32) => (wM ca am m kp wa u4 ta bo so ce ik td tk bg aa vl bd)) rfl (fun _ => rfl) (jr_V C lkV_X10_37 (c_X10_finds am m kp wa fo ta bo so ce ik td tk bg aa vl bd (-1000000001) hw) ⟨rfl, rfl, by decide, by decide, by decide, by decide⟩ [0, 1, 2, 3, 4, 5, 6, 7, 8] (by decide) rfl (fx_rw C hB [0, 1, 2, 3, 4, 5, 6, 7, 8] rfl) 0 10 rfl rfl rfl rfl (Nat.le_of_ble_eq_true rfl) dX10_on_32) (fun r4 u4 hw => ?_)
      exact j_iret C hB hR (m, wa, u4) rfl dX10_on_35 hw rfl
    · replace hw := hw.2 z
      refine j_iload_n C 3 dX10_on_19 rfl ?_
      refine j_i2l C dX10_on_20 ?_
      refine j_iconst C 0 dX10_on_21 (by decide) ?_
      refine j_iconst C 2 dX10_on_22 (by decide) ?_
      refine j_ciZ C (jr_S C lkS_X10_41 (c_X10_in ((a3).toInt64) 0 2 hw) ⟨rfl, rfl, by decide, by decide, by decide, by decide⟩ [] (by decide) rfl (fx_ro C) rfl rfl (Nat.le_of_ble_eq_true rfl) dX10_on_23) (fun r5 u5 hw => ?_)
      refine j_if_ne C 36 dX10_on_26 (by decide) (fun z => ?_) (fun z => ?_)
      · replace hw := hw.2 z
        refine j_aload_n C 0 dX10_on_36 rfl ?_
        refine j_cvT C hB 0 9 (fun u6 : (Nat → Int32) => (wM ca am m kp u6 fo ta bo so ce ik td tk bg aa vl bd)) rfl (fun _ => rfl) (jr_V C lkV_X10_141 (c_X10_thinks am m kp wa fo ta bo so ce ik td tk bg aa vl bd hw) ⟨rfl, rfl, by decide, by decide, by decide, by decide⟩ [0, 1, 2, 3, 4, 5, 6, 7, 8] (by decide) rfl (fx_rw C hB [0, 1, 2, 3, 4, 5, 6, 7, 8] rfl) 0 10 rfl rfl rfl rfl (Nat.le_of_ble_eq_true rfl) dX10_on_37) (fun u6 hw => ?_)
        refine j_aload_n C 0 dX10_on_40 rfl ?_
        refine j_iload_n C 2 dX10_on_41 rfl ?_
        refine j_cvT C hB 0 9 (fun u7 : (Nat → Int32) => (wM ca am u7 kp u6 fo ta bo so ce ik td tk bg aa vl bd)) rfl (fun _ => rfl) (jr_V C lkV_X10_128 (c_X10_goesFor am m kp u6 fo ta bo so ce ik td tk bg aa vl bd a2 hw) ⟨rfl, rfl, by decide, by decide, by decide, by decide⟩ [0, 1, 2, 3, 4, 5, 6, 7, 8] (by decide) rfl (fx_rw C hB [0, 1, 2, 3, 4, 5, 6, 7, 8] rfl) 0 10 rfl rfl rfl rfl (Nat.le_of_ble_eq_true rfl) dX10_on_42) (fun u7 hw => ?_)
        refine j_aload_n C 0 dX10_on_45 rfl ?_
        refine j_iload_n C 1 dX10_on_46 rfl ?_
        refine j_iconst C 1 dX10_on_47 (by decide) ?_
        refine j_iload_n C 3 dX10_on_48 rfl ?_
        refine j_iadd C dX10_on_49 ?_
        refine j_ciZ C (jr_V C lkV_X10_45 (c_X10_it am u7 kp u6 fo ta bo so ce ik td tk bg aa vl bd a1 (1 + a3) hw) ⟨rfl, rfl, by decide, by decide, by decide, by decide⟩ [0, 1, 2, 3, 4, 5, 6, 7, 8] (by decide) rfl (fx_ro C) 0 10 rfl rfl rfl rfl (Nat.le_of_ble_eq_true rfl) dX10_on_50) (fun r8 u8 hw => ?_)
        refine j_istore C [(4, .int r8), (0, .ref (am 0)), (1, .int a1), (2, .int a2), (3, .int a3)] dX10_on_53 (by decide) rfl ?_
        refine j_aload_n C 1 dX10_on_55 rfl ?_
        refine j_cvT C hB 0 9 (fun u9 : (Nat → Int32) => (wM ca am u9 kp u6 fo ta bo so ce ik td tk bg aa vl bd)) rfl (fun _ => rfl) (jr_V C lkV_X10_144 (c_X10_putsBack am u7 kp u6 fo ta bo so ce ik td tk bg aa vl bd hw) ⟨rfl, rfl, by decide, by decide, by decide, by decide⟩ [0, 1, 2, 3, 4, 5, 6, 7, 8] (by decide) rfl (fx_rw C hB [0, 1, 2, 3, 4, 5, 6, 7, 8] rfl) 0 10 rfl rfl rfl rfl (Nat.le_of_ble_eq_true rfl) dX10_on_56) (fun u9 hw => ?_)
        refine j_iload C 0 dX10_on_59 rfl ?_
        exact j_iret C hB hR (u9, u6, fo) rfl dX10_on_61 hw rfl
      · replace hw := hw.1 z
        refine j_aload_n C 0 dX10_on_29 rfl ?_
        refine j_ldc C dX10_on_30 ct_X10_35 ?_
        refine j_ciT C hB 0 9 (fun u10 : (Nat → Int32) => (wM ca am m kp wa u10 ta bo so ce ik td tk bg aa vl bd)) rfl (fun _ => rfl) (jr_V C lkV_X10_37 (c_X10_finds am m kp wa fo ta bo so ce ik td tk bg aa vl bd (-1000000001) hw) ⟨rfl, rfl, by decide, by decide, by decide, by decide⟩ [0, 1, 2, 3, 4, 5, 6, 7, 8] (by decide) rfl (fx_rw C hB [0, 1, 2, 3, 4, 5, 6, 7, 8] rfl) 0 10 rfl rfl rfl rfl (Nat.le_of_ble_eq_true rfl) dX10_on_32) (fun r10 u10 hw => ?_)
        exact j_iret C hB hR (m, wa, u10) rfl dX10_on_35 hw rfl
def wp_X10_then (m : Nat → Int32) (wa : Nat → Int32) (fo : Nat → Int32)  (a1 : Int32) (a2 : Int32) (a3 : Int32) (Q : (Int32) → (Nat → Int32) → (Nat → Int32) → (Nat → Int32) → Prop) : Prop := wp_X10_isPerson a1 (fun r1 => (r1 = 0 → wp_X10_finds fo (-1000000001) (fun r2 c2_0 => Q r2 m wa c2_0)) ∧ (¬ (r1 = 0) → wp_X10_in ((a2).toInt64) 0 100 (fun r3 => (r3 = 0 → wp_X10_finds fo (-1000000001) (fun r4 c4_0 => Q r4 m wa c4_0)) ∧ (¬ (r3 = 0) → wp_X10_in ((a3).toInt64) 0 1 (fun r5 => (r5 = 0 → wp_X10_finds fo (-1000000001) (fun r10 c10_0 => Q r10 m wa c10_0)) ∧ (¬ (r5 = 0) → wp_X10_thinks m wa (fun c6_0 => wp_X10_goesFor m a2 (fun c7_0 => wp_X10_his c7_0 a1 (1 + a3) (fun r8 => wp_X10_putsBack c7_0 c6_0 (fun c9_0 => Q r8 c9_0 c6_0 fo))))))))))
set_option maxRecDepth 100000 in
set_option maxHeartbeats 8000000 in
theorem c_X10_then {l : Launch} {D : va_G} {ca : Nat → ClassId} {sd : Nat → Nat}  (am : Nat → Nat) (m : Nat → Int32) (kp : Nat → Int32) (wa : Nat → Int32) (fo : Nat → Int32) (ta : Nat → Int32) (bo : Nat → Int32) (so : Nat → Int32) (ce : Nat → Int64) (ik : Int32) (td : Int32) (tk : Int32) (bg : Int32) (aa : Int32) (vl : Int32) (bd : Int32)  (a1 : Int32) (a2 : Int32) (a3 : Int32)  {Q : (Int32) → (Nat → Int32) → (Nat → Int32) → (Nat → Int32) → Prop} (hw : wp_X10_then m wa fo  a1 a2 a3 Q) : Cn l D ca sd yX10_then cX10_then 5 (some .int) { frames := 6, cells := 0, slots := 0, locals := 135 } [.ref (am 0), .int a1, .int a2, .int a3] (wM ca am m kp wa fo ta bo so ce ik td tk bg aa vl bd) (wM ca am m kp wa fo ta bo so ce ik td tk bg aa vl bd) 0 0 (Ri D (fun (r : Int32) (u : (Nat → Int32) × (Nat → Int32) × (Nat → Int32)) => Q r u.1 u.2.1 u.2.2) (fun u => (wM ca am u.1 kp u.2.1 u.2.2 ta bo so ce ik td tk bg aa vl bd))) := by
  refine cn_of (by decide) (Nat.le_of_ble_eq_true rfl) (fun k C hR hB _ => ?_)
  have C : Cx D ca sd cX10_then RX10 (some .int) { frames := 6, cells := 0, slots := 0, locals := 135 } k 5 := C
  unfold wp_X10_then at hw
  show J l D k 5 0 0 0 (wM ca am m kp wa fo ta bo so ce ik td tk bg aa vl bd) [(0, .ref (am 0)), (1, .int a1), (2, .int a2), (3, .int a3)] []
  refine j_iload_n C 1 dX10_then_0 rfl ?_
  refine j_ciZ C (jr_S C lkS_X10_49 (c_X10_isPerson a1 hw) ⟨rfl, rfl, by decide, by decide, by decide, by decide⟩ [] (by decide) rfl (fx_ro C) rfl rfl (Nat.le_of_ble_eq_true rfl) dX10_then_1) (fun r1 u1 hw => ?_)
  refine j_if_eq C 28 dX10_then_4 (by decide) (fun z => ?_) (fun z => ?_)
  · replace hw := hw.1 z
    refine j_aload_n C 0 dX10_then_28 rfl ?_
    refine j_ldc C dX10_then_29 ct_X10_35 ?_
    refine j_ciT C hB 0 9 (fun u2 : (Nat → Int32) => (wM ca am m kp wa u2 ta bo so ce ik td tk bg aa vl bd)) rfl (fun _ => rfl) (jr_V C lkV_X10_37 (c_X10_finds am m kp wa fo ta bo so ce ik td tk bg aa vl bd (-1000000001) hw) ⟨rfl, rfl, by decide, by decide, by decide, by decide⟩ [0, 1, 2, 3, 4, 5, 6, 7, 8] (by decide) rfl (fx_rw C hB [0, 1, 2, 3, 4, 5, 6, 7, 8] rfl) 0 10 rfl rfl rfl rfl (Nat.le_of_ble_eq_true rfl) dX10_then_31) (fun r2 u2 hw => ?_)
    exact j_iret C hB hR (m, wa, u2) rfl dX10_then_34 hw rfl
  · replace hw := hw.2 z
    refine j_iload_n C 2 dX10_then_7 rfl ?_
    refine j_i2l C dX10_then_8 ?_
    refine j_iconst C 0 dX10_then_9 (by decide) ?_
    refine j_bipush C 100 dX10_then_10 (by decide) ?_
    refine j_ciZ C (jr_S C lkS_X10_41 (c_X10_in ((a2).toInt64) 0 100 hw) ⟨rfl, rfl, by decide, by decide, by decide, by decide⟩ [] (by decide) rfl (fx_ro C) rfl rfl (Nat.le_of_ble_eq_true rfl) dX10_then_12) (fun r3 u3 hw => ?_)
    refine j_if_eq C 28 dX10_then_15 (by decide) (fun z => ?_) (fun z => ?_)
    · replace hw := hw.1 z
      refine j_aload_n C 0 dX10_then_28 rfl ?_
      refine j_ldc C dX10_then_29 ct_X10_35 ?_
      refine j_ciT C hB 0 9 (fun u4 : (Nat → Int32) => (wM ca am m kp wa u4 ta bo so ce ik td tk bg aa vl bd)) rfl (fun _ => rfl) (jr_V C lkV_X10_37 (c_X10_finds am m kp wa fo ta bo so ce ik td tk bg aa vl bd (-1000000001) hw) ⟨rfl, rfl, by decide, by decide, by decide, by decide⟩ [0, 1, 2, 3, 4, 5, 6, 7, 8] (by decide) rfl (fx_rw C hB [0, 1, 2, 3, 4, 5, 6, 7, 8] rfl) 0 10 rfl rfl rfl rfl (Nat.le_of_ble_eq_true rfl) dX10_then_31) (fun r4 u4 hw => ?_)
      exact j_iret C hB hR (m, wa, u4) rfl dX10_then_34 hw rfl
    · replace hw := hw.2 z
      refine j_iload_n C 3 dX10_then_18 rfl ?_
      refine j_i2l C dX10_then_19 ?_
      refine j_iconst C 0 dX10_then_20 (by decide) ?_
      refine j_iconst C 1 dX10_then_21 (by decide) ?_
      refine j_ciZ C (jr_S C lkS_X10_41 (c_X10_in ((a3).toInt64) 0 1 hw) ⟨rfl, rfl, by decide, by decide, by decide, by decide⟩ [] (by decide) rfl (fx_ro C) rfl rfl (Nat.le_of_ble_eq_true rfl) dX10_then_22) (fun r5 u5 hw => ?_)
      refine j_if_ne C 35 dX10_then_25 (by decide) (fun z => ?_) (fun z => ?_)
      · replace hw := hw.2 z
        refine j_aload_n C 0 dX10_then_35 rfl ?_
        refine j_cvT C hB 0 9 (fun u6 : (Nat → Int32) => (wM ca am m kp u6 fo ta bo so ce ik td tk bg aa vl bd)) rfl (fun _ => rfl) (jr_V C lkV_X10_141 (c_X10_thinks am m kp wa fo ta bo so ce ik td tk bg aa vl bd hw) ⟨rfl, rfl, by decide, by decide, by decide, by decide⟩ [0, 1, 2, 3, 4, 5, 6, 7, 8] (by decide) rfl (fx_rw C hB [0, 1, 2, 3, 4, 5, 6, 7, 8] rfl) 0 10 rfl rfl rfl rfl (Nat.le_of_ble_eq_true rfl) dX10_then_36) (fun u6 hw => ?_)
        refine j_aload_n C 0 dX10_then_39 rfl ?_
        refine j_iload_n C 2 dX10_then_40 rfl ?_
        refine j_cvT C hB 0 9 (fun u7 : (Nat → Int32) => (wM ca am u7 kp u6 fo ta bo so ce ik td tk bg aa vl bd)) rfl (fun _ => rfl) (jr_V C lkV_X10_128 (c_X10_goesFor am m kp u6 fo ta bo so ce ik td tk bg aa vl bd a2 hw) ⟨rfl, rfl, by decide, by decide, by decide, by decide⟩ [0, 1, 2, 3, 4, 5, 6, 7, 8] (by decide) rfl (fx_rw C hB [0, 1, 2, 3, 4, 5, 6, 7, 8] rfl) 0 10 rfl rfl rfl rfl (Nat.le_of_ble_eq_true rfl) dX10_then_41) (fun u7 hw => ?_)
        refine j_aload_n C 0 dX10_then_44 rfl ?_
        refine j_iload_n C 1 dX10_then_45 rfl ?_
        refine j_iconst C 1 dX10_then_46 (by decide) ?_
        refine j_iload_n C 3 dX10_then_47 rfl ?_
        refine j_iadd C dX10_then_48 ?_
        refine j_ciZ C (jr_V C lkV_X10_63 (c_X10_his am u7 kp u6 fo ta bo so ce ik td tk bg aa vl bd a1 (1 + a3) hw) ⟨rfl, rfl, by decide, by decide, by decide, by decide⟩ [0, 1, 2, 3, 4, 5, 6, 7, 8] (by decide) rfl (fx_ro C) 0 10 rfl rfl rfl rfl (Nat.le_of_ble_eq_true rfl) dX10_then_49) (fun r8 u8 hw => ?_)
        refine j_istore C [(4, .int r8), (0, .ref (am 0)), (1, .int a1), (2, .int a2), (3, .int a3)] dX10_then_52 (by decide) rfl ?_
        refine j_aload_n C 1 dX10_then_54 rfl ?_
        refine j_cvT C hB 0 9 (fun u9 : (Nat → Int32) => (wM ca am u9 kp u6 fo ta bo so ce ik td tk bg aa vl bd)) rfl (fun _ => rfl) (jr_V C lkV_X10_144 (c_X10_putsBack am u7 kp u6 fo ta bo so ce ik td tk bg aa vl bd hw) ⟨rfl, rfl, by decide, by decide, by decide, by decide⟩ [0, 1, 2, 3, 4, 5, 6, 7, 8] (by decide) rfl (fx_rw C hB [0, 1, 2, 3, 4, 5, 6, 7, 8] rfl) 0 10 rfl rfl rfl rfl (Nat.le_of_ble_eq_true rfl) dX10_then_55) (fun u9 hw => ?_)
        refine j_iload C 0 dX10_then_58 rfl ?_
        exact j_iret C hB hR (u9, u6, fo) rfl dX10_then_60 hw rfl
      · replace hw := hw.1 z
        refine j_aload_n C 0 dX10_then_28 rfl ?_
        refine j_ldc C dX10_then_29 ct_X10_35 ?_
        refine j_ciT C hB 0 9 (fun u10 : (Nat → Int32) => (wM ca am m kp wa u10 ta bo so ce ik td tk bg aa vl bd)) rfl (fun _ => rfl) (jr_V C lkV_X10_37 (c_X10_finds am m kp wa fo ta bo so ce ik td tk bg aa vl bd (-1000000001) hw) ⟨rfl, rfl, by decide, by decide, by decide, by decide⟩ [0, 1, 2, 3, 4, 5, 6, 7, 8] (by decide) rfl (fx_rw C hB [0, 1, 2, 3, 4, 5, 6, 7, 8] rfl) 0 10 rfl rfl rfl rfl (Nat.le_of_ble_eq_true rfl) dX10_then_31) (fun r10 u10 hw => ?_)
        exact j_iret C hB hR (m, wa, u10) rfl dX10_then_34 hw rfl
def wp_X10_finished (m : Nat → Int32) (wa : Nat → Int32) (fo : Nat → Int32)  (a1 : Int32) (Q : (Int32) → (Nat → Int32) → (Nat → Int32) → (Nat → Int32) → Prop) : Prop := wp_X10_isThing m a1 (fun r1 => (r1 = 0 → wp_X10_finds fo (-1000000001) (fun r5 c5_0 => Q r5 m wa c5_0)) ∧ (¬ (r1 = 0) → wp_X10_thinks m wa (fun c2_0 => wp_X10_doneIn m c2_0 a1 200 (fun r3 c3_0 => wp_X10_orNone fo r3 (fun r4 c4_0 => Q r4 c3_0 c2_0 c4_0)))))
set_option maxRecDepth 100000 in
set_option maxHeartbeats 8000000 in
theorem c_X10_finished {l : Launch} {D : va_G} {ca : Nat → ClassId} {sd : Nat → Nat}  (am : Nat → Nat) (m : Nat → Int32) (kp : Nat → Int32) (wa : Nat → Int32) (fo : Nat → Int32) (ta : Nat → Int32) (bo : Nat → Int32) (so : Nat → Int32) (ce : Nat → Int64) (ik : Int32) (td : Int32) (tk : Int32) (bg : Int32) (aa : Int32) (vl : Int32) (bd : Int32)  (a1 : Int32)  {Q : (Int32) → (Nat → Int32) → (Nat → Int32) → (Nat → Int32) → Prop} (hw : wp_X10_finished m wa fo  a1 Q) : Cn l D ca sd yX10_finished cX10_finished 2 (some .int) { frames := 6, cells := 0, slots := 0, locals := 136 } [.ref (am 0), .int a1] (wM ca am m kp wa fo ta bo so ce ik td tk bg aa vl bd) (wM ca am m kp wa fo ta bo so ce ik td tk bg aa vl bd) 0 0 (Ri D (fun (r : Int32) (u : (Nat → Int32) × (Nat → Int32) × (Nat → Int32)) => Q r u.1 u.2.1 u.2.2) (fun u => (wM ca am u.1 kp u.2.1 u.2.2 ta bo so ce ik td tk bg aa vl bd))) := by
  refine cn_of (by decide) (Nat.le_of_ble_eq_true rfl) (fun k C hR hB _ => ?_)
  have C : Cx D ca sd cX10_finished RX10 (some .int) { frames := 6, cells := 0, slots := 0, locals := 136 } k 2 := C
  unfold wp_X10_finished at hw
  show J l D k 2 0 0 0 (wM ca am m kp wa fo ta bo so ce ik td tk bg aa vl bd) [(0, .ref (am 0)), (1, .int a1)] []
  refine j_aload_n C 0 dX10_finished_0 rfl ?_
  refine j_iload_n C 1 dX10_finished_1 rfl ?_
  refine j_ciZ C (jr_V C lkV_X10_81 (c_X10_isThing am m kp wa fo ta bo so ce ik td tk bg aa vl bd a1 hw) ⟨rfl, rfl, by decide, by decide, by decide, by decide⟩ [0, 1, 2, 3, 4, 5, 6, 7, 8] (by decide) rfl (fx_ro C) 0 10 rfl rfl rfl rfl (Nat.le_of_ble_eq_true rfl) dX10_finished_2) (fun r1 u1 hw => ?_)
  refine j_if_ne C 15 dX10_finished_5 (by decide) (fun z => ?_) (fun z => ?_)
  · replace hw := hw.2 z
    refine j_aload_n C 0 dX10_finished_15 rfl ?_
    refine j_cvT C hB 0 9 (fun u2 : (Nat → Int32) => (wM ca am m kp u2 fo ta bo so ce ik td tk bg aa vl bd)) rfl (fun _ => rfl) (jr_V C lkV_X10_141 (c_X10_thinks am m kp wa fo ta bo so ce ik td tk bg aa vl bd hw) ⟨rfl, rfl, by decide, by decide, by decide, by decide⟩ [0, 1, 2, 3, 4, 5, 6, 7, 8] (by decide) rfl (fx_rw C hB [0, 1, 2, 3, 4, 5, 6, 7, 8] rfl) 0 10 rfl rfl rfl rfl (Nat.le_of_ble_eq_true rfl) dX10_finished_16) (fun u2 hw => ?_)
    refine j_aload_n C 0 dX10_finished_19 rfl ?_
    refine j_aload_n C 0 dX10_finished_20 rfl ?_
    refine j_iload_n C 1 dX10_finished_21 rfl ?_
    refine j_sipush C 200 dX10_finished_22 (by decide) ?_
    refine j_ciT C hB 0 9 (fun u3 : (Nat → Int32) => (wM ca am u3 kp u2 fo ta bo so ce ik td tk bg aa vl bd)) rfl (fun _ => rfl) (jr_V C lkV_X10_147 (c_X10_doneIn am m kp u2 fo ta bo so ce ik td tk bg aa vl bd a1 200 hw) ⟨rfl, rfl, by decide, by decide, by decide, by decide⟩ [0, 1, 2, 3, 4, 5, 6, 7, 8] (by decide) rfl (fx_rw C hB [0, 1, 2, 3, 4, 5, 6, 7, 8] rfl) 0 10 rfl rfl rfl rfl (Nat.le_of_ble_eq_true rfl) dX10_finished_25) (fun r3 u3 hw => ?_)
    refine j_ciT C hB 0 9 (fun u4 : (Nat → Int32) => (wM ca am u3 kp u2 u4 ta bo so ce ik td tk bg aa vl bd)) rfl (fun _ => rfl) (jr_V C lkV_X10_110 (c_X10_orNone am u3 kp u2 fo ta bo so ce ik td tk bg aa vl bd r3 hw) ⟨rfl, rfl, by decide, by decide, by decide, by decide⟩ [0, 1, 2, 3, 4, 5, 6, 7, 8] (by decide) rfl (fx_rw C hB [0, 1, 2, 3, 4, 5, 6, 7, 8] rfl) 0 10 rfl rfl rfl rfl (Nat.le_of_ble_eq_true rfl) dX10_finished_28) (fun r4 u4 hw => ?_)
    exact j_iret C hB hR (u3, u2, u4) rfl dX10_finished_31 hw rfl
  · replace hw := hw.1 z
    refine j_aload_n C 0 dX10_finished_8 rfl ?_
    refine j_ldc C dX10_finished_9 ct_X10_35 ?_
    refine j_ciT C hB 0 9 (fun u5 : (Nat → Int32) => (wM ca am m kp wa u5 ta bo so ce ik td tk bg aa vl bd)) rfl (fun _ => rfl) (jr_V C lkV_X10_37 (c_X10_finds am m kp wa fo ta bo so ce ik td tk bg aa vl bd (-1000000001) hw) ⟨rfl, rfl, by decide, by decide, by decide, by decide⟩ [0, 1, 2, 3, 4, 5, 6, 7, 8] (by decide) rfl (fx_rw C hB [0, 1, 2, 3, 4, 5, 6, 7, 8] rfl) 0 10 rfl rfl rfl rfl (Nat.le_of_ble_eq_true rfl) dX10_finished_11) (fun r5 u5 hw => ?_)
    exact j_iret C hB hR (m, wa, u5) rfl dX10_finished_14 hw rfl
def wpl_X10_comes_28 (x1 : Int32) (x2 : Int32) (K : (Int32) → (Nat → Int32) → Prop) : Nat → (Int32) → (Nat → Int32) → Prop
  | 0, _, _ => False
  | n + 1, x3, m => (200 < x3 → K x3 m) ∧ (¬ (200 < x3) → wp_X10_it m x1 2 (fun r5 => (r5 = x2 → K x3 m) ∧ (¬ (r5 = x2) → wp_X10_goes m (fun c6_0 => wpl_X10_comes_28 x1 x2  K n (x3 + 1) c6_0))))
def wp_X10_comes (m : Nat → Int32) (wa : Nat → Int32) (fo : Nat → Int32)  (a1 : Int32) (a2 : Int32) (Q : (Int32) → (Nat → Int32) → (Nat → Int32) → (Nat → Int32) → Prop) : Prop := wp_X10_isThing m a1 (fun r1 => (r1 = 0 → wp_X10_finds fo (-1000000001) (fun r2 c2_0 => Q r2 m wa c2_0)) ∧ (¬ (r1 = 0) → wp_X10_isPerson a2 (fun r3 => (r3 = 0 → wp_X10_finds fo (-1000000001) (fun r10 c10_0 => Q r10 m wa c10_0)) ∧ (¬ (r3 = 0) → wp_X10_thinks m wa (fun c4_0 => ∃ n7 : Nat, wpl_X10_comes_28 a1 a2  (fun y7_3 y7_m => wp_X10_putsBack y7_m c4_0 (fun c8_0 => (y7_3 ≤ 200 → Q y7_3 c8_0 c4_0 fo) ∧ (¬ (y7_3 ≤ 200) → wp_X10_finds fo (-1000000004) (fun r9 c9_0 => Q r9 c8_0 c4_0 c9_0)))) n7 0 m)))))
set_option maxRecDepth 100000 in
set_option maxHeartbeats 8000000 in
theorem ml_X10_comes_28 {l : Launch} {D : va_G} {ca : Nat → ClassId} {sd : Nat → Nat}  {k : Kx} (am : Nat → Nat)  (kp : Nat → Int32) (wa : Nat → Int32) (fo : Nat → Int32) (ta : Nat → Int32) (bo : Nat → Int32) (so : Nat → Int32) (ce : Nat → Int64) (ik : Int32) (td : Int32) (tk : Int32) (bg : Int32) (aa : Int32) (vl : Int32) (bd : Int32) (x1 : Int32) (x2 : Int32) (C : Cx D ca sd cX10_comes RX10 (some .int) { frames := 5, cells := 0, slots := 0, locals := 113 } k 4) {Q : (Int32) → (Nat → Int32) → (Nat → Int32) → (Nat → Int32) → Prop} (hR : Rx (Ri D (fun (r : Int32) (u : (Nat → Int32) × (Nat → Int32) × (Nat → Int32)) => Q r u.1 u.2.1 u.2.2) (fun u => (wM ca am u.1 kp u.2.1 u.2.2 ta bo so ce ik td tk bg aa vl bd))) 0 0 k) (hB : Wx k) {K : (Int32) → (Nat → Int32) → Prop} (hK : ∀ (x3' : Int32) (m' : Nat → Int32), K x3' m' → J l D k 4 0 0 55 (wM ca am m' kp wa fo ta bo so ce ik td tk bg aa vl bd) [(0, .ref (am 0)), (1, .int x1), (2, .int x2), (3, .int x3')] []) : ∀ (n : Nat) (x3 : Int32) (m : Nat → Int32), wpl_X10_comes_28 x1 x2  K n x3 m → J l D k 4 0 0 28 (wM ca am m kp wa fo ta bo so ce ik td tk bg aa vl bd) [(0, .ref (am 0)), (1, .int x1), (2, .int x2), (3, .int x3)] [] := by
  intro n
  induction n with
  | zero =>
    intro x3 m hw
    rw [wpl_X10_comes_28] at hw
    exact hw.elim
  | succ n ih =>
    intro x3 m hw
    rw [wpl_X10_comes_28] at hw
    refine j_iload_n C 3 dX10_comes_28 rfl ?_
    refine j_sipush C 200 dX10_comes_29 (by decide) ?_
    refine j_icmp_gt C 55 dX10_comes_32 (by decide) (fun z => ?_) (fun z => ?_)
    · replace hw := hw.1 z
      exact hK x3 m hw
    · replace hw := hw.2 z
      refine j_aload_n C 0 dX10_comes_35 rfl ?_
      refine j_iload_n C 1 dX10_comes_36 rfl ?_
      refine j_iconst C 2 dX10_comes_37 (by decide) ?_
      refine j_ciZ C (jr_V C lkV_X10_45 (c_X10_it am m kp wa fo ta bo so ce ik td tk bg aa vl bd x1 2 hw) ⟨rfl, rfl, by decide, by decide, by decide, by decide⟩ [0, 1, 2, 3, 4, 5, 6, 7, 8] (by decide) rfl (fx_ro C) 0 10 rfl rfl rfl rfl (Nat.le_of_ble_eq_true rfl) dX10_comes_38) (fun r5 u5 hw => ?_)
      refine j_iload_n C 2 dX10_comes_41 rfl ?_
      refine j_icmp_eq C 55 dX10_comes_42 (by decide) (fun z => ?_) (fun z => ?_)
      · replace hw := hw.1 z
        exact hK x3 m hw
      · replace hw := hw.2 z
        refine j_aload_n C 0 dX10_comes_45 rfl ?_
        refine j_cvT C hB 0 9 (fun u6 : (Nat → Int32) => (wM ca am u6 kp wa fo ta bo so ce ik td tk bg aa vl bd)) rfl (fun _ => rfl) (jr_V C lkV_X10_121 (c_X10_goes am m kp wa fo ta bo so ce ik td tk bg aa vl bd hw) ⟨rfl, rfl, by decide, by decide, by decide, by decide⟩ [0, 1, 2, 3, 4, 5, 6, 7, 8] (by decide) rfl (fx_rw C hB [0, 1, 2, 3, 4, 5, 6, 7, 8] rfl) 0 10 rfl rfl rfl rfl (Nat.le_of_ble_eq_true rfl) dX10_comes_46) (fun u6 hw => ?_)
        refine j_iinc C 3 (x3 + 1) [(3, .int (x3 + 1)), (0, .ref (am 0)), (1, .int x1), (2, .int x2)] dX10_comes_49 rfl rfl (by decide) rfl ?_
        refine j_goto C 28 dX10_comes_52 (by decide) ?_
        refine j_lsub [1, 2, 3, 0] [(0, .ref (am 0)), (1, .int x1), (2, .int x2), (3, .int (x3 + 1))] rfl ?_
        exact ih (x3 + 1) u6 hw
set_option maxRecDepth 100000 in
set_option maxHeartbeats 8000000 in
theorem c_X10_comes {l : Launch} {D : va_G} {ca : Nat → ClassId} {sd : Nat → Nat}  (am : Nat → Nat) (m : Nat → Int32) (kp : Nat → Int32) (wa : Nat → Int32) (fo : Nat → Int32) (ta : Nat → Int32) (bo : Nat → Int32) (so : Nat → Int32) (ce : Nat → Int64) (ik : Int32) (td : Int32) (tk : Int32) (bg : Int32) (aa : Int32) (vl : Int32) (bd : Int32)  (a1 : Int32) (a2 : Int32)  {Q : (Int32) → (Nat → Int32) → (Nat → Int32) → (Nat → Int32) → Prop} (hw : wp_X10_comes m wa fo  a1 a2 Q) : Cn l D ca sd yX10_comes cX10_comes 4 (some .int) { frames := 5, cells := 0, slots := 0, locals := 113 } [.ref (am 0), .int a1, .int a2] (wM ca am m kp wa fo ta bo so ce ik td tk bg aa vl bd) (wM ca am m kp wa fo ta bo so ce ik td tk bg aa vl bd) 0 0 (Ri D (fun (r : Int32) (u : (Nat → Int32) × (Nat → Int32) × (Nat → Int32)) => Q r u.1 u.2.1 u.2.2) (fun u => (wM ca am u.1 kp u.2.1 u.2.2 ta bo so ce ik td tk bg aa vl bd))) := by
  refine cn_of (by decide) (Nat.le_of_ble_eq_true rfl) (fun k C hR hB _ => ?_)
  have C : Cx D ca sd cX10_comes RX10 (some .int) { frames := 5, cells := 0, slots := 0, locals := 113 } k 4 := C
  unfold wp_X10_comes at hw
  show J l D k 4 0 0 0 (wM ca am m kp wa fo ta bo so ce ik td tk bg aa vl bd) [(0, .ref (am 0)), (1, .int a1), (2, .int a2)] []
  refine j_aload_n C 0 dX10_comes_0 rfl ?_
  refine j_iload_n C 1 dX10_comes_1 rfl ?_
  refine j_ciZ C (jr_V C lkV_X10_81 (c_X10_isThing am m kp wa fo ta bo so ce ik td tk bg aa vl bd a1 hw) ⟨rfl, rfl, by decide, by decide, by decide, by decide⟩ [0, 1, 2, 3, 4, 5, 6, 7, 8] (by decide) rfl (fx_ro C) 0 10 rfl rfl rfl rfl (Nat.le_of_ble_eq_true rfl) dX10_comes_2) (fun r1 u1 hw => ?_)
  refine j_if_eq C 15 dX10_comes_5 (by decide) (fun z => ?_) (fun z => ?_)
  · replace hw := hw.1 z
    refine j_aload_n C 0 dX10_comes_15 rfl ?_
    refine j_ldc C dX10_comes_16 ct_X10_35 ?_
    refine j_ciT C hB 0 9 (fun u2 : (Nat → Int32) => (wM ca am m kp wa u2 ta bo so ce ik td tk bg aa vl bd)) rfl (fun _ => rfl) (jr_V C lkV_X10_37 (c_X10_finds am m kp wa fo ta bo so ce ik td tk bg aa vl bd (-1000000001) hw) ⟨rfl, rfl, by decide, by decide, by decide, by decide⟩ [0, 1, 2, 3, 4, 5, 6, 7, 8] (by decide) rfl (fx_rw C hB [0, 1, 2, 3, 4, 5, 6, 7, 8] rfl) 0 10 rfl rfl rfl rfl (Nat.le_of_ble_eq_true rfl) dX10_comes_18) (fun r2 u2 hw => ?_)
    exact j_iret C hB hR (m, wa, u2) rfl dX10_comes_21 hw rfl
  · replace hw := hw.2 z
    refine j_iload_n C 2 dX10_comes_8 rfl ?_
    refine j_ciZ C (jr_S C lkS_X10_49 (c_X10_isPerson a2 hw) ⟨rfl, rfl, by decide, by decide, by decide, by decide⟩ [] (by decide) rfl (fx_ro C) rfl rfl (Nat.le_of_ble_eq_true rfl) dX10_comes_9) (fun r3 u3 hw => ?_)
    refine j_if_ne C 22 dX10_comes_12 (by decide) (fun z => ?_) (fun z => ?_)
    · replace hw := hw.2 z
      refine j_aload_n C 0 dX10_comes_22 rfl ?_
      refine j_cvT C hB 0 9 (fun u4 : (Nat → Int32) => (wM ca am m kp u4 fo ta bo so ce ik td tk bg aa vl bd)) rfl (fun _ => rfl) (jr_V C lkV_X10_141 (c_X10_thinks am m kp wa fo ta bo so ce ik td tk bg aa vl bd hw) ⟨rfl, rfl, by decide, by decide, by decide, by decide⟩ [0, 1, 2, 3, 4, 5, 6, 7, 8] (by decide) rfl (fx_rw C hB [0, 1, 2, 3, 4, 5, 6, 7, 8] rfl) 0 10 rfl rfl rfl rfl (Nat.le_of_ble_eq_true rfl) dX10_comes_23) (fun u4 hw => ?_)
      refine j_iconst C 0 dX10_comes_26 (by decide) ?_
      refine j_istore_n C [(3, .int 0), (0, .ref (am 0)), (1, .int a1), (2, .int a2)] dX10_comes_27 (by decide) rfl ?_
      refine j_lsub [1, 2, 3, 0] [(0, .ref (am 0)), (1, .int a1), (2, .int a2), (3, .int 0)] rfl ?_
      obtain ⟨n7, hw⟩ := hw
      refine ml_X10_comes_28 am  kp u4 fo ta bo so ce ik td tk bg aa vl bd a1 a2 C hR hB (fun y7_3 y7_m hw => ?_) n7 0 m hw
      refine j_aload_n C 0 dX10_comes_55 rfl ?_
      refine j_cvT C hB 0 9 (fun u8 : (Nat → Int32) => (wM ca am u8 kp u4 fo ta bo so ce ik td tk bg aa vl bd)) rfl (fun _ => rfl) (jr_V C lkV_X10_144 (c_X10_putsBack am y7_m kp u4 fo ta bo so ce ik td tk bg aa vl bd hw) ⟨rfl, rfl, by decide, by decide, by decide, by decide⟩ [0, 1, 2, 3, 4, 5, 6, 7, 8] (by decide) rfl (fx_rw C hB [0, 1, 2, 3, 4, 5, 6, 7, 8] rfl) 0 10 rfl rfl rfl rfl (Nat.le_of_ble_eq_true rfl) dX10_comes_56) (fun u8 hw => ?_)
      refine j_iload_n C 3 dX10_comes_59 rfl ?_
      refine j_sipush C 200 dX10_comes_60 (by decide) ?_
      refine j_icmp_le C 75 dX10_comes_63 (by decide) (fun z => ?_) (fun z => ?_)
      · replace hw := hw.1 z
        refine j_iload_n C 3 dX10_comes_75 rfl ?_
        exact j_iret C hB hR (u8, u4, fo) rfl dX10_comes_76 hw rfl
      · replace hw := hw.2 z
        refine j_aload_n C 0 dX10_comes_66 rfl ?_
        refine j_ldc C dX10_comes_67 ct_X10_36 ?_
        refine j_ciT C hB 0 9 (fun u9 : (Nat → Int32) => (wM ca am u8 kp u4 u9 ta bo so ce ik td tk bg aa vl bd)) rfl (fun _ => rfl) (jr_V C lkV_X10_37 (c_X10_finds am u8 kp u4 fo ta bo so ce ik td tk bg aa vl bd (-1000000004) hw) ⟨rfl, rfl, by decide, by decide, by decide, by decide⟩ [0, 1, 2, 3, 4, 5, 6, 7, 8] (by decide) rfl (fx_rw C hB [0, 1, 2, 3, 4, 5, 6, 7, 8] rfl) 0 10 rfl rfl rfl rfl (Nat.le_of_ble_eq_true rfl) dX10_comes_69) (fun r9 u9 hw => ?_)
        refine j_goto C 76 dX10_comes_72 (by decide) ?_
        exact j_iret C hB hR (u8, u4, u9) rfl dX10_comes_76 hw rfl
    · replace hw := hw.1 z
      refine j_aload_n C 0 dX10_comes_15 rfl ?_
      refine j_ldc C dX10_comes_16 ct_X10_35 ?_
      refine j_ciT C hB 0 9 (fun u10 : (Nat → Int32) => (wM ca am m kp wa u10 ta bo so ce ik td tk bg aa vl bd)) rfl (fun _ => rfl) (jr_V C lkV_X10_37 (c_X10_finds am m kp wa fo ta bo so ce ik td tk bg aa vl bd (-1000000001) hw) ⟨rfl, rfl, by decide, by decide, by decide, by decide⟩ [0, 1, 2, 3, 4, 5, 6, 7, 8] (by decide) rfl (fx_rw C hB [0, 1, 2, 3, 4, 5, 6, 7, 8] rfl) 0 10 rfl rfl rfl rfl (Nat.le_of_ble_eq_true rfl) dX10_comes_18) (fun r10 u10 hw => ?_)
      exact j_iret C hB hR (m, wa, u10) rfl dX10_comes_21 hw rfl
def wpl_X10_all_6  (K : (Int32) → (Nat → Int32) → Prop) : Nat → (Int32) → (Nat → Int32) → Prop
  | 0, _, _ => False
  | n + 1, x1, m => (200 < x1 → K x1 m) ∧ (¬ (200 < x1) → wp_X10_areDone m (fun r2 => (r2 = 0 → wp_X10_goes m (fun c3_0 => wpl_X10_all_6   K n (x1 + 1) c3_0)) ∧ (¬ (r2 = 0) → K x1 m)))
def wp_X10_all (m : Nat → Int32) (wa : Nat → Int32) (fo : Nat → Int32)   (Q : (Int32) → (Nat → Int32) → (Nat → Int32) → (Nat → Int32) → Prop) : Prop := wp_X10_thinks m wa (fun c1_0 => ∃ n4 : Nat, wpl_X10_all_6   (fun y4_1 y4_m => wp_X10_putsBack y4_m c1_0 (fun c5_0 => (y4_1 ≤ 200 → Q y4_1 c5_0 c1_0 fo) ∧ (¬ (y4_1 ≤ 200) → wp_X10_finds fo (-1000000004) (fun r6 c6_0 => Q r6 c5_0 c1_0 c6_0)))) n4 0 m)
set_option maxRecDepth 100000 in
set_option maxHeartbeats 8000000 in
theorem ml_X10_all_6 {l : Launch} {D : va_G} {ca : Nat → ClassId} {sd : Nat → Nat}  {k : Kx} (am : Nat → Nat)  (kp : Nat → Int32) (wa : Nat → Int32) (fo : Nat → Int32) (ta : Nat → Int32) (bo : Nat → Int32) (so : Nat → Int32) (ce : Nat → Int64) (ik : Int32) (td : Int32) (tk : Int32) (bg : Int32) (aa : Int32) (vl : Int32) (bd : Int32) (C : Cx D ca sd cX10_all RX10 (some .int) { frames := 5, cells := 0, slots := 0, locals := 113 } k 2) {Q : (Int32) → (Nat → Int32) → (Nat → Int32) → (Nat → Int32) → Prop} (hR : Rx (Ri D (fun (r : Int32) (u : (Nat → Int32) × (Nat → Int32) × (Nat → Int32)) => Q r u.1 u.2.1 u.2.2) (fun u => (wM ca am u.1 kp u.2.1 u.2.2 ta bo so ce ik td tk bg aa vl bd))) 0 0 k) (hB : Wx k) {K : (Int32) → (Nat → Int32) → Prop} (hK : ∀ (x1' : Int32) (m' : Nat → Int32), K x1' m' → J l D k 2 0 0 30 (wM ca am m' kp wa fo ta bo so ce ik td tk bg aa vl bd) [(0, .ref (am 0)), (1, .int x1')] []) : ∀ (n : Nat) (x1 : Int32) (m : Nat → Int32), wpl_X10_all_6   K n x1 m → J l D k 2 0 0 6 (wM ca am m kp wa fo ta bo so ce ik td tk bg aa vl bd) [(0, .ref (am 0)), (1, .int x1)] [] := by
  intro n
  induction n with
  | zero =>
    intro x1 m hw
    rw [wpl_X10_all_6] at hw
    exact hw.elim
  | succ n ih =>
    intro x1 m hw
    rw [wpl_X10_all_6] at hw
    refine j_iload_n C 1 dX10_all_6 rfl ?_
    refine j_sipush C 200 dX10_all_7 (by decide) ?_
    refine j_icmp_gt C 30 dX10_all_10 (by decide) (fun z => ?_) (fun z => ?_)
    · replace hw := hw.1 z
      exact hK x1 m hw
    · replace hw := hw.2 z
      refine j_aload_n C 0 dX10_all_13 rfl ?_
      refine j_ciZ C (jr_V C lkV_X10_150 (c_X10_areDone am m kp wa fo ta bo so ce ik td tk bg aa vl bd hw) ⟨rfl, rfl, by decide, by decide, by decide, by decide⟩ [0, 1, 2, 3, 4, 5, 6, 7, 8] (by decide) rfl (fx_ro C) 0 10 rfl rfl rfl rfl (Nat.le_of_ble_eq_true rfl) dX10_all_14) (fun r2 u2 hw => ?_)
      refine j_if_ne C 30 dX10_all_17 (by decide) (fun z => ?_) (fun z => ?_)
      · replace hw := hw.2 z
        exact hK x1 m hw
      · replace hw := hw.1 z
        refine j_aload_n C 0 dX10_all_20 rfl ?_
        refine j_cvT C hB 0 9 (fun u3 : (Nat → Int32) => (wM ca am u3 kp wa fo ta bo so ce ik td tk bg aa vl bd)) rfl (fun _ => rfl) (jr_V C lkV_X10_121 (c_X10_goes am m kp wa fo ta bo so ce ik td tk bg aa vl bd hw) ⟨rfl, rfl, by decide, by decide, by decide, by decide⟩ [0, 1, 2, 3, 4, 5, 6, 7, 8] (by decide) rfl (fx_rw C hB [0, 1, 2, 3, 4, 5, 6, 7, 8] rfl) 0 10 rfl rfl rfl rfl (Nat.le_of_ble_eq_true rfl) dX10_all_21) (fun u3 hw => ?_)
        refine j_iinc C 1 (x1 + 1) [(1, .int (x1 + 1)), (0, .ref (am 0))] dX10_all_24 rfl rfl (by decide) rfl ?_
        refine j_goto C 6 dX10_all_27 (by decide) ?_
        refine j_lsub [1, 0] [(0, .ref (am 0)), (1, .int (x1 + 1))] rfl ?_
        exact ih (x1 + 1) u3 hw
set_option maxRecDepth 100000 in
set_option maxHeartbeats 8000000 in
theorem c_X10_all {l : Launch} {D : va_G} {ca : Nat → ClassId} {sd : Nat → Nat}  (am : Nat → Nat) (m : Nat → Int32) (kp : Nat → Int32) (wa : Nat → Int32) (fo : Nat → Int32) (ta : Nat → Int32) (bo : Nat → Int32) (so : Nat → Int32) (ce : Nat → Int64) (ik : Int32) (td : Int32) (tk : Int32) (bg : Int32) (aa : Int32) (vl : Int32) (bd : Int32)    {Q : (Int32) → (Nat → Int32) → (Nat → Int32) → (Nat → Int32) → Prop} (hw : wp_X10_all m wa fo   Q) : Cn l D ca sd yX10_all cX10_all 2 (some .int) { frames := 5, cells := 0, slots := 0, locals := 113 } [.ref (am 0)] (wM ca am m kp wa fo ta bo so ce ik td tk bg aa vl bd) (wM ca am m kp wa fo ta bo so ce ik td tk bg aa vl bd) 0 0 (Ri D (fun (r : Int32) (u : (Nat → Int32) × (Nat → Int32) × (Nat → Int32)) => Q r u.1 u.2.1 u.2.2) (fun u => (wM ca am u.1 kp u.2.1 u.2.2 ta bo so ce ik td tk bg aa vl bd))) := by
  refine cn_of (by decide) (Nat.le_of_ble_eq_true rfl) (fun k C hR hB _ => ?_)
  have C : Cx D ca sd cX10_all RX10 (some .int) { frames := 5, cells := 0, slots := 0, locals := 113 } k 2 := C
  unfold wp_X10_all at hw
  show J l D k 2 0 0 0 (wM ca am m kp wa fo ta bo so ce ik td tk bg aa vl bd) [(0, .ref (am 0))] []
  refine j_aload_n C 0 dX10_all_0 rfl ?_
  refine j_cvT C hB 0 9 (fun u1 : (Nat → Int32) => (wM ca am m kp u1 fo ta bo so ce ik td tk bg aa vl bd)) rfl (fun _ => rfl) (jr_V C lkV_X10_141 (c_X10_thinks am m kp wa fo ta bo so ce ik td tk bg aa vl bd hw) ⟨rfl, rfl, by decide, by decide, by decide, by decide⟩ [0, 1, 2, 3, 4, 5, 6, 7, 8] (by decide) rfl (fx_rw C hB [0, 1, 2, 3, 4, 5, 6, 7, 8] rfl) 0 10 rfl rfl rfl rfl (Nat.le_of_ble_eq_true rfl) dX10_all_1) (fun u1 hw => ?_)
  refine j_iconst C 0 dX10_all_4 (by decide) ?_
  refine j_istore_n C [(1, .int 0), (0, .ref (am 0))] dX10_all_5 (by decide) rfl ?_
  refine j_lsub [1, 0] [(0, .ref (am 0)), (1, .int 0)] rfl ?_
  obtain ⟨n4, hw⟩ := hw
  refine ml_X10_all_6 am  kp u1 fo ta bo so ce ik td tk bg aa vl bd C hR hB (fun y4_1 y4_m hw => ?_) n4 0 m hw
  refine j_aload_n C 0 dX10_all_30 rfl ?_
  refine j_cvT C hB 0 9 (fun u5 : (Nat → Int32) => (wM ca am u5 kp u1 fo ta bo so ce ik td tk bg aa vl bd)) rfl (fun _ => rfl) (jr_V C lkV_X10_144 (c_X10_putsBack am y4_m kp u1 fo ta bo so ce ik td tk bg aa vl bd hw) ⟨rfl, rfl, by decide, by decide, by decide, by decide⟩ [0, 1, 2, 3, 4, 5, 6, 7, 8] (by decide) rfl (fx_rw C hB [0, 1, 2, 3, 4, 5, 6, 7, 8] rfl) 0 10 rfl rfl rfl rfl (Nat.le_of_ble_eq_true rfl) dX10_all_31) (fun u5 hw => ?_)
  refine j_iload_n C 1 dX10_all_34 rfl ?_
  refine j_sipush C 200 dX10_all_35 (by decide) ?_
  refine j_icmp_le C 50 dX10_all_38 (by decide) (fun z => ?_) (fun z => ?_)
  · replace hw := hw.1 z
    refine j_iload_n C 1 dX10_all_50 rfl ?_
    exact j_iret C hB hR (u5, u1, fo) rfl dX10_all_51 hw rfl
  · replace hw := hw.2 z
    refine j_aload_n C 0 dX10_all_41 rfl ?_
    refine j_ldc C dX10_all_42 ct_X10_36 ?_
    refine j_ciT C hB 0 9 (fun u6 : (Nat → Int32) => (wM ca am u5 kp u1 u6 ta bo so ce ik td tk bg aa vl bd)) rfl (fun _ => rfl) (jr_V C lkV_X10_37 (c_X10_finds am u5 kp u1 fo ta bo so ce ik td tk bg aa vl bd (-1000000004) hw) ⟨rfl, rfl, by decide, by decide, by decide, by decide⟩ [0, 1, 2, 3, 4, 5, 6, 7, 8] (by decide) rfl (fx_rw C hB [0, 1, 2, 3, 4, 5, 6, 7, 8] rfl) 0 10 rfl rfl rfl rfl (Nat.le_of_ble_eq_true rfl) dX10_all_44) (fun r6 u6 hw => ?_)
    refine j_goto C 51 dX10_all_47 (by decide) ?_
    exact j_iret C hB hR (u5, u1, u6) rfl dX10_all_51 hw rfl
def wp_X10_give (m : Nat → Int32) (wa : Nat → Int32) (fo : Nat → Int32)  (a1 : Int32) (Q : (Int32) → (Nat → Int32) → (Nat → Int32) → (Nat → Int32) → Prop) : Prop := wp_X10_isThing m a1 (fun r1 => (r1 = 0 → wp_X10_finds fo (-1000000001) (fun r6 c6_0 => Q r6 m wa c6_0)) ∧ (¬ (r1 = 0) → wp_X10_isDone m a1 (fun r2 => (r2 = 0 → wp_X10_soonestBy m wa ((20 + (4 * a1)) + 2) 6 a1 (fun r3 c3_0 c3_1 => wp_X10_orNone fo r3 (fun r4 c4_0 => Q r4 c3_0 c3_1 c4_0))) ∧ (¬ (r2 = 0) → wp_X10_finds fo (-1000000005) (fun r5 c5_0 => Q r5 m wa c5_0)))))
set_option maxRecDepth 100000 in
set_option maxHeartbeats 8000000 in
theorem c_X10_give {l : Launch} {D : va_G} {ca : Nat → ClassId} {sd : Nat → Nat}  (am : Nat → Nat) (m : Nat → Int32) (kp : Nat → Int32) (wa : Nat → Int32) (fo : Nat → Int32) (ta : Nat → Int32) (bo : Nat → Int32) (so : Nat → Int32) (ce : Nat → Int64) (ik : Int32) (td : Int32) (tk : Int32) (bg : Int32) (aa : Int32) (vl : Int32) (bd : Int32)  (a1 : Int32)  {Q : (Int32) → (Nat → Int32) → (Nat → Int32) → (Nat → Int32) → Prop} (hw : wp_X10_give m wa fo  a1 Q) : Cn l D ca sd yX10_give cX10_give 2 (some .int) { frames := 7, cells := 0, slots := 0, locals := 164 } [.ref (am 0), .int a1] (wM ca am m kp wa fo ta bo so ce ik td tk bg aa vl bd) (wM ca am m kp wa fo ta bo so ce ik td tk bg aa vl bd) 0 0 (Ri D (fun (r : Int32) (u : (Nat → Int32) × (Nat → Int32) × (Nat → Int32)) => Q r u.1 u.2.1 u.2.2) (fun u => (wM ca am u.1 kp u.2.1 u.2.2 ta bo so ce ik td tk bg aa vl bd))) := by
  refine cn_of (by decide) (Nat.le_of_ble_eq_true rfl) (fun k C hR hB _ => ?_)
  have C : Cx D ca sd cX10_give RX10 (some .int) { frames := 7, cells := 0, slots := 0, locals := 164 } k 2 := C
  unfold wp_X10_give at hw
  show J l D k 2 0 0 0 (wM ca am m kp wa fo ta bo so ce ik td tk bg aa vl bd) [(0, .ref (am 0)), (1, .int a1)] []
  refine j_aload_n C 0 dX10_give_0 rfl ?_
  refine j_iload_n C 1 dX10_give_1 rfl ?_
  refine j_ciZ C (jr_V C lkV_X10_81 (c_X10_isThing am m kp wa fo ta bo so ce ik td tk bg aa vl bd a1 hw) ⟨rfl, rfl, by decide, by decide, by decide, by decide⟩ [0, 1, 2, 3, 4, 5, 6, 7, 8] (by decide) rfl (fx_ro C) 0 10 rfl rfl rfl rfl (Nat.le_of_ble_eq_true rfl) dX10_give_2) (fun r1 u1 hw => ?_)
  refine j_if_ne C 15 dX10_give_5 (by decide) (fun z => ?_) (fun z => ?_)
  · replace hw := hw.2 z
    refine j_aload_n C 0 dX10_give_15 rfl ?_
    refine j_iload_n C 1 dX10_give_16 rfl ?_
    refine j_ciZ C (jr_V C lkV_X10_60 (c_X10_isDone am m kp wa fo ta bo so ce ik td tk bg aa vl bd a1 hw) ⟨rfl, rfl, by decide, by decide, by decide, by decide⟩ [0, 1, 2, 3, 4, 5, 6, 7, 8] (by decide) rfl (fx_ro C) 0 10 rfl rfl rfl rfl (Nat.le_of_ble_eq_true rfl) dX10_give_17) (fun r2 u2 hw => ?_)
    refine j_if_eq C 32 dX10_give_20 (by decide) (fun z => ?_) (fun z => ?_)
    · replace hw := hw.1 z
      refine j_aload_n C 0 dX10_give_32 rfl ?_
      refine j_aload_n C 0 dX10_give_33 rfl ?_
      refine j_bipush C 20 dX10_give_34 (by decide) ?_
      refine j_iconst C 4 dX10_give_36 (by decide) ?_
      refine j_iload_n C 1 dX10_give_37 rfl ?_
      refine j_imul C dX10_give_38 ?_
      refine j_iadd C dX10_give_39 ?_
      refine j_iconst C 2 dX10_give_40 (by decide) ?_
      refine j_iadd C dX10_give_41 ?_
      refine j_bipush C 6 dX10_give_42 (by decide) ?_
      refine j_iload_n C 1 dX10_give_44 rfl ?_
      refine j_ciT C hB 0 9 (fun u3 : (Nat → Int32) × (Nat → Int32) => (wM ca am u3.1 kp u3.2 fo ta bo so ce ik td tk bg aa vl bd)) rfl (fun _ => rfl) (jr_V C lkV_X10_154 (c_X10_soonestBy am m kp wa fo ta bo so ce ik td tk bg aa vl bd ((20 + (4 * a1)) + 2) 6 a1 hw) ⟨rfl, rfl, by decide, by decide, by decide, by decide⟩ [0, 1, 2, 3, 4, 5, 6, 7, 8] (by decide) rfl (fx_rw C hB [0, 1, 2, 3, 4, 5, 6, 7, 8] rfl) 0 10 rfl rfl rfl rfl (Nat.le_of_ble_eq_true rfl) dX10_give_45) (fun r3 u3 hw => ?_)
      refine j_ciT C hB 0 9 (fun u4 : (Nat → Int32) => (wM ca am u3.1 kp u3.2 u4 ta bo so ce ik td tk bg aa vl bd)) rfl (fun _ => rfl) (jr_V C lkV_X10_110 (c_X10_orNone am u3.1 kp u3.2 fo ta bo so ce ik td tk bg aa vl bd r3 hw) ⟨rfl, rfl, by decide, by decide, by decide, by decide⟩ [0, 1, 2, 3, 4, 5, 6, 7, 8] (by decide) rfl (fx_rw C hB [0, 1, 2, 3, 4, 5, 6, 7, 8] rfl) 0 10 rfl rfl rfl rfl (Nat.le_of_ble_eq_true rfl) dX10_give_48) (fun r4 u4 hw => ?_)
      exact j_iret C hB hR (u3.1, u3.2, u4) rfl dX10_give_51 hw rfl
    · replace hw := hw.2 z
      refine j_aload_n C 0 dX10_give_23 rfl ?_
      refine j_ldc C dX10_give_24 ct_X10_106 ?_
      refine j_ciT C hB 0 9 (fun u5 : (Nat → Int32) => (wM ca am m kp wa u5 ta bo so ce ik td tk bg aa vl bd)) rfl (fun _ => rfl) (jr_V C lkV_X10_37 (c_X10_finds am m kp wa fo ta bo so ce ik td tk bg aa vl bd (-1000000005) hw) ⟨rfl, rfl, by decide, by decide, by decide, by decide⟩ [0, 1, 2, 3, 4, 5, 6, 7, 8] (by decide) rfl (fx_rw C hB [0, 1, 2, 3, 4, 5, 6, 7, 8] rfl) 0 10 rfl rfl rfl rfl (Nat.le_of_ble_eq_true rfl) dX10_give_26) (fun r5 u5 hw => ?_)
      refine j_goto C 51 dX10_give_29 (by decide) ?_
      exact j_iret C hB hR (m, wa, u5) rfl dX10_give_51 hw rfl
  · replace hw := hw.1 z
    refine j_aload_n C 0 dX10_give_8 rfl ?_
    refine j_ldc C dX10_give_9 ct_X10_35 ?_
    refine j_ciT C hB 0 9 (fun u6 : (Nat → Int32) => (wM ca am m kp wa u6 ta bo so ce ik td tk bg aa vl bd)) rfl (fun _ => rfl) (jr_V C lkV_X10_37 (c_X10_finds am m kp wa fo ta bo so ce ik td tk bg aa vl bd (-1000000001) hw) ⟨rfl, rfl, by decide, by decide, by decide, by decide⟩ [0, 1, 2, 3, 4, 5, 6, 7, 8] (by decide) rfl (fx_rw C hB [0, 1, 2, 3, 4, 5, 6, 7, 8] rfl) 0 10 rfl rfl rfl rfl (Nat.le_of_ble_eq_true rfl) dX10_give_11) (fun r6 u6 hw => ?_)
    exact j_iret C hB hR (m, wa, u6) rfl dX10_give_14 hw rfl
def wp_X10_kind (m : Nat → Int32) (wa : Nat → Int32) (fo : Nat → Int32)  (a1 : Int32) (Q : (Int32) → (Nat → Int32) → (Nat → Int32) → (Nat → Int32) → Prop) : Prop := wp_X10_isThing m a1 (fun r1 => (r1 = 0 → wp_X10_finds fo (-1000000001) (fun r2 c2_0 => Q r2 m wa c2_0)) ∧ (¬ (r1 = 0) → wp_X10_soonestBy m wa (20 + (4 * a1)) 6 a1 (fun r3 c3_0 c3_1 => wp_X10_orNone fo r3 (fun r4 c4_0 => Q r4 c3_0 c3_1 c4_0))))
set_option maxRecDepth 100000 in
set_option maxHeartbeats 8000000 in
theorem c_X10_kind {l : Launch} {D : va_G} {ca : Nat → ClassId} {sd : Nat → Nat}  (am : Nat → Nat) (m : Nat → Int32) (kp : Nat → Int32) (wa : Nat → Int32) (fo : Nat → Int32) (ta : Nat → Int32) (bo : Nat → Int32) (so : Nat → Int32) (ce : Nat → Int64) (ik : Int32) (td : Int32) (tk : Int32) (bg : Int32) (aa : Int32) (vl : Int32) (bd : Int32)  (a1 : Int32)  {Q : (Int32) → (Nat → Int32) → (Nat → Int32) → (Nat → Int32) → Prop} (hw : wp_X10_kind m wa fo  a1 Q) : Cn l D ca sd yX10_kind cX10_kind 2 (some .int) { frames := 7, cells := 0, slots := 0, locals := 164 } [.ref (am 0), .int a1] (wM ca am m kp wa fo ta bo so ce ik td tk bg aa vl bd) (wM ca am m kp wa fo ta bo so ce ik td tk bg aa vl bd) 0 0 (Ri D (fun (r : Int32) (u : (Nat → Int32) × (Nat → Int32) × (Nat → Int32)) => Q r u.1 u.2.1 u.2.2) (fun u => (wM ca am u.1 kp u.2.1 u.2.2 ta bo so ce ik td tk bg aa vl bd))) := by
  refine cn_of (by decide) (Nat.le_of_ble_eq_true rfl) (fun k C hR hB _ => ?_)
  have C : Cx D ca sd cX10_kind RX10 (some .int) { frames := 7, cells := 0, slots := 0, locals := 164 } k 2 := C
  unfold wp_X10_kind at hw
  show J l D k 2 0 0 0 (wM ca am m kp wa fo ta bo so ce ik td tk bg aa vl bd) [(0, .ref (am 0)), (1, .int a1)] []
  refine j_aload_n C 0 dX10_kind_0 rfl ?_
  refine j_iload_n C 1 dX10_kind_1 rfl ?_
  refine j_ciZ C (jr_V C lkV_X10_81 (c_X10_isThing am m kp wa fo ta bo so ce ik td tk bg aa vl bd a1 hw) ⟨rfl, rfl, by decide, by decide, by decide, by decide⟩ [0, 1, 2, 3, 4, 5, 6, 7, 8] (by decide) rfl (fx_ro C) 0 10 rfl rfl rfl rfl (Nat.le_of_ble_eq_true rfl) dX10_kind_2) (fun r1 u1 hw => ?_)
  refine j_if_eq C 28 dX10_kind_5 (by decide) (fun z => ?_) (fun z => ?_)
  · replace hw := hw.1 z
    refine j_aload_n C 0 dX10_kind_28 rfl ?_
    refine j_ldc C dX10_kind_29 ct_X10_35 ?_
    refine j_ciT C hB 0 9 (fun u2 : (Nat → Int32) => (wM ca am m kp wa u2 ta bo so ce ik td tk bg aa vl bd)) rfl (fun _ => rfl) (jr_V C lkV_X10_37 (c_X10_finds am m kp wa fo ta bo so ce ik td tk bg aa vl bd (-1000000001) hw) ⟨rfl, rfl, by decide, by decide, by decide, by decide⟩ [0, 1, 2, 3, 4, 5, 6, 7, 8] (by decide) rfl (fx_rw C hB [0, 1, 2, 3, 4, 5, 6, 7, 8] rfl) 0 10 rfl rfl rfl rfl (Nat.le_of_ble_eq_true rfl) dX10_kind_31) (fun r2 u2 hw => ?_)
    exact j_iret C hB hR (m, wa, u2) rfl dX10_kind_34 hw rfl
  · replace hw := hw.2 z
    refine j_aload_n C 0 dX10_kind_8 rfl ?_
    refine j_aload_n C 0 dX10_kind_9 rfl ?_
    refine j_bipush C 20 dX10_kind_10 (by decide) ?_
    refine j_iconst C 4 dX10_kind_12 (by decide) ?_
    refine j_iload_n C 1 dX10_kind_13 rfl ?_
    refine j_imul C dX10_kind_14 ?_
    refine j_iadd C dX10_kind_15 ?_
    refine j_bipush C 6 dX10_kind_16 (by decide) ?_
    refine j_iload_n C 1 dX10_kind_18 rfl ?_
    refine j_ciT C hB 0 9 (fun u3 : (Nat → Int32) × (Nat → Int32) => (wM ca am u3.1 kp u3.2 fo ta bo so ce ik td tk bg aa vl bd)) rfl (fun _ => rfl) (jr_V C lkV_X10_154 (c_X10_soonestBy am m kp wa fo ta bo so ce ik td tk bg aa vl bd (20 + (4 * a1)) 6 a1 hw) ⟨rfl, rfl, by decide, by decide, by decide, by decide⟩ [0, 1, 2, 3, 4, 5, 6, 7, 8] (by decide) rfl (fx_rw C hB [0, 1, 2, 3, 4, 5, 6, 7, 8] rfl) 0 10 rfl rfl rfl rfl (Nat.le_of_ble_eq_true rfl) dX10_kind_19) (fun r3 u3 hw => ?_)
    refine j_ciT C hB 0 9 (fun u4 : (Nat → Int32) => (wM ca am u3.1 kp u3.2 u4 ta bo so ce ik td tk bg aa vl bd)) rfl (fun _ => rfl) (jr_V C lkV_X10_110 (c_X10_orNone am u3.1 kp u3.2 fo ta bo so ce ik td tk bg aa vl bd r3 hw) ⟨rfl, rfl, by decide, by decide, by decide, by decide⟩ [0, 1, 2, 3, 4, 5, 6, 7, 8] (by decide) rfl (fx_rw C hB [0, 1, 2, 3, 4, 5, 6, 7, 8] rfl) 0 10 rfl rfl rfl rfl (Nat.le_of_ble_eq_true rfl) dX10_kind_22) (fun r4 u4 hw => ?_)
    refine j_goto C 34 dX10_kind_25 (by decide) ?_
    exact j_iret C hB hR (u3.1, u3.2, u4) rfl dX10_kind_34 hw rfl
def wpl_X10_zeal_47 (wa : Nat → Int32) (x1 : Int32) (x2 : Int32) (x3 : Int32) (K : (Int32) → (Int32) → (Nat → Int32) → Prop) : Nat → (Int32) → (Int32) → (Nat → Int32) → Prop
  | 0, _, _, _ => False
  | n + 1, x4, x5, m => (9 < x5 → K x4 x5 m) ∧ (¬ (9 < x5) → (0 ≤ x4 → K x4 x5 m) ∧ (¬ (0 ≤ x4) → wp_X10_gets m x1 1 x5 (fun c7_0 => wp_X10_goesFor c7_0 x2 (fun c8_0 => wp_X10_his c8_0 x1 2 (fun r9 => (r9 < x3 → wp_X10_putsBack c8_0 wa (fun c10_0 => wpl_X10_zeal_47 wa x1 x2 x3  K n (-1) (x5 + 1) c10_0)) ∧ (¬ (r9 < x3) → wp_X10_putsBack c8_0 wa (fun c11_0 => wpl_X10_zeal_47 wa x1 x2 x3  K n x5 (x5 + 1) c11_0)))))))
def wp_X10_zeal (m : Nat → Int32) (wa : Nat → Int32) (fo : Nat → Int32)  (a1 : Int32) (a2 : Int32) (a3 : Int32) (Q : (Int32) → (Nat → Int32) → (Nat → Int32) → (Nat → Int32) → Prop) : Prop := wp_X10_isPerson a1 (fun r1 => (r1 = 0 → wp_X10_finds fo (-1000000001) (fun r2 c2_0 => Q r2 m wa c2_0)) ∧ (¬ (r1 = 0) → wp_X10_in ((a2).toInt64) 1 60 (fun r3 => (r3 = 0 → wp_X10_finds fo (-1000000001) (fun r4 c4_0 => Q r4 m wa c4_0)) ∧ (¬ (r3 = 0) → wp_X10_in ((a3).toInt64) 0 999 (fun r5 => (r5 = 0 → wp_X10_finds fo (-1000000001) (fun r14 c14_0 => Q r14 m wa c14_0)) ∧ (¬ (r5 = 0) → wp_X10_thinks m wa (fun c6_0 => ∃ n12 : Nat, wpl_X10_zeal_47 c6_0 a1 a2 a3  (fun y12_4 y12_5 y12_m => wp_X10_orNone fo y12_4 (fun r13 c13_0 => Q r13 y12_m c6_0 c13_0)) n12 (-1) 0 m)))))))
set_option maxRecDepth 100000 in
set_option maxHeartbeats 8000000 in
theorem ml_X10_zeal_47 {l : Launch} {D : va_G} {ca : Nat → ClassId} {sd : Nat → Nat}  {k : Kx} (am : Nat → Nat)  (kp : Nat → Int32) (wa : Nat → Int32) (fo : Nat → Int32) (ta : Nat → Int32) (bo : Nat → Int32) (so : Nat → Int32) (ce : Nat → Int64) (ik : Int32) (td : Int32) (tk : Int32) (bg : Int32) (aa : Int32) (vl : Int32) (bd : Int32) (x1 : Int32) (x2 : Int32) (x3 : Int32) (C : Cx D ca sd cX10_zeal RX10 (some .int) { frames := 6, cells := 0, slots := 0, locals := 135 } k 6) {Q : (Int32) → (Nat → Int32) → (Nat → Int32) → (Nat → Int32) → Prop} (hR : Rx (Ri D (fun (r : Int32) (u : (Nat → Int32) × (Nat → Int32) × (Nat → Int32)) => Q r u.1 u.2.1 u.2.2) (fun u => (wM ca am u.1 kp u.2.1 u.2.2 ta bo so ce ik td tk bg aa vl bd))) 0 0 k) (hB : Wx k) {K : (Int32) → (Int32) → (Nat → Int32) → Prop} (hK : ∀ (x4' : Int32) (x5' : Int32) (m' : Nat → Int32), K x4' x5' m' → J l D k 6 0 0 100 (wM ca am m' kp wa fo ta bo so ce ik td tk bg aa vl bd) [(0, .ref (am 0)), (1, .int x1), (2, .int x2), (3, .int x3), (4, .int x4'), (5, .int x5')] []) : ∀ (n : Nat) (x4 : Int32) (x5 : Int32) (m : Nat → Int32), wpl_X10_zeal_47 wa x1 x2 x3  K n x4 x5 m → J l D k 6 0 0 47 (wM ca am m kp wa fo ta bo so ce ik td tk bg aa vl bd) [(0, .ref (am 0)), (1, .int x1), (2, .int x2), (3, .int x3), (4, .int x4), (5, .int x5)] [] := by
  intro n
  induction n with
  | zero =>
    intro x4 x5 m hw
    rw [wpl_X10_zeal_47] at hw
    exact hw.elim
  | succ n ih =>
    intro x4 x5 m hw
    rw [wpl_X10_zeal_47] at hw
    refine j_iload C 5 dX10_zeal_47 rfl ?_
    refine j_bipush C 9 dX10_zeal_49 (by decide) ?_
    refine j_icmp_gt C 100 dX10_zeal_51 (by decide) (fun z => ?_) (fun z => ?_)
    · replace hw := hw.1 z
      exact hK x4 x5 m hw
    · replace hw := hw.2 z
      refine j_iload C 4 dX10_zeal_54 rfl ?_
      refine j_if_ge C 100 dX10_zeal_56 (by decide) (fun z => ?_) (fun z => ?_)
      · replace hw := hw.1 z
        exact hK x4 x5 m hw
      · replace hw := hw.2 z
        refine j_aload_n C 0 dX10_zeal_59 rfl ?_
        refine j_iload_n C 1 dX10_zeal_60 rfl ?_
        refine j_iconst C 1 dX10_zeal_61 (by decide) ?_
        refine j_iload C 5 dX10_zeal_62 rfl ?_
        refine j_cvT C hB 0 9 (fun u7 : (Nat → Int32) => (wM ca am u7 kp wa fo ta bo so ce ik td tk bg aa vl bd)) rfl (fun _ => rfl) (jr_V C lkV_X10_97 (c_X10_gets am m kp wa fo ta bo so ce ik td tk bg aa vl bd x1 1 x5 hw) ⟨rfl, rfl, by decide, by decide, by decide, by decide⟩ [0, 1, 2, 3, 4, 5, 6, 7, 8] (by decide) rfl (fx_rw C hB [0, 1, 2, 3, 4, 5, 6, 7, 8] rfl) 0 10 rfl rfl rfl rfl (Nat.le_of_ble_eq_true rfl) dX10_zeal_64) (fun u7 hw => ?_)
        refine j_aload_n C 0 dX10_zeal_67 rfl ?_
        refine j_iload_n C 2 dX10_zeal_68 rfl ?_
        refine j_cvT C hB 0 9 (fun u8 : (Nat → Int32) => (wM ca am u8 kp wa fo ta bo so ce ik td tk bg aa vl bd)) rfl (fun _ => rfl) (jr_V C lkV_X10_128 (c_X10_goesFor am u7 kp wa fo ta bo so ce ik td tk bg aa vl bd x2 hw) ⟨rfl, rfl, by decide, by decide, by decide, by decide⟩ [0, 1, 2, 3, 4, 5, 6, 7, 8] (by decide) rfl (fx_rw C hB [0, 1, 2, 3, 4, 5, 6, 7, 8] rfl) 0 10 rfl rfl rfl rfl (Nat.le_of_ble_eq_true rfl) dX10_zeal_69) (fun u8 hw => ?_)
        refine j_aload_n C 0 dX10_zeal_72 rfl ?_
        refine j_iload_n C 1 dX10_zeal_73 rfl ?_
        refine j_iconst C 2 dX10_zeal_74 (by decide) ?_
        refine j_ciZ C (jr_V C lkV_X10_63 (c_X10_his am u8 kp wa fo ta bo so ce ik td tk bg aa vl bd x1 2 hw) ⟨rfl, rfl, by decide, by decide, by decide, by decide⟩ [0, 1, 2, 3, 4, 5, 6, 7, 8] (by decide) rfl (fx_ro C) 0 10 rfl rfl rfl rfl (Nat.le_of_ble_eq_true rfl) dX10_zeal_75) (fun r9 u9 hw => ?_)
        refine j_iload_n C 3 dX10_zeal_78 rfl ?_
        refine j_icmp_lt C 87 dX10_zeal_79 (by decide) (fun z => ?_) (fun z => ?_)
        · replace hw := hw.1 z
          refine j_iconst C (-1) dX10_zeal_87 (by decide) ?_
          refine j_istore C [(4, .int (-1)), (0, .ref (am 0)), (1, .int x1), (2, .int x2), (3, .int x3), (5, .int x5)] dX10_zeal_88 (by decide) rfl ?_
          refine j_aload_n C 1 dX10_zeal_90 rfl ?_
          refine j_cvT C hB 0 9 (fun u10 : (Nat → Int32) => (wM ca am u10 kp wa fo ta bo so ce ik td tk bg aa vl bd)) rfl (fun _ => rfl) (jr_V C lkV_X10_144 (c_X10_putsBack am u8 kp wa fo ta bo so ce ik td tk bg aa vl bd hw) ⟨rfl, rfl, by decide, by decide, by decide, by decide⟩ [0, 1, 2, 3, 4, 5, 6, 7, 8] (by decide) rfl (fx_rw C hB [0, 1, 2, 3, 4, 5, 6, 7, 8] rfl) 0 10 rfl rfl rfl rfl (Nat.le_of_ble_eq_true rfl) dX10_zeal_91) (fun u10 hw => ?_)
          refine j_iinc C 5 (x5 + 1) [(5, .int (x5 + 1)), (4, .int (-1)), (0, .ref (am 0)), (1, .int x1), (2, .int x2), (3, .int x3)] dX10_zeal_94 rfl rfl (by decide) rfl ?_
          refine j_goto C 47 dX10_zeal_97 (by decide) ?_
          refine j_lsub [2, 3, 4, 5, 1, 0] [(0, .ref (am 0)), (1, .int x1), (2, .int x2), (3, .int x3), (4, .int (-1)), (5, .int (x5 + 1))] rfl ?_
          exact ih (-1) (x5 + 1) u10 hw
        · replace hw := hw.2 z
          refine j_iload C 5 dX10_zeal_82 rfl ?_
          refine j_goto C 88 dX10_zeal_84 (by decide) ?_
          refine j_istore C [(4, .int x5), (0, .ref (am 0)), (1, .int x1), (2, .int x2), (3, .int x3), (5, .int x5)] dX10_zeal_88 (by decide) rfl ?_
          refine j_aload_n C 1 dX10_zeal_90 rfl ?_
          refine j_cvT C hB 0 9 (fun u11 : (Nat → Int32) => (wM ca am u11 kp wa fo ta bo so ce ik td tk bg aa vl bd)) rfl (fun _ => rfl) (jr_V C lkV_X10_144 (c_X10_putsBack am u8 kp wa fo ta bo so ce ik td tk bg aa vl bd hw) ⟨rfl, rfl, by decide, by decide, by decide, by decide⟩ [0, 1, 2, 3, 4, 5, 6, 7, 8] (by decide) rfl (fx_rw C hB [0, 1, 2, 3, 4, 5, 6, 7, 8] rfl) 0 10 rfl rfl rfl rfl (Nat.le_of_ble_eq_true rfl) dX10_zeal_91) (fun u11 hw => ?_)
          refine j_iinc C 5 (x5 + 1) [(5, .int (x5 + 1)), (4, .int x5), (0, .ref (am 0)), (1, .int x1), (2, .int x2), (3, .int x3)] dX10_zeal_94 rfl rfl (by decide) rfl ?_
          refine j_goto C 47 dX10_zeal_97 (by decide) ?_
          refine j_lsub [2, 3, 4, 5, 1, 0] [(0, .ref (am 0)), (1, .int x1), (2, .int x2), (3, .int x3), (4, .int x5), (5, .int (x5 + 1))] rfl ?_
          exact ih x5 (x5 + 1) u11 hw
set_option maxRecDepth 100000 in
set_option maxHeartbeats 8000000 in
theorem c_X10_zeal {l : Launch} {D : va_G} {ca : Nat → ClassId} {sd : Nat → Nat}  (am : Nat → Nat) (m : Nat → Int32) (kp : Nat → Int32) (wa : Nat → Int32) (fo : Nat → Int32) (ta : Nat → Int32) (bo : Nat → Int32) (so : Nat → Int32) (ce : Nat → Int64) (ik : Int32) (td : Int32) (tk : Int32) (bg : Int32) (aa : Int32) (vl : Int32) (bd : Int32)  (a1 : Int32) (a2 : Int32) (a3 : Int32)  {Q : (Int32) → (Nat → Int32) → (Nat → Int32) → (Nat → Int32) → Prop} (hw : wp_X10_zeal m wa fo  a1 a2 a3 Q) : Cn l D ca sd yX10_zeal cX10_zeal 6 (some .int) { frames := 6, cells := 0, slots := 0, locals := 135 } [.ref (am 0), .int a1, .int a2, .int a3] (wM ca am m kp wa fo ta bo so ce ik td tk bg aa vl bd) (wM ca am m kp wa fo ta bo so ce ik td tk bg aa vl bd) 0 0 (Ri D (fun (r : Int32) (u : (Nat → Int32) × (Nat → Int32) × (Nat → Int32)) => Q r u.1 u.2.1 u.2.2) (fun u => (wM ca am u.1 kp u.2.1 u.2.2 ta bo so ce ik td tk bg aa vl bd))) := by
  refine cn_of (by decide) (Nat.le_of_ble_eq_true rfl) (fun k C hR hB _ => ?_)
  have C : Cx D ca sd cX10_zeal RX10 (some .int) { frames := 6, cells := 0, slots := 0, locals := 135 } k 6 := C
  unfold wp_X10_zeal at hw
  show J l D k 6 0 0 0 (wM ca am m kp wa fo ta bo so ce ik td tk bg aa vl bd) [(0, .ref (am 0)), (1, .int a1), (2, .int a2), (3, .int a3)] []
  refine j_iload_n C 1 dX10_zeal_0 rfl ?_
  refine j_ciZ C (jr_S C lkS_X10_49 (c_X10_isPerson a1 hw) ⟨rfl, rfl, by decide, by decide, by decide, by decide⟩ [] (by decide) rfl (fx_ro C) rfl rfl (Nat.le_of_ble_eq_true rfl) dX10_zeal_1) (fun r1 u1 hw => ?_)
  refine j_if_eq C 30 dX10_zeal_4 (by decide) (fun z => ?_) (fun z => ?_)
  · replace hw := hw.1 z
    refine j_aload_n C 0 dX10_zeal_30 rfl ?_
    refine j_ldc C dX10_zeal_31 ct_X10_35 ?_
    refine j_ciT C hB 0 9 (fun u2 : (Nat → Int32) => (wM ca am m kp wa u2 ta bo so ce ik td tk bg aa vl bd)) rfl (fun _ => rfl) (jr_V C lkV_X10_37 (c_X10_finds am m kp wa fo ta bo so ce ik td tk bg aa vl bd (-1000000001) hw) ⟨rfl, rfl, by decide, by decide, by decide, by decide⟩ [0, 1, 2, 3, 4, 5, 6, 7, 8] (by decide) rfl (fx_rw C hB [0, 1, 2, 3, 4, 5, 6, 7, 8] rfl) 0 10 rfl rfl rfl rfl (Nat.le_of_ble_eq_true rfl) dX10_zeal_33) (fun r2 u2 hw => ?_)
    exact j_iret C hB hR (m, wa, u2) rfl dX10_zeal_36 hw rfl
  · replace hw := hw.2 z
    refine j_iload_n C 2 dX10_zeal_7 rfl ?_
    refine j_i2l C dX10_zeal_8 ?_
    refine j_iconst C 1 dX10_zeal_9 (by decide) ?_
    refine j_bipush C 60 dX10_zeal_10 (by decide) ?_
    refine j_ciZ C (jr_S C lkS_X10_41 (c_X10_in ((a2).toInt64) 1 60 hw) ⟨rfl, rfl, by decide, by decide, by decide, by decide⟩ [] (by decide) rfl (fx_ro C) rfl rfl (Nat.le_of_ble_eq_true rfl) dX10_zeal_12) (fun r3 u3 hw => ?_)
    refine j_if_eq C 30 dX10_zeal_15 (by decide) (fun z => ?_) (fun z => ?_)
    · replace hw := hw.1 z
      refine j_aload_n C 0 dX10_zeal_30 rfl ?_
      refine j_ldc C dX10_zeal_31 ct_X10_35 ?_
      refine j_ciT C hB 0 9 (fun u4 : (Nat → Int32) => (wM ca am m kp wa u4 ta bo so ce ik td tk bg aa vl bd)) rfl (fun _ => rfl) (jr_V C lkV_X10_37 (c_X10_finds am m kp wa fo ta bo so ce ik td tk bg aa vl bd (-1000000001) hw) ⟨rfl, rfl, by decide, by decide, by decide, by decide⟩ [0, 1, 2, 3, 4, 5, 6, 7, 8] (by decide) rfl (fx_rw C hB [0, 1, 2, 3, 4, 5, 6, 7, 8] rfl) 0 10 rfl rfl rfl rfl (Nat.le_of_ble_eq_true rfl) dX10_zeal_33) (fun r4 u4 hw => ?_)
      exact j_iret C hB hR (m, wa, u4) rfl dX10_zeal_36 hw rfl
    · replace hw := hw.2 z
      refine j_iload_n C 3 dX10_zeal_18 rfl ?_
      refine j_i2l C dX10_zeal_19 ?_
      refine j_iconst C 0 dX10_zeal_20 (by decide) ?_
      refine j_sipush C 999 dX10_zeal_21 (by decide) ?_
      refine j_ciZ C (jr_S C lkS_X10_41 (c_X10_in ((a3).toInt64) 0 999 hw) ⟨rfl, rfl, by decide, by decide, by decide, by decide⟩ [] (by decide) rfl (fx_ro C) rfl rfl (Nat.le_of_ble_eq_true rfl) dX10_zeal_24) (fun r5 u5 hw => ?_)
      refine j_if_ne C 37 dX10_zeal_27 (by decide) (fun z => ?_) (fun z => ?_)
      · replace hw := hw.2 z
        refine j_aload_n C 0 dX10_zeal_37 rfl ?_
        refine j_cvT C hB 0 9 (fun u6 : (Nat → Int32) => (wM ca am m kp u6 fo ta bo so ce ik td tk bg aa vl bd)) rfl (fun _ => rfl) (jr_V C lkV_X10_141 (c_X10_thinks am m kp wa fo ta bo so ce ik td tk bg aa vl bd hw) ⟨rfl, rfl, by decide, by decide, by decide, by decide⟩ [0, 1, 2, 3, 4, 5, 6, 7, 8] (by decide) rfl (fx_rw C hB [0, 1, 2, 3, 4, 5, 6, 7, 8] rfl) 0 10 rfl rfl rfl rfl (Nat.le_of_ble_eq_true rfl) dX10_zeal_38) (fun u6 hw => ?_)
        refine j_iconst C (-1) dX10_zeal_41 (by decide) ?_
        refine j_istore C [(4, .int (-1)), (0, .ref (am 0)), (1, .int a1), (2, .int a2), (3, .int a3)] dX10_zeal_42 (by decide) rfl ?_
        refine j_iconst C 0 dX10_zeal_44 (by decide) ?_
        refine j_istore C [(5, .int 0), (4, .int (-1)), (0, .ref (am 0)), (1, .int a1), (2, .int a2), (3, .int a3)] dX10_zeal_45 (by decide) rfl ?_
        refine j_lsub [2, 3, 4, 5, 1, 0] [(0, .ref (am 0)), (1, .int a1), (2, .int a2), (3, .int a3), (4, .int (-1)), (5, .int 0)] rfl ?_
        obtain ⟨n12, hw⟩ := hw
        refine ml_X10_zeal_47 am  kp u6 fo ta bo so ce ik td tk bg aa vl bd a1 a2 a3 C hR hB (fun y12_4 y12_5 y12_m hw => ?_) n12 (-1) 0 m hw
        refine j_aload_n C 0 dX10_zeal_100 rfl ?_
        refine j_iload C 4 dX10_zeal_101 rfl ?_
        refine j_ciT C hB 0 9 (fun u13 : (Nat → Int32) => (wM ca am y12_m kp u6 u13 ta bo so ce ik td tk bg aa vl bd)) rfl (fun _ => rfl) (jr_V C lkV_X10_110 (c_X10_orNone am y12_m kp u6 fo ta bo so ce ik td tk bg aa vl bd y12_4 hw) ⟨rfl, rfl, by decide, by decide, by decide, by decide⟩ [0, 1, 2, 3, 4, 5, 6, 7, 8] (by decide) rfl (fx_rw C hB [0, 1, 2, 3, 4, 5, 6, 7, 8] rfl) 0 10 rfl rfl rfl rfl (Nat.le_of_ble_eq_true rfl) dX10_zeal_103) (fun r13 u13 hw => ?_)
        exact j_iret C hB hR (y12_m, u6, u13) rfl dX10_zeal_106 hw rfl
      · replace hw := hw.1 z
        refine j_aload_n C 0 dX10_zeal_30 rfl ?_
        refine j_ldc C dX10_zeal_31 ct_X10_35 ?_
        refine j_ciT C hB 0 9 (fun u14 : (Nat → Int32) => (wM ca am m kp wa u14 ta bo so ce ik td tk bg aa vl bd)) rfl (fun _ => rfl) (jr_V C lkV_X10_37 (c_X10_finds am m kp wa fo ta bo so ce ik td tk bg aa vl bd (-1000000001) hw) ⟨rfl, rfl, by decide, by decide, by decide, by decide⟩ [0, 1, 2, 3, 4, 5, 6, 7, 8] (by decide) rfl (fx_rw C hB [0, 1, 2, 3, 4, 5, 6, 7, 8] rfl) 0 10 rfl rfl rfl rfl (Nat.le_of_ble_eq_true rfl) dX10_zeal_33) (fun r14 u14 hw => ?_)
        exact j_iret C hB hR (m, wa, u14) rfl dX10_zeal_36 hw rfl
def wpl_X10_skill_34 (wa : Nat → Int32) (x1 : Int32) (x2 : Int32) (K : (Int32) → (Int32) → (Nat → Int32) → Prop) : Nat → (Int32) → (Int32) → (Nat → Int32) → Prop
  | 0, _, _, _ => False
  | n + 1, x3, x4, m => (20 < x4 → K x3 x4 m) ∧ (¬ (20 < x4) → (0 ≤ x3 → K x3 x4 m) ∧ (¬ (0 ≤ x3) → wp_X10_gets m x1 0 x4 (fun c5_0 => wp_X10_goesFor c5_0 x2 (fun c6_0 => wp_X10_areDone c6_0 (fun r7 => (r7 = 0 → wp_X10_putsBack c6_0 wa (fun c8_0 => wpl_X10_skill_34 wa x1 x2  K n (-1) (x4 + 1) c8_0)) ∧ (¬ (r7 = 0) → wp_X10_putsBack c6_0 wa (fun c9_0 => wpl_X10_skill_34 wa x1 x2  K n x4 (x4 + 1) c9_0)))))))
def wp_X10_skill (m : Nat → Int32) (wa : Nat → Int32) (fo : Nat → Int32)  (a1 : Int32) (a2 : Int32) (Q : (Int32) → (Nat → Int32) → (Nat → Int32) → (Nat → Int32) → Prop) : Prop := wp_X10_isPerson a1 (fun r1 => (r1 = 0 → wp_X10_finds fo (-1000000001) (fun r2 c2_0 => Q r2 m wa c2_0)) ∧ (¬ (r1 = 0) → wp_X10_in ((a2).toInt64) 1 60 (fun r3 => (r3 = 0 → wp_X10_finds fo (-1000000001) (fun r12 c12_0 => Q r12 m wa c12_0)) ∧ (¬ (r3 = 0) → wp_X10_thinks m wa (fun c4_0 => ∃ n10 : Nat, wpl_X10_skill_34 c4_0 a1 a2  (fun y10_3 y10_4 y10_m => wp_X10_orNone fo y10_3 (fun r11 c11_0 => Q r11 y10_m c4_0 c11_0)) n10 (-1) 0 m)))))
set_option maxRecDepth 100000 in
set_option maxHeartbeats 8000000 in
theorem ml_X10_skill_34 {l : Launch} {D : va_G} {ca : Nat → ClassId} {sd : Nat → Nat}  {k : Kx} (am : Nat → Nat)  (kp : Nat → Int32) (wa : Nat → Int32) (fo : Nat → Int32) (ta : Nat → Int32) (bo : Nat → Int32) (so : Nat → Int32) (ce : Nat → Int64) (ik : Int32) (td : Int32) (tk : Int32) (bg : Int32) (aa : Int32) (vl : Int32) (bd : Int32) (x1 : Int32) (x2 : Int32) (C : Cx D ca sd cX10_skill RX10 (some .int) { frames := 6, cells := 0, slots := 0, locals := 135 } k 5) {Q : (Int32) → (Nat → Int32) → (Nat → Int32) → (Nat → Int32) → Prop} (hR : Rx (Ri D (fun (r : Int32) (u : (Nat → Int32) × (Nat → Int32) × (Nat → Int32)) => Q r u.1 u.2.1 u.2.2) (fun u => (wM ca am u.1 kp u.2.1 u.2.2 ta bo so ce ik td tk bg aa vl bd))) 0 0 k) (hB : Wx k) {K : (Int32) → (Int32) → (Nat → Int32) → Prop} (hK : ∀ (x3' : Int32) (x4' : Int32) (m' : Nat → Int32), K x3' x4' m' → J l D k 5 0 0 82 (wM ca am m' kp wa fo ta bo so ce ik td tk bg aa vl bd) [(0, .ref (am 0)), (1, .int x1), (2, .int x2), (3, .int x3'), (4, .int x4')] []) : ∀ (n : Nat) (x3 : Int32) (x4 : Int32) (m : Nat → Int32), wpl_X10_skill_34 wa x1 x2  K n x3 x4 m → J l D k 5 0 0 34 (wM ca am m kp wa fo ta bo so ce ik td tk bg aa vl bd) [(0, .ref (am 0)), (1, .int x1), (2, .int x2), (3, .int x3), (4, .int x4)] [] := by
  intro n
  induction n with
  | zero =>
    intro x3 x4 m hw
    rw [wpl_X10_skill_34] at hw
    exact hw.elim
  | succ n ih =>
    intro x3 x4 m hw
    rw [wpl_X10_skill_34] at hw
    refine j_iload C 4 dX10_skill_34 rfl ?_
    refine j_bipush C 20 dX10_skill_36 (by decide) ?_
    refine j_icmp_gt C 82 dX10_skill_38 (by decide) (fun z => ?_) (fun z => ?_)
    · replace hw := hw.1 z
      exact hK x3 x4 m hw
    · replace hw := hw.2 z
      refine j_iload_n C 3 dX10_skill_41 rfl ?_
      refine j_if_ge C 82 dX10_skill_42 (by decide) (fun z => ?_) (fun z => ?_)
      · replace hw := hw.1 z
        exact hK x3 x4 m hw
      · replace hw := hw.2 z
        refine j_aload_n C 0 dX10_skill_45 rfl ?_
        refine j_iload_n C 1 dX10_skill_46 rfl ?_
        refine j_iconst C 0 dX10_skill_47 (by decide) ?_
        refine j_iload C 4 dX10_skill_48 rfl ?_
        refine j_cvT C hB 0 9 (fun u5 : (Nat → Int32) => (wM ca am u5 kp wa fo ta bo so ce ik td tk bg aa vl bd)) rfl (fun _ => rfl) (jr_V C lkV_X10_97 (c_X10_gets am m kp wa fo ta bo so ce ik td tk bg aa vl bd x1 0 x4 hw) ⟨rfl, rfl, by decide, by decide, by decide, by decide⟩ [0, 1, 2, 3, 4, 5, 6, 7, 8] (by decide) rfl (fx_rw C hB [0, 1, 2, 3, 4, 5, 6, 7, 8] rfl) 0 10 rfl rfl rfl rfl (Nat.le_of_ble_eq_true rfl) dX10_skill_50) (fun u5 hw => ?_)
        refine j_aload_n C 0 dX10_skill_53 rfl ?_
        refine j_iload_n C 2 dX10_skill_54 rfl ?_
        refine j_cvT C hB 0 9 (fun u6 : (Nat → Int32) => (wM ca am u6 kp wa fo ta bo so ce ik td tk bg aa vl bd)) rfl (fun _ => rfl) (jr_V C lkV_X10_128 (c_X10_goesFor am u5 kp wa fo ta bo so ce ik td tk bg aa vl bd x2 hw) ⟨rfl, rfl, by decide, by decide, by decide, by decide⟩ [0, 1, 2, 3, 4, 5, 6, 7, 8] (by decide) rfl (fx_rw C hB [0, 1, 2, 3, 4, 5, 6, 7, 8] rfl) 0 10 rfl rfl rfl rfl (Nat.le_of_ble_eq_true rfl) dX10_skill_55) (fun u6 hw => ?_)
        refine j_aload_n C 0 dX10_skill_58 rfl ?_
        refine j_ciZ C (jr_V C lkV_X10_150 (c_X10_areDone am u6 kp wa fo ta bo so ce ik td tk bg aa vl bd hw) ⟨rfl, rfl, by decide, by decide, by decide, by decide⟩ [0, 1, 2, 3, 4, 5, 6, 7, 8] (by decide) rfl (fx_ro C) 0 10 rfl rfl rfl rfl (Nat.le_of_ble_eq_true rfl) dX10_skill_59) (fun r7 u7 hw => ?_)
        refine j_if_eq C 70 dX10_skill_62 (by decide) (fun z => ?_) (fun z => ?_)
        · replace hw := hw.1 z
          refine j_iconst C (-1) dX10_skill_70 (by decide) ?_
          refine j_istore_n C [(3, .int (-1)), (0, .ref (am 0)), (1, .int x1), (2, .int x2), (4, .int x4)] dX10_skill_71 (by decide) rfl ?_
          refine j_aload_n C 1 dX10_skill_72 rfl ?_
          refine j_cvT C hB 0 9 (fun u8 : (Nat → Int32) => (wM ca am u8 kp wa fo ta bo so ce ik td tk bg aa vl bd)) rfl (fun _ => rfl) (jr_V C lkV_X10_144 (c_X10_putsBack am u6 kp wa fo ta bo so ce ik td tk bg aa vl bd hw) ⟨rfl, rfl, by decide, by decide, by decide, by decide⟩ [0, 1, 2, 3, 4, 5, 6, 7, 8] (by decide) rfl (fx_rw C hB [0, 1, 2, 3, 4, 5, 6, 7, 8] rfl) 0 10 rfl rfl rfl rfl (Nat.le_of_ble_eq_true rfl) dX10_skill_73) (fun u8 hw => ?_)
          refine j_iinc C 4 (x4 + 1) [(4, .int (x4 + 1)), (3, .int (-1)), (0, .ref (am 0)), (1, .int x1), (2, .int x2)] dX10_skill_76 rfl rfl (by decide) rfl ?_
          refine j_goto C 34 dX10_skill_79 (by decide) ?_
          refine j_lsub [2, 3, 4, 1, 0] [(0, .ref (am 0)), (1, .int x1), (2, .int x2), (3, .int (-1)), (4, .int (x4 + 1))] rfl ?_
          exact ih (-1) (x4 + 1) u8 hw
        · replace hw := hw.2 z
          refine j_iload C 4 dX10_skill_65 rfl ?_
          refine j_goto C 71 dX10_skill_67 (by decide) ?_
          refine j_istore_n C [(3, .int x4), (0, .ref (am 0)), (1, .int x1), (2, .int x2), (4, .int x4)] dX10_skill_71 (by decide) rfl ?_
          refine j_aload_n C 1 dX10_skill_72 rfl ?_
          refine j_cvT C hB 0 9 (fun u9 : (Nat → Int32) => (wM ca am u9 kp wa fo ta bo so ce ik td tk bg aa vl bd)) rfl (fun _ => rfl) (jr_V C lkV_X10_144 (c_X10_putsBack am u6 kp wa fo ta bo so ce ik td tk bg aa vl bd hw) ⟨rfl, rfl, by decide, by decide, by decide, by decide⟩ [0, 1, 2, 3, 4, 5, 6, 7, 8] (by decide) rfl (fx_rw C hB [0, 1, 2, 3, 4, 5, 6, 7, 8] rfl) 0 10 rfl rfl rfl rfl (Nat.le_of_ble_eq_true rfl) dX10_skill_73) (fun u9 hw => ?_)
          refine j_iinc C 4 (x4 + 1) [(4, .int (x4 + 1)), (3, .int x4), (0, .ref (am 0)), (1, .int x1), (2, .int x2)] dX10_skill_76 rfl rfl (by decide) rfl ?_
          refine j_goto C 34 dX10_skill_79 (by decide) ?_
          refine j_lsub [2, 3, 4, 1, 0] [(0, .ref (am 0)), (1, .int x1), (2, .int x2), (3, .int x4), (4, .int (x4 + 1))] rfl ?_
          exact ih x4 (x4 + 1) u9 hw
set_option maxRecDepth 100000 in
set_option maxHeartbeats 8000000 in
theorem c_X10_skill {l : Launch} {D : va_G} {ca : Nat → ClassId} {sd : Nat → Nat}  (am : Nat → Nat) (m : Nat → Int32) (kp : Nat → Int32) (wa : Nat → Int32) (fo : Nat → Int32) (ta : Nat → Int32) (bo : Nat → Int32) (so : Nat → Int32) (ce : Nat → Int64) (ik : Int32) (td : Int32) (tk : Int32) (bg : Int32) (aa : Int32) (vl : Int32) (bd : Int32)  (a1 : Int32) (a2 : Int32)  {Q : (Int32) → (Nat → Int32) → (Nat → Int32) → (Nat → Int32) → Prop} (hw : wp_X10_skill m wa fo  a1 a2 Q) : Cn l D ca sd yX10_skill cX10_skill 5 (some .int) { frames := 6, cells := 0, slots := 0, locals := 135 } [.ref (am 0), .int a1, .int a2] (wM ca am m kp wa fo ta bo so ce ik td tk bg aa vl bd) (wM ca am m kp wa fo ta bo so ce ik td tk bg aa vl bd) 0 0 (Ri D (fun (r : Int32) (u : (Nat → Int32) × (Nat → Int32) × (Nat → Int32)) => Q r u.1 u.2.1 u.2.2) (fun u => (wM ca am u.1 kp u.2.1 u.2.2 ta bo so ce ik td tk bg aa vl bd))) := by
  refine cn_of (by decide) (Nat.le_of_ble_eq_true rfl) (fun k C hR hB _ => ?_)
  have C : Cx D ca sd cX10_skill RX10 (some .int) { frames := 6, cells := 0, slots := 0, locals := 135 } k 5 := C
  unfold wp_X10_skill at hw
  show J l D k 5 0 0 0 (wM ca am m kp wa fo ta bo so ce ik td tk bg aa vl bd) [(0, .ref (am 0)), (1, .int a1), (2, .int a2)] []
  refine j_iload_n C 1 dX10_skill_0 rfl ?_
  refine j_ciZ C (jr_S C lkS_X10_49 (c_X10_isPerson a1 hw) ⟨rfl, rfl, by decide, by decide, by decide, by decide⟩ [] (by decide) rfl (fx_ro C) rfl rfl (Nat.le_of_ble_eq_true rfl) dX10_skill_1) (fun r1 u1 hw => ?_)
  refine j_if_eq C 18 dX10_skill_4 (by decide) (fun z => ?_) (fun z => ?_)
  · replace hw := hw.1 z
    refine j_aload_n C 0 dX10_skill_18 rfl ?_
    refine j_ldc C dX10_skill_19 ct_X10_35 ?_
    refine j_ciT C hB 0 9 (fun u2 : (Nat → Int32) => (wM ca am m kp wa u2 ta bo so ce ik td tk bg aa vl bd)) rfl (fun _ => rfl) (jr_V C lkV_X10_37 (c_X10_finds am m kp wa fo ta bo so ce ik td tk bg aa vl bd (-1000000001) hw) ⟨rfl, rfl, by decide, by decide, by decide, by decide⟩ [0, 1, 2, 3, 4, 5, 6, 7, 8] (by decide) rfl (fx_rw C hB [0, 1, 2, 3, 4, 5, 6, 7, 8] rfl) 0 10 rfl rfl rfl rfl (Nat.le_of_ble_eq_true rfl) dX10_skill_21) (fun r2 u2 hw => ?_)
    exact j_iret C hB hR (m, wa, u2) rfl dX10_skill_24 hw rfl
  · replace hw := hw.2 z
    refine j_iload_n C 2 dX10_skill_7 rfl ?_
    refine j_i2l C dX10_skill_8 ?_
    refine j_iconst C 1 dX10_skill_9 (by decide) ?_
    refine j_bipush C 60 dX10_skill_10 (by decide) ?_
    refine j_ciZ C (jr_S C lkS_X10_41 (c_X10_in ((a2).toInt64) 1 60 hw) ⟨rfl, rfl, by decide, by decide, by decide, by decide⟩ [] (by decide) rfl (fx_ro C) rfl rfl (Nat.le_of_ble_eq_true rfl) dX10_skill_12) (fun r3 u3 hw => ?_)
    refine j_if_ne C 25 dX10_skill_15 (by decide) (fun z => ?_) (fun z => ?_)
    · replace hw := hw.2 z
      refine j_aload_n C 0 dX10_skill_25 rfl ?_
      refine j_cvT C hB 0 9 (fun u4 : (Nat → Int32) => (wM ca am m kp u4 fo ta bo so ce ik td tk bg aa vl bd)) rfl (fun _ => rfl) (jr_V C lkV_X10_141 (c_X10_thinks am m kp wa fo ta bo so ce ik td tk bg aa vl bd hw) ⟨rfl, rfl, by decide, by decide, by decide, by decide⟩ [0, 1, 2, 3, 4, 5, 6, 7, 8] (by decide) rfl (fx_rw C hB [0, 1, 2, 3, 4, 5, 6, 7, 8] rfl) 0 10 rfl rfl rfl rfl (Nat.le_of_ble_eq_true rfl) dX10_skill_26) (fun u4 hw => ?_)
      refine j_iconst C (-1) dX10_skill_29 (by decide) ?_
      refine j_istore_n C [(3, .int (-1)), (0, .ref (am 0)), (1, .int a1), (2, .int a2)] dX10_skill_30 (by decide) rfl ?_
      refine j_iconst C 0 dX10_skill_31 (by decide) ?_
      refine j_istore C [(4, .int 0), (3, .int (-1)), (0, .ref (am 0)), (1, .int a1), (2, .int a2)] dX10_skill_32 (by decide) rfl ?_
      refine j_lsub [2, 3, 4, 1, 0] [(0, .ref (am 0)), (1, .int a1), (2, .int a2), (3, .int (-1)), (4, .int 0)] rfl ?_
      obtain ⟨n10, hw⟩ := hw
      refine ml_X10_skill_34 am  kp u4 fo ta bo so ce ik td tk bg aa vl bd a1 a2 C hR hB (fun y10_3 y10_4 y10_m hw => ?_) n10 (-1) 0 m hw
      refine j_aload_n C 0 dX10_skill_82 rfl ?_
      refine j_iload_n C 3 dX10_skill_83 rfl ?_
      refine j_ciT C hB 0 9 (fun u11 : (Nat → Int32) => (wM ca am y10_m kp u4 u11 ta bo so ce ik td tk bg aa vl bd)) rfl (fun _ => rfl) (jr_V C lkV_X10_110 (c_X10_orNone am y10_m kp u4 fo ta bo so ce ik td tk bg aa vl bd y10_3 hw) ⟨rfl, rfl, by decide, by decide, by decide, by decide⟩ [0, 1, 2, 3, 4, 5, 6, 7, 8] (by decide) rfl (fx_rw C hB [0, 1, 2, 3, 4, 5, 6, 7, 8] rfl) 0 10 rfl rfl rfl rfl (Nat.le_of_ble_eq_true rfl) dX10_skill_84) (fun r11 u11 hw => ?_)
      exact j_iret C hB hR (y10_m, u4, u11) rfl dX10_skill_87 hw rfl
    · replace hw := hw.1 z
      refine j_aload_n C 0 dX10_skill_18 rfl ?_
      refine j_ldc C dX10_skill_19 ct_X10_35 ?_
      refine j_ciT C hB 0 9 (fun u12 : (Nat → Int32) => (wM ca am m kp wa u12 ta bo so ce ik td tk bg aa vl bd)) rfl (fun _ => rfl) (jr_V C lkV_X10_37 (c_X10_finds am m kp wa fo ta bo so ce ik td tk bg aa vl bd (-1000000001) hw) ⟨rfl, rfl, by decide, by decide, by decide, by decide⟩ [0, 1, 2, 3, 4, 5, 6, 7, 8] (by decide) rfl (fx_rw C hB [0, 1, 2, 3, 4, 5, 6, 7, 8] rfl) 0 10 rfl rfl rfl rfl (Nat.le_of_ble_eq_true rfl) dX10_skill_21) (fun r12 u12 hw => ?_)
      exact j_iret C hB hR (m, wa, u12) rfl dX10_skill_24 hw rfl
def wpl_X10_maker_31 (m : Nat → Int32) (K : (Int32) → (Int32) → Prop) : Nat → (Int32) → (Int32) → Prop
  | 0, _, _ => False
  | n + 1, x2, x3 => (6 ≤ x3 → K x2 x3) ∧ (¬ (6 ≤ x3) → wp_X10_his m x3 2 (fun r4 => wp_X10_his m x2 2 (fun r5 => (r4 ≤ r5 → wpl_X10_maker_31 m  K n x2 (x3 + 1)) ∧ (¬ (r4 ≤ r5) → wpl_X10_maker_31 m  K n x3 (x3 + 1)))))
def wp_X10_maker (m : Nat → Int32) (wa : Nat → Int32) (fo : Nat → Int32)  (a1 : Int32) (Q : (Int32) → (Nat → Int32) → (Nat → Int32) → (Nat → Int32) → Prop) : Prop := wp_X10_in ((a1).toInt64) 0 100 (fun r1 => (r1 = 0 → wp_X10_finds fo (-1000000001) (fun r8 c8_0 => Q r8 m wa c8_0)) ∧ (¬ (r1 = 0) → wp_X10_thinks m wa (fun c2_0 => wp_X10_goesFor m a1 (fun c3_0 => ∃ n6 : Nat, wpl_X10_maker_31 c3_0  (fun y6_2 y6_3 => wp_X10_putsBack c3_0 c2_0 (fun c7_0 => Q y6_2 c7_0 c2_0 fo)) n6 0 1))))
set_option maxRecDepth 100000 in
set_option maxHeartbeats 8000000 in
theorem ml_X10_maker_31 {l : Launch} {D : va_G} {ca : Nat → ClassId} {sd : Nat → Nat}  {k : Kx} (am : Nat → Nat)  (m : Nat → Int32) (kp : Nat → Int32) (wa : Nat → Int32) (fo : Nat → Int32) (ta : Nat → Int32) (bo : Nat → Int32) (so : Nat → Int32) (ce : Nat → Int64) (ik : Int32) (td : Int32) (tk : Int32) (bg : Int32) (aa : Int32) (vl : Int32) (bd : Int32) (x1 : Int32) (C : Cx D ca sd cX10_maker RX10 (some .int) { frames := 6, cells := 0, slots := 0, locals := 135 } k 4) {Q : (Int32) → (Nat → Int32) → (Nat → Int32) → (Nat → Int32) → Prop} (hR : Rx (Ri D (fun (r : Int32) (u : (Nat → Int32) × (Nat → Int32) × (Nat → Int32)) => Q r u.1 u.2.1 u.2.2) (fun u => (wM ca am u.1 kp u.2.1 u.2.2 ta bo so ce ik td tk bg aa vl bd))) 0 0 k) (hB : Wx k) {K : (Int32) → (Int32) → Prop} (hK : ∀ (x2' : Int32) (x3' : Int32), K x2' x3' → J l D k 4 0 0 64 (wM ca am m kp wa fo ta bo so ce ik td tk bg aa vl bd) [(0, .ref (am 0)), (1, .int x1), (2, .int x2'), (3, .int x3')] []) : ∀ (n : Nat) (x2 : Int32) (x3 : Int32), wpl_X10_maker_31 m  K n x2 x3 → J l D k 4 0 0 31 (wM ca am m kp wa fo ta bo so ce ik td tk bg aa vl bd) [(0, .ref (am 0)), (1, .int x1), (2, .int x2), (3, .int x3)] [] := by
  intro n
  induction n with
  | zero =>
    intro x2 x3 hw
    rw [wpl_X10_maker_31] at hw
    exact hw.elim
  | succ n ih =>
    intro x2 x3 hw
    rw [wpl_X10_maker_31] at hw
    refine j_iload_n C 3 dX10_maker_31 rfl ?_
    refine j_bipush C 6 dX10_maker_32 (by decide) ?_
    refine j_icmp_ge C 64 dX10_maker_34 (by decide) (fun z => ?_) (fun z => ?_)
    · replace hw := hw.1 z
      exact hK x2 x3 hw
    · replace hw := hw.2 z
      refine j_aload_n C 0 dX10_maker_37 rfl ?_
      refine j_iload_n C 3 dX10_maker_38 rfl ?_
      refine j_iconst C 2 dX10_maker_39 (by decide) ?_
      refine j_ciZ C (jr_V C lkV_X10_63 (c_X10_his am m kp wa fo ta bo so ce ik td tk bg aa vl bd x3 2 hw) ⟨rfl, rfl, by decide, by decide, by decide, by decide⟩ [0, 1, 2, 3, 4, 5, 6, 7, 8] (by decide) rfl (fx_ro C) 0 10 rfl rfl rfl rfl (Nat.le_of_ble_eq_true rfl) dX10_maker_40) (fun r4 u4 hw => ?_)
      refine j_aload_n C 0 dX10_maker_43 rfl ?_
      refine j_iload_n C 2 dX10_maker_44 rfl ?_
      refine j_iconst C 2 dX10_maker_45 (by decide) ?_
      refine j_ciZ C (jr_V C lkV_X10_63 (c_X10_his am m kp wa fo ta bo so ce ik td tk bg aa vl bd x2 2 hw) ⟨rfl, rfl, by decide, by decide, by decide, by decide⟩ [0, 1, 2, 3, 4, 5, 6, 7, 8] (by decide) rfl (fx_ro C) 0 10 rfl rfl rfl rfl (Nat.le_of_ble_eq_true rfl) dX10_maker_46) (fun r5 u5 hw => ?_)
      refine j_icmp_le C 56 dX10_maker_49 (by decide) (fun z => ?_) (fun z => ?_)
      · replace hw := hw.1 z
        refine j_iload_n C 2 dX10_maker_56 rfl ?_
        refine j_istore_n C [(2, .int x2), (0, .ref (am 0)), (1, .int x1), (3, .int x3)] dX10_maker_57 (by decide) rfl ?_
        refine j_iinc C 3 (x3 + 1) [(3, .int (x3 + 1)), (2, .int x2), (0, .ref (am 0)), (1, .int x1)] dX10_maker_58 rfl rfl (by decide) rfl ?_
        refine j_goto C 31 dX10_maker_61 (by decide) ?_
        refine j_lsub [2, 3, 1, 0] [(0, .ref (am 0)), (1, .int x1), (2, .int x2), (3, .int (x3 + 1))] rfl ?_
        exact ih x2 (x3 + 1) hw
      · replace hw := hw.2 z
        refine j_iload_n C 3 dX10_maker_52 rfl ?_
        refine j_goto C 57 dX10_maker_53 (by decide) ?_
        refine j_istore_n C [(2, .int x3), (0, .ref (am 0)), (1, .int x1), (3, .int x3)] dX10_maker_57 (by decide) rfl ?_
        refine j_iinc C 3 (x3 + 1) [(3, .int (x3 + 1)), (2, .int x3), (0, .ref (am 0)), (1, .int x1)] dX10_maker_58 rfl rfl (by decide) rfl ?_
        refine j_goto C 31 dX10_maker_61 (by decide) ?_
        refine j_lsub [2, 3, 1, 0] [(0, .ref (am 0)), (1, .int x1), (2, .int x3), (3, .int (x3 + 1))] rfl ?_
        exact ih x3 (x3 + 1) hw
set_option maxRecDepth 100000 in
set_option maxHeartbeats 8000000 in
theorem c_X10_maker {l : Launch} {D : va_G} {ca : Nat → ClassId} {sd : Nat → Nat}  (am : Nat → Nat) (m : Nat → Int32) (kp : Nat → Int32) (wa : Nat → Int32) (fo : Nat → Int32) (ta : Nat → Int32) (bo : Nat → Int32) (so : Nat → Int32) (ce : Nat → Int64) (ik : Int32) (td : Int32) (tk : Int32) (bg : Int32) (aa : Int32) (vl : Int32) (bd : Int32)  (a1 : Int32)  {Q : (Int32) → (Nat → Int32) → (Nat → Int32) → (Nat → Int32) → Prop} (hw : wp_X10_maker m wa fo  a1 Q) : Cn l D ca sd yX10_maker cX10_maker 4 (some .int) { frames := 6, cells := 0, slots := 0, locals := 135 } [.ref (am 0), .int a1] (wM ca am m kp wa fo ta bo so ce ik td tk bg aa vl bd) (wM ca am m kp wa fo ta bo so ce ik td tk bg aa vl bd) 0 0 (Ri D (fun (r : Int32) (u : (Nat → Int32) × (Nat → Int32) × (Nat → Int32)) => Q r u.1 u.2.1 u.2.2) (fun u => (wM ca am u.1 kp u.2.1 u.2.2 ta bo so ce ik td tk bg aa vl bd))) := by
  refine cn_of (by decide) (Nat.le_of_ble_eq_true rfl) (fun k C hR hB _ => ?_)
  have C : Cx D ca sd cX10_maker RX10 (some .int) { frames := 6, cells := 0, slots := 0, locals := 135 } k 4 := C
  unfold wp_X10_maker at hw
  show J l D k 4 0 0 0 (wM ca am m kp wa fo ta bo so ce ik td tk bg aa vl bd) [(0, .ref (am 0)), (1, .int a1)] []
  refine j_iload_n C 1 dX10_maker_0 rfl ?_
  refine j_i2l C dX10_maker_1 ?_
  refine j_iconst C 0 dX10_maker_2 (by decide) ?_
  refine j_bipush C 100 dX10_maker_3 (by decide) ?_
  refine j_ciZ C (jr_S C lkS_X10_41 (c_X10_in ((a1).toInt64) 0 100 hw) ⟨rfl, rfl, by decide, by decide, by decide, by decide⟩ [] (by decide) rfl (fx_ro C) rfl rfl (Nat.le_of_ble_eq_true rfl) dX10_maker_5) (fun r1 u1 hw => ?_)
  refine j_if_ne C 18 dX10_maker_8 (by decide) (fun z => ?_) (fun z => ?_)
  · replace hw := hw.2 z
    refine j_aload_n C 0 dX10_maker_18 rfl ?_
    refine j_cvT C hB 0 9 (fun u2 : (Nat → Int32) => (wM ca am m kp u2 fo ta bo so ce ik td tk bg aa vl bd)) rfl (fun _ => rfl) (jr_V C lkV_X10_141 (c_X10_thinks am m kp wa fo ta bo so ce ik td tk bg aa vl bd hw) ⟨rfl, rfl, by decide, by decide, by decide, by decide⟩ [0, 1, 2, 3, 4, 5, 6, 7, 8] (by decide) rfl (fx_rw C hB [0, 1, 2, 3, 4, 5, 6, 7, 8] rfl) 0 10 rfl rfl rfl rfl (Nat.le_of_ble_eq_true rfl) dX10_maker_19) (fun u2 hw => ?_)
    refine j_aload_n C 0 dX10_maker_22 rfl ?_
    refine j_iload_n C 1 dX10_maker_23 rfl ?_
    refine j_cvT C hB 0 9 (fun u3 : (Nat → Int32) => (wM ca am u3 kp u2 fo ta bo so ce ik td tk bg aa vl bd)) rfl (fun _ => rfl) (jr_V C lkV_X10_128 (c_X10_goesFor am m kp u2 fo ta bo so ce ik td tk bg aa vl bd a1 hw) ⟨rfl, rfl, by decide, by decide, by decide, by decide⟩ [0, 1, 2, 3, 4, 5, 6, 7, 8] (by decide) rfl (fx_rw C hB [0, 1, 2, 3, 4, 5, 6, 7, 8] rfl) 0 10 rfl rfl rfl rfl (Nat.le_of_ble_eq_true rfl) dX10_maker_24) (fun u3 hw => ?_)
    refine j_iconst C 0 dX10_maker_27 (by decide) ?_
    refine j_istore_n C [(2, .int 0), (0, .ref (am 0)), (1, .int a1)] dX10_maker_28 (by decide) rfl ?_
    refine j_iconst C 1 dX10_maker_29 (by decide) ?_
    refine j_istore_n C [(3, .int 1), (2, .int 0), (0, .ref (am 0)), (1, .int a1)] dX10_maker_30 (by decide) rfl ?_
    refine j_lsub [2, 3, 1, 0] [(0, .ref (am 0)), (1, .int a1), (2, .int 0), (3, .int 1)] rfl ?_
    obtain ⟨n6, hw⟩ := hw
    refine ml_X10_maker_31 am  u3 kp u2 fo ta bo so ce ik td tk bg aa vl bd a1 C hR hB (fun y6_2 y6_3 hw => ?_) n6 0 1 hw
    refine j_aload_n C 0 dX10_maker_64 rfl ?_
    refine j_cvT C hB 0 9 (fun u7 : (Nat → Int32) => (wM ca am u7 kp u2 fo ta bo so ce ik td tk bg aa vl bd)) rfl (fun _ => rfl) (jr_V C lkV_X10_144 (c_X10_putsBack am u3 kp u2 fo ta bo so ce ik td tk bg aa vl bd hw) ⟨rfl, rfl, by decide, by decide, by decide, by decide⟩ [0, 1, 2, 3, 4, 5, 6, 7, 8] (by decide) rfl (fx_rw C hB [0, 1, 2, 3, 4, 5, 6, 7, 8] rfl) 0 10 rfl rfl rfl rfl (Nat.le_of_ble_eq_true rfl) dX10_maker_65) (fun u7 hw => ?_)
    refine j_iload_n C 2 dX10_maker_68 rfl ?_
    exact j_iret C hB hR (u7, u2, fo) rfl dX10_maker_69 hw rfl
  · replace hw := hw.1 z
    refine j_aload_n C 0 dX10_maker_11 rfl ?_
    refine j_ldc C dX10_maker_12 ct_X10_35 ?_
    refine j_ciT C hB 0 9 (fun u8 : (Nat → Int32) => (wM ca am m kp wa u8 ta bo so ce ik td tk bg aa vl bd)) rfl (fun _ => rfl) (jr_V C lkV_X10_37 (c_X10_finds am m kp wa fo ta bo so ce ik td tk bg aa vl bd (-1000000001) hw) ⟨rfl, rfl, by decide, by decide, by decide, by decide⟩ [0, 1, 2, 3, 4, 5, 6, 7, 8] (by decide) rfl (fx_rw C hB [0, 1, 2, 3, 4, 5, 6, 7, 8] rfl) 0 10 rfl rfl rfl rfl (Nat.le_of_ble_eq_true rfl) dX10_maker_14) (fun r8 u8 hw => ?_)
    exact j_iret C hB hR (m, wa, u8) rfl dX10_maker_17 hw rfl
def wpl_X10_drop_29 (wa : Nat → Int32) (x1 : Int32) (K : (Int32) → (Int32) → (Int32) → (Nat → Int32) → Prop) : Nat → (Int32) → (Int32) → (Int32) → (Nat → Int32) → Prop
  | 0, _, _, _, _ => False
  | n + 1, x2, x3, x4, m => vp_in 1 52 ∧ (((m ((1 : Int32).toNatClampNeg)) ≤ x4 → K x2 x3 x4 m) ∧ (¬ ((m ((1 : Int32).toNatClampNeg)) ≤ x4) → wp_X10_canLeave m x4 (fun r4 => (r4 = 0 → wpl_X10_drop_29 wa x1  K n x2 x3 (x4 + 1) m) ∧ (¬ (r4 = 0) → wp_X10_leaves m x4 (fun r5 c5_0 => wp_X10_goesFor c5_0 x1 (fun c6_0 => wp_X10_sums c6_0 1 (fun r7 => wp_X10_putsBack c6_0 wa (fun c8_0 => (r7 ≤ x3 → (r7 ≤ x3 → wpl_X10_drop_29 wa x1  K n x2 x3 (x4 + 1) c8_0) ∧ (¬ (r7 ≤ x3) → wpl_X10_drop_29 wa x1  K n x2 r7 (x4 + 1) c8_0)) ∧ (¬ (r7 ≤ x3) → (r7 ≤ x3 → wpl_X10_drop_29 wa x1  K n x4 x3 (x4 + 1) c8_0) ∧ (¬ (r7 ≤ x3) → wpl_X10_drop_29 wa x1  K n x4 r7 (x4 + 1) c8_0))))))))))
def wp_X10_drop (m : Nat → Int32) (wa : Nat → Int32) (fo : Nat → Int32)  (a1 : Int32) (Q : (Int32) → (Nat → Int32) → (Nat → Int32) → (Nat → Int32) → Prop) : Prop := wp_X10_in ((a1).toInt64) 1 30 (fun r1 => (r1 = 0 → wp_X10_finds fo (-1000000001) (fun r11 c11_0 => Q r11 m wa c11_0)) ∧ (¬ (r1 = 0) → wp_X10_thinks m wa (fun c2_0 => ∃ n9 : Nat, wpl_X10_drop_29 c2_0 a1  (fun y9_2 y9_3 y9_4 y9_m => wp_X10_orNone fo y9_2 (fun r10 c10_0 => Q r10 y9_m c2_0 c10_0)) n9 (-1) (-1) 0 m)))
set_option maxRecDepth 100000 in
set_option maxHeartbeats 8000000 in
theorem ml_X10_drop_29 {l : Launch} {D : va_G} {ca : Nat → ClassId} {sd : Nat → Nat}  {k : Kx} (am : Nat → Nat)  (kp : Nat → Int32) (wa : Nat → Int32) (fo : Nat → Int32) (ta : Nat → Int32) (bo : Nat → Int32) (so : Nat → Int32) (ce : Nat → Int64) (ik : Int32) (td : Int32) (tk : Int32) (bg : Int32) (aa : Int32) (vl : Int32) (bd : Int32) (x1 : Int32) (C : Cx D ca sd cX10_drop RX10 (some .int) { frames := 6, cells := 0, slots := 0, locals := 135 } k 7) {Q : (Int32) → (Nat → Int32) → (Nat → Int32) → (Nat → Int32) → Prop} (hR : Rx (Ri D (fun (r : Int32) (u : (Nat → Int32) × (Nat → Int32) × (Nat → Int32)) => Q r u.1 u.2.1 u.2.2) (fun u => (wM ca am u.1 kp u.2.1 u.2.2 ta bo so ce ik td tk bg aa vl bd))) 0 0 k) (hB : Wx k) {K : (Int32) → (Int32) → (Int32) → (Nat → Int32) → Prop} (hK : ∀ (x2' : Int32) (x3' : Int32) (x4' : Int32) (m' : Nat → Int32), K x2' x3' x4' m' → J l D k 7 0 0 105 (wM ca am m' kp wa fo ta bo so ce ik td tk bg aa vl bd) [(0, .ref (am 0)), (1, .int x1), (2, .int x2'), (3, .int x3'), (4, .int x4')] []) : ∀ (n : Nat) (x2 : Int32) (x3 : Int32) (x4 : Int32) (m : Nat → Int32), wpl_X10_drop_29 wa x1  K n x2 x3 x4 m → J l D k 7 0 0 29 (wM ca am m kp wa fo ta bo so ce ik td tk bg aa vl bd) [(0, .ref (am 0)), (1, .int x1), (2, .int x2), (3, .int x3), (4, .int x4)] [] := by
  intro n
  induction n with
  | zero =>
    intro x2 x3 x4 m hw
    rw [wpl_X10_drop_29] at hw
    exact hw.elim
  | succ n ih =>
    intro x2 x3 x4 m hw
    rw [wpl_X10_drop_29] at hw
    refine j_iload C 4 dX10_drop_29 rfl ?_
    refine j_aload_n C 0 dX10_drop_31 rfl ?_
    refine j_get C fl_X10_9_10 0 dX10_drop_32 rfl rfl ?_
    refine j_iconst C 1 dX10_drop_35 (by decide) ?_
    have hi3 := hw.1
    replace hw := hw.2
    refine j_iald C 1 dX10_drop_36 rfl hi3 ?_
    refine j_icmp_ge C 105 dX10_drop_37 (by decide) (fun z => ?_) (fun z => ?_)
    · replace hw := hw.1 z
      exact hK x2 x3 x4 m hw
    · replace hw := hw.2 z
      refine j_aload_n C 0 dX10_drop_40 rfl ?_
      refine j_iload C 4 dX10_drop_41 rfl ?_
      refine j_ciZ C (jr_V C lkV_X10_100 (c_X10_canLeave am m kp wa fo ta bo so ce ik td tk bg aa vl bd x4 hw) ⟨rfl, rfl, by decide, by decide, by decide, by decide⟩ [0, 1, 2, 3, 4, 5, 6, 7, 8] (by decide) rfl (fx_ro C) 0 10 rfl rfl rfl rfl (Nat.le_of_ble_eq_true rfl) dX10_drop_43) (fun r4 u4 hw => ?_)
      refine j_if_eq C 99 dX10_drop_46 (by decide) (fun z => ?_) (fun z => ?_)
      · replace hw := hw.1 z
        refine j_iinc C 4 (x4 + 1) [(4, .int (x4 + 1)), (0, .ref (am 0)), (1, .int x1), (2, .int x2), (3, .int x3)] dX10_drop_99 rfl rfl (by decide) rfl ?_
        refine j_goto C 29 dX10_drop_102 (by decide) ?_
        refine j_lsub [1, 2, 3, 4, 0] [(0, .ref (am 0)), (1, .int x1), (2, .int x2), (3, .int x3), (4, .int (x4 + 1))] rfl ?_
        exact ih x2 x3 (x4 + 1) m hw
      · replace hw := hw.2 z
        refine j_aload_n C 0 dX10_drop_49 rfl ?_
        refine j_iload C 4 dX10_drop_50 rfl ?_
        refine j_ciT C hB 0 9 (fun u5 : (Nat → Int32) => (wM ca am u5 kp wa fo ta bo so ce ik td tk bg aa vl bd)) rfl (fun _ => rfl) (jr_V C lkV_X10_103 (c_X10_leaves am m kp wa fo ta bo so ce ik td tk bg aa vl bd x4 hw) ⟨rfl, rfl, by decide, by decide, by decide, by decide⟩ [0, 1, 2, 3, 4, 5, 6, 7, 8] (by decide) rfl (fx_rw C hB [0, 1, 2, 3, 4, 5, 6, 7, 8] rfl) 0 10 rfl rfl rfl rfl (Nat.le_of_ble_eq_true rfl) dX10_drop_52) (fun r5 u5 hw => ?_)
        refine j_istore C [(5, .int r5), (0, .ref (am 0)), (1, .int x1), (2, .int x2), (3, .int x3), (4, .int x4)] dX10_drop_55 (by decide) rfl ?_
        refine j_aload_n C 1 dX10_drop_57 rfl ?_
        refine j_iload_n C 2 dX10_drop_58 rfl ?_
        refine j_cvT C hB 0 9 (fun u6 : (Nat → Int32) => (wM ca am u6 kp wa fo ta bo so ce ik td tk bg aa vl bd)) rfl (fun _ => rfl) (jr_V C lkV_X10_128 (c_X10_goesFor am u5 kp wa fo ta bo so ce ik td tk bg aa vl bd x1 hw) ⟨rfl, rfl, by decide, by decide, by decide, by decide⟩ [0, 1, 2, 3, 4, 5, 6, 7, 8] (by decide) rfl (fx_rw C hB [0, 1, 2, 3, 4, 5, 6, 7, 8] rfl) 0 10 rfl rfl rfl rfl (Nat.le_of_ble_eq_true rfl) dX10_drop_59) (fun u6 hw => ?_)
        refine j_aload_n C 1 dX10_drop_62 rfl ?_
        refine j_iconst C 1 dX10_drop_63 (by decide) ?_
        refine j_ciZ C (jr_V C lkV_X10_131 (c_X10_sums am u6 kp wa fo ta bo so ce ik td tk bg aa vl bd 1 hw) ⟨rfl, rfl, by decide, by decide, by decide, by decide⟩ [0, 1, 2, 3, 4, 5, 6, 7, 8] (by decide) rfl (fx_ro C) 0 10 rfl rfl rfl rfl (Nat.le_of_ble_eq_true rfl) dX10_drop_64) (fun r7 u7 hw => ?_)
        refine j_istore C [(6, .int r7), (5, .int r5), (0, .ref (am 0)), (1, .int x1), (2, .int x2), (3, .int x3), (4, .int x4)] dX10_drop_67 (by decide) rfl ?_
        refine j_aload_n C 2 dX10_drop_69 rfl ?_
        refine j_cvT C hB 0 9 (fun u8 : (Nat → Int32) => (wM ca am u8 kp wa fo ta bo so ce ik td tk bg aa vl bd)) rfl (fun _ => rfl) (jr_V C lkV_X10_144 (c_X10_putsBack am u6 kp wa fo ta bo so ce ik td tk bg aa vl bd hw) ⟨rfl, rfl, by decide, by decide, by decide, by decide⟩ [0, 1, 2, 3, 4, 5, 6, 7, 8] (by decide) rfl (fx_rw C hB [0, 1, 2, 3, 4, 5, 6, 7, 8] rfl) 0 10 rfl rfl rfl rfl (Nat.le_of_ble_eq_true rfl) dX10_drop_70) (fun u8 hw => ?_)
        refine j_iload C 0 dX10_drop_73 rfl ?_
        refine j_iload_n C 5 dX10_drop_75 rfl ?_
        refine j_icmp_le C 84 dX10_drop_76 (by decide) (fun z => ?_) (fun z => ?_)
        · replace hw := hw.1 z
          refine j_iload_n C 4 dX10_drop_84 rfl ?_
          refine j_istore_n C [(2, .int x2), (6, .int r7), (5, .int r5), (0, .ref (am 0)), (1, .int x1), (3, .int x3), (4, .int x4)] dX10_drop_85 (by decide) rfl ?_
          refine j_iload C 1 dX10_drop_86 rfl ?_
          refine j_iload_n C 5 dX10_drop_88 rfl ?_
          refine j_icmp_le C 97 dX10_drop_89 (by decide) (fun z => ?_) (fun z => ?_)
          · replace hw := hw.1 z
            refine j_iload_n C 5 dX10_drop_97 rfl ?_
            refine j_istore_n C [(3, .int x3), (2, .int x2), (6, .int r7), (5, .int r5), (0, .ref (am 0)), (1, .int x1), (4, .int x4)] dX10_drop_98 (by decide) rfl ?_
            refine j_iinc C 6 (x4 + 1) [(4, .int (x4 + 1)), (3, .int x3), (2, .int x2), (6, .int r7), (5, .int r5), (0, .ref (am 0)), (1, .int x1)] dX10_drop_99 rfl rfl (by decide) rfl ?_
            refine j_goto C 29 dX10_drop_102 (by decide) ?_
            refine j_lsub [5, 6, 2, 1, 0] [(0, .ref (am 0)), (1, .int x1), (2, .int x2), (3, .int x3), (4, .int (x4 + 1))] rfl ?_
            exact ih x2 x3 (x4 + 1) u8 hw
          · replace hw := hw.2 z
            refine j_iload C 1 dX10_drop_92 rfl ?_
            refine j_goto C 98 dX10_drop_94 (by decide) ?_
            refine j_istore_n C [(3, .int r7), (2, .int x2), (6, .int r7), (5, .int r5), (0, .ref (am 0)), (1, .int x1), (4, .int x4)] dX10_drop_98 (by decide) rfl ?_
            refine j_iinc C 6 (x4 + 1) [(4, .int (x4 + 1)), (3, .int r7), (2, .int x2), (6, .int r7), (5, .int r5), (0, .ref (am 0)), (1, .int x1)] dX10_drop_99 rfl rfl (by decide) rfl ?_
            refine j_goto C 29 dX10_drop_102 (by decide) ?_
            refine j_lsub [5, 6, 2, 1, 0] [(0, .ref (am 0)), (1, .int x1), (2, .int x2), (3, .int r7), (4, .int (x4 + 1))] rfl ?_
            exact ih x2 r7 (x4 + 1) u8 hw
        · replace hw := hw.2 z
          refine j_iload C 6 dX10_drop_79 rfl ?_
          refine j_goto C 85 dX10_drop_81 (by decide) ?_
          refine j_istore_n C [(2, .int x4), (6, .int r7), (5, .int r5), (0, .ref (am 0)), (1, .int x1), (3, .int x3), (4, .int x4)] dX10_drop_85 (by decide) rfl ?_
          refine j_iload C 1 dX10_drop_86 rfl ?_
          refine j_iload_n C 5 dX10_drop_88 rfl ?_
          refine j_icmp_le C 97 dX10_drop_89 (by decide) (fun z => ?_) (fun z => ?_)
          · replace hw := hw.1 z
            refine j_iload_n C 5 dX10_drop_97 rfl ?_
            refine j_istore_n C [(3, .int x3), (2, .int x4), (6, .int r7), (5, .int r5), (0, .ref (am 0)), (1, .int x1), (4, .int x4)] dX10_drop_98 (by decide) rfl ?_
            refine j_iinc C 6 (x4 + 1) [(4, .int (x4 + 1)), (3, .int x3), (2, .int x4), (6, .int r7), (5, .int r5), (0, .ref (am 0)), (1, .int x1)] dX10_drop_99 rfl rfl (by decide) rfl ?_
            refine j_goto C 29 dX10_drop_102 (by decide) ?_
            refine j_lsub [5, 6, 2, 1, 0] [(0, .ref (am 0)), (1, .int x1), (2, .int x4), (3, .int x3), (4, .int (x4 + 1))] rfl ?_
            exact ih x4 x3 (x4 + 1) u8 hw
          · replace hw := hw.2 z
            refine j_iload C 1 dX10_drop_92 rfl ?_
            refine j_goto C 98 dX10_drop_94 (by decide) ?_
            refine j_istore_n C [(3, .int r7), (2, .int x4), (6, .int r7), (5, .int r5), (0, .ref (am 0)), (1, .int x1), (4, .int x4)] dX10_drop_98 (by decide) rfl ?_
            refine j_iinc C 6 (x4 + 1) [(4, .int (x4 + 1)), (3, .int r7), (2, .int x4), (6, .int r7), (5, .int r5), (0, .ref (am 0)), (1, .int x1)] dX10_drop_99 rfl rfl (by decide) rfl ?_
            refine j_goto C 29 dX10_drop_102 (by decide) ?_
            refine j_lsub [5, 6, 2, 1, 0] [(0, .ref (am 0)), (1, .int x1), (2, .int x4), (3, .int r7), (4, .int (x4 + 1))] rfl ?_
            exact ih x4 r7 (x4 + 1) u8 hw
set_option maxRecDepth 100000 in
set_option maxHeartbeats 8000000 in
theorem c_X10_drop {l : Launch} {D : va_G} {ca : Nat → ClassId} {sd : Nat → Nat}  (am : Nat → Nat) (m : Nat → Int32) (kp : Nat → Int32) (wa : Nat → Int32) (fo : Nat → Int32) (ta : Nat → Int32) (bo : Nat → Int32) (so : Nat → Int32) (ce : Nat → Int64) (ik : Int32) (td : Int32) (tk : Int32) (bg : Int32) (aa : Int32) (vl : Int32) (bd : Int32)  (a1 : Int32)  {Q : (Int32) → (Nat → Int32) → (Nat → Int32) → (Nat → Int32) → Prop} (hw : wp_X10_drop m wa fo  a1 Q) : Cn l D ca sd yX10_drop cX10_drop 7 (some .int) { frames := 6, cells := 0, slots := 0, locals := 135 } [.ref (am 0), .int a1] (wM ca am m kp wa fo ta bo so ce ik td tk bg aa vl bd) (wM ca am m kp wa fo ta bo so ce ik td tk bg aa vl bd) 0 0 (Ri D (fun (r : Int32) (u : (Nat → Int32) × (Nat → Int32) × (Nat → Int32)) => Q r u.1 u.2.1 u.2.2) (fun u => (wM ca am u.1 kp u.2.1 u.2.2 ta bo so ce ik td tk bg aa vl bd))) := by
  refine cn_of (by decide) (Nat.le_of_ble_eq_true rfl) (fun k C hR hB _ => ?_)
  have C : Cx D ca sd cX10_drop RX10 (some .int) { frames := 6, cells := 0, slots := 0, locals := 135 } k 7 := C
  unfold wp_X10_drop at hw
  show J l D k 7 0 0 0 (wM ca am m kp wa fo ta bo so ce ik td tk bg aa vl bd) [(0, .ref (am 0)), (1, .int a1)] []
  refine j_iload_n C 1 dX10_drop_0 rfl ?_
  refine j_i2l C dX10_drop_1 ?_
  refine j_iconst C 1 dX10_drop_2 (by decide) ?_
  refine j_bipush C 30 dX10_drop_3 (by decide) ?_
  refine j_ciZ C (jr_S C lkS_X10_41 (c_X10_in ((a1).toInt64) 1 30 hw) ⟨rfl, rfl, by decide, by decide, by decide, by decide⟩ [] (by decide) rfl (fx_ro C) rfl rfl (Nat.le_of_ble_eq_true rfl) dX10_drop_5) (fun r1 u1 hw => ?_)
  refine j_if_ne C 18 dX10_drop_8 (by decide) (fun z => ?_) (fun z => ?_)
  · replace hw := hw.2 z
    refine j_aload_n C 0 dX10_drop_18 rfl ?_
    refine j_cvT C hB 0 9 (fun u2 : (Nat → Int32) => (wM ca am m kp u2 fo ta bo so ce ik td tk bg aa vl bd)) rfl (fun _ => rfl) (jr_V C lkV_X10_141 (c_X10_thinks am m kp wa fo ta bo so ce ik td tk bg aa vl bd hw) ⟨rfl, rfl, by decide, by decide, by decide, by decide⟩ [0, 1, 2, 3, 4, 5, 6, 7, 8] (by decide) rfl (fx_rw C hB [0, 1, 2, 3, 4, 5, 6, 7, 8] rfl) 0 10 rfl rfl rfl rfl (Nat.le_of_ble_eq_true rfl) dX10_drop_19) (fun u2 hw => ?_)
    refine j_iconst C (-1) dX10_drop_22 (by decide) ?_
    refine j_istore_n C [(2, .int (-1)), (0, .ref (am 0)), (1, .int a1)] dX10_drop_23 (by decide) rfl ?_
    refine j_iconst C (-1) dX10_drop_24 (by decide) ?_
    refine j_istore_n C [(3, .int (-1)), (2, .int (-1)), (0, .ref (am 0)), (1, .int a1)] dX10_drop_25 (by decide) rfl ?_
    refine j_iconst C 0 dX10_drop_26 (by decide) ?_
    refine j_istore C [(4, .int 0), (3, .int (-1)), (2, .int (-1)), (0, .ref (am 0)), (1, .int a1)] dX10_drop_27 (by decide) rfl ?_
    refine j_lsub [3, 4, 2, 1, 0] [(0, .ref (am 0)), (1, .int a1), (2, .int (-1)), (3, .int (-1)), (4, .int 0)] rfl ?_
    obtain ⟨n9, hw⟩ := hw
    refine ml_X10_drop_29 am  kp u2 fo ta bo so ce ik td tk bg aa vl bd a1 C hR hB (fun y9_2 y9_3 y9_4 y9_m hw => ?_) n9 (-1) (-1) 0 m hw
    refine j_aload_n C 0 dX10_drop_105 rfl ?_
    refine j_iload_n C 2 dX10_drop_106 rfl ?_
    refine j_ciT C hB 0 9 (fun u10 : (Nat → Int32) => (wM ca am y9_m kp u2 u10 ta bo so ce ik td tk bg aa vl bd)) rfl (fun _ => rfl) (jr_V C lkV_X10_110 (c_X10_orNone am y9_m kp u2 fo ta bo so ce ik td tk bg aa vl bd y9_2 hw) ⟨rfl, rfl, by decide, by decide, by decide, by decide⟩ [0, 1, 2, 3, 4, 5, 6, 7, 8] (by decide) rfl (fx_rw C hB [0, 1, 2, 3, 4, 5, 6, 7, 8] rfl) 0 10 rfl rfl rfl rfl (Nat.le_of_ble_eq_true rfl) dX10_drop_107) (fun r10 u10 hw => ?_)
    exact j_iret C hB hR (y9_m, u2, u10) rfl dX10_drop_110 hw rfl
  · replace hw := hw.1 z
    refine j_aload_n C 0 dX10_drop_11 rfl ?_
    refine j_ldc C dX10_drop_12 ct_X10_35 ?_
    refine j_ciT C hB 0 9 (fun u11 : (Nat → Int32) => (wM ca am m kp wa u11 ta bo so ce ik td tk bg aa vl bd)) rfl (fun _ => rfl) (jr_V C lkV_X10_37 (c_X10_finds am m kp wa fo ta bo so ce ik td tk bg aa vl bd (-1000000001) hw) ⟨rfl, rfl, by decide, by decide, by decide, by decide⟩ [0, 1, 2, 3, 4, 5, 6, 7, 8] (by decide) rfl (fx_rw C hB [0, 1, 2, 3, 4, 5, 6, 7, 8] rfl) 0 10 rfl rfl rfl rfl (Nat.le_of_ble_eq_true rfl) dX10_drop_14) (fun r11 u11 hw => ?_)
    exact j_iret C hB hR (m, wa, u11) rfl dX10_drop_17 hw rfl
