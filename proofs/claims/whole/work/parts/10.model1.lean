theorem ct_X10_35 : Cond.constant RX10 35 (-1000000001) ∈ TB := (tb_t 794 (by decide +kernel) rfl)
theorem ct_X10_36 : Cond.constant RX10 36 (-1000000004) ∈ TB := (tb_t 906 (by decide +kernel) rfl)
theorem fl_X10_16_10 : FL RX10 16 10 2 := ⟨RX10, TX10, 15, rfl, by decide, uw_X10, (tb_t 733 (by decide +kernel) rfl)⟩
theorem fl_X10_19_10 : FL RX10 19 10 4 := ⟨RX10, TX10, 15, rfl, by decide, uw_X10, (tb_t 735 (by decide +kernel) rfl)⟩
theorem fl_X10_9_10 : FL RX10 9 10 0 := ⟨RX10, TX10, 15, rfl, by decide, uw_X10, (tb_t 731 (by decide +kernel) rfl)⟩
theorem lkS_X10_113 : LkS RX10 113 yX10_held cX10_held 3 (some .int) 3 := ⟨(tb_t 923 (by decide +kernel) rfl), (tb_t 924 (by decide +kernel) rfl), (tb_t 12 (by decide +kernel) rfl), (tb_t 925 (by decide +kernel) rfl), by decide, by decide, by decide +kernel⟩
theorem lkS_X10_137 : LkS RX10 137 yX10_copyAll cX10_copyAll 3 none 2 := ⟨(tb_t 950 (by decide +kernel) rfl), (tb_t 951 (by decide +kernel) rfl), (tb_t 12 (by decide +kernel) rfl), (tb_t 952 (by decide +kernel) rfl), by decide, by decide, by decide +kernel⟩
theorem lkS_X10_41 : LkS RX10 41 yX10_in cX10_in 4 (some .boolean) 3 := ⟨(tb_t 784 (by decide +kernel) rfl), (tb_t 785 (by decide +kernel) rfl), (tb_t 12 (by decide +kernel) rfl), (tb_t 786 (by decide +kernel) rfl), by decide, by decide, by decide +kernel⟩
theorem lkV_X10_100 : LkV RX10 100 RX10 yX10_canLeave cX10_canLeave 2 (some .boolean) 1 := ⟨(tb_t 881 (by decide +kernel) rfl), (tb_t 883 (by decide +kernel) rfl), (tb_in 18 (by decide +kernel) rfl), (tb_t 12 (by decide +kernel) rfl), (tb_t 884 (by decide +kernel) rfl), rfl, by decide, by decide, by decide +kernel⟩
theorem lkV_X10_103 : LkV RX10 103 RX10 yX10_leaves cX10_leaves 3 (some .int) 1 := ⟨(tb_t 885 (by decide +kernel) rfl), (tb_t 887 (by decide +kernel) rfl), (tb_in 19 (by decide +kernel) rfl), (tb_t 12 (by decide +kernel) rfl), (tb_t 888 (by decide +kernel) rfl), rfl, by decide, by decide, by decide +kernel⟩
theorem lkV_X10_107 : LkV RX10 107 RX10 yX10_winner cX10_winner 7 (some .int) 1 := ⟨(tb_t 898 (by decide +kernel) rfl), (tb_t 900 (by decide +kernel) rfl), (tb_in 21 (by decide +kernel) rfl), (tb_t 12 (by decide +kernel) rfl), (tb_t 901 (by decide +kernel) rfl), rfl, by decide, by decide, by decide +kernel⟩
theorem lkV_X10_117 : LkV RX10 117 RX10 yX10_worksOn cX10_worksOn 5 none 1 := ⟨(tb_t 919 (by decide +kernel) rfl), (tb_t 921 (by decide +kernel) rfl), (tb_in 25 (by decide +kernel) rfl), (tb_t 12 (by decide +kernel) rfl), (tb_t 922 (by decide +kernel) rfl), rfl, by decide, by decide, by decide +kernel⟩
theorem lkV_X10_121 : LkV RX10 121 RX10 yX10_goes cX10_goes 2 none 0 := ⟨(tb_t 915 (by decide +kernel) rfl), (tb_t 917 (by decide +kernel) rfl), (tb_in 24 (by decide +kernel) rfl), (tb_t 12 (by decide +kernel) rfl), (tb_t 918 (by decide +kernel) rfl), rfl, by decide, by decide, by decide +kernel⟩
theorem lkV_X10_124 : LkV RX10 124 RX10 yX10_doneOnes cX10_doneOnes 3 (some .int) 0 := ⟨(tb_t 926 (by decide +kernel) rfl), (tb_t 928 (by decide +kernel) rfl), (tb_in 26 (by decide +kernel) rfl), (tb_t 12 (by decide +kernel) rfl), (tb_t 929 (by decide +kernel) rfl), rfl, by decide, by decide, by decide +kernel⟩
theorem lkV_X10_141 : LkV RX10 141 RX10 yX10_thinks cX10_thinks 1 none 0 := ⟨(tb_t 946 (by decide +kernel) rfl), (tb_t 948 (by decide +kernel) rfl), (tb_in 29 (by decide +kernel) rfl), (tb_t 12 (by decide +kernel) rfl), (tb_t 949 (by decide +kernel) rfl), rfl, by decide, by decide, by decide +kernel⟩
theorem lkV_X10_144 : LkV RX10 144 RX10 yX10_putsBack cX10_putsBack 1 none 0 := ⟨(tb_t 953 (by decide +kernel) rfl), (tb_t 955 (by decide +kernel) rfl), (tb_in 30 (by decide +kernel) rfl), (tb_t 12 (by decide +kernel) rfl), (tb_t 956 (by decide +kernel) rfl), rfl, by decide, by decide, by decide +kernel⟩
theorem lkV_X10_147 : LkV RX10 147 RX10 yX10_doneIn cX10_doneIn 4 (some .int) 2 := ⟨(tb_t 965 (by decide +kernel) rfl), (tb_t 967 (by decide +kernel) rfl), (tb_in 31 (by decide +kernel) rfl), (tb_t 12 (by decide +kernel) rfl), (tb_t 968 (by decide +kernel) rfl), rfl, by decide, by decide, by decide +kernel⟩
theorem lkV_X10_37 : LkV RX10 37 RX10 yX10_finds cX10_finds 2 (some .int) 1 := ⟨(tb_t 795 (by decide +kernel) rfl), (tb_t 797 (by decide +kernel) rfl), (tb_in 5 (by decide +kernel) rfl), (tb_t 12 (by decide +kernel) rfl), (tb_t 798 (by decide +kernel) rfl), rfl, by decide, by decide, by decide +kernel⟩
theorem lkV_X10_45 : LkV RX10 45 RX10 yX10_it cX10_it 3 (some .int) 2 := ⟨(tb_t 811 (by decide +kernel) rfl), (tb_t 813 (by decide +kernel) rfl), (tb_in 8 (by decide +kernel) rfl), (tb_t 12 (by decide +kernel) rfl), (tb_t 814 (by decide +kernel) rfl), rfl, by decide, by decide, by decide +kernel⟩
theorem lkV_X10_60 : LkV RX10 60 RX10 yX10_isDone cX10_isDone 2 (some .boolean) 1 := ⟨(tb_t 819 (by decide +kernel) rfl), (tb_t 821 (by decide +kernel) rfl), (tb_in 10 (by decide +kernel) rfl), (tb_t 12 (by decide +kernel) rfl), (tb_t 822 (by decide +kernel) rfl), rfl, by decide, by decide, by decide +kernel⟩
theorem lkV_X10_63 : LkV RX10 63 RX10 yX10_his cX10_his 3 (some .int) 2 := ⟨(tb_t 803 (by decide +kernel) rfl), (tb_t 805 (by decide +kernel) rfl), (tb_in 6 (by decide +kernel) rfl), (tb_t 12 (by decide +kernel) rfl), (tb_t 806 (by decide +kernel) rfl), rfl, by decide, by decide, by decide +kernel⟩
theorem lkV_X10_69 : LkV RX10 69 RX10 yX10_openOf cX10_openOf 4 (some .int) 1 := ⟨(tb_t 815 (by decide +kernel) rfl), (tb_t 817 (by decide +kernel) rfl), (tb_in 9 (by decide +kernel) rfl), (tb_t 12 (by decide +kernel) rfl), (tb_t 818 (by decide +kernel) rfl), rfl, by decide, by decide, by decide +kernel⟩
theorem lkV_X10_72 : LkV RX10 72 RX10 yX10_put cX10_put 4 none 3 := ⟨(tb_t 832 (by decide +kernel) rfl), (tb_t 834 (by decide +kernel) rfl), (tb_in 12 (by decide +kernel) rfl), (tb_t 12 (by decide +kernel) rfl), (tb_t 835 (by decide +kernel) rfl), rfl, by decide, by decide, by decide +kernel⟩
theorem lkV_X10_84 : LkV RX10 84 RX10 yX10_tires cX10_tires 2 (some .int) 1 := ⟨(tb_t 844 (by decide +kernel) rfl), (tb_t 846 (by decide +kernel) rfl), (tb_in 14 (by decide +kernel) rfl), (tb_t 12 (by decide +kernel) rfl), (tb_t 847 (by decide +kernel) rfl), rfl, by decide, by decide, by decide +kernel⟩
theorem lkV_X10_87 : LkV RX10 87 RX10 yX10_asked cX10_asked 2 (some .int) 1 := ⟨(tb_t 848 (by decide +kernel) rfl), (tb_t 850 (by decide +kernel) rfl), (tb_in 15 (by decide +kernel) rfl), (tb_t 12 (by decide +kernel) rfl), (tb_t 851 (by decide +kernel) rfl), rfl, by decide, by decide, by decide +kernel⟩
theorem lkV_X10_90 : LkV RX10 90 RX10 yX10_goesOn cX10_goesOn 5 (some .int) 2 := ⟨(tb_t 856 (by decide +kernel) rfl), (tb_t 858 (by decide +kernel) rfl), (tb_in 16 (by decide +kernel) rfl), (tb_t 12 (by decide +kernel) rfl), (tb_t 859 (by decide +kernel) rfl), rfl, by decide, by decide, by decide +kernel⟩
theorem lkV_X10_93 : LkV RX10 93 RX10 yX10_bids cX10_bids 4 (some .int) 2 := ⟨(tb_t 860 (by decide +kernel) rfl), (tb_t 862 (by decide +kernel) rfl), (tb_in 17 (by decide +kernel) rfl), (tb_t 12 (by decide +kernel) rfl), (tb_t 863 (by decide +kernel) rfl), rfl, by decide, by decide, by decide +kernel⟩
theorem lkV_X10_97 : LkV RX10 97 RX10 yX10_gets cX10_gets 4 none 3 := ⟨(tb_t 889 (by decide +kernel) rfl), (tb_t 891 (by decide +kernel) rfl), (tb_in 20 (by decide +kernel) rfl), (tb_t 12 (by decide +kernel) rfl), (tb_t 892 (by decide +kernel) rfl), rfl, by decide, by decide, by decide +kernel⟩
def wp_X10_in   (a1 : Int64) (a2 : Int32) (a3 : Int32) (Q : (Int32) → Prop) : Prop := ((lg_cmp a1 ((a2).toInt64)) < 0 → Q 0) ∧ (¬ ((lg_cmp a1 ((a2).toInt64)) < 0) → (0 < (lg_cmp a1 ((a3).toInt64)) → Q 0) ∧ (¬ (0 < (lg_cmp a1 ((a3).toInt64))) → Q 1))
set_option maxRecDepth 100000 in
set_option maxHeartbeats 8000000 in
theorem c_X10_in {l : Launch} {D : va_G} {ca : Nat → ClassId} {sd : Nat → Nat}     (a1 : Int64) (a2 : Int32) (a3 : Int32)  {Q : (Int32) → Prop} (hw : wp_X10_in   a1 a2 a3 Q) : Cn l D ca sd yX10_in cX10_in 4 (some .boolean) { frames := 0, cells := 0, slots := 0, locals := 0 } [.long a1, .int a2, .int a3] ([] : va_W) [] 0 0 (Ri D (fun (r : Int32) (u : Unit) => Q r ) (fun _ => [])) := by
  refine cn_ofR (by decide) (Nat.le_of_ble_eq_true rfl) (fun k C hR => ?_)
  have C : Cx D ca sd cX10_in RX10 (some .boolean) { frames := 0, cells := 0, slots := 0, locals := 0 } k 4 := C
  unfold wp_X10_in at hw
  show J l D k 4 0 0 0 ([] : va_W) [(0, .long a1), (2, .int a2), (3, .int a3)] []
  refine j_lload_n C 0 dX10_in_0 rfl ?_
  refine j_iload_n C 1 dX10_in_1 rfl ?_
  refine j_i2l C dX10_in_2 ?_
  refine j_lcmp C dX10_in_3 ?_
  refine j_if_lt C 18 dX10_in_4 (by decide) (fun z => ?_) (fun z => ?_)
  · replace hw := hw.1 z
    refine j_iconst C 0 dX10_in_18 (by decide) ?_
    exact j_zretR C hR (by decide) () rfl dX10_in_19 hw
  · replace hw := hw.2 z
    refine j_lload_n C 0 dX10_in_7 rfl ?_
    refine j_iload_n C 2 dX10_in_8 rfl ?_
    refine j_i2l C dX10_in_9 ?_
    refine j_lcmp C dX10_in_10 ?_
    refine j_if_gt C 18 dX10_in_11 (by decide) (fun z => ?_) (fun z => ?_)
    · replace hw := hw.1 z
      refine j_iconst C 0 dX10_in_18 (by decide) ?_
      exact j_zretR C hR (by decide) () rfl dX10_in_19 hw
    · replace hw := hw.2 z
      refine j_iconst C 1 dX10_in_14 (by decide) ?_
      refine j_goto C 19 dX10_in_15 (by decide) ?_
      exact j_zretR C hR (by decide) () rfl dX10_in_19 hw
def wp_X10_held   (a1 : Int32) (a2 : Int32) (a3 : Int32) (Q : (Int32) → Prop) : Prop := (a2 ≤ a1 → (a1 ≤ a3 → Q a1) ∧ (¬ (a1 ≤ a3) → Q a3)) ∧ (¬ (a2 ≤ a1) → Q a2)
set_option maxRecDepth 100000 in
set_option maxHeartbeats 8000000 in
theorem c_X10_held {l : Launch} {D : va_G} {ca : Nat → ClassId} {sd : Nat → Nat}     (a1 : Int32) (a2 : Int32) (a3 : Int32)  {Q : (Int32) → Prop} (hw : wp_X10_held   a1 a2 a3 Q) : Cn l D ca sd yX10_held cX10_held 3 (some .int) { frames := 0, cells := 0, slots := 0, locals := 0 } [.int a1, .int a2, .int a3] ([] : va_W) [] 0 0 (Ri D (fun (r : Int32) (u : Unit) => Q r ) (fun _ => [])) := by
  refine cn_ofR (by decide) (Nat.le_of_ble_eq_true rfl) (fun k C hR => ?_)
  have C : Cx D ca sd cX10_held RX10 (some .int) { frames := 0, cells := 0, slots := 0, locals := 0 } k 3 := C
  unfold wp_X10_held at hw
  show J l D k 3 0 0 0 ([] : va_W) [(0, .int a1), (1, .int a2), (2, .int a3)] []
  refine j_iload_n C 0 dX10_held_0 rfl ?_
  refine j_iload_n C 1 dX10_held_1 rfl ?_
  refine j_icmp_ge C 9 dX10_held_2 (by decide) (fun z => ?_) (fun z => ?_)
  · replace hw := hw.1 z
    refine j_iload_n C 0 dX10_held_9 rfl ?_
    refine j_iload_n C 2 dX10_held_10 rfl ?_
    refine j_icmp_le C 18 dX10_held_11 (by decide) (fun z => ?_) (fun z => ?_)
    · replace hw := hw.1 z
      refine j_iload_n C 0 dX10_held_18 rfl ?_
      exact j_iretR C hR () rfl dX10_held_19 hw
    · replace hw := hw.2 z
      refine j_iload_n C 2 dX10_held_14 rfl ?_
      refine j_goto C 19 dX10_held_15 (by decide) ?_
      exact j_iretR C hR () rfl dX10_held_19 hw
  · replace hw := hw.2 z
    refine j_iload_n C 1 dX10_held_5 rfl ?_
    refine j_goto C 19 dX10_held_6 (by decide) ?_
    exact j_iretR C hR () rfl dX10_held_19 hw
def wp_X10_isPerson   (a1 : Int32) (Q : (Int32) → Prop) : Prop := wp_X10_in ((a1).toInt64) 0 5 (fun r1 => (narrow .boolean (.int r1) = .int r1) ∧ Q r1)
set_option maxRecDepth 100000 in
set_option maxHeartbeats 8000000 in
theorem c_X10_isPerson {l : Launch} {D : va_G} {ca : Nat → ClassId} {sd : Nat → Nat}     (a1 : Int32)  {Q : (Int32) → Prop} (hw : wp_X10_isPerson   a1 Q) : Cn l D ca sd yX10_isPerson cX10_isPerson 1 (some .boolean) { frames := 1, cells := 0, slots := 0, locals := 23 } [.int a1] ([] : va_W) [] 0 0 (Ri D (fun (r : Int32) (u : Unit) => Q r ) (fun _ => [])) := by
  refine cn_ofR (by decide) (Nat.le_of_ble_eq_true rfl) (fun k C hR => ?_)
  have C : Cx D ca sd cX10_isPerson RX10 (some .boolean) { frames := 1, cells := 0, slots := 0, locals := 23 } k 1 := C
  unfold wp_X10_isPerson at hw
  show J l D k 1 0 0 0 ([] : va_W) [(0, .int a1)] []
  refine j_iload_n C 0 dX10_isPerson_0 rfl ?_
  refine j_i2l C dX10_isPerson_1 ?_
  refine j_iconst C 0 dX10_isPerson_2 (by decide) ?_
  refine j_iconst C 5 dX10_isPerson_3 (by decide) ?_
  refine j_ciZ C (jr_S C lkS_X10_41 (c_X10_in ((a1).toInt64) 0 5 hw) ⟨rfl, rfl, by decide, by decide, by decide, by decide⟩ [] (by decide) rfl (fx_ro C) rfl rfl (Nat.le_of_ble_eq_true rfl) dX10_isPerson_4) (fun r1 u1 hw => ?_)
  exact j_zretR C hR hw.1 () rfl dX10_isPerson_7 hw.2
def wp_X10_mayBe   (a1 : Int32) (a2 : Int32) (Q : (Int32) → Prop) : Prop := wp_X10_in ((a1).toInt64) 0 2 (fun r1 => (r1 = 0 → Q 0) ∧ (¬ (r1 = 0) → (a1 = 0 → wp_X10_in ((a2).toInt64) 0 20 (fun r4 => (r4 = 0 → Q 0) ∧ (¬ (r4 = 0) → Q 1))) ∧ (¬ (a1 = 0) → (a1 = 1 → wp_X10_in ((a2).toInt64) 0 9 (fun r3 => (r3 = 0 → Q 0) ∧ (¬ (r3 = 0) → Q 1))) ∧ (¬ (a1 = 1) → wp_X10_in ((a2).toInt64) 0 999 (fun r2 => (r2 = 0 → Q 0) ∧ (¬ (r2 = 0) → Q 1))))))
set_option maxRecDepth 100000 in
set_option maxHeartbeats 8000000 in
theorem c_X10_mayBe {l : Launch} {D : va_G} {ca : Nat → ClassId} {sd : Nat → Nat}     (a1 : Int32) (a2 : Int32)  {Q : (Int32) → Prop} (hw : wp_X10_mayBe   a1 a2 Q) : Cn l D ca sd yX10_mayBe cX10_mayBe 2 (some .boolean) { frames := 1, cells := 0, slots := 0, locals := 23 } [.int a1, .int a2] ([] : va_W) [] 0 0 (Ri D (fun (r : Int32) (u : Unit) => Q r ) (fun _ => [])) := by
  refine cn_ofR (by decide) (Nat.le_of_ble_eq_true rfl) (fun k C hR => ?_)
  have C : Cx D ca sd cX10_mayBe RX10 (some .boolean) { frames := 1, cells := 0, slots := 0, locals := 23 } k 2 := C
  unfold wp_X10_mayBe at hw
  show J l D k 2 0 0 0 ([] : va_W) [(0, .int a1), (1, .int a2)] []
  refine j_iload_n C 0 dX10_mayBe_0 rfl ?_
  refine j_i2l C dX10_mayBe_1 ?_
  refine j_iconst C 0 dX10_mayBe_2 (by decide) ?_
  refine j_iconst C 2 dX10_mayBe_3 (by decide) ?_
  refine j_ciZ C (jr_S C lkS_X10_41 (c_X10_in ((a1).toInt64) 0 2 hw) ⟨rfl, rfl, by decide, by decide, by decide, by decide⟩ [] (by decide) rfl (fx_ro C) rfl rfl (Nat.le_of_ble_eq_true rfl) dX10_mayBe_4) (fun r1 u1 hw => ?_)
  refine j_if_eq C 45 dX10_mayBe_7 (by decide) (fun z => ?_) (fun z => ?_)
  · replace hw := hw.1 z
    refine j_iconst C 0 dX10_mayBe_45 (by decide) ?_
    exact j_zretR C hR (by decide) () rfl dX10_mayBe_46 hw
  · replace hw := hw.2 z
    refine j_iload_n C 1 dX10_mayBe_10 rfl ?_
    refine j_i2l C dX10_mayBe_11 ?_
    refine j_iconst C 0 dX10_mayBe_12 (by decide) ?_
    refine j_iload_n C 0 dX10_mayBe_13 rfl ?_
    refine j_if_ne C 22 dX10_mayBe_14 (by decide) (fun z => ?_) (fun z => ?_)
    · replace hw := hw.2 z
      refine j_iload_n C 0 dX10_mayBe_22 rfl ?_
      refine j_iconst C 1 dX10_mayBe_23 (by decide) ?_
      refine j_icmp_ne C 32 dX10_mayBe_24 (by decide) (fun z => ?_) (fun z => ?_)
      · replace hw := hw.2 z
        refine j_sipush C 999 dX10_mayBe_32 (by decide) ?_
        refine j_ciZ C (jr_S C lkS_X10_41 (c_X10_in ((a2).toInt64) 0 999 hw) ⟨rfl, rfl, by decide, by decide, by decide, by decide⟩ [] (by decide) rfl (fx_ro C) rfl rfl (Nat.le_of_ble_eq_true rfl) dX10_mayBe_35) (fun r2 u2 hw => ?_)
        refine j_if_eq C 45 dX10_mayBe_38 (by decide) (fun z => ?_) (fun z => ?_)
        · replace hw := hw.1 z
          refine j_iconst C 0 dX10_mayBe_45 (by decide) ?_
          exact j_zretR C hR (by decide) () rfl dX10_mayBe_46 hw
        · replace hw := hw.2 z
          refine j_iconst C 1 dX10_mayBe_41 (by decide) ?_
          refine j_goto C 46 dX10_mayBe_42 (by decide) ?_
          exact j_zretR C hR (by decide) () rfl dX10_mayBe_46 hw
      · replace hw := hw.1 z
        refine j_bipush C 9 dX10_mayBe_27 (by decide) ?_
        refine j_goto C 35 dX10_mayBe_29 (by decide) ?_
        refine j_ciZ C (jr_S C lkS_X10_41 (c_X10_in ((a2).toInt64) 0 9 hw) ⟨rfl, rfl, by decide, by decide, by decide, by decide⟩ [] (by decide) rfl (fx_ro C) rfl rfl (Nat.le_of_ble_eq_true rfl) dX10_mayBe_35) (fun r3 u3 hw => ?_)
        refine j_if_eq C 45 dX10_mayBe_38 (by decide) (fun z => ?_) (fun z => ?_)
        · replace hw := hw.1 z
          refine j_iconst C 0 dX10_mayBe_45 (by decide) ?_
          exact j_zretR C hR (by decide) () rfl dX10_mayBe_46 hw
        · replace hw := hw.2 z
          refine j_iconst C 1 dX10_mayBe_41 (by decide) ?_
          refine j_goto C 46 dX10_mayBe_42 (by decide) ?_
          exact j_zretR C hR (by decide) () rfl dX10_mayBe_46 hw
    · replace hw := hw.1 z
      refine j_bipush C 20 dX10_mayBe_17 (by decide) ?_
      refine j_goto C 35 dX10_mayBe_19 (by decide) ?_
      refine j_ciZ C (jr_S C lkS_X10_41 (c_X10_in ((a2).toInt64) 0 20 hw) ⟨rfl, rfl, by decide, by decide, by decide, by decide⟩ [] (by decide) rfl (fx_ro C) rfl rfl (Nat.le_of_ble_eq_true rfl) dX10_mayBe_35) (fun r4 u4 hw => ?_)
      refine j_if_eq C 45 dX10_mayBe_38 (by decide) (fun z => ?_) (fun z => ?_)
      · replace hw := hw.1 z
        refine j_iconst C 0 dX10_mayBe_45 (by decide) ?_
        exact j_zretR C hR (by decide) () rfl dX10_mayBe_46 hw
      · replace hw := hw.2 z
        refine j_iconst C 1 dX10_mayBe_41 (by decide) ?_
        refine j_goto C 46 dX10_mayBe_42 (by decide) ?_
        exact j_zretR C hR (by decide) () rfl dX10_mayBe_46 hw
def wp_X10_isSheet   (a1 : Int32) (Q : (Int32) → Prop) : Prop := wp_X10_in ((a1).toInt64) 0 3 (fun r1 => (narrow .boolean (.int r1) = .int r1) ∧ Q r1)
set_option maxRecDepth 100000 in
set_option maxHeartbeats 8000000 in
theorem c_X10_isSheet {l : Launch} {D : va_G} {ca : Nat → ClassId} {sd : Nat → Nat}     (a1 : Int32)  {Q : (Int32) → Prop} (hw : wp_X10_isSheet   a1 Q) : Cn l D ca sd yX10_isSheet cX10_isSheet 1 (some .boolean) { frames := 1, cells := 0, slots := 0, locals := 23 } [.int a1] ([] : va_W) [] 0 0 (Ri D (fun (r : Int32) (u : Unit) => Q r ) (fun _ => [])) := by
  refine cn_ofR (by decide) (Nat.le_of_ble_eq_true rfl) (fun k C hR => ?_)
  have C : Cx D ca sd cX10_isSheet RX10 (some .boolean) { frames := 1, cells := 0, slots := 0, locals := 23 } k 1 := C
  unfold wp_X10_isSheet at hw
  show J l D k 1 0 0 0 ([] : va_W) [(0, .int a1)] []
  refine j_iload_n C 0 dX10_isSheet_0 rfl ?_
  refine j_i2l C dX10_isSheet_1 ?_
  refine j_iconst C 0 dX10_isSheet_2 (by decide) ?_
  refine j_iconst C 3 dX10_isSheet_3 (by decide) ?_
  refine j_ciZ C (jr_S C lkS_X10_41 (c_X10_in ((a1).toInt64) 0 3 hw) ⟨rfl, rfl, by decide, by decide, by decide, by decide⟩ [] (by decide) rfl (fx_ro C) rfl rfl (Nat.le_of_ble_eq_true rfl) dX10_isSheet_4) (fun r1 u1 hw => ?_)
  exact j_zretR C hR hw.1 () rfl dX10_isSheet_7 hw.2
def wp_X10_cutTo   (a1 : Int32) (a2 : Int64) (Q : (Int64) → Prop) : Prop := (a1 = 8 → Q ((((a2).toInt32).toInt8.toInt32).toInt64)) ∧ (¬ (a1 = 8) → (a1 = 16 → Q ((((a2).toInt32).toInt16.toInt32).toInt64)) ∧ (¬ (a1 = 16) → Q a2))
set_option maxRecDepth 100000 in
set_option maxHeartbeats 8000000 in
theorem c_X10_cutTo {l : Launch} {D : va_G} {ca : Nat → ClassId} {sd : Nat → Nat}     (a1 : Int32) (a2 : Int64)  {Q : (Int64) → Prop} (hw : wp_X10_cutTo   a1 a2 Q) : Cn l D ca sd yX10_cutTo cX10_cutTo 3 (some .long) { frames := 0, cells := 0, slots := 0, locals := 0 } [.int a1, .long a2] ([] : va_W) [] 0 0 (Rl D (fun (r : Int64) (u : Unit) => Q r ) (fun _ => [])) := by
  refine cn_ofR (by decide) (Nat.le_of_ble_eq_true rfl) (fun k C hR => ?_)
  have C : Cx D ca sd cX10_cutTo RX10 (some .long) { frames := 0, cells := 0, slots := 0, locals := 0 } k 3 := C
  unfold wp_X10_cutTo at hw
  show J l D k 3 0 0 0 ([] : va_W) [(0, .int a1), (1, .long a2)] []
  refine j_iload_n C 0 dX10_cutTo_0 rfl ?_
  refine j_bipush C 8 dX10_cutTo_1 (by decide) ?_
  refine j_icmp_ne C 13 dX10_cutTo_3 (by decide) (fun z => ?_) (fun z => ?_)
  · replace hw := hw.2 z
    refine j_iload_n C 0 dX10_cutTo_13 rfl ?_
    refine j_bipush C 16 dX10_cutTo_14 (by decide) ?_
    refine j_icmp_ne C 26 dX10_cutTo_16 (by decide) (fun z => ?_) (fun z => ?_)
    · replace hw := hw.2 z
      refine j_lload_n C 1 dX10_cutTo_26 rfl ?_
      exact j_lretR C hR () rfl dX10_cutTo_27 hw
    · replace hw := hw.1 z
      refine j_lload_n C 1 dX10_cutTo_19 rfl ?_
      refine j_l2i C dX10_cutTo_20 ?_
      refine j_i2s C dX10_cutTo_21 ?_
      refine j_i2l C dX10_cutTo_22 ?_
      refine j_goto C 27 dX10_cutTo_23 (by decide) ?_
      exact j_lretR C hR () rfl dX10_cutTo_27 hw
  · replace hw := hw.1 z
    refine j_lload_n C 1 dX10_cutTo_6 rfl ?_
    refine j_l2i C dX10_cutTo_7 ?_
    refine j_i2b C dX10_cutTo_8 ?_
    refine j_i2l C dX10_cutTo_9 ?_
    refine j_goto C 27 dX10_cutTo_10 (by decide) ?_
    exact j_lretR C hR () rfl dX10_cutTo_27 hw
def wpl_X10_copyAll_2 (f : Nat → Int32) (K : (Int32) → (Nat → Int32) → Prop) : Nat → (Int32) → (Nat → Int32) → Prop
  | 0, _, _ => False
  | n + 1, x2, gf => (52 ≤ x2 → K x2 gf) ∧ (¬ (52 ≤ x2) → vp_in x2 52 ∧ (vp_in x2 52 ∧ (wpl_X10_copyAll_2 f  K n (x2 + 1) (upd gf (x2.toNatClampNeg) (f (x2.toNatClampNeg))))))
def wp_X10_copyAll (f : Nat → Int32) (gf : Nat → Int32)   (Q : (Nat → Int32) → Prop) : Prop := ∃ n3 : Nat, wpl_X10_copyAll_2 f  (fun y3_2 y3_gf => Q y3_gf) n3 0 gf
set_option maxRecDepth 100000 in
set_option maxHeartbeats 8000000 in
theorem ml_X10_copyAll_2 {l : Launch} {D : va_G} {ca : Nat → ClassId} {sd : Nat → Nat}  {k : Kx} (ra : Nat) (rb : Nat)  (f : Nat → Int32) (C : Cx D ca sd cX10_copyAll RX10 none { frames := 0, cells := 0, slots := 0, locals := 0 } k 3) {Q : (Nat → Int32) → Prop} (hR : Rx (Rv D (fun u : (Nat → Int32) => Q u) (fun u => ((wR ca ra 52 f) ++ (wR ca rb 52 u)))) 0 0 k) (hB : Wx k) {K : (Int32) → (Nat → Int32) → Prop} (hK : ∀ (x2' : Int32) (gf' : Nat → Int32), K x2' gf' → J l D k 3 0 0 20 ((wR ca ra 52 f) ++ (wR ca rb 52 gf')) [(0, .ref ra), (1, .ref rb), (2, .int x2')] []) : ∀ (n : Nat) (x2 : Int32) (gf : Nat → Int32), wpl_X10_copyAll_2 f  K n x2 gf → J l D k 3 0 0 2 ((wR ca ra 52 f) ++ (wR ca rb 52 gf)) [(0, .ref ra), (1, .ref rb), (2, .int x2)] [] := by
  intro n
  induction n with
  | zero =>
    intro x2 gf hw
    rw [wpl_X10_copyAll_2] at hw
    exact hw.elim
  | succ n ih =>
    intro x2 gf hw
    rw [wpl_X10_copyAll_2] at hw
    refine j_iload_n C 2 dX10_copyAll_2 rfl ?_
    refine j_bipush C 52 dX10_copyAll_3 (by decide) ?_
    refine j_icmp_ge C 20 dX10_copyAll_5 (by decide) (fun z => ?_) (fun z => ?_)
    · replace hw := hw.1 z
      exact hK x2 gf hw
    · replace hw := hw.2 z
      refine j_aload_n C 1 dX10_copyAll_8 rfl ?_
      refine j_iload_n C 2 dX10_copyAll_9 rfl ?_
      refine j_aload_n C 0 dX10_copyAll_10 rfl ?_
      refine j_iload_n C 2 dX10_copyAll_11 rfl ?_
      have hi1 := hw.1
      replace hw := hw.2
      refine j_iald C 0 dX10_copyAll_12 rfl hi1 ?_
      have hi2 := hw.1
      replace hw := hw.2
      refine j_iast C hB 1 ((wR ca ra 52 f) ++ (wR ca rb 52 (upd gf (x2.toNatClampNeg) (f (x2.toNatClampNeg))))) dX10_copyAll_13 rfl hi2 rfl ?_
      refine j_iinc C 2 (x2 + 1) [(2, .int (x2 + 1)), (0, .ref ra), (1, .ref rb)] dX10_copyAll_14 rfl rfl (by decide) rfl ?_
      refine j_goto C 2 dX10_copyAll_17 (by decide) ?_
      refine j_lsub [1, 2, 0] [(0, .ref ra), (1, .ref rb), (2, .int (x2 + 1))] rfl ?_
      exact ih (x2 + 1) (upd gf (x2.toNatClampNeg) (f (x2.toNatClampNeg))) hw
set_option maxRecDepth 100000 in
set_option maxHeartbeats 8000000 in
theorem c_X10_copyAll {l : Launch} {D : va_G} {ca : Nat → ClassId} {sd : Nat → Nat}  (ra : Nat) (rb : Nat) (f : Nat → Int32) (gf : Nat → Int32)    {Q : (Nat → Int32) → Prop} (hw : wp_X10_copyAll f gf   Q) : Cn l D ca sd yX10_copyAll cX10_copyAll 3 none { frames := 0, cells := 0, slots := 0, locals := 0 } [.ref ra, .ref rb] ((wR ca ra 52 f) ++ (wR ca rb 52 gf)) ((wR ca ra 52 f) ++ (wR ca rb 52 gf)) 0 0 (Rv D (fun u : (Nat → Int32) => Q u) (fun u => ((wR ca ra 52 f) ++ (wR ca rb 52 u)))) := by
  refine cn_of (by decide) (Nat.le_of_ble_eq_true rfl) (fun k C hR hB _ => ?_)
  have C : Cx D ca sd cX10_copyAll RX10 none { frames := 0, cells := 0, slots := 0, locals := 0 } k 3 := C
  unfold wp_X10_copyAll at hw
  show J l D k 3 0 0 0 ((wR ca ra 52 f) ++ (wR ca rb 52 gf)) [(0, .ref ra), (1, .ref rb)] []
  refine j_iconst C 0 dX10_copyAll_0 (by decide) ?_
  refine j_istore_n C [(2, .int 0), (0, .ref ra), (1, .ref rb)] dX10_copyAll_1 (by decide) rfl ?_
  refine j_lsub [1, 2, 0] [(0, .ref ra), (1, .ref rb), (2, .int 0)] rfl ?_
  obtain ⟨n3, hw⟩ := hw
  refine ml_X10_copyAll_2 ra rb  f C hR hB (fun y3_2 y3_gf hw => ?_) n3 0 gf hw
  exact j_vret C hB hR y3_gf rfl dX10_copyAll_20 hw rfl
def wp_X10_finds (fo : Nat → Int32)  (a1 : Int32) (Q : (Int32) → (Nat → Int32) → Prop) : Prop := vp_in ((-1000000001) - a1) 7 ∧ (vp_in ((-1000000001) - a1) 7 ∧ (Q a1 (upd fo (((-1000000001) - a1).toNatClampNeg) ((fo (((-1000000001) - a1).toNatClampNeg)) + 1))))
set_option maxRecDepth 100000 in
set_option maxHeartbeats 8000000 in
theorem c_X10_finds {l : Launch} {D : va_G} {ca : Nat → ClassId} {sd : Nat → Nat}  (am : Nat → Nat) (m : Nat → Int32) (kp : Nat → Int32) (wa : Nat → Int32) (fo : Nat → Int32) (ta : Nat → Int32) (bo : Nat → Int32) (so : Nat → Int32) (ce : Nat → Int64) (ik : Int32) (td : Int32) (tk : Int32) (bg : Int32) (aa : Int32) (vl : Int32) (bd : Int32)  (a1 : Int32)  {Q : (Int32) → (Nat → Int32) → Prop} (hw : wp_X10_finds fo  a1 Q) : Cn l D ca sd yX10_finds cX10_finds 2 (some .int) { frames := 0, cells := 0, slots := 0, locals := 0 } [.ref (am 0), .int a1] (wM ca am m kp wa fo ta bo so ce ik td tk bg aa vl bd) (wM ca am m kp wa fo ta bo so ce ik td tk bg aa vl bd) 0 0 (Ri D (fun (r : Int32) (u : (Nat → Int32)) => Q r u) (fun u => (wM ca am m kp wa u ta bo so ce ik td tk bg aa vl bd))) := by
  refine cn_of (by decide) (Nat.le_of_ble_eq_true rfl) (fun k C hR hB _ => ?_)
  have C : Cx D ca sd cX10_finds RX10 (some .int) { frames := 0, cells := 0, slots := 0, locals := 0 } k 2 := C
  unfold wp_X10_finds at hw
  show J l D k 2 0 0 0 (wM ca am m kp wa fo ta bo so ce ik td tk bg aa vl bd) [(0, .ref (am 0)), (1, .int a1)] []
  refine j_aload_n C 0 dX10_finds_0 rfl ?_
  refine j_get C fl_X10_19_10 0 dX10_finds_1 rfl rfl ?_
  refine j_ldc C dX10_finds_4 ct_X10_35 ?_
  refine j_iload_n C 1 dX10_finds_6 rfl ?_
  refine j_isub C dX10_finds_7 ?_
  refine j_dup2 C dX10_finds_8 rfl rfl ?_
  have hi1 := hw.1
  replace hw := hw.2
  refine j_iald C 4 dX10_finds_9 rfl hi1 ?_
  refine j_iconst C 1 dX10_finds_10 (by decide) ?_
  refine j_iadd C dX10_finds_11 ?_
  have hi2 := hw.1
  replace hw := hw.2
  refine j_iast C hB 4 (wM ca am m kp wa (upd fo (((-1000000001) - a1).toNatClampNeg) ((fo (((-1000000001) - a1).toNatClampNeg)) + 1)) ta bo so ce ik td tk bg aa vl bd) dX10_finds_12 rfl hi2 rfl ?_
  refine j_iload_n C 1 dX10_finds_13 rfl ?_
  exact j_iret C hB hR (upd fo (((-1000000001) - a1).toNatClampNeg) ((fo (((-1000000001) - a1).toNatClampNeg)) + 1)) rfl dX10_finds_14 hw rfl
def wp_X10_orNone (fo : Nat → Int32)  (a1 : Int32) (Q : (Int32) → (Nat → Int32) → Prop) : Prop := (0 ≤ a1 → Q a1 fo) ∧ (¬ (0 ≤ a1) → wp_X10_finds fo (-1000000004) (fun r1 c1_0 => Q r1 c1_0))
set_option maxRecDepth 100000 in
set_option maxHeartbeats 8000000 in
theorem c_X10_orNone {l : Launch} {D : va_G} {ca : Nat → ClassId} {sd : Nat → Nat}  (am : Nat → Nat) (m : Nat → Int32) (kp : Nat → Int32) (wa : Nat → Int32) (fo : Nat → Int32) (ta : Nat → Int32) (bo : Nat → Int32) (so : Nat → Int32) (ce : Nat → Int64) (ik : Int32) (td : Int32) (tk : Int32) (bg : Int32) (aa : Int32) (vl : Int32) (bd : Int32)  (a1 : Int32)  {Q : (Int32) → (Nat → Int32) → Prop} (hw : wp_X10_orNone fo  a1 Q) : Cn l D ca sd yX10_orNone cX10_orNone 2 (some .int) { frames := 1, cells := 0, slots := 0, locals := 21 } [.ref (am 0), .int a1] (wM ca am m kp wa fo ta bo so ce ik td tk bg aa vl bd) (wM ca am m kp wa fo ta bo so ce ik td tk bg aa vl bd) 0 0 (Ri D (fun (r : Int32) (u : (Nat → Int32)) => Q r u) (fun u => (wM ca am m kp wa u ta bo so ce ik td tk bg aa vl bd))) := by
  refine cn_of (by decide) (Nat.le_of_ble_eq_true rfl) (fun k C hR hB _ => ?_)
  have C : Cx D ca sd cX10_orNone RX10 (some .int) { frames := 1, cells := 0, slots := 0, locals := 21 } k 2 := C
  unfold wp_X10_orNone at hw
  show J l D k 2 0 0 0 (wM ca am m kp wa fo ta bo so ce ik td tk bg aa vl bd) [(0, .ref (am 0)), (1, .int a1)] []
  refine j_iload_n C 1 dX10_orNone_0 rfl ?_
  refine j_if_ge C 13 dX10_orNone_1 (by decide) (fun z => ?_) (fun z => ?_)
  · replace hw := hw.1 z
    refine j_iload_n C 1 dX10_orNone_13 rfl ?_
    exact j_iret C hB hR fo rfl dX10_orNone_14 hw rfl
  · replace hw := hw.2 z
    refine j_aload_n C 0 dX10_orNone_4 rfl ?_
    refine j_ldc C dX10_orNone_5 ct_X10_36 ?_
    refine j_ciT C hB 0 9 (fun u1 : (Nat → Int32) => (wM ca am m kp wa u1 ta bo so ce ik td tk bg aa vl bd)) rfl (fun _ => rfl) (jr_V C lkV_X10_37 (c_X10_finds am m kp wa fo ta bo so ce ik td tk bg aa vl bd (-1000000004) hw) ⟨rfl, rfl, by decide, by decide, by decide, by decide⟩ [0, 1, 2, 3, 4, 5, 6, 7, 8] (by decide) rfl (fx_rw C hB [0, 1, 2, 3, 4, 5, 6, 7, 8] rfl) 0 10 rfl rfl rfl rfl (Nat.le_of_ble_eq_true rfl) dX10_orNone_7) (fun r1 u1 hw => ?_)
    refine j_goto C 14 dX10_orNone_10 (by decide) ?_
    exact j_iret C hB hR u1 rfl dX10_orNone_14 hw rfl
def wp_X10_becomes (m : Nat → Int32)  (a1 : Int32) (a2 : Int32) (Q : (Int32) → (Nat → Int32) → Prop) : Prop := vp_in a1 52 ∧ (vp_in a1 52 ∧ (Q (m (a1.toNatClampNeg)) (upd m (a1.toNatClampNeg) a2)))
set_option maxRecDepth 100000 in
set_option maxHeartbeats 8000000 in
theorem c_X10_becomes {l : Launch} {D : va_G} {ca : Nat → ClassId} {sd : Nat → Nat}  (am : Nat → Nat) (m : Nat → Int32) (kp : Nat → Int32) (wa : Nat → Int32) (fo : Nat → Int32) (ta : Nat → Int32) (bo : Nat → Int32) (so : Nat → Int32) (ce : Nat → Int64) (ik : Int32) (td : Int32) (tk : Int32) (bg : Int32) (aa : Int32) (vl : Int32) (bd : Int32)  (a1 : Int32) (a2 : Int32)  {Q : (Int32) → (Nat → Int32) → Prop} (hw : wp_X10_becomes m  a1 a2 Q) : Cn l D ca sd yX10_becomes cX10_becomes 4 (some .int) { frames := 0, cells := 0, slots := 0, locals := 0 } [.ref (am 0), .int a1, .int a2] (wM ca am m kp wa fo ta bo so ce ik td tk bg aa vl bd) (wM ca am m kp wa fo ta bo so ce ik td tk bg aa vl bd) 0 0 (Ri D (fun (r : Int32) (u : (Nat → Int32)) => Q r u) (fun u => (wM ca am u kp wa fo ta bo so ce ik td tk bg aa vl bd))) := by
  refine cn_of (by decide) (Nat.le_of_ble_eq_true rfl) (fun k C hR hB _ => ?_)
  have C : Cx D ca sd cX10_becomes RX10 (some .int) { frames := 0, cells := 0, slots := 0, locals := 0 } k 4 := C
  unfold wp_X10_becomes at hw
  show J l D k 4 0 0 0 (wM ca am m kp wa fo ta bo so ce ik td tk bg aa vl bd) [(0, .ref (am 0)), (1, .int a1), (2, .int a2)] []
  refine j_aload_n C 0 dX10_becomes_0 rfl ?_
  refine j_get C fl_X10_9_10 0 dX10_becomes_1 rfl rfl ?_
  refine j_iload_n C 1 dX10_becomes_4 rfl ?_
  have hi1 := hw.1
  replace hw := hw.2
  refine j_iald C 1 dX10_becomes_5 rfl hi1 ?_
  refine j_istore_n C [(3, .int (m (a1.toNatClampNeg))), (0, .ref (am 0)), (1, .int a1), (2, .int a2)] dX10_becomes_6 (by decide) rfl ?_
  refine j_aload_n C 1 dX10_becomes_7 rfl ?_
  refine j_get C fl_X10_9_10 0 dX10_becomes_8 rfl rfl ?_
  refine j_iload_n C 2 dX10_becomes_11 rfl ?_
  refine j_iload_n C 3 dX10_becomes_12 rfl ?_
  have hi2 := hw.1
  replace hw := hw.2
  refine j_iast C hB 1 (wM ca am (upd m (a1.toNatClampNeg) a2) kp wa fo ta bo so ce ik td tk bg aa vl bd) dX10_becomes_13 rfl hi2 rfl ?_
  refine j_iload_n C 0 dX10_becomes_14 rfl ?_
  exact j_iret C hB hR (upd m (a1.toNatClampNeg) a2) rfl dX10_becomes_15 hw rfl
def wp_X10_isThing (m : Nat → Int32)  (a1 : Int32) (Q : (Int32) → Prop) : Prop := vp_in 1 52 ∧ (wp_X10_in ((a1).toInt64) 0 ((m ((1 : Int32).toNatClampNeg)) - 1) (fun r2 => (narrow .boolean (.int r2) = .int r2) ∧ Q r2))
set_option maxRecDepth 100000 in
set_option maxHeartbeats 8000000 in
theorem c_X10_isThing {l : Launch} {D : va_G} {ca : Nat → ClassId} {sd : Nat → Nat}  (am : Nat → Nat) (m : Nat → Int32) (kp : Nat → Int32) (wa : Nat → Int32) (fo : Nat → Int32) (ta : Nat → Int32) (bo : Nat → Int32) (so : Nat → Int32) (ce : Nat → Int64) (ik : Int32) (td : Int32) (tk : Int32) (bg : Int32) (aa : Int32) (vl : Int32) (bd : Int32)  (a1 : Int32)  {Q : (Int32) → Prop} (hw : wp_X10_isThing m  a1 Q) : Cn l D ca sd yX10_isThing cX10_isThing 2 (some .boolean) { frames := 1, cells := 0, slots := 0, locals := 23 } [.ref (am 0), .int a1] (wM ca am m kp wa fo ta bo so ce ik td tk bg aa vl bd) [] 0 0 (Ri D (fun (r : Int32) (u : Unit) => Q r ) (fun _ => [])) := by
  refine cn_ofR (by decide) (Nat.le_of_ble_eq_true rfl) (fun k C hR => ?_)
  have C : Cx D ca sd cX10_isThing RX10 (some .boolean) { frames := 1, cells := 0, slots := 0, locals := 23 } k 2 := C
  unfold wp_X10_isThing at hw
  show J l D k 2 0 0 0 (wM ca am m kp wa fo ta bo so ce ik td tk bg aa vl bd) [(0, .ref (am 0)), (1, .int a1)] []
  refine j_iload_n C 1 dX10_isThing_0 rfl ?_
  refine j_i2l C dX10_isThing_1 ?_
  refine j_iconst C 0 dX10_isThing_2 (by decide) ?_
  refine j_aload_n C 0 dX10_isThing_3 rfl ?_
  refine j_get C fl_X10_9_10 0 dX10_isThing_4 rfl rfl ?_
  refine j_iconst C 1 dX10_isThing_7 (by decide) ?_
  have hi1 := hw.1
  replace hw := hw.2
  refine j_iald C 1 dX10_isThing_8 rfl hi1 ?_
  refine j_iconst C 1 dX10_isThing_9 (by decide) ?_
  refine j_isub C dX10_isThing_10 ?_
  refine j_ciZ C (jr_S C lkS_X10_41 (c_X10_in ((a1).toInt64) 0 ((m ((1 : Int32).toNatClampNeg)) - 1) hw) ⟨rfl, rfl, by decide, by decide, by decide, by decide⟩ [] (by decide) rfl (fx_ro C) rfl rfl (Nat.le_of_ble_eq_true rfl) dX10_isThing_11) (fun r2 u2 hw => ?_)
  exact j_zretR C hR hw.1 () rfl dX10_isThing_14 hw.2
def wp_X10_it (m : Nat → Int32)  (a1 : Int32) (a2 : Int32) (Q : (Int32) → Prop) : Prop := vp_in ((20 + (4 * a1)) + a2) 52 ∧ (Q (m (((20 + (4 * a1)) + a2).toNatClampNeg)))
set_option maxRecDepth 100000 in
set_option maxHeartbeats 8000000 in
theorem c_X10_it {l : Launch} {D : va_G} {ca : Nat → ClassId} {sd : Nat → Nat}  (am : Nat → Nat) (m : Nat → Int32) (kp : Nat → Int32) (wa : Nat → Int32) (fo : Nat → Int32) (ta : Nat → Int32) (bo : Nat → Int32) (so : Nat → Int32) (ce : Nat → Int64) (ik : Int32) (td : Int32) (tk : Int32) (bg : Int32) (aa : Int32) (vl : Int32) (bd : Int32)  (a1 : Int32) (a2 : Int32)  {Q : (Int32) → Prop} (hw : wp_X10_it m  a1 a2 Q) : Cn l D ca sd yX10_it cX10_it 3 (some .int) { frames := 0, cells := 0, slots := 0, locals := 0 } [.ref (am 0), .int a1, .int a2] (wM ca am m kp wa fo ta bo so ce ik td tk bg aa vl bd) [] 0 0 (Ri D (fun (r : Int32) (u : Unit) => Q r ) (fun _ => [])) := by
  refine cn_ofR (by decide) (Nat.le_of_ble_eq_true rfl) (fun k C hR => ?_)
  have C : Cx D ca sd cX10_it RX10 (some .int) { frames := 0, cells := 0, slots := 0, locals := 0 } k 3 := C
  unfold wp_X10_it at hw
  show J l D k 3 0 0 0 (wM ca am m kp wa fo ta bo so ce ik td tk bg aa vl bd) [(0, .ref (am 0)), (1, .int a1), (2, .int a2)] []
  refine j_aload_n C 0 dX10_it_0 rfl ?_
  refine j_get C fl_X10_9_10 0 dX10_it_1 rfl rfl ?_
  refine j_bipush C 20 dX10_it_4 (by decide) ?_
  refine j_iconst C 4 dX10_it_6 (by decide) ?_
  refine j_iload_n C 1 dX10_it_7 rfl ?_
  refine j_imul C dX10_it_8 ?_
  refine j_iadd C dX10_it_9 ?_
  refine j_iload_n C 2 dX10_it_10 rfl ?_
  refine j_iadd C dX10_it_11 ?_
  have hi1 := hw.1
  replace hw := hw.2
  refine j_iald C 1 dX10_it_12 rfl hi1 ?_
  exact j_iretR C hR () rfl dX10_it_13 hw
def wp_X10_put (m : Nat → Int32)  (a1 : Int32) (a2 : Int32) (a3 : Int32) (Q : (Nat → Int32) → Prop) : Prop := vp_in ((20 + (4 * a1)) + a2) 52 ∧ (Q (upd m (((20 + (4 * a1)) + a2).toNatClampNeg) a3))
set_option maxRecDepth 100000 in
set_option maxHeartbeats 8000000 in
theorem c_X10_put {l : Launch} {D : va_G} {ca : Nat → ClassId} {sd : Nat → Nat}  (am : Nat → Nat) (m : Nat → Int32) (kp : Nat → Int32) (wa : Nat → Int32) (fo : Nat → Int32) (ta : Nat → Int32) (bo : Nat → Int32) (so : Nat → Int32) (ce : Nat → Int64) (ik : Int32) (td : Int32) (tk : Int32) (bg : Int32) (aa : Int32) (vl : Int32) (bd : Int32)  (a1 : Int32) (a2 : Int32) (a3 : Int32)  {Q : (Nat → Int32) → Prop} (hw : wp_X10_put m  a1 a2 a3 Q) : Cn l D ca sd yX10_put cX10_put 4 none { frames := 0, cells := 0, slots := 0, locals := 0 } [.ref (am 0), .int a1, .int a2, .int a3] (wM ca am m kp wa fo ta bo so ce ik td tk bg aa vl bd) (wM ca am m kp wa fo ta bo so ce ik td tk bg aa vl bd) 0 0 (Rv D (fun u : (Nat → Int32) => Q u) (fun u => (wM ca am u kp wa fo ta bo so ce ik td tk bg aa vl bd))) := by
  refine cn_of (by decide) (Nat.le_of_ble_eq_true rfl) (fun k C hR hB _ => ?_)
  have C : Cx D ca sd cX10_put RX10 none { frames := 0, cells := 0, slots := 0, locals := 0 } k 4 := C
  unfold wp_X10_put at hw
  show J l D k 4 0 0 0 (wM ca am m kp wa fo ta bo so ce ik td tk bg aa vl bd) [(0, .ref (am 0)), (1, .int a1), (2, .int a2), (3, .int a3)] []
  refine j_aload_n C 0 dX10_put_0 rfl ?_
  refine j_get C fl_X10_9_10 0 dX10_put_1 rfl rfl ?_
  refine j_bipush C 20 dX10_put_4 (by decide) ?_
  refine j_iconst C 4 dX10_put_6 (by decide) ?_
  refine j_iload_n C 1 dX10_put_7 rfl ?_
  refine j_imul C dX10_put_8 ?_
  refine j_iadd C dX10_put_9 ?_
  refine j_iload_n C 2 dX10_put_10 rfl ?_
  refine j_iadd C dX10_put_11 ?_
  refine j_iload_n C 3 dX10_put_12 rfl ?_
  have hi1 := hw.1
  replace hw := hw.2
  refine j_iast C hB 1 (wM ca am (upd m (((20 + (4 * a1)) + a2).toNatClampNeg) a3) kp wa fo ta bo so ce ik td tk bg aa vl bd) dX10_put_13 rfl hi1 rfl ?_
  exact j_vret C hB hR (upd m (((20 + (4 * a1)) + a2).toNatClampNeg) a3) rfl dX10_put_14 hw rfl
def wp_X10_his (m : Nat → Int32)  (a1 : Int32) (a2 : Int32) (Q : (Int32) → Prop) : Prop := vp_in ((2 + (3 * a1)) + a2) 52 ∧ (Q (m (((2 + (3 * a1)) + a2).toNatClampNeg)))
set_option maxRecDepth 100000 in
set_option maxHeartbeats 8000000 in
theorem c_X10_his {l : Launch} {D : va_G} {ca : Nat → ClassId} {sd : Nat → Nat}  (am : Nat → Nat) (m : Nat → Int32) (kp : Nat → Int32) (wa : Nat → Int32) (fo : Nat → Int32) (ta : Nat → Int32) (bo : Nat → Int32) (so : Nat → Int32) (ce : Nat → Int64) (ik : Int32) (td : Int32) (tk : Int32) (bg : Int32) (aa : Int32) (vl : Int32) (bd : Int32)  (a1 : Int32) (a2 : Int32)  {Q : (Int32) → Prop} (hw : wp_X10_his m  a1 a2 Q) : Cn l D ca sd yX10_his cX10_his 3 (some .int) { frames := 0, cells := 0, slots := 0, locals := 0 } [.ref (am 0), .int a1, .int a2] (wM ca am m kp wa fo ta bo so ce ik td tk bg aa vl bd) [] 0 0 (Ri D (fun (r : Int32) (u : Unit) => Q r ) (fun _ => [])) := by
  refine cn_ofR (by decide) (Nat.le_of_ble_eq_true rfl) (fun k C hR => ?_)
  have C : Cx D ca sd cX10_his RX10 (some .int) { frames := 0, cells := 0, slots := 0, locals := 0 } k 3 := C
  unfold wp_X10_his at hw
  show J l D k 3 0 0 0 (wM ca am m kp wa fo ta bo so ce ik td tk bg aa vl bd) [(0, .ref (am 0)), (1, .int a1), (2, .int a2)] []
  refine j_aload_n C 0 dX10_his_0 rfl ?_
  refine j_get C fl_X10_9_10 0 dX10_his_1 rfl rfl ?_
  refine j_iconst C 2 dX10_his_4 (by decide) ?_
  refine j_iconst C 3 dX10_his_5 (by decide) ?_
  refine j_iload_n C 1 dX10_his_6 rfl ?_
  refine j_imul C dX10_his_7 ?_
  refine j_iadd C dX10_his_8 ?_
  refine j_iload_n C 2 dX10_his_9 rfl ?_
  refine j_iadd C dX10_his_10 ?_
  have hi1 := hw.1
  replace hw := hw.2
  refine j_iald C 1 dX10_his_11 rfl hi1 ?_
  exact j_iretR C hR () rfl dX10_his_12 hw
def wp_X10_gets (m : Nat → Int32)  (a1 : Int32) (a2 : Int32) (a3 : Int32) (Q : (Nat → Int32) → Prop) : Prop := vp_in ((2 + (3 * a1)) + a2) 52 ∧ (Q (upd m (((2 + (3 * a1)) + a2).toNatClampNeg) a3))
set_option maxRecDepth 100000 in
set_option maxHeartbeats 8000000 in
theorem c_X10_gets {l : Launch} {D : va_G} {ca : Nat → ClassId} {sd : Nat → Nat}  (am : Nat → Nat) (m : Nat → Int32) (kp : Nat → Int32) (wa : Nat → Int32) (fo : Nat → Int32) (ta : Nat → Int32) (bo : Nat → Int32) (so : Nat → Int32) (ce : Nat → Int64) (ik : Int32) (td : Int32) (tk : Int32) (bg : Int32) (aa : Int32) (vl : Int32) (bd : Int32)  (a1 : Int32) (a2 : Int32) (a3 : Int32)  {Q : (Nat → Int32) → Prop} (hw : wp_X10_gets m  a1 a2 a3 Q) : Cn l D ca sd yX10_gets cX10_gets 4 none { frames := 0, cells := 0, slots := 0, locals := 0 } [.ref (am 0), .int a1, .int a2, .int a3] (wM ca am m kp wa fo ta bo so ce ik td tk bg aa vl bd) (wM ca am m kp wa fo ta bo so ce ik td tk bg aa vl bd) 0 0 (Rv D (fun u : (Nat → Int32) => Q u) (fun u => (wM ca am u kp wa fo ta bo so ce ik td tk bg aa vl bd))) := by
  refine cn_of (by decide) (Nat.le_of_ble_eq_true rfl) (fun k C hR hB _ => ?_)
  have C : Cx D ca sd cX10_gets RX10 none { frames := 0, cells := 0, slots := 0, locals := 0 } k 4 := C
  unfold wp_X10_gets at hw
  show J l D k 4 0 0 0 (wM ca am m kp wa fo ta bo so ce ik td tk bg aa vl bd) [(0, .ref (am 0)), (1, .int a1), (2, .int a2), (3, .int a3)] []
  refine j_aload_n C 0 dX10_gets_0 rfl ?_
  refine j_get C fl_X10_9_10 0 dX10_gets_1 rfl rfl ?_
  refine j_iconst C 2 dX10_gets_4 (by decide) ?_
  refine j_iconst C 3 dX10_gets_5 (by decide) ?_
  refine j_iload_n C 1 dX10_gets_6 rfl ?_
  refine j_imul C dX10_gets_7 ?_
  refine j_iadd C dX10_gets_8 ?_
  refine j_iload_n C 2 dX10_gets_9 rfl ?_
  refine j_iadd C dX10_gets_10 ?_
  refine j_iload_n C 3 dX10_gets_11 rfl ?_
  have hi1 := hw.1
  replace hw := hw.2
  refine j_iast C hB 1 (wM ca am (upd m (((2 + (3 * a1)) + a2).toNatClampNeg) a3) kp wa fo ta bo so ce ik td tk bg aa vl bd) dX10_gets_12 rfl hi1 rfl ?_
  exact j_vret C hB hR (upd m (((2 + (3 * a1)) + a2).toNatClampNeg) a3) rfl dX10_gets_13 hw rfl
def wp_X10_isDone (m : Nat → Int32)  (a1 : Int32) (Q : (Int32) → Prop) : Prop := wp_X10_it m a1 1 (fun r1 => (r1 = 100 → Q 1) ∧ (¬ (r1 = 100) → Q 0))
set_option maxRecDepth 100000 in
set_option maxHeartbeats 8000000 in
theorem c_X10_isDone {l : Launch} {D : va_G} {ca : Nat → ClassId} {sd : Nat → Nat}  (am : Nat → Nat) (m : Nat → Int32) (kp : Nat → Int32) (wa : Nat → Int32) (fo : Nat → Int32) (ta : Nat → Int32) (bo : Nat → Int32) (so : Nat → Int32) (ce : Nat → Int64) (ik : Int32) (td : Int32) (tk : Int32) (bg : Int32) (aa : Int32) (vl : Int32) (bd : Int32)  (a1 : Int32)  {Q : (Int32) → Prop} (hw : wp_X10_isDone m  a1 Q) : Cn l D ca sd yX10_isDone cX10_isDone 2 (some .boolean) { frames := 1, cells := 0, slots := 0, locals := 22 } [.ref (am 0), .int a1] (wM ca am m kp wa fo ta bo so ce ik td tk bg aa vl bd) [] 0 0 (Ri D (fun (r : Int32) (u : Unit) => Q r ) (fun _ => [])) := by
  refine cn_ofR (by decide) (Nat.le_of_ble_eq_true rfl) (fun k C hR => ?_)
  have C : Cx D ca sd cX10_isDone RX10 (some .boolean) { frames := 1, cells := 0, slots := 0, locals := 22 } k 2 := C
  unfold wp_X10_isDone at hw
  show J l D k 2 0 0 0 (wM ca am m kp wa fo ta bo so ce ik td tk bg aa vl bd) [(0, .ref (am 0)), (1, .int a1)] []
  refine j_aload_n C 0 dX10_isDone_0 rfl ?_
  refine j_iload_n C 1 dX10_isDone_1 rfl ?_
  refine j_iconst C 1 dX10_isDone_2 (by decide) ?_
  refine j_ciZ C (jr_V C lkV_X10_45 (c_X10_it am m kp wa fo ta bo so ce ik td tk bg aa vl bd a1 1 hw) ⟨rfl, rfl, by decide, by decide, by decide, by decide⟩ [0, 1, 2, 3, 4, 5, 6, 7, 8] (by decide) rfl (fx_ro C) 0 10 rfl rfl rfl rfl (Nat.le_of_ble_eq_true rfl) dX10_isDone_3) (fun r1 u1 hw => ?_)
  refine j_bipush C 100 dX10_isDone_6 (by decide) ?_
  refine j_icmp_ne C 15 dX10_isDone_8 (by decide) (fun z => ?_) (fun z => ?_)
  · replace hw := hw.2 z
    refine j_iconst C 0 dX10_isDone_15 (by decide) ?_
    exact j_zretR C hR (by decide) () rfl dX10_isDone_16 hw
  · replace hw := hw.1 z
    refine j_iconst C 1 dX10_isDone_11 (by decide) ?_
    refine j_goto C 16 dX10_isDone_12 (by decide) ?_
    exact j_zretR C hR (by decide) () rfl dX10_isDone_16 hw
def wpl_X10_withOf_4 (m : Nat → Int32) (x1 : Int32) (K : (Int32) → (Int32) → Prop) : Nat → (Int32) → (Int32) → Prop
  | 0, _, _ => False
  | n + 1, x2, x3 => vp_in 1 52 ∧ (((m ((1 : Int32).toNatClampNeg)) ≤ x3 → K x2 x3) ∧ (¬ ((m ((1 : Int32).toNatClampNeg)) ≤ x3) → wp_X10_it m x3 2 (fun r2 => (r2 = x1 → wpl_X10_withOf_4 m x1  K n (x2 ||| (1 <<< (x3 &&& 31))) (x3 + 1)) ∧ (¬ (r2 = x1) → wpl_X10_withOf_4 m x1  K n (x2 ||| 0) (x3 + 1)))))
def wp_X10_withOf (m : Nat → Int32)  (a1 : Int32) (Q : (Int32) → Prop) : Prop := ∃ n3 : Nat, wpl_X10_withOf_4 m a1  (fun y3_2 y3_3 => Q y3_2) n3 0 0
set_option maxRecDepth 100000 in
set_option maxHeartbeats 8000000 in
theorem ml_X10_withOf_4 {l : Launch} {D : va_G} {ca : Nat → ClassId} {sd : Nat → Nat}  {k : Kx} (am : Nat → Nat)  (m : Nat → Int32) (kp : Nat → Int32) (wa : Nat → Int32) (fo : Nat → Int32) (ta : Nat → Int32) (bo : Nat → Int32) (so : Nat → Int32) (ce : Nat → Int64) (ik : Int32) (td : Int32) (tk : Int32) (bg : Int32) (aa : Int32) (vl : Int32) (bd : Int32) (x1 : Int32) (C : Cx D ca sd cX10_withOf RX10 (some .int) { frames := 1, cells := 0, slots := 0, locals := 22 } k 4) {Q : (Int32) → Prop} (hR : Rx (Ri D (fun (r : Int32) (u : Unit) => Q r ) (fun _ => [])) 0 0 k) {K : (Int32) → (Int32) → Prop} (hK : ∀ (x2' : Int32) (x3' : Int32), K x2' x3' → J l D k 4 0 0 40 (wM ca am m kp wa fo ta bo so ce ik td tk bg aa vl bd) [(0, .ref (am 0)), (1, .int x1), (2, .int x2'), (3, .int x3')] []) : ∀ (n : Nat) (x2 : Int32) (x3 : Int32), wpl_X10_withOf_4 m x1  K n x2 x3 → J l D k 4 0 0 4 (wM ca am m kp wa fo ta bo so ce ik td tk bg aa vl bd) [(0, .ref (am 0)), (1, .int x1), (2, .int x2), (3, .int x3)] [] := by
  intro n
  induction n with
  | zero =>
    intro x2 x3 hw
    rw [wpl_X10_withOf_4] at hw
    exact hw.elim
  | succ n ih =>
    intro x2 x3 hw
    rw [wpl_X10_withOf_4] at hw
    refine j_iload_n C 3 dX10_withOf_4 rfl ?_
    refine j_aload_n C 0 dX10_withOf_5 rfl ?_
    refine j_get C fl_X10_9_10 0 dX10_withOf_6 rfl rfl ?_
    refine j_iconst C 1 dX10_withOf_9 (by decide) ?_
    have hi1 := hw.1
    replace hw := hw.2
    refine j_iald C 1 dX10_withOf_10 rfl hi1 ?_
    refine j_icmp_ge C 40 dX10_withOf_11 (by decide) (fun z => ?_) (fun z => ?_)
    · replace hw := hw.1 z
      exact hK x2 x3 hw
    · replace hw := hw.2 z
      refine j_iload_n C 2 dX10_withOf_14 rfl ?_
      refine j_aload_n C 0 dX10_withOf_15 rfl ?_
      refine j_iload_n C 3 dX10_withOf_16 rfl ?_
      refine j_iconst C 2 dX10_withOf_17 (by decide) ?_
      refine j_ciZ C (jr_V C lkV_X10_45 (c_X10_it am m kp wa fo ta bo so ce ik td tk bg aa vl bd x3 2 hw) ⟨rfl, rfl, by decide, by decide, by decide, by decide⟩ [0, 1, 2, 3, 4, 5, 6, 7, 8] (by decide) rfl (fx_ro C) 0 10 rfl rfl rfl rfl (Nat.le_of_ble_eq_true rfl) dX10_withOf_18) (fun r2 u2 hw => ?_)
      refine j_iload_n C 1 dX10_withOf_21 rfl ?_
      refine j_icmp_ne C 31 dX10_withOf_22 (by decide) (fun z => ?_) (fun z => ?_)
      · replace hw := hw.2 z
        refine j_iconst C 0 dX10_withOf_31 (by decide) ?_
        refine j_ior C dX10_withOf_32 ?_
        refine j_istore_n C [(2, .int (x2 ||| 0)), (0, .ref (am 0)), (1, .int x1), (3, .int x3)] dX10_withOf_33 (by decide) rfl ?_
        refine j_iinc C 3 (x3 + 1) [(3, .int (x3 + 1)), (2, .int (x2 ||| 0)), (0, .ref (am 0)), (1, .int x1)] dX10_withOf_34 rfl rfl (by decide) rfl ?_
        refine j_goto C 4 dX10_withOf_37 (by decide) ?_
        refine j_lsub [2, 3, 1, 0] [(0, .ref (am 0)), (1, .int x1), (2, .int (x2 ||| 0)), (3, .int (x3 + 1))] rfl ?_
        exact ih (x2 ||| 0) (x3 + 1) hw
      · replace hw := hw.1 z
        refine j_iconst C 1 dX10_withOf_25 (by decide) ?_
        refine j_iload_n C 3 dX10_withOf_26 rfl ?_
        refine j_ishl C dX10_withOf_27 ?_
        refine j_goto C 32 dX10_withOf_28 (by decide) ?_
        refine j_ior C dX10_withOf_32 ?_
        refine j_istore_n C [(2, .int (x2 ||| (1 <<< (x3 &&& 31)))), (0, .ref (am 0)), (1, .int x1), (3, .int x3)] dX10_withOf_33 (by decide) rfl ?_
        refine j_iinc C 3 (x3 + 1) [(3, .int (x3 + 1)), (2, .int (x2 ||| (1 <<< (x3 &&& 31)))), (0, .ref (am 0)), (1, .int x1)] dX10_withOf_34 rfl rfl (by decide) rfl ?_
        refine j_goto C 4 dX10_withOf_37 (by decide) ?_
        refine j_lsub [2, 3, 1, 0] [(0, .ref (am 0)), (1, .int x1), (2, .int (x2 ||| (1 <<< (x3 &&& 31)))), (3, .int (x3 + 1))] rfl ?_
        exact ih (x2 ||| (1 <<< (x3 &&& 31))) (x3 + 1) hw
set_option maxRecDepth 100000 in
set_option maxHeartbeats 8000000 in
theorem c_X10_withOf {l : Launch} {D : va_G} {ca : Nat → ClassId} {sd : Nat → Nat}  (am : Nat → Nat) (m : Nat → Int32) (kp : Nat → Int32) (wa : Nat → Int32) (fo : Nat → Int32) (ta : Nat → Int32) (bo : Nat → Int32) (so : Nat → Int32) (ce : Nat → Int64) (ik : Int32) (td : Int32) (tk : Int32) (bg : Int32) (aa : Int32) (vl : Int32) (bd : Int32)  (a1 : Int32)  {Q : (Int32) → Prop} (hw : wp_X10_withOf m  a1 Q) : Cn l D ca sd yX10_withOf cX10_withOf 4 (some .int) { frames := 1, cells := 0, slots := 0, locals := 22 } [.ref (am 0), .int a1] (wM ca am m kp wa fo ta bo so ce ik td tk bg aa vl bd) [] 0 0 (Ri D (fun (r : Int32) (u : Unit) => Q r ) (fun _ => [])) := by
  refine cn_ofR (by decide) (Nat.le_of_ble_eq_true rfl) (fun k C hR => ?_)
  have C : Cx D ca sd cX10_withOf RX10 (some .int) { frames := 1, cells := 0, slots := 0, locals := 22 } k 4 := C
  unfold wp_X10_withOf at hw
  show J l D k 4 0 0 0 (wM ca am m kp wa fo ta bo so ce ik td tk bg aa vl bd) [(0, .ref (am 0)), (1, .int a1)] []
  refine j_iconst C 0 dX10_withOf_0 (by decide) ?_
  refine j_istore_n C [(2, .int 0), (0, .ref (am 0)), (1, .int a1)] dX10_withOf_1 (by decide) rfl ?_
  refine j_iconst C 0 dX10_withOf_2 (by decide) ?_
  refine j_istore_n C [(3, .int 0), (2, .int 0), (0, .ref (am 0)), (1, .int a1)] dX10_withOf_3 (by decide) rfl ?_
  refine j_lsub [2, 3, 1, 0] [(0, .ref (am 0)), (1, .int a1), (2, .int 0), (3, .int 0)] rfl ?_
  obtain ⟨n3, hw⟩ := hw
  refine ml_X10_withOf_4 am  m kp wa fo ta bo so ce ik td tk bg aa vl bd a1 C hR (fun y3_2 y3_3 hw => ?_) n3 0 0 hw
  refine j_iload_n C 2 dX10_withOf_40 rfl ?_
  exact j_iretR C hR () rfl dX10_withOf_41 hw
def wpl_X10_openOf_4 (m : Nat → Int32) (x1 : Int32) (K : (Int32) → (Int32) → Prop) : Nat → (Int32) → (Int32) → Prop
  | 0, _, _ => False
  | n + 1, x2, x3 => vp_in 1 52 ∧ (((m ((1 : Int32).toNatClampNeg)) ≤ x3 → K x2 x3) ∧ (¬ ((m ((1 : Int32).toNatClampNeg)) ≤ x3) → wp_X10_it m x3 2 (fun r2 => (r2 = x1 → wp_X10_isDone m x3 (fun r3 => (r3 = 0 → wpl_X10_openOf_4 m x1  K n (x2 + 1) (x3 + 1)) ∧ (¬ (r3 = 0) → wpl_X10_openOf_4 m x1  K n (x2 + 0) (x3 + 1)))) ∧ (¬ (r2 = x1) → wpl_X10_openOf_4 m x1  K n (x2 + 0) (x3 + 1)))))
def wp_X10_openOf (m : Nat → Int32)  (a1 : Int32) (Q : (Int32) → Prop) : Prop := ∃ n4 : Nat, wpl_X10_openOf_4 m a1  (fun y4_2 y4_3 => Q y4_2) n4 0 0
set_option maxRecDepth 100000 in
set_option maxHeartbeats 8000000 in
theorem ml_X10_openOf_4 {l : Launch} {D : va_G} {ca : Nat → ClassId} {sd : Nat → Nat}  {k : Kx} (am : Nat → Nat)  (m : Nat → Int32) (kp : Nat → Int32) (wa : Nat → Int32) (fo : Nat → Int32) (ta : Nat → Int32) (bo : Nat → Int32) (so : Nat → Int32) (ce : Nat → Int64) (ik : Int32) (td : Int32) (tk : Int32) (bg : Int32) (aa : Int32) (vl : Int32) (bd : Int32) (x1 : Int32) (C : Cx D ca sd cX10_openOf RX10 (some .int) { frames := 2, cells := 0, slots := 0, locals := 43 } k 4) {Q : (Int32) → Prop} (hR : Rx (Ri D (fun (r : Int32) (u : Unit) => Q r ) (fun _ => [])) 0 0 k) {K : (Int32) → (Int32) → Prop} (hK : ∀ (x2' : Int32) (x3' : Int32), K x2' x3' → J l D k 4 0 0 46 (wM ca am m kp wa fo ta bo so ce ik td tk bg aa vl bd) [(0, .ref (am 0)), (1, .int x1), (2, .int x2'), (3, .int x3')] []) : ∀ (n : Nat) (x2 : Int32) (x3 : Int32), wpl_X10_openOf_4 m x1  K n x2 x3 → J l D k 4 0 0 4 (wM ca am m kp wa fo ta bo so ce ik td tk bg aa vl bd) [(0, .ref (am 0)), (1, .int x1), (2, .int x2), (3, .int x3)] [] := by
  intro n
  induction n with
  | zero =>
    intro x2 x3 hw
    rw [wpl_X10_openOf_4] at hw
    exact hw.elim
  | succ n ih =>
    intro x2 x3 hw
    rw [wpl_X10_openOf_4] at hw
    refine j_iload_n C 3 dX10_openOf_4 rfl ?_
    refine j_aload_n C 0 dX10_openOf_5 rfl ?_
    refine j_get C fl_X10_9_10 0 dX10_openOf_6 rfl rfl ?_
    refine j_iconst C 1 dX10_openOf_9 (by decide) ?_
    have hi1 := hw.1
    replace hw := hw.2
    refine j_iald C 1 dX10_openOf_10 rfl hi1 ?_
    refine j_icmp_ge C 46 dX10_openOf_11 (by decide) (fun z => ?_) (fun z => ?_)
    · replace hw := hw.1 z
      exact hK x2 x3 hw
    · replace hw := hw.2 z
      refine j_iload_n C 2 dX10_openOf_14 rfl ?_
      refine j_aload_n C 0 dX10_openOf_15 rfl ?_
      refine j_iload_n C 3 dX10_openOf_16 rfl ?_
      refine j_iconst C 2 dX10_openOf_17 (by decide) ?_
      refine j_ciZ C (jr_V C lkV_X10_45 (c_X10_it am m kp wa fo ta bo so ce ik td tk bg aa vl bd x3 2 hw) ⟨rfl, rfl, by decide, by decide, by decide, by decide⟩ [0, 1, 2, 3, 4, 5, 6, 7, 8] (by decide) rfl (fx_ro C) 0 10 rfl rfl rfl rfl (Nat.le_of_ble_eq_true rfl) dX10_openOf_18) (fun r2 u2 hw => ?_)
      refine j_iload_n C 1 dX10_openOf_21 rfl ?_
      refine j_icmp_ne C 37 dX10_openOf_22 (by decide) (fun z => ?_) (fun z => ?_)
      · replace hw := hw.2 z
        refine j_iconst C 0 dX10_openOf_37 (by decide) ?_
        refine j_iadd C dX10_openOf_38 ?_
        refine j_istore_n C [(2, .int (x2 + 0)), (0, .ref (am 0)), (1, .int x1), (3, .int x3)] dX10_openOf_39 (by decide) rfl ?_
        refine j_iinc C 3 (x3 + 1) [(3, .int (x3 + 1)), (2, .int (x2 + 0)), (0, .ref (am 0)), (1, .int x1)] dX10_openOf_40 rfl rfl (by decide) rfl ?_
        refine j_goto C 4 dX10_openOf_43 (by decide) ?_
        refine j_lsub [2, 3, 1, 0] [(0, .ref (am 0)), (1, .int x1), (2, .int (x2 + 0)), (3, .int (x3 + 1))] rfl ?_
        exact ih (x2 + 0) (x3 + 1) hw
      · replace hw := hw.1 z
        refine j_aload_n C 0 dX10_openOf_25 rfl ?_
        refine j_iload_n C 3 dX10_openOf_26 rfl ?_
        refine j_ciZ C (jr_V C lkV_X10_60 (c_X10_isDone am m kp wa fo ta bo so ce ik td tk bg aa vl bd x3 hw) ⟨rfl, rfl, by decide, by decide, by decide, by decide⟩ [0, 1, 2, 3, 4, 5, 6, 7, 8] (by decide) rfl (fx_ro C) 0 10 rfl rfl rfl rfl (Nat.le_of_ble_eq_true rfl) dX10_openOf_27) (fun r3 u3 hw => ?_)
        refine j_if_ne C 37 dX10_openOf_30 (by decide) (fun z => ?_) (fun z => ?_)
        · replace hw := hw.2 z
          refine j_iconst C 0 dX10_openOf_37 (by decide) ?_
          refine j_iadd C dX10_openOf_38 ?_
          refine j_istore_n C [(2, .int (x2 + 0)), (0, .ref (am 0)), (1, .int x1), (3, .int x3)] dX10_openOf_39 (by decide) rfl ?_
          refine j_iinc C 3 (x3 + 1) [(3, .int (x3 + 1)), (2, .int (x2 + 0)), (0, .ref (am 0)), (1, .int x1)] dX10_openOf_40 rfl rfl (by decide) rfl ?_
          refine j_goto C 4 dX10_openOf_43 (by decide) ?_
          refine j_lsub [2, 3, 1, 0] [(0, .ref (am 0)), (1, .int x1), (2, .int (x2 + 0)), (3, .int (x3 + 1))] rfl ?_
          exact ih (x2 + 0) (x3 + 1) hw
        · replace hw := hw.1 z
          refine j_iconst C 1 dX10_openOf_33 (by decide) ?_
          refine j_goto C 38 dX10_openOf_34 (by decide) ?_
          refine j_iadd C dX10_openOf_38 ?_
          refine j_istore_n C [(2, .int (x2 + 1)), (0, .ref (am 0)), (1, .int x1), (3, .int x3)] dX10_openOf_39 (by decide) rfl ?_
          refine j_iinc C 3 (x3 + 1) [(3, .int (x3 + 1)), (2, .int (x2 + 1)), (0, .ref (am 0)), (1, .int x1)] dX10_openOf_40 rfl rfl (by decide) rfl ?_
          refine j_goto C 4 dX10_openOf_43 (by decide) ?_
          refine j_lsub [2, 3, 1, 0] [(0, .ref (am 0)), (1, .int x1), (2, .int (x2 + 1)), (3, .int (x3 + 1))] rfl ?_
          exact ih (x2 + 1) (x3 + 1) hw
set_option maxRecDepth 100000 in
set_option maxHeartbeats 8000000 in
theorem c_X10_openOf {l : Launch} {D : va_G} {ca : Nat → ClassId} {sd : Nat → Nat}  (am : Nat → Nat) (m : Nat → Int32) (kp : Nat → Int32) (wa : Nat → Int32) (fo : Nat → Int32) (ta : Nat → Int32) (bo : Nat → Int32) (so : Nat → Int32) (ce : Nat → Int64) (ik : Int32) (td : Int32) (tk : Int32) (bg : Int32) (aa : Int32) (vl : Int32) (bd : Int32)  (a1 : Int32)  {Q : (Int32) → Prop} (hw : wp_X10_openOf m  a1 Q) : Cn l D ca sd yX10_openOf cX10_openOf 4 (some .int) { frames := 2, cells := 0, slots := 0, locals := 43 } [.ref (am 0), .int a1] (wM ca am m kp wa fo ta bo so ce ik td tk bg aa vl bd) [] 0 0 (Ri D (fun (r : Int32) (u : Unit) => Q r ) (fun _ => [])) := by
  refine cn_ofR (by decide) (Nat.le_of_ble_eq_true rfl) (fun k C hR => ?_)
  have C : Cx D ca sd cX10_openOf RX10 (some .int) { frames := 2, cells := 0, slots := 0, locals := 43 } k 4 := C
  unfold wp_X10_openOf at hw
  show J l D k 4 0 0 0 (wM ca am m kp wa fo ta bo so ce ik td tk bg aa vl bd) [(0, .ref (am 0)), (1, .int a1)] []
  refine j_iconst C 0 dX10_openOf_0 (by decide) ?_
  refine j_istore_n C [(2, .int 0), (0, .ref (am 0)), (1, .int a1)] dX10_openOf_1 (by decide) rfl ?_
  refine j_iconst C 0 dX10_openOf_2 (by decide) ?_
  refine j_istore_n C [(3, .int 0), (2, .int 0), (0, .ref (am 0)), (1, .int a1)] dX10_openOf_3 (by decide) rfl ?_
  refine j_lsub [2, 3, 1, 0] [(0, .ref (am 0)), (1, .int a1), (2, .int 0), (3, .int 0)] rfl ?_
  obtain ⟨n4, hw⟩ := hw
  refine ml_X10_openOf_4 am  m kp wa fo ta bo so ce ik td tk bg aa vl bd a1 C hR (fun y4_2 y4_3 hw => ?_) n4 0 0 hw
  refine j_iload_n C 2 dX10_openOf_46 rfl ?_
  exact j_iretR C hR () rfl dX10_openOf_47 hw
def wp_X10_goesOn (m : Nat → Int32)  (a1 : Int32) (a2 : Int32) (Q : (Int32) → Prop) : Prop := wp_X10_it m a1 1 (fun r1 => (50 ≤ r1 → wp_X10_it m a1 0 (fun r2 => (r2 = 1 → Q (a2 / 2)) ∧ (¬ (r2 = 1) → (r2 = 2 → Q a2) ∧ (¬ (r2 = 2) → (r2 = 3 → (r1 = 99 → Q 0) ∧ (¬ (r1 = 99) → Q 1)) ∧ (¬ (r2 = 3) → (r2 = 4 → Q ((a2 / 2) + 2)) ∧ (¬ (r2 = 4) → (r2 = 5 → wp_X10_it m a1 3 (fun r3 => (r3 ≤ 10 → Q a2) ∧ (¬ (r3 ≤ 10) → Q (2 * a2)))) ∧ (¬ (r2 = 5) → Q a2))))))) ∧ (¬ (50 ≤ r1) → wp_X10_it m a1 0 (fun r4 => (r4 = 1 → Q (a2 / 2)) ∧ (¬ (r4 = 1) → (r4 = 2 → Q (a2 + 3)) ∧ (¬ (r4 = 2) → (r4 = 3 → (r1 = 99 → Q 0) ∧ (¬ (r1 = 99) → Q 1)) ∧ (¬ (r4 = 3) → (r4 = 4 → Q ((a2 / 2) + 2)) ∧ (¬ (r4 = 4) → (r4 = 5 → wp_X10_it m a1 3 (fun r5 => (r5 ≤ 10 → Q (a2 + 3)) ∧ (¬ (r5 ≤ 10) → Q (2 * (a2 + 3))))) ∧ (¬ (r4 = 5) → Q a2))))))))
set_option maxRecDepth 100000 in
set_option maxHeartbeats 8000000 in
theorem c_X10_goesOn {l : Launch} {D : va_G} {ca : Nat → ClassId} {sd : Nat → Nat}  (am : Nat → Nat) (m : Nat → Int32) (kp : Nat → Int32) (wa : Nat → Int32) (fo : Nat → Int32) (ta : Nat → Int32) (bo : Nat → Int32) (so : Nat → Int32) (ce : Nat → Int64) (ik : Int32) (td : Int32) (tk : Int32) (bg : Int32) (aa : Int32) (vl : Int32) (bd : Int32)  (a1 : Int32) (a2 : Int32)  {Q : (Int32) → Prop} (hw : wp_X10_goesOn m  a1 a2 Q) : Cn l D ca sd yX10_goesOn cX10_goesOn 5 (some .int) { frames := 1, cells := 0, slots := 0, locals := 22 } [.ref (am 0), .int a1, .int a2] (wM ca am m kp wa fo ta bo so ce ik td tk bg aa vl bd) [] 0 0 (Ri D (fun (r : Int32) (u : Unit) => Q r ) (fun _ => [])) := by
  refine cn_ofR (by decide) (Nat.le_of_ble_eq_true rfl) (fun k C hR => ?_)
  have C : Cx D ca sd cX10_goesOn RX10 (some .int) { frames := 1, cells := 0, slots := 0, locals := 22 } k 5 := C
  unfold wp_X10_goesOn at hw
  show J l D k 5 0 0 0 (wM ca am m kp wa fo ta bo so ce ik td tk bg aa vl bd) [(0, .ref (am 0)), (1, .int a1), (2, .int a2)] []
  refine j_aload_n C 0 dX10_goesOn_0 rfl ?_
  refine j_iload_n C 1 dX10_goesOn_1 rfl ?_
  refine j_iconst C 1 dX10_goesOn_2 (by decide) ?_
  refine j_ciZ C (jr_V C lkV_X10_45 (c_X10_it am m kp wa fo ta bo so ce ik td tk bg aa vl bd a1 1 hw) ⟨rfl, rfl, by decide, by decide, by decide, by decide⟩ [0, 1, 2, 3, 4, 5, 6, 7, 8] (by decide) rfl (fx_ro C) 0 10 rfl rfl rfl rfl (Nat.le_of_ble_eq_true rfl) dX10_goesOn_3) (fun r1 u1 hw => ?_)
  refine j_istore_n C [(3, .int r1), (0, .ref (am 0)), (1, .int a1), (2, .int a2)] dX10_goesOn_6 (by decide) rfl ?_
  refine j_iload_n C 0 dX10_goesOn_7 rfl ?_
  refine j_bipush C 50 dX10_goesOn_8 (by decide) ?_
  refine j_icmp_ge C 19 dX10_goesOn_10 (by decide) (fun z => ?_) (fun z => ?_)
  · replace hw := hw.1 z
    refine j_iload_n C 3 dX10_goesOn_19 rfl ?_
    refine j_istore C [(4, .int a2), (3, .int r1), (0, .ref (am 0)), (1, .int a1), (2, .int a2)] dX10_goesOn_20 (by decide) rfl ?_
    refine j_aload_n C 2 dX10_goesOn_22 rfl ?_
    refine j_iload_n C 3 dX10_goesOn_23 rfl ?_
    refine j_iconst C 0 dX10_goesOn_24 (by decide) ?_
    refine j_ciZ C (jr_V C lkV_X10_45 (c_X10_it am m kp wa fo ta bo so ce ik td tk bg aa vl bd a1 0 hw) ⟨rfl, rfl, by decide, by decide, by decide, by decide⟩ [0, 1, 2, 3, 4, 5, 6, 7, 8] (by decide) rfl (fx_ro C) 0 10 rfl rfl rfl rfl (Nat.le_of_ble_eq_true rfl) dX10_goesOn_25) (fun r2 u2 hw => ?_)
    by_cases z1 : r2 = 1
    · replace hw := hw.1 z1
      refine j_tabIn (off := 36) C 1 64 dX10_goesOn_28 z1 (by decide) (by decide) (by decide) (by decide) ?_
      refine j_iload_n C 4 dX10_goesOn_64 rfl ?_
      refine j_iconst C 2 dX10_goesOn_65 (by decide) ?_
      refine j_idiv C dX10_goesOn_66 (by decide) ?_
      exact j_iretR C hR () rfl dX10_goesOn_67 hw
    · replace hw := hw.2 z1
      by_cases z2 : r2 = 2
      · replace hw := hw.1 z2
        refine j_tabIn (off := 40) C 2 68 dX10_goesOn_28 z2 (by decide) (by decide) (by decide) (by decide) ?_
        refine j_iload C 0 dX10_goesOn_68 rfl ?_
        exact j_iretR C hR () rfl dX10_goesOn_70 hw
      · replace hw := hw.2 z2
        by_cases z3 : r2 = 3
        · replace hw := hw.1 z3
          refine j_tabIn (off := 43) C 3 71 dX10_goesOn_28 z3 (by decide) (by decide) (by decide) (by decide) ?_
          refine j_iload_n C 1 dX10_goesOn_71 rfl ?_
          refine j_bipush C 99 dX10_goesOn_72 (by decide) ?_
          refine j_icmp_ne C 81 dX10_goesOn_74 (by decide) (fun z => ?_) (fun z => ?_)
          · replace hw := hw.2 z
            refine j_iconst C 1 dX10_goesOn_81 (by decide) ?_
            exact j_iretR C hR () rfl dX10_goesOn_82 hw
          · replace hw := hw.1 z
            refine j_iconst C 0 dX10_goesOn_77 (by decide) ?_
            refine j_goto C 82 dX10_goesOn_78 (by decide) ?_
            exact j_iretR C hR () rfl dX10_goesOn_82 hw
        · replace hw := hw.2 z3
          by_cases z4 : r2 = 4
          · replace hw := hw.1 z4
            refine j_tabIn (off := 55) C 4 83 dX10_goesOn_28 z4 (by decide) (by decide) (by decide) (by decide) ?_
            refine j_iload_n C 4 dX10_goesOn_83 rfl ?_
            refine j_iconst C 2 dX10_goesOn_84 (by decide) ?_
            refine j_idiv C dX10_goesOn_85 (by decide) ?_
            refine j_iconst C 2 dX10_goesOn_86 (by decide) ?_
            refine j_iadd C dX10_goesOn_87 ?_
            exact j_iretR C hR () rfl dX10_goesOn_88 hw
          · replace hw := hw.2 z4
            by_cases z5 : r2 = 5
            · replace hw := hw.1 z5
              refine j_tabIn (off := 61) C 5 89 dX10_goesOn_28 z5 (by decide) (by decide) (by decide) (by decide) ?_
              refine j_aload_n C 2 dX10_goesOn_89 rfl ?_
              refine j_iload_n C 3 dX10_goesOn_90 rfl ?_
              refine j_iconst C 3 dX10_goesOn_91 (by decide) ?_
              refine j_ciZ C (jr_V C lkV_X10_45 (c_X10_it am m kp wa fo ta bo so ce ik td tk bg aa vl bd a1 3 hw) ⟨rfl, rfl, by decide, by decide, by decide, by decide⟩ [0, 1, 2, 3, 4, 5, 6, 7, 8] (by decide) rfl (fx_ro C) 0 10 rfl rfl rfl rfl (Nat.le_of_ble_eq_true rfl) dX10_goesOn_92) (fun r3 u3 hw => ?_)
              refine j_bipush C 10 dX10_goesOn_95 (by decide) ?_
              refine j_icmp_le C 107 dX10_goesOn_97 (by decide) (fun z => ?_) (fun z => ?_)
              · replace hw := hw.1 z
                refine j_iload C 0 dX10_goesOn_107 rfl ?_
                exact j_iretR C hR () rfl dX10_goesOn_109 hw
              · replace hw := hw.2 z
                refine j_iconst C 2 dX10_goesOn_100 (by decide) ?_
                refine j_iload C 0 dX10_goesOn_101 rfl ?_
                refine j_imul C dX10_goesOn_103 ?_
                refine j_goto C 109 dX10_goesOn_104 (by decide) ?_
                exact j_iretR C hR () rfl dX10_goesOn_109 hw
            · replace hw := hw.2 z5
              refine j_tabOut C 110 dX10_goesOn_28 (by have qz1 := lv_neT z1 (show (1 : Int32).toInt = 1 from rfl); have qz2 := lv_neT z2 (show (2 : Int32).toInt = 2 from rfl); have qz3 := lv_neT z3 (show (3 : Int32).toInt = 3 from rfl); have qz4 := lv_neT z4 (show (4 : Int32).toInt = 4 from rfl); have qz5 := lv_neT z5 (show (5 : Int32).toInt = 5 from rfl); omega) (by decide) ?_
              refine j_iload_n C 4 dX10_goesOn_110 rfl ?_
              exact j_iretR C hR () rfl dX10_goesOn_111 hw
  · replace hw := hw.2 z
    refine j_iload_n C 3 dX10_goesOn_13 rfl ?_
    refine j_iconst C 3 dX10_goesOn_14 (by decide) ?_
    refine j_iadd C dX10_goesOn_15 ?_
    refine j_goto C 20 dX10_goesOn_16 (by decide) ?_
    refine j_istore C [(4, .int (a2 + 3)), (3, .int r1), (0, .ref (am 0)), (1, .int a1), (2, .int a2)] dX10_goesOn_20 (by decide) rfl ?_
    refine j_aload_n C 2 dX10_goesOn_22 rfl ?_
    refine j_iload_n C 3 dX10_goesOn_23 rfl ?_
    refine j_iconst C 0 dX10_goesOn_24 (by decide) ?_
    refine j_ciZ C (jr_V C lkV_X10_45 (c_X10_it am m kp wa fo ta bo so ce ik td tk bg aa vl bd a1 0 hw) ⟨rfl, rfl, by decide, by decide, by decide, by decide⟩ [0, 1, 2, 3, 4, 5, 6, 7, 8] (by decide) rfl (fx_ro C) 0 10 rfl rfl rfl rfl (Nat.le_of_ble_eq_true rfl) dX10_goesOn_25) (fun r4 u4 hw => ?_)
    by_cases z6 : r4 = 1
    · replace hw := hw.1 z6
      refine j_tabIn (off := 36) C 1 64 dX10_goesOn_28 z6 (by decide) (by decide) (by decide) (by decide) ?_
      refine j_iload_n C 4 dX10_goesOn_64 rfl ?_
      refine j_iconst C 2 dX10_goesOn_65 (by decide) ?_
      refine j_idiv C dX10_goesOn_66 (by decide) ?_
      exact j_iretR C hR () rfl dX10_goesOn_67 hw
    · replace hw := hw.2 z6
      by_cases z7 : r4 = 2
      · replace hw := hw.1 z7
        refine j_tabIn (off := 40) C 2 68 dX10_goesOn_28 z7 (by decide) (by decide) (by decide) (by decide) ?_
        refine j_iload C 0 dX10_goesOn_68 rfl ?_
        exact j_iretR C hR () rfl dX10_goesOn_70 hw
      · replace hw := hw.2 z7
        by_cases z8 : r4 = 3
        · replace hw := hw.1 z8
          refine j_tabIn (off := 43) C 3 71 dX10_goesOn_28 z8 (by decide) (by decide) (by decide) (by decide) ?_
          refine j_iload_n C 1 dX10_goesOn_71 rfl ?_
          refine j_bipush C 99 dX10_goesOn_72 (by decide) ?_
          refine j_icmp_ne C 81 dX10_goesOn_74 (by decide) (fun z => ?_) (fun z => ?_)
          · replace hw := hw.2 z
            refine j_iconst C 1 dX10_goesOn_81 (by decide) ?_
            exact j_iretR C hR () rfl dX10_goesOn_82 hw
          · replace hw := hw.1 z
            refine j_iconst C 0 dX10_goesOn_77 (by decide) ?_
            refine j_goto C 82 dX10_goesOn_78 (by decide) ?_
            exact j_iretR C hR () rfl dX10_goesOn_82 hw
        · replace hw := hw.2 z8
          by_cases z9 : r4 = 4
          · replace hw := hw.1 z9
            refine j_tabIn (off := 55) C 4 83 dX10_goesOn_28 z9 (by decide) (by decide) (by decide) (by decide) ?_
            refine j_iload_n C 4 dX10_goesOn_83 rfl ?_
            refine j_iconst C 2 dX10_goesOn_84 (by decide) ?_
            refine j_idiv C dX10_goesOn_85 (by decide) ?_
            refine j_iconst C 2 dX10_goesOn_86 (by decide) ?_
            refine j_iadd C dX10_goesOn_87 ?_
            exact j_iretR C hR () rfl dX10_goesOn_88 hw
          · replace hw := hw.2 z9
            by_cases z10 : r4 = 5
            · replace hw := hw.1 z10
              refine j_tabIn (off := 61) C 5 89 dX10_goesOn_28 z10 (by decide) (by decide) (by decide) (by decide) ?_
              refine j_aload_n C 2 dX10_goesOn_89 rfl ?_
              refine j_iload_n C 3 dX10_goesOn_90 rfl ?_
              refine j_iconst C 3 dX10_goesOn_91 (by decide) ?_
              refine j_ciZ C (jr_V C lkV_X10_45 (c_X10_it am m kp wa fo ta bo so ce ik td tk bg aa vl bd a1 3 hw) ⟨rfl, rfl, by decide, by decide, by decide, by decide⟩ [0, 1, 2, 3, 4, 5, 6, 7, 8] (by decide) rfl (fx_ro C) 0 10 rfl rfl rfl rfl (Nat.le_of_ble_eq_true rfl) dX10_goesOn_92) (fun r5 u5 hw => ?_)
              refine j_bipush C 10 dX10_goesOn_95 (by decide) ?_
              refine j_icmp_le C 107 dX10_goesOn_97 (by decide) (fun z => ?_) (fun z => ?_)
              · replace hw := hw.1 z
                refine j_iload C 0 dX10_goesOn_107 rfl ?_
                exact j_iretR C hR () rfl dX10_goesOn_109 hw
              · replace hw := hw.2 z
                refine j_iconst C 2 dX10_goesOn_100 (by decide) ?_
                refine j_iload C 0 dX10_goesOn_101 rfl ?_
                refine j_imul C dX10_goesOn_103 ?_
                refine j_goto C 109 dX10_goesOn_104 (by decide) ?_
                exact j_iretR C hR () rfl dX10_goesOn_109 hw
            · replace hw := hw.2 z10
              refine j_tabOut C 110 dX10_goesOn_28 (by have qz6 := lv_neT z6 (show (1 : Int32).toInt = 1 from rfl); have qz7 := lv_neT z7 (show (2 : Int32).toInt = 2 from rfl); have qz8 := lv_neT z8 (show (3 : Int32).toInt = 3 from rfl); have qz9 := lv_neT z9 (show (4 : Int32).toInt = 4 from rfl); have qz10 := lv_neT z10 (show (5 : Int32).toInt = 5 from rfl); omega) (by decide) ?_
              refine j_iload_n C 4 dX10_goesOn_110 rfl ?_
              exact j_iretR C hR () rfl dX10_goesOn_111 hw
def wp_X10_tires (m : Nat → Int32)  (a1 : Int32) (Q : (Int32) → Prop) : Prop := wp_X10_it m a1 0 (fun r1 => (r1 = 1 → Q 2) ∧ (¬ (r1 = 1) → (r1 = 2 → Q 1) ∧ (¬ (r1 = 2) → (r1 = 3 → Q 0) ∧ (¬ (r1 = 3) → (r1 = 4 → Q 2) ∧ (¬ (r1 = 4) → (r1 = 5 → Q 0) ∧ (¬ (r1 = 5) → Q 1))))))
set_option maxRecDepth 100000 in
set_option maxHeartbeats 8000000 in
theorem c_X10_tires {l : Launch} {D : va_G} {ca : Nat → ClassId} {sd : Nat → Nat}  (am : Nat → Nat) (m : Nat → Int32) (kp : Nat → Int32) (wa : Nat → Int32) (fo : Nat → Int32) (ta : Nat → Int32) (bo : Nat → Int32) (so : Nat → Int32) (ce : Nat → Int64) (ik : Int32) (td : Int32) (tk : Int32) (bg : Int32) (aa : Int32) (vl : Int32) (bd : Int32)  (a1 : Int32)  {Q : (Int32) → Prop} (hw : wp_X10_tires m  a1 Q) : Cn l D ca sd yX10_tires cX10_tires 2 (some .int) { frames := 1, cells := 0, slots := 0, locals := 22 } [.ref (am 0), .int a1] (wM ca am m kp wa fo ta bo so ce ik td tk bg aa vl bd) [] 0 0 (Ri D (fun (r : Int32) (u : Unit) => Q r ) (fun _ => [])) := by
  refine cn_ofR (by decide) (Nat.le_of_ble_eq_true rfl) (fun k C hR => ?_)
  have C : Cx D ca sd cX10_tires RX10 (some .int) { frames := 1, cells := 0, slots := 0, locals := 22 } k 2 := C
  unfold wp_X10_tires at hw
  show J l D k 2 0 0 0 (wM ca am m kp wa fo ta bo so ce ik td tk bg aa vl bd) [(0, .ref (am 0)), (1, .int a1)] []
  refine j_aload_n C 0 dX10_tires_0 rfl ?_
  refine j_iload_n C 1 dX10_tires_1 rfl ?_
  refine j_iconst C 0 dX10_tires_2 (by decide) ?_
  refine j_ciZ C (jr_V C lkV_X10_45 (c_X10_it am m kp wa fo ta bo so ce ik td tk bg aa vl bd a1 0 hw) ⟨rfl, rfl, by decide, by decide, by decide, by decide⟩ [0, 1, 2, 3, 4, 5, 6, 7, 8] (by decide) rfl (fx_ro C) 0 10 rfl rfl rfl rfl (Nat.le_of_ble_eq_true rfl) dX10_tires_3) (fun r1 u1 hw => ?_)
  by_cases z1 : r1 = 1
  · replace hw := hw.1 z1
    refine j_tabIn (off := 34) C 1 40 dX10_tires_6 z1 (by decide) (by decide) (by decide) (by decide) ?_
    refine j_iconst C 2 dX10_tires_40 (by decide) ?_
    exact j_iretR C hR () rfl dX10_tires_41 hw
  · replace hw := hw.2 z1
    by_cases z2 : r1 = 2
    · replace hw := hw.1 z2
      refine j_tabIn (off := 38) C 2 44 dX10_tires_6 z2 (by decide) (by decide) (by decide) (by decide) ?_
      refine j_iconst C 1 dX10_tires_44 (by decide) ?_
      exact j_iretR C hR () rfl dX10_tires_45 hw
    · replace hw := hw.2 z2
      by_cases z3 : r1 = 3
      · replace hw := hw.1 z3
        refine j_tabIn (off := 36) C 3 42 dX10_tires_6 z3 (by decide) (by decide) (by decide) (by decide) ?_
        refine j_iconst C 0 dX10_tires_42 (by decide) ?_
        exact j_iretR C hR () rfl dX10_tires_43 hw
      · replace hw := hw.2 z3
        by_cases z4 : r1 = 4
        · replace hw := hw.1 z4
          refine j_tabIn (off := 34) C 4 40 dX10_tires_6 z4 (by decide) (by decide) (by decide) (by decide) ?_
          refine j_iconst C 2 dX10_tires_40 (by decide) ?_
          exact j_iretR C hR () rfl dX10_tires_41 hw
        · replace hw := hw.2 z4
          by_cases z5 : r1 = 5
          · replace hw := hw.1 z5
            refine j_tabIn (off := 36) C 5 42 dX10_tires_6 z5 (by decide) (by decide) (by decide) (by decide) ?_
            refine j_iconst C 0 dX10_tires_42 (by decide) ?_
            exact j_iretR C hR () rfl dX10_tires_43 hw
          · replace hw := hw.2 z5
            refine j_tabOut C 44 dX10_tires_6 (by have qz1 := lv_neT z1 (show (1 : Int32).toInt = 1 from rfl); have qz2 := lv_neT z2 (show (2 : Int32).toInt = 2 from rfl); have qz3 := lv_neT z3 (show (3 : Int32).toInt = 3 from rfl); have qz4 := lv_neT z4 (show (4 : Int32).toInt = 4 from rfl); have qz5 := lv_neT z5 (show (5 : Int32).toInt = 5 from rfl); omega) (by decide) ?_
            refine j_iconst C 1 dX10_tires_44 (by decide) ?_
            exact j_iretR C hR () rfl dX10_tires_45 hw
def wp_X10_bids (m : Nat → Int32)  (a1 : Int32) (a2 : Int32) (Q : (Int32) → Prop) : Prop := wp_X10_it m a1 1 (fun r1 => (r1 ≤ 70 → wp_X10_it m a1 0 (fun r2 => (r2 = 1 → Q a2) ∧ (¬ (r2 = 1) → (r2 = 2 → Q (2 * a2)) ∧ (¬ (r2 = 2) → (r2 = 3 → Q (20 - a2)) ∧ (¬ (r2 = 3) → (r2 = 4 → wp_X10_it m a1 3 (fun r3 => Q (a2 + (r3 / 10)))) ∧ (¬ (r2 = 4) → (r2 = 5 → Q (2 * a2)) ∧ (¬ (r2 = 5) → Q (2 * a2)))))))) ∧ (¬ (r1 ≤ 70) → wp_X10_it m a1 0 (fun r4 => (r4 = 1 → Q a2) ∧ (¬ (r4 = 1) → (r4 = 2 → Q (3 * a2)) ∧ (¬ (r4 = 2) → (r4 = 3 → Q (20 - a2)) ∧ (¬ (r4 = 3) → (r4 = 4 → wp_X10_it m a1 3 (fun r5 => Q (a2 + (r5 / 10)))) ∧ (¬ (r4 = 4) → (r4 = 5 → Q (3 * a2)) ∧ (¬ (r4 = 5) → Q (2 * a2)))))))))
set_option maxRecDepth 100000 in
set_option maxHeartbeats 8000000 in
theorem c_X10_bids {l : Launch} {D : va_G} {ca : Nat → ClassId} {sd : Nat → Nat}  (am : Nat → Nat) (m : Nat → Int32) (kp : Nat → Int32) (wa : Nat → Int32) (fo : Nat → Int32) (ta : Nat → Int32) (bo : Nat → Int32) (so : Nat → Int32) (ce : Nat → Int64) (ik : Int32) (td : Int32) (tk : Int32) (bg : Int32) (aa : Int32) (vl : Int32) (bd : Int32)  (a1 : Int32) (a2 : Int32)  {Q : (Int32) → Prop} (hw : wp_X10_bids m  a1 a2 Q) : Cn l D ca sd yX10_bids cX10_bids 4 (some .int) { frames := 1, cells := 0, slots := 0, locals := 22 } [.ref (am 0), .int a1, .int a2] (wM ca am m kp wa fo ta bo so ce ik td tk bg aa vl bd) [] 0 0 (Ri D (fun (r : Int32) (u : Unit) => Q r ) (fun _ => [])) := by
  refine cn_ofR (by decide) (Nat.le_of_ble_eq_true rfl) (fun k C hR => ?_)
  have C : Cx D ca sd cX10_bids RX10 (some .int) { frames := 1, cells := 0, slots := 0, locals := 22 } k 4 := C
  unfold wp_X10_bids at hw
  show J l D k 4 0 0 0 (wM ca am m kp wa fo ta bo so ce ik td tk bg aa vl bd) [(0, .ref (am 0)), (1, .int a1), (2, .int a2)] []
  refine j_aload_n C 0 dX10_bids_0 rfl ?_
  refine j_iload_n C 1 dX10_bids_1 rfl ?_
  refine j_iconst C 1 dX10_bids_2 (by decide) ?_
  refine j_ciZ C (jr_V C lkV_X10_45 (c_X10_it am m kp wa fo ta bo so ce ik td tk bg aa vl bd a1 1 hw) ⟨rfl, rfl, by decide, by decide, by decide, by decide⟩ [0, 1, 2, 3, 4, 5, 6, 7, 8] (by decide) rfl (fx_ro C) 0 10 rfl rfl rfl rfl (Nat.le_of_ble_eq_true rfl) dX10_bids_3) (fun r1 u1 hw => ?_)
  refine j_bipush C 70 dX10_bids_6 (by decide) ?_
  refine j_icmp_le C 17 dX10_bids_8 (by decide) (fun z => ?_) (fun z => ?_)
  · replace hw := hw.1 z
    refine j_iconst C 2 dX10_bids_17 (by decide) ?_
    refine j_iload_n C 2 dX10_bids_18 rfl ?_
    refine j_imul C dX10_bids_19 ?_
    refine j_istore_n C [(3, .int (2 * a2)), (0, .ref (am 0)), (1, .int a1), (2, .int a2)] dX10_bids_20 (by decide) rfl ?_
    refine j_aload_n C 1 dX10_bids_21 rfl ?_
    refine j_iload_n C 2 dX10_bids_22 rfl ?_
    refine j_iconst C 0 dX10_bids_23 (by decide) ?_
    refine j_ciZ C (jr_V C lkV_X10_45 (c_X10_it am m kp wa fo ta bo so ce ik td tk bg aa vl bd a1 0 hw) ⟨rfl, rfl, by decide, by decide, by decide, by decide⟩ [0, 1, 2, 3, 4, 5, 6, 7, 8] (by decide) rfl (fx_ro C) 0 10 rfl rfl rfl rfl (Nat.le_of_ble_eq_true rfl) dX10_bids_24) (fun r2 u2 hw => ?_)
    by_cases z1 : r2 = 1
    · replace hw := hw.1 z1
      refine j_tabIn (off := 33) C 1 60 dX10_bids_27 z1 (by decide) (by decide) (by decide) (by decide) ?_
      refine j_iload_n C 3 dX10_bids_60 rfl ?_
      exact j_iretR C hR () rfl dX10_bids_61 hw
    · replace hw := hw.2 z1
      by_cases z2 : r2 = 2
      · replace hw := hw.1 z2
        refine j_tabIn (off := 35) C 2 62 dX10_bids_27 z2 (by decide) (by decide) (by decide) (by decide) ?_
        refine j_iload_n C 0 dX10_bids_62 rfl ?_
        exact j_iretR C hR () rfl dX10_bids_63 hw
      · replace hw := hw.2 z2
        by_cases z3 : r2 = 3
        · replace hw := hw.1 z3
          refine j_tabIn (off := 37) C 3 64 dX10_bids_27 z3 (by decide) (by decide) (by decide) (by decide) ?_
          refine j_bipush C 20 dX10_bids_64 (by decide) ?_
          refine j_iload_n C 3 dX10_bids_66 rfl ?_
          refine j_isub C dX10_bids_67 ?_
          exact j_iretR C hR () rfl dX10_bids_68 hw
        · replace hw := hw.2 z3
          by_cases z4 : r2 = 4
          · replace hw := hw.1 z4
            refine j_tabIn (off := 42) C 4 69 dX10_bids_27 z4 (by decide) (by decide) (by decide) (by decide) ?_
            refine j_iload_n C 3 dX10_bids_69 rfl ?_
            refine j_aload_n C 1 dX10_bids_70 rfl ?_
            refine j_iload_n C 2 dX10_bids_71 rfl ?_
            refine j_iconst C 3 dX10_bids_72 (by decide) ?_
            refine j_ciZ C (jr_V C lkV_X10_45 (c_X10_it am m kp wa fo ta bo so ce ik td tk bg aa vl bd a1 3 hw) ⟨rfl, rfl, by decide, by decide, by decide, by decide⟩ [0, 1, 2, 3, 4, 5, 6, 7, 8] (by decide) rfl (fx_ro C) 0 10 rfl rfl rfl rfl (Nat.le_of_ble_eq_true rfl) dX10_bids_73) (fun r3 u3 hw => ?_)
            refine j_bipush C 10 dX10_bids_76 (by decide) ?_
            refine j_idiv C dX10_bids_78 (by decide) ?_
            refine j_iadd C dX10_bids_79 ?_
            exact j_iretR C hR () rfl dX10_bids_80 hw
          · replace hw := hw.2 z4
            by_cases z5 : r2 = 5
            · replace hw := hw.1 z5
              refine j_tabIn (off := 35) C 5 62 dX10_bids_27 z5 (by decide) (by decide) (by decide) (by decide) ?_
              refine j_iload_n C 0 dX10_bids_62 rfl ?_
              exact j_iretR C hR () rfl dX10_bids_63 hw
            · replace hw := hw.2 z5
              refine j_tabOut C 81 dX10_bids_27 (by have qz1 := lv_neT z1 (show (1 : Int32).toInt = 1 from rfl); have qz2 := lv_neT z2 (show (2 : Int32).toInt = 2 from rfl); have qz3 := lv_neT z3 (show (3 : Int32).toInt = 3 from rfl); have qz4 := lv_neT z4 (show (4 : Int32).toInt = 4 from rfl); have qz5 := lv_neT z5 (show (5 : Int32).toInt = 5 from rfl); omega) (by decide) ?_
              refine j_iconst C 2 dX10_bids_81 (by decide) ?_
              refine j_iload_n C 3 dX10_bids_82 rfl ?_
              refine j_imul C dX10_bids_83 ?_
              exact j_iretR C hR () rfl dX10_bids_84 hw
  · replace hw := hw.2 z
    refine j_iconst C 3 dX10_bids_11 (by decide) ?_
    refine j_iload_n C 2 dX10_bids_12 rfl ?_
    refine j_imul C dX10_bids_13 ?_
    refine j_goto C 20 dX10_bids_14 (by decide) ?_
    refine j_istore_n C [(3, .int (3 * a2)), (0, .ref (am 0)), (1, .int a1), (2, .int a2)] dX10_bids_20 (by decide) rfl ?_
    refine j_aload_n C 1 dX10_bids_21 rfl ?_
    refine j_iload_n C 2 dX10_bids_22 rfl ?_
    refine j_iconst C 0 dX10_bids_23 (by decide) ?_
    refine j_ciZ C (jr_V C lkV_X10_45 (c_X10_it am m kp wa fo ta bo so ce ik td tk bg aa vl bd a1 0 hw) ⟨rfl, rfl, by decide, by decide, by decide, by decide⟩ [0, 1, 2, 3, 4, 5, 6, 7, 8] (by decide) rfl (fx_ro C) 0 10 rfl rfl rfl rfl (Nat.le_of_ble_eq_true rfl) dX10_bids_24) (fun r4 u4 hw => ?_)
    by_cases z6 : r4 = 1
    · replace hw := hw.1 z6
      refine j_tabIn (off := 33) C 1 60 dX10_bids_27 z6 (by decide) (by decide) (by decide) (by decide) ?_
      refine j_iload_n C 3 dX10_bids_60 rfl ?_
      exact j_iretR C hR () rfl dX10_bids_61 hw
    · replace hw := hw.2 z6
      by_cases z7 : r4 = 2
      · replace hw := hw.1 z7
        refine j_tabIn (off := 35) C 2 62 dX10_bids_27 z7 (by decide) (by decide) (by decide) (by decide) ?_
        refine j_iload_n C 0 dX10_bids_62 rfl ?_
        exact j_iretR C hR () rfl dX10_bids_63 hw
      · replace hw := hw.2 z7
        by_cases z8 : r4 = 3
        · replace hw := hw.1 z8
          refine j_tabIn (off := 37) C 3 64 dX10_bids_27 z8 (by decide) (by decide) (by decide) (by decide) ?_
          refine j_bipush C 20 dX10_bids_64 (by decide) ?_
          refine j_iload_n C 3 dX10_bids_66 rfl ?_
          refine j_isub C dX10_bids_67 ?_
          exact j_iretR C hR () rfl dX10_bids_68 hw
        · replace hw := hw.2 z8
          by_cases z9 : r4 = 4
          · replace hw := hw.1 z9
            refine j_tabIn (off := 42) C 4 69 dX10_bids_27 z9 (by decide) (by decide) (by decide) (by decide) ?_
            refine j_iload_n C 3 dX10_bids_69 rfl ?_
            refine j_aload_n C 1 dX10_bids_70 rfl ?_
            refine j_iload_n C 2 dX10_bids_71 rfl ?_
            refine j_iconst C 3 dX10_bids_72 (by decide) ?_
            refine j_ciZ C (jr_V C lkV_X10_45 (c_X10_it am m kp wa fo ta bo so ce ik td tk bg aa vl bd a1 3 hw) ⟨rfl, rfl, by decide, by decide, by decide, by decide⟩ [0, 1, 2, 3, 4, 5, 6, 7, 8] (by decide) rfl (fx_ro C) 0 10 rfl rfl rfl rfl (Nat.le_of_ble_eq_true rfl) dX10_bids_73) (fun r5 u5 hw => ?_)
            refine j_bipush C 10 dX10_bids_76 (by decide) ?_
            refine j_idiv C dX10_bids_78 (by decide) ?_
            refine j_iadd C dX10_bids_79 ?_
            exact j_iretR C hR () rfl dX10_bids_80 hw
          · replace hw := hw.2 z9
            by_cases z10 : r4 = 5
            · replace hw := hw.1 z10
              refine j_tabIn (off := 35) C 5 62 dX10_bids_27 z10 (by decide) (by decide) (by decide) (by decide) ?_
              refine j_iload_n C 0 dX10_bids_62 rfl ?_
              exact j_iretR C hR () rfl dX10_bids_63 hw
            · replace hw := hw.2 z10
              refine j_tabOut C 81 dX10_bids_27 (by have qz6 := lv_neT z6 (show (1 : Int32).toInt = 1 from rfl); have qz7 := lv_neT z7 (show (2 : Int32).toInt = 2 from rfl); have qz8 := lv_neT z8 (show (3 : Int32).toInt = 3 from rfl); have qz9 := lv_neT z9 (show (4 : Int32).toInt = 4 from rfl); have qz10 := lv_neT z10 (show (5 : Int32).toInt = 5 from rfl); omega) (by decide) ?_
              refine j_iconst C 2 dX10_bids_81 (by decide) ?_
              refine j_iload_n C 3 dX10_bids_82 rfl ?_
              refine j_imul C dX10_bids_83 ?_
              exact j_iretR C hR () rfl dX10_bids_84 hw
def wp_X10_asked (m : Nat → Int32)  (a1 : Int32) (Q : (Int32) → Prop) : Prop := wp_X10_it m a1 0 (fun r1 => (r1 = 1 → wp_X10_it m a1 3 (fun r2 => (7 ≤ r2 → Q 1) ∧ (¬ (7 ≤ r2) → wp_X10_it m a1 3 (fun r3 => Q (8 - r3))))) ∧ (¬ (r1 = 1) → (r1 = 2 → Q 8) ∧ (¬ (r1 = 2) → (r1 = 3 → Q 1) ∧ (¬ (r1 = 3) → (r1 = 4 → wp_X10_it m a1 3 (fun r4 => (7 ≤ r4 → Q 1) ∧ (¬ (7 ≤ r4) → wp_X10_it m a1 3 (fun r5 => Q (8 - r5))))) ∧ (¬ (r1 = 4) → (r1 = 5 → wp_X10_it m a1 1 (fun r6 => Q (8 + (r6 / 10)))) ∧ (¬ (r1 = 5) → Q 8))))))
set_option maxRecDepth 100000 in
set_option maxHeartbeats 8000000 in
theorem c_X10_asked {l : Launch} {D : va_G} {ca : Nat → ClassId} {sd : Nat → Nat}  (am : Nat → Nat) (m : Nat → Int32) (kp : Nat → Int32) (wa : Nat → Int32) (fo : Nat → Int32) (ta : Nat → Int32) (bo : Nat → Int32) (so : Nat → Int32) (ce : Nat → Int64) (ik : Int32) (td : Int32) (tk : Int32) (bg : Int32) (aa : Int32) (vl : Int32) (bd : Int32)  (a1 : Int32)  {Q : (Int32) → Prop} (hw : wp_X10_asked m  a1 Q) : Cn l D ca sd yX10_asked cX10_asked 2 (some .int) { frames := 1, cells := 0, slots := 0, locals := 22 } [.ref (am 0), .int a1] (wM ca am m kp wa fo ta bo so ce ik td tk bg aa vl bd) [] 0 0 (Ri D (fun (r : Int32) (u : Unit) => Q r ) (fun _ => [])) := by
  refine cn_ofR (by decide) (Nat.le_of_ble_eq_true rfl) (fun k C hR => ?_)
  have C : Cx D ca sd cX10_asked RX10 (some .int) { frames := 1, cells := 0, slots := 0, locals := 22 } k 2 := C
  unfold wp_X10_asked at hw
  show J l D k 2 0 0 0 (wM ca am m kp wa fo ta bo so ce ik td tk bg aa vl bd) [(0, .ref (am 0)), (1, .int a1)] []
  refine j_aload_n C 0 dX10_asked_0 rfl ?_
  refine j_iload_n C 1 dX10_asked_1 rfl ?_
  refine j_iconst C 0 dX10_asked_2 (by decide) ?_
  refine j_ciZ C (jr_V C lkV_X10_45 (c_X10_it am m kp wa fo ta bo so ce ik td tk bg aa vl bd a1 0 hw) ⟨rfl, rfl, by decide, by decide, by decide, by decide⟩ [0, 1, 2, 3, 4, 5, 6, 7, 8] (by decide) rfl (fx_ro C) 0 10 rfl rfl rfl rfl (Nat.le_of_ble_eq_true rfl) dX10_asked_3) (fun r1 u1 hw => ?_)
  by_cases z1 : r1 = 1
  · replace hw := hw.1 z1
    refine j_tabIn (off := 34) C 1 40 dX10_asked_6 z1 (by decide) (by decide) (by decide) (by decide) ?_
    refine j_aload_n C 0 dX10_asked_40 rfl ?_
    refine j_iload_n C 1 dX10_asked_41 rfl ?_
    refine j_iconst C 3 dX10_asked_42 (by decide) ?_
    refine j_ciZ C (jr_V C lkV_X10_45 (c_X10_it am m kp wa fo ta bo so ce ik td tk bg aa vl bd a1 3 hw) ⟨rfl, rfl, by decide, by decide, by decide, by decide⟩ [0, 1, 2, 3, 4, 5, 6, 7, 8] (by decide) rfl (fx_ro C) 0 10 rfl rfl rfl rfl (Nat.le_of_ble_eq_true rfl) dX10_asked_43) (fun r2 u2 hw => ?_)
    refine j_bipush C 7 dX10_asked_46 (by decide) ?_
    refine j_icmp_ge C 63 dX10_asked_48 (by decide) (fun z => ?_) (fun z => ?_)
    · replace hw := hw.1 z
      refine j_iconst C 1 dX10_asked_63 (by decide) ?_
      exact j_iretR C hR () rfl dX10_asked_64 hw
    · replace hw := hw.2 z
      refine j_bipush C 8 dX10_asked_51 (by decide) ?_
      refine j_aload_n C 0 dX10_asked_53 rfl ?_
      refine j_iload_n C 1 dX10_asked_54 rfl ?_
      refine j_iconst C 3 dX10_asked_55 (by decide) ?_
      refine j_ciZ C (jr_V C lkV_X10_45 (c_X10_it am m kp wa fo ta bo so ce ik td tk bg aa vl bd a1 3 hw) ⟨rfl, rfl, by decide, by decide, by decide, by decide⟩ [0, 1, 2, 3, 4, 5, 6, 7, 8] (by decide) rfl (fx_ro C) 0 10 rfl rfl rfl rfl (Nat.le_of_ble_eq_true rfl) dX10_asked_56) (fun r3 u3 hw => ?_)
      refine j_isub C dX10_asked_59 ?_
      refine j_goto C 64 dX10_asked_60 (by decide) ?_
      exact j_iretR C hR () rfl dX10_asked_64 hw
  · replace hw := hw.2 z1
    by_cases z2 : r1 = 2
    · replace hw := hw.1 z2
      refine j_tabIn (off := 74) C 2 80 dX10_asked_6 z2 (by decide) (by decide) (by decide) (by decide) ?_
      refine j_bipush C 8 dX10_asked_80 (by decide) ?_
      exact j_iretR C hR () rfl dX10_asked_82 hw
    · replace hw := hw.2 z2
      by_cases z3 : r1 = 3
      · replace hw := hw.1 z3
        refine j_tabIn (off := 59) C 3 65 dX10_asked_6 z3 (by decide) (by decide) (by decide) (by decide) ?_
        refine j_iconst C 1 dX10_asked_65 (by decide) ?_
        exact j_iretR C hR () rfl dX10_asked_66 hw
      · replace hw := hw.2 z3
        by_cases z4 : r1 = 4
        · replace hw := hw.1 z4
          refine j_tabIn (off := 34) C 4 40 dX10_asked_6 z4 (by decide) (by decide) (by decide) (by decide) ?_
          refine j_aload_n C 0 dX10_asked_40 rfl ?_
          refine j_iload_n C 1 dX10_asked_41 rfl ?_
          refine j_iconst C 3 dX10_asked_42 (by decide) ?_
          refine j_ciZ C (jr_V C lkV_X10_45 (c_X10_it am m kp wa fo ta bo so ce ik td tk bg aa vl bd a1 3 hw) ⟨rfl, rfl, by decide, by decide, by decide, by decide⟩ [0, 1, 2, 3, 4, 5, 6, 7, 8] (by decide) rfl (fx_ro C) 0 10 rfl rfl rfl rfl (Nat.le_of_ble_eq_true rfl) dX10_asked_43) (fun r4 u4 hw => ?_)
          refine j_bipush C 7 dX10_asked_46 (by decide) ?_
          refine j_icmp_ge C 63 dX10_asked_48 (by decide) (fun z => ?_) (fun z => ?_)
          · replace hw := hw.1 z
            refine j_iconst C 1 dX10_asked_63 (by decide) ?_
            exact j_iretR C hR () rfl dX10_asked_64 hw
          · replace hw := hw.2 z
            refine j_bipush C 8 dX10_asked_51 (by decide) ?_
            refine j_aload_n C 0 dX10_asked_53 rfl ?_
            refine j_iload_n C 1 dX10_asked_54 rfl ?_
            refine j_iconst C 3 dX10_asked_55 (by decide) ?_
            refine j_ciZ C (jr_V C lkV_X10_45 (c_X10_it am m kp wa fo ta bo so ce ik td tk bg aa vl bd a1 3 hw) ⟨rfl, rfl, by decide, by decide, by decide, by decide⟩ [0, 1, 2, 3, 4, 5, 6, 7, 8] (by decide) rfl (fx_ro C) 0 10 rfl rfl rfl rfl (Nat.le_of_ble_eq_true rfl) dX10_asked_56) (fun r5 u5 hw => ?_)
            refine j_isub C dX10_asked_59 ?_
            refine j_goto C 64 dX10_asked_60 (by decide) ?_
            exact j_iretR C hR () rfl dX10_asked_64 hw
        · replace hw := hw.2 z4
          by_cases z5 : r1 = 5
          · replace hw := hw.1 z5
            refine j_tabIn (off := 61) C 5 67 dX10_asked_6 z5 (by decide) (by decide) (by decide) (by decide) ?_
            refine j_bipush C 8 dX10_asked_67 (by decide) ?_
            refine j_aload_n C 0 dX10_asked_69 rfl ?_
            refine j_iload_n C 1 dX10_asked_70 rfl ?_
            refine j_iconst C 1 dX10_asked_71 (by decide) ?_
            refine j_ciZ C (jr_V C lkV_X10_45 (c_X10_it am m kp wa fo ta bo so ce ik td tk bg aa vl bd a1 1 hw) ⟨rfl, rfl, by decide, by decide, by decide, by decide⟩ [0, 1, 2, 3, 4, 5, 6, 7, 8] (by decide) rfl (fx_ro C) 0 10 rfl rfl rfl rfl (Nat.le_of_ble_eq_true rfl) dX10_asked_72) (fun r6 u6 hw => ?_)
            refine j_bipush C 10 dX10_asked_75 (by decide) ?_
            refine j_idiv C dX10_asked_77 (by decide) ?_
            refine j_iadd C dX10_asked_78 ?_
            exact j_iretR C hR () rfl dX10_asked_79 hw
          · replace hw := hw.2 z5
            refine j_tabOut C 80 dX10_asked_6 (by have qz1 := lv_neT z1 (show (1 : Int32).toInt = 1 from rfl); have qz2 := lv_neT z2 (show (2 : Int32).toInt = 2 from rfl); have qz3 := lv_neT z3 (show (3 : Int32).toInt = 3 from rfl); have qz4 := lv_neT z4 (show (4 : Int32).toInt = 4 from rfl); have qz5 := lv_neT z5 (show (5 : Int32).toInt = 5 from rfl); omega) (by decide) ?_
            refine j_bipush C 8 dX10_asked_80 (by decide) ?_
            exact j_iretR C hR () rfl dX10_asked_82 hw
def wp_X10_comesAs (m : Nat → Int32)  (a1 : Int32) (a2 : Int32) (a3 : Int32) (a4 : Int32) (Q : (Int32) → (Nat → Int32) → Prop) : Prop := vp_in 1 52 ∧ (vp_in 1 52 ∧ (vp_in 1 52 ∧ (wp_X10_put (upd m ((1 : Int32).toNatClampNeg) ((m ((1 : Int32).toNatClampNeg)) + 1)) (m ((1 : Int32).toNatClampNeg)) 0 a1 (fun c4_0 => wp_X10_put c4_0 (m ((1 : Int32).toNatClampNeg)) 1 a2 (fun c5_0 => wp_X10_put c5_0 (m ((1 : Int32).toNatClampNeg)) 2 a3 (fun c6_0 => wp_X10_put c6_0 (m ((1 : Int32).toNatClampNeg)) 3 a4 (fun c7_0 => Q (m ((1 : Int32).toNatClampNeg)) c7_0)))))))
set_option maxRecDepth 100000 in
set_option maxHeartbeats 8000000 in
theorem c_X10_comesAs {l : Launch} {D : va_G} {ca : Nat → ClassId} {sd : Nat → Nat}  (am : Nat → Nat) (m : Nat → Int32) (kp : Nat → Int32) (wa : Nat → Int32) (fo : Nat → Int32) (ta : Nat → Int32) (bo : Nat → Int32) (so : Nat → Int32) (ce : Nat → Int64) (ik : Int32) (td : Int32) (tk : Int32) (bg : Int32) (aa : Int32) (vl : Int32) (bd : Int32)  (a1 : Int32) (a2 : Int32) (a3 : Int32) (a4 : Int32)  {Q : (Int32) → (Nat → Int32) → Prop} (hw : wp_X10_comesAs m  a1 a2 a3 a4 Q) : Cn l D ca sd yX10_comesAs cX10_comesAs 6 (some .int) { frames := 1, cells := 0, slots := 0, locals := 23 } [.ref (am 0), .int a1, .int a2, .int a3, .int a4] (wM ca am m kp wa fo ta bo so ce ik td tk bg aa vl bd) (wM ca am m kp wa fo ta bo so ce ik td tk bg aa vl bd) 0 0 (Ri D (fun (r : Int32) (u : (Nat → Int32)) => Q r u) (fun u => (wM ca am u kp wa fo ta bo so ce ik td tk bg aa vl bd))) := by
  refine cn_of (by decide) (Nat.le_of_ble_eq_true rfl) (fun k C hR hB _ => ?_)
  have C : Cx D ca sd cX10_comesAs RX10 (some .int) { frames := 1, cells := 0, slots := 0, locals := 23 } k 6 := C
  unfold wp_X10_comesAs at hw
  show J l D k 6 0 0 0 (wM ca am m kp wa fo ta bo so ce ik td tk bg aa vl bd) [(0, .ref (am 0)), (1, .int a1), (2, .int a2), (3, .int a3), (4, .int a4)] []
  refine j_aload_n C 0 dX10_comesAs_0 rfl ?_
  refine j_get C fl_X10_9_10 0 dX10_comesAs_1 rfl rfl ?_
  refine j_iconst C 1 dX10_comesAs_4 (by decide) ?_
  have hi1 := hw.1
  replace hw := hw.2
  refine j_iald C 1 dX10_comesAs_5 rfl hi1 ?_
  refine j_istore C [(5, .int (m ((1 : Int32).toNatClampNeg))), (0, .ref (am 0)), (1, .int a1), (2, .int a2), (3, .int a3), (4, .int a4)] dX10_comesAs_6 (by decide) rfl ?_
  refine j_aload_n C 1 dX10_comesAs_8 rfl ?_
  refine j_get C fl_X10_9_10 0 dX10_comesAs_9 rfl rfl ?_
  refine j_iconst C 1 dX10_comesAs_12 (by decide) ?_
  refine j_dup2 C dX10_comesAs_13 rfl rfl ?_
  have hi2 := hw.1
  replace hw := hw.2
  refine j_iald C 1 dX10_comesAs_14 rfl hi2 ?_
  refine j_iconst C 1 dX10_comesAs_15 (by decide) ?_
  refine j_iadd C dX10_comesAs_16 ?_
  have hi3 := hw.1
  replace hw := hw.2
  refine j_iast C hB 1 (wM ca am (upd m ((1 : Int32).toNatClampNeg) ((m ((1 : Int32).toNatClampNeg)) + 1)) kp wa fo ta bo so ce ik td tk bg aa vl bd) dX10_comesAs_17 rfl hi3 rfl ?_
  refine j_aload_n C 1 dX10_comesAs_18 rfl ?_
  refine j_iload C 0 dX10_comesAs_19 rfl ?_
  refine j_iconst C 0 dX10_comesAs_21 (by decide) ?_
  refine j_iload_n C 2 dX10_comesAs_22 rfl ?_
  refine j_cvT C hB 0 9 (fun u4 : (Nat → Int32) => (wM ca am u4 kp wa fo ta bo so ce ik td tk bg aa vl bd)) rfl (fun _ => rfl) (jr_V C lkV_X10_72 (c_X10_put am (upd m ((1 : Int32).toNatClampNeg) ((m ((1 : Int32).toNatClampNeg)) + 1)) kp wa fo ta bo so ce ik td tk bg aa vl bd (m ((1 : Int32).toNatClampNeg)) 0 a1 hw) ⟨rfl, rfl, by decide, by decide, by decide, by decide⟩ [0, 1, 2, 3, 4, 5, 6, 7, 8] (by decide) rfl (fx_rw C hB [0, 1, 2, 3, 4, 5, 6, 7, 8] rfl) 0 10 rfl rfl rfl rfl (Nat.le_of_ble_eq_true rfl) dX10_comesAs_23) (fun u4 hw => ?_)
  refine j_aload_n C 1 dX10_comesAs_26 rfl ?_
  refine j_iload C 0 dX10_comesAs_27 rfl ?_
  refine j_iconst C 1 dX10_comesAs_29 (by decide) ?_
  refine j_iload_n C 3 dX10_comesAs_30 rfl ?_
  refine j_cvT C hB 0 9 (fun u5 : (Nat → Int32) => (wM ca am u5 kp wa fo ta bo so ce ik td tk bg aa vl bd)) rfl (fun _ => rfl) (jr_V C lkV_X10_72 (c_X10_put am u4 kp wa fo ta bo so ce ik td tk bg aa vl bd (m ((1 : Int32).toNatClampNeg)) 1 a2 hw) ⟨rfl, rfl, by decide, by decide, by decide, by decide⟩ [0, 1, 2, 3, 4, 5, 6, 7, 8] (by decide) rfl (fx_rw C hB [0, 1, 2, 3, 4, 5, 6, 7, 8] rfl) 0 10 rfl rfl rfl rfl (Nat.le_of_ble_eq_true rfl) dX10_comesAs_31) (fun u5 hw => ?_)
  refine j_aload_n C 1 dX10_comesAs_34 rfl ?_
  refine j_iload C 0 dX10_comesAs_35 rfl ?_
  refine j_iconst C 2 dX10_comesAs_37 (by decide) ?_
  refine j_iload_n C 4 dX10_comesAs_38 rfl ?_
  refine j_cvT C hB 0 9 (fun u6 : (Nat → Int32) => (wM ca am u6 kp wa fo ta bo so ce ik td tk bg aa vl bd)) rfl (fun _ => rfl) (jr_V C lkV_X10_72 (c_X10_put am u5 kp wa fo ta bo so ce ik td tk bg aa vl bd (m ((1 : Int32).toNatClampNeg)) 2 a3 hw) ⟨rfl, rfl, by decide, by decide, by decide, by decide⟩ [0, 1, 2, 3, 4, 5, 6, 7, 8] (by decide) rfl (fx_rw C hB [0, 1, 2, 3, 4, 5, 6, 7, 8] rfl) 0 10 rfl rfl rfl rfl (Nat.le_of_ble_eq_true rfl) dX10_comesAs_39) (fun u6 hw => ?_)
  refine j_aload_n C 1 dX10_comesAs_42 rfl ?_
  refine j_iload C 0 dX10_comesAs_43 rfl ?_
  refine j_iconst C 3 dX10_comesAs_45 (by decide) ?_
  refine j_iload C 5 dX10_comesAs_46 rfl ?_
  refine j_cvT C hB 0 9 (fun u7 : (Nat → Int32) => (wM ca am u7 kp wa fo ta bo so ce ik td tk bg aa vl bd)) rfl (fun _ => rfl) (jr_V C lkV_X10_72 (c_X10_put am u6 kp wa fo ta bo so ce ik td tk bg aa vl bd (m ((1 : Int32).toNatClampNeg)) 3 a4 hw) ⟨rfl, rfl, by decide, by decide, by decide, by decide⟩ [0, 1, 2, 3, 4, 5, 6, 7, 8] (by decide) rfl (fx_rw C hB [0, 1, 2, 3, 4, 5, 6, 7, 8] rfl) 0 10 rfl rfl rfl rfl (Nat.le_of_ble_eq_true rfl) dX10_comesAs_48) (fun u7 hw => ?_)
  refine j_iload C 0 dX10_comesAs_51 rfl ?_
  exact j_iret C hB hR u7 rfl dX10_comesAs_53 hw rfl
def wp_X10_canLeave (m : Nat → Int32)  (a1 : Int32) (Q : (Int32) → Prop) : Prop := wp_X10_it m a1 2 (fun r1 => (r1 < 0 → Q 0) ∧ (¬ (r1 < 0) → wp_X10_isDone m a1 (fun r2 => (r2 = 0 → Q 1) ∧ (¬ (r2 = 0) → Q 0))))
set_option maxRecDepth 100000 in
set_option maxHeartbeats 8000000 in
theorem c_X10_canLeave {l : Launch} {D : va_G} {ca : Nat → ClassId} {sd : Nat → Nat}  (am : Nat → Nat) (m : Nat → Int32) (kp : Nat → Int32) (wa : Nat → Int32) (fo : Nat → Int32) (ta : Nat → Int32) (bo : Nat → Int32) (so : Nat → Int32) (ce : Nat → Int64) (ik : Int32) (td : Int32) (tk : Int32) (bg : Int32) (aa : Int32) (vl : Int32) (bd : Int32)  (a1 : Int32)  {Q : (Int32) → Prop} (hw : wp_X10_canLeave m  a1 Q) : Cn l D ca sd yX10_canLeave cX10_canLeave 2 (some .boolean) { frames := 2, cells := 0, slots := 0, locals := 43 } [.ref (am 0), .int a1] (wM ca am m kp wa fo ta bo so ce ik td tk bg aa vl bd) [] 0 0 (Ri D (fun (r : Int32) (u : Unit) => Q r ) (fun _ => [])) := by
  refine cn_ofR (by decide) (Nat.le_of_ble_eq_true rfl) (fun k C hR => ?_)
  have C : Cx D ca sd cX10_canLeave RX10 (some .boolean) { frames := 2, cells := 0, slots := 0, locals := 43 } k 2 := C
  unfold wp_X10_canLeave at hw
  show J l D k 2 0 0 0 (wM ca am m kp wa fo ta bo so ce ik td tk bg aa vl bd) [(0, .ref (am 0)), (1, .int a1)] []
  refine j_aload_n C 0 dX10_canLeave_0 rfl ?_
  refine j_iload_n C 1 dX10_canLeave_1 rfl ?_
  refine j_iconst C 2 dX10_canLeave_2 (by decide) ?_
  refine j_ciZ C (jr_V C lkV_X10_45 (c_X10_it am m kp wa fo ta bo so ce ik td tk bg aa vl bd a1 2 hw) ⟨rfl, rfl, by decide, by decide, by decide, by decide⟩ [0, 1, 2, 3, 4, 5, 6, 7, 8] (by decide) rfl (fx_ro C) 0 10 rfl rfl rfl rfl (Nat.le_of_ble_eq_true rfl) dX10_canLeave_3) (fun r1 u1 hw => ?_)
  refine j_if_lt C 21 dX10_canLeave_6 (by decide) (fun z => ?_) (fun z => ?_)
  · replace hw := hw.1 z
    refine j_iconst C 0 dX10_canLeave_21 (by decide) ?_
    exact j_zretR C hR (by decide) () rfl dX10_canLeave_22 hw
  · replace hw := hw.2 z
    refine j_aload_n C 0 dX10_canLeave_9 rfl ?_
    refine j_iload_n C 1 dX10_canLeave_10 rfl ?_
    refine j_ciZ C (jr_V C lkV_X10_60 (c_X10_isDone am m kp wa fo ta bo so ce ik td tk bg aa vl bd a1 hw) ⟨rfl, rfl, by decide, by decide, by decide, by decide⟩ [0, 1, 2, 3, 4, 5, 6, 7, 8] (by decide) rfl (fx_ro C) 0 10 rfl rfl rfl rfl (Nat.le_of_ble_eq_true rfl) dX10_canLeave_11) (fun r2 u2 hw => ?_)
    refine j_if_ne C 21 dX10_canLeave_14 (by decide) (fun z => ?_) (fun z => ?_)
    · replace hw := hw.2 z
      refine j_iconst C 0 dX10_canLeave_21 (by decide) ?_
      exact j_zretR C hR (by decide) () rfl dX10_canLeave_22 hw
    · replace hw := hw.1 z
      refine j_iconst C 1 dX10_canLeave_17 (by decide) ?_
      refine j_goto C 22 dX10_canLeave_18 (by decide) ?_
      exact j_zretR C hR (by decide) () rfl dX10_canLeave_22 hw
def wp_X10_leaves (m : Nat → Int32)  (a1 : Int32) (Q : (Int32) → (Nat → Int32) → Prop) : Prop := wp_X10_it m a1 2 (fun r1 => wp_X10_put m a1 2 (-1) (fun c2_0 => wp_X10_put c2_0 a1 3 0 (fun c3_0 => wp_X10_gets c3_0 r1 1 4 (fun c4_0 => Q r1 c4_0))))
set_option maxRecDepth 100000 in
set_option maxHeartbeats 8000000 in
theorem c_X10_leaves {l : Launch} {D : va_G} {ca : Nat → ClassId} {sd : Nat → Nat}  (am : Nat → Nat) (m : Nat → Int32) (kp : Nat → Int32) (wa : Nat → Int32) (fo : Nat → Int32) (ta : Nat → Int32) (bo : Nat → Int32) (so : Nat → Int32) (ce : Nat → Int64) (ik : Int32) (td : Int32) (tk : Int32) (bg : Int32) (aa : Int32) (vl : Int32) (bd : Int32)  (a1 : Int32)  {Q : (Int32) → (Nat → Int32) → Prop} (hw : wp_X10_leaves m  a1 Q) : Cn l D ca sd yX10_leaves cX10_leaves 3 (some .int) { frames := 1, cells := 0, slots := 0, locals := 23 } [.ref (am 0), .int a1] (wM ca am m kp wa fo ta bo so ce ik td tk bg aa vl bd) (wM ca am m kp wa fo ta bo so ce ik td tk bg aa vl bd) 0 0 (Ri D (fun (r : Int32) (u : (Nat → Int32)) => Q r u) (fun u => (wM ca am u kp wa fo ta bo so ce ik td tk bg aa vl bd))) := by
  refine cn_of (by decide) (Nat.le_of_ble_eq_true rfl) (fun k C hR hB _ => ?_)
  have C : Cx D ca sd cX10_leaves RX10 (some .int) { frames := 1, cells := 0, slots := 0, locals := 23 } k 3 := C
  unfold wp_X10_leaves at hw
  show J l D k 3 0 0 0 (wM ca am m kp wa fo ta bo so ce ik td tk bg aa vl bd) [(0, .ref (am 0)), (1, .int a1)] []
  refine j_aload_n C 0 dX10_leaves_0 rfl ?_
  refine j_iload_n C 1 dX10_leaves_1 rfl ?_
  refine j_iconst C 2 dX10_leaves_2 (by decide) ?_
  refine j_ciZ C (jr_V C lkV_X10_45 (c_X10_it am m kp wa fo ta bo so ce ik td tk bg aa vl bd a1 2 hw) ⟨rfl, rfl, by decide, by decide, by decide, by decide⟩ [0, 1, 2, 3, 4, 5, 6, 7, 8] (by decide) rfl (fx_ro C) 0 10 rfl rfl rfl rfl (Nat.le_of_ble_eq_true rfl) dX10_leaves_3) (fun r1 u1 hw => ?_)
  refine j_istore_n C [(2, .int r1), (0, .ref (am 0)), (1, .int a1)] dX10_leaves_6 (by decide) rfl ?_
  refine j_aload_n C 1 dX10_leaves_7 rfl ?_
  refine j_iload_n C 2 dX10_leaves_8 rfl ?_
  refine j_iconst C 2 dX10_leaves_9 (by decide) ?_
  refine j_iconst C (-1) dX10_leaves_10 (by decide) ?_
  refine j_cvT C hB 0 9 (fun u2 : (Nat → Int32) => (wM ca am u2 kp wa fo ta bo so ce ik td tk bg aa vl bd)) rfl (fun _ => rfl) (jr_V C lkV_X10_72 (c_X10_put am m kp wa fo ta bo so ce ik td tk bg aa vl bd a1 2 (-1) hw) ⟨rfl, rfl, by decide, by decide, by decide, by decide⟩ [0, 1, 2, 3, 4, 5, 6, 7, 8] (by decide) rfl (fx_rw C hB [0, 1, 2, 3, 4, 5, 6, 7, 8] rfl) 0 10 rfl rfl rfl rfl (Nat.le_of_ble_eq_true rfl) dX10_leaves_11) (fun u2 hw => ?_)
  refine j_aload_n C 1 dX10_leaves_14 rfl ?_
  refine j_iload_n C 2 dX10_leaves_15 rfl ?_
  refine j_iconst C 3 dX10_leaves_16 (by decide) ?_
  refine j_iconst C 0 dX10_leaves_17 (by decide) ?_
  refine j_cvT C hB 0 9 (fun u3 : (Nat → Int32) => (wM ca am u3 kp wa fo ta bo so ce ik td tk bg aa vl bd)) rfl (fun _ => rfl) (jr_V C lkV_X10_72 (c_X10_put am u2 kp wa fo ta bo so ce ik td tk bg aa vl bd a1 3 0 hw) ⟨rfl, rfl, by decide, by decide, by decide, by decide⟩ [0, 1, 2, 3, 4, 5, 6, 7, 8] (by decide) rfl (fx_rw C hB [0, 1, 2, 3, 4, 5, 6, 7, 8] rfl) 0 10 rfl rfl rfl rfl (Nat.le_of_ble_eq_true rfl) dX10_leaves_18) (fun u3 hw => ?_)
  refine j_aload_n C 1 dX10_leaves_21 rfl ?_
  refine j_iload_n C 0 dX10_leaves_22 rfl ?_
  refine j_iconst C 1 dX10_leaves_23 (by decide) ?_
  refine j_iconst C 4 dX10_leaves_24 (by decide) ?_
  refine j_cvT C hB 0 9 (fun u4 : (Nat → Int32) => (wM ca am u4 kp wa fo ta bo so ce ik td tk bg aa vl bd)) rfl (fun _ => rfl) (jr_V C lkV_X10_97 (c_X10_gets am u3 kp wa fo ta bo so ce ik td tk bg aa vl bd r1 1 4 hw) ⟨rfl, rfl, by decide, by decide, by decide, by decide⟩ [0, 1, 2, 3, 4, 5, 6, 7, 8] (by decide) rfl (fx_rw C hB [0, 1, 2, 3, 4, 5, 6, 7, 8] rfl) 0 10 rfl rfl rfl rfl (Nat.le_of_ble_eq_true rfl) dX10_leaves_25) (fun u4 hw => ?_)
  refine j_iload_n C 0 dX10_leaves_28 rfl ?_
  exact j_iret C hB hR u4 rfl dX10_leaves_29 hw rfl
def wpl_X10_winner_7 (m : Nat → Int32) (x1 : Int32) (K : (Int32) → (Int32) → (Int32) → Prop) : Nat → (Int32) → (Int32) → (Int32) → Prop
  | 0, _, _, _ => False
  | n + 1, x2, x3, x4 => (6 ≤ x4 → K x2 x3 x4) ∧ (¬ (6 ≤ x4) → wp_X10_his m x4 0 (fun r1 => wp_X10_bids m x1 r1 (fun r2 => wp_X10_openOf m x4 (fun r3 => (2 ≤ r3 → wpl_X10_winner_7 m x1  K n x2 x3 (x4 + 1)) ∧ (¬ (2 ≤ r3) → (x2 < 0 → wpl_X10_winner_7 m x1  K n x4 r2 (x4 + 1)) ∧ (¬ (x2 < 0) → (r2 ≤ x3 → wpl_X10_winner_7 m x1  K n x2 x3 (x4 + 1)) ∧ (¬ (r2 ≤ x3) → wpl_X10_winner_7 m x1  K n x4 r2 (x4 + 1))))))))
def wp_X10_winner (m : Nat → Int32)  (a1 : Int32) (Q : (Int32) → Prop) : Prop := ∃ n4 : Nat, wpl_X10_winner_7 m a1  (fun y4_2 y4_3 y4_4 => (y4_2 < 0 → Q (-1)) ∧ (¬ (y4_2 < 0) → wp_X10_asked m a1 (fun r5 => (y4_3 < r5 → Q (-1)) ∧ (¬ (y4_3 < r5) → Q y4_2)))) n4 (-1) 0 0
set_option maxRecDepth 100000 in
set_option maxHeartbeats 8000000 in
theorem ml_X10_winner_7 {l : Launch} {D : va_G} {ca : Nat → ClassId} {sd : Nat → Nat}  {k : Kx} (am : Nat → Nat)  (m : Nat → Int32) (kp : Nat → Int32) (wa : Nat → Int32) (fo : Nat → Int32) (ta : Nat → Int32) (bo : Nat → Int32) (so : Nat → Int32) (ce : Nat → Int64) (ik : Int32) (td : Int32) (tk : Int32) (bg : Int32) (aa : Int32) (vl : Int32) (bd : Int32) (x1 : Int32) (C : Cx D ca sd cX10_winner RX10 (some .int) { frames := 3, cells := 0, slots := 0, locals := 66 } k 7) {Q : (Int32) → Prop} (hR : Rx (Ri D (fun (r : Int32) (u : Unit) => Q r ) (fun _ => [])) 0 0 k) {K : (Int32) → (Int32) → (Int32) → Prop} (hK : ∀ (x2' : Int32) (x3' : Int32) (x4' : Int32), K x2' x3' x4' → J l D k 7 0 0 85 (wM ca am m kp wa fo ta bo so ce ik td tk bg aa vl bd) [(0, .ref (am 0)), (1, .int x1), (2, .int x2'), (3, .int x3'), (4, .int x4')] []) : ∀ (n : Nat) (x2 : Int32) (x3 : Int32) (x4 : Int32), wpl_X10_winner_7 m x1  K n x2 x3 x4 → J l D k 7 0 0 7 (wM ca am m kp wa fo ta bo so ce ik td tk bg aa vl bd) [(0, .ref (am 0)), (1, .int x1), (2, .int x2), (3, .int x3), (4, .int x4)] [] := by
  intro n
  induction n with
  | zero =>
    intro x2 x3 x4 hw
    rw [wpl_X10_winner_7] at hw
    exact hw.elim
  | succ n ih =>
    intro x2 x3 x4 hw
    rw [wpl_X10_winner_7] at hw
    refine j_iload C 4 dX10_winner_7 rfl ?_
    refine j_bipush C 6 dX10_winner_9 (by decide) ?_
    refine j_icmp_ge C 85 dX10_winner_11 (by decide) (fun z => ?_) (fun z => ?_)
    · replace hw := hw.1 z
      exact hK x2 x3 x4 hw
    · replace hw := hw.2 z
      refine j_aload_n C 0 dX10_winner_14 rfl ?_
      refine j_iload_n C 1 dX10_winner_15 rfl ?_
      refine j_aload_n C 0 dX10_winner_16 rfl ?_
      refine j_iload C 4 dX10_winner_17 rfl ?_
      refine j_iconst C 0 dX10_winner_19 (by decide) ?_
      refine j_ciZ C (jr_V C lkV_X10_63 (c_X10_his am m kp wa fo ta bo so ce ik td tk bg aa vl bd x4 0 hw) ⟨rfl, rfl, by decide, by decide, by decide, by decide⟩ [0, 1, 2, 3, 4, 5, 6, 7, 8] (by decide) rfl (fx_ro C) 0 10 rfl rfl rfl rfl (Nat.le_of_ble_eq_true rfl) dX10_winner_20) (fun r1 u1 hw => ?_)
      refine j_ciZ C (jr_V C lkV_X10_93 (c_X10_bids am m kp wa fo ta bo so ce ik td tk bg aa vl bd x1 r1 hw) ⟨rfl, rfl, by decide, by decide, by decide, by decide⟩ [0, 1, 2, 3, 4, 5, 6, 7, 8] (by decide) rfl (fx_ro C) 0 10 rfl rfl rfl rfl (Nat.le_of_ble_eq_true rfl) dX10_winner_23) (fun r2 u2 hw => ?_)
      refine j_istore C [(5, .int r2), (0, .ref (am 0)), (1, .int x1), (2, .int x2), (3, .int x3), (4, .int x4)] dX10_winner_26 (by decide) rfl ?_
      refine j_aload_n C 1 dX10_winner_28 rfl ?_
      refine j_iload C 5 dX10_winner_29 rfl ?_
      refine j_ciZ C (jr_V C lkV_X10_69 (c_X10_openOf am m kp wa fo ta bo so ce ik td tk bg aa vl bd x4 hw) ⟨rfl, rfl, by decide, by decide, by decide, by decide⟩ [0, 1, 2, 3, 4, 5, 6, 7, 8] (by decide) rfl (fx_ro C) 0 10 rfl rfl rfl rfl (Nat.le_of_ble_eq_true rfl) dX10_winner_31) (fun r3 u3 hw => ?_)
      refine j_iconst C 2 dX10_winner_34 (by decide) ?_
      refine j_icmp_ge C 52 dX10_winner_35 (by decide) (fun z => ?_) (fun z => ?_)
      · replace hw := hw.1 z
        refine j_iconst C 0 dX10_winner_52 (by decide) ?_
        refine j_istore C [(6, .int 0), (5, .int r2), (0, .ref (am 0)), (1, .int x1), (2, .int x2), (3, .int x3), (4, .int x4)] dX10_winner_53 (by decide) rfl ?_
        refine j_iload C 0 dX10_winner_55 rfl ?_
        refine j_if_eq C 65 dX10_winner_57 (by decide) (fun _ => ?_) (fun z => absurd z (by decide))
        refine j_iload_n C 4 dX10_winner_65 rfl ?_
        refine j_istore_n C [(2, .int x2), (6, .int 0), (5, .int r2), (0, .ref (am 0)), (1, .int x1), (3, .int x3), (4, .int x4)] dX10_winner_66 (by decide) rfl ?_
        refine j_iload C 1 dX10_winner_67 rfl ?_
        refine j_if_eq C 77 dX10_winner_69 (by decide) (fun _ => ?_) (fun z => absurd z (by decide))
        refine j_iload_n C 5 dX10_winner_77 rfl ?_
        refine j_istore_n C [(3, .int x3), (2, .int x2), (6, .int 0), (5, .int r2), (0, .ref (am 0)), (1, .int x1), (4, .int x4)] dX10_winner_78 (by decide) rfl ?_
        refine j_iinc C 6 (x4 + 1) [(4, .int (x4 + 1)), (3, .int x3), (2, .int x2), (6, .int 0), (5, .int r2), (0, .ref (am 0)), (1, .int x1)] dX10_winner_79 rfl rfl (by decide) rfl ?_
        refine j_goto C 7 dX10_winner_82 (by decide) ?_
        refine j_lsub [5, 6, 2, 1, 0] [(0, .ref (am 0)), (1, .int x1), (2, .int x2), (3, .int x3), (4, .int (x4 + 1))] rfl ?_
        exact ih x2 x3 (x4 + 1) hw
      · replace hw := hw.2 z
        refine j_iload_n C 3 dX10_winner_38 rfl ?_
        refine j_if_lt C 48 dX10_winner_39 (by decide) (fun z => ?_) (fun z => ?_)
        · replace hw := hw.1 z
          refine j_iconst C 1 dX10_winner_48 (by decide) ?_
          refine j_goto C 53 dX10_winner_49 (by decide) ?_
          refine j_istore C [(6, .int 1), (5, .int r2), (0, .ref (am 0)), (1, .int x1), (2, .int x2), (3, .int x3), (4, .int x4)] dX10_winner_53 (by decide) rfl ?_
          refine j_iload C 0 dX10_winner_55 rfl ?_
          refine j_if_eq C 65 dX10_winner_57 (by decide) (fun z => absurd z (by decide)) (fun _ => ?_)
          refine j_iload C 6 dX10_winner_60 rfl ?_
          refine j_goto C 66 dX10_winner_62 (by decide) ?_
          refine j_istore_n C [(2, .int x4), (6, .int 1), (5, .int r2), (0, .ref (am 0)), (1, .int x1), (3, .int x3), (4, .int x4)] dX10_winner_66 (by decide) rfl ?_
          refine j_iload C 1 dX10_winner_67 rfl ?_
          refine j_if_eq C 77 dX10_winner_69 (by decide) (fun z => absurd z (by decide)) (fun _ => ?_)
          refine j_iload C 2 dX10_winner_72 rfl ?_
          refine j_goto C 78 dX10_winner_74 (by decide) ?_
          refine j_istore_n C [(3, .int r2), (2, .int x4), (6, .int 1), (5, .int r2), (0, .ref (am 0)), (1, .int x1), (4, .int x4)] dX10_winner_78 (by decide) rfl ?_
          refine j_iinc C 6 (x4 + 1) [(4, .int (x4 + 1)), (3, .int r2), (2, .int x4), (6, .int 1), (5, .int r2), (0, .ref (am 0)), (1, .int x1)] dX10_winner_79 rfl rfl (by decide) rfl ?_
          refine j_goto C 7 dX10_winner_82 (by decide) ?_
          refine j_lsub [5, 6, 2, 1, 0] [(0, .ref (am 0)), (1, .int x1), (2, .int x4), (3, .int r2), (4, .int (x4 + 1))] rfl ?_
          exact ih x4 r2 (x4 + 1) hw
        · replace hw := hw.2 z
          refine j_iload C 0 dX10_winner_42 rfl ?_
          refine j_iload_n C 4 dX10_winner_44 rfl ?_
          refine j_icmp_le C 52 dX10_winner_45 (by decide) (fun z => ?_) (fun z => ?_)
          · replace hw := hw.1 z
            refine j_iconst C 0 dX10_winner_52 (by decide) ?_
            refine j_istore C [(6, .int 0), (5, .int r2), (0, .ref (am 0)), (1, .int x1), (2, .int x2), (3, .int x3), (4, .int x4)] dX10_winner_53 (by decide) rfl ?_
            refine j_iload C 0 dX10_winner_55 rfl ?_
            refine j_if_eq C 65 dX10_winner_57 (by decide) (fun _ => ?_) (fun z => absurd z (by decide))
            refine j_iload_n C 4 dX10_winner_65 rfl ?_
            refine j_istore_n C [(2, .int x2), (6, .int 0), (5, .int r2), (0, .ref (am 0)), (1, .int x1), (3, .int x3), (4, .int x4)] dX10_winner_66 (by decide) rfl ?_
            refine j_iload C 1 dX10_winner_67 rfl ?_
            refine j_if_eq C 77 dX10_winner_69 (by decide) (fun _ => ?_) (fun z => absurd z (by decide))
            refine j_iload_n C 5 dX10_winner_77 rfl ?_
            refine j_istore_n C [(3, .int x3), (2, .int x2), (6, .int 0), (5, .int r2), (0, .ref (am 0)), (1, .int x1), (4, .int x4)] dX10_winner_78 (by decide) rfl ?_
            refine j_iinc C 6 (x4 + 1) [(4, .int (x4 + 1)), (3, .int x3), (2, .int x2), (6, .int 0), (5, .int r2), (0, .ref (am 0)), (1, .int x1)] dX10_winner_79 rfl rfl (by decide) rfl ?_
            refine j_goto C 7 dX10_winner_82 (by decide) ?_
            refine j_lsub [5, 6, 2, 1, 0] [(0, .ref (am 0)), (1, .int x1), (2, .int x2), (3, .int x3), (4, .int (x4 + 1))] rfl ?_
            exact ih x2 x3 (x4 + 1) hw
          · replace hw := hw.2 z
            refine j_iconst C 1 dX10_winner_48 (by decide) ?_
            refine j_goto C 53 dX10_winner_49 (by decide) ?_
            refine j_istore C [(6, .int 1), (5, .int r2), (0, .ref (am 0)), (1, .int x1), (2, .int x2), (3, .int x3), (4, .int x4)] dX10_winner_53 (by decide) rfl ?_
            refine j_iload C 0 dX10_winner_55 rfl ?_
            refine j_if_eq C 65 dX10_winner_57 (by decide) (fun z => absurd z (by decide)) (fun _ => ?_)
            refine j_iload C 6 dX10_winner_60 rfl ?_
            refine j_goto C 66 dX10_winner_62 (by decide) ?_
            refine j_istore_n C [(2, .int x4), (6, .int 1), (5, .int r2), (0, .ref (am 0)), (1, .int x1), (3, .int x3), (4, .int x4)] dX10_winner_66 (by decide) rfl ?_
            refine j_iload C 1 dX10_winner_67 rfl ?_
            refine j_if_eq C 77 dX10_winner_69 (by decide) (fun z => absurd z (by decide)) (fun _ => ?_)
            refine j_iload C 2 dX10_winner_72 rfl ?_
            refine j_goto C 78 dX10_winner_74 (by decide) ?_
            refine j_istore_n C [(3, .int r2), (2, .int x4), (6, .int 1), (5, .int r2), (0, .ref (am 0)), (1, .int x1), (4, .int x4)] dX10_winner_78 (by decide) rfl ?_
            refine j_iinc C 6 (x4 + 1) [(4, .int (x4 + 1)), (3, .int r2), (2, .int x4), (6, .int 1), (5, .int r2), (0, .ref (am 0)), (1, .int x1)] dX10_winner_79 rfl rfl (by decide) rfl ?_
            refine j_goto C 7 dX10_winner_82 (by decide) ?_
            refine j_lsub [5, 6, 2, 1, 0] [(0, .ref (am 0)), (1, .int x1), (2, .int x4), (3, .int r2), (4, .int (x4 + 1))] rfl ?_
            exact ih x4 r2 (x4 + 1) hw
set_option maxRecDepth 100000 in
set_option maxHeartbeats 8000000 in
theorem c_X10_winner {l : Launch} {D : va_G} {ca : Nat → ClassId} {sd : Nat → Nat}  (am : Nat → Nat) (m : Nat → Int32) (kp : Nat → Int32) (wa : Nat → Int32) (fo : Nat → Int32) (ta : Nat → Int32) (bo : Nat → Int32) (so : Nat → Int32) (ce : Nat → Int64) (ik : Int32) (td : Int32) (tk : Int32) (bg : Int32) (aa : Int32) (vl : Int32) (bd : Int32)  (a1 : Int32)  {Q : (Int32) → Prop} (hw : wp_X10_winner m  a1 Q) : Cn l D ca sd yX10_winner cX10_winner 7 (some .int) { frames := 3, cells := 0, slots := 0, locals := 66 } [.ref (am 0), .int a1] (wM ca am m kp wa fo ta bo so ce ik td tk bg aa vl bd) [] 0 0 (Ri D (fun (r : Int32) (u : Unit) => Q r ) (fun _ => [])) := by
  refine cn_ofR (by decide) (Nat.le_of_ble_eq_true rfl) (fun k C hR => ?_)
  have C : Cx D ca sd cX10_winner RX10 (some .int) { frames := 3, cells := 0, slots := 0, locals := 66 } k 7 := C
  unfold wp_X10_winner at hw
  show J l D k 7 0 0 0 (wM ca am m kp wa fo ta bo so ce ik td tk bg aa vl bd) [(0, .ref (am 0)), (1, .int a1)] []
  refine j_iconst C (-1) dX10_winner_0 (by decide) ?_
  refine j_istore_n C [(2, .int (-1)), (0, .ref (am 0)), (1, .int a1)] dX10_winner_1 (by decide) rfl ?_
  refine j_iconst C 0 dX10_winner_2 (by decide) ?_
  refine j_istore_n C [(3, .int 0), (2, .int (-1)), (0, .ref (am 0)), (1, .int a1)] dX10_winner_3 (by decide) rfl ?_
  refine j_iconst C 0 dX10_winner_4 (by decide) ?_
  refine j_istore C [(4, .int 0), (3, .int 0), (2, .int (-1)), (0, .ref (am 0)), (1, .int a1)] dX10_winner_5 (by decide) rfl ?_
  refine j_lsub [3, 4, 2, 1, 0] [(0, .ref (am 0)), (1, .int a1), (2, .int (-1)), (3, .int 0), (4, .int 0)] rfl ?_
  obtain ⟨n4, hw⟩ := hw
  refine ml_X10_winner_7 am  m kp wa fo ta bo so ce ik td tk bg aa vl bd a1 C hR (fun y4_2 y4_3 y4_4 hw => ?_) n4 (-1) 0 0 hw
  refine j_iload_n C 2 dX10_winner_85 rfl ?_
  refine j_if_lt C 102 dX10_winner_86 (by decide) (fun z => ?_) (fun z => ?_)
  · replace hw := hw.1 z
    refine j_iconst C (-1) dX10_winner_102 (by decide) ?_
    exact j_iretR C hR () rfl dX10_winner_103 hw
  · replace hw := hw.2 z
    refine j_iload_n C 3 dX10_winner_89 rfl ?_
    refine j_aload_n C 0 dX10_winner_90 rfl ?_
    refine j_iload_n C 1 dX10_winner_91 rfl ?_
    refine j_ciZ C (jr_V C lkV_X10_87 (c_X10_asked am m kp wa fo ta bo so ce ik td tk bg aa vl bd a1 hw) ⟨rfl, rfl, by decide, by decide, by decide, by decide⟩ [0, 1, 2, 3, 4, 5, 6, 7, 8] (by decide) rfl (fx_ro C) 0 10 rfl rfl rfl rfl (Nat.le_of_ble_eq_true rfl) dX10_winner_92) (fun r5 u5 hw => ?_)
    refine j_icmp_lt C 102 dX10_winner_95 (by decide) (fun z => ?_) (fun z => ?_)
    · replace hw := hw.1 z
      refine j_iconst C (-1) dX10_winner_102 (by decide) ?_
      exact j_iretR C hR () rfl dX10_winner_103 hw
    · replace hw := hw.2 z
      refine j_iload_n C 2 dX10_winner_98 rfl ?_
      refine j_goto C 103 dX10_winner_99 (by decide) ?_
      exact j_iretR C hR () rfl dX10_winner_103 hw
def wp_X10_worksOn (m : Nat → Int32)  (a1 : Int32) (Q : (Nat → Int32) → Prop) : Prop := wp_X10_it m a1 2 (fun r1 => wp_X10_it m a1 1 (fun r2 => wp_X10_his m r1 0 (fun r3 => wp_X10_goesOn m a1 r3 (fun r4 => wp_X10_held (r2 + r4) 0 100 (fun r5 => wp_X10_put m a1 1 r5 (fun c6_0 => wp_X10_isDone c6_0 a1 (fun r7 => (r7 = 0 → wp_X10_his c6_0 r1 1 (fun r8 => wp_X10_tires c6_0 a1 (fun r9 => wp_X10_gets c6_0 r1 1 (r8 - r9) (fun c10_0 => (0 < (r8 - r9) → Q c10_0) ∧ (¬ (0 < (r8 - r9)) → wp_X10_leaves c10_0 a1 (fun r11 c11_0 => Q c11_0)))))) ∧ (¬ (r7 = 0) → wp_X10_his c6_0 r1 2 (fun r12 => wp_X10_held (r12 + 1) 0 999 (fun r13 => wp_X10_gets c6_0 r1 2 r13 (fun c14_0 => wp_X10_his c14_0 r1 1 (fun r15 => wp_X10_held (r15 + 2) 0 9 (fun r16 => wp_X10_gets c14_0 r1 1 r16 (fun c17_0 => Q c17_0))))))))))))))
set_option maxRecDepth 100000 in
set_option maxHeartbeats 8000000 in
theorem c_X10_worksOn {l : Launch} {D : va_G} {ca : Nat → ClassId} {sd : Nat → Nat}  (am : Nat → Nat) (m : Nat → Int32) (kp : Nat → Int32) (wa : Nat → Int32) (fo : Nat → Int32) (ta : Nat → Int32) (bo : Nat → Int32) (so : Nat → Int32) (ce : Nat → Int64) (ik : Int32) (td : Int32) (tk : Int32) (bg : Int32) (aa : Int32) (vl : Int32) (bd : Int32)  (a1 : Int32)  {Q : (Nat → Int32) → Prop} (hw : wp_X10_worksOn m  a1 Q) : Cn l D ca sd yX10_worksOn cX10_worksOn 5 none { frames := 2, cells := 0, slots := 0, locals := 46 } [.ref (am 0), .int a1] (wM ca am m kp wa fo ta bo so ce ik td tk bg aa vl bd) (wM ca am m kp wa fo ta bo so ce ik td tk bg aa vl bd) 0 0 (Rv D (fun u : (Nat → Int32) => Q u) (fun u => (wM ca am u kp wa fo ta bo so ce ik td tk bg aa vl bd))) := by
  refine cn_of (by decide) (Nat.le_of_ble_eq_true rfl) (fun k C hR hB _ => ?_)
  have C : Cx D ca sd cX10_worksOn RX10 none { frames := 2, cells := 0, slots := 0, locals := 46 } k 5 := C
  unfold wp_X10_worksOn at hw
  show J l D k 5 0 0 0 (wM ca am m kp wa fo ta bo so ce ik td tk bg aa vl bd) [(0, .ref (am 0)), (1, .int a1)] []
  refine j_aload_n C 0 dX10_worksOn_0 rfl ?_
  refine j_iload_n C 1 dX10_worksOn_1 rfl ?_
  refine j_iconst C 2 dX10_worksOn_2 (by decide) ?_
  refine j_ciZ C (jr_V C lkV_X10_45 (c_X10_it am m kp wa fo ta bo so ce ik td tk bg aa vl bd a1 2 hw) ⟨rfl, rfl, by decide, by decide, by decide, by decide⟩ [0, 1, 2, 3, 4, 5, 6, 7, 8] (by decide) rfl (fx_ro C) 0 10 rfl rfl rfl rfl (Nat.le_of_ble_eq_true rfl) dX10_worksOn_3) (fun r1 u1 hw => ?_)
  refine j_istore_n C [(2, .int r1), (0, .ref (am 0)), (1, .int a1)] dX10_worksOn_6 (by decide) rfl ?_
  refine j_aload_n C 1 dX10_worksOn_7 rfl ?_
  refine j_iload_n C 2 dX10_worksOn_8 rfl ?_
  refine j_iconst C 1 dX10_worksOn_9 (by decide) ?_
  refine j_aload_n C 1 dX10_worksOn_10 rfl ?_
  refine j_iload_n C 2 dX10_worksOn_11 rfl ?_
  refine j_iconst C 1 dX10_worksOn_12 (by decide) ?_
  refine j_ciZ C (jr_V C lkV_X10_45 (c_X10_it am m kp wa fo ta bo so ce ik td tk bg aa vl bd a1 1 hw) ⟨rfl, rfl, by decide, by decide, by decide, by decide⟩ [0, 1, 2, 3, 4, 5, 6, 7, 8] (by decide) rfl (fx_ro C) 0 10 rfl rfl rfl rfl (Nat.le_of_ble_eq_true rfl) dX10_worksOn_13) (fun r2 u2 hw => ?_)
  refine j_aload_n C 1 dX10_worksOn_16 rfl ?_
  refine j_iload_n C 2 dX10_worksOn_17 rfl ?_
  refine j_aload_n C 1 dX10_worksOn_18 rfl ?_
  refine j_iload_n C 0 dX10_worksOn_19 rfl ?_
  refine j_iconst C 0 dX10_worksOn_20 (by decide) ?_
  refine j_ciZ C (jr_V C lkV_X10_63 (c_X10_his am m kp wa fo ta bo so ce ik td tk bg aa vl bd r1 0 hw) ⟨rfl, rfl, by decide, by decide, by decide, by decide⟩ [0, 1, 2, 3, 4, 5, 6, 7, 8] (by decide) rfl (fx_ro C) 0 10 rfl rfl rfl rfl (Nat.le_of_ble_eq_true rfl) dX10_worksOn_21) (fun r3 u3 hw => ?_)
  refine j_ciZ C (jr_V C lkV_X10_90 (c_X10_goesOn am m kp wa fo ta bo so ce ik td tk bg aa vl bd a1 r3 hw) ⟨rfl, rfl, by decide, by decide, by decide, by decide⟩ [0, 1, 2, 3, 4, 5, 6, 7, 8] (by decide) rfl (fx_ro C) 0 10 rfl rfl rfl rfl (Nat.le_of_ble_eq_true rfl) dX10_worksOn_24) (fun r4 u4 hw => ?_)
  refine j_iadd C dX10_worksOn_27 ?_
  refine j_iconst C 0 dX10_worksOn_28 (by decide) ?_
  refine j_bipush C 100 dX10_worksOn_29 (by decide) ?_
  refine j_ciZ C (jr_S C lkS_X10_113 (c_X10_held (r2 + r4) 0 100 hw) ⟨rfl, rfl, by decide, by decide, by decide, by decide⟩ [] (by decide) rfl (fx_ro C) rfl rfl (Nat.le_of_ble_eq_true rfl) dX10_worksOn_31) (fun r5 u5 hw => ?_)
  refine j_cvT C hB 0 9 (fun u6 : (Nat → Int32) => (wM ca am u6 kp wa fo ta bo so ce ik td tk bg aa vl bd)) rfl (fun _ => rfl) (jr_V C lkV_X10_72 (c_X10_put am m kp wa fo ta bo so ce ik td tk bg aa vl bd a1 1 r5 hw) ⟨rfl, rfl, by decide, by decide, by decide, by decide⟩ [0, 1, 2, 3, 4, 5, 6, 7, 8] (by decide) rfl (fx_rw C hB [0, 1, 2, 3, 4, 5, 6, 7, 8] rfl) 0 10 rfl rfl rfl rfl (Nat.le_of_ble_eq_true rfl) dX10_worksOn_34) (fun u6 hw => ?_)
  refine j_aload_n C 1 dX10_worksOn_37 rfl ?_
  refine j_iload_n C 2 dX10_worksOn_38 rfl ?_
  refine j_ciZ C (jr_V C lkV_X10_60 (c_X10_isDone am u6 kp wa fo ta bo so ce ik td tk bg aa vl bd a1 hw) ⟨rfl, rfl, by decide, by decide, by decide, by decide⟩ [0, 1, 2, 3, 4, 5, 6, 7, 8] (by decide) rfl (fx_ro C) 0 10 rfl rfl rfl rfl (Nat.le_of_ble_eq_true rfl) dX10_worksOn_39) (fun r7 u7 hw => ?_)
  refine j_if_eq C 87 dX10_worksOn_42 (by decide) (fun z => ?_) (fun z => ?_)
  · replace hw := hw.1 z
    refine j_aload_n C 1 dX10_worksOn_87 rfl ?_
    refine j_iload_n C 0 dX10_worksOn_88 rfl ?_
    refine j_iconst C 1 dX10_worksOn_89 (by decide) ?_
    refine j_ciZ C (jr_V C lkV_X10_63 (c_X10_his am u6 kp wa fo ta bo so ce ik td tk bg aa vl bd r1 1 hw) ⟨rfl, rfl, by decide, by decide, by decide, by decide⟩ [0, 1, 2, 3, 4, 5, 6, 7, 8] (by decide) rfl (fx_ro C) 0 10 rfl rfl rfl rfl (Nat.le_of_ble_eq_true rfl) dX10_worksOn_90) (fun r8 u8 hw => ?_)
    refine j_aload_n C 1 dX10_worksOn_93 rfl ?_
    refine j_iload_n C 2 dX10_worksOn_94 rfl ?_
    refine j_ciZ C (jr_V C lkV_X10_84 (c_X10_tires am u6 kp wa fo ta bo so ce ik td tk bg aa vl bd a1 hw) ⟨rfl, rfl, by decide, by decide, by decide, by decide⟩ [0, 1, 2, 3, 4, 5, 6, 7, 8] (by decide) rfl (fx_ro C) 0 10 rfl rfl rfl rfl (Nat.le_of_ble_eq_true rfl) dX10_worksOn_95) (fun r9 u9 hw => ?_)
    refine j_isub C dX10_worksOn_98 ?_
    refine j_istore_n C [(3, .int (r8 - r9)), (2, .int r1), (0, .ref (am 0)), (1, .int a1)] dX10_worksOn_99 (by decide) rfl ?_
    refine j_aload_n C 2 dX10_worksOn_100 rfl ?_
    refine j_iload_n C 1 dX10_worksOn_101 rfl ?_
    refine j_iconst C 1 dX10_worksOn_102 (by decide) ?_
    refine j_iload_n C 0 dX10_worksOn_103 rfl ?_
    refine j_cvT C hB 0 9 (fun u10 : (Nat → Int32) => (wM ca am u10 kp wa fo ta bo so ce ik td tk bg aa vl bd)) rfl (fun _ => rfl) (jr_V C lkV_X10_97 (c_X10_gets am u6 kp wa fo ta bo so ce ik td tk bg aa vl bd r1 1 (r8 - r9) hw) ⟨rfl, rfl, by decide, by decide, by decide, by decide⟩ [0, 1, 2, 3, 4, 5, 6, 7, 8] (by decide) rfl (fx_rw C hB [0, 1, 2, 3, 4, 5, 6, 7, 8] rfl) 0 10 rfl rfl rfl rfl (Nat.le_of_ble_eq_true rfl) dX10_worksOn_104) (fun u10 hw => ?_)
    refine j_iload_n C 0 dX10_worksOn_107 rfl ?_
    refine j_if_gt C 118 dX10_worksOn_108 (by decide) (fun z => ?_) (fun z => ?_)
    · replace hw := hw.1 z
      exact j_vret C hB hR u10 rfl dX10_worksOn_118 hw rfl
    · replace hw := hw.2 z
      refine j_aload_n C 2 dX10_worksOn_111 rfl ?_
      refine j_iload_n C 3 dX10_worksOn_112 rfl ?_
      refine j_ciT C hB 0 9 (fun u11 : (Nat → Int32) => (wM ca am u11 kp wa fo ta bo so ce ik td tk bg aa vl bd)) rfl (fun _ => rfl) (jr_V C lkV_X10_103 (c_X10_leaves am u10 kp wa fo ta bo so ce ik td tk bg aa vl bd a1 hw) ⟨rfl, rfl, by decide, by decide, by decide, by decide⟩ [0, 1, 2, 3, 4, 5, 6, 7, 8] (by decide) rfl (fx_rw C hB [0, 1, 2, 3, 4, 5, 6, 7, 8] rfl) 0 10 rfl rfl rfl rfl (Nat.le_of_ble_eq_true rfl) dX10_worksOn_113) (fun r11 u11 hw => ?_)
      refine j_istore C [(4, .int r11), (3, .int (r8 - r9)), (2, .int r1), (0, .ref (am 0)), (1, .int a1)] dX10_worksOn_116 (by decide) rfl ?_
      exact j_vret C hB hR u11 rfl dX10_worksOn_118 hw rfl
  · replace hw := hw.2 z
    refine j_aload_n C 1 dX10_worksOn_45 rfl ?_
    refine j_iload_n C 0 dX10_worksOn_46 rfl ?_
    refine j_iconst C 2 dX10_worksOn_47 (by decide) ?_
    refine j_aload_n C 1 dX10_worksOn_48 rfl ?_
    refine j_iload_n C 0 dX10_worksOn_49 rfl ?_
    refine j_iconst C 2 dX10_worksOn_50 (by decide) ?_
    refine j_ciZ C (jr_V C lkV_X10_63 (c_X10_his am u6 kp wa fo ta bo so ce ik td tk bg aa vl bd r1 2 hw) ⟨rfl, rfl, by decide, by decide, by decide, by decide⟩ [0, 1, 2, 3, 4, 5, 6, 7, 8] (by decide) rfl (fx_ro C) 0 10 rfl rfl rfl rfl (Nat.le_of_ble_eq_true rfl) dX10_worksOn_51) (fun r12 u12 hw => ?_)
    refine j_iconst C 1 dX10_worksOn_54 (by decide) ?_
    refine j_iadd C dX10_worksOn_55 ?_
    refine j_iconst C 0 dX10_worksOn_56 (by decide) ?_
    refine j_sipush C 999 dX10_worksOn_57 (by decide) ?_
    refine j_ciZ C (jr_S C lkS_X10_113 (c_X10_held (r12 + 1) 0 999 hw) ⟨rfl, rfl, by decide, by decide, by decide, by decide⟩ [] (by decide) rfl (fx_ro C) rfl rfl (Nat.le_of_ble_eq_true rfl) dX10_worksOn_60) (fun r13 u13 hw => ?_)
    refine j_cvT C hB 0 9 (fun u14 : (Nat → Int32) => (wM ca am u14 kp wa fo ta bo so ce ik td tk bg aa vl bd)) rfl (fun _ => rfl) (jr_V C lkV_X10_97 (c_X10_gets am u6 kp wa fo ta bo so ce ik td tk bg aa vl bd r1 2 r13 hw) ⟨rfl, rfl, by decide, by decide, by decide, by decide⟩ [0, 1, 2, 3, 4, 5, 6, 7, 8] (by decide) rfl (fx_rw C hB [0, 1, 2, 3, 4, 5, 6, 7, 8] rfl) 0 10 rfl rfl rfl rfl (Nat.le_of_ble_eq_true rfl) dX10_worksOn_63) (fun u14 hw => ?_)
    refine j_aload_n C 1 dX10_worksOn_66 rfl ?_
    refine j_iload_n C 0 dX10_worksOn_67 rfl ?_
    refine j_iconst C 1 dX10_worksOn_68 (by decide) ?_
    refine j_aload_n C 1 dX10_worksOn_69 rfl ?_
    refine j_iload_n C 0 dX10_worksOn_70 rfl ?_
    refine j_iconst C 1 dX10_worksOn_71 (by decide) ?_
    refine j_ciZ C (jr_V C lkV_X10_63 (c_X10_his am u14 kp wa fo ta bo so ce ik td tk bg aa vl bd r1 1 hw) ⟨rfl, rfl, by decide, by decide, by decide, by decide⟩ [0, 1, 2, 3, 4, 5, 6, 7, 8] (by decide) rfl (fx_ro C) 0 10 rfl rfl rfl rfl (Nat.le_of_ble_eq_true rfl) dX10_worksOn_72) (fun r15 u15 hw => ?_)
    refine j_iconst C 2 dX10_worksOn_75 (by decide) ?_
    refine j_iadd C dX10_worksOn_76 ?_
    refine j_iconst C 0 dX10_worksOn_77 (by decide) ?_
    refine j_bipush C 9 dX10_worksOn_78 (by decide) ?_
    refine j_ciZ C (jr_S C lkS_X10_113 (c_X10_held (r15 + 2) 0 9 hw) ⟨rfl, rfl, by decide, by decide, by decide, by decide⟩ [] (by decide) rfl (fx_ro C) rfl rfl (Nat.le_of_ble_eq_true rfl) dX10_worksOn_80) (fun r16 u16 hw => ?_)
    refine j_cvT C hB 0 9 (fun u17 : (Nat → Int32) => (wM ca am u17 kp wa fo ta bo so ce ik td tk bg aa vl bd)) rfl (fun _ => rfl) (jr_V C lkV_X10_97 (c_X10_gets am u14 kp wa fo ta bo so ce ik td tk bg aa vl bd r1 1 r16 hw) ⟨rfl, rfl, by decide, by decide, by decide, by decide⟩ [0, 1, 2, 3, 4, 5, 6, 7, 8] (by decide) rfl (fx_rw C hB [0, 1, 2, 3, 4, 5, 6, 7, 8] rfl) 0 10 rfl rfl rfl rfl (Nat.le_of_ble_eq_true rfl) dX10_worksOn_83) (fun u17 hw => ?_)
    exact j_vret C hB hR u17 rfl dX10_worksOn_86 hw rfl
def wpl_X10_goes_2  (K : (Int32) → (Nat → Int32) → Prop) : Nat → (Int32) → (Nat → Int32) → Prop
  | 0, _, _ => False
  | n + 1, x1, m => vp_in 1 52 ∧ (((m ((1 : Int32).toNatClampNeg)) ≤ x1 → K x1 m) ∧ (¬ ((m ((1 : Int32).toNatClampNeg)) ≤ x1) → wp_X10_canLeave m x1 (fun r2 => (r2 = 0 → wpl_X10_goes_2   K n (x1 + 1) m) ∧ (¬ (r2 = 0) → wp_X10_worksOn m x1 (fun c3_0 => wpl_X10_goes_2   K n (x1 + 1) c3_0)))))
def wpl_X10_goes_33  (K : (Int32) → (Nat → Int32) → Prop) : Nat → (Int32) → (Nat → Int32) → Prop
  | 0, _, _ => False
  | n + 1, x1, m => vp_in 1 52 ∧ (((m ((1 : Int32).toNatClampNeg)) ≤ x1 → K x1 m) ∧ (¬ ((m ((1 : Int32).toNatClampNeg)) ≤ x1) → wp_X10_it m x1 2 (fun r6 => (0 ≤ r6 → wpl_X10_goes_33   K n (x1 + 1) m) ∧ (¬ (0 ≤ r6) → wp_X10_isDone m x1 (fun r7 => (r7 = 0 → wp_X10_it m x1 3 (fun r8 => wp_X10_held (r8 + 1) 0 999 (fun r9 => wp_X10_put m x1 3 r9 (fun c10_0 => wp_X10_winner c10_0 x1 (fun r11 => wp_X10_put c10_0 x1 2 r11 (fun c12_0 => wpl_X10_goes_33   K n (x1 + 1) c12_0)))))) ∧ (¬ (r7 = 0) → wpl_X10_goes_33   K n (x1 + 1) m))))))
def wp_X10_goes (m : Nat → Int32)   (Q : (Nat → Int32) → Prop) : Prop := ∃ n4 : Nat, wpl_X10_goes_2   (fun y4_1 y4_m => ∃ n13 : Nat, wpl_X10_goes_33   (fun y13_1 y13_m => vp_in 0 52 ∧ (vp_in 0 52 ∧ (Q (upd y13_m ((0 : Int32).toNatClampNeg) ((y13_m ((0 : Int32).toNatClampNeg)) + 1))))) n13 0 y4_m) n4 0 m
set_option maxRecDepth 100000 in
set_option maxHeartbeats 8000000 in
theorem ml_X10_goes_2 {l : Launch} {D : va_G} {ca : Nat → ClassId} {sd : Nat → Nat}  {k : Kx} (am : Nat → Nat)  (kp : Nat → Int32) (wa : Nat → Int32) (fo : Nat → Int32) (ta : Nat → Int32) (bo : Nat → Int32) (so : Nat → Int32) (ce : Nat → Int64) (ik : Int32) (td : Int32) (tk : Int32) (bg : Int32) (aa : Int32) (vl : Int32) (bd : Int32) (C : Cx D ca sd cX10_goes RX10 none { frames := 4, cells := 0, slots := 0, locals := 92 } k 2) {Q : (Nat → Int32) → Prop} (hR : Rx (Rv D (fun u : (Nat → Int32) => Q u) (fun u => (wM ca am u kp wa fo ta bo so ce ik td tk bg aa vl bd))) 0 0 k) (hB : Wx k) {K : (Int32) → (Nat → Int32) → Prop} (hK : ∀ (x1' : Int32) (m' : Nat → Int32), K x1' m' → J l D k 2 0 0 31 (wM ca am m' kp wa fo ta bo so ce ik td tk bg aa vl bd) [(0, .ref (am 0)), (1, .int x1')] []) : ∀ (n : Nat) (x1 : Int32) (m : Nat → Int32), wpl_X10_goes_2   K n x1 m → J l D k 2 0 0 2 (wM ca am m kp wa fo ta bo so ce ik td tk bg aa vl bd) [(0, .ref (am 0)), (1, .int x1)] [] := by
  intro n
  induction n with
  | zero =>
    intro x1 m hw
    rw [wpl_X10_goes_2] at hw
    exact hw.elim
  | succ n ih =>
    intro x1 m hw
    rw [wpl_X10_goes_2] at hw
    refine j_iload_n C 1 dX10_goes_2 rfl ?_
    refine j_aload_n C 0 dX10_goes_3 rfl ?_
    refine j_get C fl_X10_9_10 0 dX10_goes_4 rfl rfl ?_
    refine j_iconst C 1 dX10_goes_7 (by decide) ?_
    have hi1 := hw.1
    replace hw := hw.2
    refine j_iald C 1 dX10_goes_8 rfl hi1 ?_
    refine j_icmp_ge C 31 dX10_goes_9 (by decide) (fun z => ?_) (fun z => ?_)
    · replace hw := hw.1 z
      exact hK x1 m hw
    · replace hw := hw.2 z
      refine j_aload_n C 0 dX10_goes_12 rfl ?_
      refine j_iload_n C 1 dX10_goes_13 rfl ?_
      refine j_ciZ C (jr_V C lkV_X10_100 (c_X10_canLeave am m kp wa fo ta bo so ce ik td tk bg aa vl bd x1 hw) ⟨rfl, rfl, by decide, by decide, by decide, by decide⟩ [0, 1, 2, 3, 4, 5, 6, 7, 8] (by decide) rfl (fx_ro C) 0 10 rfl rfl rfl rfl (Nat.le_of_ble_eq_true rfl) dX10_goes_14) (fun r2 u2 hw => ?_)
      refine j_if_eq C 25 dX10_goes_17 (by decide) (fun z => ?_) (fun z => ?_)
      · replace hw := hw.1 z
        refine j_iinc C 1 (x1 + 1) [(1, .int (x1 + 1)), (0, .ref (am 0))] dX10_goes_25 rfl rfl (by decide) rfl ?_
        refine j_goto C 2 dX10_goes_28 (by decide) ?_
        refine j_lsub [1, 0] [(0, .ref (am 0)), (1, .int (x1 + 1))] rfl ?_
        exact ih (x1 + 1) m hw
      · replace hw := hw.2 z
        refine j_aload_n C 0 dX10_goes_20 rfl ?_
        refine j_iload_n C 1 dX10_goes_21 rfl ?_
        refine j_cvT C hB 0 9 (fun u3 : (Nat → Int32) => (wM ca am u3 kp wa fo ta bo so ce ik td tk bg aa vl bd)) rfl (fun _ => rfl) (jr_V C lkV_X10_117 (c_X10_worksOn am m kp wa fo ta bo so ce ik td tk bg aa vl bd x1 hw) ⟨rfl, rfl, by decide, by decide, by decide, by decide⟩ [0, 1, 2, 3, 4, 5, 6, 7, 8] (by decide) rfl (fx_rw C hB [0, 1, 2, 3, 4, 5, 6, 7, 8] rfl) 0 10 rfl rfl rfl rfl (Nat.le_of_ble_eq_true rfl) dX10_goes_22) (fun u3 hw => ?_)
        refine j_iinc C 1 (x1 + 1) [(1, .int (x1 + 1)), (0, .ref (am 0))] dX10_goes_25 rfl rfl (by decide) rfl ?_
        refine j_goto C 2 dX10_goes_28 (by decide) ?_
        refine j_lsub [1, 0] [(0, .ref (am 0)), (1, .int (x1 + 1))] rfl ?_
        exact ih (x1 + 1) u3 hw
set_option maxRecDepth 100000 in
set_option maxHeartbeats 8000000 in
theorem ml_X10_goes_33 {l : Launch} {D : va_G} {ca : Nat → ClassId} {sd : Nat → Nat}  {k : Kx} (am : Nat → Nat)  (kp : Nat → Int32) (wa : Nat → Int32) (fo : Nat → Int32) (ta : Nat → Int32) (bo : Nat → Int32) (so : Nat → Int32) (ce : Nat → Int64) (ik : Int32) (td : Int32) (tk : Int32) (bg : Int32) (aa : Int32) (vl : Int32) (bd : Int32) (C : Cx D ca sd cX10_goes RX10 none { frames := 4, cells := 0, slots := 0, locals := 92 } k 2) {Q : (Nat → Int32) → Prop} (hR : Rx (Rv D (fun u : (Nat → Int32) => Q u) (fun u => (wM ca am u kp wa fo ta bo so ce ik td tk bg aa vl bd))) 0 0 k) (hB : Wx k) {K : (Int32) → (Nat → Int32) → Prop} (hK : ∀ (x1' : Int32) (m' : Nat → Int32), K x1' m' → J l D k 2 0 0 98 (wM ca am m' kp wa fo ta bo so ce ik td tk bg aa vl bd) [(0, .ref (am 0)), (1, .int x1')] []) : ∀ (n : Nat) (x1 : Int32) (m : Nat → Int32), wpl_X10_goes_33   K n x1 m → J l D k 2 0 0 33 (wM ca am m kp wa fo ta bo so ce ik td tk bg aa vl bd) [(0, .ref (am 0)), (1, .int x1)] [] := by
  intro n
  induction n with
  | zero =>
    intro x1 m hw
    rw [wpl_X10_goes_33] at hw
    exact hw.elim
  | succ n ih =>
    intro x1 m hw
    rw [wpl_X10_goes_33] at hw
    refine j_iload_n C 1 dX10_goes_33 rfl ?_
    refine j_aload_n C 0 dX10_goes_34 rfl ?_
    refine j_get C fl_X10_9_10 0 dX10_goes_35 rfl rfl ?_
    refine j_iconst C 1 dX10_goes_38 (by decide) ?_
    have hi5 := hw.1
    replace hw := hw.2
    refine j_iald C 1 dX10_goes_39 rfl hi5 ?_
    refine j_icmp_ge C 98 dX10_goes_40 (by decide) (fun z => ?_) (fun z => ?_)
    · replace hw := hw.1 z
      exact hK x1 m hw
    · replace hw := hw.2 z
      refine j_aload_n C 0 dX10_goes_43 rfl ?_
      refine j_iload_n C 1 dX10_goes_44 rfl ?_
      refine j_iconst C 2 dX10_goes_45 (by decide) ?_
      refine j_ciZ C (jr_V C lkV_X10_45 (c_X10_it am m kp wa fo ta bo so ce ik td tk bg aa vl bd x1 2 hw) ⟨rfl, rfl, by decide, by decide, by decide, by decide⟩ [0, 1, 2, 3, 4, 5, 6, 7, 8] (by decide) rfl (fx_ro C) 0 10 rfl rfl rfl rfl (Nat.le_of_ble_eq_true rfl) dX10_goes_46) (fun r6 u6 hw => ?_)
      refine j_if_ge C 92 dX10_goes_49 (by decide) (fun z => ?_) (fun z => ?_)
      · replace hw := hw.1 z
        refine j_iinc C 1 (x1 + 1) [(1, .int (x1 + 1)), (0, .ref (am 0))] dX10_goes_92 rfl rfl (by decide) rfl ?_
        refine j_goto C 33 dX10_goes_95 (by decide) ?_
        refine j_lsub [1, 0] [(0, .ref (am 0)), (1, .int (x1 + 1))] rfl ?_
        exact ih (x1 + 1) m hw
      · replace hw := hw.2 z
        refine j_aload_n C 0 dX10_goes_52 rfl ?_
        refine j_iload_n C 1 dX10_goes_53 rfl ?_
        refine j_ciZ C (jr_V C lkV_X10_60 (c_X10_isDone am m kp wa fo ta bo so ce ik td tk bg aa vl bd x1 hw) ⟨rfl, rfl, by decide, by decide, by decide, by decide⟩ [0, 1, 2, 3, 4, 5, 6, 7, 8] (by decide) rfl (fx_ro C) 0 10 rfl rfl rfl rfl (Nat.le_of_ble_eq_true rfl) dX10_goes_54) (fun r7 u7 hw => ?_)
        refine j_if_ne C 92 dX10_goes_57 (by decide) (fun z => ?_) (fun z => ?_)
        · replace hw := hw.2 z
          refine j_iinc C 1 (x1 + 1) [(1, .int (x1 + 1)), (0, .ref (am 0))] dX10_goes_92 rfl rfl (by decide) rfl ?_
          refine j_goto C 33 dX10_goes_95 (by decide) ?_
          refine j_lsub [1, 0] [(0, .ref (am 0)), (1, .int (x1 + 1))] rfl ?_
          exact ih (x1 + 1) m hw
        · replace hw := hw.1 z
          refine j_aload_n C 0 dX10_goes_60 rfl ?_
          refine j_iload_n C 1 dX10_goes_61 rfl ?_
          refine j_iconst C 3 dX10_goes_62 (by decide) ?_
          refine j_aload_n C 0 dX10_goes_63 rfl ?_
          refine j_iload_n C 1 dX10_goes_64 rfl ?_
          refine j_iconst C 3 dX10_goes_65 (by decide) ?_
          refine j_ciZ C (jr_V C lkV_X10_45 (c_X10_it am m kp wa fo ta bo so ce ik td tk bg aa vl bd x1 3 hw) ⟨rfl, rfl, by decide, by decide, by decide, by decide⟩ [0, 1, 2, 3, 4, 5, 6, 7, 8] (by decide) rfl (fx_ro C) 0 10 rfl rfl rfl rfl (Nat.le_of_ble_eq_true rfl) dX10_goes_66) (fun r8 u8 hw => ?_)
          refine j_iconst C 1 dX10_goes_69 (by decide) ?_
          refine j_iadd C dX10_goes_70 ?_
          refine j_iconst C 0 dX10_goes_71 (by decide) ?_
          refine j_sipush C 999 dX10_goes_72 (by decide) ?_
          refine j_ciZ C (jr_S C lkS_X10_113 (c_X10_held (r8 + 1) 0 999 hw) ⟨rfl, rfl, by decide, by decide, by decide, by decide⟩ [] (by decide) rfl (fx_ro C) rfl rfl (Nat.le_of_ble_eq_true rfl) dX10_goes_75) (fun r9 u9 hw => ?_)
          refine j_cvT C hB 0 9 (fun u10 : (Nat → Int32) => (wM ca am u10 kp wa fo ta bo so ce ik td tk bg aa vl bd)) rfl (fun _ => rfl) (jr_V C lkV_X10_72 (c_X10_put am m kp wa fo ta bo so ce ik td tk bg aa vl bd x1 3 r9 hw) ⟨rfl, rfl, by decide, by decide, by decide, by decide⟩ [0, 1, 2, 3, 4, 5, 6, 7, 8] (by decide) rfl (fx_rw C hB [0, 1, 2, 3, 4, 5, 6, 7, 8] rfl) 0 10 rfl rfl rfl rfl (Nat.le_of_ble_eq_true rfl) dX10_goes_78) (fun u10 hw => ?_)
          refine j_aload_n C 0 dX10_goes_81 rfl ?_
          refine j_iload_n C 1 dX10_goes_82 rfl ?_
          refine j_iconst C 2 dX10_goes_83 (by decide) ?_
          refine j_aload_n C 0 dX10_goes_84 rfl ?_
          refine j_iload_n C 1 dX10_goes_85 rfl ?_
          refine j_ciZ C (jr_V C lkV_X10_107 (c_X10_winner am u10 kp wa fo ta bo so ce ik td tk bg aa vl bd x1 hw) ⟨rfl, rfl, by decide, by decide, by decide, by decide⟩ [0, 1, 2, 3, 4, 5, 6, 7, 8] (by decide) rfl (fx_ro C) 0 10 rfl rfl rfl rfl (Nat.le_of_ble_eq_true rfl) dX10_goes_86) (fun r11 u11 hw => ?_)
          refine j_cvT C hB 0 9 (fun u12 : (Nat → Int32) => (wM ca am u12 kp wa fo ta bo so ce ik td tk bg aa vl bd)) rfl (fun _ => rfl) (jr_V C lkV_X10_72 (c_X10_put am u10 kp wa fo ta bo so ce ik td tk bg aa vl bd x1 2 r11 hw) ⟨rfl, rfl, by decide, by decide, by decide, by decide⟩ [0, 1, 2, 3, 4, 5, 6, 7, 8] (by decide) rfl (fx_rw C hB [0, 1, 2, 3, 4, 5, 6, 7, 8] rfl) 0 10 rfl rfl rfl rfl (Nat.le_of_ble_eq_true rfl) dX10_goes_89) (fun u12 hw => ?_)
          refine j_iinc C 1 (x1 + 1) [(1, .int (x1 + 1)), (0, .ref (am 0))] dX10_goes_92 rfl rfl (by decide) rfl ?_
          refine j_goto C 33 dX10_goes_95 (by decide) ?_
          refine j_lsub [1, 0] [(0, .ref (am 0)), (1, .int (x1 + 1))] rfl ?_
          exact ih (x1 + 1) u12 hw
set_option maxRecDepth 100000 in
set_option maxHeartbeats 8000000 in
theorem c_X10_goes {l : Launch} {D : va_G} {ca : Nat → ClassId} {sd : Nat → Nat}  (am : Nat → Nat) (m : Nat → Int32) (kp : Nat → Int32) (wa : Nat → Int32) (fo : Nat → Int32) (ta : Nat → Int32) (bo : Nat → Int32) (so : Nat → Int32) (ce : Nat → Int64) (ik : Int32) (td : Int32) (tk : Int32) (bg : Int32) (aa : Int32) (vl : Int32) (bd : Int32)    {Q : (Nat → Int32) → Prop} (hw : wp_X10_goes m   Q) : Cn l D ca sd yX10_goes cX10_goes 2 none { frames := 4, cells := 0, slots := 0, locals := 92 } [.ref (am 0)] (wM ca am m kp wa fo ta bo so ce ik td tk bg aa vl bd) (wM ca am m kp wa fo ta bo so ce ik td tk bg aa vl bd) 0 0 (Rv D (fun u : (Nat → Int32) => Q u) (fun u => (wM ca am u kp wa fo ta bo so ce ik td tk bg aa vl bd))) := by
  refine cn_of (by decide) (Nat.le_of_ble_eq_true rfl) (fun k C hR hB _ => ?_)
  have C : Cx D ca sd cX10_goes RX10 none { frames := 4, cells := 0, slots := 0, locals := 92 } k 2 := C
  unfold wp_X10_goes at hw
  show J l D k 2 0 0 0 (wM ca am m kp wa fo ta bo so ce ik td tk bg aa vl bd) [(0, .ref (am 0))] []
  refine j_iconst C 0 dX10_goes_0 (by decide) ?_
  refine j_istore_n C [(1, .int 0), (0, .ref (am 0))] dX10_goes_1 (by decide) rfl ?_
  refine j_lsub [1, 0] [(0, .ref (am 0)), (1, .int 0)] rfl ?_
  obtain ⟨n4, hw⟩ := hw
  refine ml_X10_goes_2 am  kp wa fo ta bo so ce ik td tk bg aa vl bd C hR hB (fun y4_1 y4_m hw => ?_) n4 0 m hw
  refine j_iconst C 0 dX10_goes_31 (by decide) ?_
  refine j_istore_n C [(1, .int 0), (0, .ref (am 0))] dX10_goes_32 (by decide) rfl ?_
  refine j_lsub [1, 0] [(0, .ref (am 0)), (1, .int 0)] rfl ?_
  obtain ⟨n13, hw⟩ := hw
  refine ml_X10_goes_33 am  kp wa fo ta bo so ce ik td tk bg aa vl bd C hR hB (fun y13_1 y13_m hw => ?_) n13 0 y4_m hw
  refine j_aload_n C 0 dX10_goes_98 rfl ?_
  refine j_get C fl_X10_9_10 0 dX10_goes_99 rfl rfl ?_
  refine j_iconst C 0 dX10_goes_102 (by decide) ?_
  refine j_dup2 C dX10_goes_103 rfl rfl ?_
  have hi14 := hw.1
  replace hw := hw.2
  refine j_iald C 1 dX10_goes_104 rfl hi14 ?_
  refine j_iconst C 1 dX10_goes_105 (by decide) ?_
  refine j_iadd C dX10_goes_106 ?_
  have hi15 := hw.1
  replace hw := hw.2
  refine j_iast C hB 1 (wM ca am (upd y13_m ((0 : Int32).toNatClampNeg) ((y13_m ((0 : Int32).toNatClampNeg)) + 1)) kp wa fo ta bo so ce ik td tk bg aa vl bd) dX10_goes_107 rfl hi15 rfl ?_
  exact j_vret C hB hR (upd y13_m ((0 : Int32).toNatClampNeg) ((y13_m ((0 : Int32).toNatClampNeg)) + 1)) rfl dX10_goes_108 hw rfl
def wpl_X10_goesFor_2 (x1 : Int32) (K : (Int32) → (Nat → Int32) → Prop) : Nat → (Int32) → (Nat → Int32) → Prop
  | 0, _, _ => False
  | n + 1, x2, m => (x1 ≤ x2 → K x2 m) ∧ (¬ (x1 ≤ x2) → wp_X10_goes m (fun c1_0 => wpl_X10_goesFor_2 x1  K n (x2 + 1) c1_0))
def wp_X10_goesFor (m : Nat → Int32)  (a1 : Int32) (Q : (Nat → Int32) → Prop) : Prop := ∃ n2 : Nat, wpl_X10_goesFor_2 a1  (fun y2_2 y2_m => Q y2_m) n2 0 m
set_option maxRecDepth 100000 in
set_option maxHeartbeats 8000000 in
theorem ml_X10_goesFor_2 {l : Launch} {D : va_G} {ca : Nat → ClassId} {sd : Nat → Nat}  {k : Kx} (am : Nat → Nat)  (kp : Nat → Int32) (wa : Nat → Int32) (fo : Nat → Int32) (ta : Nat → Int32) (bo : Nat → Int32) (so : Nat → Int32) (ce : Nat → Int64) (ik : Int32) (td : Int32) (tk : Int32) (bg : Int32) (aa : Int32) (vl : Int32) (bd : Int32) (x1 : Int32) (C : Cx D ca sd cX10_goesFor RX10 none { frames := 5, cells := 0, slots := 0, locals := 113 } k 3) {Q : (Nat → Int32) → Prop} (hR : Rx (Rv D (fun u : (Nat → Int32) => Q u) (fun u => (wM ca am u kp wa fo ta bo so ce ik td tk bg aa vl bd))) 0 0 k) (hB : Wx k) {K : (Int32) → (Nat → Int32) → Prop} (hK : ∀ (x2' : Int32) (m' : Nat → Int32), K x2' m' → J l D k 3 0 0 17 (wM ca am m' kp wa fo ta bo so ce ik td tk bg aa vl bd) [(0, .ref (am 0)), (1, .int x1), (2, .int x2')] []) : ∀ (n : Nat) (x2 : Int32) (m : Nat → Int32), wpl_X10_goesFor_2 x1  K n x2 m → J l D k 3 0 0 2 (wM ca am m kp wa fo ta bo so ce ik td tk bg aa vl bd) [(0, .ref (am 0)), (1, .int x1), (2, .int x2)] [] := by
  intro n
  induction n with
  | zero =>
    intro x2 m hw
    rw [wpl_X10_goesFor_2] at hw
    exact hw.elim
  | succ n ih =>
    intro x2 m hw
    rw [wpl_X10_goesFor_2] at hw
    refine j_iload_n C 2 dX10_goesFor_2 rfl ?_
    refine j_iload_n C 1 dX10_goesFor_3 rfl ?_
    refine j_icmp_ge C 17 dX10_goesFor_4 (by decide) (fun z => ?_) (fun z => ?_)
    · replace hw := hw.1 z
      exact hK x2 m hw
    · replace hw := hw.2 z
      refine j_aload_n C 0 dX10_goesFor_7 rfl ?_
      refine j_cvT C hB 0 9 (fun u1 : (Nat → Int32) => (wM ca am u1 kp wa fo ta bo so ce ik td tk bg aa vl bd)) rfl (fun _ => rfl) (jr_V C lkV_X10_121 (c_X10_goes am m kp wa fo ta bo so ce ik td tk bg aa vl bd hw) ⟨rfl, rfl, by decide, by decide, by decide, by decide⟩ [0, 1, 2, 3, 4, 5, 6, 7, 8] (by decide) rfl (fx_rw C hB [0, 1, 2, 3, 4, 5, 6, 7, 8] rfl) 0 10 rfl rfl rfl rfl (Nat.le_of_ble_eq_true rfl) dX10_goesFor_8) (fun u1 hw => ?_)
      refine j_iinc C 2 (x2 + 1) [(2, .int (x2 + 1)), (0, .ref (am 0)), (1, .int x1)] dX10_goesFor_11 rfl rfl (by decide) rfl ?_
      refine j_goto C 2 dX10_goesFor_14 (by decide) ?_
      refine j_lsub [1, 2, 0] [(0, .ref (am 0)), (1, .int x1), (2, .int (x2 + 1))] rfl ?_
      exact ih (x2 + 1) u1 hw
set_option maxRecDepth 100000 in
set_option maxHeartbeats 8000000 in
theorem c_X10_goesFor {l : Launch} {D : va_G} {ca : Nat → ClassId} {sd : Nat → Nat}  (am : Nat → Nat) (m : Nat → Int32) (kp : Nat → Int32) (wa : Nat → Int32) (fo : Nat → Int32) (ta : Nat → Int32) (bo : Nat → Int32) (so : Nat → Int32) (ce : Nat → Int64) (ik : Int32) (td : Int32) (tk : Int32) (bg : Int32) (aa : Int32) (vl : Int32) (bd : Int32)  (a1 : Int32)  {Q : (Nat → Int32) → Prop} (hw : wp_X10_goesFor m  a1 Q) : Cn l D ca sd yX10_goesFor cX10_goesFor 3 none { frames := 5, cells := 0, slots := 0, locals := 113 } [.ref (am 0), .int a1] (wM ca am m kp wa fo ta bo so ce ik td tk bg aa vl bd) (wM ca am m kp wa fo ta bo so ce ik td tk bg aa vl bd) 0 0 (Rv D (fun u : (Nat → Int32) => Q u) (fun u => (wM ca am u kp wa fo ta bo so ce ik td tk bg aa vl bd))) := by
  refine cn_of (by decide) (Nat.le_of_ble_eq_true rfl) (fun k C hR hB _ => ?_)
  have C : Cx D ca sd cX10_goesFor RX10 none { frames := 5, cells := 0, slots := 0, locals := 113 } k 3 := C
  unfold wp_X10_goesFor at hw
  show J l D k 3 0 0 0 (wM ca am m kp wa fo ta bo so ce ik td tk bg aa vl bd) [(0, .ref (am 0)), (1, .int a1)] []
  refine j_iconst C 0 dX10_goesFor_0 (by decide) ?_
  refine j_istore_n C [(2, .int 0), (0, .ref (am 0)), (1, .int a1)] dX10_goesFor_1 (by decide) rfl ?_
  refine j_lsub [1, 2, 0] [(0, .ref (am 0)), (1, .int a1), (2, .int 0)] rfl ?_
  obtain ⟨n2, hw⟩ := hw
  refine ml_X10_goesFor_2 am  kp wa fo ta bo so ce ik td tk bg aa vl bd a1 C hR hB (fun y2_2 y2_m hw => ?_) n2 0 m hw
  exact j_vret C hB hR y2_m rfl dX10_goesFor_17 hw rfl
def wpl_X10_doneOnes_4 (m : Nat → Int32) (K : (Int32) → (Int32) → Prop) : Nat → (Int32) → (Int32) → Prop
  | 0, _, _ => False
  | n + 1, x1, x2 => vp_in 1 52 ∧ (((m ((1 : Int32).toNatClampNeg)) ≤ x2 → K x1 x2) ∧ (¬ ((m ((1 : Int32).toNatClampNeg)) ≤ x2) → wp_X10_isDone m x2 (fun r2 => (r2 = 0 → wpl_X10_doneOnes_4 m  K n (x1 ||| 0) (x2 + 1)) ∧ (¬ (r2 = 0) → wpl_X10_doneOnes_4 m  K n (x1 ||| (1 <<< (x2 &&& 31))) (x2 + 1)))))
def wp_X10_doneOnes (m : Nat → Int32)   (Q : (Int32) → Prop) : Prop := ∃ n3 : Nat, wpl_X10_doneOnes_4 m  (fun y3_1 y3_2 => Q y3_1) n3 0 0
set_option maxRecDepth 100000 in
set_option maxHeartbeats 8000000 in
theorem ml_X10_doneOnes_4 {l : Launch} {D : va_G} {ca : Nat → ClassId} {sd : Nat → Nat}  {k : Kx} (am : Nat → Nat)  (m : Nat → Int32) (kp : Nat → Int32) (wa : Nat → Int32) (fo : Nat → Int32) (ta : Nat → Int32) (bo : Nat → Int32) (so : Nat → Int32) (ce : Nat → Int64) (ik : Int32) (td : Int32) (tk : Int32) (bg : Int32) (aa : Int32) (vl : Int32) (bd : Int32) (C : Cx D ca sd cX10_doneOnes RX10 (some .int) { frames := 2, cells := 0, slots := 0, locals := 43 } k 3) {Q : (Int32) → Prop} (hR : Rx (Ri D (fun (r : Int32) (u : Unit) => Q r ) (fun _ => [])) 0 0 k) {K : (Int32) → (Int32) → Prop} (hK : ∀ (x1' : Int32) (x2' : Int32), K x1' x2' → J l D k 3 0 0 38 (wM ca am m kp wa fo ta bo so ce ik td tk bg aa vl bd) [(0, .ref (am 0)), (1, .int x1'), (2, .int x2')] []) : ∀ (n : Nat) (x1 : Int32) (x2 : Int32), wpl_X10_doneOnes_4 m  K n x1 x2 → J l D k 3 0 0 4 (wM ca am m kp wa fo ta bo so ce ik td tk bg aa vl bd) [(0, .ref (am 0)), (1, .int x1), (2, .int x2)] [] := by
  intro n
  induction n with
  | zero =>
    intro x1 x2 hw
    rw [wpl_X10_doneOnes_4] at hw
    exact hw.elim
  | succ n ih =>
    intro x1 x2 hw
    rw [wpl_X10_doneOnes_4] at hw
    refine j_iload_n C 2 dX10_doneOnes_4 rfl ?_
    refine j_aload_n C 0 dX10_doneOnes_5 rfl ?_
    refine j_get C fl_X10_9_10 0 dX10_doneOnes_6 rfl rfl ?_
    refine j_iconst C 1 dX10_doneOnes_9 (by decide) ?_
    have hi1 := hw.1
    replace hw := hw.2
    refine j_iald C 1 dX10_doneOnes_10 rfl hi1 ?_
    refine j_icmp_ge C 38 dX10_doneOnes_11 (by decide) (fun z => ?_) (fun z => ?_)
    · replace hw := hw.1 z
      exact hK x1 x2 hw
    · replace hw := hw.2 z
      refine j_iload_n C 1 dX10_doneOnes_14 rfl ?_
      refine j_aload_n C 0 dX10_doneOnes_15 rfl ?_
      refine j_iload_n C 2 dX10_doneOnes_16 rfl ?_
      refine j_ciZ C (jr_V C lkV_X10_60 (c_X10_isDone am m kp wa fo ta bo so ce ik td tk bg aa vl bd x2 hw) ⟨rfl, rfl, by decide, by decide, by decide, by decide⟩ [0, 1, 2, 3, 4, 5, 6, 7, 8] (by decide) rfl (fx_ro C) 0 10 rfl rfl rfl rfl (Nat.le_of_ble_eq_true rfl) dX10_doneOnes_17) (fun r2 u2 hw => ?_)
      refine j_if_eq C 29 dX10_doneOnes_20 (by decide) (fun z => ?_) (fun z => ?_)
      · replace hw := hw.1 z
        refine j_iconst C 0 dX10_doneOnes_29 (by decide) ?_
        refine j_ior C dX10_doneOnes_30 ?_
        refine j_istore_n C [(1, .int (x1 ||| 0)), (0, .ref (am 0)), (2, .int x2)] dX10_doneOnes_31 (by decide) rfl ?_
        refine j_iinc C 2 (x2 + 1) [(2, .int (x2 + 1)), (1, .int (x1 ||| 0)), (0, .ref (am 0))] dX10_doneOnes_32 rfl rfl (by decide) rfl ?_
        refine j_goto C 4 dX10_doneOnes_35 (by decide) ?_
        refine j_lsub [2, 1, 0] [(0, .ref (am 0)), (1, .int (x1 ||| 0)), (2, .int (x2 + 1))] rfl ?_
        exact ih (x1 ||| 0) (x2 + 1) hw
      · replace hw := hw.2 z
        refine j_iconst C 1 dX10_doneOnes_23 (by decide) ?_
        refine j_iload_n C 2 dX10_doneOnes_24 rfl ?_
        refine j_ishl C dX10_doneOnes_25 ?_
        refine j_goto C 30 dX10_doneOnes_26 (by decide) ?_
        refine j_ior C dX10_doneOnes_30 ?_
        refine j_istore_n C [(1, .int (x1 ||| (1 <<< (x2 &&& 31)))), (0, .ref (am 0)), (2, .int x2)] dX10_doneOnes_31 (by decide) rfl ?_
        refine j_iinc C 2 (x2 + 1) [(2, .int (x2 + 1)), (1, .int (x1 ||| (1 <<< (x2 &&& 31)))), (0, .ref (am 0))] dX10_doneOnes_32 rfl rfl (by decide) rfl ?_
        refine j_goto C 4 dX10_doneOnes_35 (by decide) ?_
        refine j_lsub [2, 1, 0] [(0, .ref (am 0)), (1, .int (x1 ||| (1 <<< (x2 &&& 31)))), (2, .int (x2 + 1))] rfl ?_
        exact ih (x1 ||| (1 <<< (x2 &&& 31))) (x2 + 1) hw
set_option maxRecDepth 100000 in
set_option maxHeartbeats 8000000 in
theorem c_X10_doneOnes {l : Launch} {D : va_G} {ca : Nat → ClassId} {sd : Nat → Nat}  (am : Nat → Nat) (m : Nat → Int32) (kp : Nat → Int32) (wa : Nat → Int32) (fo : Nat → Int32) (ta : Nat → Int32) (bo : Nat → Int32) (so : Nat → Int32) (ce : Nat → Int64) (ik : Int32) (td : Int32) (tk : Int32) (bg : Int32) (aa : Int32) (vl : Int32) (bd : Int32)    {Q : (Int32) → Prop} (hw : wp_X10_doneOnes m   Q) : Cn l D ca sd yX10_doneOnes cX10_doneOnes 3 (some .int) { frames := 2, cells := 0, slots := 0, locals := 43 } [.ref (am 0)] (wM ca am m kp wa fo ta bo so ce ik td tk bg aa vl bd) [] 0 0 (Ri D (fun (r : Int32) (u : Unit) => Q r ) (fun _ => [])) := by
  refine cn_ofR (by decide) (Nat.le_of_ble_eq_true rfl) (fun k C hR => ?_)
  have C : Cx D ca sd cX10_doneOnes RX10 (some .int) { frames := 2, cells := 0, slots := 0, locals := 43 } k 3 := C
  unfold wp_X10_doneOnes at hw
  show J l D k 3 0 0 0 (wM ca am m kp wa fo ta bo so ce ik td tk bg aa vl bd) [(0, .ref (am 0))] []
  refine j_iconst C 0 dX10_doneOnes_0 (by decide) ?_
  refine j_istore_n C [(1, .int 0), (0, .ref (am 0))] dX10_doneOnes_1 (by decide) rfl ?_
  refine j_iconst C 0 dX10_doneOnes_2 (by decide) ?_
  refine j_istore_n C [(2, .int 0), (1, .int 0), (0, .ref (am 0))] dX10_doneOnes_3 (by decide) rfl ?_
  refine j_lsub [2, 1, 0] [(0, .ref (am 0)), (1, .int 0), (2, .int 0)] rfl ?_
  obtain ⟨n3, hw⟩ := hw
  refine ml_X10_doneOnes_4 am  m kp wa fo ta bo so ce ik td tk bg aa vl bd C hR (fun y3_1 y3_2 hw => ?_) n3 0 0 hw
  refine j_iload_n C 1 dX10_doneOnes_38 rfl ?_
  exact j_iretR C hR () rfl dX10_doneOnes_39 hw
def wp_X10_areDone (m : Nat → Int32)   (Q : (Int32) → Prop) : Prop := wp_X10_doneOnes m (fun r1 => vp_in 1 52 ∧ ((r1 = ((1 <<< ((m ((1 : Int32).toNatClampNeg)) &&& 31)) - 1) → Q 1) ∧ (¬ (r1 = ((1 <<< ((m ((1 : Int32).toNatClampNeg)) &&& 31)) - 1)) → Q 0)))
set_option maxRecDepth 100000 in
set_option maxHeartbeats 8000000 in
theorem c_X10_areDone {l : Launch} {D : va_G} {ca : Nat → ClassId} {sd : Nat → Nat}  (am : Nat → Nat) (m : Nat → Int32) (kp : Nat → Int32) (wa : Nat → Int32) (fo : Nat → Int32) (ta : Nat → Int32) (bo : Nat → Int32) (so : Nat → Int32) (ce : Nat → Int64) (ik : Int32) (td : Int32) (tk : Int32) (bg : Int32) (aa : Int32) (vl : Int32) (bd : Int32)    {Q : (Int32) → Prop} (hw : wp_X10_areDone m   Q) : Cn l D ca sd yX10_areDone cX10_areDone 1 (some .boolean) { frames := 3, cells := 0, slots := 0, locals := 65 } [.ref (am 0)] (wM ca am m kp wa fo ta bo so ce ik td tk bg aa vl bd) [] 0 0 (Ri D (fun (r : Int32) (u : Unit) => Q r ) (fun _ => [])) := by
  refine cn_ofR (by decide) (Nat.le_of_ble_eq_true rfl) (fun k C hR => ?_)
  have C : Cx D ca sd cX10_areDone RX10 (some .boolean) { frames := 3, cells := 0, slots := 0, locals := 65 } k 1 := C
  unfold wp_X10_areDone at hw
  show J l D k 1 0 0 0 (wM ca am m kp wa fo ta bo so ce ik td tk bg aa vl bd) [(0, .ref (am 0))] []
  refine j_aload_n C 0 dX10_areDone_0 rfl ?_
  refine j_ciZ C (jr_V C lkV_X10_124 (c_X10_doneOnes am m kp wa fo ta bo so ce ik td tk bg aa vl bd hw) ⟨rfl, rfl, by decide, by decide, by decide, by decide⟩ [0, 1, 2, 3, 4, 5, 6, 7, 8] (by decide) rfl (fx_ro C) 0 10 rfl rfl rfl rfl (Nat.le_of_ble_eq_true rfl) dX10_areDone_1) (fun r1 u1 hw => ?_)
  refine j_iconst C 1 dX10_areDone_4 (by decide) ?_
  refine j_aload_n C 0 dX10_areDone_5 rfl ?_
  refine j_get C fl_X10_9_10 0 dX10_areDone_6 rfl rfl ?_
  refine j_iconst C 1 dX10_areDone_9 (by decide) ?_
  have hi2 := hw.1
  replace hw := hw.2
  refine j_iald C 1 dX10_areDone_10 rfl hi2 ?_
  refine j_ishl C dX10_areDone_11 ?_
  refine j_iconst C 1 dX10_areDone_12 (by decide) ?_
  refine j_isub C dX10_areDone_13 ?_
  refine j_icmp_ne C 21 dX10_areDone_14 (by decide) (fun z => ?_) (fun z => ?_)
  · replace hw := hw.2 z
    refine j_iconst C 0 dX10_areDone_21 (by decide) ?_
    exact j_zretR C hR (by decide) () rfl dX10_areDone_22 hw
  · replace hw := hw.1 z
    refine j_iconst C 1 dX10_areDone_17 (by decide) ?_
    refine j_goto C 22 dX10_areDone_18 (by decide) ?_
    exact j_zretR C hR (by decide) () rfl dX10_areDone_22 hw
def wpl_X10_sums_4 (m : Nat → Int32) (x1 : Int32) (K : (Int32) → (Int32) → Prop) : Nat → (Int32) → (Int32) → Prop
  | 0, _, _ => False
  | n + 1, x2, x3 => vp_in 1 52 ∧ (((m ((1 : Int32).toNatClampNeg)) ≤ x3 → K x2 x3) ∧ (¬ ((m ((1 : Int32).toNatClampNeg)) ≤ x3) → wp_X10_it m x3 x1 (fun r2 => wpl_X10_sums_4 m x1  K n (x2 + r2) (x3 + 1))))
def wp_X10_sums (m : Nat → Int32)  (a1 : Int32) (Q : (Int32) → Prop) : Prop := ∃ n3 : Nat, wpl_X10_sums_4 m a1  (fun y3_2 y3_3 => Q y3_2) n3 0 0
set_option maxRecDepth 100000 in
set_option maxHeartbeats 8000000 in
theorem ml_X10_sums_4 {l : Launch} {D : va_G} {ca : Nat → ClassId} {sd : Nat → Nat}  {k : Kx} (am : Nat → Nat)  (m : Nat → Int32) (kp : Nat → Int32) (wa : Nat → Int32) (fo : Nat → Int32) (ta : Nat → Int32) (bo : Nat → Int32) (so : Nat → Int32) (ce : Nat → Int64) (ik : Int32) (td : Int32) (tk : Int32) (bg : Int32) (aa : Int32) (vl : Int32) (bd : Int32) (x1 : Int32) (C : Cx D ca sd cX10_sums RX10 (some .int) { frames := 1, cells := 0, slots := 0, locals := 22 } k 4) {Q : (Int32) → Prop} (hR : Rx (Ri D (fun (r : Int32) (u : Unit) => Q r ) (fun _ => [])) 0 0 k) {K : (Int32) → (Int32) → Prop} (hK : ∀ (x2' : Int32) (x3' : Int32), K x2' x3' → J l D k 4 0 0 29 (wM ca am m kp wa fo ta bo so ce ik td tk bg aa vl bd) [(0, .ref (am 0)), (1, .int x1), (2, .int x2'), (3, .int x3')] []) : ∀ (n : Nat) (x2 : Int32) (x3 : Int32), wpl_X10_sums_4 m x1  K n x2 x3 → J l D k 4 0 0 4 (wM ca am m kp wa fo ta bo so ce ik td tk bg aa vl bd) [(0, .ref (am 0)), (1, .int x1), (2, .int x2), (3, .int x3)] [] := by
  intro n
  induction n with
  | zero =>
    intro x2 x3 hw
    rw [wpl_X10_sums_4] at hw
    exact hw.elim
  | succ n ih =>
    intro x2 x3 hw
    rw [wpl_X10_sums_4] at hw
    refine j_iload_n C 3 dX10_sums_4 rfl ?_
    refine j_aload_n C 0 dX10_sums_5 rfl ?_
    refine j_get C fl_X10_9_10 0 dX10_sums_6 rfl rfl ?_
    refine j_iconst C 1 dX10_sums_9 (by decide) ?_
    have hi1 := hw.1
    replace hw := hw.2
    refine j_iald C 1 dX10_sums_10 rfl hi1 ?_
    refine j_icmp_ge C 29 dX10_sums_11 (by decide) (fun z => ?_) (fun z => ?_)
    · replace hw := hw.1 z
      exact hK x2 x3 hw
    · replace hw := hw.2 z
      refine j_iload_n C 2 dX10_sums_14 rfl ?_
      refine j_aload_n C 0 dX10_sums_15 rfl ?_
      refine j_iload_n C 3 dX10_sums_16 rfl ?_
      refine j_iload_n C 1 dX10_sums_17 rfl ?_
      refine j_ciZ C (jr_V C lkV_X10_45 (c_X10_it am m kp wa fo ta bo so ce ik td tk bg aa vl bd x3 x1 hw) ⟨rfl, rfl, by decide, by decide, by decide, by decide⟩ [0, 1, 2, 3, 4, 5, 6, 7, 8] (by decide) rfl (fx_ro C) 0 10 rfl rfl rfl rfl (Nat.le_of_ble_eq_true rfl) dX10_sums_18) (fun r2 u2 hw => ?_)
      refine j_iadd C dX10_sums_21 ?_
      refine j_istore_n C [(2, .int (x2 + r2)), (0, .ref (am 0)), (1, .int x1), (3, .int x3)] dX10_sums_22 (by decide) rfl ?_
      refine j_iinc C 3 (x3 + 1) [(3, .int (x3 + 1)), (2, .int (x2 + r2)), (0, .ref (am 0)), (1, .int x1)] dX10_sums_23 rfl rfl (by decide) rfl ?_
      refine j_goto C 4 dX10_sums_26 (by decide) ?_
      refine j_lsub [2, 3, 1, 0] [(0, .ref (am 0)), (1, .int x1), (2, .int (x2 + r2)), (3, .int (x3 + 1))] rfl ?_
      exact ih (x2 + r2) (x3 + 1) hw
set_option maxRecDepth 100000 in
set_option maxHeartbeats 8000000 in
theorem c_X10_sums {l : Launch} {D : va_G} {ca : Nat → ClassId} {sd : Nat → Nat}  (am : Nat → Nat) (m : Nat → Int32) (kp : Nat → Int32) (wa : Nat → Int32) (fo : Nat → Int32) (ta : Nat → Int32) (bo : Nat → Int32) (so : Nat → Int32) (ce : Nat → Int64) (ik : Int32) (td : Int32) (tk : Int32) (bg : Int32) (aa : Int32) (vl : Int32) (bd : Int32)  (a1 : Int32)  {Q : (Int32) → Prop} (hw : wp_X10_sums m  a1 Q) : Cn l D ca sd yX10_sums cX10_sums 4 (some .int) { frames := 1, cells := 0, slots := 0, locals := 22 } [.ref (am 0), .int a1] (wM ca am m kp wa fo ta bo so ce ik td tk bg aa vl bd) [] 0 0 (Ri D (fun (r : Int32) (u : Unit) => Q r ) (fun _ => [])) := by
  refine cn_ofR (by decide) (Nat.le_of_ble_eq_true rfl) (fun k C hR => ?_)
  have C : Cx D ca sd cX10_sums RX10 (some .int) { frames := 1, cells := 0, slots := 0, locals := 22 } k 4 := C
  unfold wp_X10_sums at hw
  show J l D k 4 0 0 0 (wM ca am m kp wa fo ta bo so ce ik td tk bg aa vl bd) [(0, .ref (am 0)), (1, .int a1)] []
  refine j_iconst C 0 dX10_sums_0 (by decide) ?_
  refine j_istore_n C [(2, .int 0), (0, .ref (am 0)), (1, .int a1)] dX10_sums_1 (by decide) rfl ?_
  refine j_iconst C 0 dX10_sums_2 (by decide) ?_
  refine j_istore_n C [(3, .int 0), (2, .int 0), (0, .ref (am 0)), (1, .int a1)] dX10_sums_3 (by decide) rfl ?_
  refine j_lsub [2, 3, 1, 0] [(0, .ref (am 0)), (1, .int a1), (2, .int 0), (3, .int 0)] rfl ?_
  obtain ⟨n3, hw⟩ := hw
  refine ml_X10_sums_4 am  m kp wa fo ta bo so ce ik td tk bg aa vl bd a1 C hR (fun y3_2 y3_3 hw => ?_) n3 0 0 hw
  refine j_iload_n C 2 dX10_sums_29 rfl ?_
  exact j_iretR C hR () rfl dX10_sums_30 hw
def wpl_X10_allMade_4 (m : Nat → Int32) (K : (Int32) → (Int32) → Prop) : Nat → (Int32) → (Int32) → Prop
  | 0, _, _ => False
  | n + 1, x1, x2 => (6 ≤ x2 → K x1 x2) ∧ (¬ (6 ≤ x2) → wp_X10_his m x2 2 (fun r1 => wpl_X10_allMade_4 m  K n (x1 + r1) (x2 + 1)))
def wp_X10_allMade (m : Nat → Int32)   (Q : (Int32) → Prop) : Prop := ∃ n2 : Nat, wpl_X10_allMade_4 m  (fun y2_1 y2_2 => Q y2_1) n2 0 0
set_option maxRecDepth 100000 in
set_option maxHeartbeats 8000000 in
theorem ml_X10_allMade_4 {l : Launch} {D : va_G} {ca : Nat → ClassId} {sd : Nat → Nat}  {k : Kx} (am : Nat → Nat)  (m : Nat → Int32) (kp : Nat → Int32) (wa : Nat → Int32) (fo : Nat → Int32) (ta : Nat → Int32) (bo : Nat → Int32) (so : Nat → Int32) (ce : Nat → Int64) (ik : Int32) (td : Int32) (tk : Int32) (bg : Int32) (aa : Int32) (vl : Int32) (bd : Int32) (C : Cx D ca sd cX10_allMade RX10 (some .int) { frames := 1, cells := 0, slots := 0, locals := 22 } k 3) {Q : (Int32) → Prop} (hR : Rx (Ri D (fun (r : Int32) (u : Unit) => Q r ) (fun _ => [])) 0 0 k) {K : (Int32) → (Int32) → Prop} (hK : ∀ (x1' : Int32) (x2' : Int32), K x1' x2' → J l D k 3 0 0 25 (wM ca am m kp wa fo ta bo so ce ik td tk bg aa vl bd) [(0, .ref (am 0)), (1, .int x1'), (2, .int x2')] []) : ∀ (n : Nat) (x1 : Int32) (x2 : Int32), wpl_X10_allMade_4 m  K n x1 x2 → J l D k 3 0 0 4 (wM ca am m kp wa fo ta bo so ce ik td tk bg aa vl bd) [(0, .ref (am 0)), (1, .int x1), (2, .int x2)] [] := by
  intro n
  induction n with
  | zero =>
    intro x1 x2 hw
    rw [wpl_X10_allMade_4] at hw
    exact hw.elim
  | succ n ih =>
    intro x1 x2 hw
    rw [wpl_X10_allMade_4] at hw
    refine j_iload_n C 2 dX10_allMade_4 rfl ?_
    refine j_bipush C 6 dX10_allMade_5 (by decide) ?_
    refine j_icmp_ge C 25 dX10_allMade_7 (by decide) (fun z => ?_) (fun z => ?_)
    · replace hw := hw.1 z
      exact hK x1 x2 hw
    · replace hw := hw.2 z
      refine j_iload_n C 1 dX10_allMade_10 rfl ?_
      refine j_aload_n C 0 dX10_allMade_11 rfl ?_
      refine j_iload_n C 2 dX10_allMade_12 rfl ?_
      refine j_iconst C 2 dX10_allMade_13 (by decide) ?_
      refine j_ciZ C (jr_V C lkV_X10_63 (c_X10_his am m kp wa fo ta bo so ce ik td tk bg aa vl bd x2 2 hw) ⟨rfl, rfl, by decide, by decide, by decide, by decide⟩ [0, 1, 2, 3, 4, 5, 6, 7, 8] (by decide) rfl (fx_ro C) 0 10 rfl rfl rfl rfl (Nat.le_of_ble_eq_true rfl) dX10_allMade_14) (fun r1 u1 hw => ?_)
      refine j_iadd C dX10_allMade_17 ?_
      refine j_istore_n C [(1, .int (x1 + r1)), (0, .ref (am 0)), (2, .int x2)] dX10_allMade_18 (by decide) rfl ?_
      refine j_iinc C 2 (x2 + 1) [(2, .int (x2 + 1)), (1, .int (x1 + r1)), (0, .ref (am 0))] dX10_allMade_19 rfl rfl (by decide) rfl ?_
      refine j_goto C 4 dX10_allMade_22 (by decide) ?_
      refine j_lsub [2, 1, 0] [(0, .ref (am 0)), (1, .int (x1 + r1)), (2, .int (x2 + 1))] rfl ?_
      exact ih (x1 + r1) (x2 + 1) hw
set_option maxRecDepth 100000 in
set_option maxHeartbeats 8000000 in
theorem c_X10_allMade {l : Launch} {D : va_G} {ca : Nat → ClassId} {sd : Nat → Nat}  (am : Nat → Nat) (m : Nat → Int32) (kp : Nat → Int32) (wa : Nat → Int32) (fo : Nat → Int32) (ta : Nat → Int32) (bo : Nat → Int32) (so : Nat → Int32) (ce : Nat → Int64) (ik : Int32) (td : Int32) (tk : Int32) (bg : Int32) (aa : Int32) (vl : Int32) (bd : Int32)    {Q : (Int32) → Prop} (hw : wp_X10_allMade m   Q) : Cn l D ca sd yX10_allMade cX10_allMade 3 (some .int) { frames := 1, cells := 0, slots := 0, locals := 22 } [.ref (am 0)] (wM ca am m kp wa fo ta bo so ce ik td tk bg aa vl bd) [] 0 0 (Ri D (fun (r : Int32) (u : Unit) => Q r ) (fun _ => [])) := by
  refine cn_ofR (by decide) (Nat.le_of_ble_eq_true rfl) (fun k C hR => ?_)
  have C : Cx D ca sd cX10_allMade RX10 (some .int) { frames := 1, cells := 0, slots := 0, locals := 22 } k 3 := C
  unfold wp_X10_allMade at hw
  show J l D k 3 0 0 0 (wM ca am m kp wa fo ta bo so ce ik td tk bg aa vl bd) [(0, .ref (am 0))] []
  refine j_iconst C 0 dX10_allMade_0 (by decide) ?_
  refine j_istore_n C [(1, .int 0), (0, .ref (am 0))] dX10_allMade_1 (by decide) rfl ?_
  refine j_iconst C 0 dX10_allMade_2 (by decide) ?_
  refine j_istore_n C [(2, .int 0), (1, .int 0), (0, .ref (am 0))] dX10_allMade_3 (by decide) rfl ?_
  refine j_lsub [2, 1, 0] [(0, .ref (am 0)), (1, .int 0), (2, .int 0)] rfl ?_
  obtain ⟨n2, hw⟩ := hw
  refine ml_X10_allMade_4 am  m kp wa fo ta bo so ce ik td tk bg aa vl bd C hR (fun y2_1 y2_2 hw => ?_) n2 0 0 hw
  refine j_iload_n C 1 dX10_allMade_25 rfl ?_
  exact j_iretR C hR () rfl dX10_allMade_26 hw
def wp_X10_thinks (m : Nat → Int32) (wa : Nat → Int32)   (Q : (Nat → Int32) → Prop) : Prop := wp_X10_copyAll m wa (fun c1_0 => Q c1_0)
set_option maxRecDepth 100000 in
set_option maxHeartbeats 8000000 in
theorem c_X10_thinks {l : Launch} {D : va_G} {ca : Nat → ClassId} {sd : Nat → Nat}  (am : Nat → Nat) (m : Nat → Int32) (kp : Nat → Int32) (wa : Nat → Int32) (fo : Nat → Int32) (ta : Nat → Int32) (bo : Nat → Int32) (so : Nat → Int32) (ce : Nat → Int64) (ik : Int32) (td : Int32) (tk : Int32) (bg : Int32) (aa : Int32) (vl : Int32) (bd : Int32)    {Q : (Nat → Int32) → Prop} (hw : wp_X10_thinks m wa   Q) : Cn l D ca sd yX10_thinks cX10_thinks 1 none { frames := 1, cells := 0, slots := 0, locals := 22 } [.ref (am 0)] (wM ca am m kp wa fo ta bo so ce ik td tk bg aa vl bd) (wM ca am m kp wa fo ta bo so ce ik td tk bg aa vl bd) 0 0 (Rv D (fun u : (Nat → Int32) => Q u) (fun u => (wM ca am m kp u fo ta bo so ce ik td tk bg aa vl bd))) := by
  refine cn_of (by decide) (Nat.le_of_ble_eq_true rfl) (fun k C hR hB _ => ?_)
  have C : Cx D ca sd cX10_thinks RX10 none { frames := 1, cells := 0, slots := 0, locals := 22 } k 1 := C
  unfold wp_X10_thinks at hw
  show J l D k 1 0 0 0 (wM ca am m kp wa fo ta bo so ce ik td tk bg aa vl bd) [(0, .ref (am 0))] []
  refine j_aload_n C 0 dX10_thinks_0 rfl ?_
  refine j_get C fl_X10_9_10 0 dX10_thinks_1 rfl rfl ?_
  refine j_aload_n C 0 dX10_thinks_4 rfl ?_
  refine j_get C fl_X10_16_10 0 dX10_thinks_5 rfl rfl ?_
  refine j_cvP C hB [1, 3] [0, 2, 4, 5, 6, 7, 8] [0, 7, 1, 8, 2, 3, 4, 5, 6] (fun u1 : (Nat → Int32) => (wM ca am m kp u1 fo ta bo so ce ik td tk bg aa vl bd)) (([0, 2, 4, 5, 6, 7, 8] : List Nat).filterMap (fun i => (wM ca am m kp wa fo ta bo so ce ik td tk bg aa vl bd)[i]?)) rfl rfl rfl (by decide) rfl (fun _ => rfl) (jr_S C lkS_X10_137 (c_X10_copyAll (am 1) (am 3) m wa hw) ⟨rfl, rfl, by decide, by decide, by decide, by decide⟩ [1, 3] (by decide) rfl (fx_rw C hB [1, 3] rfl) rfl rfl (Nat.le_of_ble_eq_true rfl) dX10_thinks_8) (fun u1 hw => ?_)
  exact j_vret C hB hR u1 rfl dX10_thinks_11 hw rfl
def wp_X10_putsBack (m : Nat → Int32) (wa : Nat → Int32)   (Q : (Nat → Int32) → Prop) : Prop := wp_X10_copyAll wa m (fun c1_0 => Q c1_0)
set_option maxRecDepth 100000 in
set_option maxHeartbeats 8000000 in
theorem c_X10_putsBack {l : Launch} {D : va_G} {ca : Nat → ClassId} {sd : Nat → Nat}  (am : Nat → Nat) (m : Nat → Int32) (kp : Nat → Int32) (wa : Nat → Int32) (fo : Nat → Int32) (ta : Nat → Int32) (bo : Nat → Int32) (so : Nat → Int32) (ce : Nat → Int64) (ik : Int32) (td : Int32) (tk : Int32) (bg : Int32) (aa : Int32) (vl : Int32) (bd : Int32)    {Q : (Nat → Int32) → Prop} (hw : wp_X10_putsBack m wa   Q) : Cn l D ca sd yX10_putsBack cX10_putsBack 1 none { frames := 1, cells := 0, slots := 0, locals := 22 } [.ref (am 0)] (wM ca am m kp wa fo ta bo so ce ik td tk bg aa vl bd) (wM ca am m kp wa fo ta bo so ce ik td tk bg aa vl bd) 0 0 (Rv D (fun u : (Nat → Int32) => Q u) (fun u => (wM ca am u kp wa fo ta bo so ce ik td tk bg aa vl bd))) := by
  refine cn_of (by decide) (Nat.le_of_ble_eq_true rfl) (fun k C hR hB _ => ?_)
  have C : Cx D ca sd cX10_putsBack RX10 none { frames := 1, cells := 0, slots := 0, locals := 22 } k 1 := C
  unfold wp_X10_putsBack at hw
  show J l D k 1 0 0 0 (wM ca am m kp wa fo ta bo so ce ik td tk bg aa vl bd) [(0, .ref (am 0))] []
  refine j_aload_n C 0 dX10_putsBack_0 rfl ?_
  refine j_get C fl_X10_16_10 0 dX10_putsBack_1 rfl rfl ?_
  refine j_aload_n C 0 dX10_putsBack_4 rfl ?_
  refine j_get C fl_X10_9_10 0 dX10_putsBack_5 rfl rfl ?_
  refine j_cvP C hB [3, 1] [0, 2, 4, 5, 6, 7, 8] [0, 8, 1, 7, 2, 3, 4, 5, 6] (fun u1 : (Nat → Int32) => (wM ca am u1 kp wa fo ta bo so ce ik td tk bg aa vl bd)) (([0, 2, 4, 5, 6, 7, 8] : List Nat).filterMap (fun i => (wM ca am m kp wa fo ta bo so ce ik td tk bg aa vl bd)[i]?)) rfl rfl rfl (by decide) rfl (fun _ => rfl) (jr_S C lkS_X10_137 (c_X10_copyAll (am 3) (am 1) wa m hw) ⟨rfl, rfl, by decide, by decide, by decide, by decide⟩ [3, 1] (by decide) rfl (fx_rw C hB [3, 1] rfl) rfl rfl (Nat.le_of_ble_eq_true rfl) dX10_putsBack_8) (fun u1 hw => ?_)
  exact j_vret C hB hR u1 rfl dX10_putsBack_11 hw rfl
def wpl_X10_doneIn_2 (x1 : Int32) (x2 : Int32) (K : (Int32) → (Nat → Int32) → Prop) : Nat → (Int32) → (Nat → Int32) → Prop
  | 0, _, _ => False
  | n + 1, x3, m => (x2 < x3 → K x3 m) ∧ (¬ (x2 < x3) → wp_X10_isDone m x1 (fun r1 => (r1 = 0 → wp_X10_goes m (fun c2_0 => wpl_X10_doneIn_2 x1 x2  K n (x3 + 1) c2_0)) ∧ (¬ (r1 = 0) → K x3 m)))
def wp_X10_doneIn (m : Nat → Int32) (wa : Nat → Int32)  (a1 : Int32) (a2 : Int32) (Q : (Int32) → (Nat → Int32) → Prop) : Prop := ∃ n3 : Nat, wpl_X10_doneIn_2 a1 a2  (fun y3_3 y3_m => wp_X10_putsBack y3_m wa (fun c4_0 => (y3_3 ≤ a2 → Q y3_3 c4_0) ∧ (¬ (y3_3 ≤ a2) → Q (-1) c4_0))) n3 0 m
set_option maxRecDepth 100000 in
set_option maxHeartbeats 8000000 in
theorem ml_X10_doneIn_2 {l : Launch} {D : va_G} {ca : Nat → ClassId} {sd : Nat → Nat}  {k : Kx} (am : Nat → Nat)  (kp : Nat → Int32) (wa : Nat → Int32) (fo : Nat → Int32) (ta : Nat → Int32) (bo : Nat → Int32) (so : Nat → Int32) (ce : Nat → Int64) (ik : Int32) (td : Int32) (tk : Int32) (bg : Int32) (aa : Int32) (vl : Int32) (bd : Int32) (x1 : Int32) (x2 : Int32) (C : Cx D ca sd cX10_doneIn RX10 (some .int) { frames := 5, cells := 0, slots := 0, locals := 113 } k 4) {Q : (Int32) → (Nat → Int32) → Prop} (hR : Rx (Ri D (fun (r : Int32) (u : (Nat → Int32)) => Q r u) (fun u => (wM ca am u kp wa fo ta bo so ce ik td tk bg aa vl bd))) 0 0 k) (hB : Wx k) {K : (Int32) → (Nat → Int32) → Prop} (hK : ∀ (x3' : Int32) (m' : Nat → Int32), K x3' m' → J l D k 4 0 0 25 (wM ca am m' kp wa fo ta bo so ce ik td tk bg aa vl bd) [(0, .ref (am 0)), (1, .int x1), (2, .int x2), (3, .int x3')] []) : ∀ (n : Nat) (x3 : Int32) (m : Nat → Int32), wpl_X10_doneIn_2 x1 x2  K n x3 m → J l D k 4 0 0 2 (wM ca am m kp wa fo ta bo so ce ik td tk bg aa vl bd) [(0, .ref (am 0)), (1, .int x1), (2, .int x2), (3, .int x3)] [] := by
  intro n
  induction n with
  | zero =>
    intro x3 m hw
    rw [wpl_X10_doneIn_2] at hw
    exact hw.elim
  | succ n ih =>
    intro x3 m hw
    rw [wpl_X10_doneIn_2] at hw
    refine j_iload_n C 3 dX10_doneIn_2 rfl ?_
    refine j_iload_n C 2 dX10_doneIn_3 rfl ?_
    refine j_icmp_gt C 25 dX10_doneIn_4 (by decide) (fun z => ?_) (fun z => ?_)
    · replace hw := hw.1 z
      exact hK x3 m hw
    · replace hw := hw.2 z
      refine j_aload_n C 0 dX10_doneIn_7 rfl ?_
      refine j_iload_n C 1 dX10_doneIn_8 rfl ?_
      refine j_ciZ C (jr_V C lkV_X10_60 (c_X10_isDone am m kp wa fo ta bo so ce ik td tk bg aa vl bd x1 hw) ⟨rfl, rfl, by decide, by decide, by decide, by decide⟩ [0, 1, 2, 3, 4, 5, 6, 7, 8] (by decide) rfl (fx_ro C) 0 10 rfl rfl rfl rfl (Nat.le_of_ble_eq_true rfl) dX10_doneIn_9) (fun r1 u1 hw => ?_)
      refine j_if_ne C 25 dX10_doneIn_12 (by decide) (fun z => ?_) (fun z => ?_)
      · replace hw := hw.2 z
        exact hK x3 m hw
      · replace hw := hw.1 z
        refine j_aload_n C 0 dX10_doneIn_15 rfl ?_
        refine j_cvT C hB 0 9 (fun u2 : (Nat → Int32) => (wM ca am u2 kp wa fo ta bo so ce ik td tk bg aa vl bd)) rfl (fun _ => rfl) (jr_V C lkV_X10_121 (c_X10_goes am m kp wa fo ta bo so ce ik td tk bg aa vl bd hw) ⟨rfl, rfl, by decide, by decide, by decide, by decide⟩ [0, 1, 2, 3, 4, 5, 6, 7, 8] (by decide) rfl (fx_rw C hB [0, 1, 2, 3, 4, 5, 6, 7, 8] rfl) 0 10 rfl rfl rfl rfl (Nat.le_of_ble_eq_true rfl) dX10_doneIn_16) (fun u2 hw => ?_)
        refine j_iinc C 3 (x3 + 1) [(3, .int (x3 + 1)), (0, .ref (am 0)), (1, .int x1), (2, .int x2)] dX10_doneIn_19 rfl rfl (by decide) rfl ?_
        refine j_goto C 2 dX10_doneIn_22 (by decide) ?_
        refine j_lsub [1, 2, 3, 0] [(0, .ref (am 0)), (1, .int x1), (2, .int x2), (3, .int (x3 + 1))] rfl ?_
        exact ih (x3 + 1) u2 hw
set_option maxRecDepth 100000 in
set_option maxHeartbeats 8000000 in
theorem c_X10_doneIn {l : Launch} {D : va_G} {ca : Nat → ClassId} {sd : Nat → Nat}  (am : Nat → Nat) (m : Nat → Int32) (kp : Nat → Int32) (wa : Nat → Int32) (fo : Nat → Int32) (ta : Nat → Int32) (bo : Nat → Int32) (so : Nat → Int32) (ce : Nat → Int64) (ik : Int32) (td : Int32) (tk : Int32) (bg : Int32) (aa : Int32) (vl : Int32) (bd : Int32)  (a1 : Int32) (a2 : Int32)  {Q : (Int32) → (Nat → Int32) → Prop} (hw : wp_X10_doneIn m wa  a1 a2 Q) : Cn l D ca sd yX10_doneIn cX10_doneIn 4 (some .int) { frames := 5, cells := 0, slots := 0, locals := 113 } [.ref (am 0), .int a1, .int a2] (wM ca am m kp wa fo ta bo so ce ik td tk bg aa vl bd) (wM ca am m kp wa fo ta bo so ce ik td tk bg aa vl bd) 0 0 (Ri D (fun (r : Int32) (u : (Nat → Int32)) => Q r u) (fun u => (wM ca am u kp wa fo ta bo so ce ik td tk bg aa vl bd))) := by
  refine cn_of (by decide) (Nat.le_of_ble_eq_true rfl) (fun k C hR hB _ => ?_)
  have C : Cx D ca sd cX10_doneIn RX10 (some .int) { frames := 5, cells := 0, slots := 0, locals := 113 } k 4 := C
  unfold wp_X10_doneIn at hw
  show J l D k 4 0 0 0 (wM ca am m kp wa fo ta bo so ce ik td tk bg aa vl bd) [(0, .ref (am 0)), (1, .int a1), (2, .int a2)] []
  refine j_iconst C 0 dX10_doneIn_0 (by decide) ?_
  refine j_istore_n C [(3, .int 0), (0, .ref (am 0)), (1, .int a1), (2, .int a2)] dX10_doneIn_1 (by decide) rfl ?_
  refine j_lsub [1, 2, 3, 0] [(0, .ref (am 0)), (1, .int a1), (2, .int a2), (3, .int 0)] rfl ?_
  obtain ⟨n3, hw⟩ := hw
  refine ml_X10_doneIn_2 am  kp wa fo ta bo so ce ik td tk bg aa vl bd a1 a2 C hR hB (fun y3_3 y3_m hw => ?_) n3 0 m hw
  refine j_aload_n C 0 dX10_doneIn_25 rfl ?_
  refine j_cvT C hB 0 9 (fun u4 : (Nat → Int32) => (wM ca am u4 kp wa fo ta bo so ce ik td tk bg aa vl bd)) rfl (fun _ => rfl) (jr_V C lkV_X10_144 (c_X10_putsBack am y3_m kp wa fo ta bo so ce ik td tk bg aa vl bd hw) ⟨rfl, rfl, by decide, by decide, by decide, by decide⟩ [0, 1, 2, 3, 4, 5, 6, 7, 8] (by decide) rfl (fx_rw C hB [0, 1, 2, 3, 4, 5, 6, 7, 8] rfl) 0 10 rfl rfl rfl rfl (Nat.le_of_ble_eq_true rfl) dX10_doneIn_26) (fun u4 hw => ?_)
  refine j_iload_n C 3 dX10_doneIn_29 rfl ?_
  refine j_iload_n C 2 dX10_doneIn_30 rfl ?_
  refine j_icmp_le C 38 dX10_doneIn_31 (by decide) (fun z => ?_) (fun z => ?_)
  · replace hw := hw.1 z
    refine j_iload_n C 3 dX10_doneIn_38 rfl ?_
    exact j_iret C hB hR u4 rfl dX10_doneIn_39 hw rfl
  · replace hw := hw.2 z
    refine j_iconst C (-1) dX10_doneIn_34 (by decide) ?_
    refine j_goto C 39 dX10_doneIn_35 (by decide) ?_
    exact j_iret C hB hR u4 rfl dX10_doneIn_39 hw rfl
def wpl_X10_soonestBy_13 (wa : Nat → Int32) (x1 : Int32) (x2 : Int32) (x3 : Int32) (K : (Int32) → (Int32) → (Int32) → (Nat → Int32) → Prop) : Nat → (Int32) → (Int32) → (Int32) → (Nat → Int32) → Prop
  | 0, _, _, _, _ => False
  | n + 1, x4, x5, x6, m => (x2 ≤ x6 → K x4 x5 x6 m) ∧ (¬ (x2 ≤ x6) → vp_in x1 52 ∧ (wp_X10_doneIn (upd m (x1.toNatClampNeg) x6) wa x3 100 (fun r3 c3_0 => (r3 < 0 → wpl_X10_soonestBy_13 wa x1 x2 x3  K n x4 x5 (x6 + 1) c3_0) ∧ (¬ (r3 < 0) → (x4 < 0 → wpl_X10_soonestBy_13 wa x1 x2 x3  K n x6 r3 (x6 + 1) c3_0) ∧ (¬ (x4 < 0) → (x5 ≤ r3 → wpl_X10_soonestBy_13 wa x1 x2 x3  K n x4 x5 (x6 + 1) c3_0) ∧ (¬ (x5 ≤ r3) → wpl_X10_soonestBy_13 wa x1 x2 x3  K n x6 r3 (x6 + 1) c3_0))))))
def wp_X10_soonestBy (m : Nat → Int32) (wa : Nat → Int32)  (a1 : Int32) (a2 : Int32) (a3 : Int32) (Q : (Int32) → (Nat → Int32) → (Nat → Int32) → Prop) : Prop := wp_X10_thinks m wa (fun c1_0 => ∃ n4 : Nat, wpl_X10_soonestBy_13 c1_0 a1 a2 a3  (fun y4_4 y4_5 y4_6 y4_m => Q y4_4 y4_m c1_0) n4 (-1) 0 0 m)
set_option maxRecDepth 100000 in
set_option maxHeartbeats 8000000 in
theorem ml_X10_soonestBy_13 {l : Launch} {D : va_G} {ca : Nat → ClassId} {sd : Nat → Nat}  {k : Kx} (am : Nat → Nat)  (kp : Nat → Int32) (wa : Nat → Int32) (fo : Nat → Int32) (ta : Nat → Int32) (bo : Nat → Int32) (so : Nat → Int32) (ce : Nat → Int64) (ik : Int32) (td : Int32) (tk : Int32) (bg : Int32) (aa : Int32) (vl : Int32) (bd : Int32) (x1 : Int32) (x2 : Int32) (x3 : Int32) (C : Cx D ca sd cX10_soonestBy RX10 (some .int) { frames := 6, cells := 0, slots := 0, locals := 136 } k 9) {Q : (Int32) → (Nat → Int32) → (Nat → Int32) → Prop} (hR : Rx (Ri D (fun (r : Int32) (u : (Nat → Int32) × (Nat → Int32)) => Q r u.1 u.2) (fun u => (wM ca am u.1 kp u.2 fo ta bo so ce ik td tk bg aa vl bd))) 0 0 k) (hB : Wx k) {K : (Int32) → (Int32) → (Int32) → (Nat → Int32) → Prop} (hK : ∀ (x4' : Int32) (x5' : Int32) (x6' : Int32) (m' : Nat → Int32), K x4' x5' x6' m' → J l D k 9 0 0 94 (wM ca am m' kp wa fo ta bo so ce ik td tk bg aa vl bd) [(0, .ref (am 0)), (1, .int x1), (2, .int x2), (3, .int x3), (4, .int x4'), (5, .int x5'), (6, .int x6')] []) : ∀ (n : Nat) (x4 : Int32) (x5 : Int32) (x6 : Int32) (m : Nat → Int32), wpl_X10_soonestBy_13 wa x1 x2 x3  K n x4 x5 x6 m → J l D k 9 0 0 13 (wM ca am m kp wa fo ta bo so ce ik td tk bg aa vl bd) [(0, .ref (am 0)), (1, .int x1), (2, .int x2), (3, .int x3), (4, .int x4), (5, .int x5), (6, .int x6)] [] := by
  intro n
  induction n with
  | zero =>
    intro x4 x5 x6 m hw
    rw [wpl_X10_soonestBy_13] at hw
    exact hw.elim
  | succ n ih =>
    intro x4 x5 x6 m hw
    rw [wpl_X10_soonestBy_13] at hw
    refine j_iload C 6 dX10_soonestBy_13 rfl ?_
    refine j_iload_n C 2 dX10_soonestBy_15 rfl ?_
    refine j_icmp_ge C 94 dX10_soonestBy_16 (by decide) (fun z => ?_) (fun z => ?_)
    · replace hw := hw.1 z
      exact hK x4 x5 x6 m hw
    · replace hw := hw.2 z
      refine j_aload_n C 0 dX10_soonestBy_19 rfl ?_
      refine j_get C fl_X10_9_10 0 dX10_soonestBy_20 rfl rfl ?_
      refine j_iload_n C 1 dX10_soonestBy_23 rfl ?_
      refine j_iload C 6 dX10_soonestBy_24 rfl ?_
      have hi2 := hw.1
      replace hw := hw.2
      refine j_iast C hB 1 (wM ca am (upd m (x1.toNatClampNeg) x6) kp wa fo ta bo so ce ik td tk bg aa vl bd) dX10_soonestBy_26 rfl hi2 rfl ?_
      refine j_aload_n C 0 dX10_soonestBy_27 rfl ?_
      refine j_iload_n C 3 dX10_soonestBy_28 rfl ?_
      refine j_bipush C 100 dX10_soonestBy_29 (by decide) ?_
      refine j_ciT C hB 0 9 (fun u3 : (Nat → Int32) => (wM ca am u3 kp wa fo ta bo so ce ik td tk bg aa vl bd)) rfl (fun _ => rfl) (jr_V C lkV_X10_147 (c_X10_doneIn am (upd m (x1.toNatClampNeg) x6) kp wa fo ta bo so ce ik td tk bg aa vl bd x3 100 hw) ⟨rfl, rfl, by decide, by decide, by decide, by decide⟩ [0, 1, 2, 3, 4, 5, 6, 7, 8] (by decide) rfl (fx_rw C hB [0, 1, 2, 3, 4, 5, 6, 7, 8] rfl) 0 10 rfl rfl rfl rfl (Nat.le_of_ble_eq_true rfl) dX10_soonestBy_31) (fun r3 u3 hw => ?_)
      refine j_istore C [(7, .int r3), (0, .ref (am 0)), (1, .int x1), (2, .int x2), (3, .int x3), (4, .int x4), (5, .int x5), (6, .int x6)] dX10_soonestBy_34 (by decide) rfl ?_
      refine j_iload C 0 dX10_soonestBy_36 rfl ?_
      refine j_if_lt C 57 dX10_soonestBy_38 (by decide) (fun z => ?_) (fun z => ?_)
      · replace hw := hw.1 z
        refine j_iconst C 0 dX10_soonestBy_57 (by decide) ?_
        refine j_istore C [(8, .int 0), (7, .int r3), (0, .ref (am 0)), (1, .int x1), (2, .int x2), (3, .int x3), (4, .int x4), (5, .int x5), (6, .int x6)] dX10_soonestBy_58 (by decide) rfl ?_
        refine j_iload C 0 dX10_soonestBy_60 rfl ?_
        refine j_if_eq C 70 dX10_soonestBy_62 (by decide) (fun _ => ?_) (fun z => absurd z (by decide))
        refine j_iload C 6 dX10_soonestBy_70 rfl ?_
        refine j_istore C [(4, .int x4), (8, .int 0), (7, .int r3), (0, .ref (am 0)), (1, .int x1), (2, .int x2), (3, .int x3), (5, .int x5), (6, .int x6)] dX10_soonestBy_72 (by decide) rfl ?_
        refine j_iload C 1 dX10_soonestBy_74 rfl ?_
        refine j_if_eq C 84 dX10_soonestBy_76 (by decide) (fun _ => ?_) (fun z => absurd z (by decide))
        refine j_iload C 7 dX10_soonestBy_84 rfl ?_
        refine j_istore C [(5, .int x5), (4, .int x4), (8, .int 0), (7, .int r3), (0, .ref (am 0)), (1, .int x1), (2, .int x2), (3, .int x3), (6, .int x6)] dX10_soonestBy_86 (by decide) rfl ?_
        refine j_iinc C 8 (x6 + 1) [(6, .int (x6 + 1)), (5, .int x5), (4, .int x4), (8, .int 0), (7, .int r3), (0, .ref (am 0)), (1, .int x1), (2, .int x2), (3, .int x3)] dX10_soonestBy_88 rfl rfl (by decide) rfl ?_
        refine j_goto C 13 dX10_soonestBy_91 (by decide) ?_
        refine j_lsub [5, 6, 7, 8, 2, 1, 0] [(0, .ref (am 0)), (1, .int x1), (2, .int x2), (3, .int x3), (4, .int x4), (5, .int x5), (6, .int (x6 + 1))] rfl ?_
        exact ih x4 x5 (x6 + 1) u3 hw
      · replace hw := hw.2 z
        refine j_iload C 5 dX10_soonestBy_41 rfl ?_
        refine j_if_lt C 53 dX10_soonestBy_43 (by decide) (fun z => ?_) (fun z => ?_)
        · replace hw := hw.1 z
          refine j_iconst C 1 dX10_soonestBy_53 (by decide) ?_
          refine j_goto C 58 dX10_soonestBy_54 (by decide) ?_
          refine j_istore C [(8, .int 1), (7, .int r3), (0, .ref (am 0)), (1, .int x1), (2, .int x2), (3, .int x3), (4, .int x4), (5, .int x5), (6, .int x6)] dX10_soonestBy_58 (by decide) rfl ?_
          refine j_iload C 0 dX10_soonestBy_60 rfl ?_
          refine j_if_eq C 70 dX10_soonestBy_62 (by decide) (fun z => absurd z (by decide)) (fun _ => ?_)
          refine j_iload C 8 dX10_soonestBy_65 rfl ?_
          refine j_goto C 72 dX10_soonestBy_67 (by decide) ?_
          refine j_istore C [(4, .int x6), (8, .int 1), (7, .int r3), (0, .ref (am 0)), (1, .int x1), (2, .int x2), (3, .int x3), (5, .int x5), (6, .int x6)] dX10_soonestBy_72 (by decide) rfl ?_
          refine j_iload C 1 dX10_soonestBy_74 rfl ?_
          refine j_if_eq C 84 dX10_soonestBy_76 (by decide) (fun z => absurd z (by decide)) (fun _ => ?_)
          refine j_iload C 2 dX10_soonestBy_79 rfl ?_
          refine j_goto C 86 dX10_soonestBy_81 (by decide) ?_
          refine j_istore C [(5, .int r3), (4, .int x6), (8, .int 1), (7, .int r3), (0, .ref (am 0)), (1, .int x1), (2, .int x2), (3, .int x3), (6, .int x6)] dX10_soonestBy_86 (by decide) rfl ?_
          refine j_iinc C 8 (x6 + 1) [(6, .int (x6 + 1)), (5, .int r3), (4, .int x6), (8, .int 1), (7, .int r3), (0, .ref (am 0)), (1, .int x1), (2, .int x2), (3, .int x3)] dX10_soonestBy_88 rfl rfl (by decide) rfl ?_
          refine j_goto C 13 dX10_soonestBy_91 (by decide) ?_
          refine j_lsub [5, 6, 7, 8, 2, 1, 0] [(0, .ref (am 0)), (1, .int x1), (2, .int x2), (3, .int x3), (4, .int x6), (5, .int r3), (6, .int (x6 + 1))] rfl ?_
          exact ih x6 r3 (x6 + 1) u3 hw
        · replace hw := hw.2 z
          refine j_iload C 0 dX10_soonestBy_46 rfl ?_
          refine j_iload C 6 dX10_soonestBy_48 rfl ?_
          refine j_icmp_ge C 57 dX10_soonestBy_50 (by decide) (fun z => ?_) (fun z => ?_)
          · replace hw := hw.1 z
            refine j_iconst C 0 dX10_soonestBy_57 (by decide) ?_
            refine j_istore C [(8, .int 0), (7, .int r3), (0, .ref (am 0)), (1, .int x1), (2, .int x2), (3, .int x3), (4, .int x4), (5, .int x5), (6, .int x6)] dX10_soonestBy_58 (by decide) rfl ?_
            refine j_iload C 0 dX10_soonestBy_60 rfl ?_
            refine j_if_eq C 70 dX10_soonestBy_62 (by decide) (fun _ => ?_) (fun z => absurd z (by decide))
            refine j_iload C 6 dX10_soonestBy_70 rfl ?_
            refine j_istore C [(4, .int x4), (8, .int 0), (7, .int r3), (0, .ref (am 0)), (1, .int x1), (2, .int x2), (3, .int x3), (5, .int x5), (6, .int x6)] dX10_soonestBy_72 (by decide) rfl ?_
            refine j_iload C 1 dX10_soonestBy_74 rfl ?_
            refine j_if_eq C 84 dX10_soonestBy_76 (by decide) (fun _ => ?_) (fun z => absurd z (by decide))
            refine j_iload C 7 dX10_soonestBy_84 rfl ?_
            refine j_istore C [(5, .int x5), (4, .int x4), (8, .int 0), (7, .int r3), (0, .ref (am 0)), (1, .int x1), (2, .int x2), (3, .int x3), (6, .int x6)] dX10_soonestBy_86 (by decide) rfl ?_
            refine j_iinc C 8 (x6 + 1) [(6, .int (x6 + 1)), (5, .int x5), (4, .int x4), (8, .int 0), (7, .int r3), (0, .ref (am 0)), (1, .int x1), (2, .int x2), (3, .int x3)] dX10_soonestBy_88 rfl rfl (by decide) rfl ?_
            refine j_goto C 13 dX10_soonestBy_91 (by decide) ?_
            refine j_lsub [5, 6, 7, 8, 2, 1, 0] [(0, .ref (am 0)), (1, .int x1), (2, .int x2), (3, .int x3), (4, .int x4), (5, .int x5), (6, .int (x6 + 1))] rfl ?_
            exact ih x4 x5 (x6 + 1) u3 hw
          · replace hw := hw.2 z
            refine j_iconst C 1 dX10_soonestBy_53 (by decide) ?_
            refine j_goto C 58 dX10_soonestBy_54 (by decide) ?_
            refine j_istore C [(8, .int 1), (7, .int r3), (0, .ref (am 0)), (1, .int x1), (2, .int x2), (3, .int x3), (4, .int x4), (5, .int x5), (6, .int x6)] dX10_soonestBy_58 (by decide) rfl ?_
            refine j_iload C 0 dX10_soonestBy_60 rfl ?_
            refine j_if_eq C 70 dX10_soonestBy_62 (by decide) (fun z => absurd z (by decide)) (fun _ => ?_)
            refine j_iload C 8 dX10_soonestBy_65 rfl ?_
            refine j_goto C 72 dX10_soonestBy_67 (by decide) ?_
            refine j_istore C [(4, .int x6), (8, .int 1), (7, .int r3), (0, .ref (am 0)), (1, .int x1), (2, .int x2), (3, .int x3), (5, .int x5), (6, .int x6)] dX10_soonestBy_72 (by decide) rfl ?_
            refine j_iload C 1 dX10_soonestBy_74 rfl ?_
            refine j_if_eq C 84 dX10_soonestBy_76 (by decide) (fun z => absurd z (by decide)) (fun _ => ?_)
            refine j_iload C 2 dX10_soonestBy_79 rfl ?_
            refine j_goto C 86 dX10_soonestBy_81 (by decide) ?_
            refine j_istore C [(5, .int r3), (4, .int x6), (8, .int 1), (7, .int r3), (0, .ref (am 0)), (1, .int x1), (2, .int x2), (3, .int x3), (6, .int x6)] dX10_soonestBy_86 (by decide) rfl ?_
            refine j_iinc C 8 (x6 + 1) [(6, .int (x6 + 1)), (5, .int r3), (4, .int x6), (8, .int 1), (7, .int r3), (0, .ref (am 0)), (1, .int x1), (2, .int x2), (3, .int x3)] dX10_soonestBy_88 rfl rfl (by decide) rfl ?_
            refine j_goto C 13 dX10_soonestBy_91 (by decide) ?_
            refine j_lsub [5, 6, 7, 8, 2, 1, 0] [(0, .ref (am 0)), (1, .int x1), (2, .int x2), (3, .int x3), (4, .int x6), (5, .int r3), (6, .int (x6 + 1))] rfl ?_
            exact ih x6 r3 (x6 + 1) u3 hw
set_option maxRecDepth 100000 in
set_option maxHeartbeats 8000000 in
theorem c_X10_soonestBy {l : Launch} {D : va_G} {ca : Nat → ClassId} {sd : Nat → Nat}  (am : Nat → Nat) (m : Nat → Int32) (kp : Nat → Int32) (wa : Nat → Int32) (fo : Nat → Int32) (ta : Nat → Int32) (bo : Nat → Int32) (so : Nat → Int32) (ce : Nat → Int64) (ik : Int32) (td : Int32) (tk : Int32) (bg : Int32) (aa : Int32) (vl : Int32) (bd : Int32)  (a1 : Int32) (a2 : Int32) (a3 : Int32)  {Q : (Int32) → (Nat → Int32) → (Nat → Int32) → Prop} (hw : wp_X10_soonestBy m wa  a1 a2 a3 Q) : Cn l D ca sd yX10_soonestBy cX10_soonestBy 9 (some .int) { frames := 6, cells := 0, slots := 0, locals := 136 } [.ref (am 0), .int a1, .int a2, .int a3] (wM ca am m kp wa fo ta bo so ce ik td tk bg aa vl bd) (wM ca am m kp wa fo ta bo so ce ik td tk bg aa vl bd) 0 0 (Ri D (fun (r : Int32) (u : (Nat → Int32) × (Nat → Int32)) => Q r u.1 u.2) (fun u => (wM ca am u.1 kp u.2 fo ta bo so ce ik td tk bg aa vl bd))) := by
  refine cn_of (by decide) (Nat.le_of_ble_eq_true rfl) (fun k C hR hB _ => ?_)
  have C : Cx D ca sd cX10_soonestBy RX10 (some .int) { frames := 6, cells := 0, slots := 0, locals := 136 } k 9 := C
  unfold wp_X10_soonestBy at hw
  show J l D k 9 0 0 0 (wM ca am m kp wa fo ta bo so ce ik td tk bg aa vl bd) [(0, .ref (am 0)), (1, .int a1), (2, .int a2), (3, .int a3)] []
  refine j_aload_n C 0 dX10_soonestBy_0 rfl ?_
  refine j_cvT C hB 0 9 (fun u1 : (Nat → Int32) => (wM ca am m kp u1 fo ta bo so ce ik td tk bg aa vl bd)) rfl (fun _ => rfl) (jr_V C lkV_X10_141 (c_X10_thinks am m kp wa fo ta bo so ce ik td tk bg aa vl bd hw) ⟨rfl, rfl, by decide, by decide, by decide, by decide⟩ [0, 1, 2, 3, 4, 5, 6, 7, 8] (by decide) rfl (fx_rw C hB [0, 1, 2, 3, 4, 5, 6, 7, 8] rfl) 0 10 rfl rfl rfl rfl (Nat.le_of_ble_eq_true rfl) dX10_soonestBy_1) (fun u1 hw => ?_)
  refine j_iconst C (-1) dX10_soonestBy_4 (by decide) ?_
  refine j_istore C [(4, .int (-1)), (0, .ref (am 0)), (1, .int a1), (2, .int a2), (3, .int a3)] dX10_soonestBy_5 (by decide) rfl ?_
  refine j_iconst C 0 dX10_soonestBy_7 (by decide) ?_
  refine j_istore C [(5, .int 0), (4, .int (-1)), (0, .ref (am 0)), (1, .int a1), (2, .int a2), (3, .int a3)] dX10_soonestBy_8 (by decide) rfl ?_
  refine j_iconst C 0 dX10_soonestBy_10 (by decide) ?_
  refine j_istore C [(6, .int 0), (5, .int 0), (4, .int (-1)), (0, .ref (am 0)), (1, .int a1), (2, .int a2), (3, .int a3)] dX10_soonestBy_11 (by decide) rfl ?_
  refine j_lsub [3, 4, 5, 6, 2, 1, 0] [(0, .ref (am 0)), (1, .int a1), (2, .int a2), (3, .int a3), (4, .int (-1)), (5, .int 0), (6, .int 0)] rfl ?_
  obtain ⟨n4, hw⟩ := hw
  refine ml_X10_soonestBy_13 am  kp u1 fo ta bo so ce ik td tk bg aa vl bd a1 a2 a3 C hR hB (fun y4_4 y4_5 y4_6 y4_m hw => ?_) n4 (-1) 0 0 m hw
  refine j_iload C 4 dX10_soonestBy_94 rfl ?_
  exact j_iret C hB hR (y4_m, u1) rfl dX10_soonestBy_96 hw rfl
