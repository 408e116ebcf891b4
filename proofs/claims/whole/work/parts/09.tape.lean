theorem fl_X7_15_7 : FL RX7 15 7 1 := ⟨RX7, TX7, 3, rfl, by decide, uw_X7, (tb_t 177 (by decide +kernel) rfl)⟩
theorem fl_X7_19_7 : FL RX7 19 7 2 := ⟨RX7, TX7, 3, rfl, by decide, uw_X7, (tb_t 179 (by decide +kernel) rfl)⟩
theorem fl_X7_9_7 : FL RX7 9 7 0 := ⟨RX7, TX7, 3, rfl, by decide, uw_X7, (tb_t 175 (by decide +kernel) rfl)⟩
theorem fl_X8_15_8 : FL RX8 15 8 0 := ⟨RX8, TX8, 6, rfl, by decide, uw_X8, (tb_t 148 (by decide +kernel) rfl)⟩
theorem fl_X8_19_8 : FL RX8 19 8 2 := ⟨RX8, TX8, 6, rfl, by decide, uw_X8, (tb_t 150 (by decide +kernel) rfl)⟩
theorem fl_X8_23_8 : FL RX8 23 8 5 := ⟨RX8, TX8, 6, rfl, by decide, uw_X8, (tb_t 154 (by decide +kernel) rfl)⟩
theorem fl_X8_33_8 : FL RX8 33 8 4 := ⟨RX8, TX8, 6, rfl, by decide, uw_X8, (tb_t 153 (by decide +kernel) rfl)⟩
theorem fl_X8_36_8 : FL RX8 36 8 3 := ⟨RX8, TX8, 6, rfl, by decide, uw_X8, (tb_t 152 (by decide +kernel) rfl)⟩
theorem fl_X8_53_2 : FL RX8 53 2 1 := ⟨RX2, TX2, 11, rfl, by decide, uw_X2, (tb_t 99 (by decide +kernel) rfl)⟩
theorem fl_X8_65_2 : FL RX8 65 2 2 := ⟨RX2, TX2, 11, rfl, by decide, uw_X2, (tb_t 102 (by decide +kernel) rfl)⟩
theorem fl_X8_9_8 : FL RX8 9 8 1 := ⟨RX8, TX8, 6, rfl, by decide, uw_X8, (tb_t 149 (by decide +kernel) rfl)⟩
theorem fw_X7_15_7 : FW RX7 15 7 1 false .int := ⟨RX7, TX7, 3, tyX7, rfl, by decide, uw_X7, (tb_t 177 (by decide +kernel) rfl), tyX7_ok, nmX7, rfl, by decide +kernel, fun h => by cases h⟩
theorem fw_X7_19_7 : FW RX7 19 7 2 false .int := ⟨RX7, TX7, 3, tyX7, rfl, by decide, uw_X7, (tb_t 179 (by decide +kernel) rfl), tyX7_ok, nmX7, rfl, by decide +kernel, fun h => by cases h⟩
theorem fw_X8_19_8 : FW RX8 19 8 2 false .int := ⟨RX8, TX8, 6, tyX8, rfl, by decide, uw_X8, (tb_t 150 (by decide +kernel) rfl), tyX8_ok, nmX8, rfl, by decide +kernel, fun h => by cases h⟩
theorem fw_X8_23_8 : FW RX8 23 8 5 false .int := ⟨RX8, TX8, 6, tyX8, rfl, by decide, uw_X8, (tb_t 154 (by decide +kernel) rfl), tyX8_ok, nmX8, rfl, by decide +kernel, fun h => by cases h⟩
theorem fw_X8_33_8 : FW RX8 33 8 4 false .int := ⟨RX8, TX8, 6, tyX8, rfl, by decide, uw_X8, (tb_t 153 (by decide +kernel) rfl), tyX8_ok, nmX8, rfl, by decide +kernel, fun h => by cases h⟩
theorem fw_X8_36_8 : FW RX8 36 8 3 false .int := ⟨RX8, TX8, 6, tyX8, rfl, by decide, uw_X8, (tb_t 152 (by decide +kernel) rfl), tyX8_ok, nmX8, rfl, by decide +kernel, fun h => by cases h⟩
theorem lkS_X7_22 : LkS RX7 22 yJ7_fill_d0a16 cJ7_fill_d0a16 5 none 2 := ⟨(tb_t 658 (by decide +kernel) rfl), (tb_t 659 (by decide +kernel) rfl), (tb_t 9 (by decide +kernel) rfl), (tb_t 660 (by decide +kernel) rfl), by decide, by decide, by decide +kernel⟩
theorem lkS_X8_101 : LkS RX8 101 yX8_sortOf cX8_sortOf 1 (some .int) 1 := ⟨(tb_t 557 (by decide +kernel) rfl), (tb_t 558 (by decide +kernel) rfl), (tb_t 10 (by decide +kernel) rfl), (tb_t 559 (by decide +kernel) rfl), by decide, by decide, by decide +kernel⟩
theorem lkV_X8_26 : LkV RX8 26 RX8 yX8_nextToken cX8_nextToken 1 none 0 := ⟨(tb_t 553 (by decide +kernel) rfl), (tb_t 554 (by decide +kernel) rfl), (tb_t 555 (by decide +kernel) rfl), (tb_t 10 (by decide +kernel) rfl), (tb_t 556 (by decide +kernel) rfl), rfl, by decide, by decide, by decide +kernel⟩
theorem lkV_X8_29 : LkV RX8 29 RX8 yX8_takeItem cX8_takeItem 3 (some .boolean) 1 := ⟨(tb_t 560 (by decide +kernel) rfl), (tb_t 561 (by decide +kernel) rfl), (tb_t 562 (by decide +kernel) rfl), (tb_t 10 (by decide +kernel) rfl), (tb_t 563 (by decide +kernel) rfl), rfl, by decide, by decide, by decide +kernel⟩
theorem lkV_X8_39 : LkV RX8 39 RX8 yX8_kindAtHand cX8_kindAtHand 2 (some .int) 0 := ⟨(tb_t 564 (by decide +kernel) rfl), (tb_t 565 (by decide +kernel) rfl), (tb_t 566 (by decide +kernel) rfl), (tb_t 10 (by decide +kernel) rfl), (tb_t 567 (by decide +kernel) rfl), rfl, by decide, by decide, by decide +kernel⟩
theorem lkV_X8_43 : LkV RX8 43 RX8 yX8_takeThing cX8_takeThing 6 (some .boolean) 2 := ⟨(tb_t 620 (by decide +kernel) rfl), (tb_t 621 (by decide +kernel) rfl), (tb_t 622 (by decide +kernel) rfl), (tb_t 10 (by decide +kernel) rfl), (tb_t 623 (by decide +kernel) rfl), rfl, by decide, by decide, by decide +kernel⟩
theorem lkV_X8_49 : LkV RX8 49 RX8 yX8_isAtWord cX8_isAtWord 3 (some .boolean) 1 := ⟨(tb_t 568 (by decide +kernel) rfl), (tb_t 569 (by decide +kernel) rfl), (tb_t 570 (by decide +kernel) rfl), (tb_t 10 (by decide +kernel) rfl), (tb_t 571 (by decide +kernel) rfl), rfl, by decide, by decide, by decide +kernel⟩
theorem lkV_X8_59 : LkV RX8 59 RX8 yX8_takeTrait cX8_takeTrait 5 (some .boolean) 2 := ⟨(tb_t 638 (by decide +kernel) rfl), (tb_t 639 (by decide +kernel) rfl), (tb_t 640 (by decide +kernel) rfl), (tb_t 10 (by decide +kernel) rfl), (tb_t 641 (by decide +kernel) rfl), rfl, by decide, by decide, by decide +kernel⟩
theorem lkV_X8_68 : LkV RX8 68 RX2 yX2_isFull cX2_isFull 1 (some .boolean) 0 := ⟨(tb_t 624 (by decide +kernel) rfl), (tb_t 259 (by decide +kernel) rfl), (tb_t 260 (by decide +kernel) rfl), (tb_t 8 (by decide +kernel) rfl), (tb_t 261 (by decide +kernel) rfl), rfl, by decide, by decide, by decide +kernel⟩
theorem lkV_X8_72 : LkV RX8 72 RX8 yX8_takeNumber cX8_takeNumber 3 (some .int) 1 := ⟨(tb_t 625 (by decide +kernel) rfl), (tb_t 626 (by decide +kernel) rfl), (tb_t 627 (by decide +kernel) rfl), (tb_t 10 (by decide +kernel) rfl), (tb_t 628 (by decide +kernel) rfl), rfl, by decide, by decide, by decide +kernel⟩
theorem lkV_X8_80 : LkV RX8 80 RX2 yX2_add cX2_add 5 none 4 := ⟨(tb_t 636 (by decide +kernel) rfl), (tb_t 264 (by decide +kernel) rfl), (tb_t 265 (by decide +kernel) rfl), (tb_t 8 (by decide +kernel) rfl), (tb_t 266 (by decide +kernel) rfl), rfl, by decide, by decide, by decide +kernel⟩
theorem lkV_X8_84 : LkV RX8 84 RX8 yX8_valueAtHand cX8_valueAtHand 3 (some .int) 0 := ⟨(tb_t 629 (by decide +kernel) rfl), (tb_t 630 (by decide +kernel) rfl), (tb_t 631 (by decide +kernel) rfl), (tb_t 10 (by decide +kernel) rfl), (tb_t 632 (by decide +kernel) rfl), rfl, by decide, by decide, by decide +kernel⟩
theorem lkV_X8_93 : LkV RX8 93 RJ0 yJ0_length_8abf5 cJ0_length_8abf5 1 (some .int) 0 := ⟨(tb_t 572 (by decide +kernel) rfl), (tb_t 573 (by decide +kernel) rfl), (tb_t 574 (by decide +kernel) rfl), (tb_t 16 (by decide +kernel) rfl), (tb_t 575 (by decide +kernel) rfl), rfl, by decide, by decide, by decide +kernel⟩
theorem lkV_X8_97 : LkV RX8 97 RJ0 yJ0_charAt_5068e cJ0_charAt_5068e 2 (some .char) 1 := ⟨(tb_t 582 (by decide +kernel) rfl), (tb_t 583 (by decide +kernel) rfl), (tb_t 584 (by decide +kernel) rfl), (tb_t 16 (by decide +kernel) rfl), (tb_t 585 (by decide +kernel) rfl), rfl, by decide, by decide, by decide +kernel⟩
theorem lm_X8_104 : Cond.methodLink RX8 104 Lib.Math.min.name ∈ TB ∧ Cond.static Lib.Math.min.name ∈ TB ∧ Cond.initialized "java/lang/Math" ∈ TB ∧ Cond.code Lib.Math.min.name Lib.Math.min.code 2 (some .int) ∈ TB := ⟨(tb_t 633 (by decide +kernel) rfl), (tb_t 441 (by decide +kernel) rfl), (tb_t 14 (by decide +kernel) rfl), (tb_t 442 (by decide +kernel) rfl)⟩
theorem fl_X8_87_5 : FL RX8 87 5 0 := ⟨RX5, TX5, 1, rfl, by decide, uw_X5, (tb_t 37 (by decide +kernel) rfl)⟩
theorem fl_X8_87_6 : FL RX8 87 6 0 := ⟨RX6, TX6, 1, rfl, by decide, uw_X6, (tb_t 37 (by decide +kernel) rfl)⟩
theorem fl_X8_87_4 : FL RX8 87 4 0 := ⟨RX4, TX4, 1, rfl, by decide, uw_X4, (tb_t 37 (by decide +kernel) rfl)⟩
theorem fl_X8_87_3 : FL RX8 87 3 0 := ⟨RX3, TX3, 1, rfl, by decide, uw_X3, (tb_t 37 (by decide +kernel) rfl)⟩
theorem fl_X8_87_0 : FL RX8 87 0 0 := ⟨RX0, TX0, 1, rfl, by decide, uw_X0, (tb_t 37 (by decide +kernel) rfl)⟩
theorem fl_X8_87_1 : FL RX8 87 1 0 := ⟨RX1, TX1, 1, rfl, by decide, uw_X1, (tb_t 37 (by decide +kernel) rfl)⟩
theorem tl_X8_87 : ∀ j, j < 6 → FL RX8 87 (ciK j) 0 := by
  intro j hj
  match j, hj with
  | 0, _ => exact fl_X8_87_4
  | 1, _ => exact fl_X8_87_0
  | 2, _ => exact fl_X8_87_3
  | 3, _ => exact fl_X8_87_6
  | 4, _ => exact fl_X8_87_1
  | 5, _ => exact fl_X8_87_5
def wp_X7_begin (nu : Nat → Int64)  (a1 : Int32) (a2 : Int32) (Q : (Nat → Int64) → (Int32) → (Int32) → Prop) : Prop := (a1 = 0 → wp_J7_fill_d0a16 nu 40 0 (fun c2_0 => Q c2_0 a1 0)) ∧ (¬ (a1 = 0) → wp_J7_fill_d0a16 nu 40 0 (fun c1_0 => Q c1_0 a1 a2))
set_option maxRecDepth 100000 in
set_option maxHeartbeats 8000000 in
theorem c_X7_begin {l : Launch} {D : va_G} {ca : Nat → ClassId} {sd : Nat → Nat}  (qb : Nat) (qn : Nat) (nu : Nat → Int64) (bi : Int32) (le : Int32)  (a1 : Int32) (a2 : Int32)  {Q : (Nat → Int64) → (Int32) → (Int32) → Prop} (hw : wp_X7_begin nu  a1 a2 Q) : Cn l D ca sd yX7_begin cX7_begin 3 none { frames := 1, cells := 0, slots := 0, locals := 24 } [.ref qb, .int a1, .int a2] (wS ca qb qn nu bi le) (wS ca qb qn nu bi le) 0 0 (Rv D (fun u : (Nat → Int64) × (Int32) × (Int32) => Q u.1 u.2.1 u.2.2) (fun u => (wS ca qb qn u.1 u.2.1 u.2.2))) := by
  refine cn_of (by decide) (Nat.le_of_ble_eq_true rfl) (fun k C hR hB _ => ?_)
  have C : Cx D ca sd cX7_begin RX7 none { frames := 1, cells := 0, slots := 0, locals := 24 } k 3 := C
  unfold wp_X7_begin at hw
  show J l D k 3 0 0 0 (wS ca qb qn nu bi le) [(0, .ref qb), (1, .int a1), (2, .int a2)] []
  refine j_aload_n C 0 dX7_begin_0 rfl ?_
  refine j_iload_n C 1 dX7_begin_1 rfl ?_
  refine j_put C hB fw_X7_15_7 0 (wS ca qb qn nu a1 le) dX7_begin_2 rfl rfl rfl (Nat.le_of_ble_eq_true rfl) rfl ?_
  refine j_aload_n C 0 dX7_begin_5 rfl ?_
  refine j_iload_n C 1 dX7_begin_6 rfl ?_
  refine j_if_ne C 14 dX7_begin_7 (by decide) (fun z => ?_) (fun z => ?_)
  · replace hw := hw.2 z
    refine j_iload_n C 2 dX7_begin_14 rfl ?_
    refine j_put C hB fw_X7_19_7 0 (wS ca qb qn nu a1 a2) dX7_begin_15 rfl rfl rfl (Nat.le_of_ble_eq_true rfl) rfl ?_
    refine j_aload_n C 0 dX7_begin_18 rfl ?_
    refine j_get C fl_X7_9_7 0 dX7_begin_19 rfl rfl ?_
    refine j_lconst C 0 dX7_begin_22 (by decide) ?_
    refine j_cvT C hB 1 2 (fun u1 : (Nat → Int64) => (wS ca qb qn u1 a1 a2)) rfl (fun _ => rfl) (jr_S C lkS_X7_22 (c_J7_fill_d0a16 qn 40 nu 0 hw) ⟨rfl, rfl, by decide, by decide, by decide, by decide⟩ [1] (by decide) rfl (fx_rw C hB [1] rfl) rfl rfl (Nat.le_of_ble_eq_true rfl) dX7_begin_23) (fun u1 hw => ?_)
    exact j_vret C hB hR (u1, a1, a2) rfl dX7_begin_26 hw rfl
  · replace hw := hw.1 z
    refine j_iconst C 0 dX7_begin_10 (by decide) ?_
    refine j_goto C 15 dX7_begin_11 (by decide) ?_
    refine j_put C hB fw_X7_19_7 0 (wS ca qb qn nu a1 0) dX7_begin_15 rfl rfl rfl (Nat.le_of_ble_eq_true rfl) rfl ?_
    refine j_aload_n C 0 dX7_begin_18 rfl ?_
    refine j_get C fl_X7_9_7 0 dX7_begin_19 rfl rfl ?_
    refine j_lconst C 0 dX7_begin_22 (by decide) ?_
    refine j_cvT C hB 1 2 (fun u2 : (Nat → Int64) => (wS ca qb qn u2 a1 0)) rfl (fun _ => rfl) (jr_S C lkS_X7_22 (c_J7_fill_d0a16 qn 40 nu 0 hw) ⟨rfl, rfl, by decide, by decide, by decide, by decide⟩ [1] (by decide) rfl (fx_rw C hB [1] rfl) rfl rfl (Nat.le_of_ble_eq_true rfl) dX7_begin_23) (fun u2 hw => ?_)
    exact j_vret C hB hR (u2, a1, 0) rfl dX7_begin_26 hw rfl
def wp_X7_isMissing (bi : Int32)   (Q : (Int32) → Prop) : Prop := (bi = 0 → Q 1) ∧ (¬ (bi = 0) → Q 0)
set_option maxRecDepth 100000 in
set_option maxHeartbeats 8000000 in
theorem c_X7_isMissing {l : Launch} {D : va_G} {ca : Nat → ClassId} {sd : Nat → Nat}  (qb : Nat) (qn : Nat) (nu : Nat → Int64) (bi : Int32) (le : Int32)    {Q : (Int32) → Prop} (hw : wp_X7_isMissing bi   Q) : Cn l D ca sd yX7_isMissing cX7_isMissing 1 (some .boolean) { frames := 0, cells := 0, slots := 0, locals := 0 } [.ref qb] (wS ca qb qn nu bi le) [] 0 0 (Ri D (fun (r : Int32) (u : Unit) => Q r ) (fun _ => [])) := by
  refine cn_ofR (by decide) (Nat.le_of_ble_eq_true rfl) (fun k C hR => ?_)
  have C : Cx D ca sd cX7_isMissing RX7 (some .boolean) { frames := 0, cells := 0, slots := 0, locals := 0 } k 1 := C
  unfold wp_X7_isMissing at hw
  show J l D k 1 0 0 0 (wS ca qb qn nu bi le) [(0, .ref qb)] []
  refine j_aload_n C 0 dX7_isMissing_0 rfl ?_
  refine j_get C fl_X7_15_7 0 dX7_isMissing_1 rfl rfl ?_
  refine j_if_ne C 11 dX7_isMissing_4 (by decide) (fun z => ?_) (fun z => ?_)
  · replace hw := hw.2 z
    refine j_iconst C 0 dX7_isMissing_11 (by decide) ?_
    exact j_zretR C hR (by decide) () rfl dX7_isMissing_12 hw
  · replace hw := hw.1 z
    refine j_iconst C 1 dX7_isMissing_7 (by decide) ?_
    refine j_goto C 12 dX7_isMissing_8 (by decide) ?_
    exact j_zretR C hR (by decide) () rfl dX7_isMissing_12 hw
def wp_X7_put (nu : Nat → Int64) (bi : Int32)  (a1 : Int32) (a2 : Int64) (Q : (Nat → Int64) → Prop) : Prop := (bi = 8 → vp_in a1 40 ∧ (Q (vp_updL nu (a1.toNatClampNeg) ((((a2).toInt32).toInt8.toInt32).toInt64)))) ∧ (¬ (bi = 8) → (bi = 16 → vp_in a1 40 ∧ (Q (vp_updL nu (a1.toNatClampNeg) ((((a2).toInt32).toInt16.toInt32).toInt64)))) ∧ (¬ (bi = 16) → vp_in a1 40 ∧ (Q (vp_updL nu (a1.toNatClampNeg) a2))))
set_option maxRecDepth 100000 in
set_option maxHeartbeats 8000000 in
theorem c_X7_put {l : Launch} {D : va_G} {ca : Nat → ClassId} {sd : Nat → Nat}  (qb : Nat) (qn : Nat) (nu : Nat → Int64) (bi : Int32) (le : Int32)  (a1 : Int32) (a2 : Int64)  {Q : (Nat → Int64) → Prop} (hw : wp_X7_put nu bi  a1 a2 Q) : Cn l D ca sd yX7_put cX7_put 4 none { frames := 0, cells := 0, slots := 0, locals := 0 } [.ref qb, .int a1, .long a2] (wS ca qb qn nu bi le) (wS ca qb qn nu bi le) 0 0 (Rv D (fun u : (Nat → Int64) => Q u) (fun u => (wS ca qb qn u bi le))) := by
  refine cn_of (by decide) (Nat.le_of_ble_eq_true rfl) (fun k C hR hB _ => ?_)
  have C : Cx D ca sd cX7_put RX7 none { frames := 0, cells := 0, slots := 0, locals := 0 } k 4 := C
  unfold wp_X7_put at hw
  show J l D k 4 0 0 0 (wS ca qb qn nu bi le) [(0, .ref qb), (1, .int a1), (2, .long a2)] []
  refine j_aload_n C 0 dX7_put_0 rfl ?_
  refine j_get C fl_X7_9_7 0 dX7_put_1 rfl rfl ?_
  refine j_iload_n C 1 dX7_put_4 rfl ?_
  refine j_aload_n C 0 dX7_put_5 rfl ?_
  refine j_get C fl_X7_15_7 0 dX7_put_6 rfl rfl ?_
  refine j_bipush C 8 dX7_put_9 (by decide) ?_
  refine j_icmp_ne C 21 dX7_put_11 (by decide) (fun z => ?_) (fun z => ?_)
  · replace hw := hw.2 z
    refine j_aload_n C 0 dX7_put_21 rfl ?_
    refine j_get C fl_X7_15_7 0 dX7_put_22 rfl rfl ?_
    refine j_bipush C 16 dX7_put_25 (by decide) ?_
    refine j_icmp_ne C 37 dX7_put_27 (by decide) (fun z => ?_) (fun z => ?_)
    · replace hw := hw.2 z
      refine j_lload_n C 2 dX7_put_37 rfl ?_
      have hi1 := hw.1
      replace hw := hw.2
      refine j_last C hB 1 (wS ca qb qn (vp_updL nu (a1.toNatClampNeg) a2) bi le) dX7_put_38 rfl hi1 rfl ?_
      exact j_vret C hB hR (vp_updL nu (a1.toNatClampNeg) a2) rfl dX7_put_39 hw rfl
    · replace hw := hw.1 z
      refine j_lload_n C 2 dX7_put_30 rfl ?_
      refine j_l2i C dX7_put_31 ?_
      refine j_i2s C dX7_put_32 ?_
      refine j_i2l C dX7_put_33 ?_
      refine j_goto C 38 dX7_put_34 (by decide) ?_
      have hi2 := hw.1
      replace hw := hw.2
      refine j_last C hB 1 (wS ca qb qn (vp_updL nu (a1.toNatClampNeg) ((((a2).toInt32).toInt16.toInt32).toInt64)) bi le) dX7_put_38 rfl hi2 rfl ?_
      exact j_vret C hB hR (vp_updL nu (a1.toNatClampNeg) ((((a2).toInt32).toInt16.toInt32).toInt64)) rfl dX7_put_39 hw rfl
  · replace hw := hw.1 z
    refine j_lload_n C 2 dX7_put_14 rfl ?_
    refine j_l2i C dX7_put_15 ?_
    refine j_i2b C dX7_put_16 ?_
    refine j_i2l C dX7_put_17 ?_
    refine j_goto C 38 dX7_put_18 (by decide) ?_
    have hi3 := hw.1
    replace hw := hw.2
    refine j_last C hB 1 (wS ca qb qn (vp_updL nu (a1.toNatClampNeg) ((((a2).toInt32).toInt8.toInt32).toInt64)) bi le) dX7_put_38 rfl hi3 rfl ?_
    exact j_vret C hB hR (vp_updL nu (a1.toNatClampNeg) ((((a2).toInt32).toInt8.toInt32).toInt64)) rfl dX7_put_39 hw rfl
def wp_X7_hasSpan (le : Int32)  (a1 : Int32) (a2 : Int32) (Q : (Int32) → Prop) : Prop := (a1 < 0 → Q 0) ∧ (¬ (a1 < 0) → (a2 < 0 → Q 0) ∧ (¬ (a2 < 0) → (le < a2 → Q 0) ∧ (¬ (le < a2) → ((le - a2) < a1 → Q 0) ∧ (¬ ((le - a2) < a1) → Q 1))))
set_option maxRecDepth 100000 in
set_option maxHeartbeats 8000000 in
theorem c_X7_hasSpan {l : Launch} {D : va_G} {ca : Nat → ClassId} {sd : Nat → Nat}  (qb : Nat) (qn : Nat) (nu : Nat → Int64) (bi : Int32) (le : Int32)  (a1 : Int32) (a2 : Int32)  {Q : (Int32) → Prop} (hw : wp_X7_hasSpan le  a1 a2 Q) : Cn l D ca sd yX7_hasSpan cX7_hasSpan 3 (some .boolean) { frames := 0, cells := 0, slots := 0, locals := 0 } [.ref qb, .int a1, .int a2] (wS ca qb qn nu bi le) [] 0 0 (Ri D (fun (r : Int32) (u : Unit) => Q r ) (fun _ => [])) := by
  refine cn_ofR (by decide) (Nat.le_of_ble_eq_true rfl) (fun k C hR => ?_)
  have C : Cx D ca sd cX7_hasSpan RX7 (some .boolean) { frames := 0, cells := 0, slots := 0, locals := 0 } k 3 := C
  unfold wp_X7_hasSpan at hw
  show J l D k 3 0 0 0 (wS ca qb qn nu bi le) [(0, .ref qb), (1, .int a1), (2, .int a2)] []
  refine j_iload_n C 1 dX7_hasSpan_0 rfl ?_
  refine j_if_lt C 30 dX7_hasSpan_1 (by decide) (fun z => ?_) (fun z => ?_)
  · replace hw := hw.1 z
    refine j_iconst C 0 dX7_hasSpan_30 (by decide) ?_
    exact j_zretR C hR (by decide) () rfl dX7_hasSpan_31 hw
  · replace hw := hw.2 z
    refine j_iload_n C 2 dX7_hasSpan_4 rfl ?_
    refine j_if_lt C 30 dX7_hasSpan_5 (by decide) (fun z => ?_) (fun z => ?_)
    · replace hw := hw.1 z
      refine j_iconst C 0 dX7_hasSpan_30 (by decide) ?_
      exact j_zretR C hR (by decide) () rfl dX7_hasSpan_31 hw
    · replace hw := hw.2 z
      refine j_iload_n C 2 dX7_hasSpan_8 rfl ?_
      refine j_aload_n C 0 dX7_hasSpan_9 rfl ?_
      refine j_get C fl_X7_19_7 0 dX7_hasSpan_10 rfl rfl ?_
      refine j_icmp_gt C 30 dX7_hasSpan_13 (by decide) (fun z => ?_) (fun z => ?_)
      · replace hw := hw.1 z
        refine j_iconst C 0 dX7_hasSpan_30 (by decide) ?_
        exact j_zretR C hR (by decide) () rfl dX7_hasSpan_31 hw
      · replace hw := hw.2 z
        refine j_iload_n C 1 dX7_hasSpan_16 rfl ?_
        refine j_aload_n C 0 dX7_hasSpan_17 rfl ?_
        refine j_get C fl_X7_19_7 0 dX7_hasSpan_18 rfl rfl ?_
        refine j_iload_n C 2 dX7_hasSpan_21 rfl ?_
        refine j_isub C dX7_hasSpan_22 ?_
        refine j_icmp_gt C 30 dX7_hasSpan_23 (by decide) (fun z => ?_) (fun z => ?_)
        · replace hw := hw.1 z
          refine j_iconst C 0 dX7_hasSpan_30 (by decide) ?_
          exact j_zretR C hR (by decide) () rfl dX7_hasSpan_31 hw
        · replace hw := hw.2 z
          refine j_iconst C 1 dX7_hasSpan_26 (by decide) ?_
          refine j_goto C 31 dX7_hasSpan_27 (by decide) ?_
          exact j_zretR C hR (by decide) () rfl dX7_hasSpan_31 hw
def wp_X8_sortOf   (a1 : Int32) (Q : (Int32) → Prop) : Prop := (a1 < 97 → (a1 < 48 → (a1 = 59 → Q 3) ∧ (¬ (a1 = 59) → Q 4)) ∧ (¬ (a1 < 48) → (57 < a1 → (a1 = 59 → Q 3) ∧ (¬ (a1 = 59) → Q 4)) ∧ (¬ (57 < a1) → Q 2))) ∧ (¬ (a1 < 97) → (122 < a1 → (a1 < 48 → (a1 = 59 → Q 3) ∧ (¬ (a1 = 59) → Q 4)) ∧ (¬ (a1 < 48) → (57 < a1 → (a1 = 59 → Q 3) ∧ (¬ (a1 = 59) → Q 4)) ∧ (¬ (57 < a1) → Q 2))) ∧ (¬ (122 < a1) → Q 1))
set_option maxRecDepth 100000 in
set_option maxHeartbeats 8000000 in
theorem c_X8_sortOf {l : Launch} {D : va_G} {ca : Nat → ClassId} {sd : Nat → Nat}     (a1 : Int32)  {Q : (Int32) → Prop} (hw : wp_X8_sortOf   a1 Q) : Cn l D ca sd yX8_sortOf cX8_sortOf 1 (some .int) { frames := 0, cells := 0, slots := 0, locals := 0 } [.int a1] ([] : va_W) [] 0 0 (Ri D (fun (r : Int32) (u : Unit) => Q r ) (fun _ => [])) := by
  refine cn_ofR (by decide) (Nat.le_of_ble_eq_true rfl) (fun k C hR => ?_)
  have C : Cx D ca sd cX8_sortOf RX8 (some .int) { frames := 0, cells := 0, slots := 0, locals := 0 } k 1 := C
  unfold wp_X8_sortOf at hw
  show J l D k 1 0 0 0 ([] : va_W) [(0, .int a1)] []
  refine j_iload_n C 0 dX8_sortOf_0 rfl ?_
  refine j_bipush C 97 dX8_sortOf_1 (by decide) ?_
  refine j_icmp_lt C 14 dX8_sortOf_3 (by decide) (fun z => ?_) (fun z => ?_)
  · replace hw := hw.1 z
    refine j_iload_n C 0 dX8_sortOf_14 rfl ?_
    refine j_bipush C 48 dX8_sortOf_15 (by decide) ?_
    refine j_icmp_lt C 28 dX8_sortOf_17 (by decide) (fun z => ?_) (fun z => ?_)
    · replace hw := hw.1 z
      refine j_iload_n C 0 dX8_sortOf_28 rfl ?_
      refine j_bipush C 59 dX8_sortOf_29 (by decide) ?_
      refine j_icmp_ne C 38 dX8_sortOf_31 (by decide) (fun z => ?_) (fun z => ?_)
      · replace hw := hw.2 z
        refine j_iconst C 4 dX8_sortOf_38 (by decide) ?_
        exact j_iretR C hR () rfl dX8_sortOf_39 hw
      · replace hw := hw.1 z
        refine j_iconst C 3 dX8_sortOf_34 (by decide) ?_
        refine j_goto C 39 dX8_sortOf_35 (by decide) ?_
        exact j_iretR C hR () rfl dX8_sortOf_39 hw
    · replace hw := hw.2 z
      refine j_iload_n C 0 dX8_sortOf_20 rfl ?_
      refine j_bipush C 57 dX8_sortOf_21 (by decide) ?_
      refine j_icmp_gt C 28 dX8_sortOf_23 (by decide) (fun z => ?_) (fun z => ?_)
      · replace hw := hw.1 z
        refine j_iload_n C 0 dX8_sortOf_28 rfl ?_
        refine j_bipush C 59 dX8_sortOf_29 (by decide) ?_
        refine j_icmp_ne C 38 dX8_sortOf_31 (by decide) (fun z => ?_) (fun z => ?_)
        · replace hw := hw.2 z
          refine j_iconst C 4 dX8_sortOf_38 (by decide) ?_
          exact j_iretR C hR () rfl dX8_sortOf_39 hw
        · replace hw := hw.1 z
          refine j_iconst C 3 dX8_sortOf_34 (by decide) ?_
          refine j_goto C 39 dX8_sortOf_35 (by decide) ?_
          exact j_iretR C hR () rfl dX8_sortOf_39 hw
      · replace hw := hw.2 z
        refine j_iconst C 2 dX8_sortOf_26 (by decide) ?_
        exact j_iretR C hR () rfl dX8_sortOf_27 hw
  · replace hw := hw.2 z
    refine j_iload_n C 0 dX8_sortOf_6 rfl ?_
    refine j_bipush C 122 dX8_sortOf_7 (by decide) ?_
    refine j_icmp_gt C 14 dX8_sortOf_9 (by decide) (fun z => ?_) (fun z => ?_)
    · replace hw := hw.1 z
      refine j_iload_n C 0 dX8_sortOf_14 rfl ?_
      refine j_bipush C 48 dX8_sortOf_15 (by decide) ?_
      refine j_icmp_lt C 28 dX8_sortOf_17 (by decide) (fun z => ?_) (fun z => ?_)
      · replace hw := hw.1 z
        refine j_iload_n C 0 dX8_sortOf_28 rfl ?_
        refine j_bipush C 59 dX8_sortOf_29 (by decide) ?_
        refine j_icmp_ne C 38 dX8_sortOf_31 (by decide) (fun z => ?_) (fun z => ?_)
        · replace hw := hw.2 z
          refine j_iconst C 4 dX8_sortOf_38 (by decide) ?_
          exact j_iretR C hR () rfl dX8_sortOf_39 hw
        · replace hw := hw.1 z
          refine j_iconst C 3 dX8_sortOf_34 (by decide) ?_
          refine j_goto C 39 dX8_sortOf_35 (by decide) ?_
          exact j_iretR C hR () rfl dX8_sortOf_39 hw
      · replace hw := hw.2 z
        refine j_iload_n C 0 dX8_sortOf_20 rfl ?_
        refine j_bipush C 57 dX8_sortOf_21 (by decide) ?_
        refine j_icmp_gt C 28 dX8_sortOf_23 (by decide) (fun z => ?_) (fun z => ?_)
        · replace hw := hw.1 z
          refine j_iload_n C 0 dX8_sortOf_28 rfl ?_
          refine j_bipush C 59 dX8_sortOf_29 (by decide) ?_
          refine j_icmp_ne C 38 dX8_sortOf_31 (by decide) (fun z => ?_) (fun z => ?_)
          · replace hw := hw.2 z
            refine j_iconst C 4 dX8_sortOf_38 (by decide) ?_
            exact j_iretR C hR () rfl dX8_sortOf_39 hw
          · replace hw := hw.1 z
            refine j_iconst C 3 dX8_sortOf_34 (by decide) ?_
            refine j_goto C 39 dX8_sortOf_35 (by decide) ?_
            exact j_iretR C hR () rfl dX8_sortOf_39 hw
        · replace hw := hw.2 z
          refine j_iconst C 2 dX8_sortOf_26 (by decide) ?_
          exact j_iretR C hR () rfl dX8_sortOf_27 hw
    · replace hw := hw.2 z
      refine j_iconst C 1 dX8_sortOf_12 (by decide) ?_
      exact j_iretR C hR () rfl dX8_sortOf_13 hw
def wp_X8_hasRoomFor (ln : Int32)  (a1 : Int32) (Q : (Int32) → Prop) : Prop := (120 < (ln + a1) → Q 0) ∧ (¬ (120 < (ln + a1)) → Q 1)
set_option maxRecDepth 100000 in
set_option maxHeartbeats 8000000 in
theorem c_X8_hasRoomFor {l : Launch} {D : va_G} {ca : Nat → ClassId} {sd : Nat → Nat}  (tp : Nat → Nat) (n0 : Nat) (bb : Nat → Int32) (ln : Int32) (so : Int32) (pl : Int32) (bh : Int32)  (a1 : Int32)  {Q : (Int32) → Prop} (hw : wp_X8_hasRoomFor ln  a1 Q) : Cn l D ca sd yX8_hasRoomFor cX8_hasRoomFor 2 (some .boolean) { frames := 0, cells := 0, slots := 0, locals := 0 } [.ref (tp 0), .int a1] (wT ca tp n0 bb ln so pl bh) [] 0 0 (Ri D (fun (r : Int32) (u : Unit) => Q r ) (fun _ => [])) := by
  refine cn_ofR (by decide) (Nat.le_of_ble_eq_true rfl) (fun k C hR => ?_)
  have C : Cx D ca sd cX8_hasRoomFor RX8 (some .boolean) { frames := 0, cells := 0, slots := 0, locals := 0 } k 2 := C
  unfold wp_X8_hasRoomFor at hw
  show J l D k 2 0 0 0 (wT ca tp n0 bb ln so pl bh) [(0, .ref (tp 0)), (1, .int a1)] []
  refine j_aload_n C 0 dX8_hasRoomFor_0 rfl ?_
  refine j_get C fl_X8_19_8 0 dX8_hasRoomFor_1 rfl rfl ?_
  refine j_iload_n C 1 dX8_hasRoomFor_4 rfl ?_
  refine j_iadd C dX8_hasRoomFor_5 ?_
  refine j_bipush C 120 dX8_hasRoomFor_6 (by decide) ?_
  refine j_icmp_gt C 15 dX8_hasRoomFor_8 (by decide) (fun z => ?_) (fun z => ?_)
  · replace hw := hw.1 z
    refine j_iconst C 0 dX8_hasRoomFor_15 (by decide) ?_
    exact j_zretR C hR (by decide) () rfl dX8_hasRoomFor_16 hw
  · replace hw := hw.2 z
    refine j_iconst C 1 dX8_hasRoomFor_11 (by decide) ?_
    refine j_goto C 16 dX8_hasRoomFor_12 (by decide) ?_
    exact j_zretR C hR (by decide) () rfl dX8_hasRoomFor_16 hw
def wpl_X8_append_4 (x1 : Int32) (K : (Int32) → (Nat → Int32) → (Int32) → Prop) : Nat → (Int32) → (Nat → Int32) → (Int32) → Prop
  | 0, _, _, _ => False
  | n + 1, x3, bb, ln => (x3 < 0 → K x3 bb ln) ∧ (¬ (x3 < 0) → (120 ≤ ln → K x3 bb ln) ∧ (¬ (120 ≤ ln) → vp_in ln 120 ∧ (wpl_X8_append_4 x1  K n (x3 + (-1)) (upd bb (ln.toNatClampNeg) (vp_nar .byte ((x1 >>> ((8 * x3) &&& 31)).toInt8.toInt32))) (ln + 1))))
def wp_X8_append (bb : Nat → Int32) (ln : Int32)  (a1 : Int32) (a2 : Int32) (Q : (Nat → Int32) → (Int32) → Prop) : Prop := ∃ n2 : Nat, wpl_X8_append_4 a1  (fun y2_3 y2_bb y2_ln => Q y2_bb y2_ln) n2 (a2 - 1) bb ln
set_option maxRecDepth 100000 in
set_option maxHeartbeats 8000000 in
theorem ml_X8_append_4 {l : Launch} {D : va_G} {ca : Nat → ClassId} {sd : Nat → Nat}  {k : Kx} (tp : Nat → Nat) (n0 : Nat)  (so : Int32) (pl : Int32) (bh : Int32) (x1 : Int32) (x2 : Int32) (C : Cx D ca sd cX8_append RX8 none { frames := 0, cells := 0, slots := 0, locals := 0 } k 4) {Q : (Nat → Int32) → (Int32) → Prop} (hR : Rx (Rv D (fun u : (Nat → Int32) × (Int32) => Q u.1 u.2) (fun u => (wT ca tp n0 u.1 u.2 so pl bh))) 0 0 k) (hB : Wx k) {K : (Int32) → (Nat → Int32) → (Int32) → Prop} (hK : ∀ (x3' : Int32) (bb' : Nat → Int32) (ln' : Int32), K x3' bb' ln' → J l D k 4 0 0 49 (wT ca tp n0 bb' ln' so pl bh) [(0, .ref (tp 0)), (1, .int x1), (2, .int x2), (3, .int x3')] []) : ∀ (n : Nat) (x3 : Int32) (bb : Nat → Int32) (ln : Int32), wpl_X8_append_4 x1  K n x3 bb ln → J l D k 4 0 0 4 (wT ca tp n0 bb ln so pl bh) [(0, .ref (tp 0)), (1, .int x1), (2, .int x2), (3, .int x3)] [] := by
  intro n
  induction n with
  | zero =>
    intro x3 bb ln hw
    rw [wpl_X8_append_4] at hw
    exact hw.elim
  | succ n ih =>
    intro x3 bb ln hw
    rw [wpl_X8_append_4] at hw
    refine j_iload_n C 3 dX8_append_4 rfl ?_
    refine j_if_lt C 49 dX8_append_5 (by decide) (fun z => ?_) (fun z => ?_)
    · replace hw := hw.1 z
      exact hK x3 bb ln hw
    · replace hw := hw.2 z
      refine j_aload_n C 0 dX8_append_8 rfl ?_
      refine j_get C fl_X8_19_8 0 dX8_append_9 rfl rfl ?_
      refine j_bipush C 120 dX8_append_12 (by decide) ?_
      refine j_icmp_ge C 49 dX8_append_14 (by decide) (fun z => ?_) (fun z => ?_)
      · replace hw := hw.1 z
        exact hK x3 bb ln hw
      · replace hw := hw.2 z
        refine j_aload_n C 0 dX8_append_17 rfl ?_
        refine j_get C fl_X8_9_8 0 dX8_append_18 rfl rfl ?_
        refine j_aload_n C 0 dX8_append_21 rfl ?_
        refine j_get C fl_X8_19_8 0 dX8_append_22 rfl rfl ?_
        refine j_iload_n C 1 dX8_append_25 rfl ?_
        refine j_bipush C 8 dX8_append_26 (by decide) ?_
        refine j_iload_n C 3 dX8_append_28 rfl ?_
        refine j_imul C dX8_append_29 ?_
        refine j_ishr C dX8_append_30 ?_
        refine j_i2b C dX8_append_31 ?_
        have hi1 := hw.1
        replace hw := hw.2
        refine j_bast C hB 1 (wT ca tp n0 (upd bb (ln.toNatClampNeg) (vp_nar .byte ((x1 >>> ((8 * x3) &&& 31)).toInt8.toInt32))) ln so pl bh) dX8_append_32 rfl hi1 rfl ?_
        refine j_aload_n C 0 dX8_append_33 rfl ?_
        refine j_dup C dX8_append_34 rfl ?_
        refine j_get C fl_X8_19_8 0 dX8_append_35 rfl rfl ?_
        refine j_iconst C 1 dX8_append_38 (by decide) ?_
        refine j_iadd C dX8_append_39 ?_
        refine j_put C hB fw_X8_19_8 0 (wT ca tp n0 (upd bb (ln.toNatClampNeg) (vp_nar .byte ((x1 >>> ((8 * x3) &&& 31)).toInt8.toInt32))) (ln + 1) so pl bh) dX8_append_40 rfl rfl rfl (Nat.le_of_ble_eq_true rfl) rfl ?_
        refine j_iinc C 3 (x3 + (-1)) [(3, .int (x3 + (-1))), (0, .ref (tp 0)), (1, .int x1), (2, .int x2)] dX8_append_43 rfl rfl (by decide) rfl ?_
        refine j_goto C 4 dX8_append_46 (by decide) ?_
        refine j_lsub [1, 2, 3, 0] [(0, .ref (tp 0)), (1, .int x1), (2, .int x2), (3, .int (x3 + (-1)))] rfl ?_
        exact ih (x3 + (-1)) (upd bb (ln.toNatClampNeg) (vp_nar .byte ((x1 >>> ((8 * x3) &&& 31)).toInt8.toInt32))) (ln + 1) hw
set_option maxRecDepth 100000 in
set_option maxHeartbeats 8000000 in
theorem c_X8_append {l : Launch} {D : va_G} {ca : Nat → ClassId} {sd : Nat → Nat}  (tp : Nat → Nat) (n0 : Nat) (bb : Nat → Int32) (ln : Int32) (so : Int32) (pl : Int32) (bh : Int32)  (a1 : Int32) (a2 : Int32)  {Q : (Nat → Int32) → (Int32) → Prop} (hw : wp_X8_append bb ln  a1 a2 Q) : Cn l D ca sd yX8_append cX8_append 4 none { frames := 0, cells := 0, slots := 0, locals := 0 } [.ref (tp 0), .int a1, .int a2] (wT ca tp n0 bb ln so pl bh) (wT ca tp n0 bb ln so pl bh) 0 0 (Rv D (fun u : (Nat → Int32) × (Int32) => Q u.1 u.2) (fun u => (wT ca tp n0 u.1 u.2 so pl bh))) := by
  refine cn_of (by decide) (Nat.le_of_ble_eq_true rfl) (fun k C hR hB _ => ?_)
  have C : Cx D ca sd cX8_append RX8 none { frames := 0, cells := 0, slots := 0, locals := 0 } k 4 := C
  unfold wp_X8_append at hw
  show J l D k 4 0 0 0 (wT ca tp n0 bb ln so pl bh) [(0, .ref (tp 0)), (1, .int a1), (2, .int a2)] []
  refine j_iload_n C 2 dX8_append_0 rfl ?_
  refine j_iconst C 1 dX8_append_1 (by decide) ?_
  refine j_isub C dX8_append_2 ?_
  refine j_istore_n C [(3, .int (a2 - 1)), (0, .ref (tp 0)), (1, .int a1), (2, .int a2)] dX8_append_3 (by decide) rfl ?_
  refine j_lsub [1, 2, 3, 0] [(0, .ref (tp 0)), (1, .int a1), (2, .int a2), (3, .int (a2 - 1))] rfl ?_
  obtain ⟨n2, hw⟩ := hw
  refine ml_X8_append_4 tp n0  so pl bh a1 a2 C hR hB (fun y2_3 y2_bb y2_ln hw => ?_) n2 (a2 - 1) bb ln hw
  exact j_vret C hB hR (y2_bb, y2_ln) rfl dX8_append_49 hw rfl
def wpl_X8_nextToken_8 (bb : Nat → Int32) (ln : Int32) (K : (Int32) → Prop) : Nat → (Int32) → Prop
  | 0, _ => False
  | n + 1, pl => (ln ≤ pl → K pl) ∧ (¬ (ln ≤ pl) → vp_in pl 120 ∧ (((bb (pl.toNatClampNeg)) = 32 → wpl_X8_nextToken_8 bb ln  K n (pl + 1)) ∧ (¬ ((bb (pl.toNatClampNeg)) = 32) → K pl)))
def wpl_X8_nextToken_117 (bb : Nat → Int32) (ln : Int32) (so : Int32) (K : (Int32) → Prop) : Nat → (Int32) → Prop
  | 0, _ => False
  | n + 1, bh => (ln ≤ bh → K bh) ∧ (¬ (ln ≤ bh) → vp_in bh 120 ∧ (wp_X8_sortOf (bb (bh.toNatClampNeg)) (fun r6 => (r6 = so → wpl_X8_nextToken_117 bb ln so  K n (bh + 1)) ∧ (¬ (r6 = so) → K bh))))
def wp_X8_nextToken (bb : Nat → Int32) (ln : Int32) (bh : Int32)   (Q : (Int32) → (Int32) → (Int32) → Prop) : Prop := ∃ n2 : Nat, wpl_X8_nextToken_8 bb ln  (fun y2_pl => (ln ≤ y2_pl → Q 0 y2_pl y2_pl) ∧ (¬ (ln ≤ y2_pl) → vp_in y2_pl 120 ∧ (wp_X8_sortOf (bb (y2_pl.toNatClampNeg)) (fun r4 => (r4 = 0 → (r4 = 1 → ∃ n9 : Nat, wpl_X8_nextToken_117 bb ln r4  (fun y9_bh => Q r4 y2_pl y9_bh) n9 y2_pl) ∧ (¬ (r4 = 1) → (r4 = 2 → ∃ n10 : Nat, wpl_X8_nextToken_117 bb ln r4  (fun y10_bh => Q r4 y2_pl y10_bh) n10 y2_pl) ∧ (¬ (r4 = 2) → Q r4 y2_pl y2_pl))) ∧ (¬ (r4 = 0) → (r4 = 1 → ∃ n7 : Nat, wpl_X8_nextToken_117 bb ln r4  (fun y7_bh => Q r4 y2_pl y7_bh) n7 (y2_pl + 1)) ∧ (¬ (r4 = 1) → (r4 = 2 → ∃ n8 : Nat, wpl_X8_nextToken_117 bb ln r4  (fun y8_bh => Q r4 y2_pl y8_bh) n8 (y2_pl + 1)) ∧ (¬ (r4 = 2) → Q r4 y2_pl (y2_pl + 1)))))))) n2 bh
set_option maxRecDepth 100000 in
set_option maxHeartbeats 8000000 in
theorem ml_X8_nextToken_8 {l : Launch} {D : va_G} {ca : Nat → ClassId} {sd : Nat → Nat}  {k : Kx} (tp : Nat → Nat) (n0 : Nat)  (bb : Nat → Int32) (ln : Int32) (so : Int32) (bh : Int32) (C : Cx D ca sd cX8_nextToken RX8 none { frames := 1, cells := 0, slots := 0, locals := 20 } k 1) {Q : (Int32) → (Int32) → (Int32) → Prop} (hR : Rx (Rv D (fun u : (Int32) × (Int32) × (Int32) => Q u.1 u.2.1 u.2.2) (fun u => (wT ca tp n0 bb ln u.1 u.2.1 u.2.2))) 0 0 k) (hB : Wx k) {K : (Int32) → Prop} (hK : ∀ (pl' : Int32), K pl' → J l D k 1 0 0 46 (wT ca tp n0 bb ln so pl' bh) [(0, .ref (tp 0))] []) : ∀ (n : Nat) (pl : Int32), wpl_X8_nextToken_8 bb ln  K n pl → J l D k 1 0 0 8 (wT ca tp n0 bb ln so pl bh) [(0, .ref (tp 0))] [] := by
  intro n
  induction n with
  | zero =>
    intro pl hw
    rw [wpl_X8_nextToken_8] at hw
    exact hw.elim
  | succ n ih =>
    intro pl hw
    rw [wpl_X8_nextToken_8] at hw
    refine j_aload_n C 0 dX8_nextToken_8 rfl ?_
    refine j_get C fl_X8_33_8 0 dX8_nextToken_9 rfl rfl ?_
    refine j_aload_n C 0 dX8_nextToken_12 rfl ?_
    refine j_get C fl_X8_19_8 0 dX8_nextToken_13 rfl rfl ?_
    refine j_icmp_ge C 46 dX8_nextToken_16 (by decide) (fun z => ?_) (fun z => ?_)
    · replace hw := hw.1 z
      exact hK pl hw
    · replace hw := hw.2 z
      refine j_aload_n C 0 dX8_nextToken_19 rfl ?_
      refine j_get C fl_X8_9_8 0 dX8_nextToken_20 rfl rfl ?_
      refine j_aload_n C 0 dX8_nextToken_23 rfl ?_
      refine j_get C fl_X8_33_8 0 dX8_nextToken_24 rfl rfl ?_
      have hi1 := hw.1
      replace hw := hw.2
      refine j_bald C 1 dX8_nextToken_27 rfl hi1 ?_
      refine j_bipush C 32 dX8_nextToken_28 (by decide) ?_
      refine j_icmp_ne C 46 dX8_nextToken_30 (by decide) (fun z => ?_) (fun z => ?_)
      · replace hw := hw.2 z
        exact hK pl hw
      · replace hw := hw.1 z
        refine j_aload_n C 0 dX8_nextToken_33 rfl ?_
        refine j_dup C dX8_nextToken_34 rfl ?_
        refine j_get C fl_X8_33_8 0 dX8_nextToken_35 rfl rfl ?_
        refine j_iconst C 1 dX8_nextToken_38 (by decide) ?_
        refine j_iadd C dX8_nextToken_39 ?_
        refine j_put C hB fw_X8_33_8 0 (wT ca tp n0 bb ln so (pl + 1) bh) dX8_nextToken_40 rfl rfl rfl (Nat.le_of_ble_eq_true rfl) rfl ?_
        refine j_goto C 8 dX8_nextToken_43 (by decide) ?_
        exact ih (pl + 1) hw
set_option maxRecDepth 100000 in
set_option maxHeartbeats 8000000 in
theorem ml_X8_nextToken_117 {l : Launch} {D : va_G} {ca : Nat → ClassId} {sd : Nat → Nat}  {k : Kx} (tp : Nat → Nat) (n0 : Nat)  (bb : Nat → Int32) (ln : Int32) (so : Int32) (pl : Int32) (C : Cx D ca sd cX8_nextToken RX8 none { frames := 1, cells := 0, slots := 0, locals := 20 } k 1) {Q : (Int32) → (Int32) → (Int32) → Prop} (hR : Rx (Rv D (fun u : (Int32) × (Int32) × (Int32) => Q u.1 u.2.1 u.2.2) (fun u => (wT ca tp n0 bb ln u.1 u.2.1 u.2.2))) 0 0 k) (hB : Wx k) {K : (Int32) → Prop} (hK : ∀ (bh' : Int32), K bh' → J l D k 1 0 0 160 (wT ca tp n0 bb ln so pl bh') [(0, .ref (tp 0))] []) : ∀ (n : Nat) (bh : Int32), wpl_X8_nextToken_117 bb ln so  K n bh → J l D k 1 0 0 117 (wT ca tp n0 bb ln so pl bh) [(0, .ref (tp 0))] [] := by
  intro n
  induction n with
  | zero =>
    intro bh hw
    rw [wpl_X8_nextToken_117] at hw
    exact hw.elim
  | succ n ih =>
    intro bh hw
    rw [wpl_X8_nextToken_117] at hw
    refine j_aload_n C 0 dX8_nextToken_117 rfl ?_
    refine j_get C fl_X8_23_8 0 dX8_nextToken_118 rfl rfl ?_
    refine j_aload_n C 0 dX8_nextToken_121 rfl ?_
    refine j_get C fl_X8_19_8 0 dX8_nextToken_122 rfl rfl ?_
    refine j_icmp_ge C 160 dX8_nextToken_125 (by decide) (fun z => ?_) (fun z => ?_)
    · replace hw := hw.1 z
      exact hK bh hw
    · replace hw := hw.2 z
      refine j_aload_n C 0 dX8_nextToken_128 rfl ?_
      refine j_get C fl_X8_9_8 0 dX8_nextToken_129 rfl rfl ?_
      refine j_aload_n C 0 dX8_nextToken_132 rfl ?_
      refine j_get C fl_X8_23_8 0 dX8_nextToken_133 rfl rfl ?_
      have hi5 := hw.1
      replace hw := hw.2
      refine j_bald C 1 dX8_nextToken_136 rfl hi5 ?_
      refine j_ciZ C (jr_S C lkS_X8_101 (c_X8_sortOf (bb (bh.toNatClampNeg)) hw) ⟨rfl, rfl, by decide, by decide, by decide, by decide⟩ [] (by decide) rfl (fx_ro C) rfl rfl (Nat.le_of_ble_eq_true rfl) dX8_nextToken_137) (fun r6 u6 hw => ?_)
      refine j_aload_n C 0 dX8_nextToken_140 rfl ?_
      refine j_get C fl_X8_36_8 0 dX8_nextToken_141 rfl rfl ?_
      refine j_icmp_ne C 160 dX8_nextToken_144 (by decide) (fun z => ?_) (fun z => ?_)
      · replace hw := hw.2 z
        exact hK bh hw
      · replace hw := hw.1 z
        refine j_aload_n C 0 dX8_nextToken_147 rfl ?_
        refine j_dup C dX8_nextToken_148 rfl ?_
        refine j_get C fl_X8_23_8 0 dX8_nextToken_149 rfl rfl ?_
        refine j_iconst C 1 dX8_nextToken_152 (by decide) ?_
        refine j_iadd C dX8_nextToken_153 ?_
        refine j_put C hB fw_X8_23_8 0 (wT ca tp n0 bb ln so pl (bh + 1)) dX8_nextToken_154 rfl rfl rfl (Nat.le_of_ble_eq_true rfl) rfl ?_
        refine j_goto C 117 dX8_nextToken_157 (by decide) ?_
        exact ih (bh + 1) hw
set_option maxRecDepth 100000 in
set_option maxHeartbeats 8000000 in
theorem c_X8_nextToken {l : Launch} {D : va_G} {ca : Nat → ClassId} {sd : Nat → Nat}  (tp : Nat → Nat) (n0 : Nat) (bb : Nat → Int32) (ln : Int32) (so : Int32) (pl : Int32) (bh : Int32)    {Q : (Int32) → (Int32) → (Int32) → Prop} (hw : wp_X8_nextToken bb ln bh   Q) : Cn l D ca sd yX8_nextToken cX8_nextToken 1 none { frames := 1, cells := 0, slots := 0, locals := 20 } [.ref (tp 0)] (wT ca tp n0 bb ln so pl bh) (wT ca tp n0 bb ln so pl bh) 0 0 (Rv D (fun u : (Int32) × (Int32) × (Int32) => Q u.1 u.2.1 u.2.2) (fun u => (wT ca tp n0 bb ln u.1 u.2.1 u.2.2))) := by
  refine cn_of (by decide) (Nat.le_of_ble_eq_true rfl) (fun k C hR hB _ => ?_)
  have C : Cx D ca sd cX8_nextToken RX8 none { frames := 1, cells := 0, slots := 0, locals := 20 } k 1 := C
  unfold wp_X8_nextToken at hw
  show J l D k 1 0 0 0 (wT ca tp n0 bb ln so pl bh) [(0, .ref (tp 0))] []
  refine j_aload_n C 0 dX8_nextToken_0 rfl ?_
  refine j_aload_n C 0 dX8_nextToken_1 rfl ?_
  refine j_get C fl_X8_23_8 0 dX8_nextToken_2 rfl rfl ?_
  refine j_put C hB fw_X8_33_8 0 (wT ca tp n0 bb ln so bh bh) dX8_nextToken_5 rfl rfl rfl (Nat.le_of_ble_eq_true rfl) rfl ?_
  obtain ⟨n2, hw⟩ := hw
  refine ml_X8_nextToken_8 tp n0  bb ln so bh C hR hB (fun y2_pl hw => ?_) n2 bh hw
  refine j_aload_n C 0 dX8_nextToken_46 rfl ?_
  refine j_aload_n C 0 dX8_nextToken_47 rfl ?_
  refine j_get C fl_X8_33_8 0 dX8_nextToken_48 rfl rfl ?_
  refine j_aload_n C 0 dX8_nextToken_51 rfl ?_
  refine j_get C fl_X8_19_8 0 dX8_nextToken_52 rfl rfl ?_
  refine j_icmp_ge C 73 dX8_nextToken_55 (by decide) (fun z => ?_) (fun z => ?_)
  · replace hw := hw.1 z
    refine j_iconst C 0 dX8_nextToken_73 (by decide) ?_
    refine j_put C hB fw_X8_36_8 0 (wT ca tp n0 bb ln 0 y2_pl bh) dX8_nextToken_74 rfl rfl rfl (Nat.le_of_ble_eq_true rfl) rfl ?_
    refine j_aload_n C 0 dX8_nextToken_77 rfl ?_
    refine j_aload_n C 0 dX8_nextToken_78 rfl ?_
    refine j_get C fl_X8_36_8 0 dX8_nextToken_79 rfl rfl ?_
    refine j_if_ne C 92 dX8_nextToken_82 (by decide) (fun z => absurd z (by decide)) (fun _ => ?_)
    refine j_aload_n C 0 dX8_nextToken_85 rfl ?_
    refine j_get C fl_X8_33_8 0 dX8_nextToken_86 rfl rfl ?_
    refine j_goto C 98 dX8_nextToken_89 (by decide) ?_
    refine j_put C hB fw_X8_23_8 0 (wT ca tp n0 bb ln 0 y2_pl y2_pl) dX8_nextToken_98 rfl rfl rfl (Nat.le_of_ble_eq_true rfl) rfl ?_
    refine j_aload_n C 0 dX8_nextToken_101 rfl ?_
    refine j_get C fl_X8_36_8 0 dX8_nextToken_102 rfl rfl ?_
    refine j_iconst C 1 dX8_nextToken_105 (by decide) ?_
    refine j_icmp_eq C 117 dX8_nextToken_106 (by decide) (fun z => absurd z (by decide)) (fun _ => ?_)
    refine j_aload_n C 0 dX8_nextToken_109 rfl ?_
    refine j_get C fl_X8_36_8 0 dX8_nextToken_110 rfl rfl ?_
    refine j_iconst C 2 dX8_nextToken_113 (by decide) ?_
    refine j_icmp_ne C 160 dX8_nextToken_114 (by decide) (fun _ => ?_) (fun z => absurd z (by decide))
    exact j_vret C hB hR (0, y2_pl, y2_pl) rfl dX8_nextToken_160 hw rfl
  · replace hw := hw.2 z
    refine j_aload_n C 0 dX8_nextToken_58 rfl ?_
    refine j_get C fl_X8_9_8 0 dX8_nextToken_59 rfl rfl ?_
    refine j_aload_n C 0 dX8_nextToken_62 rfl ?_
    refine j_get C fl_X8_33_8 0 dX8_nextToken_63 rfl rfl ?_
    have hi3 := hw.1
    replace hw := hw.2
    refine j_bald C 1 dX8_nextToken_66 rfl hi3 ?_
    refine j_ciZ C (jr_S C lkS_X8_101 (c_X8_sortOf (bb (y2_pl.toNatClampNeg)) hw) ⟨rfl, rfl, by decide, by decide, by decide, by decide⟩ [] (by decide) rfl (fx_ro C) rfl rfl (Nat.le_of_ble_eq_true rfl) dX8_nextToken_67) (fun r4 u4 hw => ?_)
    refine j_goto C 74 dX8_nextToken_70 (by decide) ?_
    refine j_put C hB fw_X8_36_8 0 (wT ca tp n0 bb ln r4 y2_pl bh) dX8_nextToken_74 rfl rfl rfl (Nat.le_of_ble_eq_true rfl) rfl ?_
    refine j_aload_n C 0 dX8_nextToken_77 rfl ?_
    refine j_aload_n C 0 dX8_nextToken_78 rfl ?_
    refine j_get C fl_X8_36_8 0 dX8_nextToken_79 rfl rfl ?_
    refine j_if_ne C 92 dX8_nextToken_82 (by decide) (fun z => ?_) (fun z => ?_)
    · replace hw := hw.2 z
      refine j_aload_n C 0 dX8_nextToken_92 rfl ?_
      refine j_get C fl_X8_33_8 0 dX8_nextToken_93 rfl rfl ?_
      refine j_iconst C 1 dX8_nextToken_96 (by decide) ?_
      refine j_iadd C dX8_nextToken_97 ?_
      refine j_put C hB fw_X8_23_8 0 (wT ca tp n0 bb ln r4 y2_pl (y2_pl + 1)) dX8_nextToken_98 rfl rfl rfl (Nat.le_of_ble_eq_true rfl) rfl ?_
      refine j_aload_n C 0 dX8_nextToken_101 rfl ?_
      refine j_get C fl_X8_36_8 0 dX8_nextToken_102 rfl rfl ?_
      refine j_iconst C 1 dX8_nextToken_105 (by decide) ?_
      refine j_icmp_eq C 117 dX8_nextToken_106 (by decide) (fun z => ?_) (fun z => ?_)
      · replace hw := hw.1 z
        obtain ⟨n7, hw⟩ := hw
        refine ml_X8_nextToken_117 tp n0  bb ln r4 y2_pl C hR hB (fun y7_bh hw => ?_) n7 (y2_pl + 1) hw
        exact j_vret C hB hR (r4, y2_pl, y7_bh) rfl dX8_nextToken_160 hw rfl
      · replace hw := hw.2 z
        refine j_aload_n C 0 dX8_nextToken_109 rfl ?_
        refine j_get C fl_X8_36_8 0 dX8_nextToken_110 rfl rfl ?_
        refine j_iconst C 2 dX8_nextToken_113 (by decide) ?_
        refine j_icmp_ne C 160 dX8_nextToken_114 (by decide) (fun z => ?_) (fun z => ?_)
        · replace hw := hw.2 z
          exact j_vret C hB hR (r4, y2_pl, y2_pl + 1) rfl dX8_nextToken_160 hw rfl
        · replace hw := hw.1 z
          obtain ⟨n8, hw⟩ := hw
          refine ml_X8_nextToken_117 tp n0  bb ln r4 y2_pl C hR hB (fun y8_bh hw => ?_) n8 (y2_pl + 1) hw
          exact j_vret C hB hR (r4, y2_pl, y8_bh) rfl dX8_nextToken_160 hw rfl
    · replace hw := hw.1 z
      refine j_aload_n C 0 dX8_nextToken_85 rfl ?_
      refine j_get C fl_X8_33_8 0 dX8_nextToken_86 rfl rfl ?_
      refine j_goto C 98 dX8_nextToken_89 (by decide) ?_
      refine j_put C hB fw_X8_23_8 0 (wT ca tp n0 bb ln r4 y2_pl y2_pl) dX8_nextToken_98 rfl rfl rfl (Nat.le_of_ble_eq_true rfl) rfl ?_
      refine j_aload_n C 0 dX8_nextToken_101 rfl ?_
      refine j_get C fl_X8_36_8 0 dX8_nextToken_102 rfl rfl ?_
      refine j_iconst C 1 dX8_nextToken_105 (by decide) ?_
      refine j_icmp_eq C 117 dX8_nextToken_106 (by decide) (fun z => ?_) (fun z => ?_)
      · replace hw := hw.1 z
        obtain ⟨n9, hw⟩ := hw
        refine ml_X8_nextToken_117 tp n0  bb ln r4 y2_pl C hR hB (fun y9_bh hw => ?_) n9 y2_pl hw
        exact j_vret C hB hR (r4, y2_pl, y9_bh) rfl dX8_nextToken_160 hw rfl
      · replace hw := hw.2 z
        refine j_aload_n C 0 dX8_nextToken_109 rfl ?_
        refine j_get C fl_X8_36_8 0 dX8_nextToken_110 rfl rfl ?_
        refine j_iconst C 2 dX8_nextToken_113 (by decide) ?_
        refine j_icmp_ne C 160 dX8_nextToken_114 (by decide) (fun z => ?_) (fun z => ?_)
        · replace hw := hw.2 z
          exact j_vret C hB hR (r4, y2_pl, y2_pl) rfl dX8_nextToken_160 hw rfl
        · replace hw := hw.1 z
          obtain ⟨n10, hw⟩ := hw
          refine ml_X8_nextToken_117 tp n0  bb ln r4 y2_pl C hR hB (fun y10_bh hw => ?_) n10 y2_pl hw
          exact j_vret C hB hR (r4, y2_pl, y10_bh) rfl dX8_nextToken_160 hw rfl
def wpl_X8_valueAtHand_7 (bb : Nat → Int32) (bh : Int32) (K : (Int32) → (Int32) → Prop) : Nat → (Int32) → (Int32) → Prop
  | 0, _, _ => False
  | n + 1, x1, x2 => (bh ≤ x2 → K x1 x2) ∧ (¬ (bh ≤ x2) → vp_in x2 120 ∧ (wpl_X8_valueAtHand_7 bb bh  K n (if (((10 * x1) + (bb (x2.toNatClampNeg))) - 48) < 1000 then (((10 * x1) + (bb (x2.toNatClampNeg))) - 48) else 1000) (x2 + 1)))
def wp_X8_valueAtHand (bb : Nat → Int32) (pl : Int32) (bh : Int32)   (Q : (Int32) → Prop) : Prop := ∃ n2 : Nat, wpl_X8_valueAtHand_7 bb bh  (fun y2_1 y2_2 => Q y2_1) n2 0 pl
set_option maxRecDepth 100000 in
set_option maxHeartbeats 8000000 in
theorem ml_X8_valueAtHand_7 {l : Launch} {D : va_G} {ca : Nat → ClassId} {sd : Nat → Nat}  {k : Kx} (tp : Nat → Nat) (n0 : Nat)  (bb : Nat → Int32) (ln : Int32) (so : Int32) (pl : Int32) (bh : Int32) (C : Cx D ca sd cX8_valueAtHand RX8 (some .int) { frames := 1, cells := 0, slots := 0, locals := 30 } k 3) {Q : (Int32) → Prop} (hR : Rx (Ri D (fun (r : Int32) (u : Unit) => Q r ) (fun _ => [])) 0 0 k) {K : (Int32) → (Int32) → Prop} (hK : ∀ (x1' : Int32) (x2' : Int32), K x1' x2' → J l D k 3 0 0 42 (wT ca tp n0 bb ln so pl bh) [(0, .ref (tp 0)), (1, .int x1'), (2, .int x2')] []) : ∀ (n : Nat) (x1 : Int32) (x2 : Int32), wpl_X8_valueAtHand_7 bb bh  K n x1 x2 → J l D k 3 0 0 7 (wT ca tp n0 bb ln so pl bh) [(0, .ref (tp 0)), (1, .int x1), (2, .int x2)] [] := by
  intro n
  induction n with
  | zero =>
    intro x1 x2 hw
    rw [wpl_X8_valueAtHand_7] at hw
    exact hw.elim
  | succ n ih =>
    intro x1 x2 hw
    rw [wpl_X8_valueAtHand_7] at hw
    refine j_iload_n C 2 dX8_valueAtHand_7 rfl ?_
    refine j_aload_n C 0 dX8_valueAtHand_8 rfl ?_
    refine j_get C fl_X8_23_8 0 dX8_valueAtHand_9 rfl rfl ?_
    refine j_icmp_ge C 42 dX8_valueAtHand_12 (by decide) (fun z => ?_) (fun z => ?_)
    · replace hw := hw.1 z
      exact hK x1 x2 hw
    · replace hw := hw.2 z
      refine j_sipush C 1000 dX8_valueAtHand_15 (by decide) ?_
      refine j_bipush C 10 dX8_valueAtHand_18 (by decide) ?_
      refine j_iload_n C 1 dX8_valueAtHand_20 rfl ?_
      refine j_imul C dX8_valueAtHand_21 ?_
      refine j_aload_n C 0 dX8_valueAtHand_22 rfl ?_
      refine j_get C fl_X8_9_8 0 dX8_valueAtHand_23 rfl rfl ?_
      refine j_iload_n C 2 dX8_valueAtHand_26 rfl ?_
      have hi1 := hw.1
      replace hw := hw.2
      refine j_bald C 1 dX8_valueAtHand_27 rfl hi1 ?_
      refine j_iadd C dX8_valueAtHand_28 ?_
      refine j_bipush C 48 dX8_valueAtHand_29 (by decide) ?_
      refine j_isub C dX8_valueAtHand_31 ?_
      refine j_min C lm_X8_104 (by decide) (Nat.le_of_ble_eq_true rfl) (by decide) (by decide) dX8_valueAtHand_32 ?_
      refine j_istore_n C [(1, .int (if (((10 * x1) + (bb (x2.toNatClampNeg))) - 48) < 1000 then (((10 * x1) + (bb (x2.toNatClampNeg))) - 48) else 1000)), (0, .ref (tp 0)), (2, .int x2)] dX8_valueAtHand_35 (by decide) rfl ?_
      refine j_iinc C 2 (x2 + 1) [(2, .int (x2 + 1)), (1, .int (if (((10 * x1) + (bb (x2.toNatClampNeg))) - 48) < 1000 then (((10 * x1) + (bb (x2.toNatClampNeg))) - 48) else 1000)), (0, .ref (tp 0))] dX8_valueAtHand_36 rfl rfl (by decide) rfl ?_
      refine j_goto C 7 dX8_valueAtHand_39 (by decide) ?_
      refine j_lsub [2, 1, 0] [(0, .ref (tp 0)), (1, .int (if (((10 * x1) + (bb (x2.toNatClampNeg))) - 48) < 1000 then (((10 * x1) + (bb (x2.toNatClampNeg))) - 48) else 1000)), (2, .int (x2 + 1))] rfl ?_
      exact ih (if (((10 * x1) + (bb (x2.toNatClampNeg))) - 48) < 1000 then (((10 * x1) + (bb (x2.toNatClampNeg))) - 48) else 1000) (x2 + 1) hw
set_option maxRecDepth 100000 in
set_option maxHeartbeats 8000000 in
theorem c_X8_valueAtHand {l : Launch} {D : va_G} {ca : Nat → ClassId} {sd : Nat → Nat}  (tp : Nat → Nat) (n0 : Nat) (bb : Nat → Int32) (ln : Int32) (so : Int32) (pl : Int32) (bh : Int32)    {Q : (Int32) → Prop} (hw : wp_X8_valueAtHand bb pl bh   Q) : Cn l D ca sd yX8_valueAtHand cX8_valueAtHand 3 (some .int) { frames := 1, cells := 0, slots := 0, locals := 30 } [.ref (tp 0)] (wT ca tp n0 bb ln so pl bh) [] 0 0 (Ri D (fun (r : Int32) (u : Unit) => Q r ) (fun _ => [])) := by
  refine cn_ofR (by decide) (Nat.le_of_ble_eq_true rfl) (fun k C hR => ?_)
  have C : Cx D ca sd cX8_valueAtHand RX8 (some .int) { frames := 1, cells := 0, slots := 0, locals := 30 } k 3 := C
  unfold wp_X8_valueAtHand at hw
  show J l D k 3 0 0 0 (wT ca tp n0 bb ln so pl bh) [(0, .ref (tp 0))] []
  refine j_iconst C 0 dX8_valueAtHand_0 (by decide) ?_
  refine j_istore_n C [(1, .int 0), (0, .ref (tp 0))] dX8_valueAtHand_1 (by decide) rfl ?_
  refine j_aload_n C 1 dX8_valueAtHand_2 rfl ?_
  refine j_get C fl_X8_33_8 0 dX8_valueAtHand_3 rfl rfl ?_
  refine j_istore_n C [(2, .int pl), (1, .int 0), (0, .ref (tp 0))] dX8_valueAtHand_6 (by decide) rfl ?_
  refine j_lsub [2, 1, 0] [(0, .ref (tp 0)), (1, .int 0), (2, .int pl)] rfl ?_
  obtain ⟨n2, hw⟩ := hw
  refine ml_X8_valueAtHand_7 tp n0  bb ln so pl bh C hR (fun y2_1 y2_2 hw => ?_) n2 0 pl hw
  refine j_iload_n C 1 dX8_valueAtHand_42 rfl ?_
  exact j_iretR C hR () rfl dX8_valueAtHand_43 hw
def wp_X8_takeNumber (bb : Nat → Int32) (ln : Int32) (so : Int32) (pl : Int32) (bh : Int32)  (a1 : Int32) (Q : (Int32) → (Int32) → (Int32) → (Int32) → Prop) : Prop := (so = 2 → wp_X8_valueAtHand bb pl bh (fun r1 => (r1 < 0 → Q (-1) so pl bh) ∧ (¬ (r1 < 0) → (r1 ≤ a1 → wp_X8_nextToken bb ln bh (fun c2_0 c2_1 c2_2 => Q r1 c2_0 c2_1 c2_2)) ∧ (¬ (r1 ≤ a1) → Q (-1) so pl bh)))) ∧ (¬ (so = 2) → Q (-1) so pl bh)
set_option maxRecDepth 100000 in
set_option maxHeartbeats 8000000 in
theorem c_X8_takeNumber {l : Launch} {D : va_G} {ca : Nat → ClassId} {sd : Nat → Nat}  (tp : Nat → Nat) (n0 : Nat) (bb : Nat → Int32) (ln : Int32) (so : Int32) (pl : Int32) (bh : Int32)  (a1 : Int32)  {Q : (Int32) → (Int32) → (Int32) → (Int32) → Prop} (hw : wp_X8_takeNumber bb ln so pl bh  a1 Q) : Cn l D ca sd yX8_takeNumber cX8_takeNumber 3 (some .int) { frames := 2, cells := 0, slots := 0, locals := 52 } [.ref (tp 0), .int a1] (wT ca tp n0 bb ln so pl bh) (wT ca tp n0 bb ln so pl bh) 0 0 (Ri D (fun (r : Int32) (u : (Int32) × (Int32) × (Int32)) => Q r u.1 u.2.1 u.2.2) (fun u => (wT ca tp n0 bb ln u.1 u.2.1 u.2.2))) := by
  refine cn_of (by decide) (Nat.le_of_ble_eq_true rfl) (fun k C hR hB _ => ?_)
  have C : Cx D ca sd cX8_takeNumber RX8 (some .int) { frames := 2, cells := 0, slots := 0, locals := 52 } k 3 := C
  unfold wp_X8_takeNumber at hw
  show J l D k 3 0 0 0 (wT ca tp n0 bb ln so pl bh) [(0, .ref (tp 0)), (1, .int a1)] []
  refine j_aload_n C 0 dX8_takeNumber_0 rfl ?_
  refine j_get C fl_X8_36_8 0 dX8_takeNumber_1 rfl rfl ?_
  refine j_iconst C 2 dX8_takeNumber_4 (by decide) ?_
  refine j_icmp_ne C 15 dX8_takeNumber_5 (by decide) (fun z => ?_) (fun z => ?_)
  · replace hw := hw.2 z
    refine j_iconst C (-1) dX8_takeNumber_15 (by decide) ?_
    refine j_istore_n C [(2, .int (-1)), (0, .ref (tp 0)), (1, .int a1)] dX8_takeNumber_16 (by decide) rfl ?_
    refine j_iload_n C 0 dX8_takeNumber_17 rfl ?_
    refine j_if_lt C 26 dX8_takeNumber_18 (by decide) (fun _ => ?_) (fun z => absurd z (by decide))
    refine j_iconst C (-1) dX8_takeNumber_26 (by decide) ?_
    exact j_iret C hB hR (so, pl, bh) rfl dX8_takeNumber_27 hw rfl
  · replace hw := hw.1 z
    refine j_aload_n C 0 dX8_takeNumber_8 rfl ?_
    refine j_ciZ C (jr_V C lkV_X8_84 (c_X8_valueAtHand tp n0 bb ln so pl bh hw) ⟨rfl, rfl, by decide, by decide, by decide, by decide⟩ [0, 1] (by decide) rfl (fx_ro C) 0 8 rfl rfl rfl rfl (Nat.le_of_ble_eq_true rfl) dX8_takeNumber_9) (fun r1 u1 hw => ?_)
    refine j_goto C 16 dX8_takeNumber_12 (by decide) ?_
    refine j_istore_n C [(2, .int r1), (0, .ref (tp 0)), (1, .int a1)] dX8_takeNumber_16 (by decide) rfl ?_
    refine j_iload_n C 0 dX8_takeNumber_17 rfl ?_
    refine j_if_lt C 26 dX8_takeNumber_18 (by decide) (fun z => ?_) (fun z => ?_)
    · replace hw := hw.1 z
      refine j_iconst C (-1) dX8_takeNumber_26 (by decide) ?_
      exact j_iret C hB hR (so, pl, bh) rfl dX8_takeNumber_27 hw rfl
    · replace hw := hw.2 z
      refine j_iload_n C 0 dX8_takeNumber_21 rfl ?_
      refine j_iload_n C 2 dX8_takeNumber_22 rfl ?_
      refine j_icmp_le C 28 dX8_takeNumber_23 (by decide) (fun z => ?_) (fun z => ?_)
      · replace hw := hw.1 z
        refine j_aload_n C 1 dX8_takeNumber_28 rfl ?_
        refine j_cvT C hB 0 2 (fun u2 : (Int32) × (Int32) × (Int32) => (wT ca tp n0 bb ln u2.1 u2.2.1 u2.2.2)) rfl (fun _ => rfl) (jr_V C lkV_X8_26 (c_X8_nextToken tp n0 bb ln so pl bh hw) ⟨rfl, rfl, by decide, by decide, by decide, by decide⟩ [0, 1] (by decide) rfl (fx_rw C hB [0, 1] rfl) 0 8 rfl rfl rfl rfl (Nat.le_of_ble_eq_true rfl) dX8_takeNumber_29) (fun u2 hw => ?_)
        refine j_iload_n C 0 dX8_takeNumber_32 rfl ?_
        exact j_iret C hB hR (u2.1, u2.2.1, u2.2.2) rfl dX8_takeNumber_33 hw rfl
      · replace hw := hw.2 z
        refine j_iconst C (-1) dX8_takeNumber_26 (by decide) ?_
        exact j_iret C hB hR (so, pl, bh) rfl dX8_takeNumber_27 hw rfl
def wpl_X8_isAtWord_28 (bb : Nat → Int32) (pl : Int32) (ww1 : Nat) (Q : (Int32) → Prop) (K : (Int32) → Prop) : Nat → (Int32) → Prop
  | 0, _ => False
  | n + 1, x2 => ww1 < 10 ∧ (((nI (lenS.getD ww1 0)) ≤ x2 → K x2) ∧ (¬ ((nI (lenS.getD ww1 0)) ≤ x2) → vp_in (pl + x2) 120 ∧ ((ww1 < 10 ∧ vp_in x2 (lenS.getD ww1 0)) ∧ (((bb ((pl + x2).toNatClampNeg)) = (((bytS.getD ww1 []).getD (x2.toNatClampNeg) 0) &&& 255) → wpl_X8_isAtWord_28 bb pl ww1 Q K n (x2 + 1)) ∧ (¬ ((bb ((pl + x2).toNatClampNeg)) = (((bytS.getD ww1 []).getD (x2.toNatClampNeg) 0) &&& 255)) → Q 0)))))
def wp_X8_isAtWord (bb : Nat → Int32) (so : Int32) (pl : Int32) (bh : Int32)  (w1 : Nat) (Q : (Int32) → Prop) : Prop := (so = 1 → w1 < 10 ∧ (((bh - pl) = (nI (lenS.getD w1 0)) → ∃ n5 : Nat, wpl_X8_isAtWord_28 bb pl w1 Q (fun y5_2 => Q 1) n5 0) ∧ (¬ ((bh - pl) = (nI (lenS.getD w1 0))) → Q 0))) ∧ (¬ (so = 1) → Q 0)
set_option maxRecDepth 100000 in
set_option maxHeartbeats 8000000 in
theorem ml_X8_isAtWord_28 {l : Launch} {D : va_G} {ca : Nat → ClassId} {sd : Nat → Nat}  {k : Kx} (tp : Nat → Nat) (n0 : Nat)  (bb : Nat → Int32) (ln : Int32) (so : Int32) (pl : Int32) (bh : Int32) (ww1 : Nat) (C : Cx D ca sd cX8_isAtWord RX8 (some .boolean) { frames := 4, cells := 0, slots := 0, locals := 150 } k 3) {Q : (Int32) → Prop} (hR : Rx (Ri D (fun (r : Int32) (u : Unit) => Q r ) (fun _ => [])) 0 0 k) {K : (Int32) → Prop} (hK : ∀ (x2' : Int32), K x2' → J l D k 3 0 0 63 (wT ca tp n0 bb ln so pl bh) [(0, .ref (tp 0)), (1, .ref (sd (2 + ww1))), (2, .int x2')] []) : ∀ (n : Nat) (x2 : Int32), wpl_X8_isAtWord_28 bb pl ww1 Q K n x2 → J l D k 3 0 0 28 (wT ca tp n0 bb ln so pl bh) [(0, .ref (tp 0)), (1, .ref (sd (2 + ww1))), (2, .int x2)] [] := by
  intro n
  induction n with
  | zero =>
    intro x2 hw
    rw [wpl_X8_isAtWord_28] at hw
    exact hw.elim
  | succ n ih =>
    intro x2 hw
    rw [wpl_X8_isAtWord_28] at hw
    refine j_iload_n C 2 dX8_isAtWord_28 rfl ?_
    refine j_aload_n C 1 dX8_isAtWord_29 rfl ?_
    have hi2 := hw.1
    replace hw := hw.2
    refine j_strlen C lkV_X8_93 ww1 hi2 (by decide) (Nat.le_of_ble_eq_true rfl) dX8_isAtWord_30 ?_
    refine j_icmp_ge C 63 dX8_isAtWord_33 (by decide) (fun z => ?_) (fun z => ?_)
    · replace hw := hw.1 z
      exact hK x2 hw
    · replace hw := hw.2 z
      refine j_aload_n C 0 dX8_isAtWord_36 rfl ?_
      refine j_get C fl_X8_9_8 0 dX8_isAtWord_37 rfl rfl ?_
      refine j_aload_n C 0 dX8_isAtWord_40 rfl ?_
      refine j_get C fl_X8_33_8 0 dX8_isAtWord_41 rfl rfl ?_
      refine j_iload_n C 2 dX8_isAtWord_44 rfl ?_
      refine j_iadd C dX8_isAtWord_45 ?_
      have hi3 := hw.1
      replace hw := hw.2
      refine j_bald C 1 dX8_isAtWord_46 rfl hi3 ?_
      refine j_aload_n C 1 dX8_isAtWord_47 rfl ?_
      refine j_iload_n C 2 dX8_isAtWord_48 rfl ?_
      have hi4 := hw.1
      replace hw := hw.2
      refine j_strat C lkV_X8_97 ww1 hi4.1 hi4.2 (by decide) (Nat.le_of_ble_eq_true rfl) dX8_isAtWord_49 ?_
      refine j_icmp_eq C 57 dX8_isAtWord_52 (by decide) (fun z => ?_) (fun z => ?_)
      · replace hw := hw.1 z
        refine j_iinc C 2 (x2 + 1) [(2, .int (x2 + 1)), (0, .ref (tp 0)), (1, .ref (sd (2 + ww1)))] dX8_isAtWord_57 rfl rfl (by decide) rfl ?_
        refine j_goto C 28 dX8_isAtWord_60 (by decide) ?_
        refine j_lsub [1, 2, 0] [(0, .ref (tp 0)), (1, .ref (sd (2 + ww1))), (2, .int (x2 + 1))] rfl ?_
        exact ih (x2 + 1) hw
      · replace hw := hw.2 z
        refine j_iconst C 0 dX8_isAtWord_55 (by decide) ?_
        exact j_zretR C hR (by decide) () rfl dX8_isAtWord_56 hw
set_option maxRecDepth 100000 in
set_option maxHeartbeats 8000000 in
theorem c_X8_isAtWord {l : Launch} {D : va_G} {ca : Nat → ClassId} {sd : Nat → Nat}  (tp : Nat → Nat) (n0 : Nat) (bb : Nat → Int32) (ln : Int32) (so : Int32) (pl : Int32) (bh : Int32)  (w1 : Nat)  {Q : (Int32) → Prop} (hw : wp_X8_isAtWord bb so pl bh  w1 Q) : Cn l D ca sd yX8_isAtWord cX8_isAtWord 3 (some .boolean) { frames := 4, cells := 0, slots := 0, locals := 150 } [.ref (tp 0), .ref (sd (2 + w1))] (wT ca tp n0 bb ln so pl bh) [] 0 0 (Ri D (fun (r : Int32) (u : Unit) => Q r ) (fun _ => [])) := by
  refine cn_ofR (by decide) (Nat.le_of_ble_eq_true rfl) (fun k C hR => ?_)
  have C : Cx D ca sd cX8_isAtWord RX8 (some .boolean) { frames := 4, cells := 0, slots := 0, locals := 150 } k 3 := C
  unfold wp_X8_isAtWord at hw
  show J l D k 3 0 0 0 (wT ca tp n0 bb ln so pl bh) [(0, .ref (tp 0)), (1, .ref (sd (2 + w1)))] []
  refine j_aload_n C 0 dX8_isAtWord_0 rfl ?_
  refine j_get C fl_X8_36_8 0 dX8_isAtWord_1 rfl rfl ?_
  refine j_iconst C 1 dX8_isAtWord_4 (by decide) ?_
  refine j_icmp_ne C 24 dX8_isAtWord_5 (by decide) (fun z => ?_) (fun z => ?_)
  · replace hw := hw.2 z
    refine j_iconst C 0 dX8_isAtWord_24 (by decide) ?_
    exact j_zretR C hR (by decide) () rfl dX8_isAtWord_25 hw
  · replace hw := hw.1 z
    refine j_aload_n C 0 dX8_isAtWord_8 rfl ?_
    refine j_get C fl_X8_23_8 0 dX8_isAtWord_9 rfl rfl ?_
    refine j_aload_n C 0 dX8_isAtWord_12 rfl ?_
    refine j_get C fl_X8_33_8 0 dX8_isAtWord_13 rfl rfl ?_
    refine j_isub C dX8_isAtWord_16 ?_
    refine j_aload_n C 1 dX8_isAtWord_17 rfl ?_
    have hi1 := hw.1
    replace hw := hw.2
    refine j_strlen C lkV_X8_93 w1 hi1 (by decide) (Nat.le_of_ble_eq_true rfl) dX8_isAtWord_18 ?_
    refine j_icmp_eq C 26 dX8_isAtWord_21 (by decide) (fun z => ?_) (fun z => ?_)
    · replace hw := hw.1 z
      refine j_iconst C 0 dX8_isAtWord_26 (by decide) ?_
      refine j_istore_n C [(2, .int 0), (0, .ref (tp 0)), (1, .ref (sd (2 + w1)))] dX8_isAtWord_27 (by decide) rfl ?_
      refine j_lsub [1, 2, 0] [(0, .ref (tp 0)), (1, .ref (sd (2 + w1))), (2, .int 0)] rfl ?_
      obtain ⟨n5, hw⟩ := hw
      refine ml_X8_isAtWord_28 tp n0  bb ln so pl bh w1 C hR (fun y5_2 hw => ?_) n5 0 hw
      refine j_iconst C 1 dX8_isAtWord_63 (by decide) ?_
      exact j_zretR C hR (by decide) () rfl dX8_isAtWord_64 hw
    · replace hw := hw.2 z
      refine j_iconst C 0 dX8_isAtWord_24 (by decide) ?_
      exact j_zretR C hR (by decide) () rfl dX8_isAtWord_25 hw
def wpl_X8_kindAtHand_2 (bb : Nat → Int32) (so : Int32) (pl : Int32) (bh : Int32) (Q : (Int32) → Prop) (K : (Int32) → Prop) : Nat → (Int32) → Prop
  | 0, _ => False
  | n + 1, x1 => (6 ≤ x1 → K x1) ∧ (¬ (6 ≤ x1) → vp_in x1 6 ∧ (wp_X8_isAtWord bb so pl bh (x1.toNatClampNeg) (fun r2 => (r2 = 0 → wpl_X8_kindAtHand_2 bb so pl bh Q K n (x1 + 1)) ∧ (¬ (r2 = 0) → Q x1))))
def wp_X8_kindAtHand (bb : Nat → Int32) (so : Int32) (pl : Int32) (bh : Int32)   (Q : (Int32) → Prop) : Prop := ∃ n3 : Nat, wpl_X8_kindAtHand_2 bb so pl bh Q (fun y3_1 => Q (-1)) n3 0
set_option maxRecDepth 100000 in
set_option maxHeartbeats 8000000 in
theorem ml_X8_kindAtHand_2 {l : Launch} {D : va_G} {ca : Nat → ClassId} {sd : Nat → Nat}  {k : Kx} (nd : Nat → Nat) (tp : Nat → Nat)  (bb : Nat → Int32) (ln : Int32) (so : Int32) (pl : Int32) (bh : Int32) (C : Cx D ca sd cX8_kindAtHand RX8 (some .int) { frames := 5, cells := 0, slots := 0, locals := 172 } k 2) {Q : (Int32) → Prop} (hR : Rx (Ri D (fun (r : Int32) (u : Unit) => Q r ) (fun _ => [])) 0 0 k) {K : (Int32) → Prop} (hK : ∀ (x1' : Int32), K x1' → J l D k 2 0 0 35 ((wN ca nd sd) ++ (wT ca tp (nd 0) bb ln so pl bh)) [(0, .ref (tp 0)), (1, .int x1')] []) : ∀ (n : Nat) (x1 : Int32), wpl_X8_kindAtHand_2 bb so pl bh Q K n x1 → J l D k 2 0 0 2 ((wN ca nd sd) ++ (wT ca tp (nd 0) bb ln so pl bh)) [(0, .ref (tp 0)), (1, .int x1)] [] := by
  intro n
  induction n with
  | zero =>
    intro x1 hw
    rw [wpl_X8_kindAtHand_2] at hw
    exact hw.elim
  | succ n ih =>
    intro x1 hw
    rw [wpl_X8_kindAtHand_2] at hw
    refine j_iload_n C 1 dX8_kindAtHand_2 rfl ?_
    refine j_aload_n C 0 dX8_kindAtHand_3 rfl ?_
    refine j_get C fl_X8_15_8 7 dX8_kindAtHand_4 rfl rfl ?_
    refine j_alen C 0 6 dX8_kindAtHand_7 rfl rfl rfl ?_
    refine j_icmp_ge C 35 dX8_kindAtHand_8 (by decide) (fun z => ?_) (fun z => ?_)
    · replace hw := hw.1 z
      exact hK x1 hw
    · replace hw := hw.2 z
      refine j_aload_n C 0 dX8_kindAtHand_11 rfl ?_
      refine j_aload_n C 0 dX8_kindAtHand_12 rfl ?_
      refine j_get C fl_X8_15_8 7 dX8_kindAtHand_13 rfl rfl ?_
      refine j_iload_n C 1 dX8_kindAtHand_16 rfl ?_
      have hi1 := hw.1
      replace hw := hw.2
      refine j_aald C (E := "UnfinishedFair$Kind") 0 dX8_kindAtHand_17 rfl rfl hi1 rfl ?_
      refine j_title C tl_X8_87 1 dX8_kindAtHand_18 (vp_lt hi1) (by intro j hj; match j, hj with | 0, _ => rfl | 1, _ => rfl | 2, _ => rfl | 3, _ => rfl | 4, _ => rfl | 5, _ => rfl) ?_
      refine j_ciZ C (jr_V C lkV_X8_49 (c_X8_isAtWord tp (nd 0) bb ln so pl bh (x1.toNatClampNeg) hw) ⟨rfl, rfl, by decide, by decide, by decide, by decide⟩ [7, 8] (by decide) rfl (fx_ro C) 7 8 rfl rfl rfl rfl (Nat.le_of_ble_eq_true rfl) dX8_kindAtHand_21) (fun r2 u2 hw => ?_)
      refine j_if_eq C 29 dX8_kindAtHand_24 (by decide) (fun z => ?_) (fun z => ?_)
      · replace hw := hw.1 z
        refine j_iinc C 1 (x1 + 1) [(1, .int (x1 + 1)), (0, .ref (tp 0))] dX8_kindAtHand_29 rfl rfl (by decide) rfl ?_
        refine j_goto C 2 dX8_kindAtHand_32 (by decide) ?_
        refine j_lsub [1, 0] [(0, .ref (tp 0)), (1, .int (x1 + 1))] rfl ?_
        exact ih (x1 + 1) hw
      · replace hw := hw.2 z
        refine j_iload_n C 1 dX8_kindAtHand_27 rfl ?_
        exact j_iretR C hR () rfl dX8_kindAtHand_28 hw
set_option maxRecDepth 100000 in
set_option maxHeartbeats 8000000 in
theorem c_X8_kindAtHand {l : Launch} {D : va_G} {ca : Nat → ClassId} {sd : Nat → Nat}  (nd : Nat → Nat) (tp : Nat → Nat) (bb : Nat → Int32) (ln : Int32) (so : Int32) (pl : Int32) (bh : Int32)    {Q : (Int32) → Prop} (hw : wp_X8_kindAtHand bb so pl bh   Q) : Cn l D ca sd yX8_kindAtHand cX8_kindAtHand 2 (some .int) { frames := 5, cells := 0, slots := 0, locals := 172 } [.ref (tp 0)] ((wN ca nd sd) ++ (wT ca tp (nd 0) bb ln so pl bh)) [] 0 0 (Ri D (fun (r : Int32) (u : Unit) => Q r ) (fun _ => [])) := by
  refine cn_ofR (by decide) (Nat.le_of_ble_eq_true rfl) (fun k C hR => ?_)
  have C : Cx D ca sd cX8_kindAtHand RX8 (some .int) { frames := 5, cells := 0, slots := 0, locals := 172 } k 2 := C
  unfold wp_X8_kindAtHand at hw
  show J l D k 2 0 0 0 ((wN ca nd sd) ++ (wT ca tp (nd 0) bb ln so pl bh)) [(0, .ref (tp 0))] []
  refine j_iconst C 0 dX8_kindAtHand_0 (by decide) ?_
  refine j_istore_n C [(1, .int 0), (0, .ref (tp 0))] dX8_kindAtHand_1 (by decide) rfl ?_
  refine j_lsub [1, 0] [(0, .ref (tp 0)), (1, .int 0)] rfl ?_
  obtain ⟨n3, hw⟩ := hw
  refine ml_X8_kindAtHand_2 nd tp  bb ln so pl bh C hR (fun y3_1 hw => ?_) n3 0 hw
  refine j_iconst C (-1) dX8_kindAtHand_35 (by decide) ?_
  exact j_iretR C hR () rfl dX8_kindAtHand_36 hw
def wp_X8_takeTrait (bb : Nat → Int32) (ln : Int32) (bh : Int32) (f : Nat → Int32) (rn : Nat) (a2 : Int32) (Q : (Int32) → (Int32) → (Int32) → (Int32) → (Nat → Int32) → Prop) : Prop := wp_X8_nextToken bb ln bh (fun c1_0 c1_1 c1_2 => wp_X8_takeNumber bb ln c1_0 c1_1 c1_2 5 (fun r2 c2_0 c2_1 c2_2 => (r2 < 0 → Q 0 c2_0 c2_1 c2_2 f) ∧ (¬ (r2 < 0) → (r2 < (Int32.ofNat rn) → wp_X8_takeNumber bb ln c2_0 c2_1 c2_2 a2 (fun r3 c3_0 c3_1 c3_2 => (0 ≤ r3 → vp_in r2 rn ∧ (Q 1 c3_0 c3_1 c3_2 (upd f (r2.toNatClampNeg) r3))) ∧ (¬ (0 ≤ r3) → Q 0 c3_0 c3_1 c3_2 f))) ∧ (¬ (r2 < (Int32.ofNat rn)) → Q 0 c2_0 c2_1 c2_2 f))))
set_option maxRecDepth 100000 in
set_option maxHeartbeats 8000000 in
theorem c_X8_takeTrait {l : Launch} {D : va_G} {ca : Nat → ClassId} {sd : Nat → Nat}  (tp : Nat → Nat) (n0 : Nat) (ra : Nat) (rn : Nat) (bb : Nat → Int32) (ln : Int32) (so : Int32) (pl : Int32) (bh : Int32) (f : Nat → Int32)  (a2 : Int32)  {Q : (Int32) → (Int32) → (Int32) → (Int32) → (Nat → Int32) → Prop} (hw : wp_X8_takeTrait bb ln bh f rn a2 Q) : Cn l D ca sd yX8_takeTrait cX8_takeTrait 5 (some .boolean) { frames := 3, cells := 0, slots := 0, locals := 74 } [.ref (tp 0), .ref ra, .int a2] ((wT ca tp n0 bb ln so pl bh) ++ (wR ca ra rn f)) ((wT ca tp n0 bb ln so pl bh) ++ (wR ca ra rn f)) 0 0 (Ri D (fun (r : Int32) (u : (Int32) × (Int32) × (Int32) × (Nat → Int32)) => Q r u.1 u.2.1 u.2.2.1 u.2.2.2) (fun u => ((wT ca tp n0 bb ln u.1 u.2.1 u.2.2.1) ++ (wR ca ra rn u.2.2.2)))) := by
  refine cn_of (by decide) (Nat.le_of_ble_eq_true rfl) (fun k C hR hB _ => ?_)
  have C : Cx D ca sd cX8_takeTrait RX8 (some .boolean) { frames := 3, cells := 0, slots := 0, locals := 74 } k 5 := C
  unfold wp_X8_takeTrait at hw
  show J l D k 5 0 0 0 ((wT ca tp n0 bb ln so pl bh) ++ (wR ca ra rn f)) [(0, .ref (tp 0)), (1, .ref ra), (2, .int a2)] []
  refine j_aload_n C 0 dX8_takeTrait_0 rfl ?_
  refine j_cvT C hB 0 2 (fun u1 : (Int32) × (Int32) × (Int32) => ((wT ca tp n0 bb ln u1.1 u1.2.1 u1.2.2) ++ (wR ca ra rn f))) rfl (fun _ => rfl) (jr_V C lkV_X8_26 (c_X8_nextToken tp n0 bb ln so pl bh hw) ⟨rfl, rfl, by decide, by decide, by decide, by decide⟩ [0, 1] (by decide) rfl (fx_rw C hB [0, 1] rfl) 0 8 rfl rfl rfl rfl (Nat.le_of_ble_eq_true rfl) dX8_takeTrait_1) (fun u1 hw => ?_)
  refine j_aload_n C 0 dX8_takeTrait_4 rfl ?_
  refine j_iconst C 5 dX8_takeTrait_5 (by decide) ?_
  refine j_ciT C hB 0 2 (fun u2 : (Int32) × (Int32) × (Int32) => ((wT ca tp n0 bb ln u2.1 u2.2.1 u2.2.2) ++ (wR ca ra rn f))) rfl (fun _ => rfl) (jr_V C lkV_X8_72 (c_X8_takeNumber tp n0 bb ln u1.1 u1.2.1 u1.2.2 5 hw) ⟨rfl, rfl, by decide, by decide, by decide, by decide⟩ [0, 1] (by decide) rfl (fx_rw C hB [0, 1] rfl) 0 8 rfl rfl rfl rfl (Nat.le_of_ble_eq_true rfl) dX8_takeTrait_6) (fun r2 u2 hw => ?_)
  refine j_istore_n C [(3, .int r2), (0, .ref (tp 0)), (1, .ref ra), (2, .int a2)] dX8_takeTrait_9 (by decide) rfl ?_
  refine j_iload_n C 0 dX8_takeTrait_10 rfl ?_
  refine j_if_lt C 20 dX8_takeTrait_11 (by decide) (fun z => ?_) (fun z => ?_)
  · replace hw := hw.1 z
    refine j_iconst C 0 dX8_takeTrait_20 (by decide) ?_
    exact j_zret C hB hR (by decide) (u2.1, u2.2.1, u2.2.2, f) rfl dX8_takeTrait_21 hw rfl
  · replace hw := hw.2 z
    refine j_iload_n C 0 dX8_takeTrait_14 rfl ?_
    refine j_aload_n C 2 dX8_takeTrait_15 rfl ?_
    refine j_alen C 2 (Int32.ofNat rn) dX8_takeTrait_16 rfl rfl rfl ?_
    refine j_icmp_lt C 22 dX8_takeTrait_17 (by decide) (fun z => ?_) (fun z => ?_)
    · replace hw := hw.1 z
      refine j_aload_n C 1 dX8_takeTrait_22 rfl ?_
      refine j_iload_n C 3 dX8_takeTrait_23 rfl ?_
      refine j_ciT C hB 0 2 (fun u3 : (Int32) × (Int32) × (Int32) => ((wT ca tp n0 bb ln u3.1 u3.2.1 u3.2.2) ++ (wR ca ra rn f))) rfl (fun _ => rfl) (jr_V C lkV_X8_72 (c_X8_takeNumber tp n0 bb ln u2.1 u2.2.1 u2.2.2 a2 hw) ⟨rfl, rfl, by decide, by decide, by decide, by decide⟩ [0, 1] (by decide) rfl (fx_rw C hB [0, 1] rfl) 0 8 rfl rfl rfl rfl (Nat.le_of_ble_eq_true rfl) dX8_takeTrait_24) (fun r3 u3 hw => ?_)
      refine j_istore C [(4, .int r3), (3, .int r2), (0, .ref (tp 0)), (1, .ref ra), (2, .int a2)] dX8_takeTrait_27 (by decide) rfl ?_
      refine j_iload C 0 dX8_takeTrait_29 rfl ?_
      refine j_if_ge C 36 dX8_takeTrait_31 (by decide) (fun z => ?_) (fun z => ?_)
      · replace hw := hw.1 z
        refine j_aload_n C 3 dX8_takeTrait_36 rfl ?_
        refine j_iload_n C 1 dX8_takeTrait_37 rfl ?_
        refine j_iload C 0 dX8_takeTrait_38 rfl ?_
        have hi4 := hw.1
        replace hw := hw.2
        refine j_iast C hB 2 ((wT ca tp n0 bb ln u3.1 u3.2.1 u3.2.2) ++ (wR ca ra rn (upd f (r2.toNatClampNeg) r3))) dX8_takeTrait_40 rfl hi4 rfl ?_
        refine j_iconst C 1 dX8_takeTrait_41 (by decide) ?_
        exact j_zret C hB hR (by decide) (u3.1, u3.2.1, u3.2.2, upd f (r2.toNatClampNeg) r3) rfl dX8_takeTrait_42 hw rfl
      · replace hw := hw.2 z
        refine j_iconst C 0 dX8_takeTrait_34 (by decide) ?_
        exact j_zret C hB hR (by decide) (u3.1, u3.2.1, u3.2.2, f) rfl dX8_takeTrait_35 hw rfl
    · replace hw := hw.2 z
      refine j_iconst C 0 dX8_takeTrait_20 (by decide) ?_
      exact j_zret C hB hR (by decide) (u2.1, u2.2.1, u2.2.2, f) rfl dX8_takeTrait_21 hw rfl
def wp_X8_takeThing (bb : Nat → Int32) (ln : Int32) (so : Int32) (pl : Int32) (bh : Int32) (cki : Nat → Int32) (cdn : Nat → Int32) (cwi : Nat → Int32) (cdu : Nat → Int32) (csz : Int32)  (a2 : Int32) (Q : (Int32) → (Int32) → (Int32) → (Int32) → (Nat → Int32) → (Nat → Int32) → (Nat → Int32) → (Nat → Int32) → (Int32) → Prop) : Prop := wp_X2_isFull csz (fun r1 => (r1 = 0 → wp_X8_nextToken bb ln bh (fun c2_0 c2_1 c2_2 => wp_X8_takeNumber bb ln c2_0 c2_1 c2_2 99 (fun r3 c3_0 c3_1 c3_2 => (0 ≤ r3 → wp_X8_isAtWord bb c3_0 c3_1 c3_2 8 (fun r4 => (r4 = 0 → wp_X8_isAtWord bb c3_0 c3_1 c3_2 9 (fun r5 => (r5 = 0 → wp_X2_add cki cdn cwi cdu csz a2 r3 (-1) 0 (fun c6_0 c6_1 c6_2 c6_3 c6_4 => Q 1 c3_0 c3_1 c3_2 c6_0 c6_1 c6_2 c6_3 c6_4)) ∧ (¬ (r5 = 0) → wp_X8_nextToken bb ln c3_2 (fun c7_0 c7_1 c7_2 => wp_X8_takeNumber bb ln c7_0 c7_1 c7_2 999 (fun r8 c8_0 c8_1 c8_2 => (0 ≤ r8 → wp_X2_add cki cdn cwi cdu csz a2 r3 (-1) r8 (fun c9_0 c9_1 c9_2 c9_3 c9_4 => Q 1 c8_0 c8_1 c8_2 c9_0 c9_1 c9_2 c9_3 c9_4)) ∧ (¬ (0 ≤ r8) → Q 0 c8_0 c8_1 c8_2 cki cdn cwi cdu csz)))))) ∧ (¬ (r4 = 0) → wp_X8_nextToken bb ln c3_2 (fun c10_0 c10_1 c10_2 => wp_X8_takeNumber bb ln c10_0 c10_1 c10_2 5 (fun r11 c11_0 c11_1 c11_2 => (0 ≤ r11 → wp_X8_isAtWord bb c11_0 c11_1 c11_2 9 (fun r12 => (r12 = 0 → wp_X2_add cki cdn cwi cdu csz a2 r3 r11 0 (fun c13_0 c13_1 c13_2 c13_3 c13_4 => Q 1 c11_0 c11_1 c11_2 c13_0 c13_1 c13_2 c13_3 c13_4)) ∧ (¬ (r12 = 0) → wp_X8_nextToken bb ln c11_2 (fun c14_0 c14_1 c14_2 => wp_X8_takeNumber bb ln c14_0 c14_1 c14_2 999 (fun r15 c15_0 c15_1 c15_2 => (0 ≤ r15 → wp_X2_add cki cdn cwi cdu csz a2 r3 r11 r15 (fun c16_0 c16_1 c16_2 c16_3 c16_4 => Q 1 c15_0 c15_1 c15_2 c16_0 c16_1 c16_2 c16_3 c16_4)) ∧ (¬ (0 ≤ r15) → Q 0 c15_0 c15_1 c15_2 cki cdn cwi cdu csz)))))) ∧ (¬ (0 ≤ r11) → Q 0 c11_0 c11_1 c11_2 cki cdn cwi cdu csz)))))) ∧ (¬ (0 ≤ r3) → Q 0 c3_0 c3_1 c3_2 cki cdn cwi cdu csz)))) ∧ (¬ (r1 = 0) → Q 0 so pl bh cki cdn cwi cdu csz))
set_option maxRecDepth 100000 in
set_option maxHeartbeats 8000000 in
theorem c_X8_takeThing {l : Launch} {D : va_G} {ca : Nat → ClassId} {sd : Nat → Nat}  (tp : Nat → Nat) (n0 : Nat) (ad : Nat → Nat) (bb : Nat → Int32) (ln : Int32) (so : Int32) (pl : Int32) (bh : Int32) (csk : Nat → Int32) (cze : Nat → Int32) (cma : Nat → Int32) (cki : Nat → Int32) (cdn : Nat → Int32) (cwi : Nat → Int32) (cdu : Nat → Int32) (che : Nat → Int32) (cyr : Int32) (csz : Int32)  (a2 : Int32)  {Q : (Int32) → (Int32) → (Int32) → (Int32) → (Nat → Int32) → (Nat → Int32) → (Nat → Int32) → (Nat → Int32) → (Int32) → Prop} (hw : wp_X8_takeThing bb ln so pl bh cki cdn cwi cdu csz  a2 Q) : Cn l D ca sd yX8_takeThing cX8_takeThing 6 (some .boolean) { frames := 5, cells := 0, slots := 0, locals := 172 } [.ref (tp 0), .ref (ad 0), .int a2] ((wT ca tp n0 bb ln so pl bh) ++ (wC ca ad n0 csk cze cma cki cdn cwi cdu che cyr csz)) ((wT ca tp n0 bb ln so pl bh) ++ (wC ca ad n0 csk cze cma cki cdn cwi cdu che cyr csz)) 0 0 (Ri D (fun (r : Int32) (u : (Int32) × (Int32) × (Int32) × (Nat → Int32) × (Nat → Int32) × (Nat → Int32) × (Nat → Int32) × (Int32)) => Q r u.1 u.2.1 u.2.2.1 u.2.2.2.1 u.2.2.2.2.1 u.2.2.2.2.2.1 u.2.2.2.2.2.2.1 u.2.2.2.2.2.2.2) (fun u => ((wT ca tp n0 bb ln u.1 u.2.1 u.2.2.1) ++ (wC ca ad n0 csk cze cma u.2.2.2.1 u.2.2.2.2.1 u.2.2.2.2.2.1 u.2.2.2.2.2.2.1 che cyr u.2.2.2.2.2.2.2)))) := by
  refine cn_of (by decide) (Nat.le_of_ble_eq_true rfl) (fun k C hR hB _ => ?_)
  have C : Cx D ca sd cX8_takeThing RX8 (some .boolean) { frames := 5, cells := 0, slots := 0, locals := 172 } k 6 := C
  unfold wp_X8_takeThing at hw
  show J l D k 6 0 0 0 ((wT ca tp n0 bb ln so pl bh) ++ (wC ca ad n0 csk cze cma cki cdn cwi cdu che cyr csz)) [(0, .ref (tp 0)), (1, .ref (ad 0)), (2, .int a2)] []
  refine j_aload_n C 1 dX8_takeThing_0 rfl ?_
  refine j_ciZ C (jr_V C lkV_X8_68 (c_X2_isFull ad n0 csk cze cma cki cdn cwi cdu che cyr csz hw) ⟨rfl, rfl, by decide, by decide, by decide, by decide⟩ [2, 3, 4, 5, 6, 7, 8, 9, 10] (by decide) rfl (fx_ro C) 2 2 rfl rfl rfl rfl (Nat.le_of_ble_eq_true rfl) dX8_takeThing_1) (fun r1 u1 hw => ?_)
  refine j_if_eq C 9 dX8_takeThing_4 (by decide) (fun z => ?_) (fun z => ?_)
  · replace hw := hw.1 z
    refine j_aload_n C 0 dX8_takeThing_9 rfl ?_
    refine j_cvT C hB 0 2 (fun u2 : (Int32) × (Int32) × (Int32) => ((wT ca tp n0 bb ln u2.1 u2.2.1 u2.2.2) ++ (wC ca ad n0 csk cze cma cki cdn cwi cdu che cyr csz))) rfl (fun _ => rfl) (jr_V C lkV_X8_26 (c_X8_nextToken tp n0 bb ln so pl bh hw) ⟨rfl, rfl, by decide, by decide, by decide, by decide⟩ [0, 1] (by decide) rfl (fx_rw C hB [0, 1] rfl) 0 8 rfl rfl rfl rfl (Nat.le_of_ble_eq_true rfl) dX8_takeThing_10) (fun u2 hw => ?_)
    refine j_aload_n C 0 dX8_takeThing_13 rfl ?_
    refine j_bipush C 99 dX8_takeThing_14 (by decide) ?_
    refine j_ciT C hB 0 2 (fun u3 : (Int32) × (Int32) × (Int32) => ((wT ca tp n0 bb ln u3.1 u3.2.1 u3.2.2) ++ (wC ca ad n0 csk cze cma cki cdn cwi cdu che cyr csz))) rfl (fun _ => rfl) (jr_V C lkV_X8_72 (c_X8_takeNumber tp n0 bb ln u2.1 u2.2.1 u2.2.2 99 hw) ⟨rfl, rfl, by decide, by decide, by decide, by decide⟩ [0, 1] (by decide) rfl (fx_rw C hB [0, 1] rfl) 0 8 rfl rfl rfl rfl (Nat.le_of_ble_eq_true rfl) dX8_takeThing_16) (fun r3 u3 hw => ?_)
    refine j_istore_n C [(3, .int r3), (0, .ref (tp 0)), (1, .ref (ad 0)), (2, .int a2)] dX8_takeThing_19 (by decide) rfl ?_
    refine j_iload_n C 0 dX8_takeThing_20 rfl ?_
    refine j_if_ge C 26 dX8_takeThing_21 (by decide) (fun z => ?_) (fun z => ?_)
    · replace hw := hw.1 z
      refine j_iconst C (-1) dX8_takeThing_26 (by decide) ?_
      refine j_istore C [(4, .int (-1)), (3, .int r3), (0, .ref (tp 0)), (1, .ref (ad 0)), (2, .int a2)] dX8_takeThing_27 (by decide) rfl ?_
      refine j_aload_n C 2 dX8_takeThing_29 rfl ?_
      refine j_ldcS C 8 "by" dX8_takeThing_30 (by decide) ?_
      refine j_ciZ C (jr_V C lkV_X8_49 (c_X8_isAtWord tp n0 bb ln u3.1 u3.2.1 u3.2.2 8 hw) ⟨rfl, rfl, by decide, by decide, by decide, by decide⟩ [0, 1] (by decide) rfl (fx_ro C) 0 8 rfl rfl rfl rfl (Nat.le_of_ble_eq_true rfl) dX8_takeThing_32) (fun r4 u4 hw => ?_)
      refine j_if_eq C 56 dX8_takeThing_35 (by decide) (fun z => ?_) (fun z => ?_)
      · replace hw := hw.1 z
        refine j_iconst C 0 dX8_takeThing_56 (by decide) ?_
        refine j_istore C [(5, .int 0), (4, .int (-1)), (3, .int r3), (0, .ref (tp 0)), (1, .ref (ad 0)), (2, .int a2)] dX8_takeThing_57 (by decide) rfl ?_
        refine j_aload_n C 3 dX8_takeThing_59 rfl ?_
        refine j_ldcS C 9 "dust" dX8_takeThing_60 (by decide) ?_
        refine j_ciZ C (jr_V C lkV_X8_49 (c_X8_isAtWord tp n0 bb ln u3.1 u3.2.1 u3.2.2 9 hw) ⟨rfl, rfl, by decide, by decide, by decide, by decide⟩ [0, 1] (by decide) rfl (fx_ro C) 0 8 rfl rfl rfl rfl (Nat.le_of_ble_eq_true rfl) dX8_takeThing_62) (fun r5 u5 hw => ?_)
        refine j_if_eq C 88 dX8_takeThing_65 (by decide) (fun z => ?_) (fun z => ?_)
        · replace hw := hw.1 z
          refine j_aload_n C 4 dX8_takeThing_88 rfl ?_
          refine j_iload_n C 5 dX8_takeThing_89 rfl ?_
          refine j_iload_n C 2 dX8_takeThing_90 rfl ?_
          refine j_iload C 1 dX8_takeThing_91 rfl ?_
          refine j_iload C 0 dX8_takeThing_93 rfl ?_
          refine j_cvT C hB 2 11 (fun u6 : (Nat → Int32) × (Nat → Int32) × (Nat → Int32) × (Nat → Int32) × (Int32) => ((wT ca tp n0 bb ln u3.1 u3.2.1 u3.2.2) ++ (wC ca ad n0 csk cze cma u6.1 u6.2.1 u6.2.2.1 u6.2.2.2.1 che cyr u6.2.2.2.2))) rfl (fun _ => rfl) (jr_V C lkV_X8_80 (c_X2_add ad n0 csk cze cma cki cdn cwi cdu che cyr csz a2 r3 (-1) 0 hw) ⟨rfl, rfl, by decide, by decide, by decide, by decide⟩ [2, 3, 4, 5, 6, 7, 8, 9, 10] (by decide) rfl (fx_rw C hB [2, 3, 4, 5, 6, 7, 8, 9, 10] rfl) 2 2 rfl rfl rfl rfl (Nat.le_of_ble_eq_true rfl) dX8_takeThing_95) (fun u6 hw => ?_)
          refine j_iconst C 1 dX8_takeThing_98 (by decide) ?_
          exact j_zret C hB hR (by decide) (u3.1, u3.2.1, u3.2.2, u6.1, u6.2.1, u6.2.2.1, u6.2.2.2.1, u6.2.2.2.2) rfl dX8_takeThing_99 hw rfl
        · replace hw := hw.2 z
          refine j_aload_n C 3 dX8_takeThing_68 rfl ?_
          refine j_cvT C hB 0 2 (fun u7 : (Int32) × (Int32) × (Int32) => ((wT ca tp n0 bb ln u7.1 u7.2.1 u7.2.2) ++ (wC ca ad n0 csk cze cma cki cdn cwi cdu che cyr csz))) rfl (fun _ => rfl) (jr_V C lkV_X8_26 (c_X8_nextToken tp n0 bb ln u3.1 u3.2.1 u3.2.2 hw) ⟨rfl, rfl, by decide, by decide, by decide, by decide⟩ [0, 1] (by decide) rfl (fx_rw C hB [0, 1] rfl) 0 8 rfl rfl rfl rfl (Nat.le_of_ble_eq_true rfl) dX8_takeThing_69) (fun u7 hw => ?_)
          refine j_aload_n C 3 dX8_takeThing_72 rfl ?_
          refine j_sipush C 999 dX8_takeThing_73 (by decide) ?_
          refine j_ciT C hB 0 2 (fun u8 : (Int32) × (Int32) × (Int32) => ((wT ca tp n0 bb ln u8.1 u8.2.1 u8.2.2) ++ (wC ca ad n0 csk cze cma cki cdn cwi cdu che cyr csz))) rfl (fun _ => rfl) (jr_V C lkV_X8_72 (c_X8_takeNumber tp n0 bb ln u7.1 u7.2.1 u7.2.2 999 hw) ⟨rfl, rfl, by decide, by decide, by decide, by decide⟩ [0, 1] (by decide) rfl (fx_rw C hB [0, 1] rfl) 0 8 rfl rfl rfl rfl (Nat.le_of_ble_eq_true rfl) dX8_takeThing_76) (fun r8 u8 hw => ?_)
          refine j_istore C [(5, .int r8), (4, .int (-1)), (3, .int r3), (0, .ref (tp 0)), (1, .ref (ad 0)), (2, .int a2)] dX8_takeThing_79 (by decide) rfl ?_
          refine j_iload C 0 dX8_takeThing_81 rfl ?_
          refine j_if_ge C 88 dX8_takeThing_83 (by decide) (fun z => ?_) (fun z => ?_)
          · replace hw := hw.1 z
            refine j_aload_n C 4 dX8_takeThing_88 rfl ?_
            refine j_iload_n C 5 dX8_takeThing_89 rfl ?_
            refine j_iload_n C 2 dX8_takeThing_90 rfl ?_
            refine j_iload C 1 dX8_takeThing_91 rfl ?_
            refine j_iload C 0 dX8_takeThing_93 rfl ?_
            refine j_cvT C hB 2 11 (fun u9 : (Nat → Int32) × (Nat → Int32) × (Nat → Int32) × (Nat → Int32) × (Int32) => ((wT ca tp n0 bb ln u8.1 u8.2.1 u8.2.2) ++ (wC ca ad n0 csk cze cma u9.1 u9.2.1 u9.2.2.1 u9.2.2.2.1 che cyr u9.2.2.2.2))) rfl (fun _ => rfl) (jr_V C lkV_X8_80 (c_X2_add ad n0 csk cze cma cki cdn cwi cdu che cyr csz a2 r3 (-1) r8 hw) ⟨rfl, rfl, by decide, by decide, by decide, by decide⟩ [2, 3, 4, 5, 6, 7, 8, 9, 10] (by decide) rfl (fx_rw C hB [2, 3, 4, 5, 6, 7, 8, 9, 10] rfl) 2 2 rfl rfl rfl rfl (Nat.le_of_ble_eq_true rfl) dX8_takeThing_95) (fun u9 hw => ?_)
            refine j_iconst C 1 dX8_takeThing_98 (by decide) ?_
            exact j_zret C hB hR (by decide) (u8.1, u8.2.1, u8.2.2, u9.1, u9.2.1, u9.2.2.1, u9.2.2.2.1, u9.2.2.2.2) rfl dX8_takeThing_99 hw rfl
          · replace hw := hw.2 z
            refine j_iconst C 0 dX8_takeThing_86 (by decide) ?_
            exact j_zret C hB hR (by decide) (u8.1, u8.2.1, u8.2.2, cki, cdn, cwi, cdu, csz) rfl dX8_takeThing_87 hw rfl
      · replace hw := hw.2 z
        refine j_aload_n C 2 dX8_takeThing_38 rfl ?_
        refine j_cvT C hB 0 2 (fun u10 : (Int32) × (Int32) × (Int32) => ((wT ca tp n0 bb ln u10.1 u10.2.1 u10.2.2) ++ (wC ca ad n0 csk cze cma cki cdn cwi cdu che cyr csz))) rfl (fun _ => rfl) (jr_V C lkV_X8_26 (c_X8_nextToken tp n0 bb ln u3.1 u3.2.1 u3.2.2 hw) ⟨rfl, rfl, by decide, by decide, by decide, by decide⟩ [0, 1] (by decide) rfl (fx_rw C hB [0, 1] rfl) 0 8 rfl rfl rfl rfl (Nat.le_of_ble_eq_true rfl) dX8_takeThing_39) (fun u10 hw => ?_)
        refine j_aload_n C 2 dX8_takeThing_42 rfl ?_
        refine j_iconst C 5 dX8_takeThing_43 (by decide) ?_
        refine j_ciT C hB 0 2 (fun u11 : (Int32) × (Int32) × (Int32) => ((wT ca tp n0 bb ln u11.1 u11.2.1 u11.2.2) ++ (wC ca ad n0 csk cze cma cki cdn cwi cdu che cyr csz))) rfl (fun _ => rfl) (jr_V C lkV_X8_72 (c_X8_takeNumber tp n0 bb ln u10.1 u10.2.1 u10.2.2 5 hw) ⟨rfl, rfl, by decide, by decide, by decide, by decide⟩ [0, 1] (by decide) rfl (fx_rw C hB [0, 1] rfl) 0 8 rfl rfl rfl rfl (Nat.le_of_ble_eq_true rfl) dX8_takeThing_44) (fun r11 u11 hw => ?_)
        refine j_istore C [(4, .int r11), (3, .int r3), (0, .ref (tp 0)), (1, .ref (ad 0)), (2, .int a2)] dX8_takeThing_47 (by decide) rfl ?_
        refine j_iload C 0 dX8_takeThing_49 rfl ?_
        refine j_if_ge C 56 dX8_takeThing_51 (by decide) (fun z => ?_) (fun z => ?_)
        · replace hw := hw.1 z
          refine j_iconst C 0 dX8_takeThing_56 (by decide) ?_
          refine j_istore C [(5, .int 0), (4, .int r11), (3, .int r3), (0, .ref (tp 0)), (1, .ref (ad 0)), (2, .int a2)] dX8_takeThing_57 (by decide) rfl ?_
          refine j_aload_n C 3 dX8_takeThing_59 rfl ?_
          refine j_ldcS C 9 "dust" dX8_takeThing_60 (by decide) ?_
          refine j_ciZ C (jr_V C lkV_X8_49 (c_X8_isAtWord tp n0 bb ln u11.1 u11.2.1 u11.2.2 9 hw) ⟨rfl, rfl, by decide, by decide, by decide, by decide⟩ [0, 1] (by decide) rfl (fx_ro C) 0 8 rfl rfl rfl rfl (Nat.le_of_ble_eq_true rfl) dX8_takeThing_62) (fun r12 u12 hw => ?_)
          refine j_if_eq C 88 dX8_takeThing_65 (by decide) (fun z => ?_) (fun z => ?_)
          · replace hw := hw.1 z
            refine j_aload_n C 4 dX8_takeThing_88 rfl ?_
            refine j_iload_n C 5 dX8_takeThing_89 rfl ?_
            refine j_iload_n C 2 dX8_takeThing_90 rfl ?_
            refine j_iload C 1 dX8_takeThing_91 rfl ?_
            refine j_iload C 0 dX8_takeThing_93 rfl ?_
            refine j_cvT C hB 2 11 (fun u13 : (Nat → Int32) × (Nat → Int32) × (Nat → Int32) × (Nat → Int32) × (Int32) => ((wT ca tp n0 bb ln u11.1 u11.2.1 u11.2.2) ++ (wC ca ad n0 csk cze cma u13.1 u13.2.1 u13.2.2.1 u13.2.2.2.1 che cyr u13.2.2.2.2))) rfl (fun _ => rfl) (jr_V C lkV_X8_80 (c_X2_add ad n0 csk cze cma cki cdn cwi cdu che cyr csz a2 r3 r11 0 hw) ⟨rfl, rfl, by decide, by decide, by decide, by decide⟩ [2, 3, 4, 5, 6, 7, 8, 9, 10] (by decide) rfl (fx_rw C hB [2, 3, 4, 5, 6, 7, 8, 9, 10] rfl) 2 2 rfl rfl rfl rfl (Nat.le_of_ble_eq_true rfl) dX8_takeThing_95) (fun u13 hw => ?_)
            refine j_iconst C 1 dX8_takeThing_98 (by decide) ?_
            exact j_zret C hB hR (by decide) (u11.1, u11.2.1, u11.2.2, u13.1, u13.2.1, u13.2.2.1, u13.2.2.2.1, u13.2.2.2.2) rfl dX8_takeThing_99 hw rfl
          · replace hw := hw.2 z
            refine j_aload_n C 3 dX8_takeThing_68 rfl ?_
            refine j_cvT C hB 0 2 (fun u14 : (Int32) × (Int32) × (Int32) => ((wT ca tp n0 bb ln u14.1 u14.2.1 u14.2.2) ++ (wC ca ad n0 csk cze cma cki cdn cwi cdu che cyr csz))) rfl (fun _ => rfl) (jr_V C lkV_X8_26 (c_X8_nextToken tp n0 bb ln u11.1 u11.2.1 u11.2.2 hw) ⟨rfl, rfl, by decide, by decide, by decide, by decide⟩ [0, 1] (by decide) rfl (fx_rw C hB [0, 1] rfl) 0 8 rfl rfl rfl rfl (Nat.le_of_ble_eq_true rfl) dX8_takeThing_69) (fun u14 hw => ?_)
            refine j_aload_n C 3 dX8_takeThing_72 rfl ?_
            refine j_sipush C 999 dX8_takeThing_73 (by decide) ?_
            refine j_ciT C hB 0 2 (fun u15 : (Int32) × (Int32) × (Int32) => ((wT ca tp n0 bb ln u15.1 u15.2.1 u15.2.2) ++ (wC ca ad n0 csk cze cma cki cdn cwi cdu che cyr csz))) rfl (fun _ => rfl) (jr_V C lkV_X8_72 (c_X8_takeNumber tp n0 bb ln u14.1 u14.2.1 u14.2.2 999 hw) ⟨rfl, rfl, by decide, by decide, by decide, by decide⟩ [0, 1] (by decide) rfl (fx_rw C hB [0, 1] rfl) 0 8 rfl rfl rfl rfl (Nat.le_of_ble_eq_true rfl) dX8_takeThing_76) (fun r15 u15 hw => ?_)
            refine j_istore C [(5, .int r15), (4, .int r11), (3, .int r3), (0, .ref (tp 0)), (1, .ref (ad 0)), (2, .int a2)] dX8_takeThing_79 (by decide) rfl ?_
            refine j_iload C 0 dX8_takeThing_81 rfl ?_
            refine j_if_ge C 88 dX8_takeThing_83 (by decide) (fun z => ?_) (fun z => ?_)
            · replace hw := hw.1 z
              refine j_aload_n C 4 dX8_takeThing_88 rfl ?_
              refine j_iload_n C 5 dX8_takeThing_89 rfl ?_
              refine j_iload_n C 2 dX8_takeThing_90 rfl ?_
              refine j_iload C 1 dX8_takeThing_91 rfl ?_
              refine j_iload C 0 dX8_takeThing_93 rfl ?_
              refine j_cvT C hB 2 11 (fun u16 : (Nat → Int32) × (Nat → Int32) × (Nat → Int32) × (Nat → Int32) × (Int32) => ((wT ca tp n0 bb ln u15.1 u15.2.1 u15.2.2) ++ (wC ca ad n0 csk cze cma u16.1 u16.2.1 u16.2.2.1 u16.2.2.2.1 che cyr u16.2.2.2.2))) rfl (fun _ => rfl) (jr_V C lkV_X8_80 (c_X2_add ad n0 csk cze cma cki cdn cwi cdu che cyr csz a2 r3 r11 r15 hw) ⟨rfl, rfl, by decide, by decide, by decide, by decide⟩ [2, 3, 4, 5, 6, 7, 8, 9, 10] (by decide) rfl (fx_rw C hB [2, 3, 4, 5, 6, 7, 8, 9, 10] rfl) 2 2 rfl rfl rfl rfl (Nat.le_of_ble_eq_true rfl) dX8_takeThing_95) (fun u16 hw => ?_)
              refine j_iconst C 1 dX8_takeThing_98 (by decide) ?_
              exact j_zret C hB hR (by decide) (u15.1, u15.2.1, u15.2.2, u16.1, u16.2.1, u16.2.2.1, u16.2.2.2.1, u16.2.2.2.2) rfl dX8_takeThing_99 hw rfl
            · replace hw := hw.2 z
              refine j_iconst C 0 dX8_takeThing_86 (by decide) ?_
              exact j_zret C hB hR (by decide) (u15.1, u15.2.1, u15.2.2, cki, cdn, cwi, cdu, csz) rfl dX8_takeThing_87 hw rfl
        · replace hw := hw.2 z
          refine j_iconst C 0 dX8_takeThing_54 (by decide) ?_
          exact j_zret C hB hR (by decide) (u11.1, u11.2.1, u11.2.2, cki, cdn, cwi, cdu, csz) rfl dX8_takeThing_55 hw rfl
    · replace hw := hw.2 z
      refine j_iconst C 0 dX8_takeThing_24 (by decide) ?_
      exact j_zret C hB hR (by decide) (u3.1, u3.2.1, u3.2.2, cki, cdn, cwi, cdu, csz) rfl dX8_takeThing_25 hw rfl
  · replace hw := hw.2 z
    refine j_iconst C 0 dX8_takeThing_7 (by decide) ?_
    exact j_zret C hB hR (by decide) (so, pl, bh, cki, cdn, cwi, cdu, csz) rfl dX8_takeThing_8 hw rfl
def wp_X8_takeItem (bb : Nat → Int32) (ln : Int32) (so : Int32) (pl : Int32) (bh : Int32) (csk : Nat → Int32) (cze : Nat → Int32) (cki : Nat → Int32) (cdn : Nat → Int32) (cwi : Nat → Int32) (cdu : Nat → Int32) (csz : Int32)   (Q : (Int32) → (Int32) → (Int32) → (Int32) → (Nat → Int32) → (Nat → Int32) → (Nat → Int32) → (Nat → Int32) → (Nat → Int32) → (Nat → Int32) → (Int32) → Prop) : Prop := wp_X8_kindAtHand bb so pl bh (fun r1 => (r1 < 0 → wp_X8_isAtWord bb so pl bh 6 (fun r2 => (r2 = 0 → wp_X8_isAtWord bb so pl bh 7 (fun r3 => (r3 = 0 → Q 0 so pl bh csk cze cki cdn cwi cdu csz) ∧ (¬ (r3 = 0) → wp_X8_takeTrait bb ln bh cze 6 9 (fun r4 c4_0 c4_1 c4_2 c4_3 => (narrow .boolean (.int r4) = .int r4) ∧ Q r4 c4_0 c4_1 c4_2 csk c4_3 cki cdn cwi cdu csz)))) ∧ (¬ (r2 = 0) → wp_X8_takeTrait bb ln bh csk 6 20 (fun r5 c5_0 c5_1 c5_2 c5_3 => (narrow .boolean (.int r5) = .int r5) ∧ Q r5 c5_0 c5_1 c5_2 c5_3 cze cki cdn cwi cdu csz)))) ∧ (¬ (r1 < 0) → wp_X8_takeThing bb ln so pl bh cki cdn cwi cdu csz r1 (fun r6 c6_0 c6_1 c6_2 c6_3 c6_4 c6_5 c6_6 c6_7 => (narrow .boolean (.int r6) = .int r6) ∧ Q r6 c6_0 c6_1 c6_2 csk cze c6_3 c6_4 c6_5 c6_6 c6_7)))
set_option maxRecDepth 100000 in
set_option maxHeartbeats 8000000 in
theorem c_X8_takeItem {l : Launch} {D : va_G} {ca : Nat → ClassId} {sd : Nat → Nat}  (nd : Nat → Nat) (tp : Nat → Nat) (ad : Nat → Nat) (bb : Nat → Int32) (ln : Int32) (so : Int32) (pl : Int32) (bh : Int32) (csk : Nat → Int32) (cze : Nat → Int32) (cma : Nat → Int32) (cki : Nat → Int32) (cdn : Nat → Int32) (cwi : Nat → Int32) (cdu : Nat → Int32) (che : Nat → Int32) (cyr : Int32) (csz : Int32)    {Q : (Int32) → (Int32) → (Int32) → (Int32) → (Nat → Int32) → (Nat → Int32) → (Nat → Int32) → (Nat → Int32) → (Nat → Int32) → (Nat → Int32) → (Int32) → Prop} (hw : wp_X8_takeItem bb ln so pl bh csk cze cki cdn cwi cdu csz   Q) : Cn l D ca sd yX8_takeItem cX8_takeItem 3 (some .boolean) { frames := 6, cells := 0, slots := 0, locals := 197 } [.ref (tp 0), .ref (ad 0)] ((wN ca nd sd) ++ ((wT ca tp (nd 0) bb ln so pl bh) ++ (wC ca ad (nd 0) csk cze cma cki cdn cwi cdu che cyr csz))) ((wN ca nd sd) ++ ((wT ca tp (nd 0) bb ln so pl bh) ++ (wC ca ad (nd 0) csk cze cma cki cdn cwi cdu che cyr csz))) 0 0 (Ri D (fun (r : Int32) (u : (Int32) × (Int32) × (Int32) × (Nat → Int32) × (Nat → Int32) × (Nat → Int32) × (Nat → Int32) × (Nat → Int32) × (Nat → Int32) × (Int32)) => Q r u.1 u.2.1 u.2.2.1 u.2.2.2.1 u.2.2.2.2.1 u.2.2.2.2.2.1 u.2.2.2.2.2.2.1 u.2.2.2.2.2.2.2.1 u.2.2.2.2.2.2.2.2.1 u.2.2.2.2.2.2.2.2.2) (fun u => ((wN ca nd sd) ++ ((wT ca tp (nd 0) bb ln u.1 u.2.1 u.2.2.1) ++ (wC ca ad (nd 0) u.2.2.2.1 u.2.2.2.2.1 cma u.2.2.2.2.2.1 u.2.2.2.2.2.2.1 u.2.2.2.2.2.2.2.1 u.2.2.2.2.2.2.2.2.1 che cyr u.2.2.2.2.2.2.2.2.2))))) := by
  refine cn_of (by decide) (Nat.le_of_ble_eq_true rfl) (fun k C hR hB _ => ?_)
  have C : Cx D ca sd cX8_takeItem RX8 (some .boolean) { frames := 6, cells := 0, slots := 0, locals := 197 } k 3 := C
  unfold wp_X8_takeItem at hw
  show J l D k 3 0 0 0 ((wN ca nd sd) ++ ((wT ca tp (nd 0) bb ln so pl bh) ++ (wC ca ad (nd 0) csk cze cma cki cdn cwi cdu che cyr csz))) [(0, .ref (tp 0)), (1, .ref (ad 0))] []
  refine j_aload_n C 0 dX8_takeItem_0 rfl ?_
  refine j_ciZ C (jr_V C lkV_X8_39 (c_X8_kindAtHand nd tp bb ln so pl bh hw) ⟨rfl, rfl, by decide, by decide, by decide, by decide⟩ [0, 1, 2, 3, 4, 5, 6, 7, 8] (by decide) rfl (fx_ro C) 7 8 rfl rfl rfl rfl (Nat.le_of_ble_eq_true rfl) dX8_takeItem_1) (fun r1 u1 hw => ?_)
  refine j_istore_n C [(2, .int r1), (0, .ref (tp 0)), (1, .ref (ad 0))] dX8_takeItem_4 (by decide) rfl ?_
  refine j_iload_n C 0 dX8_takeItem_5 rfl ?_
  refine j_if_lt C 16 dX8_takeItem_6 (by decide) (fun z => ?_) (fun z => ?_)
  · replace hw := hw.1 z
    refine j_aload_n C 1 dX8_takeItem_16 rfl ?_
    refine j_ldcS C 6 "skill" dX8_takeItem_17 (by decide) ?_
    refine j_ciZ C (jr_V C lkV_X8_49 (c_X8_isAtWord tp (nd 0) bb ln so pl bh 6 hw) ⟨rfl, rfl, by decide, by decide, by decide, by decide⟩ [7, 8] (by decide) rfl (fx_ro C) 7 8 rfl rfl rfl rfl (Nat.le_of_ble_eq_true rfl) dX8_takeItem_19) (fun r2 u2 hw => ?_)
    refine j_if_eq C 36 dX8_takeItem_22 (by decide) (fun z => ?_) (fun z => ?_)
    · replace hw := hw.1 z
      refine j_aload_n C 1 dX8_takeItem_36 rfl ?_
      refine j_ldcS C 7 "zeal" dX8_takeItem_37 (by decide) ?_
      refine j_ciZ C (jr_V C lkV_X8_49 (c_X8_isAtWord tp (nd 0) bb ln so pl bh 7 hw) ⟨rfl, rfl, by decide, by decide, by decide, by decide⟩ [7, 8] (by decide) rfl (fx_ro C) 7 8 rfl rfl rfl rfl (Nat.le_of_ble_eq_true rfl) dX8_takeItem_39) (fun r3 u3 hw => ?_)
      refine j_if_eq C 56 dX8_takeItem_42 (by decide) (fun z => ?_) (fun z => ?_)
      · replace hw := hw.1 z
        refine j_iconst C 0 dX8_takeItem_56 (by decide) ?_
        exact j_zret C hB hR (by decide) (so, pl, bh, csk, cze, cki, cdn, cwi, cdu, csz) rfl dX8_takeItem_57 hw rfl
      · replace hw := hw.2 z
        refine j_aload_n C 1 dX8_takeItem_45 rfl ?_
        refine j_aload_n C 2 dX8_takeItem_46 rfl ?_
        refine j_get C fl_X8_65_2 9 dX8_takeItem_47 rfl rfl ?_
        refine j_bipush C 9 dX8_takeItem_50 (by decide) ?_
        refine j_ciP C hB [7, 8, 11] [0, 1, 2, 3, 4, 5, 6, 9, 10, 12, 13, 14, 15, 16, 17] [0, 1, 2, 3, 4, 5, 6, 15, 16, 7, 8, 17, 9, 10, 11, 12, 13, 14] (fun u4 : (Int32) × (Int32) × (Int32) × (Nat → Int32) => ((wN ca nd sd) ++ ((wT ca tp (nd 0) bb ln u4.1 u4.2.1 u4.2.2.1) ++ (wC ca ad (nd 0) csk u4.2.2.2 cma cki cdn cwi cdu che cyr csz)))) (([0, 1, 2, 3, 4, 5, 6, 9, 10, 12, 13, 14, 15, 16, 17] : List Nat).filterMap (fun i => ((wN ca nd sd) ++ ((wT ca tp (nd 0) bb ln so pl bh) ++ (wC ca ad (nd 0) csk cze cma cki cdn cwi cdu che cyr csz)))[i]?)) rfl rfl rfl (by decide) rfl (fun _ => rfl) (jr_V C lkV_X8_59 (c_X8_takeTrait tp (nd 0) (ad 2) 6 bb ln so pl bh cze 9 hw) ⟨rfl, rfl, by decide, by decide, by decide, by decide⟩ [7, 8, 11] (by decide) rfl (fx_rw C hB [7, 8, 11] rfl) 7 8 rfl rfl rfl rfl (Nat.le_of_ble_eq_true rfl) dX8_takeItem_52) (fun r4 u4 hw => ?_)
        exact j_zret C hB hR hw.1 (u4.1, u4.2.1, u4.2.2.1, csk, u4.2.2.2, cki, cdn, cwi, cdu, csz) rfl dX8_takeItem_55 hw.2 rfl
    · replace hw := hw.2 z
      refine j_aload_n C 1 dX8_takeItem_25 rfl ?_
      refine j_aload_n C 2 dX8_takeItem_26 rfl ?_
      refine j_get C fl_X8_53_2 9 dX8_takeItem_27 rfl rfl ?_
      refine j_bipush C 20 dX8_takeItem_30 (by decide) ?_
      refine j_ciP C hB [7, 8, 10] [0, 1, 2, 3, 4, 5, 6, 9, 11, 12, 13, 14, 15, 16, 17] [0, 1, 2, 3, 4, 5, 6, 15, 16, 7, 17, 8, 9, 10, 11, 12, 13, 14] (fun u5 : (Int32) × (Int32) × (Int32) × (Nat → Int32) => ((wN ca nd sd) ++ ((wT ca tp (nd 0) bb ln u5.1 u5.2.1 u5.2.2.1) ++ (wC ca ad (nd 0) u5.2.2.2 cze cma cki cdn cwi cdu che cyr csz)))) (([0, 1, 2, 3, 4, 5, 6, 9, 11, 12, 13, 14, 15, 16, 17] : List Nat).filterMap (fun i => ((wN ca nd sd) ++ ((wT ca tp (nd 0) bb ln so pl bh) ++ (wC ca ad (nd 0) csk cze cma cki cdn cwi cdu che cyr csz)))[i]?)) rfl rfl rfl (by decide) rfl (fun _ => rfl) (jr_V C lkV_X8_59 (c_X8_takeTrait tp (nd 0) (ad 1) 6 bb ln so pl bh csk 20 hw) ⟨rfl, rfl, by decide, by decide, by decide, by decide⟩ [7, 8, 10] (by decide) rfl (fx_rw C hB [7, 8, 10] rfl) 7 8 rfl rfl rfl rfl (Nat.le_of_ble_eq_true rfl) dX8_takeItem_32) (fun r5 u5 hw => ?_)
      exact j_zret C hB hR hw.1 (u5.1, u5.2.1, u5.2.2.1, u5.2.2.2, cze, cki, cdn, cwi, cdu, csz) rfl dX8_takeItem_35 hw.2 rfl
  · replace hw := hw.2 z
    refine j_aload_n C 1 dX8_takeItem_9 rfl ?_
    refine j_aload_n C 2 dX8_takeItem_10 rfl ?_
    refine j_iload_n C 0 dX8_takeItem_11 rfl ?_
    refine j_ciT C hB 7 18 (fun u6 : (Int32) × (Int32) × (Int32) × (Nat → Int32) × (Nat → Int32) × (Nat → Int32) × (Nat → Int32) × (Int32) => ((wN ca nd sd) ++ ((wT ca tp (nd 0) bb ln u6.1 u6.2.1 u6.2.2.1) ++ (wC ca ad (nd 0) csk cze cma u6.2.2.2.1 u6.2.2.2.2.1 u6.2.2.2.2.2.1 u6.2.2.2.2.2.2.1 che cyr u6.2.2.2.2.2.2.2)))) rfl (fun _ => rfl) (jr_V C lkV_X8_43 (c_X8_takeThing tp (nd 0) ad bb ln so pl bh csk cze cma cki cdn cwi cdu che cyr csz r1 hw) ⟨rfl, rfl, by decide, by decide, by decide, by decide⟩ [7, 8, 9, 10, 11, 12, 13, 14, 15, 16, 17] (by decide) rfl (fx_rw C hB [7, 8, 9, 10, 11, 12, 13, 14, 15, 16, 17] rfl) 7 8 rfl rfl rfl rfl (Nat.le_of_ble_eq_true rfl) dX8_takeItem_12) (fun r6 u6 hw => ?_)
    exact j_zret C hB hR hw.1 (u6.1, u6.2.1, u6.2.2.1, csk, cze, u6.2.2.2.1, u6.2.2.2.2.1, u6.2.2.2.2.2.1, u6.2.2.2.2.2.2.1, u6.2.2.2.2.2.2.2) rfl dX8_takeItem_15 hw.2 rfl
def wpl_X8_tellTo_11 (bb : Nat → Int32) (ln : Int32) (Q : (Int32) → (Int32) → (Int32) → (Int32) → (Nat → Int32) → (Nat → Int32) → (Nat → Int32) → (Nat → Int32) → (Nat → Int32) → (Nat → Int32) → (Int32) → Prop) (K : (Int32) → (Int32) → (Int32) → (Int32) → (Nat → Int32) → (Nat → Int32) → (Nat → Int32) → (Nat → Int32) → (Nat → Int32) → (Nat → Int32) → (Int32) → Prop) : Nat → (Int32) → (Int32) → (Int32) → (Int32) → (Nat → Int32) → (Nat → Int32) → (Nat → Int32) → (Nat → Int32) → (Nat → Int32) → (Nat → Int32) → (Int32) → Prop
  | 0, _, _, _, _, _, _, _, _, _, _, _ => False
  | n + 1, x2, so, pl, bh, csk, cze, cki, cdn, cwi, cdu, csz => (120 < x2 → K x2 so pl bh csk cze cki cdn cwi cdu csz) ∧ (¬ (120 < x2) → wp_X8_takeItem bb ln so pl bh csk cze cki cdn cwi cdu csz (fun r2 c2_0 c2_1 c2_2 c2_3 c2_4 c2_5 c2_6 c2_7 c2_8 c2_9 => (r2 = 0 → Q ((-1) - c2_1) c2_0 c2_1 c2_2 c2_3 c2_4 c2_5 c2_6 c2_7 c2_8 c2_9) ∧ (¬ (r2 = 0) → (c2_0 = 0 → Q x2 c2_0 c2_1 c2_2 c2_3 c2_4 c2_5 c2_6 c2_7 c2_8 c2_9) ∧ (¬ (c2_0 = 0) → (c2_0 = 3 → wp_X8_nextToken bb ln c2_2 (fun c3_0 c3_1 c3_2 => wpl_X8_tellTo_11 bb ln Q K n (x2 + 1) c3_0 c3_1 c3_2 c2_3 c2_4 c2_5 c2_6 c2_7 c2_8 c2_9)) ∧ (¬ (c2_0 = 3) → Q ((-1) - c2_1) c2_0 c2_1 c2_2 c2_3 c2_4 c2_5 c2_6 c2_7 c2_8 c2_9)))))
def wp_X8_tellTo (bb : Nat → Int32) (ln : Int32) (csk : Nat → Int32) (cze : Nat → Int32) (cki : Nat → Int32) (cdn : Nat → Int32) (cwi : Nat → Int32) (cdu : Nat → Int32) (csz : Int32)   (Q : (Int32) → (Int32) → (Int32) → (Int32) → (Nat → Int32) → (Nat → Int32) → (Nat → Int32) → (Nat → Int32) → (Nat → Int32) → (Nat → Int32) → (Int32) → Prop) : Prop := wp_X8_nextToken bb ln 0 (fun c1_0 c1_1 c1_2 => ∃ n4 : Nat, wpl_X8_tellTo_11 bb ln Q (fun y4_2 y4_so y4_pl y4_bh y4_csk y4_cze y4_cki y4_cdn y4_cwi y4_cdu y4_csz => Q ((-1) - y4_pl) y4_so y4_pl y4_bh y4_csk y4_cze y4_cki y4_cdn y4_cwi y4_cdu y4_csz) n4 1 c1_0 c1_1 c1_2 csk cze cki cdn cwi cdu csz)
set_option maxRecDepth 100000 in
set_option maxHeartbeats 8000000 in
theorem ml_X8_tellTo_11 {l : Launch} {D : va_G} {ca : Nat → ClassId} {sd : Nat → Nat}  {k : Kx} (nd : Nat → Nat) (tp : Nat → Nat) (ad : Nat → Nat)  (bb : Nat → Int32) (ln : Int32) (cma : Nat → Int32) (che : Nat → Int32) (cyr : Int32) (C : Cx D ca sd cX8_tellTo RX8 (some .int) { frames := 7, cells := 0, slots := 0, locals := 219 } k 3) {Q : (Int32) → (Int32) → (Int32) → (Int32) → (Nat → Int32) → (Nat → Int32) → (Nat → Int32) → (Nat → Int32) → (Nat → Int32) → (Nat → Int32) → (Int32) → Prop} (hR : Rx (Ri D (fun (r : Int32) (u : (Int32) × (Int32) × (Int32) × (Nat → Int32) × (Nat → Int32) × (Nat → Int32) × (Nat → Int32) × (Nat → Int32) × (Nat → Int32) × (Int32)) => Q r u.1 u.2.1 u.2.2.1 u.2.2.2.1 u.2.2.2.2.1 u.2.2.2.2.2.1 u.2.2.2.2.2.2.1 u.2.2.2.2.2.2.2.1 u.2.2.2.2.2.2.2.2.1 u.2.2.2.2.2.2.2.2.2) (fun u => ((wN ca nd sd) ++ ((wT ca tp (nd 0) bb ln u.1 u.2.1 u.2.2.1) ++ (wC ca ad (nd 0) u.2.2.2.1 u.2.2.2.2.1 cma u.2.2.2.2.2.1 u.2.2.2.2.2.2.1 u.2.2.2.2.2.2.2.1 u.2.2.2.2.2.2.2.2.1 che cyr u.2.2.2.2.2.2.2.2.2))))) 0 0 k) (hB : Wx k) {K : (Int32) → (Int32) → (Int32) → (Int32) → (Nat → Int32) → (Nat → Int32) → (Nat → Int32) → (Nat → Int32) → (Nat → Int32) → (Nat → Int32) → (Int32) → Prop} (hK : ∀ (x2' : Int32) (so' : Int32) (pl' : Int32) (bh' : Int32) (csk' : Nat → Int32) (cze' : Nat → Int32) (cki' : Nat → Int32) (cdn' : Nat → Int32) (cwi' : Nat → Int32) (cdu' : Nat → Int32) (csz' : Int32), K x2' so' pl' bh' csk' cze' cki' cdn' cwi' cdu' csz' → J l D k 3 0 0 66 ((wN ca nd sd) ++ ((wT ca tp (nd 0) bb ln so' pl' bh') ++ (wC ca ad (nd 0) csk' cze' cma cki' cdn' cwi' cdu' che cyr csz'))) [(0, .ref (tp 0)), (1, .ref (ad 0)), (2, .int x2')] []) : ∀ (n : Nat) (x2 : Int32) (so : Int32) (pl : Int32) (bh : Int32) (csk : Nat → Int32) (cze : Nat → Int32) (cki : Nat → Int32) (cdn : Nat → Int32) (cwi : Nat → Int32) (cdu : Nat → Int32) (csz : Int32), wpl_X8_tellTo_11 bb ln Q K n x2 so pl bh csk cze cki cdn cwi cdu csz → J l D k 3 0 0 11 ((wN ca nd sd) ++ ((wT ca tp (nd 0) bb ln so pl bh) ++ (wC ca ad (nd 0) csk cze cma cki cdn cwi cdu che cyr csz))) [(0, .ref (tp 0)), (1, .ref (ad 0)), (2, .int x2)] [] := by
  intro n
  induction n with
  | zero =>
    intro x2 so pl bh csk cze cki cdn cwi cdu csz hw
    rw [wpl_X8_tellTo_11] at hw
    exact hw.elim
  | succ n ih =>
    intro x2 so pl bh csk cze cki cdn cwi cdu csz hw
    rw [wpl_X8_tellTo_11] at hw
    refine j_iload_n C 2 dX8_tellTo_11 rfl ?_
    refine j_bipush C 120 dX8_tellTo_12 (by decide) ?_
    refine j_icmp_gt C 66 dX8_tellTo_14 (by decide) (fun z => ?_) (fun z => ?_)
    · replace hw := hw.1 z
      exact hK x2 so pl bh csk cze cki cdn cwi cdu csz hw
    · replace hw := hw.2 z
      refine j_aload_n C 0 dX8_tellTo_17 rfl ?_
      refine j_aload_n C 1 dX8_tellTo_18 rfl ?_
      refine j_ciT C hB 0 18 (fun u2 : (Int32) × (Int32) × (Int32) × (Nat → Int32) × (Nat → Int32) × (Nat → Int32) × (Nat → Int32) × (Nat → Int32) × (Nat → Int32) × (Int32) => ((wN ca nd sd) ++ ((wT ca tp (nd 0) bb ln u2.1 u2.2.1 u2.2.2.1) ++ (wC ca ad (nd 0) u2.2.2.2.1 u2.2.2.2.2.1 cma u2.2.2.2.2.2.1 u2.2.2.2.2.2.2.1 u2.2.2.2.2.2.2.2.1 u2.2.2.2.2.2.2.2.2.1 che cyr u2.2.2.2.2.2.2.2.2.2)))) rfl (fun _ => rfl) (jr_V C lkV_X8_29 (c_X8_takeItem nd tp ad bb ln so pl bh csk cze cma cki cdn cwi cdu che cyr csz hw) ⟨rfl, rfl, by decide, by decide, by decide, by decide⟩ [0, 1, 2, 3, 4, 5, 6, 7, 8, 9, 10, 11, 12, 13, 14, 15, 16, 17] rfl rfl (fx_rw C hB [0, 1, 2, 3, 4, 5, 6, 7, 8, 9, 10, 11, 12, 13, 14, 15, 16, 17] rfl) 7 8 rfl rfl rfl rfl (Nat.le_of_ble_eq_true rfl) dX8_tellTo_19) (fun r2 u2 hw => ?_)
      refine j_if_ne C 32 dX8_tellTo_22 (by decide) (fun z => ?_) (fun z => ?_)
      · replace hw := hw.2 z
        refine j_aload_n C 0 dX8_tellTo_32 rfl ?_
        refine j_get C fl_X8_36_8 7 dX8_tellTo_33 rfl rfl ?_
        refine j_if_ne C 41 dX8_tellTo_36 (by decide) (fun z => ?_) (fun z => ?_)
        · replace hw := hw.2 z
          refine j_aload_n C 0 dX8_tellTo_41 rfl ?_
          refine j_get C fl_X8_36_8 7 dX8_tellTo_42 rfl rfl ?_
          refine j_iconst C 3 dX8_tellTo_45 (by decide) ?_
          refine j_icmp_eq C 56 dX8_tellTo_46 (by decide) (fun z => ?_) (fun z => ?_)
          · replace hw := hw.1 z
            refine j_aload_n C 0 dX8_tellTo_56 rfl ?_
            refine j_cvT C hB 7 9 (fun u3 : (Int32) × (Int32) × (Int32) => ((wN ca nd sd) ++ ((wT ca tp (nd 0) bb ln u3.1 u3.2.1 u3.2.2) ++ (wC ca ad (nd 0) u2.2.2.2.1 u2.2.2.2.2.1 cma u2.2.2.2.2.2.1 u2.2.2.2.2.2.2.1 u2.2.2.2.2.2.2.2.1 u2.2.2.2.2.2.2.2.2.1 che cyr u2.2.2.2.2.2.2.2.2.2)))) rfl (fun _ => rfl) (jr_V C lkV_X8_26 (c_X8_nextToken tp (nd 0) bb ln u2.1 u2.2.1 u2.2.2.1 hw) ⟨rfl, rfl, by decide, by decide, by decide, by decide⟩ [7, 8] (by decide) rfl (fx_rw C hB [7, 8] rfl) 7 8 rfl rfl rfl rfl (Nat.le_of_ble_eq_true rfl) dX8_tellTo_57) (fun u3 hw => ?_)
            refine j_iinc C 2 (x2 + 1) [(2, .int (x2 + 1)), (0, .ref (tp 0)), (1, .ref (ad 0))] dX8_tellTo_60 rfl rfl (by decide) rfl ?_
            refine j_goto C 11 dX8_tellTo_63 (by decide) ?_
            refine j_lsub [1, 2, 0] [(0, .ref (tp 0)), (1, .ref (ad 0)), (2, .int (x2 + 1))] rfl ?_
            exact ih (x2 + 1) u3.1 u3.2.1 u3.2.2 u2.2.2.2.1 u2.2.2.2.2.1 u2.2.2.2.2.2.1 u2.2.2.2.2.2.2.1 u2.2.2.2.2.2.2.2.1 u2.2.2.2.2.2.2.2.2.1 u2.2.2.2.2.2.2.2.2.2 hw
          · replace hw := hw.2 z
            refine j_iconst C (-1) dX8_tellTo_49 (by decide) ?_
            refine j_aload_n C 0 dX8_tellTo_50 rfl ?_
            refine j_get C fl_X8_33_8 7 dX8_tellTo_51 rfl rfl ?_
            refine j_isub C dX8_tellTo_54 ?_
            exact j_iret C hB hR (u2.1, u2.2.1, u2.2.2.1, u2.2.2.2.1, u2.2.2.2.2.1, u2.2.2.2.2.2.1, u2.2.2.2.2.2.2.1, u2.2.2.2.2.2.2.2.1, u2.2.2.2.2.2.2.2.2.1, u2.2.2.2.2.2.2.2.2.2) rfl dX8_tellTo_55 hw rfl
        · replace hw := hw.1 z
          refine j_iload_n C 2 dX8_tellTo_39 rfl ?_
          exact j_iret C hB hR (u2.1, u2.2.1, u2.2.2.1, u2.2.2.2.1, u2.2.2.2.2.1, u2.2.2.2.2.2.1, u2.2.2.2.2.2.2.1, u2.2.2.2.2.2.2.2.1, u2.2.2.2.2.2.2.2.2.1, u2.2.2.2.2.2.2.2.2.2) rfl dX8_tellTo_40 hw rfl
      · replace hw := hw.1 z
        refine j_iconst C (-1) dX8_tellTo_25 (by decide) ?_
        refine j_aload_n C 0 dX8_tellTo_26 rfl ?_
        refine j_get C fl_X8_33_8 7 dX8_tellTo_27 rfl rfl ?_
        refine j_isub C dX8_tellTo_30 ?_
        exact j_iret C hB hR (u2.1, u2.2.1, u2.2.2.1, u2.2.2.2.1, u2.2.2.2.2.1, u2.2.2.2.2.2.1, u2.2.2.2.2.2.2.1, u2.2.2.2.2.2.2.2.1, u2.2.2.2.2.2.2.2.2.1, u2.2.2.2.2.2.2.2.2.2) rfl dX8_tellTo_31 hw rfl
set_option maxRecDepth 100000 in
set_option maxHeartbeats 8000000 in
theorem c_X8_tellTo {l : Launch} {D : va_G} {ca : Nat → ClassId} {sd : Nat → Nat}  (nd : Nat → Nat) (tp : Nat → Nat) (ad : Nat → Nat) (bb : Nat → Int32) (ln : Int32) (so : Int32) (pl : Int32) (bh : Int32) (csk : Nat → Int32) (cze : Nat → Int32) (cma : Nat → Int32) (cki : Nat → Int32) (cdn : Nat → Int32) (cwi : Nat → Int32) (cdu : Nat → Int32) (che : Nat → Int32) (cyr : Int32) (csz : Int32)    {Q : (Int32) → (Int32) → (Int32) → (Int32) → (Nat → Int32) → (Nat → Int32) → (Nat → Int32) → (Nat → Int32) → (Nat → Int32) → (Nat → Int32) → (Int32) → Prop} (hw : wp_X8_tellTo bb ln csk cze cki cdn cwi cdu csz   Q) : Cn l D ca sd yX8_tellTo cX8_tellTo 3 (some .int) { frames := 7, cells := 0, slots := 0, locals := 219 } [.ref (tp 0), .ref (ad 0)] ((wN ca nd sd) ++ ((wT ca tp (nd 0) bb ln so pl bh) ++ (wC ca ad (nd 0) csk cze cma cki cdn cwi cdu che cyr csz))) ((wN ca nd sd) ++ ((wT ca tp (nd 0) bb ln so pl bh) ++ (wC ca ad (nd 0) csk cze cma cki cdn cwi cdu che cyr csz))) 0 0 (Ri D (fun (r : Int32) (u : (Int32) × (Int32) × (Int32) × (Nat → Int32) × (Nat → Int32) × (Nat → Int32) × (Nat → Int32) × (Nat → Int32) × (Nat → Int32) × (Int32)) => Q r u.1 u.2.1 u.2.2.1 u.2.2.2.1 u.2.2.2.2.1 u.2.2.2.2.2.1 u.2.2.2.2.2.2.1 u.2.2.2.2.2.2.2.1 u.2.2.2.2.2.2.2.2.1 u.2.2.2.2.2.2.2.2.2) (fun u => ((wN ca nd sd) ++ ((wT ca tp (nd 0) bb ln u.1 u.2.1 u.2.2.1) ++ (wC ca ad (nd 0) u.2.2.2.1 u.2.2.2.2.1 cma u.2.2.2.2.2.1 u.2.2.2.2.2.2.1 u.2.2.2.2.2.2.2.1 u.2.2.2.2.2.2.2.2.1 che cyr u.2.2.2.2.2.2.2.2.2))))) := by
  refine cn_of (by decide) (Nat.le_of_ble_eq_true rfl) (fun k C hR hB _ => ?_)
  have C : Cx D ca sd cX8_tellTo RX8 (some .int) { frames := 7, cells := 0, slots := 0, locals := 219 } k 3 := C
  unfold wp_X8_tellTo at hw
  show J l D k 3 0 0 0 ((wN ca nd sd) ++ ((wT ca tp (nd 0) bb ln so pl bh) ++ (wC ca ad (nd 0) csk cze cma cki cdn cwi cdu che cyr csz))) [(0, .ref (tp 0)), (1, .ref (ad 0))] []
  refine j_aload_n C 0 dX8_tellTo_0 rfl ?_
  refine j_iconst C 0 dX8_tellTo_1 (by decide) ?_
  refine j_put C hB fw_X8_23_8 7 ((wN ca nd sd) ++ ((wT ca tp (nd 0) bb ln so pl 0) ++ (wC ca ad (nd 0) csk cze cma cki cdn cwi cdu che cyr csz))) dX8_tellTo_2 rfl rfl rfl (Nat.le_of_ble_eq_true rfl) rfl ?_
  refine j_aload_n C 0 dX8_tellTo_5 rfl ?_
  refine j_cvT C hB 7 9 (fun u1 : (Int32) × (Int32) × (Int32) => ((wN ca nd sd) ++ ((wT ca tp (nd 0) bb ln u1.1 u1.2.1 u1.2.2) ++ (wC ca ad (nd 0) csk cze cma cki cdn cwi cdu che cyr csz)))) rfl (fun _ => rfl) (jr_V C lkV_X8_26 (c_X8_nextToken tp (nd 0) bb ln so pl 0 hw) ⟨rfl, rfl, by decide, by decide, by decide, by decide⟩ [7, 8] (by decide) rfl (fx_rw C hB [7, 8] rfl) 7 8 rfl rfl rfl rfl (Nat.le_of_ble_eq_true rfl) dX8_tellTo_6) (fun u1 hw => ?_)
  refine j_iconst C 1 dX8_tellTo_9 (by decide) ?_
  refine j_istore_n C [(2, .int 1), (0, .ref (tp 0)), (1, .ref (ad 0))] dX8_tellTo_10 (by decide) rfl ?_
  refine j_lsub [1, 2, 0] [(0, .ref (tp 0)), (1, .ref (ad 0)), (2, .int 1)] rfl ?_
  obtain ⟨n4, hw⟩ := hw
  refine ml_X8_tellTo_11 nd tp ad  bb ln cma che cyr C hR hB (fun y4_2 y4_so y4_pl y4_bh y4_csk y4_cze y4_cki y4_cdn y4_cwi y4_cdu y4_csz hw => ?_) n4 1 u1.1 u1.2.1 u1.2.2 csk cze cki cdn cwi cdu csz hw
  refine j_iconst C (-1) dX8_tellTo_66 (by decide) ?_
  refine j_aload_n C 0 dX8_tellTo_67 rfl ?_
  refine j_get C fl_X8_33_8 7 dX8_tellTo_68 rfl rfl ?_
  refine j_isub C dX8_tellTo_71 ?_
  exact j_iret C hB hR (y4_so, y4_pl, y4_bh, y4_csk, y4_cze, y4_cki, y4_cdn, y4_cwi, y4_cdu, y4_csz) rfl dX8_tellTo_72 hw rfl
