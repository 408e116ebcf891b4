theorem ct_X9_236 : Cond.constant RX9 236 (-1000000007) ∈ TB := (tb_t 653 (by decide +kernel) rfl)
theorem ct_X9_244 : Cond.constant RX9 244 (-1000000006) ∈ TB := (tb_t 669 (by decide +kernel) rfl)
theorem ct_X9_265 : Cond.constantLong RX9 265 20 ∈ TB := (tb_t 687 (by decide +kernel) rfl)
theorem fl_X9_223_8 : FL RX9 223 8 2 := ⟨RX8, TX8, 6, rfl, by decide, uw_X8, (tb_t 151 (by decide +kernel) rfl)⟩
theorem fl_X9_253_7 : FL RX9 253 7 1 := ⟨RX7, TX7, 3, rfl, by decide, uw_X7, (tb_t 178 (by decide +kernel) rfl)⟩
theorem fl_X9_53_9 : FL RX9 53 9 2 := ⟨RX9, TX9, 7, rfl, by decide, uw_X9, (tb_t 191 (by decide +kernel) rfl)⟩
theorem fl_X9_56_9 : FL RX9 56 9 3 := ⟨RX9, TX9, 7, rfl, by decide, uw_X9, (tb_t 192 (by decide +kernel) rfl)⟩
theorem fl_X9_63_9 : FL RX9 63 9 4 := ⟨RX9, TX9, 7, rfl, by decide, uw_X9, (tb_t 193 (by decide +kernel) rfl)⟩
theorem fl_X9_69_9 : FL RX9 69 9 5 := ⟨RX9, TX9, 7, rfl, by decide, uw_X9, (tb_t 194 (by decide +kernel) rfl)⟩
theorem fw_X9_223_8 : FW RX9 223 8 2 false .int := ⟨RX8, TX8, 6, tyX8, rfl, by decide, uw_X8, (tb_t 151 (by decide +kernel) rfl), tyX8_ok, nmX8, rfl, by decide +kernel, fun h => by cases h⟩
theorem fw_X9_56_9 : FW RX9 56 9 3 false .boolean := ⟨RX9, TX9, 7, tyX9, rfl, by decide, uw_X9, (tb_t 192 (by decide +kernel) rfl), tyX9_ok, nmX9, rfl, by decide +kernel, fun h => by cases h⟩
theorem lc_X9_259 : Cond.methodLink RX9 259 arraycopyName ∈ TB ∧ Cond.native arraycopyName ∈ TB ∧ Cond.static arraycopyName ∈ TB ∧ Cond.initialized "java/lang/System" ∈ TB := ⟨(tb_t 682 (by decide +kernel) rfl), (tb_t 477 (by decide +kernel) rfl), (tb_t 476 (by decide +kernel) rfl), (tb_t 15 (by decide +kernel) rfl)⟩
theorem lkS_X9_230 : LkS RX9 230 yX9_isSheet cX9_isSheet 1 (some .boolean) 1 := ⟨(tb_t 647 (by decide +kernel) rfl), (tb_t 648 (by decide +kernel) rfl), (tb_t 1 (by decide +kernel) rfl), (tb_t 649 (by decide +kernel) rfl), by decide, by decide, by decide +kernel⟩
theorem lkS_X9_233 : LkS RX9 233 yX9_isWidth cX9_isWidth 1 (some .boolean) 1 := ⟨(tb_t 650 (by decide +kernel) rfl), (tb_t 651 (by decide +kernel) rfl), (tb_t 1 (by decide +kernel) rfl), (tb_t 652 (by decide +kernel) rfl), by decide, by decide, by decide +kernel⟩
theorem lkS_X9_274 : LkS RX9 274 yX9_sum cX9_sum 4 (some .int) 2 := ⟨(tb_t 724 (by decide +kernel) rfl), (tb_t 461 (by decide +kernel) rfl), (tb_t 1 (by decide +kernel) rfl), (tb_t 462 (by decide +kernel) rfl), by decide, by decide, by decide +kernel⟩
theorem lkV_X9_216 : LkV RX9 216 RX8 yX8_hasRoomFor cX8_hasRoomFor 2 (some .boolean) 1 := ⟨(tb_t 533 (by decide +kernel) rfl), (tb_t 534 (by decide +kernel) rfl), (tb_t 535 (by decide +kernel) rfl), (tb_t 10 (by decide +kernel) rfl), (tb_t 536 (by decide +kernel) rfl), rfl, by decide, by decide, by decide +kernel⟩
theorem lkV_X9_219 : LkV RX9 219 RX8 yX8_append cX8_append 4 none 2 := ⟨(tb_t 537 (by decide +kernel) rfl), (tb_t 538 (by decide +kernel) rfl), (tb_t 539 (by decide +kernel) rfl), (tb_t 10 (by decide +kernel) rfl), (tb_t 540 (by decide +kernel) rfl), rfl, by decide, by decide, by decide +kernel⟩
theorem lkV_X9_226 : LkV RX9 226 RX8 yX8_tellTo cX8_tellTo 3 (some .int) 1 := ⟨(tb_t 549 (by decide +kernel) rfl), (tb_t 550 (by decide +kernel) rfl), (tb_t 551 (by decide +kernel) rfl), (tb_t 10 (by decide +kernel) rfl), (tb_t 552 (by decide +kernel) rfl), rfl, by decide, by decide, by decide +kernel⟩
theorem lkV_X9_237 : LkV RX9 237 RX7 yX7_begin cX7_begin 3 none 2 := ⟨(tb_t 654 (by decide +kernel) rfl), (tb_t 655 (by decide +kernel) rfl), (tb_t 656 (by decide +kernel) rfl), (tb_t 11 (by decide +kernel) rfl), (tb_t 657 (by decide +kernel) rfl), rfl, by decide, by decide, by decide +kernel⟩
theorem lkV_X9_241 : LkV RX9 241 RX7 yX7_isMissing cX7_isMissing 1 (some .boolean) 0 := ⟨(tb_t 665 (by decide +kernel) rfl), (tb_t 666 (by decide +kernel) rfl), (tb_t 667 (by decide +kernel) rfl), (tb_t 11 (by decide +kernel) rfl), (tb_t 668 (by decide +kernel) rfl), rfl, by decide, by decide, by decide +kernel⟩
theorem lkV_X9_249 : LkV RX9 249 RX7 yX7_put cX7_put 4 none 2 := ⟨(tb_t 670 (by decide +kernel) rfl), (tb_t 671 (by decide +kernel) rfl), (tb_t 672 (by decide +kernel) rfl), (tb_t 11 (by decide +kernel) rfl), (tb_t 673 (by decide +kernel) rfl), rfl, by decide, by decide, by decide +kernel⟩
theorem lkV_X9_256 : LkV RX9 256 RX7 yX7_hasSpan cX7_hasSpan 3 (some .boolean) 2 := ⟨(tb_t 678 (by decide +kernel) rfl), (tb_t 679 (by decide +kernel) rfl), (tb_t 680 (by decide +kernel) rfl), (tb_t 11 (by decide +kernel) rfl), (tb_t 681 (by decide +kernel) rfl), rfl, by decide, by decide, by decide +kernel⟩
theorem lkV_X9_267 : LkV RX9 267 RX9 yX9_trialGoesAsTold cX9_trialGoesAsTold 4 (some .boolean) 2 := ⟨(tb_t 696 (by decide +kernel) rfl), (tb_t 698 (by decide +kernel) rfl), (tb_in 3 (by decide +kernel) rfl), (tb_t 1 (by decide +kernel) rfl), (tb_t 699 (by decide +kernel) rfl), rfl, by decide, by decide, by decide +kernel⟩
theorem lkV_X9_271 : LkV RX9 271 RX2 yX2_dustOfAll cX2_dustOfAll 1 (some .int) 0 := ⟨(tb_t 716 (by decide +kernel) rfl), (tb_t 717 (by decide +kernel) rfl), (tb_t 718 (by decide +kernel) rfl), (tb_t 8 (by decide +kernel) rfl), (tb_t 719 (by decide +kernel) rfl), rfl, by decide, by decide, by decide +kernel⟩
def wp_X9_feed (fd : Nat → Int32) (pbb : Nat → Int32) (pln : Int32)  (a1 : Int32) (a2 : Int32) (Q : (Int32) → (Nat → Int32) → (Nat → Int32) → (Int32) → Prop) : Prop := wp_X9_isWithin a2 1 4 (fun r1 => (r1 = 0 → wp_X9_found fd (-1000000001) (fun r5 c5_0 => Q r5 c5_0 pbb pln)) ∧ (¬ (r1 = 0) → wp_X8_hasRoomFor pln a2 (fun r2 => (r2 = 0 → wp_X9_found fd (-1000000002) (fun r4 c4_0 => Q r4 c4_0 pbb pln)) ∧ (¬ (r2 = 0) → wp_X8_append pbb pln a1 a2 (fun c3_0 c3_1 => Q c3_1 fd c3_0 c3_1)))))
set_option maxRecDepth 100000 in
set_option maxHeartbeats 8000000 in
theorem c_X9_feed {l : Launch} {D : va_G} {ca : Nat → ClassId} {sd : Nat → Nat}  (aF : Nat → Nat) (aL : Nat → Nat) (aT : Nat → Nat) (aK : Nat → Nat) (nd : Nat → Nat) (tp : Nat → Nat) (fd : Nat → Int32) (ik : Int32) (pbb : Nat → Int32) (pln : Int32) (pso : Int32) (ppl : Int32) (pbh : Int32)  (a1 : Int32) (a2 : Int32)  {Q : (Int32) → (Nat → Int32) → (Nat → Int32) → (Int32) → Prop} (hw : wp_X9_feed fd pbb pln  a1 a2 Q) : Cn l D ca sd yX9_feed cX9_feed 3 (some .int) { frames := 2, cells := 0, slots := 0, locals := 44 } [.ref (aF 0), .int a1, .int a2] ((wD ca (aF 2) fd) ++ ((wF (aF 0) (aL 0) (aT 0) (aK 0) (tp 0) (aF 1) (aF 2) ik) ++ (wT ca tp (nd 0) pbb pln pso ppl pbh))) ((wD ca (aF 2) fd) ++ ((wF (aF 0) (aL 0) (aT 0) (aK 0) (tp 0) (aF 1) (aF 2) ik) ++ (wT ca tp (nd 0) pbb pln pso ppl pbh))) 0 0 (Ri D (fun (r : Int32) (u : (Nat → Int32) × (Nat → Int32) × (Int32)) => Q r u.1 u.2.1 u.2.2) (fun u => ((wD ca (aF 2) u.1) ++ ((wF (aF 0) (aL 0) (aT 0) (aK 0) (tp 0) (aF 1) (aF 2) ik) ++ (wT ca tp (nd 0) u.2.1 u.2.2 pso ppl pbh))))) := by
  refine cn_of (by decide) (Nat.le_of_ble_eq_true rfl) (fun k C hR hB _ => ?_)
  have C : Cx D ca sd cX9_feed RX9 (some .int) { frames := 2, cells := 0, slots := 0, locals := 44 } k 3 := C
  unfold wp_X9_feed at hw
  show J l D k 3 0 0 0 ((wD ca (aF 2) fd) ++ ((wF (aF 0) (aL 0) (aT 0) (aK 0) (tp 0) (aF 1) (aF 2) ik) ++ (wT ca tp (nd 0) pbb pln pso ppl pbh))) [(0, .ref (aF 0)), (1, .int a1), (2, .int a2)] []
  refine j_iload_n C 2 dX9_feed_0 rfl ?_
  refine j_iconst C 1 dX9_feed_1 (by decide) ?_
  refine j_iconst C 4 dX9_feed_2 (by decide) ?_
  refine j_ciZ C (jr_S C lkS_X9_87 (c_X9_isWithin a2 1 4 hw) ⟨rfl, rfl, by decide, by decide, by decide, by decide⟩ [] (by decide) rfl (fx_ro C) rfl rfl (Nat.le_of_ble_eq_true rfl) dX9_feed_3) (fun r1 u1 hw => ?_)
  refine j_if_ne C 16 dX9_feed_6 (by decide) (fun z => ?_) (fun z => ?_)
  · replace hw := hw.2 z
    refine j_aload_n C 0 dX9_feed_16 rfl ?_
    refine j_get C fl_X9_63_9 1 dX9_feed_17 rfl rfl ?_
    refine j_iload_n C 2 dX9_feed_20 rfl ?_
    refine j_ciZ C (jr_V C lkV_X9_216 (c_X8_hasRoomFor tp (nd 0) pbb pln pso ppl pbh a2 hw) ⟨rfl, rfl, by decide, by decide, by decide, by decide⟩ [2, 3] (by decide) rfl (fx_ro C) 2 8 rfl rfl rfl rfl (Nat.le_of_ble_eq_true rfl) dX9_feed_21) (fun r2 u2 hw => ?_)
    refine j_if_ne C 34 dX9_feed_24 (by decide) (fun z => ?_) (fun z => ?_)
    · replace hw := hw.2 z
      refine j_aload_n C 0 dX9_feed_34 rfl ?_
      refine j_get C fl_X9_63_9 1 dX9_feed_35 rfl rfl ?_
      refine j_iload_n C 1 dX9_feed_38 rfl ?_
      refine j_iload_n C 2 dX9_feed_39 rfl ?_
      refine j_cvT C hB 2 4 (fun u3 : (Nat → Int32) × (Int32) => ((wD ca (aF 2) fd) ++ ((wF (aF 0) (aL 0) (aT 0) (aK 0) (tp 0) (aF 1) (aF 2) ik) ++ (wT ca tp (nd 0) u3.1 u3.2 pso ppl pbh)))) rfl (fun _ => rfl) (jr_V C lkV_X9_219 (c_X8_append tp (nd 0) pbb pln pso ppl pbh a1 a2 hw) ⟨rfl, rfl, by decide, by decide, by decide, by decide⟩ [2, 3] (by decide) rfl (fx_rw C hB [2, 3] rfl) 2 8 rfl rfl rfl rfl (Nat.le_of_ble_eq_true rfl) dX9_feed_40) (fun u3 hw => ?_)
      refine j_aload_n C 0 dX9_feed_43 rfl ?_
      refine j_get C fl_X9_63_9 1 dX9_feed_44 rfl rfl ?_
      refine j_get C fl_X9_223_8 2 dX9_feed_47 rfl rfl ?_
      exact j_iret C hB hR (fd, u3.1, u3.2) rfl dX9_feed_50 hw rfl
    · replace hw := hw.1 z
      refine j_aload_n C 0 dX9_feed_27 rfl ?_
      refine j_ldc C dX9_feed_28 ct_X9_123 ?_
      refine j_ciT C hB 0 2 (fun u4 : (Nat → Int32) => ((wD ca (aF 2) u4) ++ ((wF (aF 0) (aL 0) (aT 0) (aK 0) (tp 0) (aF 1) (aF 2) ik) ++ (wT ca tp (nd 0) pbb pln pso ppl pbh)))) rfl (fun _ => rfl) (jr_V C lkV_X9_83 (c_X9_found aF aL aT aK nd tp fd ik (-1000000002) hw) ⟨rfl, rfl, by decide, by decide, by decide, by decide⟩ [0, 1] (by decide) rfl (fx_rw C hB [0, 1] rfl) 1 9 rfl rfl rfl rfl (Nat.le_of_ble_eq_true rfl) dX9_feed_30) (fun r4 u4 hw => ?_)
      exact j_iret C hB hR (u4, pbb, pln) rfl dX9_feed_33 hw rfl
  · replace hw := hw.1 z
    refine j_aload_n C 0 dX9_feed_9 rfl ?_
    refine j_ldc C dX9_feed_10 ct_X9_82 ?_
    refine j_ciT C hB 0 2 (fun u5 : (Nat → Int32) => ((wD ca (aF 2) u5) ++ ((wF (aF 0) (aL 0) (aT 0) (aK 0) (tp 0) (aF 1) (aF 2) ik) ++ (wT ca tp (nd 0) pbb pln pso ppl pbh)))) rfl (fun _ => rfl) (jr_V C lkV_X9_83 (c_X9_found aF aL aT aK nd tp fd ik (-1000000001) hw) ⟨rfl, rfl, by decide, by decide, by decide, by decide⟩ [0, 1] (by decide) rfl (fx_rw C hB [0, 1] rfl) 1 9 rfl rfl rfl rfl (Nat.le_of_ble_eq_true rfl) dX9_feed_12) (fun r5 u5 hw => ?_)
    exact j_iret C hB hR (u5, pbb, pln) rfl dX9_feed_15 hw rfl
def wp_X9_wipe (pln : Int32)   (Q : (Int32) → (Int32) → Prop) : Prop := Q pln 0
set_option maxRecDepth 100000 in
set_option maxHeartbeats 8000000 in
theorem c_X9_wipe {l : Launch} {D : va_G} {ca : Nat → ClassId} {sd : Nat → Nat}  (aF : Nat → Nat) (aL : Nat → Nat) (aT : Nat → Nat) (aK : Nat → Nat) (nd : Nat → Nat) (tp : Nat → Nat) (ik : Int32) (pbb : Nat → Int32) (pln : Int32) (pso : Int32) (ppl : Int32) (pbh : Int32)    {Q : (Int32) → (Int32) → Prop} (hw : wp_X9_wipe pln   Q) : Cn l D ca sd yX9_wipe cX9_wipe 2 (some .int) { frames := 0, cells := 0, slots := 0, locals := 0 } [.ref (aF 0)] ((wF (aF 0) (aL 0) (aT 0) (aK 0) (tp 0) (aF 1) (aF 2) ik) ++ (wT ca tp (nd 0) pbb pln pso ppl pbh)) ((wF (aF 0) (aL 0) (aT 0) (aK 0) (tp 0) (aF 1) (aF 2) ik) ++ (wT ca tp (nd 0) pbb pln pso ppl pbh)) 0 0 (Ri D (fun (r : Int32) (u : (Int32)) => Q r u) (fun u => ((wF (aF 0) (aL 0) (aT 0) (aK 0) (tp 0) (aF 1) (aF 2) ik) ++ (wT ca tp (nd 0) pbb u pso ppl pbh)))) := by
  refine cn_of (by decide) (Nat.le_of_ble_eq_true rfl) (fun k C hR hB _ => ?_)
  have C : Cx D ca sd cX9_wipe RX9 (some .int) { frames := 0, cells := 0, slots := 0, locals := 0 } k 2 := C
  unfold wp_X9_wipe at hw
  show J l D k 2 0 0 0 ((wF (aF 0) (aL 0) (aT 0) (aK 0) (tp 0) (aF 1) (aF 2) ik) ++ (wT ca tp (nd 0) pbb pln pso ppl pbh)) [(0, .ref (aF 0))] []
  refine j_aload_n C 0 dX9_wipe_0 rfl ?_
  refine j_get C fl_X9_63_9 0 dX9_wipe_1 rfl rfl ?_
  refine j_get C fl_X9_223_8 1 dX9_wipe_4 rfl rfl ?_
  refine j_istore_n C [(1, .int pln), (0, .ref (aF 0))] dX9_wipe_7 (by decide) rfl ?_
  refine j_aload_n C 1 dX9_wipe_8 rfl ?_
  refine j_get C fl_X9_63_9 0 dX9_wipe_9 rfl rfl ?_
  refine j_iconst C 0 dX9_wipe_12 (by decide) ?_
  refine j_put C hB fw_X9_223_8 1 ((wF (aF 0) (aL 0) (aT 0) (aK 0) (tp 0) (aF 1) (aF 2) ik) ++ (wT ca tp (nd 0) pbb 0 pso ppl pbh)) dX9_wipe_13 rfl rfl rfl (Nat.le_of_ble_eq_true rfl) rfl ?_
  refine j_iload_n C 0 dX9_wipe_16 rfl ?_
  exact j_iret C hB hR 0 rfl dX9_wipe_17 hw rfl
def wp_X9_common (pbb : Nat → Int32) (pln : Int32) (tsk : Nat → Int32) (tze : Nat → Int32) (tma : Nat → Int32) (tki : Nat → Int32) (tdn : Nat → Int32) (twi : Nat → Int32) (tdu : Nat → Int32) (lsk : Nat → Int32) (lze : Nat → Int32) (lma : Nat → Int32) (lki : Nat → Int32) (ldn : Nat → Int32) (lwi : Nat → Int32) (ldu : Nat → Int32) (lyr : Int32) (lsz : Int32)   (Q : (Int32) → (Int32) → (Int32) → (Int32) → (Int32) → (Nat → Int32) → (Nat → Int32) → (Nat → Int32) → (Nat → Int32) → (Nat → Int32) → (Nat → Int32) → (Nat → Int32) → (Int32) → (Int32) → (Nat → Int32) → (Nat → Int32) → (Nat → Int32) → (Nat → Int32) → (Nat → Int32) → (Nat → Int32) → (Nat → Int32) → (Int32) → (Int32) → Prop) : Prop := wp_X2_become tsk tze tma tki tdn twi tdu lsk lze lma lki ldn lwi ldu lyr lsz (fun c1_0 c1_1 c1_2 c1_3 c1_4 c1_5 c1_6 c1_7 c1_8 => wp_X8_tellTo pbb pln c1_0 c1_1 c1_3 c1_4 c1_5 c1_6 c1_8 (fun r2 c2_0 c2_1 c2_2 c2_3 c2_4 c2_5 c2_6 c2_7 c2_8 c2_9 => (r2 < 0 → Q r2 0 c2_0 c2_1 c2_2 c2_3 c2_4 c1_2 c2_5 c2_6 c2_7 c2_8 c1_7 c2_9 lsk lze lma lki ldn lwi ldu lyr lsz) ∧ (¬ (r2 < 0) → wp_X2_becomeR c2_3 c2_4 c1_2 c2_5 c2_6 c2_7 c2_8 c1_7 c2_9 lsk lze lma lki ldn lwi ldu (fun c3_0 c3_1 c3_2 c3_3 c3_4 c3_5 c3_6 c3_7 c3_8 => Q r2 0 c2_0 c2_1 c2_2 c2_3 c2_4 c1_2 c2_5 c2_6 c2_7 c2_8 c1_7 c2_9 c3_0 c3_1 c3_2 c3_3 c3_4 c3_5 c3_6 c3_7 c3_8))))
set_option maxRecDepth 100000 in
set_option maxHeartbeats 8000000 in
theorem c_X9_common {l : Launch} {D : va_G} {ca : Nat → ClassId} {sd : Nat → Nat}  (aF : Nat → Nat) (aL : Nat → Nat) (aT : Nat → Nat) (aK : Nat → Nat) (nd : Nat → Nat) (tp : Nat → Nat) (ik : Int32) (pbb : Nat → Int32) (pln : Int32) (pso : Int32) (ppl : Int32) (pbh : Int32) (tsk : Nat → Int32) (tze : Nat → Int32) (tma : Nat → Int32) (tki : Nat → Int32) (tdn : Nat → Int32) (twi : Nat → Int32) (tdu : Nat → Int32) (the : Nat → Int32) (tyr : Int32) (tsz : Int32) (lsk : Nat → Int32) (lze : Nat → Int32) (lma : Nat → Int32) (lki : Nat → Int32) (ldn : Nat → Int32) (lwi : Nat → Int32) (ldu : Nat → Int32) (lhe : Nat → Int32) (lyr : Int32) (lsz : Int32)    {Q : (Int32) → (Int32) → (Int32) → (Int32) → (Int32) → (Nat → Int32) → (Nat → Int32) → (Nat → Int32) → (Nat → Int32) → (Nat → Int32) → (Nat → Int32) → (Nat → Int32) → (Int32) → (Int32) → (Nat → Int32) → (Nat → Int32) → (Nat → Int32) → (Nat → Int32) → (Nat → Int32) → (Nat → Int32) → (Nat → Int32) → (Int32) → (Int32) → Prop} (hw : wp_X9_common pbb pln tsk tze tma tki tdn twi tdu lsk lze lma lki ldn lwi ldu lyr lsz   Q) : Cn l D ca sd yX9_common cX9_common 2 (some .int) { frames := 8, cells := 0, slots := 0, locals := 241 } [.ref (aF 0)] ((wF (aF 0) (aL 0) (aT 0) (aK 0) (tp 0) (aF 1) (aF 2) ik) ++ ((wN ca nd sd) ++ ((wT ca tp (nd 0) pbb pln pso ppl pbh) ++ ((wC ca aT (nd 0) tsk tze tma tki tdn twi tdu the tyr tsz) ++ (wC ca aL (nd 0) lsk lze lma lki ldn lwi ldu lhe lyr lsz))))) ((wF (aF 0) (aL 0) (aT 0) (aK 0) (tp 0) (aF 1) (aF 2) ik) ++ ((wN ca nd sd) ++ ((wT ca tp (nd 0) pbb pln pso ppl pbh) ++ ((wC ca aT (nd 0) tsk tze tma tki tdn twi tdu the tyr tsz) ++ (wC ca aL (nd 0) lsk lze lma lki ldn lwi ldu lhe lyr lsz))))) 0 0 (Ri D (fun (r : Int32) (u : (Int32) × (Int32) × (Int32) × (Int32) × (Nat → Int32) × (Nat → Int32) × (Nat → Int32) × (Nat → Int32) × (Nat → Int32) × (Nat → Int32) × (Nat → Int32) × (Int32) × (Int32) × (Nat → Int32) × (Nat → Int32) × (Nat → Int32) × (Nat → Int32) × (Nat → Int32) × (Nat → Int32) × (Nat → Int32) × (Int32) × (Int32)) => Q r u.1 u.2.1 u.2.2.1 u.2.2.2.1 u.2.2.2.2.1 u.2.2.2.2.2.1 u.2.2.2.2.2.2.1 u.2.2.2.2.2.2.2.1 u.2.2.2.2.2.2.2.2.1 u.2.2.2.2.2.2.2.2.2.1 u.2.2.2.2.2.2.2.2.2.2.1 u.2.2.2.2.2.2.2.2.2.2.2.1 u.2.2.2.2.2.2.2.2.2.2.2.2.1 u.2.2.2.2.2.2.2.2.2.2.2.2.2.1 u.2.2.2.2.2.2.2.2.2.2.2.2.2.2.1 u.2.2.2.2.2.2.2.2.2.2.2.2.2.2.2.1 u.2.2.2.2.2.2.2.2.2.2.2.2.2.2.2.2.1 u.2.2.2.2.2.2.2.2.2.2.2.2.2.2.2.2.2.1 u.2.2.2.2.2.2.2.2.2.2.2.2.2.2.2.2.2.2.1 u.2.2.2.2.2.2.2.2.2.2.2.2.2.2.2.2.2.2.2.1 u.2.2.2.2.2.2.2.2.2.2.2.2.2.2.2.2.2.2.2.2.1 u.2.2.2.2.2.2.2.2.2.2.2.2.2.2.2.2.2.2.2.2.2) (fun u => ((wF (aF 0) (aL 0) (aT 0) (aK 0) (tp 0) (aF 1) (aF 2) ik) ++ ((wN ca nd sd) ++ ((wT ca tp (nd 0) pbb u.1 u.2.1 u.2.2.1 u.2.2.2.1) ++ ((wC ca aT (nd 0) u.2.2.2.2.1 u.2.2.2.2.2.1 u.2.2.2.2.2.2.1 u.2.2.2.2.2.2.2.1 u.2.2.2.2.2.2.2.2.1 u.2.2.2.2.2.2.2.2.2.1 u.2.2.2.2.2.2.2.2.2.2.1 the u.2.2.2.2.2.2.2.2.2.2.2.1 u.2.2.2.2.2.2.2.2.2.2.2.2.1) ++ (wC ca aL (nd 0) u.2.2.2.2.2.2.2.2.2.2.2.2.2.1 u.2.2.2.2.2.2.2.2.2.2.2.2.2.2.1 u.2.2.2.2.2.2.2.2.2.2.2.2.2.2.2.1 u.2.2.2.2.2.2.2.2.2.2.2.2.2.2.2.2.1 u.2.2.2.2.2.2.2.2.2.2.2.2.2.2.2.2.2.1 u.2.2.2.2.2.2.2.2.2.2.2.2.2.2.2.2.2.2.1 u.2.2.2.2.2.2.2.2.2.2.2.2.2.2.2.2.2.2.2.1 lhe u.2.2.2.2.2.2.2.2.2.2.2.2.2.2.2.2.2.2.2.2.1 u.2.2.2.2.2.2.2.2.2.2.2.2.2.2.2.2.2.2.2.2.2))))))) := by
  refine cn_of (by decide) (Nat.le_of_ble_eq_true rfl) (fun k C hR hB _ => ?_)
  have C : Cx D ca sd cX9_common RX9 (some .int) { frames := 8, cells := 0, slots := 0, locals := 241 } k 2 := C
  unfold wp_X9_common at hw
  show J l D k 2 0 0 0 ((wF (aF 0) (aL 0) (aT 0) (aK 0) (tp 0) (aF 1) (aF 2) ik) ++ ((wN ca nd sd) ++ ((wT ca tp (nd 0) pbb pln pso ppl pbh) ++ ((wC ca aT (nd 0) tsk tze tma tki tdn twi tdu the tyr tsz) ++ (wC ca aL (nd 0) lsk lze lma lki ldn lwi ldu lhe lyr lsz))))) [(0, .ref (aF 0))] []
  refine j_aload_n C 0 dX9_common_0 rfl ?_
  refine j_get C fl_X9_50_9 0 dX9_common_1 rfl rfl ?_
  refine j_aload_n C 0 dX9_common_4 rfl ?_
  refine j_get C fl_X9_44_9 0 dX9_common_5 rfl rfl ?_
  refine j_cvT C hB 10 28 (fun u1 : (Nat → Int32) × (Nat → Int32) × (Nat → Int32) × (Nat → Int32) × (Nat → Int32) × (Nat → Int32) × (Nat → Int32) × (Int32) × (Int32) => ((wF (aF 0) (aL 0) (aT 0) (aK 0) (tp 0) (aF 1) (aF 2) ik) ++ ((wN ca nd sd) ++ ((wT ca tp (nd 0) pbb pln pso ppl pbh) ++ ((wC ca aT (nd 0) u1.1 u1.2.1 u1.2.2.1 u1.2.2.2.1 u1.2.2.2.2.1 u1.2.2.2.2.2.1 u1.2.2.2.2.2.2.1 the u1.2.2.2.2.2.2.2.1 u1.2.2.2.2.2.2.2.2) ++ (wC ca aL (nd 0) lsk lze lma lki ldn lwi ldu lhe lyr lsz)))))) rfl (fun _ => rfl) (jr_V C lkV_X9_200 (c_X2_become aT aL (nd 0) tsk tze tma tki tdn twi tdu the tyr tsz lsk lze lma lki ldn lwi ldu lhe lyr lsz hw) ⟨rfl, rfl, by decide, by decide, by decide, by decide⟩ [10, 11, 12, 13, 14, 15, 16, 17, 18, 19, 20, 21, 22, 23, 24, 25, 26, 27] rfl rfl (fx_rw C hB [10, 11, 12, 13, 14, 15, 16, 17, 18, 19, 20, 21, 22, 23, 24, 25, 26, 27] rfl) 10 2 rfl rfl rfl rfl (Nat.le_of_ble_eq_true rfl) dX9_common_8) (fun u1 hw => ?_)
  refine j_aload_n C 0 dX9_common_11 rfl ?_
  refine j_get C fl_X9_63_9 0 dX9_common_12 rfl rfl ?_
  refine j_aload_n C 0 dX9_common_15 rfl ?_
  refine j_get C fl_X9_50_9 0 dX9_common_16 rfl rfl ?_
  refine j_ciT C hB 1 19 (fun u2 : (Int32) × (Int32) × (Int32) × (Nat → Int32) × (Nat → Int32) × (Nat → Int32) × (Nat → Int32) × (Nat → Int32) × (Nat → Int32) × (Int32) => ((wF (aF 0) (aL 0) (aT 0) (aK 0) (tp 0) (aF 1) (aF 2) ik) ++ ((wN ca nd sd) ++ ((wT ca tp (nd 0) pbb pln u2.1 u2.2.1 u2.2.2.1) ++ ((wC ca aT (nd 0) u2.2.2.2.1 u2.2.2.2.2.1 u1.2.2.1 u2.2.2.2.2.2.1 u2.2.2.2.2.2.2.1 u2.2.2.2.2.2.2.2.1 u2.2.2.2.2.2.2.2.2.1 the u1.2.2.2.2.2.2.2.1 u2.2.2.2.2.2.2.2.2.2) ++ (wC ca aL (nd 0) lsk lze lma lki ldn lwi ldu lhe lyr lsz)))))) rfl (fun _ => rfl) (jr_V C lkV_X9_226 (c_X8_tellTo nd tp aT pbb pln pso ppl pbh u1.1 u1.2.1 u1.2.2.1 u1.2.2.2.1 u1.2.2.2.2.1 u1.2.2.2.2.2.1 u1.2.2.2.2.2.2.1 the u1.2.2.2.2.2.2.2.1 u1.2.2.2.2.2.2.2.2 hw) ⟨rfl, rfl, by decide, by decide, by decide, by decide⟩ [1, 2, 3, 4, 5, 6, 7, 8, 9, 10, 11, 12, 13, 14, 15, 16, 17, 18] rfl rfl (fx_rw C hB [1, 2, 3, 4, 5, 6, 7, 8, 9, 10, 11, 12, 13, 14, 15, 16, 17, 18] rfl) 8 8 rfl rfl rfl rfl (Nat.le_of_ble_eq_true rfl) dX9_common_19) (fun r2 u2 hw => ?_)
  refine j_istore_n C [(1, .int r2), (0, .ref (aF 0))] dX9_common_22 (by decide) rfl ?_
  refine j_aload_n C 1 dX9_common_23 rfl ?_
  refine j_get C fl_X9_63_9 0 dX9_common_24 rfl rfl ?_
  refine j_iconst C 0 dX9_common_27 (by decide) ?_
  refine j_put C hB fw_X9_223_8 8 ((wF (aF 0) (aL 0) (aT 0) (aK 0) (tp 0) (aF 1) (aF 2) ik) ++ ((wN ca nd sd) ++ ((wT ca tp (nd 0) pbb 0 u2.1 u2.2.1 u2.2.2.1) ++ ((wC ca aT (nd 0) u2.2.2.2.1 u2.2.2.2.2.1 u1.2.2.1 u2.2.2.2.2.2.1 u2.2.2.2.2.2.2.1 u2.2.2.2.2.2.2.2.1 u2.2.2.2.2.2.2.2.2.1 the u1.2.2.2.2.2.2.2.1 u2.2.2.2.2.2.2.2.2.2) ++ (wC ca aL (nd 0) lsk lze lma lki ldn lwi ldu lhe lyr lsz))))) dX9_common_28 rfl rfl rfl (Nat.le_of_ble_eq_true rfl) rfl ?_
  refine j_iload_n C 0 dX9_common_31 rfl ?_
  refine j_if_lt C 46 dX9_common_32 (by decide) (fun z => ?_) (fun z => ?_)
  · replace hw := hw.1 z
    refine j_iload_n C 0 dX9_common_46 rfl ?_
    exact j_iret C hB hR (0, u2.1, u2.2.1, u2.2.2.1, u2.2.2.2.1, u2.2.2.2.2.1, u1.2.2.1, u2.2.2.2.2.2.1, u2.2.2.2.2.2.2.1, u2.2.2.2.2.2.2.2.1, u2.2.2.2.2.2.2.2.2.1, u1.2.2.2.2.2.2.2.1, u2.2.2.2.2.2.2.2.2.2, lsk, lze, lma, lki, ldn, lwi, ldu, lyr, lsz) rfl dX9_common_47 hw rfl
  · replace hw := hw.2 z
    refine j_aload_n C 1 dX9_common_35 rfl ?_
    refine j_get C fl_X9_44_9 0 dX9_common_36 rfl rfl ?_
    refine j_aload_n C 1 dX9_common_39 rfl ?_
    refine j_get C fl_X9_50_9 0 dX9_common_40 rfl rfl ?_
    refine j_cvT C hB 10 28 (fun u3 : (Nat → Int32) × (Nat → Int32) × (Nat → Int32) × (Nat → Int32) × (Nat → Int32) × (Nat → Int32) × (Nat → Int32) × (Int32) × (Int32) => ((wF (aF 0) (aL 0) (aT 0) (aK 0) (tp 0) (aF 1) (aF 2) ik) ++ ((wN ca nd sd) ++ ((wT ca tp (nd 0) pbb 0 u2.1 u2.2.1 u2.2.2.1) ++ ((wC ca aT (nd 0) u2.2.2.2.1 u2.2.2.2.2.1 u1.2.2.1 u2.2.2.2.2.2.1 u2.2.2.2.2.2.2.1 u2.2.2.2.2.2.2.2.1 u2.2.2.2.2.2.2.2.2.1 the u1.2.2.2.2.2.2.2.1 u2.2.2.2.2.2.2.2.2.2) ++ (wC ca aL (nd 0) u3.1 u3.2.1 u3.2.2.1 u3.2.2.2.1 u3.2.2.2.2.1 u3.2.2.2.2.2.1 u3.2.2.2.2.2.2.1 lhe u3.2.2.2.2.2.2.2.1 u3.2.2.2.2.2.2.2.2)))))) rfl (fun _ => rfl) (jr_V C lkV_X9_200 (c_X2_becomeR aL aT (nd 0) u2.2.2.2.1 u2.2.2.2.2.1 u1.2.2.1 u2.2.2.2.2.2.1 u2.2.2.2.2.2.2.1 u2.2.2.2.2.2.2.2.1 u2.2.2.2.2.2.2.2.2.1 the u1.2.2.2.2.2.2.2.1 u2.2.2.2.2.2.2.2.2.2 lsk lze lma lki ldn lwi ldu lhe lyr lsz hw) ⟨rfl, rfl, by decide, by decide, by decide, by decide⟩ [10, 11, 12, 13, 14, 15, 16, 17, 18, 19, 20, 21, 22, 23, 24, 25, 26, 27] rfl rfl (fx_rw C hB [10, 11, 12, 13, 14, 15, 16, 17, 18, 19, 20, 21, 22, 23, 24, 25, 26, 27] rfl) 19 2 rfl rfl rfl rfl (Nat.le_of_ble_eq_true rfl) dX9_common_43) (fun u3 hw => ?_)
    refine j_iload_n C 0 dX9_common_46 rfl ?_
    exact j_iret C hB hR (0, u2.1, u2.2.1, u2.2.2.1, u2.2.2.2.1, u2.2.2.2.2.1, u1.2.2.1, u2.2.2.2.2.2.1, u2.2.2.2.2.2.2.1, u2.2.2.2.2.2.2.2.1, u2.2.2.2.2.2.2.2.2.1, u1.2.2.2.2.2.2.2.1, u2.2.2.2.2.2.2.2.2.2, u3.1, u3.2.1, u3.2.2.1, u3.2.2.2.1, u3.2.2.2.2.1, u3.2.2.2.2.2.1, u3.2.2.2.2.2.2.1, u3.2.2.2.2.2.2.2.1, u3.2.2.2.2.2.2.2.2) rfl dX9_common_47 hw rfl
def wp_X9_sheet (fd : Nat → Int32) (nu : Nat → Int64) (bi : Int32) (le : Int32)  (a1 : Int32) (a2 : Int32) (a3 : Int32) (Q : (Int32) → (Nat → Int32) → (Nat → Int64) → (Int32) → (Int32) → Prop) : Prop := wp_X9_isSheet a1 (fun r1 => (r1 = 0 → wp_X9_found fd (-1000000001) (fun r2 c2_0 => Q r2 c2_0 nu bi le)) ∧ (¬ (r1 = 0) → wp_X9_isWidth a2 (fun r3 => (r3 = 0 → wp_X9_found fd (-1000000001) (fun r9 c9_0 => Q r9 c9_0 nu bi le)) ∧ (¬ (r3 = 0) → (0 ≤ a3 → (a3 ≤ 40 → vp_in a1 4 ∧ (wp_X7_begin nu a2 a3 (fun c5_0 c5_1 c5_2 => vp_in a1 4 ∧ (Q c5_2 fd c5_0 c5_1 c5_2)))) ∧ (¬ (a3 ≤ 40) → wp_X9_found fd (-1000000001) (fun r7 c7_0 => Q r7 c7_0 nu bi le))) ∧ (¬ (0 ≤ a3) → wp_X9_found fd (-1000000007) (fun r8 c8_0 => Q r8 c8_0 nu bi le))))))
set_option maxRecDepth 100000 in
set_option maxHeartbeats 8000000 in
theorem c_X9_sheet {l : Launch} {D : va_G} {ca : Nat → ClassId} {sd : Nat → Nat}  (aF : Nat → Nat) (aL : Nat → Nat) (aT : Nat → Nat) (aK : Nat → Nat) (nd : Nat → Nat) (tp : Nat → Nat) (sb : Nat → Nat) (sn : Nat → Nat) (j : Nat) (fd : Nat → Int32) (ik : Int32) (nu : Nat → Int64) (bi : Int32) (le : Int32)  (a1 : Int32) (a2 : Int32) (a3 : Int32) (hj : vp_in a1 4 → a1.toNatClampNeg = j) {Q : (Int32) → (Nat → Int32) → (Nat → Int64) → (Int32) → (Int32) → Prop} (hw : wp_X9_sheet fd nu bi le  a1 a2 a3 Q) : Cn l D ca sd yX9_sheet cX9_sheet 4 (some .int) { frames := 2, cells := 0, slots := 0, locals := 46 } [.ref (aF 0), .int a1, .int a2, .int a3] ((wD ca (aF 2) fd) ++ ((wF (aF 0) (aL 0) (aT 0) (aK 0) (tp 0) (aF 1) (aF 2) ik) ++ ((wA ca (aF 1) sb) ++ (wS ca (sb j) (sn j) nu bi le)))) ((wD ca (aF 2) fd) ++ ((wF (aF 0) (aL 0) (aT 0) (aK 0) (tp 0) (aF 1) (aF 2) ik) ++ ((wA ca (aF 1) sb) ++ (wS ca (sb j) (sn j) nu bi le)))) 0 0 (Ri D (fun (r : Int32) (u : (Nat → Int32) × (Nat → Int64) × (Int32) × (Int32)) => Q r u.1 u.2.1 u.2.2.1 u.2.2.2) (fun u => ((wD ca (aF 2) u.1) ++ ((wF (aF 0) (aL 0) (aT 0) (aK 0) (tp 0) (aF 1) (aF 2) ik) ++ ((wA ca (aF 1) sb) ++ (wS ca (sb j) (sn j) u.2.1 u.2.2.1 u.2.2.2)))))) := by
  refine cn_of (by decide) (Nat.le_of_ble_eq_true rfl) (fun k C hR hB _ => ?_)
  have C : Cx D ca sd cX9_sheet RX9 (some .int) { frames := 2, cells := 0, slots := 0, locals := 46 } k 4 := C
  unfold wp_X9_sheet at hw
  show J l D k 4 0 0 0 ((wD ca (aF 2) fd) ++ ((wF (aF 0) (aL 0) (aT 0) (aK 0) (tp 0) (aF 1) (aF 2) ik) ++ ((wA ca (aF 1) sb) ++ (wS ca (sb j) (sn j) nu bi le)))) [(0, .ref (aF 0)), (1, .int a1), (2, .int a2), (3, .int a3)] []
  refine j_iload_n C 1 dX9_sheet_0 rfl ?_
  refine j_ciZ C (jr_S C lkS_X9_230 (c_X9_isSheet a1 hw) ⟨rfl, rfl, by decide, by decide, by decide, by decide⟩ [] (by decide) rfl (fx_ro C) rfl rfl (Nat.le_of_ble_eq_true rfl) dX9_sheet_1) (fun r1 u1 hw => ?_)
  refine j_if_eq C 14 dX9_sheet_4 (by decide) (fun z => ?_) (fun z => ?_)
  · replace hw := hw.1 z
    refine j_aload_n C 0 dX9_sheet_14 rfl ?_
    refine j_ldc C dX9_sheet_15 ct_X9_82 ?_
    refine j_ciT C hB 0 2 (fun u2 : (Nat → Int32) => ((wD ca (aF 2) u2) ++ ((wF (aF 0) (aL 0) (aT 0) (aK 0) (tp 0) (aF 1) (aF 2) ik) ++ ((wA ca (aF 1) sb) ++ (wS ca (sb j) (sn j) nu bi le))))) rfl (fun _ => rfl) (jr_V C lkV_X9_83 (c_X9_found aF aL aT aK nd tp fd ik (-1000000001) hw) ⟨rfl, rfl, by decide, by decide, by decide, by decide⟩ [0, 1] (by decide) rfl (fx_rw C hB [0, 1] rfl) 1 9 rfl rfl rfl rfl (Nat.le_of_ble_eq_true rfl) dX9_sheet_17) (fun r2 u2 hw => ?_)
    exact j_iret C hB hR (u2, nu, bi, le) rfl dX9_sheet_20 hw rfl
  · replace hw := hw.2 z
    refine j_iload_n C 2 dX9_sheet_7 rfl ?_
    refine j_ciZ C (jr_S C lkS_X9_233 (c_X9_isWidth a2 hw) ⟨rfl, rfl, by decide, by decide, by decide, by decide⟩ [] (by decide) rfl (fx_ro C) rfl rfl (Nat.le_of_ble_eq_true rfl) dX9_sheet_8) (fun r3 u3 hw => ?_)
    refine j_if_ne C 21 dX9_sheet_11 (by decide) (fun z => ?_) (fun z => ?_)
    · replace hw := hw.2 z
      refine j_iload_n C 3 dX9_sheet_21 rfl ?_
      refine j_if_ge C 32 dX9_sheet_22 (by decide) (fun z => ?_) (fun z => ?_)
      · replace hw := hw.1 z
        refine j_iload_n C 3 dX9_sheet_32 rfl ?_
        refine j_bipush C 40 dX9_sheet_33 (by decide) ?_
        refine j_icmp_le C 45 dX9_sheet_35 (by decide) (fun z => ?_) (fun z => ?_)
        · replace hw := hw.1 z
          refine j_aload_n C 0 dX9_sheet_45 rfl ?_
          refine j_get C fl_X9_69_9 1 dX9_sheet_46 rfl rfl ?_
          refine j_iload_n C 1 dX9_sheet_49 rfl ?_
          have hi4 := hw.1
          replace hw := hw.2
          refine j_aald C (E := "UnfinishedFair$Sheet") 2 dX9_sheet_50 rfl rfl hi4 (congrArg (fun z => some (sb z)) (hj hi4)) ?_
          refine j_iload_n C 2 dX9_sheet_51 rfl ?_
          refine j_iload_n C 3 dX9_sheet_52 rfl ?_
          refine j_cvT C hB 3 5 (fun u5 : (Nat → Int64) × (Int32) × (Int32) => ((wD ca (aF 2) fd) ++ ((wF (aF 0) (aL 0) (aT 0) (aK 0) (tp 0) (aF 1) (aF 2) ik) ++ ((wA ca (aF 1) sb) ++ (wS ca (sb j) (sn j) u5.1 u5.2.1 u5.2.2))))) rfl (fun _ => rfl) (jr_V C lkV_X9_237 (c_X7_begin (sb j) (sn j) nu bi le a2 a3 hw) ⟨rfl, rfl, by decide, by decide, by decide, by decide⟩ [3, 4] (by decide) rfl (fx_rw C hB [3, 4] rfl) 3 7 rfl rfl rfl rfl (Nat.le_of_ble_eq_true rfl) dX9_sheet_53) (fun u5 hw => ?_)
          refine j_aload_n C 0 dX9_sheet_56 rfl ?_
          refine j_get C fl_X9_69_9 1 dX9_sheet_57 rfl rfl ?_
          refine j_iload_n C 1 dX9_sheet_60 rfl ?_
          have hi6 := hw.1
          replace hw := hw.2
          refine j_aald C (E := "UnfinishedFair$Sheet") 2 dX9_sheet_61 rfl rfl hi6 (congrArg (fun z => some (sb z)) (hj hi6)) ?_
          refine j_get C fl_X9_240_7 3 dX9_sheet_62 rfl rfl ?_
          exact j_iret C hB hR (fd, u5.1, u5.2.1, u5.2.2) rfl dX9_sheet_65 hw rfl
        · replace hw := hw.2 z
          refine j_aload_n C 0 dX9_sheet_38 rfl ?_
          refine j_ldc C dX9_sheet_39 ct_X9_82 ?_
          refine j_ciT C hB 0 2 (fun u7 : (Nat → Int32) => ((wD ca (aF 2) u7) ++ ((wF (aF 0) (aL 0) (aT 0) (aK 0) (tp 0) (aF 1) (aF 2) ik) ++ ((wA ca (aF 1) sb) ++ (wS ca (sb j) (sn j) nu bi le))))) rfl (fun _ => rfl) (jr_V C lkV_X9_83 (c_X9_found aF aL aT aK nd tp fd ik (-1000000001) hw) ⟨rfl, rfl, by decide, by decide, by decide, by decide⟩ [0, 1] (by decide) rfl (fx_rw C hB [0, 1] rfl) 1 9 rfl rfl rfl rfl (Nat.le_of_ble_eq_true rfl) dX9_sheet_41) (fun r7 u7 hw => ?_)
          exact j_iret C hB hR (u7, nu, bi, le) rfl dX9_sheet_44 hw rfl
      · replace hw := hw.2 z
        refine j_aload_n C 0 dX9_sheet_25 rfl ?_
        refine j_ldc C dX9_sheet_26 ct_X9_236 ?_
        refine j_ciT C hB 0 2 (fun u8 : (Nat → Int32) => ((wD ca (aF 2) u8) ++ ((wF (aF 0) (aL 0) (aT 0) (aK 0) (tp 0) (aF 1) (aF 2) ik) ++ ((wA ca (aF 1) sb) ++ (wS ca (sb j) (sn j) nu bi le))))) rfl (fun _ => rfl) (jr_V C lkV_X9_83 (c_X9_found aF aL aT aK nd tp fd ik (-1000000007) hw) ⟨rfl, rfl, by decide, by decide, by decide, by decide⟩ [0, 1] (by decide) rfl (fx_rw C hB [0, 1] rfl) 1 9 rfl rfl rfl rfl (Nat.le_of_ble_eq_true rfl) dX9_sheet_28) (fun r8 u8 hw => ?_)
        exact j_iret C hB hR (u8, nu, bi, le) rfl dX9_sheet_31 hw rfl
    · replace hw := hw.1 z
      refine j_aload_n C 0 dX9_sheet_14 rfl ?_
      refine j_ldc C dX9_sheet_15 ct_X9_82 ?_
      refine j_ciT C hB 0 2 (fun u9 : (Nat → Int32) => ((wD ca (aF 2) u9) ++ ((wF (aF 0) (aL 0) (aT 0) (aK 0) (tp 0) (aF 1) (aF 2) ik) ++ ((wA ca (aF 1) sb) ++ (wS ca (sb j) (sn j) nu bi le))))) rfl (fun _ => rfl) (jr_V C lkV_X9_83 (c_X9_found aF aL aT aK nd tp fd ik (-1000000001) hw) ⟨rfl, rfl, by decide, by decide, by decide, by decide⟩ [0, 1] (by decide) rfl (fx_rw C hB [0, 1] rfl) 1 9 rfl rfl rfl rfl (Nat.le_of_ble_eq_true rfl) dX9_sheet_17) (fun r9 u9 hw => ?_)
      exact j_iret C hB hR (u9, nu, bi, le) rfl dX9_sheet_20 hw rfl
def wp_X9_write (fd : Nat → Int32) (nu : Nat → Int64) (bi : Int32) (le : Int32)  (a1 : Int32) (a2 : Int32) (a3 : Int64) (Q : (Int64) → (Nat → Int32) → (Nat → Int64) → Prop) : Prop := wp_X9_isSheet a1 (fun r1 => (r1 = 0 → wp_X9_found fd (-1000000001) (fun r9 c9_0 => Q ((r9).toInt64) c9_0 nu)) ∧ (¬ (r1 = 0) → vp_in a1 4 ∧ (wp_X7_isMissing bi (fun r3 => (r3 = 0 → wp_X9_isWithin a2 0 (le - 1) (fun r4 => (r4 = 0 → wp_X9_found fd (-1000000001) (fun r7 c7_0 => Q ((r7).toInt64) c7_0 nu)) ∧ (¬ (r4 = 0) → vp_in a2 40 ∧ (wp_X7_put nu bi a2 a3 (fun c6_0 => Q (nu (a2.toNatClampNeg)) fd c6_0))))) ∧ (¬ (r3 = 0) → wp_X9_found fd (-1000000006) (fun r8 c8_0 => Q ((r8).toInt64) c8_0 nu))))))
set_option maxRecDepth 100000 in
set_option maxHeartbeats 8000000 in
theorem c_X9_write {l : Launch} {D : va_G} {ca : Nat → ClassId} {sd : Nat → Nat}  (aF : Nat → Nat) (aL : Nat → Nat) (aT : Nat → Nat) (aK : Nat → Nat) (nd : Nat → Nat) (tp : Nat → Nat) (sb : Nat → Nat) (sn : Nat → Nat) (j : Nat) (fd : Nat → Int32) (ik : Int32) (nu : Nat → Int64) (bi : Int32) (le : Int32)  (a1 : Int32) (a2 : Int32) (a3 : Int64) (hj : vp_in a1 4 → a1.toNatClampNeg = j) {Q : (Int64) → (Nat → Int32) → (Nat → Int64) → Prop} (hw : wp_X9_write fd nu bi le  a1 a2 a3 Q) : Cn l D ca sd yX9_write cX9_write 8 (some .long) { frames := 2, cells := 0, slots := 0, locals := 44 } [.ref (aF 0), .int a1, .int a2, .long a3] ((wD ca (aF 2) fd) ++ ((wF (aF 0) (aL 0) (aT 0) (aK 0) (tp 0) (aF 1) (aF 2) ik) ++ ((wA ca (aF 1) sb) ++ (wS ca (sb j) (sn j) nu bi le)))) ((wD ca (aF 2) fd) ++ ((wF (aF 0) (aL 0) (aT 0) (aK 0) (tp 0) (aF 1) (aF 2) ik) ++ ((wA ca (aF 1) sb) ++ (wS ca (sb j) (sn j) nu bi le)))) 0 0 (Rl D (fun (r : Int64) (u : (Nat → Int32) × (Nat → Int64)) => Q r u.1 u.2) (fun u => ((wD ca (aF 2) u.1) ++ ((wF (aF 0) (aL 0) (aT 0) (aK 0) (tp 0) (aF 1) (aF 2) ik) ++ ((wA ca (aF 1) sb) ++ (wS ca (sb j) (sn j) u.2 bi le)))))) := by
  refine cn_of (by decide) (Nat.le_of_ble_eq_true rfl) (fun k C hR hB _ => ?_)
  have C : Cx D ca sd cX9_write RX9 (some .long) { frames := 2, cells := 0, slots := 0, locals := 44 } k 8 := C
  unfold wp_X9_write at hw
  show J l D k 8 0 0 0 ((wD ca (aF 2) fd) ++ ((wF (aF 0) (aL 0) (aT 0) (aK 0) (tp 0) (aF 1) (aF 2) ik) ++ ((wA ca (aF 1) sb) ++ (wS ca (sb j) (sn j) nu bi le)))) [(0, .ref (aF 0)), (1, .int a1), (2, .int a2), (3, .long a3)] []
  refine j_iload_n C 1 dX9_write_0 rfl ?_
  refine j_ciZ C (jr_S C lkS_X9_230 (c_X9_isSheet a1 hw) ⟨rfl, rfl, by decide, by decide, by decide, by decide⟩ [] (by decide) rfl (fx_ro C) rfl rfl (Nat.le_of_ble_eq_true rfl) dX9_write_1) (fun r1 u1 hw => ?_)
  refine j_if_ne C 15 dX9_write_4 (by decide) (fun z => ?_) (fun z => ?_)
  · replace hw := hw.2 z
    refine j_aload_n C 0 dX9_write_15 rfl ?_
    refine j_get C fl_X9_69_9 1 dX9_write_16 rfl rfl ?_
    refine j_iload_n C 1 dX9_write_19 rfl ?_
    have hi2 := hw.1
    replace hw := hw.2
    refine j_aald C (E := "UnfinishedFair$Sheet") 2 dX9_write_20 rfl rfl hi2 (congrArg (fun z => some (sb z)) (hj hi2)) ?_
    refine j_astore C [(5, .ref (sb j)), (0, .ref (aF 0)), (1, .int a1), (2, .int a2), (3, .long a3)] dX9_write_21 (by decide) rfl ?_
    refine j_aload C 0 dX9_write_23 rfl ?_
    refine j_ciZ C (jr_V C lkV_X9_241 (c_X7_isMissing (sb j) (sn j) nu bi le hw) ⟨rfl, rfl, by decide, by decide, by decide, by decide⟩ [3, 4] (by decide) rfl (fx_ro C) 3 7 rfl rfl rfl rfl (Nat.le_of_ble_eq_true rfl) dX9_write_25) (fun r3 u3 hw => ?_)
    refine j_if_eq C 39 dX9_write_28 (by decide) (fun z => ?_) (fun z => ?_)
    · replace hw := hw.1 z
      refine j_iload_n C 3 dX9_write_39 rfl ?_
      refine j_iconst C 0 dX9_write_40 (by decide) ?_
      refine j_aload C 0 dX9_write_41 rfl ?_
      refine j_get C fl_X9_240_7 3 dX9_write_43 rfl rfl ?_
      refine j_iconst C 1 dX9_write_46 (by decide) ?_
      refine j_isub C dX9_write_47 ?_
      refine j_ciZ C (jr_S C lkS_X9_87 (c_X9_isWithin a2 0 (le - 1) hw) ⟨rfl, rfl, by decide, by decide, by decide, by decide⟩ [] (by decide) rfl (fx_ro C) rfl rfl (Nat.le_of_ble_eq_true rfl) dX9_write_48) (fun r4 u4 hw => ?_)
      refine j_if_ne C 62 dX9_write_51 (by decide) (fun z => ?_) (fun z => ?_)
      · replace hw := hw.2 z
        refine j_aload C 0 dX9_write_62 rfl ?_
        refine j_get C fl_X9_245_7 3 dX9_write_64 rfl rfl ?_
        refine j_iload_n C 3 dX9_write_67 rfl ?_
        have hi5 := hw.1
        replace hw := hw.2
        refine j_lald C 4 dX9_write_68 rfl hi5 ?_
        refine j_lstore C [(6, .long (nu (a2.toNatClampNeg))), (5, .ref (sb j)), (0, .ref (aF 0)), (1, .int a1), (2, .int a2), (3, .long a3)] dX9_write_69 (by decide) rfl ?_
        refine j_aload C 1 dX9_write_71 rfl ?_
        refine j_iload_n C 4 dX9_write_73 rfl ?_
        refine j_lload_n C 5 dX9_write_74 rfl ?_
        refine j_cvT C hB 3 5 (fun u6 : (Nat → Int64) => ((wD ca (aF 2) fd) ++ ((wF (aF 0) (aL 0) (aT 0) (aK 0) (tp 0) (aF 1) (aF 2) ik) ++ ((wA ca (aF 1) sb) ++ (wS ca (sb j) (sn j) u6 bi le))))) rfl (fun _ => rfl) (jr_V C lkV_X9_249 (c_X7_put (sb j) (sn j) nu bi le a2 a3 hw) ⟨rfl, rfl, by decide, by decide, by decide, by decide⟩ [3, 4] (by decide) rfl (fx_rw C hB [3, 4] rfl) 3 7 rfl rfl rfl rfl (Nat.le_of_ble_eq_true rfl) dX9_write_75) (fun u6 hw => ?_)
        refine j_lload C 0 dX9_write_78 rfl ?_
        exact j_lret C hB hR (fd, u6) rfl dX9_write_80 hw rfl
      · replace hw := hw.1 z
        refine j_aload_n C 1 dX9_write_54 rfl ?_
        refine j_ldc C dX9_write_55 ct_X9_82 ?_
        refine j_ciT C hB 0 2 (fun u7 : (Nat → Int32) => ((wD ca (aF 2) u7) ++ ((wF (aF 0) (aL 0) (aT 0) (aK 0) (tp 0) (aF 1) (aF 2) ik) ++ ((wA ca (aF 1) sb) ++ (wS ca (sb j) (sn j) nu bi le))))) rfl (fun _ => rfl) (jr_V C lkV_X9_83 (c_X9_found aF aL aT aK nd tp fd ik (-1000000001) hw) ⟨rfl, rfl, by decide, by decide, by decide, by decide⟩ [0, 1] (by decide) rfl (fx_rw C hB [0, 1] rfl) 1 9 rfl rfl rfl rfl (Nat.le_of_ble_eq_true rfl) dX9_write_57) (fun r7 u7 hw => ?_)
        refine j_i2l C dX9_write_60 ?_
        exact j_lret C hB hR (u7, nu) rfl dX9_write_61 hw rfl
    · replace hw := hw.2 z
      refine j_aload_n C 1 dX9_write_31 rfl ?_
      refine j_ldc C dX9_write_32 ct_X9_244 ?_
      refine j_ciT C hB 0 2 (fun u8 : (Nat → Int32) => ((wD ca (aF 2) u8) ++ ((wF (aF 0) (aL 0) (aT 0) (aK 0) (tp 0) (aF 1) (aF 2) ik) ++ ((wA ca (aF 1) sb) ++ (wS ca (sb j) (sn j) nu bi le))))) rfl (fun _ => rfl) (jr_V C lkV_X9_83 (c_X9_found aF aL aT aK nd tp fd ik (-1000000006) hw) ⟨rfl, rfl, by decide, by decide, by decide, by decide⟩ [0, 1] (by decide) rfl (fx_rw C hB [0, 1] rfl) 1 9 rfl rfl rfl rfl (Nat.le_of_ble_eq_true rfl) dX9_write_34) (fun r8 u8 hw => ?_)
      refine j_i2l C dX9_write_37 ?_
      exact j_lret C hB hR (u8, nu) rfl dX9_write_38 hw rfl
  · replace hw := hw.1 z
    refine j_aload_n C 0 dX9_write_7 rfl ?_
    refine j_ldc C dX9_write_8 ct_X9_82 ?_
    refine j_ciT C hB 0 2 (fun u9 : (Nat → Int32) => ((wD ca (aF 2) u9) ++ ((wF (aF 0) (aL 0) (aT 0) (aK 0) (tp 0) (aF 1) (aF 2) ik) ++ ((wA ca (aF 1) sb) ++ (wS ca (sb j) (sn j) nu bi le))))) rfl (fun _ => rfl) (jr_V C lkV_X9_83 (c_X9_found aF aL aT aK nd tp fd ik (-1000000001) hw) ⟨rfl, rfl, by decide, by decide, by decide, by decide⟩ [0, 1] (by decide) rfl (fx_rw C hB [0, 1] rfl) 1 9 rfl rfl rfl rfl (Nat.le_of_ble_eq_true rfl) dX9_write_10) (fun r9 u9 hw => ?_)
    refine j_i2l C dX9_write_13 ?_
    exact j_lret C hB hR (u9, nu) rfl dX9_write_14 hw rfl
def wp_X9_copyN (fd : Nat → Int32) (nu : Nat → Int64) (bi : Int32) (le : Int32) (qnu : Nat → Int64) (qbi : Int32) (qle : Int32)  (a1 : Int32) (a2 : Int32) (a3 : Int32) (a4 : Int32) (a5 : Int32) (Q : (Int32) → (Nat → Int32) → (Nat → Int64) → Prop) : Prop := wp_X9_isSheet a1 (fun r1 => (r1 = 0 → wp_X9_found fd (-1000000001) (fun r2 c2_0 => Q r2 c2_0 qnu)) ∧ (¬ (r1 = 0) → wp_X9_isSheet a3 (fun r3 => (r3 = 0 → wp_X9_found fd (-1000000001) (fun r16 c16_0 => Q r16 c16_0 qnu)) ∧ (¬ (r3 = 0) → vp_in a1 4 ∧ (vp_in a3 4 ∧ (wp_X7_isMissing bi (fun r6 => (r6 = 0 → wp_X7_isMissing qbi (fun r8 => (r8 = 0 → (bi = qbi → wp_X7_hasSpan le a2 a5 (fun r9 => (r9 = 0 → wp_X9_found fd (-1000000001) (fun r10 c10_0 => Q r10 c10_0 qnu)) ∧ (¬ (r9 = 0) → wp_X7_hasSpan qle a4 a5 (fun r11 => (r11 = 0 → wp_X9_found fd (-1000000001) (fun r13 c13_0 => Q r13 c13_0 qnu)) ∧ (¬ (r11 = 0) → (¬ a2 < 0 ∧ ¬ a4 < 0 ∧ ¬ a5 < 0 ∧ (a2.toNatClampNeg) + (a5.toNatClampNeg) ≤ 40 ∧ (a4.toNatClampNeg) + (a5.toNatClampNeg) ≤ 40) ∧ (Q a5 fd (va_cpy nu qnu (a2.toNatClampNeg) (a4.toNatClampNeg) (a5.toNatClampNeg)))))))) ∧ (¬ (bi = qbi) → wp_X9_found fd (-1000000003) (fun r14 c14_0 => Q r14 c14_0 qnu))) ∧ (¬ (r8 = 0) → wp_X9_found fd (-1000000006) (fun r15 c15_0 => Q r15 c15_0 qnu)))) ∧ (¬ (r6 = 0) → wp_X9_found fd (-1000000006) (fun r7 c7_0 => Q r7 c7_0 qnu)))))))))
set_option maxRecDepth 100000 in
set_option maxHeartbeats 8000000 in
theorem c_X9_copyN {l : Launch} {D : va_G} {ca : Nat → ClassId} {sd : Nat → Nat}  (aF : Nat → Nat) (aL : Nat → Nat) (aT : Nat → Nat) (aK : Nat → Nat) (nd : Nat → Nat) (tp : Nat → Nat) (sb : Nat → Nat) (sn : Nat → Nat) (j : Nat) (j2 : Nat) (fd : Nat → Int32) (ik : Int32) (nu : Nat → Int64) (bi : Int32) (le : Int32) (qnu : Nat → Int64) (qbi : Int32) (qle : Int32)  (a1 : Int32) (a2 : Int32) (a3 : Int32) (a4 : Int32) (a5 : Int32) (hj : vp_in a1 4 → a1.toNatClampNeg = j) (hj2 : vp_in a3 4 → a3.toNatClampNeg = j2) {Q : (Int32) → (Nat → Int32) → (Nat → Int64) → Prop} (hw : wp_X9_copyN fd nu bi le qnu qbi qle  a1 a2 a3 a4 a5 Q) : Cn l D ca sd yX9_copy cX9_copy 8 (some .int) { frames := 2, cells := 0, slots := 0, locals := 60 } [.ref (aF 0), .int a1, .int a2, .int a3, .int a4, .int a5] ((wD ca (aF 2) fd) ++ ((wF (aF 0) (aL 0) (aT 0) (aK 0) (tp 0) (aF 1) (aF 2) ik) ++ ((wA ca (aF 1) sb) ++ ((wS ca (sb j) (sn j) nu bi le) ++ (wS ca (sb j2) (sn j2) qnu qbi qle))))) ((wD ca (aF 2) fd) ++ ((wF (aF 0) (aL 0) (aT 0) (aK 0) (tp 0) (aF 1) (aF 2) ik) ++ ((wA ca (aF 1) sb) ++ ((wS ca (sb j) (sn j) nu bi le) ++ (wS ca (sb j2) (sn j2) qnu qbi qle))))) 0 0 (Ri D (fun (r : Int32) (u : (Nat → Int32) × (Nat → Int64)) => Q r u.1 u.2) (fun u => ((wD ca (aF 2) u.1) ++ ((wF (aF 0) (aL 0) (aT 0) (aK 0) (tp 0) (aF 1) (aF 2) ik) ++ ((wA ca (aF 1) sb) ++ ((wS ca (sb j) (sn j) nu bi le) ++ (wS ca (sb j2) (sn j2) u.2 qbi qle))))))) := by
  refine cn_of (by decide) (Nat.le_of_ble_eq_true rfl) (fun k C hR hB _ => ?_)
  have C : Cx D ca sd cX9_copy RX9 (some .int) { frames := 2, cells := 0, slots := 0, locals := 60 } k 8 := C
  unfold wp_X9_copyN at hw
  show J l D k 8 0 0 0 ((wD ca (aF 2) fd) ++ ((wF (aF 0) (aL 0) (aT 0) (aK 0) (tp 0) (aF 1) (aF 2) ik) ++ ((wA ca (aF 1) sb) ++ ((wS ca (sb j) (sn j) nu bi le) ++ (wS ca (sb j2) (sn j2) qnu qbi qle))))) [(0, .ref (aF 0)), (1, .int a1), (2, .int a2), (3, .int a3), (4, .int a4), (5, .int a5)] []
  refine j_iload_n C 1 dX9_copy_0 rfl ?_
  refine j_ciZ C (jr_S C lkS_X9_230 (c_X9_isSheet a1 hw) ⟨rfl, rfl, by decide, by decide, by decide, by decide⟩ [] (by decide) rfl (fx_ro C) rfl rfl (Nat.le_of_ble_eq_true rfl) dX9_copy_1) (fun r1 u1 hw => ?_)
  refine j_if_eq C 14 dX9_copy_4 (by decide) (fun z => ?_) (fun z => ?_)
  · replace hw := hw.1 z
    refine j_aload_n C 0 dX9_copy_14 rfl ?_
    refine j_ldc C dX9_copy_15 ct_X9_82 ?_
    refine j_ciT C hB 0 2 (fun u2 : (Nat → Int32) => ((wD ca (aF 2) u2) ++ ((wF (aF 0) (aL 0) (aT 0) (aK 0) (tp 0) (aF 1) (aF 2) ik) ++ ((wA ca (aF 1) sb) ++ ((wS ca (sb j) (sn j) nu bi le) ++ (wS ca (sb j2) (sn j2) qnu qbi qle)))))) rfl (fun _ => rfl) (jr_V C lkV_X9_83 (c_X9_found aF aL aT aK nd tp fd ik (-1000000001) hw) ⟨rfl, rfl, by decide, by decide, by decide, by decide⟩ [0, 1] (by decide) rfl (fx_rw C hB [0, 1] rfl) 1 9 rfl rfl rfl rfl (Nat.le_of_ble_eq_true rfl) dX9_copy_17) (fun r2 u2 hw => ?_)
    exact j_iret C hB hR (u2, qnu) rfl dX9_copy_20 hw rfl
  · replace hw := hw.2 z
    refine j_iload_n C 3 dX9_copy_7 rfl ?_
    refine j_ciZ C (jr_S C lkS_X9_230 (c_X9_isSheet a3 hw) ⟨rfl, rfl, by decide, by decide, by decide, by decide⟩ [] (by decide) rfl (fx_ro C) rfl rfl (Nat.le_of_ble_eq_true rfl) dX9_copy_8) (fun r3 u3 hw => ?_)
    refine j_if_ne C 21 dX9_copy_11 (by decide) (fun z => ?_) (fun z => ?_)
    · replace hw := hw.2 z
      refine j_aload_n C 0 dX9_copy_21 rfl ?_
      refine j_get C fl_X9_69_9 1 dX9_copy_22 rfl rfl ?_
      refine j_iload_n C 1 dX9_copy_25 rfl ?_
      have hi4 := hw.1
      replace hw := hw.2
      refine j_aald C (E := "UnfinishedFair$Sheet") 2 dX9_copy_26 rfl rfl hi4 (congrArg (fun z => some (sb z)) (hj hi4)) ?_
      refine j_astore C [(6, .ref (sb j)), (0, .ref (aF 0)), (1, .int a1), (2, .int a2), (3, .int a3), (4, .int a4), (5, .int a5)] dX9_copy_27 (by decide) rfl ?_
      refine j_aload_n C 1 dX9_copy_29 rfl ?_
      refine j_get C fl_X9_69_9 1 dX9_copy_30 rfl rfl ?_
      refine j_iload_n C 4 dX9_copy_33 rfl ?_
      have hi5 := hw.1
      replace hw := hw.2
      refine j_aald C (E := "UnfinishedFair$Sheet") 2 dX9_copy_34 rfl rfl hi5 (congrArg (fun z => some (sb z)) (hj2 hi5)) ?_
      refine j_astore C [(7, .ref (sb j2)), (6, .ref (sb j)), (0, .ref (aF 0)), (1, .int a1), (2, .int a2), (3, .int a3), (4, .int a4), (5, .int a5)] dX9_copy_35 (by decide) rfl ?_
      refine j_aload C 1 dX9_copy_37 rfl ?_
      refine j_ciZ C (jr_V C lkV_X9_241 (c_X7_isMissing (sb j) (sn j) nu bi le hw) ⟨rfl, rfl, by decide, by decide, by decide, by decide⟩ [3, 4] (by decide) rfl (fx_ro C) 3 7 rfl rfl rfl rfl (Nat.le_of_ble_eq_true rfl) dX9_copy_39) (fun r6 u6 hw => ?_)
      refine j_if_ne C 53 dX9_copy_42 (by decide) (fun z => ?_) (fun z => ?_)
      · replace hw := hw.2 z
        refine j_aload_n C 2 dX9_copy_53 rfl ?_
        refine j_ldc C dX9_copy_54 ct_X9_244 ?_
        refine j_ciT C hB 0 2 (fun u7 : (Nat → Int32) => ((wD ca (aF 2) u7) ++ ((wF (aF 0) (aL 0) (aT 0) (aK 0) (tp 0) (aF 1) (aF 2) ik) ++ ((wA ca (aF 1) sb) ++ ((wS ca (sb j) (sn j) nu bi le) ++ (wS ca (sb j2) (sn j2) qnu qbi qle)))))) rfl (fun _ => rfl) (jr_V C lkV_X9_83 (c_X9_found aF aL aT aK nd tp fd ik (-1000000006) hw) ⟨rfl, rfl, by decide, by decide, by decide, by decide⟩ [0, 1] (by decide) rfl (fx_rw C hB [0, 1] rfl) 1 9 rfl rfl rfl rfl (Nat.le_of_ble_eq_true rfl) dX9_copy_56) (fun r7 u7 hw => ?_)
        exact j_iret C hB hR (u7, qnu) rfl dX9_copy_59 hw rfl
      · replace hw := hw.1 z
        refine j_aload C 0 dX9_copy_45 rfl ?_
        refine j_ciZ C (jr_V C lkV_X9_241 (c_X7_isMissing (sb j2) (sn j2) qnu qbi qle hw) ⟨rfl, rfl, by decide, by decide, by decide, by decide⟩ [5, 6] (by decide) rfl (fx_ro C) 5 7 rfl rfl rfl rfl (Nat.le_of_ble_eq_true rfl) dX9_copy_47) (fun r8 u8 hw => ?_)
        refine j_if_eq C 60 dX9_copy_50 (by decide) (fun z => ?_) (fun z => ?_)
        · replace hw := hw.1 z
          refine j_aload C 1 dX9_copy_60 rfl ?_
          refine j_get C fl_X9_253_7 3 dX9_copy_62 rfl rfl ?_
          refine j_aload C 0 dX9_copy_65 rfl ?_
          refine j_get C fl_X9_253_7 5 dX9_copy_67 rfl rfl ?_
          refine j_icmp_eq C 80 dX9_copy_70 (by decide) (fun z => ?_) (fun z => ?_)
          · replace hw := hw.1 z
            refine j_aload C 1 dX9_copy_80 rfl ?_
            refine j_iload_n C 4 dX9_copy_82 rfl ?_
            refine j_iload C 7 dX9_copy_83 rfl ?_
            refine j_ciZ C (jr_V C lkV_X9_256 (c_X7_hasSpan (sb j) (sn j) nu bi le a2 a5 hw) ⟨rfl, rfl, by decide, by decide, by decide, by decide⟩ [3, 4] (by decide) rfl (fx_ro C) 3 7 rfl rfl rfl rfl (Nat.le_of_ble_eq_true rfl) dX9_copy_85) (fun r9 u9 hw => ?_)
            refine j_if_eq C 103 dX9_copy_88 (by decide) (fun z => ?_) (fun z => ?_)
            · replace hw := hw.1 z
              refine j_aload_n C 2 dX9_copy_103 rfl ?_
              refine j_ldc C dX9_copy_104 ct_X9_82 ?_
              refine j_ciT C hB 0 2 (fun u10 : (Nat → Int32) => ((wD ca (aF 2) u10) ++ ((wF (aF 0) (aL 0) (aT 0) (aK 0) (tp 0) (aF 1) (aF 2) ik) ++ ((wA ca (aF 1) sb) ++ ((wS ca (sb j) (sn j) nu bi le) ++ (wS ca (sb j2) (sn j2) qnu qbi qle)))))) rfl (fun _ => rfl) (jr_V C lkV_X9_83 (c_X9_found aF aL aT aK nd tp fd ik (-1000000001) hw) ⟨rfl, rfl, by decide, by decide, by decide, by decide⟩ [0, 1] (by decide) rfl (fx_rw C hB [0, 1] rfl) 1 9 rfl rfl rfl rfl (Nat.le_of_ble_eq_true rfl) dX9_copy_106) (fun r10 u10 hw => ?_)
              exact j_iret C hB hR (u10, qnu) rfl dX9_copy_109 hw rfl
            · replace hw := hw.2 z
              refine j_aload C 0 dX9_copy_91 rfl ?_
              refine j_iload C 6 dX9_copy_93 rfl ?_
              refine j_iload C 7 dX9_copy_95 rfl ?_
              refine j_ciZ C (jr_V C lkV_X9_256 (c_X7_hasSpan (sb j2) (sn j2) qnu qbi qle a4 a5 hw) ⟨rfl, rfl, by decide, by decide, by decide, by decide⟩ [5, 6] (by decide) rfl (fx_ro C) 5 7 rfl rfl rfl rfl (Nat.le_of_ble_eq_true rfl) dX9_copy_97) (fun r11 u11 hw => ?_)
              refine j_if_ne C 110 dX9_copy_100 (by decide) (fun z => ?_) (fun z => ?_)
              · replace hw := hw.2 z
                refine j_aload C 1 dX9_copy_110 rfl ?_
                refine j_get C fl_X9_245_7 3 dX9_copy_112 rfl rfl ?_
                refine j_iload_n C 4 dX9_copy_115 rfl ?_
                refine j_aload C 0 dX9_copy_116 rfl ?_
                refine j_get C fl_X9_245_7 5 dX9_copy_118 rfl rfl ?_
                refine j_iload C 6 dX9_copy_121 rfl ?_
                refine j_iload C 7 dX9_copy_123 rfl ?_
                have hi12 := hw.1
                replace hw := hw.2
                refine j_copyl C hB lc_X9_259 4 6 (a2.toNatClampNeg) (a4.toNatClampNeg) (a5.toNatClampNeg) ((wD ca (aF 2) fd) ++ ((wF (aF 0) (aL 0) (aT 0) (aK 0) (tp 0) (aF 1) (aF 2) ik) ++ ((wA ca (aF 1) sb) ++ ((wS ca (sb j) (sn j) nu bi le) ++ (wS ca (sb j2) (sn j2) (va_cpy nu qnu (a2.toNatClampNeg) (a4.toNatClampNeg) (a5.toNatClampNeg)) qbi qle))))) rfl rfl hi12.1 hi12.2.1 hi12.2.2.1 rfl rfl rfl hi12.2.2.2.1 hi12.2.2.2.2 (by decide) (Nat.le_of_ble_eq_true rfl) dX9_copy_125 rfl ?_
                refine j_iload C 7 dX9_copy_128 rfl ?_
                exact j_iret C hB hR (fd, va_cpy nu qnu (a2.toNatClampNeg) (a4.toNatClampNeg) (a5.toNatClampNeg)) rfl dX9_copy_130 hw rfl
              · replace hw := hw.1 z
                refine j_aload_n C 2 dX9_copy_103 rfl ?_
                refine j_ldc C dX9_copy_104 ct_X9_82 ?_
                refine j_ciT C hB 0 2 (fun u13 : (Nat → Int32) => ((wD ca (aF 2) u13) ++ ((wF (aF 0) (aL 0) (aT 0) (aK 0) (tp 0) (aF 1) (aF 2) ik) ++ ((wA ca (aF 1) sb) ++ ((wS ca (sb j) (sn j) nu bi le) ++ (wS ca (sb j2) (sn j2) qnu qbi qle)))))) rfl (fun _ => rfl) (jr_V C lkV_X9_83 (c_X9_found aF aL aT aK nd tp fd ik (-1000000001) hw) ⟨rfl, rfl, by decide, by decide, by decide, by decide⟩ [0, 1] (by decide) rfl (fx_rw C hB [0, 1] rfl) 1 9 rfl rfl rfl rfl (Nat.le_of_ble_eq_true rfl) dX9_copy_106) (fun r13 u13 hw => ?_)
                exact j_iret C hB hR (u13, qnu) rfl dX9_copy_109 hw rfl
          · replace hw := hw.2 z
            refine j_aload_n C 2 dX9_copy_73 rfl ?_
            refine j_ldc C dX9_copy_74 ct_X9_169 ?_
            refine j_ciT C hB 0 2 (fun u14 : (Nat → Int32) => ((wD ca (aF 2) u14) ++ ((wF (aF 0) (aL 0) (aT 0) (aK 0) (tp 0) (aF 1) (aF 2) ik) ++ ((wA ca (aF 1) sb) ++ ((wS ca (sb j) (sn j) nu bi le) ++ (wS ca (sb j2) (sn j2) qnu qbi qle)))))) rfl (fun _ => rfl) (jr_V C lkV_X9_83 (c_X9_found aF aL aT aK nd tp fd ik (-1000000003) hw) ⟨rfl, rfl, by decide, by decide, by decide, by decide⟩ [0, 1] (by decide) rfl (fx_rw C hB [0, 1] rfl) 1 9 rfl rfl rfl rfl (Nat.le_of_ble_eq_true rfl) dX9_copy_76) (fun r14 u14 hw => ?_)
            exact j_iret C hB hR (u14, qnu) rfl dX9_copy_79 hw rfl
        · replace hw := hw.2 z
          refine j_aload_n C 2 dX9_copy_53 rfl ?_
          refine j_ldc C dX9_copy_54 ct_X9_244 ?_
          refine j_ciT C hB 0 2 (fun u15 : (Nat → Int32) => ((wD ca (aF 2) u15) ++ ((wF (aF 0) (aL 0) (aT 0) (aK 0) (tp 0) (aF 1) (aF 2) ik) ++ ((wA ca (aF 1) sb) ++ ((wS ca (sb j) (sn j) nu bi le) ++ (wS ca (sb j2) (sn j2) qnu qbi qle)))))) rfl (fun _ => rfl) (jr_V C lkV_X9_83 (c_X9_found aF aL aT aK nd tp fd ik (-1000000006) hw) ⟨rfl, rfl, by decide, by decide, by decide, by decide⟩ [0, 1] (by decide) rfl (fx_rw C hB [0, 1] rfl) 1 9 rfl rfl rfl rfl (Nat.le_of_ble_eq_true rfl) dX9_copy_56) (fun r15 u15 hw => ?_)
          exact j_iret C hB hR (u15, qnu) rfl dX9_copy_59 hw rfl
    · replace hw := hw.1 z
      refine j_aload_n C 0 dX9_copy_14 rfl ?_
      refine j_ldc C dX9_copy_15 ct_X9_82 ?_
      refine j_ciT C hB 0 2 (fun u16 : (Nat → Int32) => ((wD ca (aF 2) u16) ++ ((wF (aF 0) (aL 0) (aT 0) (aK 0) (tp 0) (aF 1) (aF 2) ik) ++ ((wA ca (aF 1) sb) ++ ((wS ca (sb j) (sn j) nu bi le) ++ (wS ca (sb j2) (sn j2) qnu qbi qle)))))) rfl (fun _ => rfl) (jr_V C lkV_X9_83 (c_X9_found aF aL aT aK nd tp fd ik (-1000000001) hw) ⟨rfl, rfl, by decide, by decide, by decide, by decide⟩ [0, 1] (by decide) rfl (fx_rw C hB [0, 1] rfl) 1 9 rfl rfl rfl rfl (Nat.le_of_ble_eq_true rfl) dX9_copy_17) (fun r16 u16 hw => ?_)
      exact j_iret C hB hR (u16, qnu) rfl dX9_copy_20 hw rfl
def wp_X9_copyE (fd : Nat → Int32) (nu : Nat → Int64) (bi : Int32) (le : Int32)  (a1 : Int32) (a2 : Int32) (a3 : Int32) (a4 : Int32) (a5 : Int32) (Q : (Int32) → (Nat → Int32) → (Nat → Int64) → Prop) : Prop := wp_X9_isSheet a1 (fun r1 => (r1 = 0 → wp_X9_found fd (-1000000001) (fun r2 c2_0 => Q r2 c2_0 nu)) ∧ (¬ (r1 = 0) → wp_X9_isSheet a3 (fun r3 => (r3 = 0 → wp_X9_found fd (-1000000001) (fun r16 c16_0 => Q r16 c16_0 nu)) ∧ (¬ (r3 = 0) → vp_in a1 4 ∧ (vp_in a3 4 ∧ (wp_X7_isMissing bi (fun r6 => (r6 = 0 → wp_X7_isMissing bi (fun r8 => (r8 = 0 → (bi = bi → wp_X7_hasSpan le a2 a5 (fun r9 => (r9 = 0 → wp_X9_found fd (-1000000001) (fun r10 c10_0 => Q r10 c10_0 nu)) ∧ (¬ (r9 = 0) → wp_X7_hasSpan le a4 a5 (fun r11 => (r11 = 0 → wp_X9_found fd (-1000000001) (fun r13 c13_0 => Q r13 c13_0 nu)) ∧ (¬ (r11 = 0) → (¬ a2 < 0 ∧ ¬ a4 < 0 ∧ ¬ a5 < 0 ∧ (a2.toNatClampNeg) + (a5.toNatClampNeg) ≤ 40 ∧ (a4.toNatClampNeg) + (a5.toNatClampNeg) ≤ 40) ∧ (Q a5 fd (va_cpy nu nu (a2.toNatClampNeg) (a4.toNatClampNeg) (a5.toNatClampNeg)))))))) ∧ (¬ (bi = bi) → wp_X9_found fd (-1000000003) (fun r14 c14_0 => Q r14 c14_0 nu))) ∧ (¬ (r8 = 0) → wp_X9_found fd (-1000000006) (fun r15 c15_0 => Q r15 c15_0 nu)))) ∧ (¬ (r6 = 0) → wp_X9_found fd (-1000000006) (fun r7 c7_0 => Q r7 c7_0 nu)))))))))
set_option maxRecDepth 100000 in
set_option maxHeartbeats 8000000 in
theorem c_X9_copyE {l : Launch} {D : va_G} {ca : Nat → ClassId} {sd : Nat → Nat}  (aF : Nat → Nat) (aL : Nat → Nat) (aT : Nat → Nat) (aK : Nat → Nat) (nd : Nat → Nat) (tp : Nat → Nat) (sb : Nat → Nat) (sn : Nat → Nat) (j : Nat) (fd : Nat → Int32) (ik : Int32) (nu : Nat → Int64) (bi : Int32) (le : Int32)  (a1 : Int32) (a2 : Int32) (a3 : Int32) (a4 : Int32) (a5 : Int32) (hj : vp_in a1 4 → a1.toNatClampNeg = j) (hj2 : vp_in a3 4 → a3.toNatClampNeg = j) {Q : (Int32) → (Nat → Int32) → (Nat → Int64) → Prop} (hw : wp_X9_copyE fd nu bi le  a1 a2 a3 a4 a5 Q) : Cn l D ca sd yX9_copy cX9_copy 8 (some .int) { frames := 2, cells := 0, slots := 0, locals := 60 } [.ref (aF 0), .int a1, .int a2, .int a3, .int a4, .int a5] ((wD ca (aF 2) fd) ++ ((wF (aF 0) (aL 0) (aT 0) (aK 0) (tp 0) (aF 1) (aF 2) ik) ++ ((wA ca (aF 1) sb) ++ (wS ca (sb j) (sn j) nu bi le)))) ((wD ca (aF 2) fd) ++ ((wF (aF 0) (aL 0) (aT 0) (aK 0) (tp 0) (aF 1) (aF 2) ik) ++ ((wA ca (aF 1) sb) ++ (wS ca (sb j) (sn j) nu bi le)))) 0 0 (Ri D (fun (r : Int32) (u : (Nat → Int32) × (Nat → Int64)) => Q r u.1 u.2) (fun u => ((wD ca (aF 2) u.1) ++ ((wF (aF 0) (aL 0) (aT 0) (aK 0) (tp 0) (aF 1) (aF 2) ik) ++ ((wA ca (aF 1) sb) ++ (wS ca (sb j) (sn j) u.2 bi le)))))) := by
  refine cn_of (by decide) (Nat.le_of_ble_eq_true rfl) (fun k C hR hB _ => ?_)
  have C : Cx D ca sd cX9_copy RX9 (some .int) { frames := 2, cells := 0, slots := 0, locals := 60 } k 8 := C
  unfold wp_X9_copyE at hw
  show J l D k 8 0 0 0 ((wD ca (aF 2) fd) ++ ((wF (aF 0) (aL 0) (aT 0) (aK 0) (tp 0) (aF 1) (aF 2) ik) ++ ((wA ca (aF 1) sb) ++ (wS ca (sb j) (sn j) nu bi le)))) [(0, .ref (aF 0)), (1, .int a1), (2, .int a2), (3, .int a3), (4, .int a4), (5, .int a5)] []
  refine j_iload_n C 1 dX9_copy_0 rfl ?_
  refine j_ciZ C (jr_S C lkS_X9_230 (c_X9_isSheet a1 hw) ⟨rfl, rfl, by decide, by decide, by decide, by decide⟩ [] (by decide) rfl (fx_ro C) rfl rfl (Nat.le_of_ble_eq_true rfl) dX9_copy_1) (fun r1 u1 hw => ?_)
  refine j_if_eq C 14 dX9_copy_4 (by decide) (fun z => ?_) (fun z => ?_)
  · replace hw := hw.1 z
    refine j_aload_n C 0 dX9_copy_14 rfl ?_
    refine j_ldc C dX9_copy_15 ct_X9_82 ?_
    refine j_ciT C hB 0 2 (fun u2 : (Nat → Int32) => ((wD ca (aF 2) u2) ++ ((wF (aF 0) (aL 0) (aT 0) (aK 0) (tp 0) (aF 1) (aF 2) ik) ++ ((wA ca (aF 1) sb) ++ (wS ca (sb j) (sn j) nu bi le))))) rfl (fun _ => rfl) (jr_V C lkV_X9_83 (c_X9_found aF aL aT aK nd tp fd ik (-1000000001) hw) ⟨rfl, rfl, by decide, by decide, by decide, by decide⟩ [0, 1] (by decide) rfl (fx_rw C hB [0, 1] rfl) 1 9 rfl rfl rfl rfl (Nat.le_of_ble_eq_true rfl) dX9_copy_17) (fun r2 u2 hw => ?_)
    exact j_iret C hB hR (u2, nu) rfl dX9_copy_20 hw rfl
  · replace hw := hw.2 z
    refine j_iload_n C 3 dX9_copy_7 rfl ?_
    refine j_ciZ C (jr_S C lkS_X9_230 (c_X9_isSheet a3 hw) ⟨rfl, rfl, by decide, by decide, by decide, by decide⟩ [] (by decide) rfl (fx_ro C) rfl rfl (Nat.le_of_ble_eq_true rfl) dX9_copy_8) (fun r3 u3 hw => ?_)
    refine j_if_ne C 21 dX9_copy_11 (by decide) (fun z => ?_) (fun z => ?_)
    · replace hw := hw.2 z
      refine j_aload_n C 0 dX9_copy_21 rfl ?_
      refine j_get C fl_X9_69_9 1 dX9_copy_22 rfl rfl ?_
      refine j_iload_n C 1 dX9_copy_25 rfl ?_
      have hi4 := hw.1
      replace hw := hw.2
      refine j_aald C (E := "UnfinishedFair$Sheet") 2 dX9_copy_26 rfl rfl hi4 (congrArg (fun z => some (sb z)) (hj hi4)) ?_
      refine j_astore C [(6, .ref (sb j)), (0, .ref (aF 0)), (1, .int a1), (2, .int a2), (3, .int a3), (4, .int a4), (5, .int a5)] dX9_copy_27 (by decide) rfl ?_
      refine j_aload_n C 1 dX9_copy_29 rfl ?_
      refine j_get C fl_X9_69_9 1 dX9_copy_30 rfl rfl ?_
      refine j_iload_n C 4 dX9_copy_33 rfl ?_
      have hi5 := hw.1
      replace hw := hw.2
      refine j_aald C (E := "UnfinishedFair$Sheet") 2 dX9_copy_34 rfl rfl hi5 (congrArg (fun z => some (sb z)) (hj2 hi5)) ?_
      refine j_astore C [(7, .ref (sb j)), (6, .ref (sb j)), (0, .ref (aF 0)), (1, .int a1), (2, .int a2), (3, .int a3), (4, .int a4), (5, .int a5)] dX9_copy_35 (by decide) rfl ?_
      refine j_aload C 1 dX9_copy_37 rfl ?_
      refine j_ciZ C (jr_V C lkV_X9_241 (c_X7_isMissing (sb j) (sn j) nu bi le hw) ⟨rfl, rfl, by decide, by decide, by decide, by decide⟩ [3, 4] (by decide) rfl (fx_ro C) 3 7 rfl rfl rfl rfl (Nat.le_of_ble_eq_true rfl) dX9_copy_39) (fun r6 u6 hw => ?_)
      refine j_if_ne C 53 dX9_copy_42 (by decide) (fun z => ?_) (fun z => ?_)
      · replace hw := hw.2 z
        refine j_aload_n C 2 dX9_copy_53 rfl ?_
        refine j_ldc C dX9_copy_54 ct_X9_244 ?_
        refine j_ciT C hB 0 2 (fun u7 : (Nat → Int32) => ((wD ca (aF 2) u7) ++ ((wF (aF 0) (aL 0) (aT 0) (aK 0) (tp 0) (aF 1) (aF 2) ik) ++ ((wA ca (aF 1) sb) ++ (wS ca (sb j) (sn j) nu bi le))))) rfl (fun _ => rfl) (jr_V C lkV_X9_83 (c_X9_found aF aL aT aK nd tp fd ik (-1000000006) hw) ⟨rfl, rfl, by decide, by decide, by decide, by decide⟩ [0, 1] (by decide) rfl (fx_rw C hB [0, 1] rfl) 1 9 rfl rfl rfl rfl (Nat.le_of_ble_eq_true rfl) dX9_copy_56) (fun r7 u7 hw => ?_)
        exact j_iret C hB hR (u7, nu) rfl dX9_copy_59 hw rfl
      · replace hw := hw.1 z
        refine j_aload C 0 dX9_copy_45 rfl ?_
        refine j_ciZ C (jr_V C lkV_X9_241 (c_X7_isMissing (sb j) (sn j) nu bi le hw) ⟨rfl, rfl, by decide, by decide, by decide, by decide⟩ [3, 4] (by decide) rfl (fx_ro C) 3 7 rfl rfl rfl rfl (Nat.le_of_ble_eq_true rfl) dX9_copy_47) (fun r8 u8 hw => ?_)
        refine j_if_eq C 60 dX9_copy_50 (by decide) (fun z => ?_) (fun z => ?_)
        · replace hw := hw.1 z
          refine j_aload C 1 dX9_copy_60 rfl ?_
          refine j_get C fl_X9_253_7 3 dX9_copy_62 rfl rfl ?_
          refine j_aload C 0 dX9_copy_65 rfl ?_
          refine j_get C fl_X9_253_7 3 dX9_copy_67 rfl rfl ?_
          refine j_icmp_eq C 80 dX9_copy_70 (by decide) (fun z => ?_) (fun z => ?_)
          · replace hw := hw.1 z
            refine j_aload C 1 dX9_copy_80 rfl ?_
            refine j_iload_n C 4 dX9_copy_82 rfl ?_
            refine j_iload C 7 dX9_copy_83 rfl ?_
            refine j_ciZ C (jr_V C lkV_X9_256 (c_X7_hasSpan (sb j) (sn j) nu bi le a2 a5 hw) ⟨rfl, rfl, by decide, by decide, by decide, by decide⟩ [3, 4] (by decide) rfl (fx_ro C) 3 7 rfl rfl rfl rfl (Nat.le_of_ble_eq_true rfl) dX9_copy_85) (fun r9 u9 hw => ?_)
            refine j_if_eq C 103 dX9_copy_88 (by decide) (fun z => ?_) (fun z => ?_)
            · replace hw := hw.1 z
              refine j_aload_n C 2 dX9_copy_103 rfl ?_
              refine j_ldc C dX9_copy_104 ct_X9_82 ?_
              refine j_ciT C hB 0 2 (fun u10 : (Nat → Int32) => ((wD ca (aF 2) u10) ++ ((wF (aF 0) (aL 0) (aT 0) (aK 0) (tp 0) (aF 1) (aF 2) ik) ++ ((wA ca (aF 1) sb) ++ (wS ca (sb j) (sn j) nu bi le))))) rfl (fun _ => rfl) (jr_V C lkV_X9_83 (c_X9_found aF aL aT aK nd tp fd ik (-1000000001) hw) ⟨rfl, rfl, by decide, by decide, by decide, by decide⟩ [0, 1] (by decide) rfl (fx_rw C hB [0, 1] rfl) 1 9 rfl rfl rfl rfl (Nat.le_of_ble_eq_true rfl) dX9_copy_106) (fun r10 u10 hw => ?_)
              exact j_iret C hB hR (u10, nu) rfl dX9_copy_109 hw rfl
            · replace hw := hw.2 z
              refine j_aload C 0 dX9_copy_91 rfl ?_
              refine j_iload C 6 dX9_copy_93 rfl ?_
              refine j_iload C 7 dX9_copy_95 rfl ?_
              refine j_ciZ C (jr_V C lkV_X9_256 (c_X7_hasSpan (sb j) (sn j) nu bi le a4 a5 hw) ⟨rfl, rfl, by decide, by decide, by decide, by decide⟩ [3, 4] (by decide) rfl (fx_ro C) 3 7 rfl rfl rfl rfl (Nat.le_of_ble_eq_true rfl) dX9_copy_97) (fun r11 u11 hw => ?_)
              refine j_if_ne C 110 dX9_copy_100 (by decide) (fun z => ?_) (fun z => ?_)
              · replace hw := hw.2 z
                refine j_aload C 1 dX9_copy_110 rfl ?_
                refine j_get C fl_X9_245_7 3 dX9_copy_112 rfl rfl ?_
                refine j_iload_n C 4 dX9_copy_115 rfl ?_
                refine j_aload C 0 dX9_copy_116 rfl ?_
                refine j_get C fl_X9_245_7 3 dX9_copy_118 rfl rfl ?_
                refine j_iload C 6 dX9_copy_121 rfl ?_
                refine j_iload C 7 dX9_copy_123 rfl ?_
                have hi12 := hw.1
                replace hw := hw.2
                refine j_copyl C hB lc_X9_259 4 4 (a2.toNatClampNeg) (a4.toNatClampNeg) (a5.toNatClampNeg) ((wD ca (aF 2) fd) ++ ((wF (aF 0) (aL 0) (aT 0) (aK 0) (tp 0) (aF 1) (aF 2) ik) ++ ((wA ca (aF 1) sb) ++ (wS ca (sb j) (sn j) (va_cpy nu nu (a2.toNatClampNeg) (a4.toNatClampNeg) (a5.toNatClampNeg)) bi le)))) rfl rfl hi12.1 hi12.2.1 hi12.2.2.1 rfl rfl rfl hi12.2.2.2.1 hi12.2.2.2.2 (by decide) (Nat.le_of_ble_eq_true rfl) dX9_copy_125 rfl ?_
                refine j_iload C 7 dX9_copy_128 rfl ?_
                exact j_iret C hB hR (fd, va_cpy nu nu (a2.toNatClampNeg) (a4.toNatClampNeg) (a5.toNatClampNeg)) rfl dX9_copy_130 hw rfl
              · replace hw := hw.1 z
                refine j_aload_n C 2 dX9_copy_103 rfl ?_
                refine j_ldc C dX9_copy_104 ct_X9_82 ?_
                refine j_ciT C hB 0 2 (fun u13 : (Nat → Int32) => ((wD ca (aF 2) u13) ++ ((wF (aF 0) (aL 0) (aT 0) (aK 0) (tp 0) (aF 1) (aF 2) ik) ++ ((wA ca (aF 1) sb) ++ (wS ca (sb j) (sn j) nu bi le))))) rfl (fun _ => rfl) (jr_V C lkV_X9_83 (c_X9_found aF aL aT aK nd tp fd ik (-1000000001) hw) ⟨rfl, rfl, by decide, by decide, by decide, by decide⟩ [0, 1] (by decide) rfl (fx_rw C hB [0, 1] rfl) 1 9 rfl rfl rfl rfl (Nat.le_of_ble_eq_true rfl) dX9_copy_106) (fun r13 u13 hw => ?_)
                exact j_iret C hB hR (u13, nu) rfl dX9_copy_109 hw rfl
          · replace hw := hw.2 z
            refine j_aload_n C 2 dX9_copy_73 rfl ?_
            refine j_ldc C dX9_copy_74 ct_X9_169 ?_
            refine j_ciT C hB 0 2 (fun u14 : (Nat → Int32) => ((wD ca (aF 2) u14) ++ ((wF (aF 0) (aL 0) (aT 0) (aK 0) (tp 0) (aF 1) (aF 2) ik) ++ ((wA ca (aF 1) sb) ++ (wS ca (sb j) (sn j) nu bi le))))) rfl (fun _ => rfl) (jr_V C lkV_X9_83 (c_X9_found aF aL aT aK nd tp fd ik (-1000000003) hw) ⟨rfl, rfl, by decide, by decide, by decide, by decide⟩ [0, 1] (by decide) rfl (fx_rw C hB [0, 1] rfl) 1 9 rfl rfl rfl rfl (Nat.le_of_ble_eq_true rfl) dX9_copy_76) (fun r14 u14 hw => ?_)
            exact j_iret C hB hR (u14, nu) rfl dX9_copy_79 hw rfl
        · replace hw := hw.2 z
          refine j_aload_n C 2 dX9_copy_53 rfl ?_
          refine j_ldc C dX9_copy_54 ct_X9_244 ?_
          refine j_ciT C hB 0 2 (fun u15 : (Nat → Int32) => ((wD ca (aF 2) u15) ++ ((wF (aF 0) (aL 0) (aT 0) (aK 0) (tp 0) (aF 1) (aF 2) ik) ++ ((wA ca (aF 1) sb) ++ (wS ca (sb j) (sn j) nu bi le))))) rfl (fun _ => rfl) (jr_V C lkV_X9_83 (c_X9_found aF aL aT aK nd tp fd ik (-1000000006) hw) ⟨rfl, rfl, by decide, by decide, by decide, by decide⟩ [0, 1] (by decide) rfl (fx_rw C hB [0, 1] rfl) 1 9 rfl rfl rfl rfl (Nat.le_of_ble_eq_true rfl) dX9_copy_56) (fun r15 u15 hw => ?_)
          exact j_iret C hB hR (u15, nu) rfl dX9_copy_59 hw rfl
    · replace hw := hw.1 z
      refine j_aload_n C 0 dX9_copy_14 rfl ?_
      refine j_ldc C dX9_copy_15 ct_X9_82 ?_
      refine j_ciT C hB 0 2 (fun u16 : (Nat → Int32) => ((wD ca (aF 2) u16) ++ ((wF (aF 0) (aL 0) (aT 0) (aK 0) (tp 0) (aF 1) (aF 2) ik) ++ ((wA ca (aF 1) sb) ++ (wS ca (sb j) (sn j) nu bi le))))) rfl (fun _ => rfl) (jr_V C lkV_X9_83 (c_X9_found aF aL aT aK nd tp fd ik (-1000000001) hw) ⟨rfl, rfl, by decide, by decide, by decide, by decide⟩ [0, 1] (by decide) rfl (fx_rw C hB [0, 1] rfl) 1 9 rfl rfl rfl rfl (Nat.le_of_ble_eq_true rfl) dX9_copy_17) (fun r16 u16 hw => ?_)
      exact j_iret C hB hR (u16, nu) rfl dX9_copy_20 hw rfl
def wpl_X9_lays_40 (nu : Nat → Int64) (le : Int32) (K : (Int32) → (Int32) → (Nat → Int32) → Prop) : Nat → (Int32) → (Int32) → (Nat → Int32) → Prop
  | 0, _, _, _ => False
  | n + 1, x3, x4, lsk => (6 ≤ x4 → K x3 x4 lsk) ∧ (¬ (6 ≤ x4) → (le ≤ x4 → K x3 x4 lsk) ∧ (¬ (le ≤ x4) → vp_in x4 40 ∧ (((lg_cmp (nu (x4.toNatClampNeg)) 0) < 0 → wpl_X9_lays_40 nu le  K n x3 (x4 + 1) lsk) ∧ (¬ ((lg_cmp (nu (x4.toNatClampNeg)) 0) < 0) → (0 < (lg_cmp (nu (x4.toNatClampNeg)) 20) → wpl_X9_lays_40 nu le  K n x3 (x4 + 1) lsk) ∧ (¬ (0 < (lg_cmp (nu (x4.toNatClampNeg)) 20)) → vp_in x4 6 ∧ (wpl_X9_lays_40 nu le  K n (x3 + 1) (x4 + 1) (upd lsk (x4.toNatClampNeg) ((nu (x4.toNatClampNeg)).toInt32))))))))
def wp_X9_lays (fd : Nat → Int32) (lsk : Nat → Int32) (nu : Nat → Int64) (bi : Int32) (le : Int32)  (a1 : Int32) (Q : (Int32) → (Nat → Int32) → (Nat → Int32) → Prop) : Prop := wp_X9_isSheet a1 (fun r1 => (r1 = 0 → wp_X9_found fd (-1000000001) (fun r8 c8_0 => Q r8 c8_0 lsk)) ∧ (¬ (r1 = 0) → vp_in a1 4 ∧ (wp_X7_isMissing bi (fun r3 => (r3 = 0 → ∃ n6 : Nat, wpl_X9_lays_40 nu le  (fun y6_3 y6_4 y6_lsk => Q y6_3 fd y6_lsk) n6 0 0 lsk) ∧ (¬ (r3 = 0) → wp_X9_found fd (-1000000006) (fun r7 c7_0 => Q r7 c7_0 lsk))))))
set_option maxRecDepth 100000 in
set_option maxHeartbeats 8000000 in
theorem ml_X9_lays_40 {l : Launch} {D : va_G} {ca : Nat → ClassId} {sd : Nat → Nat}  {k : Kx} (aF : Nat → Nat) (aL : Nat → Nat) (aT : Nat → Nat) (aK : Nat → Nat) (nd : Nat → Nat) (tp : Nat → Nat) (sb : Nat → Nat) (sn : Nat → Nat) (j : Nat)  (fd : Nat → Int32) (ik : Int32) (lze : Nat → Int32) (lma : Nat → Int32) (lki : Nat → Int32) (ldn : Nat → Int32) (lwi : Nat → Int32) (ldu : Nat → Int32) (lhe : Nat → Int32) (lyr : Int32) (lsz : Int32) (nu : Nat → Int64) (bi : Int32) (le : Int32) (x1 : Int32) (C : Cx D ca sd cX9_lays RX9 (some .int) { frames := 2, cells := 0, slots := 0, locals := 44 } k 7) {Q : (Int32) → (Nat → Int32) → (Nat → Int32) → Prop} (hR : Rx (Ri D (fun (r : Int32) (u : (Nat → Int32) × (Nat → Int32)) => Q r u.1 u.2) (fun u => ((wD ca (aF 2) u.1) ++ ((wF (aF 0) (aL 0) (aT 0) (aK 0) (tp 0) (aF 1) (aF 2) ik) ++ ((wC ca aL (nd 0) u.2 lze lma lki ldn lwi ldu lhe lyr lsz) ++ ((wA ca (aF 1) sb) ++ (wS ca (sb j) (sn j) nu bi le))))))) 0 0 k) (hB : Wx k) {K : (Int32) → (Int32) → (Nat → Int32) → Prop} (hK : ∀ (x3' : Int32) (x4' : Int32) (lsk' : Nat → Int32), K x3' x4' lsk' → J l D k 7 0 0 103 ((wD ca (aF 2) fd) ++ ((wF (aF 0) (aL 0) (aT 0) (aK 0) (tp 0) (aF 1) (aF 2) ik) ++ ((wC ca aL (nd 0) lsk' lze lma lki ldn lwi ldu lhe lyr lsz) ++ ((wA ca (aF 1) sb) ++ (wS ca (sb j) (sn j) nu bi le))))) [(0, .ref (aF 0)), (1, .int x1), (2, .ref (sb j)), (3, .int x3'), (4, .int x4')] []) : ∀ (n : Nat) (x3 : Int32) (x4 : Int32) (lsk : Nat → Int32), wpl_X9_lays_40 nu le  K n x3 x4 lsk → J l D k 7 0 0 40 ((wD ca (aF 2) fd) ++ ((wF (aF 0) (aL 0) (aT 0) (aK 0) (tp 0) (aF 1) (aF 2) ik) ++ ((wC ca aL (nd 0) lsk lze lma lki ldn lwi ldu lhe lyr lsz) ++ ((wA ca (aF 1) sb) ++ (wS ca (sb j) (sn j) nu bi le))))) [(0, .ref (aF 0)), (1, .int x1), (2, .ref (sb j)), (3, .int x3), (4, .int x4)] [] := by
  intro n
  induction n with
  | zero =>
    intro x3 x4 lsk hw
    rw [wpl_X9_lays_40] at hw
    exact hw.elim
  | succ n ih =>
    intro x3 x4 lsk hw
    rw [wpl_X9_lays_40] at hw
    refine j_iload C 4 dX9_lays_40 rfl ?_
    refine j_bipush C 6 dX9_lays_42 (by decide) ?_
    refine j_icmp_ge C 103 dX9_lays_44 (by decide) (fun z => ?_) (fun z => ?_)
    · replace hw := hw.1 z
      exact hK x3 x4 lsk hw
    · replace hw := hw.2 z
      refine j_iload C 4 dX9_lays_47 rfl ?_
      refine j_aload_n C 2 dX9_lays_49 rfl ?_
      refine j_get C fl_X9_240_7 12 dX9_lays_50 rfl rfl ?_
      refine j_icmp_ge C 103 dX9_lays_53 (by decide) (fun z => ?_) (fun z => ?_)
      · replace hw := hw.1 z
        exact hK x3 x4 lsk hw
      · replace hw := hw.2 z
        refine j_aload_n C 2 dX9_lays_56 rfl ?_
        refine j_get C fl_X9_245_7 12 dX9_lays_57 rfl rfl ?_
        refine j_iload C 4 dX9_lays_60 rfl ?_
        have hi4 := hw.1
        replace hw := hw.2
        refine j_lald C 13 dX9_lays_62 rfl hi4 ?_
        refine j_lstore C [(5, .long (nu (x4.toNatClampNeg))), (0, .ref (aF 0)), (1, .int x1), (2, .ref (sb j)), (3, .int x3), (4, .int x4)] dX9_lays_63 (by decide) rfl ?_
        refine j_lload C 0 dX9_lays_65 rfl ?_
        refine j_lconst C 0 dX9_lays_67 (by decide) ?_
        refine j_lcmp C dX9_lays_68 ?_
        refine j_if_lt C 97 dX9_lays_69 (by decide) (fun z => ?_) (fun z => ?_)
        · replace hw := hw.1 z
          refine j_iinc C 5 (x4 + 1) [(4, .int (x4 + 1)), (5, .long (nu (x4.toNatClampNeg))), (0, .ref (aF 0)), (1, .int x1), (2, .ref (sb j)), (3, .int x3)] dX9_lays_97 rfl rfl (by decide) rfl ?_
          refine j_goto C 40 dX9_lays_100 (by decide) ?_
          refine j_lsub [2, 3, 4, 5, 0] [(0, .ref (aF 0)), (1, .int x1), (2, .ref (sb j)), (3, .int x3), (4, .int (x4 + 1))] rfl ?_
          exact ih x3 (x4 + 1) lsk hw
        · replace hw := hw.2 z
          refine j_lload C 0 dX9_lays_72 rfl ?_
          refine j_ldc2 C dX9_lays_74 ct_X9_265 ?_
          refine j_lcmp C dX9_lays_77 ?_
          refine j_if_gt C 97 dX9_lays_78 (by decide) (fun z => ?_) (fun z => ?_)
          · replace hw := hw.1 z
            refine j_iinc C 5 (x4 + 1) [(4, .int (x4 + 1)), (5, .long (nu (x4.toNatClampNeg))), (0, .ref (aF 0)), (1, .int x1), (2, .ref (sb j)), (3, .int x3)] dX9_lays_97 rfl rfl (by decide) rfl ?_
            refine j_goto C 40 dX9_lays_100 (by decide) ?_
            refine j_lsub [2, 3, 4, 5, 0] [(0, .ref (aF 0)), (1, .int x1), (2, .ref (sb j)), (3, .int x3), (4, .int (x4 + 1))] rfl ?_
            exact ih x3 (x4 + 1) lsk hw
          · replace hw := hw.2 z
            refine j_aload_n C 1 dX9_lays_81 rfl ?_
            refine j_get C fl_X9_44_9 1 dX9_lays_82 rfl rfl ?_
            refine j_get C fl_X9_91_2 2 dX9_lays_85 rfl rfl ?_
            refine j_iload C 5 dX9_lays_88 rfl ?_
            refine j_lload C 0 dX9_lays_90 rfl ?_
            refine j_l2i C dX9_lays_92 ?_
            have hi5 := hw.1
            replace hw := hw.2
            refine j_iast C hB 3 ((wD ca (aF 2) fd) ++ ((wF (aF 0) (aL 0) (aT 0) (aK 0) (tp 0) (aF 1) (aF 2) ik) ++ ((wC ca aL (nd 0) (upd lsk (x4.toNatClampNeg) ((nu (x4.toNatClampNeg)).toInt32)) lze lma lki ldn lwi ldu lhe lyr lsz) ++ ((wA ca (aF 1) sb) ++ (wS ca (sb j) (sn j) nu bi le))))) dX9_lays_93 rfl hi5 rfl ?_
            refine j_iinc C 4 (x3 + 1) [(3, .int (x3 + 1)), (5, .long (nu (x4.toNatClampNeg))), (0, .ref (aF 0)), (1, .int x1), (2, .ref (sb j)), (4, .int x4)] dX9_lays_94 rfl rfl (by decide) rfl ?_
            refine j_iinc C 5 (x4 + 1) [(4, .int (x4 + 1)), (3, .int (x3 + 1)), (5, .long (nu (x4.toNatClampNeg))), (0, .ref (aF 0)), (1, .int x1), (2, .ref (sb j))] dX9_lays_97 rfl rfl (by decide) rfl ?_
            refine j_goto C 40 dX9_lays_100 (by decide) ?_
            refine j_lsub [3, 4, 5, 1, 0] [(0, .ref (aF 0)), (1, .int x1), (2, .ref (sb j)), (3, .int (x3 + 1)), (4, .int (x4 + 1))] rfl ?_
            exact ih (x3 + 1) (x4 + 1) (upd lsk (x4.toNatClampNeg) ((nu (x4.toNatClampNeg)).toInt32)) hw
set_option maxRecDepth 100000 in
set_option maxHeartbeats 8000000 in
theorem c_X9_lays {l : Launch} {D : va_G} {ca : Nat → ClassId} {sd : Nat → Nat}  (aF : Nat → Nat) (aL : Nat → Nat) (aT : Nat → Nat) (aK : Nat → Nat) (nd : Nat → Nat) (tp : Nat → Nat) (sb : Nat → Nat) (sn : Nat → Nat) (j : Nat) (fd : Nat → Int32) (ik : Int32) (lsk : Nat → Int32) (lze : Nat → Int32) (lma : Nat → Int32) (lki : Nat → Int32) (ldn : Nat → Int32) (lwi : Nat → Int32) (ldu : Nat → Int32) (lhe : Nat → Int32) (lyr : Int32) (lsz : Int32) (nu : Nat → Int64) (bi : Int32) (le : Int32)  (a1 : Int32) (hj : vp_in a1 4 → a1.toNatClampNeg = j) {Q : (Int32) → (Nat → Int32) → (Nat → Int32) → Prop} (hw : wp_X9_lays fd lsk nu bi le  a1 Q) : Cn l D ca sd yX9_lays cX9_lays 7 (some .int) { frames := 2, cells := 0, slots := 0, locals := 44 } [.ref (aF 0), .int a1] ((wD ca (aF 2) fd) ++ ((wF (aF 0) (aL 0) (aT 0) (aK 0) (tp 0) (aF 1) (aF 2) ik) ++ ((wC ca aL (nd 0) lsk lze lma lki ldn lwi ldu lhe lyr lsz) ++ ((wA ca (aF 1) sb) ++ (wS ca (sb j) (sn j) nu bi le))))) ((wD ca (aF 2) fd) ++ ((wF (aF 0) (aL 0) (aT 0) (aK 0) (tp 0) (aF 1) (aF 2) ik) ++ ((wC ca aL (nd 0) lsk lze lma lki ldn lwi ldu lhe lyr lsz) ++ ((wA ca (aF 1) sb) ++ (wS ca (sb j) (sn j) nu bi le))))) 0 0 (Ri D (fun (r : Int32) (u : (Nat → Int32) × (Nat → Int32)) => Q r u.1 u.2) (fun u => ((wD ca (aF 2) u.1) ++ ((wF (aF 0) (aL 0) (aT 0) (aK 0) (tp 0) (aF 1) (aF 2) ik) ++ ((wC ca aL (nd 0) u.2 lze lma lki ldn lwi ldu lhe lyr lsz) ++ ((wA ca (aF 1) sb) ++ (wS ca (sb j) (sn j) nu bi le))))))) := by
  refine cn_of (by decide) (Nat.le_of_ble_eq_true rfl) (fun k C hR hB _ => ?_)
  have C : Cx D ca sd cX9_lays RX9 (some .int) { frames := 2, cells := 0, slots := 0, locals := 44 } k 7 := C
  unfold wp_X9_lays at hw
  show J l D k 7 0 0 0 ((wD ca (aF 2) fd) ++ ((wF (aF 0) (aL 0) (aT 0) (aK 0) (tp 0) (aF 1) (aF 2) ik) ++ ((wC ca aL (nd 0) lsk lze lma lki ldn lwi ldu lhe lyr lsz) ++ ((wA ca (aF 1) sb) ++ (wS ca (sb j) (sn j) nu bi le))))) [(0, .ref (aF 0)), (1, .int a1)] []
  refine j_iload_n C 1 dX9_lays_0 rfl ?_
  refine j_ciZ C (jr_S C lkS_X9_230 (c_X9_isSheet a1 hw) ⟨rfl, rfl, by decide, by decide, by decide, by decide⟩ [] (by decide) rfl (fx_ro C) rfl rfl (Nat.le_of_ble_eq_true rfl) dX9_lays_1) (fun r1 u1 hw => ?_)
  refine j_if_ne C 14 dX9_lays_4 (by decide) (fun z => ?_) (fun z => ?_)
  · replace hw := hw.2 z
    refine j_aload_n C 0 dX9_lays_14 rfl ?_
    refine j_get C fl_X9_69_9 1 dX9_lays_15 rfl rfl ?_
    refine j_iload_n C 1 dX9_lays_18 rfl ?_
    have hi2 := hw.1
    replace hw := hw.2
    refine j_aald C (E := "UnfinishedFair$Sheet") 11 dX9_lays_19 rfl rfl hi2 (congrArg (fun z => some (sb z)) (hj hi2)) ?_
    refine j_astore_n C [(2, .ref (sb j)), (0, .ref (aF 0)), (1, .int a1)] dX9_lays_20 (by decide) rfl ?_
    refine j_aload_n C 0 dX9_lays_21 rfl ?_
    refine j_ciZ C (jr_V C lkV_X9_241 (c_X7_isMissing (sb j) (sn j) nu bi le hw) ⟨rfl, rfl, by decide, by decide, by decide, by decide⟩ [12, 13] (by decide) rfl (fx_ro C) 12 7 rfl rfl rfl rfl (Nat.le_of_ble_eq_true rfl) dX9_lays_22) (fun r3 u3 hw => ?_)
    refine j_if_eq C 35 dX9_lays_25 (by decide) (fun z => ?_) (fun z => ?_)
    · replace hw := hw.1 z
      refine j_iconst C 0 dX9_lays_35 (by decide) ?_
      refine j_istore_n C [(3, .int 0), (2, .ref (sb j)), (0, .ref (aF 0)), (1, .int a1)] dX9_lays_36 (by decide) rfl ?_
      refine j_iconst C 0 dX9_lays_37 (by decide) ?_
      refine j_istore C [(4, .int 0), (3, .int 0), (2, .ref (sb j)), (0, .ref (aF 0)), (1, .int a1)] dX9_lays_38 (by decide) rfl ?_
      refine j_lsub [3, 4, 2, 1, 0] [(0, .ref (aF 0)), (1, .int a1), (2, .ref (sb j)), (3, .int 0), (4, .int 0)] rfl ?_
      obtain ⟨n6, hw⟩ := hw
      refine ml_X9_lays_40 aF aL aT aK nd tp sb sn j  fd ik lze lma lki ldn lwi ldu lhe lyr lsz nu bi le a1 C hR hB (fun y6_3 y6_4 y6_lsk hw => ?_) n6 0 0 lsk hw
      refine j_iload_n C 3 dX9_lays_103 rfl ?_
      exact j_iret C hB hR (fd, y6_lsk) rfl dX9_lays_104 hw rfl
    · replace hw := hw.2 z
      refine j_aload_n C 1 dX9_lays_28 rfl ?_
      refine j_ldc C dX9_lays_29 ct_X9_244 ?_
      refine j_ciT C hB 0 2 (fun u7 : (Nat → Int32) => ((wD ca (aF 2) u7) ++ ((wF (aF 0) (aL 0) (aT 0) (aK 0) (tp 0) (aF 1) (aF 2) ik) ++ ((wC ca aL (nd 0) lsk lze lma lki ldn lwi ldu lhe lyr lsz) ++ ((wA ca (aF 1) sb) ++ (wS ca (sb j) (sn j) nu bi le)))))) rfl (fun _ => rfl) (jr_V C lkV_X9_83 (c_X9_found aF aL aT aK nd tp fd ik (-1000000006) hw) ⟨rfl, rfl, by decide, by decide, by decide, by decide⟩ [0, 1] (by decide) rfl (fx_rw C hB [0, 1] rfl) 1 9 rfl rfl rfl rfl (Nat.le_of_ble_eq_true rfl) dX9_lays_31) (fun r7 u7 hw => ?_)
      exact j_iret C hB hR (u7, lsk) rfl dX9_lays_34 hw rfl
  · replace hw := hw.1 z
    refine j_aload_n C 0 dX9_lays_7 rfl ?_
    refine j_ldc C dX9_lays_8 ct_X9_82 ?_
    refine j_ciT C hB 0 2 (fun u8 : (Nat → Int32) => ((wD ca (aF 2) u8) ++ ((wF (aF 0) (aL 0) (aT 0) (aK 0) (tp 0) (aF 1) (aF 2) ik) ++ ((wC ca aL (nd 0) lsk lze lma lki ldn lwi ldu lhe lyr lsz) ++ ((wA ca (aF 1) sb) ++ (wS ca (sb j) (sn j) nu bi le)))))) rfl (fun _ => rfl) (jr_V C lkV_X9_83 (c_X9_found aF aL aT aK nd tp fd ik (-1000000001) hw) ⟨rfl, rfl, by decide, by decide, by decide, by decide⟩ [0, 1] (by decide) rfl (fx_rw C hB [0, 1] rfl) 1 9 rfl rfl rfl rfl (Nat.le_of_ble_eq_true rfl) dX9_lays_10) (fun r8 u8 hw => ?_)
    exact j_iret C hB hR (u8, lsk) rfl dX9_lays_13 hw rfl
def wpl_X9_book_64 (tsk : Nat → Int32) (tki : Nat → Int32) (tsz : Int32) (bi : Int32) (le : Int32) (x2 : Int32) (K : (Int32) → (Nat → Int32) → (Nat → Int32) → (Nat → Int32) → (Nat → Int32) → (Nat → Int32) → (Nat → Int32) → (Int32) → (Nat → Int64) → Prop) : Nat → (Int32) → (Nat → Int32) → (Nat → Int32) → (Nat → Int32) → (Nat → Int32) → (Nat → Int32) → (Nat → Int32) → (Int32) → (Nat → Int64) → Prop
  | 0, _, _, _, _, _, _, _, _, _ => False
  | n + 1, x4, tze, tma, tdn, twi, tdu, the, tyr, nu => (le ≤ x4 → K x4 tze tma tdn twi tdu the tyr nu) ∧ (¬ (le ≤ x4) → vp_in x2 8 ∧ (wp_X7_put nu bi x4 ((tdn (x2.toNatClampNeg)).toInt64) (fun c7_0 => wp_X2_goYear tsk tze tma tki tdn twi tdu the tyr tsz (fun c8_0 c8_1 c8_2 c8_3 c8_4 c8_5 c8_6 => wpl_X9_book_64 tsk tki tsz bi le x2  K n (x4 + 1) c8_0 c8_1 c8_2 c8_3 c8_4 c8_5 c8_6 c7_0))))
def wp_X9_book (fd : Nat → Int32) (tsk : Nat → Int32) (tze : Nat → Int32) (tma : Nat → Int32) (tki : Nat → Int32) (tdn : Nat → Int32) (twi : Nat → Int32) (tdu : Nat → Int32) (the : Nat → Int32) (tyr : Int32) (tsz : Int32) (lsk : Nat → Int32) (lze : Nat → Int32) (lma : Nat → Int32) (lki : Nat → Int32) (ldn : Nat → Int32) (lwi : Nat → Int32) (ldu : Nat → Int32) (lyr : Int32) (lsz : Int32) (nu : Nat → Int64) (bi : Int32) (le : Int32)  (a1 : Int32) (a2 : Int32) (Q : (Int32) → (Nat → Int32) → (Nat → Int32) → (Nat → Int32) → (Nat → Int32) → (Nat → Int32) → (Nat → Int32) → (Nat → Int32) → (Nat → Int32) → (Nat → Int32) → (Int32) → (Int32) → (Nat → Int64) → Prop) : Prop := wp_X9_isSheet a1 (fun r1 => (r1 = 0 → wp_X9_found fd (-1000000001) (fun r12 c12_0 => Q r12 c12_0 tsk tze tma tki tdn twi tdu the tyr tsz nu)) ∧ (¬ (r1 = 0) → vp_in a1 4 ∧ (wp_X7_isMissing bi (fun r3 => (r3 = 0 → wp_X9_isThing lsz a2 (fun r4 => (r4 = 0 → wp_X9_found fd (-1000000001) (fun r10 c10_0 => Q r10 c10_0 tsk tze tma tki tdn twi tdu the tyr tsz nu)) ∧ (¬ (r4 = 0) → wp_X2_become tsk tze tma tki tdn twi tdu lsk lze lma lki ldn lwi ldu lyr lsz (fun c5_0 c5_1 c5_2 c5_3 c5_4 c5_5 c5_6 c5_7 c5_8 => ∃ n9 : Nat, wpl_X9_book_64 c5_0 c5_3 c5_8 bi le a2  (fun y9_4 y9_tze y9_tma y9_tdn y9_twi y9_tdu y9_the y9_tyr y9_nu => Q le fd c5_0 y9_tze y9_tma c5_3 y9_tdn y9_twi y9_tdu y9_the y9_tyr c5_8 y9_nu) n9 0 c5_1 c5_2 c5_4 c5_5 c5_6 the c5_7 nu)))) ∧ (¬ (r3 = 0) → wp_X9_found fd (-1000000006) (fun r11 c11_0 => Q r11 c11_0 tsk tze tma tki tdn twi tdu the tyr tsz nu))))))
set_option maxRecDepth 100000 in
set_option maxHeartbeats 8000000 in
theorem ml_X9_book_64 {l : Launch} {D : va_G} {ca : Nat → ClassId} {sd : Nat → Nat}  {k : Kx} (aF : Nat → Nat) (aL : Nat → Nat) (aT : Nat → Nat) (aK : Nat → Nat) (nd : Nat → Nat) (tp : Nat → Nat) (sb : Nat → Nat) (sn : Nat → Nat) (j : Nat)  (fd : Nat → Int32) (ik : Int32) (tsk : Nat → Int32) (tki : Nat → Int32) (tsz : Int32) (lsk : Nat → Int32) (lze : Nat → Int32) (lma : Nat → Int32) (lki : Nat → Int32) (ldn : Nat → Int32) (lwi : Nat → Int32) (ldu : Nat → Int32) (lhe : Nat → Int32) (lyr : Int32) (lsz : Int32) (bi : Int32) (le : Int32) (x1 : Int32) (x2 : Int32) (C : Cx D ca sd cX9_book RX9 (some .int) { frames := 7, cells := 0, slots := 0, locals := 181 } k 5) {Q : (Int32) → (Nat → Int32) → (Nat → Int32) → (Nat → Int32) → (Nat → Int32) → (Nat → Int32) → (Nat → Int32) → (Nat → Int32) → (Nat → Int32) → (Nat → Int32) → (Int32) → (Int32) → (Nat → Int64) → Prop} (hR : Rx (Ri D (fun (r : Int32) (u : (Nat → Int32) × (Nat → Int32) × (Nat → Int32) × (Nat → Int32) × (Nat → Int32) × (Nat → Int32) × (Nat → Int32) × (Nat → Int32) × (Nat → Int32) × (Int32) × (Int32) × (Nat → Int64)) => Q r u.1 u.2.1 u.2.2.1 u.2.2.2.1 u.2.2.2.2.1 u.2.2.2.2.2.1 u.2.2.2.2.2.2.1 u.2.2.2.2.2.2.2.1 u.2.2.2.2.2.2.2.2.1 u.2.2.2.2.2.2.2.2.2.1 u.2.2.2.2.2.2.2.2.2.2.1 u.2.2.2.2.2.2.2.2.2.2.2) (fun u => ((wD ca (aF 2) u.1) ++ ((wF (aF 0) (aL 0) (aT 0) (aK 0) (tp 0) (aF 1) (aF 2) ik) ++ ((wN ca nd sd) ++ ((wC ca aT (nd 0) u.2.1 u.2.2.1 u.2.2.2.1 u.2.2.2.2.1 u.2.2.2.2.2.1 u.2.2.2.2.2.2.1 u.2.2.2.2.2.2.2.1 u.2.2.2.2.2.2.2.2.1 u.2.2.2.2.2.2.2.2.2.1 u.2.2.2.2.2.2.2.2.2.2.1) ++ ((wC ca aL (nd 0) lsk lze lma lki ldn lwi ldu lhe lyr lsz) ++ ((wA ca (aF 1) sb) ++ (wS ca (sb j) (sn j) u.2.2.2.2.2.2.2.2.2.2.2 bi le))))))))) 0 0 k) (hB : Wx k) {K : (Int32) → (Nat → Int32) → (Nat → Int32) → (Nat → Int32) → (Nat → Int32) → (Nat → Int32) → (Nat → Int32) → (Int32) → (Nat → Int64) → Prop} (hK : ∀ (x4' : Int32) (tze' : Nat → Int32) (tma' : Nat → Int32) (tdn' : Nat → Int32) (twi' : Nat → Int32) (tdu' : Nat → Int32) (the' : Nat → Int32) (tyr' : Int32) (nu' : Nat → Int64), K x4' tze' tma' tdn' twi' tdu' the' tyr' nu' → J l D k 5 0 0 102 ((wD ca (aF 2) fd) ++ ((wF (aF 0) (aL 0) (aT 0) (aK 0) (tp 0) (aF 1) (aF 2) ik) ++ ((wN ca nd sd) ++ ((wC ca aT (nd 0) tsk tze' tma' tki tdn' twi' tdu' the' tyr' tsz) ++ ((wC ca aL (nd 0) lsk lze lma lki ldn lwi ldu lhe lyr lsz) ++ ((wA ca (aF 1) sb) ++ (wS ca (sb j) (sn j) nu' bi le))))))) [(0, .ref (aF 0)), (1, .int x1), (2, .int x2), (3, .ref (sb j)), (4, .int x4')] []) : ∀ (n : Nat) (x4 : Int32) (tze : Nat → Int32) (tma : Nat → Int32) (tdn : Nat → Int32) (twi : Nat → Int32) (tdu : Nat → Int32) (the : Nat → Int32) (tyr : Int32) (nu : Nat → Int64), wpl_X9_book_64 tsk tki tsz bi le x2  K n x4 tze tma tdn twi tdu the tyr nu → J l D k 5 0 0 64 ((wD ca (aF 2) fd) ++ ((wF (aF 0) (aL 0) (aT 0) (aK 0) (tp 0) (aF 1) (aF 2) ik) ++ ((wN ca nd sd) ++ ((wC ca aT (nd 0) tsk tze tma tki tdn twi tdu the tyr tsz) ++ ((wC ca aL (nd 0) lsk lze lma lki ldn lwi ldu lhe lyr lsz) ++ ((wA ca (aF 1) sb) ++ (wS ca (sb j) (sn j) nu bi le))))))) [(0, .ref (aF 0)), (1, .int x1), (2, .int x2), (3, .ref (sb j)), (4, .int x4)] [] := by
  intro n
  induction n with
  | zero =>
    intro x4 tze tma tdn twi tdu the tyr nu hw
    rw [wpl_X9_book_64] at hw
    exact hw.elim
  | succ n ih =>
    intro x4 tze tma tdn twi tdu the tyr nu hw
    rw [wpl_X9_book_64] at hw
    refine j_iload C 4 dX9_book_64 rfl ?_
    refine j_aload_n C 3 dX9_book_66 rfl ?_
    refine j_get C fl_X9_240_7 28 dX9_book_67 rfl rfl ?_
    refine j_icmp_ge C 102 dX9_book_70 (by decide) (fun z => ?_) (fun z => ?_)
    · replace hw := hw.1 z
      exact hK x4 tze tma tdn twi tdu the tyr nu hw
    · replace hw := hw.2 z
      refine j_aload_n C 3 dX9_book_73 rfl ?_
      refine j_iload C 4 dX9_book_74 rfl ?_
      refine j_aload_n C 0 dX9_book_76 rfl ?_
      refine j_get C fl_X9_50_9 1 dX9_book_77 rfl rfl ?_
      refine j_get C fl_X9_138_2 9 dX9_book_80 rfl rfl ?_
      refine j_iload_n C 2 dX9_book_83 rfl ?_
      have hi6 := hw.1
      replace hw := hw.2
      refine j_iald C 14 dX9_book_84 rfl hi6 ?_
      refine j_i2l C dX9_book_85 ?_
      refine j_cvT C hB 28 30 (fun u7 : (Nat → Int64) => ((wD ca (aF 2) fd) ++ ((wF (aF 0) (aL 0) (aT 0) (aK 0) (tp 0) (aF 1) (aF 2) ik) ++ ((wN ca nd sd) ++ ((wC ca aT (nd 0) tsk tze tma tki tdn twi tdu the tyr tsz) ++ ((wC ca aL (nd 0) lsk lze lma lki ldn lwi ldu lhe lyr lsz) ++ ((wA ca (aF 1) sb) ++ (wS ca (sb j) (sn j) u7 bi le)))))))) rfl (fun _ => rfl) (jr_V C lkV_X9_249 (c_X7_put (sb j) (sn j) nu bi le x4 ((tdn (x2.toNatClampNeg)).toInt64) hw) ⟨rfl, rfl, by decide, by decide, by decide, by decide⟩ [28, 29] (by decide) rfl (fx_rw C hB [28, 29] rfl) 28 7 rfl rfl rfl rfl (Nat.le_of_ble_eq_true rfl) dX9_book_86) (fun u7 hw => ?_)
      refine j_aload_n C 0 dX9_book_89 rfl ?_
      refine j_get C fl_X9_50_9 1 dX9_book_90 rfl rfl ?_
      refine j_cvT C hB 2 18 (fun u8 : (Nat → Int32) × (Nat → Int32) × (Nat → Int32) × (Nat → Int32) × (Nat → Int32) × (Nat → Int32) × (Int32) => ((wD ca (aF 2) fd) ++ ((wF (aF 0) (aL 0) (aT 0) (aK 0) (tp 0) (aF 1) (aF 2) ik) ++ ((wN ca nd sd) ++ ((wC ca aT (nd 0) tsk u8.1 u8.2.1 tki u8.2.2.1 u8.2.2.2.1 u8.2.2.2.2.1 u8.2.2.2.2.2.1 u8.2.2.2.2.2.2 tsz) ++ ((wC ca aL (nd 0) lsk lze lma lki ldn lwi ldu lhe lyr lsz) ++ ((wA ca (aF 1) sb) ++ (wS ca (sb j) (sn j) u7 bi le)))))))) rfl (fun _ => rfl) (jr_V C lkV_X9_207 (c_X2_goYear nd aT tsk tze tma tki tdn twi tdu the tyr tsz hw) ⟨rfl, rfl, by decide, by decide, by decide, by decide⟩ [2, 3, 4, 5, 6, 7, 8, 9, 10, 11, 12, 13, 14, 15, 16, 17] rfl rfl (fx_rw C hB [2, 3, 4, 5, 6, 7, 8, 9, 10, 11, 12, 13, 14, 15, 16, 17] rfl) 9 2 rfl rfl rfl rfl (Nat.le_of_ble_eq_true rfl) dX9_book_93) (fun u8 hw => ?_)
      refine j_iinc C 4 (x4 + 1) [(4, .int (x4 + 1)), (0, .ref (aF 0)), (1, .int x1), (2, .int x2), (3, .ref (sb j))] dX9_book_96 rfl rfl (by decide) rfl ?_
      refine j_goto C 64 dX9_book_99 (by decide) ?_
      refine j_lsub [1, 2, 3, 4, 0] [(0, .ref (aF 0)), (1, .int x1), (2, .int x2), (3, .ref (sb j)), (4, .int (x4 + 1))] rfl ?_
      exact ih (x4 + 1) u8.1 u8.2.1 u8.2.2.1 u8.2.2.2.1 u8.2.2.2.2.1 u8.2.2.2.2.2.1 u8.2.2.2.2.2.2 u7 hw
set_option maxRecDepth 100000 in
set_option maxHeartbeats 8000000 in
theorem c_X9_book {l : Launch} {D : va_G} {ca : Nat → ClassId} {sd : Nat → Nat}  (aF : Nat → Nat) (aL : Nat → Nat) (aT : Nat → Nat) (aK : Nat → Nat) (nd : Nat → Nat) (tp : Nat → Nat) (sb : Nat → Nat) (sn : Nat → Nat) (j : Nat) (fd : Nat → Int32) (ik : Int32) (tsk : Nat → Int32) (tze : Nat → Int32) (tma : Nat → Int32) (tki : Nat → Int32) (tdn : Nat → Int32) (twi : Nat → Int32) (tdu : Nat → Int32) (the : Nat → Int32) (tyr : Int32) (tsz : Int32) (lsk : Nat → Int32) (lze : Nat → Int32) (lma : Nat → Int32) (lki : Nat → Int32) (ldn : Nat → Int32) (lwi : Nat → Int32) (ldu : Nat → Int32) (lhe : Nat → Int32) (lyr : Int32) (lsz : Int32) (nu : Nat → Int64) (bi : Int32) (le : Int32)  (a1 : Int32) (a2 : Int32) (hj : vp_in a1 4 → a1.toNatClampNeg = j) {Q : (Int32) → (Nat → Int32) → (Nat → Int32) → (Nat → Int32) → (Nat → Int32) → (Nat → Int32) → (Nat → Int32) → (Nat → Int32) → (Nat → Int32) → (Nat → Int32) → (Int32) → (Int32) → (Nat → Int64) → Prop} (hw : wp_X9_book fd tsk tze tma tki tdn twi tdu the tyr tsz lsk lze lma lki ldn lwi ldu lyr lsz nu bi le  a1 a2 Q) : Cn l D ca sd yX9_book cX9_book 5 (some .int) { frames := 7, cells := 0, slots := 0, locals := 181 } [.ref (aF 0), .int a1, .int a2] ((wD ca (aF 2) fd) ++ ((wF (aF 0) (aL 0) (aT 0) (aK 0) (tp 0) (aF 1) (aF 2) ik) ++ ((wN ca nd sd) ++ ((wC ca aT (nd 0) tsk tze tma tki tdn twi tdu the tyr tsz) ++ ((wC ca aL (nd 0) lsk lze lma lki ldn lwi ldu lhe lyr lsz) ++ ((wA ca (aF 1) sb) ++ (wS ca (sb j) (sn j) nu bi le))))))) ((wD ca (aF 2) fd) ++ ((wF (aF 0) (aL 0) (aT 0) (aK 0) (tp 0) (aF 1) (aF 2) ik) ++ ((wN ca nd sd) ++ ((wC ca aT (nd 0) tsk tze tma tki tdn twi tdu the tyr tsz) ++ ((wC ca aL (nd 0) lsk lze lma lki ldn lwi ldu lhe lyr lsz) ++ ((wA ca (aF 1) sb) ++ (wS ca (sb j) (sn j) nu bi le))))))) 0 0 (Ri D (fun (r : Int32) (u : (Nat → Int32) × (Nat → Int32) × (Nat → Int32) × (Nat → Int32) × (Nat → Int32) × (Nat → Int32) × (Nat → Int32) × (Nat → Int32) × (Nat → Int32) × (Int32) × (Int32) × (Nat → Int64)) => Q r u.1 u.2.1 u.2.2.1 u.2.2.2.1 u.2.2.2.2.1 u.2.2.2.2.2.1 u.2.2.2.2.2.2.1 u.2.2.2.2.2.2.2.1 u.2.2.2.2.2.2.2.2.1 u.2.2.2.2.2.2.2.2.2.1 u.2.2.2.2.2.2.2.2.2.2.1 u.2.2.2.2.2.2.2.2.2.2.2) (fun u => ((wD ca (aF 2) u.1) ++ ((wF (aF 0) (aL 0) (aT 0) (aK 0) (tp 0) (aF 1) (aF 2) ik) ++ ((wN ca nd sd) ++ ((wC ca aT (nd 0) u.2.1 u.2.2.1 u.2.2.2.1 u.2.2.2.2.1 u.2.2.2.2.2.1 u.2.2.2.2.2.2.1 u.2.2.2.2.2.2.2.1 u.2.2.2.2.2.2.2.2.1 u.2.2.2.2.2.2.2.2.2.1 u.2.2.2.2.2.2.2.2.2.2.1) ++ ((wC ca aL (nd 0) lsk lze lma lki ldn lwi ldu lhe lyr lsz) ++ ((wA ca (aF 1) sb) ++ (wS ca (sb j) (sn j) u.2.2.2.2.2.2.2.2.2.2.2 bi le))))))))) := by
  refine cn_of (by decide) (Nat.le_of_ble_eq_true rfl) (fun k C hR hB _ => ?_)
  have C : Cx D ca sd cX9_book RX9 (some .int) { frames := 7, cells := 0, slots := 0, locals := 181 } k 5 := C
  unfold wp_X9_book at hw
  show J l D k 5 0 0 0 ((wD ca (aF 2) fd) ++ ((wF (aF 0) (aL 0) (aT 0) (aK 0) (tp 0) (aF 1) (aF 2) ik) ++ ((wN ca nd sd) ++ ((wC ca aT (nd 0) tsk tze tma tki tdn twi tdu the tyr tsz) ++ ((wC ca aL (nd 0) lsk lze lma lki ldn lwi ldu lhe lyr lsz) ++ ((wA ca (aF 1) sb) ++ (wS ca (sb j) (sn j) nu bi le))))))) [(0, .ref (aF 0)), (1, .int a1), (2, .int a2)] []
  refine j_iload_n C 1 dX9_book_0 rfl ?_
  refine j_ciZ C (jr_S C lkS_X9_230 (c_X9_isSheet a1 hw) ⟨rfl, rfl, by decide, by decide, by decide, by decide⟩ [] (by decide) rfl (fx_ro C) rfl rfl (Nat.le_of_ble_eq_true rfl) dX9_book_1) (fun r1 u1 hw => ?_)
  refine j_if_ne C 14 dX9_book_4 (by decide) (fun z => ?_) (fun z => ?_)
  · replace hw := hw.2 z
    refine j_aload_n C 0 dX9_book_14 rfl ?_
    refine j_get C fl_X9_69_9 1 dX9_book_15 rfl rfl ?_
    refine j_iload_n C 1 dX9_book_18 rfl ?_
    have hi2 := hw.1
    replace hw := hw.2
    refine j_aald C (E := "UnfinishedFair$Sheet") 27 dX9_book_19 rfl rfl hi2 (congrArg (fun z => some (sb z)) (hj hi2)) ?_
    refine j_astore_n C [(3, .ref (sb j)), (0, .ref (aF 0)), (1, .int a1), (2, .int a2)] dX9_book_20 (by decide) rfl ?_
    refine j_aload_n C 0 dX9_book_21 rfl ?_
    refine j_ciZ C (jr_V C lkV_X9_241 (c_X7_isMissing (sb j) (sn j) nu bi le hw) ⟨rfl, rfl, by decide, by decide, by decide, by decide⟩ [28, 29] (by decide) rfl (fx_ro C) 28 7 rfl rfl rfl rfl (Nat.le_of_ble_eq_true rfl) dX9_book_22) (fun r3 u3 hw => ?_)
    refine j_if_eq C 35 dX9_book_25 (by decide) (fun z => ?_) (fun z => ?_)
    · replace hw := hw.1 z
      refine j_aload_n C 1 dX9_book_35 rfl ?_
      refine j_iload_n C 3 dX9_book_36 rfl ?_
      refine j_ciZ C (jr_V C lkV_X9_132 (c_X9_isThing aF aL aT aK nd tp ik lsk lze lma lki ldn lwi ldu lhe lyr lsz a2 hw) ⟨rfl, rfl, by decide, by decide, by decide, by decide⟩ [1, 18, 19, 20, 21, 22, 23, 24, 25, 26] (by decide) rfl (fx_ro C) 1 9 rfl rfl rfl rfl (Nat.le_of_ble_eq_true rfl) dX9_book_37) (fun r4 u4 hw => ?_)
      refine j_if_ne C 50 dX9_book_40 (by decide) (fun z => ?_) (fun z => ?_)
      · replace hw := hw.2 z
        refine j_aload_n C 1 dX9_book_50 rfl ?_
        refine j_get C fl_X9_50_9 1 dX9_book_51 rfl rfl ?_
        refine j_aload_n C 1 dX9_book_54 rfl ?_
        refine j_get C fl_X9_44_9 1 dX9_book_55 rfl rfl ?_
        refine j_cvT C hB 9 27 (fun u5 : (Nat → Int32) × (Nat → Int32) × (Nat → Int32) × (Nat → Int32) × (Nat → Int32) × (Nat → Int32) × (Nat → Int32) × (Int32) × (Int32) => ((wD ca (aF 2) fd) ++ ((wF (aF 0) (aL 0) (aT 0) (aK 0) (tp 0) (aF 1) (aF 2) ik) ++ ((wN ca nd sd) ++ ((wC ca aT (nd 0) u5.1 u5.2.1 u5.2.2.1 u5.2.2.2.1 u5.2.2.2.2.1 u5.2.2.2.2.2.1 u5.2.2.2.2.2.2.1 the u5.2.2.2.2.2.2.2.1 u5.2.2.2.2.2.2.2.2) ++ ((wC ca aL (nd 0) lsk lze lma lki ldn lwi ldu lhe lyr lsz) ++ ((wA ca (aF 1) sb) ++ (wS ca (sb j) (sn j) nu bi le)))))))) rfl (fun _ => rfl) (jr_V C lkV_X9_200 (c_X2_become aT aL (nd 0) tsk tze tma tki tdn twi tdu the tyr tsz lsk lze lma lki ldn lwi ldu lhe lyr lsz hw) ⟨rfl, rfl, by decide, by decide, by decide, by decide⟩ [9, 10, 11, 12, 13, 14, 15, 16, 17, 18, 19, 20, 21, 22, 23, 24, 25, 26] rfl rfl (fx_rw C hB [9, 10, 11, 12, 13, 14, 15, 16, 17, 18, 19, 20, 21, 22, 23, 24, 25, 26] rfl) 9 2 rfl rfl rfl rfl (Nat.le_of_ble_eq_true rfl) dX9_book_58) (fun u5 hw => ?_)
        refine j_iconst C 0 dX9_book_61 (by decide) ?_
        refine j_istore C [(4, .int 0), (3, .ref (sb j)), (0, .ref (aF 0)), (1, .int a1), (2, .int a2)] dX9_book_62 (by decide) rfl ?_
        refine j_lsub [2, 3, 4, 1, 0] [(0, .ref (aF 0)), (1, .int a1), (2, .int a2), (3, .ref (sb j)), (4, .int 0)] rfl ?_
        obtain ⟨n9, hw⟩ := hw
        refine ml_X9_book_64 aF aL aT aK nd tp sb sn j  fd ik u5.1 u5.2.2.2.1 u5.2.2.2.2.2.2.2.2 lsk lze lma lki ldn lwi ldu lhe lyr lsz bi le a1 a2 C hR hB (fun y9_4 y9_tze y9_tma y9_tdn y9_twi y9_tdu y9_the y9_tyr y9_nu hw => ?_) n9 0 u5.2.1 u5.2.2.1 u5.2.2.2.2.1 u5.2.2.2.2.2.1 u5.2.2.2.2.2.2.1 the u5.2.2.2.2.2.2.2.1 nu hw
        refine j_aload_n C 3 dX9_book_102 rfl ?_
        refine j_get C fl_X9_240_7 28 dX9_book_103 rfl rfl ?_
        exact j_iret C hB hR (fd, u5.1, y9_tze, y9_tma, u5.2.2.2.1, y9_tdn, y9_twi, y9_tdu, y9_the, y9_tyr, u5.2.2.2.2.2.2.2.2, y9_nu) rfl dX9_book_106 hw rfl
      · replace hw := hw.1 z
        refine j_aload_n C 1 dX9_book_43 rfl ?_
        refine j_ldc C dX9_book_44 ct_X9_82 ?_
        refine j_ciT C hB 0 2 (fun u10 : (Nat → Int32) => ((wD ca (aF 2) u10) ++ ((wF (aF 0) (aL 0) (aT 0) (aK 0) (tp 0) (aF 1) (aF 2) ik) ++ ((wN ca nd sd) ++ ((wC ca aT (nd 0) tsk tze tma tki tdn twi tdu the tyr tsz) ++ ((wC ca aL (nd 0) lsk lze lma lki ldn lwi ldu lhe lyr lsz) ++ ((wA ca (aF 1) sb) ++ (wS ca (sb j) (sn j) nu bi le)))))))) rfl (fun _ => rfl) (jr_V C lkV_X9_83 (c_X9_found aF aL aT aK nd tp fd ik (-1000000001) hw) ⟨rfl, rfl, by decide, by decide, by decide, by decide⟩ [0, 1] (by decide) rfl (fx_rw C hB [0, 1] rfl) 1 9 rfl rfl rfl rfl (Nat.le_of_ble_eq_true rfl) dX9_book_46) (fun r10 u10 hw => ?_)
        exact j_iret C hB hR (u10, tsk, tze, tma, tki, tdn, twi, tdu, the, tyr, tsz, nu) rfl dX9_book_49 hw rfl
    · replace hw := hw.2 z
      refine j_aload_n C 1 dX9_book_28 rfl ?_
      refine j_ldc C dX9_book_29 ct_X9_244 ?_
      refine j_ciT C hB 0 2 (fun u11 : (Nat → Int32) => ((wD ca (aF 2) u11) ++ ((wF (aF 0) (aL 0) (aT 0) (aK 0) (tp 0) (aF 1) (aF 2) ik) ++ ((wN ca nd sd) ++ ((wC ca aT (nd 0) tsk tze tma tki tdn twi tdu the tyr tsz) ++ ((wC ca aL (nd 0) lsk lze lma lki ldn lwi ldu lhe lyr lsz) ++ ((wA ca (aF 1) sb) ++ (wS ca (sb j) (sn j) nu bi le)))))))) rfl (fun _ => rfl) (jr_V C lkV_X9_83 (c_X9_found aF aL aT aK nd tp fd ik (-1000000006) hw) ⟨rfl, rfl, by decide, by decide, by decide, by decide⟩ [0, 1] (by decide) rfl (fx_rw C hB [0, 1] rfl) 1 9 rfl rfl rfl rfl (Nat.le_of_ble_eq_true rfl) dX9_book_31) (fun r11 u11 hw => ?_)
      exact j_iret C hB hR (u11, tsk, tze, tma, tki, tdn, twi, tdu, the, tyr, tsz, nu) rfl dX9_book_34 hw rfl
  · replace hw := hw.1 z
    refine j_aload_n C 0 dX9_book_7 rfl ?_
    refine j_ldc C dX9_book_8 ct_X9_82 ?_
    refine j_ciT C hB 0 2 (fun u12 : (Nat → Int32) => ((wD ca (aF 2) u12) ++ ((wF (aF 0) (aL 0) (aT 0) (aK 0) (tp 0) (aF 1) (aF 2) ik) ++ ((wN ca nd sd) ++ ((wC ca aT (nd 0) tsk tze tma tki tdn twi tdu the tyr tsz) ++ ((wC ca aL (nd 0) lsk lze lma lki ldn lwi ldu lhe lyr lsz) ++ ((wA ca (aF 1) sb) ++ (wS ca (sb j) (sn j) nu bi le)))))))) rfl (fun _ => rfl) (jr_V C lkV_X9_83 (c_X9_found aF aL aT aK nd tp fd ik (-1000000001) hw) ⟨rfl, rfl, by decide, by decide, by decide, by decide⟩ [0, 1] (by decide) rfl (fx_rw C hB [0, 1] rfl) 1 9 rfl rfl rfl rfl (Nat.le_of_ble_eq_true rfl) dX9_book_10) (fun r12 u12 hw => ?_)
    exact j_iret C hB hR (u12, tsk, tze, tma, tki, tdn, twi, tdu, the, tyr, tsz, nu) rfl dX9_book_13 hw rfl
def wpl_X9_read_75 (lsk : Nat → Int32) (lze : Nat → Int32) (lma : Nat → Int32) (lki : Nat → Int32) (ldn : Nat → Int32) (lwi : Nat → Int32) (ldu : Nat → Int32) (lyr : Int32) (lsz : Int32) (nu : Nat → Int64) (le : Int32) (x2 : Int32) (x3 : Int32) (x6 : Int32) (K : (Int32) → (Int32) → (Nat → Int32) → (Nat → Int32) → (Nat → Int32) → (Nat → Int32) → (Nat → Int32) → (Nat → Int32) → (Nat → Int32) → (Nat → Int32) → (Int32) → (Int32) → Prop) : Nat → (Int32) → (Int32) → (Nat → Int32) → (Nat → Int32) → (Nat → Int32) → (Nat → Int32) → (Nat → Int32) → (Nat → Int32) → (Nat → Int32) → (Nat → Int32) → (Int32) → (Int32) → Prop
  | 0, _, _, _, _, _, _, _, _, _, _, _, _ => False
  | n + 1, x5, x7, tsk, tze, tma, tki, tdn, twi, tdu, the, tyr, tsz => (20 < x7 → K x5 x7 tsk tze tma tki tdn twi tdu the tyr tsz) ∧ (¬ (20 < x7) → wp_X2_become tsk tze tma tki tdn twi tdu lsk lze lma lki ldn lwi ldu lyr lsz (fun c7_0 c7_1 c7_2 c7_3 c7_4 c7_5 c7_6 c7_7 c7_8 => vp_in x2 8 ∧ (vp_in x3 6 ∧ (wp_X9_trialGoesAsTold (upd c7_0 (x3.toNatClampNeg) x7) c7_1 c7_2 (upd c7_3 (x2.toNatClampNeg) x6) c7_4 c7_5 c7_6 the c7_7 c7_8 nu le x2 (fun r10 c10_0 c10_1 c10_2 c10_3 c10_4 c10_5 c10_6 => (r10 = 0 → wpl_X9_read_75 lsk lze lma lki ldn lwi ldu lyr lsz nu le x2 x3 x6  K n x5 (x7 + 1) (upd c7_0 (x3.toNatClampNeg) x7) c10_0 c10_1 (upd c7_3 (x2.toNatClampNeg) x6) c10_2 c10_3 c10_4 c10_5 c10_6 c7_8) ∧ (¬ (r10 = 0) → wpl_X9_read_75 lsk lze lma lki ldn lwi ldu lyr lsz nu le x2 x3 x6  K n (x5 + 1) (x7 + 1) (upd c7_0 (x3.toNatClampNeg) x7) c10_0 c10_1 (upd c7_3 (x2.toNatClampNeg) x6) c10_2 c10_3 c10_4 c10_5 c10_6 c7_8))))))
def wpl_X9_read_65 (lsk : Nat → Int32) (lze : Nat → Int32) (lma : Nat → Int32) (lki : Nat → Int32) (ldn : Nat → Int32) (lwi : Nat → Int32) (ldu : Nat → Int32) (lyr : Int32) (lsz : Int32) (nu : Nat → Int64) (le : Int32) (x2 : Int32) (x3 : Int32) (K : (Int32) → (Int32) → (Nat → Int32) → (Nat → Int32) → (Nat → Int32) → (Nat → Int32) → (Nat → Int32) → (Nat → Int32) → (Nat → Int32) → (Nat → Int32) → (Int32) → (Int32) → Prop) : Nat → (Int32) → (Int32) → (Nat → Int32) → (Nat → Int32) → (Nat → Int32) → (Nat → Int32) → (Nat → Int32) → (Nat → Int32) → (Nat → Int32) → (Nat → Int32) → (Int32) → (Int32) → Prop
  | 0, _, _, _, _, _, _, _, _, _, _, _, _ => False
  | n + 1, x5, x6, tsk, tze, tma, tki, tdn, twi, tdu, the, tyr, tsz => (6 ≤ x6 → K x5 x6 tsk tze tma tki tdn twi tdu the tyr tsz) ∧ (¬ (6 ≤ x6) → ∃ n11 : Nat, wpl_X9_read_75 lsk lze lma lki ldn lwi ldu lyr lsz nu le x2 x3 x6  (fun y11_5 y11_7 y11_tsk y11_tze y11_tma y11_tki y11_tdn y11_twi y11_tdu y11_the y11_tyr y11_tsz => wpl_X9_read_65 lsk lze lma lki ldn lwi ldu lyr lsz nu le x2 x3  K n y11_5 (x6 + 1) y11_tsk y11_tze y11_tma y11_tki y11_tdn y11_twi y11_tdu y11_the y11_tyr y11_tsz) n11 x5 0 tsk tze tma tki tdn twi tdu the tyr tsz)
def wp_X9_read (fd : Nat → Int32) (tsk : Nat → Int32) (tze : Nat → Int32) (tma : Nat → Int32) (tki : Nat → Int32) (tdn : Nat → Int32) (twi : Nat → Int32) (tdu : Nat → Int32) (the : Nat → Int32) (tyr : Int32) (tsz : Int32) (lsk : Nat → Int32) (lze : Nat → Int32) (lma : Nat → Int32) (lki : Nat → Int32) (ldn : Nat → Int32) (lwi : Nat → Int32) (ldu : Nat → Int32) (lyr : Int32) (lsz : Int32) (nu : Nat → Int64) (bi : Int32) (le : Int32)  (a1 : Int32) (a2 : Int32) (a3 : Int32) (Q : (Int32) → (Nat → Int32) → (Nat → Int32) → (Nat → Int32) → (Nat → Int32) → (Nat → Int32) → (Nat → Int32) → (Nat → Int32) → (Nat → Int32) → (Nat → Int32) → (Int32) → (Int32) → Prop) : Prop := wp_X9_isSheet a1 (fun r1 => (r1 = 0 → wp_X9_found fd (-1000000001) (fun r15 c15_0 => Q r15 c15_0 tsk tze tma tki tdn twi tdu the tyr tsz)) ∧ (¬ (r1 = 0) → vp_in a1 4 ∧ (wp_X7_isMissing bi (fun r3 => (r3 = 0 → wp_X9_isThing lsz a2 (fun r4 => (r4 = 0 → wp_X9_found fd (-1000000001) (fun r5 c5_0 => Q r5 c5_0 tsk tze tma tki tdn twi tdu the tyr tsz)) ∧ (¬ (r4 = 0) → wp_X9_isPerson a3 (fun r6 => (r6 = 0 → wp_X9_found fd (-1000000001) (fun r13 c13_0 => Q r13 c13_0 tsk tze tma tki tdn twi tdu the tyr tsz)) ∧ (¬ (r6 = 0) → ∃ n12 : Nat, wpl_X9_read_65 lsk lze lma lki ldn lwi ldu lyr lsz nu le a2 a3  (fun y12_5 y12_6 y12_tsk y12_tze y12_tma y12_tki y12_tdn y12_twi y12_tdu y12_the y12_tyr y12_tsz => Q y12_5 fd y12_tsk y12_tze y12_tma y12_tki y12_tdn y12_twi y12_tdu y12_the y12_tyr y12_tsz) n12 0 0 tsk tze tma tki tdn twi tdu the tyr tsz))))) ∧ (¬ (r3 = 0) → wp_X9_found fd (-1000000006) (fun r14 c14_0 => Q r14 c14_0 tsk tze tma tki tdn twi tdu the tyr tsz))))))
set_option maxRecDepth 100000 in
set_option maxHeartbeats 8000000 in
theorem ml_X9_read_75 {l : Launch} {D : va_G} {ca : Nat → ClassId} {sd : Nat → Nat}  {k : Kx} (aF : Nat → Nat) (aL : Nat → Nat) (aT : Nat → Nat) (aK : Nat → Nat) (nd : Nat → Nat) (tp : Nat → Nat) (sb : Nat → Nat) (sn : Nat → Nat) (j : Nat)  (fd : Nat → Int32) (ik : Int32) (lsk : Nat → Int32) (lze : Nat → Int32) (lma : Nat → Int32) (lki : Nat → Int32) (ldn : Nat → Int32) (lwi : Nat → Int32) (ldu : Nat → Int32) (lhe : Nat → Int32) (lyr : Int32) (lsz : Int32) (nu : Nat → Int64) (bi : Int32) (le : Int32) (x1 : Int32) (x2 : Int32) (x3 : Int32) (x6 : Int32) (C : Cx D ca sd cX9_read RX9 (some .int) { frames := 8, cells := 0, slots := 0, locals := 204 } k 8) {Q : (Int32) → (Nat → Int32) → (Nat → Int32) → (Nat → Int32) → (Nat → Int32) → (Nat → Int32) → (Nat → Int32) → (Nat → Int32) → (Nat → Int32) → (Nat → Int32) → (Int32) → (Int32) → Prop} (hR : Rx (Ri D (fun (r : Int32) (u : (Nat → Int32) × (Nat → Int32) × (Nat → Int32) × (Nat → Int32) × (Nat → Int32) × (Nat → Int32) × (Nat → Int32) × (Nat → Int32) × (Nat → Int32) × (Int32) × (Int32)) => Q r u.1 u.2.1 u.2.2.1 u.2.2.2.1 u.2.2.2.2.1 u.2.2.2.2.2.1 u.2.2.2.2.2.2.1 u.2.2.2.2.2.2.2.1 u.2.2.2.2.2.2.2.2.1 u.2.2.2.2.2.2.2.2.2.1 u.2.2.2.2.2.2.2.2.2.2) (fun u => ((wD ca (aF 2) u.1) ++ ((wF (aF 0) (aL 0) (aT 0) (aK 0) (tp 0) (aF 1) (aF 2) ik) ++ ((wN ca nd sd) ++ ((wC ca aT (nd 0) u.2.1 u.2.2.1 u.2.2.2.1 u.2.2.2.2.1 u.2.2.2.2.2.1 u.2.2.2.2.2.2.1 u.2.2.2.2.2.2.2.1 u.2.2.2.2.2.2.2.2.1 u.2.2.2.2.2.2.2.2.2.1 u.2.2.2.2.2.2.2.2.2.2) ++ ((wC ca aL (nd 0) lsk lze lma lki ldn lwi ldu lhe lyr lsz) ++ ((wA ca (aF 1) sb) ++ (wS ca (sb j) (sn j) nu bi le))))))))) 0 0 k) (hB : Wx k) {K : (Int32) → (Int32) → (Nat → Int32) → (Nat → Int32) → (Nat → Int32) → (Nat → Int32) → (Nat → Int32) → (Nat → Int32) → (Nat → Int32) → (Nat → Int32) → (Int32) → (Int32) → Prop} (hK : ∀ (x5' : Int32) (x7' : Int32) (tsk' : Nat → Int32) (tze' : Nat → Int32) (tma' : Nat → Int32) (tki' : Nat → Int32) (tdn' : Nat → Int32) (twi' : Nat → Int32) (tdu' : Nat → Int32) (the' : Nat → Int32) (tyr' : Int32) (tsz' : Int32), K x5' x7' tsk' tze' tma' tki' tdn' twi' tdu' the' tyr' tsz' → J l D k 8 0 0 134 ((wD ca (aF 2) fd) ++ ((wF (aF 0) (aL 0) (aT 0) (aK 0) (tp 0) (aF 1) (aF 2) ik) ++ ((wN ca nd sd) ++ ((wC ca aT (nd 0) tsk' tze' tma' tki' tdn' twi' tdu' the' tyr' tsz') ++ ((wC ca aL (nd 0) lsk lze lma lki ldn lwi ldu lhe lyr lsz) ++ ((wA ca (aF 1) sb) ++ (wS ca (sb j) (sn j) nu bi le))))))) [(0, .ref (aF 0)), (1, .int x1), (2, .int x2), (3, .int x3), (4, .ref (sb j)), (5, .int x5'), (6, .int x6), (7, .int x7')] []) : ∀ (n : Nat) (x5 : Int32) (x7 : Int32) (tsk : Nat → Int32) (tze : Nat → Int32) (tma : Nat → Int32) (tki : Nat → Int32) (tdn : Nat → Int32) (twi : Nat → Int32) (tdu : Nat → Int32) (the : Nat → Int32) (tyr : Int32) (tsz : Int32), wpl_X9_read_75 lsk lze lma lki ldn lwi ldu lyr lsz nu le x2 x3 x6  K n x5 x7 tsk tze tma tki tdn twi tdu the tyr tsz → J l D k 8 0 0 75 ((wD ca (aF 2) fd) ++ ((wF (aF 0) (aL 0) (aT 0) (aK 0) (tp 0) (aF 1) (aF 2) ik) ++ ((wN ca nd sd) ++ ((wC ca aT (nd 0) tsk tze tma tki tdn twi tdu the tyr tsz) ++ ((wC ca aL (nd 0) lsk lze lma lki ldn lwi ldu lhe lyr lsz) ++ ((wA ca (aF 1) sb) ++ (wS ca (sb j) (sn j) nu bi le))))))) [(0, .ref (aF 0)), (1, .int x1), (2, .int x2), (3, .int x3), (4, .ref (sb j)), (5, .int x5), (6, .int x6), (7, .int x7)] [] := by
  intro n
  induction n with
  | zero =>
    intro x5 x7 tsk tze tma tki tdn twi tdu the tyr tsz hw
    rw [wpl_X9_read_75] at hw
    exact hw.elim
  | succ n ih =>
    intro x5 x7 tsk tze tma tki tdn twi tdu the tyr tsz hw
    rw [wpl_X9_read_75] at hw
    refine j_iload C 7 dX9_read_75 rfl ?_
    refine j_bipush C 20 dX9_read_77 (by decide) ?_
    refine j_icmp_gt C 134 dX9_read_79 (by decide) (fun z => ?_) (fun z => ?_)
    · replace hw := hw.1 z
      exact hK x5 x7 tsk tze tma tki tdn twi tdu the tyr tsz hw
    · replace hw := hw.2 z
      refine j_aload_n C 0 dX9_read_82 rfl ?_
      refine j_get C fl_X9_50_9 1 dX9_read_83 rfl rfl ?_
      refine j_aload_n C 0 dX9_read_86 rfl ?_
      refine j_get C fl_X9_44_9 1 dX9_read_87 rfl rfl ?_
      refine j_cvT C hB 9 27 (fun u7 : (Nat → Int32) × (Nat → Int32) × (Nat → Int32) × (Nat → Int32) × (Nat → Int32) × (Nat → Int32) × (Nat → Int32) × (Int32) × (Int32) => ((wD ca (aF 2) fd) ++ ((wF (aF 0) (aL 0) (aT 0) (aK 0) (tp 0) (aF 1) (aF 2) ik) ++ ((wN ca nd sd) ++ ((wC ca aT (nd 0) u7.1 u7.2.1 u7.2.2.1 u7.2.2.2.1 u7.2.2.2.2.1 u7.2.2.2.2.2.1 u7.2.2.2.2.2.2.1 the u7.2.2.2.2.2.2.2.1 u7.2.2.2.2.2.2.2.2) ++ ((wC ca aL (nd 0) lsk lze lma lki ldn lwi ldu lhe lyr lsz) ++ ((wA ca (aF 1) sb) ++ (wS ca (sb j) (sn j) nu bi le)))))))) rfl (fun _ => rfl) (jr_V C lkV_X9_200 (c_X2_become aT aL (nd 0) tsk tze tma tki tdn twi tdu the tyr tsz lsk lze lma lki ldn lwi ldu lhe lyr lsz hw) ⟨rfl, rfl, by decide, by decide, by decide, by decide⟩ [9, 10, 11, 12, 13, 14, 15, 16, 17, 18, 19, 20, 21, 22, 23, 24, 25, 26] rfl rfl (fx_rw C hB [9, 10, 11, 12, 13, 14, 15, 16, 17, 18, 19, 20, 21, 22, 23, 24, 25, 26] rfl) 9 2 rfl rfl rfl rfl (Nat.le_of_ble_eq_true rfl) dX9_read_90) (fun u7 hw => ?_)
      refine j_aload_n C 0 dX9_read_93 rfl ?_
      refine j_get C fl_X9_50_9 1 dX9_read_94 rfl rfl ?_
      refine j_get C fl_X9_135_2 9 dX9_read_97 rfl rfl ?_
      refine j_iload_n C 2 dX9_read_100 rfl ?_
      refine j_iload C 6 dX9_read_101 rfl ?_
      have hi8 := hw.1
      replace hw := hw.2
      refine j_iast C hB 13 ((wD ca (aF 2) fd) ++ ((wF (aF 0) (aL 0) (aT 0) (aK 0) (tp 0) (aF 1) (aF 2) ik) ++ ((wN ca nd sd) ++ ((wC ca aT (nd 0) u7.1 u7.2.1 u7.2.2.1 (upd u7.2.2.2.1 (x2.toNatClampNeg) x6) u7.2.2.2.2.1 u7.2.2.2.2.2.1 u7.2.2.2.2.2.2.1 the u7.2.2.2.2.2.2.2.1 u7.2.2.2.2.2.2.2.2) ++ ((wC ca aL (nd 0) lsk lze lma lki ldn lwi ldu lhe lyr lsz) ++ ((wA ca (aF 1) sb) ++ (wS ca (sb j) (sn j) nu bi le))))))) dX9_read_103 rfl hi8 rfl ?_
      refine j_aload_n C 0 dX9_read_104 rfl ?_
      refine j_get C fl_X9_50_9 1 dX9_read_105 rfl rfl ?_
      refine j_get C fl_X9_91_2 9 dX9_read_108 rfl rfl ?_
      refine j_iload_n C 3 dX9_read_111 rfl ?_
      refine j_iload C 7 dX9_read_112 rfl ?_
      have hi9 := hw.1
      replace hw := hw.2
      refine j_iast C hB 10 ((wD ca (aF 2) fd) ++ ((wF (aF 0) (aL 0) (aT 0) (aK 0) (tp 0) (aF 1) (aF 2) ik) ++ ((wN ca nd sd) ++ ((wC ca aT (nd 0) (upd u7.1 (x3.toNatClampNeg) x7) u7.2.1 u7.2.2.1 (upd u7.2.2.2.1 (x2.toNatClampNeg) x6) u7.2.2.2.2.1 u7.2.2.2.2.2.1 u7.2.2.2.2.2.2.1 the u7.2.2.2.2.2.2.2.1 u7.2.2.2.2.2.2.2.2) ++ ((wC ca aL (nd 0) lsk lze lma lki ldn lwi ldu lhe lyr lsz) ++ ((wA ca (aF 1) sb) ++ (wS ca (sb j) (sn j) nu bi le))))))) dX9_read_114 rfl hi9 rfl ?_
      refine j_aload_n C 0 dX9_read_115 rfl ?_
      refine j_aload C 4 dX9_read_116 rfl ?_
      refine j_iload_n C 2 dX9_read_118 rfl ?_
      refine j_ciP C hB [1, 2, 3, 4, 5, 6, 7, 8, 9, 10, 11, 12, 13, 14, 15, 16, 17, 28, 29] [0, 18, 19, 20, 21, 22, 23, 24, 25, 26, 27] [0, 11, 12, 13, 14, 15, 16, 17, 18, 19, 20, 21, 22, 23, 24, 25, 26, 27, 1, 2, 3, 4, 5, 6, 7, 8, 9, 10, 28, 29] (fun u10 : (Nat → Int32) × (Nat → Int32) × (Nat → Int32) × (Nat → Int32) × (Nat → Int32) × (Nat → Int32) × (Int32) => ((wD ca (aF 2) fd) ++ ((wF (aF 0) (aL 0) (aT 0) (aK 0) (tp 0) (aF 1) (aF 2) ik) ++ ((wN ca nd sd) ++ ((wC ca aT (nd 0) (upd u7.1 (x3.toNatClampNeg) x7) u10.1 u10.2.1 (upd u7.2.2.2.1 (x2.toNatClampNeg) x6) u10.2.2.1 u10.2.2.2.1 u10.2.2.2.2.1 u10.2.2.2.2.2.1 u10.2.2.2.2.2.2 u7.2.2.2.2.2.2.2.2) ++ ((wC ca aL (nd 0) lsk lze lma lki ldn lwi ldu lhe lyr lsz) ++ ((wA ca (aF 1) sb) ++ (wS ca (sb j) (sn j) nu bi le)))))))) (([0, 18, 19, 20, 21, 22, 23, 24, 25, 26, 27] : List Nat).filterMap (fun i => ((wD ca (aF 2) fd) ++ ((wF (aF 0) (aL 0) (aT 0) (aK 0) (tp 0) (aF 1) (aF 2) ik) ++ ((wN ca nd sd) ++ ((wC ca aT (nd 0) (upd u7.1 (x3.toNatClampNeg) x7) u7.2.1 u7.2.2.1 (upd u7.2.2.2.1 (x2.toNatClampNeg) x6) u7.2.2.2.2.1 u7.2.2.2.2.2.1 u7.2.2.2.2.2.2.1 the u7.2.2.2.2.2.2.2.1 u7.2.2.2.2.2.2.2.2) ++ ((wC ca aL (nd 0) lsk lze lma lki ldn lwi ldu lhe lyr lsz) ++ ((wA ca (aF 1) sb) ++ (wS ca (sb j) (sn j) nu bi le)))))))[i]?)) rfl rfl rfl (by decide) rfl (fun _ => rfl) (jr_V C lkV_X9_267 (c_X9_trialGoesAsTold aF aL aT aK nd tp (sb j) (sn j) ik (upd u7.1 (x3.toNatClampNeg) x7) u7.2.1 u7.2.2.1 (upd u7.2.2.2.1 (x2.toNatClampNeg) x6) u7.2.2.2.2.1 u7.2.2.2.2.2.1 u7.2.2.2.2.2.2.1 the u7.2.2.2.2.2.2.2.1 u7.2.2.2.2.2.2.2.2 nu bi le x2 hw) ⟨rfl, rfl, by decide, by decide, by decide, by decide⟩ [1, 2, 3, 4, 5, 6, 7, 8, 9, 10, 11, 12, 13, 14, 15, 16, 17, 28, 29] rfl rfl (fx_rw C hB [1, 2, 3, 4, 5, 6, 7, 8, 9, 10, 11, 12, 13, 14, 15, 16, 17, 28, 29] rfl) 1 9 rfl rfl rfl rfl (Nat.le_of_ble_eq_true rfl) dX9_read_119) (fun r10 u10 hw => ?_)
      refine j_if_eq C 128 dX9_read_122 (by decide) (fun z => ?_) (fun z => ?_)
      · replace hw := hw.1 z
        refine j_iinc C 7 (x7 + 1) [(7, .int (x7 + 1)), (0, .ref (aF 0)), (1, .int x1), (2, .int x2), (3, .int x3), (4, .ref (sb j)), (5, .int x5), (6, .int x6)] dX9_read_128 rfl rfl (by decide) rfl ?_
        refine j_goto C 75 dX9_read_131 (by decide) ?_
        refine j_lsub [1, 2, 3, 4, 5, 6, 7, 0] [(0, .ref (aF 0)), (1, .int x1), (2, .int x2), (3, .int x3), (4, .ref (sb j)), (5, .int x5), (6, .int x6), (7, .int (x7 + 1))] rfl ?_
        exact ih x5 (x7 + 1) (upd u7.1 (x3.toNatClampNeg) x7) u10.1 u10.2.1 (upd u7.2.2.2.1 (x2.toNatClampNeg) x6) u10.2.2.1 u10.2.2.2.1 u10.2.2.2.2.1 u10.2.2.2.2.2.1 u10.2.2.2.2.2.2 u7.2.2.2.2.2.2.2.2 hw
      · replace hw := hw.2 z
        refine j_iinc C 5 (x5 + 1) [(5, .int (x5 + 1)), (0, .ref (aF 0)), (1, .int x1), (2, .int x2), (3, .int x3), (4, .ref (sb j)), (6, .int x6), (7, .int x7)] dX9_read_125 rfl rfl (by decide) rfl ?_
        refine j_iinc C 7 (x7 + 1) [(7, .int (x7 + 1)), (5, .int (x5 + 1)), (0, .ref (aF 0)), (1, .int x1), (2, .int x2), (3, .int x3), (4, .ref (sb j)), (6, .int x6)] dX9_read_128 rfl rfl (by decide) rfl ?_
        refine j_goto C 75 dX9_read_131 (by decide) ?_
        refine j_lsub [2, 3, 4, 5, 6, 1, 7, 0] [(0, .ref (aF 0)), (1, .int x1), (2, .int x2), (3, .int x3), (4, .ref (sb j)), (5, .int (x5 + 1)), (6, .int x6), (7, .int (x7 + 1))] rfl ?_
        exact ih (x5 + 1) (x7 + 1) (upd u7.1 (x3.toNatClampNeg) x7) u10.1 u10.2.1 (upd u7.2.2.2.1 (x2.toNatClampNeg) x6) u10.2.2.1 u10.2.2.2.1 u10.2.2.2.2.1 u10.2.2.2.2.2.1 u10.2.2.2.2.2.2 u7.2.2.2.2.2.2.2.2 hw
set_option maxRecDepth 100000 in
set_option maxHeartbeats 8000000 in
theorem ml_X9_read_65 {l : Launch} {D : va_G} {ca : Nat → ClassId} {sd : Nat → Nat}  {k : Kx} (aF : Nat → Nat) (aL : Nat → Nat) (aT : Nat → Nat) (aK : Nat → Nat) (nd : Nat → Nat) (tp : Nat → Nat) (sb : Nat → Nat) (sn : Nat → Nat) (j : Nat)  (fd : Nat → Int32) (ik : Int32) (lsk : Nat → Int32) (lze : Nat → Int32) (lma : Nat → Int32) (lki : Nat → Int32) (ldn : Nat → Int32) (lwi : Nat → Int32) (ldu : Nat → Int32) (lhe : Nat → Int32) (lyr : Int32) (lsz : Int32) (nu : Nat → Int64) (bi : Int32) (le : Int32) (x1 : Int32) (x2 : Int32) (x3 : Int32) (C : Cx D ca sd cX9_read RX9 (some .int) { frames := 8, cells := 0, slots := 0, locals := 204 } k 8) {Q : (Int32) → (Nat → Int32) → (Nat → Int32) → (Nat → Int32) → (Nat → Int32) → (Nat → Int32) → (Nat → Int32) → (Nat → Int32) → (Nat → Int32) → (Nat → Int32) → (Int32) → (Int32) → Prop} (hR : Rx (Ri D (fun (r : Int32) (u : (Nat → Int32) × (Nat → Int32) × (Nat → Int32) × (Nat → Int32) × (Nat → Int32) × (Nat → Int32) × (Nat → Int32) × (Nat → Int32) × (Nat → Int32) × (Int32) × (Int32)) => Q r u.1 u.2.1 u.2.2.1 u.2.2.2.1 u.2.2.2.2.1 u.2.2.2.2.2.1 u.2.2.2.2.2.2.1 u.2.2.2.2.2.2.2.1 u.2.2.2.2.2.2.2.2.1 u.2.2.2.2.2.2.2.2.2.1 u.2.2.2.2.2.2.2.2.2.2) (fun u => ((wD ca (aF 2) u.1) ++ ((wF (aF 0) (aL 0) (aT 0) (aK 0) (tp 0) (aF 1) (aF 2) ik) ++ ((wN ca nd sd) ++ ((wC ca aT (nd 0) u.2.1 u.2.2.1 u.2.2.2.1 u.2.2.2.2.1 u.2.2.2.2.2.1 u.2.2.2.2.2.2.1 u.2.2.2.2.2.2.2.1 u.2.2.2.2.2.2.2.2.1 u.2.2.2.2.2.2.2.2.2.1 u.2.2.2.2.2.2.2.2.2.2) ++ ((wC ca aL (nd 0) lsk lze lma lki ldn lwi ldu lhe lyr lsz) ++ ((wA ca (aF 1) sb) ++ (wS ca (sb j) (sn j) nu bi le))))))))) 0 0 k) (hB : Wx k) {K : (Int32) → (Int32) → (Nat → Int32) → (Nat → Int32) → (Nat → Int32) → (Nat → Int32) → (Nat → Int32) → (Nat → Int32) → (Nat → Int32) → (Nat → Int32) → (Int32) → (Int32) → Prop} (hK : ∀ (x5' : Int32) (x6' : Int32) (tsk' : Nat → Int32) (tze' : Nat → Int32) (tma' : Nat → Int32) (tki' : Nat → Int32) (tdn' : Nat → Int32) (twi' : Nat → Int32) (tdu' : Nat → Int32) (the' : Nat → Int32) (tyr' : Int32) (tsz' : Int32), K x5' x6' tsk' tze' tma' tki' tdn' twi' tdu' the' tyr' tsz' → J l D k 8 0 0 140 ((wD ca (aF 2) fd) ++ ((wF (aF 0) (aL 0) (aT 0) (aK 0) (tp 0) (aF 1) (aF 2) ik) ++ ((wN ca nd sd) ++ ((wC ca aT (nd 0) tsk' tze' tma' tki' tdn' twi' tdu' the' tyr' tsz') ++ ((wC ca aL (nd 0) lsk lze lma lki ldn lwi ldu lhe lyr lsz) ++ ((wA ca (aF 1) sb) ++ (wS ca (sb j) (sn j) nu bi le))))))) [(0, .ref (aF 0)), (1, .int x1), (2, .int x2), (3, .int x3), (4, .ref (sb j)), (5, .int x5'), (6, .int x6')] []) : ∀ (n : Nat) (x5 : Int32) (x6 : Int32) (tsk : Nat → Int32) (tze : Nat → Int32) (tma : Nat → Int32) (tki : Nat → Int32) (tdn : Nat → Int32) (twi : Nat → Int32) (tdu : Nat → Int32) (the : Nat → Int32) (tyr : Int32) (tsz : Int32), wpl_X9_read_65 lsk lze lma lki ldn lwi ldu lyr lsz nu le x2 x3  K n x5 x6 tsk tze tma tki tdn twi tdu the tyr tsz → J l D k 8 0 0 65 ((wD ca (aF 2) fd) ++ ((wF (aF 0) (aL 0) (aT 0) (aK 0) (tp 0) (aF 1) (aF 2) ik) ++ ((wN ca nd sd) ++ ((wC ca aT (nd 0) tsk tze tma tki tdn twi tdu the tyr tsz) ++ ((wC ca aL (nd 0) lsk lze lma lki ldn lwi ldu lhe lyr lsz) ++ ((wA ca (aF 1) sb) ++ (wS ca (sb j) (sn j) nu bi le))))))) [(0, .ref (aF 0)), (1, .int x1), (2, .int x2), (3, .int x3), (4, .ref (sb j)), (5, .int x5), (6, .int x6)] [] := by
  intro n
  induction n with
  | zero =>
    intro x5 x6 tsk tze tma tki tdn twi tdu the tyr tsz hw
    rw [wpl_X9_read_65] at hw
    exact hw.elim
  | succ n ih =>
    intro x5 x6 tsk tze tma tki tdn twi tdu the tyr tsz hw
    rw [wpl_X9_read_65] at hw
    refine j_iload C 6 dX9_read_65 rfl ?_
    refine j_bipush C 6 dX9_read_67 (by decide) ?_
    refine j_icmp_ge C 140 dX9_read_69 (by decide) (fun z => ?_) (fun z => ?_)
    · replace hw := hw.1 z
      exact hK x5 x6 tsk tze tma tki tdn twi tdu the tyr tsz hw
    · replace hw := hw.2 z
      refine j_iconst C 0 dX9_read_72 (by decide) ?_
      refine j_istore C [(7, .int 0), (0, .ref (aF 0)), (1, .int x1), (2, .int x2), (3, .int x3), (4, .ref (sb j)), (5, .int x5), (6, .int x6)] dX9_read_73 (by decide) rfl ?_
      refine j_lsub [1, 2, 3, 4, 5, 6, 7, 0] [(0, .ref (aF 0)), (1, .int x1), (2, .int x2), (3, .int x3), (4, .ref (sb j)), (5, .int x5), (6, .int x6), (7, .int 0)] rfl ?_
      obtain ⟨n11, hw⟩ := hw
      refine ml_X9_read_75 aF aL aT aK nd tp sb sn j  fd ik lsk lze lma lki ldn lwi ldu lhe lyr lsz nu bi le x1 x2 x3 x6 C hR hB (fun y11_5 y11_7 y11_tsk y11_tze y11_tma y11_tki y11_tdn y11_twi y11_tdu y11_the y11_tyr y11_tsz hw => ?_) n11 x5 0 tsk tze tma tki tdn twi tdu the tyr tsz hw
      refine j_iinc C 6 (x6 + 1) [(6, .int (x6 + 1)), (0, .ref (aF 0)), (1, .int x1), (2, .int x2), (3, .int x3), (4, .ref (sb j)), (5, .int y11_5), (7, .int y11_7)] dX9_read_134 rfl rfl (by decide) rfl ?_
      refine j_goto C 65 dX9_read_137 (by decide) ?_
      refine j_lsub [1, 2, 3, 4, 5, 6, 0] [(0, .ref (aF 0)), (1, .int x1), (2, .int x2), (3, .int x3), (4, .ref (sb j)), (5, .int y11_5), (6, .int (x6 + 1))] rfl ?_
      exact ih y11_5 (x6 + 1) y11_tsk y11_tze y11_tma y11_tki y11_tdn y11_twi y11_tdu y11_the y11_tyr y11_tsz hw
set_option maxRecDepth 100000 in
set_option maxHeartbeats 8000000 in
theorem c_X9_read {l : Launch} {D : va_G} {ca : Nat → ClassId} {sd : Nat → Nat}  (aF : Nat → Nat) (aL : Nat → Nat) (aT : Nat → Nat) (aK : Nat → Nat) (nd : Nat → Nat) (tp : Nat → Nat) (sb : Nat → Nat) (sn : Nat → Nat) (j : Nat) (fd : Nat → Int32) (ik : Int32) (tsk : Nat → Int32) (tze : Nat → Int32) (tma : Nat → Int32) (tki : Nat → Int32) (tdn : Nat → Int32) (twi : Nat → Int32) (tdu : Nat → Int32) (the : Nat → Int32) (tyr : Int32) (tsz : Int32) (lsk : Nat → Int32) (lze : Nat → Int32) (lma : Nat → Int32) (lki : Nat → Int32) (ldn : Nat → Int32) (lwi : Nat → Int32) (ldu : Nat → Int32) (lhe : Nat → Int32) (lyr : Int32) (lsz : Int32) (nu : Nat → Int64) (bi : Int32) (le : Int32)  (a1 : Int32) (a2 : Int32) (a3 : Int32) (hj : vp_in a1 4 → a1.toNatClampNeg = j) {Q : (Int32) → (Nat → Int32) → (Nat → Int32) → (Nat → Int32) → (Nat → Int32) → (Nat → Int32) → (Nat → Int32) → (Nat → Int32) → (Nat → Int32) → (Nat → Int32) → (Int32) → (Int32) → Prop} (hw : wp_X9_read fd tsk tze tma tki tdn twi tdu the tyr tsz lsk lze lma lki ldn lwi ldu lyr lsz nu bi le  a1 a2 a3 Q) : Cn l D ca sd yX9_read cX9_read 8 (some .int) { frames := 8, cells := 0, slots := 0, locals := 204 } [.ref (aF 0), .int a1, .int a2, .int a3] ((wD ca (aF 2) fd) ++ ((wF (aF 0) (aL 0) (aT 0) (aK 0) (tp 0) (aF 1) (aF 2) ik) ++ ((wN ca nd sd) ++ ((wC ca aT (nd 0) tsk tze tma tki tdn twi tdu the tyr tsz) ++ ((wC ca aL (nd 0) lsk lze lma lki ldn lwi ldu lhe lyr lsz) ++ ((wA ca (aF 1) sb) ++ (wS ca (sb j) (sn j) nu bi le))))))) ((wD ca (aF 2) fd) ++ ((wF (aF 0) (aL 0) (aT 0) (aK 0) (tp 0) (aF 1) (aF 2) ik) ++ ((wN ca nd sd) ++ ((wC ca aT (nd 0) tsk tze tma tki tdn twi tdu the tyr tsz) ++ ((wC ca aL (nd 0) lsk lze lma lki ldn lwi ldu lhe lyr lsz) ++ ((wA ca (aF 1) sb) ++ (wS ca (sb j) (sn j) nu bi le))))))) 0 0 (Ri D (fun (r : Int32) (u : (Nat → Int32) × (Nat → Int32) × (Nat → Int32) × (Nat → Int32) × (Nat → Int32) × (Nat → Int32) × (Nat → Int32) × (Nat → Int32) × (Nat → Int32) × (Int32) × (Int32)) => Q r u.1 u.2.1 u.2.2.1 u.2.2.2.1 u.2.2.2.2.1 u.2.2.2.2.2.1 u.2.2.2.2.2.2.1 u.2.2.2.2.2.2.2.1 u.2.2.2.2.2.2.2.2.1 u.2.2.2.2.2.2.2.2.2.1 u.2.2.2.2.2.2.2.2.2.2) (fun u => ((wD ca (aF 2) u.1) ++ ((wF (aF 0) (aL 0) (aT 0) (aK 0) (tp 0) (aF 1) (aF 2) ik) ++ ((wN ca nd sd) ++ ((wC ca aT (nd 0) u.2.1 u.2.2.1 u.2.2.2.1 u.2.2.2.2.1 u.2.2.2.2.2.1 u.2.2.2.2.2.2.1 u.2.2.2.2.2.2.2.1 u.2.2.2.2.2.2.2.2.1 u.2.2.2.2.2.2.2.2.2.1 u.2.2.2.2.2.2.2.2.2.2) ++ ((wC ca aL (nd 0) lsk lze lma lki ldn lwi ldu lhe lyr lsz) ++ ((wA ca (aF 1) sb) ++ (wS ca (sb j) (sn j) nu bi le))))))))) := by
  refine cn_of (by decide) (Nat.le_of_ble_eq_true rfl) (fun k C hR hB _ => ?_)
  have C : Cx D ca sd cX9_read RX9 (some .int) { frames := 8, cells := 0, slots := 0, locals := 204 } k 8 := C
  unfold wp_X9_read at hw
  show J l D k 8 0 0 0 ((wD ca (aF 2) fd) ++ ((wF (aF 0) (aL 0) (aT 0) (aK 0) (tp 0) (aF 1) (aF 2) ik) ++ ((wN ca nd sd) ++ ((wC ca aT (nd 0) tsk tze tma tki tdn twi tdu the tyr tsz) ++ ((wC ca aL (nd 0) lsk lze lma lki ldn lwi ldu lhe lyr lsz) ++ ((wA ca (aF 1) sb) ++ (wS ca (sb j) (sn j) nu bi le))))))) [(0, .ref (aF 0)), (1, .int a1), (2, .int a2), (3, .int a3)] []
  refine j_iload_n C 1 dX9_read_0 rfl ?_
  refine j_ciZ C (jr_S C lkS_X9_230 (c_X9_isSheet a1 hw) ⟨rfl, rfl, by decide, by decide, by decide, by decide⟩ [] (by decide) rfl (fx_ro C) rfl rfl (Nat.le_of_ble_eq_true rfl) dX9_read_1) (fun r1 u1 hw => ?_)
  refine j_if_ne C 14 dX9_read_4 (by decide) (fun z => ?_) (fun z => ?_)
  · replace hw := hw.2 z
    refine j_aload_n C 0 dX9_read_14 rfl ?_
    refine j_get C fl_X9_69_9 1 dX9_read_15 rfl rfl ?_
    refine j_iload_n C 1 dX9_read_18 rfl ?_
    have hi2 := hw.1
    replace hw := hw.2
    refine j_aald C (E := "UnfinishedFair$Sheet") 27 dX9_read_19 rfl rfl hi2 (congrArg (fun z => some (sb z)) (hj hi2)) ?_
    refine j_astore C [(4, .ref (sb j)), (0, .ref (aF 0)), (1, .int a1), (2, .int a2), (3, .int a3)] dX9_read_20 (by decide) rfl ?_
    refine j_aload C 0 dX9_read_22 rfl ?_
    refine j_ciZ C (jr_V C lkV_X9_241 (c_X7_isMissing (sb j) (sn j) nu bi le hw) ⟨rfl, rfl, by decide, by decide, by decide, by decide⟩ [28, 29] (by decide) rfl (fx_ro C) 28 7 rfl rfl rfl rfl (Nat.le_of_ble_eq_true rfl) dX9_read_24) (fun r3 u3 hw => ?_)
    refine j_if_eq C 37 dX9_read_27 (by decide) (fun z => ?_) (fun z => ?_)
    · replace hw := hw.1 z
      refine j_aload_n C 1 dX9_read_37 rfl ?_
      refine j_iload_n C 3 dX9_read_38 rfl ?_
      refine j_ciZ C (jr_V C lkV_X9_132 (c_X9_isThing aF aL aT aK nd tp ik lsk lze lma lki ldn lwi ldu lhe lyr lsz a2 hw) ⟨rfl, rfl, by decide, by decide, by decide, by decide⟩ [1, 18, 19, 20, 21, 22, 23, 24, 25, 26] (by decide) rfl (fx_ro C) 1 9 rfl rfl rfl rfl (Nat.le_of_ble_eq_true rfl) dX9_read_39) (fun r4 u4 hw => ?_)
      refine j_if_eq C 52 dX9_read_42 (by decide) (fun z => ?_) (fun z => ?_)
      · replace hw := hw.1 z
        refine j_aload_n C 1 dX9_read_52 rfl ?_
        refine j_ldc C dX9_read_53 ct_X9_82 ?_
        refine j_ciT C hB 0 2 (fun u5 : (Nat → Int32) => ((wD ca (aF 2) u5) ++ ((wF (aF 0) (aL 0) (aT 0) (aK 0) (tp 0) (aF 1) (aF 2) ik) ++ ((wN ca nd sd) ++ ((wC ca aT (nd 0) tsk tze tma tki tdn twi tdu the tyr tsz) ++ ((wC ca aL (nd 0) lsk lze lma lki ldn lwi ldu lhe lyr lsz) ++ ((wA ca (aF 1) sb) ++ (wS ca (sb j) (sn j) nu bi le)))))))) rfl (fun _ => rfl) (jr_V C lkV_X9_83 (c_X9_found aF aL aT aK nd tp fd ik (-1000000001) hw) ⟨rfl, rfl, by decide, by decide, by decide, by decide⟩ [0, 1] (by decide) rfl (fx_rw C hB [0, 1] rfl) 1 9 rfl rfl rfl rfl (Nat.le_of_ble_eq_true rfl) dX9_read_55) (fun r5 u5 hw => ?_)
        exact j_iret C hB hR (u5, tsk, tze, tma, tki, tdn, twi, tdu, the, tyr, tsz) rfl dX9_read_58 hw rfl
      · replace hw := hw.2 z
        refine j_iload_n C 4 dX9_read_45 rfl ?_
        refine j_ciZ C (jr_S C lkS_X9_78 (c_X9_isPerson a3 hw) ⟨rfl, rfl, by decide, by decide, by decide, by decide⟩ [] (by decide) rfl (fx_ro C) rfl rfl (Nat.le_of_ble_eq_true rfl) dX9_read_46) (fun r6 u6 hw => ?_)
        refine j_if_ne C 59 dX9_read_49 (by decide) (fun z => ?_) (fun z => ?_)
        · replace hw := hw.2 z
          refine j_iconst C 0 dX9_read_59 (by decide) ?_
          refine j_istore C [(5, .int 0), (4, .ref (sb j)), (0, .ref (aF 0)), (1, .int a1), (2, .int a2), (3, .int a3)] dX9_read_60 (by decide) rfl ?_
          refine j_iconst C 0 dX9_read_62 (by decide) ?_
          refine j_istore C [(6, .int 0), (5, .int 0), (4, .ref (sb j)), (0, .ref (aF 0)), (1, .int a1), (2, .int a2), (3, .int a3)] dX9_read_63 (by decide) rfl ?_
          refine j_lsub [3, 4, 5, 6, 2, 1, 0] [(0, .ref (aF 0)), (1, .int a1), (2, .int a2), (3, .int a3), (4, .ref (sb j)), (5, .int 0), (6, .int 0)] rfl ?_
          obtain ⟨n12, hw⟩ := hw
          refine ml_X9_read_65 aF aL aT aK nd tp sb sn j  fd ik lsk lze lma lki ldn lwi ldu lhe lyr lsz nu bi le a1 a2 a3 C hR hB (fun y12_5 y12_6 y12_tsk y12_tze y12_tma y12_tki y12_tdn y12_twi y12_tdu y12_the y12_tyr y12_tsz hw => ?_) n12 0 0 tsk tze tma tki tdn twi tdu the tyr tsz hw
          refine j_iload C 5 dX9_read_140 rfl ?_
          exact j_iret C hB hR (fd, y12_tsk, y12_tze, y12_tma, y12_tki, y12_tdn, y12_twi, y12_tdu, y12_the, y12_tyr, y12_tsz) rfl dX9_read_142 hw rfl
        · replace hw := hw.1 z
          refine j_aload_n C 1 dX9_read_52 rfl ?_
          refine j_ldc C dX9_read_53 ct_X9_82 ?_
          refine j_ciT C hB 0 2 (fun u13 : (Nat → Int32) => ((wD ca (aF 2) u13) ++ ((wF (aF 0) (aL 0) (aT 0) (aK 0) (tp 0) (aF 1) (aF 2) ik) ++ ((wN ca nd sd) ++ ((wC ca aT (nd 0) tsk tze tma tki tdn twi tdu the tyr tsz) ++ ((wC ca aL (nd 0) lsk lze lma lki ldn lwi ldu lhe lyr lsz) ++ ((wA ca (aF 1) sb) ++ (wS ca (sb j) (sn j) nu bi le)))))))) rfl (fun _ => rfl) (jr_V C lkV_X9_83 (c_X9_found aF aL aT aK nd tp fd ik (-1000000001) hw) ⟨rfl, rfl, by decide, by decide, by decide, by decide⟩ [0, 1] (by decide) rfl (fx_rw C hB [0, 1] rfl) 1 9 rfl rfl rfl rfl (Nat.le_of_ble_eq_true rfl) dX9_read_55) (fun r13 u13 hw => ?_)
          exact j_iret C hB hR (u13, tsk, tze, tma, tki, tdn, twi, tdu, the, tyr, tsz) rfl dX9_read_58 hw rfl
    · replace hw := hw.2 z
      refine j_aload_n C 1 dX9_read_30 rfl ?_
      refine j_ldc C dX9_read_31 ct_X9_244 ?_
      refine j_ciT C hB 0 2 (fun u14 : (Nat → Int32) => ((wD ca (aF 2) u14) ++ ((wF (aF 0) (aL 0) (aT 0) (aK 0) (tp 0) (aF 1) (aF 2) ik) ++ ((wN ca nd sd) ++ ((wC ca aT (nd 0) tsk tze tma tki tdn twi tdu the tyr tsz) ++ ((wC ca aL (nd 0) lsk lze lma lki ldn lwi ldu lhe lyr lsz) ++ ((wA ca (aF 1) sb) ++ (wS ca (sb j) (sn j) nu bi le)))))))) rfl (fun _ => rfl) (jr_V C lkV_X9_83 (c_X9_found aF aL aT aK nd tp fd ik (-1000000006) hw) ⟨rfl, rfl, by decide, by decide, by decide, by decide⟩ [0, 1] (by decide) rfl (fx_rw C hB [0, 1] rfl) 1 9 rfl rfl rfl rfl (Nat.le_of_ble_eq_true rfl) dX9_read_33) (fun r14 u14 hw => ?_)
      exact j_iret C hB hR (u14, tsk, tze, tma, tki, tdn, twi, tdu, the, tyr, tsz) rfl dX9_read_36 hw rfl
  · replace hw := hw.1 z
    refine j_aload_n C 0 dX9_read_7 rfl ?_
    refine j_ldc C dX9_read_8 ct_X9_82 ?_
    refine j_ciT C hB 0 2 (fun u15 : (Nat → Int32) => ((wD ca (aF 2) u15) ++ ((wF (aF 0) (aL 0) (aT 0) (aK 0) (tp 0) (aF 1) (aF 2) ik) ++ ((wN ca nd sd) ++ ((wC ca aT (nd 0) tsk tze tma tki tdn twi tdu the tyr tsz) ++ ((wC ca aL (nd 0) lsk lze lma lki ldn lwi ldu lhe lyr lsz) ++ ((wA ca (aF 1) sb) ++ (wS ca (sb j) (sn j) nu bi le)))))))) rfl (fun _ => rfl) (jr_V C lkV_X9_83 (c_X9_found aF aL aT aK nd tp fd ik (-1000000001) hw) ⟨rfl, rfl, by decide, by decide, by decide, by decide⟩ [0, 1] (by decide) rfl (fx_rw C hB [0, 1] rfl) 1 9 rfl rfl rfl rfl (Nat.le_of_ble_eq_true rfl) dX9_read_10) (fun r15 u15 hw => ?_)
    exact j_iret C hB hR (u15, tsk, tze, tma, tki, tdn, twi, tdu, the, tyr, tsz) rfl dX9_read_13 hw rfl
def wp_X9_image (ksk : Nat → Int32) (kze : Nat → Int32) (kma : Nat → Int32) (kki : Nat → Int32) (kdn : Nat → Int32) (kwi : Nat → Int32) (kdu : Nat → Int32) (lsk : Nat → Int32) (lze : Nat → Int32) (lma : Nat → Int32) (lki : Nat → Int32) (ldn : Nat → Int32) (lwi : Nat → Int32) (ldu : Nat → Int32) (lyr : Int32) (lsz : Int32)   (Q : (Int32) → (Int32) → (Nat → Int32) → (Nat → Int32) → (Nat → Int32) → (Nat → Int32) → (Nat → Int32) → (Nat → Int32) → (Nat → Int32) → (Int32) → (Int32) → Prop) : Prop := wp_X2_become ksk kze kma kki kdn kwi kdu lsk lze lma lki ldn lwi ldu lyr lsz (fun c1_0 c1_1 c1_2 c1_3 c1_4 c1_5 c1_6 c1_7 c1_8 => Q 1 1 c1_0 c1_1 c1_2 c1_3 c1_4 c1_5 c1_6 c1_7 c1_8)
set_option maxRecDepth 100000 in
set_option maxHeartbeats 8000000 in
theorem c_X9_image {l : Launch} {D : va_G} {ca : Nat → ClassId} {sd : Nat → Nat}  (aF : Nat → Nat) (aL : Nat → Nat) (aT : Nat → Nat) (aK : Nat → Nat) (nd : Nat → Nat) (tp : Nat → Nat) (ik : Int32) (ksk : Nat → Int32) (kze : Nat → Int32) (kma : Nat → Int32) (kki : Nat → Int32) (kdn : Nat → Int32) (kwi : Nat → Int32) (kdu : Nat → Int32) (khe : Nat → Int32) (kyr : Int32) (ksz : Int32) (lsk : Nat → Int32) (lze : Nat → Int32) (lma : Nat → Int32) (lki : Nat → Int32) (ldn : Nat → Int32) (lwi : Nat → Int32) (ldu : Nat → Int32) (lhe : Nat → Int32) (lyr : Int32) (lsz : Int32)    {Q : (Int32) → (Int32) → (Nat → Int32) → (Nat → Int32) → (Nat → Int32) → (Nat → Int32) → (Nat → Int32) → (Nat → Int32) → (Nat → Int32) → (Int32) → (Int32) → Prop} (hw : wp_X9_image ksk kze kma kki kdn kwi kdu lsk lze lma lki ldn lwi ldu lyr lsz   Q) : Cn l D ca sd yX9_image cX9_image 1 (some .int) { frames := 2, cells := 0, slots := 0, locals := 81 } [.ref (aF 0)] ((wF (aF 0) (aL 0) (aT 0) (aK 0) (tp 0) (aF 1) (aF 2) ik) ++ ((wC ca aK (nd 0) ksk kze kma kki kdn kwi kdu khe kyr ksz) ++ (wC ca aL (nd 0) lsk lze lma lki ldn lwi ldu lhe lyr lsz))) ((wF (aF 0) (aL 0) (aT 0) (aK 0) (tp 0) (aF 1) (aF 2) ik) ++ ((wC ca aK (nd 0) ksk kze kma kki kdn kwi kdu khe kyr ksz) ++ (wC ca aL (nd 0) lsk lze lma lki ldn lwi ldu lhe lyr lsz))) 0 0 (Ri D (fun (r : Int32) (u : (Int32) × (Nat → Int32) × (Nat → Int32) × (Nat → Int32) × (Nat → Int32) × (Nat → Int32) × (Nat → Int32) × (Nat → Int32) × (Int32) × (Int32)) => Q r u.1 u.2.1 u.2.2.1 u.2.2.2.1 u.2.2.2.2.1 u.2.2.2.2.2.1 u.2.2.2.2.2.2.1 u.2.2.2.2.2.2.2.1 u.2.2.2.2.2.2.2.2.1 u.2.2.2.2.2.2.2.2.2) (fun u => ((wF (aF 0) (aL 0) (aT 0) (aK 0) (tp 0) (aF 1) (aF 2) u.1) ++ ((wC ca aK (nd 0) u.2.1 u.2.2.1 u.2.2.2.1 u.2.2.2.2.1 u.2.2.2.2.2.1 u.2.2.2.2.2.2.1 u.2.2.2.2.2.2.2.1 khe u.2.2.2.2.2.2.2.2.1 u.2.2.2.2.2.2.2.2.2) ++ (wC ca aL (nd 0) lsk lze lma lki ldn lwi ldu lhe lyr lsz))))) := by
  refine cn_of (by decide) (Nat.le_of_ble_eq_true rfl) (fun k C hR hB _ => ?_)
  have C : Cx D ca sd cX9_image RX9 (some .int) { frames := 2, cells := 0, slots := 0, locals := 81 } k 1 := C
  unfold wp_X9_image at hw
  show J l D k 1 0 0 0 ((wF (aF 0) (aL 0) (aT 0) (aK 0) (tp 0) (aF 1) (aF 2) ik) ++ ((wC ca aK (nd 0) ksk kze kma kki kdn kwi kdu khe kyr ksz) ++ (wC ca aL (nd 0) lsk lze lma lki ldn lwi ldu lhe lyr lsz))) [(0, .ref (aF 0))] []
  refine j_aload_n C 0 dX9_image_0 rfl ?_
  refine j_get C fl_X9_53_9 0 dX9_image_1 rfl rfl ?_
  refine j_aload_n C 0 dX9_image_4 rfl ?_
  refine j_get C fl_X9_44_9 0 dX9_image_5 rfl rfl ?_
  refine j_cvT C hB 1 19 (fun u1 : (Nat → Int32) × (Nat → Int32) × (Nat → Int32) × (Nat → Int32) × (Nat → Int32) × (Nat → Int32) × (Nat → Int32) × (Int32) × (Int32) => ((wF (aF 0) (aL 0) (aT 0) (aK 0) (tp 0) (aF 1) (aF 2) ik) ++ ((wC ca aK (nd 0) u1.1 u1.2.1 u1.2.2.1 u1.2.2.2.1 u1.2.2.2.2.1 u1.2.2.2.2.2.1 u1.2.2.2.2.2.2.1 khe u1.2.2.2.2.2.2.2.1 u1.2.2.2.2.2.2.2.2) ++ (wC ca aL (nd 0) lsk lze lma lki ldn lwi ldu lhe lyr lsz)))) rfl (fun _ => rfl) (jr_V C lkV_X9_200 (c_X2_become aK aL (nd 0) ksk kze kma kki kdn kwi kdu khe kyr ksz lsk lze lma lki ldn lwi ldu lhe lyr lsz hw) ⟨rfl, rfl, by decide, by decide, by decide, by decide⟩ [1, 2, 3, 4, 5, 6, 7, 8, 9, 10, 11, 12, 13, 14, 15, 16, 17, 18] rfl rfl (fx_rw C hB [1, 2, 3, 4, 5, 6, 7, 8, 9, 10, 11, 12, 13, 14, 15, 16, 17, 18] rfl) 1 2 rfl rfl rfl rfl (Nat.le_of_ble_eq_true rfl) dX9_image_8) (fun u1 hw => ?_)
  refine j_aload_n C 0 dX9_image_11 rfl ?_
  refine j_iconst C 1 dX9_image_12 (by decide) ?_
  refine j_put C hB fw_X9_56_9 0 ((wF (aF 0) (aL 0) (aT 0) (aK 0) (tp 0) (aF 1) (aF 2) 1) ++ ((wC ca aK (nd 0) u1.1 u1.2.1 u1.2.2.1 u1.2.2.2.1 u1.2.2.2.2.1 u1.2.2.2.2.2.1 u1.2.2.2.2.2.2.1 khe u1.2.2.2.2.2.2.2.1 u1.2.2.2.2.2.2.2.2) ++ (wC ca aL (nd 0) lsk lze lma lki ldn lwi ldu lhe lyr lsz))) dX9_image_13 rfl (by decide) (by decide) (Nat.le_of_ble_eq_true rfl) rfl ?_
  refine j_iconst C 1 dX9_image_16 (by decide) ?_
  exact j_iret C hB hR (1, u1.1, u1.2.1, u1.2.2.1, u1.2.2.2.1, u1.2.2.2.2.1, u1.2.2.2.2.2.1, u1.2.2.2.2.2.2.1, u1.2.2.2.2.2.2.2.1, u1.2.2.2.2.2.2.2.2) rfl dX9_image_17 hw rfl
def wp_X9_undo (fd : Nat → Int32) (ik : Int32) (ksk : Nat → Int32) (kze : Nat → Int32) (kma : Nat → Int32) (kki : Nat → Int32) (kdn : Nat → Int32) (kwi : Nat → Int32) (kdu : Nat → Int32) (kyr : Int32) (ksz : Int32) (lsk : Nat → Int32) (lze : Nat → Int32) (lma : Nat → Int32) (lki : Nat → Int32) (ldn : Nat → Int32) (lwi : Nat → Int32) (ldu : Nat → Int32) (lyr : Int32) (lsz : Int32)   (Q : (Int32) → (Nat → Int32) → (Nat → Int32) → (Nat → Int32) → (Nat → Int32) → (Nat → Int32) → (Nat → Int32) → (Nat → Int32) → (Nat → Int32) → (Int32) → (Int32) → Prop) : Prop := (ik = 0 → wp_X9_found fd (-1000000004) (fun r2 c2_0 => Q r2 c2_0 lsk lze lma lki ldn lwi ldu lyr lsz)) ∧ (¬ (ik = 0) → wp_X2_becomeR ksk kze kma kki kdn kwi kdu kyr ksz lsk lze lma lki ldn lwi ldu (fun c1_0 c1_1 c1_2 c1_3 c1_4 c1_5 c1_6 c1_7 c1_8 => Q c1_8 fd c1_0 c1_1 c1_2 c1_3 c1_4 c1_5 c1_6 c1_7 c1_8))
set_option maxRecDepth 100000 in
set_option maxHeartbeats 8000000 in
theorem c_X9_undo {l : Launch} {D : va_G} {ca : Nat → ClassId} {sd : Nat → Nat}  (aF : Nat → Nat) (aL : Nat → Nat) (aT : Nat → Nat) (aK : Nat → Nat) (nd : Nat → Nat) (tp : Nat → Nat) (fd : Nat → Int32) (ik : Int32) (ksk : Nat → Int32) (kze : Nat → Int32) (kma : Nat → Int32) (kki : Nat → Int32) (kdn : Nat → Int32) (kwi : Nat → Int32) (kdu : Nat → Int32) (khe : Nat → Int32) (kyr : Int32) (ksz : Int32) (lsk : Nat → Int32) (lze : Nat → Int32) (lma : Nat → Int32) (lki : Nat → Int32) (ldn : Nat → Int32) (lwi : Nat → Int32) (ldu : Nat → Int32) (lhe : Nat → Int32) (lyr : Int32) (lsz : Int32)    {Q : (Int32) → (Nat → Int32) → (Nat → Int32) → (Nat → Int32) → (Nat → Int32) → (Nat → Int32) → (Nat → Int32) → (Nat → Int32) → (Nat → Int32) → (Int32) → (Int32) → Prop} (hw : wp_X9_undo fd ik ksk kze kma kki kdn kwi kdu kyr ksz lsk lze lma lki ldn lwi ldu lyr lsz   Q) : Cn l D ca sd yX9_undo cX9_undo 1 (some .int) { frames := 2, cells := 0, slots := 0, locals := 81 } [.ref (aF 0)] ((wD ca (aF 2) fd) ++ ((wF (aF 0) (aL 0) (aT 0) (aK 0) (tp 0) (aF 1) (aF 2) ik) ++ ((wC ca aK (nd 0) ksk kze kma kki kdn kwi kdu khe kyr ksz) ++ (wC ca aL (nd 0) lsk lze lma lki ldn lwi ldu lhe lyr lsz)))) ((wD ca (aF 2) fd) ++ ((wF (aF 0) (aL 0) (aT 0) (aK 0) (tp 0) (aF 1) (aF 2) ik) ++ ((wC ca aK (nd 0) ksk kze kma kki kdn kwi kdu khe kyr ksz) ++ (wC ca aL (nd 0) lsk lze lma lki ldn lwi ldu lhe lyr lsz)))) 0 0 (Ri D (fun (r : Int32) (u : (Nat → Int32) × (Nat → Int32) × (Nat → Int32) × (Nat → Int32) × (Nat → Int32) × (Nat → Int32) × (Nat → Int32) × (Nat → Int32) × (Int32) × (Int32)) => Q r u.1 u.2.1 u.2.2.1 u.2.2.2.1 u.2.2.2.2.1 u.2.2.2.2.2.1 u.2.2.2.2.2.2.1 u.2.2.2.2.2.2.2.1 u.2.2.2.2.2.2.2.2.1 u.2.2.2.2.2.2.2.2.2) (fun u => ((wD ca (aF 2) u.1) ++ ((wF (aF 0) (aL 0) (aT 0) (aK 0) (tp 0) (aF 1) (aF 2) ik) ++ ((wC ca aK (nd 0) ksk kze kma kki kdn kwi kdu khe kyr ksz) ++ (wC ca aL (nd 0) u.2.1 u.2.2.1 u.2.2.2.1 u.2.2.2.2.1 u.2.2.2.2.2.1 u.2.2.2.2.2.2.1 u.2.2.2.2.2.2.2.1 lhe u.2.2.2.2.2.2.2.2.1 u.2.2.2.2.2.2.2.2.2)))))) := by
  refine cn_of (by decide) (Nat.le_of_ble_eq_true rfl) (fun k C hR hB _ => ?_)
  have C : Cx D ca sd cX9_undo RX9 (some .int) { frames := 2, cells := 0, slots := 0, locals := 81 } k 1 := C
  unfold wp_X9_undo at hw
  show J l D k 1 0 0 0 ((wD ca (aF 2) fd) ++ ((wF (aF 0) (aL 0) (aT 0) (aK 0) (tp 0) (aF 1) (aF 2) ik) ++ ((wC ca aK (nd 0) ksk kze kma kki kdn kwi kdu khe kyr ksz) ++ (wC ca aL (nd 0) lsk lze lma lki ldn lwi ldu lhe lyr lsz)))) [(0, .ref (aF 0))] []
  refine j_aload_n C 0 dX9_undo_0 rfl ?_
  refine j_get C fl_X9_56_9 1 dX9_undo_1 rfl rfl ?_
  refine j_if_ne C 14 dX9_undo_4 (by decide) (fun z => ?_) (fun z => ?_)
  · replace hw := hw.2 z
    refine j_aload_n C 0 dX9_undo_14 rfl ?_
    refine j_get C fl_X9_44_9 1 dX9_undo_15 rfl rfl ?_
    refine j_aload_n C 0 dX9_undo_18 rfl ?_
    refine j_get C fl_X9_53_9 1 dX9_undo_19 rfl rfl ?_
    refine j_cvT C hB 2 20 (fun u1 : (Nat → Int32) × (Nat → Int32) × (Nat → Int32) × (Nat → Int32) × (Nat → Int32) × (Nat → Int32) × (Nat → Int32) × (Int32) × (Int32) => ((wD ca (aF 2) fd) ++ ((wF (aF 0) (aL 0) (aT 0) (aK 0) (tp 0) (aF 1) (aF 2) ik) ++ ((wC ca aK (nd 0) ksk kze kma kki kdn kwi kdu khe kyr ksz) ++ (wC ca aL (nd 0) u1.1 u1.2.1 u1.2.2.1 u1.2.2.2.1 u1.2.2.2.2.1 u1.2.2.2.2.2.1 u1.2.2.2.2.2.2.1 lhe u1.2.2.2.2.2.2.2.1 u1.2.2.2.2.2.2.2.2))))) rfl (fun _ => rfl) (jr_V C lkV_X9_200 (c_X2_becomeR aL aK (nd 0) ksk kze kma kki kdn kwi kdu khe kyr ksz lsk lze lma lki ldn lwi ldu lhe lyr lsz hw) ⟨rfl, rfl, by decide, by decide, by decide, by decide⟩ [2, 3, 4, 5, 6, 7, 8, 9, 10, 11, 12, 13, 14, 15, 16, 17, 18, 19] rfl rfl (fx_rw C hB [2, 3, 4, 5, 6, 7, 8, 9, 10, 11, 12, 13, 14, 15, 16, 17, 18, 19] rfl) 11 2 rfl rfl rfl rfl (Nat.le_of_ble_eq_true rfl) dX9_undo_22) (fun u1 hw => ?_)
    refine j_aload_n C 0 dX9_undo_25 rfl ?_
    refine j_get C fl_X9_44_9 1 dX9_undo_26 rfl rfl ?_
    refine j_get C fl_X9_124_2 11 dX9_undo_29 rfl rfl ?_
    exact j_iret C hB hR (fd, u1.1, u1.2.1, u1.2.2.1, u1.2.2.2.1, u1.2.2.2.2.1, u1.2.2.2.2.2.1, u1.2.2.2.2.2.2.1, u1.2.2.2.2.2.2.2.1, u1.2.2.2.2.2.2.2.2) rfl dX9_undo_32 hw rfl
  · replace hw := hw.1 z
    refine j_aload_n C 0 dX9_undo_7 rfl ?_
    refine j_ldc C dX9_undo_8 ct_X9_187 ?_
    refine j_ciT C hB 0 2 (fun u2 : (Nat → Int32) => ((wD ca (aF 2) u2) ++ ((wF (aF 0) (aL 0) (aT 0) (aK 0) (tp 0) (aF 1) (aF 2) ik) ++ ((wC ca aK (nd 0) ksk kze kma kki kdn kwi kdu khe kyr ksz) ++ (wC ca aL (nd 0) lsk lze lma lki ldn lwi ldu lhe lyr lsz))))) rfl (fun _ => rfl) (jr_V C lkV_X9_83 (c_X9_found aF aL aT aK nd tp fd ik (-1000000004) hw) ⟨rfl, rfl, by decide, by decide, by decide, by decide⟩ [0, 1] (by decide) rfl (fx_rw C hB [0, 1] rfl) 1 9 rfl rfl rfl rfl (Nat.le_of_ble_eq_true rfl) dX9_undo_10) (fun r2 u2 hw => ?_)
    exact j_iret C hB hR (u2, lsk, lze, lma, lki, ldn, lwi, ldu, lyr, lsz) rfl dX9_undo_13 hw rfl
def wp_X9_tear (ik : Int32)   (Q : (Int32) → (Int32) → Prop) : Prop := (ik = 0 → Q 0 0) ∧ (¬ (ik = 0) → Q 1 0)
set_option maxRecDepth 100000 in
set_option maxHeartbeats 8000000 in
theorem c_X9_tear {l : Launch} {D : va_G} {ca : Nat → ClassId} {sd : Nat → Nat}  (aF : Nat → Nat) (aL : Nat → Nat) (aT : Nat → Nat) (aK : Nat → Nat) (nd : Nat → Nat) (tp : Nat → Nat) (ik : Int32)    {Q : (Int32) → (Int32) → Prop} (hw : wp_X9_tear ik   Q) : Cn l D ca sd yX9_tear cX9_tear 2 (some .int) { frames := 0, cells := 0, slots := 0, locals := 0 } [.ref (aF 0)] (wF (aF 0) (aL 0) (aT 0) (aK 0) (tp 0) (aF 1) (aF 2) ik) (wF (aF 0) (aL 0) (aT 0) (aK 0) (tp 0) (aF 1) (aF 2) ik) 0 0 (Ri D (fun (r : Int32) (u : (Int32)) => Q r u) (fun u => (wF (aF 0) (aL 0) (aT 0) (aK 0) (tp 0) (aF 1) (aF 2) u))) := by
  refine cn_of (by decide) (Nat.le_of_ble_eq_true rfl) (fun k C hR hB _ => ?_)
  have C : Cx D ca sd cX9_tear RX9 (some .int) { frames := 0, cells := 0, slots := 0, locals := 0 } k 2 := C
  unfold wp_X9_tear at hw
  show J l D k 2 0 0 0 (wF (aF 0) (aL 0) (aT 0) (aK 0) (tp 0) (aF 1) (aF 2) ik) [(0, .ref (aF 0))] []
  refine j_aload_n C 0 dX9_tear_0 rfl ?_
  refine j_get C fl_X9_56_9 0 dX9_tear_1 rfl rfl ?_
  refine j_if_eq C 11 dX9_tear_4 (by decide) (fun z => ?_) (fun z => ?_)
  · replace hw := hw.1 z
    refine j_iconst C 0 dX9_tear_11 (by decide) ?_
    refine j_istore_n C [(1, .int 0), (0, .ref (aF 0))] dX9_tear_12 (by decide) rfl ?_
    refine j_aload_n C 1 dX9_tear_13 rfl ?_
    refine j_iconst C 0 dX9_tear_14 (by decide) ?_
    refine j_put C hB fw_X9_56_9 0 (wF (aF 0) (aL 0) (aT 0) (aK 0) (tp 0) (aF 1) (aF 2) 0) dX9_tear_15 rfl (by decide) (by decide) (Nat.le_of_ble_eq_true rfl) rfl ?_
    refine j_iload_n C 0 dX9_tear_18 rfl ?_
    exact j_iret C hB hR 0 rfl dX9_tear_19 hw rfl
  · replace hw := hw.2 z
    refine j_iconst C 1 dX9_tear_7 (by decide) ?_
    refine j_goto C 12 dX9_tear_8 (by decide) ?_
    refine j_istore_n C [(1, .int 1), (0, .ref (aF 0))] dX9_tear_12 (by decide) rfl ?_
    refine j_aload_n C 1 dX9_tear_13 rfl ?_
    refine j_iconst C 0 dX9_tear_14 (by decide) ?_
    refine j_put C hB fw_X9_56_9 0 (wF (aF 0) (aL 0) (aT 0) (aK 0) (tp 0) (aF 1) (aF 2) 0) dX9_tear_15 rfl (by decide) (by decide) (Nat.le_of_ble_eq_true rfl) rfl ?_
    refine j_iload_n C 0 dX9_tear_18 rfl ?_
    exact j_iret C hB hR 0 rfl dX9_tear_19 hw rfl
def wp_X9_count (fd : Nat → Int32) (ldn : Nat → Int32) (ldu : Nat → Int32) (lsz : Int32) (pln : Int32)  (a1 : Int32) (Q : (Int32) → (Nat → Int32) → Prop) : Prop := (a1 = 0 → Q lsz fd) ∧ (¬ (a1 = 0) → (a1 = 1 → Q pln fd) ∧ (¬ (a1 = 1) → (a1 = 2 → wp_X2_finishedSet ldn lsz (fun r1 => wp_J6_bitCount_0f7a4 r1 (fun r2 => Q r2 fd))) ∧ (¬ (a1 = 2) → (a1 = 3 → wp_X2_dustOfAll ldu lsz (fun r3 => Q r3 fd)) ∧ (¬ (a1 = 3) → wp_X9_found fd (-1000000001) (fun r4 c4_0 => Q r4 c4_0)))))
set_option maxRecDepth 100000 in
set_option maxHeartbeats 8000000 in
theorem c_X9_count {l : Launch} {D : va_G} {ca : Nat → ClassId} {sd : Nat → Nat}  (aF : Nat → Nat) (aL : Nat → Nat) (aT : Nat → Nat) (aK : Nat → Nat) (nd : Nat → Nat) (tp : Nat → Nat) (fd : Nat → Int32) (ik : Int32) (lsk : Nat → Int32) (lze : Nat → Int32) (lma : Nat → Int32) (lki : Nat → Int32) (ldn : Nat → Int32) (lwi : Nat → Int32) (ldu : Nat → Int32) (lhe : Nat → Int32) (lyr : Int32) (lsz : Int32) (pbb : Nat → Int32) (pln : Int32) (pso : Int32) (ppl : Int32) (pbh : Int32)  (a1 : Int32)  {Q : (Int32) → (Nat → Int32) → Prop} (hw : wp_X9_count fd ldn ldu lsz pln  a1 Q) : Cn l D ca sd yX9_count cX9_count 2 (some .int) { frames := 2, cells := 0, slots := 0, locals := 44 } [.ref (aF 0), .int a1] ((wD ca (aF 2) fd) ++ ((wF (aF 0) (aL 0) (aT 0) (aK 0) (tp 0) (aF 1) (aF 2) ik) ++ ((wC ca aL (nd 0) lsk lze lma lki ldn lwi ldu lhe lyr lsz) ++ (wT ca tp (nd 0) pbb pln pso ppl pbh)))) ((wD ca (aF 2) fd) ++ ((wF (aF 0) (aL 0) (aT 0) (aK 0) (tp 0) (aF 1) (aF 2) ik) ++ ((wC ca aL (nd 0) lsk lze lma lki ldn lwi ldu lhe lyr lsz) ++ (wT ca tp (nd 0) pbb pln pso ppl pbh)))) 0 0 (Ri D (fun (r : Int32) (u : (Nat → Int32)) => Q r u) (fun u => ((wD ca (aF 2) u) ++ ((wF (aF 0) (aL 0) (aT 0) (aK 0) (tp 0) (aF 1) (aF 2) ik) ++ ((wC ca aL (nd 0) lsk lze lma lki ldn lwi ldu lhe lyr lsz) ++ (wT ca tp (nd 0) pbb pln pso ppl pbh)))))) := by
  refine cn_of (by decide) (Nat.le_of_ble_eq_true rfl) (fun k C hR hB _ => ?_)
  have C : Cx D ca sd cX9_count RX9 (some .int) { frames := 2, cells := 0, slots := 0, locals := 44 } k 2 := C
  unfold wp_X9_count at hw
  show J l D k 2 0 0 0 ((wD ca (aF 2) fd) ++ ((wF (aF 0) (aL 0) (aT 0) (aK 0) (tp 0) (aF 1) (aF 2) ik) ++ ((wC ca aL (nd 0) lsk lze lma lki ldn lwi ldu lhe lyr lsz) ++ (wT ca tp (nd 0) pbb pln pso ppl pbh)))) [(0, .ref (aF 0)), (1, .int a1)] []
  refine j_iload_n C 1 dX9_count_0 rfl ?_
  by_cases z1 : a1 = 0
  · replace hw := hw.1 z1
    refine j_tabIn (off := 31) C 0 32 dX9_count_1 z1 (by decide) (by decide) (by decide) (by decide) ?_
    refine j_aload_n C 0 dX9_count_32 rfl ?_
    refine j_get C fl_X9_44_9 1 dX9_count_33 rfl rfl ?_
    refine j_get C fl_X9_124_2 2 dX9_count_36 rfl rfl ?_
    exact j_iret C hB hR fd rfl dX9_count_39 hw rfl
  · replace hw := hw.2 z1
    by_cases z2 : a1 = 1
    · replace hw := hw.1 z2
      refine j_tabIn (off := 39) C 1 40 dX9_count_1 z2 (by decide) (by decide) (by decide) (by decide) ?_
      refine j_aload_n C 0 dX9_count_40 rfl ?_
      refine j_get C fl_X9_63_9 1 dX9_count_41 rfl rfl ?_
      refine j_get C fl_X9_223_8 11 dX9_count_44 rfl rfl ?_
      exact j_iret C hB hR fd rfl dX9_count_47 hw rfl
    · replace hw := hw.2 z2
      by_cases z3 : a1 = 2
      · replace hw := hw.1 z3
        refine j_tabIn (off := 47) C 2 48 dX9_count_1 z3 (by decide) (by decide) (by decide) (by decide) ?_
        refine j_aload_n C 0 dX9_count_48 rfl ?_
        refine j_get C fl_X9_44_9 1 dX9_count_49 rfl rfl ?_
        refine j_ciZ C (jr_V C lkV_X9_107 (c_X2_finishedSet aL (nd 0) lsk lze lma lki ldn lwi ldu lhe lyr lsz hw) ⟨rfl, rfl, by decide, by decide, by decide, by decide⟩ [2, 3, 4, 5, 6, 7, 8, 9, 10] (by decide) rfl (fx_ro C) 2 2 rfl rfl rfl rfl (Nat.le_of_ble_eq_true rfl) dX9_count_52) (fun r1 u1 hw => ?_)
        refine j_ciZ C (jr_S C lkS_X9_111 (c_J6_bitCount_0f7a4 r1 hw) ⟨rfl, rfl, by decide, by decide, by decide, by decide⟩ [] (by decide) rfl (fx_ro C) rfl rfl (Nat.le_of_ble_eq_true rfl) dX9_count_55) (fun r2 u2 hw => ?_)
        exact j_iret C hB hR fd rfl dX9_count_58 hw rfl
      · replace hw := hw.2 z3
        by_cases z4 : a1 = 3
        · replace hw := hw.1 z4
          refine j_tabIn (off := 58) C 3 59 dX9_count_1 z4 (by decide) (by decide) (by decide) (by decide) ?_
          refine j_aload_n C 0 dX9_count_59 rfl ?_
          refine j_get C fl_X9_44_9 1 dX9_count_60 rfl rfl ?_
          refine j_ciZ C (jr_V C lkV_X9_271 (c_X2_dustOfAll aL (nd 0) lsk lze lma lki ldn lwi ldu lhe lyr lsz hw) ⟨rfl, rfl, by decide, by decide, by decide, by decide⟩ [2, 3, 4, 5, 6, 7, 8, 9, 10] (by decide) rfl (fx_ro C) 2 2 rfl rfl rfl rfl (Nat.le_of_ble_eq_true rfl) dX9_count_63) (fun r3 u3 hw => ?_)
          exact j_iret C hB hR fd rfl dX9_count_66 hw rfl
        · replace hw := hw.2 z4
          refine j_tabOut C 67 dX9_count_1 (by have qz1 := lv_neT z1 (show (0 : Int32).toInt = 0 from rfl); have qz2 := lv_neT z2 (show (1 : Int32).toInt = 1 from rfl); have qz3 := lv_neT z3 (show (2 : Int32).toInt = 2 from rfl); have qz4 := lv_neT z4 (show (3 : Int32).toInt = 3 from rfl); omega) (by decide) ?_
          refine j_aload_n C 0 dX9_count_67 rfl ?_
          refine j_ldc C dX9_count_68 ct_X9_82 ?_
          refine j_ciT C hB 0 2 (fun u4 : (Nat → Int32) => ((wD ca (aF 2) u4) ++ ((wF (aF 0) (aL 0) (aT 0) (aK 0) (tp 0) (aF 1) (aF 2) ik) ++ ((wC ca aL (nd 0) lsk lze lma lki ldn lwi ldu lhe lyr lsz) ++ (wT ca tp (nd 0) pbb pln pso ppl pbh))))) rfl (fun _ => rfl) (jr_V C lkV_X9_83 (c_X9_found aF aL aT aK nd tp fd ik (-1000000001) hw) ⟨rfl, rfl, by decide, by decide, by decide, by decide⟩ [0, 1] (by decide) rfl (fx_rw C hB [0, 1] rfl) 1 9 rfl rfl rfl rfl (Nat.le_of_ble_eq_true rfl) dX9_count_70) (fun r4 u4 hw => ?_)
          exact j_iret C hB hR u4 rfl dX9_count_73 hw rfl
def wp_X9_status (fd : Nat → Int32)  (a1 : Int32) (Q : (Int32) → (Nat → Int32) → Prop) : Prop := (a1 = (-1) → wp_X9_sum fd 7 7 (fun r4 => Q r4 fd)) ∧ (¬ (a1 = (-1)) → wp_X9_isWithin a1 0 6 (fun r1 => (r1 = 0 → wp_X9_found fd (-1000000001) (fun r3 c3_0 => Q r3 c3_0)) ∧ (¬ (r1 = 0) → vp_in a1 7 ∧ (Q (fd (a1.toNatClampNeg)) fd))))
set_option maxRecDepth 100000 in
set_option maxHeartbeats 8000000 in
theorem c_X9_status {l : Launch} {D : va_G} {ca : Nat → ClassId} {sd : Nat → Nat}  (aF : Nat → Nat) (aL : Nat → Nat) (aT : Nat → Nat) (aK : Nat → Nat) (nd : Nat → Nat) (tp : Nat → Nat) (fd : Nat → Int32) (ik : Int32)  (a1 : Int32)  {Q : (Int32) → (Nat → Int32) → Prop} (hw : wp_X9_status fd  a1 Q) : Cn l D ca sd yX9_status cX9_status 2 (some .int) { frames := 2, cells := 0, slots := 0, locals := 44 } [.ref (aF 0), .int a1] ((wD ca (aF 2) fd) ++ (wF (aF 0) (aL 0) (aT 0) (aK 0) (tp 0) (aF 1) (aF 2) ik)) ((wD ca (aF 2) fd) ++ (wF (aF 0) (aL 0) (aT 0) (aK 0) (tp 0) (aF 1) (aF 2) ik)) 0 0 (Ri D (fun (r : Int32) (u : (Nat → Int32)) => Q r u) (fun u => ((wD ca (aF 2) u) ++ (wF (aF 0) (aL 0) (aT 0) (aK 0) (tp 0) (aF 1) (aF 2) ik)))) := by
  refine cn_of (by decide) (Nat.le_of_ble_eq_true rfl) (fun k C hR hB _ => ?_)
  have C : Cx D ca sd cX9_status RX9 (some .int) { frames := 2, cells := 0, slots := 0, locals := 44 } k 2 := C
  unfold wp_X9_status at hw
  show J l D k 2 0 0 0 ((wD ca (aF 2) fd) ++ (wF (aF 0) (aL 0) (aT 0) (aK 0) (tp 0) (aF 1) (aF 2) ik)) [(0, .ref (aF 0)), (1, .int a1)] []
  refine j_iload_n C 1 dX9_status_0 rfl ?_
  refine j_iconst C (-1) dX9_status_1 (by decide) ?_
  refine j_icmp_ne C 15 dX9_status_2 (by decide) (fun z => ?_) (fun z => ?_)
  · replace hw := hw.2 z
    refine j_iload_n C 1 dX9_status_15 rfl ?_
    refine j_iconst C 0 dX9_status_16 (by decide) ?_
    refine j_bipush C 6 dX9_status_17 (by decide) ?_
    refine j_ciZ C (jr_S C lkS_X9_87 (c_X9_isWithin a1 0 6 hw) ⟨rfl, rfl, by decide, by decide, by decide, by decide⟩ [] (by decide) rfl (fx_ro C) rfl rfl (Nat.le_of_ble_eq_true rfl) dX9_status_19) (fun r1 u1 hw => ?_)
    refine j_if_ne C 32 dX9_status_22 (by decide) (fun z => ?_) (fun z => ?_)
    · replace hw := hw.2 z
      refine j_aload_n C 0 dX9_status_32 rfl ?_
      refine j_get C fl_X9_74_9 1 dX9_status_33 rfl rfl ?_
      refine j_iload_n C 1 dX9_status_36 rfl ?_
      have hi2 := hw.1
      replace hw := hw.2
      refine j_iald C 0 dX9_status_37 rfl hi2 ?_
      exact j_iret C hB hR fd rfl dX9_status_38 hw rfl
    · replace hw := hw.1 z
      refine j_aload_n C 0 dX9_status_25 rfl ?_
      refine j_ldc C dX9_status_26 ct_X9_82 ?_
      refine j_ciT C hB 0 2 (fun u3 : (Nat → Int32) => ((wD ca (aF 2) u3) ++ (wF (aF 0) (aL 0) (aT 0) (aK 0) (tp 0) (aF 1) (aF 2) ik))) rfl (fun _ => rfl) (jr_V C lkV_X9_83 (c_X9_found aF aL aT aK nd tp fd ik (-1000000001) hw) ⟨rfl, rfl, by decide, by decide, by decide, by decide⟩ [0, 1] (by decide) rfl (fx_rw C hB [0, 1] rfl) 1 9 rfl rfl rfl rfl (Nat.le_of_ble_eq_true rfl) dX9_status_28) (fun r3 u3 hw => ?_)
      exact j_iret C hB hR u3 rfl dX9_status_31 hw rfl
  · replace hw := hw.1 z
    refine j_aload_n C 0 dX9_status_5 rfl ?_
    refine j_get C fl_X9_74_9 1 dX9_status_6 rfl rfl ?_
    refine j_bipush C 7 dX9_status_9 (by decide) ?_
    refine j_ciZ C (jr_S C lkS_X9_274 (c_X9_sum (aF 2) 7 fd 7 hw) ⟨rfl, rfl, by decide, by decide, by decide, by decide⟩ [0] (by decide) rfl (fx_ro C) rfl rfl (Nat.le_of_ble_eq_true rfl) dX9_status_11) (fun r4 u4 hw => ?_)
    exact j_iret C hB hR fd rfl dX9_status_14 hw rfl
