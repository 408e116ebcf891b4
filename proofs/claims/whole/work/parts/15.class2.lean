theorem lkV_X9_200 : LkV RX9 200 RX2 yX2_become cX2_become 2 none 1 := ⟨(tb_t 471 (by decide +kernel) rfl), (tb_t 472 (by decide +kernel) rfl), (tb_t 473 (by decide +kernel) rfl), (tb_t 8 (by decide +kernel) rfl), (tb_t 474 (by decide +kernel) rfl), rfl, by decide, by decide, by decide +kernel⟩
theorem lkV_X9_204 : LkV RX9 204 RX9 yX9_trialYearsToFinish cX9_trialYearsToFinish 4 (some .int) 2 := ⟨(tb_t 486 (by decide +kernel) rfl), (tb_t 488 (by decide +kernel) rfl), (tb_in 2 (by decide +kernel) rfl), (tb_t 1 (by decide +kernel) rfl), (tb_t 489 (by decide +kernel) rfl), rfl, by decide, by decide, by decide +kernel⟩
theorem lkV_X9_210 : LkV RX9 210 RX2 yX2_isAllFinished cX2_isAllFinished 1 (some .boolean) 0 := ⟨(tb_t 500 (by decide +kernel) rfl), (tb_t 501 (by decide +kernel) rfl), (tb_t 502 (by decide +kernel) rfl), (tb_t 8 (by decide +kernel) rfl), (tb_t 503 (by decide +kernel) rfl), rfl, by decide, by decide, by decide +kernel⟩
def wp_X9_on (fd : Nat → Int32) (tsk : Nat → Int32) (tze : Nat → Int32) (tma : Nat → Int32) (tki : Nat → Int32) (tdn : Nat → Int32) (twi : Nat → Int32) (tdu : Nat → Int32) (the : Nat → Int32) (tyr : Int32) (tsz : Int32) (lsk : Nat → Int32) (lze : Nat → Int32) (lma : Nat → Int32) (lki : Nat → Int32) (ldn : Nat → Int32) (lwi : Nat → Int32) (ldu : Nat → Int32) (lyr : Int32) (lsz : Int32)  (a1 : Int32) (a2 : Int32) (a3 : Int32) (Q : (Int32) → (Nat → Int32) → (Nat → Int32) → (Nat → Int32) → (Nat → Int32) → (Nat → Int32) → (Nat → Int32) → (Nat → Int32) → (Nat → Int32) → (Nat → Int32) → (Int32) → (Int32) → Prop) : Prop := wp_X9_isThing lsz a1 (fun r1 => (r1 = 0 → wp_X9_found fd (-1000000001) (fun r2 c2_0 => Q r2 c2_0 tsk tze tma tki tdn twi tdu the tyr tsz)) ∧ (¬ (r1 = 0) → wp_X9_isWithin a2 0 100 (fun r3 => (r3 = 0 → wp_X9_found fd (-1000000001) (fun r4 c4_0 => Q r4 c4_0 tsk tze tma tki tdn twi tdu the tyr tsz)) ∧ (¬ (r3 = 0) → wp_X9_isWithin a3 0 2 (fun r5 => (r5 = 0 → wp_X9_found fd (-1000000001) (fun r11 c11_0 => Q r11 c11_0 tsk tze tma tki tdn twi tdu the tyr tsz)) ∧ (¬ (r5 = 0) → wp_X2_become tsk tze tma tki tdn twi tdu lsk lze lma lki ldn lwi ldu lyr lsz (fun c6_0 c6_1 c6_2 c6_3 c6_4 c6_5 c6_6 c6_7 c6_8 => wp_X2_goYears c6_0 c6_1 c6_2 c6_3 c6_4 c6_5 c6_6 the c6_7 c6_8 a2 (fun c7_0 c7_1 c7_2 c7_3 c7_4 c7_5 c7_6 => (a3 = 0 → vp_in a1 8 ∧ (Q (c7_2 (a1.toNatClampNeg)) fd c6_0 c7_0 c7_1 c6_3 c7_2 c7_3 c7_4 c7_5 c7_6 c6_8)) ∧ (¬ (a3 = 0) → (a3 = 1 → vp_in a1 8 ∧ (Q (c7_3 (a1.toNatClampNeg)) fd c6_0 c7_0 c7_1 c6_3 c7_2 c7_3 c7_4 c7_5 c7_6 c6_8)) ∧ (¬ (a3 = 1) → vp_in a1 8 ∧ (Q (c7_4 (a1.toNatClampNeg)) fd c6_0 c7_0 c7_1 c6_3 c7_2 c7_3 c7_4 c7_5 c7_6 c6_8)))))))))))
set_option maxRecDepth 100000 in
set_option maxHeartbeats 8000000 in
theorem c_X9_on {l : Launch} {D : va_G} {ca : Nat → ClassId} {sd : Nat → Nat}  (aF : Nat → Nat) (aL : Nat → Nat) (aT : Nat → Nat) (aK : Nat → Nat) (nd : Nat → Nat) (tp : Nat → Nat) (fd : Nat → Int32) (ik : Int32) (tsk : Nat → Int32) (tze : Nat → Int32) (tma : Nat → Int32) (tki : Nat → Int32) (tdn : Nat → Int32) (twi : Nat → Int32) (tdu : Nat → Int32) (the : Nat → Int32) (tyr : Int32) (tsz : Int32) (lsk : Nat → Int32) (lze : Nat → Int32) (lma : Nat → Int32) (lki : Nat → Int32) (ldn : Nat → Int32) (lwi : Nat → Int32) (ldu : Nat → Int32) (lhe : Nat → Int32) (lyr : Int32) (lsz : Int32)  (a1 : Int32) (a2 : Int32) (a3 : Int32)  {Q : (Int32) → (Nat → Int32) → (Nat → Int32) → (Nat → Int32) → (Nat → Int32) → (Nat → Int32) → (Nat → Int32) → (Nat → Int32) → (Nat → Int32) → (Nat → Int32) → (Int32) → (Int32) → Prop} (hw : wp_X9_on fd tsk tze tma tki tdn twi tdu the tyr tsz lsk lze lma lki ldn lwi ldu lyr lsz  a1 a2 a3 Q) : Cn l D ca sd yX9_on cX9_on 4 (some .int) { frames := 8, cells := 0, slots := 0, locals := 203 } [.ref (aF 0), .int a1, .int a2, .int a3] ((wD ca (aF 2) fd) ++ ((wF (aF 0) (aL 0) (aT 0) (aK 0) (tp 0) (aF 1) (aF 2) ik) ++ ((wN ca nd sd) ++ ((wC ca aT (nd 0) tsk tze tma tki tdn twi tdu the tyr tsz) ++ (wC ca aL (nd 0) lsk lze lma lki ldn lwi ldu lhe lyr lsz))))) ((wD ca (aF 2) fd) ++ ((wF (aF 0) (aL 0) (aT 0) (aK 0) (tp 0) (aF 1) (aF 2) ik) ++ ((wN ca nd sd) ++ ((wC ca aT (nd 0) tsk tze tma tki tdn twi tdu the tyr tsz) ++ (wC ca aL (nd 0) lsk lze lma lki ldn lwi ldu lhe lyr lsz))))) 0 0 (Ri D (fun (r : Int32) (u : (Nat → Int32) × (Nat → Int32) × (Nat → Int32) × (Nat → Int32) × (Nat → Int32) × (Nat → Int32) × (Nat → Int32) × (Nat → Int32) × (Nat → Int32) × (Int32) × (Int32)) => Q r u.1 u.2.1 u.2.2.1 u.2.2.2.1 u.2.2.2.2.1 u.2.2.2.2.2.1 u.2.2.2.2.2.2.1 u.2.2.2.2.2.2.2.1 u.2.2.2.2.2.2.2.2.1 u.2.2.2.2.2.2.2.2.2.1 u.2.2.2.2.2.2.2.2.2.2) (fun u => ((wD ca (aF 2) u.1) ++ ((wF (aF 0) (aL 0) (aT 0) (aK 0) (tp 0) (aF 1) (aF 2) ik) ++ ((wN ca nd sd) ++ ((wC ca aT (nd 0) u.2.1 u.2.2.1 u.2.2.2.1 u.2.2.2.2.1 u.2.2.2.2.2.1 u.2.2.2.2.2.2.1 u.2.2.2.2.2.2.2.1 u.2.2.2.2.2.2.2.2.1 u.2.2.2.2.2.2.2.2.2.1 u.2.2.2.2.2.2.2.2.2.2) ++ (wC ca aL (nd 0) lsk lze lma lki ldn lwi ldu lhe lyr lsz))))))) := by
  refine cn_of (by decide) (Nat.le_of_ble_eq_true rfl) (fun k C hR hB _ => ?_)
  have C : Cx D ca sd cX9_on RX9 (some .int) { frames := 8, cells := 0, slots := 0, locals := 203 } k 4 := C
  unfold wp_X9_on at hw
  show J l D k 4 0 0 0 ((wD ca (aF 2) fd) ++ ((wF (aF 0) (aL 0) (aT 0) (aK 0) (tp 0) (aF 1) (aF 2) ik) ++ ((wN ca nd sd) ++ ((wC ca aT (nd 0) tsk tze tma tki tdn twi tdu the tyr tsz) ++ (wC ca aL (nd 0) lsk lze lma lki ldn lwi ldu lhe lyr lsz))))) [(0, .ref (aF 0)), (1, .int a1), (2, .int a2), (3, .int a3)] []
  refine j_aload_n C 0 dX9_on_0 rfl ?_
  refine j_iload_n C 1 dX9_on_1 rfl ?_
  refine j_ciZ C (jr_V C lkV_X9_132 (c_X9_isThing aF aL aT aK nd tp ik lsk lze lma lki ldn lwi ldu lhe lyr lsz a1 hw) ⟨rfl, rfl, by decide, by decide, by decide, by decide⟩ [1, 18, 19, 20, 21, 22, 23, 24, 25, 26] (by decide) rfl (fx_ro C) 1 9 rfl rfl rfl rfl (Nat.le_of_ble_eq_true rfl) dX9_on_2) (fun r1 u1 hw => ?_)
  refine j_if_eq C 27 dX9_on_5 (by decide) (fun z => ?_) (fun z => ?_)
  · replace hw := hw.1 z
    refine j_aload_n C 0 dX9_on_27 rfl ?_
    refine j_ldc C dX9_on_28 ct_X9_82 ?_
    refine j_ciT C hB 0 2 (fun u2 : (Nat → Int32) => ((wD ca (aF 2) u2) ++ ((wF (aF 0) (aL 0) (aT 0) (aK 0) (tp 0) (aF 1) (aF 2) ik) ++ ((wN ca nd sd) ++ ((wC ca aT (nd 0) tsk tze tma tki tdn twi tdu the tyr tsz) ++ (wC ca aL (nd 0) lsk lze lma lki ldn lwi ldu lhe lyr lsz)))))) rfl (fun _ => rfl) (jr_V C lkV_X9_83 (c_X9_found aF aL aT aK nd tp fd ik (-1000000001) hw) ⟨rfl, rfl, by decide, by decide, by decide, by decide⟩ [0, 1] (by decide) rfl (fx_rw C hB [0, 1] rfl) 1 9 rfl rfl rfl rfl (Nat.le_of_ble_eq_true rfl) dX9_on_30) (fun r2 u2 hw => ?_)
    exact j_iret C hB hR (u2, tsk, tze, tma, tki, tdn, twi, tdu, the, tyr, tsz) rfl dX9_on_33 hw rfl
  · replace hw := hw.2 z
    refine j_iload_n C 2 dX9_on_8 rfl ?_
    refine j_iconst C 0 dX9_on_9 (by decide) ?_
    refine j_bipush C 100 dX9_on_10 (by decide) ?_
    refine j_ciZ C (jr_S C lkS_X9_87 (c_X9_isWithin a2 0 100 hw) ⟨rfl, rfl, by decide, by decide, by decide, by decide⟩ [] (by decide) rfl (fx_ro C) rfl rfl (Nat.le_of_ble_eq_true rfl) dX9_on_12) (fun r3 u3 hw => ?_)
    refine j_if_eq C 27 dX9_on_15 (by decide) (fun z => ?_) (fun z => ?_)
    · replace hw := hw.1 z
      refine j_aload_n C 0 dX9_on_27 rfl ?_
      refine j_ldc C dX9_on_28 ct_X9_82 ?_
      refine j_ciT C hB 0 2 (fun u4 : (Nat → Int32) => ((wD ca (aF 2) u4) ++ ((wF (aF 0) (aL 0) (aT 0) (aK 0) (tp 0) (aF 1) (aF 2) ik) ++ ((wN ca nd sd) ++ ((wC ca aT (nd 0) tsk tze tma tki tdn twi tdu the tyr tsz) ++ (wC ca aL (nd 0) lsk lze lma lki ldn lwi ldu lhe lyr lsz)))))) rfl (fun _ => rfl) (jr_V C lkV_X9_83 (c_X9_found aF aL aT aK nd tp fd ik (-1000000001) hw) ⟨rfl, rfl, by decide, by decide, by decide, by decide⟩ [0, 1] (by decide) rfl (fx_rw C hB [0, 1] rfl) 1 9 rfl rfl rfl rfl (Nat.le_of_ble_eq_true rfl) dX9_on_30) (fun r4 u4 hw => ?_)
      exact j_iret C hB hR (u4, tsk, tze, tma, tki, tdn, twi, tdu, the, tyr, tsz) rfl dX9_on_33 hw rfl
    · replace hw := hw.2 z
      refine j_iload_n C 3 dX9_on_18 rfl ?_
      refine j_iconst C 0 dX9_on_19 (by decide) ?_
      refine j_iconst C 2 dX9_on_20 (by decide) ?_
      refine j_ciZ C (jr_S C lkS_X9_87 (c_X9_isWithin a3 0 2 hw) ⟨rfl, rfl, by decide, by decide, by decide, by decide⟩ [] (by decide) rfl (fx_ro C) rfl rfl (Nat.le_of_ble_eq_true rfl) dX9_on_21) (fun r5 u5 hw => ?_)
      refine j_if_ne C 34 dX9_on_24 (by decide) (fun z => ?_) (fun z => ?_)
      · replace hw := hw.2 z
        refine j_aload_n C 0 dX9_on_34 rfl ?_
        refine j_get C fl_X9_50_9 1 dX9_on_35 rfl rfl ?_
        refine j_aload_n C 0 dX9_on_38 rfl ?_
        refine j_get C fl_X9_44_9 1 dX9_on_39 rfl rfl ?_
        refine j_cvT C hB 9 27 (fun u6 : (Nat → Int32) × (Nat → Int32) × (Nat → Int32) × (Nat → Int32) × (Nat → Int32) × (Nat → Int32) × (Nat → Int32) × (Int32) × (Int32) => ((wD ca (aF 2) fd) ++ ((wF (aF 0) (aL 0) (aT 0) (aK 0) (tp 0) (aF 1) (aF 2) ik) ++ ((wN ca nd sd) ++ ((wC ca aT (nd 0) u6.1 u6.2.1 u6.2.2.1 u6.2.2.2.1 u6.2.2.2.2.1 u6.2.2.2.2.2.1 u6.2.2.2.2.2.2.1 the u6.2.2.2.2.2.2.2.1 u6.2.2.2.2.2.2.2.2) ++ (wC ca aL (nd 0) lsk lze lma lki ldn lwi ldu lhe lyr lsz)))))) rfl (fun _ => rfl) (jr_V C lkV_X9_200 (c_X2_become aT aL (nd 0) tsk tze tma tki tdn twi tdu the tyr tsz lsk lze lma lki ldn lwi ldu lhe lyr lsz hw) ⟨rfl, rfl, by decide, by decide, by decide, by decide⟩ [9, 10, 11, 12, 13, 14, 15, 16, 17, 18, 19, 20, 21, 22, 23, 24, 25, 26] rfl rfl (fx_rw C hB [9, 10, 11, 12, 13, 14, 15, 16, 17, 18, 19, 20, 21, 22, 23, 24, 25, 26] rfl) 9 2 rfl rfl rfl rfl (Nat.le_of_ble_eq_true rfl) dX9_on_42) (fun u6 hw => ?_)
        refine j_aload_n C 0 dX9_on_45 rfl ?_
        refine j_get C fl_X9_50_9 1 dX9_on_46 rfl rfl ?_
        refine j_iload_n C 2 dX9_on_49 rfl ?_
        refine j_cvT C hB 2 18 (fun u7 : (Nat → Int32) × (Nat → Int32) × (Nat → Int32) × (Nat → Int32) × (Nat → Int32) × (Nat → Int32) × (Int32) => ((wD ca (aF 2) fd) ++ ((wF (aF 0) (aL 0) (aT 0) (aK 0) (tp 0) (aF 1) (aF 2) ik) ++ ((wN ca nd sd) ++ ((wC ca aT (nd 0) u6.1 u7.1 u7.2.1 u6.2.2.2.1 u7.2.2.1 u7.2.2.2.1 u7.2.2.2.2.1 u7.2.2.2.2.2.1 u7.2.2.2.2.2.2 u6.2.2.2.2.2.2.2.2) ++ (wC ca aL (nd 0) lsk lze lma lki ldn lwi ldu lhe lyr lsz)))))) rfl (fun _ => rfl) (jr_V C lkV_X9_191 (c_X2_goYears nd aT u6.1 u6.2.1 u6.2.2.1 u6.2.2.2.1 u6.2.2.2.2.1 u6.2.2.2.2.2.1 u6.2.2.2.2.2.2.1 the u6.2.2.2.2.2.2.2.1 u6.2.2.2.2.2.2.2.2 a2 hw) ⟨rfl, rfl, by decide, by decide, by decide, by decide⟩ [2, 3, 4, 5, 6, 7, 8, 9, 10, 11, 12, 13, 14, 15, 16, 17] rfl rfl (fx_rw C hB [2, 3, 4, 5, 6, 7, 8, 9, 10, 11, 12, 13, 14, 15, 16, 17] rfl) 9 2 rfl rfl rfl rfl (Nat.le_of_ble_eq_true rfl) dX9_on_50) (fun u7 hw => ?_)
        refine j_iload_n C 3 dX9_on_53 rfl ?_
        by_cases z1 : a3 = 0
        · replace hw := hw.1 z1
          refine j_look (off := 26) C 80 dX9_on_54 (by decide) (by rw [z1]; rfl) (by decide) ?_
          refine j_aload_n C 0 dX9_on_80 rfl ?_
          refine j_get C fl_X9_50_9 1 dX9_on_81 rfl rfl ?_
          refine j_get C fl_X9_138_2 9 dX9_on_84 rfl rfl ?_
          refine j_iload_n C 1 dX9_on_87 rfl ?_
          have hi8 := hw.1
          replace hw := hw.2
          refine j_iald C 14 dX9_on_88 rfl hi8 ?_
          exact j_iret C hB hR (fd, u6.1, u7.1, u7.2.1, u6.2.2.2.1, u7.2.2.1, u7.2.2.2.1, u7.2.2.2.2.1, u7.2.2.2.2.2.1, u7.2.2.2.2.2.2, u6.2.2.2.2.2.2.2.2) rfl dX9_on_89 hw rfl
        · replace hw := hw.2 z1
          by_cases z2 : a3 = 1
          · replace hw := hw.1 z2
            refine j_look (off := 36) C 90 dX9_on_54 (by decide) (by rw [z2]; rfl) (by decide) ?_
            refine j_aload_n C 0 dX9_on_90 rfl ?_
            refine j_get C fl_X9_50_9 1 dX9_on_91 rfl rfl ?_
            refine j_get C fl_X9_141_2 9 dX9_on_94 rfl rfl ?_
            refine j_iload_n C 1 dX9_on_97 rfl ?_
            have hi9 := hw.1
            replace hw := hw.2
            refine j_iald C 15 dX9_on_98 rfl hi9 ?_
            exact j_iret C hB hR (fd, u6.1, u7.1, u7.2.1, u6.2.2.2.1, u7.2.2.1, u7.2.2.2.1, u7.2.2.2.2.1, u7.2.2.2.2.2.1, u7.2.2.2.2.2.2, u6.2.2.2.2.2.2.2.2) rfl dX9_on_99 hw rfl
          · replace hw := hw.2 z2
            refine j_look (off := 46) C 100 dX9_on_54 (by decide) (Eq.trans (lv_osw (a := 0) (o := 26) (d := 46) (r := [(1, 36)]) z1 rfl) (Eq.trans (lv_osw (a := 1) (o := 36) (d := 46) (r := []) z2 rfl) rfl)) (by decide) ?_
            refine j_aload_n C 0 dX9_on_100 rfl ?_
            refine j_get C fl_X9_50_9 1 dX9_on_101 rfl rfl ?_
            refine j_get C fl_X9_144_2 9 dX9_on_104 rfl rfl ?_
            refine j_iload_n C 1 dX9_on_107 rfl ?_
            have hi10 := hw.1
            replace hw := hw.2
            refine j_iald C 16 dX9_on_108 rfl hi10 ?_
            exact j_iret C hB hR (fd, u6.1, u7.1, u7.2.1, u6.2.2.2.1, u7.2.2.1, u7.2.2.2.1, u7.2.2.2.2.1, u7.2.2.2.2.2.1, u7.2.2.2.2.2.2, u6.2.2.2.2.2.2.2.2) rfl dX9_on_109 hw rfl
      · replace hw := hw.1 z
        refine j_aload_n C 0 dX9_on_27 rfl ?_
        refine j_ldc C dX9_on_28 ct_X9_82 ?_
        refine j_ciT C hB 0 2 (fun u11 : (Nat → Int32) => ((wD ca (aF 2) u11) ++ ((wF (aF 0) (aL 0) (aT 0) (aK 0) (tp 0) (aF 1) (aF 2) ik) ++ ((wN ca nd sd) ++ ((wC ca aT (nd 0) tsk tze tma tki tdn twi tdu the tyr tsz) ++ (wC ca aL (nd 0) lsk lze lma lki ldn lwi ldu lhe lyr lsz)))))) rfl (fun _ => rfl) (jr_V C lkV_X9_83 (c_X9_found aF aL aT aK nd tp fd ik (-1000000001) hw) ⟨rfl, rfl, by decide, by decide, by decide, by decide⟩ [0, 1] (by decide) rfl (fx_rw C hB [0, 1] rfl) 1 9 rfl rfl rfl rfl (Nat.le_of_ble_eq_true rfl) dX9_on_30) (fun r11 u11 hw => ?_)
        exact j_iret C hB hR (u11, tsk, tze, tma, tki, tdn, twi, tdu, the, tyr, tsz) rfl dX9_on_33 hw rfl
def wp_X9_then (fd : Nat → Int32) (tsk : Nat → Int32) (tze : Nat → Int32) (tma : Nat → Int32) (tki : Nat → Int32) (tdn : Nat → Int32) (twi : Nat → Int32) (tdu : Nat → Int32) (the : Nat → Int32) (tyr : Int32) (tsz : Int32) (lsk : Nat → Int32) (lze : Nat → Int32) (lma : Nat → Int32) (lki : Nat → Int32) (ldn : Nat → Int32) (lwi : Nat → Int32) (ldu : Nat → Int32) (lyr : Int32) (lsz : Int32)  (a1 : Int32) (a2 : Int32) (a3 : Int32) (Q : (Int32) → (Nat → Int32) → (Nat → Int32) → (Nat → Int32) → (Nat → Int32) → (Nat → Int32) → (Nat → Int32) → (Nat → Int32) → (Nat → Int32) → (Nat → Int32) → (Int32) → (Int32) → Prop) : Prop := wp_X9_isPerson a1 (fun r1 => (r1 = 0 → wp_X9_found fd (-1000000001) (fun r2 c2_0 => Q r2 c2_0 tsk tze tma tki tdn twi tdu the tyr tsz)) ∧ (¬ (r1 = 0) → wp_X9_isWithin a2 0 100 (fun r3 => (r3 = 0 → wp_X9_found fd (-1000000001) (fun r4 c4_0 => Q r4 c4_0 tsk tze tma tki tdn twi tdu the tyr tsz)) ∧ (¬ (r3 = 0) → wp_X9_isWithin a3 0 1 (fun r5 => (r5 = 0 → wp_X9_found fd (-1000000001) (fun r10 c10_0 => Q r10 c10_0 tsk tze tma tki tdn twi tdu the tyr tsz)) ∧ (¬ (r5 = 0) → wp_X2_become tsk tze tma tki tdn twi tdu lsk lze lma lki ldn lwi ldu lyr lsz (fun c6_0 c6_1 c6_2 c6_3 c6_4 c6_5 c6_6 c6_7 c6_8 => wp_X2_goYears c6_0 c6_1 c6_2 c6_3 c6_4 c6_5 c6_6 the c6_7 c6_8 a2 (fun c7_0 c7_1 c7_2 c7_3 c7_4 c7_5 c7_6 => (a3 = 0 → vp_in a1 6 ∧ (Q (c7_0 (a1.toNatClampNeg)) fd c6_0 c7_0 c7_1 c6_3 c7_2 c7_3 c7_4 c7_5 c7_6 c6_8)) ∧ (¬ (a3 = 0) → vp_in a1 6 ∧ (Q (c7_1 (a1.toNatClampNeg)) fd c6_0 c7_0 c7_1 c6_3 c7_2 c7_3 c7_4 c7_5 c7_6 c6_8))))))))))
set_option maxRecDepth 100000 in
set_option maxHeartbeats 8000000 in
theorem c_X9_then {l : Launch} {D : va_G} {ca : Nat → ClassId} {sd : Nat → Nat}  (aF : Nat → Nat) (aL : Nat → Nat) (aT : Nat → Nat) (aK : Nat → Nat) (nd : Nat → Nat) (tp : Nat → Nat) (fd : Nat → Int32) (ik : Int32) (tsk : Nat → Int32) (tze : Nat → Int32) (tma : Nat → Int32) (tki : Nat → Int32) (tdn : Nat → Int32) (twi : Nat → Int32) (tdu : Nat → Int32) (the : Nat → Int32) (tyr : Int32) (tsz : Int32) (lsk : Nat → Int32) (lze : Nat → Int32) (lma : Nat → Int32) (lki : Nat → Int32) (ldn : Nat → Int32) (lwi : Nat → Int32) (ldu : Nat → Int32) (lhe : Nat → Int32) (lyr : Int32) (lsz : Int32)  (a1 : Int32) (a2 : Int32) (a3 : Int32)  {Q : (Int32) → (Nat → Int32) → (Nat → Int32) → (Nat → Int32) → (Nat → Int32) → (Nat → Int32) → (Nat → Int32) → (Nat → Int32) → (Nat → Int32) → (Nat → Int32) → (Int32) → (Int32) → Prop} (hw : wp_X9_then fd tsk tze tma tki tdn twi tdu the tyr tsz lsk lze lma lki ldn lwi ldu lyr lsz  a1 a2 a3 Q) : Cn l D ca sd yX9_then cX9_then 4 (some .int) { frames := 8, cells := 0, slots := 0, locals := 203 } [.ref (aF 0), .int a1, .int a2, .int a3] ((wD ca (aF 2) fd) ++ ((wF (aF 0) (aL 0) (aT 0) (aK 0) (tp 0) (aF 1) (aF 2) ik) ++ ((wN ca nd sd) ++ ((wC ca aT (nd 0) tsk tze tma tki tdn twi tdu the tyr tsz) ++ (wC ca aL (nd 0) lsk lze lma lki ldn lwi ldu lhe lyr lsz))))) ((wD ca (aF 2) fd) ++ ((wF (aF 0) (aL 0) (aT 0) (aK 0) (tp 0) (aF 1) (aF 2) ik) ++ ((wN ca nd sd) ++ ((wC ca aT (nd 0) tsk tze tma tki tdn twi tdu the tyr tsz) ++ (wC ca aL (nd 0) lsk lze lma lki ldn lwi ldu lhe lyr lsz))))) 0 0 (Ri D (fun (r : Int32) (u : (Nat → Int32) × (Nat → Int32) × (Nat → Int32) × (Nat → Int32) × (Nat → Int32) × (Nat → Int32) × (Nat → Int32) × (Nat → Int32) × (Nat → Int32) × (Int32) × (Int32)) => Q r u.1 u.2.1 u.2.2.1 u.2.2.2.1 u.2.2.2.2.1 u.2.2.2.2.2.1 u.2.2.2.2.2.2.1 u.2.2.2.2.2.2.2.1 u.2.2.2.2.2.2.2.2.1 u.2.2.2.2.2.2.2.2.2.1 u.2.2.2.2.2.2.2.2.2.2) (fun u => ((wD ca (aF 2) u.1) ++ ((wF (aF 0) (aL 0) (aT 0) (aK 0) (tp 0) (aF 1) (aF 2) ik) ++ ((wN ca nd sd) ++ ((wC ca aT (nd 0) u.2.1 u.2.2.1 u.2.2.2.1 u.2.2.2.2.1 u.2.2.2.2.2.1 u.2.2.2.2.2.2.1 u.2.2.2.2.2.2.2.1 u.2.2.2.2.2.2.2.2.1 u.2.2.2.2.2.2.2.2.2.1 u.2.2.2.2.2.2.2.2.2.2) ++ (wC ca aL (nd 0) lsk lze lma lki ldn lwi ldu lhe lyr lsz))))))) := by
  refine cn_of (by decide) (Nat.le_of_ble_eq_true rfl) (fun k C hR hB _ => ?_)
  have C : Cx D ca sd cX9_then RX9 (some .int) { frames := 8, cells := 0, slots := 0, locals := 203 } k 4 := C
  unfold wp_X9_then at hw
  show J l D k 4 0 0 0 ((wD ca (aF 2) fd) ++ ((wF (aF 0) (aL 0) (aT 0) (aK 0) (tp 0) (aF 1) (aF 2) ik) ++ ((wN ca nd sd) ++ ((wC ca aT (nd 0) tsk tze tma tki tdn twi tdu the tyr tsz) ++ (wC ca aL (nd 0) lsk lze lma lki ldn lwi ldu lhe lyr lsz))))) [(0, .ref (aF 0)), (1, .int a1), (2, .int a2), (3, .int a3)] []
  refine j_iload_n C 1 dX9_then_0 rfl ?_
  refine j_ciZ C (jr_S C lkS_X9_78 (c_X9_isPerson a1 hw) ⟨rfl, rfl, by decide, by decide, by decide, by decide⟩ [] (by decide) rfl (fx_ro C) rfl rfl (Nat.le_of_ble_eq_true rfl) dX9_then_1) (fun r1 u1 hw => ?_)
  refine j_if_eq C 26 dX9_then_4 (by decide) (fun z => ?_) (fun z => ?_)
  · replace hw := hw.1 z
    refine j_aload_n C 0 dX9_then_26 rfl ?_
    refine j_ldc C dX9_then_27 ct_X9_82 ?_
    refine j_ciT C hB 0 2 (fun u2 : (Nat → Int32) => ((wD ca (aF 2) u2) ++ ((wF (aF 0) (aL 0) (aT 0) (aK 0) (tp 0) (aF 1) (aF 2) ik) ++ ((wN ca nd sd) ++ ((wC ca aT (nd 0) tsk tze tma tki tdn twi tdu the tyr tsz) ++ (wC ca aL (nd 0) lsk lze lma lki ldn lwi ldu lhe lyr lsz)))))) rfl (fun _ => rfl) (jr_V C lkV_X9_83 (c_X9_found aF aL aT aK nd tp fd ik (-1000000001) hw) ⟨rfl, rfl, by decide, by decide, by decide, by decide⟩ [0, 1] (by decide) rfl (fx_rw C hB [0, 1] rfl) 1 9 rfl rfl rfl rfl (Nat.le_of_ble_eq_true rfl) dX9_then_29) (fun r2 u2 hw => ?_)
    exact j_iret C hB hR (u2, tsk, tze, tma, tki, tdn, twi, tdu, the, tyr, tsz) rfl dX9_then_32 hw rfl
  · replace hw := hw.2 z
    refine j_iload_n C 2 dX9_then_7 rfl ?_
    refine j_iconst C 0 dX9_then_8 (by decide) ?_
    refine j_bipush C 100 dX9_then_9 (by decide) ?_
    refine j_ciZ C (jr_S C lkS_X9_87 (c_X9_isWithin a2 0 100 hw) ⟨rfl, rfl, by decide, by decide, by decide, by decide⟩ [] (by decide) rfl (fx_ro C) rfl rfl (Nat.le_of_ble_eq_true rfl) dX9_then_11) (fun r3 u3 hw => ?_)
    refine j_if_eq C 26 dX9_then_14 (by decide) (fun z => ?_) (fun z => ?_)
    · replace hw := hw.1 z
      refine j_aload_n C 0 dX9_then_26 rfl ?_
      refine j_ldc C dX9_then_27 ct_X9_82 ?_
      refine j_ciT C hB 0 2 (fun u4 : (Nat → Int32) => ((wD ca (aF 2) u4) ++ ((wF (aF 0) (aL 0) (aT 0) (aK 0) (tp 0) (aF 1) (aF 2) ik) ++ ((wN ca nd sd) ++ ((wC ca aT (nd 0) tsk tze tma tki tdn twi tdu the tyr tsz) ++ (wC ca aL (nd 0) lsk lze lma lki ldn lwi ldu lhe lyr lsz)))))) rfl (fun _ => rfl) (jr_V C lkV_X9_83 (c_X9_found aF aL aT aK nd tp fd ik (-1000000001) hw) ⟨rfl, rfl, by decide, by decide, by decide, by decide⟩ [0, 1] (by decide) rfl (fx_rw C hB [0, 1] rfl) 1 9 rfl rfl rfl rfl (Nat.le_of_ble_eq_true rfl) dX9_then_29) (fun r4 u4 hw => ?_)
      exact j_iret C hB hR (u4, tsk, tze, tma, tki, tdn, twi, tdu, the, tyr, tsz) rfl dX9_then_32 hw rfl
    · replace hw := hw.2 z
      refine j_iload_n C 3 dX9_then_17 rfl ?_
      refine j_iconst C 0 dX9_then_18 (by decide) ?_
      refine j_iconst C 1 dX9_then_19 (by decide) ?_
      refine j_ciZ C (jr_S C lkS_X9_87 (c_X9_isWithin a3 0 1 hw) ⟨rfl, rfl, by decide, by decide, by decide, by decide⟩ [] (by decide) rfl (fx_ro C) rfl rfl (Nat.le_of_ble_eq_true rfl) dX9_then_20) (fun r5 u5 hw => ?_)
      refine j_if_ne C 33 dX9_then_23 (by decide) (fun z => ?_) (fun z => ?_)
      · replace hw := hw.2 z
        refine j_aload_n C 0 dX9_then_33 rfl ?_
        refine j_get C fl_X9_50_9 1 dX9_then_34 rfl rfl ?_
        refine j_aload_n C 0 dX9_then_37 rfl ?_
        refine j_get C fl_X9_44_9 1 dX9_then_38 rfl rfl ?_
        refine j_cvT C hB 9 27 (fun u6 : (Nat → Int32) × (Nat → Int32) × (Nat → Int32) × (Nat → Int32) × (Nat → Int32) × (Nat → Int32) × (Nat → Int32) × (Int32) × (Int32) => ((wD ca (aF 2) fd) ++ ((wF (aF 0) (aL 0) (aT 0) (aK 0) (tp 0) (aF 1) (aF 2) ik) ++ ((wN ca nd sd) ++ ((wC ca aT (nd 0) u6.1 u6.2.1 u6.2.2.1 u6.2.2.2.1 u6.2.2.2.2.1 u6.2.2.2.2.2.1 u6.2.2.2.2.2.2.1 the u6.2.2.2.2.2.2.2.1 u6.2.2.2.2.2.2.2.2) ++ (wC ca aL (nd 0) lsk lze lma lki ldn lwi ldu lhe lyr lsz)))))) rfl (fun _ => rfl) (jr_V C lkV_X9_200 (c_X2_become aT aL (nd 0) tsk tze tma tki tdn twi tdu the tyr tsz lsk lze lma lki ldn lwi ldu lhe lyr lsz hw) ⟨rfl, rfl, by decide, by decide, by decide, by decide⟩ [9, 10, 11, 12, 13, 14, 15, 16, 17, 18, 19, 20, 21, 22, 23, 24, 25, 26] rfl rfl (fx_rw C hB [9, 10, 11, 12, 13, 14, 15, 16, 17, 18, 19, 20, 21, 22, 23, 24, 25, 26] rfl) 9 2 rfl rfl rfl rfl (Nat.le_of_ble_eq_true rfl) dX9_then_41) (fun u6 hw => ?_)
        refine j_aload_n C 0 dX9_then_44 rfl ?_
        refine j_get C fl_X9_50_9 1 dX9_then_45 rfl rfl ?_
        refine j_iload_n C 2 dX9_then_48 rfl ?_
        refine j_cvT C hB 2 18 (fun u7 : (Nat → Int32) × (Nat → Int32) × (Nat → Int32) × (Nat → Int32) × (Nat → Int32) × (Nat → Int32) × (Int32) => ((wD ca (aF 2) fd) ++ ((wF (aF 0) (aL 0) (aT 0) (aK 0) (tp 0) (aF 1) (aF 2) ik) ++ ((wN ca nd sd) ++ ((wC ca aT (nd 0) u6.1 u7.1 u7.2.1 u6.2.2.2.1 u7.2.2.1 u7.2.2.2.1 u7.2.2.2.2.1 u7.2.2.2.2.2.1 u7.2.2.2.2.2.2 u6.2.2.2.2.2.2.2.2) ++ (wC ca aL (nd 0) lsk lze lma lki ldn lwi ldu lhe lyr lsz)))))) rfl (fun _ => rfl) (jr_V C lkV_X9_191 (c_X2_goYears nd aT u6.1 u6.2.1 u6.2.2.1 u6.2.2.2.1 u6.2.2.2.2.1 u6.2.2.2.2.2.1 u6.2.2.2.2.2.2.1 the u6.2.2.2.2.2.2.2.1 u6.2.2.2.2.2.2.2.2 a2 hw) ⟨rfl, rfl, by decide, by decide, by decide, by decide⟩ [2, 3, 4, 5, 6, 7, 8, 9, 10, 11, 12, 13, 14, 15, 16, 17] rfl rfl (fx_rw C hB [2, 3, 4, 5, 6, 7, 8, 9, 10, 11, 12, 13, 14, 15, 16, 17] rfl) 9 2 rfl rfl rfl rfl (Nat.le_of_ble_eq_true rfl) dX9_then_49) (fun u7 hw => ?_)
        refine j_iload_n C 3 dX9_then_52 rfl ?_
        refine j_if_ne C 68 dX9_then_53 (by decide) (fun z => ?_) (fun z => ?_)
        · replace hw := hw.2 z
          refine j_aload_n C 0 dX9_then_68 rfl ?_
          refine j_get C fl_X9_50_9 1 dX9_then_69 rfl rfl ?_
          refine j_get C fl_X9_101_2 9 dX9_then_72 rfl rfl ?_
          refine j_iload_n C 1 dX9_then_75 rfl ?_
          have hi8 := hw.1
          replace hw := hw.2
          refine j_iald C 12 dX9_then_76 rfl hi8 ?_
          exact j_iret C hB hR (fd, u6.1, u7.1, u7.2.1, u6.2.2.2.1, u7.2.2.1, u7.2.2.2.1, u7.2.2.2.2.1, u7.2.2.2.2.2.1, u7.2.2.2.2.2.2, u6.2.2.2.2.2.2.2.2) rfl dX9_then_77 hw rfl
        · replace hw := hw.1 z
          refine j_aload_n C 0 dX9_then_56 rfl ?_
          refine j_get C fl_X9_50_9 1 dX9_then_57 rfl rfl ?_
          refine j_get C fl_X9_98_2 9 dX9_then_60 rfl rfl ?_
          refine j_iload_n C 1 dX9_then_63 rfl ?_
          have hi9 := hw.1
          replace hw := hw.2
          refine j_iald C 11 dX9_then_64 rfl hi9 ?_
          refine j_goto C 77 dX9_then_65 (by decide) ?_
          exact j_iret C hB hR (fd, u6.1, u7.1, u7.2.1, u6.2.2.2.1, u7.2.2.1, u7.2.2.2.1, u7.2.2.2.2.1, u7.2.2.2.2.2.1, u7.2.2.2.2.2.2, u6.2.2.2.2.2.2.2.2) rfl dX9_then_77 hw rfl
      · replace hw := hw.1 z
        refine j_aload_n C 0 dX9_then_26 rfl ?_
        refine j_ldc C dX9_then_27 ct_X9_82 ?_
        refine j_ciT C hB 0 2 (fun u10 : (Nat → Int32) => ((wD ca (aF 2) u10) ++ ((wF (aF 0) (aL 0) (aT 0) (aK 0) (tp 0) (aF 1) (aF 2) ik) ++ ((wN ca nd sd) ++ ((wC ca aT (nd 0) tsk tze tma tki tdn twi tdu the tyr tsz) ++ (wC ca aL (nd 0) lsk lze lma lki ldn lwi ldu lhe lyr lsz)))))) rfl (fun _ => rfl) (jr_V C lkV_X9_83 (c_X9_found aF aL aT aK nd tp fd ik (-1000000001) hw) ⟨rfl, rfl, by decide, by decide, by decide, by decide⟩ [0, 1] (by decide) rfl (fx_rw C hB [0, 1] rfl) 1 9 rfl rfl rfl rfl (Nat.le_of_ble_eq_true rfl) dX9_then_29) (fun r10 u10 hw => ?_)
        exact j_iret C hB hR (u10, tsk, tze, tma, tki, tdn, twi, tdu, the, tyr, tsz) rfl dX9_then_32 hw rfl
def wp_X9_finished (fd : Nat → Int32) (tsk : Nat → Int32) (tze : Nat → Int32) (tma : Nat → Int32) (tki : Nat → Int32) (tdn : Nat → Int32) (twi : Nat → Int32) (tdu : Nat → Int32) (the : Nat → Int32) (tyr : Int32) (tsz : Int32) (lsk : Nat → Int32) (lze : Nat → Int32) (lma : Nat → Int32) (lki : Nat → Int32) (ldn : Nat → Int32) (lwi : Nat → Int32) (ldu : Nat → Int32) (lyr : Int32) (lsz : Int32)  (a1 : Int32) (Q : (Int32) → (Nat → Int32) → (Nat → Int32) → (Nat → Int32) → (Nat → Int32) → (Nat → Int32) → (Nat → Int32) → (Nat → Int32) → (Nat → Int32) → (Nat → Int32) → (Int32) → (Int32) → Prop) : Prop := wp_X9_isThing lsz a1 (fun r1 => (r1 = 0 → wp_X9_found fd (-1000000001) (fun r5 c5_0 => Q r5 c5_0 tsk tze tma tki tdn twi tdu the tyr tsz)) ∧ (¬ (r1 = 0) → wp_X2_become tsk tze tma tki tdn twi tdu lsk lze lma lki ldn lwi ldu lyr lsz (fun c2_0 c2_1 c2_2 c2_3 c2_4 c2_5 c2_6 c2_7 c2_8 => wp_X9_trialYearsToFinish c2_0 c2_1 c2_2 c2_3 c2_4 c2_5 c2_6 the c2_7 c2_8 a1 200 (fun r3 c3_0 c3_1 c3_2 c3_3 c3_4 c3_5 c3_6 => (0 ≤ r3 → Q r3 fd c2_0 c3_0 c3_1 c2_3 c3_2 c3_3 c3_4 c3_5 c3_6 c2_8) ∧ (¬ (0 ≤ r3) → wp_X9_found fd (-1000000004) (fun r4 c4_0 => Q r4 c4_0 c2_0 c3_0 c3_1 c2_3 c3_2 c3_3 c3_4 c3_5 c3_6 c2_8))))))
set_option maxRecDepth 100000 in
set_option maxHeartbeats 8000000 in
theorem c_X9_finished {l : Launch} {D : va_G} {ca : Nat → ClassId} {sd : Nat → Nat}  (aF : Nat → Nat) (aL : Nat → Nat) (aT : Nat → Nat) (aK : Nat → Nat) (nd : Nat → Nat) (tp : Nat → Nat) (fd : Nat → Int32) (ik : Int32) (tsk : Nat → Int32) (tze : Nat → Int32) (tma : Nat → Int32) (tki : Nat → Int32) (tdn : Nat → Int32) (twi : Nat → Int32) (tdu : Nat → Int32) (the : Nat → Int32) (tyr : Int32) (tsz : Int32) (lsk : Nat → Int32) (lze : Nat → Int32) (lma : Nat → Int32) (lki : Nat → Int32) (ldn : Nat → Int32) (lwi : Nat → Int32) (ldu : Nat → Int32) (lhe : Nat → Int32) (lyr : Int32) (lsz : Int32)  (a1 : Int32)  {Q : (Int32) → (Nat → Int32) → (Nat → Int32) → (Nat → Int32) → (Nat → Int32) → (Nat → Int32) → (Nat → Int32) → (Nat → Int32) → (Nat → Int32) → (Nat → Int32) → (Int32) → (Int32) → Prop} (hw : wp_X9_finished fd tsk tze tma tki tdn twi tdu the tyr tsz lsk lze lma lki ldn lwi ldu lyr lsz  a1 Q) : Cn l D ca sd yX9_finished cX9_finished 3 (some .int) { frames := 8, cells := 0, slots := 0, locals := 204 } [.ref (aF 0), .int a1] ((wD ca (aF 2) fd) ++ ((wF (aF 0) (aL 0) (aT 0) (aK 0) (tp 0) (aF 1) (aF 2) ik) ++ ((wN ca nd sd) ++ ((wC ca aT (nd 0) tsk tze tma tki tdn twi tdu the tyr tsz) ++ (wC ca aL (nd 0) lsk lze lma lki ldn lwi ldu lhe lyr lsz))))) ((wD ca (aF 2) fd) ++ ((wF (aF 0) (aL 0) (aT 0) (aK 0) (tp 0) (aF 1) (aF 2) ik) ++ ((wN ca nd sd) ++ ((wC ca aT (nd 0) tsk tze tma tki tdn twi tdu the tyr tsz) ++ (wC ca aL (nd 0) lsk lze lma lki ldn lwi ldu lhe lyr lsz))))) 0 0 (Ri D (fun (r : Int32) (u : (Nat → Int32) × (Nat → Int32) × (Nat → Int32) × (Nat → Int32) × (Nat → Int32) × (Nat → Int32) × (Nat → Int32) × (Nat → Int32) × (Nat → Int32) × (Int32) × (Int32)) => Q r u.1 u.2.1 u.2.2.1 u.2.2.2.1 u.2.2.2.2.1 u.2.2.2.2.2.1 u.2.2.2.2.2.2.1 u.2.2.2.2.2.2.2.1 u.2.2.2.2.2.2.2.2.1 u.2.2.2.2.2.2.2.2.2.1 u.2.2.2.2.2.2.2.2.2.2) (fun u => ((wD ca (aF 2) u.1) ++ ((wF (aF 0) (aL 0) (aT 0) (aK 0) (tp 0) (aF 1) (aF 2) ik) ++ ((wN ca nd sd) ++ ((wC ca aT (nd 0) u.2.1 u.2.2.1 u.2.2.2.1 u.2.2.2.2.1 u.2.2.2.2.2.1 u.2.2.2.2.2.2.1 u.2.2.2.2.2.2.2.1 u.2.2.2.2.2.2.2.2.1 u.2.2.2.2.2.2.2.2.2.1 u.2.2.2.2.2.2.2.2.2.2) ++ (wC ca aL (nd 0) lsk lze lma lki ldn lwi ldu lhe lyr lsz))))))) := by
  refine cn_of (by decide) (Nat.le_of_ble_eq_true rfl) (fun k C hR hB _ => ?_)
  have C : Cx D ca sd cX9_finished RX9 (some .int) { frames := 8, cells := 0, slots := 0, locals := 204 } k 3 := C
  unfold wp_X9_finished at hw
  show J l D k 3 0 0 0 ((wD ca (aF 2) fd) ++ ((wF (aF 0) (aL 0) (aT 0) (aK 0) (tp 0) (aF 1) (aF 2) ik) ++ ((wN ca nd sd) ++ ((wC ca aT (nd 0) tsk tze tma tki tdn twi tdu the tyr tsz) ++ (wC ca aL (nd 0) lsk lze lma lki ldn lwi ldu lhe lyr lsz))))) [(0, .ref (aF 0)), (1, .int a1)] []
  refine j_aload_n C 0 dX9_finished_0 rfl ?_
  refine j_iload_n C 1 dX9_finished_1 rfl ?_
  refine j_ciZ C (jr_V C lkV_X9_132 (c_X9_isThing aF aL aT aK nd tp ik lsk lze lma lki ldn lwi ldu lhe lyr lsz a1 hw) ⟨rfl, rfl, by decide, by decide, by decide, by decide⟩ [1, 18, 19, 20, 21, 22, 23, 24, 25, 26] (by decide) rfl (fx_ro C) 1 9 rfl rfl rfl rfl (Nat.le_of_ble_eq_true rfl) dX9_finished_2) (fun r1 u1 hw => ?_)
  refine j_if_ne C 15 dX9_finished_5 (by decide) (fun z => ?_) (fun z => ?_)
  · replace hw := hw.2 z
    refine j_aload_n C 0 dX9_finished_15 rfl ?_
    refine j_get C fl_X9_50_9 1 dX9_finished_16 rfl rfl ?_
    refine j_aload_n C 0 dX9_finished_19 rfl ?_
    refine j_get C fl_X9_44_9 1 dX9_finished_20 rfl rfl ?_
    refine j_cvT C hB 9 27 (fun u2 : (Nat → Int32) × (Nat → Int32) × (Nat → Int32) × (Nat → Int32) × (Nat → Int32) × (Nat → Int32) × (Nat → Int32) × (Int32) × (Int32) => ((wD ca (aF 2) fd) ++ ((wF (aF 0) (aL 0) (aT 0) (aK 0) (tp 0) (aF 1) (aF 2) ik) ++ ((wN ca nd sd) ++ ((wC ca aT (nd 0) u2.1 u2.2.1 u2.2.2.1 u2.2.2.2.1 u2.2.2.2.2.1 u2.2.2.2.2.2.1 u2.2.2.2.2.2.2.1 the u2.2.2.2.2.2.2.2.1 u2.2.2.2.2.2.2.2.2) ++ (wC ca aL (nd 0) lsk lze lma lki ldn lwi ldu lhe lyr lsz)))))) rfl (fun _ => rfl) (jr_V C lkV_X9_200 (c_X2_become aT aL (nd 0) tsk tze tma tki tdn twi tdu the tyr tsz lsk lze lma lki ldn lwi ldu lhe lyr lsz hw) ⟨rfl, rfl, by decide, by decide, by decide, by decide⟩ [9, 10, 11, 12, 13, 14, 15, 16, 17, 18, 19, 20, 21, 22, 23, 24, 25, 26] rfl rfl (fx_rw C hB [9, 10, 11, 12, 13, 14, 15, 16, 17, 18, 19, 20, 21, 22, 23, 24, 25, 26] rfl) 9 2 rfl rfl rfl rfl (Nat.le_of_ble_eq_true rfl) dX9_finished_23) (fun u2 hw => ?_)
    refine j_aload_n C 0 dX9_finished_26 rfl ?_
    refine j_iload_n C 1 dX9_finished_27 rfl ?_
    refine j_sipush C 200 dX9_finished_28 (by decide) ?_
    refine j_ciT C hB 1 18 (fun u3 : (Nat → Int32) × (Nat → Int32) × (Nat → Int32) × (Nat → Int32) × (Nat → Int32) × (Nat → Int32) × (Int32) => ((wD ca (aF 2) fd) ++ ((wF (aF 0) (aL 0) (aT 0) (aK 0) (tp 0) (aF 1) (aF 2) ik) ++ ((wN ca nd sd) ++ ((wC ca aT (nd 0) u2.1 u3.1 u3.2.1 u2.2.2.2.1 u3.2.2.1 u3.2.2.2.1 u3.2.2.2.2.1 u3.2.2.2.2.2.1 u3.2.2.2.2.2.2 u2.2.2.2.2.2.2.2.2) ++ (wC ca aL (nd 0) lsk lze lma lki ldn lwi ldu lhe lyr lsz)))))) rfl (fun _ => rfl) (jr_V C lkV_X9_204 (c_X9_trialYearsToFinish aF aL aT aK nd tp ik u2.1 u2.2.1 u2.2.2.1 u2.2.2.2.1 u2.2.2.2.2.1 u2.2.2.2.2.2.1 u2.2.2.2.2.2.2.1 the u2.2.2.2.2.2.2.2.1 u2.2.2.2.2.2.2.2.2 a1 200 hw) ⟨rfl, rfl, by decide, by decide, by decide, by decide⟩ [1, 2, 3, 4, 5, 6, 7, 8, 9, 10, 11, 12, 13, 14, 15, 16, 17] rfl rfl (fx_rw C hB [1, 2, 3, 4, 5, 6, 7, 8, 9, 10, 11, 12, 13, 14, 15, 16, 17] rfl) 1 9 rfl rfl rfl rfl (Nat.le_of_ble_eq_true rfl) dX9_finished_31) (fun r3 u3 hw => ?_)
    refine j_istore_n C [(2, .int r3), (0, .ref (aF 0)), (1, .int a1)] dX9_finished_34 (by decide) rfl ?_
    refine j_iload_n C 0 dX9_finished_35 rfl ?_
    refine j_if_ge C 48 dX9_finished_36 (by decide) (fun z => ?_) (fun z => ?_)
    · replace hw := hw.1 z
      refine j_iload_n C 0 dX9_finished_48 rfl ?_
      exact j_iret C hB hR (fd, u2.1, u3.1, u3.2.1, u2.2.2.2.1, u3.2.2.1, u3.2.2.2.1, u3.2.2.2.2.1, u3.2.2.2.2.2.1, u3.2.2.2.2.2.2, u2.2.2.2.2.2.2.2.2) rfl dX9_finished_49 hw rfl
    · replace hw := hw.2 z
      refine j_aload_n C 1 dX9_finished_39 rfl ?_
      refine j_ldc C dX9_finished_40 ct_X9_187 ?_
      refine j_ciT C hB 0 2 (fun u4 : (Nat → Int32) => ((wD ca (aF 2) u4) ++ ((wF (aF 0) (aL 0) (aT 0) (aK 0) (tp 0) (aF 1) (aF 2) ik) ++ ((wN ca nd sd) ++ ((wC ca aT (nd 0) u2.1 u3.1 u3.2.1 u2.2.2.2.1 u3.2.2.1 u3.2.2.2.1 u3.2.2.2.2.1 u3.2.2.2.2.2.1 u3.2.2.2.2.2.2 u2.2.2.2.2.2.2.2.2) ++ (wC ca aL (nd 0) lsk lze lma lki ldn lwi ldu lhe lyr lsz)))))) rfl (fun _ => rfl) (jr_V C lkV_X9_83 (c_X9_found aF aL aT aK nd tp fd ik (-1000000004) hw) ⟨rfl, rfl, by decide, by decide, by decide, by decide⟩ [0, 1] (by decide) rfl (fx_rw C hB [0, 1] rfl) 1 9 rfl rfl rfl rfl (Nat.le_of_ble_eq_true rfl) dX9_finished_42) (fun r4 u4 hw => ?_)
      refine j_goto C 49 dX9_finished_45 (by decide) ?_
      exact j_iret C hB hR (u4, u2.1, u3.1, u3.2.1, u2.2.2.2.1, u3.2.2.1, u3.2.2.2.1, u3.2.2.2.2.1, u3.2.2.2.2.2.1, u3.2.2.2.2.2.2, u2.2.2.2.2.2.2.2.2) rfl dX9_finished_49 hw rfl
  · replace hw := hw.1 z
    refine j_aload_n C 0 dX9_finished_8 rfl ?_
    refine j_ldc C dX9_finished_9 ct_X9_82 ?_
    refine j_ciT C hB 0 2 (fun u5 : (Nat → Int32) => ((wD ca (aF 2) u5) ++ ((wF (aF 0) (aL 0) (aT 0) (aK 0) (tp 0) (aF 1) (aF 2) ik) ++ ((wN ca nd sd) ++ ((wC ca aT (nd 0) tsk tze tma tki tdn twi tdu the tyr tsz) ++ (wC ca aL (nd 0) lsk lze lma lki ldn lwi ldu lhe lyr lsz)))))) rfl (fun _ => rfl) (jr_V C lkV_X9_83 (c_X9_found aF aL aT aK nd tp fd ik (-1000000001) hw) ⟨rfl, rfl, by decide, by decide, by decide, by decide⟩ [0, 1] (by decide) rfl (fx_rw C hB [0, 1] rfl) 1 9 rfl rfl rfl rfl (Nat.le_of_ble_eq_true rfl) dX9_finished_11) (fun r5 u5 hw => ?_)
    exact j_iret C hB hR (u5, tsk, tze, tma, tki, tdn, twi, tdu, the, tyr, tsz) rfl dX9_finished_14 hw rfl
def wpl_X9_comes_35 (fd : Nat → Int32) (tsk : Nat → Int32) (tki : Nat → Int32) (tsz : Int32) (x1 : Int32) (x2 : Int32) (Q : (Int32) → (Nat → Int32) → (Nat → Int32) → (Nat → Int32) → (Nat → Int32) → (Nat → Int32) → (Nat → Int32) → (Nat → Int32) → (Nat → Int32) → (Nat → Int32) → (Int32) → (Int32) → Prop) (K : (Int32) → (Nat → Int32) → (Nat → Int32) → (Nat → Int32) → (Nat → Int32) → (Nat → Int32) → (Nat → Int32) → (Int32) → Prop) : Nat → (Int32) → (Nat → Int32) → (Nat → Int32) → (Nat → Int32) → (Nat → Int32) → (Nat → Int32) → (Nat → Int32) → (Int32) → Prop
  | 0, _, _, _, _, _, _, _, _ => False
  | n + 1, x3, tze, tma, tdn, twi, tdu, the, tyr => (200 < x3 → K x3 tze tma tdn twi tdu the tyr) ∧ (¬ (200 < x3) → vp_in x1 8 ∧ (((twi (x1.toNatClampNeg)) = x2 → Q x3 fd tsk tze tma tki tdn twi tdu the tyr tsz) ∧ (¬ ((twi (x1.toNatClampNeg)) = x2) → wp_X2_goYear tsk tze tma tki tdn twi tdu the tyr tsz (fun c6_0 c6_1 c6_2 c6_3 c6_4 c6_5 c6_6 => wpl_X9_comes_35 fd tsk tki tsz x1 x2 Q K n (x3 + 1) c6_0 c6_1 c6_2 c6_3 c6_4 c6_5 c6_6))))
def wp_X9_comes (fd : Nat → Int32) (tsk : Nat → Int32) (tze : Nat → Int32) (tma : Nat → Int32) (tki : Nat → Int32) (tdn : Nat → Int32) (twi : Nat → Int32) (tdu : Nat → Int32) (the : Nat → Int32) (tyr : Int32) (tsz : Int32) (lsk : Nat → Int32) (lze : Nat → Int32) (lma : Nat → Int32) (lki : Nat → Int32) (ldn : Nat → Int32) (lwi : Nat → Int32) (ldu : Nat → Int32) (lyr : Int32) (lsz : Int32)  (a1 : Int32) (a2 : Int32) (Q : (Int32) → (Nat → Int32) → (Nat → Int32) → (Nat → Int32) → (Nat → Int32) → (Nat → Int32) → (Nat → Int32) → (Nat → Int32) → (Nat → Int32) → (Nat → Int32) → (Int32) → (Int32) → Prop) : Prop := wp_X9_isThing lsz a1 (fun r1 => (r1 = 0 → wp_X9_found fd (-1000000001) (fun r2 c2_0 => Q r2 c2_0 tsk tze tma tki tdn twi tdu the tyr tsz)) ∧ (¬ (r1 = 0) → wp_X9_isPerson a2 (fun r3 => (r3 = 0 → wp_X9_found fd (-1000000001) (fun r9 c9_0 => Q r9 c9_0 tsk tze tma tki tdn twi tdu the tyr tsz)) ∧ (¬ (r3 = 0) → wp_X2_become tsk tze tma tki tdn twi tdu lsk lze lma lki ldn lwi ldu lyr lsz (fun c4_0 c4_1 c4_2 c4_3 c4_4 c4_5 c4_6 c4_7 c4_8 => ∃ n7 : Nat, wpl_X9_comes_35 fd c4_0 c4_3 c4_8 a1 a2 Q (fun y7_3 y7_tze y7_tma y7_tdn y7_twi y7_tdu y7_the y7_tyr => wp_X9_found fd (-1000000004) (fun r8 c8_0 => Q r8 c8_0 c4_0 y7_tze y7_tma c4_3 y7_tdn y7_twi y7_tdu y7_the y7_tyr c4_8)) n7 0 c4_1 c4_2 c4_4 c4_5 c4_6 the c4_7)))))
set_option maxRecDepth 100000 in
set_option maxHeartbeats 8000000 in
theorem ml_X9_comes_35 {l : Launch} {D : va_G} {ca : Nat → ClassId} {sd : Nat → Nat}  {k : Kx} (aF : Nat → Nat) (aL : Nat → Nat) (aT : Nat → Nat) (aK : Nat → Nat) (nd : Nat → Nat) (tp : Nat → Nat)  (fd : Nat → Int32) (ik : Int32) (tsk : Nat → Int32) (tki : Nat → Int32) (tsz : Int32) (lsk : Nat → Int32) (lze : Nat → Int32) (lma : Nat → Int32) (lki : Nat → Int32) (ldn : Nat → Int32) (lwi : Nat → Int32) (ldu : Nat → Int32) (lhe : Nat → Int32) (lyr : Int32) (lsz : Int32) (x1 : Int32) (x2 : Int32) (C : Cx D ca sd cX9_comes RX9 (some .int) { frames := 7, cells := 0, slots := 0, locals := 181 } k 4) {Q : (Int32) → (Nat → Int32) → (Nat → Int32) → (Nat → Int32) → (Nat → Int32) → (Nat → Int32) → (Nat → Int32) → (Nat → Int32) → (Nat → Int32) → (Nat → Int32) → (Int32) → (Int32) → Prop} (hR : Rx (Ri D (fun (r : Int32) (u : (Nat → Int32) × (Nat → Int32) × (Nat → Int32) × (Nat → Int32) × (Nat → Int32) × (Nat → Int32) × (Nat → Int32) × (Nat → Int32) × (Nat → Int32) × (Int32) × (Int32)) => Q r u.1 u.2.1 u.2.2.1 u.2.2.2.1 u.2.2.2.2.1 u.2.2.2.2.2.1 u.2.2.2.2.2.2.1 u.2.2.2.2.2.2.2.1 u.2.2.2.2.2.2.2.2.1 u.2.2.2.2.2.2.2.2.2.1 u.2.2.2.2.2.2.2.2.2.2) (fun u => ((wD ca (aF 2) u.1) ++ ((wF (aF 0) (aL 0) (aT 0) (aK 0) (tp 0) (aF 1) (aF 2) ik) ++ ((wN ca nd sd) ++ ((wC ca aT (nd 0) u.2.1 u.2.2.1 u.2.2.2.1 u.2.2.2.2.1 u.2.2.2.2.2.1 u.2.2.2.2.2.2.1 u.2.2.2.2.2.2.2.1 u.2.2.2.2.2.2.2.2.1 u.2.2.2.2.2.2.2.2.2.1 u.2.2.2.2.2.2.2.2.2.2) ++ (wC ca aL (nd 0) lsk lze lma lki ldn lwi ldu lhe lyr lsz))))))) 0 0 k) (hB : Wx k) {K : (Int32) → (Nat → Int32) → (Nat → Int32) → (Nat → Int32) → (Nat → Int32) → (Nat → Int32) → (Nat → Int32) → (Int32) → Prop} (hK : ∀ (x3' : Int32) (tze' : Nat → Int32) (tma' : Nat → Int32) (tdn' : Nat → Int32) (twi' : Nat → Int32) (tdu' : Nat → Int32) (the' : Nat → Int32) (tyr' : Int32), K x3' tze' tma' tdn' twi' tdu' the' tyr' → J l D k 4 0 0 70 ((wD ca (aF 2) fd) ++ ((wF (aF 0) (aL 0) (aT 0) (aK 0) (tp 0) (aF 1) (aF 2) ik) ++ ((wN ca nd sd) ++ ((wC ca aT (nd 0) tsk tze' tma' tki tdn' twi' tdu' the' tyr' tsz) ++ (wC ca aL (nd 0) lsk lze lma lki ldn lwi ldu lhe lyr lsz))))) [(0, .ref (aF 0)), (1, .int x1), (2, .int x2), (3, .int x3')] []) : ∀ (n : Nat) (x3 : Int32) (tze : Nat → Int32) (tma : Nat → Int32) (tdn : Nat → Int32) (twi : Nat → Int32) (tdu : Nat → Int32) (the : Nat → Int32) (tyr : Int32), wpl_X9_comes_35 fd tsk tki tsz x1 x2 Q K n x3 tze tma tdn twi tdu the tyr → J l D k 4 0 0 35 ((wD ca (aF 2) fd) ++ ((wF (aF 0) (aL 0) (aT 0) (aK 0) (tp 0) (aF 1) (aF 2) ik) ++ ((wN ca nd sd) ++ ((wC ca aT (nd 0) tsk tze tma tki tdn twi tdu the tyr tsz) ++ (wC ca aL (nd 0) lsk lze lma lki ldn lwi ldu lhe lyr lsz))))) [(0, .ref (aF 0)), (1, .int x1), (2, .int x2), (3, .int x3)] [] := by
  intro n
  induction n with
  | zero =>
    intro x3 tze tma tdn twi tdu the tyr hw
    rw [wpl_X9_comes_35] at hw
    exact hw.elim
  | succ n ih =>
    intro x3 tze tma tdn twi tdu the tyr hw
    rw [wpl_X9_comes_35] at hw
    refine j_iload_n C 3 dX9_comes_35 rfl ?_
    refine j_sipush C 200 dX9_comes_36 (by decide) ?_
    refine j_icmp_gt C 70 dX9_comes_39 (by decide) (fun z => ?_) (fun z => ?_)
    · replace hw := hw.1 z
      exact hK x3 tze tma tdn twi tdu the tyr hw
    · replace hw := hw.2 z
      refine j_aload_n C 0 dX9_comes_42 rfl ?_
      refine j_get C fl_X9_50_9 1 dX9_comes_43 rfl rfl ?_
      refine j_get C fl_X9_141_2 9 dX9_comes_46 rfl rfl ?_
      refine j_iload_n C 1 dX9_comes_49 rfl ?_
      have hi5 := hw.1
      replace hw := hw.2
      refine j_iald C 15 dX9_comes_50 rfl hi5 ?_
      refine j_iload_n C 2 dX9_comes_51 rfl ?_
      refine j_icmp_ne C 57 dX9_comes_52 (by decide) (fun z => ?_) (fun z => ?_)
      · replace hw := hw.2 z
        refine j_aload_n C 0 dX9_comes_57 rfl ?_
        refine j_get C fl_X9_50_9 1 dX9_comes_58 rfl rfl ?_
        refine j_cvT C hB 2 18 (fun u6 : (Nat → Int32) × (Nat → Int32) × (Nat → Int32) × (Nat → Int32) × (Nat → Int32) × (Nat → Int32) × (Int32) => ((wD ca (aF 2) fd) ++ ((wF (aF 0) (aL 0) (aT 0) (aK 0) (tp 0) (aF 1) (aF 2) ik) ++ ((wN ca nd sd) ++ ((wC ca aT (nd 0) tsk u6.1 u6.2.1 tki u6.2.2.1 u6.2.2.2.1 u6.2.2.2.2.1 u6.2.2.2.2.2.1 u6.2.2.2.2.2.2 tsz) ++ (wC ca aL (nd 0) lsk lze lma lki ldn lwi ldu lhe lyr lsz)))))) rfl (fun _ => rfl) (jr_V C lkV_X9_207 (c_X2_goYear nd aT tsk tze tma tki tdn twi tdu the tyr tsz hw) ⟨rfl, rfl, by decide, by decide, by decide, by decide⟩ [2, 3, 4, 5, 6, 7, 8, 9, 10, 11, 12, 13, 14, 15, 16, 17] rfl rfl (fx_rw C hB [2, 3, 4, 5, 6, 7, 8, 9, 10, 11, 12, 13, 14, 15, 16, 17] rfl) 9 2 rfl rfl rfl rfl (Nat.le_of_ble_eq_true rfl) dX9_comes_61) (fun u6 hw => ?_)
        refine j_iinc C 3 (x3 + 1) [(3, .int (x3 + 1)), (0, .ref (aF 0)), (1, .int x1), (2, .int x2)] dX9_comes_64 rfl rfl (by decide) rfl ?_
        refine j_goto C 35 dX9_comes_67 (by decide) ?_
        refine j_lsub [1, 2, 3, 0] [(0, .ref (aF 0)), (1, .int x1), (2, .int x2), (3, .int (x3 + 1))] rfl ?_
        exact ih (x3 + 1) u6.1 u6.2.1 u6.2.2.1 u6.2.2.2.1 u6.2.2.2.2.1 u6.2.2.2.2.2.1 u6.2.2.2.2.2.2 hw
      · replace hw := hw.1 z
        refine j_iload_n C 3 dX9_comes_55 rfl ?_
        exact j_iret C hB hR (fd, tsk, tze, tma, tki, tdn, twi, tdu, the, tyr, tsz) rfl dX9_comes_56 hw rfl
set_option maxRecDepth 100000 in
set_option maxHeartbeats 8000000 in
theorem c_X9_comes {l : Launch} {D : va_G} {ca : Nat → ClassId} {sd : Nat → Nat}  (aF : Nat → Nat) (aL : Nat → Nat) (aT : Nat → Nat) (aK : Nat → Nat) (nd : Nat → Nat) (tp : Nat → Nat) (fd : Nat → Int32) (ik : Int32) (tsk : Nat → Int32) (tze : Nat → Int32) (tma : Nat → Int32) (tki : Nat → Int32) (tdn : Nat → Int32) (twi : Nat → Int32) (tdu : Nat → Int32) (the : Nat → Int32) (tyr : Int32) (tsz : Int32) (lsk : Nat → Int32) (lze : Nat → Int32) (lma : Nat → Int32) (lki : Nat → Int32) (ldn : Nat → Int32) (lwi : Nat → Int32) (ldu : Nat → Int32) (lhe : Nat → Int32) (lyr : Int32) (lsz : Int32)  (a1 : Int32) (a2 : Int32)  {Q : (Int32) → (Nat → Int32) → (Nat → Int32) → (Nat → Int32) → (Nat → Int32) → (Nat → Int32) → (Nat → Int32) → (Nat → Int32) → (Nat → Int32) → (Nat → Int32) → (Int32) → (Int32) → Prop} (hw : wp_X9_comes fd tsk tze tma tki tdn twi tdu the tyr tsz lsk lze lma lki ldn lwi ldu lyr lsz  a1 a2 Q) : Cn l D ca sd yX9_comes cX9_comes 4 (some .int) { frames := 7, cells := 0, slots := 0, locals := 181 } [.ref (aF 0), .int a1, .int a2] ((wD ca (aF 2) fd) ++ ((wF (aF 0) (aL 0) (aT 0) (aK 0) (tp 0) (aF 1) (aF 2) ik) ++ ((wN ca nd sd) ++ ((wC ca aT (nd 0) tsk tze tma tki tdn twi tdu the tyr tsz) ++ (wC ca aL (nd 0) lsk lze lma lki ldn lwi ldu lhe lyr lsz))))) ((wD ca (aF 2) fd) ++ ((wF (aF 0) (aL 0) (aT 0) (aK 0) (tp 0) (aF 1) (aF 2) ik) ++ ((wN ca nd sd) ++ ((wC ca aT (nd 0) tsk tze tma tki tdn twi tdu the tyr tsz) ++ (wC ca aL (nd 0) lsk lze lma lki ldn lwi ldu lhe lyr lsz))))) 0 0 (Ri D (fun (r : Int32) (u : (Nat → Int32) × (Nat → Int32) × (Nat → Int32) × (Nat → Int32) × (Nat → Int32) × (Nat → Int32) × (Nat → Int32) × (Nat → Int32) × (Nat → Int32) × (Int32) × (Int32)) => Q r u.1 u.2.1 u.2.2.1 u.2.2.2.1 u.2.2.2.2.1 u.2.2.2.2.2.1 u.2.2.2.2.2.2.1 u.2.2.2.2.2.2.2.1 u.2.2.2.2.2.2.2.2.1 u.2.2.2.2.2.2.2.2.2.1 u.2.2.2.2.2.2.2.2.2.2) (fun u => ((wD ca (aF 2) u.1) ++ ((wF (aF 0) (aL 0) (aT 0) (aK 0) (tp 0) (aF 1) (aF 2) ik) ++ ((wN ca nd sd) ++ ((wC ca aT (nd 0) u.2.1 u.2.2.1 u.2.2.2.1 u.2.2.2.2.1 u.2.2.2.2.2.1 u.2.2.2.2.2.2.1 u.2.2.2.2.2.2.2.1 u.2.2.2.2.2.2.2.2.1 u.2.2.2.2.2.2.2.2.2.1 u.2.2.2.2.2.2.2.2.2.2) ++ (wC ca aL (nd 0) lsk lze lma lki ldn lwi ldu lhe lyr lsz))))))) := by
  refine cn_of (by decide) (Nat.le_of_ble_eq_true rfl) (fun k C hR hB _ => ?_)
  have C : Cx D ca sd cX9_comes RX9 (some .int) { frames := 7, cells := 0, slots := 0, locals := 181 } k 4 := C
  unfold wp_X9_comes at hw
  show J l D k 4 0 0 0 ((wD ca (aF 2) fd) ++ ((wF (aF 0) (aL 0) (aT 0) (aK 0) (tp 0) (aF 1) (aF 2) ik) ++ ((wN ca nd sd) ++ ((wC ca aT (nd 0) tsk tze tma tki tdn twi tdu the tyr tsz) ++ (wC ca aL (nd 0) lsk lze lma lki ldn lwi ldu lhe lyr lsz))))) [(0, .ref (aF 0)), (1, .int a1), (2, .int a2)] []
  refine j_aload_n C 0 dX9_comes_0 rfl ?_
  refine j_iload_n C 1 dX9_comes_1 rfl ?_
  refine j_ciZ C (jr_V C lkV_X9_132 (c_X9_isThing aF aL aT aK nd tp ik lsk lze lma lki ldn lwi ldu lhe lyr lsz a1 hw) ⟨rfl, rfl, by decide, by decide, by decide, by decide⟩ [1, 18, 19, 20, 21, 22, 23, 24, 25, 26] (by decide) rfl (fx_ro C) 1 9 rfl rfl rfl rfl (Nat.le_of_ble_eq_true rfl) dX9_comes_2) (fun r1 u1 hw => ?_)
  refine j_if_eq C 15 dX9_comes_5 (by decide) (fun z => ?_) (fun z => ?_)
  · replace hw := hw.1 z
    refine j_aload_n C 0 dX9_comes_15 rfl ?_
    refine j_ldc C dX9_comes_16 ct_X9_82 ?_
    refine j_ciT C hB 0 2 (fun u2 : (Nat → Int32) => ((wD ca (aF 2) u2) ++ ((wF (aF 0) (aL 0) (aT 0) (aK 0) (tp 0) (aF 1) (aF 2) ik) ++ ((wN ca nd sd) ++ ((wC ca aT (nd 0) tsk tze tma tki tdn twi tdu the tyr tsz) ++ (wC ca aL (nd 0) lsk lze lma lki ldn lwi ldu lhe lyr lsz)))))) rfl (fun _ => rfl) (jr_V C lkV_X9_83 (c_X9_found aF aL aT aK nd tp fd ik (-1000000001) hw) ⟨rfl, rfl, by decide, by decide, by decide, by decide⟩ [0, 1] (by decide) rfl (fx_rw C hB [0, 1] rfl) 1 9 rfl rfl rfl rfl (Nat.le_of_ble_eq_true rfl) dX9_comes_18) (fun r2 u2 hw => ?_)
    exact j_iret C hB hR (u2, tsk, tze, tma, tki, tdn, twi, tdu, the, tyr, tsz) rfl dX9_comes_21 hw rfl
  · replace hw := hw.2 z
    refine j_iload_n C 2 dX9_comes_8 rfl ?_
    refine j_ciZ C (jr_S C lkS_X9_78 (c_X9_isPerson a2 hw) ⟨rfl, rfl, by decide, by decide, by decide, by decide⟩ [] (by decide) rfl (fx_ro C) rfl rfl (Nat.le_of_ble_eq_true rfl) dX9_comes_9) (fun r3 u3 hw => ?_)
    refine j_if_ne C 22 dX9_comes_12 (by decide) (fun z => ?_) (fun z => ?_)
    · replace hw := hw.2 z
      refine j_aload_n C 0 dX9_comes_22 rfl ?_
      refine j_get C fl_X9_50_9 1 dX9_comes_23 rfl rfl ?_
      refine j_aload_n C 0 dX9_comes_26 rfl ?_
      refine j_get C fl_X9_44_9 1 dX9_comes_27 rfl rfl ?_
      refine j_cvT C hB 9 27 (fun u4 : (Nat → Int32) × (Nat → Int32) × (Nat → Int32) × (Nat → Int32) × (Nat → Int32) × (Nat → Int32) × (Nat → Int32) × (Int32) × (Int32) => ((wD ca (aF 2) fd) ++ ((wF (aF 0) (aL 0) (aT 0) (aK 0) (tp 0) (aF 1) (aF 2) ik) ++ ((wN ca nd sd) ++ ((wC ca aT (nd 0) u4.1 u4.2.1 u4.2.2.1 u4.2.2.2.1 u4.2.2.2.2.1 u4.2.2.2.2.2.1 u4.2.2.2.2.2.2.1 the u4.2.2.2.2.2.2.2.1 u4.2.2.2.2.2.2.2.2) ++ (wC ca aL (nd 0) lsk lze lma lki ldn lwi ldu lhe lyr lsz)))))) rfl (fun _ => rfl) (jr_V C lkV_X9_200 (c_X2_become aT aL (nd 0) tsk tze tma tki tdn twi tdu the tyr tsz lsk lze lma lki ldn lwi ldu lhe lyr lsz hw) ⟨rfl, rfl, by decide, by decide, by decide, by decide⟩ [9, 10, 11, 12, 13, 14, 15, 16, 17, 18, 19, 20, 21, 22, 23, 24, 25, 26] rfl rfl (fx_rw C hB [9, 10, 11, 12, 13, 14, 15, 16, 17, 18, 19, 20, 21, 22, 23, 24, 25, 26] rfl) 9 2 rfl rfl rfl rfl (Nat.le_of_ble_eq_true rfl) dX9_comes_30) (fun u4 hw => ?_)
      refine j_iconst C 0 dX9_comes_33 (by decide) ?_
      refine j_istore_n C [(3, .int 0), (0, .ref (aF 0)), (1, .int a1), (2, .int a2)] dX9_comes_34 (by decide) rfl ?_
      refine j_lsub [1, 2, 3, 0] [(0, .ref (aF 0)), (1, .int a1), (2, .int a2), (3, .int 0)] rfl ?_
      obtain ⟨n7, hw⟩ := hw
      refine ml_X9_comes_35 aF aL aT aK nd tp  fd ik u4.1 u4.2.2.2.1 u4.2.2.2.2.2.2.2.2 lsk lze lma lki ldn lwi ldu lhe lyr lsz a1 a2 C hR hB (fun y7_3 y7_tze y7_tma y7_tdn y7_twi y7_tdu y7_the y7_tyr hw => ?_) n7 0 u4.2.1 u4.2.2.1 u4.2.2.2.2.1 u4.2.2.2.2.2.1 u4.2.2.2.2.2.2.1 the u4.2.2.2.2.2.2.2.1 hw
      refine j_aload_n C 0 dX9_comes_70 rfl ?_
      refine j_ldc C dX9_comes_71 ct_X9_187 ?_
      refine j_ciT C hB 0 2 (fun u8 : (Nat → Int32) => ((wD ca (aF 2) u8) ++ ((wF (aF 0) (aL 0) (aT 0) (aK 0) (tp 0) (aF 1) (aF 2) ik) ++ ((wN ca nd sd) ++ ((wC ca aT (nd 0) u4.1 y7_tze y7_tma u4.2.2.2.1 y7_tdn y7_twi y7_tdu y7_the y7_tyr u4.2.2.2.2.2.2.2.2) ++ (wC ca aL (nd 0) lsk lze lma lki ldn lwi ldu lhe lyr lsz)))))) rfl (fun _ => rfl) (jr_V C lkV_X9_83 (c_X9_found aF aL aT aK nd tp fd ik (-1000000004) hw) ⟨rfl, rfl, by decide, by decide, by decide, by decide⟩ [0, 1] (by decide) rfl (fx_rw C hB [0, 1] rfl) 1 9 rfl rfl rfl rfl (Nat.le_of_ble_eq_true rfl) dX9_comes_73) (fun r8 u8 hw => ?_)
      exact j_iret C hB hR (u8, u4.1, y7_tze, y7_tma, u4.2.2.2.1, y7_tdn, y7_twi, y7_tdu, y7_the, y7_tyr, u4.2.2.2.2.2.2.2.2) rfl dX9_comes_76 hw rfl
    · replace hw := hw.1 z
      refine j_aload_n C 0 dX9_comes_15 rfl ?_
      refine j_ldc C dX9_comes_16 ct_X9_82 ?_
      refine j_ciT C hB 0 2 (fun u9 : (Nat → Int32) => ((wD ca (aF 2) u9) ++ ((wF (aF 0) (aL 0) (aT 0) (aK 0) (tp 0) (aF 1) (aF 2) ik) ++ ((wN ca nd sd) ++ ((wC ca aT (nd 0) tsk tze tma tki tdn twi tdu the tyr tsz) ++ (wC ca aL (nd 0) lsk lze lma lki ldn lwi ldu lhe lyr lsz)))))) rfl (fun _ => rfl) (jr_V C lkV_X9_83 (c_X9_found aF aL aT aK nd tp fd ik (-1000000001) hw) ⟨rfl, rfl, by decide, by decide, by decide, by decide⟩ [0, 1] (by decide) rfl (fx_rw C hB [0, 1] rfl) 1 9 rfl rfl rfl rfl (Nat.le_of_ble_eq_true rfl) dX9_comes_18) (fun r9 u9 hw => ?_)
      exact j_iret C hB hR (u9, tsk, tze, tma, tki, tdn, twi, tdu, the, tyr, tsz) rfl dX9_comes_21 hw rfl
def wpl_X9_all_13 (fd : Nat → Int32) (tsk : Nat → Int32) (tki : Nat → Int32) (tsz : Int32) (Q : (Int32) → (Nat → Int32) → (Nat → Int32) → (Nat → Int32) → (Nat → Int32) → (Nat → Int32) → (Nat → Int32) → (Nat → Int32) → (Nat → Int32) → (Nat → Int32) → (Int32) → (Int32) → Prop) (K : (Int32) → (Nat → Int32) → (Nat → Int32) → (Nat → Int32) → (Nat → Int32) → (Nat → Int32) → (Nat → Int32) → (Int32) → Prop) : Nat → (Int32) → (Nat → Int32) → (Nat → Int32) → (Nat → Int32) → (Nat → Int32) → (Nat → Int32) → (Nat → Int32) → (Int32) → Prop
  | 0, _, _, _, _, _, _, _, _ => False
  | n + 1, x1, tze, tma, tdn, twi, tdu, the, tyr => (200 < x1 → K x1 tze tma tdn twi tdu the tyr) ∧ (¬ (200 < x1) → wp_X2_isAllFinished tdn tsz (fun r2 => (r2 = 0 → wp_X2_goYear tsk tze tma tki tdn twi tdu the tyr tsz (fun c3_0 c3_1 c3_2 c3_3 c3_4 c3_5 c3_6 => wpl_X9_all_13 fd tsk tki tsz Q K n (x1 + 1) c3_0 c3_1 c3_2 c3_3 c3_4 c3_5 c3_6)) ∧ (¬ (r2 = 0) → Q x1 fd tsk tze tma tki tdn twi tdu the tyr tsz)))
def wp_X9_all (fd : Nat → Int32) (tsk : Nat → Int32) (tze : Nat → Int32) (tma : Nat → Int32) (tki : Nat → Int32) (tdn : Nat → Int32) (twi : Nat → Int32) (tdu : Nat → Int32) (the : Nat → Int32) (lsk : Nat → Int32) (lze : Nat → Int32) (lma : Nat → Int32) (lki : Nat → Int32) (ldn : Nat → Int32) (lwi : Nat → Int32) (ldu : Nat → Int32) (lyr : Int32) (lsz : Int32)   (Q : (Int32) → (Nat → Int32) → (Nat → Int32) → (Nat → Int32) → (Nat → Int32) → (Nat → Int32) → (Nat → Int32) → (Nat → Int32) → (Nat → Int32) → (Nat → Int32) → (Int32) → (Int32) → Prop) : Prop := wp_X2_become tsk tze tma tki tdn twi tdu lsk lze lma lki ldn lwi ldu lyr lsz (fun c1_0 c1_1 c1_2 c1_3 c1_4 c1_5 c1_6 c1_7 c1_8 => ∃ n4 : Nat, wpl_X9_all_13 fd c1_0 c1_3 c1_8 Q (fun y4_1 y4_tze y4_tma y4_tdn y4_twi y4_tdu y4_the y4_tyr => wp_X9_found fd (-1000000004) (fun r5 c5_0 => Q r5 c5_0 c1_0 y4_tze y4_tma c1_3 y4_tdn y4_twi y4_tdu y4_the y4_tyr c1_8)) n4 0 c1_1 c1_2 c1_4 c1_5 c1_6 the c1_7)
set_option maxRecDepth 100000 in
set_option maxHeartbeats 8000000 in
theorem ml_X9_all_13 {l : Launch} {D : va_G} {ca : Nat → ClassId} {sd : Nat → Nat}  {k : Kx} (aF : Nat → Nat) (aL : Nat → Nat) (aT : Nat → Nat) (aK : Nat → Nat) (nd : Nat → Nat) (tp : Nat → Nat)  (fd : Nat → Int32) (ik : Int32) (tsk : Nat → Int32) (tki : Nat → Int32) (tsz : Int32) (lsk : Nat → Int32) (lze : Nat → Int32) (lma : Nat → Int32) (lki : Nat → Int32) (ldn : Nat → Int32) (lwi : Nat → Int32) (ldu : Nat → Int32) (lhe : Nat → Int32) (lyr : Int32) (lsz : Int32) (C : Cx D ca sd cX9_all RX9 (some .int) { frames := 7, cells := 0, slots := 0, locals := 181 } k 2) {Q : (Int32) → (Nat → Int32) → (Nat → Int32) → (Nat → Int32) → (Nat → Int32) → (Nat → Int32) → (Nat → Int32) → (Nat → Int32) → (Nat → Int32) → (Nat → Int32) → (Int32) → (Int32) → Prop} (hR : Rx (Ri D (fun (r : Int32) (u : (Nat → Int32) × (Nat → Int32) × (Nat → Int32) × (Nat → Int32) × (Nat → Int32) × (Nat → Int32) × (Nat → Int32) × (Nat → Int32) × (Nat → Int32) × (Int32) × (Int32)) => Q r u.1 u.2.1 u.2.2.1 u.2.2.2.1 u.2.2.2.2.1 u.2.2.2.2.2.1 u.2.2.2.2.2.2.1 u.2.2.2.2.2.2.2.1 u.2.2.2.2.2.2.2.2.1 u.2.2.2.2.2.2.2.2.2.1 u.2.2.2.2.2.2.2.2.2.2) (fun u => ((wD ca (aF 2) u.1) ++ ((wF (aF 0) (aL 0) (aT 0) (aK 0) (tp 0) (aF 1) (aF 2) ik) ++ ((wN ca nd sd) ++ ((wC ca aT (nd 0) u.2.1 u.2.2.1 u.2.2.2.1 u.2.2.2.2.1 u.2.2.2.2.2.1 u.2.2.2.2.2.2.1 u.2.2.2.2.2.2.2.1 u.2.2.2.2.2.2.2.2.1 u.2.2.2.2.2.2.2.2.2.1 u.2.2.2.2.2.2.2.2.2.2) ++ (wC ca aL (nd 0) lsk lze lma lki ldn lwi ldu lhe lyr lsz))))))) 0 0 k) (hB : Wx k) {K : (Int32) → (Nat → Int32) → (Nat → Int32) → (Nat → Int32) → (Nat → Int32) → (Nat → Int32) → (Nat → Int32) → (Int32) → Prop} (hK : ∀ (x1' : Int32) (tze' : Nat → Int32) (tma' : Nat → Int32) (tdn' : Nat → Int32) (twi' : Nat → Int32) (tdu' : Nat → Int32) (the' : Nat → Int32) (tyr' : Int32), K x1' tze' tma' tdn' twi' tdu' the' tyr' → J l D k 2 0 0 45 ((wD ca (aF 2) fd) ++ ((wF (aF 0) (aL 0) (aT 0) (aK 0) (tp 0) (aF 1) (aF 2) ik) ++ ((wN ca nd sd) ++ ((wC ca aT (nd 0) tsk tze' tma' tki tdn' twi' tdu' the' tyr' tsz) ++ (wC ca aL (nd 0) lsk lze lma lki ldn lwi ldu lhe lyr lsz))))) [(0, .ref (aF 0)), (1, .int x1')] []) : ∀ (n : Nat) (x1 : Int32) (tze : Nat → Int32) (tma : Nat → Int32) (tdn : Nat → Int32) (twi : Nat → Int32) (tdu : Nat → Int32) (the : Nat → Int32) (tyr : Int32), wpl_X9_all_13 fd tsk tki tsz Q K n x1 tze tma tdn twi tdu the tyr → J l D k 2 0 0 13 ((wD ca (aF 2) fd) ++ ((wF (aF 0) (aL 0) (aT 0) (aK 0) (tp 0) (aF 1) (aF 2) ik) ++ ((wN ca nd sd) ++ ((wC ca aT (nd 0) tsk tze tma tki tdn twi tdu the tyr tsz) ++ (wC ca aL (nd 0) lsk lze lma lki ldn lwi ldu lhe lyr lsz))))) [(0, .ref (aF 0)), (1, .int x1)] [] := by
  intro n
  induction n with
  | zero =>
    intro x1 tze tma tdn twi tdu the tyr hw
    rw [wpl_X9_all_13] at hw
    exact hw.elim
  | succ n ih =>
    intro x1 tze tma tdn twi tdu the tyr hw
    rw [wpl_X9_all_13] at hw
    refine j_iload_n C 1 dX9_all_13 rfl ?_
    refine j_sipush C 200 dX9_all_14 (by decide) ?_
    refine j_icmp_gt C 45 dX9_all_17 (by decide) (fun z => ?_) (fun z => ?_)
    · replace hw := hw.1 z
      exact hK x1 tze tma tdn twi tdu the tyr hw
    · replace hw := hw.2 z
      refine j_aload_n C 0 dX9_all_20 rfl ?_
      refine j_get C fl_X9_50_9 1 dX9_all_21 rfl rfl ?_
      refine j_ciZ C (jr_V C lkV_X9_210 (c_X2_isAllFinished aT (nd 0) tsk tze tma tki tdn twi tdu the tyr tsz hw) ⟨rfl, rfl, by decide, by decide, by decide, by decide⟩ [9, 10, 11, 12, 13, 14, 15, 16, 17] (by decide) rfl (fx_ro C) 9 2 rfl rfl rfl rfl (Nat.le_of_ble_eq_true rfl) dX9_all_24) (fun r2 u2 hw => ?_)
      refine j_if_eq C 32 dX9_all_27 (by decide) (fun z => ?_) (fun z => ?_)
      · replace hw := hw.1 z
        refine j_aload_n C 0 dX9_all_32 rfl ?_
        refine j_get C fl_X9_50_9 1 dX9_all_33 rfl rfl ?_
        refine j_cvT C hB 2 18 (fun u3 : (Nat → Int32) × (Nat → Int32) × (Nat → Int32) × (Nat → Int32) × (Nat → Int32) × (Nat → Int32) × (Int32) => ((wD ca (aF 2) fd) ++ ((wF (aF 0) (aL 0) (aT 0) (aK 0) (tp 0) (aF 1) (aF 2) ik) ++ ((wN ca nd sd) ++ ((wC ca aT (nd 0) tsk u3.1 u3.2.1 tki u3.2.2.1 u3.2.2.2.1 u3.2.2.2.2.1 u3.2.2.2.2.2.1 u3.2.2.2.2.2.2 tsz) ++ (wC ca aL (nd 0) lsk lze lma lki ldn lwi ldu lhe lyr lsz)))))) rfl (fun _ => rfl) (jr_V C lkV_X9_207 (c_X2_goYear nd aT tsk tze tma tki tdn twi tdu the tyr tsz hw) ⟨rfl, rfl, by decide, by decide, by decide, by decide⟩ [2, 3, 4, 5, 6, 7, 8, 9, 10, 11, 12, 13, 14, 15, 16, 17] rfl rfl (fx_rw C hB [2, 3, 4, 5, 6, 7, 8, 9, 10, 11, 12, 13, 14, 15, 16, 17] rfl) 9 2 rfl rfl rfl rfl (Nat.le_of_ble_eq_true rfl) dX9_all_36) (fun u3 hw => ?_)
        refine j_iinc C 1 (x1 + 1) [(1, .int (x1 + 1)), (0, .ref (aF 0))] dX9_all_39 rfl rfl (by decide) rfl ?_
        refine j_goto C 13 dX9_all_42 (by decide) ?_
        refine j_lsub [1, 0] [(0, .ref (aF 0)), (1, .int (x1 + 1))] rfl ?_
        exact ih (x1 + 1) u3.1 u3.2.1 u3.2.2.1 u3.2.2.2.1 u3.2.2.2.2.1 u3.2.2.2.2.2.1 u3.2.2.2.2.2.2 hw
      · replace hw := hw.2 z
        refine j_iload_n C 1 dX9_all_30 rfl ?_
        exact j_iret C hB hR (fd, tsk, tze, tma, tki, tdn, twi, tdu, the, tyr, tsz) rfl dX9_all_31 hw rfl
set_option maxRecDepth 100000 in
set_option maxHeartbeats 8000000 in
theorem c_X9_all {l : Launch} {D : va_G} {ca : Nat → ClassId} {sd : Nat → Nat}  (aF : Nat → Nat) (aL : Nat → Nat) (aT : Nat → Nat) (aK : Nat → Nat) (nd : Nat → Nat) (tp : Nat → Nat) (fd : Nat → Int32) (ik : Int32) (tsk : Nat → Int32) (tze : Nat → Int32) (tma : Nat → Int32) (tki : Nat → Int32) (tdn : Nat → Int32) (twi : Nat → Int32) (tdu : Nat → Int32) (the : Nat → Int32) (tyr : Int32) (tsz : Int32) (lsk : Nat → Int32) (lze : Nat → Int32) (lma : Nat → Int32) (lki : Nat → Int32) (ldn : Nat → Int32) (lwi : Nat → Int32) (ldu : Nat → Int32) (lhe : Nat → Int32) (lyr : Int32) (lsz : Int32)    {Q : (Int32) → (Nat → Int32) → (Nat → Int32) → (Nat → Int32) → (Nat → Int32) → (Nat → Int32) → (Nat → Int32) → (Nat → Int32) → (Nat → Int32) → (Nat → Int32) → (Int32) → (Int32) → Prop} (hw : wp_X9_all fd tsk tze tma tki tdn twi tdu the lsk lze lma lki ldn lwi ldu lyr lsz   Q) : Cn l D ca sd yX9_all cX9_all 2 (some .int) { frames := 7, cells := 0, slots := 0, locals := 181 } [.ref (aF 0)] ((wD ca (aF 2) fd) ++ ((wF (aF 0) (aL 0) (aT 0) (aK 0) (tp 0) (aF 1) (aF 2) ik) ++ ((wN ca nd sd) ++ ((wC ca aT (nd 0) tsk tze tma tki tdn twi tdu the tyr tsz) ++ (wC ca aL (nd 0) lsk lze lma lki ldn lwi ldu lhe lyr lsz))))) ((wD ca (aF 2) fd) ++ ((wF (aF 0) (aL 0) (aT 0) (aK 0) (tp 0) (aF 1) (aF 2) ik) ++ ((wN ca nd sd) ++ ((wC ca aT (nd 0) tsk tze tma tki tdn twi tdu the tyr tsz) ++ (wC ca aL (nd 0) lsk lze lma lki ldn lwi ldu lhe lyr lsz))))) 0 0 (Ri D (fun (r : Int32) (u : (Nat → Int32) × (Nat → Int32) × (Nat → Int32) × (Nat → Int32) × (Nat → Int32) × (Nat → Int32) × (Nat → Int32) × (Nat → Int32) × (Nat → Int32) × (Int32) × (Int32)) => Q r u.1 u.2.1 u.2.2.1 u.2.2.2.1 u.2.2.2.2.1 u.2.2.2.2.2.1 u.2.2.2.2.2.2.1 u.2.2.2.2.2.2.2.1 u.2.2.2.2.2.2.2.2.1 u.2.2.2.2.2.2.2.2.2.1 u.2.2.2.2.2.2.2.2.2.2) (fun u => ((wD ca (aF 2) u.1) ++ ((wF (aF 0) (aL 0) (aT 0) (aK 0) (tp 0) (aF 1) (aF 2) ik) ++ ((wN ca nd sd) ++ ((wC ca aT (nd 0) u.2.1 u.2.2.1 u.2.2.2.1 u.2.2.2.2.1 u.2.2.2.2.2.1 u.2.2.2.2.2.2.1 u.2.2.2.2.2.2.2.1 u.2.2.2.2.2.2.2.2.1 u.2.2.2.2.2.2.2.2.2.1 u.2.2.2.2.2.2.2.2.2.2) ++ (wC ca aL (nd 0) lsk lze lma lki ldn lwi ldu lhe lyr lsz))))))) := by
  refine cn_of (by decide) (Nat.le_of_ble_eq_true rfl) (fun k C hR hB _ => ?_)
  have C : Cx D ca sd cX9_all RX9 (some .int) { frames := 7, cells := 0, slots := 0, locals := 181 } k 2 := C
  unfold wp_X9_all at hw
  show J l D k 2 0 0 0 ((wD ca (aF 2) fd) ++ ((wF (aF 0) (aL 0) (aT 0) (aK 0) (tp 0) (aF 1) (aF 2) ik) ++ ((wN ca nd sd) ++ ((wC ca aT (nd 0) tsk tze tma tki tdn twi tdu the tyr tsz) ++ (wC ca aL (nd 0) lsk lze lma lki ldn lwi ldu lhe lyr lsz))))) [(0, .ref (aF 0))] []
  refine j_aload_n C 0 dX9_all_0 rfl ?_
  refine j_get C fl_X9_50_9 1 dX9_all_1 rfl rfl ?_
  refine j_aload_n C 0 dX9_all_4 rfl ?_
  refine j_get C fl_X9_44_9 1 dX9_all_5 rfl rfl ?_
  refine j_cvT C hB 9 27 (fun u1 : (Nat → Int32) × (Nat → Int32) × (Nat → Int32) × (Nat → Int32) × (Nat → Int32) × (Nat → Int32) × (Nat → Int32) × (Int32) × (Int32) => ((wD ca (aF 2) fd) ++ ((wF (aF 0) (aL 0) (aT 0) (aK 0) (tp 0) (aF 1) (aF 2) ik) ++ ((wN ca nd sd) ++ ((wC ca aT (nd 0) u1.1 u1.2.1 u1.2.2.1 u1.2.2.2.1 u1.2.2.2.2.1 u1.2.2.2.2.2.1 u1.2.2.2.2.2.2.1 the u1.2.2.2.2.2.2.2.1 u1.2.2.2.2.2.2.2.2) ++ (wC ca aL (nd 0) lsk lze lma lki ldn lwi ldu lhe lyr lsz)))))) rfl (fun _ => rfl) (jr_V C lkV_X9_200 (c_X2_become aT aL (nd 0) tsk tze tma tki tdn twi tdu the tyr tsz lsk lze lma lki ldn lwi ldu lhe lyr lsz hw) ⟨rfl, rfl, by decide, by decide, by decide, by decide⟩ [9, 10, 11, 12, 13, 14, 15, 16, 17, 18, 19, 20, 21, 22, 23, 24, 25, 26] rfl rfl (fx_rw C hB [9, 10, 11, 12, 13, 14, 15, 16, 17, 18, 19, 20, 21, 22, 23, 24, 25, 26] rfl) 9 2 rfl rfl rfl rfl (Nat.le_of_ble_eq_true rfl) dX9_all_8) (fun u1 hw => ?_)
  refine j_iconst C 0 dX9_all_11 (by decide) ?_
  refine j_istore_n C [(1, .int 0), (0, .ref (aF 0))] dX9_all_12 (by decide) rfl ?_
  refine j_lsub [1, 0] [(0, .ref (aF 0)), (1, .int 0)] rfl ?_
  obtain ⟨n4, hw⟩ := hw
  refine ml_X9_all_13 aF aL aT aK nd tp  fd ik u1.1 u1.2.2.2.1 u1.2.2.2.2.2.2.2.2 lsk lze lma lki ldn lwi ldu lhe lyr lsz C hR hB (fun y4_1 y4_tze y4_tma y4_tdn y4_twi y4_tdu y4_the y4_tyr hw => ?_) n4 0 u1.2.1 u1.2.2.1 u1.2.2.2.2.1 u1.2.2.2.2.2.1 u1.2.2.2.2.2.2.1 the u1.2.2.2.2.2.2.2.1 hw
  refine j_aload_n C 0 dX9_all_45 rfl ?_
  refine j_ldc C dX9_all_46 ct_X9_187 ?_
  refine j_ciT C hB 0 2 (fun u5 : (Nat → Int32) => ((wD ca (aF 2) u5) ++ ((wF (aF 0) (aL 0) (aT 0) (aK 0) (tp 0) (aF 1) (aF 2) ik) ++ ((wN ca nd sd) ++ ((wC ca aT (nd 0) u1.1 y4_tze y4_tma u1.2.2.2.1 y4_tdn y4_twi y4_tdu y4_the y4_tyr u1.2.2.2.2.2.2.2.2) ++ (wC ca aL (nd 0) lsk lze lma lki ldn lwi ldu lhe lyr lsz)))))) rfl (fun _ => rfl) (jr_V C lkV_X9_83 (c_X9_found aF aL aT aK nd tp fd ik (-1000000004) hw) ⟨rfl, rfl, by decide, by decide, by decide, by decide⟩ [0, 1] (by decide) rfl (fx_rw C hB [0, 1] rfl) 1 9 rfl rfl rfl rfl (Nat.le_of_ble_eq_true rfl) dX9_all_48) (fun r5 u5 hw => ?_)
  exact j_iret C hB hR (u5, u1.1, y4_tze, y4_tma, u1.2.2.2.1, y4_tdn, y4_twi, y4_tdu, y4_the, y4_tyr, u1.2.2.2.2.2.2.2.2) rfl dX9_all_51 hw rfl
def wpl_X9_give_41 (lsk : Nat → Int32) (lze : Nat → Int32) (lma : Nat → Int32) (lki : Nat → Int32) (ldn : Nat → Int32) (lwi : Nat → Int32) (ldu : Nat → Int32) (lyr : Int32) (lsz : Int32) (x1 : Int32) (K : (Int32) → (Int32) → (Int32) → (Nat → Int32) → (Nat → Int32) → (Nat → Int32) → (Nat → Int32) → (Nat → Int32) → (Nat → Int32) → (Nat → Int32) → (Nat → Int32) → (Int32) → (Int32) → Prop) : Nat → (Int32) → (Int32) → (Int32) → (Nat → Int32) → (Nat → Int32) → (Nat → Int32) → (Nat → Int32) → (Nat → Int32) → (Nat → Int32) → (Nat → Int32) → (Nat → Int32) → (Int32) → (Int32) → Prop
  | 0, _, _, _, _, _, _, _, _, _, _, _, _, _ => False
  | n + 1, x2, x3, x4, tsk, tze, tma, tki, tdn, twi, tdu, the, tyr, tsz => (6 ≤ x4 → K x2 x3 x4 tsk tze tma tki tdn twi tdu the tyr tsz) ∧ (¬ (6 ≤ x4) → wp_X2_become tsk tze tma tki tdn twi tdu lsk lze lma lki ldn lwi ldu lyr lsz (fun c3_0 c3_1 c3_2 c3_3 c3_4 c3_5 c3_6 c3_7 c3_8 => vp_in x1 8 ∧ (wp_X9_trialYearsToFinish c3_0 c3_1 c3_2 c3_3 c3_4 (upd c3_5 (x1.toNatClampNeg) x4) c3_6 the c3_7 c3_8 x1 (x3 - 1) (fun r5 c5_0 c5_1 c5_2 c5_3 c5_4 c5_5 c5_6 => (r5 < 0 → wpl_X9_give_41 lsk lze lma lki ldn lwi ldu lyr lsz x1  K n x2 x3 (x4 + 1) c3_0 c5_0 c5_1 c3_3 c5_2 c5_3 c5_4 c5_5 c5_6 c3_8) ∧ (¬ (r5 < 0) → wpl_X9_give_41 lsk lze lma lki ldn lwi ldu lyr lsz x1  K n x4 r5 (x4 + 1) c3_0 c5_0 c5_1 c3_3 c5_2 c5_3 c5_4 c5_5 c5_6 c3_8)))))
def wp_X9_give (fd : Nat → Int32) (tsk : Nat → Int32) (tze : Nat → Int32) (tma : Nat → Int32) (tki : Nat → Int32) (tdn : Nat → Int32) (twi : Nat → Int32) (tdu : Nat → Int32) (the : Nat → Int32) (tyr : Int32) (tsz : Int32) (lsk : Nat → Int32) (lze : Nat → Int32) (lma : Nat → Int32) (lki : Nat → Int32) (ldn : Nat → Int32) (lwi : Nat → Int32) (ldu : Nat → Int32) (lyr : Int32) (lsz : Int32)  (a1 : Int32) (Q : (Int32) → (Nat → Int32) → (Nat → Int32) → (Nat → Int32) → (Nat → Int32) → (Nat → Int32) → (Nat → Int32) → (Nat → Int32) → (Nat → Int32) → (Nat → Int32) → (Int32) → (Int32) → Prop) : Prop := wp_X9_isThing lsz a1 (fun r1 => (r1 = 0 → wp_X9_found fd (-1000000001) (fun r9 c9_0 => Q r9 c9_0 tsk tze tma tki tdn twi tdu the tyr tsz)) ∧ (¬ (r1 = 0) → wp_X2_isFinished ldn a1 (fun r2 => (r2 = 0 → ∃ n6 : Nat, wpl_X9_give_41 lsk lze lma lki ldn lwi ldu lyr lsz a1  (fun y6_2 y6_3 y6_4 y6_tsk y6_tze y6_tma y6_tki y6_tdn y6_twi y6_tdu y6_the y6_tyr y6_tsz => (0 ≤ y6_2 → Q y6_2 fd y6_tsk y6_tze y6_tma y6_tki y6_tdn y6_twi y6_tdu y6_the y6_tyr y6_tsz) ∧ (¬ (0 ≤ y6_2) → wp_X9_found fd (-1000000004) (fun r7 c7_0 => Q r7 c7_0 y6_tsk y6_tze y6_tma y6_tki y6_tdn y6_twi y6_tdu y6_the y6_tyr y6_tsz))) n6 (-1) 101 0 tsk tze tma tki tdn twi tdu the tyr tsz) ∧ (¬ (r2 = 0) → wp_X9_found fd (-1000000005) (fun r8 c8_0 => Q r8 c8_0 tsk tze tma tki tdn twi tdu the tyr tsz)))))
set_option maxRecDepth 100000 in
set_option maxHeartbeats 8000000 in
theorem ml_X9_give_41 {l : Launch} {D : va_G} {ca : Nat → ClassId} {sd : Nat → Nat}  {k : Kx} (aF : Nat → Nat) (aL : Nat → Nat) (aT : Nat → Nat) (aK : Nat → Nat) (nd : Nat → Nat) (tp : Nat → Nat)  (fd : Nat → Int32) (ik : Int32) (lsk : Nat → Int32) (lze : Nat → Int32) (lma : Nat → Int32) (lki : Nat → Int32) (ldn : Nat → Int32) (lwi : Nat → Int32) (ldu : Nat → Int32) (lhe : Nat → Int32) (lyr : Int32) (lsz : Int32) (x1 : Int32) (C : Cx D ca sd cX9_give RX9 (some .int) { frames := 8, cells := 0, slots := 0, locals := 204 } k 6) {Q : (Int32) → (Nat → Int32) → (Nat → Int32) → (Nat → Int32) → (Nat → Int32) → (Nat → Int32) → (Nat → Int32) → (Nat → Int32) → (Nat → Int32) → (Nat → Int32) → (Int32) → (Int32) → Prop} (hR : Rx (Ri D (fun (r : Int32) (u : (Nat → Int32) × (Nat → Int32) × (Nat → Int32) × (Nat → Int32) × (Nat → Int32) × (Nat → Int32) × (Nat → Int32) × (Nat → Int32) × (Nat → Int32) × (Int32) × (Int32)) => Q r u.1 u.2.1 u.2.2.1 u.2.2.2.1 u.2.2.2.2.1 u.2.2.2.2.2.1 u.2.2.2.2.2.2.1 u.2.2.2.2.2.2.2.1 u.2.2.2.2.2.2.2.2.1 u.2.2.2.2.2.2.2.2.2.1 u.2.2.2.2.2.2.2.2.2.2) (fun u => ((wD ca (aF 2) u.1) ++ ((wF (aF 0) (aL 0) (aT 0) (aK 0) (tp 0) (aF 1) (aF 2) ik) ++ ((wN ca nd sd) ++ ((wC ca aT (nd 0) u.2.1 u.2.2.1 u.2.2.2.1 u.2.2.2.2.1 u.2.2.2.2.2.1 u.2.2.2.2.2.2.1 u.2.2.2.2.2.2.2.1 u.2.2.2.2.2.2.2.2.1 u.2.2.2.2.2.2.2.2.2.1 u.2.2.2.2.2.2.2.2.2.2) ++ (wC ca aL (nd 0) lsk lze lma lki ldn lwi ldu lhe lyr lsz))))))) 0 0 k) (hB : Wx k) {K : (Int32) → (Int32) → (Int32) → (Nat → Int32) → (Nat → Int32) → (Nat → Int32) → (Nat → Int32) → (Nat → Int32) → (Nat → Int32) → (Nat → Int32) → (Nat → Int32) → (Int32) → (Int32) → Prop} (hK : ∀ (x2' : Int32) (x3' : Int32) (x4' : Int32) (tsk' : Nat → Int32) (tze' : Nat → Int32) (tma' : Nat → Int32) (tki' : Nat → Int32) (tdn' : Nat → Int32) (twi' : Nat → Int32) (tdu' : Nat → Int32) (the' : Nat → Int32) (tyr' : Int32) (tsz' : Int32), K x2' x3' x4' tsk' tze' tma' tki' tdn' twi' tdu' the' tyr' tsz' → J l D k 6 0 0 97 ((wD ca (aF 2) fd) ++ ((wF (aF 0) (aL 0) (aT 0) (aK 0) (tp 0) (aF 1) (aF 2) ik) ++ ((wN ca nd sd) ++ ((wC ca aT (nd 0) tsk' tze' tma' tki' tdn' twi' tdu' the' tyr' tsz') ++ (wC ca aL (nd 0) lsk lze lma lki ldn lwi ldu lhe lyr lsz))))) [(0, .ref (aF 0)), (1, .int x1), (2, .int x2'), (3, .int x3'), (4, .int x4')] []) : ∀ (n : Nat) (x2 : Int32) (x3 : Int32) (x4 : Int32) (tsk : Nat → Int32) (tze : Nat → Int32) (tma : Nat → Int32) (tki : Nat → Int32) (tdn : Nat → Int32) (twi : Nat → Int32) (tdu : Nat → Int32) (the : Nat → Int32) (tyr : Int32) (tsz : Int32), wpl_X9_give_41 lsk lze lma lki ldn lwi ldu lyr lsz x1  K n x2 x3 x4 tsk tze tma tki tdn twi tdu the tyr tsz → J l D k 6 0 0 41 ((wD ca (aF 2) fd) ++ ((wF (aF 0) (aL 0) (aT 0) (aK 0) (tp 0) (aF 1) (aF 2) ik) ++ ((wN ca nd sd) ++ ((wC ca aT (nd 0) tsk tze tma tki tdn twi tdu the tyr tsz) ++ (wC ca aL (nd 0) lsk lze lma lki ldn lwi ldu lhe lyr lsz))))) [(0, .ref (aF 0)), (1, .int x1), (2, .int x2), (3, .int x3), (4, .int x4)] [] := by
  intro n
  induction n with
  | zero =>
    intro x2 x3 x4 tsk tze tma tki tdn twi tdu the tyr tsz hw
    rw [wpl_X9_give_41] at hw
    exact hw.elim
  | succ n ih =>
    intro x2 x3 x4 tsk tze tma tki tdn twi tdu the tyr tsz hw
    rw [wpl_X9_give_41] at hw
    refine j_iload C 4 dX9_give_41 rfl ?_
    refine j_bipush C 6 dX9_give_43 (by decide) ?_
    refine j_icmp_ge C 97 dX9_give_45 (by decide) (fun z => ?_) (fun z => ?_)
    · replace hw := hw.1 z
      exact hK x2 x3 x4 tsk tze tma tki tdn twi tdu the tyr tsz hw
    · replace hw := hw.2 z
      refine j_aload_n C 0 dX9_give_48 rfl ?_
      refine j_get C fl_X9_50_9 1 dX9_give_49 rfl rfl ?_
      refine j_aload_n C 0 dX9_give_52 rfl ?_
      refine j_get C fl_X9_44_9 1 dX9_give_53 rfl rfl ?_
      refine j_cvT C hB 9 27 (fun u3 : (Nat → Int32) × (Nat → Int32) × (Nat → Int32) × (Nat → Int32) × (Nat → Int32) × (Nat → Int32) × (Nat → Int32) × (Int32) × (Int32) => ((wD ca (aF 2) fd) ++ ((wF (aF 0) (aL 0) (aT 0) (aK 0) (tp 0) (aF 1) (aF 2) ik) ++ ((wN ca nd sd) ++ ((wC ca aT (nd 0) u3.1 u3.2.1 u3.2.2.1 u3.2.2.2.1 u3.2.2.2.2.1 u3.2.2.2.2.2.1 u3.2.2.2.2.2.2.1 the u3.2.2.2.2.2.2.2.1 u3.2.2.2.2.2.2.2.2) ++ (wC ca aL (nd 0) lsk lze lma lki ldn lwi ldu lhe lyr lsz)))))) rfl (fun _ => rfl) (jr_V C lkV_X9_200 (c_X2_become aT aL (nd 0) tsk tze tma tki tdn twi tdu the tyr tsz lsk lze lma lki ldn lwi ldu lhe lyr lsz hw) ⟨rfl, rfl, by decide, by decide, by decide, by decide⟩ [9, 10, 11, 12, 13, 14, 15, 16, 17, 18, 19, 20, 21, 22, 23, 24, 25, 26] rfl rfl (fx_rw C hB [9, 10, 11, 12, 13, 14, 15, 16, 17, 18, 19, 20, 21, 22, 23, 24, 25, 26] rfl) 9 2 rfl rfl rfl rfl (Nat.le_of_ble_eq_true rfl) dX9_give_56) (fun u3 hw => ?_)
      refine j_aload_n C 0 dX9_give_59 rfl ?_
      refine j_get C fl_X9_50_9 1 dX9_give_60 rfl rfl ?_
      refine j_get C fl_X9_141_2 9 dX9_give_63 rfl rfl ?_
      refine j_iload_n C 1 dX9_give_66 rfl ?_
      refine j_iload C 4 dX9_give_67 rfl ?_
      have hi4 := hw.1
      replace hw := hw.2
      refine j_iast C hB 15 ((wD ca (aF 2) fd) ++ ((wF (aF 0) (aL 0) (aT 0) (aK 0) (tp 0) (aF 1) (aF 2) ik) ++ ((wN ca nd sd) ++ ((wC ca aT (nd 0) u3.1 u3.2.1 u3.2.2.1 u3.2.2.2.1 u3.2.2.2.2.1 (upd u3.2.2.2.2.2.1 (x1.toNatClampNeg) x4) u3.2.2.2.2.2.2.1 the u3.2.2.2.2.2.2.2.1 u3.2.2.2.2.2.2.2.2) ++ (wC ca aL (nd 0) lsk lze lma lki ldn lwi ldu lhe lyr lsz))))) dX9_give_69 rfl hi4 rfl ?_
      refine j_aload_n C 0 dX9_give_70 rfl ?_
      refine j_iload_n C 1 dX9_give_71 rfl ?_
      refine j_iload_n C 3 dX9_give_72 rfl ?_
      refine j_iconst C 1 dX9_give_73 (by decide) ?_
      refine j_isub C dX9_give_74 ?_
      refine j_ciT C hB 1 18 (fun u5 : (Nat → Int32) × (Nat → Int32) × (Nat → Int32) × (Nat → Int32) × (Nat → Int32) × (Nat → Int32) × (Int32) => ((wD ca (aF 2) fd) ++ ((wF (aF 0) (aL 0) (aT 0) (aK 0) (tp 0) (aF 1) (aF 2) ik) ++ ((wN ca nd sd) ++ ((wC ca aT (nd 0) u3.1 u5.1 u5.2.1 u3.2.2.2.1 u5.2.2.1 u5.2.2.2.1 u5.2.2.2.2.1 u5.2.2.2.2.2.1 u5.2.2.2.2.2.2 u3.2.2.2.2.2.2.2.2) ++ (wC ca aL (nd 0) lsk lze lma lki ldn lwi ldu lhe lyr lsz)))))) rfl (fun _ => rfl) (jr_V C lkV_X9_204 (c_X9_trialYearsToFinish aF aL aT aK nd tp ik u3.1 u3.2.1 u3.2.2.1 u3.2.2.2.1 u3.2.2.2.2.1 (upd u3.2.2.2.2.2.1 (x1.toNatClampNeg) x4) u3.2.2.2.2.2.2.1 the u3.2.2.2.2.2.2.2.1 u3.2.2.2.2.2.2.2.2 x1 (x3 - 1) hw) ⟨rfl, rfl, by decide, by decide, by decide, by decide⟩ [1, 2, 3, 4, 5, 6, 7, 8, 9, 10, 11, 12, 13, 14, 15, 16, 17] rfl rfl (fx_rw C hB [1, 2, 3, 4, 5, 6, 7, 8, 9, 10, 11, 12, 13, 14, 15, 16, 17] rfl) 1 9 rfl rfl rfl rfl (Nat.le_of_ble_eq_true rfl) dX9_give_75) (fun r5 u5 hw => ?_)
      refine j_istore C [(5, .int r5), (0, .ref (aF 0)), (1, .int x1), (2, .int x2), (3, .int x3), (4, .int x4)] dX9_give_78 (by decide) rfl ?_
      refine j_iload C 0 dX9_give_80 rfl ?_
      refine j_if_lt C 91 dX9_give_82 (by decide) (fun z => ?_) (fun z => ?_)
      · replace hw := hw.1 z
        refine j_iinc C 5 (x4 + 1) [(4, .int (x4 + 1)), (5, .int r5), (0, .ref (aF 0)), (1, .int x1), (2, .int x2), (3, .int x3)] dX9_give_91 rfl rfl (by decide) rfl ?_
        refine j_goto C 41 dX9_give_94 (by decide) ?_
        refine j_lsub [2, 3, 4, 5, 0] [(0, .ref (aF 0)), (1, .int x1), (2, .int x2), (3, .int x3), (4, .int (x4 + 1))] rfl ?_
        exact ih x2 x3 (x4 + 1) u3.1 u5.1 u5.2.1 u3.2.2.2.1 u5.2.2.1 u5.2.2.2.1 u5.2.2.2.2.1 u5.2.2.2.2.2.1 u5.2.2.2.2.2.2 u3.2.2.2.2.2.2.2.2 hw
      · replace hw := hw.2 z
        refine j_iload C 5 dX9_give_85 rfl ?_
        refine j_istore_n C [(2, .int x4), (5, .int r5), (0, .ref (aF 0)), (1, .int x1), (3, .int x3), (4, .int x4)] dX9_give_87 (by decide) rfl ?_
        refine j_iload C 1 dX9_give_88 rfl ?_
        refine j_istore_n C [(3, .int r5), (2, .int x4), (5, .int r5), (0, .ref (aF 0)), (1, .int x1), (4, .int x4)] dX9_give_90 (by decide) rfl ?_
        refine j_iinc C 5 (x4 + 1) [(4, .int (x4 + 1)), (3, .int r5), (2, .int x4), (5, .int r5), (0, .ref (aF 0)), (1, .int x1)] dX9_give_91 rfl rfl (by decide) rfl ?_
        refine j_goto C 41 dX9_give_94 (by decide) ?_
        refine j_lsub [4, 5, 2, 1, 0] [(0, .ref (aF 0)), (1, .int x1), (2, .int x4), (3, .int r5), (4, .int (x4 + 1))] rfl ?_
        exact ih x4 r5 (x4 + 1) u3.1 u5.1 u5.2.1 u3.2.2.2.1 u5.2.2.1 u5.2.2.2.1 u5.2.2.2.2.1 u5.2.2.2.2.2.1 u5.2.2.2.2.2.2 u3.2.2.2.2.2.2.2.2 hw
set_option maxRecDepth 100000 in
set_option maxHeartbeats 8000000 in
theorem c_X9_give {l : Launch} {D : va_G} {ca : Nat → ClassId} {sd : Nat → Nat}  (aF : Nat → Nat) (aL : Nat → Nat) (aT : Nat → Nat) (aK : Nat → Nat) (nd : Nat → Nat) (tp : Nat → Nat) (fd : Nat → Int32) (ik : Int32) (tsk : Nat → Int32) (tze : Nat → Int32) (tma : Nat → Int32) (tki : Nat → Int32) (tdn : Nat → Int32) (twi : Nat → Int32) (tdu : Nat → Int32) (the : Nat → Int32) (tyr : Int32) (tsz : Int32) (lsk : Nat → Int32) (lze : Nat → Int32) (lma : Nat → Int32) (lki : Nat → Int32) (ldn : Nat → Int32) (lwi : Nat → Int32) (ldu : Nat → Int32) (lhe : Nat → Int32) (lyr : Int32) (lsz : Int32)  (a1 : Int32)  {Q : (Int32) → (Nat → Int32) → (Nat → Int32) → (Nat → Int32) → (Nat → Int32) → (Nat → Int32) → (Nat → Int32) → (Nat → Int32) → (Nat → Int32) → (Nat → Int32) → (Int32) → (Int32) → Prop} (hw : wp_X9_give fd tsk tze tma tki tdn twi tdu the tyr tsz lsk lze lma lki ldn lwi ldu lyr lsz  a1 Q) : Cn l D ca sd yX9_give cX9_give 6 (some .int) { frames := 8, cells := 0, slots := 0, locals := 204 } [.ref (aF 0), .int a1] ((wD ca (aF 2) fd) ++ ((wF (aF 0) (aL 0) (aT 0) (aK 0) (tp 0) (aF 1) (aF 2) ik) ++ ((wN ca nd sd) ++ ((wC ca aT (nd 0) tsk tze tma tki tdn twi tdu the tyr tsz) ++ (wC ca aL (nd 0) lsk lze lma lki ldn lwi ldu lhe lyr lsz))))) ((wD ca (aF 2) fd) ++ ((wF (aF 0) (aL 0) (aT 0) (aK 0) (tp 0) (aF 1) (aF 2) ik) ++ ((wN ca nd sd) ++ ((wC ca aT (nd 0) tsk tze tma tki tdn twi tdu the tyr tsz) ++ (wC ca aL (nd 0) lsk lze lma lki ldn lwi ldu lhe lyr lsz))))) 0 0 (Ri D (fun (r : Int32) (u : (Nat → Int32) × (Nat → Int32) × (Nat → Int32) × (Nat → Int32) × (Nat → Int32) × (Nat → Int32) × (Nat → Int32) × (Nat → Int32) × (Nat → Int32) × (Int32) × (Int32)) => Q r u.1 u.2.1 u.2.2.1 u.2.2.2.1 u.2.2.2.2.1 u.2.2.2.2.2.1 u.2.2.2.2.2.2.1 u.2.2.2.2.2.2.2.1 u.2.2.2.2.2.2.2.2.1 u.2.2.2.2.2.2.2.2.2.1 u.2.2.2.2.2.2.2.2.2.2) (fun u => ((wD ca (aF 2) u.1) ++ ((wF (aF 0) (aL 0) (aT 0) (aK 0) (tp 0) (aF 1) (aF 2) ik) ++ ((wN ca nd sd) ++ ((wC ca aT (nd 0) u.2.1 u.2.2.1 u.2.2.2.1 u.2.2.2.2.1 u.2.2.2.2.2.1 u.2.2.2.2.2.2.1 u.2.2.2.2.2.2.2.1 u.2.2.2.2.2.2.2.2.1 u.2.2.2.2.2.2.2.2.2.1 u.2.2.2.2.2.2.2.2.2.2) ++ (wC ca aL (nd 0) lsk lze lma lki ldn lwi ldu lhe lyr lsz))))))) := by
  refine cn_of (by decide) (Nat.le_of_ble_eq_true rfl) (fun k C hR hB _ => ?_)
  have C : Cx D ca sd cX9_give RX9 (some .int) { frames := 8, cells := 0, slots := 0, locals := 204 } k 6 := C
  unfold wp_X9_give at hw
  show J l D k 6 0 0 0 ((wD ca (aF 2) fd) ++ ((wF (aF 0) (aL 0) (aT 0) (aK 0) (tp 0) (aF 1) (aF 2) ik) ++ ((wN ca nd sd) ++ ((wC ca aT (nd 0) tsk tze tma tki tdn twi tdu the tyr tsz) ++ (wC ca aL (nd 0) lsk lze lma lki ldn lwi ldu lhe lyr lsz))))) [(0, .ref (aF 0)), (1, .int a1)] []
  refine j_aload_n C 0 dX9_give_0 rfl ?_
  refine j_iload_n C 1 dX9_give_1 rfl ?_
  refine j_ciZ C (jr_V C lkV_X9_132 (c_X9_isThing aF aL aT aK nd tp ik lsk lze lma lki ldn lwi ldu lhe lyr lsz a1 hw) ⟨rfl, rfl, by decide, by decide, by decide, by decide⟩ [1, 18, 19, 20, 21, 22, 23, 24, 25, 26] (by decide) rfl (fx_ro C) 1 9 rfl rfl rfl rfl (Nat.le_of_ble_eq_true rfl) dX9_give_2) (fun r1 u1 hw => ?_)
  refine j_if_ne C 15 dX9_give_5 (by decide) (fun z => ?_) (fun z => ?_)
  · replace hw := hw.2 z
    refine j_aload_n C 0 dX9_give_15 rfl ?_
    refine j_get C fl_X9_44_9 1 dX9_give_16 rfl rfl ?_
    refine j_iload_n C 1 dX9_give_19 rfl ?_
    refine j_ciZ C (jr_V C lkV_X9_213 (c_X2_isFinished aL (nd 0) lsk lze lma lki ldn lwi ldu lhe lyr lsz a1 hw) ⟨rfl, rfl, by decide, by decide, by decide, by decide⟩ [18, 19, 20, 21, 22, 23, 24, 25, 26] (by decide) rfl (fx_ro C) 18 2 rfl rfl rfl rfl (Nat.le_of_ble_eq_true rfl) dX9_give_20) (fun r2 u2 hw => ?_)
    refine j_if_eq C 33 dX9_give_23 (by decide) (fun z => ?_) (fun z => ?_)
    · replace hw := hw.1 z
      refine j_iconst C (-1) dX9_give_33 (by decide) ?_
      refine j_istore_n C [(2, .int (-1)), (0, .ref (aF 0)), (1, .int a1)] dX9_give_34 (by decide) rfl ?_
      refine j_bipush C 101 dX9_give_35 (by decide) ?_
      refine j_istore_n C [(3, .int 101), (2, .int (-1)), (0, .ref (aF 0)), (1, .int a1)] dX9_give_37 (by decide) rfl ?_
      refine j_iconst C 0 dX9_give_38 (by decide) ?_
      refine j_istore C [(4, .int 0), (3, .int 101), (2, .int (-1)), (0, .ref (aF 0)), (1, .int a1)] dX9_give_39 (by decide) rfl ?_
      refine j_lsub [3, 4, 2, 1, 0] [(0, .ref (aF 0)), (1, .int a1), (2, .int (-1)), (3, .int 101), (4, .int 0)] rfl ?_
      obtain ⟨n6, hw⟩ := hw
      refine ml_X9_give_41 aF aL aT aK nd tp  fd ik lsk lze lma lki ldn lwi ldu lhe lyr lsz a1 C hR hB (fun y6_2 y6_3 y6_4 y6_tsk y6_tze y6_tma y6_tki y6_tdn y6_twi y6_tdu y6_the y6_tyr y6_tsz hw => ?_) n6 (-1) 101 0 tsk tze tma tki tdn twi tdu the tyr tsz hw
      refine j_iload_n C 2 dX9_give_97 rfl ?_
      refine j_if_ge C 110 dX9_give_98 (by decide) (fun z => ?_) (fun z => ?_)
      · replace hw := hw.1 z
        refine j_iload_n C 2 dX9_give_110 rfl ?_
        exact j_iret C hB hR (fd, y6_tsk, y6_tze, y6_tma, y6_tki, y6_tdn, y6_twi, y6_tdu, y6_the, y6_tyr, y6_tsz) rfl dX9_give_111 hw rfl
      · replace hw := hw.2 z
        refine j_aload_n C 0 dX9_give_101 rfl ?_
        refine j_ldc C dX9_give_102 ct_X9_187 ?_
        refine j_ciT C hB 0 2 (fun u7 : (Nat → Int32) => ((wD ca (aF 2) u7) ++ ((wF (aF 0) (aL 0) (aT 0) (aK 0) (tp 0) (aF 1) (aF 2) ik) ++ ((wN ca nd sd) ++ ((wC ca aT (nd 0) y6_tsk y6_tze y6_tma y6_tki y6_tdn y6_twi y6_tdu y6_the y6_tyr y6_tsz) ++ (wC ca aL (nd 0) lsk lze lma lki ldn lwi ldu lhe lyr lsz)))))) rfl (fun _ => rfl) (jr_V C lkV_X9_83 (c_X9_found aF aL aT aK nd tp fd ik (-1000000004) hw) ⟨rfl, rfl, by decide, by decide, by decide, by decide⟩ [0, 1] (by decide) rfl (fx_rw C hB [0, 1] rfl) 1 9 rfl rfl rfl rfl (Nat.le_of_ble_eq_true rfl) dX9_give_104) (fun r7 u7 hw => ?_)
        refine j_goto C 111 dX9_give_107 (by decide) ?_
        exact j_iret C hB hR (u7, y6_tsk, y6_tze, y6_tma, y6_tki, y6_tdn, y6_twi, y6_tdu, y6_the, y6_tyr, y6_tsz) rfl dX9_give_111 hw rfl
    · replace hw := hw.2 z
      refine j_aload_n C 0 dX9_give_26 rfl ?_
      refine j_ldc C dX9_give_27 ct_X9_173 ?_
      refine j_ciT C hB 0 2 (fun u8 : (Nat → Int32) => ((wD ca (aF 2) u8) ++ ((wF (aF 0) (aL 0) (aT 0) (aK 0) (tp 0) (aF 1) (aF 2) ik) ++ ((wN ca nd sd) ++ ((wC ca aT (nd 0) tsk tze tma tki tdn twi tdu the tyr tsz) ++ (wC ca aL (nd 0) lsk lze lma lki ldn lwi ldu lhe lyr lsz)))))) rfl (fun _ => rfl) (jr_V C lkV_X9_83 (c_X9_found aF aL aT aK nd tp fd ik (-1000000005) hw) ⟨rfl, rfl, by decide, by decide, by decide, by decide⟩ [0, 1] (by decide) rfl (fx_rw C hB [0, 1] rfl) 1 9 rfl rfl rfl rfl (Nat.le_of_ble_eq_true rfl) dX9_give_29) (fun r8 u8 hw => ?_)
      exact j_iret C hB hR (u8, tsk, tze, tma, tki, tdn, twi, tdu, the, tyr, tsz) rfl dX9_give_32 hw rfl
  · replace hw := hw.1 z
    refine j_aload_n C 0 dX9_give_8 rfl ?_
    refine j_ldc C dX9_give_9 ct_X9_82 ?_
    refine j_ciT C hB 0 2 (fun u9 : (Nat → Int32) => ((wD ca (aF 2) u9) ++ ((wF (aF 0) (aL 0) (aT 0) (aK 0) (tp 0) (aF 1) (aF 2) ik) ++ ((wN ca nd sd) ++ ((wC ca aT (nd 0) tsk tze tma tki tdn twi tdu the tyr tsz) ++ (wC ca aL (nd 0) lsk lze lma lki ldn lwi ldu lhe lyr lsz)))))) rfl (fun _ => rfl) (jr_V C lkV_X9_83 (c_X9_found aF aL aT aK nd tp fd ik (-1000000001) hw) ⟨rfl, rfl, by decide, by decide, by decide, by decide⟩ [0, 1] (by decide) rfl (fx_rw C hB [0, 1] rfl) 1 9 rfl rfl rfl rfl (Nat.le_of_ble_eq_true rfl) dX9_give_11) (fun r9 u9 hw => ?_)
    exact j_iret C hB hR (u9, tsk, tze, tma, tki, tdn, twi, tdu, the, tyr, tsz) rfl dX9_give_14 hw rfl
def wpl_X9_kind_23 (lsk : Nat → Int32) (lze : Nat → Int32) (lma : Nat → Int32) (lki : Nat → Int32) (ldn : Nat → Int32) (lwi : Nat → Int32) (ldu : Nat → Int32) (lyr : Int32) (lsz : Int32) (x1 : Int32) (K : (Int32) → (Int32) → (Int32) → (Nat → Int32) → (Nat → Int32) → (Nat → Int32) → (Nat → Int32) → (Nat → Int32) → (Nat → Int32) → (Nat → Int32) → (Nat → Int32) → (Int32) → (Int32) → Prop) : Nat → (Int32) → (Int32) → (Int32) → (Nat → Int32) → (Nat → Int32) → (Nat → Int32) → (Nat → Int32) → (Nat → Int32) → (Nat → Int32) → (Nat → Int32) → (Nat → Int32) → (Int32) → (Int32) → Prop
  | 0, _, _, _, _, _, _, _, _, _, _, _, _, _ => False
  | n + 1, x2, x3, x4, tsk, tze, tma, tki, tdn, twi, tdu, the, tyr, tsz => (6 ≤ x4 → K x2 x3 x4 tsk tze tma tki tdn twi tdu the tyr tsz) ∧ (¬ (6 ≤ x4) → wp_X2_become tsk tze tma tki tdn twi tdu lsk lze lma lki ldn lwi ldu lyr lsz (fun c2_0 c2_1 c2_2 c2_3 c2_4 c2_5 c2_6 c2_7 c2_8 => vp_in x1 8 ∧ (wp_X9_trialYearsToFinish c2_0 c2_1 c2_2 (upd c2_3 (x1.toNatClampNeg) x4) c2_4 c2_5 c2_6 the c2_7 c2_8 x1 (x3 - 1) (fun r4 c4_0 c4_1 c4_2 c4_3 c4_4 c4_5 c4_6 => (r4 < 0 → wpl_X9_kind_23 lsk lze lma lki ldn lwi ldu lyr lsz x1  K n x2 x3 (x4 + 1) c2_0 c4_0 c4_1 (upd c2_3 (x1.toNatClampNeg) x4) c4_2 c4_3 c4_4 c4_5 c4_6 c2_8) ∧ (¬ (r4 < 0) → wpl_X9_kind_23 lsk lze lma lki ldn lwi ldu lyr lsz x1  K n x4 r4 (x4 + 1) c2_0 c4_0 c4_1 (upd c2_3 (x1.toNatClampNeg) x4) c4_2 c4_3 c4_4 c4_5 c4_6 c2_8)))))
def wp_X9_kind (fd : Nat → Int32) (tsk : Nat → Int32) (tze : Nat → Int32) (tma : Nat → Int32) (tki : Nat → Int32) (tdn : Nat → Int32) (twi : Nat → Int32) (tdu : Nat → Int32) (the : Nat → Int32) (tyr : Int32) (tsz : Int32) (lsk : Nat → Int32) (lze : Nat → Int32) (lma : Nat → Int32) (lki : Nat → Int32) (ldn : Nat → Int32) (lwi : Nat → Int32) (ldu : Nat → Int32) (lyr : Int32) (lsz : Int32)  (a1 : Int32) (Q : (Int32) → (Nat → Int32) → (Nat → Int32) → (Nat → Int32) → (Nat → Int32) → (Nat → Int32) → (Nat → Int32) → (Nat → Int32) → (Nat → Int32) → (Nat → Int32) → (Int32) → (Int32) → Prop) : Prop := wp_X9_isThing lsz a1 (fun r1 => (r1 = 0 → wp_X9_found fd (-1000000001) (fun r7 c7_0 => Q r7 c7_0 tsk tze tma tki tdn twi tdu the tyr tsz)) ∧ (¬ (r1 = 0) → ∃ n5 : Nat, wpl_X9_kind_23 lsk lze lma lki ldn lwi ldu lyr lsz a1  (fun y5_2 y5_3 y5_4 y5_tsk y5_tze y5_tma y5_tki y5_tdn y5_twi y5_tdu y5_the y5_tyr y5_tsz => (0 ≤ y5_2 → Q y5_2 fd y5_tsk y5_tze y5_tma y5_tki y5_tdn y5_twi y5_tdu y5_the y5_tyr y5_tsz) ∧ (¬ (0 ≤ y5_2) → wp_X9_found fd (-1000000004) (fun r6 c6_0 => Q r6 c6_0 y5_tsk y5_tze y5_tma y5_tki y5_tdn y5_twi y5_tdu y5_the y5_tyr y5_tsz))) n5 (-1) 101 0 tsk tze tma tki tdn twi tdu the tyr tsz))
set_option maxRecDepth 100000 in
set_option maxHeartbeats 8000000 in
theorem ml_X9_kind_23 {l : Launch} {D : va_G} {ca : Nat → ClassId} {sd : Nat → Nat}  {k : Kx} (aF : Nat → Nat) (aL : Nat → Nat) (aT : Nat → Nat) (aK : Nat → Nat) (nd : Nat → Nat) (tp : Nat → Nat)  (fd : Nat → Int32) (ik : Int32) (lsk : Nat → Int32) (lze : Nat → Int32) (lma : Nat → Int32) (lki : Nat → Int32) (ldn : Nat → Int32) (lwi : Nat → Int32) (ldu : Nat → Int32) (lhe : Nat → Int32) (lyr : Int32) (lsz : Int32) (x1 : Int32) (C : Cx D ca sd cX9_kind RX9 (some .int) { frames := 8, cells := 0, slots := 0, locals := 204 } k 6) {Q : (Int32) → (Nat → Int32) → (Nat → Int32) → (Nat → Int32) → (Nat → Int32) → (Nat → Int32) → (Nat → Int32) → (Nat → Int32) → (Nat → Int32) → (Nat → Int32) → (Int32) → (Int32) → Prop} (hR : Rx (Ri D (fun (r : Int32) (u : (Nat → Int32) × (Nat → Int32) × (Nat → Int32) × (Nat → Int32) × (Nat → Int32) × (Nat → Int32) × (Nat → Int32) × (Nat → Int32) × (Nat → Int32) × (Int32) × (Int32)) => Q r u.1 u.2.1 u.2.2.1 u.2.2.2.1 u.2.2.2.2.1 u.2.2.2.2.2.1 u.2.2.2.2.2.2.1 u.2.2.2.2.2.2.2.1 u.2.2.2.2.2.2.2.2.1 u.2.2.2.2.2.2.2.2.2.1 u.2.2.2.2.2.2.2.2.2.2) (fun u => ((wD ca (aF 2) u.1) ++ ((wF (aF 0) (aL 0) (aT 0) (aK 0) (tp 0) (aF 1) (aF 2) ik) ++ ((wN ca nd sd) ++ ((wC ca aT (nd 0) u.2.1 u.2.2.1 u.2.2.2.1 u.2.2.2.2.1 u.2.2.2.2.2.1 u.2.2.2.2.2.2.1 u.2.2.2.2.2.2.2.1 u.2.2.2.2.2.2.2.2.1 u.2.2.2.2.2.2.2.2.2.1 u.2.2.2.2.2.2.2.2.2.2) ++ (wC ca aL (nd 0) lsk lze lma lki ldn lwi ldu lhe lyr lsz))))))) 0 0 k) (hB : Wx k) {K : (Int32) → (Int32) → (Int32) → (Nat → Int32) → (Nat → Int32) → (Nat → Int32) → (Nat → Int32) → (Nat → Int32) → (Nat → Int32) → (Nat → Int32) → (Nat → Int32) → (Int32) → (Int32) → Prop} (hK : ∀ (x2' : Int32) (x3' : Int32) (x4' : Int32) (tsk' : Nat → Int32) (tze' : Nat → Int32) (tma' : Nat → Int32) (tki' : Nat → Int32) (tdn' : Nat → Int32) (twi' : Nat → Int32) (tdu' : Nat → Int32) (the' : Nat → Int32) (tyr' : Int32) (tsz' : Int32), K x2' x3' x4' tsk' tze' tma' tki' tdn' twi' tdu' the' tyr' tsz' → J l D k 6 0 0 79 ((wD ca (aF 2) fd) ++ ((wF (aF 0) (aL 0) (aT 0) (aK 0) (tp 0) (aF 1) (aF 2) ik) ++ ((wN ca nd sd) ++ ((wC ca aT (nd 0) tsk' tze' tma' tki' tdn' twi' tdu' the' tyr' tsz') ++ (wC ca aL (nd 0) lsk lze lma lki ldn lwi ldu lhe lyr lsz))))) [(0, .ref (aF 0)), (1, .int x1), (2, .int x2'), (3, .int x3'), (4, .int x4')] []) : ∀ (n : Nat) (x2 : Int32) (x3 : Int32) (x4 : Int32) (tsk : Nat → Int32) (tze : Nat → Int32) (tma : Nat → Int32) (tki : Nat → Int32) (tdn : Nat → Int32) (twi : Nat → Int32) (tdu : Nat → Int32) (the : Nat → Int32) (tyr : Int32) (tsz : Int32), wpl_X9_kind_23 lsk lze lma lki ldn lwi ldu lyr lsz x1  K n x2 x3 x4 tsk tze tma tki tdn twi tdu the tyr tsz → J l D k 6 0 0 23 ((wD ca (aF 2) fd) ++ ((wF (aF 0) (aL 0) (aT 0) (aK 0) (tp 0) (aF 1) (aF 2) ik) ++ ((wN ca nd sd) ++ ((wC ca aT (nd 0) tsk tze tma tki tdn twi tdu the tyr tsz) ++ (wC ca aL (nd 0) lsk lze lma lki ldn lwi ldu lhe lyr lsz))))) [(0, .ref (aF 0)), (1, .int x1), (2, .int x2), (3, .int x3), (4, .int x4)] [] := by
  intro n
  induction n with
  | zero =>
    intro x2 x3 x4 tsk tze tma tki tdn twi tdu the tyr tsz hw
    rw [wpl_X9_kind_23] at hw
    exact hw.elim
  | succ n ih =>
    intro x2 x3 x4 tsk tze tma tki tdn twi tdu the tyr tsz hw
    rw [wpl_X9_kind_23] at hw
    refine j_iload C 4 dX9_kind_23 rfl ?_
    refine j_bipush C 6 dX9_kind_25 (by decide) ?_
    refine j_icmp_ge C 79 dX9_kind_27 (by decide) (fun z => ?_) (fun z => ?_)
    · replace hw := hw.1 z
      exact hK x2 x3 x4 tsk tze tma tki tdn twi tdu the tyr tsz hw
    · replace hw := hw.2 z
      refine j_aload_n C 0 dX9_kind_30 rfl ?_
      refine j_get C fl_X9_50_9 1 dX9_kind_31 rfl rfl ?_
      refine j_aload_n C 0 dX9_kind_34 rfl ?_
      refine j_get C fl_X9_44_9 1 dX9_kind_35 rfl rfl ?_
      refine j_cvT C hB 9 27 (fun u2 : (Nat → Int32) × (Nat → Int32) × (Nat → Int32) × (Nat → Int32) × (Nat → Int32) × (Nat → Int32) × (Nat → Int32) × (Int32) × (Int32) => ((wD ca (aF 2) fd) ++ ((wF (aF 0) (aL 0) (aT 0) (aK 0) (tp 0) (aF 1) (aF 2) ik) ++ ((wN ca nd sd) ++ ((wC ca aT (nd 0) u2.1 u2.2.1 u2.2.2.1 u2.2.2.2.1 u2.2.2.2.2.1 u2.2.2.2.2.2.1 u2.2.2.2.2.2.2.1 the u2.2.2.2.2.2.2.2.1 u2.2.2.2.2.2.2.2.2) ++ (wC ca aL (nd 0) lsk lze lma lki ldn lwi ldu lhe lyr lsz)))))) rfl (fun _ => rfl) (jr_V C lkV_X9_200 (c_X2_become aT aL (nd 0) tsk tze tma tki tdn twi tdu the tyr tsz lsk lze lma lki ldn lwi ldu lhe lyr lsz hw) ⟨rfl, rfl, by decide, by decide, by decide, by decide⟩ [9, 10, 11, 12, 13, 14, 15, 16, 17, 18, 19, 20, 21, 22, 23, 24, 25, 26] rfl rfl (fx_rw C hB [9, 10, 11, 12, 13, 14, 15, 16, 17, 18, 19, 20, 21, 22, 23, 24, 25, 26] rfl) 9 2 rfl rfl rfl rfl (Nat.le_of_ble_eq_true rfl) dX9_kind_38) (fun u2 hw => ?_)
      refine j_aload_n C 0 dX9_kind_41 rfl ?_
      refine j_get C fl_X9_50_9 1 dX9_kind_42 rfl rfl ?_
      refine j_get C fl_X9_135_2 9 dX9_kind_45 rfl rfl ?_
      refine j_iload_n C 1 dX9_kind_48 rfl ?_
      refine j_iload C 4 dX9_kind_49 rfl ?_
      have hi3 := hw.1
      replace hw := hw.2
      refine j_iast C hB 13 ((wD ca (aF 2) fd) ++ ((wF (aF 0) (aL 0) (aT 0) (aK 0) (tp 0) (aF 1) (aF 2) ik) ++ ((wN ca nd sd) ++ ((wC ca aT (nd 0) u2.1 u2.2.1 u2.2.2.1 (upd u2.2.2.2.1 (x1.toNatClampNeg) x4) u2.2.2.2.2.1 u2.2.2.2.2.2.1 u2.2.2.2.2.2.2.1 the u2.2.2.2.2.2.2.2.1 u2.2.2.2.2.2.2.2.2) ++ (wC ca aL (nd 0) lsk lze lma lki ldn lwi ldu lhe lyr lsz))))) dX9_kind_51 rfl hi3 rfl ?_
      refine j_aload_n C 0 dX9_kind_52 rfl ?_
      refine j_iload_n C 1 dX9_kind_53 rfl ?_
      refine j_iload_n C 3 dX9_kind_54 rfl ?_
      refine j_iconst C 1 dX9_kind_55 (by decide) ?_
      refine j_isub C dX9_kind_56 ?_
      refine j_ciT C hB 1 18 (fun u4 : (Nat → Int32) × (Nat → Int32) × (Nat → Int32) × (Nat → Int32) × (Nat → Int32) × (Nat → Int32) × (Int32) => ((wD ca (aF 2) fd) ++ ((wF (aF 0) (aL 0) (aT 0) (aK 0) (tp 0) (aF 1) (aF 2) ik) ++ ((wN ca nd sd) ++ ((wC ca aT (nd 0) u2.1 u4.1 u4.2.1 (upd u2.2.2.2.1 (x1.toNatClampNeg) x4) u4.2.2.1 u4.2.2.2.1 u4.2.2.2.2.1 u4.2.2.2.2.2.1 u4.2.2.2.2.2.2 u2.2.2.2.2.2.2.2.2) ++ (wC ca aL (nd 0) lsk lze lma lki ldn lwi ldu lhe lyr lsz)))))) rfl (fun _ => rfl) (jr_V C lkV_X9_204 (c_X9_trialYearsToFinish aF aL aT aK nd tp ik u2.1 u2.2.1 u2.2.2.1 (upd u2.2.2.2.1 (x1.toNatClampNeg) x4) u2.2.2.2.2.1 u2.2.2.2.2.2.1 u2.2.2.2.2.2.2.1 the u2.2.2.2.2.2.2.2.1 u2.2.2.2.2.2.2.2.2 x1 (x3 - 1) hw) ⟨rfl, rfl, by decide, by decide, by decide, by decide⟩ [1, 2, 3, 4, 5, 6, 7, 8, 9, 10, 11, 12, 13, 14, 15, 16, 17] rfl rfl (fx_rw C hB [1, 2, 3, 4, 5, 6, 7, 8, 9, 10, 11, 12, 13, 14, 15, 16, 17] rfl) 1 9 rfl rfl rfl rfl (Nat.le_of_ble_eq_true rfl) dX9_kind_57) (fun r4 u4 hw => ?_)
      refine j_istore C [(5, .int r4), (0, .ref (aF 0)), (1, .int x1), (2, .int x2), (3, .int x3), (4, .int x4)] dX9_kind_60 (by decide) rfl ?_
      refine j_iload C 0 dX9_kind_62 rfl ?_
      refine j_if_lt C 73 dX9_kind_64 (by decide) (fun z => ?_) (fun z => ?_)
      · replace hw := hw.1 z
        refine j_iinc C 5 (x4 + 1) [(4, .int (x4 + 1)), (5, .int r4), (0, .ref (aF 0)), (1, .int x1), (2, .int x2), (3, .int x3)] dX9_kind_73 rfl rfl (by decide) rfl ?_
        refine j_goto C 23 dX9_kind_76 (by decide) ?_
        refine j_lsub [2, 3, 4, 5, 0] [(0, .ref (aF 0)), (1, .int x1), (2, .int x2), (3, .int x3), (4, .int (x4 + 1))] rfl ?_
        exact ih x2 x3 (x4 + 1) u2.1 u4.1 u4.2.1 (upd u2.2.2.2.1 (x1.toNatClampNeg) x4) u4.2.2.1 u4.2.2.2.1 u4.2.2.2.2.1 u4.2.2.2.2.2.1 u4.2.2.2.2.2.2 u2.2.2.2.2.2.2.2.2 hw
      · replace hw := hw.2 z
        refine j_iload C 5 dX9_kind_67 rfl ?_
        refine j_istore_n C [(2, .int x4), (5, .int r4), (0, .ref (aF 0)), (1, .int x1), (3, .int x3), (4, .int x4)] dX9_kind_69 (by decide) rfl ?_
        refine j_iload C 1 dX9_kind_70 rfl ?_
        refine j_istore_n C [(3, .int r4), (2, .int x4), (5, .int r4), (0, .ref (aF 0)), (1, .int x1), (4, .int x4)] dX9_kind_72 (by decide) rfl ?_
        refine j_iinc C 5 (x4 + 1) [(4, .int (x4 + 1)), (3, .int r4), (2, .int x4), (5, .int r4), (0, .ref (aF 0)), (1, .int x1)] dX9_kind_73 rfl rfl (by decide) rfl ?_
        refine j_goto C 23 dX9_kind_76 (by decide) ?_
        refine j_lsub [4, 5, 2, 1, 0] [(0, .ref (aF 0)), (1, .int x1), (2, .int x4), (3, .int r4), (4, .int (x4 + 1))] rfl ?_
        exact ih x4 r4 (x4 + 1) u2.1 u4.1 u4.2.1 (upd u2.2.2.2.1 (x1.toNatClampNeg) x4) u4.2.2.1 u4.2.2.2.1 u4.2.2.2.2.1 u4.2.2.2.2.2.1 u4.2.2.2.2.2.2 u2.2.2.2.2.2.2.2.2 hw
set_option maxRecDepth 100000 in
set_option maxHeartbeats 8000000 in
theorem c_X9_kind {l : Launch} {D : va_G} {ca : Nat → ClassId} {sd : Nat → Nat}  (aF : Nat → Nat) (aL : Nat → Nat) (aT : Nat → Nat) (aK : Nat → Nat) (nd : Nat → Nat) (tp : Nat → Nat) (fd : Nat → Int32) (ik : Int32) (tsk : Nat → Int32) (tze : Nat → Int32) (tma : Nat → Int32) (tki : Nat → Int32) (tdn : Nat → Int32) (twi : Nat → Int32) (tdu : Nat → Int32) (the : Nat → Int32) (tyr : Int32) (tsz : Int32) (lsk : Nat → Int32) (lze : Nat → Int32) (lma : Nat → Int32) (lki : Nat → Int32) (ldn : Nat → Int32) (lwi : Nat → Int32) (ldu : Nat → Int32) (lhe : Nat → Int32) (lyr : Int32) (lsz : Int32)  (a1 : Int32)  {Q : (Int32) → (Nat → Int32) → (Nat → Int32) → (Nat → Int32) → (Nat → Int32) → (Nat → Int32) → (Nat → Int32) → (Nat → Int32) → (Nat → Int32) → (Nat → Int32) → (Int32) → (Int32) → Prop} (hw : wp_X9_kind fd tsk tze tma tki tdn twi tdu the tyr tsz lsk lze lma lki ldn lwi ldu lyr lsz  a1 Q) : Cn l D ca sd yX9_kind cX9_kind 6 (some .int) { frames := 8, cells := 0, slots := 0, locals := 204 } [.ref (aF 0), .int a1] ((wD ca (aF 2) fd) ++ ((wF (aF 0) (aL 0) (aT 0) (aK 0) (tp 0) (aF 1) (aF 2) ik) ++ ((wN ca nd sd) ++ ((wC ca aT (nd 0) tsk tze tma tki tdn twi tdu the tyr tsz) ++ (wC ca aL (nd 0) lsk lze lma lki ldn lwi ldu lhe lyr lsz))))) ((wD ca (aF 2) fd) ++ ((wF (aF 0) (aL 0) (aT 0) (aK 0) (tp 0) (aF 1) (aF 2) ik) ++ ((wN ca nd sd) ++ ((wC ca aT (nd 0) tsk tze tma tki tdn twi tdu the tyr tsz) ++ (wC ca aL (nd 0) lsk lze lma lki ldn lwi ldu lhe lyr lsz))))) 0 0 (Ri D (fun (r : Int32) (u : (Nat → Int32) × (Nat → Int32) × (Nat → Int32) × (Nat → Int32) × (Nat → Int32) × (Nat → Int32) × (Nat → Int32) × (Nat → Int32) × (Nat → Int32) × (Int32) × (Int32)) => Q r u.1 u.2.1 u.2.2.1 u.2.2.2.1 u.2.2.2.2.1 u.2.2.2.2.2.1 u.2.2.2.2.2.2.1 u.2.2.2.2.2.2.2.1 u.2.2.2.2.2.2.2.2.1 u.2.2.2.2.2.2.2.2.2.1 u.2.2.2.2.2.2.2.2.2.2) (fun u => ((wD ca (aF 2) u.1) ++ ((wF (aF 0) (aL 0) (aT 0) (aK 0) (tp 0) (aF 1) (aF 2) ik) ++ ((wN ca nd sd) ++ ((wC ca aT (nd 0) u.2.1 u.2.2.1 u.2.2.2.1 u.2.2.2.2.1 u.2.2.2.2.2.1 u.2.2.2.2.2.2.1 u.2.2.2.2.2.2.2.1 u.2.2.2.2.2.2.2.2.1 u.2.2.2.2.2.2.2.2.2.1 u.2.2.2.2.2.2.2.2.2.2) ++ (wC ca aL (nd 0) lsk lze lma lki ldn lwi ldu lhe lyr lsz))))))) := by
  refine cn_of (by decide) (Nat.le_of_ble_eq_true rfl) (fun k C hR hB _ => ?_)
  have C : Cx D ca sd cX9_kind RX9 (some .int) { frames := 8, cells := 0, slots := 0, locals := 204 } k 6 := C
  unfold wp_X9_kind at hw
  show J l D k 6 0 0 0 ((wD ca (aF 2) fd) ++ ((wF (aF 0) (aL 0) (aT 0) (aK 0) (tp 0) (aF 1) (aF 2) ik) ++ ((wN ca nd sd) ++ ((wC ca aT (nd 0) tsk tze tma tki tdn twi tdu the tyr tsz) ++ (wC ca aL (nd 0) lsk lze lma lki ldn lwi ldu lhe lyr lsz))))) [(0, .ref (aF 0)), (1, .int a1)] []
  refine j_aload_n C 0 dX9_kind_0 rfl ?_
  refine j_iload_n C 1 dX9_kind_1 rfl ?_
  refine j_ciZ C (jr_V C lkV_X9_132 (c_X9_isThing aF aL aT aK nd tp ik lsk lze lma lki ldn lwi ldu lhe lyr lsz a1 hw) ⟨rfl, rfl, by decide, by decide, by decide, by decide⟩ [1, 18, 19, 20, 21, 22, 23, 24, 25, 26] (by decide) rfl (fx_ro C) 1 9 rfl rfl rfl rfl (Nat.le_of_ble_eq_true rfl) dX9_kind_2) (fun r1 u1 hw => ?_)
  refine j_if_ne C 15 dX9_kind_5 (by decide) (fun z => ?_) (fun z => ?_)
  · replace hw := hw.2 z
    refine j_iconst C (-1) dX9_kind_15 (by decide) ?_
    refine j_istore_n C [(2, .int (-1)), (0, .ref (aF 0)), (1, .int a1)] dX9_kind_16 (by decide) rfl ?_
    refine j_bipush C 101 dX9_kind_17 (by decide) ?_
    refine j_istore_n C [(3, .int 101), (2, .int (-1)), (0, .ref (aF 0)), (1, .int a1)] dX9_kind_19 (by decide) rfl ?_
    refine j_iconst C 0 dX9_kind_20 (by decide) ?_
    refine j_istore C [(4, .int 0), (3, .int 101), (2, .int (-1)), (0, .ref (aF 0)), (1, .int a1)] dX9_kind_21 (by decide) rfl ?_
    refine j_lsub [3, 4, 2, 1, 0] [(0, .ref (aF 0)), (1, .int a1), (2, .int (-1)), (3, .int 101), (4, .int 0)] rfl ?_
    obtain ⟨n5, hw⟩ := hw
    refine ml_X9_kind_23 aF aL aT aK nd tp  fd ik lsk lze lma lki ldn lwi ldu lhe lyr lsz a1 C hR hB (fun y5_2 y5_3 y5_4 y5_tsk y5_tze y5_tma y5_tki y5_tdn y5_twi y5_tdu y5_the y5_tyr y5_tsz hw => ?_) n5 (-1) 101 0 tsk tze tma tki tdn twi tdu the tyr tsz hw
    refine j_iload_n C 2 dX9_kind_79 rfl ?_
    refine j_if_ge C 92 dX9_kind_80 (by decide) (fun z => ?_) (fun z => ?_)
    · replace hw := hw.1 z
      refine j_iload_n C 2 dX9_kind_92 rfl ?_
      exact j_iret C hB hR (fd, y5_tsk, y5_tze, y5_tma, y5_tki, y5_tdn, y5_twi, y5_tdu, y5_the, y5_tyr, y5_tsz) rfl dX9_kind_93 hw rfl
    · replace hw := hw.2 z
      refine j_aload_n C 0 dX9_kind_83 rfl ?_
      refine j_ldc C dX9_kind_84 ct_X9_187 ?_
      refine j_ciT C hB 0 2 (fun u6 : (Nat → Int32) => ((wD ca (aF 2) u6) ++ ((wF (aF 0) (aL 0) (aT 0) (aK 0) (tp 0) (aF 1) (aF 2) ik) ++ ((wN ca nd sd) ++ ((wC ca aT (nd 0) y5_tsk y5_tze y5_tma y5_tki y5_tdn y5_twi y5_tdu y5_the y5_tyr y5_tsz) ++ (wC ca aL (nd 0) lsk lze lma lki ldn lwi ldu lhe lyr lsz)))))) rfl (fun _ => rfl) (jr_V C lkV_X9_83 (c_X9_found aF aL aT aK nd tp fd ik (-1000000004) hw) ⟨rfl, rfl, by decide, by decide, by decide, by decide⟩ [0, 1] (by decide) rfl (fx_rw C hB [0, 1] rfl) 1 9 rfl rfl rfl rfl (Nat.le_of_ble_eq_true rfl) dX9_kind_86) (fun r6 u6 hw => ?_)
      refine j_goto C 93 dX9_kind_89 (by decide) ?_
      exact j_iret C hB hR (u6, y5_tsk, y5_tze, y5_tma, y5_tki, y5_tdn, y5_twi, y5_tdu, y5_the, y5_tyr, y5_tsz) rfl dX9_kind_93 hw rfl
  · replace hw := hw.1 z
    refine j_aload_n C 0 dX9_kind_8 rfl ?_
    refine j_ldc C dX9_kind_9 ct_X9_82 ?_
    refine j_ciT C hB 0 2 (fun u7 : (Nat → Int32) => ((wD ca (aF 2) u7) ++ ((wF (aF 0) (aL 0) (aT 0) (aK 0) (tp 0) (aF 1) (aF 2) ik) ++ ((wN ca nd sd) ++ ((wC ca aT (nd 0) tsk tze tma tki tdn twi tdu the tyr tsz) ++ (wC ca aL (nd 0) lsk lze lma lki ldn lwi ldu lhe lyr lsz)))))) rfl (fun _ => rfl) (jr_V C lkV_X9_83 (c_X9_found aF aL aT aK nd tp fd ik (-1000000001) hw) ⟨rfl, rfl, by decide, by decide, by decide, by decide⟩ [0, 1] (by decide) rfl (fx_rw C hB [0, 1] rfl) 1 9 rfl rfl rfl rfl (Nat.le_of_ble_eq_true rfl) dX9_kind_11) (fun r7 u7 hw => ?_)
    exact j_iret C hB hR (u7, tsk, tze, tma, tki, tdn, twi, tdu, the, tyr, tsz) rfl dX9_kind_14 hw rfl
def wpl_X9_zeal_38 (fd : Nat → Int32) (lsk : Nat → Int32) (lze : Nat → Int32) (lma : Nat → Int32) (lki : Nat → Int32) (ldn : Nat → Int32) (lwi : Nat → Int32) (ldu : Nat → Int32) (lyr : Int32) (lsz : Int32) (x1 : Int32) (x2 : Int32) (x3 : Int32) (Q : (Int32) → (Nat → Int32) → (Nat → Int32) → (Nat → Int32) → (Nat → Int32) → (Nat → Int32) → (Nat → Int32) → (Nat → Int32) → (Nat → Int32) → (Nat → Int32) → (Int32) → (Int32) → Prop) (K : (Int32) → (Nat → Int32) → (Nat → Int32) → (Nat → Int32) → (Nat → Int32) → (Nat → Int32) → (Nat → Int32) → (Nat → Int32) → (Nat → Int32) → (Int32) → (Int32) → Prop) : Nat → (Int32) → (Nat → Int32) → (Nat → Int32) → (Nat → Int32) → (Nat → Int32) → (Nat → Int32) → (Nat → Int32) → (Nat → Int32) → (Nat → Int32) → (Int32) → (Int32) → Prop
  | 0, _, _, _, _, _, _, _, _, _, _, _ => False
  | n + 1, x4, tsk, tze, tma, tki, tdn, twi, tdu, the, tyr, tsz => (9 < x4 → K x4 tsk tze tma tki tdn twi tdu the tyr tsz) ∧ (¬ (9 < x4) → wp_X2_become tsk tze tma tki tdn twi tdu lsk lze lma lki ldn lwi ldu lyr lsz (fun c6_0 c6_1 c6_2 c6_3 c6_4 c6_5 c6_6 c6_7 c6_8 => vp_in x1 6 ∧ (wp_X2_goYears c6_0 (upd c6_1 (x1.toNatClampNeg) x4) c6_2 c6_3 c6_4 c6_5 c6_6 the c6_7 c6_8 x2 (fun c8_0 c8_1 c8_2 c8_3 c8_4 c8_5 c8_6 => vp_in x1 6 ∧ (((c8_1 (x1.toNatClampNeg)) < x3 → wpl_X9_zeal_38 fd lsk lze lma lki ldn lwi ldu lyr lsz x1 x2 x3 Q K n (x4 + 1) c6_0 c8_0 c8_1 c6_3 c8_2 c8_3 c8_4 c8_5 c8_6 c6_8) ∧ (¬ ((c8_1 (x1.toNatClampNeg)) < x3) → Q x4 fd c6_0 c8_0 c8_1 c6_3 c8_2 c8_3 c8_4 c8_5 c8_6 c6_8))))))
def wp_X9_zeal (fd : Nat → Int32) (tsk : Nat → Int32) (tze : Nat → Int32) (tma : Nat → Int32) (tki : Nat → Int32) (tdn : Nat → Int32) (twi : Nat → Int32) (tdu : Nat → Int32) (the : Nat → Int32) (tyr : Int32) (tsz : Int32) (lsk : Nat → Int32) (lze : Nat → Int32) (lma : Nat → Int32) (lki : Nat → Int32) (ldn : Nat → Int32) (lwi : Nat → Int32) (ldu : Nat → Int32) (lyr : Int32) (lsz : Int32)  (a1 : Int32) (a2 : Int32) (a3 : Int32) (Q : (Int32) → (Nat → Int32) → (Nat → Int32) → (Nat → Int32) → (Nat → Int32) → (Nat → Int32) → (Nat → Int32) → (Nat → Int32) → (Nat → Int32) → (Nat → Int32) → (Int32) → (Int32) → Prop) : Prop := wp_X9_isPerson a1 (fun r1 => (r1 = 0 → wp_X9_found fd (-1000000001) (fun r2 c2_0 => Q r2 c2_0 tsk tze tma tki tdn twi tdu the tyr tsz)) ∧ (¬ (r1 = 0) → wp_X9_isWithin a2 1 60 (fun r3 => (r3 = 0 → wp_X9_found fd (-1000000001) (fun r4 c4_0 => Q r4 c4_0 tsk tze tma tki tdn twi tdu the tyr tsz)) ∧ (¬ (r3 = 0) → wp_X9_isWithin a3 0 999 (fun r5 => (r5 = 0 → wp_X9_found fd (-1000000001) (fun r12 c12_0 => Q r12 c12_0 tsk tze tma tki tdn twi tdu the tyr tsz)) ∧ (¬ (r5 = 0) → ∃ n10 : Nat, wpl_X9_zeal_38 fd lsk lze lma lki ldn lwi ldu lyr lsz a1 a2 a3 Q (fun y10_4 y10_tsk y10_tze y10_tma y10_tki y10_tdn y10_twi y10_tdu y10_the y10_tyr y10_tsz => wp_X9_found fd (-1000000004) (fun r11 c11_0 => Q r11 c11_0 y10_tsk y10_tze y10_tma y10_tki y10_tdn y10_twi y10_tdu y10_the y10_tyr y10_tsz)) n10 0 tsk tze tma tki tdn twi tdu the tyr tsz))))))
set_option maxRecDepth 100000 in
set_option maxHeartbeats 8000000 in
theorem ml_X9_zeal_38 {l : Launch} {D : va_G} {ca : Nat → ClassId} {sd : Nat → Nat}  {k : Kx} (aF : Nat → Nat) (aL : Nat → Nat) (aT : Nat → Nat) (aK : Nat → Nat) (nd : Nat → Nat) (tp : Nat → Nat)  (fd : Nat → Int32) (ik : Int32) (lsk : Nat → Int32) (lze : Nat → Int32) (lma : Nat → Int32) (lki : Nat → Int32) (ldn : Nat → Int32) (lwi : Nat → Int32) (ldu : Nat → Int32) (lhe : Nat → Int32) (lyr : Int32) (lsz : Int32) (x1 : Int32) (x2 : Int32) (x3 : Int32) (C : Cx D ca sd cX9_zeal RX9 (some .int) { frames := 8, cells := 0, slots := 0, locals := 203 } k 5) {Q : (Int32) → (Nat → Int32) → (Nat → Int32) → (Nat → Int32) → (Nat → Int32) → (Nat → Int32) → (Nat → Int32) → (Nat → Int32) → (Nat → Int32) → (Nat → Int32) → (Int32) → (Int32) → Prop} (hR : Rx (Ri D (fun (r : Int32) (u : (Nat → Int32) × (Nat → Int32) × (Nat → Int32) × (Nat → Int32) × (Nat → Int32) × (Nat → Int32) × (Nat → Int32) × (Nat → Int32) × (Nat → Int32) × (Int32) × (Int32)) => Q r u.1 u.2.1 u.2.2.1 u.2.2.2.1 u.2.2.2.2.1 u.2.2.2.2.2.1 u.2.2.2.2.2.2.1 u.2.2.2.2.2.2.2.1 u.2.2.2.2.2.2.2.2.1 u.2.2.2.2.2.2.2.2.2.1 u.2.2.2.2.2.2.2.2.2.2) (fun u => ((wD ca (aF 2) u.1) ++ ((wF (aF 0) (aL 0) (aT 0) (aK 0) (tp 0) (aF 1) (aF 2) ik) ++ ((wN ca nd sd) ++ ((wC ca aT (nd 0) u.2.1 u.2.2.1 u.2.2.2.1 u.2.2.2.2.1 u.2.2.2.2.2.1 u.2.2.2.2.2.2.1 u.2.2.2.2.2.2.2.1 u.2.2.2.2.2.2.2.2.1 u.2.2.2.2.2.2.2.2.2.1 u.2.2.2.2.2.2.2.2.2.2) ++ (wC ca aL (nd 0) lsk lze lma lki ldn lwi ldu lhe lyr lsz))))))) 0 0 k) (hB : Wx k) {K : (Int32) → (Nat → Int32) → (Nat → Int32) → (Nat → Int32) → (Nat → Int32) → (Nat → Int32) → (Nat → Int32) → (Nat → Int32) → (Nat → Int32) → (Int32) → (Int32) → Prop} (hK : ∀ (x4' : Int32) (tsk' : Nat → Int32) (tze' : Nat → Int32) (tma' : Nat → Int32) (tki' : Nat → Int32) (tdn' : Nat → Int32) (twi' : Nat → Int32) (tdu' : Nat → Int32) (the' : Nat → Int32) (tyr' : Int32) (tsz' : Int32), K x4' tsk' tze' tma' tki' tdn' twi' tdu' the' tyr' tsz' → J l D k 5 0 0 97 ((wD ca (aF 2) fd) ++ ((wF (aF 0) (aL 0) (aT 0) (aK 0) (tp 0) (aF 1) (aF 2) ik) ++ ((wN ca nd sd) ++ ((wC ca aT (nd 0) tsk' tze' tma' tki' tdn' twi' tdu' the' tyr' tsz') ++ (wC ca aL (nd 0) lsk lze lma lki ldn lwi ldu lhe lyr lsz))))) [(0, .ref (aF 0)), (1, .int x1), (2, .int x2), (3, .int x3), (4, .int x4')] []) : ∀ (n : Nat) (x4 : Int32) (tsk : Nat → Int32) (tze : Nat → Int32) (tma : Nat → Int32) (tki : Nat → Int32) (tdn : Nat → Int32) (twi : Nat → Int32) (tdu : Nat → Int32) (the : Nat → Int32) (tyr : Int32) (tsz : Int32), wpl_X9_zeal_38 fd lsk lze lma lki ldn lwi ldu lyr lsz x1 x2 x3 Q K n x4 tsk tze tma tki tdn twi tdu the tyr tsz → J l D k 5 0 0 38 ((wD ca (aF 2) fd) ++ ((wF (aF 0) (aL 0) (aT 0) (aK 0) (tp 0) (aF 1) (aF 2) ik) ++ ((wN ca nd sd) ++ ((wC ca aT (nd 0) tsk tze tma tki tdn twi tdu the tyr tsz) ++ (wC ca aL (nd 0) lsk lze lma lki ldn lwi ldu lhe lyr lsz))))) [(0, .ref (aF 0)), (1, .int x1), (2, .int x2), (3, .int x3), (4, .int x4)] [] := by
  intro n
  induction n with
  | zero =>
    intro x4 tsk tze tma tki tdn twi tdu the tyr tsz hw
    rw [wpl_X9_zeal_38] at hw
    exact hw.elim
  | succ n ih =>
    intro x4 tsk tze tma tki tdn twi tdu the tyr tsz hw
    rw [wpl_X9_zeal_38] at hw
    refine j_iload C 4 dX9_zeal_38 rfl ?_
    refine j_bipush C 9 dX9_zeal_40 (by decide) ?_
    refine j_icmp_gt C 97 dX9_zeal_42 (by decide) (fun z => ?_) (fun z => ?_)
    · replace hw := hw.1 z
      exact hK x4 tsk tze tma tki tdn twi tdu the tyr tsz hw
    · replace hw := hw.2 z
      refine j_aload_n C 0 dX9_zeal_45 rfl ?_
      refine j_get C fl_X9_50_9 1 dX9_zeal_46 rfl rfl ?_
      refine j_aload_n C 0 dX9_zeal_49 rfl ?_
      refine j_get C fl_X9_44_9 1 dX9_zeal_50 rfl rfl ?_
      refine j_cvT C hB 9 27 (fun u6 : (Nat → Int32) × (Nat → Int32) × (Nat → Int32) × (Nat → Int32) × (Nat → Int32) × (Nat → Int32) × (Nat → Int32) × (Int32) × (Int32) => ((wD ca (aF 2) fd) ++ ((wF (aF 0) (aL 0) (aT 0) (aK 0) (tp 0) (aF 1) (aF 2) ik) ++ ((wN ca nd sd) ++ ((wC ca aT (nd 0) u6.1 u6.2.1 u6.2.2.1 u6.2.2.2.1 u6.2.2.2.2.1 u6.2.2.2.2.2.1 u6.2.2.2.2.2.2.1 the u6.2.2.2.2.2.2.2.1 u6.2.2.2.2.2.2.2.2) ++ (wC ca aL (nd 0) lsk lze lma lki ldn lwi ldu lhe lyr lsz)))))) rfl (fun _ => rfl) (jr_V C lkV_X9_200 (c_X2_become aT aL (nd 0) tsk tze tma tki tdn twi tdu the tyr tsz lsk lze lma lki ldn lwi ldu lhe lyr lsz hw) ⟨rfl, rfl, by decide, by decide, by decide, by decide⟩ [9, 10, 11, 12, 13, 14, 15, 16, 17, 18, 19, 20, 21, 22, 23, 24, 25, 26] rfl rfl (fx_rw C hB [9, 10, 11, 12, 13, 14, 15, 16, 17, 18, 19, 20, 21, 22, 23, 24, 25, 26] rfl) 9 2 rfl rfl rfl rfl (Nat.le_of_ble_eq_true rfl) dX9_zeal_53) (fun u6 hw => ?_)
      refine j_aload_n C 0 dX9_zeal_56 rfl ?_
      refine j_get C fl_X9_50_9 1 dX9_zeal_57 rfl rfl ?_
      refine j_get C fl_X9_98_2 9 dX9_zeal_60 rfl rfl ?_
      refine j_iload_n C 1 dX9_zeal_63 rfl ?_
      refine j_iload C 4 dX9_zeal_64 rfl ?_
      have hi7 := hw.1
      replace hw := hw.2
      refine j_iast C hB 11 ((wD ca (aF 2) fd) ++ ((wF (aF 0) (aL 0) (aT 0) (aK 0) (tp 0) (aF 1) (aF 2) ik) ++ ((wN ca nd sd) ++ ((wC ca aT (nd 0) u6.1 (upd u6.2.1 (x1.toNatClampNeg) x4) u6.2.2.1 u6.2.2.2.1 u6.2.2.2.2.1 u6.2.2.2.2.2.1 u6.2.2.2.2.2.2.1 the u6.2.2.2.2.2.2.2.1 u6.2.2.2.2.2.2.2.2) ++ (wC ca aL (nd 0) lsk lze lma lki ldn lwi ldu lhe lyr lsz))))) dX9_zeal_66 rfl hi7 rfl ?_
      refine j_aload_n C 0 dX9_zeal_67 rfl ?_
      refine j_get C fl_X9_50_9 1 dX9_zeal_68 rfl rfl ?_
      refine j_iload_n C 2 dX9_zeal_71 rfl ?_
      refine j_cvT C hB 2 18 (fun u8 : (Nat → Int32) × (Nat → Int32) × (Nat → Int32) × (Nat → Int32) × (Nat → Int32) × (Nat → Int32) × (Int32) => ((wD ca (aF 2) fd) ++ ((wF (aF 0) (aL 0) (aT 0) (aK 0) (tp 0) (aF 1) (aF 2) ik) ++ ((wN ca nd sd) ++ ((wC ca aT (nd 0) u6.1 u8.1 u8.2.1 u6.2.2.2.1 u8.2.2.1 u8.2.2.2.1 u8.2.2.2.2.1 u8.2.2.2.2.2.1 u8.2.2.2.2.2.2 u6.2.2.2.2.2.2.2.2) ++ (wC ca aL (nd 0) lsk lze lma lki ldn lwi ldu lhe lyr lsz)))))) rfl (fun _ => rfl) (jr_V C lkV_X9_191 (c_X2_goYears nd aT u6.1 (upd u6.2.1 (x1.toNatClampNeg) x4) u6.2.2.1 u6.2.2.2.1 u6.2.2.2.2.1 u6.2.2.2.2.2.1 u6.2.2.2.2.2.2.1 the u6.2.2.2.2.2.2.2.1 u6.2.2.2.2.2.2.2.2 x2 hw) ⟨rfl, rfl, by decide, by decide, by decide, by decide⟩ [2, 3, 4, 5, 6, 7, 8, 9, 10, 11, 12, 13, 14, 15, 16, 17] rfl rfl (fx_rw C hB [2, 3, 4, 5, 6, 7, 8, 9, 10, 11, 12, 13, 14, 15, 16, 17] rfl) 9 2 rfl rfl rfl rfl (Nat.le_of_ble_eq_true rfl) dX9_zeal_72) (fun u8 hw => ?_)
      refine j_aload_n C 0 dX9_zeal_75 rfl ?_
      refine j_get C fl_X9_50_9 1 dX9_zeal_76 rfl rfl ?_
      refine j_get C fl_X9_101_2 9 dX9_zeal_79 rfl rfl ?_
      refine j_iload_n C 1 dX9_zeal_82 rfl ?_
      have hi9 := hw.1
      replace hw := hw.2
      refine j_iald C 12 dX9_zeal_83 rfl hi9 ?_
      refine j_iload_n C 3 dX9_zeal_84 rfl ?_
      refine j_icmp_lt C 91 dX9_zeal_85 (by decide) (fun z => ?_) (fun z => ?_)
      · replace hw := hw.1 z
        refine j_iinc C 4 (x4 + 1) [(4, .int (x4 + 1)), (0, .ref (aF 0)), (1, .int x1), (2, .int x2), (3, .int x3)] dX9_zeal_91 rfl rfl (by decide) rfl ?_
        refine j_goto C 38 dX9_zeal_94 (by decide) ?_
        refine j_lsub [1, 2, 3, 4, 0] [(0, .ref (aF 0)), (1, .int x1), (2, .int x2), (3, .int x3), (4, .int (x4 + 1))] rfl ?_
        exact ih (x4 + 1) u6.1 u8.1 u8.2.1 u6.2.2.2.1 u8.2.2.1 u8.2.2.2.1 u8.2.2.2.2.1 u8.2.2.2.2.2.1 u8.2.2.2.2.2.2 u6.2.2.2.2.2.2.2.2 hw
      · replace hw := hw.2 z
        refine j_iload C 4 dX9_zeal_88 rfl ?_
        exact j_iret C hB hR (fd, u6.1, u8.1, u8.2.1, u6.2.2.2.1, u8.2.2.1, u8.2.2.2.1, u8.2.2.2.2.1, u8.2.2.2.2.2.1, u8.2.2.2.2.2.2, u6.2.2.2.2.2.2.2.2) rfl dX9_zeal_90 hw rfl
set_option maxRecDepth 100000 in
set_option maxHeartbeats 8000000 in
theorem c_X9_zeal {l : Launch} {D : va_G} {ca : Nat → ClassId} {sd : Nat → Nat}  (aF : Nat → Nat) (aL : Nat → Nat) (aT : Nat → Nat) (aK : Nat → Nat) (nd : Nat → Nat) (tp : Nat → Nat) (fd : Nat → Int32) (ik : Int32) (tsk : Nat → Int32) (tze : Nat → Int32) (tma : Nat → Int32) (tki : Nat → Int32) (tdn : Nat → Int32) (twi : Nat → Int32) (tdu : Nat → Int32) (the : Nat → Int32) (tyr : Int32) (tsz : Int32) (lsk : Nat → Int32) (lze : Nat → Int32) (lma : Nat → Int32) (lki : Nat → Int32) (ldn : Nat → Int32) (lwi : Nat → Int32) (ldu : Nat → Int32) (lhe : Nat → Int32) (lyr : Int32) (lsz : Int32)  (a1 : Int32) (a2 : Int32) (a3 : Int32)  {Q : (Int32) → (Nat → Int32) → (Nat → Int32) → (Nat → Int32) → (Nat → Int32) → (Nat → Int32) → (Nat → Int32) → (Nat → Int32) → (Nat → Int32) → (Nat → Int32) → (Int32) → (Int32) → Prop} (hw : wp_X9_zeal fd tsk tze tma tki tdn twi tdu the tyr tsz lsk lze lma lki ldn lwi ldu lyr lsz  a1 a2 a3 Q) : Cn l D ca sd yX9_zeal cX9_zeal 5 (some .int) { frames := 8, cells := 0, slots := 0, locals := 203 } [.ref (aF 0), .int a1, .int a2, .int a3] ((wD ca (aF 2) fd) ++ ((wF (aF 0) (aL 0) (aT 0) (aK 0) (tp 0) (aF 1) (aF 2) ik) ++ ((wN ca nd sd) ++ ((wC ca aT (nd 0) tsk tze tma tki tdn twi tdu the tyr tsz) ++ (wC ca aL (nd 0) lsk lze lma lki ldn lwi ldu lhe lyr lsz))))) ((wD ca (aF 2) fd) ++ ((wF (aF 0) (aL 0) (aT 0) (aK 0) (tp 0) (aF 1) (aF 2) ik) ++ ((wN ca nd sd) ++ ((wC ca aT (nd 0) tsk tze tma tki tdn twi tdu the tyr tsz) ++ (wC ca aL (nd 0) lsk lze lma lki ldn lwi ldu lhe lyr lsz))))) 0 0 (Ri D (fun (r : Int32) (u : (Nat → Int32) × (Nat → Int32) × (Nat → Int32) × (Nat → Int32) × (Nat → Int32) × (Nat → Int32) × (Nat → Int32) × (Nat → Int32) × (Nat → Int32) × (Int32) × (Int32)) => Q r u.1 u.2.1 u.2.2.1 u.2.2.2.1 u.2.2.2.2.1 u.2.2.2.2.2.1 u.2.2.2.2.2.2.1 u.2.2.2.2.2.2.2.1 u.2.2.2.2.2.2.2.2.1 u.2.2.2.2.2.2.2.2.2.1 u.2.2.2.2.2.2.2.2.2.2) (fun u => ((wD ca (aF 2) u.1) ++ ((wF (aF 0) (aL 0) (aT 0) (aK 0) (tp 0) (aF 1) (aF 2) ik) ++ ((wN ca nd sd) ++ ((wC ca aT (nd 0) u.2.1 u.2.2.1 u.2.2.2.1 u.2.2.2.2.1 u.2.2.2.2.2.1 u.2.2.2.2.2.2.1 u.2.2.2.2.2.2.2.1 u.2.2.2.2.2.2.2.2.1 u.2.2.2.2.2.2.2.2.2.1 u.2.2.2.2.2.2.2.2.2.2) ++ (wC ca aL (nd 0) lsk lze lma lki ldn lwi ldu lhe lyr lsz))))))) := by
  refine cn_of (by decide) (Nat.le_of_ble_eq_true rfl) (fun k C hR hB _ => ?_)
  have C : Cx D ca sd cX9_zeal RX9 (some .int) { frames := 8, cells := 0, slots := 0, locals := 203 } k 5 := C
  unfold wp_X9_zeal at hw
  show J l D k 5 0 0 0 ((wD ca (aF 2) fd) ++ ((wF (aF 0) (aL 0) (aT 0) (aK 0) (tp 0) (aF 1) (aF 2) ik) ++ ((wN ca nd sd) ++ ((wC ca aT (nd 0) tsk tze tma tki tdn twi tdu the tyr tsz) ++ (wC ca aL (nd 0) lsk lze lma lki ldn lwi ldu lhe lyr lsz))))) [(0, .ref (aF 0)), (1, .int a1), (2, .int a2), (3, .int a3)] []
  refine j_iload_n C 1 dX9_zeal_0 rfl ?_
  refine j_ciZ C (jr_S C lkS_X9_78 (c_X9_isPerson a1 hw) ⟨rfl, rfl, by decide, by decide, by decide, by decide⟩ [] (by decide) rfl (fx_ro C) rfl rfl (Nat.le_of_ble_eq_true rfl) dX9_zeal_1) (fun r1 u1 hw => ?_)
  refine j_if_eq C 28 dX9_zeal_4 (by decide) (fun z => ?_) (fun z => ?_)
  · replace hw := hw.1 z
    refine j_aload_n C 0 dX9_zeal_28 rfl ?_
    refine j_ldc C dX9_zeal_29 ct_X9_82 ?_
    refine j_ciT C hB 0 2 (fun u2 : (Nat → Int32) => ((wD ca (aF 2) u2) ++ ((wF (aF 0) (aL 0) (aT 0) (aK 0) (tp 0) (aF 1) (aF 2) ik) ++ ((wN ca nd sd) ++ ((wC ca aT (nd 0) tsk tze tma tki tdn twi tdu the tyr tsz) ++ (wC ca aL (nd 0) lsk lze lma lki ldn lwi ldu lhe lyr lsz)))))) rfl (fun _ => rfl) (jr_V C lkV_X9_83 (c_X9_found aF aL aT aK nd tp fd ik (-1000000001) hw) ⟨rfl, rfl, by decide, by decide, by decide, by decide⟩ [0, 1] (by decide) rfl (fx_rw C hB [0, 1] rfl) 1 9 rfl rfl rfl rfl (Nat.le_of_ble_eq_true rfl) dX9_zeal_31) (fun r2 u2 hw => ?_)
    exact j_iret C hB hR (u2, tsk, tze, tma, tki, tdn, twi, tdu, the, tyr, tsz) rfl dX9_zeal_34 hw rfl
  · replace hw := hw.2 z
    refine j_iload_n C 2 dX9_zeal_7 rfl ?_
    refine j_iconst C 1 dX9_zeal_8 (by decide) ?_
    refine j_bipush C 60 dX9_zeal_9 (by decide) ?_
    refine j_ciZ C (jr_S C lkS_X9_87 (c_X9_isWithin a2 1 60 hw) ⟨rfl, rfl, by decide, by decide, by decide, by decide⟩ [] (by decide) rfl (fx_ro C) rfl rfl (Nat.le_of_ble_eq_true rfl) dX9_zeal_11) (fun r3 u3 hw => ?_)
    refine j_if_eq C 28 dX9_zeal_14 (by decide) (fun z => ?_) (fun z => ?_)
    · replace hw := hw.1 z
      refine j_aload_n C 0 dX9_zeal_28 rfl ?_
      refine j_ldc C dX9_zeal_29 ct_X9_82 ?_
      refine j_ciT C hB 0 2 (fun u4 : (Nat → Int32) => ((wD ca (aF 2) u4) ++ ((wF (aF 0) (aL 0) (aT 0) (aK 0) (tp 0) (aF 1) (aF 2) ik) ++ ((wN ca nd sd) ++ ((wC ca aT (nd 0) tsk tze tma tki tdn twi tdu the tyr tsz) ++ (wC ca aL (nd 0) lsk lze lma lki ldn lwi ldu lhe lyr lsz)))))) rfl (fun _ => rfl) (jr_V C lkV_X9_83 (c_X9_found aF aL aT aK nd tp fd ik (-1000000001) hw) ⟨rfl, rfl, by decide, by decide, by decide, by decide⟩ [0, 1] (by decide) rfl (fx_rw C hB [0, 1] rfl) 1 9 rfl rfl rfl rfl (Nat.le_of_ble_eq_true rfl) dX9_zeal_31) (fun r4 u4 hw => ?_)
      exact j_iret C hB hR (u4, tsk, tze, tma, tki, tdn, twi, tdu, the, tyr, tsz) rfl dX9_zeal_34 hw rfl
    · replace hw := hw.2 z
      refine j_iload_n C 3 dX9_zeal_17 rfl ?_
      refine j_iconst C 0 dX9_zeal_18 (by decide) ?_
      refine j_sipush C 999 dX9_zeal_19 (by decide) ?_
      refine j_ciZ C (jr_S C lkS_X9_87 (c_X9_isWithin a3 0 999 hw) ⟨rfl, rfl, by decide, by decide, by decide, by decide⟩ [] (by decide) rfl (fx_ro C) rfl rfl (Nat.le_of_ble_eq_true rfl) dX9_zeal_22) (fun r5 u5 hw => ?_)
      refine j_if_ne C 35 dX9_zeal_25 (by decide) (fun z => ?_) (fun z => ?_)
      · replace hw := hw.2 z
        refine j_iconst C 0 dX9_zeal_35 (by decide) ?_
        refine j_istore C [(4, .int 0), (0, .ref (aF 0)), (1, .int a1), (2, .int a2), (3, .int a3)] dX9_zeal_36 (by decide) rfl ?_
        refine j_lsub [1, 2, 3, 4, 0] [(0, .ref (aF 0)), (1, .int a1), (2, .int a2), (3, .int a3), (4, .int 0)] rfl ?_
        obtain ⟨n10, hw⟩ := hw
        refine ml_X9_zeal_38 aF aL aT aK nd tp  fd ik lsk lze lma lki ldn lwi ldu lhe lyr lsz a1 a2 a3 C hR hB (fun y10_4 y10_tsk y10_tze y10_tma y10_tki y10_tdn y10_twi y10_tdu y10_the y10_tyr y10_tsz hw => ?_) n10 0 tsk tze tma tki tdn twi tdu the tyr tsz hw
        refine j_aload_n C 0 dX9_zeal_97 rfl ?_
        refine j_ldc C dX9_zeal_98 ct_X9_187 ?_
        refine j_ciT C hB 0 2 (fun u11 : (Nat → Int32) => ((wD ca (aF 2) u11) ++ ((wF (aF 0) (aL 0) (aT 0) (aK 0) (tp 0) (aF 1) (aF 2) ik) ++ ((wN ca nd sd) ++ ((wC ca aT (nd 0) y10_tsk y10_tze y10_tma y10_tki y10_tdn y10_twi y10_tdu y10_the y10_tyr y10_tsz) ++ (wC ca aL (nd 0) lsk lze lma lki ldn lwi ldu lhe lyr lsz)))))) rfl (fun _ => rfl) (jr_V C lkV_X9_83 (c_X9_found aF aL aT aK nd tp fd ik (-1000000004) hw) ⟨rfl, rfl, by decide, by decide, by decide, by decide⟩ [0, 1] (by decide) rfl (fx_rw C hB [0, 1] rfl) 1 9 rfl rfl rfl rfl (Nat.le_of_ble_eq_true rfl) dX9_zeal_100) (fun r11 u11 hw => ?_)
        exact j_iret C hB hR (u11, y10_tsk, y10_tze, y10_tma, y10_tki, y10_tdn, y10_twi, y10_tdu, y10_the, y10_tyr, y10_tsz) rfl dX9_zeal_103 hw rfl
      · replace hw := hw.1 z
        refine j_aload_n C 0 dX9_zeal_28 rfl ?_
        refine j_ldc C dX9_zeal_29 ct_X9_82 ?_
        refine j_ciT C hB 0 2 (fun u12 : (Nat → Int32) => ((wD ca (aF 2) u12) ++ ((wF (aF 0) (aL 0) (aT 0) (aK 0) (tp 0) (aF 1) (aF 2) ik) ++ ((wN ca nd sd) ++ ((wC ca aT (nd 0) tsk tze tma tki tdn twi tdu the tyr tsz) ++ (wC ca aL (nd 0) lsk lze lma lki ldn lwi ldu lhe lyr lsz)))))) rfl (fun _ => rfl) (jr_V C lkV_X9_83 (c_X9_found aF aL aT aK nd tp fd ik (-1000000001) hw) ⟨rfl, rfl, by decide, by decide, by decide, by decide⟩ [0, 1] (by decide) rfl (fx_rw C hB [0, 1] rfl) 1 9 rfl rfl rfl rfl (Nat.le_of_ble_eq_true rfl) dX9_zeal_31) (fun r12 u12 hw => ?_)
        exact j_iret C hB hR (u12, tsk, tze, tma, tki, tdn, twi, tdu, the, tyr, tsz) rfl dX9_zeal_34 hw rfl
def wpl_X9_skill_26 (fd : Nat → Int32) (lsk : Nat → Int32) (lze : Nat → Int32) (lma : Nat → Int32) (lki : Nat → Int32) (ldn : Nat → Int32) (lwi : Nat → Int32) (ldu : Nat → Int32) (lyr : Int32) (lsz : Int32) (x1 : Int32) (x2 : Int32) (Q : (Int32) → (Nat → Int32) → (Nat → Int32) → (Nat → Int32) → (Nat → Int32) → (Nat → Int32) → (Nat → Int32) → (Nat → Int32) → (Nat → Int32) → (Nat → Int32) → (Int32) → (Int32) → Prop) (K : (Int32) → (Nat → Int32) → (Nat → Int32) → (Nat → Int32) → (Nat → Int32) → (Nat → Int32) → (Nat → Int32) → (Nat → Int32) → (Nat → Int32) → (Int32) → (Int32) → Prop) : Nat → (Int32) → (Nat → Int32) → (Nat → Int32) → (Nat → Int32) → (Nat → Int32) → (Nat → Int32) → (Nat → Int32) → (Nat → Int32) → (Nat → Int32) → (Int32) → (Int32) → Prop
  | 0, _, _, _, _, _, _, _, _, _, _, _ => False
  | n + 1, x3, tsk, tze, tma, tki, tdn, twi, tdu, the, tyr, tsz => (20 < x3 → K x3 tsk tze tma tki tdn twi tdu the tyr tsz) ∧ (¬ (20 < x3) → wp_X2_become tsk tze tma tki tdn twi tdu lsk lze lma lki ldn lwi ldu lyr lsz (fun c4_0 c4_1 c4_2 c4_3 c4_4 c4_5 c4_6 c4_7 c4_8 => vp_in x1 6 ∧ (wp_X2_goYears (upd c4_0 (x1.toNatClampNeg) x3) c4_1 c4_2 c4_3 c4_4 c4_5 c4_6 the c4_7 c4_8 x2 (fun c6_0 c6_1 c6_2 c6_3 c6_4 c6_5 c6_6 => wp_X2_isAllFinished c6_2 c4_8 (fun r7 => (r7 = 0 → wpl_X9_skill_26 fd lsk lze lma lki ldn lwi ldu lyr lsz x1 x2 Q K n (x3 + 1) (upd c4_0 (x1.toNatClampNeg) x3) c6_0 c6_1 c4_3 c6_2 c6_3 c6_4 c6_5 c6_6 c4_8) ∧ (¬ (r7 = 0) → Q x3 fd (upd c4_0 (x1.toNatClampNeg) x3) c6_0 c6_1 c4_3 c6_2 c6_3 c6_4 c6_5 c6_6 c4_8))))))
def wp_X9_skill (fd : Nat → Int32) (tsk : Nat → Int32) (tze : Nat → Int32) (tma : Nat → Int32) (tki : Nat → Int32) (tdn : Nat → Int32) (twi : Nat → Int32) (tdu : Nat → Int32) (the : Nat → Int32) (tyr : Int32) (tsz : Int32) (lsk : Nat → Int32) (lze : Nat → Int32) (lma : Nat → Int32) (lki : Nat → Int32) (ldn : Nat → Int32) (lwi : Nat → Int32) (ldu : Nat → Int32) (lyr : Int32) (lsz : Int32)  (a1 : Int32) (a2 : Int32) (Q : (Int32) → (Nat → Int32) → (Nat → Int32) → (Nat → Int32) → (Nat → Int32) → (Nat → Int32) → (Nat → Int32) → (Nat → Int32) → (Nat → Int32) → (Nat → Int32) → (Int32) → (Int32) → Prop) : Prop := wp_X9_isPerson a1 (fun r1 => (r1 = 0 → wp_X9_found fd (-1000000001) (fun r2 c2_0 => Q r2 c2_0 tsk tze tma tki tdn twi tdu the tyr tsz)) ∧ (¬ (r1 = 0) → wp_X9_isWithin a2 1 60 (fun r3 => (r3 = 0 → wp_X9_found fd (-1000000001) (fun r10 c10_0 => Q r10 c10_0 tsk tze tma tki tdn twi tdu the tyr tsz)) ∧ (¬ (r3 = 0) → ∃ n8 : Nat, wpl_X9_skill_26 fd lsk lze lma lki ldn lwi ldu lyr lsz a1 a2 Q (fun y8_3 y8_tsk y8_tze y8_tma y8_tki y8_tdn y8_twi y8_tdu y8_the y8_tyr y8_tsz => wp_X9_found fd (-1000000004) (fun r9 c9_0 => Q r9 c9_0 y8_tsk y8_tze y8_tma y8_tki y8_tdn y8_twi y8_tdu y8_the y8_tyr y8_tsz)) n8 0 tsk tze tma tki tdn twi tdu the tyr tsz))))
set_option maxRecDepth 100000 in
set_option maxHeartbeats 8000000 in
theorem ml_X9_skill_26 {l : Launch} {D : va_G} {ca : Nat → ClassId} {sd : Nat → Nat}  {k : Kx} (aF : Nat → Nat) (aL : Nat → Nat) (aT : Nat → Nat) (aK : Nat → Nat) (nd : Nat → Nat) (tp : Nat → Nat)  (fd : Nat → Int32) (ik : Int32) (lsk : Nat → Int32) (lze : Nat → Int32) (lma : Nat → Int32) (lki : Nat → Int32) (ldn : Nat → Int32) (lwi : Nat → Int32) (ldu : Nat → Int32) (lhe : Nat → Int32) (lyr : Int32) (lsz : Int32) (x1 : Int32) (x2 : Int32) (C : Cx D ca sd cX9_skill RX9 (some .int) { frames := 8, cells := 0, slots := 0, locals := 203 } k 4) {Q : (Int32) → (Nat → Int32) → (Nat → Int32) → (Nat → Int32) → (Nat → Int32) → (Nat → Int32) → (Nat → Int32) → (Nat → Int32) → (Nat → Int32) → (Nat → Int32) → (Int32) → (Int32) → Prop} (hR : Rx (Ri D (fun (r : Int32) (u : (Nat → Int32) × (Nat → Int32) × (Nat → Int32) × (Nat → Int32) × (Nat → Int32) × (Nat → Int32) × (Nat → Int32) × (Nat → Int32) × (Nat → Int32) × (Int32) × (Int32)) => Q r u.1 u.2.1 u.2.2.1 u.2.2.2.1 u.2.2.2.2.1 u.2.2.2.2.2.1 u.2.2.2.2.2.2.1 u.2.2.2.2.2.2.2.1 u.2.2.2.2.2.2.2.2.1 u.2.2.2.2.2.2.2.2.2.1 u.2.2.2.2.2.2.2.2.2.2) (fun u => ((wD ca (aF 2) u.1) ++ ((wF (aF 0) (aL 0) (aT 0) (aK 0) (tp 0) (aF 1) (aF 2) ik) ++ ((wN ca nd sd) ++ ((wC ca aT (nd 0) u.2.1 u.2.2.1 u.2.2.2.1 u.2.2.2.2.1 u.2.2.2.2.2.1 u.2.2.2.2.2.2.1 u.2.2.2.2.2.2.2.1 u.2.2.2.2.2.2.2.2.1 u.2.2.2.2.2.2.2.2.2.1 u.2.2.2.2.2.2.2.2.2.2) ++ (wC ca aL (nd 0) lsk lze lma lki ldn lwi ldu lhe lyr lsz))))))) 0 0 k) (hB : Wx k) {K : (Int32) → (Nat → Int32) → (Nat → Int32) → (Nat → Int32) → (Nat → Int32) → (Nat → Int32) → (Nat → Int32) → (Nat → Int32) → (Nat → Int32) → (Int32) → (Int32) → Prop} (hK : ∀ (x3' : Int32) (tsk' : Nat → Int32) (tze' : Nat → Int32) (tma' : Nat → Int32) (tki' : Nat → Int32) (tdn' : Nat → Int32) (twi' : Nat → Int32) (tdu' : Nat → Int32) (the' : Nat → Int32) (tyr' : Int32) (tsz' : Int32), K x3' tsk' tze' tma' tki' tdn' twi' tdu' the' tyr' tsz' → J l D k 4 0 0 79 ((wD ca (aF 2) fd) ++ ((wF (aF 0) (aL 0) (aT 0) (aK 0) (tp 0) (aF 1) (aF 2) ik) ++ ((wN ca nd sd) ++ ((wC ca aT (nd 0) tsk' tze' tma' tki' tdn' twi' tdu' the' tyr' tsz') ++ (wC ca aL (nd 0) lsk lze lma lki ldn lwi ldu lhe lyr lsz))))) [(0, .ref (aF 0)), (1, .int x1), (2, .int x2), (3, .int x3')] []) : ∀ (n : Nat) (x3 : Int32) (tsk : Nat → Int32) (tze : Nat → Int32) (tma : Nat → Int32) (tki : Nat → Int32) (tdn : Nat → Int32) (twi : Nat → Int32) (tdu : Nat → Int32) (the : Nat → Int32) (tyr : Int32) (tsz : Int32), wpl_X9_skill_26 fd lsk lze lma lki ldn lwi ldu lyr lsz x1 x2 Q K n x3 tsk tze tma tki tdn twi tdu the tyr tsz → J l D k 4 0 0 26 ((wD ca (aF 2) fd) ++ ((wF (aF 0) (aL 0) (aT 0) (aK 0) (tp 0) (aF 1) (aF 2) ik) ++ ((wN ca nd sd) ++ ((wC ca aT (nd 0) tsk tze tma tki tdn twi tdu the tyr tsz) ++ (wC ca aL (nd 0) lsk lze lma lki ldn lwi ldu lhe lyr lsz))))) [(0, .ref (aF 0)), (1, .int x1), (2, .int x2), (3, .int x3)] [] := by
  intro n
  induction n with
  | zero =>
    intro x3 tsk tze tma tki tdn twi tdu the tyr tsz hw
    rw [wpl_X9_skill_26] at hw
    exact hw.elim
  | succ n ih =>
    intro x3 tsk tze tma tki tdn twi tdu the tyr tsz hw
    rw [wpl_X9_skill_26] at hw
    refine j_iload_n C 3 dX9_skill_26 rfl ?_
    refine j_bipush C 20 dX9_skill_27 (by decide) ?_
    refine j_icmp_gt C 79 dX9_skill_29 (by decide) (fun z => ?_) (fun z => ?_)
    · replace hw := hw.1 z
      exact hK x3 tsk tze tma tki tdn twi tdu the tyr tsz hw
    · replace hw := hw.2 z
      refine j_aload_n C 0 dX9_skill_32 rfl ?_
      refine j_get C fl_X9_50_9 1 dX9_skill_33 rfl rfl ?_
      refine j_aload_n C 0 dX9_skill_36 rfl ?_
      refine j_get C fl_X9_44_9 1 dX9_skill_37 rfl rfl ?_
      refine j_cvT C hB 9 27 (fun u4 : (Nat → Int32) × (Nat → Int32) × (Nat → Int32) × (Nat → Int32) × (Nat → Int32) × (Nat → Int32) × (Nat → Int32) × (Int32) × (Int32) => ((wD ca (aF 2) fd) ++ ((wF (aF 0) (aL 0) (aT 0) (aK 0) (tp 0) (aF 1) (aF 2) ik) ++ ((wN ca nd sd) ++ ((wC ca aT (nd 0) u4.1 u4.2.1 u4.2.2.1 u4.2.2.2.1 u4.2.2.2.2.1 u4.2.2.2.2.2.1 u4.2.2.2.2.2.2.1 the u4.2.2.2.2.2.2.2.1 u4.2.2.2.2.2.2.2.2) ++ (wC ca aL (nd 0) lsk lze lma lki ldn lwi ldu lhe lyr lsz)))))) rfl (fun _ => rfl) (jr_V C lkV_X9_200 (c_X2_become aT aL (nd 0) tsk tze tma tki tdn twi tdu the tyr tsz lsk lze lma lki ldn lwi ldu lhe lyr lsz hw) ⟨rfl, rfl, by decide, by decide, by decide, by decide⟩ [9, 10, 11, 12, 13, 14, 15, 16, 17, 18, 19, 20, 21, 22, 23, 24, 25, 26] rfl rfl (fx_rw C hB [9, 10, 11, 12, 13, 14, 15, 16, 17, 18, 19, 20, 21, 22, 23, 24, 25, 26] rfl) 9 2 rfl rfl rfl rfl (Nat.le_of_ble_eq_true rfl) dX9_skill_40) (fun u4 hw => ?_)
      refine j_aload_n C 0 dX9_skill_43 rfl ?_
      refine j_get C fl_X9_50_9 1 dX9_skill_44 rfl rfl ?_
      refine j_get C fl_X9_91_2 9 dX9_skill_47 rfl rfl ?_
      refine j_iload_n C 1 dX9_skill_50 rfl ?_
      refine j_iload_n C 3 dX9_skill_51 rfl ?_
      have hi5 := hw.1
      replace hw := hw.2
      refine j_iast C hB 10 ((wD ca (aF 2) fd) ++ ((wF (aF 0) (aL 0) (aT 0) (aK 0) (tp 0) (aF 1) (aF 2) ik) ++ ((wN ca nd sd) ++ ((wC ca aT (nd 0) (upd u4.1 (x1.toNatClampNeg) x3) u4.2.1 u4.2.2.1 u4.2.2.2.1 u4.2.2.2.2.1 u4.2.2.2.2.2.1 u4.2.2.2.2.2.2.1 the u4.2.2.2.2.2.2.2.1 u4.2.2.2.2.2.2.2.2) ++ (wC ca aL (nd 0) lsk lze lma lki ldn lwi ldu lhe lyr lsz))))) dX9_skill_52 rfl hi5 rfl ?_
      refine j_aload_n C 0 dX9_skill_53 rfl ?_
      refine j_get C fl_X9_50_9 1 dX9_skill_54 rfl rfl ?_
      refine j_iload_n C 2 dX9_skill_57 rfl ?_
      refine j_cvT C hB 2 18 (fun u6 : (Nat → Int32) × (Nat → Int32) × (Nat → Int32) × (Nat → Int32) × (Nat → Int32) × (Nat → Int32) × (Int32) => ((wD ca (aF 2) fd) ++ ((wF (aF 0) (aL 0) (aT 0) (aK 0) (tp 0) (aF 1) (aF 2) ik) ++ ((wN ca nd sd) ++ ((wC ca aT (nd 0) (upd u4.1 (x1.toNatClampNeg) x3) u6.1 u6.2.1 u4.2.2.2.1 u6.2.2.1 u6.2.2.2.1 u6.2.2.2.2.1 u6.2.2.2.2.2.1 u6.2.2.2.2.2.2 u4.2.2.2.2.2.2.2.2) ++ (wC ca aL (nd 0) lsk lze lma lki ldn lwi ldu lhe lyr lsz)))))) rfl (fun _ => rfl) (jr_V C lkV_X9_191 (c_X2_goYears nd aT (upd u4.1 (x1.toNatClampNeg) x3) u4.2.1 u4.2.2.1 u4.2.2.2.1 u4.2.2.2.2.1 u4.2.2.2.2.2.1 u4.2.2.2.2.2.2.1 the u4.2.2.2.2.2.2.2.1 u4.2.2.2.2.2.2.2.2 x2 hw) ⟨rfl, rfl, by decide, by decide, by decide, by decide⟩ [2, 3, 4, 5, 6, 7, 8, 9, 10, 11, 12, 13, 14, 15, 16, 17] rfl rfl (fx_rw C hB [2, 3, 4, 5, 6, 7, 8, 9, 10, 11, 12, 13, 14, 15, 16, 17] rfl) 9 2 rfl rfl rfl rfl (Nat.le_of_ble_eq_true rfl) dX9_skill_58) (fun u6 hw => ?_)
      refine j_aload_n C 0 dX9_skill_61 rfl ?_
      refine j_get C fl_X9_50_9 1 dX9_skill_62 rfl rfl ?_
      refine j_ciZ C (jr_V C lkV_X9_210 (c_X2_isAllFinished aT (nd 0) (upd u4.1 (x1.toNatClampNeg) x3) u6.1 u6.2.1 u4.2.2.2.1 u6.2.2.1 u6.2.2.2.1 u6.2.2.2.2.1 u6.2.2.2.2.2.1 u6.2.2.2.2.2.2 u4.2.2.2.2.2.2.2.2 hw) ⟨rfl, rfl, by decide, by decide, by decide, by decide⟩ [9, 10, 11, 12, 13, 14, 15, 16, 17] (by decide) rfl (fx_ro C) 9 2 rfl rfl rfl rfl (Nat.le_of_ble_eq_true rfl) dX9_skill_65) (fun r7 u7 hw => ?_)
      refine j_if_eq C 73 dX9_skill_68 (by decide) (fun z => ?_) (fun z => ?_)
      · replace hw := hw.1 z
        refine j_iinc C 3 (x3 + 1) [(3, .int (x3 + 1)), (0, .ref (aF 0)), (1, .int x1), (2, .int x2)] dX9_skill_73 rfl rfl (by decide) rfl ?_
        refine j_goto C 26 dX9_skill_76 (by decide) ?_
        refine j_lsub [1, 2, 3, 0] [(0, .ref (aF 0)), (1, .int x1), (2, .int x2), (3, .int (x3 + 1))] rfl ?_
        exact ih (x3 + 1) (upd u4.1 (x1.toNatClampNeg) x3) u6.1 u6.2.1 u4.2.2.2.1 u6.2.2.1 u6.2.2.2.1 u6.2.2.2.2.1 u6.2.2.2.2.2.1 u6.2.2.2.2.2.2 u4.2.2.2.2.2.2.2.2 hw
      · replace hw := hw.2 z
        refine j_iload_n C 3 dX9_skill_71 rfl ?_
        exact j_iret C hB hR (fd, upd u4.1 (x1.toNatClampNeg) x3, u6.1, u6.2.1, u4.2.2.2.1, u6.2.2.1, u6.2.2.2.1, u6.2.2.2.2.1, u6.2.2.2.2.2.1, u6.2.2.2.2.2.2, u4.2.2.2.2.2.2.2.2) rfl dX9_skill_72 hw rfl
set_option maxRecDepth 100000 in
set_option maxHeartbeats 8000000 in
theorem c_X9_skill {l : Launch} {D : va_G} {ca : Nat → ClassId} {sd : Nat → Nat}  (aF : Nat → Nat) (aL : Nat → Nat) (aT : Nat → Nat) (aK : Nat → Nat) (nd : Nat → Nat) (tp : Nat → Nat) (fd : Nat → Int32) (ik : Int32) (tsk : Nat → Int32) (tze : Nat → Int32) (tma : Nat → Int32) (tki : Nat → Int32) (tdn : Nat → Int32) (twi : Nat → Int32) (tdu : Nat → Int32) (the : Nat → Int32) (tyr : Int32) (tsz : Int32) (lsk : Nat → Int32) (lze : Nat → Int32) (lma : Nat → Int32) (lki : Nat → Int32) (ldn : Nat → Int32) (lwi : Nat → Int32) (ldu : Nat → Int32) (lhe : Nat → Int32) (lyr : Int32) (lsz : Int32)  (a1 : Int32) (a2 : Int32)  {Q : (Int32) → (Nat → Int32) → (Nat → Int32) → (Nat → Int32) → (Nat → Int32) → (Nat → Int32) → (Nat → Int32) → (Nat → Int32) → (Nat → Int32) → (Nat → Int32) → (Int32) → (Int32) → Prop} (hw : wp_X9_skill fd tsk tze tma tki tdn twi tdu the tyr tsz lsk lze lma lki ldn lwi ldu lyr lsz  a1 a2 Q) : Cn l D ca sd yX9_skill cX9_skill 4 (some .int) { frames := 8, cells := 0, slots := 0, locals := 203 } [.ref (aF 0), .int a1, .int a2] ((wD ca (aF 2) fd) ++ ((wF (aF 0) (aL 0) (aT 0) (aK 0) (tp 0) (aF 1) (aF 2) ik) ++ ((wN ca nd sd) ++ ((wC ca aT (nd 0) tsk tze tma tki tdn twi tdu the tyr tsz) ++ (wC ca aL (nd 0) lsk lze lma lki ldn lwi ldu lhe lyr lsz))))) ((wD ca (aF 2) fd) ++ ((wF (aF 0) (aL 0) (aT 0) (aK 0) (tp 0) (aF 1) (aF 2) ik) ++ ((wN ca nd sd) ++ ((wC ca aT (nd 0) tsk tze tma tki tdn twi tdu the tyr tsz) ++ (wC ca aL (nd 0) lsk lze lma lki ldn lwi ldu lhe lyr lsz))))) 0 0 (Ri D (fun (r : Int32) (u : (Nat → Int32) × (Nat → Int32) × (Nat → Int32) × (Nat → Int32) × (Nat → Int32) × (Nat → Int32) × (Nat → Int32) × (Nat → Int32) × (Nat → Int32) × (Int32) × (Int32)) => Q r u.1 u.2.1 u.2.2.1 u.2.2.2.1 u.2.2.2.2.1 u.2.2.2.2.2.1 u.2.2.2.2.2.2.1 u.2.2.2.2.2.2.2.1 u.2.2.2.2.2.2.2.2.1 u.2.2.2.2.2.2.2.2.2.1 u.2.2.2.2.2.2.2.2.2.2) (fun u => ((wD ca (aF 2) u.1) ++ ((wF (aF 0) (aL 0) (aT 0) (aK 0) (tp 0) (aF 1) (aF 2) ik) ++ ((wN ca nd sd) ++ ((wC ca aT (nd 0) u.2.1 u.2.2.1 u.2.2.2.1 u.2.2.2.2.1 u.2.2.2.2.2.1 u.2.2.2.2.2.2.1 u.2.2.2.2.2.2.2.1 u.2.2.2.2.2.2.2.2.1 u.2.2.2.2.2.2.2.2.2.1 u.2.2.2.2.2.2.2.2.2.2) ++ (wC ca aL (nd 0) lsk lze lma lki ldn lwi ldu lhe lyr lsz))))))) := by
  refine cn_of (by decide) (Nat.le_of_ble_eq_true rfl) (fun k C hR hB _ => ?_)
  have C : Cx D ca sd cX9_skill RX9 (some .int) { frames := 8, cells := 0, slots := 0, locals := 203 } k 4 := C
  unfold wp_X9_skill at hw
  show J l D k 4 0 0 0 ((wD ca (aF 2) fd) ++ ((wF (aF 0) (aL 0) (aT 0) (aK 0) (tp 0) (aF 1) (aF 2) ik) ++ ((wN ca nd sd) ++ ((wC ca aT (nd 0) tsk tze tma tki tdn twi tdu the tyr tsz) ++ (wC ca aL (nd 0) lsk lze lma lki ldn lwi ldu lhe lyr lsz))))) [(0, .ref (aF 0)), (1, .int a1), (2, .int a2)] []
  refine j_iload_n C 1 dX9_skill_0 rfl ?_
  refine j_ciZ C (jr_S C lkS_X9_78 (c_X9_isPerson a1 hw) ⟨rfl, rfl, by decide, by decide, by decide, by decide⟩ [] (by decide) rfl (fx_ro C) rfl rfl (Nat.le_of_ble_eq_true rfl) dX9_skill_1) (fun r1 u1 hw => ?_)
  refine j_if_eq C 17 dX9_skill_4 (by decide) (fun z => ?_) (fun z => ?_)
  · replace hw := hw.1 z
    refine j_aload_n C 0 dX9_skill_17 rfl ?_
    refine j_ldc C dX9_skill_18 ct_X9_82 ?_
    refine j_ciT C hB 0 2 (fun u2 : (Nat → Int32) => ((wD ca (aF 2) u2) ++ ((wF (aF 0) (aL 0) (aT 0) (aK 0) (tp 0) (aF 1) (aF 2) ik) ++ ((wN ca nd sd) ++ ((wC ca aT (nd 0) tsk tze tma tki tdn twi tdu the tyr tsz) ++ (wC ca aL (nd 0) lsk lze lma lki ldn lwi ldu lhe lyr lsz)))))) rfl (fun _ => rfl) (jr_V C lkV_X9_83 (c_X9_found aF aL aT aK nd tp fd ik (-1000000001) hw) ⟨rfl, rfl, by decide, by decide, by decide, by decide⟩ [0, 1] (by decide) rfl (fx_rw C hB [0, 1] rfl) 1 9 rfl rfl rfl rfl (Nat.le_of_ble_eq_true rfl) dX9_skill_20) (fun r2 u2 hw => ?_)
    exact j_iret C hB hR (u2, tsk, tze, tma, tki, tdn, twi, tdu, the, tyr, tsz) rfl dX9_skill_23 hw rfl
  · replace hw := hw.2 z
    refine j_iload_n C 2 dX9_skill_7 rfl ?_
    refine j_iconst C 1 dX9_skill_8 (by decide) ?_
    refine j_bipush C 60 dX9_skill_9 (by decide) ?_
    refine j_ciZ C (jr_S C lkS_X9_87 (c_X9_isWithin a2 1 60 hw) ⟨rfl, rfl, by decide, by decide, by decide, by decide⟩ [] (by decide) rfl (fx_ro C) rfl rfl (Nat.le_of_ble_eq_true rfl) dX9_skill_11) (fun r3 u3 hw => ?_)
    refine j_if_ne C 24 dX9_skill_14 (by decide) (fun z => ?_) (fun z => ?_)
    · replace hw := hw.2 z
      refine j_iconst C 0 dX9_skill_24 (by decide) ?_
      refine j_istore_n C [(3, .int 0), (0, .ref (aF 0)), (1, .int a1), (2, .int a2)] dX9_skill_25 (by decide) rfl ?_
      refine j_lsub [1, 2, 3, 0] [(0, .ref (aF 0)), (1, .int a1), (2, .int a2), (3, .int 0)] rfl ?_
      obtain ⟨n8, hw⟩ := hw
      refine ml_X9_skill_26 aF aL aT aK nd tp  fd ik lsk lze lma lki ldn lwi ldu lhe lyr lsz a1 a2 C hR hB (fun y8_3 y8_tsk y8_tze y8_tma y8_tki y8_tdn y8_twi y8_tdu y8_the y8_tyr y8_tsz hw => ?_) n8 0 tsk tze tma tki tdn twi tdu the tyr tsz hw
      refine j_aload_n C 0 dX9_skill_79 rfl ?_
      refine j_ldc C dX9_skill_80 ct_X9_187 ?_
      refine j_ciT C hB 0 2 (fun u9 : (Nat → Int32) => ((wD ca (aF 2) u9) ++ ((wF (aF 0) (aL 0) (aT 0) (aK 0) (tp 0) (aF 1) (aF 2) ik) ++ ((wN ca nd sd) ++ ((wC ca aT (nd 0) y8_tsk y8_tze y8_tma y8_tki y8_tdn y8_twi y8_tdu y8_the y8_tyr y8_tsz) ++ (wC ca aL (nd 0) lsk lze lma lki ldn lwi ldu lhe lyr lsz)))))) rfl (fun _ => rfl) (jr_V C lkV_X9_83 (c_X9_found aF aL aT aK nd tp fd ik (-1000000004) hw) ⟨rfl, rfl, by decide, by decide, by decide, by decide⟩ [0, 1] (by decide) rfl (fx_rw C hB [0, 1] rfl) 1 9 rfl rfl rfl rfl (Nat.le_of_ble_eq_true rfl) dX9_skill_82) (fun r9 u9 hw => ?_)
      exact j_iret C hB hR (u9, y8_tsk, y8_tze, y8_tma, y8_tki, y8_tdn, y8_twi, y8_tdu, y8_the, y8_tyr, y8_tsz) rfl dX9_skill_85 hw rfl
    · replace hw := hw.1 z
      refine j_aload_n C 0 dX9_skill_17 rfl ?_
      refine j_ldc C dX9_skill_18 ct_X9_82 ?_
      refine j_ciT C hB 0 2 (fun u10 : (Nat → Int32) => ((wD ca (aF 2) u10) ++ ((wF (aF 0) (aL 0) (aT 0) (aK 0) (tp 0) (aF 1) (aF 2) ik) ++ ((wN ca nd sd) ++ ((wC ca aT (nd 0) tsk tze tma tki tdn twi tdu the tyr tsz) ++ (wC ca aL (nd 0) lsk lze lma lki ldn lwi ldu lhe lyr lsz)))))) rfl (fun _ => rfl) (jr_V C lkV_X9_83 (c_X9_found aF aL aT aK nd tp fd ik (-1000000001) hw) ⟨rfl, rfl, by decide, by decide, by decide, by decide⟩ [0, 1] (by decide) rfl (fx_rw C hB [0, 1] rfl) 1 9 rfl rfl rfl rfl (Nat.le_of_ble_eq_true rfl) dX9_skill_20) (fun r10 u10 hw => ?_)
      exact j_iret C hB hR (u10, tsk, tze, tma, tki, tdn, twi, tdu, the, tyr, tsz) rfl dX9_skill_23 hw rfl
def wpl_X9_maker_40 (tma : Nat → Int32) (K : (Int32) → (Int32) → Prop) : Nat → (Int32) → (Int32) → Prop
  | 0, _, _ => False
  | n + 1, x2, x3 => (6 ≤ x3 → K x2 x3) ∧ (¬ (6 ≤ x3) → vp_in x3 6 ∧ (vp_in x2 6 ∧ (((tma (x3.toNatClampNeg)) ≤ (tma (x2.toNatClampNeg)) → wpl_X9_maker_40 tma  K n x2 (x3 + 1)) ∧ (¬ ((tma (x3.toNatClampNeg)) ≤ (tma (x2.toNatClampNeg))) → wpl_X9_maker_40 tma  K n x3 (x3 + 1)))))
def wp_X9_maker (fd : Nat → Int32) (tsk : Nat → Int32) (tze : Nat → Int32) (tma : Nat → Int32) (tki : Nat → Int32) (tdn : Nat → Int32) (twi : Nat → Int32) (tdu : Nat → Int32) (the : Nat → Int32) (tyr : Int32) (tsz : Int32) (lsk : Nat → Int32) (lze : Nat → Int32) (lma : Nat → Int32) (lki : Nat → Int32) (ldn : Nat → Int32) (lwi : Nat → Int32) (ldu : Nat → Int32) (lyr : Int32) (lsz : Int32)  (a1 : Int32) (Q : (Int32) → (Nat → Int32) → (Nat → Int32) → (Nat → Int32) → (Nat → Int32) → (Nat → Int32) → (Nat → Int32) → (Nat → Int32) → (Nat → Int32) → (Nat → Int32) → (Int32) → (Int32) → Prop) : Prop := wp_X9_isWithin a1 0 100 (fun r1 => (r1 = 0 → wp_X9_found fd (-1000000001) (fun r7 c7_0 => Q r7 c7_0 tsk tze tma tki tdn twi tdu the tyr tsz)) ∧ (¬ (r1 = 0) → wp_X2_become tsk tze tma tki tdn twi tdu lsk lze lma lki ldn lwi ldu lyr lsz (fun c2_0 c2_1 c2_2 c2_3 c2_4 c2_5 c2_6 c2_7 c2_8 => wp_X2_goYears c2_0 c2_1 c2_2 c2_3 c2_4 c2_5 c2_6 the c2_7 c2_8 a1 (fun c3_0 c3_1 c3_2 c3_3 c3_4 c3_5 c3_6 => ∃ n6 : Nat, wpl_X9_maker_40 c3_1  (fun y6_2 y6_3 => Q y6_2 fd c2_0 c3_0 c3_1 c2_3 c3_2 c3_3 c3_4 c3_5 c3_6 c2_8) n6 0 1))))
set_option maxRecDepth 100000 in
set_option maxHeartbeats 8000000 in
theorem ml_X9_maker_40 {l : Launch} {D : va_G} {ca : Nat → ClassId} {sd : Nat → Nat}  {k : Kx} (aF : Nat → Nat) (aL : Nat → Nat) (aT : Nat → Nat) (aK : Nat → Nat) (nd : Nat → Nat) (tp : Nat → Nat)  (fd : Nat → Int32) (ik : Int32) (tsk : Nat → Int32) (tze : Nat → Int32) (tma : Nat → Int32) (tki : Nat → Int32) (tdn : Nat → Int32) (twi : Nat → Int32) (tdu : Nat → Int32) (the : Nat → Int32) (tyr : Int32) (tsz : Int32) (lsk : Nat → Int32) (lze : Nat → Int32) (lma : Nat → Int32) (lki : Nat → Int32) (ldn : Nat → Int32) (lwi : Nat → Int32) (ldu : Nat → Int32) (lhe : Nat → Int32) (lyr : Int32) (lsz : Int32) (x1 : Int32) (C : Cx D ca sd cX9_maker RX9 (some .int) { frames := 8, cells := 0, slots := 0, locals := 203 } k 4) {Q : (Int32) → (Nat → Int32) → (Nat → Int32) → (Nat → Int32) → (Nat → Int32) → (Nat → Int32) → (Nat → Int32) → (Nat → Int32) → (Nat → Int32) → (Nat → Int32) → (Int32) → (Int32) → Prop} (hR : Rx (Ri D (fun (r : Int32) (u : (Nat → Int32) × (Nat → Int32) × (Nat → Int32) × (Nat → Int32) × (Nat → Int32) × (Nat → Int32) × (Nat → Int32) × (Nat → Int32) × (Nat → Int32) × (Int32) × (Int32)) => Q r u.1 u.2.1 u.2.2.1 u.2.2.2.1 u.2.2.2.2.1 u.2.2.2.2.2.1 u.2.2.2.2.2.2.1 u.2.2.2.2.2.2.2.1 u.2.2.2.2.2.2.2.2.1 u.2.2.2.2.2.2.2.2.2.1 u.2.2.2.2.2.2.2.2.2.2) (fun u => ((wD ca (aF 2) u.1) ++ ((wF (aF 0) (aL 0) (aT 0) (aK 0) (tp 0) (aF 1) (aF 2) ik) ++ ((wN ca nd sd) ++ ((wC ca aT (nd 0) u.2.1 u.2.2.1 u.2.2.2.1 u.2.2.2.2.1 u.2.2.2.2.2.1 u.2.2.2.2.2.2.1 u.2.2.2.2.2.2.2.1 u.2.2.2.2.2.2.2.2.1 u.2.2.2.2.2.2.2.2.2.1 u.2.2.2.2.2.2.2.2.2.2) ++ (wC ca aL (nd 0) lsk lze lma lki ldn lwi ldu lhe lyr lsz))))))) 0 0 k) (hB : Wx k) {K : (Int32) → (Int32) → Prop} (hK : ∀ (x2' : Int32) (x3' : Int32), K x2' x3' → J l D k 4 0 0 75 ((wD ca (aF 2) fd) ++ ((wF (aF 0) (aL 0) (aT 0) (aK 0) (tp 0) (aF 1) (aF 2) ik) ++ ((wN ca nd sd) ++ ((wC ca aT (nd 0) tsk tze tma tki tdn twi tdu the tyr tsz) ++ (wC ca aL (nd 0) lsk lze lma lki ldn lwi ldu lhe lyr lsz))))) [(0, .ref (aF 0)), (1, .int x1), (2, .int x2'), (3, .int x3')] []) : ∀ (n : Nat) (x2 : Int32) (x3 : Int32), wpl_X9_maker_40 tma  K n x2 x3 → J l D k 4 0 0 40 ((wD ca (aF 2) fd) ++ ((wF (aF 0) (aL 0) (aT 0) (aK 0) (tp 0) (aF 1) (aF 2) ik) ++ ((wN ca nd sd) ++ ((wC ca aT (nd 0) tsk tze tma tki tdn twi tdu the tyr tsz) ++ (wC ca aL (nd 0) lsk lze lma lki ldn lwi ldu lhe lyr lsz))))) [(0, .ref (aF 0)), (1, .int x1), (2, .int x2), (3, .int x3)] [] := by
  intro n
  induction n with
  | zero =>
    intro x2 x3 hw
    rw [wpl_X9_maker_40] at hw
    exact hw.elim
  | succ n ih =>
    intro x2 x3 hw
    rw [wpl_X9_maker_40] at hw
    refine j_iload_n C 3 dX9_maker_40 rfl ?_
    refine j_bipush C 6 dX9_maker_41 (by decide) ?_
    refine j_icmp_ge C 75 dX9_maker_43 (by decide) (fun z => ?_) (fun z => ?_)
    · replace hw := hw.1 z
      exact hK x2 x3 hw
    · replace hw := hw.2 z
      refine j_aload_n C 0 dX9_maker_46 rfl ?_
      refine j_get C fl_X9_50_9 1 dX9_maker_47 rfl rfl ?_
      refine j_get C fl_X9_101_2 9 dX9_maker_50 rfl rfl ?_
      refine j_iload_n C 3 dX9_maker_53 rfl ?_
      have hi4 := hw.1
      replace hw := hw.2
      refine j_iald C 12 dX9_maker_54 rfl hi4 ?_
      refine j_aload_n C 0 dX9_maker_55 rfl ?_
      refine j_get C fl_X9_50_9 1 dX9_maker_56 rfl rfl ?_
      refine j_get C fl_X9_101_2 9 dX9_maker_59 rfl rfl ?_
      refine j_iload_n C 2 dX9_maker_62 rfl ?_
      have hi5 := hw.1
      replace hw := hw.2
      refine j_iald C 12 dX9_maker_63 rfl hi5 ?_
      refine j_icmp_le C 69 dX9_maker_64 (by decide) (fun z => ?_) (fun z => ?_)
      · replace hw := hw.1 z
        refine j_iinc C 3 (x3 + 1) [(3, .int (x3 + 1)), (0, .ref (aF 0)), (1, .int x1), (2, .int x2)] dX9_maker_69 rfl rfl (by decide) rfl ?_
        refine j_goto C 40 dX9_maker_72 (by decide) ?_
        refine j_lsub [1, 2, 3, 0] [(0, .ref (aF 0)), (1, .int x1), (2, .int x2), (3, .int (x3 + 1))] rfl ?_
        exact ih x2 (x3 + 1) hw
      · replace hw := hw.2 z
        refine j_iload_n C 3 dX9_maker_67 rfl ?_
        refine j_istore_n C [(2, .int x3), (0, .ref (aF 0)), (1, .int x1), (3, .int x3)] dX9_maker_68 (by decide) rfl ?_
        refine j_iinc C 3 (x3 + 1) [(3, .int (x3 + 1)), (2, .int x3), (0, .ref (aF 0)), (1, .int x1)] dX9_maker_69 rfl rfl (by decide) rfl ?_
        refine j_goto C 40 dX9_maker_72 (by decide) ?_
        refine j_lsub [2, 3, 1, 0] [(0, .ref (aF 0)), (1, .int x1), (2, .int x3), (3, .int (x3 + 1))] rfl ?_
        exact ih x3 (x3 + 1) hw
set_option maxRecDepth 100000 in
set_option maxHeartbeats 8000000 in
theorem c_X9_maker {l : Launch} {D : va_G} {ca : Nat → ClassId} {sd : Nat → Nat}  (aF : Nat → Nat) (aL : Nat → Nat) (aT : Nat → Nat) (aK : Nat → Nat) (nd : Nat → Nat) (tp : Nat → Nat) (fd : Nat → Int32) (ik : Int32) (tsk : Nat → Int32) (tze : Nat → Int32) (tma : Nat → Int32) (tki : Nat → Int32) (tdn : Nat → Int32) (twi : Nat → Int32) (tdu : Nat → Int32) (the : Nat → Int32) (tyr : Int32) (tsz : Int32) (lsk : Nat → Int32) (lze : Nat → Int32) (lma : Nat → Int32) (lki : Nat → Int32) (ldn : Nat → Int32) (lwi : Nat → Int32) (ldu : Nat → Int32) (lhe : Nat → Int32) (lyr : Int32) (lsz : Int32)  (a1 : Int32)  {Q : (Int32) → (Nat → Int32) → (Nat → Int32) → (Nat → Int32) → (Nat → Int32) → (Nat → Int32) → (Nat → Int32) → (Nat → Int32) → (Nat → Int32) → (Nat → Int32) → (Int32) → (Int32) → Prop} (hw : wp_X9_maker fd tsk tze tma tki tdn twi tdu the tyr tsz lsk lze lma lki ldn lwi ldu lyr lsz  a1 Q) : Cn l D ca sd yX9_maker cX9_maker 4 (some .int) { frames := 8, cells := 0, slots := 0, locals := 203 } [.ref (aF 0), .int a1] ((wD ca (aF 2) fd) ++ ((wF (aF 0) (aL 0) (aT 0) (aK 0) (tp 0) (aF 1) (aF 2) ik) ++ ((wN ca nd sd) ++ ((wC ca aT (nd 0) tsk tze tma tki tdn twi tdu the tyr tsz) ++ (wC ca aL (nd 0) lsk lze lma lki ldn lwi ldu lhe lyr lsz))))) ((wD ca (aF 2) fd) ++ ((wF (aF 0) (aL 0) (aT 0) (aK 0) (tp 0) (aF 1) (aF 2) ik) ++ ((wN ca nd sd) ++ ((wC ca aT (nd 0) tsk tze tma tki tdn twi tdu the tyr tsz) ++ (wC ca aL (nd 0) lsk lze lma lki ldn lwi ldu lhe lyr lsz))))) 0 0 (Ri D (fun (r : Int32) (u : (Nat → Int32) × (Nat → Int32) × (Nat → Int32) × (Nat → Int32) × (Nat → Int32) × (Nat → Int32) × (Nat → Int32) × (Nat → Int32) × (Nat → Int32) × (Int32) × (Int32)) => Q r u.1 u.2.1 u.2.2.1 u.2.2.2.1 u.2.2.2.2.1 u.2.2.2.2.2.1 u.2.2.2.2.2.2.1 u.2.2.2.2.2.2.2.1 u.2.2.2.2.2.2.2.2.1 u.2.2.2.2.2.2.2.2.2.1 u.2.2.2.2.2.2.2.2.2.2) (fun u => ((wD ca (aF 2) u.1) ++ ((wF (aF 0) (aL 0) (aT 0) (aK 0) (tp 0) (aF 1) (aF 2) ik) ++ ((wN ca nd sd) ++ ((wC ca aT (nd 0) u.2.1 u.2.2.1 u.2.2.2.1 u.2.2.2.2.1 u.2.2.2.2.2.1 u.2.2.2.2.2.2.1 u.2.2.2.2.2.2.2.1 u.2.2.2.2.2.2.2.2.1 u.2.2.2.2.2.2.2.2.2.1 u.2.2.2.2.2.2.2.2.2.2) ++ (wC ca aL (nd 0) lsk lze lma lki ldn lwi ldu lhe lyr lsz))))))) := by
  refine cn_of (by decide) (Nat.le_of_ble_eq_true rfl) (fun k C hR hB _ => ?_)
  have C : Cx D ca sd cX9_maker RX9 (some .int) { frames := 8, cells := 0, slots := 0, locals := 203 } k 4 := C
  unfold wp_X9_maker at hw
  show J l D k 4 0 0 0 ((wD ca (aF 2) fd) ++ ((wF (aF 0) (aL 0) (aT 0) (aK 0) (tp 0) (aF 1) (aF 2) ik) ++ ((wN ca nd sd) ++ ((wC ca aT (nd 0) tsk tze tma tki tdn twi tdu the tyr tsz) ++ (wC ca aL (nd 0) lsk lze lma lki ldn lwi ldu lhe lyr lsz))))) [(0, .ref (aF 0)), (1, .int a1)] []
  refine j_iload_n C 1 dX9_maker_0 rfl ?_
  refine j_iconst C 0 dX9_maker_1 (by decide) ?_
  refine j_bipush C 100 dX9_maker_2 (by decide) ?_
  refine j_ciZ C (jr_S C lkS_X9_87 (c_X9_isWithin a1 0 100 hw) ⟨rfl, rfl, by decide, by decide, by decide, by decide⟩ [] (by decide) rfl (fx_ro C) rfl rfl (Nat.le_of_ble_eq_true rfl) dX9_maker_4) (fun r1 u1 hw => ?_)
  refine j_if_ne C 17 dX9_maker_7 (by decide) (fun z => ?_) (fun z => ?_)
  · replace hw := hw.2 z
    refine j_aload_n C 0 dX9_maker_17 rfl ?_
    refine j_get C fl_X9_50_9 1 dX9_maker_18 rfl rfl ?_
    refine j_aload_n C 0 dX9_maker_21 rfl ?_
    refine j_get C fl_X9_44_9 1 dX9_maker_22 rfl rfl ?_
    refine j_cvT C hB 9 27 (fun u2 : (Nat → Int32) × (Nat → Int32) × (Nat → Int32) × (Nat → Int32) × (Nat → Int32) × (Nat → Int32) × (Nat → Int32) × (Int32) × (Int32) => ((wD ca (aF 2) fd) ++ ((wF (aF 0) (aL 0) (aT 0) (aK 0) (tp 0) (aF 1) (aF 2) ik) ++ ((wN ca nd sd) ++ ((wC ca aT (nd 0) u2.1 u2.2.1 u2.2.2.1 u2.2.2.2.1 u2.2.2.2.2.1 u2.2.2.2.2.2.1 u2.2.2.2.2.2.2.1 the u2.2.2.2.2.2.2.2.1 u2.2.2.2.2.2.2.2.2) ++ (wC ca aL (nd 0) lsk lze lma lki ldn lwi ldu lhe lyr lsz)))))) rfl (fun _ => rfl) (jr_V C lkV_X9_200 (c_X2_become aT aL (nd 0) tsk tze tma tki tdn twi tdu the tyr tsz lsk lze lma lki ldn lwi ldu lhe lyr lsz hw) ⟨rfl, rfl, by decide, by decide, by decide, by decide⟩ [9, 10, 11, 12, 13, 14, 15, 16, 17, 18, 19, 20, 21, 22, 23, 24, 25, 26] rfl rfl (fx_rw C hB [9, 10, 11, 12, 13, 14, 15, 16, 17, 18, 19, 20, 21, 22, 23, 24, 25, 26] rfl) 9 2 rfl rfl rfl rfl (Nat.le_of_ble_eq_true rfl) dX9_maker_25) (fun u2 hw => ?_)
    refine j_aload_n C 0 dX9_maker_28 rfl ?_
    refine j_get C fl_X9_50_9 1 dX9_maker_29 rfl rfl ?_
    refine j_iload_n C 1 dX9_maker_32 rfl ?_
    refine j_cvT C hB 2 18 (fun u3 : (Nat → Int32) × (Nat → Int32) × (Nat → Int32) × (Nat → Int32) × (Nat → Int32) × (Nat → Int32) × (Int32) => ((wD ca (aF 2) fd) ++ ((wF (aF 0) (aL 0) (aT 0) (aK 0) (tp 0) (aF 1) (aF 2) ik) ++ ((wN ca nd sd) ++ ((wC ca aT (nd 0) u2.1 u3.1 u3.2.1 u2.2.2.2.1 u3.2.2.1 u3.2.2.2.1 u3.2.2.2.2.1 u3.2.2.2.2.2.1 u3.2.2.2.2.2.2 u2.2.2.2.2.2.2.2.2) ++ (wC ca aL (nd 0) lsk lze lma lki ldn lwi ldu lhe lyr lsz)))))) rfl (fun _ => rfl) (jr_V C lkV_X9_191 (c_X2_goYears nd aT u2.1 u2.2.1 u2.2.2.1 u2.2.2.2.1 u2.2.2.2.2.1 u2.2.2.2.2.2.1 u2.2.2.2.2.2.2.1 the u2.2.2.2.2.2.2.2.1 u2.2.2.2.2.2.2.2.2 a1 hw) ⟨rfl, rfl, by decide, by decide, by decide, by decide⟩ [2, 3, 4, 5, 6, 7, 8, 9, 10, 11, 12, 13, 14, 15, 16, 17] rfl rfl (fx_rw C hB [2, 3, 4, 5, 6, 7, 8, 9, 10, 11, 12, 13, 14, 15, 16, 17] rfl) 9 2 rfl rfl rfl rfl (Nat.le_of_ble_eq_true rfl) dX9_maker_33) (fun u3 hw => ?_)
    refine j_iconst C 0 dX9_maker_36 (by decide) ?_
    refine j_istore_n C [(2, .int 0), (0, .ref (aF 0)), (1, .int a1)] dX9_maker_37 (by decide) rfl ?_
    refine j_iconst C 1 dX9_maker_38 (by decide) ?_
    refine j_istore_n C [(3, .int 1), (2, .int 0), (0, .ref (aF 0)), (1, .int a1)] dX9_maker_39 (by decide) rfl ?_
    refine j_lsub [2, 3, 1, 0] [(0, .ref (aF 0)), (1, .int a1), (2, .int 0), (3, .int 1)] rfl ?_
    obtain ⟨n6, hw⟩ := hw
    refine ml_X9_maker_40 aF aL aT aK nd tp  fd ik u2.1 u3.1 u3.2.1 u2.2.2.2.1 u3.2.2.1 u3.2.2.2.1 u3.2.2.2.2.1 u3.2.2.2.2.2.1 u3.2.2.2.2.2.2 u2.2.2.2.2.2.2.2.2 lsk lze lma lki ldn lwi ldu lhe lyr lsz a1 C hR hB (fun y6_2 y6_3 hw => ?_) n6 0 1 hw
    refine j_iload_n C 2 dX9_maker_75 rfl ?_
    exact j_iret C hB hR (fd, u2.1, u3.1, u3.2.1, u2.2.2.2.1, u3.2.2.1, u3.2.2.2.1, u3.2.2.2.2.1, u3.2.2.2.2.2.1, u3.2.2.2.2.2.2, u2.2.2.2.2.2.2.2.2) rfl dX9_maker_76 hw rfl
  · replace hw := hw.1 z
    refine j_aload_n C 0 dX9_maker_10 rfl ?_
    refine j_ldc C dX9_maker_11 ct_X9_82 ?_
    refine j_ciT C hB 0 2 (fun u7 : (Nat → Int32) => ((wD ca (aF 2) u7) ++ ((wF (aF 0) (aL 0) (aT 0) (aK 0) (tp 0) (aF 1) (aF 2) ik) ++ ((wN ca nd sd) ++ ((wC ca aT (nd 0) tsk tze tma tki tdn twi tdu the tyr tsz) ++ (wC ca aL (nd 0) lsk lze lma lki ldn lwi ldu lhe lyr lsz)))))) rfl (fun _ => rfl) (jr_V C lkV_X9_83 (c_X9_found aF aL aT aK nd tp fd ik (-1000000001) hw) ⟨rfl, rfl, by decide, by decide, by decide, by decide⟩ [0, 1] (by decide) rfl (fx_rw C hB [0, 1] rfl) 1 9 rfl rfl rfl rfl (Nat.le_of_ble_eq_true rfl) dX9_maker_13) (fun r7 u7 hw => ?_)
    exact j_iret C hB hR (u7, tsk, tze, tma, tki, tdn, twi, tdu, the, tyr, tsz) rfl dX9_maker_16 hw rfl
def wpl_X9_drop_24 (lsk : Nat → Int32) (lze : Nat → Int32) (lma : Nat → Int32) (lki : Nat → Int32) (ldn : Nat → Int32) (lwi : Nat → Int32) (ldu : Nat → Int32) (lyr : Int32) (lsz : Int32) (x1 : Int32) (K : (Int32) → (Int32) → (Int32) → (Nat → Int32) → (Nat → Int32) → (Nat → Int32) → (Nat → Int32) → (Nat → Int32) → (Nat → Int32) → (Nat → Int32) → (Nat → Int32) → (Int32) → (Int32) → Prop) : Nat → (Int32) → (Int32) → (Int32) → (Nat → Int32) → (Nat → Int32) → (Nat → Int32) → (Nat → Int32) → (Nat → Int32) → (Nat → Int32) → (Nat → Int32) → (Nat → Int32) → (Int32) → (Int32) → Prop
  | 0, _, _, _, _, _, _, _, _, _, _, _, _, _ => False
  | n + 1, x2, x3, x4, tsk, tze, tma, tki, tdn, twi, tdu, the, tyr, tsz => (lsz ≤ x4 → K x2 x3 x4 tsk tze tma tki tdn twi tdu the tyr tsz) ∧ (¬ (lsz ≤ x4) → wp_X2_canBeLeft ldn lwi x4 (fun r2 => (r2 = 0 → wpl_X9_drop_24 lsk lze lma lki ldn lwi ldu lyr lsz x1  K n x2 x3 (x4 + 1) tsk tze tma tki tdn twi tdu the tyr tsz) ∧ (¬ (r2 = 0) → wp_X2_become tsk tze tma tki tdn twi tdu lsk lze lma lki ldn lwi ldu lyr lsz (fun c3_0 c3_1 c3_2 c3_3 c3_4 c3_5 c3_6 c3_7 c3_8 => wp_X2_letGo c3_1 c3_5 c3_6 x4 (fun c4_0 c4_1 c4_2 => wp_X2_goYears c3_0 c4_0 c3_2 c3_3 c3_4 c4_1 c4_2 the c3_7 c3_8 x1 (fun c5_0 c5_1 c5_2 c5_3 c5_4 c5_5 c5_6 => wp_X2_doneOfAll c5_2 c3_8 (fun r6 => (r6 ≤ x3 → wpl_X9_drop_24 lsk lze lma lki ldn lwi ldu lyr lsz x1  K n x2 x3 (x4 + 1) c3_0 c5_0 c5_1 c3_3 c5_2 c5_3 c5_4 c5_5 c5_6 c3_8) ∧ (¬ (r6 ≤ x3) → wpl_X9_drop_24 lsk lze lma lki ldn lwi ldu lyr lsz x1  K n x4 r6 (x4 + 1) c3_0 c5_0 c5_1 c3_3 c5_2 c5_3 c5_4 c5_5 c5_6 c3_8))))))))
def wp_X9_drop (fd : Nat → Int32) (tsk : Nat → Int32) (tze : Nat → Int32) (tma : Nat → Int32) (tki : Nat → Int32) (tdn : Nat → Int32) (twi : Nat → Int32) (tdu : Nat → Int32) (the : Nat → Int32) (tyr : Int32) (tsz : Int32) (lsk : Nat → Int32) (lze : Nat → Int32) (lma : Nat → Int32) (lki : Nat → Int32) (ldn : Nat → Int32) (lwi : Nat → Int32) (ldu : Nat → Int32) (lyr : Int32) (lsz : Int32)  (a1 : Int32) (Q : (Int32) → (Nat → Int32) → (Nat → Int32) → (Nat → Int32) → (Nat → Int32) → (Nat → Int32) → (Nat → Int32) → (Nat → Int32) → (Nat → Int32) → (Nat → Int32) → (Int32) → (Int32) → Prop) : Prop := wp_X9_isWithin a1 1 30 (fun r1 => (r1 = 0 → wp_X9_found fd (-1000000001) (fun r9 c9_0 => Q r9 c9_0 tsk tze tma tki tdn twi tdu the tyr tsz)) ∧ (¬ (r1 = 0) → ∃ n7 : Nat, wpl_X9_drop_24 lsk lze lma lki ldn lwi ldu lyr lsz a1  (fun y7_2 y7_3 y7_4 y7_tsk y7_tze y7_tma y7_tki y7_tdn y7_twi y7_tdu y7_the y7_tyr y7_tsz => (0 ≤ y7_2 → Q y7_2 fd y7_tsk y7_tze y7_tma y7_tki y7_tdn y7_twi y7_tdu y7_the y7_tyr y7_tsz) ∧ (¬ (0 ≤ y7_2) → wp_X9_found fd (-1000000004) (fun r8 c8_0 => Q r8 c8_0 y7_tsk y7_tze y7_tma y7_tki y7_tdn y7_twi y7_tdu y7_the y7_tyr y7_tsz))) n7 (-1) (-1) 0 tsk tze tma tki tdn twi tdu the tyr tsz))
set_option maxRecDepth 100000 in
set_option maxHeartbeats 8000000 in
theorem ml_X9_drop_24 {l : Launch} {D : va_G} {ca : Nat → ClassId} {sd : Nat → Nat}  {k : Kx} (aF : Nat → Nat) (aL : Nat → Nat) (aT : Nat → Nat) (aK : Nat → Nat) (nd : Nat → Nat) (tp : Nat → Nat)  (fd : Nat → Int32) (ik : Int32) (lsk : Nat → Int32) (lze : Nat → Int32) (lma : Nat → Int32) (lki : Nat → Int32) (ldn : Nat → Int32) (lwi : Nat → Int32) (ldu : Nat → Int32) (lhe : Nat → Int32) (lyr : Int32) (lsz : Int32) (x1 : Int32) (C : Cx D ca sd cX9_drop RX9 (some .int) { frames := 8, cells := 0, slots := 0, locals := 203 } k 6) {Q : (Int32) → (Nat → Int32) → (Nat → Int32) → (Nat → Int32) → (Nat → Int32) → (Nat → Int32) → (Nat → Int32) → (Nat → Int32) → (Nat → Int32) → (Nat → Int32) → (Int32) → (Int32) → Prop} (hR : Rx (Ri D (fun (r : Int32) (u : (Nat → Int32) × (Nat → Int32) × (Nat → Int32) × (Nat → Int32) × (Nat → Int32) × (Nat → Int32) × (Nat → Int32) × (Nat → Int32) × (Nat → Int32) × (Int32) × (Int32)) => Q r u.1 u.2.1 u.2.2.1 u.2.2.2.1 u.2.2.2.2.1 u.2.2.2.2.2.1 u.2.2.2.2.2.2.1 u.2.2.2.2.2.2.2.1 u.2.2.2.2.2.2.2.2.1 u.2.2.2.2.2.2.2.2.2.1 u.2.2.2.2.2.2.2.2.2.2) (fun u => ((wD ca (aF 2) u.1) ++ ((wF (aF 0) (aL 0) (aT 0) (aK 0) (tp 0) (aF 1) (aF 2) ik) ++ ((wN ca nd sd) ++ ((wC ca aT (nd 0) u.2.1 u.2.2.1 u.2.2.2.1 u.2.2.2.2.1 u.2.2.2.2.2.1 u.2.2.2.2.2.2.1 u.2.2.2.2.2.2.2.1 u.2.2.2.2.2.2.2.2.1 u.2.2.2.2.2.2.2.2.2.1 u.2.2.2.2.2.2.2.2.2.2) ++ (wC ca aL (nd 0) lsk lze lma lki ldn lwi ldu lhe lyr lsz))))))) 0 0 k) (hB : Wx k) {K : (Int32) → (Int32) → (Int32) → (Nat → Int32) → (Nat → Int32) → (Nat → Int32) → (Nat → Int32) → (Nat → Int32) → (Nat → Int32) → (Nat → Int32) → (Nat → Int32) → (Int32) → (Int32) → Prop} (hK : ∀ (x2' : Int32) (x3' : Int32) (x4' : Int32) (tsk' : Nat → Int32) (tze' : Nat → Int32) (tma' : Nat → Int32) (tki' : Nat → Int32) (tdn' : Nat → Int32) (twi' : Nat → Int32) (tdu' : Nat → Int32) (the' : Nat → Int32) (tyr' : Int32) (tsz' : Int32), K x2' x3' x4' tsk' tze' tma' tki' tdn' twi' tdu' the' tyr' tsz' → J l D k 6 0 0 103 ((wD ca (aF 2) fd) ++ ((wF (aF 0) (aL 0) (aT 0) (aK 0) (tp 0) (aF 1) (aF 2) ik) ++ ((wN ca nd sd) ++ ((wC ca aT (nd 0) tsk' tze' tma' tki' tdn' twi' tdu' the' tyr' tsz') ++ (wC ca aL (nd 0) lsk lze lma lki ldn lwi ldu lhe lyr lsz))))) [(0, .ref (aF 0)), (1, .int x1), (2, .int x2'), (3, .int x3'), (4, .int x4')] []) : ∀ (n : Nat) (x2 : Int32) (x3 : Int32) (x4 : Int32) (tsk : Nat → Int32) (tze : Nat → Int32) (tma : Nat → Int32) (tki : Nat → Int32) (tdn : Nat → Int32) (twi : Nat → Int32) (tdu : Nat → Int32) (the : Nat → Int32) (tyr : Int32) (tsz : Int32), wpl_X9_drop_24 lsk lze lma lki ldn lwi ldu lyr lsz x1  K n x2 x3 x4 tsk tze tma tki tdn twi tdu the tyr tsz → J l D k 6 0 0 24 ((wD ca (aF 2) fd) ++ ((wF (aF 0) (aL 0) (aT 0) (aK 0) (tp 0) (aF 1) (aF 2) ik) ++ ((wN ca nd sd) ++ ((wC ca aT (nd 0) tsk tze tma tki tdn twi tdu the tyr tsz) ++ (wC ca aL (nd 0) lsk lze lma lki ldn lwi ldu lhe lyr lsz))))) [(0, .ref (aF 0)), (1, .int x1), (2, .int x2), (3, .int x3), (4, .int x4)] [] := by
  intro n
  induction n with
  | zero =>
    intro x2 x3 x4 tsk tze tma tki tdn twi tdu the tyr tsz hw
    rw [wpl_X9_drop_24] at hw
    exact hw.elim
  | succ n ih =>
    intro x2 x3 x4 tsk tze tma tki tdn twi tdu the tyr tsz hw
    rw [wpl_X9_drop_24] at hw
    refine j_iload C 4 dX9_drop_24 rfl ?_
    refine j_aload_n C 0 dX9_drop_26 rfl ?_
    refine j_get C fl_X9_44_9 1 dX9_drop_27 rfl rfl ?_
    refine j_get C fl_X9_124_2 18 dX9_drop_30 rfl rfl ?_
    refine j_icmp_ge C 103 dX9_drop_33 (by decide) (fun z => ?_) (fun z => ?_)
    · replace hw := hw.1 z
      exact hK x2 x3 x4 tsk tze tma tki tdn twi tdu the tyr tsz hw
    · replace hw := hw.2 z
      refine j_aload_n C 0 dX9_drop_36 rfl ?_
      refine j_get C fl_X9_44_9 1 dX9_drop_37 rfl rfl ?_
      refine j_iload C 4 dX9_drop_40 rfl ?_
      refine j_ciZ C (jr_V C lkV_X9_170 (c_X2_canBeLeft aL (nd 0) lsk lze lma lki ldn lwi ldu lhe lyr lsz x4 hw) ⟨rfl, rfl, by decide, by decide, by decide, by decide⟩ [18, 19, 20, 21, 22, 23, 24, 25, 26] (by decide) rfl (fx_ro C) 18 2 rfl rfl rfl rfl (Nat.le_of_ble_eq_true rfl) dX9_drop_42) (fun r2 u2 hw => ?_)
      refine j_if_eq C 97 dX9_drop_45 (by decide) (fun z => ?_) (fun z => ?_)
      · replace hw := hw.1 z
        refine j_iinc C 4 (x4 + 1) [(4, .int (x4 + 1)), (0, .ref (aF 0)), (1, .int x1), (2, .int x2), (3, .int x3)] dX9_drop_97 rfl rfl (by decide) rfl ?_
        refine j_goto C 24 dX9_drop_100 (by decide) ?_
        refine j_lsub [1, 2, 3, 4, 0] [(0, .ref (aF 0)), (1, .int x1), (2, .int x2), (3, .int x3), (4, .int (x4 + 1))] rfl ?_
        exact ih x2 x3 (x4 + 1) tsk tze tma tki tdn twi tdu the tyr tsz hw
      · replace hw := hw.2 z
        refine j_aload_n C 0 dX9_drop_48 rfl ?_
        refine j_get C fl_X9_50_9 1 dX9_drop_49 rfl rfl ?_
        refine j_aload_n C 0 dX9_drop_52 rfl ?_
        refine j_get C fl_X9_44_9 1 dX9_drop_53 rfl rfl ?_
        refine j_cvT C hB 9 27 (fun u3 : (Nat → Int32) × (Nat → Int32) × (Nat → Int32) × (Nat → Int32) × (Nat → Int32) × (Nat → Int32) × (Nat → Int32) × (Int32) × (Int32) => ((wD ca (aF 2) fd) ++ ((wF (aF 0) (aL 0) (aT 0) (aK 0) (tp 0) (aF 1) (aF 2) ik) ++ ((wN ca nd sd) ++ ((wC ca aT (nd 0) u3.1 u3.2.1 u3.2.2.1 u3.2.2.2.1 u3.2.2.2.2.1 u3.2.2.2.2.2.1 u3.2.2.2.2.2.2.1 the u3.2.2.2.2.2.2.2.1 u3.2.2.2.2.2.2.2.2) ++ (wC ca aL (nd 0) lsk lze lma lki ldn lwi ldu lhe lyr lsz)))))) rfl (fun _ => rfl) (jr_V C lkV_X9_200 (c_X2_become aT aL (nd 0) tsk tze tma tki tdn twi tdu the tyr tsz lsk lze lma lki ldn lwi ldu lhe lyr lsz hw) ⟨rfl, rfl, by decide, by decide, by decide, by decide⟩ [9, 10, 11, 12, 13, 14, 15, 16, 17, 18, 19, 20, 21, 22, 23, 24, 25, 26] rfl rfl (fx_rw C hB [9, 10, 11, 12, 13, 14, 15, 16, 17, 18, 19, 20, 21, 22, 23, 24, 25, 26] rfl) 9 2 rfl rfl rfl rfl (Nat.le_of_ble_eq_true rfl) dX9_drop_56) (fun u3 hw => ?_)
        refine j_aload_n C 0 dX9_drop_59 rfl ?_
        refine j_get C fl_X9_50_9 1 dX9_drop_60 rfl rfl ?_
        refine j_iload C 4 dX9_drop_63 rfl ?_
        refine j_cvT C hB 9 18 (fun u4 : (Nat → Int32) × (Nat → Int32) × (Nat → Int32) => ((wD ca (aF 2) fd) ++ ((wF (aF 0) (aL 0) (aT 0) (aK 0) (tp 0) (aF 1) (aF 2) ik) ++ ((wN ca nd sd) ++ ((wC ca aT (nd 0) u3.1 u4.1 u3.2.2.1 u3.2.2.2.1 u3.2.2.2.2.1 u4.2.1 u4.2.2 the u3.2.2.2.2.2.2.2.1 u3.2.2.2.2.2.2.2.2) ++ (wC ca aL (nd 0) lsk lze lma lki ldn lwi ldu lhe lyr lsz)))))) rfl (fun _ => rfl) (jr_V C lkV_X9_174 (c_X2_letGo aT (nd 0) u3.1 u3.2.1 u3.2.2.1 u3.2.2.2.1 u3.2.2.2.2.1 u3.2.2.2.2.2.1 u3.2.2.2.2.2.2.1 the u3.2.2.2.2.2.2.2.1 u3.2.2.2.2.2.2.2.2 x4 hw) ⟨rfl, rfl, by decide, by decide, by decide, by decide⟩ [9, 10, 11, 12, 13, 14, 15, 16, 17] (by decide) rfl (fx_rw C hB [9, 10, 11, 12, 13, 14, 15, 16, 17] rfl) 9 2 rfl rfl rfl rfl (Nat.le_of_ble_eq_true rfl) dX9_drop_65) (fun u4 hw => ?_)
        refine j_aload_n C 0 dX9_drop_68 rfl ?_
        refine j_get C fl_X9_50_9 1 dX9_drop_69 rfl rfl ?_
        refine j_iload_n C 1 dX9_drop_72 rfl ?_
        refine j_cvT C hB 2 18 (fun u5 : (Nat → Int32) × (Nat → Int32) × (Nat → Int32) × (Nat → Int32) × (Nat → Int32) × (Nat → Int32) × (Int32) => ((wD ca (aF 2) fd) ++ ((wF (aF 0) (aL 0) (aT 0) (aK 0) (tp 0) (aF 1) (aF 2) ik) ++ ((wN ca nd sd) ++ ((wC ca aT (nd 0) u3.1 u5.1 u5.2.1 u3.2.2.2.1 u5.2.2.1 u5.2.2.2.1 u5.2.2.2.2.1 u5.2.2.2.2.2.1 u5.2.2.2.2.2.2 u3.2.2.2.2.2.2.2.2) ++ (wC ca aL (nd 0) lsk lze lma lki ldn lwi ldu lhe lyr lsz)))))) rfl (fun _ => rfl) (jr_V C lkV_X9_191 (c_X2_goYears nd aT u3.1 u4.1 u3.2.2.1 u3.2.2.2.1 u3.2.2.2.2.1 u4.2.1 u4.2.2 the u3.2.2.2.2.2.2.2.1 u3.2.2.2.2.2.2.2.2 x1 hw) ⟨rfl, rfl, by decide, by decide, by decide, by decide⟩ [2, 3, 4, 5, 6, 7, 8, 9, 10, 11, 12, 13, 14, 15, 16, 17] rfl rfl (fx_rw C hB [2, 3, 4, 5, 6, 7, 8, 9, 10, 11, 12, 13, 14, 15, 16, 17] rfl) 9 2 rfl rfl rfl rfl (Nat.le_of_ble_eq_true rfl) dX9_drop_73) (fun u5 hw => ?_)
        refine j_aload_n C 0 dX9_drop_76 rfl ?_
        refine j_get C fl_X9_50_9 1 dX9_drop_77 rfl rfl ?_
        refine j_ciZ C (jr_V C lkV_X9_194 (c_X2_doneOfAll aT (nd 0) u3.1 u5.1 u5.2.1 u3.2.2.2.1 u5.2.2.1 u5.2.2.2.1 u5.2.2.2.2.1 u5.2.2.2.2.2.1 u5.2.2.2.2.2.2 u3.2.2.2.2.2.2.2.2 hw) ⟨rfl, rfl, by decide, by decide, by decide, by decide⟩ [9, 10, 11, 12, 13, 14, 15, 16, 17] (by decide) rfl (fx_ro C) 9 2 rfl rfl rfl rfl (Nat.le_of_ble_eq_true rfl) dX9_drop_80) (fun r6 u6 hw => ?_)
        refine j_istore C [(5, .int r6), (0, .ref (aF 0)), (1, .int x1), (2, .int x2), (3, .int x3), (4, .int x4)] dX9_drop_83 (by decide) rfl ?_
        refine j_iload C 0 dX9_drop_85 rfl ?_
        refine j_iload_n C 4 dX9_drop_87 rfl ?_
        refine j_icmp_le C 97 dX9_drop_88 (by decide) (fun z => ?_) (fun z => ?_)
        · replace hw := hw.1 z
          refine j_iinc C 5 (x4 + 1) [(4, .int (x4 + 1)), (5, .int r6), (0, .ref (aF 0)), (1, .int x1), (2, .int x2), (3, .int x3)] dX9_drop_97 rfl rfl (by decide) rfl ?_
          refine j_goto C 24 dX9_drop_100 (by decide) ?_
          refine j_lsub [2, 3, 4, 5, 0] [(0, .ref (aF 0)), (1, .int x1), (2, .int x2), (3, .int x3), (4, .int (x4 + 1))] rfl ?_
          exact ih x2 x3 (x4 + 1) u3.1 u5.1 u5.2.1 u3.2.2.2.1 u5.2.2.1 u5.2.2.2.1 u5.2.2.2.2.1 u5.2.2.2.2.2.1 u5.2.2.2.2.2.2 u3.2.2.2.2.2.2.2.2 hw
        · replace hw := hw.2 z
          refine j_iload C 5 dX9_drop_91 rfl ?_
          refine j_istore_n C [(2, .int x4), (5, .int r6), (0, .ref (aF 0)), (1, .int x1), (3, .int x3), (4, .int x4)] dX9_drop_93 (by decide) rfl ?_
          refine j_iload C 1 dX9_drop_94 rfl ?_
          refine j_istore_n C [(3, .int r6), (2, .int x4), (5, .int r6), (0, .ref (aF 0)), (1, .int x1), (4, .int x4)] dX9_drop_96 (by decide) rfl ?_
          refine j_iinc C 5 (x4 + 1) [(4, .int (x4 + 1)), (3, .int r6), (2, .int x4), (5, .int r6), (0, .ref (aF 0)), (1, .int x1)] dX9_drop_97 rfl rfl (by decide) rfl ?_
          refine j_goto C 24 dX9_drop_100 (by decide) ?_
          refine j_lsub [4, 5, 2, 1, 0] [(0, .ref (aF 0)), (1, .int x1), (2, .int x4), (3, .int r6), (4, .int (x4 + 1))] rfl ?_
          exact ih x4 r6 (x4 + 1) u3.1 u5.1 u5.2.1 u3.2.2.2.1 u5.2.2.1 u5.2.2.2.1 u5.2.2.2.2.1 u5.2.2.2.2.2.1 u5.2.2.2.2.2.2 u3.2.2.2.2.2.2.2.2 hw
set_option maxRecDepth 100000 in
set_option maxHeartbeats 8000000 in
theorem c_X9_drop {l : Launch} {D : va_G} {ca : Nat → ClassId} {sd : Nat → Nat}  (aF : Nat → Nat) (aL : Nat → Nat) (aT : Nat → Nat) (aK : Nat → Nat) (nd : Nat → Nat) (tp : Nat → Nat) (fd : Nat → Int32) (ik : Int32) (tsk : Nat → Int32) (tze : Nat → Int32) (tma : Nat → Int32) (tki : Nat → Int32) (tdn : Nat → Int32) (twi : Nat → Int32) (tdu : Nat → Int32) (the : Nat → Int32) (tyr : Int32) (tsz : Int32) (lsk : Nat → Int32) (lze : Nat → Int32) (lma : Nat → Int32) (lki : Nat → Int32) (ldn : Nat → Int32) (lwi : Nat → Int32) (ldu : Nat → Int32) (lhe : Nat → Int32) (lyr : Int32) (lsz : Int32)  (a1 : Int32)  {Q : (Int32) → (Nat → Int32) → (Nat → Int32) → (Nat → Int32) → (Nat → Int32) → (Nat → Int32) → (Nat → Int32) → (Nat → Int32) → (Nat → Int32) → (Nat → Int32) → (Int32) → (Int32) → Prop} (hw : wp_X9_drop fd tsk tze tma tki tdn twi tdu the tyr tsz lsk lze lma lki ldn lwi ldu lyr lsz  a1 Q) : Cn l D ca sd yX9_drop cX9_drop 6 (some .int) { frames := 8, cells := 0, slots := 0, locals := 203 } [.ref (aF 0), .int a1] ((wD ca (aF 2) fd) ++ ((wF (aF 0) (aL 0) (aT 0) (aK 0) (tp 0) (aF 1) (aF 2) ik) ++ ((wN ca nd sd) ++ ((wC ca aT (nd 0) tsk tze tma tki tdn twi tdu the tyr tsz) ++ (wC ca aL (nd 0) lsk lze lma lki ldn lwi ldu lhe lyr lsz))))) ((wD ca (aF 2) fd) ++ ((wF (aF 0) (aL 0) (aT 0) (aK 0) (tp 0) (aF 1) (aF 2) ik) ++ ((wN ca nd sd) ++ ((wC ca aT (nd 0) tsk tze tma tki tdn twi tdu the tyr tsz) ++ (wC ca aL (nd 0) lsk lze lma lki ldn lwi ldu lhe lyr lsz))))) 0 0 (Ri D (fun (r : Int32) (u : (Nat → Int32) × (Nat → Int32) × (Nat → Int32) × (Nat → Int32) × (Nat → Int32) × (Nat → Int32) × (Nat → Int32) × (Nat → Int32) × (Nat → Int32) × (Int32) × (Int32)) => Q r u.1 u.2.1 u.2.2.1 u.2.2.2.1 u.2.2.2.2.1 u.2.2.2.2.2.1 u.2.2.2.2.2.2.1 u.2.2.2.2.2.2.2.1 u.2.2.2.2.2.2.2.2.1 u.2.2.2.2.2.2.2.2.2.1 u.2.2.2.2.2.2.2.2.2.2) (fun u => ((wD ca (aF 2) u.1) ++ ((wF (aF 0) (aL 0) (aT 0) (aK 0) (tp 0) (aF 1) (aF 2) ik) ++ ((wN ca nd sd) ++ ((wC ca aT (nd 0) u.2.1 u.2.2.1 u.2.2.2.1 u.2.2.2.2.1 u.2.2.2.2.2.1 u.2.2.2.2.2.2.1 u.2.2.2.2.2.2.2.1 u.2.2.2.2.2.2.2.2.1 u.2.2.2.2.2.2.2.2.2.1 u.2.2.2.2.2.2.2.2.2.2) ++ (wC ca aL (nd 0) lsk lze lma lki ldn lwi ldu lhe lyr lsz))))))) := by
  refine cn_of (by decide) (Nat.le_of_ble_eq_true rfl) (fun k C hR hB _ => ?_)
  have C : Cx D ca sd cX9_drop RX9 (some .int) { frames := 8, cells := 0, slots := 0, locals := 203 } k 6 := C
  unfold wp_X9_drop at hw
  show J l D k 6 0 0 0 ((wD ca (aF 2) fd) ++ ((wF (aF 0) (aL 0) (aT 0) (aK 0) (tp 0) (aF 1) (aF 2) ik) ++ ((wN ca nd sd) ++ ((wC ca aT (nd 0) tsk tze tma tki tdn twi tdu the tyr tsz) ++ (wC ca aL (nd 0) lsk lze lma lki ldn lwi ldu lhe lyr lsz))))) [(0, .ref (aF 0)), (1, .int a1)] []
  refine j_iload_n C 1 dX9_drop_0 rfl ?_
  refine j_iconst C 1 dX9_drop_1 (by decide) ?_
  refine j_bipush C 30 dX9_drop_2 (by decide) ?_
  refine j_ciZ C (jr_S C lkS_X9_87 (c_X9_isWithin a1 1 30 hw) ⟨rfl, rfl, by decide, by decide, by decide, by decide⟩ [] (by decide) rfl (fx_ro C) rfl rfl (Nat.le_of_ble_eq_true rfl) dX9_drop_4) (fun r1 u1 hw => ?_)
  refine j_if_ne C 17 dX9_drop_7 (by decide) (fun z => ?_) (fun z => ?_)
  · replace hw := hw.2 z
    refine j_iconst C (-1) dX9_drop_17 (by decide) ?_
    refine j_istore_n C [(2, .int (-1)), (0, .ref (aF 0)), (1, .int a1)] dX9_drop_18 (by decide) rfl ?_
    refine j_iconst C (-1) dX9_drop_19 (by decide) ?_
    refine j_istore_n C [(3, .int (-1)), (2, .int (-1)), (0, .ref (aF 0)), (1, .int a1)] dX9_drop_20 (by decide) rfl ?_
    refine j_iconst C 0 dX9_drop_21 (by decide) ?_
    refine j_istore C [(4, .int 0), (3, .int (-1)), (2, .int (-1)), (0, .ref (aF 0)), (1, .int a1)] dX9_drop_22 (by decide) rfl ?_
    refine j_lsub [3, 4, 2, 1, 0] [(0, .ref (aF 0)), (1, .int a1), (2, .int (-1)), (3, .int (-1)), (4, .int 0)] rfl ?_
    obtain ⟨n7, hw⟩ := hw
    refine ml_X9_drop_24 aF aL aT aK nd tp  fd ik lsk lze lma lki ldn lwi ldu lhe lyr lsz a1 C hR hB (fun y7_2 y7_3 y7_4 y7_tsk y7_tze y7_tma y7_tki y7_tdn y7_twi y7_tdu y7_the y7_tyr y7_tsz hw => ?_) n7 (-1) (-1) 0 tsk tze tma tki tdn twi tdu the tyr tsz hw
    refine j_iload_n C 2 dX9_drop_103 rfl ?_
    refine j_if_ge C 116 dX9_drop_104 (by decide) (fun z => ?_) (fun z => ?_)
    · replace hw := hw.1 z
      refine j_iload_n C 2 dX9_drop_116 rfl ?_
      exact j_iret C hB hR (fd, y7_tsk, y7_tze, y7_tma, y7_tki, y7_tdn, y7_twi, y7_tdu, y7_the, y7_tyr, y7_tsz) rfl dX9_drop_117 hw rfl
    · replace hw := hw.2 z
      refine j_aload_n C 0 dX9_drop_107 rfl ?_
      refine j_ldc C dX9_drop_108 ct_X9_187 ?_
      refine j_ciT C hB 0 2 (fun u8 : (Nat → Int32) => ((wD ca (aF 2) u8) ++ ((wF (aF 0) (aL 0) (aT 0) (aK 0) (tp 0) (aF 1) (aF 2) ik) ++ ((wN ca nd sd) ++ ((wC ca aT (nd 0) y7_tsk y7_tze y7_tma y7_tki y7_tdn y7_twi y7_tdu y7_the y7_tyr y7_tsz) ++ (wC ca aL (nd 0) lsk lze lma lki ldn lwi ldu lhe lyr lsz)))))) rfl (fun _ => rfl) (jr_V C lkV_X9_83 (c_X9_found aF aL aT aK nd tp fd ik (-1000000004) hw) ⟨rfl, rfl, by decide, by decide, by decide, by decide⟩ [0, 1] (by decide) rfl (fx_rw C hB [0, 1] rfl) 1 9 rfl rfl rfl rfl (Nat.le_of_ble_eq_true rfl) dX9_drop_110) (fun r8 u8 hw => ?_)
      refine j_goto C 117 dX9_drop_113 (by decide) ?_
      exact j_iret C hB hR (u8, y7_tsk, y7_tze, y7_tma, y7_tki, y7_tdn, y7_twi, y7_tdu, y7_the, y7_tyr, y7_tsz) rfl dX9_drop_117 hw rfl
  · replace hw := hw.1 z
    refine j_aload_n C 0 dX9_drop_10 rfl ?_
    refine j_ldc C dX9_drop_11 ct_X9_82 ?_
    refine j_ciT C hB 0 2 (fun u9 : (Nat → Int32) => ((wD ca (aF 2) u9) ++ ((wF (aF 0) (aL 0) (aT 0) (aK 0) (tp 0) (aF 1) (aF 2) ik) ++ ((wN ca nd sd) ++ ((wC ca aT (nd 0) tsk tze tma tki tdn twi tdu the tyr tsz) ++ (wC ca aL (nd 0) lsk lze lma lki ldn lwi ldu lhe lyr lsz)))))) rfl (fun _ => rfl) (jr_V C lkV_X9_83 (c_X9_found aF aL aT aK nd tp fd ik (-1000000001) hw) ⟨rfl, rfl, by decide, by decide, by decide, by decide⟩ [0, 1] (by decide) rfl (fx_rw C hB [0, 1] rfl) 1 9 rfl rfl rfl rfl (Nat.le_of_ble_eq_true rfl) dX9_drop_13) (fun r9 u9 hw => ?_)
    exact j_iret C hB hR (u9, tsk, tze, tma, tki, tdn, twi, tdu, the, tyr, tsz) rfl dX9_drop_16 hw rfl
