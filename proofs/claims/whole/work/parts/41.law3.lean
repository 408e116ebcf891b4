theorem ct_L_125 : Cond.constantLong RL 125 4294967295 ∈ TB := (tb_t 1135 (by decide +kernel) rfl)
theorem lkV_L_109 : LkV RL 109 RX9 yX9_feed cX9_feed 3 (some .int) 2 := ⟨(tb_t 529 (by decide +kernel) rfl), (tb_t 530 (by decide +kernel) rfl), (tb_t 531 (by decide +kernel) rfl), (tb_t 1 (by decide +kernel) rfl), (tb_t 532 (by decide +kernel) rfl), rfl, by decide, by decide, by decide +kernel⟩
theorem lkV_L_112 : LkV RL 112 RX10 yX10_feed cX10_feed 4 (some .int) 2 := ⟨(tb_t 1009 (by decide +kernel) rfl), (tb_t 1010 (by decide +kernel) rfl), (tb_t 1011 (by decide +kernel) rfl), (tb_t 12 (by decide +kernel) rfl), (tb_t 1012 (by decide +kernel) rfl), rfl, by decide, by decide, by decide +kernel⟩
theorem lkV_L_113 : LkV RL 113 RX9 yX9_wipe cX9_wipe 2 (some .int) 0 := ⟨(tb_t 541 (by decide +kernel) rfl), (tb_t 542 (by decide +kernel) rfl), (tb_t 543 (by decide +kernel) rfl), (tb_t 1 (by decide +kernel) rfl), (tb_t 544 (by decide +kernel) rfl), rfl, by decide, by decide, by decide +kernel⟩
theorem lkV_L_116 : LkV RL 116 RX10 yX10_wipe cX10_wipe 2 (some .int) 0 := ⟨(tb_t 1013 (by decide +kernel) rfl), (tb_t 1014 (by decide +kernel) rfl), (tb_t 1015 (by decide +kernel) rfl), (tb_t 12 (by decide +kernel) rfl), (tb_t 1016 (by decide +kernel) rfl), rfl, by decide, by decide, by decide +kernel⟩
theorem lkV_L_117 : LkV RL 117 RX9 yX9_common cX9_common 2 (some .int) 0 := ⟨(tb_t 545 (by decide +kernel) rfl), (tb_t 546 (by decide +kernel) rfl), (tb_t 547 (by decide +kernel) rfl), (tb_t 1 (by decide +kernel) rfl), (tb_t 548 (by decide +kernel) rfl), rfl, by decide, by decide, by decide +kernel⟩
theorem lkV_L_120 : LkV RL 120 RX10 yX10_common cX10_common 2 (some .int) 0 := ⟨(tb_t 1017 (by decide +kernel) rfl), (tb_t 1018 (by decide +kernel) rfl), (tb_t 1019 (by decide +kernel) rfl), (tb_t 12 (by decide +kernel) rfl), (tb_t 1020 (by decide +kernel) rfl), rfl, by decide, by decide, by decide +kernel⟩
theorem lkV_L_121 : LkV RL 121 RX9 yX9_sheet cX9_sheet 4 (some .int) 3 := ⟨(tb_t 643 (by decide +kernel) rfl), (tb_t 644 (by decide +kernel) rfl), (tb_t 645 (by decide +kernel) rfl), (tb_t 1 (by decide +kernel) rfl), (tb_t 646 (by decide +kernel) rfl), rfl, by decide, by decide, by decide +kernel⟩
theorem lkV_L_124 : LkV RL 124 RX10 yX10_sheet cX10_sheet 5 (some .int) 3 := ⟨(tb_t 1063 (by decide +kernel) rfl), (tb_t 1064 (by decide +kernel) rfl), (tb_t 1065 (by decide +kernel) rfl), (tb_t 12 (by decide +kernel) rfl), (tb_t 1066 (by decide +kernel) rfl), rfl, by decide, by decide, by decide +kernel⟩
theorem lkV_L_127 : LkV RL 127 RX9 yX9_write cX9_write 8 (some .long) 3 := ⟨(tb_t 661 (by decide +kernel) rfl), (tb_t 662 (by decide +kernel) rfl), (tb_t 663 (by decide +kernel) rfl), (tb_t 1 (by decide +kernel) rfl), (tb_t 664 (by decide +kernel) rfl), rfl, by decide, by decide, by decide +kernel⟩
theorem lkV_L_131 : LkV RL 131 RX10 yX10_write cX10_write 8 (some .long) 3 := ⟨(tb_t 1071 (by decide +kernel) rfl), (tb_t 1072 (by decide +kernel) rfl), (tb_t 1073 (by decide +kernel) rfl), (tb_t 12 (by decide +kernel) rfl), (tb_t 1074 (by decide +kernel) rfl), rfl, by decide, by decide, by decide +kernel⟩
theorem lkV_L_132 : LkV RL 132 RX9 yX9_copy cX9_copy 8 (some .int) 5 := ⟨(tb_t 674 (by decide +kernel) rfl), (tb_t 675 (by decide +kernel) rfl), (tb_t 676 (by decide +kernel) rfl), (tb_t 1 (by decide +kernel) rfl), (tb_t 677 (by decide +kernel) rfl), rfl, by decide, by decide, by decide +kernel⟩
theorem lkV_L_136 : LkV RL 136 RX10 yX10_copy cX10_copy 9 (some .int) 5 := ⟨(tb_t 1083 (by decide +kernel) rfl), (tb_t 1084 (by decide +kernel) rfl), (tb_t 1085 (by decide +kernel) rfl), (tb_t 12 (by decide +kernel) rfl), (tb_t 1086 (by decide +kernel) rfl), rfl, by decide, by decide, by decide +kernel⟩
theorem lkV_L_137 : LkV RL 137 RX9 yX9_lays cX9_lays 7 (some .int) 1 := ⟨(tb_t 683 (by decide +kernel) rfl), (tb_t 684 (by decide +kernel) rfl), (tb_t 685 (by decide +kernel) rfl), (tb_t 1 (by decide +kernel) rfl), (tb_t 686 (by decide +kernel) rfl), rfl, by decide, by decide, by decide +kernel⟩
theorem lkV_L_140 : LkV RL 140 RX10 yX10_lays cX10_lays 5 (some .int) 1 := ⟨(tb_t 1091 (by decide +kernel) rfl), (tb_t 1092 (by decide +kernel) rfl), (tb_t 1093 (by decide +kernel) rfl), (tb_t 12 (by decide +kernel) rfl), (tb_t 1094 (by decide +kernel) rfl), rfl, by decide, by decide, by decide +kernel⟩
set_option maxRecDepth 100000 in
set_option maxHeartbeats 8000000 in
theorem lw_case23 {l : Launch} {D : va_G} {ca : Nat → ClassId} {sd : Nat → Nat} {k : Kx} (aF aL aT aK nd tp sb sn am : Nat → Nat) (b L : Nat) (xs : Nat → Int32) {cs sl : Nat} (x3 : Int32) (fd : Nat → Int32) (ik : Int32) (tsk : Nat → Int32) (tze : Nat → Int32) (tma : Nat → Int32) (tki : Nat → Int32) (tdn : Nat → Int32) (twi : Nat → Int32) (tdu : Nat → Int32) (the : Nat → Int32) (tyr : Int32) (tsz : Int32) (lsk : Nat → Int32) (lze : Nat → Int32) (lma : Nat → Int32) (lki : Nat → Int32) (ldn : Nat → Int32) (lwi : Nat → Int32) (ldu : Nat → Int32) (lhe : Nat → Int32) (lyr : Int32) (lsz : Int32) (ksk : Nat → Int32) (kze : Nat → Int32) (kma : Nat → Int32) (kki : Nat → Int32) (kdn : Nat → Int32) (kwi : Nat → Int32) (kdu : Nat → Int32) (khe : Nat → Int32) (kyr : Int32) (ksz : Int32) (pbb : Nat → Int32) (pln : Int32) (pso : Int32) (ppl : Int32) (pbh : Int32) (anu : Nat → Int64) (abi : Int32) (ale : Int32) (bnu : Nat → Int64) (bbi : Int32) (ble : Int32) (cnu : Nat → Int64) (cbi : Int32) (cle : Int32) (dnu : Nat → Int64) (dbi : Int32) (dle : Int32) (mm : Nat → Int32) (mkp : Nat → Int32) (mwa : Nat → Int32) (mfo : Nat → Int32) (mta : Nat → Int32) (mbo : Nat → Int32) (mso : Nat → Int32) (mce : Nat → Int64) (mik : Int32) (mtd : Int32) (mtk : Int32) (mbg : Int32) (maa : Int32) (mvl : Int32) (mbd : Int32) (C : Cx D ca sd cL_law RL (some .boolean) room_1 k 4) (hB : Wx k) (hX : Sx b L xs k) (hcs : cs + 0 ≤ room_1.cells ∧ sl + 0 ≤ room_1.slots) (hi1 : vp_in (x3 + 1) L) (hi2 : vp_in (x3 + 2) L) (hi3 : vp_in (x3 + 3) L) (hi4 : vp_in (x3 + 4) L) (hi5 : vp_in (x3 + 5) L) (hR : RR fd ik tsk tze tma tki tdn twi tdu the tyr tsz lsk lze lma lki ldn lwi ldu lhe lyr lsz ksk kze kma kki kdn kwi kdu khe kyr ksz pbb pln pso ppl pbh anu abi ale bnu bbi ble cnu cbi cle dnu dbi dle mm mkp mwa mfo mta mbo mso mce mik mtd mtk mbg maa mvl mbd) (hK : ∀ (fd' : Nat → Int32) (ik' : Int32) (tsk' : Nat → Int32) (tze' : Nat → Int32) (tma' : Nat → Int32) (tki' : Nat → Int32) (tdn' : Nat → Int32) (twi' : Nat → Int32) (tdu' : Nat → Int32) (the' : Nat → Int32) (tyr' : Int32) (tsz' : Int32) (lsk' : Nat → Int32) (lze' : Nat → Int32) (lma' : Nat → Int32) (lki' : Nat → Int32) (ldn' : Nat → Int32) (lwi' : Nat → Int32) (ldu' : Nat → Int32) (lhe' : Nat → Int32) (lyr' : Int32) (lsz' : Int32) (ksk' : Nat → Int32) (kze' : Nat → Int32) (kma' : Nat → Int32) (kki' : Nat → Int32) (kdn' : Nat → Int32) (kwi' : Nat → Int32) (kdu' : Nat → Int32) (khe' : Nat → Int32) (kyr' : Int32) (ksz' : Int32) (pbb' : Nat → Int32) (pln' : Int32) (pso' : Int32) (ppl' : Int32) (pbh' : Int32) (anu' : Nat → Int64) (abi' : Int32) (ale' : Int32) (bnu' : Nat → Int64) (bbi' : Int32) (ble' : Int32) (cnu' : Nat → Int64) (cbi' : Int32) (cle' : Int32) (dnu' : Nat → Int64) (dbi' : Int32) (dle' : Int32) (mm' : Nat → Int32) (mkp' : Nat → Int32) (mwa' : Nat → Int32) (mfo' : Nat → Int32) (mta' : Nat → Int32) (mbo' : Nat → Int32) (mso' : Nat → Int32) (mce' : Nat → Int64) (mik' : Int32) (mtd' : Int32) (mtk' : Int32) (mbg' : Int32) (maa' : Int32) (mvl' : Int32) (mbd' : Int32), RR fd' ik' tsk' tze' tma' tki' tdn' twi' tdu' the' tyr' tsz' lsk' lze' lma' lki' ldn' lwi' ldu' lhe' lyr' lsz' ksk' kze' kma' kki' kdn' kwi' kdu' khe' kyr' ksz' pbb' pln' pso' ppl' pbh' anu' abi' ale' bnu' bbi' ble' cnu' cbi' cle' dnu' dbi' dle' mm' mkp' mwa' mfo' mta' mbo' mso' mce' mik' mtd' mtk' mbg' maa' mvl' mbd' → J l D k 4 cs sl 1328 ((wD ca (aF 2) fd') ++ ((wF (aF 0) (aL 0) (aT 0) (aK 0) (tp 0) (aF 1) (aF 2) ik') ++ ((wN ca nd sd) ++ ((wC ca aT (nd 0) tsk' tze' tma' tki' tdn' twi' tdu' the' tyr' tsz') ++ ((wC ca aL (nd 0) lsk' lze' lma' lki' ldn' lwi' ldu' lhe' lyr' lsz') ++ ((wC ca aK (nd 0) ksk' kze' kma' kki' kdn' kwi' kdu' khe' kyr' ksz') ++ ((wT ca tp (nd 0) pbb' pln' pso' ppl' pbh') ++ ((wA ca (aF 1) sb) ++ ((wS ca (sb 0) (sn 0) anu' abi' ale') ++ ((wS ca (sb 1) (sn 1) bnu' bbi' ble') ++ ((wS ca (sb 2) (sn 2) cnu' cbi' cle') ++ ((wS ca (sb 3) (sn 3) dnu' dbi' dle') ++ (wM ca am mm' mkp' mwa' mfo' mta' mbo' mso' mce' mik' mtd' mtk' mbg' maa' mvl' mbd'))))))))))))) [(0, .ref b), (1, .ref (aF 0)), (2, .ref (am 0)), (3, .int x3)] []) : J l D k 4 cs sl 905 ((wD ca (aF 2) fd) ++ ((wF (aF 0) (aL 0) (aT 0) (aK 0) (tp 0) (aF 1) (aF 2) ik) ++ ((wN ca nd sd) ++ ((wC ca aT (nd 0) tsk tze tma tki tdn twi tdu the tyr tsz) ++ ((wC ca aL (nd 0) lsk lze lma lki ldn lwi ldu lhe lyr lsz) ++ ((wC ca aK (nd 0) ksk kze kma kki kdn kwi kdu khe kyr ksz) ++ ((wT ca tp (nd 0) pbb pln pso ppl pbh) ++ ((wA ca (aF 1) sb) ++ ((wS ca (sb 0) (sn 0) anu abi ale) ++ ((wS ca (sb 1) (sn 1) bnu bbi ble) ++ ((wS ca (sb 2) (sn 2) cnu cbi cle) ++ ((wS ca (sb 3) (sn 3) dnu dbi dle) ++ (wM ca am mm mkp mwa mfo mta mbo mso mce mik mtd mtk mbg maa mvl mbd))))))))))))) [(0, .ref b), (1, .ref (aF 0)), (2, .ref (am 0)), (3, .int x3)] [] := by
  obtain ⟨h1, h2, h3, h4, s0, s1, s2, s3⟩ := id hR
  have hw : wp_X9_feed fd pbb pln (xs ((x3 + 1).toNatClampNeg)) (xs ((x3 + 2).toNatClampNeg)) (fun r1 c1_0 c1_1 c1_2 => wp_X10_feed mfo mta mtd (xs ((x3 + 1).toNatClampNeg)) (xs ((x3 + 2).toNatClampNeg)) (fun r2 c2_0 c2_1 c2_2 => (r1 = r2 → RR c1_0 ik tsk tze tma tki tdn twi tdu the tyr tsz lsk lze lma lki ldn lwi ldu lhe lyr lsz ksk kze kma kki kdn kwi kdu khe kyr ksz c1_1 c1_2 pso ppl pbh anu abi ale bnu bbi ble cnu cbi cle dnu dbi dle mm mkp mwa c2_0 c2_1 mbo mso mce mik c2_2 mtk mbg maa mvl mbd) ∧ (¬ (r1 = r2) → False))) := by
    exact sim_feed h2 h4 _ _ (fun _ _ _ _ _ _ _ g2 g4 => ⟨fun _ => ⟨h1, g2, h3, g4, s0, s1, s2, s3⟩, fun z => absurd rfl z⟩)
  refine j_aload_n C 1 dL_law_905 rfl ?_
  refine j_aload_n C 0 dL_law_906 rfl ?_
  refine j_iload_n C 3 dL_law_907 rfl ?_
  refine j_iconst C 1 dL_law_908 (by decide) ?_
  refine j_iadd C dL_law_909 ?_
  refine j_sld C hX dL_law_910 hi1 ?_
  refine j_aload_n C 0 dL_law_911 rfl ?_
  refine j_iload_n C 3 dL_law_912 rfl ?_
  refine j_iconst C 2 dL_law_913 (by decide) ?_
  refine j_iadd C dL_law_914 ?_
  refine j_sld C hX dL_law_915 hi2 ?_
  refine j_ciP C hB [0, 1, 36, 37] [2, 3, 4, 5, 6, 7, 8, 9, 10, 11, 12, 13, 14, 15, 16, 17, 18, 19, 20, 21, 22, 23, 24, 25, 26, 27, 28, 29, 30, 31, 32, 33, 34, 35, 38, 39, 40, 41, 42, 43, 44, 45, 46, 47, 48, 49, 50, 51, 52, 53, 54, 55] [52, 53, 0, 1, 2, 3, 4, 5, 6, 7, 8, 9, 10, 11, 12, 13, 14, 15, 16, 17, 18, 19, 20, 21, 22, 23, 24, 25, 26, 27, 28, 29, 30, 31, 32, 33, 54, 55, 34, 35, 36, 37, 38, 39, 40, 41, 42, 43, 44, 45, 46, 47, 48, 49, 50, 51] (fun u1 : (Nat → Int32) × (Nat → Int32) × (Int32) => ((wD ca (aF 2) u1.1) ++ ((wF (aF 0) (aL 0) (aT 0) (aK 0) (tp 0) (aF 1) (aF 2) ik) ++ ((wN ca nd sd) ++ ((wC ca aT (nd 0) tsk tze tma tki tdn twi tdu the tyr tsz) ++ ((wC ca aL (nd 0) lsk lze lma lki ldn lwi ldu lhe lyr lsz) ++ ((wC ca aK (nd 0) ksk kze kma kki kdn kwi kdu khe kyr ksz) ++ ((wT ca tp (nd 0) u1.2.1 u1.2.2 pso ppl pbh) ++ ((wA ca (aF 1) sb) ++ ((wS ca (sb 0) (sn 0) anu abi ale) ++ ((wS ca (sb 1) (sn 1) bnu bbi ble) ++ ((wS ca (sb 2) (sn 2) cnu cbi cle) ++ ((wS ca (sb 3) (sn 3) dnu dbi dle) ++ (wM ca am mm mkp mwa mfo mta mbo mso mce mik mtd mtk mbg maa mvl mbd)))))))))))))) ((wN ca nd sd) ++ ((wC ca aT (nd 0) tsk tze tma tki tdn twi tdu the tyr tsz) ++ ((wC ca aL (nd 0) lsk lze lma lki ldn lwi ldu lhe lyr lsz) ++ ((wC ca aK (nd 0) ksk kze kma kki kdn kwi kdu khe kyr ksz) ++ ((wA ca (aF 1) sb) ++ ((wS ca (sb 0) (sn 0) anu abi ale) ++ ((wS ca (sb 1) (sn 1) bnu bbi ble) ++ ((wS ca (sb 2) (sn 2) cnu cbi cle) ++ ((wS ca (sb 3) (sn 3) dnu dbi dle) ++ (wM ca am mm mkp mwa mfo mta mbo mso mce mik mtd mtk mbg maa mvl mbd)))))))))) rfl rfl rfl (by decide) rfl (fun _ => rfl) (jr_V C lkV_L_109 (c_X9_feed aF aL aT aK nd tp fd ik pbb pln pso ppl pbh (xs ((x3 + 1).toNatClampNeg)) (xs ((x3 + 2).toNatClampNeg)) hw) ⟨rfl, rfl, by decide, by decide, hcs.1, hcs.2⟩ [0, 1, 36, 37] (by decide) rfl (fx_rw C hB [0, 1, 36, 37] rfl) 1 9 rfl rfl rfl rfl (Nat.le_of_ble_eq_true rfl) dL_law_916) (fun r1 u1 hw => ?_)
  refine j_aload_n C 2 dL_law_919 rfl ?_
  refine j_aload_n C 0 dL_law_920 rfl ?_
  refine j_iload_n C 3 dL_law_921 rfl ?_
  refine j_iconst C 1 dL_law_922 (by decide) ?_
  refine j_iadd C dL_law_923 ?_
  refine j_sld C hX dL_law_924 hi1 ?_
  refine j_aload_n C 0 dL_law_925 rfl ?_
  refine j_iload_n C 3 dL_law_926 rfl ?_
  refine j_iconst C 2 dL_law_927 (by decide) ?_
  refine j_iadd C dL_law_928 ?_
  refine j_sld C hX dL_law_929 hi2 ?_
  refine j_ciT C hB 47 56 (fun u2 : (Nat → Int32) × (Nat → Int32) × (Int32) => ((wD ca (aF 2) u1.1) ++ ((wF (aF 0) (aL 0) (aT 0) (aK 0) (tp 0) (aF 1) (aF 2) ik) ++ ((wN ca nd sd) ++ ((wC ca aT (nd 0) tsk tze tma tki tdn twi tdu the tyr tsz) ++ ((wC ca aL (nd 0) lsk lze lma lki ldn lwi ldu lhe lyr lsz) ++ ((wC ca aK (nd 0) ksk kze kma kki kdn kwi kdu khe kyr ksz) ++ ((wT ca tp (nd 0) u1.2.1 u1.2.2 pso ppl pbh) ++ ((wA ca (aF 1) sb) ++ ((wS ca (sb 0) (sn 0) anu abi ale) ++ ((wS ca (sb 1) (sn 1) bnu bbi ble) ++ ((wS ca (sb 2) (sn 2) cnu cbi cle) ++ ((wS ca (sb 3) (sn 3) dnu dbi dle) ++ (wM ca am mm mkp mwa u2.1 u2.2.1 mbo mso mce mik u2.2.2 mtk mbg maa mvl mbd)))))))))))))) rfl (fun _ => rfl) (jr_V C lkV_L_112 (c_X10_feed am mm mkp mwa mfo mta mbo mso mce mik mtd mtk mbg maa mvl mbd (xs ((x3 + 1).toNatClampNeg)) (xs ((x3 + 2).toNatClampNeg)) hw) ⟨rfl, rfl, by decide, by decide, hcs.1, hcs.2⟩ [47, 48, 49, 50, 51, 52, 53, 54, 55] (by decide) rfl (fx_rw C hB [47, 48, 49, 50, 51, 52, 53, 54, 55] rfl) 47 10 rfl rfl rfl rfl (Nat.le_of_ble_eq_true rfl) dL_law_930) (fun r2 u2 hw => ?_)
  refine j_icmp_eq C 1328 dL_law_933 (by decide) (fun z => ?_) (fun z => ?_)
  · replace hw := hw.1 z
    exact hK u1.1 ik tsk tze tma tki tdn twi tdu the tyr tsz lsk lze lma lki ldn lwi ldu lhe lyr lsz ksk kze kma kki kdn kwi kdu khe kyr ksz u1.2.1 u1.2.2 pso ppl pbh anu abi ale bnu bbi ble cnu cbi cle dnu dbi dle mm mkp mwa u2.1 u2.2.1 mbo mso mce mik u2.2.2 mtk mbg maa mvl mbd hw
  · replace hw := hw.2 z
    refine j_iconst C 0 dL_law_936 (by decide) ?_
    exact hw.elim
set_option maxRecDepth 100000 in
set_option maxHeartbeats 8000000 in
theorem lw_case24 {l : Launch} {D : va_G} {ca : Nat → ClassId} {sd : Nat → Nat} {k : Kx} (aF aL aT aK nd tp sb sn am : Nat → Nat) (b L : Nat) (xs : Nat → Int32) {cs sl : Nat} (x3 : Int32) (fd : Nat → Int32) (ik : Int32) (tsk : Nat → Int32) (tze : Nat → Int32) (tma : Nat → Int32) (tki : Nat → Int32) (tdn : Nat → Int32) (twi : Nat → Int32) (tdu : Nat → Int32) (the : Nat → Int32) (tyr : Int32) (tsz : Int32) (lsk : Nat → Int32) (lze : Nat → Int32) (lma : Nat → Int32) (lki : Nat → Int32) (ldn : Nat → Int32) (lwi : Nat → Int32) (ldu : Nat → Int32) (lhe : Nat → Int32) (lyr : Int32) (lsz : Int32) (ksk : Nat → Int32) (kze : Nat → Int32) (kma : Nat → Int32) (kki : Nat → Int32) (kdn : Nat → Int32) (kwi : Nat → Int32) (kdu : Nat → Int32) (khe : Nat → Int32) (kyr : Int32) (ksz : Int32) (pbb : Nat → Int32) (pln : Int32) (pso : Int32) (ppl : Int32) (pbh : Int32) (anu : Nat → Int64) (abi : Int32) (ale : Int32) (bnu : Nat → Int64) (bbi : Int32) (ble : Int32) (cnu : Nat → Int64) (cbi : Int32) (cle : Int32) (dnu : Nat → Int64) (dbi : Int32) (dle : Int32) (mm : Nat → Int32) (mkp : Nat → Int32) (mwa : Nat → Int32) (mfo : Nat → Int32) (mta : Nat → Int32) (mbo : Nat → Int32) (mso : Nat → Int32) (mce : Nat → Int64) (mik : Int32) (mtd : Int32) (mtk : Int32) (mbg : Int32) (maa : Int32) (mvl : Int32) (mbd : Int32) (C : Cx D ca sd cL_law RL (some .boolean) room_1 k 4) (hB : Wx k) (hX : Sx b L xs k) (hcs : cs + 0 ≤ room_1.cells ∧ sl + 0 ≤ room_1.slots) (hi1 : vp_in (x3 + 1) L) (hi2 : vp_in (x3 + 2) L) (hi3 : vp_in (x3 + 3) L) (hi4 : vp_in (x3 + 4) L) (hi5 : vp_in (x3 + 5) L) (hR : RR fd ik tsk tze tma tki tdn twi tdu the tyr tsz lsk lze lma lki ldn lwi ldu lhe lyr lsz ksk kze kma kki kdn kwi kdu khe kyr ksz pbb pln pso ppl pbh anu abi ale bnu bbi ble cnu cbi cle dnu dbi dle mm mkp mwa mfo mta mbo mso mce mik mtd mtk mbg maa mvl mbd) (hK : ∀ (fd' : Nat → Int32) (ik' : Int32) (tsk' : Nat → Int32) (tze' : Nat → Int32) (tma' : Nat → Int32) (tki' : Nat → Int32) (tdn' : Nat → Int32) (twi' : Nat → Int32) (tdu' : Nat → Int32) (the' : Nat → Int32) (tyr' : Int32) (tsz' : Int32) (lsk' : Nat → Int32) (lze' : Nat → Int32) (lma' : Nat → Int32) (lki' : Nat → Int32) (ldn' : Nat → Int32) (lwi' : Nat → Int32) (ldu' : Nat → Int32) (lhe' : Nat → Int32) (lyr' : Int32) (lsz' : Int32) (ksk' : Nat → Int32) (kze' : Nat → Int32) (kma' : Nat → Int32) (kki' : Nat → Int32) (kdn' : Nat → Int32) (kwi' : Nat → Int32) (kdu' : Nat → Int32) (khe' : Nat → Int32) (kyr' : Int32) (ksz' : Int32) (pbb' : Nat → Int32) (pln' : Int32) (pso' : Int32) (ppl' : Int32) (pbh' : Int32) (anu' : Nat → Int64) (abi' : Int32) (ale' : Int32) (bnu' : Nat → Int64) (bbi' : Int32) (ble' : Int32) (cnu' : Nat → Int64) (cbi' : Int32) (cle' : Int32) (dnu' : Nat → Int64) (dbi' : Int32) (dle' : Int32) (mm' : Nat → Int32) (mkp' : Nat → Int32) (mwa' : Nat → Int32) (mfo' : Nat → Int32) (mta' : Nat → Int32) (mbo' : Nat → Int32) (mso' : Nat → Int32) (mce' : Nat → Int64) (mik' : Int32) (mtd' : Int32) (mtk' : Int32) (mbg' : Int32) (maa' : Int32) (mvl' : Int32) (mbd' : Int32), RR fd' ik' tsk' tze' tma' tki' tdn' twi' tdu' the' tyr' tsz' lsk' lze' lma' lki' ldn' lwi' ldu' lhe' lyr' lsz' ksk' kze' kma' kki' kdn' kwi' kdu' khe' kyr' ksz' pbb' pln' pso' ppl' pbh' anu' abi' ale' bnu' bbi' ble' cnu' cbi' cle' dnu' dbi' dle' mm' mkp' mwa' mfo' mta' mbo' mso' mce' mik' mtd' mtk' mbg' maa' mvl' mbd' → J l D k 4 cs sl 1328 ((wD ca (aF 2) fd') ++ ((wF (aF 0) (aL 0) (aT 0) (aK 0) (tp 0) (aF 1) (aF 2) ik') ++ ((wN ca nd sd) ++ ((wC ca aT (nd 0) tsk' tze' tma' tki' tdn' twi' tdu' the' tyr' tsz') ++ ((wC ca aL (nd 0) lsk' lze' lma' lki' ldn' lwi' ldu' lhe' lyr' lsz') ++ ((wC ca aK (nd 0) ksk' kze' kma' kki' kdn' kwi' kdu' khe' kyr' ksz') ++ ((wT ca tp (nd 0) pbb' pln' pso' ppl' pbh') ++ ((wA ca (aF 1) sb) ++ ((wS ca (sb 0) (sn 0) anu' abi' ale') ++ ((wS ca (sb 1) (sn 1) bnu' bbi' ble') ++ ((wS ca (sb 2) (sn 2) cnu' cbi' cle') ++ ((wS ca (sb 3) (sn 3) dnu' dbi' dle') ++ (wM ca am mm' mkp' mwa' mfo' mta' mbo' mso' mce' mik' mtd' mtk' mbg' maa' mvl' mbd'))))))))))))) [(0, .ref b), (1, .ref (aF 0)), (2, .ref (am 0)), (3, .int x3)] []) : J l D k 4 cs sl 938 ((wD ca (aF 2) fd) ++ ((wF (aF 0) (aL 0) (aT 0) (aK 0) (tp 0) (aF 1) (aF 2) ik) ++ ((wN ca nd sd) ++ ((wC ca aT (nd 0) tsk tze tma tki tdn twi tdu the tyr tsz) ++ ((wC ca aL (nd 0) lsk lze lma lki ldn lwi ldu lhe lyr lsz) ++ ((wC ca aK (nd 0) ksk kze kma kki kdn kwi kdu khe kyr ksz) ++ ((wT ca tp (nd 0) pbb pln pso ppl pbh) ++ ((wA ca (aF 1) sb) ++ ((wS ca (sb 0) (sn 0) anu abi ale) ++ ((wS ca (sb 1) (sn 1) bnu bbi ble) ++ ((wS ca (sb 2) (sn 2) cnu cbi cle) ++ ((wS ca (sb 3) (sn 3) dnu dbi dle) ++ (wM ca am mm mkp mwa mfo mta mbo mso mce mik mtd mtk mbg maa mvl mbd))))))))))))) [(0, .ref b), (1, .ref (aF 0)), (2, .ref (am 0)), (3, .int x3)] [] := by
  obtain ⟨h1, h2, h3, h4, s0, s1, s2, s3⟩ := id hR
  have hw : wp_X9_wipe pln (fun r1 c1_0 => wp_X10_wipe mtd (fun r2 c2_0 => (r1 = r2 → RR fd ik tsk tze tma tki tdn twi tdu the tyr tsz lsk lze lma lki ldn lwi ldu lhe lyr lsz ksk kze kma kki kdn kwi kdu khe kyr ksz pbb c1_0 pso ppl pbh anu abi ale bnu bbi ble cnu cbi cle dnu dbi dle mm mkp mwa mfo mta mbo mso mce mik c2_0 mtk mbg maa mvl mbd) ∧ (¬ (r1 = r2) → False))) := by
    exact sim_wipe h4 (fun _ _ _ g4 => ⟨fun _ => ⟨h1, h2, h3, g4, s0, s1, s2, s3⟩, fun z => absurd rfl z⟩)
  refine j_aload_n C 1 dL_law_938 rfl ?_
  refine j_ciP C hB [1, 36, 37] [0, 2, 3, 4, 5, 6, 7, 8, 9, 10, 11, 12, 13, 14, 15, 16, 17, 18, 19, 20, 21, 22, 23, 24, 25, 26, 27, 28, 29, 30, 31, 32, 33, 34, 35, 38, 39, 40, 41, 42, 43, 44, 45, 46, 47, 48, 49, 50, 51, 52, 53, 54, 55] [0, 53, 1, 2, 3, 4, 5, 6, 7, 8, 9, 10, 11, 12, 13, 14, 15, 16, 17, 18, 19, 20, 21, 22, 23, 24, 25, 26, 27, 28, 29, 30, 31, 32, 33, 34, 54, 55, 35, 36, 37, 38, 39, 40, 41, 42, 43, 44, 45, 46, 47, 48, 49, 50, 51, 52] (fun u1 : (Int32) => ((wD ca (aF 2) fd) ++ ((wF (aF 0) (aL 0) (aT 0) (aK 0) (tp 0) (aF 1) (aF 2) ik) ++ ((wN ca nd sd) ++ ((wC ca aT (nd 0) tsk tze tma tki tdn twi tdu the tyr tsz) ++ ((wC ca aL (nd 0) lsk lze lma lki ldn lwi ldu lhe lyr lsz) ++ ((wC ca aK (nd 0) ksk kze kma kki kdn kwi kdu khe kyr ksz) ++ ((wT ca tp (nd 0) pbb u1 pso ppl pbh) ++ ((wA ca (aF 1) sb) ++ ((wS ca (sb 0) (sn 0) anu abi ale) ++ ((wS ca (sb 1) (sn 1) bnu bbi ble) ++ ((wS ca (sb 2) (sn 2) cnu cbi cle) ++ ((wS ca (sb 3) (sn 3) dnu dbi dle) ++ (wM ca am mm mkp mwa mfo mta mbo mso mce mik mtd mtk mbg maa mvl mbd)))))))))))))) ((wD ca (aF 2) fd) ++ ((wN ca nd sd) ++ ((wC ca aT (nd 0) tsk tze tma tki tdn twi tdu the tyr tsz) ++ ((wC ca aL (nd 0) lsk lze lma lki ldn lwi ldu lhe lyr lsz) ++ ((wC ca aK (nd 0) ksk kze kma kki kdn kwi kdu khe kyr ksz) ++ ((wA ca (aF 1) sb) ++ ((wS ca (sb 0) (sn 0) anu abi ale) ++ ((wS ca (sb 1) (sn 1) bnu bbi ble) ++ ((wS ca (sb 2) (sn 2) cnu cbi cle) ++ ((wS ca (sb 3) (sn 3) dnu dbi dle) ++ (wM ca am mm mkp mwa mfo mta mbo mso mce mik mtd mtk mbg maa mvl mbd))))))))))) rfl rfl rfl (by decide) rfl (fun _ => rfl) (jr_V C lkV_L_113 (c_X9_wipe aF aL aT aK nd tp ik pbb pln pso ppl pbh hw) ⟨rfl, rfl, by decide, by decide, hcs.1, hcs.2⟩ [1, 36, 37] (by decide) rfl (fx_rw C hB [1, 36, 37] rfl) 1 9 rfl rfl rfl rfl (Nat.le_of_ble_eq_true rfl) dL_law_939) (fun r1 u1 hw => ?_)
  refine j_aload_n C 2 dL_law_942 rfl ?_
  refine j_ciT C hB 47 56 (fun u2 : (Int32) => ((wD ca (aF 2) fd) ++ ((wF (aF 0) (aL 0) (aT 0) (aK 0) (tp 0) (aF 1) (aF 2) ik) ++ ((wN ca nd sd) ++ ((wC ca aT (nd 0) tsk tze tma tki tdn twi tdu the tyr tsz) ++ ((wC ca aL (nd 0) lsk lze lma lki ldn lwi ldu lhe lyr lsz) ++ ((wC ca aK (nd 0) ksk kze kma kki kdn kwi kdu khe kyr ksz) ++ ((wT ca tp (nd 0) pbb u1 pso ppl pbh) ++ ((wA ca (aF 1) sb) ++ ((wS ca (sb 0) (sn 0) anu abi ale) ++ ((wS ca (sb 1) (sn 1) bnu bbi ble) ++ ((wS ca (sb 2) (sn 2) cnu cbi cle) ++ ((wS ca (sb 3) (sn 3) dnu dbi dle) ++ (wM ca am mm mkp mwa mfo mta mbo mso mce mik u2 mtk mbg maa mvl mbd)))))))))))))) rfl (fun _ => rfl) (jr_V C lkV_L_116 (c_X10_wipe am mm mkp mwa mfo mta mbo mso mce mik mtd mtk mbg maa mvl mbd hw) ⟨rfl, rfl, by decide, by decide, hcs.1, hcs.2⟩ [47, 48, 49, 50, 51, 52, 53, 54, 55] (by decide) rfl (fx_rw C hB [47, 48, 49, 50, 51, 52, 53, 54, 55] rfl) 47 10 rfl rfl rfl rfl (Nat.le_of_ble_eq_true rfl) dL_law_943) (fun r2 u2 hw => ?_)
  refine j_icmp_eq C 1328 dL_law_946 (by decide) (fun z => ?_) (fun z => ?_)
  · replace hw := hw.1 z
    exact hK fd ik tsk tze tma tki tdn twi tdu the tyr tsz lsk lze lma lki ldn lwi ldu lhe lyr lsz ksk kze kma kki kdn kwi kdu khe kyr ksz pbb u1 pso ppl pbh anu abi ale bnu bbi ble cnu cbi cle dnu dbi dle mm mkp mwa mfo mta mbo mso mce mik u2 mtk mbg maa mvl mbd hw
  · replace hw := hw.2 z
    refine j_iconst C 0 dL_law_949 (by decide) ?_
    exact hw.elim
set_option maxRecDepth 100000 in
set_option maxHeartbeats 8000000 in
theorem lw_case25 {l : Launch} {D : va_G} {ca : Nat → ClassId} {sd : Nat → Nat} {k : Kx} (aF aL aT aK nd tp sb sn am : Nat → Nat) (b L : Nat) (xs : Nat → Int32) {cs sl : Nat} (x3 : Int32) (fd : Nat → Int32) (ik : Int32) (tsk : Nat → Int32) (tze : Nat → Int32) (tma : Nat → Int32) (tki : Nat → Int32) (tdn : Nat → Int32) (twi : Nat → Int32) (tdu : Nat → Int32) (the : Nat → Int32) (tyr : Int32) (tsz : Int32) (lsk : Nat → Int32) (lze : Nat → Int32) (lma : Nat → Int32) (lki : Nat → Int32) (ldn : Nat → Int32) (lwi : Nat → Int32) (ldu : Nat → Int32) (lhe : Nat → Int32) (lyr : Int32) (lsz : Int32) (ksk : Nat → Int32) (kze : Nat → Int32) (kma : Nat → Int32) (kki : Nat → Int32) (kdn : Nat → Int32) (kwi : Nat → Int32) (kdu : Nat → Int32) (khe : Nat → Int32) (kyr : Int32) (ksz : Int32) (pbb : Nat → Int32) (pln : Int32) (pso : Int32) (ppl : Int32) (pbh : Int32) (anu : Nat → Int64) (abi : Int32) (ale : Int32) (bnu : Nat → Int64) (bbi : Int32) (ble : Int32) (cnu : Nat → Int64) (cbi : Int32) (cle : Int32) (dnu : Nat → Int64) (dbi : Int32) (dle : Int32) (mm : Nat → Int32) (mkp : Nat → Int32) (mwa : Nat → Int32) (mfo : Nat → Int32) (mta : Nat → Int32) (mbo : Nat → Int32) (mso : Nat → Int32) (mce : Nat → Int64) (mik : Int32) (mtd : Int32) (mtk : Int32) (mbg : Int32) (maa : Int32) (mvl : Int32) (mbd : Int32) (C : Cx D ca sd cL_law RL (some .boolean) room_1 k 4) (hB : Wx k) (hX : Sx b L xs k) (hcs : cs + 0 ≤ room_1.cells ∧ sl + 0 ≤ room_1.slots) (hi1 : vp_in (x3 + 1) L) (hi2 : vp_in (x3 + 2) L) (hi3 : vp_in (x3 + 3) L) (hi4 : vp_in (x3 + 4) L) (hi5 : vp_in (x3 + 5) L) (hR : RR fd ik tsk tze tma tki tdn twi tdu the tyr tsz lsk lze lma lki ldn lwi ldu lhe lyr lsz ksk kze kma kki kdn kwi kdu khe kyr ksz pbb pln pso ppl pbh anu abi ale bnu bbi ble cnu cbi cle dnu dbi dle mm mkp mwa mfo mta mbo mso mce mik mtd mtk mbg maa mvl mbd) (hK : ∀ (fd' : Nat → Int32) (ik' : Int32) (tsk' : Nat → Int32) (tze' : Nat → Int32) (tma' : Nat → Int32) (tki' : Nat → Int32) (tdn' : Nat → Int32) (twi' : Nat → Int32) (tdu' : Nat → Int32) (the' : Nat → Int32) (tyr' : Int32) (tsz' : Int32) (lsk' : Nat → Int32) (lze' : Nat → Int32) (lma' : Nat → Int32) (lki' : Nat → Int32) (ldn' : Nat → Int32) (lwi' : Nat → Int32) (ldu' : Nat → Int32) (lhe' : Nat → Int32) (lyr' : Int32) (lsz' : Int32) (ksk' : Nat → Int32) (kze' : Nat → Int32) (kma' : Nat → Int32) (kki' : Nat → Int32) (kdn' : Nat → Int32) (kwi' : Nat → Int32) (kdu' : Nat → Int32) (khe' : Nat → Int32) (kyr' : Int32) (ksz' : Int32) (pbb' : Nat → Int32) (pln' : Int32) (pso' : Int32) (ppl' : Int32) (pbh' : Int32) (anu' : Nat → Int64) (abi' : Int32) (ale' : Int32) (bnu' : Nat → Int64) (bbi' : Int32) (ble' : Int32) (cnu' : Nat → Int64) (cbi' : Int32) (cle' : Int32) (dnu' : Nat → Int64) (dbi' : Int32) (dle' : Int32) (mm' : Nat → Int32) (mkp' : Nat → Int32) (mwa' : Nat → Int32) (mfo' : Nat → Int32) (mta' : Nat → Int32) (mbo' : Nat → Int32) (mso' : Nat → Int32) (mce' : Nat → Int64) (mik' : Int32) (mtd' : Int32) (mtk' : Int32) (mbg' : Int32) (maa' : Int32) (mvl' : Int32) (mbd' : Int32), RR fd' ik' tsk' tze' tma' tki' tdn' twi' tdu' the' tyr' tsz' lsk' lze' lma' lki' ldn' lwi' ldu' lhe' lyr' lsz' ksk' kze' kma' kki' kdn' kwi' kdu' khe' kyr' ksz' pbb' pln' pso' ppl' pbh' anu' abi' ale' bnu' bbi' ble' cnu' cbi' cle' dnu' dbi' dle' mm' mkp' mwa' mfo' mta' mbo' mso' mce' mik' mtd' mtk' mbg' maa' mvl' mbd' → J l D k 4 cs sl 1328 ((wD ca (aF 2) fd') ++ ((wF (aF 0) (aL 0) (aT 0) (aK 0) (tp 0) (aF 1) (aF 2) ik') ++ ((wN ca nd sd) ++ ((wC ca aT (nd 0) tsk' tze' tma' tki' tdn' twi' tdu' the' tyr' tsz') ++ ((wC ca aL (nd 0) lsk' lze' lma' lki' ldn' lwi' ldu' lhe' lyr' lsz') ++ ((wC ca aK (nd 0) ksk' kze' kma' kki' kdn' kwi' kdu' khe' kyr' ksz') ++ ((wT ca tp (nd 0) pbb' pln' pso' ppl' pbh') ++ ((wA ca (aF 1) sb) ++ ((wS ca (sb 0) (sn 0) anu' abi' ale') ++ ((wS ca (sb 1) (sn 1) bnu' bbi' ble') ++ ((wS ca (sb 2) (sn 2) cnu' cbi' cle') ++ ((wS ca (sb 3) (sn 3) dnu' dbi' dle') ++ (wM ca am mm' mkp' mwa' mfo' mta' mbo' mso' mce' mik' mtd' mtk' mbg' maa' mvl' mbd'))))))))))))) [(0, .ref b), (1, .ref (aF 0)), (2, .ref (am 0)), (3, .int x3)] []) : J l D k 4 cs sl 951 ((wD ca (aF 2) fd) ++ ((wF (aF 0) (aL 0) (aT 0) (aK 0) (tp 0) (aF 1) (aF 2) ik) ++ ((wN ca nd sd) ++ ((wC ca aT (nd 0) tsk tze tma tki tdn twi tdu the tyr tsz) ++ ((wC ca aL (nd 0) lsk lze lma lki ldn lwi ldu lhe lyr lsz) ++ ((wC ca aK (nd 0) ksk kze kma kki kdn kwi kdu khe kyr ksz) ++ ((wT ca tp (nd 0) pbb pln pso ppl pbh) ++ ((wA ca (aF 1) sb) ++ ((wS ca (sb 0) (sn 0) anu abi ale) ++ ((wS ca (sb 1) (sn 1) bnu bbi ble) ++ ((wS ca (sb 2) (sn 2) cnu cbi cle) ++ ((wS ca (sb 3) (sn 3) dnu dbi dle) ++ (wM ca am mm mkp mwa mfo mta mbo mso mce mik mtd mtk mbg maa mvl mbd))))))))))))) [(0, .ref b), (1, .ref (aF 0)), (2, .ref (am 0)), (3, .int x3)] [] := by
  obtain ⟨h1, h2, h3, h4, s0, s1, s2, s3⟩ := id hR
  have hw : wp_X9_common pbb pln tsk tze tma tki tdn twi tdu lsk lze lma lki ldn lwi ldu lyr lsz (fun r1 c1_0 c1_1 c1_2 c1_3 c1_4 c1_5 c1_6 c1_7 c1_8 c1_9 c1_10 c1_11 c1_12 c1_13 c1_14 c1_15 c1_16 c1_17 c1_18 c1_19 c1_20 c1_21 => wp_X10_common mm mwa mta mtd (fun r2 c2_0 c2_1 c2_2 c2_3 c2_4 c2_5 c2_6 c2_7 => (r1 = r2 → RR fd ik c1_4 c1_5 c1_6 c1_7 c1_8 c1_9 c1_10 the c1_11 c1_12 c1_13 c1_14 c1_15 c1_16 c1_17 c1_18 c1_19 lhe c1_20 c1_21 ksk kze kma kki kdn kwi kdu khe kyr ksz pbb c1_0 c1_1 c1_2 c1_3 anu abi ale bnu bbi ble cnu cbi cle dnu dbi dle c2_0 mkp c2_1 mfo mta mbo mso mce mik c2_2 c2_3 c2_4 c2_5 c2_6 c2_7) ∧ (¬ (r1 = r2) → False))) := by
    exact sim_common h1 h4 _ _ _ _ _ _ _ _ (fun _ _ _ _ _ _ _ _ _ _ _ _ _ _ _ _ _ _ _ _ _ _ _ _ _ _ _ _ _ _ _ g1 g4 => ⟨fun _ => ⟨g1, h2, h3, g4, s0, s1, s2, s3⟩, fun z => absurd rfl z⟩)
  refine j_aload_n C 1 dL_law_951 rfl ?_
  refine j_ciP C hB [1, 2, 3, 4, 5, 6, 7, 8, 36, 37, 9, 10, 11, 12, 13, 14, 15, 16, 17, 18, 19, 20, 21, 22, 23, 24, 25, 26] [0, 27, 28, 29, 30, 31, 32, 33, 34, 35, 38, 39, 40, 41, 42, 43, 44, 45, 46, 47, 48, 49, 50, 51, 52, 53, 54, 55] [0, 28, 29, 30, 31, 32, 33, 34, 35, 38, 39, 40, 41, 42, 43, 44, 45, 46, 47, 48, 49, 50, 51, 52, 53, 54, 55, 1, 2, 3, 4, 5, 6, 7, 8, 9, 36, 37, 10, 11, 12, 13, 14, 15, 16, 17, 18, 19, 20, 21, 22, 23, 24, 25, 26, 27] (fun u1 : (Int32) × (Int32) × (Int32) × (Int32) × (Nat → Int32) × (Nat → Int32) × (Nat → Int32) × (Nat → Int32) × (Nat → Int32) × (Nat → Int32) × (Nat → Int32) × (Int32) × (Int32) × (Nat → Int32) × (Nat → Int32) × (Nat → Int32) × (Nat → Int32) × (Nat → Int32) × (Nat → Int32) × (Nat → Int32) × (Int32) × (Int32) => ((wD ca (aF 2) fd) ++ ((wF (aF 0) (aL 0) (aT 0) (aK 0) (tp 0) (aF 1) (aF 2) ik) ++ ((wN ca nd sd) ++ ((wC ca aT (nd 0) u1.2.2.2.2.1 u1.2.2.2.2.2.1 u1.2.2.2.2.2.2.1 u1.2.2.2.2.2.2.2.1 u1.2.2.2.2.2.2.2.2.1 u1.2.2.2.2.2.2.2.2.2.1 u1.2.2.2.2.2.2.2.2.2.2.1 the u1.2.2.2.2.2.2.2.2.2.2.2.1 u1.2.2.2.2.2.2.2.2.2.2.2.2.1) ++ ((wC ca aL (nd 0) u1.2.2.2.2.2.2.2.2.2.2.2.2.2.1 u1.2.2.2.2.2.2.2.2.2.2.2.2.2.2.1 u1.2.2.2.2.2.2.2.2.2.2.2.2.2.2.2.1 u1.2.2.2.2.2.2.2.2.2.2.2.2.2.2.2.2.1 u1.2.2.2.2.2.2.2.2.2.2.2.2.2.2.2.2.2.1 u1.2.2.2.2.2.2.2.2.2.2.2.2.2.2.2.2.2.2.1 u1.2.2.2.2.2.2.2.2.2.2.2.2.2.2.2.2.2.2.2.1 lhe u1.2.2.2.2.2.2.2.2.2.2.2.2.2.2.2.2.2.2.2.2.1 u1.2.2.2.2.2.2.2.2.2.2.2.2.2.2.2.2.2.2.2.2.2) ++ ((wC ca aK (nd 0) ksk kze kma kki kdn kwi kdu khe kyr ksz) ++ ((wT ca tp (nd 0) pbb u1.1 u1.2.1 u1.2.2.1 u1.2.2.2.1) ++ ((wA ca (aF 1) sb) ++ ((wS ca (sb 0) (sn 0) anu abi ale) ++ ((wS ca (sb 1) (sn 1) bnu bbi ble) ++ ((wS ca (sb 2) (sn 2) cnu cbi cle) ++ ((wS ca (sb 3) (sn 3) dnu dbi dle) ++ (wM ca am mm mkp mwa mfo mta mbo mso mce mik mtd mtk mbg maa mvl mbd)))))))))))))) ((wD ca (aF 2) fd) ++ ((wC ca aK (nd 0) ksk kze kma kki kdn kwi kdu khe kyr ksz) ++ ((wA ca (aF 1) sb) ++ ((wS ca (sb 0) (sn 0) anu abi ale) ++ ((wS ca (sb 1) (sn 1) bnu bbi ble) ++ ((wS ca (sb 2) (sn 2) cnu cbi cle) ++ ((wS ca (sb 3) (sn 3) dnu dbi dle) ++ (wM ca am mm mkp mwa mfo mta mbo mso mce mik mtd mtk mbg maa mvl mbd)))))))) rfl rfl rfl (by decide) rfl (fun _ => rfl) (jr_V C lkV_L_117 (c_X9_common aF aL aT aK nd tp ik pbb pln pso ppl pbh tsk tze tma tki tdn twi tdu the tyr tsz lsk lze lma lki ldn lwi ldu lhe lyr lsz hw) ⟨rfl, rfl, by decide, by decide, hcs.1, hcs.2⟩ [1, 2, 3, 4, 5, 6, 7, 8, 36, 37, 9, 10, 11, 12, 13, 14, 15, 16, 17, 18, 19, 20, 21, 22, 23, 24, 25, 26] rfl rfl (fx_rw C hB [1, 2, 3, 4, 5, 6, 7, 8, 36, 37, 9, 10, 11, 12, 13, 14, 15, 16, 17, 18, 19, 20, 21, 22, 23, 24, 25, 26] rfl) 1 9 rfl rfl rfl rfl (Nat.le_of_ble_eq_true rfl) dL_law_952) (fun r1 u1 hw => ?_)
  refine j_aload_n C 2 dL_law_955 rfl ?_
  refine j_ciT C hB 47 56 (fun u2 : (Nat → Int32) × (Nat → Int32) × (Int32) × (Int32) × (Int32) × (Int32) × (Int32) × (Int32) => ((wD ca (aF 2) fd) ++ ((wF (aF 0) (aL 0) (aT 0) (aK 0) (tp 0) (aF 1) (aF 2) ik) ++ ((wN ca nd sd) ++ ((wC ca aT (nd 0) u1.2.2.2.2.1 u1.2.2.2.2.2.1 u1.2.2.2.2.2.2.1 u1.2.2.2.2.2.2.2.1 u1.2.2.2.2.2.2.2.2.1 u1.2.2.2.2.2.2.2.2.2.1 u1.2.2.2.2.2.2.2.2.2.2.1 the u1.2.2.2.2.2.2.2.2.2.2.2.1 u1.2.2.2.2.2.2.2.2.2.2.2.2.1) ++ ((wC ca aL (nd 0) u1.2.2.2.2.2.2.2.2.2.2.2.2.2.1 u1.2.2.2.2.2.2.2.2.2.2.2.2.2.2.1 u1.2.2.2.2.2.2.2.2.2.2.2.2.2.2.2.1 u1.2.2.2.2.2.2.2.2.2.2.2.2.2.2.2.2.1 u1.2.2.2.2.2.2.2.2.2.2.2.2.2.2.2.2.2.1 u1.2.2.2.2.2.2.2.2.2.2.2.2.2.2.2.2.2.2.1 u1.2.2.2.2.2.2.2.2.2.2.2.2.2.2.2.2.2.2.2.1 lhe u1.2.2.2.2.2.2.2.2.2.2.2.2.2.2.2.2.2.2.2.2.1 u1.2.2.2.2.2.2.2.2.2.2.2.2.2.2.2.2.2.2.2.2.2) ++ ((wC ca aK (nd 0) ksk kze kma kki kdn kwi kdu khe kyr ksz) ++ ((wT ca tp (nd 0) pbb u1.1 u1.2.1 u1.2.2.1 u1.2.2.2.1) ++ ((wA ca (aF 1) sb) ++ ((wS ca (sb 0) (sn 0) anu abi ale) ++ ((wS ca (sb 1) (sn 1) bnu bbi ble) ++ ((wS ca (sb 2) (sn 2) cnu cbi cle) ++ ((wS ca (sb 3) (sn 3) dnu dbi dle) ++ (wM ca am u2.1 mkp u2.2.1 mfo mta mbo mso mce mik u2.2.2.1 u2.2.2.2.1 u2.2.2.2.2.1 u2.2.2.2.2.2.1 u2.2.2.2.2.2.2.1 u2.2.2.2.2.2.2.2)))))))))))))) rfl (fun _ => rfl) (jr_V C lkV_L_120 (c_X10_common am mm mkp mwa mfo mta mbo mso mce mik mtd mtk mbg maa mvl mbd hw) ⟨rfl, rfl, by decide, by decide, hcs.1, hcs.2⟩ [47, 48, 49, 50, 51, 52, 53, 54, 55] (by decide) rfl (fx_rw C hB [47, 48, 49, 50, 51, 52, 53, 54, 55] rfl) 47 10 rfl rfl rfl rfl (Nat.le_of_ble_eq_true rfl) dL_law_956) (fun r2 u2 hw => ?_)
  refine j_icmp_eq C 1328 dL_law_959 (by decide) (fun z => ?_) (fun z => ?_)
  · replace hw := hw.1 z
    exact hK fd ik u1.2.2.2.2.1 u1.2.2.2.2.2.1 u1.2.2.2.2.2.2.1 u1.2.2.2.2.2.2.2.1 u1.2.2.2.2.2.2.2.2.1 u1.2.2.2.2.2.2.2.2.2.1 u1.2.2.2.2.2.2.2.2.2.2.1 the u1.2.2.2.2.2.2.2.2.2.2.2.1 u1.2.2.2.2.2.2.2.2.2.2.2.2.1 u1.2.2.2.2.2.2.2.2.2.2.2.2.2.1 u1.2.2.2.2.2.2.2.2.2.2.2.2.2.2.1 u1.2.2.2.2.2.2.2.2.2.2.2.2.2.2.2.1 u1.2.2.2.2.2.2.2.2.2.2.2.2.2.2.2.2.1 u1.2.2.2.2.2.2.2.2.2.2.2.2.2.2.2.2.2.1 u1.2.2.2.2.2.2.2.2.2.2.2.2.2.2.2.2.2.2.1 u1.2.2.2.2.2.2.2.2.2.2.2.2.2.2.2.2.2.2.2.1 lhe u1.2.2.2.2.2.2.2.2.2.2.2.2.2.2.2.2.2.2.2.2.1 u1.2.2.2.2.2.2.2.2.2.2.2.2.2.2.2.2.2.2.2.2.2 ksk kze kma kki kdn kwi kdu khe kyr ksz pbb u1.1 u1.2.1 u1.2.2.1 u1.2.2.2.1 anu abi ale bnu bbi ble cnu cbi cle dnu dbi dle u2.1 mkp u2.2.1 mfo mta mbo mso mce mik u2.2.2.1 u2.2.2.2.1 u2.2.2.2.2.1 u2.2.2.2.2.2.1 u2.2.2.2.2.2.2.1 u2.2.2.2.2.2.2.2 hw
  · replace hw := hw.2 z
    refine j_iconst C 0 dL_law_962 (by decide) ?_
    exact hw.elim
set_option maxRecDepth 100000 in
set_option maxHeartbeats 8000000 in
theorem lw_case26 {l : Launch} {D : va_G} {ca : Nat → ClassId} {sd : Nat → Nat} {k : Kx} (aF aL aT aK nd tp sb sn am : Nat → Nat) (b L : Nat) (xs : Nat → Int32) {cs sl : Nat} (x3 : Int32) (fd : Nat → Int32) (ik : Int32) (tsk : Nat → Int32) (tze : Nat → Int32) (tma : Nat → Int32) (tki : Nat → Int32) (tdn : Nat → Int32) (twi : Nat → Int32) (tdu : Nat → Int32) (the : Nat → Int32) (tyr : Int32) (tsz : Int32) (lsk : Nat → Int32) (lze : Nat → Int32) (lma : Nat → Int32) (lki : Nat → Int32) (ldn : Nat → Int32) (lwi : Nat → Int32) (ldu : Nat → Int32) (lhe : Nat → Int32) (lyr : Int32) (lsz : Int32) (ksk : Nat → Int32) (kze : Nat → Int32) (kma : Nat → Int32) (kki : Nat → Int32) (kdn : Nat → Int32) (kwi : Nat → Int32) (kdu : Nat → Int32) (khe : Nat → Int32) (kyr : Int32) (ksz : Int32) (pbb : Nat → Int32) (pln : Int32) (pso : Int32) (ppl : Int32) (pbh : Int32) (anu : Nat → Int64) (abi : Int32) (ale : Int32) (bnu : Nat → Int64) (bbi : Int32) (ble : Int32) (cnu : Nat → Int64) (cbi : Int32) (cle : Int32) (dnu : Nat → Int64) (dbi : Int32) (dle : Int32) (mm : Nat → Int32) (mkp : Nat → Int32) (mwa : Nat → Int32) (mfo : Nat → Int32) (mta : Nat → Int32) (mbo : Nat → Int32) (mso : Nat → Int32) (mce : Nat → Int64) (mik : Int32) (mtd : Int32) (mtk : Int32) (mbg : Int32) (maa : Int32) (mvl : Int32) (mbd : Int32) (C : Cx D ca sd cL_law RL (some .boolean) room_1 k 4) (hB : Wx k) (hX : Sx b L xs k) (hcs : cs + 0 ≤ room_1.cells ∧ sl + 0 ≤ room_1.slots) (hi1 : vp_in (x3 + 1) L) (hi2 : vp_in (x3 + 2) L) (hi3 : vp_in (x3 + 3) L) (hi4 : vp_in (x3 + 4) L) (hi5 : vp_in (x3 + 5) L) (hR : RR fd ik tsk tze tma tki tdn twi tdu the tyr tsz lsk lze lma lki ldn lwi ldu lhe lyr lsz ksk kze kma kki kdn kwi kdu khe kyr ksz pbb pln pso ppl pbh anu abi ale bnu bbi ble cnu cbi cle dnu dbi dle mm mkp mwa mfo mta mbo mso mce mik mtd mtk mbg maa mvl mbd) (hK : ∀ (fd' : Nat → Int32) (ik' : Int32) (tsk' : Nat → Int32) (tze' : Nat → Int32) (tma' : Nat → Int32) (tki' : Nat → Int32) (tdn' : Nat → Int32) (twi' : Nat → Int32) (tdu' : Nat → Int32) (the' : Nat → Int32) (tyr' : Int32) (tsz' : Int32) (lsk' : Nat → Int32) (lze' : Nat → Int32) (lma' : Nat → Int32) (lki' : Nat → Int32) (ldn' : Nat → Int32) (lwi' : Nat → Int32) (ldu' : Nat → Int32) (lhe' : Nat → Int32) (lyr' : Int32) (lsz' : Int32) (ksk' : Nat → Int32) (kze' : Nat → Int32) (kma' : Nat → Int32) (kki' : Nat → Int32) (kdn' : Nat → Int32) (kwi' : Nat → Int32) (kdu' : Nat → Int32) (khe' : Nat → Int32) (kyr' : Int32) (ksz' : Int32) (pbb' : Nat → Int32) (pln' : Int32) (pso' : Int32) (ppl' : Int32) (pbh' : Int32) (anu' : Nat → Int64) (abi' : Int32) (ale' : Int32) (bnu' : Nat → Int64) (bbi' : Int32) (ble' : Int32) (cnu' : Nat → Int64) (cbi' : Int32) (cle' : Int32) (dnu' : Nat → Int64) (dbi' : Int32) (dle' : Int32) (mm' : Nat → Int32) (mkp' : Nat → Int32) (mwa' : Nat → Int32) (mfo' : Nat → Int32) (mta' : Nat → Int32) (mbo' : Nat → Int32) (mso' : Nat → Int32) (mce' : Nat → Int64) (mik' : Int32) (mtd' : Int32) (mtk' : Int32) (mbg' : Int32) (maa' : Int32) (mvl' : Int32) (mbd' : Int32), RR fd' ik' tsk' tze' tma' tki' tdn' twi' tdu' the' tyr' tsz' lsk' lze' lma' lki' ldn' lwi' ldu' lhe' lyr' lsz' ksk' kze' kma' kki' kdn' kwi' kdu' khe' kyr' ksz' pbb' pln' pso' ppl' pbh' anu' abi' ale' bnu' bbi' ble' cnu' cbi' cle' dnu' dbi' dle' mm' mkp' mwa' mfo' mta' mbo' mso' mce' mik' mtd' mtk' mbg' maa' mvl' mbd' → J l D k 4 cs sl 1328 ((wD ca (aF 2) fd') ++ ((wF (aF 0) (aL 0) (aT 0) (aK 0) (tp 0) (aF 1) (aF 2) ik') ++ ((wN ca nd sd) ++ ((wC ca aT (nd 0) tsk' tze' tma' tki' tdn' twi' tdu' the' tyr' tsz') ++ ((wC ca aL (nd 0) lsk' lze' lma' lki' ldn' lwi' ldu' lhe' lyr' lsz') ++ ((wC ca aK (nd 0) ksk' kze' kma' kki' kdn' kwi' kdu' khe' kyr' ksz') ++ ((wT ca tp (nd 0) pbb' pln' pso' ppl' pbh') ++ ((wA ca (aF 1) sb) ++ ((wS ca (sb 0) (sn 0) anu' abi' ale') ++ ((wS ca (sb 1) (sn 1) bnu' bbi' ble') ++ ((wS ca (sb 2) (sn 2) cnu' cbi' cle') ++ ((wS ca (sb 3) (sn 3) dnu' dbi' dle') ++ (wM ca am mm' mkp' mwa' mfo' mta' mbo' mso' mce' mik' mtd' mtk' mbg' maa' mvl' mbd'))))))))))))) [(0, .ref b), (1, .ref (aF 0)), (2, .ref (am 0)), (3, .int x3)] []) : J l D k 4 cs sl 964 ((wD ca (aF 2) fd) ++ ((wF (aF 0) (aL 0) (aT 0) (aK 0) (tp 0) (aF 1) (aF 2) ik) ++ ((wN ca nd sd) ++ ((wC ca aT (nd 0) tsk tze tma tki tdn twi tdu the tyr tsz) ++ ((wC ca aL (nd 0) lsk lze lma lki ldn lwi ldu lhe lyr lsz) ++ ((wC ca aK (nd 0) ksk kze kma kki kdn kwi kdu khe kyr ksz) ++ ((wT ca tp (nd 0) pbb pln pso ppl pbh) ++ ((wA ca (aF 1) sb) ++ ((wS ca (sb 0) (sn 0) anu abi ale) ++ ((wS ca (sb 1) (sn 1) bnu bbi ble) ++ ((wS ca (sb 2) (sn 2) cnu cbi cle) ++ ((wS ca (sb 3) (sn 3) dnu dbi dle) ++ (wM ca am mm mkp mwa mfo mta mbo mso mce mik mtd mtk mbg maa mvl mbd))))))))))))) [(0, .ref b), (1, .ref (aF 0)), (2, .ref (am 0)), (3, .int x3)] [] := by
  obtain ⟨h1, h2, h3, h4, s0, s1, s2, s3⟩ := id hR
  have hw : ((xs ((x3 + 1).toNatClampNeg)) = 1 → wp_X9_sheet fd bnu bbi ble (xs ((x3 + 1).toNatClampNeg)) (xs ((x3 + 2).toNatClampNeg)) (xs ((x3 + 3).toNatClampNeg)) (fun r10 c10_0 c10_1 c10_2 c10_3 => wp_X10_sheet mfo mbo mso mce (xs ((x3 + 1).toNatClampNeg)) (xs ((x3 + 2).toNatClampNeg)) (xs ((x3 + 3).toNatClampNeg)) (fun r11 c11_0 c11_1 c11_2 c11_3 => (r10 = r11 → RR c10_0 ik tsk tze tma tki tdn twi tdu the tyr tsz lsk lze lma lki ldn lwi ldu lhe lyr lsz ksk kze kma kki kdn kwi kdu khe kyr ksz pbb pln pso ppl pbh anu abi ale c10_1 c10_2 c10_3 cnu cbi cle dnu dbi dle mm mkp mwa c11_0 mta c11_1 c11_2 c11_3 mik mtd mtk mbg maa mvl mbd) ∧ (¬ (r10 = r11) → False)))) ∧ (¬ ((xs ((x3 + 1).toNatClampNeg)) = 1) → ((xs ((x3 + 1).toNatClampNeg)) = 2 → wp_X9_sheet fd cnu cbi cle (xs ((x3 + 1).toNatClampNeg)) (xs ((x3 + 2).toNatClampNeg)) (xs ((x3 + 3).toNatClampNeg)) (fun r8 c8_0 c8_1 c8_2 c8_3 => wp_X10_sheet mfo mbo mso mce (xs ((x3 + 1).toNatClampNeg)) (xs ((x3 + 2).toNatClampNeg)) (xs ((x3 + 3).toNatClampNeg)) (fun r9 c9_0 c9_1 c9_2 c9_3 => (r8 = r9 → RR c8_0 ik tsk tze tma tki tdn twi tdu the tyr tsz lsk lze lma lki ldn lwi ldu lhe lyr lsz ksk kze kma kki kdn kwi kdu khe kyr ksz pbb pln pso ppl pbh anu abi ale bnu bbi ble c8_1 c8_2 c8_3 dnu dbi dle mm mkp mwa c9_0 mta c9_1 c9_2 c9_3 mik mtd mtk mbg maa mvl mbd) ∧ (¬ (r8 = r9) → False)))) ∧ (¬ ((xs ((x3 + 1).toNatClampNeg)) = 2) → ((xs ((x3 + 1).toNatClampNeg)) = 3 → wp_X9_sheet fd dnu dbi dle (xs ((x3 + 1).toNatClampNeg)) (xs ((x3 + 2).toNatClampNeg)) (xs ((x3 + 3).toNatClampNeg)) (fun r6 c6_0 c6_1 c6_2 c6_3 => wp_X10_sheet mfo mbo mso mce (xs ((x3 + 1).toNatClampNeg)) (xs ((x3 + 2).toNatClampNeg)) (xs ((x3 + 3).toNatClampNeg)) (fun r7 c7_0 c7_1 c7_2 c7_3 => (r6 = r7 → RR c6_0 ik tsk tze tma tki tdn twi tdu the tyr tsz lsk lze lma lki ldn lwi ldu lhe lyr lsz ksk kze kma kki kdn kwi kdu khe kyr ksz pbb pln pso ppl pbh anu abi ale bnu bbi ble cnu cbi cle c6_1 c6_2 c6_3 mm mkp mwa c7_0 mta c7_1 c7_2 c7_3 mik mtd mtk mbg maa mvl mbd) ∧ (¬ (r6 = r7) → False)))) ∧ (¬ ((xs ((x3 + 1).toNatClampNeg)) = 3) → wp_X9_sheet fd anu abi ale (xs ((x3 + 1).toNatClampNeg)) (xs ((x3 + 2).toNatClampNeg)) (xs ((x3 + 3).toNatClampNeg)) (fun r4 c4_0 c4_1 c4_2 c4_3 => wp_X10_sheet mfo mbo mso mce (xs ((x3 + 1).toNatClampNeg)) (xs ((x3 + 2).toNatClampNeg)) (xs ((x3 + 3).toNatClampNeg)) (fun r5 c5_0 c5_1 c5_2 c5_3 => (r4 = r5 → RR c4_0 ik tsk tze tma tki tdn twi tdu the tyr tsz lsk lze lma lki ldn lwi ldu lhe lyr lsz ksk kze kma kki kdn kwi kdu khe kyr ksz pbb pln pso ppl pbh c4_1 c4_2 c4_3 bnu bbi ble cnu cbi cle dnu dbi dle mm mkp mwa c5_0 mta c5_1 c5_2 c5_3 mik mtd mtk mbg maa mvl mbd) ∧ (¬ (r4 = r5) → False)))))) := by
    refine ⟨fun w1 => ?_, fun w1 => ?_⟩
    · exact sim_sheet h2 (by decide) s1 _ _ _ (hjk w1 (by decide)) (fun _ _ _ _ _ _ _ _ _ g2 g5 gF => ⟨fun _ => ⟨h1, g2, h3, h4, gF.s (by decide) (by decide) s0, g5, gF.s (by decide) (by decide) s2, gF.s (by decide) (by decide) s3⟩, fun z => absurd rfl z⟩)
    · refine ⟨fun w2 => ?_, fun w2 => ?_⟩
      · exact sim_sheet h2 (by decide) s2 _ _ _ (hjk w2 (by decide)) (fun _ _ _ _ _ _ _ _ _ g2 g5 gF => ⟨fun _ => ⟨h1, g2, h3, h4, gF.s (by decide) (by decide) s0, gF.s (by decide) (by decide) s1, g5, gF.s (by decide) (by decide) s3⟩, fun z => absurd rfl z⟩)
      · refine ⟨fun w3 => ?_, fun w3 => ?_⟩
        · exact sim_sheet h2 (by decide) s3 _ _ _ (hjk w3 (by decide)) (fun _ _ _ _ _ _ _ _ _ g2 g5 gF => ⟨fun _ => ⟨h1, g2, h3, h4, gF.s (by decide) (by decide) s0, gF.s (by decide) (by decide) s1, gF.s (by decide) (by decide) s2, g5⟩, fun z => absurd rfl z⟩)
        · exact sim_sheet h2 (by decide) s0 _ _ _ (hj0 w1 w2 w3) (fun _ _ _ _ _ _ _ _ _ g2 g5 gF => ⟨fun _ => ⟨h1, g2, h3, h4, g5, gF.s (by decide) (by decide) s1, gF.s (by decide) (by decide) s2, gF.s (by decide) (by decide) s3⟩, fun z => absurd rfl z⟩)
  refine j_aload_n C 1 dL_law_964 rfl ?_
  refine j_aload_n C 0 dL_law_965 rfl ?_
  refine j_iload_n C 3 dL_law_966 rfl ?_
  refine j_iconst C 1 dL_law_967 (by decide) ?_
  refine j_iadd C dL_law_968 ?_
  refine j_sld C hX dL_law_969 hi1 ?_
  refine j_aload_n C 0 dL_law_970 rfl ?_
  refine j_iload_n C 3 dL_law_971 rfl ?_
  refine j_iconst C 2 dL_law_972 (by decide) ?_
  refine j_iadd C dL_law_973 ?_
  refine j_sld C hX dL_law_974 hi2 ?_
  refine j_aload_n C 0 dL_law_975 rfl ?_
  refine j_iload_n C 3 dL_law_976 rfl ?_
  refine j_iconst C 3 dL_law_977 (by decide) ?_
  refine j_iadd C dL_law_978 ?_
  refine j_sld C hX dL_law_979 hi3 ?_
  by_cases w1 : (xs ((x3 + 1).toNatClampNeg)) = 1
  · replace hw := hw.1 w1
    refine j_ciP C hB [0, 1, 38, 41, 42] [2, 3, 4, 5, 6, 7, 8, 9, 10, 11, 12, 13, 14, 15, 16, 17, 18, 19, 20, 21, 22, 23, 24, 25, 26, 27, 28, 29, 30, 31, 32, 33, 34, 35, 36, 37, 39, 40, 43, 44, 45, 46, 47, 48, 49, 50, 51, 52, 53, 54, 55] [51, 52, 0, 1, 2, 3, 4, 5, 6, 7, 8, 9, 10, 11, 12, 13, 14, 15, 16, 17, 18, 19, 20, 21, 22, 23, 24, 25, 26, 27, 28, 29, 30, 31, 32, 33, 34, 35, 53, 36, 37, 54, 55, 38, 39, 40, 41, 42, 43, 44, 45, 46, 47, 48, 49, 50] (fun u10 : (Nat → Int32) × (Nat → Int64) × (Int32) × (Int32) => ((wD ca (aF 2) u10.1) ++ ((wF (aF 0) (aL 0) (aT 0) (aK 0) (tp 0) (aF 1) (aF 2) ik) ++ ((wN ca nd sd) ++ ((wC ca aT (nd 0) tsk tze tma tki tdn twi tdu the tyr tsz) ++ ((wC ca aL (nd 0) lsk lze lma lki ldn lwi ldu lhe lyr lsz) ++ ((wC ca aK (nd 0) ksk kze kma kki kdn kwi kdu khe kyr ksz) ++ ((wT ca tp (nd 0) pbb pln pso ppl pbh) ++ ((wA ca (aF 1) sb) ++ ((wS ca (sb 0) (sn 0) anu abi ale) ++ ((wS ca (sb 1) (sn 1) u10.2.1 u10.2.2.1 u10.2.2.2) ++ ((wS ca (sb 2) (sn 2) cnu cbi cle) ++ ((wS ca (sb 3) (sn 3) dnu dbi dle) ++ (wM ca am mm mkp mwa mfo mta mbo mso mce mik mtd mtk mbg maa mvl mbd)))))))))))))) ((wN ca nd sd) ++ ((wC ca aT (nd 0) tsk tze tma tki tdn twi tdu the tyr tsz) ++ ((wC ca aL (nd 0) lsk lze lma lki ldn lwi ldu lhe lyr lsz) ++ ((wC ca aK (nd 0) ksk kze kma kki kdn kwi kdu khe kyr ksz) ++ ((wT ca tp (nd 0) pbb pln pso ppl pbh) ++ ((wS ca (sb 0) (sn 0) anu abi ale) ++ ((wS ca (sb 2) (sn 2) cnu cbi cle) ++ ((wS ca (sb 3) (sn 3) dnu dbi dle) ++ (wM ca am mm mkp mwa mfo mta mbo mso mce mik mtd mtk mbg maa mvl mbd))))))))) rfl rfl rfl (by decide) rfl (fun _ => rfl) (jr_V C lkV_L_121 (c_X9_sheet aF aL aT aK nd tp sb sn 1 fd ik bnu bbi ble (xs ((x3 + 1).toNatClampNeg)) (xs ((x3 + 2).toNatClampNeg)) (xs ((x3 + 3).toNatClampNeg)) (hjk w1 (by decide)) hw) ⟨rfl, rfl, by decide, by decide, hcs.1, hcs.2⟩ [0, 1, 38, 41, 42] (by decide) rfl (fx_rw C hB [0, 1, 38, 41, 42] rfl) 1 9 rfl rfl rfl rfl (Nat.le_of_ble_eq_true rfl) dL_law_980) (fun r10 u10 hw => ?_)
    refine j_aload_n C 2 dL_law_983 rfl ?_
    refine j_aload_n C 0 dL_law_984 rfl ?_
    refine j_iload_n C 3 dL_law_985 rfl ?_
    refine j_iconst C 1 dL_law_986 (by decide) ?_
    refine j_iadd C dL_law_987 ?_
    refine j_sld C hX dL_law_988 hi1 ?_
    refine j_aload_n C 0 dL_law_989 rfl ?_
    refine j_iload_n C 3 dL_law_990 rfl ?_
    refine j_iconst C 2 dL_law_991 (by decide) ?_
    refine j_iadd C dL_law_992 ?_
    refine j_sld C hX dL_law_993 hi2 ?_
    refine j_aload_n C 0 dL_law_994 rfl ?_
    refine j_iload_n C 3 dL_law_995 rfl ?_
    refine j_iconst C 3 dL_law_996 (by decide) ?_
    refine j_iadd C dL_law_997 ?_
    refine j_sld C hX dL_law_998 hi3 ?_
    refine j_ciT C hB 47 56 (fun u11 : (Nat → Int32) × (Nat → Int32) × (Nat → Int32) × (Nat → Int64) => ((wD ca (aF 2) u10.1) ++ ((wF (aF 0) (aL 0) (aT 0) (aK 0) (tp 0) (aF 1) (aF 2) ik) ++ ((wN ca nd sd) ++ ((wC ca aT (nd 0) tsk tze tma tki tdn twi tdu the tyr tsz) ++ ((wC ca aL (nd 0) lsk lze lma lki ldn lwi ldu lhe lyr lsz) ++ ((wC ca aK (nd 0) ksk kze kma kki kdn kwi kdu khe kyr ksz) ++ ((wT ca tp (nd 0) pbb pln pso ppl pbh) ++ ((wA ca (aF 1) sb) ++ ((wS ca (sb 0) (sn 0) anu abi ale) ++ ((wS ca (sb 1) (sn 1) u10.2.1 u10.2.2.1 u10.2.2.2) ++ ((wS ca (sb 2) (sn 2) cnu cbi cle) ++ ((wS ca (sb 3) (sn 3) dnu dbi dle) ++ (wM ca am mm mkp mwa u11.1 mta u11.2.1 u11.2.2.1 u11.2.2.2 mik mtd mtk mbg maa mvl mbd)))))))))))))) rfl (fun _ => rfl) (jr_V C lkV_L_124 (c_X10_sheet am mm mkp mwa mfo mta mbo mso mce mik mtd mtk mbg maa mvl mbd (xs ((x3 + 1).toNatClampNeg)) (xs ((x3 + 2).toNatClampNeg)) (xs ((x3 + 3).toNatClampNeg)) hw) ⟨rfl, rfl, by decide, by decide, hcs.1, hcs.2⟩ [47, 48, 49, 50, 51, 52, 53, 54, 55] (by decide) rfl (fx_rw C hB [47, 48, 49, 50, 51, 52, 53, 54, 55] rfl) 47 10 rfl rfl rfl rfl (Nat.le_of_ble_eq_true rfl) dL_law_999) (fun r11 u11 hw => ?_)
    refine j_icmp_eq C 1328 dL_law_1002 (by decide) (fun z => ?_) (fun z => ?_)
    · replace hw := hw.1 z
      exact hK u10.1 ik tsk tze tma tki tdn twi tdu the tyr tsz lsk lze lma lki ldn lwi ldu lhe lyr lsz ksk kze kma kki kdn kwi kdu khe kyr ksz pbb pln pso ppl pbh anu abi ale u10.2.1 u10.2.2.1 u10.2.2.2 cnu cbi cle dnu dbi dle mm mkp mwa u11.1 mta u11.2.1 u11.2.2.1 u11.2.2.2 mik mtd mtk mbg maa mvl mbd hw
    · replace hw := hw.2 z
      refine j_iconst C 0 dL_law_1005 (by decide) ?_
      exact hw.elim
  · replace hw := hw.2 w1
    by_cases w2 : (xs ((x3 + 1).toNatClampNeg)) = 2
    · replace hw := hw.1 w2
      refine j_ciP C hB [0, 1, 38, 43, 44] [2, 3, 4, 5, 6, 7, 8, 9, 10, 11, 12, 13, 14, 15, 16, 17, 18, 19, 20, 21, 22, 23, 24, 25, 26, 27, 28, 29, 30, 31, 32, 33, 34, 35, 36, 37, 39, 40, 41, 42, 45, 46, 47, 48, 49, 50, 51, 52, 53, 54, 55] [51, 52, 0, 1, 2, 3, 4, 5, 6, 7, 8, 9, 10, 11, 12, 13, 14, 15, 16, 17, 18, 19, 20, 21, 22, 23, 24, 25, 26, 27, 28, 29, 30, 31, 32, 33, 34, 35, 53, 36, 37, 38, 39, 54, 55, 40, 41, 42, 43, 44, 45, 46, 47, 48, 49, 50] (fun u8 : (Nat → Int32) × (Nat → Int64) × (Int32) × (Int32) => ((wD ca (aF 2) u8.1) ++ ((wF (aF 0) (aL 0) (aT 0) (aK 0) (tp 0) (aF 1) (aF 2) ik) ++ ((wN ca nd sd) ++ ((wC ca aT (nd 0) tsk tze tma tki tdn twi tdu the tyr tsz) ++ ((wC ca aL (nd 0) lsk lze lma lki ldn lwi ldu lhe lyr lsz) ++ ((wC ca aK (nd 0) ksk kze kma kki kdn kwi kdu khe kyr ksz) ++ ((wT ca tp (nd 0) pbb pln pso ppl pbh) ++ ((wA ca (aF 1) sb) ++ ((wS ca (sb 0) (sn 0) anu abi ale) ++ ((wS ca (sb 1) (sn 1) bnu bbi ble) ++ ((wS ca (sb 2) (sn 2) u8.2.1 u8.2.2.1 u8.2.2.2) ++ ((wS ca (sb 3) (sn 3) dnu dbi dle) ++ (wM ca am mm mkp mwa mfo mta mbo mso mce mik mtd mtk mbg maa mvl mbd)))))))))))))) ((wN ca nd sd) ++ ((wC ca aT (nd 0) tsk tze tma tki tdn twi tdu the tyr tsz) ++ ((wC ca aL (nd 0) lsk lze lma lki ldn lwi ldu lhe lyr lsz) ++ ((wC ca aK (nd 0) ksk kze kma kki kdn kwi kdu khe kyr ksz) ++ ((wT ca tp (nd 0) pbb pln pso ppl pbh) ++ ((wS ca (sb 0) (sn 0) anu abi ale) ++ ((wS ca (sb 1) (sn 1) bnu bbi ble) ++ ((wS ca (sb 3) (sn 3) dnu dbi dle) ++ (wM ca am mm mkp mwa mfo mta mbo mso mce mik mtd mtk mbg maa mvl mbd))))))))) rfl rfl rfl (by decide) rfl (fun _ => rfl) (jr_V C lkV_L_121 (c_X9_sheet aF aL aT aK nd tp sb sn 2 fd ik cnu cbi cle (xs ((x3 + 1).toNatClampNeg)) (xs ((x3 + 2).toNatClampNeg)) (xs ((x3 + 3).toNatClampNeg)) (hjk w2 (by decide)) hw) ⟨rfl, rfl, by decide, by decide, hcs.1, hcs.2⟩ [0, 1, 38, 43, 44] (by decide) rfl (fx_rw C hB [0, 1, 38, 43, 44] rfl) 1 9 rfl rfl rfl rfl (Nat.le_of_ble_eq_true rfl) dL_law_980) (fun r8 u8 hw => ?_)
      refine j_aload_n C 2 dL_law_983 rfl ?_
      refine j_aload_n C 0 dL_law_984 rfl ?_
      refine j_iload_n C 3 dL_law_985 rfl ?_
      refine j_iconst C 1 dL_law_986 (by decide) ?_
      refine j_iadd C dL_law_987 ?_
      refine j_sld C hX dL_law_988 hi1 ?_
      refine j_aload_n C 0 dL_law_989 rfl ?_
      refine j_iload_n C 3 dL_law_990 rfl ?_
      refine j_iconst C 2 dL_law_991 (by decide) ?_
      refine j_iadd C dL_law_992 ?_
      refine j_sld C hX dL_law_993 hi2 ?_
      refine j_aload_n C 0 dL_law_994 rfl ?_
      refine j_iload_n C 3 dL_law_995 rfl ?_
      refine j_iconst C 3 dL_law_996 (by decide) ?_
      refine j_iadd C dL_law_997 ?_
      refine j_sld C hX dL_law_998 hi3 ?_
      refine j_ciT C hB 47 56 (fun u9 : (Nat → Int32) × (Nat → Int32) × (Nat → Int32) × (Nat → Int64) => ((wD ca (aF 2) u8.1) ++ ((wF (aF 0) (aL 0) (aT 0) (aK 0) (tp 0) (aF 1) (aF 2) ik) ++ ((wN ca nd sd) ++ ((wC ca aT (nd 0) tsk tze tma tki tdn twi tdu the tyr tsz) ++ ((wC ca aL (nd 0) lsk lze lma lki ldn lwi ldu lhe lyr lsz) ++ ((wC ca aK (nd 0) ksk kze kma kki kdn kwi kdu khe kyr ksz) ++ ((wT ca tp (nd 0) pbb pln pso ppl pbh) ++ ((wA ca (aF 1) sb) ++ ((wS ca (sb 0) (sn 0) anu abi ale) ++ ((wS ca (sb 1) (sn 1) bnu bbi ble) ++ ((wS ca (sb 2) (sn 2) u8.2.1 u8.2.2.1 u8.2.2.2) ++ ((wS ca (sb 3) (sn 3) dnu dbi dle) ++ (wM ca am mm mkp mwa u9.1 mta u9.2.1 u9.2.2.1 u9.2.2.2 mik mtd mtk mbg maa mvl mbd)))))))))))))) rfl (fun _ => rfl) (jr_V C lkV_L_124 (c_X10_sheet am mm mkp mwa mfo mta mbo mso mce mik mtd mtk mbg maa mvl mbd (xs ((x3 + 1).toNatClampNeg)) (xs ((x3 + 2).toNatClampNeg)) (xs ((x3 + 3).toNatClampNeg)) hw) ⟨rfl, rfl, by decide, by decide, hcs.1, hcs.2⟩ [47, 48, 49, 50, 51, 52, 53, 54, 55] (by decide) rfl (fx_rw C hB [47, 48, 49, 50, 51, 52, 53, 54, 55] rfl) 47 10 rfl rfl rfl rfl (Nat.le_of_ble_eq_true rfl) dL_law_999) (fun r9 u9 hw => ?_)
      refine j_icmp_eq C 1328 dL_law_1002 (by decide) (fun z => ?_) (fun z => ?_)
      · replace hw := hw.1 z
        exact hK u8.1 ik tsk tze tma tki tdn twi tdu the tyr tsz lsk lze lma lki ldn lwi ldu lhe lyr lsz ksk kze kma kki kdn kwi kdu khe kyr ksz pbb pln pso ppl pbh anu abi ale bnu bbi ble u8.2.1 u8.2.2.1 u8.2.2.2 dnu dbi dle mm mkp mwa u9.1 mta u9.2.1 u9.2.2.1 u9.2.2.2 mik mtd mtk mbg maa mvl mbd hw
      · replace hw := hw.2 z
        refine j_iconst C 0 dL_law_1005 (by decide) ?_
        exact hw.elim
    · replace hw := hw.2 w2
      by_cases w3 : (xs ((x3 + 1).toNatClampNeg)) = 3
      · replace hw := hw.1 w3
        refine j_ciP C hB [0, 1, 38, 45, 46] [2, 3, 4, 5, 6, 7, 8, 9, 10, 11, 12, 13, 14, 15, 16, 17, 18, 19, 20, 21, 22, 23, 24, 25, 26, 27, 28, 29, 30, 31, 32, 33, 34, 35, 36, 37, 39, 40, 41, 42, 43, 44, 47, 48, 49, 50, 51, 52, 53, 54, 55] [51, 52, 0, 1, 2, 3, 4, 5, 6, 7, 8, 9, 10, 11, 12, 13, 14, 15, 16, 17, 18, 19, 20, 21, 22, 23, 24, 25, 26, 27, 28, 29, 30, 31, 32, 33, 34, 35, 53, 36, 37, 38, 39, 40, 41, 54, 55, 42, 43, 44, 45, 46, 47, 48, 49, 50] (fun u6 : (Nat → Int32) × (Nat → Int64) × (Int32) × (Int32) => ((wD ca (aF 2) u6.1) ++ ((wF (aF 0) (aL 0) (aT 0) (aK 0) (tp 0) (aF 1) (aF 2) ik) ++ ((wN ca nd sd) ++ ((wC ca aT (nd 0) tsk tze tma tki tdn twi tdu the tyr tsz) ++ ((wC ca aL (nd 0) lsk lze lma lki ldn lwi ldu lhe lyr lsz) ++ ((wC ca aK (nd 0) ksk kze kma kki kdn kwi kdu khe kyr ksz) ++ ((wT ca tp (nd 0) pbb pln pso ppl pbh) ++ ((wA ca (aF 1) sb) ++ ((wS ca (sb 0) (sn 0) anu abi ale) ++ ((wS ca (sb 1) (sn 1) bnu bbi ble) ++ ((wS ca (sb 2) (sn 2) cnu cbi cle) ++ ((wS ca (sb 3) (sn 3) u6.2.1 u6.2.2.1 u6.2.2.2) ++ (wM ca am mm mkp mwa mfo mta mbo mso mce mik mtd mtk mbg maa mvl mbd)))))))))))))) ((wN ca nd sd) ++ ((wC ca aT (nd 0) tsk tze tma tki tdn twi tdu the tyr tsz) ++ ((wC ca aL (nd 0) lsk lze lma lki ldn lwi ldu lhe lyr lsz) ++ ((wC ca aK (nd 0) ksk kze kma kki kdn kwi kdu khe kyr ksz) ++ ((wT ca tp (nd 0) pbb pln pso ppl pbh) ++ ((wS ca (sb 0) (sn 0) anu abi ale) ++ ((wS ca (sb 1) (sn 1) bnu bbi ble) ++ ((wS ca (sb 2) (sn 2) cnu cbi cle) ++ (wM ca am mm mkp mwa mfo mta mbo mso mce mik mtd mtk mbg maa mvl mbd))))))))) rfl rfl rfl (by decide) rfl (fun _ => rfl) (jr_V C lkV_L_121 (c_X9_sheet aF aL aT aK nd tp sb sn 3 fd ik dnu dbi dle (xs ((x3 + 1).toNatClampNeg)) (xs ((x3 + 2).toNatClampNeg)) (xs ((x3 + 3).toNatClampNeg)) (hjk w3 (by decide)) hw) ⟨rfl, rfl, by decide, by decide, hcs.1, hcs.2⟩ [0, 1, 38, 45, 46] (by decide) rfl (fx_rw C hB [0, 1, 38, 45, 46] rfl) 1 9 rfl rfl rfl rfl (Nat.le_of_ble_eq_true rfl) dL_law_980) (fun r6 u6 hw => ?_)
        refine j_aload_n C 2 dL_law_983 rfl ?_
        refine j_aload_n C 0 dL_law_984 rfl ?_
        refine j_iload_n C 3 dL_law_985 rfl ?_
        refine j_iconst C 1 dL_law_986 (by decide) ?_
        refine j_iadd C dL_law_987 ?_
        refine j_sld C hX dL_law_988 hi1 ?_
        refine j_aload_n C 0 dL_law_989 rfl ?_
        refine j_iload_n C 3 dL_law_990 rfl ?_
        refine j_iconst C 2 dL_law_991 (by decide) ?_
        refine j_iadd C dL_law_992 ?_
        refine j_sld C hX dL_law_993 hi2 ?_
        refine j_aload_n C 0 dL_law_994 rfl ?_
        refine j_iload_n C 3 dL_law_995 rfl ?_
        refine j_iconst C 3 dL_law_996 (by decide) ?_
        refine j_iadd C dL_law_997 ?_
        refine j_sld C hX dL_law_998 hi3 ?_
        refine j_ciT C hB 47 56 (fun u7 : (Nat → Int32) × (Nat → Int32) × (Nat → Int32) × (Nat → Int64) => ((wD ca (aF 2) u6.1) ++ ((wF (aF 0) (aL 0) (aT 0) (aK 0) (tp 0) (aF 1) (aF 2) ik) ++ ((wN ca nd sd) ++ ((wC ca aT (nd 0) tsk tze tma tki tdn twi tdu the tyr tsz) ++ ((wC ca aL (nd 0) lsk lze lma lki ldn lwi ldu lhe lyr lsz) ++ ((wC ca aK (nd 0) ksk kze kma kki kdn kwi kdu khe kyr ksz) ++ ((wT ca tp (nd 0) pbb pln pso ppl pbh) ++ ((wA ca (aF 1) sb) ++ ((wS ca (sb 0) (sn 0) anu abi ale) ++ ((wS ca (sb 1) (sn 1) bnu bbi ble) ++ ((wS ca (sb 2) (sn 2) cnu cbi cle) ++ ((wS ca (sb 3) (sn 3) u6.2.1 u6.2.2.1 u6.2.2.2) ++ (wM ca am mm mkp mwa u7.1 mta u7.2.1 u7.2.2.1 u7.2.2.2 mik mtd mtk mbg maa mvl mbd)))))))))))))) rfl (fun _ => rfl) (jr_V C lkV_L_124 (c_X10_sheet am mm mkp mwa mfo mta mbo mso mce mik mtd mtk mbg maa mvl mbd (xs ((x3 + 1).toNatClampNeg)) (xs ((x3 + 2).toNatClampNeg)) (xs ((x3 + 3).toNatClampNeg)) hw) ⟨rfl, rfl, by decide, by decide, hcs.1, hcs.2⟩ [47, 48, 49, 50, 51, 52, 53, 54, 55] (by decide) rfl (fx_rw C hB [47, 48, 49, 50, 51, 52, 53, 54, 55] rfl) 47 10 rfl rfl rfl rfl (Nat.le_of_ble_eq_true rfl) dL_law_999) (fun r7 u7 hw => ?_)
        refine j_icmp_eq C 1328 dL_law_1002 (by decide) (fun z => ?_) (fun z => ?_)
        · replace hw := hw.1 z
          exact hK u6.1 ik tsk tze tma tki tdn twi tdu the tyr tsz lsk lze lma lki ldn lwi ldu lhe lyr lsz ksk kze kma kki kdn kwi kdu khe kyr ksz pbb pln pso ppl pbh anu abi ale bnu bbi ble cnu cbi cle u6.2.1 u6.2.2.1 u6.2.2.2 mm mkp mwa u7.1 mta u7.2.1 u7.2.2.1 u7.2.2.2 mik mtd mtk mbg maa mvl mbd hw
        · replace hw := hw.2 z
          refine j_iconst C 0 dL_law_1005 (by decide) ?_
          exact hw.elim
      · replace hw := hw.2 w3
        refine j_ciP C hB [0, 1, 38, 39, 40] [2, 3, 4, 5, 6, 7, 8, 9, 10, 11, 12, 13, 14, 15, 16, 17, 18, 19, 20, 21, 22, 23, 24, 25, 26, 27, 28, 29, 30, 31, 32, 33, 34, 35, 36, 37, 41, 42, 43, 44, 45, 46, 47, 48, 49, 50, 51, 52, 53, 54, 55] [51, 52, 0, 1, 2, 3, 4, 5, 6, 7, 8, 9, 10, 11, 12, 13, 14, 15, 16, 17, 18, 19, 20, 21, 22, 23, 24, 25, 26, 27, 28, 29, 30, 31, 32, 33, 34, 35, 53, 54, 55, 36, 37, 38, 39, 40, 41, 42, 43, 44, 45, 46, 47, 48, 49, 50] (fun u4 : (Nat → Int32) × (Nat → Int64) × (Int32) × (Int32) => ((wD ca (aF 2) u4.1) ++ ((wF (aF 0) (aL 0) (aT 0) (aK 0) (tp 0) (aF 1) (aF 2) ik) ++ ((wN ca nd sd) ++ ((wC ca aT (nd 0) tsk tze tma tki tdn twi tdu the tyr tsz) ++ ((wC ca aL (nd 0) lsk lze lma lki ldn lwi ldu lhe lyr lsz) ++ ((wC ca aK (nd 0) ksk kze kma kki kdn kwi kdu khe kyr ksz) ++ ((wT ca tp (nd 0) pbb pln pso ppl pbh) ++ ((wA ca (aF 1) sb) ++ ((wS ca (sb 0) (sn 0) u4.2.1 u4.2.2.1 u4.2.2.2) ++ ((wS ca (sb 1) (sn 1) bnu bbi ble) ++ ((wS ca (sb 2) (sn 2) cnu cbi cle) ++ ((wS ca (sb 3) (sn 3) dnu dbi dle) ++ (wM ca am mm mkp mwa mfo mta mbo mso mce mik mtd mtk mbg maa mvl mbd)))))))))))))) ((wN ca nd sd) ++ ((wC ca aT (nd 0) tsk tze tma tki tdn twi tdu the tyr tsz) ++ ((wC ca aL (nd 0) lsk lze lma lki ldn lwi ldu lhe lyr lsz) ++ ((wC ca aK (nd 0) ksk kze kma kki kdn kwi kdu khe kyr ksz) ++ ((wT ca tp (nd 0) pbb pln pso ppl pbh) ++ ((wS ca (sb 1) (sn 1) bnu bbi ble) ++ ((wS ca (sb 2) (sn 2) cnu cbi cle) ++ ((wS ca (sb 3) (sn 3) dnu dbi dle) ++ (wM ca am mm mkp mwa mfo mta mbo mso mce mik mtd mtk mbg maa mvl mbd))))))))) rfl rfl rfl (by decide) rfl (fun _ => rfl) (jr_V C lkV_L_121 (c_X9_sheet aF aL aT aK nd tp sb sn 0 fd ik anu abi ale (xs ((x3 + 1).toNatClampNeg)) (xs ((x3 + 2).toNatClampNeg)) (xs ((x3 + 3).toNatClampNeg)) (hj0 w1 w2 w3) hw) ⟨rfl, rfl, by decide, by decide, hcs.1, hcs.2⟩ [0, 1, 38, 39, 40] (by decide) rfl (fx_rw C hB [0, 1, 38, 39, 40] rfl) 1 9 rfl rfl rfl rfl (Nat.le_of_ble_eq_true rfl) dL_law_980) (fun r4 u4 hw => ?_)
        refine j_aload_n C 2 dL_law_983 rfl ?_
        refine j_aload_n C 0 dL_law_984 rfl ?_
        refine j_iload_n C 3 dL_law_985 rfl ?_
        refine j_iconst C 1 dL_law_986 (by decide) ?_
        refine j_iadd C dL_law_987 ?_
        refine j_sld C hX dL_law_988 hi1 ?_
        refine j_aload_n C 0 dL_law_989 rfl ?_
        refine j_iload_n C 3 dL_law_990 rfl ?_
        refine j_iconst C 2 dL_law_991 (by decide) ?_
        refine j_iadd C dL_law_992 ?_
        refine j_sld C hX dL_law_993 hi2 ?_
        refine j_aload_n C 0 dL_law_994 rfl ?_
        refine j_iload_n C 3 dL_law_995 rfl ?_
        refine j_iconst C 3 dL_law_996 (by decide) ?_
        refine j_iadd C dL_law_997 ?_
        refine j_sld C hX dL_law_998 hi3 ?_
        refine j_ciT C hB 47 56 (fun u5 : (Nat → Int32) × (Nat → Int32) × (Nat → Int32) × (Nat → Int64) => ((wD ca (aF 2) u4.1) ++ ((wF (aF 0) (aL 0) (aT 0) (aK 0) (tp 0) (aF 1) (aF 2) ik) ++ ((wN ca nd sd) ++ ((wC ca aT (nd 0) tsk tze tma tki tdn twi tdu the tyr tsz) ++ ((wC ca aL (nd 0) lsk lze lma lki ldn lwi ldu lhe lyr lsz) ++ ((wC ca aK (nd 0) ksk kze kma kki kdn kwi kdu khe kyr ksz) ++ ((wT ca tp (nd 0) pbb pln pso ppl pbh) ++ ((wA ca (aF 1) sb) ++ ((wS ca (sb 0) (sn 0) u4.2.1 u4.2.2.1 u4.2.2.2) ++ ((wS ca (sb 1) (sn 1) bnu bbi ble) ++ ((wS ca (sb 2) (sn 2) cnu cbi cle) ++ ((wS ca (sb 3) (sn 3) dnu dbi dle) ++ (wM ca am mm mkp mwa u5.1 mta u5.2.1 u5.2.2.1 u5.2.2.2 mik mtd mtk mbg maa mvl mbd)))))))))))))) rfl (fun _ => rfl) (jr_V C lkV_L_124 (c_X10_sheet am mm mkp mwa mfo mta mbo mso mce mik mtd mtk mbg maa mvl mbd (xs ((x3 + 1).toNatClampNeg)) (xs ((x3 + 2).toNatClampNeg)) (xs ((x3 + 3).toNatClampNeg)) hw) ⟨rfl, rfl, by decide, by decide, hcs.1, hcs.2⟩ [47, 48, 49, 50, 51, 52, 53, 54, 55] (by decide) rfl (fx_rw C hB [47, 48, 49, 50, 51, 52, 53, 54, 55] rfl) 47 10 rfl rfl rfl rfl (Nat.le_of_ble_eq_true rfl) dL_law_999) (fun r5 u5 hw => ?_)
        refine j_icmp_eq C 1328 dL_law_1002 (by decide) (fun z => ?_) (fun z => ?_)
        · replace hw := hw.1 z
          exact hK u4.1 ik tsk tze tma tki tdn twi tdu the tyr tsz lsk lze lma lki ldn lwi ldu lhe lyr lsz ksk kze kma kki kdn kwi kdu khe kyr ksz pbb pln pso ppl pbh u4.2.1 u4.2.2.1 u4.2.2.2 bnu bbi ble cnu cbi cle dnu dbi dle mm mkp mwa u5.1 mta u5.2.1 u5.2.2.1 u5.2.2.2 mik mtd mtk mbg maa mvl mbd hw
        · replace hw := hw.2 z
          refine j_iconst C 0 dL_law_1005 (by decide) ?_
          exact hw.elim
set_option maxRecDepth 100000 in
set_option maxHeartbeats 8000000 in
theorem lw_case27 {l : Launch} {D : va_G} {ca : Nat → ClassId} {sd : Nat → Nat} {k : Kx} (aF aL aT aK nd tp sb sn am : Nat → Nat) (b L : Nat) (xs : Nat → Int32) {cs sl : Nat} (x3 : Int32) (fd : Nat → Int32) (ik : Int32) (tsk : Nat → Int32) (tze : Nat → Int32) (tma : Nat → Int32) (tki : Nat → Int32) (tdn : Nat → Int32) (twi : Nat → Int32) (tdu : Nat → Int32) (the : Nat → Int32) (tyr : Int32) (tsz : Int32) (lsk : Nat → Int32) (lze : Nat → Int32) (lma : Nat → Int32) (lki : Nat → Int32) (ldn : Nat → Int32) (lwi : Nat → Int32) (ldu : Nat → Int32) (lhe : Nat → Int32) (lyr : Int32) (lsz : Int32) (ksk : Nat → Int32) (kze : Nat → Int32) (kma : Nat → Int32) (kki : Nat → Int32) (kdn : Nat → Int32) (kwi : Nat → Int32) (kdu : Nat → Int32) (khe : Nat → Int32) (kyr : Int32) (ksz : Int32) (pbb : Nat → Int32) (pln : Int32) (pso : Int32) (ppl : Int32) (pbh : Int32) (anu : Nat → Int64) (abi : Int32) (ale : Int32) (bnu : Nat → Int64) (bbi : Int32) (ble : Int32) (cnu : Nat → Int64) (cbi : Int32) (cle : Int32) (dnu : Nat → Int64) (dbi : Int32) (dle : Int32) (mm : Nat → Int32) (mkp : Nat → Int32) (mwa : Nat → Int32) (mfo : Nat → Int32) (mta : Nat → Int32) (mbo : Nat → Int32) (mso : Nat → Int32) (mce : Nat → Int64) (mik : Int32) (mtd : Int32) (mtk : Int32) (mbg : Int32) (maa : Int32) (mvl : Int32) (mbd : Int32) (C : Cx D ca sd cL_law RL (some .boolean) room_1 k 4) (hB : Wx k) (hX : Sx b L xs k) (hcs : cs + 0 ≤ room_1.cells ∧ sl + 0 ≤ room_1.slots) (hi1 : vp_in (x3 + 1) L) (hi2 : vp_in (x3 + 2) L) (hi3 : vp_in (x3 + 3) L) (hi4 : vp_in (x3 + 4) L) (hi5 : vp_in (x3 + 5) L) (hR : RR fd ik tsk tze tma tki tdn twi tdu the tyr tsz lsk lze lma lki ldn lwi ldu lhe lyr lsz ksk kze kma kki kdn kwi kdu khe kyr ksz pbb pln pso ppl pbh anu abi ale bnu bbi ble cnu cbi cle dnu dbi dle mm mkp mwa mfo mta mbo mso mce mik mtd mtk mbg maa mvl mbd) (hK : ∀ (fd' : Nat → Int32) (ik' : Int32) (tsk' : Nat → Int32) (tze' : Nat → Int32) (tma' : Nat → Int32) (tki' : Nat → Int32) (tdn' : Nat → Int32) (twi' : Nat → Int32) (tdu' : Nat → Int32) (the' : Nat → Int32) (tyr' : Int32) (tsz' : Int32) (lsk' : Nat → Int32) (lze' : Nat → Int32) (lma' : Nat → Int32) (lki' : Nat → Int32) (ldn' : Nat → Int32) (lwi' : Nat → Int32) (ldu' : Nat → Int32) (lhe' : Nat → Int32) (lyr' : Int32) (lsz' : Int32) (ksk' : Nat → Int32) (kze' : Nat → Int32) (kma' : Nat → Int32) (kki' : Nat → Int32) (kdn' : Nat → Int32) (kwi' : Nat → Int32) (kdu' : Nat → Int32) (khe' : Nat → Int32) (kyr' : Int32) (ksz' : Int32) (pbb' : Nat → Int32) (pln' : Int32) (pso' : Int32) (ppl' : Int32) (pbh' : Int32) (anu' : Nat → Int64) (abi' : Int32) (ale' : Int32) (bnu' : Nat → Int64) (bbi' : Int32) (ble' : Int32) (cnu' : Nat → Int64) (cbi' : Int32) (cle' : Int32) (dnu' : Nat → Int64) (dbi' : Int32) (dle' : Int32) (mm' : Nat → Int32) (mkp' : Nat → Int32) (mwa' : Nat → Int32) (mfo' : Nat → Int32) (mta' : Nat → Int32) (mbo' : Nat → Int32) (mso' : Nat → Int32) (mce' : Nat → Int64) (mik' : Int32) (mtd' : Int32) (mtk' : Int32) (mbg' : Int32) (maa' : Int32) (mvl' : Int32) (mbd' : Int32), RR fd' ik' tsk' tze' tma' tki' tdn' twi' tdu' the' tyr' tsz' lsk' lze' lma' lki' ldn' lwi' ldu' lhe' lyr' lsz' ksk' kze' kma' kki' kdn' kwi' kdu' khe' kyr' ksz' pbb' pln' pso' ppl' pbh' anu' abi' ale' bnu' bbi' ble' cnu' cbi' cle' dnu' dbi' dle' mm' mkp' mwa' mfo' mta' mbo' mso' mce' mik' mtd' mtk' mbg' maa' mvl' mbd' → J l D k 4 cs sl 1328 ((wD ca (aF 2) fd') ++ ((wF (aF 0) (aL 0) (aT 0) (aK 0) (tp 0) (aF 1) (aF 2) ik') ++ ((wN ca nd sd) ++ ((wC ca aT (nd 0) tsk' tze' tma' tki' tdn' twi' tdu' the' tyr' tsz') ++ ((wC ca aL (nd 0) lsk' lze' lma' lki' ldn' lwi' ldu' lhe' lyr' lsz') ++ ((wC ca aK (nd 0) ksk' kze' kma' kki' kdn' kwi' kdu' khe' kyr' ksz') ++ ((wT ca tp (nd 0) pbb' pln' pso' ppl' pbh') ++ ((wA ca (aF 1) sb) ++ ((wS ca (sb 0) (sn 0) anu' abi' ale') ++ ((wS ca (sb 1) (sn 1) bnu' bbi' ble') ++ ((wS ca (sb 2) (sn 2) cnu' cbi' cle') ++ ((wS ca (sb 3) (sn 3) dnu' dbi' dle') ++ (wM ca am mm' mkp' mwa' mfo' mta' mbo' mso' mce' mik' mtd' mtk' mbg' maa' mvl' mbd'))))))))))))) [(0, .ref b), (1, .ref (aF 0)), (2, .ref (am 0)), (3, .int x3)] []) : J l D k 4 cs sl 1007 ((wD ca (aF 2) fd) ++ ((wF (aF 0) (aL 0) (aT 0) (aK 0) (tp 0) (aF 1) (aF 2) ik) ++ ((wN ca nd sd) ++ ((wC ca aT (nd 0) tsk tze tma tki tdn twi tdu the tyr tsz) ++ ((wC ca aL (nd 0) lsk lze lma lki ldn lwi ldu lhe lyr lsz) ++ ((wC ca aK (nd 0) ksk kze kma kki kdn kwi kdu khe kyr ksz) ++ ((wT ca tp (nd 0) pbb pln pso ppl pbh) ++ ((wA ca (aF 1) sb) ++ ((wS ca (sb 0) (sn 0) anu abi ale) ++ ((wS ca (sb 1) (sn 1) bnu bbi ble) ++ ((wS ca (sb 2) (sn 2) cnu cbi cle) ++ ((wS ca (sb 3) (sn 3) dnu dbi dle) ++ (wM ca am mm mkp mwa mfo mta mbo mso mce mik mtd mtk mbg maa mvl mbd))))))))))))) [(0, .ref b), (1, .ref (aF 0)), (2, .ref (am 0)), (3, .int x3)] [] := by
  obtain ⟨h1, h2, h3, h4, s0, s1, s2, s3⟩ := id hR
  have hw : ((xs ((x3 + 1).toNatClampNeg)) = 1 → wp_X9_write fd bnu bbi ble (xs ((x3 + 1).toNatClampNeg)) (xs ((x3 + 2).toNatClampNeg)) ((((xs ((x3 + 3).toNatClampNeg)).toInt64) <<< ((32 : Int32).toInt64 &&& 63)) ||| (((xs ((x3 + 4).toNatClampNeg)).toInt64) &&& 4294967295)) (fun r10 c10_0 c10_1 => wp_X10_write mfo mbo mso mce (xs ((x3 + 1).toNatClampNeg)) (xs ((x3 + 2).toNatClampNeg)) ((((xs ((x3 + 3).toNatClampNeg)).toInt64) <<< ((32 : Int32).toInt64 &&& 63)) ||| (((xs ((x3 + 4).toNatClampNeg)).toInt64) &&& 4294967295)) (fun r11 c11_0 c11_1 => ((lg_cmp r10 r11) = 0 → RR c10_0 ik tsk tze tma tki tdn twi tdu the tyr tsz lsk lze lma lki ldn lwi ldu lhe lyr lsz ksk kze kma kki kdn kwi kdu khe kyr ksz pbb pln pso ppl pbh anu abi ale c10_1 bbi ble cnu cbi cle dnu dbi dle mm mkp mwa c11_0 mta mbo mso c11_1 mik mtd mtk mbg maa mvl mbd) ∧ (¬ ((lg_cmp r10 r11) = 0) → False)))) ∧ (¬ ((xs ((x3 + 1).toNatClampNeg)) = 1) → ((xs ((x3 + 1).toNatClampNeg)) = 2 → wp_X9_write fd cnu cbi cle (xs ((x3 + 1).toNatClampNeg)) (xs ((x3 + 2).toNatClampNeg)) ((((xs ((x3 + 3).toNatClampNeg)).toInt64) <<< ((32 : Int32).toInt64 &&& 63)) ||| (((xs ((x3 + 4).toNatClampNeg)).toInt64) &&& 4294967295)) (fun r8 c8_0 c8_1 => wp_X10_write mfo mbo mso mce (xs ((x3 + 1).toNatClampNeg)) (xs ((x3 + 2).toNatClampNeg)) ((((xs ((x3 + 3).toNatClampNeg)).toInt64) <<< ((32 : Int32).toInt64 &&& 63)) ||| (((xs ((x3 + 4).toNatClampNeg)).toInt64) &&& 4294967295)) (fun r9 c9_0 c9_1 => ((lg_cmp r8 r9) = 0 → RR c8_0 ik tsk tze tma tki tdn twi tdu the tyr tsz lsk lze lma lki ldn lwi ldu lhe lyr lsz ksk kze kma kki kdn kwi kdu khe kyr ksz pbb pln pso ppl pbh anu abi ale bnu bbi ble c8_1 cbi cle dnu dbi dle mm mkp mwa c9_0 mta mbo mso c9_1 mik mtd mtk mbg maa mvl mbd) ∧ (¬ ((lg_cmp r8 r9) = 0) → False)))) ∧ (¬ ((xs ((x3 + 1).toNatClampNeg)) = 2) → ((xs ((x3 + 1).toNatClampNeg)) = 3 → wp_X9_write fd dnu dbi dle (xs ((x3 + 1).toNatClampNeg)) (xs ((x3 + 2).toNatClampNeg)) ((((xs ((x3 + 3).toNatClampNeg)).toInt64) <<< ((32 : Int32).toInt64 &&& 63)) ||| (((xs ((x3 + 4).toNatClampNeg)).toInt64) &&& 4294967295)) (fun r6 c6_0 c6_1 => wp_X10_write mfo mbo mso mce (xs ((x3 + 1).toNatClampNeg)) (xs ((x3 + 2).toNatClampNeg)) ((((xs ((x3 + 3).toNatClampNeg)).toInt64) <<< ((32 : Int32).toInt64 &&& 63)) ||| (((xs ((x3 + 4).toNatClampNeg)).toInt64) &&& 4294967295)) (fun r7 c7_0 c7_1 => ((lg_cmp r6 r7) = 0 → RR c6_0 ik tsk tze tma tki tdn twi tdu the tyr tsz lsk lze lma lki ldn lwi ldu lhe lyr lsz ksk kze kma kki kdn kwi kdu khe kyr ksz pbb pln pso ppl pbh anu abi ale bnu bbi ble cnu cbi cle c6_1 dbi dle mm mkp mwa c7_0 mta mbo mso c7_1 mik mtd mtk mbg maa mvl mbd) ∧ (¬ ((lg_cmp r6 r7) = 0) → False)))) ∧ (¬ ((xs ((x3 + 1).toNatClampNeg)) = 3) → wp_X9_write fd anu abi ale (xs ((x3 + 1).toNatClampNeg)) (xs ((x3 + 2).toNatClampNeg)) ((((xs ((x3 + 3).toNatClampNeg)).toInt64) <<< ((32 : Int32).toInt64 &&& 63)) ||| (((xs ((x3 + 4).toNatClampNeg)).toInt64) &&& 4294967295)) (fun r4 c4_0 c4_1 => wp_X10_write mfo mbo mso mce (xs ((x3 + 1).toNatClampNeg)) (xs ((x3 + 2).toNatClampNeg)) ((((xs ((x3 + 3).toNatClampNeg)).toInt64) <<< ((32 : Int32).toInt64 &&& 63)) ||| (((xs ((x3 + 4).toNatClampNeg)).toInt64) &&& 4294967295)) (fun r5 c5_0 c5_1 => ((lg_cmp r4 r5) = 0 → RR c4_0 ik tsk tze tma tki tdn twi tdu the tyr tsz lsk lze lma lki ldn lwi ldu lhe lyr lsz ksk kze kma kki kdn kwi kdu khe kyr ksz pbb pln pso ppl pbh c4_1 abi ale bnu bbi ble cnu cbi cle dnu dbi dle mm mkp mwa c5_0 mta mbo mso c5_1 mik mtd mtk mbg maa mvl mbd) ∧ (¬ ((lg_cmp r4 r5) = 0) → False)))))) := by
    refine ⟨fun w1 => ?_, fun w1 => ?_⟩
    · exact sim_write h2 (by decide) s1 _ _ _ (hjk w1 (by decide)) (fun _ _ _ _ _ g2 g5 gF => ⟨fun _ => ⟨h1, g2, h3, h4, gF.s (by decide) (by decide) s0, g5, gF.s (by decide) (by decide) s2, gF.s (by decide) (by decide) s3⟩, fun z => absurd ((lg_0 _ _).mpr rfl) z⟩)
    · refine ⟨fun w2 => ?_, fun w2 => ?_⟩
      · exact sim_write h2 (by decide) s2 _ _ _ (hjk w2 (by decide)) (fun _ _ _ _ _ g2 g5 gF => ⟨fun _ => ⟨h1, g2, h3, h4, gF.s (by decide) (by decide) s0, gF.s (by decide) (by decide) s1, g5, gF.s (by decide) (by decide) s3⟩, fun z => absurd ((lg_0 _ _).mpr rfl) z⟩)
      · refine ⟨fun w3 => ?_, fun w3 => ?_⟩
        · exact sim_write h2 (by decide) s3 _ _ _ (hjk w3 (by decide)) (fun _ _ _ _ _ g2 g5 gF => ⟨fun _ => ⟨h1, g2, h3, h4, gF.s (by decide) (by decide) s0, gF.s (by decide) (by decide) s1, gF.s (by decide) (by decide) s2, g5⟩, fun z => absurd ((lg_0 _ _).mpr rfl) z⟩)
        · exact sim_write h2 (by decide) s0 _ _ _ (hj0 w1 w2 w3) (fun _ _ _ _ _ g2 g5 gF => ⟨fun _ => ⟨h1, g2, h3, h4, g5, gF.s (by decide) (by decide) s1, gF.s (by decide) (by decide) s2, gF.s (by decide) (by decide) s3⟩, fun z => absurd ((lg_0 _ _).mpr rfl) z⟩)
  refine j_aload_n C 1 dL_law_1007 rfl ?_
  refine j_aload_n C 0 dL_law_1008 rfl ?_
  refine j_iload_n C 3 dL_law_1009 rfl ?_
  refine j_iconst C 1 dL_law_1010 (by decide) ?_
  refine j_iadd C dL_law_1011 ?_
  refine j_sld C hX dL_law_1012 hi1 ?_
  refine j_aload_n C 0 dL_law_1013 rfl ?_
  refine j_iload_n C 3 dL_law_1014 rfl ?_
  refine j_iconst C 2 dL_law_1015 (by decide) ?_
  refine j_iadd C dL_law_1016 ?_
  refine j_sld C hX dL_law_1017 hi2 ?_
  refine j_aload_n C 0 dL_law_1018 rfl ?_
  refine j_iload_n C 3 dL_law_1019 rfl ?_
  refine j_iconst C 3 dL_law_1020 (by decide) ?_
  refine j_iadd C dL_law_1021 ?_
  refine j_sld C hX dL_law_1022 hi3 ?_
  refine j_i2l C dL_law_1023 ?_
  refine j_bipush C 32 dL_law_1024 (by decide) ?_
  refine j_lshl C dL_law_1026 ?_
  refine j_aload_n C 0 dL_law_1027 rfl ?_
  refine j_iload_n C 3 dL_law_1028 rfl ?_
  refine j_iconst C 4 dL_law_1029 (by decide) ?_
  refine j_iadd C dL_law_1030 ?_
  refine j_sld C hX dL_law_1031 hi4 ?_
  refine j_i2l C dL_law_1032 ?_
  refine j_ldc2 C dL_law_1033 ct_L_125 ?_
  refine j_land C dL_law_1036 ?_
  refine j_lor C dL_law_1037 ?_
  by_cases w1 : (xs ((x3 + 1).toNatClampNeg)) = 1
  · replace hw := hw.1 w1
    refine j_clP C hB [0, 1, 38, 41, 42] [2, 3, 4, 5, 6, 7, 8, 9, 10, 11, 12, 13, 14, 15, 16, 17, 18, 19, 20, 21, 22, 23, 24, 25, 26, 27, 28, 29, 30, 31, 32, 33, 34, 35, 36, 37, 39, 40, 43, 44, 45, 46, 47, 48, 49, 50, 51, 52, 53, 54, 55] [51, 52, 0, 1, 2, 3, 4, 5, 6, 7, 8, 9, 10, 11, 12, 13, 14, 15, 16, 17, 18, 19, 20, 21, 22, 23, 24, 25, 26, 27, 28, 29, 30, 31, 32, 33, 34, 35, 53, 36, 37, 54, 55, 38, 39, 40, 41, 42, 43, 44, 45, 46, 47, 48, 49, 50] (fun u10 : (Nat → Int32) × (Nat → Int64) => ((wD ca (aF 2) u10.1) ++ ((wF (aF 0) (aL 0) (aT 0) (aK 0) (tp 0) (aF 1) (aF 2) ik) ++ ((wN ca nd sd) ++ ((wC ca aT (nd 0) tsk tze tma tki tdn twi tdu the tyr tsz) ++ ((wC ca aL (nd 0) lsk lze lma lki ldn lwi ldu lhe lyr lsz) ++ ((wC ca aK (nd 0) ksk kze kma kki kdn kwi kdu khe kyr ksz) ++ ((wT ca tp (nd 0) pbb pln pso ppl pbh) ++ ((wA ca (aF 1) sb) ++ ((wS ca (sb 0) (sn 0) anu abi ale) ++ ((wS ca (sb 1) (sn 1) u10.2 bbi ble) ++ ((wS ca (sb 2) (sn 2) cnu cbi cle) ++ ((wS ca (sb 3) (sn 3) dnu dbi dle) ++ (wM ca am mm mkp mwa mfo mta mbo mso mce mik mtd mtk mbg maa mvl mbd)))))))))))))) ((wN ca nd sd) ++ ((wC ca aT (nd 0) tsk tze tma tki tdn twi tdu the tyr tsz) ++ ((wC ca aL (nd 0) lsk lze lma lki ldn lwi ldu lhe lyr lsz) ++ ((wC ca aK (nd 0) ksk kze kma kki kdn kwi kdu khe kyr ksz) ++ ((wT ca tp (nd 0) pbb pln pso ppl pbh) ++ ((wS ca (sb 0) (sn 0) anu abi ale) ++ ((wS ca (sb 2) (sn 2) cnu cbi cle) ++ ((wS ca (sb 3) (sn 3) dnu dbi dle) ++ (wM ca am mm mkp mwa mfo mta mbo mso mce mik mtd mtk mbg maa mvl mbd))))))))) rfl rfl rfl (by decide) rfl (fun _ => rfl) (jr_V C lkV_L_127 (c_X9_write aF aL aT aK nd tp sb sn 1 fd ik bnu bbi ble (xs ((x3 + 1).toNatClampNeg)) (xs ((x3 + 2).toNatClampNeg)) ((((xs ((x3 + 3).toNatClampNeg)).toInt64) <<< ((32 : Int32).toInt64 &&& 63)) ||| (((xs ((x3 + 4).toNatClampNeg)).toInt64) &&& 4294967295)) (hjk w1 (by decide)) hw) ⟨rfl, rfl, by decide, by decide, hcs.1, hcs.2⟩ [0, 1, 38, 41, 42] (by decide) rfl (fx_rw C hB [0, 1, 38, 41, 42] rfl) 1 9 rfl rfl rfl rfl (Nat.le_of_ble_eq_true rfl) dL_law_1038) (fun r10 u10 hw => ?_)
    refine j_aload_n C 2 dL_law_1041 rfl ?_
    refine j_aload_n C 0 dL_law_1042 rfl ?_
    refine j_iload_n C 3 dL_law_1043 rfl ?_
    refine j_iconst C 1 dL_law_1044 (by decide) ?_
    refine j_iadd C dL_law_1045 ?_
    refine j_sld C hX dL_law_1046 hi1 ?_
    refine j_aload_n C 0 dL_law_1047 rfl ?_
    refine j_iload_n C 3 dL_law_1048 rfl ?_
    refine j_iconst C 2 dL_law_1049 (by decide) ?_
    refine j_iadd C dL_law_1050 ?_
    refine j_sld C hX dL_law_1051 hi2 ?_
    refine j_aload_n C 0 dL_law_1052 rfl ?_
    refine j_iload_n C 3 dL_law_1053 rfl ?_
    refine j_iconst C 3 dL_law_1054 (by decide) ?_
    refine j_iadd C dL_law_1055 ?_
    refine j_sld C hX dL_law_1056 hi3 ?_
    refine j_i2l C dL_law_1057 ?_
    refine j_bipush C 32 dL_law_1058 (by decide) ?_
    refine j_lshl C dL_law_1060 ?_
    refine j_aload_n C 0 dL_law_1061 rfl ?_
    refine j_iload_n C 3 dL_law_1062 rfl ?_
    refine j_iconst C 4 dL_law_1063 (by decide) ?_
    refine j_iadd C dL_law_1064 ?_
    refine j_sld C hX dL_law_1065 hi4 ?_
    refine j_i2l C dL_law_1066 ?_
    refine j_ldc2 C dL_law_1067 ct_L_125 ?_
    refine j_land C dL_law_1070 ?_
    refine j_lor C dL_law_1071 ?_
    refine j_clT C hB 47 56 (fun u11 : (Nat → Int32) × (Nat → Int64) => ((wD ca (aF 2) u10.1) ++ ((wF (aF 0) (aL 0) (aT 0) (aK 0) (tp 0) (aF 1) (aF 2) ik) ++ ((wN ca nd sd) ++ ((wC ca aT (nd 0) tsk tze tma tki tdn twi tdu the tyr tsz) ++ ((wC ca aL (nd 0) lsk lze lma lki ldn lwi ldu lhe lyr lsz) ++ ((wC ca aK (nd 0) ksk kze kma kki kdn kwi kdu khe kyr ksz) ++ ((wT ca tp (nd 0) pbb pln pso ppl pbh) ++ ((wA ca (aF 1) sb) ++ ((wS ca (sb 0) (sn 0) anu abi ale) ++ ((wS ca (sb 1) (sn 1) u10.2 bbi ble) ++ ((wS ca (sb 2) (sn 2) cnu cbi cle) ++ ((wS ca (sb 3) (sn 3) dnu dbi dle) ++ (wM ca am mm mkp mwa u11.1 mta mbo mso u11.2 mik mtd mtk mbg maa mvl mbd)))))))))))))) rfl (fun _ => rfl) (jr_V C lkV_L_131 (c_X10_write am mm mkp mwa mfo mta mbo mso mce mik mtd mtk mbg maa mvl mbd (xs ((x3 + 1).toNatClampNeg)) (xs ((x3 + 2).toNatClampNeg)) ((((xs ((x3 + 3).toNatClampNeg)).toInt64) <<< ((32 : Int32).toInt64 &&& 63)) ||| (((xs ((x3 + 4).toNatClampNeg)).toInt64) &&& 4294967295)) hw) ⟨rfl, rfl, by decide, by decide, hcs.1, hcs.2⟩ [47, 48, 49, 50, 51, 52, 53, 54, 55] (by decide) rfl (fx_rw C hB [47, 48, 49, 50, 51, 52, 53, 54, 55] rfl) 47 10 rfl rfl rfl rfl (Nat.le_of_ble_eq_true rfl) dL_law_1072) (fun r11 u11 hw => ?_)
    refine j_lcmp C dL_law_1075 ?_
    refine j_if_eq C 1328 dL_law_1076 (by decide) (fun z => ?_) (fun z => ?_)
    · replace hw := hw.1 z
      exact hK u10.1 ik tsk tze tma tki tdn twi tdu the tyr tsz lsk lze lma lki ldn lwi ldu lhe lyr lsz ksk kze kma kki kdn kwi kdu khe kyr ksz pbb pln pso ppl pbh anu abi ale u10.2 bbi ble cnu cbi cle dnu dbi dle mm mkp mwa u11.1 mta mbo mso u11.2 mik mtd mtk mbg maa mvl mbd hw
    · replace hw := hw.2 z
      refine j_iconst C 0 dL_law_1079 (by decide) ?_
      exact hw.elim
  · replace hw := hw.2 w1
    by_cases w2 : (xs ((x3 + 1).toNatClampNeg)) = 2
    · replace hw := hw.1 w2
      refine j_clP C hB [0, 1, 38, 43, 44] [2, 3, 4, 5, 6, 7, 8, 9, 10, 11, 12, 13, 14, 15, 16, 17, 18, 19, 20, 21, 22, 23, 24, 25, 26, 27, 28, 29, 30, 31, 32, 33, 34, 35, 36, 37, 39, 40, 41, 42, 45, 46, 47, 48, 49, 50, 51, 52, 53, 54, 55] [51, 52, 0, 1, 2, 3, 4, 5, 6, 7, 8, 9, 10, 11, 12, 13, 14, 15, 16, 17, 18, 19, 20, 21, 22, 23, 24, 25, 26, 27, 28, 29, 30, 31, 32, 33, 34, 35, 53, 36, 37, 38, 39, 54, 55, 40, 41, 42, 43, 44, 45, 46, 47, 48, 49, 50] (fun u8 : (Nat → Int32) × (Nat → Int64) => ((wD ca (aF 2) u8.1) ++ ((wF (aF 0) (aL 0) (aT 0) (aK 0) (tp 0) (aF 1) (aF 2) ik) ++ ((wN ca nd sd) ++ ((wC ca aT (nd 0) tsk tze tma tki tdn twi tdu the tyr tsz) ++ ((wC ca aL (nd 0) lsk lze lma lki ldn lwi ldu lhe lyr lsz) ++ ((wC ca aK (nd 0) ksk kze kma kki kdn kwi kdu khe kyr ksz) ++ ((wT ca tp (nd 0) pbb pln pso ppl pbh) ++ ((wA ca (aF 1) sb) ++ ((wS ca (sb 0) (sn 0) anu abi ale) ++ ((wS ca (sb 1) (sn 1) bnu bbi ble) ++ ((wS ca (sb 2) (sn 2) u8.2 cbi cle) ++ ((wS ca (sb 3) (sn 3) dnu dbi dle) ++ (wM ca am mm mkp mwa mfo mta mbo mso mce mik mtd mtk mbg maa mvl mbd)))))))))))))) ((wN ca nd sd) ++ ((wC ca aT (nd 0) tsk tze tma tki tdn twi tdu the tyr tsz) ++ ((wC ca aL (nd 0) lsk lze lma lki ldn lwi ldu lhe lyr lsz) ++ ((wC ca aK (nd 0) ksk kze kma kki kdn kwi kdu khe kyr ksz) ++ ((wT ca tp (nd 0) pbb pln pso ppl pbh) ++ ((wS ca (sb 0) (sn 0) anu abi ale) ++ ((wS ca (sb 1) (sn 1) bnu bbi ble) ++ ((wS ca (sb 3) (sn 3) dnu dbi dle) ++ (wM ca am mm mkp mwa mfo mta mbo mso mce mik mtd mtk mbg maa mvl mbd))))))))) rfl rfl rfl (by decide) rfl (fun _ => rfl) (jr_V C lkV_L_127 (c_X9_write aF aL aT aK nd tp sb sn 2 fd ik cnu cbi cle (xs ((x3 + 1).toNatClampNeg)) (xs ((x3 + 2).toNatClampNeg)) ((((xs ((x3 + 3).toNatClampNeg)).toInt64) <<< ((32 : Int32).toInt64 &&& 63)) ||| (((xs ((x3 + 4).toNatClampNeg)).toInt64) &&& 4294967295)) (hjk w2 (by decide)) hw) ⟨rfl, rfl, by decide, by decide, hcs.1, hcs.2⟩ [0, 1, 38, 43, 44] (by decide) rfl (fx_rw C hB [0, 1, 38, 43, 44] rfl) 1 9 rfl rfl rfl rfl (Nat.le_of_ble_eq_true rfl) dL_law_1038) (fun r8 u8 hw => ?_)
      refine j_aload_n C 2 dL_law_1041 rfl ?_
      refine j_aload_n C 0 dL_law_1042 rfl ?_
      refine j_iload_n C 3 dL_law_1043 rfl ?_
      refine j_iconst C 1 dL_law_1044 (by decide) ?_
      refine j_iadd C dL_law_1045 ?_
      refine j_sld C hX dL_law_1046 hi1 ?_
      refine j_aload_n C 0 dL_law_1047 rfl ?_
      refine j_iload_n C 3 dL_law_1048 rfl ?_
      refine j_iconst C 2 dL_law_1049 (by decide) ?_
      refine j_iadd C dL_law_1050 ?_
      refine j_sld C hX dL_law_1051 hi2 ?_
      refine j_aload_n C 0 dL_law_1052 rfl ?_
      refine j_iload_n C 3 dL_law_1053 rfl ?_
      refine j_iconst C 3 dL_law_1054 (by decide) ?_
      refine j_iadd C dL_law_1055 ?_
      refine j_sld C hX dL_law_1056 hi3 ?_
      refine j_i2l C dL_law_1057 ?_
      refine j_bipush C 32 dL_law_1058 (by decide) ?_
      refine j_lshl C dL_law_1060 ?_
      refine j_aload_n C 0 dL_law_1061 rfl ?_
      refine j_iload_n C 3 dL_law_1062 rfl ?_
      refine j_iconst C 4 dL_law_1063 (by decide) ?_
      refine j_iadd C dL_law_1064 ?_
      refine j_sld C hX dL_law_1065 hi4 ?_
      refine j_i2l C dL_law_1066 ?_
      refine j_ldc2 C dL_law_1067 ct_L_125 ?_
      refine j_land C dL_law_1070 ?_
      refine j_lor C dL_law_1071 ?_
      refine j_clT C hB 47 56 (fun u9 : (Nat → Int32) × (Nat → Int64) => ((wD ca (aF 2) u8.1) ++ ((wF (aF 0) (aL 0) (aT 0) (aK 0) (tp 0) (aF 1) (aF 2) ik) ++ ((wN ca nd sd) ++ ((wC ca aT (nd 0) tsk tze tma tki tdn twi tdu the tyr tsz) ++ ((wC ca aL (nd 0) lsk lze lma lki ldn lwi ldu lhe lyr lsz) ++ ((wC ca aK (nd 0) ksk kze kma kki kdn kwi kdu khe kyr ksz) ++ ((wT ca tp (nd 0) pbb pln pso ppl pbh) ++ ((wA ca (aF 1) sb) ++ ((wS ca (sb 0) (sn 0) anu abi ale) ++ ((wS ca (sb 1) (sn 1) bnu bbi ble) ++ ((wS ca (sb 2) (sn 2) u8.2 cbi cle) ++ ((wS ca (sb 3) (sn 3) dnu dbi dle) ++ (wM ca am mm mkp mwa u9.1 mta mbo mso u9.2 mik mtd mtk mbg maa mvl mbd)))))))))))))) rfl (fun _ => rfl) (jr_V C lkV_L_131 (c_X10_write am mm mkp mwa mfo mta mbo mso mce mik mtd mtk mbg maa mvl mbd (xs ((x3 + 1).toNatClampNeg)) (xs ((x3 + 2).toNatClampNeg)) ((((xs ((x3 + 3).toNatClampNeg)).toInt64) <<< ((32 : Int32).toInt64 &&& 63)) ||| (((xs ((x3 + 4).toNatClampNeg)).toInt64) &&& 4294967295)) hw) ⟨rfl, rfl, by decide, by decide, hcs.1, hcs.2⟩ [47, 48, 49, 50, 51, 52, 53, 54, 55] (by decide) rfl (fx_rw C hB [47, 48, 49, 50, 51, 52, 53, 54, 55] rfl) 47 10 rfl rfl rfl rfl (Nat.le_of_ble_eq_true rfl) dL_law_1072) (fun r9 u9 hw => ?_)
      refine j_lcmp C dL_law_1075 ?_
      refine j_if_eq C 1328 dL_law_1076 (by decide) (fun z => ?_) (fun z => ?_)
      · replace hw := hw.1 z
        exact hK u8.1 ik tsk tze tma tki tdn twi tdu the tyr tsz lsk lze lma lki ldn lwi ldu lhe lyr lsz ksk kze kma kki kdn kwi kdu khe kyr ksz pbb pln pso ppl pbh anu abi ale bnu bbi ble u8.2 cbi cle dnu dbi dle mm mkp mwa u9.1 mta mbo mso u9.2 mik mtd mtk mbg maa mvl mbd hw
      · replace hw := hw.2 z
        refine j_iconst C 0 dL_law_1079 (by decide) ?_
        exact hw.elim
    · replace hw := hw.2 w2
      by_cases w3 : (xs ((x3 + 1).toNatClampNeg)) = 3
      · replace hw := hw.1 w3
        refine j_clP C hB [0, 1, 38, 45, 46] [2, 3, 4, 5, 6, 7, 8, 9, 10, 11, 12, 13, 14, 15, 16, 17, 18, 19, 20, 21, 22, 23, 24, 25, 26, 27, 28, 29, 30, 31, 32, 33, 34, 35, 36, 37, 39, 40, 41, 42, 43, 44, 47, 48, 49, 50, 51, 52, 53, 54, 55] [51, 52, 0, 1, 2, 3, 4, 5, 6, 7, 8, 9, 10, 11, 12, 13, 14, 15, 16, 17, 18, 19, 20, 21, 22, 23, 24, 25, 26, 27, 28, 29, 30, 31, 32, 33, 34, 35, 53, 36, 37, 38, 39, 40, 41, 54, 55, 42, 43, 44, 45, 46, 47, 48, 49, 50] (fun u6 : (Nat → Int32) × (Nat → Int64) => ((wD ca (aF 2) u6.1) ++ ((wF (aF 0) (aL 0) (aT 0) (aK 0) (tp 0) (aF 1) (aF 2) ik) ++ ((wN ca nd sd) ++ ((wC ca aT (nd 0) tsk tze tma tki tdn twi tdu the tyr tsz) ++ ((wC ca aL (nd 0) lsk lze lma lki ldn lwi ldu lhe lyr lsz) ++ ((wC ca aK (nd 0) ksk kze kma kki kdn kwi kdu khe kyr ksz) ++ ((wT ca tp (nd 0) pbb pln pso ppl pbh) ++ ((wA ca (aF 1) sb) ++ ((wS ca (sb 0) (sn 0) anu abi ale) ++ ((wS ca (sb 1) (sn 1) bnu bbi ble) ++ ((wS ca (sb 2) (sn 2) cnu cbi cle) ++ ((wS ca (sb 3) (sn 3) u6.2 dbi dle) ++ (wM ca am mm mkp mwa mfo mta mbo mso mce mik mtd mtk mbg maa mvl mbd)))))))))))))) ((wN ca nd sd) ++ ((wC ca aT (nd 0) tsk tze tma tki tdn twi tdu the tyr tsz) ++ ((wC ca aL (nd 0) lsk lze lma lki ldn lwi ldu lhe lyr lsz) ++ ((wC ca aK (nd 0) ksk kze kma kki kdn kwi kdu khe kyr ksz) ++ ((wT ca tp (nd 0) pbb pln pso ppl pbh) ++ ((wS ca (sb 0) (sn 0) anu abi ale) ++ ((wS ca (sb 1) (sn 1) bnu bbi ble) ++ ((wS ca (sb 2) (sn 2) cnu cbi cle) ++ (wM ca am mm mkp mwa mfo mta mbo mso mce mik mtd mtk mbg maa mvl mbd))))))))) rfl rfl rfl (by decide) rfl (fun _ => rfl) (jr_V C lkV_L_127 (c_X9_write aF aL aT aK nd tp sb sn 3 fd ik dnu dbi dle (xs ((x3 + 1).toNatClampNeg)) (xs ((x3 + 2).toNatClampNeg)) ((((xs ((x3 + 3).toNatClampNeg)).toInt64) <<< ((32 : Int32).toInt64 &&& 63)) ||| (((xs ((x3 + 4).toNatClampNeg)).toInt64) &&& 4294967295)) (hjk w3 (by decide)) hw) ⟨rfl, rfl, by decide, by decide, hcs.1, hcs.2⟩ [0, 1, 38, 45, 46] (by decide) rfl (fx_rw C hB [0, 1, 38, 45, 46] rfl) 1 9 rfl rfl rfl rfl (Nat.le_of_ble_eq_true rfl) dL_law_1038) (fun r6 u6 hw => ?_)
        refine j_aload_n C 2 dL_law_1041 rfl ?_
        refine j_aload_n C 0 dL_law_1042 rfl ?_
        refine j_iload_n C 3 dL_law_1043 rfl ?_
        refine j_iconst C 1 dL_law_1044 (by decide) ?_
        refine j_iadd C dL_law_1045 ?_
        refine j_sld C hX dL_law_1046 hi1 ?_
        refine j_aload_n C 0 dL_law_1047 rfl ?_
        refine j_iload_n C 3 dL_law_1048 rfl ?_
        refine j_iconst C 2 dL_law_1049 (by decide) ?_
        refine j_iadd C dL_law_1050 ?_
        refine j_sld C hX dL_law_1051 hi2 ?_
        refine j_aload_n C 0 dL_law_1052 rfl ?_
        refine j_iload_n C 3 dL_law_1053 rfl ?_
        refine j_iconst C 3 dL_law_1054 (by decide) ?_
        refine j_iadd C dL_law_1055 ?_
        refine j_sld C hX dL_law_1056 hi3 ?_
        refine j_i2l C dL_law_1057 ?_
        refine j_bipush C 32 dL_law_1058 (by decide) ?_
        refine j_lshl C dL_law_1060 ?_
        refine j_aload_n C 0 dL_law_1061 rfl ?_
        refine j_iload_n C 3 dL_law_1062 rfl ?_
        refine j_iconst C 4 dL_law_1063 (by decide) ?_
        refine j_iadd C dL_law_1064 ?_
        refine j_sld C hX dL_law_1065 hi4 ?_
        refine j_i2l C dL_law_1066 ?_
        refine j_ldc2 C dL_law_1067 ct_L_125 ?_
        refine j_land C dL_law_1070 ?_
        refine j_lor C dL_law_1071 ?_
        refine j_clT C hB 47 56 (fun u7 : (Nat → Int32) × (Nat → Int64) => ((wD ca (aF 2) u6.1) ++ ((wF (aF 0) (aL 0) (aT 0) (aK 0) (tp 0) (aF 1) (aF 2) ik) ++ ((wN ca nd sd) ++ ((wC ca aT (nd 0) tsk tze tma tki tdn twi tdu the tyr tsz) ++ ((wC ca aL (nd 0) lsk lze lma lki ldn lwi ldu lhe lyr lsz) ++ ((wC ca aK (nd 0) ksk kze kma kki kdn kwi kdu khe kyr ksz) ++ ((wT ca tp (nd 0) pbb pln pso ppl pbh) ++ ((wA ca (aF 1) sb) ++ ((wS ca (sb 0) (sn 0) anu abi ale) ++ ((wS ca (sb 1) (sn 1) bnu bbi ble) ++ ((wS ca (sb 2) (sn 2) cnu cbi cle) ++ ((wS ca (sb 3) (sn 3) u6.2 dbi dle) ++ (wM ca am mm mkp mwa u7.1 mta mbo mso u7.2 mik mtd mtk mbg maa mvl mbd)))))))))))))) rfl (fun _ => rfl) (jr_V C lkV_L_131 (c_X10_write am mm mkp mwa mfo mta mbo mso mce mik mtd mtk mbg maa mvl mbd (xs ((x3 + 1).toNatClampNeg)) (xs ((x3 + 2).toNatClampNeg)) ((((xs ((x3 + 3).toNatClampNeg)).toInt64) <<< ((32 : Int32).toInt64 &&& 63)) ||| (((xs ((x3 + 4).toNatClampNeg)).toInt64) &&& 4294967295)) hw) ⟨rfl, rfl, by decide, by decide, hcs.1, hcs.2⟩ [47, 48, 49, 50, 51, 52, 53, 54, 55] (by decide) rfl (fx_rw C hB [47, 48, 49, 50, 51, 52, 53, 54, 55] rfl) 47 10 rfl rfl rfl rfl (Nat.le_of_ble_eq_true rfl) dL_law_1072) (fun r7 u7 hw => ?_)
        refine j_lcmp C dL_law_1075 ?_
        refine j_if_eq C 1328 dL_law_1076 (by decide) (fun z => ?_) (fun z => ?_)
        · replace hw := hw.1 z
          exact hK u6.1 ik tsk tze tma tki tdn twi tdu the tyr tsz lsk lze lma lki ldn lwi ldu lhe lyr lsz ksk kze kma kki kdn kwi kdu khe kyr ksz pbb pln pso ppl pbh anu abi ale bnu bbi ble cnu cbi cle u6.2 dbi dle mm mkp mwa u7.1 mta mbo mso u7.2 mik mtd mtk mbg maa mvl mbd hw
        · replace hw := hw.2 z
          refine j_iconst C 0 dL_law_1079 (by decide) ?_
          exact hw.elim
      · replace hw := hw.2 w3
        refine j_clP C hB [0, 1, 38, 39, 40] [2, 3, 4, 5, 6, 7, 8, 9, 10, 11, 12, 13, 14, 15, 16, 17, 18, 19, 20, 21, 22, 23, 24, 25, 26, 27, 28, 29, 30, 31, 32, 33, 34, 35, 36, 37, 41, 42, 43, 44, 45, 46, 47, 48, 49, 50, 51, 52, 53, 54, 55] [51, 52, 0, 1, 2, 3, 4, 5, 6, 7, 8, 9, 10, 11, 12, 13, 14, 15, 16, 17, 18, 19, 20, 21, 22, 23, 24, 25, 26, 27, 28, 29, 30, 31, 32, 33, 34, 35, 53, 54, 55, 36, 37, 38, 39, 40, 41, 42, 43, 44, 45, 46, 47, 48, 49, 50] (fun u4 : (Nat → Int32) × (Nat → Int64) => ((wD ca (aF 2) u4.1) ++ ((wF (aF 0) (aL 0) (aT 0) (aK 0) (tp 0) (aF 1) (aF 2) ik) ++ ((wN ca nd sd) ++ ((wC ca aT (nd 0) tsk tze tma tki tdn twi tdu the tyr tsz) ++ ((wC ca aL (nd 0) lsk lze lma lki ldn lwi ldu lhe lyr lsz) ++ ((wC ca aK (nd 0) ksk kze kma kki kdn kwi kdu khe kyr ksz) ++ ((wT ca tp (nd 0) pbb pln pso ppl pbh) ++ ((wA ca (aF 1) sb) ++ ((wS ca (sb 0) (sn 0) u4.2 abi ale) ++ ((wS ca (sb 1) (sn 1) bnu bbi ble) ++ ((wS ca (sb 2) (sn 2) cnu cbi cle) ++ ((wS ca (sb 3) (sn 3) dnu dbi dle) ++ (wM ca am mm mkp mwa mfo mta mbo mso mce mik mtd mtk mbg maa mvl mbd)))))))))))))) ((wN ca nd sd) ++ ((wC ca aT (nd 0) tsk tze tma tki tdn twi tdu the tyr tsz) ++ ((wC ca aL (nd 0) lsk lze lma lki ldn lwi ldu lhe lyr lsz) ++ ((wC ca aK (nd 0) ksk kze kma kki kdn kwi kdu khe kyr ksz) ++ ((wT ca tp (nd 0) pbb pln pso ppl pbh) ++ ((wS ca (sb 1) (sn 1) bnu bbi ble) ++ ((wS ca (sb 2) (sn 2) cnu cbi cle) ++ ((wS ca (sb 3) (sn 3) dnu dbi dle) ++ (wM ca am mm mkp mwa mfo mta mbo mso mce mik mtd mtk mbg maa mvl mbd))))))))) rfl rfl rfl (by decide) rfl (fun _ => rfl) (jr_V C lkV_L_127 (c_X9_write aF aL aT aK nd tp sb sn 0 fd ik anu abi ale (xs ((x3 + 1).toNatClampNeg)) (xs ((x3 + 2).toNatClampNeg)) ((((xs ((x3 + 3).toNatClampNeg)).toInt64) <<< ((32 : Int32).toInt64 &&& 63)) ||| (((xs ((x3 + 4).toNatClampNeg)).toInt64) &&& 4294967295)) (hj0 w1 w2 w3) hw) ⟨rfl, rfl, by decide, by decide, hcs.1, hcs.2⟩ [0, 1, 38, 39, 40] (by decide) rfl (fx_rw C hB [0, 1, 38, 39, 40] rfl) 1 9 rfl rfl rfl rfl (Nat.le_of_ble_eq_true rfl) dL_law_1038) (fun r4 u4 hw => ?_)
        refine j_aload_n C 2 dL_law_1041 rfl ?_
        refine j_aload_n C 0 dL_law_1042 rfl ?_
        refine j_iload_n C 3 dL_law_1043 rfl ?_
        refine j_iconst C 1 dL_law_1044 (by decide) ?_
        refine j_iadd C dL_law_1045 ?_
        refine j_sld C hX dL_law_1046 hi1 ?_
        refine j_aload_n C 0 dL_law_1047 rfl ?_
        refine j_iload_n C 3 dL_law_1048 rfl ?_
        refine j_iconst C 2 dL_law_1049 (by decide) ?_
        refine j_iadd C dL_law_1050 ?_
        refine j_sld C hX dL_law_1051 hi2 ?_
        refine j_aload_n C 0 dL_law_1052 rfl ?_
        refine j_iload_n C 3 dL_law_1053 rfl ?_
        refine j_iconst C 3 dL_law_1054 (by decide) ?_
        refine j_iadd C dL_law_1055 ?_
        refine j_sld C hX dL_law_1056 hi3 ?_
        refine j_i2l C dL_law_1057 ?_
        refine j_bipush C 32 dL_law_1058 (by decide) ?_
        refine j_lshl C dL_law_1060 ?_
        refine j_aload_n C 0 dL_law_1061 rfl ?_
        refine j_iload_n C 3 dL_law_1062 rfl ?_
        refine j_iconst C 4 dL_law_1063 (by decide) ?_
        refine j_iadd C dL_law_1064 ?_
        refine j_sld C hX dL_law_1065 hi4 ?_
        refine j_i2l C dL_law_1066 ?_
        refine j_ldc2 C dL_law_1067 ct_L_125 ?_
        refine j_land C dL_law_1070 ?_
        refine j_lor C dL_law_1071 ?_
        refine j_clT C hB 47 56 (fun u5 : (Nat → Int32) × (Nat → Int64) => ((wD ca (aF 2) u4.1) ++ ((wF (aF 0) (aL 0) (aT 0) (aK 0) (tp 0) (aF 1) (aF 2) ik) ++ ((wN ca nd sd) ++ ((wC ca aT (nd 0) tsk tze tma tki tdn twi tdu the tyr tsz) ++ ((wC ca aL (nd 0) lsk lze lma lki ldn lwi ldu lhe lyr lsz) ++ ((wC ca aK (nd 0) ksk kze kma kki kdn kwi kdu khe kyr ksz) ++ ((wT ca tp (nd 0) pbb pln pso ppl pbh) ++ ((wA ca (aF 1) sb) ++ ((wS ca (sb 0) (sn 0) u4.2 abi ale) ++ ((wS ca (sb 1) (sn 1) bnu bbi ble) ++ ((wS ca (sb 2) (sn 2) cnu cbi cle) ++ ((wS ca (sb 3) (sn 3) dnu dbi dle) ++ (wM ca am mm mkp mwa u5.1 mta mbo mso u5.2 mik mtd mtk mbg maa mvl mbd)))))))))))))) rfl (fun _ => rfl) (jr_V C lkV_L_131 (c_X10_write am mm mkp mwa mfo mta mbo mso mce mik mtd mtk mbg maa mvl mbd (xs ((x3 + 1).toNatClampNeg)) (xs ((x3 + 2).toNatClampNeg)) ((((xs ((x3 + 3).toNatClampNeg)).toInt64) <<< ((32 : Int32).toInt64 &&& 63)) ||| (((xs ((x3 + 4).toNatClampNeg)).toInt64) &&& 4294967295)) hw) ⟨rfl, rfl, by decide, by decide, hcs.1, hcs.2⟩ [47, 48, 49, 50, 51, 52, 53, 54, 55] (by decide) rfl (fx_rw C hB [47, 48, 49, 50, 51, 52, 53, 54, 55] rfl) 47 10 rfl rfl rfl rfl (Nat.le_of_ble_eq_true rfl) dL_law_1072) (fun r5 u5 hw => ?_)
        refine j_lcmp C dL_law_1075 ?_
        refine j_if_eq C 1328 dL_law_1076 (by decide) (fun z => ?_) (fun z => ?_)
        · replace hw := hw.1 z
          exact hK u4.1 ik tsk tze tma tki tdn twi tdu the tyr tsz lsk lze lma lki ldn lwi ldu lhe lyr lsz ksk kze kma kki kdn kwi kdu khe kyr ksz pbb pln pso ppl pbh u4.2 abi ale bnu bbi ble cnu cbi cle dnu dbi dle mm mkp mwa u5.1 mta mbo mso u5.2 mik mtd mtk mbg maa mvl mbd hw
        · replace hw := hw.2 z
          refine j_iconst C 0 dL_law_1079 (by decide) ?_
          exact hw.elim
set_option maxRecDepth 100000 in
set_option maxHeartbeats 8000000 in
theorem lw_case28 {l : Launch} {D : va_G} {ca : Nat → ClassId} {sd : Nat → Nat} {k : Kx} (aF aL aT aK nd tp sb sn am : Nat → Nat) (b L : Nat) (xs : Nat → Int32) {cs sl : Nat} (x3 : Int32) (fd : Nat → Int32) (ik : Int32) (tsk : Nat → Int32) (tze : Nat → Int32) (tma : Nat → Int32) (tki : Nat → Int32) (tdn : Nat → Int32) (twi : Nat → Int32) (tdu : Nat → Int32) (the : Nat → Int32) (tyr : Int32) (tsz : Int32) (lsk : Nat → Int32) (lze : Nat → Int32) (lma : Nat → Int32) (lki : Nat → Int32) (ldn : Nat → Int32) (lwi : Nat → Int32) (ldu : Nat → Int32) (lhe : Nat → Int32) (lyr : Int32) (lsz : Int32) (ksk : Nat → Int32) (kze : Nat → Int32) (kma : Nat → Int32) (kki : Nat → Int32) (kdn : Nat → Int32) (kwi : Nat → Int32) (kdu : Nat → Int32) (khe : Nat → Int32) (kyr : Int32) (ksz : Int32) (pbb : Nat → Int32) (pln : Int32) (pso : Int32) (ppl : Int32) (pbh : Int32) (anu : Nat → Int64) (abi : Int32) (ale : Int32) (bnu : Nat → Int64) (bbi : Int32) (ble : Int32) (cnu : Nat → Int64) (cbi : Int32) (cle : Int32) (dnu : Nat → Int64) (dbi : Int32) (dle : Int32) (mm : Nat → Int32) (mkp : Nat → Int32) (mwa : Nat → Int32) (mfo : Nat → Int32) (mta : Nat → Int32) (mbo : Nat → Int32) (mso : Nat → Int32) (mce : Nat → Int64) (mik : Int32) (mtd : Int32) (mtk : Int32) (mbg : Int32) (maa : Int32) (mvl : Int32) (mbd : Int32) (C : Cx D ca sd cL_law RL (some .boolean) room_1 k 4) (hB : Wx k) (hX : Sx b L xs k) (hcs : cs + 0 ≤ room_1.cells ∧ sl + 0 ≤ room_1.slots) (hi1 : vp_in (x3 + 1) L) (hi2 : vp_in (x3 + 2) L) (hi3 : vp_in (x3 + 3) L) (hi4 : vp_in (x3 + 4) L) (hi5 : vp_in (x3 + 5) L) (hR : RR fd ik tsk tze tma tki tdn twi tdu the tyr tsz lsk lze lma lki ldn lwi ldu lhe lyr lsz ksk kze kma kki kdn kwi kdu khe kyr ksz pbb pln pso ppl pbh anu abi ale bnu bbi ble cnu cbi cle dnu dbi dle mm mkp mwa mfo mta mbo mso mce mik mtd mtk mbg maa mvl mbd) (hK : ∀ (fd' : Nat → Int32) (ik' : Int32) (tsk' : Nat → Int32) (tze' : Nat → Int32) (tma' : Nat → Int32) (tki' : Nat → Int32) (tdn' : Nat → Int32) (twi' : Nat → Int32) (tdu' : Nat → Int32) (the' : Nat → Int32) (tyr' : Int32) (tsz' : Int32) (lsk' : Nat → Int32) (lze' : Nat → Int32) (lma' : Nat → Int32) (lki' : Nat → Int32) (ldn' : Nat → Int32) (lwi' : Nat → Int32) (ldu' : Nat → Int32) (lhe' : Nat → Int32) (lyr' : Int32) (lsz' : Int32) (ksk' : Nat → Int32) (kze' : Nat → Int32) (kma' : Nat → Int32) (kki' : Nat → Int32) (kdn' : Nat → Int32) (kwi' : Nat → Int32) (kdu' : Nat → Int32) (khe' : Nat → Int32) (kyr' : Int32) (ksz' : Int32) (pbb' : Nat → Int32) (pln' : Int32) (pso' : Int32) (ppl' : Int32) (pbh' : Int32) (anu' : Nat → Int64) (abi' : Int32) (ale' : Int32) (bnu' : Nat → Int64) (bbi' : Int32) (ble' : Int32) (cnu' : Nat → Int64) (cbi' : Int32) (cle' : Int32) (dnu' : Nat → Int64) (dbi' : Int32) (dle' : Int32) (mm' : Nat → Int32) (mkp' : Nat → Int32) (mwa' : Nat → Int32) (mfo' : Nat → Int32) (mta' : Nat → Int32) (mbo' : Nat → Int32) (mso' : Nat → Int32) (mce' : Nat → Int64) (mik' : Int32) (mtd' : Int32) (mtk' : Int32) (mbg' : Int32) (maa' : Int32) (mvl' : Int32) (mbd' : Int32), RR fd' ik' tsk' tze' tma' tki' tdn' twi' tdu' the' tyr' tsz' lsk' lze' lma' lki' ldn' lwi' ldu' lhe' lyr' lsz' ksk' kze' kma' kki' kdn' kwi' kdu' khe' kyr' ksz' pbb' pln' pso' ppl' pbh' anu' abi' ale' bnu' bbi' ble' cnu' cbi' cle' dnu' dbi' dle' mm' mkp' mwa' mfo' mta' mbo' mso' mce' mik' mtd' mtk' mbg' maa' mvl' mbd' → J l D k 4 cs sl 1328 ((wD ca (aF 2) fd') ++ ((wF (aF 0) (aL 0) (aT 0) (aK 0) (tp 0) (aF 1) (aF 2) ik') ++ ((wN ca nd sd) ++ ((wC ca aT (nd 0) tsk' tze' tma' tki' tdn' twi' tdu' the' tyr' tsz') ++ ((wC ca aL (nd 0) lsk' lze' lma' lki' ldn' lwi' ldu' lhe' lyr' lsz') ++ ((wC ca aK (nd 0) ksk' kze' kma' kki' kdn' kwi' kdu' khe' kyr' ksz') ++ ((wT ca tp (nd 0) pbb' pln' pso' ppl' pbh') ++ ((wA ca (aF 1) sb) ++ ((wS ca (sb 0) (sn 0) anu' abi' ale') ++ ((wS ca (sb 1) (sn 1) bnu' bbi' ble') ++ ((wS ca (sb 2) (sn 2) cnu' cbi' cle') ++ ((wS ca (sb 3) (sn 3) dnu' dbi' dle') ++ (wM ca am mm' mkp' mwa' mfo' mta' mbo' mso' mce' mik' mtd' mtk' mbg' maa' mvl' mbd'))))))))))))) [(0, .ref b), (1, .ref (aF 0)), (2, .ref (am 0)), (3, .int x3)] []) : J l D k 4 cs sl 1081 ((wD ca (aF 2) fd) ++ ((wF (aF 0) (aL 0) (aT 0) (aK 0) (tp 0) (aF 1) (aF 2) ik) ++ ((wN ca nd sd) ++ ((wC ca aT (nd 0) tsk tze tma tki tdn twi tdu the tyr tsz) ++ ((wC ca aL (nd 0) lsk lze lma lki ldn lwi ldu lhe lyr lsz) ++ ((wC ca aK (nd 0) ksk kze kma kki kdn kwi kdu khe kyr ksz) ++ ((wT ca tp (nd 0) pbb pln pso ppl pbh) ++ ((wA ca (aF 1) sb) ++ ((wS ca (sb 0) (sn 0) anu abi ale) ++ ((wS ca (sb 1) (sn 1) bnu bbi ble) ++ ((wS ca (sb 2) (sn 2) cnu cbi cle) ++ ((wS ca (sb 3) (sn 3) dnu dbi dle) ++ (wM ca am mm mkp mwa mfo mta mbo mso mce mik mtd mtk mbg maa mvl mbd))))))))))))) [(0, .ref b), (1, .ref (aF 0)), (2, .ref (am 0)), (3, .int x3)] [] := by
  obtain ⟨h1, h2, h3, h4, s0, s1, s2, s3⟩ := id hR
  have hw : ((xs ((x3 + 1).toNatClampNeg)) = 1 → ((xs ((x3 + 3).toNatClampNeg)) = 1 → wp_X9_copyE fd bnu bbi ble (xs ((x3 + 1).toNatClampNeg)) (xs ((x3 + 2).toNatClampNeg)) (xs ((x3 + 3).toNatClampNeg)) (xs ((x3 + 4).toNatClampNeg)) (xs ((x3 + 5).toNatClampNeg)) (fun r46 c46_0 c46_1 => wp_X10_copy mfo mbo mso mce (xs ((x3 + 1).toNatClampNeg)) (xs ((x3 + 2).toNatClampNeg)) (xs ((x3 + 3).toNatClampNeg)) (xs ((x3 + 4).toNatClampNeg)) (xs ((x3 + 5).toNatClampNeg)) (fun r47 c47_0 c47_1 => (r46 = r47 → RR c46_0 ik tsk tze tma tki tdn twi tdu the tyr tsz lsk lze lma lki ldn lwi ldu lhe lyr lsz ksk kze kma kki kdn kwi kdu khe kyr ksz pbb pln pso ppl pbh anu abi ale c46_1 bbi ble cnu cbi cle dnu dbi dle mm mkp mwa c47_0 mta mbo mso c47_1 mik mtd mtk mbg maa mvl mbd) ∧ (¬ (r46 = r47) → False)))) ∧ (¬ ((xs ((x3 + 3).toNatClampNeg)) = 1) → ((xs ((x3 + 3).toNatClampNeg)) = 2 → wp_X9_copyN fd bnu bbi ble cnu cbi cle (xs ((x3 + 1).toNatClampNeg)) (xs ((x3 + 2).toNatClampNeg)) (xs ((x3 + 3).toNatClampNeg)) (xs ((x3 + 4).toNatClampNeg)) (xs ((x3 + 5).toNatClampNeg)) (fun r44 c44_0 c44_1 => wp_X10_copy mfo mbo mso mce (xs ((x3 + 1).toNatClampNeg)) (xs ((x3 + 2).toNatClampNeg)) (xs ((x3 + 3).toNatClampNeg)) (xs ((x3 + 4).toNatClampNeg)) (xs ((x3 + 5).toNatClampNeg)) (fun r45 c45_0 c45_1 => (r44 = r45 → RR c44_0 ik tsk tze tma tki tdn twi tdu the tyr tsz lsk lze lma lki ldn lwi ldu lhe lyr lsz ksk kze kma kki kdn kwi kdu khe kyr ksz pbb pln pso ppl pbh anu abi ale bnu bbi ble c44_1 cbi cle dnu dbi dle mm mkp mwa c45_0 mta mbo mso c45_1 mik mtd mtk mbg maa mvl mbd) ∧ (¬ (r44 = r45) → False)))) ∧ (¬ ((xs ((x3 + 3).toNatClampNeg)) = 2) → ((xs ((x3 + 3).toNatClampNeg)) = 3 → wp_X9_copyN fd bnu bbi ble dnu dbi dle (xs ((x3 + 1).toNatClampNeg)) (xs ((x3 + 2).toNatClampNeg)) (xs ((x3 + 3).toNatClampNeg)) (xs ((x3 + 4).toNatClampNeg)) (xs ((x3 + 5).toNatClampNeg)) (fun r42 c42_0 c42_1 => wp_X10_copy mfo mbo mso mce (xs ((x3 + 1).toNatClampNeg)) (xs ((x3 + 2).toNatClampNeg)) (xs ((x3 + 3).toNatClampNeg)) (xs ((x3 + 4).toNatClampNeg)) (xs ((x3 + 5).toNatClampNeg)) (fun r43 c43_0 c43_1 => (r42 = r43 → RR c42_0 ik tsk tze tma tki tdn twi tdu the tyr tsz lsk lze lma lki ldn lwi ldu lhe lyr lsz ksk kze kma kki kdn kwi kdu khe kyr ksz pbb pln pso ppl pbh anu abi ale bnu bbi ble cnu cbi cle c42_1 dbi dle mm mkp mwa c43_0 mta mbo mso c43_1 mik mtd mtk mbg maa mvl mbd) ∧ (¬ (r42 = r43) → False)))) ∧ (¬ ((xs ((x3 + 3).toNatClampNeg)) = 3) → wp_X9_copyN fd bnu bbi ble anu abi ale (xs ((x3 + 1).toNatClampNeg)) (xs ((x3 + 2).toNatClampNeg)) (xs ((x3 + 3).toNatClampNeg)) (xs ((x3 + 4).toNatClampNeg)) (xs ((x3 + 5).toNatClampNeg)) (fun r40 c40_0 c40_1 => wp_X10_copy mfo mbo mso mce (xs ((x3 + 1).toNatClampNeg)) (xs ((x3 + 2).toNatClampNeg)) (xs ((x3 + 3).toNatClampNeg)) (xs ((x3 + 4).toNatClampNeg)) (xs ((x3 + 5).toNatClampNeg)) (fun r41 c41_0 c41_1 => (r40 = r41 → RR c40_0 ik tsk tze tma tki tdn twi tdu the tyr tsz lsk lze lma lki ldn lwi ldu lhe lyr lsz ksk kze kma kki kdn kwi kdu khe kyr ksz pbb pln pso ppl pbh c40_1 abi ale bnu bbi ble cnu cbi cle dnu dbi dle mm mkp mwa c41_0 mta mbo mso c41_1 mik mtd mtk mbg maa mvl mbd) ∧ (¬ (r40 = r41) → False))))))) ∧ (¬ ((xs ((x3 + 1).toNatClampNeg)) = 1) → ((xs ((x3 + 1).toNatClampNeg)) = 2 → ((xs ((x3 + 3).toNatClampNeg)) = 1 → wp_X9_copyN fd cnu cbi cle bnu bbi ble (xs ((x3 + 1).toNatClampNeg)) (xs ((x3 + 2).toNatClampNeg)) (xs ((x3 + 3).toNatClampNeg)) (xs ((x3 + 4).toNatClampNeg)) (xs ((x3 + 5).toNatClampNeg)) (fun r35 c35_0 c35_1 => wp_X10_copy mfo mbo mso mce (xs ((x3 + 1).toNatClampNeg)) (xs ((x3 + 2).toNatClampNeg)) (xs ((x3 + 3).toNatClampNeg)) (xs ((x3 + 4).toNatClampNeg)) (xs ((x3 + 5).toNatClampNeg)) (fun r36 c36_0 c36_1 => (r35 = r36 → RR c35_0 ik tsk tze tma tki tdn twi tdu the tyr tsz lsk lze lma lki ldn lwi ldu lhe lyr lsz ksk kze kma kki kdn kwi kdu khe kyr ksz pbb pln pso ppl pbh anu abi ale c35_1 bbi ble cnu cbi cle dnu dbi dle mm mkp mwa c36_0 mta mbo mso c36_1 mik mtd mtk mbg maa mvl mbd) ∧ (¬ (r35 = r36) → False)))) ∧ (¬ ((xs ((x3 + 3).toNatClampNeg)) = 1) → ((xs ((x3 + 3).toNatClampNeg)) = 2 → wp_X9_copyE fd cnu cbi cle (xs ((x3 + 1).toNatClampNeg)) (xs ((x3 + 2).toNatClampNeg)) (xs ((x3 + 3).toNatClampNeg)) (xs ((x3 + 4).toNatClampNeg)) (xs ((x3 + 5).toNatClampNeg)) (fun r33 c33_0 c33_1 => wp_X10_copy mfo mbo mso mce (xs ((x3 + 1).toNatClampNeg)) (xs ((x3 + 2).toNatClampNeg)) (xs ((x3 + 3).toNatClampNeg)) (xs ((x3 + 4).toNatClampNeg)) (xs ((x3 + 5).toNatClampNeg)) (fun r34 c34_0 c34_1 => (r33 = r34 → RR c33_0 ik tsk tze tma tki tdn twi tdu the tyr tsz lsk lze lma lki ldn lwi ldu lhe lyr lsz ksk kze kma kki kdn kwi kdu khe kyr ksz pbb pln pso ppl pbh anu abi ale bnu bbi ble c33_1 cbi cle dnu dbi dle mm mkp mwa c34_0 mta mbo mso c34_1 mik mtd mtk mbg maa mvl mbd) ∧ (¬ (r33 = r34) → False)))) ∧ (¬ ((xs ((x3 + 3).toNatClampNeg)) = 2) → ((xs ((x3 + 3).toNatClampNeg)) = 3 → wp_X9_copyN fd cnu cbi cle dnu dbi dle (xs ((x3 + 1).toNatClampNeg)) (xs ((x3 + 2).toNatClampNeg)) (xs ((x3 + 3).toNatClampNeg)) (xs ((x3 + 4).toNatClampNeg)) (xs ((x3 + 5).toNatClampNeg)) (fun r31 c31_0 c31_1 => wp_X10_copy mfo mbo mso mce (xs ((x3 + 1).toNatClampNeg)) (xs ((x3 + 2).toNatClampNeg)) (xs ((x3 + 3).toNatClampNeg)) (xs ((x3 + 4).toNatClampNeg)) (xs ((x3 + 5).toNatClampNeg)) (fun r32 c32_0 c32_1 => (r31 = r32 → RR c31_0 ik tsk tze tma tki tdn twi tdu the tyr tsz lsk lze lma lki ldn lwi ldu lhe lyr lsz ksk kze kma kki kdn kwi kdu khe kyr ksz pbb pln pso ppl pbh anu abi ale bnu bbi ble cnu cbi cle c31_1 dbi dle mm mkp mwa c32_0 mta mbo mso c32_1 mik mtd mtk mbg maa mvl mbd) ∧ (¬ (r31 = r32) → False)))) ∧ (¬ ((xs ((x3 + 3).toNatClampNeg)) = 3) → wp_X9_copyN fd cnu cbi cle anu abi ale (xs ((x3 + 1).toNatClampNeg)) (xs ((x3 + 2).toNatClampNeg)) (xs ((x3 + 3).toNatClampNeg)) (xs ((x3 + 4).toNatClampNeg)) (xs ((x3 + 5).toNatClampNeg)) (fun r29 c29_0 c29_1 => wp_X10_copy mfo mbo mso mce (xs ((x3 + 1).toNatClampNeg)) (xs ((x3 + 2).toNatClampNeg)) (xs ((x3 + 3).toNatClampNeg)) (xs ((x3 + 4).toNatClampNeg)) (xs ((x3 + 5).toNatClampNeg)) (fun r30 c30_0 c30_1 => (r29 = r30 → RR c29_0 ik tsk tze tma tki tdn twi tdu the tyr tsz lsk lze lma lki ldn lwi ldu lhe lyr lsz ksk kze kma kki kdn kwi kdu khe kyr ksz pbb pln pso ppl pbh c29_1 abi ale bnu bbi ble cnu cbi cle dnu dbi dle mm mkp mwa c30_0 mta mbo mso c30_1 mik mtd mtk mbg maa mvl mbd) ∧ (¬ (r29 = r30) → False))))))) ∧ (¬ ((xs ((x3 + 1).toNatClampNeg)) = 2) → ((xs ((x3 + 1).toNatClampNeg)) = 3 → ((xs ((x3 + 3).toNatClampNeg)) = 1 → wp_X9_copyN fd dnu dbi dle bnu bbi ble (xs ((x3 + 1).toNatClampNeg)) (xs ((x3 + 2).toNatClampNeg)) (xs ((x3 + 3).toNatClampNeg)) (xs ((x3 + 4).toNatClampNeg)) (xs ((x3 + 5).toNatClampNeg)) (fun r24 c24_0 c24_1 => wp_X10_copy mfo mbo mso mce (xs ((x3 + 1).toNatClampNeg)) (xs ((x3 + 2).toNatClampNeg)) (xs ((x3 + 3).toNatClampNeg)) (xs ((x3 + 4).toNatClampNeg)) (xs ((x3 + 5).toNatClampNeg)) (fun r25 c25_0 c25_1 => (r24 = r25 → RR c24_0 ik tsk tze tma tki tdn twi tdu the tyr tsz lsk lze lma lki ldn lwi ldu lhe lyr lsz ksk kze kma kki kdn kwi kdu khe kyr ksz pbb pln pso ppl pbh anu abi ale c24_1 bbi ble cnu cbi cle dnu dbi dle mm mkp mwa c25_0 mta mbo mso c25_1 mik mtd mtk mbg maa mvl mbd) ∧ (¬ (r24 = r25) → False)))) ∧ (¬ ((xs ((x3 + 3).toNatClampNeg)) = 1) → ((xs ((x3 + 3).toNatClampNeg)) = 2 → wp_X9_copyN fd dnu dbi dle cnu cbi cle (xs ((x3 + 1).toNatClampNeg)) (xs ((x3 + 2).toNatClampNeg)) (xs ((x3 + 3).toNatClampNeg)) (xs ((x3 + 4).toNatClampNeg)) (xs ((x3 + 5).toNatClampNeg)) (fun r22 c22_0 c22_1 => wp_X10_copy mfo mbo mso mce (xs ((x3 + 1).toNatClampNeg)) (xs ((x3 + 2).toNatClampNeg)) (xs ((x3 + 3).toNatClampNeg)) (xs ((x3 + 4).toNatClampNeg)) (xs ((x3 + 5).toNatClampNeg)) (fun r23 c23_0 c23_1 => (r22 = r23 → RR c22_0 ik tsk tze tma tki tdn twi tdu the tyr tsz lsk lze lma lki ldn lwi ldu lhe lyr lsz ksk kze kma kki kdn kwi kdu khe kyr ksz pbb pln pso ppl pbh anu abi ale bnu bbi ble c22_1 cbi cle dnu dbi dle mm mkp mwa c23_0 mta mbo mso c23_1 mik mtd mtk mbg maa mvl mbd) ∧ (¬ (r22 = r23) → False)))) ∧ (¬ ((xs ((x3 + 3).toNatClampNeg)) = 2) → ((xs ((x3 + 3).toNatClampNeg)) = 3 → wp_X9_copyE fd dnu dbi dle (xs ((x3 + 1).toNatClampNeg)) (xs ((x3 + 2).toNatClampNeg)) (xs ((x3 + 3).toNatClampNeg)) (xs ((x3 + 4).toNatClampNeg)) (xs ((x3 + 5).toNatClampNeg)) (fun r20 c20_0 c20_1 => wp_X10_copy mfo mbo mso mce (xs ((x3 + 1).toNatClampNeg)) (xs ((x3 + 2).toNatClampNeg)) (xs ((x3 + 3).toNatClampNeg)) (xs ((x3 + 4).toNatClampNeg)) (xs ((x3 + 5).toNatClampNeg)) (fun r21 c21_0 c21_1 => (r20 = r21 → RR c20_0 ik tsk tze tma tki tdn twi tdu the tyr tsz lsk lze lma lki ldn lwi ldu lhe lyr lsz ksk kze kma kki kdn kwi kdu khe kyr ksz pbb pln pso ppl pbh anu abi ale bnu bbi ble cnu cbi cle c20_1 dbi dle mm mkp mwa c21_0 mta mbo mso c21_1 mik mtd mtk mbg maa mvl mbd) ∧ (¬ (r20 = r21) → False)))) ∧ (¬ ((xs ((x3 + 3).toNatClampNeg)) = 3) → wp_X9_copyN fd dnu dbi dle anu abi ale (xs ((x3 + 1).toNatClampNeg)) (xs ((x3 + 2).toNatClampNeg)) (xs ((x3 + 3).toNatClampNeg)) (xs ((x3 + 4).toNatClampNeg)) (xs ((x3 + 5).toNatClampNeg)) (fun r18 c18_0 c18_1 => wp_X10_copy mfo mbo mso mce (xs ((x3 + 1).toNatClampNeg)) (xs ((x3 + 2).toNatClampNeg)) (xs ((x3 + 3).toNatClampNeg)) (xs ((x3 + 4).toNatClampNeg)) (xs ((x3 + 5).toNatClampNeg)) (fun r19 c19_0 c19_1 => (r18 = r19 → RR c18_0 ik tsk tze tma tki tdn twi tdu the tyr tsz lsk lze lma lki ldn lwi ldu lhe lyr lsz ksk kze kma kki kdn kwi kdu khe kyr ksz pbb pln pso ppl pbh c18_1 abi ale bnu bbi ble cnu cbi cle dnu dbi dle mm mkp mwa c19_0 mta mbo mso c19_1 mik mtd mtk mbg maa mvl mbd) ∧ (¬ (r18 = r19) → False))))))) ∧ (¬ ((xs ((x3 + 1).toNatClampNeg)) = 3) → ((xs ((x3 + 3).toNatClampNeg)) = 1 → wp_X9_copyN fd anu abi ale bnu bbi ble (xs ((x3 + 1).toNatClampNeg)) (xs ((x3 + 2).toNatClampNeg)) (xs ((x3 + 3).toNatClampNeg)) (xs ((x3 + 4).toNatClampNeg)) (xs ((x3 + 5).toNatClampNeg)) (fun r13 c13_0 c13_1 => wp_X10_copy mfo mbo mso mce (xs ((x3 + 1).toNatClampNeg)) (xs ((x3 + 2).toNatClampNeg)) (xs ((x3 + 3).toNatClampNeg)) (xs ((x3 + 4).toNatClampNeg)) (xs ((x3 + 5).toNatClampNeg)) (fun r14 c14_0 c14_1 => (r13 = r14 → RR c13_0 ik tsk tze tma tki tdn twi tdu the tyr tsz lsk lze lma lki ldn lwi ldu lhe lyr lsz ksk kze kma kki kdn kwi kdu khe kyr ksz pbb pln pso ppl pbh anu abi ale c13_1 bbi ble cnu cbi cle dnu dbi dle mm mkp mwa c14_0 mta mbo mso c14_1 mik mtd mtk mbg maa mvl mbd) ∧ (¬ (r13 = r14) → False)))) ∧ (¬ ((xs ((x3 + 3).toNatClampNeg)) = 1) → ((xs ((x3 + 3).toNatClampNeg)) = 2 → wp_X9_copyN fd anu abi ale cnu cbi cle (xs ((x3 + 1).toNatClampNeg)) (xs ((x3 + 2).toNatClampNeg)) (xs ((x3 + 3).toNatClampNeg)) (xs ((x3 + 4).toNatClampNeg)) (xs ((x3 + 5).toNatClampNeg)) (fun r11 c11_0 c11_1 => wp_X10_copy mfo mbo mso mce (xs ((x3 + 1).toNatClampNeg)) (xs ((x3 + 2).toNatClampNeg)) (xs ((x3 + 3).toNatClampNeg)) (xs ((x3 + 4).toNatClampNeg)) (xs ((x3 + 5).toNatClampNeg)) (fun r12 c12_0 c12_1 => (r11 = r12 → RR c11_0 ik tsk tze tma tki tdn twi tdu the tyr tsz lsk lze lma lki ldn lwi ldu lhe lyr lsz ksk kze kma kki kdn kwi kdu khe kyr ksz pbb pln pso ppl pbh anu abi ale bnu bbi ble c11_1 cbi cle dnu dbi dle mm mkp mwa c12_0 mta mbo mso c12_1 mik mtd mtk mbg maa mvl mbd) ∧ (¬ (r11 = r12) → False)))) ∧ (¬ ((xs ((x3 + 3).toNatClampNeg)) = 2) → ((xs ((x3 + 3).toNatClampNeg)) = 3 → wp_X9_copyN fd anu abi ale dnu dbi dle (xs ((x3 + 1).toNatClampNeg)) (xs ((x3 + 2).toNatClampNeg)) (xs ((x3 + 3).toNatClampNeg)) (xs ((x3 + 4).toNatClampNeg)) (xs ((x3 + 5).toNatClampNeg)) (fun r9 c9_0 c9_1 => wp_X10_copy mfo mbo mso mce (xs ((x3 + 1).toNatClampNeg)) (xs ((x3 + 2).toNatClampNeg)) (xs ((x3 + 3).toNatClampNeg)) (xs ((x3 + 4).toNatClampNeg)) (xs ((x3 + 5).toNatClampNeg)) (fun r10 c10_0 c10_1 => (r9 = r10 → RR c9_0 ik tsk tze tma tki tdn twi tdu the tyr tsz lsk lze lma lki ldn lwi ldu lhe lyr lsz ksk kze kma kki kdn kwi kdu khe kyr ksz pbb pln pso ppl pbh anu abi ale bnu bbi ble cnu cbi cle c9_1 dbi dle mm mkp mwa c10_0 mta mbo mso c10_1 mik mtd mtk mbg maa mvl mbd) ∧ (¬ (r9 = r10) → False)))) ∧ (¬ ((xs ((x3 + 3).toNatClampNeg)) = 3) → wp_X9_copyE fd anu abi ale (xs ((x3 + 1).toNatClampNeg)) (xs ((x3 + 2).toNatClampNeg)) (xs ((x3 + 3).toNatClampNeg)) (xs ((x3 + 4).toNatClampNeg)) (xs ((x3 + 5).toNatClampNeg)) (fun r7 c7_0 c7_1 => wp_X10_copy mfo mbo mso mce (xs ((x3 + 1).toNatClampNeg)) (xs ((x3 + 2).toNatClampNeg)) (xs ((x3 + 3).toNatClampNeg)) (xs ((x3 + 4).toNatClampNeg)) (xs ((x3 + 5).toNatClampNeg)) (fun r8 c8_0 c8_1 => (r7 = r8 → RR c7_0 ik tsk tze tma tki tdn twi tdu the tyr tsz lsk lze lma lki ldn lwi ldu lhe lyr lsz ksk kze kma kki kdn kwi kdu khe kyr ksz pbb pln pso ppl pbh c7_1 abi ale bnu bbi ble cnu cbi cle dnu dbi dle mm mkp mwa c8_0 mta mbo mso c8_1 mik mtd mtk mbg maa mvl mbd) ∧ (¬ (r7 = r8) → False))))))))) := by
    refine ⟨fun w1 => ?_, fun w1 => ?_⟩
    · refine ⟨fun w37 => ?_, fun w37 => ?_⟩
      · exact sim_copyE h2 (by decide) s1 _ _ _ _ _ (hjk w1 (by decide)) (hjk w37 (by decide)) (fun _ _ _ _ _ g2 g5 gF => ⟨fun _ => ⟨h1, g2, h3, h4, gF.s (by decide) (by decide) s0, g5, gF.s (by decide) (by decide) s2, gF.s (by decide) (by decide) s3⟩, fun z => absurd rfl z⟩)
      · refine ⟨fun w38 => ?_, fun w38 => ?_⟩
        · exact sim_copyN h2 (by decide) (by decide) s1 s2 _ _ _ _ _ (hjk w1 (by decide)) (hjk w38 (by decide)) (fun _ _ _ _ _ g2 g5 gF => ⟨fun _ => ⟨h1, g2, h3, h4, gF.s (by decide) (by decide) s0, gF.s (by decide) (by decide) s1, g5, gF.s (by decide) (by decide) s3⟩, fun z => absurd rfl z⟩)
        · refine ⟨fun w39 => ?_, fun w39 => ?_⟩
          · exact sim_copyN h2 (by decide) (by decide) s1 s3 _ _ _ _ _ (hjk w1 (by decide)) (hjk w39 (by decide)) (fun _ _ _ _ _ g2 g5 gF => ⟨fun _ => ⟨h1, g2, h3, h4, gF.s (by decide) (by decide) s0, gF.s (by decide) (by decide) s1, gF.s (by decide) (by decide) s2, g5⟩, fun z => absurd rfl z⟩)
          · exact sim_copyN h2 (by decide) (by decide) s1 s0 _ _ _ _ _ (hjk w1 (by decide)) (hj0 w37 w38 w39) (fun _ _ _ _ _ g2 g5 gF => ⟨fun _ => ⟨h1, g2, h3, h4, g5, gF.s (by decide) (by decide) s1, gF.s (by decide) (by decide) s2, gF.s (by decide) (by decide) s3⟩, fun z => absurd rfl z⟩)
    · refine ⟨fun w2 => ?_, fun w2 => ?_⟩
      · refine ⟨fun w26 => ?_, fun w26 => ?_⟩
        · exact sim_copyN h2 (by decide) (by decide) s2 s1 _ _ _ _ _ (hjk w2 (by decide)) (hjk w26 (by decide)) (fun _ _ _ _ _ g2 g5 gF => ⟨fun _ => ⟨h1, g2, h3, h4, gF.s (by decide) (by decide) s0, g5, gF.s (by decide) (by decide) s2, gF.s (by decide) (by decide) s3⟩, fun z => absurd rfl z⟩)
        · refine ⟨fun w27 => ?_, fun w27 => ?_⟩
          · exact sim_copyE h2 (by decide) s2 _ _ _ _ _ (hjk w2 (by decide)) (hjk w27 (by decide)) (fun _ _ _ _ _ g2 g5 gF => ⟨fun _ => ⟨h1, g2, h3, h4, gF.s (by decide) (by decide) s0, gF.s (by decide) (by decide) s1, g5, gF.s (by decide) (by decide) s3⟩, fun z => absurd rfl z⟩)
          · refine ⟨fun w28 => ?_, fun w28 => ?_⟩
            · exact sim_copyN h2 (by decide) (by decide) s2 s3 _ _ _ _ _ (hjk w2 (by decide)) (hjk w28 (by decide)) (fun _ _ _ _ _ g2 g5 gF => ⟨fun _ => ⟨h1, g2, h3, h4, gF.s (by decide) (by decide) s0, gF.s (by decide) (by decide) s1, gF.s (by decide) (by decide) s2, g5⟩, fun z => absurd rfl z⟩)
            · exact sim_copyN h2 (by decide) (by decide) s2 s0 _ _ _ _ _ (hjk w2 (by decide)) (hj0 w26 w27 w28) (fun _ _ _ _ _ g2 g5 gF => ⟨fun _ => ⟨h1, g2, h3, h4, g5, gF.s (by decide) (by decide) s1, gF.s (by decide) (by decide) s2, gF.s (by decide) (by decide) s3⟩, fun z => absurd rfl z⟩)
      · refine ⟨fun w3 => ?_, fun w3 => ?_⟩
        · refine ⟨fun w15 => ?_, fun w15 => ?_⟩
          · exact sim_copyN h2 (by decide) (by decide) s3 s1 _ _ _ _ _ (hjk w3 (by decide)) (hjk w15 (by decide)) (fun _ _ _ _ _ g2 g5 gF => ⟨fun _ => ⟨h1, g2, h3, h4, gF.s (by decide) (by decide) s0, g5, gF.s (by decide) (by decide) s2, gF.s (by decide) (by decide) s3⟩, fun z => absurd rfl z⟩)
          · refine ⟨fun w16 => ?_, fun w16 => ?_⟩
            · exact sim_copyN h2 (by decide) (by decide) s3 s2 _ _ _ _ _ (hjk w3 (by decide)) (hjk w16 (by decide)) (fun _ _ _ _ _ g2 g5 gF => ⟨fun _ => ⟨h1, g2, h3, h4, gF.s (by decide) (by decide) s0, gF.s (by decide) (by decide) s1, g5, gF.s (by decide) (by decide) s3⟩, fun z => absurd rfl z⟩)
            · refine ⟨fun w17 => ?_, fun w17 => ?_⟩
              · exact sim_copyE h2 (by decide) s3 _ _ _ _ _ (hjk w3 (by decide)) (hjk w17 (by decide)) (fun _ _ _ _ _ g2 g5 gF => ⟨fun _ => ⟨h1, g2, h3, h4, gF.s (by decide) (by decide) s0, gF.s (by decide) (by decide) s1, gF.s (by decide) (by decide) s2, g5⟩, fun z => absurd rfl z⟩)
              · exact sim_copyN h2 (by decide) (by decide) s3 s0 _ _ _ _ _ (hjk w3 (by decide)) (hj0 w15 w16 w17) (fun _ _ _ _ _ g2 g5 gF => ⟨fun _ => ⟨h1, g2, h3, h4, g5, gF.s (by decide) (by decide) s1, gF.s (by decide) (by decide) s2, gF.s (by decide) (by decide) s3⟩, fun z => absurd rfl z⟩)
        · refine ⟨fun w4 => ?_, fun w4 => ?_⟩
          · exact sim_copyN h2 (by decide) (by decide) s0 s1 _ _ _ _ _ (hj0 w1 w2 w3) (hjk w4 (by decide)) (fun _ _ _ _ _ g2 g5 gF => ⟨fun _ => ⟨h1, g2, h3, h4, gF.s (by decide) (by decide) s0, g5, gF.s (by decide) (by decide) s2, gF.s (by decide) (by decide) s3⟩, fun z => absurd rfl z⟩)
          · refine ⟨fun w5 => ?_, fun w5 => ?_⟩
            · exact sim_copyN h2 (by decide) (by decide) s0 s2 _ _ _ _ _ (hj0 w1 w2 w3) (hjk w5 (by decide)) (fun _ _ _ _ _ g2 g5 gF => ⟨fun _ => ⟨h1, g2, h3, h4, gF.s (by decide) (by decide) s0, gF.s (by decide) (by decide) s1, g5, gF.s (by decide) (by decide) s3⟩, fun z => absurd rfl z⟩)
            · refine ⟨fun w6 => ?_, fun w6 => ?_⟩
              · exact sim_copyN h2 (by decide) (by decide) s0 s3 _ _ _ _ _ (hj0 w1 w2 w3) (hjk w6 (by decide)) (fun _ _ _ _ _ g2 g5 gF => ⟨fun _ => ⟨h1, g2, h3, h4, gF.s (by decide) (by decide) s0, gF.s (by decide) (by decide) s1, gF.s (by decide) (by decide) s2, g5⟩, fun z => absurd rfl z⟩)
              · exact sim_copyE h2 (by decide) s0 _ _ _ _ _ (hj0 w1 w2 w3) (hj0 w4 w5 w6) (fun _ _ _ _ _ g2 g5 gF => ⟨fun _ => ⟨h1, g2, h3, h4, g5, gF.s (by decide) (by decide) s1, gF.s (by decide) (by decide) s2, gF.s (by decide) (by decide) s3⟩, fun z => absurd rfl z⟩)
  refine j_aload_n C 1 dL_law_1081 rfl ?_
  refine j_aload_n C 0 dL_law_1082 rfl ?_
  refine j_iload_n C 3 dL_law_1083 rfl ?_
  refine j_iconst C 1 dL_law_1084 (by decide) ?_
  refine j_iadd C dL_law_1085 ?_
  refine j_sld C hX dL_law_1086 hi1 ?_
  refine j_aload_n C 0 dL_law_1087 rfl ?_
  refine j_iload_n C 3 dL_law_1088 rfl ?_
  refine j_iconst C 2 dL_law_1089 (by decide) ?_
  refine j_iadd C dL_law_1090 ?_
  refine j_sld C hX dL_law_1091 hi2 ?_
  refine j_aload_n C 0 dL_law_1092 rfl ?_
  refine j_iload_n C 3 dL_law_1093 rfl ?_
  refine j_iconst C 3 dL_law_1094 (by decide) ?_
  refine j_iadd C dL_law_1095 ?_
  refine j_sld C hX dL_law_1096 hi3 ?_
  refine j_aload_n C 0 dL_law_1097 rfl ?_
  refine j_iload_n C 3 dL_law_1098 rfl ?_
  refine j_iconst C 4 dL_law_1099 (by decide) ?_
  refine j_iadd C dL_law_1100 ?_
  refine j_sld C hX dL_law_1101 hi4 ?_
  refine j_aload_n C 0 dL_law_1102 rfl ?_
  refine j_iload_n C 3 dL_law_1103 rfl ?_
  refine j_iconst C 5 dL_law_1104 (by decide) ?_
  refine j_iadd C dL_law_1105 ?_
  refine j_sld C hX dL_law_1106 hi5 ?_
  by_cases w1 : (xs ((x3 + 1).toNatClampNeg)) = 1
  · replace hw := hw.1 w1
    by_cases w37 : (xs ((x3 + 3).toNatClampNeg)) = 1
    · replace hw := hw.1 w37
      refine j_ciP C hB [0, 1, 38, 41, 42] [2, 3, 4, 5, 6, 7, 8, 9, 10, 11, 12, 13, 14, 15, 16, 17, 18, 19, 20, 21, 22, 23, 24, 25, 26, 27, 28, 29, 30, 31, 32, 33, 34, 35, 36, 37, 39, 40, 43, 44, 45, 46, 47, 48, 49, 50, 51, 52, 53, 54, 55] [51, 52, 0, 1, 2, 3, 4, 5, 6, 7, 8, 9, 10, 11, 12, 13, 14, 15, 16, 17, 18, 19, 20, 21, 22, 23, 24, 25, 26, 27, 28, 29, 30, 31, 32, 33, 34, 35, 53, 36, 37, 54, 55, 38, 39, 40, 41, 42, 43, 44, 45, 46, 47, 48, 49, 50] (fun u46 : (Nat → Int32) × (Nat → Int64) => ((wD ca (aF 2) u46.1) ++ ((wF (aF 0) (aL 0) (aT 0) (aK 0) (tp 0) (aF 1) (aF 2) ik) ++ ((wN ca nd sd) ++ ((wC ca aT (nd 0) tsk tze tma tki tdn twi tdu the tyr tsz) ++ ((wC ca aL (nd 0) lsk lze lma lki ldn lwi ldu lhe lyr lsz) ++ ((wC ca aK (nd 0) ksk kze kma kki kdn kwi kdu khe kyr ksz) ++ ((wT ca tp (nd 0) pbb pln pso ppl pbh) ++ ((wA ca (aF 1) sb) ++ ((wS ca (sb 0) (sn 0) anu abi ale) ++ ((wS ca (sb 1) (sn 1) u46.2 bbi ble) ++ ((wS ca (sb 2) (sn 2) cnu cbi cle) ++ ((wS ca (sb 3) (sn 3) dnu dbi dle) ++ (wM ca am mm mkp mwa mfo mta mbo mso mce mik mtd mtk mbg maa mvl mbd)))))))))))))) ((wN ca nd sd) ++ ((wC ca aT (nd 0) tsk tze tma tki tdn twi tdu the tyr tsz) ++ ((wC ca aL (nd 0) lsk lze lma lki ldn lwi ldu lhe lyr lsz) ++ ((wC ca aK (nd 0) ksk kze kma kki kdn kwi kdu khe kyr ksz) ++ ((wT ca tp (nd 0) pbb pln pso ppl pbh) ++ ((wS ca (sb 0) (sn 0) anu abi ale) ++ ((wS ca (sb 2) (sn 2) cnu cbi cle) ++ ((wS ca (sb 3) (sn 3) dnu dbi dle) ++ (wM ca am mm mkp mwa mfo mta mbo mso mce mik mtd mtk mbg maa mvl mbd))))))))) rfl rfl rfl (by decide) rfl (fun _ => rfl) (jr_V C lkV_L_132 (c_X9_copyE aF aL aT aK nd tp sb sn 1 fd ik bnu bbi ble (xs ((x3 + 1).toNatClampNeg)) (xs ((x3 + 2).toNatClampNeg)) (xs ((x3 + 3).toNatClampNeg)) (xs ((x3 + 4).toNatClampNeg)) (xs ((x3 + 5).toNatClampNeg)) (hjk w1 (by decide)) (hjk w37 (by decide)) hw) ⟨rfl, rfl, by decide, by decide, hcs.1, hcs.2⟩ [0, 1, 38, 41, 42] (by decide) rfl (fx_rw C hB [0, 1, 38, 41, 42] rfl) 1 9 rfl rfl rfl rfl (Nat.le_of_ble_eq_true rfl) dL_law_1107) (fun r46 u46 hw => ?_)
      refine j_aload_n C 2 dL_law_1110 rfl ?_
      refine j_aload_n C 0 dL_law_1111 rfl ?_
      refine j_iload_n C 3 dL_law_1112 rfl ?_
      refine j_iconst C 1 dL_law_1113 (by decide) ?_
      refine j_iadd C dL_law_1114 ?_
      refine j_sld C hX dL_law_1115 hi1 ?_
      refine j_aload_n C 0 dL_law_1116 rfl ?_
      refine j_iload_n C 3 dL_law_1117 rfl ?_
      refine j_iconst C 2 dL_law_1118 (by decide) ?_
      refine j_iadd C dL_law_1119 ?_
      refine j_sld C hX dL_law_1120 hi2 ?_
      refine j_aload_n C 0 dL_law_1121 rfl ?_
      refine j_iload_n C 3 dL_law_1122 rfl ?_
      refine j_iconst C 3 dL_law_1123 (by decide) ?_
      refine j_iadd C dL_law_1124 ?_
      refine j_sld C hX dL_law_1125 hi3 ?_
      refine j_aload_n C 0 dL_law_1126 rfl ?_
      refine j_iload_n C 3 dL_law_1127 rfl ?_
      refine j_iconst C 4 dL_law_1128 (by decide) ?_
      refine j_iadd C dL_law_1129 ?_
      refine j_sld C hX dL_law_1130 hi4 ?_
      refine j_aload_n C 0 dL_law_1131 rfl ?_
      refine j_iload_n C 3 dL_law_1132 rfl ?_
      refine j_iconst C 5 dL_law_1133 (by decide) ?_
      refine j_iadd C dL_law_1134 ?_
      refine j_sld C hX dL_law_1135 hi5 ?_
      refine j_ciT C hB 47 56 (fun u47 : (Nat → Int32) × (Nat → Int64) => ((wD ca (aF 2) u46.1) ++ ((wF (aF 0) (aL 0) (aT 0) (aK 0) (tp 0) (aF 1) (aF 2) ik) ++ ((wN ca nd sd) ++ ((wC ca aT (nd 0) tsk tze tma tki tdn twi tdu the tyr tsz) ++ ((wC ca aL (nd 0) lsk lze lma lki ldn lwi ldu lhe lyr lsz) ++ ((wC ca aK (nd 0) ksk kze kma kki kdn kwi kdu khe kyr ksz) ++ ((wT ca tp (nd 0) pbb pln pso ppl pbh) ++ ((wA ca (aF 1) sb) ++ ((wS ca (sb 0) (sn 0) anu abi ale) ++ ((wS ca (sb 1) (sn 1) u46.2 bbi ble) ++ ((wS ca (sb 2) (sn 2) cnu cbi cle) ++ ((wS ca (sb 3) (sn 3) dnu dbi dle) ++ (wM ca am mm mkp mwa u47.1 mta mbo mso u47.2 mik mtd mtk mbg maa mvl mbd)))))))))))))) rfl (fun _ => rfl) (jr_V C lkV_L_136 (c_X10_copy am mm mkp mwa mfo mta mbo mso mce mik mtd mtk mbg maa mvl mbd (xs ((x3 + 1).toNatClampNeg)) (xs ((x3 + 2).toNatClampNeg)) (xs ((x3 + 3).toNatClampNeg)) (xs ((x3 + 4).toNatClampNeg)) (xs ((x3 + 5).toNatClampNeg)) hw) ⟨rfl, rfl, by decide, by decide, hcs.1, hcs.2⟩ [47, 48, 49, 50, 51, 52, 53, 54, 55] (by decide) rfl (fx_rw C hB [47, 48, 49, 50, 51, 52, 53, 54, 55] rfl) 47 10 rfl rfl rfl rfl (Nat.le_of_ble_eq_true rfl) dL_law_1136) (fun r47 u47 hw => ?_)
      refine j_icmp_eq C 1328 dL_law_1139 (by decide) (fun z => ?_) (fun z => ?_)
      · replace hw := hw.1 z
        exact hK u46.1 ik tsk tze tma tki tdn twi tdu the tyr tsz lsk lze lma lki ldn lwi ldu lhe lyr lsz ksk kze kma kki kdn kwi kdu khe kyr ksz pbb pln pso ppl pbh anu abi ale u46.2 bbi ble cnu cbi cle dnu dbi dle mm mkp mwa u47.1 mta mbo mso u47.2 mik mtd mtk mbg maa mvl mbd hw
      · replace hw := hw.2 z
        refine j_iconst C 0 dL_law_1142 (by decide) ?_
        exact hw.elim
    · replace hw := hw.2 w37
      by_cases w38 : (xs ((x3 + 3).toNatClampNeg)) = 2
      · replace hw := hw.1 w38
        refine j_ciP C hB [0, 1, 38, 41, 42, 43, 44] [2, 3, 4, 5, 6, 7, 8, 9, 10, 11, 12, 13, 14, 15, 16, 17, 18, 19, 20, 21, 22, 23, 24, 25, 26, 27, 28, 29, 30, 31, 32, 33, 34, 35, 36, 37, 39, 40, 45, 46, 47, 48, 49, 50, 51, 52, 53, 54, 55] [49, 50, 0, 1, 2, 3, 4, 5, 6, 7, 8, 9, 10, 11, 12, 13, 14, 15, 16, 17, 18, 19, 20, 21, 22, 23, 24, 25, 26, 27, 28, 29, 30, 31, 32, 33, 34, 35, 51, 36, 37, 52, 53, 54, 55, 38, 39, 40, 41, 42, 43, 44, 45, 46, 47, 48] (fun u44 : (Nat → Int32) × (Nat → Int64) => ((wD ca (aF 2) u44.1) ++ ((wF (aF 0) (aL 0) (aT 0) (aK 0) (tp 0) (aF 1) (aF 2) ik) ++ ((wN ca nd sd) ++ ((wC ca aT (nd 0) tsk tze tma tki tdn twi tdu the tyr tsz) ++ ((wC ca aL (nd 0) lsk lze lma lki ldn lwi ldu lhe lyr lsz) ++ ((wC ca aK (nd 0) ksk kze kma kki kdn kwi kdu khe kyr ksz) ++ ((wT ca tp (nd 0) pbb pln pso ppl pbh) ++ ((wA ca (aF 1) sb) ++ ((wS ca (sb 0) (sn 0) anu abi ale) ++ ((wS ca (sb 1) (sn 1) bnu bbi ble) ++ ((wS ca (sb 2) (sn 2) u44.2 cbi cle) ++ ((wS ca (sb 3) (sn 3) dnu dbi dle) ++ (wM ca am mm mkp mwa mfo mta mbo mso mce mik mtd mtk mbg maa mvl mbd)))))))))))))) ((wN ca nd sd) ++ ((wC ca aT (nd 0) tsk tze tma tki tdn twi tdu the tyr tsz) ++ ((wC ca aL (nd 0) lsk lze lma lki ldn lwi ldu lhe lyr lsz) ++ ((wC ca aK (nd 0) ksk kze kma kki kdn kwi kdu khe kyr ksz) ++ ((wT ca tp (nd 0) pbb pln pso ppl pbh) ++ ((wS ca (sb 0) (sn 0) anu abi ale) ++ ((wS ca (sb 3) (sn 3) dnu dbi dle) ++ (wM ca am mm mkp mwa mfo mta mbo mso mce mik mtd mtk mbg maa mvl mbd)))))))) rfl rfl rfl (by decide) rfl (fun _ => rfl) (jr_V C lkV_L_132 (c_X9_copyN aF aL aT aK nd tp sb sn 1 2 fd ik bnu bbi ble cnu cbi cle (xs ((x3 + 1).toNatClampNeg)) (xs ((x3 + 2).toNatClampNeg)) (xs ((x3 + 3).toNatClampNeg)) (xs ((x3 + 4).toNatClampNeg)) (xs ((x3 + 5).toNatClampNeg)) (hjk w1 (by decide)) (hjk w38 (by decide)) hw) ⟨rfl, rfl, by decide, by decide, hcs.1, hcs.2⟩ [0, 1, 38, 41, 42, 43, 44] (by decide) rfl (fx_rw C hB [0, 1, 38, 41, 42, 43, 44] rfl) 1 9 rfl rfl rfl rfl (Nat.le_of_ble_eq_true rfl) dL_law_1107) (fun r44 u44 hw => ?_)
        refine j_aload_n C 2 dL_law_1110 rfl ?_
        refine j_aload_n C 0 dL_law_1111 rfl ?_
        refine j_iload_n C 3 dL_law_1112 rfl ?_
        refine j_iconst C 1 dL_law_1113 (by decide) ?_
        refine j_iadd C dL_law_1114 ?_
        refine j_sld C hX dL_law_1115 hi1 ?_
        refine j_aload_n C 0 dL_law_1116 rfl ?_
        refine j_iload_n C 3 dL_law_1117 rfl ?_
        refine j_iconst C 2 dL_law_1118 (by decide) ?_
        refine j_iadd C dL_law_1119 ?_
        refine j_sld C hX dL_law_1120 hi2 ?_
        refine j_aload_n C 0 dL_law_1121 rfl ?_
        refine j_iload_n C 3 dL_law_1122 rfl ?_
        refine j_iconst C 3 dL_law_1123 (by decide) ?_
        refine j_iadd C dL_law_1124 ?_
        refine j_sld C hX dL_law_1125 hi3 ?_
        refine j_aload_n C 0 dL_law_1126 rfl ?_
        refine j_iload_n C 3 dL_law_1127 rfl ?_
        refine j_iconst C 4 dL_law_1128 (by decide) ?_
        refine j_iadd C dL_law_1129 ?_
        refine j_sld C hX dL_law_1130 hi4 ?_
        refine j_aload_n C 0 dL_law_1131 rfl ?_
        refine j_iload_n C 3 dL_law_1132 rfl ?_
        refine j_iconst C 5 dL_law_1133 (by decide) ?_
        refine j_iadd C dL_law_1134 ?_
        refine j_sld C hX dL_law_1135 hi5 ?_
        refine j_ciT C hB 47 56 (fun u45 : (Nat → Int32) × (Nat → Int64) => ((wD ca (aF 2) u44.1) ++ ((wF (aF 0) (aL 0) (aT 0) (aK 0) (tp 0) (aF 1) (aF 2) ik) ++ ((wN ca nd sd) ++ ((wC ca aT (nd 0) tsk tze tma tki tdn twi tdu the tyr tsz) ++ ((wC ca aL (nd 0) lsk lze lma lki ldn lwi ldu lhe lyr lsz) ++ ((wC ca aK (nd 0) ksk kze kma kki kdn kwi kdu khe kyr ksz) ++ ((wT ca tp (nd 0) pbb pln pso ppl pbh) ++ ((wA ca (aF 1) sb) ++ ((wS ca (sb 0) (sn 0) anu abi ale) ++ ((wS ca (sb 1) (sn 1) bnu bbi ble) ++ ((wS ca (sb 2) (sn 2) u44.2 cbi cle) ++ ((wS ca (sb 3) (sn 3) dnu dbi dle) ++ (wM ca am mm mkp mwa u45.1 mta mbo mso u45.2 mik mtd mtk mbg maa mvl mbd)))))))))))))) rfl (fun _ => rfl) (jr_V C lkV_L_136 (c_X10_copy am mm mkp mwa mfo mta mbo mso mce mik mtd mtk mbg maa mvl mbd (xs ((x3 + 1).toNatClampNeg)) (xs ((x3 + 2).toNatClampNeg)) (xs ((x3 + 3).toNatClampNeg)) (xs ((x3 + 4).toNatClampNeg)) (xs ((x3 + 5).toNatClampNeg)) hw) ⟨rfl, rfl, by decide, by decide, hcs.1, hcs.2⟩ [47, 48, 49, 50, 51, 52, 53, 54, 55] (by decide) rfl (fx_rw C hB [47, 48, 49, 50, 51, 52, 53, 54, 55] rfl) 47 10 rfl rfl rfl rfl (Nat.le_of_ble_eq_true rfl) dL_law_1136) (fun r45 u45 hw => ?_)
        refine j_icmp_eq C 1328 dL_law_1139 (by decide) (fun z => ?_) (fun z => ?_)
        · replace hw := hw.1 z
          exact hK u44.1 ik tsk tze tma tki tdn twi tdu the tyr tsz lsk lze lma lki ldn lwi ldu lhe lyr lsz ksk kze kma kki kdn kwi kdu khe kyr ksz pbb pln pso ppl pbh anu abi ale bnu bbi ble u44.2 cbi cle dnu dbi dle mm mkp mwa u45.1 mta mbo mso u45.2 mik mtd mtk mbg maa mvl mbd hw
        · replace hw := hw.2 z
          refine j_iconst C 0 dL_law_1142 (by decide) ?_
          exact hw.elim
      · replace hw := hw.2 w38
        by_cases w39 : (xs ((x3 + 3).toNatClampNeg)) = 3
        · replace hw := hw.1 w39
          refine j_ciP C hB [0, 1, 38, 41, 42, 45, 46] [2, 3, 4, 5, 6, 7, 8, 9, 10, 11, 12, 13, 14, 15, 16, 17, 18, 19, 20, 21, 22, 23, 24, 25, 26, 27, 28, 29, 30, 31, 32, 33, 34, 35, 36, 37, 39, 40, 43, 44, 47, 48, 49, 50, 51, 52, 53, 54, 55] [49, 50, 0, 1, 2, 3, 4, 5, 6, 7, 8, 9, 10, 11, 12, 13, 14, 15, 16, 17, 18, 19, 20, 21, 22, 23, 24, 25, 26, 27, 28, 29, 30, 31, 32, 33, 34, 35, 51, 36, 37, 52, 53, 38, 39, 54, 55, 40, 41, 42, 43, 44, 45, 46, 47, 48] (fun u42 : (Nat → Int32) × (Nat → Int64) => ((wD ca (aF 2) u42.1) ++ ((wF (aF 0) (aL 0) (aT 0) (aK 0) (tp 0) (aF 1) (aF 2) ik) ++ ((wN ca nd sd) ++ ((wC ca aT (nd 0) tsk tze tma tki tdn twi tdu the tyr tsz) ++ ((wC ca aL (nd 0) lsk lze lma lki ldn lwi ldu lhe lyr lsz) ++ ((wC ca aK (nd 0) ksk kze kma kki kdn kwi kdu khe kyr ksz) ++ ((wT ca tp (nd 0) pbb pln pso ppl pbh) ++ ((wA ca (aF 1) sb) ++ ((wS ca (sb 0) (sn 0) anu abi ale) ++ ((wS ca (sb 1) (sn 1) bnu bbi ble) ++ ((wS ca (sb 2) (sn 2) cnu cbi cle) ++ ((wS ca (sb 3) (sn 3) u42.2 dbi dle) ++ (wM ca am mm mkp mwa mfo mta mbo mso mce mik mtd mtk mbg maa mvl mbd)))))))))))))) ((wN ca nd sd) ++ ((wC ca aT (nd 0) tsk tze tma tki tdn twi tdu the tyr tsz) ++ ((wC ca aL (nd 0) lsk lze lma lki ldn lwi ldu lhe lyr lsz) ++ ((wC ca aK (nd 0) ksk kze kma kki kdn kwi kdu khe kyr ksz) ++ ((wT ca tp (nd 0) pbb pln pso ppl pbh) ++ ((wS ca (sb 0) (sn 0) anu abi ale) ++ ((wS ca (sb 2) (sn 2) cnu cbi cle) ++ (wM ca am mm mkp mwa mfo mta mbo mso mce mik mtd mtk mbg maa mvl mbd)))))))) rfl rfl rfl (by decide) rfl (fun _ => rfl) (jr_V C lkV_L_132 (c_X9_copyN aF aL aT aK nd tp sb sn 1 3 fd ik bnu bbi ble dnu dbi dle (xs ((x3 + 1).toNatClampNeg)) (xs ((x3 + 2).toNatClampNeg)) (xs ((x3 + 3).toNatClampNeg)) (xs ((x3 + 4).toNatClampNeg)) (xs ((x3 + 5).toNatClampNeg)) (hjk w1 (by decide)) (hjk w39 (by decide)) hw) ⟨rfl, rfl, by decide, by decide, hcs.1, hcs.2⟩ [0, 1, 38, 41, 42, 45, 46] (by decide) rfl (fx_rw C hB [0, 1, 38, 41, 42, 45, 46] rfl) 1 9 rfl rfl rfl rfl (Nat.le_of_ble_eq_true rfl) dL_law_1107) (fun r42 u42 hw => ?_)
          refine j_aload_n C 2 dL_law_1110 rfl ?_
          refine j_aload_n C 0 dL_law_1111 rfl ?_
          refine j_iload_n C 3 dL_law_1112 rfl ?_
          refine j_iconst C 1 dL_law_1113 (by decide) ?_
          refine j_iadd C dL_law_1114 ?_
          refine j_sld C hX dL_law_1115 hi1 ?_
          refine j_aload_n C 0 dL_law_1116 rfl ?_
          refine j_iload_n C 3 dL_law_1117 rfl ?_
          refine j_iconst C 2 dL_law_1118 (by decide) ?_
          refine j_iadd C dL_law_1119 ?_
          refine j_sld C hX dL_law_1120 hi2 ?_
          refine j_aload_n C 0 dL_law_1121 rfl ?_
          refine j_iload_n C 3 dL_law_1122 rfl ?_
          refine j_iconst C 3 dL_law_1123 (by decide) ?_
          refine j_iadd C dL_law_1124 ?_
          refine j_sld C hX dL_law_1125 hi3 ?_
          refine j_aload_n C 0 dL_law_1126 rfl ?_
          refine j_iload_n C 3 dL_law_1127 rfl ?_
          refine j_iconst C 4 dL_law_1128 (by decide) ?_
          refine j_iadd C dL_law_1129 ?_
          refine j_sld C hX dL_law_1130 hi4 ?_
          refine j_aload_n C 0 dL_law_1131 rfl ?_
          refine j_iload_n C 3 dL_law_1132 rfl ?_
          refine j_iconst C 5 dL_law_1133 (by decide) ?_
          refine j_iadd C dL_law_1134 ?_
          refine j_sld C hX dL_law_1135 hi5 ?_
          refine j_ciT C hB 47 56 (fun u43 : (Nat → Int32) × (Nat → Int64) => ((wD ca (aF 2) u42.1) ++ ((wF (aF 0) (aL 0) (aT 0) (aK 0) (tp 0) (aF 1) (aF 2) ik) ++ ((wN ca nd sd) ++ ((wC ca aT (nd 0) tsk tze tma tki tdn twi tdu the tyr tsz) ++ ((wC ca aL (nd 0) lsk lze lma lki ldn lwi ldu lhe lyr lsz) ++ ((wC ca aK (nd 0) ksk kze kma kki kdn kwi kdu khe kyr ksz) ++ ((wT ca tp (nd 0) pbb pln pso ppl pbh) ++ ((wA ca (aF 1) sb) ++ ((wS ca (sb 0) (sn 0) anu abi ale) ++ ((wS ca (sb 1) (sn 1) bnu bbi ble) ++ ((wS ca (sb 2) (sn 2) cnu cbi cle) ++ ((wS ca (sb 3) (sn 3) u42.2 dbi dle) ++ (wM ca am mm mkp mwa u43.1 mta mbo mso u43.2 mik mtd mtk mbg maa mvl mbd)))))))))))))) rfl (fun _ => rfl) (jr_V C lkV_L_136 (c_X10_copy am mm mkp mwa mfo mta mbo mso mce mik mtd mtk mbg maa mvl mbd (xs ((x3 + 1).toNatClampNeg)) (xs ((x3 + 2).toNatClampNeg)) (xs ((x3 + 3).toNatClampNeg)) (xs ((x3 + 4).toNatClampNeg)) (xs ((x3 + 5).toNatClampNeg)) hw) ⟨rfl, rfl, by decide, by decide, hcs.1, hcs.2⟩ [47, 48, 49, 50, 51, 52, 53, 54, 55] (by decide) rfl (fx_rw C hB [47, 48, 49, 50, 51, 52, 53, 54, 55] rfl) 47 10 rfl rfl rfl rfl (Nat.le_of_ble_eq_true rfl) dL_law_1136) (fun r43 u43 hw => ?_)
          refine j_icmp_eq C 1328 dL_law_1139 (by decide) (fun z => ?_) (fun z => ?_)
          · replace hw := hw.1 z
            exact hK u42.1 ik tsk tze tma tki tdn twi tdu the tyr tsz lsk lze lma lki ldn lwi ldu lhe lyr lsz ksk kze kma kki kdn kwi kdu khe kyr ksz pbb pln pso ppl pbh anu abi ale bnu bbi ble cnu cbi cle u42.2 dbi dle mm mkp mwa u43.1 mta mbo mso u43.2 mik mtd mtk mbg maa mvl mbd hw
          · replace hw := hw.2 z
            refine j_iconst C 0 dL_law_1142 (by decide) ?_
            exact hw.elim
        · replace hw := hw.2 w39
          refine j_ciP C hB [0, 1, 38, 41, 42, 39, 40] [2, 3, 4, 5, 6, 7, 8, 9, 10, 11, 12, 13, 14, 15, 16, 17, 18, 19, 20, 21, 22, 23, 24, 25, 26, 27, 28, 29, 30, 31, 32, 33, 34, 35, 36, 37, 43, 44, 45, 46, 47, 48, 49, 50, 51, 52, 53, 54, 55] [49, 50, 0, 1, 2, 3, 4, 5, 6, 7, 8, 9, 10, 11, 12, 13, 14, 15, 16, 17, 18, 19, 20, 21, 22, 23, 24, 25, 26, 27, 28, 29, 30, 31, 32, 33, 34, 35, 51, 54, 55, 52, 53, 36, 37, 38, 39, 40, 41, 42, 43, 44, 45, 46, 47, 48] (fun u40 : (Nat → Int32) × (Nat → Int64) => ((wD ca (aF 2) u40.1) ++ ((wF (aF 0) (aL 0) (aT 0) (aK 0) (tp 0) (aF 1) (aF 2) ik) ++ ((wN ca nd sd) ++ ((wC ca aT (nd 0) tsk tze tma tki tdn twi tdu the tyr tsz) ++ ((wC ca aL (nd 0) lsk lze lma lki ldn lwi ldu lhe lyr lsz) ++ ((wC ca aK (nd 0) ksk kze kma kki kdn kwi kdu khe kyr ksz) ++ ((wT ca tp (nd 0) pbb pln pso ppl pbh) ++ ((wA ca (aF 1) sb) ++ ((wS ca (sb 0) (sn 0) u40.2 abi ale) ++ ((wS ca (sb 1) (sn 1) bnu bbi ble) ++ ((wS ca (sb 2) (sn 2) cnu cbi cle) ++ ((wS ca (sb 3) (sn 3) dnu dbi dle) ++ (wM ca am mm mkp mwa mfo mta mbo mso mce mik mtd mtk mbg maa mvl mbd)))))))))))))) ((wN ca nd sd) ++ ((wC ca aT (nd 0) tsk tze tma tki tdn twi tdu the tyr tsz) ++ ((wC ca aL (nd 0) lsk lze lma lki ldn lwi ldu lhe lyr lsz) ++ ((wC ca aK (nd 0) ksk kze kma kki kdn kwi kdu khe kyr ksz) ++ ((wT ca tp (nd 0) pbb pln pso ppl pbh) ++ ((wS ca (sb 2) (sn 2) cnu cbi cle) ++ ((wS ca (sb 3) (sn 3) dnu dbi dle) ++ (wM ca am mm mkp mwa mfo mta mbo mso mce mik mtd mtk mbg maa mvl mbd)))))))) rfl rfl rfl (by decide) rfl (fun _ => rfl) (jr_V C lkV_L_132 (c_X9_copyN aF aL aT aK nd tp sb sn 1 0 fd ik bnu bbi ble anu abi ale (xs ((x3 + 1).toNatClampNeg)) (xs ((x3 + 2).toNatClampNeg)) (xs ((x3 + 3).toNatClampNeg)) (xs ((x3 + 4).toNatClampNeg)) (xs ((x3 + 5).toNatClampNeg)) (hjk w1 (by decide)) (hj0 w37 w38 w39) hw) ⟨rfl, rfl, by decide, by decide, hcs.1, hcs.2⟩ [0, 1, 38, 41, 42, 39, 40] (by decide) rfl (fx_rw C hB [0, 1, 38, 41, 42, 39, 40] rfl) 1 9 rfl rfl rfl rfl (Nat.le_of_ble_eq_true rfl) dL_law_1107) (fun r40 u40 hw => ?_)
          refine j_aload_n C 2 dL_law_1110 rfl ?_
          refine j_aload_n C 0 dL_law_1111 rfl ?_
          refine j_iload_n C 3 dL_law_1112 rfl ?_
          refine j_iconst C 1 dL_law_1113 (by decide) ?_
          refine j_iadd C dL_law_1114 ?_
          refine j_sld C hX dL_law_1115 hi1 ?_
          refine j_aload_n C 0 dL_law_1116 rfl ?_
          refine j_iload_n C 3 dL_law_1117 rfl ?_
          refine j_iconst C 2 dL_law_1118 (by decide) ?_
          refine j_iadd C dL_law_1119 ?_
          refine j_sld C hX dL_law_1120 hi2 ?_
          refine j_aload_n C 0 dL_law_1121 rfl ?_
          refine j_iload_n C 3 dL_law_1122 rfl ?_
          refine j_iconst C 3 dL_law_1123 (by decide) ?_
          refine j_iadd C dL_law_1124 ?_
          refine j_sld C hX dL_law_1125 hi3 ?_
          refine j_aload_n C 0 dL_law_1126 rfl ?_
          refine j_iload_n C 3 dL_law_1127 rfl ?_
          refine j_iconst C 4 dL_law_1128 (by decide) ?_
          refine j_iadd C dL_law_1129 ?_
          refine j_sld C hX dL_law_1130 hi4 ?_
          refine j_aload_n C 0 dL_law_1131 rfl ?_
          refine j_iload_n C 3 dL_law_1132 rfl ?_
          refine j_iconst C 5 dL_law_1133 (by decide) ?_
          refine j_iadd C dL_law_1134 ?_
          refine j_sld C hX dL_law_1135 hi5 ?_
          refine j_ciT C hB 47 56 (fun u41 : (Nat → Int32) × (Nat → Int64) => ((wD ca (aF 2) u40.1) ++ ((wF (aF 0) (aL 0) (aT 0) (aK 0) (tp 0) (aF 1) (aF 2) ik) ++ ((wN ca nd sd) ++ ((wC ca aT (nd 0) tsk tze tma tki tdn twi tdu the tyr tsz) ++ ((wC ca aL (nd 0) lsk lze lma lki ldn lwi ldu lhe lyr lsz) ++ ((wC ca aK (nd 0) ksk kze kma kki kdn kwi kdu khe kyr ksz) ++ ((wT ca tp (nd 0) pbb pln pso ppl pbh) ++ ((wA ca (aF 1) sb) ++ ((wS ca (sb 0) (sn 0) u40.2 abi ale) ++ ((wS ca (sb 1) (sn 1) bnu bbi ble) ++ ((wS ca (sb 2) (sn 2) cnu cbi cle) ++ ((wS ca (sb 3) (sn 3) dnu dbi dle) ++ (wM ca am mm mkp mwa u41.1 mta mbo mso u41.2 mik mtd mtk mbg maa mvl mbd)))))))))))))) rfl (fun _ => rfl) (jr_V C lkV_L_136 (c_X10_copy am mm mkp mwa mfo mta mbo mso mce mik mtd mtk mbg maa mvl mbd (xs ((x3 + 1).toNatClampNeg)) (xs ((x3 + 2).toNatClampNeg)) (xs ((x3 + 3).toNatClampNeg)) (xs ((x3 + 4).toNatClampNeg)) (xs ((x3 + 5).toNatClampNeg)) hw) ⟨rfl, rfl, by decide, by decide, hcs.1, hcs.2⟩ [47, 48, 49, 50, 51, 52, 53, 54, 55] (by decide) rfl (fx_rw C hB [47, 48, 49, 50, 51, 52, 53, 54, 55] rfl) 47 10 rfl rfl rfl rfl (Nat.le_of_ble_eq_true rfl) dL_law_1136) (fun r41 u41 hw => ?_)
          refine j_icmp_eq C 1328 dL_law_1139 (by decide) (fun z => ?_) (fun z => ?_)
          · replace hw := hw.1 z
            exact hK u40.1 ik tsk tze tma tki tdn twi tdu the tyr tsz lsk lze lma lki ldn lwi ldu lhe lyr lsz ksk kze kma kki kdn kwi kdu khe kyr ksz pbb pln pso ppl pbh u40.2 abi ale bnu bbi ble cnu cbi cle dnu dbi dle mm mkp mwa u41.1 mta mbo mso u41.2 mik mtd mtk mbg maa mvl mbd hw
          · replace hw := hw.2 z
            refine j_iconst C 0 dL_law_1142 (by decide) ?_
            exact hw.elim
  · replace hw := hw.2 w1
    by_cases w2 : (xs ((x3 + 1).toNatClampNeg)) = 2
    · replace hw := hw.1 w2
      by_cases w26 : (xs ((x3 + 3).toNatClampNeg)) = 1
      · replace hw := hw.1 w26
        refine j_ciP C hB [0, 1, 38, 43, 44, 41, 42] [2, 3, 4, 5, 6, 7, 8, 9, 10, 11, 12, 13, 14, 15, 16, 17, 18, 19, 20, 21, 22, 23, 24, 25, 26, 27, 28, 29, 30, 31, 32, 33, 34, 35, 36, 37, 39, 40, 45, 46, 47, 48, 49, 50, 51, 52, 53, 54, 55] [49, 50, 0, 1, 2, 3, 4, 5, 6, 7, 8, 9, 10, 11, 12, 13, 14, 15, 16, 17, 18, 19, 20, 21, 22, 23, 24, 25, 26, 27, 28, 29, 30, 31, 32, 33, 34, 35, 51, 36, 37, 54, 55, 52, 53, 38, 39, 40, 41, 42, 43, 44, 45, 46, 47, 48] (fun u35 : (Nat → Int32) × (Nat → Int64) => ((wD ca (aF 2) u35.1) ++ ((wF (aF 0) (aL 0) (aT 0) (aK 0) (tp 0) (aF 1) (aF 2) ik) ++ ((wN ca nd sd) ++ ((wC ca aT (nd 0) tsk tze tma tki tdn twi tdu the tyr tsz) ++ ((wC ca aL (nd 0) lsk lze lma lki ldn lwi ldu lhe lyr lsz) ++ ((wC ca aK (nd 0) ksk kze kma kki kdn kwi kdu khe kyr ksz) ++ ((wT ca tp (nd 0) pbb pln pso ppl pbh) ++ ((wA ca (aF 1) sb) ++ ((wS ca (sb 0) (sn 0) anu abi ale) ++ ((wS ca (sb 1) (sn 1) u35.2 bbi ble) ++ ((wS ca (sb 2) (sn 2) cnu cbi cle) ++ ((wS ca (sb 3) (sn 3) dnu dbi dle) ++ (wM ca am mm mkp mwa mfo mta mbo mso mce mik mtd mtk mbg maa mvl mbd)))))))))))))) ((wN ca nd sd) ++ ((wC ca aT (nd 0) tsk tze tma tki tdn twi tdu the tyr tsz) ++ ((wC ca aL (nd 0) lsk lze lma lki ldn lwi ldu lhe lyr lsz) ++ ((wC ca aK (nd 0) ksk kze kma kki kdn kwi kdu khe kyr ksz) ++ ((wT ca tp (nd 0) pbb pln pso ppl pbh) ++ ((wS ca (sb 0) (sn 0) anu abi ale) ++ ((wS ca (sb 3) (sn 3) dnu dbi dle) ++ (wM ca am mm mkp mwa mfo mta mbo mso mce mik mtd mtk mbg maa mvl mbd)))))))) rfl rfl rfl (by decide) rfl (fun _ => rfl) (jr_V C lkV_L_132 (c_X9_copyN aF aL aT aK nd tp sb sn 2 1 fd ik cnu cbi cle bnu bbi ble (xs ((x3 + 1).toNatClampNeg)) (xs ((x3 + 2).toNatClampNeg)) (xs ((x3 + 3).toNatClampNeg)) (xs ((x3 + 4).toNatClampNeg)) (xs ((x3 + 5).toNatClampNeg)) (hjk w2 (by decide)) (hjk w26 (by decide)) hw) ⟨rfl, rfl, by decide, by decide, hcs.1, hcs.2⟩ [0, 1, 38, 43, 44, 41, 42] (by decide) rfl (fx_rw C hB [0, 1, 38, 43, 44, 41, 42] rfl) 1 9 rfl rfl rfl rfl (Nat.le_of_ble_eq_true rfl) dL_law_1107) (fun r35 u35 hw => ?_)
        refine j_aload_n C 2 dL_law_1110 rfl ?_
        refine j_aload_n C 0 dL_law_1111 rfl ?_
        refine j_iload_n C 3 dL_law_1112 rfl ?_
        refine j_iconst C 1 dL_law_1113 (by decide) ?_
        refine j_iadd C dL_law_1114 ?_
        refine j_sld C hX dL_law_1115 hi1 ?_
        refine j_aload_n C 0 dL_law_1116 rfl ?_
        refine j_iload_n C 3 dL_law_1117 rfl ?_
        refine j_iconst C 2 dL_law_1118 (by decide) ?_
        refine j_iadd C dL_law_1119 ?_
        refine j_sld C hX dL_law_1120 hi2 ?_
        refine j_aload_n C 0 dL_law_1121 rfl ?_
        refine j_iload_n C 3 dL_law_1122 rfl ?_
        refine j_iconst C 3 dL_law_1123 (by decide) ?_
        refine j_iadd C dL_law_1124 ?_
        refine j_sld C hX dL_law_1125 hi3 ?_
        refine j_aload_n C 0 dL_law_1126 rfl ?_
        refine j_iload_n C 3 dL_law_1127 rfl ?_
        refine j_iconst C 4 dL_law_1128 (by decide) ?_
        refine j_iadd C dL_law_1129 ?_
        refine j_sld C hX dL_law_1130 hi4 ?_
        refine j_aload_n C 0 dL_law_1131 rfl ?_
        refine j_iload_n C 3 dL_law_1132 rfl ?_
        refine j_iconst C 5 dL_law_1133 (by decide) ?_
        refine j_iadd C dL_law_1134 ?_
        refine j_sld C hX dL_law_1135 hi5 ?_
        refine j_ciT C hB 47 56 (fun u36 : (Nat → Int32) × (Nat → Int64) => ((wD ca (aF 2) u35.1) ++ ((wF (aF 0) (aL 0) (aT 0) (aK 0) (tp 0) (aF 1) (aF 2) ik) ++ ((wN ca nd sd) ++ ((wC ca aT (nd 0) tsk tze tma tki tdn twi tdu the tyr tsz) ++ ((wC ca aL (nd 0) lsk lze lma lki ldn lwi ldu lhe lyr lsz) ++ ((wC ca aK (nd 0) ksk kze kma kki kdn kwi kdu khe kyr ksz) ++ ((wT ca tp (nd 0) pbb pln pso ppl pbh) ++ ((wA ca (aF 1) sb) ++ ((wS ca (sb 0) (sn 0) anu abi ale) ++ ((wS ca (sb 1) (sn 1) u35.2 bbi ble) ++ ((wS ca (sb 2) (sn 2) cnu cbi cle) ++ ((wS ca (sb 3) (sn 3) dnu dbi dle) ++ (wM ca am mm mkp mwa u36.1 mta mbo mso u36.2 mik mtd mtk mbg maa mvl mbd)))))))))))))) rfl (fun _ => rfl) (jr_V C lkV_L_136 (c_X10_copy am mm mkp mwa mfo mta mbo mso mce mik mtd mtk mbg maa mvl mbd (xs ((x3 + 1).toNatClampNeg)) (xs ((x3 + 2).toNatClampNeg)) (xs ((x3 + 3).toNatClampNeg)) (xs ((x3 + 4).toNatClampNeg)) (xs ((x3 + 5).toNatClampNeg)) hw) ⟨rfl, rfl, by decide, by decide, hcs.1, hcs.2⟩ [47, 48, 49, 50, 51, 52, 53, 54, 55] (by decide) rfl (fx_rw C hB [47, 48, 49, 50, 51, 52, 53, 54, 55] rfl) 47 10 rfl rfl rfl rfl (Nat.le_of_ble_eq_true rfl) dL_law_1136) (fun r36 u36 hw => ?_)
        refine j_icmp_eq C 1328 dL_law_1139 (by decide) (fun z => ?_) (fun z => ?_)
        · replace hw := hw.1 z
          exact hK u35.1 ik tsk tze tma tki tdn twi tdu the tyr tsz lsk lze lma lki ldn lwi ldu lhe lyr lsz ksk kze kma kki kdn kwi kdu khe kyr ksz pbb pln pso ppl pbh anu abi ale u35.2 bbi ble cnu cbi cle dnu dbi dle mm mkp mwa u36.1 mta mbo mso u36.2 mik mtd mtk mbg maa mvl mbd hw
        · replace hw := hw.2 z
          refine j_iconst C 0 dL_law_1142 (by decide) ?_
          exact hw.elim
      · replace hw := hw.2 w26
        by_cases w27 : (xs ((x3 + 3).toNatClampNeg)) = 2
        · replace hw := hw.1 w27
          refine j_ciP C hB [0, 1, 38, 43, 44] [2, 3, 4, 5, 6, 7, 8, 9, 10, 11, 12, 13, 14, 15, 16, 17, 18, 19, 20, 21, 22, 23, 24, 25, 26, 27, 28, 29, 30, 31, 32, 33, 34, 35, 36, 37, 39, 40, 41, 42, 45, 46, 47, 48, 49, 50, 51, 52, 53, 54, 55] [51, 52, 0, 1, 2, 3, 4, 5, 6, 7, 8, 9, 10, 11, 12, 13, 14, 15, 16, 17, 18, 19, 20, 21, 22, 23, 24, 25, 26, 27, 28, 29, 30, 31, 32, 33, 34, 35, 53, 36, 37, 38, 39, 54, 55, 40, 41, 42, 43, 44, 45, 46, 47, 48, 49, 50] (fun u33 : (Nat → Int32) × (Nat → Int64) => ((wD ca (aF 2) u33.1) ++ ((wF (aF 0) (aL 0) (aT 0) (aK 0) (tp 0) (aF 1) (aF 2) ik) ++ ((wN ca nd sd) ++ ((wC ca aT (nd 0) tsk tze tma tki tdn twi tdu the tyr tsz) ++ ((wC ca aL (nd 0) lsk lze lma lki ldn lwi ldu lhe lyr lsz) ++ ((wC ca aK (nd 0) ksk kze kma kki kdn kwi kdu khe kyr ksz) ++ ((wT ca tp (nd 0) pbb pln pso ppl pbh) ++ ((wA ca (aF 1) sb) ++ ((wS ca (sb 0) (sn 0) anu abi ale) ++ ((wS ca (sb 1) (sn 1) bnu bbi ble) ++ ((wS ca (sb 2) (sn 2) u33.2 cbi cle) ++ ((wS ca (sb 3) (sn 3) dnu dbi dle) ++ (wM ca am mm mkp mwa mfo mta mbo mso mce mik mtd mtk mbg maa mvl mbd)))))))))))))) ((wN ca nd sd) ++ ((wC ca aT (nd 0) tsk tze tma tki tdn twi tdu the tyr tsz) ++ ((wC ca aL (nd 0) lsk lze lma lki ldn lwi ldu lhe lyr lsz) ++ ((wC ca aK (nd 0) ksk kze kma kki kdn kwi kdu khe kyr ksz) ++ ((wT ca tp (nd 0) pbb pln pso ppl pbh) ++ ((wS ca (sb 0) (sn 0) anu abi ale) ++ ((wS ca (sb 1) (sn 1) bnu bbi ble) ++ ((wS ca (sb 3) (sn 3) dnu dbi dle) ++ (wM ca am mm mkp mwa mfo mta mbo mso mce mik mtd mtk mbg maa mvl mbd))))))))) rfl rfl rfl (by decide) rfl (fun _ => rfl) (jr_V C lkV_L_132 (c_X9_copyE aF aL aT aK nd tp sb sn 2 fd ik cnu cbi cle (xs ((x3 + 1).toNatClampNeg)) (xs ((x3 + 2).toNatClampNeg)) (xs ((x3 + 3).toNatClampNeg)) (xs ((x3 + 4).toNatClampNeg)) (xs ((x3 + 5).toNatClampNeg)) (hjk w2 (by decide)) (hjk w27 (by decide)) hw) ⟨rfl, rfl, by decide, by decide, hcs.1, hcs.2⟩ [0, 1, 38, 43, 44] (by decide) rfl (fx_rw C hB [0, 1, 38, 43, 44] rfl) 1 9 rfl rfl rfl rfl (Nat.le_of_ble_eq_true rfl) dL_law_1107) (fun r33 u33 hw => ?_)
          refine j_aload_n C 2 dL_law_1110 rfl ?_
          refine j_aload_n C 0 dL_law_1111 rfl ?_
          refine j_iload_n C 3 dL_law_1112 rfl ?_
          refine j_iconst C 1 dL_law_1113 (by decide) ?_
          refine j_iadd C dL_law_1114 ?_
          refine j_sld C hX dL_law_1115 hi1 ?_
          refine j_aload_n C 0 dL_law_1116 rfl ?_
          refine j_iload_n C 3 dL_law_1117 rfl ?_
          refine j_iconst C 2 dL_law_1118 (by decide) ?_
          refine j_iadd C dL_law_1119 ?_
          refine j_sld C hX dL_law_1120 hi2 ?_
          refine j_aload_n C 0 dL_law_1121 rfl ?_
          refine j_iload_n C 3 dL_law_1122 rfl ?_
          refine j_iconst C 3 dL_law_1123 (by decide) ?_
          refine j_iadd C dL_law_1124 ?_
          refine j_sld C hX dL_law_1125 hi3 ?_
          refine j_aload_n C 0 dL_law_1126 rfl ?_
          refine j_iload_n C 3 dL_law_1127 rfl ?_
          refine j_iconst C 4 dL_law_1128 (by decide) ?_
          refine j_iadd C dL_law_1129 ?_
          refine j_sld C hX dL_law_1130 hi4 ?_
          refine j_aload_n C 0 dL_law_1131 rfl ?_
          refine j_iload_n C 3 dL_law_1132 rfl ?_
          refine j_iconst C 5 dL_law_1133 (by decide) ?_
          refine j_iadd C dL_law_1134 ?_
          refine j_sld C hX dL_law_1135 hi5 ?_
          refine j_ciT C hB 47 56 (fun u34 : (Nat → Int32) × (Nat → Int64) => ((wD ca (aF 2) u33.1) ++ ((wF (aF 0) (aL 0) (aT 0) (aK 0) (tp 0) (aF 1) (aF 2) ik) ++ ((wN ca nd sd) ++ ((wC ca aT (nd 0) tsk tze tma tki tdn twi tdu the tyr tsz) ++ ((wC ca aL (nd 0) lsk lze lma lki ldn lwi ldu lhe lyr lsz) ++ ((wC ca aK (nd 0) ksk kze kma kki kdn kwi kdu khe kyr ksz) ++ ((wT ca tp (nd 0) pbb pln pso ppl pbh) ++ ((wA ca (aF 1) sb) ++ ((wS ca (sb 0) (sn 0) anu abi ale) ++ ((wS ca (sb 1) (sn 1) bnu bbi ble) ++ ((wS ca (sb 2) (sn 2) u33.2 cbi cle) ++ ((wS ca (sb 3) (sn 3) dnu dbi dle) ++ (wM ca am mm mkp mwa u34.1 mta mbo mso u34.2 mik mtd mtk mbg maa mvl mbd)))))))))))))) rfl (fun _ => rfl) (jr_V C lkV_L_136 (c_X10_copy am mm mkp mwa mfo mta mbo mso mce mik mtd mtk mbg maa mvl mbd (xs ((x3 + 1).toNatClampNeg)) (xs ((x3 + 2).toNatClampNeg)) (xs ((x3 + 3).toNatClampNeg)) (xs ((x3 + 4).toNatClampNeg)) (xs ((x3 + 5).toNatClampNeg)) hw) ⟨rfl, rfl, by decide, by decide, hcs.1, hcs.2⟩ [47, 48, 49, 50, 51, 52, 53, 54, 55] (by decide) rfl (fx_rw C hB [47, 48, 49, 50, 51, 52, 53, 54, 55] rfl) 47 10 rfl rfl rfl rfl (Nat.le_of_ble_eq_true rfl) dL_law_1136) (fun r34 u34 hw => ?_)
          refine j_icmp_eq C 1328 dL_law_1139 (by decide) (fun z => ?_) (fun z => ?_)
          · replace hw := hw.1 z
            exact hK u33.1 ik tsk tze tma tki tdn twi tdu the tyr tsz lsk lze lma lki ldn lwi ldu lhe lyr lsz ksk kze kma kki kdn kwi kdu khe kyr ksz pbb pln pso ppl pbh anu abi ale bnu bbi ble u33.2 cbi cle dnu dbi dle mm mkp mwa u34.1 mta mbo mso u34.2 mik mtd mtk mbg maa mvl mbd hw
          · replace hw := hw.2 z
            refine j_iconst C 0 dL_law_1142 (by decide) ?_
            exact hw.elim
        · replace hw := hw.2 w27
          by_cases w28 : (xs ((x3 + 3).toNatClampNeg)) = 3
          · replace hw := hw.1 w28
            refine j_ciP C hB [0, 1, 38, 43, 44, 45, 46] [2, 3, 4, 5, 6, 7, 8, 9, 10, 11, 12, 13, 14, 15, 16, 17, 18, 19, 20, 21, 22, 23, 24, 25, 26, 27, 28, 29, 30, 31, 32, 33, 34, 35, 36, 37, 39, 40, 41, 42, 47, 48, 49, 50, 51, 52, 53, 54, 55] [49, 50, 0, 1, 2, 3, 4, 5, 6, 7, 8, 9, 10, 11, 12, 13, 14, 15, 16, 17, 18, 19, 20, 21, 22, 23, 24, 25, 26, 27, 28, 29, 30, 31, 32, 33, 34, 35, 51, 36, 37, 38, 39, 52, 53, 54, 55, 40, 41, 42, 43, 44, 45, 46, 47, 48] (fun u31 : (Nat → Int32) × (Nat → Int64) => ((wD ca (aF 2) u31.1) ++ ((wF (aF 0) (aL 0) (aT 0) (aK 0) (tp 0) (aF 1) (aF 2) ik) ++ ((wN ca nd sd) ++ ((wC ca aT (nd 0) tsk tze tma tki tdn twi tdu the tyr tsz) ++ ((wC ca aL (nd 0) lsk lze lma lki ldn lwi ldu lhe lyr lsz) ++ ((wC ca aK (nd 0) ksk kze kma kki kdn kwi kdu khe kyr ksz) ++ ((wT ca tp (nd 0) pbb pln pso ppl pbh) ++ ((wA ca (aF 1) sb) ++ ((wS ca (sb 0) (sn 0) anu abi ale) ++ ((wS ca (sb 1) (sn 1) bnu bbi ble) ++ ((wS ca (sb 2) (sn 2) cnu cbi cle) ++ ((wS ca (sb 3) (sn 3) u31.2 dbi dle) ++ (wM ca am mm mkp mwa mfo mta mbo mso mce mik mtd mtk mbg maa mvl mbd)))))))))))))) ((wN ca nd sd) ++ ((wC ca aT (nd 0) tsk tze tma tki tdn twi tdu the tyr tsz) ++ ((wC ca aL (nd 0) lsk lze lma lki ldn lwi ldu lhe lyr lsz) ++ ((wC ca aK (nd 0) ksk kze kma kki kdn kwi kdu khe kyr ksz) ++ ((wT ca tp (nd 0) pbb pln pso ppl pbh) ++ ((wS ca (sb 0) (sn 0) anu abi ale) ++ ((wS ca (sb 1) (sn 1) bnu bbi ble) ++ (wM ca am mm mkp mwa mfo mta mbo mso mce mik mtd mtk mbg maa mvl mbd)))))))) rfl rfl rfl (by decide) rfl (fun _ => rfl) (jr_V C lkV_L_132 (c_X9_copyN aF aL aT aK nd tp sb sn 2 3 fd ik cnu cbi cle dnu dbi dle (xs ((x3 + 1).toNatClampNeg)) (xs ((x3 + 2).toNatClampNeg)) (xs ((x3 + 3).toNatClampNeg)) (xs ((x3 + 4).toNatClampNeg)) (xs ((x3 + 5).toNatClampNeg)) (hjk w2 (by decide)) (hjk w28 (by decide)) hw) ⟨rfl, rfl, by decide, by decide, hcs.1, hcs.2⟩ [0, 1, 38, 43, 44, 45, 46] (by decide) rfl (fx_rw C hB [0, 1, 38, 43, 44, 45, 46] rfl) 1 9 rfl rfl rfl rfl (Nat.le_of_ble_eq_true rfl) dL_law_1107) (fun r31 u31 hw => ?_)
            refine j_aload_n C 2 dL_law_1110 rfl ?_
            refine j_aload_n C 0 dL_law_1111 rfl ?_
            refine j_iload_n C 3 dL_law_1112 rfl ?_
            refine j_iconst C 1 dL_law_1113 (by decide) ?_
            refine j_iadd C dL_law_1114 ?_
            refine j_sld C hX dL_law_1115 hi1 ?_
            refine j_aload_n C 0 dL_law_1116 rfl ?_
            refine j_iload_n C 3 dL_law_1117 rfl ?_
            refine j_iconst C 2 dL_law_1118 (by decide) ?_
            refine j_iadd C dL_law_1119 ?_
            refine j_sld C hX dL_law_1120 hi2 ?_
            refine j_aload_n C 0 dL_law_1121 rfl ?_
            refine j_iload_n C 3 dL_law_1122 rfl ?_
            refine j_iconst C 3 dL_law_1123 (by decide) ?_
            refine j_iadd C dL_law_1124 ?_
            refine j_sld C hX dL_law_1125 hi3 ?_
            refine j_aload_n C 0 dL_law_1126 rfl ?_
            refine j_iload_n C 3 dL_law_1127 rfl ?_
            refine j_iconst C 4 dL_law_1128 (by decide) ?_
            refine j_iadd C dL_law_1129 ?_
            refine j_sld C hX dL_law_1130 hi4 ?_
            refine j_aload_n C 0 dL_law_1131 rfl ?_
            refine j_iload_n C 3 dL_law_1132 rfl ?_
            refine j_iconst C 5 dL_law_1133 (by decide) ?_
            refine j_iadd C dL_law_1134 ?_
            refine j_sld C hX dL_law_1135 hi5 ?_
            refine j_ciT C hB 47 56 (fun u32 : (Nat → Int32) × (Nat → Int64) => ((wD ca (aF 2) u31.1) ++ ((wF (aF 0) (aL 0) (aT 0) (aK 0) (tp 0) (aF 1) (aF 2) ik) ++ ((wN ca nd sd) ++ ((wC ca aT (nd 0) tsk tze tma tki tdn twi tdu the tyr tsz) ++ ((wC ca aL (nd 0) lsk lze lma lki ldn lwi ldu lhe lyr lsz) ++ ((wC ca aK (nd 0) ksk kze kma kki kdn kwi kdu khe kyr ksz) ++ ((wT ca tp (nd 0) pbb pln pso ppl pbh) ++ ((wA ca (aF 1) sb) ++ ((wS ca (sb 0) (sn 0) anu abi ale) ++ ((wS ca (sb 1) (sn 1) bnu bbi ble) ++ ((wS ca (sb 2) (sn 2) cnu cbi cle) ++ ((wS ca (sb 3) (sn 3) u31.2 dbi dle) ++ (wM ca am mm mkp mwa u32.1 mta mbo mso u32.2 mik mtd mtk mbg maa mvl mbd)))))))))))))) rfl (fun _ => rfl) (jr_V C lkV_L_136 (c_X10_copy am mm mkp mwa mfo mta mbo mso mce mik mtd mtk mbg maa mvl mbd (xs ((x3 + 1).toNatClampNeg)) (xs ((x3 + 2).toNatClampNeg)) (xs ((x3 + 3).toNatClampNeg)) (xs ((x3 + 4).toNatClampNeg)) (xs ((x3 + 5).toNatClampNeg)) hw) ⟨rfl, rfl, by decide, by decide, hcs.1, hcs.2⟩ [47, 48, 49, 50, 51, 52, 53, 54, 55] (by decide) rfl (fx_rw C hB [47, 48, 49, 50, 51, 52, 53, 54, 55] rfl) 47 10 rfl rfl rfl rfl (Nat.le_of_ble_eq_true rfl) dL_law_1136) (fun r32 u32 hw => ?_)
            refine j_icmp_eq C 1328 dL_law_1139 (by decide) (fun z => ?_) (fun z => ?_)
            · replace hw := hw.1 z
              exact hK u31.1 ik tsk tze tma tki tdn twi tdu the tyr tsz lsk lze lma lki ldn lwi ldu lhe lyr lsz ksk kze kma kki kdn kwi kdu khe kyr ksz pbb pln pso ppl pbh anu abi ale bnu bbi ble cnu cbi cle u31.2 dbi dle mm mkp mwa u32.1 mta mbo mso u32.2 mik mtd mtk mbg maa mvl mbd hw
            · replace hw := hw.2 z
              refine j_iconst C 0 dL_law_1142 (by decide) ?_
              exact hw.elim
          · replace hw := hw.2 w28
            refine j_ciP C hB [0, 1, 38, 43, 44, 39, 40] [2, 3, 4, 5, 6, 7, 8, 9, 10, 11, 12, 13, 14, 15, 16, 17, 18, 19, 20, 21, 22, 23, 24, 25, 26, 27, 28, 29, 30, 31, 32, 33, 34, 35, 36, 37, 41, 42, 45, 46, 47, 48, 49, 50, 51, 52, 53, 54, 55] [49, 50, 0, 1, 2, 3, 4, 5, 6, 7, 8, 9, 10, 11, 12, 13, 14, 15, 16, 17, 18, 19, 20, 21, 22, 23, 24, 25, 26, 27, 28, 29, 30, 31, 32, 33, 34, 35, 51, 54, 55, 36, 37, 52, 53, 38, 39, 40, 41, 42, 43, 44, 45, 46, 47, 48] (fun u29 : (Nat → Int32) × (Nat → Int64) => ((wD ca (aF 2) u29.1) ++ ((wF (aF 0) (aL 0) (aT 0) (aK 0) (tp 0) (aF 1) (aF 2) ik) ++ ((wN ca nd sd) ++ ((wC ca aT (nd 0) tsk tze tma tki tdn twi tdu the tyr tsz) ++ ((wC ca aL (nd 0) lsk lze lma lki ldn lwi ldu lhe lyr lsz) ++ ((wC ca aK (nd 0) ksk kze kma kki kdn kwi kdu khe kyr ksz) ++ ((wT ca tp (nd 0) pbb pln pso ppl pbh) ++ ((wA ca (aF 1) sb) ++ ((wS ca (sb 0) (sn 0) u29.2 abi ale) ++ ((wS ca (sb 1) (sn 1) bnu bbi ble) ++ ((wS ca (sb 2) (sn 2) cnu cbi cle) ++ ((wS ca (sb 3) (sn 3) dnu dbi dle) ++ (wM ca am mm mkp mwa mfo mta mbo mso mce mik mtd mtk mbg maa mvl mbd)))))))))))))) ((wN ca nd sd) ++ ((wC ca aT (nd 0) tsk tze tma tki tdn twi tdu the tyr tsz) ++ ((wC ca aL (nd 0) lsk lze lma lki ldn lwi ldu lhe lyr lsz) ++ ((wC ca aK (nd 0) ksk kze kma kki kdn kwi kdu khe kyr ksz) ++ ((wT ca tp (nd 0) pbb pln pso ppl pbh) ++ ((wS ca (sb 1) (sn 1) bnu bbi ble) ++ ((wS ca (sb 3) (sn 3) dnu dbi dle) ++ (wM ca am mm mkp mwa mfo mta mbo mso mce mik mtd mtk mbg maa mvl mbd)))))))) rfl rfl rfl (by decide) rfl (fun _ => rfl) (jr_V C lkV_L_132 (c_X9_copyN aF aL aT aK nd tp sb sn 2 0 fd ik cnu cbi cle anu abi ale (xs ((x3 + 1).toNatClampNeg)) (xs ((x3 + 2).toNatClampNeg)) (xs ((x3 + 3).toNatClampNeg)) (xs ((x3 + 4).toNatClampNeg)) (xs ((x3 + 5).toNatClampNeg)) (hjk w2 (by decide)) (hj0 w26 w27 w28) hw) ⟨rfl, rfl, by decide, by decide, hcs.1, hcs.2⟩ [0, 1, 38, 43, 44, 39, 40] (by decide) rfl (fx_rw C hB [0, 1, 38, 43, 44, 39, 40] rfl) 1 9 rfl rfl rfl rfl (Nat.le_of_ble_eq_true rfl) dL_law_1107) (fun r29 u29 hw => ?_)
            refine j_aload_n C 2 dL_law_1110 rfl ?_
            refine j_aload_n C 0 dL_law_1111 rfl ?_
            refine j_iload_n C 3 dL_law_1112 rfl ?_
            refine j_iconst C 1 dL_law_1113 (by decide) ?_
            refine j_iadd C dL_law_1114 ?_
            refine j_sld C hX dL_law_1115 hi1 ?_
            refine j_aload_n C 0 dL_law_1116 rfl ?_
            refine j_iload_n C 3 dL_law_1117 rfl ?_
            refine j_iconst C 2 dL_law_1118 (by decide) ?_
            refine j_iadd C dL_law_1119 ?_
            refine j_sld C hX dL_law_1120 hi2 ?_
            refine j_aload_n C 0 dL_law_1121 rfl ?_
            refine j_iload_n C 3 dL_law_1122 rfl ?_
            refine j_iconst C 3 dL_law_1123 (by decide) ?_
            refine j_iadd C dL_law_1124 ?_
            refine j_sld C hX dL_law_1125 hi3 ?_
            refine j_aload_n C 0 dL_law_1126 rfl ?_
            refine j_iload_n C 3 dL_law_1127 rfl ?_
            refine j_iconst C 4 dL_law_1128 (by decide) ?_
            refine j_iadd C dL_law_1129 ?_
            refine j_sld C hX dL_law_1130 hi4 ?_
            refine j_aload_n C 0 dL_law_1131 rfl ?_
            refine j_iload_n C 3 dL_law_1132 rfl ?_
            refine j_iconst C 5 dL_law_1133 (by decide) ?_
            refine j_iadd C dL_law_1134 ?_
            refine j_sld C hX dL_law_1135 hi5 ?_
            refine j_ciT C hB 47 56 (fun u30 : (Nat → Int32) × (Nat → Int64) => ((wD ca (aF 2) u29.1) ++ ((wF (aF 0) (aL 0) (aT 0) (aK 0) (tp 0) (aF 1) (aF 2) ik) ++ ((wN ca nd sd) ++ ((wC ca aT (nd 0) tsk tze tma tki tdn twi tdu the tyr tsz) ++ ((wC ca aL (nd 0) lsk lze lma lki ldn lwi ldu lhe lyr lsz) ++ ((wC ca aK (nd 0) ksk kze kma kki kdn kwi kdu khe kyr ksz) ++ ((wT ca tp (nd 0) pbb pln pso ppl pbh) ++ ((wA ca (aF 1) sb) ++ ((wS ca (sb 0) (sn 0) u29.2 abi ale) ++ ((wS ca (sb 1) (sn 1) bnu bbi ble) ++ ((wS ca (sb 2) (sn 2) cnu cbi cle) ++ ((wS ca (sb 3) (sn 3) dnu dbi dle) ++ (wM ca am mm mkp mwa u30.1 mta mbo mso u30.2 mik mtd mtk mbg maa mvl mbd)))))))))))))) rfl (fun _ => rfl) (jr_V C lkV_L_136 (c_X10_copy am mm mkp mwa mfo mta mbo mso mce mik mtd mtk mbg maa mvl mbd (xs ((x3 + 1).toNatClampNeg)) (xs ((x3 + 2).toNatClampNeg)) (xs ((x3 + 3).toNatClampNeg)) (xs ((x3 + 4).toNatClampNeg)) (xs ((x3 + 5).toNatClampNeg)) hw) ⟨rfl, rfl, by decide, by decide, hcs.1, hcs.2⟩ [47, 48, 49, 50, 51, 52, 53, 54, 55] (by decide) rfl (fx_rw C hB [47, 48, 49, 50, 51, 52, 53, 54, 55] rfl) 47 10 rfl rfl rfl rfl (Nat.le_of_ble_eq_true rfl) dL_law_1136) (fun r30 u30 hw => ?_)
            refine j_icmp_eq C 1328 dL_law_1139 (by decide) (fun z => ?_) (fun z => ?_)
            · replace hw := hw.1 z
              exact hK u29.1 ik tsk tze tma tki tdn twi tdu the tyr tsz lsk lze lma lki ldn lwi ldu lhe lyr lsz ksk kze kma kki kdn kwi kdu khe kyr ksz pbb pln pso ppl pbh u29.2 abi ale bnu bbi ble cnu cbi cle dnu dbi dle mm mkp mwa u30.1 mta mbo mso u30.2 mik mtd mtk mbg maa mvl mbd hw
            · replace hw := hw.2 z
              refine j_iconst C 0 dL_law_1142 (by decide) ?_
              exact hw.elim
    · replace hw := hw.2 w2
      by_cases w3 : (xs ((x3 + 1).toNatClampNeg)) = 3
      · replace hw := hw.1 w3
        by_cases w15 : (xs ((x3 + 3).toNatClampNeg)) = 1
        · replace hw := hw.1 w15
          refine j_ciP C hB [0, 1, 38, 45, 46, 41, 42] [2, 3, 4, 5, 6, 7, 8, 9, 10, 11, 12, 13, 14, 15, 16, 17, 18, 19, 20, 21, 22, 23, 24, 25, 26, 27, 28, 29, 30, 31, 32, 33, 34, 35, 36, 37, 39, 40, 43, 44, 47, 48, 49, 50, 51, 52, 53, 54, 55] [49, 50, 0, 1, 2, 3, 4, 5, 6, 7, 8, 9, 10, 11, 12, 13, 14, 15, 16, 17, 18, 19, 20, 21, 22, 23, 24, 25, 26, 27, 28, 29, 30, 31, 32, 33, 34, 35, 51, 36, 37, 54, 55, 38, 39, 52, 53, 40, 41, 42, 43, 44, 45, 46, 47, 48] (fun u24 : (Nat → Int32) × (Nat → Int64) => ((wD ca (aF 2) u24.1) ++ ((wF (aF 0) (aL 0) (aT 0) (aK 0) (tp 0) (aF 1) (aF 2) ik) ++ ((wN ca nd sd) ++ ((wC ca aT (nd 0) tsk tze tma tki tdn twi tdu the tyr tsz) ++ ((wC ca aL (nd 0) lsk lze lma lki ldn lwi ldu lhe lyr lsz) ++ ((wC ca aK (nd 0) ksk kze kma kki kdn kwi kdu khe kyr ksz) ++ ((wT ca tp (nd 0) pbb pln pso ppl pbh) ++ ((wA ca (aF 1) sb) ++ ((wS ca (sb 0) (sn 0) anu abi ale) ++ ((wS ca (sb 1) (sn 1) u24.2 bbi ble) ++ ((wS ca (sb 2) (sn 2) cnu cbi cle) ++ ((wS ca (sb 3) (sn 3) dnu dbi dle) ++ (wM ca am mm mkp mwa mfo mta mbo mso mce mik mtd mtk mbg maa mvl mbd)))))))))))))) ((wN ca nd sd) ++ ((wC ca aT (nd 0) tsk tze tma tki tdn twi tdu the tyr tsz) ++ ((wC ca aL (nd 0) lsk lze lma lki ldn lwi ldu lhe lyr lsz) ++ ((wC ca aK (nd 0) ksk kze kma kki kdn kwi kdu khe kyr ksz) ++ ((wT ca tp (nd 0) pbb pln pso ppl pbh) ++ ((wS ca (sb 0) (sn 0) anu abi ale) ++ ((wS ca (sb 2) (sn 2) cnu cbi cle) ++ (wM ca am mm mkp mwa mfo mta mbo mso mce mik mtd mtk mbg maa mvl mbd)))))))) rfl rfl rfl (by decide) rfl (fun _ => rfl) (jr_V C lkV_L_132 (c_X9_copyN aF aL aT aK nd tp sb sn 3 1 fd ik dnu dbi dle bnu bbi ble (xs ((x3 + 1).toNatClampNeg)) (xs ((x3 + 2).toNatClampNeg)) (xs ((x3 + 3).toNatClampNeg)) (xs ((x3 + 4).toNatClampNeg)) (xs ((x3 + 5).toNatClampNeg)) (hjk w3 (by decide)) (hjk w15 (by decide)) hw) ⟨rfl, rfl, by decide, by decide, hcs.1, hcs.2⟩ [0, 1, 38, 45, 46, 41, 42] (by decide) rfl (fx_rw C hB [0, 1, 38, 45, 46, 41, 42] rfl) 1 9 rfl rfl rfl rfl (Nat.le_of_ble_eq_true rfl) dL_law_1107) (fun r24 u24 hw => ?_)
          refine j_aload_n C 2 dL_law_1110 rfl ?_
          refine j_aload_n C 0 dL_law_1111 rfl ?_
          refine j_iload_n C 3 dL_law_1112 rfl ?_
          refine j_iconst C 1 dL_law_1113 (by decide) ?_
          refine j_iadd C dL_law_1114 ?_
          refine j_sld C hX dL_law_1115 hi1 ?_
          refine j_aload_n C 0 dL_law_1116 rfl ?_
          refine j_iload_n C 3 dL_law_1117 rfl ?_
          refine j_iconst C 2 dL_law_1118 (by decide) ?_
          refine j_iadd C dL_law_1119 ?_
          refine j_sld C hX dL_law_1120 hi2 ?_
          refine j_aload_n C 0 dL_law_1121 rfl ?_
          refine j_iload_n C 3 dL_law_1122 rfl ?_
          refine j_iconst C 3 dL_law_1123 (by decide) ?_
          refine j_iadd C dL_law_1124 ?_
          refine j_sld C hX dL_law_1125 hi3 ?_
          refine j_aload_n C 0 dL_law_1126 rfl ?_
          refine j_iload_n C 3 dL_law_1127 rfl ?_
          refine j_iconst C 4 dL_law_1128 (by decide) ?_
          refine j_iadd C dL_law_1129 ?_
          refine j_sld C hX dL_law_1130 hi4 ?_
          refine j_aload_n C 0 dL_law_1131 rfl ?_
          refine j_iload_n C 3 dL_law_1132 rfl ?_
          refine j_iconst C 5 dL_law_1133 (by decide) ?_
          refine j_iadd C dL_law_1134 ?_
          refine j_sld C hX dL_law_1135 hi5 ?_
          refine j_ciT C hB 47 56 (fun u25 : (Nat → Int32) × (Nat → Int64) => ((wD ca (aF 2) u24.1) ++ ((wF (aF 0) (aL 0) (aT 0) (aK 0) (tp 0) (aF 1) (aF 2) ik) ++ ((wN ca nd sd) ++ ((wC ca aT (nd 0) tsk tze tma tki tdn twi tdu the tyr tsz) ++ ((wC ca aL (nd 0) lsk lze lma lki ldn lwi ldu lhe lyr lsz) ++ ((wC ca aK (nd 0) ksk kze kma kki kdn kwi kdu khe kyr ksz) ++ ((wT ca tp (nd 0) pbb pln pso ppl pbh) ++ ((wA ca (aF 1) sb) ++ ((wS ca (sb 0) (sn 0) anu abi ale) ++ ((wS ca (sb 1) (sn 1) u24.2 bbi ble) ++ ((wS ca (sb 2) (sn 2) cnu cbi cle) ++ ((wS ca (sb 3) (sn 3) dnu dbi dle) ++ (wM ca am mm mkp mwa u25.1 mta mbo mso u25.2 mik mtd mtk mbg maa mvl mbd)))))))))))))) rfl (fun _ => rfl) (jr_V C lkV_L_136 (c_X10_copy am mm mkp mwa mfo mta mbo mso mce mik mtd mtk mbg maa mvl mbd (xs ((x3 + 1).toNatClampNeg)) (xs ((x3 + 2).toNatClampNeg)) (xs ((x3 + 3).toNatClampNeg)) (xs ((x3 + 4).toNatClampNeg)) (xs ((x3 + 5).toNatClampNeg)) hw) ⟨rfl, rfl, by decide, by decide, hcs.1, hcs.2⟩ [47, 48, 49, 50, 51, 52, 53, 54, 55] (by decide) rfl (fx_rw C hB [47, 48, 49, 50, 51, 52, 53, 54, 55] rfl) 47 10 rfl rfl rfl rfl (Nat.le_of_ble_eq_true rfl) dL_law_1136) (fun r25 u25 hw => ?_)
          refine j_icmp_eq C 1328 dL_law_1139 (by decide) (fun z => ?_) (fun z => ?_)
          · replace hw := hw.1 z
            exact hK u24.1 ik tsk tze tma tki tdn twi tdu the tyr tsz lsk lze lma lki ldn lwi ldu lhe lyr lsz ksk kze kma kki kdn kwi kdu khe kyr ksz pbb pln pso ppl pbh anu abi ale u24.2 bbi ble cnu cbi cle dnu dbi dle mm mkp mwa u25.1 mta mbo mso u25.2 mik mtd mtk mbg maa mvl mbd hw
          · replace hw := hw.2 z
            refine j_iconst C 0 dL_law_1142 (by decide) ?_
            exact hw.elim
        · replace hw := hw.2 w15
          by_cases w16 : (xs ((x3 + 3).toNatClampNeg)) = 2
          · replace hw := hw.1 w16
            refine j_ciP C hB [0, 1, 38, 45, 46, 43, 44] [2, 3, 4, 5, 6, 7, 8, 9, 10, 11, 12, 13, 14, 15, 16, 17, 18, 19, 20, 21, 22, 23, 24, 25, 26, 27, 28, 29, 30, 31, 32, 33, 34, 35, 36, 37, 39, 40, 41, 42, 47, 48, 49, 50, 51, 52, 53, 54, 55] [49, 50, 0, 1, 2, 3, 4, 5, 6, 7, 8, 9, 10, 11, 12, 13, 14, 15, 16, 17, 18, 19, 20, 21, 22, 23, 24, 25, 26, 27, 28, 29, 30, 31, 32, 33, 34, 35, 51, 36, 37, 38, 39, 54, 55, 52, 53, 40, 41, 42, 43, 44, 45, 46, 47, 48] (fun u22 : (Nat → Int32) × (Nat → Int64) => ((wD ca (aF 2) u22.1) ++ ((wF (aF 0) (aL 0) (aT 0) (aK 0) (tp 0) (aF 1) (aF 2) ik) ++ ((wN ca nd sd) ++ ((wC ca aT (nd 0) tsk tze tma tki tdn twi tdu the tyr tsz) ++ ((wC ca aL (nd 0) lsk lze lma lki ldn lwi ldu lhe lyr lsz) ++ ((wC ca aK (nd 0) ksk kze kma kki kdn kwi kdu khe kyr ksz) ++ ((wT ca tp (nd 0) pbb pln pso ppl pbh) ++ ((wA ca (aF 1) sb) ++ ((wS ca (sb 0) (sn 0) anu abi ale) ++ ((wS ca (sb 1) (sn 1) bnu bbi ble) ++ ((wS ca (sb 2) (sn 2) u22.2 cbi cle) ++ ((wS ca (sb 3) (sn 3) dnu dbi dle) ++ (wM ca am mm mkp mwa mfo mta mbo mso mce mik mtd mtk mbg maa mvl mbd)))))))))))))) ((wN ca nd sd) ++ ((wC ca aT (nd 0) tsk tze tma tki tdn twi tdu the tyr tsz) ++ ((wC ca aL (nd 0) lsk lze lma lki ldn lwi ldu lhe lyr lsz) ++ ((wC ca aK (nd 0) ksk kze kma kki kdn kwi kdu khe kyr ksz) ++ ((wT ca tp (nd 0) pbb pln pso ppl pbh) ++ ((wS ca (sb 0) (sn 0) anu abi ale) ++ ((wS ca (sb 1) (sn 1) bnu bbi ble) ++ (wM ca am mm mkp mwa mfo mta mbo mso mce mik mtd mtk mbg maa mvl mbd)))))))) rfl rfl rfl (by decide) rfl (fun _ => rfl) (jr_V C lkV_L_132 (c_X9_copyN aF aL aT aK nd tp sb sn 3 2 fd ik dnu dbi dle cnu cbi cle (xs ((x3 + 1).toNatClampNeg)) (xs ((x3 + 2).toNatClampNeg)) (xs ((x3 + 3).toNatClampNeg)) (xs ((x3 + 4).toNatClampNeg)) (xs ((x3 + 5).toNatClampNeg)) (hjk w3 (by decide)) (hjk w16 (by decide)) hw) ⟨rfl, rfl, by decide, by decide, hcs.1, hcs.2⟩ [0, 1, 38, 45, 46, 43, 44] (by decide) rfl (fx_rw C hB [0, 1, 38, 45, 46, 43, 44] rfl) 1 9 rfl rfl rfl rfl (Nat.le_of_ble_eq_true rfl) dL_law_1107) (fun r22 u22 hw => ?_)
            refine j_aload_n C 2 dL_law_1110 rfl ?_
            refine j_aload_n C 0 dL_law_1111 rfl ?_
            refine j_iload_n C 3 dL_law_1112 rfl ?_
            refine j_iconst C 1 dL_law_1113 (by decide) ?_
            refine j_iadd C dL_law_1114 ?_
            refine j_sld C hX dL_law_1115 hi1 ?_
            refine j_aload_n C 0 dL_law_1116 rfl ?_
            refine j_iload_n C 3 dL_law_1117 rfl ?_
            refine j_iconst C 2 dL_law_1118 (by decide) ?_
            refine j_iadd C dL_law_1119 ?_
            refine j_sld C hX dL_law_1120 hi2 ?_
            refine j_aload_n C 0 dL_law_1121 rfl ?_
            refine j_iload_n C 3 dL_law_1122 rfl ?_
            refine j_iconst C 3 dL_law_1123 (by decide) ?_
            refine j_iadd C dL_law_1124 ?_
            refine j_sld C hX dL_law_1125 hi3 ?_
            refine j_aload_n C 0 dL_law_1126 rfl ?_
            refine j_iload_n C 3 dL_law_1127 rfl ?_
            refine j_iconst C 4 dL_law_1128 (by decide) ?_
            refine j_iadd C dL_law_1129 ?_
            refine j_sld C hX dL_law_1130 hi4 ?_
            refine j_aload_n C 0 dL_law_1131 rfl ?_
            refine j_iload_n C 3 dL_law_1132 rfl ?_
            refine j_iconst C 5 dL_law_1133 (by decide) ?_
            refine j_iadd C dL_law_1134 ?_
            refine j_sld C hX dL_law_1135 hi5 ?_
            refine j_ciT C hB 47 56 (fun u23 : (Nat → Int32) × (Nat → Int64) => ((wD ca (aF 2) u22.1) ++ ((wF (aF 0) (aL 0) (aT 0) (aK 0) (tp 0) (aF 1) (aF 2) ik) ++ ((wN ca nd sd) ++ ((wC ca aT (nd 0) tsk tze tma tki tdn twi tdu the tyr tsz) ++ ((wC ca aL (nd 0) lsk lze lma lki ldn lwi ldu lhe lyr lsz) ++ ((wC ca aK (nd 0) ksk kze kma kki kdn kwi kdu khe kyr ksz) ++ ((wT ca tp (nd 0) pbb pln pso ppl pbh) ++ ((wA ca (aF 1) sb) ++ ((wS ca (sb 0) (sn 0) anu abi ale) ++ ((wS ca (sb 1) (sn 1) bnu bbi ble) ++ ((wS ca (sb 2) (sn 2) u22.2 cbi cle) ++ ((wS ca (sb 3) (sn 3) dnu dbi dle) ++ (wM ca am mm mkp mwa u23.1 mta mbo mso u23.2 mik mtd mtk mbg maa mvl mbd)))))))))))))) rfl (fun _ => rfl) (jr_V C lkV_L_136 (c_X10_copy am mm mkp mwa mfo mta mbo mso mce mik mtd mtk mbg maa mvl mbd (xs ((x3 + 1).toNatClampNeg)) (xs ((x3 + 2).toNatClampNeg)) (xs ((x3 + 3).toNatClampNeg)) (xs ((x3 + 4).toNatClampNeg)) (xs ((x3 + 5).toNatClampNeg)) hw) ⟨rfl, rfl, by decide, by decide, hcs.1, hcs.2⟩ [47, 48, 49, 50, 51, 52, 53, 54, 55] (by decide) rfl (fx_rw C hB [47, 48, 49, 50, 51, 52, 53, 54, 55] rfl) 47 10 rfl rfl rfl rfl (Nat.le_of_ble_eq_true rfl) dL_law_1136) (fun r23 u23 hw => ?_)
            refine j_icmp_eq C 1328 dL_law_1139 (by decide) (fun z => ?_) (fun z => ?_)
            · replace hw := hw.1 z
              exact hK u22.1 ik tsk tze tma tki tdn twi tdu the tyr tsz lsk lze lma lki ldn lwi ldu lhe lyr lsz ksk kze kma kki kdn kwi kdu khe kyr ksz pbb pln pso ppl pbh anu abi ale bnu bbi ble u22.2 cbi cle dnu dbi dle mm mkp mwa u23.1 mta mbo mso u23.2 mik mtd mtk mbg maa mvl mbd hw
            · replace hw := hw.2 z
              refine j_iconst C 0 dL_law_1142 (by decide) ?_
              exact hw.elim
          · replace hw := hw.2 w16
            by_cases w17 : (xs ((x3 + 3).toNatClampNeg)) = 3
            · replace hw := hw.1 w17
              refine j_ciP C hB [0, 1, 38, 45, 46] [2, 3, 4, 5, 6, 7, 8, 9, 10, 11, 12, 13, 14, 15, 16, 17, 18, 19, 20, 21, 22, 23, 24, 25, 26, 27, 28, 29, 30, 31, 32, 33, 34, 35, 36, 37, 39, 40, 41, 42, 43, 44, 47, 48, 49, 50, 51, 52, 53, 54, 55] [51, 52, 0, 1, 2, 3, 4, 5, 6, 7, 8, 9, 10, 11, 12, 13, 14, 15, 16, 17, 18, 19, 20, 21, 22, 23, 24, 25, 26, 27, 28, 29, 30, 31, 32, 33, 34, 35, 53, 36, 37, 38, 39, 40, 41, 54, 55, 42, 43, 44, 45, 46, 47, 48, 49, 50] (fun u20 : (Nat → Int32) × (Nat → Int64) => ((wD ca (aF 2) u20.1) ++ ((wF (aF 0) (aL 0) (aT 0) (aK 0) (tp 0) (aF 1) (aF 2) ik) ++ ((wN ca nd sd) ++ ((wC ca aT (nd 0) tsk tze tma tki tdn twi tdu the tyr tsz) ++ ((wC ca aL (nd 0) lsk lze lma lki ldn lwi ldu lhe lyr lsz) ++ ((wC ca aK (nd 0) ksk kze kma kki kdn kwi kdu khe kyr ksz) ++ ((wT ca tp (nd 0) pbb pln pso ppl pbh) ++ ((wA ca (aF 1) sb) ++ ((wS ca (sb 0) (sn 0) anu abi ale) ++ ((wS ca (sb 1) (sn 1) bnu bbi ble) ++ ((wS ca (sb 2) (sn 2) cnu cbi cle) ++ ((wS ca (sb 3) (sn 3) u20.2 dbi dle) ++ (wM ca am mm mkp mwa mfo mta mbo mso mce mik mtd mtk mbg maa mvl mbd)))))))))))))) ((wN ca nd sd) ++ ((wC ca aT (nd 0) tsk tze tma tki tdn twi tdu the tyr tsz) ++ ((wC ca aL (nd 0) lsk lze lma lki ldn lwi ldu lhe lyr lsz) ++ ((wC ca aK (nd 0) ksk kze kma kki kdn kwi kdu khe kyr ksz) ++ ((wT ca tp (nd 0) pbb pln pso ppl pbh) ++ ((wS ca (sb 0) (sn 0) anu abi ale) ++ ((wS ca (sb 1) (sn 1) bnu bbi ble) ++ ((wS ca (sb 2) (sn 2) cnu cbi cle) ++ (wM ca am mm mkp mwa mfo mta mbo mso mce mik mtd mtk mbg maa mvl mbd))))))))) rfl rfl rfl (by decide) rfl (fun _ => rfl) (jr_V C lkV_L_132 (c_X9_copyE aF aL aT aK nd tp sb sn 3 fd ik dnu dbi dle (xs ((x3 + 1).toNatClampNeg)) (xs ((x3 + 2).toNatClampNeg)) (xs ((x3 + 3).toNatClampNeg)) (xs ((x3 + 4).toNatClampNeg)) (xs ((x3 + 5).toNatClampNeg)) (hjk w3 (by decide)) (hjk w17 (by decide)) hw) ⟨rfl, rfl, by decide, by decide, hcs.1, hcs.2⟩ [0, 1, 38, 45, 46] (by decide) rfl (fx_rw C hB [0, 1, 38, 45, 46] rfl) 1 9 rfl rfl rfl rfl (Nat.le_of_ble_eq_true rfl) dL_law_1107) (fun r20 u20 hw => ?_)
              refine j_aload_n C 2 dL_law_1110 rfl ?_
              refine j_aload_n C 0 dL_law_1111 rfl ?_
              refine j_iload_n C 3 dL_law_1112 rfl ?_
              refine j_iconst C 1 dL_law_1113 (by decide) ?_
              refine j_iadd C dL_law_1114 ?_
              refine j_sld C hX dL_law_1115 hi1 ?_
              refine j_aload_n C 0 dL_law_1116 rfl ?_
              refine j_iload_n C 3 dL_law_1117 rfl ?_
              refine j_iconst C 2 dL_law_1118 (by decide) ?_
              refine j_iadd C dL_law_1119 ?_
              refine j_sld C hX dL_law_1120 hi2 ?_
              refine j_aload_n C 0 dL_law_1121 rfl ?_
              refine j_iload_n C 3 dL_law_1122 rfl ?_
              refine j_iconst C 3 dL_law_1123 (by decide) ?_
              refine j_iadd C dL_law_1124 ?_
              refine j_sld C hX dL_law_1125 hi3 ?_
              refine j_aload_n C 0 dL_law_1126 rfl ?_
              refine j_iload_n C 3 dL_law_1127 rfl ?_
              refine j_iconst C 4 dL_law_1128 (by decide) ?_
              refine j_iadd C dL_law_1129 ?_
              refine j_sld C hX dL_law_1130 hi4 ?_
              refine j_aload_n C 0 dL_law_1131 rfl ?_
              refine j_iload_n C 3 dL_law_1132 rfl ?_
              refine j_iconst C 5 dL_law_1133 (by decide) ?_
              refine j_iadd C dL_law_1134 ?_
              refine j_sld C hX dL_law_1135 hi5 ?_
              refine j_ciT C hB 47 56 (fun u21 : (Nat → Int32) × (Nat → Int64) => ((wD ca (aF 2) u20.1) ++ ((wF (aF 0) (aL 0) (aT 0) (aK 0) (tp 0) (aF 1) (aF 2) ik) ++ ((wN ca nd sd) ++ ((wC ca aT (nd 0) tsk tze tma tki tdn twi tdu the tyr tsz) ++ ((wC ca aL (nd 0) lsk lze lma lki ldn lwi ldu lhe lyr lsz) ++ ((wC ca aK (nd 0) ksk kze kma kki kdn kwi kdu khe kyr ksz) ++ ((wT ca tp (nd 0) pbb pln pso ppl pbh) ++ ((wA ca (aF 1) sb) ++ ((wS ca (sb 0) (sn 0) anu abi ale) ++ ((wS ca (sb 1) (sn 1) bnu bbi ble) ++ ((wS ca (sb 2) (sn 2) cnu cbi cle) ++ ((wS ca (sb 3) (sn 3) u20.2 dbi dle) ++ (wM ca am mm mkp mwa u21.1 mta mbo mso u21.2 mik mtd mtk mbg maa mvl mbd)))))))))))))) rfl (fun _ => rfl) (jr_V C lkV_L_136 (c_X10_copy am mm mkp mwa mfo mta mbo mso mce mik mtd mtk mbg maa mvl mbd (xs ((x3 + 1).toNatClampNeg)) (xs ((x3 + 2).toNatClampNeg)) (xs ((x3 + 3).toNatClampNeg)) (xs ((x3 + 4).toNatClampNeg)) (xs ((x3 + 5).toNatClampNeg)) hw) ⟨rfl, rfl, by decide, by decide, hcs.1, hcs.2⟩ [47, 48, 49, 50, 51, 52, 53, 54, 55] (by decide) rfl (fx_rw C hB [47, 48, 49, 50, 51, 52, 53, 54, 55] rfl) 47 10 rfl rfl rfl rfl (Nat.le_of_ble_eq_true rfl) dL_law_1136) (fun r21 u21 hw => ?_)
              refine j_icmp_eq C 1328 dL_law_1139 (by decide) (fun z => ?_) (fun z => ?_)
              · replace hw := hw.1 z
                exact hK u20.1 ik tsk tze tma tki tdn twi tdu the tyr tsz lsk lze lma lki ldn lwi ldu lhe lyr lsz ksk kze kma kki kdn kwi kdu khe kyr ksz pbb pln pso ppl pbh anu abi ale bnu bbi ble cnu cbi cle u20.2 dbi dle mm mkp mwa u21.1 mta mbo mso u21.2 mik mtd mtk mbg maa mvl mbd hw
              · replace hw := hw.2 z
                refine j_iconst C 0 dL_law_1142 (by decide) ?_
                exact hw.elim
            · replace hw := hw.2 w17
              refine j_ciP C hB [0, 1, 38, 45, 46, 39, 40] [2, 3, 4, 5, 6, 7, 8, 9, 10, 11, 12, 13, 14, 15, 16, 17, 18, 19, 20, 21, 22, 23, 24, 25, 26, 27, 28, 29, 30, 31, 32, 33, 34, 35, 36, 37, 41, 42, 43, 44, 47, 48, 49, 50, 51, 52, 53, 54, 55] [49, 50, 0, 1, 2, 3, 4, 5, 6, 7, 8, 9, 10, 11, 12, 13, 14, 15, 16, 17, 18, 19, 20, 21, 22, 23, 24, 25, 26, 27, 28, 29, 30, 31, 32, 33, 34, 35, 51, 54, 55, 36, 37, 38, 39, 52, 53, 40, 41, 42, 43, 44, 45, 46, 47, 48] (fun u18 : (Nat → Int32) × (Nat → Int64) => ((wD ca (aF 2) u18.1) ++ ((wF (aF 0) (aL 0) (aT 0) (aK 0) (tp 0) (aF 1) (aF 2) ik) ++ ((wN ca nd sd) ++ ((wC ca aT (nd 0) tsk tze tma tki tdn twi tdu the tyr tsz) ++ ((wC ca aL (nd 0) lsk lze lma lki ldn lwi ldu lhe lyr lsz) ++ ((wC ca aK (nd 0) ksk kze kma kki kdn kwi kdu khe kyr ksz) ++ ((wT ca tp (nd 0) pbb pln pso ppl pbh) ++ ((wA ca (aF 1) sb) ++ ((wS ca (sb 0) (sn 0) u18.2 abi ale) ++ ((wS ca (sb 1) (sn 1) bnu bbi ble) ++ ((wS ca (sb 2) (sn 2) cnu cbi cle) ++ ((wS ca (sb 3) (sn 3) dnu dbi dle) ++ (wM ca am mm mkp mwa mfo mta mbo mso mce mik mtd mtk mbg maa mvl mbd)))))))))))))) ((wN ca nd sd) ++ ((wC ca aT (nd 0) tsk tze tma tki tdn twi tdu the tyr tsz) ++ ((wC ca aL (nd 0) lsk lze lma lki ldn lwi ldu lhe lyr lsz) ++ ((wC ca aK (nd 0) ksk kze kma kki kdn kwi kdu khe kyr ksz) ++ ((wT ca tp (nd 0) pbb pln pso ppl pbh) ++ ((wS ca (sb 1) (sn 1) bnu bbi ble) ++ ((wS ca (sb 2) (sn 2) cnu cbi cle) ++ (wM ca am mm mkp mwa mfo mta mbo mso mce mik mtd mtk mbg maa mvl mbd)))))))) rfl rfl rfl (by decide) rfl (fun _ => rfl) (jr_V C lkV_L_132 (c_X9_copyN aF aL aT aK nd tp sb sn 3 0 fd ik dnu dbi dle anu abi ale (xs ((x3 + 1).toNatClampNeg)) (xs ((x3 + 2).toNatClampNeg)) (xs ((x3 + 3).toNatClampNeg)) (xs ((x3 + 4).toNatClampNeg)) (xs ((x3 + 5).toNatClampNeg)) (hjk w3 (by decide)) (hj0 w15 w16 w17) hw) ⟨rfl, rfl, by decide, by decide, hcs.1, hcs.2⟩ [0, 1, 38, 45, 46, 39, 40] (by decide) rfl (fx_rw C hB [0, 1, 38, 45, 46, 39, 40] rfl) 1 9 rfl rfl rfl rfl (Nat.le_of_ble_eq_true rfl) dL_law_1107) (fun r18 u18 hw => ?_)
              refine j_aload_n C 2 dL_law_1110 rfl ?_
              refine j_aload_n C 0 dL_law_1111 rfl ?_
              refine j_iload_n C 3 dL_law_1112 rfl ?_
              refine j_iconst C 1 dL_law_1113 (by decide) ?_
              refine j_iadd C dL_law_1114 ?_
              refine j_sld C hX dL_law_1115 hi1 ?_
              refine j_aload_n C 0 dL_law_1116 rfl ?_
              refine j_iload_n C 3 dL_law_1117 rfl ?_
              refine j_iconst C 2 dL_law_1118 (by decide) ?_
              refine j_iadd C dL_law_1119 ?_
              refine j_sld C hX dL_law_1120 hi2 ?_
              refine j_aload_n C 0 dL_law_1121 rfl ?_
              refine j_iload_n C 3 dL_law_1122 rfl ?_
              refine j_iconst C 3 dL_law_1123 (by decide) ?_
              refine j_iadd C dL_law_1124 ?_
              refine j_sld C hX dL_law_1125 hi3 ?_
              refine j_aload_n C 0 dL_law_1126 rfl ?_
              refine j_iload_n C 3 dL_law_1127 rfl ?_
              refine j_iconst C 4 dL_law_1128 (by decide) ?_
              refine j_iadd C dL_law_1129 ?_
              refine j_sld C hX dL_law_1130 hi4 ?_
              refine j_aload_n C 0 dL_law_1131 rfl ?_
              refine j_iload_n C 3 dL_law_1132 rfl ?_
              refine j_iconst C 5 dL_law_1133 (by decide) ?_
              refine j_iadd C dL_law_1134 ?_
              refine j_sld C hX dL_law_1135 hi5 ?_
              refine j_ciT C hB 47 56 (fun u19 : (Nat → Int32) × (Nat → Int64) => ((wD ca (aF 2) u18.1) ++ ((wF (aF 0) (aL 0) (aT 0) (aK 0) (tp 0) (aF 1) (aF 2) ik) ++ ((wN ca nd sd) ++ ((wC ca aT (nd 0) tsk tze tma tki tdn twi tdu the tyr tsz) ++ ((wC ca aL (nd 0) lsk lze lma lki ldn lwi ldu lhe lyr lsz) ++ ((wC ca aK (nd 0) ksk kze kma kki kdn kwi kdu khe kyr ksz) ++ ((wT ca tp (nd 0) pbb pln pso ppl pbh) ++ ((wA ca (aF 1) sb) ++ ((wS ca (sb 0) (sn 0) u18.2 abi ale) ++ ((wS ca (sb 1) (sn 1) bnu bbi ble) ++ ((wS ca (sb 2) (sn 2) cnu cbi cle) ++ ((wS ca (sb 3) (sn 3) dnu dbi dle) ++ (wM ca am mm mkp mwa u19.1 mta mbo mso u19.2 mik mtd mtk mbg maa mvl mbd)))))))))))))) rfl (fun _ => rfl) (jr_V C lkV_L_136 (c_X10_copy am mm mkp mwa mfo mta mbo mso mce mik mtd mtk mbg maa mvl mbd (xs ((x3 + 1).toNatClampNeg)) (xs ((x3 + 2).toNatClampNeg)) (xs ((x3 + 3).toNatClampNeg)) (xs ((x3 + 4).toNatClampNeg)) (xs ((x3 + 5).toNatClampNeg)) hw) ⟨rfl, rfl, by decide, by decide, hcs.1, hcs.2⟩ [47, 48, 49, 50, 51, 52, 53, 54, 55] (by decide) rfl (fx_rw C hB [47, 48, 49, 50, 51, 52, 53, 54, 55] rfl) 47 10 rfl rfl rfl rfl (Nat.le_of_ble_eq_true rfl) dL_law_1136) (fun r19 u19 hw => ?_)
              refine j_icmp_eq C 1328 dL_law_1139 (by decide) (fun z => ?_) (fun z => ?_)
              · replace hw := hw.1 z
                exact hK u18.1 ik tsk tze tma tki tdn twi tdu the tyr tsz lsk lze lma lki ldn lwi ldu lhe lyr lsz ksk kze kma kki kdn kwi kdu khe kyr ksz pbb pln pso ppl pbh u18.2 abi ale bnu bbi ble cnu cbi cle dnu dbi dle mm mkp mwa u19.1 mta mbo mso u19.2 mik mtd mtk mbg maa mvl mbd hw
              · replace hw := hw.2 z
                refine j_iconst C 0 dL_law_1142 (by decide) ?_
                exact hw.elim
      · replace hw := hw.2 w3
        by_cases w4 : (xs ((x3 + 3).toNatClampNeg)) = 1
        · replace hw := hw.1 w4
          refine j_ciP C hB [0, 1, 38, 39, 40, 41, 42] [2, 3, 4, 5, 6, 7, 8, 9, 10, 11, 12, 13, 14, 15, 16, 17, 18, 19, 20, 21, 22, 23, 24, 25, 26, 27, 28, 29, 30, 31, 32, 33, 34, 35, 36, 37, 43, 44, 45, 46, 47, 48, 49, 50, 51, 52, 53, 54, 55] [49, 50, 0, 1, 2, 3, 4, 5, 6, 7, 8, 9, 10, 11, 12, 13, 14, 15, 16, 17, 18, 19, 20, 21, 22, 23, 24, 25, 26, 27, 28, 29, 30, 31, 32, 33, 34, 35, 51, 52, 53, 54, 55, 36, 37, 38, 39, 40, 41, 42, 43, 44, 45, 46, 47, 48] (fun u13 : (Nat → Int32) × (Nat → Int64) => ((wD ca (aF 2) u13.1) ++ ((wF (aF 0) (aL 0) (aT 0) (aK 0) (tp 0) (aF 1) (aF 2) ik) ++ ((wN ca nd sd) ++ ((wC ca aT (nd 0) tsk tze tma tki tdn twi tdu the tyr tsz) ++ ((wC ca aL (nd 0) lsk lze lma lki ldn lwi ldu lhe lyr lsz) ++ ((wC ca aK (nd 0) ksk kze kma kki kdn kwi kdu khe kyr ksz) ++ ((wT ca tp (nd 0) pbb pln pso ppl pbh) ++ ((wA ca (aF 1) sb) ++ ((wS ca (sb 0) (sn 0) anu abi ale) ++ ((wS ca (sb 1) (sn 1) u13.2 bbi ble) ++ ((wS ca (sb 2) (sn 2) cnu cbi cle) ++ ((wS ca (sb 3) (sn 3) dnu dbi dle) ++ (wM ca am mm mkp mwa mfo mta mbo mso mce mik mtd mtk mbg maa mvl mbd)))))))))))))) ((wN ca nd sd) ++ ((wC ca aT (nd 0) tsk tze tma tki tdn twi tdu the tyr tsz) ++ ((wC ca aL (nd 0) lsk lze lma lki ldn lwi ldu lhe lyr lsz) ++ ((wC ca aK (nd 0) ksk kze kma kki kdn kwi kdu khe kyr ksz) ++ ((wT ca tp (nd 0) pbb pln pso ppl pbh) ++ ((wS ca (sb 2) (sn 2) cnu cbi cle) ++ ((wS ca (sb 3) (sn 3) dnu dbi dle) ++ (wM ca am mm mkp mwa mfo mta mbo mso mce mik mtd mtk mbg maa mvl mbd)))))))) rfl rfl rfl (by decide) rfl (fun _ => rfl) (jr_V C lkV_L_132 (c_X9_copyN aF aL aT aK nd tp sb sn 0 1 fd ik anu abi ale bnu bbi ble (xs ((x3 + 1).toNatClampNeg)) (xs ((x3 + 2).toNatClampNeg)) (xs ((x3 + 3).toNatClampNeg)) (xs ((x3 + 4).toNatClampNeg)) (xs ((x3 + 5).toNatClampNeg)) (hj0 w1 w2 w3) (hjk w4 (by decide)) hw) ⟨rfl, rfl, by decide, by decide, hcs.1, hcs.2⟩ [0, 1, 38, 39, 40, 41, 42] (by decide) rfl (fx_rw C hB [0, 1, 38, 39, 40, 41, 42] rfl) 1 9 rfl rfl rfl rfl (Nat.le_of_ble_eq_true rfl) dL_law_1107) (fun r13 u13 hw => ?_)
          refine j_aload_n C 2 dL_law_1110 rfl ?_
          refine j_aload_n C 0 dL_law_1111 rfl ?_
          refine j_iload_n C 3 dL_law_1112 rfl ?_
          refine j_iconst C 1 dL_law_1113 (by decide) ?_
          refine j_iadd C dL_law_1114 ?_
          refine j_sld C hX dL_law_1115 hi1 ?_
          refine j_aload_n C 0 dL_law_1116 rfl ?_
          refine j_iload_n C 3 dL_law_1117 rfl ?_
          refine j_iconst C 2 dL_law_1118 (by decide) ?_
          refine j_iadd C dL_law_1119 ?_
          refine j_sld C hX dL_law_1120 hi2 ?_
          refine j_aload_n C 0 dL_law_1121 rfl ?_
          refine j_iload_n C 3 dL_law_1122 rfl ?_
          refine j_iconst C 3 dL_law_1123 (by decide) ?_
          refine j_iadd C dL_law_1124 ?_
          refine j_sld C hX dL_law_1125 hi3 ?_
          refine j_aload_n C 0 dL_law_1126 rfl ?_
          refine j_iload_n C 3 dL_law_1127 rfl ?_
          refine j_iconst C 4 dL_law_1128 (by decide) ?_
          refine j_iadd C dL_law_1129 ?_
          refine j_sld C hX dL_law_1130 hi4 ?_
          refine j_aload_n C 0 dL_law_1131 rfl ?_
          refine j_iload_n C 3 dL_law_1132 rfl ?_
          refine j_iconst C 5 dL_law_1133 (by decide) ?_
          refine j_iadd C dL_law_1134 ?_
          refine j_sld C hX dL_law_1135 hi5 ?_
          refine j_ciT C hB 47 56 (fun u14 : (Nat → Int32) × (Nat → Int64) => ((wD ca (aF 2) u13.1) ++ ((wF (aF 0) (aL 0) (aT 0) (aK 0) (tp 0) (aF 1) (aF 2) ik) ++ ((wN ca nd sd) ++ ((wC ca aT (nd 0) tsk tze tma tki tdn twi tdu the tyr tsz) ++ ((wC ca aL (nd 0) lsk lze lma lki ldn lwi ldu lhe lyr lsz) ++ ((wC ca aK (nd 0) ksk kze kma kki kdn kwi kdu khe kyr ksz) ++ ((wT ca tp (nd 0) pbb pln pso ppl pbh) ++ ((wA ca (aF 1) sb) ++ ((wS ca (sb 0) (sn 0) anu abi ale) ++ ((wS ca (sb 1) (sn 1) u13.2 bbi ble) ++ ((wS ca (sb 2) (sn 2) cnu cbi cle) ++ ((wS ca (sb 3) (sn 3) dnu dbi dle) ++ (wM ca am mm mkp mwa u14.1 mta mbo mso u14.2 mik mtd mtk mbg maa mvl mbd)))))))))))))) rfl (fun _ => rfl) (jr_V C lkV_L_136 (c_X10_copy am mm mkp mwa mfo mta mbo mso mce mik mtd mtk mbg maa mvl mbd (xs ((x3 + 1).toNatClampNeg)) (xs ((x3 + 2).toNatClampNeg)) (xs ((x3 + 3).toNatClampNeg)) (xs ((x3 + 4).toNatClampNeg)) (xs ((x3 + 5).toNatClampNeg)) hw) ⟨rfl, rfl, by decide, by decide, hcs.1, hcs.2⟩ [47, 48, 49, 50, 51, 52, 53, 54, 55] (by decide) rfl (fx_rw C hB [47, 48, 49, 50, 51, 52, 53, 54, 55] rfl) 47 10 rfl rfl rfl rfl (Nat.le_of_ble_eq_true rfl) dL_law_1136) (fun r14 u14 hw => ?_)
          refine j_icmp_eq C 1328 dL_law_1139 (by decide) (fun z => ?_) (fun z => ?_)
          · replace hw := hw.1 z
            exact hK u13.1 ik tsk tze tma tki tdn twi tdu the tyr tsz lsk lze lma lki ldn lwi ldu lhe lyr lsz ksk kze kma kki kdn kwi kdu khe kyr ksz pbb pln pso ppl pbh anu abi ale u13.2 bbi ble cnu cbi cle dnu dbi dle mm mkp mwa u14.1 mta mbo mso u14.2 mik mtd mtk mbg maa mvl mbd hw
          · replace hw := hw.2 z
            refine j_iconst C 0 dL_law_1142 (by decide) ?_
            exact hw.elim
        · replace hw := hw.2 w4
          by_cases w5 : (xs ((x3 + 3).toNatClampNeg)) = 2
          · replace hw := hw.1 w5
            refine j_ciP C hB [0, 1, 38, 39, 40, 43, 44] [2, 3, 4, 5, 6, 7, 8, 9, 10, 11, 12, 13, 14, 15, 16, 17, 18, 19, 20, 21, 22, 23, 24, 25, 26, 27, 28, 29, 30, 31, 32, 33, 34, 35, 36, 37, 41, 42, 45, 46, 47, 48, 49, 50, 51, 52, 53, 54, 55] [49, 50, 0, 1, 2, 3, 4, 5, 6, 7, 8, 9, 10, 11, 12, 13, 14, 15, 16, 17, 18, 19, 20, 21, 22, 23, 24, 25, 26, 27, 28, 29, 30, 31, 32, 33, 34, 35, 51, 52, 53, 36, 37, 54, 55, 38, 39, 40, 41, 42, 43, 44, 45, 46, 47, 48] (fun u11 : (Nat → Int32) × (Nat → Int64) => ((wD ca (aF 2) u11.1) ++ ((wF (aF 0) (aL 0) (aT 0) (aK 0) (tp 0) (aF 1) (aF 2) ik) ++ ((wN ca nd sd) ++ ((wC ca aT (nd 0) tsk tze tma tki tdn twi tdu the tyr tsz) ++ ((wC ca aL (nd 0) lsk lze lma lki ldn lwi ldu lhe lyr lsz) ++ ((wC ca aK (nd 0) ksk kze kma kki kdn kwi kdu khe kyr ksz) ++ ((wT ca tp (nd 0) pbb pln pso ppl pbh) ++ ((wA ca (aF 1) sb) ++ ((wS ca (sb 0) (sn 0) anu abi ale) ++ ((wS ca (sb 1) (sn 1) bnu bbi ble) ++ ((wS ca (sb 2) (sn 2) u11.2 cbi cle) ++ ((wS ca (sb 3) (sn 3) dnu dbi dle) ++ (wM ca am mm mkp mwa mfo mta mbo mso mce mik mtd mtk mbg maa mvl mbd)))))))))))))) ((wN ca nd sd) ++ ((wC ca aT (nd 0) tsk tze tma tki tdn twi tdu the tyr tsz) ++ ((wC ca aL (nd 0) lsk lze lma lki ldn lwi ldu lhe lyr lsz) ++ ((wC ca aK (nd 0) ksk kze kma kki kdn kwi kdu khe kyr ksz) ++ ((wT ca tp (nd 0) pbb pln pso ppl pbh) ++ ((wS ca (sb 1) (sn 1) bnu bbi ble) ++ ((wS ca (sb 3) (sn 3) dnu dbi dle) ++ (wM ca am mm mkp mwa mfo mta mbo mso mce mik mtd mtk mbg maa mvl mbd)))))))) rfl rfl rfl (by decide) rfl (fun _ => rfl) (jr_V C lkV_L_132 (c_X9_copyN aF aL aT aK nd tp sb sn 0 2 fd ik anu abi ale cnu cbi cle (xs ((x3 + 1).toNatClampNeg)) (xs ((x3 + 2).toNatClampNeg)) (xs ((x3 + 3).toNatClampNeg)) (xs ((x3 + 4).toNatClampNeg)) (xs ((x3 + 5).toNatClampNeg)) (hj0 w1 w2 w3) (hjk w5 (by decide)) hw) ⟨rfl, rfl, by decide, by decide, hcs.1, hcs.2⟩ [0, 1, 38, 39, 40, 43, 44] (by decide) rfl (fx_rw C hB [0, 1, 38, 39, 40, 43, 44] rfl) 1 9 rfl rfl rfl rfl (Nat.le_of_ble_eq_true rfl) dL_law_1107) (fun r11 u11 hw => ?_)
            refine j_aload_n C 2 dL_law_1110 rfl ?_
            refine j_aload_n C 0 dL_law_1111 rfl ?_
            refine j_iload_n C 3 dL_law_1112 rfl ?_
            refine j_iconst C 1 dL_law_1113 (by decide) ?_
            refine j_iadd C dL_law_1114 ?_
            refine j_sld C hX dL_law_1115 hi1 ?_
            refine j_aload_n C 0 dL_law_1116 rfl ?_
            refine j_iload_n C 3 dL_law_1117 rfl ?_
            refine j_iconst C 2 dL_law_1118 (by decide) ?_
            refine j_iadd C dL_law_1119 ?_
            refine j_sld C hX dL_law_1120 hi2 ?_
            refine j_aload_n C 0 dL_law_1121 rfl ?_
            refine j_iload_n C 3 dL_law_1122 rfl ?_
            refine j_iconst C 3 dL_law_1123 (by decide) ?_
            refine j_iadd C dL_law_1124 ?_
            refine j_sld C hX dL_law_1125 hi3 ?_
            refine j_aload_n C 0 dL_law_1126 rfl ?_
            refine j_iload_n C 3 dL_law_1127 rfl ?_
            refine j_iconst C 4 dL_law_1128 (by decide) ?_
            refine j_iadd C dL_law_1129 ?_
            refine j_sld C hX dL_law_1130 hi4 ?_
            refine j_aload_n C 0 dL_law_1131 rfl ?_
            refine j_iload_n C 3 dL_law_1132 rfl ?_
            refine j_iconst C 5 dL_law_1133 (by decide) ?_
            refine j_iadd C dL_law_1134 ?_
            refine j_sld C hX dL_law_1135 hi5 ?_
            refine j_ciT C hB 47 56 (fun u12 : (Nat → Int32) × (Nat → Int64) => ((wD ca (aF 2) u11.1) ++ ((wF (aF 0) (aL 0) (aT 0) (aK 0) (tp 0) (aF 1) (aF 2) ik) ++ ((wN ca nd sd) ++ ((wC ca aT (nd 0) tsk tze tma tki tdn twi tdu the tyr tsz) ++ ((wC ca aL (nd 0) lsk lze lma lki ldn lwi ldu lhe lyr lsz) ++ ((wC ca aK (nd 0) ksk kze kma kki kdn kwi kdu khe kyr ksz) ++ ((wT ca tp (nd 0) pbb pln pso ppl pbh) ++ ((wA ca (aF 1) sb) ++ ((wS ca (sb 0) (sn 0) anu abi ale) ++ ((wS ca (sb 1) (sn 1) bnu bbi ble) ++ ((wS ca (sb 2) (sn 2) u11.2 cbi cle) ++ ((wS ca (sb 3) (sn 3) dnu dbi dle) ++ (wM ca am mm mkp mwa u12.1 mta mbo mso u12.2 mik mtd mtk mbg maa mvl mbd)))))))))))))) rfl (fun _ => rfl) (jr_V C lkV_L_136 (c_X10_copy am mm mkp mwa mfo mta mbo mso mce mik mtd mtk mbg maa mvl mbd (xs ((x3 + 1).toNatClampNeg)) (xs ((x3 + 2).toNatClampNeg)) (xs ((x3 + 3).toNatClampNeg)) (xs ((x3 + 4).toNatClampNeg)) (xs ((x3 + 5).toNatClampNeg)) hw) ⟨rfl, rfl, by decide, by decide, hcs.1, hcs.2⟩ [47, 48, 49, 50, 51, 52, 53, 54, 55] (by decide) rfl (fx_rw C hB [47, 48, 49, 50, 51, 52, 53, 54, 55] rfl) 47 10 rfl rfl rfl rfl (Nat.le_of_ble_eq_true rfl) dL_law_1136) (fun r12 u12 hw => ?_)
            refine j_icmp_eq C 1328 dL_law_1139 (by decide) (fun z => ?_) (fun z => ?_)
            · replace hw := hw.1 z
              exact hK u11.1 ik tsk tze tma tki tdn twi tdu the tyr tsz lsk lze lma lki ldn lwi ldu lhe lyr lsz ksk kze kma kki kdn kwi kdu khe kyr ksz pbb pln pso ppl pbh anu abi ale bnu bbi ble u11.2 cbi cle dnu dbi dle mm mkp mwa u12.1 mta mbo mso u12.2 mik mtd mtk mbg maa mvl mbd hw
            · replace hw := hw.2 z
              refine j_iconst C 0 dL_law_1142 (by decide) ?_
              exact hw.elim
          · replace hw := hw.2 w5
            by_cases w6 : (xs ((x3 + 3).toNatClampNeg)) = 3
            · replace hw := hw.1 w6
              refine j_ciP C hB [0, 1, 38, 39, 40, 45, 46] [2, 3, 4, 5, 6, 7, 8, 9, 10, 11, 12, 13, 14, 15, 16, 17, 18, 19, 20, 21, 22, 23, 24, 25, 26, 27, 28, 29, 30, 31, 32, 33, 34, 35, 36, 37, 41, 42, 43, 44, 47, 48, 49, 50, 51, 52, 53, 54, 55] [49, 50, 0, 1, 2, 3, 4, 5, 6, 7, 8, 9, 10, 11, 12, 13, 14, 15, 16, 17, 18, 19, 20, 21, 22, 23, 24, 25, 26, 27, 28, 29, 30, 31, 32, 33, 34, 35, 51, 52, 53, 36, 37, 38, 39, 54, 55, 40, 41, 42, 43, 44, 45, 46, 47, 48] (fun u9 : (Nat → Int32) × (Nat → Int64) => ((wD ca (aF 2) u9.1) ++ ((wF (aF 0) (aL 0) (aT 0) (aK 0) (tp 0) (aF 1) (aF 2) ik) ++ ((wN ca nd sd) ++ ((wC ca aT (nd 0) tsk tze tma tki tdn twi tdu the tyr tsz) ++ ((wC ca aL (nd 0) lsk lze lma lki ldn lwi ldu lhe lyr lsz) ++ ((wC ca aK (nd 0) ksk kze kma kki kdn kwi kdu khe kyr ksz) ++ ((wT ca tp (nd 0) pbb pln pso ppl pbh) ++ ((wA ca (aF 1) sb) ++ ((wS ca (sb 0) (sn 0) anu abi ale) ++ ((wS ca (sb 1) (sn 1) bnu bbi ble) ++ ((wS ca (sb 2) (sn 2) cnu cbi cle) ++ ((wS ca (sb 3) (sn 3) u9.2 dbi dle) ++ (wM ca am mm mkp mwa mfo mta mbo mso mce mik mtd mtk mbg maa mvl mbd)))))))))))))) ((wN ca nd sd) ++ ((wC ca aT (nd 0) tsk tze tma tki tdn twi tdu the tyr tsz) ++ ((wC ca aL (nd 0) lsk lze lma lki ldn lwi ldu lhe lyr lsz) ++ ((wC ca aK (nd 0) ksk kze kma kki kdn kwi kdu khe kyr ksz) ++ ((wT ca tp (nd 0) pbb pln pso ppl pbh) ++ ((wS ca (sb 1) (sn 1) bnu bbi ble) ++ ((wS ca (sb 2) (sn 2) cnu cbi cle) ++ (wM ca am mm mkp mwa mfo mta mbo mso mce mik mtd mtk mbg maa mvl mbd)))))))) rfl rfl rfl (by decide) rfl (fun _ => rfl) (jr_V C lkV_L_132 (c_X9_copyN aF aL aT aK nd tp sb sn 0 3 fd ik anu abi ale dnu dbi dle (xs ((x3 + 1).toNatClampNeg)) (xs ((x3 + 2).toNatClampNeg)) (xs ((x3 + 3).toNatClampNeg)) (xs ((x3 + 4).toNatClampNeg)) (xs ((x3 + 5).toNatClampNeg)) (hj0 w1 w2 w3) (hjk w6 (by decide)) hw) ⟨rfl, rfl, by decide, by decide, hcs.1, hcs.2⟩ [0, 1, 38, 39, 40, 45, 46] (by decide) rfl (fx_rw C hB [0, 1, 38, 39, 40, 45, 46] rfl) 1 9 rfl rfl rfl rfl (Nat.le_of_ble_eq_true rfl) dL_law_1107) (fun r9 u9 hw => ?_)
              refine j_aload_n C 2 dL_law_1110 rfl ?_
              refine j_aload_n C 0 dL_law_1111 rfl ?_
              refine j_iload_n C 3 dL_law_1112 rfl ?_
              refine j_iconst C 1 dL_law_1113 (by decide) ?_
              refine j_iadd C dL_law_1114 ?_
              refine j_sld C hX dL_law_1115 hi1 ?_
              refine j_aload_n C 0 dL_law_1116 rfl ?_
              refine j_iload_n C 3 dL_law_1117 rfl ?_
              refine j_iconst C 2 dL_law_1118 (by decide) ?_
              refine j_iadd C dL_law_1119 ?_
              refine j_sld C hX dL_law_1120 hi2 ?_
              refine j_aload_n C 0 dL_law_1121 rfl ?_
              refine j_iload_n C 3 dL_law_1122 rfl ?_
              refine j_iconst C 3 dL_law_1123 (by decide) ?_
              refine j_iadd C dL_law_1124 ?_
              refine j_sld C hX dL_law_1125 hi3 ?_
              refine j_aload_n C 0 dL_law_1126 rfl ?_
              refine j_iload_n C 3 dL_law_1127 rfl ?_
              refine j_iconst C 4 dL_law_1128 (by decide) ?_
              refine j_iadd C dL_law_1129 ?_
              refine j_sld C hX dL_law_1130 hi4 ?_
              refine j_aload_n C 0 dL_law_1131 rfl ?_
              refine j_iload_n C 3 dL_law_1132 rfl ?_
              refine j_iconst C 5 dL_law_1133 (by decide) ?_
              refine j_iadd C dL_law_1134 ?_
              refine j_sld C hX dL_law_1135 hi5 ?_
              refine j_ciT C hB 47 56 (fun u10 : (Nat → Int32) × (Nat → Int64) => ((wD ca (aF 2) u9.1) ++ ((wF (aF 0) (aL 0) (aT 0) (aK 0) (tp 0) (aF 1) (aF 2) ik) ++ ((wN ca nd sd) ++ ((wC ca aT (nd 0) tsk tze tma tki tdn twi tdu the tyr tsz) ++ ((wC ca aL (nd 0) lsk lze lma lki ldn lwi ldu lhe lyr lsz) ++ ((wC ca aK (nd 0) ksk kze kma kki kdn kwi kdu khe kyr ksz) ++ ((wT ca tp (nd 0) pbb pln pso ppl pbh) ++ ((wA ca (aF 1) sb) ++ ((wS ca (sb 0) (sn 0) anu abi ale) ++ ((wS ca (sb 1) (sn 1) bnu bbi ble) ++ ((wS ca (sb 2) (sn 2) cnu cbi cle) ++ ((wS ca (sb 3) (sn 3) u9.2 dbi dle) ++ (wM ca am mm mkp mwa u10.1 mta mbo mso u10.2 mik mtd mtk mbg maa mvl mbd)))))))))))))) rfl (fun _ => rfl) (jr_V C lkV_L_136 (c_X10_copy am mm mkp mwa mfo mta mbo mso mce mik mtd mtk mbg maa mvl mbd (xs ((x3 + 1).toNatClampNeg)) (xs ((x3 + 2).toNatClampNeg)) (xs ((x3 + 3).toNatClampNeg)) (xs ((x3 + 4).toNatClampNeg)) (xs ((x3 + 5).toNatClampNeg)) hw) ⟨rfl, rfl, by decide, by decide, hcs.1, hcs.2⟩ [47, 48, 49, 50, 51, 52, 53, 54, 55] (by decide) rfl (fx_rw C hB [47, 48, 49, 50, 51, 52, 53, 54, 55] rfl) 47 10 rfl rfl rfl rfl (Nat.le_of_ble_eq_true rfl) dL_law_1136) (fun r10 u10 hw => ?_)
              refine j_icmp_eq C 1328 dL_law_1139 (by decide) (fun z => ?_) (fun z => ?_)
              · replace hw := hw.1 z
                exact hK u9.1 ik tsk tze tma tki tdn twi tdu the tyr tsz lsk lze lma lki ldn lwi ldu lhe lyr lsz ksk kze kma kki kdn kwi kdu khe kyr ksz pbb pln pso ppl pbh anu abi ale bnu bbi ble cnu cbi cle u9.2 dbi dle mm mkp mwa u10.1 mta mbo mso u10.2 mik mtd mtk mbg maa mvl mbd hw
              · replace hw := hw.2 z
                refine j_iconst C 0 dL_law_1142 (by decide) ?_
                exact hw.elim
            · replace hw := hw.2 w6
              refine j_ciP C hB [0, 1, 38, 39, 40] [2, 3, 4, 5, 6, 7, 8, 9, 10, 11, 12, 13, 14, 15, 16, 17, 18, 19, 20, 21, 22, 23, 24, 25, 26, 27, 28, 29, 30, 31, 32, 33, 34, 35, 36, 37, 41, 42, 43, 44, 45, 46, 47, 48, 49, 50, 51, 52, 53, 54, 55] [51, 52, 0, 1, 2, 3, 4, 5, 6, 7, 8, 9, 10, 11, 12, 13, 14, 15, 16, 17, 18, 19, 20, 21, 22, 23, 24, 25, 26, 27, 28, 29, 30, 31, 32, 33, 34, 35, 53, 54, 55, 36, 37, 38, 39, 40, 41, 42, 43, 44, 45, 46, 47, 48, 49, 50] (fun u7 : (Nat → Int32) × (Nat → Int64) => ((wD ca (aF 2) u7.1) ++ ((wF (aF 0) (aL 0) (aT 0) (aK 0) (tp 0) (aF 1) (aF 2) ik) ++ ((wN ca nd sd) ++ ((wC ca aT (nd 0) tsk tze tma tki tdn twi tdu the tyr tsz) ++ ((wC ca aL (nd 0) lsk lze lma lki ldn lwi ldu lhe lyr lsz) ++ ((wC ca aK (nd 0) ksk kze kma kki kdn kwi kdu khe kyr ksz) ++ ((wT ca tp (nd 0) pbb pln pso ppl pbh) ++ ((wA ca (aF 1) sb) ++ ((wS ca (sb 0) (sn 0) u7.2 abi ale) ++ ((wS ca (sb 1) (sn 1) bnu bbi ble) ++ ((wS ca (sb 2) (sn 2) cnu cbi cle) ++ ((wS ca (sb 3) (sn 3) dnu dbi dle) ++ (wM ca am mm mkp mwa mfo mta mbo mso mce mik mtd mtk mbg maa mvl mbd)))))))))))))) ((wN ca nd sd) ++ ((wC ca aT (nd 0) tsk tze tma tki tdn twi tdu the tyr tsz) ++ ((wC ca aL (nd 0) lsk lze lma lki ldn lwi ldu lhe lyr lsz) ++ ((wC ca aK (nd 0) ksk kze kma kki kdn kwi kdu khe kyr ksz) ++ ((wT ca tp (nd 0) pbb pln pso ppl pbh) ++ ((wS ca (sb 1) (sn 1) bnu bbi ble) ++ ((wS ca (sb 2) (sn 2) cnu cbi cle) ++ ((wS ca (sb 3) (sn 3) dnu dbi dle) ++ (wM ca am mm mkp mwa mfo mta mbo mso mce mik mtd mtk mbg maa mvl mbd))))))))) rfl rfl rfl (by decide) rfl (fun _ => rfl) (jr_V C lkV_L_132 (c_X9_copyE aF aL aT aK nd tp sb sn 0 fd ik anu abi ale (xs ((x3 + 1).toNatClampNeg)) (xs ((x3 + 2).toNatClampNeg)) (xs ((x3 + 3).toNatClampNeg)) (xs ((x3 + 4).toNatClampNeg)) (xs ((x3 + 5).toNatClampNeg)) (hj0 w1 w2 w3) (hj0 w4 w5 w6) hw) ⟨rfl, rfl, by decide, by decide, hcs.1, hcs.2⟩ [0, 1, 38, 39, 40] (by decide) rfl (fx_rw C hB [0, 1, 38, 39, 40] rfl) 1 9 rfl rfl rfl rfl (Nat.le_of_ble_eq_true rfl) dL_law_1107) (fun r7 u7 hw => ?_)
              refine j_aload_n C 2 dL_law_1110 rfl ?_
              refine j_aload_n C 0 dL_law_1111 rfl ?_
              refine j_iload_n C 3 dL_law_1112 rfl ?_
              refine j_iconst C 1 dL_law_1113 (by decide) ?_
              refine j_iadd C dL_law_1114 ?_
              refine j_sld C hX dL_law_1115 hi1 ?_
              refine j_aload_n C 0 dL_law_1116 rfl ?_
              refine j_iload_n C 3 dL_law_1117 rfl ?_
              refine j_iconst C 2 dL_law_1118 (by decide) ?_
              refine j_iadd C dL_law_1119 ?_
              refine j_sld C hX dL_law_1120 hi2 ?_
              refine j_aload_n C 0 dL_law_1121 rfl ?_
              refine j_iload_n C 3 dL_law_1122 rfl ?_
              refine j_iconst C 3 dL_law_1123 (by decide) ?_
              refine j_iadd C dL_law_1124 ?_
              refine j_sld C hX dL_law_1125 hi3 ?_
              refine j_aload_n C 0 dL_law_1126 rfl ?_
              refine j_iload_n C 3 dL_law_1127 rfl ?_
              refine j_iconst C 4 dL_law_1128 (by decide) ?_
              refine j_iadd C dL_law_1129 ?_
              refine j_sld C hX dL_law_1130 hi4 ?_
              refine j_aload_n C 0 dL_law_1131 rfl ?_
              refine j_iload_n C 3 dL_law_1132 rfl ?_
              refine j_iconst C 5 dL_law_1133 (by decide) ?_
              refine j_iadd C dL_law_1134 ?_
              refine j_sld C hX dL_law_1135 hi5 ?_
              refine j_ciT C hB 47 56 (fun u8 : (Nat → Int32) × (Nat → Int64) => ((wD ca (aF 2) u7.1) ++ ((wF (aF 0) (aL 0) (aT 0) (aK 0) (tp 0) (aF 1) (aF 2) ik) ++ ((wN ca nd sd) ++ ((wC ca aT (nd 0) tsk tze tma tki tdn twi tdu the tyr tsz) ++ ((wC ca aL (nd 0) lsk lze lma lki ldn lwi ldu lhe lyr lsz) ++ ((wC ca aK (nd 0) ksk kze kma kki kdn kwi kdu khe kyr ksz) ++ ((wT ca tp (nd 0) pbb pln pso ppl pbh) ++ ((wA ca (aF 1) sb) ++ ((wS ca (sb 0) (sn 0) u7.2 abi ale) ++ ((wS ca (sb 1) (sn 1) bnu bbi ble) ++ ((wS ca (sb 2) (sn 2) cnu cbi cle) ++ ((wS ca (sb 3) (sn 3) dnu dbi dle) ++ (wM ca am mm mkp mwa u8.1 mta mbo mso u8.2 mik mtd mtk mbg maa mvl mbd)))))))))))))) rfl (fun _ => rfl) (jr_V C lkV_L_136 (c_X10_copy am mm mkp mwa mfo mta mbo mso mce mik mtd mtk mbg maa mvl mbd (xs ((x3 + 1).toNatClampNeg)) (xs ((x3 + 2).toNatClampNeg)) (xs ((x3 + 3).toNatClampNeg)) (xs ((x3 + 4).toNatClampNeg)) (xs ((x3 + 5).toNatClampNeg)) hw) ⟨rfl, rfl, by decide, by decide, hcs.1, hcs.2⟩ [47, 48, 49, 50, 51, 52, 53, 54, 55] (by decide) rfl (fx_rw C hB [47, 48, 49, 50, 51, 52, 53, 54, 55] rfl) 47 10 rfl rfl rfl rfl (Nat.le_of_ble_eq_true rfl) dL_law_1136) (fun r8 u8 hw => ?_)
              refine j_icmp_eq C 1328 dL_law_1139 (by decide) (fun z => ?_) (fun z => ?_)
              · replace hw := hw.1 z
                exact hK u7.1 ik tsk tze tma tki tdn twi tdu the tyr tsz lsk lze lma lki ldn lwi ldu lhe lyr lsz ksk kze kma kki kdn kwi kdu khe kyr ksz pbb pln pso ppl pbh u7.2 abi ale bnu bbi ble cnu cbi cle dnu dbi dle mm mkp mwa u8.1 mta mbo mso u8.2 mik mtd mtk mbg maa mvl mbd hw
              · replace hw := hw.2 z
                refine j_iconst C 0 dL_law_1142 (by decide) ?_
                exact hw.elim
set_option maxRecDepth 100000 in
set_option maxHeartbeats 8000000 in
theorem lw_case29 {l : Launch} {D : va_G} {ca : Nat → ClassId} {sd : Nat → Nat} {k : Kx} (aF aL aT aK nd tp sb sn am : Nat → Nat) (b L : Nat) (xs : Nat → Int32) {cs sl : Nat} (x3 : Int32) (fd : Nat → Int32) (ik : Int32) (tsk : Nat → Int32) (tze : Nat → Int32) (tma : Nat → Int32) (tki : Nat → Int32) (tdn : Nat → Int32) (twi : Nat → Int32) (tdu : Nat → Int32) (the : Nat → Int32) (tyr : Int32) (tsz : Int32) (lsk : Nat → Int32) (lze : Nat → Int32) (lma : Nat → Int32) (lki : Nat → Int32) (ldn : Nat → Int32) (lwi : Nat → Int32) (ldu : Nat → Int32) (lhe : Nat → Int32) (lyr : Int32) (lsz : Int32) (ksk : Nat → Int32) (kze : Nat → Int32) (kma : Nat → Int32) (kki : Nat → Int32) (kdn : Nat → Int32) (kwi : Nat → Int32) (kdu : Nat → Int32) (khe : Nat → Int32) (kyr : Int32) (ksz : Int32) (pbb : Nat → Int32) (pln : Int32) (pso : Int32) (ppl : Int32) (pbh : Int32) (anu : Nat → Int64) (abi : Int32) (ale : Int32) (bnu : Nat → Int64) (bbi : Int32) (ble : Int32) (cnu : Nat → Int64) (cbi : Int32) (cle : Int32) (dnu : Nat → Int64) (dbi : Int32) (dle : Int32) (mm : Nat → Int32) (mkp : Nat → Int32) (mwa : Nat → Int32) (mfo : Nat → Int32) (mta : Nat → Int32) (mbo : Nat → Int32) (mso : Nat → Int32) (mce : Nat → Int64) (mik : Int32) (mtd : Int32) (mtk : Int32) (mbg : Int32) (maa : Int32) (mvl : Int32) (mbd : Int32) (C : Cx D ca sd cL_law RL (some .boolean) room_1 k 4) (hB : Wx k) (hX : Sx b L xs k) (hcs : cs + 0 ≤ room_1.cells ∧ sl + 0 ≤ room_1.slots) (hi1 : vp_in (x3 + 1) L) (hi2 : vp_in (x3 + 2) L) (hi3 : vp_in (x3 + 3) L) (hi4 : vp_in (x3 + 4) L) (hi5 : vp_in (x3 + 5) L) (hR : RR fd ik tsk tze tma tki tdn twi tdu the tyr tsz lsk lze lma lki ldn lwi ldu lhe lyr lsz ksk kze kma kki kdn kwi kdu khe kyr ksz pbb pln pso ppl pbh anu abi ale bnu bbi ble cnu cbi cle dnu dbi dle mm mkp mwa mfo mta mbo mso mce mik mtd mtk mbg maa mvl mbd) (hK : ∀ (fd' : Nat → Int32) (ik' : Int32) (tsk' : Nat → Int32) (tze' : Nat → Int32) (tma' : Nat → Int32) (tki' : Nat → Int32) (tdn' : Nat → Int32) (twi' : Nat → Int32) (tdu' : Nat → Int32) (the' : Nat → Int32) (tyr' : Int32) (tsz' : Int32) (lsk' : Nat → Int32) (lze' : Nat → Int32) (lma' : Nat → Int32) (lki' : Nat → Int32) (ldn' : Nat → Int32) (lwi' : Nat → Int32) (ldu' : Nat → Int32) (lhe' : Nat → Int32) (lyr' : Int32) (lsz' : Int32) (ksk' : Nat → Int32) (kze' : Nat → Int32) (kma' : Nat → Int32) (kki' : Nat → Int32) (kdn' : Nat → Int32) (kwi' : Nat → Int32) (kdu' : Nat → Int32) (khe' : Nat → Int32) (kyr' : Int32) (ksz' : Int32) (pbb' : Nat → Int32) (pln' : Int32) (pso' : Int32) (ppl' : Int32) (pbh' : Int32) (anu' : Nat → Int64) (abi' : Int32) (ale' : Int32) (bnu' : Nat → Int64) (bbi' : Int32) (ble' : Int32) (cnu' : Nat → Int64) (cbi' : Int32) (cle' : Int32) (dnu' : Nat → Int64) (dbi' : Int32) (dle' : Int32) (mm' : Nat → Int32) (mkp' : Nat → Int32) (mwa' : Nat → Int32) (mfo' : Nat → Int32) (mta' : Nat → Int32) (mbo' : Nat → Int32) (mso' : Nat → Int32) (mce' : Nat → Int64) (mik' : Int32) (mtd' : Int32) (mtk' : Int32) (mbg' : Int32) (maa' : Int32) (mvl' : Int32) (mbd' : Int32), RR fd' ik' tsk' tze' tma' tki' tdn' twi' tdu' the' tyr' tsz' lsk' lze' lma' lki' ldn' lwi' ldu' lhe' lyr' lsz' ksk' kze' kma' kki' kdn' kwi' kdu' khe' kyr' ksz' pbb' pln' pso' ppl' pbh' anu' abi' ale' bnu' bbi' ble' cnu' cbi' cle' dnu' dbi' dle' mm' mkp' mwa' mfo' mta' mbo' mso' mce' mik' mtd' mtk' mbg' maa' mvl' mbd' → J l D k 4 cs sl 1328 ((wD ca (aF 2) fd') ++ ((wF (aF 0) (aL 0) (aT 0) (aK 0) (tp 0) (aF 1) (aF 2) ik') ++ ((wN ca nd sd) ++ ((wC ca aT (nd 0) tsk' tze' tma' tki' tdn' twi' tdu' the' tyr' tsz') ++ ((wC ca aL (nd 0) lsk' lze' lma' lki' ldn' lwi' ldu' lhe' lyr' lsz') ++ ((wC ca aK (nd 0) ksk' kze' kma' kki' kdn' kwi' kdu' khe' kyr' ksz') ++ ((wT ca tp (nd 0) pbb' pln' pso' ppl' pbh') ++ ((wA ca (aF 1) sb) ++ ((wS ca (sb 0) (sn 0) anu' abi' ale') ++ ((wS ca (sb 1) (sn 1) bnu' bbi' ble') ++ ((wS ca (sb 2) (sn 2) cnu' cbi' cle') ++ ((wS ca (sb 3) (sn 3) dnu' dbi' dle') ++ (wM ca am mm' mkp' mwa' mfo' mta' mbo' mso' mce' mik' mtd' mtk' mbg' maa' mvl' mbd'))))))))))))) [(0, .ref b), (1, .ref (aF 0)), (2, .ref (am 0)), (3, .int x3)] []) : J l D k 4 cs sl 1144 ((wD ca (aF 2) fd) ++ ((wF (aF 0) (aL 0) (aT 0) (aK 0) (tp 0) (aF 1) (aF 2) ik) ++ ((wN ca nd sd) ++ ((wC ca aT (nd 0) tsk tze tma tki tdn twi tdu the tyr tsz) ++ ((wC ca aL (nd 0) lsk lze lma lki ldn lwi ldu lhe lyr lsz) ++ ((wC ca aK (nd 0) ksk kze kma kki kdn kwi kdu khe kyr ksz) ++ ((wT ca tp (nd 0) pbb pln pso ppl pbh) ++ ((wA ca (aF 1) sb) ++ ((wS ca (sb 0) (sn 0) anu abi ale) ++ ((wS ca (sb 1) (sn 1) bnu bbi ble) ++ ((wS ca (sb 2) (sn 2) cnu cbi cle) ++ ((wS ca (sb 3) (sn 3) dnu dbi dle) ++ (wM ca am mm mkp mwa mfo mta mbo mso mce mik mtd mtk mbg maa mvl mbd))))))))))))) [(0, .ref b), (1, .ref (aF 0)), (2, .ref (am 0)), (3, .int x3)] [] := by
  obtain ⟨h1, h2, h3, h4, s0, s1, s2, s3⟩ := id hR
  have hw : ((xs ((x3 + 1).toNatClampNeg)) = 1 → wp_X9_lays fd lsk bnu bbi ble (xs ((x3 + 1).toNatClampNeg)) (fun r10 c10_0 c10_1 => wp_X10_lays mm mfo mbo mso mce (xs ((x3 + 1).toNatClampNeg)) (fun r11 c11_0 c11_1 => (r10 = r11 → RR c10_0 ik tsk tze tma tki tdn twi tdu the tyr tsz c10_1 lze lma lki ldn lwi ldu lhe lyr lsz ksk kze kma kki kdn kwi kdu khe kyr ksz pbb pln pso ppl pbh anu abi ale bnu bbi ble cnu cbi cle dnu dbi dle c11_0 mkp mwa c11_1 mta mbo mso mce mik mtd mtk mbg maa mvl mbd) ∧ (¬ (r10 = r11) → False)))) ∧ (¬ ((xs ((x3 + 1).toNatClampNeg)) = 1) → ((xs ((x3 + 1).toNatClampNeg)) = 2 → wp_X9_lays fd lsk cnu cbi cle (xs ((x3 + 1).toNatClampNeg)) (fun r8 c8_0 c8_1 => wp_X10_lays mm mfo mbo mso mce (xs ((x3 + 1).toNatClampNeg)) (fun r9 c9_0 c9_1 => (r8 = r9 → RR c8_0 ik tsk tze tma tki tdn twi tdu the tyr tsz c8_1 lze lma lki ldn lwi ldu lhe lyr lsz ksk kze kma kki kdn kwi kdu khe kyr ksz pbb pln pso ppl pbh anu abi ale bnu bbi ble cnu cbi cle dnu dbi dle c9_0 mkp mwa c9_1 mta mbo mso mce mik mtd mtk mbg maa mvl mbd) ∧ (¬ (r8 = r9) → False)))) ∧ (¬ ((xs ((x3 + 1).toNatClampNeg)) = 2) → ((xs ((x3 + 1).toNatClampNeg)) = 3 → wp_X9_lays fd lsk dnu dbi dle (xs ((x3 + 1).toNatClampNeg)) (fun r6 c6_0 c6_1 => wp_X10_lays mm mfo mbo mso mce (xs ((x3 + 1).toNatClampNeg)) (fun r7 c7_0 c7_1 => (r6 = r7 → RR c6_0 ik tsk tze tma tki tdn twi tdu the tyr tsz c6_1 lze lma lki ldn lwi ldu lhe lyr lsz ksk kze kma kki kdn kwi kdu khe kyr ksz pbb pln pso ppl pbh anu abi ale bnu bbi ble cnu cbi cle dnu dbi dle c7_0 mkp mwa c7_1 mta mbo mso mce mik mtd mtk mbg maa mvl mbd) ∧ (¬ (r6 = r7) → False)))) ∧ (¬ ((xs ((x3 + 1).toNatClampNeg)) = 3) → wp_X9_lays fd lsk anu abi ale (xs ((x3 + 1).toNatClampNeg)) (fun r4 c4_0 c4_1 => wp_X10_lays mm mfo mbo mso mce (xs ((x3 + 1).toNatClampNeg)) (fun r5 c5_0 c5_1 => (r4 = r5 → RR c4_0 ik tsk tze tma tki tdn twi tdu the tyr tsz c4_1 lze lma lki ldn lwi ldu lhe lyr lsz ksk kze kma kki kdn kwi kdu khe kyr ksz pbb pln pso ppl pbh anu abi ale bnu bbi ble cnu cbi cle dnu dbi dle c5_0 mkp mwa c5_1 mta mbo mso mce mik mtd mtk mbg maa mvl mbd) ∧ (¬ (r4 = r5) → False)))))) := by
    refine ⟨fun w1 => ?_, fun w1 => ?_⟩
    · exact sim_lays h1 h2 (by decide) s1 _ (hjk w1 (by decide)) (fun _ _ _ _ _ g1 g2 => ⟨fun _ => ⟨g1, g2, h3, h4, s0, s1, s2, s3⟩, fun z => absurd rfl z⟩)
    · refine ⟨fun w2 => ?_, fun w2 => ?_⟩
      · exact sim_lays h1 h2 (by decide) s2 _ (hjk w2 (by decide)) (fun _ _ _ _ _ g1 g2 => ⟨fun _ => ⟨g1, g2, h3, h4, s0, s1, s2, s3⟩, fun z => absurd rfl z⟩)
      · refine ⟨fun w3 => ?_, fun w3 => ?_⟩
        · exact sim_lays h1 h2 (by decide) s3 _ (hjk w3 (by decide)) (fun _ _ _ _ _ g1 g2 => ⟨fun _ => ⟨g1, g2, h3, h4, s0, s1, s2, s3⟩, fun z => absurd rfl z⟩)
        · exact sim_lays h1 h2 (by decide) s0 _ (hj0 w1 w2 w3) (fun _ _ _ _ _ g1 g2 => ⟨fun _ => ⟨g1, g2, h3, h4, s0, s1, s2, s3⟩, fun z => absurd rfl z⟩)
  refine j_aload_n C 1 dL_law_1144 rfl ?_
  refine j_aload_n C 0 dL_law_1145 rfl ?_
  refine j_iload_n C 3 dL_law_1146 rfl ?_
  refine j_iconst C 1 dL_law_1147 (by decide) ?_
  refine j_iadd C dL_law_1148 ?_
  refine j_sld C hX dL_law_1149 hi1 ?_
  by_cases w1 : (xs ((x3 + 1).toNatClampNeg)) = 1
  · replace hw := hw.1 w1
    refine j_ciP C hB [0, 1, 18, 19, 20, 21, 22, 23, 24, 25, 26, 38, 41, 42] [2, 3, 4, 5, 6, 7, 8, 9, 10, 11, 12, 13, 14, 15, 16, 17, 27, 28, 29, 30, 31, 32, 33, 34, 35, 36, 37, 39, 40, 43, 44, 45, 46, 47, 48, 49, 50, 51, 52, 53, 54, 55] [42, 43, 0, 1, 2, 3, 4, 5, 6, 7, 8, 9, 10, 11, 12, 13, 14, 15, 44, 45, 46, 47, 48, 49, 50, 51, 52, 16, 17, 18, 19, 20, 21, 22, 23, 24, 25, 26, 53, 27, 28, 54, 55, 29, 30, 31, 32, 33, 34, 35, 36, 37, 38, 39, 40, 41] (fun u10 : (Nat → Int32) × (Nat → Int32) => ((wD ca (aF 2) u10.1) ++ ((wF (aF 0) (aL 0) (aT 0) (aK 0) (tp 0) (aF 1) (aF 2) ik) ++ ((wN ca nd sd) ++ ((wC ca aT (nd 0) tsk tze tma tki tdn twi tdu the tyr tsz) ++ ((wC ca aL (nd 0) u10.2 lze lma lki ldn lwi ldu lhe lyr lsz) ++ ((wC ca aK (nd 0) ksk kze kma kki kdn kwi kdu khe kyr ksz) ++ ((wT ca tp (nd 0) pbb pln pso ppl pbh) ++ ((wA ca (aF 1) sb) ++ ((wS ca (sb 0) (sn 0) anu abi ale) ++ ((wS ca (sb 1) (sn 1) bnu bbi ble) ++ ((wS ca (sb 2) (sn 2) cnu cbi cle) ++ ((wS ca (sb 3) (sn 3) dnu dbi dle) ++ (wM ca am mm mkp mwa mfo mta mbo mso mce mik mtd mtk mbg maa mvl mbd)))))))))))))) ((wN ca nd sd) ++ ((wC ca aT (nd 0) tsk tze tma tki tdn twi tdu the tyr tsz) ++ ((wC ca aK (nd 0) ksk kze kma kki kdn kwi kdu khe kyr ksz) ++ ((wT ca tp (nd 0) pbb pln pso ppl pbh) ++ ((wS ca (sb 0) (sn 0) anu abi ale) ++ ((wS ca (sb 2) (sn 2) cnu cbi cle) ++ ((wS ca (sb 3) (sn 3) dnu dbi dle) ++ (wM ca am mm mkp mwa mfo mta mbo mso mce mik mtd mtk mbg maa mvl mbd)))))))) rfl rfl rfl (by decide) rfl (fun _ => rfl) (jr_V C lkV_L_137 (c_X9_lays aF aL aT aK nd tp sb sn 1 fd ik lsk lze lma lki ldn lwi ldu lhe lyr lsz bnu bbi ble (xs ((x3 + 1).toNatClampNeg)) (hjk w1 (by decide)) hw) ⟨rfl, rfl, by decide, by decide, hcs.1, hcs.2⟩ [0, 1, 18, 19, 20, 21, 22, 23, 24, 25, 26, 38, 41, 42] rfl rfl (fx_rw C hB [0, 1, 18, 19, 20, 21, 22, 23, 24, 25, 26, 38, 41, 42] rfl) 1 9 rfl rfl rfl rfl (Nat.le_of_ble_eq_true rfl) dL_law_1150) (fun r10 u10 hw => ?_)
    refine j_aload_n C 2 dL_law_1153 rfl ?_
    refine j_aload_n C 0 dL_law_1154 rfl ?_
    refine j_iload_n C 3 dL_law_1155 rfl ?_
    refine j_iconst C 1 dL_law_1156 (by decide) ?_
    refine j_iadd C dL_law_1157 ?_
    refine j_sld C hX dL_law_1158 hi1 ?_
    refine j_ciT C hB 47 56 (fun u11 : (Nat → Int32) × (Nat → Int32) => ((wD ca (aF 2) u10.1) ++ ((wF (aF 0) (aL 0) (aT 0) (aK 0) (tp 0) (aF 1) (aF 2) ik) ++ ((wN ca nd sd) ++ ((wC ca aT (nd 0) tsk tze tma tki tdn twi tdu the tyr tsz) ++ ((wC ca aL (nd 0) u10.2 lze lma lki ldn lwi ldu lhe lyr lsz) ++ ((wC ca aK (nd 0) ksk kze kma kki kdn kwi kdu khe kyr ksz) ++ ((wT ca tp (nd 0) pbb pln pso ppl pbh) ++ ((wA ca (aF 1) sb) ++ ((wS ca (sb 0) (sn 0) anu abi ale) ++ ((wS ca (sb 1) (sn 1) bnu bbi ble) ++ ((wS ca (sb 2) (sn 2) cnu cbi cle) ++ ((wS ca (sb 3) (sn 3) dnu dbi dle) ++ (wM ca am u11.1 mkp mwa u11.2 mta mbo mso mce mik mtd mtk mbg maa mvl mbd)))))))))))))) rfl (fun _ => rfl) (jr_V C lkV_L_140 (c_X10_lays am mm mkp mwa mfo mta mbo mso mce mik mtd mtk mbg maa mvl mbd (xs ((x3 + 1).toNatClampNeg)) hw) ⟨rfl, rfl, by decide, by decide, hcs.1, hcs.2⟩ [47, 48, 49, 50, 51, 52, 53, 54, 55] (by decide) rfl (fx_rw C hB [47, 48, 49, 50, 51, 52, 53, 54, 55] rfl) 47 10 rfl rfl rfl rfl (Nat.le_of_ble_eq_true rfl) dL_law_1159) (fun r11 u11 hw => ?_)
    refine j_icmp_eq C 1328 dL_law_1162 (by decide) (fun z => ?_) (fun z => ?_)
    · replace hw := hw.1 z
      exact hK u10.1 ik tsk tze tma tki tdn twi tdu the tyr tsz u10.2 lze lma lki ldn lwi ldu lhe lyr lsz ksk kze kma kki kdn kwi kdu khe kyr ksz pbb pln pso ppl pbh anu abi ale bnu bbi ble cnu cbi cle dnu dbi dle u11.1 mkp mwa u11.2 mta mbo mso mce mik mtd mtk mbg maa mvl mbd hw
    · replace hw := hw.2 z
      refine j_iconst C 0 dL_law_1165 (by decide) ?_
      exact hw.elim
  · replace hw := hw.2 w1
    by_cases w2 : (xs ((x3 + 1).toNatClampNeg)) = 2
    · replace hw := hw.1 w2
      refine j_ciP C hB [0, 1, 18, 19, 20, 21, 22, 23, 24, 25, 26, 38, 43, 44] [2, 3, 4, 5, 6, 7, 8, 9, 10, 11, 12, 13, 14, 15, 16, 17, 27, 28, 29, 30, 31, 32, 33, 34, 35, 36, 37, 39, 40, 41, 42, 45, 46, 47, 48, 49, 50, 51, 52, 53, 54, 55] [42, 43, 0, 1, 2, 3, 4, 5, 6, 7, 8, 9, 10, 11, 12, 13, 14, 15, 44, 45, 46, 47, 48, 49, 50, 51, 52, 16, 17, 18, 19, 20, 21, 22, 23, 24, 25, 26, 53, 27, 28, 29, 30, 54, 55, 31, 32, 33, 34, 35, 36, 37, 38, 39, 40, 41] (fun u8 : (Nat → Int32) × (Nat → Int32) => ((wD ca (aF 2) u8.1) ++ ((wF (aF 0) (aL 0) (aT 0) (aK 0) (tp 0) (aF 1) (aF 2) ik) ++ ((wN ca nd sd) ++ ((wC ca aT (nd 0) tsk tze tma tki tdn twi tdu the tyr tsz) ++ ((wC ca aL (nd 0) u8.2 lze lma lki ldn lwi ldu lhe lyr lsz) ++ ((wC ca aK (nd 0) ksk kze kma kki kdn kwi kdu khe kyr ksz) ++ ((wT ca tp (nd 0) pbb pln pso ppl pbh) ++ ((wA ca (aF 1) sb) ++ ((wS ca (sb 0) (sn 0) anu abi ale) ++ ((wS ca (sb 1) (sn 1) bnu bbi ble) ++ ((wS ca (sb 2) (sn 2) cnu cbi cle) ++ ((wS ca (sb 3) (sn 3) dnu dbi dle) ++ (wM ca am mm mkp mwa mfo mta mbo mso mce mik mtd mtk mbg maa mvl mbd)))))))))))))) ((wN ca nd sd) ++ ((wC ca aT (nd 0) tsk tze tma tki tdn twi tdu the tyr tsz) ++ ((wC ca aK (nd 0) ksk kze kma kki kdn kwi kdu khe kyr ksz) ++ ((wT ca tp (nd 0) pbb pln pso ppl pbh) ++ ((wS ca (sb 0) (sn 0) anu abi ale) ++ ((wS ca (sb 1) (sn 1) bnu bbi ble) ++ ((wS ca (sb 3) (sn 3) dnu dbi dle) ++ (wM ca am mm mkp mwa mfo mta mbo mso mce mik mtd mtk mbg maa mvl mbd)))))))) rfl rfl rfl (by decide) rfl (fun _ => rfl) (jr_V C lkV_L_137 (c_X9_lays aF aL aT aK nd tp sb sn 2 fd ik lsk lze lma lki ldn lwi ldu lhe lyr lsz cnu cbi cle (xs ((x3 + 1).toNatClampNeg)) (hjk w2 (by decide)) hw) ⟨rfl, rfl, by decide, by decide, hcs.1, hcs.2⟩ [0, 1, 18, 19, 20, 21, 22, 23, 24, 25, 26, 38, 43, 44] rfl rfl (fx_rw C hB [0, 1, 18, 19, 20, 21, 22, 23, 24, 25, 26, 38, 43, 44] rfl) 1 9 rfl rfl rfl rfl (Nat.le_of_ble_eq_true rfl) dL_law_1150) (fun r8 u8 hw => ?_)
      refine j_aload_n C 2 dL_law_1153 rfl ?_
      refine j_aload_n C 0 dL_law_1154 rfl ?_
      refine j_iload_n C 3 dL_law_1155 rfl ?_
      refine j_iconst C 1 dL_law_1156 (by decide) ?_
      refine j_iadd C dL_law_1157 ?_
      refine j_sld C hX dL_law_1158 hi1 ?_
      refine j_ciT C hB 47 56 (fun u9 : (Nat → Int32) × (Nat → Int32) => ((wD ca (aF 2) u8.1) ++ ((wF (aF 0) (aL 0) (aT 0) (aK 0) (tp 0) (aF 1) (aF 2) ik) ++ ((wN ca nd sd) ++ ((wC ca aT (nd 0) tsk tze tma tki tdn twi tdu the tyr tsz) ++ ((wC ca aL (nd 0) u8.2 lze lma lki ldn lwi ldu lhe lyr lsz) ++ ((wC ca aK (nd 0) ksk kze kma kki kdn kwi kdu khe kyr ksz) ++ ((wT ca tp (nd 0) pbb pln pso ppl pbh) ++ ((wA ca (aF 1) sb) ++ ((wS ca (sb 0) (sn 0) anu abi ale) ++ ((wS ca (sb 1) (sn 1) bnu bbi ble) ++ ((wS ca (sb 2) (sn 2) cnu cbi cle) ++ ((wS ca (sb 3) (sn 3) dnu dbi dle) ++ (wM ca am u9.1 mkp mwa u9.2 mta mbo mso mce mik mtd mtk mbg maa mvl mbd)))))))))))))) rfl (fun _ => rfl) (jr_V C lkV_L_140 (c_X10_lays am mm mkp mwa mfo mta mbo mso mce mik mtd mtk mbg maa mvl mbd (xs ((x3 + 1).toNatClampNeg)) hw) ⟨rfl, rfl, by decide, by decide, hcs.1, hcs.2⟩ [47, 48, 49, 50, 51, 52, 53, 54, 55] (by decide) rfl (fx_rw C hB [47, 48, 49, 50, 51, 52, 53, 54, 55] rfl) 47 10 rfl rfl rfl rfl (Nat.le_of_ble_eq_true rfl) dL_law_1159) (fun r9 u9 hw => ?_)
      refine j_icmp_eq C 1328 dL_law_1162 (by decide) (fun z => ?_) (fun z => ?_)
      · replace hw := hw.1 z
        exact hK u8.1 ik tsk tze tma tki tdn twi tdu the tyr tsz u8.2 lze lma lki ldn lwi ldu lhe lyr lsz ksk kze kma kki kdn kwi kdu khe kyr ksz pbb pln pso ppl pbh anu abi ale bnu bbi ble cnu cbi cle dnu dbi dle u9.1 mkp mwa u9.2 mta mbo mso mce mik mtd mtk mbg maa mvl mbd hw
      · replace hw := hw.2 z
        refine j_iconst C 0 dL_law_1165 (by decide) ?_
        exact hw.elim
    · replace hw := hw.2 w2
      by_cases w3 : (xs ((x3 + 1).toNatClampNeg)) = 3
      · replace hw := hw.1 w3
        refine j_ciP C hB [0, 1, 18, 19, 20, 21, 22, 23, 24, 25, 26, 38, 45, 46] [2, 3, 4, 5, 6, 7, 8, 9, 10, 11, 12, 13, 14, 15, 16, 17, 27, 28, 29, 30, 31, 32, 33, 34, 35, 36, 37, 39, 40, 41, 42, 43, 44, 47, 48, 49, 50, 51, 52, 53, 54, 55] [42, 43, 0, 1, 2, 3, 4, 5, 6, 7, 8, 9, 10, 11, 12, 13, 14, 15, 44, 45, 46, 47, 48, 49, 50, 51, 52, 16, 17, 18, 19, 20, 21, 22, 23, 24, 25, 26, 53, 27, 28, 29, 30, 31, 32, 54, 55, 33, 34, 35, 36, 37, 38, 39, 40, 41] (fun u6 : (Nat → Int32) × (Nat → Int32) => ((wD ca (aF 2) u6.1) ++ ((wF (aF 0) (aL 0) (aT 0) (aK 0) (tp 0) (aF 1) (aF 2) ik) ++ ((wN ca nd sd) ++ ((wC ca aT (nd 0) tsk tze tma tki tdn twi tdu the tyr tsz) ++ ((wC ca aL (nd 0) u6.2 lze lma lki ldn lwi ldu lhe lyr lsz) ++ ((wC ca aK (nd 0) ksk kze kma kki kdn kwi kdu khe kyr ksz) ++ ((wT ca tp (nd 0) pbb pln pso ppl pbh) ++ ((wA ca (aF 1) sb) ++ ((wS ca (sb 0) (sn 0) anu abi ale) ++ ((wS ca (sb 1) (sn 1) bnu bbi ble) ++ ((wS ca (sb 2) (sn 2) cnu cbi cle) ++ ((wS ca (sb 3) (sn 3) dnu dbi dle) ++ (wM ca am mm mkp mwa mfo mta mbo mso mce mik mtd mtk mbg maa mvl mbd)))))))))))))) ((wN ca nd sd) ++ ((wC ca aT (nd 0) tsk tze tma tki tdn twi tdu the tyr tsz) ++ ((wC ca aK (nd 0) ksk kze kma kki kdn kwi kdu khe kyr ksz) ++ ((wT ca tp (nd 0) pbb pln pso ppl pbh) ++ ((wS ca (sb 0) (sn 0) anu abi ale) ++ ((wS ca (sb 1) (sn 1) bnu bbi ble) ++ ((wS ca (sb 2) (sn 2) cnu cbi cle) ++ (wM ca am mm mkp mwa mfo mta mbo mso mce mik mtd mtk mbg maa mvl mbd)))))))) rfl rfl rfl (by decide) rfl (fun _ => rfl) (jr_V C lkV_L_137 (c_X9_lays aF aL aT aK nd tp sb sn 3 fd ik lsk lze lma lki ldn lwi ldu lhe lyr lsz dnu dbi dle (xs ((x3 + 1).toNatClampNeg)) (hjk w3 (by decide)) hw) ⟨rfl, rfl, by decide, by decide, hcs.1, hcs.2⟩ [0, 1, 18, 19, 20, 21, 22, 23, 24, 25, 26, 38, 45, 46] rfl rfl (fx_rw C hB [0, 1, 18, 19, 20, 21, 22, 23, 24, 25, 26, 38, 45, 46] rfl) 1 9 rfl rfl rfl rfl (Nat.le_of_ble_eq_true rfl) dL_law_1150) (fun r6 u6 hw => ?_)
        refine j_aload_n C 2 dL_law_1153 rfl ?_
        refine j_aload_n C 0 dL_law_1154 rfl ?_
        refine j_iload_n C 3 dL_law_1155 rfl ?_
        refine j_iconst C 1 dL_law_1156 (by decide) ?_
        refine j_iadd C dL_law_1157 ?_
        refine j_sld C hX dL_law_1158 hi1 ?_
        refine j_ciT C hB 47 56 (fun u7 : (Nat → Int32) × (Nat → Int32) => ((wD ca (aF 2) u6.1) ++ ((wF (aF 0) (aL 0) (aT 0) (aK 0) (tp 0) (aF 1) (aF 2) ik) ++ ((wN ca nd sd) ++ ((wC ca aT (nd 0) tsk tze tma tki tdn twi tdu the tyr tsz) ++ ((wC ca aL (nd 0) u6.2 lze lma lki ldn lwi ldu lhe lyr lsz) ++ ((wC ca aK (nd 0) ksk kze kma kki kdn kwi kdu khe kyr ksz) ++ ((wT ca tp (nd 0) pbb pln pso ppl pbh) ++ ((wA ca (aF 1) sb) ++ ((wS ca (sb 0) (sn 0) anu abi ale) ++ ((wS ca (sb 1) (sn 1) bnu bbi ble) ++ ((wS ca (sb 2) (sn 2) cnu cbi cle) ++ ((wS ca (sb 3) (sn 3) dnu dbi dle) ++ (wM ca am u7.1 mkp mwa u7.2 mta mbo mso mce mik mtd mtk mbg maa mvl mbd)))))))))))))) rfl (fun _ => rfl) (jr_V C lkV_L_140 (c_X10_lays am mm mkp mwa mfo mta mbo mso mce mik mtd mtk mbg maa mvl mbd (xs ((x3 + 1).toNatClampNeg)) hw) ⟨rfl, rfl, by decide, by decide, hcs.1, hcs.2⟩ [47, 48, 49, 50, 51, 52, 53, 54, 55] (by decide) rfl (fx_rw C hB [47, 48, 49, 50, 51, 52, 53, 54, 55] rfl) 47 10 rfl rfl rfl rfl (Nat.le_of_ble_eq_true rfl) dL_law_1159) (fun r7 u7 hw => ?_)
        refine j_icmp_eq C 1328 dL_law_1162 (by decide) (fun z => ?_) (fun z => ?_)
        · replace hw := hw.1 z
          exact hK u6.1 ik tsk tze tma tki tdn twi tdu the tyr tsz u6.2 lze lma lki ldn lwi ldu lhe lyr lsz ksk kze kma kki kdn kwi kdu khe kyr ksz pbb pln pso ppl pbh anu abi ale bnu bbi ble cnu cbi cle dnu dbi dle u7.1 mkp mwa u7.2 mta mbo mso mce mik mtd mtk mbg maa mvl mbd hw
        · replace hw := hw.2 z
          refine j_iconst C 0 dL_law_1165 (by decide) ?_
          exact hw.elim
      · replace hw := hw.2 w3
        refine j_ciP C hB [0, 1, 18, 19, 20, 21, 22, 23, 24, 25, 26, 38, 39, 40] [2, 3, 4, 5, 6, 7, 8, 9, 10, 11, 12, 13, 14, 15, 16, 17, 27, 28, 29, 30, 31, 32, 33, 34, 35, 36, 37, 41, 42, 43, 44, 45, 46, 47, 48, 49, 50, 51, 52, 53, 54, 55] [42, 43, 0, 1, 2, 3, 4, 5, 6, 7, 8, 9, 10, 11, 12, 13, 14, 15, 44, 45, 46, 47, 48, 49, 50, 51, 52, 16, 17, 18, 19, 20, 21, 22, 23, 24, 25, 26, 53, 54, 55, 27, 28, 29, 30, 31, 32, 33, 34, 35, 36, 37, 38, 39, 40, 41] (fun u4 : (Nat → Int32) × (Nat → Int32) => ((wD ca (aF 2) u4.1) ++ ((wF (aF 0) (aL 0) (aT 0) (aK 0) (tp 0) (aF 1) (aF 2) ik) ++ ((wN ca nd sd) ++ ((wC ca aT (nd 0) tsk tze tma tki tdn twi tdu the tyr tsz) ++ ((wC ca aL (nd 0) u4.2 lze lma lki ldn lwi ldu lhe lyr lsz) ++ ((wC ca aK (nd 0) ksk kze kma kki kdn kwi kdu khe kyr ksz) ++ ((wT ca tp (nd 0) pbb pln pso ppl pbh) ++ ((wA ca (aF 1) sb) ++ ((wS ca (sb 0) (sn 0) anu abi ale) ++ ((wS ca (sb 1) (sn 1) bnu bbi ble) ++ ((wS ca (sb 2) (sn 2) cnu cbi cle) ++ ((wS ca (sb 3) (sn 3) dnu dbi dle) ++ (wM ca am mm mkp mwa mfo mta mbo mso mce mik mtd mtk mbg maa mvl mbd)))))))))))))) ((wN ca nd sd) ++ ((wC ca aT (nd 0) tsk tze tma tki tdn twi tdu the tyr tsz) ++ ((wC ca aK (nd 0) ksk kze kma kki kdn kwi kdu khe kyr ksz) ++ ((wT ca tp (nd 0) pbb pln pso ppl pbh) ++ ((wS ca (sb 1) (sn 1) bnu bbi ble) ++ ((wS ca (sb 2) (sn 2) cnu cbi cle) ++ ((wS ca (sb 3) (sn 3) dnu dbi dle) ++ (wM ca am mm mkp mwa mfo mta mbo mso mce mik mtd mtk mbg maa mvl mbd)))))))) rfl rfl rfl (by decide) rfl (fun _ => rfl) (jr_V C lkV_L_137 (c_X9_lays aF aL aT aK nd tp sb sn 0 fd ik lsk lze lma lki ldn lwi ldu lhe lyr lsz anu abi ale (xs ((x3 + 1).toNatClampNeg)) (hj0 w1 w2 w3) hw) ⟨rfl, rfl, by decide, by decide, hcs.1, hcs.2⟩ [0, 1, 18, 19, 20, 21, 22, 23, 24, 25, 26, 38, 39, 40] rfl rfl (fx_rw C hB [0, 1, 18, 19, 20, 21, 22, 23, 24, 25, 26, 38, 39, 40] rfl) 1 9 rfl rfl rfl rfl (Nat.le_of_ble_eq_true rfl) dL_law_1150) (fun r4 u4 hw => ?_)
        refine j_aload_n C 2 dL_law_1153 rfl ?_
        refine j_aload_n C 0 dL_law_1154 rfl ?_
        refine j_iload_n C 3 dL_law_1155 rfl ?_
        refine j_iconst C 1 dL_law_1156 (by decide) ?_
        refine j_iadd C dL_law_1157 ?_
        refine j_sld C hX dL_law_1158 hi1 ?_
        refine j_ciT C hB 47 56 (fun u5 : (Nat → Int32) × (Nat → Int32) => ((wD ca (aF 2) u4.1) ++ ((wF (aF 0) (aL 0) (aT 0) (aK 0) (tp 0) (aF 1) (aF 2) ik) ++ ((wN ca nd sd) ++ ((wC ca aT (nd 0) tsk tze tma tki tdn twi tdu the tyr tsz) ++ ((wC ca aL (nd 0) u4.2 lze lma lki ldn lwi ldu lhe lyr lsz) ++ ((wC ca aK (nd 0) ksk kze kma kki kdn kwi kdu khe kyr ksz) ++ ((wT ca tp (nd 0) pbb pln pso ppl pbh) ++ ((wA ca (aF 1) sb) ++ ((wS ca (sb 0) (sn 0) anu abi ale) ++ ((wS ca (sb 1) (sn 1) bnu bbi ble) ++ ((wS ca (sb 2) (sn 2) cnu cbi cle) ++ ((wS ca (sb 3) (sn 3) dnu dbi dle) ++ (wM ca am u5.1 mkp mwa u5.2 mta mbo mso mce mik mtd mtk mbg maa mvl mbd)))))))))))))) rfl (fun _ => rfl) (jr_V C lkV_L_140 (c_X10_lays am mm mkp mwa mfo mta mbo mso mce mik mtd mtk mbg maa mvl mbd (xs ((x3 + 1).toNatClampNeg)) hw) ⟨rfl, rfl, by decide, by decide, hcs.1, hcs.2⟩ [47, 48, 49, 50, 51, 52, 53, 54, 55] (by decide) rfl (fx_rw C hB [47, 48, 49, 50, 51, 52, 53, 54, 55] rfl) 47 10 rfl rfl rfl rfl (Nat.le_of_ble_eq_true rfl) dL_law_1159) (fun r5 u5 hw => ?_)
        refine j_icmp_eq C 1328 dL_law_1162 (by decide) (fun z => ?_) (fun z => ?_)
        · replace hw := hw.1 z
          exact hK u4.1 ik tsk tze tma tki tdn twi tdu the tyr tsz u4.2 lze lma lki ldn lwi ldu lhe lyr lsz ksk kze kma kki kdn kwi kdu khe kyr ksz pbb pln pso ppl pbh anu abi ale bnu bbi ble cnu cbi cle dnu dbi dle u5.1 mkp mwa u5.2 mta mbo mso mce mik mtd mtk mbg maa mvl mbd hw
        · replace hw := hw.2 z
          refine j_iconst C 0 dL_law_1165 (by decide) ?_
          exact hw.elim
