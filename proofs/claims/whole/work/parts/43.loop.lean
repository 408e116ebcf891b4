theorem lw_gt {L i : Nat} (hL : L ≤ 3072) (hi : i ≤ 4000) (h : L < i + 6) : Int32.ofNat L - 6 < nI i := by
  change nI L - nI 6 < nI i
  by_cases c : 6 ≤ L
  · rw [nsub c, clt (by omega) (by omega)]; omega
  · exact Int32.lt_of_lt_of_le (pk_sneg (by omega) (by omega)) (nI_pos' (by omega))
theorem lw_le {L i : Nat} (hL : L ≤ 3072) (h : ¬ L < i + 6) : ¬ Int32.ofNat L - 6 < nI i := by
  change ¬ nI L - nI 6 < nI i
  rw [nsub (by omega), clt (by omega) (by omega)]; omega
set_option maxRecDepth 100000 in
set_option maxHeartbeats 8000000 in
theorem lw_loop {l : Launch} {D : va_G} {ca : Nat → ClassId} {sd : Nat → Nat} {k : Kx} (aF aL aT aK nd tp sb sn am : Nat → Nat) (b L : Nat) (hL : L ≤ 3072) (xs : Nat → Int32) {cs sl : Nat} (C : Cx D ca sd cL_law RL (some .boolean) room_1 k 4) (hB : Wx k) (hX : Sx b L xs k) (hcs : cs + 0 ≤ room_1.cells ∧ sl + 0 ≤ room_1.slots) (hE : ∀ (x3 : Int32) (fd : Nat → Int32) (ik : Int32) (tsk : Nat → Int32) (tze : Nat → Int32) (tma : Nat → Int32) (tki : Nat → Int32) (tdn : Nat → Int32) (twi : Nat → Int32) (tdu : Nat → Int32) (the : Nat → Int32) (tyr : Int32) (tsz : Int32) (lsk : Nat → Int32) (lze : Nat → Int32) (lma : Nat → Int32) (lki : Nat → Int32) (ldn : Nat → Int32) (lwi : Nat → Int32) (ldu : Nat → Int32) (lhe : Nat → Int32) (lyr : Int32) (lsz : Int32) (ksk : Nat → Int32) (kze : Nat → Int32) (kma : Nat → Int32) (kki : Nat → Int32) (kdn : Nat → Int32) (kwi : Nat → Int32) (kdu : Nat → Int32) (khe : Nat → Int32) (kyr : Int32) (ksz : Int32) (pbb : Nat → Int32) (pln : Int32) (pso : Int32) (ppl : Int32) (pbh : Int32) (anu : Nat → Int64) (abi : Int32) (ale : Int32) (bnu : Nat → Int64) (bbi : Int32) (ble : Int32) (cnu : Nat → Int64) (cbi : Int32) (cle : Int32) (dnu : Nat → Int64) (dbi : Int32) (dle : Int32) (mm : Nat → Int32) (mkp : Nat → Int32) (mwa : Nat → Int32) (mfo : Nat → Int32) (mta : Nat → Int32) (mbo : Nat → Int32) (mso : Nat → Int32) (mce : Nat → Int64) (mik : Int32) (mtd : Int32) (mtk : Int32) (mbg : Int32) (maa : Int32) (mvl : Int32) (mbd : Int32), J l D k 4 cs sl 1334 ((wD ca (aF 2) fd) ++ ((wF (aF 0) (aL 0) (aT 0) (aK 0) (tp 0) (aF 1) (aF 2) ik) ++ ((wN ca nd sd) ++ ((wC ca aT (nd 0) tsk tze tma tki tdn twi tdu the tyr tsz) ++ ((wC ca aL (nd 0) lsk lze lma lki ldn lwi ldu lhe lyr lsz) ++ ((wC ca aK (nd 0) ksk kze kma kki kdn kwi kdu khe kyr ksz) ++ ((wT ca tp (nd 0) pbb pln pso ppl pbh) ++ ((wA ca (aF 1) sb) ++ ((wS ca (sb 0) (sn 0) anu abi ale) ++ ((wS ca (sb 1) (sn 1) bnu bbi ble) ++ ((wS ca (sb 2) (sn 2) cnu cbi cle) ++ ((wS ca (sb 3) (sn 3) dnu dbi dle) ++ (wM ca am mm mkp mwa mfo mta mbo mso mce mik mtd mtk mbg maa mvl mbd))))))))))))) [(0, .ref b), (1, .ref (aF 0)), (2, .ref (am 0)), (3, .int x3)] []) : ∀ (r i : Nat) (fd : Nat → Int32) (ik : Int32) (tsk : Nat → Int32) (tze : Nat → Int32) (tma : Nat → Int32) (tki : Nat → Int32) (tdn : Nat → Int32) (twi : Nat → Int32) (tdu : Nat → Int32) (the : Nat → Int32) (tyr : Int32) (tsz : Int32) (lsk : Nat → Int32) (lze : Nat → Int32) (lma : Nat → Int32) (lki : Nat → Int32) (ldn : Nat → Int32) (lwi : Nat → Int32) (ldu : Nat → Int32) (lhe : Nat → Int32) (lyr : Int32) (lsz : Int32) (ksk : Nat → Int32) (kze : Nat → Int32) (kma : Nat → Int32) (kki : Nat → Int32) (kdn : Nat → Int32) (kwi : Nat → Int32) (kdu : Nat → Int32) (khe : Nat → Int32) (kyr : Int32) (ksz : Int32) (pbb : Nat → Int32) (pln : Int32) (pso : Int32) (ppl : Int32) (pbh : Int32) (anu : Nat → Int64) (abi : Int32) (ale : Int32) (bnu : Nat → Int64) (bbi : Int32) (ble : Int32) (cnu : Nat → Int64) (cbi : Int32) (cle : Int32) (dnu : Nat → Int64) (dbi : Int32) (dle : Int32) (mm : Nat → Int32) (mkp : Nat → Int32) (mwa : Nat → Int32) (mfo : Nat → Int32) (mta : Nat → Int32) (mbo : Nat → Int32) (mso : Nat → Int32) (mce : Nat → Int64) (mik : Int32) (mtd : Int32) (mtk : Int32) (mbg : Int32) (maa : Int32) (mvl : Int32) (mbd : Int32), L ≤ i + r → i ≤ 4000 → RR fd ik tsk tze tma tki tdn twi tdu the tyr tsz lsk lze lma lki ldn lwi ldu lhe lyr lsz ksk kze kma kki kdn kwi kdu khe kyr ksz pbb pln pso ppl pbh anu abi ale bnu bbi ble cnu cbi cle dnu dbi dle mm mkp mwa mfo mta mbo mso mce mik mtd mtk mbg maa mvl mbd → J l D k 4 cs sl 18 ((wD ca (aF 2) fd) ++ ((wF (aF 0) (aL 0) (aT 0) (aK 0) (tp 0) (aF 1) (aF 2) ik) ++ ((wN ca nd sd) ++ ((wC ca aT (nd 0) tsk tze tma tki tdn twi tdu the tyr tsz) ++ ((wC ca aL (nd 0) lsk lze lma lki ldn lwi ldu lhe lyr lsz) ++ ((wC ca aK (nd 0) ksk kze kma kki kdn kwi kdu khe kyr ksz) ++ ((wT ca tp (nd 0) pbb pln pso ppl pbh) ++ ((wA ca (aF 1) sb) ++ ((wS ca (sb 0) (sn 0) anu abi ale) ++ ((wS ca (sb 1) (sn 1) bnu bbi ble) ++ ((wS ca (sb 2) (sn 2) cnu cbi cle) ++ ((wS ca (sb 3) (sn 3) dnu dbi dle) ++ (wM ca am mm mkp mwa mfo mta mbo mso mce mik mtd mtk mbg maa mvl mbd))))))))))))) [(0, .ref b), (1, .ref (aF 0)), (2, .ref (am 0)), (3, .int (nI i))] [] := by
  intro r
  induction r with
  | zero =>
    intro i fd ik tsk tze tma tki tdn twi tdu the tyr tsz lsk lze lma lki ldn lwi ldu lhe lyr lsz ksk kze kma kki kdn kwi kdu khe kyr ksz pbb pln pso ppl pbh anu abi ale bnu bbi ble cnu cbi cle dnu dbi dle mm mkp mwa mfo mta mbo mso mce mik mtd mtk mbg maa mvl mbd hi h4 hR
    refine j_iload_n C 3 dL_law_18 rfl ?_
    refine j_aload_n C 0 dL_law_19 rfl ?_
    refine j_scl C hX dL_law_20 ?_
    refine j_bipush C 6 dL_law_21 (by decide) ?_
    refine j_isub C dL_law_23 ?_
    exact j_icmp_gt C 1334 dL_law_24 (by decide) (fun _ => hE _ fd ik tsk tze tma tki tdn twi tdu the tyr tsz lsk lze lma lki ldn lwi ldu lhe lyr lsz ksk kze kma kki kdn kwi kdu khe kyr ksz pbb pln pso ppl pbh anu abi ale bnu bbi ble cnu cbi cle dnu dbi dle mm mkp mwa mfo mta mbo mso mce mik mtd mtk mbg maa mvl mbd) (fun z => absurd (lw_gt (by omega) (by omega) (by omega)) z)
  | succ r ih =>
    intro i fd ik tsk tze tma tki tdn twi tdu the tyr tsz lsk lze lma lki ldn lwi ldu lhe lyr lsz ksk kze kma kki kdn kwi kdu khe kyr ksz pbb pln pso ppl pbh anu abi ale bnu bbi ble cnu cbi cle dnu dbi dle mm mkp mwa mfo mta mbo mso mce mik mtd mtk mbg maa mvl mbd hi h4 hR
    refine j_iload_n C 3 dL_law_18 rfl ?_
    refine j_aload_n C 0 dL_law_19 rfl ?_
    refine j_scl C hX dL_law_20 ?_
    refine j_bipush C 6 dL_law_21 (by decide) ?_
    refine j_isub C dL_law_23 ?_
    by_cases hc : L < i + 6
    · exact j_icmp_gt C 1334 dL_law_24 (by decide) (fun _ => hE _ fd ik tsk tze tma tki tdn twi tdu the tyr tsz lsk lze lma lki ldn lwi ldu lhe lyr lsz ksk kze kma kki kdn kwi kdu khe kyr ksz pbb pln pso ppl pbh anu abi ale bnu bbi ble cnu cbi cle dnu dbi dle mm mkp mwa mfo mta mbo mso mce mik mtd mtk mbg maa mvl mbd) (fun z => absurd (lw_gt (by omega) (by omega) (by omega)) z)
    refine j_icmp_gt C 1334 dL_law_24 (by decide) (fun z => absurd z (lw_le (by omega) (by omega))) (fun _ => ?_)
    have hi0 : vp_in (nI i) L := vp_in_nI (by omega) (by omega)
    have hi1 : vp_in (nI i + 1) L := by
      rw [show nI i + 1 = nI (i + 1) from nadd i 1]
      exact vp_in_nI (by omega) (by omega)
    have hi2 : vp_in (nI i + 2) L := by
      rw [show nI i + 2 = nI (i + 2) from nadd i 2]
      exact vp_in_nI (by omega) (by omega)
    have hi3 : vp_in (nI i + 3) L := by
      rw [show nI i + 3 = nI (i + 3) from nadd i 3]
      exact vp_in_nI (by omega) (by omega)
    have hi4 : vp_in (nI i + 4) L := by
      rw [show nI i + 4 = nI (i + 4) from nadd i 4]
      exact vp_in_nI (by omega) (by omega)
    have hi5 : vp_in (nI i + 5) L := by
      rw [show nI i + 5 = nI (i + 5) from nadd i 5]
      exact vp_in_nI (by omega) (by omega)
    have hK : ∀ (fd' : Nat → Int32) (ik' : Int32) (tsk' : Nat → Int32) (tze' : Nat → Int32) (tma' : Nat → Int32) (tki' : Nat → Int32) (tdn' : Nat → Int32) (twi' : Nat → Int32) (tdu' : Nat → Int32) (the' : Nat → Int32) (tyr' : Int32) (tsz' : Int32) (lsk' : Nat → Int32) (lze' : Nat → Int32) (lma' : Nat → Int32) (lki' : Nat → Int32) (ldn' : Nat → Int32) (lwi' : Nat → Int32) (ldu' : Nat → Int32) (lhe' : Nat → Int32) (lyr' : Int32) (lsz' : Int32) (ksk' : Nat → Int32) (kze' : Nat → Int32) (kma' : Nat → Int32) (kki' : Nat → Int32) (kdn' : Nat → Int32) (kwi' : Nat → Int32) (kdu' : Nat → Int32) (khe' : Nat → Int32) (kyr' : Int32) (ksz' : Int32) (pbb' : Nat → Int32) (pln' : Int32) (pso' : Int32) (ppl' : Int32) (pbh' : Int32) (anu' : Nat → Int64) (abi' : Int32) (ale' : Int32) (bnu' : Nat → Int64) (bbi' : Int32) (ble' : Int32) (cnu' : Nat → Int64) (cbi' : Int32) (cle' : Int32) (dnu' : Nat → Int64) (dbi' : Int32) (dle' : Int32) (mm' : Nat → Int32) (mkp' : Nat → Int32) (mwa' : Nat → Int32) (mfo' : Nat → Int32) (mta' : Nat → Int32) (mbo' : Nat → Int32) (mso' : Nat → Int32) (mce' : Nat → Int64) (mik' : Int32) (mtd' : Int32) (mtk' : Int32) (mbg' : Int32) (maa' : Int32) (mvl' : Int32) (mbd' : Int32), RR fd' ik' tsk' tze' tma' tki' tdn' twi' tdu' the' tyr' tsz' lsk' lze' lma' lki' ldn' lwi' ldu' lhe' lyr' lsz' ksk' kze' kma' kki' kdn' kwi' kdu' khe' kyr' ksz' pbb' pln' pso' ppl' pbh' anu' abi' ale' bnu' bbi' ble' cnu' cbi' cle' dnu' dbi' dle' mm' mkp' mwa' mfo' mta' mbo' mso' mce' mik' mtd' mtk' mbg' maa' mvl' mbd' → J l D k 4 cs sl 1328 ((wD ca (aF 2) fd') ++ ((wF (aF 0) (aL 0) (aT 0) (aK 0) (tp 0) (aF 1) (aF 2) ik') ++ ((wN ca nd sd) ++ ((wC ca aT (nd 0) tsk' tze' tma' tki' tdn' twi' tdu' the' tyr' tsz') ++ ((wC ca aL (nd 0) lsk' lze' lma' lki' ldn' lwi' ldu' lhe' lyr' lsz') ++ ((wC ca aK (nd 0) ksk' kze' kma' kki' kdn' kwi' kdu' khe' kyr' ksz') ++ ((wT ca tp (nd 0) pbb' pln' pso' ppl' pbh') ++ ((wA ca (aF 1) sb) ++ ((wS ca (sb 0) (sn 0) anu' abi' ale') ++ ((wS ca (sb 1) (sn 1) bnu' bbi' ble') ++ ((wS ca (sb 2) (sn 2) cnu' cbi' cle') ++ ((wS ca (sb 3) (sn 3) dnu' dbi' dle') ++ (wM ca am mm' mkp' mwa' mfo' mta' mbo' mso' mce' mik' mtd' mtk' mbg' maa' mvl' mbd'))))))))))))) [(0, .ref b), (1, .ref (aF 0)), (2, .ref (am 0)), (3, .int (nI i))] [] := by
      intro fd' ik' tsk' tze' tma' tki' tdn' twi' tdu' the' tyr' tsz' lsk' lze' lma' lki' ldn' lwi' ldu' lhe' lyr' lsz' ksk' kze' kma' kki' kdn' kwi' kdu' khe' kyr' ksz' pbb' pln' pso' ppl' pbh' anu' abi' ale' bnu' bbi' ble' cnu' cbi' cle' dnu' dbi' dle' mm' mkp' mwa' mfo' mta' mbo' mso' mce' mik' mtd' mtk' mbg' maa' mvl' mbd' hR
      refine j_iinc C 3 (nI i + 6) [(3, .int (nI i + 6)), (0, .ref b), (1, .ref (aF 0)), (2, .ref (am 0))] dL_law_1328 rfl rfl (by decide) rfl ?_
      refine j_goto C 18 dL_law_1331 (by decide) ?_
      refine j_lsub [1, 2, 3, 0] [(0, .ref b), (1, .ref (aF 0)), (2, .ref (am 0)), (3, .int (nI i + 6))] rfl ?_
      rw [show nI i + 6 = nI (i + 6) from nadd i 6]
      exact ih (i + 6) fd' ik' tsk' tze' tma' tki' tdn' twi' tdu' the' tyr' tsz' lsk' lze' lma' lki' ldn' lwi' ldu' lhe' lyr' lsz' ksk' kze' kma' kki' kdn' kwi' kdu' khe' kyr' ksz' pbb' pln' pso' ppl' pbh' anu' abi' ale' bnu' bbi' ble' cnu' cbi' cle' dnu' dbi' dle' mm' mkp' mwa' mfo' mta' mbo' mso' mce' mik' mtd' mtk' mbg' maa' mvl' mbd' (by omega) (by omega) hR
    refine j_aload_n C 0 dL_law_27 rfl ?_
    refine j_iload_n C 3 dL_law_28 rfl ?_
    refine j_sld C hX dL_law_29 hi0 ?_
    refine j_bipush C 63 dL_law_30 (by decide) ?_
    refine j_iand C dL_law_32 ?_
    generalize xs (nI i).toNatClampNeg &&& 63 = v
    by_cases z0 : v = 0
    · refine j_tabIn (off := 163) C 0 196 dL_law_33 z0 (by decide) (by decide) (by decide) (by decide) ?_
      exact lw_case0 aF aL aT aK nd tp sb sn am b L xs (nI i) fd ik tsk tze tma tki tdn twi tdu the tyr tsz lsk lze lma lki ldn lwi ldu lhe lyr lsz ksk kze kma kki kdn kwi kdu khe kyr ksz pbb pln pso ppl pbh anu abi ale bnu bbi ble cnu cbi cle dnu dbi dle mm mkp mwa mfo mta mbo mso mce mik mtd mtk mbg maa mvl mbd C hB hX hcs hi1 hi2 hi3 hi4 hi5 hR hK
    by_cases z1 : v = 1
    · refine j_tabIn (off := 206) C 1 239 dL_law_33 z1 (by decide) (by decide) (by decide) (by decide) ?_
      exact lw_case1 aF aL aT aK nd tp sb sn am b L xs (nI i) fd ik tsk tze tma tki tdn twi tdu the tyr tsz lsk lze lma lki ldn lwi ldu lhe lyr lsz ksk kze kma kki kdn kwi kdu khe kyr ksz pbb pln pso ppl pbh anu abi ale bnu bbi ble cnu cbi cle dnu dbi dle mm mkp mwa mfo mta mbo mso mce mik mtd mtk mbg maa mvl mbd C hB hX hcs hi1 hi2 hi3 hi4 hi5 hR hK
    by_cases z2 : v = 2
    · refine j_tabIn (off := 239) C 2 272 dL_law_33 z2 (by decide) (by decide) (by decide) (by decide) ?_
      exact lw_case2 aF aL aT aK nd tp sb sn am b L xs (nI i) fd ik tsk tze tma tki tdn twi tdu the tyr tsz lsk lze lma lki ldn lwi ldu lhe lyr lsz ksk kze kma kki kdn kwi kdu khe kyr ksz pbb pln pso ppl pbh anu abi ale bnu bbi ble cnu cbi cle dnu dbi dle mm mkp mwa mfo mta mbo mso mce mik mtd mtk mbg maa mvl mbd C hB hX hcs hi1 hi2 hi3 hi4 hi5 hR hK
    by_cases z3 : v = 3
    · refine j_tabIn (off := 272) C 3 305 dL_law_33 z3 (by decide) (by decide) (by decide) (by decide) ?_
      exact lw_case3 aF aL aT aK nd tp sb sn am b L xs (nI i) fd ik tsk tze tma tki tdn twi tdu the tyr tsz lsk lze lma lki ldn lwi ldu lhe lyr lsz ksk kze kma kki kdn kwi kdu khe kyr ksz pbb pln pso ppl pbh anu abi ale bnu bbi ble cnu cbi cle dnu dbi dle mm mkp mwa mfo mta mbo mso mce mik mtd mtk mbg maa mvl mbd C hB hX hcs hi1 hi2 hi3 hi4 hi5 hR hK
    by_cases z4 : v = 4
    · refine j_tabIn (off := 305) C 4 338 dL_law_33 z4 (by decide) (by decide) (by decide) (by decide) ?_
      exact lw_case4 aF aL aT aK nd tp sb sn am b L xs (nI i) fd ik tsk tze tma tki tdn twi tdu the tyr tsz lsk lze lma lki ldn lwi ldu lhe lyr lsz ksk kze kma kki kdn kwi kdu khe kyr ksz pbb pln pso ppl pbh anu abi ale bnu bbi ble cnu cbi cle dnu dbi dle mm mkp mwa mfo mta mbo mso mce mik mtd mtk mbg maa mvl mbd C hB hX hcs hi1 hi2 hi3 hi4 hi5 hR hK
    by_cases z5 : v = 5
    · refine j_tabIn (off := 348) C 5 381 dL_law_33 z5 (by decide) (by decide) (by decide) (by decide) ?_
      exact lw_case5 aF aL aT aK nd tp sb sn am b L xs (nI i) fd ik tsk tze tma tki tdn twi tdu the tyr tsz lsk lze lma lki ldn lwi ldu lhe lyr lsz ksk kze kma kki kdn kwi kdu khe kyr ksz pbb pln pso ppl pbh anu abi ale bnu bbi ble cnu cbi cle dnu dbi dle mm mkp mwa mfo mta mbo mso mce mik mtd mtk mbg maa mvl mbd C hB hX hcs hi1 hi2 hi3 hi4 hi5 hR hK
    by_cases z6 : v = 6
    · refine j_tabIn (off := 391) C 6 424 dL_law_33 z6 (by decide) (by decide) (by decide) (by decide) ?_
      exact lw_case6 aF aL aT aK nd tp sb sn am b L xs (nI i) fd ik tsk tze tma tki tdn twi tdu the tyr tsz lsk lze lma lki ldn lwi ldu lhe lyr lsz ksk kze kma kki kdn kwi kdu khe kyr ksz pbb pln pso ppl pbh anu abi ale bnu bbi ble cnu cbi cle dnu dbi dle mm mkp mwa mfo mta mbo mso mce mik mtd mtk mbg maa mvl mbd C hB hX hcs hi1 hi2 hi3 hi4 hi5 hR hK
    by_cases z7 : v = 7
    · refine j_tabIn (off := 424) C 7 457 dL_law_33 z7 (by decide) (by decide) (by decide) (by decide) ?_
      exact lw_case7 aF aL aT aK nd tp sb sn am b L xs (nI i) fd ik tsk tze tma tki tdn twi tdu the tyr tsz lsk lze lma lki ldn lwi ldu lhe lyr lsz ksk kze kma kki kdn kwi kdu khe kyr ksz pbb pln pso ppl pbh anu abi ale bnu bbi ble cnu cbi cle dnu dbi dle mm mkp mwa mfo mta mbo mso mce mik mtd mtk mbg maa mvl mbd C hB hX hcs hi1 hi2 hi3 hi4 hi5 hR hK
    by_cases z8 : v = 8
    · refine j_tabIn (off := 457) C 8 490 dL_law_33 z8 (by decide) (by decide) (by decide) (by decide) ?_
      exact lw_case8 aF aL aT aK nd tp sb sn am b L xs (nI i) fd ik tsk tze tma tki tdn twi tdu the tyr tsz lsk lze lma lki ldn lwi ldu lhe lyr lsz ksk kze kma kki kdn kwi kdu khe kyr ksz pbb pln pso ppl pbh anu abi ale bnu bbi ble cnu cbi cle dnu dbi dle mm mkp mwa mfo mta mbo mso mce mik mtd mtk mbg maa mvl mbd C hB hX hcs hi1 hi2 hi3 hi4 hi5 hR hK
    by_cases z9 : v = 9
    · refine j_tabIn (off := 480) C 9 513 dL_law_33 z9 (by decide) (by decide) (by decide) (by decide) ?_
      exact lw_case9 aF aL aT aK nd tp sb sn am b L xs (nI i) fd ik tsk tze tma tki tdn twi tdu the tyr tsz lsk lze lma lki ldn lwi ldu lhe lyr lsz ksk kze kma kki kdn kwi kdu khe kyr ksz pbb pln pso ppl pbh anu abi ale bnu bbi ble cnu cbi cle dnu dbi dle mm mkp mwa mfo mta mbo mso mce mik mtd mtk mbg maa mvl mbd C hB hX hcs hi1 hi2 hi3 hi4 hi5 hR hK
    by_cases z10 : v = 10
    · refine j_tabIn (off := 503) C 10 536 dL_law_33 z10 (by decide) (by decide) (by decide) (by decide) ?_
      exact lw_case10 aF aL aT aK nd tp sb sn am b L xs (nI i) fd ik tsk tze tma tki tdn twi tdu the tyr tsz lsk lze lma lki ldn lwi ldu lhe lyr lsz ksk kze kma kki kdn kwi kdu khe kyr ksz pbb pln pso ppl pbh anu abi ale bnu bbi ble cnu cbi cle dnu dbi dle mm mkp mwa mfo mta mbo mso mce mik mtd mtk mbg maa mvl mbd C hB hX hcs hi1 hi2 hi3 hi4 hi5 hR hK
    by_cases z11 : v = 11
    · refine j_tabIn (off := 526) C 11 559 dL_law_33 z11 (by decide) (by decide) (by decide) (by decide) ?_
      exact lw_case11 aF aL aT aK nd tp sb sn am b L xs (nI i) fd ik tsk tze tma tki tdn twi tdu the tyr tsz lsk lze lma lki ldn lwi ldu lhe lyr lsz ksk kze kma kki kdn kwi kdu khe kyr ksz pbb pln pso ppl pbh anu abi ale bnu bbi ble cnu cbi cle dnu dbi dle mm mkp mwa mfo mta mbo mso mce mik mtd mtk mbg maa mvl mbd C hB hX hcs hi1 hi2 hi3 hi4 hi5 hR hK
    by_cases z12 : v = 12
    · refine j_tabIn (off := 549) C 12 582 dL_law_33 z12 (by decide) (by decide) (by decide) (by decide) ?_
      exact lw_case12 aF aL aT aK nd tp sb sn am b L xs (nI i) fd ik tsk tze tma tki tdn twi tdu the tyr tsz lsk lze lma lki ldn lwi ldu lhe lyr lsz ksk kze kma kki kdn kwi kdu khe kyr ksz pbb pln pso ppl pbh anu abi ale bnu bbi ble cnu cbi cle dnu dbi dle mm mkp mwa mfo mta mbo mso mce mik mtd mtk mbg maa mvl mbd C hB hX hcs hi1 hi2 hi3 hi4 hi5 hR hK
    by_cases z13 : v = 13
    · refine j_tabIn (off := 592) C 13 625 dL_law_33 z13 (by decide) (by decide) (by decide) (by decide) ?_
      exact lw_case13 aF aL aT aK nd tp sb sn am b L xs (nI i) fd ik tsk tze tma tki tdn twi tdu the tyr tsz lsk lze lma lki ldn lwi ldu lhe lyr lsz ksk kze kma kki kdn kwi kdu khe kyr ksz pbb pln pso ppl pbh anu abi ale bnu bbi ble cnu cbi cle dnu dbi dle mm mkp mwa mfo mta mbo mso mce mik mtd mtk mbg maa mvl mbd C hB hX hcs hi1 hi2 hi3 hi4 hi5 hR hK
    by_cases z14 : v = 14
    · refine j_tabIn (off := 635) C 14 668 dL_law_33 z14 (by decide) (by decide) (by decide) (by decide) ?_
      exact lw_case14 aF aL aT aK nd tp sb sn am b L xs (nI i) fd ik tsk tze tma tki tdn twi tdu the tyr tsz lsk lze lma lki ldn lwi ldu lhe lyr lsz ksk kze kma kki kdn kwi kdu khe kyr ksz pbb pln pso ppl pbh anu abi ale bnu bbi ble cnu cbi cle dnu dbi dle mm mkp mwa mfo mta mbo mso mce mik mtd mtk mbg maa mvl mbd C hB hX hcs hi1 hi2 hi3 hi4 hi5 hR hK
    by_cases z15 : v = 15
    · refine j_tabIn (off := 658) C 15 691 dL_law_33 z15 (by decide) (by decide) (by decide) (by decide) ?_
      exact lw_case15 aF aL aT aK nd tp sb sn am b L xs (nI i) fd ik tsk tze tma tki tdn twi tdu the tyr tsz lsk lze lma lki ldn lwi ldu lhe lyr lsz ksk kze kma kki kdn kwi kdu khe kyr ksz pbb pln pso ppl pbh anu abi ale bnu bbi ble cnu cbi cle dnu dbi dle mm mkp mwa mfo mta mbo mso mce mik mtd mtk mbg maa mvl mbd C hB hX hcs hi1 hi2 hi3 hi4 hi5 hR hK
    by_cases z16 : v = 16
    · refine j_tabIn (off := 691) C 16 724 dL_law_33 z16 (by decide) (by decide) (by decide) (by decide) ?_
      exact lw_case16 aF aL aT aK nd tp sb sn am b L xs (nI i) fd ik tsk tze tma tki tdn twi tdu the tyr tsz lsk lze lma lki ldn lwi ldu lhe lyr lsz ksk kze kma kki kdn kwi kdu khe kyr ksz pbb pln pso ppl pbh anu abi ale bnu bbi ble cnu cbi cle dnu dbi dle mm mkp mwa mfo mta mbo mso mce mik mtd mtk mbg maa mvl mbd C hB hX hcs hi1 hi2 hi3 hi4 hi5 hR hK
    by_cases z17 : v = 17
    · refine j_tabIn (off := 704) C 17 737 dL_law_33 z17 (by decide) (by decide) (by decide) (by decide) ?_
      exact lw_case17 aF aL aT aK nd tp sb sn am b L xs (nI i) fd ik tsk tze tma tki tdn twi tdu the tyr tsz lsk lze lma lki ldn lwi ldu lhe lyr lsz ksk kze kma kki kdn kwi kdu khe kyr ksz pbb pln pso ppl pbh anu abi ale bnu bbi ble cnu cbi cle dnu dbi dle mm mkp mwa mfo mta mbo mso mce mik mtd mtk mbg maa mvl mbd C hB hX hcs hi1 hi2 hi3 hi4 hi5 hR hK
    by_cases z18 : v = 18
    · refine j_tabIn (off := 727) C 18 760 dL_law_33 z18 (by decide) (by decide) (by decide) (by decide) ?_
      exact lw_case18 aF aL aT aK nd tp sb sn am b L xs (nI i) fd ik tsk tze tma tki tdn twi tdu the tyr tsz lsk lze lma lki ldn lwi ldu lhe lyr lsz ksk kze kma kki kdn kwi kdu khe kyr ksz pbb pln pso ppl pbh anu abi ale bnu bbi ble cnu cbi cle dnu dbi dle mm mkp mwa mfo mta mbo mso mce mik mtd mtk mbg maa mvl mbd C hB hX hcs hi1 hi2 hi3 hi4 hi5 hR hK
    by_cases z19 : v = 19
    · refine j_tabIn (off := 750) C 19 783 dL_law_33 z19 (by decide) (by decide) (by decide) (by decide) ?_
      exact lw_case19 aF aL aT aK nd tp sb sn am b L xs (nI i) fd ik tsk tze tma tki tdn twi tdu the tyr tsz lsk lze lma lki ldn lwi ldu lhe lyr lsz ksk kze kma kki kdn kwi kdu khe kyr ksz pbb pln pso ppl pbh anu abi ale bnu bbi ble cnu cbi cle dnu dbi dle mm mkp mwa mfo mta mbo mso mce mik mtd mtk mbg maa mvl mbd C hB hX hcs hi1 hi2 hi3 hi4 hi5 hR hK
    by_cases z20 : v = 20
    · refine j_tabIn (off := 793) C 20 826 dL_law_33 z20 (by decide) (by decide) (by decide) (by decide) ?_
      exact lw_case20 aF aL aT aK nd tp sb sn am b L xs (nI i) fd ik tsk tze tma tki tdn twi tdu the tyr tsz lsk lze lma lki ldn lwi ldu lhe lyr lsz ksk kze kma kki kdn kwi kdu khe kyr ksz pbb pln pso ppl pbh anu abi ale bnu bbi ble cnu cbi cle dnu dbi dle mm mkp mwa mfo mta mbo mso mce mik mtd mtk mbg maa mvl mbd C hB hX hcs hi1 hi2 hi3 hi4 hi5 hR hK
    by_cases z21 : v = 21
    · refine j_tabIn (off := 826) C 21 859 dL_law_33 z21 (by decide) (by decide) (by decide) (by decide) ?_
      exact lw_case21 aF aL aT aK nd tp sb sn am b L xs (nI i) fd ik tsk tze tma tki tdn twi tdu the tyr tsz lsk lze lma lki ldn lwi ldu lhe lyr lsz ksk kze kma kki kdn kwi kdu khe kyr ksz pbb pln pso ppl pbh anu abi ale bnu bbi ble cnu cbi cle dnu dbi dle mm mkp mwa mfo mta mbo mso mce mik mtd mtk mbg maa mvl mbd C hB hX hcs hi1 hi2 hi3 hi4 hi5 hR hK
    by_cases z22 : v = 22
    · refine j_tabIn (off := 849) C 22 882 dL_law_33 z22 (by decide) (by decide) (by decide) (by decide) ?_
      exact lw_case22 aF aL aT aK nd tp sb sn am b L xs (nI i) fd ik tsk tze tma tki tdn twi tdu the tyr tsz lsk lze lma lki ldn lwi ldu lhe lyr lsz ksk kze kma kki kdn kwi kdu khe kyr ksz pbb pln pso ppl pbh anu abi ale bnu bbi ble cnu cbi cle dnu dbi dle mm mkp mwa mfo mta mbo mso mce mik mtd mtk mbg maa mvl mbd C hB hX hcs hi1 hi2 hi3 hi4 hi5 hR hK
    by_cases z23 : v = 23
    · refine j_tabIn (off := 872) C 23 905 dL_law_33 z23 (by decide) (by decide) (by decide) (by decide) ?_
      exact lw_case23 aF aL aT aK nd tp sb sn am b L xs (nI i) fd ik tsk tze tma tki tdn twi tdu the tyr tsz lsk lze lma lki ldn lwi ldu lhe lyr lsz ksk kze kma kki kdn kwi kdu khe kyr ksz pbb pln pso ppl pbh anu abi ale bnu bbi ble cnu cbi cle dnu dbi dle mm mkp mwa mfo mta mbo mso mce mik mtd mtk mbg maa mvl mbd C hB hX hcs hi1 hi2 hi3 hi4 hi5 hR hK
    by_cases z24 : v = 24
    · refine j_tabIn (off := 905) C 24 938 dL_law_33 z24 (by decide) (by decide) (by decide) (by decide) ?_
      exact lw_case24 aF aL aT aK nd tp sb sn am b L xs (nI i) fd ik tsk tze tma tki tdn twi tdu the tyr tsz lsk lze lma lki ldn lwi ldu lhe lyr lsz ksk kze kma kki kdn kwi kdu khe kyr ksz pbb pln pso ppl pbh anu abi ale bnu bbi ble cnu cbi cle dnu dbi dle mm mkp mwa mfo mta mbo mso mce mik mtd mtk mbg maa mvl mbd C hB hX hcs hi1 hi2 hi3 hi4 hi5 hR hK
    by_cases z25 : v = 25
    · refine j_tabIn (off := 918) C 25 951 dL_law_33 z25 (by decide) (by decide) (by decide) (by decide) ?_
      exact lw_case25 aF aL aT aK nd tp sb sn am b L xs (nI i) fd ik tsk tze tma tki tdn twi tdu the tyr tsz lsk lze lma lki ldn lwi ldu lhe lyr lsz ksk kze kma kki kdn kwi kdu khe kyr ksz pbb pln pso ppl pbh anu abi ale bnu bbi ble cnu cbi cle dnu dbi dle mm mkp mwa mfo mta mbo mso mce mik mtd mtk mbg maa mvl mbd C hB hX hcs hi1 hi2 hi3 hi4 hi5 hR hK
    by_cases z26 : v = 26
    · refine j_tabIn (off := 931) C 26 964 dL_law_33 z26 (by decide) (by decide) (by decide) (by decide) ?_
      exact lw_case26 aF aL aT aK nd tp sb sn am b L xs (nI i) fd ik tsk tze tma tki tdn twi tdu the tyr tsz lsk lze lma lki ldn lwi ldu lhe lyr lsz ksk kze kma kki kdn kwi kdu khe kyr ksz pbb pln pso ppl pbh anu abi ale bnu bbi ble cnu cbi cle dnu dbi dle mm mkp mwa mfo mta mbo mso mce mik mtd mtk mbg maa mvl mbd C hB hX hcs hi1 hi2 hi3 hi4 hi5 hR hK
    by_cases z27 : v = 27
    · refine j_tabIn (off := 974) C 27 1007 dL_law_33 z27 (by decide) (by decide) (by decide) (by decide) ?_
      exact lw_case27 aF aL aT aK nd tp sb sn am b L xs (nI i) fd ik tsk tze tma tki tdn twi tdu the tyr tsz lsk lze lma lki ldn lwi ldu lhe lyr lsz ksk kze kma kki kdn kwi kdu khe kyr ksz pbb pln pso ppl pbh anu abi ale bnu bbi ble cnu cbi cle dnu dbi dle mm mkp mwa mfo mta mbo mso mce mik mtd mtk mbg maa mvl mbd C hB hX hcs hi1 hi2 hi3 hi4 hi5 hR hK
    by_cases z28 : v = 28
    · refine j_tabIn (off := 1048) C 28 1081 dL_law_33 z28 (by decide) (by decide) (by decide) (by decide) ?_
      exact lw_case28 aF aL aT aK nd tp sb sn am b L xs (nI i) fd ik tsk tze tma tki tdn twi tdu the tyr tsz lsk lze lma lki ldn lwi ldu lhe lyr lsz ksk kze kma kki kdn kwi kdu khe kyr ksz pbb pln pso ppl pbh anu abi ale bnu bbi ble cnu cbi cle dnu dbi dle mm mkp mwa mfo mta mbo mso mce mik mtd mtk mbg maa mvl mbd C hB hX hcs hi1 hi2 hi3 hi4 hi5 hR hK
    by_cases z29 : v = 29
    · refine j_tabIn (off := 1111) C 29 1144 dL_law_33 z29 (by decide) (by decide) (by decide) (by decide) ?_
      exact lw_case29 aF aL aT aK nd tp sb sn am b L xs (nI i) fd ik tsk tze tma tki tdn twi tdu the tyr tsz lsk lze lma lki ldn lwi ldu lhe lyr lsz ksk kze kma kki kdn kwi kdu khe kyr ksz pbb pln pso ppl pbh anu abi ale bnu bbi ble cnu cbi cle dnu dbi dle mm mkp mwa mfo mta mbo mso mce mik mtd mtk mbg maa mvl mbd C hB hX hcs hi1 hi2 hi3 hi4 hi5 hR hK
    by_cases z30 : v = 30
    · refine j_tabIn (off := 1134) C 30 1167 dL_law_33 z30 (by decide) (by decide) (by decide) (by decide) ?_
      exact lw_case30 aF aL aT aK nd tp sb sn am b L xs (nI i) fd ik tsk tze tma tki tdn twi tdu the tyr tsz lsk lze lma lki ldn lwi ldu lhe lyr lsz ksk kze kma kki kdn kwi kdu khe kyr ksz pbb pln pso ppl pbh anu abi ale bnu bbi ble cnu cbi cle dnu dbi dle mm mkp mwa mfo mta mbo mso mce mik mtd mtk mbg maa mvl mbd C hB hX hcs hi1 hi2 hi3 hi4 hi5 hR hK
    by_cases z31 : v = 31
    · refine j_tabIn (off := 1167) C 31 1200 dL_law_33 z31 (by decide) (by decide) (by decide) (by decide) ?_
      exact lw_case31 aF aL aT aK nd tp sb sn am b L xs (nI i) fd ik tsk tze tma tki tdn twi tdu the tyr tsz lsk lze lma lki ldn lwi ldu lhe lyr lsz ksk kze kma kki kdn kwi kdu khe kyr ksz pbb pln pso ppl pbh anu abi ale bnu bbi ble cnu cbi cle dnu dbi dle mm mkp mwa mfo mta mbo mso mce mik mtd mtk mbg maa mvl mbd C hB hX hcs hi1 hi2 hi3 hi4 hi5 hR hK
    by_cases z32 : v = 32
    · refine j_tabIn (off := 1210) C 32 1243 dL_law_33 z32 (by decide) (by decide) (by decide) (by decide) ?_
      exact lw_case32 aF aL aT aK nd tp sb sn am b L xs (nI i) fd ik tsk tze tma tki tdn twi tdu the tyr tsz lsk lze lma lki ldn lwi ldu lhe lyr lsz ksk kze kma kki kdn kwi kdu khe kyr ksz pbb pln pso ppl pbh anu abi ale bnu bbi ble cnu cbi cle dnu dbi dle mm mkp mwa mfo mta mbo mso mce mik mtd mtk mbg maa mvl mbd C hB hX hcs hi1 hi2 hi3 hi4 hi5 hR hK
    by_cases z33 : v = 33
    · refine j_tabIn (off := 1223) C 33 1256 dL_law_33 z33 (by decide) (by decide) (by decide) (by decide) ?_
      exact lw_case33 aF aL aT aK nd tp sb sn am b L xs (nI i) fd ik tsk tze tma tki tdn twi tdu the tyr tsz lsk lze lma lki ldn lwi ldu lhe lyr lsz ksk kze kma kki kdn kwi kdu khe kyr ksz pbb pln pso ppl pbh anu abi ale bnu bbi ble cnu cbi cle dnu dbi dle mm mkp mwa mfo mta mbo mso mce mik mtd mtk mbg maa mvl mbd C hB hX hcs hi1 hi2 hi3 hi4 hi5 hR hK
    by_cases z34 : v = 34
    · refine j_tabIn (off := 1236) C 34 1269 dL_law_33 z34 (by decide) (by decide) (by decide) (by decide) ?_
      exact lw_case34 aF aL aT aK nd tp sb sn am b L xs (nI i) fd ik tsk tze tma tki tdn twi tdu the tyr tsz lsk lze lma lki ldn lwi ldu lhe lyr lsz ksk kze kma kki kdn kwi kdu khe kyr ksz pbb pln pso ppl pbh anu abi ale bnu bbi ble cnu cbi cle dnu dbi dle mm mkp mwa mfo mta mbo mso mce mik mtd mtk mbg maa mvl mbd C hB hX hcs hi1 hi2 hi3 hi4 hi5 hR hK
    by_cases z35 : v = 35
    · refine j_tabIn (off := 1249) C 35 1282 dL_law_33 z35 (by decide) (by decide) (by decide) (by decide) ?_
      exact lw_case35 aF aL aT aK nd tp sb sn am b L xs (nI i) fd ik tsk tze tma tki tdn twi tdu the tyr tsz lsk lze lma lki ldn lwi ldu lhe lyr lsz ksk kze kma kki kdn kwi kdu khe kyr ksz pbb pln pso ppl pbh anu abi ale bnu bbi ble cnu cbi cle dnu dbi dle mm mkp mwa mfo mta mbo mso mce mik mtd mtk mbg maa mvl mbd C hB hX hcs hi1 hi2 hi3 hi4 hi5 hR hK
    by_cases z36 : v = 36
    · refine j_tabIn (off := 1272) C 36 1305 dL_law_33 z36 (by decide) (by decide) (by decide) (by decide) ?_
      exact lw_case36 aF aL aT aK nd tp sb sn am b L xs (nI i) fd ik tsk tze tma tki tdn twi tdu the tyr tsz lsk lze lma lki ldn lwi ldu lhe lyr lsz ksk kze kma kki kdn kwi kdu khe kyr ksz pbb pln pso ppl pbh anu abi ale bnu bbi ble cnu cbi cle dnu dbi dle mm mkp mwa mfo mta mbo mso mce mik mtd mtk mbg maa mvl mbd C hB hX hcs hi1 hi2 hi3 hi4 hi5 hR hK
    refine j_tabOut C 1328 dL_law_33 (by have q0 := lv_neT z0 (show (0 : Int32).toInt = 0 from rfl); have q1 := lv_neT z1 (show (1 : Int32).toInt = 1 from rfl); have q2 := lv_neT z2 (show (2 : Int32).toInt = 2 from rfl); have q3 := lv_neT z3 (show (3 : Int32).toInt = 3 from rfl); have q4 := lv_neT z4 (show (4 : Int32).toInt = 4 from rfl); have q5 := lv_neT z5 (show (5 : Int32).toInt = 5 from rfl); have q6 := lv_neT z6 (show (6 : Int32).toInt = 6 from rfl); have q7 := lv_neT z7 (show (7 : Int32).toInt = 7 from rfl); have q8 := lv_neT z8 (show (8 : Int32).toInt = 8 from rfl); have q9 := lv_neT z9 (show (9 : Int32).toInt = 9 from rfl); have q10 := lv_neT z10 (show (10 : Int32).toInt = 10 from rfl); have q11 := lv_neT z11 (show (11 : Int32).toInt = 11 from rfl); have q12 := lv_neT z12 (show (12 : Int32).toInt = 12 from rfl); have q13 := lv_neT z13 (show (13 : Int32).toInt = 13 from rfl); have q14 := lv_neT z14 (show (14 : Int32).toInt = 14 from rfl); have q15 := lv_neT z15 (show (15 : Int32).toInt = 15 from rfl); have q16 := lv_neT z16 (show (16 : Int32).toInt = 16 from rfl); have q17 := lv_neT z17 (show (17 : Int32).toInt = 17 from rfl); have q18 := lv_neT z18 (show (18 : Int32).toInt = 18 from rfl); have q19 := lv_neT z19 (show (19 : Int32).toInt = 19 from rfl); have q20 := lv_neT z20 (show (20 : Int32).toInt = 20 from rfl); have q21 := lv_neT z21 (show (21 : Int32).toInt = 21 from rfl); have q22 := lv_neT z22 (show (22 : Int32).toInt = 22 from rfl); have q23 := lv_neT z23 (show (23 : Int32).toInt = 23 from rfl); have q24 := lv_neT z24 (show (24 : Int32).toInt = 24 from rfl); have q25 := lv_neT z25 (show (25 : Int32).toInt = 25 from rfl); have q26 := lv_neT z26 (show (26 : Int32).toInt = 26 from rfl); have q27 := lv_neT z27 (show (27 : Int32).toInt = 27 from rfl); have q28 := lv_neT z28 (show (28 : Int32).toInt = 28 from rfl); have q29 := lv_neT z29 (show (29 : Int32).toInt = 29 from rfl); have q30 := lv_neT z30 (show (30 : Int32).toInt = 30 from rfl); have q31 := lv_neT z31 (show (31 : Int32).toInt = 31 from rfl); have q32 := lv_neT z32 (show (32 : Int32).toInt = 32 from rfl); have q33 := lv_neT z33 (show (33 : Int32).toInt = 33 from rfl); have q34 := lv_neT z34 (show (34 : Int32).toInt = 34 from rfl); have q35 := lv_neT z35 (show (35 : Int32).toInt = 35 from rfl); have q36 := lv_neT z36 (show (36 : Int32).toInt = 36 from rfl); omega) (by decide) ?_
    exact hK fd ik tsk tze tma tki tdn twi tdu the tyr tsz lsk lze lma lki ldn lwi ldu lhe lyr lsz ksk kze kma kki kdn kwi kdu khe kyr ksz pbb pln pso ppl pbh anu abi ale bnu bbi ble cnu cbi cle dnu dbi dle mm mkp mwa mfo mta mbo mso mce mik mtd mtk mbg maa mvl mbd hR
