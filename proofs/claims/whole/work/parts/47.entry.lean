theorem r5_start (j : Nat) : R5 j zL 0 0 zI zI zL := ⟨rfl, rfl, ⟨0, by decide, rfl⟩, fun _ _ => rfl⟩
theorem rr_start {u : (Nat → Nat → Nat) × (Nat → Nat → Int32)} {h0 : Nat} (hu : pX9 h0 u) : RR zI 0 (u.2 1) (u.2 4) zI zI zI zI zI zI 0 0 (u.2 0) (u.2 3) zI zI zI zI zI zI 0 0 (u.2 2) (u.2 5) zI zI zI zI zI zI 0 0 zI 0 0 0 0 zL 0 0 zL 0 0 zL 0 0 zL 0 0 mI_12 zI zI zI zI zI zI zL 0 0 0 0 0 0 0 :=
  ⟨⟨A0, rC_start (hu.2.1 0 (by decide)) (hu.2.2 0 (by decide)), rM_start, inv_start⟩, fun _ _ => rfl, ⟨rfl, Or.inl rfl, fun h => absurd h (by decide)⟩, ⟨0, by decide, rfl, rfl, fun i hi => absurd hi (by omega)⟩, r5_start 0, r5_start 1, r5_start 2, r5_start 3⟩
theorem nw_L_7 : NW RL 7 9 7 [.null, .null, .null, .int 0, .null, .null, .null] := by
  refine ⟨RX9, TX9, tyX9, rfl, uw_X9, tyX9_ok, (tb_t 20 (by decide +kernel) rfl), (tb_t 21 (by decide +kernel) rfl), (tb_t 1 (by decide +kernel) rfl), fun j hj => ?_⟩
  match j, hj with
  | 0, _ => rfl
  | 1, _ => rfl
  | 2, _ => rfl
  | 3, _ => rfl
  | 4, _ => rfl
  | 5, _ => rfl
  | 6, _ => rfl
  | j + 7, hj => exact absurd hj (by omega)
theorem nw_L_10 : NW RL 10 10 15 [.null, .null, .null, .int 0, .null, .null, .int 0, .int 0, .int 0, .int 0, .int 0, .int 0, .null, .null, .null] := by
  refine ⟨RX10, TX10, tyX10, rfl, uw_X10, tyX10_ok, (tb_t 725 (by decide +kernel) rfl), (tb_t 726 (by decide +kernel) rfl), (tb_t 12 (by decide +kernel) rfl), fun j hj => ?_⟩
  match j, hj with
  | 0, _ => rfl
  | 1, _ => rfl
  | 2, _ => rfl
  | 3, _ => rfl
  | 4, _ => rfl
  | 5, _ => rfl
  | 6, _ => rfl
  | 7, _ => rfl
  | 8, _ => rfl
  | 9, _ => rfl
  | 10, _ => rfl
  | 11, _ => rfl
  | 12, _ => rfl
  | 13, _ => rfl
  | 14, _ => rfl
  | j + 15, hj => exact absurd hj (by omega)
theorem lkI_L_9 : LkI RL 9 yX9_init cX9_init 3 0 := ⟨(tb_t 22 (by decide +kernel) rfl), (tb_t 23 (by decide +kernel) rfl), (tb_t 1 (by decide +kernel) rfl), (tb_t 24 (by decide +kernel) rfl), rfl, by decide, by decide, by decide +kernel⟩
theorem lkI_L_12 : LkI RL 12 yX10_init cX10_init 2 0 := ⟨(tb_t 727 (by decide +kernel) rfl), (tb_t 728 (by decide +kernel) rfl), (tb_t 12 (by decide +kernel) rfl), (tb_t 729 (by decide +kernel) rfl), rfl, by decide, by decide, by decide +kernel⟩
set_option maxRecDepth 100000 in
set_option maxHeartbeats 8000000 in
/-- the law from its entry: both are made, then the loop -/
theorem lw_entry {l : Launch} {D : va_G} {ca : Nat → ClassId} {sd : Nat → Nat} {k : Kx} (b L : Nat) (hL : L ≤ 3072) (xs : Nat → Int32) (C : Cx D ca sd cL_law RL (some .boolean) room_1 k 4) (hB : Wx k) (hX : Sx b L xs k) (hE : ∀ (ws : va_W) (lv : List (Nat × Value)), J l D k 4 56 995 1335 ws lv [.int 1]) : J l D k 4 0 0 0 [] [(0, .ref b)] [] := by
  refine j_new C hB nw_L_7 (fun h0 => [(h0, .inr (9, [.null, .null, .null, .int 0, .null, .null, .null]))]) (Nat.le_of_ble_eq_true rfl) (Nat.le_of_ble_eq_true rfl) dL_law_0 (fun _ => rfl) (fun h0 => ?_)
  refine j_dup C dL_law_3 rfl ?_
  refine j_cvN C hB 0 1 (fun u : (Nat → Nat → Nat) × (Nat → Nat → Int32) => wX9 ca sd u) rfl (fun u => List.append_nil _) (jr_I C lkI_L_9 (c_X9_init h0) ⟨rfl, rfl, by decide, by decide, Nat.le_of_ble_eq_true rfl, Nat.le_of_ble_eq_true rfl⟩ [0] (by decide) rfl (fx_rw C hB [0] rfl) rfl rfl (Nat.le_of_ble_eq_true rfl) dL_law_4) (fun u hu => ?_)
  have e0 : u.1 7 0 = h0 := hu.1
  subst e0
  refine j_astore_n C [(1, .ref (u.1 7 0)), (0, .ref b)] dL_law_7 (by decide) rfl ?_
  refine j_new C hB nw_L_10 (fun h1 => wX9 ca sd u ++ [(h1, .inr (10, [.null, .null, .null, .int 0, .null, .null, .int 0, .int 0, .int 0, .int 0, .int 0, .int 0, .null, .null, .null]))]) (Nat.le_of_ble_eq_true rfl) (Nat.le_of_ble_eq_true rfl) dL_law_8 (fun _ => rfl) (fun h1 => ?_)
  refine j_dup C dL_law_11 rfl ?_
  refine j_cvN C hB 47 48 (fun am : Nat → Nat => wX9 ca sd u ++ wM ca am mI_12 zI zI zI zI zI zI zL 0 0 0 0 0 0 0) rfl (fun _ => rfl) (jr_I C lkI_L_12 (c_X10_init h1) ⟨rfl, rfl, by decide, by decide, Nat.le_of_ble_eq_true rfl, Nat.le_of_ble_eq_true rfl⟩ [47] (by decide) rfl (fx_rw C hB [47] rfl) rfl rfl (Nat.le_of_ble_eq_true rfl) dL_law_12) (fun am ha => ?_)
  replace ha : am 0 = h1 := ha
  subst ha
  refine j_astore_n C [(2, .ref (am 0)), (1, .ref (u.1 7 0)), (0, .ref b)] dL_law_15 (by decide) rfl ?_
  refine j_iconst C 0 dL_law_16 (by decide) ?_
  refine j_istore_n C [(3, .int 0), (2, .ref (am 0)), (1, .ref (u.1 7 0)), (0, .ref b)] dL_law_17 (by decide) rfl ?_
  refine j_widen (c1 := 56) (s1 := 995) (Nat.le_of_ble_eq_true rfl) (Nat.le_of_ble_eq_true rfl) ?_
  refine j_sub [46, 0, 1, 2, 3, 4, 5, 6, 7, 17, 18, 19, 20, 21, 22, 23, 24, 25, 8, 9, 10, 11, 12, 13, 14, 15, 16, 26, 27, 28, 29, 30, 31, 32, 33, 34, 35, 36, 37, 38, 39, 40, 41, 42, 43, 44, 45, 47, 48, 49, 50, 51, 52, 53, 54, 55] [3, 2, 1, 0] ((wD ca (u.1 7 2) zI) ++ ((wF (u.1 7 0) (u.1 1 0) (u.1 2 0) (u.1 3 0) (u.1 4 0) (u.1 7 1) (u.1 7 2) 0) ++ ((wN ca (u.1 0) sd) ++ ((wC ca (u.1 2) (u.1 0 0) (u.2 1) (u.2 4) zI zI zI zI zI zI 0 0) ++ ((wC ca (u.1 1) (u.1 0 0) (u.2 0) (u.2 3) zI zI zI zI zI zI 0 0) ++ ((wC ca (u.1 3) (u.1 0 0) (u.2 2) (u.2 5) zI zI zI zI zI zI 0 0) ++ ((wT ca (u.1 4) (u.1 0 0) zI 0 0 0 0) ++ ((wA ca (u.1 7 1) (u.1 5)) ++ ((wS ca (u.1 5 0) (u.1 6 0) zL 0 0) ++ ((wS ca (u.1 5 1) (u.1 6 1) zL 0 0) ++ ((wS ca (u.1 5 2) (u.1 6 2) zL 0 0) ++ ((wS ca (u.1 5 3) (u.1 6 3) zL 0 0) ++ (wM ca am mI_12 zI zI zI zI zI zI zL 0 0 0 0 0 0 0))))))))))))) [(0, .ref b), (1, .ref (u.1 7 0)), (2, .ref (am 0)), (3, .int (nI 0))] (by decide) rfl rfl ?_
  refine lw_loop (fun i => u.1 7 i) (u.1 1) (u.1 2) (u.1 3) (u.1 0) (u.1 4) (u.1 5) (u.1 6) am b L hL xs C hB hX ⟨Nat.le_of_ble_eq_true rfl, Nat.le_of_ble_eq_true rfl⟩ ?_ L 0 zI 0 (u.2 1) (u.2 4) zI zI zI zI zI zI 0 0 (u.2 0) (u.2 3) zI zI zI zI zI zI 0 0 (u.2 2) (u.2 5) zI zI zI zI zI zI 0 0 zI 0 0 0 0 zL 0 0 zL 0 0 zL 0 0 zL 0 0 mI_12 zI zI zI zI zI zI zL 0 0 0 0 0 0 0 (by omega) (by omega) (rr_start hu)
  intro x3 fd ik tsk tze tma tki tdn twi tdu the tyr tsz lsk lze lma lki ldn lwi ldu lhe lyr lsz ksk kze kma kki kdn kwi kdu khe kyr ksz pbb pln pso ppl pbh anu abi ale bnu bbi ble cnu cbi cle dnu dbi dle mm mkp mwa mfo mta mbo mso mce mik mtd mtk mbg maa mvl mbd
  refine j_iconst C 1 dL_law_1334 (by decide) ?_
  exact hE _ _
