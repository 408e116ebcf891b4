theorem lkU_X0_11 : LkU RX0 11 yX4_tires cX4_tires 1 (some .int) 0 := ⟨(tb_t 287 (by decide +kernel) rfl), (tb_t 283 (by decide +kernel) rfl), (tb_t 50 (by decide +kernel) rfl), (tb_t 281 (by decide +kernel) rfl), (tb_t 2 (by decide +kernel) rfl), (tb_t 299 (by decide +kernel) rfl), by decide, by decide +kernel⟩
theorem lkU_X0_15 : LkU RX0 15 yX4_asked cX4_asked 3 (some .int) 2 := ⟨(tb_t 307 (by decide +kernel) rfl), (tb_t 303 (by decide +kernel) rfl), (tb_t 50 (by decide +kernel) rfl), (tb_t 301 (by decide +kernel) rfl), (tb_t 2 (by decide +kernel) rfl), (tb_t 322 (by decide +kernel) rfl), by decide, by decide +kernel⟩
theorem lkU_X0_7 : LkU RX0 7 yX4_goesOn cX4_goesOn 4 (some .int) 3 := ⟨(tb_t 334 (by decide +kernel) rfl), (tb_t 330 (by decide +kernel) rfl), (tb_t 50 (by decide +kernel) rfl), (tb_t 328 (by decide +kernel) rfl), (tb_t 2 (by decide +kernel) rfl), (tb_t 350 (by decide +kernel) rfl), by decide, by decide +kernel⟩
theorem lkU_X1_11 : LkU RX1 11 yX0_bid cX0_bid 4 (some .int) 3 := ⟨(tb_t 361 (by decide +kernel) rfl), (tb_t 1138 (by decide +kernel) rfl), (tb_t 77 (by decide +kernel) rfl), (tb_t 356 (by decide +kernel) rfl), (tb_t 3 (by decide +kernel) rfl), (tb_t 357 (by decide +kernel) rfl), by decide, by decide +kernel⟩
theorem lkU_X1_7 : LkU RX1 7 yX0_goesOn cX0_goesOn 4 (some .int) 3 := ⟨(tb_t 338 (by decide +kernel) rfl), (tb_t 1136 (by decide +kernel) rfl), (tb_t 77 (by decide +kernel) rfl), (tb_t 332 (by decide +kernel) rfl), (tb_t 3 (by decide +kernel) rfl), (tb_t 333 (by decide +kernel) rfl), by decide, by decide +kernel⟩
theorem lkU_X3_11 : LkU RX3 11 yX4_bid cX4_bid 4 (some .int) 3 := ⟨(tb_t 365 (by decide +kernel) rfl), (tb_t 354 (by decide +kernel) rfl), (tb_t 59 (by decide +kernel) rfl), (tb_t 352 (by decide +kernel) rfl), (tb_t 2 (by decide +kernel) rfl), (tb_t 370 (by decide +kernel) rfl), by decide, by decide +kernel⟩
theorem lkU_X3_7 : LkU RX3 7 yX4_goesOn cX4_goesOn 4 (some .int) 3 := ⟨(tb_t 342 (by decide +kernel) rfl), (tb_t 330 (by decide +kernel) rfl), (tb_t 59 (by decide +kernel) rfl), (tb_t 328 (by decide +kernel) rfl), (tb_t 2 (by decide +kernel) rfl), (tb_t 350 (by decide +kernel) rfl), by decide, by decide +kernel⟩
theorem lkU_X5_11 : LkU2 RX5 11 ⟨"UnfinishedFair$Jersey", "tires", "()I"⟩ yX4_tires cX4_tires 1 (some .int) 0 := ⟨(tb_t 293 (by decide +kernel) rfl), (tb_t 294 (by decide +kernel) rfl), (tb_t 86 (by decide +kernel) rfl), (tb_t 59 (by decide +kernel) rfl), (tb_t 281 (by decide +kernel) rfl), (tb_t 2 (by decide +kernel) rfl), (tb_t 299 (by decide +kernel) rfl), by decide, rfl, rfl, by decide +kernel⟩
theorem lkU_X5_15 : LkU2 RX5 15 ⟨"UnfinishedFair$Jersey", "asked", "(II)I"⟩ yX4_asked cX4_asked 3 (some .int) 2 := ⟨(tb_t 316 (by decide +kernel) rfl), (tb_t 317 (by decide +kernel) rfl), (tb_t 86 (by decide +kernel) rfl), (tb_t 59 (by decide +kernel) rfl), (tb_t 301 (by decide +kernel) rfl), (tb_t 2 (by decide +kernel) rfl), (tb_t 322 (by decide +kernel) rfl), by decide, rfl, rfl, by decide +kernel⟩
theorem lkU_X5_7 : LkU RX5 7 yX3_goesOn cX3_goesOn 4 (some .int) 3 := ⟨(tb_t 346 (by decide +kernel) rfl), (tb_t 1137 (by decide +kernel) rfl), (tb_t 86 (by decide +kernel) rfl), (tb_t 340 (by decide +kernel) rfl), (tb_t 4 (by decide +kernel) rfl), (tb_t 341 (by decide +kernel) rfl), by decide, by decide +kernel⟩
theorem lm_X0_19 : Cond.methodLink RX0 19 Lib.Math.max.name ∈ TB ∧ Cond.static Lib.Math.max.name ∈ TB ∧ Cond.initialized "java/lang/Math" ∈ TB ∧ Cond.code Lib.Math.max.name Lib.Math.max.code 2 (some .int) ∈ TB := ⟨(tb_t 308 (by decide +kernel) rfl), (tb_t 309 (by decide +kernel) rfl), (tb_t 14 (by decide +kernel) rfl), (tb_t 310 (by decide +kernel) rfl)⟩
/-! fields of each class are laid as the tables say -/
theorem uw_X0 : ∀ w ∈ u_ws RX0 TX0 1, w ∈ TB := by
  rw [show u_ws RX0 TX0 1 = [Cond.laysFinal "UnfinishedFair$Boat" "UnfinishedFair$Kind" "title" "Ljava/lang/String;"] from by decide +kernel]
  exact (tb_cons (tb_t 49 (by decide +kernel) rfl) tb_nil)
theorem uw_X1 : ∀ w ∈ u_ws RX1 TX1 1, w ∈ TB := by
  rw [show u_ws RX1 TX1 1 = [Cond.laysFinal "UnfinishedFair$Bridge" "UnfinishedFair$Kind" "title" "Ljava/lang/String;"] from by decide +kernel]
  exact (tb_cons (tb_t 76 (by decide +kernel) rfl) tb_nil)
theorem uw_X2 : ∀ w ∈ u_ws RX2 TX2 11, w ∈ TB := by
  rw [show u_ws RX2 TX2 11 = [Cond.laysFinal "UnfinishedFair$Common" "UnfinishedFair$Common" "natures" "[LUnfinishedFair$Kind;", Cond.laysFinal "UnfinishedFair$Common" "UnfinishedFair$Common" "skills" "[I", Cond.laysFinal "UnfinishedFair$Common" "UnfinishedFair$Common" "zeals" "[I", Cond.laysFinal "UnfinishedFair$Common" "UnfinishedFair$Common" "mades" "[I", Cond.laysFinal "UnfinishedFair$Common" "UnfinishedFair$Common" "kinds" "[I", Cond.laysFinal "UnfinishedFair$Common" "UnfinishedFair$Common" "dones" "[I", Cond.laysFinal "UnfinishedFair$Common" "UnfinishedFair$Common" "withs" "[I", Cond.laysFinal "UnfinishedFair$Common" "UnfinishedFair$Common" "dusts" "[I", Cond.laysFinal "UnfinishedFair$Common" "UnfinishedFair$Common" "held" "[I", Cond.lays "UnfinishedFair$Common" "UnfinishedFair$Common" "year" "I", Cond.lays "UnfinishedFair$Common" "UnfinishedFair$Common" "size" "I"] from by decide +kernel]
  exact (tb_cons (tb_t 118 (by decide +kernel) rfl) (tb_cons (tb_t 120 (by decide +kernel) rfl) (tb_cons (tb_t 122 (by decide +kernel) rfl) (tb_cons (tb_t 124 (by decide +kernel) rfl) (tb_cons (tb_t 126 (by decide +kernel) rfl) (tb_cons (tb_t 128 (by decide +kernel) rfl) (tb_cons (tb_t 130 (by decide +kernel) rfl) (tb_cons (tb_t 132 (by decide +kernel) rfl) (tb_cons (tb_t 134 (by decide +kernel) rfl) (tb_cons (tb_t 136 (by decide +kernel) rfl) (tb_cons (tb_t 138 (by decide +kernel) rfl) tb_nil)))))))))))
theorem uw_X3 : ∀ w ∈ u_ws RX3 TX3 1, w ∈ TB := by
  rw [show u_ws RX3 TX3 1 = [Cond.laysFinal "UnfinishedFair$Jersey" "UnfinishedFair$Kind" "title" "Ljava/lang/String;"] from by decide +kernel]
  exact (tb_cons (tb_t 58 (by decide +kernel) rfl) tb_nil)
theorem uw_X4 : ∀ w ∈ u_ws RX4 TX4 1, w ∈ TB := by
  rw [show u_ws RX4 TX4 1 = [Cond.laysFinal "UnfinishedFair$Kind" "UnfinishedFair$Kind" "title" "Ljava/lang/String;"] from by decide +kernel]
  exact (tb_cons (tb_t 38 (by decide +kernel) rfl) tb_nil)
theorem uw_X5 : ∀ w ∈ u_ws RX5 TX5 1, w ∈ TB := by
  rw [show u_ws RX5 TX5 1 = [Cond.laysFinal "UnfinishedFair$Letter" "UnfinishedFair$Kind" "title" "Ljava/lang/String;"] from by decide +kernel]
  exact (tb_cons (tb_t 85 (by decide +kernel) rfl) tb_nil)
theorem uw_X6 : ∀ w ∈ u_ws RX6 TX6 1, w ∈ TB := by
  rw [show u_ws RX6 TX6 1 = [Cond.laysFinal "UnfinishedFair$Quarrel" "UnfinishedFair$Kind" "title" "Ljava/lang/String;"] from by decide +kernel]
  exact (tb_cons (tb_t 67 (by decide +kernel) rfl) tb_nil)
theorem uw_X7 : ∀ w ∈ u_ws RX7 TX7 3, w ∈ TB := by
  rw [show u_ws RX7 TX7 3 = [Cond.laysFinal "UnfinishedFair$Sheet" "UnfinishedFair$Sheet" "numbers" "[J", Cond.lays "UnfinishedFair$Sheet" "UnfinishedFair$Sheet" "bits" "I", Cond.lays "UnfinishedFair$Sheet" "UnfinishedFair$Sheet" "length" "I"] from by decide +kernel]
  exact (tb_cons (tb_t 181 (by decide +kernel) rfl) (tb_cons (tb_t 183 (by decide +kernel) rfl) (tb_cons (tb_t 185 (by decide +kernel) rfl) tb_nil)))
theorem uw_X8 : ∀ w ∈ u_ws RX8 TX8 6, w ∈ TB := by
  rw [show u_ws RX8 TX8 6 = [Cond.laysFinal "UnfinishedFair$Tape" "UnfinishedFair$Tape" "natures" "[LUnfinishedFair$Kind;", Cond.laysFinal "UnfinishedFair$Tape" "UnfinishedFair$Tape" "bytes" "[B", Cond.lays "UnfinishedFair$Tape" "UnfinishedFair$Tape" "length" "I", Cond.lays "UnfinishedFair$Tape" "UnfinishedFair$Tape" "sort" "I", Cond.lays "UnfinishedFair$Tape" "UnfinishedFair$Tape" "place" "I", Cond.lays "UnfinishedFair$Tape" "UnfinishedFair$Tape" "behind" "I"] from by decide +kernel]
  exact (tb_cons (tb_t 155 (by decide +kernel) rfl) (tb_cons (tb_t 157 (by decide +kernel) rfl) (tb_cons (tb_t 159 (by decide +kernel) rfl) (tb_cons (tb_t 161 (by decide +kernel) rfl) (tb_cons (tb_t 163 (by decide +kernel) rfl) (tb_cons (tb_t 165 (by decide +kernel) rfl) tb_nil))))))
theorem uw_X9 : ∀ w ∈ u_ws RX9 TX9 7, w ∈ TB := by
  rw [show u_ws RX9 TX9 7 = [Cond.laysFinal "UnfinishedFair" "UnfinishedFair" "live" "LUnfinishedFair$Common;", Cond.laysFinal "UnfinishedFair" "UnfinishedFair" "trial" "LUnfinishedFair$Common;", Cond.laysFinal "UnfinishedFair" "UnfinishedFair" "kept" "LUnfinishedFair$Common;", Cond.lays "UnfinishedFair" "UnfinishedFair" "isKept" "Z", Cond.laysFinal "UnfinishedFair" "UnfinishedFair" "tape" "LUnfinishedFair$Tape;", Cond.laysFinal "UnfinishedFair" "UnfinishedFair" "sheets" "[LUnfinishedFair$Sheet;", Cond.laysFinal "UnfinishedFair" "UnfinishedFair" "findings" "[I"] from by decide +kernel]
  exact (tb_cons (tb_t 196 (by decide +kernel) rfl) (tb_cons (tb_t 198 (by decide +kernel) rfl) (tb_cons (tb_t 200 (by decide +kernel) rfl) (tb_cons (tb_t 202 (by decide +kernel) rfl) (tb_cons (tb_t 204 (by decide +kernel) rfl) (tb_cons (tb_t 206 (by decide +kernel) rfl) (tb_cons (tb_t 208 (by decide +kernel) rfl) tb_nil)))))))
theorem uw_X10 : ∀ w ∈ u_ws RX10 TX10 15, w ∈ TB := by
  rw [show u_ws RX10 TX10 15 = [Cond.laysFinal "UnfinishedFairModel" "UnfinishedFairModel" "m" "[I", Cond.laysFinal "UnfinishedFairModel" "UnfinishedFairModel" "kept" "[I", Cond.laysFinal "UnfinishedFairModel" "UnfinishedFairModel" "was" "[I", Cond.lays "UnfinishedFairModel" "UnfinishedFairModel" "isKept" "Z", Cond.laysFinal "UnfinishedFairModel" "UnfinishedFairModel" "found" "[I", Cond.laysFinal "UnfinishedFairModel" "UnfinishedFairModel" "tape" "[I", Cond.lays "UnfinishedFairModel" "UnfinishedFairModel" "taped" "I", Cond.lays "UnfinishedFairModel" "UnfinishedFairModel" "token" "I", Cond.lays "UnfinishedFairModel" "UnfinishedFairModel" "begin" "I", Cond.lays "UnfinishedFairModel" "UnfinishedFairModel" "at" "I", Cond.lays "UnfinishedFairModel" "UnfinishedFairModel" "value" "I", Cond.lays "UnfinishedFairModel" "UnfinishedFairModel" "bad" "Z", Cond.laysFinal "UnfinishedFairModel" "UnfinishedFairModel" "bitsOf" "[I", Cond.laysFinal "UnfinishedFairModel" "UnfinishedFairModel" "sizeOf" "[I", Cond.laysFinal "UnfinishedFairModel" "UnfinishedFairModel" "cells" "[J"] from by decide +kernel]
  exact (tb_cons (tb_t 746 (by decide +kernel) rfl) (tb_cons (tb_t 748 (by decide +kernel) rfl) (tb_cons (tb_t 750 (by decide +kernel) rfl) (tb_cons (tb_t 752 (by decide +kernel) rfl) (tb_cons (tb_t 754 (by decide +kernel) rfl) (tb_cons (tb_t 756 (by decide +kernel) rfl) (tb_cons (tb_t 758 (by decide +kernel) rfl) (tb_cons (tb_t 760 (by decide +kernel) rfl) (tb_cons (tb_t 762 (by decide +kernel) rfl) (tb_cons (tb_t 764 (by decide +kernel) rfl) (tb_cons (tb_t 766 (by decide +kernel) rfl) (tb_cons (tb_t 768 (by decide +kernel) rfl) (tb_cons (tb_t 770 (by decide +kernel) rfl) (tb_cons (tb_t 772 (by decide +kernel) rfl) (tb_cons (tb_t 774 (by decide +kernel) rfl) tb_nil)))))))))))))))
def wp_X4_goesOn   (a1 : Int32) (a2 : Int32) (a3 : Int32) (Q : (Int32) → Prop) : Prop := Q a1
set_option maxRecDepth 100000 in
set_option maxHeartbeats 8000000 in
theorem c_X4_goesOn {l : Launch} {D : va_G} {ca : Nat → ClassId} {sd : Nat → Nat} {Cn1 : String} {T1 : u_T} {N1 : Nat} (h0 : Nat) (ci : Nat) (tt : Nat)  (hci : vwCl[ci]? = some (Cn1, T1, N1)) (a1 : Int32) (a2 : Int32) (a3 : Int32)  {Q : (Int32) → Prop} (hw : wp_X4_goesOn   a1 a2 a3 Q) : Cn l D ca sd yX4_goesOn cX4_goesOn 4 (some .int) { frames := 0, cells := 0, slots := 0, locals := 0 } [.ref h0, .int a1, .int a2, .int a3] (wO h0 ci tt) [] 0 0 (Ri D (fun (r : Int32) (u : Unit) => Q r ) (fun _ => [])) := by
  refine cn_ofR (by decide) (Nat.le_of_ble_eq_true rfl) (fun k C hR => ?_)
  have C : Cx D ca sd cX4_goesOn RX4 (some .int) { frames := 0, cells := 0, slots := 0, locals := 0 } k 4 := C
  unfold wp_X4_goesOn at hw
  show J l D k 4 0 0 0 (wO h0 ci tt) [(0, .ref h0), (1, .int a1), (2, .int a2), (3, .int a3)] []
  refine j_iload_n C 1 dX4_goesOn_0 rfl ?_
  exact j_iretR C hR () rfl dX4_goesOn_1 hw
def wp_X4_tires    (Q : (Int32) → Prop) : Prop := Q 1
set_option maxRecDepth 100000 in
set_option maxHeartbeats 8000000 in
theorem c_X4_tires {l : Launch} {D : va_G} {ca : Nat → ClassId} {sd : Nat → Nat} {Cn1 : String} {T1 : u_T} {N1 : Nat} (h0 : Nat) (ci : Nat) (tt : Nat)  (hci : vwCl[ci]? = some (Cn1, T1, N1))   {Q : (Int32) → Prop} (hw : wp_X4_tires    Q) : Cn l D ca sd yX4_tires cX4_tires 1 (some .int) { frames := 0, cells := 0, slots := 0, locals := 0 } [.ref h0] (wO h0 ci tt) [] 0 0 (Ri D (fun (r : Int32) (u : Unit) => Q r ) (fun _ => [])) := by
  refine cn_ofR (by decide) (Nat.le_of_ble_eq_true rfl) (fun k C hR => ?_)
  have C : Cx D ca sd cX4_tires RX4 (some .int) { frames := 0, cells := 0, slots := 0, locals := 0 } k 1 := C
  unfold wp_X4_tires at hw
  show J l D k 1 0 0 0 (wO h0 ci tt) [(0, .ref h0)] []
  refine j_iconst C 1 dX4_tires_0 (by decide) ?_
  exact j_iretR C hR () rfl dX4_tires_1 hw
def wp_X4_bid   (a1 : Int32) (a2 : Int32) (a3 : Int32) (Q : (Int32) → Prop) : Prop := Q (2 * a1)
set_option maxRecDepth 100000 in
set_option maxHeartbeats 8000000 in
theorem c_X4_bid {l : Launch} {D : va_G} {ca : Nat → ClassId} {sd : Nat → Nat} {Cn1 : String} {T1 : u_T} {N1 : Nat} (h0 : Nat) (ci : Nat) (tt : Nat)  (hci : vwCl[ci]? = some (Cn1, T1, N1)) (a1 : Int32) (a2 : Int32) (a3 : Int32)  {Q : (Int32) → Prop} (hw : wp_X4_bid   a1 a2 a3 Q) : Cn l D ca sd yX4_bid cX4_bid 4 (some .int) { frames := 0, cells := 0, slots := 0, locals := 0 } [.ref h0, .int a1, .int a2, .int a3] (wO h0 ci tt) [] 0 0 (Ri D (fun (r : Int32) (u : Unit) => Q r ) (fun _ => [])) := by
  refine cn_ofR (by decide) (Nat.le_of_ble_eq_true rfl) (fun k C hR => ?_)
  have C : Cx D ca sd cX4_bid RX4 (some .int) { frames := 0, cells := 0, slots := 0, locals := 0 } k 4 := C
  unfold wp_X4_bid at hw
  show J l D k 4 0 0 0 (wO h0 ci tt) [(0, .ref h0), (1, .int a1), (2, .int a2), (3, .int a3)] []
  refine j_iconst C 2 dX4_bid_0 (by decide) ?_
  refine j_iload_n C 1 dX4_bid_1 rfl ?_
  refine j_imul C dX4_bid_2 ?_
  exact j_iretR C hR () rfl dX4_bid_3 hw
def wp_X4_asked   (a1 : Int32) (a2 : Int32) (Q : (Int32) → Prop) : Prop := Q 8
set_option maxRecDepth 100000 in
set_option maxHeartbeats 8000000 in
theorem c_X4_asked {l : Launch} {D : va_G} {ca : Nat → ClassId} {sd : Nat → Nat} {Cn1 : String} {T1 : u_T} {N1 : Nat} (h0 : Nat) (ci : Nat) (tt : Nat)  (hci : vwCl[ci]? = some (Cn1, T1, N1)) (a1 : Int32) (a2 : Int32)  {Q : (Int32) → Prop} (hw : wp_X4_asked   a1 a2 Q) : Cn l D ca sd yX4_asked cX4_asked 3 (some .int) { frames := 0, cells := 0, slots := 0, locals := 0 } [.ref h0, .int a1, .int a2] (wO h0 ci tt) [] 0 0 (Ri D (fun (r : Int32) (u : Unit) => Q r ) (fun _ => [])) := by
  refine cn_ofR (by decide) (Nat.le_of_ble_eq_true rfl) (fun k C hR => ?_)
  have C : Cx D ca sd cX4_asked RX4 (some .int) { frames := 0, cells := 0, slots := 0, locals := 0 } k 3 := C
  unfold wp_X4_asked at hw
  show J l D k 3 0 0 0 (wO h0 ci tt) [(0, .ref h0), (1, .int a1), (2, .int a2)] []
  refine j_bipush C 8 dX4_asked_0 (by decide) ?_
  exact j_iretR C hR () rfl dX4_asked_2 hw
def wp_X0_goesOn   (a1 : Int32) (a2 : Int32) (a3 : Int32) (Q : (Int32) → Prop) : Prop := wp_X4_goesOn a1 a2 a3 (fun r1 => Q (r1 / 2))
set_option maxRecDepth 100000 in
set_option maxHeartbeats 8000000 in
theorem c_X0_goesOn {l : Launch} {D : va_G} {ca : Nat → ClassId} {sd : Nat → Nat} {Cn1 : String} {T1 : u_T} {N1 : Nat} (h0 : Nat) (ci : Nat) (tt : Nat)  (hci : vwCl[ci]? = some (Cn1, T1, N1)) (a1 : Int32) (a2 : Int32) (a3 : Int32)  {Q : (Int32) → Prop} (hw : wp_X0_goesOn   a1 a2 a3 Q) : Cn l D ca sd yX0_goesOn cX0_goesOn 4 (some .int) { frames := 1, cells := 0, slots := 0, locals := 23 } [.ref h0, .int a1, .int a2, .int a3] (wO h0 ci tt) [] 0 0 (Ri D (fun (r : Int32) (u : Unit) => Q r ) (fun _ => [])) := by
  refine cn_ofR (by decide) (Nat.le_of_ble_eq_true rfl) (fun k C hR => ?_)
  have C : Cx D ca sd cX0_goesOn RX0 (some .int) { frames := 1, cells := 0, slots := 0, locals := 23 } k 4 := C
  unfold wp_X0_goesOn at hw
  show J l D k 4 0 0 0 (wO h0 ci tt) [(0, .ref h0), (1, .int a1), (2, .int a2), (3, .int a3)] []
  refine j_aload_n C 0 dX0_goesOn_0 rfl ?_
  refine j_iload_n C 1 dX0_goesOn_1 rfl ?_
  refine j_iload_n C 2 dX0_goesOn_2 rfl ?_
  refine j_iload_n C 3 dX0_goesOn_3 rfl ?_
  refine j_ciZ C (jr_U C lkU_X0_7 (c_X4_goesOn h0 ci tt hci a1 a2 a3 hw) ⟨rfl, rfl, by decide, by decide, by decide, by decide⟩ [0] (by decide) rfl (fx_ro C) 0 ci rfl hci rfl rfl (Nat.le_of_ble_eq_true rfl) dX0_goesOn_4) (fun r1 u1 hw => ?_)
  refine j_iconst C 2 dX0_goesOn_7 (by decide) ?_
  refine j_idiv C dX0_goesOn_8 (by decide) ?_
  exact j_iretR C hR () rfl dX0_goesOn_9 hw
def wp_X0_tires    (Q : (Int32) → Prop) : Prop := wp_X4_tires  (fun r1 => Q (r1 + 1))
set_option maxRecDepth 100000 in
set_option maxHeartbeats 8000000 in
theorem c_X0_tires {l : Launch} {D : va_G} {ca : Nat → ClassId} {sd : Nat → Nat} {Cn1 : String} {T1 : u_T} {N1 : Nat} (h0 : Nat) (ci : Nat) (tt : Nat)  (hci : vwCl[ci]? = some (Cn1, T1, N1))   {Q : (Int32) → Prop} (hw : wp_X0_tires    Q) : Cn l D ca sd yX0_tires cX0_tires 1 (some .int) { frames := 1, cells := 0, slots := 0, locals := 20 } [.ref h0] (wO h0 ci tt) [] 0 0 (Ri D (fun (r : Int32) (u : Unit) => Q r ) (fun _ => [])) := by
  refine cn_ofR (by decide) (Nat.le_of_ble_eq_true rfl) (fun k C hR => ?_)
  have C : Cx D ca sd cX0_tires RX0 (some .int) { frames := 1, cells := 0, slots := 0, locals := 20 } k 1 := C
  unfold wp_X0_tires at hw
  show J l D k 1 0 0 0 (wO h0 ci tt) [(0, .ref h0)] []
  refine j_aload_n C 0 dX0_tires_0 rfl ?_
  refine j_ciZ C (jr_U C lkU_X0_11 (c_X4_tires h0 ci tt hci hw) ⟨rfl, rfl, by decide, by decide, by decide, by decide⟩ [0] (by decide) rfl (fx_ro C) 0 ci rfl hci rfl rfl (Nat.le_of_ble_eq_true rfl) dX0_tires_1) (fun r1 u1 hw => ?_)
  refine j_iconst C 1 dX0_tires_4 (by decide) ?_
  refine j_iadd C dX0_tires_5 ?_
  exact j_iretR C hR () rfl dX0_tires_6 hw
def wp_X0_bid   (a1 : Int32) (a2 : Int32) (a3 : Int32) (Q : (Int32) → Prop) : Prop := Q a1
set_option maxRecDepth 100000 in
set_option maxHeartbeats 8000000 in
theorem c_X0_bid {l : Launch} {D : va_G} {ca : Nat → ClassId} {sd : Nat → Nat} {Cn1 : String} {T1 : u_T} {N1 : Nat} (h0 : Nat) (ci : Nat) (tt : Nat)  (hci : vwCl[ci]? = some (Cn1, T1, N1)) (a1 : Int32) (a2 : Int32) (a3 : Int32)  {Q : (Int32) → Prop} (hw : wp_X0_bid   a1 a2 a3 Q) : Cn l D ca sd yX0_bid cX0_bid 4 (some .int) { frames := 0, cells := 0, slots := 0, locals := 0 } [.ref h0, .int a1, .int a2, .int a3] (wO h0 ci tt) [] 0 0 (Ri D (fun (r : Int32) (u : Unit) => Q r ) (fun _ => [])) := by
  refine cn_ofR (by decide) (Nat.le_of_ble_eq_true rfl) (fun k C hR => ?_)
  have C : Cx D ca sd cX0_bid RX0 (some .int) { frames := 0, cells := 0, slots := 0, locals := 0 } k 4 := C
  unfold wp_X0_bid at hw
  show J l D k 4 0 0 0 (wO h0 ci tt) [(0, .ref h0), (1, .int a1), (2, .int a2), (3, .int a3)] []
  refine j_iload_n C 1 dX0_bid_0 rfl ?_
  exact j_iretR C hR () rfl dX0_bid_1 hw
def wp_X0_asked   (a1 : Int32) (a2 : Int32) (Q : (Int32) → Prop) : Prop := wp_X4_asked a1 a2 (fun r1 => Q (if 1 < (r1 - a2) then (r1 - a2) else 1))
set_option maxRecDepth 100000 in
set_option maxHeartbeats 8000000 in
theorem c_X0_asked {l : Launch} {D : va_G} {ca : Nat → ClassId} {sd : Nat → Nat} {Cn1 : String} {T1 : u_T} {N1 : Nat} (h0 : Nat) (ci : Nat) (tt : Nat)  (hci : vwCl[ci]? = some (Cn1, T1, N1)) (a1 : Int32) (a2 : Int32)  {Q : (Int32) → Prop} (hw : wp_X0_asked   a1 a2 Q) : Cn l D ca sd yX0_asked cX0_asked 3 (some .int) { frames := 1, cells := 0, slots := 0, locals := 30 } [.ref h0, .int a1, .int a2] (wO h0 ci tt) [] 0 0 (Ri D (fun (r : Int32) (u : Unit) => Q r ) (fun _ => [])) := by
  refine cn_ofR (by decide) (Nat.le_of_ble_eq_true rfl) (fun k C hR => ?_)
  have C : Cx D ca sd cX0_asked RX0 (some .int) { frames := 1, cells := 0, slots := 0, locals := 30 } k 3 := C
  unfold wp_X0_asked at hw
  show J l D k 3 0 0 0 (wO h0 ci tt) [(0, .ref h0), (1, .int a1), (2, .int a2)] []
  refine j_iconst C 1 dX0_asked_0 (by decide) ?_
  refine j_aload_n C 0 dX0_asked_1 rfl ?_
  refine j_iload_n C 1 dX0_asked_2 rfl ?_
  refine j_iload_n C 2 dX0_asked_3 rfl ?_
  refine j_ciZ C (jr_U C lkU_X0_15 (c_X4_asked h0 ci tt hci a1 a2 hw) ⟨rfl, rfl, by decide, by decide, by decide, by decide⟩ [0] (by decide) rfl (fx_ro C) 0 ci rfl hci rfl rfl (Nat.le_of_ble_eq_true rfl) dX0_asked_4) (fun r1 u1 hw => ?_)
  refine j_iload_n C 2 dX0_asked_7 rfl ?_
  refine j_isub C dX0_asked_8 ?_
  refine j_max C lm_X0_19 (by decide) (Nat.le_of_ble_eq_true rfl) (by decide) (by decide) dX0_asked_9 ?_
  exact j_iretR C hR () rfl dX0_asked_12 hw
def wp_X3_goesOn   (a1 : Int32) (a2 : Int32) (a3 : Int32) (Q : (Int32) → Prop) : Prop := wp_X4_goesOn a1 a2 a3 (fun r1 => (50 ≤ a2 → Q (r1 + 0)) ∧ (¬ (50 ≤ a2) → Q (r1 + 3)))
set_option maxRecDepth 100000 in
set_option maxHeartbeats 8000000 in
theorem c_X3_goesOn {l : Launch} {D : va_G} {ca : Nat → ClassId} {sd : Nat → Nat} {Cn1 : String} {T1 : u_T} {N1 : Nat} (h0 : Nat) (ci : Nat) (tt : Nat)  (hci : vwCl[ci]? = some (Cn1, T1, N1)) (a1 : Int32) (a2 : Int32) (a3 : Int32)  {Q : (Int32) → Prop} (hw : wp_X3_goesOn   a1 a2 a3 Q) : Cn l D ca sd yX3_goesOn cX3_goesOn 4 (some .int) { frames := 1, cells := 0, slots := 0, locals := 23 } [.ref h0, .int a1, .int a2, .int a3] (wO h0 ci tt) [] 0 0 (Ri D (fun (r : Int32) (u : Unit) => Q r ) (fun _ => [])) := by
  refine cn_ofR (by decide) (Nat.le_of_ble_eq_true rfl) (fun k C hR => ?_)
  have C : Cx D ca sd cX3_goesOn RX3 (some .int) { frames := 1, cells := 0, slots := 0, locals := 23 } k 4 := C
  unfold wp_X3_goesOn at hw
  show J l D k 4 0 0 0 (wO h0 ci tt) [(0, .ref h0), (1, .int a1), (2, .int a2), (3, .int a3)] []
  refine j_aload_n C 0 dX3_goesOn_0 rfl ?_
  refine j_iload_n C 1 dX3_goesOn_1 rfl ?_
  refine j_iload_n C 2 dX3_goesOn_2 rfl ?_
  refine j_iload_n C 3 dX3_goesOn_3 rfl ?_
  refine j_ciZ C (jr_U C lkU_X3_7 (c_X4_goesOn h0 ci tt hci a1 a2 a3 hw) ⟨rfl, rfl, by decide, by decide, by decide, by decide⟩ [0] (by decide) rfl (fx_ro C) 0 ci rfl hci rfl rfl (Nat.le_of_ble_eq_true rfl) dX3_goesOn_4) (fun r1 u1 hw => ?_)
  refine j_iload_n C 2 dX3_goesOn_7 rfl ?_
  refine j_bipush C 50 dX3_goesOn_8 (by decide) ?_
  refine j_icmp_ge C 17 dX3_goesOn_10 (by decide) (fun z => ?_) (fun z => ?_)
  · replace hw := hw.1 z
    refine j_iconst C 0 dX3_goesOn_17 (by decide) ?_
    refine j_iadd C dX3_goesOn_18 ?_
    exact j_iretR C hR () rfl dX3_goesOn_19 hw
  · replace hw := hw.2 z
    refine j_iconst C 3 dX3_goesOn_13 (by decide) ?_
    refine j_goto C 18 dX3_goesOn_14 (by decide) ?_
    refine j_iadd C dX3_goesOn_18 ?_
    exact j_iretR C hR () rfl dX3_goesOn_19 hw
def wp_X3_bid   (a1 : Int32) (a2 : Int32) (a3 : Int32) (Q : (Int32) → Prop) : Prop := wp_X4_bid a1 a2 a3 (fun r1 => (a2 ≤ 70 → Q (r1 + 0)) ∧ (¬ (a2 ≤ 70) → Q (r1 + a1)))
set_option maxRecDepth 100000 in
set_option maxHeartbeats 8000000 in
theorem c_X3_bid {l : Launch} {D : va_G} {ca : Nat → ClassId} {sd : Nat → Nat} {Cn1 : String} {T1 : u_T} {N1 : Nat} (h0 : Nat) (ci : Nat) (tt : Nat)  (hci : vwCl[ci]? = some (Cn1, T1, N1)) (a1 : Int32) (a2 : Int32) (a3 : Int32)  {Q : (Int32) → Prop} (hw : wp_X3_bid   a1 a2 a3 Q) : Cn l D ca sd yX3_bid cX3_bid 4 (some .int) { frames := 1, cells := 0, slots := 0, locals := 23 } [.ref h0, .int a1, .int a2, .int a3] (wO h0 ci tt) [] 0 0 (Ri D (fun (r : Int32) (u : Unit) => Q r ) (fun _ => [])) := by
  refine cn_ofR (by decide) (Nat.le_of_ble_eq_true rfl) (fun k C hR => ?_)
  have C : Cx D ca sd cX3_bid RX3 (some .int) { frames := 1, cells := 0, slots := 0, locals := 23 } k 4 := C
  unfold wp_X3_bid at hw
  show J l D k 4 0 0 0 (wO h0 ci tt) [(0, .ref h0), (1, .int a1), (2, .int a2), (3, .int a3)] []
  refine j_aload_n C 0 dX3_bid_0 rfl ?_
  refine j_iload_n C 1 dX3_bid_1 rfl ?_
  refine j_iload_n C 2 dX3_bid_2 rfl ?_
  refine j_iload_n C 3 dX3_bid_3 rfl ?_
  refine j_ciZ C (jr_U C lkU_X3_11 (c_X4_bid h0 ci tt hci a1 a2 a3 hw) ⟨rfl, rfl, by decide, by decide, by decide, by decide⟩ [0] (by decide) rfl (fx_ro C) 0 ci rfl hci rfl rfl (Nat.le_of_ble_eq_true rfl) dX3_bid_4) (fun r1 u1 hw => ?_)
  refine j_iload_n C 2 dX3_bid_7 rfl ?_
  refine j_bipush C 70 dX3_bid_8 (by decide) ?_
  refine j_icmp_le C 17 dX3_bid_10 (by decide) (fun z => ?_) (fun z => ?_)
  · replace hw := hw.1 z
    refine j_iconst C 0 dX3_bid_17 (by decide) ?_
    refine j_iadd C dX3_bid_18 ?_
    exact j_iretR C hR () rfl dX3_bid_19 hw
  · replace hw := hw.2 z
    refine j_iload_n C 1 dX3_bid_13 rfl ?_
    refine j_goto C 18 dX3_bid_14 (by decide) ?_
    refine j_iadd C dX3_bid_18 ?_
    exact j_iretR C hR () rfl dX3_bid_19 hw
def wp_X6_goesOn   (a1 : Int32) (a2 : Int32) (a3 : Int32) (Q : (Int32) → Prop) : Prop := (a2 = 99 → Q 0) ∧ (¬ (a2 = 99) → Q 1)
set_option maxRecDepth 100000 in
set_option maxHeartbeats 8000000 in
theorem c_X6_goesOn {l : Launch} {D : va_G} {ca : Nat → ClassId} {sd : Nat → Nat} {Cn1 : String} {T1 : u_T} {N1 : Nat} (h0 : Nat) (ci : Nat) (tt : Nat)  (hci : vwCl[ci]? = some (Cn1, T1, N1)) (a1 : Int32) (a2 : Int32) (a3 : Int32)  {Q : (Int32) → Prop} (hw : wp_X6_goesOn   a1 a2 a3 Q) : Cn l D ca sd yX6_goesOn cX6_goesOn 4 (some .int) { frames := 0, cells := 0, slots := 0, locals := 0 } [.ref h0, .int a1, .int a2, .int a3] (wO h0 ci tt) [] 0 0 (Ri D (fun (r : Int32) (u : Unit) => Q r ) (fun _ => [])) := by
  refine cn_ofR (by decide) (Nat.le_of_ble_eq_true rfl) (fun k C hR => ?_)
  have C : Cx D ca sd cX6_goesOn RX6 (some .int) { frames := 0, cells := 0, slots := 0, locals := 0 } k 4 := C
  unfold wp_X6_goesOn at hw
  show J l D k 4 0 0 0 (wO h0 ci tt) [(0, .ref h0), (1, .int a1), (2, .int a2), (3, .int a3)] []
  refine j_iload_n C 2 dX6_goesOn_0 rfl ?_
  refine j_bipush C 99 dX6_goesOn_1 (by decide) ?_
  refine j_icmp_ne C 10 dX6_goesOn_3 (by decide) (fun z => ?_) (fun z => ?_)
  · replace hw := hw.2 z
    refine j_iconst C 1 dX6_goesOn_10 (by decide) ?_
    exact j_iretR C hR () rfl dX6_goesOn_11 hw
  · replace hw := hw.1 z
    refine j_iconst C 0 dX6_goesOn_6 (by decide) ?_
    refine j_goto C 11 dX6_goesOn_7 (by decide) ?_
    exact j_iretR C hR () rfl dX6_goesOn_11 hw
def wp_X6_tires    (Q : (Int32) → Prop) : Prop := Q 0
set_option maxRecDepth 100000 in
set_option maxHeartbeats 8000000 in
theorem c_X6_tires {l : Launch} {D : va_G} {ca : Nat → ClassId} {sd : Nat → Nat} {Cn1 : String} {T1 : u_T} {N1 : Nat} (h0 : Nat) (ci : Nat) (tt : Nat)  (hci : vwCl[ci]? = some (Cn1, T1, N1))   {Q : (Int32) → Prop} (hw : wp_X6_tires    Q) : Cn l D ca sd yX6_tires cX6_tires 1 (some .int) { frames := 0, cells := 0, slots := 0, locals := 0 } [.ref h0] (wO h0 ci tt) [] 0 0 (Ri D (fun (r : Int32) (u : Unit) => Q r ) (fun _ => [])) := by
  refine cn_ofR (by decide) (Nat.le_of_ble_eq_true rfl) (fun k C hR => ?_)
  have C : Cx D ca sd cX6_tires RX6 (some .int) { frames := 0, cells := 0, slots := 0, locals := 0 } k 1 := C
  unfold wp_X6_tires at hw
  show J l D k 1 0 0 0 (wO h0 ci tt) [(0, .ref h0)] []
  refine j_iconst C 0 dX6_tires_0 (by decide) ?_
  exact j_iretR C hR () rfl dX6_tires_1 hw
def wp_X6_bid   (a1 : Int32) (a2 : Int32) (a3 : Int32) (Q : (Int32) → Prop) : Prop := Q (20 - a1)
set_option maxRecDepth 100000 in
set_option maxHeartbeats 8000000 in
theorem c_X6_bid {l : Launch} {D : va_G} {ca : Nat → ClassId} {sd : Nat → Nat} {Cn1 : String} {T1 : u_T} {N1 : Nat} (h0 : Nat) (ci : Nat) (tt : Nat)  (hci : vwCl[ci]? = some (Cn1, T1, N1)) (a1 : Int32) (a2 : Int32) (a3 : Int32)  {Q : (Int32) → Prop} (hw : wp_X6_bid   a1 a2 a3 Q) : Cn l D ca sd yX6_bid cX6_bid 4 (some .int) { frames := 0, cells := 0, slots := 0, locals := 0 } [.ref h0, .int a1, .int a2, .int a3] (wO h0 ci tt) [] 0 0 (Ri D (fun (r : Int32) (u : Unit) => Q r ) (fun _ => [])) := by
  refine cn_ofR (by decide) (Nat.le_of_ble_eq_true rfl) (fun k C hR => ?_)
  have C : Cx D ca sd cX6_bid RX6 (some .int) { frames := 0, cells := 0, slots := 0, locals := 0 } k 4 := C
  unfold wp_X6_bid at hw
  show J l D k 4 0 0 0 (wO h0 ci tt) [(0, .ref h0), (1, .int a1), (2, .int a2), (3, .int a3)] []
  refine j_bipush C 20 dX6_bid_0 (by decide) ?_
  refine j_iload_n C 1 dX6_bid_2 rfl ?_
  refine j_isub C dX6_bid_3 ?_
  exact j_iretR C hR () rfl dX6_bid_4 hw
def wp_X6_asked   (a1 : Int32) (a2 : Int32) (Q : (Int32) → Prop) : Prop := Q 1
set_option maxRecDepth 100000 in
set_option maxHeartbeats 8000000 in
theorem c_X6_asked {l : Launch} {D : va_G} {ca : Nat → ClassId} {sd : Nat → Nat} {Cn1 : String} {T1 : u_T} {N1 : Nat} (h0 : Nat) (ci : Nat) (tt : Nat)  (hci : vwCl[ci]? = some (Cn1, T1, N1)) (a1 : Int32) (a2 : Int32)  {Q : (Int32) → Prop} (hw : wp_X6_asked   a1 a2 Q) : Cn l D ca sd yX6_asked cX6_asked 3 (some .int) { frames := 0, cells := 0, slots := 0, locals := 0 } [.ref h0, .int a1, .int a2] (wO h0 ci tt) [] 0 0 (Ri D (fun (r : Int32) (u : Unit) => Q r ) (fun _ => [])) := by
  refine cn_ofR (by decide) (Nat.le_of_ble_eq_true rfl) (fun k C hR => ?_)
  have C : Cx D ca sd cX6_asked RX6 (some .int) { frames := 0, cells := 0, slots := 0, locals := 0 } k 3 := C
  unfold wp_X6_asked at hw
  show J l D k 3 0 0 0 (wO h0 ci tt) [(0, .ref h0), (1, .int a1), (2, .int a2)] []
  refine j_iconst C 1 dX6_asked_0 (by decide) ?_
  exact j_iretR C hR () rfl dX6_asked_1 hw
def wp_X1_goesOn   (a1 : Int32) (a2 : Int32) (a3 : Int32) (Q : (Int32) → Prop) : Prop := wp_X0_goesOn a1 a2 a3 (fun r1 => Q (r1 + 2))
set_option maxRecDepth 100000 in
set_option maxHeartbeats 8000000 in
theorem c_X1_goesOn {l : Launch} {D : va_G} {ca : Nat → ClassId} {sd : Nat → Nat} {Cn1 : String} {T1 : u_T} {N1 : Nat} (h0 : Nat) (ci : Nat) (tt : Nat)  (hci : vwCl[ci]? = some (Cn1, T1, N1)) (a1 : Int32) (a2 : Int32) (a3 : Int32)  {Q : (Int32) → Prop} (hw : wp_X1_goesOn   a1 a2 a3 Q) : Cn l D ca sd yX1_goesOn cX1_goesOn 4 (some .int) { frames := 2, cells := 0, slots := 0, locals := 46 } [.ref h0, .int a1, .int a2, .int a3] (wO h0 ci tt) [] 0 0 (Ri D (fun (r : Int32) (u : Unit) => Q r ) (fun _ => [])) := by
  refine cn_ofR (by decide) (Nat.le_of_ble_eq_true rfl) (fun k C hR => ?_)
  have C : Cx D ca sd cX1_goesOn RX1 (some .int) { frames := 2, cells := 0, slots := 0, locals := 46 } k 4 := C
  unfold wp_X1_goesOn at hw
  show J l D k 4 0 0 0 (wO h0 ci tt) [(0, .ref h0), (1, .int a1), (2, .int a2), (3, .int a3)] []
  refine j_aload_n C 0 dX1_goesOn_0 rfl ?_
  refine j_iload_n C 1 dX1_goesOn_1 rfl ?_
  refine j_iload_n C 2 dX1_goesOn_2 rfl ?_
  refine j_iload_n C 3 dX1_goesOn_3 rfl ?_
  refine j_ciZ C (jr_U C lkU_X1_7 (c_X0_goesOn h0 ci tt hci a1 a2 a3 hw) ⟨rfl, rfl, by decide, by decide, by decide, by decide⟩ [0] (by decide) rfl (fx_ro C) 0 ci rfl hci rfl rfl (Nat.le_of_ble_eq_true rfl) dX1_goesOn_4) (fun r1 u1 hw => ?_)
  refine j_iconst C 2 dX1_goesOn_7 (by decide) ?_
  refine j_iadd C dX1_goesOn_8 ?_
  exact j_iretR C hR () rfl dX1_goesOn_9 hw
def wp_X1_bid   (a1 : Int32) (a2 : Int32) (a3 : Int32) (Q : (Int32) → Prop) : Prop := wp_X0_bid a1 a2 a3 (fun r1 => Q (r1 + (a3 / 10)))
set_option maxRecDepth 100000 in
set_option maxHeartbeats 8000000 in
theorem c_X1_bid {l : Launch} {D : va_G} {ca : Nat → ClassId} {sd : Nat → Nat} {Cn1 : String} {T1 : u_T} {N1 : Nat} (h0 : Nat) (ci : Nat) (tt : Nat)  (hci : vwCl[ci]? = some (Cn1, T1, N1)) (a1 : Int32) (a2 : Int32) (a3 : Int32)  {Q : (Int32) → Prop} (hw : wp_X1_bid   a1 a2 a3 Q) : Cn l D ca sd yX1_bid cX1_bid 4 (some .int) { frames := 1, cells := 0, slots := 0, locals := 23 } [.ref h0, .int a1, .int a2, .int a3] (wO h0 ci tt) [] 0 0 (Ri D (fun (r : Int32) (u : Unit) => Q r ) (fun _ => [])) := by
  refine cn_ofR (by decide) (Nat.le_of_ble_eq_true rfl) (fun k C hR => ?_)
  have C : Cx D ca sd cX1_bid RX1 (some .int) { frames := 1, cells := 0, slots := 0, locals := 23 } k 4 := C
  unfold wp_X1_bid at hw
  show J l D k 4 0 0 0 (wO h0 ci tt) [(0, .ref h0), (1, .int a1), (2, .int a2), (3, .int a3)] []
  refine j_aload_n C 0 dX1_bid_0 rfl ?_
  refine j_iload_n C 1 dX1_bid_1 rfl ?_
  refine j_iload_n C 2 dX1_bid_2 rfl ?_
  refine j_iload_n C 3 dX1_bid_3 rfl ?_
  refine j_ciZ C (jr_U C lkU_X1_11 (c_X0_bid h0 ci tt hci a1 a2 a3 hw) ⟨rfl, rfl, by decide, by decide, by decide, by decide⟩ [0] (by decide) rfl (fx_ro C) 0 ci rfl hci rfl rfl (Nat.le_of_ble_eq_true rfl) dX1_bid_4) (fun r1 u1 hw => ?_)
  refine j_iload_n C 3 dX1_bid_7 rfl ?_
  refine j_bipush C 10 dX1_bid_8 (by decide) ?_
  refine j_idiv C dX1_bid_10 (by decide) ?_
  refine j_iadd C dX1_bid_11 ?_
  exact j_iretR C hR () rfl dX1_bid_12 hw
def wp_X5_goesOn   (a1 : Int32) (a2 : Int32) (a3 : Int32) (Q : (Int32) → Prop) : Prop := wp_X3_goesOn a1 a2 a3 (fun r1 => (a3 ≤ 10 → Q r1) ∧ (¬ (a3 ≤ 10) → Q (2 * r1)))
set_option maxRecDepth 100000 in
set_option maxHeartbeats 8000000 in
theorem c_X5_goesOn {l : Launch} {D : va_G} {ca : Nat → ClassId} {sd : Nat → Nat} {Cn1 : String} {T1 : u_T} {N1 : Nat} (h0 : Nat) (ci : Nat) (tt : Nat)  (hci : vwCl[ci]? = some (Cn1, T1, N1)) (a1 : Int32) (a2 : Int32) (a3 : Int32)  {Q : (Int32) → Prop} (hw : wp_X5_goesOn   a1 a2 a3 Q) : Cn l D ca sd yX5_goesOn cX5_goesOn 5 (some .int) { frames := 2, cells := 0, slots := 0, locals := 46 } [.ref h0, .int a1, .int a2, .int a3] (wO h0 ci tt) [] 0 0 (Ri D (fun (r : Int32) (u : Unit) => Q r ) (fun _ => [])) := by
  refine cn_ofR (by decide) (Nat.le_of_ble_eq_true rfl) (fun k C hR => ?_)
  have C : Cx D ca sd cX5_goesOn RX5 (some .int) { frames := 2, cells := 0, slots := 0, locals := 46 } k 5 := C
  unfold wp_X5_goesOn at hw
  show J l D k 5 0 0 0 (wO h0 ci tt) [(0, .ref h0), (1, .int a1), (2, .int a2), (3, .int a3)] []
  refine j_aload_n C 0 dX5_goesOn_0 rfl ?_
  refine j_iload_n C 1 dX5_goesOn_1 rfl ?_
  refine j_iload_n C 2 dX5_goesOn_2 rfl ?_
  refine j_iload_n C 3 dX5_goesOn_3 rfl ?_
  refine j_ciZ C (jr_U C lkU_X5_7 (c_X3_goesOn h0 ci tt hci a1 a2 a3 hw) ⟨rfl, rfl, by decide, by decide, by decide, by decide⟩ [0] (by decide) rfl (fx_ro C) 0 ci rfl hci rfl rfl (Nat.le_of_ble_eq_true rfl) dX5_goesOn_4) (fun r1 u1 hw => ?_)
  refine j_istore C [(4, .int r1), (0, .ref h0), (1, .int a1), (2, .int a2), (3, .int a3)] dX5_goesOn_7 (by decide) rfl ?_
  refine j_iload_n C 4 dX5_goesOn_9 rfl ?_
  refine j_bipush C 10 dX5_goesOn_10 (by decide) ?_
  refine j_icmp_le C 22 dX5_goesOn_12 (by decide) (fun z => ?_) (fun z => ?_)
  · replace hw := hw.1 z
    refine j_iload C 0 dX5_goesOn_22 rfl ?_
    exact j_iretR C hR () rfl dX5_goesOn_24 hw
  · replace hw := hw.2 z
    refine j_iconst C 2 dX5_goesOn_15 (by decide) ?_
    refine j_iload C 0 dX5_goesOn_16 rfl ?_
    refine j_imul C dX5_goesOn_18 ?_
    refine j_goto C 24 dX5_goesOn_19 (by decide) ?_
    exact j_iretR C hR () rfl dX5_goesOn_24 hw
def wp_X5_tires    (Q : (Int32) → Prop) : Prop := wp_X4_tires  (fun r1 => Q (r1 - 1))
set_option maxRecDepth 100000 in
set_option maxHeartbeats 8000000 in
theorem c_X5_tires {l : Launch} {D : va_G} {ca : Nat → ClassId} {sd : Nat → Nat} {Cn1 : String} {T1 : u_T} {N1 : Nat} (h0 : Nat) (ci : Nat) (tt : Nat)  (hci : vwCl[ci]? = some (Cn1, T1, N1))   {Q : (Int32) → Prop} (hw : wp_X5_tires    Q) : Cn l D ca sd yX5_tires cX5_tires 1 (some .int) { frames := 1, cells := 0, slots := 0, locals := 20 } [.ref h0] (wO h0 ci tt) [] 0 0 (Ri D (fun (r : Int32) (u : Unit) => Q r ) (fun _ => [])) := by
  refine cn_ofR (by decide) (Nat.le_of_ble_eq_true rfl) (fun k C hR => ?_)
  have C : Cx D ca sd cX5_tires RX5 (some .int) { frames := 1, cells := 0, slots := 0, locals := 20 } k 1 := C
  unfold wp_X5_tires at hw
  show J l D k 1 0 0 0 (wO h0 ci tt) [(0, .ref h0)] []
  refine j_aload_n C 0 dX5_tires_0 rfl ?_
  refine j_ciZ C (jr_U2 C lkU_X5_11 (c_X4_tires h0 ci tt hci hw) ⟨rfl, rfl, by decide, by decide, by decide, by decide⟩ [0] (by decide) rfl (fx_ro C) 0 ci rfl hci rfl rfl (Nat.le_of_ble_eq_true rfl) dX5_tires_1) (fun r1 u1 hw => ?_)
  refine j_iconst C 1 dX5_tires_4 (by decide) ?_
  refine j_isub C dX5_tires_5 ?_
  exact j_iretR C hR () rfl dX5_tires_6 hw
def wp_X5_asked   (a1 : Int32) (a2 : Int32) (Q : (Int32) → Prop) : Prop := wp_X4_asked a1 a2 (fun r1 => Q (r1 + (a1 / 10)))
set_option maxRecDepth 100000 in
set_option maxHeartbeats 8000000 in
theorem c_X5_asked {l : Launch} {D : va_G} {ca : Nat → ClassId} {sd : Nat → Nat} {Cn1 : String} {T1 : u_T} {N1 : Nat} (h0 : Nat) (ci : Nat) (tt : Nat)  (hci : vwCl[ci]? = some (Cn1, T1, N1)) (a1 : Int32) (a2 : Int32)  {Q : (Int32) → Prop} (hw : wp_X5_asked   a1 a2 Q) : Cn l D ca sd yX5_asked cX5_asked 3 (some .int) { frames := 1, cells := 0, slots := 0, locals := 22 } [.ref h0, .int a1, .int a2] (wO h0 ci tt) [] 0 0 (Ri D (fun (r : Int32) (u : Unit) => Q r ) (fun _ => [])) := by
  refine cn_ofR (by decide) (Nat.le_of_ble_eq_true rfl) (fun k C hR => ?_)
  have C : Cx D ca sd cX5_asked RX5 (some .int) { frames := 1, cells := 0, slots := 0, locals := 22 } k 3 := C
  unfold wp_X5_asked at hw
  show J l D k 3 0 0 0 (wO h0 ci tt) [(0, .ref h0), (1, .int a1), (2, .int a2)] []
  refine j_aload_n C 0 dX5_asked_0 rfl ?_
  refine j_iload_n C 1 dX5_asked_1 rfl ?_
  refine j_iload_n C 2 dX5_asked_2 rfl ?_
  refine j_ciZ C (jr_U2 C lkU_X5_15 (c_X4_asked h0 ci tt hci a1 a2 hw) ⟨rfl, rfl, by decide, by decide, by decide, by decide⟩ [0] (by decide) rfl (fx_ro C) 0 ci rfl hci rfl rfl (Nat.le_of_ble_eq_true rfl) dX5_asked_3) (fun r1 u1 hw => ?_)
  refine j_iload_n C 1 dX5_asked_6 rfl ?_
  refine j_bipush C 10 dX5_asked_7 (by decide) ?_
  refine j_idiv C dX5_asked_9 (by decide) ?_
  refine j_iadd C dX5_asked_10 ?_
  exact j_iretR C hR () rfl dX5_asked_11 hw
def wpv_goesOn (kk : Nat) (a1 a2 a3 : Int32) (Q : Int32 → Prop) : Prop := match kk with
  | 0 => wp_X4_goesOn a1 a2 a3 Q
  | 1 => wp_X0_goesOn a1 a2 a3 Q
  | 2 => wp_X3_goesOn a1 a2 a3 Q
  | 3 => wp_X6_goesOn a1 a2 a3 Q
  | 4 => wp_X1_goesOn a1 a2 a3 Q
  | 5 => wp_X5_goesOn a1 a2 a3 Q
  | _ => False
def wpv_tires (kk : Nat) (Q : Int32 → Prop) : Prop := match kk with
  | 0 => wp_X4_tires  Q
  | 1 => wp_X0_tires  Q
  | 2 => wp_X4_tires  Q
  | 3 => wp_X6_tires  Q
  | 4 => wp_X0_tires  Q
  | 5 => wp_X5_tires  Q
  | _ => False
def wpv_bid (kk : Nat) (a1 a2 a3 : Int32) (Q : Int32 → Prop) : Prop := match kk with
  | 0 => wp_X4_bid a1 a2 a3 Q
  | 1 => wp_X0_bid a1 a2 a3 Q
  | 2 => wp_X3_bid a1 a2 a3 Q
  | 3 => wp_X6_bid a1 a2 a3 Q
  | 4 => wp_X1_bid a1 a2 a3 Q
  | 5 => wp_X3_bid a1 a2 a3 Q
  | _ => False
def wpv_asked (kk : Nat) (a1 a2 : Int32) (Q : Int32 → Prop) : Prop := match kk with
  | 0 => wp_X4_asked a1 a2 Q
  | 1 => wp_X0_asked a1 a2 Q
  | 2 => wp_X4_asked a1 a2 Q
  | 3 => wp_X6_asked a1 a2 Q
  | 4 => wp_X0_asked a1 a2 Q
  | 5 => wp_X5_asked a1 a2 Q
  | _ => False
