theorem ct_J6_265 : Cond.constant RJ6 265 1431655765 ∈ TB := (tb_t 248 (by decide +kernel) rfl)
theorem ct_J6_266 : Cond.constant RJ6 266 858993459 ∈ TB := (tb_t 249 (by decide +kernel) rfl)
theorem ct_J6_267 : Cond.constant RJ6 267 252645135 ∈ TB := (tb_t 250 (by decide +kernel) rfl)
theorem lkS_X9_116 : LkS RX9 116 yX9_isKind cX9_isKind 1 (some .boolean) 1 := ⟨(tb_t 255 (by decide +kernel) rfl), (tb_t 256 (by decide +kernel) rfl), (tb_t 1 (by decide +kernel) rfl), (tb_t 257 (by decide +kernel) rfl), by decide, by decide, by decide +kernel⟩
theorem lkS_X9_87 : LkS RX9 87 yX9_isWithin cX9_isWithin 3 (some .boolean) 3 := ⟨(tb_t 218 (by decide +kernel) rfl), (tb_t 219 (by decide +kernel) rfl), (tb_t 1 (by decide +kernel) rfl), (tb_t 220 (by decide +kernel) rfl), by decide, by decide, by decide +kernel⟩
theorem sl_X9_278 : Cond.fieldLink RX9 278 "UnfinishedFair" "ABOVE" "[I" ∈ TB := (tb_t 386 (by decide +kernel) rfl)
def wpl_J7_fill_53178_5 (x1 : Int32) (x3 : Int32) (rn : Nat) (K : (Int32) → (Nat → Int32) → Prop) : Nat → (Int32) → (Nat → Int32) → Prop
  | 0, _, _ => False
  | n + 1, x2, f => (x3 ≤ x2 → K x2 f) ∧ (¬ (x3 ≤ x2) → vp_in x2 rn ∧ (wpl_J7_fill_53178_5 x1 x3 rn  K n (x2 + 1) (upd f (x2.toNatClampNeg) x1)))
def wp_J7_fill_53178 (f : Nat → Int32) (rn : Nat) (a2 : Int32) (Q : (Nat → Int32) → Prop) : Prop := ∃ n2 : Nat, wpl_J7_fill_53178_5 a2 (Int32.ofNat rn) rn  (fun y2_2 y2_f => Q y2_f) n2 0 f
set_option maxRecDepth 100000 in
set_option maxHeartbeats 8000000 in
theorem ml_J7_fill_53178_5 {l : Launch} {D : va_G} {ca : Nat → ClassId} {sd : Nat → Nat}  {k : Kx} (ra : Nat) (rn : Nat)  (x1 : Int32) (x3 : Int32) (C : Cx D ca sd cJ7_fill_53178 RJ7 none { frames := 0, cells := 0, slots := 0, locals := 0 } k 4) {Q : (Nat → Int32) → Prop} (hR : Rx (Rv D (fun u : (Nat → Int32) => Q u) (fun u => (wR ca ra rn u))) 0 0 k) (hB : Wx k) {K : (Int32) → (Nat → Int32) → Prop} (hK : ∀ (x2' : Int32) (f' : Nat → Int32), K x2' f' → J l D k 4 0 0 20 (wR ca ra rn f') [(0, .ref ra), (1, .int x1), (2, .int x2'), (3, .int x3)] []) : ∀ (n : Nat) (x2 : Int32) (f : Nat → Int32), wpl_J7_fill_53178_5 x1 x3 rn  K n x2 f → J l D k 4 0 0 5 (wR ca ra rn f) [(0, .ref ra), (1, .int x1), (2, .int x2), (3, .int x3)] [] := by
  intro n
  induction n with
  | zero =>
    intro x2 f hw
    rw [wpl_J7_fill_53178_5] at hw
    exact hw.elim
  | succ n ih =>
    intro x2 f hw
    rw [wpl_J7_fill_53178_5] at hw
    refine j_iload_n C 2 dJ7_fill_53178_5 rfl ?_
    refine j_iload_n C 3 dJ7_fill_53178_6 rfl ?_
    refine j_icmp_ge C 20 dJ7_fill_53178_7 (by decide) (fun z => ?_) (fun z => ?_)
    · replace hw := hw.1 z
      exact hK x2 f hw
    · replace hw := hw.2 z
      refine j_aload_n C 0 dJ7_fill_53178_10 rfl ?_
      refine j_iload_n C 2 dJ7_fill_53178_11 rfl ?_
      refine j_iload_n C 1 dJ7_fill_53178_12 rfl ?_
      have hi1 := hw.1
      replace hw := hw.2
      refine j_iast C hB 0 (wR ca ra rn (upd f (x2.toNatClampNeg) x1)) dJ7_fill_53178_13 rfl hi1 rfl ?_
      refine j_iinc C 2 (x2 + 1) [(2, .int (x2 + 1)), (0, .ref ra), (1, .int x1), (3, .int x3)] dJ7_fill_53178_14 rfl rfl (by decide) rfl ?_
      refine j_goto C 5 dJ7_fill_53178_17 (by decide) ?_
      refine j_lsub [1, 2, 0, 3] [(0, .ref ra), (1, .int x1), (2, .int (x2 + 1)), (3, .int x3)] rfl ?_
      exact ih (x2 + 1) (upd f (x2.toNatClampNeg) x1) hw
set_option maxRecDepth 100000 in
set_option maxHeartbeats 8000000 in
theorem c_J7_fill_53178 {l : Launch} {D : va_G} {ca : Nat → ClassId} {sd : Nat → Nat}  (ra : Nat) (rn : Nat) (f : Nat → Int32)  (a2 : Int32)  {Q : (Nat → Int32) → Prop} (hw : wp_J7_fill_53178 f rn a2 Q) : Cn l D ca sd yJ7_fill_53178 cJ7_fill_53178 4 none { frames := 0, cells := 0, slots := 0, locals := 0 } [.ref ra, .int a2] (wR ca ra rn f) (wR ca ra rn f) 0 0 (Rv D (fun u : (Nat → Int32) => Q u) (fun u => (wR ca ra rn u))) := by
  refine cn_of (by decide) (Nat.le_of_ble_eq_true rfl) (fun k C hR hB _ => ?_)
  have C : Cx D ca sd cJ7_fill_53178 RJ7 none { frames := 0, cells := 0, slots := 0, locals := 0 } k 4 := C
  unfold wp_J7_fill_53178 at hw
  show J l D k 4 0 0 0 (wR ca ra rn f) [(0, .ref ra), (1, .int a2)] []
  refine j_iconst C 0 dJ7_fill_53178_0 (by decide) ?_
  refine j_istore_n C [(2, .int 0), (0, .ref ra), (1, .int a2)] dJ7_fill_53178_1 (by decide) rfl ?_
  refine j_aload_n C 1 dJ7_fill_53178_2 rfl ?_
  refine j_alen C 0 (Int32.ofNat rn) dJ7_fill_53178_3 rfl rfl rfl ?_
  refine j_istore_n C [(3, .int (Int32.ofNat rn)), (2, .int 0), (0, .ref ra), (1, .int a2)] dJ7_fill_53178_4 (by decide) rfl ?_
  refine j_lsub [2, 3, 1, 0] [(0, .ref ra), (1, .int a2), (2, .int 0), (3, .int (Int32.ofNat rn))] rfl ?_
  obtain ⟨n2, hw⟩ := hw
  refine ml_J7_fill_53178_5 ra rn  a2 (Int32.ofNat rn) C hR hB (fun y2_2 y2_f hw => ?_) n2 0 f hw
  exact j_vret C hB hR y2_f rfl dJ7_fill_53178_20 hw rfl
def wpl_J7_fill_d0a16_6 (x1 : Int64) (x4 : Int32) (rn : Nat) (K : (Int32) → (Nat → Int64) → Prop) : Nat → (Int32) → (Nat → Int64) → Prop
  | 0, _, _ => False
  | n + 1, x3, f => (x4 ≤ x3 → K x3 f) ∧ (¬ (x4 ≤ x3) → vp_in x3 rn ∧ (wpl_J7_fill_d0a16_6 x1 x4 rn  K n (x3 + 1) (vp_updL f (x3.toNatClampNeg) x1)))
def wp_J7_fill_d0a16 (f : Nat → Int64) (rn : Nat) (a2 : Int64) (Q : (Nat → Int64) → Prop) : Prop := ∃ n2 : Nat, wpl_J7_fill_d0a16_6 a2 (Int32.ofNat rn) rn  (fun y2_3 y2_f => Q y2_f) n2 0 f
set_option maxRecDepth 100000 in
set_option maxHeartbeats 8000000 in
theorem ml_J7_fill_d0a16_6 {l : Launch} {D : va_G} {ca : Nat → ClassId} {sd : Nat → Nat}  {k : Kx} (ra : Nat) (rn : Nat)  (x1 : Int64) (x4 : Int32) (C : Cx D ca sd cJ7_fill_d0a16 RJ7 none { frames := 0, cells := 0, slots := 0, locals := 0 } k 5) {Q : (Nat → Int64) → Prop} (hR : Rx (Rv D (fun u : (Nat → Int64) => Q u) (fun u => (wRL ca ra rn u))) 0 0 k) (hB : Wx k) {K : (Int32) → (Nat → Int64) → Prop} (hK : ∀ (x3' : Int32) (f' : Nat → Int64), K x3' f' → J l D k 5 0 0 22 (wRL ca ra rn f') [(0, .ref ra), (1, .long x1), (3, .int x3'), (4, .int x4)] []) : ∀ (n : Nat) (x3 : Int32) (f : Nat → Int64), wpl_J7_fill_d0a16_6 x1 x4 rn  K n x3 f → J l D k 5 0 0 6 (wRL ca ra rn f) [(0, .ref ra), (1, .long x1), (3, .int x3), (4, .int x4)] [] := by
  intro n
  induction n with
  | zero =>
    intro x3 f hw
    rw [wpl_J7_fill_d0a16_6] at hw
    exact hw.elim
  | succ n ih =>
    intro x3 f hw
    rw [wpl_J7_fill_d0a16_6] at hw
    refine j_iload_n C 2 dJ7_fill_d0a16_6 rfl ?_
    refine j_iload C 3 dJ7_fill_d0a16_7 rfl ?_
    refine j_icmp_ge C 22 dJ7_fill_d0a16_9 (by decide) (fun z => ?_) (fun z => ?_)
    · replace hw := hw.1 z
      exact hK x3 f hw
    · replace hw := hw.2 z
      refine j_aload_n C 0 dJ7_fill_d0a16_12 rfl ?_
      refine j_iload_n C 2 dJ7_fill_d0a16_13 rfl ?_
      refine j_lload_n C 1 dJ7_fill_d0a16_14 rfl ?_
      have hi1 := hw.1
      replace hw := hw.2
      refine j_last C hB 0 (wRL ca ra rn (vp_updL f (x3.toNatClampNeg) x1)) dJ7_fill_d0a16_15 rfl hi1 rfl ?_
      refine j_iinc C 2 (x3 + 1) [(3, .int (x3 + 1)), (0, .ref ra), (1, .long x1), (4, .int x4)] dJ7_fill_d0a16_16 rfl rfl (by decide) rfl ?_
      refine j_goto C 6 dJ7_fill_d0a16_19 (by decide) ?_
      refine j_lsub [1, 2, 0, 3] [(0, .ref ra), (1, .long x1), (3, .int (x3 + 1)), (4, .int x4)] rfl ?_
      exact ih (x3 + 1) (vp_updL f (x3.toNatClampNeg) x1) hw
set_option maxRecDepth 100000 in
set_option maxHeartbeats 8000000 in
theorem c_J7_fill_d0a16 {l : Launch} {D : va_G} {ca : Nat → ClassId} {sd : Nat → Nat}  (ra : Nat) (rn : Nat) (f : Nat → Int64)  (a2 : Int64)  {Q : (Nat → Int64) → Prop} (hw : wp_J7_fill_d0a16 f rn a2 Q) : Cn l D ca sd yJ7_fill_d0a16 cJ7_fill_d0a16 5 none { frames := 0, cells := 0, slots := 0, locals := 0 } [.ref ra, .long a2] (wRL ca ra rn f) (wRL ca ra rn f) 0 0 (Rv D (fun u : (Nat → Int64) => Q u) (fun u => (wRL ca ra rn u))) := by
  refine cn_of (by decide) (Nat.le_of_ble_eq_true rfl) (fun k C hR hB _ => ?_)
  have C : Cx D ca sd cJ7_fill_d0a16 RJ7 none { frames := 0, cells := 0, slots := 0, locals := 0 } k 5 := C
  unfold wp_J7_fill_d0a16 at hw
  show J l D k 5 0 0 0 (wRL ca ra rn f) [(0, .ref ra), (1, .long a2)] []
  refine j_iconst C 0 dJ7_fill_d0a16_0 (by decide) ?_
  refine j_istore_n C [(3, .int 0), (0, .ref ra), (1, .long a2)] dJ7_fill_d0a16_1 (by decide) rfl ?_
  refine j_aload_n C 1 dJ7_fill_d0a16_2 rfl ?_
  refine j_alen C 0 (Int32.ofNat rn) dJ7_fill_d0a16_3 rfl rfl rfl ?_
  refine j_istore C [(4, .int (Int32.ofNat rn)), (3, .int 0), (0, .ref ra), (1, .long a2)] dJ7_fill_d0a16_4 (by decide) rfl ?_
  refine j_lsub [2, 3, 1, 0] [(0, .ref ra), (1, .long a2), (3, .int 0), (4, .int (Int32.ofNat rn))] rfl ?_
  obtain ⟨n2, hw⟩ := hw
  refine ml_J7_fill_d0a16_6 ra rn  a2 (Int32.ofNat rn) C hR hB (fun y2_3 y2_f hw => ?_) n2 0 f hw
  exact j_vret C hB hR y2_f rfl dJ7_fill_d0a16_22 hw rfl
def wp_J6_bitCount_0f7a4   (a1 : Int32) (Q : (Int32) → Prop) : Prop := Q ((((((((a1 - ((((a1).toUInt32 >>> ((1 : Int32).toUInt32 &&& Int32.toUInt32 31)).toInt32) &&& 1431655765)) &&& 858993459) + ((((a1 - ((((a1).toUInt32 >>> ((1 : Int32).toUInt32 &&& Int32.toUInt32 31)).toInt32) &&& 1431655765)).toUInt32 >>> ((2 : Int32).toUInt32 &&& Int32.toUInt32 31)).toInt32) &&& 858993459)) + (((((a1 - ((((a1).toUInt32 >>> ((1 : Int32).toUInt32 &&& Int32.toUInt32 31)).toInt32) &&& 1431655765)) &&& 858993459) + ((((a1 - ((((a1).toUInt32 >>> ((1 : Int32).toUInt32 &&& Int32.toUInt32 31)).toInt32) &&& 1431655765)).toUInt32 >>> ((2 : Int32).toUInt32 &&& Int32.toUInt32 31)).toInt32) &&& 858993459)).toUInt32 >>> ((4 : Int32).toUInt32 &&& Int32.toUInt32 31)).toInt32)) &&& 252645135) + (((((((a1 - ((((a1).toUInt32 >>> ((1 : Int32).toUInt32 &&& Int32.toUInt32 31)).toInt32) &&& 1431655765)) &&& 858993459) + ((((a1 - ((((a1).toUInt32 >>> ((1 : Int32).toUInt32 &&& Int32.toUInt32 31)).toInt32) &&& 1431655765)).toUInt32 >>> ((2 : Int32).toUInt32 &&& Int32.toUInt32 31)).toInt32) &&& 858993459)) + (((((a1 - ((((a1).toUInt32 >>> ((1 : Int32).toUInt32 &&& Int32.toUInt32 31)).toInt32) &&& 1431655765)) &&& 858993459) + ((((a1 - ((((a1).toUInt32 >>> ((1 : Int32).toUInt32 &&& Int32.toUInt32 31)).toInt32) &&& 1431655765)).toUInt32 >>> ((2 : Int32).toUInt32 &&& Int32.toUInt32 31)).toInt32) &&& 858993459)).toUInt32 >>> ((4 : Int32).toUInt32 &&& Int32.toUInt32 31)).toInt32)) &&& 252645135).toUInt32 >>> ((8 : Int32).toUInt32 &&& Int32.toUInt32 31)).toInt32)) + ((((((((a1 - ((((a1).toUInt32 >>> ((1 : Int32).toUInt32 &&& Int32.toUInt32 31)).toInt32) &&& 1431655765)) &&& 858993459) + ((((a1 - ((((a1).toUInt32 >>> ((1 : Int32).toUInt32 &&& Int32.toUInt32 31)).toInt32) &&& 1431655765)).toUInt32 >>> ((2 : Int32).toUInt32 &&& Int32.toUInt32 31)).toInt32) &&& 858993459)) + (((((a1 - ((((a1).toUInt32 >>> ((1 : Int32).toUInt32 &&& Int32.toUInt32 31)).toInt32) &&& 1431655765)) &&& 858993459) + ((((a1 - ((((a1).toUInt32 >>> ((1 : Int32).toUInt32 &&& Int32.toUInt32 31)).toInt32) &&& 1431655765)).toUInt32 >>> ((2 : Int32).toUInt32 &&& Int32.toUInt32 31)).toInt32) &&& 858993459)).toUInt32 >>> ((4 : Int32).toUInt32 &&& Int32.toUInt32 31)).toInt32)) &&& 252645135) + (((((((a1 - ((((a1).toUInt32 >>> ((1 : Int32).toUInt32 &&& Int32.toUInt32 31)).toInt32) &&& 1431655765)) &&& 858993459) + ((((a1 - ((((a1).toUInt32 >>> ((1 : Int32).toUInt32 &&& Int32.toUInt32 31)).toInt32) &&& 1431655765)).toUInt32 >>> ((2 : Int32).toUInt32 &&& Int32.toUInt32 31)).toInt32) &&& 858993459)) + (((((a1 - ((((a1).toUInt32 >>> ((1 : Int32).toUInt32 &&& Int32.toUInt32 31)).toInt32) &&& 1431655765)) &&& 858993459) + ((((a1 - ((((a1).toUInt32 >>> ((1 : Int32).toUInt32 &&& Int32.toUInt32 31)).toInt32) &&& 1431655765)).toUInt32 >>> ((2 : Int32).toUInt32 &&& Int32.toUInt32 31)).toInt32) &&& 858993459)).toUInt32 >>> ((4 : Int32).toUInt32 &&& Int32.toUInt32 31)).toInt32)) &&& 252645135).toUInt32 >>> ((8 : Int32).toUInt32 &&& Int32.toUInt32 31)).toInt32)).toUInt32 >>> ((16 : Int32).toUInt32 &&& Int32.toUInt32 31)).toInt32)) &&& 63)
set_option maxRecDepth 100000 in
set_option maxHeartbeats 8000000 in
theorem c_J6_bitCount_0f7a4 {l : Launch} {D : va_G} {ca : Nat → ClassId} {sd : Nat → Nat}     (a1 : Int32)  {Q : (Int32) → Prop} (hw : wp_J6_bitCount_0f7a4   a1 Q) : Cn l D ca sd yJ6_bitCount_0f7a4 cJ6_bitCount_0f7a4 1 (some .int) { frames := 0, cells := 0, slots := 0, locals := 0 } [.int a1] ([] : va_W) [] 0 0 (Ri D (fun (r : Int32) (u : Unit) => Q r ) (fun _ => [])) := by
  refine cn_ofR (by decide) (Nat.le_of_ble_eq_true rfl) (fun k C hR => ?_)
  have C : Cx D ca sd cJ6_bitCount_0f7a4 RJ6 (some .int) { frames := 0, cells := 0, slots := 0, locals := 0 } k 1 := C
  unfold wp_J6_bitCount_0f7a4 at hw
  show J l D k 1 0 0 0 ([] : va_W) [(0, .int a1)] []
  refine j_iload_n C 0 dJ6_bitCount_0f7a4_0 rfl ?_
  refine j_iload_n C 0 dJ6_bitCount_0f7a4_1 rfl ?_
  refine j_iconst C 1 dJ6_bitCount_0f7a4_2 (by decide) ?_
  refine j_iushr C dJ6_bitCount_0f7a4_3 ?_
  refine j_ldc_w C dJ6_bitCount_0f7a4_4 ct_J6_265 ?_
  refine j_iand C dJ6_bitCount_0f7a4_7 ?_
  refine j_isub C dJ6_bitCount_0f7a4_8 ?_
  refine j_istore_n C [(0, .int (a1 - ((((a1).toUInt32 >>> ((1 : Int32).toUInt32 &&& Int32.toUInt32 31)).toInt32) &&& 1431655765)))] dJ6_bitCount_0f7a4_9 (by decide) rfl ?_
  refine j_iload_n C 0 dJ6_bitCount_0f7a4_10 rfl ?_
  refine j_ldc_w C dJ6_bitCount_0f7a4_11 ct_J6_266 ?_
  refine j_iand C dJ6_bitCount_0f7a4_14 ?_
  refine j_iload_n C 0 dJ6_bitCount_0f7a4_15 rfl ?_
  refine j_iconst C 2 dJ6_bitCount_0f7a4_16 (by decide) ?_
  refine j_iushr C dJ6_bitCount_0f7a4_17 ?_
  refine j_ldc_w C dJ6_bitCount_0f7a4_18 ct_J6_266 ?_
  refine j_iand C dJ6_bitCount_0f7a4_21 ?_
  refine j_iadd C dJ6_bitCount_0f7a4_22 ?_
  refine j_istore_n C [(0, .int (((a1 - ((((a1).toUInt32 >>> ((1 : Int32).toUInt32 &&& Int32.toUInt32 31)).toInt32) &&& 1431655765)) &&& 858993459) + ((((a1 - ((((a1).toUInt32 >>> ((1 : Int32).toUInt32 &&& Int32.toUInt32 31)).toInt32) &&& 1431655765)).toUInt32 >>> ((2 : Int32).toUInt32 &&& Int32.toUInt32 31)).toInt32) &&& 858993459)))] dJ6_bitCount_0f7a4_23 (by decide) rfl ?_
  refine j_iload_n C 0 dJ6_bitCount_0f7a4_24 rfl ?_
  refine j_iload_n C 0 dJ6_bitCount_0f7a4_25 rfl ?_
  refine j_iconst C 4 dJ6_bitCount_0f7a4_26 (by decide) ?_
  refine j_iushr C dJ6_bitCount_0f7a4_27 ?_
  refine j_iadd C dJ6_bitCount_0f7a4_28 ?_
  refine j_ldc_w C dJ6_bitCount_0f7a4_29 ct_J6_267 ?_
  refine j_iand C dJ6_bitCount_0f7a4_32 ?_
  refine j_istore_n C [(0, .int (((((a1 - ((((a1).toUInt32 >>> ((1 : Int32).toUInt32 &&& Int32.toUInt32 31)).toInt32) &&& 1431655765)) &&& 858993459) + ((((a1 - ((((a1).toUInt32 >>> ((1 : Int32).toUInt32 &&& Int32.toUInt32 31)).toInt32) &&& 1431655765)).toUInt32 >>> ((2 : Int32).toUInt32 &&& Int32.toUInt32 31)).toInt32) &&& 858993459)) + (((((a1 - ((((a1).toUInt32 >>> ((1 : Int32).toUInt32 &&& Int32.toUInt32 31)).toInt32) &&& 1431655765)) &&& 858993459) + ((((a1 - ((((a1).toUInt32 >>> ((1 : Int32).toUInt32 &&& Int32.toUInt32 31)).toInt32) &&& 1431655765)).toUInt32 >>> ((2 : Int32).toUInt32 &&& Int32.toUInt32 31)).toInt32) &&& 858993459)).toUInt32 >>> ((4 : Int32).toUInt32 &&& Int32.toUInt32 31)).toInt32)) &&& 252645135))] dJ6_bitCount_0f7a4_33 (by decide) rfl ?_
  refine j_iload_n C 0 dJ6_bitCount_0f7a4_34 rfl ?_
  refine j_iload_n C 0 dJ6_bitCount_0f7a4_35 rfl ?_
  refine j_bipush C 8 dJ6_bitCount_0f7a4_36 (by decide) ?_
  refine j_iushr C dJ6_bitCount_0f7a4_38 ?_
  refine j_iadd C dJ6_bitCount_0f7a4_39 ?_
  refine j_istore_n C [(0, .int ((((((a1 - ((((a1).toUInt32 >>> ((1 : Int32).toUInt32 &&& Int32.toUInt32 31)).toInt32) &&& 1431655765)) &&& 858993459) + ((((a1 - ((((a1).toUInt32 >>> ((1 : Int32).toUInt32 &&& Int32.toUInt32 31)).toInt32) &&& 1431655765)).toUInt32 >>> ((2 : Int32).toUInt32 &&& Int32.toUInt32 31)).toInt32) &&& 858993459)) + (((((a1 - ((((a1).toUInt32 >>> ((1 : Int32).toUInt32 &&& Int32.toUInt32 31)).toInt32) &&& 1431655765)) &&& 858993459) + ((((a1 - ((((a1).toUInt32 >>> ((1 : Int32).toUInt32 &&& Int32.toUInt32 31)).toInt32) &&& 1431655765)).toUInt32 >>> ((2 : Int32).toUInt32 &&& Int32.toUInt32 31)).toInt32) &&& 858993459)).toUInt32 >>> ((4 : Int32).toUInt32 &&& Int32.toUInt32 31)).toInt32)) &&& 252645135) + (((((((a1 - ((((a1).toUInt32 >>> ((1 : Int32).toUInt32 &&& Int32.toUInt32 31)).toInt32) &&& 1431655765)) &&& 858993459) + ((((a1 - ((((a1).toUInt32 >>> ((1 : Int32).toUInt32 &&& Int32.toUInt32 31)).toInt32) &&& 1431655765)).toUInt32 >>> ((2 : Int32).toUInt32 &&& Int32.toUInt32 31)).toInt32) &&& 858993459)) + (((((a1 - ((((a1).toUInt32 >>> ((1 : Int32).toUInt32 &&& Int32.toUInt32 31)).toInt32) &&& 1431655765)) &&& 858993459) + ((((a1 - ((((a1).toUInt32 >>> ((1 : Int32).toUInt32 &&& Int32.toUInt32 31)).toInt32) &&& 1431655765)).toUInt32 >>> ((2 : Int32).toUInt32 &&& Int32.toUInt32 31)).toInt32) &&& 858993459)).toUInt32 >>> ((4 : Int32).toUInt32 &&& Int32.toUInt32 31)).toInt32)) &&& 252645135).toUInt32 >>> ((8 : Int32).toUInt32 &&& Int32.toUInt32 31)).toInt32)))] dJ6_bitCount_0f7a4_40 (by decide) rfl ?_
  refine j_iload_n C 0 dJ6_bitCount_0f7a4_41 rfl ?_
  refine j_iload_n C 0 dJ6_bitCount_0f7a4_42 rfl ?_
  refine j_bipush C 16 dJ6_bitCount_0f7a4_43 (by decide) ?_
  refine j_iushr C dJ6_bitCount_0f7a4_45 ?_
  refine j_iadd C dJ6_bitCount_0f7a4_46 ?_
  refine j_istore_n C [(0, .int (((((((a1 - ((((a1).toUInt32 >>> ((1 : Int32).toUInt32 &&& Int32.toUInt32 31)).toInt32) &&& 1431655765)) &&& 858993459) + ((((a1 - ((((a1).toUInt32 >>> ((1 : Int32).toUInt32 &&& Int32.toUInt32 31)).toInt32) &&& 1431655765)).toUInt32 >>> ((2 : Int32).toUInt32 &&& Int32.toUInt32 31)).toInt32) &&& 858993459)) + (((((a1 - ((((a1).toUInt32 >>> ((1 : Int32).toUInt32 &&& Int32.toUInt32 31)).toInt32) &&& 1431655765)) &&& 858993459) + ((((a1 - ((((a1).toUInt32 >>> ((1 : Int32).toUInt32 &&& Int32.toUInt32 31)).toInt32) &&& 1431655765)).toUInt32 >>> ((2 : Int32).toUInt32 &&& Int32.toUInt32 31)).toInt32) &&& 858993459)).toUInt32 >>> ((4 : Int32).toUInt32 &&& Int32.toUInt32 31)).toInt32)) &&& 252645135) + (((((((a1 - ((((a1).toUInt32 >>> ((1 : Int32).toUInt32 &&& Int32.toUInt32 31)).toInt32) &&& 1431655765)) &&& 858993459) + ((((a1 - ((((a1).toUInt32 >>> ((1 : Int32).toUInt32 &&& Int32.toUInt32 31)).toInt32) &&& 1431655765)).toUInt32 >>> ((2 : Int32).toUInt32 &&& Int32.toUInt32 31)).toInt32) &&& 858993459)) + (((((a1 - ((((a1).toUInt32 >>> ((1 : Int32).toUInt32 &&& Int32.toUInt32 31)).toInt32) &&& 1431655765)) &&& 858993459) + ((((a1 - ((((a1).toUInt32 >>> ((1 : Int32).toUInt32 &&& Int32.toUInt32 31)).toInt32) &&& 1431655765)).toUInt32 >>> ((2 : Int32).toUInt32 &&& Int32.toUInt32 31)).toInt32) &&& 858993459)).toUInt32 >>> ((4 : Int32).toUInt32 &&& Int32.toUInt32 31)).toInt32)) &&& 252645135).toUInt32 >>> ((8 : Int32).toUInt32 &&& Int32.toUInt32 31)).toInt32)) + ((((((((a1 - ((((a1).toUInt32 >>> ((1 : Int32).toUInt32 &&& Int32.toUInt32 31)).toInt32) &&& 1431655765)) &&& 858993459) + ((((a1 - ((((a1).toUInt32 >>> ((1 : Int32).toUInt32 &&& Int32.toUInt32 31)).toInt32) &&& 1431655765)).toUInt32 >>> ((2 : Int32).toUInt32 &&& Int32.toUInt32 31)).toInt32) &&& 858993459)) + (((((a1 - ((((a1).toUInt32 >>> ((1 : Int32).toUInt32 &&& Int32.toUInt32 31)).toInt32) &&& 1431655765)) &&& 858993459) + ((((a1 - ((((a1).toUInt32 >>> ((1 : Int32).toUInt32 &&& Int32.toUInt32 31)).toInt32) &&& 1431655765)).toUInt32 >>> ((2 : Int32).toUInt32 &&& Int32.toUInt32 31)).toInt32) &&& 858993459)).toUInt32 >>> ((4 : Int32).toUInt32 &&& Int32.toUInt32 31)).toInt32)) &&& 252645135) + (((((((a1 - ((((a1).toUInt32 >>> ((1 : Int32).toUInt32 &&& Int32.toUInt32 31)).toInt32) &&& 1431655765)) &&& 858993459) + ((((a1 - ((((a1).toUInt32 >>> ((1 : Int32).toUInt32 &&& Int32.toUInt32 31)).toInt32) &&& 1431655765)).toUInt32 >>> ((2 : Int32).toUInt32 &&& Int32.toUInt32 31)).toInt32) &&& 858993459)) + (((((a1 - ((((a1).toUInt32 >>> ((1 : Int32).toUInt32 &&& Int32.toUInt32 31)).toInt32) &&& 1431655765)) &&& 858993459) + ((((a1 - ((((a1).toUInt32 >>> ((1 : Int32).toUInt32 &&& Int32.toUInt32 31)).toInt32) &&& 1431655765)).toUInt32 >>> ((2 : Int32).toUInt32 &&& Int32.toUInt32 31)).toInt32) &&& 858993459)).toUInt32 >>> ((4 : Int32).toUInt32 &&& Int32.toUInt32 31)).toInt32)) &&& 252645135).toUInt32 >>> ((8 : Int32).toUInt32 &&& Int32.toUInt32 31)).toInt32)).toUInt32 >>> ((16 : Int32).toUInt32 &&& Int32.toUInt32 31)).toInt32)))] dJ6_bitCount_0f7a4_47 (by decide) rfl ?_
  refine j_iload_n C 0 dJ6_bitCount_0f7a4_48 rfl ?_
  refine j_bipush C 63 dJ6_bitCount_0f7a4_49 (by decide) ?_
  refine j_iand C dJ6_bitCount_0f7a4_51 ?_
  exact j_iretR C hR () rfl dJ6_bitCount_0f7a4_52 hw
def wp_X9_isWithin   (a1 : Int32) (a2 : Int32) (a3 : Int32) (Q : (Int32) → Prop) : Prop := (a1 < a2 → Q 0) ∧ (¬ (a1 < a2) → (a3 < a1 → Q 0) ∧ (¬ (a3 < a1) → Q 1))
set_option maxRecDepth 100000 in
set_option maxHeartbeats 8000000 in
theorem c_X9_isWithin {l : Launch} {D : va_G} {ca : Nat → ClassId} {sd : Nat → Nat}     (a1 : Int32) (a2 : Int32) (a3 : Int32)  {Q : (Int32) → Prop} (hw : wp_X9_isWithin   a1 a2 a3 Q) : Cn l D ca sd yX9_isWithin cX9_isWithin 3 (some .boolean) { frames := 0, cells := 0, slots := 0, locals := 0 } [.int a1, .int a2, .int a3] ([] : va_W) [] 0 0 (Ri D (fun (r : Int32) (u : Unit) => Q r ) (fun _ => [])) := by
  refine cn_ofR (by decide) (Nat.le_of_ble_eq_true rfl) (fun k C hR => ?_)
  have C : Cx D ca sd cX9_isWithin RX9 (some .boolean) { frames := 0, cells := 0, slots := 0, locals := 0 } k 3 := C
  unfold wp_X9_isWithin at hw
  show J l D k 3 0 0 0 ([] : va_W) [(0, .int a1), (1, .int a2), (2, .int a3)] []
  refine j_iload_n C 0 dX9_isWithin_0 rfl ?_
  refine j_iload_n C 1 dX9_isWithin_1 rfl ?_
  refine j_icmp_lt C 14 dX9_isWithin_2 (by decide) (fun z => ?_) (fun z => ?_)
  · replace hw := hw.1 z
    refine j_iconst C 0 dX9_isWithin_14 (by decide) ?_
    exact j_zretR C hR (by decide) () rfl dX9_isWithin_15 hw
  · replace hw := hw.2 z
    refine j_iload_n C 0 dX9_isWithin_5 rfl ?_
    refine j_iload_n C 2 dX9_isWithin_6 rfl ?_
    refine j_icmp_gt C 14 dX9_isWithin_7 (by decide) (fun z => ?_) (fun z => ?_)
    · replace hw := hw.1 z
      refine j_iconst C 0 dX9_isWithin_14 (by decide) ?_
      exact j_zretR C hR (by decide) () rfl dX9_isWithin_15 hw
    · replace hw := hw.2 z
      refine j_iconst C 1 dX9_isWithin_10 (by decide) ?_
      refine j_goto C 15 dX9_isWithin_11 (by decide) ?_
      exact j_zretR C hR (by decide) () rfl dX9_isWithin_15 hw
def wp_X9_isPerson   (a1 : Int32) (Q : (Int32) → Prop) : Prop := wp_X9_isWithin a1 0 5 (fun r1 => (narrow .boolean (.int r1) = .int r1) ∧ Q r1)
set_option maxRecDepth 100000 in
set_option maxHeartbeats 8000000 in
theorem c_X9_isPerson {l : Launch} {D : va_G} {ca : Nat → ClassId} {sd : Nat → Nat}     (a1 : Int32)  {Q : (Int32) → Prop} (hw : wp_X9_isPerson   a1 Q) : Cn l D ca sd yX9_isPerson cX9_isPerson 1 (some .boolean) { frames := 1, cells := 0, slots := 0, locals := 22 } [.int a1] ([] : va_W) [] 0 0 (Ri D (fun (r : Int32) (u : Unit) => Q r ) (fun _ => [])) := by
  refine cn_ofR (by decide) (Nat.le_of_ble_eq_true rfl) (fun k C hR => ?_)
  have C : Cx D ca sd cX9_isPerson RX9 (some .boolean) { frames := 1, cells := 0, slots := 0, locals := 22 } k 1 := C
  unfold wp_X9_isPerson at hw
  show J l D k 1 0 0 0 ([] : va_W) [(0, .int a1)] []
  refine j_iload_n C 0 dX9_isPerson_0 rfl ?_
  refine j_iconst C 0 dX9_isPerson_1 (by decide) ?_
  refine j_iconst C 5 dX9_isPerson_2 (by decide) ?_
  refine j_ciZ C (jr_S C lkS_X9_87 (c_X9_isWithin a1 0 5 hw) ⟨rfl, rfl, by decide, by decide, by decide, by decide⟩ [] (by decide) rfl (fx_ro C) rfl rfl (Nat.le_of_ble_eq_true rfl) dX9_isPerson_3) (fun r1 u1 hw => ?_)
  exact j_zretR C hR hw.1 () rfl dX9_isPerson_6 hw.2
def wp_X9_isKind   (a1 : Int32) (Q : (Int32) → Prop) : Prop := wp_X9_isWithin a1 0 5 (fun r1 => (narrow .boolean (.int r1) = .int r1) ∧ Q r1)
set_option maxRecDepth 100000 in
set_option maxHeartbeats 8000000 in
theorem c_X9_isKind {l : Launch} {D : va_G} {ca : Nat → ClassId} {sd : Nat → Nat}     (a1 : Int32)  {Q : (Int32) → Prop} (hw : wp_X9_isKind   a1 Q) : Cn l D ca sd yX9_isKind cX9_isKind 1 (some .boolean) { frames := 1, cells := 0, slots := 0, locals := 22 } [.int a1] ([] : va_W) [] 0 0 (Ri D (fun (r : Int32) (u : Unit) => Q r ) (fun _ => [])) := by
  refine cn_ofR (by decide) (Nat.le_of_ble_eq_true rfl) (fun k C hR => ?_)
  have C : Cx D ca sd cX9_isKind RX9 (some .boolean) { frames := 1, cells := 0, slots := 0, locals := 22 } k 1 := C
  unfold wp_X9_isKind at hw
  show J l D k 1 0 0 0 ([] : va_W) [(0, .int a1)] []
  refine j_iload_n C 0 dX9_isKind_0 rfl ?_
  refine j_iconst C 0 dX9_isKind_1 (by decide) ?_
  refine j_iconst C 5 dX9_isKind_2 (by decide) ?_
  refine j_ciZ C (jr_S C lkS_X9_87 (c_X9_isWithin a1 0 5 hw) ⟨rfl, rfl, by decide, by decide, by decide, by decide⟩ [] (by decide) rfl (fx_ro C) rfl rfl (Nat.le_of_ble_eq_true rfl) dX9_isKind_3) (fun r1 u1 hw => ?_)
  exact j_zretR C hR hw.1 () rfl dX9_isKind_6 hw.2
def wp_X9_isSheet   (a1 : Int32) (Q : (Int32) → Prop) : Prop := wp_X9_isWithin a1 0 3 (fun r1 => (narrow .boolean (.int r1) = .int r1) ∧ Q r1)
set_option maxRecDepth 100000 in
set_option maxHeartbeats 8000000 in
theorem c_X9_isSheet {l : Launch} {D : va_G} {ca : Nat → ClassId} {sd : Nat → Nat}     (a1 : Int32)  {Q : (Int32) → Prop} (hw : wp_X9_isSheet   a1 Q) : Cn l D ca sd yX9_isSheet cX9_isSheet 1 (some .boolean) { frames := 1, cells := 0, slots := 0, locals := 22 } [.int a1] ([] : va_W) [] 0 0 (Ri D (fun (r : Int32) (u : Unit) => Q r ) (fun _ => [])) := by
  refine cn_ofR (by decide) (Nat.le_of_ble_eq_true rfl) (fun k C hR => ?_)
  have C : Cx D ca sd cX9_isSheet RX9 (some .boolean) { frames := 1, cells := 0, slots := 0, locals := 22 } k 1 := C
  unfold wp_X9_isSheet at hw
  show J l D k 1 0 0 0 ([] : va_W) [(0, .int a1)] []
  refine j_iload_n C 0 dX9_isSheet_0 rfl ?_
  refine j_iconst C 0 dX9_isSheet_1 (by decide) ?_
  refine j_iconst C 3 dX9_isSheet_2 (by decide) ?_
  refine j_ciZ C (jr_S C lkS_X9_87 (c_X9_isWithin a1 0 3 hw) ⟨rfl, rfl, by decide, by decide, by decide, by decide⟩ [] (by decide) rfl (fx_ro C) rfl rfl (Nat.le_of_ble_eq_true rfl) dX9_isSheet_3) (fun r1 u1 hw => ?_)
  exact j_zretR C hR hw.1 () rfl dX9_isSheet_6 hw.2
def wp_X9_isWidth   (a1 : Int32) (Q : (Int32) → Prop) : Prop := (a1 = 0 → Q 1) ∧ (¬ (a1 = 0) → (a1 = 8 → Q 1) ∧ (¬ (a1 = 8) → (a1 = 16 → Q 1) ∧ (¬ (a1 = 16) → (a1 = 64 → Q 1) ∧ (¬ (a1 = 64) → Q 0))))
set_option maxRecDepth 100000 in
set_option maxHeartbeats 8000000 in
theorem c_X9_isWidth {l : Launch} {D : va_G} {ca : Nat → ClassId} {sd : Nat → Nat}     (a1 : Int32)  {Q : (Int32) → Prop} (hw : wp_X9_isWidth   a1 Q) : Cn l D ca sd yX9_isWidth cX9_isWidth 1 (some .boolean) { frames := 0, cells := 0, slots := 0, locals := 0 } [.int a1] ([] : va_W) [] 0 0 (Ri D (fun (r : Int32) (u : Unit) => Q r ) (fun _ => [])) := by
  refine cn_ofR (by decide) (Nat.le_of_ble_eq_true rfl) (fun k C hR => ?_)
  have C : Cx D ca sd cX9_isWidth RX9 (some .boolean) { frames := 0, cells := 0, slots := 0, locals := 0 } k 1 := C
  unfold wp_X9_isWidth at hw
  show J l D k 1 0 0 0 ([] : va_W) [(0, .int a1)] []
  refine j_iload_n C 0 dX9_isWidth_0 rfl ?_
  refine j_if_eq C 22 dX9_isWidth_1 (by decide) (fun z => ?_) (fun z => ?_)
  · replace hw := hw.1 z
    refine j_iconst C 1 dX9_isWidth_22 (by decide) ?_
    refine j_goto C 27 dX9_isWidth_23 (by decide) ?_
    exact j_zretR C hR (by decide) () rfl dX9_isWidth_27 hw
  · replace hw := hw.2 z
    refine j_iload_n C 0 dX9_isWidth_4 rfl ?_
    refine j_bipush C 8 dX9_isWidth_5 (by decide) ?_
    refine j_icmp_eq C 22 dX9_isWidth_7 (by decide) (fun z => ?_) (fun z => ?_)
    · replace hw := hw.1 z
      refine j_iconst C 1 dX9_isWidth_22 (by decide) ?_
      refine j_goto C 27 dX9_isWidth_23 (by decide) ?_
      exact j_zretR C hR (by decide) () rfl dX9_isWidth_27 hw
    · replace hw := hw.2 z
      refine j_iload_n C 0 dX9_isWidth_10 rfl ?_
      refine j_bipush C 16 dX9_isWidth_11 (by decide) ?_
      refine j_icmp_eq C 22 dX9_isWidth_13 (by decide) (fun z => ?_) (fun z => ?_)
      · replace hw := hw.1 z
        refine j_iconst C 1 dX9_isWidth_22 (by decide) ?_
        refine j_goto C 27 dX9_isWidth_23 (by decide) ?_
        exact j_zretR C hR (by decide) () rfl dX9_isWidth_27 hw
      · replace hw := hw.2 z
        refine j_iload_n C 0 dX9_isWidth_16 rfl ?_
        refine j_bipush C 64 dX9_isWidth_17 (by decide) ?_
        refine j_icmp_ne C 26 dX9_isWidth_19 (by decide) (fun z => ?_) (fun z => ?_)
        · replace hw := hw.2 z
          refine j_iconst C 0 dX9_isWidth_26 (by decide) ?_
          exact j_zretR C hR (by decide) () rfl dX9_isWidth_27 hw
        · replace hw := hw.1 z
          refine j_iconst C 1 dX9_isWidth_22 (by decide) ?_
          refine j_goto C 27 dX9_isWidth_23 (by decide) ?_
          exact j_zretR C hR (by decide) () rfl dX9_isWidth_27 hw
def wpl_X9_isOrIsUnder_4 (x1 : Int32) (Q : (Int32) → Prop) (K : (Int32) → (Int32) → Prop) : Nat → (Int32) → (Int32) → Prop
  | 0, _, _ => False
  | n + 1, x2, x3 => (6 ≤ x3 → K x2 x3) ∧ (¬ (6 ≤ x3) → wp_X9_isKind x2 (fun r1 => (r1 = 0 → K x2 x3) ∧ (¬ (r1 = 0) → (x2 = x1 → Q 1) ∧ (¬ (x2 = x1) → vp_in x2 6 ∧ (wpl_X9_isOrIsUnder_4 x1 Q K n (abvL.getD (x2).toNatClampNeg 0) (x3 + 1))))))
def wp_X9_isOrIsUnder   (a1 : Int32) (a2 : Int32) (Q : (Int32) → Prop) : Prop := ∃ n3 : Nat, wpl_X9_isOrIsUnder_4 a2 Q (fun y3_2 y3_3 => Q 0) n3 a1 0
set_option maxRecDepth 100000 in
set_option maxHeartbeats 8000000 in
theorem ml_X9_isOrIsUnder_4 {l : Launch} {D : va_G} {ca : Nat → ClassId} {sd : Nat → Nat}  {k : Kx}   (x0 : Int32) (x1 : Int32) (C : Cx D ca sd cX9_isOrIsUnder RX9 (some .boolean) { frames := 2, cells := 0, slots := 0, locals := 42 } k 4) {Q : (Int32) → Prop} (hR : Rx (Ri D (fun (r : Int32) (u : Unit) => Q r ) (fun _ => [])) 0 0 k) {K : (Int32) → (Int32) → Prop} (hK : ∀ (x2' : Int32) (x3' : Int32), K x2' x3' → J l D k 4 0 0 36 ([] : va_W) [(0, .int x0), (1, .int x1), (2, .int x2'), (3, .int x3')] []) : ∀ (n : Nat) (x2 : Int32) (x3 : Int32), wpl_X9_isOrIsUnder_4 x1 Q K n x2 x3 → J l D k 4 0 0 4 ([] : va_W) [(0, .int x0), (1, .int x1), (2, .int x2), (3, .int x3)] [] := by
  intro n
  induction n with
  | zero =>
    intro x2 x3 hw
    rw [wpl_X9_isOrIsUnder_4] at hw
    exact hw.elim
  | succ n ih =>
    intro x2 x3 hw
    rw [wpl_X9_isOrIsUnder_4] at hw
    refine j_iload_n C 3 dX9_isOrIsUnder_4 rfl ?_
    refine j_bipush C 6 dX9_isOrIsUnder_5 (by decide) ?_
    refine j_icmp_ge C 36 dX9_isOrIsUnder_7 (by decide) (fun z => ?_) (fun z => ?_)
    · replace hw := hw.1 z
      exact hK x2 x3 hw
    · replace hw := hw.2 z
      refine j_iload_n C 2 dX9_isOrIsUnder_10 rfl ?_
      refine j_ciZ C (jr_S C lkS_X9_116 (c_X9_isKind x2 hw) ⟨rfl, rfl, by decide, by decide, by decide, by decide⟩ [] (by decide) rfl (fx_ro C) rfl rfl (Nat.le_of_ble_eq_true rfl) dX9_isOrIsUnder_11) (fun r1 u1 hw => ?_)
      refine j_if_eq C 36 dX9_isOrIsUnder_14 (by decide) (fun z => ?_) (fun z => ?_)
      · replace hw := hw.1 z
        exact hK x2 x3 hw
      · replace hw := hw.2 z
        refine j_iload_n C 2 dX9_isOrIsUnder_17 rfl ?_
        refine j_iload_n C 1 dX9_isOrIsUnder_18 rfl ?_
        refine j_icmp_ne C 24 dX9_isOrIsUnder_19 (by decide) (fun z => ?_) (fun z => ?_)
        · replace hw := hw.2 z
          refine j_above C 278 dX9_isOrIsUnder_24 sl_X9_278 ?_
          refine j_iload_n C 2 dX9_isOrIsUnder_27 rfl ?_
          have hi2 := hw.1
          replace hw := hw.2
          refine j_st0 C dX9_isOrIsUnder_28 hi2 ?_
          refine j_istore_n C [(2, .int (abvL.getD (x2).toNatClampNeg 0)), (0, .int x0), (1, .int x1), (3, .int x3)] dX9_isOrIsUnder_29 (by decide) rfl ?_
          refine j_iinc C 3 (x3 + 1) [(3, .int (x3 + 1)), (2, .int (abvL.getD (x2).toNatClampNeg 0)), (0, .int x0), (1, .int x1)] dX9_isOrIsUnder_30 rfl rfl (by decide) rfl ?_
          refine j_goto C 4 dX9_isOrIsUnder_33 (by decide) ?_
          refine j_lsub [2, 3, 1, 0] [(0, .int x0), (1, .int x1), (2, .int (abvL.getD (x2).toNatClampNeg 0)), (3, .int (x3 + 1))] rfl ?_
          exact ih (abvL.getD (x2).toNatClampNeg 0) (x3 + 1) hw
        · replace hw := hw.1 z
          refine j_iconst C 1 dX9_isOrIsUnder_22 (by decide) ?_
          exact j_zretR C hR (by decide) () rfl dX9_isOrIsUnder_23 hw
set_option maxRecDepth 100000 in
set_option maxHeartbeats 8000000 in
theorem c_X9_isOrIsUnder {l : Launch} {D : va_G} {ca : Nat → ClassId} {sd : Nat → Nat}     (a1 : Int32) (a2 : Int32)  {Q : (Int32) → Prop} (hw : wp_X9_isOrIsUnder   a1 a2 Q) : Cn l D ca sd yX9_isOrIsUnder cX9_isOrIsUnder 4 (some .boolean) { frames := 2, cells := 0, slots := 0, locals := 42 } [.int a1, .int a2] ([] : va_W) [] 0 0 (Ri D (fun (r : Int32) (u : Unit) => Q r ) (fun _ => [])) := by
  refine cn_ofR (by decide) (Nat.le_of_ble_eq_true rfl) (fun k C hR => ?_)
  have C : Cx D ca sd cX9_isOrIsUnder RX9 (some .boolean) { frames := 2, cells := 0, slots := 0, locals := 42 } k 4 := C
  unfold wp_X9_isOrIsUnder at hw
  show J l D k 4 0 0 0 ([] : va_W) [(0, .int a1), (1, .int a2)] []
  refine j_iload_n C 0 dX9_isOrIsUnder_0 rfl ?_
  refine j_istore_n C [(2, .int a1), (0, .int a1), (1, .int a2)] dX9_isOrIsUnder_1 (by decide) rfl ?_
  refine j_iconst C 0 dX9_isOrIsUnder_2 (by decide) ?_
  refine j_istore_n C [(3, .int 0), (2, .int a1), (0, .int a1), (1, .int a2)] dX9_isOrIsUnder_3 (by decide) rfl ?_
  refine j_lsub [2, 3, 1, 0] [(0, .int a1), (1, .int a2), (2, .int a1), (3, .int 0)] rfl ?_
  obtain ⟨n3, hw⟩ := hw
  refine ml_X9_isOrIsUnder_4   a1 a2 C hR (fun y3_2 y3_3 hw => ?_) n3 a1 0 hw
  refine j_iconst C 0 dX9_isOrIsUnder_36 (by decide) ?_
  exact j_zretR C hR (by decide) () rfl dX9_isOrIsUnder_37 hw
def wp_X9_exchange (f : Nat → Int32) (rn : Nat) (a2 : Int32) (a3 : Int32) (Q : (Int32) → (Nat → Int32) → Prop) : Prop := vp_in a2 rn ∧ (vp_in a2 rn ∧ (Q (f (a2.toNatClampNeg)) (upd f (a2.toNatClampNeg) a3)))
set_option maxRecDepth 100000 in
set_option maxHeartbeats 8000000 in
theorem c_X9_exchange {l : Launch} {D : va_G} {ca : Nat → ClassId} {sd : Nat → Nat}  (ra : Nat) (rn : Nat) (f : Nat → Int32)  (a2 : Int32) (a3 : Int32)  {Q : (Int32) → (Nat → Int32) → Prop} (hw : wp_X9_exchange f rn a2 a3 Q) : Cn l D ca sd yX9_exchange cX9_exchange 4 (some .int) { frames := 0, cells := 0, slots := 0, locals := 0 } [.ref ra, .int a2, .int a3] (wR ca ra rn f) (wR ca ra rn f) 0 0 (Ri D (fun (r : Int32) (u : (Nat → Int32)) => Q r u) (fun u => (wR ca ra rn u))) := by
  refine cn_of (by decide) (Nat.le_of_ble_eq_true rfl) (fun k C hR hB _ => ?_)
  have C : Cx D ca sd cX9_exchange RX9 (some .int) { frames := 0, cells := 0, slots := 0, locals := 0 } k 4 := C
  unfold wp_X9_exchange at hw
  show J l D k 4 0 0 0 (wR ca ra rn f) [(0, .ref ra), (1, .int a2), (2, .int a3)] []
  refine j_aload_n C 0 dX9_exchange_0 rfl ?_
  refine j_iload_n C 1 dX9_exchange_1 rfl ?_
  have hi1 := hw.1
  replace hw := hw.2
  refine j_iald C 0 dX9_exchange_2 rfl hi1 ?_
  refine j_istore_n C [(3, .int (f (a2.toNatClampNeg))), (0, .ref ra), (1, .int a2), (2, .int a3)] dX9_exchange_3 (by decide) rfl ?_
  refine j_aload_n C 1 dX9_exchange_4 rfl ?_
  refine j_iload_n C 2 dX9_exchange_5 rfl ?_
  refine j_iload_n C 3 dX9_exchange_6 rfl ?_
  have hi2 := hw.1
  replace hw := hw.2
  refine j_iast C hB 0 (wR ca ra rn (upd f (a2.toNatClampNeg) a3)) dX9_exchange_7 rfl hi2 rfl ?_
  refine j_iload_n C 0 dX9_exchange_8 rfl ?_
  exact j_iret C hB hR (upd f (a2.toNatClampNeg) a3) rfl dX9_exchange_9 hw rfl
def wpl_X9_sum_4 (f : Nat → Int32) (x1 : Int32) (rn : Nat) (K : (Int32) → (Int32) → Prop) : Nat → (Int32) → (Int32) → Prop
  | 0, _, _ => False
  | n + 1, x2, x3 => (x1 ≤ x3 → K x2 x3) ∧ (¬ (x1 ≤ x3) → ((Int32.ofNat rn) ≤ x3 → K x2 x3) ∧ (¬ ((Int32.ofNat rn) ≤ x3) → vp_in x3 rn ∧ (wpl_X9_sum_4 f x1 rn  K n (x2 + (f (x3.toNatClampNeg))) (x3 + 1))))
def wp_X9_sum (f : Nat → Int32) (rn : Nat) (a2 : Int32) (Q : (Int32) → Prop) : Prop := ∃ n2 : Nat, wpl_X9_sum_4 f a2 rn  (fun y2_2 y2_3 => Q y2_2) n2 0 0
set_option maxRecDepth 100000 in
set_option maxHeartbeats 8000000 in
theorem ml_X9_sum_4 {l : Launch} {D : va_G} {ca : Nat → ClassId} {sd : Nat → Nat}  {k : Kx} (ra : Nat) (rn : Nat)  (f : Nat → Int32) (x1 : Int32) (C : Cx D ca sd cX9_sum RX9 (some .int) { frames := 0, cells := 0, slots := 0, locals := 0 } k 4) {Q : (Int32) → Prop} (hR : Rx (Ri D (fun (r : Int32) (u : Unit) => Q r ) (fun _ => [])) 0 0 k) {K : (Int32) → (Int32) → Prop} (hK : ∀ (x2' : Int32) (x3' : Int32), K x2' x3' → J l D k 4 0 0 27 (wR ca ra rn f) [(0, .ref ra), (1, .int x1), (2, .int x2'), (3, .int x3')] []) : ∀ (n : Nat) (x2 : Int32) (x3 : Int32), wpl_X9_sum_4 f x1 rn  K n x2 x3 → J l D k 4 0 0 4 (wR ca ra rn f) [(0, .ref ra), (1, .int x1), (2, .int x2), (3, .int x3)] [] := by
  intro n
  induction n with
  | zero =>
    intro x2 x3 hw
    rw [wpl_X9_sum_4] at hw
    exact hw.elim
  | succ n ih =>
    intro x2 x3 hw
    rw [wpl_X9_sum_4] at hw
    refine j_iload_n C 3 dX9_sum_4 rfl ?_
    refine j_iload_n C 1 dX9_sum_5 rfl ?_
    refine j_icmp_ge C 27 dX9_sum_6 (by decide) (fun z => ?_) (fun z => ?_)
    · replace hw := hw.1 z
      exact hK x2 x3 hw
    · replace hw := hw.2 z
      refine j_iload_n C 3 dX9_sum_9 rfl ?_
      refine j_aload_n C 0 dX9_sum_10 rfl ?_
      refine j_alen C 0 (Int32.ofNat rn) dX9_sum_11 rfl rfl rfl ?_
      refine j_icmp_ge C 27 dX9_sum_12 (by decide) (fun z => ?_) (fun z => ?_)
      · replace hw := hw.1 z
        exact hK x2 x3 hw
      · replace hw := hw.2 z
        refine j_iload_n C 2 dX9_sum_15 rfl ?_
        refine j_aload_n C 0 dX9_sum_16 rfl ?_
        refine j_iload_n C 3 dX9_sum_17 rfl ?_
        have hi1 := hw.1
        replace hw := hw.2
        refine j_iald C 0 dX9_sum_18 rfl hi1 ?_
        refine j_iadd C dX9_sum_19 ?_
        refine j_istore_n C [(2, .int (x2 + (f (x3.toNatClampNeg)))), (0, .ref ra), (1, .int x1), (3, .int x3)] dX9_sum_20 (by decide) rfl ?_
        refine j_iinc C 3 (x3 + 1) [(3, .int (x3 + 1)), (2, .int (x2 + (f (x3.toNatClampNeg)))), (0, .ref ra), (1, .int x1)] dX9_sum_21 rfl rfl (by decide) rfl ?_
        refine j_goto C 4 dX9_sum_24 (by decide) ?_
        refine j_lsub [2, 3, 1, 0] [(0, .ref ra), (1, .int x1), (2, .int (x2 + (f (x3.toNatClampNeg)))), (3, .int (x3 + 1))] rfl ?_
        exact ih (x2 + (f (x3.toNatClampNeg))) (x3 + 1) hw
set_option maxRecDepth 100000 in
set_option maxHeartbeats 8000000 in
theorem c_X9_sum {l : Launch} {D : va_G} {ca : Nat → ClassId} {sd : Nat → Nat}  (ra : Nat) (rn : Nat) (f : Nat → Int32)  (a2 : Int32)  {Q : (Int32) → Prop} (hw : wp_X9_sum f rn a2 Q) : Cn l D ca sd yX9_sum cX9_sum 4 (some .int) { frames := 0, cells := 0, slots := 0, locals := 0 } [.ref ra, .int a2] (wR ca ra rn f) [] 0 0 (Ri D (fun (r : Int32) (u : Unit) => Q r ) (fun _ => [])) := by
  refine cn_ofR (by decide) (Nat.le_of_ble_eq_true rfl) (fun k C hR => ?_)
  have C : Cx D ca sd cX9_sum RX9 (some .int) { frames := 0, cells := 0, slots := 0, locals := 0 } k 4 := C
  unfold wp_X9_sum at hw
  show J l D k 4 0 0 0 (wR ca ra rn f) [(0, .ref ra), (1, .int a2)] []
  refine j_iconst C 0 dX9_sum_0 (by decide) ?_
  refine j_istore_n C [(2, .int 0), (0, .ref ra), (1, .int a2)] dX9_sum_1 (by decide) rfl ?_
  refine j_iconst C 0 dX9_sum_2 (by decide) ?_
  refine j_istore_n C [(3, .int 0), (2, .int 0), (0, .ref ra), (1, .int a2)] dX9_sum_3 (by decide) rfl ?_
  refine j_lsub [2, 3, 1, 0] [(0, .ref ra), (1, .int a2), (2, .int 0), (3, .int 0)] rfl ?_
  obtain ⟨n2, hw⟩ := hw
  refine ml_X9_sum_4 ra rn  f a2 C hR (fun y2_2 y2_3 hw => ?_) n2 0 0 hw
  refine j_iload_n C 2 dX9_sum_27 rfl ?_
  exact j_iretR C hR () rfl dX9_sum_28 hw
