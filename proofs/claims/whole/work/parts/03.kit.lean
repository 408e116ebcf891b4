/-- the tables' words that every call keeps -/
def TB : List Cond := lw_tbl.filter goodWord
theorem tb_in {w : Cond} (i : Nat) (h : lw_tbl[i]? = some w) (g : goodWord w = true) : w ∈ TB := List.mem_filter.mpr ⟨List.mem_of_getElem? h, g⟩
theorem tb_t {w : Cond} (i : Nat) (h : tables_1[i]? = some w) (g : goodWord w = true) : w ∈ TB := List.mem_filter.mpr ⟨List.mem_append_right _ (List.mem_of_getElem? h), g⟩
theorem tb_gi {ws : List Cond} (h : ∀ w ∈ ws, w ∈ TB) : GoodIn TB ws := fun w hw => ⟨h w hw, good_of_word (List.mem_filter.mp (h w hw)).2⟩
theorem tb_app {a b : List Cond} (ha : ∀ w ∈ a, w ∈ TB) (hb : ∀ w ∈ b, w ∈ TB) : ∀ w ∈ a ++ b, w ∈ TB := fun w h => (List.mem_append.mp h).elim (ha w) (hb w)
theorem tb_cons {c : Cond} {a : List Cond} (hc : c ∈ TB) (ha : ∀ w ∈ a, w ∈ TB) : ∀ w ∈ c :: a, w ∈ TB := fun w h => (List.mem_cons.mp h).elim (fun e => e ▸ hc) (ha w)
theorem tb_nil : ∀ w ∈ ([] : List Cond), w ∈ TB := fun _ h => absurd h List.not_mem_nil
/-! ===== my own layer: J, a walk over cells, locals and stack alone ===== -/
def abvL : List Int32 := [-1, 0, 0, 0, 1, 2]
def namL : List Int32 := [116, 104, 105, 110, 103, 0, 0, 98, 111, 97, 116, 0, 0, 0, 106, 101, 114, 115, 101, 121, 0, 113, 117, 97, 114, 114, 101, 108, 98, 114, 105, 100, 103, 101, 0, 108, 101, 116, 116, 101, 114, 0, 98, 121, 0, 0, 0, 0, 0, 100, 117, 115, 116, 0, 0, 0, 115, 107, 105, 108, 108, 0, 0, 122, 101, 97, 108, 0, 0, 0]
/-- the ten literals: thing boat jersey quarrel bridge letter skill zeal by dust -/
def lenS : List Nat := [5, 4, 6, 7, 6, 6, 5, 4, 2, 4]
def bytS : List (List Int32) := [[116, 104, 105, 110, 103], [98, 111, 97, 116], [106, 101, 114, 115, 101, 121], [113, 117, 97, 114, 114, 101, 108], [98, 114, 105, 100, 103, 101], [108, 101, 116, 116, 101, 114], [115, 107, 105, 108, 108], [122, 101, 97, 108], [98, 121], [100, 117, 115, 116]]
/-- the array classes in use -/
def gT (ca : Nat → ClassId) : List (ClassId × FieldType) := [(ca 0, .int), (ca 1, .long), (ca 2, .byte), (ca 3, .object "UnfinishedFair$Kind"), (ca 4, .object "UnfinishedFair$Sheet")]
/-- where each literal stands: owner, entry, text, place -/
def litS : List (String × Nat × String × Nat) := [("UnfinishedFair", 9, "thing", 0), ("UnfinishedFair", 16, "boat", 1), ("UnfinishedFair", 21, "jersey", 2), ("UnfinishedFair", 26, "quarrel", 3), ("UnfinishedFair", 31, "bridge", 4), ("UnfinishedFair", 36, "letter", 5), ("UnfinishedFair$Tape", 47, "skill", 6), ("UnfinishedFair$Tape", 63, "zeal", 7), ("UnfinishedFair$Tape", 76, "by", 8), ("UnfinishedFair$Tape", 78, "dust", 9)]
def nestS : List (String × Nat × MethodName × String) := [("UnfinishedFair", 73, ⟨"UnfinishedFair$Sheet", "<init>", "()V"⟩, "UnfinishedFair"), ("UnfinishedFair$Common", 122, ⟨"UnfinishedFair", "sum", "([II)I"⟩, "UnfinishedFair")]
/-- what stands outside the cells in use and never changes -/
def gS (sd : Nat → Nat) (A : Nat → Prop) (U : State) (H : Heap) : Prop :=
  va_Z "UnfinishedFair" "ABOVE" "[I" (.ref (sd 0)) A U H ∧ va_T .int (sd 0) 6 (fun j => .int (abvL.getD j 0)) A U H ∧
  va_Z "UnfinishedFairModel" "NAMES" "[I" (.ref (sd 1)) A U H ∧ va_T .int (sd 1) 70 (fun j => .int (namL.getD j 0)) A U H ∧
  va_Z "java/lang/String" "COMPACT_STRINGS" "Z" (.int 1) A U H ∧ va_Zq "jdk/internal/util/Preconditions" "SIOOBE_FORMATTER" "Ljava/util/function/BiFunction;" A U H ∧
  vk_S 10 lenS bytS (fun i => sd (2 + i)) (fun i => sd (12 + i)) A U H ∧
  (∀ q ∈ litS, vk_R q.1 q.2.1 q.2.2.1 (sd (2 + q.2.2.2)) U) ∧ (∀ q ∈ nestS, va_Nw (.methodLinkNest q.1 q.2.1 q.2.2.1 q.2.2.2) U) ∧ va_AO "UnfinishedFair$Kind" U ∧ va_AO "UnfinishedFair$Sheet" U
theorem gS_warm {sd : Nat → Nat} {A : Nat → Prop} {s U : State} {H : Heap} (hW : s.WarmedH U.vm) (h : gS sd A s H) : gS sd A U H := by
  obtain ⟨a, b, c, d, e, f, g, i, j, k, n⟩ := h
  exact ⟨a.moved hW.alike, b.moved hW.alike, c.moved hW.alike, d.moved hW.alike, e.moved hW.alike, f.moved hW.alike, g.moved hW.alike, fun q hq => (i q hq).warm hW, fun q hq => (j q hq).warmM hW, k.moved hW.alike, n.moved hW.alike⟩
theorem gS_same {sd : Nat → Nat} {A : Nat → Prop} {s U : State} {H : Heap} (hW : U.vm = s.vm) (h : gS sd A s H) : gS sd A U H := by
  obtain ⟨a, b, c, d, e, f, g, i, j, k, n⟩ := h
  have hA : s.vm.Alike U.vm := by rw [hW]; exact Vm.Alike.refl _
  exact ⟨a.moved hA, b.moved hA, c.moved hA, d.moved hA, e.moved hA, f.moved hA, g.moved hA, fun q hq => (i q hq).same hW, fun q hq => va_Nw.same rfl hW.symm (j q hq), k.moved hA, n.moved hA⟩
theorem gS_kept {sd : Nat → Nat} {A : Nat → Prop} {U : State} {H H1 : Heap} (h : gS sd A U H) (hq : ∀ a : Nat, a < H.size → ¬ A a → H1[a]? = H[a]?) : gS sd A U H1 := by
  obtain ⟨a, b, c, d, e, f, g, i, j, k, n⟩ := h
  exact ⟨a.kept hq, b.kept hq, c.kept hq, d.kept hq, e.kept hq, f.kept hq, g.kept hq, i, j, k, n⟩
theorem gS_narrow {sd : Nat → Nat} {A B : Nat → Prop} {U : State} {H : Heap} (h : gS sd A U H) (hq : ∀ q, B q → A q) : gS sd B U H := by
  obtain ⟨a, b, c, d, e, f, g, i, j, k, n⟩ := h
  exact ⟨a.narrow hq, b.narrow hq, c.narrow hq, d.narrow hq, e.narrow hq, f.narrow hq, g.narrow hq, i, j, k, n⟩
/-- the fixed things of a walk: program, environment, room, start, method, arguments, frames below, the method's own rows, the aim, the cells that may change -/
abbrev Kx := Program × Env × Room × State × MethodId × Array Value × List Frame × Method × Code × (State → Prop) × (Nat → Prop) × (Nat → Prop)
/-- from pc, with cells ws, locals lv, stack st, the walk comes to its aim -/
def J (l : Launch) (D : va_G) : Kx → Nat → Nat → Nat → Nat → va_W → List (Nat × Value) → List Value → Prop
  | (p, e, R, s, m, args, below, meth, c, Q, A, B), nL, cells, slots, pc, ws, lv, st => ∀ (H : Heap) (locs : List Loc) (ls : Array Slot), va_P D vwCl ws H → va_D B ws → va_S A s.heap H locs → lv_has ls nL lv → W p l e R s m args below meth c H locs cells slots Q (F0 m pc ls st)
/-- what is known of the fixed things -/
def Cx (D : va_G) (ca : Nat → ClassId) (sd : Nat → Nat) (cc : ByteArray) (own : String) (ret : Option FieldType) (R0 : Room) : Kx → Nat → Prop
  | (p, e, R, s, m, args, below, meth, c, Q, A, B), nL => p.tables.exec = Jvm.exec ∧ c.code = cc ∧ meth.sig.returnType = ret ∧ c.maxLocals = nL ∧ s.vm.findClass own = some m.cls ∧ (∀ w ∈ TB, w.before args s = true) ∧ meth.locks = false ∧ R = R0 ∧ va_K D vwCl (gT ca) s ∧ gS sd A s s.heap ∧ ∀ q, s.heap.size ≤ q → A q
/-- what the aim is: a contract's end -/
def Rx (Qc : (Nat → Prop) → Array Value → State → Outcome → State → Prop) (mc ms : Nat) : Kx → Prop
  | (p, e, R, s, m, args, below, meth, c, Q, A, B) => Q = MQ below (Qc A) args s mc ms A
/-- a constructor's frame -/
def Ix : Kx → Prop
  | (p, e, R, s, m, args, below, meth, c, Q, A, B) => meth.name = "<init>"
/-- the walk may write its cells -/
def Wx : Kx → Prop
  | (p, e, R, s, m, args, below, meth, c, Q, A, B) => B = A
/-- a contract: over these arguments and cells wc, of which it may write wa (all, or none) -/
def Cn (l : Launch) (D : va_G) (ca : Nat → ClassId) (sd : Nat → Nat) (y : MethodName) (cc : ByteArray) (maxL : Nat) (ret : Option FieldType) (rm : Room) (av : List Value) (wc wa : va_W) (mc ms : Nat) (Qc : (Nat → Prop) → Array Value → State → Outcome → State → Prop) : Prop :=
  ∀ sz : Nat, Met l y (.code y cc maxL ret :: TB) rm (va_Pc av (fun U => U.heap.size = sz ∧ va_P D vwCl wc U.heap ∧ va_D (fun _ => True) wc ∧ va_K D vwCl (gT ca) U ∧ gS sd (va_A wa sz) U U.heap)) (Qc (va_A wa sz)) mc ms (va_A wa sz)
/-- a contract's end: an int, nothing, a long, a reference -/
def Ri (D : va_G) {S : Type} (post : Int32 → S → Prop) (wB : S → va_W) : (Nat → Prop) → Array Value → State → Outcome → State → Prop := fun A => va_Qi post (fun u t => va_P D vwCl (wB u) t.heap ∧ va_D A (wB u)) A
def Rv (D : va_G) {S : Type} (post : S → Prop) (wB : S → va_W) : (Nat → Prop) → Array Value → State → Outcome → State → Prop := fun A => va_Qv post (fun u t => va_P D vwCl (wB u) t.heap ∧ va_D A (wB u)) A
def Rl (D : va_G) {S : Type} (post : Int64 → S → Prop) (wB : S → va_W) : (Nat → Prop) → Array Value → State → Outcome → State → Prop := fun A => va_Ql post (fun u t => va_P D vwCl (wB u) t.heap ∧ va_D A (wB u)) A
def Rr (D : va_G) {S : Type} (post : S → Prop) (ra : S → Nat) (wB : S → va_W) : (Nat → Prop) → Array Value → State → Outcome → State → Prop := fun A => va_Qr post (fun u a t => a = ra u ∧ va_P D vwCl (wB u) t.heap ∧ va_D A (wB u)) A
theorem va_P_nil {D : va_G} {cl : List vw_C} {H : Heap} : va_P D cl [] H := fun k q h => by simp at h
theorem va_D_nil {A : Nat → Prop} : va_D A [] := ⟨fun i j p q h => by simp at h, fun k q h => by simp at h⟩
section Jr
variable {l : Launch} {D : va_G} {ca : Nat → ClassId} {sd : Nat → Nat} {cc : ByteArray} {own : String} {ret : Option FieldType} {R0 : Room} {k : Kx} {nL cells slots pc : Nat} {ws : va_W} {lv : List (Nat × Value)} {st : List Value}

theorem j_iconst (C : Cx D ca sd cc own ret R0 k nL) {n : Int} (v : Int32) (d : decode cc pc = .ok (.iconst n, 1)) (hv : Int32.ofInt n = v) (h : J l D k nL cells slots (pc + 1) (ws) (lv) (.int v :: st)) : J l D k nL cells slots (pc) (ws) (lv) (st) := by
  obtain ⟨p, e, R, s, m, args, below, meth, c, Q, A, B⟩ := k
  obtain ⟨hx, hb, hr, hml, hown, hts, hlocks, hR0, hK, hG, hA⟩ := C
  intro H locs ls hP hD hS hl
  exact lv_iconst hx hb d hv (h H locs ls hP hD hS hl)
theorem j_bipush (C : Cx D ca sd cc own ret R0 k nL) {n : Int} (v : Int32) (d : decode cc pc = .ok (.bipush n, 2)) (hv : (Int8.ofInt n).toInt32 = v) (h : J l D k nL cells slots (pc + 2) (ws) (lv) (.int v :: st)) : J l D k nL cells slots (pc) (ws) (lv) (st) := by
  obtain ⟨p, e, R, s, m, args, below, meth, c, Q, A, B⟩ := k
  obtain ⟨hx, hb, hr, hml, hown, hts, hlocks, hR0, hK, hG, hA⟩ := C
  intro H locs ls hP hD hS hl
  exact lv_bipush hx hb d hv (h H locs ls hP hD hS hl)
theorem j_sipush (C : Cx D ca sd cc own ret R0 k nL) {n : Int} (v : Int32) (d : decode cc pc = .ok (.sipush n, 3)) (hv : (Int16.ofInt n).toInt32 = v) (h : J l D k nL cells slots (pc + 3) (ws) (lv) (.int v :: st)) : J l D k nL cells slots (pc) (ws) (lv) (st) := by
  obtain ⟨p, e, R, s, m, args, below, meth, c, Q, A, B⟩ := k
  obtain ⟨hx, hb, hr, hml, hown, hts, hlocks, hR0, hK, hG, hA⟩ := C
  intro H locs ls hP hD hS hl
  exact lv_sipush hx hb d hv (h H locs ls hP hD hS hl)
theorem j_lconst (C : Cx D ca sd cc own ret R0 k nL) {n : Fin 2} (v : Int64) (d : decode cc pc = .ok (.lconst n, 1)) (hv : Int64.ofNat (n : Nat) = v) (h : J l D k nL cells slots (pc + 1) (ws) (lv) (.long v :: st)) : J l D k nL cells slots (pc) (ws) (lv) (st) := by
  obtain ⟨p, e, R, s, m, args, below, meth, c, Q, A, B⟩ := k
  obtain ⟨hx, hb, hr, hml, hown, hts, hlocks, hR0, hK, hG, hA⟩ := C
  intro H locs ls hP hD hS hl
  exact lv_lconst hx hb d hv (h H locs ls hP hD hS hl)
theorem j_ldc (C : Cx D ca sd cc own ret R0 k nL) {i : Nat} {v : Int32} (d : decode cc pc = .ok (.ldc i, 2)) (hv : Jvm.Cond.constant own i v ∈ TB) (h : J l D k nL cells slots (pc + 2) (ws) (lv) (.int v :: st)) : J l D k nL cells slots (pc) (ws) (lv) (st) := by
  obtain ⟨p, e, R, s, m, args, below, meth, c, Q, A, B⟩ := k
  obtain ⟨hx, hb, hr, hml, hown, hts, hlocks, hR0, hK, hG, hA⟩ := C
  intro H locs ls hP hD hS hl
  exact lv_ldc hx hb hown (hts _ hv) d (h H locs ls hP hD hS hl)
theorem j_ldc_w (C : Cx D ca sd cc own ret R0 k nL) {i : Nat} {v : Int32} (d : decode cc pc = .ok (.ldc_w i, 3)) (hv : Jvm.Cond.constant own i v ∈ TB) (h : J l D k nL cells slots (pc + 3) (ws) (lv) (.int v :: st)) : J l D k nL cells slots (pc) (ws) (lv) (st) := by
  obtain ⟨p, e, R, s, m, args, below, meth, c, Q, A, B⟩ := k
  obtain ⟨hx, hb, hr, hml, hown, hts, hlocks, hR0, hK, hG, hA⟩ := C
  intro H locs ls hP hD hS hl
  exact lv_ldcw hx hb hown (hts _ hv) d (h H locs ls hP hD hS hl)
theorem j_ldc2 (C : Cx D ca sd cc own ret R0 k nL) {i : Nat} {v : Int64} (d : decode cc pc = .ok (.ldc2_w i, 3)) (hv : Jvm.Cond.constantLong own i v ∈ TB) (h : J l D k nL cells slots (pc + 3) (ws) (lv) (.long v :: st)) : J l D k nL cells slots (pc) (ws) (lv) (st) := by
  obtain ⟨p, e, R, s, m, args, below, meth, c, Q, A, B⟩ := k
  obtain ⟨hx, hb, hr, hml, hown, hts, hlocks, hR0, hK, hG, hA⟩ := C
  intro H locs ls hP hD hS hl
  exact lv_ldc2 hx hb hown (hts _ hv) d (h H locs ls hP hD hS hl)
theorem j_iload_n (C : Cx D ca sd cc own ret R0 k nL) {kk : Fin 4} {x : Int32} (j : Nat) (d : decode cc pc = .ok (.iload_n kk, 1)) (hv : lv[j]? = some ((kk : Nat), .int x)) (h : J l D k nL cells slots (pc + 1) (ws) (lv) (.int x :: st)) : J l D k nL cells slots (pc) (ws) (lv) (st) := by
  obtain ⟨p, e, R, s, m, args, below, meth, c, Q, A, B⟩ := k
  obtain ⟨hx, hb, hr, hml, hown, hts, hlocks, hR0, hK, hG, hA⟩ := C
  intro H locs ls hP hD hS hl
  exact lv_iload_n hx hb d rfl (lv_at hl j hv) (h H locs ls hP hD hS hl)
theorem j_iload (C : Cx D ca sd cc own ret R0 k nL) {i : Nat} {x : Int32} (j : Nat) (d : decode cc pc = .ok (.iload i, 2)) (hv : lv[j]? = some (i, .int x)) (h : J l D k nL cells slots (pc + 2) (ws) (lv) (.int x :: st)) : J l D k nL cells slots (pc) (ws) (lv) (st) := by
  obtain ⟨p, e, R, s, m, args, below, meth, c, Q, A, B⟩ := k
  obtain ⟨hx, hb, hr, hml, hown, hts, hlocks, hR0, hK, hG, hA⟩ := C
  intro H locs ls hP hD hS hl
  exact lv_iload hx hb d (lv_at hl j hv) (h H locs ls hP hD hS hl)
theorem j_lload_n (C : Cx D ca sd cc own ret R0 k nL) {kk : Fin 4} {x : Int64} (j : Nat) (d : decode cc pc = .ok (.lload_n kk, 1)) (hv : lv[j]? = some ((kk : Nat), .long x)) (h : J l D k nL cells slots (pc + 1) (ws) (lv) (.long x :: st)) : J l D k nL cells slots (pc) (ws) (lv) (st) := by
  obtain ⟨p, e, R, s, m, args, below, meth, c, Q, A, B⟩ := k
  obtain ⟨hx, hb, hr, hml, hown, hts, hlocks, hR0, hK, hG, hA⟩ := C
  intro H locs ls hP hD hS hl
  exact lv_lload_n hx hb d rfl (lv_at hl j hv) (h H locs ls hP hD hS hl)
theorem j_lload (C : Cx D ca sd cc own ret R0 k nL) {i : Nat} {x : Int64} (j : Nat) (d : decode cc pc = .ok (.lload i, 2)) (hv : lv[j]? = some (i, .long x)) (h : J l D k nL cells slots (pc + 2) (ws) (lv) (.long x :: st)) : J l D k nL cells slots (pc) (ws) (lv) (st) := by
  obtain ⟨p, e, R, s, m, args, below, meth, c, Q, A, B⟩ := k
  obtain ⟨hx, hb, hr, hml, hown, hts, hlocks, hR0, hK, hG, hA⟩ := C
  intro H locs ls hP hD hS hl
  exact lv_lload hx hb d (lv_at hl j hv) (h H locs ls hP hD hS hl)
theorem j_aload_n (C : Cx D ca sd cc own ret R0 k nL) {kk : Fin 4} {x : Nat} (j : Nat) (d : decode cc pc = .ok (.aload_n kk, 1)) (hv : lv[j]? = some ((kk : Nat), .ref x)) (h : J l D k nL cells slots (pc + 1) (ws) (lv) (.ref x :: st)) : J l D k nL cells slots (pc) (ws) (lv) (st) := by
  obtain ⟨p, e, R, s, m, args, below, meth, c, Q, A, B⟩ := k
  obtain ⟨hx, hb, hr, hml, hown, hts, hlocks, hR0, hK, hG, hA⟩ := C
  intro H locs ls hP hD hS hl
  exact lv_aload_n hx hb d rfl (lv_at hl j hv) (h H locs ls hP hD hS hl)
theorem j_aload (C : Cx D ca sd cc own ret R0 k nL) {i : Nat} {x : Nat} (j : Nat) (d : decode cc pc = .ok (.aload i, 2)) (hv : lv[j]? = some (i, .ref x)) (h : J l D k nL cells slots (pc + 2) (ws) (lv) (.ref x :: st)) : J l D k nL cells slots (pc) (ws) (lv) (st) := by
  obtain ⟨p, e, R, s, m, args, below, meth, c, Q, A, B⟩ := k
  obtain ⟨hx, hb, hr, hml, hown, hts, hlocks, hR0, hK, hG, hA⟩ := C
  intro H locs ls hP hD hS hl
  exact lv_aload hx hb d (lv_at hl j hv) (h H locs ls hP hD hS hl)
theorem j_istore_n (C : Cx D ca sd cc own ret R0 k nL) {kk : Fin 4} {x : Int32} (lv' : List (Nat × Value)) (d : decode cc pc = .ok (.istore_n kk, 1)) (hn : (kk : Nat) < nL) (hl' : ((kk : Nat), Value.int x) :: lv.filter (fun q => !(q.1 == (kk : Nat)) && !(q.1 + 1 == (kk : Nat) && q.2.category == 2)) = lv') (h : J l D k nL cells slots (pc + 1) (ws) (lv') (st)) : J l D k nL cells slots (pc) (ws) (lv) (.int x :: st) := by
  obtain ⟨p, e, R, s, m, args, below, meth, c, Q, A, B⟩ := k
  obtain ⟨hx, hb, hr, hml, hown, hts, hlocks, hR0, hK, hG, hA⟩ := C
  intro H locs ls hP hD hS hl
  exact lv_istore_n hx hb d rfl hl hn hl' (fun ls hl => h H locs ls hP hD hS hl)
theorem j_istore (C : Cx D ca sd cc own ret R0 k nL) {i : Nat} {x : Int32} (lv' : List (Nat × Value)) (d : decode cc pc = .ok (.istore i, 2)) (hn : i < nL) (hl' : (i, Value.int x) :: lv.filter (fun q => !(q.1 == i) && !(q.1 + 1 == i && q.2.category == 2)) = lv') (h : J l D k nL cells slots (pc + 2) (ws) (lv') (st)) : J l D k nL cells slots (pc) (ws) (lv) (.int x :: st) := by
  obtain ⟨p, e, R, s, m, args, below, meth, c, Q, A, B⟩ := k
  obtain ⟨hx, hb, hr, hml, hown, hts, hlocks, hR0, hK, hG, hA⟩ := C
  intro H locs ls hP hD hS hl
  exact lv_istore hx hb d hl hn hl' (fun ls hl => h H locs ls hP hD hS hl)
theorem j_astore_n (C : Cx D ca sd cc own ret R0 k nL) {kk : Fin 4} {x : Nat} (lv' : List (Nat × Value)) (d : decode cc pc = .ok (.astore_n kk, 1)) (hn : (kk : Nat) < nL) (hl' : ((kk : Nat), Value.ref x) :: lv.filter (fun q => !(q.1 == (kk : Nat)) && !(q.1 + 1 == (kk : Nat) && q.2.category == 2)) = lv') (h : J l D k nL cells slots (pc + 1) (ws) (lv') (st)) : J l D k nL cells slots (pc) (ws) (lv) (.ref x :: st) := by
  obtain ⟨p, e, R, s, m, args, below, meth, c, Q, A, B⟩ := k
  obtain ⟨hx, hb, hr, hml, hown, hts, hlocks, hR0, hK, hG, hA⟩ := C
  intro H locs ls hP hD hS hl
  exact lv_astore_n hx hb d rfl hl hn hl' (fun ls hl => h H locs ls hP hD hS hl)
theorem j_astore (C : Cx D ca sd cc own ret R0 k nL) {i : Nat} {x : Nat} (lv' : List (Nat × Value)) (d : decode cc pc = .ok (.astore i, 2)) (hn : i < nL) (hl' : (i, Value.ref x) :: lv.filter (fun q => !(q.1 == i) && !(q.1 + 1 == i && q.2.category == 2)) = lv') (h : J l D k nL cells slots (pc + 2) (ws) (lv') (st)) : J l D k nL cells slots (pc) (ws) (lv) (.ref x :: st) := by
  obtain ⟨p, e, R, s, m, args, below, meth, c, Q, A, B⟩ := k
  obtain ⟨hx, hb, hr, hml, hown, hts, hlocks, hR0, hK, hG, hA⟩ := C
  intro H locs ls hP hD hS hl
  exact lv_astore hx hb d hl hn hl' (fun ls hl => h H locs ls hP hD hS hl)
theorem j_lstore (C : Cx D ca sd cc own ret R0 k nL) {i : Nat} {x : Int64} (lv' : List (Nat × Value)) (d : decode cc pc = .ok (.lstore i, 2)) (hn : i + 1 < nL) (hl' : (i, Value.long x) :: lv.filter (fun q => !(q.1 == i) && (!(q.1 == i + 1) && !(q.1 + 1 == i && q.2.category == 2))) = lv') (h : J l D k nL cells slots (pc + 2) (ws) (lv') (st)) : J l D k nL cells slots (pc) (ws) (lv) (.long x :: st) := by
  obtain ⟨p, e, R, s, m, args, below, meth, c, Q, A, B⟩ := k
  obtain ⟨hx, hb, hr, hml, hown, hts, hlocks, hR0, hK, hG, hA⟩ := C
  intro H locs ls hP hD hS hl
  exact lv_lstore hx hb d hl hn hl' (fun ls hl => h H locs ls hP hD hS hl)
theorem j_iinc (C : Cx D ca sd cc own ret R0 k nL) {i : Nat} {n : Int} {x : Int32} (j : Nat) (v : Int32) (lv' : List (Nat × Value)) (d : decode cc pc = .ok (.iinc i n, 3)) (hk : lv[j]? = some (i, .int x)) (hv : x + Int32.ofInt n = v) (hn : i < nL) (hl' : (i, Value.int v) :: lv.filter (fun q => !(q.1 == i) && !(q.1 + 1 == i && q.2.category == 2)) = lv') (h : J l D k nL cells slots (pc + 3) (ws) (lv') (st)) : J l D k nL cells slots (pc) (ws) (lv) (st) := by
  obtain ⟨p, e, R, s, m, args, below, meth, c, Q, A, B⟩ := k
  obtain ⟨hx, hb, hr, hml, hown, hts, hlocks, hR0, hK, hG, hA⟩ := C
  intro H locs ls hP hD hS hl
  exact lv_iinc hx hb d hl hk hv hn hl' (fun ls hl => h H locs ls hP hD hS hl)
theorem j_iadd (C : Cx D ca sd cc own ret R0 k nL) {x y : Int32} (d : decode cc pc = .ok (.iadd, 1))  (h : J l D k nL cells slots (pc + 1) (ws) (lv) (.int (x + y) :: st)) : J l D k nL cells slots (pc) (ws) (lv) (.int y :: .int x :: st) := by
  obtain ⟨p, e, R, s, m, args, below, meth, c, Q, A, B⟩ := k
  obtain ⟨hx, hb, hr, hml, hown, hts, hlocks, hR0, hK, hG, hA⟩ := C
  intro H locs ls hP hD hS hl
  exact lv_iadd hx hb d (h H locs ls hP hD hS hl)
theorem j_isub (C : Cx D ca sd cc own ret R0 k nL) {x y : Int32} (d : decode cc pc = .ok (.isub, 1))  (h : J l D k nL cells slots (pc + 1) (ws) (lv) (.int (x - y) :: st)) : J l D k nL cells slots (pc) (ws) (lv) (.int y :: .int x :: st) := by
  obtain ⟨p, e, R, s, m, args, below, meth, c, Q, A, B⟩ := k
  obtain ⟨hx, hb, hr, hml, hown, hts, hlocks, hR0, hK, hG, hA⟩ := C
  intro H locs ls hP hD hS hl
  exact lv_isub hx hb d (h H locs ls hP hD hS hl)
theorem j_imul (C : Cx D ca sd cc own ret R0 k nL) {x y : Int32} (d : decode cc pc = .ok (.imul, 1))  (h : J l D k nL cells slots (pc + 1) (ws) (lv) (.int (x * y) :: st)) : J l D k nL cells slots (pc) (ws) (lv) (.int y :: .int x :: st) := by
  obtain ⟨p, e, R, s, m, args, below, meth, c, Q, A, B⟩ := k
  obtain ⟨hx, hb, hr, hml, hown, hts, hlocks, hR0, hK, hG, hA⟩ := C
  intro H locs ls hP hD hS hl
  exact lv_imul hx hb d (h H locs ls hP hD hS hl)
theorem j_iand (C : Cx D ca sd cc own ret R0 k nL) {x y : Int32} (d : decode cc pc = .ok (.iand, 1))  (h : J l D k nL cells slots (pc + 1) (ws) (lv) (.int (x &&& y) :: st)) : J l D k nL cells slots (pc) (ws) (lv) (.int y :: .int x :: st) := by
  obtain ⟨p, e, R, s, m, args, below, meth, c, Q, A, B⟩ := k
  obtain ⟨hx, hb, hr, hml, hown, hts, hlocks, hR0, hK, hG, hA⟩ := C
  intro H locs ls hP hD hS hl
  exact lv_iand hx hb d (h H locs ls hP hD hS hl)
theorem j_ior (C : Cx D ca sd cc own ret R0 k nL) {x y : Int32} (d : decode cc pc = .ok (.ior, 1))  (h : J l D k nL cells slots (pc + 1) (ws) (lv) (.int (x ||| y) :: st)) : J l D k nL cells slots (pc) (ws) (lv) (.int y :: .int x :: st) := by
  obtain ⟨p, e, R, s, m, args, below, meth, c, Q, A, B⟩ := k
  obtain ⟨hx, hb, hr, hml, hown, hts, hlocks, hR0, hK, hG, hA⟩ := C
  intro H locs ls hP hD hS hl
  exact lv_ior hx hb d (h H locs ls hP hD hS hl)
theorem j_ixor (C : Cx D ca sd cc own ret R0 k nL) {x y : Int32} (d : decode cc pc = .ok (.ixor, 1))  (h : J l D k nL cells slots (pc + 1) (ws) (lv) (.int (x ^^^ y) :: st)) : J l D k nL cells slots (pc) (ws) (lv) (.int y :: .int x :: st) := by
  obtain ⟨p, e, R, s, m, args, below, meth, c, Q, A, B⟩ := k
  obtain ⟨hx, hb, hr, hml, hown, hts, hlocks, hR0, hK, hG, hA⟩ := C
  intro H locs ls hP hD hS hl
  exact lv_ixor hx hb d (h H locs ls hP hD hS hl)
theorem j_ishl (C : Cx D ca sd cc own ret R0 k nL) {x y : Int32} (d : decode cc pc = .ok (.ishl, 1))  (h : J l D k nL cells slots (pc + 1) (ws) (lv) (.int (x <<< (y &&& 31)) :: st)) : J l D k nL cells slots (pc) (ws) (lv) (.int y :: .int x :: st) := by
  obtain ⟨p, e, R, s, m, args, below, meth, c, Q, A, B⟩ := k
  obtain ⟨hx, hb, hr, hml, hown, hts, hlocks, hR0, hK, hG, hA⟩ := C
  intro H locs ls hP hD hS hl
  exact lv_ishl hx hb d (h H locs ls hP hD hS hl)
theorem j_ishr (C : Cx D ca sd cc own ret R0 k nL) {x y : Int32} (d : decode cc pc = .ok (.ishr, 1))  (h : J l D k nL cells slots (pc + 1) (ws) (lv) (.int (x >>> (y &&& 31)) :: st)) : J l D k nL cells slots (pc) (ws) (lv) (.int y :: .int x :: st) := by
  obtain ⟨p, e, R, s, m, args, below, meth, c, Q, A, B⟩ := k
  obtain ⟨hx, hb, hr, hml, hown, hts, hlocks, hR0, hK, hG, hA⟩ := C
  intro H locs ls hP hD hS hl
  exact lv_ishr hx hb d (h H locs ls hP hD hS hl)
theorem j_iushr (C : Cx D ca sd cc own ret R0 k nL) {x y : Int32} (d : decode cc pc = .ok (.iushr, 1))  (h : J l D k nL cells slots (pc + 1) (ws) (lv) (.int ((x.toUInt32 >>> (y.toUInt32 &&& Int32.toUInt32 31)).toInt32) :: st)) : J l D k nL cells slots (pc) (ws) (lv) (.int y :: .int x :: st) := by
  obtain ⟨p, e, R, s, m, args, below, meth, c, Q, A, B⟩ := k
  obtain ⟨hx, hb, hr, hml, hown, hts, hlocks, hR0, hK, hG, hA⟩ := C
  intro H locs ls hP hD hS hl
  exact lv_iushr hx hb d rfl (h H locs ls hP hD hS hl)
theorem j_idiv (C : Cx D ca sd cc own ret R0 k nL) {x y : Int32} (d : decode cc pc = .ok (.idiv, 1)) (hne : ¬ y = 0) (h : J l D k nL cells slots (pc + 1) (ws) (lv) (.int (x / y) :: st)) : J l D k nL cells slots (pc) (ws) (lv) (.int y :: .int x :: st) := by
  obtain ⟨p, e, R, s, m, args, below, meth, c, Q, A, B⟩ := k
  obtain ⟨hx, hb, hr, hml, hown, hts, hlocks, hR0, hK, hG, hA⟩ := C
  intro H locs ls hP hD hS hl
  exact lv_idiv hx hb d hne (h H locs ls hP hD hS hl)
theorem j_irem (C : Cx D ca sd cc own ret R0 k nL) {x y : Int32} (d : decode cc pc = .ok (.irem, 1)) (hne : ¬ y = 0) (h : J l D k nL cells slots (pc + 1) (ws) (lv) (.int (x - x / y * y) :: st)) : J l D k nL cells slots (pc) (ws) (lv) (.int y :: .int x :: st) := by
  obtain ⟨p, e, R, s, m, args, below, meth, c, Q, A, B⟩ := k
  obtain ⟨hx, hb, hr, hml, hown, hts, hlocks, hR0, hK, hG, hA⟩ := C
  intro H locs ls hP hD hS hl
  exact lv_irem hx hb d hne (h H locs ls hP hD hS hl)
theorem j_land (C : Cx D ca sd cc own ret R0 k nL) {x y : Int64} (d : decode cc pc = .ok (.land, 1))  (h : J l D k nL cells slots (pc + 1) (ws) (lv) (.long (x &&& y) :: st)) : J l D k nL cells slots (pc) (ws) (lv) (.long y :: .long x :: st) := by
  obtain ⟨p, e, R, s, m, args, below, meth, c, Q, A, B⟩ := k
  obtain ⟨hx, hb, hr, hml, hown, hts, hlocks, hR0, hK, hG, hA⟩ := C
  intro H locs ls hP hD hS hl
  exact lv_land hx hb d (h H locs ls hP hD hS hl)
theorem j_lor (C : Cx D ca sd cc own ret R0 k nL) {x y : Int64} (d : decode cc pc = .ok (.lor, 1))  (h : J l D k nL cells slots (pc + 1) (ws) (lv) (.long (x ||| y) :: st)) : J l D k nL cells slots (pc) (ws) (lv) (.long y :: .long x :: st) := by
  obtain ⟨p, e, R, s, m, args, below, meth, c, Q, A, B⟩ := k
  obtain ⟨hx, hb, hr, hml, hown, hts, hlocks, hR0, hK, hG, hA⟩ := C
  intro H locs ls hP hD hS hl
  exact lv_lor hx hb d (h H locs ls hP hD hS hl)
theorem j_lshl (C : Cx D ca sd cc own ret R0 k nL) {x : Int64} {y : Int32} (d : decode cc pc = .ok (.lshl, 1))  (h : J l D k nL cells slots (pc + 1) (ws) (lv) (.long (x <<< (y.toInt64 &&& 63)) :: st)) : J l D k nL cells slots (pc) (ws) (lv) (.int y :: .long x :: st) := by
  obtain ⟨p, e, R, s, m, args, below, meth, c, Q, A, B⟩ := k
  obtain ⟨hx, hb, hr, hml, hown, hts, hlocks, hR0, hK, hG, hA⟩ := C
  intro H locs ls hP hD hS hl
  exact lv_lshl hx hb d rfl (h H locs ls hP hD hS hl)
theorem j_i2l (C : Cx D ca sd cc own ret R0 k nL) {x : Int32} (d : decode cc pc = .ok (.i2l, 1))  (h : J l D k nL cells slots (pc + 1) (ws) (lv) (.long x.toInt64 :: st)) : J l D k nL cells slots (pc) (ws) (lv) (.int x :: st) := by
  obtain ⟨p, e, R, s, m, args, below, meth, c, Q, A, B⟩ := k
  obtain ⟨hx, hb, hr, hml, hown, hts, hlocks, hR0, hK, hG, hA⟩ := C
  intro H locs ls hP hD hS hl
  exact lv_i2l hx hb d rfl (h H locs ls hP hD hS hl)
theorem j_l2i (C : Cx D ca sd cc own ret R0 k nL) {x : Int64} (d : decode cc pc = .ok (.l2i, 1))  (h : J l D k nL cells slots (pc + 1) (ws) (lv) (.int x.toInt32 :: st)) : J l D k nL cells slots (pc) (ws) (lv) (.long x :: st) := by
  obtain ⟨p, e, R, s, m, args, below, meth, c, Q, A, B⟩ := k
  obtain ⟨hx, hb, hr, hml, hown, hts, hlocks, hR0, hK, hG, hA⟩ := C
  intro H locs ls hP hD hS hl
  exact lv_l2i hx hb d rfl (h H locs ls hP hD hS hl)
theorem j_i2b (C : Cx D ca sd cc own ret R0 k nL) {x : Int32} (d : decode cc pc = .ok (.i2b, 1))  (h : J l D k nL cells slots (pc + 1) (ws) (lv) (.int x.toInt8.toInt32 :: st)) : J l D k nL cells slots (pc) (ws) (lv) (.int x :: st) := by
  obtain ⟨p, e, R, s, m, args, below, meth, c, Q, A, B⟩ := k
  obtain ⟨hx, hb, hr, hml, hown, hts, hlocks, hR0, hK, hG, hA⟩ := C
  intro H locs ls hP hD hS hl
  exact lv_i2b hx hb d rfl (h H locs ls hP hD hS hl)
theorem j_i2s (C : Cx D ca sd cc own ret R0 k nL) {x : Int32} (d : decode cc pc = .ok (.i2s, 1))  (h : J l D k nL cells slots (pc + 1) (ws) (lv) (.int x.toInt16.toInt32 :: st)) : J l D k nL cells slots (pc) (ws) (lv) (.int x :: st) := by
  obtain ⟨p, e, R, s, m, args, below, meth, c, Q, A, B⟩ := k
  obtain ⟨hx, hb, hr, hml, hown, hts, hlocks, hR0, hK, hG, hA⟩ := C
  intro H locs ls hP hD hS hl
  exact lv_i2s hx hb d rfl (h H locs ls hP hD hS hl)
theorem j_i2c (C : Cx D ca sd cc own ret R0 k nL) {x : Int32} (d : decode cc pc = .ok (.i2c, 1))  (h : J l D k nL cells slots (pc + 1) (ws) (lv) (.int (x.toUInt32 % 65536).toInt32 :: st)) : J l D k nL cells slots (pc) (ws) (lv) (.int x :: st) := by
  obtain ⟨p, e, R, s, m, args, below, meth, c, Q, A, B⟩ := k
  obtain ⟨hx, hb, hr, hml, hown, hts, hlocks, hR0, hK, hG, hA⟩ := C
  intro H locs ls hP hD hS hl
  exact lv_i2c hx hb d rfl (h H locs ls hP hD hS hl)
theorem j_lcmp (C : Cx D ca sd cc own ret R0 k nL) {x y : Int64} (d : decode cc pc = .ok (.lcmp, 1))  (h : J l D k nL cells slots (pc + 1) (ws) (lv) (.int (lg_cmp x y) :: st)) : J l D k nL cells slots (pc) (ws) (lv) (.long y :: .long x :: st) := by
  obtain ⟨p, e, R, s, m, args, below, meth, c, Q, A, B⟩ := k
  obtain ⟨hx, hb, hr, hml, hown, hts, hlocks, hR0, hK, hG, hA⟩ := C
  intro H locs ls hP hD hS hl
  exact W.lcmp hx hb d (h H locs ls hP hD hS hl)
theorem j_dup (C : Cx D ca sd cc own ret R0 k nL) {a : Value} (d : decode cc pc = .ok (.dup, 1)) (ha : a.category = 1) (h : J l D k nL cells slots (pc + 1) (ws) (lv) (a :: a :: st)) : J l D k nL cells slots (pc) (ws) (lv) (a :: st) := by
  obtain ⟨p, e, R, s, m, args, below, meth, c, Q, A, B⟩ := k
  obtain ⟨hx, hb, hr, hml, hown, hts, hlocks, hR0, hK, hG, hA⟩ := C
  intro H locs ls hP hD hS hl
  exact lv_dup hx hb d ha (h H locs ls hP hD hS hl)
theorem j_dup2 (C : Cx D ca sd cc own ret R0 k nL) {a b : Value} (d : decode cc pc = .ok (.dup2, 1)) (ha : a.category = 1) (hb2 : b.category = 1) (h : J l D k nL cells slots (pc + 1) (ws) (lv) (a :: b :: a :: b :: st)) : J l D k nL cells slots (pc) (ws) (lv) (a :: b :: st) := by
  obtain ⟨p, e, R, s, m, args, below, meth, c, Q, A, B⟩ := k
  obtain ⟨hx, hb, hr, hml, hown, hts, hlocks, hR0, hK, hG, hA⟩ := C
  intro H locs ls hP hD hS hl
  exact lv_dup2_11 hx hb d ha hb2 (h H locs ls hP hD hS hl)
theorem j_pop (C : Cx D ca sd cc own ret R0 k nL) {a : Value} (d : decode cc pc = .ok (.pop, 1)) (ha : a.category = 1) (h : J l D k nL cells slots (pc + 1) (ws) (lv) (st)) : J l D k nL cells slots (pc) (ws) (lv) (a :: st) := by
  obtain ⟨p, e, R, s, m, args, below, meth, c, Q, A, B⟩ := k
  obtain ⟨hx, hb, hr, hml, hown, hts, hlocks, hR0, hK, hG, hA⟩ := C
  intro H locs ls hP hD hS hl
  exact lv_pop hx hb d ha (h H locs ls hP hD hS hl)
theorem j_if_eq (C : Cx D ca sd cc own ret R0 k nL) {x : Int32} {off : Int} (tgt : Nat) (d : decode cc pc = .ok (.ifCond .eq off, 3)) (ht : (pc : Int) + off = (tgt : Int)) (kt : x = 0 → J l D k nL cells slots (tgt) (ws) (lv) (st)) (kf : ¬ x = 0 → J l D k nL cells slots (pc + 3) (ws) (lv) (st)) : J l D k nL cells slots (pc) (ws) (lv) (.int x :: st) := by
  obtain ⟨p, e, R, s, m, args, below, meth, c, Q, A, B⟩ := k
  obtain ⟨hx, hb, hr, hml, hown, hts, hlocks, hR0, hK, hG, hA⟩ := C
  intro H locs ls hP hD hS hl
  exact lv_if_eq hx hb d ht (fun z => kt z H locs ls hP hD hS hl) (fun z => kf z H locs ls hP hD hS hl)
theorem j_icmp_eq (C : Cx D ca sd cc own ret R0 k nL) {x y : Int32} {off : Int} (tgt : Nat) (d : decode cc pc = .ok (.if_icmp .eq off, 3)) (ht : (pc : Int) + off = (tgt : Int)) (kt : x = y → J l D k nL cells slots (tgt) (ws) (lv) (st)) (kf : ¬ x = y → J l D k nL cells slots (pc + 3) (ws) (lv) (st)) : J l D k nL cells slots (pc) (ws) (lv) (.int y :: .int x :: st) := by
  obtain ⟨p, e, R, s, m, args, below, meth, c, Q, A, B⟩ := k
  obtain ⟨hx, hb, hr, hml, hown, hts, hlocks, hR0, hK, hG, hA⟩ := C
  intro H locs ls hP hD hS hl
  exact lv_icmp_eq hx hb d ht (fun z => kt z H locs ls hP hD hS hl) (fun z => kf z H locs ls hP hD hS hl)
theorem j_if_ne (C : Cx D ca sd cc own ret R0 k nL) {x : Int32} {off : Int} (tgt : Nat) (d : decode cc pc = .ok (.ifCond .ne off, 3)) (ht : (pc : Int) + off = (tgt : Int)) (kt : ¬ x = 0 → J l D k nL cells slots (tgt) (ws) (lv) (st)) (kf : x = 0 → J l D k nL cells slots (pc + 3) (ws) (lv) (st)) : J l D k nL cells slots (pc) (ws) (lv) (.int x :: st) := by
  obtain ⟨p, e, R, s, m, args, below, meth, c, Q, A, B⟩ := k
  obtain ⟨hx, hb, hr, hml, hown, hts, hlocks, hR0, hK, hG, hA⟩ := C
  intro H locs ls hP hD hS hl
  exact lv_if_ne hx hb d ht (fun z => kt z H locs ls hP hD hS hl) (fun z => kf z H locs ls hP hD hS hl)
theorem j_icmp_ne (C : Cx D ca sd cc own ret R0 k nL) {x y : Int32} {off : Int} (tgt : Nat) (d : decode cc pc = .ok (.if_icmp .ne off, 3)) (ht : (pc : Int) + off = (tgt : Int)) (kt : ¬ x = y → J l D k nL cells slots (tgt) (ws) (lv) (st)) (kf : x = y → J l D k nL cells slots (pc + 3) (ws) (lv) (st)) : J l D k nL cells slots (pc) (ws) (lv) (.int y :: .int x :: st) := by
  obtain ⟨p, e, R, s, m, args, below, meth, c, Q, A, B⟩ := k
  obtain ⟨hx, hb, hr, hml, hown, hts, hlocks, hR0, hK, hG, hA⟩ := C
  intro H locs ls hP hD hS hl
  exact lv_icmp_ne hx hb d ht (fun z => kt z H locs ls hP hD hS hl) (fun z => kf z H locs ls hP hD hS hl)
theorem j_if_lt (C : Cx D ca sd cc own ret R0 k nL) {x : Int32} {off : Int} (tgt : Nat) (d : decode cc pc = .ok (.ifCond .lt off, 3)) (ht : (pc : Int) + off = (tgt : Int)) (kt : x < 0 → J l D k nL cells slots (tgt) (ws) (lv) (st)) (kf : ¬ x < 0 → J l D k nL cells slots (pc + 3) (ws) (lv) (st)) : J l D k nL cells slots (pc) (ws) (lv) (.int x :: st) := by
  obtain ⟨p, e, R, s, m, args, below, meth, c, Q, A, B⟩ := k
  obtain ⟨hx, hb, hr, hml, hown, hts, hlocks, hR0, hK, hG, hA⟩ := C
  intro H locs ls hP hD hS hl
  exact lv_if_lt hx hb d ht (fun z => kt z H locs ls hP hD hS hl) (fun z => kf z H locs ls hP hD hS hl)
theorem j_icmp_lt (C : Cx D ca sd cc own ret R0 k nL) {x y : Int32} {off : Int} (tgt : Nat) (d : decode cc pc = .ok (.if_icmp .lt off, 3)) (ht : (pc : Int) + off = (tgt : Int)) (kt : x < y → J l D k nL cells slots (tgt) (ws) (lv) (st)) (kf : ¬ x < y → J l D k nL cells slots (pc + 3) (ws) (lv) (st)) : J l D k nL cells slots (pc) (ws) (lv) (.int y :: .int x :: st) := by
  obtain ⟨p, e, R, s, m, args, below, meth, c, Q, A, B⟩ := k
  obtain ⟨hx, hb, hr, hml, hown, hts, hlocks, hR0, hK, hG, hA⟩ := C
  intro H locs ls hP hD hS hl
  exact lv_icmp_lt hx hb d ht (fun z => kt z H locs ls hP hD hS hl) (fun z => kf z H locs ls hP hD hS hl)
theorem j_if_ge (C : Cx D ca sd cc own ret R0 k nL) {x : Int32} {off : Int} (tgt : Nat) (d : decode cc pc = .ok (.ifCond .ge off, 3)) (ht : (pc : Int) + off = (tgt : Int)) (kt : 0 ≤ x → J l D k nL cells slots (tgt) (ws) (lv) (st)) (kf : ¬ 0 ≤ x → J l D k nL cells slots (pc + 3) (ws) (lv) (st)) : J l D k nL cells slots (pc) (ws) (lv) (.int x :: st) := by
  obtain ⟨p, e, R, s, m, args, below, meth, c, Q, A, B⟩ := k
  obtain ⟨hx, hb, hr, hml, hown, hts, hlocks, hR0, hK, hG, hA⟩ := C
  intro H locs ls hP hD hS hl
  exact lv_if_ge hx hb d ht (fun z => kt z H locs ls hP hD hS hl) (fun z => kf z H locs ls hP hD hS hl)
theorem j_icmp_ge (C : Cx D ca sd cc own ret R0 k nL) {x y : Int32} {off : Int} (tgt : Nat) (d : decode cc pc = .ok (.if_icmp .ge off, 3)) (ht : (pc : Int) + off = (tgt : Int)) (kt : y ≤ x → J l D k nL cells slots (tgt) (ws) (lv) (st)) (kf : ¬ y ≤ x → J l D k nL cells slots (pc + 3) (ws) (lv) (st)) : J l D k nL cells slots (pc) (ws) (lv) (.int y :: .int x :: st) := by
  obtain ⟨p, e, R, s, m, args, below, meth, c, Q, A, B⟩ := k
  obtain ⟨hx, hb, hr, hml, hown, hts, hlocks, hR0, hK, hG, hA⟩ := C
  intro H locs ls hP hD hS hl
  exact lv_icmp_ge hx hb d ht (fun z => kt z H locs ls hP hD hS hl) (fun z => kf z H locs ls hP hD hS hl)
theorem j_if_gt (C : Cx D ca sd cc own ret R0 k nL) {x : Int32} {off : Int} (tgt : Nat) (d : decode cc pc = .ok (.ifCond .gt off, 3)) (ht : (pc : Int) + off = (tgt : Int)) (kt : 0 < x → J l D k nL cells slots (tgt) (ws) (lv) (st)) (kf : ¬ 0 < x → J l D k nL cells slots (pc + 3) (ws) (lv) (st)) : J l D k nL cells slots (pc) (ws) (lv) (.int x :: st) := by
  obtain ⟨p, e, R, s, m, args, below, meth, c, Q, A, B⟩ := k
  obtain ⟨hx, hb, hr, hml, hown, hts, hlocks, hR0, hK, hG, hA⟩ := C
  intro H locs ls hP hD hS hl
  exact lv_if_gt hx hb d ht (fun z => kt z H locs ls hP hD hS hl) (fun z => kf z H locs ls hP hD hS hl)
theorem j_icmp_gt (C : Cx D ca sd cc own ret R0 k nL) {x y : Int32} {off : Int} (tgt : Nat) (d : decode cc pc = .ok (.if_icmp .gt off, 3)) (ht : (pc : Int) + off = (tgt : Int)) (kt : y < x → J l D k nL cells slots (tgt) (ws) (lv) (st)) (kf : ¬ y < x → J l D k nL cells slots (pc + 3) (ws) (lv) (st)) : J l D k nL cells slots (pc) (ws) (lv) (.int y :: .int x :: st) := by
  obtain ⟨p, e, R, s, m, args, below, meth, c, Q, A, B⟩ := k
  obtain ⟨hx, hb, hr, hml, hown, hts, hlocks, hR0, hK, hG, hA⟩ := C
  intro H locs ls hP hD hS hl
  exact lv_icmp_gt hx hb d ht (fun z => kt z H locs ls hP hD hS hl) (fun z => kf z H locs ls hP hD hS hl)
theorem j_if_le (C : Cx D ca sd cc own ret R0 k nL) {x : Int32} {off : Int} (tgt : Nat) (d : decode cc pc = .ok (.ifCond .le off, 3)) (ht : (pc : Int) + off = (tgt : Int)) (kt : x ≤ 0 → J l D k nL cells slots (tgt) (ws) (lv) (st)) (kf : ¬ x ≤ 0 → J l D k nL cells slots (pc + 3) (ws) (lv) (st)) : J l D k nL cells slots (pc) (ws) (lv) (.int x :: st) := by
  obtain ⟨p, e, R, s, m, args, below, meth, c, Q, A, B⟩ := k
  obtain ⟨hx, hb, hr, hml, hown, hts, hlocks, hR0, hK, hG, hA⟩ := C
  intro H locs ls hP hD hS hl
  exact lv_if_le hx hb d ht (fun z => kt z H locs ls hP hD hS hl) (fun z => kf z H locs ls hP hD hS hl)
theorem j_icmp_le (C : Cx D ca sd cc own ret R0 k nL) {x y : Int32} {off : Int} (tgt : Nat) (d : decode cc pc = .ok (.if_icmp .le off, 3)) (ht : (pc : Int) + off = (tgt : Int)) (kt : x ≤ y → J l D k nL cells slots (tgt) (ws) (lv) (st)) (kf : ¬ x ≤ y → J l D k nL cells slots (pc + 3) (ws) (lv) (st)) : J l D k nL cells slots (pc) (ws) (lv) (.int y :: .int x :: st) := by
  obtain ⟨p, e, R, s, m, args, below, meth, c, Q, A, B⟩ := k
  obtain ⟨hx, hb, hr, hml, hown, hts, hlocks, hR0, hK, hG, hA⟩ := C
  intro H locs ls hP hD hS hl
  exact lv_icmp_le hx hb d ht (fun z => kt z H locs ls hP hD hS hl) (fun z => kf z H locs ls hP hD hS hl)
theorem j_goto (C : Cx D ca sd cc own ret R0 k nL) {off : Int} (tgt : Nat) (d : decode cc pc = .ok (.goto off, 3)) (ht : (pc : Int) + off = (tgt : Int)) (h : J l D k nL cells slots (tgt) (ws) (lv) (st)) : J l D k nL cells slots (pc) (ws) (lv) (st) := by
  obtain ⟨p, e, R, s, m, args, below, meth, c, Q, A, B⟩ := k
  obtain ⟨hx, hb, hr, hml, hown, hts, hlocks, hR0, hK, hG, hA⟩ := C
  intro H locs ls hP hD hS hl
  exact lv_goto hx hb d ht (h H locs ls hP hD hS hl)
theorem j_tabIn (C : Cx D ca sd cc own ret R0 k nL) {dflt lo hi off : Int} {offs : Array Int} {len : Nat} {x : Int32} (v : Int32) (tgt : Nat) (d : decode cc pc = .ok (.tableswitch dflt lo hi offs, len)) (hv : x = v) (h1 : ¬ v.toInt < lo) (h2 : ¬ hi < v.toInt) (ho : offs[(v.toInt - lo).toNat]? = some off) (ht : (pc : Int) + off = (tgt : Int)) (h : J l D k nL cells slots (tgt) (ws) (lv) (st)) : J l D k nL cells slots (pc) (ws) (lv) (.int x :: st) := by
  subst hv
  obtain ⟨p, e, R, s, m, args, below, meth, c, Q, A, B⟩ := k
  obtain ⟨hx, hb, hr, hml, hown, hts, hlocks, hR0, hK, hG, hA⟩ := C
  intro H locs ls hP hD hS hl
  exact lv_tableIn hx hb d h1 h2 ho ht (h H locs ls hP hD hS hl)
theorem j_tabOut (C : Cx D ca sd cc own ret R0 k nL) {dflt lo hi : Int} {offs : Array Int} {len : Nat} {x : Int32} (tgt : Nat) (d : decode cc pc = .ok (.tableswitch dflt lo hi offs, len)) (hv : x.toInt < lo ∨ hi < x.toInt) (ht : (pc : Int) + dflt = (tgt : Int)) (h : J l D k nL cells slots (tgt) (ws) (lv) (st)) : J l D k nL cells slots (pc) (ws) (lv) (.int x :: st) := by
  obtain ⟨p, e, R, s, m, args, below, meth, c, Q, A, B⟩ := k
  obtain ⟨hx, hb, hr, hml, hown, hts, hlocks, hR0, hK, hG, hA⟩ := C
  intro H locs ls hP hD hS hl
  exact lv_tableOut hx hb d hv ht (h H locs ls hP hD hS hl)
theorem j_look (C : Cx D ca sd cc own ret R0 k nL) {dflt off : Int} {ps : Array (Int × Int)} {len : Nat} {x : Int32} (tgt : Nat) (d : decode cc pc = .ok (.lookupswitch dflt ps, len)) (hp : (ps.toList.zip (ps.toList.drop 1)).all (fun (a, next) => a.1 < next.1) = true) (ho : Op.lookupswitch.offset ps.toList dflt x.toInt = off) (ht : (pc : Int) + off = (tgt : Int)) (h : J l D k nL cells slots (tgt) (ws) (lv) (st)) : J l D k nL cells slots (pc) (ws) (lv) (.int x :: st) := by
  obtain ⟨p, e, R, s, m, args, below, meth, c, Q, A, B⟩ := k
  obtain ⟨hx, hb, hr, hml, hown, hts, hlocks, hR0, hK, hG, hA⟩ := C
  intro H locs ls hP hD hS hl
  exact lv_lookup hx hb d hp ho ht (h H locs ls hP hD hS hl)
/-- a field's link: owner and entry; class number and slot -/
def FL (own : String) (index ci kf : Nat) : Prop := ∃ (C : String) (T : u_T) (N : Nat), vwCl[ci]? = some (C, T, N) ∧ kf < N ∧ (∀ w ∈ u_ws C T N, w ∈ TB) ∧ Cond.fieldLink own index (T kf).1 (T kf).2.1 (T kf).2.2.1 ∈ TB
/-- the same, to write: not final, its type -/
def FW (own : String) (index ci kf : Nat) (fin : Bool) (ty : FieldType) : Prop := ∃ (C : String) (T : u_T) (N : Nat) (ty0 : Nat → FieldType), vwCl[ci]? = some (C, T, N) ∧ kf < N ∧ (∀ w ∈ u_ws C T N, w ∈ TB) ∧ Cond.fieldLink own index (T kf).1 (T kf).2.1 (T kf).2.2.1 ∈ TB ∧ (∀ k, k < N → parseFieldDescriptor (T k).2.2.1 = some (ty0 k)) ∧ (∀ a, a < N → ∀ b, b < N → a ≠ b → (T a).2.1 ≠ (T b).2.1) ∧ (T kf).2.2.2 = fin ∧ parseFieldDescriptor (T kf).2.2.1 = some ty ∧ (fin = true → (T kf).1 = own)
theorem j_get (C : Cx D ca sd cc own ret R0 k nL) {index ci kf a : Nat} {fs : List Value} {v : Value} (fl : FL own index ci kf) (q0 : Nat) (d : decode cc pc = .ok (.getfield index, 3)) (he : ws[q0]? = some (a, .inr (ci, fs))) (hv : fs[kf]? = some v) (h : J l D k nL cells slots (pc + 3) (ws) (lv) (v :: st)) : J l D k nL cells slots (pc) (ws) (lv) (.ref a :: st) := by
  obtain ⟨C1, T, N, hc, hk, hin, hlk⟩ := fl
  obtain ⟨p, e, R, s, m, args, below, meth, c, Q, A, B⟩ := k
  obtain ⟨hx, hb, hr, hml, hown, hts, hlocks, hR0, hK, hG, hA⟩ := C
  intro H locs ls hP hD hS hl
  exact va_get hx hb hts hin hown hK hP q0 he hc kf hk (hts _ hlk) (fun _ h9 => h9) hv d (h H locs ls hP hD hS hl)
theorem j_put (C : Cx D ca sd cc own ret R0 k nL) (hB : Wx k) {index ci kf a : Nat} {ty : FieldType} {fs : List Value} {v : Value} (fl : FW own index ci kf false ty) (q0 : Nat) (ws' : va_W) (d : decode cc pc = .ok (.putfield index, 3)) (he : ws[q0]? = some (a, .inr (ci, fs))) (hn : narrow ty v = v) (hfit : fits ty v = true) (hlen : kf < fs.length) (hw : ws.set q0 (a, .inr (ci, fs.set kf v)) = ws') (h : J l D k nL cells slots (pc + 3) (ws') (lv) (st)) : J l D k nL cells slots (pc) (ws) (lv) (v :: .ref a :: st) := by
  obtain ⟨C1, T, N, ty0, hc, hk, hin, hlk, hty, hnm, hfin, hd, -⟩ := fl
  subst hw
  obtain ⟨p, e, R, s, m, args, below, meth, c, Q, A, B⟩ := k
  obtain ⟨hx, hb, hr, hml, hown, hts, hlocks, hR0, hK, hG, hA⟩ := C
  obtain rfl := hB
  intro H locs ls hP hD hS hl
  exact va_put hx hb hts hin ty0 hty hnm hown hK hP hD hS q0 he hc kf hk (hts _ hlk) (fun _ h9 => h9) hfin hd hn hfit hlen d (fun H locs hP hD hS => h H locs ls hP hD hS hl)
theorem j_putF (C : Cx D ca sd cc own ret R0 k nL) (hB : Wx k) (hI : Ix k) {index ci kf a : Nat} {ty : FieldType} {fs : List Value} {v : Value} (fl : FW own index ci kf true ty) (q0 : Nat) (ws' : va_W) (d : decode cc pc = .ok (.putfield index, 3)) (he : ws[q0]? = some (a, .inr (ci, fs))) (hn : narrow ty v = v) (hfit : fits ty v = true) (hlen : kf < fs.length) (hw : ws.set q0 (a, .inr (ci, fs.set kf v)) = ws') (h : J l D k nL cells slots (pc + 3) (ws') (lv) (st)) : J l D k nL cells slots (pc) (ws) (lv) (v :: .ref a :: st) := by
  obtain ⟨C1, T, N, ty0, hc, hk, hin, hlk, hty, hnm, hfin, hd, ho⟩ := fl
  subst hw
  obtain ⟨p, e, R, s, m, args, below, meth, c, Q, A, B⟩ := k
  obtain ⟨hx, hb, hr, hml, hown, hts, hlocks, hR0, hK, hG, hA⟩ := C
  obtain rfl := hB
  intro H locs ls hP hD hS hl
  exact va_putF hx hb hts hin ty0 hty hnm hown hK hP hD hS q0 he hc kf hk (hts _ hlk) (fun _ h9 => h9) hfin hI (ho rfl) hd hn hfit hlen d (fun H locs hP hD hS => h H locs ls hP hD hS hl)
theorem j_iald (C : Cx D ca sd cc own ret R0 k nL) {a n : Nat} {f : Nat → Int32} {i : Int32} (q0 : Nat) (d : decode cc pc = .ok (.iaload, 1)) (ha : ws[q0]? = some (a, .inl (ca 0, n, .inl f))) (hin : vp_in i n) (h : J l D k nL cells slots (pc + 1) (ws) (lv) (.int (f i.toNatClampNeg) :: st)) : J l D k nL cells slots (pc) (ws) (lv) (.int i :: .ref a :: st) := by
  obtain ⟨p, e, R, s, m, args, below, meth, c, Q, A, B⟩ := k
  obtain ⟨hx, hb, hr, hml, hown, hts, hlocks, hR0, hK, hG, hA⟩ := C
  intro H locs ls hP hD hS hl
  exact va_iald hx hb hK hP q0 0 ha rfl hin d (h H locs ls hP hD hS hl)
theorem j_lald (C : Cx D ca sd cc own ret R0 k nL) {a n : Nat} {f : Nat → Int64} {i : Int32} (q0 : Nat) (d : decode cc pc = .ok (.laload, 1)) (ha : ws[q0]? = some (a, .inl (ca 1, n, .inr (.inl f)))) (hin : vp_in i n) (h : J l D k nL cells slots (pc + 1) (ws) (lv) (.long (f i.toNatClampNeg) :: st)) : J l D k nL cells slots (pc) (ws) (lv) (.int i :: .ref a :: st) := by
  obtain ⟨p, e, R, s, m, args, below, meth, c, Q, A, B⟩ := k
  obtain ⟨hx, hb, hr, hml, hown, hts, hlocks, hR0, hK, hG, hA⟩ := C
  intro H locs ls hP hD hS hl
  exact va_lald hx hb hK hP q0 1 ha rfl hin d (h H locs ls hP hD hS hl)
theorem j_bald (C : Cx D ca sd cc own ret R0 k nL) {a n : Nat} {f : Nat → Int32} {i : Int32} (q0 : Nat) (d : decode cc pc = .ok (.baload, 1)) (ha : ws[q0]? = some (a, .inl (ca 2, n, .inl f))) (hin : vp_in i n) (h : J l D k nL cells slots (pc + 1) (ws) (lv) (.int (f i.toNatClampNeg) :: st)) : J l D k nL cells slots (pc) (ws) (lv) (.int i :: .ref a :: st) := by
  obtain ⟨p, e, R, s, m, args, below, meth, c, Q, A, B⟩ := k
  obtain ⟨hx, hb, hr, hml, hown, hts, hlocks, hR0, hK, hG, hA⟩ := C
  intro H locs ls hP hD hS hl
  exact va_bald hx hb hK hP q0 2 ha rfl hin d (h H locs ls hP hD hS hl)
theorem j_aald (C : Cx D ca sd cc own ret R0 k nL) {a b n ct : Nat} {E : String} {f : Nat → Option Nat} {i : Int32} (q0 : Nat) (d : decode cc pc = .ok (.aaload, 1)) (ha : ws[q0]? = some (a, .inl (ca ct, n, .inr (.inr (.inr (.inr f)))))) (ht : (gT ca)[ct]? = some (ca ct, .object E)) (hin : vp_in i n) (hv : f i.toNatClampNeg = some b) (h : J l D k nL cells slots (pc + 1) (ws) (lv) (.ref b :: st)) : J l D k nL cells slots (pc) (ws) (lv) (.int i :: .ref a :: st) := by
  obtain ⟨p, e, R, s, m, args, below, meth, c, Q, A, B⟩ := k
  obtain ⟨hx, hb, hr, hml, hown, hts, hlocks, hR0, hK, hG, hA⟩ := C
  intro H locs ls hP hD hS hl
  refine va_aldq hx hb hK hP q0 ct ha ht hin d ?_
  rw [hv]
  exact h H locs ls hP hD hS hl
theorem j_iast (C : Cx D ca sd cc own ret R0 k nL) (hB : Wx k) {a n : Nat} {f : Nat → Int32} {i : Int32} {x : Int32} (q0 : Nat) (ws' : va_W) (d : decode cc pc = .ok (.iastore, 1)) (ha : ws[q0]? = some (a, .inl (ca 0, n, .inl f))) (hin : vp_in i n) (hw : ws.set q0 (a, .inl (ca 0, n, .inl (upd f i.toNatClampNeg x))) = ws') (h : J l D k nL cells slots (pc + 1) (ws') (lv) (st)) : J l D k nL cells slots (pc) (ws) (lv) (.int x :: .int i :: .ref a :: st) := by
  subst hw
  obtain ⟨p, e, R, s, m, args, below, meth, c, Q, A, B⟩ := k
  obtain ⟨hx, hb, hr, hml, hown, hts, hlocks, hR0, hK, hG, hA⟩ := C
  obtain rfl := hB
  intro H locs ls hP hD hS hl
  exact va_iast hx hb hK hP hD hS q0 0 ha rfl hin d (fun H locs hP hD hS => h H locs ls hP hD hS hl)
theorem j_last (C : Cx D ca sd cc own ret R0 k nL) (hB : Wx k) {a n : Nat} {f : Nat → Int64} {i : Int32} {x : Int64} (q0 : Nat) (ws' : va_W) (d : decode cc pc = .ok (.lastore, 1)) (ha : ws[q0]? = some (a, .inl (ca 1, n, .inr (.inl f)))) (hin : vp_in i n) (hw : ws.set q0 (a, .inl (ca 1, n, .inr (.inl (vp_updL f i.toNatClampNeg x)))) = ws') (h : J l D k nL cells slots (pc + 1) (ws') (lv) (st)) : J l D k nL cells slots (pc) (ws) (lv) (.long x :: .int i :: .ref a :: st) := by
  subst hw
  obtain ⟨p, e, R, s, m, args, below, meth, c, Q, A, B⟩ := k
  obtain ⟨hx, hb, hr, hml, hown, hts, hlocks, hR0, hK, hG, hA⟩ := C
  obtain rfl := hB
  intro H locs ls hP hD hS hl
  exact va_last hx hb hK hP hD hS q0 1 ha rfl hin d (fun H locs hP hD hS => h H locs ls hP hD hS hl)
theorem j_bast (C : Cx D ca sd cc own ret R0 k nL) (hB : Wx k) {a n : Nat} {f : Nat → Int32} {i : Int32} {x : Int32} (q0 : Nat) (ws' : va_W) (d : decode cc pc = .ok (.bastore, 1)) (ha : ws[q0]? = some (a, .inl (ca 2, n, .inl f))) (hin : vp_in i n) (hw : ws.set q0 (a, .inl (ca 2, n, .inl (upd f i.toNatClampNeg (vp_nar .byte x)))) = ws') (h : J l D k nL cells slots (pc + 1) (ws') (lv) (st)) : J l D k nL cells slots (pc) (ws) (lv) (.int x :: .int i :: .ref a :: st) := by
  subst hw
  obtain ⟨p, e, R, s, m, args, below, meth, c, Q, A, B⟩ := k
  obtain ⟨hx, hb, hr, hml, hown, hts, hlocks, hR0, hK, hG, hA⟩ := C
  obtain rfl := hB
  intro H locs ls hP hD hS hl
  exact va_bast hx hb hK hP hD hS q0 2 ha rfl hin d (fun H locs hP hD hS => h H locs ls hP hD hS hl)
theorem j_alen (C : Cx D ca sd cc own ret R0 k nL) {a ct : Nat} {x : vp_A} {ty : FieldType} (q0 : Nat) (v : Int32) (d : decode cc pc = .ok (.arraylength, 1)) (ha : ws[q0]? = some (a, .inl (ca ct, x))) (ht : (gT ca)[ct]? = some (ca ct, ty)) (hv : Int32.ofNat x.1 = v) (h : J l D k nL cells slots (pc + 1) (ws) (lv) (.int v :: st)) : J l D k nL cells slots (pc) (ws) (lv) (.ref a :: st) := by
  obtain ⟨p, e, R, s, m, args, below, meth, c, Q, A, B⟩ := k
  obtain ⟨hx, hb, hr, hml, hown, hts, hlocks, hR0, hK, hG, hA⟩ := C
  intro H locs ls hP hD hS hl
  exact va_alen hx hb hK hP q0 ct ha ht hv d (h H locs ls hP hD hS hl)
/-- the cells in another order, the locals in another order -/
theorem j_sub (is js : List Nat) (ws' : va_W) (lv' : List (Nat × Value)) (hn : va_nd is = true) (hw : is.map (fun i => ws[i]?) = ws'.map some) (hl' : lv_pick lv js = lv') (h : J l D k nL cells slots (pc) (ws') (lv') (st)) : J l D k nL cells slots (pc) (ws) (lv) (st) := by
  obtain ⟨p, e, R, s, m, args, below, meth, c, Q, A, B⟩ := k
  intro H locs ls hP hD hS hl
  refine h H locs ls (hP.sub is ?_) (hD.sub is hn hw) hS (lv_sub hl js hl')
  have : is.filterMap (fun i => ws[i]?) = (is.map (fun i => ws[i]?)).filterMap id := by rw [List.filterMap_map]; rfl
  rw [this, hw, List.filterMap_map]
  simp
theorem j_lsub (js : List Nat) (lv' : List (Nat × Value)) (hl' : lv_pick lv js = lv') (h : J l D k nL cells slots (pc) (ws) (lv') (st)) : J l D k nL cells slots (pc) (ws) (lv) (st) := by
  obtain ⟨p, e, R, s, m, args, below, meth, c, Q, A, B⟩ := k
  intro H locs ls hP hD hS hl
  exact h H locs ls hP hD hS (lv_sub hl js hl')
theorem j_wsub (is : List Nat) (ws' : va_W) (hn : va_nd is = true) (hw : is.map (fun i => ws[i]?) = ws'.map some) (h : J l D k nL cells slots (pc) (ws') (lv) (st)) : J l D k nL cells slots (pc) (ws) (lv) (st) := by
  obtain ⟨p, e, R, s, m, args, below, meth, c, Q, A, B⟩ := k
  intro H locs ls hP hD hS hl
  refine h H locs ls (hP.sub is ?_) (hD.sub is hn hw) hS hl
  have : is.filterMap (fun i => ws[i]?) = (is.map (fun i => ws[i]?)).filterMap id := by rw [List.filterMap_map]; rfl
  rw [this, hw, List.filterMap_map]
  simp
theorem j_widen {c1 s1 : Nat} (h1 : cells ≤ c1) (h2 : slots ≤ s1) (h : J l D k nL c1 s1 (pc) (ws) (lv) (st)) : J l D k nL cells slots (pc) (ws) (lv) (st) := by
  obtain ⟨p, e, R, s, m, args, below, meth, c, Q, A, B⟩ := k
  intro H locs ls hP hD hS hl
  exact W.widen h1 h2 (h H locs ls hP hD hS hl)
theorem j_eq {ws' : va_W} {lv' : List (Nat × Value)} {st' : List Value} (h1 : ws = ws') (h2 : lv = lv') (h3 : st = st') (h : J l D k nL cells slots (pc) (ws') (lv') (st')) : J l D k nL cells slots (pc) (ws) (lv) (st) := by
  subst h1; subst h2; subst h3; exact h
theorem j_iret (C : Cx D ca sd cc own ret R0 k nL) (hB : Wx k) {S : Type} {post : Int32 → S → Prop} {wB : S → va_W} (hR : Rx (Ri D post wB) cells slots k) {v : Int32} (u : S) (hret : ret = some .int) (d : decode cc pc = .ok (.ireturn, 1)) (hp : post v u) (hw : ws = wB u) : J l D k nL cells slots (pc) (ws) (lv) ([.int v]) := by
  subst hw
  obtain ⟨p, e, R, s, m, args, below, meth, c, Q, A, B⟩ := k
  obtain ⟨hx, hb, hr, hml, hown, hts, hlocks, hR0, hK, hG, hA⟩ := C
  obtain rfl := hB
  obtain rfl := hR
  subst hret
  intro H locs ls hP hD hS hl
  exact W.iret hx hb hr (fun t ht hW => ⟨⟨v, u, rfl, hp, by rw [ht]; exact hP, hD⟩, hS.F ht⟩) hS.2.2 d
theorem j_zret (C : Cx D ca sd cc own ret R0 k nL) (hB : Wx k) {S : Type} {post : Int32 → S → Prop} {wB : S → va_W} (hR : Rx (Ri D post wB) cells slots k) {v : Int32} {ty : FieldType} (hn : narrow ty (.int v) = .int v) (u : S) (hret : ret = some ty) (d : decode cc pc = .ok (.ireturn, 1)) (hp : post v u) (hw : ws = wB u) : J l D k nL cells slots (pc) (ws) (lv) ([.int v]) := by
  subst hw
  obtain ⟨p, e, R, s, m, args, below, meth, c, Q, A, B⟩ := k
  obtain ⟨hx, hb, hr, hml, hown, hts, hlocks, hR0, hK, hG, hA⟩ := C
  obtain rfl := hB
  obtain rfl := hR
  subst hret
  intro H locs ls hP hD hS hl
  exact W.zret hx hb hr hn (fun t ht hW => ⟨⟨v, u, rfl, hp, by rw [ht]; exact hP, hD⟩, hS.F ht⟩) hS.2.2 d
theorem j_vret (C : Cx D ca sd cc own ret R0 k nL) (hB : Wx k) {S : Type} {post : S → Prop} {wB : S → va_W} (hR : Rx (Rv D post wB) cells slots k)  (u : S) (hret : ret = none) (d : decode cc pc = .ok (.return_, 1)) (hp : post u) (hw : ws = wB u) : J l D k nL cells slots (pc) (ws) (lv) ([]) := by
  subst hw
  obtain ⟨p, e, R, s, m, args, below, meth, c, Q, A, B⟩ := k
  obtain ⟨hx, hb, hr, hml, hown, hts, hlocks, hR0, hK, hG, hA⟩ := C
  obtain rfl := hB
  obtain rfl := hR
  subst hret
  intro H locs ls hP hD hS hl
  exact W.vret hx hb hr (fun t ht hW => ⟨⟨u, rfl, hp, by rw [ht]; exact hP, hD⟩, hS.F ht⟩) hS.2.2 d
theorem j_lret (C : Cx D ca sd cc own ret R0 k nL) (hB : Wx k) {S : Type} {post : Int64 → S → Prop} {wB : S → va_W} (hR : Rx (Rl D post wB) cells slots k) {v : Int64} (u : S) (hret : ret = some .long) (d : decode cc pc = .ok (.lreturn, 1)) (hp : post v u) (hw : ws = wB u) : J l D k nL cells slots (pc) (ws) (lv) ([.long v]) := by
  subst hw
  obtain ⟨p, e, R, s, m, args, below, meth, c, Q, A, B⟩ := k
  obtain ⟨hx, hb, hr, hml, hown, hts, hlocks, hR0, hK, hG, hA⟩ := C
  obtain rfl := hB
  obtain rfl := hR
  subst hret
  intro H locs ls hP hD hS hl
  exact W.lret hx hb hr (fun t ht hW => ⟨⟨v, u, rfl, hp, by rw [ht]; exact hP, hD⟩, hS.F ht⟩) hS.2.2 d
theorem j_iretR (C : Cx D ca sd cc own ret R0 k nL) {S : Type} {post : Int32 → S → Prop} (hR : Rx (Ri D post (fun _ => [])) cells slots k) {v : Int32} (u : S) (hret : ret = some .int) (d : decode cc pc = .ok (.ireturn, 1)) (hp : post v u) : J l D k nL cells slots (pc) (ws) (lv) ([.int v]) := by
  obtain ⟨p, e, R, s, m, args, below, meth, c, Q, A, B⟩ := k
  obtain ⟨hx, hb, hr, hml, hown, hts, hlocks, hR0, hK, hG, hA⟩ := C
  obtain rfl := hR
  subst hret
  intro H locs ls hP hD hS hl
  exact W.iret hx hb hr (fun t ht hW => ⟨⟨v, u, rfl, hp, va_P_nil, va_D_nil⟩, hS.F ht⟩) hS.2.2 d
theorem j_zretR (C : Cx D ca sd cc own ret R0 k nL) {S : Type} {post : Int32 → S → Prop} (hR : Rx (Ri D post (fun _ => [])) cells slots k) {v : Int32} {ty : FieldType} (hn : narrow ty (.int v) = .int v) (u : S) (hret : ret = some ty) (d : decode cc pc = .ok (.ireturn, 1)) (hp : post v u) : J l D k nL cells slots (pc) (ws) (lv) ([.int v]) := by
  obtain ⟨p, e, R, s, m, args, below, meth, c, Q, A, B⟩ := k
  obtain ⟨hx, hb, hr, hml, hown, hts, hlocks, hR0, hK, hG, hA⟩ := C
  obtain rfl := hR
  subst hret
  intro H locs ls hP hD hS hl
  exact W.zret hx hb hr hn (fun t ht hW => ⟨⟨v, u, rfl, hp, va_P_nil, va_D_nil⟩, hS.F ht⟩) hS.2.2 d
theorem j_vretR (C : Cx D ca sd cc own ret R0 k nL) {S : Type} {post : S → Prop} (hR : Rx (Rv D post (fun _ => [])) cells slots k)  (u : S) (hret : ret = none) (d : decode cc pc = .ok (.return_, 1)) (hp : post u) : J l D k nL cells slots (pc) (ws) (lv) ([]) := by
  obtain ⟨p, e, R, s, m, args, below, meth, c, Q, A, B⟩ := k
  obtain ⟨hx, hb, hr, hml, hown, hts, hlocks, hR0, hK, hG, hA⟩ := C
  obtain rfl := hR
  subst hret
  intro H locs ls hP hD hS hl
  exact W.vret hx hb hr (fun t ht hW => ⟨⟨u, rfl, hp, va_P_nil, va_D_nil⟩, hS.F ht⟩) hS.2.2 d
theorem j_lretR (C : Cx D ca sd cc own ret R0 k nL) {S : Type} {post : Int64 → S → Prop} (hR : Rx (Rl D post (fun _ => [])) cells slots k) {v : Int64} (u : S) (hret : ret = some .long) (d : decode cc pc = .ok (.lreturn, 1)) (hp : post v u) : J l D k nL cells slots (pc) (ws) (lv) ([.long v]) := by
  obtain ⟨p, e, R, s, m, args, below, meth, c, Q, A, B⟩ := k
  obtain ⟨hx, hb, hr, hml, hown, hts, hlocks, hR0, hK, hG, hA⟩ := C
  obtain rfl := hR
  subst hret
  intro H locs ls hP hD hS hl
  exact W.lret hx hb hr (fun t ht hW => ⟨⟨v, u, rfl, hp, va_P_nil, va_D_nil⟩, hS.F ht⟩) hS.2.2 d
theorem j_aretR (C : Cx D ca sd cc own ret R0 k nL) {S : Type} {post : S → Prop} {ra : S → Nat} (hR : Rx (Rr D post ra (fun _ => [])) cells slots k) {a : Nat} {E : String} (u : S) (hret : ret = some (.object E)) (d : decode cc pc = .ok (.areturn, 1)) (hp : post u) (ha : a = ra u) : J l D k nL cells slots (pc) (ws) (lv) ([.ref a]) := by
  obtain ⟨p, e, R, s, m, args, below, meth, c, Q, A, B⟩ := k
  obtain ⟨hx, hb, hr, hml, hown, hts, hlocks, hR0, hK, hG, hA⟩ := C
  obtain rfl := hR
  subst hret
  intro H locs ls hP hD hS hl
  exact W.aret hx hb hr (Or.inl ⟨_, rfl⟩) (Or.inr ⟨_, rfl⟩) (fun t ht hW => ⟨⟨u, a, rfl, hp, ha, va_P_nil, va_D_nil⟩, hS.F ht⟩) hS.2.2 d
end Jr
section Jc
variable {l : Launch} {D : va_G} {ca : Nat → ClassId} {sd : Nat → Nat} {cc : ByteArray} {own : String} {ret : Option FieldType} {R0 : Room} {k : Kx} {nL cells slots pc : Nat} {ws : va_W} {lv : List (Nat × Value)} {st : List Value}
/-- a contract out of a walk that may write -/
theorem cn_of {y : MethodName} {maxL : Nat} {rm : Room} {av : List Value} {wc : va_W} {mc ms : Nat} {Qc : (Nat → Prop) → Array Value → State → Outcome → State → Prop} (hpl : plainName y.cls = true) (hlen : (lg_sl av).length ≤ maxL)
    (body : ∀ k : Kx, Cx D ca sd cc y.cls ret rm k maxL → Rx Qc mc ms k → Wx k → (y.name = "<init>" → Ix k) → J l D k maxL 0 0 0 wc (lv_args 0 av) []) : Cn l D ca sd y cc maxL ret rm av wc wc mc ms Qc := by
  intro sz
  refine Met.ofW (cc := cc) (maxL := maxL) (ret := ret) hpl rfl ?_
  intro p e s m args below meth c s₁ B hml hv
  obtain ⟨rfl, hsz, hP, hD0, hK, hG⟩ := hv
  subst hsz
  have hts := atoms_spec (ws := .code y cc maxL ret :: TB) B.pre
  have hown : s.vm.findClass y.cls = some m.cls := findClass_of_methodNamed B.named
  have hnm := (name_of_methodNamed B.named B.method).1
  have h := body (p, e, rm, s, m, av.toArray, below, meth, c, MQ below (Qc (va_A wc s.heap.size)) av.toArray s mc ms (va_A wc s.heap.size), va_A wc s.heap.size, va_A wc s.heap.size) ⟨B.exec, B.bytes, B.returns, hml, hown, fun w hw => hts w (List.mem_cons_of_mem _ hw), B.notSynchronized, rfl, hK, hG, fun q h => Or.inr h⟩ rfl rfl (fun e => by show meth.name = "<init>"; rw [hnm]; exact e)
  rw [lg_entry_eq]
  exact h s.heap [] _ hP hD0.self va_S.rf (lv_entry av hlen)
/-- a contract out of a walk that reads alone -/
theorem cn_ofR {y : MethodName} {maxL : Nat} {rm : Room} {av : List Value} {wc : va_W} {mc ms : Nat} {Qc : (Nat → Prop) → Array Value → State → Outcome → State → Prop} (hpl : plainName y.cls = true) (hlen : (lg_sl av).length ≤ maxL)
    (body : ∀ k : Kx, Cx D ca sd cc y.cls ret rm k maxL → Rx Qc mc ms k → J l D k maxL 0 0 0 wc (lv_args 0 av) []) : Cn l D ca sd y cc maxL ret rm av wc [] mc ms Qc := by
  intro sz
  refine Met.ofW (cc := cc) (maxL := maxL) (ret := ret) hpl rfl ?_
  intro p e s m args below meth c s₁ B hml hv
  obtain ⟨rfl, hsz, hP, hD0, hK, hG⟩ := hv
  subst hsz
  have hts := atoms_spec (ws := .code y cc maxL ret :: TB) B.pre
  have hown : s.vm.findClass y.cls = some m.cls := findClass_of_methodNamed B.named
  have h := body (p, e, rm, s, m, av.toArray, below, meth, c, MQ below (Qc (va_A [] s.heap.size)) av.toArray s mc ms (va_A [] s.heap.size), va_A [] s.heap.size, fun _ => True) ⟨B.exec, B.bytes, B.returns, hml, hown, fun w hw => hts w (List.mem_cons_of_mem _ hw), B.notSynchronized, rfl, hK, hG, fun q h => Or.inr h⟩ rfl
  rw [lg_entry_eq]
  exact h s.heap [] _ hP hD0 va_S.rf (lv_entry av hlen)
/-- a call that can be run, whatever goes on behind it -/
def JR (l : Launch) (D : va_G) : Kx → Nat → Nat → Nat → Nat → va_W → List (Nat × Value) → List Value → List Value → va_W → Nat → Nat → ((Nat → Prop) → Array Value → State → Outcome → State → Prop) → List Value → Prop
  | (p, e, R, s, m, args, below, meth, c, Q, A, B), nL, cells, slots, pc, ws, lv, st0, st, wa, mc, ms, Qc, av => ∀ (H : Heap) (locs : List Loc) (ls : Array Slot), va_P D vwCl ws H → va_D B ws → va_S A s.heap H locs → lv_has ls nL lv → va_Run p l e R s m args below meth c H locs cells slots mc ms (F0 m pc ls st0) st (Qc (va_A wa H.size) av.toArray) (va_A wa H.size)
/-- what the callee may write, the walk may -/
def Fx (wa ws : va_W) : Kx → Prop
  | (p, e, R, s, m, args, below, meth, c, Q, A, B) => ∀ (H : Heap) (locs : List Loc), va_D B ws → va_S A s.heap H locs → ∀ q, va_A wa H.size q → A q
theorem fx_ro (C : Cx D ca sd cc own ret R0 k nL) : Fx [] ws k := by
  obtain ⟨p, e, R, s, m, args, below, meth, c, Q, A, B⟩ := k
  obtain ⟨hx, hb, hr, hml, hown, hts, hlocks, hR0, hK, hG, hA⟩ := C
  intro H locs hD hS q hq
  rcases hq with ⟨i, e, h⟩ | h
  · simp at h
  · exact hA q (Nat.le_trans hS.1 h)
theorem fx_rw {wc : va_W} (C : Cx D ca sd cc own ret R0 k nL) (hB : Wx k) (isC : List Nat) (hC : isC.map (fun i => ws[i]?) = wc.map some) : Fx wc ws k := by
  obtain ⟨p, e, R, s, m, args, below, meth, c, Q, A, B⟩ := k
  obtain ⟨hx, hb, hr, hml, hown, hts, hlocks, hR0, hK, hG, hA⟩ := C
  obtain rfl := hB
  intro H locs hD hS
  exact va_free hD hS hA isC hC
theorem fsub {ws wc : va_W} {is : List Nat} (hC : is.map (fun i => ws[i]?) = wc.map some) : is.filterMap (fun i => ws[i]?) = wc := by
  have : is.filterMap (fun i => ws[i]?) = (is.map (fun i => ws[i]?)).filterMap id := by rw [List.filterMap_map]; rfl
  rw [this, hC, List.filterMap_map]
  simp
variable {y : MethodName} {cc1 : ByteArray} {maxL : Nat} {ret1 : Option FieldType} {rm : Room} {wc wa wr : va_W} {mc ms index n : Nat} {Qc : (Nat → Prop) → Array Value → State → Outcome → State → Prop} {av As st0 : List Value} {b : Nat} {Cn1 : String}
theorem blind_pc {av : List Value} {sz : Nat} {wc wa : va_W} : FrameBlind (va_Pc av (fun U => U.heap.size = sz ∧ va_P D vwCl wc U.heap ∧ va_D (fun _ => True) wc ∧ va_K D vwCl (gT ca) U ∧ gS sd (va_A wa sz) U U.heap)) := by
  intro a U g mk ⟨h0, h1, h2, h3, h4, h5⟩
  exact ⟨h0, h1, h2, h3, va_K.moved (u := U) (U := U.calling g mk a) (Vm.Alike.refl U.vm) h4, gS_same (s := U) (U := U.calling g mk a) rfl h5⟩
theorem pre_pc {s : State} {A B : Nat → Prop} {H : Heap} {locs : List Loc} (hP : va_P D vwCl ws H) (hD : va_D B ws) (hS : va_S A s.heap H locs) (hK : va_K D vwCl (gT ca) s) (hG : gS sd A s s.heap) (hF : ∀ q, va_A wa H.size q → A q) (isC : List Nat) (hn : va_nd isC = true) (hC : isC.map (fun i => ws[i]?) = wc.map some) (av : List Value) :
    ∀ U : State, U.heap = H → s.WarmedH U.vm → va_Pc av (fun U => U.heap.size = H.size ∧ va_P D vwCl wc U.heap ∧ va_D (fun _ => True) wc ∧ va_K D vwCl (gT ca) U ∧ gS sd (va_A wa H.size) U U.heap) av.toArray U := by
  intro U hU hW
  refine ⟨rfl, by rw [hU], by rw [hU]; exact hP.sub isC (fsub hC), (hD.sub isC hn hC).weaken (fun _ _ _ _ => trivial), va_K.moved hW.alike hK, ?_⟩
  rw [hU]
  exact gS_warm hW (gS_narrow (gS_kept hG (fun a ha hna => hS.2.1 a ha hna)) hF)
/-- the links of a virtual call of the class's own method -/
def LkV (own : String) (index : Nat) (C : String) (y : MethodName) (cc1 : ByteArray) (maxL : Nat) (ret1 : Option FieldType) (n : Nat) : Prop := Cond.methodLink own index y ∈ TB ∧ Cond.instanceMethod y ∈ TB ∧ Cond.selects C y y ∈ TB ∧ Cond.initialized C ∈ TB ∧ Cond.code y cc1 maxL ret1 ∈ TB ∧ y.cls = C ∧ y.cls ≠ "java/lang/invoke/MethodHandle" ∧ y.cls ≠ "java/lang/invoke/VarHandle" ∧ (parseMethodDescriptor y.desc).map (fun d => d.parameters.length) = some n
def LkS (own : String) (index : Nat) (y : MethodName) (cc1 : ByteArray) (maxL : Nat) (ret1 : Option FieldType) (n : Nat) : Prop := Cond.methodLink own index y ∈ TB ∧ Cond.static y ∈ TB ∧ Cond.initialized y.cls ∈ TB ∧ Cond.code y cc1 maxL ret1 ∈ TB ∧ y.cls ≠ "java/lang/invoke/MethodHandle" ∧ y.cls ≠ "java/lang/invoke/VarHandle" ∧ (parseMethodDescriptor y.desc).map (fun d => d.parameters.length) = some n
def LkI (own : String) (index : Nat) (y : MethodName) (cc1 : ByteArray) (maxL : Nat) (n : Nat) : Prop := Cond.methodLink own index y ∈ TB ∧ Cond.instanceMethod y ∈ TB ∧ Cond.initialized y.cls ∈ TB ∧ Cond.code y cc1 maxL none ∈ TB ∧ y.name = "<init>" ∧ y.cls ≠ "java/lang/invoke/MethodHandle" ∧ y.cls ≠ "java/lang/invoke/VarHandle" ∧ (parseMethodDescriptor y.desc).map (fun d => d.parameters.length) = some n
def LkU (own : String) (index : Nat) (y : MethodName) (cc1 : ByteArray) (maxL : Nat) (ret1 : Option FieldType) (n : Nat) : Prop := Cond.methodLink own index y ∈ TB ∧ Cond.sameMethod y.cls y.cls y.name y.desc ∈ TB ∧ Cond.superclass own y.cls ∈ TB ∧ Cond.instanceMethod y ∈ TB ∧ Cond.initialized y.cls ∈ TB ∧ Cond.code y cc1 maxL ret1 ∈ TB ∧ y.name ≠ "<init>" ∧ (parseMethodDescriptor y.desc).map (fun d => d.parameters.length) = some n
def LkO (own : String) (index : Nat) (C owner : String) (x y : MethodName) (cc1 : ByteArray) (maxL : Nat) (ret1 : Option FieldType) (n : Nat) : Prop := (Cond.methodLink own index x ∈ TB ∧ Cond.sameMethod x.cls owner x.name x.desc ∈ TB ∧ Cond.instanceMethod ⟨owner, x.name, x.desc⟩ ∈ TB ∧ Cond.selects C x y ∈ TB ∧ Cond.instanceMethod y ∈ TB ∧ Cond.initialized y.cls ∈ TB ∧ Cond.code y cc1 maxL ret1 ∈ TB ∧ owner ≠ "java/lang/invoke/MethodHandle" ∧ owner ≠ "java/lang/invoke/VarHandle" ∧ (parseMethodDescriptor x.desc).map (fun d => d.parameters.length) = some n) ∧ ∃ (b0 : ByteArray) (m0 : Nat) (r0 : Option FieldType), Cond.code ⟨owner, x.name, x.desc⟩ b0 m0 r0 ∈ TB
theorem jr_V (C : Cx D ca sd cc own ret R0 k nL) (lk : LkV own index Cn1 y cc1 maxL ret1 n) (hM : Cn l D ca sd y cc1 maxL ret1 rm (.ref b :: As) wc wa mc ms Qc) (hrm : rm.cells = mc ∧ rm.slots = ms ∧ rm.frames + 1 ≤ R0.frames ∧ 8 + (maxL + 11) + rm.locals ≤ R0.locals ∧ cells + mc ≤ R0.cells ∧ slots + ms ≤ R0.slots) (isC : List Nat) (hnd : va_nd isC = true) (hC : isC.map (fun i => ws[i]?) = wc.map some) (hF : Fx wa ws k) (q0 ci : Nat) {fs : List Value} {T : u_T} {N : Nat} (hq : ws[q0]? = some (b, .inr (ci, fs))) (hci : vwCl[ci]? = some (Cn1, T, N)) (hn : As.length = n) (hst : st0 = As.reverse ++ .ref b :: st) (hw : (st.map fun v => v.category).sum ≤ 8) (d : decode cc pc = .ok (.invokevirtual index, 3)) : JR l D k nL cells slots pc ws lv st0 st wa mc ms Qc (.ref b :: As) := by
  obtain ⟨p, e, R, s, m, args, below, meth, c, Q, A, B⟩ := k
  obtain ⟨hx, hb, hr, hml, hown, hts, hlocks, hR0, hK, hG, hA⟩ := C
  obtain ⟨l1, l2, l3, l4, l5, l6, l7, l8, l9⟩ := lk
  subst hR0
  intro H locs ls hP hD hS hl
  exact va_runV (Ts := TB) ⟨hx, hb, hml, hown, hts⟩ (hM H.size) (cwV n hts (tb_gi (tb_app (tb_cons l1 (tb_cons l2 (tb_cons l3 (tb_cons l4 tb_nil)))) (tb_cons l5 (fun _ h => h)))) rfl hrm.1 hrm.2.1 ⟨l6, l7, l8, l9⟩ ⟨hrm.2.2.1, hrm.2.2.2.1⟩) ⟨blind_pc, va_recv hK hP hci hq, pre_pc hP hD hS hK hG (hF H locs hD hS) isC hnd hC _⟩ rfl hn hl.1 hst (lv_room hw) d ⟨hrm.2.2.2.2.1, hrm.2.2.2.2.2⟩
theorem jr_S (C : Cx D ca sd cc own ret R0 k nL) (lk : LkS own index y cc1 maxL ret1 n) (hM : Cn l D ca sd y cc1 maxL ret1 rm (As) wc wa mc ms Qc) (hrm : rm.cells = mc ∧ rm.slots = ms ∧ rm.frames + 1 ≤ R0.frames ∧ 8 + (maxL + 11) + rm.locals ≤ R0.locals ∧ cells + mc ≤ R0.cells ∧ slots + ms ≤ R0.slots) (isC : List Nat) (hnd : va_nd isC = true) (hC : isC.map (fun i => ws[i]?) = wc.map some) (hF : Fx wa ws k)  (hn : As.length = n) (hst : st0 = As.reverse ++ st) (hw : (st.map fun v => v.category).sum ≤ 8) (d : decode cc pc = .ok (.invokestatic index, 3)) : JR l D k nL cells slots pc ws lv st0 st wa mc ms Qc (As) := by
  obtain ⟨p, e, R, s, m, args, below, meth, c, Q, A, B⟩ := k
  obtain ⟨hx, hb, hr, hml, hown, hts, hlocks, hR0, hK, hG, hA⟩ := C
  obtain ⟨l1, l2, l3, l4, l5, l6, l7⟩ := lk
  subst hR0
  intro H locs ls hP hD hS hl
  exact va_runS (Ts := TB) ⟨hx, hb, hml, hown, hts⟩ (hM H.size) (va_cwS n hts (tb_gi (tb_app (tb_cons l1 (tb_cons l2 (tb_cons l3 tb_nil))) (tb_cons l4 (fun _ h => h)))) rfl hrm.1 hrm.2.1 ⟨l5, l6, l7⟩ ⟨hrm.2.2.1, hrm.2.2.2.1⟩) ⟨blind_pc, pre_pc hP hD hS hK hG (hF H locs hD hS) isC hnd hC _⟩ rfl hn hl.1 hst (lv_room hw) d ⟨hrm.2.2.2.2.1, hrm.2.2.2.2.2⟩
theorem jr_I (C : Cx D ca sd cc own ret R0 k nL) (lk : LkI own index y cc1 maxL n) (hM : Cn l D ca sd y cc1 maxL none rm (.ref b :: As) wc wa mc ms Qc) (hrm : rm.cells = mc ∧ rm.slots = ms ∧ rm.frames + 1 ≤ R0.frames ∧ 8 + (maxL + 11) + rm.locals ≤ R0.locals ∧ cells + mc ≤ R0.cells ∧ slots + ms ≤ R0.slots) (isC : List Nat) (hnd : va_nd isC = true) (hC : isC.map (fun i => ws[i]?) = wc.map some) (hF : Fx wa ws k)  (hn : As.length = n) (hst : st0 = As.reverse ++ .ref b :: st) (hw : (st.map fun v => v.category).sum ≤ 8) (d : decode cc pc = .ok (.invokespecial index, 3)) : JR l D k nL cells slots pc ws lv st0 st wa mc ms Qc (.ref b :: As) := by
  obtain ⟨p, e, R, s, m, args, below, meth, c, Q, A, B⟩ := k
  obtain ⟨hx, hb, hr, hml, hown, hts, hlocks, hR0, hK, hG, hA⟩ := C
  obtain ⟨l1, l2, l3, l4, l5, l6, l7, l8⟩ := lk
  subst hR0
  intro H locs ls hP hD hS hl
  exact va_runI (Ts := TB) ⟨hx, hb, hml, hown, hts⟩ (hM H.size) (cwI n hts (tb_gi (tb_cons l4 (fun _ h => h))) rfl hrm.1 hrm.2.1 (hts _ l3) (hts _ l1) (hts _ l2) l5 ⟨l6, l7, l8⟩ ⟨hrm.2.2.1, hrm.2.2.2.1⟩) ⟨blind_pc, pre_pc hP hD hS hK hG (hF H locs hD hS) isC hnd hC _⟩ rfl hn hl.1 hst (lv_room hw) d ⟨hrm.2.2.2.2.1, hrm.2.2.2.2.2⟩
theorem jr_IN (C : Cx D ca sd cc own ret R0 k nL) {host : String} (hns : (own, index, y, host) ∈ nestS) (lk : Cond.initialized y.cls ∈ TB ∧ Cond.instanceMethod y ∈ TB ∧ Cond.code y cc1 maxL none ∈ TB ∧ y.name = "<init>" ∧ y.cls ≠ "java/lang/invoke/MethodHandle" ∧ y.cls ≠ "java/lang/invoke/VarHandle" ∧ (parseMethodDescriptor y.desc).map (fun d => d.parameters.length) = some n) (hM : Cn l D ca sd y cc1 maxL none rm (.ref b :: As) wc wa mc ms Qc) (hrm : rm.cells = mc ∧ rm.slots = ms ∧ rm.frames + 1 ≤ R0.frames ∧ 8 + (maxL + 11) + rm.locals ≤ R0.locals ∧ cells + mc ≤ R0.cells ∧ slots + ms ≤ R0.slots) (isC : List Nat) (hnd : va_nd isC = true) (hC : isC.map (fun i => ws[i]?) = wc.map some) (hF : Fx wa ws k)  (hn : As.length = n) (hst : st0 = As.reverse ++ .ref b :: st) (hw : (st.map fun v => v.category).sum ≤ 8) (d : decode cc pc = .ok (.invokespecial index, 3)) : JR l D k nL cells slots pc ws lv st0 st wa mc ms Qc (.ref b :: As) := by
  obtain ⟨p, e, R, s, m, args, below, meth, c, Q, A, B⟩ := k
  obtain ⟨hx, hb, hr, hml, hown, hts, hlocks, hR0, hK, hG, hA⟩ := C
  obtain ⟨l1, l2, l3, l4, l5, l6, l7⟩ := lk
  subst hR0
  intro H locs ls hP hD hS hl
  have hN : va_Nw (.methodLinkNest own index y host) s := hG.2.2.2.2.2.2.2.2.1 _ hns
  exact va_runIN (Ts := TB) ⟨hx, hb, hml, hown, hts⟩ (hM H.size) ⟨va_cnB n hts (tb_gi (tb_cons l3 (fun _ h => h))) rfl hrm.1 hrm.2.1 hN (hts _ l1) ⟨l5, l6, l7⟩ ⟨hrm.2.2.1, hrm.2.2.2.1⟩, l4, hts _ l2⟩ ⟨blind_pc, pre_pc hP hD hS hK hG (hF H locs hD hS) isC hnd hC _⟩ rfl hn hl.1 hst (lv_room hw) d ⟨hrm.2.2.2.2.1, hrm.2.2.2.2.2⟩
theorem jr_SN (C : Cx D ca sd cc own ret R0 k nL) {host : String} (hns : (own, index, y, host) ∈ nestS) (lk : Cond.initialized y.cls ∈ TB ∧ Cond.static y ∈ TB ∧ Cond.code y cc1 maxL ret1 ∈ TB ∧ y.cls ≠ "java/lang/invoke/MethodHandle" ∧ y.cls ≠ "java/lang/invoke/VarHandle" ∧ (parseMethodDescriptor y.desc).map (fun d => d.parameters.length) = some n) (hM : Cn l D ca sd y cc1 maxL ret1 rm (As) wc wa mc ms Qc) (hrm : rm.cells = mc ∧ rm.slots = ms ∧ rm.frames + 1 ≤ R0.frames ∧ 8 + (maxL + 11) + rm.locals ≤ R0.locals ∧ cells + mc ≤ R0.cells ∧ slots + ms ≤ R0.slots) (isC : List Nat) (hnd : va_nd isC = true) (hC : isC.map (fun i => ws[i]?) = wc.map some) (hF : Fx wa ws k)  (hn : As.length = n) (hst : st0 = As.reverse ++ st) (hw : (st.map fun v => v.category).sum ≤ 8) (d : decode cc pc = .ok (.invokestatic index, 3)) : JR l D k nL cells slots pc ws lv st0 st wa mc ms Qc (As) := by
  obtain ⟨p, e, R, s, m, args, below, meth, c, Q, A, B⟩ := k
  obtain ⟨hx, hb, hr, hml, hown, hts, hlocks, hR0, hK, hG, hA⟩ := C
  obtain ⟨l1, l2, l3, l4, l5, l6⟩ := lk
  subst hR0
  intro H locs ls hP hD hS hl
  have hN : va_Nw (.methodLinkNest own index y host) s := hG.2.2.2.2.2.2.2.2.1 _ hns
  exact va_runSN (Ts := TB) ⟨hx, hb, hml, hown, hts⟩ (hM H.size) ⟨va_cnB n hts (tb_gi (tb_cons l3 (fun _ h => h))) rfl hrm.1 hrm.2.1 hN (hts _ l1) ⟨l4, l5, l6⟩ ⟨hrm.2.2.1, hrm.2.2.2.1⟩, hts _ l2, trivial⟩ ⟨blind_pc, pre_pc hP hD hS hK hG (hF H locs hD hS) isC hnd hC _⟩ rfl hn hl.1 hst (lv_room hw) d ⟨hrm.2.2.2.2.1, hrm.2.2.2.2.2⟩
theorem jr_U (C : Cx D ca sd cc own ret R0 k nL) (lk : LkU own index y cc1 maxL ret1 n) (hM : Cn l D ca sd y cc1 maxL ret1 rm (.ref b :: As) wc wa mc ms Qc) (hrm : rm.cells = mc ∧ rm.slots = ms ∧ rm.frames + 1 ≤ R0.frames ∧ 8 + (maxL + 11) + rm.locals ≤ R0.locals ∧ cells + mc ≤ R0.cells ∧ slots + ms ≤ R0.slots) (isC : List Nat) (hnd : va_nd isC = true) (hC : isC.map (fun i => ws[i]?) = wc.map some) (hF : Fx wa ws k) (q0 ci : Nat) {fs : List Value} {T : u_T} {N : Nat} (hq : ws[q0]? = some (b, .inr (ci, fs))) (hci : vwCl[ci]? = some (Cn1, T, N)) (hn : As.length = n) (hst : st0 = As.reverse ++ .ref b :: st) (hw : (st.map fun v => v.category).sum ≤ 8) (d : decode cc pc = .ok (.invokespecial index, 3)) : JR l D k nL cells slots pc ws lv st0 st wa mc ms Qc (.ref b :: As) := by
  obtain ⟨p, e, R, s, m, args, below, meth, c, Q, A, B⟩ := k
  obtain ⟨hx, hb, hr, hml, hown, hts, hlocks, hR0, hK, hG, hA⟩ := C
  obtain ⟨l1, l2, l3, l4, l5, l6, l7, l8⟩ := lk
  subst hR0
  intro H locs ls hP hD hS hl
  exact va_runSU (Ts := TB) (hK.1 ci _ hci).2 ⟨hx, hb, hml, hown, hts⟩ (hM H.size) (va_cwSU n hts (tb_gi (tb_app (tb_cons l1 (tb_cons l2 (tb_cons l3 (tb_cons l4 (tb_cons l5 tb_nil))))) (tb_cons l6 (fun _ h => h)))) rfl hrm.1 hrm.2.1 ⟨l7, l8⟩ ⟨hrm.2.2.1, hrm.2.2.2.1⟩) ⟨blind_pc, va_recv hK hP hci hq, pre_pc hP hD hS hK hG (hF H locs hD hS) isC hnd hC _⟩ rfl hn hl.1 hst (lv_room hw) d ⟨hrm.2.2.2.2.1, hrm.2.2.2.2.2⟩
theorem jr_O (C : Cx D ca sd cc own ret R0 k nL) {owner : String} {x : MethodName} (lk : LkO own index Cn1 owner x y cc1 maxL ret1 n) (hM : Cn l D ca sd y cc1 maxL ret1 rm (.ref b :: As) wc wa mc ms Qc) (hrm : rm.cells = mc ∧ rm.slots = ms ∧ rm.frames + 1 ≤ R0.frames ∧ 8 + (maxL + 11) + rm.locals ≤ R0.locals ∧ cells + mc ≤ R0.cells ∧ slots + ms ≤ R0.slots) (isC : List Nat) (hnd : va_nd isC = true) (hC : isC.map (fun i => ws[i]?) = wc.map some) (hF : Fx wa ws k) (q0 ci : Nat) {fs : List Value} {T : u_T} {N : Nat} (hq : ws[q0]? = some (b, .inr (ci, fs))) (hci : vwCl[ci]? = some (Cn1, T, N)) (hn : As.length = n) (hst : st0 = As.reverse ++ .ref b :: st) (hw : (st.map fun v => v.category).sum ≤ 8) (d : decode cc pc = .ok (.invokevirtual index, 3)) : JR l D k nL cells slots pc ws lv st0 st wa mc ms Qc (.ref b :: As) := by
  obtain ⟨p, e, R, s, m, args, below, meth, c, Q, A, B⟩ := k
  obtain ⟨hx, hb, hr, hml, hown, hts, hlocks, hR0, hK, hG, hA⟩ := C
  obtain ⟨⟨l1, l2, l3, l4, l5, l6, l7, l8, l9, l10⟩, b0, m0, r0, l11⟩ := lk
  subst hR0
  intro H locs ls hP hD hS hl
  exact va_runU (Ts := TB) ⟨hx, hb, hml, hown, hts⟩ (hM H.size) (va_cwO n hts (tb_gi (tb_app (tb_cons l1 (tb_cons l2 (tb_cons l3 (tb_cons l4 (tb_cons l5 (tb_cons l6 tb_nil)))))) (tb_cons l7 (fun _ h => h)))) rfl hrm.1 hrm.2.1 l11 ⟨l8, l9, l10⟩ ⟨hrm.2.2.1, hrm.2.2.2.1⟩) ⟨blind_pc, va_recv hK hP hci hq, pre_pc hP hD hS hK hG (hF H locs hD hS) isC hnd hC _⟩ rfl hn hl.1 hst (lv_room hw) d ⟨hrm.2.2.2.2.1, hrm.2.2.2.2.2⟩
theorem va_D_split {A : Nat → Prop} {a b : va_W} (h : va_D A (a ++ b)) : va_D A a ∧ va_D A b ∧ ∀ (i j : Nat) (p q : Nat × va_E), a[i]? = some p → b[j]? = some q → p.1 ≠ q.1 := by
  refine ⟨⟨fun i j p q hi hj hpq => ?_, fun i q hi => ?_⟩, ⟨fun i j p q hi hj hpq => ?_, fun i q hi => ?_⟩, fun i j p q hi hj hpq => ?_⟩
  · have h1 : i < a.length := (List.getElem?_eq_some_iff.mp hi).1
    have h2 : j < a.length := (List.getElem?_eq_some_iff.mp hj).1
    exact h.1 i j p q (by rw [List.getElem?_append_left h1]; exact hi) (by rw [List.getElem?_append_left h2]; exact hj) hpq
  · have h1 : i < a.length := (List.getElem?_eq_some_iff.mp hi).1
    exact h.2 i q (by rw [List.getElem?_append_left h1]; exact hi)
  · have := h.1 (a.length + i) (a.length + j) p q (by rw [List.getElem?_append_right (Nat.le_add_right _ _), Nat.add_sub_cancel_left]; exact hi) (by rw [List.getElem?_append_right (Nat.le_add_right _ _), Nat.add_sub_cancel_left]; exact hj) hpq
    omega
  · exact h.2 (a.length + i) q (by rw [List.getElem?_append_right (Nat.le_add_right _ _), Nat.add_sub_cancel_left]; exact hi)
  · have h1 : i < a.length := (List.getElem?_eq_some_iff.mp hi).1
    have := h.1 i (a.length + j) p q (by rw [List.getElem?_append_left h1]; exact hi) (by rw [List.getElem?_append_right (Nat.le_add_right _ _), Nat.add_sub_cancel_left]; exact hj) hpq
    omega
theorem va_P_split {D : va_G} {cl : List vw_C} {a b : va_W} {H : Heap} (h : va_P D cl (a ++ b) H) : va_P D cl a H ∧ va_P D cl b H := by
  refine ⟨fun i q hi => ?_, fun i q hi => ?_⟩
  · have h1 : i < a.length := (List.getElem?_eq_some_iff.mp hi).1
    exact h i q (by rw [List.getElem?_append_left h1]; exact hi)
  · exact h (a.length + i) q (by rw [List.getElem?_append_right (Nat.le_add_right _ _), Nat.add_sub_cancel_left]; exact hi)
/-- what came back, put where the callee's cells stood -/
theorem va_splice {A : Nat → Prop} {D : va_G} {cl : List vw_C} {w1 wc w2 wb : va_W} {H H1 : Heap} (hP : va_P D cl (w1 ++ (wc ++ w2)) H) (hD : va_D A (w1 ++ (wc ++ w2))) (hk : ∀ q : Nat, q < H.size → ¬ va_A wc H.size q → H1[q]? = H[q]?) (hF : ∀ q, va_A wc H.size q → A q) (hP1 : va_P D cl wb H1) (hD1 : va_D (va_A wc H.size) wb) : va_P D cl (w1 ++ (wb ++ w2)) H1 ∧ va_D A (w1 ++ (wb ++ w2)) := by
  obtain ⟨hPa, hPb⟩ := va_P_split hP
  obtain ⟨hPc, hPd⟩ := va_P_split hPb
  obtain ⟨hDa, hDb, hx⟩ := va_D_split hD
  obtain ⟨hDc, hDd, hy⟩ := va_D_split hDb
  have apart : ∀ (q : Nat × va_E), va_at D cl q H → (∀ (j : Nat) (p : Nat × va_E), wc[j]? = some p → p.1 ≠ q.1) → q.1 < H.size ∧ ¬ va_A wc H.size q.1 := by
    intro q hq hne
    have hlt := hq.lt
    refine ⟨hlt, fun h => ?_⟩
    rcases h with ⟨i, e, h⟩ | h
    · exact hne i _ h rfl
    · omega
  have n1 : ∀ (i : Nat) (q : Nat × va_E), w1[i]? = some q → q.1 < H.size ∧ ¬ va_A wc H.size q.1 := fun i q hi => apart q (hPa i q hi) (fun j p hj => by
    have h1 : j < wc.length := (List.getElem?_eq_some_iff.mp hj).1
    exact fun z => hx i j q p hi (by rw [List.getElem?_append_left h1]; exact hj) z.symm)
  have n2 : ∀ (i : Nat) (q : Nat × va_E), w2[i]? = some q → q.1 < H.size ∧ ¬ va_A wc H.size q.1 := fun i q hi => apart q (hPd i q hi) (fun j p hj => hy j i p q hj hi)
  refine ⟨va_P.app (hPa.kept (fun i q hi => hk q.1 (n1 i q hi).1 (n1 i q hi).2)) (va_P.app hP1 (hPd.kept (fun i q hi => hk q.1 (n2 i q hi).1 (n2 i q hi).2))), ?_⟩
  refine va_D.app hDa (va_D.app (hD1.weaken (fun _ q _ h => hF q.1 h)) hDd (fun i j p q hi hj hpq => ?_)) (fun i j p q hi hj hpq => ?_)
  · exact (n2 j q hj).2 (hpq ▸ hD1.2 i p hi)
  · by_cases hb : j < wb.length
    · rw [List.getElem?_append_left hb] at hj
      exact (n1 i p hi).2 (hpq ▸ hD1.2 j q hj)
    · rw [List.getElem?_append_right (by omega)] at hj
      exact hx i (wc.length + (j - wb.length)) p q hi (by rw [List.getElem?_append_right (by omega), show wc.length + (j - wb.length) - wc.length = j - wb.length by omega]; exact hj) hpq
theorem j_ci (C : Cx D ca sd cc own ret R0 k nL) (hB : Wx k) {S : Type} {post : Int32 → S → Prop} {wB : S → va_W} {w1 w2 : va_W} (hws : ws = w1 ++ (wc ++ w2)) (r : JR l D k nL cells slots pc ws lv st0 st wc mc ms (Ri D post wB) av) (h : ∀ (x : Int32) (u : S), post x u → J l D k nL (cells + mc) (slots + ms) (pc + 3) (w1 ++ (wB u ++ w2)) lv (.int x :: st)) : J l D k nL cells slots pc ws lv st0 := by
  subst hws
  obtain ⟨p, e, R, s, m, args, below, meth, c, Q, A, B⟩ := k
  obtain ⟨hx, hb, hr, hml, hown, hts, hlocks, hR0, hK, hG, hA⟩ := C
  obtain rfl := hB
  intro H locs ls hP hD hS hl
  have hF : ∀ q, va_A wc H.size q → B q := by
    intro q hq
    rcases hq with ⟨i, e, h⟩ | h
    · have h1 : i < wc.length := (List.getElem?_eq_some_iff.mp h).1
      exact hD.2 (w1.length + i) (q, e) (by rw [List.getElem?_append_right (Nat.le_add_right _ _), Nat.add_sub_cancel_left, List.getElem?_append_left h1]; exact h)
    · exact hA q (Nat.le_trans hS.1 h)
  refine va_calli (r H locs ls hP hD hS hl) hS (fun q _ h => hF q h) hF (fun x u t H1 locs1 ht hvm hw hB hz1 hk1 hS1 => ?_)
  have hP1 := hB.1
  rw [ht] at hP1
  obtain ⟨hP2, hD2⟩ := va_splice hP hD hk1 hF hP1 hB.2
  exact h x u hw H1 locs1 ls hP2 hD2 hS1 hl
theorem j_ciR (C : Cx D ca sd cc own ret R0 k nL) {S : Type} {post : Int32 → S → Prop} (r : JR l D k nL cells slots pc ws lv st0 st [] mc ms (Ri D post (fun _ => [])) av) (h : ∀ (x : Int32) (u : S), post x u → J l D k nL (cells + mc) (slots + ms) (pc + 3) ws lv (.int x :: st)) : J l D k nL cells slots pc ws lv st0 := by
  have hF := fx_ro (ws := ws) C
  obtain ⟨p, e, R, s, m, args, below, meth, c, Q, A, B⟩ := k
  obtain ⟨hx, hb, hr, hml, hown, hts, hlocks, hR0, hK, hG, hA⟩ := C
  intro H locs ls hP hD hS hl
  have hF := hF H locs hD hS
  refine va_calli (r H locs ls hP hD hS hl) hS (fun q _ h => hF q h) hF (fun x u t H1 locs1 ht hvm hw hB hz1 hk1 hS1 => ?_)
  refine h x u hw H1 locs1 ls (hP.kept (fun i q hi => ?_)) hD hS1 hl
  have hlt := (hP i q hi).lt
  refine hk1 q.1 hlt (fun z => ?_)
  rcases z with ⟨i, e, z⟩ | z
  · simp at z
  · omega
theorem j_cv (C : Cx D ca sd cc own ret R0 k nL) (hB : Wx k) {S : Type} {post : S → Prop} {wB : S → va_W} {w1 w2 : va_W} (hws : ws = w1 ++ (wc ++ w2)) (r : JR l D k nL cells slots pc ws lv st0 st wc mc ms (Rv D post wB) av) (h : ∀  (u : S), post u → J l D k nL (cells + mc) (slots + ms) (pc + 3) (w1 ++ (wB u ++ w2)) lv (st)) : J l D k nL cells slots pc ws lv st0 := by
  subst hws
  obtain ⟨p, e, R, s, m, args, below, meth, c, Q, A, B⟩ := k
  obtain ⟨hx, hb, hr, hml, hown, hts, hlocks, hR0, hK, hG, hA⟩ := C
  obtain rfl := hB
  intro H locs ls hP hD hS hl
  have hF : ∀ q, va_A wc H.size q → B q := by
    intro q hq
    rcases hq with ⟨i, e, h⟩ | h
    · have h1 : i < wc.length := (List.getElem?_eq_some_iff.mp h).1
      exact hD.2 (w1.length + i) (q, e) (by rw [List.getElem?_append_right (Nat.le_add_right _ _), Nat.add_sub_cancel_left, List.getElem?_append_left h1]; exact h)
    · exact hA q (Nat.le_trans hS.1 h)
  refine va_callv (r H locs ls hP hD hS hl) hS (fun q _ h => hF q h) hF (fun u t H1 locs1 ht hvm hw hB hz1 hk1 hS1 => ?_)
  have hP1 := hB.1
  rw [ht] at hP1
  obtain ⟨hP2, hD2⟩ := va_splice hP hD hk1 hF hP1 hB.2
  exact h u hw H1 locs1 ls hP2 hD2 hS1 hl
theorem j_cvR (C : Cx D ca sd cc own ret R0 k nL) {S : Type} {post : S → Prop} (r : JR l D k nL cells slots pc ws lv st0 st [] mc ms (Rv D post (fun _ => [])) av) (h : ∀  (u : S), post u → J l D k nL (cells + mc) (slots + ms) (pc + 3) ws lv (st)) : J l D k nL cells slots pc ws lv st0 := by
  have hF := fx_ro (ws := ws) C
  obtain ⟨p, e, R, s, m, args, below, meth, c, Q, A, B⟩ := k
  obtain ⟨hx, hb, hr, hml, hown, hts, hlocks, hR0, hK, hG, hA⟩ := C
  intro H locs ls hP hD hS hl
  have hF := hF H locs hD hS
  refine va_callv (r H locs ls hP hD hS hl) hS (fun q _ h => hF q h) hF (fun u t H1 locs1 ht hvm hw hB hz1 hk1 hS1 => ?_)
  refine h u hw H1 locs1 ls (hP.kept (fun i q hi => ?_)) hD hS1 hl
  have hlt := (hP i q hi).lt
  refine hk1 q.1 hlt (fun z => ?_)
  rcases z with ⟨i, e, z⟩ | z
  · simp at z
  · omega
theorem j_cl (C : Cx D ca sd cc own ret R0 k nL) (hB : Wx k) {S : Type} {post : Int64 → S → Prop} {wB : S → va_W} {w1 w2 : va_W} (hws : ws = w1 ++ (wc ++ w2)) (r : JR l D k nL cells slots pc ws lv st0 st wc mc ms (Rl D post wB) av) (h : ∀ (x : Int64) (u : S), post x u → J l D k nL (cells + mc) (slots + ms) (pc + 3) (w1 ++ (wB u ++ w2)) lv (.long x :: st)) : J l D k nL cells slots pc ws lv st0 := by
  subst hws
  obtain ⟨p, e, R, s, m, args, below, meth, c, Q, A, B⟩ := k
  obtain ⟨hx, hb, hr, hml, hown, hts, hlocks, hR0, hK, hG, hA⟩ := C
  obtain rfl := hB
  intro H locs ls hP hD hS hl
  have hF : ∀ q, va_A wc H.size q → B q := by
    intro q hq
    rcases hq with ⟨i, e, h⟩ | h
    · have h1 : i < wc.length := (List.getElem?_eq_some_iff.mp h).1
      exact hD.2 (w1.length + i) (q, e) (by rw [List.getElem?_append_right (Nat.le_add_right _ _), Nat.add_sub_cancel_left, List.getElem?_append_left h1]; exact h)
    · exact hA q (Nat.le_trans hS.1 h)
  refine va_calll (r H locs ls hP hD hS hl) hS (fun q _ h => hF q h) hF (fun x u t H1 locs1 ht hvm hw hB hz1 hk1 hS1 => ?_)
  have hP1 := hB.1
  rw [ht] at hP1
  obtain ⟨hP2, hD2⟩ := va_splice hP hD hk1 hF hP1 hB.2
  exact h x u hw H1 locs1 ls hP2 hD2 hS1 hl
theorem j_clR (C : Cx D ca sd cc own ret R0 k nL) {S : Type} {post : Int64 → S → Prop} (r : JR l D k nL cells slots pc ws lv st0 st [] mc ms (Rl D post (fun _ => [])) av) (h : ∀ (x : Int64) (u : S), post x u → J l D k nL (cells + mc) (slots + ms) (pc + 3) ws lv (.long x :: st)) : J l D k nL cells slots pc ws lv st0 := by
  have hF := fx_ro (ws := ws) C
  obtain ⟨p, e, R, s, m, args, below, meth, c, Q, A, B⟩ := k
  obtain ⟨hx, hb, hr, hml, hown, hts, hlocks, hR0, hK, hG, hA⟩ := C
  intro H locs ls hP hD hS hl
  have hF := hF H locs hD hS
  refine va_calll (r H locs ls hP hD hS hl) hS (fun q _ h => hF q h) hF (fun x u t H1 locs1 ht hvm hw hB hz1 hk1 hS1 => ?_)
  refine h x u hw H1 locs1 ls (hP.kept (fun i q hi => ?_)) hD hS1 hl
  have hlt := (hP i q hi).lt
  refine hk1 q.1 hlt (fun z => ?_)
  rcases z with ⟨i, e, z⟩ | z
  · simp at z
  · omega
theorem j_crR (C : Cx D ca sd cc own ret R0 k nL) {S : Type} {post : S → Prop} {ra : S → Nat} (r : JR l D k nL cells slots pc ws lv st0 st [] mc ms (Rr D post ra (fun _ => [])) av) (h : ∀ (u : S), post u → J l D k nL (cells + mc) (slots + ms) (pc + 3) ws lv (.ref (ra u) :: st)) : J l D k nL cells slots pc ws lv st0 := by
  have hF := fx_ro (ws := ws) C
  obtain ⟨p, e, R, s, m, args, below, meth, c, Q, A, B⟩ := k
  obtain ⟨hx, hb, hr, hml, hown, hts, hlocks, hR0, hK, hG, hA⟩ := C
  intro H locs ls hP hD hS hl
  have hF := hF H locs hD hS
  refine va_callr (r H locs ls hP hD hS hl) hS (fun q _ h => hF q h) hF (fun u ra1 t H1 locs1 ht hvm hw hB hz1 hk1 hS1 => ?_)
  obtain ⟨rfl, -⟩ := hB
  refine h u hw H1 locs1 ls (hP.kept (fun i q hi => ?_)) hD hS1 hl
  have hlt := (hP i q hi).lt
  refine hk1 q.1 hlt (fun z => ?_)
  rcases z with ⟨i, e, z⟩ | z
  · simp at z
  · omega
/-- every place of a list, in order -/
theorem rng_map (ws : va_W) : (List.range ws.length).map (fun i => ws[i]?) = ws.map some := by
  apply List.ext_getElem?
  intro i
  by_cases h : i < ws.length
  · simp [List.getElem?_range h, h]
  · simp [List.getElem?_eq_none (Nat.not_lt.mp h), h]
theorem rng_nd' : ∀ (n a : Nat), va_nd (List.range' a n) = true := by
  intro n
  induction n with
  | zero => intro a; rfl
  | succ n ih =>
    intro a
    rw [List.range'_succ]
    simp only [va_nd, ih, Bool.and_true, decide_eq_true_eq]
    intro h
    rw [List.mem_range'] at h
    obtain ⟨i, _, h⟩ := h
    omega
theorem rng_nd (n : Nat) : va_nd (List.range n) = true := by rw [List.range_eq_range']; exact rng_nd' n 0
end Jc
