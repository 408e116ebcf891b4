theorem vp_lt {i : Int32} {n : Nat} (h : vp_in i n) : i.toNatClampNeg < n := Nat.lt_of_not_le (fun z => h (Or.inr z))
def ciK (j : Nat) : Nat := [4, 0, 3, 6, 1, 5].getD j 0
/-! ===== blocks of cells ===== -/
def wC (ca : Nat → ClassId) (ad : Nat → Nat) (n0 : Nat) (sk ze ma ki dn wi du he : Nat → Int32) (yr sz : Int32) : va_W := [(ad 0, .inr (2, [.ref n0, .ref (ad 1), .ref (ad 2), .ref (ad 3), .ref (ad 4), .ref (ad 5), .ref (ad 6), .ref (ad 7), .ref (ad 8), .int yr, .int sz])), (ad 1, .inl (ca 0, 6, .inl sk)), (ad 2, .inl (ca 0, 6, .inl ze)), (ad 3, .inl (ca 0, 6, .inl ma)), (ad 4, .inl (ca 0, 8, .inl ki)), (ad 5, .inl (ca 0, 8, .inl dn)), (ad 6, .inl (ca 0, 8, .inl wi)), (ad 7, .inl (ca 0, 8, .inl du)), (ad 8, .inl (ca 0, 6, .inl he))]
def wN (ca : Nat → ClassId) (nd : Nat → Nat) (sd : Nat → Nat) : va_W := [(nd 0, .inl (ca 3, 6, .inr (.inr (.inr (.inr (fun j => some (nd (j + 1)))))))), (nd 1, .inr (4, [.ref (sd 2)])), (nd 2, .inr (0, [.ref (sd 3)])), (nd 3, .inr (3, [.ref (sd 4)])), (nd 4, .inr (6, [.ref (sd 5)])), (nd 5, .inr (1, [.ref (sd 6)])), (nd 6, .inr (5, [.ref (sd 7)]))]
def wF (a0 a1 a2 a3 a4 a5 a6 : Nat) (ik : Int32) : va_W := [(a0, .inr (9, [.ref a1, .ref a2, .ref a3, .int ik, .ref a4, .ref a5, .ref a6]))]
def wD (ca : Nat → ClassId) (a : Nat) (fd : Nat → Int32) : va_W := [(a, .inl (ca 0, 7, .inl fd))]
def wT (ca : Nat → ClassId) (tp : Nat → Nat) (n0 : Nat) (by_ : Nat → Int32) (ln so pl bh : Int32) : va_W := [(tp 0, .inr (8, [.ref n0, .ref (tp 1), .int ln, .int so, .int pl, .int bh])), (tp 1, .inl (ca 2, 120, .inl by_))]
def wA (ca : Nat → ClassId) (a : Nat) (sb : Nat → Nat) : va_W := [(a, .inl (ca 4, 4, .inr (.inr (.inr (.inr (fun j => some (sb j)))))))]
def wS (ca : Nat → ClassId) (b nn : Nat) (nu : Nat → Int64) (bi le : Int32) : va_W := [(b, .inr (7, [.ref nn, .int bi, .int le])), (nn, .inl (ca 1, 40, .inr (.inl nu)))]
def wR (ca : Nat → ClassId) (a n : Nat) (f : Nat → Int32) : va_W := [(a, .inl (ca 0, n, .inl f))]
def wRL (ca : Nat → ClassId) (a n : Nat) (f : Nat → Int64) : va_W := [(a, .inl (ca 1, n, .inr (.inl f)))]
def wO (h ci tt : Nat) : va_W := [(h, .inr (ci, [.ref tt]))]
def wM (ca : Nat → ClassId) (am : Nat → Nat) (m kp wa fo ta bo so : Nat → Int32) (ce : Nat → Int64) (ik td tk bg aa vl bd : Int32) : va_W := [(am 0, .inr (10, [.ref (am 1), .ref (am 2), .ref (am 3), .int ik, .ref (am 4), .ref (am 5), .int td, .int tk, .int bg, .int aa, .int vl, .int bd, .ref (am 6), .ref (am 7), .ref (am 8)])), (am 1, .inl (ca 0, 52, .inl m)), (am 2, .inl (ca 0, 52, .inl kp)), (am 3, .inl (ca 0, 52, .inl wa)), (am 4, .inl (ca 0, 7, .inl fo)), (am 5, .inl (ca 0, 120, .inl ta)), (am 6, .inl (ca 0, 4, .inl bo)), (am 7, .inl (ca 0, 4, .inl so)), (am 8, .inl (ca 1, 160, .inr (.inl ce)))]
section Jd
variable {l : Launch} {D : va_G} {ca : Nat → ClassId} {sd : Nat → Nat} {cc : ByteArray} {own : String} {ret : Option FieldType} {R0 : Room} {k : Kx} {nL cells slots pc : Nat} {ws : va_W} {lv : List (Nat × Value)} {st : List Value}
variable {wc wr : va_W} {av st0 : List Value}
theorem j_ciT (C : Cx D ca sd cc own ret R0 k nL) (hB : Wx k) {S : Type} {post : Int32 → S → Prop} {wB : S → va_W} (p q : Nat) (ws' : S → va_W) (hws : ws = ws.take p ++ (wc ++ ws.drop q)) (hw' : ∀ u, ws.take p ++ (wB u ++ ws.drop q) = ws' u) (r : JR l D k nL cells slots pc ws lv st0 st wc 0 0 (Ri D post wB) av) (h : ∀ (x : Int32) (u : S), post x u → J l D k nL cells slots (pc + 3) (ws' u) lv (.int x :: st)) : J l D k nL cells slots pc ws lv st0 := by
  refine j_ci C hB hws r (fun x u hp => ?_)
  rw [hw' u]
  exact h x u hp
theorem j_ciZ (C : Cx D ca sd cc own ret R0 k nL) {S : Type} {post : Int32 → S → Prop} (r : JR l D k nL cells slots pc ws lv st0 st [] 0 0 (Ri D post (fun _ => [])) av) (h : ∀ (x : Int32) (u : S), post x u → J l D k nL cells slots (pc + 3) ws lv (.int x :: st)) : J l D k nL cells slots pc ws lv st0 := j_ciR C r h
theorem j_ciP (C : Cx D ca sd cc own ret R0 k nL) (hB : Wx k) {S : Type} {post : Int32 → S → Prop} {wB : S → va_W} (isC isR perm : List Nat) (ws' : S → va_W) (wr : va_W) (hC : isC.map (fun i => ws[i]?) = wc.map some) (hR : isR.map (fun i => ws[i]?) = wr.map some) (hn : va_nd isR = true) (hdis : ∀ i ∈ isR, i ∉ isC) (hp : va_nd perm = true) (hw' : ∀ u, perm.map (fun i => (wr ++ wB u)[i]?) = (ws' u).map some) (r : JR l D k nL cells slots pc ws lv st0 st wc 0 0 (Ri D post wB) av) (h : ∀ (x : Int32) (u : S), post x u → J l D k nL cells slots (pc + 3) (ws' u) lv (.int x :: st)) : J l D k nL cells slots pc ws lv st0 := by
  obtain ⟨p, e, R, s, m, args, below, meth, c, Q, A, B⟩ := k
  obtain ⟨hx, hb, hr, hml, hown, hts, hlocks, hR0, hK, hG, hA⟩ := C
  obtain rfl := hB
  intro H locs ls hP hD hS hl
  have hF := va_free hD hS hA isC hC
  refine va_calli (r H locs ls hP hD hS hl) hS (fun q _ h => hF q h) hF (fun x u t H1 locs1 ht hvm hw hB hz1 hk1 hS1 => ?_)
  have hP1 := hB.1
  rw [ht] at hP1
  obtain ⟨hP2, hD2⟩ := va_join hP hD isC isR hC hR hn hdis hk1 hF hP1 hB.2
  exact h x u hw H1 locs1 ls (hP2.sub perm (fsub (hw' u))) (hD2.sub perm hp (hw' u)) hS1 hl
theorem j_cvT (C : Cx D ca sd cc own ret R0 k nL) (hB : Wx k) {S : Type} {post : S → Prop} {wB : S → va_W} (p q : Nat) (ws' : S → va_W) (hws : ws = ws.take p ++ (wc ++ ws.drop q)) (hw' : ∀ u, ws.take p ++ (wB u ++ ws.drop q) = ws' u) (r : JR l D k nL cells slots pc ws lv st0 st wc 0 0 (Rv D post wB) av) (h : ∀  (u : S), post u → J l D k nL cells slots (pc + 3) (ws' u) lv (st)) : J l D k nL cells slots pc ws lv st0 := by
  refine j_cv C hB hws r (fun u hp => ?_)
  rw [hw' u]
  exact h u hp
theorem j_cvZ (C : Cx D ca sd cc own ret R0 k nL) {S : Type} {post : S → Prop} (r : JR l D k nL cells slots pc ws lv st0 st [] 0 0 (Rv D post (fun _ => [])) av) (h : ∀  (u : S), post u → J l D k nL cells slots (pc + 3) ws lv (st)) : J l D k nL cells slots pc ws lv st0 := j_cvR C r h
theorem j_cvP (C : Cx D ca sd cc own ret R0 k nL) (hB : Wx k) {S : Type} {post : S → Prop} {wB : S → va_W} (isC isR perm : List Nat) (ws' : S → va_W) (wr : va_W) (hC : isC.map (fun i => ws[i]?) = wc.map some) (hR : isR.map (fun i => ws[i]?) = wr.map some) (hn : va_nd isR = true) (hdis : ∀ i ∈ isR, i ∉ isC) (hp : va_nd perm = true) (hw' : ∀ u, perm.map (fun i => (wr ++ wB u)[i]?) = (ws' u).map some) (r : JR l D k nL cells slots pc ws lv st0 st wc 0 0 (Rv D post wB) av) (h : ∀  (u : S), post u → J l D k nL cells slots (pc + 3) (ws' u) lv (st)) : J l D k nL cells slots pc ws lv st0 := by
  obtain ⟨p, e, R, s, m, args, below, meth, c, Q, A, B⟩ := k
  obtain ⟨hx, hb, hr, hml, hown, hts, hlocks, hR0, hK, hG, hA⟩ := C
  obtain rfl := hB
  intro H locs ls hP hD hS hl
  have hF := va_free hD hS hA isC hC
  refine va_callv (r H locs ls hP hD hS hl) hS (fun q _ h => hF q h) hF (fun u t H1 locs1 ht hvm hw hB hz1 hk1 hS1 => ?_)
  have hP1 := hB.1
  rw [ht] at hP1
  obtain ⟨hP2, hD2⟩ := va_join hP hD isC isR hC hR hn hdis hk1 hF hP1 hB.2
  exact h u hw H1 locs1 ls (hP2.sub perm (fsub (hw' u))) (hD2.sub perm hp (hw' u)) hS1 hl
theorem j_clT (C : Cx D ca sd cc own ret R0 k nL) (hB : Wx k) {S : Type} {post : Int64 → S → Prop} {wB : S → va_W} (p q : Nat) (ws' : S → va_W) (hws : ws = ws.take p ++ (wc ++ ws.drop q)) (hw' : ∀ u, ws.take p ++ (wB u ++ ws.drop q) = ws' u) (r : JR l D k nL cells slots pc ws lv st0 st wc 0 0 (Rl D post wB) av) (h : ∀ (x : Int64) (u : S), post x u → J l D k nL cells slots (pc + 3) (ws' u) lv (.long x :: st)) : J l D k nL cells slots pc ws lv st0 := by
  refine j_cl C hB hws r (fun x u hp => ?_)
  rw [hw' u]
  exact h x u hp
theorem j_clZ (C : Cx D ca sd cc own ret R0 k nL) {S : Type} {post : Int64 → S → Prop} (r : JR l D k nL cells slots pc ws lv st0 st [] 0 0 (Rl D post (fun _ => [])) av) (h : ∀ (x : Int64) (u : S), post x u → J l D k nL cells slots (pc + 3) ws lv (.long x :: st)) : J l D k nL cells slots pc ws lv st0 := j_clR C r h
theorem j_clP (C : Cx D ca sd cc own ret R0 k nL) (hB : Wx k) {S : Type} {post : Int64 → S → Prop} {wB : S → va_W} (isC isR perm : List Nat) (ws' : S → va_W) (wr : va_W) (hC : isC.map (fun i => ws[i]?) = wc.map some) (hR : isR.map (fun i => ws[i]?) = wr.map some) (hn : va_nd isR = true) (hdis : ∀ i ∈ isR, i ∉ isC) (hp : va_nd perm = true) (hw' : ∀ u, perm.map (fun i => (wr ++ wB u)[i]?) = (ws' u).map some) (r : JR l D k nL cells slots pc ws lv st0 st wc 0 0 (Rl D post wB) av) (h : ∀ (x : Int64) (u : S), post x u → J l D k nL cells slots (pc + 3) (ws' u) lv (.long x :: st)) : J l D k nL cells slots pc ws lv st0 := by
  obtain ⟨p, e, R, s, m, args, below, meth, c, Q, A, B⟩ := k
  obtain ⟨hx, hb, hr, hml, hown, hts, hlocks, hR0, hK, hG, hA⟩ := C
  obtain rfl := hB
  intro H locs ls hP hD hS hl
  have hF := va_free hD hS hA isC hC
  refine va_calll (r H locs ls hP hD hS hl) hS (fun q _ h => hF q h) hF (fun x u t H1 locs1 ht hvm hw hB hz1 hk1 hS1 => ?_)
  have hP1 := hB.1
  rw [ht] at hP1
  obtain ⟨hP2, hD2⟩ := va_join hP hD isC isR hC hR hn hdis hk1 hF hP1 hB.2
  exact h x u hw H1 locs1 ls (hP2.sub perm (fsub (hw' u))) (hD2.sub perm hp (hw' u)) hS1 hl
theorem j_crZ (C : Cx D ca sd cc own ret R0 k nL) {S : Type} {post : S → Prop} {ra : S → Nat} (r : JR l D k nL cells slots pc ws lv st0 st [] 0 0 (Rr D post ra (fun _ => [])) av) (h : ∀ (u : S), post u → J l D k nL cells slots (pc + 3) ws lv (.ref (ra u) :: st)) : J l D k nL cells slots pc ws lv st0 := j_crR C r h
theorem j_min (C : Cx D ca sd cc own ret R0 k nL) {index : Nat} {x y : Int32} (lk : Cond.methodLink own index Lib.Math.min.name ∈ TB ∧ Cond.static Lib.Math.min.name ∈ TB ∧ Cond.initialized "java/lang/Math" ∈ TB ∧ Cond.code Lib.Math.min.name Lib.Math.min.code 2 (some .int) ∈ TB) (hf : 1 ≤ R0.frames) (hlo : (st.map fun v => v.category).sum + 13 ≤ R0.locals) (hc : cells ≤ R0.cells) (hs : slots ≤ R0.slots) (d : decode cc pc = .ok (.invokestatic index, 3)) (h : J l D k nL cells slots (pc + 3) ws lv (.int (if y < x then y else x) :: st)) : J l D k nL cells slots pc ws lv (.int y :: .int x :: st) := by
  obtain ⟨p, e, R, s, m, args, below, meth, c, Q, A, B⟩ := k
  obtain ⟨hx, hb, hr, hml, hown, hts, hlocks, hR0, hK, hG, hA⟩ := C
  subst hR0
  intro H locs ls hP hD hS hl
  exact va_mmin hx hb (hml.trans hl.1.symm) hown (hts _ lk.1) (hts _ lk.2.1) (hts _ lk.2.2.1) (hts _ lk.2.2.2) hf hlo hc hs d (h H locs ls hP hD hS hl)
theorem j_max (C : Cx D ca sd cc own ret R0 k nL) {index : Nat} {x y : Int32} (lk : Cond.methodLink own index Lib.Math.max.name ∈ TB ∧ Cond.static Lib.Math.max.name ∈ TB ∧ Cond.initialized "java/lang/Math" ∈ TB ∧ Cond.code Lib.Math.max.name Lib.Math.max.code 2 (some .int) ∈ TB) (hf : 1 ≤ R0.frames) (hlo : (st.map fun v => v.category).sum + 13 ≤ R0.locals) (hc : cells ≤ R0.cells) (hs : slots ≤ R0.slots) (d : decode cc pc = .ok (.invokestatic index, 3)) (h : J l D k nL cells slots (pc + 3) ws lv (.int (if x < y then y else x) :: st)) : J l D k nL cells slots pc ws lv (.int y :: .int x :: st) := by
  obtain ⟨p, e, R, s, m, args, below, meth, c, Q, A, B⟩ := k
  obtain ⟨hx, hb, hr, hml, hown, hts, hlocks, hR0, hK, hG, hA⟩ := C
  subst hR0
  intro H locs ls hP hD hS hl
  exact va_mmax hx hb (hml.trans hl.1.symm) hown (hts _ lk.1) (hts _ lk.2.1) (hts _ lk.2.2.1) (hts _ lk.2.2.2) hf hlo hc hs d (h H locs ls hP hD hS hl)
theorem j_copyi (C : Cx D ca sd cc own ret R0 k nL) (hB : Wx k) {index a0 a n0 n1 : Nat} {f g : Nat → Int32} {sp dp n : Int32} (lk : Cond.methodLink own index arraycopyName ∈ TB ∧ Cond.native arraycopyName ∈ TB ∧ Cond.static arraycopyName ∈ TB ∧ Cond.initialized "java/lang/System" ∈ TB) (q0 q1 i j w : Nat) (ws' : va_W) (ha0 : ws[q0]? = some (a0, .inl (ca 0, n0, .inl f))) (ha1 : ws[q1]? = some (a, .inl (ca 0, n1, .inl g))) (h1 : ¬ sp < 0) (h2 : ¬ dp < 0) (h3 : ¬ n < 0) (e1 : sp.toNatClampNeg = i) (e2 : dp.toNatClampNeg = j) (e3 : n.toNatClampNeg = w) (h4 : i + w ≤ n0) (h5 : j + w ≤ n1) (hf : 1 ≤ R0.frames) (hlo : (st.map fun v => v.category).sum + (nativeFrameWords "java/lang/System" "arraycopy" 5 + 11) ≤ R0.locals) (d : decode cc pc = .ok (.invokestatic index, 3)) (hw : ws.set q1 (a, .inl (ca 0, n1, .inl (va_cpy f g i j w))) = ws') (h : J l D k nL cells slots (pc + 3) ws' lv st) : J l D k nL cells slots pc ws lv (.int n :: .int dp :: .ref a :: .int sp :: .ref a0 :: st) := by
  subst hw; subst e1; subst e2; subst e3
  obtain ⟨p, e, R, s, m, args, below, meth, c, Q, A, B⟩ := k
  obtain ⟨hx, hb, hr, hml, hown, hts, hlocks, hR0, hK, hG, hA⟩ := C
  subst hR0
  obtain rfl := hB
  intro H locs ls hP hD hS hl
  exact va_copyi hx hb (hml.trans hl.1.symm) hown (hts _ lk.1) (hts _ lk.2.1) (hts _ lk.2.2.1) (hts _ lk.2.2.2) hK hP hD hS q0 q1 0 0 ha0 ha1 rfl rfl rfl h1 h2 h3 h4 h5 (fun _ _ => rfl) hf hlo d (fun H locs hP hD hS => h H locs ls hP hD hS hl)
theorem j_copyl (C : Cx D ca sd cc own ret R0 k nL) (hB : Wx k) {index a0 a n0 n1 : Nat} {f g : Nat → Int64} {sp dp n : Int32} (lk : Cond.methodLink own index arraycopyName ∈ TB ∧ Cond.native arraycopyName ∈ TB ∧ Cond.static arraycopyName ∈ TB ∧ Cond.initialized "java/lang/System" ∈ TB) (q0 q1 i j w : Nat) (ws' : va_W) (ha0 : ws[q0]? = some (a0, .inl (ca 1, n0, .inr (.inl f)))) (ha1 : ws[q1]? = some (a, .inl (ca 1, n1, .inr (.inl g)))) (h1 : ¬ sp < 0) (h2 : ¬ dp < 0) (h3 : ¬ n < 0) (e1 : sp.toNatClampNeg = i) (e2 : dp.toNatClampNeg = j) (e3 : n.toNatClampNeg = w) (h4 : i + w ≤ n0) (h5 : j + w ≤ n1) (hf : 1 ≤ R0.frames) (hlo : (st.map fun v => v.category).sum + (nativeFrameWords "java/lang/System" "arraycopy" 5 + 11) ≤ R0.locals) (d : decode cc pc = .ok (.invokestatic index, 3)) (hw : ws.set q1 (a, .inl (ca 1, n1, .inr (.inl (va_cpy f g i j w)))) = ws') (h : J l D k nL cells slots (pc + 3) ws' lv st) : J l D k nL cells slots pc ws lv (.int n :: .int dp :: .ref a :: .int sp :: .ref a0 :: st) := by
  subst hw; subst e1; subst e2; subst e3
  obtain ⟨p, e, R, s, m, args, below, meth, c, Q, A, B⟩ := k
  obtain ⟨hx, hb, hr, hml, hown, hts, hlocks, hR0, hK, hG, hA⟩ := C
  subst hR0
  obtain rfl := hB
  intro H locs ls hP hD hS hl
  exact va_copyl hx hb (hml.trans hl.1.symm) hown (hts _ lk.1) (hts _ lk.2.1) (hts _ lk.2.2.1) (hts _ lk.2.2.2) hK hP hD hS q0 q1 1 1 ha0 ha1 rfl rfl rfl h1 h2 h3 h4 h5 (fun _ _ => rfl) hf hlo d (fun H locs hP hD hS => h H locs ls hP hD hS hl)
theorem j_title (C : Cx D ca sd cc own ret R0 k nL) {index kk : Nat} {nd : Nat → Nat} (tl : ∀ j, j < 6 → FL own index (ciK j) 0) (p0 : Nat) (d : decode cc pc = .ok (.getfield index, 3)) (hk : kk < 6) (hN : ∀ j, j < 6 → ws[p0 + j]? = some (nd (j + 1), .inr (ciK j, [.ref (sd (2 + j))]))) (h : J l D k nL cells slots (pc + 3) ws lv (.ref (sd (2 + kk)) :: st)) : J l D k nL cells slots pc ws lv (.ref (nd (kk + 1)) :: st) := j_get C (tl kk hk) (p0 + kk) d (hN kk hk) rfl h
theorem j_ldcS (C : Cx D ca sd cc own ret R0 k nL) {index : Nat} (w : Nat) (tx : String) (d : decode cc pc = .ok (.ldc index, 2)) (hq : (own, index, tx, w) ∈ litS) (h : J l D k nL cells slots (pc + 2) ws lv (.ref (sd (2 + w)) :: st)) : J l D k nL cells slots pc ws lv st := by
  obtain ⟨p, e, R, s, m, args, below, meth, c, Q, A, B⟩ := k
  obtain ⟨hx, hb, hr, hml, hown, hts, hlocks, hR0, hK, hG, hA⟩ := C
  intro H locs ls hP hD hS hl
  exact va_ldcS hx hb hown (hG.2.2.2.2.2.2.2.1 _ hq) d (h H locs ls hP hD hS hl)
theorem j_above (C : Cx D ca sd cc own ret R0 k nL) (index : Nat) (d : decode cc pc = .ok (.getstatic index, 3)) (hlk : Cond.fieldLink own index "UnfinishedFair" "ABOVE" "[I" ∈ TB) (h : J l D k nL cells slots (pc + 3) ws lv (.ref (sd 0) :: st)) : J l D k nL cells slots pc ws lv st := by
  obtain ⟨p, e, R, s, m, args, below, meth, c, Q, A, B⟩ := k
  obtain ⟨hx, hb, hr, hml, hown, hts, hlocks, hR0, hK, hG, hA⟩ := C
  intro H locs ls hP hD hS hl
  exact va_gets hx hb hG.1 hS hown (hts _ hlk) (fun _ z => z) d (h H locs ls hP hD hS hl)
theorem j_names (C : Cx D ca sd cc own ret R0 k nL) (index : Nat) (d : decode cc pc = .ok (.getstatic index, 3)) (hlk : Cond.fieldLink own index "UnfinishedFairModel" "NAMES" "[I" ∈ TB) (h : J l D k nL cells slots (pc + 3) ws lv (.ref (sd 1) :: st)) : J l D k nL cells slots pc ws lv st := by
  obtain ⟨p, e, R, s, m, args, below, meth, c, Q, A, B⟩ := k
  obtain ⟨hx, hb, hr, hml, hown, hts, hlocks, hR0, hK, hG, hA⟩ := C
  intro H locs ls hP hD hS hl
  exact va_gets hx hb hG.2.2.1 hS hown (hts _ hlk) (fun _ z => z) d (h H locs ls hP hD hS hl)
theorem j_st0 (C : Cx D ca sd cc own ret R0 k nL) {i : Int32} (d : decode cc pc = .ok (.iaload, 1)) (hin : vp_in i 6) (h : J l D k nL cells slots (pc + 1) ws lv (.int (abvL.getD i.toNatClampNeg 0) :: st)) : J l D k nL cells slots pc ws lv (.int i :: .ref (sd 0) :: st) := by
  obtain ⟨p, e, R, s, m, args, below, meth, c, Q, A, B⟩ := k
  obtain ⟨hx, hb, hr, hml, hown, hts, hlocks, hR0, hK, hG, hA⟩ := C
  intro H locs ls hP hD hS hl
  exact va_ti hx hb hG.2.1 hS hin rfl d (h H locs ls hP hD hS hl)
theorem j_st1 (C : Cx D ca sd cc own ret R0 k nL) {i : Int32} (d : decode cc pc = .ok (.iaload, 1)) (hin : vp_in i 70) (h : J l D k nL cells slots (pc + 1) ws lv (.int (namL.getD i.toNatClampNeg 0) :: st)) : J l D k nL cells slots pc ws lv (.int i :: .ref (sd 1) :: st) := by
  obtain ⟨p, e, R, s, m, args, below, meth, c, Q, A, B⟩ := k
  obtain ⟨hx, hb, hr, hml, hown, hts, hlocks, hR0, hK, hG, hA⟩ := C
  intro H locs ls hP hD hS hl
  exact va_ti hx hb hG.2.2.2.1 hS hin rfl d (h H locs ls hP hD hS hl)
variable {x y : MethodName} {cc1 : ByteArray} {maxL : Nat} {ret1 : Option FieldType} {rm : Room} {wa : va_W} {mc ms index n : Nat} {Qc : (Nat → Prop) → Array Value → State → Outcome → State → Prop} {As : List Value} {b : Nat} {Cn1 : String}
/-- a super call of a method that the class above has from the one above that -/
def LkU2 (own : String) (index : Nat) (x y : MethodName) (cc1 : ByteArray) (maxL : Nat) (ret1 : Option FieldType) (n : Nat) : Prop := Cond.methodLink own index x ∈ TB ∧ Cond.sameMethod x.cls y.cls x.name x.desc ∈ TB ∧ Cond.superclass own x.cls ∈ TB ∧ Cond.superclass x.cls y.cls ∈ TB ∧ Cond.instanceMethod y ∈ TB ∧ Cond.initialized y.cls ∈ TB ∧ Cond.code y cc1 maxL ret1 ∈ TB ∧ x.name ≠ "<init>" ∧ x.name = y.name ∧ x.desc = y.desc ∧ (parseMethodDescriptor y.desc).map (fun d => d.parameters.length) = some n
theorem jr_U2 (C : Cx D ca sd cc own ret R0 k nL) (lk : LkU2 own index x y cc1 maxL ret1 n) (hM : Cn l D ca sd y cc1 maxL ret1 rm (.ref b :: As) wc wa mc ms Qc) (hrm : rm.cells = mc ∧ rm.slots = ms ∧ rm.frames + 1 ≤ R0.frames ∧ 8 + (maxL + 11) + rm.locals ≤ R0.locals ∧ cells + mc ≤ R0.cells ∧ slots + ms ≤ R0.slots) (isC : List Nat) (hnd : va_nd isC = true) (hC : isC.map (fun i => ws[i]?) = wc.map some) (hF : Fx wa ws k) (q0 ci : Nat) {fs : List Value} {T : u_T} {N : Nat} (hq : ws[q0]? = some (b, .inr (ci, fs))) (hci : vwCl[ci]? = some (Cn1, T, N)) (hn : As.length = n) (hst : st0 = As.reverse ++ .ref b :: st) (hw : (st.map fun v => v.category).sum ≤ 8) (d : decode cc pc = .ok (.invokespecial index, 3)) : JR l D k nL cells slots pc ws lv st0 st wa mc ms Qc (.ref b :: As) := by
  obtain ⟨p, e, R, s, m, args, below, meth, c, Q, A, B⟩ := k
  obtain ⟨hx, hb, hr, hml, hown, hts, hlocks, hR0, hK, hG, hA⟩ := C
  obtain ⟨l1, l2, l3, l4, l5, l6, l7, l8, l9, l10, l11⟩ := lk
  subst hR0
  obtain ⟨hrc, hrs, hfr, hlo, hcl, hsl⟩ := hrm
  intro H locs ls hP hD hS hl
  have hcode : Cond.code y cc1 maxL ret1 ∈ (Cond.code y cc1 maxL ret1 :: TB) := List.mem_cons_self
  have hws : ∀ w ∈ (Cond.code y cc1 maxL ret1 :: TB), ∀ (a' : Array Value) (U : State), s.WarmedH U.vm → w.before a' U = true := pay_in hts (tb_gi (tb_cons l7 (fun _ h => h)))
  have hKb : Back l R p e below s args y 3 8 (PreOf R mc ms (va_Pc (.ref b :: As) (fun U => U.heap.size = H.size ∧ va_P D vwCl wc U.heap ∧ va_D (fun _ => True) wc ∧ va_K D vwCl (gT ca) U ∧ gS sd (va_A wa H.size) U U.heap))) (PostOf (Qc (va_A wa H.size)) mc ms (va_A wa H.size)) := back_of (bytes := cc1) (maxL := maxL) (ret := ret1) (hM H.size) blind_pc hrc hrs hfr hlo hws hcode (fun a' U hW => word_at hW (Or.inl (by first | rfl | simp [Cond.onTables, Cond.keeps, Cond.steady])) (hts _ l6))
  obtain ⟨cellB, hcB, hoB, hclB⟩ := va_recv hK hP hci hq
  obtain ⟨hfc, kB, hkB, -⟩ := (hK.1 ci _ hci).2
  have hkB : s.vm.classes[cellB.cls]? = some kB := by rw [← Option.some.inj (hfc.symm.trans hclB)]; exact hkB
  have hPc := pre_pc (wa := wa) (wc := wc) hP hD hS hK hG (hF H locs hD hS) isC hnd hC (.ref b :: As)
  intro T1 hT X
  obtain ⟨mk, methM, hnamed, hmethM, hstM, habM⟩ := Cond.instanceMethod_spec (hts _ l5)
  obtain ⟨methM', cM, hmethM', -, -, -, -, -, -, hsigM⟩ := Cond.code_spec hnamed (hts _ l7)
  cases hmethM.symm.trans hmethM'
  obtain ⟨ps, dk, kp, hps, hdk, hkp, hsuper, -, -, hnid⟩ := Cond.superclass_spec hown (hts _ l3)
  obtain ⟨ps2, dk2, kp2, hps2, hdk2, hkp2, hsuper2, -, -, hnid2⟩ := Cond.superclass_spec hps (hts _ l4)
  have hnn : s.methodNamed? ⟨y.cls, x.name, x.desc⟩ = some mk := by rw [l9, l10]; exact hnamed
  have hpm : ps2 = mk.cls := Option.some.inj (hps2.symm.trans (findClass_of_methodNamed hnamed))
  have hsz : 0 < s.vm.classes.size := Nat.lt_of_le_of_lt (Nat.zero_le _) (Array.getElem?_eq_some_iff.mp hdk2).1
  have hsub : s.vm.isSubclass ps mk.cls = true := by
    rw [← hpm]
    obtain ⟨z, hz⟩ : ∃ z, s.vm.classes.size = z + 1 := ⟨s.vm.classes.size - 1, by omega⟩
    simp [Vm.isSubclass, hz, Vm.isSubclassAux, hdk2, hsuper2]
  have hlen : As.length = methM.sig.parameters.length := by
    have h2 := l11
    rw [hsigM] at h2
    rw [hn]
    exact (Option.some.inj h2).symm
  obtain ⟨vm₁, X₁, hstep₁⟩ := X.invokespecialUp hx hown (hts _ l1) (hts _ l2) hnn hmethM hstM habM l8 hdk hnid hps hsuper hsub (a := b) (cell := cellB) (by rw [hT]; exact hcB)
    (fun z h => by rw [h] at hoB; cases hoB) hkB (g := F0 m pc ls st0) rfl (argsL := As) (rest := st) hlen hst (by rw [hb]; exact d)
  obtain ⟨v, B1, X', hpost, hsteps⟩ := hKb m meth c ⟨T1.setVm vm₁, locs, cells, slots⟩ { F0 m pc ls st0 with stack := st } (.invokespecial index) mk (Value.ref b :: As).toArray X₁ rfl (hl.1.trans hml.symm) (by rw [hb]; exact d) (lv_room hw) (X₁.named hnamed) ⟨hcl, hsl, hPc (T1.setVm vm₁) hT X₁.warmed⟩
  obtain ⟨U', l2', c2, s2⟩ := B1
  obtain ⟨g', mk', t, L, e1, e2, hq', h1, hL, h2, h3⟩ := hpost
  dsimp only [Pt.U, Pt.locs, Pt.cells, Pt.slots] at X' e1 e2 h1 h2 h3 hsteps
  subst h1; subst h2; subst h3
  exact ⟨v, (T1.setVm vm₁).calling g' mk' (Value.ref b :: As).toArray, t, U', L, hT, X', hL, e1, e2, hq', fun target h => hstep₁ _ (by rw [doInvoke_state]; exact hsteps.trans h)⟩
end Jd
