/-! ===== rows for making: new, newarray, anewarray, aastore, Object.<init> ===== -/
def zI : Nat → Int32 := fun _ => 0
def zL : Nat → Int64 := fun _ => 0
theorem arrV_cg {cI : ClassId} {N : Nat} {f g : Nat → Value} (h : ∀ j, j < N → f j = g j) : arrV cI N f = arrV cI N g := by
  unfold arrV
  rw [show (fun j : Fin N => f j.val) = (fun j : Fin N => g j.val) from funext fun j => h j.val j.isLt]
/-- a class that can be made: by its link, with these first fields -/
def NW (own : String) (index ci N : Nat) (fs : List Value) : Prop := ∃ (C : String) (T : u_T) (ty : Nat → FieldType), vwCl[ci]? = some (C, T, N) ∧ (∀ w ∈ u_ws C T N, w ∈ TB) ∧ (∀ k, k < N → parseFieldDescriptor (T k).2.2.1 = some (ty k)) ∧ Cond.classLink own index C ∈ TB ∧ Cond.instantiable C N ∈ TB ∧ Cond.initialized C ∈ TB ∧ ∀ j, j < N → defaultValue (ty j) = vp_V fs j
theorem wa_int : Cond.arrayClass .int ∈ TB := tb_t 141 (by decide +kernel) rfl
theorem wa_byte : Cond.arrayClass .byte ∈ TB := tb_t 41 (by decide +kernel) rfl
theorem wa_long : Cond.arrayClass .long ∈ TB := tb_t 188 (by decide +kernel) rfl
theorem wo_inst : Cond.instanceMethod Lib.objectInit ∈ TB := tb_t 26 (by decide +kernel) rfl
theorem wo_code : Cond.code Lib.objectInit ⟨#[0xb1]⟩ 1 none ∈ TB := tb_t 27 (by decide +kernel) rfl
theorem tw_cls {a b n : Nat} (h1 : a < n) (h2 : b < n) (h : ¬ a = b) : ∃ z, n = z + 2 := ⟨n - 2, by omega⟩
/-- castable, out of the words on superclasses -/
theorem cst1 {args : Array Value} {s : State} {C E O : String} {cC : ClassId} (hC : s.vm.findClass C = some cC) (h1 : (Cond.superclass C E).before args s = true) (h2 : (Cond.superclass E O).before args s = true) : va_Nw (.castable C E) s := by
  obtain ⟨p, k, kp, hp, hk, hkp, hsup, hkind, hkpk, hi⟩ := Cond.superclass_spec hC h1
  obtain ⟨p2, k2, kp2, hp2, hk2, hkp2, hsup2, hkind2, hkpk2, hi2⟩ := Cond.superclass_spec hp h2
  cases hkp.symm.trans hk2
  have hz : 0 < s.vm.classes.size := Nat.lt_of_le_of_lt (Nat.zero_le _) (Array.getElem?_eq_some_iff.mp hk).1
  obtain ⟨z, hz⟩ : ∃ z, s.vm.classes.size = z + 1 := ⟨s.vm.classes.size - 1, by omega⟩
  have ha : s.vm.assignable cC p = true := by
    show s.vm.assignableAux (255 + 1) cC p = true
    rw [Vm.assignableAux]
    simp [hk, hkp, hkind, hkpk, hi2, Vm.isSubclass, hz, Vm.isSubclassAux, hsup]
  show (Cond.castable C E).before #[] s = true
  simp [Cond.before, Cond.holds, Cond.value, hC, hp, ha]
theorem cst2 {args : Array Value} {s : State} {C M E O : String} {cC : ClassId} (hC : s.vm.findClass C = some cC) (h0 : (Cond.superclass C M).before args s = true) (h1 : (Cond.superclass M E).before args s = true) (h2 : (Cond.superclass E O).before args s = true) : va_Nw (.castable C E) s := by
  obtain ⟨q, kc, kq, hq, hkc, hkq, hsup0, hkind0, hkq0, hi0⟩ := Cond.superclass_spec hC h0
  obtain ⟨p, k, kp, hp, hk, hkp, hsup, hkind, hkpk, hi⟩ := Cond.superclass_spec hq h1
  obtain ⟨p2, k2, kp2, hp2, hk2, hkp2, hsup2, hkind2, hkpk2, hi2⟩ := Cond.superclass_spec hp h2
  cases hkp.symm.trans hk2
  cases hkq.symm.trans hk
  have ha : s.vm.assignable cC p = true := by
    show s.vm.assignableAux (255 + 1) cC p = true
    rw [Vm.assignableAux]
    by_cases e : cC = p
    · simp [e]
    · have z1 : cC < s.vm.classes.size := (Array.getElem?_eq_some_iff.mp hkc).1
      have z2 : p < s.vm.classes.size := (Array.getElem?_eq_some_iff.mp hkp).1
      obtain ⟨z, hz⟩ : ∃ z, s.vm.classes.size = z + 2 := tw_cls z1 z2 e
      simp [hkc, hkp, hkind0, hkpk, hi2, Vm.isSubclass, hz, Vm.isSubclassAux, hsup0, hsup, hk]
  show (Cond.castable C E).before #[] s = true
  simp [Cond.before, Cond.holds, Cond.value, hC, hp, ha]
/-- a class may stand in an array of E: it is E's child, or its grandchild -/
def Ch (C E : String) : Prop := (∃ O, Cond.superclass C E ∈ TB ∧ Cond.superclass E O ∈ TB) ∨ ∃ M O, Cond.superclass C M ∈ TB ∧ Cond.superclass M E ∈ TB ∧ Cond.superclass E O ∈ TB
section Jn
variable {l : Launch} {D : va_G} {ca : Nat → ClassId} {sd : Nat → Nat} {cc : ByteArray} {own : String} {ret : Option FieldType} {R0 : Room} {k : Kx} {nL cells slots pc : Nat} {ws : va_W} {lv : List (Nat × Value)} {st : List Value}
theorem j_new (C : Cx D ca sd cc own ret R0 k nL) (hB : Wx k) {index ci N : Nat} {fs : List Value} (nw : NW own index ci N fs) (ws' : Nat → va_W) (hcells : cells + 1 ≤ R0.cells) (hslots : slots + N ≤ R0.slots) (d : decode cc pc = .ok (.new index, 3)) (hw : ∀ q, ws ++ [(q, .inr (ci, fs))] = ws' q) (h : ∀ q : Nat, J l D k nL (cells + 1) (slots + N) (pc + 3) (ws' q) lv (.ref q :: st)) : J l D k nL cells slots pc ws lv st := by
  obtain ⟨C1, T, ty, hc, hin, hty, w1, w2, w3, hfs⟩ := nw
  obtain ⟨p, e, R, s, m, args, below, meth, c, Q, A, B⟩ := k
  obtain ⟨hx, hb, hr, hml, hown, hts, hlocks, hR0, hK, hG, hA⟩ := C
  obtain rfl := hB
  subst hR0
  intro H locs ls hP hD hS hl
  refine va_new hx hb hts hin ty hty hown (hts _ w1) (hts _ w2) (hts _ w3) hK hP hD hS hA hc hfs hcells hslots d (fun q H1 hP1 hD1 hS1 => ?_)
  rw [hw q] at hP1 hD1
  exact h q H1 locs ls hP1 hD1 hS1 hl
theorem j_newI (C : Cx D ca sd cc own ret R0 k nL) (hB : Wx k) {n : Int32} (N : Nat) (ws' : Nat → va_W) (hn : ¬ n < 0) (hN : n.toNatClampNeg = N) (hbytes : N * 4 ≤ 536870912) (hcells : cells + 1 ≤ R0.cells) (hslots : slots + N ≤ R0.slots) (d : decode cc pc = .ok (.newarray .int, 2)) (hw : ∀ q, ws ++ [(q, .inl (ca 0, N, .inl zI))] = ws' q) (h : ∀ q : Nat, J l D k nL (cells + 1) (slots + N) (pc + 2) (ws' q) lv (.ref q :: st)) : J l D k nL cells slots pc ws lv (.int n :: st) := by
  obtain ⟨p, e, R, s, m, args, below, meth, c, Q, A, B⟩ := k
  obtain ⟨hx, hb, hr, hml, hown, hts, hlocks, hR0, hK, hG, hA⟩ := C
  obtain rfl := hB
  subst hR0
  intro H locs ls hP hD hS hl
  refine va_newa (atype := .int) (ty := .int) (a0 := (N, .inl zI)) hx hb (hts _ wa_int) rfl hK hP hD hS hA (fun cA => rfl) hn hN hbytes hcells hslots d (fun q cA H1 hK1 hP1 hD1 hS1 => ?_)
  have e : cA = ca 0 := Option.some.inj ((va_nm_int (hK1.2 5 (cA, .int) rfl).2).symm.trans (va_nm_int (hK.2 0 (ca 0, .int) rfl).2))
  subst e
  rw [hw q] at hP1 hD1
  exact h q H1 locs ls hP1 hD1 hS1 hl
theorem j_newL (C : Cx D ca sd cc own ret R0 k nL) (hB : Wx k) {n : Int32} (N : Nat) (ws' : Nat → va_W) (hn : ¬ n < 0) (hN : n.toNatClampNeg = N) (hbytes : N * 8 ≤ 536870912) (hcells : cells + 1 ≤ R0.cells) (hslots : slots + N ≤ R0.slots) (d : decode cc pc = .ok (.newarray .long, 2)) (hw : ∀ q, ws ++ [(q, .inl (ca 1, N, .inr (.inl zL)))] = ws' q) (h : ∀ q : Nat, J l D k nL (cells + 1) (slots + N) (pc + 2) (ws' q) lv (.ref q :: st)) : J l D k nL cells slots pc ws lv (.int n :: st) := by
  obtain ⟨p, e, R, s, m, args, below, meth, c, Q, A, B⟩ := k
  obtain ⟨hx, hb, hr, hml, hown, hts, hlocks, hR0, hK, hG, hA⟩ := C
  obtain rfl := hB
  subst hR0
  intro H locs ls hP hD hS hl
  refine va_newa (atype := .long) (ty := .long) (a0 := (N, .inr (.inl zL))) hx hb (hts _ wa_long) rfl hK hP hD hS hA (fun cA => rfl) hn hN hbytes hcells hslots d (fun q cA H1 hK1 hP1 hD1 hS1 => ?_)
  have e : cA = ca 1 := Option.some.inj ((va_nm_long (hK1.2 5 (cA, .long) rfl).2).symm.trans (va_nm_long (hK.2 1 (ca 1, .long) rfl).2))
  subst e
  rw [hw q] at hP1 hD1
  exact h q H1 locs ls hP1 hD1 hS1 hl
theorem j_newB (C : Cx D ca sd cc own ret R0 k nL) (hB : Wx k) {n : Int32} (N : Nat) (ws' : Nat → va_W) (hn : ¬ n < 0) (hN : n.toNatClampNeg = N) (hbytes : N * 1 ≤ 536870912) (hcells : cells + 1 ≤ R0.cells) (hslots : slots + N ≤ R0.slots) (d : decode cc pc = .ok (.newarray .byte, 2)) (hw : ∀ q, ws ++ [(q, .inl (ca 2, N, .inl zI))] = ws' q) (h : ∀ q : Nat, J l D k nL (cells + 1) (slots + N) (pc + 2) (ws' q) lv (.ref q :: st)) : J l D k nL cells slots pc ws lv (.int n :: st) := by
  obtain ⟨p, e, R, s, m, args, below, meth, c, Q, A, B⟩ := k
  obtain ⟨hx, hb, hr, hml, hown, hts, hlocks, hR0, hK, hG, hA⟩ := C
  obtain rfl := hB
  subst hR0
  intro H locs ls hP hD hS hl
  refine va_newa (atype := .byte) (ty := .byte) (a0 := (N, .inl zI)) hx hb (hts _ wa_byte) rfl hK hP hD hS hA (fun cA => rfl) hn hN hbytes hcells hslots d (fun q cA H1 hK1 hP1 hD1 hS1 => ?_)
  have e : cA = ca 2 := Option.some.inj ((va_nm_byte (hK1.2 5 (cA, .byte) rfl).2).symm.trans (va_nm_byte (hK.2 2 (ca 2, .byte) rfl).2))
  subst e
  rw [hw q] at hP1 hD1
  exact h q H1 locs ls hP1 hD1 hS1 hl
theorem j_newQ (C : Cx D ca sd cc own ret R0 k nL) (hB : Wx k) {n : Int32} {index : Nat} {E : String} (N ct : Nat) (ws' : Nat → va_W) (hE : E = "UnfinishedFair$Kind" ∨ E = "UnfinishedFair$Sheet") (hct : (gT ca)[ct]? = some (ca ct, .object E)) (hlk : Cond.classLink own index E ∈ TB) (hn : ¬ n < 0) (hN : n.toNatClampNeg = N) (hbytes : N * 4 ≤ 536870912) (hcells : cells + 1 ≤ R0.cells) (hslots : slots + N ≤ R0.slots) (d : decode cc pc = .ok (.anewarray index, 3)) (hw : ∀ q, ws ++ [(q, .inl (ca ct, N, .inr (.inr (.inr (.inr (fun _ => none))))))] = ws' q) (h : ∀ q : Nat, J l D k nL (cells + 1) (slots + N) (pc + 3) (ws' q) lv (.ref q :: st)) : J l D k nL cells slots pc ws lv (.int n :: st) := by
  obtain ⟨p, e, R, s, m, args, below, meth, c, Q, A, B⟩ := k
  obtain ⟨hx, hb, hr, hml, hown, hts, hlocks, hR0, hK, hG, hA⟩ := C
  obtain rfl := hB
  subst hR0
  intro H locs ls hP hD hS hl
  have hO : va_AO E s := by
    rcases hE with rfl | rfl
    · exact hG.2.2.2.2.2.2.2.2.2.1
    · exact hG.2.2.2.2.2.2.2.2.2.2
  refine va_newq hx hb hown (hts _ hlk) hO hK hP hD hS hA hn hN hbytes hcells hslots d (fun q cA H1 hK1 hP1 hD1 hS1 => ?_)
  have e : cA = ca ct := Option.some.inj ((va_nmO (hK1.2 5 (cA, .object E) rfl).2 rfl).symm.trans (va_nmO (hK.2 ct (ca ct, .object E) hct).2 rfl))
  subst e
  rw [hw q] at hP1 hD1
  exact h q H1 locs ls hP1 hD1 hS1 hl
/-- a reference into an array of its own class -/
theorem j_astq (C : Cx D ca sd cc own ret R0 k nL) (hB : Wx k) {a v n ct ci : Nat} {E : String} {T : u_T} {N : Nat} {f : Nat → Option Nat} {vs : List Value} {i : Int32} (q0 qk j : Nat) (ws' : va_W) (d : decode cc pc = .ok (.aastore, 1)) (ha : ws[q0]? = some (a, .inl (ca ct, n, .inr (.inr (.inr (.inr f)))))) (ht : (gT ca)[ct]? = some (ca ct, .object E)) (hv : ws[qk]? = some (v, .inr (ci, vs))) (hc : vwCl[ci]? = some (E, T, N)) (hin : vp_in i n) (hj : i.toNatClampNeg = j) (hw : ws.set q0 (a, .inl (ca ct, n, .inr (.inr (.inr (.inr (va_up f j (some v))))))) = ws') (h : J l D k nL cells slots (pc + 1) ws' lv st) : J l D k nL cells slots pc ws lv (.ref v :: .int i :: .ref a :: st) := by
  subst hw; subst hj
  obtain ⟨p, e, R, s, m, args, below, meth, c, Q, A, B⟩ := k
  obtain ⟨hx, hb, hr, hml, hown, hts, hlocks, hR0, hK, hG, hA⟩ := C
  obtain rfl := hB
  intro H locs ls hP hD hS hl
  exact va_astq hx hb hK hP hD hS q0 ct qk ci ha ht hv hc hin d (fun H locs hP hD hS => h H locs ls hP hD hS hl)
/-- a reference into an array of a class above its own -/
theorem j_astqO (C : Cx D ca sd cc own ret R0 k nL) (hB : Wx k) {a v n ct ci : Nat} {E C1 : String} {T : u_T} {N : Nat} {f : Nat → Option Nat} {vs : List Value} {i : Int32} (ch : Ch C1 E) (q0 qk j : Nat) (ws' : va_W) (d : decode cc pc = .ok (.aastore, 1)) (ha : ws[q0]? = some (a, .inl (ca ct, n, .inr (.inr (.inr (.inr f)))))) (ht : (gT ca)[ct]? = some (ca ct, .object E)) (hv : ws[qk]? = some (v, .inr (ci, vs))) (hc : vwCl[ci]? = some (C1, T, N)) (hin : vp_in i n) (hj : i.toNatClampNeg = j) (hw : ws.set q0 (a, .inl (ca ct, n, .inr (.inr (.inr (.inr (va_up f j (some v))))))) = ws') (h : J l D k nL cells slots (pc + 1) ws' lv st) : J l D k nL cells slots pc ws lv (.ref v :: .int i :: .ref a :: st) := by
  subst hw; subst hj
  obtain ⟨p, e, R, s, m, args, below, meth, c, Q, A, B⟩ := k
  obtain ⟨hx, hb, hr, hml, hown, hts, hlocks, hR0, hK, hG, hA⟩ := C
  obtain rfl := hB
  intro H locs ls hP hD hS hl
  have hfc : s.vm.findClass C1 = some (D.1 ci) := (hK.1 ci _ hc).2.1
  have hca : va_Nw (.castable C1 E) s := by
    rcases ch with ⟨O, w1, w2⟩ | ⟨M, O, w0, w1, w2⟩
    · exact cst1 hfc (hts _ w1) (hts _ w2)
    · exact cst2 hfc (hts _ w0) (hts _ w1) (hts _ w2)
  exact va_astqO hx hb hK hP hD hS q0 ct qk ci ha ht hca hv hc hin d (fun H locs hP hD hS => h H locs ls hP hD hS hl)
theorem j_oinit (C : Cx D ca sd cc own ret R0 k nL) {index a : Nat} (hlk : Cond.methodLink own index Lib.objectInit ∈ TB) (hf : 1 ≤ R0.frames) (hlo : (st.map fun v => v.category).sum + 12 ≤ R0.locals) (d : decode cc pc = .ok (.invokespecial index, 3)) (h : J l D k nL cells slots (pc + 3) ws lv st) : J l D k nL cells slots pc ws lv (.ref a :: st) := by
  obtain ⟨p, e, R, s, m, args, below, meth, c, Q, A, B⟩ := k
  obtain ⟨hx, hb, hr, hml, hown, hts, hlocks, hR0, hK, hG, hA⟩ := C
  subst hR0
  intro H locs ls hP hD hS hl
  exact W.objInit (a := a) (rest := st) hx hb hown (hts _ hlk) (hts _ wo_inst) (hts _ wo_code) rfl (hl.1.trans hml.symm) rfl d hf (by show 2 * 0 + _ + 12 ≤ _; omega) (h H locs ls hP hD hS hl)
/-- a reference array's contents matter below its length alone -/
theorem j_wq {a n : Nat} {cA : ClassId} {f : Nat → Option Nat} (q0 : Nat) (g : Nat → Option Nat) (ws' : va_W) (ha : ws[q0]? = some (a, .inl (cA, n, .inr (.inr (.inr (.inr f)))))) (hfg : ∀ j, j < n → f j = g j) (hw : ws.set q0 (a, .inl (cA, n, .inr (.inr (.inr (.inr g))))) = ws') (h : J l D k nL cells slots pc ws' lv st) : J l D k nL cells slots pc ws lv st := by
  subst hw
  obtain ⟨p, e, R, s, m, args, below, meth, c, Q, A, B⟩ := k
  intro H locs ls hP hD hS hl
  refine h H locs ls (hP.set hD ha ?_ (fun _ _ => rfl)) (hD.set ha) hS hl
  have h0 := hP q0 _ ha
  show H[a]? = some (vp_cell cA _)
  have h1 : H[a]? = some (vp_cell cA (n, .inr (.inr (.inr (.inr f))))) := h0
  rw [h1, vp_cell_q, vp_cell_q]
  exact congrArg some (arrV_cg (fun j hj => by rw [hfg j hj]))
theorem j_top {x : Int32} (v : Int32) (hv : x = v) (h : J l D k nL cells slots pc ws lv (.int v :: st)) : J l D k nL cells slots pc ws lv (.int x :: st) := by
  subst hv; exact h
theorem j_cvN (C : Cx D ca sd cc own ret R0 k nL) (hB : Wx k) {wc : va_W} {av st0 : List Value} {S : Type} {post : S → Prop} {wB : S → va_W} {mc ms : Nat} (p q : Nat) (ws' : S → va_W) (hws : ws = ws.take p ++ (wc ++ ws.drop q)) (hw' : ∀ u, ws.take p ++ (wB u ++ ws.drop q) = ws' u) (r : JR l D k nL cells slots pc ws lv st0 st wc mc ms (Rv D post wB) av) (h : ∀ (u : S), post u → J l D k nL (cells + mc) (slots + ms) (pc + 3) (ws' u) lv (st)) : J l D k nL cells slots pc ws lv st0 := by
  refine j_cv C hB hws r (fun u hp => ?_)
  rw [hw' u]
  exact h u hp
end Jn
