/-! making: rows over a growing list of cells -/
def CyU (D : va_G) (cy : Nat → ClassId) (U : State) : Prop := va_K D vwCl (tysW cy) U ∧ (∀ w ∈ nestW, va_Nw w U) ∧ va_AO "BroadNib$Pen" U ∧ va_AO "BroadNib$Act" U ∧ va_AO "BroadNib$Slot" U
theorem CyU.warm {D : va_G} {cy : Nat → ClassId} {s U : State} (h : CyU D cy s) (hW : s.WarmedH U.vm) : CyU D cy U := ⟨va_K.moved hW.alike h.1, nest_warm hW h.2.1, h.2.2.1.moved hW.alike, h.2.2.2.1.moved hW.alike, h.2.2.2.2.moved hW.alike⟩
theorem CyU.same {D : va_G} {cy : Nat → ClassId} {s U : State} (h : CyU D cy s) (hv : s.vm = U.vm) : CyU D cy U := by
  have ha : s.vm.Alike U.vm := by rw [hv]; exact Vm.Alike.refl U.vm
  exact ⟨va_K.moved ha h.1, nest_same hv h.2.1, h.2.2.1.moved ha, h.2.2.2.1.moved ha, h.2.2.2.2.moved ha⟩
abbrev Rk (d mc ms : Nat) : Room := { frames := d, cells := mc, slots := ms, locals := 200 * d }
def CnP (D : va_G) (cy : Nat → ClassId) (h0 sz : Nat) (E0 : va_E) (U : State) : Prop := U.heap.size = sz ∧ va_P D vwCl [(h0, E0)] U.heap ∧ CyU D cy U
def CnQ {S : Type} (D : va_G) (A : Nat → Prop) (w : S → va_W) : S → State → Prop := fun q t => va_P D vwCl (w q) t.heap ∧ va_D A (w q)
/-- a constructor: from the new object alone to the cells that it makes -/
def Cn {S : Type} (y : MethodName) (b : ByteArray) (nL d mc ms : Nat) (E0 : va_E) (wf : (Nat → ClassId) → Nat → S → va_W) : Prop :=
  ∀ (l : Launch) (D : va_G) (cy : Nat → ClassId) (h0 sz : Nat), Met l y (Cond.code y b nL none :: lw_g) (Rk d mc ms) (va_Pc [.ref h0] (CnP D cy h0 sz E0)) (va_Qv (fun _ : S => True) (CnQ D (va_A [(h0, E0)] sz) (wf cy h0)) (va_A [(h0, E0)] sz)) mc ms (va_A [(h0, E0)] sz)
def KX (p : Program) (s : State) (m : MethodId) (args : Array Value) (c : Code) (own : String) (b : ByteArray) (nL : Nat) (D : va_G) (cy : Nat → ClassId) (A : Nat → Prop) : Prop := p.tables.exec = Jvm.exec ∧ c.code = b ∧ c.maxLocals = nL ∧ s.vm.findClass own = some m.cls ∧ (∀ w ∈ lw_g, w.before args s = true) ∧ CyU D cy s ∧ ∀ q : Nat, s.heap.size ≤ q → A q
def GK (p : Program) (l : Launch) (e : Env) (R : Room) (s : State) (m : MethodId) (args : Array Value) (below : List Frame) (meth : Method) (c : Code) (D : va_G) (A : Nat → Prop) (nL : Nat) (Q : State → Prop) (pc : Nat) (lv : List (Nat × Value)) (st : List Value) (ws : va_W) (cells slots : Nat) : Prop :=
  ∀ (H : Heap) (locs : List Loc) (ls : Array Slot), va_P D vwCl ws H → va_D A ws → va_S A s.heap H locs → lv_has ls nL lv → W p l e R s m args below meth c H locs cells slots Q (F0 m pc ls st)
section Rows90
variable {p : Program} {l : Launch} {e : Env} {R : Room} {s : State} {m : MethodId} {args : Array Value} {below : List Frame} {meth : Method} {c : Code} {D : va_G} {cy : Nat → ClassId} {A : Nat → Prop} {nL : Nat} {Q : State → Prop} {own : String} {b : ByteArray} {pc : Nat} {lv : List (Nat × Value)} {st : List Value} {ws : va_W} {cells slots : Nat}
theorem k_aload (X : KX p s m args c own b nL D cy A) {k : Fin 4} {x : Nat} (hd : decode b pc = .ok (.aload_n k, 1)) (i : Nat) (hi : lv[i]? = some ((k : Nat), .ref x)) (kk : GK p l e R s m args below meth c D A nL Q (pc + 1) lv (.ref x :: st) ws cells slots) : GK p l e R s m args below meth c D A nL Q pc lv st ws cells slots := fun H locs ls hP hD hS hl => lv_aload_n X.1 X.2.1 hd rfl (lv_at hl i hi) (kk H locs ls hP hD hS hl)
theorem k_iload (X : KX p s m args c own b nL D cy A) {k : Fin 4} {x : Int32} (hd : decode b pc = .ok (.iload_n k, 1)) (i : Nat) (hi : lv[i]? = some ((k : Nat), .int x)) (kk : GK p l e R s m args below meth c D A nL Q (pc + 1) lv (.int x :: st) ws cells slots) : GK p l e R s m args below meth c D A nL Q pc lv st ws cells slots := fun H locs ls hP hD hS hl => lv_iload_n X.1 X.2.1 hd rfl (lv_at hl i hi) (kk H locs ls hP hD hS hl)
theorem k_iconst (X : KX p s m args c own b nL D cy A) {n : Int} (x : Int32) (hd : decode b pc = .ok (.iconst n, 1)) (hv : Int32.ofInt n = x) (kk : GK p l e R s m args below meth c D A nL Q (pc + 1) lv (.int x :: st) ws cells slots) : GK p l e R s m args below meth c D A nL Q pc lv st ws cells slots := fun H locs ls hP hD hS hl => lv_iconst X.1 X.2.1 hd hv (kk H locs ls hP hD hS hl)
theorem k_bipush (X : KX p s m args c own b nL D cy A) {n : Int} (x : Int32) (hd : decode b pc = .ok (.bipush n, 2)) (hv : (Int8.ofInt n).toInt32 = x) (kk : GK p l e R s m args below meth c D A nL Q (pc + 2) lv (.int x :: st) ws cells slots) : GK p l e R s m args below meth c D A nL Q pc lv st ws cells slots := fun H locs ls hP hD hS hl => lv_bipush X.1 X.2.1 hd hv (kk H locs ls hP hD hS hl)
theorem k_sipush (X : KX p s m args c own b nL D cy A) {n : Int} (x : Int32) (hd : decode b pc = .ok (.sipush n, 3)) (hv : (Int16.ofInt n).toInt32 = x) (kk : GK p l e R s m args below meth c D A nL Q (pc + 3) lv (.int x :: st) ws cells slots) : GK p l e R s m args below meth c D A nL Q pc lv st ws cells slots := fun H locs ls hP hD hS hl => lv_sipush X.1 X.2.1 hd hv (kk H locs ls hP hD hS hl)
theorem k_dup (X : KX p s m args c own b nL D cy A) {x : Nat} (hd : decode b pc = .ok (.dup, 1)) (kk : GK p l e R s m args below meth c D A nL Q (pc + 1) lv (.ref x :: .ref x :: st) ws cells slots) : GK p l e R s m args below meth c D A nL Q pc lv (.ref x :: st) ws cells slots := fun H locs ls hP hD hS hl => lv_dup X.1 X.2.1 hd rfl (kk H locs ls hP hD hS hl)
theorem k_istore (X : KX p s m args c own b nL D cy A) {k : Fin 4} {x : Int32} {lv' : List (Nat × Value)} (hd : decode b pc = .ok (.istore_n k, 1)) (hn : (k : Nat) < nL) (hl' : ((k : Nat), Value.int x) :: lv.filter (fun q => !(q.1 == (k : Nat)) && !(q.1 + 1 == (k : Nat) && q.2.category == 2)) = lv') (kk : GK p l e R s m args below meth c D A nL Q (pc + 1) lv' st ws cells slots) : GK p l e R s m args below meth c D A nL Q pc lv (.int x :: st) ws cells slots := fun H locs ls hP hD hS hl => lv_istore_n X.1 X.2.1 hd rfl hl hn hl' (fun ls' h' => kk H locs ls' hP hD hS h')
theorem k_astore (X : KX p s m args c own b nL D cy A) {k : Fin 4} {x : Nat} {lv' : List (Nat × Value)} (hd : decode b pc = .ok (.astore_n k, 1)) (hn : (k : Nat) < nL) (hl' : ((k : Nat), Value.ref x) :: lv.filter (fun q => !(q.1 == (k : Nat)) && !(q.1 + 1 == (k : Nat) && q.2.category == 2)) = lv') (kk : GK p l e R s m args below meth c D A nL Q (pc + 1) lv' st ws cells slots) : GK p l e R s m args below meth c D A nL Q pc lv (.ref x :: st) ws cells slots := fun H locs ls hP hD hS hl => lv_astore_n X.1 X.2.1 hd rfl hl hn hl' (fun ls' h' => kk H locs ls' hP hD hS h')
theorem k_iinc (X : KX p s m args c own b nL D cy A) {i : Nat} {n : Int} {x : Int32} {lv' : List (Nat × Value)} (y : Int32) (hd : decode b pc = .ok (.iinc i n, 3)) (j : Nat) (hj : lv[j]? = some (i, .int x)) (hv : x + Int32.ofInt n = y) (hn : i < nL) (hl' : (i, Value.int y) :: lv.filter (fun q => !(q.1 == i) && !(q.1 + 1 == i && q.2.category == 2)) = lv') (kk : GK p l e R s m args below meth c D A nL Q (pc + 3) lv' st ws cells slots) : GK p l e R s m args below meth c D A nL Q pc lv st ws cells slots := fun H locs ls hP hD hS hl => lv_iinc X.1 X.2.1 hd hl hj hv hn hl' (fun ls' h' => kk H locs ls' hP hD hS h')
theorem k_goto (X : KX p s m args c own b nL D cy A) {off : Int} (tgt : Nat) (hd : decode b pc = .ok (.goto off, 3)) (ht : (pc : Int) + off = (tgt : Int)) (kk : GK p l e R s m args below meth c D A nL Q tgt lv st ws cells slots) : GK p l e R s m args below meth c D A nL Q pc lv st ws cells slots := fun H locs ls hP hD hS hl => lv_goto X.1 X.2.1 hd ht (kk H locs ls hP hD hS hl)
theorem k_ge_t (X : KX p s m args c own b nL D cy A) {off : Int} (tgt : Nat) {x y : Int32} (hd : decode b pc = .ok (.if_icmp .ge off, 3)) (ht : (pc : Int) + off = (tgt : Int)) (h : y ≤ x) (kk : GK p l e R s m args below meth c D A nL Q tgt lv st ws cells slots) : GK p l e R s m args below meth c D A nL Q pc lv (.int y :: .int x :: st) ws cells slots := fun H locs ls hP hD hS hl => lv_icmp_ge X.1 X.2.1 hd ht (fun _ => kk H locs ls hP hD hS hl) (fun z => absurd h z)
theorem k_ge_f (X : KX p s m args c own b nL D cy A) {off : Int} (tgt : Nat) {x y : Int32} (hd : decode b pc = .ok (.if_icmp .ge off, 3)) (ht : (pc : Int) + off = (tgt : Int)) (h : ¬ y ≤ x) (kk : GK p l e R s m args below meth c D A nL Q (pc + 3) lv st ws cells slots) : GK p l e R s m args below meth c D A nL Q pc lv (.int y :: .int x :: st) ws cells slots := fun H locs ls hP hD hS hl => lv_icmp_ge X.1 X.2.1 hd ht (fun z => absurd z h) (fun _ => kk H locs ls hP hD hS hl)
theorem k_obj (X : KX p s m args c own b nL D cy A) {a idx : Nat} (hd : decode b pc = .ok (.invokespecial idx, 3)) (h1 : Cond.methodLink own idx Lib.objectInit ∈ lw_g) (h2 : Cond.instanceMethod Lib.objectInit ∈ lw_g) (h3 : Cond.code Lib.objectInit ⟨#[0xb1]⟩ 1 none ∈ lw_g) (hf : 1 ≤ R.frames) (hlo : (st.map fun v => v.category).sum + 12 ≤ R.locals) (kk : GK p l e R s m args below meth c D A nL Q (pc + 3) lv st ws cells slots) : GK p l e R s m args below meth c D A nL Q pc lv (.ref a :: st) ws cells slots := by
  intro H locs ls hP hD hS hl
  refine W.objInit X.1 X.2.1 X.2.2.2.1 (X.2.2.2.2.1 _ h1) (X.2.2.2.2.1 _ h2) (X.2.2.2.2.1 _ h3) rfl (by rw [X.2.2.1]; exact hl.1) rfl hd hf (by show 2 * 0 + _ + 12 ≤ _; omega) ?_
  exact W.eq (g2 := F0 m (pc + 3) ls st) rfl (kk H locs ls hP hD hS hl)
theorem k_new (X : KX p s m args c own b nL D cy A) {ci N idx : Nat} {C : String} {T : u_T} {ty : Nat → FieldType} (cf : Cf ci C T N ty) (hd : decode b pc = .ok (.new idx, 3)) (h1 : Cond.classLink own idx C ∈ lw_g) (h2 : Cond.instantiable C N ∈ lw_g) (h3 : Cond.initialized C ∈ lw_g) {fs : List Value} (hfs : ∀ j, j < N → defaultValue (ty j) = vp_V fs j) (hc : cells + 1 ≤ R.cells) (hs : slots + N ≤ R.slots) (kk : ∀ q : Nat, GK p l e R s m args below meth c D A nL Q (pc + 3) lv (.ref q :: st) (ws ++ [(q, .inr (ci, fs))]) (cells + 1) (slots + N)) : GK p l e R s m args below meth c D A nL Q pc lv st ws cells slots := by
  intro H locs ls hP hD hS hl
  exact va_new X.1 X.2.1 X.2.2.2.2.1 cf.2.1 ty cf.2.2.1 X.2.2.2.1 (X.2.2.2.2.1 _ h1) (X.2.2.2.2.1 _ h2) (X.2.2.2.2.1 _ h3) X.2.2.2.2.2.1.1 hP hD hS X.2.2.2.2.2.2 cf.1 hfs hc hs hd (fun q H1 hP1 hD1 hS1 => kk q H1 locs ls hP1 hD1 hS1 hl)
theorem k_putF (X : KX p s m args c own b nL D cy A) {ci N idx a x : Nat} {C : String} {T : u_T} {ty : Nat → FieldType} (cf : Cf ci C T N ty) {fs : List Value} {tl : va_W} (k : Nat) (hd : decode b pc = .ok (.putfield idx, 3)) (hk : k < N) (h1 : Cond.fieldLink own idx (T k).1 (T k).2.1 (T k).2.2.1 ∈ lw_g) (hfin : (T k).2.2.2 = true) (hname : meth.name = "<init>") (hdecl : (T k).1 = own) (hn : narrow (ty k) (.ref x) = .ref x) (hfit : fits (ty k) (.ref x) = true) (hl1 : k < fs.length) (kk : GK p l e R s m args below meth c D A nL Q (pc + 3) lv st ((a, .inr (ci, fs.set k (.ref x))) :: tl) cells slots) : GK p l e R s m args below meth c D A nL Q pc lv (.ref x :: .ref a :: st) ((a, .inr (ci, fs)) :: tl) cells slots := by
  intro H locs ls hP hD hS hl
  exact va_putF X.1 X.2.1 X.2.2.2.2.1 cf.2.1 ty cf.2.2.1 cf.2.2.2.1 X.2.2.2.1 X.2.2.2.2.2.1.1 hP hD hS 0 rfl cf.1 k hk (X.2.2.2.2.1 _ h1) (fun _ h => h) hfin hname hdecl (cf.2.2.1 k hk) hn hfit hl1 hd (fun H1 locs1 hP1 hD1 hS1 => kk H1 locs1 ls hP1 hD1 hS1 hl)
theorem k_getf (X : KX p s m args c own b nL D cy A) {ci N idx a : Nat} {C : String} {T : u_T} {ty : Nat → FieldType} (cf : Cf ci C T N ty) {fs : List Value} {tl : va_W} (k : Nat) {v : Value} (hd : decode b pc = .ok (.getfield idx, 3)) (hk : k < N) (h1 : Cond.fieldLink own idx (T k).1 (T k).2.1 (T k).2.2.1 ∈ lw_g) (hv : fs[k]? = some v) (kk : GK p l e R s m args below meth c D A nL Q (pc + 3) lv (v :: st) ((a, .inr (ci, fs)) :: tl) cells slots) : GK p l e R s m args below meth c D A nL Q pc lv (.ref a :: st) ((a, .inr (ci, fs)) :: tl) cells slots := by
  intro H locs ls hP hD hS hl
  exact va_get X.1 X.2.1 X.2.2.2.2.1 cf.2.1 X.2.2.2.1 X.2.2.2.2.2.1.1 hP 0 rfl cf.1 k hk (X.2.2.2.2.1 _ h1) (fun _ h => h) hv hd (kk H locs ls hP hD hS hl)
theorem cy_int {cA : ClassId} (h : va_K D vwCl (tysW cy ++ [(cA, .int)]) s) : cA = cy 11 := by
  have h1 : s.vm.findClass ("[" ++ FieldType.int.toString) = some cA := (h.2 5 (cA, .int) rfl).2
  have h2 : s.vm.findClass ("[" ++ FieldType.int.toString) = some (cy 11) := (h.2 0 (cy 11, .int) rfl).2
  exact Option.some.inj (h1.symm.trans h2)
theorem cy_bool {cA : ClassId} (h : va_K D vwCl (tysW cy ++ [(cA, .boolean)]) s) : cA = cy 12 := by
  have h1 : s.vm.findClass ("[" ++ FieldType.boolean.toString) = some cA := (h.2 5 (cA, .boolean) rfl).2
  have h2 : s.vm.findClass ("[" ++ FieldType.boolean.toString) = some (cy 12) := (h.2 1 (cy 12, .boolean) rfl).2
  exact Option.some.inj (h1.symm.trans h2)
theorem cy_obj {cA cB : ClassId} {C : String} (i : Nat) (hi : (tysW cy ++ [(cA, .object C)])[i]? = some (cB, .object C)) (h : va_K D vwCl (tysW cy ++ [(cA, .object C)]) s) : cA = cB := by
  obtain ⟨k1, p1, -, -, -, h1⟩ := (h.2 5 (cA, .object C) rfl).2
  obtain ⟨k2, p2, -, -, -, h2⟩ := (h.2 i _ hi).2
  exact Option.some.inj (h1.symm.trans h2)
theorem k_newi (X : KX p s m args c own b nL D cy A) {n : Int32} (N : Nat) (hd : decode b pc = .ok (.newarray .int, 2)) (h1 : Cond.arrayClass .int ∈ lw_g) (hn : ¬ n < 0) (hN : n.toNatClampNeg = N) (hb4 : N * 4 ≤ 536870912) (hc : cells + 1 ≤ R.cells) (hs : slots + N ≤ R.slots) (kk : ∀ q : Nat, GK p l e R s m args below meth c D A nL Q (pc + 2) lv (.ref q :: st) (ws ++ [(q, .inl (cy 11, N, .inl (fun _ => 0)))]) (cells + 1) (slots + N)) : GK p l e R s m args below meth c D A nL Q pc lv (.int n :: st) ws cells slots := by
  intro H locs ls hP hD hS hl
  refine va_newa (atype := .int) (ty := .int) (a0 := (N, .inl (fun _ => 0))) X.1 X.2.1 (X.2.2.2.2.1 _ h1) rfl X.2.2.2.2.2.1.1 hP hD hS X.2.2.2.2.2.2 (fun cA => rfl) hn hN hb4 hc hs hd (fun q cA H1 hK1 hP1 hD1 hS1 => ?_)
  have ec := cy_int hK1
  subst ec
  exact kk q H1 locs ls hP1 hD1 hS1 hl
theorem k_newz (X : KX p s m args c own b nL D cy A) {n : Int32} (N : Nat) (hd : decode b pc = .ok (.newarray .boolean, 2)) (h1 : Cond.arrayClass .boolean ∈ lw_g) (hn : ¬ n < 0) (hN : n.toNatClampNeg = N) (hb4 : N * componentBytes .boolean ≤ 536870912) (hc : cells + 1 ≤ R.cells) (hs : slots + N ≤ R.slots) (kk : ∀ q : Nat, GK p l e R s m args below meth c D A nL Q (pc + 2) lv (.ref q :: st) (ws ++ [(q, .inl (cy 12, N, .inl (fun _ => 0)))]) (cells + 1) (slots + N)) : GK p l e R s m args below meth c D A nL Q pc lv (.int n :: st) ws cells slots := by
  intro H locs ls hP hD hS hl
  refine va_newa (atype := .boolean) (ty := .boolean) (a0 := (N, .inl (fun _ => 0))) X.1 X.2.1 (X.2.2.2.2.1 _ h1) rfl X.2.2.2.2.2.1.1 hP hD hS X.2.2.2.2.2.2 (fun cA => rfl) hn hN hb4 hc hs hd (fun q cA H1 hK1 hP1 hD1 hS1 => ?_)
  have ec := cy_bool hK1
  subst ec
  exact kk q H1 locs ls hP1 hD1 hS1 hl
theorem k_newq (X : KX p s m args c own b nL D cy A) {idx : Nat} {C : String} {n : Int32} (N i ki : Nat) (hd : decode b pc = .ok (.anewarray idx, 3)) (h1 : Cond.classLink own idx C ∈ lw_g) (hO : CyU D cy s → va_AO C s) (hi : ∀ cA : ClassId, (tysW cy ++ [(cA, .object C)])[i]? = some (cy ki, .object C)) (hn : ¬ n < 0) (hN : n.toNatClampNeg = N) (hb4 : N * 4 ≤ 536870912) (hc : cells + 1 ≤ R.cells) (hs : slots + N ≤ R.slots) (kk : ∀ q : Nat, GK p l e R s m args below meth c D A nL Q (pc + 3) lv (.ref q :: st) (ws ++ [(q, .inl (cy ki, N, .inr (.inr (.inr (.inr (fun _ => none))))))]) (cells + 1) (slots + N)) : GK p l e R s m args below meth c D A nL Q pc lv (.int n :: st) ws cells slots := by
  intro H locs ls hP hD hS hl
  refine va_newq X.1 X.2.1 X.2.2.2.1 (X.2.2.2.2.1 _ h1) (hO X.2.2.2.2.2.1) X.2.2.2.2.2.1.1 hP hD hS X.2.2.2.2.2.2 hn hN hb4 hc hs hd (fun q cA H1 hK1 hP1 hD1 hS1 => ?_)
  have ec := cy_obj i (hi cA) hK1
  subst ec
  exact kk q H1 locs ls hP1 hD1 hS1 hl
theorem k_astq (X : KX p s m args c own b nL D cy A) {a v n cA t0 ci : Nat} {r : vw_C} {vs : List Value} {f : Nat → Option Nat} {i : Int32} {ws' : va_W} (q0 qk : Nat) (t1 : Nat) (hd : decode b pc = .ok (.aastore, 1)) (ha : ws[q0]? = some (a, .inl (cA, n, .inr (.inr (.inr (.inr f)))))) (ht : (tysW cy)[t1]? = some (cA, .object r.1)) (hv : ws[qk]? = some (v, .inr (ci, vs))) (hc : vwCl[ci]? = some r) (hin : vp_in i n) (hw : ws.set q0 (a, .inl (cA, n, .inr (.inr (.inr (.inr (va_up f i.toNatClampNeg (some v))))))) = ws') (kk : GK p l e R s m args below meth c D A nL Q (pc + 1) lv st ws' cells slots) : GK p l e R s m args below meth c D A nL Q pc lv (.ref v :: .int i :: .ref a :: st) ws cells slots := by
  intro H locs ls hP hD hS hl
  subst hw
  exact va_astq X.1 X.2.1 X.2.2.2.2.2.1.1 hP hD hS q0 t1 qk ci ha ht hv hc hin hd (fun H1 locs1 hP1 hD1 hS1 => kk H1 locs1 ls hP1 hD1 hS1 hl)
/-- behind a constructor's call: the rest stays -/
theorem joinL {E0 : va_E} {q : Nat} {w1 : va_W} {H H1 : Heap} (hP : va_P D vwCl (ws ++ [(q, E0)]) H) (hD : va_D A (ws ++ [(q, E0)])) (hk : ∀ x : Nat, x < H.size → ¬ va_A [(q, E0)] H.size x → H1[x]? = H[x]?) (hF : ∀ x, va_A [(q, E0)] H.size x → A x) (hP1 : va_P D vwCl w1 H1) (hD1 : va_D (va_A [(q, E0)] H.size) w1) : va_P D vwCl (ws ++ w1) H1 ∧ va_D A (ws ++ w1) := by
  have hq : (ws ++ [(q, E0)])[ws.length]? = some (q, E0) := by rw [List.getElem?_append_right (Nat.le_refl _), Nat.sub_self]; rfl
  have hw : ∀ (k : Nat) (x : Nat × va_E), ws[k]? = some x → (ws ++ [(q, E0)])[k]? = some x := fun k x hx => by
    rw [List.getElem?_append_left (List.getElem?_eq_some_iff.mp hx).1]; exact hx
  have nq : ∀ (k : Nat) (x : Nat × va_E), ws[k]? = some x → x.1 ≠ q := fun k x hx hxq => by
    have := hD.1 k ws.length x (q, E0) (hw k x hx) hq hxq
    have := (List.getElem?_eq_some_iff.mp hx).1
    omega
  have lt : ∀ (k : Nat) (x : Nat × va_E), ws[k]? = some x → x.1 < H.size := fun k x hx => (hP k x (hw k x hx)).lt
  have nA : ∀ (k : Nat) (x : Nat × va_E), ws[k]? = some x → ¬ va_A [(q, E0)] H.size x.1 := fun k x hx h => by
    rcases h with ⟨j, e', h⟩ | h
    · have : j < 1 := (List.getElem?_eq_some_iff.mp h).1
      rw [show j = 0 by omega] at h
      cases h
      exact nq k x hx rfl
    · have := lt k x hx
      omega
  have key : ∀ (k : Nat) (x : Nat × va_E), (ws ++ w1)[k]? = some x → (k < ws.length ∧ ws[k]? = some x) ∨ (ws.length ≤ k ∧ w1[k - ws.length]? = some x) := fun k x hx => by
    by_cases hl : k < ws.length
    · rw [List.getElem?_append_left hl] at hx; exact Or.inl ⟨hl, hx⟩
    · rw [List.getElem?_append_right (by omega)] at hx; exact Or.inr ⟨by omega, hx⟩
  refine ⟨va_P.app (fun k x hx => (hP k x (hw k x hx)).kept (hk _ (lt k x hx) (nA k x hx))) hP1, fun i j x y hi hj hxy => ?_, fun k x hx => ?_⟩
  · rcases key i x hi with ⟨a1, a2⟩ | ⟨a1, a2⟩ <;> rcases key j y hj with ⟨b1, b2⟩ | ⟨b1, b2⟩
    · exact hD.1 i j x y (hw i x a2) (hw j y b2) hxy
    · exfalso; exact nA i x a2 (by rw [hxy]; exact hD1.2 _ _ b2)
    · exfalso; exact nA j y b2 (by rw [← hxy]; exact hD1.2 _ _ a2)
    · have := hD1.1 _ _ x y a2 b2 hxy
      omega
  · rcases key k x hx with ⟨a1, a2⟩ | ⟨a1, a2⟩
    · exact hD.2 k x (hw k x a2)
    · exact hF _ (hD1.2 _ _ a2)
theorem CnP.blind {h0 sz : Nat} {E0 : va_E} {av : List Value} : FrameBlind (va_Pc av (CnP D cy h0 sz E0)) := by
  intro a U g mk q
  obtain ⟨q0, q1, q2, q3⟩ := q
  exact ⟨q0, q1, q2, q3.same (U := U.calling g mk a) rfl⟩
theorem k_after {S : Type} {mc ms q : Nat} {E0 : va_E} {wf : S → va_W} {H : Heap} {locs : List Loc} {ls : Array Slot} {a : Array Value} {st0 : List Value} (hA : ∀ x : Nat, s.heap.size ≤ x → A x) (hP : va_P D vwCl (ws ++ [(q, E0)]) H) (hD : va_D A (ws ++ [(q, E0)])) (hS : va_S A s.heap H locs) (hl : lv_has ls nL lv)
    (hr : va_Run p l e R s m args below meth c H locs cells slots mc ms (F0 m pc ls st0) st (va_Qv (fun _ : S => True) (CnQ D (va_A [(q, E0)] H.size) wf) (va_A [(q, E0)] H.size) a) (va_A [(q, E0)] H.size)) (kk : ∀ u : S, GK p l e R s m args below meth c D A nL Q (pc + 3) lv st (ws ++ wf u) (cells + mc) (slots + ms)) : W p l e R s m args below meth c H locs cells slots Q (F0 m pc ls st0) := by
  have hq : (ws ++ [(q, E0)])[ws.length]? = some (q, E0) := by rw [List.getElem?_append_right (Nat.le_refl _), Nat.sub_self]; rfl
  have hF : ∀ x, va_A [(q, E0)] H.size x → A x := fun x h => by
    rcases h with ⟨j, e', h⟩ | h
    · have : j < 1 := (List.getElem?_eq_some_iff.mp h).1
      rw [show j = 0 by omega] at h
      cases h
      exact hD.2 _ _ hq
    · exact hA x (Nat.le_trans hS.1 h)
  refine va_callv hr hS (fun x _ h => hF x h) hF (fun u t H1 locs1 ht hvm _ hB hz1 hk1 hS1 => ?_)
  obtain ⟨hP1, hD1⟩ := hB
  rw [ht] at hP1
  obtain ⟨j1, j2⟩ := joinL hP hD hk1 hF hP1 hD1
  exact kk u H1 locs1 ls j1 j2 hS1 hl
theorem k_call (X : KX p s m args c own b nL D cy A) {S : Type} {y : MethodName} {b' : ByteArray} {n' d' mc ms idx q : Nat} {E0 : va_E} {wf : (Nat → ClassId) → Nat → S → va_W} (hC : Cn y b' n' d' mc ms E0 wf) (hd : decode b pc = .ok (.invokespecial idx, 3)) (cw : CwB y b' n' none 0) (h1 : Cond.methodLink own idx y ∈ lw_g) (h2 : Cond.instanceMethod y ∈ lw_g) (hy : y.name = "<init>") (hf : d' + 1 ≤ R.frames ∧ 8 + (n' + 11) + 200 * d' ≤ R.locals) (hc : cells + mc ≤ R.cells ∧ slots + ms ≤ R.slots) (hst : (st.map fun v => v.category).sum ≤ 8) (kk : ∀ u : S, GK p l e R s m args below meth c D A nL Q (pc + 3) lv st (ws ++ wf cy q u) (cells + mc) (slots + ms)) : GK p l e R s m args below meth c D A nL Q pc lv (.ref q :: st) (ws ++ [(q, E0)]) cells slots := by
  intro H locs ls hP hD hS hl
  have hPc : va_P D vwCl [(q, E0)] H := fun k x hx => by
    have : k < 1 := (List.getElem?_eq_some_iff.mp hx).1
    rw [show k = 0 by omega] at hx
    cases hx
    exact hP ws.length _ (by rw [List.getElem?_append_right (Nat.le_refl _), Nat.sub_self]; rfl)
  refine k_after X.2.2.2.2.2.2 hP hD hS hl (va_runI (As := []) (rest := st) (nL := nL) ⟨X.1, X.2.1, X.2.2.1, X.2.2.2.1, X.2.2.2.2.1⟩ (hC l D cy q H.size) (cwI 0 X.2.2.2.2.1 (good_code cw.2.1) rfl rfl rfl (X.2.2.2.2.1 _ cw.2.2.1) (X.2.2.2.2.1 _ h1) (X.2.2.2.2.1 _ h2) hy cw.1 hf) ⟨CnP.blind, fun U hU hW => ⟨rfl, by rw [hU], by rw [hU]; exact hPc, X.2.2.2.2.2.1.warm hW⟩⟩ rfl rfl hl.1 rfl (by show 2 * 0 + _ ≤ 8; omega) hd hc) kk
theorem k_callN (X : KX p s m args c own b nL D cy A) {S : Type} {y : MethodName} {b' : ByteArray} {n' d' mc ms idx q : Nat} {E0 : va_E} {wf : (Nat → ClassId) → Nat → S → va_W} (hC : Cn y b' n' d' mc ms E0 wf) (hd : decode b pc = .ok (.invokespecial idx, 3)) (cw : CwB y b' n' none 0) (h1 : Cond.methodLinkNest own idx y "BroadNib" ∈ nestW) (h2 : Cond.instanceMethod y ∈ lw_g) (hy : y.name = "<init>") (hf : d' + 1 ≤ R.frames ∧ 8 + (n' + 11) + 200 * d' ≤ R.locals) (hc : cells + mc ≤ R.cells ∧ slots + ms ≤ R.slots) (hst : (st.map fun v => v.category).sum ≤ 8) (kk : ∀ u : S, GK p l e R s m args below meth c D A nL Q (pc + 3) lv st (ws ++ wf cy q u) (cells + mc) (slots + ms)) : GK p l e R s m args below meth c D A nL Q pc lv (.ref q :: st) (ws ++ [(q, E0)]) cells slots := by
  intro H locs ls hP hD hS hl
  have hPc : va_P D vwCl [(q, E0)] H := fun k x hx => by
    have : k < 1 := (List.getElem?_eq_some_iff.mp hx).1
    rw [show k = 0 by omega] at hx
    cases hx
    exact hP ws.length _ (by rw [List.getElem?_append_right (Nat.le_refl _), Nat.sub_self]; rfl)
  refine k_after X.2.2.2.2.2.2 hP hD hS hl (va_runIN (As := []) (rest := st) (nL := nL) ⟨X.1, X.2.1, X.2.2.1, X.2.2.2.1, X.2.2.2.2.1⟩ (hC l D cy q H.size) ⟨va_cnB 0 X.2.2.2.2.1 (good_code cw.2.1) rfl rfl rfl (X.2.2.2.2.2.1.2.1 _ h1) (X.2.2.2.2.1 _ cw.2.2.1) cw.1 hf, hy, X.2.2.2.2.1 _ h2⟩ ⟨CnP.blind, fun U hU hW => ⟨rfl, by rw [hU], by rw [hU]; exact hPc, X.2.2.2.2.2.1.warm hW⟩⟩ rfl rfl hl.1 rfl (by show 2 * 0 + _ ≤ 8; omega) hd hc) kk
/-- an array of references, told by another function -/
theorem k_arr {a n cA : Nat} {f g : Nat → Option Nat} {ws' : va_W} (q0 : Nat) (ha : ws[q0]? = some (a, .inl (cA, n, .inr (.inr (.inr (.inr f)))))) (hfg : ∀ j, j < n → f j = g j) (hw : ws.set q0 (a, .inl (cA, n, .inr (.inr (.inr (.inr g))))) = ws') (kk : GK p l e R s m args below meth c D A nL Q pc lv st ws' cells slots) : GK p l e R s m args below meth c D A nL Q pc lv st ws cells slots := by
  intro H locs ls hP hD hS hl
  subst hw
  refine kk H locs ls (hP.set hD ha ?_ (fun _ _ => rfl)) (hD.set ha) hS hl
  have h1 := hP q0 _ ha
  show H[a]? = some (vp_cell cA (n, .inr (.inr (.inr (.inr g)))))
  have h2 : H[a]? = some (vp_cell cA (n, .inr (.inr (.inr (.inr f))))) := h1
  rw [h2]
  congr 1
  show arrV cA n (fun j => va_rf (f j)) = arrV cA n (fun j => va_rf (g j))
  unfold arrV
  congr 1
  apply Array.ext
  · simp
  · intro i hi1 hi2
    simp at hi1 hi2 ⊢
    rw [hfg i (by first | exact hi1 | omega)]
theorem k_ret {S : Type} {wf : S → va_W} (X : KX p s m args c own b nL D cy A) (hr : meth.sig.returnType = none) (hlk : meth.locks = false) (u : S) (hd : decode b pc = .ok (.return_, 1)) (hw : ws = wf u) : GK p l e R s m args below meth c D A nL (MQ below (va_Qv (fun _ : S => True) (CnQ D A wf) A) args s cells slots A) pc lv [] ws cells slots := by
  intro H locs ls hP hD hS hl
  subst hw
  exact W.vret X.1 X.2.1 hr (fun t ht hW => ⟨⟨u, rfl, trivial, by rw [ht]; exact hP, hD⟩, hS.F ht⟩) hS.2.2 hd hlk
end Rows90
theorem Cn.of {S : Type} {y : MethodName} {b : ByteArray} {nL d mc ms : Nat} {E0 : va_E} {wf : (Nat → ClassId) → Nat → S → va_W} (hy : plainFor y = true) (hname : y.name = "<init>") (hL : 1 ≤ nL)
    (h : ∀ (l : Launch) (D : va_G) (cy : Nat → ClassId) (p : Program) (e : Env) (s : State) (m : MethodId) (args : Array Value) (below : List Frame) (meth : Method) (c : Code) (A : Nat → Prop) (h0 : Nat), KX p s m args c y.cls b nL D cy A → meth.sig.returnType = none → meth.locks = false → meth.name = "<init>" → GK p l e (Rk d mc ms) s m args below meth c D A nL (MQ below (va_Qv (fun _ : S => True) (CnQ D A (wf cy h0)) A) args s mc ms A) 0 [(0, .ref h0)] [] [(h0, E0)] 0 0) : Cn y b nL d mc ms E0 wf := by
  intro l D cy h0 sz
  refine Met.ofWF (cc := b) (maxL := nL) (ret := none) hy rfl ?_
  intro p e s m args below meth c s₁ B hml hv
  obtain ⟨rfl, hsz, hP, hC⟩ := hv
  subst hsz
  have hts := atoms_spec (ws := Cond.code y b nL none :: lw_g) B.pre
  have hD : va_D (va_A [(h0, E0)] s.heap.size) [(h0, E0)] := by
    refine ⟨fun i j x y hi hj _ => ?_, fun k x hx => va_A.in hx⟩
    have h1 : i < 1 := (List.getElem?_eq_some_iff.mp hi).1
    have h2 : j < 1 := (List.getElem?_eq_some_iff.mp hj).1
    omega
  have hl := lv_entry [.ref h0] (n := nL) (by show 1 ≤ nL; exact hL)
  rw [lg_entry_eq]
  exact h l D cy p e s m _ below meth c _ h0 ⟨B.exec, B.bytes, hml, findClass_of_methodNamed B.named, fun w hw => hts w (List.mem_cons_of_mem _ hw), hC, fun q hq => Or.inr hq⟩ B.returns B.notSynchronized ((name_of_methodNamed B.named B.method).1.trans hname) s.heap [] _ hP hD va_S.rf hl
