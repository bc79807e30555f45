def R_law : String := "BroadNibLaw"
def lw_P (b : Addr) (xs : List Int32) (args : Array Value) (s : State) : Prop := args = #[.ref b] ∧ s.IntsAt b xs ∧ xs.length ≤ 2560 ∧ (Jvm.Cond.and given_1 narrow_1).before args s = true
def lw_Q (_ : Array Value) (s : State) (o : Outcome) (t : State) : Prop := o = .returned (some (.int 1)) ∧ Framed s o t [] 600000 7302250
def lw_Z (below : List Frame) (a : Array Value) (s : State) : State → Prop := fun t => ∃ o, t.status = .running ∧ Ended t below o ∧ lw_Q a s o t
theorem lw_ret {p : Program} {l : Launch} {e : Env} {s : State} {m : MethodId} {below : List Frame} {meth : Method} {c : Code} {b : Nat} (hx : p.tables.exec = Jvm.exec) (hb : c.code = code) (hr : meth.sig.returnType = ret) (hlocks : meth.locks = false) {pc : Nat} {H : Heap} {ls : Array Slot} (hdg : decode code pc = .ok (.ireturn, 1)) : W p l e room_1 s m #[Value.ref b] below meth c H [] 600000 7302250 (lw_Z below #[Value.ref b] s) (F0 m pc ls [.int 1]) := by
  intro T hT X
  obtain ⟨fs, hret, hrun, hended, hW, hframe⟩ := X.leave (v := some (.int 1)) (hlocks := hlocks) (fun h => by rw [hr] at h; cases h)
  have hmeth' : T.vm.method? m = some meth := X.method'
  refine ⟨T.setFrames fs, ?_, .returned (some (.int 1)), hrun, hended, rfl, ⟨_, rfl⟩, hW, hframe⟩
  jvm_step X.here [X.here.top, hx, hb, hdg, hmeth', hr, ret, narrow_b1]
  (try refine ⟨rfl, ?_⟩); (try refine ⟨rfl, ?_⟩)
  first | (intro acts; rw [hret _ acts rfl rfl rfl]) | rw [hret _ _ rfl rfl rfl]
  exact Steps.refl _
def lw_At (p : Program) (s : State) (m : MethodId) (meth : Method) (c : Code) (b L : Nat) (xs : Nat → Int32) : Prop :=
  p.tables.exec = Jvm.exec ∧ c.code = code ∧ meth.sig.returnType = ret ∧ c.maxLocals = 4 ∧ s.vm.findClass R_law = some m.cls ∧ (∀ w ∈ lw_tbl, w.before #[Value.ref b] s = true) ∧ va_X b L xs s s.heap ∧ b < s.heap.size ∧ meth.locks = false ∧ (Jvm.Cond.and given_1 narrow_1).before #[Value.ref b] s = true

def LX (p : Program) (s : State) (m : MethodId) (meth : Method) (c : Code) (D : va_G) (cy : Nat → ClassId) (ad : Nat → Nat) (b n : Nat) (xs : Nat → Int32) : Prop := p.tables.exec = Jvm.exec ∧ c.code = cL_law ∧ meth.sig.returnType = ret ∧ c.maxLocals = 4 ∧ s.vm.findClass RL = some m.cls ∧ (∀ w ∈ lw_g, w.before #[Value.ref b] s = true) ∧ va_X b n xs s s.heap ∧ b < s.heap.size ∧ meth.locks = false ∧ Sx D cy ad s.heap.size s s.heap
abbrev lvL (ad : Nat → Nat) (b : Nat) (x : Int32) : List (Nat × Value) := [(3, .int x), (2, .ref (ad 79)), (1, .ref (ad 0)), (0, .ref b)]
def GL (p : Program) (l : Launch) (e : Env) (s : State) (m : MethodId) (below : List Frame) (meth : Method) (c : Code) (D : va_G) (cy : Nat → ClassId) (ad : Nat → Nat) (b : Nat) (x : Int32) (pc : Nat) (st : List Value) (v : Mm) (L : Lm) : Prop :=
  ∀ (H : Heap) (locs : List Loc) (ls : Array Slot), va_P D vwCl (wsW ad cy v L) H → va_S (fun q => s.heap.size ≤ q) s.heap H locs → lv_has ls 4 (lvL ad b x) → W p l e room_1 s m #[Value.ref b] below meth c H locs 93 1606 (lw_Z below #[Value.ref b] s) (F0 m pc ls st)
section Rows92
variable {p : Program} {l : Launch} {e : Env} {s : State} {m : MethodId} {below : List Frame} {meth : Method} {c : Code} {D : va_G} {cy : Nat → ClassId} {ad : Nat → Nat} {b n : Nat} {xs : Nat → Int32} {x : Int32} {pc : Nat} {st : List Value} {v : Mm} {L : Lm}
theorem l_a0 (X : LX p s m meth c D cy ad b n xs)  (hd : decode cL_law pc = .ok (.aload_n 0, 1)) (kk : GL p l e s m below meth c D cy ad b x (pc + 1) (.ref b :: st) v L) : GL p l e s m below meth c D cy ad b x pc st v L := fun H locs ls hP hS hl => lv_aload_n X.1 X.2.1 hd rfl (lv_at hl 3 rfl) (kk H locs ls hP hS hl)
theorem l_a1 (X : LX p s m meth c D cy ad b n xs)  (hd : decode cL_law pc = .ok (.aload_n 1, 1)) (kk : GL p l e s m below meth c D cy ad b x (pc + 1) (.ref (ad 0) :: st) v L) : GL p l e s m below meth c D cy ad b x pc st v L := fun H locs ls hP hS hl => lv_aload_n X.1 X.2.1 hd rfl (lv_at hl 2 rfl) (kk H locs ls hP hS hl)
theorem l_a2 (X : LX p s m meth c D cy ad b n xs)  (hd : decode cL_law pc = .ok (.aload_n 2, 1)) (kk : GL p l e s m below meth c D cy ad b x (pc + 1) (.ref (ad 79) :: st) v L) : GL p l e s m below meth c D cy ad b x pc st v L := fun H locs ls hP hS hl => lv_aload_n X.1 X.2.1 hd rfl (lv_at hl 1 rfl) (kk H locs ls hP hS hl)
theorem l_i (X : LX p s m meth c D cy ad b n xs)  (hd : decode cL_law pc = .ok (.iload_n 3, 1)) (kk : GL p l e s m below meth c D cy ad b x (pc + 1) (.int x :: st) v L) : GL p l e s m below meth c D cy ad b x pc st v L := fun H locs ls hP hS hl => lv_iload_n X.1 X.2.1 hd rfl (lv_at hl 0 rfl) (kk H locs ls hP hS hl)
theorem l_c (X : LX p s m meth c D cy ad b n xs) {q : Int} (y : Int32) (hv : Int32.ofInt q = y) (hd : decode cL_law pc = .ok (.iconst q, 1)) (kk : GL p l e s m below meth c D cy ad b x (pc + 1) (.int y :: st) v L) : GL p l e s m below meth c D cy ad b x pc st v L := fun H locs ls hP hS hl => lv_iconst X.1 X.2.1 hd hv (kk H locs ls hP hS hl)
theorem l_bi (X : LX p s m meth c D cy ad b n xs) {q : Int} (y : Int32) (hv : (Int8.ofInt q).toInt32 = y) (hd : decode cL_law pc = .ok (.bipush q, 2)) (kk : GL p l e s m below meth c D cy ad b x (pc + 2) (.int y :: st) v L) : GL p l e s m below meth c D cy ad b x pc st v L := fun H locs ls hP hS hl => lv_bipush X.1 X.2.1 hd hv (kk H locs ls hP hS hl)
theorem l_add (X : LX p s m meth c D cy ad b n xs) {y z : Int32} (hd : decode cL_law pc = .ok (.iadd, 1)) (kk : GL p l e s m below meth c D cy ad b x (pc + 1) (.int (y + z) :: st) v L) : GL p l e s m below meth c D cy ad b x pc (.int z :: .int y :: st) v L := fun H locs ls hP hS hl => lv_iadd X.1 X.2.1 hd (kk H locs ls hP hS hl)
theorem l_sub (X : LX p s m meth c D cy ad b n xs) {y z : Int32} (hd : decode cL_law pc = .ok (.isub, 1)) (kk : GL p l e s m below meth c D cy ad b x (pc + 1) (.int (y - z) :: st) v L) : GL p l e s m below meth c D cy ad b x pc (.int z :: .int y :: st) v L := fun H locs ls hP hS hl => lv_isub X.1 X.2.1 hd (kk H locs ls hP hS hl)
theorem l_and (X : LX p s m meth c D cy ad b n xs) {y z : Int32} (hd : decode cL_law pc = .ok (.iand, 1)) (kk : GL p l e s m below meth c D cy ad b x (pc + 1) (.int (y &&& z) :: st) v L) : GL p l e s m below meth c D cy ad b x pc (.int z :: .int y :: st) v L := fun H locs ls hP hS hl => lv_iand X.1 X.2.1 hd (kk H locs ls hP hS hl)
theorem l_sld (X : LX p s m meth c D cy ad b n xs) {y : Int32} (hin : vp_in y n) (hd : decode cL_law pc = .ok (.iaload, 1)) (kk : GL p l e s m below meth c D cy ad b x (pc + 1) (.int (xs y.toNatClampNeg) :: st) v L) : GL p l e s m below meth c D cy ad b x pc (.int y :: .ref b :: st) v L := fun H locs ls hP hS hl => va_sld X.1 X.2.1 X.2.2.2.2.2.2.1 X.2.2.2.2.2.2.2.1 (Nat.not_le.mpr X.2.2.2.2.2.2.2.1) hS hin hd (kk H locs ls hP hS hl)
theorem l_len (X : LX p s m meth c D cy ad b n xs)  (hd : decode cL_law pc = .ok (.arraylength, 1)) (kk : GL p l e s m below meth c D cy ad b x (pc + 1) (.int (nI n) :: st) v L) : GL p l e s m below meth c D cy ad b x pc (.ref b :: st) v L := fun H locs ls hP hS hl => va_slen X.1 X.2.1 X.2.2.2.2.2.2.1 X.2.2.2.2.2.2.2.1 (Nat.not_le.mpr X.2.2.2.2.2.2.2.1) hS hd (kk H locs ls hP hS hl)
theorem l_i2l (X : LX p s m meth c D cy ad b n xs) {y : Int32} (hd : decode cL_law pc = .ok (.i2l, 1)) (kk : GL p l e s m below meth c D cy ad b x (pc + 1) (.long y.toInt64 :: st) v L) : GL p l e s m below meth c D cy ad b x pc (.int y :: st) v L := fun H locs ls hP hS hl => lv_i2l X.1 X.2.1 hd rfl (kk H locs ls hP hS hl)
theorem l_lshl (X : LX p s m meth c D cy ad b n xs) {y : Int64} {z : Int32} (hd : decode cL_law pc = .ok (.lshl, 1)) (kk : GL p l e s m below meth c D cy ad b x (pc + 1) (.long (y <<< (z.toInt64 &&& 63)) :: st) v L) : GL p l e s m below meth c D cy ad b x pc (.int z :: .long y :: st) v L := fun H locs ls hP hS hl => lv_lshl X.1 X.2.1 hd rfl (kk H locs ls hP hS hl)
theorem l_land (X : LX p s m meth c D cy ad b n xs) {y z : Int64} (hd : decode cL_law pc = .ok (.land, 1)) (kk : GL p l e s m below meth c D cy ad b x (pc + 1) (.long (y &&& z) :: st) v L) : GL p l e s m below meth c D cy ad b x pc (.long z :: .long y :: st) v L := fun H locs ls hP hS hl => lv_land X.1 X.2.1 hd (kk H locs ls hP hS hl)
theorem l_lor (X : LX p s m meth c D cy ad b n xs) {y z : Int64} (hd : decode cL_law pc = .ok (.lor, 1)) (kk : GL p l e s m below meth c D cy ad b x (pc + 1) (.long (y ||| z) :: st) v L) : GL p l e s m below meth c D cy ad b x pc (.long z :: .long y :: st) v L := fun H locs ls hP hS hl => lv_lor X.1 X.2.1 hd (kk H locs ls hP hS hl)
theorem l_ldc2 (X : LX p s m meth c D cy ad b n xs)  (hd : decode cL_law pc = .ok (.ldc2_w 31, 3)) (kk : GL p l e s m below meth c D cy ad b x (pc + 3) (.long 4294967295 :: st) v L) : GL p l e s m below meth c D cy ad b x pc st v L := fun H locs ls hP hS hl => lv_ldc2 X.1 X.2.1 X.2.2.2.2.1 (X.2.2.2.2.2.1 _ kc_RL_31) hd (kk H locs ls hP hS hl)
theorem l_goto (X : LX p s m meth c D cy ad b n xs) {off : Int} (tgt : Nat) (ht : (pc : Int) + off = (tgt : Int)) (hd : decode cL_law pc = .ok (.goto off, 3)) (kk : GL p l e s m below meth c D cy ad b x tgt st v L) : GL p l e s m below meth c D cy ad b x pc st v L := fun H locs ls hP hS hl => lv_goto X.1 X.2.1 hd ht (kk H locs ls hP hS hl)
theorem l_lcmp (X : LX p s m meth c D cy ad b n xs) {y z : Int64} (hd : decode cL_law pc = .ok (.lcmp, 1)) (kk : GL p l e s m below meth c D cy ad b x (pc + 1) (.int (lg_cmp y z) :: st) v L) : GL p l e s m below meth c D cy ad b x pc (.long z :: .long y :: st) v L := fun H locs ls hP hS hl => W.lcmp X.1 X.2.1 hd (kk H locs ls hP hS hl)
theorem l_eq (X : LX p s m meth c D cy ad b n xs) {y : Int32} {off : Int} (tgt : Nat) (hd : decode cL_law pc = .ok (.if_icmp .eq off, 3)) (ht : (pc : Int) + off = (tgt : Int)) (kk : GL p l e s m below meth c D cy ad b x tgt st v L) : GL p l e s m below meth c D cy ad b x pc (.int y :: .int y :: st) v L := fun H locs ls hP hS hl => lv_icmp_eq X.1 X.2.1 hd ht (fun _ => (kk H locs ls hP hS hl)) (fun q => absurd rfl q)
theorem l_ifeq (X : LX p s m meth c D cy ad b n xs) {y : Int32} {off : Int} (tgt : Nat) (hd : decode cL_law pc = .ok (.ifCond .eq off, 3)) (ht : (pc : Int) + off = (tgt : Int)) (kt : y = 0 → GL p l e s m below meth c D cy ad b x tgt st v L) (kf : ¬ y = 0 → GL p l e s m below meth c D cy ad b x (pc + 3) st v L) : GL p l e s m below meth c D cy ad b x pc (.int y :: st) v L := fun H locs ls hP hS hl => lv_if_eq X.1 X.2.1 hd ht (fun q => kt q H locs ls hP hS hl) (fun q => kf q H locs ls hP hS hl)
theorem l_gt (X : LX p s m meth c D cy ad b n xs) {y z : Int32} {off : Int} (tgt : Nat) (hd : decode cL_law pc = .ok (.if_icmp .gt off, 3)) (ht : (pc : Int) + off = (tgt : Int)) (kt : z < y → GL p l e s m below meth c D cy ad b x tgt st v L) (kf : ¬ z < y → GL p l e s m below meth c D cy ad b x (pc + 3) st v L) : GL p l e s m below meth c D cy ad b x pc (.int z :: .int y :: st) v L := fun H locs ls hP hS hl => lv_icmp_gt X.1 X.2.1 hd ht (fun q => kt q H locs ls hP hS hl) (fun q => kf q H locs ls hP hS hl)
theorem l_tabIn (X : LX p s m meth c D cy ad b n xs) {dflt lo hi : Int} {offs : Array Int} {len : Nat} {y : Int32} {off : Int} (tgt : Nat) (hd : decode cL_law pc = .ok (.tableswitch dflt lo hi offs, len)) (h1 : ¬ y.toInt < lo) (h2 : ¬ hi < y.toInt) (ho : offs[(y.toInt - lo).toNat]? = some off) (ht : (pc : Int) + off = (tgt : Int)) (kk : GL p l e s m below meth c D cy ad b x tgt st v L) : GL p l e s m below meth c D cy ad b x pc (.int y :: st) v L := fun H locs ls hP hS hl => lv_tableIn X.1 X.2.1 hd h1 h2 ho ht (kk H locs ls hP hS hl)
theorem l_tabOut (X : LX p s m meth c D cy ad b n xs) {dflt lo hi : Int} {offs : Array Int} {len : Nat} {y : Int32} (tgt : Nat) (hd : decode cL_law pc = .ok (.tableswitch dflt lo hi offs, len)) (h : y.toInt < lo ∨ hi < y.toInt) (ht : (pc : Int) + dflt = (tgt : Int)) (kk : GL p l e s m below meth c D cy ad b x tgt st v L) : GL p l e s m below meth c D cy ad b x pc (.int y :: st) v L := fun H locs ls hP hS hl => lv_tableOut X.1 X.2.1 hd h ht (kk H locs ls hP hS hl)
theorem l_inc (X : LX p s m meth c D cy ad b n xs) (y : Int32) {q : Int} (hd : decode cL_law pc = .ok (.iinc 3 q, 3)) (hv : x + Int32.ofInt q = y) (kk : GL p l e s m below meth c D cy ad b y (pc + 3) st v L) : GL p l e s m below meth c D cy ad b x pc st v L := fun H locs ls hP hS hl => lv_iinc (lv' := lvL ad b y) X.1 X.2.1 hd hl (k := 0) rfl hv (by decide) rfl (fun ls' h' => kk H locs ls' hP hS h')
theorem l_ret (X : LX p s m meth c D cy ad b n xs) (hd : decode cL_law pc = .ok (.ireturn, 1)) : GL p l e s m below meth c D cy ad b x pc [.int 1] v L := by
  intro H locs ls hP hS hl
  refine va_forget hS.2.2 ?_
  refine W.widen (k := 600000) (n := 7302250) (by decide) (by decide) ?_
  exact lw_ret X.1 X.2.1 X.2.2.1 X.2.2.2.2.2.2.2.2.1 hd
theorem l_back {R0 : Room} {cs ss : Nat} {Z : State → Prop} {aa ab : Array Value} {rest : List Value} {Q' : Qt} {H : Heap} {locs : List Loc} {ls : Array Slot} (hS : va_S (fun q => s.heap.size ≤ q) s.heap H locs) (hr0 : va_Run p l e R0 s m aa below meth c H locs cs ss 0 0 (F0 m pc ls st) rest (QcW D cy ad s.heap.size Q' ab) (fun q => s.heap.size ≤ q))
    (k : ∀ res v' L', Q' res v' L' → ∀ (H1 : Heap) (locs1 : List Loc), va_P D vwCl (wsW ad cy v' L') H1 → va_S (fun q => s.heap.size ≤ q) s.heap H1 locs1 → W p l e R0 s m aa below meth c H1 locs1 cs ss Z (F0 m (pc + 3) ls ((res.map (trv ad)).toList ++ rest))) : W p l e R0 s m aa below meth c H locs cs ss Z (F0 m pc ls st) := by
  intro T hT XT
  obtain ⟨rv, st₀, t, T', Lx, h0, X', hLx, e1, e2, ⟨⟨res, v', L', q1, q2, q3⟩, hz, hk'⟩, stp⟩ := hr0 T hT XT
  cases q1
  rw [h0] at hz hk'
  have hP1 : va_P D vwCl (wsW ad cy v' L') T'.heap := by rw [e1]; exact q3.2
  have hS1 : va_S (fun q => s.heap.size ≤ q) s.heap T'.heap (locs ++ Lx) := by
    refine ⟨Nat.le_trans hS.1 (by rw [e1]; exact hz), fun q h1 h2 => ?_, fun q hq => ?_⟩
    · rw [e1, hk' q (Nat.lt_of_lt_of_le h1 hS.1) h2]; exact hS.2.1 q h1 h2
    · rcases List.mem_append.mp hq with h | h
      · exact hS.2.2 q h
      · exact hLx q h
  obtain ⟨t2, a1, b1⟩ := k res v' L' q2 T'.heap (locs ++ Lx) hP1 hS1 T' rfl X'
  exact ⟨t2, stp t2 a1, b1⟩
theorem l_call0 {R0 : Room} {cs ss : Nat} {Z : State → Prop} {bb : ByteArray} {own : String} {aa : Array Value} (hx : p.tables.exec = Jvm.exec) (hb : c.code = bb) (hml : c.maxLocals = 4) (hown : s.vm.findClass own = some m.cls) (hts : ∀ w ∈ lw_g, w.before aa s = true) (hSx : Sx D cy ad s.heap.size s s.heap) {y : MethodName} {b' : ByteArray} {n' idx na ci N kr : Nat} {r' : Option FieldType} {d' : Nat} {as rest : List Value} {Q' : Qt} {T : u_T} {ty : Nat → FieldType} (hF : Fq y b' n' r' d' (.ref kr :: as) v L Q') (cf : Cf ci y.cls T N ty) (hk : kd kr = ci) (hd : decode bb pc = .ok (.invokevirtual idx, 3)) (cw : CwV own idx y b' n' r' na) (hl : as.length = na) (hfit : (Rm d').frames + 1 ≤ R0.frames ∧ 8 + (n' + 11) + (Rm d').locals ≤ R0.locals) (hcs : cs + 0 ≤ R0.cells ∧ ss + 0 ≤ R0.slots) (hst : st = (as.map (trv ad)).reverse ++ .ref (ad kr) :: rest) (hc : (rest.map fun v => v.category).sum ≤ 8) {H : Heap} {locs : List Loc} {ls : Array Slot} (hP : va_P D vwCl (wsW ad cy v L) H) (hS : va_S (fun q => s.heap.size ≤ q) s.heap H locs) (hsz : ls.size = 4)
    (k : ∀ res v' L', Q' res v' L' → ∀ (H1 : Heap) (locs1 : List Loc), va_P D vwCl (wsW ad cy v' L') H1 → va_S (fun q => s.heap.size ≤ q) s.heap H1 locs1 → W p l e R0 s m aa below meth c H1 locs1 cs ss Z (F0 m (pc + 3) ls ((res.map (trv ad)).toList ++ rest))) : W p l e R0 s m aa below meth c H locs cs ss Z (F0 m pc ls st) := by
  subst hst
  have hpre : ∀ U : State, U.heap = H → s.WarmedH U.vm → Wd D cy ad s.heap.size v L U := by
    intro U hU hW
    refine ⟨hSx.move hW (by rw [hU]; exact hS.1) (fun q h1 h2 => by rw [hU]; exact hS.2.1 q h1 h2), ?_⟩
    rw [hU]
    exact hP
  refine l_back hS (va_runV (S := ⟨hx, hb, hml, hown, hts⟩) (b := ad kr) (As := as.map (trv ad)) (C := y.cls) (hF l D cy ad s.heap.size) ⟨callB_of (bytes := b') (maxL := n') (ret := r') na hts (good_code cw.1.2.1) rfl rfl rfl (hts _ cw.1.2.2.1) (hts _ cw.2.1) cw.1.1 hfit, hts _ cw.2.2.1, hts _ cw.2.2.2⟩ ⟨Wd.blind, va_recv hSx.1 hP cf.1 (ws_obj hk cf.2.2.2.2.1), fun U hU hW => ⟨rfl, hpre U hU hW⟩⟩ rfl (by rw [List.length_map]; exact hl) hsz rfl (by show 2 * 0 + _ ≤ 8; omega) hd hcs) k
theorem l_call (X : LX p s m meth c D cy ad b n xs) {y : MethodName} {b' : ByteArray} {n' idx na ci N kr : Nat} {r' : Option FieldType} {d' : Nat} {as rest : List Value} {Q' : Qt} {T : u_T} {ty : Nat → FieldType} (hF : Fq y b' n' r' d' (.ref kr :: as) v L Q') (cf : Cf ci y.cls T N ty) (hk : kd kr = ci) (hd : decode cL_law pc = .ok (.invokevirtual idx, 3)) (cw : CwV RL idx y b' n' r' na) (hl : as.length = na) (hdd : d' ≤ 100) (hst : st = (as.map (trv ad)).reverse ++ .ref (ad kr) :: rest) (hc : (rest.map fun v => v.category).sum ≤ 8) (k : ∀ res v' L', Q' res v' L' → GL p l e s m below meth c D cy ad b x (pc + 3) ((res.map (trv ad)).toList ++ rest) v' L') : GL p l e s m below meth c D cy ad b x pc st v L := by
  intro H locs ls hP hS hlv
  have hn' := cw.1.2.2.2
  have hfit : (Rm d').frames + 1 ≤ room_1.frames ∧ 8 + (n' + 11) + (Rm d').locals ≤ room_1.locals := by
    refine ⟨?_, ?_⟩
    · show d' + 1 ≤ 2048
      omega
    · show 8 + (n' + 11) + 200 * d' ≤ 84000
      omega
  exact l_call0 X.1 X.2.1 X.2.2.2.1 X.2.2.2.2.1 X.2.2.2.2.2.1 X.2.2.2.2.2.2.2.2.2 hF cf hk hd cw hl hfit ⟨Nat.le_of_ble_eq_true rfl, Nat.le_of_ble_eq_true rfl⟩ hst hc hP hS hlv.1 (fun res v' L' hq H1 locs1 hP1 hS1 => k res v' L' hq H1 locs1 ls hP1 hS1 hlv)
theorem l_arg (X : LX p s m meth c D cy ad b n xs) {q : Int} (y : Int32) (d0 : decode cL_law pc = .ok (.aload_n 0, 1)) (d1 : decode cL_law (pc + 1) = .ok (.iload_n 3, 1)) (d2 : decode cL_law (pc + 1 + 1) = .ok (.iconst q, 1)) (d3 : decode cL_law (pc + 1 + 1 + 1) = .ok (.iadd, 1)) (d4 : decode cL_law (pc + 1 + 1 + 1 + 1) = .ok (.iaload, 1)) (hv : Int32.ofInt q = y) (hin : vp_in (x + y) n) (kk : GL p l e s m below meth c D cy ad b x (pc + 1 + 1 + 1 + 1 + 1) (.int (xs (x + y).toNatClampNeg) :: st) v L) : GL p l e s m below meth c D cy ad b x pc st v L := l_a0 X d0 (l_i X d1 (l_c X y hv d2 (l_add X d3 (l_sld X hin d4 kk))))
theorem l_bool (X : LX p s m meth c D cy ad b n xs) {y : Int32} (pc2 pc3 pc4 : Nat) {o1 o2 : Int} (d0 : decode cL_law pc = .ok (.ifCond .eq o1, 3)) (d1 : decode cL_law (pc + 3) = .ok (.iconst 1, 1)) (d2 : decode cL_law pc2 = .ok (.goto o2, 3)) (d3 : decode cL_law pc3 = .ok (.iconst 0, 1)) (h1 : pc + 3 + 1 = pc2) (h2 : (pc : Int) + o1 = (pc3 : Int)) (h3 : (pc2 : Int) + o2 = (pc4 : Int)) (h4 : pc3 + 1 = pc4) (kk : GL p l e s m below meth c D cy ad b x pc4 (.int (if y = 0 then 0 else 1) :: st) v L) : GL p l e s m below meth c D cy ad b x pc (.int y :: st) v L := by
  subst h1 h4
  refine l_ifeq X pc3 d0 h2 (fun q => ?_) (fun q => ?_)
  · rw [if_pos q] at kk
    exact l_c X 0 rfl d3 kk
  · rw [if_neg q] at kk
    exact l_c X 1 rfl d1 (l_goto X _ h3 d2 kk)
theorem cat_opt (a : Option Value) : (((a.map (trv ad)).toList ++ []).map fun v : Value => v.category).sum ≤ 8 := by
  cases a with
  | none => exact Nat.zero_le _
  | some x => cases x <;> exact Nat.le_of_ble_eq_true rfl
end Rows92
