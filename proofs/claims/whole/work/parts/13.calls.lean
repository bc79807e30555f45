def stc : List Value → Nat
  | [] => 0
  | x :: t => x.category + stc t
theorem stc_eq (ad : Nat → Nat) : ∀ st : List Value, ((st.map (trv ad)).map fun v => v.category).sum = stc st
  | [] => rfl
  | x :: t => by
    show (trv ad x).category + ((t.map (trv ad)).map fun v => v.category).sum = x.category + stc t
    rw [stc_eq ad t, trv_cat]
/-- the words of a call: of a static method; of a nest mate's; of an instance's own -/
def CwB (y : MethodName) (b' : ByteArray) (n' : Nat) (r' : Option FieldType) (na : Nat) : Prop := (y.cls ≠ "java/lang/invoke/MethodHandle" ∧ y.cls ≠ "java/lang/invoke/VarHandle" ∧ (parseMethodDescriptor y.desc).map (fun d => d.parameters.length) = some na) ∧ Cond.code y b' n' r' ∈ lw_g ∧ Cond.initialized y.cls ∈ lw_g ∧ n' ≤ 100
def CwS (own : String) (idx : Nat) (y : MethodName) (b' : ByteArray) (n' : Nat) (r' : Option FieldType) (na : Nat) : Prop := CwB y b' n' r' na ∧ Cond.methodLink own idx y ∈ lw_g ∧ Cond.static y ∈ lw_g
def CwN (own : String) (idx : Nat) (y : MethodName) (b' : ByteArray) (n' : Nat) (r' : Option FieldType) (na : Nat) : Prop := CwB y b' n' r' na ∧ Cond.methodLinkNest own idx y "BroadNib" ∈ nestW ∧ Cond.static y ∈ lw_g
def CwV (own : String) (idx : Nat) (y : MethodName) (b' : ByteArray) (n' : Nat) (r' : Option FieldType) (na : Nat) : Prop := CwB y b' n' r' na ∧ Cond.methodLink own idx y ∈ lw_g ∧ Cond.instanceMethod y ∈ lw_g ∧ Cond.selects y.cls y y ∈ lw_g
theorem good_code {y : MethodName} {b' : ByteArray} {n' : Nat} {r' : Option FieldType} (h : Cond.code y b' n' r' ∈ lw_g) : GoodIn lw_g (Cond.code y b' n' r' :: lw_g) := by
  intro w hw
  rcases List.mem_cons.mp hw with e | e
  · rw [e]; exact ⟨h, good_of_word (good_g h)⟩
  · exact ⟨e, good_of_word (good_g e)⟩
section Rows13
variable {own : String} {b : ByteArray} {nL : Nat} {r : Option FieldType} {d : Nat} {Q : Qt} {pc : Nat} {ls : List (Option Value)} {st : List Value} {v : Mm} {L : Lm}
/-- behind a call -/
theorem g_back {rest : List Value} {Q' : Qt} {l : Launch} {D : va_G} {cy : Nat → ClassId} {ad : Nat → Nat} {z : Nat} {p : Program} {e : Env} {s : State} {m : MethodId} {args : Array Value} {below : List Frame} {meth : Method} {c : Code} {H : Heap} {locs : List Loc} {lsA : Array Slot} {a : Array Value}
    (hC : Cx own b nL r D cy ad z p s m args meth c H locs lsA v L ls)
    (hr : va_Run p l e (Rm d) s m args below meth c H locs 0 0 0 0 (F0 m pc lsA (st.map (trv ad))) (rest.map (trv ad)) (QcW D cy ad z Q' a) (fun q => z ≤ q))
    (k : ∀ res v' L', Q' res v' L' → G own b nL r d Q (pc + 3) ls (res.toList ++ rest) v' L') : W p l e (Rm d) s m args below meth c H locs 0 0 (MQ below (QcW D cy ad z Q) args s 0 0 (fun q => z ≤ q)) (F0 m pc lsA (st.map (trv ad))) := by
  obtain ⟨hx, hb, hr, hml, hown, hts, hlk, hSx, hP, hS, hL⟩ := hC
  rename_i hr0
  intro T hT X
  obtain ⟨rv, st₀, t, T', Lx, h0, X', hLx, e1, e2, ⟨⟨res, v', L', q1, q2, q3⟩, hz, hk⟩, stp⟩ := hr0 T hT X
  cases q1
  rw [h0] at hz hk
  have hP1 : va_P D vwCl (wsW ad cy v' L') T'.heap := by rw [e1]; exact q3.2
  have hS1 : va_S (fun q => z ≤ q) s.heap T'.heap (locs ++ Lx) := by
    refine ⟨Nat.le_trans hS.1 (by rw [e1]; exact hz), fun q h1 h2 => ?_, fun q hq => ?_⟩
    · rw [e1, hk q (Nat.lt_of_lt_of_le h1 hS.1) h2]; exact hS.2.1 q h1 h2
    · rcases List.mem_append.mp hq with h | h
      · exact hS.2.2 q h
      · exact hLx q h
  obtain ⟨t2, a1, b1⟩ := k res v' L' q2 l D cy ad z p e s m args below meth c T'.heap (locs ++ Lx) lsA ⟨hx, hb, hr, hml, hown, hts, hlk, hSx, hP1, hS1, hL⟩ T' rfl X'
  refine ⟨t2, stp t2 ?_, b1⟩
  rw [List.map_append] at a1
  cases res with
  | none => exact a1
  | some x => exact a1
theorem g_pre {D : va_G} {cy : Nat → ClassId} {ad : Nat → Nat} {z : Nat} {p : Program} {s : State} {m : MethodId} {args : Array Value} {meth : Method} {c : Code} {H : Heap} {locs : List Loc} {lsA : Array Slot} (hC : Cx own b nL r D cy ad z p s m args meth c H locs lsA v L ls) : ∀ U : State, U.heap = H → s.WarmedH U.vm → Wd D cy ad z v L U := by
  obtain ⟨hx, hb, hr, hml, hown, hts, hlk, hSx, hP, hS, hL⟩ := hC
  intro U hU hW
  refine ⟨hSx.move hW (by rw [hU]; exact hS.1) (fun q h1 h2 => by rw [hU]; exact hS.2.1 q h1 h2), ?_⟩
  rw [hU]
  exact hP
theorem Rm_fit {d d' n' : Nat} (h : d' + 1 ≤ d) (hn : n' ≤ 100) : (Rm d').frames + 1 ≤ (Rm d).frames ∧ 8 + (n' + 11) + (Rm d').locals ≤ (Rm d).locals := by
  refine ⟨h, ?_⟩
  show 8 + (n' + 11) + 200 * d' ≤ 200 * d
  omega
theorem g_callS {y : MethodName} {b' : ByteArray} {n' idx na : Nat} {r' : Option FieldType} {d' : Nat} {as rest : List Value} {Q' : Qt} (hF : Fq y b' n' r' d' as v L Q') (hd : decode b pc = .ok (.invokestatic idx, 3)) (cw : CwS own idx y b' n' r' na) (hl : as.length = na) (hdd : d' + 1 ≤ d) (hst : st = as.reverse ++ rest) (hc : stc rest ≤ 8) (k : ∀ res v' L', Q' res v' L' → G own b nL r d Q (pc + 3) ls (res.toList ++ rest) v' L') : G own b nL r d Q pc ls st v L := by
  intro l D cy ad z p e s m args below meth c H locs lsA hC
  have hC2 := hC
  obtain ⟨hx, hb, hr, hml, hown, hts, hlk, hSx, hP, hS, hL⟩ := hC
  subst hst
  refine g_back hC2 (va_runS (S := ⟨hx, hb, hml, hown, hts⟩) (hF l D cy ad z) ⟨callB_of (bytes := b') (maxL := n') (ret := r') na hts (good_code cw.1.2.1) rfl rfl rfl (hts _ cw.1.2.2.1) (hts _ cw.2.1) cw.1.1 (Rm_fit hdd cw.1.2.2.2), hts _ cw.2.2⟩ ⟨Wd.blind, fun U hU hW => ⟨rfl, g_pre hC2 U hU hW⟩⟩ rfl (by rw [List.length_map]; exact hl) hL.1 (by show List.map (trv ad) _ = _; rw [List.map_append, List.map_reverse]) (by show 2 * 0 + _ ≤ 8; rw [stc_eq]; omega) hd ⟨Nat.zero_le _, Nat.zero_le _⟩) k
theorem g_callN {y : MethodName} {b' : ByteArray} {n' idx na : Nat} {r' : Option FieldType} {d' : Nat} {as rest : List Value} {Q' : Qt} (hF : Fq y b' n' r' d' as v L Q') (hd : decode b pc = .ok (.invokestatic idx, 3)) (cw : CwN own idx y b' n' r' na) (hl : as.length = na) (hdd : d' + 1 ≤ d) (hst : st = as.reverse ++ rest) (hc : stc rest ≤ 8) (k : ∀ res v' L', Q' res v' L' → G own b nL r d Q (pc + 3) ls (res.toList ++ rest) v' L') : G own b nL r d Q pc ls st v L := by
  intro l D cy ad z p e s m args below meth c H locs lsA hC
  have hC2 := hC
  obtain ⟨hx, hb, hr, hml, hown, hts, hlk, hSx, hP, hS, hL⟩ := hC
  subst hst
  refine g_back hC2 (va_runSN (S := ⟨hx, hb, hml, hown, hts⟩) (hF l D cy ad z) ⟨va_cnB (bytes := b') (maxL := n') (ret := r') na hts (good_code cw.1.2.1) rfl rfl rfl (hSx.2.2.2.2 _ cw.2.1) (hts _ cw.1.2.2.1) cw.1.1 (Rm_fit hdd cw.1.2.2.2), hts _ cw.2.2, trivial⟩ ⟨Wd.blind, fun U hU hW => ⟨rfl, g_pre hC2 U hU hW⟩⟩ rfl (by rw [List.length_map]; exact hl) hL.1 (by show List.map (trv ad) _ = _; rw [List.map_append, List.map_reverse]) (by show 2 * 0 + _ ≤ 8; rw [stc_eq]; omega) hd ⟨Nat.zero_le _, Nat.zero_le _⟩) k
theorem g_callV {y : MethodName} {b' : ByteArray} {n' idx na ci N kr : Nat} {r' : Option FieldType} {d' : Nat} {as rest : List Value} {Q' : Qt} {T : u_T} {ty : Nat → FieldType} (hF : Fq y b' n' r' d' (.ref kr :: as) v L Q') (cf : Cf ci y.cls T N ty) (hk : kd kr = ci) (hd : decode b pc = .ok (.invokevirtual idx, 3)) (cw : CwV own idx y b' n' r' na) (hl : as.length = na) (hdd : d' + 1 ≤ d) (hst : st = as.reverse ++ .ref kr :: rest) (hc : stc rest ≤ 8) (k : ∀ res v' L', Q' res v' L' → G own b nL r d Q (pc + 3) ls (res.toList ++ rest) v' L') : G own b nL r d Q pc ls st v L := by
  intro l D cy ad z p e s m args below meth c H locs lsA hC
  have hC2 := hC
  obtain ⟨hx, hb, hr, hml, hown, hts, hlk, hSx, hP, hS, hL⟩ := hC
  subst hst
  refine g_back hC2 (va_runV (S := ⟨hx, hb, hml, hown, hts⟩) (b := ad kr) (As := as.map (trv ad)) (C := y.cls) (hF l D cy ad z) ⟨callB_of (bytes := b') (maxL := n') (ret := r') na hts (good_code cw.1.2.1) rfl rfl rfl (hts _ cw.1.2.2.1) (hts _ cw.2.1) cw.1.1 (Rm_fit hdd cw.1.2.2.2), hts _ cw.2.2.1, hts _ cw.2.2.2⟩ ⟨Wd.blind, va_recv hSx.1 hP cf.1 (ws_obj hk cf.2.2.2.2.1), fun U hU hW => ⟨rfl, g_pre hC2 U hU hW⟩⟩ rfl (by rw [List.length_map]; exact hl) hL.1 (by show List.map (trv ad) _ = _; rw [List.map_append, List.map_reverse]; rfl) (by show 2 * 0 + _ ≤ 8; rw [stc_eq]; omega) hd ⟨Nat.zero_le _, Nat.zero_le _⟩) k

/-! returns -/
theorem g_end {D : va_G} {cy : Nat → ClassId} {ad : Nat → Nat} {z : Nat} {p : Program} {s : State} {m : MethodId} {args : Array Value} {meth : Method} {c : Code} {H : Heap} {locs : List Loc} {lsA : Array Slot} (hC : Cx own b nL r D cy ad z p s m args meth c H locs lsA v L ls) (res : Option Value) (hq : Q res v L) : ∀ t : State, t.heap = H → s.WarmedH t.vm → QcW D cy ad z Q args s (.returned (res.map (trv ad))) t := by
  intro t ht hW
  exact ⟨⟨res, v, L, rfl, hq, g_pre hC t ht hW⟩, hC.2.2.2.2.2.2.2.2.2.1.F ht⟩
theorem g_iret {x : Int32} (hd : decode b pc = .ok (.ireturn, 1)) (hr : r = some .int) (hq : Q (some (.int x)) v L) : G own b nL r d Q pc ls [.int x] v L := by
  intro l D cy ad z p e s m args below meth c H locs lsA hC
  have hC2 := hC
  obtain ⟨hx, hb, hr, hml, hown, hts, hlk, hSx, hP, hS, hL⟩ := hC
  rename_i hr0
  subst hr0
  exact W.iret hx hb hr (g_end hC2 (some (.int x)) hq) hS.2.2 hd hlk
theorem g_zret {x : Int32} (hd : decode b pc = .ok (.ireturn, 1)) (hr : r = some .boolean) (h01 : x = 0 ∨ x = 1) (hq : Q (some (.int x)) v L) : G own b nL r d Q pc ls [.int x] v L := by
  intro l D cy ad z p e s m args below meth c H locs lsA hC
  have hC2 := hC
  obtain ⟨hx, hb, hr, hml, hown, hts, hlk, hSx, hP, hS, hL⟩ := hC
  rename_i hr0
  subst hr0
  exact W.zret hx hb hr (by rcases h01 with h | h <;> rw [h] <;> rfl) (g_end hC2 (some (.int x)) hq) hS.2.2 hd hlk
theorem g_lret {x : Int64} (hd : decode b pc = .ok (.lreturn, 1)) (hr : r = some .long) (hq : Q (some (.long x)) v L) : G own b nL r d Q pc ls [.long x] v L := by
  intro l D cy ad z p e s m args below meth c H locs lsA hC
  have hC2 := hC
  obtain ⟨hx, hb, hr, hml, hown, hts, hlk, hSx, hP, hS, hL⟩ := hC
  rename_i hr0
  subst hr0
  exact W.lret hx hb hr (g_end hC2 (some (.long x)) hq) hS.2.2 hd hlk
theorem g_vret (hd : decode b pc = .ok (.return_, 1)) (hr : r = none) (hq : Q none v L) : G own b nL r d Q pc ls [] v L := by
  intro l D cy ad z p e s m args below meth c H locs lsA hC
  have hC2 := hC
  obtain ⟨hx, hb, hr, hml, hown, hts, hlk, hSx, hP, hS, hL⟩ := hC
  rename_i hr0
  subst hr0
  exact W.vret hx hb hr (g_end hC2 none hq) hS.2.2 hd hlk
theorem g_aret {x : Nat} {C : String} (hd : decode b pc = .ok (.areturn, 1)) (hr : r = some (.object C)) (hq : Q (some (.ref x)) v L) : G own b nL r d Q pc ls [.ref x] v L := by
  intro l D cy ad z p e s m args below meth c H locs lsA hC
  have hC2 := hC
  obtain ⟨hx, hb, hr, hml, hown, hts, hlk, hSx, hP, hS, hL⟩ := hC
  rename_i hr0
  subst hr0
  exact W.aret hx hb hr (Or.inl ⟨_, rfl⟩) (Or.inr ⟨_, rfl⟩) (g_end hC2 (some (.ref x)) hq) hS.2.2 hd hlk
theorem g_aretN {C : String} (hd : decode b pc = .ok (.areturn, 1)) (hr : r = some (.object C)) (hq : Q (some .null) v L) : G own b nL r d Q pc ls [.null] v L := by
  intro l D cy ad z p e s m args below meth c H locs lsA hC
  have hC2 := hC
  obtain ⟨hx, hb, hr, hml, hown, hts, hlk, hSx, hP, hS, hL⟩ := hC
  rename_i hr0
  subst hr0
  exact W.aret hx hb hr (Or.inl ⟨_, rfl⟩) (Or.inl rfl) (g_end hC2 (some .null) hq) hS.2.2 hd hlk
end Rows13
