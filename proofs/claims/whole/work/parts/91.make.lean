theorem k_ws {p : Program} {l : Launch} {e : Env} {R : Room} {s : State} {m : MethodId} {args : Array Value} {below : List Frame} {meth : Method} {c : Code} {D : va_G} {A : Nat → Prop} {nL : Nat} {Q : State → Prop} {pc : Nat} {lv : List (Nat × Value)} {st : List Value} {ws ws' : va_W} {cells slots : Nat} (hw : ws = ws') (kk : GK p l e R s m args below meth c D A nL Q pc lv st ws' cells slots) : GK p l e R s m args below meth c D A nL Q pc lv st ws cells slots := by
  subst hw
  exact kk
def consN (a : Nat) (g : Nat → Nat) : Nat → Nat := fun j => match j with
  | 0 => a
  | j + 1 => g j
def u0 : Nat → Nat := fun _ => 0
abbrev penE : va_E := .inr (2, [.int 0, .int 0, .int 0, .int 0, .int 0, .int 0, .int 0])
abbrev arI (cy : Nat → ClassId) (n : Nat) : va_E := .inl (cy 11, n, .inl (fun _ => 0))
abbrev arR (k : ClassId) (n : Nat) (f : Nat → Option Nat) : va_E := .inl (k, n, .inr (.inr (.inr (.inr f))))
abbrev actE (x : Nat) : va_E := .inr (0, [.ref x, .int 0, .int 0, .int 0, .int 0])
def wPen (_ : Nat → ClassId) (h0 : Nat) (_ : Nat → Nat) : va_W := [(h0, penE)]
def wText (cy : Nat → ClassId) (h0 : Nat) (u : Nat → Nat) : va_W := [(h0, .inr (6, [.ref (u 0), .int 0])), (u 0, arI cy 48)]
def wWord (cy : Nat → ClassId) (h0 : Nat) (u : Nat → Nat) : va_W := [(h0, .inr (8, [.ref (u 0), .int 0])), (u 0, arI cy 8)]
def wSheet (cy : Nat → ClassId) (h0 : Nat) (u : Nat → Nat) : va_W := [(h0, .inr (4, [.ref (u 0), .ref (u 1), .int 0, .int 0])), (u 0, arR (cy 14) 4 (fun j => some (u (2 + j)))), (u 1, arI cy 25), (u 2, penE), (u 3, penE), (u 4, penE), (u 5, penE)]
def wAct (_ : Nat → ClassId) (h0 : Nat) (u : Nat → Nat) : va_W := [(h0, actE (u 0)), (u 0, penE)]
def wActs (cy : Nat → ClassId) (h0 : Nat) (u : Nat → Nat) : va_W := [(h0, .inr (1, [.ref (u 0), .int 0, .int 0])), (u 0, arR (cy 13) 14 (fun j => some (u (1 + 2 * j)))), (u 1, actE (u 2)), (u 2, penE), (u 3, actE (u 4)), (u 4, penE), (u 5, actE (u 6)), (u 6, penE), (u 7, actE (u 8)), (u 8, penE), (u 9, actE (u 10)), (u 10, penE), (u 11, actE (u 12)), (u 12, penE), (u 13, actE (u 14)), (u 14, penE), (u 15, actE (u 16)), (u 16, penE), (u 17, actE (u 18)), (u 18, penE), (u 19, actE (u 20)), (u 20, penE), (u 21, actE (u 22)), (u 22, penE), (u 23, actE (u 24)), (u 24, penE), (u 25, actE (u 26)), (u 26, penE), (u 27, actE (u 28)), (u 28, penE)]
def wSeen (cy : Nat → ClassId) (h0 : Nat) (u : Nat → Nat) : va_W := [(h0, .inr (3, [.ref (u 0), .ref (u 1), .ref (u 2), .int 0])), (u 0, arI cy 6), (u 1, arI cy 6), (u 2, penE)]
def wWays (cy : Nat → ClassId) (h0 : Nat) (u : Nat → Nat) : va_W := [(h0, .inr (7, [.ref (u 0), .ref (u 1), .ref (u 2), .ref (u 3), .ref (u 4), .ref (u 5)])), (u 0, arI cy 8), (u 1, arI cy 25), (u 2, arI cy 25), (u 3, arI cy 25), (u 4, arI cy 25), (u 5, arI cy 25)]
def wSlot (cy : Nat → ClassId) (h0 : Nat) (u : Nat → Nat) : va_W := (h0, .inr (5, [.ref (u 0), .int 0])) :: wSheet cy (u 0) (fun j => u (j + 1))
def wNib (cy : Nat → ClassId) (h0 : Nat) (u : Nat → Nat → Nat) : va_W := (h0, .inr (9, [.ref (u 0 0), .ref (u 1 0), .ref (u 2 0), .ref (u 3 0), .ref (u 4 0), .ref (u 5 0), .ref (u 6 0), .ref (u 7 0), .ref (u 8 0), .ref (u 9 0), .long 0])) :: (((((((((((wText cy (u 0 0) (fun j => u 0 (j + 1)) ++ wWord cy (u 1 0) (fun j => u 1 (j + 1))) ++ wSheet cy (u 2 0) (fun j => u 2 (j + 1))) ++ wSheet cy (u 3 0) (fun j => u 3 (j + 1))) ++ wActs cy (u 4 0) (fun j => u 4 (j + 1))) ++ wSeen cy (u 5 0) (fun j => u 5 (j + 1))) ++ wWays cy (u 6 0) (fun j => u 6 (j + 1))) ++ [(u 7 0, arR (cy 15) 2 (fun j => some (u (10 + j) 0)))]) ++ [(u 8 0, arI cy 4)]) ++ [(u 9 0, arI cy 4)]) ++ wSlot cy (u 10 0) (fun j => u 10 (j + 1))) ++ wSlot cy (u 11 0) (fun j => u 11 (j + 1)))
def wMod (cy : Nat → ClassId) (h0 : Nat) (u : Nat → Nat) : va_W := [(h0, .inr (10, [.int 0, .ref (u 0), .ref (u 1), .ref (u 2), .ref (u 3), .ref (u 4), .int 0, .int 0, .ref (u 5), .int 0, .int 0, .int 0, .int 0, .ref (u 6), .int 0, .int 0, .int 0, .ref (u 7), .ref (u 8), .int 0, .ref (u 9), .ref (u 10), .long 0, .ref (u 11), .ref (u 12)])), (u 0, arI cy 4), (u 1, arI cy 4), (u 2, arI cy 86), (u 3, arI cy 20), (u 4, arI cy 8), (u 5, arI cy 48), (u 6, arI cy 8), (u 7, arI cy 602), (u 8, arI cy 25), (u 9, arI cy 6), (u 10, arI cy 6), (u 11, .inl (cy 12, 2, .inl (fun _ => 0))), (u 12, arI cy 86)]
theorem cwb_X2_init : CwB yX2_init cX2_init 1 none 0 := ⟨⟨by decide +kernel, by decide +kernel, by decide +kernel⟩, in_g 105 (by decide +kernel) rfl, (in_g 45 (by decide +kernel) rfl), by decide⟩
theorem cwb_X6_init : CwB yX6_init cX6_init 1 none 0 := ⟨⟨by decide +kernel, by decide +kernel, by decide +kernel⟩, in_g 68 (by decide +kernel) rfl, (in_g 42 (by decide +kernel) rfl), by decide⟩
theorem cwb_X8_init : CwB yX8_init cX8_init 1 none 0 := ⟨⟨by decide +kernel, by decide +kernel, by decide +kernel⟩, in_g 83 (by decide +kernel) rfl, (in_g 43 (by decide +kernel) rfl), by decide⟩
theorem cwb_X4_init : CwB yX4_init cX4_init 2 none 0 := ⟨⟨by decide +kernel, by decide +kernel, by decide +kernel⟩, in_g 98 (by decide +kernel) rfl, (in_g 44 (by decide +kernel) rfl), by decide⟩
theorem cwb_X0_init : CwB yX0_init cX0_init 1 none 0 := ⟨⟨by decide +kernel, by decide +kernel, by decide +kernel⟩, in_g 174 (by decide +kernel) rfl, (in_g 47 (by decide +kernel) rfl), by decide⟩
theorem cwb_X1_init : CwB yX1_init cX1_init 2 none 0 := ⟨⟨by decide +kernel, by decide +kernel, by decide +kernel⟩, in_g 167 (by decide +kernel) rfl, (in_g 46 (by decide +kernel) rfl), by decide⟩
theorem cwb_X3_init : CwB yX3_init cX3_init 1 none 0 := ⟨⟨by decide +kernel, by decide +kernel, by decide +kernel⟩, in_g 209 (by decide +kernel) rfl, (in_g 48 (by decide +kernel) rfl), by decide⟩
theorem cwb_X7_init : CwB yX7_init cX7_init 1 none 0 := ⟨⟨by decide +kernel, by decide +kernel, by decide +kernel⟩, in_g 231 (by decide +kernel) rfl, (in_g 49 (by decide +kernel) rfl), by decide⟩
theorem cwb_X5_init : CwB yX5_init cX5_init 1 none 0 := ⟨⟨by decide +kernel, by decide +kernel, by decide +kernel⟩, in_g 257 (by decide +kernel) rfl, (in_g 50 (by decide +kernel) rfl), by decide⟩
theorem cwb_X9_init : CwB yX9_init cX9_init 2 none 0 := ⟨⟨by decide +kernel, by decide +kernel, by decide +kernel⟩, in_g 60 (by decide +kernel) rfl, (in_g 41 (by decide +kernel) rfl), by decide⟩
theorem cwb_X10_init : CwB yX10_init cX10_init 1 none 0 := ⟨⟨by decide +kernel, by decide +kernel, by decide +kernel⟩, in_g 773 (by decide +kernel) rfl, (in_g 51 (by decide +kernel) rfl), by decide⟩
set_option maxRecDepth 20000 in
theorem n_X2_init : Cn (S := Nat → Nat) yX2_init cX2_init 1 1 0 0 (.inr (2, [.int 0, .int 0, .int 0, .int 0, .int 0, .int 0, .int 0])) wPen := by
  refine Cn.of (plainFor_of_name (by decide)) rfl (by decide) ?_
  intro l D cy p e s m args below meth c A h0 X hr hlk hname
  refine k_aload X dX2_init_0 0 rfl ?_
  refine k_obj X dX2_init_1 (in_g 106 (by decide +kernel) rfl) (in_g 62 (by decide +kernel) rfl) (in_g 63 (by decide +kernel) rfl) (Nat.le_of_ble_eq_true rfl) (Nat.le_of_ble_eq_true rfl) ?_
  exact k_ret X hr hlk u0 dX2_init_4 rfl
set_option maxRecDepth 20000 in
theorem n_X6_init : Cn (S := Nat → Nat) yX6_init cX6_init 1 1 1 48 (.inr (6, [.null, .int 0])) wText := by
  refine Cn.of (plainFor_of_name (by decide)) rfl (by decide) ?_
  intro l D cy p e s m args below meth c A h0 X hr hlk hname
  refine k_aload X dX6_init_0 0 rfl ?_
  refine k_obj X dX6_init_1 (in_g 69 (by decide +kernel) rfl) (in_g 62 (by decide +kernel) rfl) (in_g 63 (by decide +kernel) rfl) (Nat.le_of_ble_eq_true rfl) (Nat.le_of_ble_eq_true rfl) ?_
  refine k_aload X dX6_init_4 0 rfl ?_
  refine k_bipush X (48) dX6_init_5 (by decide) ?_
  refine k_newi X 48 dX6_init_7 (in_g 78 (by decide +kernel) rfl) (by decide) (by decide) (Nat.le_of_ble_eq_true rfl) (Nat.le_of_ble_eq_true rfl) (Nat.le_of_ble_eq_true rfl) (fun q7 => ?_)
  refine k_ws (ws' := (h0, .inr (6, [.null, .int 0])) :: [(q7, arI cy 48)]) rfl ?_
  refine k_putF X cf6 0 dX6_init_9 (by decide) fl_RX6_9 rfl hname rfl rfl rfl (Nat.le_of_ble_eq_true rfl) ?_
  refine k_ws (ws' := (h0, .inr (6, [.ref q7, .int 0])) :: [(q7, arI cy 48)]) rfl ?_
  exact k_ret X hr hlk (fun j => [q7].getD j 0) dX6_init_12 rfl
set_option maxRecDepth 20000 in
theorem n_X8_init : Cn (S := Nat → Nat) yX8_init cX8_init 1 1 1 8 (.inr (8, [.null, .int 0])) wWord := by
  refine Cn.of (plainFor_of_name (by decide)) rfl (by decide) ?_
  intro l D cy p e s m args below meth c A h0 X hr hlk hname
  refine k_aload X dX8_init_0 0 rfl ?_
  refine k_obj X dX8_init_1 (in_g 84 (by decide +kernel) rfl) (in_g 62 (by decide +kernel) rfl) (in_g 63 (by decide +kernel) rfl) (Nat.le_of_ble_eq_true rfl) (Nat.le_of_ble_eq_true rfl) ?_
  refine k_aload X dX8_init_4 0 rfl ?_
  refine k_bipush X (8) dX8_init_5 (by decide) ?_
  refine k_newi X 8 dX8_init_7 (in_g 78 (by decide +kernel) rfl) (by decide) (by decide) (Nat.le_of_ble_eq_true rfl) (Nat.le_of_ble_eq_true rfl) (Nat.le_of_ble_eq_true rfl) (fun q7 => ?_)
  refine k_ws (ws' := (h0, .inr (8, [.null, .int 0])) :: [(q7, arI cy 8)]) rfl ?_
  refine k_putF X cf8 0 dX8_init_9 (by decide) fl_RX8_9 rfl hname rfl rfl rfl (Nat.le_of_ble_eq_true rfl) ?_
  refine k_ws (ws' := (h0, .inr (8, [.ref q7, .int 0])) :: [(q7, arI cy 8)]) rfl ?_
  exact k_ret X hr hlk (fun j => [q7].getD j 0) dX8_init_12 rfl
set_option maxRecDepth 20000 in
theorem n_X4_init : Cn (S := Nat → Nat) yX4_init cX4_init 2 2 6 57 (.inr (4, [.null, .null, .int 0, .int 0])) wSheet := by
  refine Cn.of (plainFor_of_name (by decide)) rfl (by decide) ?_
  intro l D cy p e s m args below meth c A h0 X hr hlk hname
  refine k_aload X dX4_init_0 0 rfl ?_
  refine k_obj X dX4_init_1 (in_g 99 (by decide +kernel) rfl) (in_g 62 (by decide +kernel) rfl) (in_g 63 (by decide +kernel) rfl) (Nat.le_of_ble_eq_true rfl) (Nat.le_of_ble_eq_true rfl) ?_
  refine k_aload X dX4_init_4 0 rfl ?_
  refine k_iconst X (4) dX4_init_5 (by decide) ?_
  refine k_newq X 4 3 14 dX4_init_6 (in_g 100 (by decide +kernel) rfl) (fun h => h.2.2.1) (fun cA => rfl) (by decide) (by decide) (Nat.le_of_ble_eq_true rfl) (Nat.le_of_ble_eq_true rfl) (Nat.le_of_ble_eq_true rfl) (fun q6_5 => ?_)
  refine k_ws (ws' := (h0, .inr (4, [.null, .null, .int 0, .int 0])) :: [(q6_5, arR (cy 14) 4 (fun _ => none))]) rfl ?_
  refine k_putF X cf4 0 dX4_init_9 (by decide) fl_RX4_11 rfl hname rfl rfl rfl (Nat.le_of_ble_eq_true rfl) ?_
  refine k_ws (ws' := (h0, .inr (4, [.ref q6_5, .null, .int 0, .int 0])) :: [(q6_5, arR (cy 14) 4 (fun _ => none))]) rfl ?_
  refine k_aload X dX4_init_12 0 rfl ?_
  refine k_bipush X (25) dX4_init_13 (by decide) ?_
  refine k_newi X 25 dX4_init_15 (in_g 78 (by decide +kernel) rfl) (by decide) (by decide) (Nat.le_of_ble_eq_true rfl) (Nat.le_of_ble_eq_true rfl) (Nat.le_of_ble_eq_true rfl) (fun q15_9 => ?_)
  refine k_ws (ws' := (h0, .inr (4, [.ref q6_5, .null, .int 0, .int 0])) :: [(q6_5, arR (cy 14) 4 (fun _ => none)), (q15_9, arI cy 25)]) rfl ?_
  refine k_putF X cf4 1 dX4_init_17 (by decide) fl_RX4_17 rfl hname rfl rfl rfl (Nat.le_of_ble_eq_true rfl) ?_
  refine k_ws (ws' := (h0, .inr (4, [.ref q6_5, .ref q15_9, .int 0, .int 0])) :: [(q6_5, arR (cy 14) 4 (fun _ => none)), (q15_9, arI cy 25)]) rfl ?_
  refine k_iconst X (0) dX4_init_20 (by decide) ?_
  refine k_istore (lv' := [(1, .int 0), (0, .ref h0)]) X dX4_init_21 (by decide) rfl ?_
  refine k_iload X dX4_init_22 0 rfl ?_
  refine k_iconst X (4) dX4_init_23 (by decide) ?_
  refine k_ge_f X 46 dX4_init_24 (by decide) (by decide) ?_
  refine k_aload X dX4_init_27 1 rfl ?_
  refine k_getf X cf4 0 dX4_init_28 (by decide) fl_RX4_11 rfl ?_
  refine k_iload X dX4_init_31 0 rfl ?_
  refine k_new X cf2 dX4_init_32 (in_g 100 (by decide +kernel) rfl) (in_g 102 (by decide +kernel) rfl) (in_g 45 (by decide +kernel) rfl) (fs := [.int 0, .int 0, .int 0, .int 0, .int 0, .int 0, .int 0]) (fun j hj => by rcases (show j = 0 ∨ j = 1 ∨ j = 2 ∨ j = 3 ∨ j = 4 ∨ j = 5 ∨ j = 6 by omega) with rfl | rfl | rfl | rfl | rfl | rfl | rfl <;> rfl) (Nat.le_of_ble_eq_true rfl) (Nat.le_of_ble_eq_true rfl) (fun q32_19 => ?_)
  refine k_dup X dX4_init_35 ?_
  refine k_callN X n_X2_init dX4_init_36 cwb_X2_init (in_n 103 (by decide +kernel) rfl) (in_g 104 (by decide +kernel) rfl) rfl ⟨(Nat.le_of_ble_eq_true rfl), (Nat.le_of_ble_eq_true rfl)⟩ ⟨(Nat.le_of_ble_eq_true rfl), (Nat.le_of_ble_eq_true rfl)⟩ (Nat.le_of_ble_eq_true rfl) (fun g36_21 => ?_)
  refine k_ws (ws' := (h0, .inr (4, [.ref q6_5, .ref q15_9, .int 0, .int 0])) :: [(q6_5, arR (cy 14) 4 (fun _ => none)), (q15_9, arI cy 25), (q32_19, penE)]) rfl ?_
  refine k_astq (t0 := 0) (ws' := (h0, .inr (4, [.ref q6_5, .ref q15_9, .int 0, .int 0])) :: [(q6_5, arR (cy 14) 4 (va_up (fun _ => none) (0 : Int32).toNatClampNeg (some q32_19))), (q15_9, arI cy 25), (q32_19, penE)]) X 1 3 3 dX4_init_39 rfl rfl rfl rfl (by unfold vp_in; decide) rfl ?_
  refine k_iinc (lv' := [(1, .int 1), (0, .ref h0)]) X (1) dX4_init_40 0 rfl (by decide) (by decide) rfl ?_
  refine k_goto X 22 dX4_init_43 (by decide) ?_
  refine k_iload X dX4_init_22 0 rfl ?_
  refine k_iconst X (4) dX4_init_23 (by decide) ?_
  refine k_ge_f X 46 dX4_init_24 (by decide) (by decide) ?_
  refine k_aload X dX4_init_27 1 rfl ?_
  refine k_getf X cf4 0 dX4_init_28 (by decide) fl_RX4_11 rfl ?_
  refine k_iload X dX4_init_31 0 rfl ?_
  refine k_new X cf2 dX4_init_32 (in_g 100 (by decide +kernel) rfl) (in_g 102 (by decide +kernel) rfl) (in_g 45 (by decide +kernel) rfl) (fs := [.int 0, .int 0, .int 0, .int 0, .int 0, .int 0, .int 0]) (fun j hj => by rcases (show j = 0 ∨ j = 1 ∨ j = 2 ∨ j = 3 ∨ j = 4 ∨ j = 5 ∨ j = 6 by omega) with rfl | rfl | rfl | rfl | rfl | rfl | rfl <;> rfl) (Nat.le_of_ble_eq_true rfl) (Nat.le_of_ble_eq_true rfl) (fun q32_31 => ?_)
  refine k_dup X dX4_init_35 ?_
  refine k_callN X n_X2_init dX4_init_36 cwb_X2_init (in_n 103 (by decide +kernel) rfl) (in_g 104 (by decide +kernel) rfl) rfl ⟨(Nat.le_of_ble_eq_true rfl), (Nat.le_of_ble_eq_true rfl)⟩ ⟨(Nat.le_of_ble_eq_true rfl), (Nat.le_of_ble_eq_true rfl)⟩ (Nat.le_of_ble_eq_true rfl) (fun g36_33 => ?_)
  refine k_ws (ws' := (h0, .inr (4, [.ref q6_5, .ref q15_9, .int 0, .int 0])) :: [(q6_5, arR (cy 14) 4 (va_up (fun _ => none) (0 : Int32).toNatClampNeg (some q32_19))), (q15_9, arI cy 25), (q32_19, penE), (q32_31, penE)]) rfl ?_
  refine k_astq (t0 := 0) (ws' := (h0, .inr (4, [.ref q6_5, .ref q15_9, .int 0, .int 0])) :: [(q6_5, arR (cy 14) 4 (va_up (va_up (fun _ => none) (0 : Int32).toNatClampNeg (some q32_19)) (1 : Int32).toNatClampNeg (some q32_31))), (q15_9, arI cy 25), (q32_19, penE), (q32_31, penE)]) X 1 4 3 dX4_init_39 rfl rfl rfl rfl (by unfold vp_in; decide) rfl ?_
  refine k_iinc (lv' := [(1, .int 2), (0, .ref h0)]) X (2) dX4_init_40 0 rfl (by decide) (by decide) rfl ?_
  refine k_goto X 22 dX4_init_43 (by decide) ?_
  refine k_iload X dX4_init_22 0 rfl ?_
  refine k_iconst X (4) dX4_init_23 (by decide) ?_
  refine k_ge_f X 46 dX4_init_24 (by decide) (by decide) ?_
  refine k_aload X dX4_init_27 1 rfl ?_
  refine k_getf X cf4 0 dX4_init_28 (by decide) fl_RX4_11 rfl ?_
  refine k_iload X dX4_init_31 0 rfl ?_
  refine k_new X cf2 dX4_init_32 (in_g 100 (by decide +kernel) rfl) (in_g 102 (by decide +kernel) rfl) (in_g 45 (by decide +kernel) rfl) (fs := [.int 0, .int 0, .int 0, .int 0, .int 0, .int 0, .int 0]) (fun j hj => by rcases (show j = 0 ∨ j = 1 ∨ j = 2 ∨ j = 3 ∨ j = 4 ∨ j = 5 ∨ j = 6 by omega) with rfl | rfl | rfl | rfl | rfl | rfl | rfl <;> rfl) (Nat.le_of_ble_eq_true rfl) (Nat.le_of_ble_eq_true rfl) (fun q32_43 => ?_)
  refine k_dup X dX4_init_35 ?_
  refine k_callN X n_X2_init dX4_init_36 cwb_X2_init (in_n 103 (by decide +kernel) rfl) (in_g 104 (by decide +kernel) rfl) rfl ⟨(Nat.le_of_ble_eq_true rfl), (Nat.le_of_ble_eq_true rfl)⟩ ⟨(Nat.le_of_ble_eq_true rfl), (Nat.le_of_ble_eq_true rfl)⟩ (Nat.le_of_ble_eq_true rfl) (fun g36_45 => ?_)
  refine k_ws (ws' := (h0, .inr (4, [.ref q6_5, .ref q15_9, .int 0, .int 0])) :: [(q6_5, arR (cy 14) 4 (va_up (va_up (fun _ => none) (0 : Int32).toNatClampNeg (some q32_19)) (1 : Int32).toNatClampNeg (some q32_31))), (q15_9, arI cy 25), (q32_19, penE), (q32_31, penE), (q32_43, penE)]) rfl ?_
  refine k_astq (t0 := 0) (ws' := (h0, .inr (4, [.ref q6_5, .ref q15_9, .int 0, .int 0])) :: [(q6_5, arR (cy 14) 4 (va_up (va_up (va_up (fun _ => none) (0 : Int32).toNatClampNeg (some q32_19)) (1 : Int32).toNatClampNeg (some q32_31)) (2 : Int32).toNatClampNeg (some q32_43))), (q15_9, arI cy 25), (q32_19, penE), (q32_31, penE), (q32_43, penE)]) X 1 5 3 dX4_init_39 rfl rfl rfl rfl (by unfold vp_in; decide) rfl ?_
  refine k_iinc (lv' := [(1, .int 3), (0, .ref h0)]) X (3) dX4_init_40 0 rfl (by decide) (by decide) rfl ?_
  refine k_goto X 22 dX4_init_43 (by decide) ?_
  refine k_iload X dX4_init_22 0 rfl ?_
  refine k_iconst X (4) dX4_init_23 (by decide) ?_
  refine k_ge_f X 46 dX4_init_24 (by decide) (by decide) ?_
  refine k_aload X dX4_init_27 1 rfl ?_
  refine k_getf X cf4 0 dX4_init_28 (by decide) fl_RX4_11 rfl ?_
  refine k_iload X dX4_init_31 0 rfl ?_
  refine k_new X cf2 dX4_init_32 (in_g 100 (by decide +kernel) rfl) (in_g 102 (by decide +kernel) rfl) (in_g 45 (by decide +kernel) rfl) (fs := [.int 0, .int 0, .int 0, .int 0, .int 0, .int 0, .int 0]) (fun j hj => by rcases (show j = 0 ∨ j = 1 ∨ j = 2 ∨ j = 3 ∨ j = 4 ∨ j = 5 ∨ j = 6 by omega) with rfl | rfl | rfl | rfl | rfl | rfl | rfl <;> rfl) (Nat.le_of_ble_eq_true rfl) (Nat.le_of_ble_eq_true rfl) (fun q32_55 => ?_)
  refine k_dup X dX4_init_35 ?_
  refine k_callN X n_X2_init dX4_init_36 cwb_X2_init (in_n 103 (by decide +kernel) rfl) (in_g 104 (by decide +kernel) rfl) rfl ⟨(Nat.le_of_ble_eq_true rfl), (Nat.le_of_ble_eq_true rfl)⟩ ⟨(Nat.le_of_ble_eq_true rfl), (Nat.le_of_ble_eq_true rfl)⟩ (Nat.le_of_ble_eq_true rfl) (fun g36_57 => ?_)
  refine k_ws (ws' := (h0, .inr (4, [.ref q6_5, .ref q15_9, .int 0, .int 0])) :: [(q6_5, arR (cy 14) 4 (va_up (va_up (va_up (fun _ => none) (0 : Int32).toNatClampNeg (some q32_19)) (1 : Int32).toNatClampNeg (some q32_31)) (2 : Int32).toNatClampNeg (some q32_43))), (q15_9, arI cy 25), (q32_19, penE), (q32_31, penE), (q32_43, penE), (q32_55, penE)]) rfl ?_
  refine k_astq (t0 := 0) (ws' := (h0, .inr (4, [.ref q6_5, .ref q15_9, .int 0, .int 0])) :: [(q6_5, arR (cy 14) 4 (va_up (va_up (va_up (va_up (fun _ => none) (0 : Int32).toNatClampNeg (some q32_19)) (1 : Int32).toNatClampNeg (some q32_31)) (2 : Int32).toNatClampNeg (some q32_43)) (3 : Int32).toNatClampNeg (some q32_55))), (q15_9, arI cy 25), (q32_19, penE), (q32_31, penE), (q32_43, penE), (q32_55, penE)]) X 1 6 3 dX4_init_39 rfl rfl rfl rfl (by unfold vp_in; decide) rfl ?_
  refine k_iinc (lv' := [(1, .int 4), (0, .ref h0)]) X (4) dX4_init_40 0 rfl (by decide) (by decide) rfl ?_
  refine k_goto X 22 dX4_init_43 (by decide) ?_
  refine k_iload X dX4_init_22 0 rfl ?_
  refine k_iconst X (4) dX4_init_23 (by decide) ?_
  refine k_ge_t X 46 dX4_init_24 (by decide) (by decide) ?_
  obtain ⟨U, eU⟩ : ∃ U : Nat → Nat, U = fun j => [q6_5, q15_9, q32_19, q32_31, q32_43, q32_55].getD j 0 := ⟨_, rfl⟩
  refine k_arr (g := fun j => some (U (2 + j))) (ws' := (h0, .inr (4, [.ref q6_5, .ref q15_9, .int 0, .int 0])) :: [(q6_5, arR (cy 14) 4 (fun j => some (U (2 + j)))), (q15_9, arI cy 25), (q32_19, penE), (q32_31, penE), (q32_43, penE), (q32_55, penE)]) 1 rfl (fun j hj => by subst eU; rcases (show j = 0 ∨ j = 1 ∨ j = 2 ∨ j = 3 by omega) with rfl | rfl | rfl | rfl <;> rfl) rfl ?_
  exact k_ret X hr hlk U dX4_init_46 (by subst eU; rfl)
set_option maxRecDepth 20000 in
theorem n_X0_init : Cn (S := Nat → Nat) yX0_init cX0_init 1 2 1 7 (.inr (0, [.null, .int 0, .int 0, .int 0, .int 0])) wAct := by
  refine Cn.of (plainFor_of_name (by decide)) rfl (by decide) ?_
  intro l D cy p e s m args below meth c A h0 X hr hlk hname
  refine k_aload X dX0_init_0 0 rfl ?_
  refine k_obj X dX0_init_1 (in_g 175 (by decide +kernel) rfl) (in_g 62 (by decide +kernel) rfl) (in_g 63 (by decide +kernel) rfl) (Nat.le_of_ble_eq_true rfl) (Nat.le_of_ble_eq_true rfl) ?_
  refine k_aload X dX0_init_4 0 rfl ?_
  refine k_new X cf2 dX0_init_5 (in_g 176 (by decide +kernel) rfl) (in_g 102 (by decide +kernel) rfl) (in_g 45 (by decide +kernel) rfl) (fs := [.int 0, .int 0, .int 0, .int 0, .int 0, .int 0, .int 0]) (fun j hj => by rcases (show j = 0 ∨ j = 1 ∨ j = 2 ∨ j = 3 ∨ j = 4 ∨ j = 5 ∨ j = 6 by omega) with rfl | rfl | rfl | rfl | rfl | rfl | rfl <;> rfl) (Nat.le_of_ble_eq_true rfl) (Nat.le_of_ble_eq_true rfl) (fun q5 => ?_)
  refine k_dup X dX0_init_8 ?_
  refine k_callN X n_X2_init dX0_init_9 cwb_X2_init (in_n 177 (by decide +kernel) rfl) (in_g 104 (by decide +kernel) rfl) rfl ⟨(Nat.le_of_ble_eq_true rfl), (Nat.le_of_ble_eq_true rfl)⟩ ⟨(Nat.le_of_ble_eq_true rfl), (Nat.le_of_ble_eq_true rfl)⟩ (Nat.le_of_ble_eq_true rfl) (fun g9 => ?_)
  refine k_ws (ws' := (h0, .inr (0, [.null, .int 0, .int 0, .int 0, .int 0])) :: [(q5, penE)]) rfl ?_
  refine k_putF X cf0 0 dX0_init_12 (by decide) fl_RX0_10 rfl hname rfl rfl rfl (Nat.le_of_ble_eq_true rfl) ?_
  refine k_ws (ws' := (h0, .inr (0, [.ref q5, .int 0, .int 0, .int 0, .int 0])) :: [(q5, penE)]) rfl ?_
  exact k_ret X hr hlk (fun j => [q5].getD j 0) dX0_init_15 rfl
set_option maxRecDepth 20000 in
theorem n_X1_init : Cn (S := Nat → Nat) yX1_init cX1_init 2 3 29 182 (.inr (1, [.null, .int 0, .int 0])) wActs := by
  refine Cn.of (plainFor_of_name (by decide)) rfl (by decide) ?_
  intro l D cy p e s m args below meth c A h0 X hr hlk hname
  refine k_aload X dX1_init_0 0 rfl ?_
  refine k_obj X dX1_init_1 (in_g 168 (by decide +kernel) rfl) (in_g 62 (by decide +kernel) rfl) (in_g 63 (by decide +kernel) rfl) (Nat.le_of_ble_eq_true rfl) (Nat.le_of_ble_eq_true rfl) ?_
  refine k_aload X dX1_init_4 0 rfl ?_
  refine k_bipush X (14) dX1_init_5 (by decide) ?_
  refine k_newq X 14 2 13 dX1_init_7 (in_g 169 (by decide +kernel) rfl) (fun h => h.2.2.2.1) (fun cA => rfl) (by decide) (by decide) (Nat.le_of_ble_eq_true rfl) (Nat.le_of_ble_eq_true rfl) (Nat.le_of_ble_eq_true rfl) (fun q7_5 => ?_)
  refine k_ws (ws' := (h0, .inr (1, [.null, .int 0, .int 0])) :: [(q7_5, arR (cy 13) 14 (fun _ => none))]) rfl ?_
  refine k_putF X cf1 0 dX1_init_10 (by decide) fl_RX1_11 rfl hname rfl rfl rfl (Nat.le_of_ble_eq_true rfl) ?_
  refine k_ws (ws' := (h0, .inr (1, [.ref q7_5, .int 0, .int 0])) :: [(q7_5, arR (cy 13) 14 (fun _ => none))]) rfl ?_
  refine k_iconst X (0) dX1_init_13 (by decide) ?_
  refine k_istore (lv' := [(1, .int 0), (0, .ref h0)]) X dX1_init_14 (by decide) rfl ?_
  refine k_iload X dX1_init_15 0 rfl ?_
  refine k_bipush X (14) dX1_init_16 (by decide) ?_
  refine k_ge_f X 40 dX1_init_18 (by decide) (by decide) ?_
  refine k_aload X dX1_init_21 1 rfl ?_
  refine k_getf X cf1 0 dX1_init_22 (by decide) fl_RX1_11 rfl ?_
  refine k_iload X dX1_init_25 0 rfl ?_
  refine k_new X cf0 dX1_init_26 (in_g 169 (by decide +kernel) rfl) (in_g 171 (by decide +kernel) rfl) (in_g 47 (by decide +kernel) rfl) (fs := [.null, .int 0, .int 0, .int 0, .int 0]) (fun j hj => by rcases (show j = 0 ∨ j = 1 ∨ j = 2 ∨ j = 3 ∨ j = 4 by omega) with rfl | rfl | rfl | rfl | rfl <;> rfl) (Nat.le_of_ble_eq_true rfl) (Nat.le_of_ble_eq_true rfl) (fun q26_15 => ?_)
  refine k_dup X dX1_init_29 ?_
  refine k_callN X n_X0_init dX1_init_30 cwb_X0_init (in_n 172 (by decide +kernel) rfl) (in_g 173 (by decide +kernel) rfl) rfl ⟨(Nat.le_of_ble_eq_true rfl), (Nat.le_of_ble_eq_true rfl)⟩ ⟨(Nat.le_of_ble_eq_true rfl), (Nat.le_of_ble_eq_true rfl)⟩ (Nat.le_of_ble_eq_true rfl) (fun g30_17 => ?_)
  refine k_ws (ws' := (h0, .inr (1, [.ref q7_5, .int 0, .int 0])) :: [(q7_5, arR (cy 13) 14 (fun _ => none)), (q26_15, actE (g30_17 0)), ((g30_17 0), penE)]) rfl ?_
  refine k_astq (t0 := 0) (ws' := (h0, .inr (1, [.ref q7_5, .int 0, .int 0])) :: [(q7_5, arR (cy 13) 14 (va_up (fun _ => none) (0 : Int32).toNatClampNeg (some q26_15))), (q26_15, actE (g30_17 0)), ((g30_17 0), penE)]) X 1 2 2 dX1_init_33 rfl rfl rfl rfl (by unfold vp_in; decide) rfl ?_
  refine k_iinc (lv' := [(1, .int 1), (0, .ref h0)]) X (1) dX1_init_34 0 rfl (by decide) (by decide) rfl ?_
  refine k_goto X 15 dX1_init_37 (by decide) ?_
  refine k_iload X dX1_init_15 0 rfl ?_
  refine k_bipush X (14) dX1_init_16 (by decide) ?_
  refine k_ge_f X 40 dX1_init_18 (by decide) (by decide) ?_
  refine k_aload X dX1_init_21 1 rfl ?_
  refine k_getf X cf1 0 dX1_init_22 (by decide) fl_RX1_11 rfl ?_
  refine k_iload X dX1_init_25 0 rfl ?_
  refine k_new X cf0 dX1_init_26 (in_g 169 (by decide +kernel) rfl) (in_g 171 (by decide +kernel) rfl) (in_g 47 (by decide +kernel) rfl) (fs := [.null, .int 0, .int 0, .int 0, .int 0]) (fun j hj => by rcases (show j = 0 ∨ j = 1 ∨ j = 2 ∨ j = 3 ∨ j = 4 by omega) with rfl | rfl | rfl | rfl | rfl <;> rfl) (Nat.le_of_ble_eq_true rfl) (Nat.le_of_ble_eq_true rfl) (fun q26_27 => ?_)
  refine k_dup X dX1_init_29 ?_
  refine k_callN X n_X0_init dX1_init_30 cwb_X0_init (in_n 172 (by decide +kernel) rfl) (in_g 173 (by decide +kernel) rfl) rfl ⟨(Nat.le_of_ble_eq_true rfl), (Nat.le_of_ble_eq_true rfl)⟩ ⟨(Nat.le_of_ble_eq_true rfl), (Nat.le_of_ble_eq_true rfl)⟩ (Nat.le_of_ble_eq_true rfl) (fun g30_29 => ?_)
  refine k_ws (ws' := (h0, .inr (1, [.ref q7_5, .int 0, .int 0])) :: [(q7_5, arR (cy 13) 14 (va_up (fun _ => none) (0 : Int32).toNatClampNeg (some q26_15))), (q26_15, actE (g30_17 0)), ((g30_17 0), penE), (q26_27, actE (g30_29 0)), ((g30_29 0), penE)]) rfl ?_
  refine k_astq (t0 := 0) (ws' := (h0, .inr (1, [.ref q7_5, .int 0, .int 0])) :: [(q7_5, arR (cy 13) 14 (va_up (va_up (fun _ => none) (0 : Int32).toNatClampNeg (some q26_15)) (1 : Int32).toNatClampNeg (some q26_27))), (q26_15, actE (g30_17 0)), ((g30_17 0), penE), (q26_27, actE (g30_29 0)), ((g30_29 0), penE)]) X 1 4 2 dX1_init_33 rfl rfl rfl rfl (by unfold vp_in; decide) rfl ?_
  refine k_iinc (lv' := [(1, .int 2), (0, .ref h0)]) X (2) dX1_init_34 0 rfl (by decide) (by decide) rfl ?_
  refine k_goto X 15 dX1_init_37 (by decide) ?_
  refine k_iload X dX1_init_15 0 rfl ?_
  refine k_bipush X (14) dX1_init_16 (by decide) ?_
  refine k_ge_f X 40 dX1_init_18 (by decide) (by decide) ?_
  refine k_aload X dX1_init_21 1 rfl ?_
  refine k_getf X cf1 0 dX1_init_22 (by decide) fl_RX1_11 rfl ?_
  refine k_iload X dX1_init_25 0 rfl ?_
  refine k_new X cf0 dX1_init_26 (in_g 169 (by decide +kernel) rfl) (in_g 171 (by decide +kernel) rfl) (in_g 47 (by decide +kernel) rfl) (fs := [.null, .int 0, .int 0, .int 0, .int 0]) (fun j hj => by rcases (show j = 0 ∨ j = 1 ∨ j = 2 ∨ j = 3 ∨ j = 4 by omega) with rfl | rfl | rfl | rfl | rfl <;> rfl) (Nat.le_of_ble_eq_true rfl) (Nat.le_of_ble_eq_true rfl) (fun q26_39 => ?_)
  refine k_dup X dX1_init_29 ?_
  refine k_callN X n_X0_init dX1_init_30 cwb_X0_init (in_n 172 (by decide +kernel) rfl) (in_g 173 (by decide +kernel) rfl) rfl ⟨(Nat.le_of_ble_eq_true rfl), (Nat.le_of_ble_eq_true rfl)⟩ ⟨(Nat.le_of_ble_eq_true rfl), (Nat.le_of_ble_eq_true rfl)⟩ (Nat.le_of_ble_eq_true rfl) (fun g30_41 => ?_)
  refine k_ws (ws' := (h0, .inr (1, [.ref q7_5, .int 0, .int 0])) :: [(q7_5, arR (cy 13) 14 (va_up (va_up (fun _ => none) (0 : Int32).toNatClampNeg (some q26_15)) (1 : Int32).toNatClampNeg (some q26_27))), (q26_15, actE (g30_17 0)), ((g30_17 0), penE), (q26_27, actE (g30_29 0)), ((g30_29 0), penE), (q26_39, actE (g30_41 0)), ((g30_41 0), penE)]) rfl ?_
  refine k_astq (t0 := 0) (ws' := (h0, .inr (1, [.ref q7_5, .int 0, .int 0])) :: [(q7_5, arR (cy 13) 14 (va_up (va_up (va_up (fun _ => none) (0 : Int32).toNatClampNeg (some q26_15)) (1 : Int32).toNatClampNeg (some q26_27)) (2 : Int32).toNatClampNeg (some q26_39))), (q26_15, actE (g30_17 0)), ((g30_17 0), penE), (q26_27, actE (g30_29 0)), ((g30_29 0), penE), (q26_39, actE (g30_41 0)), ((g30_41 0), penE)]) X 1 6 2 dX1_init_33 rfl rfl rfl rfl (by unfold vp_in; decide) rfl ?_
  refine k_iinc (lv' := [(1, .int 3), (0, .ref h0)]) X (3) dX1_init_34 0 rfl (by decide) (by decide) rfl ?_
  refine k_goto X 15 dX1_init_37 (by decide) ?_
  refine k_iload X dX1_init_15 0 rfl ?_
  refine k_bipush X (14) dX1_init_16 (by decide) ?_
  refine k_ge_f X 40 dX1_init_18 (by decide) (by decide) ?_
  refine k_aload X dX1_init_21 1 rfl ?_
  refine k_getf X cf1 0 dX1_init_22 (by decide) fl_RX1_11 rfl ?_
  refine k_iload X dX1_init_25 0 rfl ?_
  refine k_new X cf0 dX1_init_26 (in_g 169 (by decide +kernel) rfl) (in_g 171 (by decide +kernel) rfl) (in_g 47 (by decide +kernel) rfl) (fs := [.null, .int 0, .int 0, .int 0, .int 0]) (fun j hj => by rcases (show j = 0 ∨ j = 1 ∨ j = 2 ∨ j = 3 ∨ j = 4 by omega) with rfl | rfl | rfl | rfl | rfl <;> rfl) (Nat.le_of_ble_eq_true rfl) (Nat.le_of_ble_eq_true rfl) (fun q26_51 => ?_)
  refine k_dup X dX1_init_29 ?_
  refine k_callN X n_X0_init dX1_init_30 cwb_X0_init (in_n 172 (by decide +kernel) rfl) (in_g 173 (by decide +kernel) rfl) rfl ⟨(Nat.le_of_ble_eq_true rfl), (Nat.le_of_ble_eq_true rfl)⟩ ⟨(Nat.le_of_ble_eq_true rfl), (Nat.le_of_ble_eq_true rfl)⟩ (Nat.le_of_ble_eq_true rfl) (fun g30_53 => ?_)
  refine k_ws (ws' := (h0, .inr (1, [.ref q7_5, .int 0, .int 0])) :: [(q7_5, arR (cy 13) 14 (va_up (va_up (va_up (fun _ => none) (0 : Int32).toNatClampNeg (some q26_15)) (1 : Int32).toNatClampNeg (some q26_27)) (2 : Int32).toNatClampNeg (some q26_39))), (q26_15, actE (g30_17 0)), ((g30_17 0), penE), (q26_27, actE (g30_29 0)), ((g30_29 0), penE), (q26_39, actE (g30_41 0)), ((g30_41 0), penE), (q26_51, actE (g30_53 0)), ((g30_53 0), penE)]) rfl ?_
  refine k_astq (t0 := 0) (ws' := (h0, .inr (1, [.ref q7_5, .int 0, .int 0])) :: [(q7_5, arR (cy 13) 14 (va_up (va_up (va_up (va_up (fun _ => none) (0 : Int32).toNatClampNeg (some q26_15)) (1 : Int32).toNatClampNeg (some q26_27)) (2 : Int32).toNatClampNeg (some q26_39)) (3 : Int32).toNatClampNeg (some q26_51))), (q26_15, actE (g30_17 0)), ((g30_17 0), penE), (q26_27, actE (g30_29 0)), ((g30_29 0), penE), (q26_39, actE (g30_41 0)), ((g30_41 0), penE), (q26_51, actE (g30_53 0)), ((g30_53 0), penE)]) X 1 8 2 dX1_init_33 rfl rfl rfl rfl (by unfold vp_in; decide) rfl ?_
  refine k_iinc (lv' := [(1, .int 4), (0, .ref h0)]) X (4) dX1_init_34 0 rfl (by decide) (by decide) rfl ?_
  refine k_goto X 15 dX1_init_37 (by decide) ?_
  refine k_iload X dX1_init_15 0 rfl ?_
  refine k_bipush X (14) dX1_init_16 (by decide) ?_
  refine k_ge_f X 40 dX1_init_18 (by decide) (by decide) ?_
  refine k_aload X dX1_init_21 1 rfl ?_
  refine k_getf X cf1 0 dX1_init_22 (by decide) fl_RX1_11 rfl ?_
  refine k_iload X dX1_init_25 0 rfl ?_
  refine k_new X cf0 dX1_init_26 (in_g 169 (by decide +kernel) rfl) (in_g 171 (by decide +kernel) rfl) (in_g 47 (by decide +kernel) rfl) (fs := [.null, .int 0, .int 0, .int 0, .int 0]) (fun j hj => by rcases (show j = 0 ∨ j = 1 ∨ j = 2 ∨ j = 3 ∨ j = 4 by omega) with rfl | rfl | rfl | rfl | rfl <;> rfl) (Nat.le_of_ble_eq_true rfl) (Nat.le_of_ble_eq_true rfl) (fun q26_63 => ?_)
  refine k_dup X dX1_init_29 ?_
  refine k_callN X n_X0_init dX1_init_30 cwb_X0_init (in_n 172 (by decide +kernel) rfl) (in_g 173 (by decide +kernel) rfl) rfl ⟨(Nat.le_of_ble_eq_true rfl), (Nat.le_of_ble_eq_true rfl)⟩ ⟨(Nat.le_of_ble_eq_true rfl), (Nat.le_of_ble_eq_true rfl)⟩ (Nat.le_of_ble_eq_true rfl) (fun g30_65 => ?_)
  refine k_ws (ws' := (h0, .inr (1, [.ref q7_5, .int 0, .int 0])) :: [(q7_5, arR (cy 13) 14 (va_up (va_up (va_up (va_up (fun _ => none) (0 : Int32).toNatClampNeg (some q26_15)) (1 : Int32).toNatClampNeg (some q26_27)) (2 : Int32).toNatClampNeg (some q26_39)) (3 : Int32).toNatClampNeg (some q26_51))), (q26_15, actE (g30_17 0)), ((g30_17 0), penE), (q26_27, actE (g30_29 0)), ((g30_29 0), penE), (q26_39, actE (g30_41 0)), ((g30_41 0), penE), (q26_51, actE (g30_53 0)), ((g30_53 0), penE), (q26_63, actE (g30_65 0)), ((g30_65 0), penE)]) rfl ?_
  refine k_astq (t0 := 0) (ws' := (h0, .inr (1, [.ref q7_5, .int 0, .int 0])) :: [(q7_5, arR (cy 13) 14 (va_up (va_up (va_up (va_up (va_up (fun _ => none) (0 : Int32).toNatClampNeg (some q26_15)) (1 : Int32).toNatClampNeg (some q26_27)) (2 : Int32).toNatClampNeg (some q26_39)) (3 : Int32).toNatClampNeg (some q26_51)) (4 : Int32).toNatClampNeg (some q26_63))), (q26_15, actE (g30_17 0)), ((g30_17 0), penE), (q26_27, actE (g30_29 0)), ((g30_29 0), penE), (q26_39, actE (g30_41 0)), ((g30_41 0), penE), (q26_51, actE (g30_53 0)), ((g30_53 0), penE), (q26_63, actE (g30_65 0)), ((g30_65 0), penE)]) X 1 10 2 dX1_init_33 rfl rfl rfl rfl (by unfold vp_in; decide) rfl ?_
  refine k_iinc (lv' := [(1, .int 5), (0, .ref h0)]) X (5) dX1_init_34 0 rfl (by decide) (by decide) rfl ?_
  refine k_goto X 15 dX1_init_37 (by decide) ?_
  refine k_iload X dX1_init_15 0 rfl ?_
  refine k_bipush X (14) dX1_init_16 (by decide) ?_
  refine k_ge_f X 40 dX1_init_18 (by decide) (by decide) ?_
  refine k_aload X dX1_init_21 1 rfl ?_
  refine k_getf X cf1 0 dX1_init_22 (by decide) fl_RX1_11 rfl ?_
  refine k_iload X dX1_init_25 0 rfl ?_
  refine k_new X cf0 dX1_init_26 (in_g 169 (by decide +kernel) rfl) (in_g 171 (by decide +kernel) rfl) (in_g 47 (by decide +kernel) rfl) (fs := [.null, .int 0, .int 0, .int 0, .int 0]) (fun j hj => by rcases (show j = 0 ∨ j = 1 ∨ j = 2 ∨ j = 3 ∨ j = 4 by omega) with rfl | rfl | rfl | rfl | rfl <;> rfl) (Nat.le_of_ble_eq_true rfl) (Nat.le_of_ble_eq_true rfl) (fun q26_75 => ?_)
  refine k_dup X dX1_init_29 ?_
  refine k_callN X n_X0_init dX1_init_30 cwb_X0_init (in_n 172 (by decide +kernel) rfl) (in_g 173 (by decide +kernel) rfl) rfl ⟨(Nat.le_of_ble_eq_true rfl), (Nat.le_of_ble_eq_true rfl)⟩ ⟨(Nat.le_of_ble_eq_true rfl), (Nat.le_of_ble_eq_true rfl)⟩ (Nat.le_of_ble_eq_true rfl) (fun g30_77 => ?_)
  refine k_ws (ws' := (h0, .inr (1, [.ref q7_5, .int 0, .int 0])) :: [(q7_5, arR (cy 13) 14 (va_up (va_up (va_up (va_up (va_up (fun _ => none) (0 : Int32).toNatClampNeg (some q26_15)) (1 : Int32).toNatClampNeg (some q26_27)) (2 : Int32).toNatClampNeg (some q26_39)) (3 : Int32).toNatClampNeg (some q26_51)) (4 : Int32).toNatClampNeg (some q26_63))), (q26_15, actE (g30_17 0)), ((g30_17 0), penE), (q26_27, actE (g30_29 0)), ((g30_29 0), penE), (q26_39, actE (g30_41 0)), ((g30_41 0), penE), (q26_51, actE (g30_53 0)), ((g30_53 0), penE), (q26_63, actE (g30_65 0)), ((g30_65 0), penE), (q26_75, actE (g30_77 0)), ((g30_77 0), penE)]) rfl ?_
  refine k_astq (t0 := 0) (ws' := (h0, .inr (1, [.ref q7_5, .int 0, .int 0])) :: [(q7_5, arR (cy 13) 14 (va_up (va_up (va_up (va_up (va_up (va_up (fun _ => none) (0 : Int32).toNatClampNeg (some q26_15)) (1 : Int32).toNatClampNeg (some q26_27)) (2 : Int32).toNatClampNeg (some q26_39)) (3 : Int32).toNatClampNeg (some q26_51)) (4 : Int32).toNatClampNeg (some q26_63)) (5 : Int32).toNatClampNeg (some q26_75))), (q26_15, actE (g30_17 0)), ((g30_17 0), penE), (q26_27, actE (g30_29 0)), ((g30_29 0), penE), (q26_39, actE (g30_41 0)), ((g30_41 0), penE), (q26_51, actE (g30_53 0)), ((g30_53 0), penE), (q26_63, actE (g30_65 0)), ((g30_65 0), penE), (q26_75, actE (g30_77 0)), ((g30_77 0), penE)]) X 1 12 2 dX1_init_33 rfl rfl rfl rfl (by unfold vp_in; decide) rfl ?_
  refine k_iinc (lv' := [(1, .int 6), (0, .ref h0)]) X (6) dX1_init_34 0 rfl (by decide) (by decide) rfl ?_
  refine k_goto X 15 dX1_init_37 (by decide) ?_
  refine k_iload X dX1_init_15 0 rfl ?_
  refine k_bipush X (14) dX1_init_16 (by decide) ?_
  refine k_ge_f X 40 dX1_init_18 (by decide) (by decide) ?_
  refine k_aload X dX1_init_21 1 rfl ?_
  refine k_getf X cf1 0 dX1_init_22 (by decide) fl_RX1_11 rfl ?_
  refine k_iload X dX1_init_25 0 rfl ?_
  refine k_new X cf0 dX1_init_26 (in_g 169 (by decide +kernel) rfl) (in_g 171 (by decide +kernel) rfl) (in_g 47 (by decide +kernel) rfl) (fs := [.null, .int 0, .int 0, .int 0, .int 0]) (fun j hj => by rcases (show j = 0 ∨ j = 1 ∨ j = 2 ∨ j = 3 ∨ j = 4 by omega) with rfl | rfl | rfl | rfl | rfl <;> rfl) (Nat.le_of_ble_eq_true rfl) (Nat.le_of_ble_eq_true rfl) (fun q26_87 => ?_)
  refine k_dup X dX1_init_29 ?_
  refine k_callN X n_X0_init dX1_init_30 cwb_X0_init (in_n 172 (by decide +kernel) rfl) (in_g 173 (by decide +kernel) rfl) rfl ⟨(Nat.le_of_ble_eq_true rfl), (Nat.le_of_ble_eq_true rfl)⟩ ⟨(Nat.le_of_ble_eq_true rfl), (Nat.le_of_ble_eq_true rfl)⟩ (Nat.le_of_ble_eq_true rfl) (fun g30_89 => ?_)
  refine k_ws (ws' := (h0, .inr (1, [.ref q7_5, .int 0, .int 0])) :: [(q7_5, arR (cy 13) 14 (va_up (va_up (va_up (va_up (va_up (va_up (fun _ => none) (0 : Int32).toNatClampNeg (some q26_15)) (1 : Int32).toNatClampNeg (some q26_27)) (2 : Int32).toNatClampNeg (some q26_39)) (3 : Int32).toNatClampNeg (some q26_51)) (4 : Int32).toNatClampNeg (some q26_63)) (5 : Int32).toNatClampNeg (some q26_75))), (q26_15, actE (g30_17 0)), ((g30_17 0), penE), (q26_27, actE (g30_29 0)), ((g30_29 0), penE), (q26_39, actE (g30_41 0)), ((g30_41 0), penE), (q26_51, actE (g30_53 0)), ((g30_53 0), penE), (q26_63, actE (g30_65 0)), ((g30_65 0), penE), (q26_75, actE (g30_77 0)), ((g30_77 0), penE), (q26_87, actE (g30_89 0)), ((g30_89 0), penE)]) rfl ?_
  refine k_astq (t0 := 0) (ws' := (h0, .inr (1, [.ref q7_5, .int 0, .int 0])) :: [(q7_5, arR (cy 13) 14 (va_up (va_up (va_up (va_up (va_up (va_up (va_up (fun _ => none) (0 : Int32).toNatClampNeg (some q26_15)) (1 : Int32).toNatClampNeg (some q26_27)) (2 : Int32).toNatClampNeg (some q26_39)) (3 : Int32).toNatClampNeg (some q26_51)) (4 : Int32).toNatClampNeg (some q26_63)) (5 : Int32).toNatClampNeg (some q26_75)) (6 : Int32).toNatClampNeg (some q26_87))), (q26_15, actE (g30_17 0)), ((g30_17 0), penE), (q26_27, actE (g30_29 0)), ((g30_29 0), penE), (q26_39, actE (g30_41 0)), ((g30_41 0), penE), (q26_51, actE (g30_53 0)), ((g30_53 0), penE), (q26_63, actE (g30_65 0)), ((g30_65 0), penE), (q26_75, actE (g30_77 0)), ((g30_77 0), penE), (q26_87, actE (g30_89 0)), ((g30_89 0), penE)]) X 1 14 2 dX1_init_33 rfl rfl rfl rfl (by unfold vp_in; decide) rfl ?_
  refine k_iinc (lv' := [(1, .int 7), (0, .ref h0)]) X (7) dX1_init_34 0 rfl (by decide) (by decide) rfl ?_
  refine k_goto X 15 dX1_init_37 (by decide) ?_
  refine k_iload X dX1_init_15 0 rfl ?_
  refine k_bipush X (14) dX1_init_16 (by decide) ?_
  refine k_ge_f X 40 dX1_init_18 (by decide) (by decide) ?_
  refine k_aload X dX1_init_21 1 rfl ?_
  refine k_getf X cf1 0 dX1_init_22 (by decide) fl_RX1_11 rfl ?_
  refine k_iload X dX1_init_25 0 rfl ?_
  refine k_new X cf0 dX1_init_26 (in_g 169 (by decide +kernel) rfl) (in_g 171 (by decide +kernel) rfl) (in_g 47 (by decide +kernel) rfl) (fs := [.null, .int 0, .int 0, .int 0, .int 0]) (fun j hj => by rcases (show j = 0 ∨ j = 1 ∨ j = 2 ∨ j = 3 ∨ j = 4 by omega) with rfl | rfl | rfl | rfl | rfl <;> rfl) (Nat.le_of_ble_eq_true rfl) (Nat.le_of_ble_eq_true rfl) (fun q26_99 => ?_)
  refine k_dup X dX1_init_29 ?_
  refine k_callN X n_X0_init dX1_init_30 cwb_X0_init (in_n 172 (by decide +kernel) rfl) (in_g 173 (by decide +kernel) rfl) rfl ⟨(Nat.le_of_ble_eq_true rfl), (Nat.le_of_ble_eq_true rfl)⟩ ⟨(Nat.le_of_ble_eq_true rfl), (Nat.le_of_ble_eq_true rfl)⟩ (Nat.le_of_ble_eq_true rfl) (fun g30_101 => ?_)
  refine k_ws (ws' := (h0, .inr (1, [.ref q7_5, .int 0, .int 0])) :: [(q7_5, arR (cy 13) 14 (va_up (va_up (va_up (va_up (va_up (va_up (va_up (fun _ => none) (0 : Int32).toNatClampNeg (some q26_15)) (1 : Int32).toNatClampNeg (some q26_27)) (2 : Int32).toNatClampNeg (some q26_39)) (3 : Int32).toNatClampNeg (some q26_51)) (4 : Int32).toNatClampNeg (some q26_63)) (5 : Int32).toNatClampNeg (some q26_75)) (6 : Int32).toNatClampNeg (some q26_87))), (q26_15, actE (g30_17 0)), ((g30_17 0), penE), (q26_27, actE (g30_29 0)), ((g30_29 0), penE), (q26_39, actE (g30_41 0)), ((g30_41 0), penE), (q26_51, actE (g30_53 0)), ((g30_53 0), penE), (q26_63, actE (g30_65 0)), ((g30_65 0), penE), (q26_75, actE (g30_77 0)), ((g30_77 0), penE), (q26_87, actE (g30_89 0)), ((g30_89 0), penE), (q26_99, actE (g30_101 0)), ((g30_101 0), penE)]) rfl ?_
  refine k_astq (t0 := 0) (ws' := (h0, .inr (1, [.ref q7_5, .int 0, .int 0])) :: [(q7_5, arR (cy 13) 14 (va_up (va_up (va_up (va_up (va_up (va_up (va_up (va_up (fun _ => none) (0 : Int32).toNatClampNeg (some q26_15)) (1 : Int32).toNatClampNeg (some q26_27)) (2 : Int32).toNatClampNeg (some q26_39)) (3 : Int32).toNatClampNeg (some q26_51)) (4 : Int32).toNatClampNeg (some q26_63)) (5 : Int32).toNatClampNeg (some q26_75)) (6 : Int32).toNatClampNeg (some q26_87)) (7 : Int32).toNatClampNeg (some q26_99))), (q26_15, actE (g30_17 0)), ((g30_17 0), penE), (q26_27, actE (g30_29 0)), ((g30_29 0), penE), (q26_39, actE (g30_41 0)), ((g30_41 0), penE), (q26_51, actE (g30_53 0)), ((g30_53 0), penE), (q26_63, actE (g30_65 0)), ((g30_65 0), penE), (q26_75, actE (g30_77 0)), ((g30_77 0), penE), (q26_87, actE (g30_89 0)), ((g30_89 0), penE), (q26_99, actE (g30_101 0)), ((g30_101 0), penE)]) X 1 16 2 dX1_init_33 rfl rfl rfl rfl (by unfold vp_in; decide) rfl ?_
  refine k_iinc (lv' := [(1, .int 8), (0, .ref h0)]) X (8) dX1_init_34 0 rfl (by decide) (by decide) rfl ?_
  refine k_goto X 15 dX1_init_37 (by decide) ?_
  refine k_iload X dX1_init_15 0 rfl ?_
  refine k_bipush X (14) dX1_init_16 (by decide) ?_
  refine k_ge_f X 40 dX1_init_18 (by decide) (by decide) ?_
  refine k_aload X dX1_init_21 1 rfl ?_
  refine k_getf X cf1 0 dX1_init_22 (by decide) fl_RX1_11 rfl ?_
  refine k_iload X dX1_init_25 0 rfl ?_
  refine k_new X cf0 dX1_init_26 (in_g 169 (by decide +kernel) rfl) (in_g 171 (by decide +kernel) rfl) (in_g 47 (by decide +kernel) rfl) (fs := [.null, .int 0, .int 0, .int 0, .int 0]) (fun j hj => by rcases (show j = 0 ∨ j = 1 ∨ j = 2 ∨ j = 3 ∨ j = 4 by omega) with rfl | rfl | rfl | rfl | rfl <;> rfl) (Nat.le_of_ble_eq_true rfl) (Nat.le_of_ble_eq_true rfl) (fun q26_111 => ?_)
  refine k_dup X dX1_init_29 ?_
  refine k_callN X n_X0_init dX1_init_30 cwb_X0_init (in_n 172 (by decide +kernel) rfl) (in_g 173 (by decide +kernel) rfl) rfl ⟨(Nat.le_of_ble_eq_true rfl), (Nat.le_of_ble_eq_true rfl)⟩ ⟨(Nat.le_of_ble_eq_true rfl), (Nat.le_of_ble_eq_true rfl)⟩ (Nat.le_of_ble_eq_true rfl) (fun g30_113 => ?_)
  refine k_ws (ws' := (h0, .inr (1, [.ref q7_5, .int 0, .int 0])) :: [(q7_5, arR (cy 13) 14 (va_up (va_up (va_up (va_up (va_up (va_up (va_up (va_up (fun _ => none) (0 : Int32).toNatClampNeg (some q26_15)) (1 : Int32).toNatClampNeg (some q26_27)) (2 : Int32).toNatClampNeg (some q26_39)) (3 : Int32).toNatClampNeg (some q26_51)) (4 : Int32).toNatClampNeg (some q26_63)) (5 : Int32).toNatClampNeg (some q26_75)) (6 : Int32).toNatClampNeg (some q26_87)) (7 : Int32).toNatClampNeg (some q26_99))), (q26_15, actE (g30_17 0)), ((g30_17 0), penE), (q26_27, actE (g30_29 0)), ((g30_29 0), penE), (q26_39, actE (g30_41 0)), ((g30_41 0), penE), (q26_51, actE (g30_53 0)), ((g30_53 0), penE), (q26_63, actE (g30_65 0)), ((g30_65 0), penE), (q26_75, actE (g30_77 0)), ((g30_77 0), penE), (q26_87, actE (g30_89 0)), ((g30_89 0), penE), (q26_99, actE (g30_101 0)), ((g30_101 0), penE), (q26_111, actE (g30_113 0)), ((g30_113 0), penE)]) rfl ?_
  refine k_astq (t0 := 0) (ws' := (h0, .inr (1, [.ref q7_5, .int 0, .int 0])) :: [(q7_5, arR (cy 13) 14 (va_up (va_up (va_up (va_up (va_up (va_up (va_up (va_up (va_up (fun _ => none) (0 : Int32).toNatClampNeg (some q26_15)) (1 : Int32).toNatClampNeg (some q26_27)) (2 : Int32).toNatClampNeg (some q26_39)) (3 : Int32).toNatClampNeg (some q26_51)) (4 : Int32).toNatClampNeg (some q26_63)) (5 : Int32).toNatClampNeg (some q26_75)) (6 : Int32).toNatClampNeg (some q26_87)) (7 : Int32).toNatClampNeg (some q26_99)) (8 : Int32).toNatClampNeg (some q26_111))), (q26_15, actE (g30_17 0)), ((g30_17 0), penE), (q26_27, actE (g30_29 0)), ((g30_29 0), penE), (q26_39, actE (g30_41 0)), ((g30_41 0), penE), (q26_51, actE (g30_53 0)), ((g30_53 0), penE), (q26_63, actE (g30_65 0)), ((g30_65 0), penE), (q26_75, actE (g30_77 0)), ((g30_77 0), penE), (q26_87, actE (g30_89 0)), ((g30_89 0), penE), (q26_99, actE (g30_101 0)), ((g30_101 0), penE), (q26_111, actE (g30_113 0)), ((g30_113 0), penE)]) X 1 18 2 dX1_init_33 rfl rfl rfl rfl (by unfold vp_in; decide) rfl ?_
  refine k_iinc (lv' := [(1, .int 9), (0, .ref h0)]) X (9) dX1_init_34 0 rfl (by decide) (by decide) rfl ?_
  refine k_goto X 15 dX1_init_37 (by decide) ?_
  refine k_iload X dX1_init_15 0 rfl ?_
  refine k_bipush X (14) dX1_init_16 (by decide) ?_
  refine k_ge_f X 40 dX1_init_18 (by decide) (by decide) ?_
  refine k_aload X dX1_init_21 1 rfl ?_
  refine k_getf X cf1 0 dX1_init_22 (by decide) fl_RX1_11 rfl ?_
  refine k_iload X dX1_init_25 0 rfl ?_
  refine k_new X cf0 dX1_init_26 (in_g 169 (by decide +kernel) rfl) (in_g 171 (by decide +kernel) rfl) (in_g 47 (by decide +kernel) rfl) (fs := [.null, .int 0, .int 0, .int 0, .int 0]) (fun j hj => by rcases (show j = 0 ∨ j = 1 ∨ j = 2 ∨ j = 3 ∨ j = 4 by omega) with rfl | rfl | rfl | rfl | rfl <;> rfl) (Nat.le_of_ble_eq_true rfl) (Nat.le_of_ble_eq_true rfl) (fun q26_123 => ?_)
  refine k_dup X dX1_init_29 ?_
  refine k_callN X n_X0_init dX1_init_30 cwb_X0_init (in_n 172 (by decide +kernel) rfl) (in_g 173 (by decide +kernel) rfl) rfl ⟨(Nat.le_of_ble_eq_true rfl), (Nat.le_of_ble_eq_true rfl)⟩ ⟨(Nat.le_of_ble_eq_true rfl), (Nat.le_of_ble_eq_true rfl)⟩ (Nat.le_of_ble_eq_true rfl) (fun g30_125 => ?_)
  refine k_ws (ws' := (h0, .inr (1, [.ref q7_5, .int 0, .int 0])) :: [(q7_5, arR (cy 13) 14 (va_up (va_up (va_up (va_up (va_up (va_up (va_up (va_up (va_up (fun _ => none) (0 : Int32).toNatClampNeg (some q26_15)) (1 : Int32).toNatClampNeg (some q26_27)) (2 : Int32).toNatClampNeg (some q26_39)) (3 : Int32).toNatClampNeg (some q26_51)) (4 : Int32).toNatClampNeg (some q26_63)) (5 : Int32).toNatClampNeg (some q26_75)) (6 : Int32).toNatClampNeg (some q26_87)) (7 : Int32).toNatClampNeg (some q26_99)) (8 : Int32).toNatClampNeg (some q26_111))), (q26_15, actE (g30_17 0)), ((g30_17 0), penE), (q26_27, actE (g30_29 0)), ((g30_29 0), penE), (q26_39, actE (g30_41 0)), ((g30_41 0), penE), (q26_51, actE (g30_53 0)), ((g30_53 0), penE), (q26_63, actE (g30_65 0)), ((g30_65 0), penE), (q26_75, actE (g30_77 0)), ((g30_77 0), penE), (q26_87, actE (g30_89 0)), ((g30_89 0), penE), (q26_99, actE (g30_101 0)), ((g30_101 0), penE), (q26_111, actE (g30_113 0)), ((g30_113 0), penE), (q26_123, actE (g30_125 0)), ((g30_125 0), penE)]) rfl ?_
  refine k_astq (t0 := 0) (ws' := (h0, .inr (1, [.ref q7_5, .int 0, .int 0])) :: [(q7_5, arR (cy 13) 14 (va_up (va_up (va_up (va_up (va_up (va_up (va_up (va_up (va_up (va_up (fun _ => none) (0 : Int32).toNatClampNeg (some q26_15)) (1 : Int32).toNatClampNeg (some q26_27)) (2 : Int32).toNatClampNeg (some q26_39)) (3 : Int32).toNatClampNeg (some q26_51)) (4 : Int32).toNatClampNeg (some q26_63)) (5 : Int32).toNatClampNeg (some q26_75)) (6 : Int32).toNatClampNeg (some q26_87)) (7 : Int32).toNatClampNeg (some q26_99)) (8 : Int32).toNatClampNeg (some q26_111)) (9 : Int32).toNatClampNeg (some q26_123))), (q26_15, actE (g30_17 0)), ((g30_17 0), penE), (q26_27, actE (g30_29 0)), ((g30_29 0), penE), (q26_39, actE (g30_41 0)), ((g30_41 0), penE), (q26_51, actE (g30_53 0)), ((g30_53 0), penE), (q26_63, actE (g30_65 0)), ((g30_65 0), penE), (q26_75, actE (g30_77 0)), ((g30_77 0), penE), (q26_87, actE (g30_89 0)), ((g30_89 0), penE), (q26_99, actE (g30_101 0)), ((g30_101 0), penE), (q26_111, actE (g30_113 0)), ((g30_113 0), penE), (q26_123, actE (g30_125 0)), ((g30_125 0), penE)]) X 1 20 2 dX1_init_33 rfl rfl rfl rfl (by unfold vp_in; decide) rfl ?_
  refine k_iinc (lv' := [(1, .int 10), (0, .ref h0)]) X (10) dX1_init_34 0 rfl (by decide) (by decide) rfl ?_
  refine k_goto X 15 dX1_init_37 (by decide) ?_
  refine k_iload X dX1_init_15 0 rfl ?_
  refine k_bipush X (14) dX1_init_16 (by decide) ?_
  refine k_ge_f X 40 dX1_init_18 (by decide) (by decide) ?_
  refine k_aload X dX1_init_21 1 rfl ?_
  refine k_getf X cf1 0 dX1_init_22 (by decide) fl_RX1_11 rfl ?_
  refine k_iload X dX1_init_25 0 rfl ?_
  refine k_new X cf0 dX1_init_26 (in_g 169 (by decide +kernel) rfl) (in_g 171 (by decide +kernel) rfl) (in_g 47 (by decide +kernel) rfl) (fs := [.null, .int 0, .int 0, .int 0, .int 0]) (fun j hj => by rcases (show j = 0 ∨ j = 1 ∨ j = 2 ∨ j = 3 ∨ j = 4 by omega) with rfl | rfl | rfl | rfl | rfl <;> rfl) (Nat.le_of_ble_eq_true rfl) (Nat.le_of_ble_eq_true rfl) (fun q26_135 => ?_)
  refine k_dup X dX1_init_29 ?_
  refine k_callN X n_X0_init dX1_init_30 cwb_X0_init (in_n 172 (by decide +kernel) rfl) (in_g 173 (by decide +kernel) rfl) rfl ⟨(Nat.le_of_ble_eq_true rfl), (Nat.le_of_ble_eq_true rfl)⟩ ⟨(Nat.le_of_ble_eq_true rfl), (Nat.le_of_ble_eq_true rfl)⟩ (Nat.le_of_ble_eq_true rfl) (fun g30_137 => ?_)
  refine k_ws (ws' := (h0, .inr (1, [.ref q7_5, .int 0, .int 0])) :: [(q7_5, arR (cy 13) 14 (va_up (va_up (va_up (va_up (va_up (va_up (va_up (va_up (va_up (va_up (fun _ => none) (0 : Int32).toNatClampNeg (some q26_15)) (1 : Int32).toNatClampNeg (some q26_27)) (2 : Int32).toNatClampNeg (some q26_39)) (3 : Int32).toNatClampNeg (some q26_51)) (4 : Int32).toNatClampNeg (some q26_63)) (5 : Int32).toNatClampNeg (some q26_75)) (6 : Int32).toNatClampNeg (some q26_87)) (7 : Int32).toNatClampNeg (some q26_99)) (8 : Int32).toNatClampNeg (some q26_111)) (9 : Int32).toNatClampNeg (some q26_123))), (q26_15, actE (g30_17 0)), ((g30_17 0), penE), (q26_27, actE (g30_29 0)), ((g30_29 0), penE), (q26_39, actE (g30_41 0)), ((g30_41 0), penE), (q26_51, actE (g30_53 0)), ((g30_53 0), penE), (q26_63, actE (g30_65 0)), ((g30_65 0), penE), (q26_75, actE (g30_77 0)), ((g30_77 0), penE), (q26_87, actE (g30_89 0)), ((g30_89 0), penE), (q26_99, actE (g30_101 0)), ((g30_101 0), penE), (q26_111, actE (g30_113 0)), ((g30_113 0), penE), (q26_123, actE (g30_125 0)), ((g30_125 0), penE), (q26_135, actE (g30_137 0)), ((g30_137 0), penE)]) rfl ?_
  refine k_astq (t0 := 0) (ws' := (h0, .inr (1, [.ref q7_5, .int 0, .int 0])) :: [(q7_5, arR (cy 13) 14 (va_up (va_up (va_up (va_up (va_up (va_up (va_up (va_up (va_up (va_up (va_up (fun _ => none) (0 : Int32).toNatClampNeg (some q26_15)) (1 : Int32).toNatClampNeg (some q26_27)) (2 : Int32).toNatClampNeg (some q26_39)) (3 : Int32).toNatClampNeg (some q26_51)) (4 : Int32).toNatClampNeg (some q26_63)) (5 : Int32).toNatClampNeg (some q26_75)) (6 : Int32).toNatClampNeg (some q26_87)) (7 : Int32).toNatClampNeg (some q26_99)) (8 : Int32).toNatClampNeg (some q26_111)) (9 : Int32).toNatClampNeg (some q26_123)) (10 : Int32).toNatClampNeg (some q26_135))), (q26_15, actE (g30_17 0)), ((g30_17 0), penE), (q26_27, actE (g30_29 0)), ((g30_29 0), penE), (q26_39, actE (g30_41 0)), ((g30_41 0), penE), (q26_51, actE (g30_53 0)), ((g30_53 0), penE), (q26_63, actE (g30_65 0)), ((g30_65 0), penE), (q26_75, actE (g30_77 0)), ((g30_77 0), penE), (q26_87, actE (g30_89 0)), ((g30_89 0), penE), (q26_99, actE (g30_101 0)), ((g30_101 0), penE), (q26_111, actE (g30_113 0)), ((g30_113 0), penE), (q26_123, actE (g30_125 0)), ((g30_125 0), penE), (q26_135, actE (g30_137 0)), ((g30_137 0), penE)]) X 1 22 2 dX1_init_33 rfl rfl rfl rfl (by unfold vp_in; decide) rfl ?_
  refine k_iinc (lv' := [(1, .int 11), (0, .ref h0)]) X (11) dX1_init_34 0 rfl (by decide) (by decide) rfl ?_
  refine k_goto X 15 dX1_init_37 (by decide) ?_
  refine k_iload X dX1_init_15 0 rfl ?_
  refine k_bipush X (14) dX1_init_16 (by decide) ?_
  refine k_ge_f X 40 dX1_init_18 (by decide) (by decide) ?_
  refine k_aload X dX1_init_21 1 rfl ?_
  refine k_getf X cf1 0 dX1_init_22 (by decide) fl_RX1_11 rfl ?_
  refine k_iload X dX1_init_25 0 rfl ?_
  refine k_new X cf0 dX1_init_26 (in_g 169 (by decide +kernel) rfl) (in_g 171 (by decide +kernel) rfl) (in_g 47 (by decide +kernel) rfl) (fs := [.null, .int 0, .int 0, .int 0, .int 0]) (fun j hj => by rcases (show j = 0 ∨ j = 1 ∨ j = 2 ∨ j = 3 ∨ j = 4 by omega) with rfl | rfl | rfl | rfl | rfl <;> rfl) (Nat.le_of_ble_eq_true rfl) (Nat.le_of_ble_eq_true rfl) (fun q26_147 => ?_)
  refine k_dup X dX1_init_29 ?_
  refine k_callN X n_X0_init dX1_init_30 cwb_X0_init (in_n 172 (by decide +kernel) rfl) (in_g 173 (by decide +kernel) rfl) rfl ⟨(Nat.le_of_ble_eq_true rfl), (Nat.le_of_ble_eq_true rfl)⟩ ⟨(Nat.le_of_ble_eq_true rfl), (Nat.le_of_ble_eq_true rfl)⟩ (Nat.le_of_ble_eq_true rfl) (fun g30_149 => ?_)
  refine k_ws (ws' := (h0, .inr (1, [.ref q7_5, .int 0, .int 0])) :: [(q7_5, arR (cy 13) 14 (va_up (va_up (va_up (va_up (va_up (va_up (va_up (va_up (va_up (va_up (va_up (fun _ => none) (0 : Int32).toNatClampNeg (some q26_15)) (1 : Int32).toNatClampNeg (some q26_27)) (2 : Int32).toNatClampNeg (some q26_39)) (3 : Int32).toNatClampNeg (some q26_51)) (4 : Int32).toNatClampNeg (some q26_63)) (5 : Int32).toNatClampNeg (some q26_75)) (6 : Int32).toNatClampNeg (some q26_87)) (7 : Int32).toNatClampNeg (some q26_99)) (8 : Int32).toNatClampNeg (some q26_111)) (9 : Int32).toNatClampNeg (some q26_123)) (10 : Int32).toNatClampNeg (some q26_135))), (q26_15, actE (g30_17 0)), ((g30_17 0), penE), (q26_27, actE (g30_29 0)), ((g30_29 0), penE), (q26_39, actE (g30_41 0)), ((g30_41 0), penE), (q26_51, actE (g30_53 0)), ((g30_53 0), penE), (q26_63, actE (g30_65 0)), ((g30_65 0), penE), (q26_75, actE (g30_77 0)), ((g30_77 0), penE), (q26_87, actE (g30_89 0)), ((g30_89 0), penE), (q26_99, actE (g30_101 0)), ((g30_101 0), penE), (q26_111, actE (g30_113 0)), ((g30_113 0), penE), (q26_123, actE (g30_125 0)), ((g30_125 0), penE), (q26_135, actE (g30_137 0)), ((g30_137 0), penE), (q26_147, actE (g30_149 0)), ((g30_149 0), penE)]) rfl ?_
  refine k_astq (t0 := 0) (ws' := (h0, .inr (1, [.ref q7_5, .int 0, .int 0])) :: [(q7_5, arR (cy 13) 14 (va_up (va_up (va_up (va_up (va_up (va_up (va_up (va_up (va_up (va_up (va_up (va_up (fun _ => none) (0 : Int32).toNatClampNeg (some q26_15)) (1 : Int32).toNatClampNeg (some q26_27)) (2 : Int32).toNatClampNeg (some q26_39)) (3 : Int32).toNatClampNeg (some q26_51)) (4 : Int32).toNatClampNeg (some q26_63)) (5 : Int32).toNatClampNeg (some q26_75)) (6 : Int32).toNatClampNeg (some q26_87)) (7 : Int32).toNatClampNeg (some q26_99)) (8 : Int32).toNatClampNeg (some q26_111)) (9 : Int32).toNatClampNeg (some q26_123)) (10 : Int32).toNatClampNeg (some q26_135)) (11 : Int32).toNatClampNeg (some q26_147))), (q26_15, actE (g30_17 0)), ((g30_17 0), penE), (q26_27, actE (g30_29 0)), ((g30_29 0), penE), (q26_39, actE (g30_41 0)), ((g30_41 0), penE), (q26_51, actE (g30_53 0)), ((g30_53 0), penE), (q26_63, actE (g30_65 0)), ((g30_65 0), penE), (q26_75, actE (g30_77 0)), ((g30_77 0), penE), (q26_87, actE (g30_89 0)), ((g30_89 0), penE), (q26_99, actE (g30_101 0)), ((g30_101 0), penE), (q26_111, actE (g30_113 0)), ((g30_113 0), penE), (q26_123, actE (g30_125 0)), ((g30_125 0), penE), (q26_135, actE (g30_137 0)), ((g30_137 0), penE), (q26_147, actE (g30_149 0)), ((g30_149 0), penE)]) X 1 24 2 dX1_init_33 rfl rfl rfl rfl (by unfold vp_in; decide) rfl ?_
  refine k_iinc (lv' := [(1, .int 12), (0, .ref h0)]) X (12) dX1_init_34 0 rfl (by decide) (by decide) rfl ?_
  refine k_goto X 15 dX1_init_37 (by decide) ?_
  refine k_iload X dX1_init_15 0 rfl ?_
  refine k_bipush X (14) dX1_init_16 (by decide) ?_
  refine k_ge_f X 40 dX1_init_18 (by decide) (by decide) ?_
  refine k_aload X dX1_init_21 1 rfl ?_
  refine k_getf X cf1 0 dX1_init_22 (by decide) fl_RX1_11 rfl ?_
  refine k_iload X dX1_init_25 0 rfl ?_
  refine k_new X cf0 dX1_init_26 (in_g 169 (by decide +kernel) rfl) (in_g 171 (by decide +kernel) rfl) (in_g 47 (by decide +kernel) rfl) (fs := [.null, .int 0, .int 0, .int 0, .int 0]) (fun j hj => by rcases (show j = 0 ∨ j = 1 ∨ j = 2 ∨ j = 3 ∨ j = 4 by omega) with rfl | rfl | rfl | rfl | rfl <;> rfl) (Nat.le_of_ble_eq_true rfl) (Nat.le_of_ble_eq_true rfl) (fun q26_159 => ?_)
  refine k_dup X dX1_init_29 ?_
  refine k_callN X n_X0_init dX1_init_30 cwb_X0_init (in_n 172 (by decide +kernel) rfl) (in_g 173 (by decide +kernel) rfl) rfl ⟨(Nat.le_of_ble_eq_true rfl), (Nat.le_of_ble_eq_true rfl)⟩ ⟨(Nat.le_of_ble_eq_true rfl), (Nat.le_of_ble_eq_true rfl)⟩ (Nat.le_of_ble_eq_true rfl) (fun g30_161 => ?_)
  refine k_ws (ws' := (h0, .inr (1, [.ref q7_5, .int 0, .int 0])) :: [(q7_5, arR (cy 13) 14 (va_up (va_up (va_up (va_up (va_up (va_up (va_up (va_up (va_up (va_up (va_up (va_up (fun _ => none) (0 : Int32).toNatClampNeg (some q26_15)) (1 : Int32).toNatClampNeg (some q26_27)) (2 : Int32).toNatClampNeg (some q26_39)) (3 : Int32).toNatClampNeg (some q26_51)) (4 : Int32).toNatClampNeg (some q26_63)) (5 : Int32).toNatClampNeg (some q26_75)) (6 : Int32).toNatClampNeg (some q26_87)) (7 : Int32).toNatClampNeg (some q26_99)) (8 : Int32).toNatClampNeg (some q26_111)) (9 : Int32).toNatClampNeg (some q26_123)) (10 : Int32).toNatClampNeg (some q26_135)) (11 : Int32).toNatClampNeg (some q26_147))), (q26_15, actE (g30_17 0)), ((g30_17 0), penE), (q26_27, actE (g30_29 0)), ((g30_29 0), penE), (q26_39, actE (g30_41 0)), ((g30_41 0), penE), (q26_51, actE (g30_53 0)), ((g30_53 0), penE), (q26_63, actE (g30_65 0)), ((g30_65 0), penE), (q26_75, actE (g30_77 0)), ((g30_77 0), penE), (q26_87, actE (g30_89 0)), ((g30_89 0), penE), (q26_99, actE (g30_101 0)), ((g30_101 0), penE), (q26_111, actE (g30_113 0)), ((g30_113 0), penE), (q26_123, actE (g30_125 0)), ((g30_125 0), penE), (q26_135, actE (g30_137 0)), ((g30_137 0), penE), (q26_147, actE (g30_149 0)), ((g30_149 0), penE), (q26_159, actE (g30_161 0)), ((g30_161 0), penE)]) rfl ?_
  refine k_astq (t0 := 0) (ws' := (h0, .inr (1, [.ref q7_5, .int 0, .int 0])) :: [(q7_5, arR (cy 13) 14 (va_up (va_up (va_up (va_up (va_up (va_up (va_up (va_up (va_up (va_up (va_up (va_up (va_up (fun _ => none) (0 : Int32).toNatClampNeg (some q26_15)) (1 : Int32).toNatClampNeg (some q26_27)) (2 : Int32).toNatClampNeg (some q26_39)) (3 : Int32).toNatClampNeg (some q26_51)) (4 : Int32).toNatClampNeg (some q26_63)) (5 : Int32).toNatClampNeg (some q26_75)) (6 : Int32).toNatClampNeg (some q26_87)) (7 : Int32).toNatClampNeg (some q26_99)) (8 : Int32).toNatClampNeg (some q26_111)) (9 : Int32).toNatClampNeg (some q26_123)) (10 : Int32).toNatClampNeg (some q26_135)) (11 : Int32).toNatClampNeg (some q26_147)) (12 : Int32).toNatClampNeg (some q26_159))), (q26_15, actE (g30_17 0)), ((g30_17 0), penE), (q26_27, actE (g30_29 0)), ((g30_29 0), penE), (q26_39, actE (g30_41 0)), ((g30_41 0), penE), (q26_51, actE (g30_53 0)), ((g30_53 0), penE), (q26_63, actE (g30_65 0)), ((g30_65 0), penE), (q26_75, actE (g30_77 0)), ((g30_77 0), penE), (q26_87, actE (g30_89 0)), ((g30_89 0), penE), (q26_99, actE (g30_101 0)), ((g30_101 0), penE), (q26_111, actE (g30_113 0)), ((g30_113 0), penE), (q26_123, actE (g30_125 0)), ((g30_125 0), penE), (q26_135, actE (g30_137 0)), ((g30_137 0), penE), (q26_147, actE (g30_149 0)), ((g30_149 0), penE), (q26_159, actE (g30_161 0)), ((g30_161 0), penE)]) X 1 26 2 dX1_init_33 rfl rfl rfl rfl (by unfold vp_in; decide) rfl ?_
  refine k_iinc (lv' := [(1, .int 13), (0, .ref h0)]) X (13) dX1_init_34 0 rfl (by decide) (by decide) rfl ?_
  refine k_goto X 15 dX1_init_37 (by decide) ?_
  refine k_iload X dX1_init_15 0 rfl ?_
  refine k_bipush X (14) dX1_init_16 (by decide) ?_
  refine k_ge_f X 40 dX1_init_18 (by decide) (by decide) ?_
  refine k_aload X dX1_init_21 1 rfl ?_
  refine k_getf X cf1 0 dX1_init_22 (by decide) fl_RX1_11 rfl ?_
  refine k_iload X dX1_init_25 0 rfl ?_
  refine k_new X cf0 dX1_init_26 (in_g 169 (by decide +kernel) rfl) (in_g 171 (by decide +kernel) rfl) (in_g 47 (by decide +kernel) rfl) (fs := [.null, .int 0, .int 0, .int 0, .int 0]) (fun j hj => by rcases (show j = 0 ∨ j = 1 ∨ j = 2 ∨ j = 3 ∨ j = 4 by omega) with rfl | rfl | rfl | rfl | rfl <;> rfl) (Nat.le_of_ble_eq_true rfl) (Nat.le_of_ble_eq_true rfl) (fun q26_171 => ?_)
  refine k_dup X dX1_init_29 ?_
  refine k_callN X n_X0_init dX1_init_30 cwb_X0_init (in_n 172 (by decide +kernel) rfl) (in_g 173 (by decide +kernel) rfl) rfl ⟨(Nat.le_of_ble_eq_true rfl), (Nat.le_of_ble_eq_true rfl)⟩ ⟨(Nat.le_of_ble_eq_true rfl), (Nat.le_of_ble_eq_true rfl)⟩ (Nat.le_of_ble_eq_true rfl) (fun g30_173 => ?_)
  refine k_ws (ws' := (h0, .inr (1, [.ref q7_5, .int 0, .int 0])) :: [(q7_5, arR (cy 13) 14 (va_up (va_up (va_up (va_up (va_up (va_up (va_up (va_up (va_up (va_up (va_up (va_up (va_up (fun _ => none) (0 : Int32).toNatClampNeg (some q26_15)) (1 : Int32).toNatClampNeg (some q26_27)) (2 : Int32).toNatClampNeg (some q26_39)) (3 : Int32).toNatClampNeg (some q26_51)) (4 : Int32).toNatClampNeg (some q26_63)) (5 : Int32).toNatClampNeg (some q26_75)) (6 : Int32).toNatClampNeg (some q26_87)) (7 : Int32).toNatClampNeg (some q26_99)) (8 : Int32).toNatClampNeg (some q26_111)) (9 : Int32).toNatClampNeg (some q26_123)) (10 : Int32).toNatClampNeg (some q26_135)) (11 : Int32).toNatClampNeg (some q26_147)) (12 : Int32).toNatClampNeg (some q26_159))), (q26_15, actE (g30_17 0)), ((g30_17 0), penE), (q26_27, actE (g30_29 0)), ((g30_29 0), penE), (q26_39, actE (g30_41 0)), ((g30_41 0), penE), (q26_51, actE (g30_53 0)), ((g30_53 0), penE), (q26_63, actE (g30_65 0)), ((g30_65 0), penE), (q26_75, actE (g30_77 0)), ((g30_77 0), penE), (q26_87, actE (g30_89 0)), ((g30_89 0), penE), (q26_99, actE (g30_101 0)), ((g30_101 0), penE), (q26_111, actE (g30_113 0)), ((g30_113 0), penE), (q26_123, actE (g30_125 0)), ((g30_125 0), penE), (q26_135, actE (g30_137 0)), ((g30_137 0), penE), (q26_147, actE (g30_149 0)), ((g30_149 0), penE), (q26_159, actE (g30_161 0)), ((g30_161 0), penE), (q26_171, actE (g30_173 0)), ((g30_173 0), penE)]) rfl ?_
  refine k_astq (t0 := 0) (ws' := (h0, .inr (1, [.ref q7_5, .int 0, .int 0])) :: [(q7_5, arR (cy 13) 14 (va_up (va_up (va_up (va_up (va_up (va_up (va_up (va_up (va_up (va_up (va_up (va_up (va_up (va_up (fun _ => none) (0 : Int32).toNatClampNeg (some q26_15)) (1 : Int32).toNatClampNeg (some q26_27)) (2 : Int32).toNatClampNeg (some q26_39)) (3 : Int32).toNatClampNeg (some q26_51)) (4 : Int32).toNatClampNeg (some q26_63)) (5 : Int32).toNatClampNeg (some q26_75)) (6 : Int32).toNatClampNeg (some q26_87)) (7 : Int32).toNatClampNeg (some q26_99)) (8 : Int32).toNatClampNeg (some q26_111)) (9 : Int32).toNatClampNeg (some q26_123)) (10 : Int32).toNatClampNeg (some q26_135)) (11 : Int32).toNatClampNeg (some q26_147)) (12 : Int32).toNatClampNeg (some q26_159)) (13 : Int32).toNatClampNeg (some q26_171))), (q26_15, actE (g30_17 0)), ((g30_17 0), penE), (q26_27, actE (g30_29 0)), ((g30_29 0), penE), (q26_39, actE (g30_41 0)), ((g30_41 0), penE), (q26_51, actE (g30_53 0)), ((g30_53 0), penE), (q26_63, actE (g30_65 0)), ((g30_65 0), penE), (q26_75, actE (g30_77 0)), ((g30_77 0), penE), (q26_87, actE (g30_89 0)), ((g30_89 0), penE), (q26_99, actE (g30_101 0)), ((g30_101 0), penE), (q26_111, actE (g30_113 0)), ((g30_113 0), penE), (q26_123, actE (g30_125 0)), ((g30_125 0), penE), (q26_135, actE (g30_137 0)), ((g30_137 0), penE), (q26_147, actE (g30_149 0)), ((g30_149 0), penE), (q26_159, actE (g30_161 0)), ((g30_161 0), penE), (q26_171, actE (g30_173 0)), ((g30_173 0), penE)]) X 1 28 2 dX1_init_33 rfl rfl rfl rfl (by unfold vp_in; decide) rfl ?_
  refine k_iinc (lv' := [(1, .int 14), (0, .ref h0)]) X (14) dX1_init_34 0 rfl (by decide) (by decide) rfl ?_
  refine k_goto X 15 dX1_init_37 (by decide) ?_
  refine k_iload X dX1_init_15 0 rfl ?_
  refine k_bipush X (14) dX1_init_16 (by decide) ?_
  refine k_ge_t X 40 dX1_init_18 (by decide) (by decide) ?_
  obtain ⟨U, eU⟩ : ∃ U : Nat → Nat, U = fun j => [q7_5, q26_15, (g30_17 0), q26_27, (g30_29 0), q26_39, (g30_41 0), q26_51, (g30_53 0), q26_63, (g30_65 0), q26_75, (g30_77 0), q26_87, (g30_89 0), q26_99, (g30_101 0), q26_111, (g30_113 0), q26_123, (g30_125 0), q26_135, (g30_137 0), q26_147, (g30_149 0), q26_159, (g30_161 0), q26_171, (g30_173 0)].getD j 0 := ⟨_, rfl⟩
  refine k_arr (g := fun j => some (U (1 + 2 * j))) (ws' := (h0, .inr (1, [.ref q7_5, .int 0, .int 0])) :: [(q7_5, arR (cy 13) 14 (fun j => some (U (1 + 2 * j)))), (q26_15, actE (g30_17 0)), ((g30_17 0), penE), (q26_27, actE (g30_29 0)), ((g30_29 0), penE), (q26_39, actE (g30_41 0)), ((g30_41 0), penE), (q26_51, actE (g30_53 0)), ((g30_53 0), penE), (q26_63, actE (g30_65 0)), ((g30_65 0), penE), (q26_75, actE (g30_77 0)), ((g30_77 0), penE), (q26_87, actE (g30_89 0)), ((g30_89 0), penE), (q26_99, actE (g30_101 0)), ((g30_101 0), penE), (q26_111, actE (g30_113 0)), ((g30_113 0), penE), (q26_123, actE (g30_125 0)), ((g30_125 0), penE), (q26_135, actE (g30_137 0)), ((g30_137 0), penE), (q26_147, actE (g30_149 0)), ((g30_149 0), penE), (q26_159, actE (g30_161 0)), ((g30_161 0), penE), (q26_171, actE (g30_173 0)), ((g30_173 0), penE)]) 1 rfl (fun j hj => by subst eU; rcases (show j = 0 ∨ j = 1 ∨ j = 2 ∨ j = 3 ∨ j = 4 ∨ j = 5 ∨ j = 6 ∨ j = 7 ∨ j = 8 ∨ j = 9 ∨ j = 10 ∨ j = 11 ∨ j = 12 ∨ j = 13 by omega) with rfl | rfl | rfl | rfl | rfl | rfl | rfl | rfl | rfl | rfl | rfl | rfl | rfl | rfl <;> rfl) rfl ?_
  exact k_ret X hr hlk U dX1_init_40 (by subst eU; rfl)
set_option maxRecDepth 20000 in
theorem n_X3_init : Cn (S := Nat → Nat) yX3_init cX3_init 1 2 3 19 (.inr (3, [.null, .null, .null, .int 0])) wSeen := by
  refine Cn.of (plainFor_of_name (by decide)) rfl (by decide) ?_
  intro l D cy p e s m args below meth c A h0 X hr hlk hname
  refine k_aload X dX3_init_0 0 rfl ?_
  refine k_obj X dX3_init_1 (in_g 210 (by decide +kernel) rfl) (in_g 62 (by decide +kernel) rfl) (in_g 63 (by decide +kernel) rfl) (Nat.le_of_ble_eq_true rfl) (Nat.le_of_ble_eq_true rfl) ?_
  refine k_aload X dX3_init_4 0 rfl ?_
  refine k_bipush X (6) dX3_init_5 (by decide) ?_
  refine k_newi X 6 dX3_init_7 (in_g 78 (by decide +kernel) rfl) (by decide) (by decide) (Nat.le_of_ble_eq_true rfl) (Nat.le_of_ble_eq_true rfl) (Nat.le_of_ble_eq_true rfl) (fun q7 => ?_)
  refine k_ws (ws' := (h0, .inr (3, [.null, .null, .null, .int 0])) :: [(q7, arI cy 6)]) rfl ?_
  refine k_putF X cf3 0 dX3_init_9 (by decide) fl_RX3_9 rfl hname rfl rfl rfl (Nat.le_of_ble_eq_true rfl) ?_
  refine k_ws (ws' := (h0, .inr (3, [.ref q7, .null, .null, .int 0])) :: [(q7, arI cy 6)]) rfl ?_
  refine k_aload X dX3_init_12 0 rfl ?_
  refine k_bipush X (6) dX3_init_13 (by decide) ?_
  refine k_newi X 6 dX3_init_15 (in_g 78 (by decide +kernel) rfl) (by decide) (by decide) (Nat.le_of_ble_eq_true rfl) (Nat.le_of_ble_eq_true rfl) (Nat.le_of_ble_eq_true rfl) (fun q15 => ?_)
  refine k_ws (ws' := (h0, .inr (3, [.ref q7, .null, .null, .int 0])) :: [(q7, arI cy 6), (q15, arI cy 6)]) rfl ?_
  refine k_putF X cf3 1 dX3_init_17 (by decide) fl_RX3_15 rfl hname rfl rfl rfl (Nat.le_of_ble_eq_true rfl) ?_
  refine k_ws (ws' := (h0, .inr (3, [.ref q7, .ref q15, .null, .int 0])) :: [(q7, arI cy 6), (q15, arI cy 6)]) rfl ?_
  refine k_aload X dX3_init_20 0 rfl ?_
  refine k_new X cf2 dX3_init_21 (in_g 211 (by decide +kernel) rfl) (in_g 102 (by decide +kernel) rfl) (in_g 45 (by decide +kernel) rfl) (fs := [.int 0, .int 0, .int 0, .int 0, .int 0, .int 0, .int 0]) (fun j hj => by rcases (show j = 0 ∨ j = 1 ∨ j = 2 ∨ j = 3 ∨ j = 4 ∨ j = 5 ∨ j = 6 by omega) with rfl | rfl | rfl | rfl | rfl | rfl | rfl <;> rfl) (Nat.le_of_ble_eq_true rfl) (Nat.le_of_ble_eq_true rfl) (fun q21 => ?_)
  refine k_dup X dX3_init_24 ?_
  refine k_callN X n_X2_init dX3_init_25 cwb_X2_init (in_n 212 (by decide +kernel) rfl) (in_g 104 (by decide +kernel) rfl) rfl ⟨(Nat.le_of_ble_eq_true rfl), (Nat.le_of_ble_eq_true rfl)⟩ ⟨(Nat.le_of_ble_eq_true rfl), (Nat.le_of_ble_eq_true rfl)⟩ (Nat.le_of_ble_eq_true rfl) (fun g25 => ?_)
  refine k_ws (ws' := (h0, .inr (3, [.ref q7, .ref q15, .null, .int 0])) :: [(q7, arI cy 6), (q15, arI cy 6), (q21, penE)]) rfl ?_
  refine k_putF X cf3 2 dX3_init_28 (by decide) fl_RX3_21 rfl hname rfl rfl rfl (Nat.le_of_ble_eq_true rfl) ?_
  refine k_ws (ws' := (h0, .inr (3, [.ref q7, .ref q15, .ref q21, .int 0])) :: [(q7, arI cy 6), (q15, arI cy 6), (q21, penE)]) rfl ?_
  exact k_ret X hr hlk (fun j => [q7, q15, q21].getD j 0) dX3_init_31 rfl
set_option maxRecDepth 20000 in
theorem n_X7_init : Cn (S := Nat → Nat) yX7_init cX7_init 1 1 6 133 (.inr (7, [.null, .null, .null, .null, .null, .null])) wWays := by
  refine Cn.of (plainFor_of_name (by decide)) rfl (by decide) ?_
  intro l D cy p e s m args below meth c A h0 X hr hlk hname
  refine k_aload X dX7_init_0 0 rfl ?_
  refine k_obj X dX7_init_1 (in_g 232 (by decide +kernel) rfl) (in_g 62 (by decide +kernel) rfl) (in_g 63 (by decide +kernel) rfl) (Nat.le_of_ble_eq_true rfl) (Nat.le_of_ble_eq_true rfl) ?_
  refine k_aload X dX7_init_4 0 rfl ?_
  refine k_bipush X (8) dX7_init_5 (by decide) ?_
  refine k_newi X 8 dX7_init_7 (in_g 78 (by decide +kernel) rfl) (by decide) (by decide) (Nat.le_of_ble_eq_true rfl) (Nat.le_of_ble_eq_true rfl) (Nat.le_of_ble_eq_true rfl) (fun q7 => ?_)
  refine k_ws (ws' := (h0, .inr (7, [.null, .null, .null, .null, .null, .null])) :: [(q7, arI cy 8)]) rfl ?_
  refine k_putF X cf7 0 dX7_init_9 (by decide) fl_RX7_9 rfl hname rfl rfl rfl (Nat.le_of_ble_eq_true rfl) ?_
  refine k_ws (ws' := (h0, .inr (7, [.ref q7, .null, .null, .null, .null, .null])) :: [(q7, arI cy 8)]) rfl ?_
  refine k_aload X dX7_init_12 0 rfl ?_
  refine k_bipush X (25) dX7_init_13 (by decide) ?_
  refine k_newi X 25 dX7_init_15 (in_g 78 (by decide +kernel) rfl) (by decide) (by decide) (Nat.le_of_ble_eq_true rfl) (Nat.le_of_ble_eq_true rfl) (Nat.le_of_ble_eq_true rfl) (fun q15 => ?_)
  refine k_ws (ws' := (h0, .inr (7, [.ref q7, .null, .null, .null, .null, .null])) :: [(q7, arI cy 8), (q15, arI cy 25)]) rfl ?_
  refine k_putF X cf7 1 dX7_init_17 (by decide) fl_RX7_15 rfl hname rfl rfl rfl (Nat.le_of_ble_eq_true rfl) ?_
  refine k_ws (ws' := (h0, .inr (7, [.ref q7, .ref q15, .null, .null, .null, .null])) :: [(q7, arI cy 8), (q15, arI cy 25)]) rfl ?_
  refine k_aload X dX7_init_20 0 rfl ?_
  refine k_bipush X (25) dX7_init_21 (by decide) ?_
  refine k_newi X 25 dX7_init_23 (in_g 78 (by decide +kernel) rfl) (by decide) (by decide) (Nat.le_of_ble_eq_true rfl) (Nat.le_of_ble_eq_true rfl) (Nat.le_of_ble_eq_true rfl) (fun q23 => ?_)
  refine k_ws (ws' := (h0, .inr (7, [.ref q7, .ref q15, .null, .null, .null, .null])) :: [(q7, arI cy 8), (q15, arI cy 25), (q23, arI cy 25)]) rfl ?_
  refine k_putF X cf7 2 dX7_init_25 (by decide) fl_RX7_18 rfl hname rfl rfl rfl (Nat.le_of_ble_eq_true rfl) ?_
  refine k_ws (ws' := (h0, .inr (7, [.ref q7, .ref q15, .ref q23, .null, .null, .null])) :: [(q7, arI cy 8), (q15, arI cy 25), (q23, arI cy 25)]) rfl ?_
  refine k_aload X dX7_init_28 0 rfl ?_
  refine k_bipush X (25) dX7_init_29 (by decide) ?_
  refine k_newi X 25 dX7_init_31 (in_g 78 (by decide +kernel) rfl) (by decide) (by decide) (Nat.le_of_ble_eq_true rfl) (Nat.le_of_ble_eq_true rfl) (Nat.le_of_ble_eq_true rfl) (fun q31 => ?_)
  refine k_ws (ws' := (h0, .inr (7, [.ref q7, .ref q15, .ref q23, .null, .null, .null])) :: [(q7, arI cy 8), (q15, arI cy 25), (q23, arI cy 25), (q31, arI cy 25)]) rfl ?_
  refine k_putF X cf7 3 dX7_init_33 (by decide) fl_RX7_21 rfl hname rfl rfl rfl (Nat.le_of_ble_eq_true rfl) ?_
  refine k_ws (ws' := (h0, .inr (7, [.ref q7, .ref q15, .ref q23, .ref q31, .null, .null])) :: [(q7, arI cy 8), (q15, arI cy 25), (q23, arI cy 25), (q31, arI cy 25)]) rfl ?_
  refine k_aload X dX7_init_36 0 rfl ?_
  refine k_bipush X (25) dX7_init_37 (by decide) ?_
  refine k_newi X 25 dX7_init_39 (in_g 78 (by decide +kernel) rfl) (by decide) (by decide) (Nat.le_of_ble_eq_true rfl) (Nat.le_of_ble_eq_true rfl) (Nat.le_of_ble_eq_true rfl) (fun q39 => ?_)
  refine k_ws (ws' := (h0, .inr (7, [.ref q7, .ref q15, .ref q23, .ref q31, .null, .null])) :: [(q7, arI cy 8), (q15, arI cy 25), (q23, arI cy 25), (q31, arI cy 25), (q39, arI cy 25)]) rfl ?_
  refine k_putF X cf7 4 dX7_init_41 (by decide) fl_RX7_24 rfl hname rfl rfl rfl (Nat.le_of_ble_eq_true rfl) ?_
  refine k_ws (ws' := (h0, .inr (7, [.ref q7, .ref q15, .ref q23, .ref q31, .ref q39, .null])) :: [(q7, arI cy 8), (q15, arI cy 25), (q23, arI cy 25), (q31, arI cy 25), (q39, arI cy 25)]) rfl ?_
  refine k_aload X dX7_init_44 0 rfl ?_
  refine k_bipush X (25) dX7_init_45 (by decide) ?_
  refine k_newi X 25 dX7_init_47 (in_g 78 (by decide +kernel) rfl) (by decide) (by decide) (Nat.le_of_ble_eq_true rfl) (Nat.le_of_ble_eq_true rfl) (Nat.le_of_ble_eq_true rfl) (fun q47 => ?_)
  refine k_ws (ws' := (h0, .inr (7, [.ref q7, .ref q15, .ref q23, .ref q31, .ref q39, .null])) :: [(q7, arI cy 8), (q15, arI cy 25), (q23, arI cy 25), (q31, arI cy 25), (q39, arI cy 25), (q47, arI cy 25)]) rfl ?_
  refine k_putF X cf7 5 dX7_init_49 (by decide) fl_RX7_27 rfl hname rfl rfl rfl (Nat.le_of_ble_eq_true rfl) ?_
  refine k_ws (ws' := (h0, .inr (7, [.ref q7, .ref q15, .ref q23, .ref q31, .ref q39, .ref q47])) :: [(q7, arI cy 8), (q15, arI cy 25), (q23, arI cy 25), (q31, arI cy 25), (q39, arI cy 25), (q47, arI cy 25)]) rfl ?_
  exact k_ret X hr hlk (fun j => [q7, q15, q23, q31, q39, q47].getD j 0) dX7_init_52 rfl
set_option maxRecDepth 20000 in
theorem n_X5_init : Cn (S := Nat → Nat) yX5_init cX5_init 1 3 7 61 (.inr (5, [.null, .int 0])) wSlot := by
  refine Cn.of (plainFor_of_name (by decide)) rfl (by decide) ?_
  intro l D cy p e s m args below meth c A h0 X hr hlk hname
  refine k_aload X dX5_init_0 0 rfl ?_
  refine k_obj X dX5_init_1 (in_g 258 (by decide +kernel) rfl) (in_g 62 (by decide +kernel) rfl) (in_g 63 (by decide +kernel) rfl) (Nat.le_of_ble_eq_true rfl) (Nat.le_of_ble_eq_true rfl) ?_
  refine k_aload X dX5_init_4 0 rfl ?_
  refine k_new X cf4 dX5_init_5 (in_g 259 (by decide +kernel) rfl) (in_g 95 (by decide +kernel) rfl) (in_g 44 (by decide +kernel) rfl) (fs := [.null, .null, .int 0, .int 0]) (fun j hj => by rcases (show j = 0 ∨ j = 1 ∨ j = 2 ∨ j = 3 by omega) with rfl | rfl | rfl | rfl <;> rfl) (Nat.le_of_ble_eq_true rfl) (Nat.le_of_ble_eq_true rfl) (fun q5 => ?_)
  refine k_dup X dX5_init_8 ?_
  refine k_call X n_X4_init dX5_init_9 cwb_X4_init (in_g 260 (by decide +kernel) rfl) (in_g 97 (by decide +kernel) rfl) rfl ⟨(Nat.le_of_ble_eq_true rfl), (Nat.le_of_ble_eq_true rfl)⟩ ⟨(Nat.le_of_ble_eq_true rfl), (Nat.le_of_ble_eq_true rfl)⟩ (Nat.le_of_ble_eq_true rfl) (fun g9 => ?_)
  refine k_ws (ws' := (h0, .inr (5, [.null, .int 0])) :: wSheet cy q5 g9) rfl ?_
  refine k_putF X cf5 0 dX5_init_12 (by decide) fl_RX5_10 rfl hname rfl rfl rfl (Nat.le_of_ble_eq_true rfl) ?_
  refine k_ws (ws' := (h0, .inr (5, [.ref q5, .int 0])) :: wSheet cy q5 g9) rfl ?_
  exact k_ret X hr hlk (consN q5 g9) dX5_init_15 rfl
set_option maxRecDepth 20000 in
theorem n_X9_init : Cn (S := Nat → Nat → Nat) yX9_init cX9_init 2 4 78 665 (.inr (9, [.null, .null, .null, .null, .null, .null, .null, .null, .null, .null, .long 0])) wNib := by
  refine Cn.of (plainFor_of_name (by decide)) rfl (by decide) ?_
  intro l D cy p e s m args below meth c A h0 X hr hlk hname
  refine k_aload X dX9_init_0 0 rfl ?_
  refine k_obj X dX9_init_1 (in_g 61 (by decide +kernel) rfl) (in_g 62 (by decide +kernel) rfl) (in_g 63 (by decide +kernel) rfl) (Nat.le_of_ble_eq_true rfl) (Nat.le_of_ble_eq_true rfl) ?_
  refine k_aload X dX9_init_4 0 rfl ?_
  refine k_new X cf6 dX9_init_5 (in_g 64 (by decide +kernel) rfl) (in_g 65 (by decide +kernel) rfl) (in_g 42 (by decide +kernel) rfl) (fs := [.null, .int 0]) (fun j hj => by rcases (show j = 0 ∨ j = 1 by omega) with rfl | rfl <;> rfl) (Nat.le_of_ble_eq_true rfl) (Nat.le_of_ble_eq_true rfl) (fun q5_4 => ?_)
  refine k_dup X dX9_init_8 ?_
  refine k_callN X n_X6_init dX9_init_9 cwb_X6_init (in_n 66 (by decide +kernel) rfl) (in_g 67 (by decide +kernel) rfl) rfl ⟨(Nat.le_of_ble_eq_true rfl), (Nat.le_of_ble_eq_true rfl)⟩ ⟨(Nat.le_of_ble_eq_true rfl), (Nat.le_of_ble_eq_true rfl)⟩ (Nat.le_of_ble_eq_true rfl) (fun g9_6 => ?_)
  refine k_ws (ws' := (h0, .inr (9, [.null, .null, .null, .null, .null, .null, .null, .null, .null, .null, .long 0])) :: wText cy q5_4 g9_6) rfl ?_
  refine k_putF X cf9 0 dX9_init_12 (by decide) fl_RX9_10 rfl hname rfl rfl rfl (Nat.le_of_ble_eq_true rfl) ?_
  refine k_ws (ws' := (h0, .inr (9, [.ref q5_4, .null, .null, .null, .null, .null, .null, .null, .null, .null, .long 0])) :: wText cy q5_4 g9_6) rfl ?_
  refine k_aload X dX9_init_15 0 rfl ?_
  refine k_new X cf8 dX9_init_16 (in_g 79 (by decide +kernel) rfl) (in_g 80 (by decide +kernel) rfl) (in_g 43 (by decide +kernel) rfl) (fs := [.null, .int 0]) (fun j hj => by rcases (show j = 0 ∨ j = 1 by omega) with rfl | rfl <;> rfl) (Nat.le_of_ble_eq_true rfl) (Nat.le_of_ble_eq_true rfl) (fun q16_9 => ?_)
  refine k_dup X dX9_init_19 ?_
  refine k_callN X n_X8_init dX9_init_20 cwb_X8_init (in_n 81 (by decide +kernel) rfl) (in_g 82 (by decide +kernel) rfl) rfl ⟨(Nat.le_of_ble_eq_true rfl), (Nat.le_of_ble_eq_true rfl)⟩ ⟨(Nat.le_of_ble_eq_true rfl), (Nat.le_of_ble_eq_true rfl)⟩ (Nat.le_of_ble_eq_true rfl) (fun g20_11 => ?_)
  refine k_ws (ws' := (h0, .inr (9, [.ref q5_4, .null, .null, .null, .null, .null, .null, .null, .null, .null, .long 0])) :: (wText cy q5_4 g9_6 ++ wWord cy q16_9 g20_11)) rfl ?_
  refine k_putF X cf9 1 dX9_init_23 (by decide) fl_RX9_19 rfl hname rfl rfl rfl (Nat.le_of_ble_eq_true rfl) ?_
  refine k_ws (ws' := (h0, .inr (9, [.ref q5_4, .ref q16_9, .null, .null, .null, .null, .null, .null, .null, .null, .long 0])) :: (wText cy q5_4 g9_6 ++ wWord cy q16_9 g20_11)) rfl ?_
  refine k_aload X dX9_init_26 0 rfl ?_
  refine k_new X cf4 dX9_init_27 (in_g 94 (by decide +kernel) rfl) (in_g 95 (by decide +kernel) rfl) (in_g 44 (by decide +kernel) rfl) (fs := [.null, .null, .int 0, .int 0]) (fun j hj => by rcases (show j = 0 ∨ j = 1 ∨ j = 2 ∨ j = 3 by omega) with rfl | rfl | rfl | rfl <;> rfl) (Nat.le_of_ble_eq_true rfl) (Nat.le_of_ble_eq_true rfl) (fun q27_14 => ?_)
  refine k_dup X dX9_init_30 ?_
  refine k_call X n_X4_init dX9_init_31 cwb_X4_init (in_g 96 (by decide +kernel) rfl) (in_g 97 (by decide +kernel) rfl) rfl ⟨(Nat.le_of_ble_eq_true rfl), (Nat.le_of_ble_eq_true rfl)⟩ ⟨(Nat.le_of_ble_eq_true rfl), (Nat.le_of_ble_eq_true rfl)⟩ (Nat.le_of_ble_eq_true rfl) (fun g31_16 => ?_)
  refine k_ws (ws' := (h0, .inr (9, [.ref q5_4, .ref q16_9, .null, .null, .null, .null, .null, .null, .null, .null, .long 0])) :: ((wText cy q5_4 g9_6 ++ wWord cy q16_9 g20_11) ++ wSheet cy q27_14 g31_16)) rfl ?_
  refine k_putF X cf9 2 dX9_init_34 (by decide) fl_RX9_26 rfl hname rfl rfl rfl (Nat.le_of_ble_eq_true rfl) ?_
  refine k_ws (ws' := (h0, .inr (9, [.ref q5_4, .ref q16_9, .ref q27_14, .null, .null, .null, .null, .null, .null, .null, .long 0])) :: ((wText cy q5_4 g9_6 ++ wWord cy q16_9 g20_11) ++ wSheet cy q27_14 g31_16)) rfl ?_
  refine k_aload X dX9_init_37 0 rfl ?_
  refine k_new X cf4 dX9_init_38 (in_g 94 (by decide +kernel) rfl) (in_g 95 (by decide +kernel) rfl) (in_g 44 (by decide +kernel) rfl) (fs := [.null, .null, .int 0, .int 0]) (fun j hj => by rcases (show j = 0 ∨ j = 1 ∨ j = 2 ∨ j = 3 by omega) with rfl | rfl | rfl | rfl <;> rfl) (Nat.le_of_ble_eq_true rfl) (Nat.le_of_ble_eq_true rfl) (fun q38_19 => ?_)
  refine k_dup X dX9_init_41 ?_
  refine k_call X n_X4_init dX9_init_42 cwb_X4_init (in_g 96 (by decide +kernel) rfl) (in_g 97 (by decide +kernel) rfl) rfl ⟨(Nat.le_of_ble_eq_true rfl), (Nat.le_of_ble_eq_true rfl)⟩ ⟨(Nat.le_of_ble_eq_true rfl), (Nat.le_of_ble_eq_true rfl)⟩ (Nat.le_of_ble_eq_true rfl) (fun g42_21 => ?_)
  refine k_ws (ws' := (h0, .inr (9, [.ref q5_4, .ref q16_9, .ref q27_14, .null, .null, .null, .null, .null, .null, .null, .long 0])) :: (((wText cy q5_4 g9_6 ++ wWord cy q16_9 g20_11) ++ wSheet cy q27_14 g31_16) ++ wSheet cy q38_19 g42_21)) rfl ?_
  refine k_putF X cf9 3 dX9_init_45 (by decide) fl_RX9_30 rfl hname rfl rfl rfl (Nat.le_of_ble_eq_true rfl) ?_
  refine k_ws (ws' := (h0, .inr (9, [.ref q5_4, .ref q16_9, .ref q27_14, .ref q38_19, .null, .null, .null, .null, .null, .null, .long 0])) :: (((wText cy q5_4 g9_6 ++ wWord cy q16_9 g20_11) ++ wSheet cy q27_14 g31_16) ++ wSheet cy q38_19 g42_21)) rfl ?_
  refine k_aload X dX9_init_48 0 rfl ?_
  refine k_new X cf1 dX9_init_49 (in_g 163 (by decide +kernel) rfl) (in_g 164 (by decide +kernel) rfl) (in_g 46 (by decide +kernel) rfl) (fs := [.null, .int 0, .int 0]) (fun j hj => by rcases (show j = 0 ∨ j = 1 ∨ j = 2 by omega) with rfl | rfl | rfl <;> rfl) (Nat.le_of_ble_eq_true rfl) (Nat.le_of_ble_eq_true rfl) (fun q49_24 => ?_)
  refine k_dup X dX9_init_52 ?_
  refine k_call X n_X1_init dX9_init_53 cwb_X1_init (in_g 165 (by decide +kernel) rfl) (in_g 166 (by decide +kernel) rfl) rfl ⟨(Nat.le_of_ble_eq_true rfl), (Nat.le_of_ble_eq_true rfl)⟩ ⟨(Nat.le_of_ble_eq_true rfl), (Nat.le_of_ble_eq_true rfl)⟩ (Nat.le_of_ble_eq_true rfl) (fun g53_26 => ?_)
  refine k_ws (ws' := (h0, .inr (9, [.ref q5_4, .ref q16_9, .ref q27_14, .ref q38_19, .null, .null, .null, .null, .null, .null, .long 0])) :: ((((wText cy q5_4 g9_6 ++ wWord cy q16_9 g20_11) ++ wSheet cy q27_14 g31_16) ++ wSheet cy q38_19 g42_21) ++ wActs cy q49_24 g53_26)) rfl ?_
  refine k_putF X cf9 4 dX9_init_56 (by decide) fl_RX9_36 rfl hname rfl rfl rfl (Nat.le_of_ble_eq_true rfl) ?_
  refine k_ws (ws' := (h0, .inr (9, [.ref q5_4, .ref q16_9, .ref q27_14, .ref q38_19, .ref q49_24, .null, .null, .null, .null, .null, .long 0])) :: ((((wText cy q5_4 g9_6 ++ wWord cy q16_9 g20_11) ++ wSheet cy q27_14 g31_16) ++ wSheet cy q38_19 g42_21) ++ wActs cy q49_24 g53_26)) rfl ?_
  refine k_aload X dX9_init_59 0 rfl ?_
  refine k_new X cf3 dX9_init_60 (in_g 205 (by decide +kernel) rfl) (in_g 206 (by decide +kernel) rfl) (in_g 48 (by decide +kernel) rfl) (fs := [.null, .null, .null, .int 0]) (fun j hj => by rcases (show j = 0 ∨ j = 1 ∨ j = 2 ∨ j = 3 by omega) with rfl | rfl | rfl | rfl <;> rfl) (Nat.le_of_ble_eq_true rfl) (Nat.le_of_ble_eq_true rfl) (fun q60_29 => ?_)
  refine k_dup X dX9_init_63 ?_
  refine k_callN X n_X3_init dX9_init_64 cwb_X3_init (in_n 207 (by decide +kernel) rfl) (in_g 208 (by decide +kernel) rfl) rfl ⟨(Nat.le_of_ble_eq_true rfl), (Nat.le_of_ble_eq_true rfl)⟩ ⟨(Nat.le_of_ble_eq_true rfl), (Nat.le_of_ble_eq_true rfl)⟩ (Nat.le_of_ble_eq_true rfl) (fun g64_31 => ?_)
  refine k_ws (ws' := (h0, .inr (9, [.ref q5_4, .ref q16_9, .ref q27_14, .ref q38_19, .ref q49_24, .null, .null, .null, .null, .null, .long 0])) :: (((((wText cy q5_4 g9_6 ++ wWord cy q16_9 g20_11) ++ wSheet cy q27_14 g31_16) ++ wSheet cy q38_19 g42_21) ++ wActs cy q49_24 g53_26) ++ wSeen cy q60_29 g64_31)) rfl ?_
  refine k_putF X cf9 5 dX9_init_67 (by decide) fl_RX9_43 rfl hname rfl rfl rfl (Nat.le_of_ble_eq_true rfl) ?_
  refine k_ws (ws' := (h0, .inr (9, [.ref q5_4, .ref q16_9, .ref q27_14, .ref q38_19, .ref q49_24, .ref q60_29, .null, .null, .null, .null, .long 0])) :: (((((wText cy q5_4 g9_6 ++ wWord cy q16_9 g20_11) ++ wSheet cy q27_14 g31_16) ++ wSheet cy q38_19 g42_21) ++ wActs cy q49_24 g53_26) ++ wSeen cy q60_29 g64_31)) rfl ?_
  refine k_aload X dX9_init_70 0 rfl ?_
  refine k_new X cf7 dX9_init_71 (in_g 227 (by decide +kernel) rfl) (in_g 228 (by decide +kernel) rfl) (in_g 49 (by decide +kernel) rfl) (fs := [.null, .null, .null, .null, .null, .null]) (fun j hj => by rcases (show j = 0 ∨ j = 1 ∨ j = 2 ∨ j = 3 ∨ j = 4 ∨ j = 5 by omega) with rfl | rfl | rfl | rfl | rfl | rfl <;> rfl) (Nat.le_of_ble_eq_true rfl) (Nat.le_of_ble_eq_true rfl) (fun q71_34 => ?_)
  refine k_dup X dX9_init_74 ?_
  refine k_callN X n_X7_init dX9_init_75 cwb_X7_init (in_n 229 (by decide +kernel) rfl) (in_g 230 (by decide +kernel) rfl) rfl ⟨(Nat.le_of_ble_eq_true rfl), (Nat.le_of_ble_eq_true rfl)⟩ ⟨(Nat.le_of_ble_eq_true rfl), (Nat.le_of_ble_eq_true rfl)⟩ (Nat.le_of_ble_eq_true rfl) (fun g75_36 => ?_)
  refine k_ws (ws' := (h0, .inr (9, [.ref q5_4, .ref q16_9, .ref q27_14, .ref q38_19, .ref q49_24, .ref q60_29, .null, .null, .null, .null, .long 0])) :: ((((((wText cy q5_4 g9_6 ++ wWord cy q16_9 g20_11) ++ wSheet cy q27_14 g31_16) ++ wSheet cy q38_19 g42_21) ++ wActs cy q49_24 g53_26) ++ wSeen cy q60_29 g64_31) ++ wWays cy q71_34 g75_36)) rfl ?_
  refine k_putF X cf9 6 dX9_init_78 (by decide) fl_RX9_50 rfl hname rfl rfl rfl (Nat.le_of_ble_eq_true rfl) ?_
  refine k_ws (ws' := (h0, .inr (9, [.ref q5_4, .ref q16_9, .ref q27_14, .ref q38_19, .ref q49_24, .ref q60_29, .ref q71_34, .null, .null, .null, .long 0])) :: ((((((wText cy q5_4 g9_6 ++ wWord cy q16_9 g20_11) ++ wSheet cy q27_14 g31_16) ++ wSheet cy q38_19 g42_21) ++ wActs cy q49_24 g53_26) ++ wSeen cy q60_29 g64_31) ++ wWays cy q71_34 g75_36)) rfl ?_
  refine k_aload X dX9_init_81 0 rfl ?_
  refine k_iconst X (2) dX9_init_82 (by decide) ?_
  refine k_newq X 2 4 15 dX9_init_83 (in_g 252 (by decide +kernel) rfl) (fun h => h.2.2.2.2) (fun cA => rfl) (by decide) (by decide) (Nat.le_of_ble_eq_true rfl) (Nat.le_of_ble_eq_true rfl) (Nat.le_of_ble_eq_true rfl) (fun q83_40 => ?_)
  refine k_ws (ws' := (h0, .inr (9, [.ref q5_4, .ref q16_9, .ref q27_14, .ref q38_19, .ref q49_24, .ref q60_29, .ref q71_34, .null, .null, .null, .long 0])) :: (((((((wText cy q5_4 g9_6 ++ wWord cy q16_9 g20_11) ++ wSheet cy q27_14 g31_16) ++ wSheet cy q38_19 g42_21) ++ wActs cy q49_24 g53_26) ++ wSeen cy q60_29 g64_31) ++ wWays cy q71_34 g75_36) ++ [(q83_40, arR (cy 15) 2 (fun _ => none))])) rfl ?_
  refine k_putF X cf9 7 dX9_init_86 (by decide) fl_RX9_56 rfl hname rfl rfl rfl (Nat.le_of_ble_eq_true rfl) ?_
  refine k_ws (ws' := (h0, .inr (9, [.ref q5_4, .ref q16_9, .ref q27_14, .ref q38_19, .ref q49_24, .ref q60_29, .ref q71_34, .ref q83_40, .null, .null, .long 0])) :: (((((((wText cy q5_4 g9_6 ++ wWord cy q16_9 g20_11) ++ wSheet cy q27_14 g31_16) ++ wSheet cy q38_19 g42_21) ++ wActs cy q49_24 g53_26) ++ wSeen cy q60_29 g64_31) ++ wWays cy q71_34 g75_36) ++ [(q83_40, arR (cy 15) 2 (fun _ => none))])) rfl ?_
  refine k_aload X dX9_init_89 0 rfl ?_
  refine k_iconst X (4) dX9_init_90 (by decide) ?_
  refine k_newi X 4 dX9_init_91 (in_g 78 (by decide +kernel) rfl) (by decide) (by decide) (Nat.le_of_ble_eq_true rfl) (Nat.le_of_ble_eq_true rfl) (Nat.le_of_ble_eq_true rfl) (fun q91_44 => ?_)
  refine k_ws (ws' := (h0, .inr (9, [.ref q5_4, .ref q16_9, .ref q27_14, .ref q38_19, .ref q49_24, .ref q60_29, .ref q71_34, .ref q83_40, .null, .null, .long 0])) :: ((((((((wText cy q5_4 g9_6 ++ wWord cy q16_9 g20_11) ++ wSheet cy q27_14 g31_16) ++ wSheet cy q38_19 g42_21) ++ wActs cy q49_24 g53_26) ++ wSeen cy q60_29 g64_31) ++ wWays cy q71_34 g75_36) ++ [(q83_40, arR (cy 15) 2 (fun _ => none))]) ++ [(q91_44, arI cy 4)])) rfl ?_
  refine k_putF X cf9 8 dX9_init_93 (by decide) fl_RX9_60 rfl hname rfl rfl rfl (Nat.le_of_ble_eq_true rfl) ?_
  refine k_ws (ws' := (h0, .inr (9, [.ref q5_4, .ref q16_9, .ref q27_14, .ref q38_19, .ref q49_24, .ref q60_29, .ref q71_34, .ref q83_40, .ref q91_44, .null, .long 0])) :: ((((((((wText cy q5_4 g9_6 ++ wWord cy q16_9 g20_11) ++ wSheet cy q27_14 g31_16) ++ wSheet cy q38_19 g42_21) ++ wActs cy q49_24 g53_26) ++ wSeen cy q60_29 g64_31) ++ wWays cy q71_34 g75_36) ++ [(q83_40, arR (cy 15) 2 (fun _ => none))]) ++ [(q91_44, arI cy 4)])) rfl ?_
  refine k_aload X dX9_init_96 0 rfl ?_
  refine k_iconst X (4) dX9_init_97 (by decide) ?_
  refine k_newi X 4 dX9_init_98 (in_g 78 (by decide +kernel) rfl) (by decide) (by decide) (Nat.le_of_ble_eq_true rfl) (Nat.le_of_ble_eq_true rfl) (Nat.le_of_ble_eq_true rfl) (fun q98_48 => ?_)
  refine k_ws (ws' := (h0, .inr (9, [.ref q5_4, .ref q16_9, .ref q27_14, .ref q38_19, .ref q49_24, .ref q60_29, .ref q71_34, .ref q83_40, .ref q91_44, .null, .long 0])) :: (((((((((wText cy q5_4 g9_6 ++ wWord cy q16_9 g20_11) ++ wSheet cy q27_14 g31_16) ++ wSheet cy q38_19 g42_21) ++ wActs cy q49_24 g53_26) ++ wSeen cy q60_29 g64_31) ++ wWays cy q71_34 g75_36) ++ [(q83_40, arR (cy 15) 2 (fun _ => none))]) ++ [(q91_44, arI cy 4)]) ++ [(q98_48, arI cy 4)])) rfl ?_
  refine k_putF X cf9 9 dX9_init_100 (by decide) fl_RX9_64 rfl hname rfl rfl rfl (Nat.le_of_ble_eq_true rfl) ?_
  refine k_ws (ws' := (h0, .inr (9, [.ref q5_4, .ref q16_9, .ref q27_14, .ref q38_19, .ref q49_24, .ref q60_29, .ref q71_34, .ref q83_40, .ref q91_44, .ref q98_48, .long 0])) :: (((((((((wText cy q5_4 g9_6 ++ wWord cy q16_9 g20_11) ++ wSheet cy q27_14 g31_16) ++ wSheet cy q38_19 g42_21) ++ wActs cy q49_24 g53_26) ++ wSeen cy q60_29 g64_31) ++ wWays cy q71_34 g75_36) ++ [(q83_40, arR (cy 15) 2 (fun _ => none))]) ++ [(q91_44, arI cy 4)]) ++ [(q98_48, arI cy 4)])) rfl ?_
  refine k_iconst X (0) dX9_init_103 (by decide) ?_
  refine k_istore (lv' := [(1, .int 0), (0, .ref h0)]) X dX9_init_104 (by decide) rfl ?_
  refine k_iload X dX9_init_105 0 rfl ?_
  refine k_iconst X (2) dX9_init_106 (by decide) ?_
  refine k_ge_f X 129 dX9_init_107 (by decide) (by decide) ?_
  refine k_aload X dX9_init_110 1 rfl ?_
  refine k_getf X cf9 7 dX9_init_111 (by decide) fl_RX9_56 rfl ?_
  refine k_iload X dX9_init_114 0 rfl ?_
  refine k_new X cf5 dX9_init_115 (in_g 252 (by decide +kernel) rfl) (in_g 254 (by decide +kernel) rfl) (in_g 50 (by decide +kernel) rfl) (fs := [.null, .int 0]) (fun j hj => by rcases (show j = 0 ∨ j = 1 by omega) with rfl | rfl <;> rfl) (Nat.le_of_ble_eq_true rfl) (Nat.le_of_ble_eq_true rfl) (fun q115_58 => ?_)
  refine k_dup X dX9_init_118 ?_
  refine k_callN X n_X5_init dX9_init_119 cwb_X5_init (in_n 255 (by decide +kernel) rfl) (in_g 256 (by decide +kernel) rfl) rfl ⟨(Nat.le_of_ble_eq_true rfl), (Nat.le_of_ble_eq_true rfl)⟩ ⟨(Nat.le_of_ble_eq_true rfl), (Nat.le_of_ble_eq_true rfl)⟩ (Nat.le_of_ble_eq_true rfl) (fun g119_60 => ?_)
  refine k_ws (ws' := (h0, .inr (9, [.ref q5_4, .ref q16_9, .ref q27_14, .ref q38_19, .ref q49_24, .ref q60_29, .ref q71_34, .ref q83_40, .ref q91_44, .ref q98_48, .long 0])) :: ((((((((((wText cy q5_4 g9_6 ++ wWord cy q16_9 g20_11) ++ wSheet cy q27_14 g31_16) ++ wSheet cy q38_19 g42_21) ++ wActs cy q49_24 g53_26) ++ wSeen cy q60_29 g64_31) ++ wWays cy q71_34 g75_36) ++ [(q83_40, arR (cy 15) 2 (fun _ => none))]) ++ [(q91_44, arI cy 4)]) ++ [(q98_48, arI cy 4)]) ++ wSlot cy q115_58 g119_60)) rfl ?_
  refine k_astq (t0 := 0) (ws' := (h0, .inr (9, [.ref q5_4, .ref q16_9, .ref q27_14, .ref q38_19, .ref q49_24, .ref q60_29, .ref q71_34, .ref q83_40, .ref q91_44, .ref q98_48, .long 0])) :: ((((((((((wText cy q5_4 g9_6 ++ wWord cy q16_9 g20_11) ++ wSheet cy q27_14 g31_16) ++ wSheet cy q38_19 g42_21) ++ wActs cy q49_24 g53_26) ++ wSeen cy q60_29 g64_31) ++ wWays cy q71_34 g75_36) ++ [(q83_40, arR (cy 15) 2 (va_up (fun _ => none) (0 : Int32).toNatClampNeg (some q115_58)))]) ++ [(q91_44, arI cy 4)]) ++ [(q98_48, arI cy 4)]) ++ wSlot cy q115_58 g119_60)) X 60 63 4 dX9_init_122 rfl rfl rfl rfl (by unfold vp_in; decide) rfl ?_
  refine k_iinc (lv' := [(1, .int 1), (0, .ref h0)]) X (1) dX9_init_123 0 rfl (by decide) (by decide) rfl ?_
  refine k_goto X 105 dX9_init_126 (by decide) ?_
  refine k_iload X dX9_init_105 0 rfl ?_
  refine k_iconst X (2) dX9_init_106 (by decide) ?_
  refine k_ge_f X 129 dX9_init_107 (by decide) (by decide) ?_
  refine k_aload X dX9_init_110 1 rfl ?_
  refine k_getf X cf9 7 dX9_init_111 (by decide) fl_RX9_56 rfl ?_
  refine k_iload X dX9_init_114 0 rfl ?_
  refine k_new X cf5 dX9_init_115 (in_g 252 (by decide +kernel) rfl) (in_g 254 (by decide +kernel) rfl) (in_g 50 (by decide +kernel) rfl) (fs := [.null, .int 0]) (fun j hj => by rcases (show j = 0 ∨ j = 1 by omega) with rfl | rfl <;> rfl) (Nat.le_of_ble_eq_true rfl) (Nat.le_of_ble_eq_true rfl) (fun q115_70 => ?_)
  refine k_dup X dX9_init_118 ?_
  refine k_callN X n_X5_init dX9_init_119 cwb_X5_init (in_n 255 (by decide +kernel) rfl) (in_g 256 (by decide +kernel) rfl) rfl ⟨(Nat.le_of_ble_eq_true rfl), (Nat.le_of_ble_eq_true rfl)⟩ ⟨(Nat.le_of_ble_eq_true rfl), (Nat.le_of_ble_eq_true rfl)⟩ (Nat.le_of_ble_eq_true rfl) (fun g119_72 => ?_)
  refine k_ws (ws' := (h0, .inr (9, [.ref q5_4, .ref q16_9, .ref q27_14, .ref q38_19, .ref q49_24, .ref q60_29, .ref q71_34, .ref q83_40, .ref q91_44, .ref q98_48, .long 0])) :: (((((((((((wText cy q5_4 g9_6 ++ wWord cy q16_9 g20_11) ++ wSheet cy q27_14 g31_16) ++ wSheet cy q38_19 g42_21) ++ wActs cy q49_24 g53_26) ++ wSeen cy q60_29 g64_31) ++ wWays cy q71_34 g75_36) ++ [(q83_40, arR (cy 15) 2 (va_up (fun _ => none) (0 : Int32).toNatClampNeg (some q115_58)))]) ++ [(q91_44, arI cy 4)]) ++ [(q98_48, arI cy 4)]) ++ wSlot cy q115_58 g119_60) ++ wSlot cy q115_70 g119_72)) rfl ?_
  refine k_astq (t0 := 0) (ws' := (h0, .inr (9, [.ref q5_4, .ref q16_9, .ref q27_14, .ref q38_19, .ref q49_24, .ref q60_29, .ref q71_34, .ref q83_40, .ref q91_44, .ref q98_48, .long 0])) :: (((((((((((wText cy q5_4 g9_6 ++ wWord cy q16_9 g20_11) ++ wSheet cy q27_14 g31_16) ++ wSheet cy q38_19 g42_21) ++ wActs cy q49_24 g53_26) ++ wSeen cy q60_29 g64_31) ++ wWays cy q71_34 g75_36) ++ [(q83_40, arR (cy 15) 2 (va_up (va_up (fun _ => none) (0 : Int32).toNatClampNeg (some q115_58)) (1 : Int32).toNatClampNeg (some q115_70)))]) ++ [(q91_44, arI cy 4)]) ++ [(q98_48, arI cy 4)]) ++ wSlot cy q115_58 g119_60) ++ wSlot cy q115_70 g119_72)) X 60 71 4 dX9_init_122 rfl rfl rfl rfl (by unfold vp_in; decide) rfl ?_
  refine k_iinc (lv' := [(1, .int 2), (0, .ref h0)]) X (2) dX9_init_123 0 rfl (by decide) (by decide) rfl ?_
  refine k_goto X 105 dX9_init_126 (by decide) ?_
  refine k_iload X dX9_init_105 0 rfl ?_
  refine k_iconst X (2) dX9_init_106 (by decide) ?_
  refine k_ge_t X 129 dX9_init_107 (by decide) (by decide) ?_
  obtain ⟨U, eU⟩ : ∃ U : Nat → Nat → Nat, U = fun j => [consN q5_4 g9_6, consN q16_9 g20_11, consN q27_14 g31_16, consN q38_19 g42_21, consN q49_24 g53_26, consN q60_29 g64_31, consN q71_34 g75_36, consN q83_40 u0, consN q91_44 u0, consN q98_48 u0, consN q115_58 g119_60, consN q115_70 g119_72].getD j u0 := ⟨_, rfl⟩
  refine k_arr (g := fun j => some (U (10 + j) 0)) (ws' := (h0, .inr (9, [.ref q5_4, .ref q16_9, .ref q27_14, .ref q38_19, .ref q49_24, .ref q60_29, .ref q71_34, .ref q83_40, .ref q91_44, .ref q98_48, .long 0])) :: (((((((((((wText cy q5_4 g9_6 ++ wWord cy q16_9 g20_11) ++ wSheet cy q27_14 g31_16) ++ wSheet cy q38_19 g42_21) ++ wActs cy q49_24 g53_26) ++ wSeen cy q60_29 g64_31) ++ wWays cy q71_34 g75_36) ++ [(q83_40, arR (cy 15) 2 (fun j => some (U (10 + j) 0)))]) ++ [(q91_44, arI cy 4)]) ++ [(q98_48, arI cy 4)]) ++ wSlot cy q115_58 g119_60) ++ wSlot cy q115_70 g119_72)) 60 rfl (fun j hj => by subst eU; rcases (show j = 0 ∨ j = 1 by omega) with rfl | rfl <;> rfl) rfl ?_
  exact k_ret X hr hlk U dX9_init_129 (by subst eU; rfl)
set_option maxRecDepth 20000 in
theorem n_X10_init : Cn (S := Nat → Nat) yX10_init cX10_init 1 1 13 905 (.inr (10, [.int 0, .null, .null, .null, .null, .null, .int 0, .int 0, .null, .int 0, .int 0, .int 0, .int 0, .null, .int 0, .int 0, .int 0, .null, .null, .int 0, .null, .null, .long 0, .null, .null])) wMod := by
  refine Cn.of (plainFor_of_name (by decide)) rfl (by decide) ?_
  intro l D cy p e s m args below meth c A h0 X hr hlk hname
  refine k_aload X dX10_init_0 0 rfl ?_
  refine k_obj X dX10_init_1 (in_g 774 (by decide +kernel) rfl) (in_g 62 (by decide +kernel) rfl) (in_g 63 (by decide +kernel) rfl) (Nat.le_of_ble_eq_true rfl) (Nat.le_of_ble_eq_true rfl) ?_
  refine k_aload X dX10_init_4 0 rfl ?_
  refine k_iconst X (4) dX10_init_5 (by decide) ?_
  refine k_newi X 4 dX10_init_6 (in_g 78 (by decide +kernel) rfl) (by decide) (by decide) (Nat.le_of_ble_eq_true rfl) (Nat.le_of_ble_eq_true rfl) (Nat.le_of_ble_eq_true rfl) (fun q6 => ?_)
  refine k_ws (ws' := (h0, .inr (10, [.int 0, .null, .null, .null, .null, .null, .int 0, .int 0, .null, .int 0, .int 0, .int 0, .int 0, .null, .int 0, .int 0, .int 0, .null, .null, .int 0, .null, .null, .long 0, .null, .null])) :: [(q6, arI cy 4)]) rfl ?_
  refine k_putF X cf10 1 dX10_init_8 (by decide) fl_RX10_7 rfl hname rfl rfl rfl (Nat.le_of_ble_eq_true rfl) ?_
  refine k_ws (ws' := (h0, .inr (10, [.int 0, .ref q6, .null, .null, .null, .null, .int 0, .int 0, .null, .int 0, .int 0, .int 0, .int 0, .null, .int 0, .int 0, .int 0, .null, .null, .int 0, .null, .null, .long 0, .null, .null])) :: [(q6, arI cy 4)]) rfl ?_
  refine k_aload X dX10_init_11 0 rfl ?_
  refine k_iconst X (4) dX10_init_12 (by decide) ?_
  refine k_newi X 4 dX10_init_13 (in_g 78 (by decide +kernel) rfl) (by decide) (by decide) (Nat.le_of_ble_eq_true rfl) (Nat.le_of_ble_eq_true rfl) (Nat.le_of_ble_eq_true rfl) (fun q13 => ?_)
  refine k_ws (ws' := (h0, .inr (10, [.int 0, .ref q6, .null, .null, .null, .null, .int 0, .int 0, .null, .int 0, .int 0, .int 0, .int 0, .null, .int 0, .int 0, .int 0, .null, .null, .int 0, .null, .null, .long 0, .null, .null])) :: [(q6, arI cy 4), (q13, arI cy 4)]) rfl ?_
  refine k_putF X cf10 2 dX10_init_15 (by decide) fl_RX10_13 rfl hname rfl rfl rfl (Nat.le_of_ble_eq_true rfl) ?_
  refine k_ws (ws' := (h0, .inr (10, [.int 0, .ref q6, .ref q13, .null, .null, .null, .int 0, .int 0, .null, .int 0, .int 0, .int 0, .int 0, .null, .int 0, .int 0, .int 0, .null, .null, .int 0, .null, .null, .long 0, .null, .null])) :: [(q6, arI cy 4), (q13, arI cy 4)]) rfl ?_
  refine k_aload X dX10_init_18 0 rfl ?_
  refine k_bipush X (86) dX10_init_19 (by decide) ?_
  refine k_newi X 86 dX10_init_21 (in_g 78 (by decide +kernel) rfl) (by decide) (by decide) (Nat.le_of_ble_eq_true rfl) (Nat.le_of_ble_eq_true rfl) (Nat.le_of_ble_eq_true rfl) (fun q21 => ?_)
  refine k_ws (ws' := (h0, .inr (10, [.int 0, .ref q6, .ref q13, .null, .null, .null, .int 0, .int 0, .null, .int 0, .int 0, .int 0, .int 0, .null, .int 0, .int 0, .int 0, .null, .null, .int 0, .null, .null, .long 0, .null, .null])) :: [(q6, arI cy 4), (q13, arI cy 4), (q21, arI cy 86)]) rfl ?_
  refine k_putF X cf10 3 dX10_init_23 (by decide) fl_RX10_16 rfl hname rfl rfl rfl (Nat.le_of_ble_eq_true rfl) ?_
  refine k_ws (ws' := (h0, .inr (10, [.int 0, .ref q6, .ref q13, .ref q21, .null, .null, .int 0, .int 0, .null, .int 0, .int 0, .int 0, .int 0, .null, .int 0, .int 0, .int 0, .null, .null, .int 0, .null, .null, .long 0, .null, .null])) :: [(q6, arI cy 4), (q13, arI cy 4), (q21, arI cy 86)]) rfl ?_
  refine k_aload X dX10_init_26 0 rfl ?_
  refine k_bipush X (20) dX10_init_27 (by decide) ?_
  refine k_newi X 20 dX10_init_29 (in_g 78 (by decide +kernel) rfl) (by decide) (by decide) (Nat.le_of_ble_eq_true rfl) (Nat.le_of_ble_eq_true rfl) (Nat.le_of_ble_eq_true rfl) (fun q29 => ?_)
  refine k_ws (ws' := (h0, .inr (10, [.int 0, .ref q6, .ref q13, .ref q21, .null, .null, .int 0, .int 0, .null, .int 0, .int 0, .int 0, .int 0, .null, .int 0, .int 0, .int 0, .null, .null, .int 0, .null, .null, .long 0, .null, .null])) :: [(q6, arI cy 4), (q13, arI cy 4), (q21, arI cy 86), (q29, arI cy 20)]) rfl ?_
  refine k_putF X cf10 4 dX10_init_31 (by decide) fl_RX10_19 rfl hname rfl rfl rfl (Nat.le_of_ble_eq_true rfl) ?_
  refine k_ws (ws' := (h0, .inr (10, [.int 0, .ref q6, .ref q13, .ref q21, .ref q29, .null, .int 0, .int 0, .null, .int 0, .int 0, .int 0, .int 0, .null, .int 0, .int 0, .int 0, .null, .null, .int 0, .null, .null, .long 0, .null, .null])) :: [(q6, arI cy 4), (q13, arI cy 4), (q21, arI cy 86), (q29, arI cy 20)]) rfl ?_
  refine k_aload X dX10_init_34 0 rfl ?_
  refine k_bipush X (8) dX10_init_35 (by decide) ?_
  refine k_newi X 8 dX10_init_37 (in_g 78 (by decide +kernel) rfl) (by decide) (by decide) (Nat.le_of_ble_eq_true rfl) (Nat.le_of_ble_eq_true rfl) (Nat.le_of_ble_eq_true rfl) (fun q37 => ?_)
  refine k_ws (ws' := (h0, .inr (10, [.int 0, .ref q6, .ref q13, .ref q21, .ref q29, .null, .int 0, .int 0, .null, .int 0, .int 0, .int 0, .int 0, .null, .int 0, .int 0, .int 0, .null, .null, .int 0, .null, .null, .long 0, .null, .null])) :: [(q6, arI cy 4), (q13, arI cy 4), (q21, arI cy 86), (q29, arI cy 20), (q37, arI cy 8)]) rfl ?_
  refine k_putF X cf10 5 dX10_init_39 (by decide) fl_RX10_22 rfl hname rfl rfl rfl (Nat.le_of_ble_eq_true rfl) ?_
  refine k_ws (ws' := (h0, .inr (10, [.int 0, .ref q6, .ref q13, .ref q21, .ref q29, .ref q37, .int 0, .int 0, .null, .int 0, .int 0, .int 0, .int 0, .null, .int 0, .int 0, .int 0, .null, .null, .int 0, .null, .null, .long 0, .null, .null])) :: [(q6, arI cy 4), (q13, arI cy 4), (q21, arI cy 86), (q29, arI cy 20), (q37, arI cy 8)]) rfl ?_
  refine k_aload X dX10_init_42 0 rfl ?_
  refine k_bipush X (48) dX10_init_43 (by decide) ?_
  refine k_newi X 48 dX10_init_45 (in_g 78 (by decide +kernel) rfl) (by decide) (by decide) (Nat.le_of_ble_eq_true rfl) (Nat.le_of_ble_eq_true rfl) (Nat.le_of_ble_eq_true rfl) (fun q45 => ?_)
  refine k_ws (ws' := (h0, .inr (10, [.int 0, .ref q6, .ref q13, .ref q21, .ref q29, .ref q37, .int 0, .int 0, .null, .int 0, .int 0, .int 0, .int 0, .null, .int 0, .int 0, .int 0, .null, .null, .int 0, .null, .null, .long 0, .null, .null])) :: [(q6, arI cy 4), (q13, arI cy 4), (q21, arI cy 86), (q29, arI cy 20), (q37, arI cy 8), (q45, arI cy 48)]) rfl ?_
  refine k_putF X cf10 8 dX10_init_47 (by decide) fl_RX10_25 rfl hname rfl rfl rfl (Nat.le_of_ble_eq_true rfl) ?_
  refine k_ws (ws' := (h0, .inr (10, [.int 0, .ref q6, .ref q13, .ref q21, .ref q29, .ref q37, .int 0, .int 0, .ref q45, .int 0, .int 0, .int 0, .int 0, .null, .int 0, .int 0, .int 0, .null, .null, .int 0, .null, .null, .long 0, .null, .null])) :: [(q6, arI cy 4), (q13, arI cy 4), (q21, arI cy 86), (q29, arI cy 20), (q37, arI cy 8), (q45, arI cy 48)]) rfl ?_
  refine k_aload X dX10_init_50 0 rfl ?_
  refine k_bipush X (8) dX10_init_51 (by decide) ?_
  refine k_newi X 8 dX10_init_53 (in_g 78 (by decide +kernel) rfl) (by decide) (by decide) (Nat.le_of_ble_eq_true rfl) (Nat.le_of_ble_eq_true rfl) (Nat.le_of_ble_eq_true rfl) (fun q53 => ?_)
  refine k_ws (ws' := (h0, .inr (10, [.int 0, .ref q6, .ref q13, .ref q21, .ref q29, .ref q37, .int 0, .int 0, .ref q45, .int 0, .int 0, .int 0, .int 0, .null, .int 0, .int 0, .int 0, .null, .null, .int 0, .null, .null, .long 0, .null, .null])) :: [(q6, arI cy 4), (q13, arI cy 4), (q21, arI cy 86), (q29, arI cy 20), (q37, arI cy 8), (q45, arI cy 48), (q53, arI cy 8)]) rfl ?_
  refine k_putF X cf10 13 dX10_init_55 (by decide) fl_RX10_28 rfl hname rfl rfl rfl (Nat.le_of_ble_eq_true rfl) ?_
  refine k_ws (ws' := (h0, .inr (10, [.int 0, .ref q6, .ref q13, .ref q21, .ref q29, .ref q37, .int 0, .int 0, .ref q45, .int 0, .int 0, .int 0, .int 0, .ref q53, .int 0, .int 0, .int 0, .null, .null, .int 0, .null, .null, .long 0, .null, .null])) :: [(q6, arI cy 4), (q13, arI cy 4), (q21, arI cy 86), (q29, arI cy 20), (q37, arI cy 8), (q45, arI cy 48), (q53, arI cy 8)]) rfl ?_
  refine k_aload X dX10_init_58 0 rfl ?_
  refine k_sipush X (602) dX10_init_59 (by decide) ?_
  refine k_newi X 602 dX10_init_62 (in_g 78 (by decide +kernel) rfl) (by decide) (by decide) (Nat.le_of_ble_eq_true rfl) (Nat.le_of_ble_eq_true rfl) (Nat.le_of_ble_eq_true rfl) (fun q62 => ?_)
  refine k_ws (ws' := (h0, .inr (10, [.int 0, .ref q6, .ref q13, .ref q21, .ref q29, .ref q37, .int 0, .int 0, .ref q45, .int 0, .int 0, .int 0, .int 0, .ref q53, .int 0, .int 0, .int 0, .null, .null, .int 0, .null, .null, .long 0, .null, .null])) :: [(q6, arI cy 4), (q13, arI cy 4), (q21, arI cy 86), (q29, arI cy 20), (q37, arI cy 8), (q45, arI cy 48), (q53, arI cy 8), (q62, arI cy 602)]) rfl ?_
  refine k_putF X cf10 17 dX10_init_64 (by decide) fl_RX10_31 rfl hname rfl rfl rfl (Nat.le_of_ble_eq_true rfl) ?_
  refine k_ws (ws' := (h0, .inr (10, [.int 0, .ref q6, .ref q13, .ref q21, .ref q29, .ref q37, .int 0, .int 0, .ref q45, .int 0, .int 0, .int 0, .int 0, .ref q53, .int 0, .int 0, .int 0, .ref q62, .null, .int 0, .null, .null, .long 0, .null, .null])) :: [(q6, arI cy 4), (q13, arI cy 4), (q21, arI cy 86), (q29, arI cy 20), (q37, arI cy 8), (q45, arI cy 48), (q53, arI cy 8), (q62, arI cy 602)]) rfl ?_
  refine k_aload X dX10_init_67 0 rfl ?_
  refine k_bipush X (25) dX10_init_68 (by decide) ?_
  refine k_newi X 25 dX10_init_70 (in_g 78 (by decide +kernel) rfl) (by decide) (by decide) (Nat.le_of_ble_eq_true rfl) (Nat.le_of_ble_eq_true rfl) (Nat.le_of_ble_eq_true rfl) (fun q70 => ?_)
  refine k_ws (ws' := (h0, .inr (10, [.int 0, .ref q6, .ref q13, .ref q21, .ref q29, .ref q37, .int 0, .int 0, .ref q45, .int 0, .int 0, .int 0, .int 0, .ref q53, .int 0, .int 0, .int 0, .ref q62, .null, .int 0, .null, .null, .long 0, .null, .null])) :: [(q6, arI cy 4), (q13, arI cy 4), (q21, arI cy 86), (q29, arI cy 20), (q37, arI cy 8), (q45, arI cy 48), (q53, arI cy 8), (q62, arI cy 602), (q70, arI cy 25)]) rfl ?_
  refine k_putF X cf10 18 dX10_init_72 (by decide) fl_RX10_34 rfl hname rfl rfl rfl (Nat.le_of_ble_eq_true rfl) ?_
  refine k_ws (ws' := (h0, .inr (10, [.int 0, .ref q6, .ref q13, .ref q21, .ref q29, .ref q37, .int 0, .int 0, .ref q45, .int 0, .int 0, .int 0, .int 0, .ref q53, .int 0, .int 0, .int 0, .ref q62, .ref q70, .int 0, .null, .null, .long 0, .null, .null])) :: [(q6, arI cy 4), (q13, arI cy 4), (q21, arI cy 86), (q29, arI cy 20), (q37, arI cy 8), (q45, arI cy 48), (q53, arI cy 8), (q62, arI cy 602), (q70, arI cy 25)]) rfl ?_
  refine k_aload X dX10_init_75 0 rfl ?_
  refine k_bipush X (6) dX10_init_76 (by decide) ?_
  refine k_newi X 6 dX10_init_78 (in_g 78 (by decide +kernel) rfl) (by decide) (by decide) (Nat.le_of_ble_eq_true rfl) (Nat.le_of_ble_eq_true rfl) (Nat.le_of_ble_eq_true rfl) (fun q78 => ?_)
  refine k_ws (ws' := (h0, .inr (10, [.int 0, .ref q6, .ref q13, .ref q21, .ref q29, .ref q37, .int 0, .int 0, .ref q45, .int 0, .int 0, .int 0, .int 0, .ref q53, .int 0, .int 0, .int 0, .ref q62, .ref q70, .int 0, .null, .null, .long 0, .null, .null])) :: [(q6, arI cy 4), (q13, arI cy 4), (q21, arI cy 86), (q29, arI cy 20), (q37, arI cy 8), (q45, arI cy 48), (q53, arI cy 8), (q62, arI cy 602), (q70, arI cy 25), (q78, arI cy 6)]) rfl ?_
  refine k_putF X cf10 20 dX10_init_80 (by decide) fl_RX10_37 rfl hname rfl rfl rfl (Nat.le_of_ble_eq_true rfl) ?_
  refine k_ws (ws' := (h0, .inr (10, [.int 0, .ref q6, .ref q13, .ref q21, .ref q29, .ref q37, .int 0, .int 0, .ref q45, .int 0, .int 0, .int 0, .int 0, .ref q53, .int 0, .int 0, .int 0, .ref q62, .ref q70, .int 0, .ref q78, .null, .long 0, .null, .null])) :: [(q6, arI cy 4), (q13, arI cy 4), (q21, arI cy 86), (q29, arI cy 20), (q37, arI cy 8), (q45, arI cy 48), (q53, arI cy 8), (q62, arI cy 602), (q70, arI cy 25), (q78, arI cy 6)]) rfl ?_
  refine k_aload X dX10_init_83 0 rfl ?_
  refine k_bipush X (6) dX10_init_84 (by decide) ?_
  refine k_newi X 6 dX10_init_86 (in_g 78 (by decide +kernel) rfl) (by decide) (by decide) (Nat.le_of_ble_eq_true rfl) (Nat.le_of_ble_eq_true rfl) (Nat.le_of_ble_eq_true rfl) (fun q86 => ?_)
  refine k_ws (ws' := (h0, .inr (10, [.int 0, .ref q6, .ref q13, .ref q21, .ref q29, .ref q37, .int 0, .int 0, .ref q45, .int 0, .int 0, .int 0, .int 0, .ref q53, .int 0, .int 0, .int 0, .ref q62, .ref q70, .int 0, .ref q78, .null, .long 0, .null, .null])) :: [(q6, arI cy 4), (q13, arI cy 4), (q21, arI cy 86), (q29, arI cy 20), (q37, arI cy 8), (q45, arI cy 48), (q53, arI cy 8), (q62, arI cy 602), (q70, arI cy 25), (q78, arI cy 6), (q86, arI cy 6)]) rfl ?_
  refine k_putF X cf10 21 dX10_init_88 (by decide) fl_RX10_40 rfl hname rfl rfl rfl (Nat.le_of_ble_eq_true rfl) ?_
  refine k_ws (ws' := (h0, .inr (10, [.int 0, .ref q6, .ref q13, .ref q21, .ref q29, .ref q37, .int 0, .int 0, .ref q45, .int 0, .int 0, .int 0, .int 0, .ref q53, .int 0, .int 0, .int 0, .ref q62, .ref q70, .int 0, .ref q78, .ref q86, .long 0, .null, .null])) :: [(q6, arI cy 4), (q13, arI cy 4), (q21, arI cy 86), (q29, arI cy 20), (q37, arI cy 8), (q45, arI cy 48), (q53, arI cy 8), (q62, arI cy 602), (q70, arI cy 25), (q78, arI cy 6), (q86, arI cy 6)]) rfl ?_
  refine k_aload X dX10_init_91 0 rfl ?_
  refine k_iconst X (2) dX10_init_92 (by decide) ?_
  refine k_newz X 2 dX10_init_93 (in_g 851 (by decide +kernel) rfl) (by decide) (by decide) (Nat.le_of_ble_eq_true rfl) (Nat.le_of_ble_eq_true rfl) (Nat.le_of_ble_eq_true rfl) (fun q93 => ?_)
  refine k_ws (ws' := (h0, .inr (10, [.int 0, .ref q6, .ref q13, .ref q21, .ref q29, .ref q37, .int 0, .int 0, .ref q45, .int 0, .int 0, .int 0, .int 0, .ref q53, .int 0, .int 0, .int 0, .ref q62, .ref q70, .int 0, .ref q78, .ref q86, .long 0, .null, .null])) :: [(q6, arI cy 4), (q13, arI cy 4), (q21, arI cy 86), (q29, arI cy 20), (q37, arI cy 8), (q45, arI cy 48), (q53, arI cy 8), (q62, arI cy 602), (q70, arI cy 25), (q78, arI cy 6), (q86, arI cy 6), (q93, .inl (cy 12, 2, .inl (fun _ => 0)))]) rfl ?_
  refine k_putF X cf10 23 dX10_init_95 (by decide) fl_RX10_43 rfl hname rfl rfl rfl (Nat.le_of_ble_eq_true rfl) ?_
  refine k_ws (ws' := (h0, .inr (10, [.int 0, .ref q6, .ref q13, .ref q21, .ref q29, .ref q37, .int 0, .int 0, .ref q45, .int 0, .int 0, .int 0, .int 0, .ref q53, .int 0, .int 0, .int 0, .ref q62, .ref q70, .int 0, .ref q78, .ref q86, .long 0, .ref q93, .null])) :: [(q6, arI cy 4), (q13, arI cy 4), (q21, arI cy 86), (q29, arI cy 20), (q37, arI cy 8), (q45, arI cy 48), (q53, arI cy 8), (q62, arI cy 602), (q70, arI cy 25), (q78, arI cy 6), (q86, arI cy 6), (q93, .inl (cy 12, 2, .inl (fun _ => 0)))]) rfl ?_
  refine k_aload X dX10_init_98 0 rfl ?_
  refine k_bipush X (86) dX10_init_99 (by decide) ?_
  refine k_newi X 86 dX10_init_101 (in_g 78 (by decide +kernel) rfl) (by decide) (by decide) (Nat.le_of_ble_eq_true rfl) (Nat.le_of_ble_eq_true rfl) (Nat.le_of_ble_eq_true rfl) (fun q101 => ?_)
  refine k_ws (ws' := (h0, .inr (10, [.int 0, .ref q6, .ref q13, .ref q21, .ref q29, .ref q37, .int 0, .int 0, .ref q45, .int 0, .int 0, .int 0, .int 0, .ref q53, .int 0, .int 0, .int 0, .ref q62, .ref q70, .int 0, .ref q78, .ref q86, .long 0, .ref q93, .null])) :: [(q6, arI cy 4), (q13, arI cy 4), (q21, arI cy 86), (q29, arI cy 20), (q37, arI cy 8), (q45, arI cy 48), (q53, arI cy 8), (q62, arI cy 602), (q70, arI cy 25), (q78, arI cy 6), (q86, arI cy 6), (q93, .inl (cy 12, 2, .inl (fun _ => 0))), (q101, arI cy 86)]) rfl ?_
  refine k_putF X cf10 24 dX10_init_103 (by decide) fl_RX10_47 rfl hname rfl rfl rfl (Nat.le_of_ble_eq_true rfl) ?_
  refine k_ws (ws' := (h0, .inr (10, [.int 0, .ref q6, .ref q13, .ref q21, .ref q29, .ref q37, .int 0, .int 0, .ref q45, .int 0, .int 0, .int 0, .int 0, .ref q53, .int 0, .int 0, .int 0, .ref q62, .ref q70, .int 0, .ref q78, .ref q86, .long 0, .ref q93, .ref q101])) :: [(q6, arI cy 4), (q13, arI cy 4), (q21, arI cy 86), (q29, arI cy 20), (q37, arI cy 8), (q45, arI cy 48), (q53, arI cy 8), (q62, arI cy 602), (q70, arI cy 25), (q78, arI cy 6), (q86, arI cy 6), (q93, .inl (cy 12, 2, .inl (fun _ => 0))), (q101, arI cy 86)]) rfl ?_
  exact k_ret X hr hlk (fun j => [q6, q13, q21, q29, q37, q45, q53, q62, q70, q78, q86, q93, q101].getD j 0) dX10_init_106 rfl
