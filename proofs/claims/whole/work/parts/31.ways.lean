theorem c_X7_costBy {x y : Int32} {v : Mm} {L : Lm}  : Fn yX7_costBy cX7_costBy 4 (some .int) 2 [.ref 72, .int x, .int y] v L (some (.int (cbF v x y))) v L := by
  refine Fq.of (plainFor_of_name (by decide)) [some (.ref 72), some (.int x), some (.int y), none] rfl (Nat.le_of_ble_eq_true rfl) ?_
  refine g_iload1 (pc := 0) dX7_costBy_0 ?_
  refine g_iload2 (pc := 1) dX7_costBy_1 ?_
  refine g_fN2 (pc := 2) (c_X9_neighbour) dX7_costBy_2 cw_RX7_45 (by decide) (Nat.le_of_ble_eq_true rfl) ?_
  refine g_istore3 (pc := 5) dX7_costBy_5 (by decide) (by first | rfl | assumption) ?_
  refine g_iload3 (pc := 6) dX7_costBy_6 ?_
  refine g_fN1 (pc := 7) (c_X9_isDot) dX7_costBy_7 cw_RX7_48 (by decide) (Nat.le_of_ble_eq_true rfl) ?_
  refine g_if_eq (pc := 10) 36 dX7_costBy_10 (by decide) (fun zh10 => ?_) (fun zh10 => ?_)
  · skip
    refine g_ldc (pc := 36) _ dX7_costBy_36 kc_RX7_36 ?_
    refine g_iret (pc := 38) dX7_costBy_38 rfl ?_
    first | exact ⟨congrArg (fun zt => some (Value.int zt)) (if_pos ⟨b01_ne0.mp zh10, b01_ne0.mp zh17⟩).symm, rfl, rfl⟩ | exact ⟨congrArg (fun zt => some (Value.int zt)) (if_neg (fun zq => b01_eq0.mp zh10 zq.1)).symm, rfl, rfl⟩ | exact ⟨congrArg (fun zt => some (Value.int zt)) (if_neg (fun zq => b01_eq0.mp zh17 zq.2)).symm, rfl, rfl⟩
  · skip
    refine g_iload2 (pc := 13) dX7_costBy_13 ?_
    refine g_fN1 (pc := 14) (c_X9_isDirection) dX7_costBy_14 cw_RX7_52 (by decide) (Nat.le_of_ble_eq_true rfl) ?_
    refine g_if_eq (pc := 17) 36 dX7_costBy_17 (by decide) (fun zh17 => ?_) (fun zh17 => ?_)
    · skip
      refine g_ldc (pc := 36) _ dX7_costBy_36 kc_RX7_36 ?_
      refine g_iret (pc := 38) dX7_costBy_38 rfl ?_
      first | exact ⟨congrArg (fun zt => some (Value.int zt)) (if_pos ⟨b01_ne0.mp zh10, b01_ne0.mp zh17⟩).symm, rfl, rfl⟩ | exact ⟨congrArg (fun zt => some (Value.int zt)) (if_neg (fun zq => b01_eq0.mp zh10 zq.1)).symm, rfl, rfl⟩ | exact ⟨congrArg (fun zt => some (Value.int zt)) (if_neg (fun zq => b01_eq0.mp zh17 zq.2)).symm, rfl, rfl⟩
    · skip
      first | refine g_aload0 (pc := 20) dX7_costBy_20 ?_ | refine g_aloadN0 (pc := 20) dX7_costBy_20 ?_
      refine g_getR (pc := 21) (j := 0) cf7 dX7_costBy_21 fl_RX7_9 (by decide) (by decide) (by first | rfl | assumption) (73) (rfl) ?_
      refine g_iload2 (pc := 24) dX7_costBy_24 ?_
      refine g_iald (pc := 25) dX7_costBy_25 (by first | rfl | assumption) (vin_lt (n := 8) (by decide) (b01_ne0.mp zh17)) ?_
      first | refine g_aload0 (pc := 26) dX7_costBy_26 ?_ | refine g_aloadN0 (pc := 26) dX7_costBy_26 ?_
      refine g_getR (pc := 27) (j := 1) cf7 dX7_costBy_27 fl_RX7_15 (by decide) (by decide) (by first | rfl | assumption) (74) (rfl) ?_
      refine g_iload3 (pc := 30) dX7_costBy_30 ?_
      refine g_iald (pc := 31) dX7_costBy_31 (by first | rfl | assumption) (vin_lt (n := 25) (by decide) (b01_ne0.mp zh10)) ?_
      refine g_iadd (pc := 32) dX7_costBy_32 ?_
      refine g_goto (pc := 33) 38 dX7_costBy_33 (by decide) ?_
      refine g_iret (pc := 38) dX7_costBy_38 rfl ?_
      first | exact ⟨congrArg (fun zt => some (Value.int zt)) (if_pos ⟨b01_ne0.mp zh10, b01_ne0.mp zh17⟩).symm, rfl, rfl⟩ | exact ⟨congrArg (fun zt => some (Value.int zt)) (if_neg (fun zq => b01_eq0.mp zh10 zq.1)).symm, rfl, rfl⟩ | exact ⟨congrArg (fun zt => some (Value.int zt)) (if_neg (fun zq => b01_eq0.mp zh17 zq.2)).symm, rfl, rfl⟩
theorem c_X7_costFrom {x : Int32} {v : Mm} {L : Lm}  : Fn yX7_costFrom cX7_costFrom 2 (some .int) 1 [.ref 72, .int x] v L (some (.int (cfF v x))) v L := by
  refine Fq.of (plainFor_of_name (by decide)) [some (.ref 72), some (.int x)] rfl (Nat.le_of_ble_eq_true rfl) ?_
  refine g_iload1 (pc := 0) dX7_costFrom_0 ?_
  refine g_fN1 (pc := 1) (c_X9_isDot) dX7_costFrom_1 cw_RX7_48 (by decide) (Nat.le_of_ble_eq_true rfl) ?_
  refine g_if_eq (pc := 4) 16 dX7_costFrom_4 (by decide) (fun zh4 => ?_) (fun zh4 => ?_)
  · skip
    refine g_iconst (pc := 16) (0) dX7_costFrom_16 (by decide) ?_
    refine g_iret (pc := 17) dX7_costFrom_17 rfl ?_
    first | exact ⟨congrArg (fun zt => some (Value.int zt)) (if_pos (b01_ne0.mp zh4)).symm, rfl, rfl⟩ | exact ⟨congrArg (fun zt => some (Value.int zt)) (if_neg (b01_eq0.mp zh4)).symm, rfl, rfl⟩
  · skip
    first | refine g_aload0 (pc := 7) dX7_costFrom_7 ?_ | refine g_aloadN0 (pc := 7) dX7_costFrom_7 ?_
    refine g_getR (pc := 8) (j := 1) cf7 dX7_costFrom_8 fl_RX7_15 (by decide) (by decide) (by first | rfl | assumption) (74) (rfl) ?_
    refine g_iload1 (pc := 11) dX7_costFrom_11 ?_
    refine g_iald (pc := 12) dX7_costFrom_12 (by first | rfl | assumption) (vin_lt (n := 25) (by decide) (b01_ne0.mp zh4)) ?_
    refine g_goto (pc := 13) 17 dX7_costFrom_13 (by decide) ?_
    refine g_iret (pc := 17) dX7_costFrom_17 rfl ?_
    first | exact ⟨congrArg (fun zt => some (Value.int zt)) (if_pos (b01_ne0.mp zh4)).symm, rfl, rfl⟩ | exact ⟨congrArg (fun zt => some (Value.int zt)) (if_neg (b01_eq0.mp zh4)).symm, rfl, rfl⟩
theorem c_X7_inkFrom {x : Int32} {v : Mm} {L : Lm}  : Fn yX7_inkFrom cX7_inkFrom 2 (some .int) 2 [.ref 72, .int x] v L (some (.int (cfF v x / 100))) v L := by
  refine Fq.of (plainFor_of_name (by decide)) [some (.ref 72), some (.int x)] rfl (Nat.le_of_ble_eq_true rfl) ?_
  first | refine g_aload0 (pc := 0) dX7_inkFrom_0 ?_ | refine g_aloadN0 (pc := 0) dX7_inkFrom_0 ?_
  refine g_iload1 (pc := 1) dX7_inkFrom_1 ?_
  refine g_fV1 (pc := 2) (c_X7_costFrom) cf7 (by first | rfl | assumption) dX7_inkFrom_2 cw_RX7_55 (by decide) (Nat.le_of_ble_eq_true rfl) ?_
  refine g_bipush (pc := 5) (100) dX7_inkFrom_5 (by decide) ?_
  refine g_idiv (pc := 7) dX7_inkFrom_7 (by decide) ?_
  refine g_iret (pc := 8) dX7_inkFrom_8 rfl ?_
  exact ⟨rfl, rfl, rfl⟩
theorem c_X7_stepsFrom {x : Int32} {v : Mm} {L : Lm}  : Fn yX7_stepsFrom cX7_stepsFrom 2 (some .int) 2 [.ref 72, .int x] v L (some (.int (rem32 (cfF v x) 100))) v L := by
  refine Fq.of (plainFor_of_name (by decide)) [some (.ref 72), some (.int x)] rfl (Nat.le_of_ble_eq_true rfl) ?_
  first | refine g_aload0 (pc := 0) dX7_stepsFrom_0 ?_ | refine g_aloadN0 (pc := 0) dX7_stepsFrom_0 ?_
  refine g_iload1 (pc := 1) dX7_stepsFrom_1 ?_
  refine g_fV1 (pc := 2) (c_X7_costFrom) cf7 (by first | rfl | assumption) dX7_stepsFrom_2 cw_RX7_55 (by decide) (Nat.le_of_ble_eq_true rfl) ?_
  refine g_bipush (pc := 5) (100) dX7_stepsFrom_5 (by decide) ?_
  refine g_irem (pc := 7) dX7_stepsFrom_7 (by decide) ?_
  refine g_iret (pc := 8) dX7_stepsFrom_8 rfl ?_
  exact ⟨rfl, rfl, rfl⟩
theorem c_X7_rowsTo {x : Int32} {v : Mm} {L : Lm}  : Fn yX7_rowsTo cX7_rowsTo 2 (some .int) 1 [.ref 72, .int x] v L (some (.int (rtF v x))) v L := by
  refine Fq.of (plainFor_of_name (by decide)) [some (.ref 72), some (.int x)] rfl (Nat.le_of_ble_eq_true rfl) ?_
  refine g_iload1 (pc := 0) dX7_rowsTo_0 ?_
  refine g_fN1 (pc := 1) (c_X9_isDot) dX7_rowsTo_1 cw_RX7_48 (by decide) (Nat.le_of_ble_eq_true rfl) ?_
  refine g_if_eq (pc := 4) 16 dX7_rowsTo_4 (by decide) (fun zh4 => ?_) (fun zh4 => ?_)
  · skip
    refine g_iconst (pc := 16) (0) dX7_rowsTo_16 (by decide) ?_
    refine g_iret (pc := 17) dX7_rowsTo_17 rfl ?_
    first | exact ⟨congrArg (fun zt => some (Value.int zt)) (if_pos (b01_ne0.mp zh4)).symm, rfl, rfl⟩ | exact ⟨congrArg (fun zt => some (Value.int zt)) (if_neg (b01_eq0.mp zh4)).symm, rfl, rfl⟩
  · skip
    first | refine g_aload0 (pc := 7) dX7_rowsTo_7 ?_ | refine g_aloadN0 (pc := 7) dX7_rowsTo_7 ?_
    refine g_getR (pc := 8) (j := 2) cf7 dX7_rowsTo_8 fl_RX7_18 (by decide) (by decide) (by first | rfl | assumption) (75) (rfl) ?_
    refine g_iload1 (pc := 11) dX7_rowsTo_11 ?_
    refine g_iald (pc := 12) dX7_rowsTo_12 (by first | rfl | assumption) (vin_lt (n := 25) (by decide) (b01_ne0.mp zh4)) ?_
    refine g_goto (pc := 13) 17 dX7_rowsTo_13 (by decide) ?_
    refine g_iret (pc := 17) dX7_rowsTo_17 rfl ?_
    first | exact ⟨congrArg (fun zt => some (Value.int zt)) (if_pos (b01_ne0.mp zh4)).symm, rfl, rfl⟩ | exact ⟨congrArg (fun zt => some (Value.int zt)) (if_neg (b01_eq0.mp zh4)).symm, rfl, rfl⟩
theorem c_X7_lowestTo {x : Int32} {v : Mm} {L : Lm}  : Fn yX7_lowestTo cX7_lowestTo 2 (some .int) 1 [.ref 72, .int x] v L (some (.int (ltF v x))) v L := by
  refine Fq.of (plainFor_of_name (by decide)) [some (.ref 72), some (.int x)] rfl (Nat.le_of_ble_eq_true rfl) ?_
  refine g_iload1 (pc := 0) dX7_lowestTo_0 ?_
  refine g_fN1 (pc := 1) (c_X9_isDot) dX7_lowestTo_1 cw_RX7_48 (by decide) (Nat.le_of_ble_eq_true rfl) ?_
  refine g_if_eq (pc := 4) 25 dX7_lowestTo_4 (by decide) (fun zh4 => ?_) (fun zh4 => ?_)
  · skip
    refine g_bipush (pc := 25) (-9) dX7_lowestTo_25 (by decide) ?_
    refine g_iret (pc := 27) dX7_lowestTo_27 rfl ?_
    first | exact ⟨congrArg (fun zt => some (Value.int zt)) (if_pos ⟨b01_ne0.mp zh4, i32nle.mp zh13⟩).symm, rfl, rfl⟩ | exact ⟨congrArg (fun zt => some (Value.int zt)) (if_neg (fun zq => b01_eq0.mp zh4 zq.1)).symm, rfl, rfl⟩ | exact ⟨congrArg (fun zt => some (Value.int zt)) (if_neg (fun zq => i32nle.mpr zq.2 zh13)).symm, rfl, rfl⟩
  · skip
    first | refine g_aload0 (pc := 7) dX7_lowestTo_7 ?_ | refine g_aloadN0 (pc := 7) dX7_lowestTo_7 ?_
    refine g_getR (pc := 8) (j := 2) cf7 dX7_lowestTo_8 fl_RX7_18 (by decide) (by decide) (by first | rfl | assumption) (75) (rfl) ?_
    refine g_iload1 (pc := 11) dX7_lowestTo_11 ?_
    refine g_iald (pc := 12) dX7_lowestTo_12 (by first | rfl | assumption) (vin_lt (n := 25) (by decide) (b01_ne0.mp zh4)) ?_
    refine g_if_le (pc := 13) 25 dX7_lowestTo_13 (by decide) (fun zh13 => ?_) (fun zh13 => ?_)
    · skip
      refine g_bipush (pc := 25) (-9) dX7_lowestTo_25 (by decide) ?_
      refine g_iret (pc := 27) dX7_lowestTo_27 rfl ?_
      first | exact ⟨congrArg (fun zt => some (Value.int zt)) (if_pos ⟨b01_ne0.mp zh4, i32nle.mp zh13⟩).symm, rfl, rfl⟩ | exact ⟨congrArg (fun zt => some (Value.int zt)) (if_neg (fun zq => b01_eq0.mp zh4 zq.1)).symm, rfl, rfl⟩ | exact ⟨congrArg (fun zt => some (Value.int zt)) (if_neg (fun zq => i32nle.mpr zq.2 zh13)).symm, rfl, rfl⟩
    · skip
      first | refine g_aload0 (pc := 16) dX7_lowestTo_16 ?_ | refine g_aloadN0 (pc := 16) dX7_lowestTo_16 ?_
      refine g_getR (pc := 17) (j := 4) cf7 dX7_lowestTo_17 fl_RX7_24 (by decide) (by decide) (by first | rfl | assumption) (77) (rfl) ?_
      refine g_iload1 (pc := 20) dX7_lowestTo_20 ?_
      refine g_iald (pc := 21) dX7_lowestTo_21 (by first | rfl | assumption) (vin_lt (n := 25) (by decide) (b01_ne0.mp zh4)) ?_
      refine g_goto (pc := 22) 27 dX7_lowestTo_22 (by decide) ?_
      refine g_iret (pc := 27) dX7_lowestTo_27 rfl ?_
      first | exact ⟨congrArg (fun zt => some (Value.int zt)) (if_pos ⟨b01_ne0.mp zh4, i32nle.mp zh13⟩).symm, rfl, rfl⟩ | exact ⟨congrArg (fun zt => some (Value.int zt)) (if_neg (fun zq => b01_eq0.mp zh4 zq.1)).symm, rfl, rfl⟩ | exact ⟨congrArg (fun zt => some (Value.int zt)) (if_neg (fun zq => i32nle.mpr zq.2 zh13)).symm, rfl, rfl⟩
theorem lp_X7_directionFrom {x c : Int32} {v : Mm} {L : Lm}  : ∀ (m : Nat) (i : Nat), i + m = 8 → G RX7 cX7_directionFrom 4 (some .int) 3 (fun a b K => a = some (.int (dfR v x c m i)) ∧ b = v ∧ K = L) 8 [some (.ref 72), some (.int x), some (.int c), some (.int (nI i))] [] v L := by
  intro m
  induction m with
  | zero =>
    intro i hi
    refine g_iload3 (pc := 8) dX7_directionFrom_8 ?_
    refine g_bipush (pc := 9) (8) dX7_directionFrom_9 (by decide) ?_
    refine g_icmp_ge (pc := 11) 36 dX7_directionFrom_11 (by decide) (fun zh11 => ?_) (fun zh11 => ?_)
    · skip
      refine g_bipush (pc := 36) (-9) dX7_directionFrom_36 (by decide) ?_
      refine g_iret (pc := 38) dX7_directionFrom_38 rfl ?_
      exact ⟨rfl, rfl, rfl⟩
    · skip
      exact absurd (show (8 : Int32) ≤ nI i by rw [show i = 8 by omega]; decide) zh11
  | succ m ih =>
    intro i hi
    refine g_iload3 (pc := 8) dX7_directionFrom_8 ?_
    refine g_bipush (pc := 9) (8) dX7_directionFrom_9 (by decide) ?_
    refine g_icmp_ge (pc := 11) 36 dX7_directionFrom_11 (by decide) (fun zh11 => ?_) (fun zh11 => ?_)
    · skip
      exact absurd zh11 (nI_ge (b := 8) (by omega) (by decide))
    · skip
      refine g_iload2 (pc := 14) dX7_directionFrom_14 ?_
      refine g_if_le (pc := 15) 30 dX7_directionFrom_15 (by decide) (fun zh15 => ?_) (fun zh15 => ?_)
      · skip
        refine g_iinc3 (pc := 30) (nI (i + 1)) dX7_directionFrom_30 (nI_succ' i) (by decide) (by first | rfl | assumption) ?_
        refine g_goto (pc := 33) 8 dX7_directionFrom_33 (by decide) ?_
        refine G.mono (ih (i + 1) (by omega)) (fun za zb zc zh => ⟨zh.1.trans ?_, zh.2.1, zh.2.2⟩)
        refine congrArg (fun zt => some (Value.int zt)) (if_neg (fun zq => ?_)).symm
        first | exact zh25 zq.2 | exact i32nle.mpr zq.1 zh15
      · skip
        first | refine g_aload0 (pc := 18) dX7_directionFrom_18 ?_ | refine g_aloadN0 (pc := 18) dX7_directionFrom_18 ?_
        refine g_iload1 (pc := 19) dX7_directionFrom_19 ?_
        refine g_iload3 (pc := 20) dX7_directionFrom_20 ?_
        refine g_fV2 (pc := 21) (c_X7_costBy) cf7 (by first | rfl | assumption) dX7_directionFrom_21 cw_RX7_41 (by decide) (Nat.le_of_ble_eq_true rfl) ?_
        refine g_iload2 (pc := 24) dX7_directionFrom_24 ?_
        refine g_icmp_ne (pc := 25) 30 dX7_directionFrom_25 (by decide) (fun zh25 => ?_) (fun zh25 => ?_)
        · skip
          refine g_iinc3 (pc := 30) (nI (i + 1)) dX7_directionFrom_30 (nI_succ' i) (by decide) (by first | rfl | assumption) ?_
          refine g_goto (pc := 33) 8 dX7_directionFrom_33 (by decide) ?_
          refine G.mono (ih (i + 1) (by omega)) (fun za zb zc zh => ⟨zh.1.trans ?_, zh.2.1, zh.2.2⟩)
          refine congrArg (fun zt => some (Value.int zt)) (if_neg (fun zq => ?_)).symm
          first | exact zh25 zq.2 | exact i32nle.mpr zq.1 zh15
        · skip
          refine g_iload3 (pc := 28) dX7_directionFrom_28 ?_
          refine g_iret (pc := 29) dX7_directionFrom_29 rfl ?_
          first | exact ⟨congrArg (fun zt => some (Value.int zt)) (if_pos ⟨i32nle.mp zh15, zh25⟩).symm, rfl, rfl⟩
theorem c_X7_directionFrom {x : Int32} {v : Mm} {L : Lm}  : Fn yX7_directionFrom cX7_directionFrom 4 (some .int) 3 [.ref 72, .int x] v L (some (.int (dfR v x (cfF v x) 8 0))) v L := by
  refine Fq.of (plainFor_of_name (by decide)) [some (.ref 72), some (.int x), none, none] rfl (Nat.le_of_ble_eq_true rfl) ?_
  first | refine g_aload0 (pc := 0) dX7_directionFrom_0 ?_ | refine g_aloadN0 (pc := 0) dX7_directionFrom_0 ?_
  refine g_iload1 (pc := 1) dX7_directionFrom_1 ?_
  refine g_fV1 (pc := 2) (c_X7_costFrom) cf7 (by first | rfl | assumption) dX7_directionFrom_2 cw_RX7_55 (by decide) (Nat.le_of_ble_eq_true rfl) ?_
  refine g_istore2 (pc := 5) dX7_directionFrom_5 (by decide) (by first | rfl | assumption) ?_
  refine g_iconst (pc := 6) (0) dX7_directionFrom_6 (by decide) ?_
  refine g_istore3 (pc := 7) dX7_directionFrom_7 (by decide) (by first | rfl | assumption) ?_
  exact lp_X7_directionFrom 8 0 rfl
theorem lp_X7_isLowered_b {dot : Nat} {s0 : Mm × Int32} {L : Lm} {Q : Qt} (hd25 : dot < 25) (hI0 : (fun (_ : Nat) (zs : Mm × Int32) => zs.2 = 0 ∨ zs.2 = 1) 0 s0) (hk : ∀ o4 : Option Value, G RX7 cX7_isLowered 5 (some .boolean) 3 Q 53 [some (.ref 72), some (.int (itr (fun e s => rlx dot e s) 8 s0).2), some (.int (nI dot)), some (.int (nI 8)), o4] [] (itr (fun e s => rlx dot e s) 8 s0).1 L) : (fun (i : Nat) (w : Mm × Int32) => ∀ (o4 : Option Value), G RX7 cX7_isLowered 5 (some .boolean) 3 Q 12 [some (.ref 72), some (.int w.2), some (.int (nI dot)), some (.int (nI i)), o4] [] w.1 L) 0 s0 := by
  refine g_for 8 (fun e s => rlx dot e s) (fun (_ : Nat) (zs : Mm × Int32) => zs.2 = 0 ∨ zs.2 = 1) (fun (i : Nat) (w : Mm × Int32) => ∀ (o4 : Option Value), G RX7 cX7_isLowered 5 (some .boolean) 3 Q 12 [some (.ref 72), some (.int w.2), some (.int (nI dot)), some (.int (nI i)), o4] [] w.1 L) s0 hI0 ?_ (fun hI => ?_) (fun i w hi hI hn => ?_)
  · intro zi zs zl zh
    show (rlx dot zi zs).2 = 0 ∨ (rlx dot zi zs).2 = 1
    unfold rlx
    split
    · exact Or.inr rfl
    · exact zh
  · intro o4
    show G _ _ _ _ _ _ _ _ _ _ _
    try dsimp only at hI
    refine g_iload3 (pc := 12) dX7_isLowered_12 ?_
    refine g_bipush (pc := 13) (8) dX7_isLowered_13 (by decide) ?_
    refine g_icmp_ge (pc := 15) 53 dX7_isLowered_15 (by decide) (fun zh15 => ?_) (fun zh15 => ?_)
    · skip
      exact hk _
    · skip
      exact absurd (Int32.le_refl _) zh15
  · intro o4
    show G _ _ _ _ _ _ _ _ _ _ _
    try dsimp only at hI
    try dsimp only at hn
    refine g_iload3 (pc := 12) dX7_isLowered_12 ?_
    refine g_bipush (pc := 13) (8) dX7_isLowered_13 (by decide) ?_
    refine g_icmp_ge (pc := 15) 53 dX7_isLowered_15 (by decide) (fun zh15 => ?_) (fun zh15 => ?_)
    · skip
      exact absurd zh15 (nI_ge (b := 8) hi (by decide))
    · skip
      first | refine g_aload0 (pc := 18) dX7_isLowered_18 ?_ | refine g_aloadN0 (pc := 18) dX7_isLowered_18 ?_
      refine g_iload2 (pc := 19) dX7_isLowered_19 ?_
      refine g_iload3 (pc := 20) dX7_isLowered_20 ?_
      refine g_fV2 (pc := 21) (c_X7_costBy) cf7 (by first | rfl | assumption) dX7_isLowered_21 cw_RX7_41 (by decide) (Nat.le_of_ble_eq_true rfl) ?_
      refine g_istore4 (pc := 24) dX7_isLowered_24 (by decide) (by first | rfl | assumption) ?_
      refine g_iload4 (pc := 26) dX7_isLowered_26 ?_
      first | refine g_aload0 (pc := 28) dX7_isLowered_28 ?_ | refine g_aloadN0 (pc := 28) dX7_isLowered_28 ?_
      refine g_getR (pc := 29) (j := 1) cf7 dX7_isLowered_29 fl_RX7_15 (by decide) (by decide) (by first | rfl | assumption) (74) (rfl) ?_
      refine g_iload2 (pc := 32) dX7_isLowered_32 ?_
      refine g_iald (pc := 33) dX7_isLowered_33 (by first | rfl | assumption) (vp_in_nI hd25 (by decide)) ?_
      rw [nI_clamp (show dot < 2 ^ 31 by omega)]
      refine g_icmp_ge (pc := 34) 47 dX7_isLowered_34 (by decide) (fun zh34 => ?_) (fun zh34 => ?_)
      · skip
        refine g_iinc3 (pc := 47) (nI (i + 1)) dX7_isLowered_47 (nI_succ' i) (by decide) (by first | rfl | assumption) ?_
        refine g_goto (pc := 50) 12 dX7_isLowered_50 (by decide) ?_
        first
          | (have ee : rlx dot i w = (upd2 w.1 74 dot (cbF w.1 (nI dot) (nI i)), 1) := if_pos (i32nle.mp zh34)
             rw [ee] at hn
             exact hn _)
          | (have ee : rlx dot i w = w := if_neg (i32nlt.mpr zh34)
             rw [ee] at hn
             exact hn _)
      · skip
        first | refine g_aload0 (pc := 37) dX7_isLowered_37 ?_ | refine g_aloadN0 (pc := 37) dX7_isLowered_37 ?_
        refine g_getR (pc := 38) (j := 1) cf7 dX7_isLowered_38 fl_RX7_15 (by decide) (by decide) (by first | rfl | assumption) (74) (rfl) ?_
        refine g_iload2 (pc := 41) dX7_isLowered_41 ?_
        refine g_iload4 (pc := 42) dX7_isLowered_42 ?_
        refine g_iast (pc := 44) dX7_isLowered_44 (by first | rfl | assumption) (vp_in_nI hd25 (by decide)) ?_
        rw [nI_clamp (show dot < 2 ^ 31 by omega)]
        refine g_iconst (pc := 45) (1) dX7_isLowered_45 (by decide) ?_
        refine g_istore1 (pc := 46) dX7_isLowered_46 (by decide) (by first | rfl | assumption) ?_
        refine g_iinc3 (pc := 47) (nI (i + 1)) dX7_isLowered_47 (nI_succ' i) (by decide) (by first | rfl | assumption) ?_
        refine g_goto (pc := 50) 12 dX7_isLowered_50 (by decide) ?_
        first
          | (have ee : rlx dot i w = (upd2 w.1 74 dot (cbF w.1 (nI dot) (nI i)), 1) := if_pos (i32nle.mp zh34)
             rw [ee] at hn
             exact hn _)
          | (have ee : rlx dot i w = w := if_neg (i32nlt.mpr zh34)
             rw [ee] at hn
             exact hn _)
theorem lp_X7_isLowered_a {s0 : Mm × Int32} {L : Lm} (hI0 : (fun (_ : Nat) (zs : Mm × Int32) => zs.2 = 0 ∨ zs.2 = 1) 0 s0) : (fun (i : Nat) (w : Mm × Int32) => ∀ (o3 o4 : Option Value), G RX7 cX7_isLowered 5 (some .boolean) 3 (fun a b K => a = some (.int (itr (fun dot s => itr (fun e s => rlx dot e s) 8 s) 25 s0).2) ∧ b = (itr (fun dot s => itr (fun e s => rlx dot e s) 8 s) 25 s0).1 ∧ K = L) 4 [some (.ref 72), some (.int w.2), some (.int (nI i)), o3, o4] [] w.1 L) 0 s0 := by
  refine g_for 25 (fun dot s => itr (fun e s => rlx dot e s) 8 s) (fun (_ : Nat) (zs : Mm × Int32) => zs.2 = 0 ∨ zs.2 = 1) (fun (i : Nat) (w : Mm × Int32) => ∀ (o3 o4 : Option Value), G RX7 cX7_isLowered 5 (some .boolean) 3 (fun a b K => a = some (.int (itr (fun dot s => itr (fun e s => rlx dot e s) 8 s) 25 s0).2) ∧ b = (itr (fun dot s => itr (fun e s => rlx dot e s) 8 s) 25 s0).1 ∧ K = L) 4 [some (.ref 72), some (.int w.2), some (.int (nI i)), o3, o4] [] w.1 L) s0 hI0 ?_ (fun hI => ?_) (fun i w hi hI hn => ?_)
  · intro zi zs zl zh
    exact itr_inv (fun zs2 => zs2.2 = 0 ∨ zs2.2 = 1) (fun ze zs2 zh2 => by show (rlx zi ze zs2).2 = 0 ∨ (rlx zi ze zs2).2 = 1; unfold rlx; split; exact Or.inr rfl; exact zh2) 8 zs zh
  · intro o3 o4
    show G _ _ _ _ _ _ _ _ _ _ _
    try dsimp only at hI
    refine g_iload2 (pc := 4) dX7_isLowered_4 ?_
    refine g_bipush (pc := 5) (25) dX7_isLowered_5 (by decide) ?_
    refine g_icmp_ge (pc := 7) 59 dX7_isLowered_7 (by decide) (fun zh7 => ?_) (fun zh7 => ?_)
    · skip
      refine g_iload1 (pc := 59) dX7_isLowered_59 ?_
      refine g_zret (pc := 60) dX7_isLowered_60 rfl (hI) ?_
      exact ⟨rfl, rfl, rfl⟩
    · skip
      exact absurd (Int32.le_refl _) zh7
  · intro o3 o4
    show G _ _ _ _ _ _ _ _ _ _ _
    try dsimp only at hI
    try dsimp only at hn
    refine g_iload2 (pc := 4) dX7_isLowered_4 ?_
    refine g_bipush (pc := 5) (25) dX7_isLowered_5 (by decide) ?_
    refine g_icmp_ge (pc := 7) 59 dX7_isLowered_7 (by decide) (fun zh7 => ?_) (fun zh7 => ?_)
    · skip
      exact absurd zh7 (nI_ge (b := 25) hi (by decide))
    · skip
      refine g_iconst (pc := 10) (0) dX7_isLowered_10 (by decide) ?_
      refine g_istore3 (pc := 11) dX7_isLowered_11 (by decide) (by first | rfl | assumption) ?_
      refine lp_X7_isLowered_b hi hI (fun zo => ?_) o4
      refine g_iinc2 (pc := 53) (nI (i + 1)) dX7_isLowered_53 (nI_succ' i) (by decide) rfl ?_
      refine g_goto (pc := 56) 4 dX7_isLowered_56 (by decide) ?_
      exact hn _ _
theorem c_X7_isLowered  {v : Mm} {L : Lm}  : Fn yX7_isLowered cX7_isLowered 5 (some .boolean) 3 [.ref 72] v L (some (.int (lowF v).2)) (lowF v).1 L := by
  refine Fq.of (plainFor_of_name (by decide)) [some (.ref 72), none, none, none, none] rfl (Nat.le_of_ble_eq_true rfl) ?_
  refine g_iconst (pc := 0) (0) dX7_isLowered_0 (by decide) ?_
  refine g_istore1 (pc := 1) dX7_isLowered_1 (by decide) (by first | rfl | assumption) ?_
  refine g_iconst (pc := 2) (0) dX7_isLowered_2 (by decide) ?_
  refine g_istore2 (pc := 3) dX7_isLowered_3 (by decide) (by first | rfl | assumption) ?_
  exact lp_X7_isLowered_a (s0 := (v, 0)) (Or.inl rfl) none none
theorem lp_X7_reckonTo_w {k : Nat} {g : Int32} {w0 : Mm} {L : Lm} {Q : Qt} (hk2 : kd k = 2) (hI0 : (fun (_ : Nat) (_ : Mm) => True) 0 w0) (hk : G RX7 cX7_reckonTo 5 none 4 Q 30 [some (.ref 72), some (.int g), some (.ref k), some (.int (nI 8)), none] [] (wgM w0 k) L) : (fun (i : Nat) (w : Mm) =>  G RX7 cX7_reckonTo 5 none 4 Q 2 [some (.ref 72), some (.int g), some (.ref k), some (.int (nI i)), none] [] w L) 0 w0 := by
  refine g_for 8 (fun e w => upd2 w 73 e (100 * acF (w k 1) (w k 2) (w k 3) (nI e) + 1)) (fun (_ : Nat) (_ : Mm) => True) (fun (i : Nat) (w : Mm) =>  G RX7 cX7_reckonTo 5 none 4 Q 2 [some (.ref 72), some (.int g), some (.ref k), some (.int (nI i)), none] [] w L) w0 hI0 ?_ (fun hI => ?_) (fun i w hi hI hn => ?_)
  · exact fun _ _ _ h => h
  · show G _ _ _ _ _ _ _ _ _ _ _
    try dsimp only at hI
    refine g_iload3 (pc := 2) dX7_reckonTo_2 ?_
    refine g_bipush (pc := 3) (8) dX7_reckonTo_3 (by decide) ?_
    refine g_icmp_ge (pc := 5) 30 dX7_reckonTo_5 (by decide) (fun zh5 => ?_) (fun zh5 => ?_)
    · skip
      exact hk
    · skip
      exact absurd (Int32.le_refl _) zh5
  · show G _ _ _ _ _ _ _ _ _ _ _
    try dsimp only at hI
    try dsimp only at hn
    refine g_iload3 (pc := 2) dX7_reckonTo_2 ?_
    refine g_bipush (pc := 3) (8) dX7_reckonTo_3 (by decide) ?_
    refine g_icmp_ge (pc := 5) 30 dX7_reckonTo_5 (by decide) (fun zh5 => ?_) (fun zh5 => ?_)
    · skip
      exact absurd zh5 (nI_ge (b := 8) hi (by decide))
    · skip
      first | refine g_aload0 (pc := 8) dX7_reckonTo_8 ?_ | refine g_aloadN0 (pc := 8) dX7_reckonTo_8 ?_
      refine g_getR (pc := 9) (j := 0) cf7 dX7_reckonTo_9 fl_RX7_9 (by decide) (by decide) (by first | rfl | assumption) (73) (rfl) ?_
      refine g_iload3 (pc := 12) dX7_reckonTo_12 ?_
      refine g_bipush (pc := 13) (100) dX7_reckonTo_13 (by decide) ?_
      first | refine g_aload2 (pc := 15) dX7_reckonTo_15 ?_ | refine g_aloadN2 (pc := 15) dX7_reckonTo_15 ?_
      refine g_iload3 (pc := 16) dX7_reckonTo_16 ?_
      refine g_fV1 (pc := 17) (c_X2_across hk2) cf2 (by first | rfl | assumption) dX7_reckonTo_17 cw_RX7_30 (by decide) (Nat.le_of_ble_eq_true rfl) ?_
      refine g_imul (pc := 20) dX7_reckonTo_20 ?_
      refine g_iconst (pc := 21) (1) dX7_reckonTo_21 (by decide) ?_
      refine g_iadd (pc := 22) dX7_reckonTo_22 ?_
      refine g_iast (pc := 23) dX7_reckonTo_23 (by first | rfl | assumption) (vp_in_nI hi (by decide)) ?_
      refine g_iinc3 (pc := 24) (nI (i + 1)) dX7_reckonTo_24 (nI_succ' i) (by decide) (by first | rfl | assumption) ?_
      refine g_goto (pc := 27) 2 dX7_reckonTo_27 (by decide) ?_
      rw [nI_clamp (show i < 2 ^ 31 by omega)]
      exact hn
theorem lp_X7_reckonTo_c {k : Nat} {g : Int32} {w0 : Mm} {L : Lm} {Q : Qt} (hI0 : (fun (_ : Nat) (_ : Mm) => True) 0 w0) (hk : G RX7 cX7_reckonTo 5 none 4 Q 61 [some (.ref 72), some (.int g), some (.ref k), some (.int (nI 25)), none] [] (csM w0 g) L) : (fun (i : Nat) (w : Mm) =>  G RX7 cX7_reckonTo 5 none 4 Q 32 [some (.ref 72), some (.int g), some (.ref k), some (.int (nI i)), none] [] w L) 0 w0 := by
  refine g_for 25 (fun d w => upd2 w 74 d (if nI d = g then 0 else 1000000)) (fun (_ : Nat) (_ : Mm) => True) (fun (i : Nat) (w : Mm) =>  G RX7 cX7_reckonTo 5 none 4 Q 32 [some (.ref 72), some (.int g), some (.ref k), some (.int (nI i)), none] [] w L) w0 hI0 ?_ (fun hI => ?_) (fun i w hi hI hn => ?_)
  · exact fun _ _ _ h => h
  · show G _ _ _ _ _ _ _ _ _ _ _
    try dsimp only at hI
    refine g_iload3 (pc := 32) dX7_reckonTo_32 ?_
    refine g_bipush (pc := 33) (25) dX7_reckonTo_33 (by decide) ?_
    refine g_icmp_ge (pc := 35) 61 dX7_reckonTo_35 (by decide) (fun zh35 => ?_) (fun zh35 => ?_)
    · skip
      exact hk
    · skip
      exact absurd (Int32.le_refl _) zh35
  · show G _ _ _ _ _ _ _ _ _ _ _
    try dsimp only at hI
    try dsimp only at hn
    refine g_iload3 (pc := 32) dX7_reckonTo_32 ?_
    refine g_bipush (pc := 33) (25) dX7_reckonTo_33 (by decide) ?_
    refine g_icmp_ge (pc := 35) 61 dX7_reckonTo_35 (by decide) (fun zh35 => ?_) (fun zh35 => ?_)
    · skip
      exact absurd zh35 (nI_ge (b := 25) hi (by decide))
    · skip
      first | refine g_aload0 (pc := 38) dX7_reckonTo_38 ?_ | refine g_aloadN0 (pc := 38) dX7_reckonTo_38 ?_
      refine g_getR (pc := 39) (j := 1) cf7 dX7_reckonTo_39 fl_RX7_15 (by decide) (by decide) (by first | rfl | assumption) (74) (rfl) ?_
      refine g_iload3 (pc := 42) dX7_reckonTo_42 ?_
      refine g_iload3 (pc := 43) dX7_reckonTo_43 ?_
      refine g_iload1 (pc := 44) dX7_reckonTo_44 ?_
      refine g_icmp_ne (pc := 45) 52 dX7_reckonTo_45 (by decide) (fun zh45 => ?_) (fun zh45 => ?_)
      · skip
        refine g_ldc (pc := 52) _ dX7_reckonTo_52 kc_RX7_36 ?_
        refine g_iast (pc := 54) dX7_reckonTo_54 (by first | rfl | assumption) (vp_in_nI hi (by decide)) ?_
        refine g_iinc3 (pc := 55) (nI (i + 1)) dX7_reckonTo_55 (nI_succ' i) (by decide) (by first | rfl | assumption) ?_
        refine g_goto (pc := 58) 32 dX7_reckonTo_58 (by decide) ?_
        rw [nI_clamp (show i < 2 ^ 31 by omega)]
        first | (rw [if_pos zh45] at hn; exact hn) | (rw [if_neg zh45] at hn; exact hn)
      · skip
        refine g_iconst (pc := 48) (0) dX7_reckonTo_48 (by decide) ?_
        refine g_goto (pc := 49) 54 dX7_reckonTo_49 (by decide) ?_
        refine g_iast (pc := 54) dX7_reckonTo_54 (by first | rfl | assumption) (vp_in_nI hi (by decide)) ?_
        refine g_iinc3 (pc := 55) (nI (i + 1)) dX7_reckonTo_55 (nI_succ' i) (by decide) (by first | rfl | assumption) ?_
        refine g_goto (pc := 58) 32 dX7_reckonTo_58 (by decide) ?_
        rw [nI_clamp (show i < 2 ^ 31 by omega)]
        first | (rw [if_pos zh45] at hn; exact hn) | (rw [if_neg zh45] at hn; exact hn)
theorem lp_X7_reckonTo_r {k : Nat} {g : Int32} {L : Lm}  : ∀ (m : Nat) (i : Nat) (ch : Int32) (v : Mm), i + m = 25 → G RX7 cX7_reckonTo 5 none 4 (fun a b K => a = none ∧ b = rndF m ch v ∧ K = L) 66 [some (.ref 72), some (.int g), some (.ref k), some (.int ch), some (.int (nI i))] [] v L := by
  intro m
  induction m with
  | zero =>
    intro i ch v hi
    refine g_iload4 (pc := 66) dX7_reckonTo_66 ?_
    refine g_bipush (pc := 68) (25) dX7_reckonTo_68 (by decide) ?_
    refine g_icmp_ge (pc := 70) 88 dX7_reckonTo_70 (by decide) (fun zh70 => ?_) (fun zh70 => ?_)
    · skip
      refine g_vret (pc := 88) dX7_reckonTo_88 rfl ?_
      exact ⟨rfl, rfl, rfl⟩
    · skip
      exact absurd (show (25 : Int32) ≤ nI i by rw [show i = 25 by omega]; decide) zh70
  | succ m ih =>
    intro i ch v hi
    refine g_iload4 (pc := 66) dX7_reckonTo_66 ?_
    refine g_bipush (pc := 68) (25) dX7_reckonTo_68 (by decide) ?_
    refine g_icmp_ge (pc := 70) 88 dX7_reckonTo_70 (by decide) (fun zh70 => ?_) (fun zh70 => ?_)
    · skip
      exact absurd zh70 (nI_ge (b := 25) (by omega) (by decide))
    · skip
      refine g_iload3 (pc := 73) dX7_reckonTo_73 ?_
      refine g_if_eq (pc := 74) 88 dX7_reckonTo_74 (by decide) (fun zh74 => ?_) (fun zh74 => ?_)
      · skip
        refine g_vret (pc := 88) dX7_reckonTo_88 rfl ?_
        exact ⟨rfl, (if_pos zh74).symm, rfl⟩
      · skip
        first | refine g_aload0 (pc := 77) dX7_reckonTo_77 ?_ | refine g_aloadN0 (pc := 77) dX7_reckonTo_77 ?_
        refine g_fV0 (pc := 78) (c_X7_isLowered) cf7 (by first | rfl | assumption) dX7_reckonTo_78 cw_RX7_37 (by decide) (Nat.le_of_ble_eq_true rfl) ?_
        refine g_istore3 (pc := 81) dX7_reckonTo_81 (by decide) (by first | rfl | assumption) ?_
        refine g_iinc4 (pc := 82) (nI (i + 1)) dX7_reckonTo_82 (nI_succ' i) (by decide) (by first | rfl | assumption) ?_
        refine g_goto (pc := 85) 66 dX7_reckonTo_85 (by decide) ?_
        have ee : rndF (m + 1) ch v = rndF m (lowF v).2 (lowF v).1 := if_neg zh74
        rw [ee]
        exact ih (i + 1) _ _ (by omega)
theorem c_X7_reckonTo {k : Nat} {x : Int32} {v : Mm} {L : Lm} (hk2 : kd k = 2) : Fn yX7_reckonTo cX7_reckonTo 5 none 4 [.ref 72, .int x, .ref k] v L none (rkM v k x) L := by
  refine Fq.of (plainFor_of_name (by decide)) [some (.ref 72), some (.int x), some (.ref k), none, none] rfl (Nat.le_of_ble_eq_true rfl) ?_
  refine g_iconst (pc := 0) (0) dX7_reckonTo_0 (by decide) ?_
  refine g_istore3 (pc := 1) dX7_reckonTo_1 (by decide) (by first | rfl | assumption) ?_
  refine lp_X7_reckonTo_w hk2 trivial ?_
  refine g_iconst (pc := 30) 0 dX7_reckonTo_30 (by decide) ?_
  refine g_istore3 (pc := 31) dX7_reckonTo_31 (by decide) rfl ?_
  refine lp_X7_reckonTo_c trivial ?_
  refine g_iconst (pc := 61) 1 dX7_reckonTo_61 (by decide) ?_
  refine g_istore3 (pc := 62) dX7_reckonTo_62 (by decide) rfl ?_
  refine g_iconst (pc := 63) 0 dX7_reckonTo_63 (by decide) ?_
  refine g_istore4 (pc := 64) dX7_reckonTo_64 (by decide) rfl ?_
  exact lp_X7_reckonTo_r 25 0 1 _ rfl
theorem lp_X7_walkOne_b {k e : Nat} {t : Int32} {w0 : Mm} {L : Lm} {Q : Qt} (he8 : e < 8) (hI0 : (fun (_ : Nat) (_ : Mm) => True) 0 w0) (hk : ∀ o5 : Option Value, G RX7 cX7_walkOne 6 none 2 Q 116 [some (.ref 72), some (.ref k), some (.int (nI e)), some (.int t), some (.int (nI 25)), o5] [] (itr (fun dot w => wk1 t e dot w) 25 w0) L) : (fun (i : Nat) (w : Mm) => ∀ (o5 : Option Value), G RX7 cX7_walkOne 6 none 2 Q 34 [some (.ref 72), some (.ref k), some (.int (nI e)), some (.int t), some (.int (nI i)), o5] [] w L) 0 w0 := by
  refine g_for 25 (fun dot w => wk1 t e dot w) (fun (_ : Nat) (_ : Mm) => True) (fun (i : Nat) (w : Mm) => ∀ (o5 : Option Value), G RX7 cX7_walkOne 6 none 2 Q 34 [some (.ref 72), some (.ref k), some (.int (nI e)), some (.int t), some (.int (nI i)), o5] [] w L) w0 hI0 ?_ (fun hI => ?_) (fun i w hi hI hn => ?_)
  · exact fun _ _ _ h => h
  · intro o5
    show G _ _ _ _ _ _ _ _ _ _ _
    try dsimp only at hI
    refine g_iload4 (pc := 34) dX7_walkOne_34 ?_
    refine g_bipush (pc := 36) (25) dX7_walkOne_36 (by decide) ?_
    refine g_icmp_ge (pc := 38) 116 dX7_walkOne_38 (by decide) (fun zh38 => ?_) (fun zh38 => ?_)
    · skip
      exact hk _
    · skip
      exact absurd (Int32.le_refl _) zh38
  · intro o5
    show G _ _ _ _ _ _ _ _ _ _ _
    try dsimp only at hI
    try dsimp only at hn
    refine g_iload4 (pc := 34) dX7_walkOne_34 ?_
    refine g_bipush (pc := 36) (25) dX7_walkOne_36 (by decide) ?_
    refine g_icmp_ge (pc := 38) 116 dX7_walkOne_38 (by decide) (fun zh38 => ?_) (fun zh38 => ?_)
    · skip
      exact absurd zh38 (nI_ge (b := 25) hi (by decide))
    · skip
      refine g_iload4 (pc := 41) dX7_walkOne_41 ?_
      refine g_iload2 (pc := 43) dX7_walkOne_43 ?_
      refine g_fN2 (pc := 44) (c_X9_neighbour) dX7_walkOne_44 cw_RX7_45 (by decide) (Nat.le_of_ble_eq_true rfl) ?_
      refine g_istore5 (pc := 47) dX7_walkOne_47 (by decide) (by first | rfl | assumption) ?_
      refine g_iload5 (pc := 49) dX7_walkOne_49 ?_
      refine g_fN1 (pc := 51) (c_X9_isDot) dX7_walkOne_51 cw_RX7_48 (by decide) (Nat.le_of_ble_eq_true rfl) ?_
      refine g_if_eq (pc := 54) 110 dX7_walkOne_54 (by decide) (fun zh54 => ?_) (fun zh54 => ?_)
      · skip
        refine g_iinc4 (pc := 110) (nI (i + 1)) dX7_walkOne_110 (nI_succ' i) (by decide) (by first | rfl | assumption) ?_
        refine g_goto (pc := 113) 34 dX7_walkOne_113 (by decide) ?_
        first
          | (have ee : wk1 t e i w = w := if_neg (fun zq => b01_eq0.mp zh54 zq.1)
             rw [ee] at hn; exact hn _)
          | (have ee : wk1 t e i w = w := if_neg (fun zq => i32nle.mpr zq.2 zh64)
             rw [ee] at hn; exact hn _)
          | (have ee : wk1 t e i w = upd2 (upd2 w 76 (nbF (nI i) (nI e)).toNatClampNeg (w 76 (nbF (nI i) (nI e)).toNatClampNeg + w 75 i)) 78 (nbF (nI i) (nI e)).toNatClampNeg (mnI (upd2 w 76 (nbF (nI i) (nI e)).toNatClampNeg (w 76 (nbF (nI i) (nI e)).toNatClampNeg + w 75 i) 78 (nbF (nI i) (nI e)).toNatClampNeg) (upd2 w 76 (nbF (nI i) (nI e)).toNatClampNeg (w 76 (nbF (nI i) (nI e)).toNatClampNeg + w 75 i) 77 i + t)) := if_pos ⟨b01_ne0.mp zh54, i32nle.mp zh64⟩
             rw [ee] at hn; exact hn _)
      · skip
        first | refine g_aload0 (pc := 57) dX7_walkOne_57 ?_ | refine g_aloadN0 (pc := 57) dX7_walkOne_57 ?_
        refine g_getR (pc := 58) (j := 2) cf7 dX7_walkOne_58 fl_RX7_18 (by decide) (by decide) (by first | rfl | assumption) (75) (rfl) ?_
        refine g_iload4 (pc := 61) dX7_walkOne_61 ?_
        refine g_iald (pc := 63) dX7_walkOne_63 (by first | rfl | assumption) (vp_in_nI hi (by decide)) ?_
        rw [nI_clamp (show i < 2 ^ 31 by omega)]
        refine g_if_le (pc := 64) 110 dX7_walkOne_64 (by decide) (fun zh64 => ?_) (fun zh64 => ?_)
        · skip
          refine g_iinc4 (pc := 110) (nI (i + 1)) dX7_walkOne_110 (nI_succ' i) (by decide) (by first | rfl | assumption) ?_
          refine g_goto (pc := 113) 34 dX7_walkOne_113 (by decide) ?_
          first
            | (have ee : wk1 t e i w = w := if_neg (fun zq => b01_eq0.mp zh54 zq.1)
               rw [ee] at hn; exact hn _)
            | (have ee : wk1 t e i w = w := if_neg (fun zq => i32nle.mpr zq.2 zh64)
               rw [ee] at hn; exact hn _)
            | (have ee : wk1 t e i w = upd2 (upd2 w 76 (nbF (nI i) (nI e)).toNatClampNeg (w 76 (nbF (nI i) (nI e)).toNatClampNeg + w 75 i)) 78 (nbF (nI i) (nI e)).toNatClampNeg (mnI (upd2 w 76 (nbF (nI i) (nI e)).toNatClampNeg (w 76 (nbF (nI i) (nI e)).toNatClampNeg + w 75 i) 78 (nbF (nI i) (nI e)).toNatClampNeg) (upd2 w 76 (nbF (nI i) (nI e)).toNatClampNeg (w 76 (nbF (nI i) (nI e)).toNatClampNeg + w 75 i) 77 i + t)) := if_pos ⟨b01_ne0.mp zh54, i32nle.mp zh64⟩
               rw [ee] at hn; exact hn _)
        · skip
          first | refine g_aload0 (pc := 67) dX7_walkOne_67 ?_ | refine g_aloadN0 (pc := 67) dX7_walkOne_67 ?_
          refine g_getR (pc := 68) (j := 3) cf7 dX7_walkOne_68 fl_RX7_21 (by decide) (by decide) (by first | rfl | assumption) (76) (rfl) ?_
          refine g_iload5 (pc := 71) dX7_walkOne_71 ?_
          refine g_dup2 (pc := 73) dX7_walkOne_73 rfl rfl ?_
          refine g_iald (pc := 74) dX7_walkOne_74 (by first | rfl | assumption) (vin_lt (n := 25) (by decide) (b01_ne0.mp zh54)) ?_
          first | refine g_aload0 (pc := 75) dX7_walkOne_75 ?_ | refine g_aloadN0 (pc := 75) dX7_walkOne_75 ?_
          refine g_getR (pc := 76) (j := 2) cf7 dX7_walkOne_76 fl_RX7_18 (by decide) (by decide) (by first | rfl | assumption) (75) (rfl) ?_
          refine g_iload4 (pc := 79) dX7_walkOne_79 ?_
          refine g_iald (pc := 81) dX7_walkOne_81 (by first | rfl | assumption) (vp_in_nI hi (by decide)) ?_
          rw [nI_clamp (show i < 2 ^ 31 by omega)]
          refine g_iadd (pc := 82) dX7_walkOne_82 ?_
          refine g_iast (pc := 83) dX7_walkOne_83 (by first | rfl | assumption) (vin_lt (n := 25) (by decide) (b01_ne0.mp zh54)) ?_
          first | refine g_aload0 (pc := 84) dX7_walkOne_84 ?_ | refine g_aloadN0 (pc := 84) dX7_walkOne_84 ?_
          refine g_getR (pc := 85) (j := 5) cf7 dX7_walkOne_85 fl_RX7_27 (by decide) (by decide) (by first | rfl | assumption) (78) (rfl) ?_
          refine g_iload5 (pc := 88) dX7_walkOne_88 ?_
          first | refine g_aload0 (pc := 90) dX7_walkOne_90 ?_ | refine g_aloadN0 (pc := 90) dX7_walkOne_90 ?_
          refine g_getR (pc := 91) (j := 5) cf7 dX7_walkOne_91 fl_RX7_27 (by decide) (by decide) (by first | rfl | assumption) (78) (rfl) ?_
          refine g_iload5 (pc := 94) dX7_walkOne_94 ?_
          refine g_iald (pc := 96) dX7_walkOne_96 (by first | rfl | assumption) (vin_lt (n := 25) (by decide) (b01_ne0.mp zh54)) ?_
          first | refine g_aload0 (pc := 97) dX7_walkOne_97 ?_ | refine g_aloadN0 (pc := 97) dX7_walkOne_97 ?_
          refine g_getR (pc := 98) (j := 4) cf7 dX7_walkOne_98 fl_RX7_24 (by decide) (by decide) (by first | rfl | assumption) (77) (rfl) ?_
          refine g_iload4 (pc := 101) dX7_walkOne_101 ?_
          refine g_iald (pc := 103) dX7_walkOne_103 (by first | rfl | assumption) (vp_in_nI hi (by decide)) ?_
          rw [nI_clamp (show i < 2 ^ 31 by omega)]
          refine g_iload3 (pc := 104) dX7_walkOne_104 ?_
          refine g_iadd (pc := 105) dX7_walkOne_105 ?_
          refine g_fS2 (pc := 106) (c_J9_min_7cf53) dX7_walkOne_106 cw_RX7_72 (by decide) (Nat.le_of_ble_eq_true rfl) ?_
          refine g_iast (pc := 109) dX7_walkOne_109 (by first | rfl | assumption) (vin_lt (n := 25) (by decide) (b01_ne0.mp zh54)) ?_
          refine g_iinc4 (pc := 110) (nI (i + 1)) dX7_walkOne_110 (nI_succ' i) (by decide) (by first | rfl | assumption) ?_
          refine g_goto (pc := 113) 34 dX7_walkOne_113 (by decide) ?_
          first
            | (have ee : wk1 t e i w = w := if_neg (fun zq => b01_eq0.mp zh54 zq.1)
               rw [ee] at hn; exact hn _)
            | (have ee : wk1 t e i w = w := if_neg (fun zq => i32nle.mpr zq.2 zh64)
               rw [ee] at hn; exact hn _)
            | (have ee : wk1 t e i w = upd2 (upd2 w 76 (nbF (nI i) (nI e)).toNatClampNeg (w 76 (nbF (nI i) (nI e)).toNatClampNeg + w 75 i)) 78 (nbF (nI i) (nI e)).toNatClampNeg (mnI (upd2 w 76 (nbF (nI i) (nI e)).toNatClampNeg (w 76 (nbF (nI i) (nI e)).toNatClampNeg + w 75 i) 78 (nbF (nI i) (nI e)).toNatClampNeg) (upd2 w 76 (nbF (nI i) (nI e)).toNatClampNeg (w 76 (nbF (nI i) (nI e)).toNatClampNeg + w 75 i) 77 i + t)) := if_pos ⟨b01_ne0.mp zh54, i32nle.mp zh64⟩
               rw [ee] at hn; exact hn _)
theorem lp_X7_walkOne_a {k : Nat} {v w0 : Mm} {L : Lm} {Q : Qt} (hk2 : kd k = 2) (hI0 : (fun (_ : Nat) (zw : Mm) => zw k 1 = v k 1 ∧ zw k 2 = v k 2 ∧ zw k 3 = v k 3) 0 w0) (hk : ∀ o3 o4 o5 : Option Value, G RX7 cX7_walkOne 6 none 2 Q 122 [some (.ref 72), some (.ref k), some (.int (nI 8)), o3, o4, o5] [] (itr (fun e w => itr (fun dot w => wk1 (acF (v k 1) (v k 2) (v k 3) (nI e)) e dot w) 25 w) 8 w0) L) : (fun (i : Nat) (w : Mm) => ∀ (o3 o4 o5 : Option Value), G RX7 cX7_walkOne 6 none 2 Q 19 [some (.ref 72), some (.ref k), some (.int (nI i)), o3, o4, o5] [] w L) 0 w0 := by
  refine g_for 8 (fun e w => itr (fun dot w => wk1 (acF (v k 1) (v k 2) (v k 3) (nI e)) e dot w) 25 w) (fun (_ : Nat) (zw : Mm) => zw k 1 = v k 1 ∧ zw k 2 = v k 2 ∧ zw k 3 = v k 3) (fun (i : Nat) (w : Mm) => ∀ (o3 o4 o5 : Option Value), G RX7 cX7_walkOne 6 none 2 Q 19 [some (.ref 72), some (.ref k), some (.int (nI i)), o3, o4, o5] [] w L) w0 hI0 ?_ (fun hI => ?_) (fun i w hi hI hn => ?_)
  · intro zi zw zl zh
    exact itr_inv (f := fun dot w => wk1 (acF (v k 1) (v k 2) (v k 3) (nI zi)) zi dot w) (fun zw2 => zw2 k 1 = v k 1 ∧ zw2 k 2 = v k 2 ∧ zw2 k 3 = v k 3) (fun zd zw2 zh2 => by simp only [wk1_pen hk2]; exact zh2) 25 zw zh
  · intro o3 o4 o5
    show G _ _ _ _ _ _ _ _ _ _ _
    try dsimp only at hI
    refine g_iload2 (pc := 19) dX7_walkOne_19 ?_
    refine g_bipush (pc := 20) (8) dX7_walkOne_20 (by decide) ?_
    refine g_icmp_ge (pc := 22) 122 dX7_walkOne_22 (by decide) (fun zh22 => ?_) (fun zh22 => ?_)
    · skip
      exact hk _ _ _
    · skip
      exact absurd (Int32.le_refl _) zh22
  · intro o3 o4 o5
    show G _ _ _ _ _ _ _ _ _ _ _
    try dsimp only at hI
    try dsimp only at hn
    refine g_iload2 (pc := 19) dX7_walkOne_19 ?_
    refine g_bipush (pc := 20) (8) dX7_walkOne_20 (by decide) ?_
    refine g_icmp_ge (pc := 22) 122 dX7_walkOne_22 (by decide) (fun zh22 => ?_) (fun zh22 => ?_)
    · skip
      exact absurd zh22 (nI_ge (b := 8) hi (by decide))
    · skip
      first | refine g_aload1 (pc := 25) dX7_walkOne_25 ?_ | refine g_aloadN1 (pc := 25) dX7_walkOne_25 ?_
      refine g_iload2 (pc := 26) dX7_walkOne_26 ?_
      refine g_fV1 (pc := 27) (c_X2_across hk2) cf2 (by first | rfl | assumption) dX7_walkOne_27 cw_RX7_30 (by decide) (Nat.le_of_ble_eq_true rfl) ?_
      rw [hI.1, hI.2.1, hI.2.2]
      refine g_istore3 (pc := 30) dX7_walkOne_30 (by decide) (by first | rfl | assumption) ?_
      refine g_iconst (pc := 31) (0) dX7_walkOne_31 (by decide) ?_
      refine g_istore4 (pc := 32) dX7_walkOne_32 (by decide) (by first | rfl | assumption) ?_
      refine lp_X7_walkOne_b hi trivial (fun zo => ?_) o5
      refine g_iinc2 (pc := 116) (nI (i + 1)) dX7_walkOne_116 (nI_succ' i) (by decide) rfl ?_
      refine g_goto (pc := 119) 19 dX7_walkOne_119 (by decide) ?_
      exact hn _ _ _
theorem c_X7_walkOne {k : Nat} {v : Mm} {L : Lm} (hk2 : kd k = 2) : Fn yX7_walkOne cX7_walkOne 6 none 2 [.ref 72, .ref k] v L none (wkO v k) L := by
  refine Fq.of (plainFor_of_name (by decide)) [some (.ref 72), some (.ref k), none, none, none, none] rfl (Nat.le_of_ble_eq_true rfl) ?_
  first | refine g_aload0 (pc := 0) dX7_walkOne_0 ?_ | refine g_aloadN0 (pc := 0) dX7_walkOne_0 ?_
  refine g_getR (pc := 1) (j := 3) cf7 dX7_walkOne_1 fl_RX7_21 (by decide) (by decide) (by first | rfl | assumption) (76) (rfl) ?_
  refine g_iconst (pc := 4) (0) dX7_walkOne_4 (by decide) ?_
  refine g_vS2 (pc := 5) (c_J7_fill_53178 rfl (by decide)) dX7_walkOne_5 cw_RX7_66 (by decide) (Nat.le_of_ble_eq_true rfl) ?_
  first | refine g_aload0 (pc := 8) dX7_walkOne_8 ?_ | refine g_aloadN0 (pc := 8) dX7_walkOne_8 ?_
  refine g_getR (pc := 9) (j := 5) cf7 dX7_walkOne_9 fl_RX7_27 (by decide) (by decide) (by first | rfl | assumption) (78) (rfl) ?_
  refine g_ldc (pc := 12) _ dX7_walkOne_12 kc_RX7_36 ?_
  refine g_vS2 (pc := 14) (c_J7_fill_53178 rfl (by decide)) dX7_walkOne_14 cw_RX7_66 (by decide) (Nat.le_of_ble_eq_true rfl) ?_
  refine g_iconst (pc := 17) (0) dX7_walkOne_17 (by decide) ?_
  refine g_istore2 (pc := 18) dX7_walkOne_18 (by decide) (by first | rfl | assumption) ?_
  refine lp_X7_walkOne_a hk2 ⟨flM_pen hk2, flM_pen hk2, flM_pen hk2⟩ (fun zo3 zo4 zo5 => ?_) none none none
  first | refine g_aload0 (pc := 122) dX7_walkOne_122 ?_ | refine g_aloadN0 (pc := 122) dX7_walkOne_122 ?_
  refine g_getR (pc := 123) (j := 3) cf7 dX7_walkOne_123 fl_RX7_21 (by decide) (by decide) (by first | rfl | assumption) (76) (rfl) ?_
  refine g_iconst (pc := 126) (0) dX7_walkOne_126 (by decide) ?_
  first | refine g_aload0 (pc := 127) dX7_walkOne_127 ?_ | refine g_aloadN0 (pc := 127) dX7_walkOne_127 ?_
  refine g_getR (pc := 128) (j := 2) cf7 dX7_walkOne_128 fl_RX7_18 (by decide) (by decide) (by first | rfl | assumption) (75) (rfl) ?_
  refine g_iconst (pc := 131) (0) dX7_walkOne_131 (by decide) ?_
  refine g_bipush (pc := 132) (25) dX7_walkOne_132 (by decide) ?_
  refine g_copyi (pc := 134) dX7_walkOne_134 ac_RX7_77 rfl rfl (by decide) (by decide) (by decide) (by decide) (by decide) (by decide) (Nat.le_of_ble_eq_true rfl) ?_
  first | refine g_aload0 (pc := 137) dX7_walkOne_137 ?_ | refine g_aloadN0 (pc := 137) dX7_walkOne_137 ?_
  refine g_getR (pc := 138) (j := 5) cf7 dX7_walkOne_138 fl_RX7_27 (by decide) (by decide) (by first | rfl | assumption) (78) (rfl) ?_
  refine g_iconst (pc := 141) (0) dX7_walkOne_141 (by decide) ?_
  first | refine g_aload0 (pc := 142) dX7_walkOne_142 ?_ | refine g_aloadN0 (pc := 142) dX7_walkOne_142 ?_
  refine g_getR (pc := 143) (j := 4) cf7 dX7_walkOne_143 fl_RX7_24 (by decide) (by decide) (by first | rfl | assumption) (77) (rfl) ?_
  refine g_iconst (pc := 146) (0) dX7_walkOne_146 (by decide) ?_
  refine g_bipush (pc := 147) (25) dX7_walkOne_147 (by decide) ?_
  refine g_copyi (pc := 149) dX7_walkOne_149 ac_RX7_77 rfl rfl (by decide) (by decide) (by decide) (by decide) (by decide) (by decide) (Nat.le_of_ble_eq_true rfl) ?_
  refine g_vret (pc := 152) dX7_walkOne_152 rfl ?_
  exact ⟨rfl, rfl, rfl⟩
theorem lp_X7_walk_0 {k : Nat} {n : Int32} {w0 : Mm} {L : Lm} {Q : Qt} (hk2 : kd k = 2) (hI0 : (fun (_ : Nat) (zw : Mm) => zw k 0 = w0 k 0) 0 w0) (hk : G RX7 cX7_walk 4 none 3 Q 53 [some (.ref 72), some (.ref k), some (.int n), some (.int (nI 25))] [] (wkM0 w0 (w0 k 0)) L) : (fun (i : Nat) (w : Mm) =>  G RX7 cX7_walk 4 none 3 Q 2 [some (.ref 72), some (.ref k), some (.int n), some (.int (nI i))] [] w L) 0 w0 := by
  refine g_for 25 (fun i w => upd2 (upd2 w 75 i (if nI i = w0 k 0 then 1 else 0)) 77 i (if nI i = w0 k 0 then 0 else 1000000)) (fun (_ : Nat) (zw : Mm) => zw k 0 = w0 k 0) (fun (i : Nat) (w : Mm) =>  G RX7 cX7_walk 4 none 3 Q 2 [some (.ref 72), some (.ref k), some (.int n), some (.int (nI i))] [] w L) w0 hI0 ?_ (fun hI => ?_) (fun i w hi hI hn => ?_)
  · intro zi zw zl zh
    show upd2 (upd2 zw 75 zi _) 77 zi _ k 0 = w0 k 0
    rw [u2_n (fun zq => pen_ne hk2 77 (by decide) zq.1), u2_n (fun zq => pen_ne hk2 75 (by decide) zq.1)]; exact zh
  · show G _ _ _ _ _ _ _ _ _ _ _
    try dsimp only at hI
    refine g_iload3 (pc := 2) dX7_walk_2 ?_
    refine g_bipush (pc := 3) (25) dX7_walk_3 (by decide) ?_
    refine g_icmp_ge (pc := 5) 53 dX7_walk_5 (by decide) (fun zh5 => ?_) (fun zh5 => ?_)
    · skip
      exact hk
    · skip
      exact absurd (Int32.le_refl _) zh5
  · show G _ _ _ _ _ _ _ _ _ _ _
    try dsimp only at hI
    try dsimp only at hn
    refine g_iload3 (pc := 2) dX7_walk_2 ?_
    refine g_bipush (pc := 3) (25) dX7_walk_3 (by decide) ?_
    refine g_icmp_ge (pc := 5) 53 dX7_walk_5 (by decide) (fun zh5 => ?_) (fun zh5 => ?_)
    · skip
      exact absurd zh5 (nI_ge (b := 25) hi (by decide))
    · skip
      first | refine g_aload0 (pc := 8) dX7_walk_8 ?_ | refine g_aloadN0 (pc := 8) dX7_walk_8 ?_
      refine g_getR (pc := 9) (j := 2) cf7 dX7_walk_9 fl_RX7_18 (by decide) (by decide) (by first | rfl | assumption) (75) (rfl) ?_
      refine g_iload3 (pc := 12) dX7_walk_12 ?_
      refine g_iload3 (pc := 13) dX7_walk_13 ?_
      first | refine g_aload1 (pc := 14) dX7_walk_14 ?_ | refine g_aloadN1 (pc := 14) dX7_walk_14 ?_
      refine g_getI (pc := 15) (j := 0) cf2 dX7_walk_15 fl_RX7_58 (by decide) (by decide) (by first | rfl | assumption) ?_
      rw [hI]
      refine g_icmp_ne (pc := 18) 25 dX7_walk_18 (by decide) (fun zh18 => ?_) (fun zh18 => ?_)
      · skip
        refine g_iconst (pc := 25) (0) dX7_walk_25 (by decide) ?_
        refine g_iast (pc := 26) dX7_walk_26 (by first | rfl | assumption) (vp_in_nI hi (by decide)) ?_
        first | refine g_aload0 (pc := 27) dX7_walk_27 ?_ | refine g_aloadN0 (pc := 27) dX7_walk_27 ?_
        refine g_getR (pc := 28) (j := 4) cf7 dX7_walk_28 fl_RX7_24 (by decide) (by decide) (by first | rfl | assumption) (77) (rfl) ?_
        refine g_iload3 (pc := 31) dX7_walk_31 ?_
        refine g_iload3 (pc := 32) dX7_walk_32 ?_
        first | refine g_aload1 (pc := 33) dX7_walk_33 ?_ | refine g_aloadN1 (pc := 33) dX7_walk_33 ?_
        refine g_getI (pc := 34) (j := 0) cf2 dX7_walk_34 fl_RX7_58 (by decide) (by decide) (by first | rfl | assumption) ?_
        rw [nI_clamp (show i < 2 ^ 31 by omega), u2_n (fun zq => pen_ne hk2 75 (by decide) zq.1), hI]
        refine g_icmp_ne (pc := 37) 44 dX7_walk_37 (by decide) (fun zh37 => ?_) (fun zh37 => ?_)
        · skip
          refine g_ldc (pc := 44) _ dX7_walk_44 kc_RX7_36 ?_
          refine g_iast (pc := 46) dX7_walk_46 (by first | rfl | assumption) (vp_in_nI hi (by decide)) ?_
          refine g_iinc3 (pc := 47) (nI (i + 1)) dX7_walk_47 (nI_succ' i) (by decide) (by first | rfl | assumption) ?_
          refine g_goto (pc := 50) 2 dX7_walk_50 (by decide) ?_
          rw [nI_clamp (show i < 2 ^ 31 by omega)]
          first | exact absurd zh18 zh37 | exact absurd zh37 zh18 | (rw [if_pos zh18, if_pos zh18] at hn; exact hn) | (rw [if_neg zh18, if_neg zh18] at hn; exact hn)
        · skip
          refine g_iconst (pc := 40) (0) dX7_walk_40 (by decide) ?_
          refine g_goto (pc := 41) 46 dX7_walk_41 (by decide) ?_
          refine g_iast (pc := 46) dX7_walk_46 (by first | rfl | assumption) (vp_in_nI hi (by decide)) ?_
          refine g_iinc3 (pc := 47) (nI (i + 1)) dX7_walk_47 (nI_succ' i) (by decide) (by first | rfl | assumption) ?_
          refine g_goto (pc := 50) 2 dX7_walk_50 (by decide) ?_
          rw [nI_clamp (show i < 2 ^ 31 by omega)]
          first | exact absurd zh18 zh37 | exact absurd zh37 zh18 | (rw [if_pos zh18, if_pos zh18] at hn; exact hn) | (rw [if_neg zh18, if_neg zh18] at hn; exact hn)
      · skip
        refine g_iconst (pc := 21) (1) dX7_walk_21 (by decide) ?_
        refine g_goto (pc := 22) 26 dX7_walk_22 (by decide) ?_
        refine g_iast (pc := 26) dX7_walk_26 (by first | rfl | assumption) (vp_in_nI hi (by decide)) ?_
        first | refine g_aload0 (pc := 27) dX7_walk_27 ?_ | refine g_aloadN0 (pc := 27) dX7_walk_27 ?_
        refine g_getR (pc := 28) (j := 4) cf7 dX7_walk_28 fl_RX7_24 (by decide) (by decide) (by first | rfl | assumption) (77) (rfl) ?_
        refine g_iload3 (pc := 31) dX7_walk_31 ?_
        refine g_iload3 (pc := 32) dX7_walk_32 ?_
        first | refine g_aload1 (pc := 33) dX7_walk_33 ?_ | refine g_aloadN1 (pc := 33) dX7_walk_33 ?_
        refine g_getI (pc := 34) (j := 0) cf2 dX7_walk_34 fl_RX7_58 (by decide) (by decide) (by first | rfl | assumption) ?_
        rw [nI_clamp (show i < 2 ^ 31 by omega), u2_n (fun zq => pen_ne hk2 75 (by decide) zq.1), hI]
        refine g_icmp_ne (pc := 37) 44 dX7_walk_37 (by decide) (fun zh37 => ?_) (fun zh37 => ?_)
        · skip
          refine g_ldc (pc := 44) _ dX7_walk_44 kc_RX7_36 ?_
          refine g_iast (pc := 46) dX7_walk_46 (by first | rfl | assumption) (vp_in_nI hi (by decide)) ?_
          refine g_iinc3 (pc := 47) (nI (i + 1)) dX7_walk_47 (nI_succ' i) (by decide) (by first | rfl | assumption) ?_
          refine g_goto (pc := 50) 2 dX7_walk_50 (by decide) ?_
          rw [nI_clamp (show i < 2 ^ 31 by omega)]
          first | exact absurd zh18 zh37 | exact absurd zh37 zh18 | (rw [if_pos zh18, if_pos zh18] at hn; exact hn) | (rw [if_neg zh18, if_neg zh18] at hn; exact hn)
        · skip
          refine g_iconst (pc := 40) (0) dX7_walk_40 (by decide) ?_
          refine g_goto (pc := 41) 46 dX7_walk_41 (by decide) ?_
          refine g_iast (pc := 46) dX7_walk_46 (by first | rfl | assumption) (vp_in_nI hi (by decide)) ?_
          refine g_iinc3 (pc := 47) (nI (i + 1)) dX7_walk_47 (nI_succ' i) (by decide) (by first | rfl | assumption) ?_
          refine g_goto (pc := 50) 2 dX7_walk_50 (by decide) ?_
          rw [nI_clamp (show i < 2 ^ 31 by omega)]
          first | exact absurd zh18 zh37 | exact absurd zh37 zh18 | (rw [if_pos zh18, if_pos zh18] at hn; exact hn) | (rw [if_neg zh18, if_neg zh18] at hn; exact hn)
theorem lp_X7_walk_1 {k n : Nat} {w0 : Mm} {L : Lm} {Q : Qt} (hk2 : kd k = 2) (hn4 : n ≤ 4) (hI0 : (fun (_ : Nat) (_ : Mm) => True) 0 w0) (hq : Q none (itr (fun _ w => wkO w k) n w0) L) : (fun (i : Nat) (w : Mm) =>  G RX7 cX7_walk 4 none 3 Q 55 [some (.ref 72), some (.ref k), some (.int (nI n)), some (.int (nI i))] [] w L) 0 w0 := by
  refine g_for n (fun _ w => wkO w k) (fun (_ : Nat) (_ : Mm) => True) (fun (i : Nat) (w : Mm) =>  G RX7 cX7_walk 4 none 3 Q 55 [some (.ref 72), some (.ref k), some (.int (nI n)), some (.int (nI i))] [] w L) w0 hI0 ?_ (fun hI => ?_) (fun i w hi hI hn => ?_)
  · exact fun _ _ _ h => h
  · show G _ _ _ _ _ _ _ _ _ _ _
    try dsimp only at hI
    refine g_iload3 (pc := 55) dX7_walk_55 ?_
    refine g_iload2 (pc := 56) dX7_walk_56 ?_
    refine g_icmp_ge (pc := 57) 71 dX7_walk_57 (by decide) (fun zh57 => ?_) (fun zh57 => ?_)
    · skip
      refine g_vret (pc := 71) dX7_walk_71 rfl ?_
      exact hq
    · skip
      exact absurd (Int32.le_refl _) zh57
  · show G _ _ _ _ _ _ _ _ _ _ _
    try dsimp only at hI
    try dsimp only at hn
    refine g_iload3 (pc := 55) dX7_walk_55 ?_
    refine g_iload2 (pc := 56) dX7_walk_56 ?_
    refine g_icmp_ge (pc := 57) 71 dX7_walk_57 (by decide) (fun zh57 => ?_) (fun zh57 => ?_)
    · skip
      exact absurd zh57 (nI_ge hi (by omega))
    · skip
      first | refine g_aload0 (pc := 60) dX7_walk_60 ?_ | refine g_aloadN0 (pc := 60) dX7_walk_60 ?_
      first | refine g_aload1 (pc := 61) dX7_walk_61 ?_ | refine g_aloadN1 (pc := 61) dX7_walk_61 ?_
      refine g_vV1 (pc := 62) (c_X7_walkOne hk2) cf7 (by first | rfl | assumption) dX7_walk_62 cw_RX7_62 (by decide) (Nat.le_of_ble_eq_true rfl) ?_
      refine g_iinc3 (pc := 65) (nI (i + 1)) dX7_walk_65 (nI_succ' i) (by decide) (by first | rfl | assumption) ?_
      refine g_goto (pc := 68) 55 dX7_walk_68 (by decide) ?_
      exact hn
theorem c_X7_walk {k n : Nat} {v : Mm} {L : Lm} (hk2 : kd k = 2) (hn4 : n ≤ 4) : Fn yX7_walk cX7_walk 4 none 3 [.ref 72, .ref k, .int (nI n)] v L none (itr (fun _ w => wkO w k) n (wkM0 v (v k 0))) L := by
  refine Fq.of (plainFor_of_name (by decide)) [some (.ref 72), some (.ref k), some (.int (nI n)), none] rfl (Nat.le_of_ble_eq_true rfl) ?_
  refine g_iconst (pc := 0) (0) dX7_walk_0 (by decide) ?_
  refine g_istore3 (pc := 1) dX7_walk_1 (by decide) (by first | rfl | assumption) ?_
  refine lp_X7_walk_0 hk2 rfl ?_
  refine g_iconst (pc := 53) 0 dX7_walk_53 (by decide) ?_
  refine g_istore3 (pc := 54) dX7_walk_54 (by decide) rfl ?_
  exact lp_X7_walk_1 hk2 hn4 trivial ⟨rfl, rfl, rfl⟩
