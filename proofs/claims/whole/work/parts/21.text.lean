/-! the text and the word -/
theorem c_X6_add_t {x : Int32} {v : Mm} {L : Lm} (h : vp_in (v 1 1) 48) : Fn yX6_add cX6_add 2 (some .boolean) 0 [.ref 1, .int x] v L (some (.int 1)) (upd2 (upd2 v 2 (v 1 1).toNatClampNeg x) 1 1 (v 1 1 + 1)) L := by
  refine Fq.of (plainFor_of_name (by decide)) [some (.ref 1), some (.int x)] rfl (Nat.le_of_ble_eq_true rfl) ?_
  first | refine g_aload0 (pc := 0) dX6_add_0 ?_ | refine g_aloadN0 (pc := 0) dX6_add_0 ?_
  refine g_getI (pc := 1) (j := 1) cf6 dX6_add_1 fl_RX6_15 (by decide) (by decide) (by first | rfl | assumption) ?_
  refine g_if_lt (pc := 4) 16 dX6_add_4 (by decide) (fun zh4 => ?_) (fun zh4 => ?_)
  · skip
    exact absurd zh4 (fun q => h (Or.inl q))
  · skip
    first | refine g_aload0 (pc := 7) dX6_add_7 ?_ | refine g_aloadN0 (pc := 7) dX6_add_7 ?_
    refine g_getI (pc := 8) (j := 1) cf6 dX6_add_8 fl_RX6_15 (by decide) (by decide) (by first | rfl | assumption) ?_
    refine g_bipush (pc := 11) (48) dX6_add_11 (by decide) ?_
    refine g_icmp_lt (pc := 13) 18 dX6_add_13 (by decide) (fun zh13 => ?_) (fun zh13 => ?_)
    · skip
      first | refine g_aload0 (pc := 18) dX6_add_18 ?_ | refine g_aloadN0 (pc := 18) dX6_add_18 ?_
      refine g_getR (pc := 19) (j := 0) cf6 dX6_add_19 fl_RX6_9 (by decide) (by decide) (by first | rfl | assumption) (2) (rfl) ?_
      first | refine g_aload0 (pc := 22) dX6_add_22 ?_ | refine g_aloadN0 (pc := 22) dX6_add_22 ?_
      refine g_getI (pc := 23) (j := 1) cf6 dX6_add_23 fl_RX6_15 (by decide) (by decide) (by first | rfl | assumption) ?_
      refine g_iload1 (pc := 26) dX6_add_26 ?_
      refine g_iast (pc := 27) dX6_add_27 (by first | rfl | assumption) (h) ?_
      first | refine g_aload0 (pc := 28) dX6_add_28 ?_ | refine g_aloadN0 (pc := 28) dX6_add_28 ?_
      refine g_dup (pc := 29) dX6_add_29 rfl ?_
      refine g_getI (pc := 30) (j := 1) cf6 dX6_add_30 fl_RX6_15 (by decide) (by decide) (by first | rfl | assumption) ?_
      refine g_iconst (pc := 33) (1) dX6_add_33 (by decide) ?_
      refine g_iadd (pc := 34) dX6_add_34 ?_
      refine g_putI (pc := 35) (j := 1) cf6 dX6_add_35 fl_RX6_15 (by decide) rfl rfl (by decide) (by first | rfl | assumption) ?_
      refine g_iconst (pc := 38) (1) dX6_add_38 (by decide) ?_
      refine g_zret (pc := 39) dX6_add_39 rfl (by first | exact Or.inl rfl | exact Or.inr rfl | assumption) ?_
      exact ⟨rfl, rfl, rfl⟩
    · skip
      exact absurd (vin_hi (by decide) h) zh13
theorem c_X6_add_f {x : Int32} {v : Mm} {L : Lm} (h : v 1 1 = 48) : Fn yX6_add cX6_add 2 (some .boolean) 0 [.ref 1, .int x] v L (some (.int 0)) v L := by
  refine Fq.of (plainFor_of_name (by decide)) [some (.ref 1), some (.int x)] rfl (Nat.le_of_ble_eq_true rfl) ?_
  first | refine g_aload0 (pc := 0) dX6_add_0 ?_ | refine g_aloadN0 (pc := 0) dX6_add_0 ?_
  refine g_getI (pc := 1) (j := 1) cf6 dX6_add_1 fl_RX6_15 (by decide) (by decide) (by first | rfl | assumption) ?_
  refine g_if_lt (pc := 4) 16 dX6_add_4 (by decide) (fun zh4 => ?_) (fun zh4 => ?_)
  · skip
    refine g_iconst (pc := 16) (0) dX6_add_16 (by decide) ?_
    refine g_zret (pc := 17) dX6_add_17 rfl (by first | exact Or.inl rfl | exact Or.inr rfl | assumption) ?_
    exact ⟨rfl, rfl, rfl⟩
  · skip
    first | refine g_aload0 (pc := 7) dX6_add_7 ?_ | refine g_aloadN0 (pc := 7) dX6_add_7 ?_
    refine g_getI (pc := 8) (j := 1) cf6 dX6_add_8 fl_RX6_15 (by decide) (by decide) (by first | rfl | assumption) ?_
    refine g_bipush (pc := 11) (48) dX6_add_11 (by decide) ?_
    refine g_icmp_lt (pc := 13) 18 dX6_add_13 (by decide) (fun zh13 => ?_) (fun zh13 => ?_)
    · skip
      exact absurd zh13 (by rw [h]; decide)
    · skip
      refine g_iconst (pc := 16) (0) dX6_add_16 (by decide) ?_
      refine g_zret (pc := 17) dX6_add_17 rfl (by first | exact Or.inl rfl | exact Or.inr rfl | assumption) ?_
      exact ⟨rfl, rfl, rfl⟩
theorem c_X6_letterAt {x : Int32} {v : Mm} {L : Lm}  : Fn yX6_letterAt cX6_letterAt 2 (some .int) 0 [.ref 1, .int x] v L (some (.int (letF v x))) v L := by
  refine Fq.of (plainFor_of_name (by decide)) [some (.ref 1), some (.int x)] rfl (Nat.le_of_ble_eq_true rfl) ?_
  refine g_iload1 (pc := 0) dX6_letterAt_0 ?_
  refine g_if_lt (pc := 1) 27 dX6_letterAt_1 (by decide) (fun zh1 => ?_) (fun zh1 => ?_)
  · skip
    refine g_bipush (pc := 27) (-9) dX6_letterAt_27 (by decide) ?_
    refine g_iret (pc := 29) dX6_letterAt_29 rfl ?_
    first | exact ⟨congrArg (fun t => some (Value.int t)) (if_pos ⟨i32nlt.mp zh1, i32nle.mp zh9, i32nle.mp zh15⟩).symm, rfl, rfl⟩ | exact ⟨congrArg (fun t => some (Value.int t)) (if_neg (fun q => i32nlt.mpr q.1 zh1)).symm, rfl, rfl⟩ | exact ⟨congrArg (fun t => some (Value.int t)) (if_neg (fun q => i32nle.mpr q.2.1 zh9)).symm, rfl, rfl⟩ | exact ⟨congrArg (fun t => some (Value.int t)) (if_neg (fun q => i32nle.mpr q.2.2 zh15)).symm, rfl, rfl⟩
  · skip
    refine g_iload1 (pc := 4) dX6_letterAt_4 ?_
    first | refine g_aload0 (pc := 5) dX6_letterAt_5 ?_ | refine g_aloadN0 (pc := 5) dX6_letterAt_5 ?_
    refine g_getI (pc := 6) (j := 1) cf6 dX6_letterAt_6 fl_RX6_15 (by decide) (by decide) (by first | rfl | assumption) ?_
    refine g_icmp_ge (pc := 9) 27 dX6_letterAt_9 (by decide) (fun zh9 => ?_) (fun zh9 => ?_)
    · skip
      refine g_bipush (pc := 27) (-9) dX6_letterAt_27 (by decide) ?_
      refine g_iret (pc := 29) dX6_letterAt_29 rfl ?_
      first | exact ⟨congrArg (fun t => some (Value.int t)) (if_pos ⟨i32nlt.mp zh1, i32nle.mp zh9, i32nle.mp zh15⟩).symm, rfl, rfl⟩ | exact ⟨congrArg (fun t => some (Value.int t)) (if_neg (fun q => i32nlt.mpr q.1 zh1)).symm, rfl, rfl⟩ | exact ⟨congrArg (fun t => some (Value.int t)) (if_neg (fun q => i32nle.mpr q.2.1 zh9)).symm, rfl, rfl⟩ | exact ⟨congrArg (fun t => some (Value.int t)) (if_neg (fun q => i32nle.mpr q.2.2 zh15)).symm, rfl, rfl⟩
    · skip
      refine g_iload1 (pc := 12) dX6_letterAt_12 ?_
      refine g_bipush (pc := 13) (48) dX6_letterAt_13 (by decide) ?_
      refine g_icmp_ge (pc := 15) 27 dX6_letterAt_15 (by decide) (fun zh15 => ?_) (fun zh15 => ?_)
      · skip
        refine g_bipush (pc := 27) (-9) dX6_letterAt_27 (by decide) ?_
        refine g_iret (pc := 29) dX6_letterAt_29 rfl ?_
        first | exact ⟨congrArg (fun t => some (Value.int t)) (if_pos ⟨i32nlt.mp zh1, i32nle.mp zh9, i32nle.mp zh15⟩).symm, rfl, rfl⟩ | exact ⟨congrArg (fun t => some (Value.int t)) (if_neg (fun q => i32nlt.mpr q.1 zh1)).symm, rfl, rfl⟩ | exact ⟨congrArg (fun t => some (Value.int t)) (if_neg (fun q => i32nle.mpr q.2.1 zh9)).symm, rfl, rfl⟩ | exact ⟨congrArg (fun t => some (Value.int t)) (if_neg (fun q => i32nle.mpr q.2.2 zh15)).symm, rfl, rfl⟩
      · skip
        first | refine g_aload0 (pc := 18) dX6_letterAt_18 ?_ | refine g_aloadN0 (pc := 18) dX6_letterAt_18 ?_
        refine g_getR (pc := 19) (j := 0) cf6 dX6_letterAt_19 fl_RX6_9 (by decide) (by decide) (by first | rfl | assumption) (2) (rfl) ?_
        refine g_iload1 (pc := 22) dX6_letterAt_22 ?_
        refine g_iald (pc := 23) dX6_letterAt_23 (by first | rfl | assumption) (vin_lt (n := 48) (by decide) ⟨i32nlt.mp zh1, i32nle.mp zh15⟩) ?_
        refine g_goto (pc := 24) 29 dX6_letterAt_24 (by decide) ?_
        refine g_iret (pc := 29) dX6_letterAt_29 rfl ?_
        first | exact ⟨congrArg (fun t => some (Value.int t)) (if_pos ⟨i32nlt.mp zh1, i32nle.mp zh9, i32nle.mp zh15⟩).symm, rfl, rfl⟩ | exact ⟨congrArg (fun t => some (Value.int t)) (if_neg (fun q => i32nlt.mpr q.1 zh1)).symm, rfl, rfl⟩ | exact ⟨congrArg (fun t => some (Value.int t)) (if_neg (fun q => i32nle.mpr q.2.1 zh9)).symm, rfl, rfl⟩ | exact ⟨congrArg (fun t => some (Value.int t)) (if_neg (fun q => i32nle.mpr q.2.2 zh15)).symm, rfl, rfl⟩
theorem c_X6_figureAt {x : Int32} {v : Mm} {L : Lm}  : Fn yX6_figureAt cX6_figureAt 2 (some .int) 1 [.ref 1, .int x] v L (some (.int (fgF v x))) v L := by
  refine Fq.of (plainFor_of_name (by decide)) [some (.ref 1), some (.int x)] rfl (Nat.le_of_ble_eq_true rfl) ?_
  first | refine g_aload0 (pc := 0) dX6_figureAt_0 ?_ | refine g_aloadN0 (pc := 0) dX6_figureAt_0 ?_
  refine g_iload1 (pc := 1) dX6_figureAt_1 ?_
  refine g_fV1 (pc := 2) (c_X6_letterAt) cf6 (by first | rfl | assumption) dX6_figureAt_2 cw_RX6_19 (by decide) (Nat.le_of_ble_eq_true rfl) ?_
  refine g_bipush (pc := 5) (48) dX6_figureAt_5 (by decide) ?_
  refine g_isub (pc := 7) dX6_figureAt_7 ?_
  refine g_iret (pc := 8) dX6_figureAt_8 rfl ?_
  exact ⟨rfl, rfl, rfl⟩
theorem c_X6_isNoNib {x y : Int32} {v : Mm} {L : Lm}  : Fn yX6_isNoNib cX6_isNoNib 3 (some .boolean) 2 [.ref 1, .int x, .int y] v L (some (.int (b01 (letF v x = 80 ∧ y = 4 ∧ fgF v (x + 1 + 3) = 3 ∧ fgF v (x + 1 + 4) = 3)))) v L := by
  refine Fq.of (plainFor_of_name (by decide)) [some (.ref 1), some (.int x), some (.int y)] rfl (Nat.le_of_ble_eq_true rfl) ?_
  first | refine g_aload0 (pc := 0) dX6_isNoNib_0 ?_ | refine g_aloadN0 (pc := 0) dX6_isNoNib_0 ?_
  refine g_iload1 (pc := 1) dX6_isNoNib_1 ?_
  refine g_fV1 (pc := 2) (c_X6_letterAt) cf6 (by first | rfl | assumption) dX6_isNoNib_2 cw_RX6_19 (by decide) (Nat.le_of_ble_eq_true rfl) ?_
  refine g_bipush (pc := 5) (80) dX6_isNoNib_5 (by decide) ?_
  refine g_icmp_ne (pc := 7) 45 dX6_isNoNib_7 (by decide) (fun zh7 => ?_) (fun zh7 => ?_)
  · skip
    refine g_iconst (pc := 45) (0) dX6_isNoNib_45 (by decide) ?_
    refine g_zret (pc := 46) dX6_isNoNib_46 rfl (by first | exact Or.inl rfl | exact Or.inr rfl | assumption) ?_
    first | exact ⟨by rw [b01_f (fun q => zh7 q.1)], rfl, rfl⟩ | exact ⟨by rw [b01_f (fun q => zh12 q.2.1)], rfl, rfl⟩ | exact ⟨by rw [b01_f (fun q => zh25 q.2.2.1)], rfl, rfl⟩ | exact ⟨by rw [b01_f (fun q => zh38 q.2.2.2)], rfl, rfl⟩ | exact ⟨by rw [b01_t ⟨zh7, zh12, zh25, zh38⟩], rfl, rfl⟩
  · skip
    refine g_iload2 (pc := 10) dX6_isNoNib_10 ?_
    refine g_iconst (pc := 11) (4) dX6_isNoNib_11 (by decide) ?_
    refine g_icmp_ne (pc := 12) 45 dX6_isNoNib_12 (by decide) (fun zh12 => ?_) (fun zh12 => ?_)
    · skip
      refine g_iconst (pc := 45) (0) dX6_isNoNib_45 (by decide) ?_
      refine g_zret (pc := 46) dX6_isNoNib_46 rfl (by first | exact Or.inl rfl | exact Or.inr rfl | assumption) ?_
      first | exact ⟨by rw [b01_f (fun q => zh7 q.1)], rfl, rfl⟩ | exact ⟨by rw [b01_f (fun q => zh12 q.2.1)], rfl, rfl⟩ | exact ⟨by rw [b01_f (fun q => zh25 q.2.2.1)], rfl, rfl⟩ | exact ⟨by rw [b01_f (fun q => zh38 q.2.2.2)], rfl, rfl⟩ | exact ⟨by rw [b01_t ⟨zh7, zh12, zh25, zh38⟩], rfl, rfl⟩
    · skip
      first | refine g_aload0 (pc := 15) dX6_isNoNib_15 ?_ | refine g_aloadN0 (pc := 15) dX6_isNoNib_15 ?_
      refine g_iload1 (pc := 16) dX6_isNoNib_16 ?_
      refine g_iconst (pc := 17) (1) dX6_isNoNib_17 (by decide) ?_
      refine g_iadd (pc := 18) dX6_isNoNib_18 ?_
      refine g_iconst (pc := 19) (3) dX6_isNoNib_19 (by decide) ?_
      refine g_iadd (pc := 20) dX6_isNoNib_20 ?_
      refine g_fV1 (pc := 21) (c_X6_figureAt) cf6 (by first | rfl | assumption) dX6_isNoNib_21 cw_RX6_33 (by decide) (Nat.le_of_ble_eq_true rfl) ?_
      refine g_iconst (pc := 24) (3) dX6_isNoNib_24 (by decide) ?_
      refine g_icmp_ne (pc := 25) 45 dX6_isNoNib_25 (by decide) (fun zh25 => ?_) (fun zh25 => ?_)
      · skip
        refine g_iconst (pc := 45) (0) dX6_isNoNib_45 (by decide) ?_
        refine g_zret (pc := 46) dX6_isNoNib_46 rfl (by first | exact Or.inl rfl | exact Or.inr rfl | assumption) ?_
        first | exact ⟨by rw [b01_f (fun q => zh7 q.1)], rfl, rfl⟩ | exact ⟨by rw [b01_f (fun q => zh12 q.2.1)], rfl, rfl⟩ | exact ⟨by rw [b01_f (fun q => zh25 q.2.2.1)], rfl, rfl⟩ | exact ⟨by rw [b01_f (fun q => zh38 q.2.2.2)], rfl, rfl⟩ | exact ⟨by rw [b01_t ⟨zh7, zh12, zh25, zh38⟩], rfl, rfl⟩
      · skip
        first | refine g_aload0 (pc := 28) dX6_isNoNib_28 ?_ | refine g_aloadN0 (pc := 28) dX6_isNoNib_28 ?_
        refine g_iload1 (pc := 29) dX6_isNoNib_29 ?_
        refine g_iconst (pc := 30) (1) dX6_isNoNib_30 (by decide) ?_
        refine g_iadd (pc := 31) dX6_isNoNib_31 ?_
        refine g_iconst (pc := 32) (4) dX6_isNoNib_32 (by decide) ?_
        refine g_iadd (pc := 33) dX6_isNoNib_33 ?_
        refine g_fV1 (pc := 34) (c_X6_figureAt) cf6 (by first | rfl | assumption) dX6_isNoNib_34 cw_RX6_33 (by decide) (Nat.le_of_ble_eq_true rfl) ?_
        refine g_iconst (pc := 37) (3) dX6_isNoNib_37 (by decide) ?_
        refine g_icmp_ne (pc := 38) 45 dX6_isNoNib_38 (by decide) (fun zh38 => ?_) (fun zh38 => ?_)
        · skip
          refine g_iconst (pc := 45) (0) dX6_isNoNib_45 (by decide) ?_
          refine g_zret (pc := 46) dX6_isNoNib_46 rfl (by first | exact Or.inl rfl | exact Or.inr rfl | assumption) ?_
          first | exact ⟨by rw [b01_f (fun q => zh7 q.1)], rfl, rfl⟩ | exact ⟨by rw [b01_f (fun q => zh12 q.2.1)], rfl, rfl⟩ | exact ⟨by rw [b01_f (fun q => zh25 q.2.2.1)], rfl, rfl⟩ | exact ⟨by rw [b01_f (fun q => zh38 q.2.2.2)], rfl, rfl⟩ | exact ⟨by rw [b01_t ⟨zh7, zh12, zh25, zh38⟩], rfl, rfl⟩
        · skip
          refine g_iconst (pc := 41) (1) dX6_isNoNib_41 (by decide) ?_
          refine g_goto (pc := 42) 46 dX6_isNoNib_42 (by decide) ?_
          refine g_zret (pc := 46) dX6_isNoNib_46 rfl (by first | exact Or.inl rfl | exact Or.inr rfl | assumption) ?_
          first | exact ⟨by rw [b01_f (fun q => zh7 q.1)], rfl, rfl⟩ | exact ⟨by rw [b01_f (fun q => zh12 q.2.1)], rfl, rfl⟩ | exact ⟨by rw [b01_f (fun q => zh25 q.2.2.1)], rfl, rfl⟩ | exact ⟨by rw [b01_f (fun q => zh38 q.2.2.2)], rfl, rfl⟩ | exact ⟨by rw [b01_t ⟨zh7, zh12, zh25, zh38⟩], rfl, rfl⟩
theorem lp_X6_findFaultIn {x : Int32} {j : Nat} {v : Mm} {L : Lm} (hj : j < 5) (hs : sL j < 20) : ∀ (m : Nat) (i : Nat) (o4 : Option Value), i + m = sL j → G RX6 cX6_findFaultIn 5 (some .int) 3 (fun a b c => a = some (.int (ffiF v x j m i)) ∧ b = v ∧ c = L) 2 [some (.ref 1), some (.int x), some (.ref (100 + j)), some (.int (nI i)), o4] [] v L := by
  intro m
  induction m with
  | zero =>
    intro i o4 hi
    refine g_iload3 (pc := 2) dX6_findFaultIn_2 ?_
    first | refine g_aload2 (pc := 3) dX6_findFaultIn_3 ?_ | refine g_aloadN2 (pc := 3) dX6_findFaultIn_3 ?_
    refine g_slen (pc := 4) (j := j) dX6_findFaultIn_4 (by first | decide | omega) ?_
    refine g_icmp_ge (pc := 5) 62 dX6_findFaultIn_5 (by decide) (fun zh5 => ?_) (fun zh5 => ?_)
    · skip
      refine g_bipush (pc := 62) (-9) dX6_findFaultIn_62 (by decide) ?_
      refine g_iret (pc := 64) dX6_findFaultIn_64 rfl ?_
      exact ⟨rfl, rfl, rfl⟩
    · skip
      exact absurd (nI_le (by omega) (by omega)) zh5
  | succ m ih =>
    intro i o4 hi
    refine g_iload3 (pc := 2) dX6_findFaultIn_2 ?_
    first | refine g_aload2 (pc := 3) dX6_findFaultIn_3 ?_ | refine g_aloadN2 (pc := 3) dX6_findFaultIn_3 ?_
    refine g_slen (pc := 4) (j := j) dX6_findFaultIn_4 (by first | decide | omega) ?_
    refine g_icmp_ge (pc := 5) 62 dX6_findFaultIn_5 (by decide) (fun zh5 => ?_) (fun zh5 => ?_)
    · skip
      exact absurd zh5 (nI_ge (by omega) (by omega))
    · skip
      refine g_iload1 (pc := 8) dX6_findFaultIn_8 ?_
      refine g_iconst (pc := 9) (1) dX6_findFaultIn_9 (by decide) ?_
      refine g_iadd (pc := 10) dX6_findFaultIn_10 ?_
      refine g_iload3 (pc := 11) dX6_findFaultIn_11 ?_
      refine g_iadd (pc := 12) dX6_findFaultIn_12 ?_
      refine g_istore4 (pc := 13) dX6_findFaultIn_13 (by decide) (by first | rfl | assumption) ?_
      refine g_iload4 (pc := 15) dX6_findFaultIn_15 ?_
      first | refine g_aload0 (pc := 17) dX6_findFaultIn_17 ?_ | refine g_aloadN0 (pc := 17) dX6_findFaultIn_17 ?_
      refine g_getI (pc := 18) (j := 1) cf6 dX6_findFaultIn_18 fl_RX6_15 (by decide) (by decide) (by first | rfl | assumption) ?_
      refine g_icmp_lt (pc := 21) 29 dX6_findFaultIn_21 (by decide) (fun zh21 => ?_) (fun zh21 => ?_)
      · skip
        first | refine g_aload0 (pc := 29) dX6_findFaultIn_29 ?_ | refine g_aloadN0 (pc := 29) dX6_findFaultIn_29 ?_
        refine g_iload4 (pc := 30) dX6_findFaultIn_30 ?_
        refine g_fV1 (pc := 32) (c_X6_figureAt) cf6 (by first | rfl | assumption) dX6_findFaultIn_32 cw_RX6_33 (by decide) (Nat.le_of_ble_eq_true rfl) ?_
        first | refine g_aload2 (pc := 35) dX6_findFaultIn_35 ?_ | refine g_aloadN2 (pc := 35) dX6_findFaultIn_35 ?_
        refine g_iload3 (pc := 36) dX6_findFaultIn_36 ?_
        refine g_sld (pc := 37) (j := j) dX6_findFaultIn_37 (by first | decide | omega) (vp_in_nI (by omega) (by omega)) ?_
        refine g_fN2 (pc := 38) (c_X9_isWithin) dX6_findFaultIn_38 cw_RX6_36 (by decide) (Nat.le_of_ble_eq_true rfl) ?_
        refine g_if_eq (pc := 41) 53 dX6_findFaultIn_41 (by decide) (fun zh41 => ?_) (fun zh41 => ?_)
        · skip
          refine g_iload4 (pc := 53) dX6_findFaultIn_53 ?_
          refine g_iret (pc := 55) dX6_findFaultIn_55 rfl ?_
          refine ⟨congrArg (fun t => some (Value.int t)) ?_, rfl, rfl⟩
          refine ((if_neg (fun q => q zh21)).trans (if_neg (fun q => ?_))).symm
          first | (exact zh50 (b01_eq0.mpr q.2)) | (exact b01_eq0.mp zh41 (by rw [nI_clamp (by omega)]; exact q.1))
        · skip
          first | refine g_aload0 (pc := 44) dX6_findFaultIn_44 ?_ | refine g_aloadN0 (pc := 44) dX6_findFaultIn_44 ?_
          refine g_iload1 (pc := 45) dX6_findFaultIn_45 ?_
          refine g_iload3 (pc := 46) dX6_findFaultIn_46 ?_
          refine g_fV2 (pc := 47) (c_X6_isNoNib) cf6 (by first | rfl | assumption) dX6_findFaultIn_47 cw_RX6_40 (by decide) (Nat.le_of_ble_eq_true rfl) ?_
          refine g_if_eq (pc := 50) 56 dX6_findFaultIn_50 (by decide) (fun zh50 => ?_) (fun zh50 => ?_)
          · skip
            refine g_iinc3 (pc := 56) (nI (i + 1)) dX6_findFaultIn_56 (nI_succ' i) (by decide) (by first | rfl | assumption) ?_
            refine g_goto (pc := 59) 2 dX6_findFaultIn_59 (by decide) ?_
            refine G.mono (ih (i + 1) _ (by omega)) (fun a b c h => ⟨?_, h.2.1, h.2.2⟩)
            rw [h.1]
            refine congrArg (fun t => some (Value.int t)) ?_
            have q1 := b01_ne0.mp zh41
            rw [nI_clamp (by omega)] at q1
            exact ((if_neg (fun q => q zh21)).trans (if_pos ⟨q1, b01_eq0.mp zh50⟩)).symm
          · skip
            refine g_iload4 (pc := 53) dX6_findFaultIn_53 ?_
            refine g_iret (pc := 55) dX6_findFaultIn_55 rfl ?_
            refine ⟨congrArg (fun t => some (Value.int t)) ?_, rfl, rfl⟩
            refine ((if_neg (fun q => q zh21)).trans (if_neg (fun q => ?_))).symm
            first | (exact zh50 (b01_eq0.mpr q.2)) | (exact b01_eq0.mp zh41 (by rw [nI_clamp (by omega)]; exact q.1))
      · skip
        first | refine g_aload0 (pc := 24) dX6_findFaultIn_24 ?_ | refine g_aloadN0 (pc := 24) dX6_findFaultIn_24 ?_
        refine g_getI (pc := 25) (j := 1) cf6 dX6_findFaultIn_25 fl_RX6_15 (by decide) (by decide) (by first | rfl | assumption) ?_
        refine g_iret (pc := 28) dX6_findFaultIn_28 rfl ?_
        exact ⟨congrArg (fun t => some (Value.int t)) (if_pos zh21).symm, rfl, rfl⟩
theorem c_X6_findFaultIn {x : Int32} {j : Nat} {v : Mm} {L : Lm} (hj : j < 5) (hs : sL j < 20) : Fn yX6_findFaultIn cX6_findFaultIn 5 (some .int) 3 [.ref 1, .int x, .ref (100 + j)] v L (some (.int (ffiF v x j (sL j) 0))) v L := by
  refine Fq.of (plainFor_of_name (by decide)) [some (.ref 1), some (.int x), some (.ref (100 + j)), none, none] rfl (Nat.le_of_ble_eq_true rfl) ?_
  refine g_iconst (pc := 0) (0) dX6_findFaultIn_0 (by decide) ?_
  refine g_istore3 (pc := 1) dX6_findFaultIn_1 (by decide) (by first | rfl | assumption) ?_
  exact lp_X6_findFaultIn hj hs (sL j) 0 none (Nat.zero_add _)
theorem c_X8_at {x : Int32} {v : Mm} {L : Lm}  : Fn yX8_at cX8_at 2 (some .int) 1 [.ref 3, .int x] v L (some (.int (wdF v x))) v L := by
  refine Fq.of (plainFor_of_name (by decide)) [some (.ref 3), some (.int x)] rfl (Nat.le_of_ble_eq_true rfl) ?_
  refine g_iload1 (pc := 0) dX8_at_0 ?_
  refine g_bipush (pc := 1) (7) dX8_at_1 (by decide) ?_
  refine g_fN2 (pc := 3) (c_X9_isWithin) dX8_at_3 cw_RX8_33 (by decide) (Nat.le_of_ble_eq_true rfl) ?_
  refine g_if_eq (pc := 6) 18 dX8_at_6 (by decide) (fun zh6 => ?_) (fun zh6 => ?_)
  · skip
    refine g_bipush (pc := 18) (-9) dX8_at_18 (by decide) ?_
    refine g_iret (pc := 20) dX8_at_20 rfl ?_
    first | exact ⟨congrArg (fun t => some (Value.int t)) (if_pos (b01_ne0.mp zh6)).symm, rfl, rfl⟩ | exact ⟨congrArg (fun t => some (Value.int t)) (if_neg (b01_eq0.mp zh6)).symm, rfl, rfl⟩
  · skip
    first | refine g_aload0 (pc := 9) dX8_at_9 ?_ | refine g_aloadN0 (pc := 9) dX8_at_9 ?_
    refine g_getR (pc := 10) (j := 0) cf8 dX8_at_10 fl_RX8_9 (by decide) (by decide) (by first | rfl | assumption) (4) (rfl) ?_
    refine g_iload1 (pc := 13) dX8_at_13 ?_
    refine g_iald (pc := 14) dX8_at_14 (by first | rfl | assumption) (vin_le (n := 8) (by decide) (b01_ne0.mp zh6) (by decide)) ?_
    refine g_goto (pc := 15) 20 dX8_at_15 (by decide) ?_
    refine g_iret (pc := 20) dX8_at_20 rfl ?_
    first | exact ⟨congrArg (fun t => some (Value.int t)) (if_pos (b01_ne0.mp zh6)).symm, rfl, rfl⟩ | exact ⟨congrArg (fun t => some (Value.int t)) (if_neg (b01_eq0.mp zh6)).symm, rfl, rfl⟩
/-! the sheet -/
theorem c_X4_find_s {S i : Nat} {v : Mm} {L : Lm} (hS : Sh S) (hi : i < 4) (hc : nI i < v S 2) : Fn yX4_find cX4_find 2 (some (.object "BroadNib$Pen")) 0 [.ref S, .int (nI i)] v L (some (.ref (S + 3 + i))) v L := by
  have hk4 := sh_kd hS
  have hk1 := sh_k1 hS
  have hk2 := sh_k2 hS
  refine Fq.of (plainFor_of_name (by decide)) [some (.ref S), some (.int (nI i))] rfl (Nat.le_of_ble_eq_true rfl) ?_
  refine g_iload1 (pc := 0) dX4_find_0 ?_
  refine g_if_lt (pc := 1) 26 dX4_find_1 (by decide) (fun zh1 => ?_) (fun zh1 => ?_)
  · skip
    exact absurd zh1 (nI_pos (by omega))
  · skip
    refine g_iload1 (pc := 4) dX4_find_4 ?_
    first | refine g_aload0 (pc := 5) dX4_find_5 ?_ | refine g_aloadN0 (pc := 5) dX4_find_5 ?_
    refine g_getI (pc := 6) (j := 2) cf4 dX4_find_6 fl_RX4_22 (by decide) (by decide) (by first | rfl | assumption) ?_
    refine g_icmp_ge (pc := 9) 26 dX4_find_9 (by decide) (fun zh9 => ?_) (fun zh9 => ?_)
    · skip
      exact absurd hc (i32nlt.mpr zh9)
    · skip
      refine g_iload1 (pc := 12) dX4_find_12 ?_
      refine g_iconst (pc := 13) (4) dX4_find_13 (by decide) ?_
      refine g_icmp_ge (pc := 14) 26 dX4_find_14 (by decide) (fun zh14 => ?_) (fun zh14 => ?_)
      · skip
        exact absurd zh14 (nI_ge (b := 4) hi (by decide))
      · skip
        first | refine g_aload0 (pc := 17) dX4_find_17 ?_ | refine g_aloadN0 (pc := 17) dX4_find_17 ?_
        refine g_getR (pc := 18) (j := 0) cf4 dX4_find_18 fl_RX4_11 (by decide) (by decide) (by first | rfl | assumption) (S + 1) (sh_t0 hS) ?_
        refine g_iload1 (pc := 21) dX4_find_21 ?_
        refine g_aald (pc := 22) (n := 14) dX4_find_22 (by first | rfl | assumption) (by decide) (by decide) (by rw [sh_l1 hS]; exact vp_in_nI hi (by decide)) (S + 3 + i) (by rw [nI_clamp (by omega)]; exact sh_tp hS hi) ?_
        refine g_goto (pc := 23) 27 dX4_find_23 (by decide) ?_
        first | refine g_aret (pc := 27) dX4_find_27 rfl ?_ | refine g_aretN (pc := 27) dX4_find_27 rfl ?_
        exact ⟨rfl, rfl, rfl⟩
theorem c_X4_find_n {S : Nat} {x : Int32} {v : Mm} {L : Lm} (hS : Sh S) (hc : ¬ (0 ≤ x ∧ x < v S 2 ∧ x < 4)) : Fn yX4_find cX4_find 2 (some (.object "BroadNib$Pen")) 0 [.ref S, .int x] v L (some .null) v L := by
  have hk4 := sh_kd hS
  have hk1 := sh_k1 hS
  have hk2 := sh_k2 hS
  refine Fq.of (plainFor_of_name (by decide)) [some (.ref S), some (.int x)] rfl (Nat.le_of_ble_eq_true rfl) ?_
  refine g_iload1 (pc := 0) dX4_find_0 ?_
  refine g_if_lt (pc := 1) 26 dX4_find_1 (by decide) (fun zh1 => ?_) (fun zh1 => ?_)
  · skip
    refine g_null (pc := 26) dX4_find_26 ?_
    first | refine g_aret (pc := 27) dX4_find_27 rfl ?_ | refine g_aretN (pc := 27) dX4_find_27 rfl ?_
    exact ⟨rfl, rfl, rfl⟩
  · skip
    refine g_iload1 (pc := 4) dX4_find_4 ?_
    first | refine g_aload0 (pc := 5) dX4_find_5 ?_ | refine g_aloadN0 (pc := 5) dX4_find_5 ?_
    refine g_getI (pc := 6) (j := 2) cf4 dX4_find_6 fl_RX4_22 (by decide) (by decide) (by first | rfl | assumption) ?_
    refine g_icmp_ge (pc := 9) 26 dX4_find_9 (by decide) (fun zh9 => ?_) (fun zh9 => ?_)
    · skip
      refine g_null (pc := 26) dX4_find_26 ?_
      first | refine g_aret (pc := 27) dX4_find_27 rfl ?_ | refine g_aretN (pc := 27) dX4_find_27 rfl ?_
      exact ⟨rfl, rfl, rfl⟩
    · skip
      refine g_iload1 (pc := 12) dX4_find_12 ?_
      refine g_iconst (pc := 13) (4) dX4_find_13 (by decide) ?_
      refine g_icmp_ge (pc := 14) 26 dX4_find_14 (by decide) (fun zh14 => ?_) (fun zh14 => ?_)
      · skip
        refine g_null (pc := 26) dX4_find_26 ?_
        first | refine g_aret (pc := 27) dX4_find_27 rfl ?_ | refine g_aretN (pc := 27) dX4_find_27 rfl ?_
        exact ⟨rfl, rfl, rfl⟩
      · skip
        exact absurd ⟨i32nlt.mp zh1, i32nle.mp zh9, i32nle.mp zh14⟩ hc
theorem c_X4_inkOn {S : Nat} {x : Int32} {v : Mm} {L : Lm} (hS : Sh S) : Fn yX4_inkOn cX4_inkOn 2 (some .int) 1 [.ref S, .int x] v L (some (.int (inkF v S x))) v L := by
  have hk4 := sh_kd hS
  have hk1 := sh_k1 hS
  have hk2 := sh_k2 hS
  refine Fq.of (plainFor_of_name (by decide)) [some (.ref S), some (.int x)] rfl (Nat.le_of_ble_eq_true rfl) ?_
  refine g_iload1 (pc := 0) dX4_inkOn_0 ?_
  refine g_fN1 (pc := 1) (c_X9_isDot) dX4_inkOn_1 cw_RX4_51 (by decide) (Nat.le_of_ble_eq_true rfl) ?_
  refine g_if_eq (pc := 4) 16 dX4_inkOn_4 (by decide) (fun zh4 => ?_) (fun zh4 => ?_)
  · skip
    refine g_iconst (pc := 16) (0) dX4_inkOn_16 (by decide) ?_
    refine g_iret (pc := 17) dX4_inkOn_17 rfl ?_
    first | exact ⟨congrArg (fun t => some (Value.int t)) (if_pos (b01_ne0.mp zh4)).symm, rfl, rfl⟩ | exact ⟨congrArg (fun t => some (Value.int t)) (if_neg (b01_eq0.mp zh4)).symm, rfl, rfl⟩
  · skip
    first | refine g_aload0 (pc := 7) dX4_inkOn_7 ?_ | refine g_aloadN0 (pc := 7) dX4_inkOn_7 ?_
    refine g_getR (pc := 8) (j := 1) cf4 dX4_inkOn_8 fl_RX4_17 (by decide) (by decide) (by first | rfl | assumption) (S + 2) (sh_t1 hS) ?_
    refine g_iload1 (pc := 11) dX4_inkOn_11 ?_
    refine g_iald (pc := 12) dX4_inkOn_12 (by first | rfl | assumption) (by rw [sh_l2 hS]; exact vin_lt (n := 25) (by decide) (b01_ne0.mp zh4)) ?_
    refine g_goto (pc := 13) 17 dX4_inkOn_13 (by decide) ?_
    refine g_iret (pc := 17) dX4_inkOn_17 rfl ?_
    first | exact ⟨congrArg (fun t => some (Value.int t)) (if_pos (b01_ne0.mp zh4)).symm, rfl, rfl⟩ | exact ⟨congrArg (fun t => some (Value.int t)) (if_neg (b01_eq0.mp zh4)).symm, rfl, rfl⟩
theorem c_X4_setInk {S : Nat} {x y : Int32} {v : Mm} {L : Lm} (hS : Sh S) : Fn yX4_setInk cX4_setInk 3 none 1 [.ref S, .int x, .int y] v L none (stM v S x y) L := by
  have hk4 := sh_kd hS
  have hk1 := sh_k1 hS
  have hk2 := sh_k2 hS
  refine Fq.of (plainFor_of_name (by decide)) [some (.ref S), some (.int x), some (.int y)] rfl (Nat.le_of_ble_eq_true rfl) ?_
  refine g_iload1 (pc := 0) dX4_setInk_0 ?_
  refine g_fN1 (pc := 1) (c_X9_isDot) dX4_setInk_1 cw_RX4_51 (by decide) (Nat.le_of_ble_eq_true rfl) ?_
  refine g_if_eq (pc := 4) 14 dX4_setInk_4 (by decide) (fun zh4 => ?_) (fun zh4 => ?_)
  · skip
    refine g_vret (pc := 14) dX4_setInk_14 rfl ?_
    first | exact ⟨rfl, (if_pos (b01_ne0.mp zh4)).symm, rfl⟩ | exact ⟨rfl, (if_neg (b01_eq0.mp zh4)).symm, rfl⟩
  · skip
    first | refine g_aload0 (pc := 7) dX4_setInk_7 ?_ | refine g_aloadN0 (pc := 7) dX4_setInk_7 ?_
    refine g_getR (pc := 8) (j := 1) cf4 dX4_setInk_8 fl_RX4_17 (by decide) (by decide) (by first | rfl | assumption) (S + 2) (sh_t1 hS) ?_
    refine g_iload1 (pc := 11) dX4_setInk_11 ?_
    refine g_iload2 (pc := 12) dX4_setInk_12 ?_
    refine g_iast (pc := 13) dX4_setInk_13 (by first | rfl | assumption) (by rw [sh_l2 hS]; exact vin_lt (n := 25) (by decide) (b01_ne0.mp zh4)) ?_
    refine g_vret (pc := 14) dX4_setInk_14 rfl ?_
    first | exact ⟨rfl, (if_pos (b01_ne0.mp zh4)).symm, rfl⟩ | exact ⟨rfl, (if_neg (b01_eq0.mp zh4)).symm, rfl⟩
theorem c_X4_clean {S : Nat} {x : Int32} {v : Mm} {L : Lm} (hS : Sh S) : Fn yX4_clean cX4_clean 3 (some .int) 2 [.ref S, .int x] v L (some (.int (inkF v S x))) (stM v S x 0) L := by
  have hk4 := sh_kd hS
  have hk1 := sh_k1 hS
  have hk2 := sh_k2 hS
  refine Fq.of (plainFor_of_name (by decide)) [some (.ref S), some (.int x), none] rfl (Nat.le_of_ble_eq_true rfl) ?_
  first | refine g_aload0 (pc := 0) dX4_clean_0 ?_ | refine g_aloadN0 (pc := 0) dX4_clean_0 ?_
  refine g_iload1 (pc := 1) dX4_clean_1 ?_
  refine g_fV1 (pc := 2) (c_X4_inkOn hS) cf4 (by first | rfl | assumption) dX4_clean_2 cw_RX4_55 (by decide) (Nat.le_of_ble_eq_true rfl) ?_
  refine g_istore2 (pc := 5) dX4_clean_5 (by decide) (by first | rfl | assumption) ?_
  first | refine g_aload0 (pc := 6) dX4_clean_6 ?_ | refine g_aloadN0 (pc := 6) dX4_clean_6 ?_
  refine g_iload1 (pc := 7) dX4_clean_7 ?_
  refine g_iconst (pc := 8) (0) dX4_clean_8 (by decide) ?_
  refine g_vV2 (pc := 9) (c_X4_setInk hS) cf4 (by first | rfl | assumption) dX4_clean_9 cw_RX4_59 (by decide) (Nat.le_of_ble_eq_true rfl) ?_
  refine g_iload2 (pc := 12) dX4_clean_12 ?_
  refine g_iret (pc := 13) dX4_clean_13 rfl ?_
  exact ⟨rfl, rfl, rfl⟩
theorem c_X4_isBlack {S : Nat} {x : Int32} {v : Mm} {L : Lm} (hS : Sh S) : Fn yX4_isBlack cX4_isBlack 2 (some .boolean) 2 [.ref S, .int x] v L (some (.int (b01 (3 ≤ inkF v S x)))) v L := by
  have hk4 := sh_kd hS
  have hk1 := sh_k1 hS
  have hk2 := sh_k2 hS
  refine Fq.of (plainFor_of_name (by decide)) [some (.ref S), some (.int x)] rfl (Nat.le_of_ble_eq_true rfl) ?_
  first | refine g_aload0 (pc := 0) dX4_isBlack_0 ?_ | refine g_aloadN0 (pc := 0) dX4_isBlack_0 ?_
  refine g_iload1 (pc := 1) dX4_isBlack_1 ?_
  refine g_fV1 (pc := 2) (c_X4_inkOn hS) cf4 (by first | rfl | assumption) dX4_isBlack_2 cw_RX4_55 (by decide) (Nat.le_of_ble_eq_true rfl) ?_
  refine g_iconst (pc := 5) (3) dX4_isBlack_5 (by decide) ?_
  refine g_icmp_lt (pc := 6) 13 dX4_isBlack_6 (by decide) (fun zh6 => ?_) (fun zh6 => ?_)
  · skip
    refine g_iconst (pc := 13) (0) dX4_isBlack_13 (by decide) ?_
    refine g_zret (pc := 14) dX4_isBlack_14 rfl (by first | exact Or.inl rfl | exact Or.inr rfl | assumption) ?_
    first | exact ⟨by rw [b01_f (i32nle.mpr zh6)], rfl, rfl⟩ | exact ⟨by rw [b01_t (i32nlt.mp zh6)], rfl, rfl⟩
  · skip
    refine g_iconst (pc := 9) (1) dX4_isBlack_9 (by decide) ?_
    refine g_goto (pc := 10) 14 dX4_isBlack_10 (by decide) ?_
    refine g_zret (pc := 14) dX4_isBlack_14 rfl (by first | exact Or.inl rfl | exact Or.inr rfl | assumption) ?_
    first | exact ⟨by rw [b01_f (i32nle.mpr zh6)], rfl, rfl⟩ | exact ⟨by rw [b01_t (i32nlt.mp zh6)], rfl, rfl⟩
theorem c_X4_inkOf {S i : Nat} {v : Mm} {L : Lm} (hS : Sh S) (hi : i < 4) (hc : nI i < v S 2) : Fn yX4_inkOf cX4_inkOf 3 (some .int) 1 [.ref S, .int (nI i)] v L (some (.int (v (S + 3 + i) 4))) v L := by
  have hk4 := sh_kd hS
  have hkp := sh_kp hS hi
  refine Fq.of (plainFor_of_name (by decide)) [some (.ref S), some (.int (nI i)), none] rfl (Nat.le_of_ble_eq_true rfl) ?_
  first | refine g_aload0 (pc := 0) dX4_inkOf_0 ?_ | refine g_aloadN0 (pc := 0) dX4_inkOf_0 ?_
  refine g_iload1 (pc := 1) dX4_inkOf_1 ?_
  refine g_fV1 (pc := 2) (c_X4_find_s hS hi hc) cf4 (by first | rfl | assumption) dX4_inkOf_2 cw_RX4_45 (by decide) (Nat.le_of_ble_eq_true rfl) ?_
  first | refine g_astore2 (pc := 5) dX4_inkOf_5 (by decide) (by first | rfl | assumption) ?_ | refine g_astoreN2 (pc := 5) dX4_inkOf_5 (by decide) (by first | rfl | assumption) ?_
  first | refine g_aload2 (pc := 6) dX4_inkOf_6 ?_ | refine g_aloadN2 (pc := 6) dX4_inkOf_6 ?_
  refine g_ifnonnull (pc := 7) 14 dX4_inkOf_7 (by decide) ?_
  first | refine g_aload2 (pc := 14) dX4_inkOf_14 ?_ | refine g_aloadN2 (pc := 14) dX4_inkOf_14 ?_
  refine g_getI (pc := 15) (j := 4) cf2 dX4_inkOf_15 fl_RX4_49 (by decide) (by decide) (by first | rfl | assumption) ?_
  refine g_iret (pc := 18) dX4_inkOf_18 rfl ?_
  exact ⟨rfl, rfl, rfl⟩
theorem c_X4_addPen {S i : Nat} {v : Mm} {L : Lm} (hS : Sh S) (hi : i < 4) (hc : v S 2 = nI i) : Fn yX4_addPen cX4_addPen 1 (some (.object "BroadNib$Pen")) 0 [.ref S] v L (some (.ref (S + 3 + i))) (upd2 v S 2 (nI (i + 1))) L := by
  have hk4 := sh_kd hS
  have hk1 := sh_k1 hS
  have hk2 := sh_k2 hS
  refine Fq.of (plainFor_of_name (by decide)) [some (.ref S)] rfl (Nat.le_of_ble_eq_true rfl) ?_
  first | refine g_aload0 (pc := 0) dX4_addPen_0 ?_ | refine g_aloadN0 (pc := 0) dX4_addPen_0 ?_
  refine g_getI (pc := 1) (j := 2) cf4 dX4_addPen_1 fl_RX4_22 (by decide) (by decide) (by first | rfl | assumption) ?_
  refine g_if_lt (pc := 4) 15 dX4_addPen_4 (by decide) (fun zh4 => ?_) (fun zh4 => ?_)
  · skip
    exact absurd zh4 (by rw [hc]; exact nI_pos (by omega))
  · skip
    first | refine g_aload0 (pc := 7) dX4_addPen_7 ?_ | refine g_aloadN0 (pc := 7) dX4_addPen_7 ?_
    refine g_getI (pc := 8) (j := 2) cf4 dX4_addPen_8 fl_RX4_22 (by decide) (by decide) (by first | rfl | assumption) ?_
    refine g_iconst (pc := 11) (4) dX4_addPen_11 (by decide) ?_
    refine g_icmp_lt (pc := 12) 17 dX4_addPen_12 (by decide) (fun zh12 => ?_) (fun zh12 => ?_)
    · skip
      first | refine g_aload0 (pc := 17) dX4_addPen_17 ?_ | refine g_aloadN0 (pc := 17) dX4_addPen_17 ?_
      refine g_dup (pc := 18) dX4_addPen_18 rfl ?_
      refine g_getI (pc := 19) (j := 2) cf4 dX4_addPen_19 fl_RX4_22 (by decide) (by decide) (by first | rfl | assumption) ?_
      refine g_iconst (pc := 22) (1) dX4_addPen_22 (by decide) ?_
      refine g_iadd (pc := 23) dX4_addPen_23 ?_
      refine g_putI (pc := 24) (j := 2) cf4 dX4_addPen_24 fl_RX4_22 (by decide) rfl rfl (by decide) (by first | rfl | assumption) ?_
      first | refine g_aload0 (pc := 27) dX4_addPen_27 ?_ | refine g_aloadN0 (pc := 27) dX4_addPen_27 ?_
      refine g_getR (pc := 28) (j := 0) cf4 dX4_addPen_28 fl_RX4_11 (by decide) (by decide) (by first | rfl | assumption) (S + 1) (sh_t0 hS) ?_
      first | refine g_aload0 (pc := 31) dX4_addPen_31 ?_ | refine g_aloadN0 (pc := 31) dX4_addPen_31 ?_
      refine g_getI (pc := 32) (j := 2) cf4 dX4_addPen_32 fl_RX4_22 (by decide) (by decide) (by first | rfl | assumption) ?_
      refine g_iconst (pc := 35) (1) dX4_addPen_35 (by decide) ?_
      refine g_isub (pc := 36) dX4_addPen_36 ?_
      refine g_aald (pc := 37) (n := 14) dX4_addPen_37 (by first | rfl | assumption) (by decide) (by decide) (by rw [sh_l1 hS, u2_s, hc, nI_back]; exact vp_in_nI hi (by decide)) (S + 3 + i) (by rw [u2_s, hc, nI_back, nI_clamp (by omega)]; exact sh_tp hS hi) ?_
      first | refine g_aret (pc := 38) dX4_addPen_38 rfl ?_ | refine g_aretN (pc := 38) dX4_addPen_38 rfl ?_
      exact ⟨rfl, by rw [hc, nI_1], rfl⟩
    · skip
      exact absurd (by rw [hc]; exact nI_lt hi (by decide)) zh12
theorem c_X4_move_n {S k : Nat} {x : Int32} {v : Mm} {L : Lm} (hS : Sh S) (hk : kd k = 2) (hn : nbF (v k 0) x = -9) : Fn yX4_move cX4_move 5 (some .int) 3 [.ref S, .ref k, .int x] v L (some (.int (-9))) v L := by
  have hk4 := sh_kd hS
  have hk1 := sh_k1 hS
  have hk2 := sh_k2 hS
  refine Fq.of (plainFor_of_name (by decide)) [some (.ref S), some (.ref k), some (.int x), none, none] rfl (Nat.le_of_ble_eq_true rfl) ?_
  first | refine g_aload1 (pc := 0) dX4_move_0 ?_ | refine g_aloadN1 (pc := 0) dX4_move_0 ?_
  refine g_getI (pc := 1) (j := 0) cf2 dX4_move_1 fl_RX4_63 (by decide) (by decide) (by first | rfl | assumption) ?_
  refine g_iload2 (pc := 4) dX4_move_4 ?_
  refine g_fN2 (pc := 5) (c_X9_neighbour) dX4_move_5 cw_RX4_66 (by decide) (Nat.le_of_ble_eq_true rfl) ?_
  refine g_istore3 (pc := 8) dX4_move_8 (by decide) (by first | rfl | assumption) ?_
  refine g_iload3 (pc := 9) dX4_move_9 ?_
  refine g_bipush (pc := 10) (-9) dX4_move_10 (by decide) ?_
  refine g_icmp_ne (pc := 12) 18 dX4_move_12 (by decide) (fun zh12 => ?_) (fun zh12 => ?_)
  · skip
    exact absurd hn zh12
  · skip
    refine g_bipush (pc := 15) (-9) dX4_move_15 (by decide) ?_
    refine g_iret (pc := 17) dX4_move_17 rfl ?_
    exact ⟨rfl, rfl, rfl⟩
theorem c_X4_move_s {S k : Nat} {x : Int32} {v : Mm} {L : Lm} (hS : Sh S) (hk : kd k = 2) (hn : ¬ nbF (v k 0) x = -9) : Fn yX4_move cX4_move 5 (some .int) 3 [.ref S, .ref k, .int x] v L (some (.int (mvL v k x))) (mvV v S k x) L := by
  have hk4 := sh_kd hS
  have hk1 := sh_k1 hS
  have hk2 := sh_k2 hS
  refine Fq.of (plainFor_of_name (by decide)) [some (.ref S), some (.ref k), some (.int x), none, none] rfl (Nat.le_of_ble_eq_true rfl) ?_
  first | refine g_aload1 (pc := 0) dX4_move_0 ?_ | refine g_aloadN1 (pc := 0) dX4_move_0 ?_
  refine g_getI (pc := 1) (j := 0) cf2 dX4_move_1 fl_RX4_63 (by decide) (by decide) (by first | rfl | assumption) ?_
  refine g_iload2 (pc := 4) dX4_move_4 ?_
  refine g_fN2 (pc := 5) (c_X9_neighbour) dX4_move_5 cw_RX4_66 (by decide) (Nat.le_of_ble_eq_true rfl) ?_
  refine g_istore3 (pc := 8) dX4_move_8 (by decide) (by first | rfl | assumption) ?_
  refine g_iload3 (pc := 9) dX4_move_9 ?_
  refine g_bipush (pc := 10) (-9) dX4_move_10 (by decide) ?_
  refine g_icmp_ne (pc := 12) 18 dX4_move_12 (by decide) (fun zh12 => ?_) (fun zh12 => ?_)
  · skip
    first | refine g_aload1 (pc := 18) dX4_move_18 ?_ | refine g_aloadN1 (pc := 18) dX4_move_18 ?_
    refine g_iload2 (pc := 19) dX4_move_19 ?_
    first | refine g_aload1 (pc := 20) dX4_move_20 ?_ | refine g_aloadN1 (pc := 20) dX4_move_20 ?_
    refine g_getI (pc := 21) (j := 4) cf2 dX4_move_21 fl_RX4_49 (by decide) (by decide) (by first | rfl | assumption) ?_
    refine g_fV2 (pc := 24) (c_X2_lays hk) cf2 (by first | rfl | assumption) dX4_move_24 cw_RX4_70 (by decide) (Nat.le_of_ble_eq_true rfl) ?_
    refine g_istore4 (pc := 27) dX4_move_27 (by decide) (by first | rfl | assumption) ?_
    first | refine g_aload1 (pc := 29) dX4_move_29 ?_ | refine g_aloadN1 (pc := 29) dX4_move_29 ?_
    refine g_iload3 (pc := 30) dX4_move_30 ?_
    refine g_putI (pc := 31) (j := 0) cf2 dX4_move_31 fl_RX4_63 (by decide) rfl rfl (by decide) (by first | rfl | assumption) ?_
    first | refine g_aload1 (pc := 34) dX4_move_34 ?_ | refine g_aloadN1 (pc := 34) dX4_move_34 ?_
    refine g_dup (pc := 35) dX4_move_35 rfl ?_
    refine g_getI (pc := 36) (j := 4) cf2 dX4_move_36 fl_RX4_49 (by decide) (by decide) (by first | rfl | assumption) ?_
    refine g_iload4 (pc := 39) dX4_move_39 ?_
    refine g_isub (pc := 41) dX4_move_41 ?_
    refine g_putI (pc := 42) (j := 4) cf2 dX4_move_42 fl_RX4_49 (by decide) rfl rfl (by decide) (by first | rfl | assumption) ?_
    first | refine g_aload0 (pc := 45) dX4_move_45 ?_ | refine g_aloadN0 (pc := 45) dX4_move_45 ?_
    refine g_iload3 (pc := 46) dX4_move_46 ?_
    refine g_bipush (pc := 47) (99) dX4_move_47 (by decide) ?_
    first | refine g_aload0 (pc := 49) dX4_move_49 ?_ | refine g_aloadN0 (pc := 49) dX4_move_49 ?_
    refine g_iload3 (pc := 50) dX4_move_50 ?_
    refine g_fV1 (pc := 51) (c_X4_inkOn hS) cf4 (by first | rfl | assumption) dX4_move_51 cw_RX4_55 (by decide) (Nat.le_of_ble_eq_true rfl) ?_
    refine g_iload4 (pc := 54) dX4_move_54 ?_
    refine g_iadd (pc := 56) dX4_move_56 ?_
    refine g_fS2 (pc := 57) (c_J9_min_7cf53) dX4_move_57 cw_RX4_73 (by decide) (Nat.le_of_ble_eq_true rfl) ?_
    refine g_vV2 (pc := 60) (c_X4_setInk hS) cf4 (by first | rfl | assumption) dX4_move_60 cw_RX4_59 (by decide) (Nat.le_of_ble_eq_true rfl) ?_
    first | refine g_aload0 (pc := 63) dX4_move_63 ?_ | refine g_aloadN0 (pc := 63) dX4_move_63 ?_
    refine g_dup (pc := 64) dX4_move_64 rfl ?_
    refine g_getI (pc := 65) (j := 3) cf4 dX4_move_65 fl_RX4_26 (by decide) (by decide) (by first | rfl | assumption) ?_
    refine g_iconst (pc := 68) (1) dX4_move_68 (by decide) ?_
    refine g_iadd (pc := 69) dX4_move_69 ?_
    refine g_putI (pc := 70) (j := 3) cf4 dX4_move_70 fl_RX4_26 (by decide) rfl rfl (by decide) (by first | rfl | assumption) ?_
    refine g_iload4 (pc := 73) dX4_move_73 ?_
    refine g_iret (pc := 75) dX4_move_75 rfl ?_
    exact ⟨rfl, by simp only [mvV, upd2, mvL]; rfl, rfl⟩
  · skip
    exact absurd zh12 hn
