theorem c_X10_in {x y z : Int64} {v : Mm} {L : Lm}  : Fn yX10_in cX10_in 6 (some .boolean) 0 [.long x, .long y, .long z] v L (some (.int (b01 (y ≤ x ∧ x ≤ z)))) v L := by
  refine Fq.of (plainFor_of_name (by decide)) [some (.long x), none, some (.long y), none, some (.long z), none] rfl (Nat.le_of_ble_eq_true rfl) ?_
  refine g_lload0 (pc := 0) dX10_in_0 ?_
  refine g_lload2 (pc := 1) dX10_in_1 ?_
  refine g_lcmp (pc := 2) dX10_in_2 ?_
  refine g_if_lt (pc := 3) 17 dX10_in_3 (by decide) (fun zh3 => ?_) (fun zh3 => ?_)
  · skip
    refine g_iconst (pc := 17) (0) dX10_in_17 (by decide) ?_
    refine g_zret (pc := 18) dX10_in_18 rfl (by first | exact Or.inl rfl | exact Or.inr rfl | assumption) ?_
    first | (rw [b01_t (⟨Int64.not_lt.mp (fun zq => zh3 ((lg_cmp_lt _ _).mpr zq)), Int64.not_lt.mp (fun zq => zh10 ((lg_cmp_gt _ _).mpr zq))⟩)]; exact ⟨rfl, rfl, rfl⟩) | (rw [b01_f (fun zq => Int64.not_lt.mpr zq.1 ((lg_cmp_lt _ _).mp zh3))]; exact ⟨rfl, rfl, rfl⟩) | (rw [b01_f (fun zq => Int64.not_lt.mpr zq.2 ((lg_cmp_gt _ _).mp zh10))]; exact ⟨rfl, rfl, rfl⟩)
  · skip
    refine g_lload0 (pc := 6) dX10_in_6 ?_
    refine g_lload4 (pc := 7) dX10_in_7 ?_
    refine g_lcmp (pc := 9) dX10_in_9 ?_
    refine g_if_gt (pc := 10) 17 dX10_in_10 (by decide) (fun zh10 => ?_) (fun zh10 => ?_)
    · skip
      refine g_iconst (pc := 17) (0) dX10_in_17 (by decide) ?_
      refine g_zret (pc := 18) dX10_in_18 rfl (by first | exact Or.inl rfl | exact Or.inr rfl | assumption) ?_
      first | (rw [b01_t (⟨Int64.not_lt.mp (fun zq => zh3 ((lg_cmp_lt _ _).mpr zq)), Int64.not_lt.mp (fun zq => zh10 ((lg_cmp_gt _ _).mpr zq))⟩)]; exact ⟨rfl, rfl, rfl⟩) | (rw [b01_f (fun zq => Int64.not_lt.mpr zq.1 ((lg_cmp_lt _ _).mp zh3))]; exact ⟨rfl, rfl, rfl⟩) | (rw [b01_f (fun zq => Int64.not_lt.mpr zq.2 ((lg_cmp_gt _ _).mp zh10))]; exact ⟨rfl, rfl, rfl⟩)
    · skip
      refine g_iconst (pc := 13) (1) dX10_in_13 (by decide) ?_
      refine g_goto (pc := 14) 18 dX10_in_14 (by decide) ?_
      refine g_zret (pc := 18) dX10_in_18 rfl (by first | exact Or.inl rfl | exact Or.inr rfl | assumption) ?_
      first | (rw [b01_t (⟨Int64.not_lt.mp (fun zq => zh3 ((lg_cmp_lt _ _).mpr zq)), Int64.not_lt.mp (fun zq => zh10 ((lg_cmp_gt _ _).mpr zq))⟩)]; exact ⟨rfl, rfl, rfl⟩) | (rw [b01_f (fun zq => Int64.not_lt.mpr zq.1 ((lg_cmp_lt _ _).mp zh3))]; exact ⟨rfl, rfl, rfl⟩) | (rw [b01_f (fun zq => Int64.not_lt.mpr zq.2 ((lg_cmp_gt _ _).mp zh10))]; exact ⟨rfl, rfl, rfl⟩)
theorem c_X10_has {x y : Int32} {v : Mm} {L : Lm}  : Fn yX10_has cX10_has 2 (some .boolean) 0 [.int x, .int y] v L (some (.int (b01 ((x >>> (y &&& 31)) &&& 1 = 1)))) v L := by
  refine Fq.of (plainFor_of_name (by decide)) [some (.int x), some (.int y)] rfl (Nat.le_of_ble_eq_true rfl) ?_
  refine g_iload0 (pc := 0) dX10_has_0 ?_
  refine g_iload1 (pc := 1) dX10_has_1 ?_
  refine g_ishr (pc := 2) dX10_has_2 ?_
  refine g_iconst (pc := 3) (1) dX10_has_3 (by decide) ?_
  refine g_iand (pc := 4) dX10_has_4 ?_
  refine g_iconst (pc := 5) (1) dX10_has_5 (by decide) ?_
  refine g_icmp_ne (pc := 6) 13 dX10_has_6 (by decide) (fun zh6 => ?_) (fun zh6 => ?_)
  · skip
    refine g_iconst (pc := 13) (0) dX10_has_13 (by decide) ?_
    refine g_zret (pc := 14) dX10_has_14 rfl (by first | exact Or.inl rfl | exact Or.inr rfl | assumption) ?_
    first | (rw [b01_t (zh6)]; exact ⟨rfl, rfl, rfl⟩) | (rw [b01_f (zh6)]; exact ⟨rfl, rfl, rfl⟩)
  · skip
    refine g_iconst (pc := 9) (1) dX10_has_9 (by decide) ?_
    refine g_goto (pc := 10) 14 dX10_has_10 (by decide) ?_
    refine g_zret (pc := 14) dX10_has_14 rfl (by first | exact Or.inl rfl | exact Or.inr rfl | assumption) ?_
    first | (rw [b01_t (zh6)]; exact ⟨rfl, rfl, rfl⟩) | (rw [b01_f (zh6)]; exact ⟨rfl, rfl, rfl⟩)
theorem c_X10_across {x : Int32} {v : Mm} {L : Lm}  : Fn yX10_across cX10_across 1 (some .int) 0 [.int x] v L (some (.int (acrF x))) v L := by
  refine Fq.of (plainFor_of_name (by decide)) [some (.int x)] rfl (Nat.le_of_ble_eq_true rfl) ?_
  refine g_iload0 (pc := 0) dX10_across_0 ?_
  refine g_iconst (pc := 1) (2) dX10_across_1 (by decide) ?_
  refine g_icmp_eq (pc := 2) 11 dX10_across_2 (by decide) (fun zh2 => ?_) (fun zh2 => ?_)
  · skip
    refine g_iconst (pc := 11) (0) dX10_across_11 (by decide) ?_
    refine g_goto (pc := 12) 31 dX10_across_12 (by decide) ?_
    refine g_iret (pc := 31) dX10_across_31 rfl ?_
    first | exact ⟨congrArg (fun zt => some (Value.int zt)) (if_pos (Or.inl zh2)).symm, rfl, rfl⟩ | exact ⟨congrArg (fun zt => some (Value.int zt)) (if_pos (Or.inr zh8)).symm, rfl, rfl⟩ | exact ⟨congrArg (fun zt => some (Value.int zt)) ((if_neg (fun zq => zq.elim zh2 zh8)).trans (if_pos (Or.inl zh17))).symm, rfl, rfl⟩ | exact ⟨congrArg (fun zt => some (Value.int zt)) ((if_neg (fun zq => zq.elim zh2 zh8)).trans (if_pos (Or.inr zh23))).symm, rfl, rfl⟩ | exact ⟨congrArg (fun zt => some (Value.int zt)) ((if_neg (fun zq => zq.elim zh2 zh8)).trans (if_neg (fun zq => zq.elim zh17 zh23))).symm, rfl, rfl⟩
  · skip
    refine g_iload0 (pc := 5) dX10_across_5 ?_
    refine g_bipush (pc := 6) (6) dX10_across_6 (by decide) ?_
    refine g_icmp_ne (pc := 8) 15 dX10_across_8 (by decide) (fun zh8 => ?_) (fun zh8 => ?_)
    · skip
      refine g_iload0 (pc := 15) dX10_across_15 ?_
      refine g_iconst (pc := 16) (2) dX10_across_16 (by decide) ?_
      refine g_icmp_lt (pc := 17) 26 dX10_across_17 (by decide) (fun zh17 => ?_) (fun zh17 => ?_)
      · skip
        refine g_iconst (pc := 26) (1) dX10_across_26 (by decide) ?_
        refine g_goto (pc := 27) 31 dX10_across_27 (by decide) ?_
        refine g_iret (pc := 31) dX10_across_31 rfl ?_
        first | exact ⟨congrArg (fun zt => some (Value.int zt)) (if_pos (Or.inl zh2)).symm, rfl, rfl⟩ | exact ⟨congrArg (fun zt => some (Value.int zt)) (if_pos (Or.inr zh8)).symm, rfl, rfl⟩ | exact ⟨congrArg (fun zt => some (Value.int zt)) ((if_neg (fun zq => zq.elim zh2 zh8)).trans (if_pos (Or.inl zh17))).symm, rfl, rfl⟩ | exact ⟨congrArg (fun zt => some (Value.int zt)) ((if_neg (fun zq => zq.elim zh2 zh8)).trans (if_pos (Or.inr zh23))).symm, rfl, rfl⟩ | exact ⟨congrArg (fun zt => some (Value.int zt)) ((if_neg (fun zq => zq.elim zh2 zh8)).trans (if_neg (fun zq => zq.elim zh17 zh23))).symm, rfl, rfl⟩
      · skip
        refine g_iload0 (pc := 20) dX10_across_20 ?_
        refine g_bipush (pc := 21) (7) dX10_across_21 (by decide) ?_
        refine g_icmp_ne (pc := 23) 30 dX10_across_23 (by decide) (fun zh23 => ?_) (fun zh23 => ?_)
        · skip
          refine g_iconst (pc := 30) (-1) dX10_across_30 (by decide) ?_
          refine g_iret (pc := 31) dX10_across_31 rfl ?_
          first | exact ⟨congrArg (fun zt => some (Value.int zt)) (if_pos (Or.inl zh2)).symm, rfl, rfl⟩ | exact ⟨congrArg (fun zt => some (Value.int zt)) (if_pos (Or.inr zh8)).symm, rfl, rfl⟩ | exact ⟨congrArg (fun zt => some (Value.int zt)) ((if_neg (fun zq => zq.elim zh2 zh8)).trans (if_pos (Or.inl zh17))).symm, rfl, rfl⟩ | exact ⟨congrArg (fun zt => some (Value.int zt)) ((if_neg (fun zq => zq.elim zh2 zh8)).trans (if_pos (Or.inr zh23))).symm, rfl, rfl⟩ | exact ⟨congrArg (fun zt => some (Value.int zt)) ((if_neg (fun zq => zq.elim zh2 zh8)).trans (if_neg (fun zq => zq.elim zh17 zh23))).symm, rfl, rfl⟩
        · skip
          refine g_iconst (pc := 26) (1) dX10_across_26 (by decide) ?_
          refine g_goto (pc := 27) 31 dX10_across_27 (by decide) ?_
          refine g_iret (pc := 31) dX10_across_31 rfl ?_
          first | exact ⟨congrArg (fun zt => some (Value.int zt)) (if_pos (Or.inl zh2)).symm, rfl, rfl⟩ | exact ⟨congrArg (fun zt => some (Value.int zt)) (if_pos (Or.inr zh8)).symm, rfl, rfl⟩ | exact ⟨congrArg (fun zt => some (Value.int zt)) ((if_neg (fun zq => zq.elim zh2 zh8)).trans (if_pos (Or.inl zh17))).symm, rfl, rfl⟩ | exact ⟨congrArg (fun zt => some (Value.int zt)) ((if_neg (fun zq => zq.elim zh2 zh8)).trans (if_pos (Or.inr zh23))).symm, rfl, rfl⟩ | exact ⟨congrArg (fun zt => some (Value.int zt)) ((if_neg (fun zq => zq.elim zh2 zh8)).trans (if_neg (fun zq => zq.elim zh17 zh23))).symm, rfl, rfl⟩
    · skip
      refine g_iconst (pc := 11) (0) dX10_across_11 (by decide) ?_
      refine g_goto (pc := 12) 31 dX10_across_12 (by decide) ?_
      refine g_iret (pc := 31) dX10_across_31 rfl ?_
      first | exact ⟨congrArg (fun zt => some (Value.int zt)) (if_pos (Or.inl zh2)).symm, rfl, rfl⟩ | exact ⟨congrArg (fun zt => some (Value.int zt)) (if_pos (Or.inr zh8)).symm, rfl, rfl⟩ | exact ⟨congrArg (fun zt => some (Value.int zt)) ((if_neg (fun zq => zq.elim zh2 zh8)).trans (if_pos (Or.inl zh17))).symm, rfl, rfl⟩ | exact ⟨congrArg (fun zt => some (Value.int zt)) ((if_neg (fun zq => zq.elim zh2 zh8)).trans (if_pos (Or.inr zh23))).symm, rfl, rfl⟩ | exact ⟨congrArg (fun zt => some (Value.int zt)) ((if_neg (fun zq => zq.elim zh2 zh8)).trans (if_neg (fun zq => zq.elim zh17 zh23))).symm, rfl, rfl⟩
theorem c_X10_upward {x : Int32} {v : Mm} {L : Lm}  : Fn yX10_upward cX10_upward 1 (some .int) 0 [.int x] v L (some (.int (uprF x))) v L := by
  refine Fq.of (plainFor_of_name (by decide)) [some (.int x)] rfl (Nat.le_of_ble_eq_true rfl) ?_
  refine g_iload0 (pc := 0) dX10_upward_0 ?_
  refine g_if_eq (pc := 1) 9 dX10_upward_1 (by decide) (fun zh1 => ?_) (fun zh1 => ?_)
  · skip
    refine g_iconst (pc := 9) (0) dX10_upward_9 (by decide) ?_
    refine g_goto (pc := 10) 23 dX10_upward_10 (by decide) ?_
    refine g_iret (pc := 23) dX10_upward_23 rfl ?_
    first | exact ⟨congrArg (fun zt => some (Value.int zt)) (if_pos (Or.inl zh1)).symm, rfl, rfl⟩ | exact ⟨congrArg (fun zt => some (Value.int zt)) (if_pos (Or.inr zh6)).symm, rfl, rfl⟩ | exact ⟨congrArg (fun zt => some (Value.int zt)) ((if_neg (fun zq => zq.elim zh1 zh6)).trans (if_pos (i32nle.mp zh15))).symm, rfl, rfl⟩ | exact ⟨congrArg (fun zt => some (Value.int zt)) ((if_neg (fun zq => zq.elim zh1 zh6)).trans (if_neg (i32nlt.mpr zh15))).symm, rfl, rfl⟩
  · skip
    refine g_iload0 (pc := 4) dX10_upward_4 ?_
    refine g_iconst (pc := 5) (4) dX10_upward_5 (by decide) ?_
    refine g_icmp_ne (pc := 6) 13 dX10_upward_6 (by decide) (fun zh6 => ?_) (fun zh6 => ?_)
    · skip
      refine g_iload0 (pc := 13) dX10_upward_13 ?_
      refine g_iconst (pc := 14) (4) dX10_upward_14 (by decide) ?_
      refine g_icmp_ge (pc := 15) 22 dX10_upward_15 (by decide) (fun zh15 => ?_) (fun zh15 => ?_)
      · skip
        refine g_iconst (pc := 22) (-1) dX10_upward_22 (by decide) ?_
        refine g_iret (pc := 23) dX10_upward_23 rfl ?_
        first | exact ⟨congrArg (fun zt => some (Value.int zt)) (if_pos (Or.inl zh1)).symm, rfl, rfl⟩ | exact ⟨congrArg (fun zt => some (Value.int zt)) (if_pos (Or.inr zh6)).symm, rfl, rfl⟩ | exact ⟨congrArg (fun zt => some (Value.int zt)) ((if_neg (fun zq => zq.elim zh1 zh6)).trans (if_pos (i32nle.mp zh15))).symm, rfl, rfl⟩ | exact ⟨congrArg (fun zt => some (Value.int zt)) ((if_neg (fun zq => zq.elim zh1 zh6)).trans (if_neg (i32nlt.mpr zh15))).symm, rfl, rfl⟩
      · skip
        refine g_iconst (pc := 18) (1) dX10_upward_18 (by decide) ?_
        refine g_goto (pc := 19) 23 dX10_upward_19 (by decide) ?_
        refine g_iret (pc := 23) dX10_upward_23 rfl ?_
        first | exact ⟨congrArg (fun zt => some (Value.int zt)) (if_pos (Or.inl zh1)).symm, rfl, rfl⟩ | exact ⟨congrArg (fun zt => some (Value.int zt)) (if_pos (Or.inr zh6)).symm, rfl, rfl⟩ | exact ⟨congrArg (fun zt => some (Value.int zt)) ((if_neg (fun zq => zq.elim zh1 zh6)).trans (if_pos (i32nle.mp zh15))).symm, rfl, rfl⟩ | exact ⟨congrArg (fun zt => some (Value.int zt)) ((if_neg (fun zq => zq.elim zh1 zh6)).trans (if_neg (i32nlt.mpr zh15))).symm, rfl, rfl⟩
    · skip
      refine g_iconst (pc := 9) (0) dX10_upward_9 (by decide) ?_
      refine g_goto (pc := 10) 23 dX10_upward_10 (by decide) ?_
      refine g_iret (pc := 23) dX10_upward_23 rfl ?_
      first | exact ⟨congrArg (fun zt => some (Value.int zt)) (if_pos (Or.inl zh1)).symm, rfl, rfl⟩ | exact ⟨congrArg (fun zt => some (Value.int zt)) (if_pos (Or.inr zh6)).symm, rfl, rfl⟩ | exact ⟨congrArg (fun zt => some (Value.int zt)) ((if_neg (fun zq => zq.elim zh1 zh6)).trans (if_pos (i32nle.mp zh15))).symm, rfl, rfl⟩ | exact ⟨congrArg (fun zt => some (Value.int zt)) ((if_neg (fun zq => zq.elim zh1 zh6)).trans (if_neg (i32nlt.mpr zh15))).symm, rfl, rfl⟩
theorem c_X10_size {x : Int32} {v : Mm} {L : Lm}  : Fn yX10_size cX10_size 1 (some .int) 0 [.int x] v L (some (.int (szF x))) v L := by
  refine Fq.of (plainFor_of_name (by decide)) [some (.int x)] rfl (Nat.le_of_ble_eq_true rfl) ?_
  refine g_iload0 (pc := 0) dX10_size_0 ?_
  refine g_if_ge (pc := 1) 9 dX10_size_1 (by decide) (fun zh1 => ?_) (fun zh1 => ?_)
  · skip
    refine g_iload0 (pc := 9) dX10_size_9 ?_
    refine g_iret (pc := 10) dX10_size_10 rfl ?_
    first | exact ⟨congrArg (fun zt => some (Value.int zt)) (if_pos zh1).symm, rfl, rfl⟩ | exact ⟨congrArg (fun zt => some (Value.int zt)) (if_neg zh1).symm, rfl, rfl⟩
  · skip
    refine g_iload0 (pc := 4) dX10_size_4 ?_
    refine g_ineg (pc := 5) dX10_size_5 ?_
    refine g_goto (pc := 6) 10 dX10_size_6 (by decide) ?_
    refine g_iret (pc := 10) dX10_size_10 rfl ?_
    first | exact ⟨congrArg (fun zt => some (Value.int zt)) (if_pos zh1).symm, rfl, rfl⟩ | exact ⟨congrArg (fun zt => some (Value.int zt)) (if_neg zh1).symm, rfl, rfl⟩
theorem c_X10_nextDot {x y : Int32} {v : Mm} {L : Lm}  : Fn yX10_nextDot cX10_nextDot 4 (some .int) 1 [.int x, .int y] v L (some (.int (ndF x y))) v L := by
  have zi4 : ∀ x : Int32, ((0 : Int64) ≤ x.toInt64 ∧ x.toInt64 ≤ 4) ↔ (0 ≤ x ∧ x ≤ 4) := fun x => inI (y := x) (by decide) (by decide)
  refine Fq.of (plainFor_of_name (by decide)) [some (.int x), some (.int y), none, none] rfl (Nat.le_of_ble_eq_true rfl) ?_
  refine g_iload0 (pc := 0) dX10_nextDot_0 ?_
  refine g_iconst (pc := 1) (5) dX10_nextDot_1 (by decide) ?_
  refine g_irem (pc := 2) dX10_nextDot_2 (by decide) ?_
  refine g_iload1 (pc := 3) dX10_nextDot_3 ?_
  refine g_fS1 (pc := 4) (c_X10_across) dX10_nextDot_4 cw_RX10_103 (by decide) (Nat.le_of_ble_eq_true rfl) ?_
  refine g_iadd (pc := 7) dX10_nextDot_7 ?_
  refine g_istore2 (pc := 8) dX10_nextDot_8 (by decide) (by first | rfl | assumption) ?_
  refine g_iload0 (pc := 9) dX10_nextDot_9 ?_
  refine g_iconst (pc := 10) (5) dX10_nextDot_10 (by decide) ?_
  refine g_idiv (pc := 11) dX10_nextDot_11 (by decide) ?_
  refine g_iload1 (pc := 12) dX10_nextDot_12 ?_
  refine g_fS1 (pc := 13) (c_X10_upward) dX10_nextDot_13 cw_RX10_107 (by decide) (Nat.le_of_ble_eq_true rfl) ?_
  refine g_iadd (pc := 16) dX10_nextDot_16 ?_
  refine g_istore3 (pc := 17) dX10_nextDot_17 (by decide) (by first | rfl | assumption) ?_
  refine g_iload2 (pc := 18) dX10_nextDot_18 ?_
  refine g_i2l (pc := 19) dX10_nextDot_19 ?_
  refine g_lconst (pc := 20) (0) dX10_nextDot_20 (by decide) ?_
  refine g_ldc2 (pc := 21) _ dX10_nextDot_21 kc_RX10_110 ?_
  refine g_fS3 (pc := 24) (c_X10_in) dX10_nextDot_24 cw_RX10_52 (by decide) (Nat.le_of_ble_eq_true rfl) ?_
  refine g_if_eq (pc := 27) 50 dX10_nextDot_27 (by decide) (fun zh27 => ?_) (fun zh27 => ?_)
  · skip
    refine g_bipush (pc := 50) (-9) dX10_nextDot_50 (by decide) ?_
    refine g_iret (pc := 52) dX10_nextDot_52 rfl ?_
    first | exact ⟨congrArg (fun zt => some (Value.int zt)) (if_pos ⟨(zi4 _).mp (b01_ne0.mp zh27), (zi4 _).mp (b01_ne0.mp zh39)⟩).symm, rfl, rfl⟩ | exact ⟨congrArg (fun zt => some (Value.int zt)) (if_neg (fun zq => b01_eq0.mp zh27 ((zi4 _).mpr zq.1))).symm, rfl, rfl⟩ | exact ⟨congrArg (fun zt => some (Value.int zt)) (if_neg (fun zq => b01_eq0.mp zh39 ((zi4 _).mpr zq.2))).symm, rfl, rfl⟩
  · skip
    refine g_iload3 (pc := 30) dX10_nextDot_30 ?_
    refine g_i2l (pc := 31) dX10_nextDot_31 ?_
    refine g_lconst (pc := 32) (0) dX10_nextDot_32 (by decide) ?_
    refine g_ldc2 (pc := 33) _ dX10_nextDot_33 kc_RX10_110 ?_
    refine g_fS3 (pc := 36) (c_X10_in) dX10_nextDot_36 cw_RX10_52 (by decide) (Nat.le_of_ble_eq_true rfl) ?_
    refine g_if_eq (pc := 39) 50 dX10_nextDot_39 (by decide) (fun zh39 => ?_) (fun zh39 => ?_)
    · skip
      refine g_bipush (pc := 50) (-9) dX10_nextDot_50 (by decide) ?_
      refine g_iret (pc := 52) dX10_nextDot_52 rfl ?_
      first | exact ⟨congrArg (fun zt => some (Value.int zt)) (if_pos ⟨(zi4 _).mp (b01_ne0.mp zh27), (zi4 _).mp (b01_ne0.mp zh39)⟩).symm, rfl, rfl⟩ | exact ⟨congrArg (fun zt => some (Value.int zt)) (if_neg (fun zq => b01_eq0.mp zh27 ((zi4 _).mpr zq.1))).symm, rfl, rfl⟩ | exact ⟨congrArg (fun zt => some (Value.int zt)) (if_neg (fun zq => b01_eq0.mp zh39 ((zi4 _).mpr zq.2))).symm, rfl, rfl⟩
    · skip
      refine g_iconst (pc := 42) (5) dX10_nextDot_42 (by decide) ?_
      refine g_iload3 (pc := 43) dX10_nextDot_43 ?_
      refine g_imul (pc := 44) dX10_nextDot_44 ?_
      refine g_iload2 (pc := 45) dX10_nextDot_45 ?_
      refine g_iadd (pc := 46) dX10_nextDot_46 ?_
      refine g_goto (pc := 47) 52 dX10_nextDot_47 (by decide) ?_
      refine g_iret (pc := 52) dX10_nextDot_52 rfl ?_
      first | exact ⟨congrArg (fun zt => some (Value.int zt)) (if_pos ⟨(zi4 _).mp (b01_ne0.mp zh27), (zi4 _).mp (b01_ne0.mp zh39)⟩).symm, rfl, rfl⟩ | exact ⟨congrArg (fun zt => some (Value.int zt)) (if_neg (fun zq => b01_eq0.mp zh27 ((zi4 _).mpr zq.1))).symm, rfl, rfl⟩ | exact ⟨congrArg (fun zt => some (Value.int zt)) (if_neg (fun zq => b01_eq0.mp zh39 ((zi4 _).mpr zq.2))).symm, rfl, rfl⟩
theorem c_X10_isPen {n : Nat} {x : Int32} {v : Mm} {L : Lm} (hn : v 79 0 = nI n) (hn4 : n ≤ 4) : Fn yX10_isPen cX10_isPen 2 (some .boolean) 1 [.ref 79, .int x] v L (some (.int (b01 (0 ≤ x ∧ x < nI n)))) v L := by
  refine Fq.of (plainFor_of_name (by decide)) [some (.ref 79), some (.int x)] rfl (Nat.le_of_ble_eq_true rfl) ?_
  refine g_iload1 (pc := 0) dX10_isPen_0 ?_
  refine g_i2l (pc := 1) dX10_isPen_1 ?_
  refine g_lconst (pc := 2) (0) dX10_isPen_2 (by decide) ?_
  first | refine g_aload0 (pc := 3) dX10_isPen_3 ?_ | refine g_aloadN0 (pc := 3) dX10_isPen_3 ?_
  refine g_getI (pc := 4) (j := 0) cf10 dX10_isPen_4 fl_RX10_84 (by decide) (by decide) (by first | rfl | assumption) ?_
  refine g_iconst (pc := 7) (1) dX10_isPen_7 (by decide) ?_
  refine g_isub (pc := 8) dX10_isPen_8 ?_
  refine g_i2l (pc := 9) dX10_isPen_9 ?_
  refine g_fS3 (pc := 10) (c_X10_in) dX10_isPen_10 cw_RX10_52 (by decide) (Nat.le_of_ble_eq_true rfl) ?_
  refine g_zret (pc := 13) dX10_isPen_13 rfl (by rw [hn]; exact b01_01) ?_
  refine ⟨congrArg (fun zt => some (Value.int zt)) (b01_congr ?_), rfl, rfl⟩
  rw [hn]
  exact inPen hn4
theorem c_X10_thickOn {l p : Nat} {e : Int32} {v : Mm} {L : Lm} (hl : l ≤ 1) (hp : p < 4) : Fn yX10_thickOn cX10_thickOn 7 (some .int) 1 [.ref 79, .int (nI l), .int (nI p), .int e] v L (some (.int (thM v l p e))) v L := by
  refine Fq.of (plainFor_of_name (by decide)) [some (.ref 79), some (.int (nI l)), some (.int (nI p)), some (.int e), none, none, none] rfl (Nat.le_of_ble_eq_true rfl) ?_
  first | refine g_aload0 (pc := 0) dX10_thickOn_0 ?_ | refine g_aloadN0 (pc := 0) dX10_thickOn_0 ?_
  refine g_getR (pc := 1) (j := 3) cf10 dX10_thickOn_1 fl_RX10_16 (by decide) (by decide) (by first | rfl | assumption) (82) (rfl) ?_
  refine g_bipush (pc := 4) (43) dX10_thickOn_4 (by decide) ?_
  refine g_iload1 (pc := 6) dX10_thickOn_6 ?_
  refine g_imul (pc := 7) dX10_thickOn_7 ?_
  refine g_iconst (pc := 8) (4) dX10_thickOn_8 (by decide) ?_
  refine g_iadd (pc := 9) dX10_thickOn_9 ?_
  refine g_iload2 (pc := 10) dX10_thickOn_10 ?_
  refine g_iadd (pc := 11) dX10_thickOn_11 ?_
  refine g_ialdX (pc := 12) (43 * l + 4 + p) dX10_thickOn_12 (rfl) (ixA (a := 4)) (by have := ln_all; omega) (by decide) ?_
  refine g_istore4 (pc := 13) dX10_thickOn_13 (by decide) (by first | rfl | assumption) ?_
  first | refine g_aload0 (pc := 15) dX10_thickOn_15 ?_ | refine g_aloadN0 (pc := 15) dX10_thickOn_15 ?_
  refine g_getR (pc := 16) (j := 3) cf10 dX10_thickOn_16 fl_RX10_16 (by decide) (by decide) (by first | rfl | assumption) (82) (rfl) ?_
  refine g_bipush (pc := 19) (43) dX10_thickOn_19 (by decide) ?_
  refine g_iload1 (pc := 21) dX10_thickOn_21 ?_
  refine g_imul (pc := 22) dX10_thickOn_22 ?_
  refine g_bipush (pc := 23) (8) dX10_thickOn_23 (by decide) ?_
  refine g_iadd (pc := 25) dX10_thickOn_25 ?_
  refine g_iload2 (pc := 26) dX10_thickOn_26 ?_
  refine g_iadd (pc := 27) dX10_thickOn_27 ?_
  refine g_ialdX (pc := 28) (43 * l + 8 + p) dX10_thickOn_28 (rfl) (ixA (a := 8)) (by have := ln_all; omega) (by decide) ?_
  refine g_istore5 (pc := 29) dX10_thickOn_29 (by decide) (by first | rfl | assumption) ?_
  refine g_iload3 (pc := 31) dX10_thickOn_31 ?_
  refine g_fS1 (pc := 32) (c_X10_across) dX10_thickOn_32 cw_RX10_103 (by decide) (Nat.le_of_ble_eq_true rfl) ?_
  refine g_iload5 (pc := 35) dX10_thickOn_35 ?_
  refine g_imul (pc := 37) dX10_thickOn_37 ?_
  refine g_iload3 (pc := 38) dX10_thickOn_38 ?_
  refine g_fS1 (pc := 39) (c_X10_upward) dX10_thickOn_39 cw_RX10_107 (by decide) (Nat.le_of_ble_eq_true rfl) ?_
  refine g_iload4 (pc := 42) dX10_thickOn_42 ?_
  refine g_imul (pc := 44) dX10_thickOn_44 ?_
  refine g_isub (pc := 45) dX10_thickOn_45 ?_
  refine g_fS1 (pc := 46) (c_X10_size) dX10_thickOn_46 cw_RX10_112 (by decide) (Nat.le_of_ble_eq_true rfl) ?_
  refine g_istore6 (pc := 49) dX10_thickOn_49 (by decide) (by first | rfl | assumption) ?_
  first | refine g_aload0 (pc := 51) dX10_thickOn_51 ?_ | refine g_aloadN0 (pc := 51) dX10_thickOn_51 ?_
  refine g_getR (pc := 52) (j := 1) cf10 dX10_thickOn_52 fl_RX10_7 (by decide) (by decide) (by first | rfl | assumption) (80) (rfl) ?_
  refine g_iload2 (pc := 55) dX10_thickOn_55 ?_
  refine g_ialdX (pc := 56) (p) dX10_thickOn_56 (rfl) (rfl) (by have := ln_all; omega) (by decide) ?_
  refine g_iconst (pc := 57) (1) dX10_thickOn_57 (by decide) ?_
  refine g_icmp_ne (pc := 58) 86 dX10_thickOn_58 (by decide) (fun zh58 => ?_) (fun zh58 => ?_)
  · skip
    first | refine g_aload0 (pc := 86) dX10_thickOn_86 ?_ | refine g_aloadN0 (pc := 86) dX10_thickOn_86 ?_
    refine g_getR (pc := 87) (j := 1) cf10 dX10_thickOn_87 fl_RX10_7 (by decide) (by decide) (by first | rfl | assumption) (80) (rfl) ?_
    refine g_iload2 (pc := 90) dX10_thickOn_90 ?_
    refine g_ialdX (pc := 91) (p) dX10_thickOn_91 (rfl) (rfl) (by have := ln_all; omega) (by decide) ?_
    refine g_iconst (pc := 92) (3) dX10_thickOn_92 (by decide) ?_
    refine g_icmp_ne (pc := 93) 113 dX10_thickOn_93 (by decide) (fun zh93 => ?_) (fun zh93 => ?_)
    · skip
      first | refine g_aload0 (pc := 113) dX10_thickOn_113 ?_ | refine g_aloadN0 (pc := 113) dX10_thickOn_113 ?_
      refine g_getR (pc := 114) (j := 1) cf10 dX10_thickOn_114 fl_RX10_7 (by decide) (by decide) (by first | rfl | assumption) (80) (rfl) ?_
      refine g_iload2 (pc := 117) dX10_thickOn_117 ?_
      refine g_ialdX (pc := 118) (p) dX10_thickOn_118 (rfl) (rfl) (by have := ln_all; omega) (by decide) ?_
      refine g_iconst (pc := 119) (2) dX10_thickOn_119 (by decide) ?_
      refine g_icmp_ne (pc := 120) 130 dX10_thickOn_120 (by decide) (fun zh120 => ?_) (fun zh120 => ?_)
      · skip
        refine g_iload6 (pc := 130) dX10_thickOn_130 ?_
        refine g_iret (pc := 132) dX10_thickOn_132 rfl ?_
        first | exact ⟨congrArg (fun zt => some (Value.int zt)) ((if_pos zh58).trans (if_pos zh65)).symm, rfl, rfl⟩ | exact ⟨congrArg (fun zt => some (Value.int zt)) ((if_pos zh58).trans (if_neg zh65)).symm, rfl, rfl⟩ | exact ⟨congrArg (fun zt => some (Value.int zt)) ((if_neg zh58).trans ((if_pos zh93).trans (if_pos zh101))).symm, rfl, rfl⟩ | exact ⟨congrArg (fun zt => some (Value.int zt)) ((if_neg zh58).trans ((if_pos zh93).trans (if_neg zh101))).symm, rfl, rfl⟩ | exact ⟨congrArg (fun zt => some (Value.int zt)) ((if_neg zh58).trans ((if_neg zh93).trans (if_pos zh120))).symm, rfl, rfl⟩ | exact ⟨congrArg (fun zt => some (Value.int zt)) ((if_neg zh58).trans ((if_neg zh93).trans (if_neg zh120))).symm, rfl, rfl⟩
      · skip
        refine g_iload6 (pc := 123) dX10_thickOn_123 ?_
        refine g_iconst (pc := 125) (1) dX10_thickOn_125 (by decide) ?_
        refine g_iadd (pc := 126) dX10_thickOn_126 ?_
        refine g_goto (pc := 127) 132 dX10_thickOn_127 (by decide) ?_
        refine g_iret (pc := 132) dX10_thickOn_132 rfl ?_
        first | exact ⟨congrArg (fun zt => some (Value.int zt)) ((if_pos zh58).trans (if_pos zh65)).symm, rfl, rfl⟩ | exact ⟨congrArg (fun zt => some (Value.int zt)) ((if_pos zh58).trans (if_neg zh65)).symm, rfl, rfl⟩ | exact ⟨congrArg (fun zt => some (Value.int zt)) ((if_neg zh58).trans ((if_pos zh93).trans (if_pos zh101))).symm, rfl, rfl⟩ | exact ⟨congrArg (fun zt => some (Value.int zt)) ((if_neg zh58).trans ((if_pos zh93).trans (if_neg zh101))).symm, rfl, rfl⟩ | exact ⟨congrArg (fun zt => some (Value.int zt)) ((if_neg zh58).trans ((if_neg zh93).trans (if_pos zh120))).symm, rfl, rfl⟩ | exact ⟨congrArg (fun zt => some (Value.int zt)) ((if_neg zh58).trans ((if_neg zh93).trans (if_neg zh120))).symm, rfl, rfl⟩
    · skip
      refine g_iload6 (pc := 96) dX10_thickOn_96 ?_
      refine g_iconst (pc := 98) (1) dX10_thickOn_98 (by decide) ?_
      refine g_iadd (pc := 99) dX10_thickOn_99 ?_
      refine g_iconst (pc := 100) (2) dX10_thickOn_100 (by decide) ?_
      refine g_icmp_le (pc := 101) 108 dX10_thickOn_101 (by decide) (fun zh101 => ?_) (fun zh101 => ?_)
      · skip
        refine g_iload6 (pc := 108) dX10_thickOn_108 ?_
        refine g_iconst (pc := 110) (1) dX10_thickOn_110 (by decide) ?_
        refine g_iadd (pc := 111) dX10_thickOn_111 ?_
        refine g_iret (pc := 112) dX10_thickOn_112 rfl ?_
        first | exact ⟨congrArg (fun zt => some (Value.int zt)) ((if_pos zh58).trans (if_pos zh65)).symm, rfl, rfl⟩ | exact ⟨congrArg (fun zt => some (Value.int zt)) ((if_pos zh58).trans (if_neg zh65)).symm, rfl, rfl⟩ | exact ⟨congrArg (fun zt => some (Value.int zt)) ((if_neg zh58).trans ((if_pos zh93).trans (if_pos zh101))).symm, rfl, rfl⟩ | exact ⟨congrArg (fun zt => some (Value.int zt)) ((if_neg zh58).trans ((if_pos zh93).trans (if_neg zh101))).symm, rfl, rfl⟩ | exact ⟨congrArg (fun zt => some (Value.int zt)) ((if_neg zh58).trans ((if_neg zh93).trans (if_pos zh120))).symm, rfl, rfl⟩ | exact ⟨congrArg (fun zt => some (Value.int zt)) ((if_neg zh58).trans ((if_neg zh93).trans (if_neg zh120))).symm, rfl, rfl⟩
      · skip
        refine g_iconst (pc := 104) (2) dX10_thickOn_104 (by decide) ?_
        refine g_goto (pc := 105) 112 dX10_thickOn_105 (by decide) ?_
        refine g_iret (pc := 112) dX10_thickOn_112 rfl ?_
        first | exact ⟨congrArg (fun zt => some (Value.int zt)) ((if_pos zh58).trans (if_pos zh65)).symm, rfl, rfl⟩ | exact ⟨congrArg (fun zt => some (Value.int zt)) ((if_pos zh58).trans (if_neg zh65)).symm, rfl, rfl⟩ | exact ⟨congrArg (fun zt => some (Value.int zt)) ((if_neg zh58).trans ((if_pos zh93).trans (if_pos zh101))).symm, rfl, rfl⟩ | exact ⟨congrArg (fun zt => some (Value.int zt)) ((if_neg zh58).trans ((if_pos zh93).trans (if_neg zh101))).symm, rfl, rfl⟩ | exact ⟨congrArg (fun zt => some (Value.int zt)) ((if_neg zh58).trans ((if_neg zh93).trans (if_pos zh120))).symm, rfl, rfl⟩ | exact ⟨congrArg (fun zt => some (Value.int zt)) ((if_neg zh58).trans ((if_neg zh93).trans (if_neg zh120))).symm, rfl, rfl⟩
  · skip
    refine g_iload3 (pc := 61) dX10_thickOn_61 ?_
    refine g_fS1 (pc := 62) (c_X10_upward) dX10_thickOn_62 cw_RX10_107 (by decide) (Nat.le_of_ble_eq_true rfl) ?_
    refine g_if_lt (pc := 65) 72 dX10_thickOn_65 (by decide) (fun zh65 => ?_) (fun zh65 => ?_)
    · skip
      refine g_iconst (pc := 72) (1) dX10_thickOn_72 (by decide) ?_
      refine g_iload4 (pc := 73) dX10_thickOn_73 ?_
      refine g_fS1 (pc := 75) (c_X10_size) dX10_thickOn_75 cw_RX10_112 (by decide) (Nat.le_of_ble_eq_true rfl) ?_
      refine g_iadd (pc := 78) dX10_thickOn_78 ?_
      refine g_iload5 (pc := 79) dX10_thickOn_79 ?_
      refine g_fS1 (pc := 81) (c_X10_size) dX10_thickOn_81 cw_RX10_112 (by decide) (Nat.le_of_ble_eq_true rfl) ?_
      refine g_iadd (pc := 84) dX10_thickOn_84 ?_
      refine g_iret (pc := 85) dX10_thickOn_85 rfl ?_
      first | exact ⟨congrArg (fun zt => some (Value.int zt)) ((if_pos zh58).trans (if_pos zh65)).symm, rfl, rfl⟩ | exact ⟨congrArg (fun zt => some (Value.int zt)) ((if_pos zh58).trans (if_neg zh65)).symm, rfl, rfl⟩ | exact ⟨congrArg (fun zt => some (Value.int zt)) ((if_neg zh58).trans ((if_pos zh93).trans (if_pos zh101))).symm, rfl, rfl⟩ | exact ⟨congrArg (fun zt => some (Value.int zt)) ((if_neg zh58).trans ((if_pos zh93).trans (if_neg zh101))).symm, rfl, rfl⟩ | exact ⟨congrArg (fun zt => some (Value.int zt)) ((if_neg zh58).trans ((if_neg zh93).trans (if_pos zh120))).symm, rfl, rfl⟩ | exact ⟨congrArg (fun zt => some (Value.int zt)) ((if_neg zh58).trans ((if_neg zh93).trans (if_neg zh120))).symm, rfl, rfl⟩
    · skip
      refine g_iconst (pc := 68) (1) dX10_thickOn_68 (by decide) ?_
      refine g_goto (pc := 69) 85 dX10_thickOn_69 (by decide) ?_
      refine g_iret (pc := 85) dX10_thickOn_85 rfl ?_
      first | exact ⟨congrArg (fun zt => some (Value.int zt)) ((if_pos zh58).trans (if_pos zh65)).symm, rfl, rfl⟩ | exact ⟨congrArg (fun zt => some (Value.int zt)) ((if_pos zh58).trans (if_neg zh65)).symm, rfl, rfl⟩ | exact ⟨congrArg (fun zt => some (Value.int zt)) ((if_neg zh58).trans ((if_pos zh93).trans (if_pos zh101))).symm, rfl, rfl⟩ | exact ⟨congrArg (fun zt => some (Value.int zt)) ((if_neg zh58).trans ((if_pos zh93).trans (if_neg zh101))).symm, rfl, rfl⟩ | exact ⟨congrArg (fun zt => some (Value.int zt)) ((if_neg zh58).trans ((if_neg zh93).trans (if_pos zh120))).symm, rfl, rfl⟩ | exact ⟨congrArg (fun zt => some (Value.int zt)) ((if_neg zh58).trans ((if_neg zh93).trans (if_neg zh120))).symm, rfl, rfl⟩
theorem c_X10_canStep {l p n : Nat} {e : Int32} {v : Mm} {L : Lm} (hn : v 79 0 = nI n) (hn4 : n ≤ 4) (hl : l ≤ 1) (hp : p < n) : Fn yX10_canStep cX10_canStep 4 (some .boolean) 2 [.ref 79, .int (nI l), .int (nI p), .int e] v L (some (.int (b01 ((0 ≤ e ∧ e ≤ 7) ∧ ¬ ndF (v 82 (43 * l + p)) e = -9)))) v L := by
  have zi7 : ∀ x : Int32, ((0 : Int64) ≤ x.toInt64 ∧ x.toInt64 ≤ 7) ↔ (0 ≤ x ∧ x ≤ 7) := fun x => inI (y := x) (by decide) (by decide)
  refine Fq.of (plainFor_of_name (by decide)) [some (.ref 79), some (.int (nI l)), some (.int (nI p)), some (.int e)] rfl (Nat.le_of_ble_eq_true rfl) ?_
  first | refine g_aload0 (pc := 0) dX10_canStep_0 ?_ | refine g_aloadN0 (pc := 0) dX10_canStep_0 ?_
  refine g_iload2 (pc := 1) dX10_canStep_1 ?_
  refine g_fV1 (pc := 2) (c_X10_isPen hn hn4) cf10 (by first | rfl | assumption) dX10_canStep_2 cw_RX10_115 (by decide) (Nat.le_of_ble_eq_true rfl) ?_
  refine g_if_eq (pc := 5) 44 dX10_canStep_5 (by decide) (fun zh5 => ?_) (fun zh5 => ?_)
  · skip
    exact absurd ⟨nI_pos' (by omega), nI_lt hp (by omega)⟩ (b01_eq0.mp zh5)
  · skip
    refine g_iload3 (pc := 8) dX10_canStep_8 ?_
    refine g_i2l (pc := 9) dX10_canStep_9 ?_
    refine g_lconst (pc := 10) (0) dX10_canStep_10 (by decide) ?_
    refine g_ldc2 (pc := 11) _ dX10_canStep_11 kc_RX10_98 ?_
    refine g_fS3 (pc := 14) (c_X10_in) dX10_canStep_14 cw_RX10_52 (by decide) (Nat.le_of_ble_eq_true rfl) ?_
    refine g_if_eq (pc := 17) 44 dX10_canStep_17 (by decide) (fun zh17 => ?_) (fun zh17 => ?_)
    · skip
      refine g_iconst (pc := 44) (0) dX10_canStep_44 (by decide) ?_
      refine g_zret (pc := 45) dX10_canStep_45 rfl (by first | exact Or.inl rfl | exact Or.inr rfl | assumption) ?_
      first | (rw [b01_t (⟨(zi7 _).mp (b01_ne0.mp zh17), zh37⟩)]; exact ⟨rfl, rfl, rfl⟩) | (rw [b01_f (fun zq => b01_eq0.mp zh17 ((zi7 _).mpr zq.1))]; exact ⟨rfl, rfl, rfl⟩) | (rw [b01_f (fun zq => zq.2 zh37)]; exact ⟨rfl, rfl, rfl⟩)
    · skip
      first | refine g_aload0 (pc := 20) dX10_canStep_20 ?_ | refine g_aloadN0 (pc := 20) dX10_canStep_20 ?_
      refine g_getR (pc := 21) (j := 3) cf10 dX10_canStep_21 fl_RX10_16 (by decide) (by decide) (by first | rfl | assumption) (82) (rfl) ?_
      refine g_bipush (pc := 24) (43) dX10_canStep_24 (by decide) ?_
      refine g_iload1 (pc := 26) dX10_canStep_26 ?_
      refine g_imul (pc := 27) dX10_canStep_27 ?_
      refine g_iload2 (pc := 28) dX10_canStep_28 ?_
      refine g_iadd (pc := 29) dX10_canStep_29 ?_
      refine g_ialdX (pc := 30) (43 * l + p) dX10_canStep_30 (rfl) (ixB) (by have := ln_all; omega) (by decide) ?_
      refine g_iload3 (pc := 31) dX10_canStep_31 ?_
      refine g_fS2 (pc := 32) (c_X10_nextDot) dX10_canStep_32 cw_RX10_119 (by decide) (Nat.le_of_ble_eq_true rfl) ?_
      refine g_bipush (pc := 35) (-9) dX10_canStep_35 (by decide) ?_
      refine g_icmp_eq (pc := 37) 44 dX10_canStep_37 (by decide) (fun zh37 => ?_) (fun zh37 => ?_)
      · skip
        refine g_iconst (pc := 44) (0) dX10_canStep_44 (by decide) ?_
        refine g_zret (pc := 45) dX10_canStep_45 rfl (by first | exact Or.inl rfl | exact Or.inr rfl | assumption) ?_
        first | (rw [b01_t (⟨(zi7 _).mp (b01_ne0.mp zh17), zh37⟩)]; exact ⟨rfl, rfl, rfl⟩) | (rw [b01_f (fun zq => b01_eq0.mp zh17 ((zi7 _).mpr zq.1))]; exact ⟨rfl, rfl, rfl⟩) | (rw [b01_f (fun zq => zq.2 zh37)]; exact ⟨rfl, rfl, rfl⟩)
      · skip
        refine g_iconst (pc := 40) (1) dX10_canStep_40 (by decide) ?_
        refine g_goto (pc := 41) 45 dX10_canStep_41 (by decide) ?_
        refine g_zret (pc := 45) dX10_canStep_45 rfl (by first | exact Or.inl rfl | exact Or.inr rfl | assumption) ?_
        first | (rw [b01_t (⟨(zi7 _).mp (b01_ne0.mp zh17), zh37⟩)]; exact ⟨rfl, rfl, rfl⟩) | (rw [b01_f (fun zq => b01_eq0.mp zh17 ((zi7 _).mpr zq.1))]; exact ⟨rfl, rfl, rfl⟩) | (rw [b01_f (fun zq => zq.2 zh37)]; exact ⟨rfl, rfl, rfl⟩)
theorem c_X10_canStep_n {n : Nat} {x y e : Int32} {v : Mm} {L : Lm} (hn : v 79 0 = nI n) (hn4 : n ≤ 4) (hp : ¬ (0 ≤ x ∧ x < nI n)) : Fn yX10_canStep cX10_canStep 4 (some .boolean) 2 [.ref 79, .int y, .int x, .int e] v L (some (.int 0)) v L := by
  refine Fq.of (plainFor_of_name (by decide)) [some (.ref 79), some (.int y), some (.int x), some (.int e)] rfl (Nat.le_of_ble_eq_true rfl) ?_
  first | refine g_aload0 (pc := 0) dX10_canStep_0 ?_ | refine g_aloadN0 (pc := 0) dX10_canStep_0 ?_
  refine g_iload2 (pc := 1) dX10_canStep_1 ?_
  refine g_fV1 (pc := 2) (c_X10_isPen hn hn4) cf10 (by first | rfl | assumption) dX10_canStep_2 cw_RX10_115 (by decide) (Nat.le_of_ble_eq_true rfl) ?_
  refine g_if_eq (pc := 5) 44 dX10_canStep_5 (by decide) (fun zh5 => ?_) (fun zh5 => ?_)
  · skip
    refine g_iconst (pc := 44) (0) dX10_canStep_44 (by decide) ?_
    refine g_zret (pc := 45) dX10_canStep_45 rfl (by first | exact Or.inl rfl | exact Or.inr rfl | assumption) ?_
    exact ⟨rfl, rfl, rfl⟩
  · skip
    exact absurd (b01_ne0.mp zh5) hp
theorem c_X10_stepOn {l p q : Nat} {e : Int32} {v : Mm} {L : Lm} (hl : l ≤ 1) (hp : p < 4) (hq25 : q < 25) (hq : ndF (v 82 (43 * l + p)) e = nI q) : Fn yX10_stepOn cX10_stepOn 9 (some .int) 2 [.ref 79, .int (nI l), .int (nI p), .int e] v L (some (.int (msL v l p e))) (msV v l p e) L := by
  have zc : (ndF (v 82 (43 * l + p)) e).toNatClampNeg = q := by rw [hq]; exact nI_clamp (by omega)
  refine Fq.of (plainFor_of_name (by decide)) [some (.ref 79), some (.int (nI l)), some (.int (nI p)), some (.int e), none, none, none, none, none] rfl (Nat.le_of_ble_eq_true rfl) ?_
  refine g_bipush (pc := 0) (43) dX10_stepOn_0 (by decide) ?_
  refine g_iload1 (pc := 2) dX10_stepOn_2 ?_
  refine g_imul (pc := 3) dX10_stepOn_3 ?_
  refine g_istore4 (pc := 4) dX10_stepOn_4 (by decide) (by first | rfl | assumption) ?_
  first | refine g_aload0 (pc := 6) dX10_stepOn_6 ?_ | refine g_aloadN0 (pc := 6) dX10_stepOn_6 ?_
  refine g_iload1 (pc := 7) dX10_stepOn_7 ?_
  refine g_iload2 (pc := 8) dX10_stepOn_8 ?_
  refine g_iload3 (pc := 9) dX10_stepOn_9 ?_
  refine g_fV3 (pc := 10) (c_X10_thickOn hl hp) cf10 (by first | rfl | assumption) dX10_stepOn_10 cw_RX10_122 (by decide) (Nat.le_of_ble_eq_true rfl) ?_
  refine g_istore5 (pc := 13) dX10_stepOn_13 (by decide) (by first | rfl | assumption) ?_
  first | refine g_aload0 (pc := 15) dX10_stepOn_15 ?_ | refine g_aloadN0 (pc := 15) dX10_stepOn_15 ?_
  refine g_getR (pc := 16) (j := 3) cf10 dX10_stepOn_16 fl_RX10_16 (by decide) (by decide) (by first | rfl | assumption) (82) (rfl) ?_
  refine g_iload4 (pc := 19) dX10_stepOn_19 ?_
  refine g_iload2 (pc := 21) dX10_stepOn_21 ?_
  refine g_iadd (pc := 22) dX10_stepOn_22 ?_
  refine g_ialdX (pc := 23) (43 * l + p) dX10_stepOn_23 (rfl) (ixB) (by have := ln_all; omega) (by decide) ?_
  refine g_iload3 (pc := 24) dX10_stepOn_24 ?_
  refine g_fS2 (pc := 25) (c_X10_nextDot) dX10_stepOn_25 cw_RX10_119 (by decide) (Nat.le_of_ble_eq_true rfl) ?_
  refine g_istore6 (pc := 28) dX10_stepOn_28 (by decide) (by first | rfl | assumption) ?_
  first | refine g_aload0 (pc := 30) dX10_stepOn_30 ?_ | refine g_aloadN0 (pc := 30) dX10_stepOn_30 ?_
  refine g_getR (pc := 31) (j := 3) cf10 dX10_stepOn_31 fl_RX10_16 (by decide) (by decide) (by first | rfl | assumption) (82) (rfl) ?_
  refine g_iload4 (pc := 34) dX10_stepOn_34 ?_
  refine g_bipush (pc := 36) (16) dX10_stepOn_36 (by decide) ?_
  refine g_iadd (pc := 38) dX10_stepOn_38 ?_
  refine g_ialdX (pc := 39) (43 * l + 16) dX10_stepOn_39 (rfl) (ixB (a := 16)) (by have := ln_all; omega) (by decide) ?_
  refine g_iload2 (pc := 40) dX10_stepOn_40 ?_
  refine g_fS2 (pc := 41) (c_X10_has) dX10_stepOn_41 cw_RX10_126 (by decide) (Nat.le_of_ble_eq_true rfl) ?_
  refine g_if_ne (pc := 44) 51 dX10_stepOn_44 (by decide) (fun zh44 => ?_) (fun zh44 => ?_)
  · skip
    refine g_iload5 (pc := 51) dX10_stepOn_51 ?_
    first | refine g_aload0 (pc := 53) dX10_stepOn_53 ?_ | refine g_aloadN0 (pc := 53) dX10_stepOn_53 ?_
    refine g_getR (pc := 54) (j := 3) cf10 dX10_stepOn_54 fl_RX10_16 (by decide) (by decide) (by first | rfl | assumption) (82) (rfl) ?_
    refine g_iload4 (pc := 57) dX10_stepOn_57 ?_
    refine g_bipush (pc := 59) (12) dX10_stepOn_59 (by decide) ?_
    refine g_iadd (pc := 61) dX10_stepOn_61 ?_
    refine g_iload2 (pc := 62) dX10_stepOn_62 ?_
    refine g_iadd (pc := 63) dX10_stepOn_63 ?_
    refine g_ialdX (pc := 64) (43 * l + 12 + p) dX10_stepOn_64 (rfl) (ixA (a := 12)) (by have := ln_all; omega) (by decide) ?_
    refine g_icmp_ge (pc := 65) 73 dX10_stepOn_65 (by decide) (fun zh65 => ?_) (fun zh65 => ?_)
    · skip
      first | refine g_aload0 (pc := 73) dX10_stepOn_73 ?_ | refine g_aloadN0 (pc := 73) dX10_stepOn_73 ?_
      refine g_getR (pc := 74) (j := 3) cf10 dX10_stepOn_74 fl_RX10_16 (by decide) (by decide) (by first | rfl | assumption) (82) (rfl) ?_
      refine g_iload4 (pc := 77) dX10_stepOn_77 ?_
      refine g_bipush (pc := 79) (12) dX10_stepOn_79 (by decide) ?_
      refine g_iadd (pc := 81) dX10_stepOn_81 ?_
      refine g_iload2 (pc := 82) dX10_stepOn_82 ?_
      refine g_iadd (pc := 83) dX10_stepOn_83 ?_
      refine g_ialdX (pc := 84) (43 * l + 12 + p) dX10_stepOn_84 (rfl) (ixA (a := 12)) (by have := ln_all; omega) (by decide) ?_
      first
        | (have zl : msL v l p e = 0 := if_neg (b01_eq0.mp zh44); rw [← zl])
        | (have zl : msL v l p e = thM v l p e := (if_pos (b01_ne0.mp zh44)).trans (if_neg zh65); rw [← zl])
        | (have zl : msL v l p e = v 82 (43 * l + 12 + p) := (if_pos (b01_ne0.mp zh44)).trans (if_pos zh65); rw [← zl])
      refine g_istore7 (pc := 85) dX10_stepOn_85 (by decide) (by first | rfl | assumption) ?_
      first | refine g_aload0 (pc := 87) dX10_stepOn_87 ?_ | refine g_aloadN0 (pc := 87) dX10_stepOn_87 ?_
      refine g_getR (pc := 88) (j := 3) cf10 dX10_stepOn_88 fl_RX10_16 (by decide) (by decide) (by first | rfl | assumption) (82) (rfl) ?_
      refine g_iload4 (pc := 91) dX10_stepOn_91 ?_
      refine g_iload2 (pc := 93) dX10_stepOn_93 ?_
      refine g_iadd (pc := 94) dX10_stepOn_94 ?_
      refine g_iload6 (pc := 95) dX10_stepOn_95 ?_
      refine g_iastX (pc := 97) (43 * l + p) dX10_stepOn_97 (rfl) (ixB) (by have := ln_all; omega) (by decide) ?_
      first | refine g_aload0 (pc := 98) dX10_stepOn_98 ?_ | refine g_aloadN0 (pc := 98) dX10_stepOn_98 ?_
      refine g_getR (pc := 99) (j := 3) cf10 dX10_stepOn_99 fl_RX10_16 (by decide) (by decide) (by first | rfl | assumption) (82) (rfl) ?_
      refine g_iload4 (pc := 102) dX10_stepOn_102 ?_
      refine g_bipush (pc := 104) (12) dX10_stepOn_104 (by decide) ?_
      refine g_iadd (pc := 106) dX10_stepOn_106 ?_
      refine g_iload2 (pc := 107) dX10_stepOn_107 ?_
      refine g_iadd (pc := 108) dX10_stepOn_108 ?_
      refine g_dup2 (pc := 109) dX10_stepOn_109 rfl rfl ?_
      refine g_ialdX (pc := 110) (43 * l + 12 + p) dX10_stepOn_110 (rfl) (ixA (a := 12)) (by have := ln_all; omega) (by decide) ?_
      refine g_iload7 (pc := 111) dX10_stepOn_111 ?_
      refine g_isub (pc := 113) dX10_stepOn_113 ?_
      refine g_iastX (pc := 114) (43 * l + 12 + p) dX10_stepOn_114 (rfl) (ixA (a := 12)) (by have := ln_all; omega) (by decide) ?_
      first | refine g_aload0 (pc := 115) dX10_stepOn_115 ?_ | refine g_aloadN0 (pc := 115) dX10_stepOn_115 ?_
      refine g_getR (pc := 116) (j := 3) cf10 dX10_stepOn_116 fl_RX10_16 (by decide) (by decide) (by first | rfl | assumption) (82) (rfl) ?_
      refine g_iload4 (pc := 119) dX10_stepOn_119 ?_
      refine g_bipush (pc := 121) (18) dX10_stepOn_121 (by decide) ?_
      refine g_iadd (pc := 123) dX10_stepOn_123 ?_
      refine g_iload6 (pc := 124) dX10_stepOn_124 ?_
      refine g_iadd (pc := 126) dX10_stepOn_126 ?_
      refine g_ialdX (pc := 127) (43 * l + 18 + q) dX10_stepOn_127 (rfl) (by rw [hq]; exact ixA (a := 18)) (by have := ln_all; omega) (by decide) ?_
      refine g_iload7 (pc := 128) dX10_stepOn_128 ?_
      refine g_iadd (pc := 130) dX10_stepOn_130 ?_
      refine g_istore8 (pc := 131) dX10_stepOn_131 (by decide) (by first | rfl | assumption) ?_
      first | refine g_aload0 (pc := 133) dX10_stepOn_133 ?_ | refine g_aloadN0 (pc := 133) dX10_stepOn_133 ?_
      refine g_getR (pc := 134) (j := 3) cf10 dX10_stepOn_134 fl_RX10_16 (by decide) (by decide) (by first | rfl | assumption) (82) (rfl) ?_
      refine g_iload4 (pc := 137) dX10_stepOn_137 ?_
      refine g_bipush (pc := 139) (18) dX10_stepOn_139 (by decide) ?_
      refine g_iadd (pc := 141) dX10_stepOn_141 ?_
      refine g_iload6 (pc := 142) dX10_stepOn_142 ?_
      refine g_iadd (pc := 144) dX10_stepOn_144 ?_
      refine g_iload8 (pc := 145) dX10_stepOn_145 ?_
      refine g_bipush (pc := 147) (99) dX10_stepOn_147 (by decide) ?_
      refine g_icmp_le (pc := 149) 157 dX10_stepOn_149 (by decide) (fun zh149 => ?_) (fun zh149 => ?_)
      · skip
        refine g_iload8 (pc := 157) dX10_stepOn_157 ?_
        refine g_iastX (pc := 159) (43 * l + 18 + q) dX10_stepOn_159 (rfl) (by rw [hq]; exact ixA (a := 18)) (by have := ln_all; omega) (by decide) ?_
        first | refine g_aload0 (pc := 160) dX10_stepOn_160 ?_ | refine g_aloadN0 (pc := 160) dX10_stepOn_160 ?_
        refine g_getR (pc := 161) (j := 3) cf10 dX10_stepOn_161 fl_RX10_16 (by decide) (by decide) (by first | rfl | assumption) (82) (rfl) ?_
        refine g_iload4 (pc := 164) dX10_stepOn_164 ?_
        refine g_bipush (pc := 166) (17) dX10_stepOn_166 (by decide) ?_
        refine g_iadd (pc := 168) dX10_stepOn_168 ?_
        refine g_dup2 (pc := 169) dX10_stepOn_169 rfl rfl ?_
        refine g_ialdX (pc := 170) (43 * l + 17) dX10_stepOn_170 (rfl) (ixB (a := 17)) (by have := ln_all; omega) (by decide) ?_
        refine g_iconst (pc := 171) (1) dX10_stepOn_171 (by decide) ?_
        refine g_iadd (pc := 172) dX10_stepOn_172 ?_
        refine g_iastX (pc := 173) (43 * l + 17) dX10_stepOn_173 (rfl) (ixB (a := 17)) (by have := ln_all; omega) (by decide) ?_
        refine g_iload7 (pc := 174) dX10_stepOn_174 ?_
        refine g_iret (pc := 176) dX10_stepOn_176 rfl ?_
        refine ⟨rfl, ?_, rfl⟩
        unfold msV
        simp only [zc]
        first | (rw [if_pos zh149]) | (rw [if_neg zh149])
      · skip
        refine g_bipush (pc := 152) (99) dX10_stepOn_152 (by decide) ?_
        refine g_goto (pc := 154) 159 dX10_stepOn_154 (by decide) ?_
        refine g_iastX (pc := 159) (43 * l + 18 + q) dX10_stepOn_159 (rfl) (by rw [hq]; exact ixA (a := 18)) (by have := ln_all; omega) (by decide) ?_
        first | refine g_aload0 (pc := 160) dX10_stepOn_160 ?_ | refine g_aloadN0 (pc := 160) dX10_stepOn_160 ?_
        refine g_getR (pc := 161) (j := 3) cf10 dX10_stepOn_161 fl_RX10_16 (by decide) (by decide) (by first | rfl | assumption) (82) (rfl) ?_
        refine g_iload4 (pc := 164) dX10_stepOn_164 ?_
        refine g_bipush (pc := 166) (17) dX10_stepOn_166 (by decide) ?_
        refine g_iadd (pc := 168) dX10_stepOn_168 ?_
        refine g_dup2 (pc := 169) dX10_stepOn_169 rfl rfl ?_
        refine g_ialdX (pc := 170) (43 * l + 17) dX10_stepOn_170 (rfl) (ixB (a := 17)) (by have := ln_all; omega) (by decide) ?_
        refine g_iconst (pc := 171) (1) dX10_stepOn_171 (by decide) ?_
        refine g_iadd (pc := 172) dX10_stepOn_172 ?_
        refine g_iastX (pc := 173) (43 * l + 17) dX10_stepOn_173 (rfl) (ixB (a := 17)) (by have := ln_all; omega) (by decide) ?_
        refine g_iload7 (pc := 174) dX10_stepOn_174 ?_
        refine g_iret (pc := 176) dX10_stepOn_176 rfl ?_
        refine ⟨rfl, ?_, rfl⟩
        unfold msV
        simp only [zc]
        first | (rw [if_pos zh149]) | (rw [if_neg zh149])
    · skip
      refine g_iload5 (pc := 68) dX10_stepOn_68 ?_
      refine g_goto (pc := 70) 85 dX10_stepOn_70 (by decide) ?_
      first
        | (have zl : msL v l p e = 0 := if_neg (b01_eq0.mp zh44); rw [← zl])
        | (have zl : msL v l p e = thM v l p e := (if_pos (b01_ne0.mp zh44)).trans (if_neg zh65); rw [← zl])
        | (have zl : msL v l p e = v 82 (43 * l + 12 + p) := (if_pos (b01_ne0.mp zh44)).trans (if_pos zh65); rw [← zl])
      refine g_istore7 (pc := 85) dX10_stepOn_85 (by decide) (by first | rfl | assumption) ?_
      first | refine g_aload0 (pc := 87) dX10_stepOn_87 ?_ | refine g_aloadN0 (pc := 87) dX10_stepOn_87 ?_
      refine g_getR (pc := 88) (j := 3) cf10 dX10_stepOn_88 fl_RX10_16 (by decide) (by decide) (by first | rfl | assumption) (82) (rfl) ?_
      refine g_iload4 (pc := 91) dX10_stepOn_91 ?_
      refine g_iload2 (pc := 93) dX10_stepOn_93 ?_
      refine g_iadd (pc := 94) dX10_stepOn_94 ?_
      refine g_iload6 (pc := 95) dX10_stepOn_95 ?_
      refine g_iastX (pc := 97) (43 * l + p) dX10_stepOn_97 (rfl) (ixB) (by have := ln_all; omega) (by decide) ?_
      first | refine g_aload0 (pc := 98) dX10_stepOn_98 ?_ | refine g_aloadN0 (pc := 98) dX10_stepOn_98 ?_
      refine g_getR (pc := 99) (j := 3) cf10 dX10_stepOn_99 fl_RX10_16 (by decide) (by decide) (by first | rfl | assumption) (82) (rfl) ?_
      refine g_iload4 (pc := 102) dX10_stepOn_102 ?_
      refine g_bipush (pc := 104) (12) dX10_stepOn_104 (by decide) ?_
      refine g_iadd (pc := 106) dX10_stepOn_106 ?_
      refine g_iload2 (pc := 107) dX10_stepOn_107 ?_
      refine g_iadd (pc := 108) dX10_stepOn_108 ?_
      refine g_dup2 (pc := 109) dX10_stepOn_109 rfl rfl ?_
      refine g_ialdX (pc := 110) (43 * l + 12 + p) dX10_stepOn_110 (rfl) (ixA (a := 12)) (by have := ln_all; omega) (by decide) ?_
      refine g_iload7 (pc := 111) dX10_stepOn_111 ?_
      refine g_isub (pc := 113) dX10_stepOn_113 ?_
      refine g_iastX (pc := 114) (43 * l + 12 + p) dX10_stepOn_114 (rfl) (ixA (a := 12)) (by have := ln_all; omega) (by decide) ?_
      first | refine g_aload0 (pc := 115) dX10_stepOn_115 ?_ | refine g_aloadN0 (pc := 115) dX10_stepOn_115 ?_
      refine g_getR (pc := 116) (j := 3) cf10 dX10_stepOn_116 fl_RX10_16 (by decide) (by decide) (by first | rfl | assumption) (82) (rfl) ?_
      refine g_iload4 (pc := 119) dX10_stepOn_119 ?_
      refine g_bipush (pc := 121) (18) dX10_stepOn_121 (by decide) ?_
      refine g_iadd (pc := 123) dX10_stepOn_123 ?_
      refine g_iload6 (pc := 124) dX10_stepOn_124 ?_
      refine g_iadd (pc := 126) dX10_stepOn_126 ?_
      refine g_ialdX (pc := 127) (43 * l + 18 + q) dX10_stepOn_127 (rfl) (by rw [hq]; exact ixA (a := 18)) (by have := ln_all; omega) (by decide) ?_
      refine g_iload7 (pc := 128) dX10_stepOn_128 ?_
      refine g_iadd (pc := 130) dX10_stepOn_130 ?_
      refine g_istore8 (pc := 131) dX10_stepOn_131 (by decide) (by first | rfl | assumption) ?_
      first | refine g_aload0 (pc := 133) dX10_stepOn_133 ?_ | refine g_aloadN0 (pc := 133) dX10_stepOn_133 ?_
      refine g_getR (pc := 134) (j := 3) cf10 dX10_stepOn_134 fl_RX10_16 (by decide) (by decide) (by first | rfl | assumption) (82) (rfl) ?_
      refine g_iload4 (pc := 137) dX10_stepOn_137 ?_
      refine g_bipush (pc := 139) (18) dX10_stepOn_139 (by decide) ?_
      refine g_iadd (pc := 141) dX10_stepOn_141 ?_
      refine g_iload6 (pc := 142) dX10_stepOn_142 ?_
      refine g_iadd (pc := 144) dX10_stepOn_144 ?_
      refine g_iload8 (pc := 145) dX10_stepOn_145 ?_
      refine g_bipush (pc := 147) (99) dX10_stepOn_147 (by decide) ?_
      refine g_icmp_le (pc := 149) 157 dX10_stepOn_149 (by decide) (fun zh149 => ?_) (fun zh149 => ?_)
      · skip
        refine g_iload8 (pc := 157) dX10_stepOn_157 ?_
        refine g_iastX (pc := 159) (43 * l + 18 + q) dX10_stepOn_159 (rfl) (by rw [hq]; exact ixA (a := 18)) (by have := ln_all; omega) (by decide) ?_
        first | refine g_aload0 (pc := 160) dX10_stepOn_160 ?_ | refine g_aloadN0 (pc := 160) dX10_stepOn_160 ?_
        refine g_getR (pc := 161) (j := 3) cf10 dX10_stepOn_161 fl_RX10_16 (by decide) (by decide) (by first | rfl | assumption) (82) (rfl) ?_
        refine g_iload4 (pc := 164) dX10_stepOn_164 ?_
        refine g_bipush (pc := 166) (17) dX10_stepOn_166 (by decide) ?_
        refine g_iadd (pc := 168) dX10_stepOn_168 ?_
        refine g_dup2 (pc := 169) dX10_stepOn_169 rfl rfl ?_
        refine g_ialdX (pc := 170) (43 * l + 17) dX10_stepOn_170 (rfl) (ixB (a := 17)) (by have := ln_all; omega) (by decide) ?_
        refine g_iconst (pc := 171) (1) dX10_stepOn_171 (by decide) ?_
        refine g_iadd (pc := 172) dX10_stepOn_172 ?_
        refine g_iastX (pc := 173) (43 * l + 17) dX10_stepOn_173 (rfl) (ixB (a := 17)) (by have := ln_all; omega) (by decide) ?_
        refine g_iload7 (pc := 174) dX10_stepOn_174 ?_
        refine g_iret (pc := 176) dX10_stepOn_176 rfl ?_
        refine ⟨rfl, ?_, rfl⟩
        unfold msV
        simp only [zc]
        first | (rw [if_pos zh149]) | (rw [if_neg zh149])
      · skip
        refine g_bipush (pc := 152) (99) dX10_stepOn_152 (by decide) ?_
        refine g_goto (pc := 154) 159 dX10_stepOn_154 (by decide) ?_
        refine g_iastX (pc := 159) (43 * l + 18 + q) dX10_stepOn_159 (rfl) (by rw [hq]; exact ixA (a := 18)) (by have := ln_all; omega) (by decide) ?_
        first | refine g_aload0 (pc := 160) dX10_stepOn_160 ?_ | refine g_aloadN0 (pc := 160) dX10_stepOn_160 ?_
        refine g_getR (pc := 161) (j := 3) cf10 dX10_stepOn_161 fl_RX10_16 (by decide) (by decide) (by first | rfl | assumption) (82) (rfl) ?_
        refine g_iload4 (pc := 164) dX10_stepOn_164 ?_
        refine g_bipush (pc := 166) (17) dX10_stepOn_166 (by decide) ?_
        refine g_iadd (pc := 168) dX10_stepOn_168 ?_
        refine g_dup2 (pc := 169) dX10_stepOn_169 rfl rfl ?_
        refine g_ialdX (pc := 170) (43 * l + 17) dX10_stepOn_170 (rfl) (ixB (a := 17)) (by have := ln_all; omega) (by decide) ?_
        refine g_iconst (pc := 171) (1) dX10_stepOn_171 (by decide) ?_
        refine g_iadd (pc := 172) dX10_stepOn_172 ?_
        refine g_iastX (pc := 173) (43 * l + 17) dX10_stepOn_173 (rfl) (ixB (a := 17)) (by have := ln_all; omega) (by decide) ?_
        refine g_iload7 (pc := 174) dX10_stepOn_174 ?_
        refine g_iret (pc := 176) dX10_stepOn_176 rfl ?_
        refine ⟨rfl, ?_, rfl⟩
        unfold msV
        simp only [zc]
        first | (rw [if_pos zh149]) | (rw [if_neg zh149])
  · skip
    refine g_iconst (pc := 47) (0) dX10_stepOn_47 (by decide) ?_
    refine g_goto (pc := 48) 85 dX10_stepOn_48 (by decide) ?_
    first
      | (have zl : msL v l p e = 0 := if_neg (b01_eq0.mp zh44); rw [← zl])
      | (have zl : msL v l p e = thM v l p e := (if_pos (b01_ne0.mp zh44)).trans (if_neg zh65); rw [← zl])
      | (have zl : msL v l p e = v 82 (43 * l + 12 + p) := (if_pos (b01_ne0.mp zh44)).trans (if_pos zh65); rw [← zl])
    refine g_istore7 (pc := 85) dX10_stepOn_85 (by decide) (by first | rfl | assumption) ?_
    first | refine g_aload0 (pc := 87) dX10_stepOn_87 ?_ | refine g_aloadN0 (pc := 87) dX10_stepOn_87 ?_
    refine g_getR (pc := 88) (j := 3) cf10 dX10_stepOn_88 fl_RX10_16 (by decide) (by decide) (by first | rfl | assumption) (82) (rfl) ?_
    refine g_iload4 (pc := 91) dX10_stepOn_91 ?_
    refine g_iload2 (pc := 93) dX10_stepOn_93 ?_
    refine g_iadd (pc := 94) dX10_stepOn_94 ?_
    refine g_iload6 (pc := 95) dX10_stepOn_95 ?_
    refine g_iastX (pc := 97) (43 * l + p) dX10_stepOn_97 (rfl) (ixB) (by have := ln_all; omega) (by decide) ?_
    first | refine g_aload0 (pc := 98) dX10_stepOn_98 ?_ | refine g_aloadN0 (pc := 98) dX10_stepOn_98 ?_
    refine g_getR (pc := 99) (j := 3) cf10 dX10_stepOn_99 fl_RX10_16 (by decide) (by decide) (by first | rfl | assumption) (82) (rfl) ?_
    refine g_iload4 (pc := 102) dX10_stepOn_102 ?_
    refine g_bipush (pc := 104) (12) dX10_stepOn_104 (by decide) ?_
    refine g_iadd (pc := 106) dX10_stepOn_106 ?_
    refine g_iload2 (pc := 107) dX10_stepOn_107 ?_
    refine g_iadd (pc := 108) dX10_stepOn_108 ?_
    refine g_dup2 (pc := 109) dX10_stepOn_109 rfl rfl ?_
    refine g_ialdX (pc := 110) (43 * l + 12 + p) dX10_stepOn_110 (rfl) (ixA (a := 12)) (by have := ln_all; omega) (by decide) ?_
    refine g_iload7 (pc := 111) dX10_stepOn_111 ?_
    refine g_isub (pc := 113) dX10_stepOn_113 ?_
    refine g_iastX (pc := 114) (43 * l + 12 + p) dX10_stepOn_114 (rfl) (ixA (a := 12)) (by have := ln_all; omega) (by decide) ?_
    first | refine g_aload0 (pc := 115) dX10_stepOn_115 ?_ | refine g_aloadN0 (pc := 115) dX10_stepOn_115 ?_
    refine g_getR (pc := 116) (j := 3) cf10 dX10_stepOn_116 fl_RX10_16 (by decide) (by decide) (by first | rfl | assumption) (82) (rfl) ?_
    refine g_iload4 (pc := 119) dX10_stepOn_119 ?_
    refine g_bipush (pc := 121) (18) dX10_stepOn_121 (by decide) ?_
    refine g_iadd (pc := 123) dX10_stepOn_123 ?_
    refine g_iload6 (pc := 124) dX10_stepOn_124 ?_
    refine g_iadd (pc := 126) dX10_stepOn_126 ?_
    refine g_ialdX (pc := 127) (43 * l + 18 + q) dX10_stepOn_127 (rfl) (by rw [hq]; exact ixA (a := 18)) (by have := ln_all; omega) (by decide) ?_
    refine g_iload7 (pc := 128) dX10_stepOn_128 ?_
    refine g_iadd (pc := 130) dX10_stepOn_130 ?_
    refine g_istore8 (pc := 131) dX10_stepOn_131 (by decide) (by first | rfl | assumption) ?_
    first | refine g_aload0 (pc := 133) dX10_stepOn_133 ?_ | refine g_aloadN0 (pc := 133) dX10_stepOn_133 ?_
    refine g_getR (pc := 134) (j := 3) cf10 dX10_stepOn_134 fl_RX10_16 (by decide) (by decide) (by first | rfl | assumption) (82) (rfl) ?_
    refine g_iload4 (pc := 137) dX10_stepOn_137 ?_
    refine g_bipush (pc := 139) (18) dX10_stepOn_139 (by decide) ?_
    refine g_iadd (pc := 141) dX10_stepOn_141 ?_
    refine g_iload6 (pc := 142) dX10_stepOn_142 ?_
    refine g_iadd (pc := 144) dX10_stepOn_144 ?_
    refine g_iload8 (pc := 145) dX10_stepOn_145 ?_
    refine g_bipush (pc := 147) (99) dX10_stepOn_147 (by decide) ?_
    refine g_icmp_le (pc := 149) 157 dX10_stepOn_149 (by decide) (fun zh149 => ?_) (fun zh149 => ?_)
    · skip
      refine g_iload8 (pc := 157) dX10_stepOn_157 ?_
      refine g_iastX (pc := 159) (43 * l + 18 + q) dX10_stepOn_159 (rfl) (by rw [hq]; exact ixA (a := 18)) (by have := ln_all; omega) (by decide) ?_
      first | refine g_aload0 (pc := 160) dX10_stepOn_160 ?_ | refine g_aloadN0 (pc := 160) dX10_stepOn_160 ?_
      refine g_getR (pc := 161) (j := 3) cf10 dX10_stepOn_161 fl_RX10_16 (by decide) (by decide) (by first | rfl | assumption) (82) (rfl) ?_
      refine g_iload4 (pc := 164) dX10_stepOn_164 ?_
      refine g_bipush (pc := 166) (17) dX10_stepOn_166 (by decide) ?_
      refine g_iadd (pc := 168) dX10_stepOn_168 ?_
      refine g_dup2 (pc := 169) dX10_stepOn_169 rfl rfl ?_
      refine g_ialdX (pc := 170) (43 * l + 17) dX10_stepOn_170 (rfl) (ixB (a := 17)) (by have := ln_all; omega) (by decide) ?_
      refine g_iconst (pc := 171) (1) dX10_stepOn_171 (by decide) ?_
      refine g_iadd (pc := 172) dX10_stepOn_172 ?_
      refine g_iastX (pc := 173) (43 * l + 17) dX10_stepOn_173 (rfl) (ixB (a := 17)) (by have := ln_all; omega) (by decide) ?_
      refine g_iload7 (pc := 174) dX10_stepOn_174 ?_
      refine g_iret (pc := 176) dX10_stepOn_176 rfl ?_
      refine ⟨rfl, ?_, rfl⟩
      unfold msV
      simp only [zc]
      first | (rw [if_pos zh149]) | (rw [if_neg zh149])
    · skip
      refine g_bipush (pc := 152) (99) dX10_stepOn_152 (by decide) ?_
      refine g_goto (pc := 154) 159 dX10_stepOn_154 (by decide) ?_
      refine g_iastX (pc := 159) (43 * l + 18 + q) dX10_stepOn_159 (rfl) (by rw [hq]; exact ixA (a := 18)) (by have := ln_all; omega) (by decide) ?_
      first | refine g_aload0 (pc := 160) dX10_stepOn_160 ?_ | refine g_aloadN0 (pc := 160) dX10_stepOn_160 ?_
      refine g_getR (pc := 161) (j := 3) cf10 dX10_stepOn_161 fl_RX10_16 (by decide) (by decide) (by first | rfl | assumption) (82) (rfl) ?_
      refine g_iload4 (pc := 164) dX10_stepOn_164 ?_
      refine g_bipush (pc := 166) (17) dX10_stepOn_166 (by decide) ?_
      refine g_iadd (pc := 168) dX10_stepOn_168 ?_
      refine g_dup2 (pc := 169) dX10_stepOn_169 rfl rfl ?_
      refine g_ialdX (pc := 170) (43 * l + 17) dX10_stepOn_170 (rfl) (ixB (a := 17)) (by have := ln_all; omega) (by decide) ?_
      refine g_iconst (pc := 171) (1) dX10_stepOn_171 (by decide) ?_
      refine g_iadd (pc := 172) dX10_stepOn_172 ?_
      refine g_iastX (pc := 173) (43 * l + 17) dX10_stepOn_173 (rfl) (ixB (a := 17)) (by have := ln_all; omega) (by decide) ?_
      refine g_iload7 (pc := 174) dX10_stepOn_174 ?_
      refine g_iret (pc := 176) dX10_stepOn_176 rfl ?_
      refine ⟨rfl, ?_, rfl⟩
      unfold msV
      simp only [zc]
      first | (rw [if_pos zh149]) | (rw [if_neg zh149])
theorem c_X10_turnOn {l p : Nat} {v : Mm} {L : Lm} (hl : l ≤ 1) (hp : p < 4) : Fn yX10_turnOn cX10_turnOn 5 none 0 [.ref 79, .int (nI l), .int (nI p)] v L none (tuV v l p) L := by
  refine Fq.of (plainFor_of_name (by decide)) [some (.ref 79), some (.int (nI l)), some (.int (nI p)), none, none] rfl (Nat.le_of_ble_eq_true rfl) ?_
  refine g_bipush (pc := 0) (43) dX10_turnOn_0 (by decide) ?_
  refine g_iload1 (pc := 2) dX10_turnOn_2 ?_
  refine g_imul (pc := 3) dX10_turnOn_3 ?_
  refine g_istore3 (pc := 4) dX10_turnOn_4 (by decide) (by first | rfl | assumption) ?_
  first | refine g_aload0 (pc := 5) dX10_turnOn_5 ?_ | refine g_aloadN0 (pc := 5) dX10_turnOn_5 ?_
  refine g_getR (pc := 6) (j := 3) cf10 dX10_turnOn_6 fl_RX10_16 (by decide) (by decide) (by first | rfl | assumption) (82) (rfl) ?_
  refine g_iload3 (pc := 9) dX10_turnOn_9 ?_
  refine g_iconst (pc := 10) (4) dX10_turnOn_10 (by decide) ?_
  refine g_iadd (pc := 11) dX10_turnOn_11 ?_
  refine g_iload2 (pc := 12) dX10_turnOn_12 ?_
  refine g_iadd (pc := 13) dX10_turnOn_13 ?_
  refine g_ialdX (pc := 14) (43 * l + 4 + p) dX10_turnOn_14 (rfl) (ixA (a := 4)) (by have := ln_all; omega) (by decide) ?_
  refine g_istore4 (pc := 15) dX10_turnOn_15 (by decide) (by first | rfl | assumption) ?_
  first | refine g_aload0 (pc := 17) dX10_turnOn_17 ?_ | refine g_aloadN0 (pc := 17) dX10_turnOn_17 ?_
  refine g_getR (pc := 18) (j := 3) cf10 dX10_turnOn_18 fl_RX10_16 (by decide) (by decide) (by first | rfl | assumption) (82) (rfl) ?_
  refine g_iload3 (pc := 21) dX10_turnOn_21 ?_
  refine g_iconst (pc := 22) (4) dX10_turnOn_22 (by decide) ?_
  refine g_iadd (pc := 23) dX10_turnOn_23 ?_
  refine g_iload2 (pc := 24) dX10_turnOn_24 ?_
  refine g_iadd (pc := 25) dX10_turnOn_25 ?_
  first | refine g_aload0 (pc := 26) dX10_turnOn_26 ?_ | refine g_aloadN0 (pc := 26) dX10_turnOn_26 ?_
  refine g_getR (pc := 27) (j := 3) cf10 dX10_turnOn_27 fl_RX10_16 (by decide) (by decide) (by first | rfl | assumption) (82) (rfl) ?_
  refine g_iload3 (pc := 30) dX10_turnOn_30 ?_
  refine g_bipush (pc := 31) (8) dX10_turnOn_31 (by decide) ?_
  refine g_iadd (pc := 33) dX10_turnOn_33 ?_
  refine g_iload2 (pc := 34) dX10_turnOn_34 ?_
  refine g_iadd (pc := 35) dX10_turnOn_35 ?_
  refine g_ialdX (pc := 36) (43 * l + 8 + p) dX10_turnOn_36 (rfl) (ixA (a := 8)) (by have := ln_all; omega) (by decide) ?_
  refine g_ineg (pc := 37) dX10_turnOn_37 ?_
  refine g_iastX (pc := 38) (43 * l + 4 + p) dX10_turnOn_38 (rfl) (ixA (a := 4)) (by have := ln_all; omega) (by decide) ?_
  first | refine g_aload0 (pc := 39) dX10_turnOn_39 ?_ | refine g_aloadN0 (pc := 39) dX10_turnOn_39 ?_
  refine g_getR (pc := 40) (j := 3) cf10 dX10_turnOn_40 fl_RX10_16 (by decide) (by decide) (by first | rfl | assumption) (82) (rfl) ?_
  refine g_iload3 (pc := 43) dX10_turnOn_43 ?_
  refine g_bipush (pc := 44) (8) dX10_turnOn_44 (by decide) ?_
  refine g_iadd (pc := 46) dX10_turnOn_46 ?_
  refine g_iload2 (pc := 47) dX10_turnOn_47 ?_
  refine g_iadd (pc := 48) dX10_turnOn_48 ?_
  refine g_iload4 (pc := 49) dX10_turnOn_49 ?_
  refine g_iastX (pc := 51) (43 * l + 8 + p) dX10_turnOn_51 (rfl) (ixA (a := 8)) (by have := ln_all; omega) (by decide) ?_
  refine g_vret (pc := 52) dX10_turnOn_52 rfl ?_
  exact ⟨rfl, rfl, rfl⟩
theorem c_X10_nibOf {p : Nat} {v : Mm} {L : Lm} (hp : p < 4) : Fn yX10_nibOf cX10_nibOf 2 (some .int) 0 [.ref 79, .int (nI p)] v L (some (.int (10 * (v 82 (4 + p) + 3) + v 82 (8 + p) + 3))) v L := by
  refine Fq.of (plainFor_of_name (by decide)) [some (.ref 79), some (.int (nI p))] rfl (Nat.le_of_ble_eq_true rfl) ?_
  refine g_bipush (pc := 0) (10) dX10_nibOf_0 (by decide) ?_
  first | refine g_aload0 (pc := 2) dX10_nibOf_2 ?_ | refine g_aloadN0 (pc := 2) dX10_nibOf_2 ?_
  refine g_getR (pc := 3) (j := 3) cf10 dX10_nibOf_3 fl_RX10_16 (by decide) (by decide) (by first | rfl | assumption) (82) (rfl) ?_
  refine g_iconst (pc := 6) (4) dX10_nibOf_6 (by decide) ?_
  refine g_iload1 (pc := 7) dX10_nibOf_7 ?_
  refine g_iadd (pc := 8) dX10_nibOf_8 ?_
  refine g_ialdX (pc := 9) (4 + p) dX10_nibOf_9 (rfl) (nI_add 4 p) (by have := ln_all; omega) (by decide) ?_
  refine g_iconst (pc := 10) (3) dX10_nibOf_10 (by decide) ?_
  refine g_iadd (pc := 11) dX10_nibOf_11 ?_
  refine g_imul (pc := 12) dX10_nibOf_12 ?_
  first | refine g_aload0 (pc := 13) dX10_nibOf_13 ?_ | refine g_aloadN0 (pc := 13) dX10_nibOf_13 ?_
  refine g_getR (pc := 14) (j := 3) cf10 dX10_nibOf_14 fl_RX10_16 (by decide) (by decide) (by first | rfl | assumption) (82) (rfl) ?_
  refine g_bipush (pc := 17) (8) dX10_nibOf_17 (by decide) ?_
  refine g_iload1 (pc := 19) dX10_nibOf_19 ?_
  refine g_iadd (pc := 20) dX10_nibOf_20 ?_
  refine g_ialdX (pc := 21) (8 + p) dX10_nibOf_21 (rfl) (nI_add 8 p) (by have := ln_all; omega) (by decide) ?_
  refine g_iadd (pc := 22) dX10_nibOf_22 ?_
  refine g_iconst (pc := 23) (3) dX10_nibOf_23 (by decide) ?_
  refine g_iadd (pc := 24) dX10_nibOf_24 ?_
  refine g_iret (pc := 25) dX10_nibOf_25 rfl ?_
  exact ⟨rfl, rfl, rfl⟩
theorem c_X10_wipe  {v : Mm} {L : Lm}  : Fn yX10_wipe cX10_wipe 2 (some .int) 0 [.ref 79] v L (some (.int (v 79 9))) (upd2 v 79 9 0) L := by
  refine Fq.of (plainFor_of_name (by decide)) [some (.ref 79), none] rfl (Nat.le_of_ble_eq_true rfl) ?_
  first | refine g_aload0 (pc := 0) dX10_wipe_0 ?_ | refine g_aloadN0 (pc := 0) dX10_wipe_0 ?_
  refine g_getI (pc := 1) (j := 9) cf10 dX10_wipe_1 fl_RX10_56 (by decide) (by decide) (by first | rfl | assumption) ?_
  refine g_istore1 (pc := 4) dX10_wipe_4 (by decide) (by first | rfl | assumption) ?_
  first | refine g_aload0 (pc := 5) dX10_wipe_5 ?_ | refine g_aloadN0 (pc := 5) dX10_wipe_5 ?_
  refine g_iconst (pc := 6) (0) dX10_wipe_6 (by decide) ?_
  refine g_putI (pc := 7) (j := 9) cf10 dX10_wipe_7 fl_RX10_56 (by decide) rfl rfl (by decide) (by first | rfl | assumption) ?_
  refine g_iload1 (pc := 10) dX10_wipe_10 ?_
  refine g_iret (pc := 11) dX10_wipe_11 rfl ?_
  exact ⟨rfl, rfl, rfl⟩
theorem c_X10_write_o {x : Int32} {v : Mm} {L : Lm} (hx : ¬ (0 ≤ x ∧ x ≤ 255)) : Fn yX10_write cX10_write 2 (some .int) 1 [.ref 79, .int x] v L (some (.int (-2))) v L := by
  have zi : ((0 : Int64) ≤ x.toInt64 ∧ x.toInt64 ≤ 255) ↔ (0 ≤ x ∧ x ≤ 255) := inI (y := x) (by decide) (by decide)
  refine Fq.of (plainFor_of_name (by decide)) [some (.ref 79), some (.int x)] rfl (Nat.le_of_ble_eq_true rfl) ?_
  refine g_iload1 (pc := 0) dX10_write_0 ?_
  refine g_i2l (pc := 1) dX10_write_1 ?_
  refine g_lconst (pc := 2) (0) dX10_write_2 (by decide) ?_
  refine g_ldc2 (pc := 3) _ dX10_write_3 kc_RX10_50 ?_
  refine g_fS3 (pc := 6) (c_X10_in) dX10_write_6 cw_RX10_52 (by decide) (Nat.le_of_ble_eq_true rfl) ?_
  refine g_if_ne (pc := 9) 15 dX10_write_9 (by decide) (fun zh9 => ?_) (fun zh9 => ?_)
  · skip
    exact absurd (zi.mp (b01_ne0.mp zh9)) hx
  · skip
    refine g_bipush (pc := 12) (-2) dX10_write_12 (by decide) ?_
    refine g_iret (pc := 14) dX10_write_14 rfl ?_
    exact ⟨rfl, rfl, rfl⟩
theorem c_X10_write_f {x : Int32} {v : Mm} {L : Lm} (hx : 0 ≤ x ∧ x ≤ 255) (hl : v 79 9 = 48) : Fn yX10_write cX10_write 2 (some .int) 1 [.ref 79, .int x] v L (some (.int (-4))) v L := by
  have zi : ((0 : Int64) ≤ x.toInt64 ∧ x.toInt64 ≤ 255) ↔ (0 ≤ x ∧ x ≤ 255) := inI (y := x) (by decide) (by decide)
  refine Fq.of (plainFor_of_name (by decide)) [some (.ref 79), some (.int x)] rfl (Nat.le_of_ble_eq_true rfl) ?_
  refine g_iload1 (pc := 0) dX10_write_0 ?_
  refine g_i2l (pc := 1) dX10_write_1 ?_
  refine g_lconst (pc := 2) (0) dX10_write_2 (by decide) ?_
  refine g_ldc2 (pc := 3) _ dX10_write_3 kc_RX10_50 ?_
  refine g_fS3 (pc := 6) (c_X10_in) dX10_write_6 cw_RX10_52 (by decide) (Nat.le_of_ble_eq_true rfl) ?_
  refine g_if_ne (pc := 9) 15 dX10_write_9 (by decide) (fun zh9 => ?_) (fun zh9 => ?_)
  · skip
    first | refine g_aload0 (pc := 15) dX10_write_15 ?_ | refine g_aloadN0 (pc := 15) dX10_write_15 ?_
    refine g_getI (pc := 16) (j := 9) cf10 dX10_write_16 fl_RX10_56 (by decide) (by decide) (by first | rfl | assumption) ?_
    refine g_bipush (pc := 19) (48) dX10_write_19 (by decide) ?_
    refine g_icmp_ne (pc := 21) 27 dX10_write_21 (by decide) (fun zh21 => ?_) (fun zh21 => ?_)
    · skip
      exact absurd hl zh21
    · skip
      refine g_bipush (pc := 24) (-4) dX10_write_24 (by decide) ?_
      refine g_iret (pc := 26) dX10_write_26 rfl ?_
      exact ⟨rfl, rfl, rfl⟩
  · skip
    exact absurd (zi.mpr hx) (b01_eq0.mp zh9)
theorem c_X10_write_s {x : Int32} {c : Nat} {v : Mm} {L : Lm} (hx : 0 ≤ x ∧ x ≤ 255) (hl : v 79 9 = nI c) (hc : c < 48) : Fn yX10_write cX10_write 2 (some .int) 1 [.ref 79, .int x] v L (some (.int (nI (c + 1)))) (upd2 (upd2 v 85 c x) 79 9 (nI (c + 1))) L := by
  have zi : ((0 : Int64) ≤ x.toInt64 ∧ x.toInt64 ≤ 255) ↔ (0 ≤ x ∧ x ≤ 255) := inI (y := x) (by decide) (by decide)
  have zu : upd2 v 85 c x 79 9 = nI c := by rw [u2_n (fun zq => absurd zq.1 (by decide))]; exact hl
  refine Fq.of (plainFor_of_name (by decide)) [some (.ref 79), some (.int x)] rfl (Nat.le_of_ble_eq_true rfl) ?_
  refine g_iload1 (pc := 0) dX10_write_0 ?_
  refine g_i2l (pc := 1) dX10_write_1 ?_
  refine g_lconst (pc := 2) (0) dX10_write_2 (by decide) ?_
  refine g_ldc2 (pc := 3) _ dX10_write_3 kc_RX10_50 ?_
  refine g_fS3 (pc := 6) (c_X10_in) dX10_write_6 cw_RX10_52 (by decide) (Nat.le_of_ble_eq_true rfl) ?_
  refine g_if_ne (pc := 9) 15 dX10_write_9 (by decide) (fun zh9 => ?_) (fun zh9 => ?_)
  · skip
    first | refine g_aload0 (pc := 15) dX10_write_15 ?_ | refine g_aloadN0 (pc := 15) dX10_write_15 ?_
    refine g_getI (pc := 16) (j := 9) cf10 dX10_write_16 fl_RX10_56 (by decide) (by decide) (by first | rfl | assumption) ?_
    refine g_bipush (pc := 19) (48) dX10_write_19 (by decide) ?_
    refine g_icmp_ne (pc := 21) 27 dX10_write_21 (by decide) (fun zh21 => ?_) (fun zh21 => ?_)
    · skip
      first | refine g_aload0 (pc := 27) dX10_write_27 ?_ | refine g_aloadN0 (pc := 27) dX10_write_27 ?_
      refine g_getR (pc := 28) (j := 8) cf10 dX10_write_28 fl_RX10_25 (by decide) (by decide) (by first | rfl | assumption) (85) (rfl) ?_
      first | refine g_aload0 (pc := 31) dX10_write_31 ?_ | refine g_aloadN0 (pc := 31) dX10_write_31 ?_
      refine g_getI (pc := 32) (j := 9) cf10 dX10_write_32 fl_RX10_56 (by decide) (by decide) (by first | rfl | assumption) ?_
      refine g_iload1 (pc := 35) dX10_write_35 ?_
      refine g_iastX (pc := 36) (c) dX10_write_36 (rfl) (hl) (by have := ln_all; omega) (by decide) ?_
      first | refine g_aload0 (pc := 37) dX10_write_37 ?_ | refine g_aloadN0 (pc := 37) dX10_write_37 ?_
      refine g_dup (pc := 38) dX10_write_38 rfl ?_
      refine g_getI (pc := 39) (j := 9) cf10 dX10_write_39 fl_RX10_56 (by decide) (by decide) (by first | rfl | assumption) ?_
      refine g_iconst (pc := 42) (1) dX10_write_42 (by decide) ?_
      refine g_iadd (pc := 43) dX10_write_43 ?_
      rw [zu, nI_1]
      refine g_putI (pc := 44) (j := 9) cf10 dX10_write_44 fl_RX10_56 (by decide) rfl rfl (by decide) (by first | rfl | assumption) ?_
      first | refine g_aload0 (pc := 47) dX10_write_47 ?_ | refine g_aloadN0 (pc := 47) dX10_write_47 ?_
      refine g_getI (pc := 48) (j := 9) cf10 dX10_write_48 fl_RX10_56 (by decide) (by decide) (by first | rfl | assumption) ?_
      refine g_iret (pc := 51) dX10_write_51 rfl ?_
      exact ⟨by rw [u2_s], rfl, rfl⟩
    · skip
      exact absurd (hl.symm.trans zh21) (fun zq => absurd ((nI_eq (b := 48) (by omega) (by decide)).mp zq) (by omega))
  · skip
    exact absurd (zi.mpr hx) (b01_eq0.mp zh9)
