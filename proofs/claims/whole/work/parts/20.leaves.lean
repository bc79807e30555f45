theorem pf_J9_min_7cf53 : plainFor yJ9_min_7cf53 = true := by decide +kernel
theorem pf_J9_abs_0f7a4 : plainFor yJ9_abs_0f7a4 = true := by decide +kernel
theorem pf_J9_floorMod_7cf53 : plainFor yJ9_floorMod_7cf53 = true := by decide +kernel
theorem pf_J6_bitCount_0f7a4 : plainFor yJ6_bitCount_0f7a4 = true := by decide +kernel
theorem pf_J7_fill_53178 : plainFor yJ7_fill_53178 = true := by decide +kernel
/-! the least ones: static methods, the pen -/
theorem c_X9_isWithin {x y : Int32} {v : Mm} {L : Lm}  : Fn yX9_isWithin cX9_isWithin 2 (some .boolean) 0 [.int x, .int y] v L (some (.int (b01 (0 ≤ x ∧ x ≤ y)))) v L := by
  refine Fq.of (plainFor_of_name (by decide)) [some (.int x), some (.int y)] rfl (Nat.le_of_ble_eq_true rfl) ?_
  refine g_iload0 (pc := 0) dX9_isWithin_0 ?_
  refine g_if_lt (pc := 1) 13 dX9_isWithin_1 (by decide) (fun zh1 => ?_) (fun zh1 => ?_)
  · skip
    refine g_iconst (pc := 13) (0) dX9_isWithin_13 (by decide) ?_
    refine g_zret (pc := 14) dX9_isWithin_14 rfl (by first | exact Or.inl rfl | exact Or.inr rfl | assumption) ?_
    exact ⟨congrArg (fun t => some (Value.int t)) (by unfold b01; (repeat' split) <;> first | rfl | (exfalso; simp only [b01_eq0, b01_ne0, i32lt, i32le] at *; omega)), rfl, rfl⟩
  · skip
    refine g_iload0 (pc := 4) dX9_isWithin_4 ?_
    refine g_iload1 (pc := 5) dX9_isWithin_5 ?_
    refine g_icmp_gt (pc := 6) 13 dX9_isWithin_6 (by decide) (fun zh6 => ?_) (fun zh6 => ?_)
    · skip
      refine g_iconst (pc := 13) (0) dX9_isWithin_13 (by decide) ?_
      refine g_zret (pc := 14) dX9_isWithin_14 rfl (by first | exact Or.inl rfl | exact Or.inr rfl | assumption) ?_
      exact ⟨congrArg (fun t => some (Value.int t)) (by unfold b01; (repeat' split) <;> first | rfl | (exfalso; simp only [b01_eq0, b01_ne0, i32lt, i32le] at *; omega)), rfl, rfl⟩
    · skip
      refine g_iconst (pc := 9) (1) dX9_isWithin_9 (by decide) ?_
      refine g_goto (pc := 10) 14 dX9_isWithin_10 (by decide) ?_
      refine g_zret (pc := 14) dX9_isWithin_14 rfl (by first | exact Or.inl rfl | exact Or.inr rfl | assumption) ?_
      exact ⟨congrArg (fun t => some (Value.int t)) (by unfold b01; (repeat' split) <;> first | rfl | (exfalso; simp only [b01_eq0, b01_ne0, i32lt, i32le] at *; omega)), rfl, rfl⟩
theorem c_X9_isDot {x : Int32} {v : Mm} {L : Lm}  : Fn yX9_isDot cX9_isDot 1 (some .boolean) 0 [.int x] v L (some (.int (b01 (0 ≤ x ∧ x < 25)))) v L := by
  refine Fq.of (plainFor_of_name (by decide)) [some (.int x)] rfl (Nat.le_of_ble_eq_true rfl) ?_
  refine g_iload0 (pc := 0) dX9_isDot_0 ?_
  refine g_if_lt (pc := 1) 14 dX9_isDot_1 (by decide) (fun zh1 => ?_) (fun zh1 => ?_)
  · skip
    refine g_iconst (pc := 14) (0) dX9_isDot_14 (by decide) ?_
    refine g_zret (pc := 15) dX9_isDot_15 rfl (by first | exact Or.inl rfl | exact Or.inr rfl | assumption) ?_
    exact ⟨congrArg (fun t => some (Value.int t)) (by unfold b01; (repeat' split) <;> first | rfl | (exfalso; simp only [b01_eq0, b01_ne0, i32lt, i32le] at *; omega)), rfl, rfl⟩
  · skip
    refine g_iload0 (pc := 4) dX9_isDot_4 ?_
    refine g_bipush (pc := 5) (25) dX9_isDot_5 (by decide) ?_
    refine g_icmp_ge (pc := 7) 14 dX9_isDot_7 (by decide) (fun zh7 => ?_) (fun zh7 => ?_)
    · skip
      refine g_iconst (pc := 14) (0) dX9_isDot_14 (by decide) ?_
      refine g_zret (pc := 15) dX9_isDot_15 rfl (by first | exact Or.inl rfl | exact Or.inr rfl | assumption) ?_
      exact ⟨congrArg (fun t => some (Value.int t)) (by unfold b01; (repeat' split) <;> first | rfl | (exfalso; simp only [b01_eq0, b01_ne0, i32lt, i32le] at *; omega)), rfl, rfl⟩
    · skip
      refine g_iconst (pc := 10) (1) dX9_isDot_10 (by decide) ?_
      refine g_goto (pc := 11) 15 dX9_isDot_11 (by decide) ?_
      refine g_zret (pc := 15) dX9_isDot_15 rfl (by first | exact Or.inl rfl | exact Or.inr rfl | assumption) ?_
      exact ⟨congrArg (fun t => some (Value.int t)) (by unfold b01; (repeat' split) <;> first | rfl | (exfalso; simp only [b01_eq0, b01_ne0, i32lt, i32le] at *; omega)), rfl, rfl⟩
theorem c_X9_isDirection {x : Int32} {v : Mm} {L : Lm}  : Fn yX9_isDirection cX9_isDirection 1 (some .boolean) 0 [.int x] v L (some (.int (b01 (0 ≤ x ∧ x < 8)))) v L := by
  refine Fq.of (plainFor_of_name (by decide)) [some (.int x)] rfl (Nat.le_of_ble_eq_true rfl) ?_
  refine g_iload0 (pc := 0) dX9_isDirection_0 ?_
  refine g_if_lt (pc := 1) 14 dX9_isDirection_1 (by decide) (fun zh1 => ?_) (fun zh1 => ?_)
  · skip
    refine g_iconst (pc := 14) (0) dX9_isDirection_14 (by decide) ?_
    refine g_zret (pc := 15) dX9_isDirection_15 rfl (by first | exact Or.inl rfl | exact Or.inr rfl | assumption) ?_
    exact ⟨congrArg (fun t => some (Value.int t)) (by unfold b01; (repeat' split) <;> first | rfl | (exfalso; simp only [b01_eq0, b01_ne0, i32lt, i32le] at *; omega)), rfl, rfl⟩
  · skip
    refine g_iload0 (pc := 4) dX9_isDirection_4 ?_
    refine g_bipush (pc := 5) (8) dX9_isDirection_5 (by decide) ?_
    refine g_icmp_ge (pc := 7) 14 dX9_isDirection_7 (by decide) (fun zh7 => ?_) (fun zh7 => ?_)
    · skip
      refine g_iconst (pc := 14) (0) dX9_isDirection_14 (by decide) ?_
      refine g_zret (pc := 15) dX9_isDirection_15 rfl (by first | exact Or.inl rfl | exact Or.inr rfl | assumption) ?_
      exact ⟨congrArg (fun t => some (Value.int t)) (by unfold b01; (repeat' split) <;> first | rfl | (exfalso; simp only [b01_eq0, b01_ne0, i32lt, i32le] at *; omega)), rfl, rfl⟩
    · skip
      refine g_iconst (pc := 10) (1) dX9_isDirection_10 (by decide) ?_
      refine g_goto (pc := 11) 15 dX9_isDirection_11 (by decide) ?_
      refine g_zret (pc := 15) dX9_isDirection_15 rfl (by first | exact Or.inl rfl | exact Or.inr rfl | assumption) ?_
      exact ⟨congrArg (fun t => some (Value.int t)) (by unfold b01; (repeat' split) <;> first | rfl | (exfalso; simp only [b01_eq0, b01_ne0, i32lt, i32le] at *; omega)), rfl, rfl⟩
theorem c_J9_min_7cf53 {x y : Int32} {v : Mm} {L : Lm}  : Fn yJ9_min_7cf53 cJ9_min_7cf53 2 (some .int) 0 [.int x, .int y] v L (some (.int (mnI x y))) v L := by
  refine Fq.of (pf_J9_min_7cf53) [some (.int x), some (.int y)] rfl (Nat.le_of_ble_eq_true rfl) ?_
  refine g_iload0 (pc := 0) dJ9_min_7cf53_0 ?_
  refine g_iload1 (pc := 1) dJ9_min_7cf53_1 ?_
  refine g_icmp_gt (pc := 2) 9 dJ9_min_7cf53_2 (by decide) (fun zh2 => ?_) (fun zh2 => ?_)
  · skip
    refine g_iload1 (pc := 9) dJ9_min_7cf53_9 ?_
    refine g_iret (pc := 10) dJ9_min_7cf53_10 rfl ?_
    exact ⟨congrArg (fun t => some (Value.int t)) (by unfold mnI; (repeat' split) <;> first | rfl | (exfalso; simp only [b01_eq0, b01_ne0, i32lt, i32le] at *; omega)), rfl, rfl⟩
  · skip
    refine g_iload0 (pc := 5) dJ9_min_7cf53_5 ?_
    refine g_goto (pc := 6) 10 dJ9_min_7cf53_6 (by decide) ?_
    refine g_iret (pc := 10) dJ9_min_7cf53_10 rfl ?_
    exact ⟨congrArg (fun t => some (Value.int t)) (by unfold mnI; (repeat' split) <;> first | rfl | (exfalso; simp only [b01_eq0, b01_ne0, i32lt, i32le] at *; omega)), rfl, rfl⟩
theorem c_J9_abs_0f7a4 {x : Int32} {v : Mm} {L : Lm}  : Fn yJ9_abs_0f7a4 cJ9_abs_0f7a4 1 (some .int) 0 [.int x] v L (some (.int (abI x))) v L := by
  refine Fq.of (pf_J9_abs_0f7a4) [some (.int x)] rfl (Nat.le_of_ble_eq_true rfl) ?_
  refine g_iload0 (pc := 0) dJ9_abs_0f7a4_0 ?_
  refine g_if_ge (pc := 1) 9 dJ9_abs_0f7a4_1 (by decide) (fun zh1 => ?_) (fun zh1 => ?_)
  · skip
    refine g_iload0 (pc := 9) dJ9_abs_0f7a4_9 ?_
    refine g_iret (pc := 10) dJ9_abs_0f7a4_10 rfl ?_
    exact ⟨congrArg (fun t => some (Value.int t)) (by unfold abI; (repeat' split) <;> first | rfl | (exfalso; simp only [b01_eq0, b01_ne0, i32lt, i32le] at *; omega)), rfl, rfl⟩
  · skip
    refine g_iload0 (pc := 4) dJ9_abs_0f7a4_4 ?_
    refine g_ineg (pc := 5) dJ9_abs_0f7a4_5 ?_
    refine g_goto (pc := 6) 10 dJ9_abs_0f7a4_6 (by decide) ?_
    refine g_iret (pc := 10) dJ9_abs_0f7a4_10 rfl ?_
    exact ⟨congrArg (fun t => some (Value.int t)) (by unfold abI; (repeat' split) <;> first | rfl | (exfalso; simp only [b01_eq0, b01_ne0, i32lt, i32le] at *; omega)), rfl, rfl⟩
theorem c_J9_floorMod_7cf53 {x y : Int32} {v : Mm} {L : Lm} (hy : ¬ y = 0) : Fn yJ9_floorMod_7cf53 cJ9_floorMod_7cf53 3 (some .int) 0 [.int x, .int y] v L (some (.int (if 0 ≤ x ^^^ y then x - x / y * y else if x - x / y * y = 0 then x - x / y * y else x - x / y * y + y))) v L := by
  refine Fq.of (pf_J9_floorMod_7cf53) [some (.int x), some (.int y), none] rfl (Nat.le_of_ble_eq_true rfl) ?_
  refine g_iload0 (pc := 0) dJ9_floorMod_7cf53_0 ?_
  refine g_iload1 (pc := 1) dJ9_floorMod_7cf53_1 ?_
  refine g_irem (pc := 2) dJ9_floorMod_7cf53_2 (hy) ?_
  refine g_istore2 (pc := 3) dJ9_floorMod_7cf53_3 (by decide) (by first | rfl | assumption) ?_
  refine g_iload0 (pc := 4) dJ9_floorMod_7cf53_4 ?_
  refine g_iload1 (pc := 5) dJ9_floorMod_7cf53_5 ?_
  refine g_ixor (pc := 6) dJ9_floorMod_7cf53_6 ?_
  refine g_if_ge (pc := 7) 18 dJ9_floorMod_7cf53_7 (by decide) (fun zh7 => ?_) (fun zh7 => ?_)
  · skip
    refine g_iload2 (pc := 18) dJ9_floorMod_7cf53_18 ?_
    refine g_iret (pc := 19) dJ9_floorMod_7cf53_19 rfl ?_
    exact ⟨by simp_all, rfl, rfl⟩
  · skip
    refine g_iload2 (pc := 10) dJ9_floorMod_7cf53_10 ?_
    refine g_if_eq (pc := 11) 18 dJ9_floorMod_7cf53_11 (by decide) (fun zh11 => ?_) (fun zh11 => ?_)
    · skip
      refine g_iload2 (pc := 18) dJ9_floorMod_7cf53_18 ?_
      refine g_iret (pc := 19) dJ9_floorMod_7cf53_19 rfl ?_
      exact ⟨by simp_all, rfl, rfl⟩
    · skip
      refine g_iload2 (pc := 14) dJ9_floorMod_7cf53_14 ?_
      refine g_iload1 (pc := 15) dJ9_floorMod_7cf53_15 ?_
      refine g_iadd (pc := 16) dJ9_floorMod_7cf53_16 ?_
      refine g_iret (pc := 17) dJ9_floorMod_7cf53_17 rfl ?_
      exact ⟨by simp_all, rfl, rfl⟩
theorem c_X2_copy {k j : Nat} {v : Mm} {L : Lm} (hk : kd k = 2) (hj : kd j = 2) (hne : k ≠ j) (zh6 : v j 6 = 0 ∨ v j 6 = 1) : Fn yX2_copy cX2_copy 2 none 0 [.ref k, .ref j] v L none (upd2 (upd2 (upd2 (upd2 (upd2 (upd2 (upd2 v k 0 (v j 0)) k 1 (v j 1)) k 2 (v j 2)) k 3 (v j 3)) k 4 (v j 4)) k 5 (v j 5)) k 6 (v j 6)) L := by
  refine Fq.of (plainFor_of_name (by decide)) [some (.ref k), some (.ref j)] rfl (Nat.le_of_ble_eq_true rfl) ?_
  first | refine g_aload0 (pc := 0) dX2_copy_0 ?_ | refine g_aloadN0 (pc := 0) dX2_copy_0 ?_
  first | refine g_aload1 (pc := 1) dX2_copy_1 ?_ | refine g_aloadN1 (pc := 1) dX2_copy_1 ?_
  refine g_getI (pc := 2) (j := 0) cf2 dX2_copy_2 fl_RX2_9 (by decide) (by decide) (by first | rfl | assumption) ?_
  refine g_putI (pc := 5) (j := 0) cf2 dX2_copy_5 fl_RX2_9 (by decide) rfl rfl (by decide) (by first | rfl | assumption) ?_
  first | refine g_aload0 (pc := 8) dX2_copy_8 ?_ | refine g_aloadN0 (pc := 8) dX2_copy_8 ?_
  first | refine g_aload1 (pc := 9) dX2_copy_9 ?_ | refine g_aloadN1 (pc := 9) dX2_copy_9 ?_
  refine g_getI (pc := 10) (j := 1) cf2 dX2_copy_10 fl_RX2_15 (by decide) (by decide) (by first | rfl | assumption) ?_
  refine g_putI (pc := 13) (j := 1) cf2 dX2_copy_13 fl_RX2_15 (by decide) rfl rfl (by decide) (by first | rfl | assumption) ?_
  first | refine g_aload0 (pc := 16) dX2_copy_16 ?_ | refine g_aloadN0 (pc := 16) dX2_copy_16 ?_
  first | refine g_aload1 (pc := 17) dX2_copy_17 ?_ | refine g_aloadN1 (pc := 17) dX2_copy_17 ?_
  refine g_getI (pc := 18) (j := 2) cf2 dX2_copy_18 fl_RX2_18 (by decide) (by decide) (by first | rfl | assumption) ?_
  refine g_putI (pc := 21) (j := 2) cf2 dX2_copy_21 fl_RX2_18 (by decide) rfl rfl (by decide) (by first | rfl | assumption) ?_
  first | refine g_aload0 (pc := 24) dX2_copy_24 ?_ | refine g_aloadN0 (pc := 24) dX2_copy_24 ?_
  first | refine g_aload1 (pc := 25) dX2_copy_25 ?_ | refine g_aloadN1 (pc := 25) dX2_copy_25 ?_
  refine g_getI (pc := 26) (j := 3) cf2 dX2_copy_26 fl_RX2_21 (by decide) (by decide) (by first | rfl | assumption) ?_
  refine g_putI (pc := 29) (j := 3) cf2 dX2_copy_29 fl_RX2_21 (by decide) rfl rfl (by decide) (by first | rfl | assumption) ?_
  first | refine g_aload0 (pc := 32) dX2_copy_32 ?_ | refine g_aloadN0 (pc := 32) dX2_copy_32 ?_
  first | refine g_aload1 (pc := 33) dX2_copy_33 ?_ | refine g_aloadN1 (pc := 33) dX2_copy_33 ?_
  refine g_getI (pc := 34) (j := 4) cf2 dX2_copy_34 fl_RX2_24 (by decide) (by decide) (by first | rfl | assumption) ?_
  refine g_putI (pc := 37) (j := 4) cf2 dX2_copy_37 fl_RX2_24 (by decide) rfl rfl (by decide) (by first | rfl | assumption) ?_
  first | refine g_aload0 (pc := 40) dX2_copy_40 ?_ | refine g_aloadN0 (pc := 40) dX2_copy_40 ?_
  first | refine g_aload1 (pc := 41) dX2_copy_41 ?_ | refine g_aloadN1 (pc := 41) dX2_copy_41 ?_
  refine g_getI (pc := 42) (j := 5) cf2 dX2_copy_42 fl_RX2_27 (by decide) (by decide) (by first | rfl | assumption) ?_
  refine g_putI (pc := 45) (j := 5) cf2 dX2_copy_45 fl_RX2_27 (by decide) rfl rfl (by decide) (by first | rfl | assumption) ?_
  first | refine g_aload0 (pc := 48) dX2_copy_48 ?_ | refine g_aloadN0 (pc := 48) dX2_copy_48 ?_
  first | refine g_aload1 (pc := 49) dX2_copy_49 ?_ | refine g_aloadN1 (pc := 49) dX2_copy_49 ?_
  refine g_getI (pc := 50) (j := 6) cf2 dX2_copy_50 fl_RX2_30 (by decide) (by decide) (by first | rfl | assumption) ?_
  refine g_putZ (pc := 53) (j := 6) cf2 dX2_copy_53 fl_RX2_30 (by decide) rfl rfl (by decide) (by first | rfl | assumption) (by simpa [upd2, Ne.symm hne] using zh6) ?_
  refine g_vret (pc := 56) dX2_copy_56 rfl ?_
  exact ⟨rfl, by simp only [upd2, Ne.symm hne, false_and, if_false], rfl⟩
theorem c_X2_isFull {k : Nat} {v : Mm} {L : Lm} (hk : kd k = 2) : Fn yX2_isFull cX2_isFull 1 (some .boolean) 0 [.ref k] v L (some (.int (b01 (v k 4 = v k 5)))) v L := by
  refine Fq.of (plainFor_of_name (by decide)) [some (.ref k)] rfl (Nat.le_of_ble_eq_true rfl) ?_
  first | refine g_aload0 (pc := 0) dX2_isFull_0 ?_ | refine g_aloadN0 (pc := 0) dX2_isFull_0 ?_
  refine g_getI (pc := 1) (j := 4) cf2 dX2_isFull_1 fl_RX2_24 (by decide) (by decide) (by first | rfl | assumption) ?_
  first | refine g_aload0 (pc := 4) dX2_isFull_4 ?_ | refine g_aloadN0 (pc := 4) dX2_isFull_4 ?_
  refine g_getI (pc := 5) (j := 5) cf2 dX2_isFull_5 fl_RX2_27 (by decide) (by decide) (by first | rfl | assumption) ?_
  refine g_icmp_ne (pc := 8) 15 dX2_isFull_8 (by decide) (fun zh8 => ?_) (fun zh8 => ?_)
  · skip
    refine g_iconst (pc := 15) (0) dX2_isFull_15 (by decide) ?_
    refine g_zret (pc := 16) dX2_isFull_16 rfl (by first | exact Or.inl rfl | exact Or.inr rfl | assumption) ?_
    exact ⟨by simp_all [b01], rfl, rfl⟩
  · skip
    refine g_iconst (pc := 11) (1) dX2_isFull_11 (by decide) ?_
    refine g_goto (pc := 12) 16 dX2_isFull_12 (by decide) ?_
    refine g_zret (pc := 16) dX2_isFull_16 rfl (by first | exact Or.inl rfl | exact Or.inr rfl | assumption) ?_
    exact ⟨by simp_all [b01], rfl, rfl⟩
theorem c_X2_flip {k : Nat} {v : Mm} {L : Lm} (hk : kd k = 2) : Fn yX2_flip cX2_flip 1 none 0 [.ref k] v L none (upd2 v k 6 (b01 (v k 6 = 0))) L := by
  refine Fq.of (plainFor_of_name (by decide)) [some (.ref k)] rfl (Nat.le_of_ble_eq_true rfl) ?_
  first | refine g_aload0 (pc := 0) dX2_flip_0 ?_ | refine g_aloadN0 (pc := 0) dX2_flip_0 ?_
  first | refine g_aload0 (pc := 1) dX2_flip_1 ?_ | refine g_aloadN0 (pc := 1) dX2_flip_1 ?_
  refine g_getI (pc := 2) (j := 6) cf2 dX2_flip_2 fl_RX2_30 (by decide) (by decide) (by first | rfl | assumption) ?_
  refine g_if_ne (pc := 5) 12 dX2_flip_5 (by decide) (fun zh5 => ?_) (fun zh5 => ?_)
  · skip
    refine g_iconst (pc := 12) (0) dX2_flip_12 (by decide) ?_
    refine g_putZ (pc := 13) (j := 6) cf2 dX2_flip_13 fl_RX2_30 (by decide) rfl rfl (by decide) (by first | rfl | assumption) (by first | exact Or.inl rfl | exact Or.inr rfl | assumption) ?_
    refine g_vret (pc := 16) dX2_flip_16 rfl ?_
    exact ⟨rfl, by simp_all [b01], rfl⟩
  · skip
    refine g_iconst (pc := 8) (1) dX2_flip_8 (by decide) ?_
    refine g_goto (pc := 9) 13 dX2_flip_9 (by decide) ?_
    refine g_putZ (pc := 13) (j := 6) cf2 dX2_flip_13 fl_RX2_30 (by decide) rfl rfl (by decide) (by first | rfl | assumption) (by first | exact Or.inl rfl | exact Or.inr rfl | assumption) ?_
    refine g_vret (pc := 16) dX2_flip_16 rfl ?_
    exact ⟨rfl, by simp_all [b01], rfl⟩
theorem c_X2_refill {k : Nat} {v : Mm} {L : Lm} (hk : kd k = 2) : Fn yX2_refill cX2_refill 2 (some .int) 0 [.ref k] v L (some (.int (v k 5 - v k 4))) (upd2 v k 4 (v k 5)) L := by
  refine Fq.of (plainFor_of_name (by decide)) [some (.ref k), none] rfl (Nat.le_of_ble_eq_true rfl) ?_
  first | refine g_aload0 (pc := 0) dX2_refill_0 ?_ | refine g_aloadN0 (pc := 0) dX2_refill_0 ?_
  refine g_getI (pc := 1) (j := 5) cf2 dX2_refill_1 fl_RX2_27 (by decide) (by decide) (by first | rfl | assumption) ?_
  first | refine g_aload0 (pc := 4) dX2_refill_4 ?_ | refine g_aloadN0 (pc := 4) dX2_refill_4 ?_
  refine g_getI (pc := 5) (j := 4) cf2 dX2_refill_5 fl_RX2_24 (by decide) (by decide) (by first | rfl | assumption) ?_
  refine g_isub (pc := 8) dX2_refill_8 ?_
  refine g_istore1 (pc := 9) dX2_refill_9 (by decide) (by first | rfl | assumption) ?_
  first | refine g_aload0 (pc := 10) dX2_refill_10 ?_ | refine g_aloadN0 (pc := 10) dX2_refill_10 ?_
  first | refine g_aload0 (pc := 11) dX2_refill_11 ?_ | refine g_aloadN0 (pc := 11) dX2_refill_11 ?_
  refine g_getI (pc := 12) (j := 5) cf2 dX2_refill_12 fl_RX2_27 (by decide) (by decide) (by first | rfl | assumption) ?_
  refine g_putI (pc := 15) (j := 4) cf2 dX2_refill_15 fl_RX2_24 (by decide) rfl rfl (by decide) (by first | rfl | assumption) ?_
  refine g_iload1 (pc := 18) dX2_refill_18 ?_
  refine g_iret (pc := 19) dX2_refill_19 rfl ?_
  exact ⟨rfl, rfl, rfl⟩
theorem c_X2_quarter {k : Nat} {v : Mm} {L : Lm} (hk : kd k = 2) : Fn yX2_quarter cX2_quarter 2 none 0 [.ref k] v L none (upd2 (upd2 v k 2 (-(v k 3))) k 3 (v k 2)) L := by
  refine Fq.of (plainFor_of_name (by decide)) [some (.ref k), none] rfl (Nat.le_of_ble_eq_true rfl) ?_
  first | refine g_aload0 (pc := 0) dX2_quarter_0 ?_ | refine g_aloadN0 (pc := 0) dX2_quarter_0 ?_
  refine g_getI (pc := 1) (j := 2) cf2 dX2_quarter_1 fl_RX2_18 (by decide) (by decide) (by first | rfl | assumption) ?_
  refine g_istore1 (pc := 4) dX2_quarter_4 (by decide) (by first | rfl | assumption) ?_
  first | refine g_aload0 (pc := 5) dX2_quarter_5 ?_ | refine g_aloadN0 (pc := 5) dX2_quarter_5 ?_
  first | refine g_aload0 (pc := 6) dX2_quarter_6 ?_ | refine g_aloadN0 (pc := 6) dX2_quarter_6 ?_
  refine g_getI (pc := 7) (j := 3) cf2 dX2_quarter_7 fl_RX2_21 (by decide) (by decide) (by first | rfl | assumption) ?_
  refine g_ineg (pc := 10) dX2_quarter_10 ?_
  refine g_putI (pc := 11) (j := 2) cf2 dX2_quarter_11 fl_RX2_18 (by decide) rfl rfl (by decide) (by first | rfl | assumption) ?_
  first | refine g_aload0 (pc := 14) dX2_quarter_14 ?_ | refine g_aloadN0 (pc := 14) dX2_quarter_14 ?_
  refine g_iload1 (pc := 15) dX2_quarter_15 ?_
  refine g_putI (pc := 16) (j := 3) cf2 dX2_quarter_16 fl_RX2_21 (by decide) rfl rfl (by decide) (by first | rfl | assumption) ?_
  refine g_vret (pc := 19) dX2_quarter_19 rfl ?_
  exact ⟨rfl, rfl, rfl⟩
theorem c_X2_toldNib {k : Nat} {v : Mm} {L : Lm} (hk : kd k = 2) : Fn yX2_toldNib cX2_toldNib 1 (some .int) 0 [.ref k] v L (some (.int (10 * (v k 2 + 3) + v k 3 + 3))) v L := by
  refine Fq.of (plainFor_of_name (by decide)) [some (.ref k)] rfl (Nat.le_of_ble_eq_true rfl) ?_
  refine g_bipush (pc := 0) (10) dX2_toldNib_0 (by decide) ?_
  first | refine g_aload0 (pc := 2) dX2_toldNib_2 ?_ | refine g_aloadN0 (pc := 2) dX2_toldNib_2 ?_
  refine g_getI (pc := 3) (j := 2) cf2 dX2_toldNib_3 fl_RX2_18 (by decide) (by decide) (by first | rfl | assumption) ?_
  refine g_iconst (pc := 6) (3) dX2_toldNib_6 (by decide) ?_
  refine g_iadd (pc := 7) dX2_toldNib_7 ?_
  refine g_imul (pc := 8) dX2_toldNib_8 ?_
  first | refine g_aload0 (pc := 9) dX2_toldNib_9 ?_ | refine g_aloadN0 (pc := 9) dX2_toldNib_9 ?_
  refine g_getI (pc := 10) (j := 3) cf2 dX2_toldNib_10 fl_RX2_21 (by decide) (by decide) (by first | rfl | assumption) ?_
  refine g_iadd (pc := 13) dX2_toldNib_13 ?_
  refine g_iconst (pc := 14) (3) dX2_toldNib_14 (by decide) ?_
  refine g_iadd (pc := 15) dX2_toldNib_15 ?_
  refine g_iret (pc := 16) dX2_toldNib_16 rfl ?_
  exact ⟨rfl, rfl, rfl⟩
theorem c_X9_tens {x : Int32} {v : Mm} {L : Lm}  : Fn yX9_tens cX9_tens 1 (some .long) 1 [.int x] v L (some (.long (tensF x))) v L := by
  refine Fq.of (plainFor_of_name (by decide)) [some (.int x)] rfl (Nat.le_of_ble_eq_true rfl) ?_
  refine g_iload0 (pc := 0) dX9_tens_0 ?_
  refine g_gets (pc := 1) (j := 5) dX9_tens_1 (by decide) fl_RX9_309 ?_
  refine g_slen (pc := 4) (j := 5) dX9_tens_4 (by first | decide | omega) ?_
  refine g_iconst (pc := 5) (1) dX9_tens_5 (by decide) ?_
  refine g_isub (pc := 6) dX9_tens_6 ?_
  refine g_fS2 (pc := 7) (c_X9_isWithin) dX9_tens_7 cw_RX9_68 (by decide) (Nat.le_of_ble_eq_true rfl) ?_
  refine g_if_eq (pc := 10) 21 dX9_tens_10 (by decide) (fun zh10 => ?_) (fun zh10 => ?_)
  · skip
    refine g_lconst (pc := 21) (1) dX9_tens_21 (by decide) ?_
    refine g_lret (pc := 22) dX9_tens_22 rfl ?_
    exact ⟨congrArg (fun t => some (Value.long t)) (by first | exact (if_pos (b01_ne0.mp zh10)).symm | exact (if_neg (b01_eq0.mp zh10)).symm), rfl, rfl⟩
  · skip
    refine g_gets (pc := 13) (j := 5) dX9_tens_13 (by decide) fl_RX9_309 ?_
    refine g_iload0 (pc := 16) dX9_tens_16 ?_
    refine g_slld (pc := 17) dX9_tens_17 (vin_le (n := 13) (by decide) (b01_ne0.mp zh10) (by decide)) ?_
    refine g_goto (pc := 18) 22 dX9_tens_18 (by decide) ?_
    refine g_lret (pc := 22) dX9_tens_22 rfl ?_
    exact ⟨congrArg (fun t => some (Value.long t)) (by first | exact (if_pos (b01_ne0.mp zh10)).symm | exact (if_neg (b01_eq0.mp zh10)).symm), rfl, rfl⟩
theorem c_X9_orders {x : Int32} {v : Mm} {L : Lm}  : Fn yX9_orders cX9_orders 1 (some .int) 1 [.int x] v L (some (.int (ordF x))) v L := by
  refine Fq.of (plainFor_of_name (by decide)) [some (.int x)] rfl (Nat.le_of_ble_eq_true rfl) ?_
  refine g_iload0 (pc := 0) dX9_orders_0 ?_
  refine g_gets (pc := 1) (j := 4) dX9_orders_1 (by decide) fl_RX9_313 ?_
  refine g_slen (pc := 4) (j := 4) dX9_orders_4 (by first | decide | omega) ?_
  refine g_iconst (pc := 5) (1) dX9_orders_5 (by decide) ?_
  refine g_isub (pc := 6) dX9_orders_6 ?_
  refine g_fS2 (pc := 7) (c_X9_isWithin) dX9_orders_7 cw_RX9_68 (by decide) (Nat.le_of_ble_eq_true rfl) ?_
  refine g_if_eq (pc := 10) 21 dX9_orders_10 (by decide) (fun zh10 => ?_) (fun zh10 => ?_)
  · skip
    refine g_iconst (pc := 21) (1) dX9_orders_21 (by decide) ?_
    refine g_iret (pc := 22) dX9_orders_22 rfl ?_
    exact ⟨congrArg (fun t => some (Value.int t)) (by first | exact (if_pos (b01_ne0.mp zh10)).symm | exact (if_neg (b01_eq0.mp zh10)).symm), rfl, rfl⟩
  · skip
    refine g_gets (pc := 13) (j := 4) dX9_orders_13 (by decide) fl_RX9_313 ?_
    refine g_iload0 (pc := 16) dX9_orders_16 ?_
    refine g_sld (pc := 17) (j := 4) dX9_orders_17 (by first | decide | omega) (vin_le (n := 5) (by decide) (b01_ne0.mp zh10) (by decide)) ?_
    refine g_goto (pc := 18) 22 dX9_orders_18 (by decide) ?_
    refine g_iret (pc := 22) dX9_orders_22 rfl ?_
    exact ⟨congrArg (fun t => some (Value.int t)) (by first | exact (if_pos (b01_ne0.mp zh10)).symm | exact (if_neg (b01_eq0.mp zh10)).symm), rfl, rfl⟩
theorem c_X9_hasFigures {x : Int64} {y : Int32} {v : Mm} {L : Lm}  : Fn yX9_hasFigures cX9_hasFigures 3 (some .boolean) 2 [.long x, .int y] v L (some (.int (b01 (0 ≤ x ∧ x < tensF y)))) v L := by
  refine Fq.of (plainFor_of_name (by decide)) [some (.long x), none, some (.int y)] rfl (Nat.le_of_ble_eq_true rfl) ?_
  refine g_lload0 (pc := 0) dX9_hasFigures_0 ?_
  refine g_lconst (pc := 1) (0) dX9_hasFigures_1 (by decide) ?_
  refine g_lcmp (pc := 2) dX9_hasFigures_2 ?_
  refine g_if_lt (pc := 3) 19 dX9_hasFigures_3 (by decide) (fun zh3 => ?_) (fun zh3 => ?_)
  · skip
    refine g_iconst (pc := 19) (0) dX9_hasFigures_19 (by decide) ?_
    refine g_zret (pc := 20) dX9_hasFigures_20 rfl (by first | exact Or.inl rfl | exact Or.inr rfl | assumption) ?_
    first | exact ⟨by rw [b01_f (fun h => absurd (lgc_lt.mp zh3) (Int64.not_lt.mpr h.1))], rfl, rfl⟩ | exact ⟨by rw [b01_f (fun h => absurd h.2 (Int64.not_lt.mpr (lgc_ge.mp zh12)))], rfl, rfl⟩ | exact ⟨by rw [b01_t ⟨Int64.not_lt.mp (fun q => zh3 (lgc_lt.mpr q)), Int64.not_le.mp (fun q => zh12 (lgc_ge.mpr q))⟩], rfl, rfl⟩
  · skip
    refine g_lload0 (pc := 6) dX9_hasFigures_6 ?_
    refine g_iload2 (pc := 7) dX9_hasFigures_7 ?_
    refine g_fS1 (pc := 8) (c_X9_tens) dX9_hasFigures_8 cw_RX9_261 (by decide) (Nat.le_of_ble_eq_true rfl) ?_
    refine g_lcmp (pc := 11) dX9_hasFigures_11 ?_
    refine g_if_ge (pc := 12) 19 dX9_hasFigures_12 (by decide) (fun zh12 => ?_) (fun zh12 => ?_)
    · skip
      refine g_iconst (pc := 19) (0) dX9_hasFigures_19 (by decide) ?_
      refine g_zret (pc := 20) dX9_hasFigures_20 rfl (by first | exact Or.inl rfl | exact Or.inr rfl | assumption) ?_
      first | exact ⟨by rw [b01_f (fun h => absurd (lgc_lt.mp zh3) (Int64.not_lt.mpr h.1))], rfl, rfl⟩ | exact ⟨by rw [b01_f (fun h => absurd h.2 (Int64.not_lt.mpr (lgc_ge.mp zh12)))], rfl, rfl⟩ | exact ⟨by rw [b01_t ⟨Int64.not_lt.mp (fun q => zh3 (lgc_lt.mpr q)), Int64.not_le.mp (fun q => zh12 (lgc_ge.mpr q))⟩], rfl, rfl⟩
    · skip
      refine g_iconst (pc := 15) (1) dX9_hasFigures_15 (by decide) ?_
      refine g_goto (pc := 16) 20 dX9_hasFigures_16 (by decide) ?_
      refine g_zret (pc := 20) dX9_hasFigures_20 rfl (by first | exact Or.inl rfl | exact Or.inr rfl | assumption) ?_
      first | exact ⟨by rw [b01_f (fun h => absurd (lgc_lt.mp zh3) (Int64.not_lt.mpr h.1))], rfl, rfl⟩ | exact ⟨by rw [b01_f (fun h => absurd h.2 (Int64.not_lt.mpr (lgc_ge.mp zh12)))], rfl, rfl⟩ | exact ⟨by rw [b01_t ⟨Int64.not_lt.mp (fun q => zh3 (lgc_lt.mpr q)), Int64.not_le.mp (fun q => zh12 (lgc_ge.mpr q))⟩], rfl, rfl⟩
theorem c_X9_figure {x : Int64} {y : Int32} {v : Mm} {L : Lm}  : Fn yX9_figure cX9_figure 3 (some .int) 2 [.long x, .int y] v L (some (.int (figF x y))) v L := by
  refine Fq.of (plainFor_of_name (by decide)) [some (.long x), none, some (.int y)] rfl (Nat.le_of_ble_eq_true rfl) ?_
  refine g_lload0 (pc := 0) dX9_figure_0 ?_
  refine g_iload2 (pc := 1) dX9_figure_1 ?_
  refine g_fS1 (pc := 2) (c_X9_tens) dX9_figure_2 cw_RX9_261 (by decide) (Nat.le_of_ble_eq_true rfl) ?_
  refine g_ldiv (pc := 5) dX9_figure_5 (tensF_ne0 _) ?_
  refine g_ldc2 (pc := 6) _ dX9_figure_6 kc_RX9_316 ?_
  refine g_lrem (pc := 9) dX9_figure_9 (by decide) ?_
  refine g_l2i (pc := 10) dX9_figure_10 ?_
  refine g_iret (pc := 11) dX9_figure_11 rfl ?_
  exact ⟨rfl, rfl, rfl⟩
theorem c_X9_neighbour {x y : Int32} {v : Mm} {L : Lm}  : Fn yX9_neighbour cX9_neighbour 4 (some .int) 1 [.int x, .int y] v L (some (.int (nbF x y))) v L := by
  refine Fq.of (plainFor_of_name (by decide)) [some (.int x), some (.int y), none, none] rfl (Nat.le_of_ble_eq_true rfl) ?_
  refine g_iload0 (pc := 0) dX9_neighbour_0 ?_
  refine g_fS1 (pc := 1) (c_X9_isDot) dX9_neighbour_1 cw_RX9_139 (by decide) (Nat.le_of_ble_eq_true rfl) ?_
  refine g_if_eq (pc := 4) 14 dX9_neighbour_4 (by decide) (fun zh4 => ?_) (fun zh4 => ?_)
  · skip
    refine g_bipush (pc := 14) (-9) dX9_neighbour_14 (by decide) ?_
    refine g_iret (pc := 16) dX9_neighbour_16 rfl ?_
    first | exact ⟨congrArg (fun t => some (Value.int t)) (if_neg (fun h => b01_eq0.mp zh4 h.1)).symm, rfl, rfl⟩ | exact ⟨congrArg (fun t => some (Value.int t)) (if_neg (fun h => b01_eq0.mp zh11 h.2)).symm, rfl, rfl⟩
  · skip
    refine g_iload1 (pc := 7) dX9_neighbour_7 ?_
    refine g_fS1 (pc := 8) (c_X9_isDirection) dX9_neighbour_8 cw_RX9_145 (by decide) (Nat.le_of_ble_eq_true rfl) ?_
    refine g_if_ne (pc := 11) 17 dX9_neighbour_11 (by decide) (fun zh11 => ?_) (fun zh11 => ?_)
    · skip
      refine g_iload0 (pc := 17) dX9_neighbour_17 ?_
      refine g_iconst (pc := 18) (5) dX9_neighbour_18 (by decide) ?_
      refine g_irem (pc := 19) dX9_neighbour_19 (by decide) ?_
      refine g_gets (pc := 20) (j := 0) dX9_neighbour_20 (by decide) fl_RX9_318 ?_
      refine g_iload1 (pc := 23) dX9_neighbour_23 ?_
      refine g_sld (pc := 24) (j := 0) dX9_neighbour_24 (by first | decide | omega) (vin_lt (n := 8) (by decide) (b01_ne0.mp zh11)) ?_
      refine g_iadd (pc := 25) dX9_neighbour_25 ?_
      refine g_istore2 (pc := 26) dX9_neighbour_26 (by decide) (by first | rfl | assumption) ?_
      refine g_iload0 (pc := 27) dX9_neighbour_27 ?_
      refine g_iconst (pc := 28) (5) dX9_neighbour_28 (by decide) ?_
      refine g_idiv (pc := 29) dX9_neighbour_29 (by decide) ?_
      refine g_gets (pc := 30) (j := 1) dX9_neighbour_30 (by decide) fl_RX9_321 ?_
      refine g_iload1 (pc := 33) dX9_neighbour_33 ?_
      refine g_sld (pc := 34) (j := 1) dX9_neighbour_34 (by first | decide | omega) (vin_lt (n := 8) (by decide) (b01_ne0.mp zh11)) ?_
      refine g_iadd (pc := 35) dX9_neighbour_35 ?_
      refine g_istore3 (pc := 36) dX9_neighbour_36 (by decide) (by first | rfl | assumption) ?_
      refine g_iload2 (pc := 37) dX9_neighbour_37 ?_
      refine g_iconst (pc := 38) (4) dX9_neighbour_38 (by decide) ?_
      refine g_fS2 (pc := 39) (c_X9_isWithin) dX9_neighbour_39 cw_RX9_68 (by decide) (Nat.le_of_ble_eq_true rfl) ?_
      refine g_if_eq (pc := 42) 61 dX9_neighbour_42 (by decide) (fun zh42 => ?_) (fun zh42 => ?_)
      · skip
        refine g_bipush (pc := 61) (-9) dX9_neighbour_61 (by decide) ?_
        refine g_iret (pc := 63) dX9_neighbour_63 rfl ?_
        refine ⟨congrArg (fun t => some (Value.int t)) ?_, rfl, rfl⟩
        unfold nbF
        rw [if_pos ⟨b01_ne0.mp zh4, b01_ne0.mp zh11⟩]
        first | exact (if_pos ⟨b01_ne0.mp zh42, b01_ne0.mp zh50⟩).symm | exact (if_neg (fun h => b01_eq0.mp zh42 h.1)).symm | exact (if_neg (fun h => b01_eq0.mp zh50 h.2)).symm
      · skip
        refine g_iload3 (pc := 45) dX9_neighbour_45 ?_
        refine g_iconst (pc := 46) (4) dX9_neighbour_46 (by decide) ?_
        refine g_fS2 (pc := 47) (c_X9_isWithin) dX9_neighbour_47 cw_RX9_68 (by decide) (Nat.le_of_ble_eq_true rfl) ?_
        refine g_if_eq (pc := 50) 61 dX9_neighbour_50 (by decide) (fun zh50 => ?_) (fun zh50 => ?_)
        · skip
          refine g_bipush (pc := 61) (-9) dX9_neighbour_61 (by decide) ?_
          refine g_iret (pc := 63) dX9_neighbour_63 rfl ?_
          refine ⟨congrArg (fun t => some (Value.int t)) ?_, rfl, rfl⟩
          unfold nbF
          rw [if_pos ⟨b01_ne0.mp zh4, b01_ne0.mp zh11⟩]
          first | exact (if_pos ⟨b01_ne0.mp zh42, b01_ne0.mp zh50⟩).symm | exact (if_neg (fun h => b01_eq0.mp zh42 h.1)).symm | exact (if_neg (fun h => b01_eq0.mp zh50 h.2)).symm
        · skip
          refine g_iconst (pc := 53) (5) dX9_neighbour_53 (by decide) ?_
          refine g_iload3 (pc := 54) dX9_neighbour_54 ?_
          refine g_imul (pc := 55) dX9_neighbour_55 ?_
          refine g_iload2 (pc := 56) dX9_neighbour_56 ?_
          refine g_iadd (pc := 57) dX9_neighbour_57 ?_
          refine g_goto (pc := 58) 63 dX9_neighbour_58 (by decide) ?_
          refine g_iret (pc := 63) dX9_neighbour_63 rfl ?_
          refine ⟨congrArg (fun t => some (Value.int t)) ?_, rfl, rfl⟩
          unfold nbF
          rw [if_pos ⟨b01_ne0.mp zh4, b01_ne0.mp zh11⟩]
          first | exact (if_pos ⟨b01_ne0.mp zh42, b01_ne0.mp zh50⟩).symm | exact (if_neg (fun h => b01_eq0.mp zh42 h.1)).symm | exact (if_neg (fun h => b01_eq0.mp zh50 h.2)).symm
    · skip
      refine g_bipush (pc := 14) (-9) dX9_neighbour_14 (by decide) ?_
      refine g_iret (pc := 16) dX9_neighbour_16 rfl ?_
      first | exact ⟨congrArg (fun t => some (Value.int t)) (if_neg (fun h => b01_eq0.mp zh4 h.1)).symm, rfl, rfl⟩ | exact ⟨congrArg (fun t => some (Value.int t)) (if_neg (fun h => b01_eq0.mp zh11 h.2)).symm, rfl, rfl⟩
theorem c_X2_across {k : Nat} {x : Int32} {v : Mm} {L : Lm} (hk : kd k = 2) : Fn yX2_across cX2_across 3 (some .int) 1 [.ref k, .int x] v L (some (.int (acF (v k 1) (v k 2) (v k 3) x))) v L := by
  refine Fq.of (plainFor_of_name (by decide)) [some (.ref k), some (.int x), none] rfl (Nat.le_of_ble_eq_true rfl) ?_
  refine g_iload1 (pc := 0) dX2_across_0 ?_
  refine g_fN1 (pc := 1) (c_X9_isDirection) dX2_across_1 cw_RX2_34 (by decide) (Nat.le_of_ble_eq_true rfl) ?_
  refine g_if_ne (pc := 4) 9 dX2_across_4 (by decide) (fun zh4 => ?_) (fun zh4 => ?_)
  · skip
    refine g_getsN (pc := 9) (j := 0) dX2_across_9 (by decide) fl_RX2_38 ?_
    refine g_iload1 (pc := 12) dX2_across_12 ?_
    refine g_sld (pc := 13) (j := 0) dX2_across_13 (by first | decide | omega) (vin_lt (n := 8) (by decide) (b01_ne0.mp zh4)) ?_
    first | refine g_aload0 (pc := 14) dX2_across_14 ?_ | refine g_aloadN0 (pc := 14) dX2_across_14 ?_
    refine g_getI (pc := 15) (j := 3) cf2 dX2_across_15 fl_RX2_21 (by decide) (by decide) (by first | rfl | assumption) ?_
    refine g_imul (pc := 18) dX2_across_18 ?_
    refine g_getsN (pc := 19) (j := 1) dX2_across_19 (by decide) fl_RX2_42 ?_
    refine g_iload1 (pc := 22) dX2_across_22 ?_
    refine g_sld (pc := 23) (j := 1) dX2_across_23 (by first | decide | omega) (vin_lt (n := 8) (by decide) (b01_ne0.mp zh4)) ?_
    first | refine g_aload0 (pc := 24) dX2_across_24 ?_ | refine g_aloadN0 (pc := 24) dX2_across_24 ?_
    refine g_getI (pc := 25) (j := 2) cf2 dX2_across_25 fl_RX2_18 (by decide) (by decide) (by first | rfl | assumption) ?_
    refine g_imul (pc := 28) dX2_across_28 ?_
    refine g_isub (pc := 29) dX2_across_29 ?_
    refine g_fS1 (pc := 30) (c_J9_abs_0f7a4) dX2_across_30 cw_RX2_45 (by decide) (Nat.le_of_ble_eq_true rfl) ?_
    refine g_istore2 (pc := 33) dX2_across_33 (by decide) (by first | rfl | assumption) ?_
    first | refine g_aload0 (pc := 34) dX2_across_34 ?_ | refine g_aloadN0 (pc := 34) dX2_across_34 ?_
    refine g_getI (pc := 35) (j := 1) cf2 dX2_across_35 fl_RX2_15 (by decide) (by decide) (by first | rfl | assumption) ?_
    rcases tsw_0_2 (v k 1) with ze38 | ze38 | ze38 | ze38
    · skip
      refine g_tableIn (pc := 38) (off := 26) 64 dX2_across_38 (by rw [ze38]; decide) (by rw [ze38]; decide) (by rw [ze38]; rfl) (by decide) ?_
      refine g_iload2 (pc := 64) dX2_across_64 ?_
      refine g_iret (pc := 65) dX2_across_65 rfl ?_
      refine ⟨congrArg (fun t => some (Value.int t)) ?_, rfl, rfl⟩
      unfold acF
      rw [if_pos (b01_ne0.mp zh4)]
      first | (rw [if_pos ze38]; rfl) | (rw [if_neg (by rw [ze38]; decide), if_pos ze38]; first | exact (if_pos zh71).symm | exact (if_neg zh71).symm) | (rw [if_neg (by rw [ze38]; decide), if_neg (by rw [ze38]; decide), if_pos ze38]; rfl) | (rw [if_neg (fun q => by rw [q] at ze38; revert ze38; decide), if_neg (fun q => by rw [q] at ze38; revert ze38; decide), if_neg (fun q => by rw [q] at ze38; revert ze38; decide)]; rfl)
    · skip
      refine g_tableIn (pc := 38) (off := 28) 66 dX2_across_38 (by rw [ze38]; decide) (by rw [ze38]; decide) (by rw [ze38]; rfl) (by decide) ?_
      refine g_getsN (pc := 66) (j := 1) dX2_across_66 (by decide) fl_RX2_42 ?_
      refine g_iload1 (pc := 69) dX2_across_69 ?_
      refine g_sld (pc := 70) (j := 1) dX2_across_70 (by first | decide | omega) (vin_lt (n := 8) (by decide) (b01_ne0.mp zh4)) ?_
      refine g_if_ge (pc := 71) 94 dX2_across_71 (by decide) (fun zh71 => ?_) (fun zh71 => ?_)
      · skip
        refine g_iconst (pc := 94) (1) dX2_across_94 (by decide) ?_
        refine g_iret (pc := 95) dX2_across_95 rfl ?_
        refine ⟨congrArg (fun t => some (Value.int t)) ?_, rfl, rfl⟩
        unfold acF
        rw [if_pos (b01_ne0.mp zh4)]
        first | (rw [if_pos ze38]; rfl) | (rw [if_neg (by rw [ze38]; decide), if_pos ze38]; first | exact (if_pos zh71).symm | exact (if_neg zh71).symm) | (rw [if_neg (by rw [ze38]; decide), if_neg (by rw [ze38]; decide), if_pos ze38]; rfl) | (rw [if_neg (fun q => by rw [q] at ze38; revert ze38; decide), if_neg (fun q => by rw [q] at ze38; revert ze38; decide), if_neg (fun q => by rw [q] at ze38; revert ze38; decide)]; rfl)
      · skip
        refine g_iconst (pc := 74) (1) dX2_across_74 (by decide) ?_
        first | refine g_aload0 (pc := 75) dX2_across_75 ?_ | refine g_aloadN0 (pc := 75) dX2_across_75 ?_
        refine g_getI (pc := 76) (j := 2) cf2 dX2_across_76 fl_RX2_18 (by decide) (by decide) (by first | rfl | assumption) ?_
        refine g_fS1 (pc := 79) (c_J9_abs_0f7a4) dX2_across_79 cw_RX2_45 (by decide) (Nat.le_of_ble_eq_true rfl) ?_
        refine g_iadd (pc := 82) dX2_across_82 ?_
        first | refine g_aload0 (pc := 83) dX2_across_83 ?_ | refine g_aloadN0 (pc := 83) dX2_across_83 ?_
        refine g_getI (pc := 84) (j := 3) cf2 dX2_across_84 fl_RX2_21 (by decide) (by decide) (by first | rfl | assumption) ?_
        refine g_fS1 (pc := 87) (c_J9_abs_0f7a4) dX2_across_87 cw_RX2_45 (by decide) (Nat.le_of_ble_eq_true rfl) ?_
        refine g_iadd (pc := 90) dX2_across_90 ?_
        refine g_goto (pc := 91) 95 dX2_across_91 (by decide) ?_
        refine g_iret (pc := 95) dX2_across_95 rfl ?_
        refine ⟨congrArg (fun t => some (Value.int t)) ?_, rfl, rfl⟩
        unfold acF
        rw [if_pos (b01_ne0.mp zh4)]
        first | (rw [if_pos ze38]; rfl) | (rw [if_neg (by rw [ze38]; decide), if_pos ze38]; first | exact (if_pos zh71).symm | exact (if_neg zh71).symm) | (rw [if_neg (by rw [ze38]; decide), if_neg (by rw [ze38]; decide), if_pos ze38]; rfl) | (rw [if_neg (fun q => by rw [q] at ze38; revert ze38; decide), if_neg (fun q => by rw [q] at ze38; revert ze38; decide), if_neg (fun q => by rw [q] at ze38; revert ze38; decide)]; rfl)
    · skip
      refine g_tableIn (pc := 38) (off := 58) 96 dX2_across_38 (by rw [ze38]; decide) (by rw [ze38]; decide) (by rw [ze38]; rfl) (by decide) ?_
      refine g_iconst (pc := 96) (1) dX2_across_96 (by decide) ?_
      refine g_iload2 (pc := 97) dX2_across_97 ?_
      refine g_iadd (pc := 98) dX2_across_98 ?_
      refine g_iret (pc := 99) dX2_across_99 rfl ?_
      refine ⟨congrArg (fun t => some (Value.int t)) ?_, rfl, rfl⟩
      unfold acF
      rw [if_pos (b01_ne0.mp zh4)]
      first | (rw [if_pos ze38]; rfl) | (rw [if_neg (by rw [ze38]; decide), if_pos ze38]; first | exact (if_pos zh71).symm | exact (if_neg zh71).symm) | (rw [if_neg (by rw [ze38]; decide), if_neg (by rw [ze38]; decide), if_pos ze38]; rfl) | (rw [if_neg (fun q => by rw [q] at ze38; revert ze38; decide), if_neg (fun q => by rw [q] at ze38; revert ze38; decide), if_neg (fun q => by rw [q] at ze38; revert ze38; decide)]; rfl)
    · skip
      refine g_tableOut (pc := 38) 100 dX2_across_38 ze38 (by decide) ?_
      refine g_iconst (pc := 100) (2) dX2_across_100 (by decide) ?_
      refine g_iconst (pc := 101) (1) dX2_across_101 (by decide) ?_
      refine g_iload2 (pc := 102) dX2_across_102 ?_
      refine g_iadd (pc := 103) dX2_across_103 ?_
      refine g_fS2 (pc := 104) (c_J9_min_7cf53) dX2_across_104 cw_RX2_51 (by decide) (Nat.le_of_ble_eq_true rfl) ?_
      refine g_iret (pc := 107) dX2_across_107 rfl ?_
      refine ⟨congrArg (fun t => some (Value.int t)) ?_, rfl, rfl⟩
      unfold acF
      rw [if_pos (b01_ne0.mp zh4)]
      first | (rw [if_pos ze38]; rfl) | (rw [if_neg (by rw [ze38]; decide), if_pos ze38]; first | exact (if_pos zh71).symm | exact (if_neg zh71).symm) | (rw [if_neg (by rw [ze38]; decide), if_neg (by rw [ze38]; decide), if_pos ze38]; rfl) | (rw [if_neg (fun q => by rw [q] at ze38; revert ze38; decide), if_neg (fun q => by rw [q] at ze38; revert ze38; decide), if_neg (fun q => by rw [q] at ze38; revert ze38; decide)]; rfl)
  · skip
    refine g_iconst (pc := 7) (0) dX2_across_7 (by decide) ?_
    refine g_iret (pc := 8) dX2_across_8 rfl ?_
    exact ⟨congrArg (fun t => some (Value.int t)) (if_neg (b01_eq0.mp zh4)).symm, rfl, rfl⟩
theorem c_X2_lays {k : Nat} {x y : Int32} {v : Mm} {L : Lm} (hk : kd k = 2) : Fn yX2_lays cX2_lays 3 (some .int) 2 [.ref k, .int x, .int y] v L (some (.int (lyF (v k 6) (v k 1) (v k 2) (v k 3) x y))) v L := by
  refine Fq.of (plainFor_of_name (by decide)) [some (.ref k), some (.int x), some (.int y)] rfl (Nat.le_of_ble_eq_true rfl) ?_
  first | refine g_aload0 (pc := 0) dX2_lays_0 ?_ | refine g_aloadN0 (pc := 0) dX2_lays_0 ?_
  refine g_getI (pc := 1) (j := 6) cf2 dX2_lays_1 fl_RX2_30 (by decide) (by decide) (by first | rfl | assumption) ?_
  refine g_if_eq (pc := 4) 19 dX2_lays_4 (by decide) (fun zh4 => ?_) (fun zh4 => ?_)
  · skip
    refine g_iconst (pc := 19) (0) dX2_lays_19 (by decide) ?_
    refine g_iret (pc := 20) dX2_lays_20 rfl ?_
    first | exact ⟨congrArg (fun t => some (Value.int t)) (if_pos zh4).symm, rfl, rfl⟩ | exact ⟨congrArg (fun t => some (Value.int t)) (if_neg zh4).symm, rfl, rfl⟩
  · skip
    first | refine g_aload0 (pc := 7) dX2_lays_7 ?_ | refine g_aloadN0 (pc := 7) dX2_lays_7 ?_
    refine g_iload1 (pc := 8) dX2_lays_8 ?_
    refine g_fV1 (pc := 9) (c_X2_across hk) cf2 (by first | rfl | assumption) dX2_lays_9 cw_RX2_55 (by decide) (Nat.le_of_ble_eq_true rfl) ?_
    refine g_iload2 (pc := 12) dX2_lays_12 ?_
    refine g_fS2 (pc := 13) (c_J9_min_7cf53) dX2_lays_13 cw_RX2_51 (by decide) (Nat.le_of_ble_eq_true rfl) ?_
    refine g_goto (pc := 16) 20 dX2_lays_16 (by decide) ?_
    refine g_iret (pc := 20) dX2_lays_20 rfl ?_
    first | exact ⟨congrArg (fun t => some (Value.int t)) (if_pos zh4).symm, rfl, rfl⟩ | exact ⟨congrArg (fun t => some (Value.int t)) (if_neg zh4).symm, rfl, rfl⟩
