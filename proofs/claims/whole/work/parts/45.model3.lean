theorem c_X10_dot_s {q : Nat} {v : Mm} {L : Lm} (hq : q < 25) : Fn yX10_dot cX10_dot 2 (some .int) 1 [.ref 79, .int (nI q)] v L (some (.int (v 82 (18 + q)))) v L := by
  have zi : ∀ zx : Int32, ((0 : Int64) ≤ zx.toInt64 ∧ zx.toInt64 ≤ 24) ↔ (0 ≤ zx ∧ zx ≤ 24) := fun zx => inI (y := zx) (by decide) (by decide)
  refine Fq.of (plainFor_of_name (by decide)) [some (.ref 79), some (.int (nI q))] rfl (Nat.le_of_ble_eq_true rfl) ?_
  refine g_iload1 (pc := 0) dX10_dot_0 ?_
  refine g_i2l (pc := 1) dX10_dot_1 ?_
  refine g_lconst (pc := 2) (0) dX10_dot_2 (by decide) ?_
  refine g_ldc2 (pc := 3) _ dX10_dot_3 kc_RX10_153 ?_
  refine g_fS3 (pc := 6) (c_X10_in) dX10_dot_6 cw_RX10_52 (by decide) (Nat.le_of_ble_eq_true rfl) ?_
  refine g_if_eq (pc := 9) 24 dX10_dot_9 (by decide) (fun zh9 => ?_) (fun zh9 => ?_)
  · skip
    exact absurd ((zi _).mpr ⟨nI_pos' (by omega), nI_le (b := 24) (by omega) (by decide)⟩) (b01_eq0.mp zh9)
  · skip
    first | refine g_aload0 (pc := 12) dX10_dot_12 ?_ | refine g_aloadN0 (pc := 12) dX10_dot_12 ?_
    refine g_getR (pc := 13) (j := 3) cf10 dX10_dot_13 fl_RX10_16 (by decide) (by decide) (by first | rfl | assumption) (82) (rfl) ?_
    refine g_bipush (pc := 16) (18) dX10_dot_16 (by decide) ?_
    refine g_iload1 (pc := 18) dX10_dot_18 ?_
    refine g_iadd (pc := 19) dX10_dot_19 ?_
    refine g_ialdX (pc := 20) (18 + q) dX10_dot_20 (rfl) (nI_add 18 q) (by have := ln_all; omega) (by decide) ?_
    refine g_goto (pc := 21) 25 dX10_dot_21 (by decide) ?_
    refine g_iret (pc := 25) dX10_dot_25 rfl ?_
    exact ⟨rfl, rfl, rfl⟩
theorem c_X10_dot_u {x : Int32} {v : Mm} {L : Lm} (hx : ¬ (0 ≤ x ∧ x < 25)) : Fn yX10_dot cX10_dot 2 (some .int) 1 [.ref 79, .int x] v L (some (.int (-1))) v L := by
  have zi : ∀ zx : Int32, ((0 : Int64) ≤ zx.toInt64 ∧ zx.toInt64 ≤ 24) ↔ (0 ≤ zx ∧ zx ≤ 24) := fun zx => inI (y := zx) (by decide) (by decide)
  refine Fq.of (plainFor_of_name (by decide)) [some (.ref 79), some (.int x)] rfl (Nat.le_of_ble_eq_true rfl) ?_
  refine g_iload1 (pc := 0) dX10_dot_0 ?_
  refine g_i2l (pc := 1) dX10_dot_1 ?_
  refine g_lconst (pc := 2) (0) dX10_dot_2 (by decide) ?_
  refine g_ldc2 (pc := 3) _ dX10_dot_3 kc_RX10_153 ?_
  refine g_fS3 (pc := 6) (c_X10_in) dX10_dot_6 cw_RX10_52 (by decide) (Nat.le_of_ble_eq_true rfl) ?_
  refine g_if_eq (pc := 9) 24 dX10_dot_9 (by decide) (fun zh9 => ?_) (fun zh9 => ?_)
  · skip
    refine g_iconst (pc := 24) (-1) dX10_dot_24 (by decide) ?_
    refine g_iret (pc := 25) dX10_dot_25 rfl ?_
    exact ⟨rfl, rfl, rfl⟩
  · skip
    exact absurd ((zi _).mp (b01_ne0.mp zh9)) (fun zq => hx ⟨zq.1, le24.mp zq.2⟩)
theorem c_X10_thick_u {n : Nat} {x : Int32} {y : Int32} {v : Mm} {L : Lm} (hn : v 79 0 = nI n) (hn4 : n ≤ 4) (hp : ¬ (0 ≤ x ∧ x < nI n)) : Fn yX10_thick cX10_thick 3 (some .int) 2 [.ref 79, .int x, .int y] v L (some (.int (-1))) v L := by
  refine Fq.of (plainFor_of_name (by decide)) [some (.ref 79), some (.int x), some (.int y)] rfl (Nat.le_of_ble_eq_true rfl) ?_
  first | refine g_aload0 (pc := 0) dX10_thick_0 ?_ | refine g_aloadN0 (pc := 0) dX10_thick_0 ?_
  refine g_iload1 (pc := 1) dX10_thick_1 ?_
  refine g_fV1 (pc := 2) (c_X10_isPen hn hn4) cf10 (by first | rfl | assumption) dX10_thick_2 cw_RX10_115 (by decide) (Nat.le_of_ble_eq_true rfl) ?_
  refine g_if_ne (pc := 5) 10 dX10_thick_5 (by decide) (fun zh5 => ?_) (fun zh5 => ?_)
  · skip
    exact absurd (b01_ne0.mp zh5) hp
  · skip
    refine g_iconst (pc := 8) (-1) dX10_thick_8 (by decide) ?_
    refine g_iret (pc := 9) dX10_thick_9 rfl ?_
    exact ⟨rfl, rfl, rfl⟩
theorem c_X10_thick_o {n p : Nat} {y : Int32} {v : Mm} {L : Lm} (hn : v 79 0 = nI n) (hn4 : n ≤ 4) (hp : p < n) (hy : ¬ (0 ≤ y ∧ y < 8)) : Fn yX10_thick cX10_thick 3 (some .int) 2 [.ref 79, .int (nI p), .int y] v L (some (.int (-2))) v L := by
  have zi : ∀ zx : Int32, ((0 : Int64) ≤ zx.toInt64 ∧ zx.toInt64 ≤ 7) ↔ (0 ≤ zx ∧ zx ≤ 7) := fun zx => inI (y := zx) (by decide) (by decide)
  refine Fq.of (plainFor_of_name (by decide)) [some (.ref 79), some (.int (nI p)), some (.int y)] rfl (Nat.le_of_ble_eq_true rfl) ?_
  first | refine g_aload0 (pc := 0) dX10_thick_0 ?_ | refine g_aloadN0 (pc := 0) dX10_thick_0 ?_
  refine g_iload1 (pc := 1) dX10_thick_1 ?_
  refine g_fV1 (pc := 2) (c_X10_isPen hn hn4) cf10 (by first | rfl | assumption) dX10_thick_2 cw_RX10_115 (by decide) (Nat.le_of_ble_eq_true rfl) ?_
  refine g_if_ne (pc := 5) 10 dX10_thick_5 (by decide) (fun zh5 => ?_) (fun zh5 => ?_)
  · skip
    refine g_iload2 (pc := 10) dX10_thick_10 ?_
    refine g_i2l (pc := 11) dX10_thick_11 ?_
    refine g_lconst (pc := 12) (0) dX10_thick_12 (by decide) ?_
    refine g_ldc2 (pc := 13) _ dX10_thick_13 kc_RX10_98 ?_
    refine g_fS3 (pc := 16) (c_X10_in) dX10_thick_16 cw_RX10_52 (by decide) (Nat.le_of_ble_eq_true rfl) ?_
    refine g_if_eq (pc := 19) 32 dX10_thick_19 (by decide) (fun zh19 => ?_) (fun zh19 => ?_)
    · skip
      refine g_bipush (pc := 32) (-2) dX10_thick_32 (by decide) ?_
      refine g_iret (pc := 34) dX10_thick_34 rfl ?_
      exact ⟨rfl, rfl, rfl⟩
    · skip
      exact absurd ((zi _).mp (b01_ne0.mp zh19)) (fun zq => hy ⟨zq.1, le7.mp zq.2⟩)
  · skip
    exact absurd ⟨nI_pos' (by omega), nI_lt hp (by omega)⟩ (b01_eq0.mp zh5)
theorem c_X10_thick_s {n p : Nat} {y : Int32} {v : Mm} {L : Lm} (hn : v 79 0 = nI n) (hn4 : n ≤ 4) (hp : p < n) (hy : 0 ≤ y ∧ y < 8) : Fn yX10_thick cX10_thick 3 (some .int) 2 [.ref 79, .int (nI p), .int y] v L (some (.int (thM v 0 p y))) v L := by
  have zi : ∀ zx : Int32, ((0 : Int64) ≤ zx.toInt64 ∧ zx.toInt64 ≤ 7) ↔ (0 ≤ zx ∧ zx ≤ 7) := fun zx => inI (y := zx) (by decide) (by decide)
  refine Fq.of (plainFor_of_name (by decide)) [some (.ref 79), some (.int (nI p)), some (.int y)] rfl (Nat.le_of_ble_eq_true rfl) ?_
  first | refine g_aload0 (pc := 0) dX10_thick_0 ?_ | refine g_aloadN0 (pc := 0) dX10_thick_0 ?_
  refine g_iload1 (pc := 1) dX10_thick_1 ?_
  refine g_fV1 (pc := 2) (c_X10_isPen hn hn4) cf10 (by first | rfl | assumption) dX10_thick_2 cw_RX10_115 (by decide) (Nat.le_of_ble_eq_true rfl) ?_
  refine g_if_ne (pc := 5) 10 dX10_thick_5 (by decide) (fun zh5 => ?_) (fun zh5 => ?_)
  · skip
    refine g_iload2 (pc := 10) dX10_thick_10 ?_
    refine g_i2l (pc := 11) dX10_thick_11 ?_
    refine g_lconst (pc := 12) (0) dX10_thick_12 (by decide) ?_
    refine g_ldc2 (pc := 13) _ dX10_thick_13 kc_RX10_98 ?_
    refine g_fS3 (pc := 16) (c_X10_in) dX10_thick_16 cw_RX10_52 (by decide) (Nat.le_of_ble_eq_true rfl) ?_
    refine g_if_eq (pc := 19) 32 dX10_thick_19 (by decide) (fun zh19 => ?_) (fun zh19 => ?_)
    · skip
      exact absurd ((zi _).mpr ⟨hy.1, le7.mpr hy.2⟩) (b01_eq0.mp zh19)
    · skip
      first | refine g_aload0 (pc := 22) dX10_thick_22 ?_ | refine g_aloadN0 (pc := 22) dX10_thick_22 ?_
      refine g_iconst (pc := 23) (0) dX10_thick_23 (by decide) ?_
      refine g_iload1 (pc := 24) dX10_thick_24 ?_
      refine g_iload2 (pc := 25) dX10_thick_25 ?_
      refine g_fV3 (pc := 26) (c_X10_thickOn (l := 0) (by decide) (by omega)) cf10 (by first | rfl | assumption) dX10_thick_26 cw_RX10_122 (by decide) (Nat.le_of_ble_eq_true rfl) ?_
      refine g_goto (pc := 29) 34 dX10_thick_29 (by decide) ?_
      refine g_iret (pc := 34) dX10_thick_34 rfl ?_
      exact ⟨rfl, rfl, rfl⟩
  · skip
    exact absurd ⟨nI_pos' (by omega), nI_lt hp (by omega)⟩ (b01_eq0.mp zh5)
theorem c_X10_step_u {n : Nat} {x : Int32} {y : Int32} {v : Mm} {L : Lm} (hn : v 79 0 = nI n) (hn4 : n ≤ 4) (hp : ¬ (0 ≤ x ∧ x < nI n)) : Fn yX10_step cX10_step 3 (some .int) 3 [.ref 79, .int x, .int y] v L (some (.int (-1))) v L := by
  refine Fq.of (plainFor_of_name (by decide)) [some (.ref 79), some (.int x), some (.int y)] rfl (Nat.le_of_ble_eq_true rfl) ?_
  first | refine g_aload0 (pc := 0) dX10_step_0 ?_ | refine g_aloadN0 (pc := 0) dX10_step_0 ?_
  refine g_iload1 (pc := 1) dX10_step_1 ?_
  refine g_fV1 (pc := 2) (c_X10_isPen hn hn4) cf10 (by first | rfl | assumption) dX10_step_2 cw_RX10_115 (by decide) (Nat.le_of_ble_eq_true rfl) ?_
  refine g_if_ne (pc := 5) 10 dX10_step_5 (by decide) (fun zh5 => ?_) (fun zh5 => ?_)
  · skip
    exact absurd (b01_ne0.mp zh5) hp
  · skip
    refine g_iconst (pc := 8) (-1) dX10_step_8 (by decide) ?_
    refine g_iret (pc := 9) dX10_step_9 rfl ?_
    exact ⟨rfl, rfl, rfl⟩
theorem c_X10_put_u {n : Nat} {x : Int32}  {v : Mm} {L : Lm} (hn : v 79 0 = nI n) (hn4 : n ≤ 4) (hp : ¬ (0 ≤ x ∧ x < nI n)) : Fn yX10_put cX10_put 2 (some .int) 2 [.ref 79, .int x] v L (some (.int (-1))) v L := by
  refine Fq.of (plainFor_of_name (by decide)) [some (.ref 79), some (.int x)] rfl (Nat.le_of_ble_eq_true rfl) ?_
  first | refine g_aload0 (pc := 0) dX10_put_0 ?_ | refine g_aloadN0 (pc := 0) dX10_put_0 ?_
  refine g_iload1 (pc := 1) dX10_put_1 ?_
  refine g_fV1 (pc := 2) (c_X10_isPen hn hn4) cf10 (by first | rfl | assumption) dX10_put_2 cw_RX10_115 (by decide) (Nat.le_of_ble_eq_true rfl) ?_
  refine g_if_ne (pc := 5) 10 dX10_put_5 (by decide) (fun zh5 => ?_) (fun zh5 => ?_)
  · skip
    exact absurd (b01_ne0.mp zh5) hp
  · skip
    refine g_iconst (pc := 8) (-1) dX10_put_8 (by decide) ?_
    refine g_iret (pc := 9) dX10_put_9 rfl ?_
    exact ⟨rfl, rfl, rfl⟩
theorem c_X10_dip_u {n : Nat} {x : Int32}  {v : Mm} {L : Lm} (hn : v 79 0 = nI n) (hn4 : n ≤ 4) (hp : ¬ (0 ≤ x ∧ x < nI n)) : Fn yX10_dip cX10_dip 3 (some .int) 2 [.ref 79, .int x] v L (some (.int (-1))) v L := by
  refine Fq.of (plainFor_of_name (by decide)) [some (.ref 79), some (.int x), none] rfl (Nat.le_of_ble_eq_true rfl) ?_
  first | refine g_aload0 (pc := 0) dX10_dip_0 ?_ | refine g_aloadN0 (pc := 0) dX10_dip_0 ?_
  refine g_iload1 (pc := 1) dX10_dip_1 ?_
  refine g_fV1 (pc := 2) (c_X10_isPen hn hn4) cf10 (by first | rfl | assumption) dX10_dip_2 cw_RX10_115 (by decide) (Nat.le_of_ble_eq_true rfl) ?_
  refine g_if_ne (pc := 5) 10 dX10_dip_5 (by decide) (fun zh5 => ?_) (fun zh5 => ?_)
  · skip
    exact absurd (b01_ne0.mp zh5) hp
  · skip
    refine g_iconst (pc := 8) (-1) dX10_dip_8 (by decide) ?_
    refine g_iret (pc := 9) dX10_dip_9 rfl ?_
    exact ⟨rfl, rfl, rfl⟩
theorem c_X10_turn_u {n : Nat} {x : Int32}  {v : Mm} {L : Lm} (hn : v 79 0 = nI n) (hn4 : n ≤ 4) (hp : ¬ (0 ≤ x ∧ x < nI n)) : Fn yX10_turn cX10_turn 2 (some .int) 2 [.ref 79, .int x] v L (some (.int (-1))) v L := by
  refine Fq.of (plainFor_of_name (by decide)) [some (.ref 79), some (.int x)] rfl (Nat.le_of_ble_eq_true rfl) ?_
  first | refine g_aload0 (pc := 0) dX10_turn_0 ?_ | refine g_aloadN0 (pc := 0) dX10_turn_0 ?_
  refine g_iload1 (pc := 1) dX10_turn_1 ?_
  refine g_fV1 (pc := 2) (c_X10_isPen hn hn4) cf10 (by first | rfl | assumption) dX10_turn_2 cw_RX10_115 (by decide) (Nat.le_of_ble_eq_true rfl) ?_
  refine g_if_ne (pc := 5) 10 dX10_turn_5 (by decide) (fun zh5 => ?_) (fun zh5 => ?_)
  · skip
    exact absurd (b01_ne0.mp zh5) hp
  · skip
    refine g_iconst (pc := 8) (-1) dX10_turn_8 (by decide) ?_
    refine g_iret (pc := 9) dX10_turn_9 rfl ?_
    exact ⟨rfl, rfl, rfl⟩
theorem c_X10_step_o {n p : Nat} {y : Int32} {v : Mm} {L : Lm} (hn : v 79 0 = nI n) (hn4 : n ≤ 4) (hp : p < n) (hy : ¬ (0 ≤ y ∧ y < 8)) : Fn yX10_step cX10_step 3 (some .int) 3 [.ref 79, .int (nI p), .int y] v L (some (.int (-2))) v L := by
  have zi : ∀ zx : Int32, ((0 : Int64) ≤ zx.toInt64 ∧ zx.toInt64 ≤ 7) ↔ (0 ≤ zx ∧ zx ≤ 7) := fun zx => inI (y := zx) (by decide) (by decide)
  refine Fq.of (plainFor_of_name (by decide)) [some (.ref 79), some (.int (nI p)), some (.int y)] rfl (Nat.le_of_ble_eq_true rfl) ?_
  first | refine g_aload0 (pc := 0) dX10_step_0 ?_ | refine g_aloadN0 (pc := 0) dX10_step_0 ?_
  refine g_iload1 (pc := 1) dX10_step_1 ?_
  refine g_fV1 (pc := 2) (c_X10_isPen hn hn4) cf10 (by first | rfl | assumption) dX10_step_2 cw_RX10_115 (by decide) (Nat.le_of_ble_eq_true rfl) ?_
  refine g_if_ne (pc := 5) 10 dX10_step_5 (by decide) (fun zh5 => ?_) (fun zh5 => ?_)
  · skip
    refine g_iload2 (pc := 10) dX10_step_10 ?_
    refine g_i2l (pc := 11) dX10_step_11 ?_
    refine g_lconst (pc := 12) (0) dX10_step_12 (by decide) ?_
    refine g_ldc2 (pc := 13) _ dX10_step_13 kc_RX10_98 ?_
    refine g_fS3 (pc := 16) (c_X10_in) dX10_step_16 cw_RX10_52 (by decide) (Nat.le_of_ble_eq_true rfl) ?_
    refine g_if_ne (pc := 19) 25 dX10_step_19 (by decide) (fun zh19 => ?_) (fun zh19 => ?_)
    · skip
      exact absurd ((zi _).mp (b01_ne0.mp zh19)) (fun zq => hy ⟨zq.1, le7.mp zq.2⟩)
    · skip
      refine g_bipush (pc := 22) (-2) dX10_step_22 (by decide) ?_
      refine g_iret (pc := 24) dX10_step_24 rfl ?_
      exact ⟨rfl, rfl, rfl⟩
  · skip
    exact absurd ⟨nI_pos' (by omega), nI_lt hp (by omega)⟩ (b01_eq0.mp zh5)
theorem c_X10_step_n {n p : Nat} {y : Int32} {v : Mm} {L : Lm} (hn : v 79 0 = nI n) (hn4 : n ≤ 4) (hp : p < n) (hy : 0 ≤ y ∧ y < 8) (hnd : ndF (v 82 p) y = -9) : Fn yX10_step cX10_step 3 (some .int) 3 [.ref 79, .int (nI p), .int y] v L (some (.int (-3))) v L := by
  have zi : ∀ zx : Int32, ((0 : Int64) ≤ zx.toInt64 ∧ zx.toInt64 ≤ 7) ↔ (0 ≤ zx ∧ zx ≤ 7) := fun zx => inI (y := zx) (by decide) (by decide)
  refine Fq.of (plainFor_of_name (by decide)) [some (.ref 79), some (.int (nI p)), some (.int y)] rfl (Nat.le_of_ble_eq_true rfl) ?_
  first | refine g_aload0 (pc := 0) dX10_step_0 ?_ | refine g_aloadN0 (pc := 0) dX10_step_0 ?_
  refine g_iload1 (pc := 1) dX10_step_1 ?_
  refine g_fV1 (pc := 2) (c_X10_isPen hn hn4) cf10 (by first | rfl | assumption) dX10_step_2 cw_RX10_115 (by decide) (Nat.le_of_ble_eq_true rfl) ?_
  refine g_if_ne (pc := 5) 10 dX10_step_5 (by decide) (fun zh5 => ?_) (fun zh5 => ?_)
  · skip
    refine g_iload2 (pc := 10) dX10_step_10 ?_
    refine g_i2l (pc := 11) dX10_step_11 ?_
    refine g_lconst (pc := 12) (0) dX10_step_12 (by decide) ?_
    refine g_ldc2 (pc := 13) _ dX10_step_13 kc_RX10_98 ?_
    refine g_fS3 (pc := 16) (c_X10_in) dX10_step_16 cw_RX10_52 (by decide) (Nat.le_of_ble_eq_true rfl) ?_
    refine g_if_ne (pc := 19) 25 dX10_step_19 (by decide) (fun zh19 => ?_) (fun zh19 => ?_)
    · skip
      first | refine g_aload0 (pc := 25) dX10_step_25 ?_ | refine g_aloadN0 (pc := 25) dX10_step_25 ?_
      refine g_iconst (pc := 26) (0) dX10_step_26 (by decide) ?_
      refine g_iload1 (pc := 27) dX10_step_27 ?_
      refine g_iload2 (pc := 28) dX10_step_28 ?_
      refine g_fV3 (pc := 29) (c_X10_canStep (l := 0) hn hn4 (by decide) hp) cf10 (by first | rfl | assumption) dX10_step_29 cw_RX10_133 (by decide) (Nat.le_of_ble_eq_true rfl) ?_
      refine g_if_ne (pc := 32) 38 dX10_step_32 (by decide) (fun zh32 => ?_) (fun zh32 => ?_)
      · skip
        exact absurd (b01_ne0.mp zh32).2 (fun zq => zq (by rw [Nat.mul_zero, Nat.zero_add]; exact hnd))
      · skip
        refine g_bipush (pc := 35) (-3) dX10_step_35 (by decide) ?_
        refine g_iret (pc := 37) dX10_step_37 rfl ?_
        exact ⟨rfl, rfl, rfl⟩
    · skip
      exact absurd ((zi _).mpr ⟨hy.1, le7.mpr hy.2⟩) (b01_eq0.mp zh19)
  · skip
    exact absurd ⟨nI_pos' (by omega), nI_lt hp (by omega)⟩ (b01_eq0.mp zh5)
theorem c_X10_step_s {n p xq c : Nat} {q : Nat} {y : Int32} {v : Mm} {L : Lm} (hn : v 79 0 = nI n) (hn4 : n ≤ 4) (hp : p < n) (hy : 0 ≤ y ∧ y < 8) (hq25 : q < 25) (hnd : ndF (v 82 p) y = nI q) (hx : xq < 14) (hx0 : v 79 16 = nI xq) (hc : v 79 15 = nI c) (hc14 : c ≤ 14) : Fn yX10_step cX10_step 3 (some .int) 3 [.ref 79, .int (nI p), .int y] v L (some (.int (msL (kaV v xq c) 0 p y))) (msV (kaV v xq c) 0 p y) L := by
  have zi : ∀ zx : Int32, ((0 : Int64) ≤ zx.toInt64 ∧ zx.toInt64 ≤ 7) ↔ (0 ≤ zx ∧ zx ≤ 7) := fun zx => inI (y := zx) (by decide) (by decide)
  have z0 : ndF (v 82 (43 * 0 + p)) y = nI q := by rw [Nat.mul_zero, Nat.zero_add]; exact hnd
  refine Fq.of (plainFor_of_name (by decide)) [some (.ref 79), some (.int (nI p)), some (.int y)] rfl (Nat.le_of_ble_eq_true rfl) ?_
  first | refine g_aload0 (pc := 0) dX10_step_0 ?_ | refine g_aloadN0 (pc := 0) dX10_step_0 ?_
  refine g_iload1 (pc := 1) dX10_step_1 ?_
  refine g_fV1 (pc := 2) (c_X10_isPen hn hn4) cf10 (by first | rfl | assumption) dX10_step_2 cw_RX10_115 (by decide) (Nat.le_of_ble_eq_true rfl) ?_
  refine g_if_ne (pc := 5) 10 dX10_step_5 (by decide) (fun zh5 => ?_) (fun zh5 => ?_)
  · skip
    refine g_iload2 (pc := 10) dX10_step_10 ?_
    refine g_i2l (pc := 11) dX10_step_11 ?_
    refine g_lconst (pc := 12) (0) dX10_step_12 (by decide) ?_
    refine g_ldc2 (pc := 13) _ dX10_step_13 kc_RX10_98 ?_
    refine g_fS3 (pc := 16) (c_X10_in) dX10_step_16 cw_RX10_52 (by decide) (Nat.le_of_ble_eq_true rfl) ?_
    refine g_if_ne (pc := 19) 25 dX10_step_19 (by decide) (fun zh19 => ?_) (fun zh19 => ?_)
    · skip
      first | refine g_aload0 (pc := 25) dX10_step_25 ?_ | refine g_aloadN0 (pc := 25) dX10_step_25 ?_
      refine g_iconst (pc := 26) (0) dX10_step_26 (by decide) ?_
      refine g_iload1 (pc := 27) dX10_step_27 ?_
      refine g_iload2 (pc := 28) dX10_step_28 ?_
      refine g_fV3 (pc := 29) (c_X10_canStep (l := 0) hn hn4 (by decide) hp) cf10 (by first | rfl | assumption) dX10_step_29 cw_RX10_133 (by decide) (Nat.le_of_ble_eq_true rfl) ?_
      refine g_if_ne (pc := 32) 38 dX10_step_32 (by decide) (fun zh32 => ?_) (fun zh32 => ?_)
      · skip
        first | refine g_aload0 (pc := 38) dX10_step_38 ?_ | refine g_aloadN0 (pc := 38) dX10_step_38 ?_
        refine g_vV0 (pc := 39) (c_X10_keepAct hx hx0 hc hc14) cf10 (by first | rfl | assumption) dX10_step_39 cw_RX10_158 (by decide) (Nat.le_of_ble_eq_true rfl) ?_
        first | refine g_aload0 (pc := 42) dX10_step_42 ?_ | refine g_aloadN0 (pc := 42) dX10_step_42 ?_
        refine g_iconst (pc := 43) (0) dX10_step_43 (by decide) ?_
        refine g_iload1 (pc := 44) dX10_step_44 ?_
        refine g_iload2 (pc := 45) dX10_step_45 ?_
        refine g_fV3 (pc := 46) (c_X10_stepOn (l := 0) (by decide) (by omega) hq25 (by rw [kaV_away (by decide) (by omega)]; exact z0)) cf10 (by first | rfl | assumption) dX10_step_46 cw_RX10_137 (by decide) (Nat.le_of_ble_eq_true rfl) ?_
        refine g_iret (pc := 49) dX10_step_49 rfl ?_
        exact ⟨rfl, rfl, rfl⟩
      · skip
        exact absurd ⟨⟨hy.1, le7.mpr hy.2⟩, fun zq => nI_ne9 (by omega) (z0.symm.trans zq)⟩ (b01_eq0.mp zh32)
    · skip
      exact absurd ((zi _).mpr ⟨hy.1, le7.mpr hy.2⟩) (b01_eq0.mp zh19)
  · skip
    exact absurd ⟨nI_pos' (by omega), nI_lt hp (by omega)⟩ (b01_eq0.mp zh5)
theorem c_X10_put_s {n p xq c : Nat} {v : Mm} {L : Lm} (hn : v 79 0 = nI n) (hn4 : n ≤ 4) (hp : p < n) (hx : xq < 14) (hx0 : v 79 16 = nI xq) (hc : v 79 15 = nI c) (hc14 : c ≤ 14) : Fn yX10_put cX10_put 2 (some .int) 2 [.ref 79, .int (nI p)] v L (some (.int (((upd2 (kaV v xq c) 82 16 ((kaV v xq c) 82 16 ^^^ bit1 p)) 82 16 >>> (nI p &&& 31)) &&& 1))) (upd2 (kaV v xq c) 82 16 ((kaV v xq c) 82 16 ^^^ bit1 p)) L := by
  refine Fq.of (plainFor_of_name (by decide)) [some (.ref 79), some (.int (nI p))] rfl (Nat.le_of_ble_eq_true rfl) ?_
  first | refine g_aload0 (pc := 0) dX10_put_0 ?_ | refine g_aloadN0 (pc := 0) dX10_put_0 ?_
  refine g_iload1 (pc := 1) dX10_put_1 ?_
  refine g_fV1 (pc := 2) (c_X10_isPen hn hn4) cf10 (by first | rfl | assumption) dX10_put_2 cw_RX10_115 (by decide) (Nat.le_of_ble_eq_true rfl) ?_
  refine g_if_ne (pc := 5) 10 dX10_put_5 (by decide) (fun zh5 => ?_) (fun zh5 => ?_)
  · skip
    first | refine g_aload0 (pc := 10) dX10_put_10 ?_ | refine g_aloadN0 (pc := 10) dX10_put_10 ?_
    refine g_vV0 (pc := 11) (c_X10_keepAct hx hx0 hc hc14) cf10 (by first | rfl | assumption) dX10_put_11 cw_RX10_158 (by decide) (Nat.le_of_ble_eq_true rfl) ?_
    first | refine g_aload0 (pc := 14) dX10_put_14 ?_ | refine g_aloadN0 (pc := 14) dX10_put_14 ?_
    refine g_getR (pc := 15) (j := 3) cf10 dX10_put_15 fl_RX10_16 (by decide) (by decide) (by first | rfl | assumption) (82) (rfl) ?_
    refine g_bipush (pc := 18) (16) dX10_put_18 (by decide) ?_
    refine g_dup2 (pc := 20) dX10_put_20 rfl rfl ?_
    refine g_ialdX (pc := 21) (16) dX10_put_21 (rfl) (rfl) (by have := ln_all; omega) (by decide) ?_
    refine g_iconst (pc := 22) (1) dX10_put_22 (by decide) ?_
    refine g_iload1 (pc := 23) dX10_put_23 ?_
    refine g_ishl (pc := 24) dX10_put_24 ?_
    refine g_ixor (pc := 25) dX10_put_25 ?_
    refine g_iastX (pc := 26) (16) dX10_put_26 (rfl) (rfl) (by have := ln_all; omega) (by decide) ?_
    first | refine g_aload0 (pc := 27) dX10_put_27 ?_ | refine g_aloadN0 (pc := 27) dX10_put_27 ?_
    refine g_getR (pc := 28) (j := 3) cf10 dX10_put_28 fl_RX10_16 (by decide) (by decide) (by first | rfl | assumption) (82) (rfl) ?_
    refine g_bipush (pc := 31) (16) dX10_put_31 (by decide) ?_
    refine g_ialdX (pc := 33) (16) dX10_put_33 (rfl) (rfl) (by have := ln_all; omega) (by decide) ?_
    refine g_iload1 (pc := 34) dX10_put_34 ?_
    refine g_ishr (pc := 35) dX10_put_35 ?_
    refine g_iconst (pc := 36) (1) dX10_put_36 (by decide) ?_
    refine g_iand (pc := 37) dX10_put_37 ?_
    refine g_iret (pc := 38) dX10_put_38 rfl ?_
    exact ⟨rfl, rfl, rfl⟩
  · skip
    exact absurd ⟨nI_pos' (by omega), nI_lt hp (by omega)⟩ (b01_eq0.mp zh5)
theorem c_X10_dip_n {n p : Nat} {v : Mm} {L : Lm} (hn : v 79 0 = nI n) (hn4 : n ≤ 4) (hp : p < n) (hf : v 82 (12 + p) = v 81 p) : Fn yX10_dip cX10_dip 3 (some .int) 2 [.ref 79, .int (nI p)] v L (some (.int (-3))) v L := by
  refine Fq.of (plainFor_of_name (by decide)) [some (.ref 79), some (.int (nI p)), none] rfl (Nat.le_of_ble_eq_true rfl) ?_
  first | refine g_aload0 (pc := 0) dX10_dip_0 ?_ | refine g_aloadN0 (pc := 0) dX10_dip_0 ?_
  refine g_iload1 (pc := 1) dX10_dip_1 ?_
  refine g_fV1 (pc := 2) (c_X10_isPen hn hn4) cf10 (by first | rfl | assumption) dX10_dip_2 cw_RX10_115 (by decide) (Nat.le_of_ble_eq_true rfl) ?_
  refine g_if_ne (pc := 5) 10 dX10_dip_5 (by decide) (fun zh5 => ?_) (fun zh5 => ?_)
  · skip
    first | refine g_aload0 (pc := 10) dX10_dip_10 ?_ | refine g_aloadN0 (pc := 10) dX10_dip_10 ?_
    refine g_getR (pc := 11) (j := 3) cf10 dX10_dip_11 fl_RX10_16 (by decide) (by decide) (by first | rfl | assumption) (82) (rfl) ?_
    refine g_bipush (pc := 14) (12) dX10_dip_14 (by decide) ?_
    refine g_iload1 (pc := 16) dX10_dip_16 ?_
    refine g_iadd (pc := 17) dX10_dip_17 ?_
    refine g_ialdX (pc := 18) (12 + p) dX10_dip_18 (rfl) (nI_add 12 p) (by have := ln_all; omega) (by decide) ?_
    first | refine g_aload0 (pc := 19) dX10_dip_19 ?_ | refine g_aloadN0 (pc := 19) dX10_dip_19 ?_
    refine g_getR (pc := 20) (j := 2) cf10 dX10_dip_20 fl_RX10_13 (by decide) (by decide) (by first | rfl | assumption) (81) (rfl) ?_
    refine g_iload1 (pc := 23) dX10_dip_23 ?_
    refine g_ialdX (pc := 24) (p) dX10_dip_24 (rfl) (rfl) (by have := ln_all; omega) (by decide) ?_
    refine g_icmp_ne (pc := 25) 31 dX10_dip_25 (by decide) (fun zh25 => ?_) (fun zh25 => ?_)
    · skip
      exact absurd hf zh25
    · skip
      refine g_bipush (pc := 28) (-3) dX10_dip_28 (by decide) ?_
      refine g_iret (pc := 30) dX10_dip_30 rfl ?_
      exact ⟨rfl, rfl, rfl⟩
  · skip
    exact absurd ⟨nI_pos' (by omega), nI_lt hp (by omega)⟩ (b01_eq0.mp zh5)
theorem c_X10_dip_s {n p xq c : Nat} {v : Mm} {L : Lm} (hn : v 79 0 = nI n) (hn4 : n ≤ 4) (hp : p < n) (hf : ¬ v 82 (12 + p) = v 81 p) (hx : xq < 14) (hx0 : v 79 16 = nI xq) (hc : v 79 15 = nI c) (hc14 : c ≤ 14) : Fn yX10_dip cX10_dip 3 (some .int) 2 [.ref 79, .int (nI p)] v L (some (.int ((kaV v xq c) 81 p - (kaV v xq c) 82 (12 + p)))) (upd2 (kaV v xq c) 82 (12 + p) ((kaV v xq c) 81 p)) L := by
  refine Fq.of (plainFor_of_name (by decide)) [some (.ref 79), some (.int (nI p)), none] rfl (Nat.le_of_ble_eq_true rfl) ?_
  first | refine g_aload0 (pc := 0) dX10_dip_0 ?_ | refine g_aloadN0 (pc := 0) dX10_dip_0 ?_
  refine g_iload1 (pc := 1) dX10_dip_1 ?_
  refine g_fV1 (pc := 2) (c_X10_isPen hn hn4) cf10 (by first | rfl | assumption) dX10_dip_2 cw_RX10_115 (by decide) (Nat.le_of_ble_eq_true rfl) ?_
  refine g_if_ne (pc := 5) 10 dX10_dip_5 (by decide) (fun zh5 => ?_) (fun zh5 => ?_)
  · skip
    first | refine g_aload0 (pc := 10) dX10_dip_10 ?_ | refine g_aloadN0 (pc := 10) dX10_dip_10 ?_
    refine g_getR (pc := 11) (j := 3) cf10 dX10_dip_11 fl_RX10_16 (by decide) (by decide) (by first | rfl | assumption) (82) (rfl) ?_
    refine g_bipush (pc := 14) (12) dX10_dip_14 (by decide) ?_
    refine g_iload1 (pc := 16) dX10_dip_16 ?_
    refine g_iadd (pc := 17) dX10_dip_17 ?_
    refine g_ialdX (pc := 18) (12 + p) dX10_dip_18 (rfl) (nI_add 12 p) (by have := ln_all; omega) (by decide) ?_
    first | refine g_aload0 (pc := 19) dX10_dip_19 ?_ | refine g_aloadN0 (pc := 19) dX10_dip_19 ?_
    refine g_getR (pc := 20) (j := 2) cf10 dX10_dip_20 fl_RX10_13 (by decide) (by decide) (by first | rfl | assumption) (81) (rfl) ?_
    refine g_iload1 (pc := 23) dX10_dip_23 ?_
    refine g_ialdX (pc := 24) (p) dX10_dip_24 (rfl) (rfl) (by have := ln_all; omega) (by decide) ?_
    refine g_icmp_ne (pc := 25) 31 dX10_dip_25 (by decide) (fun zh25 => ?_) (fun zh25 => ?_)
    · skip
      first | refine g_aload0 (pc := 31) dX10_dip_31 ?_ | refine g_aloadN0 (pc := 31) dX10_dip_31 ?_
      refine g_vV0 (pc := 32) (c_X10_keepAct hx hx0 hc hc14) cf10 (by first | rfl | assumption) dX10_dip_32 cw_RX10_158 (by decide) (Nat.le_of_ble_eq_true rfl) ?_
      first | refine g_aload0 (pc := 35) dX10_dip_35 ?_ | refine g_aloadN0 (pc := 35) dX10_dip_35 ?_
      refine g_getR (pc := 36) (j := 2) cf10 dX10_dip_36 fl_RX10_13 (by decide) (by decide) (by first | rfl | assumption) (81) (rfl) ?_
      refine g_iload1 (pc := 39) dX10_dip_39 ?_
      refine g_ialdX (pc := 40) (p) dX10_dip_40 (rfl) (rfl) (by have := ln_all; omega) (by decide) ?_
      first | refine g_aload0 (pc := 41) dX10_dip_41 ?_ | refine g_aloadN0 (pc := 41) dX10_dip_41 ?_
      refine g_getR (pc := 42) (j := 3) cf10 dX10_dip_42 fl_RX10_16 (by decide) (by decide) (by first | rfl | assumption) (82) (rfl) ?_
      refine g_bipush (pc := 45) (12) dX10_dip_45 (by decide) ?_
      refine g_iload1 (pc := 47) dX10_dip_47 ?_
      refine g_iadd (pc := 48) dX10_dip_48 ?_
      refine g_ialdX (pc := 49) (12 + p) dX10_dip_49 (rfl) (nI_add 12 p) (by have := ln_all; omega) (by decide) ?_
      refine g_isub (pc := 50) dX10_dip_50 ?_
      refine g_istore2 (pc := 51) dX10_dip_51 (by decide) (by first | rfl | assumption) ?_
      first | refine g_aload0 (pc := 52) dX10_dip_52 ?_ | refine g_aloadN0 (pc := 52) dX10_dip_52 ?_
      refine g_getR (pc := 53) (j := 3) cf10 dX10_dip_53 fl_RX10_16 (by decide) (by decide) (by first | rfl | assumption) (82) (rfl) ?_
      refine g_bipush (pc := 56) (12) dX10_dip_56 (by decide) ?_
      refine g_iload1 (pc := 58) dX10_dip_58 ?_
      refine g_iadd (pc := 59) dX10_dip_59 ?_
      first | refine g_aload0 (pc := 60) dX10_dip_60 ?_ | refine g_aloadN0 (pc := 60) dX10_dip_60 ?_
      refine g_getR (pc := 61) (j := 2) cf10 dX10_dip_61 fl_RX10_13 (by decide) (by decide) (by first | rfl | assumption) (81) (rfl) ?_
      refine g_iload1 (pc := 64) dX10_dip_64 ?_
      refine g_ialdX (pc := 65) (p) dX10_dip_65 (rfl) (rfl) (by have := ln_all; omega) (by decide) ?_
      refine g_iastX (pc := 66) (12 + p) dX10_dip_66 (rfl) (nI_add 12 p) (by have := ln_all; omega) (by decide) ?_
      refine g_iload2 (pc := 67) dX10_dip_67 ?_
      refine g_iret (pc := 68) dX10_dip_68 rfl ?_
      exact ⟨rfl, rfl, rfl⟩
    · skip
      exact absurd zh25 hf
  · skip
    exact absurd ⟨nI_pos' (by omega), nI_lt hp (by omega)⟩ (b01_eq0.mp zh5)
theorem c_X10_turn_s {n p xq c : Nat} {v : Mm} {L : Lm} (hn : v 79 0 = nI n) (hn4 : n ≤ 4) (hp : p < n) (hx : xq < 14) (hx0 : v 79 16 = nI xq) (hc : v 79 15 = nI c) (hc14 : c ≤ 14) : Fn yX10_turn cX10_turn 2 (some .int) 2 [.ref 79, .int (nI p)] v L (some (.int (10 * ((tuV (kaV v xq c) 0 p) 82 (4 + p) + 3) + (tuV (kaV v xq c) 0 p) 82 (8 + p) + 3))) (tuV (kaV v xq c) 0 p) L := by
  refine Fq.of (plainFor_of_name (by decide)) [some (.ref 79), some (.int (nI p))] rfl (Nat.le_of_ble_eq_true rfl) ?_
  first | refine g_aload0 (pc := 0) dX10_turn_0 ?_ | refine g_aloadN0 (pc := 0) dX10_turn_0 ?_
  refine g_iload1 (pc := 1) dX10_turn_1 ?_
  refine g_fV1 (pc := 2) (c_X10_isPen hn hn4) cf10 (by first | rfl | assumption) dX10_turn_2 cw_RX10_115 (by decide) (Nat.le_of_ble_eq_true rfl) ?_
  refine g_if_ne (pc := 5) 10 dX10_turn_5 (by decide) (fun zh5 => ?_) (fun zh5 => ?_)
  · skip
    first | refine g_aload0 (pc := 10) dX10_turn_10 ?_ | refine g_aloadN0 (pc := 10) dX10_turn_10 ?_
    refine g_vV0 (pc := 11) (c_X10_keepAct hx hx0 hc hc14) cf10 (by first | rfl | assumption) dX10_turn_11 cw_RX10_158 (by decide) (Nat.le_of_ble_eq_true rfl) ?_
    first | refine g_aload0 (pc := 14) dX10_turn_14 ?_ | refine g_aloadN0 (pc := 14) dX10_turn_14 ?_
    refine g_iconst (pc := 15) (0) dX10_turn_15 (by decide) ?_
    refine g_iload1 (pc := 16) dX10_turn_16 ?_
    refine g_vV2 (pc := 17) (c_X10_turnOn (l := 0) (by decide) (by omega)) cf10 (by first | rfl | assumption) dX10_turn_17 cw_RX10_161 (by decide) (Nat.le_of_ble_eq_true rfl) ?_
    first | refine g_aload0 (pc := 20) dX10_turn_20 ?_ | refine g_aloadN0 (pc := 20) dX10_turn_20 ?_
    refine g_iload1 (pc := 21) dX10_turn_21 ?_
    refine g_fV1 (pc := 22) (c_X10_nibOf (by omega)) cf10 (by first | rfl | assumption) dX10_turn_22 cw_RX10_147 (by decide) (Nat.le_of_ble_eq_true rfl) ?_
    refine g_iret (pc := 25) dX10_turn_25 rfl ?_
    exact ⟨rfl, rfl, rfl⟩
  · skip
    exact absurd ⟨nI_pos' (by omega), nI_lt hp (by omega)⟩ (b01_eq0.mp zh5)
theorem c_X10_blot_u {x : Int32} {v : Mm} {L : Lm} (hx : ¬ (0 ≤ x ∧ x < 25)) : Fn yX10_blot cX10_blot 3 (some .int) 1 [.ref 79, .int x] v L (some (.int (-1))) v L := by
  have zi : ∀ zx : Int32, ((0 : Int64) ≤ zx.toInt64 ∧ zx.toInt64 ≤ 24) ↔ (0 ≤ zx ∧ zx ≤ 24) := fun zx => inI (y := zx) (by decide) (by decide)
  refine Fq.of (plainFor_of_name (by decide)) [some (.ref 79), some (.int x), none] rfl (Nat.le_of_ble_eq_true rfl) ?_
  refine g_iload1 (pc := 0) dX10_blot_0 ?_
  refine g_i2l (pc := 1) dX10_blot_1 ?_
  refine g_lconst (pc := 2) (0) dX10_blot_2 (by decide) ?_
  refine g_ldc2 (pc := 3) _ dX10_blot_3 kc_RX10_153 ?_
  refine g_fS3 (pc := 6) (c_X10_in) dX10_blot_6 cw_RX10_52 (by decide) (Nat.le_of_ble_eq_true rfl) ?_
  refine g_if_ne (pc := 9) 14 dX10_blot_9 (by decide) (fun zh9 => ?_) (fun zh9 => ?_)
  · skip
    exact absurd ((zi _).mp (b01_ne0.mp zh9)) (fun zq => hx ⟨zq.1, le24.mp zq.2⟩)
  · skip
    refine g_iconst (pc := 12) (-1) dX10_blot_12 (by decide) ?_
    refine g_iret (pc := 13) dX10_blot_13 rfl ?_
    exact ⟨rfl, rfl, rfl⟩
theorem c_X10_blot_n {q : Nat} {v : Mm} {L : Lm} (hq : q < 25) (zh0 : v 82 (18 + q) = 0) : Fn yX10_blot cX10_blot 3 (some .int) 1 [.ref 79, .int (nI q)] v L (some (.int (-3))) v L := by
  have zi : ∀ zx : Int32, ((0 : Int64) ≤ zx.toInt64 ∧ zx.toInt64 ≤ 24) ↔ (0 ≤ zx ∧ zx ≤ 24) := fun zx => inI (y := zx) (by decide) (by decide)
  refine Fq.of (plainFor_of_name (by decide)) [some (.ref 79), some (.int (nI q)), none] rfl (Nat.le_of_ble_eq_true rfl) ?_
  refine g_iload1 (pc := 0) dX10_blot_0 ?_
  refine g_i2l (pc := 1) dX10_blot_1 ?_
  refine g_lconst (pc := 2) (0) dX10_blot_2 (by decide) ?_
  refine g_ldc2 (pc := 3) _ dX10_blot_3 kc_RX10_153 ?_
  refine g_fS3 (pc := 6) (c_X10_in) dX10_blot_6 cw_RX10_52 (by decide) (Nat.le_of_ble_eq_true rfl) ?_
  refine g_if_ne (pc := 9) 14 dX10_blot_9 (by decide) (fun zh9 => ?_) (fun zh9 => ?_)
  · skip
    first | refine g_aload0 (pc := 14) dX10_blot_14 ?_ | refine g_aloadN0 (pc := 14) dX10_blot_14 ?_
    refine g_getR (pc := 15) (j := 3) cf10 dX10_blot_15 fl_RX10_16 (by decide) (by decide) (by first | rfl | assumption) (82) (rfl) ?_
    refine g_bipush (pc := 18) (18) dX10_blot_18 (by decide) ?_
    refine g_iload1 (pc := 20) dX10_blot_20 ?_
    refine g_iadd (pc := 21) dX10_blot_21 ?_
    refine g_ialdX (pc := 22) (18 + q) dX10_blot_22 (rfl) (nI_add 18 q) (by have := ln_all; omega) (by decide) ?_
    refine g_if_ne (pc := 23) 29 dX10_blot_23 (by decide) (fun zh23 => ?_) (fun zh23 => ?_)
    · skip
      exact absurd zh0 zh23
    · skip
      refine g_bipush (pc := 26) (-3) dX10_blot_26 (by decide) ?_
      refine g_iret (pc := 28) dX10_blot_28 rfl ?_
      exact ⟨rfl, rfl, rfl⟩
  · skip
    exact absurd ((zi _).mpr ⟨nI_pos' (by omega), nI_le (b := 24) (by omega) (by decide)⟩) (b01_eq0.mp zh9)
theorem c_X10_blot_s {q xq c : Nat} {v : Mm} {L : Lm} (hq : q < 25) (zh0 : ¬ v 82 (18 + q) = 0) (hx : xq < 14) (hx0 : v 79 16 = nI xq) (hc : v 79 15 = nI c) (hc14 : c ≤ 14) : Fn yX10_blot cX10_blot 3 (some .int) 1 [.ref 79, .int (nI q)] v L (some (.int ((kaV v xq c) 82 (18 + q)))) (upd2 (kaV v xq c) 82 (18 + q) 0) L := by
  have zi : ∀ zx : Int32, ((0 : Int64) ≤ zx.toInt64 ∧ zx.toInt64 ≤ 24) ↔ (0 ≤ zx ∧ zx ≤ 24) := fun zx => inI (y := zx) (by decide) (by decide)
  refine Fq.of (plainFor_of_name (by decide)) [some (.ref 79), some (.int (nI q)), none] rfl (Nat.le_of_ble_eq_true rfl) ?_
  refine g_iload1 (pc := 0) dX10_blot_0 ?_
  refine g_i2l (pc := 1) dX10_blot_1 ?_
  refine g_lconst (pc := 2) (0) dX10_blot_2 (by decide) ?_
  refine g_ldc2 (pc := 3) _ dX10_blot_3 kc_RX10_153 ?_
  refine g_fS3 (pc := 6) (c_X10_in) dX10_blot_6 cw_RX10_52 (by decide) (Nat.le_of_ble_eq_true rfl) ?_
  refine g_if_ne (pc := 9) 14 dX10_blot_9 (by decide) (fun zh9 => ?_) (fun zh9 => ?_)
  · skip
    first | refine g_aload0 (pc := 14) dX10_blot_14 ?_ | refine g_aloadN0 (pc := 14) dX10_blot_14 ?_
    refine g_getR (pc := 15) (j := 3) cf10 dX10_blot_15 fl_RX10_16 (by decide) (by decide) (by first | rfl | assumption) (82) (rfl) ?_
    refine g_bipush (pc := 18) (18) dX10_blot_18 (by decide) ?_
    refine g_iload1 (pc := 20) dX10_blot_20 ?_
    refine g_iadd (pc := 21) dX10_blot_21 ?_
    refine g_ialdX (pc := 22) (18 + q) dX10_blot_22 (rfl) (nI_add 18 q) (by have := ln_all; omega) (by decide) ?_
    refine g_if_ne (pc := 23) 29 dX10_blot_23 (by decide) (fun zh23 => ?_) (fun zh23 => ?_)
    · skip
      first | refine g_aload0 (pc := 29) dX10_blot_29 ?_ | refine g_aloadN0 (pc := 29) dX10_blot_29 ?_
      refine g_vV0 (pc := 30) (c_X10_keepAct hx hx0 hc hc14) cf10 (by first | rfl | assumption) dX10_blot_30 cw_RX10_158 (by decide) (Nat.le_of_ble_eq_true rfl) ?_
      first | refine g_aload0 (pc := 33) dX10_blot_33 ?_ | refine g_aloadN0 (pc := 33) dX10_blot_33 ?_
      refine g_getR (pc := 34) (j := 3) cf10 dX10_blot_34 fl_RX10_16 (by decide) (by decide) (by first | rfl | assumption) (82) (rfl) ?_
      refine g_bipush (pc := 37) (18) dX10_blot_37 (by decide) ?_
      refine g_iload1 (pc := 39) dX10_blot_39 ?_
      refine g_iadd (pc := 40) dX10_blot_40 ?_
      refine g_ialdX (pc := 41) (18 + q) dX10_blot_41 (rfl) (nI_add 18 q) (by have := ln_all; omega) (by decide) ?_
      refine g_istore2 (pc := 42) dX10_blot_42 (by decide) (by first | rfl | assumption) ?_
      first | refine g_aload0 (pc := 43) dX10_blot_43 ?_ | refine g_aloadN0 (pc := 43) dX10_blot_43 ?_
      refine g_getR (pc := 44) (j := 3) cf10 dX10_blot_44 fl_RX10_16 (by decide) (by decide) (by first | rfl | assumption) (82) (rfl) ?_
      refine g_bipush (pc := 47) (18) dX10_blot_47 (by decide) ?_
      refine g_iload1 (pc := 49) dX10_blot_49 ?_
      refine g_iadd (pc := 50) dX10_blot_50 ?_
      refine g_iconst (pc := 51) (0) dX10_blot_51 (by decide) ?_
      refine g_iastX (pc := 52) (18 + q) dX10_blot_52 (rfl) (nI_add 18 q) (by have := ln_all; omega) (by decide) ?_
      refine g_iload2 (pc := 53) dX10_blot_53 ?_
      refine g_iret (pc := 54) dX10_blot_54 rfl ?_
      exact ⟨rfl, rfl, rfl⟩
    · skip
      exact absurd zh23 zh0
  · skip
    exact absurd ((zi _).mpr ⟨nI_pos' (by omega), nI_le (b := 24) (by omega) (by decide)⟩) (b01_eq0.mp zh9)
theorem c_X10_behind_u {n : Nat} {x : Int32} {y z : Int32} {v : Mm} {L : Lm} (hn : v 79 0 = nI n) (hn4 : n ≤ 4) (hp : ¬ (0 ≤ x ∧ x < nI n)) : Fn yX10_behind cX10_behind 5 (some .int) 4 [.ref 79, .int x, .int y, .int z] v L (some (.int (-1))) v L := by
  refine Fq.of (plainFor_of_name (by decide)) [some (.ref 79), some (.int x), some (.int y), some (.int z), none] rfl (Nat.le_of_ble_eq_true rfl) ?_
  first | refine g_aload0 (pc := 0) dX10_behind_0 ?_ | refine g_aloadN0 (pc := 0) dX10_behind_0 ?_
  refine g_iload1 (pc := 1) dX10_behind_1 ?_
  refine g_fV1 (pc := 2) (c_X10_isPen hn hn4) cf10 (by first | rfl | assumption) dX10_behind_2 cw_RX10_115 (by decide) (Nat.le_of_ble_eq_true rfl) ?_
  refine g_if_ne (pc := 5) 10 dX10_behind_5 (by decide) (fun zh5 => ?_) (fun zh5 => ?_)
  · skip
    exact absurd (b01_ne0.mp zh5) hp
  · skip
    refine g_iconst (pc := 8) (-1) dX10_behind_8 (by decide) ?_
    refine g_iret (pc := 9) dX10_behind_9 rfl ?_
    exact ⟨rfl, rfl, rfl⟩
theorem c_X10_behind_o {n p : Nat} {y z : Int32} {v : Mm} {L : Lm} (hn : v 79 0 = nI n) (hn4 : n ≤ 4) (hp : p < n) (hy : ¬ ((0 ≤ y ∧ y ≤ 8) ∧ (0 ≤ z ∧ z ≤ 2))) : Fn yX10_behind cX10_behind 5 (some .int) 4 [.ref 79, .int (nI p), .int y, .int z] v L (some (.int (-2))) v L := by
  have zi8 : ∀ zx : Int32, ((0 : Int64) ≤ zx.toInt64 ∧ zx.toInt64 ≤ 8) ↔ (0 ≤ zx ∧ zx ≤ 8) := fun zx => inI (y := zx) (by decide) (by decide)
  have zi2 : ∀ zx : Int32, ((0 : Int64) ≤ zx.toInt64 ∧ zx.toInt64 ≤ 2) ↔ (0 ≤ zx ∧ zx ≤ 2) := fun zx => inI (y := zx) (by decide) (by decide)
  refine Fq.of (plainFor_of_name (by decide)) [some (.ref 79), some (.int (nI p)), some (.int y), some (.int z), none] rfl (Nat.le_of_ble_eq_true rfl) ?_
  first | refine g_aload0 (pc := 0) dX10_behind_0 ?_ | refine g_aloadN0 (pc := 0) dX10_behind_0 ?_
  refine g_iload1 (pc := 1) dX10_behind_1 ?_
  refine g_fV1 (pc := 2) (c_X10_isPen hn hn4) cf10 (by first | rfl | assumption) dX10_behind_2 cw_RX10_115 (by decide) (Nat.le_of_ble_eq_true rfl) ?_
  refine g_if_ne (pc := 5) 10 dX10_behind_5 (by decide) (fun zh5 => ?_) (fun zh5 => ?_)
  · skip
    refine g_iload2 (pc := 10) dX10_behind_10 ?_
    refine g_i2l (pc := 11) dX10_behind_11 ?_
    refine g_lconst (pc := 12) (0) dX10_behind_12 (by decide) ?_
    refine g_ldc2 (pc := 13) _ dX10_behind_13 kc_RX10_92 ?_
    refine g_fS3 (pc := 16) (c_X10_in) dX10_behind_16 cw_RX10_52 (by decide) (Nat.le_of_ble_eq_true rfl) ?_
    refine g_if_eq (pc := 19) 34 dX10_behind_19 (by decide) (fun zh19 => ?_) (fun zh19 => ?_)
    · skip
      refine g_bipush (pc := 34) (-2) dX10_behind_34 (by decide) ?_
      refine g_iret (pc := 36) dX10_behind_36 rfl ?_
      exact ⟨rfl, rfl, rfl⟩
    · skip
      refine g_iload3 (pc := 22) dX10_behind_22 ?_
      refine g_i2l (pc := 23) dX10_behind_23 ?_
      refine g_lconst (pc := 24) (0) dX10_behind_24 (by decide) ?_
      refine g_ldc2 (pc := 25) _ dX10_behind_25 kc_RX10_165 ?_
      refine g_fS3 (pc := 28) (c_X10_in) dX10_behind_28 cw_RX10_52 (by decide) (Nat.le_of_ble_eq_true rfl) ?_
      refine g_if_ne (pc := 31) 37 dX10_behind_31 (by decide) (fun zh31 => ?_) (fun zh31 => ?_)
      · skip
        exact absurd ⟨(zi8 _).mp (b01_ne0.mp zh19), (zi2 _).mp (b01_ne0.mp zh31)⟩ hy
      · skip
        refine g_bipush (pc := 34) (-2) dX10_behind_34 (by decide) ?_
        refine g_iret (pc := 36) dX10_behind_36 rfl ?_
        exact ⟨rfl, rfl, rfl⟩
  · skip
    exact absurd ⟨nI_pos' (by omega), nI_lt hp (by omega)⟩ (b01_eq0.mp zh5)
theorem c_X10_behind_s {n p q w : Nat} {z : Int32} {v : Mm} {L : Lm} (hn : v 79 0 = nI n) (hn4 : n ≤ 4) (hp : p < n) (hq8 : q ≤ 8) (hz : 0 ≤ z ∧ z ≤ 2) (hw : v 79 12 = nI w) (hw8 : w ≤ 8) (hdo : DotOk v 0 p) : Fn yX10_behind cX10_behind 5 (some .int) 4 [.ref 79, .int (nI p), .int (nI q), .int z] v L (some (.int (if z = 0 then (woF 1 p 0 (min q w) 0 0 (wo0 (ltV v))).2 82 (43 + p) else if z = 1 then (woF 1 p 0 (min q w) 0 0 (wo0 (ltV v))).2 82 (55 + p) else (woF 1 p 0 (min q w) 0 0 (wo0 (ltV v))).1))) (woF 1 p 0 (min q w) 0 0 (wo0 (ltV v))).2 L := by
  have zi8 : ∀ zx : Int32, ((0 : Int64) ≤ zx.toInt64 ∧ zx.toInt64 ≤ 8) ↔ (0 ≤ zx ∧ zx ≤ 8) := fun zx => inI (y := zx) (by decide) (by decide)
  have zi2 : ∀ zx : Int32, ((0 : Int64) ≤ zx.toInt64 ∧ zx.toInt64 ≤ 2) ↔ (0 ≤ zx ∧ zx ≤ 2) := fun zx => inI (y := zx) (by decide) (by decide)
  refine Fq.of (plainFor_of_name (by decide)) [some (.ref 79), some (.int (nI p)), some (.int (nI q)), some (.int z), none] rfl (Nat.le_of_ble_eq_true rfl) ?_
  first | refine g_aload0 (pc := 0) dX10_behind_0 ?_ | refine g_aloadN0 (pc := 0) dX10_behind_0 ?_
  refine g_iload1 (pc := 1) dX10_behind_1 ?_
  refine g_fV1 (pc := 2) (c_X10_isPen hn hn4) cf10 (by first | rfl | assumption) dX10_behind_2 cw_RX10_115 (by decide) (Nat.le_of_ble_eq_true rfl) ?_
  refine g_if_ne (pc := 5) 10 dX10_behind_5 (by decide) (fun zh5 => ?_) (fun zh5 => ?_)
  · skip
    refine g_iload2 (pc := 10) dX10_behind_10 ?_
    refine g_i2l (pc := 11) dX10_behind_11 ?_
    refine g_lconst (pc := 12) (0) dX10_behind_12 (by decide) ?_
    refine g_ldc2 (pc := 13) _ dX10_behind_13 kc_RX10_92 ?_
    refine g_fS3 (pc := 16) (c_X10_in) dX10_behind_16 cw_RX10_52 (by decide) (Nat.le_of_ble_eq_true rfl) ?_
    refine g_if_eq (pc := 19) 34 dX10_behind_19 (by decide) (fun zh19 => ?_) (fun zh19 => ?_)
    · skip
      exact absurd ((zi8 _).mpr ⟨nI_pos' (by omega), nI_le (b := 8) hq8 (by decide)⟩) (b01_eq0.mp zh19)
    · skip
      refine g_iload3 (pc := 22) dX10_behind_22 ?_
      refine g_i2l (pc := 23) dX10_behind_23 ?_
      refine g_lconst (pc := 24) (0) dX10_behind_24 (by decide) ?_
      refine g_ldc2 (pc := 25) _ dX10_behind_25 kc_RX10_165 ?_
      refine g_fS3 (pc := 28) (c_X10_in) dX10_behind_28 cw_RX10_52 (by decide) (Nat.le_of_ble_eq_true rfl) ?_
      refine g_if_ne (pc := 31) 37 dX10_behind_31 (by decide) (fun zh31 => ?_) (fun zh31 => ?_)
      · skip
        first | refine g_aload0 (pc := 37) dX10_behind_37 ?_ | refine g_aloadN0 (pc := 37) dX10_behind_37 ?_
        refine g_vV0 (pc := 38) (c_X10_layTrial) cf10 (by first | rfl | assumption) dX10_behind_38 cw_RX10_140 (by decide) (Nat.le_of_ble_eq_true rfl) ?_
        first | refine g_aload0 (pc := 41) dX10_behind_41 ?_ | refine g_aloadN0 (pc := 41) dX10_behind_41 ?_
        refine g_iconst (pc := 42) (1) dX10_behind_42 (by decide) ?_
        refine g_iload1 (pc := 43) dX10_behind_43 ?_
        refine g_iload2 (pc := 44) dX10_behind_44 ?_
        refine g_iconst (pc := 45) (0) dX10_behind_45 (by decide) ?_
        refine g_fV4 (pc := 46) (c_X10_writeOn (l := 1) (n := n) (w := w) (by decide) hp hn4 hq8 hw8 (by rw [ltV_away (by decide)]; exact hn) (by rw [ltV_away (by decide)]; exact hw) (by obtain ⟨zd, z1, z2⟩ := hdo; exact ⟨zd, z1, by rw [show 43 * 1 + p = 43 + p by omega, ltV_hi (by omega)]; rw [Nat.mul_zero, Nat.zero_add] at z2; exact z2⟩)) cf10 (by first | rfl | assumption) dX10_behind_46 cw_RX10_143 (by decide) (Nat.le_of_ble_eq_true rfl) ?_
        refine g_istore4 (pc := 49) dX10_behind_49 (by decide) (by first | rfl | assumption) ?_
        refine g_iload3 (pc := 51) dX10_behind_51 ?_
        refine g_if_ne (pc := 52) 67 dX10_behind_52 (by decide) (fun zh52 => ?_) (fun zh52 => ?_)
        · skip
          refine g_iload3 (pc := 67) dX10_behind_67 ?_
          refine g_iconst (pc := 68) (1) dX10_behind_68 (by decide) ?_
          refine g_icmp_ne (pc := 69) 84 dX10_behind_69 (by decide) (fun zh69 => ?_) (fun zh69 => ?_)
          · skip
            refine g_iload4 (pc := 84) dX10_behind_84 ?_
            refine g_iret (pc := 86) dX10_behind_86 rfl ?_
            first | (rw [if_pos zh52]; exact ⟨rfl, rfl, rfl⟩) | (rw [if_neg zh52, if_pos zh69]; exact ⟨rfl, rfl, rfl⟩) | (rw [if_neg zh52, if_neg zh69]; exact ⟨rfl, rfl, rfl⟩)
          · skip
            first | refine g_aload0 (pc := 72) dX10_behind_72 ?_ | refine g_aloadN0 (pc := 72) dX10_behind_72 ?_
            refine g_getR (pc := 73) (j := 3) cf10 dX10_behind_73 fl_RX10_16 (by decide) (by decide) (by first | rfl | assumption) (82) (rfl) ?_
            refine g_bipush (pc := 76) (55) dX10_behind_76 (by decide) ?_
            refine g_iload1 (pc := 78) dX10_behind_78 ?_
            refine g_iadd (pc := 79) dX10_behind_79 ?_
            refine g_ialdX (pc := 80) (55 + p) dX10_behind_80 (rfl) (nI_add 55 p) (by have := ln_all; omega) (by decide) ?_
            refine g_goto (pc := 81) 86 dX10_behind_81 (by decide) ?_
            refine g_iret (pc := 86) dX10_behind_86 rfl ?_
            first | (rw [if_pos zh52]; exact ⟨rfl, rfl, rfl⟩) | (rw [if_neg zh52, if_pos zh69]; exact ⟨rfl, rfl, rfl⟩) | (rw [if_neg zh52, if_neg zh69]; exact ⟨rfl, rfl, rfl⟩)
        · skip
          first | refine g_aload0 (pc := 55) dX10_behind_55 ?_ | refine g_aloadN0 (pc := 55) dX10_behind_55 ?_
          refine g_getR (pc := 56) (j := 3) cf10 dX10_behind_56 fl_RX10_16 (by decide) (by decide) (by first | rfl | assumption) (82) (rfl) ?_
          refine g_bipush (pc := 59) (43) dX10_behind_59 (by decide) ?_
          refine g_iload1 (pc := 61) dX10_behind_61 ?_
          refine g_iadd (pc := 62) dX10_behind_62 ?_
          refine g_ialdX (pc := 63) (43 + p) dX10_behind_63 (rfl) (nI_add 43 p) (by have := ln_all; omega) (by decide) ?_
          refine g_goto (pc := 64) 86 dX10_behind_64 (by decide) ?_
          refine g_iret (pc := 86) dX10_behind_86 rfl ?_
          first | (rw [if_pos zh52]; exact ⟨rfl, rfl, rfl⟩) | (rw [if_neg zh52, if_pos zh69]; exact ⟨rfl, rfl, rfl⟩) | (rw [if_neg zh52, if_neg zh69]; exact ⟨rfl, rfl, rfl⟩)
      · skip
        exact absurd ((zi2 _).mpr hz) (b01_eq0.mp zh31)
  · skip
    exact absurd ⟨nI_pos' (by omega), nI_lt hp (by omega)⟩ (b01_eq0.mp zh5)
theorem c_X10_stopsAt {n p w : Nat} {v : Mm} {L : Lm} (hn : v 79 0 = nI n) (hn4 : n ≤ 4) (hp : p < n) (hw : v 79 12 = nI w) (hw8 : w ≤ 8) (hdo : DotOk v 0 p) : Fn yX10_stopsAt cX10_stopsAt 2 (some .int) 4 [.ref 79, .int (nI p)] v L (some (.int (if (woF 1 p 0 (min 8 w) 0 0 (wo0 (ltV v))).2 79 14 = (woF 1 p 0 (min 8 w) 0 0 (wo0 (ltV v))).2 79 12 then -9 else (woF 1 p 0 (min 8 w) 0 0 (wo0 (ltV v))).2 79 14))) (woF 1 p 0 (min 8 w) 0 0 (wo0 (ltV v))).2 L := by
  refine Fq.of (plainFor_of_name (by decide)) [some (.ref 79), some (.int (nI p))] rfl (Nat.le_of_ble_eq_true rfl) ?_
  first | refine g_aload0 (pc := 0) dX10_stopsAt_0 ?_ | refine g_aloadN0 (pc := 0) dX10_stopsAt_0 ?_
  refine g_vV0 (pc := 1) (c_X10_layTrial) cf10 (by first | rfl | assumption) dX10_stopsAt_1 cw_RX10_140 (by decide) (Nat.le_of_ble_eq_true rfl) ?_
  first | refine g_aload0 (pc := 4) dX10_stopsAt_4 ?_ | refine g_aloadN0 (pc := 4) dX10_stopsAt_4 ?_
  refine g_iconst (pc := 5) (1) dX10_stopsAt_5 (by decide) ?_
  refine g_iload1 (pc := 6) dX10_stopsAt_6 ?_
  refine g_bipush (pc := 7) (8) dX10_stopsAt_7 (by decide) ?_
  refine g_iconst (pc := 9) (0) dX10_stopsAt_9 (by decide) ?_
  refine g_fV4 (pc := 10) (c_X10_writeOn (l := 1) (q := 8) (n := n) (w := w) (by decide) hp hn4 (by decide) hw8 (by rw [ltV_away (by decide)]; exact hn) (by rw [ltV_away (by decide)]; exact hw) (by obtain ⟨zd, z1, z2⟩ := hdo; exact ⟨zd, z1, by rw [show 43 * 1 + p = 43 + p by omega, ltV_hi (by omega)]; rw [Nat.mul_zero, Nat.zero_add] at z2; exact z2⟩)) cf10 (by first | rfl | assumption) dX10_stopsAt_10 cw_RX10_143 (by decide) (Nat.le_of_ble_eq_true rfl) ?_
  refine g_pop (pc := 13) dX10_stopsAt_13 rfl ?_
  first | refine g_aload0 (pc := 14) dX10_stopsAt_14 ?_ | refine g_aloadN0 (pc := 14) dX10_stopsAt_14 ?_
  refine g_getI (pc := 15) (j := 14) cf10 dX10_stopsAt_15 fl_RX10_130 (by decide) (by decide) (by first | rfl | assumption) ?_
  first | refine g_aload0 (pc := 18) dX10_stopsAt_18 ?_ | refine g_aloadN0 (pc := 18) dX10_stopsAt_18 ?_
  refine g_getI (pc := 19) (j := 12) cf10 dX10_stopsAt_19 fl_RX10_100 (by decide) (by decide) (by first | rfl | assumption) ?_
  refine g_icmp_ne (pc := 22) 30 dX10_stopsAt_22 (by decide) (fun zh22 => ?_) (fun zh22 => ?_)
  · skip
    first | refine g_aload0 (pc := 30) dX10_stopsAt_30 ?_ | refine g_aloadN0 (pc := 30) dX10_stopsAt_30 ?_
    refine g_getI (pc := 31) (j := 14) cf10 dX10_stopsAt_31 fl_RX10_130 (by decide) (by decide) (by first | rfl | assumption) ?_
    refine g_iret (pc := 34) dX10_stopsAt_34 rfl ?_
    first | (rw [if_pos zh22]; exact ⟨rfl, rfl, rfl⟩) | (rw [if_neg zh22]; exact ⟨rfl, rfl, rfl⟩)
  · skip
    refine g_bipush (pc := 25) (-9) dX10_stopsAt_25 (by decide) ?_
    refine g_goto (pc := 27) 34 dX10_stopsAt_27 (by decide) ?_
    refine g_iret (pc := 34) dX10_stopsAt_34 rfl ?_
    first | (rw [if_pos zh22]; exact ⟨rfl, rfl, rfl⟩) | (rw [if_neg zh22]; exact ⟨rfl, rfl, rfl⟩)
theorem c_X10_pen_u {n : Nat} {x : Int32} {y : Int32} {v : Mm} {L : Lm} (hn : v 79 0 = nI n) (hn4 : n ≤ 4) (hp : ¬ (0 ≤ x ∧ x < nI n)) : Fn yX10_pen cX10_pen 3 (some .int) 5 [.ref 79, .int x, .int y] v L (some (.int (-1))) v L := by
  refine Fq.of (plainFor_of_name (by decide)) [some (.ref 79), some (.int x), some (.int y)] rfl (Nat.le_of_ble_eq_true rfl) ?_
  first | refine g_aload0 (pc := 0) dX10_pen_0 ?_ | refine g_aloadN0 (pc := 0) dX10_pen_0 ?_
  refine g_iload1 (pc := 1) dX10_pen_1 ?_
  refine g_fV1 (pc := 2) (c_X10_isPen hn hn4) cf10 (by first | rfl | assumption) dX10_pen_2 cw_RX10_115 (by decide) (Nat.le_of_ble_eq_true rfl) ?_
  refine g_if_ne (pc := 5) 10 dX10_pen_5 (by decide) (fun zh5 => ?_) (fun zh5 => ?_)
  · skip
    exact absurd (b01_ne0.mp zh5) hp
  · skip
    refine g_iconst (pc := 8) (-1) dX10_pen_8 (by decide) ?_
    refine g_iret (pc := 9) dX10_pen_9 rfl ?_
    exact ⟨rfl, rfl, rfl⟩
theorem c_X10_pen_0 {n p : Nat} {v : Mm} {L : Lm} (hn : v 79 0 = nI n) (hn4 : n ≤ 4) (hp : p < n) : Fn yX10_pen cX10_pen 3 (some .int) 5 [.ref 79, .int (nI p), .int 0] v L (some (.int (v 82 p))) v L := by
  refine Fq.of (plainFor_of_name (by decide)) [some (.ref 79), some (.int (nI p)), some (.int 0)] rfl (Nat.le_of_ble_eq_true rfl) ?_
  first | refine g_aload0 (pc := 0) dX10_pen_0 ?_ | refine g_aloadN0 (pc := 0) dX10_pen_0 ?_
  refine g_iload1 (pc := 1) dX10_pen_1 ?_
  refine g_fV1 (pc := 2) (c_X10_isPen hn hn4) cf10 (by first | rfl | assumption) dX10_pen_2 cw_RX10_115 (by decide) (Nat.le_of_ble_eq_true rfl) ?_
  refine g_if_ne (pc := 5) 10 dX10_pen_5 (by decide) (fun zh5 => ?_) (fun zh5 => ?_)
  · skip
    refine g_iload2 (pc := 10) dX10_pen_10 ?_
    refine g_tableIn (pc := 11) (off := 41) 52 dX10_pen_11 (by decide) (by decide) (by rfl) (by decide) ?_
    first | refine g_aload0 (pc := 52) dX10_pen_52 ?_ | refine g_aloadN0 (pc := 52) dX10_pen_52 ?_
    refine g_getR (pc := 53) (j := 3) cf10 dX10_pen_53 fl_RX10_16 (by decide) (by decide) (by first | rfl | assumption) (82) (rfl) ?_
    refine g_iload1 (pc := 56) dX10_pen_56 ?_
    refine g_ialdX (pc := 57) (p) dX10_pen_57 (rfl) (rfl) (by have := ln_all; omega) (by decide) ?_
    refine g_iret (pc := 58) dX10_pen_58 rfl ?_
    exact ⟨rfl, rfl, rfl⟩
  · skip
    exact absurd ⟨nI_pos' (by omega), nI_lt hp (by omega)⟩ (b01_eq0.mp zh5)
theorem c_X10_pen_1 {n p : Nat} {v : Mm} {L : Lm} (hn : v 79 0 = nI n) (hn4 : n ≤ 4) (hp : p < n) : Fn yX10_pen cX10_pen 3 (some .int) 5 [.ref 79, .int (nI p), .int 1] v L (some (.int (v 80 p))) v L := by
  refine Fq.of (plainFor_of_name (by decide)) [some (.ref 79), some (.int (nI p)), some (.int 1)] rfl (Nat.le_of_ble_eq_true rfl) ?_
  first | refine g_aload0 (pc := 0) dX10_pen_0 ?_ | refine g_aloadN0 (pc := 0) dX10_pen_0 ?_
  refine g_iload1 (pc := 1) dX10_pen_1 ?_
  refine g_fV1 (pc := 2) (c_X10_isPen hn hn4) cf10 (by first | rfl | assumption) dX10_pen_2 cw_RX10_115 (by decide) (Nat.le_of_ble_eq_true rfl) ?_
  refine g_if_ne (pc := 5) 10 dX10_pen_5 (by decide) (fun zh5 => ?_) (fun zh5 => ?_)
  · skip
    refine g_iload2 (pc := 10) dX10_pen_10 ?_
    refine g_tableIn (pc := 11) (off := 48) 59 dX10_pen_11 (by decide) (by decide) (by rfl) (by decide) ?_
    first | refine g_aload0 (pc := 59) dX10_pen_59 ?_ | refine g_aloadN0 (pc := 59) dX10_pen_59 ?_
    refine g_getR (pc := 60) (j := 1) cf10 dX10_pen_60 fl_RX10_7 (by decide) (by decide) (by first | rfl | assumption) (80) (rfl) ?_
    refine g_iload1 (pc := 63) dX10_pen_63 ?_
    refine g_ialdX (pc := 64) (p) dX10_pen_64 (rfl) (rfl) (by have := ln_all; omega) (by decide) ?_
    refine g_iret (pc := 65) dX10_pen_65 rfl ?_
    exact ⟨rfl, rfl, rfl⟩
  · skip
    exact absurd ⟨nI_pos' (by omega), nI_lt hp (by omega)⟩ (b01_eq0.mp zh5)
theorem c_X10_pen_2 {n p : Nat} {v : Mm} {L : Lm} (hn : v 79 0 = nI n) (hn4 : n ≤ 4) (hp : p < n) : Fn yX10_pen cX10_pen 3 (some .int) 5 [.ref 79, .int (nI p), .int 2] v L (some (.int (10 * (v 82 (4 + p) + 3) + v 82 (8 + p) + 3))) v L := by
  refine Fq.of (plainFor_of_name (by decide)) [some (.ref 79), some (.int (nI p)), some (.int 2)] rfl (Nat.le_of_ble_eq_true rfl) ?_
  first | refine g_aload0 (pc := 0) dX10_pen_0 ?_ | refine g_aloadN0 (pc := 0) dX10_pen_0 ?_
  refine g_iload1 (pc := 1) dX10_pen_1 ?_
  refine g_fV1 (pc := 2) (c_X10_isPen hn hn4) cf10 (by first | rfl | assumption) dX10_pen_2 cw_RX10_115 (by decide) (Nat.le_of_ble_eq_true rfl) ?_
  refine g_if_ne (pc := 5) 10 dX10_pen_5 (by decide) (fun zh5 => ?_) (fun zh5 => ?_)
  · skip
    refine g_iload2 (pc := 10) dX10_pen_10 ?_
    refine g_tableIn (pc := 11) (off := 55) 66 dX10_pen_11 (by decide) (by decide) (by rfl) (by decide) ?_
    first | refine g_aload0 (pc := 66) dX10_pen_66 ?_ | refine g_aloadN0 (pc := 66) dX10_pen_66 ?_
    refine g_iload1 (pc := 67) dX10_pen_67 ?_
    refine g_fV1 (pc := 68) (c_X10_nibOf (by omega)) cf10 (by first | rfl | assumption) dX10_pen_68 cw_RX10_147 (by decide) (Nat.le_of_ble_eq_true rfl) ?_
    refine g_iret (pc := 71) dX10_pen_71 rfl ?_
    exact ⟨rfl, rfl, rfl⟩
  · skip
    exact absurd ⟨nI_pos' (by omega), nI_lt hp (by omega)⟩ (b01_eq0.mp zh5)
theorem c_X10_pen_3 {n p : Nat} {v : Mm} {L : Lm} (hn : v 79 0 = nI n) (hn4 : n ≤ 4) (hp : p < n) : Fn yX10_pen cX10_pen 3 (some .int) 5 [.ref 79, .int (nI p), .int 3] v L (some (.int (v 82 (12 + p)))) v L := by
  refine Fq.of (plainFor_of_name (by decide)) [some (.ref 79), some (.int (nI p)), some (.int 3)] rfl (Nat.le_of_ble_eq_true rfl) ?_
  first | refine g_aload0 (pc := 0) dX10_pen_0 ?_ | refine g_aloadN0 (pc := 0) dX10_pen_0 ?_
  refine g_iload1 (pc := 1) dX10_pen_1 ?_
  refine g_fV1 (pc := 2) (c_X10_isPen hn hn4) cf10 (by first | rfl | assumption) dX10_pen_2 cw_RX10_115 (by decide) (Nat.le_of_ble_eq_true rfl) ?_
  refine g_if_ne (pc := 5) 10 dX10_pen_5 (by decide) (fun zh5 => ?_) (fun zh5 => ?_)
  · skip
    refine g_iload2 (pc := 10) dX10_pen_10 ?_
    refine g_tableIn (pc := 11) (off := 61) 72 dX10_pen_11 (by decide) (by decide) (by rfl) (by decide) ?_
    first | refine g_aload0 (pc := 72) dX10_pen_72 ?_ | refine g_aloadN0 (pc := 72) dX10_pen_72 ?_
    refine g_getR (pc := 73) (j := 3) cf10 dX10_pen_73 fl_RX10_16 (by decide) (by decide) (by first | rfl | assumption) (82) (rfl) ?_
    refine g_bipush (pc := 76) (12) dX10_pen_76 (by decide) ?_
    refine g_iload1 (pc := 78) dX10_pen_78 ?_
    refine g_iadd (pc := 79) dX10_pen_79 ?_
    refine g_ialdX (pc := 80) (12 + p) dX10_pen_80 (rfl) (nI_add 12 p) (by have := ln_all; omega) (by decide) ?_
    refine g_iret (pc := 81) dX10_pen_81 rfl ?_
    exact ⟨rfl, rfl, rfl⟩
  · skip
    exact absurd ⟨nI_pos' (by omega), nI_lt hp (by omega)⟩ (b01_eq0.mp zh5)
theorem c_X10_pen_4 {n p : Nat} {v : Mm} {L : Lm} (hn : v 79 0 = nI n) (hn4 : n ≤ 4) (hp : p < n) : Fn yX10_pen cX10_pen 3 (some .int) 5 [.ref 79, .int (nI p), .int 4] v L (some (.int (v 81 p))) v L := by
  refine Fq.of (plainFor_of_name (by decide)) [some (.ref 79), some (.int (nI p)), some (.int 4)] rfl (Nat.le_of_ble_eq_true rfl) ?_
  first | refine g_aload0 (pc := 0) dX10_pen_0 ?_ | refine g_aloadN0 (pc := 0) dX10_pen_0 ?_
  refine g_iload1 (pc := 1) dX10_pen_1 ?_
  refine g_fV1 (pc := 2) (c_X10_isPen hn hn4) cf10 (by first | rfl | assumption) dX10_pen_2 cw_RX10_115 (by decide) (Nat.le_of_ble_eq_true rfl) ?_
  refine g_if_ne (pc := 5) 10 dX10_pen_5 (by decide) (fun zh5 => ?_) (fun zh5 => ?_)
  · skip
    refine g_iload2 (pc := 10) dX10_pen_10 ?_
    refine g_tableIn (pc := 11) (off := 71) 82 dX10_pen_11 (by decide) (by decide) (by rfl) (by decide) ?_
    first | refine g_aload0 (pc := 82) dX10_pen_82 ?_ | refine g_aloadN0 (pc := 82) dX10_pen_82 ?_
    refine g_getR (pc := 83) (j := 2) cf10 dX10_pen_83 fl_RX10_13 (by decide) (by decide) (by first | rfl | assumption) (81) (rfl) ?_
    refine g_iload1 (pc := 86) dX10_pen_86 ?_
    refine g_ialdX (pc := 87) (p) dX10_pen_87 (rfl) (rfl) (by have := ln_all; omega) (by decide) ?_
    refine g_iret (pc := 88) dX10_pen_88 rfl ?_
    exact ⟨rfl, rfl, rfl⟩
  · skip
    exact absurd ⟨nI_pos' (by omega), nI_lt hp (by omega)⟩ (b01_eq0.mp zh5)
theorem c_X10_pen_5 {n p : Nat} {v : Mm} {L : Lm} (hn : v 79 0 = nI n) (hn4 : n ≤ 4) (hp : p < n) : Fn yX10_pen cX10_pen 3 (some .int) 5 [.ref 79, .int (nI p), .int 5] v L (some (.int ((v 82 16 >>> (nI p &&& 31)) &&& 1))) v L := by
  refine Fq.of (plainFor_of_name (by decide)) [some (.ref 79), some (.int (nI p)), some (.int 5)] rfl (Nat.le_of_ble_eq_true rfl) ?_
  first | refine g_aload0 (pc := 0) dX10_pen_0 ?_ | refine g_aloadN0 (pc := 0) dX10_pen_0 ?_
  refine g_iload1 (pc := 1) dX10_pen_1 ?_
  refine g_fV1 (pc := 2) (c_X10_isPen hn hn4) cf10 (by first | rfl | assumption) dX10_pen_2 cw_RX10_115 (by decide) (Nat.le_of_ble_eq_true rfl) ?_
  refine g_if_ne (pc := 5) 10 dX10_pen_5 (by decide) (fun zh5 => ?_) (fun zh5 => ?_)
  · skip
    refine g_iload2 (pc := 10) dX10_pen_10 ?_
    refine g_tableIn (pc := 11) (off := 78) 89 dX10_pen_11 (by decide) (by decide) (by rfl) (by decide) ?_
    first | refine g_aload0 (pc := 89) dX10_pen_89 ?_ | refine g_aloadN0 (pc := 89) dX10_pen_89 ?_
    refine g_getR (pc := 90) (j := 3) cf10 dX10_pen_90 fl_RX10_16 (by decide) (by decide) (by first | rfl | assumption) (82) (rfl) ?_
    refine g_bipush (pc := 93) (16) dX10_pen_93 (by decide) ?_
    refine g_ialdX (pc := 95) (16) dX10_pen_95 (rfl) (rfl) (by have := ln_all; omega) (by decide) ?_
    refine g_iload1 (pc := 96) dX10_pen_96 ?_
    refine g_ishr (pc := 97) dX10_pen_97 ?_
    refine g_iconst (pc := 98) (1) dX10_pen_98 (by decide) ?_
    refine g_iand (pc := 99) dX10_pen_99 ?_
    refine g_iret (pc := 100) dX10_pen_100 rfl ?_
    exact ⟨rfl, rfl, rfl⟩
  · skip
    exact absurd ⟨nI_pos' (by omega), nI_lt hp (by omega)⟩ (b01_eq0.mp zh5)
theorem c_X10_pen_6 {n p w : Nat} {v : Mm} {L : Lm} (hn : v 79 0 = nI n) (hn4 : n ≤ 4) (hp : p < n) (hw : v 79 12 = nI w) (hw8 : w ≤ 8) (hdo : DotOk v 0 p) : Fn yX10_pen cX10_pen 3 (some .int) 5 [.ref 79, .int (nI p), .int 6] v L (some (.int (if (woF 1 p 0 (min 8 w) 0 0 (wo0 (ltV v))).2 79 14 = (woF 1 p 0 (min 8 w) 0 0 (wo0 (ltV v))).2 79 12 then -9 else (woF 1 p 0 (min 8 w) 0 0 (wo0 (ltV v))).2 79 14))) (woF 1 p 0 (min 8 w) 0 0 (wo0 (ltV v))).2 L := by
  refine Fq.of (plainFor_of_name (by decide)) [some (.ref 79), some (.int (nI p)), some (.int 6)] rfl (Nat.le_of_ble_eq_true rfl) ?_
  first | refine g_aload0 (pc := 0) dX10_pen_0 ?_ | refine g_aloadN0 (pc := 0) dX10_pen_0 ?_
  refine g_iload1 (pc := 1) dX10_pen_1 ?_
  refine g_fV1 (pc := 2) (c_X10_isPen hn hn4) cf10 (by first | rfl | assumption) dX10_pen_2 cw_RX10_115 (by decide) (Nat.le_of_ble_eq_true rfl) ?_
  refine g_if_ne (pc := 5) 10 dX10_pen_5 (by decide) (fun zh5 => ?_) (fun zh5 => ?_)
  · skip
    refine g_iload2 (pc := 10) dX10_pen_10 ?_
    refine g_tableIn (pc := 11) (off := 90) 101 dX10_pen_11 (by decide) (by decide) (by rfl) (by decide) ?_
    first | refine g_aload0 (pc := 101) dX10_pen_101 ?_ | refine g_aloadN0 (pc := 101) dX10_pen_101 ?_
    refine g_iload1 (pc := 102) dX10_pen_102 ?_
    refine g_fV1 (pc := 103) (c_X10_stopsAt hn hn4 hp hw hw8 hdo) cf10 (by first | rfl | assumption) dX10_pen_103 cw_RX10_150 (by decide) (Nat.le_of_ble_eq_true rfl) ?_
    refine g_iret (pc := 106) dX10_pen_106 rfl ?_
    exact ⟨rfl, rfl, rfl⟩
  · skip
    exact absurd ⟨nI_pos' (by omega), nI_lt hp (by omega)⟩ (b01_eq0.mp zh5)
theorem c_X10_pen_o {n p : Nat} {y : Int32} {v : Mm} {L : Lm} (hn : v 79 0 = nI n) (hn4 : n ≤ 4) (hp : p < n) (hy : y.toInt < 0 ∨ 6 < y.toInt) : Fn yX10_pen cX10_pen 3 (some .int) 5 [.ref 79, .int (nI p), .int y] v L (some (.int (-2))) v L := by
  refine Fq.of (plainFor_of_name (by decide)) [some (.ref 79), some (.int (nI p)), some (.int y)] rfl (Nat.le_of_ble_eq_true rfl) ?_
  first | refine g_aload0 (pc := 0) dX10_pen_0 ?_ | refine g_aloadN0 (pc := 0) dX10_pen_0 ?_
  refine g_iload1 (pc := 1) dX10_pen_1 ?_
  refine g_fV1 (pc := 2) (c_X10_isPen hn hn4) cf10 (by first | rfl | assumption) dX10_pen_2 cw_RX10_115 (by decide) (Nat.le_of_ble_eq_true rfl) ?_
  refine g_if_ne (pc := 5) 10 dX10_pen_5 (by decide) (fun zh5 => ?_) (fun zh5 => ?_)
  · skip
    refine g_iload2 (pc := 10) dX10_pen_10 ?_
    refine g_tableOut (pc := 11) 107 dX10_pen_11 hy (by decide) ?_
    refine g_bipush (pc := 107) (-2) dX10_pen_107 (by decide) ?_
    refine g_iret (pc := 109) dX10_pen_109 rfl ?_
    exact ⟨rfl, rfl, rfl⟩
  · skip
    exact absurd ⟨nI_pos' (by omega), nI_lt hp (by omega)⟩ (b01_eq0.mp zh5)
theorem c_X10_count_0 {n : Nat} {v : Mm} {L : Lm} (hn : v 79 0 = nI n) (hn4 : n ≤ 4) : Fn yX10_count cX10_count 2 (some .int) 1 [.ref 79, .int 0] v L (some (.int (v 79 9))) v L := by
  refine Fq.of (plainFor_of_name (by decide)) [some (.ref 79), some (.int 0)] rfl (Nat.le_of_ble_eq_true rfl) ?_
  refine g_iload1 (pc := 0) dX10_count_0 ?_
  refine g_tableIn (pc := 1) (off := 55) 56 dX10_count_1 (by decide) (by decide) (by rfl) (by decide) ?_
  first | refine g_aload0 (pc := 56) dX10_count_56 ?_ | refine g_aloadN0 (pc := 56) dX10_count_56 ?_
  refine g_getI (pc := 57) (j := 9) cf10 dX10_count_57 fl_RX10_56 (by decide) (by decide) (by first | rfl | assumption) ?_
  refine g_iret (pc := 60) dX10_count_60 rfl ?_
  exact ⟨rfl, rfl, rfl⟩
theorem c_X10_count_1 {n : Nat} {v : Mm} {L : Lm} (hn : v 79 0 = nI n) (hn4 : n ≤ 4) : Fn yX10_count cX10_count 2 (some .int) 1 [.ref 79, .int 1] v L (some (.int (v 79 0))) v L := by
  refine Fq.of (plainFor_of_name (by decide)) [some (.ref 79), some (.int 1)] rfl (Nat.le_of_ble_eq_true rfl) ?_
  refine g_iload1 (pc := 0) dX10_count_0 ?_
  refine g_tableIn (pc := 1) (off := 60) 61 dX10_count_1 (by decide) (by decide) (by rfl) (by decide) ?_
  first | refine g_aload0 (pc := 61) dX10_count_61 ?_ | refine g_aloadN0 (pc := 61) dX10_count_61 ?_
  refine g_getI (pc := 62) (j := 0) cf10 dX10_count_62 fl_RX10_84 (by decide) (by decide) (by first | rfl | assumption) ?_
  refine g_iret (pc := 65) dX10_count_65 rfl ?_
  exact ⟨rfl, rfl, rfl⟩
theorem c_X10_count_2 {n : Nat} {v : Mm} {L : Lm} (hn : v 79 0 = nI n) (hn4 : n ≤ 4) : Fn yX10_count cX10_count 2 (some .int) 1 [.ref 79, .int 2] v L (some (.int (v 82 17))) v L := by
  refine Fq.of (plainFor_of_name (by decide)) [some (.ref 79), some (.int 2)] rfl (Nat.le_of_ble_eq_true rfl) ?_
  refine g_iload1 (pc := 0) dX10_count_0 ?_
  refine g_tableIn (pc := 1) (off := 65) 66 dX10_count_1 (by decide) (by decide) (by rfl) (by decide) ?_
  first | refine g_aload0 (pc := 66) dX10_count_66 ?_ | refine g_aloadN0 (pc := 66) dX10_count_66 ?_
  refine g_getR (pc := 67) (j := 3) cf10 dX10_count_67 fl_RX10_16 (by decide) (by decide) (by first | rfl | assumption) (82) (rfl) ?_
  refine g_bipush (pc := 70) (17) dX10_count_70 (by decide) ?_
  refine g_ialdX (pc := 72) (17) dX10_count_72 (rfl) (rfl) (by have := ln_all; omega) (by decide) ?_
  refine g_iret (pc := 73) dX10_count_73 rfl ?_
  exact ⟨rfl, rfl, rfl⟩
theorem c_X10_count_3 {n : Nat} {v : Mm} {L : Lm} (hn : v 79 0 = nI n) (hn4 : n ≤ 4) : Fn yX10_count cX10_count 2 (some .int) 1 [.ref 79, .int 3] v L (some (.int (ikF v 0))) v L := by
  refine Fq.of (plainFor_of_name (by decide)) [some (.ref 79), some (.int 3)] rfl (Nat.le_of_ble_eq_true rfl) ?_
  refine g_iload1 (pc := 0) dX10_count_0 ?_
  refine g_tableIn (pc := 1) (off := 73) 74 dX10_count_1 (by decide) (by decide) (by rfl) (by decide) ?_
  first | refine g_aload0 (pc := 74) dX10_count_74 ?_ | refine g_aloadN0 (pc := 74) dX10_count_74 ?_
  refine g_iconst (pc := 75) (0) dX10_count_75 (by decide) ?_
  refine g_fV1 (pc := 76) (c_X10_inkOn (l := 0) (by decide)) cf10 (by first | rfl | assumption) dX10_count_76 cw_RX10_230 (by decide) (Nat.le_of_ble_eq_true rfl) ?_
  refine g_iret (pc := 79) dX10_count_79 rfl ?_
  exact ⟨rfl, rfl, rfl⟩
theorem c_X10_count_4 {n : Nat} {v : Mm} {L : Lm} (hn : v 79 0 = nI n) (hn4 : n ≤ 4) : Fn yX10_count cX10_count 2 (some .int) 1 [.ref 79, .int 4] v L (some (.int (bkF v 0))) v L := by
  refine Fq.of (plainFor_of_name (by decide)) [some (.ref 79), some (.int 4)] rfl (Nat.le_of_ble_eq_true rfl) ?_
  refine g_iload1 (pc := 0) dX10_count_0 ?_
  refine g_tableIn (pc := 1) (off := 79) 80 dX10_count_1 (by decide) (by decide) (by rfl) (by decide) ?_
  first | refine g_aload0 (pc := 80) dX10_count_80 ?_ | refine g_aloadN0 (pc := 80) dX10_count_80 ?_
  refine g_iconst (pc := 81) (0) dX10_count_81 (by decide) ?_
  refine g_fV1 (pc := 82) (c_X10_blackOn (l := 0) (by decide)) cf10 (by first | rfl | assumption) dX10_count_82 cw_RX10_193 (by decide) (Nat.le_of_ble_eq_true rfl) ?_
  refine g_iret (pc := 85) dX10_count_85 rfl ?_
  exact ⟨rfl, rfl, rfl⟩
theorem c_X10_count_5 {n : Nat} {v : Mm} {L : Lm} (hn : v 79 0 = nI n) (hn4 : n ≤ 4) : Fn yX10_count cX10_count 2 (some .int) 1 [.ref 79, .int 5] v L (some (.int (v 82 16))) v L := by
  refine Fq.of (plainFor_of_name (by decide)) [some (.ref 79), some (.int 5)] rfl (Nat.le_of_ble_eq_true rfl) ?_
  refine g_iload1 (pc := 0) dX10_count_0 ?_
  refine g_tableIn (pc := 1) (off := 85) 86 dX10_count_1 (by decide) (by decide) (by rfl) (by decide) ?_
  first | refine g_aload0 (pc := 86) dX10_count_86 ?_ | refine g_aloadN0 (pc := 86) dX10_count_86 ?_
  refine g_getR (pc := 87) (j := 3) cf10 dX10_count_87 fl_RX10_16 (by decide) (by decide) (by first | rfl | assumption) (82) (rfl) ?_
  refine g_bipush (pc := 90) (16) dX10_count_90 (by decide) ?_
  refine g_ialdX (pc := 92) (16) dX10_count_92 (rfl) (rfl) (by have := ln_all; omega) (by decide) ?_
  refine g_iret (pc := 93) dX10_count_93 rfl ?_
  exact ⟨rfl, rfl, rfl⟩
theorem c_X10_count_6 {n : Nat} {v : Mm} {L : Lm} (hn : v 79 0 = nI n) (hn4 : n ≤ 4) : Fn yX10_count cX10_count 2 (some .int) 1 [.ref 79, .int 6] v L (some (.int (fuF v n))) v L := by
  refine Fq.of (plainFor_of_name (by decide)) [some (.ref 79), some (.int 6)] rfl (Nat.le_of_ble_eq_true rfl) ?_
  refine g_iload1 (pc := 0) dX10_count_0 ?_
  refine g_tableIn (pc := 1) (off := 93) 94 dX10_count_1 (by decide) (by decide) (by rfl) (by decide) ?_
  first | refine g_aload0 (pc := 94) dX10_count_94 ?_ | refine g_aloadN0 (pc := 94) dX10_count_94 ?_
  refine g_fV0 (pc := 95) (c_X10_fullPens hn hn4) cf10 (by first | rfl | assumption) dX10_count_95 cw_RX10_233 (by decide) (Nat.le_of_ble_eq_true rfl) ?_
  refine g_iret (pc := 98) dX10_count_98 rfl ?_
  exact ⟨rfl, rfl, rfl⟩
theorem c_X10_count_7 {n : Nat} {v : Mm} {L : Lm} (hn : v 79 0 = nI n) (hn4 : n ≤ 4) : Fn yX10_count cX10_count 2 (some .int) 1 [.ref 79, .int 7] v L (some (.int (v 79 12))) v L := by
  refine Fq.of (plainFor_of_name (by decide)) [some (.ref 79), some (.int 7)] rfl (Nat.le_of_ble_eq_true rfl) ?_
  refine g_iload1 (pc := 0) dX10_count_0 ?_
  refine g_tableIn (pc := 1) (off := 98) 99 dX10_count_1 (by decide) (by decide) (by rfl) (by decide) ?_
  first | refine g_aload0 (pc := 99) dX10_count_99 ?_ | refine g_aloadN0 (pc := 99) dX10_count_99 ?_
  refine g_getI (pc := 100) (j := 12) cf10 dX10_count_100 fl_RX10_100 (by decide) (by decide) (by first | rfl | assumption) ?_
  refine g_iret (pc := 103) dX10_count_103 rfl ?_
  exact ⟨rfl, rfl, rfl⟩
theorem c_X10_count_8 {n : Nat} {v : Mm} {L : Lm} (hn : v 79 0 = nI n) (hn4 : n ≤ 4) : Fn yX10_count cX10_count 2 (some .int) 1 [.ref 79, .int 8] v L (some (.int (v 79 15))) v L := by
  refine Fq.of (plainFor_of_name (by decide)) [some (.ref 79), some (.int 8)] rfl (Nat.le_of_ble_eq_true rfl) ?_
  refine g_iload1 (pc := 0) dX10_count_0 ?_
  refine g_tableIn (pc := 1) (off := 103) 104 dX10_count_1 (by decide) (by decide) (by rfl) (by decide) ?_
  first | refine g_aload0 (pc := 104) dX10_count_104 ?_ | refine g_aloadN0 (pc := 104) dX10_count_104 ?_
  refine g_getI (pc := 105) (j := 15) cf10 dX10_count_105 fl_RX10_87 (by decide) (by decide) (by first | rfl | assumption) ?_
  refine g_iret (pc := 108) dX10_count_108 rfl ?_
  exact ⟨rfl, rfl, rfl⟩
theorem c_X10_count_9 {n : Nat} {v : Mm} {L : Lm} (hn : v 79 0 = nI n) (hn4 : n ≤ 4) : Fn yX10_count cX10_count 2 (some .int) 1 [.ref 79, .int 9] v L (some (.int (v 79 19))) v L := by
  refine Fq.of (plainFor_of_name (by decide)) [some (.ref 79), some (.int 9)] rfl (Nat.le_of_ble_eq_true rfl) ?_
  refine g_iload1 (pc := 0) dX10_count_0 ?_
  refine g_tableIn (pc := 1) (off := 108) 109 dX10_count_1 (by decide) (by decide) (by rfl) (by decide) ?_
  first | refine g_aload0 (pc := 109) dX10_count_109 ?_ | refine g_aloadN0 (pc := 109) dX10_count_109 ?_
  refine g_getI (pc := 110) (j := 19) cf10 dX10_count_110 fl_RX10_190 (by decide) (by decide) (by first | rfl | assumption) ?_
  refine g_iret (pc := 113) dX10_count_113 rfl ?_
  exact ⟨rfl, rfl, rfl⟩
theorem c_X10_count_o {y : Int32} {v : Mm} {L : Lm} (hy : y.toInt < 0 ∨ 9 < y.toInt) : Fn yX10_count cX10_count 2 (some .int) 1 [.ref 79, .int y] v L (some (.int (-2))) v L := by
  refine Fq.of (plainFor_of_name (by decide)) [some (.ref 79), some (.int y)] rfl (Nat.le_of_ble_eq_true rfl) ?_
  refine g_iload1 (pc := 0) dX10_count_0 ?_
  refine g_tableOut (pc := 1) 114 dX10_count_1 hy (by decide) ?_
  refine g_bipush (pc := 114) (-2) dX10_count_114 (by decide) ?_
  refine g_iret (pc := 116) dX10_count_116 rfl ?_
  exact ⟨rfl, rfl, rfl⟩
theorem c_X10_see_o {x y : Int32} {v : Mm} {L : Lm} (hx : ¬ ((0 ≤ x ∧ x < 8) ∧ (0 ≤ y ∧ y ≤ 6))) : Fn yX10_see cX10_see 3 (some .int) 1 [.ref 79, .int x, .int y] v L (some (.int (-2))) v L := by
  have zi7 : ∀ zx : Int32, ((0 : Int64) ≤ zx.toInt64 ∧ zx.toInt64 ≤ 7) ↔ (0 ≤ zx ∧ zx ≤ 7) := fun zx => inI (y := zx) (by decide) (by decide)
  have zi6 : ∀ zx : Int32, ((0 : Int64) ≤ zx.toInt64 ∧ zx.toInt64 ≤ 6) ↔ (0 ≤ zx ∧ zx ≤ 6) := fun zx => inI (y := zx) (by decide) (by decide)
  refine Fq.of (plainFor_of_name (by decide)) [some (.ref 79), some (.int x), some (.int y)] rfl (Nat.le_of_ble_eq_true rfl) ?_
  refine g_iload1 (pc := 0) dX10_see_0 ?_
  refine g_i2l (pc := 1) dX10_see_1 ?_
  refine g_lconst (pc := 2) (0) dX10_see_2 (by decide) ?_
  refine g_ldc2 (pc := 3) _ dX10_see_3 kc_RX10_98 ?_
  refine g_fS3 (pc := 6) (c_X10_in) dX10_see_6 cw_RX10_52 (by decide) (Nat.le_of_ble_eq_true rfl) ?_
  refine g_if_eq (pc := 9) 24 dX10_see_9 (by decide) (fun zh9 => ?_) (fun zh9 => ?_)
  · skip
    refine g_bipush (pc := 24) (-2) dX10_see_24 (by decide) ?_
    refine g_iret (pc := 26) dX10_see_26 rfl ?_
    exact ⟨rfl, rfl, rfl⟩
  · skip
    refine g_iload2 (pc := 12) dX10_see_12 ?_
    refine g_i2l (pc := 13) dX10_see_13 ?_
    refine g_lconst (pc := 14) (0) dX10_see_14 (by decide) ?_
    refine g_ldc2 (pc := 15) _ dX10_see_15 kc_RX10_188 ?_
    refine g_fS3 (pc := 18) (c_X10_in) dX10_see_18 cw_RX10_52 (by decide) (Nat.le_of_ble_eq_true rfl) ?_
    refine g_if_ne (pc := 21) 27 dX10_see_21 (by decide) (fun zh21 => ?_) (fun zh21 => ?_)
    · skip
      exact absurd ⟨⟨((zi7 _).mp (b01_ne0.mp zh9)).1, le7.mp ((zi7 _).mp (b01_ne0.mp zh9)).2⟩, (zi6 _).mp (b01_ne0.mp zh21)⟩ hx
    · skip
      refine g_bipush (pc := 24) (-2) dX10_see_24 (by decide) ?_
      refine g_iret (pc := 26) dX10_see_26 rfl ?_
      exact ⟨rfl, rfl, rfl⟩
theorem c_X10_see_f {x y : Int32} {v : Mm} {L : Lm} (hx : 0 ≤ x ∧ x < 8) (hy : 0 ≤ y ∧ y ≤ 6) (hc : v 79 19 = 6) : Fn yX10_see cX10_see 3 (some .int) 1 [.ref 79, .int x, .int y] v L (some (.int (-4))) v L := by
  have zi7 : ∀ zx : Int32, ((0 : Int64) ≤ zx.toInt64 ∧ zx.toInt64 ≤ 7) ↔ (0 ≤ zx ∧ zx ≤ 7) := fun zx => inI (y := zx) (by decide) (by decide)
  have zi6 : ∀ zx : Int32, ((0 : Int64) ≤ zx.toInt64 ∧ zx.toInt64 ≤ 6) ↔ (0 ≤ zx ∧ zx ≤ 6) := fun zx => inI (y := zx) (by decide) (by decide)
  refine Fq.of (plainFor_of_name (by decide)) [some (.ref 79), some (.int x), some (.int y)] rfl (Nat.le_of_ble_eq_true rfl) ?_
  refine g_iload1 (pc := 0) dX10_see_0 ?_
  refine g_i2l (pc := 1) dX10_see_1 ?_
  refine g_lconst (pc := 2) (0) dX10_see_2 (by decide) ?_
  refine g_ldc2 (pc := 3) _ dX10_see_3 kc_RX10_98 ?_
  refine g_fS3 (pc := 6) (c_X10_in) dX10_see_6 cw_RX10_52 (by decide) (Nat.le_of_ble_eq_true rfl) ?_
  refine g_if_eq (pc := 9) 24 dX10_see_9 (by decide) (fun zh9 => ?_) (fun zh9 => ?_)
  · skip
    exact absurd ((zi7 _).mpr ⟨hx.1, le7.mpr hx.2⟩) (b01_eq0.mp zh9)
  · skip
    refine g_iload2 (pc := 12) dX10_see_12 ?_
    refine g_i2l (pc := 13) dX10_see_13 ?_
    refine g_lconst (pc := 14) (0) dX10_see_14 (by decide) ?_
    refine g_ldc2 (pc := 15) _ dX10_see_15 kc_RX10_188 ?_
    refine g_fS3 (pc := 18) (c_X10_in) dX10_see_18 cw_RX10_52 (by decide) (Nat.le_of_ble_eq_true rfl) ?_
    refine g_if_ne (pc := 21) 27 dX10_see_21 (by decide) (fun zh21 => ?_) (fun zh21 => ?_)
    · skip
      first | refine g_aload0 (pc := 27) dX10_see_27 ?_ | refine g_aloadN0 (pc := 27) dX10_see_27 ?_
      refine g_getI (pc := 28) (j := 19) cf10 dX10_see_28 fl_RX10_190 (by decide) (by decide) (by first | rfl | assumption) ?_
      refine g_bipush (pc := 31) (6) dX10_see_31 (by decide) ?_
      refine g_icmp_ne (pc := 33) 39 dX10_see_33 (by decide) (fun zh33 => ?_) (fun zh33 => ?_)
      · skip
        exact absurd hc zh33
      · skip
        refine g_bipush (pc := 36) (-4) dX10_see_36 (by decide) ?_
        refine g_iret (pc := 38) dX10_see_38 rfl ?_
        exact ⟨rfl, rfl, rfl⟩
    · skip
      exact absurd ((zi6 _).mpr hy) (b01_eq0.mp zh21)
theorem c_X10_see_s {x y : Int32} {c : Nat} {v : Mm} {L : Lm} (hx : 0 ≤ x ∧ x < 8) (hy : 0 ≤ y ∧ y ≤ 6) (hc : v 79 19 = nI c) (hc6 : c < 6) : Fn yX10_see cX10_see 3 (some .int) 1 [.ref 79, .int x, .int y] v L (some (.int (nI (c + 1)))) (upd2 (upd2 (upd2 v 89 c x) 90 c y) 79 19 (nI (c + 1))) L := by
  have zi7 : ∀ zx : Int32, ((0 : Int64) ≤ zx.toInt64 ∧ zx.toInt64 ≤ 7) ↔ (0 ≤ zx ∧ zx ≤ 7) := fun zx => inI (y := zx) (by decide) (by decide)
  have zi6 : ∀ zx : Int32, ((0 : Int64) ≤ zx.toInt64 ∧ zx.toInt64 ≤ 6) ↔ (0 ≤ zx ∧ zx ≤ 6) := fun zx => inI (y := zx) (by decide) (by decide)
  have z1 : upd2 v 89 c x 79 19 = nI c := by rw [u2_n (by omega)]; exact hc
  have z2 : upd2 (upd2 v 89 c x) 90 c y 79 19 = nI c := by rw [u2_n (by omega)]; exact z1
  refine Fq.of (plainFor_of_name (by decide)) [some (.ref 79), some (.int x), some (.int y)] rfl (Nat.le_of_ble_eq_true rfl) ?_
  refine g_iload1 (pc := 0) dX10_see_0 ?_
  refine g_i2l (pc := 1) dX10_see_1 ?_
  refine g_lconst (pc := 2) (0) dX10_see_2 (by decide) ?_
  refine g_ldc2 (pc := 3) _ dX10_see_3 kc_RX10_98 ?_
  refine g_fS3 (pc := 6) (c_X10_in) dX10_see_6 cw_RX10_52 (by decide) (Nat.le_of_ble_eq_true rfl) ?_
  refine g_if_eq (pc := 9) 24 dX10_see_9 (by decide) (fun zh9 => ?_) (fun zh9 => ?_)
  · skip
    exact absurd ((zi7 _).mpr ⟨hx.1, le7.mpr hx.2⟩) (b01_eq0.mp zh9)
  · skip
    refine g_iload2 (pc := 12) dX10_see_12 ?_
    refine g_i2l (pc := 13) dX10_see_13 ?_
    refine g_lconst (pc := 14) (0) dX10_see_14 (by decide) ?_
    refine g_ldc2 (pc := 15) _ dX10_see_15 kc_RX10_188 ?_
    refine g_fS3 (pc := 18) (c_X10_in) dX10_see_18 cw_RX10_52 (by decide) (Nat.le_of_ble_eq_true rfl) ?_
    refine g_if_ne (pc := 21) 27 dX10_see_21 (by decide) (fun zh21 => ?_) (fun zh21 => ?_)
    · skip
      first | refine g_aload0 (pc := 27) dX10_see_27 ?_ | refine g_aloadN0 (pc := 27) dX10_see_27 ?_
      refine g_getI (pc := 28) (j := 19) cf10 dX10_see_28 fl_RX10_190 (by decide) (by decide) (by first | rfl | assumption) ?_
      refine g_bipush (pc := 31) (6) dX10_see_31 (by decide) ?_
      refine g_icmp_ne (pc := 33) 39 dX10_see_33 (by decide) (fun zh33 => ?_) (fun zh33 => ?_)
      · skip
        first | refine g_aload0 (pc := 39) dX10_see_39 ?_ | refine g_aloadN0 (pc := 39) dX10_see_39 ?_
        refine g_getR (pc := 40) (j := 20) cf10 dX10_see_40 fl_RX10_37 (by decide) (by decide) (by first | rfl | assumption) (89) (rfl) ?_
        first | refine g_aload0 (pc := 43) dX10_see_43 ?_ | refine g_aloadN0 (pc := 43) dX10_see_43 ?_
        refine g_getI (pc := 44) (j := 19) cf10 dX10_see_44 fl_RX10_190 (by decide) (by decide) (by first | rfl | assumption) ?_
        refine g_iload1 (pc := 47) dX10_see_47 ?_
        refine g_iastX (pc := 48) (c) dX10_see_48 (rfl) (hc) (by have := ln_all; omega) (by decide) ?_
        first | refine g_aload0 (pc := 49) dX10_see_49 ?_ | refine g_aloadN0 (pc := 49) dX10_see_49 ?_
        refine g_getR (pc := 50) (j := 21) cf10 dX10_see_50 fl_RX10_40 (by decide) (by decide) (by first | rfl | assumption) (90) (rfl) ?_
        first | refine g_aload0 (pc := 53) dX10_see_53 ?_ | refine g_aloadN0 (pc := 53) dX10_see_53 ?_
        refine g_getI (pc := 54) (j := 19) cf10 dX10_see_54 fl_RX10_190 (by decide) (by decide) (by first | rfl | assumption) ?_
        refine g_iload2 (pc := 57) dX10_see_57 ?_
        refine g_iastX (pc := 58) (c) dX10_see_58 (rfl) (z1) (by have := ln_all; omega) (by decide) ?_
        first | refine g_aload0 (pc := 59) dX10_see_59 ?_ | refine g_aloadN0 (pc := 59) dX10_see_59 ?_
        refine g_dup (pc := 60) dX10_see_60 rfl ?_
        refine g_getI (pc := 61) (j := 19) cf10 dX10_see_61 fl_RX10_190 (by decide) (by decide) (by first | rfl | assumption) ?_
        refine g_iconst (pc := 64) (1) dX10_see_64 (by decide) ?_
        refine g_iadd (pc := 65) dX10_see_65 ?_
        rw [z2, nI_1]
        refine g_putI (pc := 66) (j := 19) cf10 dX10_see_66 fl_RX10_190 (by decide) rfl rfl (by decide) (by first | rfl | assumption) ?_
        first | refine g_aload0 (pc := 69) dX10_see_69 ?_ | refine g_aloadN0 (pc := 69) dX10_see_69 ?_
        refine g_getI (pc := 70) (j := 19) cf10 dX10_see_70 fl_RX10_190 (by decide) (by decide) (by first | rfl | assumption) ?_
        refine g_iret (pc := 73) dX10_see_73 rfl ?_
        exact ⟨by rw [u2_s], rfl, rfl⟩
      · skip
        exact absurd (hc.symm.trans zh33) (fun zq => absurd ((nI_eq (b := 6) (by omega) (by decide)).mp zq) (by omega))
    · skip
      exact absurd ((zi6 _).mpr hy) (b01_eq0.mp zh21)
theorem c_X10_unsee  {v : Mm} {L : Lm}  : Fn yX10_unsee cX10_unsee 2 (some .int) 0 [.ref 79] v L (some (.int (v 79 19))) (upd2 v 79 19 0) L := by
  refine Fq.of (plainFor_of_name (by decide)) [some (.ref 79), none] rfl (Nat.le_of_ble_eq_true rfl) ?_
  first | refine g_aload0 (pc := 0) dX10_unsee_0 ?_ | refine g_aloadN0 (pc := 0) dX10_unsee_0 ?_
  refine g_getI (pc := 1) (j := 19) cf10 dX10_unsee_1 fl_RX10_190 (by decide) (by decide) (by first | rfl | assumption) ?_
  refine g_istore1 (pc := 4) dX10_unsee_4 (by decide) (by first | rfl | assumption) ?_
  first | refine g_aload0 (pc := 5) dX10_unsee_5 ?_ | refine g_aloadN0 (pc := 5) dX10_unsee_5 ?_
  refine g_iconst (pc := 6) (0) dX10_unsee_6 (by decide) ?_
  refine g_putI (pc := 7) (j := 19) cf10 dX10_unsee_7 fl_RX10_190 (by decide) rfl rfl (by decide) (by first | rfl | assumption) ?_
  refine g_iload1 (pc := 10) dX10_unsee_10 ?_
  refine g_iret (pc := 11) dX10_unsee_11 rfl ?_
  exact ⟨rfl, rfl, rfl⟩
theorem c_X10_seed {x : Int64} {v : Mm} {L : Lm}  : Fn yX10_seed cX10_seed 5 (some .long) 0 [.ref 79, .long x] v L (some (.long (L 79))) v (updl L 79 x) := by
  refine Fq.of (plainFor_of_name (by decide)) [some (.ref 79), some (.long x), none, none, none] rfl (Nat.le_of_ble_eq_true rfl) ?_
  first | refine g_aload0 (pc := 0) dX10_seed_0 ?_ | refine g_aloadN0 (pc := 0) dX10_seed_0 ?_
  refine g_getL (pc := 1) (j := 22) cf10 dX10_seed_1 fl_RX10_218 (by decide) (by decide) (by first | rfl | assumption) ?_
  refine g_lstore3 (pc := 4) dX10_seed_4 (by decide) (by first | rfl | assumption) ?_
  first | refine g_aload0 (pc := 5) dX10_seed_5 ?_ | refine g_aloadN0 (pc := 5) dX10_seed_5 ?_
  refine g_lload1 (pc := 6) dX10_seed_6 ?_
  refine g_putL (pc := 7) (j := 22) cf10 dX10_seed_7 fl_RX10_218 (by decide) rfl rfl (by decide) (by decide) (by first | rfl | assumption) ?_
  refine g_lload3 (pc := 10) dX10_seed_10 ?_
  refine g_lret (pc := 11) dX10_seed_11 rfl ?_
  exact ⟨rfl, rfl, rfl⟩
theorem c_X10_keep_u {x : Int32} {v : Mm} {L : Lm} (hx : ¬ (0 ≤ x ∧ x ≤ 1)) : Fn yX10_keep cX10_keep 3 (some .int) 1 [.ref 79, .int x] v L (some (.int (-1))) v L := by
  have zi : ∀ zx : Int32, ((0 : Int64) ≤ zx.toInt64 ∧ zx.toInt64 ≤ 1) ↔ (0 ≤ zx ∧ zx ≤ 1) := fun zx => inI (y := zx) (by decide) (by decide)
  refine Fq.of (plainFor_of_name (by decide)) [some (.ref 79), some (.int x), none] rfl (Nat.le_of_ble_eq_true rfl) ?_
  refine g_iload1 (pc := 0) dX10_keep_0 ?_
  refine g_i2l (pc := 1) dX10_keep_1 ?_
  refine g_lconst (pc := 2) (0) dX10_keep_2 (by decide) ?_
  refine g_lconst (pc := 3) (1) dX10_keep_3 (by decide) ?_
  refine g_fS3 (pc := 4) (c_X10_in) dX10_keep_4 cw_RX10_52 (by decide) (Nat.le_of_ble_eq_true rfl) ?_
  refine g_if_ne (pc := 7) 12 dX10_keep_7 (by decide) (fun zh7 => ?_) (fun zh7 => ?_)
  · skip
    exact absurd ((zi _).mp (b01_ne0.mp zh7)) hx
  · skip
    refine g_iconst (pc := 10) (-1) dX10_keep_10 (by decide) ?_
    refine g_iret (pc := 11) dX10_keep_11 rfl ?_
    exact ⟨rfl, rfl, rfl⟩
theorem c_X10_again_u {x : Int32} {v : Mm} {L : Lm} (hx : ¬ (0 ≤ x ∧ x ≤ 1)) : Fn yX10_again cX10_again 3 (some .int) 1 [.ref 79, .int x] v L (some (.int (-1))) v L := by
  have zi : ∀ zx : Int32, ((0 : Int64) ≤ zx.toInt64 ∧ zx.toInt64 ≤ 1) ↔ (0 ≤ zx ∧ zx ≤ 1) := fun zx => inI (y := zx) (by decide) (by decide)
  refine Fq.of (plainFor_of_name (by decide)) [some (.ref 79), some (.int x), none] rfl (Nat.le_of_ble_eq_true rfl) ?_
  refine g_iload1 (pc := 0) dX10_again_0 ?_
  refine g_i2l (pc := 1) dX10_again_1 ?_
  refine g_lconst (pc := 2) (0) dX10_again_2 (by decide) ?_
  refine g_lconst (pc := 3) (1) dX10_again_3 (by decide) ?_
  refine g_fS3 (pc := 4) (c_X10_in) dX10_again_4 cw_RX10_52 (by decide) (Nat.le_of_ble_eq_true rfl) ?_
  refine g_if_ne (pc := 7) 12 dX10_again_7 (by decide) (fun zh7 => ?_) (fun zh7 => ?_)
  · skip
    exact absurd ((zi _).mp (b01_ne0.mp zh7)) hx
  · skip
    refine g_iconst (pc := 10) (-1) dX10_again_10 (by decide) ?_
    refine g_iret (pc := 11) dX10_again_11 rfl ?_
    exact ⟨rfl, rfl, rfl⟩
theorem lp_X10_keep {s : Nat} {w0 : Mm} {L : Lm} {Q : Qt} (hs : s ≤ 1) (hI0 : (fun (_ : Nat) (_ : Mm) => True) 0 w0) (hk : G RX10 cX10_keep 3 (some .int) 1 Q 50 [some (.ref 79), some (.int (nI s)), some (.int (nI 43))] [] (itr (fun k w => upd2 w 92 (43 * s + k) (w 82 k)) 43 w0) L) : (fun (i : Nat) (w : Mm) =>  G RX10 cX10_keep 3 (some .int) 1 Q 21 [some (.ref 79), some (.int (nI s)), some (.int (nI i))] [] w L) 0 w0 := by
  refine g_for 43 (fun k w => upd2 w 92 (43 * s + k) (w 82 k)) (fun (_ : Nat) (_ : Mm) => True) (fun (i : Nat) (w : Mm) =>  G RX10 cX10_keep 3 (some .int) 1 Q 21 [some (.ref 79), some (.int (nI s)), some (.int (nI i))] [] w L) w0 hI0 ?_ (fun hI => ?_) (fun i w hi hI hn => ?_)
  · exact fun _ _ _ h => h
  · show G _ _ _ _ _ _ _ _ _ _ _
    try dsimp only at hI
    refine g_iload2 (pc := 21) dX10_keep_21 ?_
    refine g_bipush (pc := 22) (43) dX10_keep_22 (by decide) ?_
    refine g_icmp_ge (pc := 24) 50 dX10_keep_24 (by decide) (fun zh24 => ?_) (fun zh24 => ?_)
    · skip
      exact hk
    · skip
      exact absurd (Int32.le_refl _) zh24
  · show G _ _ _ _ _ _ _ _ _ _ _
    try dsimp only at hI
    try dsimp only at hn
    refine g_iload2 (pc := 21) dX10_keep_21 ?_
    refine g_bipush (pc := 22) (43) dX10_keep_22 (by decide) ?_
    refine g_icmp_ge (pc := 24) 50 dX10_keep_24 (by decide) (fun zh24 => ?_) (fun zh24 => ?_)
    · skip
      exact absurd zh24 (nI_ge (b := 43) hi (by decide))
    · skip
      first | refine g_aload0 (pc := 27) dX10_keep_27 ?_ | refine g_aloadN0 (pc := 27) dX10_keep_27 ?_
      refine g_getR (pc := 28) (j := 24) cf10 dX10_keep_28 fl_RX10_47 (by decide) (by decide) (by first | rfl | assumption) (92) (rfl) ?_
      refine g_bipush (pc := 31) (43) dX10_keep_31 (by decide) ?_
      refine g_iload1 (pc := 33) dX10_keep_33 ?_
      refine g_imul (pc := 34) dX10_keep_34 ?_
      refine g_iload2 (pc := 35) dX10_keep_35 ?_
      refine g_iadd (pc := 36) dX10_keep_36 ?_
      first | refine g_aload0 (pc := 37) dX10_keep_37 ?_ | refine g_aloadN0 (pc := 37) dX10_keep_37 ?_
      refine g_getR (pc := 38) (j := 3) cf10 dX10_keep_38 fl_RX10_16 (by decide) (by decide) (by first | rfl | assumption) (82) (rfl) ?_
      refine g_iload2 (pc := 41) dX10_keep_41 ?_
      refine g_ialdX (pc := 42) (i) dX10_keep_42 (rfl) (rfl) (by have := ln_all; omega) (by decide) ?_
      refine g_iastX (pc := 43) (43 * s + i) dX10_keep_43 (rfl) (ixK) (by have := ln_all; omega) (by decide) ?_
      refine g_iinc2 (pc := 44) (nI (i + 1)) dX10_keep_44 (nI_succ' i) (by decide) (by first | rfl | assumption) ?_
      refine g_goto (pc := 47) 21 dX10_keep_47 (by decide) ?_
      exact hn
theorem lp_X10_again {s : Nat} {w0 : Mm} {L : Lm} {Q : Qt} (hs : s ≤ 1) (hI0 : (fun (_ : Nat) (_ : Mm) => True) 0 w0) (hk : G RX10 cX10_again 3 (some .int) 1 Q 55 [some (.ref 79), some (.int (nI s)), some (.int (nI 43))] [] (itr (fun k w => upd2 w 82 k (w 92 (43 * s + k))) 43 w0) L) : (fun (i : Nat) (w : Mm) =>  G RX10 cX10_again 3 (some .int) 1 Q 26 [some (.ref 79), some (.int (nI s)), some (.int (nI i))] [] w L) 0 w0 := by
  refine g_for 43 (fun k w => upd2 w 82 k (w 92 (43 * s + k))) (fun (_ : Nat) (_ : Mm) => True) (fun (i : Nat) (w : Mm) =>  G RX10 cX10_again 3 (some .int) 1 Q 26 [some (.ref 79), some (.int (nI s)), some (.int (nI i))] [] w L) w0 hI0 ?_ (fun hI => ?_) (fun i w hi hI hn => ?_)
  · exact fun _ _ _ h => h
  · show G _ _ _ _ _ _ _ _ _ _ _
    try dsimp only at hI
    refine g_iload2 (pc := 26) dX10_again_26 ?_
    refine g_bipush (pc := 27) (43) dX10_again_27 (by decide) ?_
    refine g_icmp_ge (pc := 29) 55 dX10_again_29 (by decide) (fun zh29 => ?_) (fun zh29 => ?_)
    · skip
      exact hk
    · skip
      exact absurd (Int32.le_refl _) zh29
  · show G _ _ _ _ _ _ _ _ _ _ _
    try dsimp only at hI
    try dsimp only at hn
    refine g_iload2 (pc := 26) dX10_again_26 ?_
    refine g_bipush (pc := 27) (43) dX10_again_27 (by decide) ?_
    refine g_icmp_ge (pc := 29) 55 dX10_again_29 (by decide) (fun zh29 => ?_) (fun zh29 => ?_)
    · skip
      exact absurd zh29 (nI_ge (b := 43) hi (by decide))
    · skip
      first | refine g_aload0 (pc := 32) dX10_again_32 ?_ | refine g_aloadN0 (pc := 32) dX10_again_32 ?_
      refine g_getR (pc := 33) (j := 3) cf10 dX10_again_33 fl_RX10_16 (by decide) (by decide) (by first | rfl | assumption) (82) (rfl) ?_
      refine g_iload2 (pc := 36) dX10_again_36 ?_
      first | refine g_aload0 (pc := 37) dX10_again_37 ?_ | refine g_aloadN0 (pc := 37) dX10_again_37 ?_
      refine g_getR (pc := 38) (j := 24) cf10 dX10_again_38 fl_RX10_47 (by decide) (by decide) (by first | rfl | assumption) (92) (rfl) ?_
      refine g_bipush (pc := 41) (43) dX10_again_41 (by decide) ?_
      refine g_iload1 (pc := 43) dX10_again_43 ?_
      refine g_imul (pc := 44) dX10_again_44 ?_
      refine g_iload2 (pc := 45) dX10_again_45 ?_
      refine g_iadd (pc := 46) dX10_again_46 ?_
      refine g_ialdX (pc := 47) (43 * s + i) dX10_again_47 (rfl) (ixK) (by have := ln_all; omega) (by decide) ?_
      refine g_iastX (pc := 48) (i) dX10_again_48 (rfl) (rfl) (by have := ln_all; omega) (by decide) ?_
      refine g_iinc2 (pc := 49) (nI (i + 1)) dX10_again_49 (nI_succ' i) (by decide) (by first | rfl | assumption) ?_
      refine g_goto (pc := 52) 26 dX10_again_52 (by decide) ?_
      exact hn
theorem c_X10_keep_s {s : Nat} {v : Mm} {L : Lm} (hs : s ≤ 1) : Fn yX10_keep cX10_keep 3 (some .int) 1 [.ref 79, .int (nI s)] v L (some (.int (kpV (upd2 v 91 s 1) s 82 17))) (kpV (upd2 v 91 s 1) s) L := by
  have zi : ∀ zx : Int32, ((0 : Int64) ≤ zx.toInt64 ∧ zx.toInt64 ≤ 1) ↔ (0 ≤ zx ∧ zx ≤ 1) := fun zx => inI (y := zx) (by decide) (by decide)
  refine Fq.of (plainFor_of_name (by decide)) [some (.ref 79), some (.int (nI s)), none] rfl (Nat.le_of_ble_eq_true rfl) ?_
  refine g_iload1 (pc := 0) dX10_keep_0 ?_
  refine g_i2l (pc := 1) dX10_keep_1 ?_
  refine g_lconst (pc := 2) (0) dX10_keep_2 (by decide) ?_
  refine g_lconst (pc := 3) (1) dX10_keep_3 (by decide) ?_
  refine g_fS3 (pc := 4) (c_X10_in) dX10_keep_4 cw_RX10_52 (by decide) (Nat.le_of_ble_eq_true rfl) ?_
  refine g_if_ne (pc := 7) 12 dX10_keep_7 (by decide) (fun zh7 => ?_) (fun zh7 => ?_)
  · skip
    first | refine g_aload0 (pc := 12) dX10_keep_12 ?_ | refine g_aloadN0 (pc := 12) dX10_keep_12 ?_
    refine g_getR (pc := 13) (j := 23) cf10 dX10_keep_13 fl_RX10_43 (by decide) (by decide) (by first | rfl | assumption) (91) (rfl) ?_
    refine g_iload1 (pc := 16) dX10_keep_16 ?_
    refine g_iconst (pc := 17) (1) dX10_keep_17 (by decide) ?_
    refine g_zastX (pc := 18) (s) dX10_keep_18 (rfl) (rfl) (by have := ln_all; omega) (by decide) (by first | exact Or.inl rfl | exact Or.inr rfl | assumption) ?_
    refine g_iconst (pc := 19) (0) dX10_keep_19 (by decide) ?_
    refine g_istore2 (pc := 20) dX10_keep_20 (by decide) (by first | rfl | assumption) ?_
    refine lp_X10_keep hs trivial ?_
    first | refine g_aload0 (pc := 50) dX10_keep_50 ?_ | refine g_aloadN0 (pc := 50) dX10_keep_50 ?_
    refine g_getR (pc := 51) (j := 3) cf10 dX10_keep_51 fl_RX10_16 (by decide) (by decide) (by first | rfl | assumption) (82) (rfl) ?_
    refine g_bipush (pc := 54) (17) dX10_keep_54 (by decide) ?_
    refine g_ialdX (pc := 56) (17) dX10_keep_56 (rfl) (rfl) (by have := ln_all; omega) (by decide) ?_
    refine g_iret (pc := 57) dX10_keep_57 rfl ?_
    exact ⟨rfl, rfl, rfl⟩
  · skip
    exact absurd ((zi _).mpr ⟨nI_pos' (by omega), nI_le (b := 1) (by omega) (by decide)⟩) (b01_eq0.mp zh7)
theorem c_X10_again_n {s : Nat} {v : Mm} {L : Lm} (hs : s ≤ 1) (zh0 : v 91 s = 0) : Fn yX10_again cX10_again 3 (some .int) 1 [.ref 79, .int (nI s)] v L (some (.int (-3))) v L := by
  have zi : ∀ zx : Int32, ((0 : Int64) ≤ zx.toInt64 ∧ zx.toInt64 ≤ 1) ↔ (0 ≤ zx ∧ zx ≤ 1) := fun zx => inI (y := zx) (by decide) (by decide)
  refine Fq.of (plainFor_of_name (by decide)) [some (.ref 79), some (.int (nI s)), none] rfl (Nat.le_of_ble_eq_true rfl) ?_
  refine g_iload1 (pc := 0) dX10_again_0 ?_
  refine g_i2l (pc := 1) dX10_again_1 ?_
  refine g_lconst (pc := 2) (0) dX10_again_2 (by decide) ?_
  refine g_lconst (pc := 3) (1) dX10_again_3 (by decide) ?_
  refine g_fS3 (pc := 4) (c_X10_in) dX10_again_4 cw_RX10_52 (by decide) (Nat.le_of_ble_eq_true rfl) ?_
  refine g_if_ne (pc := 7) 12 dX10_again_7 (by decide) (fun zh7 => ?_) (fun zh7 => ?_)
  · skip
    first | refine g_aload0 (pc := 12) dX10_again_12 ?_ | refine g_aloadN0 (pc := 12) dX10_again_12 ?_
    refine g_getR (pc := 13) (j := 23) cf10 dX10_again_13 fl_RX10_43 (by decide) (by decide) (by first | rfl | assumption) (91) (rfl) ?_
    refine g_iload1 (pc := 16) dX10_again_16 ?_
    refine g_zaldX (pc := 17) (s) dX10_again_17 (rfl) (rfl) (by have := ln_all; omega) (by decide) ?_
    refine g_if_ne (pc := 18) 24 dX10_again_18 (by decide) (fun zh18 => ?_) (fun zh18 => ?_)
    · skip
      exact absurd zh0 zh18
    · skip
      refine g_bipush (pc := 21) (-3) dX10_again_21 (by decide) ?_
      refine g_iret (pc := 23) dX10_again_23 rfl ?_
      exact ⟨rfl, rfl, rfl⟩
  · skip
    exact absurd ((zi _).mpr ⟨nI_pos' (by omega), nI_le (b := 1) (by omega) (by decide)⟩) (b01_eq0.mp zh7)
theorem c_X10_again_s {s : Nat} {v : Mm} {L : Lm} (hs : s ≤ 1) (zh0 : ¬ v 91 s = 0) : Fn yX10_again cX10_again 3 (some .int) 1 [.ref 79, .int (nI s)] v L (some (.int (upd2 (agV v s) 79 15 0 82 17))) (upd2 (agV v s) 79 15 0) L := by
  have zi : ∀ zx : Int32, ((0 : Int64) ≤ zx.toInt64 ∧ zx.toInt64 ≤ 1) ↔ (0 ≤ zx ∧ zx ≤ 1) := fun zx => inI (y := zx) (by decide) (by decide)
  refine Fq.of (plainFor_of_name (by decide)) [some (.ref 79), some (.int (nI s)), none] rfl (Nat.le_of_ble_eq_true rfl) ?_
  refine g_iload1 (pc := 0) dX10_again_0 ?_
  refine g_i2l (pc := 1) dX10_again_1 ?_
  refine g_lconst (pc := 2) (0) dX10_again_2 (by decide) ?_
  refine g_lconst (pc := 3) (1) dX10_again_3 (by decide) ?_
  refine g_fS3 (pc := 4) (c_X10_in) dX10_again_4 cw_RX10_52 (by decide) (Nat.le_of_ble_eq_true rfl) ?_
  refine g_if_ne (pc := 7) 12 dX10_again_7 (by decide) (fun zh7 => ?_) (fun zh7 => ?_)
  · skip
    first | refine g_aload0 (pc := 12) dX10_again_12 ?_ | refine g_aloadN0 (pc := 12) dX10_again_12 ?_
    refine g_getR (pc := 13) (j := 23) cf10 dX10_again_13 fl_RX10_43 (by decide) (by decide) (by first | rfl | assumption) (91) (rfl) ?_
    refine g_iload1 (pc := 16) dX10_again_16 ?_
    refine g_zaldX (pc := 17) (s) dX10_again_17 (rfl) (rfl) (by have := ln_all; omega) (by decide) ?_
    refine g_if_ne (pc := 18) 24 dX10_again_18 (by decide) (fun zh18 => ?_) (fun zh18 => ?_)
    · skip
      refine g_iconst (pc := 24) (0) dX10_again_24 (by decide) ?_
      refine g_istore2 (pc := 25) dX10_again_25 (by decide) (by first | rfl | assumption) ?_
      refine lp_X10_again hs trivial ?_
      first | refine g_aload0 (pc := 55) dX10_again_55 ?_ | refine g_aloadN0 (pc := 55) dX10_again_55 ?_
      refine g_iconst (pc := 56) (0) dX10_again_56 (by decide) ?_
      refine g_putI (pc := 57) (j := 15) cf10 dX10_again_57 fl_RX10_87 (by decide) rfl rfl (by decide) (by first | rfl | assumption) ?_
      first | refine g_aload0 (pc := 60) dX10_again_60 ?_ | refine g_aloadN0 (pc := 60) dX10_again_60 ?_
      refine g_getR (pc := 61) (j := 3) cf10 dX10_again_61 fl_RX10_16 (by decide) (by decide) (by first | rfl | assumption) (82) (rfl) ?_
      refine g_bipush (pc := 64) (17) dX10_again_64 (by decide) ?_
      refine g_ialdX (pc := 66) (17) dX10_again_66 (rfl) (rfl) (by have := ln_all; omega) (by decide) ?_
      refine g_iret (pc := 67) dX10_again_67 rfl ?_
      exact ⟨rfl, rfl, rfl⟩
    · skip
      exact absurd zh18 zh0
  · skip
    exact absurd ((zi _).mpr ⟨nI_pos' (by omega), nI_le (b := 1) (by omega) (by decide)⟩) (b01_eq0.mp zh7)
