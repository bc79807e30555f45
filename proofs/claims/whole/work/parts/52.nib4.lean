theorem lp_X9_judge {n w c : Nat} {y : Int64} {L : Lm} (hc4 : c ≤ 4) : ∀ (m : Nat) (i : Nat) (v : Mm) (o5 : Option Value), i + m = c → TSt v n → FSt v n → WSt v w → G RX9 cX9_judge 6 (some .int) 6 (fun a b K => a = some (.int (jdF n w y c m i v).1) ∧ b = (jdF n w y c m i v).2 ∧ K = L) 37 [some (.ref 0), some (.int (nI c)), some (.long y), none, some (.int (nI i)), o5] [] v L := by
  intro m
  induction m with
  | zero =>
    intro i v o5 hi hT hF hW
    refine g_iload4 (pc := 37) dX9_judge_37 ?_
    refine g_iload1 (pc := 39) dX9_judge_39 ?_
    refine g_icmp_ge (pc := 40) 91 dX9_judge_40 (by decide) (fun zh40 => ?_) (fun zh40 => ?_)
    · skip
      refine g_bipush (pc := 91) (-9) dX9_judge_91 (by decide) ?_
      refine g_iret (pc := 93) dX9_judge_93 rfl ?_
      exact ⟨rfl, rfl, rfl⟩
    · skip
      exact absurd (nI_le (by omega) (by omega)) zh40
  | succ m ih =>
    intro i v o5 hi hT hF hW
    refine g_iload4 (pc := 37) dX9_judge_37 ?_
    refine g_iload1 (pc := 39) dX9_judge_39 ?_
    refine g_icmp_ge (pc := 40) 91 dX9_judge_40 (by decide) (fun zh40 => ?_) (fun zh40 => ?_)
    · skip
      exact absurd zh40 (nI_ge (by omega) (by omega))
    · skip
      refine g_iconst (pc := 43) (3) dX9_judge_43 (by decide) ?_
      refine g_iload1 (pc := 44) dX9_judge_44 ?_
      refine g_iconst (pc := 45) (1) dX9_judge_45 (by decide) ?_
      refine g_isub (pc := 46) dX9_judge_46 ?_
      refine g_iload4 (pc := 47) dX9_judge_47 ?_
      refine g_isub (pc := 49) dX9_judge_49 ?_
      refine g_imul (pc := 50) dX9_judge_50 ?_
      rw [show (3 : Int32) * (nI c - 1 - nI i) = nI (3 * (c - 1 - i)) from by rw [show (1 : Int32) = nI 1 from rfl, pk_sub (by omega), pk_sub (by omega), show (3 : Int32) = nI 3 from rfl, pk_mul]]
      refine g_istore5 (pc := 51) dX9_judge_51 (by decide) (by first | rfl | assumption) ?_
      first | refine g_aload0 (pc := 53) dX9_judge_53 ?_ | refine g_aloadN0 (pc := 53) dX9_judge_53 ?_
      refine g_lload2 (pc := 54) dX9_judge_54 ?_
      refine g_iload5 (pc := 55) dX9_judge_55 ?_
      refine g_iconst (pc := 57) (2) dX9_judge_57 (by decide) ?_
      refine g_iadd (pc := 58) dX9_judge_58 ?_
      refine g_fS2 (pc := 59) (c_X9_figure) dX9_judge_59 cw_RX9_218 (by decide) (Nat.le_of_ble_eq_true rfl) ?_
      refine g_lload2 (pc := 62) dX9_judge_62 ?_
      refine g_iload5 (pc := 63) dX9_judge_63 ?_
      refine g_iconst (pc := 65) (1) dX9_judge_65 (by decide) ?_
      refine g_iadd (pc := 66) dX9_judge_66 ?_
      refine g_fS2 (pc := 67) (c_X9_figure) dX9_judge_67 cw_RX9_218 (by decide) (Nat.le_of_ble_eq_true rfl) ?_
      refine g_lload2 (pc := 70) dX9_judge_70 ?_
      refine g_iload5 (pc := 71) dX9_judge_71 ?_
      refine g_fS2 (pc := 73) (c_X9_figure) dX9_judge_73 cw_RX9_218 (by decide) (Nat.le_of_ble_eq_true rfl) ?_
      refine g_fV3 (pc := 76) (c_isDone hT hW) cf9 (by first | rfl | assumption) dX9_judge_76 cw_RX9_222 (by decide) (Nat.le_of_ble_eq_true rfl) ?_
      refine g_if_ne (pc := 79) 85 dX9_judge_79 (by decide) (fun zh79 => ?_) (fun zh79 => ?_)
      · skip
        refine g_iinc4 (pc := 85) (nI (i + 1)) dX9_judge_85 (nI_succ' i) (by decide) (by first | rfl | assumption) ?_
        refine g_goto (pc := 88) 37 dX9_judge_88 (by decide) ?_
        have ee : jdF n w y c (m + 1) i v = jdF n w y c m (i + 1) (dnF v n w (figF y (nI (3 * (c - 1 - i)) + 2)) (figF y (nI (3 * (c - 1 - i)) + 1)) (figF y (nI (3 * (c - 1 - i))))).2 := if_neg zh79
        rw [ee]
        exact ih (i + 1) _ _ (by omega) (hT.dn hF).1 (hT.dn hF).2 ⟨by rw [dn_w hT.1 (by decide)]; exact hW.1, hW.2⟩
      · skip
        refine g_iload4 (pc := 82) dX9_judge_82 ?_
        refine g_iret (pc := 84) dX9_judge_84 rfl ?_
        have ee : jdF n w y c (m + 1) i v = (nI i, (dnF v n w (figF y (nI (3 * (c - 1 - i)) + 2)) (figF y (nI (3 * (c - 1 - i)) + 1)) (figF y (nI (3 * (c - 1 - i))))).2) := if_pos zh79
        rw [ee]; exact ⟨rfl, rfl, rfl⟩
theorem c_X9_judge_o {x : Int32} {y : Int64} {v : Mm} {L : Lm} (hx : ¬ ((1 ≤ x ∧ x ≤ 4) ∧ (0 ≤ y ∧ y < tensF (3 * x)))) : Fn yX9_judge cX9_judge 6 (some .int) 6 [.ref 0, .int x, .long y] v L (some (.int (-2))) v L := by
  refine Fq.of (plainFor_of_name (by decide)) [some (.ref 0), some (.int x), some (.long y), none, none, none] rfl (Nat.le_of_ble_eq_true rfl) ?_
  refine g_iload1 (pc := 0) dX9_judge_0 ?_
  refine g_iconst (pc := 1) (1) dX9_judge_1 (by decide) ?_
  refine g_icmp_lt (pc := 2) 20 dX9_judge_2 (by decide) (fun zh2 => ?_) (fun zh2 => ?_)
  · skip
    refine g_bipush (pc := 20) (-2) dX9_judge_20 (by decide) ?_
    refine g_iret (pc := 22) dX9_judge_22 rfl ?_
    exact ⟨rfl, rfl, rfl⟩
  · skip
    refine g_iload1 (pc := 5) dX9_judge_5 ?_
    refine g_iconst (pc := 6) (4) dX9_judge_6 (by decide) ?_
    refine g_icmp_gt (pc := 7) 20 dX9_judge_7 (by decide) (fun zh7 => ?_) (fun zh7 => ?_)
    · skip
      refine g_bipush (pc := 20) (-2) dX9_judge_20 (by decide) ?_
      refine g_iret (pc := 22) dX9_judge_22 rfl ?_
      exact ⟨rfl, rfl, rfl⟩
    · skip
      refine g_lload2 (pc := 10) dX9_judge_10 ?_
      refine g_iconst (pc := 11) (3) dX9_judge_11 (by decide) ?_
      refine g_iload1 (pc := 12) dX9_judge_12 ?_
      refine g_imul (pc := 13) dX9_judge_13 ?_
      refine g_fS2 (pc := 14) (c_X9_hasFigures) dX9_judge_14 cw_RX9_98 (by decide) (Nat.le_of_ble_eq_true rfl) ?_
      refine g_if_ne (pc := 17) 23 dX9_judge_17 (by decide) (fun zh17 => ?_) (fun zh17 => ?_)
      · skip
        exact absurd ⟨⟨i32nlt.mp zh2, i32nlt.mp zh7⟩, b01_ne0.mp zh17⟩ hx
      · skip
        refine g_bipush (pc := 20) (-2) dX9_judge_20 (by decide) ?_
        refine g_iret (pc := 22) dX9_judge_22 rfl ?_
        exact ⟨rfl, rfl, rfl⟩
theorem c_X9_judge_s {n w c : Nat} {y : Int64} {v : Mm} {L : Lm} (hC : CSt v n) (hF : ∀ p, p < n → ∃ l, l < 100 ∧ v (8 + p) 5 = nI l) (hW : WSt v w) (hc1 : 1 ≤ c) (hc4 : c ≤ 4) (hy : 0 ≤ y ∧ y < tensF (3 * nI c)) : Fn yX9_judge cX9_judge 6 (some .int) 6 [.ref 0, .int (nI c), .long y] v L (some (.int (jdF n w y c c 0 (trM v n)).1)) (jdF n w y c c 0 (trM v n)).2 L := by
  refine Fq.of (plainFor_of_name (by decide)) [some (.ref 0), some (.int (nI c)), some (.long y), none, none, none] rfl (Nat.le_of_ble_eq_true rfl) ?_
  refine g_iload1 (pc := 0) dX9_judge_0 ?_
  refine g_iconst (pc := 1) (1) dX9_judge_1 (by decide) ?_
  refine g_icmp_lt (pc := 2) 20 dX9_judge_2 (by decide) (fun zh2 => ?_) (fun zh2 => ?_)
  · skip
    exact absurd zh2 (nI_nlt (b := 1) hc1 (by omega))
  · skip
    refine g_iload1 (pc := 5) dX9_judge_5 ?_
    refine g_iconst (pc := 6) (4) dX9_judge_6 (by decide) ?_
    refine g_icmp_gt (pc := 7) 20 dX9_judge_7 (by decide) (fun zh7 => ?_) (fun zh7 => ?_)
    · skip
      exact absurd zh7 (nI_nlt (a := 4) hc4 (by decide))
    · skip
      refine g_lload2 (pc := 10) dX9_judge_10 ?_
      refine g_iconst (pc := 11) (3) dX9_judge_11 (by decide) ?_
      refine g_iload1 (pc := 12) dX9_judge_12 ?_
      refine g_imul (pc := 13) dX9_judge_13 ?_
      refine g_fS2 (pc := 14) (c_X9_hasFigures) dX9_judge_14 cw_RX9_98 (by decide) (Nat.le_of_ble_eq_true rfl) ?_
      refine g_if_ne (pc := 17) 23 dX9_judge_17 (by decide) (fun zh17 => ?_) (fun zh17 => ?_)
      · skip
        first | refine g_aload0 (pc := 23) dX9_judge_23 ?_ | refine g_aloadN0 (pc := 23) dX9_judge_23 ?_
        refine g_getR (pc := 24) (j := 3) cf9 dX9_judge_24 fl_RX9_30 (by decide) (by decide) (by first | rfl | assumption) (12) (rfl) ?_
        first | refine g_aload0 (pc := 27) dX9_judge_27 ?_ | refine g_aloadN0 (pc := 27) dX9_judge_27 ?_
        refine g_getR (pc := 28) (j := 2) cf9 dX9_judge_28 fl_RX9_26 (by decide) (by decide) (by first | rfl | assumption) (5) (rfl) ?_
        refine g_vV1 (pc := 31) (c_X4_copy s12 s5 (by decide) hC.1 hC.2.1 (fun zp zh => (hC.2.2 zp zh).2)) cf4 (by first | rfl | assumption) dX9_judge_31 cw_RX9_215 (by decide) (Nat.le_of_ble_eq_true rfl) ?_
        refine g_iconst (pc := 34) (0) dX9_judge_34 (by decide) ?_
        refine g_istore4 (pc := 35) dX9_judge_35 (by decide) (by first | rfl | assumption) ?_
        exact lp_X9_judge hc4 c 0 (trM v n) none (by omega) hC.tr (fun zp zh => by rw [trM_pen hC.1 zh (by decide)]; exact hF zp zh) ⟨by rw [trM_away hC.1 (by decide)]; exact hW.1, hW.2⟩
      · skip
        exact absurd hy (b01_eq0.mp zh17)
theorem lp_X9_years {n c : Nat} (hc : c ≤ 30) : ∀ (m : Nat) (i : Nat) (t : Int32) (v : Mm) (L : Lm), i + m = c → TSt v n → FSt v n → G RX9 cX9_years 4 (some .int) 5 (fun a b K => a = some (.int (yrF sdN sdT n m (L 0) t v).2.1) ∧ b = (yrF sdN sdT n m (L 0) t v).2.2 ∧ K = updl L 0 (yrF sdN sdT n m (L 0) t v).1) 29 [some (.ref 0), some (.int (nI c)), some (.int t), some (.int (nI i))] [] v L := by
  intro m
  induction m with
  | zero =>
    intro i t v L hi hT hF
    refine g_iload3 (pc := 29) dX9_years_29 ?_
    refine g_iload1 (pc := 30) dX9_years_30 ?_
    refine g_icmp_ge (pc := 31) 82 dX9_years_31 (by decide) (fun zh31 => ?_) (fun zh31 => ?_)
    · skip
      refine g_iload2 (pc := 82) dX9_years_82 ?_
      refine g_iret (pc := 83) dX9_years_83 rfl ?_
      rw [yr_zero]
      exact ⟨rfl, rfl, (updl_same L 0).symm⟩
    · skip
      exact absurd (nI_le (by omega) (by omega)) zh31
  | succ m ih =>
    intro i t v L hi hT hF
    refine g_iload3 (pc := 29) dX9_years_29 ?_
    refine g_iload1 (pc := 30) dX9_years_30 ?_
    refine g_icmp_ge (pc := 31) 82 dX9_years_31 (by decide) (fun zh31 => ?_) (fun zh31 => ?_)
    · skip
      exact absurd zh31 (nI_ge (by omega) (by omega))
    · skip
      first | refine g_aload0 (pc := 34) dX9_years_34 ?_ | refine g_aloadN0 (pc := 34) dX9_years_34 ?_
      first | refine g_aload0 (pc := 35) dX9_years_35 ?_ | refine g_aloadN0 (pc := 35) dX9_years_35 ?_
      refine g_getL (pc := 36) (j := 10) cf9 dX9_years_36 fl_RX9_265 (by decide) (by decide) (by first | rfl | assumption) ?_
      refine g_ldc2 (pc := 39) _ dX9_years_39 kc_RX9_269 ?_
      refine g_lmul (pc := 42) dX9_years_42 ?_
      refine g_ldc2 (pc := 43) _ dX9_years_43 kc_RX9_271 ?_
      refine g_ladd (pc := 46) dX9_years_46 ?_
      rw [sdN_eq]
      refine g_putL (pc := 47) (j := 10) cf9 dX9_years_47 fl_RX9_265 (by decide) rfl rfl (by decide) (by decide) (by first | rfl | assumption) ?_
      first | refine g_aload0 (pc := 50) dX9_years_50 ?_ | refine g_aloadN0 (pc := 50) dX9_years_50 ?_
      first | refine g_aload0 (pc := 51) dX9_years_51 ?_ | refine g_aloadN0 (pc := 51) dX9_years_51 ?_
      refine g_getL (pc := 52) (j := 10) cf9 dX9_years_52 fl_RX9_265 (by decide) (by decide) (by first | rfl | assumption) ?_
      refine g_bipush (pc := 55) (33) dX9_years_55 (by decide) ?_
      refine g_lushr (pc := 57) dX9_years_57 ?_
      refine g_ldc2 (pc := 58) _ dX9_years_58 kc_RX9_273 ?_
      refine g_lrem (pc := 61) dX9_years_61 (by decide) ?_
      refine g_l2i (pc := 62) dX9_years_62 ?_
      rw [ul_s]
      have zs := sd_eq (sdN (L 0))
      unfold sdX at zs
      rw [zs]
      refine g_vV1 (pc := 63) (c_X9_passYear hT (by unfold sdT; omega)) cf9 (by first | rfl | assumption) dX9_years_63 cw_RX9_275 (by decide) (Nat.le_of_ble_eq_true rfl) ?_
      refine g_iload2 (pc := 66) dX9_years_66 ?_
      first | refine g_aload0 (pc := 67) dX9_years_67 ?_ | refine g_aloadN0 (pc := 67) dX9_years_67 ?_
      refine g_getR (pc := 68) (j := 3) cf9 dX9_years_68 fl_RX9_30 (by decide) (by decide) (by first | rfl | assumption) (12) (rfl) ?_
      refine g_fV0 (pc := 71) (c_X4_inkOnAll s12) cf4 (by first | rfl | assumption) dX9_years_71 cw_RX9_279 (by decide) (Nat.le_of_ble_eq_true rfl) ?_
      refine g_iadd (pc := 74) dX9_years_74 ?_
      refine g_istore2 (pc := 75) dX9_years_75 (by decide) (by first | rfl | assumption) ?_
      refine g_iinc3 (pc := 76) (nI (i + 1)) dX9_years_76 (nI_succ' i) (by decide) (by first | rfl | assumption) ?_
      refine g_goto (pc := 79) 29 dX9_years_79 (by decide) ?_
      have zz := ih (i + 1) (t + sumF (pyM v n (sdT (sdN (L 0))) (12 + 2)) 25) (pyM v n (sdT (sdN (L 0)))) (updl L 0 (sdN (L 0))) (by omega) (pyM_ok hT hF).1 (pyM_ok hT hF).2
      rw [ul_s, updl_twice] at zz
      rw [yr_succ]
      exact zz
theorem c_X9_years_o {x : Int32} {v : Mm} {L : Lm} (hx : ¬ (1 ≤ x ∧ x ≤ 30)) : Fn yX9_years cX9_years 4 (some .int) 5 [.ref 0, .int x] v L (some (.int (-2))) v L := by
  refine Fq.of (plainFor_of_name (by decide)) [some (.ref 0), some (.int x), none, none] rfl (Nat.le_of_ble_eq_true rfl) ?_
  refine g_iload1 (pc := 0) dX9_years_0 ?_
  refine g_iconst (pc := 1) (1) dX9_years_1 (by decide) ?_
  refine g_icmp_lt (pc := 2) 11 dX9_years_2 (by decide) (fun zh2 => ?_) (fun zh2 => ?_)
  · skip
    refine g_bipush (pc := 11) (-2) dX9_years_11 (by decide) ?_
    refine g_iret (pc := 13) dX9_years_13 rfl ?_
    exact ⟨rfl, rfl, rfl⟩
  · skip
    refine g_iload1 (pc := 5) dX9_years_5 ?_
    refine g_bipush (pc := 6) (30) dX9_years_6 (by decide) ?_
    refine g_icmp_le (pc := 8) 14 dX9_years_8 (by decide) (fun zh8 => ?_) (fun zh8 => ?_)
    · skip
      exact absurd ⟨i32nlt.mp zh2, zh8⟩ hx
    · skip
      refine g_bipush (pc := 11) (-2) dX9_years_11 (by decide) ?_
      refine g_iret (pc := 13) dX9_years_13 rfl ?_
      exact ⟨rfl, rfl, rfl⟩
theorem c_X9_years_s {n c : Nat} {v : Mm} {L : Lm} (hC : CSt v n) (hF : ∀ p, p < n → ∃ l, l < 100 ∧ v (8 + p) 5 = nI l) (hc1 : 1 ≤ c) (hc : c ≤ 30) : Fn yX9_years cX9_years 4 (some .int) 5 [.ref 0, .int (nI c)] v L (some (.int (yrF sdN sdT n c (L 0) 0 (trM v n)).2.1)) (yrF sdN sdT n c (L 0) 0 (trM v n)).2.2 (updl L 0 (yrF sdN sdT n c (L 0) 0 (trM v n)).1) := by
  refine Fq.of (plainFor_of_name (by decide)) [some (.ref 0), some (.int (nI c)), none, none] rfl (Nat.le_of_ble_eq_true rfl) ?_
  refine g_iload1 (pc := 0) dX9_years_0 ?_
  refine g_iconst (pc := 1) (1) dX9_years_1 (by decide) ?_
  refine g_icmp_lt (pc := 2) 11 dX9_years_2 (by decide) (fun zh2 => ?_) (fun zh2 => ?_)
  · skip
    exact absurd zh2 (nI_nlt (b := 1) hc1 (by omega))
  · skip
    refine g_iload1 (pc := 5) dX9_years_5 ?_
    refine g_bipush (pc := 6) (30) dX9_years_6 (by decide) ?_
    refine g_icmp_le (pc := 8) 14 dX9_years_8 (by decide) (fun zh8 => ?_) (fun zh8 => ?_)
    · skip
      first | refine g_aload0 (pc := 14) dX9_years_14 ?_ | refine g_aloadN0 (pc := 14) dX9_years_14 ?_
      refine g_getR (pc := 15) (j := 3) cf9 dX9_years_15 fl_RX9_30 (by decide) (by decide) (by first | rfl | assumption) (12) (rfl) ?_
      first | refine g_aload0 (pc := 18) dX9_years_18 ?_ | refine g_aloadN0 (pc := 18) dX9_years_18 ?_
      refine g_getR (pc := 19) (j := 2) cf9 dX9_years_19 fl_RX9_26 (by decide) (by decide) (by first | rfl | assumption) (5) (rfl) ?_
      refine g_vV1 (pc := 22) (c_X4_copy s12 s5 (by decide) hC.1 hC.2.1 (fun zp zh => (hC.2.2 zp zh).2)) cf4 (by first | rfl | assumption) dX9_years_22 cw_RX9_215 (by decide) (Nat.le_of_ble_eq_true rfl) ?_
      refine g_iconst (pc := 25) (0) dX9_years_25 (by decide) ?_
      refine g_istore2 (pc := 26) dX9_years_26 (by decide) (by first | rfl | assumption) ?_
      refine g_iconst (pc := 27) (0) dX9_years_27 (by decide) ?_
      refine g_istore3 (pc := 28) dX9_years_28 (by decide) (by first | rfl | assumption) ?_
      exact lp_X9_years hc c 0 0 (trM v n) L (by omega) hC.tr (fun zp zh => by rw [trM_pen hC.1 zh (by decide)]; exact hF zp zh)
    · skip
      exact absurd (nI_le (b := 30) hc (by decide)) zh8
