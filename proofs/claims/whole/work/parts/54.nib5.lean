theorem lp_X9_commonDivisor {a0 b0 : Int64} {v : Mm} {L : Lm}  : ∀ (m : Nat) (i : Nat) (x y : Int64) (o9 : Option Value), i + m = 100 → G RX9 cX9_commonDivisor 11 (some .long) 0 (fun a b K => a = some (.long (gcR m x y)) ∧ b = v ∧ K = L) 9 [some (.long a0), none, some (.long b0), none, some (.long x), none, some (.long y), none, some (.int (nI i)), o9, none] [] v L := by
  intro m
  induction m with
  | zero =>
    intro i x y o9 hi
    refine g_iload8 (pc := 9) dX9_commonDivisor_9 ?_
    refine g_bipush (pc := 11) (100) dX9_commonDivisor_11 (by decide) ?_
    refine g_icmp_ge (pc := 13) 44 dX9_commonDivisor_13 (by decide) (fun zh13 => ?_) (fun zh13 => ?_)
    · skip
      refine g_lload4 (pc := 44) dX9_commonDivisor_44 ?_
      refine g_lret (pc := 46) dX9_commonDivisor_46 rfl ?_
      exact ⟨rfl, rfl, rfl⟩
    · skip
      exact absurd (show (100 : Int32) ≤ nI i by rw [show i = 100 by omega]; decide) zh13
  | succ m ih =>
    intro i x y o9 hi
    refine g_iload8 (pc := 9) dX9_commonDivisor_9 ?_
    refine g_bipush (pc := 11) (100) dX9_commonDivisor_11 (by decide) ?_
    refine g_icmp_ge (pc := 13) 44 dX9_commonDivisor_13 (by decide) (fun zh13 => ?_) (fun zh13 => ?_)
    · skip
      exact absurd zh13 (nI_ge (b := 100) (by omega) (by decide))
    · skip
      refine g_lload6 (pc := 16) dX9_commonDivisor_16 ?_
      refine g_lconst (pc := 18) (0) dX9_commonDivisor_18 (by decide) ?_
      refine g_lcmp (pc := 19) dX9_commonDivisor_19 ?_
      refine g_if_eq (pc := 20) 44 dX9_commonDivisor_20 (by decide) (fun zh20 => ?_) (fun zh20 => ?_)
      · skip
        refine g_lload4 (pc := 44) dX9_commonDivisor_44 ?_
        refine g_lret (pc := 46) dX9_commonDivisor_46 rfl ?_
        exact ⟨congrArg (fun zt => some (Value.long zt)) (if_pos ((lg_cmp_eq _ _).mp zh20)).symm, rfl, rfl⟩
      · skip
        refine g_lload4 (pc := 23) dX9_commonDivisor_23 ?_
        refine g_lload6 (pc := 25) dX9_commonDivisor_25 ?_
        refine g_lrem (pc := 27) dX9_commonDivisor_27 (fun zq => zh20 ((lg_cmp_eq _ _).mpr zq)) ?_
        refine g_lstore9 (pc := 28) dX9_commonDivisor_28 (by decide) (by first | rfl | assumption) ?_
        refine g_lload6 (pc := 30) dX9_commonDivisor_30 ?_
        refine g_lstore4 (pc := 32) dX9_commonDivisor_32 (by decide) (by first | rfl | assumption) ?_
        refine g_lload9 (pc := 34) dX9_commonDivisor_34 ?_
        refine g_lstore6 (pc := 36) dX9_commonDivisor_36 (by decide) (by first | rfl | assumption) ?_
        refine g_iinc8 (pc := 38) (nI (i + 1)) dX9_commonDivisor_38 (nI_succ' i) (by decide) (by first | rfl | assumption) ?_
        refine g_goto (pc := 41) 9 dX9_commonDivisor_41 (by decide) ?_
        refine G.mono (ih (i + 1) _ _ _ (by omega)) (fun za zb zc zh => ⟨zh.1.trans ?_, zh.2.1, zh.2.2⟩)
        exact congrArg (fun zt => some (Value.long zt)) (if_neg (fun zq => zh20 ((lg_cmp_eq _ _).mpr zq))).symm
theorem c_X9_commonDivisor {x y : Int64} {v : Mm} {L : Lm}  : Fn yX9_commonDivisor cX9_commonDivisor 11 (some .long) 0 [.long x, .long y] v L (some (.long (gcR 100 x y))) v L := by
  refine Fq.of (plainFor_of_name (by decide)) [some (.long x), none, some (.long y), none, none, none, none, none, none, none, none] rfl (Nat.le_of_ble_eq_true rfl) ?_
  refine g_lload0 (pc := 0) dX9_commonDivisor_0 ?_
  refine g_lstore4 (pc := 1) dX9_commonDivisor_1 (by decide) (by first | rfl | assumption) ?_
  refine g_lload2 (pc := 3) dX9_commonDivisor_3 ?_
  refine g_lstore6 (pc := 4) dX9_commonDivisor_4 (by decide) (by first | rfl | assumption) ?_
  refine g_iconst (pc := 6) (0) dX9_commonDivisor_6 (by decide) ?_
  refine g_istore8 (pc := 7) dX9_commonDivisor_7 (by decide) (by first | rfl | assumption) ?_
  exact lp_X9_commonDivisor 100 0 x y none rfl
theorem c_X9_toldFraction {x y : Int64} {z : Int32} {v : Mm} {L : Lm}  : Fn yX9_toldFraction cX9_toldFraction 7 (some .int) 1 [.long x, .long y, .int z] v L (some (.int (tfF x y z))) v L := by
  refine Fq.of (plainFor_of_name (by decide)) [some (.long x), none, some (.long y), none, some (.int z), none, none] rfl (Nat.le_of_ble_eq_true rfl) ?_
  refine g_lload0 (pc := 0) dX9_toldFraction_0 ?_
  refine g_lload2 (pc := 1) dX9_toldFraction_1 ?_
  refine g_fS2 (pc := 2) (c_X9_commonDivisor) dX9_toldFraction_2 cw_RX9_324 (by decide) (Nat.le_of_ble_eq_true rfl) ?_
  refine g_lstore5 (pc := 5) dX9_toldFraction_5 (by decide) (by first | rfl | assumption) ?_
  refine g_lload5 (pc := 7) dX9_toldFraction_7 ?_
  refine g_lconst (pc := 9) (1) dX9_toldFraction_9 (by decide) ?_
  refine g_lcmp (pc := 10) dX9_toldFraction_10 ?_
  refine g_if_ge (pc := 11) 16 dX9_toldFraction_11 (by decide) (fun zh11 => ?_) (fun zh11 => ?_)
  · skip
    refine g_iload4 (pc := 16) dX9_toldFraction_16 ?_
    refine g_if_eq (pc := 18) 25 dX9_toldFraction_18 (by decide) (fun zh18 => ?_) (fun zh18 => ?_)
    · skip
      refine g_lload2 (pc := 25) dX9_toldFraction_25 ?_
      refine g_lload5 (pc := 26) dX9_toldFraction_26 ?_
      refine g_ldiv (pc := 28) dX9_toldFraction_28 (fun zq => by rw [zq] at zh11; exact absurd zh11 (by decide)) ?_
      refine g_l2i (pc := 29) dX9_toldFraction_29 ?_
      refine g_iret (pc := 30) dX9_toldFraction_30 rfl ?_
      first | exact ⟨congrArg (fun zt => some (Value.int zt)) (if_neg (fun zq => zh11 ((lg_cmp_ge _ _).mpr zq))).symm, rfl, rfl⟩ | exact ⟨congrArg (fun zt => some (Value.int zt)) ((if_pos ((lg_cmp_ge _ _).mp zh11)).trans (by rw [if_pos zh18])).symm, rfl, rfl⟩ | exact ⟨congrArg (fun zt => some (Value.int zt)) ((if_pos ((lg_cmp_ge _ _).mp zh11)).trans (by rw [if_neg zh18])).symm, rfl, rfl⟩
    · skip
      refine g_lload0 (pc := 21) dX9_toldFraction_21 ?_
      refine g_goto (pc := 22) 26 dX9_toldFraction_22 (by decide) ?_
      refine g_lload5 (pc := 26) dX9_toldFraction_26 ?_
      refine g_ldiv (pc := 28) dX9_toldFraction_28 (fun zq => by rw [zq] at zh11; exact absurd zh11 (by decide)) ?_
      refine g_l2i (pc := 29) dX9_toldFraction_29 ?_
      refine g_iret (pc := 30) dX9_toldFraction_30 rfl ?_
      first | exact ⟨congrArg (fun zt => some (Value.int zt)) (if_neg (fun zq => zh11 ((lg_cmp_ge _ _).mpr zq))).symm, rfl, rfl⟩ | exact ⟨congrArg (fun zt => some (Value.int zt)) ((if_pos ((lg_cmp_ge _ _).mp zh11)).trans (by rw [if_pos zh18])).symm, rfl, rfl⟩ | exact ⟨congrArg (fun zt => some (Value.int zt)) ((if_pos ((lg_cmp_ge _ _).mp zh11)).trans (by rw [if_neg zh18])).symm, rfl, rfl⟩
  · skip
    refine g_iconst (pc := 14) (0) dX9_toldFraction_14 (by decide) ?_
    refine g_iret (pc := 15) dX9_toldFraction_15 rfl ?_
    first | exact ⟨congrArg (fun zt => some (Value.int zt)) (if_neg (fun zq => zh11 ((lg_cmp_ge _ _).mpr zq))).symm, rfl, rfl⟩ | exact ⟨congrArg (fun zt => some (Value.int zt)) ((if_pos ((lg_cmp_ge _ _).mp zh11)).trans (by rw [if_pos zh18])).symm, rfl, rfl⟩ | exact ⟨congrArg (fun zt => some (Value.int zt)) ((if_pos ((lg_cmp_ge _ _).mp zh11)).trans (by rw [if_neg zh18])).symm, rfl, rfl⟩
theorem ce_all {k w : Nat} {en tn : Int32} {v : Mm} {L : Lm} (hk : kd k = 2) (hw : v 3 1 = nI w) (hw8 : w ≤ 8) : ∀ (m i : Nat) (dot laid : Int32) (d : Nat), i + m = w → 4 + m ≤ d → Fn yX9_casesOfEnough cX9_casesOfEnough 12 (some .long) d [.ref k, .ref 3, .int (nI i), .int dot, .int laid, .int en, .int tn] v L (some (.long (ceF v k w en tn m i dot laid))) v L := by
  intro m
  induction m with
  | zero =>
    intro i dot laid d hi hd
    refine Fq.of (plainFor_of_name (by decide)) [some (.ref k), some (.ref 3), some (.int (nI i)), some (.int dot), some (.int laid), some (.int en), some (.int tn), none, none, none, none, none] rfl (Nat.le_of_ble_eq_true rfl) ?_
    refine g_iload4 (pc := 0) dX9_casesOfEnough_0 ?_
    refine g_iload5 (pc := 2) dX9_casesOfEnough_2 ?_
    refine g_icmp_lt (pc := 4) 17 dX9_casesOfEnough_4 (by decide) (fun zh4 => ?_) (fun zh4 => ?_)
    · skip
      refine g_iload2 (pc := 17) dX9_casesOfEnough_17 ?_
      first | refine g_aload1 (pc := 18) dX9_casesOfEnough_18 ?_ | refine g_aloadN1 (pc := 18) dX9_casesOfEnough_18 ?_
      refine g_getI (pc := 19) (j := 1) cf8 dX9_casesOfEnough_19 fl_RX9_106 (by decide) (by decide) (by first | rfl | assumption) ?_
      refine g_icmp_lt (pc := 22) 27 dX9_casesOfEnough_22 (by decide) (fun zh22 => ?_) (fun zh22 => ?_)
      · skip
        exact absurd zh22 (by rw [hw]; exact nI_nlt (by omega) (by omega))
      · skip
        refine g_lconst (pc := 25) (0) dX9_casesOfEnough_25 (by decide) ?_
        refine g_lret (pc := 26) dX9_casesOfEnough_26 rfl ?_
        exact ⟨congrArg (fun zt => some (Value.long zt)) (if_neg (i32nle.mpr zh4)).symm, rfl, rfl⟩
    · skip
      first | refine g_aload1 (pc := 7) dX9_casesOfEnough_7 ?_ | refine g_aloadN1 (pc := 7) dX9_casesOfEnough_7 ?_
      refine g_getI (pc := 8) (j := 1) cf8 dX9_casesOfEnough_8 fl_RX9_106 (by decide) (by decide) (by first | rfl | assumption) ?_
      refine g_iload2 (pc := 11) dX9_casesOfEnough_11 ?_
      refine g_isub (pc := 12) dX9_casesOfEnough_12 ?_
      rw [hw]
      refine g_fS1 (pc := 13) (c_X9_tens) dX9_casesOfEnough_13 cw_RX9_261 (by omega) (Nat.le_of_ble_eq_true rfl) ?_
      refine g_lret (pc := 16) dX9_casesOfEnough_16 rfl ?_
      exact ⟨congrArg (fun zt => some (Value.long zt)) (if_pos (i32nlt.mp zh4)).symm, rfl, rfl⟩
  | succ m ih =>
    intro i dot laid d hi hd
    obtain ⟨d2, rfl⟩ : ∃ d2, d = d2 + 1 := ⟨d - 1, by omega⟩
    refine Fq.of (plainFor_of_name (by decide)) [some (.ref k), some (.ref 3), some (.int (nI i)), some (.int dot), some (.int laid), some (.int en), some (.int tn), none, none, none, none, none] rfl (Nat.le_of_ble_eq_true rfl) ?_
    refine g_iload4 (pc := 0) dX9_casesOfEnough_0 ?_
    refine g_iload5 (pc := 2) dX9_casesOfEnough_2 ?_
    refine g_icmp_lt (pc := 4) 17 dX9_casesOfEnough_4 (by decide) (fun zh4 => ?_) (fun zh4 => ?_)
    · skip
      refine g_iload2 (pc := 17) dX9_casesOfEnough_17 ?_
      first | refine g_aload1 (pc := 18) dX9_casesOfEnough_18 ?_ | refine g_aloadN1 (pc := 18) dX9_casesOfEnough_18 ?_
      refine g_getI (pc := 19) (j := 1) cf8 dX9_casesOfEnough_19 fl_RX9_106 (by decide) (by decide) (by first | rfl | assumption) ?_
      refine g_icmp_lt (pc := 22) 27 dX9_casesOfEnough_22 (by decide) (fun zh22 => ?_) (fun zh22 => ?_)
      · skip
        refine g_lconst (pc := 27) (0) dX9_casesOfEnough_27 (by decide) ?_
        refine g_lstore7 (pc := 28) dX9_casesOfEnough_28 (by decide) (by first | rfl | assumption) ?_
        refine g_iload6 (pc := 30) dX9_casesOfEnough_30 ?_
        refine g_if_le (pc := 32) 59 dX9_casesOfEnough_32 (by decide) (fun zh32 => ?_) (fun zh32 => ?_)
        · skip
          first | refine g_aload1 (pc := 59) dX9_casesOfEnough_59 ?_ | refine g_aloadN1 (pc := 59) dX9_casesOfEnough_59 ?_
          refine g_iload2 (pc := 60) dX9_casesOfEnough_60 ?_
          refine g_fV1 (pc := 61) (c_X8_at) cf8 (by first | rfl | assumption) dX9_casesOfEnough_61 cw_RX9_303 (by omega) (Nat.le_of_ble_eq_true rfl) ?_
          refine g_istore9 (pc := 64) dX9_casesOfEnough_64 (by decide) (by first | rfl | assumption) ?_
          refine g_iload3 (pc := 66) dX9_casesOfEnough_66 ?_
          refine g_iload9 (pc := 67) dX9_casesOfEnough_67 ?_
          refine g_fS2 (pc := 69) (c_X9_neighbour) dX9_casesOfEnough_69 cw_RX9_151 (by omega) (Nat.le_of_ble_eq_true rfl) ?_
          refine g_istore10 (pc := 72) dX9_casesOfEnough_72 (by decide) (by first | rfl | assumption) ?_
          refine g_iload6 (pc := 74) dX9_casesOfEnough_74 ?_
          refine g_bipush (pc := 76) (10) dX9_casesOfEnough_76 (by decide) ?_
          refine g_icmp_ge (pc := 78) 134 dX9_casesOfEnough_78 (by decide) (fun zh78 => ?_) (fun zh78 => ?_)
          · skip
            refine g_lload7 (pc := 134) dX9_casesOfEnough_134 ?_
            refine g_lret (pc := 136) dX9_casesOfEnough_136 rfl ?_
            refine ⟨congrArg (fun zt => some (Value.long zt)) ?_, rfl, rfl⟩
            refine Eq.symm ((if_neg (i32nle.mpr zh4)).trans ?_)
            first
              | exact (if_pos (⟨i32nle.mp zh78, zh85⟩ : tn < 10 ∧ ¬ nbF dot (wdF v (nI i)) = -9)).trans (congrArg (fun zt => zt + _) (if_pos (i32nle.mp zh32)))
              | exact (if_neg (fun zq => i32nle.mpr zq.1 zh78)).trans (if_pos (i32nle.mp zh32))
              | exact (if_neg (fun zq => zq.2 zh85)).trans (if_pos (i32nle.mp zh32))
              | exact (if_pos (⟨i32nle.mp zh78, zh85⟩ : tn < 10 ∧ ¬ nbF dot (wdF v (nI i)) = -9)).trans (congrArg (fun zt => zt + _) (if_neg (i32nlt.mpr zh32)))
              | exact (if_neg (fun zq => i32nle.mpr zq.1 zh78)).trans (if_neg (i32nlt.mpr zh32))
              | exact (if_neg (fun zq => zq.2 zh85)).trans (if_neg (i32nlt.mpr zh32))
          · skip
            refine g_iload10 (pc := 81) dX9_casesOfEnough_81 ?_
            refine g_bipush (pc := 83) (-9) dX9_casesOfEnough_83 (by decide) ?_
            refine g_icmp_eq (pc := 85) 134 dX9_casesOfEnough_85 (by decide) (fun zh85 => ?_) (fun zh85 => ?_)
            · skip
              refine g_lload7 (pc := 134) dX9_casesOfEnough_134 ?_
              refine g_lret (pc := 136) dX9_casesOfEnough_136 rfl ?_
              refine ⟨congrArg (fun zt => some (Value.long zt)) ?_, rfl, rfl⟩
              refine Eq.symm ((if_neg (i32nle.mpr zh4)).trans ?_)
              first
                | exact (if_pos (⟨i32nle.mp zh78, zh85⟩ : tn < 10 ∧ ¬ nbF dot (wdF v (nI i)) = -9)).trans (congrArg (fun zt => zt + _) (if_pos (i32nle.mp zh32)))
                | exact (if_neg (fun zq => i32nle.mpr zq.1 zh78)).trans (if_pos (i32nle.mp zh32))
                | exact (if_neg (fun zq => zq.2 zh85)).trans (if_pos (i32nle.mp zh32))
                | exact (if_pos (⟨i32nle.mp zh78, zh85⟩ : tn < 10 ∧ ¬ nbF dot (wdF v (nI i)) = -9)).trans (congrArg (fun zt => zt + _) (if_neg (i32nlt.mpr zh32)))
                | exact (if_neg (fun zq => i32nle.mpr zq.1 zh78)).trans (if_neg (i32nlt.mpr zh32))
                | exact (if_neg (fun zq => zq.2 zh85)).trans (if_neg (i32nlt.mpr zh32))
            · skip
              first | refine g_aload0 (pc := 88) dX9_casesOfEnough_88 ?_ | refine g_aloadN0 (pc := 88) dX9_casesOfEnough_88 ?_
              refine g_iload9 (pc := 89) dX9_casesOfEnough_89 ?_
              first | refine g_aload0 (pc := 91) dX9_casesOfEnough_91 ?_ | refine g_aloadN0 (pc := 91) dX9_casesOfEnough_91 ?_
              refine g_getI (pc := 92) (j := 4) cf2 dX9_casesOfEnough_92 fl_RX9_126 (by decide) (by decide) (by first | rfl | assumption) ?_
              refine g_iload4 (pc := 95) dX9_casesOfEnough_95 ?_
              refine g_isub (pc := 97) dX9_casesOfEnough_97 ?_
              refine g_fV2 (pc := 98) (c_X2_lays hk) cf2 (by first | rfl | assumption) dX9_casesOfEnough_98 cw_RX9_306 (by omega) (Nat.le_of_ble_eq_true rfl) ?_
              refine g_istore11 (pc := 101) dX9_casesOfEnough_101 (by decide) (by first | rfl | assumption) ?_
              refine g_lload7 (pc := 103) dX9_casesOfEnough_103 ?_
              refine g_bipush (pc := 105) (10) dX9_casesOfEnough_105 (by decide) ?_
              refine g_iload6 (pc := 107) dX9_casesOfEnough_107 ?_
              refine g_isub (pc := 109) dX9_casesOfEnough_109 ?_
              refine g_i2l (pc := 110) dX9_casesOfEnough_110 ?_
              first | refine g_aload0 (pc := 111) dX9_casesOfEnough_111 ?_ | refine g_aloadN0 (pc := 111) dX9_casesOfEnough_111 ?_
              first | refine g_aload1 (pc := 112) dX9_casesOfEnough_112 ?_ | refine g_aloadN1 (pc := 112) dX9_casesOfEnough_112 ?_
              refine g_iload2 (pc := 113) dX9_casesOfEnough_113 ?_
              refine g_iconst (pc := 114) (1) dX9_casesOfEnough_114 (by decide) ?_
              refine g_iadd (pc := 115) dX9_casesOfEnough_115 ?_
              refine g_iload10 (pc := 116) dX9_casesOfEnough_116 ?_
              refine g_iload4 (pc := 118) dX9_casesOfEnough_118 ?_
              refine g_iload11 (pc := 120) dX9_casesOfEnough_120 ?_
              refine g_iadd (pc := 122) dX9_casesOfEnough_122 ?_
              refine g_iload5 (pc := 123) dX9_casesOfEnough_123 ?_
              refine g_iload6 (pc := 125) dX9_casesOfEnough_125 ?_
              rw [nI_1]
              refine g_fS7 (pc := 127) (ih (i + 1) _ _ d2 (by omega) (by omega)) dX9_casesOfEnough_127 cw_RX9_257 (by omega) (Nat.le_of_ble_eq_true rfl) ?_
              refine g_lmul (pc := 130) dX9_casesOfEnough_130 ?_
              refine g_ladd (pc := 131) dX9_casesOfEnough_131 ?_
              refine g_lstore7 (pc := 132) dX9_casesOfEnough_132 (by decide) (by first | rfl | assumption) ?_
              refine g_lload7 (pc := 134) dX9_casesOfEnough_134 ?_
              refine g_lret (pc := 136) dX9_casesOfEnough_136 rfl ?_
              refine ⟨congrArg (fun zt => some (Value.long zt)) ?_, rfl, rfl⟩
              refine Eq.symm ((if_neg (i32nle.mpr zh4)).trans ?_)
              first
                | exact (if_pos (⟨i32nle.mp zh78, zh85⟩ : tn < 10 ∧ ¬ nbF dot (wdF v (nI i)) = -9)).trans (congrArg (fun zt => zt + _) (if_pos (i32nle.mp zh32)))
                | exact (if_neg (fun zq => i32nle.mpr zq.1 zh78)).trans (if_pos (i32nle.mp zh32))
                | exact (if_neg (fun zq => zq.2 zh85)).trans (if_pos (i32nle.mp zh32))
                | exact (if_pos (⟨i32nle.mp zh78, zh85⟩ : tn < 10 ∧ ¬ nbF dot (wdF v (nI i)) = -9)).trans (congrArg (fun zt => zt + _) (if_neg (i32nlt.mpr zh32)))
                | exact (if_neg (fun zq => i32nle.mpr zq.1 zh78)).trans (if_neg (i32nlt.mpr zh32))
                | exact (if_neg (fun zq => zq.2 zh85)).trans (if_neg (i32nlt.mpr zh32))
        · skip
          refine g_lload7 (pc := 35) dX9_casesOfEnough_35 ?_
          refine g_iload6 (pc := 37) dX9_casesOfEnough_37 ?_
          refine g_i2l (pc := 39) dX9_casesOfEnough_39 ?_
          first | refine g_aload0 (pc := 40) dX9_casesOfEnough_40 ?_ | refine g_aloadN0 (pc := 40) dX9_casesOfEnough_40 ?_
          first | refine g_aload1 (pc := 41) dX9_casesOfEnough_41 ?_ | refine g_aloadN1 (pc := 41) dX9_casesOfEnough_41 ?_
          refine g_iload2 (pc := 42) dX9_casesOfEnough_42 ?_
          refine g_iconst (pc := 43) (1) dX9_casesOfEnough_43 (by decide) ?_
          refine g_iadd (pc := 44) dX9_casesOfEnough_44 ?_
          refine g_iload3 (pc := 45) dX9_casesOfEnough_45 ?_
          refine g_iload4 (pc := 46) dX9_casesOfEnough_46 ?_
          refine g_iload5 (pc := 48) dX9_casesOfEnough_48 ?_
          refine g_iload6 (pc := 50) dX9_casesOfEnough_50 ?_
          rw [nI_1]
          refine g_fS7 (pc := 52) (ih (i + 1) dot laid d2 (by omega) (by omega)) dX9_casesOfEnough_52 cw_RX9_257 (by omega) (Nat.le_of_ble_eq_true rfl) ?_
          refine g_lmul (pc := 55) dX9_casesOfEnough_55 ?_
          refine g_ladd (pc := 56) dX9_casesOfEnough_56 ?_
          refine g_lstore7 (pc := 57) dX9_casesOfEnough_57 (by decide) (by first | rfl | assumption) ?_
          first | refine g_aload1 (pc := 59) dX9_casesOfEnough_59 ?_ | refine g_aloadN1 (pc := 59) dX9_casesOfEnough_59 ?_
          refine g_iload2 (pc := 60) dX9_casesOfEnough_60 ?_
          refine g_fV1 (pc := 61) (c_X8_at) cf8 (by first | rfl | assumption) dX9_casesOfEnough_61 cw_RX9_303 (by omega) (Nat.le_of_ble_eq_true rfl) ?_
          refine g_istore9 (pc := 64) dX9_casesOfEnough_64 (by decide) (by first | rfl | assumption) ?_
          refine g_iload3 (pc := 66) dX9_casesOfEnough_66 ?_
          refine g_iload9 (pc := 67) dX9_casesOfEnough_67 ?_
          refine g_fS2 (pc := 69) (c_X9_neighbour) dX9_casesOfEnough_69 cw_RX9_151 (by omega) (Nat.le_of_ble_eq_true rfl) ?_
          refine g_istore10 (pc := 72) dX9_casesOfEnough_72 (by decide) (by first | rfl | assumption) ?_
          refine g_iload6 (pc := 74) dX9_casesOfEnough_74 ?_
          refine g_bipush (pc := 76) (10) dX9_casesOfEnough_76 (by decide) ?_
          refine g_icmp_ge (pc := 78) 134 dX9_casesOfEnough_78 (by decide) (fun zh78 => ?_) (fun zh78 => ?_)
          · skip
            refine g_lload7 (pc := 134) dX9_casesOfEnough_134 ?_
            refine g_lret (pc := 136) dX9_casesOfEnough_136 rfl ?_
            refine ⟨congrArg (fun zt => some (Value.long zt)) ?_, rfl, rfl⟩
            refine Eq.symm ((if_neg (i32nle.mpr zh4)).trans ?_)
            first
              | exact (if_pos (⟨i32nle.mp zh78, zh85⟩ : tn < 10 ∧ ¬ nbF dot (wdF v (nI i)) = -9)).trans (congrArg (fun zt => zt + _) (if_pos (i32nle.mp zh32)))
              | exact (if_neg (fun zq => i32nle.mpr zq.1 zh78)).trans (if_pos (i32nle.mp zh32))
              | exact (if_neg (fun zq => zq.2 zh85)).trans (if_pos (i32nle.mp zh32))
              | exact (if_pos (⟨i32nle.mp zh78, zh85⟩ : tn < 10 ∧ ¬ nbF dot (wdF v (nI i)) = -9)).trans (congrArg (fun zt => zt + _) (if_neg (i32nlt.mpr zh32)))
              | exact (if_neg (fun zq => i32nle.mpr zq.1 zh78)).trans (if_neg (i32nlt.mpr zh32))
              | exact (if_neg (fun zq => zq.2 zh85)).trans (if_neg (i32nlt.mpr zh32))
          · skip
            refine g_iload10 (pc := 81) dX9_casesOfEnough_81 ?_
            refine g_bipush (pc := 83) (-9) dX9_casesOfEnough_83 (by decide) ?_
            refine g_icmp_eq (pc := 85) 134 dX9_casesOfEnough_85 (by decide) (fun zh85 => ?_) (fun zh85 => ?_)
            · skip
              refine g_lload7 (pc := 134) dX9_casesOfEnough_134 ?_
              refine g_lret (pc := 136) dX9_casesOfEnough_136 rfl ?_
              refine ⟨congrArg (fun zt => some (Value.long zt)) ?_, rfl, rfl⟩
              refine Eq.symm ((if_neg (i32nle.mpr zh4)).trans ?_)
              first
                | exact (if_pos (⟨i32nle.mp zh78, zh85⟩ : tn < 10 ∧ ¬ nbF dot (wdF v (nI i)) = -9)).trans (congrArg (fun zt => zt + _) (if_pos (i32nle.mp zh32)))
                | exact (if_neg (fun zq => i32nle.mpr zq.1 zh78)).trans (if_pos (i32nle.mp zh32))
                | exact (if_neg (fun zq => zq.2 zh85)).trans (if_pos (i32nle.mp zh32))
                | exact (if_pos (⟨i32nle.mp zh78, zh85⟩ : tn < 10 ∧ ¬ nbF dot (wdF v (nI i)) = -9)).trans (congrArg (fun zt => zt + _) (if_neg (i32nlt.mpr zh32)))
                | exact (if_neg (fun zq => i32nle.mpr zq.1 zh78)).trans (if_neg (i32nlt.mpr zh32))
                | exact (if_neg (fun zq => zq.2 zh85)).trans (if_neg (i32nlt.mpr zh32))
            · skip
              first | refine g_aload0 (pc := 88) dX9_casesOfEnough_88 ?_ | refine g_aloadN0 (pc := 88) dX9_casesOfEnough_88 ?_
              refine g_iload9 (pc := 89) dX9_casesOfEnough_89 ?_
              first | refine g_aload0 (pc := 91) dX9_casesOfEnough_91 ?_ | refine g_aloadN0 (pc := 91) dX9_casesOfEnough_91 ?_
              refine g_getI (pc := 92) (j := 4) cf2 dX9_casesOfEnough_92 fl_RX9_126 (by decide) (by decide) (by first | rfl | assumption) ?_
              refine g_iload4 (pc := 95) dX9_casesOfEnough_95 ?_
              refine g_isub (pc := 97) dX9_casesOfEnough_97 ?_
              refine g_fV2 (pc := 98) (c_X2_lays hk) cf2 (by first | rfl | assumption) dX9_casesOfEnough_98 cw_RX9_306 (by omega) (Nat.le_of_ble_eq_true rfl) ?_
              refine g_istore11 (pc := 101) dX9_casesOfEnough_101 (by decide) (by first | rfl | assumption) ?_
              refine g_lload7 (pc := 103) dX9_casesOfEnough_103 ?_
              refine g_bipush (pc := 105) (10) dX9_casesOfEnough_105 (by decide) ?_
              refine g_iload6 (pc := 107) dX9_casesOfEnough_107 ?_
              refine g_isub (pc := 109) dX9_casesOfEnough_109 ?_
              refine g_i2l (pc := 110) dX9_casesOfEnough_110 ?_
              first | refine g_aload0 (pc := 111) dX9_casesOfEnough_111 ?_ | refine g_aloadN0 (pc := 111) dX9_casesOfEnough_111 ?_
              first | refine g_aload1 (pc := 112) dX9_casesOfEnough_112 ?_ | refine g_aloadN1 (pc := 112) dX9_casesOfEnough_112 ?_
              refine g_iload2 (pc := 113) dX9_casesOfEnough_113 ?_
              refine g_iconst (pc := 114) (1) dX9_casesOfEnough_114 (by decide) ?_
              refine g_iadd (pc := 115) dX9_casesOfEnough_115 ?_
              refine g_iload10 (pc := 116) dX9_casesOfEnough_116 ?_
              refine g_iload4 (pc := 118) dX9_casesOfEnough_118 ?_
              refine g_iload11 (pc := 120) dX9_casesOfEnough_120 ?_
              refine g_iadd (pc := 122) dX9_casesOfEnough_122 ?_
              refine g_iload5 (pc := 123) dX9_casesOfEnough_123 ?_
              refine g_iload6 (pc := 125) dX9_casesOfEnough_125 ?_
              rw [nI_1]
              refine g_fS7 (pc := 127) (ih (i + 1) _ _ d2 (by omega) (by omega)) dX9_casesOfEnough_127 cw_RX9_257 (by omega) (Nat.le_of_ble_eq_true rfl) ?_
              refine g_lmul (pc := 130) dX9_casesOfEnough_130 ?_
              refine g_ladd (pc := 131) dX9_casesOfEnough_131 ?_
              refine g_lstore7 (pc := 132) dX9_casesOfEnough_132 (by decide) (by first | rfl | assumption) ?_
              refine g_lload7 (pc := 134) dX9_casesOfEnough_134 ?_
              refine g_lret (pc := 136) dX9_casesOfEnough_136 rfl ?_
              refine ⟨congrArg (fun zt => some (Value.long zt)) ?_, rfl, rfl⟩
              refine Eq.symm ((if_neg (i32nle.mpr zh4)).trans ?_)
              first
                | exact (if_pos (⟨i32nle.mp zh78, zh85⟩ : tn < 10 ∧ ¬ nbF dot (wdF v (nI i)) = -9)).trans (congrArg (fun zt => zt + _) (if_pos (i32nle.mp zh32)))
                | exact (if_neg (fun zq => i32nle.mpr zq.1 zh78)).trans (if_pos (i32nle.mp zh32))
                | exact (if_neg (fun zq => zq.2 zh85)).trans (if_pos (i32nle.mp zh32))
                | exact (if_pos (⟨i32nle.mp zh78, zh85⟩ : tn < 10 ∧ ¬ nbF dot (wdF v (nI i)) = -9)).trans (congrArg (fun zt => zt + _) (if_neg (i32nlt.mpr zh32)))
                | exact (if_neg (fun zq => i32nle.mpr zq.1 zh78)).trans (if_neg (i32nlt.mpr zh32))
                | exact (if_neg (fun zq => zq.2 zh85)).trans (if_neg (i32nlt.mpr zh32))
      · skip
        exact absurd (by rw [hw]; exact nI_lt (by omega) (by omega)) zh22
    · skip
      first | refine g_aload1 (pc := 7) dX9_casesOfEnough_7 ?_ | refine g_aloadN1 (pc := 7) dX9_casesOfEnough_7 ?_
      refine g_getI (pc := 8) (j := 1) cf8 dX9_casesOfEnough_8 fl_RX9_106 (by decide) (by decide) (by first | rfl | assumption) ?_
      refine g_iload2 (pc := 11) dX9_casesOfEnough_11 ?_
      refine g_isub (pc := 12) dX9_casesOfEnough_12 ?_
      rw [hw]
      refine g_fS1 (pc := 13) (c_X9_tens) dX9_casesOfEnough_13 cw_RX9_261 (by omega) (Nat.le_of_ble_eq_true rfl) ?_
      refine g_lret (pc := 16) dX9_casesOfEnough_16 rfl ?_
      exact ⟨congrArg (fun zt => some (Value.long zt)) (if_pos (i32nlt.mp zh4)).symm, rfl, rfl⟩
theorem c_X9_skipped_u {n : Nat} {x y z u : Int32} {v : Mm} {L : Lm} (hC : CSt v n) (hx : ¬ (0 ≤ x ∧ x < nI n)) : Fn yX9_skipped cX9_skipped 6 (some .int) 14 [.ref 0, .int x, .int y, .int z, .int u] v L (some (.int (-1))) v L := by
  refine Fq.of (plainFor_of_name (by decide)) [some (.ref 0), some (.int x), some (.int y), some (.int z), some (.int u), none] rfl (Nat.le_of_ble_eq_true rfl) ?_
  first | refine g_aload0 (pc := 0) dX9_skipped_0 ?_ | refine g_aloadN0 (pc := 0) dX9_skipped_0 ?_
  refine g_getR (pc := 1) (j := 2) cf9 dX9_skipped_1 fl_RX9_26 (by decide) (by decide) (by first | rfl | assumption) (5) (rfl) ?_
  refine g_iload1 (pc := 4) dX9_skipped_4 ?_
  refine g_fV1 (pc := 5) (c_X4_find_n (S := 5) s5 (fun zq => hx ⟨zq.1, by rw [← hC.2.1]; exact zq.2.1⟩)) cf4 (by first | rfl | assumption) dX9_skipped_5 cw_RX9_111 (by decide) (Nat.le_of_ble_eq_true rfl) ?_
  first | refine g_astore5 (pc := 8) dX9_skipped_8 (by decide) (by first | rfl | assumption) ?_ | refine g_astoreN5 (pc := 8) dX9_skipped_8 (by decide) (by first | rfl | assumption) ?_
  first | refine g_aload5 (pc := 10) dX9_skipped_10 ?_ | refine g_aloadN5 (pc := 10) dX9_skipped_10 ?_
  refine g_ifnonnullN (pc := 12) dX9_skipped_12 ?_
  refine g_iconst (pc := 15) (-1) dX9_skipped_15 (by decide) ?_
  refine g_iret (pc := 16) dX9_skipped_16 rfl ?_
  exact ⟨rfl, rfl, rfl⟩
theorem c_X9_skipped_o {n p : Nat} {y z u : Int32} {v : Mm} {L : Lm} (hC : CSt v n) (hp : p < n) (hy : ¬ ((0 ≤ y ∧ y ≤ 99) ∧ (0 ≤ z ∧ z ≤ 10))) : Fn yX9_skipped cX9_skipped 6 (some .int) 14 [.ref 0, .int (nI p), .int y, .int z, .int u] v L (some (.int (-2))) v L := by
  have hkp : kd (5 + 3 + p) = 2 := sh_kp s5 (by have := hC.1; omega)
  have hn4 := hC.1
  refine Fq.of (plainFor_of_name (by decide)) [some (.ref 0), some (.int (nI p)), some (.int y), some (.int z), some (.int u), none] rfl (Nat.le_of_ble_eq_true rfl) ?_
  first | refine g_aload0 (pc := 0) dX9_skipped_0 ?_ | refine g_aloadN0 (pc := 0) dX9_skipped_0 ?_
  refine g_getR (pc := 1) (j := 2) cf9 dX9_skipped_1 fl_RX9_26 (by decide) (by decide) (by first | rfl | assumption) (5) (rfl) ?_
  refine g_iload1 (pc := 4) dX9_skipped_4 ?_
  refine g_fV1 (pc := 5) (c_X4_find_s (S := 5) (i := p) s5 (by have := hC.1; omega) (by rw [hC.2.1]; exact nI_lt hp (by have := hC.1; omega))) cf4 (by first | rfl | assumption) dX9_skipped_5 cw_RX9_111 (by decide) (Nat.le_of_ble_eq_true rfl) ?_
  first | refine g_astore5 (pc := 8) dX9_skipped_8 (by decide) (by first | rfl | assumption) ?_ | refine g_astoreN5 (pc := 8) dX9_skipped_8 (by decide) (by first | rfl | assumption) ?_
  first | refine g_aload5 (pc := 10) dX9_skipped_10 ?_ | refine g_aloadN5 (pc := 10) dX9_skipped_10 ?_
  refine g_ifnonnull (pc := 12) 17 dX9_skipped_12 (by decide) ?_
  refine g_iload2 (pc := 17) dX9_skipped_17 ?_
  refine g_bipush (pc := 18) (99) dX9_skipped_18 (by decide) ?_
  refine g_fS2 (pc := 20) (c_X9_isWithin) dX9_skipped_20 cw_RX9_68 (by decide) (Nat.le_of_ble_eq_true rfl) ?_
  refine g_if_eq (pc := 23) 35 dX9_skipped_23 (by decide) (fun zh23 => ?_) (fun zh23 => ?_)
  · skip
    refine g_bipush (pc := 35) (-2) dX9_skipped_35 (by decide) ?_
    refine g_iret (pc := 37) dX9_skipped_37 rfl ?_
    exact ⟨rfl, rfl, rfl⟩
  · skip
    refine g_iload3 (pc := 26) dX9_skipped_26 ?_
    refine g_bipush (pc := 27) (10) dX9_skipped_27 (by decide) ?_
    refine g_fS2 (pc := 29) (c_X9_isWithin) dX9_skipped_29 cw_RX9_68 (by decide) (Nat.le_of_ble_eq_true rfl) ?_
    refine g_if_ne (pc := 32) 38 dX9_skipped_32 (by decide) (fun zh32 => ?_) (fun zh32 => ?_)
    · skip
      exact absurd ⟨b01_ne0.mp zh23, b01_ne0.mp zh32⟩ hy
    · skip
      refine g_bipush (pc := 35) (-2) dX9_skipped_35 (by decide) ?_
      refine g_iret (pc := 37) dX9_skipped_37 rfl ?_
      exact ⟨rfl, rfl, rfl⟩
theorem c_X9_skipped_s {n p w : Nat} {y z u : Int32} {v : Mm} {L : Lm} (hC : CSt v n) (hp : p < n) (hW : WSt v w) (hy : 0 ≤ y ∧ y ≤ 99) (hz : 0 ≤ z ∧ z ≤ 10) : Fn yX9_skipped cX9_skipped 6 (some .int) 14 [.ref 0, .int (nI p), .int y, .int z, .int u] v L (some (.int (tfF (ceF v (5 + 3 + p) w y z w 0 (v (5 + 3 + p) 0) 0) (tensF (nI w)) u))) v L := by
  have hkp : kd (5 + 3 + p) = 2 := sh_kp s5 (by have := hC.1; omega)
  have hn4 := hC.1
  refine Fq.of (plainFor_of_name (by decide)) [some (.ref 0), some (.int (nI p)), some (.int y), some (.int z), some (.int u), none] rfl (Nat.le_of_ble_eq_true rfl) ?_
  first | refine g_aload0 (pc := 0) dX9_skipped_0 ?_ | refine g_aloadN0 (pc := 0) dX9_skipped_0 ?_
  refine g_getR (pc := 1) (j := 2) cf9 dX9_skipped_1 fl_RX9_26 (by decide) (by decide) (by first | rfl | assumption) (5) (rfl) ?_
  refine g_iload1 (pc := 4) dX9_skipped_4 ?_
  refine g_fV1 (pc := 5) (c_X4_find_s (S := 5) (i := p) s5 (by have := hC.1; omega) (by rw [hC.2.1]; exact nI_lt hp (by have := hC.1; omega))) cf4 (by first | rfl | assumption) dX9_skipped_5 cw_RX9_111 (by decide) (Nat.le_of_ble_eq_true rfl) ?_
  first | refine g_astore5 (pc := 8) dX9_skipped_8 (by decide) (by first | rfl | assumption) ?_ | refine g_astoreN5 (pc := 8) dX9_skipped_8 (by decide) (by first | rfl | assumption) ?_
  first | refine g_aload5 (pc := 10) dX9_skipped_10 ?_ | refine g_aloadN5 (pc := 10) dX9_skipped_10 ?_
  refine g_ifnonnull (pc := 12) 17 dX9_skipped_12 (by decide) ?_
  refine g_iload2 (pc := 17) dX9_skipped_17 ?_
  refine g_bipush (pc := 18) (99) dX9_skipped_18 (by decide) ?_
  refine g_fS2 (pc := 20) (c_X9_isWithin) dX9_skipped_20 cw_RX9_68 (by decide) (Nat.le_of_ble_eq_true rfl) ?_
  refine g_if_eq (pc := 23) 35 dX9_skipped_23 (by decide) (fun zh23 => ?_) (fun zh23 => ?_)
  · skip
    exact absurd hy (b01_eq0.mp zh23)
  · skip
    refine g_iload3 (pc := 26) dX9_skipped_26 ?_
    refine g_bipush (pc := 27) (10) dX9_skipped_27 (by decide) ?_
    refine g_fS2 (pc := 29) (c_X9_isWithin) dX9_skipped_29 cw_RX9_68 (by decide) (Nat.le_of_ble_eq_true rfl) ?_
    refine g_if_ne (pc := 32) 38 dX9_skipped_32 (by decide) (fun zh32 => ?_) (fun zh32 => ?_)
    · skip
      first | refine g_aload5 (pc := 38) dX9_skipped_38 ?_ | refine g_aloadN5 (pc := 38) dX9_skipped_38 ?_
      first | refine g_aload0 (pc := 40) dX9_skipped_40 ?_ | refine g_aloadN0 (pc := 40) dX9_skipped_40 ?_
      refine g_getR (pc := 41) (j := 1) cf9 dX9_skipped_41 fl_RX9_19 (by decide) (by decide) (by first | rfl | assumption) (3) (rfl) ?_
      refine g_iconst (pc := 44) (0) dX9_skipped_44 (by decide) ?_
      first | refine g_aload5 (pc := 45) dX9_skipped_45 ?_ | refine g_aloadN5 (pc := 45) dX9_skipped_45 ?_
      refine g_getI (pc := 47) (j := 0) cf2 dX9_skipped_47 fl_RX9_115 (by decide) (by decide) (by first | rfl | assumption) ?_
      refine g_iconst (pc := 50) (0) dX9_skipped_50 (by decide) ?_
      refine g_iload2 (pc := 51) dX9_skipped_51 ?_
      refine g_iload3 (pc := 52) dX9_skipped_52 ?_
      refine g_fS7 (pc := 53) (ce_all (w := w) hkp hW.1 hW.2 w 0 _ _ 12 (by omega) (by have := hW.2; omega)) dX9_skipped_53 cw_RX9_257 (by decide) (Nat.le_of_ble_eq_true rfl) ?_
      first | refine g_aload0 (pc := 56) dX9_skipped_56 ?_ | refine g_aloadN0 (pc := 56) dX9_skipped_56 ?_
      refine g_getR (pc := 57) (j := 1) cf9 dX9_skipped_57 fl_RX9_19 (by decide) (by decide) (by first | rfl | assumption) (3) (rfl) ?_
      refine g_getI (pc := 60) (j := 1) cf8 dX9_skipped_60 fl_RX9_106 (by decide) (by decide) (by first | rfl | assumption) ?_
      rw [hW.1]
      refine g_fS1 (pc := 63) (c_X9_tens) dX9_skipped_63 cw_RX9_261 (by decide) (Nat.le_of_ble_eq_true rfl) ?_
      refine g_iload4 (pc := 66) dX9_skipped_66 ?_
      refine g_fS3 (pc := 68) (c_X9_toldFraction) dX9_skipped_68 cw_RX9_246 (by decide) (Nat.le_of_ble_eq_true rfl) ?_
      refine g_iret (pc := 71) dX9_skipped_71 rfl ?_
      exact ⟨rfl, rfl, rfl⟩
    · skip
      exact absurd hz (b01_eq0.mp zh32)
theorem lp_X9_blackerBehind {n w : Nat} {s x2 : Int32} {w0 : Mm} {L : Lm} {Q : Qt} (hn4 : n ≤ 4) (hw8 : w ≤ 8) (hI0 : (fun (zi : Nat) (zu : Mm) => TSt zu n ∧ (zu 5 2 = nI n) ∧ WSt zu w) 0 w0) (hk : G RX9 cX9_blackerBehind 4 (some .int) 5 Q 66 [some (.ref 0), some (.int s), some (.int x2), some (.int (nI n))] [] (bbM s w n w0) L) : (fun (i : Nat) (zv : Mm) =>  G RX9 cX9_blackerBehind 4 (some .int) 5 Q 13 [some (.ref 0), some (.int s), some (.int x2), some (.int (nI i))] [] zv L) 0 w0 := by
  refine g_for n (fun i u => if (s >>> (nI i &&& 31)) &&& 1 = 1 then fl1 u i w else u) (fun (zi : Nat) (zu : Mm) => TSt zu n ∧ (zu 5 2 = nI n) ∧ WSt zu w) (fun (i : Nat) (zv : Mm) =>  G RX9 cX9_blackerBehind 4 (some .int) 5 Q 13 [some (.ref 0), some (.int s), some (.int x2), some (.int (nI i))] [] zv L) w0 hI0 ?_ (fun hI => ?_) (fun i zv hi hI hn => ?_)
  · intro zi zu zl zh
    show TSt (if (s >>> (nI zi &&& 31)) &&& 1 = 1 then fl1 zu zi w else zu) n ∧ (if (s >>> (nI zi &&& 31)) &&& 1 = 1 then fl1 zu zi w else zu) 5 2 = nI n ∧ WSt (if (s >>> (nI zi &&& 31)) &&& 1 = 1 then fl1 zu zi w else zu) w
    split
    · exact ⟨zh.1.fl zl, by rw [fl1_away (by omega) (by decide)]; exact zh.2.1, ⟨by rw [fl1_away (by omega) (by decide)]; exact zh.2.2.1, hw8⟩⟩
    · exact zh
  · show G _ _ _ _ _ _ _ _ _ _ _
    try dsimp only at hI
    refine g_iload3 (pc := 13) dX9_blackerBehind_13 ?_
    first | refine g_aload0 (pc := 14) dX9_blackerBehind_14 ?_ | refine g_aloadN0 (pc := 14) dX9_blackerBehind_14 ?_
    refine g_getR (pc := 15) (j := 2) cf9 dX9_blackerBehind_15 fl_RX9_26 (by decide) (by decide) (by first | rfl | assumption) (5) (rfl) ?_
    refine g_getI (pc := 18) (j := 2) cf4 dX9_blackerBehind_18 fl_RX9_95 (by decide) (by decide) (by first | rfl | assumption) ?_
    refine g_icmp_ge (pc := 21) 66 dX9_blackerBehind_21 (by decide) (fun zh21 => ?_) (fun zh21 => ?_)
    · skip
      exact hk
    · skip
      exact absurd (by rw [hI.2.1]; exact nI_le (Nat.le_refl _) (by omega)) zh21
  · show G _ _ _ _ _ _ _ _ _ _ _
    try dsimp only at hI
    try dsimp only at hn
    refine g_iload3 (pc := 13) dX9_blackerBehind_13 ?_
    first | refine g_aload0 (pc := 14) dX9_blackerBehind_14 ?_ | refine g_aloadN0 (pc := 14) dX9_blackerBehind_14 ?_
    refine g_getR (pc := 15) (j := 2) cf9 dX9_blackerBehind_15 fl_RX9_26 (by decide) (by decide) (by first | rfl | assumption) (5) (rfl) ?_
    refine g_getI (pc := 18) (j := 2) cf4 dX9_blackerBehind_18 fl_RX9_95 (by decide) (by decide) (by first | rfl | assumption) ?_
    refine g_icmp_ge (pc := 21) 66 dX9_blackerBehind_21 (by decide) (fun zh21 => ?_) (fun zh21 => ?_)
    · skip
      exact absurd zh21 (by rw [hI.2.1]; exact nI_ge hi (by omega))
    · skip
      refine g_iload1 (pc := 24) dX9_blackerBehind_24 ?_
      refine g_iload3 (pc := 25) dX9_blackerBehind_25 ?_
      refine g_ishr (pc := 26) dX9_blackerBehind_26 ?_
      refine g_iconst (pc := 27) (1) dX9_blackerBehind_27 (by decide) ?_
      refine g_iand (pc := 28) dX9_blackerBehind_28 ?_
      refine g_iconst (pc := 29) (1) dX9_blackerBehind_29 (by decide) ?_
      refine g_icmp_ne (pc := 30) 60 dX9_blackerBehind_30 (by decide) (fun zh30 => ?_) (fun zh30 => ?_)
      · skip
        refine g_iinc3 (pc := 60) (nI (i + 1)) dX9_blackerBehind_60 (nI_succ' i) (by decide) (by first | rfl | assumption) ?_
        refine g_goto (pc := 63) 13 dX9_blackerBehind_63 (by decide) ?_
        first | (rw [if_pos zh30] at hn; exact hn) | (rw [if_neg zh30] at hn; exact hn)
      · skip
        first | refine g_aload0 (pc := 33) dX9_blackerBehind_33 ?_ | refine g_aloadN0 (pc := 33) dX9_blackerBehind_33 ?_
        refine g_getR (pc := 34) (j := 3) cf9 dX9_blackerBehind_34 fl_RX9_30 (by decide) (by decide) (by first | rfl | assumption) (12) (rfl) ?_
        first | refine g_aload0 (pc := 37) dX9_blackerBehind_37 ?_ | refine g_aloadN0 (pc := 37) dX9_blackerBehind_37 ?_
        refine g_getR (pc := 38) (j := 3) cf9 dX9_blackerBehind_38 fl_RX9_30 (by decide) (by decide) (by first | rfl | assumption) (12) (rfl) ?_
        refine g_iload3 (pc := 41) dX9_blackerBehind_41 ?_
        refine g_fV1 (pc := 42) (c_X4_find_s (S := 12) (i := i) s12 (by omega) (by rw [hI.1.2.1]; exact nI_lt (by omega) (by omega))) cf4 (by first | rfl | assumption) dX9_blackerBehind_42 cw_RX9_111 (by decide) (Nat.le_of_ble_eq_true rfl) ?_
        first | refine g_aload0 (pc := 45) dX9_blackerBehind_45 ?_ | refine g_aloadN0 (pc := 45) dX9_blackerBehind_45 ?_
        refine g_getR (pc := 46) (j := 1) cf9 dX9_blackerBehind_46 fl_RX9_19 (by decide) (by decide) (by first | rfl | assumption) (3) (rfl) ?_
        first | refine g_aload0 (pc := 49) dX9_blackerBehind_49 ?_ | refine g_aloadN0 (pc := 49) dX9_blackerBehind_49 ?_
        refine g_getR (pc := 50) (j := 1) cf9 dX9_blackerBehind_50 fl_RX9_19 (by decide) (by decide) (by first | rfl | assumption) (3) (rfl) ?_
        refine g_getI (pc := 53) (j := 1) cf8 dX9_blackerBehind_53 fl_RX9_106 (by decide) (by decide) (by first | rfl | assumption) ?_
        rw [hI.2.2.1]
        refine g_fV3 (pc := 56) (c_X4_follow (S := 12) (k := 12 + 3 + i) (q := w) (w := w) s12 (sh_kp s12 (by omega)) hw8 hI.2.2.1 hw8 (hI.1.2.2 i (by omega)).1) cf4 (by first | rfl | assumption) dX9_blackerBehind_56 cw_RX9_188 (by decide) (Nat.le_of_ble_eq_true rfl) ?_
        rw [Nat.min_self]
        refine g_pop (pc := 59) dX9_blackerBehind_59 rfl ?_
        refine g_iinc3 (pc := 60) (nI (i + 1)) dX9_blackerBehind_60 (nI_succ' i) (by decide) (by first | rfl | assumption) ?_
        refine g_goto (pc := 63) 13 dX9_blackerBehind_63 (by decide) ?_
        first | (rw [if_pos zh30] at hn; exact hn) | (rw [if_neg zh30] at hn; exact hn)
theorem c_X9_blackerBehind {n p w : Nat} {s : Int32} {v : Mm} {L : Lm} (hC : CSt v n) (hp : p < n) (hW : WSt v w) : Fn yX9_blackerBehind cX9_blackerBehind 4 (some .int) 5 [.ref 0, .int s, .int (nI p)] v L (some (.int (bhR v n w s p))) (bhM v n w s p) L := by
  have hn4 := hC.1
  have hw8 := hW.2
  have hT : TSt (bhU v n w s) n := (bb_ok (w := w) (s := s) hC.tr n (Nat.le_refl _)).1
  have hu : ∀ a j, (a < 12 ∨ 19 ≤ a) → bhU v n w s a j = v a j := fun a j ha => bhU_away hC ha
  have hWu : WSt (bhU v n w s) w := hW.same hu
  refine Fq.of (plainFor_of_name (by decide)) [some (.ref 0), some (.int s), some (.int (nI p)), none] rfl (Nat.le_of_ble_eq_true rfl) ?_
  first | refine g_aload0 (pc := 0) dX9_blackerBehind_0 ?_ | refine g_aloadN0 (pc := 0) dX9_blackerBehind_0 ?_
  refine g_getR (pc := 1) (j := 3) cf9 dX9_blackerBehind_1 fl_RX9_30 (by decide) (by decide) (by first | rfl | assumption) (12) (rfl) ?_
  first | refine g_aload0 (pc := 4) dX9_blackerBehind_4 ?_ | refine g_aloadN0 (pc := 4) dX9_blackerBehind_4 ?_
  refine g_getR (pc := 5) (j := 2) cf9 dX9_blackerBehind_5 fl_RX9_26 (by decide) (by decide) (by first | rfl | assumption) (5) (rfl) ?_
  refine g_vV1 (pc := 8) (c_X4_copy s12 s5 (by decide) hC.1 hC.2.1 (fun zp zh => (hC.2.2 zp zh).2)) cf4 (by first | rfl | assumption) dX9_blackerBehind_8 cw_RX9_215 (by decide) (Nat.le_of_ble_eq_true rfl) ?_
  refine g_iconst (pc := 11) (0) dX9_blackerBehind_11 (by decide) ?_
  refine g_istore3 (pc := 12) dX9_blackerBehind_12 (by decide) (by first | rfl | assumption) ?_
  refine lp_X9_blackerBehind (w0 := trM v n) hn4 hw8 ⟨hC.tr, by rw [trM_away hn4 (by decide)]; exact hC.2.1, ⟨by rw [trM_away hn4 (by decide)]; exact hW.1, hw8⟩⟩ ?_
  show G RX9 cX9_blackerBehind 4 (some .int) 5 _ 66 _ _ (bhU v n w s) L
  first | refine g_aload0 (pc := 66) dX9_blackerBehind_66 ?_ | refine g_aloadN0 (pc := 66) dX9_blackerBehind_66 ?_
  refine g_getR (pc := 67) (j := 3) cf9 dX9_blackerBehind_67 fl_RX9_30 (by decide) (by decide) (by first | rfl | assumption) (12) (rfl) ?_
  refine g_fV0 (pc := 70) (c_X4_blackBits s12) cf4 (by first | rfl | assumption) dX9_blackerBehind_70 cw_RX9_288 (by decide) (Nat.le_of_ble_eq_true rfl) ?_
  refine g_fS1 (pc := 73) (c_J6_bitCount_0f7a4) dX9_blackerBehind_73 cw_RX9_235 (by decide) (Nat.le_of_ble_eq_true rfl) ?_
  refine g_istore3 (pc := 76) dX9_blackerBehind_76 (by decide) (by first | rfl | assumption) ?_
  first | refine g_aload0 (pc := 77) dX9_blackerBehind_77 ?_ | refine g_aloadN0 (pc := 77) dX9_blackerBehind_77 ?_
  refine g_getR (pc := 78) (j := 3) cf9 dX9_blackerBehind_78 fl_RX9_30 (by decide) (by decide) (by first | rfl | assumption) (12) (rfl) ?_
  first | refine g_aload0 (pc := 81) dX9_blackerBehind_81 ?_ | refine g_aloadN0 (pc := 81) dX9_blackerBehind_81 ?_
  refine g_getR (pc := 82) (j := 3) cf9 dX9_blackerBehind_82 fl_RX9_30 (by decide) (by decide) (by first | rfl | assumption) (12) (rfl) ?_
  refine g_iload2 (pc := 85) dX9_blackerBehind_85 ?_
  refine g_fV1 (pc := 86) (c_X4_find_s (S := 12) (i := p) s12 (by omega) (by rw [hT.2.1]; exact nI_lt (by omega) (by omega))) cf4 (by first | rfl | assumption) dX9_blackerBehind_86 cw_RX9_111 (by decide) (Nat.le_of_ble_eq_true rfl) ?_
  first | refine g_aload0 (pc := 89) dX9_blackerBehind_89 ?_ | refine g_aloadN0 (pc := 89) dX9_blackerBehind_89 ?_
  refine g_getR (pc := 90) (j := 1) cf9 dX9_blackerBehind_90 fl_RX9_19 (by decide) (by decide) (by first | rfl | assumption) (3) (rfl) ?_
  first | refine g_aload0 (pc := 93) dX9_blackerBehind_93 ?_ | refine g_aloadN0 (pc := 93) dX9_blackerBehind_93 ?_
  refine g_getR (pc := 94) (j := 1) cf9 dX9_blackerBehind_94 fl_RX9_19 (by decide) (by decide) (by first | rfl | assumption) (3) (rfl) ?_
  refine g_getI (pc := 97) (j := 1) cf8 dX9_blackerBehind_97 fl_RX9_106 (by decide) (by decide) (by first | rfl | assumption) ?_
  rw [hWu.1]
  refine g_fV3 (pc := 100) (c_X4_follow (S := 12) (k := 12 + 3 + p) (q := w) (w := w) s12 (sh_kp s12 (by omega)) hw8 hWu.1 hw8 (hT.2.2 p (by omega)).1) cf4 (by first | rfl | assumption) dX9_blackerBehind_100 cw_RX9_188 (by decide) (Nat.le_of_ble_eq_true rfl) ?_
  rw [Nat.min_self]
  refine g_pop (pc := 103) dX9_blackerBehind_103 rfl ?_
  first | refine g_aload0 (pc := 104) dX9_blackerBehind_104 ?_ | refine g_aloadN0 (pc := 104) dX9_blackerBehind_104 ?_
  refine g_getR (pc := 105) (j := 3) cf9 dX9_blackerBehind_105 fl_RX9_30 (by decide) (by decide) (by first | rfl | assumption) (12) (rfl) ?_
  refine g_fV0 (pc := 108) (c_X4_blackBits s12) cf4 (by first | rfl | assumption) dX9_blackerBehind_108 cw_RX9_288 (by decide) (Nat.le_of_ble_eq_true rfl) ?_
  refine g_fS1 (pc := 111) (c_J6_bitCount_0f7a4) dX9_blackerBehind_111 cw_RX9_235 (by decide) (Nat.le_of_ble_eq_true rfl) ?_
  refine g_iload3 (pc := 114) dX9_blackerBehind_114 ?_
  refine g_isub (pc := 115) dX9_blackerBehind_115 ?_
  refine g_iret (pc := 116) dX9_blackerBehind_116 rfl ?_
  exact ⟨rfl, rfl, rfl⟩
theorem lp_X9_share {n w p : Nat} {u : Int32} {v : Mm} {L : Lm} (hC : CSt v n) (hp : p < n) (hW : WSt v w) (hI0 : (fun (_ : Nat) (zs : Int32 × Mm) => ∀ a j, (a < 12 ∨ 19 ≤ a) → zs.2 a j = v a j) 0 (0, v)) : (fun (i : Nat) (w_ : Int32 × Mm) => ∀ (o5 o6 : Option Value) (_ : okp o5 = true), G RX9 cX9_share 7 (some .int) 6 (fun a b K => a = some (.int (tfF (shF v n w p).1.toInt64 (ordF (nI n)).toInt64 u)) ∧ b = (shF v n w p).2 ∧ K = L) 18 [some (.ref 0), some (.int (nI p)), some (.int u), some (.int w_.1), some (.int (nI i)), o5, o6] [] w_.2 L) 0 ((0 : Int32), v) := by
  refine g_for (2 ^ n) (shS n w p) (fun (_ : Nat) (zs : Int32 × Mm) => ∀ a j, (a < 12 ∨ 19 ≤ a) → zs.2 a j = v a j) (fun (i : Nat) (w_ : Int32 × Mm) => ∀ (o5 o6 : Option Value) (_ : okp o5 = true), G RX9 cX9_share 7 (some .int) 6 (fun a b K => a = some (.int (tfF (shF v n w p).1.toInt64 (ordF (nI n)).toInt64 u)) ∧ b = (shF v n w p).2 ∧ K = L) 18 [some (.ref 0), some (.int (nI p)), some (.int u), some (.int w_.1), some (.int (nI i)), o5, o6] [] w_.2 L) ((0 : Int32), v) hI0 ?_ (fun hI => ?_) (fun i w_ hi hI hn => ?_)
  · intro zi zs zl zh za zj zk
    unfold shS
    split
    · show bhM zs.2 n w (nI zi) p za zj = v za zj
      rw [bhM_away (hC.same zh) hp zk]; exact zh za zj zk
    · exact zh za zj zk
  · intro o5 o6 ho5
    show G _ _ _ _ _ _ _ _ _ _ _
    try dsimp only at hI
    have hsh : (1 : Int32) <<< (nI n &&& 31) = nI (2 ^ n) := sh2 n hC.1
    have h2n : 2 ^ n < 17 := sh2l n hC.1
    refine g_iload4 (pc := 18) dX9_share_18 ?_
    refine g_iconst (pc := 20) (1) dX9_share_20 (by decide) ?_
    first | refine g_aload0 (pc := 21) dX9_share_21 ?_ | refine g_aloadN0 (pc := 21) dX9_share_21 ?_
    refine g_getR (pc := 22) (j := 2) cf9 dX9_share_22 fl_RX9_26 (by decide) (by decide) (by first | rfl | assumption) (5) (rfl) ?_
    refine g_getI (pc := 25) (j := 2) cf4 dX9_share_25 fl_RX9_95 (by decide) (by decide) (by first | rfl | assumption) ?_
    refine g_ishl (pc := 28) dX9_share_28 ?_
    rw [hI 5 2 (by decide), hC.2.1, hsh]
    refine g_icmp_ge (pc := 29) 90 dX9_share_29 (by decide) (fun zh29 => ?_) (fun zh29 => ?_)
    · skip
      refine g_iload3 (pc := 90) dX9_share_90 ?_
      refine g_i2l (pc := 91) dX9_share_91 ?_
      first | refine g_aload0 (pc := 92) dX9_share_92 ?_ | refine g_aloadN0 (pc := 92) dX9_share_92 ?_
      refine g_getR (pc := 93) (j := 2) cf9 dX9_share_93 fl_RX9_26 (by decide) (by decide) (by first | rfl | assumption) (5) (rfl) ?_
      refine g_getI (pc := 96) (j := 2) cf4 dX9_share_96 fl_RX9_95 (by decide) (by decide) (by first | rfl | assumption) ?_
      rw [hI 5 2 (by decide), hC.2.1]
      refine g_fS1 (pc := 99) (c_X9_orders) dX9_share_99 cw_RX9_240 (by decide) (Nat.le_of_ble_eq_true rfl) ?_
      refine g_i2l (pc := 102) dX9_share_102 ?_
      refine g_iload2 (pc := 103) dX9_share_103 ?_
      refine g_fS3 (pc := 104) (c_X9_toldFraction) dX9_share_104 cw_RX9_246 (by decide) (Nat.le_of_ble_eq_true rfl) ?_
      refine g_iret (pc := 107) dX9_share_107 rfl ?_
      exact ⟨rfl, rfl, rfl⟩
    · skip
      exact absurd (Int32.le_refl _) zh29
  · intro o5 o6 ho5
    show G _ _ _ _ _ _ _ _ _ _ _
    try dsimp only at hI
    try dsimp only at hn
    have hsh : (1 : Int32) <<< (nI n &&& 31) = nI (2 ^ n) := sh2 n hC.1
    have h2n : 2 ^ n < 17 := sh2l n hC.1
    refine g_iload4 (pc := 18) dX9_share_18 ?_
    refine g_iconst (pc := 20) (1) dX9_share_20 (by decide) ?_
    first | refine g_aload0 (pc := 21) dX9_share_21 ?_ | refine g_aloadN0 (pc := 21) dX9_share_21 ?_
    refine g_getR (pc := 22) (j := 2) cf9 dX9_share_22 fl_RX9_26 (by decide) (by decide) (by first | rfl | assumption) (5) (rfl) ?_
    refine g_getI (pc := 25) (j := 2) cf4 dX9_share_25 fl_RX9_95 (by decide) (by decide) (by first | rfl | assumption) ?_
    refine g_ishl (pc := 28) dX9_share_28 ?_
    rw [hI 5 2 (by decide), hC.2.1, hsh]
    refine g_icmp_ge (pc := 29) 90 dX9_share_29 (by decide) (fun zh29 => ?_) (fun zh29 => ?_)
    · skip
      exact absurd zh29 (nI_ge hi (by omega))
    · skip
      refine g_iload4 (pc := 32) dX9_share_32 ?_
      refine g_iload1 (pc := 34) dX9_share_34 ?_
      refine g_ishr (pc := 35) dX9_share_35 ?_
      refine g_iconst (pc := 36) (1) dX9_share_36 (by decide) ?_
      refine g_iand (pc := 37) dX9_share_37 ?_
      refine g_if_ne (pc := 38) 84 dX9_share_38 (by decide) (fun zh38 => ?_) (fun zh38 => ?_)
      · skip
        refine g_iinc4 (pc := 84) (nI (i + 1)) dX9_share_84 (nI_succ' i) (by decide) (by first | rfl | assumption) ?_
        refine g_goto (pc := 87) 18 dX9_share_87 (by decide) ?_
        first
          | (have ee : shS n w p i w_ = (w_.1 + ordF (bcF (nI i)) * ordF (nI n - 1 - bcF (nI i)) * bhR w_.2 n w (nI i) p, bhM w_.2 n w (nI i) p) := if_pos zh38
             rw [ee] at hn
             rw [hI 5 2 (by decide), hC.2.1]
             exact hn _ _ rfl)
          | (have ee : shS n w p i w_ = w_ := if_neg zh38
             rw [ee] at hn
             exact hn _ _ ho5)
      · skip
        refine g_iload4 (pc := 41) dX9_share_41 ?_
        refine g_fS1 (pc := 43) (c_J6_bitCount_0f7a4) dX9_share_43 cw_RX9_235 (by decide) (Nat.le_of_ble_eq_true rfl) ?_
        refine g_istore5 (pc := 46) dX9_share_46 (by decide) (by first | rfl | assumption) ?_
        refine g_iload5 (pc := 48) dX9_share_48 ?_
        refine g_fS1 (pc := 50) (c_X9_orders) dX9_share_50 cw_RX9_240 (by decide) (Nat.le_of_ble_eq_true rfl) ?_
        skip
        first | refine g_aload0 (pc := 53) dX9_share_53 ?_ | refine g_aloadN0 (pc := 53) dX9_share_53 ?_
        refine g_getR (pc := 54) (j := 2) cf9 dX9_share_54 fl_RX9_26 (by decide) (by decide) (by first | rfl | assumption) (5) (rfl) ?_
        refine g_getI (pc := 57) (j := 2) cf4 dX9_share_57 fl_RX9_95 (by decide) (by decide) (by first | rfl | assumption) ?_
        refine g_iconst (pc := 60) (1) dX9_share_60 (by decide) ?_
        refine g_isub (pc := 61) dX9_share_61 ?_
        refine g_iload5 (pc := 62) dX9_share_62 ?_
        refine g_isub (pc := 64) dX9_share_64 ?_
        refine g_fS1 (pc := 65) (c_X9_orders) dX9_share_65 cw_RX9_240 (by decide) (Nat.le_of_ble_eq_true rfl) ?_
        refine g_imul (pc := 68) dX9_share_68 ?_
        refine g_istore6 (pc := 69) dX9_share_69 (by decide) (by first | rfl | assumption) ?_
        skip
        refine g_iload3 (pc := 71) dX9_share_71 ?_
        refine g_iload6 (pc := 72) dX9_share_72 ?_
        first | refine g_aload0 (pc := 74) dX9_share_74 ?_ | refine g_aloadN0 (pc := 74) dX9_share_74 ?_
        refine g_iload4 (pc := 75) dX9_share_75 ?_
        refine g_iload1 (pc := 77) dX9_share_77 ?_
        refine g_fV2 (pc := 78) (c_X9_blackerBehind (hC.same hI) hp (hW.same hI)) cf9 (by first | rfl | assumption) dX9_share_78 cw_RX9_243 (by decide) (Nat.le_of_ble_eq_true rfl) ?_
        refine g_imul (pc := 81) dX9_share_81 ?_
        refine g_iadd (pc := 82) dX9_share_82 ?_
        refine g_istore3 (pc := 83) dX9_share_83 (by decide) (by first | rfl | assumption) ?_
        refine g_iinc4 (pc := 84) (nI (i + 1)) dX9_share_84 (nI_succ' i) (by decide) (by first | rfl | assumption) ?_
        refine g_goto (pc := 87) 18 dX9_share_87 (by decide) ?_
        first
          | (have ee : shS n w p i w_ = (w_.1 + ordF (bcF (nI i)) * ordF (nI n - 1 - bcF (nI i)) * bhR w_.2 n w (nI i) p, bhM w_.2 n w (nI i) p) := if_pos zh38
             rw [ee] at hn
             rw [hI 5 2 (by decide), hC.2.1]
             exact hn _ _ rfl)
          | (have ee : shS n w p i w_ = w_ := if_neg zh38
             rw [ee] at hn
             exact hn _ _ ho5)
theorem c_X9_share_u {n : Nat} {x u : Int32} {v : Mm} {L : Lm} (hC : CSt v n) (hx : ¬ (0 ≤ x ∧ x < nI n)) : Fn yX9_share cX9_share 7 (some .int) 6 [.ref 0, .int x, .int u] v L (some (.int (-1))) v L := by
  refine Fq.of (plainFor_of_name (by decide)) [some (.ref 0), some (.int x), some (.int u), none, none, none, none] rfl (Nat.le_of_ble_eq_true rfl) ?_
  first | refine g_aload0 (pc := 0) dX9_share_0 ?_ | refine g_aloadN0 (pc := 0) dX9_share_0 ?_
  refine g_getR (pc := 1) (j := 2) cf9 dX9_share_1 fl_RX9_26 (by decide) (by decide) (by first | rfl | assumption) (5) (rfl) ?_
  refine g_iload1 (pc := 4) dX9_share_4 ?_
  refine g_fV1 (pc := 5) (c_X4_find_n (S := 5) s5 (fun zq => hx ⟨zq.1, by rw [← hC.2.1]; exact zq.2.1⟩)) cf4 (by first | rfl | assumption) dX9_share_5 cw_RX9_111 (by decide) (Nat.le_of_ble_eq_true rfl) ?_
  refine g_ifnonnullN (pc := 8) dX9_share_8 ?_
  refine g_iconst (pc := 11) (-1) dX9_share_11 (by decide) ?_
  refine g_iret (pc := 12) dX9_share_12 rfl ?_
  exact ⟨rfl, rfl, rfl⟩
theorem c_X9_share_s {n p w : Nat} {u : Int32} {v : Mm} {L : Lm} (hC : CSt v n) (hp : p < n) (hW : WSt v w) : Fn yX9_share cX9_share 7 (some .int) 6 [.ref 0, .int (nI p), .int u] v L (some (.int (tfF (shF v n w p).1.toInt64 (ordF (nI n)).toInt64 u))) (shF v n w p).2 L := by
  refine Fq.of (plainFor_of_name (by decide)) [some (.ref 0), some (.int (nI p)), some (.int u), none, none, none, none] rfl (Nat.le_of_ble_eq_true rfl) ?_
  first | refine g_aload0 (pc := 0) dX9_share_0 ?_ | refine g_aloadN0 (pc := 0) dX9_share_0 ?_
  refine g_getR (pc := 1) (j := 2) cf9 dX9_share_1 fl_RX9_26 (by decide) (by decide) (by first | rfl | assumption) (5) (rfl) ?_
  refine g_iload1 (pc := 4) dX9_share_4 ?_
  refine g_fV1 (pc := 5) (c_X4_find_s (S := 5) (i := p) s5 (by have := hC.1; omega) (by rw [hC.2.1]; exact nI_lt hp (by have := hC.1; omega))) cf4 (by first | rfl | assumption) dX9_share_5 cw_RX9_111 (by decide) (Nat.le_of_ble_eq_true rfl) ?_
  refine g_ifnonnull (pc := 8) 13 dX9_share_8 (by decide) ?_
  refine g_iconst (pc := 13) (0) dX9_share_13 (by decide) ?_
  refine g_istore3 (pc := 14) dX9_share_14 (by decide) (by first | rfl | assumption) ?_
  refine g_iconst (pc := 15) (0) dX9_share_15 (by decide) ?_
  refine g_istore4 (pc := 16) dX9_share_16 (by decide) (by first | rfl | assumption) ?_
  exact lp_X9_share hC hp hW (fun _ _ _ => rfl) none none rfl
