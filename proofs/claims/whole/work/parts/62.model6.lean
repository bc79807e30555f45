theorem lp_X10_factorial {n : Nat} {v : Mm} {L : Lm} (hn4 : n ≤ 4) (hI0 : (fun (_ : Nat) (_ : Int32) => True) 0 (1 : Int32)) : (fun (i : Nat) (w : Int32) =>  G RX10 cX10_factorial 3 (some .int) 0 (fun a b c => a = some (.int (fcF n)) ∧ b = v ∧ c = L) 4 [some (.int (nI n)), some (.int w), some (.int (nI (i + 2)))] [] v L) 0 (1 : Int32) := by
  refine g_for (n - 1) (fun k s => s * nI (k + 2)) (fun (_ : Nat) (_ : Int32) => True) (fun (i : Nat) (w : Int32) =>  G RX10 cX10_factorial 3 (some .int) 0 (fun a b c => a = some (.int (fcF n)) ∧ b = v ∧ c = L) 4 [some (.int (nI n)), some (.int w), some (.int (nI (i + 2)))] [] v L) (1 : Int32) hI0 ?_ (fun hI => ?_) (fun i w hi hI hn => ?_)
  · exact fun _ _ _ h => h
  · show G _ _ _ _ _ _ _ _ _ _ _
    try dsimp only at hI
    refine g_iload2 (pc := 4) dX10_factorial_4 ?_
    refine g_iload0 (pc := 5) dX10_factorial_5 ?_
    refine g_icmp_gt (pc := 6) 19 dX10_factorial_6 (by decide) (fun zh6 => ?_) (fun zh6 => ?_)
    · skip
      refine g_iload1 (pc := 19) dX10_factorial_19 ?_
      refine g_iret (pc := 20) dX10_factorial_20 rfl ?_
      exact ⟨rfl, rfl, rfl⟩
    · skip
      exact absurd (nI_lt (by omega) (by omega)) zh6
  · show G _ _ _ _ _ _ _ _ _ _ _
    try dsimp only at hI
    try dsimp only at hn
    refine g_iload2 (pc := 4) dX10_factorial_4 ?_
    refine g_iload0 (pc := 5) dX10_factorial_5 ?_
    refine g_icmp_gt (pc := 6) 19 dX10_factorial_6 (by decide) (fun zh6 => ?_) (fun zh6 => ?_)
    · skip
      exact absurd zh6 (nI_nlt (by omega) (by omega))
    · skip
      refine g_iload1 (pc := 9) dX10_factorial_9 ?_
      refine g_iload2 (pc := 10) dX10_factorial_10 ?_
      refine g_imul (pc := 11) dX10_factorial_11 ?_
      refine g_istore1 (pc := 12) dX10_factorial_12 (by decide) (by first | rfl | assumption) ?_
      refine g_iinc2 (pc := 13) (nI (i + 1 + 2)) dX10_factorial_13 (nI_succ' (i + 2)) (by decide) (by first | rfl | assumption) ?_
      refine g_goto (pc := 16) 4 dX10_factorial_16 (by decide) ?_
      exact hn
theorem c_X10_factorial {n : Nat} {v : Mm} {L : Lm} (hn4 : n ≤ 4) : Fn yX10_factorial cX10_factorial 3 (some .int) 0 [.int (nI n)] v L (some (.int (fcF n))) v L := by
  refine Fq.of (plainFor_of_name (by decide)) [some (.int (nI n)), none, none] rfl (Nat.le_of_ble_eq_true rfl) ?_
  refine g_iconst (pc := 0) (1) dX10_factorial_0 (by decide) ?_
  refine g_istore1 (pc := 1) dX10_factorial_1 (by decide) (by first | rfl | assumption) ?_
  refine g_iconst (pc := 2) (2) dX10_factorial_2 (by decide) ?_
  refine g_istore2 (pc := 3) dX10_factorial_3 (by decide) (by first | rfl | assumption) ?_
  exact lp_X10_factorial hn4 trivial
theorem lp_X10_common {a0 b0 : Int32} {v : Mm} {L : Lm}  : ∀ (m : Nat) (x y : Nat) (o4 : Option Value), y ≤ m → x < 2 ^ 31 → y < 2 ^ 31 → G RX10 cX10_common 5 (some .int) 0 (fun a b c => a = some (.int (nI (Nat.gcd x y))) ∧ b = v ∧ c = L) 13 [some (.int a0), some (.int b0), some (.int (nI x)), some (.int (nI y)), o4] [] v L := by
  intro m
  induction m with
  | zero =>
    intro x y o4 hy hx31 hy31
    refine g_iload3 (pc := 13) dX10_common_13 ?_
    refine g_if_eq (pc := 14) 30 dX10_common_14 (by decide) (fun zh14 => ?_) (fun zh14 => ?_)
    · skip
      refine g_iload2 (pc := 30) dX10_common_30 ?_
      refine g_iret (pc := 31) dX10_common_31 rfl ?_
      exact ⟨by rw [show y = 0 by omega, Nat.gcd_zero_right], rfl, rfl⟩
    · skip
      exact absurd (show nI y = 0 by rw [show y = 0 by omega]; rfl) zh14
  | succ m ih =>
    intro x y o4 hy hx31 hy31
    refine g_iload3 (pc := 13) dX10_common_13 ?_
    refine g_if_eq (pc := 14) 30 dX10_common_14 (by decide) (fun zh14 => ?_) (fun zh14 => ?_)
    · skip
      refine g_iload2 (pc := 30) dX10_common_30 ?_
      refine g_iret (pc := 31) dX10_common_31 rfl ?_
      have zy : y = 0 := by rcases Nat.eq_zero_or_pos y with zq | zq <;> first | exact zq | exact absurd zh14 (nI_ne0 zq hy31)
      exact ⟨by rw [zy, Nat.gcd_zero_right], rfl, rfl⟩
    · skip
      refine g_iload2 (pc := 17) dX10_common_17 ?_
      refine g_iload3 (pc := 18) dX10_common_18 ?_
      refine g_irem (pc := 19) dX10_common_19 (zh14) ?_
      have zy : 0 < y := by rcases Nat.eq_zero_or_pos y with zq | zq <;> first | exact zq | exact absurd (show nI y = 0 by rw [zq]; rfl) zh14
      rw [show nI x - nI x / nI y * nI y = nI (x % y) from pk_rem hx31 zy hy31]
      refine g_istore4 (pc := 20) dX10_common_20 (by decide) (by first | rfl | assumption) ?_
      refine g_iload3 (pc := 22) dX10_common_22 ?_
      refine g_istore2 (pc := 23) dX10_common_23 (by decide) (by first | rfl | assumption) ?_
      refine g_iload4 (pc := 24) dX10_common_24 ?_
      refine g_istore3 (pc := 26) dX10_common_26 (by decide) (by first | rfl | assumption) ?_
      refine g_goto (pc := 27) 13 dX10_common_27 (by decide) ?_
      have zl := Nat.mod_lt x zy
      refine G.mono (ih y (x % y) _ (by omega) hy31 (by omega)) (fun za zb zc zh => ⟨zh.1.trans ?_, zh.2.1, zh.2.2⟩)
      rw [Nat.gcd_comm x y, Nat.gcd_rec y x, Nat.gcd_comm]
theorem c_X10_common {x y : Nat} {v : Mm} {L : Lm} (hx : x < 2 ^ 31) (hy : y < 2 ^ 31) : Fn yX10_common cX10_common 5 (some .int) 0 [.int (nI x), .int (nI y)] v L (some (.int (nI (Nat.gcd x y)))) v L := by
  refine Fq.of (plainFor_of_name (by decide)) [some (.int (nI x)), some (.int (nI y)), none, none, none] rfl (Nat.le_of_ble_eq_true rfl) ?_
  refine g_iload0 (pc := 0) dX10_common_0 ?_
  refine g_if_ge (pc := 1) 9 dX10_common_1 (by decide) (fun zh1 => ?_) (fun zh1 => ?_)
  · skip
    refine g_iload0 (pc := 9) dX10_common_9 ?_
    refine g_istore2 (pc := 10) dX10_common_10 (by decide) (by first | rfl | assumption) ?_
    refine g_iload1 (pc := 11) dX10_common_11 ?_
    refine g_istore3 (pc := 12) dX10_common_12 (by decide) (by first | rfl | assumption) ?_
    exact lp_X10_common y x y none (Nat.le_refl _) hx hy
  · skip
    exact absurd (nI_pos' hx) zh1
theorem lp_X10_findFar_i {p : Nat} {g : Int32} {w0 : Mm} {L : Lm} {Q : Qt} (hI0 : (fun (_ : Nat) (_ : Mm) => True) 0 w0) (hk : G RX10 cX10_findFar 7 none 2 Q 31 [some (.ref 79), some (.int (nI p)), some (.int g), some (.int (nI 25)), none, none, none] [] (fiM w0 g) L) : (fun (i : Nat) (w : Mm) =>  G RX10 cX10_findFar 7 none 2 Q 2 [some (.ref 79), some (.int (nI p)), some (.int g), some (.int (nI i)), none, none, none] [] w L) 0 w0 := by
  refine g_for 25 (fun k w => upd2 w 88 k (if nI k = g then 0 else 1000000)) (fun (_ : Nat) (_ : Mm) => True) (fun (i : Nat) (w : Mm) =>  G RX10 cX10_findFar 7 none 2 Q 2 [some (.ref 79), some (.int (nI p)), some (.int g), some (.int (nI i)), none, none, none] [] w L) w0 hI0 ?_ (fun hI => ?_) (fun i w hi hI hn => ?_)
  · exact fun _ _ _ h => h
  · show G _ _ _ _ _ _ _ _ _ _ _
    try dsimp only at hI
    refine g_iload3 (pc := 2) dX10_findFar_2 ?_
    refine g_bipush (pc := 3) (25) dX10_findFar_3 (by decide) ?_
    refine g_icmp_ge (pc := 5) 31 dX10_findFar_5 (by decide) (fun zh5 => ?_) (fun zh5 => ?_)
    · skip
      exact hk
    · skip
      exact absurd (Int32.le_refl _) zh5
  · show G _ _ _ _ _ _ _ _ _ _ _
    try dsimp only at hI
    try dsimp only at hn
    refine g_iload3 (pc := 2) dX10_findFar_2 ?_
    refine g_bipush (pc := 3) (25) dX10_findFar_3 (by decide) ?_
    refine g_icmp_ge (pc := 5) 31 dX10_findFar_5 (by decide) (fun zh5 => ?_) (fun zh5 => ?_)
    · skip
      exact absurd zh5 (nI_ge (b := 25) hi (by decide))
    · skip
      first | refine g_aload0 (pc := 8) dX10_findFar_8 ?_ | refine g_aloadN0 (pc := 8) dX10_findFar_8 ?_
      refine g_getR (pc := 9) (j := 18) cf10 dX10_findFar_9 fl_RX10_34 (by decide) (by decide) (by first | rfl | assumption) (88) (rfl) ?_
      refine g_iload3 (pc := 12) dX10_findFar_12 ?_
      refine g_iload3 (pc := 13) dX10_findFar_13 ?_
      refine g_iload2 (pc := 14) dX10_findFar_14 ?_
      refine g_icmp_ne (pc := 15) 22 dX10_findFar_15 (by decide) (fun zh15 => ?_) (fun zh15 => ?_)
      · skip
        refine g_ldc (pc := 22) _ dX10_findFar_22 kc_RX10_167 ?_
        refine g_iastX (pc := 24) (i) dX10_findFar_24 (rfl) (rfl) (by have := ln_all; omega) (by decide) ?_
        refine g_iinc3 (pc := 25) (nI (i + 1)) dX10_findFar_25 (nI_succ' i) (by decide) (by first | rfl | assumption) ?_
        refine g_goto (pc := 28) 2 dX10_findFar_28 (by decide) ?_
        first | (rw [if_pos zh15] at hn; exact hn) | (rw [if_neg zh15] at hn; exact hn)
      · skip
        refine g_iconst (pc := 18) (0) dX10_findFar_18 (by decide) ?_
        refine g_goto (pc := 19) 24 dX10_findFar_19 (by decide) ?_
        refine g_iastX (pc := 24) (i) dX10_findFar_24 (rfl) (rfl) (by have := ln_all; omega) (by decide) ?_
        refine g_iinc3 (pc := 25) (nI (i + 1)) dX10_findFar_25 (nI_succ' i) (by decide) (by first | rfl | assumption) ?_
        refine g_goto (pc := 28) 2 dX10_findFar_28 (by decide) ?_
        first | (rw [if_pos zh15] at hn; exact hn) | (rw [if_neg zh15] at hn; exact hn)
theorem lp_X10_findFar_k {p : Nat} {g : Int32} {r : Nat} {w0 : Mm} {L : Lm} {Q : Qt} (hp4 : p < 4) (hI0 : (fun (_ : Nat) (_ : Mm) => True) 0 w0) (hk : ∀ o5 o6 : Option Value, okp o5 = true → G RX10 cX10_findFar 7 none 2 Q 150 [some (.ref 79), some (.int (nI p)), some (.int g), some (.int (nI r)), some (.int (nI 200)), o5, o6] [] (itr (rlm p) 200 w0) L) : (fun (i : Nat) (w : Mm) => ∀ (o5 o6 : Option Value) (_ : okp o5 = true), G RX10 cX10_findFar 7 none 2 Q 42 [some (.ref 79), some (.int (nI p)), some (.int g), some (.int (nI r)), some (.int (nI i)), o5, o6] [] w L) 0 w0 := by
  refine g_for 200 (rlm p) (fun (_ : Nat) (_ : Mm) => True) (fun (i : Nat) (w : Mm) => ∀ (o5 o6 : Option Value) (_ : okp o5 = true), G RX10 cX10_findFar 7 none 2 Q 42 [some (.ref 79), some (.int (nI p)), some (.int g), some (.int (nI r)), some (.int (nI i)), o5, o6] [] w L) w0 hI0 ?_ (fun hI => ?_) (fun i w hi hI hn => ?_)
  · exact fun _ _ _ h => h
  · intro o5 o6 ho5
    show G _ _ _ _ _ _ _ _ _ _ _
    try dsimp only at hI
    refine g_iload4 (pc := 42) dX10_findFar_42 ?_
    refine g_sipush (pc := 44) (200) dX10_findFar_44 (by decide) ?_
    refine g_icmp_ge (pc := 47) 150 dX10_findFar_47 (by decide) (fun zh47 => ?_) (fun zh47 => ?_)
    · skip
      exact hk _ _ ho5
    · skip
      exact absurd (Int32.le_refl _) zh47
  · intro o5 o6 ho5
    show G _ _ _ _ _ _ _ _ _ _ _
    try dsimp only at hI
    try dsimp only at hn
    refine g_iload4 (pc := 42) dX10_findFar_42 ?_
    refine g_sipush (pc := 44) (200) dX10_findFar_44 (by decide) ?_
    refine g_icmp_ge (pc := 47) 150 dX10_findFar_47 (by decide) (fun zh47 => ?_) (fun zh47 => ?_)
    · skip
      exact absurd zh47 (nI_ge (b := 200) hi (by decide))
    · skip
      refine g_iload4 (pc := 50) dX10_findFar_50 ?_
      refine g_bipush (pc := 52) (8) dX10_findFar_52 (by decide) ?_
      refine g_idiv (pc := 54) dX10_findFar_54 (by decide) ?_
      refine g_iload4 (pc := 55) dX10_findFar_55 ?_
      refine g_bipush (pc := 57) (8) dX10_findFar_57 (by decide) ?_
      refine g_irem (pc := 59) dX10_findFar_59 (by decide) ?_
      rw [show nI i - nI i / 8 * 8 = nI (i % 8) from pk_rem (d := 8) (by omega) (by decide) (by decide), show nI i / 8 = nI (i / 8) from pk_div (d := 8) (by omega) (by decide) (by decide)]
      refine g_fS2 (pc := 60) (c_X10_nextDot) dX10_findFar_60 cw_RX10_119 (by decide) (Nat.le_of_ble_eq_true rfl) ?_
      refine g_istore5 (pc := 63) dX10_findFar_63 (by decide) (by first | rfl | assumption) ?_
      refine g_iload5 (pc := 65) dX10_findFar_65 ?_
      refine g_bipush (pc := 67) (-9) dX10_findFar_67 (by decide) ?_
      refine g_icmp_ne (pc := 69) 77 dX10_findFar_69 (by decide) (fun zh69 => ?_) (fun zh69 => ?_)
      · skip
        obtain ⟨zq, hzq, ezq⟩ := nd25 hi zh69
        first | refine g_aload0 (pc := 77) dX10_findFar_77 ?_ | refine g_aloadN0 (pc := 77) dX10_findFar_77 ?_
        refine g_getR (pc := 78) (j := 18) cf10 dX10_findFar_78 fl_RX10_34 (by decide) (by decide) (by first | rfl | assumption) (88) (rfl) ?_
        refine g_iload5 (pc := 81) dX10_findFar_81 ?_
        refine g_ialdX (pc := 83) (zq) dX10_findFar_83 (rfl) (ezq) (by have := ln_all; omega) (by decide) ?_
        refine g_sipush (pc := 84) (1000) dX10_findFar_84 (by decide) ?_
        first | refine g_aload0 (pc := 87) dX10_findFar_87 ?_ | refine g_aloadN0 (pc := 87) dX10_findFar_87 ?_
        refine g_iconst (pc := 88) (0) dX10_findFar_88 (by decide) ?_
        refine g_iload1 (pc := 89) dX10_findFar_89 ?_
        refine g_iload4 (pc := 90) dX10_findFar_90 ?_
        refine g_bipush (pc := 92) (8) dX10_findFar_92 (by decide) ?_
        refine g_irem (pc := 94) dX10_findFar_94 (by decide) ?_
        rw [show nI i - nI i / 8 * 8 = nI (i % 8) from pk_rem (d := 8) (by omega) (by decide) (by decide)]
        refine g_fV3 (pc := 95) (c_X10_thickOn (l := 0) (by decide) hp4) cf10 (by first | rfl | assumption) dX10_findFar_95 cw_RX10_122 (by decide) (Nat.le_of_ble_eq_true rfl) ?_
        refine g_imul (pc := 98) dX10_findFar_98 ?_
        refine g_iadd (pc := 99) dX10_findFar_99 ?_
        refine g_iconst (pc := 100) (1) dX10_findFar_100 (by decide) ?_
        refine g_iadd (pc := 101) dX10_findFar_101 ?_
        first
          | (have zw : wyF w p i = 1000000 := if_pos zh69; rw [← zw])
          | (have zw : wyF w p i = w 88 zq + 1000 * thM w 0 p (nI (i % 8)) + 1 := (if_neg zh69).trans (by rw [ezq, nI_clamp (by omega)]); rw [← zw])
        refine g_istore6 (pc := 102) dX10_findFar_102 (by decide) (by first | rfl | assumption) ?_
        first | refine g_aload0 (pc := 104) dX10_findFar_104 ?_ | refine g_aloadN0 (pc := 104) dX10_findFar_104 ?_
        refine g_getR (pc := 105) (j := 18) cf10 dX10_findFar_105 fl_RX10_34 (by decide) (by decide) (by first | rfl | assumption) (88) (rfl) ?_
        refine g_iload4 (pc := 108) dX10_findFar_108 ?_
        refine g_bipush (pc := 110) (8) dX10_findFar_110 (by decide) ?_
        refine g_idiv (pc := 112) dX10_findFar_112 (by decide) ?_
        refine g_iload6 (pc := 113) dX10_findFar_113 ?_
        first | refine g_aload0 (pc := 115) dX10_findFar_115 ?_ | refine g_aloadN0 (pc := 115) dX10_findFar_115 ?_
        refine g_getR (pc := 116) (j := 18) cf10 dX10_findFar_116 fl_RX10_34 (by decide) (by decide) (by first | rfl | assumption) (88) (rfl) ?_
        refine g_iload4 (pc := 119) dX10_findFar_119 ?_
        refine g_bipush (pc := 121) (8) dX10_findFar_121 (by decide) ?_
        refine g_idiv (pc := 123) dX10_findFar_123 (by decide) ?_
        refine g_ialdX (pc := 124) (i / 8) dX10_findFar_124 (rfl) (pk_div (d := 8) (by omega) (by decide) (by decide)) (by have := ln_all; omega) (by decide) ?_
        refine g_icmp_ge (pc := 125) 133 dX10_findFar_125 (by decide) (fun zh125 => ?_) (fun zh125 => ?_)
        · skip
          first | refine g_aload0 (pc := 133) dX10_findFar_133 ?_ | refine g_aloadN0 (pc := 133) dX10_findFar_133 ?_
          refine g_getR (pc := 134) (j := 18) cf10 dX10_findFar_134 fl_RX10_34 (by decide) (by decide) (by first | rfl | assumption) (88) (rfl) ?_
          refine g_iload4 (pc := 137) dX10_findFar_137 ?_
          refine g_bipush (pc := 139) (8) dX10_findFar_139 (by decide) ?_
          refine g_idiv (pc := 141) dX10_findFar_141 (by decide) ?_
          refine g_ialdX (pc := 142) (i / 8) dX10_findFar_142 (rfl) (pk_div (d := 8) (by omega) (by decide) (by decide)) (by have := ln_all; omega) (by decide) ?_
          refine g_iastX (pc := 143) (i / 8) dX10_findFar_143 (rfl) (pk_div (d := 8) (by omega) (by decide) (by decide)) (by have := ln_all; omega) (by decide) ?_
          refine g_iinc4 (pc := 144) (nI (i + 1)) dX10_findFar_144 (nI_succ' i) (by decide) (by first | rfl | assumption) ?_
          refine g_goto (pc := 147) 42 dX10_findFar_147 (by decide) ?_
          first
            | (have ee : rlm p i w = upd2 w 88 (i / 8) (wyF w p i) := by unfold rlm; rw [if_pos (i32nle.mp zh125)]
               rw [ee] at hn; exact hn _ _ rfl)
            | (have ee : rlm p i w = upd2 w 88 (i / 8) (w 88 (i / 8)) := by unfold rlm; rw [if_neg (i32nlt.mpr zh125)]
               rw [ee] at hn; exact hn _ _ rfl)
        · skip
          refine g_iload6 (pc := 128) dX10_findFar_128 ?_
          refine g_goto (pc := 130) 143 dX10_findFar_130 (by decide) ?_
          refine g_iastX (pc := 143) (i / 8) dX10_findFar_143 (rfl) (pk_div (d := 8) (by omega) (by decide) (by decide)) (by have := ln_all; omega) (by decide) ?_
          refine g_iinc4 (pc := 144) (nI (i + 1)) dX10_findFar_144 (nI_succ' i) (by decide) (by first | rfl | assumption) ?_
          refine g_goto (pc := 147) 42 dX10_findFar_147 (by decide) ?_
          first
            | (have ee : rlm p i w = upd2 w 88 (i / 8) (wyF w p i) := by unfold rlm; rw [if_pos (i32nle.mp zh125)]
               rw [ee] at hn; exact hn _ _ rfl)
            | (have ee : rlm p i w = upd2 w 88 (i / 8) (w 88 (i / 8)) := by unfold rlm; rw [if_neg (i32nlt.mpr zh125)]
               rw [ee] at hn; exact hn _ _ rfl)
      · skip
        refine g_ldc (pc := 72) _ dX10_findFar_72 kc_RX10_167 ?_
        refine g_goto (pc := 74) 102 dX10_findFar_74 (by decide) ?_
        first
          | (have zw : wyF w p i = 1000000 := if_pos zh69; rw [← zw])
          | (have zw : wyF w p i = w 88 zq + 1000 * thM w 0 p (nI (i % 8)) + 1 := (if_neg zh69).trans (by rw [ezq, nI_clamp (by omega)]); rw [← zw])
        refine g_istore6 (pc := 102) dX10_findFar_102 (by decide) (by first | rfl | assumption) ?_
        first | refine g_aload0 (pc := 104) dX10_findFar_104 ?_ | refine g_aloadN0 (pc := 104) dX10_findFar_104 ?_
        refine g_getR (pc := 105) (j := 18) cf10 dX10_findFar_105 fl_RX10_34 (by decide) (by decide) (by first | rfl | assumption) (88) (rfl) ?_
        refine g_iload4 (pc := 108) dX10_findFar_108 ?_
        refine g_bipush (pc := 110) (8) dX10_findFar_110 (by decide) ?_
        refine g_idiv (pc := 112) dX10_findFar_112 (by decide) ?_
        refine g_iload6 (pc := 113) dX10_findFar_113 ?_
        first | refine g_aload0 (pc := 115) dX10_findFar_115 ?_ | refine g_aloadN0 (pc := 115) dX10_findFar_115 ?_
        refine g_getR (pc := 116) (j := 18) cf10 dX10_findFar_116 fl_RX10_34 (by decide) (by decide) (by first | rfl | assumption) (88) (rfl) ?_
        refine g_iload4 (pc := 119) dX10_findFar_119 ?_
        refine g_bipush (pc := 121) (8) dX10_findFar_121 (by decide) ?_
        refine g_idiv (pc := 123) dX10_findFar_123 (by decide) ?_
        refine g_ialdX (pc := 124) (i / 8) dX10_findFar_124 (rfl) (pk_div (d := 8) (by omega) (by decide) (by decide)) (by have := ln_all; omega) (by decide) ?_
        refine g_icmp_ge (pc := 125) 133 dX10_findFar_125 (by decide) (fun zh125 => ?_) (fun zh125 => ?_)
        · skip
          first | refine g_aload0 (pc := 133) dX10_findFar_133 ?_ | refine g_aloadN0 (pc := 133) dX10_findFar_133 ?_
          refine g_getR (pc := 134) (j := 18) cf10 dX10_findFar_134 fl_RX10_34 (by decide) (by decide) (by first | rfl | assumption) (88) (rfl) ?_
          refine g_iload4 (pc := 137) dX10_findFar_137 ?_
          refine g_bipush (pc := 139) (8) dX10_findFar_139 (by decide) ?_
          refine g_idiv (pc := 141) dX10_findFar_141 (by decide) ?_
          refine g_ialdX (pc := 142) (i / 8) dX10_findFar_142 (rfl) (pk_div (d := 8) (by omega) (by decide) (by decide)) (by have := ln_all; omega) (by decide) ?_
          refine g_iastX (pc := 143) (i / 8) dX10_findFar_143 (rfl) (pk_div (d := 8) (by omega) (by decide) (by decide)) (by have := ln_all; omega) (by decide) ?_
          refine g_iinc4 (pc := 144) (nI (i + 1)) dX10_findFar_144 (nI_succ' i) (by decide) (by first | rfl | assumption) ?_
          refine g_goto (pc := 147) 42 dX10_findFar_147 (by decide) ?_
          first
            | (have ee : rlm p i w = upd2 w 88 (i / 8) (wyF w p i) := by unfold rlm; rw [if_pos (i32nle.mp zh125)]
               rw [ee] at hn; exact hn _ _ rfl)
            | (have ee : rlm p i w = upd2 w 88 (i / 8) (w 88 (i / 8)) := by unfold rlm; rw [if_neg (i32nlt.mpr zh125)]
               rw [ee] at hn; exact hn _ _ rfl)
        · skip
          refine g_iload6 (pc := 128) dX10_findFar_128 ?_
          refine g_goto (pc := 130) 143 dX10_findFar_130 (by decide) ?_
          refine g_iastX (pc := 143) (i / 8) dX10_findFar_143 (rfl) (pk_div (d := 8) (by omega) (by decide) (by decide)) (by have := ln_all; omega) (by decide) ?_
          refine g_iinc4 (pc := 144) (nI (i + 1)) dX10_findFar_144 (nI_succ' i) (by decide) (by first | rfl | assumption) ?_
          refine g_goto (pc := 147) 42 dX10_findFar_147 (by decide) ?_
          first
            | (have ee : rlm p i w = upd2 w 88 (i / 8) (wyF w p i) := by unfold rlm; rw [if_pos (i32nle.mp zh125)]
               rw [ee] at hn; exact hn _ _ rfl)
            | (have ee : rlm p i w = upd2 w 88 (i / 8) (w 88 (i / 8)) := by unfold rlm; rw [if_neg (i32nlt.mpr zh125)]
               rw [ee] at hn; exact hn _ _ rfl)
theorem lp_X10_findFar_r {p : Nat} {g : Int32} {w0 : Mm} {L : Lm} {Q : Qt} (hp4 : p < 4) (hI0 : (fun (_ : Nat) (_ : Mm) => True) 0 w0) (hq : Q none (itr (fun _ w => itr (rlm p) 200 w) 25 w0) L) : (fun (i : Nat) (w : Mm) => ∀ (o4 o5 o6 : Option Value) (_ : okp o5 = true), G RX10 cX10_findFar 7 none 2 Q 33 [some (.ref 79), some (.int (nI p)), some (.int g), some (.int (nI i)), o4, o5, o6] [] w L) 0 w0 := by
  refine g_for 25 (fun _ w => itr (rlm p) 200 w) (fun (_ : Nat) (_ : Mm) => True) (fun (i : Nat) (w : Mm) => ∀ (o4 o5 o6 : Option Value) (_ : okp o5 = true), G RX10 cX10_findFar 7 none 2 Q 33 [some (.ref 79), some (.int (nI p)), some (.int g), some (.int (nI i)), o4, o5, o6] [] w L) w0 hI0 ?_ (fun hI => ?_) (fun i w hi hI hn => ?_)
  · exact fun _ _ _ h => h
  · intro o4 o5 o6 ho5
    show G _ _ _ _ _ _ _ _ _ _ _
    try dsimp only at hI
    refine g_iload3 (pc := 33) dX10_findFar_33 ?_
    refine g_bipush (pc := 34) (25) dX10_findFar_34 (by decide) ?_
    refine g_icmp_ge (pc := 36) 156 dX10_findFar_36 (by decide) (fun zh36 => ?_) (fun zh36 => ?_)
    · skip
      refine g_vret (pc := 156) dX10_findFar_156 rfl ?_
      exact hq
    · skip
      exact absurd (Int32.le_refl _) zh36
  · intro o4 o5 o6 ho5
    show G _ _ _ _ _ _ _ _ _ _ _
    try dsimp only at hI
    try dsimp only at hn
    refine g_iload3 (pc := 33) dX10_findFar_33 ?_
    refine g_bipush (pc := 34) (25) dX10_findFar_34 (by decide) ?_
    refine g_icmp_ge (pc := 36) 156 dX10_findFar_36 (by decide) (fun zh36 => ?_) (fun zh36 => ?_)
    · skip
      exact absurd zh36 (nI_ge (b := 25) hi (by decide))
    · skip
      refine g_iconst (pc := 39) (0) dX10_findFar_39 (by decide) ?_
      refine g_istore4 (pc := 40) dX10_findFar_40 (by decide) (by first | rfl | assumption) ?_
      refine lp_X10_findFar_k hp4 trivial (fun zo5 zo6 zho => ?_) o5 o6 ho5
      refine g_iinc3 (pc := 150) (nI (i + 1)) dX10_findFar_150 (nI_succ' i) (by decide) rfl ?_
      refine g_goto (pc := 153) 33 dX10_findFar_153 (by decide) ?_
      exact hn _ _ _ zho
theorem c_X10_findFar {p : Nat} {g : Int32} {v : Mm} {L : Lm} (hp4 : p < 4) : Fn yX10_findFar cX10_findFar 7 none 2 [.ref 79, .int (nI p), .int g] v L none (ffM v p g) L := by
  refine Fq.of (plainFor_of_name (by decide)) [some (.ref 79), some (.int (nI p)), some (.int g), none, none, none, none] rfl (Nat.le_of_ble_eq_true rfl) ?_
  refine g_iconst (pc := 0) (0) dX10_findFar_0 (by decide) ?_
  refine g_istore3 (pc := 1) dX10_findFar_1 (by decide) (by first | rfl | assumption) ?_
  refine lp_X10_findFar_i trivial ?_
  refine g_iconst (pc := 31) 0 dX10_findFar_31 (by decide) ?_
  refine g_istore3 (pc := 32) dX10_findFar_32 (by decide) rfl ?_
  exact lp_X10_findFar_r hp4 trivial ⟨rfl, rfl, rfl⟩ none none none rfl
theorem lp_X10_firstWay {p d : Nat} {v : Mm} {L : Lm} (hp4 : p < 4) (hd25 : d < 25) : ∀ (m : Nat) (i : Nat) (o4 : Option Value), i + m = 8 → G RX10 cX10_firstWay 5 (some .int) 2 (fun a b c => a = some (.int (fwR v p d m i)) ∧ b = v ∧ c = L) 9 [some (.ref 79), some (.int (nI p)), some (.int (nI d)), some (.int (nI i)), o4] [] v L := by
  intro m
  induction m with
  | zero =>
    intro i o4 hi
    refine g_iload3 (pc := 9) dX10_firstWay_9 ?_
    refine g_bipush (pc := 10) (8) dX10_firstWay_10 (by decide) ?_
    refine g_icmp_ge (pc := 12) 76 dX10_firstWay_12 (by decide) (fun zh12 => ?_) (fun zh12 => ?_)
    · skip
      refine g_bipush (pc := 76) (-9) dX10_firstWay_76 (by decide) ?_
      refine g_iret (pc := 78) dX10_firstWay_78 rfl ?_
      exact ⟨rfl, rfl, rfl⟩
    · skip
      exact absurd (show (8 : Int32) ≤ nI i by rw [show i = 8 by omega]; decide) zh12
  | succ m ih =>
    intro i o4 hi
    refine g_iload3 (pc := 9) dX10_firstWay_9 ?_
    refine g_bipush (pc := 10) (8) dX10_firstWay_10 (by decide) ?_
    refine g_icmp_ge (pc := 12) 76 dX10_firstWay_12 (by decide) (fun zh12 => ?_) (fun zh12 => ?_)
    · skip
      exact absurd zh12 (nI_ge (b := 8) (by omega) (by decide))
    · skip
      first | refine g_aload0 (pc := 15) dX10_firstWay_15 ?_ | refine g_aloadN0 (pc := 15) dX10_firstWay_15 ?_
      refine g_getR (pc := 16) (j := 18) cf10 dX10_firstWay_16 fl_RX10_34 (by decide) (by decide) (by first | rfl | assumption) (88) (rfl) ?_
      refine g_iload2 (pc := 19) dX10_firstWay_19 ?_
      refine g_ialdX (pc := 20) (d) dX10_firstWay_20 (rfl) (rfl) (by have := ln_all; omega) (by decide) ?_
      refine g_if_le (pc := 21) 76 dX10_firstWay_21 (by decide) (fun zh21 => ?_) (fun zh21 => ?_)
      · skip
        refine g_bipush (pc := 76) (-9) dX10_firstWay_76 (by decide) ?_
        refine g_iret (pc := 78) dX10_firstWay_78 rfl ?_
        exact ⟨congrArg (fun zt => some (Value.int zt)) (if_neg (i32nlt.mpr zh21)).symm, rfl, rfl⟩
      · skip
        refine g_iload2 (pc := 24) dX10_firstWay_24 ?_
        refine g_iload3 (pc := 25) dX10_firstWay_25 ?_
        refine g_fS2 (pc := 26) (c_X10_nextDot) dX10_firstWay_26 cw_RX10_119 (by decide) (Nat.le_of_ble_eq_true rfl) ?_
        refine g_istore4 (pc := 29) dX10_firstWay_29 (by decide) (by first | rfl | assumption) ?_
        refine g_iload4 (pc := 31) dX10_firstWay_31 ?_
        refine g_bipush (pc := 33) (-9) dX10_firstWay_33 (by decide) ?_
        refine g_icmp_eq (pc := 35) 70 dX10_firstWay_35 (by decide) (fun zh35 => ?_) (fun zh35 => ?_)
        · skip
          refine g_iinc3 (pc := 70) (nI (i + 1)) dX10_firstWay_70 (nI_succ' i) (by decide) (by first | rfl | assumption) ?_
          refine g_goto (pc := 73) 9 dX10_firstWay_73 (by decide) ?_
          refine G.mono (ih (i + 1) _ (by omega)) (fun za zb zd zh => ⟨zh.1.trans ?_, zh.2.1, zh.2.2⟩)
          first | exact congrArg (fun zt => some (Value.int zt)) ((if_pos (i32nle.mp zh21)).trans (if_neg (fun zt => zh65 (by have z8 := zt.2; rw [zc] at z8; exact z8)))).symm | exact congrArg (fun zt => some (Value.int zt)) ((if_pos (i32nle.mp zh21)).trans (if_neg (fun zt => zt.1 zh35))).symm
        · skip
          obtain ⟨zq, hzq, ezq⟩ := nd_ok hd25 (of_d8 (show i < 8 by omega)) zh35
          have zc : (ndF (nI d) (nI i)).toNatClampNeg = zq := by rw [ezq]; exact nI_clamp (by omega)
          first | refine g_aload0 (pc := 38) dX10_firstWay_38 ?_ | refine g_aloadN0 (pc := 38) dX10_firstWay_38 ?_
          refine g_getR (pc := 39) (j := 18) cf10 dX10_firstWay_39 fl_RX10_34 (by decide) (by decide) (by first | rfl | assumption) (88) (rfl) ?_
          refine g_iload4 (pc := 42) dX10_firstWay_42 ?_
          refine g_ialdX (pc := 44) (zq) dX10_firstWay_44 (rfl) (ezq) (by have := ln_all; omega) (by decide) ?_
          refine g_sipush (pc := 45) (1000) dX10_firstWay_45 (by decide) ?_
          first | refine g_aload0 (pc := 48) dX10_firstWay_48 ?_ | refine g_aloadN0 (pc := 48) dX10_firstWay_48 ?_
          refine g_iconst (pc := 49) (0) dX10_firstWay_49 (by decide) ?_
          refine g_iload1 (pc := 50) dX10_firstWay_50 ?_
          refine g_iload3 (pc := 51) dX10_firstWay_51 ?_
          refine g_fV3 (pc := 52) (c_X10_thickOn (l := 0) (by decide) hp4) cf10 (by first | rfl | assumption) dX10_firstWay_52 cw_RX10_122 (by decide) (Nat.le_of_ble_eq_true rfl) ?_
          refine g_imul (pc := 55) dX10_firstWay_55 ?_
          refine g_iadd (pc := 56) dX10_firstWay_56 ?_
          refine g_iconst (pc := 57) (1) dX10_firstWay_57 (by decide) ?_
          refine g_iadd (pc := 58) dX10_firstWay_58 ?_
          first | refine g_aload0 (pc := 59) dX10_firstWay_59 ?_ | refine g_aloadN0 (pc := 59) dX10_firstWay_59 ?_
          refine g_getR (pc := 60) (j := 18) cf10 dX10_firstWay_60 fl_RX10_34 (by decide) (by decide) (by first | rfl | assumption) (88) (rfl) ?_
          refine g_iload2 (pc := 63) dX10_firstWay_63 ?_
          refine g_ialdX (pc := 64) (d) dX10_firstWay_64 (rfl) (rfl) (by have := ln_all; omega) (by decide) ?_
          refine g_icmp_ne (pc := 65) 70 dX10_firstWay_65 (by decide) (fun zh65 => ?_) (fun zh65 => ?_)
          · skip
            refine g_iinc3 (pc := 70) (nI (i + 1)) dX10_firstWay_70 (nI_succ' i) (by decide) (by first | rfl | assumption) ?_
            refine g_goto (pc := 73) 9 dX10_firstWay_73 (by decide) ?_
            refine G.mono (ih (i + 1) _ (by omega)) (fun za zb zd zh => ⟨zh.1.trans ?_, zh.2.1, zh.2.2⟩)
            first | exact congrArg (fun zt => some (Value.int zt)) ((if_pos (i32nle.mp zh21)).trans (if_neg (fun zt => zh65 (by have z8 := zt.2; rw [zc] at z8; exact z8)))).symm | exact congrArg (fun zt => some (Value.int zt)) ((if_pos (i32nle.mp zh21)).trans (if_neg (fun zt => zt.1 zh35))).symm
          · skip
            refine g_iload3 (pc := 68) dX10_firstWay_68 ?_
            refine g_iret (pc := 69) dX10_firstWay_69 rfl ?_
            exact ⟨congrArg (fun zt => some (Value.int zt)) ((if_pos (i32nle.mp zh21)).trans (if_pos ⟨zh35, by rw [zc]; exact zh65⟩)).symm, rfl, rfl⟩
theorem c_X10_firstWay {p d : Nat} {v : Mm} {L : Lm} (hp4 : p < 4) (hd25 : d < 25) (hd : v 82 p = nI d) : Fn yX10_firstWay cX10_firstWay 5 (some .int) 2 [.ref 79, .int (nI p)] v L (some (.int (fwR v p d 8 0))) v L := by
  refine Fq.of (plainFor_of_name (by decide)) [some (.ref 79), some (.int (nI p)), none, none, none] rfl (Nat.le_of_ble_eq_true rfl) ?_
  first | refine g_aload0 (pc := 0) dX10_firstWay_0 ?_ | refine g_aloadN0 (pc := 0) dX10_firstWay_0 ?_
  refine g_getR (pc := 1) (j := 3) cf10 dX10_firstWay_1 fl_RX10_16 (by decide) (by decide) (by first | rfl | assumption) (82) (rfl) ?_
  refine g_iload1 (pc := 4) dX10_firstWay_4 ?_
  refine g_ialdX (pc := 5) (p) dX10_firstWay_5 (rfl) (rfl) (by have := ln_all; omega) (by decide) ?_
  rw [hd]
  refine g_istore2 (pc := 6) dX10_firstWay_6 (by decide) (by first | rfl | assumption) ?_
  refine g_iconst (pc := 7) (0) dX10_firstWay_7 (by decide) ?_
  refine g_istore3 (pc := 8) dX10_firstWay_8 (by decide) (by first | rfl | assumption) ?_
  exact lp_X10_firstWay hp4 hd25 8 0 none rfl
theorem c_X10_least_u1 {n : Nat} {x y z : Int32} {v : Mm} {L : Lm} (hn : v 79 0 = nI n) (hn4 : n ≤ 4) (hx : ¬ (0 ≤ x ∧ x < nI n)) : Fn yX10_least cX10_least 4 (some .int) 3 [.ref 79, .int x, .int y, .int z] v L (some (.int (-1))) v L := by
  refine Fq.of (plainFor_of_name (by decide)) [some (.ref 79), some (.int x), some (.int y), some (.int z)] rfl (Nat.le_of_ble_eq_true rfl) ?_
  first | refine g_aload0 (pc := 0) dX10_least_0 ?_ | refine g_aloadN0 (pc := 0) dX10_least_0 ?_
  refine g_iload1 (pc := 1) dX10_least_1 ?_
  refine g_fV1 (pc := 2) (c_X10_isPen hn hn4) cf10 (by first | rfl | assumption) dX10_least_2 cw_RX10_115 (by decide) (Nat.le_of_ble_eq_true rfl) ?_
  refine g_if_eq (pc := 5) 20 dX10_least_5 (by decide) (fun zh5 => ?_) (fun zh5 => ?_)
  · skip
    refine g_iconst (pc := 20) (-1) dX10_least_20 (by decide) ?_
    refine g_iret (pc := 21) dX10_least_21 rfl ?_
    exact ⟨rfl, rfl, rfl⟩
  · skip
    exact absurd (b01_ne0.mp zh5) hx
theorem c_X10_least_u2 {n p : Nat} {y z : Int32} {v : Mm} {L : Lm} (hn : v 79 0 = nI n) (hn4 : n ≤ 4) (hp : p < n) (hy : ¬ (0 ≤ y ∧ y < 25)) : Fn yX10_least cX10_least 4 (some .int) 3 [.ref 79, .int (nI p), .int y, .int z] v L (some (.int (-1))) v L := by
  have zi24 : ∀ zx : Int32, ((0 : Int64) ≤ zx.toInt64 ∧ zx.toInt64 ≤ 24) ↔ (0 ≤ zx ∧ zx ≤ 24) := fun zx => inI (y := zx) (by decide) (by decide)
  have zi2 : ∀ zx : Int32, ((0 : Int64) ≤ zx.toInt64 ∧ zx.toInt64 ≤ 2) ↔ (0 ≤ zx ∧ zx ≤ 2) := fun zx => inI (y := zx) (by decide) (by decide)
  refine Fq.of (plainFor_of_name (by decide)) [some (.ref 79), some (.int (nI p)), some (.int y), some (.int z)] rfl (Nat.le_of_ble_eq_true rfl) ?_
  first | refine g_aload0 (pc := 0) dX10_least_0 ?_ | refine g_aloadN0 (pc := 0) dX10_least_0 ?_
  refine g_iload1 (pc := 1) dX10_least_1 ?_
  refine g_fV1 (pc := 2) (c_X10_isPen hn hn4) cf10 (by first | rfl | assumption) dX10_least_2 cw_RX10_115 (by decide) (Nat.le_of_ble_eq_true rfl) ?_
  refine g_if_eq (pc := 5) 20 dX10_least_5 (by decide) (fun zh5 => ?_) (fun zh5 => ?_)
  · skip
    exact absurd ⟨nI_pos' (by omega), nI_lt hp (by omega)⟩ (b01_eq0.mp zh5)
  · skip
    refine g_iload2 (pc := 8) dX10_least_8 ?_
    refine g_i2l (pc := 9) dX10_least_9 ?_
    refine g_lconst (pc := 10) (0) dX10_least_10 (by decide) ?_
    refine g_ldc2 (pc := 11) _ dX10_least_11 kc_RX10_153 ?_
    refine g_fS3 (pc := 14) (c_X10_in) dX10_least_14 cw_RX10_52 (by decide) (Nat.le_of_ble_eq_true rfl) ?_
    refine g_if_ne (pc := 17) 22 dX10_least_17 (by decide) (fun zh17 => ?_) (fun zh17 => ?_)
    · skip
      exact absurd ((zi24 _).mp (b01_ne0.mp zh17)) (fun zq => hy ⟨zq.1, le24.mp zq.2⟩)
    · skip
      refine g_iconst (pc := 20) (-1) dX10_least_20 (by decide) ?_
      refine g_iret (pc := 21) dX10_least_21 rfl ?_
      exact ⟨rfl, rfl, rfl⟩
theorem c_X10_least_o {n p q : Nat} {z : Int32} {v : Mm} {L : Lm} (hn : v 79 0 = nI n) (hn4 : n ≤ 4) (hp : p < n) (hq : q < 25) (hz : ¬ (0 ≤ z ∧ z ≤ 2)) : Fn yX10_least cX10_least 4 (some .int) 3 [.ref 79, .int (nI p), .int (nI q), .int z] v L (some (.int (-2))) v L := by
  have zi24 : ∀ zx : Int32, ((0 : Int64) ≤ zx.toInt64 ∧ zx.toInt64 ≤ 24) ↔ (0 ≤ zx ∧ zx ≤ 24) := fun zx => inI (y := zx) (by decide) (by decide)
  have zi2 : ∀ zx : Int32, ((0 : Int64) ≤ zx.toInt64 ∧ zx.toInt64 ≤ 2) ↔ (0 ≤ zx ∧ zx ≤ 2) := fun zx => inI (y := zx) (by decide) (by decide)
  refine Fq.of (plainFor_of_name (by decide)) [some (.ref 79), some (.int (nI p)), some (.int (nI q)), some (.int z)] rfl (Nat.le_of_ble_eq_true rfl) ?_
  first | refine g_aload0 (pc := 0) dX10_least_0 ?_ | refine g_aloadN0 (pc := 0) dX10_least_0 ?_
  refine g_iload1 (pc := 1) dX10_least_1 ?_
  refine g_fV1 (pc := 2) (c_X10_isPen hn hn4) cf10 (by first | rfl | assumption) dX10_least_2 cw_RX10_115 (by decide) (Nat.le_of_ble_eq_true rfl) ?_
  refine g_if_eq (pc := 5) 20 dX10_least_5 (by decide) (fun zh5 => ?_) (fun zh5 => ?_)
  · skip
    exact absurd ⟨nI_pos' (by omega), nI_lt hp (by omega)⟩ (b01_eq0.mp zh5)
  · skip
    refine g_iload2 (pc := 8) dX10_least_8 ?_
    refine g_i2l (pc := 9) dX10_least_9 ?_
    refine g_lconst (pc := 10) (0) dX10_least_10 (by decide) ?_
    refine g_ldc2 (pc := 11) _ dX10_least_11 kc_RX10_153 ?_
    refine g_fS3 (pc := 14) (c_X10_in) dX10_least_14 cw_RX10_52 (by decide) (Nat.le_of_ble_eq_true rfl) ?_
    refine g_if_ne (pc := 17) 22 dX10_least_17 (by decide) (fun zh17 => ?_) (fun zh17 => ?_)
    · skip
      refine g_iload3 (pc := 22) dX10_least_22 ?_
      refine g_i2l (pc := 23) dX10_least_23 ?_
      refine g_lconst (pc := 24) (0) dX10_least_24 (by decide) ?_
      refine g_ldc2 (pc := 25) _ dX10_least_25 kc_RX10_165 ?_
      refine g_fS3 (pc := 28) (c_X10_in) dX10_least_28 cw_RX10_52 (by decide) (Nat.le_of_ble_eq_true rfl) ?_
      refine g_if_ne (pc := 31) 37 dX10_least_31 (by decide) (fun zh31 => ?_) (fun zh31 => ?_)
      · skip
        exact absurd ((zi2 _).mp (b01_ne0.mp zh31)) hz
      · skip
        refine g_bipush (pc := 34) (-2) dX10_least_34 (by decide) ?_
        refine g_iret (pc := 36) dX10_least_36 rfl ?_
        exact ⟨rfl, rfl, rfl⟩
    · skip
      exact absurd ((zi24 _).mpr ⟨nI_pos' (by omega), nI_le (b := 24) (by omega) (by decide)⟩) (b01_eq0.mp zh17)
theorem c_X10_least_s {n p q d : Nat} {z : Int32} {v : Mm} {L : Lm} (hn : v 79 0 = nI n) (hn4 : n ≤ 4) (hp : p < n) (hq : q < 25) (hz : 0 ≤ z ∧ z ≤ 2) (hd25 : d < 25) (hd : v 82 p = nI d) : Fn yX10_least cX10_least 4 (some .int) 3 [.ref 79, .int (nI p), .int (nI q), .int z] v L (some (.int (if z = 0 then (ffM v p (nI q)) 88 d / 1000 else if z = 1 then rem32 ((ffM v p (nI q)) 88 d) 1000 else fwR (ffM v p (nI q)) p d 8 0))) (ffM v p (nI q)) L := by
  have zi24 : ∀ zx : Int32, ((0 : Int64) ≤ zx.toInt64 ∧ zx.toInt64 ≤ 24) ↔ (0 ≤ zx ∧ zx ≤ 24) := fun zx => inI (y := zx) (by decide) (by decide)
  have zi2 : ∀ zx : Int32, ((0 : Int64) ≤ zx.toInt64 ∧ zx.toInt64 ≤ 2) ↔ (0 ≤ zx ∧ zx ≤ 2) := fun zx => inI (y := zx) (by decide) (by decide)
  have hd2 : (ffM v p (nI q)) 82 p = nI d := by rw [ffM_away (by decide)]; exact hd
  refine Fq.of (plainFor_of_name (by decide)) [some (.ref 79), some (.int (nI p)), some (.int (nI q)), some (.int z)] rfl (Nat.le_of_ble_eq_true rfl) ?_
  first | refine g_aload0 (pc := 0) dX10_least_0 ?_ | refine g_aloadN0 (pc := 0) dX10_least_0 ?_
  refine g_iload1 (pc := 1) dX10_least_1 ?_
  refine g_fV1 (pc := 2) (c_X10_isPen hn hn4) cf10 (by first | rfl | assumption) dX10_least_2 cw_RX10_115 (by decide) (Nat.le_of_ble_eq_true rfl) ?_
  refine g_if_eq (pc := 5) 20 dX10_least_5 (by decide) (fun zh5 => ?_) (fun zh5 => ?_)
  · skip
    exact absurd ⟨nI_pos' (by omega), nI_lt hp (by omega)⟩ (b01_eq0.mp zh5)
  · skip
    refine g_iload2 (pc := 8) dX10_least_8 ?_
    refine g_i2l (pc := 9) dX10_least_9 ?_
    refine g_lconst (pc := 10) (0) dX10_least_10 (by decide) ?_
    refine g_ldc2 (pc := 11) _ dX10_least_11 kc_RX10_153 ?_
    refine g_fS3 (pc := 14) (c_X10_in) dX10_least_14 cw_RX10_52 (by decide) (Nat.le_of_ble_eq_true rfl) ?_
    refine g_if_ne (pc := 17) 22 dX10_least_17 (by decide) (fun zh17 => ?_) (fun zh17 => ?_)
    · skip
      refine g_iload3 (pc := 22) dX10_least_22 ?_
      refine g_i2l (pc := 23) dX10_least_23 ?_
      refine g_lconst (pc := 24) (0) dX10_least_24 (by decide) ?_
      refine g_ldc2 (pc := 25) _ dX10_least_25 kc_RX10_165 ?_
      refine g_fS3 (pc := 28) (c_X10_in) dX10_least_28 cw_RX10_52 (by decide) (Nat.le_of_ble_eq_true rfl) ?_
      refine g_if_ne (pc := 31) 37 dX10_least_31 (by decide) (fun zh31 => ?_) (fun zh31 => ?_)
      · skip
        first | refine g_aload0 (pc := 37) dX10_least_37 ?_ | refine g_aloadN0 (pc := 37) dX10_least_37 ?_
        refine g_iload1 (pc := 38) dX10_least_38 ?_
        refine g_iload2 (pc := 39) dX10_least_39 ?_
        refine g_vV2 (pc := 40) (c_X10_findFar (by omega)) cf10 (by first | rfl | assumption) dX10_least_40 cw_RX10_168 (by decide) (Nat.le_of_ble_eq_true rfl) ?_
        refine g_iload3 (pc := 43) dX10_least_43 ?_
        refine g_if_ne (pc := 44) 65 dX10_least_44 (by decide) (fun zh44 => ?_) (fun zh44 => ?_)
        · skip
          refine g_iload3 (pc := 65) dX10_least_65 ?_
          refine g_iconst (pc := 66) (1) dX10_least_66 (by decide) ?_
          refine g_icmp_ne (pc := 67) 88 dX10_least_67 (by decide) (fun zh67 => ?_) (fun zh67 => ?_)
          · skip
            first | refine g_aload0 (pc := 88) dX10_least_88 ?_ | refine g_aloadN0 (pc := 88) dX10_least_88 ?_
            refine g_iload1 (pc := 89) dX10_least_89 ?_
            refine g_fV1 (pc := 90) (c_X10_firstWay (by omega) hd25 hd2) cf10 (by first | rfl | assumption) dX10_least_90 cw_RX10_171 (by decide) (Nat.le_of_ble_eq_true rfl) ?_
            refine g_iret (pc := 93) dX10_least_93 rfl ?_
            first | (rw [if_pos zh44]; exact ⟨rfl, rfl, rfl⟩) | (rw [if_neg zh44, if_pos zh67]; exact ⟨rfl, rfl, rfl⟩) | (rw [if_neg zh44, if_neg zh67]; exact ⟨rfl, rfl, rfl⟩)
          · skip
            first | refine g_aload0 (pc := 70) dX10_least_70 ?_ | refine g_aloadN0 (pc := 70) dX10_least_70 ?_
            refine g_getR (pc := 71) (j := 18) cf10 dX10_least_71 fl_RX10_34 (by decide) (by decide) (by first | rfl | assumption) (88) (rfl) ?_
            first | refine g_aload0 (pc := 74) dX10_least_74 ?_ | refine g_aloadN0 (pc := 74) dX10_least_74 ?_
            refine g_getR (pc := 75) (j := 3) cf10 dX10_least_75 fl_RX10_16 (by decide) (by decide) (by first | rfl | assumption) (82) (rfl) ?_
            refine g_iload1 (pc := 78) dX10_least_78 ?_
            refine g_ialdX (pc := 79) (p) dX10_least_79 (rfl) (rfl) (by have := ln_all; omega) (by decide) ?_
            refine g_ialdX (pc := 80) (d) dX10_least_80 (rfl) (hd2) (by have := ln_all; omega) (by decide) ?_
            refine g_sipush (pc := 81) (1000) dX10_least_81 (by decide) ?_
            refine g_irem (pc := 84) dX10_least_84 (by decide) ?_
            refine g_goto (pc := 85) 93 dX10_least_85 (by decide) ?_
            refine g_iret (pc := 93) dX10_least_93 rfl ?_
            first | (rw [if_pos zh44]; exact ⟨rfl, rfl, rfl⟩) | (rw [if_neg zh44, if_pos zh67]; exact ⟨rfl, rfl, rfl⟩) | (rw [if_neg zh44, if_neg zh67]; exact ⟨rfl, rfl, rfl⟩)
        · skip
          first | refine g_aload0 (pc := 47) dX10_least_47 ?_ | refine g_aloadN0 (pc := 47) dX10_least_47 ?_
          refine g_getR (pc := 48) (j := 18) cf10 dX10_least_48 fl_RX10_34 (by decide) (by decide) (by first | rfl | assumption) (88) (rfl) ?_
          first | refine g_aload0 (pc := 51) dX10_least_51 ?_ | refine g_aloadN0 (pc := 51) dX10_least_51 ?_
          refine g_getR (pc := 52) (j := 3) cf10 dX10_least_52 fl_RX10_16 (by decide) (by decide) (by first | rfl | assumption) (82) (rfl) ?_
          refine g_iload1 (pc := 55) dX10_least_55 ?_
          refine g_ialdX (pc := 56) (p) dX10_least_56 (rfl) (rfl) (by have := ln_all; omega) (by decide) ?_
          refine g_ialdX (pc := 57) (d) dX10_least_57 (rfl) (hd2) (by have := ln_all; omega) (by decide) ?_
          refine g_sipush (pc := 58) (1000) dX10_least_58 (by decide) ?_
          refine g_idiv (pc := 61) dX10_least_61 (by decide) ?_
          refine g_goto (pc := 62) 93 dX10_least_62 (by decide) ?_
          refine g_iret (pc := 93) dX10_least_93 rfl ?_
          first | (rw [if_pos zh44]; exact ⟨rfl, rfl, rfl⟩) | (rw [if_neg zh44, if_pos zh67]; exact ⟨rfl, rfl, rfl⟩) | (rw [if_neg zh44, if_neg zh67]; exact ⟨rfl, rfl, rfl⟩)
      · skip
        exact absurd ((zi2 _).mpr hz) (b01_eq0.mp zh31)
    · skip
      exact absurd ((zi24 _).mpr ⟨nI_pos' (by omega), nI_le (b := 24) (by omega) (by decide)⟩) (b01_eq0.mp zh17)
