theorem lp_X10_judge {n w c : Nat} {y : Int64} {L : Lm} (hc4 : c ≤ 4) : ∀ (m : Nat) (i : Nat) (v : Mm) (o5 : Option Value), i + m = c → MSt v n w → G RX10 cX10_judge 6 (some .int) 6 (fun a b K => a = some (.int (jmF n w y c m i v).1) ∧ b = (jmF n w y c m i v).2 ∧ K = L) 36 [some (.ref 79), some (.int (nI c)), some (.long y), none, some (.int (nI i)), o5] [] v L := by
  intro m
  induction m with
  | zero =>
    intro i v o5 hi hM
    refine g_iload4 (pc := 36) dX10_judge_36 ?_
    refine g_iload1 (pc := 38) dX10_judge_38 ?_
    refine g_icmp_ge (pc := 39) 94 dX10_judge_39 (by decide) (fun zh39 => ?_) (fun zh39 => ?_)
    · skip
      refine g_bipush (pc := 94) (-9) dX10_judge_94 (by decide) ?_
      refine g_iret (pc := 96) dX10_judge_96 rfl ?_
      exact ⟨rfl, rfl, rfl⟩
    · skip
      exact absurd (nI_le (by omega) (by omega)) zh39
  | succ m ih =>
    intro i v o5 hi hM
    refine g_iload4 (pc := 36) dX10_judge_36 ?_
    refine g_iload1 (pc := 38) dX10_judge_38 ?_
    refine g_icmp_ge (pc := 39) 94 dX10_judge_39 (by decide) (fun zh39 => ?_) (fun zh39 => ?_)
    · skip
      exact absurd zh39 (nI_ge (by omega) (by omega))
    · skip
      refine g_lload2 (pc := 42) dX10_judge_42 ?_
      refine g_iload1 (pc := 43) dX10_judge_43 ?_
      refine g_iconst (pc := 44) (1) dX10_judge_44 (by decide) ?_
      refine g_isub (pc := 45) dX10_judge_45 ?_
      refine g_iload4 (pc := 46) dX10_judge_46 ?_
      refine g_isub (pc := 48) dX10_judge_48 ?_
      rw [show nI c - 1 - nI i = nI (c - 1 - i) from by rw [show (1 : Int32) = nI 1 from rfl, pk_sub (by omega), pk_sub (by omega)]]
      refine g_fS1 (pc := 49) (c_X10_thousandTo (by omega)) dX10_judge_49 cw_RX10_180 (by decide) (Nat.le_of_ble_eq_true rfl) ?_
      refine g_ldiv (pc := 52) dX10_judge_52 (t10_ne _ (by omega)) ?_
      refine g_ldc2 (pc := 53) _ dX10_judge_53 kc_RX10_183 ?_
      refine g_lrem (pc := 56) dX10_judge_56 (by decide) ?_
      refine g_l2i (pc := 57) dX10_judge_57 ?_
      refine g_istore5 (pc := 58) dX10_judge_58 (by decide) (by first | rfl | assumption) ?_
      first | refine g_aload0 (pc := 60) dX10_judge_60 ?_ | refine g_aloadN0 (pc := 60) dX10_judge_60 ?_
      refine g_iload5 (pc := 61) dX10_judge_61 ?_
      refine g_bipush (pc := 63) (100) dX10_judge_63 (by decide) ?_
      refine g_idiv (pc := 65) dX10_judge_65 (by decide) ?_
      refine g_iload5 (pc := 66) dX10_judge_66 ?_
      refine g_bipush (pc := 68) (10) dX10_judge_68 (by decide) ?_
      refine g_idiv (pc := 70) dX10_judge_70 (by decide) ?_
      refine g_bipush (pc := 71) (10) dX10_judge_71 (by decide) ?_
      refine g_irem (pc := 73) dX10_judge_73 (by decide) ?_
      refine g_iload5 (pc := 74) dX10_judge_74 ?_
      refine g_bipush (pc := 76) (10) dX10_judge_76 (by decide) ?_
      refine g_irem (pc := 78) dX10_judge_78 (by decide) ?_
      refine g_fV3 (pc := 79) (c_tryThing hM) cf10 (by first | rfl | assumption) dX10_judge_79 cw_RX10_185 (by decide) (Nat.le_of_ble_eq_true rfl) ?_
      refine g_if_ne (pc := 82) 88 dX10_judge_82 (by decide) (fun zh82 => ?_) (fun zh82 => ?_)
      · skip
        refine g_iinc4 (pc := 88) (nI (i + 1)) dX10_judge_88 (nI_succ' i) (by decide) (by first | rfl | assumption) ?_
        refine g_goto (pc := 91) 36 dX10_judge_91 (by decide) ?_
        have ee : jmF n w y c (m + 1) i v = jmF n w y c m (i + 1) (ttF v n w (t3 y c i / 100) (rem32 (t3 y c i / 10) 10) (rem32 (t3 y c i) 10)).2 := if_neg zh82
        rw [ee]
        exact ih (i + 1) _ _ (by omega) hM.tt
      · skip
        refine g_iload4 (pc := 85) dX10_judge_85 ?_
        refine g_iret (pc := 87) dX10_judge_87 rfl ?_
        have ee : jmF n w y c (m + 1) i v = (nI i, (ttF v n w (t3 y c i / 100) (rem32 (t3 y c i / 10) 10) (rem32 (t3 y c i) 10)).2) := if_pos zh82
        rw [ee]; exact ⟨rfl, rfl, rfl⟩
theorem c_X10_judge_o1 {x : Int32} {y : Int64} {v : Mm} {L : Lm} (hx : ¬ (1 ≤ x ∧ x ≤ 4)) : Fn yX10_judge cX10_judge 6 (some .int) 6 [.ref 79, .int x, .long y] v L (some (.int (-2))) v L := by
  have zi : ∀ zx : Int32, ((1 : Int64) ≤ zx.toInt64 ∧ zx.toInt64 ≤ 4) ↔ (1 ≤ zx ∧ zx ≤ 4) := fun zx => inI (y := zx) (by decide) (by decide)
  refine Fq.of (plainFor_of_name (by decide)) [some (.ref 79), some (.int x), some (.long y), none, none, none] rfl (Nat.le_of_ble_eq_true rfl) ?_
  refine g_iload1 (pc := 0) dX10_judge_0 ?_
  refine g_i2l (pc := 1) dX10_judge_1 ?_
  refine g_lconst (pc := 2) (1) dX10_judge_2 (by decide) ?_
  refine g_ldc2 (pc := 3) _ dX10_judge_3 kc_RX10_110 ?_
  refine g_fS3 (pc := 6) (c_X10_in) dX10_judge_6 cw_RX10_52 (by decide) (Nat.le_of_ble_eq_true rfl) ?_
  refine g_if_eq (pc := 9) 26 dX10_judge_9 (by decide) (fun zh9 => ?_) (fun zh9 => ?_)
  · skip
    refine g_bipush (pc := 26) (-2) dX10_judge_26 (by decide) ?_
    refine g_iret (pc := 28) dX10_judge_28 rfl ?_
    exact ⟨rfl, rfl, rfl⟩
  · skip
    exact absurd ((zi _).mp (b01_ne0.mp zh9)) hx
theorem c_X10_judge_o2 {c : Nat} {y : Int64} {v : Mm} {L : Lm} (hc1 : 1 ≤ c) (hc4 : c ≤ 4) (hy : ¬ (0 ≤ y ∧ y ≤ t10 (3 * c) - 1)) : Fn yX10_judge cX10_judge 6 (some .int) 6 [.ref 79, .int (nI c), .long y] v L (some (.int (-2))) v L := by
  have zi : ∀ zx : Int32, ((1 : Int64) ≤ zx.toInt64 ∧ zx.toInt64 ≤ 4) ↔ (1 ≤ zx ∧ zx ≤ 4) := fun zx => inI (y := zx) (by decide) (by decide)
  refine Fq.of (plainFor_of_name (by decide)) [some (.ref 79), some (.int (nI c)), some (.long y), none, none, none] rfl (Nat.le_of_ble_eq_true rfl) ?_
  refine g_iload1 (pc := 0) dX10_judge_0 ?_
  refine g_i2l (pc := 1) dX10_judge_1 ?_
  refine g_lconst (pc := 2) (1) dX10_judge_2 (by decide) ?_
  refine g_ldc2 (pc := 3) _ dX10_judge_3 kc_RX10_110 ?_
  refine g_fS3 (pc := 6) (c_X10_in) dX10_judge_6 cw_RX10_52 (by decide) (Nat.le_of_ble_eq_true rfl) ?_
  refine g_if_eq (pc := 9) 26 dX10_judge_9 (by decide) (fun zh9 => ?_) (fun zh9 => ?_)
  · skip
    refine g_bipush (pc := 26) (-2) dX10_judge_26 (by decide) ?_
    refine g_iret (pc := 28) dX10_judge_28 rfl ?_
    exact ⟨rfl, rfl, rfl⟩
  · skip
    refine g_lload2 (pc := 12) dX10_judge_12 ?_
    refine g_lconst (pc := 13) (0) dX10_judge_13 (by decide) ?_
    refine g_iload1 (pc := 14) dX10_judge_14 ?_
    refine g_fS1 (pc := 15) (c_X10_thousandTo (by omega)) dX10_judge_15 cw_RX10_180 (by decide) (Nat.le_of_ble_eq_true rfl) ?_
    refine g_lconst (pc := 18) (1) dX10_judge_18 (by decide) ?_
    refine g_lsub (pc := 19) dX10_judge_19 ?_
    refine g_fS3 (pc := 20) (c_X10_in) dX10_judge_20 cw_RX10_52 (by decide) (Nat.le_of_ble_eq_true rfl) ?_
    refine g_if_ne (pc := 23) 29 dX10_judge_23 (by decide) (fun zh23 => ?_) (fun zh23 => ?_)
    · skip
      exact absurd (b01_ne0.mp zh23) hy
    · skip
      refine g_bipush (pc := 26) (-2) dX10_judge_26 (by decide) ?_
      refine g_iret (pc := 28) dX10_judge_28 rfl ?_
      exact ⟨rfl, rfl, rfl⟩
theorem c_X10_judge_s {n w c : Nat} {y : Int64} {v : Mm} {L : Lm} (hc1 : 1 ≤ c) (hc4 : c ≤ 4) (hy : 0 ≤ y ∧ y ≤ t10 (3 * c) - 1) (hn4 : n ≤ 4) (hn : v 79 0 = nI n) (hw : v 79 12 = nI w) (hw8 : w ≤ 8) (hd : ∀ p, p < n → DotOk v 0 p) : Fn yX10_judge cX10_judge 6 (some .int) 6 [.ref 79, .int (nI c), .long y] v L (some (.int (jmF n w y c c 0 (ltV v)).1)) (jmF n w y c c 0 (ltV v)).2 L := by
  have zi : ∀ zx : Int32, ((1 : Int64) ≤ zx.toInt64 ∧ zx.toInt64 ≤ 4) ↔ (1 ≤ zx ∧ zx ≤ 4) := fun zx => inI (y := zx) (by decide) (by decide)
  refine Fq.of (plainFor_of_name (by decide)) [some (.ref 79), some (.int (nI c)), some (.long y), none, none, none] rfl (Nat.le_of_ble_eq_true rfl) ?_
  refine g_iload1 (pc := 0) dX10_judge_0 ?_
  refine g_i2l (pc := 1) dX10_judge_1 ?_
  refine g_lconst (pc := 2) (1) dX10_judge_2 (by decide) ?_
  refine g_ldc2 (pc := 3) _ dX10_judge_3 kc_RX10_110 ?_
  refine g_fS3 (pc := 6) (c_X10_in) dX10_judge_6 cw_RX10_52 (by decide) (Nat.le_of_ble_eq_true rfl) ?_
  refine g_if_eq (pc := 9) 26 dX10_judge_9 (by decide) (fun zh9 => ?_) (fun zh9 => ?_)
  · skip
    exact absurd ((zi _).mpr ⟨nI_le (a := 1) hc1 (by omega), nI_le (b := 4) hc4 (by decide)⟩) (b01_eq0.mp zh9)
  · skip
    refine g_lload2 (pc := 12) dX10_judge_12 ?_
    refine g_lconst (pc := 13) (0) dX10_judge_13 (by decide) ?_
    refine g_iload1 (pc := 14) dX10_judge_14 ?_
    refine g_fS1 (pc := 15) (c_X10_thousandTo (by omega)) dX10_judge_15 cw_RX10_180 (by decide) (Nat.le_of_ble_eq_true rfl) ?_
    refine g_lconst (pc := 18) (1) dX10_judge_18 (by decide) ?_
    refine g_lsub (pc := 19) dX10_judge_19 ?_
    refine g_fS3 (pc := 20) (c_X10_in) dX10_judge_20 cw_RX10_52 (by decide) (Nat.le_of_ble_eq_true rfl) ?_
    refine g_if_ne (pc := 23) 29 dX10_judge_23 (by decide) (fun zh23 => ?_) (fun zh23 => ?_)
    · skip
      first | refine g_aload0 (pc := 29) dX10_judge_29 ?_ | refine g_aloadN0 (pc := 29) dX10_judge_29 ?_
      refine g_vV0 (pc := 30) (c_X10_layTrial) cf10 (by first | rfl | assumption) dX10_judge_30 cw_RX10_140 (by decide) (Nat.le_of_ble_eq_true rfl) ?_
      refine g_iconst (pc := 33) (0) dX10_judge_33 (by decide) ?_
      refine g_istore4 (pc := 34) dX10_judge_34 (by decide) (by first | rfl | assumption) ?_
      exact lp_X10_judge hc4 c 0 (ltV v) none (by omega) (MSt.lt hn4 hn hw hw8 hd)
    · skip
      exact absurd hy (b01_eq0.mp zh23)
theorem lp_X10_years {n w c : Nat} (hc : c ≤ 30) : ∀ (m : Nat) (i : Nat) (t : Int32) (v : Mm) (L : Lm) (o4 : Option Value), i + m = c → MSt v n w → G RX10 cX10_years 5 (some .int) 6 (fun a b K => a = some (.int (yqF sdN sdT n w m (L 79) t v).2.1) ∧ b = (yqF sdN sdT n w m (L 79) t v).2.2 ∧ K = updl L 79 (yqF sdN sdT n w m (L 79) t v).1) 23 [some (.ref 79), some (.int (nI c)), some (.int t), some (.int (nI i)), o4] [] v L := by
  intro m
  induction m with
  | zero =>
    intro i t v L o4 hi hM
    refine g_iload3 (pc := 23) dX10_years_23 ?_
    refine g_iload1 (pc := 24) dX10_years_24 ?_
    refine g_icmp_ge (pc := 25) 181 dX10_years_25 (by decide) (fun zh25 => ?_) (fun zh25 => ?_)
    · skip
      refine g_iload2 (pc := 181) dX10_years_181 ?_
      refine g_iret (pc := 182) dX10_years_182 rfl ?_
      rw [yq_zero]
      exact ⟨rfl, rfl, (updl_same L 79).symm⟩
    · skip
      exact absurd (nI_le (by omega) (by omega)) zh25
  | succ m ih =>
    intro i t v L o4 hi hM
    refine g_iload3 (pc := 23) dX10_years_23 ?_
    refine g_iload1 (pc := 24) dX10_years_24 ?_
    refine g_icmp_ge (pc := 25) 181 dX10_years_25 (by decide) (fun zh25 => ?_) (fun zh25 => ?_)
    · skip
      exact absurd zh25 (nI_ge (by omega) (by omega))
    · skip
      first | refine g_aload0 (pc := 28) dX10_years_28 ?_ | refine g_aloadN0 (pc := 28) dX10_years_28 ?_
      first | refine g_aload0 (pc := 29) dX10_years_29 ?_ | refine g_aloadN0 (pc := 29) dX10_years_29 ?_
      refine g_getL (pc := 30) (j := 22) cf10 dX10_years_30 fl_RX10_218 (by decide) (by decide) (by first | rfl | assumption) ?_
      refine g_ldc2 (pc := 33) _ dX10_years_33 kc_RX10_224 ?_
      refine g_lmul (pc := 36) dX10_years_36 ?_
      refine g_ldc2 (pc := 37) _ dX10_years_37 kc_RX10_226 ?_
      refine g_ladd (pc := 40) dX10_years_40 ?_
      rw [sdN_eq]
      refine g_putL (pc := 41) (j := 22) cf10 dX10_years_41 fl_RX10_218 (by decide) rfl rfl (by decide) (by decide) (by first | rfl | assumption) ?_
      first | refine g_aload0 (pc := 44) dX10_years_44 ?_ | refine g_aloadN0 (pc := 44) dX10_years_44 ?_
      refine g_getL (pc := 45) (j := 22) cf10 dX10_years_45 fl_RX10_218 (by decide) (by decide) (by first | rfl | assumption) ?_
      refine g_bipush (pc := 48) (33) dX10_years_48 (by decide) ?_
      refine g_lushr (pc := 50) dX10_years_50 ?_
      refine g_ldc2 (pc := 51) _ dX10_years_51 kc_RX10_228 ?_
      refine g_lrem (pc := 54) dX10_years_54 (by decide) ?_
      refine g_l2i (pc := 55) dX10_years_55 ?_
      rw [ul_s]
      have zs := sd_eq (sdN (L 79))
      unfold sdX at zs
      rw [zs]
      have zt : sdT (sdN (L 79)) < 48 := by unfold sdT; omega
      generalize hzt : sdT (sdN (L 79)) = tq at zt ⊢
      refine g_istore4 (pc := 56) dX10_years_56 (by decide) (by first | rfl | assumption) ?_
      refine g_iload4 (pc := 58) dX10_years_58 ?_
      refine g_bipush (pc := 60) (43) dX10_years_60 (by decide) ?_
      refine g_icmp_le (pc := 62) 85 dX10_years_62 (by decide) (fun zh62 => ?_) (fun zh62 => ?_)
      · skip
        refine g_iload4 (pc := 85) dX10_years_85 ?_
        refine g_bipush (pc := 87) (39) dX10_years_87 (by decide) ?_
        refine g_icmp_le (pc := 89) 107 dX10_years_89 (by decide) (fun zh89 => ?_) (fun zh89 => ?_)
        · skip
          refine g_iload4 (pc := 107) dX10_years_107 ?_
          refine g_bipush (pc := 109) (35) dX10_years_109 (by decide) ?_
          refine g_icmp_le (pc := 111) 129 dX10_years_111 (by decide) (fun zh111 => ?_) (fun zh111 => ?_)
          · skip
            refine g_iload4 (pc := 129) dX10_years_129 ?_
            refine g_bipush (pc := 131) (31) dX10_years_131 (by decide) ?_
            refine g_icmp_le (pc := 133) 151 dX10_years_133 (by decide) (fun zh133 => ?_) (fun zh133 => ?_)
            · skip
              first | refine g_aload0 (pc := 151) dX10_years_151 ?_ | refine g_aloadN0 (pc := 151) dX10_years_151 ?_
              refine g_iconst (pc := 152) (1) dX10_years_152 (by decide) ?_
              refine g_iload4 (pc := 153) dX10_years_153 ?_
              refine g_bipush (pc := 155) (8) dX10_years_155 (by decide) ?_
              refine g_idiv (pc := 157) dX10_years_157 (by decide) ?_
              refine g_iload4 (pc := 158) dX10_years_158 ?_
              refine g_bipush (pc := 160) (8) dX10_years_160 (by decide) ?_
              refine g_irem (pc := 162) dX10_years_162 (by decide) ?_
              rw [show nI tq - nI tq / 8 * 8 = nI (tq % 8) from pk_rem (d := 8) (by omega) (by decide) (by decide), show nI tq / 8 = nI (tq / 8) from pk_div (d := 8) (by omega) (by decide) (by decide)]
              refine g_fV3 (pc := 163) (c_tryThing hM) cf10 (by first | rfl | assumption) dX10_years_163 cw_RX10_185 (by decide) (Nat.le_of_ble_eq_true rfl) ?_
              refine g_pop (pc := 166) dX10_years_166 rfl ?_
              refine g_iload2 (pc := 167) dX10_years_167 ?_
              first | refine g_aload0 (pc := 168) dX10_years_168 ?_ | refine g_aloadN0 (pc := 168) dX10_years_168 ?_
              refine g_iconst (pc := 169) (1) dX10_years_169 (by decide) ?_
              refine g_fV1 (pc := 170) (c_X10_inkOn (l := 1) (by decide)) cf10 (by first | rfl | assumption) dX10_years_170 cw_RX10_230 (by decide) (Nat.le_of_ble_eq_true rfl) ?_
              refine g_iadd (pc := 173) dX10_years_173 ?_
              refine g_istore2 (pc := 174) dX10_years_174 (by decide) (by first | rfl | assumption) ?_
              refine g_iinc3 (pc := 175) (nI (i + 1)) dX10_years_175 (nI_succ' i) (by decide) (by first | rfl | assumption) ?_
              refine g_goto (pc := 178) 23 dX10_years_178 (by decide) ?_
              have n44 : ∀ zc : Nat, zc < 48 → ¬ nI tq ≤ nI zc → zc < tq := fun zc z1 z2 => by rcases Nat.lt_or_ge zc tq with zq | zq <;> first | exact zq | exact absurd (nI_le zq (by omega)) z2
              have m44 : ∀ zc : Nat, zc < 48 → nI tq ≤ nI zc → tq ≤ zc := fun zc z1 z2 => (nI_leI (by omega) (by omega)).mp z2
              have zz := ih (i + 1) (t + ikF (ymM v n w (sdT (sdN (L 79)))) 1) (ymM v n w (sdT (sdN (L 79)))) (updl L 79 (sdN (L 79))) (some (.int (nI tq))) (by omega) hM.ym
              rw [ul_s, updl_twice, hzt] at zz
              rw [yq_succ, hzt]
              first
                | (have ee : ymM v n w tq = upd2 v 82 (61 + 6 * (tq - 44)) 0 := if_pos (n44 43 (by decide) zh62)
                   rw [ee] at zz ⊢; exact zz)
                | (have ee : ymM v n w tq = (ttF v n w 3 0 (nI (tq - 40))).2 := (if_neg (fun zq => absurd (m44 43 (by decide) zh62) (by omega))).trans (if_pos (n44 39 (by decide) zh89))
                   rw [ee] at zz ⊢; exact zz)
                | (have ee : ymM v n w tq = (ttF v n w 2 0 (nI (tq - 36))).2 := (if_neg (fun zq => absurd (m44 43 (by decide) zh62) (by omega))).trans ((if_neg (fun zq => absurd (m44 39 (by decide) zh89) (by omega))).trans (if_pos (n44 35 (by decide) zh111)))
                   rw [ee] at zz ⊢; exact zz)
                | (have ee : ymM v n w tq = (ttF v n w 4 0 (nI (tq - 32))).2 := (if_neg (fun zq => absurd (m44 43 (by decide) zh62) (by omega))).trans ((if_neg (fun zq => absurd (m44 39 (by decide) zh89) (by omega))).trans ((if_neg (fun zq => absurd (m44 35 (by decide) zh111) (by omega))).trans (if_pos (n44 31 (by decide) zh133))))
                   rw [ee] at zz ⊢; exact zz)
                | (have ee : ymM v n w tq = (ttF v n w 1 (nI (tq / 8)) (nI (tq % 8))).2 := (if_neg (fun zq => absurd (m44 43 (by decide) zh62) (by omega))).trans ((if_neg (fun zq => absurd (m44 39 (by decide) zh89) (by omega))).trans ((if_neg (fun zq => absurd (m44 35 (by decide) zh111) (by omega))).trans (if_neg (fun zq => absurd (m44 31 (by decide) zh133) (by omega)))))
                   rw [ee] at zz ⊢; exact zz)
            · skip
              first | refine g_aload0 (pc := 136) dX10_years_136 ?_ | refine g_aloadN0 (pc := 136) dX10_years_136 ?_
              refine g_iconst (pc := 137) (4) dX10_years_137 (by decide) ?_
              refine g_iconst (pc := 138) (0) dX10_years_138 (by decide) ?_
              refine g_iload4 (pc := 139) dX10_years_139 ?_
              refine g_bipush (pc := 141) (32) dX10_years_141 (by decide) ?_
              refine g_isub (pc := 143) dX10_years_143 ?_
              rw [show nI tq - 32 = nI (tq - 32) from pk_sub (b := 32) (by rcases Nat.lt_or_ge tq 32 with zq | zq <;> first | exact zq | exact absurd (nI_le (b := 31) (by omega) (by decide)) zh133)]
              refine g_fV3 (pc := 144) (c_tryThing hM) cf10 (by first | rfl | assumption) dX10_years_144 cw_RX10_185 (by decide) (Nat.le_of_ble_eq_true rfl) ?_
              refine g_pop (pc := 147) dX10_years_147 rfl ?_
              refine g_goto (pc := 148) 167 dX10_years_148 (by decide) ?_
              refine g_iload2 (pc := 167) dX10_years_167 ?_
              first | refine g_aload0 (pc := 168) dX10_years_168 ?_ | refine g_aloadN0 (pc := 168) dX10_years_168 ?_
              refine g_iconst (pc := 169) (1) dX10_years_169 (by decide) ?_
              refine g_fV1 (pc := 170) (c_X10_inkOn (l := 1) (by decide)) cf10 (by first | rfl | assumption) dX10_years_170 cw_RX10_230 (by decide) (Nat.le_of_ble_eq_true rfl) ?_
              refine g_iadd (pc := 173) dX10_years_173 ?_
              refine g_istore2 (pc := 174) dX10_years_174 (by decide) (by first | rfl | assumption) ?_
              refine g_iinc3 (pc := 175) (nI (i + 1)) dX10_years_175 (nI_succ' i) (by decide) (by first | rfl | assumption) ?_
              refine g_goto (pc := 178) 23 dX10_years_178 (by decide) ?_
              have n44 : ∀ zc : Nat, zc < 48 → ¬ nI tq ≤ nI zc → zc < tq := fun zc z1 z2 => by rcases Nat.lt_or_ge zc tq with zq | zq <;> first | exact zq | exact absurd (nI_le zq (by omega)) z2
              have m44 : ∀ zc : Nat, zc < 48 → nI tq ≤ nI zc → tq ≤ zc := fun zc z1 z2 => (nI_leI (by omega) (by omega)).mp z2
              have zz := ih (i + 1) (t + ikF (ymM v n w (sdT (sdN (L 79)))) 1) (ymM v n w (sdT (sdN (L 79)))) (updl L 79 (sdN (L 79))) (some (.int (nI tq))) (by omega) hM.ym
              rw [ul_s, updl_twice, hzt] at zz
              rw [yq_succ, hzt]
              first
                | (have ee : ymM v n w tq = upd2 v 82 (61 + 6 * (tq - 44)) 0 := if_pos (n44 43 (by decide) zh62)
                   rw [ee] at zz ⊢; exact zz)
                | (have ee : ymM v n w tq = (ttF v n w 3 0 (nI (tq - 40))).2 := (if_neg (fun zq => absurd (m44 43 (by decide) zh62) (by omega))).trans (if_pos (n44 39 (by decide) zh89))
                   rw [ee] at zz ⊢; exact zz)
                | (have ee : ymM v n w tq = (ttF v n w 2 0 (nI (tq - 36))).2 := (if_neg (fun zq => absurd (m44 43 (by decide) zh62) (by omega))).trans ((if_neg (fun zq => absurd (m44 39 (by decide) zh89) (by omega))).trans (if_pos (n44 35 (by decide) zh111)))
                   rw [ee] at zz ⊢; exact zz)
                | (have ee : ymM v n w tq = (ttF v n w 4 0 (nI (tq - 32))).2 := (if_neg (fun zq => absurd (m44 43 (by decide) zh62) (by omega))).trans ((if_neg (fun zq => absurd (m44 39 (by decide) zh89) (by omega))).trans ((if_neg (fun zq => absurd (m44 35 (by decide) zh111) (by omega))).trans (if_pos (n44 31 (by decide) zh133))))
                   rw [ee] at zz ⊢; exact zz)
                | (have ee : ymM v n w tq = (ttF v n w 1 (nI (tq / 8)) (nI (tq % 8))).2 := (if_neg (fun zq => absurd (m44 43 (by decide) zh62) (by omega))).trans ((if_neg (fun zq => absurd (m44 39 (by decide) zh89) (by omega))).trans ((if_neg (fun zq => absurd (m44 35 (by decide) zh111) (by omega))).trans (if_neg (fun zq => absurd (m44 31 (by decide) zh133) (by omega)))))
                   rw [ee] at zz ⊢; exact zz)
          · skip
            first | refine g_aload0 (pc := 114) dX10_years_114 ?_ | refine g_aloadN0 (pc := 114) dX10_years_114 ?_
            refine g_iconst (pc := 115) (2) dX10_years_115 (by decide) ?_
            refine g_iconst (pc := 116) (0) dX10_years_116 (by decide) ?_
            refine g_iload4 (pc := 117) dX10_years_117 ?_
            refine g_bipush (pc := 119) (36) dX10_years_119 (by decide) ?_
            refine g_isub (pc := 121) dX10_years_121 ?_
            rw [show nI tq - 36 = nI (tq - 36) from pk_sub (b := 36) (by rcases Nat.lt_or_ge tq 36 with zq | zq <;> first | exact zq | exact absurd (nI_le (b := 35) (by omega) (by decide)) zh111)]
            refine g_fV3 (pc := 122) (c_tryThing hM) cf10 (by first | rfl | assumption) dX10_years_122 cw_RX10_185 (by decide) (Nat.le_of_ble_eq_true rfl) ?_
            refine g_pop (pc := 125) dX10_years_125 rfl ?_
            refine g_goto (pc := 126) 167 dX10_years_126 (by decide) ?_
            refine g_iload2 (pc := 167) dX10_years_167 ?_
            first | refine g_aload0 (pc := 168) dX10_years_168 ?_ | refine g_aloadN0 (pc := 168) dX10_years_168 ?_
            refine g_iconst (pc := 169) (1) dX10_years_169 (by decide) ?_
            refine g_fV1 (pc := 170) (c_X10_inkOn (l := 1) (by decide)) cf10 (by first | rfl | assumption) dX10_years_170 cw_RX10_230 (by decide) (Nat.le_of_ble_eq_true rfl) ?_
            refine g_iadd (pc := 173) dX10_years_173 ?_
            refine g_istore2 (pc := 174) dX10_years_174 (by decide) (by first | rfl | assumption) ?_
            refine g_iinc3 (pc := 175) (nI (i + 1)) dX10_years_175 (nI_succ' i) (by decide) (by first | rfl | assumption) ?_
            refine g_goto (pc := 178) 23 dX10_years_178 (by decide) ?_
            have n44 : ∀ zc : Nat, zc < 48 → ¬ nI tq ≤ nI zc → zc < tq := fun zc z1 z2 => by rcases Nat.lt_or_ge zc tq with zq | zq <;> first | exact zq | exact absurd (nI_le zq (by omega)) z2
            have m44 : ∀ zc : Nat, zc < 48 → nI tq ≤ nI zc → tq ≤ zc := fun zc z1 z2 => (nI_leI (by omega) (by omega)).mp z2
            have zz := ih (i + 1) (t + ikF (ymM v n w (sdT (sdN (L 79)))) 1) (ymM v n w (sdT (sdN (L 79)))) (updl L 79 (sdN (L 79))) (some (.int (nI tq))) (by omega) hM.ym
            rw [ul_s, updl_twice, hzt] at zz
            rw [yq_succ, hzt]
            first
              | (have ee : ymM v n w tq = upd2 v 82 (61 + 6 * (tq - 44)) 0 := if_pos (n44 43 (by decide) zh62)
                 rw [ee] at zz ⊢; exact zz)
              | (have ee : ymM v n w tq = (ttF v n w 3 0 (nI (tq - 40))).2 := (if_neg (fun zq => absurd (m44 43 (by decide) zh62) (by omega))).trans (if_pos (n44 39 (by decide) zh89))
                 rw [ee] at zz ⊢; exact zz)
              | (have ee : ymM v n w tq = (ttF v n w 2 0 (nI (tq - 36))).2 := (if_neg (fun zq => absurd (m44 43 (by decide) zh62) (by omega))).trans ((if_neg (fun zq => absurd (m44 39 (by decide) zh89) (by omega))).trans (if_pos (n44 35 (by decide) zh111)))
                 rw [ee] at zz ⊢; exact zz)
              | (have ee : ymM v n w tq = (ttF v n w 4 0 (nI (tq - 32))).2 := (if_neg (fun zq => absurd (m44 43 (by decide) zh62) (by omega))).trans ((if_neg (fun zq => absurd (m44 39 (by decide) zh89) (by omega))).trans ((if_neg (fun zq => absurd (m44 35 (by decide) zh111) (by omega))).trans (if_pos (n44 31 (by decide) zh133))))
                 rw [ee] at zz ⊢; exact zz)
              | (have ee : ymM v n w tq = (ttF v n w 1 (nI (tq / 8)) (nI (tq % 8))).2 := (if_neg (fun zq => absurd (m44 43 (by decide) zh62) (by omega))).trans ((if_neg (fun zq => absurd (m44 39 (by decide) zh89) (by omega))).trans ((if_neg (fun zq => absurd (m44 35 (by decide) zh111) (by omega))).trans (if_neg (fun zq => absurd (m44 31 (by decide) zh133) (by omega)))))
                 rw [ee] at zz ⊢; exact zz)
        · skip
          first | refine g_aload0 (pc := 92) dX10_years_92 ?_ | refine g_aloadN0 (pc := 92) dX10_years_92 ?_
          refine g_iconst (pc := 93) (3) dX10_years_93 (by decide) ?_
          refine g_iconst (pc := 94) (0) dX10_years_94 (by decide) ?_
          refine g_iload4 (pc := 95) dX10_years_95 ?_
          refine g_bipush (pc := 97) (40) dX10_years_97 (by decide) ?_
          refine g_isub (pc := 99) dX10_years_99 ?_
          rw [show nI tq - 40 = nI (tq - 40) from pk_sub (b := 40) (by rcases Nat.lt_or_ge tq 40 with zq | zq <;> first | exact zq.elim | exact zq | exact absurd (nI_le (b := 39) (by omega) (by decide)) zh89)]
          refine g_fV3 (pc := 100) (c_tryThing hM) cf10 (by first | rfl | assumption) dX10_years_100 cw_RX10_185 (by decide) (Nat.le_of_ble_eq_true rfl) ?_
          refine g_pop (pc := 103) dX10_years_103 rfl ?_
          refine g_goto (pc := 104) 167 dX10_years_104 (by decide) ?_
          refine g_iload2 (pc := 167) dX10_years_167 ?_
          first | refine g_aload0 (pc := 168) dX10_years_168 ?_ | refine g_aloadN0 (pc := 168) dX10_years_168 ?_
          refine g_iconst (pc := 169) (1) dX10_years_169 (by decide) ?_
          refine g_fV1 (pc := 170) (c_X10_inkOn (l := 1) (by decide)) cf10 (by first | rfl | assumption) dX10_years_170 cw_RX10_230 (by decide) (Nat.le_of_ble_eq_true rfl) ?_
          refine g_iadd (pc := 173) dX10_years_173 ?_
          refine g_istore2 (pc := 174) dX10_years_174 (by decide) (by first | rfl | assumption) ?_
          refine g_iinc3 (pc := 175) (nI (i + 1)) dX10_years_175 (nI_succ' i) (by decide) (by first | rfl | assumption) ?_
          refine g_goto (pc := 178) 23 dX10_years_178 (by decide) ?_
          have n44 : ∀ zc : Nat, zc < 48 → ¬ nI tq ≤ nI zc → zc < tq := fun zc z1 z2 => by rcases Nat.lt_or_ge zc tq with zq | zq <;> first | exact zq | exact absurd (nI_le zq (by omega)) z2
          have m44 : ∀ zc : Nat, zc < 48 → nI tq ≤ nI zc → tq ≤ zc := fun zc z1 z2 => (nI_leI (by omega) (by omega)).mp z2
          have zz := ih (i + 1) (t + ikF (ymM v n w (sdT (sdN (L 79)))) 1) (ymM v n w (sdT (sdN (L 79)))) (updl L 79 (sdN (L 79))) (some (.int (nI tq))) (by omega) hM.ym
          rw [ul_s, updl_twice, hzt] at zz
          rw [yq_succ, hzt]
          first
            | (have ee : ymM v n w tq = upd2 v 82 (61 + 6 * (tq - 44)) 0 := if_pos (n44 43 (by decide) zh62)
               rw [ee] at zz ⊢; exact zz)
            | (have ee : ymM v n w tq = (ttF v n w 3 0 (nI (tq - 40))).2 := (if_neg (fun zq => absurd (m44 43 (by decide) zh62) (by omega))).trans (if_pos (n44 39 (by decide) zh89))
               rw [ee] at zz ⊢; exact zz)
            | (have ee : ymM v n w tq = (ttF v n w 2 0 (nI (tq - 36))).2 := (if_neg (fun zq => absurd (m44 43 (by decide) zh62) (by omega))).trans ((if_neg (fun zq => absurd (m44 39 (by decide) zh89) (by omega))).trans (if_pos (n44 35 (by decide) zh111)))
               rw [ee] at zz ⊢; exact zz)
            | (have ee : ymM v n w tq = (ttF v n w 4 0 (nI (tq - 32))).2 := (if_neg (fun zq => absurd (m44 43 (by decide) zh62) (by omega))).trans ((if_neg (fun zq => absurd (m44 39 (by decide) zh89) (by omega))).trans ((if_neg (fun zq => absurd (m44 35 (by decide) zh111) (by omega))).trans (if_pos (n44 31 (by decide) zh133))))
               rw [ee] at zz ⊢; exact zz)
            | (have ee : ymM v n w tq = (ttF v n w 1 (nI (tq / 8)) (nI (tq % 8))).2 := (if_neg (fun zq => absurd (m44 43 (by decide) zh62) (by omega))).trans ((if_neg (fun zq => absurd (m44 39 (by decide) zh89) (by omega))).trans ((if_neg (fun zq => absurd (m44 35 (by decide) zh111) (by omega))).trans (if_neg (fun zq => absurd (m44 31 (by decide) zh133) (by omega)))))
               rw [ee] at zz ⊢; exact zz)
      · skip
        first | refine g_aload0 (pc := 65) dX10_years_65 ?_ | refine g_aloadN0 (pc := 65) dX10_years_65 ?_
        refine g_getR (pc := 66) (j := 3) cf10 dX10_years_66 fl_RX10_16 (by decide) (by decide) (by first | rfl | assumption) (82) (rfl) ?_
        refine g_bipush (pc := 69) (61) dX10_years_69 (by decide) ?_
        refine g_bipush (pc := 71) (6) dX10_years_71 (by decide) ?_
        refine g_iload4 (pc := 73) dX10_years_73 ?_
        refine g_bipush (pc := 75) (44) dX10_years_75 (by decide) ?_
        refine g_isub (pc := 77) dX10_years_77 ?_
        refine g_imul (pc := 78) dX10_years_78 ?_
        refine g_iadd (pc := 79) dX10_years_79 ?_
        refine g_iconst (pc := 80) (0) dX10_years_80 (by decide) ?_
        refine g_iastX (pc := 81) (61 + 6 * (tq - 44)) dX10_years_81 (rfl) (by rw [show nI tq - 44 = nI (tq - 44) from pk_sub (b := 44) (by rcases Nat.lt_or_ge tq 44 with zq | zq <;> first | exact zq | exact absurd (nI_le (b := 43) (by omega) (by decide)) zh62), show (6 : Int32) = nI 6 from rfl, pk_mul]; exact nI_add 61 _) (by have := ln_all; omega) (by decide) ?_
        refine g_goto (pc := 82) 167 dX10_years_82 (by decide) ?_
        refine g_iload2 (pc := 167) dX10_years_167 ?_
        first | refine g_aload0 (pc := 168) dX10_years_168 ?_ | refine g_aloadN0 (pc := 168) dX10_years_168 ?_
        refine g_iconst (pc := 169) (1) dX10_years_169 (by decide) ?_
        refine g_fV1 (pc := 170) (c_X10_inkOn (l := 1) (by decide)) cf10 (by first | rfl | assumption) dX10_years_170 cw_RX10_230 (by decide) (Nat.le_of_ble_eq_true rfl) ?_
        refine g_iadd (pc := 173) dX10_years_173 ?_
        refine g_istore2 (pc := 174) dX10_years_174 (by decide) (by first | rfl | assumption) ?_
        refine g_iinc3 (pc := 175) (nI (i + 1)) dX10_years_175 (nI_succ' i) (by decide) (by first | rfl | assumption) ?_
        refine g_goto (pc := 178) 23 dX10_years_178 (by decide) ?_
        have n44 : ∀ zc : Nat, zc < 48 → ¬ nI tq ≤ nI zc → zc < tq := fun zc z1 z2 => by rcases Nat.lt_or_ge zc tq with zq | zq <;> first | exact zq | exact absurd (nI_le zq (by omega)) z2
        have m44 : ∀ zc : Nat, zc < 48 → nI tq ≤ nI zc → tq ≤ zc := fun zc z1 z2 => (nI_leI (by omega) (by omega)).mp z2
        have zz := ih (i + 1) (t + ikF (ymM v n w (sdT (sdN (L 79)))) 1) (ymM v n w (sdT (sdN (L 79)))) (updl L 79 (sdN (L 79))) (some (.int (nI tq))) (by omega) hM.ym
        rw [ul_s, updl_twice, hzt] at zz
        rw [yq_succ, hzt]
        first
          | (have ee : ymM v n w tq = upd2 v 82 (61 + 6 * (tq - 44)) 0 := if_pos (n44 43 (by decide) zh62)
             rw [ee] at zz ⊢; exact zz)
          | (have ee : ymM v n w tq = (ttF v n w 3 0 (nI (tq - 40))).2 := (if_neg (fun zq => absurd (m44 43 (by decide) zh62) (by omega))).trans (if_pos (n44 39 (by decide) zh89))
             rw [ee] at zz ⊢; exact zz)
          | (have ee : ymM v n w tq = (ttF v n w 2 0 (nI (tq - 36))).2 := (if_neg (fun zq => absurd (m44 43 (by decide) zh62) (by omega))).trans ((if_neg (fun zq => absurd (m44 39 (by decide) zh89) (by omega))).trans (if_pos (n44 35 (by decide) zh111)))
             rw [ee] at zz ⊢; exact zz)
          | (have ee : ymM v n w tq = (ttF v n w 4 0 (nI (tq - 32))).2 := (if_neg (fun zq => absurd (m44 43 (by decide) zh62) (by omega))).trans ((if_neg (fun zq => absurd (m44 39 (by decide) zh89) (by omega))).trans ((if_neg (fun zq => absurd (m44 35 (by decide) zh111) (by omega))).trans (if_pos (n44 31 (by decide) zh133))))
             rw [ee] at zz ⊢; exact zz)
          | (have ee : ymM v n w tq = (ttF v n w 1 (nI (tq / 8)) (nI (tq % 8))).2 := (if_neg (fun zq => absurd (m44 43 (by decide) zh62) (by omega))).trans ((if_neg (fun zq => absurd (m44 39 (by decide) zh89) (by omega))).trans ((if_neg (fun zq => absurd (m44 35 (by decide) zh111) (by omega))).trans (if_neg (fun zq => absurd (m44 31 (by decide) zh133) (by omega)))))
             rw [ee] at zz ⊢; exact zz)
theorem c_X10_years_o {x : Int32} {v : Mm} {L : Lm} (hx : ¬ (1 ≤ x ∧ x ≤ 30)) : Fn yX10_years cX10_years 5 (some .int) 6 [.ref 79, .int x] v L (some (.int (-2))) v L := by
  have zi : ∀ zx : Int32, ((1 : Int64) ≤ zx.toInt64 ∧ zx.toInt64 ≤ 30) ↔ (1 ≤ zx ∧ zx ≤ 30) := fun zx => inI (y := zx) (by decide) (by decide)
  refine Fq.of (plainFor_of_name (by decide)) [some (.ref 79), some (.int x), none, none, none] rfl (Nat.le_of_ble_eq_true rfl) ?_
  refine g_iload1 (pc := 0) dX10_years_0 ?_
  refine g_i2l (pc := 1) dX10_years_1 ?_
  refine g_lconst (pc := 2) (1) dX10_years_2 (by decide) ?_
  refine g_ldc2 (pc := 3) _ dX10_years_3 kc_RX10_222 ?_
  refine g_fS3 (pc := 6) (c_X10_in) dX10_years_6 cw_RX10_52 (by decide) (Nat.le_of_ble_eq_true rfl) ?_
  refine g_if_ne (pc := 9) 15 dX10_years_9 (by decide) (fun zh9 => ?_) (fun zh9 => ?_)
  · skip
    exact absurd ((zi _).mp (b01_ne0.mp zh9)) hx
  · skip
    refine g_bipush (pc := 12) (-2) dX10_years_12 (by decide) ?_
    refine g_iret (pc := 14) dX10_years_14 rfl ?_
    exact ⟨rfl, rfl, rfl⟩
theorem c_X10_years_s {n w c : Nat} {v : Mm} {L : Lm} (hc1 : 1 ≤ c) (hc : c ≤ 30) (hn4 : n ≤ 4) (hn : v 79 0 = nI n) (hw : v 79 12 = nI w) (hw8 : w ≤ 8) (hd : ∀ p, p < n → DotOk v 0 p) : Fn yX10_years cX10_years 5 (some .int) 6 [.ref 79, .int (nI c)] v L (some (.int (yqF sdN sdT n w c (L 79) 0 (ltV v)).2.1)) (yqF sdN sdT n w c (L 79) 0 (ltV v)).2.2 (updl L 79 (yqF sdN sdT n w c (L 79) 0 (ltV v)).1) := by
  have zi : ∀ zx : Int32, ((1 : Int64) ≤ zx.toInt64 ∧ zx.toInt64 ≤ 30) ↔ (1 ≤ zx ∧ zx ≤ 30) := fun zx => inI (y := zx) (by decide) (by decide)
  refine Fq.of (plainFor_of_name (by decide)) [some (.ref 79), some (.int (nI c)), none, none, none] rfl (Nat.le_of_ble_eq_true rfl) ?_
  refine g_iload1 (pc := 0) dX10_years_0 ?_
  refine g_i2l (pc := 1) dX10_years_1 ?_
  refine g_lconst (pc := 2) (1) dX10_years_2 (by decide) ?_
  refine g_ldc2 (pc := 3) _ dX10_years_3 kc_RX10_222 ?_
  refine g_fS3 (pc := 6) (c_X10_in) dX10_years_6 cw_RX10_52 (by decide) (Nat.le_of_ble_eq_true rfl) ?_
  refine g_if_ne (pc := 9) 15 dX10_years_9 (by decide) (fun zh9 => ?_) (fun zh9 => ?_)
  · skip
    first | refine g_aload0 (pc := 15) dX10_years_15 ?_ | refine g_aloadN0 (pc := 15) dX10_years_15 ?_
    refine g_vV0 (pc := 16) (c_X10_layTrial) cf10 (by first | rfl | assumption) dX10_years_16 cw_RX10_140 (by decide) (Nat.le_of_ble_eq_true rfl) ?_
    refine g_iconst (pc := 19) (0) dX10_years_19 (by decide) ?_
    refine g_istore2 (pc := 20) dX10_years_20 (by decide) (by first | rfl | assumption) ?_
    refine g_iconst (pc := 21) (0) dX10_years_21 (by decide) ?_
    refine g_istore3 (pc := 22) dX10_years_22 (by decide) (by first | rfl | assumption) ?_
    exact lp_X10_years hc c 0 0 (ltV v) L none (by omega) (MSt.lt hn4 hn hw hw8 hd)
  · skip
    exact absurd ((zi _).mpr ⟨nI_le (a := 1) hc1 (by omega), nI_le (b := 30) hc (by decide)⟩) (b01_eq0.mp zh9)
