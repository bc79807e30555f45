theorem rg_tail {n a b w pr : Nat} {v u : Mm} {L : Lm} (hC : CSt v n) (ha : a < n) (hb : b < n) (hW : WSt v w) (hpr : pr < 4) (hu : gnM (trM v n) a b w pr = u) : G RX9 cX9_reckonGains 5 none 5 (fun zx zy zz => zx = none ∧ zy = rgM v n a b w pr ∧ zz = L) 77 [some (.ref 0), some (.int (nI a)), some (.int (nI b)), some (.int (nI pr)), none] [] u L := by
  have hn4 := hC.1
  have hTu := (gn_ok (w := w) (pr := pr) hC.tr ha hb).1
  subst hu
  first | refine g_aload0 (pc := 77) dX9_reckonGains_77 ?_ | refine g_aloadN0 (pc := 77) dX9_reckonGains_77 ?_
  refine g_getR (pc := 78) (j := 3) cf9 dX9_reckonGains_78 fl_RX9_30 (by decide) (by decide) (by first | rfl | assumption) (12) (rfl) ?_
  refine g_fV0 (pc := 81) (c_X4_blackBits s12) cf4 (by first | rfl | assumption) dX9_reckonGains_81 cw_RX9_288 (by decide) (Nat.le_of_ble_eq_true rfl) ?_
  refine g_fS1 (pc := 84) (c_J6_bitCount_0f7a4) dX9_reckonGains_84 cw_RX9_235 (by decide) (Nat.le_of_ble_eq_true rfl) ?_
  refine g_istore4 (pc := 87) dX9_reckonGains_87 (by decide) (by first | rfl | assumption) ?_
  first | refine g_aload0 (pc := 89) dX9_reckonGains_89 ?_ | refine g_aloadN0 (pc := 89) dX9_reckonGains_89 ?_
  refine g_getR (pc := 90) (j := 8) cf9 dX9_reckonGains_90 fl_RX9_60 (by decide) (by decide) (by first | rfl | assumption) (36) (rfl) ?_
  refine g_iload3 (pc := 93) dX9_reckonGains_93 ?_
  refine g_iconst (pc := 94) (3) dX9_reckonGains_94 (by decide) ?_
  refine g_iand (pc := 95) dX9_reckonGains_95 ?_
  first | refine g_aload0 (pc := 96) dX9_reckonGains_96 ?_ | refine g_aloadN0 (pc := 96) dX9_reckonGains_96 ?_
  refine g_getR (pc := 97) (j := 3) cf9 dX9_reckonGains_97 fl_RX9_30 (by decide) (by decide) (by first | rfl | assumption) (12) (rfl) ?_
  refine g_iload1 (pc := 100) dX9_reckonGains_100 ?_
  refine g_fV1 (pc := 101) (c_X4_inkOf (S := 12) (i := a) s12 (by omega) (by first | (rw [hTu.2.1]; exact nI_lt (by omega) (by omega)) | (rw [u2_n (fun zq => absurd zq.1 (by decide)), hTu.2.1]; exact nI_lt (by omega) (by omega)))) cf4 (by first | rfl | assumption) dX9_reckonGains_101 cw_RX9_300 (by decide) (Nat.le_of_ble_eq_true rfl) ?_
  refine g_iconst (pc := 104) (2) dX9_reckonGains_104 (by decide) ?_
  refine g_iload4 (pc := 105) dX9_reckonGains_105 ?_
  refine g_imul (pc := 107) dX9_reckonGains_107 ?_
  refine g_iadd (pc := 108) dX9_reckonGains_108 ?_
  refine g_iastX (pc := 109) (pr) dX9_reckonGains_109 (rfl) ((pr3 pr hpr).1) (by show pr < 4; omega) (by decide) ?_
  first | refine g_aload0 (pc := 110) dX9_reckonGains_110 ?_ | refine g_aloadN0 (pc := 110) dX9_reckonGains_110 ?_
  refine g_getR (pc := 111) (j := 9) cf9 dX9_reckonGains_111 fl_RX9_64 (by decide) (by decide) (by first | rfl | assumption) (37) (rfl) ?_
  refine g_iload3 (pc := 114) dX9_reckonGains_114 ?_
  refine g_iconst (pc := 115) (3) dX9_reckonGains_115 (by decide) ?_
  refine g_iand (pc := 116) dX9_reckonGains_116 ?_
  first | refine g_aload0 (pc := 117) dX9_reckonGains_117 ?_ | refine g_aloadN0 (pc := 117) dX9_reckonGains_117 ?_
  refine g_getR (pc := 118) (j := 3) cf9 dX9_reckonGains_118 fl_RX9_30 (by decide) (by decide) (by first | rfl | assumption) (12) (rfl) ?_
  refine g_iload2 (pc := 121) dX9_reckonGains_121 ?_
  refine g_fV1 (pc := 122) (c_X4_inkOf (S := 12) (i := b) s12 (by omega) (by first | (rw [hTu.2.1]; exact nI_lt (by omega) (by omega)) | (rw [u2_n (fun zq => absurd zq.1 (by decide)), hTu.2.1]; exact nI_lt (by omega) (by omega)))) cf4 (by first | rfl | assumption) dX9_reckonGains_122 cw_RX9_300 (by decide) (Nat.le_of_ble_eq_true rfl) ?_
  refine g_iconst (pc := 125) (2) dX9_reckonGains_125 (by decide) ?_
  refine g_iload4 (pc := 126) dX9_reckonGains_126 ?_
  refine g_imul (pc := 128) dX9_reckonGains_128 ?_
  refine g_iadd (pc := 129) dX9_reckonGains_129 ?_
  refine g_iastX (pc := 130) (pr) dX9_reckonGains_130 (rfl) ((pr3 pr hpr).1) (by show pr < 4; omega) (by decide) ?_
  refine g_vret (pc := 131) dX9_reckonGains_131 rfl ?_
  exact ⟨rfl, rfl, rfl⟩
theorem c_X9_reckonGains {n a b w pr : Nat} {v : Mm} {L : Lm} (hC : CSt v n) (ha : a < n) (hb : b < n) (hW : WSt v w) (hpr : pr < 4) : Fn yX9_reckonGains cX9_reckonGains 5 none 5 [.ref 0, .int (nI a), .int (nI b), .int (nI pr)] v L none (rgM v n a b w pr) L := by
  have hn4 := hC.1
  have hw8 := hW.2
  have hT := hC.tr
  have hWt : trM v n 3 1 = nI w := by rw [trM_away hn4 (by decide)]; exact hW.1
  have hT1 : TSt (fl1 (trM v n) a w) n := hT.fl ha
  have hW1 : fl1 (trM v n) a w 3 1 = nI w := by rw [fl1_away (by omega) (by decide)]; exact hWt
  refine Fq.of (plainFor_of_name (by decide)) [some (.ref 0), some (.int (nI a)), some (.int (nI b)), some (.int (nI pr)), none] rfl (Nat.le_of_ble_eq_true rfl) ?_
  first | refine g_aload0 (pc := 0) dX9_reckonGains_0 ?_ | refine g_aloadN0 (pc := 0) dX9_reckonGains_0 ?_
  refine g_getR (pc := 1) (j := 3) cf9 dX9_reckonGains_1 fl_RX9_30 (by decide) (by decide) (by first | rfl | assumption) (12) (rfl) ?_
  first | refine g_aload0 (pc := 4) dX9_reckonGains_4 ?_ | refine g_aloadN0 (pc := 4) dX9_reckonGains_4 ?_
  refine g_getR (pc := 5) (j := 2) cf9 dX9_reckonGains_5 fl_RX9_26 (by decide) (by decide) (by first | rfl | assumption) (5) (rfl) ?_
  refine g_vV1 (pc := 8) (c_X4_copy s12 s5 (by decide) hC.1 hC.2.1 (fun zp zh => (hC.2.2 zp zh).2)) cf4 (by first | rfl | assumption) dX9_reckonGains_8 cw_RX9_215 (by decide) (Nat.le_of_ble_eq_true rfl) ?_
  change G _ _ _ _ _ _ _ _ _ (trM v n) _
  refine g_iload3 (pc := 11) dX9_reckonGains_11 ?_
  refine g_iconst (pc := 12) (2) dX9_reckonGains_12 (by decide) ?_
  refine g_iand (pc := 13) dX9_reckonGains_13 ?_
  refine g_if_eq (pc := 14) 44 dX9_reckonGains_14 (by decide) (fun zh14 => ?_) (fun zh14 => ?_)
  · skip
    first | (change G _ _ _ _ _ _ _ _ _ (fl1 (trM v n) a w) _) | (change G _ _ _ _ _ _ _ _ _ (trM v n) _)
    refine g_iload3 (pc := 44) dX9_reckonGains_44 ?_
    refine g_iconst (pc := 45) (1) dX9_reckonGains_45 (by decide) ?_
    refine g_iand (pc := 46) dX9_reckonGains_46 ?_
    refine g_if_eq (pc := 47) 77 dX9_reckonGains_47 (by decide) (fun zh47 => ?_) (fun zh47 => ?_)
    · skip
      refine rg_tail hC ha hb hW hpr ?_
      first
        | exact (if_pos (gnT (pr2 pr hpr).2 zh47)).trans (congrArg (fun zt => fl1 zt b w) (if_pos (gnT (pr2 pr hpr).1 zh14)))
        | exact (if_pos (gnT (pr2 pr hpr).2 zh47)).trans (congrArg (fun zt => fl1 zt b w) (if_neg ((pr2 pr hpr).1.mp zh14)))
        | exact (if_neg ((pr2 pr hpr).2.mp zh47)).trans (if_pos (gnT (pr2 pr hpr).1 zh14))
        | exact (if_neg ((pr2 pr hpr).2.mp zh47)).trans (if_neg ((pr2 pr hpr).1.mp zh14))
    · skip
      first | refine g_aload0 (pc := 50) dX9_reckonGains_50 ?_ | refine g_aloadN0 (pc := 50) dX9_reckonGains_50 ?_
      refine g_getR (pc := 51) (j := 3) cf9 dX9_reckonGains_51 fl_RX9_30 (by decide) (by decide) (by first | rfl | assumption) (12) (rfl) ?_
      first | refine g_aload0 (pc := 54) dX9_reckonGains_54 ?_ | refine g_aloadN0 (pc := 54) dX9_reckonGains_54 ?_
      refine g_getR (pc := 55) (j := 3) cf9 dX9_reckonGains_55 fl_RX9_30 (by decide) (by decide) (by first | rfl | assumption) (12) (rfl) ?_
      refine g_iload2 (pc := 58) dX9_reckonGains_58 ?_
      refine g_fV1 (pc := 59) (by first | exact c_X4_find_s (S := 12) (i := b) s12 (by omega) (by rw [hT.2.1]; exact nI_lt (by omega) (by omega)) | exact c_X4_find_s (S := 12) (i := b) s12 (by omega) (by rw [hT1.2.1]; exact nI_lt (by omega) (by omega))) cf4 (by first | rfl | assumption) dX9_reckonGains_59 cw_RX9_111 (by decide) (Nat.le_of_ble_eq_true rfl) ?_
      first | refine g_aload0 (pc := 62) dX9_reckonGains_62 ?_ | refine g_aloadN0 (pc := 62) dX9_reckonGains_62 ?_
      refine g_getR (pc := 63) (j := 1) cf9 dX9_reckonGains_63 fl_RX9_19 (by decide) (by decide) (by first | rfl | assumption) (3) (rfl) ?_
      first | refine g_aload0 (pc := 66) dX9_reckonGains_66 ?_ | refine g_aloadN0 (pc := 66) dX9_reckonGains_66 ?_
      refine g_getR (pc := 67) (j := 1) cf9 dX9_reckonGains_67 fl_RX9_19 (by decide) (by decide) (by first | rfl | assumption) (3) (rfl) ?_
      refine g_getI (pc := 70) (j := 1) cf8 dX9_reckonGains_70 fl_RX9_106 (by decide) (by decide) (by first | rfl | assumption) ?_
      first | rw [hW1] | rw [hWt]
      refine g_fV3 (pc := 73) (by first | exact c_X4_follow (S := 12) (k := 12 + 3 + b) (q := w) (w := w) s12 (sh_kp s12 (by omega)) hw8 hWt hw8 (hT.2.2 b (by omega)).1 | exact c_X4_follow (S := 12) (k := 12 + 3 + b) (q := w) (w := w) s12 (sh_kp s12 (by omega)) hw8 hW1 hw8 (hT1.2.2 b (by omega)).1) cf4 (by first | rfl | assumption) dX9_reckonGains_73 cw_RX9_188 (by decide) (Nat.le_of_ble_eq_true rfl) ?_
      rw [Nat.min_self]
      refine g_pop (pc := 76) dX9_reckonGains_76 rfl ?_
      refine rg_tail hC ha hb hW hpr ?_
      first
        | exact (if_pos (gnT (pr2 pr hpr).2 zh47)).trans (congrArg (fun zt => fl1 zt b w) (if_pos (gnT (pr2 pr hpr).1 zh14)))
        | exact (if_pos (gnT (pr2 pr hpr).2 zh47)).trans (congrArg (fun zt => fl1 zt b w) (if_neg ((pr2 pr hpr).1.mp zh14)))
        | exact (if_neg ((pr2 pr hpr).2.mp zh47)).trans (if_pos (gnT (pr2 pr hpr).1 zh14))
        | exact (if_neg ((pr2 pr hpr).2.mp zh47)).trans (if_neg ((pr2 pr hpr).1.mp zh14))
  · skip
    first | refine g_aload0 (pc := 17) dX9_reckonGains_17 ?_ | refine g_aloadN0 (pc := 17) dX9_reckonGains_17 ?_
    refine g_getR (pc := 18) (j := 3) cf9 dX9_reckonGains_18 fl_RX9_30 (by decide) (by decide) (by first | rfl | assumption) (12) (rfl) ?_
    first | refine g_aload0 (pc := 21) dX9_reckonGains_21 ?_ | refine g_aloadN0 (pc := 21) dX9_reckonGains_21 ?_
    refine g_getR (pc := 22) (j := 3) cf9 dX9_reckonGains_22 fl_RX9_30 (by decide) (by decide) (by first | rfl | assumption) (12) (rfl) ?_
    refine g_iload1 (pc := 25) dX9_reckonGains_25 ?_
    refine g_fV1 (pc := 26) (c_X4_find_s (S := 12) (i := a) s12 (by omega) (by rw [hT.2.1]; exact nI_lt (by omega) (by omega))) cf4 (by first | rfl | assumption) dX9_reckonGains_26 cw_RX9_111 (by decide) (Nat.le_of_ble_eq_true rfl) ?_
    first | refine g_aload0 (pc := 29) dX9_reckonGains_29 ?_ | refine g_aloadN0 (pc := 29) dX9_reckonGains_29 ?_
    refine g_getR (pc := 30) (j := 1) cf9 dX9_reckonGains_30 fl_RX9_19 (by decide) (by decide) (by first | rfl | assumption) (3) (rfl) ?_
    first | refine g_aload0 (pc := 33) dX9_reckonGains_33 ?_ | refine g_aloadN0 (pc := 33) dX9_reckonGains_33 ?_
    refine g_getR (pc := 34) (j := 1) cf9 dX9_reckonGains_34 fl_RX9_19 (by decide) (by decide) (by first | rfl | assumption) (3) (rfl) ?_
    refine g_getI (pc := 37) (j := 1) cf8 dX9_reckonGains_37 fl_RX9_106 (by decide) (by decide) (by first | rfl | assumption) ?_
    rw [hWt]
    refine g_fV3 (pc := 40) (c_X4_follow (S := 12) (k := 12 + 3 + a) (q := w) (w := w) s12 (sh_kp s12 (by omega)) hw8 hWt hw8 (hT.2.2 a (by omega)).1) cf4 (by first | rfl | assumption) dX9_reckonGains_40 cw_RX9_188 (by decide) (Nat.le_of_ble_eq_true rfl) ?_
    rw [Nat.min_self]
    refine g_pop (pc := 43) dX9_reckonGains_43 rfl ?_
    first | (change G _ _ _ _ _ _ _ _ _ (fl1 (trM v n) a w) _) | (change G _ _ _ _ _ _ _ _ _ (trM v n) _)
    refine g_iload3 (pc := 44) dX9_reckonGains_44 ?_
    refine g_iconst (pc := 45) (1) dX9_reckonGains_45 (by decide) ?_
    refine g_iand (pc := 46) dX9_reckonGains_46 ?_
    refine g_if_eq (pc := 47) 77 dX9_reckonGains_47 (by decide) (fun zh47 => ?_) (fun zh47 => ?_)
    · skip
      refine rg_tail hC ha hb hW hpr ?_
      first
        | exact (if_pos (gnT (pr2 pr hpr).2 zh47)).trans (congrArg (fun zt => fl1 zt b w) (if_pos (gnT (pr2 pr hpr).1 zh14)))
        | exact (if_pos (gnT (pr2 pr hpr).2 zh47)).trans (congrArg (fun zt => fl1 zt b w) (if_neg ((pr2 pr hpr).1.mp zh14)))
        | exact (if_neg ((pr2 pr hpr).2.mp zh47)).trans (if_pos (gnT (pr2 pr hpr).1 zh14))
        | exact (if_neg ((pr2 pr hpr).2.mp zh47)).trans (if_neg ((pr2 pr hpr).1.mp zh14))
    · skip
      first | refine g_aload0 (pc := 50) dX9_reckonGains_50 ?_ | refine g_aloadN0 (pc := 50) dX9_reckonGains_50 ?_
      refine g_getR (pc := 51) (j := 3) cf9 dX9_reckonGains_51 fl_RX9_30 (by decide) (by decide) (by first | rfl | assumption) (12) (rfl) ?_
      first | refine g_aload0 (pc := 54) dX9_reckonGains_54 ?_ | refine g_aloadN0 (pc := 54) dX9_reckonGains_54 ?_
      refine g_getR (pc := 55) (j := 3) cf9 dX9_reckonGains_55 fl_RX9_30 (by decide) (by decide) (by first | rfl | assumption) (12) (rfl) ?_
      refine g_iload2 (pc := 58) dX9_reckonGains_58 ?_
      refine g_fV1 (pc := 59) (by first | exact c_X4_find_s (S := 12) (i := b) s12 (by omega) (by rw [hT.2.1]; exact nI_lt (by omega) (by omega)) | exact c_X4_find_s (S := 12) (i := b) s12 (by omega) (by rw [hT1.2.1]; exact nI_lt (by omega) (by omega))) cf4 (by first | rfl | assumption) dX9_reckonGains_59 cw_RX9_111 (by decide) (Nat.le_of_ble_eq_true rfl) ?_
      first | refine g_aload0 (pc := 62) dX9_reckonGains_62 ?_ | refine g_aloadN0 (pc := 62) dX9_reckonGains_62 ?_
      refine g_getR (pc := 63) (j := 1) cf9 dX9_reckonGains_63 fl_RX9_19 (by decide) (by decide) (by first | rfl | assumption) (3) (rfl) ?_
      first | refine g_aload0 (pc := 66) dX9_reckonGains_66 ?_ | refine g_aloadN0 (pc := 66) dX9_reckonGains_66 ?_
      refine g_getR (pc := 67) (j := 1) cf9 dX9_reckonGains_67 fl_RX9_19 (by decide) (by decide) (by first | rfl | assumption) (3) (rfl) ?_
      refine g_getI (pc := 70) (j := 1) cf8 dX9_reckonGains_70 fl_RX9_106 (by decide) (by decide) (by first | rfl | assumption) ?_
      first | rw [hW1] | rw [hWt]
      refine g_fV3 (pc := 73) (by first | exact c_X4_follow (S := 12) (k := 12 + 3 + b) (q := w) (w := w) s12 (sh_kp s12 (by omega)) hw8 hWt hw8 (hT.2.2 b (by omega)).1 | exact c_X4_follow (S := 12) (k := 12 + 3 + b) (q := w) (w := w) s12 (sh_kp s12 (by omega)) hw8 hW1 hw8 (hT1.2.2 b (by omega)).1) cf4 (by first | rfl | assumption) dX9_reckonGains_73 cw_RX9_188 (by decide) (Nat.le_of_ble_eq_true rfl) ?_
      rw [Nat.min_self]
      refine g_pop (pc := 76) dX9_reckonGains_76 rfl ?_
      refine rg_tail hC ha hb hW hpr ?_
      first
        | exact (if_pos (gnT (pr2 pr hpr).2 zh47)).trans (congrArg (fun zt => fl1 zt b w) (if_pos (gnT (pr2 pr hpr).1 zh14)))
        | exact (if_pos (gnT (pr2 pr hpr).2 zh47)).trans (congrArg (fun zt => fl1 zt b w) (if_neg ((pr2 pr hpr).1.mp zh14)))
        | exact (if_neg ((pr2 pr hpr).2.mp zh47)).trans (if_pos (gnT (pr2 pr hpr).1 zh14))
        | exact (if_neg ((pr2 pr hpr).2.mp zh47)).trans (if_neg ((pr2 pr hpr).1.mp zh14))
theorem c_X9_isRest {m : Nat} {v : Mm} {L : Lm} (hm : m < 4) : Fn yX9_isRest cX9_isRest 2 (some .boolean) 0 [.ref 0, .int (nI m)] v L (some (.int (b01 (v 36 (m ^^^ 2) ≤ v 36 m ∧ v 37 (m ^^^ 1) ≤ v 37 m)))) v L := by
  refine Fq.of (plainFor_of_name (by decide)) [some (.ref 0), some (.int (nI m))] rfl (Nat.le_of_ble_eq_true rfl) ?_
  first | refine g_aload0 (pc := 0) dX9_isRest_0 ?_ | refine g_aloadN0 (pc := 0) dX9_isRest_0 ?_
  refine g_getR (pc := 1) (j := 8) cf9 dX9_isRest_1 fl_RX9_60 (by decide) (by decide) (by first | rfl | assumption) (36) (rfl) ?_
  refine g_iload1 (pc := 4) dX9_isRest_4 ?_
  refine g_iconst (pc := 5) (3) dX9_isRest_5 (by decide) ?_
  refine g_iand (pc := 6) dX9_isRest_6 ?_
  refine g_ialdX (pc := 7) (m) dX9_isRest_7 (rfl) ((pr3 m hm).1) (by show m < 4; omega) (by decide) ?_
  first | refine g_aload0 (pc := 8) dX9_isRest_8 ?_ | refine g_aloadN0 (pc := 8) dX9_isRest_8 ?_
  refine g_getR (pc := 9) (j := 8) cf9 dX9_isRest_9 fl_RX9_60 (by decide) (by decide) (by first | rfl | assumption) (36) (rfl) ?_
  refine g_iload1 (pc := 12) dX9_isRest_12 ?_
  refine g_iconst (pc := 13) (2) dX9_isRest_13 (by decide) ?_
  refine g_ixor (pc := 14) dX9_isRest_14 ?_
  refine g_iconst (pc := 15) (3) dX9_isRest_15 (by decide) ?_
  refine g_iand (pc := 16) dX9_isRest_16 ?_
  refine g_ialdX (pc := 17) (m ^^^ 2) dX9_isRest_17 (rfl) ((pr3 m hm).2.1) (by show m ^^^ 2 < 4; exact (pr3 m hm).2.2.2.1) (by decide) ?_
  refine g_icmp_lt (pc := 18) 46 dX9_isRest_18 (by decide) (fun zh18 => ?_) (fun zh18 => ?_)
  · skip
    refine g_iconst (pc := 46) (0) dX9_isRest_46 (by decide) ?_
    refine g_zret (pc := 47) dX9_isRest_47 rfl (by first | exact Or.inl rfl | exact Or.inr rfl | assumption) ?_
    first | (rw [b01_t (⟨i32nlt.mp zh18, i32nlt.mp zh39⟩)]; exact ⟨rfl, rfl, rfl⟩) | (rw [b01_f (fun zq => i32nle.mpr zh18 zq.1)]; exact ⟨rfl, rfl, rfl⟩) | (rw [b01_f (fun zq => i32nle.mpr zh39 zq.2)]; exact ⟨rfl, rfl, rfl⟩)
  · skip
    first | refine g_aload0 (pc := 21) dX9_isRest_21 ?_ | refine g_aloadN0 (pc := 21) dX9_isRest_21 ?_
    refine g_getR (pc := 22) (j := 9) cf9 dX9_isRest_22 fl_RX9_64 (by decide) (by decide) (by first | rfl | assumption) (37) (rfl) ?_
    refine g_iload1 (pc := 25) dX9_isRest_25 ?_
    refine g_iconst (pc := 26) (3) dX9_isRest_26 (by decide) ?_
    refine g_iand (pc := 27) dX9_isRest_27 ?_
    refine g_ialdX (pc := 28) (m) dX9_isRest_28 (rfl) ((pr3 m hm).1) (by show m < 4; omega) (by decide) ?_
    first | refine g_aload0 (pc := 29) dX9_isRest_29 ?_ | refine g_aloadN0 (pc := 29) dX9_isRest_29 ?_
    refine g_getR (pc := 30) (j := 9) cf9 dX9_isRest_30 fl_RX9_64 (by decide) (by decide) (by first | rfl | assumption) (37) (rfl) ?_
    refine g_iload1 (pc := 33) dX9_isRest_33 ?_
    refine g_iconst (pc := 34) (1) dX9_isRest_34 (by decide) ?_
    refine g_ixor (pc := 35) dX9_isRest_35 ?_
    refine g_iconst (pc := 36) (3) dX9_isRest_36 (by decide) ?_
    refine g_iand (pc := 37) dX9_isRest_37 ?_
    refine g_ialdX (pc := 38) (m ^^^ 1) dX9_isRest_38 (rfl) ((pr3 m hm).2.2.1) (by show m ^^^ 1 < 4; exact (pr3 m hm).2.2.2.2) (by decide) ?_
    refine g_icmp_lt (pc := 39) 46 dX9_isRest_39 (by decide) (fun zh39 => ?_) (fun zh39 => ?_)
    · skip
      refine g_iconst (pc := 46) (0) dX9_isRest_46 (by decide) ?_
      refine g_zret (pc := 47) dX9_isRest_47 rfl (by first | exact Or.inl rfl | exact Or.inr rfl | assumption) ?_
      first | (rw [b01_t (⟨i32nlt.mp zh18, i32nlt.mp zh39⟩)]; exact ⟨rfl, rfl, rfl⟩) | (rw [b01_f (fun zq => i32nle.mpr zh18 zq.1)]; exact ⟨rfl, rfl, rfl⟩) | (rw [b01_f (fun zq => i32nle.mpr zh39 zq.2)]; exact ⟨rfl, rfl, rfl⟩)
    · skip
      refine g_iconst (pc := 42) (1) dX9_isRest_42 (by decide) ?_
      refine g_goto (pc := 43) 47 dX9_isRest_43 (by decide) ?_
      refine g_zret (pc := 47) dX9_isRest_47 rfl (by first | exact Or.inl rfl | exact Or.inr rfl | assumption) ?_
      first | (rw [b01_t (⟨i32nlt.mp zh18, i32nlt.mp zh39⟩)]; exact ⟨rfl, rfl, rfl⟩) | (rw [b01_f (fun zq => i32nle.mpr zh18 zq.1)]; exact ⟨rfl, rfl, rfl⟩) | (rw [b01_f (fun zq => i32nle.mpr zh39 zq.2)]; exact ⟨rfl, rfl, rfl⟩)
theorem lp_X9_rests_g {n a b w : Nat} {x3 : Int32} {v : Mm} {L : Lm} {Q : Qt} (hC : CSt v n) (ha : a < n) (hb : b < n) (hW : WSt v w) (hI0 : (fun (_ : Nat) (zu : Mm) => ∀ k j, (k < 12 ∨ (19 ≤ k ∧ k ≠ 36 ∧ k ≠ 37)) → zu k j = v k j) 0 v) (hk : G RX9 cX9_rests 7 (some .int) 6 Q 63 [some (.ref 0), some (.int (nI a)), some (.int (nI b)), some (.int x3), some (.int (nI 4)), none, none] [] (rg4 v n a b w) L) : (fun (i : Nat) (zv : Mm) =>  G RX9 cX9_rests 7 (some .int) 6 Q 43 [some (.ref 0), some (.int (nI a)), some (.int (nI b)), some (.int x3), some (.int (nI i)), none, none] [] zv L) 0 v := by
  refine g_for 4 (fun i u => rgM u n a b w i) (fun (_ : Nat) (zu : Mm) => ∀ k j, (k < 12 ∨ (19 ≤ k ∧ k ≠ 36 ∧ k ≠ 37)) → zu k j = v k j) (fun (i : Nat) (zv : Mm) =>  G RX9 cX9_rests 7 (some .int) 6 Q 43 [some (.ref 0), some (.int (nI a)), some (.int (nI b)), some (.int x3), some (.int (nI i)), none, none] [] zv L) v hI0 ?_ (fun hI => ?_) (fun i zv hi hI hn => ?_)
  · intro zi zu zl zh zk zj zm
    show rgM zu n a b w zi zk zj = v zk zj
    rw [rgM_lo (hC.lo (fun zp zq zr => zh zp zq (Or.inl zr))) ha hb zm]; exact zh zk zj zm
  · show G _ _ _ _ _ _ _ _ _ _ _
    try dsimp only at hI
    refine g_iload4 (pc := 43) dX9_rests_43 ?_
    refine g_iconst (pc := 45) (4) dX9_rests_45 (by decide) ?_
    refine g_icmp_ge (pc := 46) 63 dX9_rests_46 (by decide) (fun zh46 => ?_) (fun zh46 => ?_)
    · skip
      exact hk
    · skip
      exact absurd (Int32.le_refl _) zh46
  · show G _ _ _ _ _ _ _ _ _ _ _
    try dsimp only at hI
    try dsimp only at hn
    refine g_iload4 (pc := 43) dX9_rests_43 ?_
    refine g_iconst (pc := 45) (4) dX9_rests_45 (by decide) ?_
    refine g_icmp_ge (pc := 46) 63 dX9_rests_46 (by decide) (fun zh46 => ?_) (fun zh46 => ?_)
    · skip
      exact absurd zh46 (nI_ge (b := 4) hi (by decide))
    · skip
      first | refine g_aload0 (pc := 49) dX9_rests_49 ?_ | refine g_aloadN0 (pc := 49) dX9_rests_49 ?_
      refine g_iload1 (pc := 50) dX9_rests_50 ?_
      refine g_iload2 (pc := 51) dX9_rests_51 ?_
      refine g_iload4 (pc := 52) dX9_rests_52 ?_
      refine g_vV3 (pc := 54) (c_X9_reckonGains (hC.lo (fun zk zj zl => hI zk zj (Or.inl zl))) ha hb (hW.lo (fun zk zj zl => hI zk zj (Or.inl zl))) hi) cf9 (by first | rfl | assumption) dX9_rests_54 cw_RX9_250 (by decide) (Nat.le_of_ble_eq_true rfl) ?_
      refine g_iinc4 (pc := 57) (nI (i + 1)) dX9_rests_57 (nI_succ' i) (by decide) (by first | rfl | assumption) ?_
      refine g_goto (pc := 60) 43 dX9_rests_60 (by decide) ?_
      exact hn
theorem lp_X9_rests_r {a b : Nat} {x3 : Int32} {v : Mm} {L : Lm}  : ∀ (m : Nat) (many first : Int32), m ≤ 4 → G RX9 cX9_rests 7 (some .int) 6 (fun zx zy zz => zx = some (.int (if x3 = 0 then (rsR v m many first).1 else (rsR v m many first).2)) ∧ zy = v ∧ zz = L) 73 [some (.ref 0), some (.int (nI a)), some (.int (nI b)), some (.int x3), some (.int many), some (.int first), some (.int (nI m - 1))] [] v L := by
  intro m
  induction m with
  | zero =>
    intro many first hm
    refine g_iload6 (pc := 73) dX9_rests_73 ?_
    refine g_if_lt (pc := 75) 110 dX9_rests_75 (by decide) (fun zh75 => ?_) (fun zh75 => ?_)
    · skip
      refine g_iload3 (pc := 110) dX9_rests_110 ?_
      refine g_if_ne (pc := 111) 119 dX9_rests_111 (by decide) (fun zh111 => ?_) (fun zh111 => ?_)
      · skip
        refine g_iload5 (pc := 119) dX9_rests_119 ?_
        refine g_iret (pc := 121) dX9_rests_121 rfl ?_
        first | (rw [if_pos zh111]; exact ⟨rfl, rfl, rfl⟩) | (rw [if_neg zh111]; exact ⟨rfl, rfl, rfl⟩)
      · skip
        refine g_iload4 (pc := 114) dX9_rests_114 ?_
        refine g_goto (pc := 116) 121 dX9_rests_116 (by decide) ?_
        refine g_iret (pc := 121) dX9_rests_121 rfl ?_
        first | (rw [if_pos zh111]; exact ⟨rfl, rfl, rfl⟩) | (rw [if_neg zh111]; exact ⟨rfl, rfl, rfl⟩)
    · skip
      exact absurd (show nI 0 - 1 < 0 by decide) zh75
  | succ m ih =>
    intro many first hm
    rw [nI_pred]
    refine g_iload6 (pc := 73) dX9_rests_73 ?_
    refine g_if_lt (pc := 75) 110 dX9_rests_75 (by decide) (fun zh75 => ?_) (fun zh75 => ?_)
    · skip
      exact absurd zh75 (nI_pos (by omega))
    · skip
      first | refine g_aload0 (pc := 78) dX9_rests_78 ?_ | refine g_aloadN0 (pc := 78) dX9_rests_78 ?_
      refine g_iload6 (pc := 79) dX9_rests_79 ?_
      refine g_fV1 (pc := 81) (c_X9_isRest (m := m) (by omega)) cf9 (by first | rfl | assumption) dX9_rests_81 cw_RX9_254 (by decide) (Nat.le_of_ble_eq_true rfl) ?_
      refine g_if_eq (pc := 84) 104 dX9_rests_84 (by decide) (fun zh84 => ?_) (fun zh84 => ?_)
      · skip
        refine g_iinc6 (pc := 104) (nI m - 1) dX9_rests_104 (dec1 _) (by decide) (by first | rfl | assumption) ?_
        refine g_goto (pc := 107) 73 dX9_rests_107 (by decide) ?_
        first
          | (have ee : rsR v (m + 1) many first = rsR v m (many + 1) ((10 : Int32) * (nI m >>> ((1 : Int32) &&& 31)) + (nI m &&& 1)) := if_pos (b01_ne0.mp zh84)
             rw [ee]; exact ih _ _ (by omega))
          | (have ee : rsR v (m + 1) many first = rsR v m many first := if_neg (b01_eq0.mp zh84)
             rw [ee]; exact ih _ _ (by omega))
      · skip
        refine g_iinc4 (pc := 87) (many + 1) dX9_rests_87 (rfl) (by decide) (by first | rfl | assumption) ?_
        refine g_bipush (pc := 90) (10) dX9_rests_90 (by decide) ?_
        refine g_iload6 (pc := 92) dX9_rests_92 ?_
        refine g_iconst (pc := 94) (1) dX9_rests_94 (by decide) ?_
        refine g_ishr (pc := 95) dX9_rests_95 ?_
        refine g_imul (pc := 96) dX9_rests_96 ?_
        refine g_iload6 (pc := 97) dX9_rests_97 ?_
        refine g_iconst (pc := 99) (1) dX9_rests_99 (by decide) ?_
        refine g_iand (pc := 100) dX9_rests_100 ?_
        refine g_iadd (pc := 101) dX9_rests_101 ?_
        refine g_istore5 (pc := 102) dX9_rests_102 (by decide) (by first | rfl | assumption) ?_
        refine g_iinc6 (pc := 104) (nI m - 1) dX9_rests_104 (dec1 _) (by decide) (by first | rfl | assumption) ?_
        refine g_goto (pc := 107) 73 dX9_rests_107 (by decide) ?_
        first
          | (have ee : rsR v (m + 1) many first = rsR v m (many + 1) ((10 : Int32) * (nI m >>> ((1 : Int32) &&& 31)) + (nI m &&& 1)) := if_pos (b01_ne0.mp zh84)
             rw [ee]; exact ih _ _ (by omega))
          | (have ee : rsR v (m + 1) many first = rsR v m many first := if_neg (b01_eq0.mp zh84)
             rw [ee]; exact ih _ _ (by omega))
theorem c_X9_rests_u1 {n : Nat} {x y z : Int32} {v : Mm} {L : Lm} (hC : CSt v n) (hx : ¬ (0 ≤ x ∧ x < nI n)) : Fn yX9_rests cX9_rests 7 (some .int) 6 [.ref 0, .int x, .int y, .int z] v L (some (.int (-1))) v L := by
  refine Fq.of (plainFor_of_name (by decide)) [some (.ref 0), some (.int x), some (.int y), some (.int z), none, none, none] rfl (Nat.le_of_ble_eq_true rfl) ?_
  first | refine g_aload0 (pc := 0) dX9_rests_0 ?_ | refine g_aloadN0 (pc := 0) dX9_rests_0 ?_
  refine g_getR (pc := 1) (j := 2) cf9 dX9_rests_1 fl_RX9_26 (by decide) (by decide) (by first | rfl | assumption) (5) (rfl) ?_
  refine g_iload1 (pc := 4) dX9_rests_4 ?_
  refine g_fV1 (pc := 5) (c_X4_find_n (S := 5) s5 (fun zq => hx ⟨zq.1, by rw [← hC.2.1]; exact zq.2.1⟩)) cf4 (by first | rfl | assumption) dX9_rests_5 cw_RX9_111 (by decide) (Nat.le_of_ble_eq_true rfl) ?_
  refine g_ifnullN (pc := 8) 22 dX9_rests_8 (by decide) ?_
  refine g_iconst (pc := 22) (-1) dX9_rests_22 (by decide) ?_
  refine g_iret (pc := 23) dX9_rests_23 rfl ?_
  exact ⟨rfl, rfl, rfl⟩
theorem c_X9_rests_u2 {n a : Nat} {x z : Int32} {v : Mm} {L : Lm} (hC : CSt v n) (ha : a < n) (hx : ¬ (0 ≤ x ∧ x < nI n)) : Fn yX9_rests cX9_rests 7 (some .int) 6 [.ref 0, .int (nI a), .int x, .int z] v L (some (.int (-1))) v L := by
  refine Fq.of (plainFor_of_name (by decide)) [some (.ref 0), some (.int (nI a)), some (.int x), some (.int z), none, none, none] rfl (Nat.le_of_ble_eq_true rfl) ?_
  first | refine g_aload0 (pc := 0) dX9_rests_0 ?_ | refine g_aloadN0 (pc := 0) dX9_rests_0 ?_
  refine g_getR (pc := 1) (j := 2) cf9 dX9_rests_1 fl_RX9_26 (by decide) (by decide) (by first | rfl | assumption) (5) (rfl) ?_
  refine g_iload1 (pc := 4) dX9_rests_4 ?_
  refine g_fV1 (pc := 5) (c_X4_find_s (S := 5) (i := a) s5 (by have := hC.1; omega) (by rw [hC.2.1]; exact nI_lt ha (by have := hC.1; omega))) cf4 (by first | rfl | assumption) dX9_rests_5 cw_RX9_111 (by decide) (Nat.le_of_ble_eq_true rfl) ?_
  refine g_ifnull (pc := 8) dX9_rests_8 ?_
  first | refine g_aload0 (pc := 11) dX9_rests_11 ?_ | refine g_aloadN0 (pc := 11) dX9_rests_11 ?_
  refine g_getR (pc := 12) (j := 2) cf9 dX9_rests_12 fl_RX9_26 (by decide) (by decide) (by first | rfl | assumption) (5) (rfl) ?_
  refine g_iload2 (pc := 15) dX9_rests_15 ?_
  refine g_fV1 (pc := 16) (c_X4_find_n (S := 5) s5 (fun zq => hx ⟨zq.1, by rw [← hC.2.1]; exact zq.2.1⟩)) cf4 (by first | rfl | assumption) dX9_rests_16 cw_RX9_111 (by decide) (Nat.le_of_ble_eq_true rfl) ?_
  refine g_ifnonnullN (pc := 19) dX9_rests_19 ?_
  refine g_iconst (pc := 22) (-1) dX9_rests_22 (by decide) ?_
  refine g_iret (pc := 23) dX9_rests_23 rfl ?_
  exact ⟨rfl, rfl, rfl⟩
theorem c_X9_rests_o {n a b : Nat} {z : Int32} {v : Mm} {L : Lm} (hC : CSt v n) (ha : a < n) (hb : b < n) (hz : a = b ∨ ¬ (0 ≤ z ∧ z ≤ 1)) : Fn yX9_rests cX9_rests 7 (some .int) 6 [.ref 0, .int (nI a), .int (nI b), .int z] v L (some (.int (-2))) v L := by
  refine Fq.of (plainFor_of_name (by decide)) [some (.ref 0), some (.int (nI a)), some (.int (nI b)), some (.int z), none, none, none] rfl (Nat.le_of_ble_eq_true rfl) ?_
  first | refine g_aload0 (pc := 0) dX9_rests_0 ?_ | refine g_aloadN0 (pc := 0) dX9_rests_0 ?_
  refine g_getR (pc := 1) (j := 2) cf9 dX9_rests_1 fl_RX9_26 (by decide) (by decide) (by first | rfl | assumption) (5) (rfl) ?_
  refine g_iload1 (pc := 4) dX9_rests_4 ?_
  refine g_fV1 (pc := 5) (c_X4_find_s (S := 5) (i := a) s5 (by have := hC.1; omega) (by rw [hC.2.1]; exact nI_lt ha (by have := hC.1; omega))) cf4 (by first | rfl | assumption) dX9_rests_5 cw_RX9_111 (by decide) (Nat.le_of_ble_eq_true rfl) ?_
  refine g_ifnull (pc := 8) dX9_rests_8 ?_
  first | refine g_aload0 (pc := 11) dX9_rests_11 ?_ | refine g_aloadN0 (pc := 11) dX9_rests_11 ?_
  refine g_getR (pc := 12) (j := 2) cf9 dX9_rests_12 fl_RX9_26 (by decide) (by decide) (by first | rfl | assumption) (5) (rfl) ?_
  refine g_iload2 (pc := 15) dX9_rests_15 ?_
  refine g_fV1 (pc := 16) (c_X4_find_s (S := 5) (i := b) s5 (by have := hC.1; omega) (by rw [hC.2.1]; exact nI_lt hb (by have := hC.1; omega))) cf4 (by first | rfl | assumption) dX9_rests_16 cw_RX9_111 (by decide) (Nat.le_of_ble_eq_true rfl) ?_
  refine g_ifnonnull (pc := 19) 24 dX9_rests_19 (by decide) ?_
  refine g_iload1 (pc := 24) dX9_rests_24 ?_
  refine g_iload2 (pc := 25) dX9_rests_25 ?_
  refine g_icmp_eq (pc := 26) 37 dX9_rests_26 (by decide) (fun zh26 => ?_) (fun zh26 => ?_)
  · skip
    refine g_bipush (pc := 37) (-2) dX9_rests_37 (by decide) ?_
    refine g_iret (pc := 39) dX9_rests_39 rfl ?_
    exact ⟨rfl, rfl, rfl⟩
  · skip
    refine g_iload3 (pc := 29) dX9_rests_29 ?_
    refine g_iconst (pc := 30) (1) dX9_rests_30 (by decide) ?_
    refine g_fS2 (pc := 31) (c_X9_isWithin) dX9_rests_31 cw_RX9_68 (by decide) (Nat.le_of_ble_eq_true rfl) ?_
    refine g_if_ne (pc := 34) 40 dX9_rests_34 (by decide) (fun zh34 => ?_) (fun zh34 => ?_)
    · skip
      exact absurd (hz.resolve_left (fun zq => zh26 (by rw [zq]))) (fun zq => zq (b01_ne0.mp zh34))
    · skip
      refine g_bipush (pc := 37) (-2) dX9_rests_37 (by decide) ?_
      refine g_iret (pc := 39) dX9_rests_39 rfl ?_
      exact ⟨rfl, rfl, rfl⟩
theorem c_X9_rests_s {n a b w : Nat} {z : Int32} {v : Mm} {L : Lm} (hC : CSt v n) (ha : a < n) (hb : b < n) (hW : WSt v w) (hab : a ≠ b) (hz : 0 ≤ z ∧ z ≤ 1) : Fn yX9_rests cX9_rests 7 (some .int) 6 [.ref 0, .int (nI a), .int (nI b), .int z] v L (some (.int (if z = 0 then (rsR (rg4 v n a b w) 4 0 (-9)).1 else (rsR (rg4 v n a b w) 4 0 (-9)).2))) (rg4 v n a b w) L := by
  refine Fq.of (plainFor_of_name (by decide)) [some (.ref 0), some (.int (nI a)), some (.int (nI b)), some (.int z), none, none, none] rfl (Nat.le_of_ble_eq_true rfl) ?_
  first | refine g_aload0 (pc := 0) dX9_rests_0 ?_ | refine g_aloadN0 (pc := 0) dX9_rests_0 ?_
  refine g_getR (pc := 1) (j := 2) cf9 dX9_rests_1 fl_RX9_26 (by decide) (by decide) (by first | rfl | assumption) (5) (rfl) ?_
  refine g_iload1 (pc := 4) dX9_rests_4 ?_
  refine g_fV1 (pc := 5) (c_X4_find_s (S := 5) (i := a) s5 (by have := hC.1; omega) (by rw [hC.2.1]; exact nI_lt ha (by have := hC.1; omega))) cf4 (by first | rfl | assumption) dX9_rests_5 cw_RX9_111 (by decide) (Nat.le_of_ble_eq_true rfl) ?_
  refine g_ifnull (pc := 8) dX9_rests_8 ?_
  first | refine g_aload0 (pc := 11) dX9_rests_11 ?_ | refine g_aloadN0 (pc := 11) dX9_rests_11 ?_
  refine g_getR (pc := 12) (j := 2) cf9 dX9_rests_12 fl_RX9_26 (by decide) (by decide) (by first | rfl | assumption) (5) (rfl) ?_
  refine g_iload2 (pc := 15) dX9_rests_15 ?_
  refine g_fV1 (pc := 16) (c_X4_find_s (S := 5) (i := b) s5 (by have := hC.1; omega) (by rw [hC.2.1]; exact nI_lt hb (by have := hC.1; omega))) cf4 (by first | rfl | assumption) dX9_rests_16 cw_RX9_111 (by decide) (Nat.le_of_ble_eq_true rfl) ?_
  refine g_ifnonnull (pc := 19) 24 dX9_rests_19 (by decide) ?_
  refine g_iload1 (pc := 24) dX9_rests_24 ?_
  refine g_iload2 (pc := 25) dX9_rests_25 ?_
  refine g_icmp_eq (pc := 26) 37 dX9_rests_26 (by decide) (fun zh26 => ?_) (fun zh26 => ?_)
  · skip
    exact absurd ((nI_eq (by have := hC.1; omega) (by have := hC.1; omega)).mp zh26) hab
  · skip
    refine g_iload3 (pc := 29) dX9_rests_29 ?_
    refine g_iconst (pc := 30) (1) dX9_rests_30 (by decide) ?_
    refine g_fS2 (pc := 31) (c_X9_isWithin) dX9_rests_31 cw_RX9_68 (by decide) (Nat.le_of_ble_eq_true rfl) ?_
    refine g_if_ne (pc := 34) 40 dX9_rests_34 (by decide) (fun zh34 => ?_) (fun zh34 => ?_)
    · skip
      refine g_iconst (pc := 40) (0) dX9_rests_40 (by decide) ?_
      refine g_istore4 (pc := 41) dX9_rests_41 (by decide) (by first | rfl | assumption) ?_
      refine lp_X9_rests_g hC ha hb hW (fun _ _ _ => rfl) ?_
      refine g_iconst (pc := 63) (0) dX9_rests_63 (by decide) ?_
      refine g_istore4 (pc := 64) dX9_rests_64 (by decide) rfl ?_
      refine g_bipush (pc := 66) (-9) dX9_rests_66 (by decide) ?_
      refine g_istore5 (pc := 68) dX9_rests_68 (by decide) rfl ?_
      refine g_iconst (pc := 70) (3) dX9_rests_70 (by decide) ?_
      refine g_istore6 (pc := 71) dX9_rests_71 (by decide) rfl ?_
      exact lp_X9_rests_r 4 0 (-9) (by decide)
    · skip
      exact absurd hz (b01_eq0.mp zh34)
