theorem c_X10_figureOf {len : Nat} {x y : Int32} {v : Mm} {L : Lm} (hf : Fk v len) : Fn yX10_figureOf cX10_figureOf 5 (some .int) 1 [.ref 79, .int x, .int y] v L (some (.int (fgO v x y).1)) (fgO v x y).2 L := by
  obtain ⟨hl, hl48, a, ha48, ha⟩ := hf
  refine Fq.of (plainFor_of_name (by decide)) [some (.ref 79), some (.int x), some (.int y), none, none] rfl (Nat.le_of_ble_eq_true rfl) ?_
  first | refine g_aload0 (pc := 0) dX10_figureOf_0 ?_ | refine g_aloadN0 (pc := 0) dX10_figureOf_0 ?_
  refine g_getI (pc := 1) (j := 11) cf10 dX10_figureOf_1 fl_RX10_60 (by decide) (by decide) (by first | rfl | assumption) ?_
  refine g_bipush (pc := 4) (-9) dX10_figureOf_4 (by decide) ?_
  refine g_icmp_ne (pc := 6) 24 dX10_figureOf_6 (by decide) (fun zh6 => ?_) (fun zh6 => ?_)
  · skip
    refine g_iconst (pc := 24) (0) dX10_figureOf_24 (by decide) ?_
    refine g_istore3 (pc := 25) dX10_figureOf_25 (by decide) (by first | rfl | assumption) ?_
    refine g_iload3 (pc := 26) dX10_figureOf_26 ?_
    refine g_if_eq (pc := 27) 45 dX10_figureOf_27 (by decide) (fun zh27 => ?_) (fun zh27 => ?_)
    · skip
      refine g_iconst (pc := 45) (0) dX10_figureOf_45 (by decide) ?_
      refine g_istore4 (pc := 46) dX10_figureOf_46 (by decide) (by first | rfl | assumption) ?_
      refine g_iload3 (pc := 48) dX10_figureOf_48 ?_
      refine g_if_eq (pc := 49) 70 dX10_figureOf_49 (by decide) (fun zh49 => ?_) (fun zh49 => ?_)
      · skip
        first | refine g_aload0 (pc := 70) dX10_figureOf_70 ?_ | refine g_aloadN0 (pc := 70) dX10_figureOf_70 ?_
        first | refine g_aload0 (pc := 71) dX10_figureOf_71 ?_ | refine g_aloadN0 (pc := 71) dX10_figureOf_71 ?_
        refine g_getI (pc := 72) (j := 11) cf10 dX10_figureOf_72 fl_RX10_60 (by decide) (by decide) (by first | rfl | assumption) ?_
        refine g_bipush (pc := 75) (-9) dX10_figureOf_75 (by decide) ?_
        refine g_icmp_ne (pc := 77) 87 dX10_figureOf_77 (by decide) (fun zh77 => ?_) (fun zh77 => ?_)
        · skip
          first | refine g_aload0 (pc := 87) dX10_figureOf_87 ?_ | refine g_aloadN0 (pc := 87) dX10_figureOf_87 ?_
          refine g_getI (pc := 88) (j := 11) cf10 dX10_figureOf_88 fl_RX10_60 (by decide) (by decide) (by first | rfl | assumption) ?_
          refine g_putI (pc := 91) (j := 11) cf10 dX10_figureOf_91 fl_RX10_60 (by decide) rfl rfl (by decide) (by first | rfl | assumption) ?_
          refine g_iconst (pc := 94) (0) dX10_figureOf_94 (by decide) ?_
          refine g_iret (pc := 95) dX10_figureOf_95 rfl ?_
          have ee : fgO v x y = (0, v) := if_neg zh6
          rw [ee]; exact ⟨rfl, u2_same rfl, rfl⟩
        · skip
          first | refine g_aload0 (pc := 80) dX10_figureOf_80 ?_ | refine g_aloadN0 (pc := 80) dX10_figureOf_80 ?_
          refine g_getI (pc := 81) (j := 10) cf10 dX10_figureOf_81 fl_RX10_63 (by decide) (by decide) (by first | rfl | assumption) ?_
          refine g_goto (pc := 84) 91 dX10_figureOf_84 (by decide) ?_
          refine g_putI (pc := 91) (j := 11) cf10 dX10_figureOf_91 fl_RX10_60 (by decide) rfl rfl (by decide) (by first | rfl | assumption) ?_
          refine g_iconst (pc := 94) (0) dX10_figureOf_94 (by decide) ?_
          refine g_iret (pc := 95) dX10_figureOf_95 rfl ?_
          exact absurd zh77 zh6
      · skip
        exact absurd rfl zh49
    · skip
      exact absurd rfl zh27
  · skip
    first | refine g_aload0 (pc := 9) dX10_figureOf_9 ?_ | refine g_aloadN0 (pc := 9) dX10_figureOf_9 ?_
    refine g_getI (pc := 10) (j := 10) cf10 dX10_figureOf_10 fl_RX10_63 (by decide) (by decide) (by first | rfl | assumption) ?_
    first | refine g_aload0 (pc := 13) dX10_figureOf_13 ?_ | refine g_aloadN0 (pc := 13) dX10_figureOf_13 ?_
    refine g_getI (pc := 14) (j := 9) cf10 dX10_figureOf_14 fl_RX10_56 (by decide) (by decide) (by first | rfl | assumption) ?_
    refine g_icmp_ge (pc := 17) 24 dX10_figureOf_17 (by decide) (fun zh17 => ?_) (fun zh17 => ?_)
    · skip
      refine g_iconst (pc := 24) (0) dX10_figureOf_24 (by decide) ?_
      refine g_istore3 (pc := 25) dX10_figureOf_25 (by decide) (by first | rfl | assumption) ?_
      refine g_iload3 (pc := 26) dX10_figureOf_26 ?_
      refine g_if_eq (pc := 27) 45 dX10_figureOf_27 (by decide) (fun zh27 => ?_) (fun zh27 => ?_)
      · skip
        refine g_iconst (pc := 45) (0) dX10_figureOf_45 (by decide) ?_
        refine g_istore4 (pc := 46) dX10_figureOf_46 (by decide) (by first | rfl | assumption) ?_
        refine g_iload3 (pc := 48) dX10_figureOf_48 ?_
        refine g_if_eq (pc := 49) 70 dX10_figureOf_49 (by decide) (fun zh49 => ?_) (fun zh49 => ?_)
        · skip
          first | refine g_aload0 (pc := 70) dX10_figureOf_70 ?_ | refine g_aloadN0 (pc := 70) dX10_figureOf_70 ?_
          first | refine g_aload0 (pc := 71) dX10_figureOf_71 ?_ | refine g_aloadN0 (pc := 71) dX10_figureOf_71 ?_
          refine g_getI (pc := 72) (j := 11) cf10 dX10_figureOf_72 fl_RX10_60 (by decide) (by decide) (by first | rfl | assumption) ?_
          refine g_bipush (pc := 75) (-9) dX10_figureOf_75 (by decide) ?_
          refine g_icmp_ne (pc := 77) 87 dX10_figureOf_77 (by decide) (fun zh77 => ?_) (fun zh77 => ?_)
          · skip
            first | refine g_aload0 (pc := 87) dX10_figureOf_87 ?_ | refine g_aloadN0 (pc := 87) dX10_figureOf_87 ?_
            refine g_getI (pc := 88) (j := 11) cf10 dX10_figureOf_88 fl_RX10_60 (by decide) (by decide) (by first | rfl | assumption) ?_
            refine g_putI (pc := 91) (j := 11) cf10 dX10_figureOf_91 fl_RX10_60 (by decide) rfl rfl (by decide) (by first | rfl | assumption) ?_
            refine g_iconst (pc := 94) (0) dX10_figureOf_94 (by decide) ?_
            refine g_iret (pc := 95) dX10_figureOf_95 rfl ?_
            exact absurd zh6 zh77
          · skip
            first | refine g_aload0 (pc := 80) dX10_figureOf_80 ?_ | refine g_aloadN0 (pc := 80) dX10_figureOf_80 ?_
            refine g_getI (pc := 81) (j := 10) cf10 dX10_figureOf_81 fl_RX10_63 (by decide) (by decide) (by first | rfl | assumption) ?_
            refine g_goto (pc := 84) 91 dX10_figureOf_84 (by decide) ?_
            refine g_putI (pc := 91) (j := 11) cf10 dX10_figureOf_91 fl_RX10_60 (by decide) rfl rfl (by decide) (by first | rfl | assumption) ?_
            refine g_iconst (pc := 94) (0) dX10_figureOf_94 (by decide) ?_
            refine g_iret (pc := 95) dX10_figureOf_95 rfl ?_
            have ee : fgO v x y = (0, upd2 v 79 11 (v 79 10)) := (if_pos zh6).trans (if_neg (fun zq => i32nlt.mpr zh17 zq.1))
            rw [ee]; exact ⟨rfl, rfl, rfl⟩
        · skip
          exact absurd rfl zh49
      · skip
        exact absurd rfl zh27
    · skip
      refine g_iconst (pc := 20) (1) dX10_figureOf_20 (by decide) ?_
      refine g_goto (pc := 21) 25 dX10_figureOf_21 (by decide) ?_
      refine g_istore3 (pc := 25) dX10_figureOf_25 (by decide) (by first | rfl | assumption) ?_
      refine g_iload3 (pc := 26) dX10_figureOf_26 ?_
      refine g_if_eq (pc := 27) 45 dX10_figureOf_27 (by decide) (fun zh27 => ?_) (fun zh27 => ?_)
      · skip
        exact absurd zh27 (by decide)
      · skip
        have za : a < len := by rcases Nat.lt_or_ge a len with zq | zq; exact zq; exact absurd (show v 79 9 ≤ v 79 10 by rw [ha, hl]; exact nI_le zq (by omega)) zh17
        first | refine g_aload0 (pc := 30) dX10_figureOf_30 ?_ | refine g_aloadN0 (pc := 30) dX10_figureOf_30 ?_
        refine g_getR (pc := 31) (j := 8) cf10 dX10_figureOf_31 fl_RX10_25 (by decide) (by decide) (by first | rfl | assumption) (85) (rfl) ?_
        first | refine g_aload0 (pc := 34) dX10_figureOf_34 ?_ | refine g_aloadN0 (pc := 34) dX10_figureOf_34 ?_
        refine g_getI (pc := 35) (j := 10) cf10 dX10_figureOf_35 fl_RX10_63 (by decide) (by decide) (by first | rfl | assumption) ?_
        refine g_ialdX (pc := 38) (a) dX10_figureOf_38 (rfl) (ha) (by have := ln_all; omega) (by decide) ?_
        rw [show v 85 a = v 85 (v 79 10).toNatClampNeg by rw [ha, nI_clamp (by omega)]]
        refine g_bipush (pc := 39) (48) dX10_figureOf_39 (by decide) ?_
        refine g_isub (pc := 41) dX10_figureOf_41 ?_
        refine g_goto (pc := 42) 46 dX10_figureOf_42 (by decide) ?_
        refine g_istore4 (pc := 46) dX10_figureOf_46 (by decide) (by first | rfl | assumption) ?_
        refine g_iload3 (pc := 48) dX10_figureOf_48 ?_
        refine g_if_eq (pc := 49) 70 dX10_figureOf_49 (by decide) (fun zh49 => ?_) (fun zh49 => ?_)
        · skip
          exact absurd zh49 (by decide)
        · skip
          refine g_iload4 (pc := 52) dX10_figureOf_52 ?_
          refine g_i2l (pc := 54) dX10_figureOf_54 ?_
          refine g_lconst (pc := 55) (0) dX10_figureOf_55 (by decide) ?_
          refine g_iload1 (pc := 56) dX10_figureOf_56 ?_
          refine g_i2l (pc := 57) dX10_figureOf_57 ?_
          refine g_fS3 (pc := 58) (c_X10_in) dX10_figureOf_58 cw_RX10_52 (by decide) (Nat.le_of_ble_eq_true rfl) ?_
          refine g_if_eq (pc := 61) 70 dX10_figureOf_61 (by decide) (fun zh61 => ?_) (fun zh61 => ?_)
          · skip
            first | refine g_aload0 (pc := 70) dX10_figureOf_70 ?_ | refine g_aloadN0 (pc := 70) dX10_figureOf_70 ?_
            first | refine g_aload0 (pc := 71) dX10_figureOf_71 ?_ | refine g_aloadN0 (pc := 71) dX10_figureOf_71 ?_
            refine g_getI (pc := 72) (j := 11) cf10 dX10_figureOf_72 fl_RX10_60 (by decide) (by decide) (by first | rfl | assumption) ?_
            refine g_bipush (pc := 75) (-9) dX10_figureOf_75 (by decide) ?_
            refine g_icmp_ne (pc := 77) 87 dX10_figureOf_77 (by decide) (fun zh77 => ?_) (fun zh77 => ?_)
            · skip
              first | refine g_aload0 (pc := 87) dX10_figureOf_87 ?_ | refine g_aloadN0 (pc := 87) dX10_figureOf_87 ?_
              refine g_getI (pc := 88) (j := 11) cf10 dX10_figureOf_88 fl_RX10_60 (by decide) (by decide) (by first | rfl | assumption) ?_
              refine g_putI (pc := 91) (j := 11) cf10 dX10_figureOf_91 fl_RX10_60 (by decide) rfl rfl (by decide) (by first | rfl | assumption) ?_
              refine g_iconst (pc := 94) (0) dX10_figureOf_94 (by decide) ?_
              refine g_iret (pc := 95) dX10_figureOf_95 rfl ?_
              exact absurd zh6 zh77
            · skip
              first | refine g_aload0 (pc := 80) dX10_figureOf_80 ?_ | refine g_aloadN0 (pc := 80) dX10_figureOf_80 ?_
              refine g_getI (pc := 81) (j := 10) cf10 dX10_figureOf_81 fl_RX10_63 (by decide) (by decide) (by first | rfl | assumption) ?_
              refine g_goto (pc := 84) 91 dX10_figureOf_84 (by decide) ?_
              refine g_putI (pc := 91) (j := 11) cf10 dX10_figureOf_91 fl_RX10_60 (by decide) rfl rfl (by decide) (by first | rfl | assumption) ?_
              refine g_iconst (pc := 94) (0) dX10_figureOf_94 (by decide) ?_
              refine g_iret (pc := 95) dX10_figureOf_95 rfl ?_
              have ee : fgO v x y = (0, upd2 v 79 11 (v 79 10)) := (if_pos zh6).trans (if_neg (fun zq => b01_eq0.mp zh61 (inV.mpr zq.2.1)))
              rw [ee]; exact ⟨rfl, rfl, rfl⟩
          · skip
            refine g_iload4 (pc := 64) dX10_figureOf_64 ?_
            refine g_iload2 (pc := 66) dX10_figureOf_66 ?_
            refine g_icmp_ne (pc := 67) 96 dX10_figureOf_67 (by decide) (fun zh67 => ?_) (fun zh67 => ?_)
            · skip
              first | refine g_aload0 (pc := 96) dX10_figureOf_96 ?_ | refine g_aloadN0 (pc := 96) dX10_figureOf_96 ?_
              refine g_dup (pc := 97) dX10_figureOf_97 rfl ?_
              refine g_getI (pc := 98) (j := 10) cf10 dX10_figureOf_98 fl_RX10_63 (by decide) (by decide) (by first | rfl | assumption) ?_
              refine g_iconst (pc := 101) (1) dX10_figureOf_101 (by decide) ?_
              refine g_iadd (pc := 102) dX10_figureOf_102 ?_
              refine g_putI (pc := 103) (j := 10) cf10 dX10_figureOf_103 fl_RX10_63 (by decide) rfl rfl (by decide) (by first | rfl | assumption) ?_
              refine g_iload4 (pc := 106) dX10_figureOf_106 ?_
              refine g_iret (pc := 108) dX10_figureOf_108 rfl ?_
              have ee : fgO v x y = (fgV v, upd2 v 79 10 (v 79 10 + 1)) := (if_pos zh6).trans (if_pos ⟨i32nle.mp zh17, inV.mp (b01_ne0.mp zh61), zh67⟩)
              rw [ee]; exact ⟨rfl, rfl, rfl⟩
            · skip
              first | refine g_aload0 (pc := 70) dX10_figureOf_70 ?_ | refine g_aloadN0 (pc := 70) dX10_figureOf_70 ?_
              first | refine g_aload0 (pc := 71) dX10_figureOf_71 ?_ | refine g_aloadN0 (pc := 71) dX10_figureOf_71 ?_
              refine g_getI (pc := 72) (j := 11) cf10 dX10_figureOf_72 fl_RX10_60 (by decide) (by decide) (by first | rfl | assumption) ?_
              refine g_bipush (pc := 75) (-9) dX10_figureOf_75 (by decide) ?_
              refine g_icmp_ne (pc := 77) 87 dX10_figureOf_77 (by decide) (fun zh77 => ?_) (fun zh77 => ?_)
              · skip
                first | refine g_aload0 (pc := 87) dX10_figureOf_87 ?_ | refine g_aloadN0 (pc := 87) dX10_figureOf_87 ?_
                refine g_getI (pc := 88) (j := 11) cf10 dX10_figureOf_88 fl_RX10_60 (by decide) (by decide) (by first | rfl | assumption) ?_
                refine g_putI (pc := 91) (j := 11) cf10 dX10_figureOf_91 fl_RX10_60 (by decide) rfl rfl (by decide) (by first | rfl | assumption) ?_
                refine g_iconst (pc := 94) (0) dX10_figureOf_94 (by decide) ?_
                refine g_iret (pc := 95) dX10_figureOf_95 rfl ?_
                exact absurd zh6 zh77
              · skip
                first | refine g_aload0 (pc := 80) dX10_figureOf_80 ?_ | refine g_aloadN0 (pc := 80) dX10_figureOf_80 ?_
                refine g_getI (pc := 81) (j := 10) cf10 dX10_figureOf_81 fl_RX10_63 (by decide) (by decide) (by first | rfl | assumption) ?_
                refine g_goto (pc := 84) 91 dX10_figureOf_84 (by decide) ?_
                refine g_putI (pc := 91) (j := 11) cf10 dX10_figureOf_91 fl_RX10_60 (by decide) rfl rfl (by decide) (by first | rfl | assumption) ?_
                refine g_iconst (pc := 94) (0) dX10_figureOf_94 (by decide) ?_
                refine g_iret (pc := 95) dX10_figureOf_95 rfl ?_
                have ee : fgO v x y = (0, upd2 v 79 11 (v 79 10)) := (if_pos zh6).trans (if_neg (fun zq => zq.2.2 zh67))
                rw [ee]; exact ⟨rfl, rfl, rfl⟩
theorem c_X10_readPart_p {len pl p : Nat} {v : Mm} {L : Lm} (hl : v 79 9 = nI len) (hl48 : len ≤ 48) (hat : v 79 10 = nI pl) (hpl : pl < len) (zh6 : v 79 6 = nI p) (hp4 : p < 4) : Fn yX10_readPart cX10_readPart 4 none 2 [.ref 79, .int 80] v L none (rdq7 v p (rdpT v p)) L := by
  have hf0 : Fk (rdp0 v) len := ⟨by unfold rdp0; rw [u2_n (by decide)]; exact hl, hl48, pl + 1, by omega, by unfold rdp0; rw [u2_s, hat]; exact nI_add pl 1⟩
  have hf2 : Fk (rdq2 v p) len := hf0.fg.fg.up (by decide)
  have hf3 : Fk (rdq3 v p) len := hf2.fg.up (by decide)
  have hf4 : Fk (rdq4 v p) len := hf3.fg.up (by decide)
  have hf5 : ∀ zt : Int32, Fk (rdq5 v p zt) len := fun zt => hf4.fg.up (by decide)
  refine Fq.of (plainFor_of_name (by decide)) [some (.ref 79), some (.int 80), none, none] rfl (Nat.le_of_ble_eq_true rfl) ?_
  refine g_iload1 (pc := 0) dX10_readPart_0 ?_
  refine g_bipush (pc := 1) (80) dX10_readPart_1 (by decide) ?_
  refine g_icmp_ne (pc := 3) 148 dX10_readPart_3 (by decide) (fun zh3 => ?_) (fun zh3 => ?_)
  · skip
    exact absurd rfl zh3
  · skip
    first | refine g_aload0 (pc := 6) dX10_readPart_6 ?_ | refine g_aloadN0 (pc := 6) dX10_readPart_6 ?_
    refine g_getI (pc := 7) (j := 6) cf10 dX10_readPart_7 fl_RX10_66 (by decide) (by decide) (by first | rfl | assumption) ?_
    refine g_iconst (pc := 10) (4) dX10_readPart_10 (by decide) ?_
    refine g_icmp_ge (pc := 11) 148 dX10_readPart_11 (by decide) (fun zh11 => ?_) (fun zh11 => ?_)
    · skip
      exact absurd zh11 (by rw [zh6]; exact nI_ge (b := 4) hp4 (by decide))
    · skip
      first | refine g_aload0 (pc := 14) dX10_readPart_14 ?_ | refine g_aloadN0 (pc := 14) dX10_readPart_14 ?_
      refine g_dup (pc := 15) dX10_readPart_15 rfl ?_
      refine g_getI (pc := 16) (j := 10) cf10 dX10_readPart_16 fl_RX10_63 (by decide) (by decide) (by first | rfl | assumption) ?_
      refine g_iconst (pc := 19) (1) dX10_readPart_19 (by decide) ?_
      refine g_iadd (pc := 20) dX10_readPart_20 ?_
      refine g_putI (pc := 21) (j := 10) cf10 dX10_readPart_21 fl_RX10_63 (by decide) rfl rfl (by decide) (by first | rfl | assumption) ?_
      refine g_iconst (pc := 24) (5) dX10_readPart_24 (by decide) ?_
      first | refine g_aload0 (pc := 25) dX10_readPart_25 ?_ | refine g_aloadN0 (pc := 25) dX10_readPart_25 ?_
      refine g_getI (pc := 26) (j := 6) cf10 dX10_readPart_26 fl_RX10_66 (by decide) (by decide) (by first | rfl | assumption) ?_
      rw [u2_n (by decide), zh6]
      refine g_imul (pc := 29) dX10_readPart_29 ?_
      rw [ix5']
      refine g_istore2 (pc := 30) dX10_readPart_30 (by decide) (by first | rfl | assumption) ?_
      first | refine g_aload0 (pc := 31) dX10_readPart_31 ?_ | refine g_aloadN0 (pc := 31) dX10_readPart_31 ?_
      refine g_iconst (pc := 32) (4) dX10_readPart_32 (by decide) ?_
      refine g_bipush (pc := 33) (-9) dX10_readPart_33 (by decide) ?_
      refine g_fV2 (pc := 35) (c_X10_figureOf (len := len) hf0) cf10 (by first | rfl | assumption) dX10_readPart_35 cw_RX10_76 (by decide) (Nat.le_of_ble_eq_true rfl) ?_
      refine g_istore3 (pc := 38) dX10_readPart_38 (by decide) (by first | rfl | assumption) ?_
      first | refine g_aload0 (pc := 39) dX10_readPart_39 ?_ | refine g_aloadN0 (pc := 39) dX10_readPart_39 ?_
      refine g_getR (pc := 40) (j := 4) cf10 dX10_readPart_40 fl_RX10_19 (by decide) (by decide) (by first | rfl | assumption) (83) (rfl) ?_
      refine g_iload2 (pc := 43) dX10_readPart_43 ?_
      refine g_iconst (pc := 44) (5) dX10_readPart_44 (by decide) ?_
      first | refine g_aload0 (pc := 45) dX10_readPart_45 ?_ | refine g_aloadN0 (pc := 45) dX10_readPart_45 ?_
      refine g_iconst (pc := 46) (4) dX10_readPart_46 (by decide) ?_
      refine g_bipush (pc := 47) (-9) dX10_readPart_47 (by decide) ?_
      refine g_fV2 (pc := 49) (c_X10_figureOf (len := len) hf0.fg) cf10 (by first | rfl | assumption) dX10_readPart_49 cw_RX10_76 (by decide) (Nat.le_of_ble_eq_true rfl) ?_
      refine g_imul (pc := 52) dX10_readPart_52 ?_
      refine g_iload3 (pc := 53) dX10_readPart_53 ?_
      refine g_iadd (pc := 54) dX10_readPart_54 ?_
      refine g_iastX (pc := 55) (5 * p) dX10_readPart_55 (rfl) (rfl) (by have := ln_all; omega) (by decide) ?_
      first | refine g_aload0 (pc := 56) dX10_readPart_56 ?_ | refine g_aloadN0 (pc := 56) dX10_readPart_56 ?_
      refine g_getR (pc := 57) (j := 4) cf10 dX10_readPart_57 fl_RX10_19 (by decide) (by decide) (by first | rfl | assumption) (83) (rfl) ?_
      refine g_iload2 (pc := 60) dX10_readPart_60 ?_
      refine g_iconst (pc := 61) (1) dX10_readPart_61 (by decide) ?_
      refine g_iadd (pc := 62) dX10_readPart_62 ?_
      first | refine g_aload0 (pc := 63) dX10_readPart_63 ?_ | refine g_aloadN0 (pc := 63) dX10_readPart_63 ?_
      refine g_iconst (pc := 64) (3) dX10_readPart_64 (by decide) ?_
      refine g_bipush (pc := 65) (-9) dX10_readPart_65 (by decide) ?_
      refine g_fV2 (pc := 67) (c_X10_figureOf (len := len) hf2) cf10 (by first | rfl | assumption) dX10_readPart_67 cw_RX10_76 (by decide) (Nat.le_of_ble_eq_true rfl) ?_
      refine g_iastX (pc := 70) (5 * p + 1) dX10_readPart_70 (rfl) (nI_add _ 1) (by have := ln_all; omega) (by decide) ?_
      first | refine g_aload0 (pc := 71) dX10_readPart_71 ?_ | refine g_aloadN0 (pc := 71) dX10_readPart_71 ?_
      refine g_getR (pc := 72) (j := 4) cf10 dX10_readPart_72 fl_RX10_19 (by decide) (by decide) (by first | rfl | assumption) (83) (rfl) ?_
      refine g_iload2 (pc := 75) dX10_readPart_75 ?_
      refine g_iconst (pc := 76) (2) dX10_readPart_76 (by decide) ?_
      refine g_iadd (pc := 77) dX10_readPart_77 ?_
      first | refine g_aload0 (pc := 78) dX10_readPart_78 ?_ | refine g_aloadN0 (pc := 78) dX10_readPart_78 ?_
      refine g_bipush (pc := 79) (6) dX10_readPart_79 (by decide) ?_
      refine g_bipush (pc := 81) (-9) dX10_readPart_81 (by decide) ?_
      refine g_fV2 (pc := 83) (c_X10_figureOf (len := len) hf3) cf10 (by first | rfl | assumption) dX10_readPart_83 cw_RX10_76 (by decide) (Nat.le_of_ble_eq_true rfl) ?_
      refine g_iastX (pc := 86) (5 * p + 2) dX10_readPart_86 (rfl) (nI_add _ 2) (by have := ln_all; omega) (by decide) ?_
      first | refine g_aload0 (pc := 87) dX10_readPart_87 ?_ | refine g_aloadN0 (pc := 87) dX10_readPart_87 ?_
      refine g_getR (pc := 88) (j := 4) cf10 dX10_readPart_88 fl_RX10_19 (by decide) (by decide) (by first | rfl | assumption) (83) (rfl) ?_
      refine g_iload2 (pc := 91) dX10_readPart_91 ?_
      refine g_iconst (pc := 92) (3) dX10_readPart_92 (by decide) ?_
      refine g_iadd (pc := 93) dX10_readPart_93 ?_
      first | refine g_aload0 (pc := 94) dX10_readPart_94 ?_ | refine g_aloadN0 (pc := 94) dX10_readPart_94 ?_
      refine g_bipush (pc := 95) (6) dX10_readPart_95 (by decide) ?_
      first | refine g_aload0 (pc := 97) dX10_readPart_97 ?_ | refine g_aloadN0 (pc := 97) dX10_readPart_97 ?_
      refine g_getR (pc := 98) (j := 4) cf10 dX10_readPart_98 fl_RX10_19 (by decide) (by decide) (by first | rfl | assumption) (83) (rfl) ?_
      refine g_iload2 (pc := 101) dX10_readPart_101 ?_
      refine g_iconst (pc := 102) (2) dX10_readPart_102 (by decide) ?_
      refine g_iadd (pc := 103) dX10_readPart_103 ?_
      refine g_ialdX (pc := 104) (5 * p + 2) dX10_readPart_104 (rfl) (nI_add _ 2) (by have := ln_all; omega) (by decide) ?_
      refine g_iconst (pc := 105) (3) dX10_readPart_105 (by decide) ?_
      refine g_icmp_ne (pc := 106) 113 dX10_readPart_106 (by decide) (fun zh106 => ?_) (fun zh106 => ?_)
      · skip
        refine g_bipush (pc := 113) (-9) dX10_readPart_113 (by decide) ?_
        refine g_fV2 (pc := 115) (c_X10_figureOf (len := len) hf4) cf10 (by first | rfl | assumption) dX10_readPart_115 cw_RX10_76 (by decide) (Nat.le_of_ble_eq_true rfl) ?_
        refine g_iastX (pc := 118) (5 * p + 3) dX10_readPart_118 (rfl) (nI_add _ 3) (by have := ln_all; omega) (by decide) ?_
        first | refine g_aload0 (pc := 119) dX10_readPart_119 ?_ | refine g_aloadN0 (pc := 119) dX10_readPart_119 ?_
        refine g_getR (pc := 120) (j := 4) cf10 dX10_readPart_120 fl_RX10_19 (by decide) (by decide) (by first | rfl | assumption) (83) (rfl) ?_
        refine g_iload2 (pc := 123) dX10_readPart_123 ?_
        refine g_iconst (pc := 124) (4) dX10_readPart_124 (by decide) ?_
        refine g_iadd (pc := 125) dX10_readPart_125 ?_
        first | refine g_aload0 (pc := 126) dX10_readPart_126 ?_ | refine g_aloadN0 (pc := 126) dX10_readPart_126 ?_
        refine g_bipush (pc := 127) (9) dX10_readPart_127 (by decide) ?_
        refine g_bipush (pc := 129) (-9) dX10_readPart_129 (by decide) ?_
        refine g_fV2 (pc := 131) (c_X10_figureOf (len := len) (hf5 _)) cf10 (by first | rfl | assumption) dX10_readPart_131 cw_RX10_76 (by decide) (Nat.le_of_ble_eq_true rfl) ?_
        refine g_iastX (pc := 134) (5 * p + 4) dX10_readPart_134 (rfl) (nI_add _ 4) (by have := ln_all; omega) (by decide) ?_
        first | refine g_aload0 (pc := 135) dX10_readPart_135 ?_ | refine g_aloadN0 (pc := 135) dX10_readPart_135 ?_
        refine g_dup (pc := 136) dX10_readPart_136 rfl ?_
        refine g_getI (pc := 137) (j := 6) cf10 dX10_readPart_137 fl_RX10_66 (by decide) (by decide) (by first | rfl | assumption) ?_
        refine g_iconst (pc := 140) (1) dX10_readPart_140 (by decide) ?_
        refine g_iadd (pc := 141) dX10_readPart_141 ?_
        refine g_putI (pc := 142) (j := 6) cf10 dX10_readPart_142 fl_RX10_66 (by decide) rfl rfl (by decide) (by first | rfl | assumption) ?_
        refine g_goto (pc := 145) 244 dX10_readPart_145 (by decide) ?_
        refine g_vret (pc := 244) dX10_readPart_244 rfl ?_
        exact ⟨rfl, congrArg (rdq7 v p) (if_neg zh106).symm, rfl⟩
      · skip
        refine g_iconst (pc := 109) (3) dX10_readPart_109 (by decide) ?_
        refine g_goto (pc := 110) 115 dX10_readPart_110 (by decide) ?_
        refine g_fV2 (pc := 115) (c_X10_figureOf (len := len) hf4) cf10 (by first | rfl | assumption) dX10_readPart_115 cw_RX10_76 (by decide) (Nat.le_of_ble_eq_true rfl) ?_
        refine g_iastX (pc := 118) (5 * p + 3) dX10_readPart_118 (rfl) (nI_add _ 3) (by have := ln_all; omega) (by decide) ?_
        first | refine g_aload0 (pc := 119) dX10_readPart_119 ?_ | refine g_aloadN0 (pc := 119) dX10_readPart_119 ?_
        refine g_getR (pc := 120) (j := 4) cf10 dX10_readPart_120 fl_RX10_19 (by decide) (by decide) (by first | rfl | assumption) (83) (rfl) ?_
        refine g_iload2 (pc := 123) dX10_readPart_123 ?_
        refine g_iconst (pc := 124) (4) dX10_readPart_124 (by decide) ?_
        refine g_iadd (pc := 125) dX10_readPart_125 ?_
        first | refine g_aload0 (pc := 126) dX10_readPart_126 ?_ | refine g_aloadN0 (pc := 126) dX10_readPart_126 ?_
        refine g_bipush (pc := 127) (9) dX10_readPart_127 (by decide) ?_
        refine g_bipush (pc := 129) (-9) dX10_readPart_129 (by decide) ?_
        refine g_fV2 (pc := 131) (c_X10_figureOf (len := len) (hf5 _)) cf10 (by first | rfl | assumption) dX10_readPart_131 cw_RX10_76 (by decide) (Nat.le_of_ble_eq_true rfl) ?_
        refine g_iastX (pc := 134) (5 * p + 4) dX10_readPart_134 (rfl) (nI_add _ 4) (by have := ln_all; omega) (by decide) ?_
        first | refine g_aload0 (pc := 135) dX10_readPart_135 ?_ | refine g_aloadN0 (pc := 135) dX10_readPart_135 ?_
        refine g_dup (pc := 136) dX10_readPart_136 rfl ?_
        refine g_getI (pc := 137) (j := 6) cf10 dX10_readPart_137 fl_RX10_66 (by decide) (by decide) (by first | rfl | assumption) ?_
        refine g_iconst (pc := 140) (1) dX10_readPart_140 (by decide) ?_
        refine g_iadd (pc := 141) dX10_readPart_141 ?_
        refine g_putI (pc := 142) (j := 6) cf10 dX10_readPart_142 fl_RX10_66 (by decide) rfl rfl (by decide) (by first | rfl | assumption) ?_
        refine g_goto (pc := 145) 244 dX10_readPart_145 (by decide) ?_
        refine g_vret (pc := 244) dX10_readPart_244 rfl ?_
        exact ⟨rfl, congrArg (rdq7 v p) (if_pos zh106).symm, rfl⟩
theorem c_X10_readPart_s {len pl s : Nat} {v : Mm} {L : Lm} (hl : v 79 9 = nI len) (hl48 : len ≤ 48) (hat : v 79 10 = nI pl) (hpl : pl < len) (zh7 : v 79 7 = nI s) (hs4 : s < 4) : Fn yX10_readPart cX10_readPart 4 none 2 [.ref 79, .int 83] v L none (rdu4 v s) L := by
  have hf0 : Fk (rdp0 v) len := ⟨by unfold rdp0; rw [u2_n (by decide)]; exact hl, hl48, pl + 1, by omega, by unfold rdp0; rw [u2_s, hat]; exact nI_add pl 1⟩
  have hf2 : Fk (rds2 v s) len := hf0.fg.fg.up (by decide)
  refine Fq.of (plainFor_of_name (by decide)) [some (.ref 79), some (.int 83), none, none] rfl (Nat.le_of_ble_eq_true rfl) ?_
  refine g_iload1 (pc := 0) dX10_readPart_0 ?_
  refine g_bipush (pc := 1) (80) dX10_readPart_1 (by decide) ?_
  refine g_icmp_ne (pc := 3) 148 dX10_readPart_3 (by decide) (fun zh3 => ?_) (fun zh3 => ?_)
  · skip
    refine g_iload1 (pc := 148) dX10_readPart_148 ?_
    refine g_bipush (pc := 149) (83) dX10_readPart_149 (by decide) ?_
    refine g_icmp_ne (pc := 151) 236 dX10_readPart_151 (by decide) (fun zh151 => ?_) (fun zh151 => ?_)
    · skip
      exact absurd rfl zh151
    · skip
      first | refine g_aload0 (pc := 154) dX10_readPart_154 ?_ | refine g_aloadN0 (pc := 154) dX10_readPart_154 ?_
      refine g_getI (pc := 155) (j := 7) cf10 dX10_readPart_155 fl_RX10_69 (by decide) (by decide) (by first | rfl | assumption) ?_
      refine g_iconst (pc := 158) (4) dX10_readPart_158 (by decide) ?_
      refine g_icmp_ge (pc := 159) 236 dX10_readPart_159 (by decide) (fun zh159 => ?_) (fun zh159 => ?_)
      · skip
        exact absurd zh159 (by rw [zh7]; exact nI_ge (b := 4) hs4 (by decide))
      · skip
        first | refine g_aload0 (pc := 162) dX10_readPart_162 ?_ | refine g_aloadN0 (pc := 162) dX10_readPart_162 ?_
        refine g_dup (pc := 163) dX10_readPart_163 rfl ?_
        refine g_getI (pc := 164) (j := 10) cf10 dX10_readPart_164 fl_RX10_63 (by decide) (by decide) (by first | rfl | assumption) ?_
        refine g_iconst (pc := 167) (1) dX10_readPart_167 (by decide) ?_
        refine g_iadd (pc := 168) dX10_readPart_168 ?_
        refine g_putI (pc := 169) (j := 10) cf10 dX10_readPart_169 fl_RX10_63 (by decide) rfl rfl (by decide) (by first | rfl | assumption) ?_
        first | refine g_aload0 (pc := 172) dX10_readPart_172 ?_ | refine g_aloadN0 (pc := 172) dX10_readPart_172 ?_
        refine g_iconst (pc := 173) (4) dX10_readPart_173 (by decide) ?_
        refine g_bipush (pc := 174) (-9) dX10_readPart_174 (by decide) ?_
        refine g_fV2 (pc := 176) (c_X10_figureOf (len := len) hf0) cf10 (by first | rfl | assumption) dX10_readPart_176 cw_RX10_76 (by decide) (Nat.le_of_ble_eq_true rfl) ?_
        refine g_istore2 (pc := 179) dX10_readPart_179 (by decide) (by first | rfl | assumption) ?_
        first | refine g_aload0 (pc := 180) dX10_readPart_180 ?_ | refine g_aloadN0 (pc := 180) dX10_readPart_180 ?_
        refine g_getR (pc := 181) (j := 5) cf10 dX10_readPart_181 fl_RX10_22 (by decide) (by decide) (by first | rfl | assumption) (84) (rfl) ?_
        refine g_iconst (pc := 184) (2) dX10_readPart_184 (by decide) ?_
        first | refine g_aload0 (pc := 185) dX10_readPart_185 ?_ | refine g_aloadN0 (pc := 185) dX10_readPart_185 ?_
        refine g_getI (pc := 186) (j := 7) cf10 dX10_readPart_186 fl_RX10_69 (by decide) (by decide) (by first | rfl | assumption) ?_
        rw [fgO_n (by decide), u2_n (by decide), zh7]
        refine g_imul (pc := 189) dX10_readPart_189 ?_
        refine g_iconst (pc := 190) (5) dX10_readPart_190 (by decide) ?_
        first | refine g_aload0 (pc := 191) dX10_readPart_191 ?_ | refine g_aloadN0 (pc := 191) dX10_readPart_191 ?_
        refine g_iconst (pc := 192) (4) dX10_readPart_192 (by decide) ?_
        refine g_bipush (pc := 193) (-9) dX10_readPart_193 (by decide) ?_
        refine g_fV2 (pc := 195) (c_X10_figureOf (len := len) hf0.fg) cf10 (by first | rfl | assumption) dX10_readPart_195 cw_RX10_76 (by decide) (Nat.le_of_ble_eq_true rfl) ?_
        rw [ix2']
        refine g_imul (pc := 198) dX10_readPart_198 ?_
        refine g_iload2 (pc := 199) dX10_readPart_199 ?_
        refine g_iadd (pc := 200) dX10_readPart_200 ?_
        refine g_iastX (pc := 201) (2 * s) dX10_readPart_201 (rfl) (rfl) (by have := ln_all; omega) (by decide) ?_
        first | refine g_aload0 (pc := 202) dX10_readPart_202 ?_ | refine g_aloadN0 (pc := 202) dX10_readPart_202 ?_
        refine g_getR (pc := 203) (j := 5) cf10 dX10_readPart_203 fl_RX10_22 (by decide) (by decide) (by first | rfl | assumption) (84) (rfl) ?_
        refine g_iconst (pc := 206) (2) dX10_readPart_206 (by decide) ?_
        first | refine g_aload0 (pc := 207) dX10_readPart_207 ?_ | refine g_aloadN0 (pc := 207) dX10_readPart_207 ?_
        refine g_getI (pc := 208) (j := 7) cf10 dX10_readPart_208 fl_RX10_69 (by decide) (by decide) (by first | rfl | assumption) ?_
        rw [u2_n (fun zq => absurd zq.1 (by decide)), fgO_n (by decide), fgO_n (by decide), u2_n (by decide), zh7]
        refine g_imul (pc := 211) dX10_readPart_211 ?_
        rw [ix2']
        refine g_iconst (pc := 212) (1) dX10_readPart_212 (by decide) ?_
        refine g_iadd (pc := 213) dX10_readPart_213 ?_
        first | refine g_aload0 (pc := 214) dX10_readPart_214 ?_ | refine g_aloadN0 (pc := 214) dX10_readPart_214 ?_
        refine g_bipush (pc := 215) (9) dX10_readPart_215 (by decide) ?_
        refine g_bipush (pc := 217) (-9) dX10_readPart_217 (by decide) ?_
        refine g_fV2 (pc := 219) (c_X10_figureOf (len := len) hf2) cf10 (by first | rfl | assumption) dX10_readPart_219 cw_RX10_76 (by decide) (Nat.le_of_ble_eq_true rfl) ?_
        refine g_iastX (pc := 222) (2 * s + 1) dX10_readPart_222 (rfl) (nI_add _ 1) (by have := ln_all; omega) (by decide) ?_
        first | refine g_aload0 (pc := 223) dX10_readPart_223 ?_ | refine g_aloadN0 (pc := 223) dX10_readPart_223 ?_
        refine g_dup (pc := 224) dX10_readPart_224 rfl ?_
        refine g_getI (pc := 225) (j := 7) cf10 dX10_readPart_225 fl_RX10_69 (by decide) (by decide) (by first | rfl | assumption) ?_
        refine g_iconst (pc := 228) (1) dX10_readPart_228 (by decide) ?_
        refine g_iadd (pc := 229) dX10_readPart_229 ?_
        refine g_putI (pc := 230) (j := 7) cf10 dX10_readPart_230 fl_RX10_69 (by decide) rfl rfl (by decide) (by first | rfl | assumption) ?_
        refine g_goto (pc := 233) 244 dX10_readPart_233 (by decide) ?_
        refine g_vret (pc := 244) dX10_readPart_244 rfl ?_
        exact ⟨rfl, rfl, rfl⟩
  · skip
    exact absurd zh3 (by decide)
theorem c_X10_readPart_o {x : Int32} {p s : Nat} {v : Mm} {L : Lm} (zh6 : v 79 6 = nI p) (zh7 : v 79 7 = nI s) (hp4 : p ≤ 4) (hs4 : s ≤ 4) (hx1 : ¬ (x = 80 ∧ p < 4)) (hx2 : ¬ (x = 83 ∧ s < 4)) : Fn yX10_readPart cX10_readPart 4 none 2 [.ref 79, .int x] v L none (upd2 v 79 11 (v 79 10)) L := by
  refine Fq.of (plainFor_of_name (by decide)) [some (.ref 79), some (.int x), none, none] rfl (Nat.le_of_ble_eq_true rfl) ?_
  refine g_iload1 (pc := 0) dX10_readPart_0 ?_
  refine g_bipush (pc := 1) (80) dX10_readPart_1 (by decide) ?_
  refine g_icmp_ne (pc := 3) 148 dX10_readPart_3 (by decide) (fun zh3 => ?_) (fun zh3 => ?_)
  · skip
    refine g_iload1 (pc := 148) dX10_readPart_148 ?_
    refine g_bipush (pc := 149) (83) dX10_readPart_149 (by decide) ?_
    refine g_icmp_ne (pc := 151) 236 dX10_readPart_151 (by decide) (fun zh151 => ?_) (fun zh151 => ?_)
    · skip
      first | refine g_aload0 (pc := 236) dX10_readPart_236 ?_ | refine g_aloadN0 (pc := 236) dX10_readPart_236 ?_
      first | refine g_aload0 (pc := 237) dX10_readPart_237 ?_ | refine g_aloadN0 (pc := 237) dX10_readPart_237 ?_
      refine g_getI (pc := 238) (j := 10) cf10 dX10_readPart_238 fl_RX10_63 (by decide) (by decide) (by first | rfl | assumption) ?_
      refine g_putI (pc := 241) (j := 11) cf10 dX10_readPart_241 fl_RX10_60 (by decide) rfl rfl (by decide) (by first | rfl | assumption) ?_
      refine g_vret (pc := 244) dX10_readPart_244 rfl ?_
      exact ⟨rfl, rfl, rfl⟩
    · skip
      first | refine g_aload0 (pc := 154) dX10_readPart_154 ?_ | refine g_aloadN0 (pc := 154) dX10_readPart_154 ?_
      refine g_getI (pc := 155) (j := 7) cf10 dX10_readPart_155 fl_RX10_69 (by decide) (by decide) (by first | rfl | assumption) ?_
      refine g_iconst (pc := 158) (4) dX10_readPart_158 (by decide) ?_
      refine g_icmp_ge (pc := 159) 236 dX10_readPart_159 (by decide) (fun zh159 => ?_) (fun zh159 => ?_)
      · skip
        first | refine g_aload0 (pc := 236) dX10_readPart_236 ?_ | refine g_aloadN0 (pc := 236) dX10_readPart_236 ?_
        first | refine g_aload0 (pc := 237) dX10_readPart_237 ?_ | refine g_aloadN0 (pc := 237) dX10_readPart_237 ?_
        refine g_getI (pc := 238) (j := 10) cf10 dX10_readPart_238 fl_RX10_63 (by decide) (by decide) (by first | rfl | assumption) ?_
        refine g_putI (pc := 241) (j := 11) cf10 dX10_readPart_241 fl_RX10_60 (by decide) rfl rfl (by decide) (by first | rfl | assumption) ?_
        refine g_vret (pc := 244) dX10_readPart_244 rfl ?_
        exact ⟨rfl, rfl, rfl⟩
      · skip
        exact absurd ⟨zh151, by rcases Nat.lt_or_ge s 4 with zq | zq; exact zq; exact absurd (show (4 : Int32) ≤ v 79 7 by rw [zh7]; exact nI_le (a := 4) zq (by omega)) zh159⟩ hx2
  · skip
    first | refine g_aload0 (pc := 6) dX10_readPart_6 ?_ | refine g_aloadN0 (pc := 6) dX10_readPart_6 ?_
    refine g_getI (pc := 7) (j := 6) cf10 dX10_readPart_7 fl_RX10_66 (by decide) (by decide) (by first | rfl | assumption) ?_
    refine g_iconst (pc := 10) (4) dX10_readPart_10 (by decide) ?_
    refine g_icmp_ge (pc := 11) 148 dX10_readPart_11 (by decide) (fun zh11 => ?_) (fun zh11 => ?_)
    · skip
      refine g_iload1 (pc := 148) dX10_readPart_148 ?_
      refine g_bipush (pc := 149) (83) dX10_readPart_149 (by decide) ?_
      refine g_icmp_ne (pc := 151) 236 dX10_readPart_151 (by decide) (fun zh151 => ?_) (fun zh151 => ?_)
      · skip
        first | refine g_aload0 (pc := 236) dX10_readPart_236 ?_ | refine g_aloadN0 (pc := 236) dX10_readPart_236 ?_
        first | refine g_aload0 (pc := 237) dX10_readPart_237 ?_ | refine g_aloadN0 (pc := 237) dX10_readPart_237 ?_
        refine g_getI (pc := 238) (j := 10) cf10 dX10_readPart_238 fl_RX10_63 (by decide) (by decide) (by first | rfl | assumption) ?_
        refine g_putI (pc := 241) (j := 11) cf10 dX10_readPart_241 fl_RX10_60 (by decide) rfl rfl (by decide) (by first | rfl | assumption) ?_
        refine g_vret (pc := 244) dX10_readPart_244 rfl ?_
        exact ⟨rfl, rfl, rfl⟩
      · skip
        first | refine g_aload0 (pc := 154) dX10_readPart_154 ?_ | refine g_aloadN0 (pc := 154) dX10_readPart_154 ?_
        refine g_getI (pc := 155) (j := 7) cf10 dX10_readPart_155 fl_RX10_69 (by decide) (by decide) (by first | rfl | assumption) ?_
        refine g_iconst (pc := 158) (4) dX10_readPart_158 (by decide) ?_
        refine g_icmp_ge (pc := 159) 236 dX10_readPart_159 (by decide) (fun zh159 => ?_) (fun zh159 => ?_)
        · skip
          first | refine g_aload0 (pc := 236) dX10_readPart_236 ?_ | refine g_aloadN0 (pc := 236) dX10_readPart_236 ?_
          first | refine g_aload0 (pc := 237) dX10_readPart_237 ?_ | refine g_aloadN0 (pc := 237) dX10_readPart_237 ?_
          refine g_getI (pc := 238) (j := 10) cf10 dX10_readPart_238 fl_RX10_63 (by decide) (by decide) (by first | rfl | assumption) ?_
          refine g_putI (pc := 241) (j := 11) cf10 dX10_readPart_241 fl_RX10_60 (by decide) rfl rfl (by decide) (by first | rfl | assumption) ?_
          refine g_vret (pc := 244) dX10_readPart_244 rfl ?_
          exact ⟨rfl, rfl, rfl⟩
        · skip
          exact absurd ⟨zh151, by rcases Nat.lt_or_ge s 4 with zq | zq; exact zq; exact absurd (show (4 : Int32) ≤ v 79 7 by rw [zh7]; exact nI_le (a := 4) zq (by omega)) zh159⟩ hx2
    · skip
      exact absurd ⟨zh3, by rcases Nat.lt_or_ge p 4 with zq | zq; exact zq; exact absurd (show (4 : Int32) ≤ v 79 6 by rw [zh6]; exact nI_le (a := 4) zq (by omega)) zh11⟩ hx1
