theorem lp_X10_readText_x {f : Nat} {w : Mm} {L : Lm} {Q : Qt} (hf : w 79 11 = nI f) (hf48 : f ≤ 48) (hq : Q (some (.int (nI f))) w L) : G RX10 cX10_readText 1 (some .int) 3 Q 46 [some (.ref 79)] [] w L := by
  first | refine g_aload0 (pc := 46) dX10_readText_46 ?_ | refine g_aloadN0 (pc := 46) dX10_readText_46 ?_
  refine g_getI (pc := 47) (j := 11) cf10 dX10_readText_47 fl_RX10_60 (by decide) (by decide) (by first | rfl | assumption) ?_
  refine g_bipush (pc := 50) (-9) dX10_readText_50 (by decide) ?_
  refine g_icmp_ne (pc := 52) 82 dX10_readText_52 (by decide) (fun zh52 => ?_) (fun zh52 => ?_)
  · skip
    first | refine g_aload0 (pc := 82) dX10_readText_82 ?_ | refine g_aloadN0 (pc := 82) dX10_readText_82 ?_
    refine g_getI (pc := 83) (j := 11) cf10 dX10_readText_83 fl_RX10_60 (by decide) (by decide) (by first | rfl | assumption) ?_
    rw [hf]
    refine g_iret (pc := 86) dX10_readText_86 rfl ?_
    exact hq
  · skip
    exact absurd (hf.symm.trans zh52) (nI_ne9 (by omega))
theorem lp_X10_readText {len : Nat} {v : Mm} {L : Lm} (hT : Txt v len) : ∀ (m : Nat) (p s pl : Nat) (w : Mm), len < pl + m → pl < 100 → GSt v w pl → w 79 6 = nI p → w 79 7 = nI s → RowsOk (p, s, w 83, w 84) → G RX10 cX10_readText 1 (some .int) 3 (RdQ v L (ffF v len m p s pl) (rdR v len m p s pl (w 83) (w 84))) 46 [some (.ref 79)] [] w L := by
  intro m
  induction m with
  | zero =>
    intro p s pl w hlt hpl hG zh6 zh7 hR
    have hl48 := hT.2.1
    have ze9 : w 79 9 = nI len := (hG.1 79 9 (by decide) (by decide) (by decide)).trans hT.1
    first | refine g_aload0 (pc := 46) dX10_readText_46 ?_ | refine g_aloadN0 (pc := 46) dX10_readText_46 ?_
    refine g_getI (pc := 47) (j := 11) cf10 dX10_readText_47 fl_RX10_60 (by decide) (by decide) (by first | rfl | assumption) ?_
    refine g_bipush (pc := 50) (-9) dX10_readText_50 (by decide) ?_
    refine g_icmp_ne (pc := 52) 82 dX10_readText_52 (by decide) (fun zh52 => ?_) (fun zh52 => ?_)
    · skip
      exact absurd hG.2.2 zh52
    · skip
      first | refine g_aload0 (pc := 55) dX10_readText_55 ?_ | refine g_aloadN0 (pc := 55) dX10_readText_55 ?_
      refine g_getI (pc := 56) (j := 10) cf10 dX10_readText_56 fl_RX10_63 (by decide) (by decide) (by first | rfl | assumption) ?_
      first | refine g_aload0 (pc := 59) dX10_readText_59 ?_ | refine g_aloadN0 (pc := 59) dX10_readText_59 ?_
      refine g_getI (pc := 60) (j := 9) cf10 dX10_readText_60 fl_RX10_56 (by decide) (by decide) (by first | rfl | assumption) ?_
      refine g_icmp_ge (pc := 63) 82 dX10_readText_63 (by decide) (fun zh63 => ?_) (fun zh63 => ?_)
      · skip
        first | refine g_aload0 (pc := 82) dX10_readText_82 ?_ | refine g_aloadN0 (pc := 82) dX10_readText_82 ?_
        refine g_getI (pc := 83) (j := 11) cf10 dX10_readText_83 fl_RX10_60 (by decide) (by decide) (by first | rfl | assumption) ?_
        rw [hG.2.2]
        refine g_iret (pc := 86) dX10_readText_86 rfl ?_
        exact ⟨rfl, hG.1, rfl, fun _ => ⟨zh6, zh7, rfl, rfl, hR⟩⟩
      · skip
        exact absurd (show w 79 9 ≤ w 79 10 by rw [ze9, hG.2.1]; exact nI_le (by omega) (by omega)) zh63
  | succ m ih =>
    intro p s pl w hlt hpl hG zh6 zh7 hR
    have hl48 := hT.2.1
    have ze9 : w 79 9 = nI len := (hG.1 79 9 (by decide) (by decide) (by decide)).trans hT.1
    first | refine g_aload0 (pc := 46) dX10_readText_46 ?_ | refine g_aloadN0 (pc := 46) dX10_readText_46 ?_
    refine g_getI (pc := 47) (j := 11) cf10 dX10_readText_47 fl_RX10_60 (by decide) (by decide) (by first | rfl | assumption) ?_
    refine g_bipush (pc := 50) (-9) dX10_readText_50 (by decide) ?_
    refine g_icmp_ne (pc := 52) 82 dX10_readText_52 (by decide) (fun zh52 => ?_) (fun zh52 => ?_)
    · skip
      exact absurd hG.2.2 zh52
    · skip
      first | refine g_aload0 (pc := 55) dX10_readText_55 ?_ | refine g_aloadN0 (pc := 55) dX10_readText_55 ?_
      refine g_getI (pc := 56) (j := 10) cf10 dX10_readText_56 fl_RX10_63 (by decide) (by decide) (by first | rfl | assumption) ?_
      first | refine g_aload0 (pc := 59) dX10_readText_59 ?_ | refine g_aloadN0 (pc := 59) dX10_readText_59 ?_
      refine g_getI (pc := 60) (j := 9) cf10 dX10_readText_60 fl_RX10_56 (by decide) (by decide) (by first | rfl | assumption) ?_
      refine g_icmp_ge (pc := 63) 82 dX10_readText_63 (by decide) (fun zh63 => ?_) (fun zh63 => ?_)
      · skip
        first | refine g_aload0 (pc := 82) dX10_readText_82 ?_ | refine g_aloadN0 (pc := 82) dX10_readText_82 ?_
        refine g_getI (pc := 83) (j := 11) cf10 dX10_readText_83 fl_RX10_60 (by decide) (by decide) (by first | rfl | assumption) ?_
        rw [hG.2.2]
        refine g_iret (pc := 86) dX10_readText_86 rfl ?_
        have zl : ¬ pl < len := fun zq => i32nlt.mpr (show nI len ≤ nI pl by rw [← ze9, ← hG.2.1]; exact zh63) (nI_lt zq (by omega))
        have ze1 : ffF v len (m + 1) p s pl = -9 := if_neg zl
        have ze2 : rdR v len (m + 1) p s pl (w 83) (w 84) = (p, s, w 83, w 84) := if_neg zl
        rw [ze1, ze2]
        exact ⟨rfl, hG.1, rfl, fun _ => ⟨zh6, zh7, rfl, rfl, hR⟩⟩
      · skip
        have zl : pl < len := by rcases Nat.lt_or_ge pl len with zq | zq; exact zq; exact absurd (show w 79 9 ≤ w 79 10 by rw [ze9, hG.2.1]; exact nI_le zq (by omega)) zh63
        first | refine g_aload0 (pc := 66) dX10_readText_66 ?_ | refine g_aloadN0 (pc := 66) dX10_readText_66 ?_
        first | refine g_aload0 (pc := 67) dX10_readText_67 ?_ | refine g_aloadN0 (pc := 67) dX10_readText_67 ?_
        refine g_getR (pc := 68) (j := 8) cf10 dX10_readText_68 fl_RX10_25 (by decide) (by decide) (by first | rfl | assumption) (85) (rfl) ?_
        first | refine g_aload0 (pc := 71) dX10_readText_71 ?_ | refine g_aloadN0 (pc := 71) dX10_readText_71 ?_
        refine g_getI (pc := 72) (j := 10) cf10 dX10_readText_72 fl_RX10_63 (by decide) (by decide) (by first | rfl | assumption) ?_
        refine g_ialdX (pc := 75) (pl) dX10_readText_75 (rfl) (hG.2.1) (by have := ln_all; omega) (by decide) ?_
        have zv2 : v 2 pl = v 85 pl := congrFun hT.2.2.2 pl
        rcases rd_cases (v 85 pl) p s with zc | zc | zc
        · skip
          rw [show w 85 pl = v 85 pl from congrFun hG.1.f85 pl]
          rw [zc.1]
          refine g_vV1 (pc := 76) ((by first | exact c_X10_readPart_p ze9 hl48 hG.2.1 zl zh6 zc.2 | exact c_X10_readPart_s ze9 hl48 hG.2.1 zl zh7 zc.1.2 | exact c_X10_readPart_o zh6 zh7 hR.1 hR.2.1 zc.1 zc.2)) cf10 (by first | rfl | assumption) dX10_readText_76 cw_RX10_72 (by decide) (Nat.le_of_ble_eq_true rfl) ?_
          refine g_goto (pc := 79) 46 dX10_readText_79 (by decide) ?_
          have zr : rdR v len (m + 1) p s pl (w 83) (w 84) = rdR v len m (p + 1) s (pl + 7) (pnR v pl p (w 83)) (w 84) := (if_pos zl).trans (if_pos (zv2.trans zc.1))
          have zf : ffF v len (m + 1) p s pl = if ffiF v (nI pl) 2 6 0 = -9 then ffF v len m (p + 1) s (pl + 7) else ffiF v (nI pl) 2 6 0 := (if_pos zl).trans (if_pos ⟨zv2.trans zc.1, zc.2⟩)
          rcases rd_pen (p := p) hT hG zl zc.1 with ⟨y1, y2, y3, y4, y5, y6, y7, f1, f2, f3, f4, f5, f6⟩ | ⟨f, y1, y2⟩
          · rw [zr, zf, if_pos y1]
            have zi := ih (p + 1) s (pl + 7) (rdq7 w p (rdpT w p)) (by omega) (by omega) y3 (by rw [y4, zh6]; exact nI_add p 1) (by rw [y5]; exact zh7) (by rw [y6, y7]; exact hR.pn zc.2 f1 f2 f3 f4 f5 f6)
            rw [y6, y7] at zi
            exact zi
          · have zn : ¬ ffiF v (nI pl) 2 6 0 = -9 := by rw [y1]; exact nI_ne9 (by have := y2.2.2; omega)
            rw [zf, if_neg zn, y1]
            exact lp_X10_readText_x y2.2.1 y2.2.2 ⟨rfl, y2.1, rfl, fun zq => absurd zq (nI_ne9 (by have := y2.2.2; omega))⟩
        · skip
          rw [show w 85 pl = v 85 pl from congrFun hG.1.f85 pl]
          rw [zc.1.1]
          refine g_vV1 (pc := 76) ((by first | exact c_X10_readPart_p ze9 hl48 hG.2.1 zl zh6 zc.2 | exact c_X10_readPart_s ze9 hl48 hG.2.1 zl zh7 zc.1.2 | exact c_X10_readPart_o zh6 zh7 hR.1 hR.2.1 zc.1 zc.2)) cf10 (by first | rfl | assumption) dX10_readText_76 cw_RX10_72 (by decide) (Nat.le_of_ble_eq_true rfl) ?_
          refine g_goto (pc := 79) 46 dX10_readText_79 (by decide) ?_
          have z83 : ¬ v 2 pl = 80 := by rw [zv2, zc.1.1]; decide
          have zr : rdR v len (m + 1) p s pl (w 83) (w 84) = rdR v len m p (s + 1) (pl + 4) (w 83) (snR v pl s (w 84)) := (if_pos zl).trans (if_neg z83)
          have zf : ffF v len (m + 1) p s pl = if ffiF v (nI pl) 3 3 0 = -9 then ffF v len m p (s + 1) (pl + 4) else ffiF v (nI pl) 3 3 0 := (if_pos zl).trans ((if_neg (fun zq => z83 zq.1)).trans (if_pos ⟨zv2.trans zc.1.1, zc.1.2⟩))
          rcases rd_stain (s := s) hT hG zl zc.1.1 with ⟨y1, y2, y3, y4, y5, y6, y7, f1, f2, f3⟩ | ⟨f, y1, y2⟩
          · rw [zr, zf, if_pos y1]
            have zi := ih p (s + 1) (pl + 4) (rdu4 w s) (by omega) (by omega) y3 (by rw [y4]; exact zh6) (by rw [y5, zh7]; exact nI_add s 1) (by rw [y6, y7]; exact hR.sn zc.1.2 f1 f2 f3)
            rw [y6, y7] at zi
            exact zi
          · have zn : ¬ ffiF v (nI pl) 3 3 0 = -9 := by rw [y1]; exact nI_ne9 (by have := y2.2.2; omega)
            rw [zf, if_neg zn, y1]
            exact lp_X10_readText_x y2.2.1 y2.2.2 ⟨rfl, y2.1, rfl, fun zq => absurd zq (nI_ne9 (by have := y2.2.2; omega))⟩
        · skip
          rw [show w 85 pl = v 85 pl from congrFun hG.1.f85 pl]
          skip
          refine g_vV1 (pc := 76) ((by first | exact c_X10_readPart_p ze9 hl48 hG.2.1 zl zh6 zc.2 | exact c_X10_readPart_s ze9 hl48 hG.2.1 zl zh7 zc.1.2 | exact c_X10_readPart_o zh6 zh7 hR.1 hR.2.1 zc.1 zc.2)) cf10 (by first | rfl | assumption) dX10_readText_76 cw_RX10_72 (by decide) (Nat.le_of_ble_eq_true rfl) ?_
          refine g_goto (pc := 79) 46 dX10_readText_79 (by decide) ?_
          have zf : ffF v len (m + 1) p s pl = nI pl := (if_pos zl).trans ((if_neg (fun zq => zc.1 ⟨zv2.symm.trans zq.1, zq.2⟩)).trans (if_neg (fun zq => zc.2 ⟨zv2.symm.trans zq.1, zq.2⟩)))
          rw [zf]
          have zb : BSt v (upd2 w 79 11 (w 79 10)) pl := ⟨hG.1.up (by omega), by rw [u2_s]; exact hG.2.1, by omega⟩
          exact lp_X10_readText_x zb.2.1 zb.2.2 ⟨rfl, zb.1, rfl, fun zq => absurd zq (nI_ne9 (by omega))⟩
theorem c_X10_readText {len : Nat} {v : Mm} {L : Lm} (hT : Txt v len) : Fi yX10_readText cX10_readText 1 (some .int) 3 [.ref 79] v L (fun a b K => RdQ v L (if v 1 1 = 0 ∨ ¬ v 2 0 = 78 then 0 else ffF v len 49 0 0 1) (rdR v len 49 0 0 1 (v 83) (v 84)) (some (.int a)) b K) := by
  have hl48 := hT.2.1
  have zA : Agr v (upd2 (upd2 (upd2 (upd2 v 79 10 0) 79 11 (-9)) 79 6 0) 79 7 0) := (((Agr.rf v).up (by omega)).up (by omega)).up (by omega) |>.up (by omega)
  have z9 : (upd2 (upd2 (upd2 (upd2 v 79 10 0) 79 11 (-9)) 79 6 0) 79 7 0) 79 9 = v 1 1 := by rw [u2_n (by decide), u2_n (by decide), u2_n (by decide), u2_n (by decide), hT.1, hT.2.2.1]
  have z85 : (upd2 (upd2 (upd2 (upd2 v 79 10 0) 79 11 (-9)) 79 6 0) 79 7 0) 85 0 = v 2 0 := by rw [u2_n (by decide), u2_n (by decide), u2_n (by decide), u2_n (by decide), hT.2.2.2]
  refine Fq.of (plainFor_of_name (by decide)) [some (.ref 79)] rfl (Nat.le_of_ble_eq_true rfl) ?_
  first | refine g_aload0 (pc := 0) dX10_readText_0 ?_ | refine g_aloadN0 (pc := 0) dX10_readText_0 ?_
  refine g_iconst (pc := 1) (0) dX10_readText_1 (by decide) ?_
  refine g_putI (pc := 2) (j := 10) cf10 dX10_readText_2 fl_RX10_63 (by decide) rfl rfl (by decide) (by first | rfl | assumption) ?_
  first | refine g_aload0 (pc := 5) dX10_readText_5 ?_ | refine g_aloadN0 (pc := 5) dX10_readText_5 ?_
  refine g_bipush (pc := 6) (-9) dX10_readText_6 (by decide) ?_
  refine g_putI (pc := 8) (j := 11) cf10 dX10_readText_8 fl_RX10_60 (by decide) rfl rfl (by decide) (by first | rfl | assumption) ?_
  first | refine g_aload0 (pc := 11) dX10_readText_11 ?_ | refine g_aloadN0 (pc := 11) dX10_readText_11 ?_
  refine g_iconst (pc := 12) (0) dX10_readText_12 (by decide) ?_
  refine g_putI (pc := 13) (j := 6) cf10 dX10_readText_13 fl_RX10_66 (by decide) rfl rfl (by decide) (by first | rfl | assumption) ?_
  first | refine g_aload0 (pc := 16) dX10_readText_16 ?_ | refine g_aloadN0 (pc := 16) dX10_readText_16 ?_
  refine g_iconst (pc := 17) (0) dX10_readText_17 (by decide) ?_
  refine g_putI (pc := 18) (j := 7) cf10 dX10_readText_18 fl_RX10_69 (by decide) rfl rfl (by decide) (by first | rfl | assumption) ?_
  first | refine g_aload0 (pc := 21) dX10_readText_21 ?_ | refine g_aloadN0 (pc := 21) dX10_readText_21 ?_
  refine g_getI (pc := 22) (j := 9) cf10 dX10_readText_22 fl_RX10_56 (by decide) (by decide) (by first | rfl | assumption) ?_
  rw [z9]
  refine g_if_eq (pc := 25) 39 dX10_readText_25 (by decide) (fun zh25 => ?_) (fun zh25 => ?_)
  · skip
    refine g_iconst (pc := 39) (0) dX10_readText_39 (by decide) ?_
    refine g_iret (pc := 40) dX10_readText_40 rfl ?_
    have ee : (if v 1 1 = 0 ∨ ¬ v 2 0 = 78 then 0 else ffF v len 49 0 0 1) = 0 := if_pos (Or.inl zh25)
    rw [ee]
    exact ⟨_, rfl, rfl, zA, rfl, fun zq => absurd zq (by decide)⟩
  · skip
    first | refine g_aload0 (pc := 28) dX10_readText_28 ?_ | refine g_aloadN0 (pc := 28) dX10_readText_28 ?_
    refine g_getR (pc := 29) (j := 8) cf10 dX10_readText_29 fl_RX10_25 (by decide) (by decide) (by first | rfl | assumption) (85) (rfl) ?_
    refine g_iconst (pc := 32) (0) dX10_readText_32 (by decide) ?_
    refine g_ialdX (pc := 33) (0) dX10_readText_33 (rfl) (rfl) (by have := ln_all; omega) (by decide) ?_
    refine g_bipush (pc := 34) (78) dX10_readText_34 (by decide) ?_
    refine g_icmp_eq (pc := 36) 41 dX10_readText_36 (by decide) (fun zh36 => ?_) (fun zh36 => ?_)
    · skip
      first | refine g_aload0 (pc := 41) dX10_readText_41 ?_ | refine g_aloadN0 (pc := 41) dX10_readText_41 ?_
      refine g_iconst (pc := 42) (1) dX10_readText_42 (by decide) ?_
      refine g_putI (pc := 43) (j := 10) cf10 dX10_readText_43 fl_RX10_63 (by decide) rfl rfl (by decide) (by first | rfl | assumption) ?_
      have ee : (if v 1 1 = 0 ∨ ¬ v 2 0 = 78 then 0 else ffF v len 49 0 0 1) = ffF v len 49 0 0 1 := if_neg (fun zq => zq.elim zh25 (fun zr => zr (z85.symm.trans zh36)))
      rw [ee]
      have zi := lp_X10_readText (L := L) hT 49 0 0 1 (upd2 (upd2 (upd2 (upd2 (upd2 v 79 10 0) 79 11 (-9)) 79 6 0) 79 7 0) 79 10 1) (by omega) (by decide) ⟨zA.up (by omega), by rw [u2_s]; rfl, by rw [u2_n (by decide), u2_n (by decide), u2_n (by decide), u2_s]⟩ (by rw [u2_n (by decide), u2_n (by decide), u2_s]; rfl) (by rw [u2_n (by decide), u2_s]; rfl) ⟨Nat.zero_le 4, Nat.zero_le 4, fun q hq => absurd hq (Nat.not_lt_zero q), fun q hq => absurd hq (Nat.not_lt_zero q)⟩
      rw [u2_g (by decide), u2_g (by decide), u2_g (by decide), u2_g (by decide), u2_g (by decide), u2_g (by decide), u2_g (by decide), u2_g (by decide), u2_g (by decide), u2_g (by decide)] at zi
      exact G.mono zi (fun za zb zc zh => ⟨_, zh.1, rfl, zh.2⟩)
    · skip
      refine g_iconst (pc := 39) (0) dX10_readText_39 (by decide) ?_
      refine g_iret (pc := 40) dX10_readText_40 rfl ?_
      have ee : (if v 1 1 = 0 ∨ ¬ v 2 0 = 78 then 0 else ffF v len 49 0 0 1) = 0 := if_pos (Or.inr (fun zq => zh36 (z85.trans zq)))
      rw [ee]
      exact ⟨_, rfl, rfl, zA, rfl, fun zq => absurd zq (by decide)⟩
theorem c_X10_fault {len : Nat} {v : Mm} {L : Lm} (hT : Txt v len) : Fi yX10_fault cX10_fault 1 (some .int) 4 [.ref 79] v L (fun a b K => RdQ v L (if v 1 1 = 0 ∨ ¬ v 2 0 = 78 then 0 else ffF v len 49 0 0 1) (rdR v len 49 0 0 1 (v 83) (v 84)) (some (.int a)) b K) := by
  refine Fq.of (plainFor_of_name (by decide)) [some (.ref 79)] rfl (Nat.le_of_ble_eq_true rfl) ?_
  first | refine g_aload0 (pc := 0) dX10_fault_0 ?_ | refine g_aloadN0 (pc := 0) dX10_fault_0 ?_
  refine g_qiV0 (pc := 1) (c_X10_readText hT) cf10 (by first | rfl | assumption) dX10_fault_1 cw_RX10_80 (by decide) (Nat.le_of_ble_eq_true rfl) (fun za zb zK zq => ?_)
  refine g_iret (pc := 4) dX10_fault_4 rfl ?_
  exact ⟨_, rfl, zq⟩
theorem lp_X10_desk_z {w0 : Mm} {L : Lm} {Q : Qt} (hI0 : (fun (_ : Nat) (_ : Mm) => True) 0 w0) (hk : G RX10 cX10_desk 2 (some .int) 4 Q 41 [some (.ref 79), some (.int (nI 43))] [] (dk1 w0) L) : (fun (i : Nat) (w : Mm) =>  G RX10 cX10_desk 2 (some .int) 4 Q 22 [some (.ref 79), some (.int (nI i))] [] w L) 0 w0 := by
  refine g_for 43 (fun k w => upd2 w 82 k 0) (fun (_ : Nat) (_ : Mm) => True) (fun (i : Nat) (w : Mm) =>  G RX10 cX10_desk 2 (some .int) 4 Q 22 [some (.ref 79), some (.int (nI i))] [] w L) w0 hI0 ?_ (fun hI => ?_) (fun i w hi hI hn => ?_)
  · exact fun _ _ _ h => h
  · show G _ _ _ _ _ _ _ _ _ _ _
    try dsimp only at hI
    refine g_iload1 (pc := 22) dX10_desk_22 ?_
    refine g_bipush (pc := 23) (43) dX10_desk_23 (by decide) ?_
    refine g_icmp_ge (pc := 25) 41 dX10_desk_25 (by decide) (fun zh25 => ?_) (fun zh25 => ?_)
    · skip
      exact hk
    · skip
      exact absurd (Int32.le_refl _) zh25
  · show G _ _ _ _ _ _ _ _ _ _ _
    try dsimp only at hI
    try dsimp only at hn
    refine g_iload1 (pc := 22) dX10_desk_22 ?_
    refine g_bipush (pc := 23) (43) dX10_desk_23 (by decide) ?_
    refine g_icmp_ge (pc := 25) 41 dX10_desk_25 (by decide) (fun zh25 => ?_) (fun zh25 => ?_)
    · skip
      exact absurd zh25 (nI_ge (b := 43) hi (by decide))
    · skip
      first | refine g_aload0 (pc := 28) dX10_desk_28 ?_ | refine g_aloadN0 (pc := 28) dX10_desk_28 ?_
      refine g_getR (pc := 29) (j := 3) cf10 dX10_desk_29 fl_RX10_16 (by decide) (by decide) (by first | rfl | assumption) (82) (rfl) ?_
      refine g_iload1 (pc := 32) dX10_desk_32 ?_
      refine g_iconst (pc := 33) (0) dX10_desk_33 (by decide) ?_
      refine g_iastX (pc := 34) (i) dX10_desk_34 (rfl) (rfl) (by have := ln_all; omega) (by decide) ?_
      refine g_iinc1 (pc := 35) (nI (i + 1)) dX10_desk_35 (nI_succ' i) (by decide) (by first | rfl | assumption) ?_
      refine g_goto (pc := 38) 22 dX10_desk_38 (by decide) ?_
      exact hn
theorem lp_X10_desk_p {n s : Nat} {w0 : Mm} {L : Lm} {Q : Qt} (hI0 : (fun (_ : Nat) (zw : Mm) => DkI n s zw) 0 w0) (hk : G RX10 cX10_desk 2 (some .int) 4 Q 161 [some (.ref 79), some (.int (nI n))] [] (itr dkP n w0) L) : (fun (i : Nat) (w : Mm) =>  G RX10 cX10_desk 2 (some .int) 4 Q 43 [some (.ref 79), some (.int (nI i))] [] w L) 0 w0 := by
  refine g_for n dkP (fun (_ : Nat) (zw : Mm) => DkI n s zw) (fun (i : Nat) (w : Mm) =>  G RX10 cX10_desk 2 (some .int) 4 Q 43 [some (.ref 79), some (.int (nI i))] [] w L) w0 hI0 ?_ (fun hI => ?_) (fun i w hi hI hn => ?_)
  · intro zi zs zl zh
    exact zh.of (fun k j zh0 zh1 zh2 => dkP_n zh0 zh1 zh2)
  · show G _ _ _ _ _ _ _ _ _ _ _
    try dsimp only at hI
    refine g_iload1 (pc := 43) dX10_desk_43 ?_
    first | refine g_aload0 (pc := 44) dX10_desk_44 ?_ | refine g_aloadN0 (pc := 44) dX10_desk_44 ?_
    refine g_getI (pc := 45) (j := 0) cf10 dX10_desk_45 fl_RX10_84 (by decide) (by decide) (by first | rfl | assumption) ?_
    rw [hI.1]
    refine g_icmp_ge (pc := 48) 161 dX10_desk_48 (by decide) (fun zh48 => ?_) (fun zh48 => ?_)
    · skip
      exact hk
    · skip
      exact absurd (Int32.le_refl _) zh48
  · show G _ _ _ _ _ _ _ _ _ _ _
    try dsimp only at hI
    try dsimp only at hn
    refine g_iload1 (pc := 43) dX10_desk_43 ?_
    first | refine g_aload0 (pc := 44) dX10_desk_44 ?_ | refine g_aloadN0 (pc := 44) dX10_desk_44 ?_
    refine g_getI (pc := 45) (j := 0) cf10 dX10_desk_45 fl_RX10_84 (by decide) (by decide) (by first | rfl | assumption) ?_
    rw [hI.1]
    have zn4 := hI.2.1
    refine g_icmp_ge (pc := 48) 161 dX10_desk_48 (by decide) (fun zh48 => ?_) (fun zh48 => ?_)
    · skip
      exact absurd zh48 (nI_ge hi (by omega))
    · skip
      first | refine g_aload0 (pc := 51) dX10_desk_51 ?_ | refine g_aloadN0 (pc := 51) dX10_desk_51 ?_
      refine g_getR (pc := 52) (j := 3) cf10 dX10_desk_52 fl_RX10_16 (by decide) (by decide) (by first | rfl | assumption) (82) (rfl) ?_
      refine g_iload1 (pc := 55) dX10_desk_55 ?_
      first | refine g_aload0 (pc := 56) dX10_desk_56 ?_ | refine g_aloadN0 (pc := 56) dX10_desk_56 ?_
      refine g_getR (pc := 57) (j := 4) cf10 dX10_desk_57 fl_RX10_19 (by decide) (by decide) (by first | rfl | assumption) (83) (rfl) ?_
      refine g_iconst (pc := 60) (5) dX10_desk_60 (by decide) ?_
      refine g_iload1 (pc := 61) dX10_desk_61 ?_
      refine g_imul (pc := 62) dX10_desk_62 ?_
      refine g_ialdX (pc := 63) (5 * i) dX10_desk_63 (rfl) (ix5') (by have := ln_all; omega) (by decide) ?_
      refine g_iastX (pc := 64) (i) dX10_desk_64 (rfl) (rfl) (by have := ln_all; omega) (by decide) ?_
      first | refine g_aload0 (pc := 65) dX10_desk_65 ?_ | refine g_aloadN0 (pc := 65) dX10_desk_65 ?_
      refine g_getR (pc := 66) (j := 1) cf10 dX10_desk_66 fl_RX10_7 (by decide) (by decide) (by first | rfl | assumption) (80) (rfl) ?_
      refine g_iload1 (pc := 69) dX10_desk_69 ?_
      first | refine g_aload0 (pc := 70) dX10_desk_70 ?_ | refine g_aloadN0 (pc := 70) dX10_desk_70 ?_
      refine g_getR (pc := 71) (j := 4) cf10 dX10_desk_71 fl_RX10_19 (by decide) (by decide) (by first | rfl | assumption) (83) (rfl) ?_
      refine g_iconst (pc := 74) (5) dX10_desk_74 (by decide) ?_
      refine g_iload1 (pc := 75) dX10_desk_75 ?_
      refine g_imul (pc := 76) dX10_desk_76 ?_
      refine g_iconst (pc := 77) (1) dX10_desk_77 (by decide) ?_
      refine g_iadd (pc := 78) dX10_desk_78 ?_
      refine g_ialdX (pc := 79) (5 * i + 1) dX10_desk_79 (rfl) (by rw [ix5']; exact nI_add _ 1) (by have := ln_all; omega) (by decide) ?_
      refine g_iastX (pc := 80) (i) dX10_desk_80 (rfl) (rfl) (by have := ln_all; omega) (by decide) ?_
      first | refine g_aload0 (pc := 81) dX10_desk_81 ?_ | refine g_aloadN0 (pc := 81) dX10_desk_81 ?_
      refine g_getR (pc := 82) (j := 3) cf10 dX10_desk_82 fl_RX10_16 (by decide) (by decide) (by first | rfl | assumption) (82) (rfl) ?_
      refine g_iconst (pc := 85) (4) dX10_desk_85 (by decide) ?_
      refine g_iload1 (pc := 86) dX10_desk_86 ?_
      refine g_iadd (pc := 87) dX10_desk_87 ?_
      first | refine g_aload0 (pc := 88) dX10_desk_88 ?_ | refine g_aloadN0 (pc := 88) dX10_desk_88 ?_
      refine g_getR (pc := 89) (j := 4) cf10 dX10_desk_89 fl_RX10_19 (by decide) (by decide) (by first | rfl | assumption) (83) (rfl) ?_
      refine g_iconst (pc := 92) (5) dX10_desk_92 (by decide) ?_
      refine g_iload1 (pc := 93) dX10_desk_93 ?_
      refine g_imul (pc := 94) dX10_desk_94 ?_
      refine g_iconst (pc := 95) (2) dX10_desk_95 (by decide) ?_
      refine g_iadd (pc := 96) dX10_desk_96 ?_
      refine g_ialdX (pc := 97) (5 * i + 2) dX10_desk_97 (rfl) (by rw [ix5']; exact nI_add _ 2) (by have := ln_all; omega) (by decide) ?_
      refine g_iconst (pc := 98) (3) dX10_desk_98 (by decide) ?_
      refine g_isub (pc := 99) dX10_desk_99 ?_
      refine g_iastX (pc := 100) (4 + i) dX10_desk_100 (rfl) (nI_add 4 i) (by have := ln_all; omega) (by decide) ?_
      first | refine g_aload0 (pc := 101) dX10_desk_101 ?_ | refine g_aloadN0 (pc := 101) dX10_desk_101 ?_
      refine g_getR (pc := 102) (j := 3) cf10 dX10_desk_102 fl_RX10_16 (by decide) (by decide) (by first | rfl | assumption) (82) (rfl) ?_
      refine g_bipush (pc := 105) (8) dX10_desk_105 (by decide) ?_
      refine g_iload1 (pc := 107) dX10_desk_107 ?_
      refine g_iadd (pc := 108) dX10_desk_108 ?_
      first | refine g_aload0 (pc := 109) dX10_desk_109 ?_ | refine g_aloadN0 (pc := 109) dX10_desk_109 ?_
      refine g_getR (pc := 110) (j := 4) cf10 dX10_desk_110 fl_RX10_19 (by decide) (by decide) (by first | rfl | assumption) (83) (rfl) ?_
      refine g_iconst (pc := 113) (5) dX10_desk_113 (by decide) ?_
      refine g_iload1 (pc := 114) dX10_desk_114 ?_
      refine g_imul (pc := 115) dX10_desk_115 ?_
      refine g_iconst (pc := 116) (3) dX10_desk_116 (by decide) ?_
      refine g_iadd (pc := 117) dX10_desk_117 ?_
      refine g_ialdX (pc := 118) (5 * i + 3) dX10_desk_118 (rfl) (by rw [ix5']; exact nI_add _ 3) (by have := ln_all; omega) (by decide) ?_
      refine g_iconst (pc := 119) (3) dX10_desk_119 (by decide) ?_
      refine g_isub (pc := 120) dX10_desk_120 ?_
      refine g_iastX (pc := 121) (8 + i) dX10_desk_121 (rfl) (nI_add 8 i) (by have := ln_all; omega) (by decide) ?_
      first | refine g_aload0 (pc := 122) dX10_desk_122 ?_ | refine g_aloadN0 (pc := 122) dX10_desk_122 ?_
      refine g_getR (pc := 123) (j := 2) cf10 dX10_desk_123 fl_RX10_13 (by decide) (by decide) (by first | rfl | assumption) (81) (rfl) ?_
      refine g_iload1 (pc := 126) dX10_desk_126 ?_
      refine g_iconst (pc := 127) (5) dX10_desk_127 (by decide) ?_
      first | refine g_aload0 (pc := 128) dX10_desk_128 ?_ | refine g_aloadN0 (pc := 128) dX10_desk_128 ?_
      refine g_getR (pc := 129) (j := 4) cf10 dX10_desk_129 fl_RX10_19 (by decide) (by decide) (by first | rfl | assumption) (83) (rfl) ?_
      refine g_iconst (pc := 132) (5) dX10_desk_132 (by decide) ?_
      refine g_iload1 (pc := 133) dX10_desk_133 ?_
      refine g_imul (pc := 134) dX10_desk_134 ?_
      refine g_iconst (pc := 135) (4) dX10_desk_135 (by decide) ?_
      refine g_iadd (pc := 136) dX10_desk_136 ?_
      refine g_ialdX (pc := 137) (5 * i + 4) dX10_desk_137 (rfl) (by rw [ix5']; exact nI_add _ 4) (by have := ln_all; omega) (by decide) ?_
      refine g_imul (pc := 138) dX10_desk_138 ?_
      refine g_iastX (pc := 139) (i) dX10_desk_139 (rfl) (rfl) (by have := ln_all; omega) (by decide) ?_
      first | refine g_aload0 (pc := 140) dX10_desk_140 ?_ | refine g_aloadN0 (pc := 140) dX10_desk_140 ?_
      refine g_getR (pc := 141) (j := 3) cf10 dX10_desk_141 fl_RX10_16 (by decide) (by decide) (by first | rfl | assumption) (82) (rfl) ?_
      refine g_bipush (pc := 144) (12) dX10_desk_144 (by decide) ?_
      refine g_iload1 (pc := 146) dX10_desk_146 ?_
      refine g_iadd (pc := 147) dX10_desk_147 ?_
      first | refine g_aload0 (pc := 148) dX10_desk_148 ?_ | refine g_aloadN0 (pc := 148) dX10_desk_148 ?_
      refine g_getR (pc := 149) (j := 2) cf10 dX10_desk_149 fl_RX10_13 (by decide) (by decide) (by first | rfl | assumption) (81) (rfl) ?_
      refine g_iload1 (pc := 152) dX10_desk_152 ?_
      refine g_ialdX (pc := 153) (i) dX10_desk_153 (rfl) (rfl) (by have := ln_all; omega) (by decide) ?_
      refine g_iastX (pc := 154) (12 + i) dX10_desk_154 (rfl) (nI_add 12 i) (by have := ln_all; omega) (by decide) ?_
      refine g_iinc1 (pc := 155) (nI (i + 1)) dX10_desk_155 (nI_succ' i) (by decide) (by first | rfl | assumption) ?_
      refine g_goto (pc := 158) 43 dX10_desk_158 (by decide) ?_
      exact hn
theorem lp_X10_desk_s {n s : Nat} {w0 : Mm} {L : Lm} {Q : Qt} (hI0 : (fun (_ : Nat) (zw : Mm) => DkI n s zw) 0 w0) (hk : G RX10 cX10_desk 2 (some .int) 4 Q 203 [some (.ref 79), some (.int (nI s))] [] (itr dkS s w0) L) : (fun (i : Nat) (w : Mm) =>  G RX10 cX10_desk 2 (some .int) 4 Q 163 [some (.ref 79), some (.int (nI i))] [] w L) 0 w0 := by
  refine g_for s dkS (fun (_ : Nat) (zw : Mm) => DkI n s zw) (fun (i : Nat) (w : Mm) =>  G RX10 cX10_desk 2 (some .int) 4 Q 163 [some (.ref 79), some (.int (nI i))] [] w L) w0 hI0 ?_ (fun hI => ?_) (fun i w hi hI hn => ?_)
  · intro zi zs zl zh
    exact zh.of (fun k j zh0 zh1 zh2 => dkS_n zh2)
  · show G _ _ _ _ _ _ _ _ _ _ _
    try dsimp only at hI
    refine g_iload1 (pc := 163) dX10_desk_163 ?_
    first | refine g_aload0 (pc := 164) dX10_desk_164 ?_ | refine g_aloadN0 (pc := 164) dX10_desk_164 ?_
    refine g_getI (pc := 165) (j := 7) cf10 dX10_desk_165 fl_RX10_69 (by decide) (by decide) (by first | rfl | assumption) ?_
    rw [hI.2.2.1]
    refine g_icmp_ge (pc := 168) 203 dX10_desk_168 (by decide) (fun zh168 => ?_) (fun zh168 => ?_)
    · skip
      exact hk
    · skip
      exact absurd (Int32.le_refl _) zh168
  · show G _ _ _ _ _ _ _ _ _ _ _
    try dsimp only at hI
    try dsimp only at hn
    refine g_iload1 (pc := 163) dX10_desk_163 ?_
    first | refine g_aload0 (pc := 164) dX10_desk_164 ?_ | refine g_aloadN0 (pc := 164) dX10_desk_164 ?_
    refine g_getI (pc := 165) (j := 7) cf10 dX10_desk_165 fl_RX10_69 (by decide) (by decide) (by first | rfl | assumption) ?_
    rw [hI.2.2.1]
    have zs4 := hI.2.2.2.1
    refine g_icmp_ge (pc := 168) 203 dX10_desk_168 (by decide) (fun zh168 => ?_) (fun zh168 => ?_)
    · skip
      exact absurd zh168 (nI_ge hi (by omega))
    · skip
      obtain ⟨zd, zt, zd25, zt10, zde, zte⟩ := hI.2.2.2.2 i hi
      first | refine g_aload0 (pc := 171) dX10_desk_171 ?_ | refine g_aloadN0 (pc := 171) dX10_desk_171 ?_
      refine g_getR (pc := 172) (j := 3) cf10 dX10_desk_172 fl_RX10_16 (by decide) (by decide) (by first | rfl | assumption) (82) (rfl) ?_
      refine g_bipush (pc := 175) (18) dX10_desk_175 (by decide) ?_
      first | refine g_aload0 (pc := 177) dX10_desk_177 ?_ | refine g_aloadN0 (pc := 177) dX10_desk_177 ?_
      refine g_getR (pc := 178) (j := 5) cf10 dX10_desk_178 fl_RX10_22 (by decide) (by decide) (by first | rfl | assumption) (84) (rfl) ?_
      refine g_iconst (pc := 181) (2) dX10_desk_181 (by decide) ?_
      refine g_iload1 (pc := 182) dX10_desk_182 ?_
      refine g_imul (pc := 183) dX10_desk_183 ?_
      refine g_ialdX (pc := 184) (2 * i) dX10_desk_184 (rfl) (ix2') (by have := ln_all; omega) (by decide) ?_
      refine g_iadd (pc := 185) dX10_desk_185 ?_
      first | refine g_aload0 (pc := 186) dX10_desk_186 ?_ | refine g_aloadN0 (pc := 186) dX10_desk_186 ?_
      refine g_getR (pc := 187) (j := 5) cf10 dX10_desk_187 fl_RX10_22 (by decide) (by decide) (by first | rfl | assumption) (84) (rfl) ?_
      refine g_iconst (pc := 190) (2) dX10_desk_190 (by decide) ?_
      refine g_iload1 (pc := 191) dX10_desk_191 ?_
      refine g_imul (pc := 192) dX10_desk_192 ?_
      refine g_iconst (pc := 193) (1) dX10_desk_193 (by decide) ?_
      refine g_iadd (pc := 194) dX10_desk_194 ?_
      refine g_ialdX (pc := 195) (2 * i + 1) dX10_desk_195 (rfl) (by rw [ix2']; exact nI_add _ 1) (by have := ln_all; omega) (by decide) ?_
      refine g_iastX (pc := 196) (18 + zd) dX10_desk_196 (rfl) (by rw [zde]; exact nI_add 18 zd) (by have := ln_all; omega) (by decide) ?_
      refine g_iinc1 (pc := 197) (nI (i + 1)) dX10_desk_197 (nI_succ' i) (by decide) (by first | rfl | assumption) ?_
      refine g_goto (pc := 200) 163 dX10_desk_200 (by decide) ?_
      have ee : dkS i w = upd2 w 82 (18 + zd) (w 84 (2 * i + 1)) := by unfold dkS; rw [zde, nI_clamp (by omega)]
      rw [ee] at hn; exact hn
theorem lp_X10_desk_e {n : Nat} {l1 : Option Value} {w : Mm} {L : Lm} {Q : Qt} (hn : w 79 0 = nI n) (hn4 : n ≤ 4) (hq : Q (some (.int (nI n))) (dkE w n) L) : G RX10 cX10_desk 2 (some .int) 4 Q 203 [some (.ref 79), l1] [] w L := by
  first | refine g_aload0 (pc := 203) dX10_desk_203 ?_ | refine g_aloadN0 (pc := 203) dX10_desk_203 ?_
  refine g_getR (pc := 204) (j := 3) cf10 dX10_desk_204 fl_RX10_16 (by decide) (by decide) (by first | rfl | assumption) (82) (rfl) ?_
  refine g_bipush (pc := 207) (16) dX10_desk_207 (by decide) ?_
  refine g_iconst (pc := 209) (1) dX10_desk_209 (by decide) ?_
  first | refine g_aload0 (pc := 210) dX10_desk_210 ?_ | refine g_aloadN0 (pc := 210) dX10_desk_210 ?_
  refine g_getI (pc := 211) (j := 0) cf10 dX10_desk_211 fl_RX10_84 (by decide) (by decide) (by first | rfl | assumption) ?_
  rw [hn]
  refine g_ishl (pc := 214) dX10_desk_214 ?_
  rw [sh2 n hn4]
  refine g_iconst (pc := 215) (1) dX10_desk_215 (by decide) ?_
  refine g_isub (pc := 216) dX10_desk_216 ?_
  refine g_iastX (pc := 217) (16) dX10_desk_217 (rfl) (rfl) (by have := ln_all; omega) (by decide) ?_
  first | refine g_aload0 (pc := 218) dX10_desk_218 ?_ | refine g_aloadN0 (pc := 218) dX10_desk_218 ?_
  refine g_iconst (pc := 219) (0) dX10_desk_219 (by decide) ?_
  refine g_putI (pc := 220) (j := 15) cf10 dX10_desk_220 fl_RX10_87 (by decide) rfl rfl (by decide) (by first | rfl | assumption) ?_
  first | refine g_aload0 (pc := 223) dX10_desk_223 ?_ | refine g_aloadN0 (pc := 223) dX10_desk_223 ?_
  refine g_getR (pc := 224) (j := 23) cf10 dX10_desk_224 fl_RX10_43 (by decide) (by decide) (by first | rfl | assumption) (91) (rfl) ?_
  refine g_iconst (pc := 227) (0) dX10_desk_227 (by decide) ?_
  refine g_iconst (pc := 228) (0) dX10_desk_228 (by decide) ?_
  refine g_zastX (pc := 229) (0) dX10_desk_229 (rfl) (rfl) (by have := ln_all; omega) (by decide) (by first | exact Or.inl rfl | exact Or.inr rfl | assumption) ?_
  first | refine g_aload0 (pc := 230) dX10_desk_230 ?_ | refine g_aloadN0 (pc := 230) dX10_desk_230 ?_
  refine g_getR (pc := 231) (j := 23) cf10 dX10_desk_231 fl_RX10_43 (by decide) (by decide) (by first | rfl | assumption) (91) (rfl) ?_
  refine g_iconst (pc := 234) (1) dX10_desk_234 (by decide) ?_
  refine g_iconst (pc := 235) (0) dX10_desk_235 (by decide) ?_
  refine g_zastX (pc := 236) (1) dX10_desk_236 (rfl) (rfl) (by have := ln_all; omega) (by decide) (by first | exact Or.inl rfl | exact Or.inr rfl | assumption) ?_
  first | refine g_aload0 (pc := 237) dX10_desk_237 ?_ | refine g_aloadN0 (pc := 237) dX10_desk_237 ?_
  refine g_getI (pc := 238) (j := 0) cf10 dX10_desk_238 fl_RX10_84 (by decide) (by decide) (by first | rfl | assumption) ?_
  rw [u2_n (by decide), u2_n (by decide), u2_n (by decide), u2_n (by decide), hn]
  refine g_iret (pc := 241) dX10_desk_241 rfl ?_
  exact hq
theorem c_X10_desk {len : Nat} {v : Mm} {L : Lm} (hT : Txt v len) : Fi yX10_desk cX10_desk 2 (some .int) 4 [.ref 79] v L (fun a K2 K => (¬ (if v 1 1 = 0 ∨ ¬ v 2 0 = 78 then 0 else ffF v len 49 0 0 1) = -9 ∧ a = -3 ∧ Agr v K2 ∧ K = L) ∨ ((if v 1 1 = 0 ∨ ¬ v 2 0 = 78 then 0 else ffF v len 49 0 0 1) = -9 ∧ ∃ b : Mm, Agr v b ∧ b 79 6 = nI (rdR v len 49 0 0 1 (v 83) (v 84)).1 ∧ b 79 7 = nI (rdR v len 49 0 0 1 (v 83) (v 84)).2.1 ∧ b 83 = (rdR v len 49 0 0 1 (v 83) (v 84)).2.2.1 ∧ b 84 = (rdR v len 49 0 0 1 (v 83) (v 84)).2.2.2 ∧ RowsOk (rdR v len 49 0 0 1 (v 83) (v 84)) ∧ a = nI (rdR v len 49 0 0 1 (v 83) (v 84)).1 ∧ K2 = dkM b (rdR v len 49 0 0 1 (v 83) (v 84)).1 (rdR v len 49 0 0 1 (v 83) (v 84)).2.1 ∧ K = L)) := by
  refine Fq.of (plainFor_of_name (by decide)) [some (.ref 79), none] rfl (Nat.le_of_ble_eq_true rfl) ?_
  first | refine g_aload0 (pc := 0) dX10_desk_0 ?_ | refine g_aloadN0 (pc := 0) dX10_desk_0 ?_
  refine g_qiV0 (pc := 1) (c_X10_readText hT) cf10 (by first | rfl | assumption) dX10_desk_1 cw_RX10_80 (by decide) (Nat.le_of_ble_eq_true rfl) (fun za zb zK zq => ?_)
  obtain ⟨zq1, zq2, zq3, zq4⟩ := zq
  cases zq1
  subst zq3
  refine g_bipush (pc := 4) (-9) dX10_desk_4 (by decide) ?_
  refine g_icmp_eq (pc := 6) 12 dX10_desk_6 (by decide) (fun zh6 => ?_) (fun zh6 => ?_)
  · skip
    obtain ⟨y6, y7, y83, y84, yR⟩ := zq4 zh6
    first | refine g_aload0 (pc := 12) dX10_desk_12 ?_ | refine g_aloadN0 (pc := 12) dX10_desk_12 ?_
    first | refine g_aload0 (pc := 13) dX10_desk_13 ?_ | refine g_aloadN0 (pc := 13) dX10_desk_13 ?_
    refine g_getI (pc := 14) (j := 6) cf10 dX10_desk_14 fl_RX10_66 (by decide) (by decide) (by first | rfl | assumption) ?_
    rw [y6]
    refine g_putI (pc := 17) (j := 0) cf10 dX10_desk_17 fl_RX10_84 (by decide) rfl rfl (by decide) (by first | rfl | assumption) ?_
    refine g_iconst (pc := 20) (0) dX10_desk_20 (by decide) ?_
    refine g_istore1 (pc := 21) dX10_desk_21 (by decide) (by first | rfl | assumption) ?_
    have zD : DkI (rdR v len 49 0 0 1 (v 83) (v 84)).1 (rdR v len 49 0 0 1 (v 83) (v 84)).2.1 (upd2 zb 79 0 (nI (rdR v len 49 0 0 1 (v 83) (v 84)).1)) := ⟨by rw [u2_s], yR.1, by rw [u2_n (by decide)]; exact y7, yR.2.1, fun q hq => by
      rw [u2_g (by decide), y84]
      exact yR.2.2.2 q hq⟩
    refine lp_X10_desk_z trivial ?_
    refine g_iconst (pc := 41) 0 dX10_desk_41 (by decide) ?_
    refine g_istore1 (pc := 42) dX10_desk_42 (by decide) rfl ?_
    have zD1 : DkI (rdR v len 49 0 0 1 (v 83) (v 84)).1 (rdR v len 49 0 0 1 (v 83) (v 84)).2.1 (dk1 (upd2 zb 79 0 (nI (rdR v len 49 0 0 1 (v 83) (v 84)).1))) := zD.of (fun k j zh0 zh1 zh2 => dk1_n zh2)
    refine lp_X10_desk_p zD1 ?_
    refine g_iconst (pc := 161) 0 dX10_desk_161 (by decide) ?_
    refine g_istore1 (pc := 162) dX10_desk_162 (by decide) rfl ?_
    have zD2 : DkI (rdR v len 49 0 0 1 (v 83) (v 84)).1 (rdR v len 49 0 0 1 (v 83) (v 84)).2.1 (itr dkP (rdR v len 49 0 0 1 (v 83) (v 84)).1 (dk1 (upd2 zb 79 0 (nI (rdR v len 49 0 0 1 (v 83) (v 84)).1)))) := itr_inv (fun zw => DkI (rdR v len 49 0 0 1 (v 83) (v 84)).1 (rdR v len 49 0 0 1 (v 83) (v 84)).2.1 zw) (fun zi zw zh => zh.of (fun k j zh0 zh1 zh2 => dkP_n zh0 zh1 zh2)) _ _ zD1
    have zD3 : DkI (rdR v len 49 0 0 1 (v 83) (v 84)).1 (rdR v len 49 0 0 1 (v 83) (v 84)).2.1 (itr dkS (rdR v len 49 0 0 1 (v 83) (v 84)).2.1 (itr dkP (rdR v len 49 0 0 1 (v 83) (v 84)).1 (dk1 (upd2 zb 79 0 (nI (rdR v len 49 0 0 1 (v 83) (v 84)).1))))) := itr_inv (fun zw => DkI (rdR v len 49 0 0 1 (v 83) (v 84)).1 (rdR v len 49 0 0 1 (v 83) (v 84)).2.1 zw) (fun zi zw zh => zh.of (fun k j zh0 zh1 zh2 => dkS_n zh2)) _ _ zD2
    refine lp_X10_desk_s zD2 ?_
    exact lp_X10_desk_e zD3.1 yR.1 ⟨_, rfl, Or.inr ⟨zh6, zb, zq2, y6, y7, y83, y84, yR, rfl, rfl, rfl⟩⟩
  · skip
    refine g_bipush (pc := 9) (-3) dX10_desk_9 (by decide) ?_
    refine g_iret (pc := 11) dX10_desk_11 rfl ?_
    exact ⟨_, rfl, Or.inl ⟨zh6, rfl, zq2, rfl⟩⟩
