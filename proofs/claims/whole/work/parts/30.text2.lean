theorem ff_pen {len m p s pl : Nat} {v : Mm} {L : Lm} {o6 : Option Value} (hl : v 1 1 = nI len) (zh48 : len ≤ 48) (hlt : pl < len) (hm : len < pl + (m + 1) ∧ pl < 100) (hP : v 2 pl = 80) (hp4 : p < 4) (hs : s ≤ 4) (ih : ∀ (p s pl : Nat) (o4 o5 o6 : Option Value) (_ : okp o4 = true) (_ : okp o5 = true), p ≤ 4 → s ≤ 4 → len < pl + m ∧ pl < 100 → G RX6 cX6_findFault 7 (some .int) 4 (fun a b c => a = some (.int (ffF v len m p s pl)) ∧ b = v ∧ c = L) 18 [some (.ref 1), some (.int (nI p)), some (.int (nI s)), some (.int (nI pl)), o4, o5, o6] [] v L) : G RX6 cX6_findFault 7 (some .int) 4 (fun a b c => a = some (.int (ffF v len (m + 1) p s pl)) ∧ b = v ∧ c = L) 89 [some (.ref 1), some (.int (nI (p + 1))), some (.int (nI (s))), some (.int (nI pl)), some (.int (v 2 pl)), some (.ref (100 + 2)), o6] [] v L := by
  first | refine g_aload0 (pc := 89) dX6_findFault_89 ?_ | refine g_aloadN0 (pc := 89) dX6_findFault_89 ?_
  refine g_iload3 (pc := 90) dX6_findFault_90 ?_
  first | refine g_aload5 (pc := 91) dX6_findFault_91 ?_ | refine g_aloadN5 (pc := 91) dX6_findFault_91 ?_
  refine g_fV2 (pc := 93) (c_X6_findFaultIn (j := 2) (by decide) (by decide)) cf6 (by first | rfl | assumption) dX6_findFault_93 cw_RX6_29 (by decide) (Nat.le_of_ble_eq_true rfl) ?_
  refine g_istore6 (pc := 96) dX6_findFault_96 (by decide) (by first | rfl | assumption) ?_
  refine g_iload6 (pc := 98) dX6_findFault_98 ?_
  refine g_bipush (pc := 100) (-9) dX6_findFault_100 (by decide) ?_
  refine g_icmp_eq (pc := 102) 108 dX6_findFault_102 (by decide) (fun zh102 => ?_) (fun zh102 => ?_)
  · skip
    refine g_iload3 (pc := 108) dX6_findFault_108 ?_
    refine g_iconst (pc := 109) (1) dX6_findFault_109 (by decide) ?_
    first | refine g_aload5 (pc := 110) dX6_findFault_110 ?_ | refine g_aloadN5 (pc := 110) dX6_findFault_110 ?_
    refine g_slen (pc := 112) (j := 2) dX6_findFault_112 (by first | decide | omega) ?_
    refine g_iadd (pc := 113) dX6_findFault_113 ?_
    refine g_iadd (pc := 114) dX6_findFault_114 ?_
    rw [show nI pl + (1 + Int32.ofNat (sL 2)) = nI (pl + 7) from by rw [show (1 : Int32) + Int32.ofNat (sL 2) = nI 7 by decide, nI_add]]
    refine g_istore3 (pc := 115) dX6_findFault_115 (by decide) (by first | rfl | assumption) ?_
    refine g_goto (pc := 116) 18 dX6_findFault_116 (by decide) ?_
    refine G.mono (ih (p + 1) (s) (pl + 7) _ _ _ rfl rfl (by omega) (by omega) (by omega)) (fun za zb zc zh => ⟨zh.1.trans ?_, zh.2.1, zh.2.2⟩)
    refine congrArg (fun zt => some (Value.int zt)) ?_
    exact ((if_pos hlt).trans (((if_pos ⟨hP, hp4⟩)).trans (if_pos zh102))).symm
  · skip
    refine g_iload6 (pc := 105) dX6_findFault_105 ?_
    refine g_iret (pc := 107) dX6_findFault_107 rfl ?_
    exact ⟨congrArg (fun zt => some (Value.int zt)) (((if_pos hlt).trans (((if_pos ⟨hP, hp4⟩)).trans (if_neg zh102))).symm), rfl, rfl⟩
theorem ff_stain {len m p s pl : Nat} {v : Mm} {L : Lm} {o6 : Option Value} (hl : v 1 1 = nI len) (zh48 : len ≤ 48) (hlt : pl < len) (hm : len < pl + (m + 1) ∧ pl < 100) (hnP : ¬ (v 2 pl = 80 ∧ p < 4)) (hSt : v 2 pl = 83) (hs4 : s < 4) (hp : p ≤ 4) (ih : ∀ (p s pl : Nat) (o4 o5 o6 : Option Value) (_ : okp o4 = true) (_ : okp o5 = true), p ≤ 4 → s ≤ 4 → len < pl + m ∧ pl < 100 → G RX6 cX6_findFault 7 (some .int) 4 (fun a b c => a = some (.int (ffF v len m p s pl)) ∧ b = v ∧ c = L) 18 [some (.ref 1), some (.int (nI p)), some (.int (nI s)), some (.int (nI pl)), o4, o5, o6] [] v L) : G RX6 cX6_findFault 7 (some .int) 4 (fun a b c => a = some (.int (ffF v len (m + 1) p s pl)) ∧ b = v ∧ c = L) 89 [some (.ref 1), some (.int (nI (p))), some (.int (nI (s + 1))), some (.int (nI pl)), some (.int (v 2 pl)), some (.ref (100 + 3)), o6] [] v L := by
  first | refine g_aload0 (pc := 89) dX6_findFault_89 ?_ | refine g_aloadN0 (pc := 89) dX6_findFault_89 ?_
  refine g_iload3 (pc := 90) dX6_findFault_90 ?_
  first | refine g_aload5 (pc := 91) dX6_findFault_91 ?_ | refine g_aloadN5 (pc := 91) dX6_findFault_91 ?_
  refine g_fV2 (pc := 93) (c_X6_findFaultIn (j := 3) (by decide) (by decide)) cf6 (by first | rfl | assumption) dX6_findFault_93 cw_RX6_29 (by decide) (Nat.le_of_ble_eq_true rfl) ?_
  refine g_istore6 (pc := 96) dX6_findFault_96 (by decide) (by first | rfl | assumption) ?_
  refine g_iload6 (pc := 98) dX6_findFault_98 ?_
  refine g_bipush (pc := 100) (-9) dX6_findFault_100 (by decide) ?_
  refine g_icmp_eq (pc := 102) 108 dX6_findFault_102 (by decide) (fun zh102 => ?_) (fun zh102 => ?_)
  · skip
    refine g_iload3 (pc := 108) dX6_findFault_108 ?_
    refine g_iconst (pc := 109) (1) dX6_findFault_109 (by decide) ?_
    first | refine g_aload5 (pc := 110) dX6_findFault_110 ?_ | refine g_aloadN5 (pc := 110) dX6_findFault_110 ?_
    refine g_slen (pc := 112) (j := 3) dX6_findFault_112 (by first | decide | omega) ?_
    refine g_iadd (pc := 113) dX6_findFault_113 ?_
    refine g_iadd (pc := 114) dX6_findFault_114 ?_
    rw [show nI pl + (1 + Int32.ofNat (sL 3)) = nI (pl + 4) from by rw [show (1 : Int32) + Int32.ofNat (sL 3) = nI 4 by decide, nI_add]]
    refine g_istore3 (pc := 115) dX6_findFault_115 (by decide) (by first | rfl | assumption) ?_
    refine g_goto (pc := 116) 18 dX6_findFault_116 (by decide) ?_
    refine G.mono (ih (p) (s + 1) (pl + 4) _ _ _ rfl rfl (by omega) (by omega) (by omega)) (fun za zb zc zh => ⟨zh.1.trans ?_, zh.2.1, zh.2.2⟩)
    refine congrArg (fun zt => some (Value.int zt)) ?_
    exact ((if_pos hlt).trans (((if_neg hnP).trans (if_pos ⟨hSt, hs4⟩)).trans (if_pos zh102))).symm
  · skip
    refine g_iload6 (pc := 105) dX6_findFault_105 ?_
    refine g_iret (pc := 107) dX6_findFault_107 rfl ?_
    exact ⟨congrArg (fun zt => some (Value.int zt)) (((if_pos hlt).trans (((if_neg hnP).trans (if_pos ⟨hSt, hs4⟩)).trans (if_neg zh102))).symm), rfl, rfl⟩
theorem lp_X6_findFault {len : Nat} {v : Mm} {L : Lm} (hl : v 1 1 = nI len) (zh48 : len ≤ 48) : ∀ (m : Nat) (p s pl : Nat) (o4 o5 o6 : Option Value) (ho4 : okp o4 = true) (ho5 : okp o5 = true), p ≤ 4 → s ≤ 4 → len < pl + m ∧ pl < 100 → G RX6 cX6_findFault 7 (some .int) 4 (fun a b c => a = some (.int (ffF v len m p s pl)) ∧ b = v ∧ c = L) 18 [some (.ref 1), some (.int (nI p)), some (.int (nI s)), some (.int (nI pl)), o4, o5, o6] [] v L := by
  intro m
  induction m with
  | zero =>
    intro p s pl o4 o5 o6 ho4 ho5 hp hs hm
    refine g_iload3 (pc := 18) dX6_findFault_18 ?_
    first | refine g_aload0 (pc := 19) dX6_findFault_19 ?_ | refine g_aloadN0 (pc := 19) dX6_findFault_19 ?_
    refine g_getI (pc := 20) (j := 1) cf6 dX6_findFault_20 fl_RX6_15 (by decide) (by decide) (by first | rfl | assumption) ?_
    refine g_icmp_ge (pc := 23) 119 dX6_findFault_23 (by decide) (fun zh23 => ?_) (fun zh23 => ?_)
    · skip
      refine g_bipush (pc := 119) (-9) dX6_findFault_119 (by decide) ?_
      refine g_iret (pc := 121) dX6_findFault_121 rfl ?_
      exact ⟨rfl, rfl, rfl⟩
    · skip
      exact absurd (by rw [hl]; exact nI_le (by omega) (by omega)) zh23
  | succ m ih =>
    intro p s pl o4 o5 o6 ho4 ho5 hp hs hm
    refine g_iload3 (pc := 18) dX6_findFault_18 ?_
    first | refine g_aload0 (pc := 19) dX6_findFault_19 ?_ | refine g_aloadN0 (pc := 19) dX6_findFault_19 ?_
    refine g_getI (pc := 20) (j := 1) cf6 dX6_findFault_20 fl_RX6_15 (by decide) (by decide) (by first | rfl | assumption) ?_
    refine g_icmp_ge (pc := 23) 119 dX6_findFault_23 (by decide) (fun zh23 => ?_) (fun zh23 => ?_)
    · skip
      refine g_bipush (pc := 119) (-9) dX6_findFault_119 (by decide) ?_
      refine g_iret (pc := 121) dX6_findFault_121 rfl ?_
      exact ⟨congrArg (fun zt => some (Value.int zt)) (if_neg (fun zq => nI_ge zq (by omega) (by rw [← hl]; exact zh23))).symm, rfl, rfl⟩
    · skip
      have hlt : pl < len := by
        rcases Nat.lt_or_ge pl len with zq | zq
        · exact zq
        · exact absurd (by rw [hl]; exact nI_le zq (by omega)) zh23
      first | refine g_aload0 (pc := 26) dX6_findFault_26 ?_ | refine g_aloadN0 (pc := 26) dX6_findFault_26 ?_
      refine g_iload3 (pc := 27) dX6_findFault_27 ?_
      refine g_fV1 (pc := 28) (c_X6_letterAt) cf6 (by first | rfl | assumption) dX6_findFault_28 cw_RX6_19 (by decide) (Nat.le_of_ble_eq_true rfl) ?_
      rw [letF_in hl zh48 hlt]
      refine g_istore4 (pc := 31) dX6_findFault_31 (by decide) (by first | rfl | assumption) ?_
      refine g_iload4 (pc := 33) dX6_findFault_33 ?_
      refine g_bipush (pc := 35) (80) dX6_findFault_35 (by decide) ?_
      refine g_icmp_ne (pc := 37) 46 dX6_findFault_37 (by decide) (fun zh37 => ?_) (fun zh37 => ?_)
      · skip
        refine g_getsN (pc := 46) (j := 3) dX6_findFault_46 (by decide) fl_RX6_26 ?_
        first | refine g_astore5 (pc := 49) dX6_findFault_49 (by decide) (by first | rfl | assumption) ?_ | refine g_astoreN5 (pc := 49) dX6_findFault_49 (by decide) (by first | rfl | assumption) ?_
        refine g_iload4 (pc := 51) dX6_findFault_51 ?_
        refine g_bipush (pc := 53) (80) dX6_findFault_53 (by decide) ?_
        refine g_icmp_ne (pc := 55) 69 dX6_findFault_55 (by decide) (fun zh55 => ?_) (fun zh55 => ?_)
        · skip
          refine g_iload4 (pc := 69) dX6_findFault_69 ?_
          refine g_bipush (pc := 71) (83) dX6_findFault_71 (by decide) ?_
          refine g_icmp_ne (pc := 73) 87 dX6_findFault_73 (by decide) (fun zh73 => ?_) (fun zh73 => ?_)
          · skip
            refine g_iload3 (pc := 87) dX6_findFault_87 ?_
            refine g_iret (pc := 88) dX6_findFault_88 rfl ?_
            refine ⟨congrArg (fun zt => some (Value.int zt)) ?_, rfl, rfl⟩
            refine ((if_pos hlt).trans ((if_neg (fun zq => ?_)).trans (if_neg (fun zq => ?_)))).symm
            · first | exact zh55 zq.1 | exact nI_ge (b := 4) zq.2 (by decide) zh60
            · first | exact zh73 zq.1 | exact nI_ge (b := 4) zq.2 (by decide) zh78
          · skip
            refine g_iload2 (pc := 76) dX6_findFault_76 ?_
            refine g_iconst (pc := 77) (4) dX6_findFault_77 (by decide) ?_
            refine g_icmp_ge (pc := 78) 87 dX6_findFault_78 (by decide) (fun zh78 => ?_) (fun zh78 => ?_)
            · skip
              refine g_iload3 (pc := 87) dX6_findFault_87 ?_
              refine g_iret (pc := 88) dX6_findFault_88 rfl ?_
              refine ⟨congrArg (fun zt => some (Value.int zt)) ?_, rfl, rfl⟩
              refine ((if_pos hlt).trans ((if_neg (fun zq => ?_)).trans (if_neg (fun zq => ?_)))).symm
              · first | exact zh55 zq.1 | exact nI_ge (b := 4) zq.2 (by decide) zh60
              · first | exact zh73 zq.1 | exact nI_ge (b := 4) zq.2 (by decide) zh78
            · skip
              refine g_iinc2 (pc := 81) (nI (s + 1)) dX6_findFault_81 (nI_succ' s) (by decide) (by first | rfl | assumption) ?_
              refine g_goto (pc := 84) 89 dX6_findFault_84 (by decide) ?_
              first
                | exact ff_pen hl zh48 hlt hm zh37 (by rcases Nat.lt_or_ge p 4 with zq | zq <;> first | exact zq | exact absurd (nI_le (a := 4) zq (by omega)) zh60) hs ih
                | exact ff_stain hl zh48 hlt hm (fun zq => by first | exact zh37 zq.1 | exact nI_ge (b := 4) zq.2 (by decide) zh60) zh73 (by rcases Nat.lt_or_ge s 4 with zq | zq <;> first | exact zq | exact absurd (nI_le (a := 4) zq (by omega)) zh78) hp ih
                | exact absurd zh37 zh55
                | exact absurd zh55 zh37
                | exact absurd (zh37.symm.trans zh73) (by decide)
        · skip
          refine g_iload1 (pc := 58) dX6_findFault_58 ?_
          refine g_iconst (pc := 59) (4) dX6_findFault_59 (by decide) ?_
          refine g_icmp_ge (pc := 60) 69 dX6_findFault_60 (by decide) (fun zh60 => ?_) (fun zh60 => ?_)
          · skip
            refine g_iload4 (pc := 69) dX6_findFault_69 ?_
            refine g_bipush (pc := 71) (83) dX6_findFault_71 (by decide) ?_
            refine g_icmp_ne (pc := 73) 87 dX6_findFault_73 (by decide) (fun zh73 => ?_) (fun zh73 => ?_)
            · skip
              refine g_iload3 (pc := 87) dX6_findFault_87 ?_
              refine g_iret (pc := 88) dX6_findFault_88 rfl ?_
              refine ⟨congrArg (fun zt => some (Value.int zt)) ?_, rfl, rfl⟩
              refine ((if_pos hlt).trans ((if_neg (fun zq => ?_)).trans (if_neg (fun zq => ?_)))).symm
              · first | exact zh55 zq.1 | exact nI_ge (b := 4) zq.2 (by decide) zh60
              · first | exact zh73 zq.1 | exact nI_ge (b := 4) zq.2 (by decide) zh78
            · skip
              refine g_iload2 (pc := 76) dX6_findFault_76 ?_
              refine g_iconst (pc := 77) (4) dX6_findFault_77 (by decide) ?_
              refine g_icmp_ge (pc := 78) 87 dX6_findFault_78 (by decide) (fun zh78 => ?_) (fun zh78 => ?_)
              · skip
                refine g_iload3 (pc := 87) dX6_findFault_87 ?_
                refine g_iret (pc := 88) dX6_findFault_88 rfl ?_
                refine ⟨congrArg (fun zt => some (Value.int zt)) ?_, rfl, rfl⟩
                refine ((if_pos hlt).trans ((if_neg (fun zq => ?_)).trans (if_neg (fun zq => ?_)))).symm
                · first | exact zh55 zq.1 | exact nI_ge (b := 4) zq.2 (by decide) zh60
                · first | exact zh73 zq.1 | exact nI_ge (b := 4) zq.2 (by decide) zh78
              · skip
                refine g_iinc2 (pc := 81) (nI (s + 1)) dX6_findFault_81 (nI_succ' s) (by decide) (by first | rfl | assumption) ?_
                refine g_goto (pc := 84) 89 dX6_findFault_84 (by decide) ?_
                first
                  | exact ff_pen hl zh48 hlt hm zh37 (by rcases Nat.lt_or_ge p 4 with zq | zq <;> first | exact zq | exact absurd (nI_le (a := 4) zq (by omega)) zh60) hs ih
                  | exact ff_stain hl zh48 hlt hm (fun zq => by first | exact zh37 zq.1 | exact nI_ge (b := 4) zq.2 (by decide) zh60) zh73 (by rcases Nat.lt_or_ge s 4 with zq | zq <;> first | exact zq | exact absurd (nI_le (a := 4) zq (by omega)) zh78) hp ih
                  | exact absurd zh37 zh55
                  | exact absurd zh55 zh37
                  | exact absurd (zh37.symm.trans zh73) (by decide)
          · skip
            refine g_iinc1 (pc := 63) (nI (p + 1)) dX6_findFault_63 (nI_succ' p) (by decide) (by first | rfl | assumption) ?_
            refine g_goto (pc := 66) 89 dX6_findFault_66 (by decide) ?_
            first
              | exact ff_pen hl zh48 hlt hm zh37 (by rcases Nat.lt_or_ge p 4 with zq | zq <;> first | exact zq | exact absurd (nI_le (a := 4) zq (by omega)) zh60) hs ih
              | exact ff_stain hl zh48 hlt hm (fun zq => by first | exact zh37 zq.1 | exact nI_ge (b := 4) zq.2 (by decide) zh60) zh73 (by rcases Nat.lt_or_ge s 4 with zq | zq <;> first | exact zq | exact absurd (nI_le (a := 4) zq (by omega)) zh78) hp ih
              | exact absurd zh37 zh55
              | exact absurd zh55 zh37
              | exact absurd (zh37.symm.trans zh73) (by decide)
      · skip
        refine g_getsN (pc := 40) (j := 2) dX6_findFault_40 (by decide) fl_RX6_23 ?_
        refine g_goto (pc := 43) 49 dX6_findFault_43 (by decide) ?_
        first | refine g_astore5 (pc := 49) dX6_findFault_49 (by decide) (by first | rfl | assumption) ?_ | refine g_astoreN5 (pc := 49) dX6_findFault_49 (by decide) (by first | rfl | assumption) ?_
        refine g_iload4 (pc := 51) dX6_findFault_51 ?_
        refine g_bipush (pc := 53) (80) dX6_findFault_53 (by decide) ?_
        refine g_icmp_ne (pc := 55) 69 dX6_findFault_55 (by decide) (fun zh55 => ?_) (fun zh55 => ?_)
        · skip
          refine g_iload4 (pc := 69) dX6_findFault_69 ?_
          refine g_bipush (pc := 71) (83) dX6_findFault_71 (by decide) ?_
          refine g_icmp_ne (pc := 73) 87 dX6_findFault_73 (by decide) (fun zh73 => ?_) (fun zh73 => ?_)
          · skip
            refine g_iload3 (pc := 87) dX6_findFault_87 ?_
            refine g_iret (pc := 88) dX6_findFault_88 rfl ?_
            refine ⟨congrArg (fun zt => some (Value.int zt)) ?_, rfl, rfl⟩
            refine ((if_pos hlt).trans ((if_neg (fun zq => ?_)).trans (if_neg (fun zq => ?_)))).symm
            · first | exact zh55 zq.1 | exact nI_ge (b := 4) zq.2 (by decide) zh60
            · first | exact zh73 zq.1 | exact nI_ge (b := 4) zq.2 (by decide) zh78
          · skip
            refine g_iload2 (pc := 76) dX6_findFault_76 ?_
            refine g_iconst (pc := 77) (4) dX6_findFault_77 (by decide) ?_
            refine g_icmp_ge (pc := 78) 87 dX6_findFault_78 (by decide) (fun zh78 => ?_) (fun zh78 => ?_)
            · skip
              refine g_iload3 (pc := 87) dX6_findFault_87 ?_
              refine g_iret (pc := 88) dX6_findFault_88 rfl ?_
              refine ⟨congrArg (fun zt => some (Value.int zt)) ?_, rfl, rfl⟩
              refine ((if_pos hlt).trans ((if_neg (fun zq => ?_)).trans (if_neg (fun zq => ?_)))).symm
              · first | exact zh55 zq.1 | exact nI_ge (b := 4) zq.2 (by decide) zh60
              · first | exact zh73 zq.1 | exact nI_ge (b := 4) zq.2 (by decide) zh78
            · skip
              refine g_iinc2 (pc := 81) (nI (s + 1)) dX6_findFault_81 (nI_succ' s) (by decide) (by first | rfl | assumption) ?_
              refine g_goto (pc := 84) 89 dX6_findFault_84 (by decide) ?_
              first
                | exact ff_pen hl zh48 hlt hm zh37 (by rcases Nat.lt_or_ge p 4 with zq | zq <;> first | exact zq | exact absurd (nI_le (a := 4) zq (by omega)) zh60) hs ih
                | exact ff_stain hl zh48 hlt hm (fun zq => by first | exact zh37 zq.1 | exact nI_ge (b := 4) zq.2 (by decide) zh60) zh73 (by rcases Nat.lt_or_ge s 4 with zq | zq <;> first | exact zq | exact absurd (nI_le (a := 4) zq (by omega)) zh78) hp ih
                | exact absurd zh37 zh55
                | exact absurd zh55 zh37
                | exact absurd (zh37.symm.trans zh73) (by decide)
        · skip
          refine g_iload1 (pc := 58) dX6_findFault_58 ?_
          refine g_iconst (pc := 59) (4) dX6_findFault_59 (by decide) ?_
          refine g_icmp_ge (pc := 60) 69 dX6_findFault_60 (by decide) (fun zh60 => ?_) (fun zh60 => ?_)
          · skip
            refine g_iload4 (pc := 69) dX6_findFault_69 ?_
            refine g_bipush (pc := 71) (83) dX6_findFault_71 (by decide) ?_
            refine g_icmp_ne (pc := 73) 87 dX6_findFault_73 (by decide) (fun zh73 => ?_) (fun zh73 => ?_)
            · skip
              refine g_iload3 (pc := 87) dX6_findFault_87 ?_
              refine g_iret (pc := 88) dX6_findFault_88 rfl ?_
              refine ⟨congrArg (fun zt => some (Value.int zt)) ?_, rfl, rfl⟩
              refine ((if_pos hlt).trans ((if_neg (fun zq => ?_)).trans (if_neg (fun zq => ?_)))).symm
              · first | exact zh55 zq.1 | exact nI_ge (b := 4) zq.2 (by decide) zh60
              · first | exact zh73 zq.1 | exact nI_ge (b := 4) zq.2 (by decide) zh78
            · skip
              refine g_iload2 (pc := 76) dX6_findFault_76 ?_
              refine g_iconst (pc := 77) (4) dX6_findFault_77 (by decide) ?_
              refine g_icmp_ge (pc := 78) 87 dX6_findFault_78 (by decide) (fun zh78 => ?_) (fun zh78 => ?_)
              · skip
                refine g_iload3 (pc := 87) dX6_findFault_87 ?_
                refine g_iret (pc := 88) dX6_findFault_88 rfl ?_
                refine ⟨congrArg (fun zt => some (Value.int zt)) ?_, rfl, rfl⟩
                refine ((if_pos hlt).trans ((if_neg (fun zq => ?_)).trans (if_neg (fun zq => ?_)))).symm
                · first | exact zh55 zq.1 | exact nI_ge (b := 4) zq.2 (by decide) zh60
                · first | exact zh73 zq.1 | exact nI_ge (b := 4) zq.2 (by decide) zh78
              · skip
                refine g_iinc2 (pc := 81) (nI (s + 1)) dX6_findFault_81 (nI_succ' s) (by decide) (by first | rfl | assumption) ?_
                refine g_goto (pc := 84) 89 dX6_findFault_84 (by decide) ?_
                first
                  | exact ff_pen hl zh48 hlt hm zh37 (by rcases Nat.lt_or_ge p 4 with zq | zq <;> first | exact zq | exact absurd (nI_le (a := 4) zq (by omega)) zh60) hs ih
                  | exact ff_stain hl zh48 hlt hm (fun zq => by first | exact zh37 zq.1 | exact nI_ge (b := 4) zq.2 (by decide) zh60) zh73 (by rcases Nat.lt_or_ge s 4 with zq | zq <;> first | exact zq | exact absurd (nI_le (a := 4) zq (by omega)) zh78) hp ih
                  | exact absurd zh37 zh55
                  | exact absurd zh55 zh37
                  | exact absurd (zh37.symm.trans zh73) (by decide)
          · skip
            refine g_iinc1 (pc := 63) (nI (p + 1)) dX6_findFault_63 (nI_succ' p) (by decide) (by first | rfl | assumption) ?_
            refine g_goto (pc := 66) 89 dX6_findFault_66 (by decide) ?_
            first
              | exact ff_pen hl zh48 hlt hm zh37 (by rcases Nat.lt_or_ge p 4 with zq | zq <;> first | exact zq | exact absurd (nI_le (a := 4) zq (by omega)) zh60) hs ih
              | exact ff_stain hl zh48 hlt hm (fun zq => by first | exact zh37 zq.1 | exact nI_ge (b := 4) zq.2 (by decide) zh60) zh73 (by rcases Nat.lt_or_ge s 4 with zq | zq <;> first | exact zq | exact absurd (nI_le (a := 4) zq (by omega)) zh78) hp ih
              | exact absurd zh37 zh55
              | exact absurd zh55 zh37
              | exact absurd (zh37.symm.trans zh73) (by decide)
theorem c_X6_findFault {len : Nat} {v : Mm} {L : Lm} (hl : v 1 1 = nI len) (zh48 : len ≤ 48) : Fn yX6_findFault cX6_findFault 7 (some .int) 4 [.ref 1] v L (some (.int (if v 1 1 = 0 ∨ ¬ v 2 0 = 78 then 0 else ffF v len 49 0 0 1))) v L := by
  refine Fq.of (plainFor_of_name (by decide)) [some (.ref 1), none, none, none, none, none, none] rfl (Nat.le_of_ble_eq_true rfl) ?_
  first | refine g_aload0 (pc := 0) dX6_findFault_0 ?_ | refine g_aloadN0 (pc := 0) dX6_findFault_0 ?_
  refine g_iconst (pc := 1) (0) dX6_findFault_1 (by decide) ?_
  refine g_fV1 (pc := 2) (c_X6_letterAt) cf6 (by first | rfl | assumption) dX6_findFault_2 cw_RX6_19 (by decide) (Nat.le_of_ble_eq_true rfl) ?_
  have ze0 : letF v 0 = 78 ↔ ¬ (v 1 1 = 0 ∨ ¬ v 2 0 = 78) := let0 hl zh48
  refine g_bipush (pc := 5) (78) dX6_findFault_5 (by decide) ?_
  refine g_icmp_eq (pc := 7) 12 dX6_findFault_7 (by decide) (fun zh7 => ?_) (fun zh7 => ?_)
  · skip
    refine g_iconst (pc := 12) (0) dX6_findFault_12 (by decide) ?_
    refine g_istore1 (pc := 13) dX6_findFault_13 (by decide) (by first | rfl | assumption) ?_
    refine g_iconst (pc := 14) (0) dX6_findFault_14 (by decide) ?_
    refine g_istore2 (pc := 15) dX6_findFault_15 (by decide) (by first | rfl | assumption) ?_
    refine g_iconst (pc := 16) (1) dX6_findFault_16 (by decide) ?_
    refine g_istore3 (pc := 17) dX6_findFault_17 (by decide) (by first | rfl | assumption) ?_
    rw [if_neg (ze0.mp zh7)]
    exact lp_X6_findFault hl zh48 49 0 0 1 none none none rfl rfl (by decide) (by decide) (by omega)
  · skip
    refine g_iconst (pc := 10) (0) dX6_findFault_10 (by decide) ?_
    refine g_iret (pc := 11) dX6_findFault_11 rfl ?_
    exact ⟨congrArg (fun zt => some (Value.int zt)) (if_pos (Classical.not_not.mp (fun zq => zh7 (ze0.mpr zq)))).symm, rfl, rfl⟩
theorem c_X6_layPen {S p : Nat} {x : Int32} {v : Mm} {L : Lm} (hS : Sh S) (hp : p < 4) (hc : v S 2 = nI p) : Fn yX6_layPen cX6_layPen 4 none 2 [.ref 1, .ref S, .int x] v L none (lpM v S p x) L := by
  have hs := sh_lt hS
  have hs5 := sh_ge hS
  have hk4 := sh_kd hS
  have hkp := sh_kp hS hp
  have fa : ∀ (w : Mm) (k j : Nat) (z y : Int32), k ≠ 1 → k ≠ 2 → fgF (upd2 w k j z) y = fgF w y := fun w k j z y zh1 zh2 => fg_away (u2_n (fun q => zh1 q.1.symm)) (by funext i; exact u2_n (fun q => zh2 q.1.symm)) y
  refine Fq.of (plainFor_of_name (by decide)) [some (.ref 1), some (.ref S), some (.int x), none] rfl (Nat.le_of_ble_eq_true rfl) ?_
  first | refine g_aload1 (pc := 0) dX6_layPen_0 ?_ | refine g_aloadN1 (pc := 0) dX6_layPen_0 ?_
  refine g_fV0 (pc := 1) (c_X4_addPen hS hp hc) cf4 (by first | rfl | assumption) dX6_layPen_1 cw_RX6_56 (by decide) (Nat.le_of_ble_eq_true rfl) ?_
  first | refine g_astore3 (pc := 4) dX6_layPen_4 (by decide) (by first | rfl | assumption) ?_ | refine g_astoreN3 (pc := 4) dX6_layPen_4 (by decide) (by first | rfl | assumption) ?_
  first | refine g_aload3 (pc := 5) dX6_layPen_5 ?_ | refine g_aloadN3 (pc := 5) dX6_layPen_5 ?_
  refine g_ifnonnull (pc := 6) 10 dX6_layPen_6 (by decide) ?_
  first | refine g_aload3 (pc := 10) dX6_layPen_10 ?_ | refine g_aloadN3 (pc := 10) dX6_layPen_10 ?_
  refine g_iconst (pc := 11) (5) dX6_layPen_11 (by decide) ?_
  first | refine g_aload0 (pc := 12) dX6_layPen_12 ?_ | refine g_aloadN0 (pc := 12) dX6_layPen_12 ?_
  refine g_iload2 (pc := 13) dX6_layPen_13 ?_
  refine g_iconst (pc := 14) (2) dX6_layPen_14 (by decide) ?_
  refine g_iadd (pc := 15) dX6_layPen_15 ?_
  refine g_fV1 (pc := 16) (c_X6_figureAt) cf6 (by first | rfl | assumption) dX6_layPen_16 cw_RX6_33 (by decide) (Nat.le_of_ble_eq_true rfl) ?_
  refine g_imul (pc := 19) dX6_layPen_19 ?_
  first | refine g_aload0 (pc := 20) dX6_layPen_20 ?_ | refine g_aloadN0 (pc := 20) dX6_layPen_20 ?_
  refine g_iload2 (pc := 21) dX6_layPen_21 ?_
  refine g_iconst (pc := 22) (1) dX6_layPen_22 (by decide) ?_
  refine g_iadd (pc := 23) dX6_layPen_23 ?_
  refine g_fV1 (pc := 24) (c_X6_figureAt) cf6 (by first | rfl | assumption) dX6_layPen_24 cw_RX6_33 (by decide) (Nat.le_of_ble_eq_true rfl) ?_
  refine g_iadd (pc := 27) dX6_layPen_27 ?_
  refine g_putI (pc := 28) (j := 0) cf2 dX6_layPen_28 fl_RX6_60 (by decide) rfl rfl (by decide) (by first | rfl | assumption) ?_
  first | refine g_aload3 (pc := 31) dX6_layPen_31 ?_ | refine g_aloadN3 (pc := 31) dX6_layPen_31 ?_
  first | refine g_aload0 (pc := 32) dX6_layPen_32 ?_ | refine g_aloadN0 (pc := 32) dX6_layPen_32 ?_
  refine g_iload2 (pc := 33) dX6_layPen_33 ?_
  refine g_iconst (pc := 34) (3) dX6_layPen_34 (by decide) ?_
  refine g_iadd (pc := 35) dX6_layPen_35 ?_
  refine g_fV1 (pc := 36) (c_X6_figureAt) cf6 (by first | rfl | assumption) dX6_layPen_36 cw_RX6_33 (by decide) (Nat.le_of_ble_eq_true rfl) ?_
  refine g_putI (pc := 39) (j := 1) cf2 dX6_layPen_39 fl_RX6_65 (by decide) rfl rfl (by decide) (by first | rfl | assumption) ?_
  first | refine g_aload3 (pc := 42) dX6_layPen_42 ?_ | refine g_aloadN3 (pc := 42) dX6_layPen_42 ?_
  first | refine g_aload0 (pc := 43) dX6_layPen_43 ?_ | refine g_aloadN0 (pc := 43) dX6_layPen_43 ?_
  refine g_iload2 (pc := 44) dX6_layPen_44 ?_
  refine g_iconst (pc := 45) (4) dX6_layPen_45 (by decide) ?_
  refine g_iadd (pc := 46) dX6_layPen_46 ?_
  refine g_fV1 (pc := 47) (c_X6_figureAt) cf6 (by first | rfl | assumption) dX6_layPen_47 cw_RX6_33 (by decide) (Nat.le_of_ble_eq_true rfl) ?_
  refine g_iconst (pc := 50) (3) dX6_layPen_50 (by decide) ?_
  refine g_isub (pc := 51) dX6_layPen_51 ?_
  refine g_putI (pc := 52) (j := 2) cf2 dX6_layPen_52 fl_RX6_68 (by decide) rfl rfl (by decide) (by first | rfl | assumption) ?_
  first | refine g_aload3 (pc := 55) dX6_layPen_55 ?_ | refine g_aloadN3 (pc := 55) dX6_layPen_55 ?_
  first | refine g_aload0 (pc := 56) dX6_layPen_56 ?_ | refine g_aloadN0 (pc := 56) dX6_layPen_56 ?_
  refine g_iload2 (pc := 57) dX6_layPen_57 ?_
  refine g_iconst (pc := 58) (5) dX6_layPen_58 (by decide) ?_
  refine g_iadd (pc := 59) dX6_layPen_59 ?_
  refine g_fV1 (pc := 60) (c_X6_figureAt) cf6 (by first | rfl | assumption) dX6_layPen_60 cw_RX6_33 (by decide) (Nat.le_of_ble_eq_true rfl) ?_
  refine g_iconst (pc := 63) (3) dX6_layPen_63 (by decide) ?_
  refine g_isub (pc := 64) dX6_layPen_64 ?_
  refine g_putI (pc := 65) (j := 3) cf2 dX6_layPen_65 fl_RX6_71 (by decide) rfl rfl (by decide) (by first | rfl | assumption) ?_
  first | refine g_aload3 (pc := 68) dX6_layPen_68 ?_ | refine g_aloadN3 (pc := 68) dX6_layPen_68 ?_
  refine g_iconst (pc := 69) (5) dX6_layPen_69 (by decide) ?_
  first | refine g_aload0 (pc := 70) dX6_layPen_70 ?_ | refine g_aloadN0 (pc := 70) dX6_layPen_70 ?_
  refine g_iload2 (pc := 71) dX6_layPen_71 ?_
  refine g_bipush (pc := 72) (6) dX6_layPen_72 (by decide) ?_
  refine g_iadd (pc := 74) dX6_layPen_74 ?_
  refine g_fV1 (pc := 75) (c_X6_figureAt) cf6 (by first | rfl | assumption) dX6_layPen_75 cw_RX6_33 (by decide) (Nat.le_of_ble_eq_true rfl) ?_
  refine g_imul (pc := 78) dX6_layPen_78 ?_
  refine g_putI (pc := 79) (j := 5) cf2 dX6_layPen_79 fl_RX6_74 (by decide) rfl rfl (by decide) (by first | rfl | assumption) ?_
  first | refine g_aload3 (pc := 82) dX6_layPen_82 ?_ | refine g_aloadN3 (pc := 82) dX6_layPen_82 ?_
  first | refine g_aload3 (pc := 83) dX6_layPen_83 ?_ | refine g_aloadN3 (pc := 83) dX6_layPen_83 ?_
  refine g_getI (pc := 84) (j := 5) cf2 dX6_layPen_84 fl_RX6_74 (by decide) (by decide) (by first | rfl | assumption) ?_
  refine g_putI (pc := 87) (j := 4) cf2 dX6_layPen_87 fl_RX6_77 (by decide) rfl rfl (by decide) (by first | rfl | assumption) ?_
  first | refine g_aload3 (pc := 90) dX6_layPen_90 ?_ | refine g_aloadN3 (pc := 90) dX6_layPen_90 ?_
  refine g_iconst (pc := 91) (1) dX6_layPen_91 (by decide) ?_
  refine g_putZ (pc := 92) (j := 6) cf2 dX6_layPen_92 fl_RX6_80 (by decide) rfl rfl (by decide) (by first | rfl | assumption) (by first | exact Or.inl rfl | exact Or.inr rfl | assumption) ?_
  refine g_vret (pc := 95) dX6_layPen_95 rfl ?_
  refine ⟨rfl, ?_, rfl⟩
  unfold lpM
  simp only [fa _ _ _ _ _ (show S + 3 + p ≠ 1 by omega) (show S + 3 + p ≠ 2 by omega), fa _ _ _ _ _ (show S ≠ 1 by omega) (show S ≠ 2 by omega), u2_s]
theorem lp_X6_layOut {S len : Nat} {L : Lm} (hS : Sh S) (zh48 : len ≤ 48) : ∀ (m : Nat) (p s pl : Nat) (v : Mm), v 1 1 = nI len → v S 2 = nI p → p ≤ 4 → s ≤ 4 → ffF v len m p s pl = -9 → len < pl + m ∧ pl < 100 → G RX6 cX6_layOut 3 none 3 (fun a b c => a = none ∧ b = loM S len m p pl v ∧ c = L) 6 [some (.ref 1), some (.ref S), some (.int (nI pl))] [] v L := by
  intro m
  induction m with
  | zero =>
    intro p s pl v hl hc hp hs hff hm
    refine g_iload2 (pc := 6) dX6_layOut_6 ?_
    first | refine g_aload0 (pc := 7) dX6_layOut_7 ?_ | refine g_aloadN0 (pc := 7) dX6_layOut_7 ?_
    refine g_getI (pc := 8) (j := 1) cf6 dX6_layOut_8 fl_RX6_15 (by decide) (by decide) (by first | rfl | assumption) ?_
    refine g_icmp_ge (pc := 11) 82 dX6_layOut_11 (by decide) (fun zh11 => ?_) (fun zh11 => ?_)
    · skip
      refine g_vret (pc := 82) dX6_layOut_82 rfl ?_
      exact ⟨rfl, rfl, rfl⟩
    · skip
      exact absurd (by rw [hl]; exact nI_le (by omega) (by omega)) zh11
  | succ m ih =>
    intro p s pl v hl hc hp hs hff hm
    refine g_iload2 (pc := 6) dX6_layOut_6 ?_
    first | refine g_aload0 (pc := 7) dX6_layOut_7 ?_ | refine g_aloadN0 (pc := 7) dX6_layOut_7 ?_
    refine g_getI (pc := 8) (j := 1) cf6 dX6_layOut_8 fl_RX6_15 (by decide) (by decide) (by first | rfl | assumption) ?_
    refine g_icmp_ge (pc := 11) 82 dX6_layOut_11 (by decide) (fun zh11 => ?_) (fun zh11 => ?_)
    · skip
      refine g_vret (pc := 82) dX6_layOut_82 rfl ?_
      exact ⟨rfl, (if_neg (fun zq => nI_ge zq (by omega) (by rw [← hl]; exact zh11))).symm, rfl⟩
    · skip
      have hlt : pl < len := by
        rcases Nat.lt_or_ge pl len with zq | zq
        · exact zq
        · exact absurd (by rw [hl]; exact nI_le zq (by omega)) zh11
      have hs26 := sh_lt hS
      have hs5 := sh_ge hS
      have hff2 := (if_pos hlt).symm.trans hff
      first | refine g_aload0 (pc := 14) dX6_layOut_14 ?_ | refine g_aloadN0 (pc := 14) dX6_layOut_14 ?_
      refine g_iload2 (pc := 15) dX6_layOut_15 ?_
      refine g_fV1 (pc := 16) (c_X6_letterAt) cf6 (by first | rfl | assumption) dX6_layOut_16 cw_RX6_19 (by decide) (Nat.le_of_ble_eq_true rfl) ?_
      rw [letF_in hl zh48 hlt]
      refine g_bipush (pc := 19) (80) dX6_layOut_19 (by decide) ?_
      refine g_icmp_ne (pc := 21) 42 dX6_layOut_21 (by decide) (fun zh21 => ?_) (fun zh21 => ?_)
      · skip
        have hnP : ¬ (v 2 pl = 80 ∧ p < 4) := fun zq => zh21 zq.1
        have hff3 := (if_neg hnP).symm.trans hff2
        have hSs : v 2 pl = 83 ∧ s < 4 := by
          apply Classical.byContradiction
          intro zq
          exact absurd ((if_neg zq).symm.trans hff3) (nI_ne9 (by omega))
        have hff4 := (if_pos hSs).symm.trans hff3
        first | refine g_aload1 (pc := 42) dX6_layOut_42 ?_ | refine g_aloadN1 (pc := 42) dX6_layOut_42 ?_
        refine g_iconst (pc := 43) (5) dX6_layOut_43 (by decide) ?_
        first | refine g_aload0 (pc := 44) dX6_layOut_44 ?_ | refine g_aloadN0 (pc := 44) dX6_layOut_44 ?_
        refine g_iload2 (pc := 45) dX6_layOut_45 ?_
        refine g_iconst (pc := 46) (2) dX6_layOut_46 (by decide) ?_
        refine g_iadd (pc := 47) dX6_layOut_47 ?_
        refine g_fV1 (pc := 48) (c_X6_figureAt) cf6 (by first | rfl | assumption) dX6_layOut_48 cw_RX6_33 (by decide) (Nat.le_of_ble_eq_true rfl) ?_
        refine g_imul (pc := 51) dX6_layOut_51 ?_
        first | refine g_aload0 (pc := 52) dX6_layOut_52 ?_ | refine g_aloadN0 (pc := 52) dX6_layOut_52 ?_
        refine g_iload2 (pc := 53) dX6_layOut_53 ?_
        refine g_iconst (pc := 54) (1) dX6_layOut_54 (by decide) ?_
        refine g_iadd (pc := 55) dX6_layOut_55 ?_
        refine g_fV1 (pc := 56) (c_X6_figureAt) cf6 (by first | rfl | assumption) dX6_layOut_56 cw_RX6_33 (by decide) (Nat.le_of_ble_eq_true rfl) ?_
        refine g_iadd (pc := 59) dX6_layOut_59 ?_
        first | refine g_aload0 (pc := 60) dX6_layOut_60 ?_ | refine g_aloadN0 (pc := 60) dX6_layOut_60 ?_
        refine g_iload2 (pc := 61) dX6_layOut_61 ?_
        refine g_iconst (pc := 62) (3) dX6_layOut_62 (by decide) ?_
        refine g_iadd (pc := 63) dX6_layOut_63 ?_
        refine g_fV1 (pc := 64) (c_X6_figureAt) cf6 (by first | rfl | assumption) dX6_layOut_64 cw_RX6_33 (by decide) (Nat.le_of_ble_eq_true rfl) ?_
        refine g_vV2 (pc := 67) (c_X4_setInk hS) cf4 (sh_kd hS) dX6_layOut_67 cw_RX6_52 (by decide) (Nat.le_of_ble_eq_true rfl) ?_
        refine g_iload2 (pc := 70) dX6_layOut_70 ?_
        refine g_iconst (pc := 71) (1) dX6_layOut_71 (by decide) ?_
        refine g_getsN (pc := 72) (j := 3) dX6_layOut_72 (by decide) fl_RX6_26 ?_
        refine g_slen (pc := 75) (j := 3) dX6_layOut_75 (by first | decide | omega) ?_
        refine g_iadd (pc := 76) dX6_layOut_76 ?_
        refine g_iadd (pc := 77) dX6_layOut_77 ?_
        rw [show nI pl + (1 + Int32.ofNat (sL 3)) = nI (pl + 4) from by rw [show (1 : Int32) + Int32.ofNat (sL 3) = nI 4 by decide, nI_add]]
        refine g_istore2 (pc := 78) dX6_layOut_78 (by decide) (by first | rfl | assumption) ?_
        refine g_goto (pc := 79) 6 dX6_layOut_79 (by decide) ?_
        first
          | (have ee : loM S len (m + 1) p pl v = loM S len m (p + 1) (pl + 7) (lpM v S p (nI pl)) := (if_pos hlt).trans (if_pos zh21)
             have hff5 : ffF v len m (p + 1) s (pl + 7) = -9 := ff_on1 hff3
             rw [ee]
             exact ih (p + 1) s (pl + 7) _ (by rw [lpM_away (by omega) (by omega)]; exact hl) (lpM_S2 _ _ _ _) (by omega) hs (by rw [ffF_congr (lpM_away (by omega) (by omega)) (by funext zi; exact lpM_away (by omega) (by omega))]; exact hff5) (by omega))
          | (have ee : loM S len (m + 1) p pl v = loM S len m p (pl + 4) (slM v S (nI pl)) := (if_pos hlt).trans (if_neg zh21)
             have hff5 : ffF v len m p (s + 1) (pl + 4) = -9 := ff_on2 hff4
             rw [ee]
             exact ih p (s + 1) (pl + 4) _ (by unfold slM; rw [stM_away (by omega)]; exact hl) (by unfold slM; rw [stM_away (by omega)]; exact hc) hp (by omega) (by rw [ffF_congr (by unfold slM; exact stM_away (by omega)) (by funext zi; unfold slM; exact stM_away (by omega))]; exact hff5) (by omega))
      · skip
        have hp4 : p < 4 := by
          rcases Nat.lt_or_ge p 4 with zq | zq
          · exact zq
          · exact absurd (((if_neg (fun zz => by omega)).trans (if_neg (fun zz => by rw [zh21] at zz; exact absurd zz.1 (by decide)))).symm.trans hff2) (nI_ne9 (by omega))
        have hff3 := (if_pos ⟨zh21, hp4⟩).symm.trans hff2
        first | refine g_aload0 (pc := 24) dX6_layOut_24 ?_ | refine g_aloadN0 (pc := 24) dX6_layOut_24 ?_
        first | refine g_aload1 (pc := 25) dX6_layOut_25 ?_ | refine g_aloadN1 (pc := 25) dX6_layOut_25 ?_
        refine g_iload2 (pc := 26) dX6_layOut_26 ?_
        refine g_vV2 (pc := 27) (c_X6_layPen hS hp4 hc) cf6 (by first | rfl | assumption) dX6_layOut_27 cw_RX6_48 (by decide) (Nat.le_of_ble_eq_true rfl) ?_
        refine g_iload2 (pc := 30) dX6_layOut_30 ?_
        refine g_iconst (pc := 31) (1) dX6_layOut_31 (by decide) ?_
        refine g_getsN (pc := 32) (j := 2) dX6_layOut_32 (by decide) fl_RX6_23 ?_
        refine g_slen (pc := 35) (j := 2) dX6_layOut_35 (by first | decide | omega) ?_
        refine g_iadd (pc := 36) dX6_layOut_36 ?_
        refine g_iadd (pc := 37) dX6_layOut_37 ?_
        rw [show nI pl + (1 + Int32.ofNat (sL 2)) = nI (pl + 7) from by rw [show (1 : Int32) + Int32.ofNat (sL 2) = nI 7 by decide, nI_add]]
        refine g_istore2 (pc := 38) dX6_layOut_38 (by decide) (by first | rfl | assumption) ?_
        refine g_goto (pc := 39) 6 dX6_layOut_39 (by decide) ?_
        first
          | (have ee : loM S len (m + 1) p pl v = loM S len m (p + 1) (pl + 7) (lpM v S p (nI pl)) := (if_pos hlt).trans (if_pos zh21)
             have hff5 : ffF v len m (p + 1) s (pl + 7) = -9 := ff_on1 hff3
             rw [ee]
             exact ih (p + 1) s (pl + 7) _ (by rw [lpM_away (by omega) (by omega)]; exact hl) (lpM_S2 _ _ _ _) (by omega) hs (by rw [ffF_congr (lpM_away (by omega) (by omega)) (by funext zi; exact lpM_away (by omega) (by omega))]; exact hff5) (by omega))
          | (have ee : loM S len (m + 1) p pl v = loM S len m p (pl + 4) (slM v S (nI pl)) := (if_pos hlt).trans (if_neg zh21)
             have hff5 : ffF v len m p (s + 1) (pl + 4) = -9 := ff_on2 hff4
             rw [ee]
             exact ih p (s + 1) (pl + 4) _ (by unfold slM; rw [stM_away (by omega)]; exact hl) (by unfold slM; rw [stM_away (by omega)]; exact hc) hp (by omega) (by rw [ffF_congr (by unfold slM; exact stM_away (by omega)) (by funext zi; unfold slM; exact stM_away (by omega))]; exact hff5) (by omega))
theorem c_X6_layOut {S len : Nat} {v : Mm} {L : Lm} (hS : Sh S) (hl : v 1 1 = nI len) (zh48 : len ≤ 48) (hff : ffF v len 49 0 0 1 = -9) : Fn yX6_layOut cX6_layOut 3 none 3 [.ref 1, .ref S] v L none (loM S len 49 0 1 (clM v S)) L := by
  refine Fq.of (plainFor_of_name (by decide)) [some (.ref 1), some (.ref S), none] rfl (Nat.le_of_ble_eq_true rfl) ?_
  first | refine g_aload1 (pc := 0) dX6_layOut_0 ?_ | refine g_aloadN1 (pc := 0) dX6_layOut_0 ?_
  refine g_vV0 (pc := 1) (c_X4_clear hS) cf4 (sh_kd hS) dX6_layOut_1 cw_RX6_43 (by decide) (Nat.le_of_ble_eq_true rfl) ?_
  refine g_iconst (pc := 4) (1) dX6_layOut_4 (by decide) ?_
  refine g_istore2 (pc := 5) dX6_layOut_5 (by decide) (by first | rfl | assumption) ?_
  have hs26 := sh_lt hS
  have hs5 := sh_ge hS
  have ca : ∀ (k j : Nat), k ≠ S → k ≠ S + 2 → clM v S k j = v k j := fun k j q1 q2 => clM_away q1 q2
  exact lp_X6_layOut hS zh48 49 0 0 1 (clM v S) (by rw [ca 1 1 (by omega) (by omega)]; exact hl) (clM_S2 v S) (by decide) (by decide) (by rw [ffF_congr (ca 1 1 (by omega) (by omega)) (by funext zi; exact ca 2 zi (by omega) (by omega))]; exact hff) (by omega)
