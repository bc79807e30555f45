theorem c_X10_writesAll {n w p : Nat} {v : Mm} {L : Lm} (hM : MSt v n w) (hp : p < n) : Fn yX10_writesAll cX10_writesAll 2 (some .boolean) 4 [.ref 79, .int (nI p)] v L (some (.int (b01 ((woA v p w).2 79 14 = (woA v p w).2 79 12)))) (woA v p w).2 L := by
  obtain ⟨hn4, hn, hw, hw8, hdo⟩ := hM
  refine Fq.of (plainFor_of_name (by decide)) [some (.ref 79), some (.int (nI p))] rfl (Nat.le_of_ble_eq_true rfl) ?_
  first | refine g_aload0 (pc := 0) dX10_writesAll_0 ?_ | refine g_aloadN0 (pc := 0) dX10_writesAll_0 ?_
  refine g_iconst (pc := 1) (1) dX10_writesAll_1 (by decide) ?_
  refine g_iload1 (pc := 2) dX10_writesAll_2 ?_
  refine g_bipush (pc := 3) (8) dX10_writesAll_3 (by decide) ?_
  refine g_iconst (pc := 5) (0) dX10_writesAll_5 (by decide) ?_
  refine g_fV4 (pc := 6) (c_X10_writeOn (l := 1) (q := 8) (n := n) (w := w) (by decide) hp hn4 (by decide) hw8 hn hw (hdo p hp)) cf10 (by first | rfl | assumption) dX10_writesAll_6 cw_RX10_143 (by decide) (Nat.le_of_ble_eq_true rfl) ?_
  refine g_pop (pc := 9) dX10_writesAll_9 rfl ?_
  change G _ _ _ _ _ _ _ _ _ (woA v p w).2 _
  first | refine g_aload0 (pc := 10) dX10_writesAll_10 ?_ | refine g_aloadN0 (pc := 10) dX10_writesAll_10 ?_
  refine g_getI (pc := 11) (j := 14) cf10 dX10_writesAll_11 fl_RX10_130 (by decide) (by decide) (by first | rfl | assumption) ?_
  first | refine g_aload0 (pc := 14) dX10_writesAll_14 ?_ | refine g_aloadN0 (pc := 14) dX10_writesAll_14 ?_
  refine g_getI (pc := 15) (j := 12) cf10 dX10_writesAll_15 fl_RX10_100 (by decide) (by decide) (by first | rfl | assumption) ?_
  refine g_icmp_ne (pc := 18) 25 dX10_writesAll_18 (by decide) (fun zh18 => ?_) (fun zh18 => ?_)
  · skip
    refine g_iconst (pc := 25) (0) dX10_writesAll_25 (by decide) ?_
    refine g_zret (pc := 26) dX10_writesAll_26 rfl (by first | exact Or.inl rfl | exact Or.inr rfl | assumption) ?_
    first | (rw [b01_t (zh18)]; exact ⟨rfl, rfl, rfl⟩) | (rw [b01_f (zh18)]; exact ⟨rfl, rfl, rfl⟩)
  · skip
    refine g_iconst (pc := 21) (1) dX10_writesAll_21 (by decide) ?_
    refine g_goto (pc := 22) 26 dX10_writesAll_22 (by decide) ?_
    refine g_zret (pc := 26) dX10_writesAll_26 rfl (by first | exact Or.inl rfl | exact Or.inr rfl | assumption) ?_
    first | (rw [b01_t (zh18)]; exact ⟨rfl, rfl, rfl⟩) | (rw [b01_f (zh18)]; exact ⟨rfl, rfl, rfl⟩)
theorem c_X10_tryThing_1u {n w : Nat} {x y : Int32} {v : Mm} {L : Lm} (hM : MSt v n w) (hx : ¬ (0 ≤ x ∧ x < nI n)) : Fn yX10_tryThing cX10_tryThing 8 (some .boolean) 5 [.ref 79, .int 1, .int x, .int y] v L (some (.int 0)) v L := by
  obtain ⟨hn4, hn, hw, hw8, hdo⟩ := hM
  refine Fq.of (plainFor_of_name (by decide)) [some (.ref 79), some (.int 1), some (.int x), some (.int y), none, none, none, none] rfl (Nat.le_of_ble_eq_true rfl) ?_
  refine g_iload1 (pc := 0) dX10_tryThing_0 ?_
  refine g_tableIn (pc := 1) (off := 43) 44 dX10_tryThing_1 (by decide) (by decide) (by rfl) (by decide) ?_
  first | refine g_aload0 (pc := 44) dX10_tryThing_44 ?_ | refine g_aloadN0 (pc := 44) dX10_tryThing_44 ?_
  refine g_iconst (pc := 45) (1) dX10_tryThing_45 (by decide) ?_
  refine g_iload2 (pc := 46) dX10_tryThing_46 ?_
  refine g_iload3 (pc := 47) dX10_tryThing_47 ?_
  refine g_fV3 (pc := 48) (c_X10_canStep_n hn hn4 hx) cf10 (by first | rfl | assumption) dX10_tryThing_48 cw_RX10_133 (by decide) (Nat.le_of_ble_eq_true rfl) ?_
  refine g_istore4 (pc := 51) dX10_tryThing_51 (by decide) (by first | rfl | assumption) ?_
  refine g_iload4 (pc := 53) dX10_tryThing_53 ?_
  refine g_if_eq (pc := 55) 66 dX10_tryThing_55 (by decide) (fun zh55 => ?_) (fun zh55 => ?_)
  · skip
    refine g_iload4 (pc := 66) dX10_tryThing_66 ?_
    refine g_zret (pc := 68) dX10_tryThing_68 rfl (by first | exact Or.inl rfl | exact Or.inr rfl | assumption) ?_
    exact ⟨rfl, rfl, rfl⟩
  · skip
    first | exact absurd zh55 (by decide) | exact absurd (by decide) zh55
theorem c_X10_tryThing_1n {n w p : Nat} {y : Int32} {v : Mm} {L : Lm} (hM : MSt v n w) (hp : p < n) (hc : ¬ ((0 ≤ y ∧ y ≤ 7) ∧ ¬ ndF (v 82 (43 * 1 + p)) y = -9)) : Fn yX10_tryThing cX10_tryThing 8 (some .boolean) 5 [.ref 79, .int 1, .int (nI p), .int y] v L (some (.int 0)) v L := by
  obtain ⟨hn4, hn, hw, hw8, hdo⟩ := hM
  refine Fq.of (plainFor_of_name (by decide)) [some (.ref 79), some (.int 1), some (.int (nI p)), some (.int y), none, none, none, none] rfl (Nat.le_of_ble_eq_true rfl) ?_
  refine g_iload1 (pc := 0) dX10_tryThing_0 ?_
  refine g_tableIn (pc := 1) (off := 43) 44 dX10_tryThing_1 (by decide) (by decide) (by rfl) (by decide) ?_
  first | refine g_aload0 (pc := 44) dX10_tryThing_44 ?_ | refine g_aloadN0 (pc := 44) dX10_tryThing_44 ?_
  refine g_iconst (pc := 45) (1) dX10_tryThing_45 (by decide) ?_
  refine g_iload2 (pc := 46) dX10_tryThing_46 ?_
  refine g_iload3 (pc := 47) dX10_tryThing_47 ?_
  refine g_fV3 (pc := 48) (c_X10_canStep (l := 1) hn hn4 (by decide) hp) cf10 (by first | rfl | assumption) dX10_tryThing_48 cw_RX10_133 (by decide) (Nat.le_of_ble_eq_true rfl) ?_
  refine g_istore4 (pc := 51) dX10_tryThing_51 (by decide) (by first | rfl | assumption) ?_
  rw [b01_f hc]
  refine g_iload4 (pc := 53) dX10_tryThing_53 ?_
  refine g_if_eq (pc := 55) 66 dX10_tryThing_55 (by decide) (fun zh55 => ?_) (fun zh55 => ?_)
  · skip
    refine g_iload4 (pc := 66) dX10_tryThing_66 ?_
    refine g_zret (pc := 68) dX10_tryThing_68 rfl (by first | exact Or.inl rfl | exact Or.inr rfl | assumption) ?_
    exact ⟨rfl, rfl, rfl⟩
  · skip
    first | exact absurd zh55 (by decide) | exact absurd (by decide) zh55
theorem c_X10_tryThing_1s {n w p : Nat} {y : Int32} {v : Mm} {L : Lm} (hM : MSt v n w) (hp : p < n) (hc : (0 ≤ y ∧ y ≤ 7) ∧ ¬ ndF (v 82 (43 * 1 + p)) y = -9) : Fn yX10_tryThing cX10_tryThing 8 (some .boolean) 5 [.ref 79, .int 1, .int (nI p), .int y] v L (some (.int 1)) (msV v 1 p y) L := by
  obtain ⟨hn4, hn, hw, hw8, hdo⟩ := hM
  obtain ⟨zd, hzd, ezd⟩ := hdo p hp
  obtain ⟨zq, hq25, hnd⟩ : ∃ zq, zq < 25 ∧ ndF (v 82 (43 * 1 + p)) y = nI zq := by
    have z1 := hc.2
    rw [ezd] at z1 ⊢
    exact nd_ok hzd ⟨hc.1.1, le7.mp hc.1.2⟩ z1
  refine Fq.of (plainFor_of_name (by decide)) [some (.ref 79), some (.int 1), some (.int (nI p)), some (.int y), none, none, none, none] rfl (Nat.le_of_ble_eq_true rfl) ?_
  refine g_iload1 (pc := 0) dX10_tryThing_0 ?_
  refine g_tableIn (pc := 1) (off := 43) 44 dX10_tryThing_1 (by decide) (by decide) (by rfl) (by decide) ?_
  first | refine g_aload0 (pc := 44) dX10_tryThing_44 ?_ | refine g_aloadN0 (pc := 44) dX10_tryThing_44 ?_
  refine g_iconst (pc := 45) (1) dX10_tryThing_45 (by decide) ?_
  refine g_iload2 (pc := 46) dX10_tryThing_46 ?_
  refine g_iload3 (pc := 47) dX10_tryThing_47 ?_
  refine g_fV3 (pc := 48) (c_X10_canStep (l := 1) hn hn4 (by decide) hp) cf10 (by first | rfl | assumption) dX10_tryThing_48 cw_RX10_133 (by decide) (Nat.le_of_ble_eq_true rfl) ?_
  refine g_istore4 (pc := 51) dX10_tryThing_51 (by decide) (by first | rfl | assumption) ?_
  rw [b01_t hc]
  refine g_iload4 (pc := 53) dX10_tryThing_53 ?_
  refine g_if_eq (pc := 55) 66 dX10_tryThing_55 (by decide) (fun zh55 => ?_) (fun zh55 => ?_)
  · skip
    first | exact absurd zh55 (by decide) | exact absurd (by decide) zh55
  · skip
    first | refine g_aload0 (pc := 58) dX10_tryThing_58 ?_ | refine g_aloadN0 (pc := 58) dX10_tryThing_58 ?_
    refine g_iconst (pc := 59) (1) dX10_tryThing_59 (by decide) ?_
    refine g_iload2 (pc := 60) dX10_tryThing_60 ?_
    refine g_iload3 (pc := 61) dX10_tryThing_61 ?_
    refine g_fV3 (pc := 62) (c_X10_stepOn (l := 1) (by decide) (by omega) hq25 hnd) cf10 (by first | rfl | assumption) dX10_tryThing_62 cw_RX10_137 (by decide) (Nat.le_of_ble_eq_true rfl) ?_
    refine g_pop (pc := 65) dX10_tryThing_65 rfl ?_
    refine g_iload4 (pc := 66) dX10_tryThing_66 ?_
    refine g_zret (pc := 68) dX10_tryThing_68 rfl (by first | exact Or.inl rfl | exact Or.inr rfl | assumption) ?_
    exact ⟨rfl, rfl, rfl⟩
theorem c_X10_tryThing_2s {n w p : Nat} {v : Mm} {L : Lm} (hM : MSt v n w) (hp : p < n) : Fn yX10_tryThing cX10_tryThing 8 (some .boolean) 5 [.ref 79, .int 2, .int 0, .int (nI p)] v L (some (.int 1)) (xoV v (bit1 p)) L := by
  obtain ⟨hn4, hn, hw, hw8, hdo⟩ := hM
  refine Fq.of (plainFor_of_name (by decide)) [some (.ref 79), some (.int 2), some (.int 0), some (.int (nI p)), none, none, none, none] rfl (Nat.le_of_ble_eq_true rfl) ?_
  refine g_iload1 (pc := 0) dX10_tryThing_0 ?_
  refine g_tableIn (pc := 1) (off := 68) 69 dX10_tryThing_1 (by decide) (by decide) (by rfl) (by decide) ?_
  refine g_iload2 (pc := 69) dX10_tryThing_69 ?_
  refine g_if_ne (pc := 70) 85 dX10_tryThing_70 (by decide) (fun zh70 => ?_) (fun zh70 => ?_)
  · skip
    first | exact absurd zh70 (by decide) | exact absurd (by decide) zh70
  · skip
    first | refine g_aload0 (pc := 73) dX10_tryThing_73 ?_ | refine g_aloadN0 (pc := 73) dX10_tryThing_73 ?_
    refine g_iload3 (pc := 74) dX10_tryThing_74 ?_
    refine g_fV1 (pc := 75) (c_X10_isPen hn hn4) cf10 (by first | rfl | assumption) dX10_tryThing_75 cw_RX10_115 (by decide) (Nat.le_of_ble_eq_true rfl) ?_
    refine g_if_eq (pc := 78) 85 dX10_tryThing_78 (by decide) (fun zh78 => ?_) (fun zh78 => ?_)
    · skip
      exact absurd ⟨nI_pos' (by omega), nI_lt hp (by omega)⟩ (b01_eq0.mp zh78)
    · skip
      refine g_iconst (pc := 81) (1) dX10_tryThing_81 (by decide) ?_
      refine g_goto (pc := 82) 86 dX10_tryThing_82 (by decide) ?_
      refine g_istore5 (pc := 86) dX10_tryThing_86 (by decide) (by first | rfl | assumption) ?_
      first | refine g_aload0 (pc := 88) dX10_tryThing_88 ?_ | refine g_aloadN0 (pc := 88) dX10_tryThing_88 ?_
      refine g_getR (pc := 89) (j := 3) cf10 dX10_tryThing_89 fl_RX10_16 (by decide) (by decide) (by first | rfl | assumption) (82) (rfl) ?_
      refine g_bipush (pc := 92) (59) dX10_tryThing_92 (by decide) ?_
      refine g_dup2 (pc := 94) dX10_tryThing_94 rfl rfl ?_
      refine g_ialdX (pc := 95) (59) dX10_tryThing_95 (rfl) (rfl) (by have := ln_all; omega) (by decide) ?_
      refine g_iload5 (pc := 96) dX10_tryThing_96 ?_
      refine g_if_eq (pc := 98) 107 dX10_tryThing_98 (by decide) (fun zh98 => ?_) (fun zh98 => ?_)
      · skip
        first | exact absurd zh98 (by decide) | exact absurd (by decide) zh98
      · skip
        refine g_iconst (pc := 101) (1) dX10_tryThing_101 (by decide) ?_
        refine g_iload3 (pc := 102) dX10_tryThing_102 ?_
        refine g_ishl (pc := 103) dX10_tryThing_103 ?_
        refine g_goto (pc := 104) 108 dX10_tryThing_104 (by decide) ?_
        refine g_ixor (pc := 108) dX10_tryThing_108 ?_
        refine g_iastX (pc := 109) (59) dX10_tryThing_109 (rfl) (rfl) (by have := ln_all; omega) (by decide) ?_
        refine g_iload5 (pc := 110) dX10_tryThing_110 ?_
        refine g_zret (pc := 112) dX10_tryThing_112 rfl (by first | exact Or.inl rfl | exact Or.inr rfl | assumption) ?_
        exact ⟨rfl, rfl, rfl⟩
theorem c_X10_tryThing_2m {n w : Nat} {x y : Int32} {v : Mm} {L : Lm} (hM : MSt v n w) (hx : ¬ x = 0) : Fn yX10_tryThing cX10_tryThing 8 (some .boolean) 5 [.ref 79, .int 2, .int x, .int y] v L (some (.int 0)) (xoV v 0) L := by
  obtain ⟨hn4, hn, hw, hw8, hdo⟩ := hM
  refine Fq.of (plainFor_of_name (by decide)) [some (.ref 79), some (.int 2), some (.int x), some (.int y), none, none, none, none] rfl (Nat.le_of_ble_eq_true rfl) ?_
  refine g_iload1 (pc := 0) dX10_tryThing_0 ?_
  refine g_tableIn (pc := 1) (off := 68) 69 dX10_tryThing_1 (by decide) (by decide) (by rfl) (by decide) ?_
  refine g_iload2 (pc := 69) dX10_tryThing_69 ?_
  refine g_if_ne (pc := 70) 85 dX10_tryThing_70 (by decide) (fun zh70 => ?_) (fun zh70 => ?_)
  · skip
    refine g_iconst (pc := 85) (0) dX10_tryThing_85 (by decide) ?_
    refine g_istore5 (pc := 86) dX10_tryThing_86 (by decide) (by first | rfl | assumption) ?_
    first | refine g_aload0 (pc := 88) dX10_tryThing_88 ?_ | refine g_aloadN0 (pc := 88) dX10_tryThing_88 ?_
    refine g_getR (pc := 89) (j := 3) cf10 dX10_tryThing_89 fl_RX10_16 (by decide) (by decide) (by first | rfl | assumption) (82) (rfl) ?_
    refine g_bipush (pc := 92) (59) dX10_tryThing_92 (by decide) ?_
    refine g_dup2 (pc := 94) dX10_tryThing_94 rfl rfl ?_
    refine g_ialdX (pc := 95) (59) dX10_tryThing_95 (rfl) (rfl) (by have := ln_all; omega) (by decide) ?_
    refine g_iload5 (pc := 96) dX10_tryThing_96 ?_
    refine g_if_eq (pc := 98) 107 dX10_tryThing_98 (by decide) (fun zh98 => ?_) (fun zh98 => ?_)
    · skip
      refine g_iconst (pc := 107) (0) dX10_tryThing_107 (by decide) ?_
      refine g_ixor (pc := 108) dX10_tryThing_108 ?_
      refine g_iastX (pc := 109) (59) dX10_tryThing_109 (rfl) (rfl) (by have := ln_all; omega) (by decide) ?_
      refine g_iload5 (pc := 110) dX10_tryThing_110 ?_
      refine g_zret (pc := 112) dX10_tryThing_112 rfl (by first | exact Or.inl rfl | exact Or.inr rfl | assumption) ?_
      exact ⟨rfl, rfl, rfl⟩
    · skip
      first | exact absurd zh98 (by decide) | exact absurd (by decide) zh98
  · skip
    exact absurd zh70 hx
theorem c_X10_tryThing_2u {n w : Nat} {y : Int32} {v : Mm} {L : Lm} (hM : MSt v n w) (hx : ¬ (0 ≤ y ∧ y < nI n)) : Fn yX10_tryThing cX10_tryThing 8 (some .boolean) 5 [.ref 79, .int 2, .int 0, .int y] v L (some (.int 0)) (xoV v 0) L := by
  obtain ⟨hn4, hn, hw, hw8, hdo⟩ := hM
  refine Fq.of (plainFor_of_name (by decide)) [some (.ref 79), some (.int 2), some (.int 0), some (.int y), none, none, none, none] rfl (Nat.le_of_ble_eq_true rfl) ?_
  refine g_iload1 (pc := 0) dX10_tryThing_0 ?_
  refine g_tableIn (pc := 1) (off := 68) 69 dX10_tryThing_1 (by decide) (by decide) (by rfl) (by decide) ?_
  refine g_iload2 (pc := 69) dX10_tryThing_69 ?_
  refine g_if_ne (pc := 70) 85 dX10_tryThing_70 (by decide) (fun zh70 => ?_) (fun zh70 => ?_)
  · skip
    first | exact absurd zh70 (by decide) | exact absurd (by decide) zh70
  · skip
    first | refine g_aload0 (pc := 73) dX10_tryThing_73 ?_ | refine g_aloadN0 (pc := 73) dX10_tryThing_73 ?_
    refine g_iload3 (pc := 74) dX10_tryThing_74 ?_
    refine g_fV1 (pc := 75) (c_X10_isPen hn hn4) cf10 (by first | rfl | assumption) dX10_tryThing_75 cw_RX10_115 (by decide) (Nat.le_of_ble_eq_true rfl) ?_
    refine g_if_eq (pc := 78) 85 dX10_tryThing_78 (by decide) (fun zh78 => ?_) (fun zh78 => ?_)
    · skip
      refine g_iconst (pc := 85) (0) dX10_tryThing_85 (by decide) ?_
      refine g_istore5 (pc := 86) dX10_tryThing_86 (by decide) (by first | rfl | assumption) ?_
      first | refine g_aload0 (pc := 88) dX10_tryThing_88 ?_ | refine g_aloadN0 (pc := 88) dX10_tryThing_88 ?_
      refine g_getR (pc := 89) (j := 3) cf10 dX10_tryThing_89 fl_RX10_16 (by decide) (by decide) (by first | rfl | assumption) (82) (rfl) ?_
      refine g_bipush (pc := 92) (59) dX10_tryThing_92 (by decide) ?_
      refine g_dup2 (pc := 94) dX10_tryThing_94 rfl rfl ?_
      refine g_ialdX (pc := 95) (59) dX10_tryThing_95 (rfl) (rfl) (by have := ln_all; omega) (by decide) ?_
      refine g_iload5 (pc := 96) dX10_tryThing_96 ?_
      refine g_if_eq (pc := 98) 107 dX10_tryThing_98 (by decide) (fun zh98 => ?_) (fun zh98 => ?_)
      · skip
        refine g_iconst (pc := 107) (0) dX10_tryThing_107 (by decide) ?_
        refine g_ixor (pc := 108) dX10_tryThing_108 ?_
        refine g_iastX (pc := 109) (59) dX10_tryThing_109 (rfl) (rfl) (by have := ln_all; omega) (by decide) ?_
        refine g_iload5 (pc := 110) dX10_tryThing_110 ?_
        refine g_zret (pc := 112) dX10_tryThing_112 rfl (by first | exact Or.inl rfl | exact Or.inr rfl | assumption) ?_
        exact ⟨rfl, rfl, rfl⟩
      · skip
        first | exact absurd zh98 (by decide) | exact absurd (by decide) zh98
    · skip
      exact absurd (b01_ne0.mp zh78) hx
theorem c_X10_tryThing_3s {n w p : Nat} {v : Mm} {L : Lm} (hM : MSt v n w) (hp : p < n) (hf : v 82 (55 + p) < v 81 p) : Fn yX10_tryThing cX10_tryThing 8 (some .boolean) 5 [.ref 79, .int 3, .int 0, .int (nI p)] v L (some (.int 1)) (upd2 v 82 (55 + p) (v 81 p)) L := by
  obtain ⟨hn4, hn, hw, hw8, hdo⟩ := hM
  refine Fq.of (plainFor_of_name (by decide)) [some (.ref 79), some (.int 3), some (.int 0), some (.int (nI p)), none, none, none, none] rfl (Nat.le_of_ble_eq_true rfl) ?_
  refine g_iload1 (pc := 0) dX10_tryThing_0 ?_
  refine g_tableIn (pc := 1) (off := 112) 113 dX10_tryThing_1 (by decide) (by decide) (by rfl) (by decide) ?_
  refine g_iload2 (pc := 113) dX10_tryThing_113 ?_
  refine g_if_ne (pc := 114) 147 dX10_tryThing_114 (by decide) (fun zh114 => ?_) (fun zh114 => ?_)
  · skip
    first | exact absurd zh114 (by decide) | exact absurd (by decide) zh114
  · skip
    first | refine g_aload0 (pc := 117) dX10_tryThing_117 ?_ | refine g_aloadN0 (pc := 117) dX10_tryThing_117 ?_
    refine g_iload3 (pc := 118) dX10_tryThing_118 ?_
    refine g_fV1 (pc := 119) (c_X10_isPen hn hn4) cf10 (by first | rfl | assumption) dX10_tryThing_119 cw_RX10_115 (by decide) (Nat.le_of_ble_eq_true rfl) ?_
    refine g_if_eq (pc := 122) 147 dX10_tryThing_122 (by decide) (fun zh122 => ?_) (fun zh122 => ?_)
    · skip
      exact absurd ⟨nI_pos' (by omega), nI_lt hp (by omega)⟩ (b01_eq0.mp zh122)
    · skip
      first | refine g_aload0 (pc := 125) dX10_tryThing_125 ?_ | refine g_aloadN0 (pc := 125) dX10_tryThing_125 ?_
      refine g_getR (pc := 126) (j := 3) cf10 dX10_tryThing_126 fl_RX10_16 (by decide) (by decide) (by first | rfl | assumption) (82) (rfl) ?_
      refine g_bipush (pc := 129) (55) dX10_tryThing_129 (by decide) ?_
      refine g_iload3 (pc := 131) dX10_tryThing_131 ?_
      refine g_iadd (pc := 132) dX10_tryThing_132 ?_
      refine g_ialdX (pc := 133) (55 + p) dX10_tryThing_133 (rfl) (nI_add 55 p) (by have := ln_all; omega) (by decide) ?_
      first | refine g_aload0 (pc := 134) dX10_tryThing_134 ?_ | refine g_aloadN0 (pc := 134) dX10_tryThing_134 ?_
      refine g_getR (pc := 135) (j := 2) cf10 dX10_tryThing_135 fl_RX10_13 (by decide) (by decide) (by first | rfl | assumption) (81) (rfl) ?_
      refine g_iload3 (pc := 138) dX10_tryThing_138 ?_
      refine g_ialdX (pc := 139) (p) dX10_tryThing_139 (rfl) (rfl) (by have := ln_all; omega) (by decide) ?_
      refine g_icmp_ge (pc := 140) 147 dX10_tryThing_140 (by decide) (fun zh140 => ?_) (fun zh140 => ?_)
      · skip
        exact absurd zh140 (i32nle.mpr hf)
      · skip
        refine g_iconst (pc := 143) (1) dX10_tryThing_143 (by decide) ?_
        refine g_goto (pc := 144) 148 dX10_tryThing_144 (by decide) ?_
        refine g_istore6 (pc := 148) dX10_tryThing_148 (by decide) (by first | rfl | assumption) ?_
        refine g_iload6 (pc := 150) dX10_tryThing_150 ?_
        refine g_if_eq (pc := 152) 170 dX10_tryThing_152 (by decide) (fun zh152 => ?_) (fun zh152 => ?_)
        · skip
          first | exact absurd zh152 (by decide) | exact absurd (by decide) zh152
        · skip
          first | refine g_aload0 (pc := 155) dX10_tryThing_155 ?_ | refine g_aloadN0 (pc := 155) dX10_tryThing_155 ?_
          refine g_getR (pc := 156) (j := 3) cf10 dX10_tryThing_156 fl_RX10_16 (by decide) (by decide) (by first | rfl | assumption) (82) (rfl) ?_
          refine g_bipush (pc := 159) (55) dX10_tryThing_159 (by decide) ?_
          refine g_iload3 (pc := 161) dX10_tryThing_161 ?_
          refine g_iadd (pc := 162) dX10_tryThing_162 ?_
          first | refine g_aload0 (pc := 163) dX10_tryThing_163 ?_ | refine g_aloadN0 (pc := 163) dX10_tryThing_163 ?_
          refine g_getR (pc := 164) (j := 2) cf10 dX10_tryThing_164 fl_RX10_13 (by decide) (by decide) (by first | rfl | assumption) (81) (rfl) ?_
          refine g_iload3 (pc := 167) dX10_tryThing_167 ?_
          refine g_ialdX (pc := 168) (p) dX10_tryThing_168 (rfl) (rfl) (by have := ln_all; omega) (by decide) ?_
          refine g_iastX (pc := 169) (55 + p) dX10_tryThing_169 (rfl) (nI_add 55 p) (by have := ln_all; omega) (by decide) ?_
          refine g_iload6 (pc := 170) dX10_tryThing_170 ?_
          refine g_zret (pc := 172) dX10_tryThing_172 rfl (by first | exact Or.inl rfl | exact Or.inr rfl | assumption) ?_
          exact ⟨rfl, rfl, rfl⟩
theorem c_X10_tryThing_3f {n w p : Nat} {v : Mm} {L : Lm} (hM : MSt v n w) (hp : p < n) (hf : ¬ v 82 (55 + p) < v 81 p) : Fn yX10_tryThing cX10_tryThing 8 (some .boolean) 5 [.ref 79, .int 3, .int 0, .int (nI p)] v L (some (.int 0)) v L := by
  obtain ⟨hn4, hn, hw, hw8, hdo⟩ := hM
  refine Fq.of (plainFor_of_name (by decide)) [some (.ref 79), some (.int 3), some (.int 0), some (.int (nI p)), none, none, none, none] rfl (Nat.le_of_ble_eq_true rfl) ?_
  refine g_iload1 (pc := 0) dX10_tryThing_0 ?_
  refine g_tableIn (pc := 1) (off := 112) 113 dX10_tryThing_1 (by decide) (by decide) (by rfl) (by decide) ?_
  refine g_iload2 (pc := 113) dX10_tryThing_113 ?_
  refine g_if_ne (pc := 114) 147 dX10_tryThing_114 (by decide) (fun zh114 => ?_) (fun zh114 => ?_)
  · skip
    first | exact absurd zh114 (by decide) | exact absurd (by decide) zh114
  · skip
    first | refine g_aload0 (pc := 117) dX10_tryThing_117 ?_ | refine g_aloadN0 (pc := 117) dX10_tryThing_117 ?_
    refine g_iload3 (pc := 118) dX10_tryThing_118 ?_
    refine g_fV1 (pc := 119) (c_X10_isPen hn hn4) cf10 (by first | rfl | assumption) dX10_tryThing_119 cw_RX10_115 (by decide) (Nat.le_of_ble_eq_true rfl) ?_
    refine g_if_eq (pc := 122) 147 dX10_tryThing_122 (by decide) (fun zh122 => ?_) (fun zh122 => ?_)
    · skip
      exact absurd ⟨nI_pos' (by omega), nI_lt hp (by omega)⟩ (b01_eq0.mp zh122)
    · skip
      first | refine g_aload0 (pc := 125) dX10_tryThing_125 ?_ | refine g_aloadN0 (pc := 125) dX10_tryThing_125 ?_
      refine g_getR (pc := 126) (j := 3) cf10 dX10_tryThing_126 fl_RX10_16 (by decide) (by decide) (by first | rfl | assumption) (82) (rfl) ?_
      refine g_bipush (pc := 129) (55) dX10_tryThing_129 (by decide) ?_
      refine g_iload3 (pc := 131) dX10_tryThing_131 ?_
      refine g_iadd (pc := 132) dX10_tryThing_132 ?_
      refine g_ialdX (pc := 133) (55 + p) dX10_tryThing_133 (rfl) (nI_add 55 p) (by have := ln_all; omega) (by decide) ?_
      first | refine g_aload0 (pc := 134) dX10_tryThing_134 ?_ | refine g_aloadN0 (pc := 134) dX10_tryThing_134 ?_
      refine g_getR (pc := 135) (j := 2) cf10 dX10_tryThing_135 fl_RX10_13 (by decide) (by decide) (by first | rfl | assumption) (81) (rfl) ?_
      refine g_iload3 (pc := 138) dX10_tryThing_138 ?_
      refine g_ialdX (pc := 139) (p) dX10_tryThing_139 (rfl) (rfl) (by have := ln_all; omega) (by decide) ?_
      refine g_icmp_ge (pc := 140) 147 dX10_tryThing_140 (by decide) (fun zh140 => ?_) (fun zh140 => ?_)
      · skip
        refine g_iconst (pc := 147) (0) dX10_tryThing_147 (by decide) ?_
        refine g_istore6 (pc := 148) dX10_tryThing_148 (by decide) (by first | rfl | assumption) ?_
        refine g_iload6 (pc := 150) dX10_tryThing_150 ?_
        refine g_if_eq (pc := 152) 170 dX10_tryThing_152 (by decide) (fun zh152 => ?_) (fun zh152 => ?_)
        · skip
          refine g_iload6 (pc := 170) dX10_tryThing_170 ?_
          refine g_zret (pc := 172) dX10_tryThing_172 rfl (by first | exact Or.inl rfl | exact Or.inr rfl | assumption) ?_
          exact ⟨rfl, rfl, rfl⟩
        · skip
          first | exact absurd zh152 (by decide) | exact absurd (by decide) zh152
      · skip
        exact absurd (i32nle.mp zh140) hf
theorem c_X10_tryThing_3m {n w : Nat} {x y : Int32} {v : Mm} {L : Lm} (hM : MSt v n w) (hx : ¬ x = 0) : Fn yX10_tryThing cX10_tryThing 8 (some .boolean) 5 [.ref 79, .int 3, .int x, .int y] v L (some (.int 0)) v L := by
  obtain ⟨hn4, hn, hw, hw8, hdo⟩ := hM
  refine Fq.of (plainFor_of_name (by decide)) [some (.ref 79), some (.int 3), some (.int x), some (.int y), none, none, none, none] rfl (Nat.le_of_ble_eq_true rfl) ?_
  refine g_iload1 (pc := 0) dX10_tryThing_0 ?_
  refine g_tableIn (pc := 1) (off := 112) 113 dX10_tryThing_1 (by decide) (by decide) (by rfl) (by decide) ?_
  refine g_iload2 (pc := 113) dX10_tryThing_113 ?_
  refine g_if_ne (pc := 114) 147 dX10_tryThing_114 (by decide) (fun zh114 => ?_) (fun zh114 => ?_)
  · skip
    refine g_iconst (pc := 147) (0) dX10_tryThing_147 (by decide) ?_
    refine g_istore6 (pc := 148) dX10_tryThing_148 (by decide) (by first | rfl | assumption) ?_
    refine g_iload6 (pc := 150) dX10_tryThing_150 ?_
    refine g_if_eq (pc := 152) 170 dX10_tryThing_152 (by decide) (fun zh152 => ?_) (fun zh152 => ?_)
    · skip
      refine g_iload6 (pc := 170) dX10_tryThing_170 ?_
      refine g_zret (pc := 172) dX10_tryThing_172 rfl (by first | exact Or.inl rfl | exact Or.inr rfl | assumption) ?_
      exact ⟨rfl, rfl, rfl⟩
    · skip
      first | exact absurd zh152 (by decide) | exact absurd (by decide) zh152
  · skip
    exact absurd zh114 hx
theorem c_X10_tryThing_3u {n w : Nat} {y : Int32} {v : Mm} {L : Lm} (hM : MSt v n w) (hx : ¬ (0 ≤ y ∧ y < nI n)) : Fn yX10_tryThing cX10_tryThing 8 (some .boolean) 5 [.ref 79, .int 3, .int 0, .int y] v L (some (.int 0)) v L := by
  obtain ⟨hn4, hn, hw, hw8, hdo⟩ := hM
  refine Fq.of (plainFor_of_name (by decide)) [some (.ref 79), some (.int 3), some (.int 0), some (.int y), none, none, none, none] rfl (Nat.le_of_ble_eq_true rfl) ?_
  refine g_iload1 (pc := 0) dX10_tryThing_0 ?_
  refine g_tableIn (pc := 1) (off := 112) 113 dX10_tryThing_1 (by decide) (by decide) (by rfl) (by decide) ?_
  refine g_iload2 (pc := 113) dX10_tryThing_113 ?_
  refine g_if_ne (pc := 114) 147 dX10_tryThing_114 (by decide) (fun zh114 => ?_) (fun zh114 => ?_)
  · skip
    first | exact absurd zh114 (by decide) | exact absurd (by decide) zh114
  · skip
    first | refine g_aload0 (pc := 117) dX10_tryThing_117 ?_ | refine g_aloadN0 (pc := 117) dX10_tryThing_117 ?_
    refine g_iload3 (pc := 118) dX10_tryThing_118 ?_
    refine g_fV1 (pc := 119) (c_X10_isPen hn hn4) cf10 (by first | rfl | assumption) dX10_tryThing_119 cw_RX10_115 (by decide) (Nat.le_of_ble_eq_true rfl) ?_
    refine g_if_eq (pc := 122) 147 dX10_tryThing_122 (by decide) (fun zh122 => ?_) (fun zh122 => ?_)
    · skip
      refine g_iconst (pc := 147) (0) dX10_tryThing_147 (by decide) ?_
      refine g_istore6 (pc := 148) dX10_tryThing_148 (by decide) (by first | rfl | assumption) ?_
      refine g_iload6 (pc := 150) dX10_tryThing_150 ?_
      refine g_if_eq (pc := 152) 170 dX10_tryThing_152 (by decide) (fun zh152 => ?_) (fun zh152 => ?_)
      · skip
        refine g_iload6 (pc := 170) dX10_tryThing_170 ?_
        refine g_zret (pc := 172) dX10_tryThing_172 rfl (by first | exact Or.inl rfl | exact Or.inr rfl | assumption) ?_
        exact ⟨rfl, rfl, rfl⟩
      · skip
        first | exact absurd zh152 (by decide) | exact absurd (by decide) zh152
    · skip
      exact absurd (b01_ne0.mp zh122) hx
theorem c_X10_tryThing_4s {n w p : Nat} {v : Mm} {L : Lm} (hM : MSt v n w) (hp : p < n) : Fn yX10_tryThing cX10_tryThing 8 (some .boolean) 5 [.ref 79, .int 4, .int 0, .int (nI p)] v L (some (.int 1)) (tuV v 1 p) L := by
  obtain ⟨hn4, hn, hw, hw8, hdo⟩ := hM
  refine Fq.of (plainFor_of_name (by decide)) [some (.ref 79), some (.int 4), some (.int 0), some (.int (nI p)), none, none, none, none] rfl (Nat.le_of_ble_eq_true rfl) ?_
  refine g_iload1 (pc := 0) dX10_tryThing_0 ?_
  refine g_tableIn (pc := 1) (off := 172) 173 dX10_tryThing_1 (by decide) (by decide) (by rfl) (by decide) ?_
  refine g_iload2 (pc := 173) dX10_tryThing_173 ?_
  refine g_if_ne (pc := 174) 189 dX10_tryThing_174 (by decide) (fun zh174 => ?_) (fun zh174 => ?_)
  · skip
    first | exact absurd zh174 (by decide) | exact absurd (by decide) zh174
  · skip
    first | refine g_aload0 (pc := 177) dX10_tryThing_177 ?_ | refine g_aloadN0 (pc := 177) dX10_tryThing_177 ?_
    refine g_iload3 (pc := 178) dX10_tryThing_178 ?_
    refine g_fV1 (pc := 179) (c_X10_isPen hn hn4) cf10 (by first | rfl | assumption) dX10_tryThing_179 cw_RX10_115 (by decide) (Nat.le_of_ble_eq_true rfl) ?_
    refine g_if_eq (pc := 182) 189 dX10_tryThing_182 (by decide) (fun zh182 => ?_) (fun zh182 => ?_)
    · skip
      exact absurd ⟨nI_pos' (by omega), nI_lt hp (by omega)⟩ (b01_eq0.mp zh182)
    · skip
      refine g_iconst (pc := 185) (1) dX10_tryThing_185 (by decide) ?_
      refine g_goto (pc := 186) 190 dX10_tryThing_186 (by decide) ?_
      refine g_istore7 (pc := 190) dX10_tryThing_190 (by decide) (by first | rfl | assumption) ?_
      refine g_iload7 (pc := 192) dX10_tryThing_192 ?_
      refine g_if_eq (pc := 194) 203 dX10_tryThing_194 (by decide) (fun zh194 => ?_) (fun zh194 => ?_)
      · skip
        first | exact absurd zh194 (by decide) | exact absurd (by decide) zh194
      · skip
        first | refine g_aload0 (pc := 197) dX10_tryThing_197 ?_ | refine g_aloadN0 (pc := 197) dX10_tryThing_197 ?_
        refine g_iconst (pc := 198) (1) dX10_tryThing_198 (by decide) ?_
        refine g_iload3 (pc := 199) dX10_tryThing_199 ?_
        refine g_vV2 (pc := 200) (c_X10_turnOn (l := 1) (by decide) (by omega)) cf10 (by first | rfl | assumption) dX10_tryThing_200 cw_RX10_161 (by decide) (Nat.le_of_ble_eq_true rfl) ?_
        refine g_iload7 (pc := 203) dX10_tryThing_203 ?_
        refine g_zret (pc := 205) dX10_tryThing_205 rfl (by first | exact Or.inl rfl | exact Or.inr rfl | assumption) ?_
        exact ⟨rfl, rfl, rfl⟩
theorem c_X10_tryThing_4m {n w : Nat} {x y : Int32} {v : Mm} {L : Lm} (hM : MSt v n w) (hx : ¬ x = 0) : Fn yX10_tryThing cX10_tryThing 8 (some .boolean) 5 [.ref 79, .int 4, .int x, .int y] v L (some (.int 0)) v L := by
  obtain ⟨hn4, hn, hw, hw8, hdo⟩ := hM
  refine Fq.of (plainFor_of_name (by decide)) [some (.ref 79), some (.int 4), some (.int x), some (.int y), none, none, none, none] rfl (Nat.le_of_ble_eq_true rfl) ?_
  refine g_iload1 (pc := 0) dX10_tryThing_0 ?_
  refine g_tableIn (pc := 1) (off := 172) 173 dX10_tryThing_1 (by decide) (by decide) (by rfl) (by decide) ?_
  refine g_iload2 (pc := 173) dX10_tryThing_173 ?_
  refine g_if_ne (pc := 174) 189 dX10_tryThing_174 (by decide) (fun zh174 => ?_) (fun zh174 => ?_)
  · skip
    refine g_iconst (pc := 189) (0) dX10_tryThing_189 (by decide) ?_
    refine g_istore7 (pc := 190) dX10_tryThing_190 (by decide) (by first | rfl | assumption) ?_
    refine g_iload7 (pc := 192) dX10_tryThing_192 ?_
    refine g_if_eq (pc := 194) 203 dX10_tryThing_194 (by decide) (fun zh194 => ?_) (fun zh194 => ?_)
    · skip
      refine g_iload7 (pc := 203) dX10_tryThing_203 ?_
      refine g_zret (pc := 205) dX10_tryThing_205 rfl (by first | exact Or.inl rfl | exact Or.inr rfl | assumption) ?_
      exact ⟨rfl, rfl, rfl⟩
    · skip
      first | exact absurd zh194 (by decide) | exact absurd (by decide) zh194
  · skip
    exact absurd zh174 hx
theorem c_X10_tryThing_4u {n w : Nat} {y : Int32} {v : Mm} {L : Lm} (hM : MSt v n w) (hx : ¬ (0 ≤ y ∧ y < nI n)) : Fn yX10_tryThing cX10_tryThing 8 (some .boolean) 5 [.ref 79, .int 4, .int 0, .int y] v L (some (.int 0)) v L := by
  obtain ⟨hn4, hn, hw, hw8, hdo⟩ := hM
  refine Fq.of (plainFor_of_name (by decide)) [some (.ref 79), some (.int 4), some (.int 0), some (.int y), none, none, none, none] rfl (Nat.le_of_ble_eq_true rfl) ?_
  refine g_iload1 (pc := 0) dX10_tryThing_0 ?_
  refine g_tableIn (pc := 1) (off := 172) 173 dX10_tryThing_1 (by decide) (by decide) (by rfl) (by decide) ?_
  refine g_iload2 (pc := 173) dX10_tryThing_173 ?_
  refine g_if_ne (pc := 174) 189 dX10_tryThing_174 (by decide) (fun zh174 => ?_) (fun zh174 => ?_)
  · skip
    first | exact absurd zh174 (by decide) | exact absurd (by decide) zh174
  · skip
    first | refine g_aload0 (pc := 177) dX10_tryThing_177 ?_ | refine g_aloadN0 (pc := 177) dX10_tryThing_177 ?_
    refine g_iload3 (pc := 178) dX10_tryThing_178 ?_
    refine g_fV1 (pc := 179) (c_X10_isPen hn hn4) cf10 (by first | rfl | assumption) dX10_tryThing_179 cw_RX10_115 (by decide) (Nat.le_of_ble_eq_true rfl) ?_
    refine g_if_eq (pc := 182) 189 dX10_tryThing_182 (by decide) (fun zh182 => ?_) (fun zh182 => ?_)
    · skip
      refine g_iconst (pc := 189) (0) dX10_tryThing_189 (by decide) ?_
      refine g_istore7 (pc := 190) dX10_tryThing_190 (by decide) (by first | rfl | assumption) ?_
      refine g_iload7 (pc := 192) dX10_tryThing_192 ?_
      refine g_if_eq (pc := 194) 203 dX10_tryThing_194 (by decide) (fun zh194 => ?_) (fun zh194 => ?_)
      · skip
        refine g_iload7 (pc := 203) dX10_tryThing_203 ?_
        refine g_zret (pc := 205) dX10_tryThing_205 rfl (by first | exact Or.inl rfl | exact Or.inr rfl | assumption) ?_
        exact ⟨rfl, rfl, rfl⟩
      · skip
        first | exact absurd zh194 (by decide) | exact absurd (by decide) zh194
    · skip
      exact absurd (b01_ne0.mp zh182) hx
theorem c_X10_tryThing_5n {n w : Nat} {x y : Int32} {v : Mm} {L : Lm} (hM : MSt v n w) (hx : ¬ ((0 ≤ x ∧ x ≤ 4) ∧ (0 ≤ y ∧ y ≤ 4))) : Fn yX10_tryThing cX10_tryThing 8 (some .boolean) 5 [.ref 79, .int 5, .int x, .int y] v L (some (.int 0)) v L := by
  obtain ⟨hn4, hn, hw, hw8, hdo⟩ := hM
  have zi4 : ∀ zx : Int32, ((0 : Int64) ≤ zx.toInt64 ∧ zx.toInt64 ≤ 4) ↔ (0 ≤ zx ∧ zx ≤ 4) := fun zx => inI (y := zx) (by decide) (by decide)
  refine Fq.of (plainFor_of_name (by decide)) [some (.ref 79), some (.int 5), some (.int x), some (.int y), none, none, none, none] rfl (Nat.le_of_ble_eq_true rfl) ?_
  refine g_iload1 (pc := 0) dX10_tryThing_0 ?_
  refine g_tableIn (pc := 1) (off := 205) 206 dX10_tryThing_1 (by decide) (by decide) (by rfl) (by decide) ?_
  refine g_iload2 (pc := 206) dX10_tryThing_206 ?_
  refine g_i2l (pc := 207) dX10_tryThing_207 ?_
  refine g_lconst (pc := 208) (0) dX10_tryThing_208 (by decide) ?_
  refine g_ldc2 (pc := 209) _ dX10_tryThing_209 kc_RX10_110 ?_
  refine g_fS3 (pc := 212) (c_X10_in) dX10_tryThing_212 cw_RX10_52 (by decide) (Nat.le_of_ble_eq_true rfl) ?_
  refine g_if_eq (pc := 215) 251 dX10_tryThing_215 (by decide) (fun zh215 => ?_) (fun zh215 => ?_)
  · skip
    refine g_iconst (pc := 251) (0) dX10_tryThing_251 (by decide) ?_
    refine g_zret (pc := 252) dX10_tryThing_252 rfl (by first | exact Or.inl rfl | exact Or.inr rfl | assumption) ?_
    exact ⟨rfl, rfl, rfl⟩
  · skip
    refine g_iload3 (pc := 218) dX10_tryThing_218 ?_
    refine g_i2l (pc := 219) dX10_tryThing_219 ?_
    refine g_lconst (pc := 220) (0) dX10_tryThing_220 (by decide) ?_
    refine g_ldc2 (pc := 221) _ dX10_tryThing_221 kc_RX10_110 ?_
    refine g_fS3 (pc := 224) (c_X10_in) dX10_tryThing_224 cw_RX10_52 (by decide) (Nat.le_of_ble_eq_true rfl) ?_
    refine g_if_eq (pc := 227) 251 dX10_tryThing_227 (by decide) (fun zh227 => ?_) (fun zh227 => ?_)
    · skip
      refine g_iconst (pc := 251) (0) dX10_tryThing_251 (by decide) ?_
      refine g_zret (pc := 252) dX10_tryThing_252 rfl (by first | exact Or.inl rfl | exact Or.inr rfl | assumption) ?_
      exact ⟨rfl, rfl, rfl⟩
    · skip
      exact absurd ⟨(zi4 _).mp (b01_ne0.mp zh215), (zi4 _).mp (b01_ne0.mp zh227)⟩ hx
theorem c_X10_tryThing_5s {n w p q : Nat} {v : Mm} {L : Lm} (hM : MSt v n w) (hp : p < 5) (hq : q < 5) : Fn yX10_tryThing cX10_tryThing 8 (some .boolean) 5 [.ref 79, .int 5, .int (nI p), .int (nI q)] v L (some (.int (b01 (2 < v 82 (61 + 5 * q + p))))) v L := by
  obtain ⟨hn4, hn, hw, hw8, hdo⟩ := hM
  have zi4 : ∀ zx : Int32, ((0 : Int64) ≤ zx.toInt64 ∧ zx.toInt64 ≤ 4) ↔ (0 ≤ zx ∧ zx ≤ 4) := fun zx => inI (y := zx) (by decide) (by decide)
  refine Fq.of (plainFor_of_name (by decide)) [some (.ref 79), some (.int 5), some (.int (nI p)), some (.int (nI q)), none, none, none, none] rfl (Nat.le_of_ble_eq_true rfl) ?_
  refine g_iload1 (pc := 0) dX10_tryThing_0 ?_
  refine g_tableIn (pc := 1) (off := 205) 206 dX10_tryThing_1 (by decide) (by decide) (by rfl) (by decide) ?_
  refine g_iload2 (pc := 206) dX10_tryThing_206 ?_
  refine g_i2l (pc := 207) dX10_tryThing_207 ?_
  refine g_lconst (pc := 208) (0) dX10_tryThing_208 (by decide) ?_
  refine g_ldc2 (pc := 209) _ dX10_tryThing_209 kc_RX10_110 ?_
  refine g_fS3 (pc := 212) (c_X10_in) dX10_tryThing_212 cw_RX10_52 (by decide) (Nat.le_of_ble_eq_true rfl) ?_
  refine g_if_eq (pc := 215) 251 dX10_tryThing_215 (by decide) (fun zh215 => ?_) (fun zh215 => ?_)
  · skip
    exact absurd ((zi4 _).mpr ⟨nI_pos' (by omega), nI_le (b := 4) (by omega) (by decide)⟩) (b01_eq0.mp zh215)
  · skip
    refine g_iload3 (pc := 218) dX10_tryThing_218 ?_
    refine g_i2l (pc := 219) dX10_tryThing_219 ?_
    refine g_lconst (pc := 220) (0) dX10_tryThing_220 (by decide) ?_
    refine g_ldc2 (pc := 221) _ dX10_tryThing_221 kc_RX10_110 ?_
    refine g_fS3 (pc := 224) (c_X10_in) dX10_tryThing_224 cw_RX10_52 (by decide) (Nat.le_of_ble_eq_true rfl) ?_
    refine g_if_eq (pc := 227) 251 dX10_tryThing_227 (by decide) (fun zh227 => ?_) (fun zh227 => ?_)
    · skip
      exact absurd ((zi4 _).mpr ⟨nI_pos' (by omega), nI_le (b := 4) (by omega) (by decide)⟩) (b01_eq0.mp zh227)
    · skip
      first | refine g_aload0 (pc := 230) dX10_tryThing_230 ?_ | refine g_aloadN0 (pc := 230) dX10_tryThing_230 ?_
      refine g_getR (pc := 231) (j := 3) cf10 dX10_tryThing_231 fl_RX10_16 (by decide) (by decide) (by first | rfl | assumption) (82) (rfl) ?_
      refine g_bipush (pc := 234) (61) dX10_tryThing_234 (by decide) ?_
      refine g_iconst (pc := 236) (5) dX10_tryThing_236 (by decide) ?_
      refine g_iload3 (pc := 237) dX10_tryThing_237 ?_
      refine g_imul (pc := 238) dX10_tryThing_238 ?_
      refine g_iadd (pc := 239) dX10_tryThing_239 ?_
      refine g_iload2 (pc := 240) dX10_tryThing_240 ?_
      refine g_iadd (pc := 241) dX10_tryThing_241 ?_
      refine g_ialdX (pc := 242) (61 + 5 * q + p) dX10_tryThing_242 (rfl) (ix61) (by have := ln_all; omega) (by decide) ?_
      refine g_iconst (pc := 243) (2) dX10_tryThing_243 (by decide) ?_
      refine g_icmp_le (pc := 244) 251 dX10_tryThing_244 (by decide) (fun zh244 => ?_) (fun zh244 => ?_)
      · skip
        refine g_iconst (pc := 251) (0) dX10_tryThing_251 (by decide) ?_
        refine g_zret (pc := 252) dX10_tryThing_252 rfl (by first | exact Or.inl rfl | exact Or.inr rfl | assumption) ?_
        first | (rw [b01_t (i32nle.mp zh244)]; exact ⟨rfl, rfl, rfl⟩) | (rw [b01_f (i32nlt.mpr zh244)]; exact ⟨rfl, rfl, rfl⟩)
      · skip
        refine g_iconst (pc := 247) (1) dX10_tryThing_247 (by decide) ?_
        refine g_goto (pc := 248) 252 dX10_tryThing_248 (by decide) ?_
        refine g_zret (pc := 252) dX10_tryThing_252 rfl (by first | exact Or.inl rfl | exact Or.inr rfl | assumption) ?_
        first | (rw [b01_t (i32nle.mp zh244)]; exact ⟨rfl, rfl, rfl⟩) | (rw [b01_f (i32nlt.mpr zh244)]; exact ⟨rfl, rfl, rfl⟩)
theorem c_X10_tryThing_6u {n w : Nat} {x y : Int32} {v : Mm} {L : Lm} (hM : MSt v n w) (hx : ¬ (0 ≤ x ∧ x < nI n)) : Fn yX10_tryThing cX10_tryThing 8 (some .boolean) 5 [.ref 79, .int 6, .int x, .int y] v L (some (.int 0)) v L := by
  obtain ⟨hn4, hn, hw, hw8, hdo⟩ := hM
  refine Fq.of (plainFor_of_name (by decide)) [some (.ref 79), some (.int 6), some (.int x), some (.int y), none, none, none, none] rfl (Nat.le_of_ble_eq_true rfl) ?_
  refine g_iload1 (pc := 0) dX10_tryThing_0 ?_
  refine g_tableIn (pc := 1) (off := 252) 253 dX10_tryThing_1 (by decide) (by decide) (by rfl) (by decide) ?_
  first | refine g_aload0 (pc := 253) dX10_tryThing_253 ?_ | refine g_aloadN0 (pc := 253) dX10_tryThing_253 ?_
  refine g_iload2 (pc := 254) dX10_tryThing_254 ?_
  refine g_fV1 (pc := 255) (c_X10_isPen hn hn4) cf10 (by first | rfl | assumption) dX10_tryThing_255 cw_RX10_115 (by decide) (Nat.le_of_ble_eq_true rfl) ?_
  refine g_if_eq (pc := 258) 278 dX10_tryThing_258 (by decide) (fun zh258 => ?_) (fun zh258 => ?_)
  · skip
    refine g_iconst (pc := 278) (0) dX10_tryThing_278 (by decide) ?_
    refine g_zret (pc := 279) dX10_tryThing_279 rfl (by first | exact Or.inl rfl | exact Or.inr rfl | assumption) ?_
    exact ⟨rfl, rfl, rfl⟩
  · skip
    exact absurd (b01_ne0.mp zh258) hx
theorem c_X10_tryThing_6s {n w p : Nat} {y : Int32} {v : Mm} {L : Lm} (hM : MSt v n w) (hp : p < n) : Fn yX10_tryThing cX10_tryThing 8 (some .boolean) 5 [.ref 79, .int 6, .int (nI p), .int y] v L (some (.int (b01 (y ≤ v 82 (55 + p))))) v L := by
  obtain ⟨hn4, hn, hw, hw8, hdo⟩ := hM
  refine Fq.of (plainFor_of_name (by decide)) [some (.ref 79), some (.int 6), some (.int (nI p)), some (.int y), none, none, none, none] rfl (Nat.le_of_ble_eq_true rfl) ?_
  refine g_iload1 (pc := 0) dX10_tryThing_0 ?_
  refine g_tableIn (pc := 1) (off := 252) 253 dX10_tryThing_1 (by decide) (by decide) (by rfl) (by decide) ?_
  first | refine g_aload0 (pc := 253) dX10_tryThing_253 ?_ | refine g_aloadN0 (pc := 253) dX10_tryThing_253 ?_
  refine g_iload2 (pc := 254) dX10_tryThing_254 ?_
  refine g_fV1 (pc := 255) (c_X10_isPen hn hn4) cf10 (by first | rfl | assumption) dX10_tryThing_255 cw_RX10_115 (by decide) (Nat.le_of_ble_eq_true rfl) ?_
  refine g_if_eq (pc := 258) 278 dX10_tryThing_258 (by decide) (fun zh258 => ?_) (fun zh258 => ?_)
  · skip
    exact absurd ⟨nI_pos' (by omega), nI_lt hp (by omega)⟩ (b01_eq0.mp zh258)
  · skip
    first | refine g_aload0 (pc := 261) dX10_tryThing_261 ?_ | refine g_aloadN0 (pc := 261) dX10_tryThing_261 ?_
    refine g_getR (pc := 262) (j := 3) cf10 dX10_tryThing_262 fl_RX10_16 (by decide) (by decide) (by first | rfl | assumption) (82) (rfl) ?_
    refine g_bipush (pc := 265) (55) dX10_tryThing_265 (by decide) ?_
    refine g_iload2 (pc := 267) dX10_tryThing_267 ?_
    refine g_iadd (pc := 268) dX10_tryThing_268 ?_
    refine g_ialdX (pc := 269) (55 + p) dX10_tryThing_269 (rfl) (nI_add 55 p) (by have := ln_all; omega) (by decide) ?_
    refine g_iload3 (pc := 270) dX10_tryThing_270 ?_
    refine g_icmp_lt (pc := 271) 278 dX10_tryThing_271 (by decide) (fun zh271 => ?_) (fun zh271 => ?_)
    · skip
      refine g_iconst (pc := 278) (0) dX10_tryThing_278 (by decide) ?_
      refine g_zret (pc := 279) dX10_tryThing_279 rfl (by first | exact Or.inl rfl | exact Or.inr rfl | assumption) ?_
      first | (rw [b01_t (i32nlt.mp zh271)]; exact ⟨rfl, rfl, rfl⟩) | (rw [b01_f (i32nle.mpr zh271)]; exact ⟨rfl, rfl, rfl⟩)
    · skip
      refine g_iconst (pc := 274) (1) dX10_tryThing_274 (by decide) ?_
      refine g_goto (pc := 275) 279 dX10_tryThing_275 (by decide) ?_
      refine g_zret (pc := 279) dX10_tryThing_279 rfl (by first | exact Or.inl rfl | exact Or.inr rfl | assumption) ?_
      first | (rw [b01_t (i32nlt.mp zh271)]; exact ⟨rfl, rfl, rfl⟩) | (rw [b01_f (i32nle.mpr zh271)]; exact ⟨rfl, rfl, rfl⟩)
theorem c_X10_tryThing_7m {n w : Nat} {x y : Int32} {v : Mm} {L : Lm} (hM : MSt v n w) (hx : ¬ y = 0) : Fn yX10_tryThing cX10_tryThing 8 (some .boolean) 5 [.ref 79, .int 7, .int x, .int y] v L (some (.int 0)) v L := by
  obtain ⟨hn4, hn, hw, hw8, hdo⟩ := hM
  refine Fq.of (plainFor_of_name (by decide)) [some (.ref 79), some (.int 7), some (.int x), some (.int y), none, none, none, none] rfl (Nat.le_of_ble_eq_true rfl) ?_
  refine g_iload1 (pc := 0) dX10_tryThing_0 ?_
  refine g_tableIn (pc := 1) (off := 279) 280 dX10_tryThing_1 (by decide) (by decide) (by rfl) (by decide) ?_
  refine g_iload3 (pc := 280) dX10_tryThing_280 ?_
  refine g_if_ne (pc := 281) 304 dX10_tryThing_281 (by decide) (fun zh281 => ?_) (fun zh281 => ?_)
  · skip
    refine g_iconst (pc := 304) (0) dX10_tryThing_304 (by decide) ?_
    refine g_zret (pc := 305) dX10_tryThing_305 rfl (by first | exact Or.inl rfl | exact Or.inr rfl | assumption) ?_
    exact ⟨rfl, rfl, rfl⟩
  · skip
    exact absurd zh281 hx
theorem c_X10_tryThing_7u {n w : Nat} {x : Int32} {v : Mm} {L : Lm} (hM : MSt v n w) (hx : ¬ (0 ≤ x ∧ x < nI n)) : Fn yX10_tryThing cX10_tryThing 8 (some .boolean) 5 [.ref 79, .int 7, .int x, .int 0] v L (some (.int 0)) v L := by
  obtain ⟨hn4, hn, hw, hw8, hdo⟩ := hM
  refine Fq.of (plainFor_of_name (by decide)) [some (.ref 79), some (.int 7), some (.int x), some (.int 0), none, none, none, none] rfl (Nat.le_of_ble_eq_true rfl) ?_
  refine g_iload1 (pc := 0) dX10_tryThing_0 ?_
  refine g_tableIn (pc := 1) (off := 279) 280 dX10_tryThing_1 (by decide) (by decide) (by rfl) (by decide) ?_
  refine g_iload3 (pc := 280) dX10_tryThing_280 ?_
  refine g_if_ne (pc := 281) 304 dX10_tryThing_281 (by decide) (fun zh281 => ?_) (fun zh281 => ?_)
  · skip
    first | exact absurd zh281 (by decide) | exact absurd (by decide) zh281
  · skip
    first | refine g_aload0 (pc := 284) dX10_tryThing_284 ?_ | refine g_aloadN0 (pc := 284) dX10_tryThing_284 ?_
    refine g_iload2 (pc := 285) dX10_tryThing_285 ?_
    refine g_fV1 (pc := 286) (c_X10_isPen hn hn4) cf10 (by first | rfl | assumption) dX10_tryThing_286 cw_RX10_115 (by decide) (Nat.le_of_ble_eq_true rfl) ?_
    refine g_if_eq (pc := 289) 304 dX10_tryThing_289 (by decide) (fun zh289 => ?_) (fun zh289 => ?_)
    · skip
      refine g_iconst (pc := 304) (0) dX10_tryThing_304 (by decide) ?_
      refine g_zret (pc := 305) dX10_tryThing_305 rfl (by first | exact Or.inl rfl | exact Or.inr rfl | assumption) ?_
      exact ⟨rfl, rfl, rfl⟩
    · skip
      exact absurd (b01_ne0.mp zh289) hx
theorem c_X10_tryThing_7s {n w p : Nat} {v : Mm} {L : Lm} (hM : MSt v n w) (hp : p < n) : Fn yX10_tryThing cX10_tryThing 8 (some .boolean) 5 [.ref 79, .int 7, .int (nI p), .int 0] v L (some (.int (b01 ((woA v p w).2 79 14 = (woA v p w).2 79 12)))) (woA v p w).2 L := by
  have hM2 := hM
  obtain ⟨hn4, hn, hw, hw8, hdo⟩ := hM
  refine Fq.of (plainFor_of_name (by decide)) [some (.ref 79), some (.int 7), some (.int (nI p)), some (.int 0), none, none, none, none] rfl (Nat.le_of_ble_eq_true rfl) ?_
  refine g_iload1 (pc := 0) dX10_tryThing_0 ?_
  refine g_tableIn (pc := 1) (off := 279) 280 dX10_tryThing_1 (by decide) (by decide) (by rfl) (by decide) ?_
  refine g_iload3 (pc := 280) dX10_tryThing_280 ?_
  refine g_if_ne (pc := 281) 304 dX10_tryThing_281 (by decide) (fun zh281 => ?_) (fun zh281 => ?_)
  · skip
    first | exact absurd zh281 (by decide) | exact absurd (by decide) zh281
  · skip
    first | refine g_aload0 (pc := 284) dX10_tryThing_284 ?_ | refine g_aloadN0 (pc := 284) dX10_tryThing_284 ?_
    refine g_iload2 (pc := 285) dX10_tryThing_285 ?_
    refine g_fV1 (pc := 286) (c_X10_isPen hn hn4) cf10 (by first | rfl | assumption) dX10_tryThing_286 cw_RX10_115 (by decide) (Nat.le_of_ble_eq_true rfl) ?_
    refine g_if_eq (pc := 289) 304 dX10_tryThing_289 (by decide) (fun zh289 => ?_) (fun zh289 => ?_)
    · skip
      exact absurd ⟨nI_pos' (by omega), nI_lt hp (by omega)⟩ (b01_eq0.mp zh289)
    · skip
      first | refine g_aload0 (pc := 292) dX10_tryThing_292 ?_ | refine g_aloadN0 (pc := 292) dX10_tryThing_292 ?_
      refine g_iload2 (pc := 293) dX10_tryThing_293 ?_
      refine g_fV1 (pc := 294) (c_X10_writesAll hM2 hp) cf10 (by first | rfl | assumption) dX10_tryThing_294 cw_RX10_177 (by decide) (Nat.le_of_ble_eq_true rfl) ?_
      refine g_if_eq (pc := 297) 304 dX10_tryThing_297 (by decide) (fun zh297 => ?_) (fun zh297 => ?_)
      · skip
        refine g_iconst (pc := 304) (0) dX10_tryThing_304 (by decide) ?_
        refine g_zret (pc := 305) dX10_tryThing_305 rfl (by first | exact Or.inl rfl | exact Or.inr rfl | assumption) ?_
        first | (rw [b01_t (b01_ne0.mp zh297)]; exact ⟨rfl, rfl, rfl⟩) | (rw [b01_f (b01_eq0.mp zh297)]; exact ⟨rfl, rfl, rfl⟩)
      · skip
        refine g_iconst (pc := 300) (1) dX10_tryThing_300 (by decide) ?_
        refine g_goto (pc := 301) 305 dX10_tryThing_301 (by decide) ?_
        refine g_zret (pc := 305) dX10_tryThing_305 rfl (by first | exact Or.inl rfl | exact Or.inr rfl | assumption) ?_
        first | (rw [b01_t (b01_ne0.mp zh297)]; exact ⟨rfl, rfl, rfl⟩) | (rw [b01_f (b01_eq0.mp zh297)]; exact ⟨rfl, rfl, rfl⟩)
theorem c_X10_tryThing_o {k x y : Int32} {v : Mm} {L : Lm} (hk : k.toInt < 1 ∨ 7 < k.toInt) : Fn yX10_tryThing cX10_tryThing 8 (some .boolean) 5 [.ref 79, .int k, .int x, .int y] v L (some (.int 0)) v L := by
  refine Fq.of (plainFor_of_name (by decide)) [some (.ref 79), some (.int k), some (.int x), some (.int y), none, none, none, none] rfl (Nat.le_of_ble_eq_true rfl) ?_
  refine g_iload1 (pc := 0) dX10_tryThing_0 ?_
  refine g_tableOut (pc := 1) 306 dX10_tryThing_1 hk (by decide) ?_
  refine g_iconst (pc := 306) (0) dX10_tryThing_306 (by decide) ?_
  refine g_zret (pc := 307) dX10_tryThing_307 rfl (by first | exact Or.inl rfl | exact Or.inr rfl | assumption) ?_
  exact ⟨rfl, rfl, rfl⟩
theorem c_tryThing {n w : Nat} {k a b : Int32} {v : Mm} {L : Lm} (hM : MSt v n w) : Fn yX10_tryThing cX10_tryThing 8 (some .boolean) 5 [.ref 79, .int k, .int a, .int b] v L (some (.int (ttF v n w k a b).1)) (ttF v n w k a b).2 L := by
  have hn4 := hM.1
  unfold ttF
  rcases tsw_1_7 k with rfl | rfl | rfl | rfl | rfl | rfl | rfl | hk
  · rw [if_pos rfl]
    by_cases hx : 0 ≤ a ∧ a < nI n
    · rw [if_pos hx]
      obtain ⟨p, hp, rfl⟩ := nI_of_in (by omega) hx
      rw [nI_clamp (by omega)]
      by_cases hc : (0 ≤ b ∧ b ≤ 7) ∧ ¬ ndF (v 82 (43 * 1 + p)) b = -9
      · rw [if_pos hc]; exact c_X10_tryThing_1s hM hp hc
      · rw [if_neg hc]; exact c_X10_tryThing_1n hM hp hc
    · rw [if_neg hx]; exact c_X10_tryThing_1u hM hx
  · rw [if_neg (by decide), if_pos rfl]
    by_cases h0 : a = 0
    · subst h0
      by_cases hx : 0 ≤ b ∧ b < nI n
      · rw [if_pos ⟨rfl, hx⟩]
        obtain ⟨p, hp, rfl⟩ := nI_of_in (by omega) hx
        rw [nI_clamp (by omega)]
        exact c_X10_tryThing_2s hM hp
      · rw [if_neg (fun q => hx q.2)]; exact c_X10_tryThing_2u hM hx
    · rw [if_neg (fun q => h0 q.1)]; exact c_X10_tryThing_2m hM h0
  · rw [if_neg (by decide), if_neg (by decide), if_pos rfl]
    by_cases h0 : a = 0
    · subst h0
      by_cases hx : 0 ≤ b ∧ b < nI n
      · rw [if_pos ⟨rfl, hx⟩]
        obtain ⟨p, hp, rfl⟩ := nI_of_in (by omega) hx
        rw [nI_clamp (by omega)]
        by_cases hf : v 82 (55 + p) < v 81 p
        · rw [if_pos hf]; exact c_X10_tryThing_3s hM hp hf
        · rw [if_neg hf]; exact c_X10_tryThing_3f hM hp hf
      · rw [if_neg (fun q => hx q.2)]; exact c_X10_tryThing_3u hM hx
    · rw [if_neg (fun q => h0 q.1)]; exact c_X10_tryThing_3m hM h0
  · rw [if_neg (by decide), if_neg (by decide), if_neg (by decide), if_pos rfl]
    by_cases h0 : a = 0
    · subst h0
      by_cases hx : 0 ≤ b ∧ b < nI n
      · rw [if_pos ⟨rfl, hx⟩]
        obtain ⟨p, hp, rfl⟩ := nI_of_in (by omega) hx
        rw [nI_clamp (by omega)]
        exact c_X10_tryThing_4s hM hp
      · rw [if_neg (fun q => hx q.2)]; exact c_X10_tryThing_4u hM hx
    · rw [if_neg (fun q => h0 q.1)]; exact c_X10_tryThing_4m hM h0
  · rw [if_neg (by decide), if_neg (by decide), if_neg (by decide), if_neg (by decide), if_pos rfl]
    by_cases hx : (0 ≤ a ∧ a ≤ 4) ∧ (0 ≤ b ∧ b ≤ 4)
    · rw [if_pos hx]
      obtain ⟨p, hp, rfl⟩ := le4_of hx.1
      obtain ⟨q, hq, rfl⟩ := le4_of hx.2
      rw [nI_clamp (by omega), nI_clamp (by omega)]
      exact c_X10_tryThing_5s hM hp hq
    · rw [if_neg hx]; exact c_X10_tryThing_5n hM hx
  · rw [if_neg (by decide), if_neg (by decide), if_neg (by decide), if_neg (by decide), if_neg (by decide), if_pos rfl]
    by_cases hx : 0 ≤ a ∧ a < nI n
    · rw [if_pos hx]
      obtain ⟨p, hp, rfl⟩ := nI_of_in (by omega) hx
      rw [nI_clamp (by omega)]
      exact c_X10_tryThing_6s hM hp
    · rw [if_neg hx]; exact c_X10_tryThing_6u hM hx
  · rw [if_neg (by decide), if_neg (by decide), if_neg (by decide), if_neg (by decide), if_neg (by decide), if_neg (by decide), if_pos rfl]
    by_cases h0 : b = 0
    · subst h0
      by_cases hx : 0 ≤ a ∧ a < nI n
      · rw [if_pos ⟨rfl, hx⟩]
        obtain ⟨p, hp, rfl⟩ := nI_of_in (by omega) hx
        rw [nI_clamp (by omega)]
        exact c_X10_tryThing_7s hM hp
      · rw [if_neg (fun q => hx q.2)]; exact c_X10_tryThing_7u hM hx
    · rw [if_neg (fun q => h0 q.1)]; exact c_X10_tryThing_7m hM h0
  · have z1 : ∀ c : Int32, ¬ (c.toInt < 1 ∨ 7 < c.toInt) → ¬ k = c := fun c h q => h (by rw [← q]; exact hk)
    rw [if_neg (z1 1 (by decide)), if_neg (z1 2 (by decide)), if_neg (z1 3 (by decide)), if_neg (z1 4 (by decide)), if_neg (z1 5 (by decide)), if_neg (z1 6 (by decide)), if_neg (z1 7 (by decide))]
    exact c_X10_tryThing_o hk
