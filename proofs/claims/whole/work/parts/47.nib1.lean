theorem c_X9_wipe  {v : Mm} {L : Lm}  : Fn yX9_wipe cX9_wipe 2 (some .int) 0 [.ref 0] v L (some (.int (v 1 1))) (upd2 v 1 1 0) L := by
  refine Fq.of (plainFor_of_name (by decide)) [some (.ref 0), none] rfl (Nat.le_of_ble_eq_true rfl) ?_
  first | refine g_aload0 (pc := 0) dX9_wipe_0 ?_ | refine g_aloadN0 (pc := 0) dX9_wipe_0 ?_
  refine g_getR (pc := 1) (j := 0) cf9 dX9_wipe_1 fl_RX9_10 (by decide) (by decide) (by first | rfl | assumption) (1) (rfl) ?_
  refine g_getI (pc := 4) (j := 1) cf6 dX9_wipe_4 fl_RX9_76 (by decide) (by decide) (by first | rfl | assumption) ?_
  refine g_istore1 (pc := 7) dX9_wipe_7 (by decide) (by first | rfl | assumption) ?_
  first | refine g_aload0 (pc := 8) dX9_wipe_8 ?_ | refine g_aloadN0 (pc := 8) dX9_wipe_8 ?_
  refine g_getR (pc := 9) (j := 0) cf9 dX9_wipe_9 fl_RX9_10 (by decide) (by decide) (by first | rfl | assumption) (1) (rfl) ?_
  refine g_iconst (pc := 12) (0) dX9_wipe_12 (by decide) ?_
  refine g_putI (pc := 13) (j := 1) cf6 dX9_wipe_13 fl_RX9_76 (by decide) rfl rfl (by decide) (by first | rfl | assumption) ?_
  refine g_iload1 (pc := 16) dX9_wipe_16 ?_
  refine g_iret (pc := 17) dX9_wipe_17 rfl ?_
  exact ⟨rfl, rfl, rfl⟩
theorem c_X9_write_o {x : Int32} {v : Mm} {L : Lm} (hx : ¬ (0 ≤ x ∧ x ≤ 255)) : Fn yX9_write cX9_write 2 (some .int) 1 [.ref 0, .int x] v L (some (.int (-2))) v L := by
  refine Fq.of (plainFor_of_name (by decide)) [some (.ref 0), some (.int x)] rfl (Nat.le_of_ble_eq_true rfl) ?_
  refine g_iload1 (pc := 0) dX9_write_0 ?_
  refine g_sipush (pc := 1) (255) dX9_write_1 (by decide) ?_
  refine g_fS2 (pc := 4) (c_X9_isWithin) dX9_write_4 cw_RX9_68 (by decide) (Nat.le_of_ble_eq_true rfl) ?_
  refine g_if_ne (pc := 7) 13 dX9_write_7 (by decide) (fun zh7 => ?_) (fun zh7 => ?_)
  · skip
    exact absurd (b01_ne0.mp zh7) hx
  · skip
    refine g_bipush (pc := 10) (-2) dX9_write_10 (by decide) ?_
    refine g_iret (pc := 12) dX9_write_12 rfl ?_
    exact ⟨rfl, rfl, rfl⟩
theorem c_X9_write_f {x : Int32} {v : Mm} {L : Lm} (hx : 0 ≤ x ∧ x ≤ 255) (hl : v 1 1 = 48) : Fn yX9_write cX9_write 2 (some .int) 1 [.ref 0, .int x] v L (some (.int (-4))) v L := by
  refine Fq.of (plainFor_of_name (by decide)) [some (.ref 0), some (.int x)] rfl (Nat.le_of_ble_eq_true rfl) ?_
  refine g_iload1 (pc := 0) dX9_write_0 ?_
  refine g_sipush (pc := 1) (255) dX9_write_1 (by decide) ?_
  refine g_fS2 (pc := 4) (c_X9_isWithin) dX9_write_4 cw_RX9_68 (by decide) (Nat.le_of_ble_eq_true rfl) ?_
  refine g_if_ne (pc := 7) 13 dX9_write_7 (by decide) (fun zh7 => ?_) (fun zh7 => ?_)
  · skip
    first | refine g_aload0 (pc := 13) dX9_write_13 ?_ | refine g_aloadN0 (pc := 13) dX9_write_13 ?_
    refine g_getR (pc := 14) (j := 0) cf9 dX9_write_14 fl_RX9_10 (by decide) (by decide) (by first | rfl | assumption) (1) (rfl) ?_
    refine g_iload1 (pc := 17) dX9_write_17 ?_
    refine g_fV1 (pc := 18) (c_X6_add_f hl) cf6 (by first | rfl | assumption) dX9_write_18 cw_RX9_72 (by decide) (Nat.le_of_ble_eq_true rfl) ?_
    refine g_if_eq (pc := 21) 34 dX9_write_21 (by decide) (fun zh21 => ?_) (fun zh21 => ?_)
    · skip
      refine g_bipush (pc := 34) (-4) dX9_write_34 (by decide) ?_
      refine g_iret (pc := 36) dX9_write_36 rfl ?_
      exact ⟨rfl, rfl, rfl⟩
    · skip
      exact absurd rfl zh21
  · skip
    exact absurd hx (b01_eq0.mp zh7)
theorem c_X9_write_s {x : Int32} {c : Nat} {v : Mm} {L : Lm} (hx : 0 ≤ x ∧ x ≤ 255) (hl : v 1 1 = nI c) (hc : c < 48) : Fn yX9_write cX9_write 2 (some .int) 1 [.ref 0, .int x] v L (some (.int (nI (c + 1)))) (upd2 (upd2 v 2 c x) 1 1 (nI (c + 1))) L := by
  refine Fq.of (plainFor_of_name (by decide)) [some (.ref 0), some (.int x)] rfl (Nat.le_of_ble_eq_true rfl) ?_
  refine g_iload1 (pc := 0) dX9_write_0 ?_
  refine g_sipush (pc := 1) (255) dX9_write_1 (by decide) ?_
  refine g_fS2 (pc := 4) (c_X9_isWithin) dX9_write_4 cw_RX9_68 (by decide) (Nat.le_of_ble_eq_true rfl) ?_
  refine g_if_ne (pc := 7) 13 dX9_write_7 (by decide) (fun zh7 => ?_) (fun zh7 => ?_)
  · skip
    first | refine g_aload0 (pc := 13) dX9_write_13 ?_ | refine g_aloadN0 (pc := 13) dX9_write_13 ?_
    refine g_getR (pc := 14) (j := 0) cf9 dX9_write_14 fl_RX9_10 (by decide) (by decide) (by first | rfl | assumption) (1) (rfl) ?_
    refine g_iload1 (pc := 17) dX9_write_17 ?_
    refine g_fV1 (pc := 18) (c_X6_add_t (by rw [hl]; exact vp_in_nI hc (by decide))) cf6 (by first | rfl | assumption) dX9_write_18 cw_RX9_72 (by decide) (Nat.le_of_ble_eq_true rfl) ?_
    rw [hl, nI_clamp (by omega), nI_1]
    refine g_if_eq (pc := 21) 34 dX9_write_21 (by decide) (fun zh21 => ?_) (fun zh21 => ?_)
    · skip
      exact absurd zh21 (by decide)
    · skip
      first | refine g_aload0 (pc := 24) dX9_write_24 ?_ | refine g_aloadN0 (pc := 24) dX9_write_24 ?_
      refine g_getR (pc := 25) (j := 0) cf9 dX9_write_25 fl_RX9_10 (by decide) (by decide) (by first | rfl | assumption) (1) (rfl) ?_
      refine g_getI (pc := 28) (j := 1) cf6 dX9_write_28 fl_RX9_76 (by decide) (by decide) (by first | rfl | assumption) ?_
      refine g_goto (pc := 31) 36 dX9_write_31 (by decide) ?_
      refine g_iret (pc := 36) dX9_write_36 rfl ?_
      exact ⟨by rw [u2_s], rfl, rfl⟩
  · skip
    exact absurd hx (b01_eq0.mp zh7)
theorem c_X9_fault {len : Nat} {v : Mm} {L : Lm} (hl : v 1 1 = nI len) (zh48 : len ≤ 48) : Fn yX9_fault cX9_fault 1 (some .int) 5 [.ref 0] v L (some (.int (if v 1 1 = 0 ∨ ¬ v 2 0 = 78 then 0 else ffF v len 49 0 0 1))) v L := by
  refine Fq.of (plainFor_of_name (by decide)) [some (.ref 0)] rfl (Nat.le_of_ble_eq_true rfl) ?_
  first | refine g_aload0 (pc := 0) dX9_fault_0 ?_ | refine g_aloadN0 (pc := 0) dX9_fault_0 ?_
  refine g_getR (pc := 1) (j := 0) cf9 dX9_fault_1 fl_RX9_10 (by decide) (by decide) (by first | rfl | assumption) (1) (rfl) ?_
  refine g_fV0 (pc := 4) (c_X6_findFault hl zh48) cf6 (by first | rfl | assumption) dX9_fault_4 cw_RX9_80 (by decide) (Nat.le_of_ble_eq_true rfl) ?_
  refine g_iret (pc := 7) dX9_fault_7 rfl ?_
  exact ⟨rfl, rfl, rfl⟩
theorem c_X9_desk_n {len : Nat} {v : Mm} {L : Lm} (hl : v 1 1 = nI len) (zh48 : len ≤ 48) (hf : ¬ (if v 1 1 = 0 ∨ ¬ v 2 0 = 78 then 0 else ffF v len 49 0 0 1) = -9) : Fn yX9_desk cX9_desk 2 (some .int) 5 [.ref 0] v L (some (.int (-3))) v L := by
  refine Fq.of (plainFor_of_name (by decide)) [some (.ref 0), none] rfl (Nat.le_of_ble_eq_true rfl) ?_
  first | refine g_aload0 (pc := 0) dX9_desk_0 ?_ | refine g_aloadN0 (pc := 0) dX9_desk_0 ?_
  refine g_getR (pc := 1) (j := 0) cf9 dX9_desk_1 fl_RX9_10 (by decide) (by decide) (by first | rfl | assumption) (1) (rfl) ?_
  refine g_fV0 (pc := 4) (c_X6_findFault hl zh48) cf6 (by first | rfl | assumption) dX9_desk_4 cw_RX9_80 (by decide) (Nat.le_of_ble_eq_true rfl) ?_
  refine g_bipush (pc := 7) (-9) dX9_desk_7 (by decide) ?_
  refine g_icmp_eq (pc := 9) 15 dX9_desk_9 (by decide) (fun zh9 => ?_) (fun zh9 => ?_)
  · skip
    exact absurd zh9 hf
  · skip
    refine g_bipush (pc := 12) (-3) dX9_desk_12 (by decide) ?_
    refine g_iret (pc := 14) dX9_desk_14 rfl ?_
    exact ⟨rfl, rfl, rfl⟩
theorem desk_tail {v : Mm} {L : Lm} {Q : Qt} (hq : Q (some (.int (upd2 (upd2 v 33 1 0) 34 1 0 5 2))) (upd2 (upd2 v 33 1 0) 34 1 0) L) : G RX9 cX9_desk 2 (some .int) 5 Q 35 [some (.ref 0), some (.int 0)] [] v L := by
  refine g_iload1 (pc := 35) dX9_desk_35 ?_
  refine g_iconst (pc := 36) (2) dX9_desk_36 (by decide) ?_
  refine g_icmp_ge (pc := 37) 56 dX9_desk_37 (by decide) (fun zh => absurd zh (by decide)) (fun zh => ?_)
  refine g_aload0 (pc := 40) dX9_desk_40 ?_
  refine g_getR (pc := 41) (j := 7) cf9 dX9_desk_41 fl_RX9_56 (by decide) (by decide) rfl 35 rfl ?_
  refine g_iload1 (pc := 44) dX9_desk_44 ?_
  refine g_aald (pc := 45) (n := 15) dX9_desk_45 rfl (by decide) (by decide) (vp_in_nI (n := 0) (N := 2) (by decide) (by decide)) 33 (by decide) ?_
  refine g_iconst (pc := 46) (0) dX9_desk_46 (by decide) ?_
  refine g_putZ (pc := 47) (j := 1) cf5 dX9_desk_47 fl_RX9_91 (by decide) rfl rfl (by decide) rfl (Or.inl rfl) ?_
  refine g_iinc1 (pc := 50) (1) dX9_desk_50 (by decide) (by decide) rfl ?_
  refine g_goto (pc := 53) 35 dX9_desk_53 (by decide) ?_
  refine g_iload1 (pc := 35) dX9_desk_35 ?_
  refine g_iconst (pc := 36) (2) dX9_desk_36 (by decide) ?_
  refine g_icmp_ge (pc := 37) 56 dX9_desk_37 (by decide) (fun zh => absurd zh (by decide)) (fun zh => ?_)
  refine g_aload0 (pc := 40) dX9_desk_40 ?_
  refine g_getR (pc := 41) (j := 7) cf9 dX9_desk_41 fl_RX9_56 (by decide) (by decide) rfl 35 rfl ?_
  refine g_iload1 (pc := 44) dX9_desk_44 ?_
  refine g_aald (pc := 45) (n := 15) dX9_desk_45 rfl (by decide) (by decide) (vp_in_nI (n := 1) (N := 2) (by decide) (by decide)) 34 (by decide) ?_
  refine g_iconst (pc := 46) (0) dX9_desk_46 (by decide) ?_
  refine g_putZ (pc := 47) (j := 1) cf5 dX9_desk_47 fl_RX9_91 (by decide) rfl rfl (by decide) rfl (Or.inl rfl) ?_
  refine g_iinc1 (pc := 50) (2) dX9_desk_50 (by decide) (by decide) rfl ?_
  refine g_goto (pc := 53) 35 dX9_desk_53 (by decide) ?_
  refine g_iload1 (pc := 35) dX9_desk_35 ?_
  refine g_iconst (pc := 36) (2) dX9_desk_36 (by decide) ?_
  refine g_icmp_ge (pc := 37) 56 dX9_desk_37 (by decide) (fun zh => ?_) (fun zh => absurd (by decide) zh)
  first | refine g_aload0 (pc := 56) dX9_desk_56 ?_ | refine g_aloadN0 (pc := 56) dX9_desk_56 ?_
  refine g_getR (pc := 57) (j := 2) cf9 dX9_desk_57 fl_RX9_26 (by decide) (by decide) (by first | rfl | assumption) (5) (rfl) ?_
  refine g_getI (pc := 60) (j := 2) cf4 dX9_desk_60 fl_RX9_95 (by decide) (by decide) (by first | rfl | assumption) ?_
  refine g_iret (pc := 63) dX9_desk_63 rfl ?_
  exact hq
theorem c_X9_desk_s {len : Nat} {v : Mm} {L : Lm} (hl : v 1 1 = nI len) (zh48 : len ≤ 48) (hf : (if v 1 1 = 0 ∨ ¬ v 2 0 = 78 then 0 else ffF v len 49 0 0 1) = -9) : Fn yX9_desk cX9_desk 2 (some .int) 5 [.ref 0] v L (some (.int ((upd2 (upd2 (upd2 (loM 5 len 49 0 1 (clM v 5)) 38 2 0) 33 1 0) 34 1 0) 5 2))) (upd2 (upd2 (upd2 (loM 5 len 49 0 1 (clM v 5)) 38 2 0) 33 1 0) 34 1 0) L := by
  refine Fq.of (plainFor_of_name (by decide)) [some (.ref 0), none] rfl (Nat.le_of_ble_eq_true rfl) ?_
  first | refine g_aload0 (pc := 0) dX9_desk_0 ?_ | refine g_aloadN0 (pc := 0) dX9_desk_0 ?_
  refine g_getR (pc := 1) (j := 0) cf9 dX9_desk_1 fl_RX9_10 (by decide) (by decide) (by first | rfl | assumption) (1) (rfl) ?_
  refine g_fV0 (pc := 4) (c_X6_findFault hl zh48) cf6 (by first | rfl | assumption) dX9_desk_4 cw_RX9_80 (by decide) (Nat.le_of_ble_eq_true rfl) ?_
  refine g_bipush (pc := 7) (-9) dX9_desk_7 (by decide) ?_
  refine g_icmp_eq (pc := 9) 15 dX9_desk_9 (by decide) (fun zh9 => ?_) (fun zh9 => ?_)
  · skip
    first | refine g_aload0 (pc := 15) dX9_desk_15 ?_ | refine g_aloadN0 (pc := 15) dX9_desk_15 ?_
    refine g_getR (pc := 16) (j := 0) cf9 dX9_desk_16 fl_RX9_10 (by decide) (by decide) (by first | rfl | assumption) (1) (rfl) ?_
    first | refine g_aload0 (pc := 19) dX9_desk_19 ?_ | refine g_aloadN0 (pc := 19) dX9_desk_19 ?_
    refine g_getR (pc := 20) (j := 2) cf9 dX9_desk_20 fl_RX9_26 (by decide) (by decide) (by first | rfl | assumption) (5) (rfl) ?_
    refine g_vV1 (pc := 23) (c_X6_layOut s5 hl zh48 (by have zq := hf; split at zq; exact absurd zq (by decide); exact zq)) cf6 (by first | rfl | assumption) dX9_desk_23 cw_RX9_84 (by decide) (Nat.le_of_ble_eq_true rfl) ?_
    first | refine g_aload0 (pc := 26) dX9_desk_26 ?_ | refine g_aloadN0 (pc := 26) dX9_desk_26 ?_
    refine g_getR (pc := 27) (j := 4) cf9 dX9_desk_27 fl_RX9_36 (by decide) (by decide) (by first | rfl | assumption) (38) (rfl) ?_
    refine g_vV0 (pc := 30) (c_X1_forgetAll) cf1 (by first | rfl | assumption) dX9_desk_30 cw_RX9_88 (by decide) (Nat.le_of_ble_eq_true rfl) ?_
    refine g_iconst (pc := 33) (0) dX9_desk_33 (by decide) ?_
    refine g_istore1 (pc := 34) dX9_desk_34 (by decide) (by first | rfl | assumption) ?_
    exact desk_tail ⟨rfl, rfl, rfl⟩
  · skip
    exact absurd hf zh9
theorem c_X9_word_o1 {x : Int32} {y : Int64} {v : Mm} {L : Lm} (hx : ¬ (0 ≤ x ∧ x ≤ 8)) : Fn yX9_word cX9_word 5 (some .int) 4 [.ref 0, .int x, .long y] v L (some (.int (-2))) v L := by
  refine Fq.of (plainFor_of_name (by decide)) [some (.ref 0), some (.int x), some (.long y), none, none] rfl (Nat.le_of_ble_eq_true rfl) ?_
  refine g_iload1 (pc := 0) dX9_word_0 ?_
  refine g_bipush (pc := 1) (8) dX9_word_1 (by decide) ?_
  refine g_fS2 (pc := 3) (c_X9_isWithin) dX9_word_3 cw_RX9_68 (by decide) (Nat.le_of_ble_eq_true rfl) ?_
  refine g_if_eq (pc := 6) 25 dX9_word_6 (by decide) (fun zh6 => ?_) (fun zh6 => ?_)
  · skip
    refine g_bipush (pc := 25) (-2) dX9_word_25 (by decide) ?_
    refine g_iret (pc := 27) dX9_word_27 rfl ?_
    exact ⟨rfl, rfl, rfl⟩
  · skip
    exact absurd (b01_ne0.mp zh6) hx
theorem c_X9_word_o2 {q : Nat} {y : Int64} {v : Mm} {L : Lm} (hq : q ≤ 8) (hy : ¬ (0 ≤ y ∧ y < tensF (nI q))) : Fn yX9_word cX9_word 5 (some .int) 4 [.ref 0, .int (nI q), .long y] v L (some (.int (-2))) v L := by
  refine Fq.of (plainFor_of_name (by decide)) [some (.ref 0), some (.int (nI q)), some (.long y), none, none] rfl (Nat.le_of_ble_eq_true rfl) ?_
  refine g_iload1 (pc := 0) dX9_word_0 ?_
  refine g_bipush (pc := 1) (8) dX9_word_1 (by decide) ?_
  refine g_fS2 (pc := 3) (c_X9_isWithin) dX9_word_3 cw_RX9_68 (by decide) (Nat.le_of_ble_eq_true rfl) ?_
  refine g_if_eq (pc := 6) 25 dX9_word_6 (by decide) (fun zh6 => ?_) (fun zh6 => ?_)
  · skip
    refine g_bipush (pc := 25) (-2) dX9_word_25 (by decide) ?_
    refine g_iret (pc := 27) dX9_word_27 rfl ?_
    exact ⟨rfl, rfl, rfl⟩
  · skip
    refine g_lload2 (pc := 9) dX9_word_9 ?_
    refine g_iload1 (pc := 10) dX9_word_10 ?_
    refine g_fS2 (pc := 11) (c_X9_hasFigures) dX9_word_11 cw_RX9_98 (by decide) (Nat.le_of_ble_eq_true rfl) ?_
    refine g_if_eq (pc := 14) 25 dX9_word_14 (by decide) (fun zh14 => ?_) (fun zh14 => ?_)
    · skip
      refine g_bipush (pc := 25) (-2) dX9_word_25 (by decide) ?_
      refine g_iret (pc := 27) dX9_word_27 rfl ?_
      exact ⟨rfl, rfl, rfl⟩
    · skip
      exact absurd (b01_ne0.mp zh14) hy
theorem c_X9_word_o3 {q : Nat} {y : Int64} {v : Mm} {L : Lm} (hq : q ≤ 8) (hy : odR y q 0 = 0) : Fn yX9_word cX9_word 5 (some .int) 4 [.ref 0, .int (nI q), .long y] v L (some (.int (-2))) v L := by
  refine Fq.of (plainFor_of_name (by decide)) [some (.ref 0), some (.int (nI q)), some (.long y), none, none] rfl (Nat.le_of_ble_eq_true rfl) ?_
  refine g_iload1 (pc := 0) dX9_word_0 ?_
  refine g_bipush (pc := 1) (8) dX9_word_1 (by decide) ?_
  refine g_fS2 (pc := 3) (c_X9_isWithin) dX9_word_3 cw_RX9_68 (by decide) (Nat.le_of_ble_eq_true rfl) ?_
  refine g_if_eq (pc := 6) 25 dX9_word_6 (by decide) (fun zh6 => ?_) (fun zh6 => ?_)
  · skip
    refine g_bipush (pc := 25) (-2) dX9_word_25 (by decide) ?_
    refine g_iret (pc := 27) dX9_word_27 rfl ?_
    exact ⟨rfl, rfl, rfl⟩
  · skip
    refine g_lload2 (pc := 9) dX9_word_9 ?_
    refine g_iload1 (pc := 10) dX9_word_10 ?_
    refine g_fS2 (pc := 11) (c_X9_hasFigures) dX9_word_11 cw_RX9_98 (by decide) (Nat.le_of_ble_eq_true rfl) ?_
    refine g_if_eq (pc := 14) 25 dX9_word_14 (by decide) (fun zh14 => ?_) (fun zh14 => ?_)
    · skip
      refine g_bipush (pc := 25) (-2) dX9_word_25 (by decide) ?_
      refine g_iret (pc := 27) dX9_word_27 rfl ?_
      exact ⟨rfl, rfl, rfl⟩
    · skip
      refine g_iload1 (pc := 17) dX9_word_17 ?_
      refine g_lload2 (pc := 18) dX9_word_18 ?_
      refine g_fS2 (pc := 19) (c_X8_isOfDirections hq) dX9_word_19 cw_RX9_102 (by decide) (Nat.le_of_ble_eq_true rfl) ?_
      refine g_if_ne (pc := 22) 28 dX9_word_22 (by decide) (fun zh22 => ?_) (fun zh22 => ?_)
      · skip
        exact absurd hy zh22
      · skip
        refine g_bipush (pc := 25) (-2) dX9_word_25 (by decide) ?_
        refine g_iret (pc := 27) dX9_word_27 rfl ?_
        exact ⟨rfl, rfl, rfl⟩
theorem c_X9_word_s {q : Nat} {y : Int64} {v : Mm} {L : Lm} (hq : q ≤ 8) (hy : 0 ≤ y ∧ y < tensF (nI q)) (ho : ¬ odR y q 0 = 0) : Fn yX9_word cX9_word 5 (some .int) 4 [.ref 0, .int (nI q), .long y] v L (some (.int (v 3 1))) (tlM y q v) L := by
  refine Fq.of (plainFor_of_name (by decide)) [some (.ref 0), some (.int (nI q)), some (.long y), none, none] rfl (Nat.le_of_ble_eq_true rfl) ?_
  refine g_iload1 (pc := 0) dX9_word_0 ?_
  refine g_bipush (pc := 1) (8) dX9_word_1 (by decide) ?_
  refine g_fS2 (pc := 3) (c_X9_isWithin) dX9_word_3 cw_RX9_68 (by decide) (Nat.le_of_ble_eq_true rfl) ?_
  refine g_if_eq (pc := 6) 25 dX9_word_6 (by decide) (fun zh6 => ?_) (fun zh6 => ?_)
  · skip
    exact absurd ⟨nI_pos' (by omega), nI_le (b := 8) hq (by decide)⟩ (b01_eq0.mp zh6)
  · skip
    refine g_lload2 (pc := 9) dX9_word_9 ?_
    refine g_iload1 (pc := 10) dX9_word_10 ?_
    refine g_fS2 (pc := 11) (c_X9_hasFigures) dX9_word_11 cw_RX9_98 (by decide) (Nat.le_of_ble_eq_true rfl) ?_
    refine g_if_eq (pc := 14) 25 dX9_word_14 (by decide) (fun zh14 => ?_) (fun zh14 => ?_)
    · skip
      exact absurd hy (b01_eq0.mp zh14)
    · skip
      refine g_iload1 (pc := 17) dX9_word_17 ?_
      refine g_lload2 (pc := 18) dX9_word_18 ?_
      refine g_fS2 (pc := 19) (c_X8_isOfDirections hq) dX9_word_19 cw_RX9_102 (by decide) (Nat.le_of_ble_eq_true rfl) ?_
      refine g_if_ne (pc := 22) 28 dX9_word_22 (by decide) (fun zh22 => ?_) (fun zh22 => ?_)
      · skip
        first | refine g_aload0 (pc := 28) dX9_word_28 ?_ | refine g_aloadN0 (pc := 28) dX9_word_28 ?_
        refine g_getR (pc := 29) (j := 1) cf9 dX9_word_29 fl_RX9_19 (by decide) (by decide) (by first | rfl | assumption) (3) (rfl) ?_
        refine g_getI (pc := 32) (j := 1) cf8 dX9_word_32 fl_RX9_106 (by decide) (by decide) (by first | rfl | assumption) ?_
        refine g_istore4 (pc := 35) dX9_word_35 (by decide) (by first | rfl | assumption) ?_
        first | refine g_aload0 (pc := 37) dX9_word_37 ?_ | refine g_aloadN0 (pc := 37) dX9_word_37 ?_
        refine g_getR (pc := 38) (j := 1) cf9 dX9_word_38 fl_RX9_19 (by decide) (by decide) (by first | rfl | assumption) (3) (rfl) ?_
        refine g_iload1 (pc := 41) dX9_word_41 ?_
        refine g_lload2 (pc := 42) dX9_word_42 ?_
        refine g_vV2 (pc := 43) (c_X8_tell hq) cf8 (by first | rfl | assumption) dX9_word_43 cw_RX9_107 (by decide) (Nat.le_of_ble_eq_true rfl) ?_
        refine g_iload4 (pc := 46) dX9_word_46 ?_
        refine g_iret (pc := 48) dX9_word_48 rfl ?_
        exact ⟨rfl, rfl, rfl⟩
      · skip
        exact absurd zh22 ho
theorem c_X9_dot_u {x : Int32} {v : Mm} {L : Lm} (hx : ¬ (0 ≤ x ∧ x < 25)) : Fn yX9_dot cX9_dot 2 (some .int) 2 [.ref 0, .int x] v L (some (.int (-1))) v L := by
  refine Fq.of (plainFor_of_name (by decide)) [some (.ref 0), some (.int x)] rfl (Nat.le_of_ble_eq_true rfl) ?_
  refine g_iload1 (pc := 0) dX9_dot_0 ?_
  refine g_fS1 (pc := 1) (c_X9_isDot) dX9_dot_1 cw_RX9_139 (by decide) (Nat.le_of_ble_eq_true rfl) ?_
  refine g_if_eq (pc := 4) 18 dX9_dot_4 (by decide) (fun zh4 => ?_) (fun zh4 => ?_)
  · skip
    refine g_iconst (pc := 18) (-1) dX9_dot_18 (by decide) ?_
    refine g_iret (pc := 19) dX9_dot_19 rfl ?_
    exact ⟨rfl, rfl, rfl⟩
  · skip
    exact absurd (b01_ne0.mp zh4) hx
theorem c_X9_dot_s {q : Nat} {v : Mm} {L : Lm} (hq : q < 25) : Fn yX9_dot cX9_dot 2 (some .int) 2 [.ref 0, .int (nI q)] v L (some (.int (v 7 q))) v L := by
  refine Fq.of (plainFor_of_name (by decide)) [some (.ref 0), some (.int (nI q))] rfl (Nat.le_of_ble_eq_true rfl) ?_
  refine g_iload1 (pc := 0) dX9_dot_0 ?_
  refine g_fS1 (pc := 1) (c_X9_isDot) dX9_dot_1 cw_RX9_139 (by decide) (Nat.le_of_ble_eq_true rfl) ?_
  refine g_if_eq (pc := 4) 18 dX9_dot_4 (by decide) (fun zh4 => ?_) (fun zh4 => ?_)
  · skip
    exact absurd (of_d25 hq) (b01_eq0.mp zh4)
  · skip
    first | refine g_aload0 (pc := 7) dX9_dot_7 ?_ | refine g_aloadN0 (pc := 7) dX9_dot_7 ?_
    refine g_getR (pc := 8) (j := 2) cf9 dX9_dot_8 fl_RX9_26 (by decide) (by decide) (by first | rfl | assumption) (5) (rfl) ?_
    refine g_iload1 (pc := 11) dX9_dot_11 ?_
    refine g_fV1 (pc := 12) (c_X4_inkOn s5) cf4 (by first | rfl | assumption) dX9_dot_12 cw_RX9_142 (by decide) (Nat.le_of_ble_eq_true rfl) ?_
    refine g_goto (pc := 15) 19 dX9_dot_15 (by decide) ?_
    refine g_iret (pc := 19) dX9_dot_19 rfl ?_
    exact ⟨congrArg (fun zt => some (Value.int zt)) ((if_pos (of_d25 hq)).trans (by rw [nI_clamp (by omega)])), rfl, rfl⟩
theorem c_X9_thick_u {n : Nat} {x : Int32} {y : Int32} {v : Mm} {L : Lm} (hC : CSt v n) (hx : ¬ (0 ≤ x ∧ x < nI n)) : Fn yX9_thick cX9_thick 4 (some .int) 2 [.ref 0, .int x, .int y] v L (some (.int (-1))) v L := by
  refine Fq.of (plainFor_of_name (by decide)) [some (.ref 0), some (.int x), some (.int y), none] rfl (Nat.le_of_ble_eq_true rfl) ?_
  first | refine g_aload0 (pc := 0) dX9_thick_0 ?_ | refine g_aloadN0 (pc := 0) dX9_thick_0 ?_
  refine g_getR (pc := 1) (j := 2) cf9 dX9_thick_1 fl_RX9_26 (by decide) (by decide) (by first | rfl | assumption) (5) (rfl) ?_
  refine g_iload1 (pc := 4) dX9_thick_4 ?_
  refine g_fV1 (pc := 5) (c_X4_find_n (S := 5) s5 (fun zq => hx ⟨zq.1, by rw [← hC.2.1]; exact zq.2.1⟩)) cf4 (by first | rfl | assumption) dX9_thick_5 cw_RX9_111 (by decide) (Nat.le_of_ble_eq_true rfl) ?_
  first | refine g_astore3 (pc := 8) dX9_thick_8 (by decide) (by first | rfl | assumption) ?_ | refine g_astoreN3 (pc := 8) dX9_thick_8 (by decide) (by first | rfl | assumption) ?_
  first | refine g_aload3 (pc := 9) dX9_thick_9 ?_ | refine g_aloadN3 (pc := 9) dX9_thick_9 ?_
  refine g_ifnonnullN (pc := 10) dX9_thick_10 ?_
  refine g_iconst (pc := 13) (-1) dX9_thick_13 (by decide) ?_
  refine g_iret (pc := 14) dX9_thick_14 rfl ?_
  exact ⟨rfl, rfl, rfl⟩
theorem c_X9_step_u {n : Nat} {x : Int32} {y : Int32} {v : Mm} {L : Lm} (hC : CSt v n) (hx : ¬ (0 ≤ x ∧ x < nI n)) : Fn yX9_step cX9_step 5 (some .int) 4 [.ref 0, .int x, .int y] v L (some (.int (-1))) v L := by
  refine Fq.of (plainFor_of_name (by decide)) [some (.ref 0), some (.int x), some (.int y), none, none] rfl (Nat.le_of_ble_eq_true rfl) ?_
  first | refine g_aload0 (pc := 0) dX9_step_0 ?_ | refine g_aloadN0 (pc := 0) dX9_step_0 ?_
  refine g_getR (pc := 1) (j := 2) cf9 dX9_step_1 fl_RX9_26 (by decide) (by decide) (by first | rfl | assumption) (5) (rfl) ?_
  refine g_iload1 (pc := 4) dX9_step_4 ?_
  refine g_fV1 (pc := 5) (c_X4_find_n (S := 5) s5 (fun zq => hx ⟨zq.1, by rw [← hC.2.1]; exact zq.2.1⟩)) cf4 (by first | rfl | assumption) dX9_step_5 cw_RX9_111 (by decide) (Nat.le_of_ble_eq_true rfl) ?_
  first | refine g_astore3 (pc := 8) dX9_step_8 (by decide) (by first | rfl | assumption) ?_ | refine g_astoreN3 (pc := 8) dX9_step_8 (by decide) (by first | rfl | assumption) ?_
  first | refine g_aload3 (pc := 9) dX9_step_9 ?_ | refine g_aloadN3 (pc := 9) dX9_step_9 ?_
  refine g_ifnonnullN (pc := 10) dX9_step_10 ?_
  refine g_iconst (pc := 13) (-1) dX9_step_13 (by decide) ?_
  refine g_iret (pc := 14) dX9_step_14 rfl ?_
  exact ⟨rfl, rfl, rfl⟩
theorem c_X9_put_u {n : Nat} {x : Int32}  {v : Mm} {L : Lm} (hC : CSt v n) (hx : ¬ (0 ≤ x ∧ x < nI n)) : Fn yX9_put cX9_put 3 (some .int) 4 [.ref 0, .int x] v L (some (.int (-1))) v L := by
  refine Fq.of (plainFor_of_name (by decide)) [some (.ref 0), some (.int x), none] rfl (Nat.le_of_ble_eq_true rfl) ?_
  first | refine g_aload0 (pc := 0) dX9_put_0 ?_ | refine g_aloadN0 (pc := 0) dX9_put_0 ?_
  refine g_getR (pc := 1) (j := 2) cf9 dX9_put_1 fl_RX9_26 (by decide) (by decide) (by first | rfl | assumption) (5) (rfl) ?_
  refine g_iload1 (pc := 4) dX9_put_4 ?_
  refine g_fV1 (pc := 5) (c_X4_find_n (S := 5) s5 (fun zq => hx ⟨zq.1, by rw [← hC.2.1]; exact zq.2.1⟩)) cf4 (by first | rfl | assumption) dX9_put_5 cw_RX9_111 (by decide) (Nat.le_of_ble_eq_true rfl) ?_
  first | refine g_astore2 (pc := 8) dX9_put_8 (by decide) (by first | rfl | assumption) ?_ | refine g_astoreN2 (pc := 8) dX9_put_8 (by decide) (by first | rfl | assumption) ?_
  first | refine g_aload2 (pc := 9) dX9_put_9 ?_ | refine g_aloadN2 (pc := 9) dX9_put_9 ?_
  refine g_ifnonnullN (pc := 10) dX9_put_10 ?_
  refine g_iconst (pc := 13) (-1) dX9_put_13 (by decide) ?_
  refine g_iret (pc := 14) dX9_put_14 rfl ?_
  exact ⟨rfl, rfl, rfl⟩
theorem c_X9_dip_u {n : Nat} {x : Int32}  {v : Mm} {L : Lm} (hC : CSt v n) (hx : ¬ (0 ≤ x ∧ x < nI n)) : Fn yX9_dip cX9_dip 3 (some .int) 4 [.ref 0, .int x] v L (some (.int (-1))) v L := by
  refine Fq.of (plainFor_of_name (by decide)) [some (.ref 0), some (.int x), none] rfl (Nat.le_of_ble_eq_true rfl) ?_
  first | refine g_aload0 (pc := 0) dX9_dip_0 ?_ | refine g_aloadN0 (pc := 0) dX9_dip_0 ?_
  refine g_getR (pc := 1) (j := 2) cf9 dX9_dip_1 fl_RX9_26 (by decide) (by decide) (by first | rfl | assumption) (5) (rfl) ?_
  refine g_iload1 (pc := 4) dX9_dip_4 ?_
  refine g_fV1 (pc := 5) (c_X4_find_n (S := 5) s5 (fun zq => hx ⟨zq.1, by rw [← hC.2.1]; exact zq.2.1⟩)) cf4 (by first | rfl | assumption) dX9_dip_5 cw_RX9_111 (by decide) (Nat.le_of_ble_eq_true rfl) ?_
  first | refine g_astore2 (pc := 8) dX9_dip_8 (by decide) (by first | rfl | assumption) ?_ | refine g_astoreN2 (pc := 8) dX9_dip_8 (by decide) (by first | rfl | assumption) ?_
  first | refine g_aload2 (pc := 9) dX9_dip_9 ?_ | refine g_aloadN2 (pc := 9) dX9_dip_9 ?_
  refine g_ifnonnullN (pc := 10) dX9_dip_10 ?_
  refine g_iconst (pc := 13) (-1) dX9_dip_13 (by decide) ?_
  refine g_iret (pc := 14) dX9_dip_14 rfl ?_
  exact ⟨rfl, rfl, rfl⟩
theorem c_X9_turn_u {n : Nat} {x : Int32}  {v : Mm} {L : Lm} (hC : CSt v n) (hx : ¬ (0 ≤ x ∧ x < nI n)) : Fn yX9_turn cX9_turn 3 (some .int) 4 [.ref 0, .int x] v L (some (.int (-1))) v L := by
  refine Fq.of (plainFor_of_name (by decide)) [some (.ref 0), some (.int x), none] rfl (Nat.le_of_ble_eq_true rfl) ?_
  first | refine g_aload0 (pc := 0) dX9_turn_0 ?_ | refine g_aloadN0 (pc := 0) dX9_turn_0 ?_
  refine g_getR (pc := 1) (j := 2) cf9 dX9_turn_1 fl_RX9_26 (by decide) (by decide) (by first | rfl | assumption) (5) (rfl) ?_
  refine g_iload1 (pc := 4) dX9_turn_4 ?_
  refine g_fV1 (pc := 5) (c_X4_find_n (S := 5) s5 (fun zq => hx ⟨zq.1, by rw [← hC.2.1]; exact zq.2.1⟩)) cf4 (by first | rfl | assumption) dX9_turn_5 cw_RX9_111 (by decide) (Nat.le_of_ble_eq_true rfl) ?_
  first | refine g_astore2 (pc := 8) dX9_turn_8 (by decide) (by first | rfl | assumption) ?_ | refine g_astoreN2 (pc := 8) dX9_turn_8 (by decide) (by first | rfl | assumption) ?_
  first | refine g_aload2 (pc := 9) dX9_turn_9 ?_ | refine g_aloadN2 (pc := 9) dX9_turn_9 ?_
  refine g_ifnonnullN (pc := 10) dX9_turn_10 ?_
  refine g_iconst (pc := 13) (-1) dX9_turn_13 (by decide) ?_
  refine g_iret (pc := 14) dX9_turn_14 rfl ?_
  exact ⟨rfl, rfl, rfl⟩
theorem c_X9_pen_u {n : Nat} {x : Int32} {y : Int32} {v : Mm} {L : Lm} (hC : CSt v n) (hx : ¬ (0 ≤ x ∧ x < nI n)) : Fn yX9_pen cX9_pen 4 (some .int) 6 [.ref 0, .int x, .int y] v L (some (.int (-1))) v L := by
  refine Fq.of (plainFor_of_name (by decide)) [some (.ref 0), some (.int x), some (.int y), none] rfl (Nat.le_of_ble_eq_true rfl) ?_
  first | refine g_aload0 (pc := 0) dX9_pen_0 ?_ | refine g_aloadN0 (pc := 0) dX9_pen_0 ?_
  refine g_getR (pc := 1) (j := 2) cf9 dX9_pen_1 fl_RX9_26 (by decide) (by decide) (by first | rfl | assumption) (5) (rfl) ?_
  refine g_iload1 (pc := 4) dX9_pen_4 ?_
  refine g_fV1 (pc := 5) (c_X4_find_n (S := 5) s5 (fun zq => hx ⟨zq.1, by rw [← hC.2.1]; exact zq.2.1⟩)) cf4 (by first | rfl | assumption) dX9_pen_5 cw_RX9_111 (by decide) (Nat.le_of_ble_eq_true rfl) ?_
  first | refine g_astore3 (pc := 8) dX9_pen_8 (by decide) (by first | rfl | assumption) ?_ | refine g_astoreN3 (pc := 8) dX9_pen_8 (by decide) (by first | rfl | assumption) ?_
  first | refine g_aload3 (pc := 9) dX9_pen_9 ?_ | refine g_aloadN3 (pc := 9) dX9_pen_9 ?_
  refine g_ifnonnullN (pc := 10) dX9_pen_10 ?_
  refine g_iconst (pc := 13) (-1) dX9_pen_13 (by decide) ?_
  refine g_iret (pc := 14) dX9_pen_14 rfl ?_
  exact ⟨rfl, rfl, rfl⟩
theorem c_X9_thick_o {n p : Nat} {y : Int32} {v : Mm} {L : Lm} (hC : CSt v n) (hp : p < n) (hy : ¬ (0 ≤ y ∧ y < 8)) : Fn yX9_thick cX9_thick 4 (some .int) 2 [.ref 0, .int (nI p), .int y] v L (some (.int (-2))) v L := by
  have hkp : kd (5 + 3 + p) = 2 := sh_kp s5 (by have := hC.1; omega)
  have hn4 := hC.1
  refine Fq.of (plainFor_of_name (by decide)) [some (.ref 0), some (.int (nI p)), some (.int y), none] rfl (Nat.le_of_ble_eq_true rfl) ?_
  first | refine g_aload0 (pc := 0) dX9_thick_0 ?_ | refine g_aloadN0 (pc := 0) dX9_thick_0 ?_
  refine g_getR (pc := 1) (j := 2) cf9 dX9_thick_1 fl_RX9_26 (by decide) (by decide) (by first | rfl | assumption) (5) (rfl) ?_
  refine g_iload1 (pc := 4) dX9_thick_4 ?_
  refine g_fV1 (pc := 5) (c_X4_find_s (S := 5) (i := p) s5 (by have := hC.1; omega) (by rw [hC.2.1]; exact nI_lt hp (by have := hC.1; omega))) cf4 (by first | rfl | assumption) dX9_thick_5 cw_RX9_111 (by decide) (Nat.le_of_ble_eq_true rfl) ?_
  first | refine g_astore3 (pc := 8) dX9_thick_8 (by decide) (by first | rfl | assumption) ?_ | refine g_astoreN3 (pc := 8) dX9_thick_8 (by decide) (by first | rfl | assumption) ?_
  first | refine g_aload3 (pc := 9) dX9_thick_9 ?_ | refine g_aloadN3 (pc := 9) dX9_thick_9 ?_
  refine g_ifnonnull (pc := 10) 15 dX9_thick_10 (by decide) ?_
  refine g_iload2 (pc := 15) dX9_thick_15 ?_
  refine g_fS1 (pc := 16) (c_X9_isDirection) dX9_thick_16 cw_RX9_145 (by decide) (Nat.le_of_ble_eq_true rfl) ?_
  refine g_if_eq (pc := 19) 30 dX9_thick_19 (by decide) (fun zh19 => ?_) (fun zh19 => ?_)
  · skip
    refine g_bipush (pc := 30) (-2) dX9_thick_30 (by decide) ?_
    refine g_iret (pc := 32) dX9_thick_32 rfl ?_
    exact ⟨rfl, rfl, rfl⟩
  · skip
    exact absurd (b01_ne0.mp zh19) hy
theorem c_X9_thick_s {n p : Nat} {y : Int32} {v : Mm} {L : Lm} (hC : CSt v n) (hp : p < n) (hy : 0 ≤ y ∧ y < 8) : Fn yX9_thick cX9_thick 4 (some .int) 2 [.ref 0, .int (nI p), .int y] v L (some (.int (acF (v (5 + 3 + p) 1) (v (5 + 3 + p) 2) (v (5 + 3 + p) 3) y))) v L := by
  have hkp : kd (5 + 3 + p) = 2 := sh_kp s5 (by have := hC.1; omega)
  have hn4 := hC.1
  refine Fq.of (plainFor_of_name (by decide)) [some (.ref 0), some (.int (nI p)), some (.int y), none] rfl (Nat.le_of_ble_eq_true rfl) ?_
  first | refine g_aload0 (pc := 0) dX9_thick_0 ?_ | refine g_aloadN0 (pc := 0) dX9_thick_0 ?_
  refine g_getR (pc := 1) (j := 2) cf9 dX9_thick_1 fl_RX9_26 (by decide) (by decide) (by first | rfl | assumption) (5) (rfl) ?_
  refine g_iload1 (pc := 4) dX9_thick_4 ?_
  refine g_fV1 (pc := 5) (c_X4_find_s (S := 5) (i := p) s5 (by have := hC.1; omega) (by rw [hC.2.1]; exact nI_lt hp (by have := hC.1; omega))) cf4 (by first | rfl | assumption) dX9_thick_5 cw_RX9_111 (by decide) (Nat.le_of_ble_eq_true rfl) ?_
  first | refine g_astore3 (pc := 8) dX9_thick_8 (by decide) (by first | rfl | assumption) ?_ | refine g_astoreN3 (pc := 8) dX9_thick_8 (by decide) (by first | rfl | assumption) ?_
  first | refine g_aload3 (pc := 9) dX9_thick_9 ?_ | refine g_aloadN3 (pc := 9) dX9_thick_9 ?_
  refine g_ifnonnull (pc := 10) 15 dX9_thick_10 (by decide) ?_
  refine g_iload2 (pc := 15) dX9_thick_15 ?_
  refine g_fS1 (pc := 16) (c_X9_isDirection) dX9_thick_16 cw_RX9_145 (by decide) (Nat.le_of_ble_eq_true rfl) ?_
  refine g_if_eq (pc := 19) 30 dX9_thick_19 (by decide) (fun zh19 => ?_) (fun zh19 => ?_)
  · skip
    exact absurd hy (b01_eq0.mp zh19)
  · skip
    first | refine g_aload3 (pc := 22) dX9_thick_22 ?_ | refine g_aloadN3 (pc := 22) dX9_thick_22 ?_
    refine g_iload2 (pc := 23) dX9_thick_23 ?_
    refine g_fV1 (pc := 24) (c_X2_across hkp) cf2 (by first | rfl | assumption) dX9_thick_24 cw_RX9_148 (by decide) (Nat.le_of_ble_eq_true rfl) ?_
    refine g_goto (pc := 27) 32 dX9_thick_27 (by decide) ?_
    refine g_iret (pc := 32) dX9_thick_32 rfl ?_
    exact ⟨rfl, rfl, rfl⟩
theorem c_X9_step_o {n p : Nat} {y : Int32} {v : Mm} {L : Lm} (hC : CSt v n) (hp : p < n) (hy : ¬ (0 ≤ y ∧ y < 8)) : Fn yX9_step cX9_step 5 (some .int) 4 [.ref 0, .int (nI p), .int y] v L (some (.int (-2))) v L := by
  have hkp : kd (5 + 3 + p) = 2 := sh_kp s5 (by have := hC.1; omega)
  have hn4 := hC.1
  refine Fq.of (plainFor_of_name (by decide)) [some (.ref 0), some (.int (nI p)), some (.int y), none, none] rfl (Nat.le_of_ble_eq_true rfl) ?_
  first | refine g_aload0 (pc := 0) dX9_step_0 ?_ | refine g_aloadN0 (pc := 0) dX9_step_0 ?_
  refine g_getR (pc := 1) (j := 2) cf9 dX9_step_1 fl_RX9_26 (by decide) (by decide) (by first | rfl | assumption) (5) (rfl) ?_
  refine g_iload1 (pc := 4) dX9_step_4 ?_
  refine g_fV1 (pc := 5) (c_X4_find_s (S := 5) (i := p) s5 (by have := hC.1; omega) (by rw [hC.2.1]; exact nI_lt hp (by have := hC.1; omega))) cf4 (by first | rfl | assumption) dX9_step_5 cw_RX9_111 (by decide) (Nat.le_of_ble_eq_true rfl) ?_
  first | refine g_astore3 (pc := 8) dX9_step_8 (by decide) (by first | rfl | assumption) ?_ | refine g_astoreN3 (pc := 8) dX9_step_8 (by decide) (by first | rfl | assumption) ?_
  first | refine g_aload3 (pc := 9) dX9_step_9 ?_ | refine g_aloadN3 (pc := 9) dX9_step_9 ?_
  refine g_ifnonnull (pc := 10) 15 dX9_step_10 (by decide) ?_
  refine g_iload2 (pc := 15) dX9_step_15 ?_
  refine g_fS1 (pc := 16) (c_X9_isDirection) dX9_step_16 cw_RX9_145 (by decide) (Nat.le_of_ble_eq_true rfl) ?_
  refine g_if_ne (pc := 19) 25 dX9_step_19 (by decide) (fun zh19 => ?_) (fun zh19 => ?_)
  · skip
    exact absurd (b01_ne0.mp zh19) hy
  · skip
    refine g_bipush (pc := 22) (-2) dX9_step_22 (by decide) ?_
    refine g_iret (pc := 24) dX9_step_24 rfl ?_
    exact ⟨rfl, rfl, rfl⟩
theorem c_X9_step_n {n p : Nat} {y : Int32} {v : Mm} {L : Lm} (hC : CSt v n) (hp : p < n) (hy : 0 ≤ y ∧ y < 8) (hnb : nbF (v (5 + 3 + p) 0) y = -9) : Fn yX9_step cX9_step 5 (some .int) 4 [.ref 0, .int (nI p), .int y] v L (some (.int (-3))) v L := by
  have hkp : kd (5 + 3 + p) = 2 := sh_kp s5 (by have := hC.1; omega)
  have hn4 := hC.1
  refine Fq.of (plainFor_of_name (by decide)) [some (.ref 0), some (.int (nI p)), some (.int y), none, none] rfl (Nat.le_of_ble_eq_true rfl) ?_
  first | refine g_aload0 (pc := 0) dX9_step_0 ?_ | refine g_aloadN0 (pc := 0) dX9_step_0 ?_
  refine g_getR (pc := 1) (j := 2) cf9 dX9_step_1 fl_RX9_26 (by decide) (by decide) (by first | rfl | assumption) (5) (rfl) ?_
  refine g_iload1 (pc := 4) dX9_step_4 ?_
  refine g_fV1 (pc := 5) (c_X4_find_s (S := 5) (i := p) s5 (by have := hC.1; omega) (by rw [hC.2.1]; exact nI_lt hp (by have := hC.1; omega))) cf4 (by first | rfl | assumption) dX9_step_5 cw_RX9_111 (by decide) (Nat.le_of_ble_eq_true rfl) ?_
  first | refine g_astore3 (pc := 8) dX9_step_8 (by decide) (by first | rfl | assumption) ?_ | refine g_astoreN3 (pc := 8) dX9_step_8 (by decide) (by first | rfl | assumption) ?_
  first | refine g_aload3 (pc := 9) dX9_step_9 ?_ | refine g_aloadN3 (pc := 9) dX9_step_9 ?_
  refine g_ifnonnull (pc := 10) 15 dX9_step_10 (by decide) ?_
  refine g_iload2 (pc := 15) dX9_step_15 ?_
  refine g_fS1 (pc := 16) (c_X9_isDirection) dX9_step_16 cw_RX9_145 (by decide) (Nat.le_of_ble_eq_true rfl) ?_
  refine g_if_ne (pc := 19) 25 dX9_step_19 (by decide) (fun zh19 => ?_) (fun zh19 => ?_)
  · skip
    first | refine g_aload3 (pc := 25) dX9_step_25 ?_ | refine g_aloadN3 (pc := 25) dX9_step_25 ?_
    refine g_getI (pc := 26) (j := 0) cf2 dX9_step_26 fl_RX9_115 (by decide) (by decide) (by first | rfl | assumption) ?_
    refine g_iload2 (pc := 29) dX9_step_29 ?_
    refine g_fS2 (pc := 30) (c_X9_neighbour) dX9_step_30 cw_RX9_151 (by decide) (Nat.le_of_ble_eq_true rfl) ?_
    refine g_istore4 (pc := 33) dX9_step_33 (by decide) (by first | rfl | assumption) ?_
    refine g_iload4 (pc := 35) dX9_step_35 ?_
    refine g_bipush (pc := 37) (-9) dX9_step_37 (by decide) ?_
    refine g_icmp_ne (pc := 39) 45 dX9_step_39 (by decide) (fun zh39 => ?_) (fun zh39 => ?_)
    · skip
      exact absurd hnb zh39
    · skip
      refine g_bipush (pc := 42) (-3) dX9_step_42 (by decide) ?_
      refine g_iret (pc := 44) dX9_step_44 rfl ?_
      exact ⟨rfl, rfl, rfl⟩
  · skip
    exact absurd hy (b01_eq0.mp zh19)
theorem c_X9_step_s {n p f c : Nat} {y : Int32} {v : Mm} {L : Lm} (hC : CSt v n) (hp : p < n) (hy : 0 ≤ y ∧ y < 8) (hnb : ¬ nbF (v (5 + 3 + p) 0) y = -9) (hA : ASt v f c) : Fn yX9_step cX9_step 5 (some .int) 4 [.ref 0, .int (nI p), .int y] v L (some (.int (mvL (nnS v f c p (nbF (v (5 + 3 + p) 0) y)) (5 + 3 + p) y))) (mvV (nnS v f c p (nbF (v (5 + 3 + p) 0) y)) 5 (5 + 3 + p) y) L := by
  have hkp : kd (5 + 3 + p) = 2 := sh_kp s5 (by have := hC.1; omega)
  have hn4 := hC.1
  refine Fq.of (plainFor_of_name (by decide)) [some (.ref 0), some (.int (nI p)), some (.int y), none, none] rfl (Nat.le_of_ble_eq_true rfl) ?_
  first | refine g_aload0 (pc := 0) dX9_step_0 ?_ | refine g_aloadN0 (pc := 0) dX9_step_0 ?_
  refine g_getR (pc := 1) (j := 2) cf9 dX9_step_1 fl_RX9_26 (by decide) (by decide) (by first | rfl | assumption) (5) (rfl) ?_
  refine g_iload1 (pc := 4) dX9_step_4 ?_
  refine g_fV1 (pc := 5) (c_X4_find_s (S := 5) (i := p) s5 (by have := hC.1; omega) (by rw [hC.2.1]; exact nI_lt hp (by have := hC.1; omega))) cf4 (by first | rfl | assumption) dX9_step_5 cw_RX9_111 (by decide) (Nat.le_of_ble_eq_true rfl) ?_
  first | refine g_astore3 (pc := 8) dX9_step_8 (by decide) (by first | rfl | assumption) ?_ | refine g_astoreN3 (pc := 8) dX9_step_8 (by decide) (by first | rfl | assumption) ?_
  first | refine g_aload3 (pc := 9) dX9_step_9 ?_ | refine g_aloadN3 (pc := 9) dX9_step_9 ?_
  refine g_ifnonnull (pc := 10) 15 dX9_step_10 (by decide) ?_
  refine g_iload2 (pc := 15) dX9_step_15 ?_
  refine g_fS1 (pc := 16) (c_X9_isDirection) dX9_step_16 cw_RX9_145 (by decide) (Nat.le_of_ble_eq_true rfl) ?_
  refine g_if_ne (pc := 19) 25 dX9_step_19 (by decide) (fun zh19 => ?_) (fun zh19 => ?_)
  · skip
    first | refine g_aload3 (pc := 25) dX9_step_25 ?_ | refine g_aloadN3 (pc := 25) dX9_step_25 ?_
    refine g_getI (pc := 26) (j := 0) cf2 dX9_step_26 fl_RX9_115 (by decide) (by decide) (by first | rfl | assumption) ?_
    refine g_iload2 (pc := 29) dX9_step_29 ?_
    refine g_fS2 (pc := 30) (c_X9_neighbour) dX9_step_30 cw_RX9_151 (by decide) (Nat.le_of_ble_eq_true rfl) ?_
    refine g_istore4 (pc := 33) dX9_step_33 (by decide) (by first | rfl | assumption) ?_
    refine g_iload4 (pc := 35) dX9_step_35 ?_
    refine g_bipush (pc := 37) (-9) dX9_step_37 (by decide) ?_
    refine g_icmp_ne (pc := 39) 45 dX9_step_39 (by decide) (fun zh39 => ?_) (fun zh39 => ?_)
    · skip
      first | refine g_aload0 (pc := 45) dX9_step_45 ?_ | refine g_aloadN0 (pc := 45) dX9_step_45 ?_
      refine g_getR (pc := 46) (j := 4) cf9 dX9_step_46 fl_RX9_36 (by decide) (by decide) (by first | rfl | assumption) (38) (rfl) ?_
      first | refine g_aload0 (pc := 49) dX9_step_49 ?_ | refine g_aloadN0 (pc := 49) dX9_step_49 ?_
      refine g_getR (pc := 50) (j := 2) cf9 dX9_step_50 fl_RX9_26 (by decide) (by decide) (by first | rfl | assumption) (5) (rfl) ?_
      refine g_iload1 (pc := 53) dX9_step_53 ?_
      refine g_iload4 (pc := 54) dX9_step_54 ?_
      refine g_vV3 (pc := 56) (c_note_s hA (by omega) (by rw [hC.2.1]; exact nI_lt hp (by omega)) (hC.2.2 p hp).2) cf1 (by first | rfl | assumption) dX9_step_56 cw_RX9_155 (by decide) (Nat.le_of_ble_eq_true rfl) ?_
      first | refine g_aload0 (pc := 59) dX9_step_59 ?_ | refine g_aloadN0 (pc := 59) dX9_step_59 ?_
      refine g_getR (pc := 60) (j := 2) cf9 dX9_step_60 fl_RX9_26 (by decide) (by decide) (by first | rfl | assumption) (5) (rfl) ?_
      first | refine g_aload3 (pc := 63) dX9_step_63 ?_ | refine g_aloadN3 (pc := 63) dX9_step_63 ?_
      refine g_iload2 (pc := 64) dX9_step_64 ?_
      refine g_fV2 (pc := 65) (c_X4_move_s s5 hkp (by rw [nnS_away hA.2.1 (by omega)]; exact hnb)) cf4 (by first | rfl | assumption) dX9_step_65 cw_RX9_159 (by decide) (Nat.le_of_ble_eq_true rfl) ?_
      refine g_iret (pc := 68) dX9_step_68 rfl ?_
      exact ⟨rfl, rfl, rfl⟩
    · skip
      exact absurd zh39 hnb
  · skip
    exact absurd hy (b01_eq0.mp zh19)
theorem c_X9_put_s {n p f c : Nat} {v : Mm} {L : Lm} (hC : CSt v n) (hp : p < n) (hA : ASt v f c) : Fn yX9_put cX9_put 3 (some .int) 4 [.ref 0, .int (nI p)] v L (some (.int (b01 ((nnS v f c p (-9)) (5 + 3 + p) 6 = 0)))) (upd2 (nnS v f c p (-9)) (5 + 3 + p) 6 (b01 ((nnS v f c p (-9)) (5 + 3 + p) 6 = 0))) L := by
  have hkp : kd (5 + 3 + p) = 2 := sh_kp s5 (by have := hC.1; omega)
  have hn4 := hC.1
  refine Fq.of (plainFor_of_name (by decide)) [some (.ref 0), some (.int (nI p)), none] rfl (Nat.le_of_ble_eq_true rfl) ?_
  first | refine g_aload0 (pc := 0) dX9_put_0 ?_ | refine g_aloadN0 (pc := 0) dX9_put_0 ?_
  refine g_getR (pc := 1) (j := 2) cf9 dX9_put_1 fl_RX9_26 (by decide) (by decide) (by first | rfl | assumption) (5) (rfl) ?_
  refine g_iload1 (pc := 4) dX9_put_4 ?_
  refine g_fV1 (pc := 5) (c_X4_find_s (S := 5) (i := p) s5 (by have := hC.1; omega) (by rw [hC.2.1]; exact nI_lt hp (by have := hC.1; omega))) cf4 (by first | rfl | assumption) dX9_put_5 cw_RX9_111 (by decide) (Nat.le_of_ble_eq_true rfl) ?_
  first | refine g_astore2 (pc := 8) dX9_put_8 (by decide) (by first | rfl | assumption) ?_ | refine g_astoreN2 (pc := 8) dX9_put_8 (by decide) (by first | rfl | assumption) ?_
  first | refine g_aload2 (pc := 9) dX9_put_9 ?_ | refine g_aloadN2 (pc := 9) dX9_put_9 ?_
  refine g_ifnonnull (pc := 10) 15 dX9_put_10 (by decide) ?_
  first | refine g_aload0 (pc := 15) dX9_put_15 ?_ | refine g_aloadN0 (pc := 15) dX9_put_15 ?_
  refine g_getR (pc := 16) (j := 4) cf9 dX9_put_16 fl_RX9_36 (by decide) (by decide) (by first | rfl | assumption) (38) (rfl) ?_
  first | refine g_aload0 (pc := 19) dX9_put_19 ?_ | refine g_aloadN0 (pc := 19) dX9_put_19 ?_
  refine g_getR (pc := 20) (j := 2) cf9 dX9_put_20 fl_RX9_26 (by decide) (by decide) (by first | rfl | assumption) (5) (rfl) ?_
  refine g_iload1 (pc := 23) dX9_put_23 ?_
  refine g_bipush (pc := 24) (-9) dX9_put_24 (by decide) ?_
  refine g_vV3 (pc := 26) (c_note_s hA (by omega) (by rw [hC.2.1]; exact nI_lt hp (by omega)) (hC.2.2 p hp).2) cf1 (by first | rfl | assumption) dX9_put_26 cw_RX9_155 (by decide) (Nat.le_of_ble_eq_true rfl) ?_
  first | refine g_aload2 (pc := 29) dX9_put_29 ?_ | refine g_aloadN2 (pc := 29) dX9_put_29 ?_
  refine g_vV0 (pc := 30) (c_X2_flip hkp) cf2 (by first | rfl | assumption) dX9_put_30 cw_RX9_163 (by decide) (Nat.le_of_ble_eq_true rfl) ?_
  first | refine g_aload2 (pc := 33) dX9_put_33 ?_ | refine g_aloadN2 (pc := 33) dX9_put_33 ?_
  refine g_getI (pc := 34) (j := 6) cf2 dX9_put_34 fl_RX9_132 (by decide) (by decide) (by first | rfl | assumption) ?_
  rw [u2_s]
  refine g_if_eq (pc := 37) 44 dX9_put_37 (by decide) (fun zh37 => ?_) (fun zh37 => ?_)
  · skip
    refine g_iconst (pc := 44) (0) dX9_put_44 (by decide) ?_
    refine g_iret (pc := 45) dX9_put_45 rfl ?_
    first | (rw [b01_t (b01_ne0.mp zh37)]; exact ⟨rfl, rfl, rfl⟩) | (rw [b01_f (b01_eq0.mp zh37)]; exact ⟨rfl, rfl, rfl⟩)
  · skip
    refine g_iconst (pc := 40) (1) dX9_put_40 (by decide) ?_
    refine g_goto (pc := 41) 45 dX9_put_41 (by decide) ?_
    refine g_iret (pc := 45) dX9_put_45 rfl ?_
    first | (rw [b01_t (b01_ne0.mp zh37)]; exact ⟨rfl, rfl, rfl⟩) | (rw [b01_f (b01_eq0.mp zh37)]; exact ⟨rfl, rfl, rfl⟩)
theorem c_X9_dip_n {n p : Nat} {v : Mm} {L : Lm} (hC : CSt v n) (hp : p < n) (hf : v (5 + 3 + p) 4 = v (5 + 3 + p) 5) : Fn yX9_dip cX9_dip 3 (some .int) 4 [.ref 0, .int (nI p)] v L (some (.int (-3))) v L := by
  have hkp : kd (5 + 3 + p) = 2 := sh_kp s5 (by have := hC.1; omega)
  have hn4 := hC.1
  refine Fq.of (plainFor_of_name (by decide)) [some (.ref 0), some (.int (nI p)), none] rfl (Nat.le_of_ble_eq_true rfl) ?_
  first | refine g_aload0 (pc := 0) dX9_dip_0 ?_ | refine g_aloadN0 (pc := 0) dX9_dip_0 ?_
  refine g_getR (pc := 1) (j := 2) cf9 dX9_dip_1 fl_RX9_26 (by decide) (by decide) (by first | rfl | assumption) (5) (rfl) ?_
  refine g_iload1 (pc := 4) dX9_dip_4 ?_
  refine g_fV1 (pc := 5) (c_X4_find_s (S := 5) (i := p) s5 (by have := hC.1; omega) (by rw [hC.2.1]; exact nI_lt hp (by have := hC.1; omega))) cf4 (by first | rfl | assumption) dX9_dip_5 cw_RX9_111 (by decide) (Nat.le_of_ble_eq_true rfl) ?_
  first | refine g_astore2 (pc := 8) dX9_dip_8 (by decide) (by first | rfl | assumption) ?_ | refine g_astoreN2 (pc := 8) dX9_dip_8 (by decide) (by first | rfl | assumption) ?_
  first | refine g_aload2 (pc := 9) dX9_dip_9 ?_ | refine g_aloadN2 (pc := 9) dX9_dip_9 ?_
  refine g_ifnonnull (pc := 10) 15 dX9_dip_10 (by decide) ?_
  first | refine g_aload2 (pc := 15) dX9_dip_15 ?_ | refine g_aloadN2 (pc := 15) dX9_dip_15 ?_
  refine g_fV0 (pc := 16) (c_X2_isFull hkp) cf2 (by first | rfl | assumption) dX9_dip_16 cw_RX9_166 (by decide) (Nat.le_of_ble_eq_true rfl) ?_
  refine g_if_eq (pc := 19) 25 dX9_dip_19 (by decide) (fun zh19 => ?_) (fun zh19 => ?_)
  · skip
    exact absurd hf (b01_eq0.mp zh19)
  · skip
    refine g_bipush (pc := 22) (-3) dX9_dip_22 (by decide) ?_
    refine g_iret (pc := 24) dX9_dip_24 rfl ?_
    exact ⟨rfl, rfl, rfl⟩
theorem c_X9_dip_s {n p f c : Nat} {v : Mm} {L : Lm} (hC : CSt v n) (hp : p < n) (hf : ¬ v (5 + 3 + p) 4 = v (5 + 3 + p) 5) (hA : ASt v f c) : Fn yX9_dip cX9_dip 3 (some .int) 4 [.ref 0, .int (nI p)] v L (some (.int ((nnS v f c p (-9)) (5 + 3 + p) 5 - (nnS v f c p (-9)) (5 + 3 + p) 4))) (upd2 (nnS v f c p (-9)) (5 + 3 + p) 4 ((nnS v f c p (-9)) (5 + 3 + p) 5)) L := by
  have hkp : kd (5 + 3 + p) = 2 := sh_kp s5 (by have := hC.1; omega)
  have hn4 := hC.1
  refine Fq.of (plainFor_of_name (by decide)) [some (.ref 0), some (.int (nI p)), none] rfl (Nat.le_of_ble_eq_true rfl) ?_
  first | refine g_aload0 (pc := 0) dX9_dip_0 ?_ | refine g_aloadN0 (pc := 0) dX9_dip_0 ?_
  refine g_getR (pc := 1) (j := 2) cf9 dX9_dip_1 fl_RX9_26 (by decide) (by decide) (by first | rfl | assumption) (5) (rfl) ?_
  refine g_iload1 (pc := 4) dX9_dip_4 ?_
  refine g_fV1 (pc := 5) (c_X4_find_s (S := 5) (i := p) s5 (by have := hC.1; omega) (by rw [hC.2.1]; exact nI_lt hp (by have := hC.1; omega))) cf4 (by first | rfl | assumption) dX9_dip_5 cw_RX9_111 (by decide) (Nat.le_of_ble_eq_true rfl) ?_
  first | refine g_astore2 (pc := 8) dX9_dip_8 (by decide) (by first | rfl | assumption) ?_ | refine g_astoreN2 (pc := 8) dX9_dip_8 (by decide) (by first | rfl | assumption) ?_
  first | refine g_aload2 (pc := 9) dX9_dip_9 ?_ | refine g_aloadN2 (pc := 9) dX9_dip_9 ?_
  refine g_ifnonnull (pc := 10) 15 dX9_dip_10 (by decide) ?_
  first | refine g_aload2 (pc := 15) dX9_dip_15 ?_ | refine g_aloadN2 (pc := 15) dX9_dip_15 ?_
  refine g_fV0 (pc := 16) (c_X2_isFull hkp) cf2 (by first | rfl | assumption) dX9_dip_16 cw_RX9_166 (by decide) (Nat.le_of_ble_eq_true rfl) ?_
  refine g_if_eq (pc := 19) 25 dX9_dip_19 (by decide) (fun zh19 => ?_) (fun zh19 => ?_)
  · skip
    first | refine g_aload0 (pc := 25) dX9_dip_25 ?_ | refine g_aloadN0 (pc := 25) dX9_dip_25 ?_
    refine g_getR (pc := 26) (j := 4) cf9 dX9_dip_26 fl_RX9_36 (by decide) (by decide) (by first | rfl | assumption) (38) (rfl) ?_
    first | refine g_aload0 (pc := 29) dX9_dip_29 ?_ | refine g_aloadN0 (pc := 29) dX9_dip_29 ?_
    refine g_getR (pc := 30) (j := 2) cf9 dX9_dip_30 fl_RX9_26 (by decide) (by decide) (by first | rfl | assumption) (5) (rfl) ?_
    refine g_iload1 (pc := 33) dX9_dip_33 ?_
    refine g_bipush (pc := 34) (-9) dX9_dip_34 (by decide) ?_
    refine g_vV3 (pc := 36) (c_note_s hA (by omega) (by rw [hC.2.1]; exact nI_lt hp (by omega)) (hC.2.2 p hp).2) cf1 (by first | rfl | assumption) dX9_dip_36 cw_RX9_155 (by decide) (Nat.le_of_ble_eq_true rfl) ?_
    first | refine g_aload2 (pc := 39) dX9_dip_39 ?_ | refine g_aloadN2 (pc := 39) dX9_dip_39 ?_
    refine g_fV0 (pc := 40) (c_X2_refill hkp) cf2 (by first | rfl | assumption) dX9_dip_40 cw_RX9_170 (by decide) (Nat.le_of_ble_eq_true rfl) ?_
    refine g_iret (pc := 43) dX9_dip_43 rfl ?_
    exact ⟨rfl, rfl, rfl⟩
  · skip
    exact absurd (b01_ne0.mp zh19) hf
theorem c_X9_turn_s {n p f c : Nat} {v : Mm} {L : Lm} (hC : CSt v n) (hp : p < n) (hA : ASt v f c) : Fn yX9_turn cX9_turn 3 (some .int) 4 [.ref 0, .int (nI p)] v L (some (.int (10 * ((upd2 (upd2 (nnS v f c p (-9)) (5 + 3 + p) 2 (-((nnS v f c p (-9)) (5 + 3 + p) 3))) (5 + 3 + p) 3 ((nnS v f c p (-9)) (5 + 3 + p) 2)) (5 + 3 + p) 2 + 3) + (upd2 (upd2 (nnS v f c p (-9)) (5 + 3 + p) 2 (-((nnS v f c p (-9)) (5 + 3 + p) 3))) (5 + 3 + p) 3 ((nnS v f c p (-9)) (5 + 3 + p) 2)) (5 + 3 + p) 3 + 3))) (upd2 (upd2 (nnS v f c p (-9)) (5 + 3 + p) 2 (-((nnS v f c p (-9)) (5 + 3 + p) 3))) (5 + 3 + p) 3 ((nnS v f c p (-9)) (5 + 3 + p) 2)) L := by
  have hkp : kd (5 + 3 + p) = 2 := sh_kp s5 (by have := hC.1; omega)
  have hn4 := hC.1
  refine Fq.of (plainFor_of_name (by decide)) [some (.ref 0), some (.int (nI p)), none] rfl (Nat.le_of_ble_eq_true rfl) ?_
  first | refine g_aload0 (pc := 0) dX9_turn_0 ?_ | refine g_aloadN0 (pc := 0) dX9_turn_0 ?_
  refine g_getR (pc := 1) (j := 2) cf9 dX9_turn_1 fl_RX9_26 (by decide) (by decide) (by first | rfl | assumption) (5) (rfl) ?_
  refine g_iload1 (pc := 4) dX9_turn_4 ?_
  refine g_fV1 (pc := 5) (c_X4_find_s (S := 5) (i := p) s5 (by have := hC.1; omega) (by rw [hC.2.1]; exact nI_lt hp (by have := hC.1; omega))) cf4 (by first | rfl | assumption) dX9_turn_5 cw_RX9_111 (by decide) (Nat.le_of_ble_eq_true rfl) ?_
  first | refine g_astore2 (pc := 8) dX9_turn_8 (by decide) (by first | rfl | assumption) ?_ | refine g_astoreN2 (pc := 8) dX9_turn_8 (by decide) (by first | rfl | assumption) ?_
  first | refine g_aload2 (pc := 9) dX9_turn_9 ?_ | refine g_aloadN2 (pc := 9) dX9_turn_9 ?_
  refine g_ifnonnull (pc := 10) 15 dX9_turn_10 (by decide) ?_
  first | refine g_aload0 (pc := 15) dX9_turn_15 ?_ | refine g_aloadN0 (pc := 15) dX9_turn_15 ?_
  refine g_getR (pc := 16) (j := 4) cf9 dX9_turn_16 fl_RX9_36 (by decide) (by decide) (by first | rfl | assumption) (38) (rfl) ?_
  first | refine g_aload0 (pc := 19) dX9_turn_19 ?_ | refine g_aloadN0 (pc := 19) dX9_turn_19 ?_
  refine g_getR (pc := 20) (j := 2) cf9 dX9_turn_20 fl_RX9_26 (by decide) (by decide) (by first | rfl | assumption) (5) (rfl) ?_
  refine g_iload1 (pc := 23) dX9_turn_23 ?_
  refine g_bipush (pc := 24) (-9) dX9_turn_24 (by decide) ?_
  refine g_vV3 (pc := 26) (c_note_s hA (by omega) (by rw [hC.2.1]; exact nI_lt hp (by omega)) (hC.2.2 p hp).2) cf1 (by first | rfl | assumption) dX9_turn_26 cw_RX9_155 (by decide) (Nat.le_of_ble_eq_true rfl) ?_
  first | refine g_aload2 (pc := 29) dX9_turn_29 ?_ | refine g_aloadN2 (pc := 29) dX9_turn_29 ?_
  refine g_vV0 (pc := 30) (c_X2_quarter hkp) cf2 (by first | rfl | assumption) dX9_turn_30 cw_RX9_173 (by decide) (Nat.le_of_ble_eq_true rfl) ?_
  first | refine g_aload2 (pc := 33) dX9_turn_33 ?_ | refine g_aloadN2 (pc := 33) dX9_turn_33 ?_
  refine g_fV0 (pc := 34) (c_X2_toldNib hkp) cf2 (by first | rfl | assumption) dX9_turn_34 cw_RX9_123 (by decide) (Nat.le_of_ble_eq_true rfl) ?_
  refine g_iret (pc := 37) dX9_turn_37 rfl ?_
  exact ⟨rfl, rfl, rfl⟩
theorem c_X9_blot_u {x : Int32} {v : Mm} {L : Lm} (hx : ¬ (0 ≤ x ∧ x < 25)) : Fn yX9_blot cX9_blot 2 (some .int) 4 [.ref 0, .int x] v L (some (.int (-1))) v L := by
  refine Fq.of (plainFor_of_name (by decide)) [some (.ref 0), some (.int x)] rfl (Nat.le_of_ble_eq_true rfl) ?_
  refine g_iload1 (pc := 0) dX9_blot_0 ?_
  refine g_fS1 (pc := 1) (c_X9_isDot) dX9_blot_1 cw_RX9_139 (by decide) (Nat.le_of_ble_eq_true rfl) ?_
  refine g_if_ne (pc := 4) 9 dX9_blot_4 (by decide) (fun zh4 => ?_) (fun zh4 => ?_)
  · skip
    exact absurd (b01_ne0.mp zh4) hx
  · skip
    refine g_iconst (pc := 7) (-1) dX9_blot_7 (by decide) ?_
    refine g_iret (pc := 8) dX9_blot_8 rfl ?_
    exact ⟨rfl, rfl, rfl⟩
theorem c_X9_blot_n {q : Nat} {v : Mm} {L : Lm} (hq : q < 25) (zh0 : v 7 q = 0) : Fn yX9_blot cX9_blot 2 (some .int) 4 [.ref 0, .int (nI q)] v L (some (.int (-3))) v L := by
  have zk : inkF v 5 (nI q) = v 7 q := (if_pos (of_d25 hq)).trans (by rw [nI_clamp (by omega)])
  refine Fq.of (plainFor_of_name (by decide)) [some (.ref 0), some (.int (nI q))] rfl (Nat.le_of_ble_eq_true rfl) ?_
  refine g_iload1 (pc := 0) dX9_blot_0 ?_
  refine g_fS1 (pc := 1) (c_X9_isDot) dX9_blot_1 cw_RX9_139 (by decide) (Nat.le_of_ble_eq_true rfl) ?_
  refine g_if_ne (pc := 4) 9 dX9_blot_4 (by decide) (fun zh4 => ?_) (fun zh4 => ?_)
  · skip
    first | refine g_aload0 (pc := 9) dX9_blot_9 ?_ | refine g_aloadN0 (pc := 9) dX9_blot_9 ?_
    refine g_getR (pc := 10) (j := 2) cf9 dX9_blot_10 fl_RX9_26 (by decide) (by decide) (by first | rfl | assumption) (5) (rfl) ?_
    refine g_iload1 (pc := 13) dX9_blot_13 ?_
    refine g_fV1 (pc := 14) (c_X4_inkOn s5) cf4 (by first | rfl | assumption) dX9_blot_14 cw_RX9_142 (by decide) (Nat.le_of_ble_eq_true rfl) ?_
    refine g_if_ne (pc := 17) 23 dX9_blot_17 (by decide) (fun zh17 => ?_) (fun zh17 => ?_)
    · skip
      exact absurd (zk.trans zh0) zh17
    · skip
      refine g_bipush (pc := 20) (-3) dX9_blot_20 (by decide) ?_
      refine g_iret (pc := 22) dX9_blot_22 rfl ?_
      exact ⟨rfl, rfl, rfl⟩
  · skip
    exact absurd (of_d25 hq) (b01_eq0.mp zh4)
theorem c_X9_blot_s {q f c : Nat} {v : Mm} {L : Lm} (hq : q < 25) (zh0 : ¬ v 7 q = 0) (hA : ASt v f c) : Fn yX9_blot cX9_blot 2 (some .int) 4 [.ref 0, .int (nI q)] v L (some (.int (inkF (nnN v f c (nI q)) 5 (nI q)))) (stM (nnN v f c (nI q)) 5 (nI q) 0) L := by
  have zk : inkF v 5 (nI q) = v 7 q := (if_pos (of_d25 hq)).trans (by rw [nI_clamp (by omega)])
  refine Fq.of (plainFor_of_name (by decide)) [some (.ref 0), some (.int (nI q))] rfl (Nat.le_of_ble_eq_true rfl) ?_
  refine g_iload1 (pc := 0) dX9_blot_0 ?_
  refine g_fS1 (pc := 1) (c_X9_isDot) dX9_blot_1 cw_RX9_139 (by decide) (Nat.le_of_ble_eq_true rfl) ?_
  refine g_if_ne (pc := 4) 9 dX9_blot_4 (by decide) (fun zh4 => ?_) (fun zh4 => ?_)
  · skip
    first | refine g_aload0 (pc := 9) dX9_blot_9 ?_ | refine g_aloadN0 (pc := 9) dX9_blot_9 ?_
    refine g_getR (pc := 10) (j := 2) cf9 dX9_blot_10 fl_RX9_26 (by decide) (by decide) (by first | rfl | assumption) (5) (rfl) ?_
    refine g_iload1 (pc := 13) dX9_blot_13 ?_
    refine g_fV1 (pc := 14) (c_X4_inkOn s5) cf4 (by first | rfl | assumption) dX9_blot_14 cw_RX9_142 (by decide) (Nat.le_of_ble_eq_true rfl) ?_
    refine g_if_ne (pc := 17) 23 dX9_blot_17 (by decide) (fun zh17 => ?_) (fun zh17 => ?_)
    · skip
      first | refine g_aload0 (pc := 23) dX9_blot_23 ?_ | refine g_aloadN0 (pc := 23) dX9_blot_23 ?_
      refine g_getR (pc := 24) (j := 4) cf9 dX9_blot_24 fl_RX9_36 (by decide) (by decide) (by first | rfl | assumption) (38) (rfl) ?_
      first | refine g_aload0 (pc := 27) dX9_blot_27 ?_ | refine g_aloadN0 (pc := 27) dX9_blot_27 ?_
      refine g_getR (pc := 28) (j := 2) cf9 dX9_blot_28 fl_RX9_26 (by decide) (by decide) (by first | rfl | assumption) (5) (rfl) ?_
      refine g_bipush (pc := 31) (-9) dX9_blot_31 (by decide) ?_
      refine g_iload1 (pc := 33) dX9_blot_33 ?_
      refine g_vV3 (pc := 34) (c_note_n hA) cf1 (by first | rfl | assumption) dX9_blot_34 cw_RX9_155 (by decide) (Nat.le_of_ble_eq_true rfl) ?_
      first | refine g_aload0 (pc := 37) dX9_blot_37 ?_ | refine g_aloadN0 (pc := 37) dX9_blot_37 ?_
      refine g_getR (pc := 38) (j := 2) cf9 dX9_blot_38 fl_RX9_26 (by decide) (by decide) (by first | rfl | assumption) (5) (rfl) ?_
      refine g_iload1 (pc := 41) dX9_blot_41 ?_
      refine g_fV1 (pc := 42) (c_X4_clean s5) cf4 (by first | rfl | assumption) dX9_blot_42 cw_RX9_176 (by decide) (Nat.le_of_ble_eq_true rfl) ?_
      refine g_iret (pc := 45) dX9_blot_45 rfl ?_
      exact ⟨rfl, rfl, rfl⟩
    · skip
      exact absurd (zk.symm.trans zh17) zh0
  · skip
    exact absurd (of_d25 hq) (b01_eq0.mp zh4)
theorem c_X9_undo_n  {v : Mm} {L : Lm} (zh0 : v 38 2 = 0) : Fn yX9_undo cX9_undo 1 (some .int) 4 [.ref 0] v L (some (.int (-3))) v L := by
  refine Fq.of (plainFor_of_name (by decide)) [some (.ref 0)] rfl (Nat.le_of_ble_eq_true rfl) ?_
  first | refine g_aload0 (pc := 0) dX9_undo_0 ?_ | refine g_aloadN0 (pc := 0) dX9_undo_0 ?_
  refine g_getR (pc := 1) (j := 4) cf9 dX9_undo_1 fl_RX9_36 (by decide) (by decide) (by first | rfl | assumption) (38) (rfl) ?_
  refine g_getI (pc := 4) (j := 2) cf1 dX9_undo_4 fl_RX9_179 (by decide) (by decide) (by first | rfl | assumption) ?_
  refine g_if_ne (pc := 7) 13 dX9_undo_7 (by decide) (fun zh7 => ?_) (fun zh7 => ?_)
  · skip
    exact absurd zh0 zh7
  · skip
    refine g_bipush (pc := 10) (-3) dX9_undo_10 (by decide) ?_
    refine g_iret (pc := 12) dX9_undo_12 rfl ?_
    exact ⟨rfl, rfl, rfl⟩
theorem c_X9_undo_d {f c : Nat} {v : Mm} {L : Lm} (hf : v 38 1 = nI f) (hf14 : f < 14) (hc : v 38 2 = nI (c + 1)) (hc14 : c < 14) (hpen : v (40 + (f + c) % 14) 1 = -9) : Fn yX9_undo cX9_undo 1 (some .int) 4 [.ref 0] v L (some (.int ((tbM (upd2 v 38 2 (nI c)) ((f + c) % 14) 5) 38 2))) (tbM (upd2 v 38 2 (nI c)) ((f + c) % 14) 5) L := by
  refine Fq.of (plainFor_of_name (by decide)) [some (.ref 0)] rfl (Nat.le_of_ble_eq_true rfl) ?_
  first | refine g_aload0 (pc := 0) dX9_undo_0 ?_ | refine g_aloadN0 (pc := 0) dX9_undo_0 ?_
  refine g_getR (pc := 1) (j := 4) cf9 dX9_undo_1 fl_RX9_36 (by decide) (by decide) (by first | rfl | assumption) (38) (rfl) ?_
  refine g_getI (pc := 4) (j := 2) cf1 dX9_undo_4 fl_RX9_179 (by decide) (by decide) (by first | rfl | assumption) ?_
  refine g_if_ne (pc := 7) 13 dX9_undo_7 (by decide) (fun zh7 => ?_) (fun zh7 => ?_)
  · skip
    first | refine g_aload0 (pc := 13) dX9_undo_13 ?_ | refine g_aloadN0 (pc := 13) dX9_undo_13 ?_
    refine g_getR (pc := 14) (j := 4) cf9 dX9_undo_14 fl_RX9_36 (by decide) (by decide) (by first | rfl | assumption) (38) (rfl) ?_
    first | refine g_aload0 (pc := 17) dX9_undo_17 ?_ | refine g_aloadN0 (pc := 17) dX9_undo_17 ?_
    refine g_getR (pc := 18) (j := 2) cf9 dX9_undo_18 fl_RX9_26 (by decide) (by decide) (by first | rfl | assumption) (5) (rfl) ?_
    refine g_vV1 (pc := 21) (c_X1_takeBackLast_n s5 hf hf14 hc hc14 hpen) cf1 (by first | rfl | assumption) dX9_undo_21 cw_RX9_182 (by decide) (Nat.le_of_ble_eq_true rfl) ?_
    first | refine g_aload0 (pc := 24) dX9_undo_24 ?_ | refine g_aloadN0 (pc := 24) dX9_undo_24 ?_
    refine g_getR (pc := 25) (j := 4) cf9 dX9_undo_25 fl_RX9_36 (by decide) (by decide) (by first | rfl | assumption) (38) (rfl) ?_
    refine g_getI (pc := 28) (j := 2) cf1 dX9_undo_28 fl_RX9_179 (by decide) (by decide) (by first | rfl | assumption) ?_
    refine g_iret (pc := 31) dX9_undo_31 rfl ?_
    exact ⟨rfl, rfl, rfl⟩
  · skip
    exact absurd (hc.symm.trans zh7) (nI_ne0 (by omega) (by omega))
theorem c_X9_undo_s {f c p : Nat} {v : Mm} {L : Lm} (hf : v 38 1 = nI f) (hf14 : f < 14) (hc : v 38 2 = nI (c + 1)) (hc14 : c < 14) (hpen : v (40 + (f + c) % 14) 1 = nI p) (hp : p < 4) (hcp : nI p < v 5 2) (hb6 : v (54 + (f + c) % 14) 6 = 0 ∨ v (54 + (f + c) % 14) 6 = 1) : Fn yX9_undo cX9_undo 1 (some .int) 4 [.ref 0] v L (some (.int ((pcM (tbM (upd2 v 38 2 (nI c)) ((f + c) % 14) 5) (5 + 3 + p) (54 + (f + c) % 14)) 38 2))) (pcM (tbM (upd2 v 38 2 (nI c)) ((f + c) % 14) 5) (5 + 3 + p) (54 + (f + c) % 14)) L := by
  refine Fq.of (plainFor_of_name (by decide)) [some (.ref 0)] rfl (Nat.le_of_ble_eq_true rfl) ?_
  first | refine g_aload0 (pc := 0) dX9_undo_0 ?_ | refine g_aloadN0 (pc := 0) dX9_undo_0 ?_
  refine g_getR (pc := 1) (j := 4) cf9 dX9_undo_1 fl_RX9_36 (by decide) (by decide) (by first | rfl | assumption) (38) (rfl) ?_
  refine g_getI (pc := 4) (j := 2) cf1 dX9_undo_4 fl_RX9_179 (by decide) (by decide) (by first | rfl | assumption) ?_
  refine g_if_ne (pc := 7) 13 dX9_undo_7 (by decide) (fun zh7 => ?_) (fun zh7 => ?_)
  · skip
    first | refine g_aload0 (pc := 13) dX9_undo_13 ?_ | refine g_aloadN0 (pc := 13) dX9_undo_13 ?_
    refine g_getR (pc := 14) (j := 4) cf9 dX9_undo_14 fl_RX9_36 (by decide) (by decide) (by first | rfl | assumption) (38) (rfl) ?_
    first | refine g_aload0 (pc := 17) dX9_undo_17 ?_ | refine g_aloadN0 (pc := 17) dX9_undo_17 ?_
    refine g_getR (pc := 18) (j := 2) cf9 dX9_undo_18 fl_RX9_26 (by decide) (by decide) (by first | rfl | assumption) (5) (rfl) ?_
    refine g_vV1 (pc := 21) (c_X1_takeBackLast_s s5 hf hf14 hc hc14 hpen hp hcp hb6) cf1 (by first | rfl | assumption) dX9_undo_21 cw_RX9_182 (by decide) (Nat.le_of_ble_eq_true rfl) ?_
    first | refine g_aload0 (pc := 24) dX9_undo_24 ?_ | refine g_aloadN0 (pc := 24) dX9_undo_24 ?_
    refine g_getR (pc := 25) (j := 4) cf9 dX9_undo_25 fl_RX9_36 (by decide) (by decide) (by first | rfl | assumption) (38) (rfl) ?_
    refine g_getI (pc := 28) (j := 2) cf1 dX9_undo_28 fl_RX9_179 (by decide) (by decide) (by first | rfl | assumption) ?_
    refine g_iret (pc := 31) dX9_undo_31 rfl ?_
    exact ⟨rfl, rfl, rfl⟩
  · skip
    exact absurd (hc.symm.trans zh7) (nI_ne0 (by omega) (by omega))
theorem c_X9_tried_s {n p : Nat} {v : Mm} {L : Lm} (hC : CSt v n) (hp : p < n) : Fn yX9_tried cX9_tried 2 (some (.object "BroadNib$Pen")) 2 [.ref 0, .int (nI p)] v L (some (.ref (12 + 3 + p))) (trM v n) L := by
  refine Fq.of (plainFor_of_name (by decide)) [some (.ref 0), some (.int (nI p))] rfl (Nat.le_of_ble_eq_true rfl) ?_
  first | refine g_aload0 (pc := 0) dX9_tried_0 ?_ | refine g_aloadN0 (pc := 0) dX9_tried_0 ?_
  refine g_getR (pc := 1) (j := 3) cf9 dX9_tried_1 fl_RX9_30 (by decide) (by decide) (by first | rfl | assumption) (12) (rfl) ?_
  first | refine g_aload0 (pc := 4) dX9_tried_4 ?_ | refine g_aloadN0 (pc := 4) dX9_tried_4 ?_
  refine g_getR (pc := 5) (j := 2) cf9 dX9_tried_5 fl_RX9_26 (by decide) (by decide) (by first | rfl | assumption) (5) (rfl) ?_
  refine g_vV1 (pc := 8) (c_X4_copy s12 s5 (by decide) hC.1 hC.2.1 (fun zp zh => (hC.2.2 zp zh).2)) cf4 (by first | rfl | assumption) dX9_tried_8 cw_RX9_215 (by decide) (Nat.le_of_ble_eq_true rfl) ?_
  first | refine g_aload0 (pc := 11) dX9_tried_11 ?_ | refine g_aloadN0 (pc := 11) dX9_tried_11 ?_
  refine g_getR (pc := 12) (j := 3) cf9 dX9_tried_12 fl_RX9_30 (by decide) (by decide) (by first | rfl | assumption) (12) (rfl) ?_
  refine g_iload1 (pc := 15) dX9_tried_15 ?_
  refine g_fV1 (pc := 16) (c_X4_find_s s12 (by have := hC.1; omega) (by show _ < trM v n 12 2; rw [trM_2 hC.1, hC.2.1]; exact nI_lt hp (by have := hC.1; omega))) cf4 (by first | rfl | assumption) dX9_tried_16 cw_RX9_111 (by decide) (Nat.le_of_ble_eq_true rfl) ?_
  first | refine g_aret (pc := 19) dX9_tried_19 rfl ?_ | refine g_aretN (pc := 19) dX9_tried_19 rfl ?_
  exact ⟨rfl, rfl, rfl⟩
theorem c_X9_tried_u {n : Nat} {x : Int32} {v : Mm} {L : Lm} (hC : CSt v n) (hx : ¬ (0 ≤ x ∧ x < nI n)) : Fn yX9_tried cX9_tried 2 (some (.object "BroadNib$Pen")) 2 [.ref 0, .int x] v L (some .null) (trM v n) L := by
  refine Fq.of (plainFor_of_name (by decide)) [some (.ref 0), some (.int x)] rfl (Nat.le_of_ble_eq_true rfl) ?_
  first | refine g_aload0 (pc := 0) dX9_tried_0 ?_ | refine g_aloadN0 (pc := 0) dX9_tried_0 ?_
  refine g_getR (pc := 1) (j := 3) cf9 dX9_tried_1 fl_RX9_30 (by decide) (by decide) (by first | rfl | assumption) (12) (rfl) ?_
  first | refine g_aload0 (pc := 4) dX9_tried_4 ?_ | refine g_aloadN0 (pc := 4) dX9_tried_4 ?_
  refine g_getR (pc := 5) (j := 2) cf9 dX9_tried_5 fl_RX9_26 (by decide) (by decide) (by first | rfl | assumption) (5) (rfl) ?_
  refine g_vV1 (pc := 8) (c_X4_copy s12 s5 (by decide) hC.1 hC.2.1 (fun zp zh => (hC.2.2 zp zh).2)) cf4 (by first | rfl | assumption) dX9_tried_8 cw_RX9_215 (by decide) (Nat.le_of_ble_eq_true rfl) ?_
  first | refine g_aload0 (pc := 11) dX9_tried_11 ?_ | refine g_aloadN0 (pc := 11) dX9_tried_11 ?_
  refine g_getR (pc := 12) (j := 3) cf9 dX9_tried_12 fl_RX9_30 (by decide) (by decide) (by first | rfl | assumption) (12) (rfl) ?_
  refine g_iload1 (pc := 15) dX9_tried_15 ?_
  refine g_fV1 (pc := 16) (c_X4_find_n s12 (fun zq => hx ⟨zq.1, by rw [← hC.2.1, ← trM_2 (v := v) hC.1]; exact zq.2.1⟩)) cf4 (by first | rfl | assumption) dX9_tried_16 cw_RX9_111 (by decide) (Nat.le_of_ble_eq_true rfl) ?_
  first | refine g_aret (pc := 19) dX9_tried_19 rfl ?_ | refine g_aretN (pc := 19) dX9_tried_19 rfl ?_
  exact ⟨rfl, rfl, rfl⟩
theorem c_X9_placeOfStop {n p w : Nat} {v : Mm} {L : Lm} (hC : CSt v n) (hp : p < n) (hW : WSt v w) : Fn yX9_placeOfStop cX9_placeOfStop 4 (some .int) 5 [.ref 0, .int (nI p)] v L (some (.int (if (folF 12 (12 + 3 + p) w 0 (trM v n)).1 < nI w then (folF 12 (12 + 3 + p) w 0 (trM v n)).1 else -9))) (folF 12 (12 + 3 + p) w 0 (trM v n)).2 L := by
  have hkp : kd (12 + 3 + p) = 2 := sh_kp s12 (by have := hC.1; omega)
  have hn4 := hC.1
  have zw8 := hW.2
  have z3 : (folF 12 (12 + 3 + p) w 0 (trM v n)).2 3 1 = nI w := by rw [folF_away (by decide) (by omega) (by decide)]; rw [trM_away hn4 (by decide)]; exact hW.1
  refine Fq.of (plainFor_of_name (by decide)) [some (.ref 0), some (.int (nI p)), none, none] rfl (Nat.le_of_ble_eq_true rfl) ?_
  first | refine g_aload0 (pc := 0) dX9_placeOfStop_0 ?_ | refine g_aloadN0 (pc := 0) dX9_placeOfStop_0 ?_
  refine g_iload1 (pc := 1) dX9_placeOfStop_1 ?_
  refine g_fV1 (pc := 2) (c_X9_tried_s hC hp) cf9 (by first | rfl | assumption) dX9_placeOfStop_2 cw_RX9_185 (by decide) (Nat.le_of_ble_eq_true rfl) ?_
  first | refine g_astore2 (pc := 5) dX9_placeOfStop_5 (by decide) (by first | rfl | assumption) ?_ | refine g_astoreN2 (pc := 5) dX9_placeOfStop_5 (by decide) (by first | rfl | assumption) ?_
  first | refine g_aload2 (pc := 6) dX9_placeOfStop_6 ?_ | refine g_aloadN2 (pc := 6) dX9_placeOfStop_6 ?_
  refine g_ifnonnull (pc := 7) 13 dX9_placeOfStop_7 (by decide) ?_
  first | refine g_aload0 (pc := 13) dX9_placeOfStop_13 ?_ | refine g_aloadN0 (pc := 13) dX9_placeOfStop_13 ?_
  refine g_getR (pc := 14) (j := 3) cf9 dX9_placeOfStop_14 fl_RX9_30 (by decide) (by decide) (by first | rfl | assumption) (12) (rfl) ?_
  first | refine g_aload2 (pc := 17) dX9_placeOfStop_17 ?_ | refine g_aloadN2 (pc := 17) dX9_placeOfStop_17 ?_
  first | refine g_aload0 (pc := 18) dX9_placeOfStop_18 ?_ | refine g_aloadN0 (pc := 18) dX9_placeOfStop_18 ?_
  refine g_getR (pc := 19) (j := 1) cf9 dX9_placeOfStop_19 fl_RX9_19 (by decide) (by decide) (by first | rfl | assumption) (3) (rfl) ?_
  first | refine g_aload0 (pc := 22) dX9_placeOfStop_22 ?_ | refine g_aloadN0 (pc := 22) dX9_placeOfStop_22 ?_
  refine g_getR (pc := 23) (j := 1) cf9 dX9_placeOfStop_23 fl_RX9_19 (by decide) (by decide) (by first | rfl | assumption) (3) (rfl) ?_
  refine g_getI (pc := 26) (j := 1) cf8 dX9_placeOfStop_26 fl_RX9_106 (by decide) (by decide) (by first | rfl | assumption) ?_
  rw [trM_away hn4 (by decide), hW.1]
  refine g_fV3 (pc := 29) (c_X4_follow (S := 12) (q := w) (w := w) s12 hkp (by omega) (by rw [trM_away hn4 (by decide)]; exact hW.1) hW.2 (trM_ok hC hp)) cf4 (by first | rfl | assumption) dX9_placeOfStop_29 cw_RX9_188 (by decide) (Nat.le_of_ble_eq_true rfl) ?_
  rw [Nat.min_self]
  refine g_istore3 (pc := 32) dX9_placeOfStop_32 (by decide) (by first | rfl | assumption) ?_
  refine g_iload3 (pc := 33) dX9_placeOfStop_33 ?_
  first | refine g_aload0 (pc := 34) dX9_placeOfStop_34 ?_ | refine g_aloadN0 (pc := 34) dX9_placeOfStop_34 ?_
  refine g_getR (pc := 35) (j := 1) cf9 dX9_placeOfStop_35 fl_RX9_19 (by decide) (by decide) (by first | rfl | assumption) (3) (rfl) ?_
  refine g_getI (pc := 38) (j := 1) cf8 dX9_placeOfStop_38 fl_RX9_106 (by decide) (by decide) (by first | rfl | assumption) ?_
  rw [z3]
  refine g_icmp_ge (pc := 41) 48 dX9_placeOfStop_41 (by decide) (fun zh41 => ?_) (fun zh41 => ?_)
  · skip
    refine g_bipush (pc := 48) (-9) dX9_placeOfStop_48 (by decide) ?_
    refine g_iret (pc := 50) dX9_placeOfStop_50 rfl ?_
    first | (rw [if_pos (i32nle.mp zh41)]; exact ⟨rfl, rfl, rfl⟩) | (rw [if_neg (i32nlt.mpr zh41)]; exact ⟨rfl, rfl, rfl⟩)
  · skip
    refine g_iload3 (pc := 44) dX9_placeOfStop_44 ?_
    refine g_goto (pc := 45) 50 dX9_placeOfStop_45 (by decide) ?_
    refine g_iret (pc := 50) dX9_placeOfStop_50 rfl ?_
    first | (rw [if_pos (i32nle.mp zh41)]; exact ⟨rfl, rfl, rfl⟩) | (rw [if_neg (i32nlt.mpr zh41)]; exact ⟨rfl, rfl, rfl⟩)
