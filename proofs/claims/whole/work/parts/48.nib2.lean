theorem c_X9_pen_0 {n p : Nat} {v : Mm} {L : Lm} (hC : CSt v n) (hp : p < n) : Fn yX9_pen cX9_pen 4 (some .int) 6 [.ref 0, .int (nI p), .int 0] v L (some (.int (v (5 + 3 + p) 0))) v L := by
  have hkp : kd (5 + 3 + p) = 2 := sh_kp s5 (by have := hC.1; omega)
  have hn4 := hC.1
  refine Fq.of (plainFor_of_name (by decide)) [some (.ref 0), some (.int (nI p)), some (.int 0), none] rfl (Nat.le_of_ble_eq_true rfl) ?_
  first | refine g_aload0 (pc := 0) dX9_pen_0 ?_ | refine g_aloadN0 (pc := 0) dX9_pen_0 ?_
  refine g_getR (pc := 1) (j := 2) cf9 dX9_pen_1 fl_RX9_26 (by decide) (by decide) (by first | rfl | assumption) (5) (rfl) ?_
  refine g_iload1 (pc := 4) dX9_pen_4 ?_
  refine g_fV1 (pc := 5) (c_X4_find_s (S := 5) (i := p) s5 (by have := hC.1; omega) (by rw [hC.2.1]; exact nI_lt hp (by have := hC.1; omega))) cf4 (by first | rfl | assumption) dX9_pen_5 cw_RX9_111 (by decide) (Nat.le_of_ble_eq_true rfl) ?_
  first | refine g_astore3 (pc := 8) dX9_pen_8 (by decide) (by first | rfl | assumption) ?_ | refine g_astoreN3 (pc := 8) dX9_pen_8 (by decide) (by first | rfl | assumption) ?_
  first | refine g_aload3 (pc := 9) dX9_pen_9 ?_ | refine g_aloadN3 (pc := 9) dX9_pen_9 ?_
  refine g_ifnonnull (pc := 10) 15 dX9_pen_10 (by decide) ?_
  refine g_iload2 (pc := 15) dX9_pen_15 ?_
  refine g_tableIn (pc := 16) (off := 44) 60 dX9_pen_16 (by decide) (by decide) (by rfl) (by decide) ?_
  first | refine g_aload3 (pc := 60) dX9_pen_60 ?_ | refine g_aloadN3 (pc := 60) dX9_pen_60 ?_
  refine g_getI (pc := 61) (j := 0) cf2 dX9_pen_61 fl_RX9_115 (by decide) (by decide) (by first | rfl | assumption) ?_
  refine g_iret (pc := 64) dX9_pen_64 rfl ?_
  exact ⟨rfl, rfl, rfl⟩
theorem c_X9_pen_1 {n p : Nat} {v : Mm} {L : Lm} (hC : CSt v n) (hp : p < n) : Fn yX9_pen cX9_pen 4 (some .int) 6 [.ref 0, .int (nI p), .int 1] v L (some (.int (v (5 + 3 + p) 1))) v L := by
  have hkp : kd (5 + 3 + p) = 2 := sh_kp s5 (by have := hC.1; omega)
  have hn4 := hC.1
  refine Fq.of (plainFor_of_name (by decide)) [some (.ref 0), some (.int (nI p)), some (.int 1), none] rfl (Nat.le_of_ble_eq_true rfl) ?_
  first | refine g_aload0 (pc := 0) dX9_pen_0 ?_ | refine g_aloadN0 (pc := 0) dX9_pen_0 ?_
  refine g_getR (pc := 1) (j := 2) cf9 dX9_pen_1 fl_RX9_26 (by decide) (by decide) (by first | rfl | assumption) (5) (rfl) ?_
  refine g_iload1 (pc := 4) dX9_pen_4 ?_
  refine g_fV1 (pc := 5) (c_X4_find_s (S := 5) (i := p) s5 (by have := hC.1; omega) (by rw [hC.2.1]; exact nI_lt hp (by have := hC.1; omega))) cf4 (by first | rfl | assumption) dX9_pen_5 cw_RX9_111 (by decide) (Nat.le_of_ble_eq_true rfl) ?_
  first | refine g_astore3 (pc := 8) dX9_pen_8 (by decide) (by first | rfl | assumption) ?_ | refine g_astoreN3 (pc := 8) dX9_pen_8 (by decide) (by first | rfl | assumption) ?_
  first | refine g_aload3 (pc := 9) dX9_pen_9 ?_ | refine g_aloadN3 (pc := 9) dX9_pen_9 ?_
  refine g_ifnonnull (pc := 10) 15 dX9_pen_10 (by decide) ?_
  refine g_iload2 (pc := 15) dX9_pen_15 ?_
  refine g_tableIn (pc := 16) (off := 49) 65 dX9_pen_16 (by decide) (by decide) (by rfl) (by decide) ?_
  first | refine g_aload3 (pc := 65) dX9_pen_65 ?_ | refine g_aloadN3 (pc := 65) dX9_pen_65 ?_
  refine g_getI (pc := 66) (j := 1) cf2 dX9_pen_66 fl_RX9_120 (by decide) (by decide) (by first | rfl | assumption) ?_
  refine g_iret (pc := 69) dX9_pen_69 rfl ?_
  exact ⟨rfl, rfl, rfl⟩
theorem c_X9_pen_2 {n p : Nat} {v : Mm} {L : Lm} (hC : CSt v n) (hp : p < n) : Fn yX9_pen cX9_pen 4 (some .int) 6 [.ref 0, .int (nI p), .int 2] v L (some (.int (10 * (v (5 + 3 + p) 2 + 3) + v (5 + 3 + p) 3 + 3))) v L := by
  have hkp : kd (5 + 3 + p) = 2 := sh_kp s5 (by have := hC.1; omega)
  have hn4 := hC.1
  refine Fq.of (plainFor_of_name (by decide)) [some (.ref 0), some (.int (nI p)), some (.int 2), none] rfl (Nat.le_of_ble_eq_true rfl) ?_
  first | refine g_aload0 (pc := 0) dX9_pen_0 ?_ | refine g_aloadN0 (pc := 0) dX9_pen_0 ?_
  refine g_getR (pc := 1) (j := 2) cf9 dX9_pen_1 fl_RX9_26 (by decide) (by decide) (by first | rfl | assumption) (5) (rfl) ?_
  refine g_iload1 (pc := 4) dX9_pen_4 ?_
  refine g_fV1 (pc := 5) (c_X4_find_s (S := 5) (i := p) s5 (by have := hC.1; omega) (by rw [hC.2.1]; exact nI_lt hp (by have := hC.1; omega))) cf4 (by first | rfl | assumption) dX9_pen_5 cw_RX9_111 (by decide) (Nat.le_of_ble_eq_true rfl) ?_
  first | refine g_astore3 (pc := 8) dX9_pen_8 (by decide) (by first | rfl | assumption) ?_ | refine g_astoreN3 (pc := 8) dX9_pen_8 (by decide) (by first | rfl | assumption) ?_
  first | refine g_aload3 (pc := 9) dX9_pen_9 ?_ | refine g_aloadN3 (pc := 9) dX9_pen_9 ?_
  refine g_ifnonnull (pc := 10) 15 dX9_pen_10 (by decide) ?_
  refine g_iload2 (pc := 15) dX9_pen_15 ?_
  refine g_tableIn (pc := 16) (off := 54) 70 dX9_pen_16 (by decide) (by decide) (by rfl) (by decide) ?_
  first | refine g_aload3 (pc := 70) dX9_pen_70 ?_ | refine g_aloadN3 (pc := 70) dX9_pen_70 ?_
  refine g_fV0 (pc := 71) (c_X2_toldNib hkp) cf2 (by first | rfl | assumption) dX9_pen_71 cw_RX9_123 (by decide) (Nat.le_of_ble_eq_true rfl) ?_
  refine g_iret (pc := 74) dX9_pen_74 rfl ?_
  exact ⟨rfl, rfl, rfl⟩
theorem c_X9_pen_3 {n p : Nat} {v : Mm} {L : Lm} (hC : CSt v n) (hp : p < n) : Fn yX9_pen cX9_pen 4 (some .int) 6 [.ref 0, .int (nI p), .int 3] v L (some (.int (v (5 + 3 + p) 4))) v L := by
  have hkp : kd (5 + 3 + p) = 2 := sh_kp s5 (by have := hC.1; omega)
  have hn4 := hC.1
  refine Fq.of (plainFor_of_name (by decide)) [some (.ref 0), some (.int (nI p)), some (.int 3), none] rfl (Nat.le_of_ble_eq_true rfl) ?_
  first | refine g_aload0 (pc := 0) dX9_pen_0 ?_ | refine g_aloadN0 (pc := 0) dX9_pen_0 ?_
  refine g_getR (pc := 1) (j := 2) cf9 dX9_pen_1 fl_RX9_26 (by decide) (by decide) (by first | rfl | assumption) (5) (rfl) ?_
  refine g_iload1 (pc := 4) dX9_pen_4 ?_
  refine g_fV1 (pc := 5) (c_X4_find_s (S := 5) (i := p) s5 (by have := hC.1; omega) (by rw [hC.2.1]; exact nI_lt hp (by have := hC.1; omega))) cf4 (by first | rfl | assumption) dX9_pen_5 cw_RX9_111 (by decide) (Nat.le_of_ble_eq_true rfl) ?_
  first | refine g_astore3 (pc := 8) dX9_pen_8 (by decide) (by first | rfl | assumption) ?_ | refine g_astoreN3 (pc := 8) dX9_pen_8 (by decide) (by first | rfl | assumption) ?_
  first | refine g_aload3 (pc := 9) dX9_pen_9 ?_ | refine g_aloadN3 (pc := 9) dX9_pen_9 ?_
  refine g_ifnonnull (pc := 10) 15 dX9_pen_10 (by decide) ?_
  refine g_iload2 (pc := 15) dX9_pen_15 ?_
  refine g_tableIn (pc := 16) (off := 59) 75 dX9_pen_16 (by decide) (by decide) (by rfl) (by decide) ?_
  first | refine g_aload3 (pc := 75) dX9_pen_75 ?_ | refine g_aloadN3 (pc := 75) dX9_pen_75 ?_
  refine g_getI (pc := 76) (j := 4) cf2 dX9_pen_76 fl_RX9_126 (by decide) (by decide) (by first | rfl | assumption) ?_
  refine g_iret (pc := 79) dX9_pen_79 rfl ?_
  exact ⟨rfl, rfl, rfl⟩
theorem c_X9_pen_4 {n p : Nat} {v : Mm} {L : Lm} (hC : CSt v n) (hp : p < n) : Fn yX9_pen cX9_pen 4 (some .int) 6 [.ref 0, .int (nI p), .int 4] v L (some (.int (v (5 + 3 + p) 5))) v L := by
  have hkp : kd (5 + 3 + p) = 2 := sh_kp s5 (by have := hC.1; omega)
  have hn4 := hC.1
  refine Fq.of (plainFor_of_name (by decide)) [some (.ref 0), some (.int (nI p)), some (.int 4), none] rfl (Nat.le_of_ble_eq_true rfl) ?_
  first | refine g_aload0 (pc := 0) dX9_pen_0 ?_ | refine g_aloadN0 (pc := 0) dX9_pen_0 ?_
  refine g_getR (pc := 1) (j := 2) cf9 dX9_pen_1 fl_RX9_26 (by decide) (by decide) (by first | rfl | assumption) (5) (rfl) ?_
  refine g_iload1 (pc := 4) dX9_pen_4 ?_
  refine g_fV1 (pc := 5) (c_X4_find_s (S := 5) (i := p) s5 (by have := hC.1; omega) (by rw [hC.2.1]; exact nI_lt hp (by have := hC.1; omega))) cf4 (by first | rfl | assumption) dX9_pen_5 cw_RX9_111 (by decide) (Nat.le_of_ble_eq_true rfl) ?_
  first | refine g_astore3 (pc := 8) dX9_pen_8 (by decide) (by first | rfl | assumption) ?_ | refine g_astoreN3 (pc := 8) dX9_pen_8 (by decide) (by first | rfl | assumption) ?_
  first | refine g_aload3 (pc := 9) dX9_pen_9 ?_ | refine g_aloadN3 (pc := 9) dX9_pen_9 ?_
  refine g_ifnonnull (pc := 10) 15 dX9_pen_10 (by decide) ?_
  refine g_iload2 (pc := 15) dX9_pen_15 ?_
  refine g_tableIn (pc := 16) (off := 64) 80 dX9_pen_16 (by decide) (by decide) (by rfl) (by decide) ?_
  first | refine g_aload3 (pc := 80) dX9_pen_80 ?_ | refine g_aloadN3 (pc := 80) dX9_pen_80 ?_
  refine g_getI (pc := 81) (j := 5) cf2 dX9_pen_81 fl_RX9_129 (by decide) (by decide) (by first | rfl | assumption) ?_
  refine g_iret (pc := 84) dX9_pen_84 rfl ?_
  exact ⟨rfl, rfl, rfl⟩
theorem c_X9_pen_5 {n p : Nat} {v : Mm} {L : Lm} (hC : CSt v n) (hp : p < n) : Fn yX9_pen cX9_pen 4 (some .int) 6 [.ref 0, .int (nI p), .int 5] v L (some (.int (v (5 + 3 + p) 6))) v L := by
  have hkp : kd (5 + 3 + p) = 2 := sh_kp s5 (by have := hC.1; omega)
  have hn4 := hC.1
  refine Fq.of (plainFor_of_name (by decide)) [some (.ref 0), some (.int (nI p)), some (.int 5), none] rfl (Nat.le_of_ble_eq_true rfl) ?_
  first | refine g_aload0 (pc := 0) dX9_pen_0 ?_ | refine g_aloadN0 (pc := 0) dX9_pen_0 ?_
  refine g_getR (pc := 1) (j := 2) cf9 dX9_pen_1 fl_RX9_26 (by decide) (by decide) (by first | rfl | assumption) (5) (rfl) ?_
  refine g_iload1 (pc := 4) dX9_pen_4 ?_
  refine g_fV1 (pc := 5) (c_X4_find_s (S := 5) (i := p) s5 (by have := hC.1; omega) (by rw [hC.2.1]; exact nI_lt hp (by have := hC.1; omega))) cf4 (by first | rfl | assumption) dX9_pen_5 cw_RX9_111 (by decide) (Nat.le_of_ble_eq_true rfl) ?_
  first | refine g_astore3 (pc := 8) dX9_pen_8 (by decide) (by first | rfl | assumption) ?_ | refine g_astoreN3 (pc := 8) dX9_pen_8 (by decide) (by first | rfl | assumption) ?_
  first | refine g_aload3 (pc := 9) dX9_pen_9 ?_ | refine g_aloadN3 (pc := 9) dX9_pen_9 ?_
  refine g_ifnonnull (pc := 10) 15 dX9_pen_10 (by decide) ?_
  refine g_iload2 (pc := 15) dX9_pen_15 ?_
  refine g_tableIn (pc := 16) (off := 69) 85 dX9_pen_16 (by decide) (by decide) (by rfl) (by decide) ?_
  first | refine g_aload3 (pc := 85) dX9_pen_85 ?_ | refine g_aloadN3 (pc := 85) dX9_pen_85 ?_
  refine g_getI (pc := 86) (j := 6) cf2 dX9_pen_86 fl_RX9_132 (by decide) (by decide) (by first | rfl | assumption) ?_
  refine g_if_eq (pc := 89) 96 dX9_pen_89 (by decide) (fun zh89 => ?_) (fun zh89 => ?_)
  · skip
    refine g_iconst (pc := 96) (0) dX9_pen_96 (by decide) ?_
    refine g_iret (pc := 97) dX9_pen_97 rfl ?_
    first | exact ⟨by rw [zh89], rfl, rfl⟩ | exact ⟨by rw [show v (5 + 3 + p) 6 = 1 from (hC.2.2 p hp).2.resolve_left zh89], rfl, rfl⟩
  · skip
    refine g_iconst (pc := 92) (1) dX9_pen_92 (by decide) ?_
    refine g_goto (pc := 93) 97 dX9_pen_93 (by decide) ?_
    refine g_iret (pc := 97) dX9_pen_97 rfl ?_
    first | exact ⟨by rw [zh89], rfl, rfl⟩ | exact ⟨by rw [show v (5 + 3 + p) 6 = 1 from (hC.2.2 p hp).2.resolve_left zh89], rfl, rfl⟩
theorem c_X9_pen_6 {n p w : Nat} {v : Mm} {L : Lm} (hC : CSt v n) (hp : p < n) (hW : WSt v w) : Fn yX9_pen cX9_pen 4 (some .int) 6 [.ref 0, .int (nI p), .int 6] v L (some (.int (if (folF 12 (12 + 3 + p) w 0 (trM v n)).1 < nI w then (folF 12 (12 + 3 + p) w 0 (trM v n)).1 else -9))) (folF 12 (12 + 3 + p) w 0 (trM v n)).2 L := by
  have hkp : kd (5 + 3 + p) = 2 := sh_kp s5 (by have := hC.1; omega)
  have hn4 := hC.1
  refine Fq.of (plainFor_of_name (by decide)) [some (.ref 0), some (.int (nI p)), some (.int 6), none] rfl (Nat.le_of_ble_eq_true rfl) ?_
  first | refine g_aload0 (pc := 0) dX9_pen_0 ?_ | refine g_aloadN0 (pc := 0) dX9_pen_0 ?_
  refine g_getR (pc := 1) (j := 2) cf9 dX9_pen_1 fl_RX9_26 (by decide) (by decide) (by first | rfl | assumption) (5) (rfl) ?_
  refine g_iload1 (pc := 4) dX9_pen_4 ?_
  refine g_fV1 (pc := 5) (c_X4_find_s (S := 5) (i := p) s5 (by have := hC.1; omega) (by rw [hC.2.1]; exact nI_lt hp (by have := hC.1; omega))) cf4 (by first | rfl | assumption) dX9_pen_5 cw_RX9_111 (by decide) (Nat.le_of_ble_eq_true rfl) ?_
  first | refine g_astore3 (pc := 8) dX9_pen_8 (by decide) (by first | rfl | assumption) ?_ | refine g_astoreN3 (pc := 8) dX9_pen_8 (by decide) (by first | rfl | assumption) ?_
  first | refine g_aload3 (pc := 9) dX9_pen_9 ?_ | refine g_aloadN3 (pc := 9) dX9_pen_9 ?_
  refine g_ifnonnull (pc := 10) 15 dX9_pen_10 (by decide) ?_
  refine g_iload2 (pc := 15) dX9_pen_15 ?_
  refine g_tableIn (pc := 16) (off := 82) 98 dX9_pen_16 (by decide) (by decide) (by rfl) (by decide) ?_
  first | refine g_aload0 (pc := 98) dX9_pen_98 ?_ | refine g_aloadN0 (pc := 98) dX9_pen_98 ?_
  refine g_iload1 (pc := 99) dX9_pen_99 ?_
  refine g_fV1 (pc := 100) (c_X9_placeOfStop hC hp hW) cf9 (by first | rfl | assumption) dX9_pen_100 cw_RX9_135 (by decide) (Nat.le_of_ble_eq_true rfl) ?_
  refine g_iret (pc := 103) dX9_pen_103 rfl ?_
  exact ⟨rfl, rfl, rfl⟩
theorem c_X9_pen_o {n p : Nat} {y : Int32} {v : Mm} {L : Lm} (hC : CSt v n) (hp : p < n) (hy : y.toInt < 0 ∨ 6 < y.toInt) : Fn yX9_pen cX9_pen 4 (some .int) 6 [.ref 0, .int (nI p), .int y] v L (some (.int (-2))) v L := by
  have hkp : kd (5 + 3 + p) = 2 := sh_kp s5 (by have := hC.1; omega)
  have hn4 := hC.1
  refine Fq.of (plainFor_of_name (by decide)) [some (.ref 0), some (.int (nI p)), some (.int y), none] rfl (Nat.le_of_ble_eq_true rfl) ?_
  first | refine g_aload0 (pc := 0) dX9_pen_0 ?_ | refine g_aloadN0 (pc := 0) dX9_pen_0 ?_
  refine g_getR (pc := 1) (j := 2) cf9 dX9_pen_1 fl_RX9_26 (by decide) (by decide) (by first | rfl | assumption) (5) (rfl) ?_
  refine g_iload1 (pc := 4) dX9_pen_4 ?_
  refine g_fV1 (pc := 5) (c_X4_find_s (S := 5) (i := p) s5 (by have := hC.1; omega) (by rw [hC.2.1]; exact nI_lt hp (by have := hC.1; omega))) cf4 (by first | rfl | assumption) dX9_pen_5 cw_RX9_111 (by decide) (Nat.le_of_ble_eq_true rfl) ?_
  first | refine g_astore3 (pc := 8) dX9_pen_8 (by decide) (by first | rfl | assumption) ?_ | refine g_astoreN3 (pc := 8) dX9_pen_8 (by decide) (by first | rfl | assumption) ?_
  first | refine g_aload3 (pc := 9) dX9_pen_9 ?_ | refine g_aloadN3 (pc := 9) dX9_pen_9 ?_
  refine g_ifnonnull (pc := 10) 15 dX9_pen_10 (by decide) ?_
  refine g_iload2 (pc := 15) dX9_pen_15 ?_
  refine g_tableOut (pc := 16) 104 dX9_pen_16 hy (by decide) ?_
  refine g_bipush (pc := 104) (-2) dX9_pen_104 (by decide) ?_
  refine g_iret (pc := 106) dX9_pen_106 rfl ?_
  exact ⟨rfl, rfl, rfl⟩
theorem c_X9_behind_u {n : Nat} {x y z : Int32} {v : Mm} {L : Lm} (hC : CSt v n) (hx : ¬ (0 ≤ x ∧ x < nI n)) : Fn yX9_behind cX9_behind 6 (some .int) 5 [.ref 0, .int x, .int y, .int z] v L (some (.int (-1))) (trM v n) L := by
  refine Fq.of (plainFor_of_name (by decide)) [some (.ref 0), some (.int x), some (.int y), some (.int z), none, none] rfl (Nat.le_of_ble_eq_true rfl) ?_
  first | refine g_aload0 (pc := 0) dX9_behind_0 ?_ | refine g_aloadN0 (pc := 0) dX9_behind_0 ?_
  refine g_iload1 (pc := 1) dX9_behind_1 ?_
  refine g_fV1 (pc := 2) (c_X9_tried_u hC hx) cf9 (by first | rfl | assumption) dX9_behind_2 cw_RX9_185 (by decide) (Nat.le_of_ble_eq_true rfl) ?_
  first | refine g_astore4 (pc := 5) dX9_behind_5 (by decide) (by first | rfl | assumption) ?_ | refine g_astoreN4 (pc := 5) dX9_behind_5 (by decide) (by first | rfl | assumption) ?_
  first | refine g_aload4 (pc := 7) dX9_behind_7 ?_ | refine g_aloadN4 (pc := 7) dX9_behind_7 ?_
  refine g_ifnonnullN (pc := 9) dX9_behind_9 ?_
  refine g_iconst (pc := 12) (-1) dX9_behind_12 (by decide) ?_
  refine g_iret (pc := 13) dX9_behind_13 rfl ?_
  exact ⟨rfl, rfl, rfl⟩
theorem c_X9_behind_o {n p : Nat} {y z : Int32} {v : Mm} {L : Lm} (hC : CSt v n) (hp : p < n) (hy : ¬ ((0 ≤ y ∧ y ≤ 8) ∧ (0 ≤ z ∧ z ≤ 2))) : Fn yX9_behind cX9_behind 6 (some .int) 5 [.ref 0, .int (nI p), .int y, .int z] v L (some (.int (-2))) (trM v n) L := by
  refine Fq.of (plainFor_of_name (by decide)) [some (.ref 0), some (.int (nI p)), some (.int y), some (.int z), none, none] rfl (Nat.le_of_ble_eq_true rfl) ?_
  first | refine g_aload0 (pc := 0) dX9_behind_0 ?_ | refine g_aloadN0 (pc := 0) dX9_behind_0 ?_
  refine g_iload1 (pc := 1) dX9_behind_1 ?_
  refine g_fV1 (pc := 2) (c_X9_tried_s hC hp) cf9 (by first | rfl | assumption) dX9_behind_2 cw_RX9_185 (by decide) (Nat.le_of_ble_eq_true rfl) ?_
  first | refine g_astore4 (pc := 5) dX9_behind_5 (by decide) (by first | rfl | assumption) ?_ | refine g_astoreN4 (pc := 5) dX9_behind_5 (by decide) (by first | rfl | assumption) ?_
  first | refine g_aload4 (pc := 7) dX9_behind_7 ?_ | refine g_aloadN4 (pc := 7) dX9_behind_7 ?_
  refine g_ifnonnull (pc := 9) 14 dX9_behind_9 (by decide) ?_
  refine g_iload2 (pc := 14) dX9_behind_14 ?_
  refine g_bipush (pc := 15) (8) dX9_behind_15 (by decide) ?_
  refine g_fS2 (pc := 17) (c_X9_isWithin) dX9_behind_17 cw_RX9_68 (by decide) (Nat.le_of_ble_eq_true rfl) ?_
  refine g_if_eq (pc := 20) 31 dX9_behind_20 (by decide) (fun zh20 => ?_) (fun zh20 => ?_)
  · skip
    refine g_bipush (pc := 31) (-2) dX9_behind_31 (by decide) ?_
    refine g_iret (pc := 33) dX9_behind_33 rfl ?_
    exact ⟨rfl, rfl, rfl⟩
  · skip
    refine g_iload3 (pc := 23) dX9_behind_23 ?_
    refine g_iconst (pc := 24) (2) dX9_behind_24 (by decide) ?_
    refine g_fS2 (pc := 25) (c_X9_isWithin) dX9_behind_25 cw_RX9_68 (by decide) (Nat.le_of_ble_eq_true rfl) ?_
    refine g_if_ne (pc := 28) 34 dX9_behind_28 (by decide) (fun zh28 => ?_) (fun zh28 => ?_)
    · skip
      exact absurd ⟨b01_ne0.mp zh20, b01_ne0.mp zh28⟩ hy
    · skip
      refine g_bipush (pc := 31) (-2) dX9_behind_31 (by decide) ?_
      refine g_iret (pc := 33) dX9_behind_33 rfl ?_
      exact ⟨rfl, rfl, rfl⟩
theorem c_X9_behind_0 {n p q w : Nat} {v : Mm} {L : Lm} (hC : CSt v n) (hp : p < n) (hq8 : q ≤ 8) (hW : WSt v w) : Fn yX9_behind cX9_behind 6 (some .int) 5 [.ref 0, .int (nI p), .int (nI q), .int 0] v L (some (.int ((folF 12 (12 + 3 + p) (min q w) 0 (trM v n)).2 (12 + 3 + p) 0))) (folF 12 (12 + 3 + p) (min q w) 0 (trM v n)).2 L := by
  have hkp : kd (12 + 3 + p) = 2 := sh_kp s12 (by have := hC.1; omega)
  have hn4 := hC.1
  have zw8 := hW.2
  refine Fq.of (plainFor_of_name (by decide)) [some (.ref 0), some (.int (nI p)), some (.int (nI q)), some (.int 0), none, none] rfl (Nat.le_of_ble_eq_true rfl) ?_
  first | refine g_aload0 (pc := 0) dX9_behind_0 ?_ | refine g_aloadN0 (pc := 0) dX9_behind_0 ?_
  refine g_iload1 (pc := 1) dX9_behind_1 ?_
  refine g_fV1 (pc := 2) (c_X9_tried_s hC hp) cf9 (by first | rfl | assumption) dX9_behind_2 cw_RX9_185 (by decide) (Nat.le_of_ble_eq_true rfl) ?_
  first | refine g_astore4 (pc := 5) dX9_behind_5 (by decide) (by first | rfl | assumption) ?_ | refine g_astoreN4 (pc := 5) dX9_behind_5 (by decide) (by first | rfl | assumption) ?_
  first | refine g_aload4 (pc := 7) dX9_behind_7 ?_ | refine g_aloadN4 (pc := 7) dX9_behind_7 ?_
  refine g_ifnonnull (pc := 9) 14 dX9_behind_9 (by decide) ?_
  refine g_iload2 (pc := 14) dX9_behind_14 ?_
  refine g_bipush (pc := 15) (8) dX9_behind_15 (by decide) ?_
  refine g_fS2 (pc := 17) (c_X9_isWithin) dX9_behind_17 cw_RX9_68 (by decide) (Nat.le_of_ble_eq_true rfl) ?_
  refine g_if_eq (pc := 20) 31 dX9_behind_20 (by decide) (fun zh20 => ?_) (fun zh20 => ?_)
  · skip
    exact absurd ⟨nI_pos' (by omega), nI_le (b := 8) hq8 (by decide)⟩ (b01_eq0.mp zh20)
  · skip
    refine g_iload3 (pc := 23) dX9_behind_23 ?_
    refine g_iconst (pc := 24) (2) dX9_behind_24 (by decide) ?_
    refine g_fS2 (pc := 25) (c_X9_isWithin) dX9_behind_25 cw_RX9_68 (by decide) (Nat.le_of_ble_eq_true rfl) ?_
    refine g_if_ne (pc := 28) 34 dX9_behind_28 (by decide) (fun zh28 => ?_) (fun zh28 => ?_)
    · skip
      first | refine g_aload4 (pc := 34) dX9_behind_34 ?_ | refine g_aloadN4 (pc := 34) dX9_behind_34 ?_
      refine g_getI (pc := 36) (j := 4) cf2 dX9_behind_36 fl_RX9_126 (by decide) (by decide) (by first | rfl | assumption) ?_
      refine g_istore5 (pc := 39) dX9_behind_39 (by decide) (by first | rfl | assumption) ?_
      first | refine g_aload0 (pc := 41) dX9_behind_41 ?_ | refine g_aloadN0 (pc := 41) dX9_behind_41 ?_
      refine g_getR (pc := 42) (j := 3) cf9 dX9_behind_42 fl_RX9_30 (by decide) (by decide) (by first | rfl | assumption) (12) (rfl) ?_
      first | refine g_aload4 (pc := 45) dX9_behind_45 ?_ | refine g_aloadN4 (pc := 45) dX9_behind_45 ?_
      first | refine g_aload0 (pc := 47) dX9_behind_47 ?_ | refine g_aloadN0 (pc := 47) dX9_behind_47 ?_
      refine g_getR (pc := 48) (j := 1) cf9 dX9_behind_48 fl_RX9_19 (by decide) (by decide) (by first | rfl | assumption) (3) (rfl) ?_
      refine g_iload2 (pc := 51) dX9_behind_51 ?_
      refine g_fV3 (pc := 52) (c_X4_follow (S := 12) (q := q) (w := w) s12 hkp hq8 (by rw [trM_away hn4 (by decide)]; exact hW.1) hW.2 (trM_ok hC hp)) cf4 (by first | rfl | assumption) dX9_behind_52 cw_RX9_188 (by decide) (Nat.le_of_ble_eq_true rfl) ?_
      refine g_pop (pc := 55) dX9_behind_55 rfl ?_
      refine g_iload3 (pc := 56) dX9_behind_56 ?_
      refine g_lookup (pc := 57) (off := 27) 84 dX9_behind_57 (by decide) (by decide) (by decide) ?_
      first | refine g_aload4 (pc := 84) dX9_behind_84 ?_ | refine g_aloadN4 (pc := 84) dX9_behind_84 ?_
      refine g_getI (pc := 86) (j := 0) cf2 dX9_behind_86 fl_RX9_115 (by decide) (by decide) (by first | rfl | assumption) ?_
      refine g_iret (pc := 89) dX9_behind_89 rfl ?_
      exact ⟨rfl, rfl, rfl⟩
    · skip
      exact absurd (by decide) (b01_eq0.mp zh28)
theorem c_X9_behind_1 {n p q w : Nat} {v : Mm} {L : Lm} (hC : CSt v n) (hp : p < n) (hq8 : q ≤ 8) (hW : WSt v w) : Fn yX9_behind cX9_behind 6 (some .int) 5 [.ref 0, .int (nI p), .int (nI q), .int 1] v L (some (.int ((folF 12 (12 + 3 + p) (min q w) 0 (trM v n)).2 (12 + 3 + p) 4))) (folF 12 (12 + 3 + p) (min q w) 0 (trM v n)).2 L := by
  have hkp : kd (12 + 3 + p) = 2 := sh_kp s12 (by have := hC.1; omega)
  have hn4 := hC.1
  have zw8 := hW.2
  refine Fq.of (plainFor_of_name (by decide)) [some (.ref 0), some (.int (nI p)), some (.int (nI q)), some (.int 1), none, none] rfl (Nat.le_of_ble_eq_true rfl) ?_
  first | refine g_aload0 (pc := 0) dX9_behind_0 ?_ | refine g_aloadN0 (pc := 0) dX9_behind_0 ?_
  refine g_iload1 (pc := 1) dX9_behind_1 ?_
  refine g_fV1 (pc := 2) (c_X9_tried_s hC hp) cf9 (by first | rfl | assumption) dX9_behind_2 cw_RX9_185 (by decide) (Nat.le_of_ble_eq_true rfl) ?_
  first | refine g_astore4 (pc := 5) dX9_behind_5 (by decide) (by first | rfl | assumption) ?_ | refine g_astoreN4 (pc := 5) dX9_behind_5 (by decide) (by first | rfl | assumption) ?_
  first | refine g_aload4 (pc := 7) dX9_behind_7 ?_ | refine g_aloadN4 (pc := 7) dX9_behind_7 ?_
  refine g_ifnonnull (pc := 9) 14 dX9_behind_9 (by decide) ?_
  refine g_iload2 (pc := 14) dX9_behind_14 ?_
  refine g_bipush (pc := 15) (8) dX9_behind_15 (by decide) ?_
  refine g_fS2 (pc := 17) (c_X9_isWithin) dX9_behind_17 cw_RX9_68 (by decide) (Nat.le_of_ble_eq_true rfl) ?_
  refine g_if_eq (pc := 20) 31 dX9_behind_20 (by decide) (fun zh20 => ?_) (fun zh20 => ?_)
  · skip
    exact absurd ⟨nI_pos' (by omega), nI_le (b := 8) hq8 (by decide)⟩ (b01_eq0.mp zh20)
  · skip
    refine g_iload3 (pc := 23) dX9_behind_23 ?_
    refine g_iconst (pc := 24) (2) dX9_behind_24 (by decide) ?_
    refine g_fS2 (pc := 25) (c_X9_isWithin) dX9_behind_25 cw_RX9_68 (by decide) (Nat.le_of_ble_eq_true rfl) ?_
    refine g_if_ne (pc := 28) 34 dX9_behind_28 (by decide) (fun zh28 => ?_) (fun zh28 => ?_)
    · skip
      first | refine g_aload4 (pc := 34) dX9_behind_34 ?_ | refine g_aloadN4 (pc := 34) dX9_behind_34 ?_
      refine g_getI (pc := 36) (j := 4) cf2 dX9_behind_36 fl_RX9_126 (by decide) (by decide) (by first | rfl | assumption) ?_
      refine g_istore5 (pc := 39) dX9_behind_39 (by decide) (by first | rfl | assumption) ?_
      first | refine g_aload0 (pc := 41) dX9_behind_41 ?_ | refine g_aloadN0 (pc := 41) dX9_behind_41 ?_
      refine g_getR (pc := 42) (j := 3) cf9 dX9_behind_42 fl_RX9_30 (by decide) (by decide) (by first | rfl | assumption) (12) (rfl) ?_
      first | refine g_aload4 (pc := 45) dX9_behind_45 ?_ | refine g_aloadN4 (pc := 45) dX9_behind_45 ?_
      first | refine g_aload0 (pc := 47) dX9_behind_47 ?_ | refine g_aloadN0 (pc := 47) dX9_behind_47 ?_
      refine g_getR (pc := 48) (j := 1) cf9 dX9_behind_48 fl_RX9_19 (by decide) (by decide) (by first | rfl | assumption) (3) (rfl) ?_
      refine g_iload2 (pc := 51) dX9_behind_51 ?_
      refine g_fV3 (pc := 52) (c_X4_follow (S := 12) (q := q) (w := w) s12 hkp hq8 (by rw [trM_away hn4 (by decide)]; exact hW.1) hW.2 (trM_ok hC hp)) cf4 (by first | rfl | assumption) dX9_behind_52 cw_RX9_188 (by decide) (Nat.le_of_ble_eq_true rfl) ?_
      refine g_pop (pc := 55) dX9_behind_55 rfl ?_
      refine g_iload3 (pc := 56) dX9_behind_56 ?_
      refine g_lookup (pc := 57) (off := 33) 90 dX9_behind_57 (by decide) (by decide) (by decide) ?_
      first | refine g_aload4 (pc := 90) dX9_behind_90 ?_ | refine g_aloadN4 (pc := 90) dX9_behind_90 ?_
      refine g_getI (pc := 92) (j := 4) cf2 dX9_behind_92 fl_RX9_126 (by decide) (by decide) (by first | rfl | assumption) ?_
      refine g_iret (pc := 95) dX9_behind_95 rfl ?_
      exact ⟨rfl, rfl, rfl⟩
    · skip
      exact absurd (by decide) (b01_eq0.mp zh28)
theorem c_X9_behind_2 {n p q w : Nat} {v : Mm} {L : Lm} (hC : CSt v n) (hp : p < n) (hq8 : q ≤ 8) (hW : WSt v w) : Fn yX9_behind cX9_behind 6 (some .int) 5 [.ref 0, .int (nI p), .int (nI q), .int 2] v L (some (.int (trM v n (12 + 3 + p) 4 - (folF 12 (12 + 3 + p) (min q w) 0 (trM v n)).2 (12 + 3 + p) 4))) (folF 12 (12 + 3 + p) (min q w) 0 (trM v n)).2 L := by
  have hkp : kd (12 + 3 + p) = 2 := sh_kp s12 (by have := hC.1; omega)
  have hn4 := hC.1
  have zw8 := hW.2
  refine Fq.of (plainFor_of_name (by decide)) [some (.ref 0), some (.int (nI p)), some (.int (nI q)), some (.int 2), none, none] rfl (Nat.le_of_ble_eq_true rfl) ?_
  first | refine g_aload0 (pc := 0) dX9_behind_0 ?_ | refine g_aloadN0 (pc := 0) dX9_behind_0 ?_
  refine g_iload1 (pc := 1) dX9_behind_1 ?_
  refine g_fV1 (pc := 2) (c_X9_tried_s hC hp) cf9 (by first | rfl | assumption) dX9_behind_2 cw_RX9_185 (by decide) (Nat.le_of_ble_eq_true rfl) ?_
  first | refine g_astore4 (pc := 5) dX9_behind_5 (by decide) (by first | rfl | assumption) ?_ | refine g_astoreN4 (pc := 5) dX9_behind_5 (by decide) (by first | rfl | assumption) ?_
  first | refine g_aload4 (pc := 7) dX9_behind_7 ?_ | refine g_aloadN4 (pc := 7) dX9_behind_7 ?_
  refine g_ifnonnull (pc := 9) 14 dX9_behind_9 (by decide) ?_
  refine g_iload2 (pc := 14) dX9_behind_14 ?_
  refine g_bipush (pc := 15) (8) dX9_behind_15 (by decide) ?_
  refine g_fS2 (pc := 17) (c_X9_isWithin) dX9_behind_17 cw_RX9_68 (by decide) (Nat.le_of_ble_eq_true rfl) ?_
  refine g_if_eq (pc := 20) 31 dX9_behind_20 (by decide) (fun zh20 => ?_) (fun zh20 => ?_)
  · skip
    exact absurd ⟨nI_pos' (by omega), nI_le (b := 8) hq8 (by decide)⟩ (b01_eq0.mp zh20)
  · skip
    refine g_iload3 (pc := 23) dX9_behind_23 ?_
    refine g_iconst (pc := 24) (2) dX9_behind_24 (by decide) ?_
    refine g_fS2 (pc := 25) (c_X9_isWithin) dX9_behind_25 cw_RX9_68 (by decide) (Nat.le_of_ble_eq_true rfl) ?_
    refine g_if_ne (pc := 28) 34 dX9_behind_28 (by decide) (fun zh28 => ?_) (fun zh28 => ?_)
    · skip
      first | refine g_aload4 (pc := 34) dX9_behind_34 ?_ | refine g_aloadN4 (pc := 34) dX9_behind_34 ?_
      refine g_getI (pc := 36) (j := 4) cf2 dX9_behind_36 fl_RX9_126 (by decide) (by decide) (by first | rfl | assumption) ?_
      refine g_istore5 (pc := 39) dX9_behind_39 (by decide) (by first | rfl | assumption) ?_
      first | refine g_aload0 (pc := 41) dX9_behind_41 ?_ | refine g_aloadN0 (pc := 41) dX9_behind_41 ?_
      refine g_getR (pc := 42) (j := 3) cf9 dX9_behind_42 fl_RX9_30 (by decide) (by decide) (by first | rfl | assumption) (12) (rfl) ?_
      first | refine g_aload4 (pc := 45) dX9_behind_45 ?_ | refine g_aloadN4 (pc := 45) dX9_behind_45 ?_
      first | refine g_aload0 (pc := 47) dX9_behind_47 ?_ | refine g_aloadN0 (pc := 47) dX9_behind_47 ?_
      refine g_getR (pc := 48) (j := 1) cf9 dX9_behind_48 fl_RX9_19 (by decide) (by decide) (by first | rfl | assumption) (3) (rfl) ?_
      refine g_iload2 (pc := 51) dX9_behind_51 ?_
      refine g_fV3 (pc := 52) (c_X4_follow (S := 12) (q := q) (w := w) s12 hkp hq8 (by rw [trM_away hn4 (by decide)]; exact hW.1) hW.2 (trM_ok hC hp)) cf4 (by first | rfl | assumption) dX9_behind_52 cw_RX9_188 (by decide) (Nat.le_of_ble_eq_true rfl) ?_
      refine g_pop (pc := 55) dX9_behind_55 rfl ?_
      refine g_iload3 (pc := 56) dX9_behind_56 ?_
      refine g_lookup (pc := 57) (off := 39) 96 dX9_behind_57 (by decide) (by decide) (by decide) ?_
      refine g_iload5 (pc := 96) dX9_behind_96 ?_
      first | refine g_aload4 (pc := 98) dX9_behind_98 ?_ | refine g_aloadN4 (pc := 98) dX9_behind_98 ?_
      refine g_getI (pc := 100) (j := 4) cf2 dX9_behind_100 fl_RX9_126 (by decide) (by decide) (by first | rfl | assumption) ?_
      refine g_isub (pc := 103) dX9_behind_103 ?_
      refine g_iret (pc := 104) dX9_behind_104 rfl ?_
      exact ⟨rfl, rfl, rfl⟩
    · skip
      exact absurd (by decide) (b01_eq0.mp zh28)
theorem c_X9_see_o {x y : Int32} {v : Mm} {L : Lm} (hx : ¬ ((0 ≤ x ∧ x < 8) ∧ (0 ≤ y ∧ y ≤ 6))) : Fn yX9_see cX9_see 3 (some .int) 1 [.ref 0, .int x, .int y] v L (some (.int (-2))) v L := by
  refine Fq.of (plainFor_of_name (by decide)) [some (.ref 0), some (.int x), some (.int y)] rfl (Nat.le_of_ble_eq_true rfl) ?_
  refine g_iload1 (pc := 0) dX9_see_0 ?_
  refine g_fS1 (pc := 1) (c_X9_isDirection) dX9_see_1 cw_RX9_145 (by decide) (Nat.le_of_ble_eq_true rfl) ?_
  refine g_if_eq (pc := 4) 16 dX9_see_4 (by decide) (fun zh4 => ?_) (fun zh4 => ?_)
  · skip
    refine g_bipush (pc := 16) (-2) dX9_see_16 (by decide) ?_
    refine g_iret (pc := 18) dX9_see_18 rfl ?_
    exact ⟨rfl, rfl, rfl⟩
  · skip
    refine g_iload2 (pc := 7) dX9_see_7 ?_
    refine g_bipush (pc := 8) (6) dX9_see_8 (by decide) ?_
    refine g_fS2 (pc := 10) (c_X9_isWithin) dX9_see_10 cw_RX9_68 (by decide) (Nat.le_of_ble_eq_true rfl) ?_
    refine g_if_ne (pc := 13) 19 dX9_see_13 (by decide) (fun zh13 => ?_) (fun zh13 => ?_)
    · skip
      exact absurd ⟨b01_ne0.mp zh4, b01_ne0.mp zh13⟩ hx
    · skip
      refine g_bipush (pc := 16) (-2) dX9_see_16 (by decide) ?_
      refine g_iret (pc := 18) dX9_see_18 rfl ?_
      exact ⟨rfl, rfl, rfl⟩
theorem c_X9_see_f {x y : Int32} {v : Mm} {L : Lm} (hx : 0 ≤ x ∧ x < 8) (hy : 0 ≤ y ∧ y ≤ 6) (hc : v 68 3 = 6) : Fn yX9_see cX9_see 3 (some .int) 1 [.ref 0, .int x, .int y] v L (some (.int (-4))) v L := by
  refine Fq.of (plainFor_of_name (by decide)) [some (.ref 0), some (.int x), some (.int y)] rfl (Nat.le_of_ble_eq_true rfl) ?_
  refine g_iload1 (pc := 0) dX9_see_0 ?_
  refine g_fS1 (pc := 1) (c_X9_isDirection) dX9_see_1 cw_RX9_145 (by decide) (Nat.le_of_ble_eq_true rfl) ?_
  refine g_if_eq (pc := 4) 16 dX9_see_4 (by decide) (fun zh4 => ?_) (fun zh4 => ?_)
  · skip
    exact absurd hx (b01_eq0.mp zh4)
  · skip
    refine g_iload2 (pc := 7) dX9_see_7 ?_
    refine g_bipush (pc := 8) (6) dX9_see_8 (by decide) ?_
    refine g_fS2 (pc := 10) (c_X9_isWithin) dX9_see_10 cw_RX9_68 (by decide) (Nat.le_of_ble_eq_true rfl) ?_
    refine g_if_ne (pc := 13) 19 dX9_see_13 (by decide) (fun zh13 => ?_) (fun zh13 => ?_)
    · skip
      first | refine g_aload0 (pc := 19) dX9_see_19 ?_ | refine g_aloadN0 (pc := 19) dX9_see_19 ?_
      refine g_getR (pc := 20) (j := 5) cf9 dX9_see_20 fl_RX9_43 (by decide) (by decide) (by first | rfl | assumption) (68) (rfl) ?_
      refine g_iload1 (pc := 23) dX9_see_23 ?_
      refine g_iload2 (pc := 24) dX9_see_24 ?_
      refine g_fV2 (pc := 25) (c_X3_add_f hc) cf3 (by first | rfl | assumption) dX9_see_25 cw_RX9_226 (by decide) (Nat.le_of_ble_eq_true rfl) ?_
      refine g_if_eq (pc := 28) 41 dX9_see_28 (by decide) (fun zh28 => ?_) (fun zh28 => ?_)
      · skip
        refine g_bipush (pc := 41) (-4) dX9_see_41 (by decide) ?_
        refine g_iret (pc := 43) dX9_see_43 rfl ?_
        exact ⟨rfl, rfl, rfl⟩
      · skip
        exact absurd rfl zh28
    · skip
      exact absurd hy (b01_eq0.mp zh13)
theorem c_X9_see_s {x y : Int32} {c : Nat} {v : Mm} {L : Lm} (hx : 0 ≤ x ∧ x < 8) (hy : 0 ≤ y ∧ y ≤ 6) (hc : v 68 3 = nI c) (hc6 : c < 6) : Fn yX9_see cX9_see 3 (some .int) 1 [.ref 0, .int x, .int y] v L (some (.int (nI (c + 1)))) (upd2 (upd2 (upd2 v 69 c x) 70 c y) 68 3 (nI (c + 1))) L := by
  refine Fq.of (plainFor_of_name (by decide)) [some (.ref 0), some (.int x), some (.int y)] rfl (Nat.le_of_ble_eq_true rfl) ?_
  refine g_iload1 (pc := 0) dX9_see_0 ?_
  refine g_fS1 (pc := 1) (c_X9_isDirection) dX9_see_1 cw_RX9_145 (by decide) (Nat.le_of_ble_eq_true rfl) ?_
  refine g_if_eq (pc := 4) 16 dX9_see_4 (by decide) (fun zh4 => ?_) (fun zh4 => ?_)
  · skip
    exact absurd hx (b01_eq0.mp zh4)
  · skip
    refine g_iload2 (pc := 7) dX9_see_7 ?_
    refine g_bipush (pc := 8) (6) dX9_see_8 (by decide) ?_
    refine g_fS2 (pc := 10) (c_X9_isWithin) dX9_see_10 cw_RX9_68 (by decide) (Nat.le_of_ble_eq_true rfl) ?_
    refine g_if_ne (pc := 13) 19 dX9_see_13 (by decide) (fun zh13 => ?_) (fun zh13 => ?_)
    · skip
      first | refine g_aload0 (pc := 19) dX9_see_19 ?_ | refine g_aloadN0 (pc := 19) dX9_see_19 ?_
      refine g_getR (pc := 20) (j := 5) cf9 dX9_see_20 fl_RX9_43 (by decide) (by decide) (by first | rfl | assumption) (68) (rfl) ?_
      refine g_iload1 (pc := 23) dX9_see_23 ?_
      refine g_iload2 (pc := 24) dX9_see_24 ?_
      refine g_fV2 (pc := 25) (c_X3_add_t hc hc6) cf3 (by first | rfl | assumption) dX9_see_25 cw_RX9_226 (by decide) (Nat.le_of_ble_eq_true rfl) ?_
      refine g_if_eq (pc := 28) 41 dX9_see_28 (by decide) (fun zh28 => ?_) (fun zh28 => ?_)
      · skip
        exact absurd zh28 (by decide)
      · skip
        first | refine g_aload0 (pc := 31) dX9_see_31 ?_ | refine g_aloadN0 (pc := 31) dX9_see_31 ?_
        refine g_getR (pc := 32) (j := 5) cf9 dX9_see_32 fl_RX9_43 (by decide) (by decide) (by first | rfl | assumption) (68) (rfl) ?_
        refine g_getI (pc := 35) (j := 3) cf3 dX9_see_35 fl_RX9_228 (by decide) (by decide) (by first | rfl | assumption) ?_
        refine g_goto (pc := 38) 43 dX9_see_38 (by decide) ?_
        refine g_iret (pc := 43) dX9_see_43 rfl ?_
        exact ⟨by rw [u2_s], rfl, rfl⟩
    · skip
      exact absurd hy (b01_eq0.mp zh13)
theorem c_X9_unsee  {v : Mm} {L : Lm}  : Fn yX9_unsee cX9_unsee 2 (some .int) 0 [.ref 0] v L (some (.int (v 68 3))) (upd2 v 68 3 0) L := by
  refine Fq.of (plainFor_of_name (by decide)) [some (.ref 0), none] rfl (Nat.le_of_ble_eq_true rfl) ?_
  first | refine g_aload0 (pc := 0) dX9_unsee_0 ?_ | refine g_aloadN0 (pc := 0) dX9_unsee_0 ?_
  refine g_getR (pc := 1) (j := 5) cf9 dX9_unsee_1 fl_RX9_43 (by decide) (by decide) (by first | rfl | assumption) (68) (rfl) ?_
  refine g_getI (pc := 4) (j := 3) cf3 dX9_unsee_4 fl_RX9_228 (by decide) (by decide) (by first | rfl | assumption) ?_
  refine g_istore1 (pc := 7) dX9_unsee_7 (by decide) (by first | rfl | assumption) ?_
  first | refine g_aload0 (pc := 8) dX9_unsee_8 ?_ | refine g_aloadN0 (pc := 8) dX9_unsee_8 ?_
  refine g_getR (pc := 9) (j := 5) cf9 dX9_unsee_9 fl_RX9_43 (by decide) (by decide) (by first | rfl | assumption) (68) (rfl) ?_
  refine g_iconst (pc := 12) (0) dX9_unsee_12 (by decide) ?_
  refine g_putI (pc := 13) (j := 3) cf3 dX9_unsee_13 fl_RX9_228 (by decide) rfl rfl (by decide) (by first | rfl | assumption) ?_
  refine g_iload1 (pc := 16) dX9_unsee_16 ?_
  refine g_iret (pc := 17) dX9_unsee_17 rfl ?_
  exact ⟨rfl, rfl, rfl⟩
theorem c_X9_seed {x : Int64} {v : Mm} {L : Lm}  : Fn yX9_seed cX9_seed 5 (some .long) 0 [.ref 0, .long x] v L (some (.long (L 0))) v (updl L 0 x) := by
  refine Fq.of (plainFor_of_name (by decide)) [some (.ref 0), some (.long x), none, none, none] rfl (Nat.le_of_ble_eq_true rfl) ?_
  first | refine g_aload0 (pc := 0) dX9_seed_0 ?_ | refine g_aloadN0 (pc := 0) dX9_seed_0 ?_
  refine g_getL (pc := 1) (j := 10) cf9 dX9_seed_1 fl_RX9_265 (by decide) (by decide) (by first | rfl | assumption) ?_
  refine g_lstore3 (pc := 4) dX9_seed_4 (by decide) (by first | rfl | assumption) ?_
  first | refine g_aload0 (pc := 5) dX9_seed_5 ?_ | refine g_aloadN0 (pc := 5) dX9_seed_5 ?_
  refine g_lload1 (pc := 6) dX9_seed_6 ?_
  refine g_putL (pc := 7) (j := 10) cf9 dX9_seed_7 fl_RX9_265 (by decide) rfl rfl (by decide) (by decide) (by first | rfl | assumption) ?_
  refine g_lload3 (pc := 10) dX9_seed_10 ?_
  refine g_lret (pc := 11) dX9_seed_11 rfl ?_
  exact ⟨rfl, rfl, rfl⟩
theorem c_X9_nibs_0 {c : Nat} {v : Mm} {L : Lm} (hc : v 68 3 = nI c) (hc6 : c ≤ 6) : Fi yX9_nibs cX9_nibs 2 (some .int) 4 [.ref 0, .int 0] v L (fun x b K => x = cnF v c ∧ (∃ p q : Int32, b = unM v p q) ∧ K = L) := by
  refine Fq.of (plainFor_of_name (by decide)) [some (.ref 0), some (.int 0)] rfl (Nat.le_of_ble_eq_true rfl) ?_
  refine g_iload1 (pc := 0) dX9_nibs_0 ?_
  refine g_lookup (pc := 1) (off := 27) 28 dX9_nibs_1 (by decide) (by decide) (by decide) ?_
  first | refine g_aload0 (pc := 28) dX9_nibs_28 ?_ | refine g_aloadN0 (pc := 28) dX9_nibs_28 ?_
  refine g_getR (pc := 29) (j := 5) cf9 dX9_nibs_29 fl_RX9_43 (by decide) (by decide) (by first | rfl | assumption) (68) (rfl) ?_
  refine g_qiV0 (pc := 32) (c_X3_countNibs hc hc6) cf3 (by first | rfl | assumption) dX9_nibs_32 cw_RX9_229 (by decide) (Nat.le_of_ble_eq_true rfl) (fun zx zw zK zh => ?_)
  refine g_iret (pc := 35) dX9_nibs_35 rfl ?_
  exact ⟨zx, rfl, zh⟩
theorem c_X9_nibs_1 {c : Nat} {v : Mm} {L : Lm} (hc : v 68 3 = nI c) (hc6 : c ≤ 6) : Fi yX9_nibs cX9_nibs 2 (some .int) 4 [.ref 0, .int 1] v L (fun x b K => x = fnA v c 7 0 ∧ (∃ p q : Int32, b = unM v p q) ∧ K = L) := by
  refine Fq.of (plainFor_of_name (by decide)) [some (.ref 0), some (.int 1)] rfl (Nat.le_of_ble_eq_true rfl) ?_
  refine g_iload1 (pc := 0) dX9_nibs_0 ?_
  refine g_lookup (pc := 1) (off := 35) 36 dX9_nibs_1 (by decide) (by decide) (by decide) ?_
  first | refine g_aload0 (pc := 36) dX9_nibs_36 ?_ | refine g_aloadN0 (pc := 36) dX9_nibs_36 ?_
  refine g_getR (pc := 37) (j := 5) cf9 dX9_nibs_37 fl_RX9_43 (by decide) (by decide) (by first | rfl | assumption) (68) (rfl) ?_
  refine g_qiV0 (pc := 40) (c_X3_firstNib hc hc6) cf3 (by first | rfl | assumption) dX9_nibs_40 cw_RX9_232 (by decide) (Nat.le_of_ble_eq_true rfl) (fun zx zw zK zh => ?_)
  refine g_iret (pc := 43) dX9_nibs_43 rfl ?_
  exact ⟨zx, rfl, zh⟩
theorem c_X9_nibs_o {y : Int32} {v : Mm} {L : Lm} (hy : ¬ (0 ≤ y ∧ y ≤ 1)) : Fn yX9_nibs cX9_nibs 2 (some .int) 4 [.ref 0, .int y] v L (some (.int (-2))) v L := by
  have z0 : ¬ y = 0 := fun zq => hy (by rw [zq]; decide)
  have z1 : ¬ y = 1 := fun zq => hy (by rw [zq]; decide)
  refine Fq.of (plainFor_of_name (by decide)) [some (.ref 0), some (.int y)] rfl (Nat.le_of_ble_eq_true rfl) ?_
  refine g_iload1 (pc := 0) dX9_nibs_0 ?_
  refine g_lookup (pc := 1) (off := 43) 44 dX9_nibs_1 (by decide) (lk2 z0 z1) (by decide) ?_
  refine g_bipush (pc := 44) (-2) dX9_nibs_44 (by decide) ?_
  refine g_iret (pc := 46) dX9_nibs_46 rfl ?_
  exact ⟨rfl, rfl, rfl⟩
theorem c_X9_keep_u {x : Int32} {v : Mm} {L : Lm} (hx : ¬ (0 ≤ x ∧ x ≤ 1)) : Fn yX9_keep cX9_keep 2 (some .int) 2 [.ref 0, .int x] v L (some (.int (-1))) v L := by
  refine Fq.of (plainFor_of_name (by decide)) [some (.ref 0), some (.int x)] rfl (Nat.le_of_ble_eq_true rfl) ?_
  refine g_iload1 (pc := 0) dX9_keep_0 ?_
  refine g_iconst (pc := 1) (1) dX9_keep_1 (by decide) ?_
  refine g_fS2 (pc := 2) (c_X9_isWithin) dX9_keep_2 cw_RX9_68 (by decide) (Nat.le_of_ble_eq_true rfl) ?_
  refine g_if_ne (pc := 5) 10 dX9_keep_5 (by decide) (fun zh5 => ?_) (fun zh5 => ?_)
  · skip
    exact absurd (b01_ne0.mp zh5) hx
  · skip
    refine g_iconst (pc := 8) (-1) dX9_keep_8 (by decide) ?_
    refine g_iret (pc := 9) dX9_keep_9 rfl ?_
    exact ⟨rfl, rfl, rfl⟩
theorem c_X9_again_u {x : Int32} {v : Mm} {L : Lm} (hx : ¬ (0 ≤ x ∧ x ≤ 1)) : Fn yX9_again cX9_again 2 (some .int) 2 [.ref 0, .int x] v L (some (.int (-1))) v L := by
  refine Fq.of (plainFor_of_name (by decide)) [some (.ref 0), some (.int x)] rfl (Nat.le_of_ble_eq_true rfl) ?_
  refine g_iload1 (pc := 0) dX9_again_0 ?_
  refine g_iconst (pc := 1) (1) dX9_again_1 (by decide) ?_
  refine g_fS2 (pc := 2) (c_X9_isWithin) dX9_again_2 cw_RX9_68 (by decide) (Nat.le_of_ble_eq_true rfl) ?_
  refine g_if_ne (pc := 5) 10 dX9_again_5 (by decide) (fun zh5 => ?_) (fun zh5 => ?_)
  · skip
    exact absurd (b01_ne0.mp zh5) hx
  · skip
    refine g_iconst (pc := 8) (-1) dX9_again_8 (by decide) ?_
    refine g_iret (pc := 9) dX9_again_9 rfl ?_
    exact ⟨rfl, rfl, rfl⟩
theorem c_X9_keep_0 {n : Nat} {v : Mm} {L : Lm} (hC : CSt v n) : Fn yX9_keep cX9_keep 2 (some .int) 2 [.ref 0, .int 0] v L (some (.int (upd2 (cpM v 19 5 n) 33 1 1 5 3))) (upd2 (cpM v 19 5 n) 33 1 1) L := by
  refine Fq.of (plainFor_of_name (by decide)) [some (.ref 0), some (.int 0)] rfl (Nat.le_of_ble_eq_true rfl) ?_
  refine g_iload1 (pc := 0) dX9_keep_0 ?_
  refine g_iconst (pc := 1) (1) dX9_keep_1 (by decide) ?_
  refine g_fS2 (pc := 2) (c_X9_isWithin) dX9_keep_2 cw_RX9_68 (by decide) (Nat.le_of_ble_eq_true rfl) ?_
  refine g_if_ne (pc := 5) 10 dX9_keep_5 (by decide) (fun zh5 => ?_) (fun zh5 => ?_)
  · skip
    first | refine g_aload0 (pc := 10) dX9_keep_10 ?_ | refine g_aloadN0 (pc := 10) dX9_keep_10 ?_
    refine g_getR (pc := 11) (j := 7) cf9 dX9_keep_11 fl_RX9_56 (by decide) (by decide) (by first | rfl | assumption) (35) (rfl) ?_
    refine g_iload1 (pc := 14) dX9_keep_14 ?_
    refine g_aald (pc := 15) (n := 15) dX9_keep_15 (by first | rfl | assumption) (by decide) (by decide) (vp_in_nI (n := 0) (N := 2) (by decide) (by decide)) (33) (by decide) ?_
    refine g_getR (pc := 16) (j := 0) cf5 dX9_keep_16 fl_RX9_282 (by decide) (by decide) (by first | rfl | assumption) (19) (rfl) ?_
    first | refine g_aload0 (pc := 19) dX9_keep_19 ?_ | refine g_aloadN0 (pc := 19) dX9_keep_19 ?_
    refine g_getR (pc := 20) (j := 2) cf9 dX9_keep_20 fl_RX9_26 (by decide) (by decide) (by first | rfl | assumption) (5) (rfl) ?_
    refine g_vV1 (pc := 23) (c_X4_copy s19 s5 (by decide) hC.1 hC.2.1 (fun zp zh => (hC.2.2 zp zh).2)) cf4 (by first | rfl | assumption) dX9_keep_23 cw_RX9_215 (by decide) (Nat.le_of_ble_eq_true rfl) ?_
    first | refine g_aload0 (pc := 26) dX9_keep_26 ?_ | refine g_aloadN0 (pc := 26) dX9_keep_26 ?_
    refine g_getR (pc := 27) (j := 7) cf9 dX9_keep_27 fl_RX9_56 (by decide) (by decide) (by first | rfl | assumption) (35) (rfl) ?_
    refine g_iload1 (pc := 30) dX9_keep_30 ?_
    refine g_aald (pc := 31) (n := 15) dX9_keep_31 (by first | rfl | assumption) (by decide) (by decide) (vp_in_nI (n := 0) (N := 2) (by decide) (by decide)) (33) (by decide) ?_
    refine g_iconst (pc := 32) (1) dX9_keep_32 (by decide) ?_
    refine g_putZ (pc := 33) (j := 1) cf5 dX9_keep_33 fl_RX9_91 (by decide) rfl rfl (by decide) (by first | rfl | assumption) (by first | exact Or.inl rfl | exact Or.inr rfl | assumption) ?_
    first | refine g_aload0 (pc := 36) dX9_keep_36 ?_ | refine g_aloadN0 (pc := 36) dX9_keep_36 ?_
    refine g_getR (pc := 37) (j := 2) cf9 dX9_keep_37 fl_RX9_26 (by decide) (by decide) (by first | rfl | assumption) (5) (rfl) ?_
    refine g_getI (pc := 40) (j := 3) cf4 dX9_keep_40 fl_RX9_285 (by decide) (by decide) (by first | rfl | assumption) ?_
    refine g_iret (pc := 43) dX9_keep_43 rfl ?_
    exact ⟨rfl, rfl, rfl⟩
  · skip
    exact absurd (by decide) (b01_eq0.mp zh5)
theorem c_X9_again_0n  {v : Mm} {L : Lm} (zh0 : v 33 1 = 0) : Fn yX9_again cX9_again 2 (some .int) 2 [.ref 0, .int 0] v L (some (.int (-3))) v L := by
  refine Fq.of (plainFor_of_name (by decide)) [some (.ref 0), some (.int 0)] rfl (Nat.le_of_ble_eq_true rfl) ?_
  refine g_iload1 (pc := 0) dX9_again_0 ?_
  refine g_iconst (pc := 1) (1) dX9_again_1 (by decide) ?_
  refine g_fS2 (pc := 2) (c_X9_isWithin) dX9_again_2 cw_RX9_68 (by decide) (Nat.le_of_ble_eq_true rfl) ?_
  refine g_if_ne (pc := 5) 10 dX9_again_5 (by decide) (fun zh5 => ?_) (fun zh5 => ?_)
  · skip
    first | refine g_aload0 (pc := 10) dX9_again_10 ?_ | refine g_aloadN0 (pc := 10) dX9_again_10 ?_
    refine g_getR (pc := 11) (j := 7) cf9 dX9_again_11 fl_RX9_56 (by decide) (by decide) (by first | rfl | assumption) (35) (rfl) ?_
    refine g_iload1 (pc := 14) dX9_again_14 ?_
    refine g_aald (pc := 15) (n := 15) dX9_again_15 (by first | rfl | assumption) (by decide) (by decide) (vp_in_nI (n := 0) (N := 2) (by decide) (by decide)) (33) (by decide) ?_
    refine g_getI (pc := 16) (j := 1) cf5 dX9_again_16 fl_RX9_91 (by decide) (by decide) (by first | rfl | assumption) ?_
    refine g_if_ne (pc := 19) 25 dX9_again_19 (by decide) (fun zh19 => ?_) (fun zh19 => ?_)
    · skip
      exact absurd zh0 zh19
    · skip
      refine g_bipush (pc := 22) (-3) dX9_again_22 (by decide) ?_
      refine g_iret (pc := 24) dX9_again_24 rfl ?_
      exact ⟨rfl, rfl, rfl⟩
  · skip
    exact absurd (by decide) (b01_eq0.mp zh5)
theorem c_X9_again_0s {n : Nat} {v : Mm} {L : Lm} (zh0 : ¬ v 33 1 = 0) (hn4 : n ≤ 4) (hn : v 19 2 = nI n) (hb6 : ∀ p, p < n → v (19 + 3 + p) 6 = 0 ∨ v (19 + 3 + p) 6 = 1) : Fn yX9_again cX9_again 2 (some .int) 2 [.ref 0, .int 0] v L (some (.int (upd2 (cpM v 5 19 n) 38 2 0 5 3))) (upd2 (cpM v 5 19 n) 38 2 0) L := by
  refine Fq.of (plainFor_of_name (by decide)) [some (.ref 0), some (.int 0)] rfl (Nat.le_of_ble_eq_true rfl) ?_
  refine g_iload1 (pc := 0) dX9_again_0 ?_
  refine g_iconst (pc := 1) (1) dX9_again_1 (by decide) ?_
  refine g_fS2 (pc := 2) (c_X9_isWithin) dX9_again_2 cw_RX9_68 (by decide) (Nat.le_of_ble_eq_true rfl) ?_
  refine g_if_ne (pc := 5) 10 dX9_again_5 (by decide) (fun zh5 => ?_) (fun zh5 => ?_)
  · skip
    first | refine g_aload0 (pc := 10) dX9_again_10 ?_ | refine g_aloadN0 (pc := 10) dX9_again_10 ?_
    refine g_getR (pc := 11) (j := 7) cf9 dX9_again_11 fl_RX9_56 (by decide) (by decide) (by first | rfl | assumption) (35) (rfl) ?_
    refine g_iload1 (pc := 14) dX9_again_14 ?_
    refine g_aald (pc := 15) (n := 15) dX9_again_15 (by first | rfl | assumption) (by decide) (by decide) (vp_in_nI (n := 0) (N := 2) (by decide) (by decide)) (33) (by decide) ?_
    refine g_getI (pc := 16) (j := 1) cf5 dX9_again_16 fl_RX9_91 (by decide) (by decide) (by first | rfl | assumption) ?_
    refine g_if_ne (pc := 19) 25 dX9_again_19 (by decide) (fun zh19 => ?_) (fun zh19 => ?_)
    · skip
      first | refine g_aload0 (pc := 25) dX9_again_25 ?_ | refine g_aloadN0 (pc := 25) dX9_again_25 ?_
      refine g_getR (pc := 26) (j := 2) cf9 dX9_again_26 fl_RX9_26 (by decide) (by decide) (by first | rfl | assumption) (5) (rfl) ?_
      first | refine g_aload0 (pc := 29) dX9_again_29 ?_ | refine g_aloadN0 (pc := 29) dX9_again_29 ?_
      refine g_getR (pc := 30) (j := 7) cf9 dX9_again_30 fl_RX9_56 (by decide) (by decide) (by first | rfl | assumption) (35) (rfl) ?_
      refine g_iload1 (pc := 33) dX9_again_33 ?_
      refine g_aald (pc := 34) (n := 15) dX9_again_34 (by first | rfl | assumption) (by decide) (by decide) (vp_in_nI (n := 0) (N := 2) (by decide) (by decide)) (33) (by decide) ?_
      refine g_getR (pc := 35) (j := 0) cf5 dX9_again_35 fl_RX9_282 (by decide) (by decide) (by first | rfl | assumption) (19) (rfl) ?_
      refine g_vV1 (pc := 38) (c_X4_copy s5 s19 (by decide) hn4 hn hb6) cf4 (by first | rfl | assumption) dX9_again_38 cw_RX9_215 (by decide) (Nat.le_of_ble_eq_true rfl) ?_
      first | refine g_aload0 (pc := 41) dX9_again_41 ?_ | refine g_aloadN0 (pc := 41) dX9_again_41 ?_
      refine g_getR (pc := 42) (j := 4) cf9 dX9_again_42 fl_RX9_36 (by decide) (by decide) (by first | rfl | assumption) (38) (rfl) ?_
      refine g_vV0 (pc := 45) (c_X1_forgetAll) cf1 (by first | rfl | assumption) dX9_again_45 cw_RX9_88 (by decide) (Nat.le_of_ble_eq_true rfl) ?_
      first | refine g_aload0 (pc := 48) dX9_again_48 ?_ | refine g_aloadN0 (pc := 48) dX9_again_48 ?_
      refine g_getR (pc := 49) (j := 2) cf9 dX9_again_49 fl_RX9_26 (by decide) (by decide) (by first | rfl | assumption) (5) (rfl) ?_
      refine g_getI (pc := 52) (j := 3) cf4 dX9_again_52 fl_RX9_285 (by decide) (by decide) (by first | rfl | assumption) ?_
      refine g_iret (pc := 55) dX9_again_55 rfl ?_
      exact ⟨rfl, rfl, rfl⟩
    · skip
      exact absurd zh19 zh0
  · skip
    exact absurd (by decide) (b01_eq0.mp zh5)
theorem c_X9_keep_1 {n : Nat} {v : Mm} {L : Lm} (hC : CSt v n) : Fn yX9_keep cX9_keep 2 (some .int) 2 [.ref 0, .int 1] v L (some (.int (upd2 (cpM v 26 5 n) 34 1 1 5 3))) (upd2 (cpM v 26 5 n) 34 1 1) L := by
  refine Fq.of (plainFor_of_name (by decide)) [some (.ref 0), some (.int 1)] rfl (Nat.le_of_ble_eq_true rfl) ?_
  refine g_iload1 (pc := 0) dX9_keep_0 ?_
  refine g_iconst (pc := 1) (1) dX9_keep_1 (by decide) ?_
  refine g_fS2 (pc := 2) (c_X9_isWithin) dX9_keep_2 cw_RX9_68 (by decide) (Nat.le_of_ble_eq_true rfl) ?_
  refine g_if_ne (pc := 5) 10 dX9_keep_5 (by decide) (fun zh5 => ?_) (fun zh5 => ?_)
  · skip
    first | refine g_aload0 (pc := 10) dX9_keep_10 ?_ | refine g_aloadN0 (pc := 10) dX9_keep_10 ?_
    refine g_getR (pc := 11) (j := 7) cf9 dX9_keep_11 fl_RX9_56 (by decide) (by decide) (by first | rfl | assumption) (35) (rfl) ?_
    refine g_iload1 (pc := 14) dX9_keep_14 ?_
    refine g_aald (pc := 15) (n := 15) dX9_keep_15 (by first | rfl | assumption) (by decide) (by decide) (vp_in_nI (n := 1) (N := 2) (by decide) (by decide)) (34) (by decide) ?_
    refine g_getR (pc := 16) (j := 0) cf5 dX9_keep_16 fl_RX9_282 (by decide) (by decide) (by first | rfl | assumption) (26) (rfl) ?_
    first | refine g_aload0 (pc := 19) dX9_keep_19 ?_ | refine g_aloadN0 (pc := 19) dX9_keep_19 ?_
    refine g_getR (pc := 20) (j := 2) cf9 dX9_keep_20 fl_RX9_26 (by decide) (by decide) (by first | rfl | assumption) (5) (rfl) ?_
    refine g_vV1 (pc := 23) (c_X4_copy s26 s5 (by decide) hC.1 hC.2.1 (fun zp zh => (hC.2.2 zp zh).2)) cf4 (by first | rfl | assumption) dX9_keep_23 cw_RX9_215 (by decide) (Nat.le_of_ble_eq_true rfl) ?_
    first | refine g_aload0 (pc := 26) dX9_keep_26 ?_ | refine g_aloadN0 (pc := 26) dX9_keep_26 ?_
    refine g_getR (pc := 27) (j := 7) cf9 dX9_keep_27 fl_RX9_56 (by decide) (by decide) (by first | rfl | assumption) (35) (rfl) ?_
    refine g_iload1 (pc := 30) dX9_keep_30 ?_
    refine g_aald (pc := 31) (n := 15) dX9_keep_31 (by first | rfl | assumption) (by decide) (by decide) (vp_in_nI (n := 1) (N := 2) (by decide) (by decide)) (34) (by decide) ?_
    refine g_iconst (pc := 32) (1) dX9_keep_32 (by decide) ?_
    refine g_putZ (pc := 33) (j := 1) cf5 dX9_keep_33 fl_RX9_91 (by decide) rfl rfl (by decide) (by first | rfl | assumption) (by first | exact Or.inl rfl | exact Or.inr rfl | assumption) ?_
    first | refine g_aload0 (pc := 36) dX9_keep_36 ?_ | refine g_aloadN0 (pc := 36) dX9_keep_36 ?_
    refine g_getR (pc := 37) (j := 2) cf9 dX9_keep_37 fl_RX9_26 (by decide) (by decide) (by first | rfl | assumption) (5) (rfl) ?_
    refine g_getI (pc := 40) (j := 3) cf4 dX9_keep_40 fl_RX9_285 (by decide) (by decide) (by first | rfl | assumption) ?_
    refine g_iret (pc := 43) dX9_keep_43 rfl ?_
    exact ⟨rfl, rfl, rfl⟩
  · skip
    exact absurd (by decide) (b01_eq0.mp zh5)
theorem c_X9_again_1n  {v : Mm} {L : Lm} (zh0 : v 34 1 = 0) : Fn yX9_again cX9_again 2 (some .int) 2 [.ref 0, .int 1] v L (some (.int (-3))) v L := by
  refine Fq.of (plainFor_of_name (by decide)) [some (.ref 0), some (.int 1)] rfl (Nat.le_of_ble_eq_true rfl) ?_
  refine g_iload1 (pc := 0) dX9_again_0 ?_
  refine g_iconst (pc := 1) (1) dX9_again_1 (by decide) ?_
  refine g_fS2 (pc := 2) (c_X9_isWithin) dX9_again_2 cw_RX9_68 (by decide) (Nat.le_of_ble_eq_true rfl) ?_
  refine g_if_ne (pc := 5) 10 dX9_again_5 (by decide) (fun zh5 => ?_) (fun zh5 => ?_)
  · skip
    first | refine g_aload0 (pc := 10) dX9_again_10 ?_ | refine g_aloadN0 (pc := 10) dX9_again_10 ?_
    refine g_getR (pc := 11) (j := 7) cf9 dX9_again_11 fl_RX9_56 (by decide) (by decide) (by first | rfl | assumption) (35) (rfl) ?_
    refine g_iload1 (pc := 14) dX9_again_14 ?_
    refine g_aald (pc := 15) (n := 15) dX9_again_15 (by first | rfl | assumption) (by decide) (by decide) (vp_in_nI (n := 1) (N := 2) (by decide) (by decide)) (34) (by decide) ?_
    refine g_getI (pc := 16) (j := 1) cf5 dX9_again_16 fl_RX9_91 (by decide) (by decide) (by first | rfl | assumption) ?_
    refine g_if_ne (pc := 19) 25 dX9_again_19 (by decide) (fun zh19 => ?_) (fun zh19 => ?_)
    · skip
      exact absurd zh0 zh19
    · skip
      refine g_bipush (pc := 22) (-3) dX9_again_22 (by decide) ?_
      refine g_iret (pc := 24) dX9_again_24 rfl ?_
      exact ⟨rfl, rfl, rfl⟩
  · skip
    exact absurd (by decide) (b01_eq0.mp zh5)
theorem c_X9_again_1s {n : Nat} {v : Mm} {L : Lm} (zh0 : ¬ v 34 1 = 0) (hn4 : n ≤ 4) (hn : v 26 2 = nI n) (hb6 : ∀ p, p < n → v (26 + 3 + p) 6 = 0 ∨ v (26 + 3 + p) 6 = 1) : Fn yX9_again cX9_again 2 (some .int) 2 [.ref 0, .int 1] v L (some (.int (upd2 (cpM v 5 26 n) 38 2 0 5 3))) (upd2 (cpM v 5 26 n) 38 2 0) L := by
  refine Fq.of (plainFor_of_name (by decide)) [some (.ref 0), some (.int 1)] rfl (Nat.le_of_ble_eq_true rfl) ?_
  refine g_iload1 (pc := 0) dX9_again_0 ?_
  refine g_iconst (pc := 1) (1) dX9_again_1 (by decide) ?_
  refine g_fS2 (pc := 2) (c_X9_isWithin) dX9_again_2 cw_RX9_68 (by decide) (Nat.le_of_ble_eq_true rfl) ?_
  refine g_if_ne (pc := 5) 10 dX9_again_5 (by decide) (fun zh5 => ?_) (fun zh5 => ?_)
  · skip
    first | refine g_aload0 (pc := 10) dX9_again_10 ?_ | refine g_aloadN0 (pc := 10) dX9_again_10 ?_
    refine g_getR (pc := 11) (j := 7) cf9 dX9_again_11 fl_RX9_56 (by decide) (by decide) (by first | rfl | assumption) (35) (rfl) ?_
    refine g_iload1 (pc := 14) dX9_again_14 ?_
    refine g_aald (pc := 15) (n := 15) dX9_again_15 (by first | rfl | assumption) (by decide) (by decide) (vp_in_nI (n := 1) (N := 2) (by decide) (by decide)) (34) (by decide) ?_
    refine g_getI (pc := 16) (j := 1) cf5 dX9_again_16 fl_RX9_91 (by decide) (by decide) (by first | rfl | assumption) ?_
    refine g_if_ne (pc := 19) 25 dX9_again_19 (by decide) (fun zh19 => ?_) (fun zh19 => ?_)
    · skip
      first | refine g_aload0 (pc := 25) dX9_again_25 ?_ | refine g_aloadN0 (pc := 25) dX9_again_25 ?_
      refine g_getR (pc := 26) (j := 2) cf9 dX9_again_26 fl_RX9_26 (by decide) (by decide) (by first | rfl | assumption) (5) (rfl) ?_
      first | refine g_aload0 (pc := 29) dX9_again_29 ?_ | refine g_aloadN0 (pc := 29) dX9_again_29 ?_
      refine g_getR (pc := 30) (j := 7) cf9 dX9_again_30 fl_RX9_56 (by decide) (by decide) (by first | rfl | assumption) (35) (rfl) ?_
      refine g_iload1 (pc := 33) dX9_again_33 ?_
      refine g_aald (pc := 34) (n := 15) dX9_again_34 (by first | rfl | assumption) (by decide) (by decide) (vp_in_nI (n := 1) (N := 2) (by decide) (by decide)) (34) (by decide) ?_
      refine g_getR (pc := 35) (j := 0) cf5 dX9_again_35 fl_RX9_282 (by decide) (by decide) (by first | rfl | assumption) (26) (rfl) ?_
      refine g_vV1 (pc := 38) (c_X4_copy s5 s26 (by decide) hn4 hn hb6) cf4 (by first | rfl | assumption) dX9_again_38 cw_RX9_215 (by decide) (Nat.le_of_ble_eq_true rfl) ?_
      first | refine g_aload0 (pc := 41) dX9_again_41 ?_ | refine g_aloadN0 (pc := 41) dX9_again_41 ?_
      refine g_getR (pc := 42) (j := 4) cf9 dX9_again_42 fl_RX9_36 (by decide) (by decide) (by first | rfl | assumption) (38) (rfl) ?_
      refine g_vV0 (pc := 45) (c_X1_forgetAll) cf1 (by first | rfl | assumption) dX9_again_45 cw_RX9_88 (by decide) (Nat.le_of_ble_eq_true rfl) ?_
      first | refine g_aload0 (pc := 48) dX9_again_48 ?_ | refine g_aloadN0 (pc := 48) dX9_again_48 ?_
      refine g_getR (pc := 49) (j := 2) cf9 dX9_again_49 fl_RX9_26 (by decide) (by decide) (by first | rfl | assumption) (5) (rfl) ?_
      refine g_getI (pc := 52) (j := 3) cf4 dX9_again_52 fl_RX9_285 (by decide) (by decide) (by first | rfl | assumption) ?_
      refine g_iret (pc := 55) dX9_again_55 rfl ?_
      exact ⟨rfl, rfl, rfl⟩
    · skip
      exact absurd zh19 zh0
  · skip
    exact absurd (by decide) (b01_eq0.mp zh5)
theorem c_X9_count_0 {n : Nat} {v : Mm} {L : Lm} (hC : CSt v n) : Fn yX9_count cX9_count 2 (some .int) 4 [.ref 0, .int 0] v L (some (.int (v 1 1))) v L := by
  refine Fq.of (plainFor_of_name (by decide)) [some (.ref 0), some (.int 0)] rfl (Nat.le_of_ble_eq_true rfl) ?_
  refine g_iload1 (pc := 0) dX9_count_0 ?_
  refine g_tableIn (pc := 1) (off := 55) 56 dX9_count_1 (by decide) (by decide) (by rfl) (by decide) ?_
  first | refine g_aload0 (pc := 56) dX9_count_56 ?_ | refine g_aloadN0 (pc := 56) dX9_count_56 ?_
  refine g_getR (pc := 57) (j := 0) cf9 dX9_count_57 fl_RX9_10 (by decide) (by decide) (by first | rfl | assumption) (1) (rfl) ?_
  refine g_getI (pc := 60) (j := 1) cf6 dX9_count_60 fl_RX9_76 (by decide) (by decide) (by first | rfl | assumption) ?_
  refine g_iret (pc := 63) dX9_count_63 rfl ?_
  exact ⟨rfl, rfl, rfl⟩
theorem c_X9_count_1 {n : Nat} {v : Mm} {L : Lm} (hC : CSt v n) : Fn yX9_count cX9_count 2 (some .int) 4 [.ref 0, .int 1] v L (some (.int (v 5 2))) v L := by
  refine Fq.of (plainFor_of_name (by decide)) [some (.ref 0), some (.int 1)] rfl (Nat.le_of_ble_eq_true rfl) ?_
  refine g_iload1 (pc := 0) dX9_count_0 ?_
  refine g_tableIn (pc := 1) (off := 63) 64 dX9_count_1 (by decide) (by decide) (by rfl) (by decide) ?_
  first | refine g_aload0 (pc := 64) dX9_count_64 ?_ | refine g_aloadN0 (pc := 64) dX9_count_64 ?_
  refine g_getR (pc := 65) (j := 2) cf9 dX9_count_65 fl_RX9_26 (by decide) (by decide) (by first | rfl | assumption) (5) (rfl) ?_
  refine g_getI (pc := 68) (j := 2) cf4 dX9_count_68 fl_RX9_95 (by decide) (by decide) (by first | rfl | assumption) ?_
  refine g_iret (pc := 71) dX9_count_71 rfl ?_
  exact ⟨rfl, rfl, rfl⟩
theorem c_X9_count_2 {n : Nat} {v : Mm} {L : Lm} (hC : CSt v n) : Fn yX9_count cX9_count 2 (some .int) 4 [.ref 0, .int 2] v L (some (.int (v 5 3))) v L := by
  refine Fq.of (plainFor_of_name (by decide)) [some (.ref 0), some (.int 2)] rfl (Nat.le_of_ble_eq_true rfl) ?_
  refine g_iload1 (pc := 0) dX9_count_0 ?_
  refine g_tableIn (pc := 1) (off := 71) 72 dX9_count_1 (by decide) (by decide) (by rfl) (by decide) ?_
  first | refine g_aload0 (pc := 72) dX9_count_72 ?_ | refine g_aloadN0 (pc := 72) dX9_count_72 ?_
  refine g_getR (pc := 73) (j := 2) cf9 dX9_count_73 fl_RX9_26 (by decide) (by decide) (by first | rfl | assumption) (5) (rfl) ?_
  refine g_getI (pc := 76) (j := 3) cf4 dX9_count_76 fl_RX9_285 (by decide) (by decide) (by first | rfl | assumption) ?_
  refine g_iret (pc := 79) dX9_count_79 rfl ?_
  exact ⟨rfl, rfl, rfl⟩
theorem c_X9_count_3 {n : Nat} {v : Mm} {L : Lm} (hC : CSt v n) : Fn yX9_count cX9_count 2 (some .int) 4 [.ref 0, .int 3] v L (some (.int (sumF (v 7) 25))) v L := by
  refine Fq.of (plainFor_of_name (by decide)) [some (.ref 0), some (.int 3)] rfl (Nat.le_of_ble_eq_true rfl) ?_
  refine g_iload1 (pc := 0) dX9_count_0 ?_
  refine g_tableIn (pc := 1) (off := 79) 80 dX9_count_1 (by decide) (by decide) (by rfl) (by decide) ?_
  first | refine g_aload0 (pc := 80) dX9_count_80 ?_ | refine g_aloadN0 (pc := 80) dX9_count_80 ?_
  refine g_getR (pc := 81) (j := 2) cf9 dX9_count_81 fl_RX9_26 (by decide) (by decide) (by first | rfl | assumption) (5) (rfl) ?_
  refine g_fV0 (pc := 84) (c_X4_inkOnAll s5) cf4 (by first | rfl | assumption) dX9_count_84 cw_RX9_279 (by decide) (Nat.le_of_ble_eq_true rfl) ?_
  refine g_iret (pc := 87) dX9_count_87 rfl ?_
  exact ⟨rfl, rfl, rfl⟩
theorem c_X9_count_4 {n : Nat} {v : Mm} {L : Lm} (hC : CSt v n) : Fn yX9_count cX9_count 2 (some .int) 4 [.ref 0, .int 4] v L (some (.int (bitsF (fun i => decide (3 ≤ v 7 i)) 25))) v L := by
  refine Fq.of (plainFor_of_name (by decide)) [some (.ref 0), some (.int 4)] rfl (Nat.le_of_ble_eq_true rfl) ?_
  refine g_iload1 (pc := 0) dX9_count_0 ?_
  refine g_tableIn (pc := 1) (off := 87) 88 dX9_count_1 (by decide) (by decide) (by rfl) (by decide) ?_
  first | refine g_aload0 (pc := 88) dX9_count_88 ?_ | refine g_aloadN0 (pc := 88) dX9_count_88 ?_
  refine g_getR (pc := 89) (j := 2) cf9 dX9_count_89 fl_RX9_26 (by decide) (by decide) (by first | rfl | assumption) (5) (rfl) ?_
  refine g_fV0 (pc := 92) (c_X4_blackBits s5) cf4 (by first | rfl | assumption) dX9_count_92 cw_RX9_288 (by decide) (Nat.le_of_ble_eq_true rfl) ?_
  refine g_iret (pc := 95) dX9_count_95 rfl ?_
  exact ⟨rfl, rfl, rfl⟩
theorem c_X9_count_5 {n : Nat} {v : Mm} {L : Lm} (hC : CSt v n) : Fn yX9_count cX9_count 2 (some .int) 4 [.ref 0, .int 5] v L (some (.int (bitsF (fun i => decide (¬ v (5 + 3 + i) 6 = 0)) n))) v L := by
  refine Fq.of (plainFor_of_name (by decide)) [some (.ref 0), some (.int 5)] rfl (Nat.le_of_ble_eq_true rfl) ?_
  refine g_iload1 (pc := 0) dX9_count_0 ?_
  refine g_tableIn (pc := 1) (off := 95) 96 dX9_count_1 (by decide) (by decide) (by rfl) (by decide) ?_
  first | refine g_aload0 (pc := 96) dX9_count_96 ?_ | refine g_aloadN0 (pc := 96) dX9_count_96 ?_
  refine g_getR (pc := 97) (j := 2) cf9 dX9_count_97 fl_RX9_26 (by decide) (by decide) (by first | rfl | assumption) (5) (rfl) ?_
  refine g_fV0 (pc := 100) (c_X4_downBits s5 hC.1 hC.2.1) cf4 (by first | rfl | assumption) dX9_count_100 cw_RX9_291 (by decide) (Nat.le_of_ble_eq_true rfl) ?_
  refine g_iret (pc := 103) dX9_count_103 rfl ?_
  exact ⟨rfl, rfl, rfl⟩
theorem c_X9_count_6 {n : Nat} {v : Mm} {L : Lm} (hC : CSt v n) : Fn yX9_count cX9_count 2 (some .int) 4 [.ref 0, .int 6] v L (some (.int (bitsF (fun i => decide (v (5 + 3 + i) 4 = v (5 + 3 + i) 5)) n))) v L := by
  refine Fq.of (plainFor_of_name (by decide)) [some (.ref 0), some (.int 6)] rfl (Nat.le_of_ble_eq_true rfl) ?_
  refine g_iload1 (pc := 0) dX9_count_0 ?_
  refine g_tableIn (pc := 1) (off := 103) 104 dX9_count_1 (by decide) (by decide) (by rfl) (by decide) ?_
  first | refine g_aload0 (pc := 104) dX9_count_104 ?_ | refine g_aloadN0 (pc := 104) dX9_count_104 ?_
  refine g_getR (pc := 105) (j := 2) cf9 dX9_count_105 fl_RX9_26 (by decide) (by decide) (by first | rfl | assumption) (5) (rfl) ?_
  refine g_fV0 (pc := 108) (c_X4_fullBits s5 hC.1 hC.2.1) cf4 (by first | rfl | assumption) dX9_count_108 cw_RX9_294 (by decide) (Nat.le_of_ble_eq_true rfl) ?_
  refine g_iret (pc := 111) dX9_count_111 rfl ?_
  exact ⟨rfl, rfl, rfl⟩
theorem c_X9_count_7 {n : Nat} {v : Mm} {L : Lm} (hC : CSt v n) : Fn yX9_count cX9_count 2 (some .int) 4 [.ref 0, .int 7] v L (some (.int (v 3 1))) v L := by
  refine Fq.of (plainFor_of_name (by decide)) [some (.ref 0), some (.int 7)] rfl (Nat.le_of_ble_eq_true rfl) ?_
  refine g_iload1 (pc := 0) dX9_count_0 ?_
  refine g_tableIn (pc := 1) (off := 111) 112 dX9_count_1 (by decide) (by decide) (by rfl) (by decide) ?_
  first | refine g_aload0 (pc := 112) dX9_count_112 ?_ | refine g_aloadN0 (pc := 112) dX9_count_112 ?_
  refine g_getR (pc := 113) (j := 1) cf9 dX9_count_113 fl_RX9_19 (by decide) (by decide) (by first | rfl | assumption) (3) (rfl) ?_
  refine g_getI (pc := 116) (j := 1) cf8 dX9_count_116 fl_RX9_106 (by decide) (by decide) (by first | rfl | assumption) ?_
  refine g_iret (pc := 119) dX9_count_119 rfl ?_
  exact ⟨rfl, rfl, rfl⟩
theorem c_X9_count_8 {n : Nat} {v : Mm} {L : Lm} (hC : CSt v n) : Fn yX9_count cX9_count 2 (some .int) 4 [.ref 0, .int 8] v L (some (.int (v 38 2))) v L := by
  refine Fq.of (plainFor_of_name (by decide)) [some (.ref 0), some (.int 8)] rfl (Nat.le_of_ble_eq_true rfl) ?_
  refine g_iload1 (pc := 0) dX9_count_0 ?_
  refine g_tableIn (pc := 1) (off := 119) 120 dX9_count_1 (by decide) (by decide) (by rfl) (by decide) ?_
  first | refine g_aload0 (pc := 120) dX9_count_120 ?_ | refine g_aloadN0 (pc := 120) dX9_count_120 ?_
  refine g_getR (pc := 121) (j := 4) cf9 dX9_count_121 fl_RX9_36 (by decide) (by decide) (by first | rfl | assumption) (38) (rfl) ?_
  refine g_getI (pc := 124) (j := 2) cf1 dX9_count_124 fl_RX9_179 (by decide) (by decide) (by first | rfl | assumption) ?_
  refine g_iret (pc := 127) dX9_count_127 rfl ?_
  exact ⟨rfl, rfl, rfl⟩
theorem c_X9_count_9 {n : Nat} {v : Mm} {L : Lm} (hC : CSt v n) : Fn yX9_count cX9_count 2 (some .int) 4 [.ref 0, .int 9] v L (some (.int (v 68 3))) v L := by
  refine Fq.of (plainFor_of_name (by decide)) [some (.ref 0), some (.int 9)] rfl (Nat.le_of_ble_eq_true rfl) ?_
  refine g_iload1 (pc := 0) dX9_count_0 ?_
  refine g_tableIn (pc := 1) (off := 127) 128 dX9_count_1 (by decide) (by decide) (by rfl) (by decide) ?_
  first | refine g_aload0 (pc := 128) dX9_count_128 ?_ | refine g_aloadN0 (pc := 128) dX9_count_128 ?_
  refine g_getR (pc := 129) (j := 5) cf9 dX9_count_129 fl_RX9_43 (by decide) (by decide) (by first | rfl | assumption) (68) (rfl) ?_
  refine g_getI (pc := 132) (j := 3) cf3 dX9_count_132 fl_RX9_228 (by decide) (by decide) (by first | rfl | assumption) ?_
  refine g_iret (pc := 135) dX9_count_135 rfl ?_
  exact ⟨rfl, rfl, rfl⟩
theorem c_X9_count_o {y : Int32} {v : Mm} {L : Lm} (hy : y.toInt < 0 ∨ 9 < y.toInt) : Fn yX9_count cX9_count 2 (some .int) 4 [.ref 0, .int y] v L (some (.int (-2))) v L := by
  refine Fq.of (plainFor_of_name (by decide)) [some (.ref 0), some (.int y)] rfl (Nat.le_of_ble_eq_true rfl) ?_
  refine g_iload1 (pc := 0) dX9_count_0 ?_
  refine g_tableOut (pc := 1) 136 dX9_count_1 hy (by decide) ?_
  refine g_bipush (pc := 136) (-2) dX9_count_136 (by decide) ?_
  refine g_iret (pc := 138) dX9_count_138 rfl ?_
  exact ⟨rfl, rfl, rfl⟩
theorem c_X9_least_u1 {n : Nat} {x y z : Int32} {v : Mm} {L : Lm} (hC : CSt v n) (hx : ¬ (0 ≤ x ∧ x < nI n)) : Fn yX9_least cX9_least 5 (some .int) 5 [.ref 0, .int x, .int y, .int z] v L (some (.int (-1))) v L := by
  refine Fq.of (plainFor_of_name (by decide)) [some (.ref 0), some (.int x), some (.int y), some (.int z), none] rfl (Nat.le_of_ble_eq_true rfl) ?_
  first | refine g_aload0 (pc := 0) dX9_least_0 ?_ | refine g_aloadN0 (pc := 0) dX9_least_0 ?_
  refine g_getR (pc := 1) (j := 2) cf9 dX9_least_1 fl_RX9_26 (by decide) (by decide) (by first | rfl | assumption) (5) (rfl) ?_
  refine g_iload1 (pc := 4) dX9_least_4 ?_
  refine g_fV1 (pc := 5) (c_X4_find_n (S := 5) s5 (fun zq => hx ⟨zq.1, by rw [← hC.2.1]; exact zq.2.1⟩)) cf4 (by first | rfl | assumption) dX9_least_5 cw_RX9_111 (by decide) (Nat.le_of_ble_eq_true rfl) ?_
  first | refine g_astore4 (pc := 8) dX9_least_8 (by decide) (by first | rfl | assumption) ?_ | refine g_astoreN4 (pc := 8) dX9_least_8 (by decide) (by first | rfl | assumption) ?_
  first | refine g_aload4 (pc := 10) dX9_least_10 ?_ | refine g_aloadN4 (pc := 10) dX9_least_10 ?_
  refine g_ifnullN (pc := 12) 22 dX9_least_12 (by decide) ?_
  refine g_iconst (pc := 22) (-1) dX9_least_22 (by decide) ?_
  refine g_iret (pc := 23) dX9_least_23 rfl ?_
  exact ⟨rfl, rfl, rfl⟩
theorem c_X9_least_u2 {n p : Nat} {y z : Int32} {v : Mm} {L : Lm} (hC : CSt v n) (hp : p < n) (hy : ¬ (0 ≤ y ∧ y < 25)) : Fn yX9_least cX9_least 5 (some .int) 5 [.ref 0, .int (nI p), .int y, .int z] v L (some (.int (-1))) v L := by
  have hkp : kd (5 + 3 + p) = 2 := sh_kp s5 (by have := hC.1; omega)
  have hn4 := hC.1
  refine Fq.of (plainFor_of_name (by decide)) [some (.ref 0), some (.int (nI p)), some (.int y), some (.int z), none] rfl (Nat.le_of_ble_eq_true rfl) ?_
  first | refine g_aload0 (pc := 0) dX9_least_0 ?_ | refine g_aloadN0 (pc := 0) dX9_least_0 ?_
  refine g_getR (pc := 1) (j := 2) cf9 dX9_least_1 fl_RX9_26 (by decide) (by decide) (by first | rfl | assumption) (5) (rfl) ?_
  refine g_iload1 (pc := 4) dX9_least_4 ?_
  refine g_fV1 (pc := 5) (c_X4_find_s (S := 5) (i := p) s5 (by have := hC.1; omega) (by rw [hC.2.1]; exact nI_lt hp (by have := hC.1; omega))) cf4 (by first | rfl | assumption) dX9_least_5 cw_RX9_111 (by decide) (Nat.le_of_ble_eq_true rfl) ?_
  first | refine g_astore4 (pc := 8) dX9_least_8 (by decide) (by first | rfl | assumption) ?_ | refine g_astoreN4 (pc := 8) dX9_least_8 (by decide) (by first | rfl | assumption) ?_
  first | refine g_aload4 (pc := 10) dX9_least_10 ?_ | refine g_aloadN4 (pc := 10) dX9_least_10 ?_
  refine g_ifnull (pc := 12) dX9_least_12 ?_
  refine g_iload2 (pc := 15) dX9_least_15 ?_
  refine g_fS1 (pc := 16) (c_X9_isDot) dX9_least_16 cw_RX9_139 (by decide) (Nat.le_of_ble_eq_true rfl) ?_
  refine g_if_ne (pc := 19) 24 dX9_least_19 (by decide) (fun zh19 => ?_) (fun zh19 => ?_)
  · skip
    exact absurd (b01_ne0.mp zh19) hy
  · skip
    refine g_iconst (pc := 22) (-1) dX9_least_22 (by decide) ?_
    refine g_iret (pc := 23) dX9_least_23 rfl ?_
    exact ⟨rfl, rfl, rfl⟩
theorem c_X9_least_o {n p q : Nat} {z : Int32} {v : Mm} {L : Lm} (hC : CSt v n) (hp : p < n) (hq : q < 25) (hz : ¬ (0 ≤ z ∧ z ≤ 2)) : Fn yX9_least cX9_least 5 (some .int) 5 [.ref 0, .int (nI p), .int (nI q), .int z] v L (some (.int (-2))) v L := by
  have hkp : kd (5 + 3 + p) = 2 := sh_kp s5 (by have := hC.1; omega)
  have hn4 := hC.1
  refine Fq.of (plainFor_of_name (by decide)) [some (.ref 0), some (.int (nI p)), some (.int (nI q)), some (.int z), none] rfl (Nat.le_of_ble_eq_true rfl) ?_
  first | refine g_aload0 (pc := 0) dX9_least_0 ?_ | refine g_aloadN0 (pc := 0) dX9_least_0 ?_
  refine g_getR (pc := 1) (j := 2) cf9 dX9_least_1 fl_RX9_26 (by decide) (by decide) (by first | rfl | assumption) (5) (rfl) ?_
  refine g_iload1 (pc := 4) dX9_least_4 ?_
  refine g_fV1 (pc := 5) (c_X4_find_s (S := 5) (i := p) s5 (by have := hC.1; omega) (by rw [hC.2.1]; exact nI_lt hp (by have := hC.1; omega))) cf4 (by first | rfl | assumption) dX9_least_5 cw_RX9_111 (by decide) (Nat.le_of_ble_eq_true rfl) ?_
  first | refine g_astore4 (pc := 8) dX9_least_8 (by decide) (by first | rfl | assumption) ?_ | refine g_astoreN4 (pc := 8) dX9_least_8 (by decide) (by first | rfl | assumption) ?_
  first | refine g_aload4 (pc := 10) dX9_least_10 ?_ | refine g_aloadN4 (pc := 10) dX9_least_10 ?_
  refine g_ifnull (pc := 12) dX9_least_12 ?_
  refine g_iload2 (pc := 15) dX9_least_15 ?_
  refine g_fS1 (pc := 16) (c_X9_isDot) dX9_least_16 cw_RX9_139 (by decide) (Nat.le_of_ble_eq_true rfl) ?_
  refine g_if_ne (pc := 19) 24 dX9_least_19 (by decide) (fun zh19 => ?_) (fun zh19 => ?_)
  · skip
    refine g_iload3 (pc := 24) dX9_least_24 ?_
    refine g_iconst (pc := 25) (2) dX9_least_25 (by decide) ?_
    refine g_fS2 (pc := 26) (c_X9_isWithin) dX9_least_26 cw_RX9_68 (by decide) (Nat.le_of_ble_eq_true rfl) ?_
    refine g_if_ne (pc := 29) 35 dX9_least_29 (by decide) (fun zh29 => ?_) (fun zh29 => ?_)
    · skip
      exact absurd (b01_ne0.mp zh29) hz
    · skip
      refine g_bipush (pc := 32) (-2) dX9_least_32 (by decide) ?_
      refine g_iret (pc := 34) dX9_least_34 rfl ?_
      exact ⟨rfl, rfl, rfl⟩
  · skip
    exact absurd (of_d25 hq) (b01_eq0.mp zh19)
theorem c_X9_least_0 {n p q : Nat} {v : Mm} {L : Lm} (hC : CSt v n) (hp : p < n) (hq : q < 25) : Fn yX9_least cX9_least 5 (some .int) 5 [.ref 0, .int (nI p), .int (nI q), .int 0] v L (some (.int (cfF (rkM v (5 + 3 + p) (nI q)) ((rkM v (5 + 3 + p) (nI q)) (5 + 3 + p) 0) / 100))) (rkM v (5 + 3 + p) (nI q)) L := by
  have hkp : kd (5 + 3 + p) = 2 := sh_kp s5 (by have := hC.1; omega)
  have hn4 := hC.1
  refine Fq.of (plainFor_of_name (by decide)) [some (.ref 0), some (.int (nI p)), some (.int (nI q)), some (.int 0), none] rfl (Nat.le_of_ble_eq_true rfl) ?_
  first | refine g_aload0 (pc := 0) dX9_least_0 ?_ | refine g_aloadN0 (pc := 0) dX9_least_0 ?_
  refine g_getR (pc := 1) (j := 2) cf9 dX9_least_1 fl_RX9_26 (by decide) (by decide) (by first | rfl | assumption) (5) (rfl) ?_
  refine g_iload1 (pc := 4) dX9_least_4 ?_
  refine g_fV1 (pc := 5) (c_X4_find_s (S := 5) (i := p) s5 (by have := hC.1; omega) (by rw [hC.2.1]; exact nI_lt hp (by have := hC.1; omega))) cf4 (by first | rfl | assumption) dX9_least_5 cw_RX9_111 (by decide) (Nat.le_of_ble_eq_true rfl) ?_
  first | refine g_astore4 (pc := 8) dX9_least_8 (by decide) (by first | rfl | assumption) ?_ | refine g_astoreN4 (pc := 8) dX9_least_8 (by decide) (by first | rfl | assumption) ?_
  first | refine g_aload4 (pc := 10) dX9_least_10 ?_ | refine g_aloadN4 (pc := 10) dX9_least_10 ?_
  refine g_ifnull (pc := 12) dX9_least_12 ?_
  refine g_iload2 (pc := 15) dX9_least_15 ?_
  refine g_fS1 (pc := 16) (c_X9_isDot) dX9_least_16 cw_RX9_139 (by decide) (Nat.le_of_ble_eq_true rfl) ?_
  refine g_if_ne (pc := 19) 24 dX9_least_19 (by decide) (fun zh19 => ?_) (fun zh19 => ?_)
  · skip
    refine g_iload3 (pc := 24) dX9_least_24 ?_
    refine g_iconst (pc := 25) (2) dX9_least_25 (by decide) ?_
    refine g_fS2 (pc := 26) (c_X9_isWithin) dX9_least_26 cw_RX9_68 (by decide) (Nat.le_of_ble_eq_true rfl) ?_
    refine g_if_ne (pc := 29) 35 dX9_least_29 (by decide) (fun zh29 => ?_) (fun zh29 => ?_)
    · skip
      first | refine g_aload0 (pc := 35) dX9_least_35 ?_ | refine g_aloadN0 (pc := 35) dX9_least_35 ?_
      refine g_getR (pc := 36) (j := 6) cf9 dX9_least_36 fl_RX9_50 (by decide) (by decide) (by first | rfl | assumption) (72) (rfl) ?_
      refine g_iload2 (pc := 39) dX9_least_39 ?_
      first | refine g_aload4 (pc := 40) dX9_least_40 ?_ | refine g_aloadN4 (pc := 40) dX9_least_40 ?_
      refine g_vV2 (pc := 42) (c_X7_reckonTo hkp) cf7 (by first | rfl | assumption) dX9_least_42 cw_RX9_192 (by decide) (Nat.le_of_ble_eq_true rfl) ?_
      refine g_iload3 (pc := 45) dX9_least_45 ?_
      refine g_lookup (pc := 46) (off := 26) 72 dX9_least_46 (by decide) (by decide) (by decide) ?_
      first | refine g_aload0 (pc := 72) dX9_least_72 ?_ | refine g_aloadN0 (pc := 72) dX9_least_72 ?_
      refine g_getR (pc := 73) (j := 6) cf9 dX9_least_73 fl_RX9_50 (by decide) (by decide) (by first | rfl | assumption) (72) (rfl) ?_
      first | refine g_aload4 (pc := 76) dX9_least_76 ?_ | refine g_aloadN4 (pc := 76) dX9_least_76 ?_
      refine g_getI (pc := 78) (j := 0) cf2 dX9_least_78 fl_RX9_115 (by decide) (by decide) (by first | rfl | assumption) ?_
      refine g_fV1 (pc := 81) (c_X7_inkFrom) cf7 (by first | rfl | assumption) dX9_least_81 cw_RX9_196 (by decide) (Nat.le_of_ble_eq_true rfl) ?_
      refine g_iret (pc := 84) dX9_least_84 rfl ?_
      exact ⟨rfl, rfl, rfl⟩
    · skip
      exact absurd (by decide) (b01_eq0.mp zh29)
  · skip
    exact absurd (of_d25 hq) (b01_eq0.mp zh19)
theorem c_X9_least_1 {n p q : Nat} {v : Mm} {L : Lm} (hC : CSt v n) (hp : p < n) (hq : q < 25) : Fn yX9_least cX9_least 5 (some .int) 5 [.ref 0, .int (nI p), .int (nI q), .int 1] v L (some (.int (rem32 (cfF (rkM v (5 + 3 + p) (nI q)) ((rkM v (5 + 3 + p) (nI q)) (5 + 3 + p) 0)) 100))) (rkM v (5 + 3 + p) (nI q)) L := by
  have hkp : kd (5 + 3 + p) = 2 := sh_kp s5 (by have := hC.1; omega)
  have hn4 := hC.1
  refine Fq.of (plainFor_of_name (by decide)) [some (.ref 0), some (.int (nI p)), some (.int (nI q)), some (.int 1), none] rfl (Nat.le_of_ble_eq_true rfl) ?_
  first | refine g_aload0 (pc := 0) dX9_least_0 ?_ | refine g_aloadN0 (pc := 0) dX9_least_0 ?_
  refine g_getR (pc := 1) (j := 2) cf9 dX9_least_1 fl_RX9_26 (by decide) (by decide) (by first | rfl | assumption) (5) (rfl) ?_
  refine g_iload1 (pc := 4) dX9_least_4 ?_
  refine g_fV1 (pc := 5) (c_X4_find_s (S := 5) (i := p) s5 (by have := hC.1; omega) (by rw [hC.2.1]; exact nI_lt hp (by have := hC.1; omega))) cf4 (by first | rfl | assumption) dX9_least_5 cw_RX9_111 (by decide) (Nat.le_of_ble_eq_true rfl) ?_
  first | refine g_astore4 (pc := 8) dX9_least_8 (by decide) (by first | rfl | assumption) ?_ | refine g_astoreN4 (pc := 8) dX9_least_8 (by decide) (by first | rfl | assumption) ?_
  first | refine g_aload4 (pc := 10) dX9_least_10 ?_ | refine g_aloadN4 (pc := 10) dX9_least_10 ?_
  refine g_ifnull (pc := 12) dX9_least_12 ?_
  refine g_iload2 (pc := 15) dX9_least_15 ?_
  refine g_fS1 (pc := 16) (c_X9_isDot) dX9_least_16 cw_RX9_139 (by decide) (Nat.le_of_ble_eq_true rfl) ?_
  refine g_if_ne (pc := 19) 24 dX9_least_19 (by decide) (fun zh19 => ?_) (fun zh19 => ?_)
  · skip
    refine g_iload3 (pc := 24) dX9_least_24 ?_
    refine g_iconst (pc := 25) (2) dX9_least_25 (by decide) ?_
    refine g_fS2 (pc := 26) (c_X9_isWithin) dX9_least_26 cw_RX9_68 (by decide) (Nat.le_of_ble_eq_true rfl) ?_
    refine g_if_ne (pc := 29) 35 dX9_least_29 (by decide) (fun zh29 => ?_) (fun zh29 => ?_)
    · skip
      first | refine g_aload0 (pc := 35) dX9_least_35 ?_ | refine g_aloadN0 (pc := 35) dX9_least_35 ?_
      refine g_getR (pc := 36) (j := 6) cf9 dX9_least_36 fl_RX9_50 (by decide) (by decide) (by first | rfl | assumption) (72) (rfl) ?_
      refine g_iload2 (pc := 39) dX9_least_39 ?_
      first | refine g_aload4 (pc := 40) dX9_least_40 ?_ | refine g_aloadN4 (pc := 40) dX9_least_40 ?_
      refine g_vV2 (pc := 42) (c_X7_reckonTo hkp) cf7 (by first | rfl | assumption) dX9_least_42 cw_RX9_192 (by decide) (Nat.le_of_ble_eq_true rfl) ?_
      refine g_iload3 (pc := 45) dX9_least_45 ?_
      refine g_lookup (pc := 46) (off := 39) 85 dX9_least_46 (by decide) (by decide) (by decide) ?_
      first | refine g_aload0 (pc := 85) dX9_least_85 ?_ | refine g_aloadN0 (pc := 85) dX9_least_85 ?_
      refine g_getR (pc := 86) (j := 6) cf9 dX9_least_86 fl_RX9_50 (by decide) (by decide) (by first | rfl | assumption) (72) (rfl) ?_
      first | refine g_aload4 (pc := 89) dX9_least_89 ?_ | refine g_aloadN4 (pc := 89) dX9_least_89 ?_
      refine g_getI (pc := 91) (j := 0) cf2 dX9_least_91 fl_RX9_115 (by decide) (by decide) (by first | rfl | assumption) ?_
      refine g_fV1 (pc := 94) (c_X7_stepsFrom) cf7 (by first | rfl | assumption) dX9_least_94 cw_RX9_199 (by decide) (Nat.le_of_ble_eq_true rfl) ?_
      refine g_iret (pc := 97) dX9_least_97 rfl ?_
      exact ⟨rfl, rfl, rfl⟩
    · skip
      exact absurd (by decide) (b01_eq0.mp zh29)
  · skip
    exact absurd (of_d25 hq) (b01_eq0.mp zh19)
theorem c_X9_least_2 {n p q : Nat} {v : Mm} {L : Lm} (hC : CSt v n) (hp : p < n) (hq : q < 25) : Fn yX9_least cX9_least 5 (some .int) 5 [.ref 0, .int (nI p), .int (nI q), .int 2] v L (some (.int (dfR (rkM v (5 + 3 + p) (nI q)) ((rkM v (5 + 3 + p) (nI q)) (5 + 3 + p) 0) (cfF (rkM v (5 + 3 + p) (nI q)) ((rkM v (5 + 3 + p) (nI q)) (5 + 3 + p) 0)) 8 0))) (rkM v (5 + 3 + p) (nI q)) L := by
  have hkp : kd (5 + 3 + p) = 2 := sh_kp s5 (by have := hC.1; omega)
  have hn4 := hC.1
  refine Fq.of (plainFor_of_name (by decide)) [some (.ref 0), some (.int (nI p)), some (.int (nI q)), some (.int 2), none] rfl (Nat.le_of_ble_eq_true rfl) ?_
  first | refine g_aload0 (pc := 0) dX9_least_0 ?_ | refine g_aloadN0 (pc := 0) dX9_least_0 ?_
  refine g_getR (pc := 1) (j := 2) cf9 dX9_least_1 fl_RX9_26 (by decide) (by decide) (by first | rfl | assumption) (5) (rfl) ?_
  refine g_iload1 (pc := 4) dX9_least_4 ?_
  refine g_fV1 (pc := 5) (c_X4_find_s (S := 5) (i := p) s5 (by have := hC.1; omega) (by rw [hC.2.1]; exact nI_lt hp (by have := hC.1; omega))) cf4 (by first | rfl | assumption) dX9_least_5 cw_RX9_111 (by decide) (Nat.le_of_ble_eq_true rfl) ?_
  first | refine g_astore4 (pc := 8) dX9_least_8 (by decide) (by first | rfl | assumption) ?_ | refine g_astoreN4 (pc := 8) dX9_least_8 (by decide) (by first | rfl | assumption) ?_
  first | refine g_aload4 (pc := 10) dX9_least_10 ?_ | refine g_aloadN4 (pc := 10) dX9_least_10 ?_
  refine g_ifnull (pc := 12) dX9_least_12 ?_
  refine g_iload2 (pc := 15) dX9_least_15 ?_
  refine g_fS1 (pc := 16) (c_X9_isDot) dX9_least_16 cw_RX9_139 (by decide) (Nat.le_of_ble_eq_true rfl) ?_
  refine g_if_ne (pc := 19) 24 dX9_least_19 (by decide) (fun zh19 => ?_) (fun zh19 => ?_)
  · skip
    refine g_iload3 (pc := 24) dX9_least_24 ?_
    refine g_iconst (pc := 25) (2) dX9_least_25 (by decide) ?_
    refine g_fS2 (pc := 26) (c_X9_isWithin) dX9_least_26 cw_RX9_68 (by decide) (Nat.le_of_ble_eq_true rfl) ?_
    refine g_if_ne (pc := 29) 35 dX9_least_29 (by decide) (fun zh29 => ?_) (fun zh29 => ?_)
    · skip
      first | refine g_aload0 (pc := 35) dX9_least_35 ?_ | refine g_aloadN0 (pc := 35) dX9_least_35 ?_
      refine g_getR (pc := 36) (j := 6) cf9 dX9_least_36 fl_RX9_50 (by decide) (by decide) (by first | rfl | assumption) (72) (rfl) ?_
      refine g_iload2 (pc := 39) dX9_least_39 ?_
      first | refine g_aload4 (pc := 40) dX9_least_40 ?_ | refine g_aloadN4 (pc := 40) dX9_least_40 ?_
      refine g_vV2 (pc := 42) (c_X7_reckonTo hkp) cf7 (by first | rfl | assumption) dX9_least_42 cw_RX9_192 (by decide) (Nat.le_of_ble_eq_true rfl) ?_
      refine g_iload3 (pc := 45) dX9_least_45 ?_
      refine g_lookup (pc := 46) (off := 52) 98 dX9_least_46 (by decide) (by decide) (by decide) ?_
      first | refine g_aload0 (pc := 98) dX9_least_98 ?_ | refine g_aloadN0 (pc := 98) dX9_least_98 ?_
      refine g_getR (pc := 99) (j := 6) cf9 dX9_least_99 fl_RX9_50 (by decide) (by decide) (by first | rfl | assumption) (72) (rfl) ?_
      first | refine g_aload4 (pc := 102) dX9_least_102 ?_ | refine g_aloadN4 (pc := 102) dX9_least_102 ?_
      refine g_getI (pc := 104) (j := 0) cf2 dX9_least_104 fl_RX9_115 (by decide) (by decide) (by first | rfl | assumption) ?_
      refine g_fV1 (pc := 107) (c_X7_directionFrom) cf7 (by first | rfl | assumption) dX9_least_107 cw_RX9_202 (by decide) (Nat.le_of_ble_eq_true rfl) ?_
      refine g_iret (pc := 110) dX9_least_110 rfl ?_
      exact ⟨rfl, rfl, rfl⟩
    · skip
      exact absurd (by decide) (b01_eq0.mp zh29)
  · skip
    exact absurd (of_d25 hq) (b01_eq0.mp zh19)
theorem c_X9_rings_u {n : Nat} {x y z : Int32} {v : Mm} {L : Lm} (hC : CSt v n) (hx : ¬ (0 ≤ x ∧ x < nI n)) : Fn yX9_rings cX9_rings 5 (some .int) 4 [.ref 0, .int x, .int y, .int z] v L (some (.int (-1))) v L := by
  refine Fq.of (plainFor_of_name (by decide)) [some (.ref 0), some (.int x), some (.int y), some (.int z), none] rfl (Nat.le_of_ble_eq_true rfl) ?_
  first | refine g_aload0 (pc := 0) dX9_rings_0 ?_ | refine g_aloadN0 (pc := 0) dX9_rings_0 ?_
  refine g_getR (pc := 1) (j := 2) cf9 dX9_rings_1 fl_RX9_26 (by decide) (by decide) (by first | rfl | assumption) (5) (rfl) ?_
  refine g_iload1 (pc := 4) dX9_rings_4 ?_
  refine g_fV1 (pc := 5) (c_X4_find_n (S := 5) s5 (fun zq => hx ⟨zq.1, by rw [← hC.2.1]; exact zq.2.1⟩)) cf4 (by first | rfl | assumption) dX9_rings_5 cw_RX9_111 (by decide) (Nat.le_of_ble_eq_true rfl) ?_
  first | refine g_astore4 (pc := 8) dX9_rings_8 (by decide) (by first | rfl | assumption) ?_ | refine g_astoreN4 (pc := 8) dX9_rings_8 (by decide) (by first | rfl | assumption) ?_
  first | refine g_aload4 (pc := 10) dX9_rings_10 ?_ | refine g_aloadN4 (pc := 10) dX9_rings_10 ?_
  refine g_ifnonnullN (pc := 12) dX9_rings_12 ?_
  refine g_iconst (pc := 15) (-1) dX9_rings_15 (by decide) ?_
  refine g_iret (pc := 16) dX9_rings_16 rfl ?_
  exact ⟨rfl, rfl, rfl⟩
theorem c_X9_rings_o {n p : Nat} {y z : Int32} {v : Mm} {L : Lm} (hC : CSt v n) (hp : p < n) (hy : ¬ ((1 ≤ y ∧ y ≤ 4) ∧ (0 ≤ z ∧ z ≤ 1))) : Fn yX9_rings cX9_rings 5 (some .int) 4 [.ref 0, .int (nI p), .int y, .int z] v L (some (.int (-2))) v L := by
  have hkp : kd (5 + 3 + p) = 2 := sh_kp s5 (by have := hC.1; omega)
  have hn4 := hC.1
  refine Fq.of (plainFor_of_name (by decide)) [some (.ref 0), some (.int (nI p)), some (.int y), some (.int z), none] rfl (Nat.le_of_ble_eq_true rfl) ?_
  first | refine g_aload0 (pc := 0) dX9_rings_0 ?_ | refine g_aloadN0 (pc := 0) dX9_rings_0 ?_
  refine g_getR (pc := 1) (j := 2) cf9 dX9_rings_1 fl_RX9_26 (by decide) (by decide) (by first | rfl | assumption) (5) (rfl) ?_
  refine g_iload1 (pc := 4) dX9_rings_4 ?_
  refine g_fV1 (pc := 5) (c_X4_find_s (S := 5) (i := p) s5 (by have := hC.1; omega) (by rw [hC.2.1]; exact nI_lt hp (by have := hC.1; omega))) cf4 (by first | rfl | assumption) dX9_rings_5 cw_RX9_111 (by decide) (Nat.le_of_ble_eq_true rfl) ?_
  first | refine g_astore4 (pc := 8) dX9_rings_8 (by decide) (by first | rfl | assumption) ?_ | refine g_astoreN4 (pc := 8) dX9_rings_8 (by decide) (by first | rfl | assumption) ?_
  first | refine g_aload4 (pc := 10) dX9_rings_10 ?_ | refine g_aloadN4 (pc := 10) dX9_rings_10 ?_
  refine g_ifnonnull (pc := 12) 17 dX9_rings_12 (by decide) ?_
  refine g_iload2 (pc := 17) dX9_rings_17 ?_
  refine g_iconst (pc := 18) (1) dX9_rings_18 (by decide) ?_
  refine g_icmp_lt (pc := 19) 35 dX9_rings_19 (by decide) (fun zh19 => ?_) (fun zh19 => ?_)
  · skip
    refine g_bipush (pc := 35) (-2) dX9_rings_35 (by decide) ?_
    refine g_iret (pc := 37) dX9_rings_37 rfl ?_
    exact ⟨rfl, rfl, rfl⟩
  · skip
    refine g_iload2 (pc := 22) dX9_rings_22 ?_
    refine g_iconst (pc := 23) (4) dX9_rings_23 (by decide) ?_
    refine g_icmp_gt (pc := 24) 35 dX9_rings_24 (by decide) (fun zh24 => ?_) (fun zh24 => ?_)
    · skip
      refine g_bipush (pc := 35) (-2) dX9_rings_35 (by decide) ?_
      refine g_iret (pc := 37) dX9_rings_37 rfl ?_
      exact ⟨rfl, rfl, rfl⟩
    · skip
      refine g_iload3 (pc := 27) dX9_rings_27 ?_
      refine g_iconst (pc := 28) (1) dX9_rings_28 (by decide) ?_
      refine g_fS2 (pc := 29) (c_X9_isWithin) dX9_rings_29 cw_RX9_68 (by decide) (Nat.le_of_ble_eq_true rfl) ?_
      refine g_if_ne (pc := 32) 38 dX9_rings_32 (by decide) (fun zh32 => ?_) (fun zh32 => ?_)
      · skip
        exact absurd ⟨⟨i32nlt.mp zh19, i32nlt.mp zh24⟩, b01_ne0.mp zh32⟩ hy
      · skip
        refine g_bipush (pc := 35) (-2) dX9_rings_35 (by decide) ?_
        refine g_iret (pc := 37) dX9_rings_37 rfl ?_
        exact ⟨rfl, rfl, rfl⟩
theorem c_X9_rings_0 {n p q : Nat} {v : Mm} {L : Lm} (hC : CSt v n) (hp : p < n) (hq1 : 1 ≤ q) (hq4 : q ≤ 4) : Fn yX9_rings cX9_rings 5 (some .int) 4 [.ref 0, .int (nI p), .int (nI q), .int 0] v L (some (.int (rtF (itr (fun _ w => wkO w (5 + 3 + p)) q (wkM0 v (v (5 + 3 + p) 0))) ((itr (fun _ w => wkO w (5 + 3 + p)) q (wkM0 v (v (5 + 3 + p) 0))) (5 + 3 + p) 0)))) (itr (fun _ w => wkO w (5 + 3 + p)) q (wkM0 v (v (5 + 3 + p) 0))) L := by
  have hkp : kd (5 + 3 + p) = 2 := sh_kp s5 (by have := hC.1; omega)
  have hn4 := hC.1
  refine Fq.of (plainFor_of_name (by decide)) [some (.ref 0), some (.int (nI p)), some (.int (nI q)), some (.int 0), none] rfl (Nat.le_of_ble_eq_true rfl) ?_
  first | refine g_aload0 (pc := 0) dX9_rings_0 ?_ | refine g_aloadN0 (pc := 0) dX9_rings_0 ?_
  refine g_getR (pc := 1) (j := 2) cf9 dX9_rings_1 fl_RX9_26 (by decide) (by decide) (by first | rfl | assumption) (5) (rfl) ?_
  refine g_iload1 (pc := 4) dX9_rings_4 ?_
  refine g_fV1 (pc := 5) (c_X4_find_s (S := 5) (i := p) s5 (by have := hC.1; omega) (by rw [hC.2.1]; exact nI_lt hp (by have := hC.1; omega))) cf4 (by first | rfl | assumption) dX9_rings_5 cw_RX9_111 (by decide) (Nat.le_of_ble_eq_true rfl) ?_
  first | refine g_astore4 (pc := 8) dX9_rings_8 (by decide) (by first | rfl | assumption) ?_ | refine g_astoreN4 (pc := 8) dX9_rings_8 (by decide) (by first | rfl | assumption) ?_
  first | refine g_aload4 (pc := 10) dX9_rings_10 ?_ | refine g_aloadN4 (pc := 10) dX9_rings_10 ?_
  refine g_ifnonnull (pc := 12) 17 dX9_rings_12 (by decide) ?_
  refine g_iload2 (pc := 17) dX9_rings_17 ?_
  refine g_iconst (pc := 18) (1) dX9_rings_18 (by decide) ?_
  refine g_icmp_lt (pc := 19) 35 dX9_rings_19 (by decide) (fun zh19 => ?_) (fun zh19 => ?_)
  · skip
    exact absurd zh19 (nI_nlt (b := 1) hq1 (by omega))
  · skip
    refine g_iload2 (pc := 22) dX9_rings_22 ?_
    refine g_iconst (pc := 23) (4) dX9_rings_23 (by decide) ?_
    refine g_icmp_gt (pc := 24) 35 dX9_rings_24 (by decide) (fun zh24 => ?_) (fun zh24 => ?_)
    · skip
      exact absurd zh24 (nI_nlt (a := 4) hq4 (by decide))
    · skip
      refine g_iload3 (pc := 27) dX9_rings_27 ?_
      refine g_iconst (pc := 28) (1) dX9_rings_28 (by decide) ?_
      refine g_fS2 (pc := 29) (c_X9_isWithin) dX9_rings_29 cw_RX9_68 (by decide) (Nat.le_of_ble_eq_true rfl) ?_
      refine g_if_ne (pc := 32) 38 dX9_rings_32 (by decide) (fun zh32 => ?_) (fun zh32 => ?_)
      · skip
        first | refine g_aload0 (pc := 38) dX9_rings_38 ?_ | refine g_aloadN0 (pc := 38) dX9_rings_38 ?_
        refine g_getR (pc := 39) (j := 6) cf9 dX9_rings_39 fl_RX9_50 (by decide) (by decide) (by first | rfl | assumption) (72) (rfl) ?_
        first | refine g_aload4 (pc := 42) dX9_rings_42 ?_ | refine g_aloadN4 (pc := 42) dX9_rings_42 ?_
        refine g_iload2 (pc := 44) dX9_rings_44 ?_
        refine g_vV2 (pc := 45) (c_X7_walk hkp hq4) cf7 (by first | rfl | assumption) dX9_rings_45 cw_RX9_205 (by decide) (Nat.le_of_ble_eq_true rfl) ?_
        refine g_iload3 (pc := 48) dX9_rings_48 ?_
        refine g_if_ne (pc := 49) 67 dX9_rings_49 (by decide) (fun zh49 => ?_) (fun zh49 => ?_)
        · skip
          exact absurd rfl zh49
        · skip
          first | refine g_aload0 (pc := 52) dX9_rings_52 ?_ | refine g_aloadN0 (pc := 52) dX9_rings_52 ?_
          refine g_getR (pc := 53) (j := 6) cf9 dX9_rings_53 fl_RX9_50 (by decide) (by decide) (by first | rfl | assumption) (72) (rfl) ?_
          first | refine g_aload4 (pc := 56) dX9_rings_56 ?_ | refine g_aloadN4 (pc := 56) dX9_rings_56 ?_
          refine g_getI (pc := 58) (j := 0) cf2 dX9_rings_58 fl_RX9_115 (by decide) (by decide) (by first | rfl | assumption) ?_
          refine g_fV1 (pc := 61) (c_X7_rowsTo) cf7 (by first | rfl | assumption) dX9_rings_61 cw_RX9_209 (by decide) (Nat.le_of_ble_eq_true rfl) ?_
          refine g_goto (pc := 64) 79 dX9_rings_64 (by decide) ?_
          refine g_iret (pc := 79) dX9_rings_79 rfl ?_
          exact ⟨rfl, rfl, rfl⟩
      · skip
        exact absurd (by decide) (b01_eq0.mp zh32)
theorem c_X9_rings_1 {n p q : Nat} {v : Mm} {L : Lm} (hC : CSt v n) (hp : p < n) (hq1 : 1 ≤ q) (hq4 : q ≤ 4) : Fn yX9_rings cX9_rings 5 (some .int) 4 [.ref 0, .int (nI p), .int (nI q), .int 1] v L (some (.int (ltF (itr (fun _ w => wkO w (5 + 3 + p)) q (wkM0 v (v (5 + 3 + p) 0))) ((itr (fun _ w => wkO w (5 + 3 + p)) q (wkM0 v (v (5 + 3 + p) 0))) (5 + 3 + p) 0)))) (itr (fun _ w => wkO w (5 + 3 + p)) q (wkM0 v (v (5 + 3 + p) 0))) L := by
  have hkp : kd (5 + 3 + p) = 2 := sh_kp s5 (by have := hC.1; omega)
  have hn4 := hC.1
  refine Fq.of (plainFor_of_name (by decide)) [some (.ref 0), some (.int (nI p)), some (.int (nI q)), some (.int 1), none] rfl (Nat.le_of_ble_eq_true rfl) ?_
  first | refine g_aload0 (pc := 0) dX9_rings_0 ?_ | refine g_aloadN0 (pc := 0) dX9_rings_0 ?_
  refine g_getR (pc := 1) (j := 2) cf9 dX9_rings_1 fl_RX9_26 (by decide) (by decide) (by first | rfl | assumption) (5) (rfl) ?_
  refine g_iload1 (pc := 4) dX9_rings_4 ?_
  refine g_fV1 (pc := 5) (c_X4_find_s (S := 5) (i := p) s5 (by have := hC.1; omega) (by rw [hC.2.1]; exact nI_lt hp (by have := hC.1; omega))) cf4 (by first | rfl | assumption) dX9_rings_5 cw_RX9_111 (by decide) (Nat.le_of_ble_eq_true rfl) ?_
  first | refine g_astore4 (pc := 8) dX9_rings_8 (by decide) (by first | rfl | assumption) ?_ | refine g_astoreN4 (pc := 8) dX9_rings_8 (by decide) (by first | rfl | assumption) ?_
  first | refine g_aload4 (pc := 10) dX9_rings_10 ?_ | refine g_aloadN4 (pc := 10) dX9_rings_10 ?_
  refine g_ifnonnull (pc := 12) 17 dX9_rings_12 (by decide) ?_
  refine g_iload2 (pc := 17) dX9_rings_17 ?_
  refine g_iconst (pc := 18) (1) dX9_rings_18 (by decide) ?_
  refine g_icmp_lt (pc := 19) 35 dX9_rings_19 (by decide) (fun zh19 => ?_) (fun zh19 => ?_)
  · skip
    exact absurd zh19 (nI_nlt (b := 1) hq1 (by omega))
  · skip
    refine g_iload2 (pc := 22) dX9_rings_22 ?_
    refine g_iconst (pc := 23) (4) dX9_rings_23 (by decide) ?_
    refine g_icmp_gt (pc := 24) 35 dX9_rings_24 (by decide) (fun zh24 => ?_) (fun zh24 => ?_)
    · skip
      exact absurd zh24 (nI_nlt (a := 4) hq4 (by decide))
    · skip
      refine g_iload3 (pc := 27) dX9_rings_27 ?_
      refine g_iconst (pc := 28) (1) dX9_rings_28 (by decide) ?_
      refine g_fS2 (pc := 29) (c_X9_isWithin) dX9_rings_29 cw_RX9_68 (by decide) (Nat.le_of_ble_eq_true rfl) ?_
      refine g_if_ne (pc := 32) 38 dX9_rings_32 (by decide) (fun zh32 => ?_) (fun zh32 => ?_)
      · skip
        first | refine g_aload0 (pc := 38) dX9_rings_38 ?_ | refine g_aloadN0 (pc := 38) dX9_rings_38 ?_
        refine g_getR (pc := 39) (j := 6) cf9 dX9_rings_39 fl_RX9_50 (by decide) (by decide) (by first | rfl | assumption) (72) (rfl) ?_
        first | refine g_aload4 (pc := 42) dX9_rings_42 ?_ | refine g_aloadN4 (pc := 42) dX9_rings_42 ?_
        refine g_iload2 (pc := 44) dX9_rings_44 ?_
        refine g_vV2 (pc := 45) (c_X7_walk hkp hq4) cf7 (by first | rfl | assumption) dX9_rings_45 cw_RX9_205 (by decide) (Nat.le_of_ble_eq_true rfl) ?_
        refine g_iload3 (pc := 48) dX9_rings_48 ?_
        refine g_if_ne (pc := 49) 67 dX9_rings_49 (by decide) (fun zh49 => ?_) (fun zh49 => ?_)
        · skip
          first | refine g_aload0 (pc := 67) dX9_rings_67 ?_ | refine g_aloadN0 (pc := 67) dX9_rings_67 ?_
          refine g_getR (pc := 68) (j := 6) cf9 dX9_rings_68 fl_RX9_50 (by decide) (by decide) (by first | rfl | assumption) (72) (rfl) ?_
          first | refine g_aload4 (pc := 71) dX9_rings_71 ?_ | refine g_aloadN4 (pc := 71) dX9_rings_71 ?_
          refine g_getI (pc := 73) (j := 0) cf2 dX9_rings_73 fl_RX9_115 (by decide) (by decide) (by first | rfl | assumption) ?_
          refine g_fV1 (pc := 76) (c_X7_lowestTo) cf7 (by first | rfl | assumption) dX9_rings_76 cw_RX9_212 (by decide) (Nat.le_of_ble_eq_true rfl) ?_
          refine g_iret (pc := 79) dX9_rings_79 rfl ?_
          exact ⟨rfl, rfl, rfl⟩
        · skip
          exact absurd zh49 (by decide)
      · skip
        exact absurd (by decide) (b01_eq0.mp zh32)
