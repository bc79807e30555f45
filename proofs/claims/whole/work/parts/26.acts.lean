theorem c_X1_forgetAll  {v : Mm} {L : Lm}  : Fn yX1_forgetAll cX1_forgetAll 1 none 0 [.ref 38] v L none (upd2 v 38 2 0) L := by
  refine Fq.of (plainFor_of_name (by decide)) [some (.ref 38)] rfl (Nat.le_of_ble_eq_true rfl) ?_
  first | refine g_aload0 (pc := 0) dX1_forgetAll_0 ?_ | refine g_aloadN0 (pc := 0) dX1_forgetAll_0 ?_
  refine g_iconst (pc := 1) (0) dX1_forgetAll_1 (by decide) ?_
  refine g_putI (pc := 2) (j := 2) cf1 dX1_forgetAll_2 fl_RX1_28 (by decide) rfl rfl (by decide) (by first | rfl | assumption) ?_
  refine g_vret (pc := 5) dX1_forgetAll_5 rfl ?_
  exact ⟨rfl, rfl, rfl⟩
theorem c_X1_at {f c : Nat} {v : Mm} {L : Lm} (hf : v 38 1 = nI f) (hf14 : f < 14) (hc : c < 14) : Fn yX1_at cX1_at 2 (some (.object "BroadNib$Act")) 1 [.ref 38, .int (nI c)] v L (some (.ref (40 + (f + c) % 14))) v L := by
  refine Fq.of (plainFor_of_name (by decide)) [some (.ref 38), some (.int (nI c))] rfl (Nat.le_of_ble_eq_true rfl) ?_
  first | refine g_aload0 (pc := 0) dX1_at_0 ?_ | refine g_aloadN0 (pc := 0) dX1_at_0 ?_
  refine g_getR (pc := 1) (j := 0) cf1 dX1_at_1 fl_RX1_11 (by decide) (by decide) (by first | rfl | assumption) (39) (rfl) ?_
  first | refine g_aload0 (pc := 4) dX1_at_4 ?_ | refine g_aloadN0 (pc := 4) dX1_at_4 ?_
  refine g_getI (pc := 5) (j := 1) cf1 dX1_at_5 fl_RX1_18 (by decide) (by decide) (by first | rfl | assumption) ?_
  refine g_iload1 (pc := 8) dX1_at_8 ?_
  refine g_iadd (pc := 9) dX1_at_9 ?_
  refine g_bipush (pc := 10) (14) dX1_at_10 (by decide) ?_
  rw [hf, nI_add]
  refine g_fS2 (pc := 12) (c_J9_floorMod_7cf53 (by decide)) dX1_at_12 cw_RX1_22 (by decide) (Nat.le_of_ble_eq_true rfl) ?_
  rw [flm14 (f + c) (by omega)]
  refine g_aald (pc := 15) (n := 13) dX1_at_15 (by first | rfl | assumption) (by decide) (by decide) (vp_in_nI (by show (f + c) % 14 < 14; omega) (by decide)) (40 + (f + c) % 14) (by rw [nI_clamp (by omega)]; exact act_row (by omega)) ?_
  first | refine g_aret (pc := 16) dX1_at_16 rfl ?_ | refine g_aretN (pc := 16) dX1_at_16 rfl ?_
  exact ⟨rfl, rfl, rfl⟩
theorem c_X0_note_n {i S : Nat} {y : Int32} {v : Mm} {L : Lm} (hi : i < 14) (hS : Sh S) : Fn yX0_note cX0_note 5 none 2 [.ref (40 + i), .ref S, .int (-9), .int y] v L none (actM v (40 + i) S (-9) y) L := by
  have hka := act_kd hi
  have hk4 := sh_kd hS
  refine Fq.of (plainFor_of_name (by decide)) [some (.ref (40 + i)), some (.ref S), some (.int (-9)), some (.int y), none] rfl (Nat.le_of_ble_eq_true rfl) ?_
  first | refine g_aload0 (pc := 0) dX0_note_0 ?_ | refine g_aloadN0 (pc := 0) dX0_note_0 ?_
  refine g_iload2 (pc := 1) dX0_note_1 ?_
  refine g_putI (pc := 2) (j := 1) cf0 dX0_note_2 fl_RX0_16 (by decide) rfl rfl (by decide) (by first | rfl | assumption) ?_
  first | refine g_aload0 (pc := 5) dX0_note_5 ?_ | refine g_aloadN0 (pc := 5) dX0_note_5 ?_
  refine g_iload3 (pc := 6) dX0_note_6 ?_
  refine g_putI (pc := 7) (j := 2) cf0 dX0_note_7 fl_RX0_20 (by decide) rfl rfl (by decide) (by first | rfl | assumption) ?_
  first | refine g_aload0 (pc := 10) dX0_note_10 ?_ | refine g_aloadN0 (pc := 10) dX0_note_10 ?_
  first | refine g_aload1 (pc := 11) dX0_note_11 ?_ | refine g_aloadN1 (pc := 11) dX0_note_11 ?_
  first | refine g_aload0 (pc := 12) dX0_note_12 ?_ | refine g_aloadN0 (pc := 12) dX0_note_12 ?_
  refine g_getI (pc := 13) (j := 2) cf0 dX0_note_13 fl_RX0_20 (by decide) (by decide) (by first | rfl | assumption) ?_
  refine g_fV1 (pc := 16) (c_X4_inkOn hS) cf4 (by first | rfl | assumption) dX0_note_16 cw_RX0_23 (by decide) (Nat.le_of_ble_eq_true rfl) ?_
  refine g_putI (pc := 19) (j := 3) cf0 dX0_note_19 fl_RX0_29 (by decide) rfl rfl (by decide) (by first | rfl | assumption) ?_
  first | refine g_aload0 (pc := 22) dX0_note_22 ?_ | refine g_aloadN0 (pc := 22) dX0_note_22 ?_
  first | refine g_aload1 (pc := 23) dX0_note_23 ?_ | refine g_aloadN1 (pc := 23) dX0_note_23 ?_
  refine g_getI (pc := 24) (j := 3) cf4 dX0_note_24 fl_RX0_32 (by decide) (by decide) (by first | rfl | assumption) ?_
  refine g_putI (pc := 27) (j := 4) cf0 dX0_note_27 fl_RX0_35 (by decide) rfl rfl (by decide) (by first | rfl | assumption) ?_
  first | refine g_aload1 (pc := 30) dX0_note_30 ?_ | refine g_aloadN1 (pc := 30) dX0_note_30 ?_
  first | refine g_aload0 (pc := 31) dX0_note_31 ?_ | refine g_aloadN0 (pc := 31) dX0_note_31 ?_
  refine g_getI (pc := 32) (j := 1) cf0 dX0_note_32 fl_RX0_16 (by decide) (by decide) (by first | rfl | assumption) ?_
  refine g_fV1 (pc := 35) (c_X4_find_n hS (fun q => absurd q.1 (by rw [u2_n (fun q => absurd q.2 (by decide)), u2_n (fun q => absurd q.2 (by decide)), u2_n (fun q => absurd q.2 (by decide)), u2_s]; decide))) cf4 (by first | rfl | assumption) dX0_note_35 cw_RX0_38 (by decide) (Nat.le_of_ble_eq_true rfl) ?_
  first | refine g_astore4 (pc := 38) dX0_note_38 (by decide) (by first | rfl | assumption) ?_ | refine g_astoreN4 (pc := 38) dX0_note_38 (by decide) (by first | rfl | assumption) ?_
  first | refine g_aload4 (pc := 40) dX0_note_40 ?_ | refine g_aloadN4 (pc := 40) dX0_note_40 ?_
  refine g_ifnullN (pc := 42) 54 dX0_note_42 (by decide) ?_
  refine g_vret (pc := 54) dX0_note_54 rfl ?_
  have hs := sh_lt hS
  refine ⟨rfl, ?_, rfl⟩
  unfold actM
  have ze1 : inkF (upd2 (upd2 v (40 + i) 1 (-9)) (40 + i) 2 y) S y = inkF v S y := by unfold inkF; rw [u2_n (fun q => by omega), u2_n (fun q => by omega)]
  rw [u2_s, ze1, u2_n (fun q => by omega), u2_n (fun q => by omega), u2_n (fun q => by omega)]
theorem c_X0_note_s {i S p : Nat} {y : Int32} {v : Mm} {L : Lm} (hi : i < 14) (hS : Sh S) (hp : p < 4) (hc : nI p < v S 2) (zh6 : v (S + 3 + p) 6 = 0 ∨ v (S + 3 + p) 6 = 1) : Fn yX0_note cX0_note 5 none 2 [.ref (40 + i), .ref S, .int (nI p), .int y] v L none (pcM (actM v (40 + i) S (nI p) y) (54 + i) (S + 3 + p)) L := by
  have hka := act_kd hi
  have hk4 := sh_kd hS
  have hs := sh_lt hS
  have ze0 : ∀ (a j : Nat), a ≠ 40 + i → actM v (40 + i) S (nI p) y a j = v a j := fun a j h => by unfold actM upd2; simp [h]
  have ze1 : inkF (upd2 (upd2 v (40 + i) 1 (nI p)) (40 + i) 2 y) S y = inkF v S y := by unfold inkF; rw [u2_n (fun q => by omega), u2_n (fun q => by omega)]
  have ze2 : upd2 (upd2 (upd2 (upd2 v (40 + i) 1 (nI p)) (40 + i) 2 y) (40 + i) 3 (inkF v S y)) (40 + i) 4 (upd2 (upd2 (upd2 v (40 + i) 1 (nI p)) (40 + i) 2 y) (40 + i) 3 (inkF v S y) S 3) = actM v (40 + i) S (nI p) y := by unfold actM; rw [u2_n (fun q => by omega), u2_n (fun q => by omega), u2_n (fun q => by omega)]
  have ze3 : actM v (40 + i) S (nI p) y (40 + i) 1 = nI p := by unfold actM; rw [u2_n (fun q => absurd q.2 (by decide)), u2_n (fun q => absurd q.2 (by decide)), u2_n (fun q => absurd q.2 (by decide)), u2_s]
  refine Fq.of (plainFor_of_name (by decide)) [some (.ref (40 + i)), some (.ref S), some (.int (nI p)), some (.int y), none] rfl (Nat.le_of_ble_eq_true rfl) ?_
  first | refine g_aload0 (pc := 0) dX0_note_0 ?_ | refine g_aloadN0 (pc := 0) dX0_note_0 ?_
  refine g_iload2 (pc := 1) dX0_note_1 ?_
  refine g_putI (pc := 2) (j := 1) cf0 dX0_note_2 fl_RX0_16 (by decide) rfl rfl (by decide) (by first | rfl | assumption) ?_
  first | refine g_aload0 (pc := 5) dX0_note_5 ?_ | refine g_aloadN0 (pc := 5) dX0_note_5 ?_
  refine g_iload3 (pc := 6) dX0_note_6 ?_
  refine g_putI (pc := 7) (j := 2) cf0 dX0_note_7 fl_RX0_20 (by decide) rfl rfl (by decide) (by first | rfl | assumption) ?_
  first | refine g_aload0 (pc := 10) dX0_note_10 ?_ | refine g_aloadN0 (pc := 10) dX0_note_10 ?_
  first | refine g_aload1 (pc := 11) dX0_note_11 ?_ | refine g_aloadN1 (pc := 11) dX0_note_11 ?_
  first | refine g_aload0 (pc := 12) dX0_note_12 ?_ | refine g_aloadN0 (pc := 12) dX0_note_12 ?_
  refine g_getI (pc := 13) (j := 2) cf0 dX0_note_13 fl_RX0_20 (by decide) (by decide) (by first | rfl | assumption) ?_
  rw [u2_s]
  refine g_fV1 (pc := 16) (c_X4_inkOn hS) cf4 (by first | rfl | assumption) dX0_note_16 cw_RX0_23 (by decide) (Nat.le_of_ble_eq_true rfl) ?_
  rw [ze1]
  refine g_putI (pc := 19) (j := 3) cf0 dX0_note_19 fl_RX0_29 (by decide) rfl rfl (by decide) (by first | rfl | assumption) ?_
  first | refine g_aload0 (pc := 22) dX0_note_22 ?_ | refine g_aloadN0 (pc := 22) dX0_note_22 ?_
  first | refine g_aload1 (pc := 23) dX0_note_23 ?_ | refine g_aloadN1 (pc := 23) dX0_note_23 ?_
  refine g_getI (pc := 24) (j := 3) cf4 dX0_note_24 fl_RX0_32 (by decide) (by decide) (by first | rfl | assumption) ?_
  refine g_putI (pc := 27) (j := 4) cf0 dX0_note_27 fl_RX0_35 (by decide) rfl rfl (by decide) (by first | rfl | assumption) ?_
  rw [ze2]
  first | refine g_aload1 (pc := 30) dX0_note_30 ?_ | refine g_aloadN1 (pc := 30) dX0_note_30 ?_
  first | refine g_aload0 (pc := 31) dX0_note_31 ?_ | refine g_aloadN0 (pc := 31) dX0_note_31 ?_
  refine g_getI (pc := 32) (j := 1) cf0 dX0_note_32 fl_RX0_16 (by decide) (by decide) (by first | rfl | assumption) ?_
  rw [ze3]
  refine g_fV1 (pc := 35) (c_X4_find_s hS hp (by rw [ze0 S 2 (by omega)]; exact hc)) cf4 (by first | rfl | assumption) dX0_note_35 cw_RX0_38 (by decide) (Nat.le_of_ble_eq_true rfl) ?_
  first | refine g_astore4 (pc := 38) dX0_note_38 (by decide) (by first | rfl | assumption) ?_ | refine g_astoreN4 (pc := 38) dX0_note_38 (by decide) (by first | rfl | assumption) ?_
  first | refine g_aload4 (pc := 40) dX0_note_40 ?_ | refine g_aloadN4 (pc := 40) dX0_note_40 ?_
  refine g_ifnull (pc := 42) dX0_note_42 ?_
  first | refine g_aload0 (pc := 45) dX0_note_45 ?_ | refine g_aloadN0 (pc := 45) dX0_note_45 ?_
  refine g_getR (pc := 46) (j := 0) cf0 dX0_note_46 fl_RX0_10 (by decide) (by decide) (by first | rfl | assumption) (54 + i) (act_tp hi) ?_
  first | refine g_aload4 (pc := 49) dX0_note_49 ?_ | refine g_aloadN4 (pc := 49) dX0_note_49 ?_
  refine g_vV1 (pc := 51) (c_X2_copy (act_pk hi) (sh_kp hS hp) (by omega) (by rw [ze0 _ _ (by omega)]; exact zh6)) cf2 (act_pk hi) dX0_note_51 cw_RX0_42 (by decide) (Nat.le_of_ble_eq_true rfl) ?_
  refine g_vret (pc := 54) dX0_note_54 rfl ?_
  exact ⟨rfl, rfl, rfl⟩
