theorem c_X1_note_nl {f c S : Nat} {y : Int32} {v : Mm} {L : Lm} (hS : Sh S) (hf : v 38 1 = nI f) (hf14 : f < 14) (hc : v 38 2 = nI c) (hc14 : c < 14)  : Fn yX1_note cX1_note 4 none 3 [.ref 38, .ref S, .int (-9), .int y] v L none (actM (upd2 v 38 2 (nI (c + 1))) (40 + ((f + c) % 14)) S (-9) y) L := by
  have hs := sh_lt hS
  refine Fq.of (plainFor_of_name (by decide)) [some (.ref 38), some (.ref S), some (.int (-9)), some (.int y)] rfl (Nat.le_of_ble_eq_true rfl) ?_
  first | refine g_aload0 (pc := 0) dX1_note_0 ?_ | refine g_aloadN0 (pc := 0) dX1_note_0 ?_
  refine g_getI (pc := 1) (j := 2) cf1 dX1_note_1 fl_RX1_28 (by decide) (by decide) (by first | rfl | assumption) ?_
  refine g_bipush (pc := 4) (14) dX1_note_4 (by decide) ?_
  refine g_icmp_ge (pc := 6) 22 dX1_note_6 (by decide) (fun zh6 => ?_) (fun zh6 => ?_)
  · skip
    exact absurd zh6 (by rw [hc]; exact nI_ge (b := 14) hc14 (by decide))
  · skip
    first | refine g_aload0 (pc := 9) dX1_note_9 ?_ | refine g_aloadN0 (pc := 9) dX1_note_9 ?_
    refine g_dup (pc := 10) dX1_note_10 rfl ?_
    refine g_getI (pc := 11) (j := 2) cf1 dX1_note_11 fl_RX1_28 (by decide) (by decide) (by first | rfl | assumption) ?_
    refine g_iconst (pc := 14) (1) dX1_note_14 (by decide) ?_
    refine g_iadd (pc := 15) dX1_note_15 ?_
    rw [hc, nI_1]
    refine g_putI (pc := 16) (j := 2) cf1 dX1_note_16 fl_RX1_28 (by decide) rfl rfl (by decide) (by first | rfl | assumption) ?_
    refine g_goto (pc := 19) 35 dX1_note_19 (by decide) ?_
    first | refine g_aload0 (pc := 35) dX1_note_35 ?_ | refine g_aloadN0 (pc := 35) dX1_note_35 ?_
    first | refine g_aload0 (pc := 36) dX1_note_36 ?_ | refine g_aloadN0 (pc := 36) dX1_note_36 ?_
    refine g_getI (pc := 37) (j := 2) cf1 dX1_note_37 fl_RX1_28 (by decide) (by decide) (by first | rfl | assumption) ?_
    refine g_iconst (pc := 40) (1) dX1_note_40 (by decide) ?_
    refine g_isub (pc := 41) dX1_note_41 ?_
    rw [u2_s, nI_pred]
    refine g_fV1 (pc := 42) (c_X1_at (f := f) (by rw [u2_n (fun q => absurd q.2 (by decide))]; exact hf) hf14 hc14) cf1 (by first | rfl | assumption) dX1_note_42 cw_RX1_31 (by decide) (Nat.le_of_ble_eq_true rfl) ?_
    first | refine g_aload1 (pc := 45) dX1_note_45 ?_ | refine g_aloadN1 (pc := 45) dX1_note_45 ?_
    refine g_iload2 (pc := 46) dX1_note_46 ?_
    refine g_iload3 (pc := 47) dX1_note_47 ?_
    refine g_vV3 (pc := 48) (c_X0_note_n (by omega) hS) cf0 (act_kd (by omega)) dX1_note_48 cw_RX1_35 (by decide) (Nat.le_of_ble_eq_true rfl) ?_
    refine g_vret (pc := 51) dX1_note_51 rfl ?_
    exact ⟨rfl, rfl, rfl⟩
theorem c_X1_note_nf {f S : Nat} {y : Int32} {v : Mm} {L : Lm} (hS : Sh S) (hf : v 38 1 = nI f) (hf14 : f < 14) (hc : v 38 2 = 14)  : Fn yX1_note cX1_note 4 none 3 [.ref 38, .ref S, .int (-9), .int y] v L none (actM (upd2 v 38 1 (nI ((f + 1) % 14))) (40 + f) S (-9) y) L := by
  have hs := sh_lt hS
  have ei : ((f + 1) % 14 + 13) % 14 = f := by omega
  have er : nI f + 1 - (nI f + 1) / 14 * 14 = nI ((f + 1) % 14) := by rw [nI_1]; exact pk_rem (d := 14) (by omega) (by decide) (by decide)
  refine Fq.of (plainFor_of_name (by decide)) [some (.ref 38), some (.ref S), some (.int (-9)), some (.int y)] rfl (Nat.le_of_ble_eq_true rfl) ?_
  first | refine g_aload0 (pc := 0) dX1_note_0 ?_ | refine g_aloadN0 (pc := 0) dX1_note_0 ?_
  refine g_getI (pc := 1) (j := 2) cf1 dX1_note_1 fl_RX1_28 (by decide) (by decide) (by first | rfl | assumption) ?_
  refine g_bipush (pc := 4) (14) dX1_note_4 (by decide) ?_
  refine g_icmp_ge (pc := 6) 22 dX1_note_6 (by decide) (fun zh6 => ?_) (fun zh6 => ?_)
  · skip
    first | refine g_aload0 (pc := 22) dX1_note_22 ?_ | refine g_aloadN0 (pc := 22) dX1_note_22 ?_
    first | refine g_aload0 (pc := 23) dX1_note_23 ?_ | refine g_aloadN0 (pc := 23) dX1_note_23 ?_
    refine g_getI (pc := 24) (j := 1) cf1 dX1_note_24 fl_RX1_18 (by decide) (by decide) (by first | rfl | assumption) ?_
    refine g_iconst (pc := 27) (1) dX1_note_27 (by decide) ?_
    refine g_iadd (pc := 28) dX1_note_28 ?_
    refine g_bipush (pc := 29) (14) dX1_note_29 (by decide) ?_
    refine g_irem (pc := 31) dX1_note_31 (by decide) ?_
    rw [hf, er]
    refine g_putI (pc := 32) (j := 1) cf1 dX1_note_32 fl_RX1_18 (by decide) rfl rfl (by decide) (by first | rfl | assumption) ?_
    first | refine g_aload0 (pc := 35) dX1_note_35 ?_ | refine g_aloadN0 (pc := 35) dX1_note_35 ?_
    first | refine g_aload0 (pc := 36) dX1_note_36 ?_ | refine g_aloadN0 (pc := 36) dX1_note_36 ?_
    refine g_getI (pc := 37) (j := 2) cf1 dX1_note_37 fl_RX1_28 (by decide) (by decide) (by first | rfl | assumption) ?_
    refine g_iconst (pc := 40) (1) dX1_note_40 (by decide) ?_
    refine g_isub (pc := 41) dX1_note_41 ?_
    rw [u2_n (fun q => absurd q.2 (by decide)), hc, show (14 : Int32) - 1 = nI 13 by decide]
    refine g_fV1 (pc := 42) (c_X1_at (f := (f + 1) % 14) (c := 13) u2_s (by omega) (by decide)) cf1 (by first | rfl | assumption) dX1_note_42 cw_RX1_31 (by decide) (Nat.le_of_ble_eq_true rfl) ?_
    rw [ei]
    first | refine g_aload1 (pc := 45) dX1_note_45 ?_ | refine g_aloadN1 (pc := 45) dX1_note_45 ?_
    refine g_iload2 (pc := 46) dX1_note_46 ?_
    refine g_iload3 (pc := 47) dX1_note_47 ?_
    refine g_vV3 (pc := 48) (c_X0_note_n hf14 hS) cf0 (act_kd hf14) dX1_note_48 cw_RX1_35 (by decide) (Nat.le_of_ble_eq_true rfl) ?_
    refine g_vret (pc := 51) dX1_note_51 rfl ?_
    exact ⟨rfl, rfl, rfl⟩
  · skip
    exact absurd (by rw [hc]; decide) zh6
theorem c_X1_note_sl {f c S p : Nat} {y : Int32} {v : Mm} {L : Lm} (hS : Sh S) (hf : v 38 1 = nI f) (hf14 : f < 14) (hc : v 38 2 = nI c) (hc14 : c < 14) (hp : p < 4) (hcp : nI p < v S 2) (hb6 : v (S + 3 + p) 6 = 0 ∨ v (S + 3 + p) 6 = 1) : Fn yX1_note cX1_note 4 none 3 [.ref 38, .ref S, .int (nI p), .int y] v L none (pcM (actM (upd2 v 38 2 (nI (c + 1))) (40 + ((f + c) % 14)) S (nI p) y) (54 + ((f + c) % 14)) (S + 3 + p)) L := by
  have hs := sh_lt hS
  refine Fq.of (plainFor_of_name (by decide)) [some (.ref 38), some (.ref S), some (.int (nI p)), some (.int y)] rfl (Nat.le_of_ble_eq_true rfl) ?_
  first | refine g_aload0 (pc := 0) dX1_note_0 ?_ | refine g_aloadN0 (pc := 0) dX1_note_0 ?_
  refine g_getI (pc := 1) (j := 2) cf1 dX1_note_1 fl_RX1_28 (by decide) (by decide) (by first | rfl | assumption) ?_
  refine g_bipush (pc := 4) (14) dX1_note_4 (by decide) ?_
  refine g_icmp_ge (pc := 6) 22 dX1_note_6 (by decide) (fun zh6 => ?_) (fun zh6 => ?_)
  · skip
    exact absurd zh6 (by rw [hc]; exact nI_ge (b := 14) hc14 (by decide))
  · skip
    first | refine g_aload0 (pc := 9) dX1_note_9 ?_ | refine g_aloadN0 (pc := 9) dX1_note_9 ?_
    refine g_dup (pc := 10) dX1_note_10 rfl ?_
    refine g_getI (pc := 11) (j := 2) cf1 dX1_note_11 fl_RX1_28 (by decide) (by decide) (by first | rfl | assumption) ?_
    refine g_iconst (pc := 14) (1) dX1_note_14 (by decide) ?_
    refine g_iadd (pc := 15) dX1_note_15 ?_
    rw [hc, nI_1]
    refine g_putI (pc := 16) (j := 2) cf1 dX1_note_16 fl_RX1_28 (by decide) rfl rfl (by decide) (by first | rfl | assumption) ?_
    refine g_goto (pc := 19) 35 dX1_note_19 (by decide) ?_
    first | refine g_aload0 (pc := 35) dX1_note_35 ?_ | refine g_aloadN0 (pc := 35) dX1_note_35 ?_
    first | refine g_aload0 (pc := 36) dX1_note_36 ?_ | refine g_aloadN0 (pc := 36) dX1_note_36 ?_
    refine g_getI (pc := 37) (j := 2) cf1 dX1_note_37 fl_RX1_28 (by decide) (by decide) (by first | rfl | assumption) ?_
    refine g_iconst (pc := 40) (1) dX1_note_40 (by decide) ?_
    refine g_isub (pc := 41) dX1_note_41 ?_
    rw [u2_s, nI_pred]
    refine g_fV1 (pc := 42) (c_X1_at (f := f) (by rw [u2_n (fun q => absurd q.2 (by decide))]; exact hf) hf14 hc14) cf1 (by first | rfl | assumption) dX1_note_42 cw_RX1_31 (by decide) (Nat.le_of_ble_eq_true rfl) ?_
    first | refine g_aload1 (pc := 45) dX1_note_45 ?_ | refine g_aloadN1 (pc := 45) dX1_note_45 ?_
    refine g_iload2 (pc := 46) dX1_note_46 ?_
    refine g_iload3 (pc := 47) dX1_note_47 ?_
    refine g_vV3 (pc := 48) (c_X0_note_s (by omega) hS hp (by rw [u2_n (fun q => by omega)]; exact hcp) (by rw [u2_n (fun q => by omega)]; exact hb6)) cf0 (act_kd (by omega)) dX1_note_48 cw_RX1_35 (by decide) (Nat.le_of_ble_eq_true rfl) ?_
    refine g_vret (pc := 51) dX1_note_51 rfl ?_
    exact ⟨rfl, rfl, rfl⟩
theorem c_X1_note_sf {f S p : Nat} {y : Int32} {v : Mm} {L : Lm} (hS : Sh S) (hf : v 38 1 = nI f) (hf14 : f < 14) (hc : v 38 2 = 14) (hp : p < 4) (hcp : nI p < v S 2) (hb6 : v (S + 3 + p) 6 = 0 ∨ v (S + 3 + p) 6 = 1) : Fn yX1_note cX1_note 4 none 3 [.ref 38, .ref S, .int (nI p), .int y] v L none (pcM (actM (upd2 v 38 1 (nI ((f + 1) % 14))) (40 + f) S (nI p) y) (54 + f) (S + 3 + p)) L := by
  have hs := sh_lt hS
  have ei : ((f + 1) % 14 + 13) % 14 = f := by omega
  have er : nI f + 1 - (nI f + 1) / 14 * 14 = nI ((f + 1) % 14) := by rw [nI_1]; exact pk_rem (d := 14) (by omega) (by decide) (by decide)
  refine Fq.of (plainFor_of_name (by decide)) [some (.ref 38), some (.ref S), some (.int (nI p)), some (.int y)] rfl (Nat.le_of_ble_eq_true rfl) ?_
  first | refine g_aload0 (pc := 0) dX1_note_0 ?_ | refine g_aloadN0 (pc := 0) dX1_note_0 ?_
  refine g_getI (pc := 1) (j := 2) cf1 dX1_note_1 fl_RX1_28 (by decide) (by decide) (by first | rfl | assumption) ?_
  refine g_bipush (pc := 4) (14) dX1_note_4 (by decide) ?_
  refine g_icmp_ge (pc := 6) 22 dX1_note_6 (by decide) (fun zh6 => ?_) (fun zh6 => ?_)
  · skip
    first | refine g_aload0 (pc := 22) dX1_note_22 ?_ | refine g_aloadN0 (pc := 22) dX1_note_22 ?_
    first | refine g_aload0 (pc := 23) dX1_note_23 ?_ | refine g_aloadN0 (pc := 23) dX1_note_23 ?_
    refine g_getI (pc := 24) (j := 1) cf1 dX1_note_24 fl_RX1_18 (by decide) (by decide) (by first | rfl | assumption) ?_
    refine g_iconst (pc := 27) (1) dX1_note_27 (by decide) ?_
    refine g_iadd (pc := 28) dX1_note_28 ?_
    refine g_bipush (pc := 29) (14) dX1_note_29 (by decide) ?_
    refine g_irem (pc := 31) dX1_note_31 (by decide) ?_
    rw [hf, er]
    refine g_putI (pc := 32) (j := 1) cf1 dX1_note_32 fl_RX1_18 (by decide) rfl rfl (by decide) (by first | rfl | assumption) ?_
    first | refine g_aload0 (pc := 35) dX1_note_35 ?_ | refine g_aloadN0 (pc := 35) dX1_note_35 ?_
    first | refine g_aload0 (pc := 36) dX1_note_36 ?_ | refine g_aloadN0 (pc := 36) dX1_note_36 ?_
    refine g_getI (pc := 37) (j := 2) cf1 dX1_note_37 fl_RX1_28 (by decide) (by decide) (by first | rfl | assumption) ?_
    refine g_iconst (pc := 40) (1) dX1_note_40 (by decide) ?_
    refine g_isub (pc := 41) dX1_note_41 ?_
    rw [u2_n (fun q => absurd q.2 (by decide)), hc, show (14 : Int32) - 1 = nI 13 by decide]
    refine g_fV1 (pc := 42) (c_X1_at (f := (f + 1) % 14) (c := 13) u2_s (by omega) (by decide)) cf1 (by first | rfl | assumption) dX1_note_42 cw_RX1_31 (by decide) (Nat.le_of_ble_eq_true rfl) ?_
    rw [ei]
    first | refine g_aload1 (pc := 45) dX1_note_45 ?_ | refine g_aloadN1 (pc := 45) dX1_note_45 ?_
    refine g_iload2 (pc := 46) dX1_note_46 ?_
    refine g_iload3 (pc := 47) dX1_note_47 ?_
    refine g_vV3 (pc := 48) (c_X0_note_s hf14 hS hp (by rw [u2_n (fun q => by omega)]; exact hcp) (by rw [u2_n (fun q => by omega)]; exact hb6)) cf0 (act_kd hf14) dX1_note_48 cw_RX1_35 (by decide) (Nat.le_of_ble_eq_true rfl) ?_
    refine g_vret (pc := 51) dX1_note_51 rfl ?_
    exact ⟨rfl, rfl, rfl⟩
  · skip
    exact absurd (by rw [hc]; decide) zh6
theorem c_X0_takeBack_n {i S : Nat} {v : Mm} {L : Lm} (hi : i < 14) (hS : Sh S) (hpen : v (40 + i) 1 = -9) : Fn yX0_takeBack cX0_takeBack 3 none 2 [.ref (40 + i), .ref S] v L none (tbM v i S) L := by
  have hka := act_kd hi
  have hk4 := sh_kd hS
  have hs := sh_lt hS
  have ze0 := tbM_away (v := v) (i := i) (S := S)
  have ze1 : ∀ j, stM v S (v (40 + i) 2) (v (40 + i) 3) (40 + i) j = v (40 + i) j := fun j => stM_away (by omega)
  have ze2 : upd2 (stM v S (v (40 + i) 2) (v (40 + i) 3)) S 3 (v (40 + i) 4) = tbM v i S := rfl
  refine Fq.of (plainFor_of_name (by decide)) [some (.ref (40 + i)), some (.ref S), none] rfl (Nat.le_of_ble_eq_true rfl) ?_
  first | refine g_aload1 (pc := 0) dX0_takeBack_0 ?_ | refine g_aloadN1 (pc := 0) dX0_takeBack_0 ?_
  first | refine g_aload0 (pc := 1) dX0_takeBack_1 ?_ | refine g_aloadN0 (pc := 1) dX0_takeBack_1 ?_
  refine g_getI (pc := 2) (j := 2) cf0 dX0_takeBack_2 fl_RX0_20 (by decide) (by decide) (by first | rfl | assumption) ?_
  first | refine g_aload0 (pc := 5) dX0_takeBack_5 ?_ | refine g_aloadN0 (pc := 5) dX0_takeBack_5 ?_
  refine g_getI (pc := 6) (j := 3) cf0 dX0_takeBack_6 fl_RX0_29 (by decide) (by decide) (by first | rfl | assumption) ?_
  refine g_vV2 (pc := 9) (c_X4_setInk hS) cf4 (by first | rfl | assumption) dX0_takeBack_9 cw_RX0_46 (by decide) (Nat.le_of_ble_eq_true rfl) ?_
  first | refine g_aload1 (pc := 12) dX0_takeBack_12 ?_ | refine g_aloadN1 (pc := 12) dX0_takeBack_12 ?_
  first | refine g_aload0 (pc := 13) dX0_takeBack_13 ?_ | refine g_aloadN0 (pc := 13) dX0_takeBack_13 ?_
  refine g_getI (pc := 14) (j := 4) cf0 dX0_takeBack_14 fl_RX0_35 (by decide) (by decide) (by first | rfl | assumption) ?_
  rw [ze1]
  refine g_putI (pc := 17) (j := 3) cf4 dX0_takeBack_17 fl_RX0_32 (by decide) rfl rfl (by decide) (by first | rfl | assumption) ?_
  rw [ze2]
  first | refine g_aload1 (pc := 20) dX0_takeBack_20 ?_ | refine g_aloadN1 (pc := 20) dX0_takeBack_20 ?_
  first | refine g_aload0 (pc := 21) dX0_takeBack_21 ?_ | refine g_aloadN0 (pc := 21) dX0_takeBack_21 ?_
  refine g_getI (pc := 22) (j := 1) cf0 dX0_takeBack_22 fl_RX0_16 (by decide) (by decide) (by first | rfl | assumption) ?_
  rw [ze0 _ _ (by omega) (by omega), hpen]
  refine g_fV1 (pc := 25) (c_X4_find_n hS (fun q => absurd q.1 (by decide))) cf4 (by first | rfl | assumption) dX0_takeBack_25 cw_RX0_38 (by decide) (Nat.le_of_ble_eq_true rfl) ?_
  first | refine g_astore2 (pc := 28) dX0_takeBack_28 (by decide) (by first | rfl | assumption) ?_ | refine g_astoreN2 (pc := 28) dX0_takeBack_28 (by decide) (by first | rfl | assumption) ?_
  first | refine g_aload2 (pc := 29) dX0_takeBack_29 ?_ | refine g_aloadN2 (pc := 29) dX0_takeBack_29 ?_
  refine g_ifnullN (pc := 30) 41 dX0_takeBack_30 (by decide) ?_
  refine g_vret (pc := 41) dX0_takeBack_41 rfl ?_
  exact ⟨rfl, rfl, rfl⟩
theorem c_X0_takeBack_s {i S p : Nat} {v : Mm} {L : Lm} (hi : i < 14) (hS : Sh S) (hpen : v (40 + i) 1 = nI p) (hp : p < 4) (hcp : nI p < v S 2) (hb6 : v (54 + i) 6 = 0 ∨ v (54 + i) 6 = 1) : Fn yX0_takeBack cX0_takeBack 3 none 2 [.ref (40 + i), .ref S] v L none (pcM (tbM v i S) (S + 3 + p) (54 + i)) L := by
  have hka := act_kd hi
  have hk4 := sh_kd hS
  have hs := sh_lt hS
  have ze0 := tbM_away (v := v) (i := i) (S := S)
  have ze1 : ∀ j, stM v S (v (40 + i) 2) (v (40 + i) 3) (40 + i) j = v (40 + i) j := fun j => stM_away (by omega)
  have ze2 : upd2 (stM v S (v (40 + i) 2) (v (40 + i) 3)) S 3 (v (40 + i) 4) = tbM v i S := rfl
  refine Fq.of (plainFor_of_name (by decide)) [some (.ref (40 + i)), some (.ref S), none] rfl (Nat.le_of_ble_eq_true rfl) ?_
  first | refine g_aload1 (pc := 0) dX0_takeBack_0 ?_ | refine g_aloadN1 (pc := 0) dX0_takeBack_0 ?_
  first | refine g_aload0 (pc := 1) dX0_takeBack_1 ?_ | refine g_aloadN0 (pc := 1) dX0_takeBack_1 ?_
  refine g_getI (pc := 2) (j := 2) cf0 dX0_takeBack_2 fl_RX0_20 (by decide) (by decide) (by first | rfl | assumption) ?_
  first | refine g_aload0 (pc := 5) dX0_takeBack_5 ?_ | refine g_aloadN0 (pc := 5) dX0_takeBack_5 ?_
  refine g_getI (pc := 6) (j := 3) cf0 dX0_takeBack_6 fl_RX0_29 (by decide) (by decide) (by first | rfl | assumption) ?_
  refine g_vV2 (pc := 9) (c_X4_setInk hS) cf4 (by first | rfl | assumption) dX0_takeBack_9 cw_RX0_46 (by decide) (Nat.le_of_ble_eq_true rfl) ?_
  first | refine g_aload1 (pc := 12) dX0_takeBack_12 ?_ | refine g_aloadN1 (pc := 12) dX0_takeBack_12 ?_
  first | refine g_aload0 (pc := 13) dX0_takeBack_13 ?_ | refine g_aloadN0 (pc := 13) dX0_takeBack_13 ?_
  refine g_getI (pc := 14) (j := 4) cf0 dX0_takeBack_14 fl_RX0_35 (by decide) (by decide) (by first | rfl | assumption) ?_
  rw [ze1]
  refine g_putI (pc := 17) (j := 3) cf4 dX0_takeBack_17 fl_RX0_32 (by decide) rfl rfl (by decide) (by first | rfl | assumption) ?_
  rw [ze2]
  first | refine g_aload1 (pc := 20) dX0_takeBack_20 ?_ | refine g_aloadN1 (pc := 20) dX0_takeBack_20 ?_
  first | refine g_aload0 (pc := 21) dX0_takeBack_21 ?_ | refine g_aloadN0 (pc := 21) dX0_takeBack_21 ?_
  refine g_getI (pc := 22) (j := 1) cf0 dX0_takeBack_22 fl_RX0_16 (by decide) (by decide) (by first | rfl | assumption) ?_
  rw [ze0 _ _ (by omega) (by omega), hpen]
  refine g_fV1 (pc := 25) (c_X4_find_s hS hp (by rw [show tbM v i S S 2 = v S 2 from tbM_S2 v i S]; exact hcp)) cf4 (by first | rfl | assumption) dX0_takeBack_25 cw_RX0_38 (by decide) (Nat.le_of_ble_eq_true rfl) ?_
  first | refine g_astore2 (pc := 28) dX0_takeBack_28 (by decide) (by first | rfl | assumption) ?_ | refine g_astoreN2 (pc := 28) dX0_takeBack_28 (by decide) (by first | rfl | assumption) ?_
  first | refine g_aload2 (pc := 29) dX0_takeBack_29 ?_ | refine g_aloadN2 (pc := 29) dX0_takeBack_29 ?_
  refine g_ifnull (pc := 30) dX0_takeBack_30 ?_
  first | refine g_aload2 (pc := 33) dX0_takeBack_33 ?_ | refine g_aloadN2 (pc := 33) dX0_takeBack_33 ?_
  first | refine g_aload0 (pc := 34) dX0_takeBack_34 ?_ | refine g_aloadN0 (pc := 34) dX0_takeBack_34 ?_
  refine g_getR (pc := 35) (j := 0) cf0 dX0_takeBack_35 fl_RX0_10 (by decide) (by decide) (by first | rfl | assumption) (54 + i) (act_tp hi) ?_
  refine g_vV1 (pc := 38) (c_X2_copy (sh_kp hS hp) (act_pk hi) (by omega) (by rw [ze0 _ _ (by omega) (by omega)]; exact hb6)) cf2 (sh_kp hS hp) dX0_takeBack_38 cw_RX0_42 (by decide) (Nat.le_of_ble_eq_true rfl) ?_
  refine g_vret (pc := 41) dX0_takeBack_41 rfl ?_
  exact ⟨rfl, rfl, rfl⟩
theorem c_X1_takeBackLast_n {f c S : Nat} {v : Mm} {L : Lm} (hS : Sh S) (hf : v 38 1 = nI f) (hf14 : f < 14) (hc : v 38 2 = nI (c + 1)) (hc14 : c < 14) (hpen : v (40 + (f + c) % 14) 1 = -9) : Fn yX1_takeBackLast cX1_takeBackLast 2 none 3 [.ref 38, .ref S] v L none (tbM (upd2 v 38 2 (nI c)) ((f + c) % 14) S) L := by
  have hs := sh_lt hS
  refine Fq.of (plainFor_of_name (by decide)) [some (.ref 38), some (.ref S)] rfl (Nat.le_of_ble_eq_true rfl) ?_
  first | refine g_aload0 (pc := 0) dX1_takeBackLast_0 ?_ | refine g_aloadN0 (pc := 0) dX1_takeBackLast_0 ?_
  refine g_dup (pc := 1) dX1_takeBackLast_1 rfl ?_
  refine g_getI (pc := 2) (j := 2) cf1 dX1_takeBackLast_2 fl_RX1_28 (by decide) (by decide) (by first | rfl | assumption) ?_
  refine g_iconst (pc := 5) (1) dX1_takeBackLast_5 (by decide) ?_
  refine g_isub (pc := 6) dX1_takeBackLast_6 ?_
  rw [hc, nI_pred]
  refine g_putI (pc := 7) (j := 2) cf1 dX1_takeBackLast_7 fl_RX1_28 (by decide) rfl rfl (by decide) (by first | rfl | assumption) ?_
  first | refine g_aload0 (pc := 10) dX1_takeBackLast_10 ?_ | refine g_aloadN0 (pc := 10) dX1_takeBackLast_10 ?_
  first | refine g_aload0 (pc := 11) dX1_takeBackLast_11 ?_ | refine g_aloadN0 (pc := 11) dX1_takeBackLast_11 ?_
  refine g_getI (pc := 12) (j := 2) cf1 dX1_takeBackLast_12 fl_RX1_28 (by decide) (by decide) (by first | rfl | assumption) ?_
  rw [u2_s]
  refine g_fV1 (pc := 15) (c_X1_at (f := f) (by rw [u2_n (fun q => absurd q.2 (by decide))]; exact hf) hf14 hc14) cf1 (by first | rfl | assumption) dX1_takeBackLast_15 cw_RX1_31 (by decide) (Nat.le_of_ble_eq_true rfl) ?_
  first | refine g_aload1 (pc := 18) dX1_takeBackLast_18 ?_ | refine g_aloadN1 (pc := 18) dX1_takeBackLast_18 ?_
  refine g_vV1 (pc := 19) (c_X0_takeBack_n (by omega) hS (by rw [u2_n (fun q => by omega)]; exact hpen)) cf0 (act_kd (by omega)) dX1_takeBackLast_19 cw_RX1_39 (by decide) (Nat.le_of_ble_eq_true rfl) ?_
  refine g_vret (pc := 22) dX1_takeBackLast_22 rfl ?_
  exact ⟨rfl, rfl, rfl⟩
theorem c_X1_takeBackLast_s {f c S p : Nat} {v : Mm} {L : Lm} (hS : Sh S) (hf : v 38 1 = nI f) (hf14 : f < 14) (hc : v 38 2 = nI (c + 1)) (hc14 : c < 14) (hpen : v (40 + (f + c) % 14) 1 = nI p) (hp : p < 4) (hcp : nI p < v S 2) (hb6 : v (54 + (f + c) % 14) 6 = 0 ∨ v (54 + (f + c) % 14) 6 = 1) : Fn yX1_takeBackLast cX1_takeBackLast 2 none 3 [.ref 38, .ref S] v L none (pcM (tbM (upd2 v 38 2 (nI c)) ((f + c) % 14) S) (S + 3 + p) (54 + (f + c) % 14)) L := by
  have hs := sh_lt hS
  refine Fq.of (plainFor_of_name (by decide)) [some (.ref 38), some (.ref S)] rfl (Nat.le_of_ble_eq_true rfl) ?_
  first | refine g_aload0 (pc := 0) dX1_takeBackLast_0 ?_ | refine g_aloadN0 (pc := 0) dX1_takeBackLast_0 ?_
  refine g_dup (pc := 1) dX1_takeBackLast_1 rfl ?_
  refine g_getI (pc := 2) (j := 2) cf1 dX1_takeBackLast_2 fl_RX1_28 (by decide) (by decide) (by first | rfl | assumption) ?_
  refine g_iconst (pc := 5) (1) dX1_takeBackLast_5 (by decide) ?_
  refine g_isub (pc := 6) dX1_takeBackLast_6 ?_
  rw [hc, nI_pred]
  refine g_putI (pc := 7) (j := 2) cf1 dX1_takeBackLast_7 fl_RX1_28 (by decide) rfl rfl (by decide) (by first | rfl | assumption) ?_
  first | refine g_aload0 (pc := 10) dX1_takeBackLast_10 ?_ | refine g_aloadN0 (pc := 10) dX1_takeBackLast_10 ?_
  first | refine g_aload0 (pc := 11) dX1_takeBackLast_11 ?_ | refine g_aloadN0 (pc := 11) dX1_takeBackLast_11 ?_
  refine g_getI (pc := 12) (j := 2) cf1 dX1_takeBackLast_12 fl_RX1_28 (by decide) (by decide) (by first | rfl | assumption) ?_
  rw [u2_s]
  refine g_fV1 (pc := 15) (c_X1_at (f := f) (by rw [u2_n (fun q => absurd q.2 (by decide))]; exact hf) hf14 hc14) cf1 (by first | rfl | assumption) dX1_takeBackLast_15 cw_RX1_31 (by decide) (Nat.le_of_ble_eq_true rfl) ?_
  first | refine g_aload1 (pc := 18) dX1_takeBackLast_18 ?_ | refine g_aloadN1 (pc := 18) dX1_takeBackLast_18 ?_
  refine g_vV1 (pc := 19) (c_X0_takeBack_s (by omega) hS (by rw [u2_n (fun q => by omega)]; exact hpen) hp (by rw [u2_n (fun q => by omega)]; exact hcp) (by rw [u2_n (fun q => by omega)]; exact hb6)) cf0 (act_kd (by omega)) dX1_takeBackLast_19 cw_RX1_39 (by decide) (Nat.le_of_ble_eq_true rfl) ?_
  refine g_vret (pc := 22) dX1_takeBackLast_22 rfl ?_
  exact ⟨rfl, rfl, rfl⟩
theorem c_X3_add_t {x y : Int32} {c : Nat} {v : Mm} {L : Lm} (hc : v 68 3 = nI c) (hc6 : c < 6) : Fn yX3_add cX3_add 3 (some .boolean) 0 [.ref 68, .int x, .int y] v L (some (.int 1)) (upd2 (upd2 (upd2 v 69 c x) 70 c y) 68 3 (nI (c + 1))) L := by
  refine Fq.of (plainFor_of_name (by decide)) [some (.ref 68), some (.int x), some (.int y)] rfl (Nat.le_of_ble_eq_true rfl) ?_
  first | refine g_aload0 (pc := 0) dX3_add_0 ?_ | refine g_aloadN0 (pc := 0) dX3_add_0 ?_
  refine g_getI (pc := 1) (j := 3) cf3 dX3_add_1 fl_RX3_25 (by decide) (by decide) (by first | rfl | assumption) ?_
  refine g_if_lt (pc := 4) 16 dX3_add_4 (by decide) (fun zh4 => ?_) (fun zh4 => ?_)
  · skip
    exact absurd zh4 (by rw [hc]; exact nI_pos (by omega))
  · skip
    first | refine g_aload0 (pc := 7) dX3_add_7 ?_ | refine g_aloadN0 (pc := 7) dX3_add_7 ?_
    refine g_getI (pc := 8) (j := 3) cf3 dX3_add_8 fl_RX3_25 (by decide) (by decide) (by first | rfl | assumption) ?_
    refine g_bipush (pc := 11) (6) dX3_add_11 (by decide) ?_
    refine g_icmp_lt (pc := 13) 18 dX3_add_13 (by decide) (fun zh13 => ?_) (fun zh13 => ?_)
    · skip
      first | refine g_aload0 (pc := 18) dX3_add_18 ?_ | refine g_aloadN0 (pc := 18) dX3_add_18 ?_
      refine g_getR (pc := 19) (j := 0) cf3 dX3_add_19 fl_RX3_9 (by decide) (by decide) (by first | rfl | assumption) (69) (rfl) ?_
      first | refine g_aload0 (pc := 22) dX3_add_22 ?_ | refine g_aloadN0 (pc := 22) dX3_add_22 ?_
      refine g_getI (pc := 23) (j := 3) cf3 dX3_add_23 fl_RX3_25 (by decide) (by decide) (by first | rfl | assumption) ?_
      refine g_iload1 (pc := 26) dX3_add_26 ?_
      refine g_iast (pc := 27) dX3_add_27 (by first | rfl | assumption) (by rw [hc]; exact vp_in_nI (by show c < 6; exact hc6) (by decide)) ?_
      first | refine g_aload0 (pc := 28) dX3_add_28 ?_ | refine g_aloadN0 (pc := 28) dX3_add_28 ?_
      refine g_getR (pc := 29) (j := 1) cf3 dX3_add_29 fl_RX3_15 (by decide) (by decide) (by first | rfl | assumption) (70) (rfl) ?_
      first | refine g_aload0 (pc := 32) dX3_add_32 ?_ | refine g_aloadN0 (pc := 32) dX3_add_32 ?_
      refine g_getI (pc := 33) (j := 3) cf3 dX3_add_33 fl_RX3_25 (by decide) (by decide) (by first | rfl | assumption) ?_
      refine g_iload2 (pc := 36) dX3_add_36 ?_
      refine g_iast (pc := 37) dX3_add_37 (by first | rfl | assumption) (by rw [u2_n (fun q => absurd q.1 (by decide)), hc]; exact vp_in_nI (by show c < 6; exact hc6) (by decide)) ?_
      first | refine g_aload0 (pc := 38) dX3_add_38 ?_ | refine g_aloadN0 (pc := 38) dX3_add_38 ?_
      refine g_dup (pc := 39) dX3_add_39 rfl ?_
      refine g_getI (pc := 40) (j := 3) cf3 dX3_add_40 fl_RX3_25 (by decide) (by decide) (by first | rfl | assumption) ?_
      refine g_iconst (pc := 43) (1) dX3_add_43 (by decide) ?_
      refine g_iadd (pc := 44) dX3_add_44 ?_
      refine g_putI (pc := 45) (j := 3) cf3 dX3_add_45 fl_RX3_25 (by decide) rfl rfl (by decide) (by first | rfl | assumption) ?_
      refine g_iconst (pc := 48) (1) dX3_add_48 (by decide) ?_
      refine g_zret (pc := 49) dX3_add_49 rfl (by first | exact Or.inl rfl | exact Or.inr rfl | assumption) ?_
      refine ⟨rfl, ?_, rfl⟩
      rw [hc, nI_clamp (by omega), u2_n (fun q => absurd q.1 (by decide)), hc, nI_clamp (by omega), u2_n (fun q => absurd q.1 (by decide)), u2_n (fun q => absurd q.1 (by decide)), hc, nI_1]
    · skip
      exact absurd (by rw [hc]; exact nI_lt (b := 6) hc6 (by decide)) zh13
theorem c_X3_add_f {x y : Int32} {v : Mm} {L : Lm} (hc : v 68 3 = 6) : Fn yX3_add cX3_add 3 (some .boolean) 0 [.ref 68, .int x, .int y] v L (some (.int 0)) v L := by
  refine Fq.of (plainFor_of_name (by decide)) [some (.ref 68), some (.int x), some (.int y)] rfl (Nat.le_of_ble_eq_true rfl) ?_
  first | refine g_aload0 (pc := 0) dX3_add_0 ?_ | refine g_aloadN0 (pc := 0) dX3_add_0 ?_
  refine g_getI (pc := 1) (j := 3) cf3 dX3_add_1 fl_RX3_25 (by decide) (by decide) (by first | rfl | assumption) ?_
  refine g_if_lt (pc := 4) 16 dX3_add_4 (by decide) (fun zh4 => ?_) (fun zh4 => ?_)
  · skip
    refine g_iconst (pc := 16) (0) dX3_add_16 (by decide) ?_
    refine g_zret (pc := 17) dX3_add_17 rfl (by first | exact Or.inl rfl | exact Or.inr rfl | assumption) ?_
    exact ⟨rfl, rfl, rfl⟩
  · skip
    first | refine g_aload0 (pc := 7) dX3_add_7 ?_ | refine g_aloadN0 (pc := 7) dX3_add_7 ?_
    refine g_getI (pc := 8) (j := 3) cf3 dX3_add_8 fl_RX3_25 (by decide) (by decide) (by first | rfl | assumption) ?_
    refine g_bipush (pc := 11) (6) dX3_add_11 (by decide) ?_
    refine g_icmp_lt (pc := 13) 18 dX3_add_13 (by decide) (fun zh13 => ?_) (fun zh13 => ?_)
    · skip
      exact absurd zh13 (by rw [hc]; decide)
    · skip
      refine g_iconst (pc := 16) (0) dX3_add_16 (by decide) ?_
      refine g_zret (pc := 17) dX3_add_17 rfl (by first | exact Or.inl rfl | exact Or.inr rfl | assumption) ?_
      exact ⟨rfl, rfl, rfl⟩
theorem lp_X3_fits {c : Nat} {x y : Int32} {v : Mm} {L : Lm} (hc : v 68 3 = nI c) (hc6 : c ≤ 6) : ∀ (m : Nat) (i : Nat), i + m = c → G RX3 cX3_fits 4 (some .boolean) 2 (fun a b K => a = some (.int (fiR v x y m i)) ∧ b = unM v x y ∧ K = L) 28 [some (.ref 68), some (.int x), some (.int y), some (.int (nI i))] [] (unM v x y) L := by
  intro m
  induction m with
  | zero =>
    intro i hi
    refine g_iload3 (pc := 28) dX3_fits_28 ?_
    first | refine g_aload0 (pc := 29) dX3_fits_29 ?_ | refine g_aloadN0 (pc := 29) dX3_fits_29 ?_
    refine g_getI (pc := 30) (j := 3) cf3 dX3_fits_30 fl_RX3_25 (by decide) (by decide) (by first | rfl | assumption) ?_
    refine g_icmp_ge (pc := 33) 72 dX3_fits_33 (by decide) (fun zh33 => ?_) (fun zh33 => ?_)
    · skip
      refine g_iconst (pc := 72) (1) dX3_fits_72 (by decide) ?_
      refine g_zret (pc := 73) dX3_fits_73 rfl (by first | exact Or.inl rfl | exact Or.inr rfl | assumption) ?_
      exact ⟨rfl, rfl, rfl⟩
    · skip
      exact absurd (by rw [unM_n (by decide), hc]; exact nI_le (by omega) (by omega)) zh33
  | succ m ih =>
    intro i hi
    refine g_iload3 (pc := 28) dX3_fits_28 ?_
    first | refine g_aload0 (pc := 29) dX3_fits_29 ?_ | refine g_aloadN0 (pc := 29) dX3_fits_29 ?_
    refine g_getI (pc := 30) (j := 3) cf3 dX3_fits_30 fl_RX3_25 (by decide) (by decide) (by first | rfl | assumption) ?_
    refine g_icmp_ge (pc := 33) 72 dX3_fits_33 (by decide) (fun zh33 => ?_) (fun zh33 => ?_)
    · skip
      exact absurd zh33 (by rw [unM_n (by decide), hc]; exact nI_ge (by omega) (by omega))
    · skip
      refine g_iload3 (pc := 36) dX3_fits_36 ?_
      refine g_bipush (pc := 37) (6) dX3_fits_37 (by decide) ?_
      refine g_icmp_ge (pc := 39) 72 dX3_fits_39 (by decide) (fun zh39 => ?_) (fun zh39 => ?_)
      · skip
        exact absurd zh39 (nI_ge (b := 6) (by omega) (by decide))
      · skip
        first | refine g_aload0 (pc := 42) dX3_fits_42 ?_ | refine g_aloadN0 (pc := 42) dX3_fits_42 ?_
        refine g_getR (pc := 43) (j := 2) cf3 dX3_fits_43 fl_RX3_21 (by decide) (by decide) (by first | rfl | assumption) (71) (rfl) ?_
        first | refine g_aload0 (pc := 46) dX3_fits_46 ?_ | refine g_aloadN0 (pc := 46) dX3_fits_46 ?_
        refine g_getR (pc := 47) (j := 0) cf3 dX3_fits_47 fl_RX3_9 (by decide) (by decide) (by first | rfl | assumption) (69) (rfl) ?_
        refine g_iload3 (pc := 50) dX3_fits_50 ?_
        refine g_iald (pc := 51) dX3_fits_51 (by first | rfl | assumption) (vp_in_nI (by show i < 6; omega) (by decide)) ?_
        refine g_fV1 (pc := 52) (c_X2_across rfl) cf2 (rfl) dX3_fits_52 cw_RX3_39 (by decide) (Nat.le_of_ble_eq_true rfl) ?_
        first | refine g_aload0 (pc := 55) dX3_fits_55 ?_ | refine g_aloadN0 (pc := 55) dX3_fits_55 ?_
        refine g_getR (pc := 56) (j := 1) cf3 dX3_fits_56 fl_RX3_15 (by decide) (by decide) (by first | rfl | assumption) (70) (rfl) ?_
        refine g_iload3 (pc := 59) dX3_fits_59 ?_
        refine g_iald (pc := 60) dX3_fits_60 (by first | rfl | assumption) (vp_in_nI (by show i < 6; omega) (by decide)) ?_
        rw [nI_clamp (show i < 2 ^ 31 by omega), unM_n (k := 69) (by decide), unM_n (k := 70) (by decide), show unM v x y 71 1 = v 71 1 from rfl, show unM v x y 71 2 = x from rfl, show unM v x y 71 3 = y from rfl]
        refine g_icmp_eq (pc := 61) 66 dX3_fits_61 (by decide) (fun zh61 => ?_) (fun zh61 => ?_)
        · skip
          refine g_iinc3 (pc := 66) (nI (i + 1)) dX3_fits_66 (nI_succ' i) (by decide) (by first | rfl | assumption) ?_
          refine g_goto (pc := 69) 28 dX3_fits_69 (by decide) ?_
          refine G.mono (ih (i + 1) (by omega)) (fun a b K h => ⟨h.1.trans ?_, h.2.1, h.2.2⟩)
          exact congrArg (fun t => some (Value.int t)) (if_pos zh61).symm
        · skip
          refine g_iconst (pc := 64) (0) dX3_fits_64 (by decide) ?_
          refine g_zret (pc := 65) dX3_fits_65 rfl (by first | exact Or.inl rfl | exact Or.inr rfl | assumption) ?_
          exact ⟨congrArg (fun t => some (Value.int t)) (if_neg zh61).symm, rfl, rfl⟩
theorem c_X3_fits {c : Nat} {x y : Int32} {v : Mm} {L : Lm} (hc : v 68 3 = nI c) (hc6 : c ≤ 6) : Fn yX3_fits cX3_fits 4 (some .boolean) 2 [.ref 68, .int x, .int y] v L (some (.int (fiF v c x y))) (if x = 0 ∧ y = 0 then v else unM v x y) L := by
  refine Fq.of (plainFor_of_name (by decide)) [some (.ref 68), some (.int x), some (.int y), none] rfl (Nat.le_of_ble_eq_true rfl) ?_
  refine g_iload1 (pc := 0) dX3_fits_0 ?_
  refine g_if_ne (pc := 1) 10 dX3_fits_1 (by decide) (fun zh1 => ?_) (fun zh1 => ?_)
  · skip
    first | refine g_aload0 (pc := 10) dX3_fits_10 ?_ | refine g_aloadN0 (pc := 10) dX3_fits_10 ?_
    refine g_getR (pc := 11) (j := 2) cf3 dX3_fits_11 fl_RX3_21 (by decide) (by decide) (by first | rfl | assumption) (71) (rfl) ?_
    refine g_iload1 (pc := 14) dX3_fits_14 ?_
    refine g_putI (pc := 15) (j := 2) cf2 dX3_fits_15 fl_RX3_33 (by decide) rfl rfl (by decide) (rfl) ?_
    first | refine g_aload0 (pc := 18) dX3_fits_18 ?_ | refine g_aloadN0 (pc := 18) dX3_fits_18 ?_
    refine g_getR (pc := 19) (j := 2) cf3 dX3_fits_19 fl_RX3_21 (by decide) (by decide) (by first | rfl | assumption) (71) (rfl) ?_
    refine g_iload2 (pc := 22) dX3_fits_22 ?_
    refine g_putI (pc := 23) (j := 3) cf2 dX3_fits_23 fl_RX3_36 (by decide) rfl rfl (by decide) (rfl) ?_
    refine g_iconst (pc := 26) (0) dX3_fits_26 (by decide) ?_
    refine g_istore3 (pc := 27) dX3_fits_27 (by decide) (by first | rfl | assumption) ?_
    have hne : ¬ (x = 0 ∧ y = 0) := fun q => by first | exact zh1 q.1 | exact zh5 q.2
    rw [if_neg hne, show fiF v c x y = fiR v x y c 0 from if_neg hne]
    exact lp_X3_fits hc hc6 c 0 (Nat.zero_add _)
  · skip
    refine g_iload2 (pc := 4) dX3_fits_4 ?_
    refine g_if_ne (pc := 5) 10 dX3_fits_5 (by decide) (fun zh5 => ?_) (fun zh5 => ?_)
    · skip
      first | refine g_aload0 (pc := 10) dX3_fits_10 ?_ | refine g_aloadN0 (pc := 10) dX3_fits_10 ?_
      refine g_getR (pc := 11) (j := 2) cf3 dX3_fits_11 fl_RX3_21 (by decide) (by decide) (by first | rfl | assumption) (71) (rfl) ?_
      refine g_iload1 (pc := 14) dX3_fits_14 ?_
      refine g_putI (pc := 15) (j := 2) cf2 dX3_fits_15 fl_RX3_33 (by decide) rfl rfl (by decide) (rfl) ?_
      first | refine g_aload0 (pc := 18) dX3_fits_18 ?_ | refine g_aloadN0 (pc := 18) dX3_fits_18 ?_
      refine g_getR (pc := 19) (j := 2) cf3 dX3_fits_19 fl_RX3_21 (by decide) (by decide) (by first | rfl | assumption) (71) (rfl) ?_
      refine g_iload2 (pc := 22) dX3_fits_22 ?_
      refine g_putI (pc := 23) (j := 3) cf2 dX3_fits_23 fl_RX3_36 (by decide) rfl rfl (by decide) (rfl) ?_
      refine g_iconst (pc := 26) (0) dX3_fits_26 (by decide) ?_
      refine g_istore3 (pc := 27) dX3_fits_27 (by decide) (by first | rfl | assumption) ?_
      have hne : ¬ (x = 0 ∧ y = 0) := fun q => by first | exact zh1 q.1 | exact zh5 q.2
      rw [if_neg hne, show fiF v c x y = fiR v x y c 0 from if_neg hne]
      exact lp_X3_fits hc hc6 c 0 (Nat.zero_add _)
    · skip
      refine g_iconst (pc := 8) (0) dX3_fits_8 (by decide) ?_
      refine g_zret (pc := 9) dX3_fits_9 rfl (by first | exact Or.inl rfl | exact Or.inr rfl | assumption) ?_
      rw [if_pos ⟨zh1, zh5⟩]; exact ⟨congrArg (fun t => some (Value.int t)) (if_pos ⟨zh1, zh5⟩).symm, rfl, rfl⟩
