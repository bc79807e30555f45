theorem lp_J7_fill {k : Nat} {x : Int32} {v : Mm} {L : Lm} (hk : kd k = 11) (hl : ln k < 1000) : ∀ (m : Nat) (i : Nat), i + m = ln k → G RJ7 cJ7_fill_53178 4 none 0 (fun a b c => a = none ∧ b = flM v k (ln k) x ∧ c = L) 5 [some (.ref k), some (.int x), some (.int (nI i)), some (.int (nI (ln k)))] [] (flM v k i x) L := by
  intro m
  induction m with
  | zero =>
    intro i hi
    refine g_iload2 (pc := 5) dJ7_fill_53178_5 ?_
    refine g_iload3 (pc := 6) dJ7_fill_53178_6 ?_
    refine g_icmp_ge (pc := 7) 20 dJ7_fill_53178_7 (by decide) (fun zh7 => ?_) (fun zh7 => ?_)
    · skip
      refine g_vret (pc := 20) dJ7_fill_53178_20 rfl ?_
      exact ⟨rfl, by rw [show i = ln k by omega], rfl⟩
    · skip
      exact absurd (nI_le (by omega) (by omega)) zh7
  | succ m ih =>
    intro i hi
    refine g_iload2 (pc := 5) dJ7_fill_53178_5 ?_
    refine g_iload3 (pc := 6) dJ7_fill_53178_6 ?_
    refine g_icmp_ge (pc := 7) 20 dJ7_fill_53178_7 (by decide) (fun zh7 => ?_) (fun zh7 => ?_)
    · skip
      exact absurd zh7 (nI_ge (by omega) (by omega))
    · skip
      first | refine g_aload0 (pc := 10) dJ7_fill_53178_10 ?_ | refine g_aloadN0 (pc := 10) dJ7_fill_53178_10 ?_
      refine g_iload2 (pc := 11) dJ7_fill_53178_11 ?_
      refine g_iload1 (pc := 12) dJ7_fill_53178_12 ?_
      refine g_iast (pc := 13) dJ7_fill_53178_13 (by first | rfl | assumption) (vp_in_nI (by omega) (by omega)) ?_
      refine g_iinc2 (pc := 14) (nI (i + 1)) dJ7_fill_53178_14 (nI_succ' i) (by decide) (by first | rfl | assumption) ?_
      refine g_goto (pc := 17) 5 dJ7_fill_53178_17 (by decide) ?_
      have e := ih (i + 1) (by omega)
      rw [← flM_s] at e
      rw [nI_clamp (by omega)]
      exact e
theorem c_J7_fill_53178 {k : Nat} {x : Int32} {v : Mm} {L : Lm} (hk : kd k = 11) (hl : ln k < 1000) : Fn yJ7_fill_53178 cJ7_fill_53178 4 none 0 [.ref k, .int x] v L none (flM v k (ln k) x) L := by
  refine Fq.of (pf_J7_fill_53178) [some (.ref k), some (.int x), none, none] rfl (Nat.le_of_ble_eq_true rfl) ?_
  refine g_iconst (pc := 0) (0) dJ7_fill_53178_0 (by decide) ?_
  refine g_istore2 (pc := 1) dJ7_fill_53178_1 (by decide) (by first | rfl | assumption) ?_
  first | refine g_aload0 (pc := 2) dJ7_fill_53178_2 ?_ | refine g_aloadN0 (pc := 2) dJ7_fill_53178_2 ?_
  refine g_alen (pc := 3) dJ7_fill_53178_3 (by first | rfl | assumption) ?_
  refine g_istore3 (pc := 4) dJ7_fill_53178_4 (by decide) (by first | rfl | assumption) ?_
  have e := lp_J7_fill (v := v) (L := L) (x := x) hk hl (ln k) 0 (Nat.zero_add _)
  rw [flM_0] at e
  exact e
theorem c_X4_clear {S : Nat} {v : Mm} {L : Lm} (hS : Sh S) : Fn yX4_clear cX4_clear 1 none 1 [.ref S] v L none (flM (upd2 (upd2 v S 2 0) S 3 0) (S + 2) 25 0) L := by
  have hk4 := sh_kd hS
  have hk1 := sh_k1 hS
  have hk2 := sh_k2 hS
  refine Fq.of (plainFor_of_name (by decide)) [some (.ref S)] rfl (Nat.le_of_ble_eq_true rfl) ?_
  first | refine g_aload0 (pc := 0) dX4_clear_0 ?_ | refine g_aloadN0 (pc := 0) dX4_clear_0 ?_
  refine g_iconst (pc := 1) (0) dX4_clear_1 (by decide) ?_
  refine g_putI (pc := 2) (j := 2) cf4 dX4_clear_2 fl_RX4_22 (by decide) rfl rfl (by decide) (by first | rfl | assumption) ?_
  first | refine g_aload0 (pc := 5) dX4_clear_5 ?_ | refine g_aloadN0 (pc := 5) dX4_clear_5 ?_
  refine g_iconst (pc := 6) (0) dX4_clear_6 (by decide) ?_
  refine g_putI (pc := 7) (j := 3) cf4 dX4_clear_7 fl_RX4_26 (by decide) rfl rfl (by decide) (by first | rfl | assumption) ?_
  first | refine g_aload0 (pc := 10) dX4_clear_10 ?_ | refine g_aloadN0 (pc := 10) dX4_clear_10 ?_
  refine g_getR (pc := 11) (j := 1) cf4 dX4_clear_11 fl_RX4_17 (by decide) (by decide) (by first | rfl | assumption) (S + 2) (sh_t1 hS) ?_
  refine g_iconst (pc := 14) (0) dX4_clear_14 (by decide) ?_
  refine g_vS2 (pc := 15) (c_J7_fill_53178 hk2 (by rw [sh_l2 hS]; decide)) dX4_clear_15 cw_RX4_29 (by decide) (Nat.le_of_ble_eq_true rfl) ?_
  refine g_vret (pc := 18) dX4_clear_18 rfl ?_
  exact ⟨rfl, by rw [sh_l2 hS], rfl⟩
theorem lp_X4_copy {S O n : Nat} {w0 : Mm} {L : Lm} {Q : Qt} (hS : Sh S) (hO : Sh O) (hne : S ≠ O) (hn4 : n ≤ 4) (hI0 : (fun (i : Nat) (w : Mm) => w S 2 = nI n ∧ ∀ p, p < n → w (O + 3 + p) 6 = 0 ∨ w (O + 3 + p) 6 = 1) 0 w0) (hq : Q none (cpI S O n w0) L) : (fun (i : Nat) (w : Mm) =>  G RX4 cX4_copy 3 none 1 Q 33 [some (.ref S), some (.ref O), some (.int (nI i))] [] w L) 0 w0 := by
  refine g_for n (fun i w => pcM w (S + 3 + i) (O + 3 + i)) (fun (i : Nat) (w : Mm) => w S 2 = nI n ∧ ∀ p, p < n → w (O + 3 + p) 6 = 0 ∨ w (O + 3 + p) 6 = 1) (fun (i : Nat) (w : Mm) =>  G RX4 cX4_copy 3 none 1 Q 33 [some (.ref S), some (.ref O), some (.int (nI i))] [] w L) w0 hI0 ?_ (fun hI => ?_) (fun i w hi hI hn => ?_)
  · intro i w hi h
    refine ⟨?_, fun p hp => ?_⟩
    · show pcM w (S + 3 + i) (O + 3 + i) S 2 = nI n
      rw [pcM_at, if_neg (fun q => by omega)]; exact h.1
    · show pcM w (S + 3 + i) (O + 3 + i) (O + 3 + p) 6 = 0 ∨ pcM w (S + 3 + i) (O + 3 + i) (O + 3 + p) 6 = 1
      rw [pcM_at, if_neg (fun q => by have := sh_ne hO hS (Ne.symm hne) (i := 3 + p) (j := 3 + i) (by omega) (by omega); omega)]
      exact h.2 p hp
  · show G _ _ _ _ _ _ _ _ _ _ _
    try dsimp only at hI
    refine g_iload2 (pc := 33) dX4_copy_33 ?_
    first | refine g_aload0 (pc := 34) dX4_copy_34 ?_ | refine g_aloadN0 (pc := 34) dX4_copy_34 ?_
    refine g_getI (pc := 35) (j := 2) cf4 dX4_copy_35 fl_RX4_22 (by decide) (by decide) (sh_kd hS) ?_
    refine g_icmp_ge (pc := 38) 67 dX4_copy_38 (by decide) (fun zh38 => ?_) (fun zh38 => ?_)
    · skip
      refine g_vret (pc := 67) dX4_copy_67 rfl ?_
      exact hq
    · skip
      exact absurd (by rw [hI.1]; exact nI_le (Nat.le_refl _) (by omega)) zh38
  · show G _ _ _ _ _ _ _ _ _ _ _
    try dsimp only at hI
    try dsimp only at hn
    refine g_iload2 (pc := 33) dX4_copy_33 ?_
    first | refine g_aload0 (pc := 34) dX4_copy_34 ?_ | refine g_aloadN0 (pc := 34) dX4_copy_34 ?_
    refine g_getI (pc := 35) (j := 2) cf4 dX4_copy_35 fl_RX4_22 (by decide) (by decide) (sh_kd hS) ?_
    refine g_icmp_ge (pc := 38) 67 dX4_copy_38 (by decide) (fun zh38 => ?_) (fun zh38 => ?_)
    · skip
      exact absurd zh38 (by rw [hI.1]; exact nI_ge hi (by omega))
    · skip
      refine g_iload2 (pc := 41) dX4_copy_41 ?_
      refine g_iconst (pc := 42) (4) dX4_copy_42 (by decide) ?_
      refine g_icmp_ge (pc := 43) 67 dX4_copy_43 (by decide) (fun zh43 => ?_) (fun zh43 => ?_)
      · skip
        exact absurd zh43 (nI_ge (b := 4) (by omega) (by decide))
      · skip
        first | refine g_aload0 (pc := 46) dX4_copy_46 ?_ | refine g_aloadN0 (pc := 46) dX4_copy_46 ?_
        refine g_getR (pc := 47) (j := 0) cf4 dX4_copy_47 fl_RX4_11 (by decide) (by decide) (sh_kd hS) (S + 1) (sh_t0 hS) ?_
        refine g_iload2 (pc := 50) dX4_copy_50 ?_
        refine g_aald (pc := 51) (n := 14) dX4_copy_51 (sh_k1 hS) (by decide) (by decide) (by rw [sh_l1 hS]; exact vp_in_nI (by omega) (by decide)) (S + 3 + i) (by rw [nI_clamp (by omega)]; exact sh_tp hS (by omega)) ?_
        first | refine g_aload1 (pc := 52) dX4_copy_52 ?_ | refine g_aloadN1 (pc := 52) dX4_copy_52 ?_
        refine g_getR (pc := 53) (j := 0) cf4 dX4_copy_53 fl_RX4_11 (by decide) (by decide) (sh_kd hO) (O + 1) (sh_t0 hO) ?_
        refine g_iload2 (pc := 56) dX4_copy_56 ?_
        refine g_aald (pc := 57) (n := 14) dX4_copy_57 (sh_k1 hO) (by decide) (by decide) (by rw [sh_l1 hO]; exact vp_in_nI (by omega) (by decide)) (O + 3 + i) (by rw [nI_clamp (by omega)]; exact sh_tp hO (by omega)) ?_
        refine g_vV1 (pc := 58) (c_X2_copy (sh_kp hS (by omega)) (sh_kp hO (by omega)) (fun q => by have := sh_ne hS hO hne (i := 3 + i) (j := 3 + i) (by omega) (by omega); omega) (hI.2 i hi)) cf2 (sh_kp hS (by omega)) dX4_copy_58 cw_RX4_41 (by decide) (Nat.le_of_ble_eq_true rfl) ?_
        refine g_iinc2 (pc := 61) (nI (i + 1)) dX4_copy_61 (nI_succ' i) (by decide) (by first | rfl | assumption) ?_
        refine g_goto (pc := 64) 33 dX4_copy_64 (by decide) ?_
        exact hn
theorem c_X4_copy {S O n : Nat} {v : Mm} {L : Lm} (hS : Sh S) (hO : Sh O) (hne : S ≠ O) (hn4 : n ≤ 4) (hn : v O 2 = nI n) (zh6 : ∀ p, p < n → v (O + 3 + p) 6 = 0 ∨ v (O + 3 + p) 6 = 1) : Fn yX4_copy cX4_copy 3 none 1 [.ref S, .ref O] v L none (cpM v S O n) L := by
  refine Fq.of (plainFor_of_name (by decide)) [some (.ref S), some (.ref O), none] rfl (Nat.le_of_ble_eq_true rfl) ?_
  first | refine g_aload0 (pc := 0) dX4_copy_0 ?_ | refine g_aloadN0 (pc := 0) dX4_copy_0 ?_
  first | refine g_aload1 (pc := 1) dX4_copy_1 ?_ | refine g_aloadN1 (pc := 1) dX4_copy_1 ?_
  refine g_getI (pc := 2) (j := 2) cf4 dX4_copy_2 fl_RX4_22 (by decide) (by decide) (sh_kd hO) ?_
  refine g_putI (pc := 5) (j := 2) cf4 dX4_copy_5 fl_RX4_22 (by decide) rfl rfl (by decide) (sh_kd hS) ?_
  first | refine g_aload0 (pc := 8) dX4_copy_8 ?_ | refine g_aloadN0 (pc := 8) dX4_copy_8 ?_
  first | refine g_aload1 (pc := 9) dX4_copy_9 ?_ | refine g_aloadN1 (pc := 9) dX4_copy_9 ?_
  refine g_getI (pc := 10) (j := 3) cf4 dX4_copy_10 fl_RX4_26 (by decide) (by decide) (sh_kd hO) ?_
  refine g_putI (pc := 13) (j := 3) cf4 dX4_copy_13 fl_RX4_26 (by decide) rfl rfl (by decide) (sh_kd hS) ?_
  first | refine g_aload1 (pc := 16) dX4_copy_16 ?_ | refine g_aloadN1 (pc := 16) dX4_copy_16 ?_
  refine g_getR (pc := 17) (j := 1) cf4 dX4_copy_17 fl_RX4_17 (by decide) (by decide) (sh_kd hO) (O + 2) (sh_t1 hO) ?_
  refine g_iconst (pc := 20) (0) dX4_copy_20 (by decide) ?_
  first | refine g_aload0 (pc := 21) dX4_copy_21 ?_ | refine g_aloadN0 (pc := 21) dX4_copy_21 ?_
  refine g_getR (pc := 22) (j := 1) cf4 dX4_copy_22 fl_RX4_17 (by decide) (by decide) (sh_kd hS) (S + 2) (sh_t1 hS) ?_
  refine g_iconst (pc := 25) (0) dX4_copy_25 (by decide) ?_
  refine g_bipush (pc := 26) (25) dX4_copy_26 (by decide) ?_
  refine g_copyi (pc := 28) dX4_copy_28 ac_RX4_35 (sh_k2 hO) (sh_k2 hS) (by decide) (by decide) (by decide) (by rw [sh_l2 hO]; decide) (by rw [sh_l2 hS]; decide) (by decide) (Nat.le_of_ble_eq_true rfl) ?_
  refine g_iconst (pc := 31) (0) dX4_copy_31 (by decide) ?_
  refine g_istore2 (pc := 32) dX4_copy_32 (by decide) (by first | rfl | assumption) ?_
  have ze2 : ∀ (a j : Nat), a ≠ S → a ≠ S + 2 → cp0 v S O a j = v a j := fun a j zh1 zh2 => by unfold cp0 updA upd2; simp [zh1, zh2]
  have en : upd2 v S 2 (v O 2) O 3 = v O 3 := u2_n (fun q => hne q.1.symm)
  rw [en, show upd2 (upd2 v S 2 (v O 2)) S 3 (v O 3) (O + 2) = v (O + 2) from by funext j; have n0 := sh_ne hO hS (Ne.symm hne) (i := 2) (j := 0) (by omega) (by omega); rw [u2_n (fun q => by have := q.1; omega), u2_n (fun q => by have := q.1; omega)], show upd2 (upd2 v S 2 (v O 2)) S 3 (v O 3) (S + 2) = v (S + 2) from by funext j; rw [u2_n (fun q => by omega), u2_n (fun q => by omega)]]
  refine lp_X4_copy (w0 := cp0 v S O) hS hO hne hn4 ⟨?_, fun p hp => ?_⟩ ⟨rfl, rfl, rfl⟩
  · unfold cp0 updA upd2; simp [hn]
  · have n1 := sh_ne hO hS (Ne.symm hne) (i := 3 + p) (j := 0) (by omega) (by omega)
    have n2 := sh_ne hO hS (Ne.symm hne) (i := 3 + p) (j := 2) (by omega) (by omega)
    have q := ze2 (O + 3 + p) 6 (by omega) (by omega)
    rw [q]; exact zh6 p hp
theorem lp_X4_inkOnAll {S : Nat} {v : Mm} {L : Lm} (hS : Sh S) (hI0 : (fun (_ : Nat) (_ : Int32) => True) 0 (0 : Int32)) : (fun (i : Nat) (w : Int32) =>  G RX4 cX4_inkOnAll 3 (some .int) 0 (fun a b c => a = some (.int (sumF (v (S + 2)) 25)) ∧ b = v ∧ c = L) 4 [some (.ref S), some (.int w), some (.int (nI i))] [] v L) 0 (0 : Int32) := by
  refine g_for 25 (fun i s => s + v (S + 2) i) (fun (_ : Nat) (_ : Int32) => True) (fun (i : Nat) (w : Int32) =>  G RX4 cX4_inkOnAll 3 (some .int) 0 (fun a b c => a = some (.int (sumF (v (S + 2)) 25)) ∧ b = v ∧ c = L) 4 [some (.ref S), some (.int w), some (.int (nI i))] [] v L) (0 : Int32) hI0 ?_ (fun hI => ?_) (fun i w hi hI hn => ?_)
  · exact fun _ _ _ h => h
  · show G _ _ _ _ _ _ _ _ _ _ _
    try dsimp only at hI
    refine g_iload2 (pc := 4) dX4_inkOnAll_4 ?_
    refine g_bipush (pc := 5) (25) dX4_inkOnAll_5 (by decide) ?_
    refine g_icmp_ge (pc := 7) 25 dX4_inkOnAll_7 (by decide) (fun zh7 => ?_) (fun zh7 => ?_)
    · skip
      refine g_iload1 (pc := 25) dX4_inkOnAll_25 ?_
      refine g_iret (pc := 26) dX4_inkOnAll_26 rfl ?_
      exact ⟨rfl, rfl, rfl⟩
    · skip
      exact absurd (Int32.le_refl _) zh7
  · show G _ _ _ _ _ _ _ _ _ _ _
    try dsimp only at hI
    try dsimp only at hn
    refine g_iload2 (pc := 4) dX4_inkOnAll_4 ?_
    refine g_bipush (pc := 5) (25) dX4_inkOnAll_5 (by decide) ?_
    refine g_icmp_ge (pc := 7) 25 dX4_inkOnAll_7 (by decide) (fun zh7 => ?_) (fun zh7 => ?_)
    · skip
      exact absurd zh7 (nI_ge (b := 25) hi (by decide))
    · skip
      refine g_iload1 (pc := 10) dX4_inkOnAll_10 ?_
      first | refine g_aload0 (pc := 11) dX4_inkOnAll_11 ?_ | refine g_aloadN0 (pc := 11) dX4_inkOnAll_11 ?_
      refine g_getR (pc := 12) (j := 1) cf4 dX4_inkOnAll_12 fl_RX4_17 (by decide) (by decide) (sh_kd hS) (S + 2) (sh_t1 hS) ?_
      refine g_iload2 (pc := 15) dX4_inkOnAll_15 ?_
      refine g_iald (pc := 16) dX4_inkOnAll_16 (sh_k2 hS) (by rw [sh_l2 hS]; exact vp_in_nI hi (by decide)) ?_
      rw [nI_clamp (show i < 2 ^ 31 by omega)]
      refine g_iadd (pc := 17) dX4_inkOnAll_17 ?_
      refine g_istore1 (pc := 18) dX4_inkOnAll_18 (by decide) (by first | rfl | assumption) ?_
      refine g_iinc2 (pc := 19) (nI (i + 1)) dX4_inkOnAll_19 (nI_succ' i) (by decide) (by first | rfl | assumption) ?_
      refine g_goto (pc := 22) 4 dX4_inkOnAll_22 (by decide) ?_
      exact hn
theorem c_X4_inkOnAll {S : Nat} {v : Mm} {L : Lm} (hS : Sh S) : Fn yX4_inkOnAll cX4_inkOnAll 3 (some .int) 0 [.ref S] v L (some (.int (sumF (v (S + 2)) 25))) v L := by
  have hk4 := sh_kd hS
  have hk1 := sh_k1 hS
  have hk2 := sh_k2 hS
  refine Fq.of (plainFor_of_name (by decide)) [some (.ref S), none, none] rfl (Nat.le_of_ble_eq_true rfl) ?_
  refine g_iconst (pc := 0) (0) dX4_inkOnAll_0 (by decide) ?_
  refine g_istore1 (pc := 1) dX4_inkOnAll_1 (by decide) (by first | rfl | assumption) ?_
  refine g_iconst (pc := 2) (0) dX4_inkOnAll_2 (by decide) ?_
  refine g_istore2 (pc := 3) dX4_inkOnAll_3 (by decide) (by first | rfl | assumption) ?_
  exact lp_X4_inkOnAll hS trivial
theorem lp_X4_blackBits {S : Nat} {v : Mm} {L : Lm} (hS : Sh S) (hI0 : (fun (_ : Nat) (_ : Int32) => True) 0 (0 : Int32)) : (fun (i : Nat) (w : Int32) =>  G RX4 cX4_blackBits 3 (some .int) 3 (fun a b c => a = some (.int (bitsF (fun i => decide (3 ≤ v (S + 2) i)) 25)) ∧ b = v ∧ c = L) 4 [some (.ref S), some (.int w), some (.int (nI i))] [] v L) 0 (0 : Int32) := by
  refine g_for 25 (fun i s => if decide (3 ≤ v (S + 2) i) = true then s ||| bit1 i else s) (fun (_ : Nat) (_ : Int32) => True) (fun (i : Nat) (w : Int32) =>  G RX4 cX4_blackBits 3 (some .int) 3 (fun a b c => a = some (.int (bitsF (fun i => decide (3 ≤ v (S + 2) i)) 25)) ∧ b = v ∧ c = L) 4 [some (.ref S), some (.int w), some (.int (nI i))] [] v L) (0 : Int32) hI0 ?_ (fun hI => ?_) (fun i w hi hI hn => ?_)
  · exact fun _ _ _ h => h
  · show G _ _ _ _ _ _ _ _ _ _ _
    try dsimp only at hI
    refine g_iload2 (pc := 4) dX4_blackBits_4 ?_
    refine g_bipush (pc := 5) (25) dX4_blackBits_5 (by decide) ?_
    refine g_icmp_ge (pc := 7) 30 dX4_blackBits_7 (by decide) (fun zh7 => ?_) (fun zh7 => ?_)
    · skip
      refine g_iload1 (pc := 30) dX4_blackBits_30 ?_
      refine g_iret (pc := 31) dX4_blackBits_31 rfl ?_
      exact ⟨rfl, rfl, rfl⟩
    · skip
      exact absurd (Int32.le_refl _) zh7
  · show G _ _ _ _ _ _ _ _ _ _ _
    try dsimp only at hI
    try dsimp only at hn
    refine g_iload2 (pc := 4) dX4_blackBits_4 ?_
    refine g_bipush (pc := 5) (25) dX4_blackBits_5 (by decide) ?_
    refine g_icmp_ge (pc := 7) 30 dX4_blackBits_7 (by decide) (fun zh7 => ?_) (fun zh7 => ?_)
    · skip
      exact absurd zh7 (nI_ge (b := 25) hi (by decide))
    · skip
      first | refine g_aload0 (pc := 10) dX4_blackBits_10 ?_ | refine g_aloadN0 (pc := 10) dX4_blackBits_10 ?_
      refine g_iload2 (pc := 11) dX4_blackBits_11 ?_
      refine g_fV1 (pc := 12) (c_X4_isBlack hS) cf4 (sh_kd hS) dX4_blackBits_12 cw_RX4_90 (by decide) (Nat.le_of_ble_eq_true rfl) ?_
      have ek : inkF v S (nI i) = v (S + 2) i := by unfold inkF; rw [if_pos ⟨nI_pos' (by omega), nI_lt (b := 25) hi (by decide)⟩, nI_clamp (by omega)]
      rw [ek]
      refine g_if_eq (pc := 15) 24 dX4_blackBits_15 (by decide) (fun zh15 => ?_) (fun zh15 => ?_)
      · skip
        refine g_iinc2 (pc := 24) (nI (i + 1)) dX4_blackBits_24 (nI_succ' i) (by decide) (by first | rfl | assumption) ?_
        refine g_goto (pc := 27) 4 dX4_blackBits_27 (by decide) ?_
        first | (rw [if_pos (decide_eq_true (b01_ne0.mp zh15))] at hn; exact hn) | (rw [if_neg (fun q => b01_eq0.mp zh15 (of_decide_eq_true q))] at hn; exact hn)
      · skip
        refine g_iload1 (pc := 18) dX4_blackBits_18 ?_
        refine g_iconst (pc := 19) (1) dX4_blackBits_19 (by decide) ?_
        refine g_iload2 (pc := 20) dX4_blackBits_20 ?_
        refine g_ishl (pc := 21) dX4_blackBits_21 ?_
        refine g_ior (pc := 22) dX4_blackBits_22 ?_
        refine g_istore1 (pc := 23) dX4_blackBits_23 (by decide) (by first | rfl | assumption) ?_
        refine g_iinc2 (pc := 24) (nI (i + 1)) dX4_blackBits_24 (nI_succ' i) (by decide) (by first | rfl | assumption) ?_
        refine g_goto (pc := 27) 4 dX4_blackBits_27 (by decide) ?_
        first | (rw [if_pos (decide_eq_true (b01_ne0.mp zh15))] at hn; exact hn) | (rw [if_neg (fun q => b01_eq0.mp zh15 (of_decide_eq_true q))] at hn; exact hn)
theorem c_X4_blackBits {S : Nat} {v : Mm} {L : Lm} (hS : Sh S) : Fn yX4_blackBits cX4_blackBits 3 (some .int) 3 [.ref S] v L (some (.int (bitsF (fun i => decide (3 ≤ v (S + 2) i)) 25))) v L := by
  have hk4 := sh_kd hS
  have hk1 := sh_k1 hS
  have hk2 := sh_k2 hS
  refine Fq.of (plainFor_of_name (by decide)) [some (.ref S), none, none] rfl (Nat.le_of_ble_eq_true rfl) ?_
  refine g_iconst (pc := 0) (0) dX4_blackBits_0 (by decide) ?_
  refine g_istore1 (pc := 1) dX4_blackBits_1 (by decide) (by first | rfl | assumption) ?_
  refine g_iconst (pc := 2) (0) dX4_blackBits_2 (by decide) ?_
  refine g_istore2 (pc := 3) dX4_blackBits_3 (by decide) (by first | rfl | assumption) ?_
  exact lp_X4_blackBits hS trivial
theorem lp_X4_downBits {S n : Nat} {v : Mm} {L : Lm} (hS : Sh S) (hn4 : n ≤ 4) (hn : v S 2 = nI n) (hI0 : (fun (_ : Nat) (_ : Int32) => True) 0 (0 : Int32)) : (fun (i : Nat) (w : Int32) =>  G RX4 cX4_downBits 3 (some .int) 0 (fun a b c => a = some (.int (bitsF (fun i => decide (¬ v (S + 3 + i) 6 = 0)) n)) ∧ b = v ∧ c = L) 4 [some (.ref S), some (.int w), some (.int (nI i))] [] v L) 0 (0 : Int32) := by
  refine g_for n (fun i s => if decide (¬ v (S + 3 + i) 6 = 0) = true then s ||| bit1 i else s) (fun (_ : Nat) (_ : Int32) => True) (fun (i : Nat) (w : Int32) =>  G RX4 cX4_downBits 3 (some .int) 0 (fun a b c => a = some (.int (bitsF (fun i => decide (¬ v (S + 3 + i) 6 = 0)) n)) ∧ b = v ∧ c = L) 4 [some (.ref S), some (.int w), some (.int (nI i))] [] v L) (0 : Int32) hI0 ?_ (fun hI => ?_) (fun i w hi hI hn' => ?_)
  · exact fun _ _ _ h => h
  · show G _ _ _ _ _ _ _ _ _ _ _
    try dsimp only at hI
    refine g_iload2 (pc := 4) dX4_downBits_4 ?_
    first | refine g_aload0 (pc := 5) dX4_downBits_5 ?_ | refine g_aloadN0 (pc := 5) dX4_downBits_5 ?_
    refine g_getI (pc := 6) (j := 2) cf4 dX4_downBits_6 fl_RX4_22 (by decide) (by decide) (sh_kd hS) ?_
    refine g_icmp_ge (pc := 9) 41 dX4_downBits_9 (by decide) (fun zh9 => ?_) (fun zh9 => ?_)
    · skip
      refine g_iload1 (pc := 41) dX4_downBits_41 ?_
      refine g_iret (pc := 42) dX4_downBits_42 rfl ?_
      exact ⟨rfl, rfl, rfl⟩
    · skip
      exact absurd (by rw [hn]; exact nI_le (Nat.le_refl _) (by omega)) zh9
  · show G _ _ _ _ _ _ _ _ _ _ _
    try dsimp only at hI
    try dsimp only at hn
    refine g_iload2 (pc := 4) dX4_downBits_4 ?_
    first | refine g_aload0 (pc := 5) dX4_downBits_5 ?_ | refine g_aloadN0 (pc := 5) dX4_downBits_5 ?_
    refine g_getI (pc := 6) (j := 2) cf4 dX4_downBits_6 fl_RX4_22 (by decide) (by decide) (sh_kd hS) ?_
    refine g_icmp_ge (pc := 9) 41 dX4_downBits_9 (by decide) (fun zh9 => ?_) (fun zh9 => ?_)
    · skip
      exact absurd zh9 (by rw [hn]; exact nI_ge hi (by omega))
    · skip
      refine g_iload2 (pc := 12) dX4_downBits_12 ?_
      refine g_iconst (pc := 13) (4) dX4_downBits_13 (by decide) ?_
      refine g_icmp_ge (pc := 14) 41 dX4_downBits_14 (by decide) (fun zh14 => ?_) (fun zh14 => ?_)
      · skip
        exact absurd zh14 (nI_ge (b := 4) (by omega) (by decide))
      · skip
        first | refine g_aload0 (pc := 17) dX4_downBits_17 ?_ | refine g_aloadN0 (pc := 17) dX4_downBits_17 ?_
        refine g_getR (pc := 18) (j := 0) cf4 dX4_downBits_18 fl_RX4_11 (by decide) (by decide) (sh_kd hS) (S + 1) (sh_t0 hS) ?_
        refine g_iload2 (pc := 21) dX4_downBits_21 ?_
        refine g_aald (pc := 22) (n := 14) dX4_downBits_22 (sh_k1 hS) (by decide) (by decide) (by rw [sh_l1 hS]; exact vp_in_nI (by omega) (by decide)) (S + 3 + i) (by rw [nI_clamp (by omega)]; exact sh_tp hS (by omega)) ?_
        refine g_getI (pc := 23) (j := 6) cf2 dX4_downBits_23 fl_RX4_93 (by decide) (by decide) (sh_kp hS (by omega)) ?_
        refine g_if_eq (pc := 26) 35 dX4_downBits_26 (by decide) (fun zh26 => ?_) (fun zh26 => ?_)
        · skip
          refine g_iinc2 (pc := 35) (nI (i + 1)) dX4_downBits_35 (nI_succ' i) (by decide) (by first | rfl | assumption) ?_
          refine g_goto (pc := 38) 4 dX4_downBits_38 (by decide) ?_
          first | (rw [if_pos (decide_eq_true (b01_ne0.mp zh26))] at hn'; exact hn') | (rw [if_neg (fun q => b01_eq0.mp zh26 (of_decide_eq_true q))] at hn'; exact hn') | (rw [if_neg (fun q => (of_decide_eq_true q) zh26)] at hn'; exact hn') | (rw [if_pos (decide_eq_true zh26)] at hn'; exact hn')
        · skip
          refine g_iload1 (pc := 29) dX4_downBits_29 ?_
          refine g_iconst (pc := 30) (1) dX4_downBits_30 (by decide) ?_
          refine g_iload2 (pc := 31) dX4_downBits_31 ?_
          refine g_ishl (pc := 32) dX4_downBits_32 ?_
          refine g_ior (pc := 33) dX4_downBits_33 ?_
          refine g_istore1 (pc := 34) dX4_downBits_34 (by decide) (by first | rfl | assumption) ?_
          refine g_iinc2 (pc := 35) (nI (i + 1)) dX4_downBits_35 (nI_succ' i) (by decide) (by first | rfl | assumption) ?_
          refine g_goto (pc := 38) 4 dX4_downBits_38 (by decide) ?_
          first | (rw [if_pos (decide_eq_true (b01_ne0.mp zh26))] at hn'; exact hn') | (rw [if_neg (fun q => b01_eq0.mp zh26 (of_decide_eq_true q))] at hn'; exact hn') | (rw [if_neg (fun q => (of_decide_eq_true q) zh26)] at hn'; exact hn') | (rw [if_pos (decide_eq_true zh26)] at hn'; exact hn')
theorem c_X4_downBits {S n : Nat} {v : Mm} {L : Lm} (hS : Sh S) (hn4 : n ≤ 4) (hn : v S 2 = nI n) : Fn yX4_downBits cX4_downBits 3 (some .int) 0 [.ref S] v L (some (.int (bitsF (fun i => decide (¬ v (S + 3 + i) 6 = 0)) n))) v L := by
  have hk4 := sh_kd hS
  have hk1 := sh_k1 hS
  have hk2 := sh_k2 hS
  refine Fq.of (plainFor_of_name (by decide)) [some (.ref S), none, none] rfl (Nat.le_of_ble_eq_true rfl) ?_
  refine g_iconst (pc := 0) (0) dX4_downBits_0 (by decide) ?_
  refine g_istore1 (pc := 1) dX4_downBits_1 (by decide) (by first | rfl | assumption) ?_
  refine g_iconst (pc := 2) (0) dX4_downBits_2 (by decide) ?_
  refine g_istore2 (pc := 3) dX4_downBits_3 (by decide) (by first | rfl | assumption) ?_
  exact lp_X4_downBits hS hn4 hn trivial
theorem lp_X4_fullBits {S n : Nat} {v : Mm} {L : Lm} (hS : Sh S) (hn4 : n ≤ 4) (hn : v S 2 = nI n) (hI0 : (fun (_ : Nat) (_ : Int32) => True) 0 (0 : Int32)) : (fun (i : Nat) (w : Int32) =>  G RX4 cX4_fullBits 3 (some .int) 1 (fun a b c => a = some (.int (bitsF (fun i => decide (v (S + 3 + i) 4 = v (S + 3 + i) 5)) n)) ∧ b = v ∧ c = L) 4 [some (.ref S), some (.int w), some (.int (nI i))] [] v L) 0 (0 : Int32) := by
  refine g_for n (fun i s => if decide (v (S + 3 + i) 4 = v (S + 3 + i) 5) = true then s ||| bit1 i else s) (fun (_ : Nat) (_ : Int32) => True) (fun (i : Nat) (w : Int32) =>  G RX4 cX4_fullBits 3 (some .int) 1 (fun a b c => a = some (.int (bitsF (fun i => decide (v (S + 3 + i) 4 = v (S + 3 + i) 5)) n)) ∧ b = v ∧ c = L) 4 [some (.ref S), some (.int w), some (.int (nI i))] [] v L) (0 : Int32) hI0 ?_ (fun hI => ?_) (fun i w hi hI hn' => ?_)
  · exact fun _ _ _ h => h
  · show G _ _ _ _ _ _ _ _ _ _ _
    try dsimp only at hI
    refine g_iload2 (pc := 4) dX4_fullBits_4 ?_
    first | refine g_aload0 (pc := 5) dX4_fullBits_5 ?_ | refine g_aloadN0 (pc := 5) dX4_fullBits_5 ?_
    refine g_getI (pc := 6) (j := 2) cf4 dX4_fullBits_6 fl_RX4_22 (by decide) (by decide) (sh_kd hS) ?_
    refine g_icmp_ge (pc := 9) 41 dX4_fullBits_9 (by decide) (fun zh9 => ?_) (fun zh9 => ?_)
    · skip
      refine g_iload1 (pc := 41) dX4_fullBits_41 ?_
      refine g_iret (pc := 42) dX4_fullBits_42 rfl ?_
      exact ⟨rfl, rfl, rfl⟩
    · skip
      exact absurd (by rw [hn]; exact nI_le (Nat.le_refl _) (by omega)) zh9
  · show G _ _ _ _ _ _ _ _ _ _ _
    try dsimp only at hI
    try dsimp only at hn
    refine g_iload2 (pc := 4) dX4_fullBits_4 ?_
    first | refine g_aload0 (pc := 5) dX4_fullBits_5 ?_ | refine g_aloadN0 (pc := 5) dX4_fullBits_5 ?_
    refine g_getI (pc := 6) (j := 2) cf4 dX4_fullBits_6 fl_RX4_22 (by decide) (by decide) (sh_kd hS) ?_
    refine g_icmp_ge (pc := 9) 41 dX4_fullBits_9 (by decide) (fun zh9 => ?_) (fun zh9 => ?_)
    · skip
      exact absurd zh9 (by rw [hn]; exact nI_ge hi (by omega))
    · skip
      refine g_iload2 (pc := 12) dX4_fullBits_12 ?_
      refine g_iconst (pc := 13) (4) dX4_fullBits_13 (by decide) ?_
      refine g_icmp_ge (pc := 14) 41 dX4_fullBits_14 (by decide) (fun zh14 => ?_) (fun zh14 => ?_)
      · skip
        exact absurd zh14 (nI_ge (b := 4) (by omega) (by decide))
      · skip
        first | refine g_aload0 (pc := 17) dX4_fullBits_17 ?_ | refine g_aloadN0 (pc := 17) dX4_fullBits_17 ?_
        refine g_getR (pc := 18) (j := 0) cf4 dX4_fullBits_18 fl_RX4_11 (by decide) (by decide) (sh_kd hS) (S + 1) (sh_t0 hS) ?_
        refine g_iload2 (pc := 21) dX4_fullBits_21 ?_
        refine g_aald (pc := 22) (n := 14) dX4_fullBits_22 (sh_k1 hS) (by decide) (by decide) (by rw [sh_l1 hS]; exact vp_in_nI (by omega) (by decide)) (S + 3 + i) (by rw [nI_clamp (by omega)]; exact sh_tp hS (by omega)) ?_
        refine g_fV0 (pc := 23) (c_X2_isFull (sh_kp hS (by omega))) cf2 (sh_kp hS (by omega)) dX4_fullBits_23 cw_RX4_97 (by decide) (Nat.le_of_ble_eq_true rfl) ?_
        refine g_if_eq (pc := 26) 35 dX4_fullBits_26 (by decide) (fun zh26 => ?_) (fun zh26 => ?_)
        · skip
          refine g_iinc2 (pc := 35) (nI (i + 1)) dX4_fullBits_35 (nI_succ' i) (by decide) (by first | rfl | assumption) ?_
          refine g_goto (pc := 38) 4 dX4_fullBits_38 (by decide) ?_
          first | (rw [if_pos (decide_eq_true (b01_ne0.mp zh26))] at hn'; exact hn') | (rw [if_neg (fun q => b01_eq0.mp zh26 (of_decide_eq_true q))] at hn'; exact hn') | (rw [if_neg (fun q => (of_decide_eq_true q) zh26)] at hn'; exact hn') | (rw [if_pos (decide_eq_true zh26)] at hn'; exact hn')
        · skip
          refine g_iload1 (pc := 29) dX4_fullBits_29 ?_
          refine g_iconst (pc := 30) (1) dX4_fullBits_30 (by decide) ?_
          refine g_iload2 (pc := 31) dX4_fullBits_31 ?_
          refine g_ishl (pc := 32) dX4_fullBits_32 ?_
          refine g_ior (pc := 33) dX4_fullBits_33 ?_
          refine g_istore1 (pc := 34) dX4_fullBits_34 (by decide) (by first | rfl | assumption) ?_
          refine g_iinc2 (pc := 35) (nI (i + 1)) dX4_fullBits_35 (nI_succ' i) (by decide) (by first | rfl | assumption) ?_
          refine g_goto (pc := 38) 4 dX4_fullBits_38 (by decide) ?_
          first | (rw [if_pos (decide_eq_true (b01_ne0.mp zh26))] at hn'; exact hn') | (rw [if_neg (fun q => b01_eq0.mp zh26 (of_decide_eq_true q))] at hn'; exact hn') | (rw [if_neg (fun q => (of_decide_eq_true q) zh26)] at hn'; exact hn') | (rw [if_pos (decide_eq_true zh26)] at hn'; exact hn')
theorem c_X4_fullBits {S n : Nat} {v : Mm} {L : Lm} (hS : Sh S) (hn4 : n ≤ 4) (hn : v S 2 = nI n) : Fn yX4_fullBits cX4_fullBits 3 (some .int) 1 [.ref S] v L (some (.int (bitsF (fun i => decide (v (S + 3 + i) 4 = v (S + 3 + i) 5)) n))) v L := by
  have hk4 := sh_kd hS
  have hk1 := sh_k1 hS
  have hk2 := sh_k2 hS
  refine Fq.of (plainFor_of_name (by decide)) [some (.ref S), none, none] rfl (Nat.le_of_ble_eq_true rfl) ?_
  refine g_iconst (pc := 0) (0) dX4_fullBits_0 (by decide) ?_
  refine g_istore1 (pc := 1) dX4_fullBits_1 (by decide) (by first | rfl | assumption) ?_
  refine g_iconst (pc := 2) (0) dX4_fullBits_2 (by decide) ?_
  refine g_istore2 (pc := 3) dX4_fullBits_3 (by decide) (by first | rfl | assumption) ?_
  exact lp_X4_fullBits hS hn4 hn trivial
theorem lp_X4_follow {S k t : Nat} {x3 : Int32} {L : Lm} (hS : Sh S) (hk : kd k = 2) (ht : t ≤ 8) : ∀ (m : Nat) (i : Nat) (v : Mm), i + m = t → PenOk v k → G RX4 cX4_follow 6 (some .int) 4 (fun a b c => a = some (.int (folF S k m i v).1) ∧ b = (folF S k m i v).2 ∧ c = L) 13 [some (.ref S), some (.ref k), some (.ref 3), some (.int x3), some (.int (nI t)), some (.int (nI i))] [] v L := by
  intro m
  induction m with
  | zero =>
    intro i v hi hp
    refine g_iload5 (pc := 13) dX4_follow_13 ?_
    refine g_iload4 (pc := 15) dX4_follow_15 ?_
    refine g_icmp_ge (pc := 17) 49 dX4_follow_17 (by decide) (fun zh17 => ?_) (fun zh17 => ?_)
    · skip
      refine g_iload4 (pc := 49) dX4_follow_49 ?_
      refine g_iret (pc := 51) dX4_follow_51 rfl ?_
      exact ⟨by rw [show t = i by omega]; rfl, rfl, rfl⟩
    · skip
      exact absurd (nI_le (by omega) (by omega)) zh17
  | succ m ih =>
    intro i v hi hp
    refine g_iload5 (pc := 13) dX4_follow_13 ?_
    refine g_iload4 (pc := 15) dX4_follow_15 ?_
    refine g_icmp_ge (pc := 17) 49 dX4_follow_17 (by decide) (fun zh17 => ?_) (fun zh17 => ?_)
    · skip
      exact absurd zh17 (nI_ge (by omega) (by omega))
    · skip
      first | refine g_aload1 (pc := 20) dX4_follow_20 ?_ | refine g_aloadN1 (pc := 20) dX4_follow_20 ?_
      refine g_ifnull (pc := 21) dX4_follow_21 ?_
      first | refine g_aload0 (pc := 24) dX4_follow_24 ?_ | refine g_aloadN0 (pc := 24) dX4_follow_24 ?_
      first | refine g_aload1 (pc := 25) dX4_follow_25 ?_ | refine g_aloadN1 (pc := 25) dX4_follow_25 ?_
      first | refine g_aload2 (pc := 26) dX4_follow_26 ?_ | refine g_aloadN2 (pc := 26) dX4_follow_26 ?_
      refine g_iload5 (pc := 27) dX4_follow_27 ?_
      refine g_fV1 (pc := 29) (c_X8_at) cf8 (rfl) dX4_follow_29 cw_RX4_83 (by decide) (Nat.le_of_ble_eq_true rfl) ?_
      by_cases hnb : nbF (v k 0) (v 4 i) = -9
      · skip
        have ew : wdF v (nI i) = v 4 i := by unfold wdF; rw [if_pos ⟨nI_pos' (by omega), nI_le (b := 7) (by omega) (by decide)⟩, nI_clamp (by omega)]
        rw [ew]
        refine g_fV2 (pc := 32) (c_X4_move_n hS hk hnb) cf4 (sh_kd hS) dX4_follow_32 cw_RX4_86 (by decide) (Nat.le_of_ble_eq_true rfl) ?_
        refine g_bipush (pc := 35) (-9) dX4_follow_35 (by decide) ?_
        refine g_icmp_ne (pc := 37) 43 dX4_follow_37 (by decide) (fun zh37 => ?_) (fun zh37 => ?_)
        · skip
          exact absurd rfl zh37
        · skip
          refine g_iload5 (pc := 40) dX4_follow_40 ?_
          refine g_iret (pc := 42) dX4_follow_42 rfl ?_
          have e : folF S k (m + 1) i v = (nI i, v) := if_pos hnb
          rw [e]; exact ⟨rfl, rfl, rfl⟩
      · skip
        have ew : wdF v (nI i) = v 4 i := by unfold wdF; rw [if_pos ⟨nI_pos' (by omega), nI_le (b := 7) (by omega) (by decide)⟩, nI_clamp (by omega)]
        rw [ew]
        refine g_fV2 (pc := 32) (c_X4_move_s hS hk hnb) cf4 (sh_kd hS) dX4_follow_32 cw_RX4_86 (by decide) (Nat.le_of_ble_eq_true rfl) ?_
        refine g_bipush (pc := 35) (-9) dX4_follow_35 (by decide) ?_
        refine g_icmp_ne (pc := 37) 43 dX4_follow_37 (by decide) (fun zh37 => ?_) (fun zh37 => ?_)
        · skip
          refine g_iinc5 (pc := 43) (nI (i + 1)) dX4_follow_43 (nI_succ' i) (by decide) (by first | rfl | assumption) ?_
          refine g_goto (pc := 46) 13 dX4_follow_46 (by decide) ?_
          have e : folF S k (m + 1) i v = folF S k m (i + 1) (mvV v S k (v 4 i)) := if_neg hnb
          rw [e]; exact ih (i + 1) _ (by omega) (hp.mv (fun q => by rw [q, sh_kd hS] at hk; cases hk) (fun q => by rw [q, sh_k2 hS] at hk; cases hk) hnb)
        · skip
          exact absurd zh37 (mvL_ne hp _)
theorem c_X4_follow {S k q w : Nat} {v : Mm} {L : Lm} (hS : Sh S) (hk : kd k = 2) (hq : q ≤ 8) (hw : v 3 1 = nI w) (hw8 : w ≤ 8) (hp : PenOk v k) : Fn yX4_follow cX4_follow 6 (some .int) 4 [.ref S, .ref k, .ref 3, .int (nI q)] v L (some (.int (folF S k (min q w) 0 v).1)) (folF S k (min q w) 0 v).2 L := by
  refine Fq.of (plainFor_of_name (by decide)) [some (.ref S), some (.ref k), some (.ref 3), some (.int (nI q)), none, none] rfl (Nat.le_of_ble_eq_true rfl) ?_
  refine g_iload3 (pc := 0) dX4_follow_0 ?_
  first | refine g_aload2 (pc := 1) dX4_follow_1 ?_ | refine g_aloadN2 (pc := 1) dX4_follow_1 ?_
  refine g_getI (pc := 2) (j := 1) cf8 dX4_follow_2 fl_RX4_78 (by decide) (by decide) (by first | rfl | assumption) ?_
  refine g_fS2 (pc := 5) (c_J9_min_7cf53) dX4_follow_5 cw_RX4_73 (by decide) (Nat.le_of_ble_eq_true rfl) ?_
  refine g_istore4 (pc := 8) dX4_follow_8 (by decide) (by first | rfl | assumption) ?_
  refine g_iconst (pc := 10) (0) dX4_follow_10 (by decide) ?_
  refine g_istore5 (pc := 11) dX4_follow_11 (by decide) (by first | rfl | assumption) ?_
  rw [hw, mnI_nI (by omega) (by omega)]
  exact lp_X4_follow hS hk (by omega) (min q w) 0 v (Nat.zero_add _) hp
