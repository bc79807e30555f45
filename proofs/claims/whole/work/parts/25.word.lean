theorem lp_X8_isOfDirections {n : Nat} {x : Int64} {v : Mm} {L : Lm} (hn : n ≤ 8) : ∀ (m : Nat) (i : Nat), i + m = n → G RX8 cX8_isOfDirections 4 (some .boolean) 3 (fun a b c => a = some (.int (odR x m i)) ∧ b = v ∧ c = L) 2 [some (.int (nI n)), some (.long x), none, some (.int (nI i))] [] v L := by
  intro m
  induction m with
  | zero =>
    intro i hi
    refine g_iload3 (pc := 2) dX8_isOfDirections_2 ?_
    refine g_iload0 (pc := 3) dX8_isOfDirections_3 ?_
    refine g_icmp_ge (pc := 4) 26 dX8_isOfDirections_4 (by decide) (fun zh4 => ?_) (fun zh4 => ?_)
    · skip
      refine g_iconst (pc := 26) (1) dX8_isOfDirections_26 (by decide) ?_
      refine g_zret (pc := 27) dX8_isOfDirections_27 rfl (by first | exact Or.inl rfl | exact Or.inr rfl | assumption) ?_
      exact ⟨rfl, rfl, rfl⟩
    · skip
      exact absurd (nI_le (by omega) (by omega)) zh4
  | succ m ih =>
    intro i hi
    refine g_iload3 (pc := 2) dX8_isOfDirections_2 ?_
    refine g_iload0 (pc := 3) dX8_isOfDirections_3 ?_
    refine g_icmp_ge (pc := 4) 26 dX8_isOfDirections_4 (by decide) (fun zh4 => ?_) (fun zh4 => ?_)
    · skip
      exact absurd zh4 (nI_ge (by omega) (by omega))
    · skip
      refine g_lload1 (pc := 7) dX8_isOfDirections_7 ?_
      refine g_iload3 (pc := 8) dX8_isOfDirections_8 ?_
      refine g_fN2 (pc := 9) (c_X9_figure) dX8_isOfDirections_9 cw_RX8_15 (by decide) (Nat.le_of_ble_eq_true rfl) ?_
      refine g_fN1 (pc := 12) (c_X9_isDirection) dX8_isOfDirections_12 cw_RX8_19 (by decide) (Nat.le_of_ble_eq_true rfl) ?_
      refine g_if_ne (pc := 15) 20 dX8_isOfDirections_15 (by decide) (fun zh15 => ?_) (fun zh15 => ?_)
      · skip
        refine g_iinc3 (pc := 20) (nI (i + 1)) dX8_isOfDirections_20 (nI_succ' i) (by decide) (by first | rfl | assumption) ?_
        refine g_goto (pc := 23) 2 dX8_isOfDirections_23 (by decide) ?_
        refine G.mono (ih (i + 1) (by omega)) (fun a b c h => ⟨h.1.trans ?_, h.2.1, h.2.2⟩)
        exact congrArg (fun t => some (Value.int t)) (if_pos (b01_ne0.mp zh15)).symm
      · skip
        refine g_iconst (pc := 18) (0) dX8_isOfDirections_18 (by decide) ?_
        refine g_zret (pc := 19) dX8_isOfDirections_19 rfl (by first | exact Or.inl rfl | exact Or.inr rfl | assumption) ?_
        exact ⟨congrArg (fun t => some (Value.int t)) (if_neg (b01_eq0.mp zh15)).symm, rfl, rfl⟩
theorem c_X8_isOfDirections {n : Nat} {x : Int64} {v : Mm} {L : Lm} (hn : n ≤ 8) : Fn yX8_isOfDirections cX8_isOfDirections 4 (some .boolean) 3 [.int (nI n), .long x] v L (some (.int (odR x n 0))) v L := by
  refine Fq.of (plainFor_of_name (by decide)) [some (.int (nI n)), some (.long x), none, none] rfl (Nat.le_of_ble_eq_true rfl) ?_
  refine g_iconst (pc := 0) (0) dX8_isOfDirections_0 (by decide) ?_
  refine g_istore3 (pc := 1) dX8_isOfDirections_1 (by decide) (by first | rfl | assumption) ?_
  exact lp_X8_isOfDirections hn n 0 (Nat.zero_add _)
theorem lp_X8_tell {n : Nat} {x : Int64} {x1 : Int32} {w0 : Mm} {L : Lm} {Q : Qt} (hn8 : n ≤ 8) (hI0 : (fun (_ : Nat) (w : Mm) => w 3 1 = nI n) 0 w0) (hq : Q none (itr (fun i w => upd2 w 4 i (figF x (nI (n - 1) - nI i))) n w0) L) : (fun (i : Nat) (w : Mm) =>  G RX8 cX8_tell 5 none 3 Q 13 [some (.ref 3), some (.int x1), some (.long x), none, some (.int (nI i))] [] w L) 0 w0 := by
  refine g_for n (fun i w => upd2 w 4 i (figF x (nI (n - 1) - nI i))) (fun (_ : Nat) (w : Mm) => w 3 1 = nI n) (fun (i : Nat) (w : Mm) =>  G RX8 cX8_tell 5 none 3 Q 13 [some (.ref 3), some (.int x1), some (.long x), none, some (.int (nI i))] [] w L) w0 hI0 ?_ (fun hI => ?_) (fun i w hi hI hn => ?_)
  · intro i w hi h
    show upd2 w 4 i _ 3 1 = nI n
    rw [u2_n (fun q => absurd q.1 (by decide))]; exact h
  · show G _ _ _ _ _ _ _ _ _ _ _
    try dsimp only at hI
    refine g_iload4 (pc := 13) dX8_tell_13 ?_
    first | refine g_aload0 (pc := 15) dX8_tell_15 ?_ | refine g_aloadN0 (pc := 15) dX8_tell_15 ?_
    refine g_getI (pc := 16) (j := 1) cf8 dX8_tell_16 fl_RX8_29 (by decide) (by decide) (by first | rfl | assumption) ?_
    refine g_icmp_ge (pc := 19) 48 dX8_tell_19 (by decide) (fun zh19 => ?_) (fun zh19 => ?_)
    · skip
      refine g_vret (pc := 48) dX8_tell_48 rfl ?_
      exact hq
    · skip
      exact absurd (by rw [hI]; exact nI_le (Nat.le_refl _) (by omega)) zh19
  · show G _ _ _ _ _ _ _ _ _ _ _
    try dsimp only at hI
    try dsimp only at hn
    refine g_iload4 (pc := 13) dX8_tell_13 ?_
    first | refine g_aload0 (pc := 15) dX8_tell_15 ?_ | refine g_aloadN0 (pc := 15) dX8_tell_15 ?_
    refine g_getI (pc := 16) (j := 1) cf8 dX8_tell_16 fl_RX8_29 (by decide) (by decide) (by first | rfl | assumption) ?_
    refine g_icmp_ge (pc := 19) 48 dX8_tell_19 (by decide) (fun zh19 => ?_) (fun zh19 => ?_)
    · skip
      exact absurd zh19 (by rw [hI]; exact nI_ge hi (by omega))
    · skip
      first | refine g_aload0 (pc := 22) dX8_tell_22 ?_ | refine g_aloadN0 (pc := 22) dX8_tell_22 ?_
      refine g_getR (pc := 23) (j := 0) cf8 dX8_tell_23 fl_RX8_9 (by decide) (by decide) (by first | rfl | assumption) (4) (rfl) ?_
      refine g_iload4 (pc := 26) dX8_tell_26 ?_
      refine g_lload2 (pc := 28) dX8_tell_28 ?_
      first | refine g_aload0 (pc := 29) dX8_tell_29 ?_ | refine g_aloadN0 (pc := 29) dX8_tell_29 ?_
      refine g_getI (pc := 30) (j := 1) cf8 dX8_tell_30 fl_RX8_29 (by decide) (by decide) (by first | rfl | assumption) ?_
      refine g_iconst (pc := 33) (1) dX8_tell_33 (by decide) ?_
      refine g_isub (pc := 34) dX8_tell_34 ?_
      refine g_iload4 (pc := 35) dX8_tell_35 ?_
      refine g_isub (pc := 37) dX8_tell_37 ?_
      rw [show w 3 1 - 1 = nI (n - 1) by rw [hI, show n = (n - 1) + 1 by omega]; exact nI_pred _]
      refine g_fN2 (pc := 38) (c_X9_figure) dX8_tell_38 cw_RX8_15 (by decide) (Nat.le_of_ble_eq_true rfl) ?_
      refine g_iast (pc := 41) dX8_tell_41 (by first | rfl | assumption) (vp_in_nI (n := i) (by show i < 8; omega) (by decide)) ?_
      refine g_iinc4 (pc := 42) (nI (i + 1)) dX8_tell_42 (nI_succ' i) (by decide) (by first | rfl | assumption) ?_
      refine g_goto (pc := 45) 13 dX8_tell_45 (by decide) ?_
      rw [nI_clamp (by omega)]
      exact hn
theorem c_X8_tell {n : Nat} {x : Int64} {v : Mm} {L : Lm} (hn8 : n ≤ 8) : Fn yX8_tell cX8_tell 5 none 3 [.ref 3, .int (nI n), .long x] v L none (tlM x n v) L := by
  refine Fq.of (plainFor_of_name (by decide)) [some (.ref 3), some (.int (nI n)), some (.long x), none, none] rfl (Nat.le_of_ble_eq_true rfl) ?_
  first | refine g_aload0 (pc := 0) dX8_tell_0 ?_ | refine g_aloadN0 (pc := 0) dX8_tell_0 ?_
  refine g_iload1 (pc := 1) dX8_tell_1 ?_
  refine g_bipush (pc := 2) (8) dX8_tell_2 (by decide) ?_
  refine g_fS2 (pc := 4) (c_J9_min_7cf53) dX8_tell_4 cw_RX8_23 (by decide) (Nat.le_of_ble_eq_true rfl) ?_
  rw [show (8 : Int32) = nI 8 from rfl, mnI_nI (by omega) (by decide), Nat.min_eq_left hn8]
  refine g_putI (pc := 7) (j := 1) cf8 dX8_tell_7 fl_RX8_29 (by decide) rfl rfl (by decide) (by first | rfl | assumption) ?_
  refine g_iconst (pc := 10) (0) dX8_tell_10 (by decide) ?_
  refine g_istore4 (pc := 11) dX8_tell_11 (by decide) (by first | rfl | assumption) ?_
  exact lp_X8_tell hn8 u2_s ⟨rfl, rfl, rfl⟩
