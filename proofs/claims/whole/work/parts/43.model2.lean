theorem lp_X10_ones {x : Int32} {v : Mm} {L : Lm}  (hI0 : (fun (_ : Nat) (_ : Int32) => True) 0 (0 : Int32)) : (fun (i : Nat) (w : Int32) =>  G RX10 cX10_ones 3 (some .int) 0 (fun a b c => a = some (.int (onF x)) ∧ b = v ∧ c = L) 4 [some (.int x), some (.int w), some (.int (nI i))] [] v L) 0 (0 : Int32) := by
  refine g_for 25 (fun i s => s + ((x >>> (nI i &&& 31)) &&& 1)) (fun (_ : Nat) (_ : Int32) => True) (fun (i : Nat) (w : Int32) =>  G RX10 cX10_ones 3 (some .int) 0 (fun a b c => a = some (.int (onF x)) ∧ b = v ∧ c = L) 4 [some (.int x), some (.int w), some (.int (nI i))] [] v L) (0 : Int32) hI0 ?_ (fun hI => ?_) (fun i w hi hI hn => ?_)
  · exact fun _ _ _ h => h
  · show G _ _ _ _ _ _ _ _ _ _ _
    try dsimp only at hI
    refine g_iload2 (pc := 4) dX10_ones_4 ?_
    refine g_bipush (pc := 5) (25) dX10_ones_5 (by decide) ?_
    refine g_icmp_ge (pc := 7) 24 dX10_ones_7 (by decide) (fun zh7 => ?_) (fun zh7 => ?_)
    · skip
      refine g_iload1 (pc := 24) dX10_ones_24 ?_
      refine g_iret (pc := 25) dX10_ones_25 rfl ?_
      exact ⟨rfl, rfl, rfl⟩
    · skip
      exact absurd (Int32.le_refl _) zh7
  · show G _ _ _ _ _ _ _ _ _ _ _
    try dsimp only at hI
    try dsimp only at hn
    refine g_iload2 (pc := 4) dX10_ones_4 ?_
    refine g_bipush (pc := 5) (25) dX10_ones_5 (by decide) ?_
    refine g_icmp_ge (pc := 7) 24 dX10_ones_7 (by decide) (fun zh7 => ?_) (fun zh7 => ?_)
    · skip
      exact absurd zh7 (nI_ge (b := 25) hi (by decide))
    · skip
      refine g_iload1 (pc := 10) dX10_ones_10 ?_
      refine g_iload0 (pc := 11) dX10_ones_11 ?_
      refine g_iload2 (pc := 12) dX10_ones_12 ?_
      refine g_ishr (pc := 13) dX10_ones_13 ?_
      refine g_iconst (pc := 14) (1) dX10_ones_14 (by decide) ?_
      refine g_iand (pc := 15) dX10_ones_15 ?_
      refine g_iadd (pc := 16) dX10_ones_16 ?_
      refine g_istore1 (pc := 17) dX10_ones_17 (by decide) (by first | rfl | assumption) ?_
      refine g_iinc2 (pc := 18) (nI (i + 1)) dX10_ones_18 (nI_succ' i) (by decide) (by first | rfl | assumption) ?_
      refine g_goto (pc := 21) 4 dX10_ones_21 (by decide) ?_
      exact hn
theorem c_X10_ones {x : Int32} {v : Mm} {L : Lm}  : Fn yX10_ones cX10_ones 3 (some .int) 0 [.int x] v L (some (.int (onF x))) v L := by
  refine Fq.of (plainFor_of_name (by decide)) [some (.int x), none, none] rfl (Nat.le_of_ble_eq_true rfl) ?_
  refine g_iconst (pc := 0) (0) dX10_ones_0 (by decide) ?_
  refine g_istore1 (pc := 1) dX10_ones_1 (by decide) (by first | rfl | assumption) ?_
  refine g_iconst (pc := 2) (0) dX10_ones_2 (by decide) ?_
  refine g_istore2 (pc := 3) dX10_ones_3 (by decide) (by first | rfl | assumption) ?_
  exact lp_X10_ones  trivial
theorem lp_X10_inkOn {l : Nat} {v : Mm} {L : Lm} (hl : l ≤ 1) (hI0 : (fun (_ : Nat) (_ : Int32) => True) 0 (0 : Int32)) : (fun (i : Nat) (w : Int32) =>  G RX10 cX10_inkOn 4 (some .int) 0 (fun a b c => a = some (.int (ikF v l)) ∧ b = v ∧ c = L) 4 [some (.ref 79), some (.int (nI l)), some (.int w), some (.int (nI i))] [] v L) 0 (0 : Int32) := by
  refine g_for 25 (fun i s => s + v 82 (43 * l + 18 + i)) (fun (_ : Nat) (_ : Int32) => True) (fun (i : Nat) (w : Int32) =>  G RX10 cX10_inkOn 4 (some .int) 0 (fun a b c => a = some (.int (ikF v l)) ∧ b = v ∧ c = L) 4 [some (.ref 79), some (.int (nI l)), some (.int w), some (.int (nI i))] [] v L) (0 : Int32) hI0 ?_ (fun hI => ?_) (fun i w hi hI hn => ?_)
  · exact fun _ _ _ h => h
  · show G _ _ _ _ _ _ _ _ _ _ _
    try dsimp only at hI
    refine g_iload3 (pc := 4) dX10_inkOn_4 ?_
    refine g_bipush (pc := 5) (25) dX10_inkOn_5 (by decide) ?_
    refine g_icmp_ge (pc := 7) 33 dX10_inkOn_7 (by decide) (fun zh7 => ?_) (fun zh7 => ?_)
    · skip
      refine g_iload2 (pc := 33) dX10_inkOn_33 ?_
      refine g_iret (pc := 34) dX10_inkOn_34 rfl ?_
      exact ⟨rfl, rfl, rfl⟩
    · skip
      exact absurd (Int32.le_refl _) zh7
  · show G _ _ _ _ _ _ _ _ _ _ _
    try dsimp only at hI
    try dsimp only at hn
    refine g_iload3 (pc := 4) dX10_inkOn_4 ?_
    refine g_bipush (pc := 5) (25) dX10_inkOn_5 (by decide) ?_
    refine g_icmp_ge (pc := 7) 33 dX10_inkOn_7 (by decide) (fun zh7 => ?_) (fun zh7 => ?_)
    · skip
      exact absurd zh7 (nI_ge (b := 25) hi (by decide))
    · skip
      refine g_iload2 (pc := 10) dX10_inkOn_10 ?_
      first | refine g_aload0 (pc := 11) dX10_inkOn_11 ?_ | refine g_aloadN0 (pc := 11) dX10_inkOn_11 ?_
      refine g_getR (pc := 12) (j := 3) cf10 dX10_inkOn_12 fl_RX10_16 (by decide) (by decide) (by first | rfl | assumption) (82) (rfl) ?_
      refine g_bipush (pc := 15) (43) dX10_inkOn_15 (by decide) ?_
      refine g_iload1 (pc := 17) dX10_inkOn_17 ?_
      refine g_imul (pc := 18) dX10_inkOn_18 ?_
      refine g_bipush (pc := 19) (18) dX10_inkOn_19 (by decide) ?_
      refine g_iadd (pc := 21) dX10_inkOn_21 ?_
      refine g_iload3 (pc := 22) dX10_inkOn_22 ?_
      refine g_iadd (pc := 23) dX10_inkOn_23 ?_
      refine g_ialdX (pc := 24) (43 * l + 18 + i) dX10_inkOn_24 (rfl) (ixA (a := 18)) (by have := ln_all; omega) (by decide) ?_
      refine g_iadd (pc := 25) dX10_inkOn_25 ?_
      refine g_istore2 (pc := 26) dX10_inkOn_26 (by decide) (by first | rfl | assumption) ?_
      refine g_iinc3 (pc := 27) (nI (i + 1)) dX10_inkOn_27 (nI_succ' i) (by decide) (by first | rfl | assumption) ?_
      refine g_goto (pc := 30) 4 dX10_inkOn_30 (by decide) ?_
      exact hn
theorem c_X10_inkOn {l : Nat} {v : Mm} {L : Lm} (hl : l ≤ 1) : Fn yX10_inkOn cX10_inkOn 4 (some .int) 0 [.ref 79, .int (nI l)] v L (some (.int (ikF v l))) v L := by
  refine Fq.of (plainFor_of_name (by decide)) [some (.ref 79), some (.int (nI l)), none, none] rfl (Nat.le_of_ble_eq_true rfl) ?_
  refine g_iconst (pc := 0) (0) dX10_inkOn_0 (by decide) ?_
  refine g_istore2 (pc := 1) dX10_inkOn_1 (by decide) (by first | rfl | assumption) ?_
  refine g_iconst (pc := 2) (0) dX10_inkOn_2 (by decide) ?_
  refine g_istore3 (pc := 3) dX10_inkOn_3 (by decide) (by first | rfl | assumption) ?_
  exact lp_X10_inkOn hl trivial
theorem lp_X10_blackOn {l : Nat} {v : Mm} {L : Lm} (hl : l ≤ 1) (hI0 : (fun (_ : Nat) (_ : Int32) => True) 0 (0 : Int32)) : (fun (i : Nat) (w : Int32) =>  G RX10 cX10_blackOn 4 (some .int) 0 (fun a b c => a = some (.int (bkF v l)) ∧ b = v ∧ c = L) 4 [some (.ref 79), some (.int (nI l)), some (.int w), some (.int (nI i))] [] v L) 0 (0 : Int32) := by
  refine g_for 25 (fun i s => s ||| (if v 82 (43 * l + 18 + i) ≤ 2 then 0 else bit1 i)) (fun (_ : Nat) (_ : Int32) => True) (fun (i : Nat) (w : Int32) =>  G RX10 cX10_blackOn 4 (some .int) 0 (fun a b c => a = some (.int (bkF v l)) ∧ b = v ∧ c = L) 4 [some (.ref 79), some (.int (nI l)), some (.int w), some (.int (nI i))] [] v L) (0 : Int32) hI0 ?_ (fun hI => ?_) (fun i w hi hI hn => ?_)
  · exact fun _ _ _ h => h
  · show G _ _ _ _ _ _ _ _ _ _ _
    try dsimp only at hI
    refine g_iload3 (pc := 4) dX10_blackOn_4 ?_
    refine g_bipush (pc := 5) (25) dX10_blackOn_5 (by decide) ?_
    refine g_icmp_ge (pc := 7) 44 dX10_blackOn_7 (by decide) (fun zh7 => ?_) (fun zh7 => ?_)
    · skip
      refine g_iload2 (pc := 44) dX10_blackOn_44 ?_
      refine g_iret (pc := 45) dX10_blackOn_45 rfl ?_
      exact ⟨rfl, rfl, rfl⟩
    · skip
      exact absurd (Int32.le_refl _) zh7
  · show G _ _ _ _ _ _ _ _ _ _ _
    try dsimp only at hI
    try dsimp only at hn
    refine g_iload3 (pc := 4) dX10_blackOn_4 ?_
    refine g_bipush (pc := 5) (25) dX10_blackOn_5 (by decide) ?_
    refine g_icmp_ge (pc := 7) 44 dX10_blackOn_7 (by decide) (fun zh7 => ?_) (fun zh7 => ?_)
    · skip
      exact absurd zh7 (nI_ge (b := 25) hi (by decide))
    · skip
      refine g_iload2 (pc := 10) dX10_blackOn_10 ?_
      first | refine g_aload0 (pc := 11) dX10_blackOn_11 ?_ | refine g_aloadN0 (pc := 11) dX10_blackOn_11 ?_
      refine g_getR (pc := 12) (j := 3) cf10 dX10_blackOn_12 fl_RX10_16 (by decide) (by decide) (by first | rfl | assumption) (82) (rfl) ?_
      refine g_bipush (pc := 15) (43) dX10_blackOn_15 (by decide) ?_
      refine g_iload1 (pc := 17) dX10_blackOn_17 ?_
      refine g_imul (pc := 18) dX10_blackOn_18 ?_
      refine g_bipush (pc := 19) (18) dX10_blackOn_19 (by decide) ?_
      refine g_iadd (pc := 21) dX10_blackOn_21 ?_
      refine g_iload3 (pc := 22) dX10_blackOn_22 ?_
      refine g_iadd (pc := 23) dX10_blackOn_23 ?_
      refine g_ialdX (pc := 24) (43 * l + 18 + i) dX10_blackOn_24 (rfl) (ixA (a := 18)) (by have := ln_all; omega) (by decide) ?_
      refine g_iconst (pc := 25) (2) dX10_blackOn_25 (by decide) ?_
      refine g_icmp_le (pc := 26) 35 dX10_blackOn_26 (by decide) (fun zh26 => ?_) (fun zh26 => ?_)
      · skip
        refine g_iconst (pc := 35) (0) dX10_blackOn_35 (by decide) ?_
        refine g_ior (pc := 36) dX10_blackOn_36 ?_
        refine g_istore2 (pc := 37) dX10_blackOn_37 (by decide) (by first | rfl | assumption) ?_
        refine g_iinc3 (pc := 38) (nI (i + 1)) dX10_blackOn_38 (nI_succ' i) (by decide) (by first | rfl | assumption) ?_
        refine g_goto (pc := 41) 4 dX10_blackOn_41 (by decide) ?_
        first | (rw [if_pos zh26] at hn; exact hn) | (rw [if_neg zh26] at hn; exact hn)
      · skip
        refine g_iconst (pc := 29) (1) dX10_blackOn_29 (by decide) ?_
        refine g_iload3 (pc := 30) dX10_blackOn_30 ?_
        refine g_ishl (pc := 31) dX10_blackOn_31 ?_
        refine g_goto (pc := 32) 36 dX10_blackOn_32 (by decide) ?_
        refine g_ior (pc := 36) dX10_blackOn_36 ?_
        refine g_istore2 (pc := 37) dX10_blackOn_37 (by decide) (by first | rfl | assumption) ?_
        refine g_iinc3 (pc := 38) (nI (i + 1)) dX10_blackOn_38 (nI_succ' i) (by decide) (by first | rfl | assumption) ?_
        refine g_goto (pc := 41) 4 dX10_blackOn_41 (by decide) ?_
        first | (rw [if_pos zh26] at hn; exact hn) | (rw [if_neg zh26] at hn; exact hn)
theorem c_X10_blackOn {l : Nat} {v : Mm} {L : Lm} (hl : l ≤ 1) : Fn yX10_blackOn cX10_blackOn 4 (some .int) 0 [.ref 79, .int (nI l)] v L (some (.int (bkF v l))) v L := by
  refine Fq.of (plainFor_of_name (by decide)) [some (.ref 79), some (.int (nI l)), none, none] rfl (Nat.le_of_ble_eq_true rfl) ?_
  refine g_iconst (pc := 0) (0) dX10_blackOn_0 (by decide) ?_
  refine g_istore2 (pc := 1) dX10_blackOn_1 (by decide) (by first | rfl | assumption) ?_
  refine g_iconst (pc := 2) (0) dX10_blackOn_2 (by decide) ?_
  refine g_istore3 (pc := 3) dX10_blackOn_3 (by decide) (by first | rfl | assumption) ?_
  exact lp_X10_blackOn hl trivial
theorem lp_X10_fullPens {n : Nat} {v : Mm} {L : Lm} (hn0 : v 79 0 = nI n) (hn4 : n ≤ 4) (hI0 : (fun (_ : Nat) (_ : Int32) => True) 0 (0 : Int32)) : (fun (i : Nat) (w : Int32) =>  G RX10 cX10_fullPens 3 (some .int) 0 (fun a b c => a = some (.int (fuF v n)) ∧ b = v ∧ c = L) 4 [some (.ref 79), some (.int w), some (.int (nI i))] [] v L) 0 (0 : Int32) := by
  refine g_for n (fun i s => s ||| (if v 82 (12 + i) = v 81 i then bit1 i else 0)) (fun (_ : Nat) (_ : Int32) => True) (fun (i : Nat) (w : Int32) =>  G RX10 cX10_fullPens 3 (some .int) 0 (fun a b c => a = some (.int (fuF v n)) ∧ b = v ∧ c = L) 4 [some (.ref 79), some (.int w), some (.int (nI i))] [] v L) (0 : Int32) hI0 ?_ (fun hI => ?_) (fun i w hi hI hn => ?_)
  · exact fun _ _ _ h => h
  · show G _ _ _ _ _ _ _ _ _ _ _
    try dsimp only at hI
    refine g_iload2 (pc := 4) dX10_fullPens_4 ?_
    first | refine g_aload0 (pc := 5) dX10_fullPens_5 ?_ | refine g_aloadN0 (pc := 5) dX10_fullPens_5 ?_
    refine g_getI (pc := 6) (j := 0) cf10 dX10_fullPens_6 fl_RX10_84 (by decide) (by decide) (by first | rfl | assumption) ?_
    refine g_icmp_ge (pc := 9) 46 dX10_fullPens_9 (by decide) (fun zh9 => ?_) (fun zh9 => ?_)
    · skip
      refine g_iload1 (pc := 46) dX10_fullPens_46 ?_
      refine g_iret (pc := 47) dX10_fullPens_47 rfl ?_
      exact ⟨rfl, rfl, rfl⟩
    · skip
      exact absurd (by rw [hn0]; exact Int32.le_refl _) zh9
  · show G _ _ _ _ _ _ _ _ _ _ _
    try dsimp only at hI
    try dsimp only at hn
    refine g_iload2 (pc := 4) dX10_fullPens_4 ?_
    first | refine g_aload0 (pc := 5) dX10_fullPens_5 ?_ | refine g_aloadN0 (pc := 5) dX10_fullPens_5 ?_
    refine g_getI (pc := 6) (j := 0) cf10 dX10_fullPens_6 fl_RX10_84 (by decide) (by decide) (by first | rfl | assumption) ?_
    refine g_icmp_ge (pc := 9) 46 dX10_fullPens_9 (by decide) (fun zh9 => ?_) (fun zh9 => ?_)
    · skip
      exact absurd zh9 (by rw [hn0]; exact nI_ge hi (by omega))
    · skip
      refine g_iload1 (pc := 12) dX10_fullPens_12 ?_
      first | refine g_aload0 (pc := 13) dX10_fullPens_13 ?_ | refine g_aloadN0 (pc := 13) dX10_fullPens_13 ?_
      refine g_getR (pc := 14) (j := 3) cf10 dX10_fullPens_14 fl_RX10_16 (by decide) (by decide) (by first | rfl | assumption) (82) (rfl) ?_
      refine g_bipush (pc := 17) (12) dX10_fullPens_17 (by decide) ?_
      refine g_iload2 (pc := 19) dX10_fullPens_19 ?_
      refine g_iadd (pc := 20) dX10_fullPens_20 ?_
      refine g_ialdX (pc := 21) (12 + i) dX10_fullPens_21 (rfl) (nI_add 12 i) (by have := ln_all; omega) (by decide) ?_
      first | refine g_aload0 (pc := 22) dX10_fullPens_22 ?_ | refine g_aloadN0 (pc := 22) dX10_fullPens_22 ?_
      refine g_getR (pc := 23) (j := 2) cf10 dX10_fullPens_23 fl_RX10_13 (by decide) (by decide) (by first | rfl | assumption) (81) (rfl) ?_
      refine g_iload2 (pc := 26) dX10_fullPens_26 ?_
      refine g_ialdX (pc := 27) (i) dX10_fullPens_27 (rfl) (rfl) (by have := ln_all; omega) (by decide) ?_
      refine g_icmp_ne (pc := 28) 37 dX10_fullPens_28 (by decide) (fun zh28 => ?_) (fun zh28 => ?_)
      · skip
        refine g_iconst (pc := 37) (0) dX10_fullPens_37 (by decide) ?_
        refine g_ior (pc := 38) dX10_fullPens_38 ?_
        refine g_istore1 (pc := 39) dX10_fullPens_39 (by decide) (by first | rfl | assumption) ?_
        refine g_iinc2 (pc := 40) (nI (i + 1)) dX10_fullPens_40 (nI_succ' i) (by decide) (by first | rfl | assumption) ?_
        refine g_goto (pc := 43) 4 dX10_fullPens_43 (by decide) ?_
        first | (rw [if_pos zh28] at hn; exact hn) | (rw [if_neg zh28] at hn; exact hn)
      · skip
        refine g_iconst (pc := 31) (1) dX10_fullPens_31 (by decide) ?_
        refine g_iload2 (pc := 32) dX10_fullPens_32 ?_
        refine g_ishl (pc := 33) dX10_fullPens_33 ?_
        refine g_goto (pc := 34) 38 dX10_fullPens_34 (by decide) ?_
        refine g_ior (pc := 38) dX10_fullPens_38 ?_
        refine g_istore1 (pc := 39) dX10_fullPens_39 (by decide) (by first | rfl | assumption) ?_
        refine g_iinc2 (pc := 40) (nI (i + 1)) dX10_fullPens_40 (nI_succ' i) (by decide) (by first | rfl | assumption) ?_
        refine g_goto (pc := 43) 4 dX10_fullPens_43 (by decide) ?_
        first | (rw [if_pos zh28] at hn; exact hn) | (rw [if_neg zh28] at hn; exact hn)
theorem c_X10_fullPens {n : Nat} {v : Mm} {L : Lm} (hn0 : v 79 0 = nI n) (hn4 : n ≤ 4) : Fn yX10_fullPens cX10_fullPens 3 (some .int) 0 [.ref 79] v L (some (.int (fuF v n))) v L := by
  refine Fq.of (plainFor_of_name (by decide)) [some (.ref 79), none, none] rfl (Nat.le_of_ble_eq_true rfl) ?_
  refine g_iconst (pc := 0) (0) dX10_fullPens_0 (by decide) ?_
  refine g_istore1 (pc := 1) dX10_fullPens_1 (by decide) (by first | rfl | assumption) ?_
  refine g_iconst (pc := 2) (0) dX10_fullPens_2 (by decide) ?_
  refine g_istore2 (pc := 3) dX10_fullPens_3 (by decide) (by first | rfl | assumption) ?_
  exact lp_X10_fullPens hn0 hn4 trivial
theorem lp_X10_tenTo {n : Nat} {v : Mm} {L : Lm} (hn20 : n ≤ 20) (hI0 : (fun (_ : Nat) (_ : Int64) => True) 0 (1 : Int64)) : (fun (i : Nat) (w : Int64) =>  G RX10 cX10_tenTo 4 (some .long) 0 (fun a b c => a = some (.long (t10 n)) ∧ b = v ∧ c = L) 4 [some (.int (nI n)), some (.long w), none, some (.int (nI i))] [] v L) 0 (1 : Int64) := by
  refine g_for n (fun _ s => s * 10) (fun (_ : Nat) (_ : Int64) => True) (fun (i : Nat) (w : Int64) =>  G RX10 cX10_tenTo 4 (some .long) 0 (fun a b c => a = some (.long (t10 n)) ∧ b = v ∧ c = L) 4 [some (.int (nI n)), some (.long w), none, some (.int (nI i))] [] v L) (1 : Int64) hI0 ?_ (fun hI => ?_) (fun i w hi hI hn => ?_)
  · exact fun _ _ _ h => h
  · show G _ _ _ _ _ _ _ _ _ _ _
    try dsimp only at hI
    refine g_iload3 (pc := 4) dX10_tenTo_4 ?_
    refine g_iload0 (pc := 5) dX10_tenTo_5 ?_
    refine g_icmp_ge (pc := 6) 21 dX10_tenTo_6 (by decide) (fun zh6 => ?_) (fun zh6 => ?_)
    · skip
      refine g_lload1 (pc := 21) dX10_tenTo_21 ?_
      refine g_lret (pc := 22) dX10_tenTo_22 rfl ?_
      exact ⟨rfl, rfl, rfl⟩
    · skip
      exact absurd (Int32.le_refl _) zh6
  · show G _ _ _ _ _ _ _ _ _ _ _
    try dsimp only at hI
    try dsimp only at hn
    refine g_iload3 (pc := 4) dX10_tenTo_4 ?_
    refine g_iload0 (pc := 5) dX10_tenTo_5 ?_
    refine g_icmp_ge (pc := 6) 21 dX10_tenTo_6 (by decide) (fun zh6 => ?_) (fun zh6 => ?_)
    · skip
      exact absurd zh6 (nI_ge hi (by omega))
    · skip
      refine g_lload1 (pc := 9) dX10_tenTo_9 ?_
      refine g_ldc2 (pc := 10) _ dX10_tenTo_10 kc_RX10_90 ?_
      refine g_lmul (pc := 13) dX10_tenTo_13 ?_
      refine g_lstore1 (pc := 14) dX10_tenTo_14 (by decide) (by first | rfl | assumption) ?_
      refine g_iinc3 (pc := 15) (nI (i + 1)) dX10_tenTo_15 (nI_succ' i) (by decide) (by first | rfl | assumption) ?_
      refine g_goto (pc := 18) 4 dX10_tenTo_18 (by decide) ?_
      exact hn
theorem c_X10_tenTo {n : Nat} {v : Mm} {L : Lm} (hn20 : n ≤ 20) : Fn yX10_tenTo cX10_tenTo 4 (some .long) 0 [.int (nI n)] v L (some (.long (t10 n))) v L := by
  refine Fq.of (plainFor_of_name (by decide)) [some (.int (nI n)), none, none, none] rfl (Nat.le_of_ble_eq_true rfl) ?_
  refine g_lconst (pc := 0) (1) dX10_tenTo_0 (by decide) ?_
  refine g_lstore1 (pc := 1) dX10_tenTo_1 (by decide) (by first | rfl | assumption) ?_
  refine g_iconst (pc := 2) (0) dX10_tenTo_2 (by decide) ?_
  refine g_istore3 (pc := 3) dX10_tenTo_3 (by decide) (by first | rfl | assumption) ?_
  exact lp_X10_tenTo hn20 trivial
theorem c_X10_thousandTo {n : Nat} {v : Mm} {L : Lm} (hn6 : n ≤ 6) : Fn yX10_thousandTo cX10_thousandTo 1 (some .long) 1 [.int (nI n)] v L (some (.long (t10 (3 * n)))) v L := by
  refine Fq.of (plainFor_of_name (by decide)) [some (.int (nI n))] rfl (Nat.le_of_ble_eq_true rfl) ?_
  refine g_iconst (pc := 0) (3) dX10_thousandTo_0 (by decide) ?_
  refine g_iload0 (pc := 1) dX10_thousandTo_1 ?_
  refine g_imul (pc := 2) dX10_thousandTo_2 ?_
  rw [show (3 : Int32) * nI n = nI (3 * n) from by rw [show (3 : Int32) = nI 3 from rfl, pk_mul]]
  refine g_fS1 (pc := 3) (c_X10_tenTo (by omega)) dX10_thousandTo_3 cw_RX10_94 (by decide) (Nat.le_of_ble_eq_true rfl) ?_
  refine g_lret (pc := 6) dX10_thousandTo_6 rfl ?_
  exact ⟨rfl, rfl, rfl⟩
theorem lp_X10_layTrial  {w0 : Mm} {L : Lm} {Q : Qt}  (hI0 : (fun (_ : Nat) (_ : Mm) => True) 0 w0) (hk : G RX10 cX10_layTrial 2 none 0 Q 29 [some (.ref 79), some (.int (nI 43))] [] (itr (fun k w => upd2 w 82 (43 + k) (w 82 k)) 43 w0) L) : (fun (i : Nat) (w : Mm) =>  G RX10 cX10_layTrial 2 none 0 Q 2 [some (.ref 79), some (.int (nI i))] [] w L) 0 w0 := by
  refine g_for 43 (fun k w => upd2 w 82 (43 + k) (w 82 k)) (fun (_ : Nat) (_ : Mm) => True) (fun (i : Nat) (w : Mm) =>  G RX10 cX10_layTrial 2 none 0 Q 2 [some (.ref 79), some (.int (nI i))] [] w L) w0 hI0 ?_ (fun hI => ?_) (fun i w hi hI hn => ?_)
  · exact fun _ _ _ h => h
  · show G _ _ _ _ _ _ _ _ _ _ _
    try dsimp only at hI
    refine g_iload1 (pc := 2) dX10_layTrial_2 ?_
    refine g_bipush (pc := 3) (43) dX10_layTrial_3 (by decide) ?_
    refine g_icmp_ge (pc := 5) 29 dX10_layTrial_5 (by decide) (fun zh5 => ?_) (fun zh5 => ?_)
    · skip
      exact hk
    · skip
      exact absurd (Int32.le_refl _) zh5
  · show G _ _ _ _ _ _ _ _ _ _ _
    try dsimp only at hI
    try dsimp only at hn
    refine g_iload1 (pc := 2) dX10_layTrial_2 ?_
    refine g_bipush (pc := 3) (43) dX10_layTrial_3 (by decide) ?_
    refine g_icmp_ge (pc := 5) 29 dX10_layTrial_5 (by decide) (fun zh5 => ?_) (fun zh5 => ?_)
    · skip
      exact absurd zh5 (nI_ge (b := 43) hi (by decide))
    · skip
      first | refine g_aload0 (pc := 8) dX10_layTrial_8 ?_ | refine g_aloadN0 (pc := 8) dX10_layTrial_8 ?_
      refine g_getR (pc := 9) (j := 3) cf10 dX10_layTrial_9 fl_RX10_16 (by decide) (by decide) (by first | rfl | assumption) (82) (rfl) ?_
      refine g_bipush (pc := 12) (43) dX10_layTrial_12 (by decide) ?_
      refine g_iload1 (pc := 14) dX10_layTrial_14 ?_
      refine g_iadd (pc := 15) dX10_layTrial_15 ?_
      first | refine g_aload0 (pc := 16) dX10_layTrial_16 ?_ | refine g_aloadN0 (pc := 16) dX10_layTrial_16 ?_
      refine g_getR (pc := 17) (j := 3) cf10 dX10_layTrial_17 fl_RX10_16 (by decide) (by decide) (by first | rfl | assumption) (82) (rfl) ?_
      refine g_iload1 (pc := 20) dX10_layTrial_20 ?_
      refine g_ialdX (pc := 21) (i) dX10_layTrial_21 (rfl) (rfl) (by have := ln_all; omega) (by decide) ?_
      refine g_iastX (pc := 22) (43 + i) dX10_layTrial_22 (rfl) (nI_add 43 i) (by have := ln_all; omega) (by decide) ?_
      refine g_iinc1 (pc := 23) (nI (i + 1)) dX10_layTrial_23 (nI_succ' i) (by decide) (by first | rfl | assumption) ?_
      refine g_goto (pc := 26) 2 dX10_layTrial_26 (by decide) ?_
      exact hn
theorem c_X10_layTrial  {v : Mm} {L : Lm}  : Fn yX10_layTrial cX10_layTrial 2 none 0 [.ref 79] v L none (ltV v) L := by
  refine Fq.of (plainFor_of_name (by decide)) [some (.ref 79), none] rfl (Nat.le_of_ble_eq_true rfl) ?_
  refine g_iconst (pc := 0) (0) dX10_layTrial_0 (by decide) ?_
  refine g_istore1 (pc := 1) dX10_layTrial_1 (by decide) (by first | rfl | assumption) ?_
  refine lp_X10_layTrial trivial ?_
  exact g_vret (pc := 29) dX10_layTrial_29 rfl ⟨rfl, rfl, rfl⟩
theorem lp_X10_keepAct {x : Nat} {w0 : Mm} {L : Lm} {Q : Qt} (hx : x < 14) (hI0 : (fun (_ : Nat) (zw : Mm) => zw 79 16 = nI x) 0 w0) (hk : G RX10 cX10_keepAct 2 none 0 Q 34 [some (.ref 79), some (.int (nI 43))] [] (itr (fun k w => upd2 w 87 (43 * x + k) (w 82 k)) 43 w0) L) : (fun (i : Nat) (w : Mm) =>  G RX10 cX10_keepAct 2 none 0 Q 2 [some (.ref 79), some (.int (nI i))] [] w L) 0 w0 := by
  refine g_for 43 (fun k w => upd2 w 87 (43 * x + k) (w 82 k)) (fun (_ : Nat) (zw : Mm) => zw 79 16 = nI x) (fun (i : Nat) (w : Mm) =>  G RX10 cX10_keepAct 2 none 0 Q 2 [some (.ref 79), some (.int (nI i))] [] w L) w0 hI0 ?_ (fun hI => ?_) (fun i w hi hI hn => ?_)
  · intro zi zw zl zh
    show upd2 zw 87 _ _ 79 16 = nI x
    rw [u2_n (fun zq => absurd zq.1 (by decide))]; exact zh
  · show G _ _ _ _ _ _ _ _ _ _ _
    try dsimp only at hI
    refine g_iload1 (pc := 2) dX10_keepAct_2 ?_
    refine g_bipush (pc := 3) (43) dX10_keepAct_3 (by decide) ?_
    refine g_icmp_ge (pc := 5) 34 dX10_keepAct_5 (by decide) (fun zh5 => ?_) (fun zh5 => ?_)
    · skip
      exact hk
    · skip
      exact absurd (Int32.le_refl _) zh5
  · show G _ _ _ _ _ _ _ _ _ _ _
    try dsimp only at hI
    try dsimp only at hn
    refine g_iload1 (pc := 2) dX10_keepAct_2 ?_
    refine g_bipush (pc := 3) (43) dX10_keepAct_3 (by decide) ?_
    refine g_icmp_ge (pc := 5) 34 dX10_keepAct_5 (by decide) (fun zh5 => ?_) (fun zh5 => ?_)
    · skip
      exact absurd zh5 (nI_ge (b := 43) hi (by decide))
    · skip
      first | refine g_aload0 (pc := 8) dX10_keepAct_8 ?_ | refine g_aloadN0 (pc := 8) dX10_keepAct_8 ?_
      refine g_getR (pc := 9) (j := 17) cf10 dX10_keepAct_9 fl_RX10_31 (by decide) (by decide) (by first | rfl | assumption) (87) (rfl) ?_
      refine g_bipush (pc := 12) (43) dX10_keepAct_12 (by decide) ?_
      first | refine g_aload0 (pc := 14) dX10_keepAct_14 ?_ | refine g_aloadN0 (pc := 14) dX10_keepAct_14 ?_
      refine g_getI (pc := 15) (j := 16) cf10 dX10_keepAct_15 fl_RX10_155 (by decide) (by decide) (by first | rfl | assumption) ?_
      refine g_imul (pc := 18) dX10_keepAct_18 ?_
      refine g_iload1 (pc := 19) dX10_keepAct_19 ?_
      refine g_iadd (pc := 20) dX10_keepAct_20 ?_
      first | refine g_aload0 (pc := 21) dX10_keepAct_21 ?_ | refine g_aloadN0 (pc := 21) dX10_keepAct_21 ?_
      refine g_getR (pc := 22) (j := 3) cf10 dX10_keepAct_22 fl_RX10_16 (by decide) (by decide) (by first | rfl | assumption) (82) (rfl) ?_
      refine g_iload1 (pc := 25) dX10_keepAct_25 ?_
      refine g_ialdX (pc := 26) (i) dX10_keepAct_26 (rfl) (rfl) (by have := ln_all; omega) (by decide) ?_
      refine g_iastX (pc := 27) (43 * x + i) dX10_keepAct_27 (rfl) (by rw [hI]; exact ixK) (by have := ln_all; omega) (by decide) ?_
      refine g_iinc1 (pc := 28) (nI (i + 1)) dX10_keepAct_28 (nI_succ' i) (by decide) (by first | rfl | assumption) ?_
      refine g_goto (pc := 31) 2 dX10_keepAct_31 (by decide) ?_
      exact hn
theorem c_X10_keepAct {x c : Nat} {v : Mm} {L : Lm} (hx : x < 14) (hx0 : v 79 16 = nI x) (hc : v 79 15 = nI c) (hc14 : c ≤ 14) : Fn yX10_keepAct cX10_keepAct 2 none 0 [.ref 79] v L none (kaV v x c) L := by
  refine Fq.of (plainFor_of_name (by decide)) [some (.ref 79), none] rfl (Nat.le_of_ble_eq_true rfl) ?_
  refine g_iconst (pc := 0) (0) dX10_keepAct_0 (by decide) ?_
  refine g_istore1 (pc := 1) dX10_keepAct_1 (by decide) (by first | rfl | assumption) ?_
  have za : ∀ j, kaR v x 79 j = v 79 j := fun j => itr_inv (f := fun k w => upd2 w 87 (43 * x + k) (w 82 k)) (fun zw => zw 79 j = v 79 j) (fun zi zw zh => by show upd2 zw 87 _ _ 79 j = v 79 j; rw [u2_n (fun zq => absurd zq.1 (by decide))]; exact zh) 43 v rfl
  have zr : nI x + 1 - (nI x + 1) / 14 * 14 = nI ((x + 1) % 14) := by rw [nI_1]; exact pk_rem (d := 14) (by omega) (by decide) (by decide)
  refine lp_X10_keepAct hx hx0 ?_
  show G RX10 cX10_keepAct 2 none 0 _ 34 _ _ (kaR v x) L
  first | refine g_aload0 (pc := 34) dX10_keepAct_34 ?_ | refine g_aloadN0 (pc := 34) dX10_keepAct_34 ?_
  first | refine g_aload0 (pc := 35) dX10_keepAct_35 ?_ | refine g_aloadN0 (pc := 35) dX10_keepAct_35 ?_
  refine g_getI (pc := 36) (j := 16) cf10 dX10_keepAct_36 fl_RX10_155 (by decide) (by decide) (by first | rfl | assumption) ?_
  refine g_iconst (pc := 39) (1) dX10_keepAct_39 (by decide) ?_
  refine g_iadd (pc := 40) dX10_keepAct_40 ?_
  refine g_bipush (pc := 41) (14) dX10_keepAct_41 (by decide) ?_
  refine g_irem (pc := 43) dX10_keepAct_43 (by decide) ?_
  rw [za, hx0, zr]
  refine g_putI (pc := 44) (j := 16) cf10 dX10_keepAct_44 fl_RX10_155 (by decide) rfl rfl (by decide) (by first | rfl | assumption) ?_
  first | refine g_aload0 (pc := 47) dX10_keepAct_47 ?_ | refine g_aloadN0 (pc := 47) dX10_keepAct_47 ?_
  first | refine g_aload0 (pc := 48) dX10_keepAct_48 ?_ | refine g_aloadN0 (pc := 48) dX10_keepAct_48 ?_
  refine g_getI (pc := 49) (j := 15) cf10 dX10_keepAct_49 fl_RX10_87 (by decide) (by decide) (by first | rfl | assumption) ?_
  refine g_bipush (pc := 52) (14) dX10_keepAct_52 (by decide) ?_
  rw [u2_n (fun zq => absurd zq.2 (by decide)), za, hc]
  refine g_icmp_ge (pc := 54) 66 dX10_keepAct_54 (by decide) (fun zh54 => ?_) (fun zh54 => ?_)
  · skip
    refine g_bipush (pc := 66) (14) dX10_keepAct_66 (by decide) ?_
    refine g_putI (pc := 68) (j := 15) cf10 dX10_keepAct_68 fl_RX10_87 (by decide) rfl rfl (by decide) (by first | rfl | assumption) ?_
    refine g_vret (pc := 71) dX10_keepAct_71 rfl ?_
    refine ⟨rfl, ?_, rfl⟩
    unfold kaV
    first | (rw [if_pos (show c < 14 by rcases Nat.lt_or_ge c 14 with zq | zq <;> first | exact zq | exact absurd (nI_le (a := 14) zq (by omega)) zh54), nI_1]) | (rw [if_neg (fun zq => nI_ge (b := 14) zq (by decide) zh54)])
  · skip
    first | refine g_aload0 (pc := 57) dX10_keepAct_57 ?_ | refine g_aloadN0 (pc := 57) dX10_keepAct_57 ?_
    refine g_getI (pc := 58) (j := 15) cf10 dX10_keepAct_58 fl_RX10_87 (by decide) (by decide) (by first | rfl | assumption) ?_
    refine g_iconst (pc := 61) (1) dX10_keepAct_61 (by decide) ?_
    rw [show upd2 (kaR v x) 79 16 (nI ((x + 1) % 14)) 79 15 = nI c from by rw [u2_n (fun zq => absurd zq.2 (by decide)), za, hc]]
    refine g_iadd (pc := 62) dX10_keepAct_62 ?_
    refine g_goto (pc := 63) 68 dX10_keepAct_63 (by decide) ?_
    refine g_putI (pc := 68) (j := 15) cf10 dX10_keepAct_68 fl_RX10_87 (by decide) rfl rfl (by decide) (by first | rfl | assumption) ?_
    refine g_vret (pc := 71) dX10_keepAct_71 rfl ?_
    refine ⟨rfl, ?_, rfl⟩
    unfold kaV
    first | (rw [if_pos (show c < 14 by rcases Nat.lt_or_ge c 14 with zq | zq <;> first | exact zq | exact absurd (nI_le (a := 14) zq (by omega)) zh54), nI_1]) | (rw [if_neg (fun zq => nI_ge (b := 14) zq (by decide) zh54)])
theorem lp_X10_undo {x : Nat} {w0 : Mm} {L : Lm} {Q : Qt} (hx : x < 14) (hI0 : (fun (_ : Nat) (zw : Mm) => zw 79 16 = nI x) 0 w0) (hk : G RX10 cX10_undo 2 (some .int) 0 Q 68 [some (.ref 79), some (.int (nI 43))] [] (itr (fun k w => upd2 w 82 k (w 87 (43 * x + k))) 43 w0) L) : (fun (i : Nat) (w : Mm) =>  G RX10 cX10_undo 2 (some .int) 0 Q 36 [some (.ref 79), some (.int (nI i))] [] w L) 0 w0 := by
  refine g_for 43 (fun k w => upd2 w 82 k (w 87 (43 * x + k))) (fun (_ : Nat) (zw : Mm) => zw 79 16 = nI x) (fun (i : Nat) (w : Mm) =>  G RX10 cX10_undo 2 (some .int) 0 Q 36 [some (.ref 79), some (.int (nI i))] [] w L) w0 hI0 ?_ (fun hI => ?_) (fun i w hi hI hn => ?_)
  · intro zi zw zl zh
    show upd2 zw 82 _ _ 79 16 = nI x
    rw [u2_n (fun zq => absurd zq.1 (by decide))]; exact zh
  · show G _ _ _ _ _ _ _ _ _ _ _
    try dsimp only at hI
    refine g_iload1 (pc := 36) dX10_undo_36 ?_
    refine g_bipush (pc := 37) (43) dX10_undo_37 (by decide) ?_
    refine g_icmp_ge (pc := 39) 68 dX10_undo_39 (by decide) (fun zh39 => ?_) (fun zh39 => ?_)
    · skip
      exact hk
    · skip
      exact absurd (Int32.le_refl _) zh39
  · show G _ _ _ _ _ _ _ _ _ _ _
    try dsimp only at hI
    try dsimp only at hn
    refine g_iload1 (pc := 36) dX10_undo_36 ?_
    refine g_bipush (pc := 37) (43) dX10_undo_37 (by decide) ?_
    refine g_icmp_ge (pc := 39) 68 dX10_undo_39 (by decide) (fun zh39 => ?_) (fun zh39 => ?_)
    · skip
      exact absurd zh39 (nI_ge (b := 43) hi (by decide))
    · skip
      first | refine g_aload0 (pc := 42) dX10_undo_42 ?_ | refine g_aloadN0 (pc := 42) dX10_undo_42 ?_
      refine g_getR (pc := 43) (j := 3) cf10 dX10_undo_43 fl_RX10_16 (by decide) (by decide) (by first | rfl | assumption) (82) (rfl) ?_
      refine g_iload1 (pc := 46) dX10_undo_46 ?_
      first | refine g_aload0 (pc := 47) dX10_undo_47 ?_ | refine g_aloadN0 (pc := 47) dX10_undo_47 ?_
      refine g_getR (pc := 48) (j := 17) cf10 dX10_undo_48 fl_RX10_31 (by decide) (by decide) (by first | rfl | assumption) (87) (rfl) ?_
      refine g_bipush (pc := 51) (43) dX10_undo_51 (by decide) ?_
      first | refine g_aload0 (pc := 53) dX10_undo_53 ?_ | refine g_aloadN0 (pc := 53) dX10_undo_53 ?_
      refine g_getI (pc := 54) (j := 16) cf10 dX10_undo_54 fl_RX10_155 (by decide) (by decide) (by first | rfl | assumption) ?_
      refine g_imul (pc := 57) dX10_undo_57 ?_
      refine g_iload1 (pc := 58) dX10_undo_58 ?_
      refine g_iadd (pc := 59) dX10_undo_59 ?_
      refine g_ialdX (pc := 60) (43 * x + i) dX10_undo_60 (rfl) (by rw [hI]; exact ixK) (by have := ln_all; omega) (by decide) ?_
      refine g_iastX (pc := 61) (i) dX10_undo_61 (rfl) (rfl) (by have := ln_all; omega) (by decide) ?_
      refine g_iinc1 (pc := 62) (nI (i + 1)) dX10_undo_62 (nI_succ' i) (by decide) (by first | rfl | assumption) ?_
      refine g_goto (pc := 65) 36 dX10_undo_65 (by decide) ?_
      exact hn
theorem c_X10_undo_n  {v : Mm} {L : Lm} (zh0 : v 79 15 = 0) : Fn yX10_undo cX10_undo 2 (some .int) 0 [.ref 79] v L (some (.int (-3))) v L := by
  refine Fq.of (plainFor_of_name (by decide)) [some (.ref 79), none] rfl (Nat.le_of_ble_eq_true rfl) ?_
  first | refine g_aload0 (pc := 0) dX10_undo_0 ?_ | refine g_aloadN0 (pc := 0) dX10_undo_0 ?_
  refine g_getI (pc := 1) (j := 15) cf10 dX10_undo_1 fl_RX10_87 (by decide) (by decide) (by first | rfl | assumption) ?_
  refine g_if_ne (pc := 4) 10 dX10_undo_4 (by decide) (fun zh4 => ?_) (fun zh4 => ?_)
  · skip
    exact absurd zh0 zh4
  · skip
    refine g_bipush (pc := 7) (-3) dX10_undo_7 (by decide) ?_
    refine g_iret (pc := 9) dX10_undo_9 rfl ?_
    exact ⟨rfl, rfl, rfl⟩
theorem c_X10_undo_s {x c : Nat} {v : Mm} {L : Lm} (hx : x < 14) (hx0 : v 79 16 = nI x) (hc : v 79 15 = nI (c + 1)) (hc14 : c < 14) : Fn yX10_undo cX10_undo 2 (some .int) 0 [.ref 79] v L (some (.int (nI c))) (unV (upd2 (upd2 v 79 15 (nI c)) 79 16 (nI ((x + 13) % 14))) ((x + 13) % 14)) L := by
  have zr : nI x + 13 - (nI x + 13) / 14 * 14 = nI ((x + 13) % 14) := by rw [show nI x + 13 = nI (x + 13) from nI_add x 13]; exact pk_rem (d := 14) (by omega) (by decide) (by decide)
  refine Fq.of (plainFor_of_name (by decide)) [some (.ref 79), none] rfl (Nat.le_of_ble_eq_true rfl) ?_
  first | refine g_aload0 (pc := 0) dX10_undo_0 ?_ | refine g_aloadN0 (pc := 0) dX10_undo_0 ?_
  refine g_getI (pc := 1) (j := 15) cf10 dX10_undo_1 fl_RX10_87 (by decide) (by decide) (by first | rfl | assumption) ?_
  refine g_if_ne (pc := 4) 10 dX10_undo_4 (by decide) (fun zh4 => ?_) (fun zh4 => ?_)
  · skip
    first | refine g_aload0 (pc := 10) dX10_undo_10 ?_ | refine g_aloadN0 (pc := 10) dX10_undo_10 ?_
    refine g_dup (pc := 11) dX10_undo_11 rfl ?_
    refine g_getI (pc := 12) (j := 15) cf10 dX10_undo_12 fl_RX10_87 (by decide) (by decide) (by first | rfl | assumption) ?_
    refine g_iconst (pc := 15) (1) dX10_undo_15 (by decide) ?_
    refine g_isub (pc := 16) dX10_undo_16 ?_
    rw [hc, nI_pred]
    refine g_putI (pc := 17) (j := 15) cf10 dX10_undo_17 fl_RX10_87 (by decide) rfl rfl (by decide) (by first | rfl | assumption) ?_
    first | refine g_aload0 (pc := 20) dX10_undo_20 ?_ | refine g_aloadN0 (pc := 20) dX10_undo_20 ?_
    first | refine g_aload0 (pc := 21) dX10_undo_21 ?_ | refine g_aloadN0 (pc := 21) dX10_undo_21 ?_
    refine g_getI (pc := 22) (j := 16) cf10 dX10_undo_22 fl_RX10_155 (by decide) (by decide) (by first | rfl | assumption) ?_
    refine g_bipush (pc := 25) (13) dX10_undo_25 (by decide) ?_
    refine g_iadd (pc := 27) dX10_undo_27 ?_
    refine g_bipush (pc := 28) (14) dX10_undo_28 (by decide) ?_
    refine g_irem (pc := 30) dX10_undo_30 (by decide) ?_
    rw [u2_n (fun zq => absurd zq.2 (by decide)), hx0, zr]
    refine g_putI (pc := 31) (j := 16) cf10 dX10_undo_31 fl_RX10_155 (by decide) rfl rfl (by decide) (by first | rfl | assumption) ?_
    refine g_iconst (pc := 34) (0) dX10_undo_34 (by decide) ?_
    refine g_istore1 (pc := 35) dX10_undo_35 (by decide) (by first | rfl | assumption) ?_
    refine lp_X10_undo (x := (x + 13) % 14) (by omega) u2_s ?_
    have za : itr (fun k w => upd2 w 82 k (w 87 (43 * ((x + 13) % 14) + k))) 43 (upd2 (upd2 v 79 15 (nI c)) 79 16 (nI ((x + 13) % 14))) 79 15 = nI c := itr_inv (f := fun k w => upd2 w 82 k (w 87 (43 * ((x + 13) % 14) + k))) (fun zw => zw 79 15 = nI c) (fun zi zw zh => by show upd2 zw 82 _ _ 79 15 = nI c; rw [u2_n (fun zq => absurd zq.1 (by decide))]; exact zh) 43 _ (by rw [u2_n (fun zq => absurd zq.2 (by decide)), u2_s])
    refine g_aload0 (pc := 68) dX10_undo_68 ?_
    refine g_getI (pc := 69) (j := 15) cf10 dX10_undo_69 fl_RX10_87 (by decide) (by decide) rfl ?_
    refine g_iret (pc := 72) dX10_undo_72 rfl ?_
    exact ⟨by rw [za], rfl, rfl⟩
  · skip
    exact absurd (hc.symm.trans zh4) (nI_ne0 (by omega) (by omega))
theorem lp_X10_writeOn {l p q w n : Nat} {sk : Int32} {L : Lm} (hl : l ≤ 1) (hp : p < n) (hn4 : n ≤ 4) (hq8 : q ≤ 8) (hw8 : w ≤ 8) : ∀ (m : Nat) (i : Nat) (s : Int32) (v : Mm), i + m = min q w → v 79 0 = nI n → v 79 12 = nI w → DotOk v l p → G RX10 cX10_writeOn 7 (some .int) 3 (fun a b c => a = some (.int (woF l p sk m i s v).1) ∧ b = (woF l p sk m i s v).2 ∧ c = L) 11 [some (.ref 79), some (.int (nI l)), some (.int (nI p)), some (.int (nI q)), some (.int sk), some (.int s), some (.int (nI i))] [] v L := by
  intro m
  induction m with
  | zero =>
    intro i s v hi hn hw hdo
    refine g_iload6 (pc := 11) dX10_writeOn_11 ?_
    refine g_iload3 (pc := 13) dX10_writeOn_13 ?_
    refine g_icmp_ge (pc := 14) 89 dX10_writeOn_14 (by decide) (fun zh14 => ?_) (fun zh14 => ?_)
    · skip
      refine g_iload5 (pc := 89) dX10_writeOn_89 ?_
      refine g_iret (pc := 91) dX10_writeOn_91 rfl ?_
      exact ⟨rfl, rfl, rfl⟩
    · skip
      refine g_iload6 (pc := 17) dX10_writeOn_17 ?_
      first | refine g_aload0 (pc := 19) dX10_writeOn_19 ?_ | refine g_aloadN0 (pc := 19) dX10_writeOn_19 ?_
      refine g_getI (pc := 20) (j := 12) cf10 dX10_writeOn_20 fl_RX10_100 (by decide) (by decide) (by first | rfl | assumption) ?_
      refine g_icmp_ge (pc := 23) 89 dX10_writeOn_23 (by decide) (fun zh23 => ?_) (fun zh23 => ?_)
      · skip
        refine g_iload5 (pc := 89) dX10_writeOn_89 ?_
        refine g_iret (pc := 91) dX10_writeOn_91 rfl ?_
        exact ⟨rfl, rfl, rfl⟩
      · skip
        exfalso
        have z1 : ¬ q ≤ i := fun zq => zh14 (nI_le zq (by omega))
        have z2 : ¬ w ≤ i := fun zq => zh23 (by rw [hw]; exact nI_le zq (by omega))
        omega
  | succ m ih =>
    intro i s v hi hn hw hdo
    refine g_iload6 (pc := 11) dX10_writeOn_11 ?_
    refine g_iload3 (pc := 13) dX10_writeOn_13 ?_
    refine g_icmp_ge (pc := 14) 89 dX10_writeOn_14 (by decide) (fun zh14 => ?_) (fun zh14 => ?_)
    · skip
      exact absurd zh14 (nI_ge (by omega) (by omega))
    · skip
      refine g_iload6 (pc := 17) dX10_writeOn_17 ?_
      first | refine g_aload0 (pc := 19) dX10_writeOn_19 ?_ | refine g_aloadN0 (pc := 19) dX10_writeOn_19 ?_
      refine g_getI (pc := 20) (j := 12) cf10 dX10_writeOn_20 fl_RX10_100 (by decide) (by decide) (by first | rfl | assumption) ?_
      refine g_icmp_ge (pc := 23) 89 dX10_writeOn_23 (by decide) (fun zh23 => ?_) (fun zh23 => ?_)
      · skip
        exact absurd zh23 (by rw [hw]; exact nI_ge (by omega) (by omega))
      · skip
        refine g_iload4 (pc := 26) dX10_writeOn_26 ?_
        refine g_iload6 (pc := 28) dX10_writeOn_28 ?_
        refine g_fS2 (pc := 30) (c_X10_has) dX10_writeOn_30 cw_RX10_126 (by decide) (Nat.le_of_ble_eq_true rfl) ?_
        refine g_if_ne (pc := 33) 73 dX10_writeOn_33 (by decide) (fun zh33 => ?_) (fun zh33 => ?_)
        · skip
          first | refine g_aload0 (pc := 73) dX10_writeOn_73 ?_ | refine g_aloadN0 (pc := 73) dX10_writeOn_73 ?_
          refine g_dup (pc := 74) dX10_writeOn_74 rfl ?_
          refine g_getI (pc := 75) (j := 14) cf10 dX10_writeOn_75 fl_RX10_130 (by decide) (by decide) (by first | rfl | assumption) ?_
          refine g_iconst (pc := 78) (1) dX10_writeOn_78 (by decide) ?_
          refine g_iadd (pc := 79) dX10_writeOn_79 ?_
          refine g_putI (pc := 80) (j := 14) cf10 dX10_writeOn_80 fl_RX10_130 (by decide) rfl rfl (by decide) (by first | rfl | assumption) ?_
          refine g_iinc6 (pc := 83) (nI (i + 1)) dX10_writeOn_83 (nI_succ' i) (by decide) (by first | rfl | assumption) ?_
          refine g_goto (pc := 86) 11 dX10_writeOn_86 (by decide) ?_
          first
            | (have ee : woF l p sk (m + 1) i s v = woF l p sk m (i + 1) s (wrM v) := if_pos (b01_ne0.mp zh33)
               rw [ee]
               exact ih (i + 1) s (wrM v) (by omega) (by rw [wrM_away (by decide)]; exact hn) (by rw [wrM_away (by decide)]; exact hw) (by unfold DotOk; rw [wrM_away (by omega)]; exact hdo))
            | (have ee : woF l p sk (m + 1) i s v = woF l p sk m (i + 1) (s + msL v l p (v 86 i)) (wrM (msV v l p (v 86 i))) := (if_neg (b01_eq0.mp zh33)).trans (if_pos zc)
               rw [ee]
               exact ih (i + 1) _ (wrM (msV v l p (v 86 i))) (by omega) (by rw [wrM_away (by decide), msV_away (by decide)]; exact hn) (by rw [wrM_away (by decide), msV_away (by decide)]; exact hw) ⟨zq, hq25, by rw [wrM_away (by omega)]; exact msV_dot (by omega) hq25 hnd⟩)
        · skip
          first | refine g_aload0 (pc := 36) dX10_writeOn_36 ?_ | refine g_aloadN0 (pc := 36) dX10_writeOn_36 ?_
          refine g_iload1 (pc := 37) dX10_writeOn_37 ?_
          refine g_iload2 (pc := 38) dX10_writeOn_38 ?_
          first | refine g_aload0 (pc := 39) dX10_writeOn_39 ?_ | refine g_aloadN0 (pc := 39) dX10_writeOn_39 ?_
          refine g_getR (pc := 40) (j := 13) cf10 dX10_writeOn_40 fl_RX10_28 (by decide) (by decide) (by first | rfl | assumption) (86) (rfl) ?_
          refine g_iload6 (pc := 43) dX10_writeOn_43 ?_
          refine g_ialdX (pc := 45) (i) dX10_writeOn_45 (rfl) (rfl) (by have := ln_all; omega) (by decide) ?_
          refine g_fV3 (pc := 46) (c_X10_canStep hn hn4 hl hp) cf10 (by first | rfl | assumption) dX10_writeOn_46 cw_RX10_133 (by decide) (Nat.le_of_ble_eq_true rfl) ?_
          refine g_if_ne (pc := 49) 55 dX10_writeOn_49 (by decide) (fun zh49 => ?_) (fun zh49 => ?_)
          · skip
            obtain ⟨zd, hzd, ezd⟩ := hdo
            have zc := b01_ne0.mp zh49
            obtain ⟨zq, hq25, hnd⟩ : ∃ zq, zq < 25 ∧ ndF (v 82 (43 * l + p)) (v 86 i) = nI zq := by
              have z1 := zc.2
              rw [ezd] at z1 ⊢
              exact nd_ok hzd ⟨zc.1.1, le7.mp zc.1.2⟩ z1
            refine g_iload5 (pc := 55) dX10_writeOn_55 ?_
            first | refine g_aload0 (pc := 57) dX10_writeOn_57 ?_ | refine g_aloadN0 (pc := 57) dX10_writeOn_57 ?_
            refine g_iload1 (pc := 58) dX10_writeOn_58 ?_
            refine g_iload2 (pc := 59) dX10_writeOn_59 ?_
            first | refine g_aload0 (pc := 60) dX10_writeOn_60 ?_ | refine g_aloadN0 (pc := 60) dX10_writeOn_60 ?_
            refine g_getR (pc := 61) (j := 13) cf10 dX10_writeOn_61 fl_RX10_28 (by decide) (by decide) (by first | rfl | assumption) (86) (rfl) ?_
            refine g_iload6 (pc := 64) dX10_writeOn_64 ?_
            refine g_ialdX (pc := 66) (i) dX10_writeOn_66 (rfl) (rfl) (by have := ln_all; omega) (by decide) ?_
            refine g_fV3 (pc := 67) (c_X10_stepOn hl (by omega) hq25 hnd) cf10 (by first | rfl | assumption) dX10_writeOn_67 cw_RX10_137 (by decide) (Nat.le_of_ble_eq_true rfl) ?_
            refine g_iadd (pc := 70) dX10_writeOn_70 ?_
            refine g_istore5 (pc := 71) dX10_writeOn_71 (by decide) (by first | rfl | assumption) ?_
            first | refine g_aload0 (pc := 73) dX10_writeOn_73 ?_ | refine g_aloadN0 (pc := 73) dX10_writeOn_73 ?_
            refine g_dup (pc := 74) dX10_writeOn_74 rfl ?_
            refine g_getI (pc := 75) (j := 14) cf10 dX10_writeOn_75 fl_RX10_130 (by decide) (by decide) (by first | rfl | assumption) ?_
            refine g_iconst (pc := 78) (1) dX10_writeOn_78 (by decide) ?_
            refine g_iadd (pc := 79) dX10_writeOn_79 ?_
            refine g_putI (pc := 80) (j := 14) cf10 dX10_writeOn_80 fl_RX10_130 (by decide) rfl rfl (by decide) (by first | rfl | assumption) ?_
            refine g_iinc6 (pc := 83) (nI (i + 1)) dX10_writeOn_83 (nI_succ' i) (by decide) (by first | rfl | assumption) ?_
            refine g_goto (pc := 86) 11 dX10_writeOn_86 (by decide) ?_
            first
              | (have ee : woF l p sk (m + 1) i s v = woF l p sk m (i + 1) s (wrM v) := if_pos (b01_ne0.mp zh33)
                 rw [ee]
                 exact ih (i + 1) s (wrM v) (by omega) (by rw [wrM_away (by decide)]; exact hn) (by rw [wrM_away (by decide)]; exact hw) (by unfold DotOk; rw [wrM_away (by omega)]; exact hdo))
              | (have ee : woF l p sk (m + 1) i s v = woF l p sk m (i + 1) (s + msL v l p (v 86 i)) (wrM (msV v l p (v 86 i))) := (if_neg (b01_eq0.mp zh33)).trans (if_pos zc)
                 rw [ee]
                 exact ih (i + 1) _ (wrM (msV v l p (v 86 i))) (by omega) (by rw [wrM_away (by decide), msV_away (by decide)]; exact hn) (by rw [wrM_away (by decide), msV_away (by decide)]; exact hw) ⟨zq, hq25, by rw [wrM_away (by omega)]; exact msV_dot (by omega) hq25 hnd⟩)
          · skip
            refine g_iload5 (pc := 52) dX10_writeOn_52 ?_
            refine g_iret (pc := 54) dX10_writeOn_54 rfl ?_
            have ee : woF l p sk (m + 1) i s v = (s, v) := (if_neg (b01_eq0.mp zh33)).trans (if_neg (b01_eq0.mp zh49))
            rw [ee]; exact ⟨rfl, rfl, rfl⟩
theorem c_X10_writeOn {l p q w n : Nat} {sk : Int32} {v : Mm} {L : Lm} (hl : l ≤ 1) (hp : p < n) (hn4 : n ≤ 4) (hq8 : q ≤ 8) (hw8 : w ≤ 8) (hn : v 79 0 = nI n) (hw : v 79 12 = nI w) (hdo : DotOk v l p) : Fn yX10_writeOn cX10_writeOn 7 (some .int) 3 [.ref 79, .int (nI l), .int (nI p), .int (nI q), .int sk] v L (some (.int (woF l p sk (min q w) 0 0 (wo0 v)).1)) (woF l p sk (min q w) 0 0 (wo0 v)).2 L := by
  refine Fq.of (plainFor_of_name (by decide)) [some (.ref 79), some (.int (nI l)), some (.int (nI p)), some (.int (nI q)), some (.int sk), none, none] rfl (Nat.le_of_ble_eq_true rfl) ?_
  refine g_iconst (pc := 0) (0) dX10_writeOn_0 (by decide) ?_
  refine g_istore5 (pc := 1) dX10_writeOn_1 (by decide) (by first | rfl | assumption) ?_
  first | refine g_aload0 (pc := 3) dX10_writeOn_3 ?_ | refine g_aloadN0 (pc := 3) dX10_writeOn_3 ?_
  refine g_iconst (pc := 4) (0) dX10_writeOn_4 (by decide) ?_
  refine g_putI (pc := 5) (j := 14) cf10 dX10_writeOn_5 fl_RX10_130 (by decide) rfl rfl (by decide) (by first | rfl | assumption) ?_
  refine g_iconst (pc := 8) (0) dX10_writeOn_8 (by decide) ?_
  refine g_istore6 (pc := 9) dX10_writeOn_9 (by decide) (by first | rfl | assumption) ?_
  exact lp_X10_writeOn hl hp hn4 hq8 hw8 (min q w) 0 0 (wo0 v) (by omega) (by unfold wo0; rw [u2_n (by decide)]; exact hn) (by unfold wo0; rw [u2_n (by decide)]; exact hw) (by unfold DotOk wo0; rw [u2_n (by omega)]; exact hdo)
