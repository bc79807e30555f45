theorem lp_X10_ringBy {p c : Nat} {x2 : Int32} {v : Mm} {L : Lm} (hp4 : p < 4) (hc4 : c ≤ 4) : ∀ (m : Nat) (i : Nat) (dot s : Int32) (l : Nat), i + m = c → l < 5000 → G RX10 cX10_ringBy 8 (some .int) 2 (fun a b K => a = some (.int (rbR v p m dot s l)) ∧ b = v ∧ K = L) 17 [some (.ref 79), some (.int (nI p)), some (.int x2), some (.int (nI c)), some (.int dot), some (.int s), some (.int (nI l)), some (.int (nI i))] [] v L := by
  intro m
  induction m with
  | zero =>
    intro i dot s l hi hl
    refine g_iload7 (pc := 17) dX10_ringBy_17 ?_
    refine g_iload3 (pc := 19) dX10_ringBy_19 ?_
    refine g_icmp_ge (pc := 20) 74 dX10_ringBy_20 (by decide) (fun zh20 => ?_) (fun zh20 => ?_)
    · skip
      refine g_iload4 (pc := 74) dX10_ringBy_74 ?_
      first | refine g_aload0 (pc := 76) dX10_ringBy_76 ?_ | refine g_aloadN0 (pc := 76) dX10_ringBy_76 ?_
      refine g_getR (pc := 77) (j := 3) cf10 dX10_ringBy_77 fl_RX10_16 (by decide) (by decide) (by first | rfl | assumption) (82) (rfl) ?_
      refine g_iload1 (pc := 80) dX10_ringBy_80 ?_
      refine g_ialdX (pc := 81) (p) dX10_ringBy_81 (rfl) (rfl) (by have := ln_all; omega) (by decide) ?_
      refine g_icmp_ne (pc := 82) 90 dX10_ringBy_82 (by decide) (fun zh82 => ?_) (fun zh82 => ?_)
      · skip
        refine g_bipush (pc := 90) (-9) dX10_ringBy_90 (by decide) ?_
        refine g_iret (pc := 92) dX10_ringBy_92 rfl ?_
        first | exact ⟨congrArg (fun zt => some (Value.int zt)) (if_pos zh82).symm, rfl, rfl⟩ | exact ⟨congrArg (fun zt => some (Value.int zt)) (if_neg zh82).symm, rfl, rfl⟩
      · skip
        refine g_iload5 (pc := 85) dX10_ringBy_85 ?_
        refine g_goto (pc := 87) 92 dX10_ringBy_87 (by decide) ?_
        refine g_iret (pc := 92) dX10_ringBy_92 rfl ?_
        first | exact ⟨congrArg (fun zt => some (Value.int zt)) (if_pos zh82).symm, rfl, rfl⟩ | exact ⟨congrArg (fun zt => some (Value.int zt)) (if_neg zh82).symm, rfl, rfl⟩
    · skip
      exact absurd (nI_le (by omega) (by omega)) zh20
  | succ m ih =>
    intro i dot s l hi hl
    refine g_iload7 (pc := 17) dX10_ringBy_17 ?_
    refine g_iload3 (pc := 19) dX10_ringBy_19 ?_
    refine g_icmp_ge (pc := 20) 74 dX10_ringBy_20 (by decide) (fun zh20 => ?_) (fun zh20 => ?_)
    · skip
      exact absurd zh20 (nI_ge (by omega) (by omega))
    · skip
      refine g_iload4 (pc := 23) dX10_ringBy_23 ?_
      refine g_iload6 (pc := 25) dX10_ringBy_25 ?_
      refine g_bipush (pc := 27) (8) dX10_ringBy_27 (by decide) ?_
      refine g_irem (pc := 29) dX10_ringBy_29 (by decide) ?_
      rw [show nI l - nI l / 8 * 8 = nI (l % 8) from pk_rem (d := 8) (by omega) (by decide) (by decide)]
      refine g_fS2 (pc := 30) (c_X10_nextDot) dX10_ringBy_30 cw_RX10_119 (by decide) (Nat.le_of_ble_eq_true rfl) ?_
      refine g_istore4 (pc := 33) dX10_ringBy_33 (by decide) (by first | rfl | assumption) ?_
      refine g_iload4 (pc := 35) dX10_ringBy_35 ?_
      refine g_bipush (pc := 37) (-9) dX10_ringBy_37 (by decide) ?_
      refine g_icmp_ne (pc := 39) 45 dX10_ringBy_39 (by decide) (fun zh39 => ?_) (fun zh39 => ?_)
      · skip
        refine g_iload5 (pc := 45) dX10_ringBy_45 ?_
        first | refine g_aload0 (pc := 47) dX10_ringBy_47 ?_ | refine g_aloadN0 (pc := 47) dX10_ringBy_47 ?_
        refine g_iconst (pc := 48) (0) dX10_ringBy_48 (by decide) ?_
        refine g_iload1 (pc := 49) dX10_ringBy_49 ?_
        refine g_iload6 (pc := 50) dX10_ringBy_50 ?_
        refine g_bipush (pc := 52) (8) dX10_ringBy_52 (by decide) ?_
        refine g_irem (pc := 54) dX10_ringBy_54 (by decide) ?_
        rw [show nI l - nI l / 8 * 8 = nI (l % 8) from pk_rem (d := 8) (by omega) (by decide) (by decide)]
        refine g_fV3 (pc := 55) (c_X10_thickOn (l := 0) (by decide) hp4) cf10 (by first | rfl | assumption) dX10_ringBy_55 cw_RX10_122 (by decide) (Nat.le_of_ble_eq_true rfl) ?_
        refine g_iadd (pc := 58) dX10_ringBy_58 ?_
        refine g_istore5 (pc := 59) dX10_ringBy_59 (by decide) (by first | rfl | assumption) ?_
        refine g_iload6 (pc := 61) dX10_ringBy_61 ?_
        refine g_bipush (pc := 63) (8) dX10_ringBy_63 (by decide) ?_
        refine g_idiv (pc := 65) dX10_ringBy_65 (by decide) ?_
        rw [show nI l / 8 = nI (l / 8) from pk_div (d := 8) (by omega) (by decide) (by decide)]
        refine g_istore6 (pc := 66) dX10_ringBy_66 (by decide) (by first | rfl | assumption) ?_
        refine g_iinc7 (pc := 68) (nI (i + 1)) dX10_ringBy_68 (nI_succ' i) (by decide) (by first | rfl | assumption) ?_
        refine g_goto (pc := 71) 17 dX10_ringBy_71 (by decide) ?_
        refine G.mono (ih (i + 1) _ _ (l / 8) (by omega) (by omega)) (fun za zb zc zh => ⟨zh.1.trans ?_, zh.2.1, zh.2.2⟩)
        exact congrArg (fun zt => some (Value.int zt)) (if_neg zh39).symm
      · skip
        refine g_bipush (pc := 42) (-9) dX10_ringBy_42 (by decide) ?_
        refine g_iret (pc := 44) dX10_ringBy_44 rfl ?_
        exact ⟨congrArg (fun zt => some (Value.int zt)) (if_pos zh39).symm, rfl, rfl⟩
theorem c_X10_ringBy {p c l : Nat} {v : Mm} {L : Lm} (hp4 : p < 4) (hc4 : c ≤ 4) (hl : l < 5000) : Fn yX10_ringBy cX10_ringBy 8 (some .int) 2 [.ref 79, .int (nI p), .int (nI l), .int (nI c)] v L (some (.int (rbR v p c (v 82 p) 0 l))) v L := by
  refine Fq.of (plainFor_of_name (by decide)) [some (.ref 79), some (.int (nI p)), some (.int (nI l)), some (.int (nI c)), none, none, none, none] rfl (Nat.le_of_ble_eq_true rfl) ?_
  first | refine g_aload0 (pc := 0) dX10_ringBy_0 ?_ | refine g_aloadN0 (pc := 0) dX10_ringBy_0 ?_
  refine g_getR (pc := 1) (j := 3) cf10 dX10_ringBy_1 fl_RX10_16 (by decide) (by decide) (by first | rfl | assumption) (82) (rfl) ?_
  refine g_iload1 (pc := 4) dX10_ringBy_4 ?_
  refine g_ialdX (pc := 5) (p) dX10_ringBy_5 (rfl) (rfl) (by have := ln_all; omega) (by decide) ?_
  refine g_istore4 (pc := 6) dX10_ringBy_6 (by decide) (by first | rfl | assumption) ?_
  refine g_iconst (pc := 8) (0) dX10_ringBy_8 (by decide) ?_
  refine g_istore5 (pc := 9) dX10_ringBy_9 (by decide) (by first | rfl | assumption) ?_
  refine g_iload2 (pc := 11) dX10_ringBy_11 ?_
  refine g_istore6 (pc := 12) dX10_ringBy_12 (by decide) (by first | rfl | assumption) ?_
  refine g_iconst (pc := 14) (0) dX10_ringBy_14 (by decide) ?_
  refine g_istore7 (pc := 15) dX10_ringBy_15 (by decide) (by first | rfl | assumption) ?_
  exact lp_X10_ringBy hp4 hc4 c 0 _ _ l (by omega) hl
theorem lp_X10_rings {p c : Nat} {x3 : Int32} {v : Mm} {L : Lm} (hp4 : p < 4) (hc4 : c ≤ 4) (hI0 : (fun (_ : Nat) (_ : Int32 × Int32) => True) 0 (0, -9)) : (fun (i : Nat) (w : Int32 × Int32) => ∀ (o8 : Option Value), G RX10 cX10_rings 9 (some .int) 3 (fun a b K => a = some (.int (if x3 = 0 then (rnF v p c).1 else (rnF v p c).2)) ∧ b = v ∧ K = L) 81 [some (.ref 79), some (.int (nI p)), some (.int (nI c)), some (.int x3), some (.int (nI (8 ^ c))), some (.int w.1), some (.int w.2), some (.int (nI i)), o8] [] v L) 0 ((0 : Int32), (-9 : Int32)) := by
  refine g_for (8 ^ c) (rgS v p c) (fun (_ : Nat) (_ : Int32 × Int32) => True) (fun (i : Nat) (w : Int32 × Int32) => ∀ (o8 : Option Value), G RX10 cX10_rings 9 (some .int) 3 (fun a b K => a = some (.int (if x3 = 0 then (rnF v p c).1 else (rnF v p c).2)) ∧ b = v ∧ K = L) 81 [some (.ref 79), some (.int (nI p)), some (.int (nI c)), some (.int x3), some (.int (nI (8 ^ c))), some (.int w.1), some (.int w.2), some (.int (nI i)), o8] [] v L) ((0 : Int32), (-9 : Int32)) hI0 ?_ (fun hI => ?_) (fun i w hi hI hn => ?_)
  · exact fun _ _ _ h => h
  · intro o8
    show G _ _ _ _ _ _ _ _ _ _ _
    try dsimp only at hI
    have z8 := p8 c hc4
    refine g_iload7 (pc := 81) dX10_rings_81 ?_
    refine g_iload4 (pc := 83) dX10_rings_83 ?_
    refine g_icmp_ge (pc := 85) 151 dX10_rings_85 (by decide) (fun zh85 => ?_) (fun zh85 => ?_)
    · skip
      refine g_iload3 (pc := 151) dX10_rings_151 ?_
      refine g_if_ne (pc := 152) 160 dX10_rings_152 (by decide) (fun zh152 => ?_) (fun zh152 => ?_)
      · skip
        refine g_iload6 (pc := 160) dX10_rings_160 ?_
        refine g_iret (pc := 162) dX10_rings_162 rfl ?_
        first | (rw [if_pos zh152]; exact ⟨rfl, rfl, rfl⟩) | (rw [if_neg zh152]; exact ⟨rfl, rfl, rfl⟩)
      · skip
        refine g_iload5 (pc := 155) dX10_rings_155 ?_
        refine g_goto (pc := 157) 162 dX10_rings_157 (by decide) ?_
        refine g_iret (pc := 162) dX10_rings_162 rfl ?_
        first | (rw [if_pos zh152]; exact ⟨rfl, rfl, rfl⟩) | (rw [if_neg zh152]; exact ⟨rfl, rfl, rfl⟩)
    · skip
      exact absurd (Int32.le_refl _) zh85
  · intro o8
    show G _ _ _ _ _ _ _ _ _ _ _
    try dsimp only at hI
    try dsimp only at hn
    have z8 := p8 c hc4
    refine g_iload7 (pc := 81) dX10_rings_81 ?_
    refine g_iload4 (pc := 83) dX10_rings_83 ?_
    refine g_icmp_ge (pc := 85) 151 dX10_rings_85 (by decide) (fun zh85 => ?_) (fun zh85 => ?_)
    · skip
      exact absurd zh85 (nI_ge hi (by omega))
    · skip
      first | refine g_aload0 (pc := 88) dX10_rings_88 ?_ | refine g_aloadN0 (pc := 88) dX10_rings_88 ?_
      refine g_iload1 (pc := 89) dX10_rings_89 ?_
      refine g_iload7 (pc := 90) dX10_rings_90 ?_
      refine g_iload2 (pc := 92) dX10_rings_92 ?_
      refine g_fV3 (pc := 93) (c_X10_ringBy hp4 hc4 (by omega)) cf10 (by first | rfl | assumption) dX10_rings_93 cw_RX10_174 (by decide) (Nat.le_of_ble_eq_true rfl) ?_
      refine g_istore8 (pc := 96) dX10_rings_96 (by decide) (by first | rfl | assumption) ?_
      refine g_iload5 (pc := 98) dX10_rings_98 ?_
      refine g_iload8 (pc := 100) dX10_rings_100 ?_
      refine g_bipush (pc := 102) (-9) dX10_rings_102 (by decide) ?_
      refine g_icmp_ne (pc := 104) 111 dX10_rings_104 (by decide) (fun zh104 => ?_) (fun zh104 => ?_)
      · skip
        refine g_iconst (pc := 111) (1) dX10_rings_111 (by decide) ?_
        refine g_iadd (pc := 112) dX10_rings_112 ?_
        refine g_istore5 (pc := 113) dX10_rings_113 (by decide) (by first | rfl | assumption) ?_
        refine g_iload8 (pc := 115) dX10_rings_115 ?_
        refine g_bipush (pc := 117) (-9) dX10_rings_117 (by decide) ?_
        refine g_icmp_eq (pc := 119) 141 dX10_rings_119 (by decide) (fun zh119 => ?_) (fun zh119 => ?_)
        · skip
          refine g_iload6 (pc := 141) dX10_rings_141 ?_
          refine g_istore6 (pc := 143) dX10_rings_143 (by decide) (by first | rfl | assumption) ?_
          refine g_iinc7 (pc := 145) (nI (i + 1)) dX10_rings_145 (nI_succ' i) (by decide) (by first | rfl | assumption) ?_
          refine g_goto (pc := 148) 81 dX10_rings_148 (by decide) ?_
          have hn2 := hn (some (.int (rbR v p c (v 82 p) 0 i)))
          unfold rgS at hn2
          dsimp only at hn2
          first
            | (rw [if_pos zh104] at hn2; rw [if_neg (fun zq => zq.1 zh104)] at hn2; exact hn2)
            | (rw [if_neg zh104, if_pos ⟨zh104, Or.inl zh126⟩] at hn2; exact hn2)
            | (rw [if_neg zh104, if_pos ⟨zh104, Or.inr (i32nle.mp zh133)⟩] at hn2; exact hn2)
            | (rw [if_neg zh104, if_neg (fun zq => zq.2.elim zh126 (i32nlt.mpr zh133))] at hn2; exact hn2)
        · skip
          refine g_iload6 (pc := 122) dX10_rings_122 ?_
          refine g_bipush (pc := 124) (-9) dX10_rings_124 (by decide) ?_
          refine g_icmp_eq (pc := 126) 136 dX10_rings_126 (by decide) (fun zh126 => ?_) (fun zh126 => ?_)
          · skip
            refine g_iload8 (pc := 136) dX10_rings_136 ?_
            refine g_goto (pc := 138) 143 dX10_rings_138 (by decide) ?_
            refine g_istore6 (pc := 143) dX10_rings_143 (by decide) (by first | rfl | assumption) ?_
            refine g_iinc7 (pc := 145) (nI (i + 1)) dX10_rings_145 (nI_succ' i) (by decide) (by first | rfl | assumption) ?_
            refine g_goto (pc := 148) 81 dX10_rings_148 (by decide) ?_
            have hn2 := hn (some (.int (rbR v p c (v 82 p) 0 i)))
            unfold rgS at hn2
            dsimp only at hn2
            first
              | (rw [if_pos zh104] at hn2; rw [if_neg (fun zq => zq.1 zh104)] at hn2; exact hn2)
              | (rw [if_neg zh104, if_pos ⟨zh104, Or.inl zh126⟩] at hn2; exact hn2)
              | (rw [if_neg zh104, if_pos ⟨zh104, Or.inr (i32nle.mp zh133)⟩] at hn2; exact hn2)
              | (rw [if_neg zh104, if_neg (fun zq => zq.2.elim zh126 (i32nlt.mpr zh133))] at hn2; exact hn2)
          · skip
            refine g_iload8 (pc := 129) dX10_rings_129 ?_
            refine g_iload6 (pc := 131) dX10_rings_131 ?_
            refine g_icmp_ge (pc := 133) 141 dX10_rings_133 (by decide) (fun zh133 => ?_) (fun zh133 => ?_)
            · skip
              refine g_iload6 (pc := 141) dX10_rings_141 ?_
              refine g_istore6 (pc := 143) dX10_rings_143 (by decide) (by first | rfl | assumption) ?_
              refine g_iinc7 (pc := 145) (nI (i + 1)) dX10_rings_145 (nI_succ' i) (by decide) (by first | rfl | assumption) ?_
              refine g_goto (pc := 148) 81 dX10_rings_148 (by decide) ?_
              have hn2 := hn (some (.int (rbR v p c (v 82 p) 0 i)))
              unfold rgS at hn2
              dsimp only at hn2
              first
                | (rw [if_pos zh104] at hn2; rw [if_neg (fun zq => zq.1 zh104)] at hn2; exact hn2)
                | (rw [if_neg zh104, if_pos ⟨zh104, Or.inl zh126⟩] at hn2; exact hn2)
                | (rw [if_neg zh104, if_pos ⟨zh104, Or.inr (i32nle.mp zh133)⟩] at hn2; exact hn2)
                | (rw [if_neg zh104, if_neg (fun zq => zq.2.elim zh126 (i32nlt.mpr zh133))] at hn2; exact hn2)
            · skip
              refine g_iload8 (pc := 136) dX10_rings_136 ?_
              refine g_goto (pc := 138) 143 dX10_rings_138 (by decide) ?_
              refine g_istore6 (pc := 143) dX10_rings_143 (by decide) (by first | rfl | assumption) ?_
              refine g_iinc7 (pc := 145) (nI (i + 1)) dX10_rings_145 (nI_succ' i) (by decide) (by first | rfl | assumption) ?_
              refine g_goto (pc := 148) 81 dX10_rings_148 (by decide) ?_
              have hn2 := hn (some (.int (rbR v p c (v 82 p) 0 i)))
              unfold rgS at hn2
              dsimp only at hn2
              first
                | (rw [if_pos zh104] at hn2; rw [if_neg (fun zq => zq.1 zh104)] at hn2; exact hn2)
                | (rw [if_neg zh104, if_pos ⟨zh104, Or.inl zh126⟩] at hn2; exact hn2)
                | (rw [if_neg zh104, if_pos ⟨zh104, Or.inr (i32nle.mp zh133)⟩] at hn2; exact hn2)
                | (rw [if_neg zh104, if_neg (fun zq => zq.2.elim zh126 (i32nlt.mpr zh133))] at hn2; exact hn2)
      · skip
        refine g_iconst (pc := 107) (0) dX10_rings_107 (by decide) ?_
        refine g_goto (pc := 108) 112 dX10_rings_108 (by decide) ?_
        refine g_iadd (pc := 112) dX10_rings_112 ?_
        refine g_istore5 (pc := 113) dX10_rings_113 (by decide) (by first | rfl | assumption) ?_
        refine g_iload8 (pc := 115) dX10_rings_115 ?_
        refine g_bipush (pc := 117) (-9) dX10_rings_117 (by decide) ?_
        refine g_icmp_eq (pc := 119) 141 dX10_rings_119 (by decide) (fun zh119 => ?_) (fun zh119 => ?_)
        · skip
          refine g_iload6 (pc := 141) dX10_rings_141 ?_
          refine g_istore6 (pc := 143) dX10_rings_143 (by decide) (by first | rfl | assumption) ?_
          refine g_iinc7 (pc := 145) (nI (i + 1)) dX10_rings_145 (nI_succ' i) (by decide) (by first | rfl | assumption) ?_
          refine g_goto (pc := 148) 81 dX10_rings_148 (by decide) ?_
          have hn2 := hn (some (.int (rbR v p c (v 82 p) 0 i)))
          unfold rgS at hn2
          dsimp only at hn2
          first
            | (rw [if_pos zh104] at hn2; rw [if_neg (fun zq => zq.1 zh104)] at hn2; exact hn2)
            | (rw [if_neg zh104, if_pos ⟨zh104, Or.inl zh126⟩] at hn2; exact hn2)
            | (rw [if_neg zh104, if_pos ⟨zh104, Or.inr (i32nle.mp zh133)⟩] at hn2; exact hn2)
            | (rw [if_neg zh104, if_neg (fun zq => zq.2.elim zh126 (i32nlt.mpr zh133))] at hn2; exact hn2)
        · skip
          refine g_iload6 (pc := 122) dX10_rings_122 ?_
          refine g_bipush (pc := 124) (-9) dX10_rings_124 (by decide) ?_
          refine g_icmp_eq (pc := 126) 136 dX10_rings_126 (by decide) (fun zh126 => ?_) (fun zh126 => ?_)
          · skip
            refine g_iload8 (pc := 136) dX10_rings_136 ?_
            refine g_goto (pc := 138) 143 dX10_rings_138 (by decide) ?_
            refine g_istore6 (pc := 143) dX10_rings_143 (by decide) (by first | rfl | assumption) ?_
            refine g_iinc7 (pc := 145) (nI (i + 1)) dX10_rings_145 (nI_succ' i) (by decide) (by first | rfl | assumption) ?_
            refine g_goto (pc := 148) 81 dX10_rings_148 (by decide) ?_
            have hn2 := hn (some (.int (rbR v p c (v 82 p) 0 i)))
            unfold rgS at hn2
            dsimp only at hn2
            first
              | (rw [if_pos zh104] at hn2; rw [if_neg (fun zq => zq.1 zh104)] at hn2; exact hn2)
              | (rw [if_neg zh104, if_pos ⟨zh104, Or.inl zh126⟩] at hn2; exact hn2)
              | (rw [if_neg zh104, if_pos ⟨zh104, Or.inr (i32nle.mp zh133)⟩] at hn2; exact hn2)
              | (rw [if_neg zh104, if_neg (fun zq => zq.2.elim zh126 (i32nlt.mpr zh133))] at hn2; exact hn2)
          · skip
            refine g_iload8 (pc := 129) dX10_rings_129 ?_
            refine g_iload6 (pc := 131) dX10_rings_131 ?_
            refine g_icmp_ge (pc := 133) 141 dX10_rings_133 (by decide) (fun zh133 => ?_) (fun zh133 => ?_)
            · skip
              refine g_iload6 (pc := 141) dX10_rings_141 ?_
              refine g_istore6 (pc := 143) dX10_rings_143 (by decide) (by first | rfl | assumption) ?_
              refine g_iinc7 (pc := 145) (nI (i + 1)) dX10_rings_145 (nI_succ' i) (by decide) (by first | rfl | assumption) ?_
              refine g_goto (pc := 148) 81 dX10_rings_148 (by decide) ?_
              have hn2 := hn (some (.int (rbR v p c (v 82 p) 0 i)))
              unfold rgS at hn2
              dsimp only at hn2
              first
                | (rw [if_pos zh104] at hn2; rw [if_neg (fun zq => zq.1 zh104)] at hn2; exact hn2)
                | (rw [if_neg zh104, if_pos ⟨zh104, Or.inl zh126⟩] at hn2; exact hn2)
                | (rw [if_neg zh104, if_pos ⟨zh104, Or.inr (i32nle.mp zh133)⟩] at hn2; exact hn2)
                | (rw [if_neg zh104, if_neg (fun zq => zq.2.elim zh126 (i32nlt.mpr zh133))] at hn2; exact hn2)
            · skip
              refine g_iload8 (pc := 136) dX10_rings_136 ?_
              refine g_goto (pc := 138) 143 dX10_rings_138 (by decide) ?_
              refine g_istore6 (pc := 143) dX10_rings_143 (by decide) (by first | rfl | assumption) ?_
              refine g_iinc7 (pc := 145) (nI (i + 1)) dX10_rings_145 (nI_succ' i) (by decide) (by first | rfl | assumption) ?_
              refine g_goto (pc := 148) 81 dX10_rings_148 (by decide) ?_
              have hn2 := hn (some (.int (rbR v p c (v 82 p) 0 i)))
              unfold rgS at hn2
              dsimp only at hn2
              first
                | (rw [if_pos zh104] at hn2; rw [if_neg (fun zq => zq.1 zh104)] at hn2; exact hn2)
                | (rw [if_neg zh104, if_pos ⟨zh104, Or.inl zh126⟩] at hn2; exact hn2)
                | (rw [if_neg zh104, if_pos ⟨zh104, Or.inr (i32nle.mp zh133)⟩] at hn2; exact hn2)
                | (rw [if_neg zh104, if_neg (fun zq => zq.2.elim zh126 (i32nlt.mpr zh133))] at hn2; exact hn2)
