theorem lp_X10_ringBy {p c : Nat} {x2 : Int32} {v : Mm} {L : Lm} (hp4 : p < 4) (hc4 : c ≤ 4) : ∀ (m : Nat) (i : Nat) (dot s : Int32) (l : Nat), i + m = c → l < 5000 → G RX10 cX10_ringBy 8 (some .int) 2 (fun a b K => a = some (.int (rbR v p m dot s l)) ∧ b = v ∧ K = L) 17 [some (.ref 79), some (.int (nI p)), some (.int x2), some (.int (nI c)), some (.int dot), some (.int s), some (.int (nI l)), some (.int (nI i))] [] v L := by
  intro m
  induction m with
  | zero =>
    intro i dot s l hi hl
    refine g_iload7 (pc := 17) dX10_ringBy_17 ?_
    refine g_iload3 (pc := 19) dX10_ringBy_19 ?_
    refine g_icmp_ge (pc := 20) 74 dX10_ringBy_20 (by decide) (fun zh20 => ?_) (fun zh20 => ?_)
    · skip
      refine g_iload4 (pc := 74) dX10_ringBy_74 ?_
      first | refine g_aload0 (pc := 76) dX10_ringBy_76 ?_ | refine g_aloadN0 (pc := 76) dX10_ringBy_76 ?_
      refine g_getR (pc := 77) (j := 3) cf10 dX10_ringBy_77 fl_RX10_16 (by decide) (by decide) (by first | rfl | assumption) (82) (rfl) ?_
      refine g_iload1 (pc := 80) dX10_ringBy_80 ?_
      refine g_ialdX (pc := 81) (p) dX10_ringBy_81 (rfl) (rfl) (by have := ln_all; omega) (by decide) ?_
      refine g_icmp_ne (pc := 82) 90 dX10_ringBy_82 (by decide) (fun zh82 => ?_) (fun zh82 => ?_)
      · skip
        refine g_bipush (pc := 90) (-9) dX10_ringBy_90 (by decide) ?_
        refine g_iret (pc := 92) dX10_ringBy_92 rfl ?_
        first | exact ⟨congrArg (fun zt => some (Value.int zt)) (if_pos zh82).symm, rfl, rfl⟩ | exact ⟨congrArg (fun zt => some (Value.int zt)) (if_neg zh82).symm, rfl, rfl⟩
      · skip
        refine g_iload5 (pc := 85) dX10_ringBy_85 ?_
        refine g_goto (pc := 87) 92 dX10_ringBy_87 (by decide) ?_
        refine g_iret (pc := 92) dX10_ringBy_92 rfl ?_
        first | exact ⟨congrArg (fun zt => some (Value.int zt)) (if_pos zh82).symm, rfl, rfl⟩ | exact ⟨congrArg (fun zt => some (Value.int zt)) (if_neg zh82).symm, rfl, rfl⟩
    · skip
      exact absurd (nI_le (by omega) (by omega)) zh20
  | succ m ih =>
    intro i dot s l hi hl
    refine g_iload7 (pc := 17) dX10_ringBy_17 ?_
    refine g_iload3 (pc := 19) dX10_ringBy_19 ?_
    refine g_icmp_ge (pc := 20) 74 dX10_ringBy_20 (by decide) (fun zh20 => ?_) (fun zh20 => ?_)
    · skip
      exact absurd zh20 (nI_ge (by omega) (by omega))
    · skip
      refine g_iload4 (pc := 23) dX10_ringBy_23 ?_
      refine g_iload6 (pc := 25) dX10_ringBy_25 ?_
      refine g_bipush (pc := 27) (8) dX10_ringBy_27 (by decide) ?_
      refine g_irem (pc := 29) dX10_ringBy_29 (by decide) ?_
      rw [show nI l - nI l / 8 * 8 = nI (l % 8) from pk_rem (d := 8) (by omega) (by decide) (by decide)]
      refine g_fS2 (pc := 30) (c_X10_nextDot) dX10_ringBy_30 cw_RX10_119 (by decide) (Nat.le_of_ble_eq_true rfl) ?_
      refine g_istore4 (pc := 33) dX10_ringBy_33 (by decide) (by first | rfl | assumption) ?_
      refine g_iload4 (pc := 35) dX10_ringBy_35 ?_
      refine g_bipush (pc := 37) (-9) dX10_ringBy_37 (by decide) ?_
      refine g_icmp_ne (pc := 39) 45 dX10_ringBy_39 (by decide) (fun zh39 => ?_) (fun zh39 => ?_)
      · skip
        refine g_iload5 (pc := 45) dX10_ringBy_45 ?_
        first | refine g_aload0 (pc := 47) dX10_ringBy_47 ?_ | refine g_aloadN0 (pc := 47) dX10_ringBy_47 ?_
        refine g_iconst (pc := 48) (0) dX10_ringBy_48 (by decide) ?_
        refine g_iload1 (pc := 49) dX10_ringBy_49 ?_
        refine g_iload6 (pc := 50) dX10_ringBy_50 ?_
        refine g_bipush (pc := 52) (8) dX10_ringBy_52 (by decide) ?_
        refine g_irem (pc := 54) dX10_ringBy_54 (by decide) ?_
        rw [show nI l - nI l / 8 * 8 = nI (l % 8) from pk_rem (d := 8) (by omega) (by decide) (by decide)]
        refine g_fV3 (pc := 55) (c_X10_thickOn (l := 0) (by decide) hp4) cf10 (by first | rfl | assumption) dX10_ringBy_55 cw_RX10_122 (by decide) (Nat.le_of_ble_eq_true rfl) ?_
        refine g_iadd (pc := 58) dX10_ringBy_58 ?_
        refine g_istore5 (pc := 59) dX10_ringBy_59 (by decide) (by first | rfl | assumption) ?_
        refine g_iload6 (pc := 61) dX10_ringBy_61 ?_
        refine g_bipush (pc := 63) (8) dX10_ringBy_63 (by decide) ?_
        refine g_idiv (pc := 65) dX10_ringBy_65 (by decide) ?_
        rw [show nI l / 8 = nI (l / 8) from pk_div (d := 8) (by omega) (by decide) (by decide)]
        refine g_istore6 (pc := 66) dX10_ringBy_66 (by decide) (by first | rfl | assumption) ?_
        refine g_iinc7 (pc := 68) (nI (i + 1)) dX10_ringBy_68 (nI_succ' i) (by decide) (by first | rfl | assumption) ?_
        refine g_goto (pc := 71) 17 dX10_ringBy_71 (by decide) ?_
        refine G.mono (ih (i + 1) _ _ (l / 8) (by omega) (by omega)) (fun za zb zc zh => ⟨zh.1.trans ?_, zh.2.1, zh.2.2⟩)
        exact congrArg (fun zt => some (Value.int zt)) (if_neg zh39).symm
      · skip
        refine g_bipush (pc := 42) (-9) dX10_ringBy_42 (by decide) ?_
        refine g_iret (pc := 44) dX10_ringBy_44 rfl ?_
        exact ⟨congrArg (fun zt => some (Value.int zt)) (if_pos zh39).symm, rfl, rfl⟩
theorem c_X10_ringBy {p c l : Nat} {v : Mm} {L : Lm} (hp4 : p < 4) (hc4 : c ≤ 4) (hl : l < 5000) : Fn yX10_ringBy cX10_ringBy 8 (some .int) 2 [.ref 79, .int (nI p), .int (nI l), .int (nI c)] v L (some (.int (rbR v p c (v 82 p) 0 l))) v L := by
  refine Fq.of (plainFor_of_name (by decide)) [some (.ref 79), some (.int (nI p)), some (.int (nI l)), some (.int (nI c)), none, none, none, none] rfl (Nat.le_of_ble_eq_true rfl) ?_
  first | refine g_aload0 (pc := 0) dX10_ringBy_0 ?_ | refine g_aloadN0 (pc := 0) dX10_ringBy_0 ?_
  refine g_getR (pc := 1) (j := 3) cf10 dX10_ringBy_1 fl_RX10_16 (by decide) (by decide) (by first | rfl | assumption) (82) (rfl) ?_
  refine g_iload1 (pc := 4) dX10_ringBy_4 ?_
  refine g_ialdX (pc := 5) (p) dX10_ringBy_5 (rfl) (rfl) (by have := ln_all; omega) (by decide) ?_
  refine g_istore4 (pc := 6) dX10_ringBy_6 (by decide) (by first | rfl | assumption) ?_
  refine g_iconst (pc := 8) (0) dX10_ringBy_8 (by decide) ?_
  refine g_istore5 (pc := 9) dX10_ringBy_9 (by decide) (by first | rfl | assumption) ?_
  refine g_iload2 (pc := 11) dX10_ringBy_11 ?_
  refine g_istore6 (pc := 12) dX10_ringBy_12 (by decide) (by first | rfl | assumption) ?_
  refine g_iconst (pc := 14) (0) dX10_ringBy_14 (by decide) ?_
  refine g_istore7 (pc := 15) dX10_ringBy_15 (by decide) (by first | rfl | assumption) ?_
  exact lp_X10_ringBy hp4 hc4 c 0 _ _ l (by omega) hl
theorem lp_X10_rings {p c : Nat} {x3 : Int32} {v : Mm} {L : Lm} (hp4 : p < 4) (hc4 : c ≤ 4) (hI0 : (fun (_ : Nat) (_ : Int32 × Int32) => True) 0 (0, -9)) : (fun (i : Nat) (w : Int32 × Int32) => ∀ (o8 : Option Value), G RX10 cX10_rings 9 (some .int) 3 (fun a b K => a = some (.int (selA x3 (rnF v p c))) ∧ b = v ∧ K = L) 81 [some (.ref 79), some (.int (nI p)), some (.int (nI c)), some (.int x3), some (.int (nI (8 ^ c))), some (.int w.1), some (.int w.2), some (.int (nI i)), o8] [] v L) 0 ((0 : Int32), (-9 : Int32)) := by
  refine g_for (8 ^ c) (rgS v p c) (fun (_ : Nat) (_ : Int32 × Int32) => True) (fun (i : Nat) (w : Int32 × Int32) => ∀ (o8 : Option Value), G RX10 cX10_rings 9 (some .int) 3 (fun a b K => a = some (.int (selA x3 (rnF v p c))) ∧ b = v ∧ K = L) 81 [some (.ref 79), some (.int (nI p)), some (.int (nI c)), some (.int x3), some (.int (nI (8 ^ c))), some (.int w.1), some (.int w.2), some (.int (nI i)), o8] [] v L) ((0 : Int32), (-9 : Int32)) hI0 ?_ (fun hI => ?_) (fun i w hi hI hn => ?_)
  · exact fun _ _ _ h => h
  · intro o8
    show G _ _ _ _ _ _ _ _ _ _ _
    try dsimp only at hI
    have z8 := p8 c hc4
    refine g_iload7 (pc := 81) dX10_rings_81 ?_
    refine g_iload4 (pc := 83) dX10_rings_83 ?_
    refine g_icmp_ge (pc := 85) 151 dX10_rings_85 (by decide) (fun zh85 => ?_) (fun zh85 => ?_)
    · skip
      refine g_iload3 (pc := 151) dX10_rings_151 ?_
      refine g_if_ne (pc := 152) 160 dX10_rings_152 (by decide) (fun zh152 => ?_) (fun zh152 => ?_)
      · skip
        refine g_iload6 (pc := 160) dX10_rings_160 ?_
        refine g_iret (pc := 162) dX10_rings_162 rfl ?_
        first | exact ⟨congrArg (fun zt => some (Value.int zt)) (if_pos zh152).symm, rfl, rfl⟩ | exact ⟨congrArg (fun zt => some (Value.int zt)) (if_neg zh152).symm, rfl, rfl⟩
      · skip
        refine g_iload5 (pc := 155) dX10_rings_155 ?_
        refine g_goto (pc := 157) 162 dX10_rings_157 (by decide) ?_
        refine g_iret (pc := 162) dX10_rings_162 rfl ?_
        first | exact ⟨congrArg (fun zt => some (Value.int zt)) (if_pos zh152).symm, rfl, rfl⟩ | exact ⟨congrArg (fun zt => some (Value.int zt)) (if_neg zh152).symm, rfl, rfl⟩
    · skip
      exact absurd (Int32.le_refl _) zh85
  · intro o8
    show G _ _ _ _ _ _ _ _ _ _ _
    try dsimp only at hI
    try dsimp only at hn
    have z8 := p8 c hc4
    refine g_iload7 (pc := 81) dX10_rings_81 ?_
    refine g_iload4 (pc := 83) dX10_rings_83 ?_
    refine g_icmp_ge (pc := 85) 151 dX10_rings_85 (by decide) (fun zh85 => ?_) (fun zh85 => ?_)
    · skip
      exact absurd zh85 (nI_ge hi (by omega))
    · skip
      first | refine g_aload0 (pc := 88) dX10_rings_88 ?_ | refine g_aloadN0 (pc := 88) dX10_rings_88 ?_
      refine g_iload1 (pc := 89) dX10_rings_89 ?_
      refine g_iload7 (pc := 90) dX10_rings_90 ?_
      refine g_iload2 (pc := 92) dX10_rings_92 ?_
      refine g_fV3 (pc := 93) (c_X10_ringBy hp4 hc4 (by omega)) cf10 (by first | rfl | assumption) dX10_rings_93 cw_RX10_174 (by decide) (Nat.le_of_ble_eq_true rfl) ?_
      refine g_istore8 (pc := 96) dX10_rings_96 (by decide) (by first | rfl | assumption) ?_
      refine g_iload5 (pc := 98) dX10_rings_98 ?_
      refine g_iload8 (pc := 100) dX10_rings_100 ?_
      refine g_bipush (pc := 102) (-9) dX10_rings_102 (by decide) ?_
      refine g_icmp_ne (pc := 104) 111 dX10_rings_104 (by decide) (fun zh104 => ?_) (fun zh104 => ?_)
      · skip
        refine g_iconst (pc := 111) (1) dX10_rings_111 (by decide) ?_
        refine g_iadd (pc := 112) dX10_rings_112 ?_
        refine g_istore5 (pc := 113) dX10_rings_113 (by decide) (by first | rfl | assumption) ?_
        refine g_iload8 (pc := 115) dX10_rings_115 ?_
        refine g_bipush (pc := 117) (-9) dX10_rings_117 (by decide) ?_
        refine g_icmp_eq (pc := 119) 141 dX10_rings_119 (by decide) (fun zh119 => ?_) (fun zh119 => ?_)
        · skip
          refine g_iload6 (pc := 141) dX10_rings_141 ?_
          refine g_istore6 (pc := 143) dX10_rings_143 (by decide) (by first | rfl | assumption) ?_
          refine g_iinc7 (pc := 145) (nI (i + 1)) dX10_rings_145 (nI_succ' i) (by decide) (by first | rfl | assumption) ?_
          refine g_goto (pc := 148) 81 dX10_rings_148 (by decide) ?_
          exact absurd zh119 zh104
        · skip
          refine g_iload6 (pc := 122) dX10_rings_122 ?_
          refine g_bipush (pc := 124) (-9) dX10_rings_124 (by decide) ?_
          refine g_icmp_eq (pc := 126) 136 dX10_rings_126 (by decide) (fun zh126 => ?_) (fun zh126 => ?_)
          · skip
            refine g_iload8 (pc := 136) dX10_rings_136 ?_
            refine g_goto (pc := 138) 143 dX10_rings_138 (by decide) ?_
            refine g_istore6 (pc := 143) dX10_rings_143 (by decide) (by first | rfl | assumption) ?_
            refine g_iinc7 (pc := 145) (nI (i + 1)) dX10_rings_145 (nI_succ' i) (by decide) (by first | rfl | assumption) ?_
            refine g_goto (pc := 148) 81 dX10_rings_148 (by decide) ?_
            have ee : rgS v p c i w = (w.1 + 1, (rbR v p c (v 82 p) 0 i)) := Prod.ext (congrArg (fun zt => w.1 + zt) (if_neg zh104)) (if_pos ⟨zh104, Or.inl zh126⟩)
            rw [ee] at hn; exact hn _
          · skip
            refine g_iload8 (pc := 129) dX10_rings_129 ?_
            refine g_iload6 (pc := 131) dX10_rings_131 ?_
            refine g_icmp_ge (pc := 133) 141 dX10_rings_133 (by decide) (fun zh133 => ?_) (fun zh133 => ?_)
            · skip
              refine g_iload6 (pc := 141) dX10_rings_141 ?_
              refine g_istore6 (pc := 143) dX10_rings_143 (by decide) (by first | rfl | assumption) ?_
              refine g_iinc7 (pc := 145) (nI (i + 1)) dX10_rings_145 (nI_succ' i) (by decide) (by first | rfl | assumption) ?_
              refine g_goto (pc := 148) 81 dX10_rings_148 (by decide) ?_
              have ee : rgS v p c i w = (w.1 + 1, w.2) := Prod.ext (congrArg (fun zt => w.1 + zt) (if_neg zh104)) (if_neg (fun zq => zq.2.elim zh126 (i32nlt.mpr zh133)))
              rw [ee] at hn; exact hn _
            · skip
              refine g_iload8 (pc := 136) dX10_rings_136 ?_
              refine g_goto (pc := 138) 143 dX10_rings_138 (by decide) ?_
              refine g_istore6 (pc := 143) dX10_rings_143 (by decide) (by first | rfl | assumption) ?_
              refine g_iinc7 (pc := 145) (nI (i + 1)) dX10_rings_145 (nI_succ' i) (by decide) (by first | rfl | assumption) ?_
              refine g_goto (pc := 148) 81 dX10_rings_148 (by decide) ?_
              have ee : rgS v p c i w = (w.1 + 1, (rbR v p c (v 82 p) 0 i)) := Prod.ext (congrArg (fun zt => w.1 + zt) (if_neg zh104)) (if_pos ⟨zh104, Or.inr (i32nle.mp zh133)⟩)
              rw [ee] at hn; exact hn _
      · skip
        refine g_iconst (pc := 107) (0) dX10_rings_107 (by decide) ?_
        refine g_goto (pc := 108) 112 dX10_rings_108 (by decide) ?_
        refine g_iadd (pc := 112) dX10_rings_112 ?_
        refine g_istore5 (pc := 113) dX10_rings_113 (by decide) (by first | rfl | assumption) ?_
        refine g_iload8 (pc := 115) dX10_rings_115 ?_
        refine g_bipush (pc := 117) (-9) dX10_rings_117 (by decide) ?_
        refine g_icmp_eq (pc := 119) 141 dX10_rings_119 (by decide) (fun zh119 => ?_) (fun zh119 => ?_)
        · skip
          refine g_iload6 (pc := 141) dX10_rings_141 ?_
          refine g_istore6 (pc := 143) dX10_rings_143 (by decide) (by first | rfl | assumption) ?_
          refine g_iinc7 (pc := 145) (nI (i + 1)) dX10_rings_145 (nI_succ' i) (by decide) (by first | rfl | assumption) ?_
          refine g_goto (pc := 148) 81 dX10_rings_148 (by decide) ?_
          have ee : rgS v p c i w = (w.1 + 0, w.2) := Prod.ext (congrArg (fun zt => w.1 + zt) (if_pos zh104)) (if_neg (fun zq => zq.1 zh104))
          rw [ee] at hn; exact hn _
        · skip
          refine g_iload6 (pc := 122) dX10_rings_122 ?_
          refine g_bipush (pc := 124) (-9) dX10_rings_124 (by decide) ?_
          refine g_icmp_eq (pc := 126) 136 dX10_rings_126 (by decide) (fun zh126 => ?_) (fun zh126 => ?_)
          · skip
            refine g_iload8 (pc := 136) dX10_rings_136 ?_
            refine g_goto (pc := 138) 143 dX10_rings_138 (by decide) ?_
            refine g_istore6 (pc := 143) dX10_rings_143 (by decide) (by first | rfl | assumption) ?_
            refine g_iinc7 (pc := 145) (nI (i + 1)) dX10_rings_145 (nI_succ' i) (by decide) (by first | rfl | assumption) ?_
            refine g_goto (pc := 148) 81 dX10_rings_148 (by decide) ?_
            exact absurd zh104 zh119
          · skip
            refine g_iload8 (pc := 129) dX10_rings_129 ?_
            refine g_iload6 (pc := 131) dX10_rings_131 ?_
            refine g_icmp_ge (pc := 133) 141 dX10_rings_133 (by decide) (fun zh133 => ?_) (fun zh133 => ?_)
            · skip
              refine g_iload6 (pc := 141) dX10_rings_141 ?_
              refine g_istore6 (pc := 143) dX10_rings_143 (by decide) (by first | rfl | assumption) ?_
              refine g_iinc7 (pc := 145) (nI (i + 1)) dX10_rings_145 (nI_succ' i) (by decide) (by first | rfl | assumption) ?_
              refine g_goto (pc := 148) 81 dX10_rings_148 (by decide) ?_
              exact absurd zh104 zh119
            · skip
              refine g_iload8 (pc := 136) dX10_rings_136 ?_
              refine g_goto (pc := 138) 143 dX10_rings_138 (by decide) ?_
              refine g_istore6 (pc := 143) dX10_rings_143 (by decide) (by first | rfl | assumption) ?_
              refine g_iinc7 (pc := 145) (nI (i + 1)) dX10_rings_145 (nI_succ' i) (by decide) (by first | rfl | assumption) ?_
              refine g_goto (pc := 148) 81 dX10_rings_148 (by decide) ?_
              exact absurd zh104 zh119
theorem c_X10_rings_u {n : Nat} {x y z : Int32} {v : Mm} {L : Lm} (hn : v 79 0 = nI n) (hn4 : n ≤ 4) (hx : ¬ (0 ≤ x ∧ x < nI n)) : Fn yX10_rings cX10_rings 9 (some .int) 3 [.ref 79, .int x, .int y, .int z] v L (some (.int (-1))) v L := by
  refine Fq.of (plainFor_of_name (by decide)) [some (.ref 79), some (.int x), some (.int y), some (.int z), none, none, none, none, none] rfl (Nat.le_of_ble_eq_true rfl) ?_
  first | refine g_aload0 (pc := 0) dX10_rings_0 ?_ | refine g_aloadN0 (pc := 0) dX10_rings_0 ?_
  refine g_iload1 (pc := 1) dX10_rings_1 ?_
  refine g_fV1 (pc := 2) (c_X10_isPen hn hn4) cf10 (by first | rfl | assumption) dX10_rings_2 cw_RX10_115 (by decide) (Nat.le_of_ble_eq_true rfl) ?_
  refine g_if_ne (pc := 5) 10 dX10_rings_5 (by decide) (fun zh5 => ?_) (fun zh5 => ?_)
  · skip
    exact absurd (b01_ne0.mp zh5) hx
  · skip
    refine g_iconst (pc := 8) (-1) dX10_rings_8 (by decide) ?_
    refine g_iret (pc := 9) dX10_rings_9 rfl ?_
    exact ⟨rfl, rfl, rfl⟩
theorem c_X10_rings_o {n p : Nat} {y z : Int32} {v : Mm} {L : Lm} (hn : v 79 0 = nI n) (hn4 : n ≤ 4) (hp : p < n) (hy : ¬ ((1 ≤ y ∧ y ≤ 4) ∧ (0 ≤ z ∧ z ≤ 1))) : Fn yX10_rings cX10_rings 9 (some .int) 3 [.ref 79, .int (nI p), .int y, .int z] v L (some (.int (-2))) v L := by
  have zi : ∀ zx : Int32, ((1 : Int64) ≤ zx.toInt64 ∧ zx.toInt64 ≤ 4) ↔ (1 ≤ zx ∧ zx ≤ 4) := fun zx => inI (y := zx) (by decide) (by decide)
  have zi1 : ∀ zx : Int32, ((0 : Int64) ≤ zx.toInt64 ∧ zx.toInt64 ≤ 1) ↔ (0 ≤ zx ∧ zx ≤ 1) := fun zx => inI (y := zx) (by decide) (by decide)
  refine Fq.of (plainFor_of_name (by decide)) [some (.ref 79), some (.int (nI p)), some (.int y), some (.int z), none, none, none, none, none] rfl (Nat.le_of_ble_eq_true rfl) ?_
  first | refine g_aload0 (pc := 0) dX10_rings_0 ?_ | refine g_aloadN0 (pc := 0) dX10_rings_0 ?_
  refine g_iload1 (pc := 1) dX10_rings_1 ?_
  refine g_fV1 (pc := 2) (c_X10_isPen hn hn4) cf10 (by first | rfl | assumption) dX10_rings_2 cw_RX10_115 (by decide) (Nat.le_of_ble_eq_true rfl) ?_
  refine g_if_ne (pc := 5) 10 dX10_rings_5 (by decide) (fun zh5 => ?_) (fun zh5 => ?_)
  · skip
    refine g_iload2 (pc := 10) dX10_rings_10 ?_
    refine g_i2l (pc := 11) dX10_rings_11 ?_
    refine g_lconst (pc := 12) (1) dX10_rings_12 (by decide) ?_
    refine g_ldc2 (pc := 13) _ dX10_rings_13 kc_RX10_110 ?_
    refine g_fS3 (pc := 16) (c_X10_in) dX10_rings_16 cw_RX10_52 (by decide) (Nat.le_of_ble_eq_true rfl) ?_
    refine g_if_eq (pc := 19) 32 dX10_rings_19 (by decide) (fun zh19 => ?_) (fun zh19 => ?_)
    · skip
      refine g_bipush (pc := 32) (-2) dX10_rings_32 (by decide) ?_
      refine g_iret (pc := 34) dX10_rings_34 rfl ?_
      exact ⟨rfl, rfl, rfl⟩
    · skip
      refine g_iload3 (pc := 22) dX10_rings_22 ?_
      refine g_i2l (pc := 23) dX10_rings_23 ?_
      refine g_lconst (pc := 24) (0) dX10_rings_24 (by decide) ?_
      refine g_lconst (pc := 25) (1) dX10_rings_25 (by decide) ?_
      refine g_fS3 (pc := 26) (c_X10_in) dX10_rings_26 cw_RX10_52 (by decide) (Nat.le_of_ble_eq_true rfl) ?_
      refine g_if_ne (pc := 29) 35 dX10_rings_29 (by decide) (fun zh29 => ?_) (fun zh29 => ?_)
      · skip
        exact absurd ⟨(zi _).mp (b01_ne0.mp zh19), (zi1 _).mp (b01_ne0.mp zh29)⟩ hy
      · skip
        refine g_bipush (pc := 32) (-2) dX10_rings_32 (by decide) ?_
        refine g_iret (pc := 34) dX10_rings_34 rfl ?_
        exact ⟨rfl, rfl, rfl⟩
  · skip
    exact absurd ⟨nI_pos' (by omega), nI_lt hp (by omega)⟩ (b01_eq0.mp zh5)
theorem c_X10_rings_s {n p c : Nat} {z : Int32} {v : Mm} {L : Lm} (hn : v 79 0 = nI n) (hn4 : n ≤ 4) (hp : p < n) (hc1 : 1 ≤ c) (hc4 : c ≤ 4) (hz : 0 ≤ z ∧ z ≤ 1) : Fn yX10_rings cX10_rings 9 (some .int) 3 [.ref 79, .int (nI p), .int (nI c), .int z] v L (some (.int (selA z (rnF v p c)))) v L := by
  have zi : ∀ zx : Int32, ((1 : Int64) ≤ zx.toInt64 ∧ zx.toInt64 ≤ 4) ↔ (1 ≤ zx ∧ zx ≤ 4) := fun zx => inI (y := zx) (by decide) (by decide)
  have zi1 : ∀ zx : Int32, ((0 : Int64) ≤ zx.toInt64 ∧ zx.toInt64 ≤ 1) ↔ (0 ≤ zx ∧ zx ≤ 1) := fun zx => inI (y := zx) (by decide) (by decide)
  refine Fq.of (plainFor_of_name (by decide)) [some (.ref 79), some (.int (nI p)), some (.int (nI c)), some (.int z), none, none, none, none, none] rfl (Nat.le_of_ble_eq_true rfl) ?_
  first | refine g_aload0 (pc := 0) dX10_rings_0 ?_ | refine g_aloadN0 (pc := 0) dX10_rings_0 ?_
  refine g_iload1 (pc := 1) dX10_rings_1 ?_
  refine g_fV1 (pc := 2) (c_X10_isPen hn hn4) cf10 (by first | rfl | assumption) dX10_rings_2 cw_RX10_115 (by decide) (Nat.le_of_ble_eq_true rfl) ?_
  refine g_if_ne (pc := 5) 10 dX10_rings_5 (by decide) (fun zh5 => ?_) (fun zh5 => ?_)
  · skip
    refine g_iload2 (pc := 10) dX10_rings_10 ?_
    refine g_i2l (pc := 11) dX10_rings_11 ?_
    refine g_lconst (pc := 12) (1) dX10_rings_12 (by decide) ?_
    refine g_ldc2 (pc := 13) _ dX10_rings_13 kc_RX10_110 ?_
    refine g_fS3 (pc := 16) (c_X10_in) dX10_rings_16 cw_RX10_52 (by decide) (Nat.le_of_ble_eq_true rfl) ?_
    refine g_if_eq (pc := 19) 32 dX10_rings_19 (by decide) (fun zh19 => ?_) (fun zh19 => ?_)
    · skip
      exact absurd ((zi _).mpr ⟨nI_le (a := 1) hc1 (by omega), nI_le (b := 4) hc4 (by decide)⟩) (b01_eq0.mp zh19)
    · skip
      refine g_iload3 (pc := 22) dX10_rings_22 ?_
      refine g_i2l (pc := 23) dX10_rings_23 ?_
      refine g_lconst (pc := 24) (0) dX10_rings_24 (by decide) ?_
      refine g_lconst (pc := 25) (1) dX10_rings_25 (by decide) ?_
      refine g_fS3 (pc := 26) (c_X10_in) dX10_rings_26 cw_RX10_52 (by decide) (Nat.le_of_ble_eq_true rfl) ?_
      refine g_if_ne (pc := 29) 35 dX10_rings_29 (by decide) (fun zh29 => ?_) (fun zh29 => ?_)
      · skip
        rcases (show c = 1 ∨ c = 2 ∨ c = 3 ∨ c = 4 by omega) with rfl | rfl | rfl | rfl
        · skip
          refine g_iload2 (pc := 35) dX10_rings_35 ?_
          refine g_iconst (pc := 36) (1) dX10_rings_36 (by decide) ?_
          refine g_icmp_ne (pc := 37) 45 dX10_rings_37 (by decide) (fun zh37 => ?_) (fun zh37 => ?_)
          · skip
            refine g_iload2 (pc := 45) dX10_rings_45 ?_
            refine g_iconst (pc := 46) (2) dX10_rings_46 (by decide) ?_
            refine g_icmp_ne (pc := 47) 55 dX10_rings_47 (by decide) (fun zh47 => ?_) (fun zh47 => ?_)
            · skip
              refine g_iload2 (pc := 55) dX10_rings_55 ?_
              refine g_iconst (pc := 56) (3) dX10_rings_56 (by decide) ?_
              refine g_icmp_ne (pc := 57) 66 dX10_rings_57 (by decide) (fun zh57 => ?_) (fun zh57 => ?_)
              · skip
                refine g_sipush (pc := 66) (4096) dX10_rings_66 (by decide) ?_
                refine g_istore4 (pc := 69) dX10_rings_69 (by decide) (by first | rfl | assumption) ?_
                refine g_iconst (pc := 71) (0) dX10_rings_71 (by decide) ?_
                refine g_istore5 (pc := 72) dX10_rings_72 (by decide) (by first | rfl | assumption) ?_
                refine g_bipush (pc := 74) (-9) dX10_rings_74 (by decide) ?_
                refine g_istore6 (pc := 76) dX10_rings_76 (by decide) (by first | rfl | assumption) ?_
                refine g_iconst (pc := 78) (0) dX10_rings_78 (by decide) ?_
                refine g_istore7 (pc := 79) dX10_rings_79 (by decide) (by first | rfl | assumption) ?_
                first | exact lp_X10_rings (by omega) (by decide) trivial none | exact absurd zh37 (by decide) | exact absurd zh47 (by decide) | exact absurd zh57 (by decide)
              · skip
                refine g_sipush (pc := 60) (512) dX10_rings_60 (by decide) ?_
                refine g_goto (pc := 63) 69 dX10_rings_63 (by decide) ?_
                refine g_istore4 (pc := 69) dX10_rings_69 (by decide) (by first | rfl | assumption) ?_
                refine g_iconst (pc := 71) (0) dX10_rings_71 (by decide) ?_
                refine g_istore5 (pc := 72) dX10_rings_72 (by decide) (by first | rfl | assumption) ?_
                refine g_bipush (pc := 74) (-9) dX10_rings_74 (by decide) ?_
                refine g_istore6 (pc := 76) dX10_rings_76 (by decide) (by first | rfl | assumption) ?_
                refine g_iconst (pc := 78) (0) dX10_rings_78 (by decide) ?_
                refine g_istore7 (pc := 79) dX10_rings_79 (by decide) (by first | rfl | assumption) ?_
                first | exact lp_X10_rings (by omega) (by decide) trivial none | exact absurd zh37 (by decide) | exact absurd zh47 (by decide) | exact absurd zh57 (by decide)
            · skip
              refine g_bipush (pc := 50) (64) dX10_rings_50 (by decide) ?_
              refine g_goto (pc := 52) 69 dX10_rings_52 (by decide) ?_
              refine g_istore4 (pc := 69) dX10_rings_69 (by decide) (by first | rfl | assumption) ?_
              refine g_iconst (pc := 71) (0) dX10_rings_71 (by decide) ?_
              refine g_istore5 (pc := 72) dX10_rings_72 (by decide) (by first | rfl | assumption) ?_
              refine g_bipush (pc := 74) (-9) dX10_rings_74 (by decide) ?_
              refine g_istore6 (pc := 76) dX10_rings_76 (by decide) (by first | rfl | assumption) ?_
              refine g_iconst (pc := 78) (0) dX10_rings_78 (by decide) ?_
              refine g_istore7 (pc := 79) dX10_rings_79 (by decide) (by first | rfl | assumption) ?_
              first | exact lp_X10_rings (by omega) (by decide) trivial none | exact absurd zh37 (by decide) | exact absurd zh47 (by decide) | exact absurd zh57 (by decide)
          · skip
            refine g_bipush (pc := 40) (8) dX10_rings_40 (by decide) ?_
            refine g_goto (pc := 42) 69 dX10_rings_42 (by decide) ?_
            refine g_istore4 (pc := 69) dX10_rings_69 (by decide) (by first | rfl | assumption) ?_
            refine g_iconst (pc := 71) (0) dX10_rings_71 (by decide) ?_
            refine g_istore5 (pc := 72) dX10_rings_72 (by decide) (by first | rfl | assumption) ?_
            refine g_bipush (pc := 74) (-9) dX10_rings_74 (by decide) ?_
            refine g_istore6 (pc := 76) dX10_rings_76 (by decide) (by first | rfl | assumption) ?_
            refine g_iconst (pc := 78) (0) dX10_rings_78 (by decide) ?_
            refine g_istore7 (pc := 79) dX10_rings_79 (by decide) (by first | rfl | assumption) ?_
            first | exact lp_X10_rings (by omega) (by decide) trivial none | exact absurd zh37 (by decide) | exact absurd zh47 (by decide) | exact absurd zh57 (by decide)
        · skip
          refine g_iload2 (pc := 35) dX10_rings_35 ?_
          refine g_iconst (pc := 36) (1) dX10_rings_36 (by decide) ?_
          refine g_icmp_ne (pc := 37) 45 dX10_rings_37 (by decide) (fun zh37 => ?_) (fun zh37 => ?_)
          · skip
            refine g_iload2 (pc := 45) dX10_rings_45 ?_
            refine g_iconst (pc := 46) (2) dX10_rings_46 (by decide) ?_
            refine g_icmp_ne (pc := 47) 55 dX10_rings_47 (by decide) (fun zh47 => ?_) (fun zh47 => ?_)
            · skip
              refine g_iload2 (pc := 55) dX10_rings_55 ?_
              refine g_iconst (pc := 56) (3) dX10_rings_56 (by decide) ?_
              refine g_icmp_ne (pc := 57) 66 dX10_rings_57 (by decide) (fun zh57 => ?_) (fun zh57 => ?_)
              · skip
                refine g_sipush (pc := 66) (4096) dX10_rings_66 (by decide) ?_
                refine g_istore4 (pc := 69) dX10_rings_69 (by decide) (by first | rfl | assumption) ?_
                refine g_iconst (pc := 71) (0) dX10_rings_71 (by decide) ?_
                refine g_istore5 (pc := 72) dX10_rings_72 (by decide) (by first | rfl | assumption) ?_
                refine g_bipush (pc := 74) (-9) dX10_rings_74 (by decide) ?_
                refine g_istore6 (pc := 76) dX10_rings_76 (by decide) (by first | rfl | assumption) ?_
                refine g_iconst (pc := 78) (0) dX10_rings_78 (by decide) ?_
                refine g_istore7 (pc := 79) dX10_rings_79 (by decide) (by first | rfl | assumption) ?_
                first | exact lp_X10_rings (by omega) (by decide) trivial none | exact absurd zh37 (by decide) | exact absurd zh47 (by decide) | exact absurd zh57 (by decide)
              · skip
                refine g_sipush (pc := 60) (512) dX10_rings_60 (by decide) ?_
                refine g_goto (pc := 63) 69 dX10_rings_63 (by decide) ?_
                refine g_istore4 (pc := 69) dX10_rings_69 (by decide) (by first | rfl | assumption) ?_
                refine g_iconst (pc := 71) (0) dX10_rings_71 (by decide) ?_
                refine g_istore5 (pc := 72) dX10_rings_72 (by decide) (by first | rfl | assumption) ?_
                refine g_bipush (pc := 74) (-9) dX10_rings_74 (by decide) ?_
                refine g_istore6 (pc := 76) dX10_rings_76 (by decide) (by first | rfl | assumption) ?_
                refine g_iconst (pc := 78) (0) dX10_rings_78 (by decide) ?_
                refine g_istore7 (pc := 79) dX10_rings_79 (by decide) (by first | rfl | assumption) ?_
                first | exact lp_X10_rings (by omega) (by decide) trivial none | exact absurd zh37 (by decide) | exact absurd zh47 (by decide) | exact absurd zh57 (by decide)
            · skip
              refine g_bipush (pc := 50) (64) dX10_rings_50 (by decide) ?_
              refine g_goto (pc := 52) 69 dX10_rings_52 (by decide) ?_
              refine g_istore4 (pc := 69) dX10_rings_69 (by decide) (by first | rfl | assumption) ?_
              refine g_iconst (pc := 71) (0) dX10_rings_71 (by decide) ?_
              refine g_istore5 (pc := 72) dX10_rings_72 (by decide) (by first | rfl | assumption) ?_
              refine g_bipush (pc := 74) (-9) dX10_rings_74 (by decide) ?_
              refine g_istore6 (pc := 76) dX10_rings_76 (by decide) (by first | rfl | assumption) ?_
              refine g_iconst (pc := 78) (0) dX10_rings_78 (by decide) ?_
              refine g_istore7 (pc := 79) dX10_rings_79 (by decide) (by first | rfl | assumption) ?_
              first | exact lp_X10_rings (by omega) (by decide) trivial none | exact absurd zh37 (by decide) | exact absurd zh47 (by decide) | exact absurd zh57 (by decide)
          · skip
            refine g_bipush (pc := 40) (8) dX10_rings_40 (by decide) ?_
            refine g_goto (pc := 42) 69 dX10_rings_42 (by decide) ?_
            refine g_istore4 (pc := 69) dX10_rings_69 (by decide) (by first | rfl | assumption) ?_
            refine g_iconst (pc := 71) (0) dX10_rings_71 (by decide) ?_
            refine g_istore5 (pc := 72) dX10_rings_72 (by decide) (by first | rfl | assumption) ?_
            refine g_bipush (pc := 74) (-9) dX10_rings_74 (by decide) ?_
            refine g_istore6 (pc := 76) dX10_rings_76 (by decide) (by first | rfl | assumption) ?_
            refine g_iconst (pc := 78) (0) dX10_rings_78 (by decide) ?_
            refine g_istore7 (pc := 79) dX10_rings_79 (by decide) (by first | rfl | assumption) ?_
            first | exact lp_X10_rings (by omega) (by decide) trivial none | exact absurd zh37 (by decide) | exact absurd zh47 (by decide) | exact absurd zh57 (by decide)
        · skip
          refine g_iload2 (pc := 35) dX10_rings_35 ?_
          refine g_iconst (pc := 36) (1) dX10_rings_36 (by decide) ?_
          refine g_icmp_ne (pc := 37) 45 dX10_rings_37 (by decide) (fun zh37 => ?_) (fun zh37 => ?_)
          · skip
            refine g_iload2 (pc := 45) dX10_rings_45 ?_
            refine g_iconst (pc := 46) (2) dX10_rings_46 (by decide) ?_
            refine g_icmp_ne (pc := 47) 55 dX10_rings_47 (by decide) (fun zh47 => ?_) (fun zh47 => ?_)
            · skip
              refine g_iload2 (pc := 55) dX10_rings_55 ?_
              refine g_iconst (pc := 56) (3) dX10_rings_56 (by decide) ?_
              refine g_icmp_ne (pc := 57) 66 dX10_rings_57 (by decide) (fun zh57 => ?_) (fun zh57 => ?_)
              · skip
                refine g_sipush (pc := 66) (4096) dX10_rings_66 (by decide) ?_
                refine g_istore4 (pc := 69) dX10_rings_69 (by decide) (by first | rfl | assumption) ?_
                refine g_iconst (pc := 71) (0) dX10_rings_71 (by decide) ?_
                refine g_istore5 (pc := 72) dX10_rings_72 (by decide) (by first | rfl | assumption) ?_
                refine g_bipush (pc := 74) (-9) dX10_rings_74 (by decide) ?_
                refine g_istore6 (pc := 76) dX10_rings_76 (by decide) (by first | rfl | assumption) ?_
                refine g_iconst (pc := 78) (0) dX10_rings_78 (by decide) ?_
                refine g_istore7 (pc := 79) dX10_rings_79 (by decide) (by first | rfl | assumption) ?_
                first | exact lp_X10_rings (by omega) (by decide) trivial none | exact absurd zh37 (by decide) | exact absurd zh47 (by decide) | exact absurd zh57 (by decide)
              · skip
                refine g_sipush (pc := 60) (512) dX10_rings_60 (by decide) ?_
                refine g_goto (pc := 63) 69 dX10_rings_63 (by decide) ?_
                refine g_istore4 (pc := 69) dX10_rings_69 (by decide) (by first | rfl | assumption) ?_
                refine g_iconst (pc := 71) (0) dX10_rings_71 (by decide) ?_
                refine g_istore5 (pc := 72) dX10_rings_72 (by decide) (by first | rfl | assumption) ?_
                refine g_bipush (pc := 74) (-9) dX10_rings_74 (by decide) ?_
                refine g_istore6 (pc := 76) dX10_rings_76 (by decide) (by first | rfl | assumption) ?_
                refine g_iconst (pc := 78) (0) dX10_rings_78 (by decide) ?_
                refine g_istore7 (pc := 79) dX10_rings_79 (by decide) (by first | rfl | assumption) ?_
                first | exact lp_X10_rings (by omega) (by decide) trivial none | exact absurd zh37 (by decide) | exact absurd zh47 (by decide) | exact absurd zh57 (by decide)
            · skip
              refine g_bipush (pc := 50) (64) dX10_rings_50 (by decide) ?_
              refine g_goto (pc := 52) 69 dX10_rings_52 (by decide) ?_
              refine g_istore4 (pc := 69) dX10_rings_69 (by decide) (by first | rfl | assumption) ?_
              refine g_iconst (pc := 71) (0) dX10_rings_71 (by decide) ?_
              refine g_istore5 (pc := 72) dX10_rings_72 (by decide) (by first | rfl | assumption) ?_
              refine g_bipush (pc := 74) (-9) dX10_rings_74 (by decide) ?_
              refine g_istore6 (pc := 76) dX10_rings_76 (by decide) (by first | rfl | assumption) ?_
              refine g_iconst (pc := 78) (0) dX10_rings_78 (by decide) ?_
              refine g_istore7 (pc := 79) dX10_rings_79 (by decide) (by first | rfl | assumption) ?_
              first | exact lp_X10_rings (by omega) (by decide) trivial none | exact absurd zh37 (by decide) | exact absurd zh47 (by decide) | exact absurd zh57 (by decide)
          · skip
            refine g_bipush (pc := 40) (8) dX10_rings_40 (by decide) ?_
            refine g_goto (pc := 42) 69 dX10_rings_42 (by decide) ?_
            refine g_istore4 (pc := 69) dX10_rings_69 (by decide) (by first | rfl | assumption) ?_
            refine g_iconst (pc := 71) (0) dX10_rings_71 (by decide) ?_
            refine g_istore5 (pc := 72) dX10_rings_72 (by decide) (by first | rfl | assumption) ?_
            refine g_bipush (pc := 74) (-9) dX10_rings_74 (by decide) ?_
            refine g_istore6 (pc := 76) dX10_rings_76 (by decide) (by first | rfl | assumption) ?_
            refine g_iconst (pc := 78) (0) dX10_rings_78 (by decide) ?_
            refine g_istore7 (pc := 79) dX10_rings_79 (by decide) (by first | rfl | assumption) ?_
            first | exact lp_X10_rings (by omega) (by decide) trivial none | exact absurd zh37 (by decide) | exact absurd zh47 (by decide) | exact absurd zh57 (by decide)
        · skip
          refine g_iload2 (pc := 35) dX10_rings_35 ?_
          refine g_iconst (pc := 36) (1) dX10_rings_36 (by decide) ?_
          refine g_icmp_ne (pc := 37) 45 dX10_rings_37 (by decide) (fun zh37 => ?_) (fun zh37 => ?_)
          · skip
            refine g_iload2 (pc := 45) dX10_rings_45 ?_
            refine g_iconst (pc := 46) (2) dX10_rings_46 (by decide) ?_
            refine g_icmp_ne (pc := 47) 55 dX10_rings_47 (by decide) (fun zh47 => ?_) (fun zh47 => ?_)
            · skip
              refine g_iload2 (pc := 55) dX10_rings_55 ?_
              refine g_iconst (pc := 56) (3) dX10_rings_56 (by decide) ?_
              refine g_icmp_ne (pc := 57) 66 dX10_rings_57 (by decide) (fun zh57 => ?_) (fun zh57 => ?_)
              · skip
                refine g_sipush (pc := 66) (4096) dX10_rings_66 (by decide) ?_
                refine g_istore4 (pc := 69) dX10_rings_69 (by decide) (by first | rfl | assumption) ?_
                refine g_iconst (pc := 71) (0) dX10_rings_71 (by decide) ?_
                refine g_istore5 (pc := 72) dX10_rings_72 (by decide) (by first | rfl | assumption) ?_
                refine g_bipush (pc := 74) (-9) dX10_rings_74 (by decide) ?_
                refine g_istore6 (pc := 76) dX10_rings_76 (by decide) (by first | rfl | assumption) ?_
                refine g_iconst (pc := 78) (0) dX10_rings_78 (by decide) ?_
                refine g_istore7 (pc := 79) dX10_rings_79 (by decide) (by first | rfl | assumption) ?_
                first | exact lp_X10_rings (by omega) (by decide) trivial none | exact absurd zh37 (by decide) | exact absurd zh47 (by decide) | exact absurd zh57 (by decide)
              · skip
                refine g_sipush (pc := 60) (512) dX10_rings_60 (by decide) ?_
                refine g_goto (pc := 63) 69 dX10_rings_63 (by decide) ?_
                refine g_istore4 (pc := 69) dX10_rings_69 (by decide) (by first | rfl | assumption) ?_
                refine g_iconst (pc := 71) (0) dX10_rings_71 (by decide) ?_
                refine g_istore5 (pc := 72) dX10_rings_72 (by decide) (by first | rfl | assumption) ?_
                refine g_bipush (pc := 74) (-9) dX10_rings_74 (by decide) ?_
                refine g_istore6 (pc := 76) dX10_rings_76 (by decide) (by first | rfl | assumption) ?_
                refine g_iconst (pc := 78) (0) dX10_rings_78 (by decide) ?_
                refine g_istore7 (pc := 79) dX10_rings_79 (by decide) (by first | rfl | assumption) ?_
                first | exact lp_X10_rings (by omega) (by decide) trivial none | exact absurd zh37 (by decide) | exact absurd zh47 (by decide) | exact absurd zh57 (by decide)
            · skip
              refine g_bipush (pc := 50) (64) dX10_rings_50 (by decide) ?_
              refine g_goto (pc := 52) 69 dX10_rings_52 (by decide) ?_
              refine g_istore4 (pc := 69) dX10_rings_69 (by decide) (by first | rfl | assumption) ?_
              refine g_iconst (pc := 71) (0) dX10_rings_71 (by decide) ?_
              refine g_istore5 (pc := 72) dX10_rings_72 (by decide) (by first | rfl | assumption) ?_
              refine g_bipush (pc := 74) (-9) dX10_rings_74 (by decide) ?_
              refine g_istore6 (pc := 76) dX10_rings_76 (by decide) (by first | rfl | assumption) ?_
              refine g_iconst (pc := 78) (0) dX10_rings_78 (by decide) ?_
              refine g_istore7 (pc := 79) dX10_rings_79 (by decide) (by first | rfl | assumption) ?_
              first | exact lp_X10_rings (by omega) (by decide) trivial none | exact absurd zh37 (by decide) | exact absurd zh47 (by decide) | exact absurd zh57 (by decide)
          · skip
            refine g_bipush (pc := 40) (8) dX10_rings_40 (by decide) ?_
            refine g_goto (pc := 42) 69 dX10_rings_42 (by decide) ?_
            refine g_istore4 (pc := 69) dX10_rings_69 (by decide) (by first | rfl | assumption) ?_
            refine g_iconst (pc := 71) (0) dX10_rings_71 (by decide) ?_
            refine g_istore5 (pc := 72) dX10_rings_72 (by decide) (by first | rfl | assumption) ?_
            refine g_bipush (pc := 74) (-9) dX10_rings_74 (by decide) ?_
            refine g_istore6 (pc := 76) dX10_rings_76 (by decide) (by first | rfl | assumption) ?_
            refine g_iconst (pc := 78) (0) dX10_rings_78 (by decide) ?_
            refine g_istore7 (pc := 79) dX10_rings_79 (by decide) (by first | rfl | assumption) ?_
            first | exact lp_X10_rings (by omega) (by decide) trivial none | exact absurd zh37 (by decide) | exact absurd zh47 (by decide) | exact absurd zh57 (by decide)
      · skip
        exact absurd ((zi1 _).mpr hz) (b01_eq0.mp zh29)
  · skip
    exact absurd ⟨nI_pos' (by omega), nI_lt hp (by omega)⟩ (b01_eq0.mp zh5)
theorem lp_X10_nibs_b {c : Nat} {l1 l2 l3 l4 : Option Value} {a b : Int32} {s0 : Int32} {v : Mm} {L : Lm} {Q : Qt} (hc : v 79 19 = nI c) (hc6 : c ≤ 6) (hI0 : (fun (_ : Nat) (_ : Int32) => True) 0 s0) (hk : G RX10 cX10_nibs 9 (some .int) 1 Q 133 [some (.ref 79), l1, l2, l3, l4, some (.int a), some (.int b), some (.int (itr (nfS v a b) c s0)), some (.int (nI c))] [] v L) : (fun (i : Nat) (w : Int32) =>  G RX10 cX10_nibs 9 (some .int) 1 Q 66 [some (.ref 79), l1, l2, l3, l4, some (.int a), some (.int b), some (.int w), some (.int (nI i))] [] v L) 0 s0 := by
  refine g_for c (nfS v a b) (fun (_ : Nat) (_ : Int32) => True) (fun (i : Nat) (w : Int32) =>  G RX10 cX10_nibs 9 (some .int) 1 Q 66 [some (.ref 79), l1, l2, l3, l4, some (.int a), some (.int b), some (.int w), some (.int (nI i))] [] v L) s0 hI0 ?_ (fun hI => ?_) (fun i w hi hI hn => ?_)
  · exact fun _ _ _ h => h
  · show G _ _ _ _ _ _ _ _ _ _ _
    try dsimp only at hI
    refine g_iload8 (pc := 66) dX10_nibs_66 ?_
    first | refine g_aload0 (pc := 68) dX10_nibs_68 ?_ | refine g_aloadN0 (pc := 68) dX10_nibs_68 ?_
    refine g_getI (pc := 69) (j := 19) cf10 dX10_nibs_69 fl_RX10_190 (by decide) (by decide) (by first | rfl | assumption) ?_
    rw [hc]
    refine g_icmp_ge (pc := 72) 133 dX10_nibs_72 (by decide) (fun zh72 => ?_) (fun zh72 => ?_)
    · skip
      exact hk
    · skip
      exact absurd (Int32.le_refl _) zh72
  · show G _ _ _ _ _ _ _ _ _ _ _
    try dsimp only at hI
    try dsimp only at hn
    refine g_iload8 (pc := 66) dX10_nibs_66 ?_
    first | refine g_aload0 (pc := 68) dX10_nibs_68 ?_ | refine g_aloadN0 (pc := 68) dX10_nibs_68 ?_
    refine g_getI (pc := 69) (j := 19) cf10 dX10_nibs_69 fl_RX10_190 (by decide) (by decide) (by first | rfl | assumption) ?_
    rw [hc]
    refine g_icmp_ge (pc := 72) 133 dX10_nibs_72 (by decide) (fun zh72 => ?_) (fun zh72 => ?_)
    · skip
      exact absurd zh72 (nI_ge hi (by omega))
    · skip
      refine g_iload7 (pc := 75) dX10_nibs_75 ?_
      refine g_if_eq (pc := 77) 124 dX10_nibs_77 (by decide) (fun zh77 => ?_) (fun zh77 => ?_)
      · skip
        refine g_iconst (pc := 124) (0) dX10_nibs_124 (by decide) ?_
        refine g_istore7 (pc := 125) dX10_nibs_125 (by decide) (by first | rfl | assumption) ?_
        refine g_iinc8 (pc := 127) (nI (i + 1)) dX10_nibs_127 (nI_succ' i) (by decide) (by first | rfl | assumption) ?_
        refine g_goto (pc := 130) 66 dX10_nibs_130 (by decide) ?_
        first
          | (have ee : nfS v a b i w = 0 := if_pos zh77
             rw [ee] at hn; exact hn)
          | (have ee : nfS v a b i w = 1 := (if_neg zh77).trans (if_pos zh117)
             rw [ee] at hn; exact hn)
          | (have ee : nfS v a b i w = 0 := (if_neg zh77).trans (if_neg zh117)
             rw [ee] at hn; exact hn)
      · skip
        first | refine g_aload0 (pc := 80) dX10_nibs_80 ?_ | refine g_aloadN0 (pc := 80) dX10_nibs_80 ?_
        refine g_getR (pc := 81) (j := 20) cf10 dX10_nibs_81 fl_RX10_37 (by decide) (by decide) (by first | rfl | assumption) (89) (rfl) ?_
        refine g_iload8 (pc := 84) dX10_nibs_84 ?_
        refine g_ialdX (pc := 86) (i) dX10_nibs_86 (rfl) (rfl) (by have := ln_all; omega) (by decide) ?_
        refine g_fS1 (pc := 87) (c_X10_across) dX10_nibs_87 cw_RX10_103 (by decide) (Nat.le_of_ble_eq_true rfl) ?_
        refine g_iload6 (pc := 90) dX10_nibs_90 ?_
        refine g_imul (pc := 92) dX10_nibs_92 ?_
        first | refine g_aload0 (pc := 93) dX10_nibs_93 ?_ | refine g_aloadN0 (pc := 93) dX10_nibs_93 ?_
        refine g_getR (pc := 94) (j := 20) cf10 dX10_nibs_94 fl_RX10_37 (by decide) (by decide) (by first | rfl | assumption) (89) (rfl) ?_
        refine g_iload8 (pc := 97) dX10_nibs_97 ?_
        refine g_ialdX (pc := 99) (i) dX10_nibs_99 (rfl) (rfl) (by have := ln_all; omega) (by decide) ?_
        refine g_fS1 (pc := 100) (c_X10_upward) dX10_nibs_100 cw_RX10_107 (by decide) (Nat.le_of_ble_eq_true rfl) ?_
        refine g_iload5 (pc := 103) dX10_nibs_103 ?_
        refine g_imul (pc := 105) dX10_nibs_105 ?_
        refine g_isub (pc := 106) dX10_nibs_106 ?_
        refine g_fS1 (pc := 107) (c_X10_size) dX10_nibs_107 cw_RX10_112 (by decide) (Nat.le_of_ble_eq_true rfl) ?_
        first | refine g_aload0 (pc := 110) dX10_nibs_110 ?_ | refine g_aloadN0 (pc := 110) dX10_nibs_110 ?_
        refine g_getR (pc := 111) (j := 21) cf10 dX10_nibs_111 fl_RX10_40 (by decide) (by decide) (by first | rfl | assumption) (90) (rfl) ?_
        refine g_iload8 (pc := 114) dX10_nibs_114 ?_
        refine g_ialdX (pc := 116) (i) dX10_nibs_116 (rfl) (rfl) (by have := ln_all; omega) (by decide) ?_
        refine g_icmp_ne (pc := 117) 124 dX10_nibs_117 (by decide) (fun zh117 => ?_) (fun zh117 => ?_)
        · skip
          refine g_iconst (pc := 124) (0) dX10_nibs_124 (by decide) ?_
          refine g_istore7 (pc := 125) dX10_nibs_125 (by decide) (by first | rfl | assumption) ?_
          refine g_iinc8 (pc := 127) (nI (i + 1)) dX10_nibs_127 (nI_succ' i) (by decide) (by first | rfl | assumption) ?_
          refine g_goto (pc := 130) 66 dX10_nibs_130 (by decide) ?_
          first
            | (have ee : nfS v a b i w = 0 := if_pos zh77
               rw [ee] at hn; exact hn)
            | (have ee : nfS v a b i w = 1 := (if_neg zh77).trans (if_pos zh117)
               rw [ee] at hn; exact hn)
            | (have ee : nfS v a b i w = 0 := (if_neg zh77).trans (if_neg zh117)
               rw [ee] at hn; exact hn)
        · skip
          refine g_iconst (pc := 120) (1) dX10_nibs_120 (by decide) ?_
          refine g_goto (pc := 121) 125 dX10_nibs_121 (by decide) ?_
          refine g_istore7 (pc := 125) dX10_nibs_125 (by decide) (by first | rfl | assumption) ?_
          refine g_iinc8 (pc := 127) (nI (i + 1)) dX10_nibs_127 (nI_succ' i) (by decide) (by first | rfl | assumption) ?_
          refine g_goto (pc := 130) 66 dX10_nibs_130 (by decide) ?_
          first
            | (have ee : nfS v a b i w = 0 := if_pos zh77
               rw [ee] at hn; exact hn)
            | (have ee : nfS v a b i w = 1 := (if_neg zh77).trans (if_pos zh117)
               rw [ee] at hn; exact hn)
            | (have ee : nfS v a b i w = 0 := (if_neg zh77).trans (if_neg zh117)
               rw [ee] at hn; exact hn)
theorem lp_X10_nibs_t {c i : Nat} {l1 o5 o6 o8 : Option Value} {w : Int32 × Int32} {v : Mm} {L : Lm} {Q : Qt} (hi : i < 49) (ho1 : okp l1 = true) (hn : ∀ o5 o6 o7 o8 : Option Value, G RX10 cX10_nibs 9 (some .int) 1 Q 21 [some (.ref 79), l1, some (.int (nbS v c i w).1), some (.int (nbS v c i w).2), some (.int (nI (i + 1))), o5, o6, o7, o8] [] v L) : G RX10 cX10_nibs 9 (some .int) 1 Q 133 [some (.ref 79), l1, some (.int w.1), some (.int w.2), some (.int (nI i)), o5, o6, some (.int (nfF v c i)), o8] [] v L := by
  refine g_iload7 (pc := 133) dX10_nibs_133 ?_
  refine g_if_eq (pc := 135) 159 dX10_nibs_135 (by decide) (fun zh135 => ?_) (fun zh135 => ?_)
  · skip
    refine g_iload3 (pc := 159) dX10_nibs_159 ?_
    refine g_istore3 (pc := 160) dX10_nibs_160 (by decide) (by first | rfl | assumption) ?_
    refine g_iload2 (pc := 161) dX10_nibs_161 ?_
    refine g_iload7 (pc := 162) dX10_nibs_162 ?_
    refine g_if_eq (pc := 164) 171 dX10_nibs_164 (by decide) (fun zh164 => ?_) (fun zh164 => ?_)
    · skip
      refine g_iconst (pc := 171) (0) dX10_nibs_171 (by decide) ?_
      refine g_iadd (pc := 172) dX10_nibs_172 ?_
      refine g_istore2 (pc := 173) dX10_nibs_173 (by decide) (by first | rfl | assumption) ?_
      refine g_iinc4 (pc := 174) (nI (i + 1)) dX10_nibs_174 (nI_succ' i) (by decide) (by first | rfl | assumption) ?_
      refine g_goto (pc := 177) 21 dX10_nibs_177 (by decide) ?_
      have ee : nbS v c i w = (w.1 + 0, w.2) := Prod.ext (congrArg (fun zt => w.1 + zt) (if_pos zh135)) (if_neg (fun zq => zq.1 zh135))
      rw [ee] at hn; exact hn _ _ _ _
    · skip
      refine g_iconst (pc := 167) (1) dX10_nibs_167 (by decide) ?_
      refine g_goto (pc := 168) 172 dX10_nibs_168 (by decide) ?_
      refine g_iadd (pc := 172) dX10_nibs_172 ?_
      refine g_istore2 (pc := 173) dX10_nibs_173 (by decide) (by first | rfl | assumption) ?_
      refine g_iinc4 (pc := 174) (nI (i + 1)) dX10_nibs_174 (nI_succ' i) (by decide) (by first | rfl | assumption) ?_
      refine g_goto (pc := 177) 21 dX10_nibs_177 (by decide) ?_
      exact absurd zh135 zh164
  · skip
    refine g_iload2 (pc := 138) dX10_nibs_138 ?_
    refine g_if_ne (pc := 139) 159 dX10_nibs_139 (by decide) (fun zh139 => ?_) (fun zh139 => ?_)
    · skip
      refine g_iload3 (pc := 159) dX10_nibs_159 ?_
      refine g_istore3 (pc := 160) dX10_nibs_160 (by decide) (by first | rfl | assumption) ?_
      refine g_iload2 (pc := 161) dX10_nibs_161 ?_
      refine g_iload7 (pc := 162) dX10_nibs_162 ?_
      refine g_if_eq (pc := 164) 171 dX10_nibs_164 (by decide) (fun zh164 => ?_) (fun zh164 => ?_)
      · skip
        refine g_iconst (pc := 171) (0) dX10_nibs_171 (by decide) ?_
        refine g_iadd (pc := 172) dX10_nibs_172 ?_
        refine g_istore2 (pc := 173) dX10_nibs_173 (by decide) (by first | rfl | assumption) ?_
        refine g_iinc4 (pc := 174) (nI (i + 1)) dX10_nibs_174 (nI_succ' i) (by decide) (by first | rfl | assumption) ?_
        refine g_goto (pc := 177) 21 dX10_nibs_177 (by decide) ?_
        exact absurd zh164 zh135
      · skip
        refine g_iconst (pc := 167) (1) dX10_nibs_167 (by decide) ?_
        refine g_goto (pc := 168) 172 dX10_nibs_168 (by decide) ?_
        refine g_iadd (pc := 172) dX10_nibs_172 ?_
        refine g_istore2 (pc := 173) dX10_nibs_173 (by decide) (by first | rfl | assumption) ?_
        refine g_iinc4 (pc := 174) (nI (i + 1)) dX10_nibs_174 (nI_succ' i) (by decide) (by first | rfl | assumption) ?_
        refine g_goto (pc := 177) 21 dX10_nibs_177 (by decide) ?_
        have ee : nbS v c i w = (w.1 + 1, w.2) := Prod.ext (congrArg (fun zt => w.1 + zt) (if_neg zh135)) (if_neg (fun zq => zh139 zq.2))
        rw [ee] at hn; exact hn _ _ _ _
    · skip
      refine g_bipush (pc := 142) (10) dX10_nibs_142 (by decide) ?_
      refine g_iload4 (pc := 144) dX10_nibs_144 ?_
      refine g_bipush (pc := 146) (7) dX10_nibs_146 (by decide) ?_
      refine g_idiv (pc := 148) dX10_nibs_148 (by decide) ?_
      refine g_imul (pc := 149) dX10_nibs_149 ?_
      refine g_iload4 (pc := 150) dX10_nibs_150 ?_
      refine g_bipush (pc := 152) (7) dX10_nibs_152 (by decide) ?_
      refine g_irem (pc := 154) dX10_nibs_154 (by decide) ?_
      rw [show nI i - nI i / 7 * 7 = nI (i % 7) from pk_rem (d := 7) (by omega) (by decide) (by decide), show nI i / 7 = nI (i / 7) from pk_div (d := 7) (by omega) (by decide) (by decide)]
      refine g_iadd (pc := 155) dX10_nibs_155 ?_
      refine g_goto (pc := 156) 160 dX10_nibs_156 (by decide) ?_
      refine g_istore3 (pc := 160) dX10_nibs_160 (by decide) (by first | rfl | assumption) ?_
      refine g_iload2 (pc := 161) dX10_nibs_161 ?_
      refine g_iload7 (pc := 162) dX10_nibs_162 ?_
      refine g_if_eq (pc := 164) 171 dX10_nibs_164 (by decide) (fun zh164 => ?_) (fun zh164 => ?_)
      · skip
        refine g_iconst (pc := 171) (0) dX10_nibs_171 (by decide) ?_
        refine g_iadd (pc := 172) dX10_nibs_172 ?_
        refine g_istore2 (pc := 173) dX10_nibs_173 (by decide) (by first | rfl | assumption) ?_
        refine g_iinc4 (pc := 174) (nI (i + 1)) dX10_nibs_174 (nI_succ' i) (by decide) (by first | rfl | assumption) ?_
        refine g_goto (pc := 177) 21 dX10_nibs_177 (by decide) ?_
        exact absurd zh164 zh135
      · skip
        refine g_iconst (pc := 167) (1) dX10_nibs_167 (by decide) ?_
        refine g_goto (pc := 168) 172 dX10_nibs_168 (by decide) ?_
        refine g_iadd (pc := 172) dX10_nibs_172 ?_
        refine g_istore2 (pc := 173) dX10_nibs_173 (by decide) (by first | rfl | assumption) ?_
        refine g_iinc4 (pc := 174) (nI (i + 1)) dX10_nibs_174 (nI_succ' i) (by decide) (by first | rfl | assumption) ?_
        refine g_goto (pc := 177) 21 dX10_nibs_177 (by decide) ?_
        have ee : nbS v c i w = (w.1 + 1, 10 * nI (i / 7) + nI (i % 7)) := Prod.ext (congrArg (fun zt => w.1 + zt) (if_neg zh135)) (if_pos ⟨zh135, zh139⟩)
        rw [ee] at hn; exact hn _ _ _ _
theorem lp_X10_nibs_a {c : Nat} {x1 : Int32} {v : Mm} {L : Lm} (hc : v 79 19 = nI c) (hc6 : c ≤ 6) (hI0 : (fun (_ : Nat) (_ : Int32 × Int32) => True) 0 (0, -9)) : (fun (i : Nat) (w : Int32 × Int32) => ∀ (o5 o6 o7 o8 : Option Value), G RX10 cX10_nibs 9 (some .int) 1 (fun a b K => a = some (.int (selA x1 (nmF v c))) ∧ b = v ∧ K = L) 21 [some (.ref 79), some (.int x1), some (.int w.1), some (.int w.2), some (.int (nI i)), o5, o6, o7, o8] [] v L) 0 ((0 : Int32), (-9 : Int32)) := by
  refine g_for 49 (nbS v c) (fun (_ : Nat) (_ : Int32 × Int32) => True) (fun (i : Nat) (w : Int32 × Int32) => ∀ (o5 o6 o7 o8 : Option Value), G RX10 cX10_nibs 9 (some .int) 1 (fun a b K => a = some (.int (selA x1 (nmF v c))) ∧ b = v ∧ K = L) 21 [some (.ref 79), some (.int x1), some (.int w.1), some (.int w.2), some (.int (nI i)), o5, o6, o7, o8] [] v L) ((0 : Int32), (-9 : Int32)) hI0 ?_ (fun hI => ?_) (fun i w hi hI hn => ?_)
  · exact fun _ _ _ h => h
  · intro o5 o6 o7 o8
    show G _ _ _ _ _ _ _ _ _ _ _
    try dsimp only at hI
    refine g_iload4 (pc := 21) dX10_nibs_21 ?_
    refine g_bipush (pc := 23) (49) dX10_nibs_23 (by decide) ?_
    refine g_icmp_ge (pc := 25) 180 dX10_nibs_25 (by decide) (fun zh25 => ?_) (fun zh25 => ?_)
    · skip
      refine g_iload1 (pc := 180) dX10_nibs_180 ?_
      refine g_if_ne (pc := 181) 188 dX10_nibs_181 (by decide) (fun zh181 => ?_) (fun zh181 => ?_)
      · skip
        refine g_iload3 (pc := 188) dX10_nibs_188 ?_
        refine g_iret (pc := 189) dX10_nibs_189 rfl ?_
        first | exact ⟨congrArg (fun zt => some (Value.int zt)) (if_pos zh181).symm, rfl, rfl⟩ | exact ⟨congrArg (fun zt => some (Value.int zt)) (if_neg zh181).symm, rfl, rfl⟩
      · skip
        refine g_iload2 (pc := 184) dX10_nibs_184 ?_
        refine g_goto (pc := 185) 189 dX10_nibs_185 (by decide) ?_
        refine g_iret (pc := 189) dX10_nibs_189 rfl ?_
        first | exact ⟨congrArg (fun zt => some (Value.int zt)) (if_pos zh181).symm, rfl, rfl⟩ | exact ⟨congrArg (fun zt => some (Value.int zt)) (if_neg zh181).symm, rfl, rfl⟩
    · skip
      exact absurd (Int32.le_refl _) zh25
  · intro o5 o6 o7 o8
    show G _ _ _ _ _ _ _ _ _ _ _
    try dsimp only at hI
    try dsimp only at hn
    refine g_iload4 (pc := 21) dX10_nibs_21 ?_
    refine g_bipush (pc := 23) (49) dX10_nibs_23 (by decide) ?_
    refine g_icmp_ge (pc := 25) 180 dX10_nibs_25 (by decide) (fun zh25 => ?_) (fun zh25 => ?_)
    · skip
      exact absurd zh25 (nI_ge (b := 49) hi (by decide))
    · skip
      refine g_iload4 (pc := 28) dX10_nibs_28 ?_
      refine g_bipush (pc := 30) (7) dX10_nibs_30 (by decide) ?_
      refine g_idiv (pc := 32) dX10_nibs_32 (by decide) ?_
      refine g_iconst (pc := 33) (3) dX10_nibs_33 (by decide) ?_
      refine g_isub (pc := 34) dX10_nibs_34 ?_
      refine g_istore5 (pc := 35) dX10_nibs_35 (by decide) (by first | rfl | assumption) ?_
      refine g_iload4 (pc := 37) dX10_nibs_37 ?_
      refine g_bipush (pc := 39) (7) dX10_nibs_39 (by decide) ?_
      refine g_irem (pc := 41) dX10_nibs_41 (by decide) ?_
      refine g_iconst (pc := 42) (3) dX10_nibs_42 (by decide) ?_
      refine g_isub (pc := 43) dX10_nibs_43 ?_
      refine g_istore6 (pc := 44) dX10_nibs_44 (by decide) (by first | rfl | assumption) ?_
      rw [show nI i - nI i / 7 * 7 = nI (i % 7) from pk_rem (d := 7) (by omega) (by decide) (by decide), show nI i / 7 = nI (i / 7) from pk_div (d := 7) (by omega) (by decide) (by decide)]
      refine g_iload5 (pc := 46) dX10_nibs_46 ?_
      refine g_if_ne (pc := 48) 56 dX10_nibs_48 (by decide) (fun zh48 => ?_) (fun zh48 => ?_)
      · skip
        refine g_iconst (pc := 56) (1) dX10_nibs_56 (by decide) ?_
        refine g_goto (pc := 57) 61 dX10_nibs_57 (by decide) ?_
        refine g_istore7 (pc := 61) dX10_nibs_61 (by decide) (by first | rfl | assumption) ?_
        refine g_iconst (pc := 63) (0) dX10_nibs_63 (by decide) ?_
        refine g_istore8 (pc := 64) dX10_nibs_64 (by decide) (by first | rfl | assumption) ?_
        have zt := lp_X10_nibs_t (l1 := some (.int x1)) (o5 := some (.int (nI (i / 7) - 3))) (o6 := some (.int (nI (i % 7) - 3))) (o8 := some (.int (nI c))) hi rfl hn
        first
          | (have ee : nfF v c i = itr (nfS v (nI (i / 7) - 3) (nI (i % 7) - 3)) c 1 := congrArg (itr (nfS v (nI (i / 7) - 3) (nI (i % 7) - 3)) c) (if_pos (Or.inl zh48))
             rw [ee] at zt; exact lp_X10_nibs_b hc hc6 trivial zt)
          | (have ee : nfF v c i = itr (nfS v (nI (i / 7) - 3) (nI (i % 7) - 3)) c 1 := congrArg (itr (nfS v (nI (i / 7) - 3) (nI (i % 7) - 3)) c) (if_pos (Or.inr zh53))
             rw [ee] at zt; exact lp_X10_nibs_b hc hc6 trivial zt)
          | (have ee : nfF v c i = itr (nfS v (nI (i / 7) - 3) (nI (i % 7) - 3)) c 0 := congrArg (itr (nfS v (nI (i / 7) - 3) (nI (i % 7) - 3)) c) (if_neg (fun zq => zq.elim (fun zr => zr zh48) (fun zr => zr zh53)))
             rw [ee] at zt; exact lp_X10_nibs_b hc hc6 trivial zt)
      · skip
        refine g_iload6 (pc := 51) dX10_nibs_51 ?_
        refine g_if_eq (pc := 53) 60 dX10_nibs_53 (by decide) (fun zh53 => ?_) (fun zh53 => ?_)
        · skip
          refine g_iconst (pc := 60) (0) dX10_nibs_60 (by decide) ?_
          refine g_istore7 (pc := 61) dX10_nibs_61 (by decide) (by first | rfl | assumption) ?_
          refine g_iconst (pc := 63) (0) dX10_nibs_63 (by decide) ?_
          refine g_istore8 (pc := 64) dX10_nibs_64 (by decide) (by first | rfl | assumption) ?_
          have zt := lp_X10_nibs_t (l1 := some (.int x1)) (o5 := some (.int (nI (i / 7) - 3))) (o6 := some (.int (nI (i % 7) - 3))) (o8 := some (.int (nI c))) hi rfl hn
          first
            | (have ee : nfF v c i = itr (nfS v (nI (i / 7) - 3) (nI (i % 7) - 3)) c 1 := congrArg (itr (nfS v (nI (i / 7) - 3) (nI (i % 7) - 3)) c) (if_pos (Or.inl zh48))
               rw [ee] at zt; exact lp_X10_nibs_b hc hc6 trivial zt)
            | (have ee : nfF v c i = itr (nfS v (nI (i / 7) - 3) (nI (i % 7) - 3)) c 1 := congrArg (itr (nfS v (nI (i / 7) - 3) (nI (i % 7) - 3)) c) (if_pos (Or.inr zh53))
               rw [ee] at zt; exact lp_X10_nibs_b hc hc6 trivial zt)
            | (have ee : nfF v c i = itr (nfS v (nI (i / 7) - 3) (nI (i % 7) - 3)) c 0 := congrArg (itr (nfS v (nI (i / 7) - 3) (nI (i % 7) - 3)) c) (if_neg (fun zq => zq.elim (fun zr => zr zh48) (fun zr => zr zh53)))
               rw [ee] at zt; exact lp_X10_nibs_b hc hc6 trivial zt)
        · skip
          refine g_iconst (pc := 56) (1) dX10_nibs_56 (by decide) ?_
          refine g_goto (pc := 57) 61 dX10_nibs_57 (by decide) ?_
          refine g_istore7 (pc := 61) dX10_nibs_61 (by decide) (by first | rfl | assumption) ?_
          refine g_iconst (pc := 63) (0) dX10_nibs_63 (by decide) ?_
          refine g_istore8 (pc := 64) dX10_nibs_64 (by decide) (by first | rfl | assumption) ?_
          have zt := lp_X10_nibs_t (l1 := some (.int x1)) (o5 := some (.int (nI (i / 7) - 3))) (o6 := some (.int (nI (i % 7) - 3))) (o8 := some (.int (nI c))) hi rfl hn
          first
            | (have ee : nfF v c i = itr (nfS v (nI (i / 7) - 3) (nI (i % 7) - 3)) c 1 := congrArg (itr (nfS v (nI (i / 7) - 3) (nI (i % 7) - 3)) c) (if_pos (Or.inl zh48))
               rw [ee] at zt; exact lp_X10_nibs_b hc hc6 trivial zt)
            | (have ee : nfF v c i = itr (nfS v (nI (i / 7) - 3) (nI (i % 7) - 3)) c 1 := congrArg (itr (nfS v (nI (i / 7) - 3) (nI (i % 7) - 3)) c) (if_pos (Or.inr zh53))
               rw [ee] at zt; exact lp_X10_nibs_b hc hc6 trivial zt)
            | (have ee : nfF v c i = itr (nfS v (nI (i / 7) - 3) (nI (i % 7) - 3)) c 0 := congrArg (itr (nfS v (nI (i / 7) - 3) (nI (i % 7) - 3)) c) (if_neg (fun zq => zq.elim (fun zr => zr zh48) (fun zr => zr zh53)))
               rw [ee] at zt; exact lp_X10_nibs_b hc hc6 trivial zt)
theorem c_X10_nibs_o {x : Int32} {v : Mm} {L : Lm} (hx : ¬ (0 ≤ x ∧ x ≤ 1)) : Fn yX10_nibs cX10_nibs 9 (some .int) 1 [.ref 79, .int x] v L (some (.int (-2))) v L := by
  have zi : ∀ zx : Int32, ((0 : Int64) ≤ zx.toInt64 ∧ zx.toInt64 ≤ 1) ↔ (0 ≤ zx ∧ zx ≤ 1) := fun zx => inI (y := zx) (by decide) (by decide)
  refine Fq.of (plainFor_of_name (by decide)) [some (.ref 79), some (.int x), none, none, none, none, none, none, none] rfl (Nat.le_of_ble_eq_true rfl) ?_
  refine g_iload1 (pc := 0) dX10_nibs_0 ?_
  refine g_i2l (pc := 1) dX10_nibs_1 ?_
  refine g_lconst (pc := 2) (0) dX10_nibs_2 (by decide) ?_
  refine g_lconst (pc := 3) (1) dX10_nibs_3 (by decide) ?_
  refine g_fS3 (pc := 4) (c_X10_in) dX10_nibs_4 cw_RX10_52 (by decide) (Nat.le_of_ble_eq_true rfl) ?_
  refine g_if_ne (pc := 7) 13 dX10_nibs_7 (by decide) (fun zh7 => ?_) (fun zh7 => ?_)
  · skip
    exact absurd ((zi _).mp (b01_ne0.mp zh7)) hx
  · skip
    refine g_bipush (pc := 10) (-2) dX10_nibs_10 (by decide) ?_
    refine g_iret (pc := 12) dX10_nibs_12 rfl ?_
    exact ⟨rfl, rfl, rfl⟩
theorem c_X10_nibs_s {c : Nat} {x : Int32} {v : Mm} {L : Lm} (hx : 0 ≤ x ∧ x ≤ 1) (hc : v 79 19 = nI c) (hc6 : c ≤ 6) : Fn yX10_nibs cX10_nibs 9 (some .int) 1 [.ref 79, .int x] v L (some (.int (selA x (nmF v c)))) v L := by
  have zi : ∀ zx : Int32, ((0 : Int64) ≤ zx.toInt64 ∧ zx.toInt64 ≤ 1) ↔ (0 ≤ zx ∧ zx ≤ 1) := fun zx => inI (y := zx) (by decide) (by decide)
  refine Fq.of (plainFor_of_name (by decide)) [some (.ref 79), some (.int x), none, none, none, none, none, none, none] rfl (Nat.le_of_ble_eq_true rfl) ?_
  refine g_iload1 (pc := 0) dX10_nibs_0 ?_
  refine g_i2l (pc := 1) dX10_nibs_1 ?_
  refine g_lconst (pc := 2) (0) dX10_nibs_2 (by decide) ?_
  refine g_lconst (pc := 3) (1) dX10_nibs_3 (by decide) ?_
  refine g_fS3 (pc := 4) (c_X10_in) dX10_nibs_4 cw_RX10_52 (by decide) (Nat.le_of_ble_eq_true rfl) ?_
  refine g_if_ne (pc := 7) 13 dX10_nibs_7 (by decide) (fun zh7 => ?_) (fun zh7 => ?_)
  · skip
    refine g_iconst (pc := 13) (0) dX10_nibs_13 (by decide) ?_
    refine g_istore2 (pc := 14) dX10_nibs_14 (by decide) (by first | rfl | assumption) ?_
    refine g_bipush (pc := 15) (-9) dX10_nibs_15 (by decide) ?_
    refine g_istore3 (pc := 17) dX10_nibs_17 (by decide) (by first | rfl | assumption) ?_
    refine g_iconst (pc := 18) (0) dX10_nibs_18 (by decide) ?_
    refine g_istore4 (pc := 19) dX10_nibs_19 (by decide) (by first | rfl | assumption) ?_
    exact lp_X10_nibs_a hc hc6 trivial none none none none
  · skip
    exact absurd ((zi _).mpr hx) (b01_eq0.mp zh7)
theorem lp_X10_blackBy {n w : Nat} {s : Int32} {w0 : Mm} {L : Lm} (hI0 : (fun (_ : Nat) (zm : Mm) => MSt zm n w) 0 w0) : (fun (i : Nat) (u : Mm) =>  G RX10 cX10_blackBy 3 (some .int) 4 (fun a b K => a = some (.int (onF (bkF (itr (fun p u => if (s >>> (nI p &&& 31)) &&& 1 = 1 then (woA u p w).2 else u) n w0) 1))) ∧ b = itr (fun p u => if (s >>> (nI p &&& 31)) &&& 1 = 1 then (woA u p w).2 else u) n w0 ∧ K = L) 6 [some (.ref 79), some (.int s), some (.int (nI i))] [] u L) 0 w0 := by
  refine g_for n (fun p u => if (s >>> (nI p &&& 31)) &&& 1 = 1 then (woA u p w).2 else u) (fun (_ : Nat) (zm : Mm) => MSt zm n w) (fun (i : Nat) (u : Mm) =>  G RX10 cX10_blackBy 3 (some .int) 4 (fun a b K => a = some (.int (onF (bkF (itr (fun p u => if (s >>> (nI p &&& 31)) &&& 1 = 1 then (woA u p w).2 else u) n w0) 1))) ∧ b = itr (fun p u => if (s >>> (nI p &&& 31)) &&& 1 = 1 then (woA u p w).2 else u) n w0 ∧ K = L) 6 [some (.ref 79), some (.int s), some (.int (nI i))] [] u L) w0 hI0 ?_ (fun hI => ?_) (fun i u hi hI hn => ?_)
  · intro zi zs zl zh
    show MSt (if (s >>> (nI zi &&& 31)) &&& 1 = 1 then (woA zs zi w).2 else zs) n w
    split
    · exact zh.w0.wo zl
    · exact zh
  · show G _ _ _ _ _ _ _ _ _ _ _
    try dsimp only at hI
    refine g_iload2 (pc := 6) dX10_blackBy_6 ?_
    first | refine g_aload0 (pc := 7) dX10_blackBy_7 ?_ | refine g_aloadN0 (pc := 7) dX10_blackBy_7 ?_
    refine g_getI (pc := 8) (j := 0) cf10 dX10_blackBy_8 fl_RX10_84 (by decide) (by decide) (by first | rfl | assumption) ?_
    rw [hI.2.1]
    have zn4 := hI.1
    refine g_icmp_ge (pc := 11) 38 dX10_blackBy_11 (by decide) (fun zh11 => ?_) (fun zh11 => ?_)
    · skip
      first | refine g_aload0 (pc := 38) dX10_blackBy_38 ?_ | refine g_aloadN0 (pc := 38) dX10_blackBy_38 ?_
      refine g_iconst (pc := 39) (1) dX10_blackBy_39 (by decide) ?_
      refine g_fV1 (pc := 40) (c_X10_blackOn (l := 1) (by decide)) cf10 (by first | rfl | assumption) dX10_blackBy_40 cw_RX10_193 (by decide) (Nat.le_of_ble_eq_true rfl) ?_
      refine g_fS1 (pc := 43) (c_X10_ones) dX10_blackBy_43 cw_RX10_196 (by decide) (Nat.le_of_ble_eq_true rfl) ?_
      refine g_iret (pc := 46) dX10_blackBy_46 rfl ?_
      exact ⟨rfl, rfl, rfl⟩
    · skip
      exact absurd (Int32.le_refl _) zh11
  · show G _ _ _ _ _ _ _ _ _ _ _
    try dsimp only at hI
    try dsimp only at hn
    refine g_iload2 (pc := 6) dX10_blackBy_6 ?_
    first | refine g_aload0 (pc := 7) dX10_blackBy_7 ?_ | refine g_aloadN0 (pc := 7) dX10_blackBy_7 ?_
    refine g_getI (pc := 8) (j := 0) cf10 dX10_blackBy_8 fl_RX10_84 (by decide) (by decide) (by first | rfl | assumption) ?_
    rw [hI.2.1]
    have zn4 := hI.1
    refine g_icmp_ge (pc := 11) 38 dX10_blackBy_11 (by decide) (fun zh11 => ?_) (fun zh11 => ?_)
    · skip
      exact absurd zh11 (nI_ge hi (by omega))
    · skip
      refine g_iload1 (pc := 14) dX10_blackBy_14 ?_
      refine g_iload2 (pc := 15) dX10_blackBy_15 ?_
      refine g_fS2 (pc := 16) (c_X10_has) dX10_blackBy_16 cw_RX10_126 (by decide) (Nat.le_of_ble_eq_true rfl) ?_
      refine g_if_eq (pc := 19) 32 dX10_blackBy_19 (by decide) (fun zh19 => ?_) (fun zh19 => ?_)
      · skip
        refine g_iinc2 (pc := 32) (nI (i + 1)) dX10_blackBy_32 (nI_succ' i) (by decide) (by first | rfl | assumption) ?_
        refine g_goto (pc := 35) 6 dX10_blackBy_35 (by decide) ?_
        first
          | (have ee : (fun p u => if (s >>> (nI p &&& 31)) &&& 1 = 1 then (woA u p w).2 else u) i u = (woA u i w).2 := if_pos (b01_ne0.mp zh19)
             dsimp only at ee
             rw [ee] at hn; exact hn)
          | (have ee : (fun p u => if (s >>> (nI p &&& 31)) &&& 1 = 1 then (woA u p w).2 else u) i u = u := if_neg (b01_eq0.mp zh19)
             dsimp only at ee
             rw [ee] at hn; exact hn)
      · skip
        first | refine g_aload0 (pc := 22) dX10_blackBy_22 ?_ | refine g_aloadN0 (pc := 22) dX10_blackBy_22 ?_
        refine g_iconst (pc := 23) (1) dX10_blackBy_23 (by decide) ?_
        refine g_iload2 (pc := 24) dX10_blackBy_24 ?_
        refine g_bipush (pc := 25) (8) dX10_blackBy_25 (by decide) ?_
        refine g_iconst (pc := 27) (0) dX10_blackBy_27 (by decide) ?_
        refine g_fV4 (pc := 28) (c_X10_writeOn (l := 1) (q := 8) (n := n) (w := w) (by decide) hi hI.1 (by decide) hI.2.2.2.1 hI.2.1 hI.2.2.1 (hI.2.2.2.2 _ hi)) cf10 (by first | rfl | assumption) dX10_blackBy_28 cw_RX10_143 (by decide) (Nat.le_of_ble_eq_true rfl) ?_
        refine g_pop (pc := 31) dX10_blackBy_31 rfl ?_
        refine g_iinc2 (pc := 32) (nI (i + 1)) dX10_blackBy_32 (nI_succ' i) (by decide) (by first | rfl | assumption) ?_
        refine g_goto (pc := 35) 6 dX10_blackBy_35 (by decide) ?_
        first
          | (have ee : (fun p u => if (s >>> (nI p &&& 31)) &&& 1 = 1 then (woA u p w).2 else u) i u = (woA u i w).2 := if_pos (b01_ne0.mp zh19)
             dsimp only at ee
             rw [ee] at hn; exact hn)
          | (have ee : (fun p u => if (s >>> (nI p &&& 31)) &&& 1 = 1 then (woA u p w).2 else u) i u = u := if_neg (b01_eq0.mp zh19)
             dsimp only at ee
             rw [ee] at hn; exact hn)
theorem c_X10_blackBy {n w : Nat} {s : Int32} {v : Mm} {L : Lm} (zh0 : M0 v n w) : Fn yX10_blackBy cX10_blackBy 3 (some .int) 4 [.ref 79, .int s] v L (some (.int (byR v w s n))) (byM v w s n) L := by
  refine Fq.of (plainFor_of_name (by decide)) [some (.ref 79), some (.int s), none] rfl (Nat.le_of_ble_eq_true rfl) ?_
  first | refine g_aload0 (pc := 0) dX10_blackBy_0 ?_ | refine g_aloadN0 (pc := 0) dX10_blackBy_0 ?_
  refine g_vV0 (pc := 1) (c_X10_layTrial) cf10 (by first | rfl | assumption) dX10_blackBy_1 cw_RX10_140 (by decide) (Nat.le_of_ble_eq_true rfl) ?_
  refine g_iconst (pc := 4) (0) dX10_blackBy_4 (by decide) ?_
  refine g_istore2 (pc := 5) dX10_blackBy_5 (by decide) (by first | rfl | assumption) ?_
  exact lp_X10_blackBy zh0.lt
theorem c_X10_gain {n w a b p : Nat} {x y : Int32} {v : Mm} {L : Lm} (zh0 : M0 v n w) (ha : a < n) (hb : b < n) (hp4 : p < 4) : Fn yX10_gain cX10_gain 6 (some .int) 4 [.ref 79, .int (nI a), .int (nI b), .int x, .int y, .int (nI p)] v L (some (.int (gaR v a b w x y p))) (gaM v a b w x y) L := by
  have hM := zh0.lt
  have hM2 : MSt (woA (ltV v) a w).2 n w := hM.w0.wo ha
  refine Fq.of (plainFor_of_name (by decide)) [some (.ref 79), some (.int (nI a)), some (.int (nI b)), some (.int x), some (.int y), some (.int (nI p))] rfl (Nat.le_of_ble_eq_true rfl) ?_
  first | refine g_aload0 (pc := 0) dX10_gain_0 ?_ | refine g_aloadN0 (pc := 0) dX10_gain_0 ?_
  refine g_vV0 (pc := 1) (c_X10_layTrial) cf10 (by first | rfl | assumption) dX10_gain_1 cw_RX10_140 (by decide) (Nat.le_of_ble_eq_true rfl) ?_
  refine g_iload3 (pc := 4) dX10_gain_4 ?_
  refine g_iconst (pc := 5) (1) dX10_gain_5 (by decide) ?_
  refine g_icmp_ne (pc := 6) 19 dX10_gain_6 (by decide) (fun zh6 => ?_) (fun zh6 => ?_)
  · skip
    refine g_iload4 (pc := 19) dX10_gain_19 ?_
    refine g_iconst (pc := 21) (1) dX10_gain_21 (by decide) ?_
    refine g_icmp_ne (pc := 22) 35 dX10_gain_22 (by decide) (fun zh22 => ?_) (fun zh22 => ?_)
    · skip
      first | refine g_aload0 (pc := 35) dX10_gain_35 ?_ | refine g_aloadN0 (pc := 35) dX10_gain_35 ?_
      refine g_getR (pc := 36) (j := 3) cf10 dX10_gain_36 fl_RX10_16 (by decide) (by decide) (by first | rfl | assumption) (82) (rfl) ?_
      refine g_bipush (pc := 39) (55) dX10_gain_39 (by decide) ?_
      refine g_iload5 (pc := 41) dX10_gain_41 ?_
      refine g_iadd (pc := 43) dX10_gain_43 ?_
      refine g_ialdX (pc := 44) (55 + p) dX10_gain_44 (rfl) (nI_add 55 p) (by have := ln_all; omega) (by decide) ?_
      refine g_iconst (pc := 45) (2) dX10_gain_45 (by decide) ?_
      first | refine g_aload0 (pc := 46) dX10_gain_46 ?_ | refine g_aloadN0 (pc := 46) dX10_gain_46 ?_
      refine g_iconst (pc := 47) (1) dX10_gain_47 (by decide) ?_
      refine g_fV1 (pc := 48) (c_X10_blackOn (l := 1) (by decide)) cf10 (by first | rfl | assumption) dX10_gain_48 cw_RX10_193 (by decide) (Nat.le_of_ble_eq_true rfl) ?_
      refine g_fS1 (pc := 51) (c_X10_ones) dX10_gain_51 cw_RX10_196 (by decide) (Nat.le_of_ble_eq_true rfl) ?_
      refine g_imul (pc := 54) dX10_gain_54 ?_
      refine g_iadd (pc := 55) dX10_gain_55 ?_
      refine g_iret (pc := 56) dX10_gain_56 rfl ?_
      first
        | (have ee : gaM v a b w x y = (woA (woA (ltV v) a w).2 b w).2 := (if_pos zh22).trans (congrArg (fun zt => (woA zt b w).2) (if_pos zh6))
           exact ⟨congrArg (fun zt => some (Value.int (zt 82 (55 + p) + 2 * onF (bkF zt 1)))) ee.symm, ee.symm, rfl⟩)
        | (have ee : gaM v a b w x y = (woA (ltV v) b w).2 := (if_pos zh22).trans (congrArg (fun zt => (woA zt b w).2) (if_neg zh6))
           exact ⟨congrArg (fun zt => some (Value.int (zt 82 (55 + p) + 2 * onF (bkF zt 1)))) ee.symm, ee.symm, rfl⟩)
        | (have ee : gaM v a b w x y = (woA (ltV v) a w).2 := (if_neg zh22).trans (if_pos zh6)
           exact ⟨congrArg (fun zt => some (Value.int (zt 82 (55 + p) + 2 * onF (bkF zt 1)))) ee.symm, ee.symm, rfl⟩)
        | (have ee : gaM v a b w x y = ltV v := (if_neg zh22).trans (if_neg zh6)
           exact ⟨congrArg (fun zt => some (Value.int (zt 82 (55 + p) + 2 * onF (bkF zt 1)))) ee.symm, ee.symm, rfl⟩)
    · skip
      first | refine g_aload0 (pc := 25) dX10_gain_25 ?_ | refine g_aloadN0 (pc := 25) dX10_gain_25 ?_
      refine g_iconst (pc := 26) (1) dX10_gain_26 (by decide) ?_
      refine g_iload2 (pc := 27) dX10_gain_27 ?_
      refine g_bipush (pc := 28) (8) dX10_gain_28 (by decide) ?_
      refine g_iconst (pc := 30) (0) dX10_gain_30 (by decide) ?_
      refine g_fV4 (pc := 31) ((by first | exact c_X10_writeOn (l := 1) (q := 8) (n := n) (w := w) (by decide) hb hM2.1 (by decide) hM2.2.2.2.1 hM2.2.1 hM2.2.2.1 (hM2.2.2.2.2 _ hb) | exact c_X10_writeOn (l := 1) (q := 8) (n := n) (w := w) (by decide) hb hM.1 (by decide) hM.2.2.2.1 hM.2.1 hM.2.2.1 (hM.2.2.2.2 _ hb))) cf10 (by first | rfl | assumption) dX10_gain_31 cw_RX10_143 (by decide) (Nat.le_of_ble_eq_true rfl) ?_
      refine g_pop (pc := 34) dX10_gain_34 rfl ?_
      first | refine g_aload0 (pc := 35) dX10_gain_35 ?_ | refine g_aloadN0 (pc := 35) dX10_gain_35 ?_
      refine g_getR (pc := 36) (j := 3) cf10 dX10_gain_36 fl_RX10_16 (by decide) (by decide) (by first | rfl | assumption) (82) (rfl) ?_
      refine g_bipush (pc := 39) (55) dX10_gain_39 (by decide) ?_
      refine g_iload5 (pc := 41) dX10_gain_41 ?_
      refine g_iadd (pc := 43) dX10_gain_43 ?_
      refine g_ialdX (pc := 44) (55 + p) dX10_gain_44 (rfl) (nI_add 55 p) (by have := ln_all; omega) (by decide) ?_
      refine g_iconst (pc := 45) (2) dX10_gain_45 (by decide) ?_
      first | refine g_aload0 (pc := 46) dX10_gain_46 ?_ | refine g_aloadN0 (pc := 46) dX10_gain_46 ?_
      refine g_iconst (pc := 47) (1) dX10_gain_47 (by decide) ?_
      refine g_fV1 (pc := 48) (c_X10_blackOn (l := 1) (by decide)) cf10 (by first | rfl | assumption) dX10_gain_48 cw_RX10_193 (by decide) (Nat.le_of_ble_eq_true rfl) ?_
      refine g_fS1 (pc := 51) (c_X10_ones) dX10_gain_51 cw_RX10_196 (by decide) (Nat.le_of_ble_eq_true rfl) ?_
      refine g_imul (pc := 54) dX10_gain_54 ?_
      refine g_iadd (pc := 55) dX10_gain_55 ?_
      refine g_iret (pc := 56) dX10_gain_56 rfl ?_
      first
        | (have ee : gaM v a b w x y = (woA (woA (ltV v) a w).2 b w).2 := (if_pos zh22).trans (congrArg (fun zt => (woA zt b w).2) (if_pos zh6))
           exact ⟨congrArg (fun zt => some (Value.int (zt 82 (55 + p) + 2 * onF (bkF zt 1)))) ee.symm, ee.symm, rfl⟩)
        | (have ee : gaM v a b w x y = (woA (ltV v) b w).2 := (if_pos zh22).trans (congrArg (fun zt => (woA zt b w).2) (if_neg zh6))
           exact ⟨congrArg (fun zt => some (Value.int (zt 82 (55 + p) + 2 * onF (bkF zt 1)))) ee.symm, ee.symm, rfl⟩)
        | (have ee : gaM v a b w x y = (woA (ltV v) a w).2 := (if_neg zh22).trans (if_pos zh6)
           exact ⟨congrArg (fun zt => some (Value.int (zt 82 (55 + p) + 2 * onF (bkF zt 1)))) ee.symm, ee.symm, rfl⟩)
        | (have ee : gaM v a b w x y = ltV v := (if_neg zh22).trans (if_neg zh6)
           exact ⟨congrArg (fun zt => some (Value.int (zt 82 (55 + p) + 2 * onF (bkF zt 1)))) ee.symm, ee.symm, rfl⟩)
  · skip
    first | refine g_aload0 (pc := 9) dX10_gain_9 ?_ | refine g_aloadN0 (pc := 9) dX10_gain_9 ?_
    refine g_iconst (pc := 10) (1) dX10_gain_10 (by decide) ?_
    refine g_iload1 (pc := 11) dX10_gain_11 ?_
    refine g_bipush (pc := 12) (8) dX10_gain_12 (by decide) ?_
    refine g_iconst (pc := 14) (0) dX10_gain_14 (by decide) ?_
    refine g_fV4 (pc := 15) (c_X10_writeOn (l := 1) (q := 8) (n := n) (w := w) (by decide) ha hM.1 (by decide) hM.2.2.2.1 hM.2.1 hM.2.2.1 (hM.2.2.2.2 _ ha)) cf10 (by first | rfl | assumption) dX10_gain_15 cw_RX10_143 (by decide) (Nat.le_of_ble_eq_true rfl) ?_
    refine g_pop (pc := 18) dX10_gain_18 rfl ?_
    refine g_iload4 (pc := 19) dX10_gain_19 ?_
    refine g_iconst (pc := 21) (1) dX10_gain_21 (by decide) ?_
    refine g_icmp_ne (pc := 22) 35 dX10_gain_22 (by decide) (fun zh22 => ?_) (fun zh22 => ?_)
    · skip
      first | refine g_aload0 (pc := 35) dX10_gain_35 ?_ | refine g_aloadN0 (pc := 35) dX10_gain_35 ?_
      refine g_getR (pc := 36) (j := 3) cf10 dX10_gain_36 fl_RX10_16 (by decide) (by decide) (by first | rfl | assumption) (82) (rfl) ?_
      refine g_bipush (pc := 39) (55) dX10_gain_39 (by decide) ?_
      refine g_iload5 (pc := 41) dX10_gain_41 ?_
      refine g_iadd (pc := 43) dX10_gain_43 ?_
      refine g_ialdX (pc := 44) (55 + p) dX10_gain_44 (rfl) (nI_add 55 p) (by have := ln_all; omega) (by decide) ?_
      refine g_iconst (pc := 45) (2) dX10_gain_45 (by decide) ?_
      first | refine g_aload0 (pc := 46) dX10_gain_46 ?_ | refine g_aloadN0 (pc := 46) dX10_gain_46 ?_
      refine g_iconst (pc := 47) (1) dX10_gain_47 (by decide) ?_
      refine g_fV1 (pc := 48) (c_X10_blackOn (l := 1) (by decide)) cf10 (by first | rfl | assumption) dX10_gain_48 cw_RX10_193 (by decide) (Nat.le_of_ble_eq_true rfl) ?_
      refine g_fS1 (pc := 51) (c_X10_ones) dX10_gain_51 cw_RX10_196 (by decide) (Nat.le_of_ble_eq_true rfl) ?_
      refine g_imul (pc := 54) dX10_gain_54 ?_
      refine g_iadd (pc := 55) dX10_gain_55 ?_
      refine g_iret (pc := 56) dX10_gain_56 rfl ?_
      first
        | (have ee : gaM v a b w x y = (woA (woA (ltV v) a w).2 b w).2 := (if_pos zh22).trans (congrArg (fun zt => (woA zt b w).2) (if_pos zh6))
           exact ⟨congrArg (fun zt => some (Value.int (zt 82 (55 + p) + 2 * onF (bkF zt 1)))) ee.symm, ee.symm, rfl⟩)
        | (have ee : gaM v a b w x y = (woA (ltV v) b w).2 := (if_pos zh22).trans (congrArg (fun zt => (woA zt b w).2) (if_neg zh6))
           exact ⟨congrArg (fun zt => some (Value.int (zt 82 (55 + p) + 2 * onF (bkF zt 1)))) ee.symm, ee.symm, rfl⟩)
        | (have ee : gaM v a b w x y = (woA (ltV v) a w).2 := (if_neg zh22).trans (if_pos zh6)
           exact ⟨congrArg (fun zt => some (Value.int (zt 82 (55 + p) + 2 * onF (bkF zt 1)))) ee.symm, ee.symm, rfl⟩)
        | (have ee : gaM v a b w x y = ltV v := (if_neg zh22).trans (if_neg zh6)
           exact ⟨congrArg (fun zt => some (Value.int (zt 82 (55 + p) + 2 * onF (bkF zt 1)))) ee.symm, ee.symm, rfl⟩)
    · skip
      first | refine g_aload0 (pc := 25) dX10_gain_25 ?_ | refine g_aloadN0 (pc := 25) dX10_gain_25 ?_
      refine g_iconst (pc := 26) (1) dX10_gain_26 (by decide) ?_
      refine g_iload2 (pc := 27) dX10_gain_27 ?_
      refine g_bipush (pc := 28) (8) dX10_gain_28 (by decide) ?_
      refine g_iconst (pc := 30) (0) dX10_gain_30 (by decide) ?_
      refine g_fV4 (pc := 31) ((by first | exact c_X10_writeOn (l := 1) (q := 8) (n := n) (w := w) (by decide) hb hM2.1 (by decide) hM2.2.2.2.1 hM2.2.1 hM2.2.2.1 (hM2.2.2.2.2 _ hb) | exact c_X10_writeOn (l := 1) (q := 8) (n := n) (w := w) (by decide) hb hM.1 (by decide) hM.2.2.2.1 hM.2.1 hM.2.2.1 (hM.2.2.2.2 _ hb))) cf10 (by first | rfl | assumption) dX10_gain_31 cw_RX10_143 (by decide) (Nat.le_of_ble_eq_true rfl) ?_
      refine g_pop (pc := 34) dX10_gain_34 rfl ?_
      first | refine g_aload0 (pc := 35) dX10_gain_35 ?_ | refine g_aloadN0 (pc := 35) dX10_gain_35 ?_
      refine g_getR (pc := 36) (j := 3) cf10 dX10_gain_36 fl_RX10_16 (by decide) (by decide) (by first | rfl | assumption) (82) (rfl) ?_
      refine g_bipush (pc := 39) (55) dX10_gain_39 (by decide) ?_
      refine g_iload5 (pc := 41) dX10_gain_41 ?_
      refine g_iadd (pc := 43) dX10_gain_43 ?_
      refine g_ialdX (pc := 44) (55 + p) dX10_gain_44 (rfl) (nI_add 55 p) (by have := ln_all; omega) (by decide) ?_
      refine g_iconst (pc := 45) (2) dX10_gain_45 (by decide) ?_
      first | refine g_aload0 (pc := 46) dX10_gain_46 ?_ | refine g_aloadN0 (pc := 46) dX10_gain_46 ?_
      refine g_iconst (pc := 47) (1) dX10_gain_47 (by decide) ?_
      refine g_fV1 (pc := 48) (c_X10_blackOn (l := 1) (by decide)) cf10 (by first | rfl | assumption) dX10_gain_48 cw_RX10_193 (by decide) (Nat.le_of_ble_eq_true rfl) ?_
      refine g_fS1 (pc := 51) (c_X10_ones) dX10_gain_51 cw_RX10_196 (by decide) (Nat.le_of_ble_eq_true rfl) ?_
      refine g_imul (pc := 54) dX10_gain_54 ?_
      refine g_iadd (pc := 55) dX10_gain_55 ?_
      refine g_iret (pc := 56) dX10_gain_56 rfl ?_
      first
        | (have ee : gaM v a b w x y = (woA (woA (ltV v) a w).2 b w).2 := (if_pos zh22).trans (congrArg (fun zt => (woA zt b w).2) (if_pos zh6))
           exact ⟨congrArg (fun zt => some (Value.int (zt 82 (55 + p) + 2 * onF (bkF zt 1)))) ee.symm, ee.symm, rfl⟩)
        | (have ee : gaM v a b w x y = (woA (ltV v) b w).2 := (if_pos zh22).trans (congrArg (fun zt => (woA zt b w).2) (if_neg zh6))
           exact ⟨congrArg (fun zt => some (Value.int (zt 82 (55 + p) + 2 * onF (bkF zt 1)))) ee.symm, ee.symm, rfl⟩)
        | (have ee : gaM v a b w x y = (woA (ltV v) a w).2 := (if_neg zh22).trans (if_pos zh6)
           exact ⟨congrArg (fun zt => some (Value.int (zt 82 (55 + p) + 2 * onF (bkF zt 1)))) ee.symm, ee.symm, rfl⟩)
        | (have ee : gaM v a b w x y = ltV v := (if_neg zh22).trans (if_neg zh6)
           exact ⟨congrArg (fun zt => some (Value.int (zt 82 (55 + p) + 2 * onF (bkF zt 1)))) ee.symm, ee.symm, rfl⟩)
theorem c_X10_isRest {n w a b : Nat} {x y : Int32} {v : Mm} {L : Lm} (zh0 : M0 v n w) (ha : a < n) (hb : b < n) : Fn yX10_isRest cX10_isRest 5 (some .boolean) 5 [.ref 79, .int (nI a), .int (nI b), .int x, .int y] v L (some (.int (iR v a b w x y).1)) (iR v a b w x y).2 L := by
  have hn4 := zh0.1
  have g1 := lo_gaM (x := 1 - x) (y := y) zh0 ha hb
  have g2 := g1.tr (lo_gaM (x := x) (y := y) (zh0.lo g1) ha hb)
  have g3 := g2.tr (lo_gaM (x := x) (y := 1 - y) (zh0.lo g2) ha hb)
  refine Fq.of (plainFor_of_name (by decide)) [some (.ref 79), some (.int (nI a)), some (.int (nI b)), some (.int x), some (.int y)] rfl (Nat.le_of_ble_eq_true rfl) ?_
  first | refine g_aload0 (pc := 0) dX10_isRest_0 ?_ | refine g_aloadN0 (pc := 0) dX10_isRest_0 ?_
  refine g_iload1 (pc := 1) dX10_isRest_1 ?_
  refine g_iload2 (pc := 2) dX10_isRest_2 ?_
  refine g_iconst (pc := 3) (1) dX10_isRest_3 (by decide) ?_
  refine g_iload3 (pc := 4) dX10_isRest_4 ?_
  refine g_isub (pc := 5) dX10_isRest_5 ?_
  refine g_iload4 (pc := 6) dX10_isRest_6 ?_
  refine g_iload1 (pc := 8) dX10_isRest_8 ?_
  refine g_fV5 (pc := 9) (c_X10_gain zh0 ha hb (by omega)) cf10 (by first | rfl | assumption) dX10_isRest_9 cw_RX10_208 (by decide) (Nat.le_of_ble_eq_true rfl) ?_
  first | refine g_aload0 (pc := 12) dX10_isRest_12 ?_ | refine g_aloadN0 (pc := 12) dX10_isRest_12 ?_
  refine g_iload1 (pc := 13) dX10_isRest_13 ?_
  refine g_iload2 (pc := 14) dX10_isRest_14 ?_
  refine g_iload3 (pc := 15) dX10_isRest_15 ?_
  refine g_iload4 (pc := 16) dX10_isRest_16 ?_
  refine g_iload1 (pc := 18) dX10_isRest_18 ?_
  refine g_fV5 (pc := 19) (c_X10_gain (zh0.lo g1) ha hb (by omega)) cf10 (by first | rfl | assumption) dX10_isRest_19 cw_RX10_208 (by decide) (Nat.le_of_ble_eq_true rfl) ?_
  refine g_icmp_gt (pc := 22) 54 dX10_isRest_22 (by decide) (fun zh22 => ?_) (fun zh22 => ?_)
  · skip
    refine g_iconst (pc := 54) (0) dX10_isRest_54 (by decide) ?_
    refine g_zret (pc := 55) dX10_isRest_55 rfl (by first | exact Or.inl rfl | exact Or.inr rfl | assumption) ?_
    have ee : iR v a b w x y = (0, _) := if_neg (i32nle.mpr zh22)
    exact ⟨congrArg (fun zt => some (Value.int zt.1)) ee.symm, congrArg Prod.snd ee.symm, rfl⟩
  · skip
    first | refine g_aload0 (pc := 25) dX10_isRest_25 ?_ | refine g_aloadN0 (pc := 25) dX10_isRest_25 ?_
    refine g_iload1 (pc := 26) dX10_isRest_26 ?_
    refine g_iload2 (pc := 27) dX10_isRest_27 ?_
    refine g_iload3 (pc := 28) dX10_isRest_28 ?_
    refine g_iconst (pc := 29) (1) dX10_isRest_29 (by decide) ?_
    refine g_iload4 (pc := 30) dX10_isRest_30 ?_
    refine g_isub (pc := 32) dX10_isRest_32 ?_
    refine g_iload2 (pc := 33) dX10_isRest_33 ?_
    refine g_fV5 (pc := 34) (c_X10_gain (zh0.lo g2) ha hb (by omega)) cf10 (by first | rfl | assumption) dX10_isRest_34 cw_RX10_208 (by decide) (Nat.le_of_ble_eq_true rfl) ?_
    first | refine g_aload0 (pc := 37) dX10_isRest_37 ?_ | refine g_aloadN0 (pc := 37) dX10_isRest_37 ?_
    refine g_iload1 (pc := 38) dX10_isRest_38 ?_
    refine g_iload2 (pc := 39) dX10_isRest_39 ?_
    refine g_iload3 (pc := 40) dX10_isRest_40 ?_
    refine g_iload4 (pc := 41) dX10_isRest_41 ?_
    refine g_iload2 (pc := 43) dX10_isRest_43 ?_
    refine g_fV5 (pc := 44) (c_X10_gain (zh0.lo g3) ha hb (by omega)) cf10 (by first | rfl | assumption) dX10_isRest_44 cw_RX10_208 (by decide) (Nat.le_of_ble_eq_true rfl) ?_
    refine g_icmp_gt (pc := 47) 54 dX10_isRest_47 (by decide) (fun zh47 => ?_) (fun zh47 => ?_)
    · skip
      refine g_iconst (pc := 54) (0) dX10_isRest_54 (by decide) ?_
      refine g_zret (pc := 55) dX10_isRest_55 rfl (by first | exact Or.inl rfl | exact Or.inr rfl | assumption) ?_
      have ee : iR v a b w x y = (b01 _, _) := if_pos (i32nlt.mp zh22)
      rw [b01_f (i32nle.mpr zh47)] at ee
      exact ⟨congrArg (fun zt => some (Value.int zt.1)) ee.symm, congrArg Prod.snd ee.symm, rfl⟩
    · skip
      refine g_iconst (pc := 50) (1) dX10_isRest_50 (by decide) ?_
      refine g_goto (pc := 51) 55 dX10_isRest_51 (by decide) ?_
      refine g_zret (pc := 55) dX10_isRest_55 rfl (by first | exact Or.inl rfl | exact Or.inr rfl | assumption) ?_
      have ee : iR v a b w x y = (b01 _, _) := if_pos (i32nlt.mp zh22)
      rw [b01_t (i32nlt.mp zh47)] at ee
      exact ⟨congrArg (fun zt => some (Value.int zt.1)) ee.symm, congrArg Prod.snd ee.symm, rfl⟩
theorem lp_X10_rests {n w a b : Nat} {x3 : Int32} {v : Mm} {L : Lm} (zh0 : M0 v n w) (ha : a < n) (hb : b < n) (hI0 : (fun (_ : Nat) (zs : Int32 × Int32 × Mm) => Lo v zs.2.2) 0 (0, -9, v)) : (fun (i : Nat) (u : Int32 × Int32 × Mm) =>  G RX10 cX10_rests 7 (some .int) 6 (fun za zb K => za = some (.int (if x3 = 0 then (itr (rtS a b w) 4 (0, -9, v)).1 else (itr (rtS a b w) 4 (0, -9, v)).2.1)) ∧ zb = (itr (rtS a b w) 4 (0, -9, v)).2.2 ∧ K = L) 46 [some (.ref 79), some (.int (nI a)), some (.int (nI b)), some (.int x3), some (.int u.1), some (.int u.2.1), some (.int (nI i))] [] u.2.2 L) 0 ((0 : Int32), (-9 : Int32), v) := by
  refine g_for 4 (rtS a b w) (fun (_ : Nat) (zs : Int32 × Int32 × Mm) => Lo v zs.2.2) (fun (i : Nat) (u : Int32 × Int32 × Mm) =>  G RX10 cX10_rests 7 (some .int) 6 (fun za zb K => za = some (.int (if x3 = 0 then (itr (rtS a b w) 4 (0, -9, v)).1 else (itr (rtS a b w) 4 (0, -9, v)).2.1)) ∧ zb = (itr (rtS a b w) 4 (0, -9, v)).2.2 ∧ K = L) 46 [some (.ref 79), some (.int (nI a)), some (.int (nI b)), some (.int x3), some (.int u.1), some (.int u.2.1), some (.int (nI i))] [] u.2.2 L) ((0 : Int32), (-9 : Int32), v) hI0 ?_ (fun hI => ?_) (fun i u hi hI hn => ?_)
  · intro zi zs zl zh
    have zg := zh.tr (lo_iR (x := nI (zi / 2)) (y := nI (zi % 2)) (zh0.lo zh) ha hb)
    show Lo v (rtS a b w zi zs).2.2
    unfold rtS
    split
    · exact zg
    · exact zg
  · show G _ _ _ _ _ _ _ _ _ _ _
    try dsimp only at hI
    refine g_iload6 (pc := 46) dX10_rests_46 ?_
    refine g_iconst (pc := 48) (4) dX10_rests_48 (by decide) ?_
    refine g_icmp_ge (pc := 49) 102 dX10_rests_49 (by decide) (fun zh49 => ?_) (fun zh49 => ?_)
    · skip
      refine g_iload3 (pc := 102) dX10_rests_102 ?_
      refine g_if_ne (pc := 103) 111 dX10_rests_103 (by decide) (fun zh103 => ?_) (fun zh103 => ?_)
      · skip
        refine g_iload5 (pc := 111) dX10_rests_111 ?_
        refine g_iret (pc := 113) dX10_rests_113 rfl ?_
        first | exact ⟨congrArg (fun zt => some (Value.int zt)) (if_pos zh103).symm, rfl, rfl⟩ | exact ⟨congrArg (fun zt => some (Value.int zt)) (if_neg zh103).symm, rfl, rfl⟩
      · skip
        refine g_iload4 (pc := 106) dX10_rests_106 ?_
        refine g_goto (pc := 108) 113 dX10_rests_108 (by decide) ?_
        refine g_iret (pc := 113) dX10_rests_113 rfl ?_
        first | exact ⟨congrArg (fun zt => some (Value.int zt)) (if_pos zh103).symm, rfl, rfl⟩ | exact ⟨congrArg (fun zt => some (Value.int zt)) (if_neg zh103).symm, rfl, rfl⟩
    · skip
      exact absurd (Int32.le_refl _) zh49
  · show G _ _ _ _ _ _ _ _ _ _ _
    try dsimp only at hI
    try dsimp only at hn
    refine g_iload6 (pc := 46) dX10_rests_46 ?_
    refine g_iconst (pc := 48) (4) dX10_rests_48 (by decide) ?_
    refine g_icmp_ge (pc := 49) 102 dX10_rests_49 (by decide) (fun zh49 => ?_) (fun zh49 => ?_)
    · skip
      exact absurd zh49 (nI_ge (b := 4) hi (by decide))
    · skip
      first | refine g_aload0 (pc := 52) dX10_rests_52 ?_ | refine g_aloadN0 (pc := 52) dX10_rests_52 ?_
      refine g_iload1 (pc := 53) dX10_rests_53 ?_
      refine g_iload2 (pc := 54) dX10_rests_54 ?_
      refine g_iload6 (pc := 55) dX10_rests_55 ?_
      refine g_iconst (pc := 57) (2) dX10_rests_57 (by decide) ?_
      refine g_idiv (pc := 58) dX10_rests_58 (by decide) ?_
      refine g_iload6 (pc := 59) dX10_rests_59 ?_
      refine g_iconst (pc := 61) (2) dX10_rests_61 (by decide) ?_
      refine g_irem (pc := 62) dX10_rests_62 (by decide) ?_
      rw [show nI i - nI i / 2 * 2 = nI (i % 2) from pk_rem (d := 2) (by omega) (by decide) (by decide), show nI i / 2 = nI (i / 2) from pk_div (d := 2) (by omega) (by decide) (by decide)]
      refine g_fV4 (pc := 63) (c_X10_isRest (zh0.lo hI) ha hb) cf10 (by first | rfl | assumption) dX10_rests_63 cw_RX10_212 (by decide) (Nat.le_of_ble_eq_true rfl) ?_
      refine g_if_eq (pc := 66) 96 dX10_rests_66 (by decide) (fun zh66 => ?_) (fun zh66 => ?_)
      · skip
        refine g_iinc6 (pc := 96) (nI (i + 1)) dX10_rests_96 (nI_succ' i) (by decide) (by first | rfl | assumption) ?_
        refine g_goto (pc := 99) 46 dX10_rests_99 (by decide) ?_
        first
          | (have ee : rtS a b w i u = (u.1, u.2.1, (iR u.2.2 a b w (nI (i / 2)) (nI (i % 2))).2) := if_pos zh66
             rw [ee] at hn; exact hn)
          | (have ee : rtS a b w i u = (u.1 + 1, 10 * nI (i / 2) + nI (i % 2), (iR u.2.2 a b w (nI (i / 2)) (nI (i % 2))).2) := (if_neg zh66).trans (congrArg (fun zt => (u.1 + 1, zt, (iR u.2.2 a b w (nI (i / 2)) (nI (i % 2))).2)) (if_pos zh71))
             rw [ee] at hn; exact hn)
          | (have ee : rtS a b w i u = (u.1 + 1, u.2.1, (iR u.2.2 a b w (nI (i / 2)) (nI (i % 2))).2) := (if_neg zh66).trans (congrArg (fun zt => (u.1 + 1, zt, (iR u.2.2 a b w (nI (i / 2)) (nI (i % 2))).2)) (if_neg zh71))
             rw [ee] at hn; exact hn)
      · skip
        refine g_iload4 (pc := 69) dX10_rests_69 ?_
        refine g_if_ne (pc := 71) 89 dX10_rests_71 (by decide) (fun zh71 => ?_) (fun zh71 => ?_)
        · skip
          refine g_iload5 (pc := 89) dX10_rests_89 ?_
          refine g_istore5 (pc := 91) dX10_rests_91 (by decide) (by first | rfl | assumption) ?_
          refine g_iinc4 (pc := 93) (_) dX10_rests_93 (rfl) (by decide) (by first | rfl | assumption) ?_
          refine g_iinc6 (pc := 96) (nI (i + 1)) dX10_rests_96 (nI_succ' i) (by decide) (by first | rfl | assumption) ?_
          refine g_goto (pc := 99) 46 dX10_rests_99 (by decide) ?_
          first
            | (have ee : rtS a b w i u = (u.1, u.2.1, (iR u.2.2 a b w (nI (i / 2)) (nI (i % 2))).2) := if_pos zh66
               rw [ee] at hn; exact hn)
            | (have ee : rtS a b w i u = (u.1 + 1, 10 * nI (i / 2) + nI (i % 2), (iR u.2.2 a b w (nI (i / 2)) (nI (i % 2))).2) := (if_neg zh66).trans (congrArg (fun zt => (u.1 + 1, zt, (iR u.2.2 a b w (nI (i / 2)) (nI (i % 2))).2)) (if_pos zh71))
               rw [ee] at hn; exact hn)
            | (have ee : rtS a b w i u = (u.1 + 1, u.2.1, (iR u.2.2 a b w (nI (i / 2)) (nI (i % 2))).2) := (if_neg zh66).trans (congrArg (fun zt => (u.1 + 1, zt, (iR u.2.2 a b w (nI (i / 2)) (nI (i % 2))).2)) (if_neg zh71))
               rw [ee] at hn; exact hn)
        · skip
          refine g_bipush (pc := 74) (10) dX10_rests_74 (by decide) ?_
          refine g_iload6 (pc := 76) dX10_rests_76 ?_
          refine g_iconst (pc := 78) (2) dX10_rests_78 (by decide) ?_
          refine g_idiv (pc := 79) dX10_rests_79 (by decide) ?_
          refine g_imul (pc := 80) dX10_rests_80 ?_
          refine g_iload6 (pc := 81) dX10_rests_81 ?_
          refine g_iconst (pc := 83) (2) dX10_rests_83 (by decide) ?_
          refine g_irem (pc := 84) dX10_rests_84 (by decide) ?_
          rw [show nI i - nI i / 2 * 2 = nI (i % 2) from pk_rem (d := 2) (by omega) (by decide) (by decide), show nI i / 2 = nI (i / 2) from pk_div (d := 2) (by omega) (by decide) (by decide)]
          refine g_iadd (pc := 85) dX10_rests_85 ?_
          refine g_goto (pc := 86) 91 dX10_rests_86 (by decide) ?_
          refine g_istore5 (pc := 91) dX10_rests_91 (by decide) (by first | rfl | assumption) ?_
          refine g_iinc4 (pc := 93) (_) dX10_rests_93 (rfl) (by decide) (by first | rfl | assumption) ?_
          refine g_iinc6 (pc := 96) (nI (i + 1)) dX10_rests_96 (nI_succ' i) (by decide) (by first | rfl | assumption) ?_
          refine g_goto (pc := 99) 46 dX10_rests_99 (by decide) ?_
          first
            | (have ee : rtS a b w i u = (u.1, u.2.1, (iR u.2.2 a b w (nI (i / 2)) (nI (i % 2))).2) := if_pos zh66
               rw [ee] at hn; exact hn)
            | (have ee : rtS a b w i u = (u.1 + 1, 10 * nI (i / 2) + nI (i % 2), (iR u.2.2 a b w (nI (i / 2)) (nI (i % 2))).2) := (if_neg zh66).trans (congrArg (fun zt => (u.1 + 1, zt, (iR u.2.2 a b w (nI (i / 2)) (nI (i % 2))).2)) (if_pos zh71))
               rw [ee] at hn; exact hn)
            | (have ee : rtS a b w i u = (u.1 + 1, u.2.1, (iR u.2.2 a b w (nI (i / 2)) (nI (i % 2))).2) := (if_neg zh66).trans (congrArg (fun zt => (u.1 + 1, zt, (iR u.2.2 a b w (nI (i / 2)) (nI (i % 2))).2)) (if_neg zh71))
               rw [ee] at hn; exact hn)
theorem c_X10_rests_u {n : Nat} {x y z : Int32} {v : Mm} {L : Lm} (hn : v 79 0 = nI n) (hn4 : n ≤ 4) (hx : ¬ ((0 ≤ x ∧ x < nI n) ∧ (0 ≤ y ∧ y < nI n))) : Fn yX10_rests cX10_rests 7 (some .int) 6 [.ref 79, .int x, .int y, .int z] v L (some (.int (-1))) v L := by
  refine Fq.of (plainFor_of_name (by decide)) [some (.ref 79), some (.int x), some (.int y), some (.int z), none, none, none] rfl (Nat.le_of_ble_eq_true rfl) ?_
  first | refine g_aload0 (pc := 0) dX10_rests_0 ?_ | refine g_aloadN0 (pc := 0) dX10_rests_0 ?_
  refine g_iload1 (pc := 1) dX10_rests_1 ?_
  refine g_fV1 (pc := 2) (c_X10_isPen hn hn4) cf10 (by first | rfl | assumption) dX10_rests_2 cw_RX10_115 (by decide) (Nat.le_of_ble_eq_true rfl) ?_
  refine g_if_eq (pc := 5) 16 dX10_rests_5 (by decide) (fun zh5 => ?_) (fun zh5 => ?_)
  · skip
    refine g_iconst (pc := 16) (-1) dX10_rests_16 (by decide) ?_
    refine g_iret (pc := 17) dX10_rests_17 rfl ?_
    exact ⟨rfl, rfl, rfl⟩
  · skip
    first | refine g_aload0 (pc := 8) dX10_rests_8 ?_ | refine g_aloadN0 (pc := 8) dX10_rests_8 ?_
    refine g_iload2 (pc := 9) dX10_rests_9 ?_
    refine g_fV1 (pc := 10) (c_X10_isPen hn hn4) cf10 (by first | rfl | assumption) dX10_rests_10 cw_RX10_115 (by decide) (Nat.le_of_ble_eq_true rfl) ?_
    refine g_if_ne (pc := 13) 18 dX10_rests_13 (by decide) (fun zh13 => ?_) (fun zh13 => ?_)
    · skip
      exact absurd ⟨b01_ne0.mp zh5, b01_ne0.mp zh13⟩ hx
    · skip
      refine g_iconst (pc := 16) (-1) dX10_rests_16 (by decide) ?_
      refine g_iret (pc := 17) dX10_rests_17 rfl ?_
      exact ⟨rfl, rfl, rfl⟩
theorem c_X10_rests_o {n a b : Nat} {z : Int32} {v : Mm} {L : Lm} (hn : v 79 0 = nI n) (hn4 : n ≤ 4) (ha : a < n) (hb : b < n) (hz : ¬ (¬ a = b ∧ (0 ≤ z ∧ z ≤ 1))) : Fn yX10_rests cX10_rests 7 (some .int) 6 [.ref 79, .int (nI a), .int (nI b), .int z] v L (some (.int (-2))) v L := by
  have zi : ∀ zx : Int32, ((0 : Int64) ≤ zx.toInt64 ∧ zx.toInt64 ≤ 1) ↔ (0 ≤ zx ∧ zx ≤ 1) := fun zx => inI (y := zx) (by decide) (by decide)
  refine Fq.of (plainFor_of_name (by decide)) [some (.ref 79), some (.int (nI a)), some (.int (nI b)), some (.int z), none, none, none] rfl (Nat.le_of_ble_eq_true rfl) ?_
  first | refine g_aload0 (pc := 0) dX10_rests_0 ?_ | refine g_aloadN0 (pc := 0) dX10_rests_0 ?_
  refine g_iload1 (pc := 1) dX10_rests_1 ?_
  refine g_fV1 (pc := 2) (c_X10_isPen hn hn4) cf10 (by first | rfl | assumption) dX10_rests_2 cw_RX10_115 (by decide) (Nat.le_of_ble_eq_true rfl) ?_
  refine g_if_eq (pc := 5) 16 dX10_rests_5 (by decide) (fun zh5 => ?_) (fun zh5 => ?_)
  · skip
    exact absurd ⟨nI_pos' (by omega), nI_lt ha (by omega)⟩ (b01_eq0.mp zh5)
  · skip
    first | refine g_aload0 (pc := 8) dX10_rests_8 ?_ | refine g_aloadN0 (pc := 8) dX10_rests_8 ?_
    refine g_iload2 (pc := 9) dX10_rests_9 ?_
    refine g_fV1 (pc := 10) (c_X10_isPen hn hn4) cf10 (by first | rfl | assumption) dX10_rests_10 cw_RX10_115 (by decide) (Nat.le_of_ble_eq_true rfl) ?_
    refine g_if_ne (pc := 13) 18 dX10_rests_13 (by decide) (fun zh13 => ?_) (fun zh13 => ?_)
    · skip
      refine g_iload1 (pc := 18) dX10_rests_18 ?_
      refine g_iload2 (pc := 19) dX10_rests_19 ?_
      refine g_icmp_eq (pc := 20) 33 dX10_rests_20 (by decide) (fun zh20 => ?_) (fun zh20 => ?_)
      · skip
        refine g_bipush (pc := 33) (-2) dX10_rests_33 (by decide) ?_
        refine g_iret (pc := 35) dX10_rests_35 rfl ?_
        exact ⟨rfl, rfl, rfl⟩
      · skip
        refine g_iload3 (pc := 23) dX10_rests_23 ?_
        refine g_i2l (pc := 24) dX10_rests_24 ?_
        refine g_lconst (pc := 25) (0) dX10_rests_25 (by decide) ?_
        refine g_lconst (pc := 26) (1) dX10_rests_26 (by decide) ?_
        refine g_fS3 (pc := 27) (c_X10_in) dX10_rests_27 cw_RX10_52 (by decide) (Nat.le_of_ble_eq_true rfl) ?_
        refine g_if_ne (pc := 30) 36 dX10_rests_30 (by decide) (fun zh30 => ?_) (fun zh30 => ?_)
        · skip
          exact absurd ⟨fun zq => zh20 (congrArg nI zq), (zi _).mp (b01_ne0.mp zh30)⟩ hz
        · skip
          refine g_bipush (pc := 33) (-2) dX10_rests_33 (by decide) ?_
          refine g_iret (pc := 35) dX10_rests_35 rfl ?_
          exact ⟨rfl, rfl, rfl⟩
    · skip
      exact absurd ⟨nI_pos' (by omega), nI_lt hb (by omega)⟩ (b01_eq0.mp zh13)
theorem c_X10_rests_s {n w a b : Nat} {z : Int32} {v : Mm} {L : Lm} (zh0 : M0 v n w) (ha : a < n) (hb : b < n) (hab : ¬ a = b) (hz : 0 ≤ z ∧ z ≤ 1) : Fn yX10_rests cX10_rests 7 (some .int) 6 [.ref 79, .int (nI a), .int (nI b), .int z] v L (some (.int (if z = 0 then (itr (rtS a b w) 4 (0, -9, v)).1 else (itr (rtS a b w) 4 (0, -9, v)).2.1))) (itr (rtS a b w) 4 (0, -9, v)).2.2 L := by
  have zi : ∀ zx : Int32, ((0 : Int64) ≤ zx.toInt64 ∧ zx.toInt64 ≤ 1) ↔ (0 ≤ zx ∧ zx ≤ 1) := fun zx => inI (y := zx) (by decide) (by decide)
  have hn := zh0.2.1
  have hn4 := zh0.1
  refine Fq.of (plainFor_of_name (by decide)) [some (.ref 79), some (.int (nI a)), some (.int (nI b)), some (.int z), none, none, none] rfl (Nat.le_of_ble_eq_true rfl) ?_
  first | refine g_aload0 (pc := 0) dX10_rests_0 ?_ | refine g_aloadN0 (pc := 0) dX10_rests_0 ?_
  refine g_iload1 (pc := 1) dX10_rests_1 ?_
  refine g_fV1 (pc := 2) (c_X10_isPen hn hn4) cf10 (by first | rfl | assumption) dX10_rests_2 cw_RX10_115 (by decide) (Nat.le_of_ble_eq_true rfl) ?_
  refine g_if_eq (pc := 5) 16 dX10_rests_5 (by decide) (fun zh5 => ?_) (fun zh5 => ?_)
  · skip
    exact absurd ⟨nI_pos' (by omega), nI_lt ha (by omega)⟩ (b01_eq0.mp zh5)
  · skip
    first | refine g_aload0 (pc := 8) dX10_rests_8 ?_ | refine g_aloadN0 (pc := 8) dX10_rests_8 ?_
    refine g_iload2 (pc := 9) dX10_rests_9 ?_
    refine g_fV1 (pc := 10) (c_X10_isPen hn hn4) cf10 (by first | rfl | assumption) dX10_rests_10 cw_RX10_115 (by decide) (Nat.le_of_ble_eq_true rfl) ?_
    refine g_if_ne (pc := 13) 18 dX10_rests_13 (by decide) (fun zh13 => ?_) (fun zh13 => ?_)
    · skip
      refine g_iload1 (pc := 18) dX10_rests_18 ?_
      refine g_iload2 (pc := 19) dX10_rests_19 ?_
      refine g_icmp_eq (pc := 20) 33 dX10_rests_20 (by decide) (fun zh20 => ?_) (fun zh20 => ?_)
      · skip
        exact absurd (nIj (by omega) (by omega) zh20) hab
      · skip
        refine g_iload3 (pc := 23) dX10_rests_23 ?_
        refine g_i2l (pc := 24) dX10_rests_24 ?_
        refine g_lconst (pc := 25) (0) dX10_rests_25 (by decide) ?_
        refine g_lconst (pc := 26) (1) dX10_rests_26 (by decide) ?_
        refine g_fS3 (pc := 27) (c_X10_in) dX10_rests_27 cw_RX10_52 (by decide) (Nat.le_of_ble_eq_true rfl) ?_
        refine g_if_ne (pc := 30) 36 dX10_rests_30 (by decide) (fun zh30 => ?_) (fun zh30 => ?_)
        · skip
          refine g_iconst (pc := 36) (0) dX10_rests_36 (by decide) ?_
          refine g_istore4 (pc := 37) dX10_rests_37 (by decide) (by first | rfl | assumption) ?_
          refine g_bipush (pc := 39) (-9) dX10_rests_39 (by decide) ?_
          refine g_istore5 (pc := 41) dX10_rests_41 (by decide) (by first | rfl | assumption) ?_
          refine g_iconst (pc := 43) (0) dX10_rests_43 (by decide) ?_
          refine g_istore6 (pc := 44) dX10_rests_44 (by decide) (by first | rfl | assumption) ?_
          exact lp_X10_rests zh0 ha hb (Lo.rf v)
        · skip
          exact absurd ((zi _).mpr hz) (b01_eq0.mp zh30)
    · skip
      exact absurd ⟨nI_pos' (by omega), nI_lt hb (by omega)⟩ (b01_eq0.mp zh13)
theorem lp_X10_share {n w p : Nat} {y : Int32} {v : Mm} {L : Lm} {Q : Qt} (zh0 : M0 v n w) (hp : p < n) (hI0 : (fun (_ : Nat) (zs : Int32 × Mm) => Lo v zs.2) 0 (0, v)) (hk : ∀ o5 : Option Value, G RX10 cX10_share 6 (some .int) 5 Q 90 [some (.ref 79), some (.int (nI p)), some (.int y), some (.int (itr (smS n w p) (2 ^ n) (0, v)).1), some (.int (nI (2 ^ n))), o5] [] (itr (smS n w p) (2 ^ n) (0, v)).2 L) : (fun (i : Nat) (u : Int32 × Mm) => ∀ (o5 : Option Value), G RX10 cX10_share 6 (some .int) 5 Q 15 [some (.ref 79), some (.int (nI p)), some (.int y), some (.int u.1), some (.int (nI i)), o5] [] u.2 L) 0 ((0 : Int32), v) := by
  refine g_for (2 ^ n) (smS n w p) (fun (_ : Nat) (zs : Int32 × Mm) => Lo v zs.2) (fun (i : Nat) (u : Int32 × Mm) => ∀ (o5 : Option Value), G RX10 cX10_share 6 (some .int) 5 Q 15 [some (.ref 79), some (.int (nI p)), some (.int y), some (.int u.1), some (.int (nI i)), o5] [] u.2 L) ((0 : Int32), v) hI0 ?_ (fun hI => ?_) (fun i u hi hI hn => ?_)
  · intro zi zs zl zh
    have zg := zh.tr (byM_lo (s := nI zi ||| bit1 p) (zh0.lo zh))
    have zg2 := zg.tr (byM_lo (s := nI zi) (zh0.lo zg))
    show Lo v (smS n w p zi zs).2
    unfold smS
    split
    · exact zh
    · exact zg2
  · intro o5
    show G _ _ _ _ _ _ _ _ _ _ _
    try dsimp only at hI
    have hn4 := zh0.1
    have hm := zh0.lo hI
    have z17 := sh2l n hn4
    refine g_iload4 (pc := 15) dX10_share_15 ?_
    refine g_iconst (pc := 17) (1) dX10_share_17 (by decide) ?_
    first | refine g_aload0 (pc := 18) dX10_share_18 ?_ | refine g_aloadN0 (pc := 18) dX10_share_18 ?_
    refine g_getI (pc := 19) (j := 0) cf10 dX10_share_19 fl_RX10_84 (by decide) (by decide) (by first | rfl | assumption) ?_
    rw [hm.2.1]
    refine g_ishl (pc := 22) dX10_share_22 ?_
    rw [sh2 n hn4]
    refine g_icmp_ge (pc := 23) 90 dX10_share_23 (by decide) (fun zh23 => ?_) (fun zh23 => ?_)
    · skip
      exact hk _
    · skip
      exact absurd (Int32.le_refl _) zh23
  · intro o5
    show G _ _ _ _ _ _ _ _ _ _ _
    try dsimp only at hI
    try dsimp only at hn
    have hn4 := zh0.1
    have hm := zh0.lo hI
    have z17 := sh2l n hn4
    refine g_iload4 (pc := 15) dX10_share_15 ?_
    refine g_iconst (pc := 17) (1) dX10_share_17 (by decide) ?_
    first | refine g_aload0 (pc := 18) dX10_share_18 ?_ | refine g_aloadN0 (pc := 18) dX10_share_18 ?_
    refine g_getI (pc := 19) (j := 0) cf10 dX10_share_19 fl_RX10_84 (by decide) (by decide) (by first | rfl | assumption) ?_
    rw [hm.2.1]
    refine g_ishl (pc := 22) dX10_share_22 ?_
    rw [sh2 n hn4]
    refine g_icmp_ge (pc := 23) 90 dX10_share_23 (by decide) (fun zh23 => ?_) (fun zh23 => ?_)
    · skip
      exact absurd zh23 (nI_ge hi (by omega))
    · skip
      refine g_iload4 (pc := 26) dX10_share_26 ?_
      refine g_iload1 (pc := 28) dX10_share_28 ?_
      refine g_fS2 (pc := 29) (c_X10_has) dX10_share_29 cw_RX10_126 (by decide) (Nat.le_of_ble_eq_true rfl) ?_
      refine g_if_ne (pc := 32) 84 dX10_share_32 (by decide) (fun zh32 => ?_) (fun zh32 => ?_)
      · skip
        refine g_iinc4 (pc := 84) (nI (i + 1)) dX10_share_84 (nI_succ' i) (by decide) (by first | rfl | assumption) ?_
        refine g_goto (pc := 87) 15 dX10_share_87 (by decide) ?_
        have ee : smS n w p i u = u := if_pos (b01_ne0.mp zh32)
        rw [ee] at hn; exact hn _
      · skip
        refine g_iload4 (pc := 35) dX10_share_35 ?_
        refine g_fS1 (pc := 37) (c_X10_ones) dX10_share_37 cw_RX10_196 (by decide) (Nat.le_of_ble_eq_true rfl) ?_
        have zo := on_le i (by omega)
        have zo2 := on_n n hn4 p hp i hi (b01_eq0.mp zh32)
        have zc : onF (nI i) = nI (onF (nI i)).toNatClampNeg := zo.2
        generalize hzk : (onF (nI i)).toNatClampNeg = zk at zc zo2 zo
        rw [zc]
        refine g_fS1 (pc := 40) (c_X10_factorial (by omega)) dX10_share_40 cw_RX10_199 (by decide) (Nat.le_of_ble_eq_true rfl) ?_
        first | refine g_aload0 (pc := 43) dX10_share_43 ?_ | refine g_aloadN0 (pc := 43) dX10_share_43 ?_
        refine g_getI (pc := 44) (j := 0) cf10 dX10_share_44 fl_RX10_84 (by decide) (by decide) (by first | rfl | assumption) ?_
        refine g_iconst (pc := 47) (1) dX10_share_47 (by decide) ?_
        refine g_isub (pc := 48) dX10_share_48 ?_
        refine g_iload4 (pc := 49) dX10_share_49 ?_
        refine g_fS1 (pc := 51) (c_X10_ones) dX10_share_51 cw_RX10_196 (by decide) (Nat.le_of_ble_eq_true rfl) ?_
        rw [hm.2.1]
        rw [zc]
        refine g_isub (pc := 54) dX10_share_54 ?_
        rw [show nI n - 1 - nI zk = nI (n - 1 - zk) from by rw [show (1 : Int32) = nI 1 from rfl, pk_sub (by omega), pk_sub zo2]]
        refine g_fS1 (pc := 55) (c_X10_factorial (by omega)) dX10_share_55 cw_RX10_199 (by decide) (Nat.le_of_ble_eq_true rfl) ?_
        refine g_imul (pc := 58) dX10_share_58 ?_
        refine g_istore5 (pc := 59) dX10_share_59 (by decide) (by first | rfl | assumption) ?_
        refine g_iload3 (pc := 61) dX10_share_61 ?_
        refine g_iload5 (pc := 62) dX10_share_62 ?_
        first | refine g_aload0 (pc := 64) dX10_share_64 ?_ | refine g_aloadN0 (pc := 64) dX10_share_64 ?_
        refine g_iload4 (pc := 65) dX10_share_65 ?_
        refine g_iconst (pc := 67) (1) dX10_share_67 (by decide) ?_
        refine g_iload1 (pc := 68) dX10_share_68 ?_
        refine g_ishl (pc := 69) dX10_share_69 ?_
        refine g_ior (pc := 70) dX10_share_70 ?_
        refine g_fV1 (pc := 71) (c_X10_blackBy (s := nI i ||| bit1 p) hm) cf10 (by first | rfl | assumption) dX10_share_71 cw_RX10_202 (by decide) (Nat.le_of_ble_eq_true rfl) ?_
        first | refine g_aload0 (pc := 74) dX10_share_74 ?_ | refine g_aloadN0 (pc := 74) dX10_share_74 ?_
        refine g_iload4 (pc := 75) dX10_share_75 ?_
        refine g_fV1 (pc := 77) (c_X10_blackBy (zh0.lo (hI.tr (byM_lo hm)))) cf10 (by first | rfl | assumption) dX10_share_77 cw_RX10_202 (by decide) (Nat.le_of_ble_eq_true rfl) ?_
        refine g_isub (pc := 80) dX10_share_80 ?_
        refine g_imul (pc := 81) dX10_share_81 ?_
        refine g_iadd (pc := 82) dX10_share_82 ?_
        refine g_istore3 (pc := 83) dX10_share_83 (by decide) (by first | rfl | assumption) ?_
        refine g_iinc4 (pc := 84) (nI (i + 1)) dX10_share_84 (nI_succ' i) (by decide) (by first | rfl | assumption) ?_
        refine g_goto (pc := 87) 15 dX10_share_87 (by decide) ?_
        have ee : smS n w p i u = (u.1 + fcP (nI i) n * (byR u.2 w (nI i ||| bit1 p) n - byR (byM u.2 w (nI i ||| bit1 p) n) w (nI i) n), byM (byM u.2 w (nI i ||| bit1 p) n) w (nI i) n) := if_neg (b01_eq0.mp zh32)
        have zf : fcP (nI i) n = fcF zk * fcF (n - 1 - zk) := by unfold fcP; rw [hzk]
        rw [ee, zf] at hn; exact hn _
theorem c_X10_share_u {n : Nat} {x y : Int32} {v : Mm} {L : Lm} (hn : v 79 0 = nI n) (hn4 : n ≤ 4) (hx : ¬ (0 ≤ x ∧ x < nI n)) : Fn yX10_share cX10_share 6 (some .int) 5 [.ref 79, .int x, .int y] v L (some (.int (-1))) v L := by
  refine Fq.of (plainFor_of_name (by decide)) [some (.ref 79), some (.int x), some (.int y), none, none, none] rfl (Nat.le_of_ble_eq_true rfl) ?_
  first | refine g_aload0 (pc := 0) dX10_share_0 ?_ | refine g_aloadN0 (pc := 0) dX10_share_0 ?_
  refine g_iload1 (pc := 1) dX10_share_1 ?_
  refine g_fV1 (pc := 2) (c_X10_isPen hn hn4) cf10 (by first | rfl | assumption) dX10_share_2 cw_RX10_115 (by decide) (Nat.le_of_ble_eq_true rfl) ?_
  refine g_if_ne (pc := 5) 10 dX10_share_5 (by decide) (fun zh5 => ?_) (fun zh5 => ?_)
  · skip
    exact absurd (b01_ne0.mp zh5) hx
  · skip
    refine g_iconst (pc := 8) (-1) dX10_share_8 (by decide) ?_
    refine g_iret (pc := 9) dX10_share_9 rfl ?_
    exact ⟨rfl, rfl, rfl⟩
theorem lp_X10_share_t {n p s t : Nat} {y : Int32} {o4 o5 : Option Value} {v : Mm} {L : Lm} (hn : v 79 0 = nI n) (hn4 : n ≤ 4) (hs : s < 2 ^ 31) (ht : fcF n = nI t) (ht0 : 0 < t) (ht31 : t < 2 ^ 31) : G RX10 cX10_share 6 (some .int) 5 (fun a b K => a = some (.int (if ¬ y = 0 then nI s / nI (Nat.gcd s t) else nI t / nI (Nat.gcd s t))) ∧ b = v ∧ K = L) 90 [some (.ref 79), some (.int (nI p)), some (.int y), some (.int (nI s)), o4, o5] [] v L := by
  have zg0 : 0 < Nat.gcd s t := Nat.gcd_pos_of_pos_right s ht0
  have zgl : Nat.gcd s t ≤ t := Nat.gcd_le_right s ht0
  refine g_iload3 (pc := 90) dX10_share_90 ?_
  first | refine g_aload0 (pc := 91) dX10_share_91 ?_ | refine g_aloadN0 (pc := 91) dX10_share_91 ?_
  refine g_getI (pc := 92) (j := 0) cf10 dX10_share_92 fl_RX10_84 (by decide) (by decide) (by first | rfl | assumption) ?_
  rw [hn]
  refine g_fS1 (pc := 95) (c_X10_factorial hn4) dX10_share_95 cw_RX10_199 (by decide) (Nat.le_of_ble_eq_true rfl) ?_
  rw [ht]
  refine g_fS2 (pc := 98) (c_X10_common hs ht31) dX10_share_98 cw_RX10_205 (by decide) (Nat.le_of_ble_eq_true rfl) ?_
  refine g_istore4 (pc := 101) dX10_share_101 (by decide) (by first | rfl | assumption) ?_
  refine g_iload2 (pc := 103) dX10_share_103 ?_
  refine g_if_eq (pc := 104) 114 dX10_share_104 (by decide) (fun zh104 => ?_) (fun zh104 => ?_)
  · skip
    first | refine g_aload0 (pc := 114) dX10_share_114 ?_ | refine g_aloadN0 (pc := 114) dX10_share_114 ?_
    refine g_getI (pc := 115) (j := 0) cf10 dX10_share_115 fl_RX10_84 (by decide) (by decide) (by first | rfl | assumption) ?_
    rw [hn]
    refine g_fS1 (pc := 118) (c_X10_factorial hn4) dX10_share_118 cw_RX10_199 (by decide) (Nat.le_of_ble_eq_true rfl) ?_
    rw [ht]
    refine g_iload4 (pc := 121) dX10_share_121 ?_
    refine g_idiv (pc := 123) dX10_share_123 (nI_ne0 zg0 (by omega)) ?_
    refine g_iret (pc := 124) dX10_share_124 rfl ?_
    first | exact ⟨congrArg (fun zt => some (Value.int zt)) (if_pos zh104).symm, rfl, rfl⟩ | exact ⟨congrArg (fun zt => some (Value.int zt)) (if_neg (fun zq => zq zh104)).symm, rfl, rfl⟩
  · skip
    refine g_iload3 (pc := 107) dX10_share_107 ?_
    refine g_iload4 (pc := 108) dX10_share_108 ?_
    refine g_idiv (pc := 110) dX10_share_110 (nI_ne0 zg0 (by omega)) ?_
    refine g_goto (pc := 111) 124 dX10_share_111 (by decide) ?_
    refine g_iret (pc := 124) dX10_share_124 rfl ?_
    first | exact ⟨congrArg (fun zt => some (Value.int zt)) (if_pos zh104).symm, rfl, rfl⟩ | exact ⟨congrArg (fun zt => some (Value.int zt)) (if_neg (fun zq => zq zh104)).symm, rfl, rfl⟩
theorem c_X10_share_s {n w p s t : Nat} {y : Int32} {v : Mm} {L : Lm} (zh0 : M0 v n w) (hp : p < n) (hsu : (itr (smS n w p) (2 ^ n) (0, v)).1 = nI s) (hs : s < 2 ^ 31) (ht : fcF n = nI t) (ht0 : 0 < t) (ht31 : t < 2 ^ 31) (hlo : Lo v (itr (smS n w p) (2 ^ n) (0, v)).2) : Fn yX10_share cX10_share 6 (some .int) 5 [.ref 79, .int (nI p), .int y] v L (some (.int (if ¬ y = 0 then nI s / nI (Nat.gcd s t) else nI t / nI (Nat.gcd s t)))) (itr (smS n w p) (2 ^ n) (0, v)).2 L := by
  have hn := zh0.2.1
  have hn4 := zh0.1
  refine Fq.of (plainFor_of_name (by decide)) [some (.ref 79), some (.int (nI p)), some (.int y), none, none, none] rfl (Nat.le_of_ble_eq_true rfl) ?_
  first | refine g_aload0 (pc := 0) dX10_share_0 ?_ | refine g_aloadN0 (pc := 0) dX10_share_0 ?_
  refine g_iload1 (pc := 1) dX10_share_1 ?_
  refine g_fV1 (pc := 2) (c_X10_isPen hn hn4) cf10 (by first | rfl | assumption) dX10_share_2 cw_RX10_115 (by decide) (Nat.le_of_ble_eq_true rfl) ?_
  refine g_if_ne (pc := 5) 10 dX10_share_5 (by decide) (fun zh5 => ?_) (fun zh5 => ?_)
  · skip
    refine g_iconst (pc := 10) (0) dX10_share_10 (by decide) ?_
    refine g_istore3 (pc := 11) dX10_share_11 (by decide) (by first | rfl | assumption) ?_
    refine g_iconst (pc := 12) (0) dX10_share_12 (by decide) ?_
    refine g_istore4 (pc := 13) dX10_share_13 (by decide) (by first | rfl | assumption) ?_
    refine lp_X10_share zh0 hp (Lo.rf v) (fun zo => ?_) none
    rw [hsu]
    exact lp_X10_share_t (zh0.lo hlo).2.1 hn4 hs ht ht0 ht31
  · skip
    exact absurd ⟨nI_pos' (by omega), nI_lt hp (by omega)⟩ (b01_eq0.mp zh5)
theorem lp_X10_skipped_w {w set : Nat} {l1 l2 l4 l5 l6 : Option Value} {x : Int32} {v : Mm} {L : Lm} {Q : Qt} (hw : v 79 12 = nI w) (hw8 : w ≤ 8) (hI0 : (fun (_ : Nat) (_ : Int32) => True) 0 1) (hk : G RX10 cX10_skipped 10 (some .int) 4 Q 101 [some (.ref 79), l1, l2, some (.int x), l4, l5, l6, some (.int (nI set)), some (.int (wtF x w set)), some (.int (nI w))] [] v L) : (fun (i : Nat) (s : Int32) =>  G RX10 cX10_skipped 10 (some .int) 4 Q 63 [some (.ref 79), l1, l2, some (.int x), l4, l5, l6, some (.int (nI set)), some (.int s), some (.int (nI i))] [] v L) 0 (1 : Int32) := by
  refine g_for w (fun k s => s * (if (nI set >>> (nI k &&& 31)) &&& 1 = 1 then x else 10 - x)) (fun (_ : Nat) (_ : Int32) => True) (fun (i : Nat) (s : Int32) =>  G RX10 cX10_skipped 10 (some .int) 4 Q 63 [some (.ref 79), l1, l2, some (.int x), l4, l5, l6, some (.int (nI set)), some (.int s), some (.int (nI i))] [] v L) (1 : Int32) hI0 ?_ (fun hI => ?_) (fun i s hi hI hn => ?_)
  · exact fun _ _ _ h => h
  · show G _ _ _ _ _ _ _ _ _ _ _
    try dsimp only at hI
    refine g_iload9 (pc := 63) dX10_skipped_63 ?_
    first | refine g_aload0 (pc := 65) dX10_skipped_65 ?_ | refine g_aloadN0 (pc := 65) dX10_skipped_65 ?_
    refine g_getI (pc := 66) (j := 12) cf10 dX10_skipped_66 fl_RX10_100 (by decide) (by decide) (by first | rfl | assumption) ?_
    rw [hw]
    refine g_icmp_ge (pc := 69) 101 dX10_skipped_69 (by decide) (fun zh69 => ?_) (fun zh69 => ?_)
    · skip
      exact hk
    · skip
      exact absurd (Int32.le_refl _) zh69
  · show G _ _ _ _ _ _ _ _ _ _ _
    try dsimp only at hI
    try dsimp only at hn
    refine g_iload9 (pc := 63) dX10_skipped_63 ?_
    first | refine g_aload0 (pc := 65) dX10_skipped_65 ?_ | refine g_aloadN0 (pc := 65) dX10_skipped_65 ?_
    refine g_getI (pc := 66) (j := 12) cf10 dX10_skipped_66 fl_RX10_100 (by decide) (by decide) (by first | rfl | assumption) ?_
    rw [hw]
    refine g_icmp_ge (pc := 69) 101 dX10_skipped_69 (by decide) (fun zh69 => ?_) (fun zh69 => ?_)
    · skip
      exact absurd zh69 (nI_ge hi (by omega))
    · skip
      refine g_iload8 (pc := 72) dX10_skipped_72 ?_
      refine g_iload7 (pc := 74) dX10_skipped_74 ?_
      refine g_iload9 (pc := 76) dX10_skipped_76 ?_
      refine g_fS2 (pc := 78) (c_X10_has) dX10_skipped_78 cw_RX10_126 (by decide) (Nat.le_of_ble_eq_true rfl) ?_
      refine g_if_eq (pc := 81) 88 dX10_skipped_81 (by decide) (fun zh81 => ?_) (fun zh81 => ?_)
      · skip
        refine g_bipush (pc := 88) (10) dX10_skipped_88 (by decide) ?_
        refine g_iload3 (pc := 90) dX10_skipped_90 ?_
        refine g_isub (pc := 91) dX10_skipped_91 ?_
        refine g_imul (pc := 92) dX10_skipped_92 ?_
        refine g_istore8 (pc := 93) dX10_skipped_93 (by decide) (by first | rfl | assumption) ?_
        refine g_iinc9 (pc := 95) (nI (i + 1)) dX10_skipped_95 (nI_succ' i) (by decide) (by first | rfl | assumption) ?_
        refine g_goto (pc := 98) 63 dX10_skipped_98 (by decide) ?_
        first | (rw [if_pos (b01_ne0.mp zh81)] at hn; exact hn) | (rw [if_neg (b01_eq0.mp zh81)] at hn; exact hn)
      · skip
        refine g_iload3 (pc := 84) dX10_skipped_84 ?_
        refine g_goto (pc := 85) 92 dX10_skipped_85 (by decide) ?_
        refine g_imul (pc := 92) dX10_skipped_92 ?_
        refine g_istore8 (pc := 93) dX10_skipped_93 (by decide) (by first | rfl | assumption) ?_
        refine g_iinc9 (pc := 95) (nI (i + 1)) dX10_skipped_95 (nI_succ' i) (by decide) (by first | rfl | assumption) ?_
        refine g_goto (pc := 98) 63 dX10_skipped_98 (by decide) ?_
        first | (rw [if_pos (b01_ne0.mp zh81)] at hn; exact hn) | (rw [if_neg (b01_eq0.mp zh81)] at hn; exact hn)
theorem lp_X10_skipped_t {n w p i : Nat} {x y z : Int32} {o9 : Option Value} {u : Int32 × Int32 × Mm} {L : Lm} {Q : Qt} (hm : M0 u.2.2 n w) (hp : p < n) (hi : i < 300) (hn : ∀ o8 o9 : Option Value, G RX10 cX10_skipped 10 (some .int) 4 Q 46 [some (.ref 79), some (.int (nI p)), some (.int y), some (.int x), some (.int z), some (.int (skS p w y x i u).1), some (.int (skS p w y x i u).2.1), some (.int (nI (i + 1))), o8, o9] [] (skS p w y x i u).2.2 L) : G RX10 cX10_skipped 10 (some .int) 4 Q 101 [some (.ref 79), some (.int (nI p)), some (.int y), some (.int x), some (.int z), some (.int u.1), some (.int u.2.1), some (.int (nI i)), some (.int (wtF x w i)), o9] [] u.2.2 L := by
  first | refine g_aload0 (pc := 101) dX10_skipped_101 ?_ | refine g_aloadN0 (pc := 101) dX10_skipped_101 ?_
  refine g_vV0 (pc := 102) (c_X10_layTrial) cf10 (by first | rfl | assumption) dX10_skipped_102 cw_RX10_140 (by decide) (Nat.le_of_ble_eq_true rfl) ?_
  refine g_iload6 (pc := 105) dX10_skipped_105 ?_
  refine g_iload8 (pc := 107) dX10_skipped_107 ?_
  refine g_iadd (pc := 109) dX10_skipped_109 ?_
  refine g_istore6 (pc := 110) dX10_skipped_110 (by decide) (by first | rfl | assumption) ?_
  refine g_iload5 (pc := 112) dX10_skipped_112 ?_
  first | refine g_aload0 (pc := 114) dX10_skipped_114 ?_ | refine g_aloadN0 (pc := 114) dX10_skipped_114 ?_
  refine g_iconst (pc := 115) (1) dX10_skipped_115 (by decide) ?_
  refine g_iload1 (pc := 116) dX10_skipped_116 ?_
  refine g_bipush (pc := 117) (8) dX10_skipped_117 (by decide) ?_
  refine g_iload7 (pc := 119) dX10_skipped_119 ?_
  refine g_fV4 (pc := 121) (c_X10_writeOn (l := 1) (q := 8) (n := n) (w := w) (by decide) hp hm.lt.1 (by decide) hm.lt.2.2.2.1 hm.lt.2.1 hm.lt.2.2.1 (hm.lt.2.2.2.2 _ hp)) cf10 (by first | rfl | assumption) dX10_skipped_121 cw_RX10_143 (by decide) (Nat.le_of_ble_eq_true rfl) ?_
  refine g_iload2 (pc := 124) dX10_skipped_124 ?_
  refine g_icmp_lt (pc := 125) 133 dX10_skipped_125 (by decide) (fun zh125 => ?_) (fun zh125 => ?_)
  · skip
    refine g_iconst (pc := 133) (0) dX10_skipped_133 (by decide) ?_
    refine g_iadd (pc := 134) dX10_skipped_134 ?_
    refine g_istore5 (pc := 135) dX10_skipped_135 (by decide) (by first | rfl | assumption) ?_
    refine g_iinc7 (pc := 137) (nI (i + 1)) dX10_skipped_137 (nI_succ' i) (by decide) (by first | rfl | assumption) ?_
    refine g_goto (pc := 140) 46 dX10_skipped_140 (by decide) ?_
    have ee : skS p w y x i u = (u.1 + 0, u.2.1 + wtF x w i, (skR u.2.2 p w i).2) := Prod.ext (congrArg (fun zt => u.1 + zt) (if_neg (i32nle.mpr zh125))) rfl
    rw [ee] at hn; exact hn _ _
  · skip
    refine g_iload8 (pc := 128) dX10_skipped_128 ?_
    refine g_goto (pc := 130) 134 dX10_skipped_130 (by decide) ?_
    refine g_iadd (pc := 134) dX10_skipped_134 ?_
    refine g_istore5 (pc := 135) dX10_skipped_135 (by decide) (by first | rfl | assumption) ?_
    refine g_iinc7 (pc := 137) (nI (i + 1)) dX10_skipped_137 (nI_succ' i) (by decide) (by first | rfl | assumption) ?_
    refine g_goto (pc := 140) 46 dX10_skipped_140 (by decide) ?_
    have ee : skS p w y x i u = (u.1 + wtF x w i, u.2.1 + wtF x w i, (skR u.2.2 p w i).2) := Prod.ext (congrArg (fun zt => u.1 + zt) (if_pos (i32nlt.mp zh125))) rfl
    rw [ee] at hn; exact hn _ _
theorem lp_X10_skipped {n w p : Nat} {x y z : Int32} {v : Mm} {L : Lm} {Q : Qt} (zh0 : M0 v n w) (hp : p < n) (hI0 : (fun (_ : Nat) (zs : Int32 × Int32 × Mm) => Lo v zs.2.2) 0 (0, 0, v)) (hk : ∀ o8 o9 : Option Value, G RX10 cX10_skipped 10 (some .int) 4 Q 143 [some (.ref 79), some (.int (nI p)), some (.int y), some (.int x), some (.int z), some (.int (itr (skS p w y x) (2 ^ w) (0, 0, v)).1), some (.int (itr (skS p w y x) (2 ^ w) (0, 0, v)).2.1), some (.int (nI (2 ^ w))), o8, o9] [] (itr (skS p w y x) (2 ^ w) (0, 0, v)).2.2 L) : (fun (i : Nat) (u : Int32 × Int32 × Mm) => ∀ (o8 o9 : Option Value), G RX10 cX10_skipped 10 (some .int) 4 Q 46 [some (.ref 79), some (.int (nI p)), some (.int y), some (.int x), some (.int z), some (.int u.1), some (.int u.2.1), some (.int (nI i)), o8, o9] [] u.2.2 L) 0 ((0 : Int32), (0 : Int32), v) := by
  refine g_for (2 ^ w) (skS p w y x) (fun (_ : Nat) (zs : Int32 × Int32 × Mm) => Lo v zs.2.2) (fun (i : Nat) (u : Int32 × Int32 × Mm) => ∀ (o8 o9 : Option Value), G RX10 cX10_skipped 10 (some .int) 4 Q 46 [some (.ref 79), some (.int (nI p)), some (.int y), some (.int x), some (.int z), some (.int u.1), some (.int u.2.1), some (.int (nI i)), o8, o9] [] u.2.2 L) ((0 : Int32), (0 : Int32), v) hI0 ?_ (fun hI => ?_) (fun i u hi hI hn => ?_)
  · intro zi zs zl zh
    exact zh.tr (lo_skR (zh0.lo zh) hp)
  · intro o8 o9
    show G _ _ _ _ _ _ _ _ _ _ _
    try dsimp only at hI
    have hm := zh0.lo hI
    have hw8 := zh0.2.2.2.1
    have z17 := sh8l w hw8
    refine g_iload7 (pc := 46) dX10_skipped_46 ?_
    refine g_iconst (pc := 48) (1) dX10_skipped_48 (by decide) ?_
    first | refine g_aload0 (pc := 49) dX10_skipped_49 ?_ | refine g_aloadN0 (pc := 49) dX10_skipped_49 ?_
    refine g_getI (pc := 50) (j := 12) cf10 dX10_skipped_50 fl_RX10_100 (by decide) (by decide) (by first | rfl | assumption) ?_
    rw [hm.2.2.1]
    refine g_ishl (pc := 53) dX10_skipped_53 ?_
    rw [sh8 w hw8]
    refine g_icmp_ge (pc := 54) 143 dX10_skipped_54 (by decide) (fun zh54 => ?_) (fun zh54 => ?_)
    · skip
      exact hk _ _
    · skip
      exact absurd (Int32.le_refl _) zh54
  · intro o8 o9
    show G _ _ _ _ _ _ _ _ _ _ _
    try dsimp only at hI
    try dsimp only at hn
    have hm := zh0.lo hI
    have hw8 := zh0.2.2.2.1
    have z17 := sh8l w hw8
    refine g_iload7 (pc := 46) dX10_skipped_46 ?_
    refine g_iconst (pc := 48) (1) dX10_skipped_48 (by decide) ?_
    first | refine g_aload0 (pc := 49) dX10_skipped_49 ?_ | refine g_aloadN0 (pc := 49) dX10_skipped_49 ?_
    refine g_getI (pc := 50) (j := 12) cf10 dX10_skipped_50 fl_RX10_100 (by decide) (by decide) (by first | rfl | assumption) ?_
    rw [hm.2.2.1]
    refine g_ishl (pc := 53) dX10_skipped_53 ?_
    rw [sh8 w hw8]
    refine g_icmp_ge (pc := 54) 143 dX10_skipped_54 (by decide) (fun zh54 => ?_) (fun zh54 => ?_)
    · skip
      exact absurd zh54 (nI_ge hi (by omega))
    · skip
      refine g_iconst (pc := 57) (1) dX10_skipped_57 (by decide) ?_
      refine g_istore8 (pc := 58) dX10_skipped_58 (by decide) (by first | rfl | assumption) ?_
      refine g_iconst (pc := 60) (0) dX10_skipped_60 (by decide) ?_
      refine g_istore9 (pc := 61) dX10_skipped_61 (by decide) (by first | rfl | assumption) ?_
      exact lp_X10_skipped_w hm.2.2.1 hw8 trivial (lp_X10_skipped_t hm hp (by omega) hn)
theorem lp_X10_skipped_e {s t : Nat} {z : Int32} {l0 l1 l2 l3 l7 o8 o9 : Option Value} {v : Mm} {L : Lm} (zh6 : okp l7 = true) (hs : s < 2 ^ 31) (ht0 : 0 < t) (ht31 : t < 2 ^ 31) : G RX10 cX10_skipped 10 (some .int) 4 (fun a b K => a = some (.int (if ¬ z = 0 then nI s / nI (Nat.gcd s t) else nI t / nI (Nat.gcd s t))) ∧ b = v ∧ K = L) 143 [l0, l1, l2, l3, some (.int z), some (.int (nI s)), some (.int (nI t)), l7, o8, o9] [] v L := by
  have zg0 : 0 < Nat.gcd s t := Nat.gcd_pos_of_pos_right s ht0
  have zgl : Nat.gcd s t ≤ t := Nat.gcd_le_right s ht0
  refine g_iload5 (pc := 143) dX10_skipped_143 ?_
  refine g_iload6 (pc := 145) dX10_skipped_145 ?_
  refine g_fS2 (pc := 147) (c_X10_common hs ht31) dX10_skipped_147 cw_RX10_205 (by decide) (Nat.le_of_ble_eq_true rfl) ?_
  refine g_istore7 (pc := 150) dX10_skipped_150 (by decide) (by first | rfl | assumption) ?_
  refine g_iload4 (pc := 152) dX10_skipped_152 ?_
  refine g_if_eq (pc := 154) 165 dX10_skipped_154 (by decide) (fun zh154 => ?_) (fun zh154 => ?_)
  · skip
    refine g_iload6 (pc := 165) dX10_skipped_165 ?_
    refine g_iload7 (pc := 167) dX10_skipped_167 ?_
    refine g_idiv (pc := 169) dX10_skipped_169 (nI_ne0 zg0 (by omega)) ?_
    refine g_iret (pc := 170) dX10_skipped_170 rfl ?_
    first | exact ⟨congrArg (fun zt => some (Value.int zt)) (if_pos zh154).symm, rfl, rfl⟩ | exact ⟨congrArg (fun zt => some (Value.int zt)) (if_neg (fun zq => zq zh154)).symm, rfl, rfl⟩
  · skip
    refine g_iload5 (pc := 157) dX10_skipped_157 ?_
    refine g_iload7 (pc := 159) dX10_skipped_159 ?_
    refine g_idiv (pc := 161) dX10_skipped_161 (nI_ne0 zg0 (by omega)) ?_
    refine g_goto (pc := 162) 170 dX10_skipped_162 (by decide) ?_
    refine g_iret (pc := 170) dX10_skipped_170 rfl ?_
    first | exact ⟨congrArg (fun zt => some (Value.int zt)) (if_pos zh154).symm, rfl, rfl⟩ | exact ⟨congrArg (fun zt => some (Value.int zt)) (if_neg (fun zq => zq zh154)).symm, rfl, rfl⟩
theorem c_X10_skipped_u {n : Nat} {x1 x y z : Int32} {v : Mm} {L : Lm} (hn : v 79 0 = nI n) (hn4 : n ≤ 4) (hx : ¬ (0 ≤ x1 ∧ x1 < nI n)) : Fn yX10_skipped cX10_skipped 10 (some .int) 4 [.ref 79, .int x1, .int y, .int x, .int z] v L (some (.int (-1))) v L := by
  refine Fq.of (plainFor_of_name (by decide)) [some (.ref 79), some (.int x1), some (.int y), some (.int x), some (.int z), none, none, none, none, none] rfl (Nat.le_of_ble_eq_true rfl) ?_
  first | refine g_aload0 (pc := 0) dX10_skipped_0 ?_ | refine g_aloadN0 (pc := 0) dX10_skipped_0 ?_
  refine g_iload1 (pc := 1) dX10_skipped_1 ?_
  refine g_fV1 (pc := 2) (c_X10_isPen hn hn4) cf10 (by first | rfl | assumption) dX10_skipped_2 cw_RX10_115 (by decide) (Nat.le_of_ble_eq_true rfl) ?_
  refine g_if_ne (pc := 5) 10 dX10_skipped_5 (by decide) (fun zh5 => ?_) (fun zh5 => ?_)
  · skip
    exact absurd (b01_ne0.mp zh5) hx
  · skip
    refine g_iconst (pc := 8) (-1) dX10_skipped_8 (by decide) ?_
    refine g_iret (pc := 9) dX10_skipped_9 rfl ?_
    exact ⟨rfl, rfl, rfl⟩
theorem c_X10_skipped_o {n p : Nat} {x y z : Int32} {v : Mm} {L : Lm} (hn : v 79 0 = nI n) (hn4 : n ≤ 4) (hp : p < n) (hy : ¬ ((0 ≤ y ∧ y ≤ 99) ∧ (0 ≤ x ∧ x ≤ 10))) : Fn yX10_skipped cX10_skipped 10 (some .int) 4 [.ref 79, .int (nI p), .int y, .int x, .int z] v L (some (.int (-2))) v L := by
  have zi9 : ∀ zx : Int32, ((0 : Int64) ≤ zx.toInt64 ∧ zx.toInt64 ≤ 99) ↔ (0 ≤ zx ∧ zx ≤ 99) := fun zx => inI (y := zx) (by decide) (by decide)
  have zi10 : ∀ zx : Int32, ((0 : Int64) ≤ zx.toInt64 ∧ zx.toInt64 ≤ 10) ↔ (0 ≤ zx ∧ zx ≤ 10) := fun zx => inI (y := zx) (by decide) (by decide)
  refine Fq.of (plainFor_of_name (by decide)) [some (.ref 79), some (.int (nI p)), some (.int y), some (.int x), some (.int z), none, none, none, none, none] rfl (Nat.le_of_ble_eq_true rfl) ?_
  first | refine g_aload0 (pc := 0) dX10_skipped_0 ?_ | refine g_aloadN0 (pc := 0) dX10_skipped_0 ?_
  refine g_iload1 (pc := 1) dX10_skipped_1 ?_
  refine g_fV1 (pc := 2) (c_X10_isPen hn hn4) cf10 (by first | rfl | assumption) dX10_skipped_2 cw_RX10_115 (by decide) (Nat.le_of_ble_eq_true rfl) ?_
  refine g_if_ne (pc := 5) 10 dX10_skipped_5 (by decide) (fun zh5 => ?_) (fun zh5 => ?_)
  · skip
    refine g_iload2 (pc := 10) dX10_skipped_10 ?_
    refine g_i2l (pc := 11) dX10_skipped_11 ?_
    refine g_lconst (pc := 12) (0) dX10_skipped_12 (by decide) ?_
    refine g_ldc2 (pc := 13) _ dX10_skipped_13 kc_RX10_216 ?_
    refine g_fS3 (pc := 16) (c_X10_in) dX10_skipped_16 cw_RX10_52 (by decide) (Nat.le_of_ble_eq_true rfl) ?_
    refine g_if_eq (pc := 19) 34 dX10_skipped_19 (by decide) (fun zh19 => ?_) (fun zh19 => ?_)
    · skip
      refine g_bipush (pc := 34) (-2) dX10_skipped_34 (by decide) ?_
      refine g_iret (pc := 36) dX10_skipped_36 rfl ?_
      exact ⟨rfl, rfl, rfl⟩
    · skip
      refine g_iload3 (pc := 22) dX10_skipped_22 ?_
      refine g_i2l (pc := 23) dX10_skipped_23 ?_
      refine g_lconst (pc := 24) (0) dX10_skipped_24 (by decide) ?_
      refine g_ldc2 (pc := 25) _ dX10_skipped_25 kc_RX10_90 ?_
      refine g_fS3 (pc := 28) (c_X10_in) dX10_skipped_28 cw_RX10_52 (by decide) (Nat.le_of_ble_eq_true rfl) ?_
      refine g_if_ne (pc := 31) 37 dX10_skipped_31 (by decide) (fun zh31 => ?_) (fun zh31 => ?_)
      · skip
        exact absurd ⟨(zi9 _).mp (b01_ne0.mp zh19), (zi10 _).mp (b01_ne0.mp zh31)⟩ hy
      · skip
        refine g_bipush (pc := 34) (-2) dX10_skipped_34 (by decide) ?_
        refine g_iret (pc := 36) dX10_skipped_36 rfl ?_
        exact ⟨rfl, rfl, rfl⟩
  · skip
    exact absurd ⟨nI_pos' (by omega), nI_lt hp (by omega)⟩ (b01_eq0.mp zh5)
theorem c_X10_skipped_s {n w p s t : Nat} {x y z : Int32} {v : Mm} {L : Lm} (zh0 : M0 v n w) (hp : p < n) (hy : 0 ≤ y ∧ y ≤ 99) (hx : 0 ≤ x ∧ x ≤ 10) (hs1 : (itr (skS p w y x) (2 ^ w) (0, 0, v)).1 = nI s) (hs2 : (itr (skS p w y x) (2 ^ w) (0, 0, v)).2.1 = nI t) (hs : s < 2 ^ 31) (ht0 : 0 < t) (ht31 : t < 2 ^ 31) : Fn yX10_skipped cX10_skipped 10 (some .int) 4 [.ref 79, .int (nI p), .int y, .int x, .int z] v L (some (.int (if ¬ z = 0 then nI s / nI (Nat.gcd s t) else nI t / nI (Nat.gcd s t)))) (itr (skS p w y x) (2 ^ w) (0, 0, v)).2.2 L := by
  have zi9 : ∀ zx : Int32, ((0 : Int64) ≤ zx.toInt64 ∧ zx.toInt64 ≤ 99) ↔ (0 ≤ zx ∧ zx ≤ 99) := fun zx => inI (y := zx) (by decide) (by decide)
  have zi10 : ∀ zx : Int32, ((0 : Int64) ≤ zx.toInt64 ∧ zx.toInt64 ≤ 10) ↔ (0 ≤ zx ∧ zx ≤ 10) := fun zx => inI (y := zx) (by decide) (by decide)
  have hn := zh0.2.1
  have hn4 := zh0.1
  refine Fq.of (plainFor_of_name (by decide)) [some (.ref 79), some (.int (nI p)), some (.int y), some (.int x), some (.int z), none, none, none, none, none] rfl (Nat.le_of_ble_eq_true rfl) ?_
  first | refine g_aload0 (pc := 0) dX10_skipped_0 ?_ | refine g_aloadN0 (pc := 0) dX10_skipped_0 ?_
  refine g_iload1 (pc := 1) dX10_skipped_1 ?_
  refine g_fV1 (pc := 2) (c_X10_isPen hn hn4) cf10 (by first | rfl | assumption) dX10_skipped_2 cw_RX10_115 (by decide) (Nat.le_of_ble_eq_true rfl) ?_
  refine g_if_ne (pc := 5) 10 dX10_skipped_5 (by decide) (fun zh5 => ?_) (fun zh5 => ?_)
  · skip
    refine g_iload2 (pc := 10) dX10_skipped_10 ?_
    refine g_i2l (pc := 11) dX10_skipped_11 ?_
    refine g_lconst (pc := 12) (0) dX10_skipped_12 (by decide) ?_
    refine g_ldc2 (pc := 13) _ dX10_skipped_13 kc_RX10_216 ?_
    refine g_fS3 (pc := 16) (c_X10_in) dX10_skipped_16 cw_RX10_52 (by decide) (Nat.le_of_ble_eq_true rfl) ?_
    refine g_if_eq (pc := 19) 34 dX10_skipped_19 (by decide) (fun zh19 => ?_) (fun zh19 => ?_)
    · skip
      exact absurd ((zi9 _).mpr hy) (b01_eq0.mp zh19)
    · skip
      refine g_iload3 (pc := 22) dX10_skipped_22 ?_
      refine g_i2l (pc := 23) dX10_skipped_23 ?_
      refine g_lconst (pc := 24) (0) dX10_skipped_24 (by decide) ?_
      refine g_ldc2 (pc := 25) _ dX10_skipped_25 kc_RX10_90 ?_
      refine g_fS3 (pc := 28) (c_X10_in) dX10_skipped_28 cw_RX10_52 (by decide) (Nat.le_of_ble_eq_true rfl) ?_
      refine g_if_ne (pc := 31) 37 dX10_skipped_31 (by decide) (fun zh31 => ?_) (fun zh31 => ?_)
      · skip
        refine g_iconst (pc := 37) (0) dX10_skipped_37 (by decide) ?_
        refine g_istore5 (pc := 38) dX10_skipped_38 (by decide) (by first | rfl | assumption) ?_
        refine g_iconst (pc := 40) (0) dX10_skipped_40 (by decide) ?_
        refine g_istore6 (pc := 41) dX10_skipped_41 (by decide) (by first | rfl | assumption) ?_
        refine g_iconst (pc := 43) (0) dX10_skipped_43 (by decide) ?_
        refine g_istore7 (pc := 44) dX10_skipped_44 (by decide) (by first | rfl | assumption) ?_
        refine lp_X10_skipped zh0 hp (Lo.rf v) (fun zo8 zo9 => ?_) none none
        rw [hs1, hs2]
        exact lp_X10_skipped_e rfl hs ht0 ht31
      · skip
        exact absurd ((zi10 _).mpr hx) (b01_eq0.mp zh31)
  · skip
    exact absurd ⟨nI_pos' (by omega), nI_lt hp (by omega)⟩ (b01_eq0.mp zh5)
theorem lp_X10_word_a {n : Nat} {y : Int64} {v : Mm} {L : Lm} {Q : Qt} (hn8 : n ≤ 8) (hbad : odJ y n 0 = false → Q (some (.int (-2))) v L) (hgood : odJ y n 0 = true → G RX10 cX10_word 6 (some .int) 1 Q 65 [some (.ref 79), some (.int (nI n)), some (.long y), none, some (.int (nI n)), none] [] v L) : ∀ (m : Nat) (i : Nat), i + m = n → odJ y n 0 = odJ y m i → G RX10 cX10_word 6 (some .int) 1 Q 32 [some (.ref 79), some (.int (nI n)), some (.long y), none, some (.int (nI i)), none] [] v L := by
  intro m
  induction m with
  | zero =>
    intro i hi hj
    refine g_iload4 (pc := 32) dX10_word_32 ?_
    refine g_iload1 (pc := 34) dX10_word_34 ?_
    refine g_icmp_ge (pc := 35) 65 dX10_word_35 (by decide) (fun zh35 => ?_) (fun zh35 => ?_)
    · skip
      rw [show i = n by omega]
      exact hgood hj
    · skip
      exact absurd (nI_le (by omega) (by omega)) zh35
  | succ m ih =>
    intro i hi hj
    refine g_iload4 (pc := 32) dX10_word_32 ?_
    refine g_iload1 (pc := 34) dX10_word_34 ?_
    refine g_icmp_ge (pc := 35) 65 dX10_word_35 (by decide) (fun zh35 => ?_) (fun zh35 => ?_)
    · skip
      exact absurd zh35 (nI_ge (by omega) (by omega))
    · skip
      refine g_lload2 (pc := 38) dX10_word_38 ?_
      refine g_iload4 (pc := 39) dX10_word_39 ?_
      refine g_fS1 (pc := 41) (c_X10_tenTo (by omega)) dX10_word_41 cw_RX10_94 (by decide) (Nat.le_of_ble_eq_true rfl) ?_
      refine g_ldiv (pc := 44) dX10_word_44 (t10_ne _ (by omega)) ?_
      refine g_ldc2 (pc := 45) _ dX10_word_45 kc_RX10_90 ?_
      refine g_lrem (pc := 48) dX10_word_48 (by decide) ?_
      refine g_ldc2 (pc := 49) _ dX10_word_49 kc_RX10_98 ?_
      refine g_lcmp (pc := 52) dX10_word_52 ?_
      refine g_if_le (pc := 53) 59 dX10_word_53 (by decide) (fun zh53 => ?_) (fun zh53 => ?_)
      · skip
        refine g_iinc4 (pc := 59) (nI (i + 1)) dX10_word_59 (nI_succ' i) (by decide) (by first | rfl | assumption) ?_
        refine g_goto (pc := 62) 32 dX10_word_62 (by decide) ?_
        exact ih (i + 1) (by omega) (hj.trans (if_neg (fun zq => i32nle.mpr ((lg_cmp_gt _ _).mpr zq) zh53)))
      · skip
        refine g_bipush (pc := 56) (-2) dX10_word_56 (by decide) ?_
        refine g_iret (pc := 58) dX10_word_58 rfl ?_
        exact hbad (hj.trans (if_pos ((lg_cmp_gt _ _).mp (i32nle.mp zh53))))
theorem lp_X10_word_b {n : Nat} {y : Int64} {l4 : Int32} {w0 : Mm} {L : Lm} {Q : Qt} (hn8 : n ≤ 8) (hI0 : (fun (_ : Nat) (_ : Mm) => True) 0 w0) (hq : Q (some (.int l4)) (itr (fun i w => upd2 w 86 i (rem64 (y / t10 (n - 1 - i)) 10).toInt32) n w0) L) : (fun (i : Nat) (w : Mm) =>  G RX10 cX10_word 6 (some .int) 1 Q 79 [some (.ref 79), some (.int (nI n)), some (.long y), none, some (.int l4), some (.int (nI i))] [] w L) 0 w0 := by
  refine g_for n (fun i w => upd2 w 86 i (rem64 (y / t10 (n - 1 - i)) 10).toInt32) (fun (_ : Nat) (_ : Mm) => True) (fun (i : Nat) (w : Mm) =>  G RX10 cX10_word 6 (some .int) 1 Q 79 [some (.ref 79), some (.int (nI n)), some (.long y), none, some (.int l4), some (.int (nI i))] [] w L) w0 hI0 ?_ (fun hI => ?_) (fun i w hi hI hn => ?_)
  · exact fun _ _ _ h => h
  · show G _ _ _ _ _ _ _ _ _ _ _
    try dsimp only at hI
    refine g_iload5 (pc := 79) dX10_word_79 ?_
    refine g_iload1 (pc := 81) dX10_word_81 ?_
    refine g_icmp_ge (pc := 82) 114 dX10_word_82 (by decide) (fun zh82 => ?_) (fun zh82 => ?_)
    · skip
      refine g_iload4 (pc := 114) dX10_word_114 ?_
      refine g_iret (pc := 116) dX10_word_116 rfl ?_
      exact hq
    · skip
      exact absurd (Int32.le_refl _) zh82
  · show G _ _ _ _ _ _ _ _ _ _ _
    try dsimp only at hI
    try dsimp only at hn
    refine g_iload5 (pc := 79) dX10_word_79 ?_
    refine g_iload1 (pc := 81) dX10_word_81 ?_
    refine g_icmp_ge (pc := 82) 114 dX10_word_82 (by decide) (fun zh82 => ?_) (fun zh82 => ?_)
    · skip
      exact absurd zh82 (nI_ge hi (by omega))
    · skip
      first | refine g_aload0 (pc := 85) dX10_word_85 ?_ | refine g_aloadN0 (pc := 85) dX10_word_85 ?_
      refine g_getR (pc := 86) (j := 13) cf10 dX10_word_86 fl_RX10_28 (by decide) (by decide) (by first | rfl | assumption) (86) (rfl) ?_
      refine g_iload5 (pc := 89) dX10_word_89 ?_
      refine g_lload2 (pc := 91) dX10_word_91 ?_
      refine g_iload1 (pc := 92) dX10_word_92 ?_
      refine g_iconst (pc := 93) (1) dX10_word_93 (by decide) ?_
      refine g_isub (pc := 94) dX10_word_94 ?_
      refine g_iload5 (pc := 95) dX10_word_95 ?_
      refine g_isub (pc := 97) dX10_word_97 ?_
      rw [show nI n - 1 - nI i = nI (n - 1 - i) from by rw [show (1 : Int32) = nI 1 from rfl, pk_sub (by omega), pk_sub (by omega)]]
      refine g_fS1 (pc := 98) (c_X10_tenTo (by omega)) dX10_word_98 cw_RX10_94 (by decide) (Nat.le_of_ble_eq_true rfl) ?_
      refine g_ldiv (pc := 101) dX10_word_101 (t10_ne _ (by omega)) ?_
      refine g_ldc2 (pc := 102) _ dX10_word_102 kc_RX10_90 ?_
      refine g_lrem (pc := 105) dX10_word_105 (by decide) ?_
      refine g_l2i (pc := 106) dX10_word_106 ?_
      refine g_iastX (pc := 107) (i) dX10_word_107 (rfl) (rfl) (by have := ln_all; omega) (by decide) ?_
      refine g_iinc5 (pc := 108) (nI (i + 1)) dX10_word_108 (nI_succ' i) (by decide) (by first | rfl | assumption) ?_
      refine g_goto (pc := 111) 79 dX10_word_111 (by decide) ?_
      exact hn
theorem c_X10_word_o1 {x : Int32} {y : Int64} {v : Mm} {L : Lm} (hx : ¬ (0 ≤ x ∧ x ≤ 8)) : Fn yX10_word cX10_word 6 (some .int) 1 [.ref 79, .int x, .long y] v L (some (.int (-2))) v L := by
  have zi : ∀ zx : Int32, ((0 : Int64) ≤ zx.toInt64 ∧ zx.toInt64 ≤ 8) ↔ (0 ≤ zx ∧ zx ≤ 8) := fun zx => inI (y := zx) (by decide) (by decide)
  refine Fq.of (plainFor_of_name (by decide)) [some (.ref 79), some (.int x), some (.long y), none, none, none] rfl (Nat.le_of_ble_eq_true rfl) ?_
  refine g_iload1 (pc := 0) dX10_word_0 ?_
  refine g_i2l (pc := 1) dX10_word_1 ?_
  refine g_lconst (pc := 2) (0) dX10_word_2 (by decide) ?_
  refine g_ldc2 (pc := 3) _ dX10_word_3 kc_RX10_92 ?_
  refine g_fS3 (pc := 6) (c_X10_in) dX10_word_6 cw_RX10_52 (by decide) (Nat.le_of_ble_eq_true rfl) ?_
  refine g_if_eq (pc := 9) 26 dX10_word_9 (by decide) (fun zh9 => ?_) (fun zh9 => ?_)
  · skip
    refine g_bipush (pc := 26) (-2) dX10_word_26 (by decide) ?_
    refine g_iret (pc := 28) dX10_word_28 rfl ?_
    exact ⟨rfl, rfl, rfl⟩
  · skip
    exact absurd ((zi _).mp (b01_ne0.mp zh9)) hx
theorem c_X10_word_o2 {n : Nat} {y : Int64} {v : Mm} {L : Lm} (hn8 : n ≤ 8) (hy : ¬ (0 ≤ y ∧ y ≤ t10 n - 1)) : Fn yX10_word cX10_word 6 (some .int) 1 [.ref 79, .int (nI n), .long y] v L (some (.int (-2))) v L := by
  have zi : ∀ zx : Int32, ((0 : Int64) ≤ zx.toInt64 ∧ zx.toInt64 ≤ 8) ↔ (0 ≤ zx ∧ zx ≤ 8) := fun zx => inI (y := zx) (by decide) (by decide)
  refine Fq.of (plainFor_of_name (by decide)) [some (.ref 79), some (.int (nI n)), some (.long y), none, none, none] rfl (Nat.le_of_ble_eq_true rfl) ?_
  refine g_iload1 (pc := 0) dX10_word_0 ?_
  refine g_i2l (pc := 1) dX10_word_1 ?_
  refine g_lconst (pc := 2) (0) dX10_word_2 (by decide) ?_
  refine g_ldc2 (pc := 3) _ dX10_word_3 kc_RX10_92 ?_
  refine g_fS3 (pc := 6) (c_X10_in) dX10_word_6 cw_RX10_52 (by decide) (Nat.le_of_ble_eq_true rfl) ?_
  refine g_if_eq (pc := 9) 26 dX10_word_9 (by decide) (fun zh9 => ?_) (fun zh9 => ?_)
  · skip
    exact absurd ((zi _).mpr ⟨nI_pos' (by omega), nI_le (b := 8) hn8 (by decide)⟩) (b01_eq0.mp zh9)
  · skip
    refine g_lload2 (pc := 12) dX10_word_12 ?_
    refine g_lconst (pc := 13) (0) dX10_word_13 (by decide) ?_
    refine g_iload1 (pc := 14) dX10_word_14 ?_
    refine g_fS1 (pc := 15) (c_X10_tenTo (by omega)) dX10_word_15 cw_RX10_94 (by decide) (Nat.le_of_ble_eq_true rfl) ?_
    refine g_lconst (pc := 18) (1) dX10_word_18 (by decide) ?_
    refine g_lsub (pc := 19) dX10_word_19 ?_
    refine g_fS3 (pc := 20) (c_X10_in) dX10_word_20 cw_RX10_52 (by decide) (Nat.le_of_ble_eq_true rfl) ?_
    refine g_if_ne (pc := 23) 29 dX10_word_23 (by decide) (fun zh23 => ?_) (fun zh23 => ?_)
    · skip
      exact absurd (b01_ne0.mp zh23) hy
    · skip
      refine g_bipush (pc := 26) (-2) dX10_word_26 (by decide) ?_
      refine g_iret (pc := 28) dX10_word_28 rfl ?_
      exact ⟨rfl, rfl, rfl⟩
theorem c_X10_word_o3 {n : Nat} {y : Int64} {v : Mm} {L : Lm} (hn8 : n ≤ 8) (hy : 0 ≤ y ∧ y ≤ t10 n - 1) (ho : odJ y n 0 = false) : Fn yX10_word cX10_word 6 (some .int) 1 [.ref 79, .int (nI n), .long y] v L (some (.int (-2))) v L := by
  have zi : ∀ zx : Int32, ((0 : Int64) ≤ zx.toInt64 ∧ zx.toInt64 ≤ 8) ↔ (0 ≤ zx ∧ zx ≤ 8) := fun zx => inI (y := zx) (by decide) (by decide)
  refine Fq.of (plainFor_of_name (by decide)) [some (.ref 79), some (.int (nI n)), some (.long y), none, none, none] rfl (Nat.le_of_ble_eq_true rfl) ?_
  refine g_iload1 (pc := 0) dX10_word_0 ?_
  refine g_i2l (pc := 1) dX10_word_1 ?_
  refine g_lconst (pc := 2) (0) dX10_word_2 (by decide) ?_
  refine g_ldc2 (pc := 3) _ dX10_word_3 kc_RX10_92 ?_
  refine g_fS3 (pc := 6) (c_X10_in) dX10_word_6 cw_RX10_52 (by decide) (Nat.le_of_ble_eq_true rfl) ?_
  refine g_if_eq (pc := 9) 26 dX10_word_9 (by decide) (fun zh9 => ?_) (fun zh9 => ?_)
  · skip
    exact absurd ((zi _).mpr ⟨nI_pos' (by omega), nI_le (b := 8) hn8 (by decide)⟩) (b01_eq0.mp zh9)
  · skip
    refine g_lload2 (pc := 12) dX10_word_12 ?_
    refine g_lconst (pc := 13) (0) dX10_word_13 (by decide) ?_
    refine g_iload1 (pc := 14) dX10_word_14 ?_
    refine g_fS1 (pc := 15) (c_X10_tenTo (by omega)) dX10_word_15 cw_RX10_94 (by decide) (Nat.le_of_ble_eq_true rfl) ?_
    refine g_lconst (pc := 18) (1) dX10_word_18 (by decide) ?_
    refine g_lsub (pc := 19) dX10_word_19 ?_
    refine g_fS3 (pc := 20) (c_X10_in) dX10_word_20 cw_RX10_52 (by decide) (Nat.le_of_ble_eq_true rfl) ?_
    refine g_if_ne (pc := 23) 29 dX10_word_23 (by decide) (fun zh23 => ?_) (fun zh23 => ?_)
    · skip
      refine g_iconst (pc := 29) (0) dX10_word_29 (by decide) ?_
      refine g_istore4 (pc := 30) dX10_word_30 (by decide) (by first | rfl | assumption) ?_
      exact lp_X10_word_a hn8 (fun _ => ⟨rfl, rfl, rfl⟩) (fun zq => absurd (ho.symm.trans zq) (by decide)) n 0 (by omega) rfl
    · skip
      exact absurd hy (b01_eq0.mp zh23)
theorem lp_X10_word_c {n : Nat} {y : Int64} {l4 l5 : Option Value} {v : Mm} {L : Lm} {Q : Qt} (hn8 : n ≤ 8) (hq : Q (some (.int (v 79 12))) (twM y n v) L) : G RX10 cX10_word 6 (some .int) 1 Q 65 [some (.ref 79), some (.int (nI n)), some (.long y), none, l4, l5] [] v L := by
  first | refine g_aload0 (pc := 65) dX10_word_65 ?_ | refine g_aloadN0 (pc := 65) dX10_word_65 ?_
  refine g_getI (pc := 66) (j := 12) cf10 dX10_word_66 fl_RX10_100 (by decide) (by decide) (by first | rfl | assumption) ?_
  refine g_istore4 (pc := 69) dX10_word_69 (by decide) (by first | rfl | assumption) ?_
  first | refine g_aload0 (pc := 71) dX10_word_71 ?_ | refine g_aloadN0 (pc := 71) dX10_word_71 ?_
  refine g_iload1 (pc := 72) dX10_word_72 ?_
  refine g_putI (pc := 73) (j := 12) cf10 dX10_word_73 fl_RX10_100 (by decide) rfl rfl (by decide) (by first | rfl | assumption) ?_
  refine g_iconst (pc := 76) (0) dX10_word_76 (by decide) ?_
  refine g_istore5 (pc := 77) dX10_word_77 (by decide) (by first | rfl | assumption) ?_
  exact lp_X10_word_b hn8 trivial hq
theorem c_X10_word_s {n : Nat} {y : Int64} {v : Mm} {L : Lm} (hn8 : n ≤ 8) (hy : 0 ≤ y ∧ y ≤ t10 n - 1) (ho : odJ y n 0 = true) : Fn yX10_word cX10_word 6 (some .int) 1 [.ref 79, .int (nI n), .long y] v L (some (.int (v 79 12))) (twM y n v) L := by
  have zi : ∀ zx : Int32, ((0 : Int64) ≤ zx.toInt64 ∧ zx.toInt64 ≤ 8) ↔ (0 ≤ zx ∧ zx ≤ 8) := fun zx => inI (y := zx) (by decide) (by decide)
  refine Fq.of (plainFor_of_name (by decide)) [some (.ref 79), some (.int (nI n)), some (.long y), none, none, none] rfl (Nat.le_of_ble_eq_true rfl) ?_
  refine g_iload1 (pc := 0) dX10_word_0 ?_
  refine g_i2l (pc := 1) dX10_word_1 ?_
  refine g_lconst (pc := 2) (0) dX10_word_2 (by decide) ?_
  refine g_ldc2 (pc := 3) _ dX10_word_3 kc_RX10_92 ?_
  refine g_fS3 (pc := 6) (c_X10_in) dX10_word_6 cw_RX10_52 (by decide) (Nat.le_of_ble_eq_true rfl) ?_
  refine g_if_eq (pc := 9) 26 dX10_word_9 (by decide) (fun zh9 => ?_) (fun zh9 => ?_)
  · skip
    exact absurd ((zi _).mpr ⟨nI_pos' (by omega), nI_le (b := 8) hn8 (by decide)⟩) (b01_eq0.mp zh9)
  · skip
    refine g_lload2 (pc := 12) dX10_word_12 ?_
    refine g_lconst (pc := 13) (0) dX10_word_13 (by decide) ?_
    refine g_iload1 (pc := 14) dX10_word_14 ?_
    refine g_fS1 (pc := 15) (c_X10_tenTo (by omega)) dX10_word_15 cw_RX10_94 (by decide) (Nat.le_of_ble_eq_true rfl) ?_
    refine g_lconst (pc := 18) (1) dX10_word_18 (by decide) ?_
    refine g_lsub (pc := 19) dX10_word_19 ?_
    refine g_fS3 (pc := 20) (c_X10_in) dX10_word_20 cw_RX10_52 (by decide) (Nat.le_of_ble_eq_true rfl) ?_
    refine g_if_ne (pc := 23) 29 dX10_word_23 (by decide) (fun zh23 => ?_) (fun zh23 => ?_)
    · skip
      refine g_iconst (pc := 29) (0) dX10_word_29 (by decide) ?_
      refine g_istore4 (pc := 30) dX10_word_30 (by decide) (by first | rfl | assumption) ?_
      exact lp_X10_word_a hn8 (fun zq => absurd (ho.symm.trans zq) (by decide)) (fun _ => lp_X10_word_c hn8 ⟨rfl, rfl, rfl⟩) n 0 (by omega) rfl
    · skip
      exact absurd hy (b01_eq0.mp zh23)
