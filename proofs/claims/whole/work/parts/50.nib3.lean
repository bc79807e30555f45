theorem c_X9_isDone_1u {n : Nat} {x y : Int32} {v : Mm} {L : Lm} (hT : TSt v n) (hx : ¬ (0 ≤ x ∧ x < nI n)) : Fn yX9_isDone cX9_isDone 6 (some .boolean) 5 [.ref 0, .int 1, .int x, .int y] v L (some (.int 0)) v L := by
  refine Fq.of (plainFor_of_name (by decide)) [some (.ref 0), some (.int 1), some (.int x), some (.int y), none, none] rfl (Nat.le_of_ble_eq_true rfl) ?_
  refine g_iload1 (pc := 0) dX9_isDone_0 ?_
  refine g_iconst (pc := 1) (5) dX9_isDone_1 (by decide) ?_
  refine g_icmp_ne (pc := 2) 36 dX9_isDone_2 (by decide) (fun zh2 => ?_) (fun zh2 => ?_)
  · skip
    refine g_iload1 (pc := 36) dX9_isDone_36 ?_
    refine g_iconst (pc := 37) (1) dX9_isDone_37 (by decide) ?_
    refine g_icmp_eq (pc := 38) 53 dX9_isDone_38 (by decide) (fun zh38 => ?_) (fun zh38 => ?_)
    · skip
      refine g_iconst (pc := 53) (1) dX9_isDone_53 (by decide) ?_
      refine g_goto (pc := 54) 58 dX9_isDone_54 (by decide) ?_
      refine g_istore4 (pc := 58) dX9_isDone_58 (by decide) (by first | rfl | assumption) ?_
      first | refine g_aload0 (pc := 60) dX9_isDone_60 ?_ | refine g_aloadN0 (pc := 60) dX9_isDone_60 ?_
      refine g_getR (pc := 61) (j := 3) cf9 dX9_isDone_61 fl_RX9_30 (by decide) (by decide) (by first | rfl | assumption) (12) (rfl) ?_
      refine g_iload4 (pc := 64) dX9_isDone_64 ?_
      refine g_if_eq (pc := 66) 73 dX9_isDone_66 (by decide) (fun zh66 => ?_) (fun zh66 => ?_)
      · skip
        first | exact absurd zh66 (by decide) | exact absurd (by decide) zh66
      · skip
        refine g_iload2 (pc := 69) dX9_isDone_69 ?_
        refine g_goto (pc := 70) 74 dX9_isDone_70 (by decide) ?_
        refine g_fV1 (pc := 74) (c_X4_find_n (S := 12) s12 (fun zq => hx ⟨zq.1, by rw [← hT.2.1]; exact zq.2.1⟩)) cf4 (by first | rfl | assumption) dX9_isDone_74 cw_RX9_111 (by decide) (Nat.le_of_ble_eq_true rfl) ?_
        first | refine g_astore5 (pc := 77) dX9_isDone_77 (by decide) (by first | rfl | assumption) ?_ | refine g_astoreN5 (pc := 77) dX9_isDone_77 (by decide) (by first | rfl | assumption) ?_
        first | refine g_aload5 (pc := 79) dX9_isDone_79 ?_ | refine g_aloadN5 (pc := 79) dX9_isDone_79 ?_
        refine g_ifnullN (pc := 81) 93 dX9_isDone_81 (by decide) ?_
        refine g_iconst (pc := 93) (0) dX9_isDone_93 (by decide) ?_
        refine g_zret (pc := 94) dX9_isDone_94 rfl (by first | exact Or.inl rfl | exact Or.inr rfl | assumption) ?_
        exact ⟨rfl, rfl, rfl⟩
    · skip
      first | exact absurd zh38 (by decide) | exact absurd (by decide) zh38
  · skip
    first | exact absurd zh2 (by decide) | exact absurd (by decide) zh2
theorem c_X9_isDone_6u {n : Nat} {x y : Int32} {v : Mm} {L : Lm} (hT : TSt v n) (hx : ¬ (0 ≤ x ∧ x < nI n)) : Fn yX9_isDone cX9_isDone 6 (some .boolean) 5 [.ref 0, .int 6, .int x, .int y] v L (some (.int 0)) v L := by
  refine Fq.of (plainFor_of_name (by decide)) [some (.ref 0), some (.int 6), some (.int x), some (.int y), none, none] rfl (Nat.le_of_ble_eq_true rfl) ?_
  refine g_iload1 (pc := 0) dX9_isDone_0 ?_
  refine g_iconst (pc := 1) (5) dX9_isDone_1 (by decide) ?_
  refine g_icmp_ne (pc := 2) 36 dX9_isDone_2 (by decide) (fun zh2 => ?_) (fun zh2 => ?_)
  · skip
    refine g_iload1 (pc := 36) dX9_isDone_36 ?_
    refine g_iconst (pc := 37) (1) dX9_isDone_37 (by decide) ?_
    refine g_icmp_eq (pc := 38) 53 dX9_isDone_38 (by decide) (fun zh38 => ?_) (fun zh38 => ?_)
    · skip
      first | exact absurd zh38 (by decide) | exact absurd (by decide) zh38
    · skip
      refine g_iload1 (pc := 41) dX9_isDone_41 ?_
      refine g_bipush (pc := 42) (6) dX9_isDone_42 (by decide) ?_
      refine g_icmp_eq (pc := 44) 53 dX9_isDone_44 (by decide) (fun zh44 => ?_) (fun zh44 => ?_)
      · skip
        refine g_iconst (pc := 53) (1) dX9_isDone_53 (by decide) ?_
        refine g_goto (pc := 54) 58 dX9_isDone_54 (by decide) ?_
        refine g_istore4 (pc := 58) dX9_isDone_58 (by decide) (by first | rfl | assumption) ?_
        first | refine g_aload0 (pc := 60) dX9_isDone_60 ?_ | refine g_aloadN0 (pc := 60) dX9_isDone_60 ?_
        refine g_getR (pc := 61) (j := 3) cf9 dX9_isDone_61 fl_RX9_30 (by decide) (by decide) (by first | rfl | assumption) (12) (rfl) ?_
        refine g_iload4 (pc := 64) dX9_isDone_64 ?_
        refine g_if_eq (pc := 66) 73 dX9_isDone_66 (by decide) (fun zh66 => ?_) (fun zh66 => ?_)
        · skip
          first | exact absurd zh66 (by decide) | exact absurd (by decide) zh66
        · skip
          refine g_iload2 (pc := 69) dX9_isDone_69 ?_
          refine g_goto (pc := 70) 74 dX9_isDone_70 (by decide) ?_
          refine g_fV1 (pc := 74) (c_X4_find_n (S := 12) s12 (fun zq => hx ⟨zq.1, by rw [← hT.2.1]; exact zq.2.1⟩)) cf4 (by first | rfl | assumption) dX9_isDone_74 cw_RX9_111 (by decide) (Nat.le_of_ble_eq_true rfl) ?_
          first | refine g_astore5 (pc := 77) dX9_isDone_77 (by decide) (by first | rfl | assumption) ?_ | refine g_astoreN5 (pc := 77) dX9_isDone_77 (by decide) (by first | rfl | assumption) ?_
          first | refine g_aload5 (pc := 79) dX9_isDone_79 ?_ | refine g_aloadN5 (pc := 79) dX9_isDone_79 ?_
          refine g_ifnullN (pc := 81) 93 dX9_isDone_81 (by decide) ?_
          refine g_iconst (pc := 93) (0) dX9_isDone_93 (by decide) ?_
          refine g_zret (pc := 94) dX9_isDone_94 rfl (by first | exact Or.inl rfl | exact Or.inr rfl | assumption) ?_
          exact ⟨rfl, rfl, rfl⟩
      · skip
        first | exact absurd zh44 (by decide) | exact absurd (by decide) zh44
  · skip
    first | exact absurd zh2 (by decide) | exact absurd (by decide) zh2
theorem c_X9_isDone_7u {n : Nat} {x y : Int32} {v : Mm} {L : Lm} (hT : TSt v n) (hx : ¬ (0 ≤ x ∧ x < nI n)) : Fn yX9_isDone cX9_isDone 6 (some .boolean) 5 [.ref 0, .int 7, .int x, .int y] v L (some (.int 0)) v L := by
  refine Fq.of (plainFor_of_name (by decide)) [some (.ref 0), some (.int 7), some (.int x), some (.int y), none, none] rfl (Nat.le_of_ble_eq_true rfl) ?_
  refine g_iload1 (pc := 0) dX9_isDone_0 ?_
  refine g_iconst (pc := 1) (5) dX9_isDone_1 (by decide) ?_
  refine g_icmp_ne (pc := 2) 36 dX9_isDone_2 (by decide) (fun zh2 => ?_) (fun zh2 => ?_)
  · skip
    refine g_iload1 (pc := 36) dX9_isDone_36 ?_
    refine g_iconst (pc := 37) (1) dX9_isDone_37 (by decide) ?_
    refine g_icmp_eq (pc := 38) 53 dX9_isDone_38 (by decide) (fun zh38 => ?_) (fun zh38 => ?_)
    · skip
      first | exact absurd zh38 (by decide) | exact absurd (by decide) zh38
    · skip
      refine g_iload1 (pc := 41) dX9_isDone_41 ?_
      refine g_bipush (pc := 42) (6) dX9_isDone_42 (by decide) ?_
      refine g_icmp_eq (pc := 44) 53 dX9_isDone_44 (by decide) (fun zh44 => ?_) (fun zh44 => ?_)
      · skip
        first | exact absurd zh44 (by decide) | exact absurd (by decide) zh44
      · skip
        refine g_iload1 (pc := 47) dX9_isDone_47 ?_
        refine g_bipush (pc := 48) (7) dX9_isDone_48 (by decide) ?_
        refine g_icmp_ne (pc := 50) 57 dX9_isDone_50 (by decide) (fun zh50 => ?_) (fun zh50 => ?_)
        · skip
          first | exact absurd zh50 (by decide) | exact absurd (by decide) zh50
        · skip
          refine g_iconst (pc := 53) (1) dX9_isDone_53 (by decide) ?_
          refine g_goto (pc := 54) 58 dX9_isDone_54 (by decide) ?_
          refine g_istore4 (pc := 58) dX9_isDone_58 (by decide) (by first | rfl | assumption) ?_
          first | refine g_aload0 (pc := 60) dX9_isDone_60 ?_ | refine g_aloadN0 (pc := 60) dX9_isDone_60 ?_
          refine g_getR (pc := 61) (j := 3) cf9 dX9_isDone_61 fl_RX9_30 (by decide) (by decide) (by first | rfl | assumption) (12) (rfl) ?_
          refine g_iload4 (pc := 64) dX9_isDone_64 ?_
          refine g_if_eq (pc := 66) 73 dX9_isDone_66 (by decide) (fun zh66 => ?_) (fun zh66 => ?_)
          · skip
            first | exact absurd zh66 (by decide) | exact absurd (by decide) zh66
          · skip
            refine g_iload2 (pc := 69) dX9_isDone_69 ?_
            refine g_goto (pc := 70) 74 dX9_isDone_70 (by decide) ?_
            refine g_fV1 (pc := 74) (c_X4_find_n (S := 12) s12 (fun zq => hx ⟨zq.1, by rw [← hT.2.1]; exact zq.2.1⟩)) cf4 (by first | rfl | assumption) dX9_isDone_74 cw_RX9_111 (by decide) (Nat.le_of_ble_eq_true rfl) ?_
            first | refine g_astore5 (pc := 77) dX9_isDone_77 (by decide) (by first | rfl | assumption) ?_ | refine g_astoreN5 (pc := 77) dX9_isDone_77 (by decide) (by first | rfl | assumption) ?_
            first | refine g_aload5 (pc := 79) dX9_isDone_79 ?_ | refine g_aloadN5 (pc := 79) dX9_isDone_79 ?_
            refine g_ifnullN (pc := 81) 93 dX9_isDone_81 (by decide) ?_
            refine g_iconst (pc := 93) (0) dX9_isDone_93 (by decide) ?_
            refine g_zret (pc := 94) dX9_isDone_94 rfl (by first | exact Or.inl rfl | exact Or.inr rfl | assumption) ?_
            exact ⟨rfl, rfl, rfl⟩
  · skip
    first | exact absurd zh2 (by decide) | exact absurd (by decide) zh2
theorem c_X9_isDone_2u {n : Nat} {x y : Int32} {v : Mm} {L : Lm} (hT : TSt v n) (hx : ¬ (0 ≤ x ∧ x < nI n)) : Fn yX9_isDone cX9_isDone 6 (some .boolean) 5 [.ref 0, .int 2, .int y, .int x] v L (some (.int 0)) v L := by
  refine Fq.of (plainFor_of_name (by decide)) [some (.ref 0), some (.int 2), some (.int y), some (.int x), none, none] rfl (Nat.le_of_ble_eq_true rfl) ?_
  refine g_iload1 (pc := 0) dX9_isDone_0 ?_
  refine g_iconst (pc := 1) (5) dX9_isDone_1 (by decide) ?_
  refine g_icmp_ne (pc := 2) 36 dX9_isDone_2 (by decide) (fun zh2 => ?_) (fun zh2 => ?_)
  · skip
    refine g_iload1 (pc := 36) dX9_isDone_36 ?_
    refine g_iconst (pc := 37) (1) dX9_isDone_37 (by decide) ?_
    refine g_icmp_eq (pc := 38) 53 dX9_isDone_38 (by decide) (fun zh38 => ?_) (fun zh38 => ?_)
    · skip
      first | exact absurd zh38 (by decide) | exact absurd (by decide) zh38
    · skip
      refine g_iload1 (pc := 41) dX9_isDone_41 ?_
      refine g_bipush (pc := 42) (6) dX9_isDone_42 (by decide) ?_
      refine g_icmp_eq (pc := 44) 53 dX9_isDone_44 (by decide) (fun zh44 => ?_) (fun zh44 => ?_)
      · skip
        first | exact absurd zh44 (by decide) | exact absurd (by decide) zh44
      · skip
        refine g_iload1 (pc := 47) dX9_isDone_47 ?_
        refine g_bipush (pc := 48) (7) dX9_isDone_48 (by decide) ?_
        refine g_icmp_ne (pc := 50) 57 dX9_isDone_50 (by decide) (fun zh50 => ?_) (fun zh50 => ?_)
        · skip
          refine g_iconst (pc := 57) (0) dX9_isDone_57 (by decide) ?_
          refine g_istore4 (pc := 58) dX9_isDone_58 (by decide) (by first | rfl | assumption) ?_
          first | refine g_aload0 (pc := 60) dX9_isDone_60 ?_ | refine g_aloadN0 (pc := 60) dX9_isDone_60 ?_
          refine g_getR (pc := 61) (j := 3) cf9 dX9_isDone_61 fl_RX9_30 (by decide) (by decide) (by first | rfl | assumption) (12) (rfl) ?_
          refine g_iload4 (pc := 64) dX9_isDone_64 ?_
          refine g_if_eq (pc := 66) 73 dX9_isDone_66 (by decide) (fun zh66 => ?_) (fun zh66 => ?_)
          · skip
            refine g_iload3 (pc := 73) dX9_isDone_73 ?_
            refine g_fV1 (pc := 74) (c_X4_find_n (S := 12) s12 (fun zq => hx ⟨zq.1, by rw [← hT.2.1]; exact zq.2.1⟩)) cf4 (by first | rfl | assumption) dX9_isDone_74 cw_RX9_111 (by decide) (Nat.le_of_ble_eq_true rfl) ?_
            first | refine g_astore5 (pc := 77) dX9_isDone_77 (by decide) (by first | rfl | assumption) ?_ | refine g_astoreN5 (pc := 77) dX9_isDone_77 (by decide) (by first | rfl | assumption) ?_
            first | refine g_aload5 (pc := 79) dX9_isDone_79 ?_ | refine g_aloadN5 (pc := 79) dX9_isDone_79 ?_
            refine g_ifnullN (pc := 81) 93 dX9_isDone_81 (by decide) ?_
            refine g_iconst (pc := 93) (0) dX9_isDone_93 (by decide) ?_
            refine g_zret (pc := 94) dX9_isDone_94 rfl (by first | exact Or.inl rfl | exact Or.inr rfl | assumption) ?_
            exact ⟨rfl, rfl, rfl⟩
          · skip
            first | exact absurd zh66 (by decide) | exact absurd (by decide) zh66
        · skip
          first | exact absurd zh50 (by decide) | exact absurd (by decide) zh50
  · skip
    first | exact absurd zh2 (by decide) | exact absurd (by decide) zh2
theorem c_X9_isDone_2m {n p : Nat} {y : Int32} {v : Mm} {L : Lm} (hT : TSt v n) (hp : p < n) (hy : ¬ y = 0) : Fn yX9_isDone cX9_isDone 6 (some .boolean) 5 [.ref 0, .int 2, .int y, .int (nI p)] v L (some (.int 0)) v L := by
  have hkp : kd (12 + 3 + p) = 2 := sh_kp s12 (by have := hT.1; omega)
  have hn4 := hT.1
  refine Fq.of (plainFor_of_name (by decide)) [some (.ref 0), some (.int 2), some (.int y), some (.int (nI p)), none, none] rfl (Nat.le_of_ble_eq_true rfl) ?_
  refine g_iload1 (pc := 0) dX9_isDone_0 ?_
  refine g_iconst (pc := 1) (5) dX9_isDone_1 (by decide) ?_
  refine g_icmp_ne (pc := 2) 36 dX9_isDone_2 (by decide) (fun zh2 => ?_) (fun zh2 => ?_)
  · skip
    refine g_iload1 (pc := 36) dX9_isDone_36 ?_
    refine g_iconst (pc := 37) (1) dX9_isDone_37 (by decide) ?_
    refine g_icmp_eq (pc := 38) 53 dX9_isDone_38 (by decide) (fun zh38 => ?_) (fun zh38 => ?_)
    · skip
      first | exact absurd zh38 (by decide) | exact absurd (by decide) zh38
    · skip
      refine g_iload1 (pc := 41) dX9_isDone_41 ?_
      refine g_bipush (pc := 42) (6) dX9_isDone_42 (by decide) ?_
      refine g_icmp_eq (pc := 44) 53 dX9_isDone_44 (by decide) (fun zh44 => ?_) (fun zh44 => ?_)
      · skip
        first | exact absurd zh44 (by decide) | exact absurd (by decide) zh44
      · skip
        refine g_iload1 (pc := 47) dX9_isDone_47 ?_
        refine g_bipush (pc := 48) (7) dX9_isDone_48 (by decide) ?_
        refine g_icmp_ne (pc := 50) 57 dX9_isDone_50 (by decide) (fun zh50 => ?_) (fun zh50 => ?_)
        · skip
          refine g_iconst (pc := 57) (0) dX9_isDone_57 (by decide) ?_
          refine g_istore4 (pc := 58) dX9_isDone_58 (by decide) (by first | rfl | assumption) ?_
          first | refine g_aload0 (pc := 60) dX9_isDone_60 ?_ | refine g_aloadN0 (pc := 60) dX9_isDone_60 ?_
          refine g_getR (pc := 61) (j := 3) cf9 dX9_isDone_61 fl_RX9_30 (by decide) (by decide) (by first | rfl | assumption) (12) (rfl) ?_
          refine g_iload4 (pc := 64) dX9_isDone_64 ?_
          refine g_if_eq (pc := 66) 73 dX9_isDone_66 (by decide) (fun zh66 => ?_) (fun zh66 => ?_)
          · skip
            refine g_iload3 (pc := 73) dX9_isDone_73 ?_
            refine g_fV1 (pc := 74) (c_X4_find_s (S := 12) (i := p) s12 (by have := hT.1; omega) (by rw [hT.2.1]; exact nI_lt hp (by have := hT.1; omega))) cf4 (by first | rfl | assumption) dX9_isDone_74 cw_RX9_111 (by decide) (Nat.le_of_ble_eq_true rfl) ?_
            first | refine g_astore5 (pc := 77) dX9_isDone_77 (by decide) (by first | rfl | assumption) ?_ | refine g_astoreN5 (pc := 77) dX9_isDone_77 (by decide) (by first | rfl | assumption) ?_
            first | refine g_aload5 (pc := 79) dX9_isDone_79 ?_ | refine g_aloadN5 (pc := 79) dX9_isDone_79 ?_
            refine g_ifnull (pc := 81) dX9_isDone_81 ?_
            refine g_iload4 (pc := 84) dX9_isDone_84 ?_
            refine g_if_ne (pc := 86) 95 dX9_isDone_86 (by decide) (fun zh86 => ?_) (fun zh86 => ?_)
            · skip
              first | exact absurd zh86 (by decide) | exact absurd (by decide) zh86
            · skip
              refine g_iload2 (pc := 89) dX9_isDone_89 ?_
              refine g_if_eq (pc := 90) 95 dX9_isDone_90 (by decide) (fun zh90 => ?_) (fun zh90 => ?_)
              · skip
                exact absurd zh90 hy
              · skip
                refine g_iconst (pc := 93) (0) dX9_isDone_93 (by decide) ?_
                refine g_zret (pc := 94) dX9_isDone_94 rfl (by first | exact Or.inl rfl | exact Or.inr rfl | assumption) ?_
                exact ⟨rfl, rfl, rfl⟩
          · skip
            first | exact absurd zh66 (by decide) | exact absurd (by decide) zh66
        · skip
          first | exact absurd zh50 (by decide) | exact absurd (by decide) zh50
  · skip
    first | exact absurd zh2 (by decide) | exact absurd (by decide) zh2
theorem c_X9_isDone_3u {n : Nat} {x y : Int32} {v : Mm} {L : Lm} (hT : TSt v n) (hx : ¬ (0 ≤ x ∧ x < nI n)) : Fn yX9_isDone cX9_isDone 6 (some .boolean) 5 [.ref 0, .int 3, .int y, .int x] v L (some (.int 0)) v L := by
  refine Fq.of (plainFor_of_name (by decide)) [some (.ref 0), some (.int 3), some (.int y), some (.int x), none, none] rfl (Nat.le_of_ble_eq_true rfl) ?_
  refine g_iload1 (pc := 0) dX9_isDone_0 ?_
  refine g_iconst (pc := 1) (5) dX9_isDone_1 (by decide) ?_
  refine g_icmp_ne (pc := 2) 36 dX9_isDone_2 (by decide) (fun zh2 => ?_) (fun zh2 => ?_)
  · skip
    refine g_iload1 (pc := 36) dX9_isDone_36 ?_
    refine g_iconst (pc := 37) (1) dX9_isDone_37 (by decide) ?_
    refine g_icmp_eq (pc := 38) 53 dX9_isDone_38 (by decide) (fun zh38 => ?_) (fun zh38 => ?_)
    · skip
      first | exact absurd zh38 (by decide) | exact absurd (by decide) zh38
    · skip
      refine g_iload1 (pc := 41) dX9_isDone_41 ?_
      refine g_bipush (pc := 42) (6) dX9_isDone_42 (by decide) ?_
      refine g_icmp_eq (pc := 44) 53 dX9_isDone_44 (by decide) (fun zh44 => ?_) (fun zh44 => ?_)
      · skip
        first | exact absurd zh44 (by decide) | exact absurd (by decide) zh44
      · skip
        refine g_iload1 (pc := 47) dX9_isDone_47 ?_
        refine g_bipush (pc := 48) (7) dX9_isDone_48 (by decide) ?_
        refine g_icmp_ne (pc := 50) 57 dX9_isDone_50 (by decide) (fun zh50 => ?_) (fun zh50 => ?_)
        · skip
          refine g_iconst (pc := 57) (0) dX9_isDone_57 (by decide) ?_
          refine g_istore4 (pc := 58) dX9_isDone_58 (by decide) (by first | rfl | assumption) ?_
          first | refine g_aload0 (pc := 60) dX9_isDone_60 ?_ | refine g_aloadN0 (pc := 60) dX9_isDone_60 ?_
          refine g_getR (pc := 61) (j := 3) cf9 dX9_isDone_61 fl_RX9_30 (by decide) (by decide) (by first | rfl | assumption) (12) (rfl) ?_
          refine g_iload4 (pc := 64) dX9_isDone_64 ?_
          refine g_if_eq (pc := 66) 73 dX9_isDone_66 (by decide) (fun zh66 => ?_) (fun zh66 => ?_)
          · skip
            refine g_iload3 (pc := 73) dX9_isDone_73 ?_
            refine g_fV1 (pc := 74) (c_X4_find_n (S := 12) s12 (fun zq => hx ⟨zq.1, by rw [← hT.2.1]; exact zq.2.1⟩)) cf4 (by first | rfl | assumption) dX9_isDone_74 cw_RX9_111 (by decide) (Nat.le_of_ble_eq_true rfl) ?_
            first | refine g_astore5 (pc := 77) dX9_isDone_77 (by decide) (by first | rfl | assumption) ?_ | refine g_astoreN5 (pc := 77) dX9_isDone_77 (by decide) (by first | rfl | assumption) ?_
            first | refine g_aload5 (pc := 79) dX9_isDone_79 ?_ | refine g_aloadN5 (pc := 79) dX9_isDone_79 ?_
            refine g_ifnullN (pc := 81) 93 dX9_isDone_81 (by decide) ?_
            refine g_iconst (pc := 93) (0) dX9_isDone_93 (by decide) ?_
            refine g_zret (pc := 94) dX9_isDone_94 rfl (by first | exact Or.inl rfl | exact Or.inr rfl | assumption) ?_
            exact ⟨rfl, rfl, rfl⟩
          · skip
            first | exact absurd zh66 (by decide) | exact absurd (by decide) zh66
        · skip
          first | exact absurd zh50 (by decide) | exact absurd (by decide) zh50
  · skip
    first | exact absurd zh2 (by decide) | exact absurd (by decide) zh2
theorem c_X9_isDone_3m {n p : Nat} {y : Int32} {v : Mm} {L : Lm} (hT : TSt v n) (hp : p < n) (hy : ¬ y = 0) : Fn yX9_isDone cX9_isDone 6 (some .boolean) 5 [.ref 0, .int 3, .int y, .int (nI p)] v L (some (.int 0)) v L := by
  have hkp : kd (12 + 3 + p) = 2 := sh_kp s12 (by have := hT.1; omega)
  have hn4 := hT.1
  refine Fq.of (plainFor_of_name (by decide)) [some (.ref 0), some (.int 3), some (.int y), some (.int (nI p)), none, none] rfl (Nat.le_of_ble_eq_true rfl) ?_
  refine g_iload1 (pc := 0) dX9_isDone_0 ?_
  refine g_iconst (pc := 1) (5) dX9_isDone_1 (by decide) ?_
  refine g_icmp_ne (pc := 2) 36 dX9_isDone_2 (by decide) (fun zh2 => ?_) (fun zh2 => ?_)
  · skip
    refine g_iload1 (pc := 36) dX9_isDone_36 ?_
    refine g_iconst (pc := 37) (1) dX9_isDone_37 (by decide) ?_
    refine g_icmp_eq (pc := 38) 53 dX9_isDone_38 (by decide) (fun zh38 => ?_) (fun zh38 => ?_)
    · skip
      first | exact absurd zh38 (by decide) | exact absurd (by decide) zh38
    · skip
      refine g_iload1 (pc := 41) dX9_isDone_41 ?_
      refine g_bipush (pc := 42) (6) dX9_isDone_42 (by decide) ?_
      refine g_icmp_eq (pc := 44) 53 dX9_isDone_44 (by decide) (fun zh44 => ?_) (fun zh44 => ?_)
      · skip
        first | exact absurd zh44 (by decide) | exact absurd (by decide) zh44
      · skip
        refine g_iload1 (pc := 47) dX9_isDone_47 ?_
        refine g_bipush (pc := 48) (7) dX9_isDone_48 (by decide) ?_
        refine g_icmp_ne (pc := 50) 57 dX9_isDone_50 (by decide) (fun zh50 => ?_) (fun zh50 => ?_)
        · skip
          refine g_iconst (pc := 57) (0) dX9_isDone_57 (by decide) ?_
          refine g_istore4 (pc := 58) dX9_isDone_58 (by decide) (by first | rfl | assumption) ?_
          first | refine g_aload0 (pc := 60) dX9_isDone_60 ?_ | refine g_aloadN0 (pc := 60) dX9_isDone_60 ?_
          refine g_getR (pc := 61) (j := 3) cf9 dX9_isDone_61 fl_RX9_30 (by decide) (by decide) (by first | rfl | assumption) (12) (rfl) ?_
          refine g_iload4 (pc := 64) dX9_isDone_64 ?_
          refine g_if_eq (pc := 66) 73 dX9_isDone_66 (by decide) (fun zh66 => ?_) (fun zh66 => ?_)
          · skip
            refine g_iload3 (pc := 73) dX9_isDone_73 ?_
            refine g_fV1 (pc := 74) (c_X4_find_s (S := 12) (i := p) s12 (by have := hT.1; omega) (by rw [hT.2.1]; exact nI_lt hp (by have := hT.1; omega))) cf4 (by first | rfl | assumption) dX9_isDone_74 cw_RX9_111 (by decide) (Nat.le_of_ble_eq_true rfl) ?_
            first | refine g_astore5 (pc := 77) dX9_isDone_77 (by decide) (by first | rfl | assumption) ?_ | refine g_astoreN5 (pc := 77) dX9_isDone_77 (by decide) (by first | rfl | assumption) ?_
            first | refine g_aload5 (pc := 79) dX9_isDone_79 ?_ | refine g_aloadN5 (pc := 79) dX9_isDone_79 ?_
            refine g_ifnull (pc := 81) dX9_isDone_81 ?_
            refine g_iload4 (pc := 84) dX9_isDone_84 ?_
            refine g_if_ne (pc := 86) 95 dX9_isDone_86 (by decide) (fun zh86 => ?_) (fun zh86 => ?_)
            · skip
              first | exact absurd zh86 (by decide) | exact absurd (by decide) zh86
            · skip
              refine g_iload2 (pc := 89) dX9_isDone_89 ?_
              refine g_if_eq (pc := 90) 95 dX9_isDone_90 (by decide) (fun zh90 => ?_) (fun zh90 => ?_)
              · skip
                exact absurd zh90 hy
              · skip
                refine g_iconst (pc := 93) (0) dX9_isDone_93 (by decide) ?_
                refine g_zret (pc := 94) dX9_isDone_94 rfl (by first | exact Or.inl rfl | exact Or.inr rfl | assumption) ?_
                exact ⟨rfl, rfl, rfl⟩
          · skip
            first | exact absurd zh66 (by decide) | exact absurd (by decide) zh66
        · skip
          first | exact absurd zh50 (by decide) | exact absurd (by decide) zh50
  · skip
    first | exact absurd zh2 (by decide) | exact absurd (by decide) zh2
theorem c_X9_isDone_4u {n : Nat} {x y : Int32} {v : Mm} {L : Lm} (hT : TSt v n) (hx : ¬ (0 ≤ x ∧ x < nI n)) : Fn yX9_isDone cX9_isDone 6 (some .boolean) 5 [.ref 0, .int 4, .int y, .int x] v L (some (.int 0)) v L := by
  refine Fq.of (plainFor_of_name (by decide)) [some (.ref 0), some (.int 4), some (.int y), some (.int x), none, none] rfl (Nat.le_of_ble_eq_true rfl) ?_
  refine g_iload1 (pc := 0) dX9_isDone_0 ?_
  refine g_iconst (pc := 1) (5) dX9_isDone_1 (by decide) ?_
  refine g_icmp_ne (pc := 2) 36 dX9_isDone_2 (by decide) (fun zh2 => ?_) (fun zh2 => ?_)
  · skip
    refine g_iload1 (pc := 36) dX9_isDone_36 ?_
    refine g_iconst (pc := 37) (1) dX9_isDone_37 (by decide) ?_
    refine g_icmp_eq (pc := 38) 53 dX9_isDone_38 (by decide) (fun zh38 => ?_) (fun zh38 => ?_)
    · skip
      first | exact absurd zh38 (by decide) | exact absurd (by decide) zh38
    · skip
      refine g_iload1 (pc := 41) dX9_isDone_41 ?_
      refine g_bipush (pc := 42) (6) dX9_isDone_42 (by decide) ?_
      refine g_icmp_eq (pc := 44) 53 dX9_isDone_44 (by decide) (fun zh44 => ?_) (fun zh44 => ?_)
      · skip
        first | exact absurd zh44 (by decide) | exact absurd (by decide) zh44
      · skip
        refine g_iload1 (pc := 47) dX9_isDone_47 ?_
        refine g_bipush (pc := 48) (7) dX9_isDone_48 (by decide) ?_
        refine g_icmp_ne (pc := 50) 57 dX9_isDone_50 (by decide) (fun zh50 => ?_) (fun zh50 => ?_)
        · skip
          refine g_iconst (pc := 57) (0) dX9_isDone_57 (by decide) ?_
          refine g_istore4 (pc := 58) dX9_isDone_58 (by decide) (by first | rfl | assumption) ?_
          first | refine g_aload0 (pc := 60) dX9_isDone_60 ?_ | refine g_aloadN0 (pc := 60) dX9_isDone_60 ?_
          refine g_getR (pc := 61) (j := 3) cf9 dX9_isDone_61 fl_RX9_30 (by decide) (by decide) (by first | rfl | assumption) (12) (rfl) ?_
          refine g_iload4 (pc := 64) dX9_isDone_64 ?_
          refine g_if_eq (pc := 66) 73 dX9_isDone_66 (by decide) (fun zh66 => ?_) (fun zh66 => ?_)
          · skip
            refine g_iload3 (pc := 73) dX9_isDone_73 ?_
            refine g_fV1 (pc := 74) (c_X4_find_n (S := 12) s12 (fun zq => hx ⟨zq.1, by rw [← hT.2.1]; exact zq.2.1⟩)) cf4 (by first | rfl | assumption) dX9_isDone_74 cw_RX9_111 (by decide) (Nat.le_of_ble_eq_true rfl) ?_
            first | refine g_astore5 (pc := 77) dX9_isDone_77 (by decide) (by first | rfl | assumption) ?_ | refine g_astoreN5 (pc := 77) dX9_isDone_77 (by decide) (by first | rfl | assumption) ?_
            first | refine g_aload5 (pc := 79) dX9_isDone_79 ?_ | refine g_aloadN5 (pc := 79) dX9_isDone_79 ?_
            refine g_ifnullN (pc := 81) 93 dX9_isDone_81 (by decide) ?_
            refine g_iconst (pc := 93) (0) dX9_isDone_93 (by decide) ?_
            refine g_zret (pc := 94) dX9_isDone_94 rfl (by first | exact Or.inl rfl | exact Or.inr rfl | assumption) ?_
            exact ⟨rfl, rfl, rfl⟩
          · skip
            first | exact absurd zh66 (by decide) | exact absurd (by decide) zh66
        · skip
          first | exact absurd zh50 (by decide) | exact absurd (by decide) zh50
  · skip
    first | exact absurd zh2 (by decide) | exact absurd (by decide) zh2
theorem c_X9_isDone_4m {n p : Nat} {y : Int32} {v : Mm} {L : Lm} (hT : TSt v n) (hp : p < n) (hy : ¬ y = 0) : Fn yX9_isDone cX9_isDone 6 (some .boolean) 5 [.ref 0, .int 4, .int y, .int (nI p)] v L (some (.int 0)) v L := by
  have hkp : kd (12 + 3 + p) = 2 := sh_kp s12 (by have := hT.1; omega)
  have hn4 := hT.1
  refine Fq.of (plainFor_of_name (by decide)) [some (.ref 0), some (.int 4), some (.int y), some (.int (nI p)), none, none] rfl (Nat.le_of_ble_eq_true rfl) ?_
  refine g_iload1 (pc := 0) dX9_isDone_0 ?_
  refine g_iconst (pc := 1) (5) dX9_isDone_1 (by decide) ?_
  refine g_icmp_ne (pc := 2) 36 dX9_isDone_2 (by decide) (fun zh2 => ?_) (fun zh2 => ?_)
  · skip
    refine g_iload1 (pc := 36) dX9_isDone_36 ?_
    refine g_iconst (pc := 37) (1) dX9_isDone_37 (by decide) ?_
    refine g_icmp_eq (pc := 38) 53 dX9_isDone_38 (by decide) (fun zh38 => ?_) (fun zh38 => ?_)
    · skip
      first | exact absurd zh38 (by decide) | exact absurd (by decide) zh38
    · skip
      refine g_iload1 (pc := 41) dX9_isDone_41 ?_
      refine g_bipush (pc := 42) (6) dX9_isDone_42 (by decide) ?_
      refine g_icmp_eq (pc := 44) 53 dX9_isDone_44 (by decide) (fun zh44 => ?_) (fun zh44 => ?_)
      · skip
        first | exact absurd zh44 (by decide) | exact absurd (by decide) zh44
      · skip
        refine g_iload1 (pc := 47) dX9_isDone_47 ?_
        refine g_bipush (pc := 48) (7) dX9_isDone_48 (by decide) ?_
        refine g_icmp_ne (pc := 50) 57 dX9_isDone_50 (by decide) (fun zh50 => ?_) (fun zh50 => ?_)
        · skip
          refine g_iconst (pc := 57) (0) dX9_isDone_57 (by decide) ?_
          refine g_istore4 (pc := 58) dX9_isDone_58 (by decide) (by first | rfl | assumption) ?_
          first | refine g_aload0 (pc := 60) dX9_isDone_60 ?_ | refine g_aloadN0 (pc := 60) dX9_isDone_60 ?_
          refine g_getR (pc := 61) (j := 3) cf9 dX9_isDone_61 fl_RX9_30 (by decide) (by decide) (by first | rfl | assumption) (12) (rfl) ?_
          refine g_iload4 (pc := 64) dX9_isDone_64 ?_
          refine g_if_eq (pc := 66) 73 dX9_isDone_66 (by decide) (fun zh66 => ?_) (fun zh66 => ?_)
          · skip
            refine g_iload3 (pc := 73) dX9_isDone_73 ?_
            refine g_fV1 (pc := 74) (c_X4_find_s (S := 12) (i := p) s12 (by have := hT.1; omega) (by rw [hT.2.1]; exact nI_lt hp (by have := hT.1; omega))) cf4 (by first | rfl | assumption) dX9_isDone_74 cw_RX9_111 (by decide) (Nat.le_of_ble_eq_true rfl) ?_
            first | refine g_astore5 (pc := 77) dX9_isDone_77 (by decide) (by first | rfl | assumption) ?_ | refine g_astoreN5 (pc := 77) dX9_isDone_77 (by decide) (by first | rfl | assumption) ?_
            first | refine g_aload5 (pc := 79) dX9_isDone_79 ?_ | refine g_aloadN5 (pc := 79) dX9_isDone_79 ?_
            refine g_ifnull (pc := 81) dX9_isDone_81 ?_
            refine g_iload4 (pc := 84) dX9_isDone_84 ?_
            refine g_if_ne (pc := 86) 95 dX9_isDone_86 (by decide) (fun zh86 => ?_) (fun zh86 => ?_)
            · skip
              first | exact absurd zh86 (by decide) | exact absurd (by decide) zh86
            · skip
              refine g_iload2 (pc := 89) dX9_isDone_89 ?_
              refine g_if_eq (pc := 90) 95 dX9_isDone_90 (by decide) (fun zh90 => ?_) (fun zh90 => ?_)
              · skip
                exact absurd zh90 hy
              · skip
                refine g_iconst (pc := 93) (0) dX9_isDone_93 (by decide) ?_
                refine g_zret (pc := 94) dX9_isDone_94 rfl (by first | exact Or.inl rfl | exact Or.inr rfl | assumption) ?_
                exact ⟨rfl, rfl, rfl⟩
          · skip
            first | exact absurd zh66 (by decide) | exact absurd (by decide) zh66
        · skip
          first | exact absurd zh50 (by decide) | exact absurd (by decide) zh50
  · skip
    first | exact absurd zh2 (by decide) | exact absurd (by decide) zh2
theorem c_X9_isDone_1n {n p : Nat} {y : Int32} {v : Mm} {L : Lm} (hT : TSt v n) (hp : p < n) (hnb : nbF (v (12 + 3 + p) 0) y = -9) : Fn yX9_isDone cX9_isDone 6 (some .boolean) 5 [.ref 0, .int 1, .int (nI p), .int y] v L (some (.int 0)) v L := by
  have hkp : kd (12 + 3 + p) = 2 := sh_kp s12 (by have := hT.1; omega)
  have hn4 := hT.1
  refine Fq.of (plainFor_of_name (by decide)) [some (.ref 0), some (.int 1), some (.int (nI p)), some (.int y), none, none] rfl (Nat.le_of_ble_eq_true rfl) ?_
  refine g_iload1 (pc := 0) dX9_isDone_0 ?_
  refine g_iconst (pc := 1) (5) dX9_isDone_1 (by decide) ?_
  refine g_icmp_ne (pc := 2) 36 dX9_isDone_2 (by decide) (fun zh2 => ?_) (fun zh2 => ?_)
  · skip
    refine g_iload1 (pc := 36) dX9_isDone_36 ?_
    refine g_iconst (pc := 37) (1) dX9_isDone_37 (by decide) ?_
    refine g_icmp_eq (pc := 38) 53 dX9_isDone_38 (by decide) (fun zh38 => ?_) (fun zh38 => ?_)
    · skip
      refine g_iconst (pc := 53) (1) dX9_isDone_53 (by decide) ?_
      refine g_goto (pc := 54) 58 dX9_isDone_54 (by decide) ?_
      refine g_istore4 (pc := 58) dX9_isDone_58 (by decide) (by first | rfl | assumption) ?_
      first | refine g_aload0 (pc := 60) dX9_isDone_60 ?_ | refine g_aloadN0 (pc := 60) dX9_isDone_60 ?_
      refine g_getR (pc := 61) (j := 3) cf9 dX9_isDone_61 fl_RX9_30 (by decide) (by decide) (by first | rfl | assumption) (12) (rfl) ?_
      refine g_iload4 (pc := 64) dX9_isDone_64 ?_
      refine g_if_eq (pc := 66) 73 dX9_isDone_66 (by decide) (fun zh66 => ?_) (fun zh66 => ?_)
      · skip
        first | exact absurd zh66 (by decide) | exact absurd (by decide) zh66
      · skip
        refine g_iload2 (pc := 69) dX9_isDone_69 ?_
        refine g_goto (pc := 70) 74 dX9_isDone_70 (by decide) ?_
        refine g_fV1 (pc := 74) (c_X4_find_s (S := 12) (i := p) s12 (by have := hT.1; omega) (by rw [hT.2.1]; exact nI_lt hp (by have := hT.1; omega))) cf4 (by first | rfl | assumption) dX9_isDone_74 cw_RX9_111 (by decide) (Nat.le_of_ble_eq_true rfl) ?_
        first | refine g_astore5 (pc := 77) dX9_isDone_77 (by decide) (by first | rfl | assumption) ?_ | refine g_astoreN5 (pc := 77) dX9_isDone_77 (by decide) (by first | rfl | assumption) ?_
        first | refine g_aload5 (pc := 79) dX9_isDone_79 ?_ | refine g_aloadN5 (pc := 79) dX9_isDone_79 ?_
        refine g_ifnull (pc := 81) dX9_isDone_81 ?_
        refine g_iload4 (pc := 84) dX9_isDone_84 ?_
        refine g_if_ne (pc := 86) 95 dX9_isDone_86 (by decide) (fun zh86 => ?_) (fun zh86 => ?_)
        · skip
          refine g_iload1 (pc := 95) dX9_isDone_95 ?_
          refine g_tableIn (pc := 96) (off := 44) 140 dX9_isDone_96 (by decide) (by decide) (by rfl) (by decide) ?_
          first | refine g_aload0 (pc := 140) dX9_isDone_140 ?_ | refine g_aloadN0 (pc := 140) dX9_isDone_140 ?_
          refine g_getR (pc := 141) (j := 3) cf9 dX9_isDone_141 fl_RX9_30 (by decide) (by decide) (by first | rfl | assumption) (12) (rfl) ?_
          first | refine g_aload5 (pc := 144) dX9_isDone_144 ?_ | refine g_aloadN5 (pc := 144) dX9_isDone_144 ?_
          refine g_iload3 (pc := 146) dX9_isDone_146 ?_
          refine g_fV2 (pc := 147) (c_X4_move_n s12 hkp hnb) cf4 (by first | rfl | assumption) dX9_isDone_147 cw_RX9_159 (by decide) (Nat.le_of_ble_eq_true rfl) ?_
          refine g_bipush (pc := 150) (-9) dX9_isDone_150 (by decide) ?_
          refine g_icmp_eq (pc := 152) 159 dX9_isDone_152 (by decide) (fun zh152 => ?_) (fun zh152 => ?_)
          · skip
            refine g_iconst (pc := 159) (0) dX9_isDone_159 (by decide) ?_
            refine g_zret (pc := 160) dX9_isDone_160 rfl (by first | exact Or.inl rfl | exact Or.inr rfl | assumption) ?_
            exact ⟨rfl, rfl, rfl⟩
          · skip
            first | exact absurd zh152 (by decide) | exact absurd (by decide) zh152
        · skip
          first | exact absurd zh86 (by decide) | exact absurd (by decide) zh86
    · skip
      first | exact absurd zh38 (by decide) | exact absurd (by decide) zh38
  · skip
    first | exact absurd zh2 (by decide) | exact absurd (by decide) zh2
theorem c_X9_isDone_1s {n p : Nat} {y : Int32} {v : Mm} {L : Lm} (hT : TSt v n) (hp : p < n) (hnb : ¬ nbF (v (12 + 3 + p) 0) y = -9) : Fn yX9_isDone cX9_isDone 6 (some .boolean) 5 [.ref 0, .int 1, .int (nI p), .int y] v L (some (.int 1)) (mvV v 12 (12 + 3 + p) y) L := by
  have hkp : kd (12 + 3 + p) = 2 := sh_kp s12 (by have := hT.1; omega)
  have hn4 := hT.1
  refine Fq.of (plainFor_of_name (by decide)) [some (.ref 0), some (.int 1), some (.int (nI p)), some (.int y), none, none] rfl (Nat.le_of_ble_eq_true rfl) ?_
  refine g_iload1 (pc := 0) dX9_isDone_0 ?_
  refine g_iconst (pc := 1) (5) dX9_isDone_1 (by decide) ?_
  refine g_icmp_ne (pc := 2) 36 dX9_isDone_2 (by decide) (fun zh2 => ?_) (fun zh2 => ?_)
  · skip
    refine g_iload1 (pc := 36) dX9_isDone_36 ?_
    refine g_iconst (pc := 37) (1) dX9_isDone_37 (by decide) ?_
    refine g_icmp_eq (pc := 38) 53 dX9_isDone_38 (by decide) (fun zh38 => ?_) (fun zh38 => ?_)
    · skip
      refine g_iconst (pc := 53) (1) dX9_isDone_53 (by decide) ?_
      refine g_goto (pc := 54) 58 dX9_isDone_54 (by decide) ?_
      refine g_istore4 (pc := 58) dX9_isDone_58 (by decide) (by first | rfl | assumption) ?_
      first | refine g_aload0 (pc := 60) dX9_isDone_60 ?_ | refine g_aloadN0 (pc := 60) dX9_isDone_60 ?_
      refine g_getR (pc := 61) (j := 3) cf9 dX9_isDone_61 fl_RX9_30 (by decide) (by decide) (by first | rfl | assumption) (12) (rfl) ?_
      refine g_iload4 (pc := 64) dX9_isDone_64 ?_
      refine g_if_eq (pc := 66) 73 dX9_isDone_66 (by decide) (fun zh66 => ?_) (fun zh66 => ?_)
      · skip
        first | exact absurd zh66 (by decide) | exact absurd (by decide) zh66
      · skip
        refine g_iload2 (pc := 69) dX9_isDone_69 ?_
        refine g_goto (pc := 70) 74 dX9_isDone_70 (by decide) ?_
        refine g_fV1 (pc := 74) (c_X4_find_s (S := 12) (i := p) s12 (by have := hT.1; omega) (by rw [hT.2.1]; exact nI_lt hp (by have := hT.1; omega))) cf4 (by first | rfl | assumption) dX9_isDone_74 cw_RX9_111 (by decide) (Nat.le_of_ble_eq_true rfl) ?_
        first | refine g_astore5 (pc := 77) dX9_isDone_77 (by decide) (by first | rfl | assumption) ?_ | refine g_astoreN5 (pc := 77) dX9_isDone_77 (by decide) (by first | rfl | assumption) ?_
        first | refine g_aload5 (pc := 79) dX9_isDone_79 ?_ | refine g_aloadN5 (pc := 79) dX9_isDone_79 ?_
        refine g_ifnull (pc := 81) dX9_isDone_81 ?_
        refine g_iload4 (pc := 84) dX9_isDone_84 ?_
        refine g_if_ne (pc := 86) 95 dX9_isDone_86 (by decide) (fun zh86 => ?_) (fun zh86 => ?_)
        · skip
          refine g_iload1 (pc := 95) dX9_isDone_95 ?_
          refine g_tableIn (pc := 96) (off := 44) 140 dX9_isDone_96 (by decide) (by decide) (by rfl) (by decide) ?_
          first | refine g_aload0 (pc := 140) dX9_isDone_140 ?_ | refine g_aloadN0 (pc := 140) dX9_isDone_140 ?_
          refine g_getR (pc := 141) (j := 3) cf9 dX9_isDone_141 fl_RX9_30 (by decide) (by decide) (by first | rfl | assumption) (12) (rfl) ?_
          first | refine g_aload5 (pc := 144) dX9_isDone_144 ?_ | refine g_aloadN5 (pc := 144) dX9_isDone_144 ?_
          refine g_iload3 (pc := 146) dX9_isDone_146 ?_
          refine g_fV2 (pc := 147) (c_X4_move_s s12 hkp hnb) cf4 (by first | rfl | assumption) dX9_isDone_147 cw_RX9_159 (by decide) (Nat.le_of_ble_eq_true rfl) ?_
          refine g_bipush (pc := 150) (-9) dX9_isDone_150 (by decide) ?_
          refine g_icmp_eq (pc := 152) 159 dX9_isDone_152 (by decide) (fun zh152 => ?_) (fun zh152 => ?_)
          · skip
            exact absurd zh152 (mvL_ne (hT.2.2 p hp).1 _)
          · skip
            refine g_iconst (pc := 155) (1) dX9_isDone_155 (by decide) ?_
            refine g_goto (pc := 156) 160 dX9_isDone_156 (by decide) ?_
            refine g_zret (pc := 160) dX9_isDone_160 rfl (by first | exact Or.inl rfl | exact Or.inr rfl | assumption) ?_
            exact ⟨rfl, rfl, rfl⟩
        · skip
          first | exact absurd zh86 (by decide) | exact absurd (by decide) zh86
    · skip
      first | exact absurd zh38 (by decide) | exact absurd (by decide) zh38
  · skip
    first | exact absurd zh2 (by decide) | exact absurd (by decide) zh2
theorem c_X9_isDone_2s {n p : Nat} {v : Mm} {L : Lm} (hT : TSt v n) (hp : p < n) : Fn yX9_isDone cX9_isDone 6 (some .boolean) 5 [.ref 0, .int 2, .int 0, .int (nI p)] v L (some (.int 1)) (upd2 v (12 + 3 + p) 6 (b01 (v (12 + 3 + p) 6 = 0))) L := by
  have hkp : kd (12 + 3 + p) = 2 := sh_kp s12 (by have := hT.1; omega)
  have hn4 := hT.1
  refine Fq.of (plainFor_of_name (by decide)) [some (.ref 0), some (.int 2), some (.int 0), some (.int (nI p)), none, none] rfl (Nat.le_of_ble_eq_true rfl) ?_
  refine g_iload1 (pc := 0) dX9_isDone_0 ?_
  refine g_iconst (pc := 1) (5) dX9_isDone_1 (by decide) ?_
  refine g_icmp_ne (pc := 2) 36 dX9_isDone_2 (by decide) (fun zh2 => ?_) (fun zh2 => ?_)
  · skip
    refine g_iload1 (pc := 36) dX9_isDone_36 ?_
    refine g_iconst (pc := 37) (1) dX9_isDone_37 (by decide) ?_
    refine g_icmp_eq (pc := 38) 53 dX9_isDone_38 (by decide) (fun zh38 => ?_) (fun zh38 => ?_)
    · skip
      first | exact absurd zh38 (by decide) | exact absurd (by decide) zh38
    · skip
      refine g_iload1 (pc := 41) dX9_isDone_41 ?_
      refine g_bipush (pc := 42) (6) dX9_isDone_42 (by decide) ?_
      refine g_icmp_eq (pc := 44) 53 dX9_isDone_44 (by decide) (fun zh44 => ?_) (fun zh44 => ?_)
      · skip
        first | exact absurd zh44 (by decide) | exact absurd (by decide) zh44
      · skip
        refine g_iload1 (pc := 47) dX9_isDone_47 ?_
        refine g_bipush (pc := 48) (7) dX9_isDone_48 (by decide) ?_
        refine g_icmp_ne (pc := 50) 57 dX9_isDone_50 (by decide) (fun zh50 => ?_) (fun zh50 => ?_)
        · skip
          refine g_iconst (pc := 57) (0) dX9_isDone_57 (by decide) ?_
          refine g_istore4 (pc := 58) dX9_isDone_58 (by decide) (by first | rfl | assumption) ?_
          first | refine g_aload0 (pc := 60) dX9_isDone_60 ?_ | refine g_aloadN0 (pc := 60) dX9_isDone_60 ?_
          refine g_getR (pc := 61) (j := 3) cf9 dX9_isDone_61 fl_RX9_30 (by decide) (by decide) (by first | rfl | assumption) (12) (rfl) ?_
          refine g_iload4 (pc := 64) dX9_isDone_64 ?_
          refine g_if_eq (pc := 66) 73 dX9_isDone_66 (by decide) (fun zh66 => ?_) (fun zh66 => ?_)
          · skip
            refine g_iload3 (pc := 73) dX9_isDone_73 ?_
            refine g_fV1 (pc := 74) (c_X4_find_s (S := 12) (i := p) s12 (by have := hT.1; omega) (by rw [hT.2.1]; exact nI_lt hp (by have := hT.1; omega))) cf4 (by first | rfl | assumption) dX9_isDone_74 cw_RX9_111 (by decide) (Nat.le_of_ble_eq_true rfl) ?_
            first | refine g_astore5 (pc := 77) dX9_isDone_77 (by decide) (by first | rfl | assumption) ?_ | refine g_astoreN5 (pc := 77) dX9_isDone_77 (by decide) (by first | rfl | assumption) ?_
            first | refine g_aload5 (pc := 79) dX9_isDone_79 ?_ | refine g_aloadN5 (pc := 79) dX9_isDone_79 ?_
            refine g_ifnull (pc := 81) dX9_isDone_81 ?_
            refine g_iload4 (pc := 84) dX9_isDone_84 ?_
            refine g_if_ne (pc := 86) 95 dX9_isDone_86 (by decide) (fun zh86 => ?_) (fun zh86 => ?_)
            · skip
              first | exact absurd zh86 (by decide) | exact absurd (by decide) zh86
            · skip
              refine g_iload2 (pc := 89) dX9_isDone_89 ?_
              refine g_if_eq (pc := 90) 95 dX9_isDone_90 (by decide) (fun zh90 => ?_) (fun zh90 => ?_)
              · skip
                refine g_iload1 (pc := 95) dX9_isDone_95 ?_
                refine g_tableIn (pc := 96) (off := 65) 161 dX9_isDone_96 (by decide) (by decide) (by rfl) (by decide) ?_
                first | refine g_aload5 (pc := 161) dX9_isDone_161 ?_ | refine g_aloadN5 (pc := 161) dX9_isDone_161 ?_
                refine g_vV0 (pc := 163) (c_X2_flip hkp) cf2 (by first | rfl | assumption) dX9_isDone_163 cw_RX9_163 (by decide) (Nat.le_of_ble_eq_true rfl) ?_
                refine g_iconst (pc := 166) (1) dX9_isDone_166 (by decide) ?_
                refine g_zret (pc := 167) dX9_isDone_167 rfl (by first | exact Or.inl rfl | exact Or.inr rfl | assumption) ?_
                exact ⟨rfl, rfl, rfl⟩
              · skip
                first | exact absurd zh90 (by decide) | exact absurd (by decide) zh90
          · skip
            first | exact absurd zh66 (by decide) | exact absurd (by decide) zh66
        · skip
          first | exact absurd zh50 (by decide) | exact absurd (by decide) zh50
  · skip
    first | exact absurd zh2 (by decide) | exact absurd (by decide) zh2
theorem c_X9_isDone_3s {n p : Nat} {v : Mm} {L : Lm} (hT : TSt v n) (hp : p < n) : Fn yX9_isDone cX9_isDone 6 (some .boolean) 5 [.ref 0, .int 3, .int 0, .int (nI p)] v L (some (.int (b01 (0 < v (12 + 3 + p) 5 - v (12 + 3 + p) 4)))) (upd2 v (12 + 3 + p) 4 (v (12 + 3 + p) 5)) L := by
  have hkp : kd (12 + 3 + p) = 2 := sh_kp s12 (by have := hT.1; omega)
  have hn4 := hT.1
  refine Fq.of (plainFor_of_name (by decide)) [some (.ref 0), some (.int 3), some (.int 0), some (.int (nI p)), none, none] rfl (Nat.le_of_ble_eq_true rfl) ?_
  refine g_iload1 (pc := 0) dX9_isDone_0 ?_
  refine g_iconst (pc := 1) (5) dX9_isDone_1 (by decide) ?_
  refine g_icmp_ne (pc := 2) 36 dX9_isDone_2 (by decide) (fun zh2 => ?_) (fun zh2 => ?_)
  · skip
    refine g_iload1 (pc := 36) dX9_isDone_36 ?_
    refine g_iconst (pc := 37) (1) dX9_isDone_37 (by decide) ?_
    refine g_icmp_eq (pc := 38) 53 dX9_isDone_38 (by decide) (fun zh38 => ?_) (fun zh38 => ?_)
    · skip
      first | exact absurd zh38 (by decide) | exact absurd (by decide) zh38
    · skip
      refine g_iload1 (pc := 41) dX9_isDone_41 ?_
      refine g_bipush (pc := 42) (6) dX9_isDone_42 (by decide) ?_
      refine g_icmp_eq (pc := 44) 53 dX9_isDone_44 (by decide) (fun zh44 => ?_) (fun zh44 => ?_)
      · skip
        first | exact absurd zh44 (by decide) | exact absurd (by decide) zh44
      · skip
        refine g_iload1 (pc := 47) dX9_isDone_47 ?_
        refine g_bipush (pc := 48) (7) dX9_isDone_48 (by decide) ?_
        refine g_icmp_ne (pc := 50) 57 dX9_isDone_50 (by decide) (fun zh50 => ?_) (fun zh50 => ?_)
        · skip
          refine g_iconst (pc := 57) (0) dX9_isDone_57 (by decide) ?_
          refine g_istore4 (pc := 58) dX9_isDone_58 (by decide) (by first | rfl | assumption) ?_
          first | refine g_aload0 (pc := 60) dX9_isDone_60 ?_ | refine g_aloadN0 (pc := 60) dX9_isDone_60 ?_
          refine g_getR (pc := 61) (j := 3) cf9 dX9_isDone_61 fl_RX9_30 (by decide) (by decide) (by first | rfl | assumption) (12) (rfl) ?_
          refine g_iload4 (pc := 64) dX9_isDone_64 ?_
          refine g_if_eq (pc := 66) 73 dX9_isDone_66 (by decide) (fun zh66 => ?_) (fun zh66 => ?_)
          · skip
            refine g_iload3 (pc := 73) dX9_isDone_73 ?_
            refine g_fV1 (pc := 74) (c_X4_find_s (S := 12) (i := p) s12 (by have := hT.1; omega) (by rw [hT.2.1]; exact nI_lt hp (by have := hT.1; omega))) cf4 (by first | rfl | assumption) dX9_isDone_74 cw_RX9_111 (by decide) (Nat.le_of_ble_eq_true rfl) ?_
            first | refine g_astore5 (pc := 77) dX9_isDone_77 (by decide) (by first | rfl | assumption) ?_ | refine g_astoreN5 (pc := 77) dX9_isDone_77 (by decide) (by first | rfl | assumption) ?_
            first | refine g_aload5 (pc := 79) dX9_isDone_79 ?_ | refine g_aloadN5 (pc := 79) dX9_isDone_79 ?_
            refine g_ifnull (pc := 81) dX9_isDone_81 ?_
            refine g_iload4 (pc := 84) dX9_isDone_84 ?_
            refine g_if_ne (pc := 86) 95 dX9_isDone_86 (by decide) (fun zh86 => ?_) (fun zh86 => ?_)
            · skip
              first | exact absurd zh86 (by decide) | exact absurd (by decide) zh86
            · skip
              refine g_iload2 (pc := 89) dX9_isDone_89 ?_
              refine g_if_eq (pc := 90) 95 dX9_isDone_90 (by decide) (fun zh90 => ?_) (fun zh90 => ?_)
              · skip
                refine g_iload1 (pc := 95) dX9_isDone_95 ?_
                refine g_tableIn (pc := 96) (off := 72) 168 dX9_isDone_96 (by decide) (by decide) (by rfl) (by decide) ?_
                first | refine g_aload5 (pc := 168) dX9_isDone_168 ?_ | refine g_aloadN5 (pc := 168) dX9_isDone_168 ?_
                refine g_fV0 (pc := 170) (c_X2_refill hkp) cf2 (by first | rfl | assumption) dX9_isDone_170 cw_RX9_170 (by decide) (Nat.le_of_ble_eq_true rfl) ?_
                refine g_if_le (pc := 173) 180 dX9_isDone_173 (by decide) (fun zh173 => ?_) (fun zh173 => ?_)
                · skip
                  refine g_iconst (pc := 180) (0) dX9_isDone_180 (by decide) ?_
                  refine g_zret (pc := 181) dX9_isDone_181 rfl (by first | exact Or.inl rfl | exact Or.inr rfl | assumption) ?_
                  first | (rw [b01_t (i32nle.mp zh173)]; exact ⟨rfl, rfl, rfl⟩) | (rw [b01_f (i32nlt.mpr zh173)]; exact ⟨rfl, rfl, rfl⟩)
                · skip
                  refine g_iconst (pc := 176) (1) dX9_isDone_176 (by decide) ?_
                  refine g_goto (pc := 177) 181 dX9_isDone_177 (by decide) ?_
                  refine g_zret (pc := 181) dX9_isDone_181 rfl (by first | exact Or.inl rfl | exact Or.inr rfl | assumption) ?_
                  first | (rw [b01_t (i32nle.mp zh173)]; exact ⟨rfl, rfl, rfl⟩) | (rw [b01_f (i32nlt.mpr zh173)]; exact ⟨rfl, rfl, rfl⟩)
              · skip
                first | exact absurd zh90 (by decide) | exact absurd (by decide) zh90
          · skip
            first | exact absurd zh66 (by decide) | exact absurd (by decide) zh66
        · skip
          first | exact absurd zh50 (by decide) | exact absurd (by decide) zh50
  · skip
    first | exact absurd zh2 (by decide) | exact absurd (by decide) zh2
theorem c_X9_isDone_4s {n p : Nat} {v : Mm} {L : Lm} (hT : TSt v n) (hp : p < n) : Fn yX9_isDone cX9_isDone 6 (some .boolean) 5 [.ref 0, .int 4, .int 0, .int (nI p)] v L (some (.int 1)) (upd2 (upd2 v (12 + 3 + p) 2 (-(v (12 + 3 + p) 3))) (12 + 3 + p) 3 (v (12 + 3 + p) 2)) L := by
  have hkp : kd (12 + 3 + p) = 2 := sh_kp s12 (by have := hT.1; omega)
  have hn4 := hT.1
  refine Fq.of (plainFor_of_name (by decide)) [some (.ref 0), some (.int 4), some (.int 0), some (.int (nI p)), none, none] rfl (Nat.le_of_ble_eq_true rfl) ?_
  refine g_iload1 (pc := 0) dX9_isDone_0 ?_
  refine g_iconst (pc := 1) (5) dX9_isDone_1 (by decide) ?_
  refine g_icmp_ne (pc := 2) 36 dX9_isDone_2 (by decide) (fun zh2 => ?_) (fun zh2 => ?_)
  · skip
    refine g_iload1 (pc := 36) dX9_isDone_36 ?_
    refine g_iconst (pc := 37) (1) dX9_isDone_37 (by decide) ?_
    refine g_icmp_eq (pc := 38) 53 dX9_isDone_38 (by decide) (fun zh38 => ?_) (fun zh38 => ?_)
    · skip
      first | exact absurd zh38 (by decide) | exact absurd (by decide) zh38
    · skip
      refine g_iload1 (pc := 41) dX9_isDone_41 ?_
      refine g_bipush (pc := 42) (6) dX9_isDone_42 (by decide) ?_
      refine g_icmp_eq (pc := 44) 53 dX9_isDone_44 (by decide) (fun zh44 => ?_) (fun zh44 => ?_)
      · skip
        first | exact absurd zh44 (by decide) | exact absurd (by decide) zh44
      · skip
        refine g_iload1 (pc := 47) dX9_isDone_47 ?_
        refine g_bipush (pc := 48) (7) dX9_isDone_48 (by decide) ?_
        refine g_icmp_ne (pc := 50) 57 dX9_isDone_50 (by decide) (fun zh50 => ?_) (fun zh50 => ?_)
        · skip
          refine g_iconst (pc := 57) (0) dX9_isDone_57 (by decide) ?_
          refine g_istore4 (pc := 58) dX9_isDone_58 (by decide) (by first | rfl | assumption) ?_
          first | refine g_aload0 (pc := 60) dX9_isDone_60 ?_ | refine g_aloadN0 (pc := 60) dX9_isDone_60 ?_
          refine g_getR (pc := 61) (j := 3) cf9 dX9_isDone_61 fl_RX9_30 (by decide) (by decide) (by first | rfl | assumption) (12) (rfl) ?_
          refine g_iload4 (pc := 64) dX9_isDone_64 ?_
          refine g_if_eq (pc := 66) 73 dX9_isDone_66 (by decide) (fun zh66 => ?_) (fun zh66 => ?_)
          · skip
            refine g_iload3 (pc := 73) dX9_isDone_73 ?_
            refine g_fV1 (pc := 74) (c_X4_find_s (S := 12) (i := p) s12 (by have := hT.1; omega) (by rw [hT.2.1]; exact nI_lt hp (by have := hT.1; omega))) cf4 (by first | rfl | assumption) dX9_isDone_74 cw_RX9_111 (by decide) (Nat.le_of_ble_eq_true rfl) ?_
            first | refine g_astore5 (pc := 77) dX9_isDone_77 (by decide) (by first | rfl | assumption) ?_ | refine g_astoreN5 (pc := 77) dX9_isDone_77 (by decide) (by first | rfl | assumption) ?_
            first | refine g_aload5 (pc := 79) dX9_isDone_79 ?_ | refine g_aloadN5 (pc := 79) dX9_isDone_79 ?_
            refine g_ifnull (pc := 81) dX9_isDone_81 ?_
            refine g_iload4 (pc := 84) dX9_isDone_84 ?_
            refine g_if_ne (pc := 86) 95 dX9_isDone_86 (by decide) (fun zh86 => ?_) (fun zh86 => ?_)
            · skip
              first | exact absurd zh86 (by decide) | exact absurd (by decide) zh86
            · skip
              refine g_iload2 (pc := 89) dX9_isDone_89 ?_
              refine g_if_eq (pc := 90) 95 dX9_isDone_90 (by decide) (fun zh90 => ?_) (fun zh90 => ?_)
              · skip
                refine g_iload1 (pc := 95) dX9_isDone_95 ?_
                refine g_tableIn (pc := 96) (off := 86) 182 dX9_isDone_96 (by decide) (by decide) (by rfl) (by decide) ?_
                first | refine g_aload5 (pc := 182) dX9_isDone_182 ?_ | refine g_aloadN5 (pc := 182) dX9_isDone_182 ?_
                refine g_vV0 (pc := 184) (c_X2_quarter hkp) cf2 (by first | rfl | assumption) dX9_isDone_184 cw_RX9_173 (by decide) (Nat.le_of_ble_eq_true rfl) ?_
                refine g_iconst (pc := 187) (1) dX9_isDone_187 (by decide) ?_
                refine g_zret (pc := 188) dX9_isDone_188 rfl (by first | exact Or.inl rfl | exact Or.inr rfl | assumption) ?_
                exact ⟨rfl, rfl, rfl⟩
              · skip
                first | exact absurd zh90 (by decide) | exact absurd (by decide) zh90
          · skip
            first | exact absurd zh66 (by decide) | exact absurd (by decide) zh66
        · skip
          first | exact absurd zh50 (by decide) | exact absurd (by decide) zh50
  · skip
    first | exact absurd zh2 (by decide) | exact absurd (by decide) zh2
theorem c_X9_isDone_5 {x y : Int32} {v : Mm} {L : Lm}  : Fn yX9_isDone cX9_isDone 6 (some .boolean) 5 [.ref 0, .int 5, .int x, .int y] v L (some (.int (b01 (x < 5 ∧ y < 5 ∧ 3 ≤ inkF v 12 (5 * y + x))))) v L := by
  refine Fq.of (plainFor_of_name (by decide)) [some (.ref 0), some (.int 5), some (.int x), some (.int y), none, none] rfl (Nat.le_of_ble_eq_true rfl) ?_
  refine g_iload1 (pc := 0) dX9_isDone_0 ?_
  refine g_iconst (pc := 1) (5) dX9_isDone_1 (by decide) ?_
  refine g_icmp_ne (pc := 2) 36 dX9_isDone_2 (by decide) (fun zh2 => ?_) (fun zh2 => ?_)
  · skip
    first | exact absurd zh2 (by decide) | exact absurd (by decide) zh2
  · skip
    refine g_iload2 (pc := 5) dX9_isDone_5 ?_
    refine g_iconst (pc := 6) (5) dX9_isDone_6 (by decide) ?_
    refine g_icmp_ge (pc := 7) 34 dX9_isDone_7 (by decide) (fun zh7 => ?_) (fun zh7 => ?_)
    · skip
      refine g_iconst (pc := 34) (0) dX9_isDone_34 (by decide) ?_
      refine g_zret (pc := 35) dX9_isDone_35 rfl (by first | exact Or.inl rfl | exact Or.inr rfl | assumption) ?_
      first | (rw [b01_t (⟨i32nle.mp zh7, i32nle.mp zh12, b01_ne0.mp zh27⟩)]; exact ⟨rfl, rfl, rfl⟩) | (rw [b01_f (fun zq => i32nle.mpr zq.1 zh7)]; exact ⟨rfl, rfl, rfl⟩) | (rw [b01_f (fun zq => i32nle.mpr zq.2.1 zh12)]; exact ⟨rfl, rfl, rfl⟩) | (rw [b01_f (fun zq => b01_eq0.mp zh27 zq.2.2)]; exact ⟨rfl, rfl, rfl⟩)
    · skip
      refine g_iload3 (pc := 10) dX9_isDone_10 ?_
      refine g_iconst (pc := 11) (5) dX9_isDone_11 (by decide) ?_
      refine g_icmp_ge (pc := 12) 34 dX9_isDone_12 (by decide) (fun zh12 => ?_) (fun zh12 => ?_)
      · skip
        refine g_iconst (pc := 34) (0) dX9_isDone_34 (by decide) ?_
        refine g_zret (pc := 35) dX9_isDone_35 rfl (by first | exact Or.inl rfl | exact Or.inr rfl | assumption) ?_
        first | (rw [b01_t (⟨i32nle.mp zh7, i32nle.mp zh12, b01_ne0.mp zh27⟩)]; exact ⟨rfl, rfl, rfl⟩) | (rw [b01_f (fun zq => i32nle.mpr zq.1 zh7)]; exact ⟨rfl, rfl, rfl⟩) | (rw [b01_f (fun zq => i32nle.mpr zq.2.1 zh12)]; exact ⟨rfl, rfl, rfl⟩) | (rw [b01_f (fun zq => b01_eq0.mp zh27 zq.2.2)]; exact ⟨rfl, rfl, rfl⟩)
      · skip
        first | refine g_aload0 (pc := 15) dX9_isDone_15 ?_ | refine g_aloadN0 (pc := 15) dX9_isDone_15 ?_
        refine g_getR (pc := 16) (j := 3) cf9 dX9_isDone_16 fl_RX9_30 (by decide) (by decide) (by first | rfl | assumption) (12) (rfl) ?_
        refine g_iconst (pc := 19) (5) dX9_isDone_19 (by decide) ?_
        refine g_iload3 (pc := 20) dX9_isDone_20 ?_
        refine g_imul (pc := 21) dX9_isDone_21 ?_
        refine g_iload2 (pc := 22) dX9_isDone_22 ?_
        refine g_iadd (pc := 23) dX9_isDone_23 ?_
        refine g_fV1 (pc := 24) (c_X4_isBlack s12) cf4 (by first | rfl | assumption) dX9_isDone_24 cw_RX9_297 (by decide) (Nat.le_of_ble_eq_true rfl) ?_
        refine g_if_eq (pc := 27) 34 dX9_isDone_27 (by decide) (fun zh27 => ?_) (fun zh27 => ?_)
        · skip
          refine g_iconst (pc := 34) (0) dX9_isDone_34 (by decide) ?_
          refine g_zret (pc := 35) dX9_isDone_35 rfl (by first | exact Or.inl rfl | exact Or.inr rfl | assumption) ?_
          first | (rw [b01_t (⟨i32nle.mp zh7, i32nle.mp zh12, b01_ne0.mp zh27⟩)]; exact ⟨rfl, rfl, rfl⟩) | (rw [b01_f (fun zq => i32nle.mpr zq.1 zh7)]; exact ⟨rfl, rfl, rfl⟩) | (rw [b01_f (fun zq => i32nle.mpr zq.2.1 zh12)]; exact ⟨rfl, rfl, rfl⟩) | (rw [b01_f (fun zq => b01_eq0.mp zh27 zq.2.2)]; exact ⟨rfl, rfl, rfl⟩)
        · skip
          refine g_iconst (pc := 30) (1) dX9_isDone_30 (by decide) ?_
          refine g_goto (pc := 31) 35 dX9_isDone_31 (by decide) ?_
          refine g_zret (pc := 35) dX9_isDone_35 rfl (by first | exact Or.inl rfl | exact Or.inr rfl | assumption) ?_
          first | (rw [b01_t (⟨i32nle.mp zh7, i32nle.mp zh12, b01_ne0.mp zh27⟩)]; exact ⟨rfl, rfl, rfl⟩) | (rw [b01_f (fun zq => i32nle.mpr zq.1 zh7)]; exact ⟨rfl, rfl, rfl⟩) | (rw [b01_f (fun zq => i32nle.mpr zq.2.1 zh12)]; exact ⟨rfl, rfl, rfl⟩) | (rw [b01_f (fun zq => b01_eq0.mp zh27 zq.2.2)]; exact ⟨rfl, rfl, rfl⟩)
theorem c_X9_isDone_6s {n p : Nat} {y : Int32} {v : Mm} {L : Lm} (hT : TSt v n) (hp : p < n) : Fn yX9_isDone cX9_isDone 6 (some .boolean) 5 [.ref 0, .int 6, .int (nI p), .int y] v L (some (.int (b01 (y ≤ v (12 + 3 + p) 4)))) v L := by
  have hkp : kd (12 + 3 + p) = 2 := sh_kp s12 (by have := hT.1; omega)
  have hn4 := hT.1
  refine Fq.of (plainFor_of_name (by decide)) [some (.ref 0), some (.int 6), some (.int (nI p)), some (.int y), none, none] rfl (Nat.le_of_ble_eq_true rfl) ?_
  refine g_iload1 (pc := 0) dX9_isDone_0 ?_
  refine g_iconst (pc := 1) (5) dX9_isDone_1 (by decide) ?_
  refine g_icmp_ne (pc := 2) 36 dX9_isDone_2 (by decide) (fun zh2 => ?_) (fun zh2 => ?_)
  · skip
    refine g_iload1 (pc := 36) dX9_isDone_36 ?_
    refine g_iconst (pc := 37) (1) dX9_isDone_37 (by decide) ?_
    refine g_icmp_eq (pc := 38) 53 dX9_isDone_38 (by decide) (fun zh38 => ?_) (fun zh38 => ?_)
    · skip
      first | exact absurd zh38 (by decide) | exact absurd (by decide) zh38
    · skip
      refine g_iload1 (pc := 41) dX9_isDone_41 ?_
      refine g_bipush (pc := 42) (6) dX9_isDone_42 (by decide) ?_
      refine g_icmp_eq (pc := 44) 53 dX9_isDone_44 (by decide) (fun zh44 => ?_) (fun zh44 => ?_)
      · skip
        refine g_iconst (pc := 53) (1) dX9_isDone_53 (by decide) ?_
        refine g_goto (pc := 54) 58 dX9_isDone_54 (by decide) ?_
        refine g_istore4 (pc := 58) dX9_isDone_58 (by decide) (by first | rfl | assumption) ?_
        first | refine g_aload0 (pc := 60) dX9_isDone_60 ?_ | refine g_aloadN0 (pc := 60) dX9_isDone_60 ?_
        refine g_getR (pc := 61) (j := 3) cf9 dX9_isDone_61 fl_RX9_30 (by decide) (by decide) (by first | rfl | assumption) (12) (rfl) ?_
        refine g_iload4 (pc := 64) dX9_isDone_64 ?_
        refine g_if_eq (pc := 66) 73 dX9_isDone_66 (by decide) (fun zh66 => ?_) (fun zh66 => ?_)
        · skip
          first | exact absurd zh66 (by decide) | exact absurd (by decide) zh66
        · skip
          refine g_iload2 (pc := 69) dX9_isDone_69 ?_
          refine g_goto (pc := 70) 74 dX9_isDone_70 (by decide) ?_
          refine g_fV1 (pc := 74) (c_X4_find_s (S := 12) (i := p) s12 (by have := hT.1; omega) (by rw [hT.2.1]; exact nI_lt hp (by have := hT.1; omega))) cf4 (by first | rfl | assumption) dX9_isDone_74 cw_RX9_111 (by decide) (Nat.le_of_ble_eq_true rfl) ?_
          first | refine g_astore5 (pc := 77) dX9_isDone_77 (by decide) (by first | rfl | assumption) ?_ | refine g_astoreN5 (pc := 77) dX9_isDone_77 (by decide) (by first | rfl | assumption) ?_
          first | refine g_aload5 (pc := 79) dX9_isDone_79 ?_ | refine g_aloadN5 (pc := 79) dX9_isDone_79 ?_
          refine g_ifnull (pc := 81) dX9_isDone_81 ?_
          refine g_iload4 (pc := 84) dX9_isDone_84 ?_
          refine g_if_ne (pc := 86) 95 dX9_isDone_86 (by decide) (fun zh86 => ?_) (fun zh86 => ?_)
          · skip
            refine g_iload1 (pc := 95) dX9_isDone_95 ?_
            refine g_tableIn (pc := 96) (off := 93) 189 dX9_isDone_96 (by decide) (by decide) (by rfl) (by decide) ?_
            first | refine g_aload5 (pc := 189) dX9_isDone_189 ?_ | refine g_aloadN5 (pc := 189) dX9_isDone_189 ?_
            refine g_getI (pc := 191) (j := 4) cf2 dX9_isDone_191 fl_RX9_126 (by decide) (by decide) (by first | rfl | assumption) ?_
            refine g_iload3 (pc := 194) dX9_isDone_194 ?_
            refine g_icmp_lt (pc := 195) 202 dX9_isDone_195 (by decide) (fun zh195 => ?_) (fun zh195 => ?_)
            · skip
              refine g_iconst (pc := 202) (0) dX9_isDone_202 (by decide) ?_
              refine g_zret (pc := 203) dX9_isDone_203 rfl (by first | exact Or.inl rfl | exact Or.inr rfl | assumption) ?_
              first | (rw [b01_t (i32nlt.mp zh195)]; exact ⟨rfl, rfl, rfl⟩) | (rw [b01_f (i32nle.mpr zh195)]; exact ⟨rfl, rfl, rfl⟩)
            · skip
              refine g_iconst (pc := 198) (1) dX9_isDone_198 (by decide) ?_
              refine g_goto (pc := 199) 203 dX9_isDone_199 (by decide) ?_
              refine g_zret (pc := 203) dX9_isDone_203 rfl (by first | exact Or.inl rfl | exact Or.inr rfl | assumption) ?_
              first | (rw [b01_t (i32nlt.mp zh195)]; exact ⟨rfl, rfl, rfl⟩) | (rw [b01_f (i32nle.mpr zh195)]; exact ⟨rfl, rfl, rfl⟩)
          · skip
            first | exact absurd zh86 (by decide) | exact absurd (by decide) zh86
      · skip
        first | exact absurd zh44 (by decide) | exact absurd (by decide) zh44
  · skip
    first | exact absurd zh2 (by decide) | exact absurd (by decide) zh2
theorem c_X9_isDone_7m {n p : Nat} {y : Int32} {v : Mm} {L : Lm} (hT : TSt v n) (hp : p < n) (hy : ¬ y = 0) : Fn yX9_isDone cX9_isDone 6 (some .boolean) 5 [.ref 0, .int 7, .int (nI p), .int y] v L (some (.int 0)) v L := by
  have hkp : kd (12 + 3 + p) = 2 := sh_kp s12 (by have := hT.1; omega)
  have hn4 := hT.1
  refine Fq.of (plainFor_of_name (by decide)) [some (.ref 0), some (.int 7), some (.int (nI p)), some (.int y), none, none] rfl (Nat.le_of_ble_eq_true rfl) ?_
  refine g_iload1 (pc := 0) dX9_isDone_0 ?_
  refine g_iconst (pc := 1) (5) dX9_isDone_1 (by decide) ?_
  refine g_icmp_ne (pc := 2) 36 dX9_isDone_2 (by decide) (fun zh2 => ?_) (fun zh2 => ?_)
  · skip
    refine g_iload1 (pc := 36) dX9_isDone_36 ?_
    refine g_iconst (pc := 37) (1) dX9_isDone_37 (by decide) ?_
    refine g_icmp_eq (pc := 38) 53 dX9_isDone_38 (by decide) (fun zh38 => ?_) (fun zh38 => ?_)
    · skip
      first | exact absurd zh38 (by decide) | exact absurd (by decide) zh38
    · skip
      refine g_iload1 (pc := 41) dX9_isDone_41 ?_
      refine g_bipush (pc := 42) (6) dX9_isDone_42 (by decide) ?_
      refine g_icmp_eq (pc := 44) 53 dX9_isDone_44 (by decide) (fun zh44 => ?_) (fun zh44 => ?_)
      · skip
        first | exact absurd zh44 (by decide) | exact absurd (by decide) zh44
      · skip
        refine g_iload1 (pc := 47) dX9_isDone_47 ?_
        refine g_bipush (pc := 48) (7) dX9_isDone_48 (by decide) ?_
        refine g_icmp_ne (pc := 50) 57 dX9_isDone_50 (by decide) (fun zh50 => ?_) (fun zh50 => ?_)
        · skip
          first | exact absurd zh50 (by decide) | exact absurd (by decide) zh50
        · skip
          refine g_iconst (pc := 53) (1) dX9_isDone_53 (by decide) ?_
          refine g_goto (pc := 54) 58 dX9_isDone_54 (by decide) ?_
          refine g_istore4 (pc := 58) dX9_isDone_58 (by decide) (by first | rfl | assumption) ?_
          first | refine g_aload0 (pc := 60) dX9_isDone_60 ?_ | refine g_aloadN0 (pc := 60) dX9_isDone_60 ?_
          refine g_getR (pc := 61) (j := 3) cf9 dX9_isDone_61 fl_RX9_30 (by decide) (by decide) (by first | rfl | assumption) (12) (rfl) ?_
          refine g_iload4 (pc := 64) dX9_isDone_64 ?_
          refine g_if_eq (pc := 66) 73 dX9_isDone_66 (by decide) (fun zh66 => ?_) (fun zh66 => ?_)
          · skip
            first | exact absurd zh66 (by decide) | exact absurd (by decide) zh66
          · skip
            refine g_iload2 (pc := 69) dX9_isDone_69 ?_
            refine g_goto (pc := 70) 74 dX9_isDone_70 (by decide) ?_
            refine g_fV1 (pc := 74) (c_X4_find_s (S := 12) (i := p) s12 (by have := hT.1; omega) (by rw [hT.2.1]; exact nI_lt hp (by have := hT.1; omega))) cf4 (by first | rfl | assumption) dX9_isDone_74 cw_RX9_111 (by decide) (Nat.le_of_ble_eq_true rfl) ?_
            first | refine g_astore5 (pc := 77) dX9_isDone_77 (by decide) (by first | rfl | assumption) ?_ | refine g_astoreN5 (pc := 77) dX9_isDone_77 (by decide) (by first | rfl | assumption) ?_
            first | refine g_aload5 (pc := 79) dX9_isDone_79 ?_ | refine g_aloadN5 (pc := 79) dX9_isDone_79 ?_
            refine g_ifnull (pc := 81) dX9_isDone_81 ?_
            refine g_iload4 (pc := 84) dX9_isDone_84 ?_
            refine g_if_ne (pc := 86) 95 dX9_isDone_86 (by decide) (fun zh86 => ?_) (fun zh86 => ?_)
            · skip
              refine g_iload1 (pc := 95) dX9_isDone_95 ?_
              refine g_tableIn (pc := 96) (off := 108) 204 dX9_isDone_96 (by decide) (by decide) (by rfl) (by decide) ?_
              refine g_iload3 (pc := 204) dX9_isDone_204 ?_
              refine g_if_ne (pc := 205) 242 dX9_isDone_205 (by decide) (fun zh205 => ?_) (fun zh205 => ?_)
              · skip
                refine g_iconst (pc := 242) (0) dX9_isDone_242 (by decide) ?_
                refine g_zret (pc := 243) dX9_isDone_243 rfl (by first | exact Or.inl rfl | exact Or.inr rfl | assumption) ?_
                exact ⟨rfl, rfl, rfl⟩
              · skip
                exact absurd zh205 hy
            · skip
              first | exact absurd zh86 (by decide) | exact absurd (by decide) zh86
  · skip
    first | exact absurd zh2 (by decide) | exact absurd (by decide) zh2
theorem c_X9_isDone_7s {n p w : Nat} {v : Mm} {L : Lm} (hT : TSt v n) (hp : p < n) (hW : WSt v w) : Fn yX9_isDone cX9_isDone 6 (some .boolean) 5 [.ref 0, .int 7, .int (nI p), .int 0] v L (some (.int (b01 ((folF 12 (12 + 3 + p) w 0 v).1 = nI w)))) (folF 12 (12 + 3 + p) w 0 v).2 L := by
  have hkp : kd (12 + 3 + p) = 2 := sh_kp s12 (by have := hT.1; omega)
  have hn4 := hT.1
  have zw8 := hW.2
  have z3 : (folF 12 (12 + 3 + p) w 0 v).2 3 1 = nI w := (fol_w s12 hkp).trans hW.1
  refine Fq.of (plainFor_of_name (by decide)) [some (.ref 0), some (.int 7), some (.int (nI p)), some (.int 0), none, none] rfl (Nat.le_of_ble_eq_true rfl) ?_
  refine g_iload1 (pc := 0) dX9_isDone_0 ?_
  refine g_iconst (pc := 1) (5) dX9_isDone_1 (by decide) ?_
  refine g_icmp_ne (pc := 2) 36 dX9_isDone_2 (by decide) (fun zh2 => ?_) (fun zh2 => ?_)
  · skip
    refine g_iload1 (pc := 36) dX9_isDone_36 ?_
    refine g_iconst (pc := 37) (1) dX9_isDone_37 (by decide) ?_
    refine g_icmp_eq (pc := 38) 53 dX9_isDone_38 (by decide) (fun zh38 => ?_) (fun zh38 => ?_)
    · skip
      first | exact absurd zh38 (by decide) | exact absurd (by decide) zh38
    · skip
      refine g_iload1 (pc := 41) dX9_isDone_41 ?_
      refine g_bipush (pc := 42) (6) dX9_isDone_42 (by decide) ?_
      refine g_icmp_eq (pc := 44) 53 dX9_isDone_44 (by decide) (fun zh44 => ?_) (fun zh44 => ?_)
      · skip
        first | exact absurd zh44 (by decide) | exact absurd (by decide) zh44
      · skip
        refine g_iload1 (pc := 47) dX9_isDone_47 ?_
        refine g_bipush (pc := 48) (7) dX9_isDone_48 (by decide) ?_
        refine g_icmp_ne (pc := 50) 57 dX9_isDone_50 (by decide) (fun zh50 => ?_) (fun zh50 => ?_)
        · skip
          first | exact absurd zh50 (by decide) | exact absurd (by decide) zh50
        · skip
          refine g_iconst (pc := 53) (1) dX9_isDone_53 (by decide) ?_
          refine g_goto (pc := 54) 58 dX9_isDone_54 (by decide) ?_
          refine g_istore4 (pc := 58) dX9_isDone_58 (by decide) (by first | rfl | assumption) ?_
          first | refine g_aload0 (pc := 60) dX9_isDone_60 ?_ | refine g_aloadN0 (pc := 60) dX9_isDone_60 ?_
          refine g_getR (pc := 61) (j := 3) cf9 dX9_isDone_61 fl_RX9_30 (by decide) (by decide) (by first | rfl | assumption) (12) (rfl) ?_
          refine g_iload4 (pc := 64) dX9_isDone_64 ?_
          refine g_if_eq (pc := 66) 73 dX9_isDone_66 (by decide) (fun zh66 => ?_) (fun zh66 => ?_)
          · skip
            first | exact absurd zh66 (by decide) | exact absurd (by decide) zh66
          · skip
            refine g_iload2 (pc := 69) dX9_isDone_69 ?_
            refine g_goto (pc := 70) 74 dX9_isDone_70 (by decide) ?_
            refine g_fV1 (pc := 74) (c_X4_find_s (S := 12) (i := p) s12 (by have := hT.1; omega) (by rw [hT.2.1]; exact nI_lt hp (by have := hT.1; omega))) cf4 (by first | rfl | assumption) dX9_isDone_74 cw_RX9_111 (by decide) (Nat.le_of_ble_eq_true rfl) ?_
            first | refine g_astore5 (pc := 77) dX9_isDone_77 (by decide) (by first | rfl | assumption) ?_ | refine g_astoreN5 (pc := 77) dX9_isDone_77 (by decide) (by first | rfl | assumption) ?_
            first | refine g_aload5 (pc := 79) dX9_isDone_79 ?_ | refine g_aloadN5 (pc := 79) dX9_isDone_79 ?_
            refine g_ifnull (pc := 81) dX9_isDone_81 ?_
            refine g_iload4 (pc := 84) dX9_isDone_84 ?_
            refine g_if_ne (pc := 86) 95 dX9_isDone_86 (by decide) (fun zh86 => ?_) (fun zh86 => ?_)
            · skip
              refine g_iload1 (pc := 95) dX9_isDone_95 ?_
              refine g_tableIn (pc := 96) (off := 108) 204 dX9_isDone_96 (by decide) (by decide) (by rfl) (by decide) ?_
              refine g_iload3 (pc := 204) dX9_isDone_204 ?_
              refine g_if_ne (pc := 205) 242 dX9_isDone_205 (by decide) (fun zh205 => ?_) (fun zh205 => ?_)
              · skip
                first | exact absurd zh205 (by decide) | exact absurd (by decide) zh205
              · skip
                first | refine g_aload0 (pc := 208) dX9_isDone_208 ?_ | refine g_aloadN0 (pc := 208) dX9_isDone_208 ?_
                refine g_getR (pc := 209) (j := 3) cf9 dX9_isDone_209 fl_RX9_30 (by decide) (by decide) (by first | rfl | assumption) (12) (rfl) ?_
                first | refine g_aload5 (pc := 212) dX9_isDone_212 ?_ | refine g_aloadN5 (pc := 212) dX9_isDone_212 ?_
                first | refine g_aload0 (pc := 214) dX9_isDone_214 ?_ | refine g_aloadN0 (pc := 214) dX9_isDone_214 ?_
                refine g_getR (pc := 215) (j := 1) cf9 dX9_isDone_215 fl_RX9_19 (by decide) (by decide) (by first | rfl | assumption) (3) (rfl) ?_
                first | refine g_aload0 (pc := 218) dX9_isDone_218 ?_ | refine g_aloadN0 (pc := 218) dX9_isDone_218 ?_
                refine g_getR (pc := 219) (j := 1) cf9 dX9_isDone_219 fl_RX9_19 (by decide) (by decide) (by first | rfl | assumption) (3) (rfl) ?_
                refine g_getI (pc := 222) (j := 1) cf8 dX9_isDone_222 fl_RX9_106 (by decide) (by decide) (by first | rfl | assumption) ?_
                rw [hW.1]
                refine g_fV3 (pc := 225) (c_X4_follow (S := 12) (q := w) (w := w) s12 hkp hW.2 hW.1 hW.2 (hT.2.2 p hp).1) cf4 (by first | rfl | assumption) dX9_isDone_225 cw_RX9_188 (by decide) (Nat.le_of_ble_eq_true rfl) ?_
                rw [Nat.min_self]
                first | refine g_aload0 (pc := 228) dX9_isDone_228 ?_ | refine g_aloadN0 (pc := 228) dX9_isDone_228 ?_
                refine g_getR (pc := 229) (j := 1) cf9 dX9_isDone_229 fl_RX9_19 (by decide) (by decide) (by first | rfl | assumption) (3) (rfl) ?_
                refine g_getI (pc := 232) (j := 1) cf8 dX9_isDone_232 fl_RX9_106 (by decide) (by decide) (by first | rfl | assumption) ?_
                rw [z3]
                refine g_icmp_ne (pc := 235) 242 dX9_isDone_235 (by decide) (fun zh235 => ?_) (fun zh235 => ?_)
                · skip
                  refine g_iconst (pc := 242) (0) dX9_isDone_242 (by decide) ?_
                  refine g_zret (pc := 243) dX9_isDone_243 rfl (by first | exact Or.inl rfl | exact Or.inr rfl | assumption) ?_
                  first | (rw [b01_t (zh235)]; exact ⟨rfl, rfl, rfl⟩) | (rw [b01_f (zh235)]; exact ⟨rfl, rfl, rfl⟩)
                · skip
                  refine g_iconst (pc := 238) (1) dX9_isDone_238 (by decide) ?_
                  refine g_goto (pc := 239) 243 dX9_isDone_239 (by decide) ?_
                  refine g_zret (pc := 243) dX9_isDone_243 rfl (by first | exact Or.inl rfl | exact Or.inr rfl | assumption) ?_
                  first | (rw [b01_t (zh235)]; exact ⟨rfl, rfl, rfl⟩) | (rw [b01_f (zh235)]; exact ⟨rfl, rfl, rfl⟩)
            · skip
              first | exact absurd zh86 (by decide) | exact absurd (by decide) zh86
  · skip
    first | exact absurd zh2 (by decide) | exact absurd (by decide) zh2
theorem c_X9_isDone_o {n : Nat} {k x y : Int32} {v : Mm} {L : Lm} (hT : TSt v n) (hk : k.toInt < 1 ∨ 7 < k.toInt) : Fn yX9_isDone cX9_isDone 6 (some .boolean) 5 [.ref 0, .int k, .int y, .int x] v L (some (.int 0)) v L := by
  have z1 : ∀ zc : Int32, ¬ (zc.toInt < 1 ∨ 7 < zc.toInt) → ¬ k = zc := fun zc zh zq => zh (by rw [← zq]; exact hk)
  refine Fq.of (plainFor_of_name (by decide)) [some (.ref 0), some (.int k), some (.int y), some (.int x), none, none] rfl (Nat.le_of_ble_eq_true rfl) ?_
  refine g_iload1 (pc := 0) dX9_isDone_0 ?_
  refine g_iconst (pc := 1) (5) dX9_isDone_1 (by decide) ?_
  refine g_icmp_ne (pc := 2) 36 dX9_isDone_2 (by decide) (fun zh2 => ?_) (fun zh2 => ?_)
  · skip
    refine g_iload1 (pc := 36) dX9_isDone_36 ?_
    refine g_iconst (pc := 37) (1) dX9_isDone_37 (by decide) ?_
    refine g_icmp_eq (pc := 38) 53 dX9_isDone_38 (by decide) (fun zh38 => ?_) (fun zh38 => ?_)
    · skip
      exact absurd zh38 (z1 1 (by decide))
    · skip
      refine g_iload1 (pc := 41) dX9_isDone_41 ?_
      refine g_bipush (pc := 42) (6) dX9_isDone_42 (by decide) ?_
      refine g_icmp_eq (pc := 44) 53 dX9_isDone_44 (by decide) (fun zh44 => ?_) (fun zh44 => ?_)
      · skip
        exact absurd zh44 (z1 6 (by decide))
      · skip
        refine g_iload1 (pc := 47) dX9_isDone_47 ?_
        refine g_bipush (pc := 48) (7) dX9_isDone_48 (by decide) ?_
        refine g_icmp_ne (pc := 50) 57 dX9_isDone_50 (by decide) (fun zh50 => ?_) (fun zh50 => ?_)
        · skip
          refine g_iconst (pc := 57) (0) dX9_isDone_57 (by decide) ?_
          refine g_istore4 (pc := 58) dX9_isDone_58 (by decide) (by first | rfl | assumption) ?_
          first | refine g_aload0 (pc := 60) dX9_isDone_60 ?_ | refine g_aloadN0 (pc := 60) dX9_isDone_60 ?_
          refine g_getR (pc := 61) (j := 3) cf9 dX9_isDone_61 fl_RX9_30 (by decide) (by decide) (by first | rfl | assumption) (12) (rfl) ?_
          refine g_iload4 (pc := 64) dX9_isDone_64 ?_
          refine g_if_eq (pc := 66) 73 dX9_isDone_66 (by decide) (fun zh66 => ?_) (fun zh66 => ?_)
          · skip
            refine g_iload3 (pc := 73) dX9_isDone_73 ?_
            by_cases hx : 0 ≤ x ∧ x < nI n
            · obtain ⟨p, hp, rfl⟩ := nI_of_in (by have := hT.1; omega) hx; have hkp : kd (12 + 3 + p) = 2 := sh_kp s12 (by have := hT.1; omega)
              refine g_fV1 (pc := 74) (c_X4_find_s (S := 12) (i := p) s12 (by have := hT.1; omega) (by rw [hT.2.1]; exact nI_lt hp (by have := hT.1; omega))) cf4 (by first | rfl | assumption) dX9_isDone_74 cw_RX9_111 (by decide) (Nat.le_of_ble_eq_true rfl) ?_
              first | refine g_astore5 (pc := 77) dX9_isDone_77 (by decide) (by first | rfl | assumption) ?_ | refine g_astoreN5 (pc := 77) dX9_isDone_77 (by decide) (by first | rfl | assumption) ?_
              first | refine g_aload5 (pc := 79) dX9_isDone_79 ?_ | refine g_aloadN5 (pc := 79) dX9_isDone_79 ?_
              refine g_ifnull (pc := 81) dX9_isDone_81 ?_
              refine g_iload4 (pc := 84) dX9_isDone_84 ?_
              refine g_if_ne (pc := 86) 95 dX9_isDone_86 (by decide) (fun zh86 => ?_) (fun zh86 => ?_)
              · skip
                first | exact absurd zh86 (by decide) | exact absurd (by decide) zh86
              · skip
                refine g_iload2 (pc := 89) dX9_isDone_89 ?_
                refine g_if_eq (pc := 90) 95 dX9_isDone_90 (by decide) (fun zh90 => ?_) (fun zh90 => ?_)
                · skip
                  refine g_iload1 (pc := 95) dX9_isDone_95 ?_
                  refine g_tableOut (pc := 96) 244 dX9_isDone_96 hk (by decide) ?_
                  refine g_iconst (pc := 244) (0) dX9_isDone_244 (by decide) ?_
                  refine g_zret (pc := 245) dX9_isDone_245 rfl (by first | exact Or.inl rfl | exact Or.inr rfl | assumption) ?_
                  exact ⟨rfl, rfl, rfl⟩
                · skip
                  refine g_iconst (pc := 93) (0) dX9_isDone_93 (by decide) ?_
                  refine g_zret (pc := 94) dX9_isDone_94 rfl (by first | exact Or.inl rfl | exact Or.inr rfl | assumption) ?_
                  exact ⟨rfl, rfl, rfl⟩
            · skip
              refine g_fV1 (pc := 74) (c_X4_find_n (S := 12) s12 (fun zq => hx ⟨zq.1, by rw [← hT.2.1]; exact zq.2.1⟩)) cf4 (by first | rfl | assumption) dX9_isDone_74 cw_RX9_111 (by decide) (Nat.le_of_ble_eq_true rfl) ?_
              first | refine g_astore5 (pc := 77) dX9_isDone_77 (by decide) (by first | rfl | assumption) ?_ | refine g_astoreN5 (pc := 77) dX9_isDone_77 (by decide) (by first | rfl | assumption) ?_
              first | refine g_aload5 (pc := 79) dX9_isDone_79 ?_ | refine g_aloadN5 (pc := 79) dX9_isDone_79 ?_
              refine g_ifnullN (pc := 81) 93 dX9_isDone_81 (by decide) ?_
              refine g_iconst (pc := 93) (0) dX9_isDone_93 (by decide) ?_
              refine g_zret (pc := 94) dX9_isDone_94 rfl (by first | exact Or.inl rfl | exact Or.inr rfl | assumption) ?_
              exact ⟨rfl, rfl, rfl⟩
          · skip
            first | exact absurd zh66 (by decide) | exact absurd (by decide) zh66
        · skip
          exact absurd zh50 (z1 7 (by decide))
  · skip
    exact absurd zh2 (z1 5 (by decide))
theorem c_X9_passYear_b {n t : Nat} {v : Mm} {L : Lm} (hT : TSt v n) (zh44 : 44 ≤ t) (zh48 : t < 48) : Fn yX9_passYear cX9_passYear 3 none 4 [.ref 0, .int (nI t)] v L none (stM v 12 (nI (6 * (t - 44))) 0) L := by
  refine Fq.of (plainFor_of_name (by decide)) [some (.ref 0), some (.int (nI t)), none] rfl (Nat.le_of_ble_eq_true rfl) ?_
  refine g_iload1 (pc := 0) dX9_passYear_0 ?_
  refine g_bipush (pc := 1) (44) dX9_passYear_1 (by decide) ?_
  refine g_icmp_lt (pc := 3) 22 dX9_passYear_3 (by decide) (fun zh3 => ?_) (fun zh3 => ?_)
  · skip
    exact absurd zh3 (nI_nlt (b := 44) zh44 (by omega))
  · skip
    first | refine g_aload0 (pc := 6) dX9_passYear_6 ?_ | refine g_aloadN0 (pc := 6) dX9_passYear_6 ?_
    refine g_getR (pc := 7) (j := 3) cf9 dX9_passYear_7 fl_RX9_30 (by decide) (by decide) (by first | rfl | assumption) (12) (rfl) ?_
    refine g_bipush (pc := 10) (6) dX9_passYear_10 (by decide) ?_
    refine g_iload1 (pc := 12) dX9_passYear_12 ?_
    refine g_bipush (pc := 13) (44) dX9_passYear_13 (by decide) ?_
    refine g_isub (pc := 15) dX9_passYear_15 ?_
    refine g_imul (pc := 16) dX9_passYear_16 ?_
    rw [show (6 : Int32) * (nI t - 44) = nI (6 * (t - 44)) from by rw [show (44 : Int32) = nI 44 from rfl, pk_sub zh44, show (6 : Int32) = nI 6 from rfl, pk_mul]]
    refine g_fV1 (pc := 17) (c_X4_clean s12) cf4 (by first | rfl | assumption) dX9_passYear_17 cw_RX9_176 (by decide) (Nat.le_of_ble_eq_true rfl) ?_
    refine g_pop (pc := 20) dX9_passYear_20 rfl ?_
    refine g_vret (pc := 21) dX9_passYear_21 rfl ?_
    exact ⟨rfl, rfl, rfl⟩
theorem c_X9_passYear_u1 {n t : Nat} {v : Mm} {L : Lm} (hT : TSt v n) (ht : t < 32) (hx : ¬ t / 8 < n) : Fn yX9_passYear cX9_passYear 3 none 4 [.ref 0, .int (nI t)] v L none v L := by
  have hn4 := hT.1
  refine Fq.of (plainFor_of_name (by decide)) [some (.ref 0), some (.int (nI t)), none] rfl (Nat.le_of_ble_eq_true rfl) ?_
  refine g_iload1 (pc := 0) dX9_passYear_0 ?_
  refine g_bipush (pc := 1) (44) dX9_passYear_1 (by decide) ?_
  refine g_icmp_lt (pc := 3) 22 dX9_passYear_3 (by decide) (fun zh3 => ?_) (fun zh3 => ?_)
  · skip
    first | refine g_aload0 (pc := 22) dX9_passYear_22 ?_ | refine g_aloadN0 (pc := 22) dX9_passYear_22 ?_
    refine g_getR (pc := 23) (j := 3) cf9 dX9_passYear_23 fl_RX9_30 (by decide) (by decide) (by first | rfl | assumption) (12) (rfl) ?_
    refine g_iload1 (pc := 26) dX9_passYear_26 ?_
    refine g_bipush (pc := 27) (32) dX9_passYear_27 (by decide) ?_
    refine g_icmp_ge (pc := 29) 39 dX9_passYear_29 (by decide) (fun zh29 => ?_) (fun zh29 => ?_)
    · skip
      exact absurd zh29 (nI_ge (b := 32) ht (by decide))
    · skip
      refine g_iload1 (pc := 32) dX9_passYear_32 ?_
      refine g_bipush (pc := 33) (8) dX9_passYear_33 (by decide) ?_
      refine g_idiv (pc := 35) dX9_passYear_35 (by decide) ?_
      refine g_goto (pc := 36) 45 dX9_passYear_36 (by decide) ?_
      rw [show nI t / 8 = nI (t / 8) from pk_div (d := 8) (by omega) (by decide) (by decide)]
      refine g_fV1 (pc := 45) (c_X4_find_n (S := 12) s12 (fun zq => hx ((nI_ltI (a := t / 8) (b := n) (by omega) (by omega)).mp (by rw [← hT.2.1]; exact zq.2.1)))) cf4 (by first | rfl | assumption) dX9_passYear_45 cw_RX9_111 (by decide) (Nat.le_of_ble_eq_true rfl) ?_
      first | refine g_astore2 (pc := 48) dX9_passYear_48 (by decide) (by first | rfl | assumption) ?_ | refine g_astoreN2 (pc := 48) dX9_passYear_48 (by decide) (by first | rfl | assumption) ?_
      first | refine g_aload2 (pc := 49) dX9_passYear_49 ?_ | refine g_aloadN2 (pc := 49) dX9_passYear_49 ?_
      refine g_ifnonnullN (pc := 50) dX9_passYear_50 ?_
      refine g_vret (pc := 53) dX9_passYear_53 rfl ?_
      exact ⟨rfl, rfl, rfl⟩
  · skip
    exact absurd (nI_lt (b := 44) (by omega) (by decide)) zh3
theorem c_X9_passYear_1n {n t : Nat} {v : Mm} {L : Lm} (hT : TSt v n) (ht : t < 32) (hx : t / 8 < n) (hnb : nbF (v (12 + 3 + t / 8) 0) (nI (t % 8)) = -9) : Fn yX9_passYear cX9_passYear 3 none 4 [.ref 0, .int (nI t)] v L none v L := by
  have hn4 := hT.1
  have hkp : kd (12 + 3 + t / 8) = 2 := sh_kp s12 (by omega)
  refine Fq.of (plainFor_of_name (by decide)) [some (.ref 0), some (.int (nI t)), none] rfl (Nat.le_of_ble_eq_true rfl) ?_
  refine g_iload1 (pc := 0) dX9_passYear_0 ?_
  refine g_bipush (pc := 1) (44) dX9_passYear_1 (by decide) ?_
  refine g_icmp_lt (pc := 3) 22 dX9_passYear_3 (by decide) (fun zh3 => ?_) (fun zh3 => ?_)
  · skip
    first | refine g_aload0 (pc := 22) dX9_passYear_22 ?_ | refine g_aloadN0 (pc := 22) dX9_passYear_22 ?_
    refine g_getR (pc := 23) (j := 3) cf9 dX9_passYear_23 fl_RX9_30 (by decide) (by decide) (by first | rfl | assumption) (12) (rfl) ?_
    refine g_iload1 (pc := 26) dX9_passYear_26 ?_
    refine g_bipush (pc := 27) (32) dX9_passYear_27 (by decide) ?_
    refine g_icmp_ge (pc := 29) 39 dX9_passYear_29 (by decide) (fun zh29 => ?_) (fun zh29 => ?_)
    · skip
      exact absurd zh29 (nI_ge (b := 32) ht (by decide))
    · skip
      refine g_iload1 (pc := 32) dX9_passYear_32 ?_
      refine g_bipush (pc := 33) (8) dX9_passYear_33 (by decide) ?_
      refine g_idiv (pc := 35) dX9_passYear_35 (by decide) ?_
      refine g_goto (pc := 36) 45 dX9_passYear_36 (by decide) ?_
      rw [show nI t / 8 = nI (t / 8) from pk_div (d := 8) (by omega) (by decide) (by decide)]
      refine g_fV1 (pc := 45) (c_X4_find_s (S := 12) (i := t / 8) s12 (by have := hT.1; omega) (by rw [hT.2.1]; exact nI_lt hx (by have := hT.1; omega))) cf4 (by first | rfl | assumption) dX9_passYear_45 cw_RX9_111 (by decide) (Nat.le_of_ble_eq_true rfl) ?_
      first | refine g_astore2 (pc := 48) dX9_passYear_48 (by decide) (by first | rfl | assumption) ?_ | refine g_astoreN2 (pc := 48) dX9_passYear_48 (by decide) (by first | rfl | assumption) ?_
      first | refine g_aload2 (pc := 49) dX9_passYear_49 ?_ | refine g_aloadN2 (pc := 49) dX9_passYear_49 ?_
      refine g_ifnonnull (pc := 50) 54 dX9_passYear_50 (by decide) ?_
      refine g_iload1 (pc := 54) dX9_passYear_54 ?_
      refine g_bipush (pc := 55) (32) dX9_passYear_55 (by decide) ?_
      refine g_icmp_ge (pc := 57) 76 dX9_passYear_57 (by decide) (fun zh57 => ?_) (fun zh57 => ?_)
      · skip
        exact absurd zh57 (nI_ge (b := 32) ht (by decide))
      · skip
        first | refine g_aload0 (pc := 60) dX9_passYear_60 ?_ | refine g_aloadN0 (pc := 60) dX9_passYear_60 ?_
        refine g_getR (pc := 61) (j := 3) cf9 dX9_passYear_61 fl_RX9_30 (by decide) (by decide) (by first | rfl | assumption) (12) (rfl) ?_
        first | refine g_aload2 (pc := 64) dX9_passYear_64 ?_ | refine g_aloadN2 (pc := 64) dX9_passYear_64 ?_
        refine g_iload1 (pc := 65) dX9_passYear_65 ?_
        refine g_bipush (pc := 66) (8) dX9_passYear_66 (by decide) ?_
        refine g_irem (pc := 68) dX9_passYear_68 (by decide) ?_
        rw [show nI t - nI t / 8 * 8 = nI (t % 8) from pk_rem (d := 8) (by omega) (by decide) (by decide)]
        refine g_fV2 (pc := 69) (c_X4_move_n s12 hkp hnb) cf4 (by first | rfl | assumption) dX9_passYear_69 cw_RX9_159 (by decide) (Nat.le_of_ble_eq_true rfl) ?_
        refine g_pop (pc := 72) dX9_passYear_72 rfl ?_
        refine g_goto (pc := 73) 107 dX9_passYear_73 (by decide) ?_
        refine g_vret (pc := 107) dX9_passYear_107 rfl ?_
        exact ⟨rfl, rfl, rfl⟩
  · skip
    exact absurd (nI_lt (b := 44) (by omega) (by decide)) zh3
theorem c_X9_passYear_1s {n t : Nat} {v : Mm} {L : Lm} (hT : TSt v n) (ht : t < 32) (hx : t / 8 < n) (hnb : ¬ nbF (v (12 + 3 + t / 8) 0) (nI (t % 8)) = -9) : Fn yX9_passYear cX9_passYear 3 none 4 [.ref 0, .int (nI t)] v L none (mvV v 12 (12 + 3 + t / 8) (nI (t % 8))) L := by
  have hn4 := hT.1
  have hkp : kd (12 + 3 + t / 8) = 2 := sh_kp s12 (by omega)
  refine Fq.of (plainFor_of_name (by decide)) [some (.ref 0), some (.int (nI t)), none] rfl (Nat.le_of_ble_eq_true rfl) ?_
  refine g_iload1 (pc := 0) dX9_passYear_0 ?_
  refine g_bipush (pc := 1) (44) dX9_passYear_1 (by decide) ?_
  refine g_icmp_lt (pc := 3) 22 dX9_passYear_3 (by decide) (fun zh3 => ?_) (fun zh3 => ?_)
  · skip
    first | refine g_aload0 (pc := 22) dX9_passYear_22 ?_ | refine g_aloadN0 (pc := 22) dX9_passYear_22 ?_
    refine g_getR (pc := 23) (j := 3) cf9 dX9_passYear_23 fl_RX9_30 (by decide) (by decide) (by first | rfl | assumption) (12) (rfl) ?_
    refine g_iload1 (pc := 26) dX9_passYear_26 ?_
    refine g_bipush (pc := 27) (32) dX9_passYear_27 (by decide) ?_
    refine g_icmp_ge (pc := 29) 39 dX9_passYear_29 (by decide) (fun zh29 => ?_) (fun zh29 => ?_)
    · skip
      exact absurd zh29 (nI_ge (b := 32) ht (by decide))
    · skip
      refine g_iload1 (pc := 32) dX9_passYear_32 ?_
      refine g_bipush (pc := 33) (8) dX9_passYear_33 (by decide) ?_
      refine g_idiv (pc := 35) dX9_passYear_35 (by decide) ?_
      refine g_goto (pc := 36) 45 dX9_passYear_36 (by decide) ?_
      rw [show nI t / 8 = nI (t / 8) from pk_div (d := 8) (by omega) (by decide) (by decide)]
      refine g_fV1 (pc := 45) (c_X4_find_s (S := 12) (i := t / 8) s12 (by have := hT.1; omega) (by rw [hT.2.1]; exact nI_lt hx (by have := hT.1; omega))) cf4 (by first | rfl | assumption) dX9_passYear_45 cw_RX9_111 (by decide) (Nat.le_of_ble_eq_true rfl) ?_
      first | refine g_astore2 (pc := 48) dX9_passYear_48 (by decide) (by first | rfl | assumption) ?_ | refine g_astoreN2 (pc := 48) dX9_passYear_48 (by decide) (by first | rfl | assumption) ?_
      first | refine g_aload2 (pc := 49) dX9_passYear_49 ?_ | refine g_aloadN2 (pc := 49) dX9_passYear_49 ?_
      refine g_ifnonnull (pc := 50) 54 dX9_passYear_50 (by decide) ?_
      refine g_iload1 (pc := 54) dX9_passYear_54 ?_
      refine g_bipush (pc := 55) (32) dX9_passYear_55 (by decide) ?_
      refine g_icmp_ge (pc := 57) 76 dX9_passYear_57 (by decide) (fun zh57 => ?_) (fun zh57 => ?_)
      · skip
        exact absurd zh57 (nI_ge (b := 32) ht (by decide))
      · skip
        first | refine g_aload0 (pc := 60) dX9_passYear_60 ?_ | refine g_aloadN0 (pc := 60) dX9_passYear_60 ?_
        refine g_getR (pc := 61) (j := 3) cf9 dX9_passYear_61 fl_RX9_30 (by decide) (by decide) (by first | rfl | assumption) (12) (rfl) ?_
        first | refine g_aload2 (pc := 64) dX9_passYear_64 ?_ | refine g_aloadN2 (pc := 64) dX9_passYear_64 ?_
        refine g_iload1 (pc := 65) dX9_passYear_65 ?_
        refine g_bipush (pc := 66) (8) dX9_passYear_66 (by decide) ?_
        refine g_irem (pc := 68) dX9_passYear_68 (by decide) ?_
        rw [show nI t - nI t / 8 * 8 = nI (t % 8) from pk_rem (d := 8) (by omega) (by decide) (by decide)]
        refine g_fV2 (pc := 69) (c_X4_move_s s12 hkp hnb) cf4 (by first | rfl | assumption) dX9_passYear_69 cw_RX9_159 (by decide) (Nat.le_of_ble_eq_true rfl) ?_
        refine g_pop (pc := 72) dX9_passYear_72 rfl ?_
        refine g_goto (pc := 73) 107 dX9_passYear_73 (by decide) ?_
        refine g_vret (pc := 107) dX9_passYear_107 rfl ?_
        exact ⟨rfl, rfl, rfl⟩
  · skip
    exact absurd (nI_lt (b := 44) (by omega) (by decide)) zh3
theorem c_X9_passYear_u2 {n t : Nat} {v : Mm} {L : Lm} (hT : TSt v n) (ht : 32 ≤ t) (zh44 : t < 44) (hx : ¬ (t - 32) % 4 < n) : Fn yX9_passYear cX9_passYear 3 none 4 [.ref 0, .int (nI t)] v L none v L := by
  have hn4 := hT.1
  refine Fq.of (plainFor_of_name (by decide)) [some (.ref 0), some (.int (nI t)), none] rfl (Nat.le_of_ble_eq_true rfl) ?_
  refine g_iload1 (pc := 0) dX9_passYear_0 ?_
  refine g_bipush (pc := 1) (44) dX9_passYear_1 (by decide) ?_
  refine g_icmp_lt (pc := 3) 22 dX9_passYear_3 (by decide) (fun zh3 => ?_) (fun zh3 => ?_)
  · skip
    first | refine g_aload0 (pc := 22) dX9_passYear_22 ?_ | refine g_aloadN0 (pc := 22) dX9_passYear_22 ?_
    refine g_getR (pc := 23) (j := 3) cf9 dX9_passYear_23 fl_RX9_30 (by decide) (by decide) (by first | rfl | assumption) (12) (rfl) ?_
    refine g_iload1 (pc := 26) dX9_passYear_26 ?_
    refine g_bipush (pc := 27) (32) dX9_passYear_27 (by decide) ?_
    refine g_icmp_ge (pc := 29) 39 dX9_passYear_29 (by decide) (fun zh29 => ?_) (fun zh29 => ?_)
    · skip
      refine g_iload1 (pc := 39) dX9_passYear_39 ?_
      refine g_bipush (pc := 40) (32) dX9_passYear_40 (by decide) ?_
      refine g_isub (pc := 42) dX9_passYear_42 ?_
      refine g_iconst (pc := 43) (4) dX9_passYear_43 (by decide) ?_
      refine g_irem (pc := 44) dX9_passYear_44 (by decide) ?_
      rw [show nI t - 32 - (nI t - 32) / 4 * 4 = nI ((t - 32) % 4) from by rw [show (32 : Int32) = nI 32 from rfl, pk_sub ht]; exact pk_rem (d := 4) (by omega) (by decide) (by decide)]
      refine g_fV1 (pc := 45) (c_X4_find_n (S := 12) s12 (fun zq => hx ((nI_ltI (a := (t - 32) % 4) (b := n) (by omega) (by omega)).mp (by rw [← hT.2.1]; exact zq.2.1)))) cf4 (by first | rfl | assumption) dX9_passYear_45 cw_RX9_111 (by decide) (Nat.le_of_ble_eq_true rfl) ?_
      first | refine g_astore2 (pc := 48) dX9_passYear_48 (by decide) (by first | rfl | assumption) ?_ | refine g_astoreN2 (pc := 48) dX9_passYear_48 (by decide) (by first | rfl | assumption) ?_
      first | refine g_aload2 (pc := 49) dX9_passYear_49 ?_ | refine g_aloadN2 (pc := 49) dX9_passYear_49 ?_
      refine g_ifnonnullN (pc := 50) dX9_passYear_50 ?_
      refine g_vret (pc := 53) dX9_passYear_53 rfl ?_
      exact ⟨rfl, rfl, rfl⟩
    · skip
      exact absurd (nI_le (a := 32) ht (by omega)) zh29
  · skip
    exact absurd (nI_lt (b := 44) (by omega) (by decide)) zh3
theorem c_X9_passYear_t {n t : Nat} {v : Mm} {L : Lm} (hT : TSt v n) (ht : 32 ≤ t) (hlo : 32 ≤ t) (hhi : t < 36) (hx : (t - 32) % 4 < n) : Fn yX9_passYear cX9_passYear 3 none 4 [.ref 0, .int (nI t)] v L none (upd2 (upd2 v (12 + 3 + (t - 32) % 4) 2 (-(v (12 + 3 + (t - 32) % 4) 3))) (12 + 3 + (t - 32) % 4) 3 (v (12 + 3 + (t - 32) % 4) 2)) L := by
  have hn4 := hT.1
  have hkp : kd (12 + 3 + (t - 32) % 4) = 2 := sh_kp s12 (by omega)
  refine Fq.of (plainFor_of_name (by decide)) [some (.ref 0), some (.int (nI t)), none] rfl (Nat.le_of_ble_eq_true rfl) ?_
  refine g_iload1 (pc := 0) dX9_passYear_0 ?_
  refine g_bipush (pc := 1) (44) dX9_passYear_1 (by decide) ?_
  refine g_icmp_lt (pc := 3) 22 dX9_passYear_3 (by decide) (fun zh3 => ?_) (fun zh3 => ?_)
  · skip
    first | refine g_aload0 (pc := 22) dX9_passYear_22 ?_ | refine g_aloadN0 (pc := 22) dX9_passYear_22 ?_
    refine g_getR (pc := 23) (j := 3) cf9 dX9_passYear_23 fl_RX9_30 (by decide) (by decide) (by first | rfl | assumption) (12) (rfl) ?_
    refine g_iload1 (pc := 26) dX9_passYear_26 ?_
    refine g_bipush (pc := 27) (32) dX9_passYear_27 (by decide) ?_
    refine g_icmp_ge (pc := 29) 39 dX9_passYear_29 (by decide) (fun zh29 => ?_) (fun zh29 => ?_)
    · skip
      refine g_iload1 (pc := 39) dX9_passYear_39 ?_
      refine g_bipush (pc := 40) (32) dX9_passYear_40 (by decide) ?_
      refine g_isub (pc := 42) dX9_passYear_42 ?_
      refine g_iconst (pc := 43) (4) dX9_passYear_43 (by decide) ?_
      refine g_irem (pc := 44) dX9_passYear_44 (by decide) ?_
      rw [show nI t - 32 - (nI t - 32) / 4 * 4 = nI ((t - 32) % 4) from by rw [show (32 : Int32) = nI 32 from rfl, pk_sub ht]; exact pk_rem (d := 4) (by omega) (by decide) (by decide)]
      refine g_fV1 (pc := 45) (c_X4_find_s (S := 12) (i := (t - 32) % 4) s12 (by have := hT.1; omega) (by rw [hT.2.1]; exact nI_lt hx (by have := hT.1; omega))) cf4 (by first | rfl | assumption) dX9_passYear_45 cw_RX9_111 (by decide) (Nat.le_of_ble_eq_true rfl) ?_
      first | refine g_astore2 (pc := 48) dX9_passYear_48 (by decide) (by first | rfl | assumption) ?_ | refine g_astoreN2 (pc := 48) dX9_passYear_48 (by decide) (by first | rfl | assumption) ?_
      first | refine g_aload2 (pc := 49) dX9_passYear_49 ?_ | refine g_aloadN2 (pc := 49) dX9_passYear_49 ?_
      refine g_ifnonnull (pc := 50) 54 dX9_passYear_50 (by decide) ?_
      refine g_iload1 (pc := 54) dX9_passYear_54 ?_
      refine g_bipush (pc := 55) (32) dX9_passYear_55 (by decide) ?_
      refine g_icmp_ge (pc := 57) 76 dX9_passYear_57 (by decide) (fun zh57 => ?_) (fun zh57 => ?_)
      · skip
        refine g_iload1 (pc := 76) dX9_passYear_76 ?_
        refine g_bipush (pc := 77) (36) dX9_passYear_77 (by decide) ?_
        refine g_icmp_ge (pc := 79) 89 dX9_passYear_79 (by decide) (fun zh79 => ?_) (fun zh79 => ?_)
        · skip
          exact absurd zh79 (nI_ge (b := 36) (by omega) (by decide))
        · skip
          first | refine g_aload2 (pc := 82) dX9_passYear_82 ?_ | refine g_aloadN2 (pc := 82) dX9_passYear_82 ?_
          refine g_vV0 (pc := 83) (c_X2_quarter hkp) cf2 (by first | rfl | assumption) dX9_passYear_83 cw_RX9_173 (by decide) (Nat.le_of_ble_eq_true rfl) ?_
          refine g_goto (pc := 86) 107 dX9_passYear_86 (by decide) ?_
          refine g_vret (pc := 107) dX9_passYear_107 rfl ?_
          exact ⟨rfl, rfl, rfl⟩
      · skip
        exact absurd (nI_le (a := 32) ht (by omega)) zh57
    · skip
      exact absurd (nI_le (a := 32) ht (by omega)) zh29
  · skip
    exact absurd (nI_lt (b := 44) (by omega) (by decide)) zh3
theorem c_X9_passYear_p {n t : Nat} {v : Mm} {L : Lm} (hT : TSt v n) (ht : 32 ≤ t) (hlo : 36 ≤ t) (hhi : t < 40) (hx : (t - 32) % 4 < n) : Fn yX9_passYear cX9_passYear 3 none 4 [.ref 0, .int (nI t)] v L none (upd2 v (12 + 3 + (t - 32) % 4) 6 (b01 (v (12 + 3 + (t - 32) % 4) 6 = 0))) L := by
  have hn4 := hT.1
  have hkp : kd (12 + 3 + (t - 32) % 4) = 2 := sh_kp s12 (by omega)
  refine Fq.of (plainFor_of_name (by decide)) [some (.ref 0), some (.int (nI t)), none] rfl (Nat.le_of_ble_eq_true rfl) ?_
  refine g_iload1 (pc := 0) dX9_passYear_0 ?_
  refine g_bipush (pc := 1) (44) dX9_passYear_1 (by decide) ?_
  refine g_icmp_lt (pc := 3) 22 dX9_passYear_3 (by decide) (fun zh3 => ?_) (fun zh3 => ?_)
  · skip
    first | refine g_aload0 (pc := 22) dX9_passYear_22 ?_ | refine g_aloadN0 (pc := 22) dX9_passYear_22 ?_
    refine g_getR (pc := 23) (j := 3) cf9 dX9_passYear_23 fl_RX9_30 (by decide) (by decide) (by first | rfl | assumption) (12) (rfl) ?_
    refine g_iload1 (pc := 26) dX9_passYear_26 ?_
    refine g_bipush (pc := 27) (32) dX9_passYear_27 (by decide) ?_
    refine g_icmp_ge (pc := 29) 39 dX9_passYear_29 (by decide) (fun zh29 => ?_) (fun zh29 => ?_)
    · skip
      refine g_iload1 (pc := 39) dX9_passYear_39 ?_
      refine g_bipush (pc := 40) (32) dX9_passYear_40 (by decide) ?_
      refine g_isub (pc := 42) dX9_passYear_42 ?_
      refine g_iconst (pc := 43) (4) dX9_passYear_43 (by decide) ?_
      refine g_irem (pc := 44) dX9_passYear_44 (by decide) ?_
      rw [show nI t - 32 - (nI t - 32) / 4 * 4 = nI ((t - 32) % 4) from by rw [show (32 : Int32) = nI 32 from rfl, pk_sub ht]; exact pk_rem (d := 4) (by omega) (by decide) (by decide)]
      refine g_fV1 (pc := 45) (c_X4_find_s (S := 12) (i := (t - 32) % 4) s12 (by have := hT.1; omega) (by rw [hT.2.1]; exact nI_lt hx (by have := hT.1; omega))) cf4 (by first | rfl | assumption) dX9_passYear_45 cw_RX9_111 (by decide) (Nat.le_of_ble_eq_true rfl) ?_
      first | refine g_astore2 (pc := 48) dX9_passYear_48 (by decide) (by first | rfl | assumption) ?_ | refine g_astoreN2 (pc := 48) dX9_passYear_48 (by decide) (by first | rfl | assumption) ?_
      first | refine g_aload2 (pc := 49) dX9_passYear_49 ?_ | refine g_aloadN2 (pc := 49) dX9_passYear_49 ?_
      refine g_ifnonnull (pc := 50) 54 dX9_passYear_50 (by decide) ?_
      refine g_iload1 (pc := 54) dX9_passYear_54 ?_
      refine g_bipush (pc := 55) (32) dX9_passYear_55 (by decide) ?_
      refine g_icmp_ge (pc := 57) 76 dX9_passYear_57 (by decide) (fun zh57 => ?_) (fun zh57 => ?_)
      · skip
        refine g_iload1 (pc := 76) dX9_passYear_76 ?_
        refine g_bipush (pc := 77) (36) dX9_passYear_77 (by decide) ?_
        refine g_icmp_ge (pc := 79) 89 dX9_passYear_79 (by decide) (fun zh79 => ?_) (fun zh79 => ?_)
        · skip
          refine g_iload1 (pc := 89) dX9_passYear_89 ?_
          refine g_bipush (pc := 90) (40) dX9_passYear_90 (by decide) ?_
          refine g_icmp_ge (pc := 92) 102 dX9_passYear_92 (by decide) (fun zh92 => ?_) (fun zh92 => ?_)
          · skip
            exact absurd zh92 (nI_ge (b := 40) (by omega) (by decide))
          · skip
            first | refine g_aload2 (pc := 95) dX9_passYear_95 ?_ | refine g_aloadN2 (pc := 95) dX9_passYear_95 ?_
            refine g_vV0 (pc := 96) (c_X2_flip hkp) cf2 (by first | rfl | assumption) dX9_passYear_96 cw_RX9_163 (by decide) (Nat.le_of_ble_eq_true rfl) ?_
            refine g_goto (pc := 99) 107 dX9_passYear_99 (by decide) ?_
            refine g_vret (pc := 107) dX9_passYear_107 rfl ?_
            exact ⟨rfl, rfl, rfl⟩
        · skip
          exact absurd (nI_le (a := 36) (by omega) (by omega)) zh79
      · skip
        exact absurd (nI_le (a := 32) ht (by omega)) zh57
    · skip
      exact absurd (nI_le (a := 32) ht (by omega)) zh29
  · skip
    exact absurd (nI_lt (b := 44) (by omega) (by decide)) zh3
theorem c_X9_passYear_d {n t : Nat} {v : Mm} {L : Lm} (hT : TSt v n) (ht : 32 ≤ t) (hlo : 40 ≤ t) (hhi : t < 44) (hx : (t - 32) % 4 < n) : Fn yX9_passYear cX9_passYear 3 none 4 [.ref 0, .int (nI t)] v L none (upd2 v (12 + 3 + (t - 32) % 4) 4 (v (12 + 3 + (t - 32) % 4) 5)) L := by
  have hn4 := hT.1
  have hkp : kd (12 + 3 + (t - 32) % 4) = 2 := sh_kp s12 (by omega)
  refine Fq.of (plainFor_of_name (by decide)) [some (.ref 0), some (.int (nI t)), none] rfl (Nat.le_of_ble_eq_true rfl) ?_
  refine g_iload1 (pc := 0) dX9_passYear_0 ?_
  refine g_bipush (pc := 1) (44) dX9_passYear_1 (by decide) ?_
  refine g_icmp_lt (pc := 3) 22 dX9_passYear_3 (by decide) (fun zh3 => ?_) (fun zh3 => ?_)
  · skip
    first | refine g_aload0 (pc := 22) dX9_passYear_22 ?_ | refine g_aloadN0 (pc := 22) dX9_passYear_22 ?_
    refine g_getR (pc := 23) (j := 3) cf9 dX9_passYear_23 fl_RX9_30 (by decide) (by decide) (by first | rfl | assumption) (12) (rfl) ?_
    refine g_iload1 (pc := 26) dX9_passYear_26 ?_
    refine g_bipush (pc := 27) (32) dX9_passYear_27 (by decide) ?_
    refine g_icmp_ge (pc := 29) 39 dX9_passYear_29 (by decide) (fun zh29 => ?_) (fun zh29 => ?_)
    · skip
      refine g_iload1 (pc := 39) dX9_passYear_39 ?_
      refine g_bipush (pc := 40) (32) dX9_passYear_40 (by decide) ?_
      refine g_isub (pc := 42) dX9_passYear_42 ?_
      refine g_iconst (pc := 43) (4) dX9_passYear_43 (by decide) ?_
      refine g_irem (pc := 44) dX9_passYear_44 (by decide) ?_
      rw [show nI t - 32 - (nI t - 32) / 4 * 4 = nI ((t - 32) % 4) from by rw [show (32 : Int32) = nI 32 from rfl, pk_sub ht]; exact pk_rem (d := 4) (by omega) (by decide) (by decide)]
      refine g_fV1 (pc := 45) (c_X4_find_s (S := 12) (i := (t - 32) % 4) s12 (by have := hT.1; omega) (by rw [hT.2.1]; exact nI_lt hx (by have := hT.1; omega))) cf4 (by first | rfl | assumption) dX9_passYear_45 cw_RX9_111 (by decide) (Nat.le_of_ble_eq_true rfl) ?_
      first | refine g_astore2 (pc := 48) dX9_passYear_48 (by decide) (by first | rfl | assumption) ?_ | refine g_astoreN2 (pc := 48) dX9_passYear_48 (by decide) (by first | rfl | assumption) ?_
      first | refine g_aload2 (pc := 49) dX9_passYear_49 ?_ | refine g_aloadN2 (pc := 49) dX9_passYear_49 ?_
      refine g_ifnonnull (pc := 50) 54 dX9_passYear_50 (by decide) ?_
      refine g_iload1 (pc := 54) dX9_passYear_54 ?_
      refine g_bipush (pc := 55) (32) dX9_passYear_55 (by decide) ?_
      refine g_icmp_ge (pc := 57) 76 dX9_passYear_57 (by decide) (fun zh57 => ?_) (fun zh57 => ?_)
      · skip
        refine g_iload1 (pc := 76) dX9_passYear_76 ?_
        refine g_bipush (pc := 77) (36) dX9_passYear_77 (by decide) ?_
        refine g_icmp_ge (pc := 79) 89 dX9_passYear_79 (by decide) (fun zh79 => ?_) (fun zh79 => ?_)
        · skip
          refine g_iload1 (pc := 89) dX9_passYear_89 ?_
          refine g_bipush (pc := 90) (40) dX9_passYear_90 (by decide) ?_
          refine g_icmp_ge (pc := 92) 102 dX9_passYear_92 (by decide) (fun zh92 => ?_) (fun zh92 => ?_)
          · skip
            first | refine g_aload2 (pc := 102) dX9_passYear_102 ?_ | refine g_aloadN2 (pc := 102) dX9_passYear_102 ?_
            refine g_fV0 (pc := 103) (c_X2_refill hkp) cf2 (by first | rfl | assumption) dX9_passYear_103 cw_RX9_170 (by decide) (Nat.le_of_ble_eq_true rfl) ?_
            refine g_pop (pc := 106) dX9_passYear_106 rfl ?_
            refine g_vret (pc := 107) dX9_passYear_107 rfl ?_
            exact ⟨rfl, rfl, rfl⟩
          · skip
            exact absurd (nI_le (a := 40) (by omega) (by omega)) zh92
        · skip
          exact absurd (nI_le (a := 36) (by omega) (by omega)) zh79
      · skip
        exact absurd (nI_le (a := 32) ht (by omega)) zh57
    · skip
      exact absurd (nI_le (a := 32) ht (by omega)) zh29
  · skip
    exact absurd (nI_lt (b := 44) (by omega) (by decide)) zh3
theorem c_X9_passYear {n t : Nat} {v : Mm} {L : Lm} (hT : TSt v n) (h48 : t < 48) : Fn yX9_passYear cX9_passYear 3 none 4 [.ref 0, .int (nI t)] v L none (pyM v n t) L := by
  unfold pyM
  by_cases z1 : 44 ≤ t
  · rw [if_pos z1]; exact c_X9_passYear_b hT z1 h48
  · rw [if_neg z1]
    by_cases z2 : t < 32
    · rw [if_pos z2]
      by_cases z3 : t / 8 < n
      · rw [if_pos z3]
        by_cases z4 : nbF (v (12 + 3 + t / 8) 0) (nI (t % 8)) = -9
        · rw [if_pos z4]; exact c_X9_passYear_1n hT z2 z3 z4
        · rw [if_neg z4]; exact c_X9_passYear_1s hT z2 z3 z4
      · rw [if_neg z3]; exact c_X9_passYear_u1 hT z2 z3
    · rw [if_neg z2]
      by_cases z3 : (t - 32) % 4 < n
      · rw [if_pos z3]
        by_cases z4 : t < 36
        · rw [if_pos z4]; exact c_X9_passYear_t hT (by omega) (by omega) z4 z3
        · rw [if_neg z4]
          by_cases z5 : t < 40
          · rw [if_pos z5]; exact c_X9_passYear_p hT (by omega) (by omega) z5 z3
          · rw [if_neg z5]; exact c_X9_passYear_d hT (by omega) (by omega) (by omega) z3
      · rw [if_neg z3]; exact c_X9_passYear_u2 hT (by omega) (by omega) z3
theorem c_J6_bitCount_0f7a4 {x : Int32} {v : Mm} {L : Lm}  : Fn yJ6_bitCount_0f7a4 cJ6_bitCount_0f7a4 1 (some .int) 0 [.int x] v L (some (.int (bcF x))) v L := by
  refine Fq.of (pf_J6_bitCount_0f7a4) [some (.int x)] rfl (Nat.le_of_ble_eq_true rfl) ?_
  refine g_iload0 (pc := 0) dJ6_bitCount_0f7a4_0 ?_
  refine g_iload0 (pc := 1) dJ6_bitCount_0f7a4_1 ?_
  refine g_iconst (pc := 2) (1) dJ6_bitCount_0f7a4_2 (by decide) ?_
  refine g_iushr (pc := 3) dJ6_bitCount_0f7a4_3 ?_
  refine g_ldcw (pc := 4) _ dJ6_bitCount_0f7a4_4 kc_RJ6_265 ?_
  refine g_iand (pc := 7) dJ6_bitCount_0f7a4_7 ?_
  refine g_isub (pc := 8) dJ6_bitCount_0f7a4_8 ?_
  refine g_istore0 (pc := 9) dJ6_bitCount_0f7a4_9 (by decide) ?_
  refine g_iload0 (pc := 10) dJ6_bitCount_0f7a4_10 ?_
  refine g_ldcw (pc := 11) _ dJ6_bitCount_0f7a4_11 kc_RJ6_266 ?_
  refine g_iand (pc := 14) dJ6_bitCount_0f7a4_14 ?_
  refine g_iload0 (pc := 15) dJ6_bitCount_0f7a4_15 ?_
  refine g_iconst (pc := 16) (2) dJ6_bitCount_0f7a4_16 (by decide) ?_
  refine g_iushr (pc := 17) dJ6_bitCount_0f7a4_17 ?_
  refine g_ldcw (pc := 18) _ dJ6_bitCount_0f7a4_18 kc_RJ6_266 ?_
  refine g_iand (pc := 21) dJ6_bitCount_0f7a4_21 ?_
  refine g_iadd (pc := 22) dJ6_bitCount_0f7a4_22 ?_
  refine g_istore0 (pc := 23) dJ6_bitCount_0f7a4_23 (by decide) ?_
  refine g_iload0 (pc := 24) dJ6_bitCount_0f7a4_24 ?_
  refine g_iload0 (pc := 25) dJ6_bitCount_0f7a4_25 ?_
  refine g_iconst (pc := 26) (4) dJ6_bitCount_0f7a4_26 (by decide) ?_
  refine g_iushr (pc := 27) dJ6_bitCount_0f7a4_27 ?_
  refine g_iadd (pc := 28) dJ6_bitCount_0f7a4_28 ?_
  refine g_ldcw (pc := 29) _ dJ6_bitCount_0f7a4_29 kc_RJ6_267 ?_
  refine g_iand (pc := 32) dJ6_bitCount_0f7a4_32 ?_
  refine g_istore0 (pc := 33) dJ6_bitCount_0f7a4_33 (by decide) ?_
  refine g_iload0 (pc := 34) dJ6_bitCount_0f7a4_34 ?_
  refine g_iload0 (pc := 35) dJ6_bitCount_0f7a4_35 ?_
  refine g_bipush (pc := 36) (8) dJ6_bitCount_0f7a4_36 (by decide) ?_
  refine g_iushr (pc := 38) dJ6_bitCount_0f7a4_38 ?_
  refine g_iadd (pc := 39) dJ6_bitCount_0f7a4_39 ?_
  refine g_istore0 (pc := 40) dJ6_bitCount_0f7a4_40 (by decide) ?_
  refine g_iload0 (pc := 41) dJ6_bitCount_0f7a4_41 ?_
  refine g_iload0 (pc := 42) dJ6_bitCount_0f7a4_42 ?_
  refine g_bipush (pc := 43) (16) dJ6_bitCount_0f7a4_43 (by decide) ?_
  refine g_iushr (pc := 45) dJ6_bitCount_0f7a4_45 ?_
  refine g_iadd (pc := 46) dJ6_bitCount_0f7a4_46 ?_
  refine g_istore0 (pc := 47) dJ6_bitCount_0f7a4_47 (by decide) ?_
  refine g_iload0 (pc := 48) dJ6_bitCount_0f7a4_48 ?_
  refine g_bipush (pc := 49) (63) dJ6_bitCount_0f7a4_49 (by decide) ?_
  refine g_iand (pc := 51) dJ6_bitCount_0f7a4_51 ?_
  refine g_iret (pc := 52) dJ6_bitCount_0f7a4_52 rfl ?_
  exact ⟨rfl, rfl, rfl⟩
