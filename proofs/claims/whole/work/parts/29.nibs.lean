theorem lp_X3_countNibs_b {c a : Nat} {s0 : Int32} {v : Mm} {L : Lm} {Q : Qt} (hc : v 68 3 = nI c) (hc6 : c ≤ 6) (ha : a < 7) (hI0 : (fun (_ : Nat) (_ : Int32) => True) 0 s0) (hk : ∀ p q : Int32, G RX3 cX3_countNibs 4 (some .int) 3 Q 40 [some (.ref 68), some (.int (cnR v c a 7 s0)), some (.int (nI a)), some (.int (nI 7))] [] (unM v p q) L) : (fun (i : Nat) (w : Int32) => ∀ p q : Int32, G RX3 cX3_countNibs 4 (some .int) 3 Q 12 [some (.ref 68), some (.int w), some (.int (nI a)), some (.int (nI i))] [] (unM v p q) L) 0 s0 := by
  refine g_for 7 (fun b s => if fiF v c (nI a - 3) (nI b - 3) = 0 then s else s + 1) (fun (_ : Nat) (_ : Int32) => True) (fun (i : Nat) (w : Int32) => ∀ p q : Int32, G RX3 cX3_countNibs 4 (some .int) 3 Q 12 [some (.ref 68), some (.int w), some (.int (nI a)), some (.int (nI i))] [] (unM v p q) L) s0 hI0 ?_ (fun hI => ?_) (fun i w hi hI hn => ?_)
  · exact fun _ _ _ h => h
  · intro p q
    show G _ _ _ _ _ _ _ _ _ _ _
    try dsimp only at hI
    refine g_iload3 (pc := 12) dX3_countNibs_12 ?_
    refine g_bipush (pc := 13) (6) dX3_countNibs_13 (by decide) ?_
    refine g_icmp_gt (pc := 15) 40 dX3_countNibs_15 (by decide) (fun zh15 => ?_) (fun zh15 => ?_)
    · skip
      exact hk p q
    · skip
      exact absurd (show (6 : Int32) < nI 7 by decide) zh15
  · intro p q
    show G _ _ _ _ _ _ _ _ _ _ _
    try dsimp only at hI
    try dsimp only at hn
    refine g_iload3 (pc := 12) dX3_countNibs_12 ?_
    refine g_bipush (pc := 13) (6) dX3_countNibs_13 (by decide) ?_
    refine g_icmp_gt (pc := 15) 40 dX3_countNibs_15 (by decide) (fun zh15 => ?_) (fun zh15 => ?_)
    · skip
      exact absurd zh15 (fun z => absurd z (nI_nlt (a := 6) (b := i) (by omega) (by omega)))
    · skip
      first | refine g_aload0 (pc := 18) dX3_countNibs_18 ?_ | refine g_aloadN0 (pc := 18) dX3_countNibs_18 ?_
      refine g_iload2 (pc := 19) dX3_countNibs_19 ?_
      refine g_iconst (pc := 20) (3) dX3_countNibs_20 (by decide) ?_
      refine g_isub (pc := 21) dX3_countNibs_21 ?_
      refine g_iload3 (pc := 22) dX3_countNibs_22 ?_
      refine g_iconst (pc := 23) (3) dX3_countNibs_23 (by decide) ?_
      refine g_isub (pc := 24) dX3_countNibs_24 ?_
      refine g_fV2 (pc := 25) (c_X3_fits (c := c) (by rw [unM_n (by decide)]; exact hc) hc6) cf3 (by first | rfl | assumption) dX3_countNibs_25 cw_RX3_29 (by decide) (Nat.le_of_ble_eq_true rfl) ?_
      rw [fiF_un]
      have em : ∃ p2 q2 : Int32, (if nI a - 3 = 0 ∧ nI i - 3 = 0 then unM v p q else unM (unM v p q) (nI a - 3) (nI i - 3)) = unM v p2 q2 := by
        split
        · exact ⟨p, q, rfl⟩
        · exact ⟨_, _, unM_un⟩
      obtain ⟨p2, q2, em⟩ := em
      rw [em]
      refine g_if_eq (pc := 28) 34 dX3_countNibs_28 (by decide) (fun zh28 => ?_) (fun zh28 => ?_)
      · skip
        refine g_iinc3 (pc := 34) (nI (i + 1)) dX3_countNibs_34 (nI_succ' i) (by decide) (by first | rfl | assumption) ?_
        refine g_goto (pc := 37) 12 dX3_countNibs_37 (by decide) ?_
        have hn2 := hn p2 q2
        first | (rw [if_pos zh28] at hn2; exact hn2) | (rw [if_neg zh28] at hn2; exact hn2)
      · skip
        refine g_iinc1 (pc := 31) (w + 1) dX3_countNibs_31 (rfl) (by decide) (by first | rfl | assumption) ?_
        refine g_iinc3 (pc := 34) (nI (i + 1)) dX3_countNibs_34 (nI_succ' i) (by decide) (by first | rfl | assumption) ?_
        refine g_goto (pc := 37) 12 dX3_countNibs_37 (by decide) ?_
        have hn2 := hn p2 q2
        first | (rw [if_pos zh28] at hn2; exact hn2) | (rw [if_neg zh28] at hn2; exact hn2)
theorem lp_X3_countNibs_a {c : Nat} {v : Mm} {L : Lm} (hc : v 68 3 = nI c) (hc6 : c ≤ 6) (hI0 : (fun (_ : Nat) (_ : Int32) => True) 0 (0 : Int32)) : (fun (i : Nat) (w : Int32) => ∀ (p q : Int32) (o3 : Option Value), G RX3 cX3_countNibs 4 (some .int) 3 (fun a b K => ∃ x : Int32, a = some (.int x) ∧ (x = cnF v c ∧ (∃ p q : Int32, b = unM v p q) ∧ K = L)) 4 [some (.ref 68), some (.int w), some (.int (nI i)), o3] [] (unM v p q) L) 0 (0 : Int32) := by
  refine g_for 7 (fun a s => cnR v c a 7 s) (fun (_ : Nat) (_ : Int32) => True) (fun (i : Nat) (w : Int32) => ∀ (p q : Int32) (o3 : Option Value), G RX3 cX3_countNibs 4 (some .int) 3 (fun a b K => ∃ x : Int32, a = some (.int x) ∧ (x = cnF v c ∧ (∃ p q : Int32, b = unM v p q) ∧ K = L)) 4 [some (.ref 68), some (.int w), some (.int (nI i)), o3] [] (unM v p q) L) (0 : Int32) hI0 ?_ (fun hI => ?_) (fun i w hi hI hn => ?_)
  · exact fun _ _ _ h => h
  · intro p q o3
    show G _ _ _ _ _ _ _ _ _ _ _
    try dsimp only at hI
    refine g_iload2 (pc := 4) dX3_countNibs_4 ?_
    refine g_bipush (pc := 5) (6) dX3_countNibs_5 (by decide) ?_
    refine g_icmp_gt (pc := 7) 46 dX3_countNibs_7 (by decide) (fun zh7 => ?_) (fun zh7 => ?_)
    · skip
      refine g_iload1 (pc := 46) dX3_countNibs_46 ?_
      refine g_iret (pc := 47) dX3_countNibs_47 rfl ?_
      exact ⟨_, rfl, rfl, ⟨p, q, rfl⟩, rfl⟩
    · skip
      exact absurd (show (6 : Int32) < nI 7 by decide) zh7
  · intro p q o3
    show G _ _ _ _ _ _ _ _ _ _ _
    try dsimp only at hI
    try dsimp only at hn
    refine g_iload2 (pc := 4) dX3_countNibs_4 ?_
    refine g_bipush (pc := 5) (6) dX3_countNibs_5 (by decide) ?_
    refine g_icmp_gt (pc := 7) 46 dX3_countNibs_7 (by decide) (fun zh7 => ?_) (fun zh7 => ?_)
    · skip
      exact absurd zh7 (nI_nlt (a := 6) (b := i) (by omega) (by omega))
    · skip
      refine g_iconst (pc := 10) (0) dX3_countNibs_10 (by decide) ?_
      refine g_istore3 (pc := 11) dX3_countNibs_11 (by decide) (by first | rfl | assumption) ?_
      refine lp_X3_countNibs_b hc hc6 hi trivial (fun p2 q2 => ?_) p q
      refine g_iinc2 (pc := 40) (nI (i + 1)) dX3_countNibs_40 (nI_succ' i) (by decide) rfl ?_
      refine g_goto (pc := 43) 4 dX3_countNibs_43 (by decide) ?_
      exact hn p2 q2 _
theorem c_X3_countNibs {c : Nat} {v : Mm} {L : Lm} (hc : v 68 3 = nI c) (hc6 : c ≤ 6) : Fi yX3_countNibs cX3_countNibs 4 (some .int) 3 [.ref 68] v L (fun x b K => x = cnF v c ∧ (∃ p q : Int32, b = unM v p q) ∧ K = L) := by
  refine Fq.of (plainFor_of_name (by decide)) [some (.ref 68), none, none, none] rfl (Nat.le_of_ble_eq_true rfl) ?_
  refine g_iconst (pc := 0) (0) dX3_countNibs_0 (by decide) ?_
  refine g_istore1 (pc := 1) dX3_countNibs_1 (by decide) (by first | rfl | assumption) ?_
  refine g_iconst (pc := 2) (0) dX3_countNibs_2 (by decide) ?_
  refine g_istore2 (pc := 3) dX3_countNibs_3 (by decide) (by first | rfl | assumption) ?_
  have e := lp_X3_countNibs_a (L := L) hc hc6 trivial (v 71 2) (v 71 3) none
  rw [unM_self] at e
  exact e
theorem lp_X3_firstNib_b {c a : Nat} {v : Mm} {L : Lm} {Q : Qt} (hc : v 68 3 = nI c) (hc6 : c ≤ 6) (ha : a < 7) (hr : ∀ (p q : Int32) (r : Int32), fnB v c a 7 0 = some r → Q (some (.int r)) (unM v p q) L) (hk : fnB v c a 7 0 = none → ∀ p q : Int32, G RX3 cX3_firstNib 3 (some .int) 3 Q 42 [some (.ref 68), some (.int (nI a)), some (.int (nI 7))] [] (unM v p q) L) : ∀ (m : Nat) (i : Nat) (p q : Int32), i + m = 7 → fnB v c a m i = fnB v c a 7 0 → G RX3 cX3_firstNib 3 (some .int) 3 Q 10 [some (.ref 68), some (.int (nI a)), some (.int (nI i))] [] (unM v p q) L := by
  intro m
  induction m with
  | zero =>
    intro i p q hi he
    refine g_iload2 (pc := 10) dX3_firstNib_10 ?_
    refine g_bipush (pc := 11) (6) dX3_firstNib_11 (by decide) ?_
    refine g_icmp_gt (pc := 13) 42 dX3_firstNib_13 (by decide) (fun zh13 => ?_) (fun zh13 => ?_)
    · skip
      rw [show i = 7 by omega]
      exact hk (he.symm) p q
    · skip
      exact absurd (show (6 : Int32) < nI i by rw [show i = 7 by omega]; decide) zh13
  | succ m ih =>
    intro i p q hi he
    refine g_iload2 (pc := 10) dX3_firstNib_10 ?_
    refine g_bipush (pc := 11) (6) dX3_firstNib_11 (by decide) ?_
    refine g_icmp_gt (pc := 13) 42 dX3_firstNib_13 (by decide) (fun zh13 => ?_) (fun zh13 => ?_)
    · skip
      exact absurd zh13 (nI_nlt (a := 6) (b := i) (by omega) (by omega))
    · skip
      first | refine g_aload0 (pc := 16) dX3_firstNib_16 ?_ | refine g_aloadN0 (pc := 16) dX3_firstNib_16 ?_
      refine g_iload1 (pc := 17) dX3_firstNib_17 ?_
      refine g_iconst (pc := 18) (3) dX3_firstNib_18 (by decide) ?_
      refine g_isub (pc := 19) dX3_firstNib_19 ?_
      refine g_iload2 (pc := 20) dX3_firstNib_20 ?_
      refine g_iconst (pc := 21) (3) dX3_firstNib_21 (by decide) ?_
      refine g_isub (pc := 22) dX3_firstNib_22 ?_
      refine g_fV2 (pc := 23) (c_X3_fits (c := c) (by rw [unM_n (by decide)]; exact hc) hc6) cf3 (by first | rfl | assumption) dX3_firstNib_23 cw_RX3_29 (by decide) (Nat.le_of_ble_eq_true rfl) ?_
      rw [fiF_un]
      have em : ∃ p2 q2 : Int32, (if nI a - 3 = 0 ∧ nI i - 3 = 0 then unM v p q else unM (unM v p q) (nI a - 3) (nI i - 3)) = unM v p2 q2 := by
        split
        · exact ⟨p, q, rfl⟩
        · exact ⟨_, _, unM_un⟩
      obtain ⟨p2, q2, em⟩ := em
      rw [em]
      refine g_if_eq (pc := 26) 36 dX3_firstNib_26 (by decide) (fun zh26 => ?_) (fun zh26 => ?_)
      · skip
        refine g_iinc2 (pc := 36) (nI (i + 1)) dX3_firstNib_36 (nI_succ' i) (by decide) (by first | rfl | assumption) ?_
        refine g_goto (pc := 39) 10 dX3_firstNib_39 (by decide) ?_
        exact ih (i + 1) p2 q2 (by omega) ((if_pos zh26).symm.trans he)
      · skip
        refine g_bipush (pc := 29) (10) dX3_firstNib_29 (by decide) ?_
        refine g_iload1 (pc := 31) dX3_firstNib_31 ?_
        refine g_imul (pc := 32) dX3_firstNib_32 ?_
        refine g_iload2 (pc := 33) dX3_firstNib_33 ?_
        refine g_iadd (pc := 34) dX3_firstNib_34 ?_
        refine g_iret (pc := 35) dX3_firstNib_35 rfl ?_
        exact hr p2 q2 _ (he.symm.trans (if_neg zh26))
theorem lp_X3_firstNib_a {c : Nat} {v : Mm} {L : Lm} (hc : v 68 3 = nI c) (hc6 : c ≤ 6) : ∀ (m : Nat) (i : Nat) (p q : Int32) (o2 : Option Value), i + m = 7 → G RX3 cX3_firstNib 3 (some .int) 3 (fun a b K => ∃ x : Int32, a = some (.int x) ∧ (x = fnA v c m i ∧ (∃ p q : Int32, b = unM v p q) ∧ K = L)) 2 [some (.ref 68), some (.int (nI i)), o2] [] (unM v p q) L := by
  intro m
  induction m with
  | zero =>
    intro i p q o2 hi
    refine g_iload1 (pc := 2) dX3_firstNib_2 ?_
    refine g_bipush (pc := 3) (6) dX3_firstNib_3 (by decide) ?_
    refine g_icmp_gt (pc := 5) 48 dX3_firstNib_5 (by decide) (fun zh5 => ?_) (fun zh5 => ?_)
    · skip
      refine g_bipush (pc := 48) (-9) dX3_firstNib_48 (by decide) ?_
      refine g_iret (pc := 50) dX3_firstNib_50 rfl ?_
      exact ⟨_, rfl, rfl, ⟨p, q, rfl⟩, rfl⟩
    · skip
      exact absurd (show (6 : Int32) < nI i by rw [show i = 7 by omega]; decide) zh5
  | succ m ih =>
    intro i p q o2 hi
    refine g_iload1 (pc := 2) dX3_firstNib_2 ?_
    refine g_bipush (pc := 3) (6) dX3_firstNib_3 (by decide) ?_
    refine g_icmp_gt (pc := 5) 48 dX3_firstNib_5 (by decide) (fun zh5 => ?_) (fun zh5 => ?_)
    · skip
      exact absurd zh5 (nI_nlt (a := 6) (b := i) (by omega) (by omega))
    · skip
      refine g_iconst (pc := 8) (0) dX3_firstNib_8 (by decide) ?_
      refine g_istore2 (pc := 9) dX3_firstNib_9 (by decide) (by first | rfl | assumption) ?_
      refine lp_X3_firstNib_b hc hc6 (show i < 7 by omega) ?c1 ?c2 7 0 p q rfl rfl
      case c1 =>
        intro p2 q2 r2 hr2
        refine ⟨r2, rfl, ?_, ⟨p2, q2, rfl⟩, rfl⟩
        show r2 = match fnB v c i 7 0 with
          | some r3 => r3
          | none => fnA v c m (i + 1)
        rw [hr2]
      case c2 =>
        intro hn2 p2 q2
        refine g_iinc1 (pc := 42) (nI (i + 1)) dX3_firstNib_42 (nI_succ' i) (by decide) rfl ?_
        refine g_goto (pc := 45) 2 dX3_firstNib_45 (by decide) ?_
        have ee : fnA v c (m + 1) i = fnA v c m (i + 1) := by
          show (match fnB v c i 7 0 with
            | some r3 => r3
            | none => fnA v c m (i + 1)) = _
          rw [hn2]
        rw [ee]
        exact ih (i + 1) p2 q2 _ (by omega)
theorem c_X3_firstNib {c : Nat} {v : Mm} {L : Lm} (hc : v 68 3 = nI c) (hc6 : c ≤ 6) : Fi yX3_firstNib cX3_firstNib 3 (some .int) 3 [.ref 68] v L (fun x b K => x = fnA v c 7 0 ∧ (∃ p q : Int32, b = unM v p q) ∧ K = L) := by
  refine Fq.of (plainFor_of_name (by decide)) [some (.ref 68), none, none] rfl (Nat.le_of_ble_eq_true rfl) ?_
  refine g_iconst (pc := 0) (0) dX3_firstNib_0 (by decide) ?_
  refine g_istore1 (pc := 1) dX3_firstNib_1 (by decide) (by first | rfl | assumption) ?_
  have e := lp_X3_firstNib_a (L := L) hc hc6 7 0 (v 71 2) (v 71 3) none rfl
  rw [unM_self] at e
  exact e
