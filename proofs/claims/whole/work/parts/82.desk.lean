/-! the desk, as both lay it out -/
def stS (R4 : Nat → Int32) (s : Nat) : Nat → Int32 := itr (fun k f => uf f (R4 (2 * k)).toNatClampNeg (R4 (2 * k + 1))) s (fun _ => 0)
def DP (w : Mm) (R3 : Nat → Int32) (q : Nat) : Prop := w (8 + q) 0 = R3 (5 * q) ∧ w (8 + q) 1 = R3 (5 * q + 1) ∧ w (8 + q) 2 = R3 (5 * q + 2) - 3 ∧ w (8 + q) 3 = R3 (5 * q + 3) - 3 ∧ w (8 + q) 4 = 5 * R3 (5 * q + 4) ∧ w (8 + q) 5 = 5 * R3 (5 * q + 4) ∧ w (8 + q) 6 = 1
def DR (w : Mm) (p : Nat) (R3 : Nat → Int32) (s : Nat) (R4 : Nat → Int32) : Prop := w 5 2 = nI p ∧ w 5 3 = 0 ∧ (∀ j, j < 25 → w 7 j = stS R4 s j) ∧ ∀ q, q < p → DP w R3 q
theorem stS_0 (R : Nat → Int32) : stS R 0 = fun _ => 0 := rfl
theorem stS_cong {R R' : Nat → Int32} : ∀ s, (∀ j, j < 2 * s → R j = R' j) → stS R s = stS R' s
  | 0, _ => (stS_0 R).trans (stS_0 R').symm
  | s + 1, h => by
    have ih := stS_cong s (fun j hj => h j (by omega))
    show uf (stS R s) (R (2 * s)).toNatClampNeg (R (2 * s + 1)) = uf (stS R' s) (R' (2 * s)).toNatClampNeg (R' (2 * s + 1))
    rw [ih, h _ (by omega), h _ (by omega)]
theorem fgp {v w : Mm} {len pl j : Nat} (hT : Txt v len) (h1 : w 1 1 = v 1 1) (h2 : w 2 = v 2) (hj : pl + j < len) : fgF w (nI pl + nI j) = v 85 (pl + j) - 48 := by
  rw [fg_away h1 h2, nI_add, hT.fg hj]
theorem lp_dr {v w : Mm} {len pl p s : Nat} {R3 R4 : Nat → Int32} (hT : Txt v len) (h1 : w 1 1 = v 1 1) (h2 : w 2 = v 2) (hl : pl + 7 ≤ len) (hp : p < 4) (h : DR w p R3 s R4) : DR (lpM w 5 p (nI pl)) (p + 1) (pnR v pl p R3) s R4 := by
  obtain ⟨d1, d2, d3, d4⟩ := h
  have e1 := fgp (pl := pl) (j := 1) hT h1 h2 (by omega)
  have e2 := fgp (pl := pl) (j := 2) hT h1 h2 (by omega)
  have e3 := fgp (pl := pl) (j := 3) hT h1 h2 (by omega)
  have e4 := fgp (pl := pl) (j := 4) hT h1 h2 (by omega)
  have e5 := fgp (pl := pl) (j := 5) hT h1 h2 (by omega)
  have e6 := fgp (pl := pl) (j := 6) hT h1 h2 (by omega)
  refine ⟨lpM_S2 w 5 p (nI pl), ?_, fun j hj => ?_, fun q hq => ?_⟩
  · unfold lpM
    rw [u2_n (by omega), u2_n (by omega), u2_n (by omega), u2_n (by omega), u2_n (by omega), u2_n (by omega), u2_n (by omega), u2_n (by omega)]
    exact d2
  · rw [lpM_away (by decide) (by omega)]; exact d3 j hj
  · by_cases c : q = p
    · subst c
      unfold DP lpM
      rw [show 5 + 3 + q = 8 + q by omega]
      refine ⟨?_, ?_, ?_, ?_, ?_, ?_, ?_⟩
      · rw [u2_n (by omega), u2_n (by omega), u2_n (by omega), u2_n (by omega), u2_n (by omega), u2_n (by omega), u2_s]
        unfold pnR
        rw [uf_n (by omega), uf_n (by omega), uf_n (by omega), uf_n (by omega), uf_s]
        show 5 * fgF w (nI pl + nI 2) + fgF w (nI pl + nI 1) = _
        rw [e1, e2]
      · rw [u2_n (by omega), u2_n (by omega), u2_n (by omega), u2_n (by omega), u2_n (by omega), u2_s]
        unfold pnR
        rw [uf_n (by omega), uf_n (by omega), uf_n (by omega), uf_s]
        exact e3
      · rw [u2_n (by omega), u2_n (by omega), u2_n (by omega), u2_n (by omega), u2_s]
        unfold pnR
        rw [uf_n (by omega), uf_n (by omega), uf_s]
        show fgF w (nI pl + nI 4) - 3 = _
        rw [e4]
      · rw [u2_n (by omega), u2_n (by omega), u2_n (by omega), u2_s]
        unfold pnR
        rw [uf_n (by omega), uf_s]
        show fgF w (nI pl + nI 5) - 3 = _
        rw [e5]
      · rw [u2_n (by omega), u2_s]
        unfold pnR
        rw [uf_s]
        show 5 * fgF w (nI pl + nI 6) = _
        rw [e6]
      · rw [u2_n (by omega), u2_n (by omega), u2_s]
        unfold pnR
        rw [uf_s]
        show 5 * fgF w (nI pl + nI 6) = _
        rw [e6]
      · rw [u2_s]
    · obtain ⟨a0, a1, a2, a3, a4, a5, a6⟩ := d4 q (by omega)
      have hw : ∀ j, lpM w 5 p (nI pl) (8 + q) j = w (8 + q) j := fun j => lpM_away (by omega) (by omega)
      have hr : ∀ j, j < 5 → pnR v pl p R3 (5 * q + j) = R3 (5 * q + j) := fun j hj => pnR_n (by omega)
      have h0 := hr 0 (by decide)
      rw [Nat.add_zero] at h0
      refine ⟨?_, ?_, ?_, ?_, ?_, ?_, ?_⟩
      · rw [hw, h0]; exact a0
      · rw [hw, hr 1 (by decide)]; exact a1
      · rw [hw, hr 2 (by decide)]; exact a2
      · rw [hw, hr 3 (by decide)]; exact a3
      · rw [hw, hr 4 (by decide)]; exact a4
      · rw [hw, hr 4 (by decide)]; exact a5
      · rw [hw]; exact a6
theorem sl_dr {v w : Mm} {len pl p s : Nat} {R3 R4 : Nat → Int32} (hT : Txt v len) (h1 : w 1 1 = v 1 1) (h2 : w 2 = v 2) (hl : pl + 4 ≤ len) (hp : p ≤ 4) (f1 : Fig v (pl + 1) 4) (f2 : Fig v (pl + 2) 4) (h : DR w p R3 s R4) : DR (slM w 5 (nI pl)) p R3 (s + 1) (snR v pl s R4) := by
  obtain ⟨d1, d2, d3, d4⟩ := h
  have e1 := fgp (pl := pl) (j := 1) hT h1 h2 (by omega)
  have e2 := fgp (pl := pl) (j := 2) hT h1 h2 (by omega)
  have e3 := fgp (pl := pl) (j := 3) hT h1 h2 (by omega)
  obtain ⟨d, hd, ed⟩ := dot_of f1 f2
  have hds : 5 * fgF w (nI pl + 2) + fgF w (nI pl + 1) = nI d := by
    show 5 * fgF w (nI pl + nI 2) + fgF w (nI pl + nI 1) = nI d
    rw [e1, e2, ed]
  have hs : slM w 5 (nI pl) = upd2 w 7 d (v 85 (pl + 3) - 48) := by
    unfold slM stM
    rw [hds, if_pos (of_d25 hd), nI_clamp (by omega)]
    show upd2 w 7 d (fgF w (nI pl + nI 3)) = _
    rw [e3]
  rw [hs]
  refine ⟨by rw [u2_n (by omega)]; exact d1, by rw [u2_n (by omega)]; exact d2, fun j hj => ?_, fun q hq => ?_⟩
  · have es : stS (snR v pl s R4) (s + 1) = uf (stS R4 s) d (v 85 (pl + 3) - 48) := by
      show uf (stS (snR v pl s R4) s) (snR v pl s R4 (2 * s)).toNatClampNeg (snR v pl s R4 (2 * s + 1)) = _
      rw [stS_cong s (fun j hj => snR_n (R := R4) (by omega))]
      have g1 : snR v pl s R4 (2 * s) = nI d := by unfold snR; rw [uf_n (by omega), uf_s, ed]
      have g2 : snR v pl s R4 (2 * s + 1) = v 85 (pl + 3) - 48 := by unfold snR; rw [uf_s]
      rw [g1, g2, nI_clamp (by omega)]
    rw [es]
    by_cases c : j = d
    · subst c; rw [u2_s, uf_s]
    · rw [u2_n (by omega), uf_n c]; exact d3 j hj
  · obtain ⟨a0, a1, a2, a3, a4, a5, a6⟩ := d4 q hq
    have hw : ∀ j, upd2 w 7 d (v 85 (pl + 3) - 48) (8 + q) j = w (8 + q) j := fun j => u2_n (by omega)
    exact ⟨(hw 0).trans a0, (hw 1).trans a1, (hw 2).trans a2, (hw 3).trans a3, (hw 4).trans a4, (hw 5).trans a5, (hw 6).trans a6⟩
theorem gst_of {v : Mm} {pl : Nat} : GSt v (upd2 (upd2 v 79 10 (nI pl)) 79 11 (-9)) pl := ⟨((Agr.rf v).up (Or.inr (Or.inr ⟨rfl, by omega⟩))).up (Or.inr (Or.inr ⟨rfl, by omega⟩)), by rw [u2_n (by decide), u2_s], u2_s⟩
theorem lo_dr {v : Mm} {len : Nat} (hT : Txt v len) : ∀ {m p s pl : Nat} {w : Mm} {R3 R4 : Nat → Int32}, w 1 1 = v 1 1 → w 2 = v 2 → ffF v len m p s pl = -9 → p ≤ 4 → s ≤ 4 → DR w p R3 s R4 → DR (loM 5 len m p pl w) (rdR v len m p s pl R3 R4).1 (rdR v len m p s pl R3 R4).2.2.1 (rdR v len m p s pl R3 R4).2.1 (rdR v len m p s pl R3 R4).2.2.2 ∧ ∀ k j, (k < 5 ∨ k = 6 ∨ 12 ≤ k) → loM 5 len m p pl w k j = w k j := by
  intro m
  induction m with
  | zero => intro p s pl w R3 R4 _ _ _ _ _ h; exact ⟨h, fun _ _ _ => rfl⟩
  | succ m ih =>
    intro p s pl w R3 R4 h1 h2 hf hp hs h
    unfold ffF at hf
    unfold loM rdR
    rw [h2]
    by_cases c : pl < len
    · rw [if_pos c] at hf ⊢
      rw [if_pos c]
      have h85 : v 2 = v 85 := hT.2.2.2
      by_cases c80 : v 2 pl = 80
      · rw [if_pos c80, if_pos c80]
        by_cases p4 : p < 4
        · rw [if_pos ⟨c80, p4⟩] at hf
          have hf2 := ff_on1 hf
          rcases rd_pen (p := p) hT (gst_of (v := v) (pl := pl)) c (by rw [← h85]; exact c80) with ⟨x1, x2, -⟩ | ⟨f, x1, x2⟩
          · have g := ih (w := lpM w 5 p (nI pl)) (R3 := pnR v pl p R3) (R4 := R4) (by rw [lpM_away (by decide) (by omega)]; exact h1) (by rw [← h2]; funext j; exact lpM_away (by decide) (by omega)) hf2 (by omega) hs (lp_dr hT h1 h2 x2 p4 h)
            exact ⟨g.1, fun k j hk => by rw [g.2 k j hk, lpM_away (by omega) (by omega)]⟩
          · exfalso
            rw [x1, if_neg (nI_ne9 (by have := x2.2.2; omega))] at hf
            exact nI_ne9 (by have := x2.2.2; omega) hf
        · rw [if_neg (fun q => p4 q.2), if_neg (fun q => absurd (c80.symm.trans q.1) (by decide))] at hf
          exact absurd hf (nI_ne9 (by have := hT.2.1; omega))
      · rw [if_neg c80, if_neg c80]
        rw [if_neg (fun q => c80 q.1)] at hf
        by_cases c83 : v 2 pl = 83 ∧ s < 4
        · rw [if_pos c83] at hf
          have hf2 := ff_on2 hf
          rcases rd_stain (s := s) hT (gst_of (v := v) (pl := pl)) c (by rw [← h85]; exact c83.1) with ⟨x1, x2, -, -, -, -, -, f1, f2, f3⟩ | ⟨f, x1, x2⟩
          · have away : ∀ k j, k ≠ 7 → slM w 5 (nI pl) k j = w k j := fun k j hk => stM_away hk
            have g := ih (w := slM w 5 (nI pl)) (R3 := R3) (R4 := snR v pl s R4) (by rw [away 1 1 (by decide)]; exact h1) (by rw [← h2]; funext j; exact away 2 j (by decide)) hf2 hp (by omega) (sl_dr hT h1 h2 x2 hp f1 f2 h)
            exact ⟨g.1, fun k j hk => by rw [g.2 k j hk, away k j (by omega)]⟩
          · exfalso
            rw [x1, if_neg (nI_ne9 (by have := x2.2.2; omega))] at hf
            exact nI_ne9 (by have := x2.2.2; omega) hf
        · rw [if_neg c83] at hf
          exact absurd hf (nI_ne9 (by have := hT.2.1; omega))
    · rw [if_neg c, if_neg c]
      exact ⟨h, fun _ _ _ => rfl⟩
/-! and the other one -/
def DQ (w : Mm) (R3 : Nat → Int32) (q : Nat) : Prop := w 82 q = R3 (5 * q) ∧ w 80 q = R3 (5 * q + 1) ∧ w 82 (4 + q) = R3 (5 * q + 2) - 3 ∧ w 82 (8 + q) = R3 (5 * q + 3) - 3 ∧ w 81 q = 5 * R3 (5 * q + 4) ∧ w 82 (12 + q) = 5 * R3 (5 * q + 4)
theorem dkP_dq {w : Mm} : ∀ n, n ≤ 4 → (∀ q, q < n → DQ (itr dkP n w) (w 83) q) ∧ (∀ j, 16 ≤ j → itr dkP n w 82 j = w 82 j) ∧ ∀ k j, k ≠ 80 → k ≠ 81 → k ≠ 82 → itr dkP n w k j = w k j
  | 0, _ => ⟨fun q hq => absurd hq (Nat.not_lt_zero q), fun _ _ => rfl, fun _ _ _ _ _ => rfl⟩
  | n + 1, hn => by
    obtain ⟨i1, i2, i3⟩ := dkP_dq (w := w) n (by omega)
    rw [itr_s]
    generalize itr dkP n w = x at *
    have h83 : x 83 = w 83 := funext fun j => i3 83 j (by decide) (by decide) (by decide)
    refine ⟨fun q hq => ?_, fun j hj => ?_, fun k j k0 k1 k2 => by rw [dkP_n k0 k1 k2]; exact i3 k j k0 k1 k2⟩
    · by_cases c : q = n
      · subst c
        unfold DQ dkP
        try dsimp only
        refine ⟨?_, ?_, ?_, ?_, ?_, ?_⟩
        · rw [u2_n (by omega), u2_n (by omega), u2_n (by omega), u2_n (by omega), u2_n (by omega), u2_s, h83]
        · rw [u2_n (by omega), u2_n (by omega), u2_n (by omega), u2_n (by omega), u2_s, u2_n (by omega), h83]
        · rw [u2_n (by omega), u2_n (by omega), u2_n (by omega), u2_s, u2_n (by omega), u2_n (by omega), h83]
        · rw [u2_n (by omega), u2_n (by omega), u2_s, u2_n (by omega), u2_n (by omega), u2_n (by omega), h83]
        · rw [u2_n (by omega), u2_s, u2_n (by omega), u2_n (by omega), u2_n (by omega), u2_n (by omega), h83]
        · rw [u2_s, u2_s, u2_n (by omega), u2_n (by omega), u2_n (by omega), u2_n (by omega), h83]
      · obtain ⟨a0, a1, a2, a3, a4, a5⟩ := i1 q (by omega)
        have k80 : dkP n x 80 q = x 80 q := by
          unfold dkP
          try dsimp only
          rw [u2_n (by omega), u2_n (by omega), u2_n (by omega), u2_n (by omega), u2_n (by omega), u2_n (by omega)]
        have k81 : dkP n x 81 q = x 81 q := by
          unfold dkP
          try dsimp only
          rw [u2_n (by omega), u2_n (by omega), u2_n (by omega), u2_n (by omega), u2_n (by omega), u2_n (by omega)]
        have k82 : ∀ j, j ≠ n → j ≠ 4 + n → j ≠ 8 + n → j ≠ 12 + n → dkP n x 82 j = x 82 j := by
          intro j j1 j2 j3 j4
          unfold dkP
          try dsimp only
          rw [u2_n (by omega), u2_n (by omega), u2_n (by omega), u2_n (by omega), u2_n (by omega), u2_n (by omega)]
        refine ⟨?_, ?_, ?_, ?_, ?_, ?_⟩
        · rw [k82 q c (by omega) (by omega) (by omega)]; exact a0
        · rw [k80]; exact a1
        · rw [k82 _ (by omega) (by omega) (by omega) (by omega)]; exact a2
        · rw [k82 _ (by omega) (by omega) (by omega) (by omega)]; exact a3
        · rw [k81]; exact a4
        · rw [k82 _ (by omega) (by omega) (by omega) (by omega)]; exact a5
    · unfold dkP
      try dsimp only
      rw [u2_n (by omega), u2_n (by omega), u2_n (by omega), u2_n (by omega), u2_n (by omega), u2_n (by omega)]
      exact i2 j hj
theorem dkS_at {w : Mm} {s : Nat} (hR : ∀ q, q < s → RowS (w 84) q) (h0 : ∀ j, j < 25 → w 82 (18 + j) = 0) : ∀ m, m ≤ s → (∀ j, j < 25 → itr dkS m w 82 (18 + j) = stS (w 84) m j) ∧ (∀ j, j < 18 → itr dkS m w 82 j = w 82 j) ∧ ∀ k j, k ≠ 82 → itr dkS m w k j = w k j
  | 0, _ => ⟨h0, fun _ _ => rfl, fun _ _ _ => rfl⟩
  | m + 1, hm => by
    obtain ⟨i1, i2, i3⟩ := dkS_at hR h0 m (by omega)
    rw [itr_s]
    generalize itr dkS m w = x at *
    have h84 : x 84 = w 84 := funext fun j => i3 84 j (by decide)
    obtain ⟨d, t, hd, ht, ed, et⟩ := hR m (by omega)
    have e1 : dkS m x = upd2 x 82 (18 + d) (nI t) := by
      unfold dkS
      rw [h84, ed, et, nI_clamp (by omega)]
    rw [e1]
    refine ⟨fun j hj => ?_, fun j hj => by rw [u2_n (by omega)]; exact i2 j hj, fun k j hk => by rw [u2_n (fun q => hk q.1)]; exact i3 k j hk⟩
    show _ = uf (stS (w 84) m) (w 84 (2 * m)).toNatClampNeg (w 84 (2 * m + 1)) j
    rw [ed, et, nI_clamp (by omega)]
    by_cases c : j = d
    · subst c; rw [u2_s, uf_s]
    · rw [u2_n (by omega), uf_n c]; exact i1 j hj
theorem stS_ok {R : Nat → Int32} : ∀ s, (∀ q, q < s → RowS R q) → ∀ j, ∃ x : Nat, x ≤ 99 ∧ stS R s j = nI x
  | 0, _, _ => ⟨0, by decide, rfl⟩
  | s + 1, h, j => by
    obtain ⟨d, t, hd, ht, ed, et⟩ := h s (by omega)
    show ∃ x : Nat, x ≤ 99 ∧ uf (stS R s) (R (2 * s)).toNatClampNeg (R (2 * s + 1)) j = nI x
    by_cases c : j = (R (2 * s)).toNatClampNeg
    · rw [c, uf_s, et]; exact ⟨t, by omega, rfl⟩
    · rw [uf_n c]; exact stS_ok s (fun q hq => h q (by omega)) j
theorem bt_full : ∀ n, n ≤ 4 → ∀ p, p < n → ((nI (2 ^ n) - 1) >>> (nI p &&& 31)) &&& 1 = 1 := by decide +kernel
theorem dk1_82 {w : Mm} : ∀ n j, j < n → itr (fun k w => upd2 w 82 k 0) n w 82 j = 0
  | 0, j, h => absurd h (Nat.not_lt_zero j)
  | n + 1, j, h => by
    rw [itr_s]
    by_cases c : j = n
    · subst c; rw [u2_s]
    · rw [u2_n (fun q => c q.2)]; exact dk1_82 n j (by omega)
/-- the reference's desk: what stands where -/
theorem dk_at {b : Mm} {n s : Nat} (hn : n ≤ 4) (hs : s ≤ 4) (hR : ∀ q, q < s → RowS (b 84) q) : (∀ q, q < n → DQ (dkM b n s) (b 83) q) ∧ dkM b n s 82 16 = nI (2 ^ n) - 1 ∧ dkM b n s 82 17 = 0 ∧ (∀ j, j < 25 → dkM b n s 82 (18 + j) = stS (b 84) s j) ∧ dkM b n s 79 0 = nI n ∧ dkM b n s 79 15 = 0 ∧ dkM b n s 91 0 = 0 ∧ dkM b n s 91 1 = 0 ∧ ∀ k j, k ≠ 80 → k ≠ 81 → k ≠ 82 → ¬ (k = 79 ∧ (j = 0 ∨ j = 15)) → ¬ (k = 91 ∧ (j = 0 ∨ j = 1)) → dkM b n s k j = b k j := by
  have z0 : ∀ j, j < 43 → dk1 (upd2 b 79 0 (nI n)) 82 j = 0 := fun j hj => dk1_82 43 j hj
  have za : ∀ k j, k ≠ 82 → dk1 (upd2 b 79 0 (nI n)) k j = upd2 b 79 0 (nI n) k j := fun k j hk => dk1_n hk
  obtain ⟨p1, p2, p3⟩ := dkP_dq (w := dk1 (upd2 b 79 0 (nI n))) n hn
  have e83 : dk1 (upd2 b 79 0 (nI n)) 83 = b 83 := funext fun j => by rw [za 83 j (by decide), u2_n (by omega)]
  rw [e83] at p1
  generalize eX : itr dkP n (dk1 (upd2 b 79 0 (nI n))) = X at *
  have e84 : X 84 = b 84 := funext fun j => by rw [p3 84 j (by decide) (by decide) (by decide), za 84 j (by decide), u2_n (by omega)]
  obtain ⟨q1, q2, q3⟩ := dkS_at (w := X) (s := s) (by rw [e84]; exact hR) (fun j hj => by rw [p2 _ (by omega), z0 _ (by omega)]) s (Nat.le_refl _)
  rw [e84] at q1
  have eM : dkM b n s = dkE (itr dkS s X) n := by unfold dkM; rw [eX]
  generalize eY : itr dkS s X = Y at *
  have kE : ∀ k j, ¬ (k = 82 ∧ j = 16) → ¬ (k = 79 ∧ j = 15) → ¬ (k = 91 ∧ j = 0) → ¬ (k = 91 ∧ j = 1) → dkE Y n k j = Y k j := by
    intro k j a1 a2 a3 a4
    unfold dkE
    rw [u2_n a4, u2_n a3, u2_n a2, u2_n a1]
  rw [eM]
  refine ⟨fun q hq => ?_, ?_, ?_, fun j hj => ?_, ?_, ?_, ?_, ?_, fun k j k0 k1 k2 k3 k4 => ?_⟩
  · obtain ⟨a0, a1, a2, a3, a4, a5⟩ := p1 q hq
    refine ⟨?_, ?_, ?_, ?_, ?_, ?_⟩
    · rw [kE _ _ (by omega) (by omega) (by omega) (by omega), q2 _ (by omega)]; exact a0
    · rw [kE _ _ (by omega) (by omega) (by omega) (by omega), q3 _ _ (by decide)]; exact a1
    · rw [kE _ _ (by omega) (by omega) (by omega) (by omega), q2 _ (by omega)]; exact a2
    · rw [kE _ _ (by omega) (by omega) (by omega) (by omega), q2 _ (by omega)]; exact a3
    · rw [kE _ _ (by omega) (by omega) (by omega) (by omega), q3 _ _ (by decide)]; exact a4
    · rw [kE _ _ (by omega) (by omega) (by omega) (by omega), q2 _ (by omega)]; exact a5
  · unfold dkE
    rw [u2_n (by omega), u2_n (by omega), u2_n (by omega), u2_s]
  · rw [kE _ _ (by omega) (by omega) (by omega) (by omega), q2 _ (by omega), p2 _ (by omega), z0 _ (by omega)]
  · rw [kE _ _ (by omega) (by omega) (by omega) (by omega)]; exact q1 j hj
  · rw [kE _ _ (by omega) (by omega) (by omega) (by omega), q3 _ _ (by decide), p3 _ _ (by decide) (by decide) (by decide), za _ _ (by decide), u2_s]
  · unfold dkE
    rw [u2_n (by omega), u2_n (by omega), u2_s]
  · unfold dkE
    rw [u2_n (by omega), u2_s]
  · unfold dkE
    rw [u2_s]
  · rw [kE _ _ (by omega) (by omega) (by omega) (by omega), q3 _ _ k2, p3 _ _ k0 k1 k2, za _ _ k2, u2_n (by omega)]
theorem desk_SR {b : Mm} {r : Rw} (hR : RowsOk r) (h83 : b 83 = r.2.2.1) (h84 : b 84 = r.2.2.2) (hD : DR b r.1 r.2.2.1 r.2.1 r.2.2.2) : SR (dkM b r.1 r.2.1) 5 (dkM b r.1 r.2.1 80) (dkM b r.1 r.2.1 81) (lvT 0 (dkM b r.1 r.2.1)) r.1 ∧ TOk (dkM b r.1 r.2.1 80) (dkM b r.1 r.2.1 81) (lvT 0 (dkM b r.1 r.2.1)) r.1 := by
  obtain ⟨n, s, R3, R4⟩ := r
  obtain ⟨hn, hs, hP, hS⟩ := hR
  dsimp only at *
  obtain ⟨a1, a2, a3, a4, -, -, -, -, a9⟩ := dk_at (b := b) (n := n) (s := s) hn hs (by rw [h84]; exact hS)
  rw [h83] at a1
  rw [h84] at a4
  obtain ⟨d1, d2, d3, d4⟩ := hD
  generalize dkM b n s = X at *
  have cl : ∀ k j, k < 79 → X k j = b k j := fun k j hk => a9 k j (by omega) (by omega) (by omega) (by omega) (by omega)
  have T : ∀ j, j < 43 → lvT 0 X j = X 82 j := fun j hj => by rw [lvT_at hj, Nat.mul_zero, Nat.zero_add]
  constructor
  · refine ⟨by rw [cl _ _ (by decide)]; exact d1, by rw [cl _ _ (by decide), T _ (by decide), a3]; exact d2, fun j hj => ?_, fun p hp => ?_⟩
    · rw [cl _ _ (by decide), T _ (by omega), a4 j hj]; exact d3 j hj
    · obtain ⟨q0, q1, q2, q3, q4, q5⟩ := a1 p hp
      obtain ⟨c0, c1, c2, c3, c4, c5, c6⟩ := d4 p hp
      have cp : ∀ j, X (5 + 3 + p) j = b (8 + p) j := fun j => by rw [cl _ _ (by omega), show 5 + 3 + p = 8 + p by omega]
      refine ⟨?_, ?_, ?_, ?_, ?_, ?_, ?_⟩
      · rw [cp, T _ (by omega), q0]; exact c0
      · rw [cp, q1]; exact c1
      · rw [cp, T _ (by omega), q2]; exact c2
      · rw [cp, T _ (by omega), q3]; exact c3
      · rw [cp, T _ (by omega), q5]; exact c4
      · rw [cp, q4]; exact c5
      · rw [cp, c6]
        unfold btT
        rw [T _ (by decide), a2]
        exact (bt_full n hn p hp).symm
  · refine ⟨fun p hp => ?_, ⟨2 ^ n - 1, by have := Nat.two_pow_pos n; omega, ?_⟩, fun j hj => ?_⟩
    · obtain ⟨q0, q1, q2, q3, q4, q5⟩ := a1 p hp
      obtain ⟨d, k, a, e, f, z1, z2, z3, z4, z5, z6, z7, z8, z9, z10⟩ := hP p hp
      refine ⟨⟨d, z1, by rw [T _ (by omega), q0, z6]⟩, ⟨k, z2, by rw [q1, z7]⟩, ⟨a, z3, by rw [T _ (by omega), q2, z8]⟩, ⟨e, z4, by rw [T _ (by omega), q3, z9]⟩, 5 * f, 5 * f, Nat.le_refl _, by omega, by rw [T _ (by omega), q5, z10, ix5'], by rw [q4, z10, ix5']⟩
    · rw [T _ (by decide), a2, show (1 : Int32) = nI 1 from rfl, pk_sub (Nat.two_pow_pos n)]
    · rw [T _ (by omega), a4 j hj]
      exact stS_ok s hS j
