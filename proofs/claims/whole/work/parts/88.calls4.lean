/-! shares, rests, chances, years, counts -/
theorem sb_share {v : Mm} {L : Lm} {x y : Int32} (h : R v L) : Sbt yX9_share cX9_share 7 (some .int) 6 yX10_share cX10_share 6 (some .int) 5 [.int x, .int y] v L := by
  obtain ⟨n, w, h3, hw, hM, hC, hWS, hc⟩ := h.q
  have hn := h3.1
  have e0 := h3.2.1
  by_cases hx : 0 ≤ x ∧ x < nI n
  · obtain ⟨p, hp, rfl⟩ := nI_of_in (by omega) hx
    have c9 := c_X9_share_s (L := L) (u := y) hC hp hWS
    obtain ⟨s1, s2⟩ := sh_c h3.2.2.1 h3.2.2.2 hc hp hw.2.2.2.1 (2 ^ n) (Nat.le_refl _)
    have es : (shF v n w p).1 = nI (ssN (v 80) (v 86) (lvT 0 v) n w p (2 ^ n)) := s1
    have hV : Sme v (shF v n w p).2 := sme_of s2
    have h3' := hV.rs h3
    have hw' := hV.rw hw
    have hM' := h3'.m0 hw'
    obtain ⟨r1, r2⟩ := sh_r (u := (shF v n w p).2) (K := v 80) (H := v 81) (W := v 86) (p := p) hM' (by rw [hV.T]; exact h3.2.2.2) hc hp (hV.f (by omega)) (hV.f (by omega)) (2 ^ n) (Nat.le_refl _)
    rw [hV.T] at r1
    have hb := ss_le (p := p) h3.2.2.2 hc hp (2 ^ n) (Nat.le_refl _)
    have h16 := pow4 hn
    obtain ⟨f1, f2, f3, f4⟩ := fc_all n hn
    generalize ssN (v 80) (v 86) (lvT 0 v) n w p (2 ^ n) = S at *
    have c0 := c_X10_share_s (L := L) (y := y) (s := S) (t := (fcF n).toNatClampNeg) hM' hp r1 (by omega) f2 f3 (by omega) r2
    refine Sbt.of c9 c0 ?_ ((h.sme hV).sme r2.sme)
    rw [es, f1, f2, nI_l (by omega), nI_l (by omega), nI_clamp (by omega), tf_n (by omega) f3 (by omega)]
  · exact Sbt.of (c_X9_share_u hC hx) (c_X10_share_u e0 hn hx) rfl h
theorem sb_rests {v : Mm} {L : Lm} {x y z : Int32} (h : R v L) : Sbt yX9_rests cX9_rests 7 (some .int) 6 yX10_rests cX10_rests 7 (some .int) 6 [.int x, .int y, .int z] v L := by
  obtain ⟨n, w, h3, hw, hM, hC, hWS, hc⟩ := h.q
  have hn := h3.1
  have e0 := h3.2.1
  by_cases hx : 0 ≤ x ∧ x < nI n
  · obtain ⟨a, ha, rfl⟩ := nI_of_in (by omega) hx
    by_cases hy : 0 ≤ y ∧ y < nI n
    · obtain ⟨b, hb, rfl⟩ := nI_of_in (by omega) hy
      by_cases hz : ¬ a = b ∧ (0 ≤ z ∧ z ≤ 1)
      · have c9 := c_X9_rests_s (L := L) hC ha hb hWS hz.1 hz.2
        obtain ⟨g1, g2⟩ := rg_c h3.2.2.1 h3.2.2.2 hc ha hb hw.2.2.2.1 4 (Nat.le_refl _)
        have eg : rg4 v n a b w = itr (fun i u => rgM u n a b w i) 4 v := rfl
        rw [← eg] at g1 g2
        generalize rg4 v n a b w = V1 at *
        have hV : Sme v V1 := fun k j hk => g2 k j (by unfold scr at hk; omega)
        have h3' := hV.rs h3
        have hw' := hV.rw hw
        have hM' := h3'.m0 hw'
        obtain ⟨r1, r2, r3⟩ := rests_eq (u := V1) (v := V1) (K := v 80) (H := v 81) (W := v 86) hM' hc ha hb (hV.f (by omega)) (hV.f (by omega)) (by rw [hV.T]; exact h3.2.2.2) (by rw [hV.T]; exact g1)
        have c0 := c_X10_rests_s (L := L) (z := z) hM' ha hb hz.1 hz.2
        refine Sbt.of c9 c0 ?_ ((h.sme hV).sme r3.sme)
        rw [r1, r2]
      · refine Sbt.of (c_X9_rests_o hC ha hb ?_) (c_X10_rests_o e0 hn ha hb hz) rfl h
        by_cases q : a = b
        · exact Or.inl q
        · exact Or.inr (fun r => hz ⟨q, r⟩)
    · exact Sbt.of (c_X9_rests_u2 hC ha hy) (c_X10_rests_u e0 hn (fun q => hy q.2)) rfl h
  · exact Sbt.of (c_X9_rests_u1 hC hx) (c_X10_rests_u e0 hn (fun q => hx q.1)) rfl h
theorem p10_8 : ∀ w, w ≤ 8 → 10 ^ w < 2 ^ 31 ∧ 0 < 10 ^ w := by decide
theorem sb_skipped {v : Mm} {L : Lm} {x y z u : Int32} (h : R v L) : Sbt yX9_skipped cX9_skipped 6 (some .int) 14 yX10_skipped cX10_skipped 10 (some .int) 4 [.int x, .int y, .int z, .int u] v L := by
  obtain ⟨n, w, h3, hw, hM, hC, hWS, hc⟩ := h.q
  have hn := h3.1
  have e0 := h3.2.1
  have hw8 := hw.2.2.1
  by_cases hx : 0 ≤ x ∧ x < nI n
  · obtain ⟨p, hp, rfl⟩ := nI_of_in (by omega) hx
    by_cases hy : (0 ≤ y ∧ y ≤ 99) ∧ (0 ≤ z ∧ z ≤ 10)
    · obtain ⟨E, hE, rfl⟩ := vle (m := 99) (by decide) hy.1
      obtain ⟨X, hX, rfl⟩ := vle (m := 10) (by decide) hy.2
      obtain ⟨⟨d, hd, ed⟩, hk, hsa, hsb, l, hh, l1, l2, l3, l4⟩ := h3.2.2.2.1 p hp
      obtain ⟨a0, a1, a2, a3, a4, a5, a6⟩ := h3.2.2.1.2.2.2 p hp
      have hWe : ∀ i, i < w → v 86 i = nI (v 86 i).toNatClampNeg ∧ (v 86 i).toNatClampNeg < 8 := fun i hi => by
        obtain ⟨j, hj, ej⟩ := hw.2.2.2.2 i hi
        rw [ej, nI_clamp (by omega)]
        exact ⟨rfl, hj⟩
      have c9 := c_X9_skipped_s (L := L) (u := u) hC hp hWS hy.1 hy.2
      have ce := ce_n (v := v) (k := 5 + 3 + p) (w := w) (L := l) (X := X) (E := E) (we := fun i => (v 86 i).toNatClampNeg) hw8 (fun i hi => by rw [hw.2.2.2.1]; exact hWe i hi) (by rw [a2]; exact hsa) (by rw [a3]; exact hsb) (by rw [a4]; exact l3) (by omega) hX hE w 0 d 0 (by omega) hd (Nat.zero_le _)
      obtain ⟨k1, k2, k3⟩ := skip_r (u := v) (K := v 80) (H := v 81) (W := v 86) (p := p) (L := l) (X := X) (E := E) (D := d) (we := fun i => (v 86 i).toNatClampNeg) hM hn hp hw8 rfl rfl hWe h3.2.2.2 (by omega) hX hE ed hd l3 (2 ^ w) (Nat.le_refl _)
      rw [ht_ce _ _ _ _ _ hX] at k1
      rw [wt_all hX] at k2
      rw [a6, a1, a2, a3] at ce
      have hle := ce_le (fun i => (v 86 i).toNatClampNeg) (lyN (btT (lvT 0 v) p) (v 80 p) (lvT 0 v (4 + p)) (lvT 0 v (8 + p))) l E X hX w 0 d 0
      have p1 := p10_8 w hw8
      generalize ceN (fun i => (v 86 i).toNatClampNeg) (lyN (btT (lvT 0 v) p) (v 80 p) (lvT 0 v (4 + p)) (lvT 0 v (8 + p))) l E X w 0 d 0 = S at *
      have c0 := c_X10_skipped_s (L := L) (z := u) (s := S) (t := 10 ^ w) hM hp hy.1 hy.2 k1 k2 (by omega) p1.2 p1.1
      refine Sbt.of c9 c0 ?_ (h.sme k3.sme)
      have ce2 : ceF v (5 + 3 + p) w (nI E) (nI X) w 0 (v (5 + 3 + p) 0) 0 = lN S := by
        rw [a0, ed]
        exact ce
      rw [ce2, tens_t (by omega), t10_n w (by omega), tf_n (by omega) p1.2 p1.1]
    · exact Sbt.of (c_X9_skipped_o hC hp hy) (c_X10_skipped_o e0 hn hp hy) rfl h
  · exact Sbt.of (c_X9_skipped_u hC hx) (c_X10_skipped_u e0 hn hx) rfl h
theorem R.L {v : Mm} {L L' : Lm} (h : R v L) (e : L' 0 = L' 79) : R v L' := ⟨h.1, h.2.1, h.2.2.1, h.2.2.2.1, e⟩
/-- the seed's call answers a long -/
theorem sb_seed {v : Mm} {L : Lm} {x : Int64} (h : R v L) : Fq yX9_seed cX9_seed 5 (some .long) 0 [.ref 0, .long x] v L (fun a v1 L1 => Fq yX10_seed cX10_seed 5 (some .long) 0 [.ref 79, .long x] v1 L1 (fun a' v2 L2 => a' = a ∧ (∃ y : Int64, a = some (.long y)) ∧ R v2 L2)) := by
  refine Fq.mono c_X9_seed (fun a b c q => ?_)
  obtain ⟨q1, q2, q3⟩ := q
  subst q1 q2 q3
  refine Fq.mono c_X10_seed (fun a b c q => ?_)
  obtain ⟨q1, q2, q3⟩ := q
  subst q1 q2 q3
  have e : L 0 = L 79 := h.2.2.2.2
  refine ⟨?_, ⟨_, rfl⟩, h.L ?_⟩
  · have : updl L 0 x 79 = L 79 := if_neg (by decide)
    rw [this, e]
  · show updl (updl L 0 x) 79 x 0 = updl (updl L 0 x) 79 x 79
    unfold updl
    rfl
theorem py_away {v : Mm} {n t a j : Nat} (hn : n ≤ 4) (ha : a < 12 ∨ 19 ≤ a) : pyM v n t a j = v a j := by
  unfold pyM
  split
  · exact stM_away (by omega)
  · split
    · split
      · split
        · rfl
        · exact mvV_away (by omega) (by omega) (by omega)
      · rfl
    · split
      · split
        · rw [u2_n (by omega), u2_n (by omega)]
        · split
          · rw [u2_n (by omega)]
          · rw [u2_n (by omega)]
      · rfl
theorem yr_away {f : Int64 → Int64} {g : Int64 → Nat} {n a j : Nat} (hn : n ≤ 4) (ha : a < 12 ∨ 19 ≤ a) : ∀ {m : Nat} {s : Int64} {t : Int32} {v : Mm}, (yrF f g n m s t v).2.2 a j = v a j := by
  intro m
  induction m with
  | zero => intro s t v; rfl
  | succ m ih =>
    intro s t v
    rw [yr_succ, ih]
    exact py_away hn ha
theorem ym_lo {v : Mm} {n w t : Nat} (h : MSt v n w) : Lo v (ymM v n w t) := by
  unfold ymM
  split
  · intro k j h1 h2
    exact u2_n (fun q => h1 ⟨q.1, by omega⟩)
  · split
    · exact tt_lo h
    · split
      · exact tt_lo h
      · split
        · exact tt_lo h
        · exact tt_lo h
theorem yq_lo {f : Int64 → Int64} {g : Int64 → Nat} {n w : Nat} : ∀ {m : Nat} {s : Int64} {t : Int32} {v : Mm}, MSt v n w → Lo v (yqF f g n w m s t v).2.2 := by
  intro m
  induction m with
  | zero => intro s t v _; exact Lo.rf v
  | succ m ih =>
    intro s t v h
    rw [yq_succ]
    exact (ym_lo h).tr (ih h.ym)
theorem sdT_lt (s : Int64) : sdT s < 48 := Nat.mod_lt _ (by decide)
theorem sb_years {v : Mm} {L : Lm} {x : Int32} (h : R v L) : Sbt yX9_years cX9_years 4 (some .int) 5 yX10_years cX10_years 5 (some .int) 6 [.int x] v L := by
  obtain ⟨n, w, h3, hw, hM, hC, hWS, hc⟩ := h.q
  have hn := h3.1
  by_cases hx : 1 ≤ x ∧ x ≤ 30
  · obtain ⟨c, hc30, rfl⟩ := vle (x := x) (m := 30) (by decide) ⟨by
      have := hx.1
      rw [i32le] at this ⊢
      have h0 : (0 : Int32).toInt = 0 := by decide
      have h1 : (1 : Int32).toInt = 1 := by decide
      omega, hx.2⟩
    have hc1 : 1 ≤ c := by
      have := hx.1
      rw [show (1 : Int32) = nI 1 from rfl, nI_leI (by decide) (by omega)] at this
      exact this
    have c9 := c_X9_years_s (L := L) hC (h3.2.2.1.full h3.2.2.2) hc1 hc30
    have hV : Sme v (yrF sdN sdT n c (L 0) 0 (trM v n)).2.2 := sme_of (fun a j ha => by rw [yr_away hn ha, trM_away hn ha])
    have h3' := hV.rs h3
    have hw' := hV.rw hw
    have hM' := h3'.m0 hw'
    have e79 : updl L 0 (yrF sdN sdT n c (L 0) 0 (trM v n)).1 79 = L 0 := by
      have : updl L 0 (yrF sdN sdT n c (L 0) 0 (trM v n)).1 79 = L 79 := if_neg (by decide)
      rw [this]; exact h.2.2.2.2.symm
    have c0 := c_X10_years_s (v := (yrF sdN sdT n c (L 0) 0 (trM v n)).2.2) (L := updl L 0 (yrF sdN sdT n c (L 0) 0 (trM v n)).1) (w := w) hc1 hc30 hn hM'.2.1 hw'.2.1 hw'.2.2.1 hM'.2.2.2.2
    rw [e79] at c0
    obtain ⟨y1, y2⟩ := yr_yq hc sdN sdT sdT_lt (m := c) (s := L 0) (t := 0) (tr_TR h3 hw hV)
    refine Sbt.of c9 c0 y2.symm (((h.sme hV).sme ((Lo.lt _).tr (yq_lo hM'.lt)).sme).L ?_)
    rw [← y1]
    unfold updl
    rfl
  · exact Sbt.of (c_X9_years_o hx) (c_X10_years_o hx) rfl h
theorem dn_bits : ∀ n, n ≤ 4 → ∀ D, D < 2 ^ n → bitsF (fun i => decide (¬ (nI D >>> (nI i &&& 31)) &&& 1 = 0)) n = nI D := by decide +kernel
theorem sb_count {v : Mm} {L : Lm} {x : Int32} (h : R v L) : Sbt yX9_count cX9_count 2 (some .int) 4 yX10_count cX10_count 2 (some .int) 1 [.int x] v L := by
  have hR := h
  obtain ⟨n, w, h3, hw, hM, hC, hWS, hc⟩ := h.q
  obtain ⟨⟨len, t1, t2, t3, t4⟩, -, ⟨n', h3', -, f, c, xq, h5⟩, ⟨e, g1, g2, -⟩, -⟩ := h
  obtain ⟨hn, e0, hS, hT⟩ := h3
  rcases tsw_0_9 x with rfl | rfl | rfl | rfl | rfl | rfl | rfl | rfl | rfl | rfl | hx
  · exact Sbt.of (c_X9_count_0 hC) (c_X10_count_0 e0 hn) (by rw [t1, t3]) hR
  · exact Sbt.of (c_X9_count_1 hC) (c_X10_count_1 e0 hn) (by rw [e0, hS.1]) hR
  · exact Sbt.of (c_X9_count_2 hC) (c_X10_count_2 e0 hn) (by rw [hS.2.1, lv0_at (by decide)]) hR
  · exact Sbt.of (c_X9_count_3 hC) (c_X10_count_3 e0 hn) (sum_ik hS).symm hR
  · refine Sbt.of (c_X9_count_4 hC) (c_X10_count_4 e0 hn) ?_ hR
    rw [bk_bits]
    exact (bitsF_congr 25 (fun i hi => by unfold blkB; rw [show (7 : Nat) = 5 + 2 from rfl, hS.2.2.1 i hi])).symm
  · refine Sbt.of (c_X9_count_5 hC) (c_X10_count_5 e0 hn) ?_ hR
    obtain ⟨D, hD, eD⟩ := hT.2.1
    rw [← lv0_at (v := v) (show 16 < 43 by decide), eD, ← dn_bits n hn D hD]
    refine (bitsF_congr n (fun i hi => ?_)).symm
    rw [(hS.2.2.2 i hi).2.2.2.2.2.2]
    unfold btT
    rw [eD]
  · refine Sbt.of (c_X9_count_6 hC) (c_X10_count_6 e0 hn) ?_ hR
    have key : ∀ m, m ≤ n → fuF v m = bitsF (fun i => decide (v (5 + 3 + i) 4 = v (5 + 3 + i) 5)) m := by
      intro m
      induction m with
      | zero => intro _; rfl
      | succ m ih =>
        intro hm
        have ih2 := ih (by omega)
        show fuF v m ||| (if v 82 (12 + m) = v 81 m then bit1 m else 0) = (if decide (v (5 + 3 + m) 4 = v (5 + 3 + m) 5) = true then bitsF (fun i => decide (v (5 + 3 + i) 4 = v (5 + 3 + i) 5)) m ||| bit1 m else bitsF (fun i => decide (v (5 + 3 + i) 4 = v (5 + 3 + i) 5)) m)
        rw [ih2, (hS.2.2.2 m (by omega)).2.2.2.2.1, (hS.2.2.2 m (by omega)).2.2.2.2.2.1, lv0_at (by omega)]
        by_cases z : v 82 (12 + m) = v 81 m
        · rw [if_pos z, if_pos (decide_eq_true z)]
        · rw [if_neg z, or0, if_neg (by rw [decide_eq_true_iff]; exact z)]
    exact key n (Nat.le_refl _)
  · exact Sbt.of (c_X9_count_7 hC) (c_X10_count_7 e0 hn) (by rw [hw.1, hw.2.1]) hR
  · exact Sbt.of (c_X9_count_8 hC) (c_X10_count_8 e0 hn) (by rw [h5.2.2.1, h5.2.2.2.2.1]) hR
  · exact Sbt.of (c_X9_count_9 hC) (c_X10_count_9 e0 hn) (by rw [g1, g2]) hR
  · exact Sbt.of (c_X9_count_o hx) (c_X10_count_o hx) rfl hR
