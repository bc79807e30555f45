/-! ways, doings, nibs, shares, chances, years, counts -/
def thN (v : Mm) (k : Nat) : Fl := fun e => (acF (v k 1) (v k 2) (v k 3) (nI e)).toNatClampNeg
theorem thN_ok {v : Mm} {n p : Nat} (h : RS v n) (hp : p < n) : ∀ e, e < 8 → acF (v (5 + 3 + p) 1) (v (5 + 3 + p) 2) (v (5 + 3 + p) 3) (nI e) = nI (thN v (5 + 3 + p) e) ∧ thN v (5 + 3 + p) e ≤ 7 := by
  intro e _
  obtain ⟨-, -, hS, hT⟩ := h
  obtain ⟨a0, a1, a2, a3, -⟩ := hS.2.2.2 p hp
  obtain ⟨-, hk, hsa, hsb, -⟩ := hT.1 p hp
  obtain ⟨q, hq, eq⟩ := ac_ok (kind := v (5 + 3 + p) 1) (a := v (5 + 3 + p) 2) (b := v (5 + 3 + p) 3) (e := nI e) (by rw [a2]; exact hsa) (by rw [a3]; exact hsb)
  unfold thN
  rw [eq, nI_clamp (by omega)]
  exact ⟨rfl, by omega⟩
theorem thM_k {v u : Mm} {p : Nat} {e : Int32} (hu : Sme v u) (hp : p < 4) : thM u 0 p e = thM v 0 p e := by
  unfold thM
  rw [hu.f (k := 80) (by omega), hu 82 _ (by unfold scr; omega), hu 82 _ (by unfold scr; omega)]
theorem pen_kd {p : Nat} (hp : p < 4) : kd (5 + 3 + p) = 2 := sh_kp s5 hp
theorem sb_least {v : Mm} {L : Lm} {x y z : Int32} (h : R v L) : Sbt yX9_least cX9_least 5 (some .int) 5 yX10_least cX10_least 4 (some .int) 3 [.int x, .int y, .int z] v L := by
  obtain ⟨n, w, h3, hw, hM, hC, hWS, hc⟩ := h.q
  have hn := h3.1
  have e0 := h3.2.1
  by_cases hx : 0 ≤ x ∧ x < nI n
  · obtain ⟨p, hp, rfl⟩ := nI_of_in (by omega) hx
    by_cases hy : 0 ≤ y ∧ y < 25
    · obtain ⟨q, hq, rfl⟩ := d25_of hy
      by_cases hz : 0 ≤ z ∧ z ≤ 2
      · have hk := pen_kd (show p < 4 by omega)
        have ht := thN_ok h3 hp
        have hV : Sme v (rkM v (5 + 3 + p) (nI q)) := fun k j hkj => rk_away hk (fun e => hkj (by unfold scr; omega)) (fun e => hkj (by unfold scr; omega))
        have ht2 : ∀ e, e < 8 → thM (rkM v (5 + 3 + p) (nI q)) 0 p (nI e) = nI (thN v (5 + 3 + p) e) ∧ thN v (5 + 3 + p) e ≤ 7 := fun e he => ⟨by rw [thM_k hV (by omega), h3.th hp (of_d8 he)]; exact (ht e he).1, (ht e he).2⟩
        obtain ⟨⟨d, hd, ed⟩, -⟩ := h3.2.2.2.1 p hp
        have ed0 : rkM v (5 + 3 + p) (nI q) (5 + 3 + p) 0 = nI d := by
          rw [rk_away hk (by omega) (by omega), (h3.2.2.1.2.2.2 p hp).1]; exact ed
        have ed1 : rkM v (5 + 3 + p) (nI q) 82 p = nI d := by
          rw [hV 82 p (by unfold scr; omega), ← lv0_at (v := v) (by omega)]; exact ed
        have pc := rk_rel hk ht hq
        have pl := ffM_rel ht2 hq
        have fin := fun x hx => least_fin (N := 200) rfl (t := thN v (5 + 3 + p)) (fun e he => (ht e he).2) (g := q) (d := x) hq hx
        obtain ⟨T, S, t1, t2, t3, t4⟩ := fin d hd
        have ec : cfF (rkM v (5 + 3 + p) (nI q)) (nI d) = nI (100 * T + S) := by
          unfold cfF
          rw [if_pos (of_d25 hd), nI_clamp (by omega), (pc.1 d hd).1, t2]
        have ef : ffM (rkM v (5 + 3 + p) (nI q)) p (nI q) 88 d = nI (1000 * T + S) := by rw [(pl.1 d hd).1, t1]
        have hF : ∀ x, x < 25 → ffM (rkM v (5 + 3 + p) (nI q)) p (nI q) 88 x = nI (fnN 200 (fun e => 1000 * thN v (5 + 3 + p) e + 1) q 25 x) := fun x hx => (pl.1 x hx).1
        have hR2 : R (ffM (rkM v (5 + 3 + p) (nI q)) p (nI q)) L := (h.sme hV).sme (fun k j hkj => ffM_away (fun e => hkj (by unfold scr; omega)))
        have ht3 : ∀ e, e < 8 → thM (ffM (rkM v (5 + 3 + p) (nI q)) p (nI q)) 0 p (nI e) = nI (thN v (5 + 3 + p) e) ∧ thN v (5 + 3 + p) e ≤ 7 := fun e he => by
          refine ⟨?_, (ht e he).2⟩
          rw [← (ht2 e he).1]
          unfold thM
          rw [ffM_away (by decide), ffM_away (by decide), ffM_away (by decide)]
        have e0' : rkM v (5 + 3 + p) (nI q) 79 0 = nI n := by rw [hV 79 0 (by unfold scr; omega)]; exact e0
        rcases sw2 z hz with rfl | rfl | rfl
        · refine Sbt.of (c_X9_least_0 hC hp hq) (c_X10_least_s (z := 0) e0' hn hp hq (by decide) hd ed1) ?_ hR2
          rw [if_pos rfl, ed0, ec, ef, show (1000 : Int32) = nI 1000 from rfl, show (100 : Int32) = nI 100 from rfl, pk_div (by omega) (by decide) (by decide), pk_div (by omega) (by decide) (by decide), show (1000 * T + S) / 1000 = (100 * T + S) / 100 by omega]
        · refine Sbt.of (c_X9_least_1 hC hp hq) (c_X10_least_s (z := 1) e0' hn hp hq (by decide) hd ed1) ?_ hR2
          rw [if_neg (by decide), if_pos rfl, ed0, ec, ef, show (1000 : Int32) = nI 1000 from rfl, show (100 : Int32) = nI 100 from rfl, rem_n (by omega) (by decide) (by decide), rem_n (by omega) (by decide) (by decide), show (1000 * T + S) % 1000 = (100 * T + S) % 100 by omega]
        · refine Sbt.of (c_X9_least_2 hC hp hq) (c_X10_least_s (z := 2) e0' hn hp hq (by decide) hd ed1) ?_ hR2
          rw [if_neg (by decide), if_neg (by decide), ed0, ec, ← t2]
          exact (df_fw fin hF pc ht3 hd 8 0 (by omega)).symm
      · exact Sbt.of (c_X9_least_o hC hp hq hz) (c_X10_least_o e0 hn hp hq hz) rfl h
    · exact Sbt.of (c_X9_least_u2 hC hp hy) (c_X10_least_u2 e0 hn hp hy) rfl h
  · exact Sbt.of (c_X9_least_u1 hC hx) (c_X10_least_u1 e0 hn hx) rfl h
theorem sb_rings {v : Mm} {L : Lm} {x y z : Int32} (h : R v L) : Sbt yX9_rings cX9_rings 5 (some .int) 4 yX10_rings cX10_rings 9 (some .int) 3 [.int x, .int y, .int z] v L := by
  obtain ⟨n, w, h3, hw, hM, hC, hWS, hc⟩ := h.q
  have hn := h3.1
  have e0 := h3.2.1
  by_cases hx : 0 ≤ x ∧ x < nI n
  · obtain ⟨p, hp, rfl⟩ := nI_of_in (by omega) hx
    by_cases hy : (1 ≤ y ∧ y ≤ 4) ∧ (0 ≤ z ∧ z ≤ 1)
    · obtain ⟨q, hq4, rfl⟩ := vle (x := y) (m := 4) (by decide) ⟨by
        have := hy.1.1
        rw [i32le] at this ⊢
        have h0 : (0 : Int32).toInt = 0 := by decide
        have h1 : (1 : Int32).toInt = 1 := by decide
        omega, hy.1.2⟩
      have hq1 : 1 ≤ q := by
        have := hy.1.1
        rw [show (1 : Int32) = nI 1 from rfl, nI_leI (by decide) (by omega)] at this
        exact this
      have hk := pen_kd (show p < 4 by omega)
      have ht := thN_ok h3 hp
      obtain ⟨⟨d, hd, ed⟩, -⟩ := h3.2.2.2.1 p hp
      have edv : v (5 + 3 + p) 0 = nI d := (h3.2.2.1.2.2.2 p hp).1.trans ed
      have pa := rg_rel hk ht hd q hq4
      have aw : ∀ k j, k ≠ 75 → k ≠ 76 → k ≠ 77 → k ≠ 78 → itr (fun _ w => wkO w (5 + 3 + p)) q (wkM0 v (nI d)) k j = v k j := fun k j a b c e => rg_away a b c e q
      have c90 := c_X9_rings_0 (L := L) hC hp hq1 hq4
      have c91 := c_X9_rings_1 (L := L) hC hp hq1 hq4
      rw [edv] at c90 c91
      generalize itr (fun _ w => wkO w (5 + 3 + p)) q (wkM0 v (nI d)) = V1 at *
      have hV : Sme v V1 := fun k j hkj => aw k j (fun e => hkj (by unfold scr; omega)) (fun e => hkj (by unfold scr; omega)) (fun e => hkj (by unfold scr; omega)) (fun e => hkj (by unfold scr; omega))
      rw [aw (5 + 3 + p) 0 (by omega) (by omega) (by omega) (by omega), edv] at c90 c91
      have ht2 : ∀ e, e < 8 → thM V1 0 p (nI e) = nI (thN v (5 + 3 + p) e) ∧ thN v (5 + 3 + p) e ≤ 7 := fun e he => ⟨by rw [thM_k hV (by omega), h3.th hp (of_d8 he)]; exact (ht e he).1, (ht e he).2⟩
      have ed1 : V1 82 p = nI d := by rw [hV 82 p (by unfold scr; omega), ← lv0_at (v := v) (by omega)]; exact ed
      have e0' : V1 79 0 = nI n := by rw [hV 79 0 (by unfold scr; omega)]; exact e0
      obtain ⟨a1, a2⟩ := pa d hd
      rw [rings_eq (fun e he => (ht e he).2) hd q hq4] at a1 a2
      have er := rn_rel ht2 hd ed1 hq4 (8 ^ q) (p8le q hq4)
      have wp := fuW_wp (t := thN v (5 + 3 + p)) (fun e he => (ht e he).2) (s0 := d) (c := q) (d := d) hd hq4 (8 ^ q)
      have p8 := p8le q hq4
      have ern : rnF V1 p q = (nI (fuW (thN v (5 + 3 + p)) d q d (8 ^ q)).1, if (fuW (thN v (5 + 3 + p)) d q d (8 ^ q)).1 = 0 then -9 else nI (fuW (thN v (5 + 3 + p)) d q d (8 ^ q)).2) := er
      generalize fuW (thN v (5 + 3 + p)) d q d (8 ^ q) = X at *
      rcases sw1 z hy.2 with rfl | rfl
      · refine Sbt.of c90 (c_X10_rings_s (z := 0) e0' hn hp hq1 hq4 (by decide)) ?_ (h.sme hV)
        unfold selA rtF
        rw [if_pos rfl, if_pos (of_d25 hd), nI_clamp (by omega), a1, ern]
      · refine Sbt.of c91 (c_X10_rings_s (z := 1) e0' hn hp hq1 hq4 (by decide)) ?_ (h.sme hV)
        unfold selA ltF
        rw [if_neg (by decide), nI_clamp (by omega), a1, a2, ern]
        show (if X.1 = 0 then (-9 : Int32) else nI X.2) = _
        by_cases x0 : X.1 = 0
        · rw [if_pos x0, if_neg (fun q => by
            rw [x0] at q
            exact absurd q.2 (by decide))]
        · rw [if_neg x0, if_pos ⟨of_d25 hd, show (0 : Int32) < nI X.1 from nI_lt (a := 0) (by omega) (by omega)⟩]
    · exact Sbt.of (c_X9_rings_o hC hp hy) (c_X10_rings_o e0 hn hp hy) rfl h
  · exact Sbt.of (c_X9_rings_u hC hx) (c_X10_rings_u e0 hn hx) rfl h
/-! doings -/
theorem tt_lo {v : Mm} {n w : Nat} {k a b : Int32} (h : MSt v n w) : Lo v (ttF v n w k a b).2 := by
  have hn := h.1
  have u82 : ∀ {j : Nat} {x : Int32}, 43 ≤ j → Lo v (upd2 v 82 j x) := fun hj k i h1 h2 => u2_n (fun q => h1 ⟨q.1, by omega⟩)
  unfold ttF
  split
  · split
    · rename_i hx
      obtain ⟨p, hp, rfl⟩ := nI_of_in (by omega) hx
      rw [nI_clamp (by omega)]
      split
      · rename_i hc
        obtain ⟨d, hd, ed⟩ := h.2.2.2.2 p hp
        obtain ⟨q, hq, eq⟩ : ∃ q, q < 25 ∧ ndF (v 82 (43 * 1 + p)) b = nI q := by
          have z := hc.2
          rw [ed] at z ⊢
          exact nd_ok hd ⟨hc.1.1, le7.mp hc.1.2⟩ z
        exact msV_lo (by omega) hq eq
      · exact Lo.rf v
    · exact Lo.rf v
  · split
    · split
      · exact u82 (by decide)
      · exact u82 (by decide)
    · split
      · split
        · split
          · exact u82 (by omega)
          · exact Lo.rf v
        · exact Lo.rf v
      · split
        · split
          · rename_i hx
            obtain ⟨p, hp, rfl⟩ := nI_of_in (by omega) hx.2
            rw [nI_clamp (by omega)]
            intro k j h1 h2
            show tuV v 1 p k j = v k j
            unfold tuV
            rw [u2_n (fun q => h1 ⟨q.1, by omega⟩), u2_n (fun q => h1 ⟨q.1, by omega⟩)]
          · exact Lo.rf v
        · split
          · split
            · exact Lo.rf v
            · exact Lo.rf v
          · split
            · split
              · exact Lo.rf v
              · exact Lo.rf v
            · split
              · split
                · rename_i hx
                  obtain ⟨p, hp, rfl⟩ := nI_of_in (by omega) hx.2
                  rw [nI_clamp (by omega)]
                  exact Lo.woA h hp
                · exact Lo.rf v
              · exact Lo.rf v
theorem jm_lo {n w c : Nat} {row : Int64} : ∀ {m i : Nat} {v : Mm}, MSt v n w → Lo v (jmF n w row c m i v).2 := by
  intro m
  induction m with
  | zero => intro i v _; exact Lo.rf v
  | succ m ih =>
    intro i v h
    unfold jmF
    split
    · exact tt_lo h
    · exact (tt_lo h).tr (ih h.tt)
theorem jd_away {n w c : Nat} {row : Int64} (hn : n ≤ 4) {a j : Nat} (ha : a < 12 ∨ 19 ≤ a) : ∀ {m i : Nat} {v : Mm}, (jdF n w row c m i v).2 a j = v a j := by
  intro m
  induction m with
  | zero => intro i v; rfl
  | succ m ih =>
    intro i v
    unfold jdF
    split
    · exact dn_w hn ha
    · rw [ih]; exact dn_w hn ha
theorem sb_judge {v : Mm} {L : Lm} {x : Int32} {y : Int64} (h : R v L) : Sbt yX9_judge cX9_judge 6 (some .int) 6 yX10_judge cX10_judge 6 (some .int) 6 [.int x, .long y] v L := by
  obtain ⟨n, w, h3, hw, hM, hC, hWS, hc⟩ := h.q
  have hn := h3.1
  by_cases hx : 1 ≤ x ∧ x ≤ 4
  · obtain ⟨c, hc4, rfl⟩ := vle (x := x) (m := 4) (by decide) ⟨by
      have := hx.1
      rw [i32le] at this ⊢
      have h0 : (0 : Int32).toInt = 0 := by decide
      have h1 : (1 : Int32).toInt = 1 := by decide
      omega, hx.2⟩
    have hc1 : 1 ≤ c := by
      have := hx.1
      rw [show (1 : Int32) = nI 1 from rfl, nI_leI (by decide) (by omega)] at this
      exact this
    have e3 : (3 : Int32) * nI c = nI (3 * c) := by rw [show (3 : Int32) = nI 3 from rfl, pk_mul]
    by_cases hy : 0 ≤ y ∧ y < tensF (3 * nI c)
    · have hy2 : 0 ≤ y ∧ y ≤ t10 (3 * c) - 1 := by
        rw [e3] at hy
        exact (lt_t10 (show 3 * c ≤ 12 by omega)).mp hy
      obtain ⟨Y, hY, rfl⟩ := lN_of hy.1
      have hV : Sme v (jdF n w (lN Y) c c 0 (trM v n)).2 := sme_of (fun a j ha => by rw [jd_away hn ha, trM_away hn ha])
      have c9 := c_X9_judge_s (L := L) hC (h3.2.2.1.full h3.2.2.2) hWS hc1 hc4 hy
      have h3' := hV.rs h3
      have hw' := hV.rw hw
      have hM' := h3'.m0 hw'
      refine Sbt.of c9 (c_X10_judge_s hc1 hc4 hy2 hn hM'.2.1 hw'.2.1 hw'.2.2.1 hM'.2.2.2.2) ?_ ((h.sme hV).sme ((Lo.lt _).tr (jm_lo hM'.lt)).sme)
      exact (jd_jm hc hc4 hY (by omega) (tr_TR h3 hw hV)).symm
    · exact Sbt.of (c_X9_judge_o (fun q => hy q.2)) (c_X10_judge_o2 hc1 hc4 (fun q => hy (by rw [e3]; exact (lt_t10 (show 3 * c ≤ 12 by omega)).mpr q))) rfl h
  · exact Sbt.of (c_X9_judge_o (fun q => hx q.1)) (c_X10_judge_o1 hx) rfl h
/-! seen -/
theorem R.seen {v u : Mm} {L : Lm} {e : Nat} (h : R v L) (ht : RN u e) (hu : ∀ k j, ¬ ((k = 68 ∧ j = 3) ∨ k = 69 ∨ k = 70 ∨ k = 89 ∨ k = 90 ∨ (k = 79 ∧ j = 19)) → u k j = v k j) : R u L := by
  obtain ⟨⟨len, h1⟩, ⟨w, h2⟩, ⟨n, h3, h4, f, c, x, h5⟩, -, h7⟩ := h
  exact ⟨⟨len, h1.k (fun k j hk => hu k j (by omega))⟩, ⟨w, h2.k (fun k j hk => hu k j (by omega))⟩, ⟨n, h3.k (fun k j hk => hu k j (by omega)), h4.k h3.1 (fun k j hk => hu k j (by omega)), f, c, x, h5.k (fun k j hk => hu k j (by omega))⟩, ⟨e, ht⟩, h7⟩
theorem sb_see {v : Mm} {L : Lm} {x y : Int32} (h : R v L) : Sbt yX9_see cX9_see 3 (some .int) 1 yX10_see cX10_see 3 (some .int) 1 [.int x, .int y] v L := by
  have hR := h
  obtain ⟨-, -, -, ⟨e, h1, h2, h3, h4, h5, h6, h7⟩, -⟩ := h
  by_cases hx : (0 ≤ x ∧ x < 8) ∧ (0 ≤ y ∧ y ≤ 6)
  · by_cases c : e < 6
    · refine Sbt.of (c_X9_see_s hx.1 hx.2 h1 c) (c_X10_see_s (c := e) hx.1 hx.2 (by rw [u2_n (by omega), u2_n (by omega), u2_n (by omega)]; exact h2) c) rfl (hR.seen (e := e + 1) ⟨?_, u2_s, by omega, ?_, ?_, fun i hi => ?_, ?_⟩ (fun k j hk => ?_))
      · rw [u2_n (by omega), u2_n (by omega), u2_n (by omega), u2_s]
      · rw [u2_g (by decide), u2_g (by decide), u2_g (by decide), u2_g (by decide), u2_g (by decide), u2_f, u2_g (by decide), u2_g (by decide), u2_f, u2_g (by decide), u2_g (by decide), u2_g (by decide), h4]
      · rw [u2_g (by decide), u2_g (by decide), u2_g (by decide), u2_g (by decide), u2_f, u2_g (by decide), u2_g (by decide), u2_f, u2_g (by decide), u2_g (by decide), u2_g (by decide), u2_g (by decide), h5]
      · rw [u2_n (by omega), u2_n (by omega)]
        by_cases z : i = e
        · subst z
          rw [u2_s]
          exact d8_of hx.1
        · rw [u2_n (by omega), u2_n (by omega), u2_n (by omega), u2_n (by omega)]
          exact h6 i (by omega)
      · rw [u2_n (by omega), u2_n (by omega), u2_n (by omega), u2_n (by omega), u2_n (by omega), u2_n (by omega)]; exact h7
      · rw [u2_n (by omega), u2_n (by omega), u2_n (by omega), u2_n (by omega), u2_n (by omega), u2_n (by omega)]
    · have e6 : e = 6 := by omega
      exact Sbt.of (c_X9_see_f hx.1 hx.2 (by rw [h1, e6]; rfl)) (c_X10_see_f hx.1 hx.2 (by rw [h2, e6]; rfl)) rfl hR
  · exact Sbt.of (c_X9_see_o hx) (c_X10_see_o hx) rfl hR
theorem sb_unsee {v : Mm} {L : Lm} (h : R v L) : Sbt yX9_unsee cX9_unsee 2 (some .int) 0 yX10_unsee cX10_unsee 2 (some .int) 0 [] v L := by
  have hR := h
  obtain ⟨-, -, -, ⟨e, h1, h2, h3, h4, h5, h6, h7⟩, -⟩ := h
  refine Sbt.of c_X9_unsee c_X10_unsee ?_ (hR.seen (e := 0) ⟨?_, u2_s, by omega, ?_, ?_, fun i hi => absurd hi (Nat.not_lt_zero i), ?_⟩ (fun k j hk => ?_))
  · rw [u2_n (by decide), h1, h2]
  · rw [u2_n (by decide), u2_s]; rfl
  · rw [u2_g (by decide), u2_g (by decide), u2_g (by decide), u2_g (by decide), h4]
  · rw [u2_g (by decide), u2_g (by decide), u2_g (by decide), u2_g (by decide), h5]
  · rw [u2_n (by decide), u2_n (by decide)]; exact h7
  · rw [u2_n (by omega), u2_n (by omega)]
theorem un_sme {v : Mm} {p q : Int32} : Sme v (unM v p q) := fun k j hk => by
  unfold unM
  rw [u2_n (fun z => hk (by unfold scr; omega)), u2_n (fun z => hk (by unfold scr; omega))]
theorem selA_0 (s : Int32 × Int32) : selA 0 s = s.1 := if_pos rfl
theorem selA_1 (s : Int32 × Int32) : selA 1 s = s.2 := if_neg (by decide)
theorem sb_nibs {v : Mm} {L : Lm} {x : Int32} (h : R v L) : Sbt yX9_nibs cX9_nibs 2 (some .int) 4 yX10_nibs cX10_nibs 9 (some .int) 1 [.int x] v L := by
  have hR := h
  obtain ⟨-, -, -, ⟨e, h1, h2, h3, h4, h5, h6, h7⟩, -⟩ := h
  have nk : ∀ p q : Int32, NOk v (unM v p q) e ∧ unM v p q 79 19 = nI e := fun p q => by
    have hs := un_sme (v := v) (p := p) (q := q)
    refine ⟨⟨h7, ?_, ?_, ?_⟩, by rw [hs 79 19 (by unfold scr; omega)]; exact h2⟩
    · rw [hs.f (k := 89) (by omega)]; exact h4
    · rw [hs.f (k := 90) (by omega)]; exact h5
    · rw [hs.f (k := 89) (by omega)]; exact h6
  by_cases hx : 0 ≤ x ∧ x ≤ 1
  · rcases sw1 x hx with rfl | rfl
    · refine Fq.mono (c_X9_nibs_0 (L := L) h1 h3) (fun a b c q => ?_)
      obtain ⟨xa, e1, e2, ⟨p, q, e3⟩, e4⟩ := q
      subst e1 e2 e3 e4
      refine Fq.mono (c_X10_nibs_s (x := 0) (L := c) (by decide) (nk p q).2 h3) (fun a b c q => ?_)
      obtain ⟨q1, q2, q3⟩ := q
      subst q1 q2 q3
      refine ⟨?_, ⟨_, rfl⟩, hR.sme un_sme⟩
      rw [nibs_0 (nk p q).1, selA_0]
    · refine Fq.mono (c_X9_nibs_1 (L := L) h1 h3) (fun a b c q => ?_)
      obtain ⟨xa, e1, e2, ⟨p, q, e3⟩, e4⟩ := q
      subst e1 e2 e3 e4
      refine Fq.mono (c_X10_nibs_s (x := 1) (L := c) (by decide) (nk p q).2 h3) (fun a b c q => ?_)
      obtain ⟨q1, q2, q3⟩ := q
      subst q1 q2 q3
      refine ⟨?_, ⟨_, rfl⟩, hR.sme un_sme⟩
      rw [nibs_1 (nk p q).1, selA_1]
  · exact Sbt.of (c_X9_nibs_o hx) (c_X10_nibs_o hx) rfl hR
