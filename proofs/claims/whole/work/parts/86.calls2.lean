/-! questions answer alike and keep the relation -/
theorem RS.m0 {v : Mm} {n w : Nat} (h : RS v n) (hw : RW v w) : M0 v n w := by
  obtain ⟨hn, e0, hS, hT⟩ := h
  refine ⟨hn, e0, hw.2.1, hw.2.2.1, fun p hp => ?_⟩
  obtain ⟨⟨d, hd, ed⟩, -⟩ := hT.1 p hp
  exact ⟨d, hd, by rw [← ed, lvT_at (by omega)]⟩
theorem R.q {v : Mm} {L : Lm} (h : R v L) : ∃ n w, RS v n ∧ RW v w ∧ M0 v n w ∧ CSt v n ∧ WSt v w ∧ CW n w (v 86) := by
  obtain ⟨-, ⟨w, h2⟩, ⟨n, h3, -⟩, -⟩ := h
  exact ⟨n, w, h3, h2, h3.m0 h2, h3.2.2.1.cst h3.2.2.2 h3.1, ⟨h2.1, h2.2.2.1⟩, h3.1, h2.2.2.1, h2.2.2.2.2⟩
theorem Sme.rs {v u : Mm} {n : Nat} (hu : Sme v u) (h : RS v n) : RS u n := h.k (fun k j hk => hu k j (by unfold scr; omega))
theorem Sme.rw {v u : Mm} {w : Nat} (hu : Sme v u) (h : RW v w) : RW u w := h.k (fun k j hk => hu k j (by unfold scr; omega))
theorem Sme.f {v u : Mm} (hu : Sme v u) {k : Nat} (h : k = 80 ∨ k = 81 ∨ k = 86 ∨ k = 4 ∨ k = 89 ∨ k = 90 ∨ k = 69 ∨ k = 70) : u k = v k := fk (fun j => hu k j (by unfold scr; omega))
theorem Sme.T {v u : Mm} (hu : Sme v u) : lvT 0 u = lvT 0 v := lv0_k (fun j hj => hu 82 j (by unfold scr; omega))
theorem sme_of {v u : Mm} (h : ∀ a j, (a < 12 ∨ 19 ≤ a) → u a j = v a j) : Sme v u := fun k j hk => h k j (by unfold scr at hk; omega)
theorem tr_sme {v : Mm} {n : Nat} (hn : n ≤ 4) : Sme v (trM v n) := sme_of (fun a j ha => trM_away hn ha)
theorem fol_sme {v : Mm} {p m i : Nat} (hp : p < 4) : Sme v (folF 12 (12 + 3 + p) m i v).2 := sme_of (fun a j ha => folF_away (by omega) (by omega) (by omega))
theorem tr_TR {v V1 : Mm} {n w : Nat} (h : RS v n) (hw : RW v w) (hV : Sme v V1) : TR (trM v n) (ltV V1) n w (v 80) (v 81) (v 86) := by
  obtain ⟨hn, e0, hS, hT⟩ := h
  have eT : lvT 1 (ltV V1) = lvT 0 v := lt_T.trans hV.T
  refine ⟨by rw [eT]; exact hS.tr hn, by rw [eT]; exact hT, ?_, ?_, ?_, ?_, ?_⟩
  · rw [← hV.f (k := 80) (by omega)]; exact fk (fun j => ltV_away (by omega))
  · rw [← hV.f (k := 81) (by omega)]; exact fk (fun j => ltV_away (by omega))
  · rw [← hw.2.2.2.1]; exact fk (fun j => trM_away hn (by omega))
  · rw [← hV.f (k := 86) (by omega)]; exact fk (fun j => ltV_away (by omega))
  · rw [ltV_away (by decide), hV 79 12 (by unfold scr; omega)]; exact hw.2.1
theorem wrT_le {K W : Tn} {p : Nat} : ∀ m i T, (wrT K W p m i T).1 ≤ i + m
  | 0, i, _ => Nat.le_refl i
  | m + 1, i, T => by
    unfold wrT
    split
    · exact Nat.le_add_right _ _
    · have := wrT_le (K := K) (W := W) (p := p) m (i + 1) (stT K T p (W i))
      omega
theorem TR.wm {v u : Mm} {n w p m : Nat} {K H W : Tn} (h : TR v u n w K H W) (hc : CW n w W) (hp : p < n) (hm : m ≤ w) : SR (folF 12 (12 + 3 + p) m 0 v).2 12 K H (wrT K W p m 0 (lvT 1 u)).2 n ∧ lvT 1 (woF 1 p 0 m 0 0 (wo0 u)).2 = (wrT K W p m 0 (lvT 1 u)).2 ∧ (woF 1 p 0 m 0 0 (wo0 u)).1 = 0 + (lvT 1 u (12 + p) - (wrT K W p m 0 (lvT 1 u)).2 (12 + p)) := by
  obtain ⟨hn, hw, hW⟩ := hc
  obtain ⟨f1, f2⟩ := SR.fol (S := 12) s12 hn hp hW (m := m) (i := 0) (by omega) h.2.2.2.2.1 h.1 h.2.1
  have g := wo_T (K := K) (W := W) (H := H) (l := 1) hn hp hw hW (m := m) (i := 0) (s := 0) (v := wo0 u) (by omega) (by rw [← h.2.2.1]; funext j; exact u2_n (by omega)) (by rw [← h.2.2.2.2.2.1]; funext j; exact u2_n (by omega)) (u2_s) (by rw [wo0_T]; exact h.2.1)
  rw [wo0_T] at g
  exact ⟨f2, g.1, g.2.2⟩
theorem wo_sme {v : Mm} {n w p m : Nat} (h : M0 v n w) (hp : p < n) : Sme v (woF 1 p 0 m 0 0 (wo0 (ltV v))).2 := (((Lo.lt v).tr (Lo.w0 _)).tr (Lo.wo h.1 hp h.lt.w0.2.2.2.2)).sme
/-! the text -/
theorem R.text {v u : Mm} {L : Lm} {len : Nat} (h : R v L) (ht : Txt u len) (hu : ∀ k j, ¬ (k = 1 ∨ k = 2 ∨ k = 85 ∨ (k = 79 ∧ j = 9)) → u k j = v k j) : R u L := by
  obtain ⟨-, ⟨w, h2⟩, ⟨n, h3, h4, f, c, x, h5⟩, ⟨e, h6⟩, h7⟩ := h
  exact ⟨⟨len, ht⟩, ⟨w, h2.k (fun k j hk => hu k j (by omega))⟩, ⟨n, h3.k (fun k j hk => hu k j (by omega)), h4.k h3.1 (fun k j hk => hu k j (by omega)), f, c, x, h5.k (fun k j hk => hu k j (by omega))⟩, ⟨e, h6.k (fun k j hk => hu k j (by omega))⟩, h7⟩
theorem sb_write {v : Mm} {L : Lm} {x : Int32} (h : R v L) : Sbt yX9_write cX9_write 2 (some .int) 1 yX10_write cX10_write 2 (some .int) 1 [.int x] v L := by
  have hR := h
  obtain ⟨⟨len, h1, h2, h3, h4⟩, -⟩ := h
  by_cases hx : 0 ≤ x ∧ x ≤ 255
  · by_cases c : len < 48
    · refine Sbt.of (c_X9_write_s hx h3 c) (c_X10_write_s (c := len) hx (by rw [u2_n (by omega), u2_n (by omega)]; exact h1) c) rfl (hR.text (len := len + 1) ⟨u2_s, by omega, ?_, ?_⟩ (fun k j hk => ?_))
      · rw [u2_n (by omega), u2_n (by omega), u2_s]
      · rw [u2_g (by decide), u2_g (by decide), u2_g (by decide), u2_f, u2_g (by decide), u2_f, u2_g (by decide), u2_g (by decide), h4]
      · rw [u2_n (by omega), u2_n (by omega), u2_n (by omega), u2_n (by omega)]
    · have e48 : len = 48 := by omega
      exact Sbt.of (c_X9_write_f hx (by rw [h3, e48]; rfl)) (c_X10_write_f hx (by rw [h1, e48]; rfl)) rfl hR
  · exact Sbt.of (c_X9_write_o hx) (c_X10_write_o hx) rfl hR
theorem sb_wipe {v : Mm} {L : Lm} (h : R v L) : Sbt yX9_wipe cX9_wipe 2 (some .int) 0 yX10_wipe cX10_wipe 2 (some .int) 0 [] v L := by
  have hR := h
  obtain ⟨⟨len, h1, h2, h3, h4⟩, -⟩ := h
  refine Sbt.of c_X9_wipe c_X10_wipe ?_ (hR.text (len := 0) ⟨u2_s, by omega, ?_, ?_⟩ (fun k j hk => ?_))
  · rw [u2_n (by decide), h1, h3]
  · rw [u2_n (by decide), u2_s]; rfl
  · rw [u2_g (by decide), u2_g (by decide), u2_g (by decide), u2_g (by decide), h4]
  · rw [u2_n (by omega), u2_n (by omega)]
theorem Agr.sme {v u : Mm} (h : Agr v u) : Sme v u := fun k j hk => h k j (fun q => hk (by unfold scr; omega)) (fun q => hk (by unfold scr; omega)) (fun q => hk (by unfold scr; omega))
theorem sb_fault {v : Mm} {L : Lm} (h : R v L) : Sbt yX9_fault cX9_fault 1 (some .int) 5 yX10_fault cX10_fault 1 (some .int) 4 [] v L := by
  obtain ⟨len, hT⟩ := h.1
  refine Fq.mono (c_X9_fault (L := L) hT.2.2.1 hT.2.1) (fun a b c q => ?_)
  obtain ⟨q1, q2, q3⟩ := q
  subst q1 q2 q3
  refine Fq.mono (c_X10_fault (L := c) hT) (fun a b c q => ?_)
  obtain ⟨x, e1, e2, e3, e4, e5⟩ := q
  subst e1 e4
  exact ⟨e2, ⟨_, rfl⟩, h.sme e3.sme⟩
theorem sb_desk {v : Mm} {L : Lm} (h : R v L) : Sbt yX9_desk cX9_desk 2 (some .int) 5 yX10_desk cX10_desk 2 (some .int) 4 [] v L := by
  have hR := h
  obtain ⟨⟨len, hT⟩, ⟨w, h2⟩, ⟨n, h3, h4, f, c, x, h5⟩, ⟨e, h6⟩, h7⟩ := h
  by_cases hf : (if v 1 1 = 0 ∨ ¬ v 2 0 = 78 then 0 else ffF v len 49 0 0 1) = -9
  · refine Fq.mono (c_X9_desk_s (L := L) hT.2.2.1 hT.2.1 hf) (fun a b cc q => ?_)
    obtain ⟨q1, q2, q3⟩ := q
    subst q1 q2 q3
    have hff : ffF v len 49 0 0 1 = -9 := by
      by_cases z : v 1 1 = 0 ∨ ¬ v 2 0 = 78
      · rw [if_pos z] at hf
        exact absurd hf (by decide)
      · rw [if_neg z] at hf; exact hf
    generalize eV : upd2 (upd2 (upd2 (loM 5 len 49 0 1 (clM v 5)) 38 2 0) 33 1 0) 34 1 0 = V1 at *
    have cl : ∀ k j, k ≠ 5 → k ≠ 7 → clM v 5 k j = v k j := fun k j a b => clM_away a b
    have d0 : DR (clM v 5) 0 (v 83) 0 (v 84) := by
      refine ⟨clM_S2 v 5, ?_, fun j hj => ?_, fun q hq => absurd hq (Nat.not_lt_zero q)⟩
      · unfold clM flM
        rw [uA_n (by decide), u2_s]
      · unfold clM flM
        rw [show (7 : Nat) = 5 + 2 from rfl, uA_s, if_pos hj]
        rfl
    obtain ⟨d1, d2⟩ := lo_dr (w := clM v 5) (R3 := v 83) (R4 := v 84) hT (cl 1 1 (by decide) (by decide)) (fk (fun j => cl 2 j (by decide) (by decide))) hff (by decide) (by decide) d0
    have k1 : ∀ k j, (k < 5 ∨ k = 6 ∨ 12 ≤ k) → ¬ (k = 38 ∧ j = 2) → ¬ (k = 33 ∧ j = 1) → ¬ (k = 34 ∧ j = 1) → V1 k j = v k j := fun k j a1 a2 a3 a4 => by
      rw [← eV, u2_n a4, u2_n a3, u2_n a2, d2 k j a1, cl k j (by omega) (by omega)]
    have k5 : ∀ k j, 5 ≤ k → k < 12 → V1 k j = loM 5 len 49 0 1 (clM v 5) k j := fun k j a1 a2 => by
      rw [← eV, u2_n (by omega), u2_n (by omega), u2_n (by omega)]
    have hT1 : Txt V1 len := hT.k (fun k j hk => k1 k j (by omega) (by omega) (by omega) (by omega))
    have eC : (if V1 1 1 = 0 ∨ ¬ V1 2 0 = 78 then 0 else ffF V1 len 49 0 0 1) = -9 := by
      rw [ffF_congr (v := v) (w := V1) (k1 1 1 (by omega) (by omega) (by omega) (by omega)) (fk (fun j => k1 2 j (by omega) (by omega) (by omega) (by omega))), k1 1 1 (by omega) (by omega) (by omega) (by omega), k1 2 0 (by omega) (by omega) (by omega) (by omega)]
      exact hf
    have e83 : V1 83 = v 83 := fk (fun j => k1 83 j (by omega) (by omega) (by omega) (by omega))
    have e84 : V1 84 = v 84 := fk (fun j => k1 84 j (by omega) (by omega) (by omega) (by omega))
    have e2 : V1 2 = v 2 := fk (fun j => k1 2 j (by omega) (by omega) (by omega) (by omega))
    have e85 : V1 85 = v 85 := fk (fun j => k1 85 j (by omega) (by omega) (by omega) (by omega))
    have eR : ∀ m p s pl R3 R4, rdR V1 len m p s pl R3 R4 = rdR v len m p s pl R3 R4 := by
      intro m
      induction m with
      | zero => intros; rfl
      | succ m ih =>
        intro p s pl R3 R4
        unfold rdR
        rw [e2, ih, ih]
        unfold pnR snR
        rw [e85]
    have hx : V1 5 2 = nI (rdR v len 49 0 0 1 (v 83) (v 84)).1 := by rw [k5 5 2 (by decide) (by decide)]; exact d1.1
    refine Fq.mono (c_X10_desk (L := cc) hT1) (fun a b K q => ?_)
    obtain ⟨xa, e1, q⟩ := q
    subst e1
    rcases q with ⟨q1, -⟩ | ⟨-, bm, hA, b6, b7, b83, b84, hRo, ea, eb, eK⟩
    · exact absurd eC q1
    rw [e83, e84, eR] at *
    generalize er : rdR v len 49 0 0 1 (v 83) (v 84) = r at *
    subst ea eb eK
    refine ⟨by rw [hx], ⟨_, rfl⟩, ?_⟩
    have bk : ∀ k j, k < 79 → bm k j = V1 k j := fun k j hk => hA k j (by omega) (by omega) (by omega)
    have dr : DR bm r.1 r.2.2.1 r.2.1 r.2.2.2 := by
      obtain ⟨x1, x2, x3, x4⟩ := d1
      have r4 : r.1 ≤ 4 := hRo.1
      refine ⟨by rw [bk 5 2 (by decide), k5 5 2 (by decide) (by decide)]; exact x1, by rw [bk 5 3 (by decide), k5 5 3 (by decide) (by decide)]; exact x2, fun j hj => by rw [bk 7 j (by decide), k5 7 j (by decide) (by decide)]; exact x3 j hj, fun q hq => ?_⟩
      obtain ⟨y0, y1, y2, y3, y4, y5, y6⟩ := x4 q hq
      have g : ∀ j, bm (8 + q) j = loM 5 len 49 0 1 (clM v 5) (8 + q) j := fun j => by rw [bk _ j (by omega), k5 _ j (by omega) (by omega)]
      exact ⟨(g 0).trans y0, (g 1).trans y1, (g 2).trans y2, (g 3).trans y3, (g 4).trans y4, (g 5).trans y5, (g 6).trans y6⟩
    obtain ⟨s1, s2⟩ := desk_SR hRo b83 b84 dr
    obtain ⟨-, -, -, -, t0, t15, t90, t91, tk⟩ := dk_at (b := bm) (n := r.1) (s := r.2.1) hRo.1 hRo.2.1 (by rw [b84]; exact hRo.2.2.2)
    generalize dkM bm r.1 r.2.1 = U at *
    have uk : ∀ k j, k ≠ 80 → k ≠ 81 → k ≠ 82 → k ≠ 83 → k ≠ 84 → ¬ (k = 79 ∧ (j = 0 ∨ j = 15 ∨ j = 6 ∨ j = 7 ∨ j = 10 ∨ j = 11)) → k ≠ 91 → U k j = V1 k j := fun k j a0 a1 a2 a3 a4 a5 a6 => by
      rw [tk k j a0 a1 a2 (by omega) (by omega), hA k j a3 a4 (by omega)]
    have uv : ∀ k j, k ≠ 80 → k ≠ 81 → k ≠ 82 → k ≠ 83 → k ≠ 84 → ¬ (k = 79 ∧ (j = 0 ∨ j = 15 ∨ j = 6 ∨ j = 7 ∨ j = 10 ∨ j = 11)) → k ≠ 91 → (k < 5 ∨ k = 6 ∨ 12 ≤ k) → ¬ (k = 38 ∧ j = 2) → ¬ (k = 33 ∧ j = 1) → ¬ (k = 34 ∧ j = 1) → U k j = v k j := fun k j a0 a1 a2 a3 a4 a5 a6 a7 a8 a9 a10 => by rw [uk k j a0 a1 a2 a3 a4 a5 a6, k1 k j a7 a8 a9 a10]
    refine ⟨⟨len, hT.k (fun k j hk => uv k j (by omega) (by omega) (by omega) (by omega) (by omega) (by omega) (by omega) (by omega) (by omega) (by omega) (by omega))⟩, ⟨w, h2.k (fun k j hk => uv k j (by omega) (by omega) (by omega) (by omega) (by omega) (by omega) (by omega) (by omega) (by omega) (by omega) (by omega))⟩, ⟨r.1, ⟨hRo.1, t0, s1, s2⟩, fun s hs => ?_, f, 0, x, ?_⟩, ⟨e, h6.k (fun k j hk => uv k j (by omega) (by omega) (by omega) (by omega) (by omega) (by omega) (by omega) (by omega) (by omega) (by omega) (by omega))⟩, h7⟩
    · rcases (show s = 0 ∨ s = 1 by omega) with rfl | rfl
      · refine ⟨?_, Or.inl t90⟩
        rw [t90, uk 33 1 (by omega) (by omega) (by omega) (by omega) (by omega) (by omega) (by omega), ← eV, u2_n (by omega), u2_s]
      · refine ⟨?_, Or.inl t91⟩
        rw [t91, uk 34 1 (by omega) (by omega) (by omega) (by omega) (by omega) (by omega) (by omega), ← eV, u2_s]
    · refine ⟨by rw [uv 38 1 (by omega) (by omega) (by omega) (by omega) (by omega) (by omega) (by omega) (by omega) (by omega) (by omega) (by omega)]; exact h5.1, h5.2.1, ?_, by omega, t15, by rw [uv 79 16 (by omega) (by omega) (by omega) (by omega) (by omega) (by omega) (by omega) (by omega) (by omega) (by omega) (by omega)]; exact h5.2.2.2.2.2.1, h5.2.2.2.2.2.2.1, fun i hi => absurd hi (Nat.not_lt_zero i)⟩
      rw [uk 38 2 (by omega) (by omega) (by omega) (by omega) (by omega) (by omega) (by omega), ← eV, u2_n (by omega), u2_n (by omega), u2_s]
      rfl
  · refine Fq.mono (c_X9_desk_n (L := L) hT.2.2.1 hT.2.1 hf) (fun a b cc q => ?_)
    obtain ⟨q1, q2, q3⟩ := q
    subst q1 q2 q3
    refine Fq.mono (c_X10_desk (L := cc) hT) (fun a b K q => ?_)
    obtain ⟨xa, e1, q⟩ := q
    subst e1
    rcases q with ⟨-, e2, e3, e4⟩ | ⟨q1, -⟩
    · subst e2 e4
      exact ⟨rfl, ⟨_, rfl⟩, hR.sme e3.sme⟩
    · exact absurd q1 hf
theorem R.word {v u : Mm} {L : Lm} {w : Nat} (h : R v L) (ht : RW u w) (hu : ∀ k j, ¬ ((k = 3 ∧ j = 1) ∨ k = 4 ∨ k = 86 ∨ (k = 79 ∧ j = 12)) → u k j = v k j) : R u L := by
  obtain ⟨⟨len, h1⟩, -, ⟨n, h3, h4, f, c, x, h5⟩, ⟨e, h6⟩, h7⟩ := h
  exact ⟨⟨len, h1.k (fun k j hk => hu k j (by omega))⟩, ⟨w, ht⟩, ⟨n, h3.k (fun k j hk => hu k j (by omega)), h4.k h3.1 (fun k j hk => hu k j (by omega)), f, c, x, h5.k (fun k j hk => hu k j (by omega))⟩, ⟨e, h6.k (fun k j hk => hu k j (by omega))⟩, h7⟩
theorem sb_word {v : Mm} {L : Lm} {x : Int32} {y : Int64} (h : R v L) : Sbt yX9_word cX9_word 5 (some .int) 4 yX10_word cX10_word 6 (some .int) 1 [.int x, .long y] v L := by
  have hR := h
  obtain ⟨-, ⟨w, h1, h2, h3, h4, h5⟩, -⟩ := h
  by_cases hx : 0 ≤ x ∧ x ≤ 8
  · obtain ⟨n, hn, rfl⟩ := vle (m := 8) (by decide) hx
    by_cases hy : 0 ≤ y ∧ y < tensF (nI n)
    · have hy2 := (lt_t10 (show n ≤ 12 by omega)).mp hy
      obtain ⟨Y, hY, rfl⟩ := lN_of hy.1
      obtain ⟨o1, o2⟩ := od_eq hY n 0 (by omega)
      by_cases ho : odR (lN Y) n 0 = 0
      · exact Sbt.of (c_X9_word_o3 hn ho) (c_X10_word_o3 hn hy2 (o1.mp ho)) rfl hR
      · have hj : odJ (lN Y) n 0 = true := by
          cases z : odJ (lN Y) n 0 with
          | true => rfl
          | false => exact absurd (o1.mpr z) ho
        have hd := o2 hj
        refine Sbt.of (c_X9_word_s hn hy ho) (c_X10_word_s hn hy2 hj) ?_ (hR.word (w := n) ⟨?_, ?_, hn, ?_, fun i hi => ⟨Y / 10 ^ (n - 1 - i) % 10, hd _ (by omega) (by omega), ?_⟩⟩ (fun k j hk => ?_))
        · rw [tl_at hY hn, if_neg (by omega), u2_n (by omega), h1, h2]
        · rw [tw_at hY hn, if_neg (by omega), u2_n (by omega), tl_at hY hn, if_neg (by omega), u2_s]
        · rw [tw_at hY hn, if_neg (by omega), u2_s]
        · funext j
          rw [tw_at hY hn, if_neg (by omega), u2_n (by omega), tl_at hY hn, tw_at hY hn]
          by_cases c : j < n
          · rw [if_pos ⟨rfl, c⟩, if_pos ⟨rfl, c⟩]
          · rw [if_neg (by omega), if_neg (by omega), u2_n (by omega), u2_n (by omega), tl_at hY hn, if_neg (by omega), u2_n (by omega), h4]
        · rw [tw_at hY hn, if_pos ⟨rfl, hi⟩]
        · rw [tw_at hY hn, if_neg (by omega), u2_n (by omega), tl_at hY hn, if_neg (by omega), u2_n (by omega)]
    · exact Sbt.of (c_X9_word_o2 hn hy) (c_X10_word_o2 hn (fun q => hy ((lt_t10 (show n ≤ 12 by omega)).mpr q))) rfl hR
  · exact Sbt.of (c_X9_word_o1 hx) (c_X10_word_o1 hx) rfl hR
theorem sb_dot {v : Mm} {L : Lm} {x : Int32} (h : R v L) : Sbt yX9_dot cX9_dot 2 (some .int) 2 yX10_dot cX10_dot 2 (some .int) 1 [.int x] v L := by
  obtain ⟨n, w, ⟨hn, e0, hS, hT⟩, -⟩ := h.q
  by_cases hx : 0 ≤ x ∧ x < 25
  · obtain ⟨q, hq, rfl⟩ := d25_of hx
    exact Sbt.of (c_X9_dot_s hq) (c_X10_dot_s hq) (by rw [show (7 : Nat) = 5 + 2 from rfl, hS.2.2.1 q hq, lv0_at (by omega)]) h
  · exact Sbt.of (c_X9_dot_u hx) (c_X10_dot_u hx) rfl h
theorem RS.th {v : Mm} {n p : Nat} {e : Int32} (h : RS v n) (hp : p < n) (he : 0 ≤ e ∧ e < 8) : thM v 0 p e = acF (v (5 + 3 + p) 1) (v (5 + 3 + p) 2) (v (5 + 3 + p) 3) e := by
  obtain ⟨hn, e0, hS, hT⟩ := h
  obtain ⟨a0, a1, a2, a3, -⟩ := hS.2.2.2 p hp
  obtain ⟨-, hk, hsa, hsb, -⟩ := hT.1 p hp
  unfold thM
  rw [a1, a2, a3, ← ac_th hk hsa hsb he, lv0_at (by omega), lv0_at (by omega), Nat.mul_zero, Nat.zero_add, Nat.zero_add]
theorem sb_thick {v : Mm} {L : Lm} {x y : Int32} (h : R v L) : Sbt yX9_thick cX9_thick 4 (some .int) 2 yX10_thick cX10_thick 3 (some .int) 2 [.int x, .int y] v L := by
  obtain ⟨n, w, h3, hw, hM, hC, -⟩ := h.q
  have hn := h3.1
  have e0 := h3.2.1
  by_cases hx : 0 ≤ x ∧ x < nI n
  · obtain ⟨p, hp, rfl⟩ := nI_of_in (by omega) hx
    by_cases hy : 0 ≤ y ∧ y < 8
    · exact Sbt.of (c_X9_thick_s hC hp hy) (c_X10_thick_s e0 hn hp hy) (h3.th hp hy) h
    · exact Sbt.of (c_X9_thick_o hC hp hy) (c_X10_thick_o e0 hn hp hy) rfl h
  · exact Sbt.of (c_X9_thick_u hC hx) (c_X10_thick_u e0 hn hx) rfl h
theorem sb_pen {v : Mm} {L : Lm} {x y : Int32} (h : R v L) : Sbt yX9_pen cX9_pen 4 (some .int) 6 yX10_pen cX10_pen 3 (some .int) 5 [.int x, .int y] v L := by
  obtain ⟨n, w, h3, hw, hM, hC, hWS, hc⟩ := h.q
  have hn := h3.1
  have e0 := h3.2.1
  have hS := h3.2.2.1
  have hT := h3.2.2.2
  by_cases hx : 0 ≤ x ∧ x < nI n
  · obtain ⟨p, hp, rfl⟩ := nI_of_in (by omega) hx
    obtain ⟨a0, a1, a2, a3, a4, a5, a6⟩ := hS.2.2.2 p hp
    rcases tsw_0_6 y with rfl | rfl | rfl | rfl | rfl | rfl | rfl | hy
    · exact Sbt.of (c_X9_pen_0 hC hp) (c_X10_pen_0 e0 hn hp) (by rw [a0, lv0_at (by omega)]) h
    · exact Sbt.of (c_X9_pen_1 hC hp) (c_X10_pen_1 e0 hn hp) a1.symm h
    · exact Sbt.of (c_X9_pen_2 hC hp) (c_X10_pen_2 e0 hn hp) (by rw [a2, a3, lv0_at (by omega), lv0_at (by omega)]) h
    · exact Sbt.of (c_X9_pen_3 hC hp) (c_X10_pen_3 e0 hn hp) (by rw [a4, lv0_at (by omega)]) h
    · exact Sbt.of (c_X9_pen_4 hC hp) (c_X10_pen_4 e0 hn hp) a5.symm h
    · exact Sbt.of (c_X9_pen_5 hC hp) (c_X10_pen_5 e0 hn hp) (by rw [a6, bt_of]) h
    · have hV : Sme v (folF 12 (12 + 3 + p) w 0 (trM v n)).2 := (tr_sme hn).tr (fol_sme (by omega))
      have c9 := c_X9_pen_6 (L := L) hC hp hWS
      have h3' := hV.rs h3
      have hw' := hV.rw hw
      have hM' := h3'.m0 hw'
      have tr := tr_TR h3 hw hV
      obtain ⟨w1, w2, w3, w4⟩ := tr.write hc hp
      have le := wrT_le (K := v 80) (W := v 86) (p := p) w 0 (lvT 1 (ltV (folF 12 (12 + 3 + p) w 0 (trM v n)).2))
      refine Sbt.of c9 (c_X10_pen_6 h3'.2.1 hn hp hw'.2.1 hw'.2.2.1 (hM'.2.2.2.2 p hp)) ?_ ((h.sme hV).sme (wo_sme hM' hp))
      have em : woF 1 p 0 (min 8 w) 0 0 (wo0 (ltV (folF 12 (12 + 3 + p) w 0 (trM v n)).2)) = woA (ltV (folF 12 (12 + 3 + p) w 0 (trM v n)).2) p w := rfl
      rw [em, w1, w2.2.2.2.2.2.2, w3]
      have hw8 := hw.2.2.1
      generalize (wrT (v 80) (v 86) p w 0 (lvT 1 (ltV (folF 12 (12 + 3 + p) w 0 (trM v n)).2))).1 = X at *
      by_cases z : X < w
      · rw [if_pos (nI_lt z (by omega)), if_neg (fun q => by have := nIj (by omega) (by omega) q; omega)]
      · rw [if_neg (nI_nlt (by omega) (by omega)), if_pos (by rw [show X = w by omega])]
    · exact Sbt.of (c_X9_pen_o hC hp hy) (c_X10_pen_o e0 hn hp hy) rfl h
  · exact Sbt.of (c_X9_pen_u hC hx) (c_X10_pen_u e0 hn hx) rfl h
theorem z0add (x : Int32) : 0 + x = x := by grind
theorem sb_behind {v : Mm} {L : Lm} {x y z : Int32} (h : R v L) : Sbt yX9_behind cX9_behind 6 (some .int) 5 yX10_behind cX10_behind 5 (some .int) 4 [.int x, .int y, .int z] v L := by
  obtain ⟨n, w, h3, hw, hM, hC, hWS, hc⟩ := h.q
  have hn := h3.1
  have hT0 : Sme v (trM v n) := tr_sme hn
  have e0t : trM v n 79 0 = nI n := by rw [hT0 79 0 (by unfold scr; omega)]; exact h3.2.1
  by_cases hx : 0 ≤ x ∧ x < nI n
  · obtain ⟨p, hp, rfl⟩ := nI_of_in (by omega) hx
    by_cases hy : (0 ≤ y ∧ y ≤ 8) ∧ (0 ≤ z ∧ z ≤ 2)
    · obtain ⟨q, hq, rfl⟩ := vle (m := 8) (by decide) hy.1
      have hV : Sme v (folF 12 (12 + 3 + p) (min q w) 0 (trM v n)).2 := hT0.tr (fol_sme (by omega))
      have h3' := hV.rs h3
      have hw' := hV.rw hw
      have hM' := h3'.m0 hw'
      have tr := tr_TR h3 hw hV
      obtain ⟨w1, w2, w3⟩ := tr.wm hc hp (m := min q w) (by omega)
      have eT : lvT 1 (ltV (folF 12 (12 + 3 + p) (min q w) 0 (trM v n)).2) = lvT 0 v := lt_T.trans hV.T
      have hR2 := (h.sme hV).sme (wo_sme (m := min q w) hM' hp)
      have a4 := (w1.2.2.2 p hp).2.2.2.2.1
      have a0 := (w1.2.2.2 p hp).1
      have at4 : trM v n (12 + 3 + p) 4 = lvT 0 v (12 + p) := ((h3.2.2.1.tr hn).2.2.2 p hp).2.2.2.2.1
      rw [eT] at w2 w3 a4 a0
      rcases sw2 z hy.2 with rfl | rfl | rfl
      · refine Sbt.of (c_X9_behind_0 hC hp hq hWS) (c_X10_behind_s (z := 0) (L := L) h3'.2.1 hn hp hq (by decide) hw'.2.1 hw'.2.2.1 (hM'.2.2.2.2 p hp)) ?_ hR2
        rw [if_pos rfl, a0, ← w2, lvT_at (by omega)]
      · refine Sbt.of (c_X9_behind_1 hC hp hq hWS) (c_X10_behind_s (z := 1) (L := L) h3'.2.1 hn hp hq (by decide) hw'.2.1 hw'.2.2.1 (hM'.2.2.2.2 p hp)) ?_ hR2
        rw [if_neg (by decide), if_pos rfl, a4, ← w2, lvT_at (by omega), show 43 * 1 + (12 + p) = 55 + p by omega]
      · refine Sbt.of (c_X9_behind_2 hC hp hq hWS) (c_X10_behind_s (z := 2) (L := L) h3'.2.1 hn hp hq (by decide) hw'.2.1 hw'.2.2.1 (hM'.2.2.2.2 p hp)) ?_ hR2
        rw [if_neg (by decide), if_neg (by decide), w3, a4, at4, z0add]
    · exact Sbt.of (c_X9_behind_o hC hp hy) (c_X10_behind_o e0t hn hp hy) rfl (h.sme hT0)
  · exact Sbt.of (c_X9_behind_u hC hx) (c_X10_behind_u e0t hn hx) rfl (h.sme hT0)
