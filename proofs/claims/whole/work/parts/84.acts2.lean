/-! acts keep the relation -/
theorem kaR_at {v : Mm} {x : Nat} : ∀ n, n ≤ 43 → ∀ j, itr (fun k w => upd2 w 87 (43 * x + k) (w 82 k)) n v 87 j = if 43 * x ≤ j ∧ j < 43 * x + n then v 82 (j - 43 * x) else v 87 j
  | 0, _, j => by rw [if_neg (by omega)]; rfl
  | n + 1, hn, j => by
    have ih := kaR_at (v := v) (x := x) n (by omega)
    rw [itr_s]
    have e82 : itr (fun k w => upd2 w 87 (43 * x + k) (w 82 k)) n v 82 n = v 82 n := itr_inv (f := fun k w => upd2 w 87 (43 * x + k) (w 82 k)) (fun w => w 82 n = v 82 n) (fun i w hw => by show upd2 w 87 _ _ 82 n = v 82 n; rw [u2_n (fun q => absurd q.1 (by decide))]; exact hw) n v rfl
    rw [e82]
    by_cases c : j = 43 * x + n
    · subst c
      rw [u2_s, if_pos (by omega), show 43 * x + n - 43 * x = n by omega]
    · rw [u2_n (fun q => c q.2), ih]
      by_cases d : 43 * x ≤ j ∧ j < 43 * x + n
      · rw [if_pos d, if_pos (by omega)]
      · rw [if_neg d, if_neg (by omega)]
theorem ka_row {v : Mm} {x c : Nat} : rwT (kaV v x c) x = lvT 0 v ∧ ∀ i, i ≠ x → rwT (kaV v x c) i = rwT v i := by
  have e : ∀ j, kaV v x c 87 j = if 43 * x ≤ j ∧ j < 43 * x + 43 then v 82 (j - 43 * x) else v 87 j := by
    intro j
    unfold kaV
    rw [u2_n (by omega), u2_n (by omega)]
    exact kaR_at 43 (Nat.le_refl _) j
  refine ⟨cut_ext (fun j hj => ?_), fun i hi => cut_ext (fun j hj => ?_)⟩
  · rw [e, if_pos (by omega), show 43 * x + j - 43 * x = 43 * 0 + j by omega]
  · rw [e, if_neg (by omega)]
theorem ka_15 {v : Mm} {x c : Nat} : kaV v x c 79 15 = (if c < 14 then nI (c + 1) else 14) ∧ kaV v x c 79 16 = nI ((x + 1) % 14) := by
  unfold kaV
  exact ⟨u2_s, by rw [u2_n (by decide), u2_s]⟩
/-- an act was noted -/
def Nt (v w : Mm) (f' c' a : Nat) (pen dot : Int32) : Prop := (∀ k j, (k < 38 ∨ 68 ≤ k) → w k j = v k j) ∧ w 38 1 = nI f' ∧ w 38 2 = nI c' ∧ (∀ b, b < 14 → b ≠ a → (∀ j, w (40 + b) j = v (40 + b) j) ∧ ∀ j, w (54 + b) j = v (54 + b) j) ∧ w (40 + a) 1 = pen ∧ w (40 + a) 2 = dot ∧ w (40 + a) 3 = inkF v 5 dot ∧ w (40 + a) 4 = v 5 3
def Hc (f c f' c' a : Nat) : Prop := (c < 14 ∧ f' = f ∧ c' = c + 1 ∧ a = (f + c) % 14) ∨ (c = 14 ∧ f' = (f + 1) % 14 ∧ c' = 14 ∧ a = f)
theorem act_at {v : Mm} {a : Nat} {pen dot : Int32} : actM v a 5 pen dot a 1 = pen ∧ actM v a 5 pen dot a 2 = dot ∧ actM v a 5 pen dot a 3 = inkF v 5 dot ∧ actM v a 5 pen dot a 4 = v 5 3 := by
  unfold actM
  refine ⟨?_, ?_, ?_, ?_⟩
  · rw [u2_n (by omega), u2_n (by omega), u2_n (by omega), u2_s]
  · rw [u2_n (by omega), u2_n (by omega), u2_s]
  · rw [u2_n (by omega), u2_s]
  · rw [u2_s]
theorem inkF_k {v w : Mm} {dot : Int32} (h : w 7 = v 7) : inkF w 5 dot = inkF v 5 dot := by
  unfold inkF
  rw [show 5 + 2 = 7 from rfl, h]
theorem nnN_nt {v : Mm} {f c : Nat} {y : Int32} (hA : ASt v f c) : ∃ f' c' a, Hc f c f' c' a ∧ a < 14 ∧ Nt v (nnN v f c y) f' c' a (-9) y := by
  obtain ⟨h1, h2, h3, h4⟩ := hA
  by_cases hc : c < 14
  · refine ⟨f, c + 1, (f + c) % 14, Or.inl ⟨hc, rfl, rfl, rfl⟩, by omega, fun k j hk => nnN_away h2 hk, ?_⟩
    have e : nnN v f c y = actM (upd2 v 38 2 (nI (c + 1))) (40 + (f + c) % 14) 5 (-9) y := if_pos hc
    rw [e]
    obtain ⟨a1, a2, a3, a4⟩ := act_at (v := upd2 v 38 2 (nI (c + 1))) (a := 40 + (f + c) % 14) (pen := -9) (dot := y)
    refine ⟨by rw [actM_away (by omega), u2_n (by decide)]; exact h1, by rw [actM_away (by omega), u2_s], fun b hb hba => ⟨fun j => by rw [actM_away (by omega), u2_n (by omega)], fun j => by rw [actM_away (by omega), u2_n (by omega)]⟩, a1, a2, ?_, ?_⟩
    · rw [a3]; exact inkF_k (u2_g (by decide))
    · rw [a4, u2_n (by decide)]
  · have c14 : c = 14 := by omega
    refine ⟨(f + 1) % 14, 14, f, Or.inr ⟨c14, rfl, rfl, rfl⟩, h2, fun k j hk => nnN_away h2 hk, ?_⟩
    have e : nnN v f c y = actM (upd2 v 38 1 (nI ((f + 1) % 14))) (40 + f) 5 (-9) y := if_neg hc
    rw [e]
    obtain ⟨a1, a2, a3, a4⟩ := act_at (v := upd2 v 38 1 (nI ((f + 1) % 14))) (a := 40 + f) (pen := -9) (dot := y)
    refine ⟨by rw [actM_away (by omega), u2_s], by rw [actM_away (by omega), u2_n (by decide), h3, c14], fun b hb hba => ⟨fun j => by rw [actM_away (by omega), u2_n (by omega)], fun j => by rw [actM_away (by omega), u2_n (by omega)]⟩, a1, a2, ?_, ?_⟩
    · rw [a3]; exact inkF_k (u2_g (by decide))
    · rw [a4, u2_n (by decide)]
theorem nnS_nt {v : Mm} {f c p : Nat} {y : Int32} (hA : ASt v f c) (hp : p < 4) : ∃ f' c' a, Hc f c f' c' a ∧ a < 14 ∧ Nt v (nnS v f c p y) f' c' a (nI p) y ∧ ∀ j, j < 7 → nnS v f c p y (54 + a) j = v (5 + 3 + p) j := by
  obtain ⟨h1, h2, h3, h4⟩ := hA
  by_cases hc : c < 14
  · have e : nnS v f c p y = pcM (actM (upd2 v 38 2 (nI (c + 1))) (40 + (f + c) % 14) 5 (nI p) y) (54 + (f + c) % 14) (5 + 3 + p) := if_pos hc
    refine ⟨f, c + 1, (f + c) % 14, Or.inl ⟨hc, rfl, rfl, rfl⟩, by omega, ⟨fun k j hk => nnS_away h2 hk, ?_⟩, fun j hj => ?_⟩
    · rw [e]
      obtain ⟨a1, a2, a3, a4⟩ := act_at (v := upd2 v 38 2 (nI (c + 1))) (a := 40 + (f + c) % 14) (pen := nI p) (dot := y)
      refine ⟨by rw [pcM_at, if_neg (by omega), actM_away (by omega), u2_n (by decide)]; exact h1, by rw [pcM_at, if_neg (by omega), actM_away (by omega), u2_s], fun b hb hba => ⟨fun j => by rw [pcM_at, if_neg (by omega), actM_away (by omega), u2_n (by omega)], fun j => by rw [pcM_at, if_neg (by omega), actM_away (by omega), u2_n (by omega)]⟩, by rw [pcM_at, if_neg (by omega)]; exact a1, by rw [pcM_at, if_neg (by omega)]; exact a2, ?_, ?_⟩
      · rw [pcM_at, if_neg (by omega), a3]; exact inkF_k (u2_g (by decide))
      · rw [pcM_at, if_neg (by omega), a4, u2_n (by decide)]
    · rw [e, pcM_at, if_pos ⟨rfl, hj⟩, actM_away (by omega), u2_n (by omega)]
  · have c14 : c = 14 := by omega
    have e : nnS v f c p y = pcM (actM (upd2 v 38 1 (nI ((f + 1) % 14))) (40 + f) 5 (nI p) y) (54 + f) (5 + 3 + p) := if_neg hc
    refine ⟨(f + 1) % 14, 14, f, Or.inr ⟨c14, rfl, rfl, rfl⟩, h2, ⟨fun k j hk => nnS_away h2 hk, ?_⟩, fun j hj => ?_⟩
    · rw [e]
      obtain ⟨a1, a2, a3, a4⟩ := act_at (v := upd2 v 38 1 (nI ((f + 1) % 14))) (a := 40 + f) (pen := nI p) (dot := y)
      refine ⟨by rw [pcM_at, if_neg (by omega), actM_away (by omega), u2_s], by rw [pcM_at, if_neg (by omega), actM_away (by omega), u2_n (by decide), h3, c14], fun b hb hba => ⟨fun j => by rw [pcM_at, if_neg (by omega), actM_away (by omega), u2_n (by omega)], fun j => by rw [pcM_at, if_neg (by omega), actM_away (by omega), u2_n (by omega)]⟩, by rw [pcM_at, if_neg (by omega)]; exact a1, by rw [pcM_at, if_neg (by omega)]; exact a2, ?_, ?_⟩
      · rw [pcM_at, if_neg (by omega), a3]; exact inkF_k (u2_g (by decide))
      · rw [pcM_at, if_neg (by omega), a4, u2_n (by decide)]
    · rw [e, pcM_at, if_pos ⟨rfl, hj⟩, actM_away (by omega), u2_n (by omega)]
/-- what a call that is an act must show -/
theorem R.act {v w w2 v2 : Mm} {L : Lm} {len wd n f c x e f' c' a : Nat} {pen dot : Int32} (h1 : Txt v len) (h2 : RW v wd) (h3 : RS v n) (h4 : RK v n) (h5 : RA v n f c x) (h6 : RN v e) (h7 : L 0 = L 79) (hc : Hc f c f' c' a) (ha : a < 14) (hN : Nt v w f' c' a pen dot) (hw2 : ∀ k j, ¬ (5 ≤ k ∧ k < 12) → w2 k j = w k j) (hv2 : ∀ k j, ¬ (k = 82 ∧ j < 43) → v2 k j = kaV w2 x c k j) (hS : SR w2 5 (v 80) (v 81) (lvT 0 v2) n) (hT : TOk (v 80) (v 81) (lvT 0 v2) n) (hA : AR w n a (v 80) (v 81) (lvT 0 v) (lvT 0 v2)) : R v2 L := by
  obtain ⟨n0, n1, n2, n3, n4, n5, n6, n7⟩ := hN
  have hn := h3.1
  obtain ⟨g1, g2, g3, g4, g5, g6, g7, g8⟩ := h5
  have base : ∀ k j, k ≠ 87 → ¬ (k = 79 ∧ (j = 15 ∨ j = 16)) → ¬ (5 ≤ k ∧ k < 12) → ¬ (k = 82 ∧ j < 43) → v2 k j = w k j := fun k j k1 k2 k3 k4 => by
    rw [hv2 k j k4, kaV_away k1 k2, hw2 k j k3]
  have keep : ∀ k j, (k < 38 ∨ 68 ≤ k) → k ≠ 87 → ¬ (k = 79 ∧ (j = 15 ∨ j = 16)) → ¬ (5 ≤ k ∧ k < 12) → ¬ (k = 82 ∧ j < 43) → v2 k j = v k j := fun k j k0 k1 k2 k3 k4 => (base k j k1 k2 k3 k4).trans (n0 k j k0)
  have e80 : v2 80 = v 80 := fk (fun j => keep 80 j (by omega) (by omega) (by omega) (by omega) (by omega))
  have e81 : v2 81 = v 81 := fk (fun j => keep 81 j (by omega) (by omega) (by omega) (by omega) (by omega))
  have w82 : lvT 0 w2 = lvT 0 v := lv0_k (fun j hj => by rw [hw2 82 j (by omega), n0 82 j (by omega)])
  have cl : ∀ k j, 5 ≤ k → k < 12 → v2 k j = w2 k j := fun k j k1 k2 => by rw [hv2 k j (by omega), kaV_away (by omega) (by omega)]
  refine ⟨⟨len, h1.k (fun k j hk => keep k j (by omega) (by omega) (by omega) (by omega) (by omega))⟩, ⟨wd, h2.k (fun k j hk => keep k j (by omega) (by omega) (by omega) (by omega) (by omega))⟩, ⟨n, ⟨hn, ?_, ?_, ?_⟩, h4.k hn (fun k j hk => keep k j (by omega) (by omega) (by omega) (by omega) (by omega)), f', c', (x + 1) % 14, ?_⟩, ⟨e, h6.k (fun k j hk => keep k j (by omega) (by omega) (by omega) (by omega) (by omega))⟩, h7⟩
  · rw [keep 79 0 (by omega) (by omega) (by omega) (by omega) (by omega)]; exact h3.2.1
  · rw [e80, e81]; exact hS.same hn (fun k j k1 k2 => cl k j k1 (by omega))
  · rw [e80, e81]; exact hT
  · refine RA.note ⟨g1, g2, g3, g4, g5, g6, g7, g8⟩ h3 hc ?_ ?_ ?_ ?_ (fun b hb hba => ⟨fun j => ?_, fun j => ?_⟩) (fun i hi hix => ?_) ?_ e80 e81 ?_
    · rw [base 38 1 (by omega) (by omega) (by omega) (by omega)]; exact n1
    · rw [base 38 2 (by omega) (by omega) (by omega) (by omega)]; exact n2
    · rw [hv2 79 15 (by omega), ka_15.1]
      rcases hc with q | q
      · rw [if_pos q.1, q.2.2.1]
      · rw [if_neg (by omega), q.2.2.1]; rfl
    · rw [hv2 79 16 (by omega), ka_15.2]
    · rw [base _ j (by omega) (by omega) (by omega) (by omega)]; exact (n3 b hb hba).1 j
    · rw [base _ j (by omega) (by omega) (by omega) (by omega)]; exact (n3 b hb hba).2 j
    · have : rwT v2 i = rwT (kaV w2 x c) i := cut_ext (fun j _ => hv2 87 _ (by omega))
      rw [this, ka_row.2 i hix]
      exact cut_ext (fun j _ => by rw [hw2 87 _ (by omega), n0 87 _ (by omega)])
    · have : rwT v2 x = rwT (kaV w2 x c) x := cut_ext (fun j _ => hv2 87 _ (by omega))
      rw [this, ka_row.1, w82]
    · exact hA.k (fun j => base _ j (by omega) (by omega) (by omega) (by omega)) (fun j => base _ j (by omega) (by omega) (by omega) (by omega))
theorem RA.ast {v : Mm} {n f c x : Nat} (h : RA v n f c x) : ASt v f c := ⟨h.1, h.2.1, h.2.2.1, h.2.2.2.1⟩
theorem ka_lv {v : Mm} {x c : Nat} : lvT 0 (kaV v x c) = lvT 0 v := lv0_k (fun j _ => kaV_away (by decide) (by omega))
theorem ka_f {v : Mm} {x c k : Nat} (h1 : k ≠ 87) (h2 : k ≠ 79) : kaV v x c k = v k := funext fun j => kaV_away h1 (fun q => h2 q.1)
theorem PR.cp {v w : Mm} {k k' p : Nat} {K H T : Tn} (h : PR v k K H T p) (hw : ∀ j, j < 7 → w k' j = v k j) : PR w k' K H T p := by
  obtain ⟨a0, a1, a2, a3, a4, a5, a6⟩ := h
  exact ⟨(hw 0 (by decide)).trans a0, (hw 1 (by decide)).trans a1, (hw 2 (by decide)).trans a2, (hw 3 (by decide)).trans a3, (hw 4 (by decide)).trans a4, (hw 5 (by decide)).trans a5, (hw 6 (by decide)).trans a6⟩
theorem n9j {j : Nat} (h : j < 25) : ¬ (-9 : Int32) = nI j := fun q => nI_ne9 (by omega) q.symm
theorem sb_step {v : Mm} {L : Lm} {x y : Int32} (h : R v L) : Sbt yX9_step cX9_step 5 (some .int) 4 yX10_step cX10_step 3 (some .int) 3 [.int x, .int y] v L := by
  have hR := h
  obtain ⟨⟨len, h1⟩, ⟨wd, h2⟩, ⟨n, h3, h4, f, c, xq, h5⟩, ⟨e, h6⟩, h7⟩ := h
  obtain ⟨hn, e0, hS, hT⟩ := h3
  have hC := hS.cst hT hn
  by_cases hx : 0 ≤ x ∧ x < nI n
  · obtain ⟨p, hp, rfl⟩ := nI_of_in (by omega) hx
    by_cases hy : 0 ≤ y ∧ y < 8
    · have enb := hS.nb hT hp hy
      by_cases hnd : ndF (lvT 0 v p) y = -9
      · exact Sbt.of (c_X9_step_n hC hp hy (enb.trans hnd)) (c_X10_step_n e0 hn hp hy (by rw [← hnd, lvT_at (by omega), Nat.mul_zero, Nat.zero_add])) rfl hR
      · obtain ⟨q, hq, eq⟩ := hT.nd hp hy hnd
        have hnb : ¬ nbF (v (5 + 3 + p) 0) y = -9 := by rw [enb]; exact hnd
        obtain ⟨f', c', a, hc, ha, hN, hcp⟩ := nnS_nt (y := nbF (v (5 + 3 + p) 0) y) h5.ast (show p < 4 by omega)
        have n0 := hN.1
        generalize eW : nnS v f c p (nbF (v (5 + 3 + p) 0) y) = W at *
        have hSW : SR W 5 (v 80) (v 81) (lvT 0 v) n := hS.same hn (fun k j k1 k2 => n0 k j (by omega))
        have hS2 := hSW.mv s5 hT hn hp hy hnd
        have mv9 : ∀ k j, ¬ (5 ≤ k ∧ k < 12) → mvV W 5 (5 + 3 + p) y k j = W k j := fun k j hk => mvV_away (by omega) (by omega) (by omega)
        have c9 := c_X9_step_s (L := L) hC hp hy hnb h5.ast
        rw [eW] at c9
        generalize eV : mvV W 5 (5 + 3 + p) y = V1 at *
        have lv1 : lvT 0 V1 = lvT 0 v := lv0_k (fun j hj => by rw [mv9 82 j (by omega), n0 82 j (by omega)])
        have k80 : kaV V1 xq c 80 = v 80 := by rw [ka_f (by decide) (by decide)]; exact fk (fun j => by rw [mv9 80 j (by omega), n0 80 j (by omega)])
        have eqk : ndF (kaV V1 xq c 82 (43 * 0 + p)) y = nI q := by rw [show kaV V1 xq c 82 (43 * 0 + p) = lvT 0 (kaV V1 xq c) p from (lvT_at (by omega)).symm, ka_lv, lv1]; exact eq
        obtain ⟨t1, t2⟩ := msT (v := kaV V1 xq c) (l := 0) (by omega) hq eqk
        rw [k80, ka_lv, lv1] at t1 t2
        have v1k : ∀ k j, (k = 79 ∧ (j = 0 ∨ j = 15 ∨ j = 16)) ∨ (k = 82 ∧ j < 43) → V1 k j = v k j := fun k j hk => by rw [mv9 k j (by omega), n0 k j (by omega)]
        have c0 := c_X10_step_s (v := V1) (L := L) (n := n) (p := p) (xq := xq) (c := c) (q := q) (y := y) (by rw [v1k 79 0 (by omega)]; exact e0) hn hp hy hq (by rw [v1k 82 p (by omega), ← eq, lvT_at (by omega), Nat.mul_zero, Nat.zero_add]) h5.2.2.2.2.2.2.1 (by rw [v1k 79 16 (by omega)]; exact h5.2.2.2.2.2.1) (by rw [v1k 79 15 (by omega)]; exact h5.2.2.2.2.1) h5.2.2.2.1
        refine Sbt.of c9 c0 ?_ ?_
        · rw [t2, hSW.mvl hT hn hp hy]
        · refine R.act (w := W) (w2 := V1) h1 h2 ⟨hn, e0, hS, hT⟩ h4 h5 h6 h7 hc ha hN mv9 (fun k j hk => ?_) ?_ ?_ ?_
          · by_cases c82 : k = 82
            · subst c82
              have hj : 43 ≤ j := by omega
              unfold msV
              try dsimp only
              rw [show ndF (kaV V1 xq c 82 (43 * 0 + p)) y = nI q from eqk, nI_clamp (by omega), u2_n (by omega), u2_n (by omega), u2_n (by omega), u2_n (by omega)]
            · exact msV_away c82
          · rw [t1]; exact hS2
          · rw [t1]; exact hT.st hn hp hy hnd
          · rw [t1]
            obtain ⟨-, -, -, -, m1, m2, m3, m4⟩ := hN
            refine ⟨by rw [m4]; exact hS.2.1, fun j hj => ?_, Or.inr ⟨p, hp, m1, (hS.2.2.2 p hp).cp hcp, fun r hr hrp => ⟨?_, ?_, ?_, ?_, ?_⟩⟩⟩
            · rw [m2, m3, enb, eq]
              by_cases z : q = j
              · subst z
                rw [if_pos rfl]
                unfold inkF
                rw [if_pos (of_d25 hq), nI_clamp (by omega)]
                exact (hS.2.2.1 q hq).symm
              · rw [if_neg (fun y => z (nIj (by omega) (by omega) y)), stT_n hq eq (by omega) (by omega) (by omega) (by omega)]
            · rw [stT_n hq eq (by omega) (by omega) (by omega) hrp]
            · rw [stT_n hq eq (by omega) (by omega) (by omega) (by omega)]
            · rw [stT_n hq eq (by omega) (by omega) (by omega) (by omega)]
            · rw [stT_n hq eq (by omega) (by omega) (by omega) (by omega)]
            · rw [stT_bt (by omega) hq eq]
    · exact Sbt.of (c_X9_step_o hC hp hy) (c_X10_step_o e0 hn hp hy) rfl hR
  · exact Sbt.of (c_X9_step_u hC hx) (c_X10_step_u e0 hn hx) rfl hR
theorem lv0_at {v : Mm} {j : Nat} (h : j < 43) : lvT 0 v j = v 82 j := by rw [lvT_at h, Nat.mul_zero, Nat.zero_add]
theorem up0_T {v : Mm} {i : Nat} {x : Int32} (hi : i < 43) : lvT 0 (upd2 v 82 i x) = uf (lvT 0 v) i x := by
  have := up_T (v := v) (l := 0) (i := i) (x := x) hi
  rw [Nat.mul_zero, Nat.zero_add] at this
  exact this
theorem bt_of {u : Mm} {p : Nat} : (u 82 16 >>> (nI p &&& 31)) &&& 1 = btT (lvT 0 u) p := by
  unfold btT
  rw [lv0_at (by decide)]
/-- acts of a pen that is noted with no dot -/
theorem pen_act {v : Mm} {L : Lm} {len wd n f c xq e p : Nat} (h1 : Txt v len) (h2 : RW v wd) (h3 : RS v n) (h4 : RK v n) (h5 : RA v n f c xq) (h6 : RN v e) (h7 : L 0 = L 79) (hp : p < n) {V1 v2 : Mm} (hV1 : ∀ k j, ¬ (5 ≤ k ∧ k < 12) → V1 k j = nnS v f c p (-9) k j) (hv2 : ∀ k j, ¬ (k = 82 ∧ j < 43) → v2 k j = kaV V1 xq c k j) (hS : SR V1 5 (v 80) (v 81) (lvT 0 v2) n) (hT : TOk (v 80) (v 81) (lvT 0 v2) n) (hd : ∀ j, j < 25 → lvT 0 v2 (18 + j) = lvT 0 v (18 + j)) (hr : ∀ r, r < n → r ≠ p → SP (lvT 0 v) (lvT 0 v2) r) : R v2 L := by
  have hn := h3.1
  obtain ⟨f', c', a, hc, ha, hN, hcp⟩ := nnS_nt (y := -9) h5.ast (show p < 4 by omega)
  refine R.act (w := nnS v f c p (-9)) (w2 := V1) h1 h2 h3 h4 h5 h6 h7 hc ha hN hV1 hv2 hS hT ?_
  obtain ⟨-, -, -, -, m1, m2, m3, m4⟩ := hN
  exact ⟨by rw [m4]; exact h3.2.2.1.2.1, fun j hj => by rw [m2, if_neg (n9j hj), hd j hj], Or.inr ⟨p, hp, m1, (h3.2.2.1.2.2.2 p hp).cp hcp, hr⟩⟩
theorem sb_put {v : Mm} {L : Lm} {x : Int32} (h : R v L) : Sbt yX9_put cX9_put 3 (some .int) 4 yX10_put cX10_put 2 (some .int) 2 [.int x] v L := by
  have hR := h
  obtain ⟨⟨len, h1⟩, ⟨wd, h2⟩, ⟨n, h3, h4, f, c, xq, h5⟩, ⟨e, h6⟩, h7⟩ := h
  have h3' := h3
  obtain ⟨hn, e0, hS, hT⟩ := h3
  have hC := hS.cst hT hn
  by_cases hx : 0 ≤ x ∧ x < nI n
  · obtain ⟨p, hp, rfl⟩ := nI_of_in (by omega) hx
    have c9 := c_X9_put_s (L := L) hC hp h5.ast
    have n0 : ∀ k j, (k < 38 ∨ 68 ≤ k) → nnS v f c p (-9) k j = v k j := fun k j hk => nnS_away h5.2.1 hk
    have hSW : SR (nnS v f c p (-9)) 5 (v 80) (v 81) (lvT 0 v) n := hS.same hn (fun k j k1 k2 => n0 k j (by omega))
    have hS2 := hSW.put hT hn hp
    have w9 : ∀ k j, ¬ (5 ≤ k ∧ k < 12) → upd2 (nnS v f c p (-9)) (5 + 3 + p) 6 (b01 (nnS v f c p (-9) (5 + 3 + p) 6 = 0)) k j = nnS v f c p (-9) k j := fun k j hk => u2_n (by omega)
    have e6 : nnS v f c p (-9) (5 + 3 + p) 6 = btT (lvT 0 v) p := (hSW.2.2.2 p hp).2.2.2.2.2.2
    generalize eV : upd2 (nnS v f c p (-9)) (5 + 3 + p) 6 (b01 (nnS v f c p (-9) (5 + 3 + p) 6 = 0)) = V1 at *
    have v1k : ∀ k j, ((k = 79 ∧ (j = 0 ∨ j = 15 ∨ j = 16)) ∨ k = 82) → V1 k j = v k j := fun k j hk => by rw [w9 k j (by omega), n0 k j (by omega)]
    have c0 := c_X10_put_s (v := V1) (L := L) (n := n) (p := p) (xq := xq) (c := c) (by rw [v1k 79 0 (by omega)]; exact e0) hn hp h5.2.2.2.2.2.2.1 (by rw [v1k 79 16 (by omega)]; exact h5.2.2.2.2.2.1) (by rw [v1k 79 15 (by omega)]; exact h5.2.2.2.2.1) h5.2.2.2.1
    have lk : lvT 0 (kaV V1 xq c) = lvT 0 v := ka_lv.trans (lv0_k (fun j hj => v1k 82 j (by omega)))
    have lT : lvT 0 (upd2 (kaV V1 xq c) 82 16 (kaV V1 xq c 82 16 ^^^ bit1 p)) = puT (lvT 0 v) p := by
      rw [up0_T (by decide), ← lv0_at (v := kaV V1 xq c) (show 16 < 43 by decide), lk]
      rfl
    refine Sbt.of c9 c0 ?_ ?_
    · rw [bt_of, lT, hT.puB hn (by omega) (by omega), if_pos rfl]
      exact b01_congr (by rw [e6])
    · refine pen_act h1 h2 h3' h4 h5 h6 h7 hp w9 (fun k j hk => u2_n (by omega)) (by rw [lT]; exact hS2) (by rw [lT]; exact hT.put hn hp) (fun j hj => by rw [lT, puT_n (by omega)]) (fun r hr hrp => ?_)
      rw [lT]
      exact ⟨(puT_n (by omega)).symm, (puT_n (by omega)).symm, (puT_n (by omega)).symm, (puT_n (by omega)).symm, by rw [hT.puB hn (by omega) (by omega), if_neg hrp]⟩
  · exact Sbt.of (c_X9_put_u hC hx) (c_X10_put_u e0 hn hx) rfl hR
theorem sb_turn {v : Mm} {L : Lm} {x : Int32} (h : R v L) : Sbt yX9_turn cX9_turn 3 (some .int) 4 yX10_turn cX10_turn 2 (some .int) 2 [.int x] v L := by
  have hR := h
  obtain ⟨⟨len, h1⟩, ⟨wd, h2⟩, ⟨n, h3, h4, f, c, xq, h5⟩, ⟨e, h6⟩, h7⟩ := h
  have h3' := h3
  obtain ⟨hn, e0, hS, hT⟩ := h3
  have hC := hS.cst hT hn
  by_cases hx : 0 ≤ x ∧ x < nI n
  · obtain ⟨p, hp, rfl⟩ := nI_of_in (by omega) hx
    have c9 := c_X9_turn_s (L := L) hC hp h5.ast
    have n0 : ∀ k j, (k < 38 ∨ 68 ≤ k) → nnS v f c p (-9) k j = v k j := fun k j hk => nnS_away h5.2.1 hk
    have hSW : SR (nnS v f c p (-9)) 5 (v 80) (v 81) (lvT 0 v) n := hS.same hn (fun k j k1 k2 => n0 k j (by omega))
    have hS2 := hSW.turn hn hp
    have w9 : ∀ k j, ¬ (5 ≤ k ∧ k < 12) → upd2 (upd2 (nnS v f c p (-9)) (5 + 3 + p) 2 (-(nnS v f c p (-9) (5 + 3 + p) 3))) (5 + 3 + p) 3 (nnS v f c p (-9) (5 + 3 + p) 2) k j = nnS v f c p (-9) k j := fun k j hk => by rw [u2_n (by omega), u2_n (by omega)]
    generalize eV : upd2 (upd2 (nnS v f c p (-9)) (5 + 3 + p) 2 (-(nnS v f c p (-9) (5 + 3 + p) 3))) (5 + 3 + p) 3 (nnS v f c p (-9) (5 + 3 + p) 2) = V1 at *
    have v1k : ∀ k j, ((k = 79 ∧ (j = 0 ∨ j = 15 ∨ j = 16)) ∨ k = 82) → V1 k j = v k j := fun k j hk => by rw [w9 k j (by omega), n0 k j (by omega)]
    have c0 := c_X10_turn_s (v := V1) (L := L) (n := n) (p := p) (xq := xq) (c := c) (by rw [v1k 79 0 (by omega)]; exact e0) hn hp h5.2.2.2.2.2.2.1 (by rw [v1k 79 16 (by omega)]; exact h5.2.2.2.2.2.1) (by rw [v1k 79 15 (by omega)]; exact h5.2.2.2.2.1) h5.2.2.2.1
    have lk : lvT 0 (kaV V1 xq c) = lvT 0 v := ka_lv.trans (lv0_k (fun j hj => v1k 82 j (by omega)))
    have lT : lvT 0 (tuV (kaV V1 xq c) 0 p) = tuT (lvT 0 v) p := by rw [tu_T (by omega), lk]
    refine Sbt.of c9 c0 ?_ ?_
    · rw [← lv0_at (v := tuV (kaV V1 xq c) 0 p) (show 4 + p < 43 by omega), ← lv0_at (v := tuV (kaV V1 xq c) 0 p) (show 8 + p < 43 by omega), lT, (hS2.2.2.2 p hp).2.2.1, (hS2.2.2.2 p hp).2.2.2.1]
    · refine pen_act h1 h2 h3' h4 h5 h6 h7 hp w9 (fun k j hk => ?_) (by rw [lT]; exact hS2) (by rw [lT]; exact hT.turn hn hp) (fun j hj => by rw [lT, tuT_n (by omega) (by omega)]) (fun r hr hrp => ?_)
      · unfold tuV
        rw [u2_n (by omega), u2_n (by omega)]
      · rw [lT]
        exact ⟨(tuT_n (by omega) (by omega)).symm, (tuT_n (by omega) (by omega)).symm, (tuT_n (by omega) (by omega)).symm, (tuT_n (by omega) (by omega)).symm, (tuT_bt (by omega)).symm⟩
  · exact Sbt.of (c_X9_turn_u hC hx) (c_X10_turn_u e0 hn hx) rfl hR
theorem sb_dip {v : Mm} {L : Lm} {x : Int32} (h : R v L) : Sbt yX9_dip cX9_dip 3 (some .int) 4 yX10_dip cX10_dip 3 (some .int) 2 [.int x] v L := by
  have hR := h
  obtain ⟨⟨len, h1⟩, ⟨wd, h2⟩, ⟨n, h3, h4, f, c, xq, h5⟩, ⟨e, h6⟩, h7⟩ := h
  have h3' := h3
  obtain ⟨hn, e0, hS, hT⟩ := h3
  have hC := hS.cst hT hn
  by_cases hx : 0 ≤ x ∧ x < nI n
  · obtain ⟨p, hp, rfl⟩ := nI_of_in (by omega) hx
    have e4 : v (5 + 3 + p) 4 = v 82 (12 + p) := by rw [(hS.2.2.2 p hp).2.2.2.2.1, lv0_at (by omega)]
    have e5 : v (5 + 3 + p) 5 = v 81 p := (hS.2.2.2 p hp).2.2.2.2.2.1
    by_cases hf : v (5 + 3 + p) 4 = v (5 + 3 + p) 5
    · exact Sbt.of (c_X9_dip_n hC hp hf) (c_X10_dip_n e0 hn hp (by rw [← e4, ← e5]; exact hf)) rfl hR
    · have c9 := c_X9_dip_s (L := L) hC hp hf h5.ast
      have n0 : ∀ k j, (k < 38 ∨ 68 ≤ k) → nnS v f c p (-9) k j = v k j := fun k j hk => nnS_away h5.2.1 hk
      have hSW : SR (nnS v f c p (-9)) 5 (v 80) (v 81) (lvT 0 v) n := hS.same hn (fun k j k1 k2 => n0 k j (by omega))
      have hS2 := hSW.dip hn hp
      have w9 : ∀ k j, ¬ (5 ≤ k ∧ k < 12) → upd2 (nnS v f c p (-9)) (5 + 3 + p) 4 (nnS v f c p (-9) (5 + 3 + p) 5) k j = nnS v f c p (-9) k j := fun k j hk => u2_n (by omega)
      have k45 : nnS v f c p (-9) (5 + 3 + p) 5 - nnS v f c p (-9) (5 + 3 + p) 4 = v 81 p - v 82 (12 + p) := by rw [n0 _ _ (by omega), n0 _ _ (by omega), e4, e5]
      generalize eV : upd2 (nnS v f c p (-9)) (5 + 3 + p) 4 (nnS v f c p (-9) (5 + 3 + p) 5) = V1 at *
      have v1k : ∀ k j, ((k = 79 ∧ (j = 0 ∨ j = 15 ∨ j = 16)) ∨ k = 81 ∨ k = 82) → V1 k j = v k j := fun k j hk => by rw [w9 k j (by omega), n0 k j (by omega)]
      have c0 := c_X10_dip_s (v := V1) (L := L) (n := n) (p := p) (xq := xq) (c := c) (by rw [v1k 79 0 (by omega)]; exact e0) hn hp (by rw [v1k 82 _ (by omega), v1k 81 _ (by omega), ← e4, ← e5]; exact hf) h5.2.2.2.2.2.2.1 (by rw [v1k 79 16 (by omega)]; exact h5.2.2.2.2.2.1) (by rw [v1k 79 15 (by omega)]; exact h5.2.2.2.2.1) h5.2.2.2.1
      have lk : lvT 0 (kaV V1 xq c) = lvT 0 v := ka_lv.trans (lv0_k (fun j hj => v1k 82 j (by omega)))
      have k81 : kaV V1 xq c 81 p = v 81 p := by rw [kaV_away (by decide) (by omega), v1k 81 p (by omega)]
      have lT : lvT 0 (upd2 (kaV V1 xq c) 82 (12 + p) (kaV V1 xq c 81 p)) = diT (v 81) (lvT 0 v) p := by
        rw [up0_T (by omega), lk, k81]
        rfl
      refine Sbt.of c9 c0 ?_ ?_
      · rw [k45, k81, kaV_away (by decide) (by omega), v1k 82 _ (by omega)]
      · refine pen_act h1 h2 h3' h4 h5 h6 h7 hp w9 (fun k j hk => u2_n (by omega)) (by rw [lT]; exact hS2) (by rw [lT]; exact hT.dip hn hp) (fun j hj => by rw [lT, diT_n (by omega)]) (fun r hr hrp => ?_)
        rw [lT]
        exact ⟨(diT_n (by omega)).symm, (diT_n (by omega)).symm, (diT_n (by omega)).symm, (diT_n (by omega)).symm, (diT_bt (by omega)).symm⟩
  · exact Sbt.of (c_X9_dip_u hC hx) (c_X10_dip_u e0 hn hx) rfl hR
theorem sb_blot {v : Mm} {L : Lm} {x : Int32} (h : R v L) : Sbt yX9_blot cX9_blot 2 (some .int) 4 yX10_blot cX10_blot 3 (some .int) 1 [.int x] v L := by
  have hR := h
  obtain ⟨⟨len, h1⟩, ⟨wd, h2⟩, ⟨n, h3, h4, f, c, xq, h5⟩, ⟨e, h6⟩, h7⟩ := h
  have h3' := h3
  obtain ⟨hn, e0, hS, hT⟩ := h3
  by_cases hx : 0 ≤ x ∧ x < 25
  · obtain ⟨q, hq, rfl⟩ := d25_of hx
    have e7 : v 7 q = v 82 (18 + q) := by rw [show (7 : Nat) = 5 + 2 from rfl, hS.2.2.1 q hq, lv0_at (by omega)]
    by_cases z : v 7 q = 0
    · exact Sbt.of (c_X9_blot_n hq z) (c_X10_blot_n hq (by rw [← e7]; exact z)) rfl hR
    · have c9 := c_X9_blot_s (L := L) hq z h5.ast
      obtain ⟨f', c', a, hc, ha, hN⟩ := nnN_nt (y := nI q) h5.ast
      have n0 := hN.1
      generalize eW : nnN v f c (nI q) = W at *
      have hSW : SR W 5 (v 80) (v 81) (lvT 0 v) n := hS.same hn (fun k j k1 k2 => n0 k j (by omega))
      have hS2 := hSW.blot hn hq
      have w9 : ∀ k j, ¬ (5 ≤ k ∧ k < 12) → stM W 5 (nI q) 0 k j = W k j := fun k j hk => stM_away (by omega)
      have ei : inkF W 5 (nI q) = v 82 (18 + q) := by
        unfold inkF
        rw [if_pos (of_d25 hq), nI_clamp (by omega), n0 _ _ (by omega)]
        exact e7
      generalize eV : stM W 5 (nI q) 0 = V1 at *
      have v1k : ∀ k j, ((k = 79 ∧ (j = 0 ∨ j = 15 ∨ j = 16)) ∨ k = 82) → V1 k j = v k j := fun k j hk => by rw [w9 k j (by omega), n0 k j (by omega)]
      have c0 := c_X10_blot_s (v := V1) (L := L) (xq := xq) (c := c) hq (by rw [v1k 82 _ (by omega), ← e7]; exact z) h5.2.2.2.2.2.2.1 (by rw [v1k 79 16 (by omega)]; exact h5.2.2.2.2.2.1) (by rw [v1k 79 15 (by omega)]; exact h5.2.2.2.2.1) h5.2.2.2.1
      have lk : lvT 0 (kaV V1 xq c) = lvT 0 v := ka_lv.trans (lv0_k (fun j hj => v1k 82 j (by omega)))
      have lT : lvT 0 (upd2 (kaV V1 xq c) 82 (18 + q) 0) = blT (lvT 0 v) q := by
        rw [up0_T (by omega), lk]
        rfl
      refine Sbt.of c9 c0 ?_ ?_
      · rw [ei, kaV_away (by decide) (by omega), v1k 82 _ (by omega)]
      · refine R.act (w := W) (w2 := V1) h1 h2 h3' h4 h5 h6 h7 hc ha hN w9 (fun k j hk => u2_n (by omega)) (by rw [lT]; exact hS2) (by rw [lT]; exact hT.blot hn) ?_
        rw [lT]
        obtain ⟨-, -, -, -, m1, m2, m3, m4⟩ := hN
        refine ⟨by rw [m4]; exact hS.2.1, fun j hj => ?_, Or.inl ⟨m1, fun r hr => ?_⟩⟩
        · rw [m2, m3]
          unfold blT
          by_cases y : q = j
          · subst y
            rw [if_pos rfl]
            unfold inkF
            rw [if_pos (of_d25 hq), nI_clamp (by omega)]
            exact (hS.2.2.1 q hq).symm
          · rw [if_neg (fun t => y (nIj (by omega) (by omega) t)), uf_n (by omega)]
        · unfold blT
          refine ⟨(uf_n (by omega)).symm, (uf_n (by omega)).symm, (uf_n (by omega)).symm, (uf_n (by omega)).symm, ?_⟩
          unfold btT
          rw [uf_n (by omega)]
  · exact Sbt.of (c_X9_blot_u hx) (c_X10_blot_u hx) rfl hR
