/-! undoing; slots -/
theorem un_at {v : Mm} {x : Nat} : ∀ n, n ≤ 43 → (∀ j, itr (fun k w => upd2 w 82 k (w 87 (43 * x + k))) n v 82 j = if j < n then v 87 (43 * x + j) else v 82 j) ∧ ∀ k j, k ≠ 82 → itr (fun k w => upd2 w 82 k (w 87 (43 * x + k))) n v k j = v k j
  | 0, _ => ⟨fun j => by rw [if_neg (Nat.not_lt_zero j)]; rfl, fun _ _ _ => rfl⟩
  | n + 1, hn => by
    obtain ⟨i1, i2⟩ := un_at (v := v) (x := x) n (by omega)
    rw [itr_s, i2 87 _ (by decide)]
    refine ⟨fun j => ?_, fun k j hk => by rw [u2_n (fun q => hk q.1)]; exact i2 k j hk⟩
    by_cases c : j = n
    · subst c; rw [u2_s, if_pos (by omega)]
    · rw [u2_n (fun q => c q.2), i1]
      by_cases d : j < n
      · rw [if_pos d, if_pos (by omega)]
      · rw [if_neg d, if_neg (by omega)]
theorem un_T {v : Mm} {x : Nat} : lvT 0 (unV v x) = rwT v x ∧ ∀ k j, k ≠ 82 → unV v x k j = v k j := by
  obtain ⟨a, b⟩ := un_at (v := v) (x := x) 43 (Nat.le_refl _)
  refine ⟨cut_ext (fun j hj => ?_), b⟩
  rw [Nat.mul_zero, Nat.zero_add]
  exact (a j).trans (if_pos hj)
theorem sb_undo {v : Mm} {L : Lm} (h : R v L) : Sbt yX9_undo cX9_undo 1 (some .int) 4 yX10_undo cX10_undo 2 (some .int) 0 [] v L := by
  have hR := h
  obtain ⟨⟨len, h1⟩, ⟨wd, h2⟩, ⟨n, h3, h4, f, c, xq, h5⟩, ⟨e, h6⟩, h7⟩ := h
  obtain ⟨hn, e0, hS, hT⟩ := h3
  obtain ⟨g1, g2, g3, g4, g5, g6, g7, g8⟩ := h5
  by_cases c0 : c = 0
  · subst c0
    exact Sbt.of (c_X9_undo_n (by rw [g3]; rfl)) (c_X10_undo_n (by rw [g5]; rfl)) rfl hR
  · obtain ⟨d, rfl⟩ : ∃ d, c = d + 1 := ⟨c - 1, by omega⟩
    obtain ⟨hA, hTd⟩ := g8 d (by omega)
    have tl : TA v xq (d + 1) (d + 1) = lvT 0 v := if_pos rfl
    have td : TA v xq (d + 1) d = rwT v ((xq + 13) % 14) := by
      unfold TA
      rw [if_neg (by omega), show (xq + 14 - (d + 1) + d) % 14 = (xq + 13) % 14 by omega]
    rw [tl] at hA
    rw [td] at hA hTd
    generalize eT : rwT v ((xq + 13) % 14) = T at *
    generalize ea : (f + d) % 14 = a at *
    have ha : a < 14 := by omega
    obtain ⟨a1, a2, a3⟩ := hA
    -- the sheet without its pens
    have hB : ∀ k j, k ≠ 5 → k ≠ 7 → tbM (upd2 v 38 2 (nI d)) a 5 k j = upd2 v 38 2 (nI d) k j := fun k j k1 k2 => tbM_away k j k1 k2
    have b3 : tbM (upd2 v 38 2 (nI d)) a 5 5 3 = T 17 := by
      unfold tbM
      rw [u2_s, u2_n (by omega)]; exact a1
    have b2 : tbM (upd2 v 38 2 (nI d)) a 5 5 2 = nI n := by rw [tbM_S2, u2_n (by decide)]; exact hS.1
    have b7 : ∀ j, j < 25 → tbM (upd2 v 38 2 (nI d)) a 5 (5 + 2) j = T (18 + j) := by
      intro j hj
      rw [a2 j hj]
      unfold tbM stM
      rw [u2_n (by omega), u2_n (by omega), u2_n (by omega)]
      by_cases z : v (40 + a) 2 = nI j
      · rw [if_pos z, z, if_pos (of_d25 hj), nI_clamp (by omega), u2_s]
      · rw [if_neg z]
        split
        · rename_i y
          rw [u2_n (fun q => z (by
            obtain ⟨i, hi, ei⟩ := d25_of y
            rw [ei, nI_clamp (by omega)] at q
            rw [ei, q.2])), u2_n (by omega), hS.2.2.1 j hj]
        · rw [u2_n (by omega), hS.2.2.1 j hj]
    have fin : ∀ (V1 : Mm), (∀ k j, ¬ (5 ≤ k ∧ k < 12) → V1 k j = upd2 v 38 2 (nI d) k j) → V1 5 2 = nI n → V1 5 3 = T 17 → (∀ j, j < 25 → V1 (5 + 2) j = T (18 + j)) → (∀ p, p < n → PR V1 (5 + 3 + p) (v 80) (v 81) T p) → Fn yX9_undo cX9_undo 1 (some .int) 4 [.ref 0] v L (some (.int (V1 38 2))) V1 L → Sbt yX9_undo cX9_undo 1 (some .int) 4 yX10_undo cX10_undo 2 (some .int) 0 [] v L := by
      intro V1 hV hv2 hv3 hv7 hvp c9
      have vk : ∀ k j, (k < 5 ∨ 12 ≤ k) → ¬ (k = 38 ∧ j = 2) → V1 k j = v k j := fun k j hk hk2 => by rw [hV k j (by omega), u2_n hk2]
      have c0 := c_X10_undo_s (v := V1) (L := L) (x := xq) (c := d) g7 (by rw [vk 79 16 (by omega) (by omega)]; exact g6) (by rw [vk 79 15 (by omega) (by omega)]; exact g5) (by omega)
      obtain ⟨u1, u2'⟩ := un_T (v := upd2 (upd2 V1 79 15 (nI d)) 79 16 (nI ((xq + 13) % 14))) (x := (xq + 13) % 14)
      have e38 : V1 38 2 = nI d := by rw [hV 38 2 (by omega), u2_s]
      have lT : lvT 0 (unV (upd2 (upd2 V1 79 15 (nI d)) 79 16 (nI ((xq + 13) % 14))) ((xq + 13) % 14)) = T := by
        rw [u1, ← eT]
        exact cut_ext (fun j _ => by rw [u2_n (by omega), u2_n (by omega), vk 87 _ (by omega) (by omega)])
      generalize eU : unV (upd2 (upd2 V1 79 15 (nI d)) 79 16 (nI ((xq + 13) % 14))) ((xq + 13) % 14) = U at *
      have uk : ∀ k j, k ≠ 82 → ¬ (k = 79 ∧ (j = 15 ∨ j = 16)) → U k j = V1 k j := fun k j k1 k2 => by rw [u2' k j k1, u2_n (by omega), u2_n (by omega)]
      have ukv : ∀ k j, (k < 5 ∨ 12 ≤ k) → k ≠ 82 → ¬ (k = 79 ∧ (j = 15 ∨ j = 16)) → ¬ (k = 38 ∧ j = 2) → U k j = v k j := fun k j k0 k1 k2 k3 => by rw [uk k j k1 k2, vk k j k0 k3]
      have e80 : U 80 = v 80 := fk (fun j => ukv 80 j (by omega) (by omega) (by omega) (by omega))
      have e81 : U 81 = v 81 := fk (fun j => ukv 81 j (by omega) (by omega) (by omega) (by omega))
      refine Sbt.of c9 c0 e38.symm ⟨⟨len, h1.k (fun k j hk => ukv k j (by omega) (by omega) (by omega) (by omega))⟩, ⟨wd, h2.k (fun k j hk => ukv k j (by omega) (by omega) (by omega) (by omega))⟩, ⟨n, ⟨hn, by rw [ukv 79 0 (by omega) (by omega) (by omega) (by omega)]; exact e0, ?_, by rw [e80, e81, lT]; exact hTd⟩, h4.k hn (fun k j hk => ukv k j (by omega) (by omega) (by omega) (by omega)), f, d, (xq + 13) % 14, ?_⟩, ⟨e, h6.k (fun k j hk => ukv k j (by omega) (by omega) (by omega) (by omega))⟩, h7⟩
      · rw [e80, e81, lT]
        refine ⟨by rw [uk 5 2 (by omega) (by omega)]; exact hv2, by rw [uk 5 3 (by omega) (by omega)]; exact hv3, fun j hj => by rw [uk _ j (by omega) (by omega)]; exact hv7 j hj, fun p hp => (hvp p hp).same (fun j => uk _ j (by omega) (by omega))⟩
      · refine ⟨by rw [ukv 38 1 (by omega) (by omega) (by omega) (by omega)]; exact g1, g2, by rw [uk 38 2 (by omega) (by omega)]; exact e38, by omega, ?_, ?_, by omega, fun i hi => ?_⟩
        · rw [u2' 79 15 (by decide), u2_n (by decide), u2_s]
        · rw [u2' 79 16 (by decide), u2_s]
        · have tt : ∀ j, j ≤ d → TA U ((xq + 13) % 14) d j = TA v xq (d + 1) j := by
            intro j hj
            by_cases z : j = d
            · subst z
              have q1 : TA U ((xq + 13) % 14) j j = lvT 0 U := if_pos rfl
              rw [q1, lT, td]
            · unfold TA
              rw [if_neg z, if_neg (by omega), show ((xq + 13) % 14 + 14 - d + j) % 14 = (xq + 14 - (d + 1) + j) % 14 by omega]
              exact cut_ext (fun i _ => ukv 87 _ (by omega) (by omega) (by omega) (by omega))
          obtain ⟨x1, x2⟩ := g8 i (by omega)
          rw [e80, e81, tt i (by omega), tt (i + 1) (by omega)]
          exact ⟨x1.k (fun j => ukv _ j (by omega) (by omega) (by omega) (by omega)) (fun j => ukv _ j (by omega) (by omega) (by omega) (by omega)), x2⟩
    rcases a3 with ⟨z1, z2⟩ | ⟨p, z1, z2, z3, z4⟩
    · have c9 := c_X9_undo_d (v := v) (L := L) g1 g2 g3 (by omega) (by rw [ea]; exact z1)
      rw [ea] at c9
      refine fin _ (fun k j hk => hB k j (by omega) (by omega)) b2 b3 b7 (fun r hr => ?_) c9
      exact ((hS.2.2.2 r hr).same (fun j => by rw [hB _ j (by omega) (by omega), u2_n (by omega)])).sp (z2 r hr)
    · have c9 := c_X9_undo_s (v := v) (L := L) (p := p) g1 g2 g3 (by omega) (by rw [ea]; exact z2) (by omega) (by rw [hS.1]; exact nI_lt z1 (by omega)) (by rw [ea, z3.2.2.2.2.2.2]; exact hTd.bt hn (by omega))
      rw [ea] at c9
      refine fin _ (fun k j hk => ?_) ?_ ?_ (fun j hj => ?_) (fun r hr => ?_) c9
      · rw [pcM_at, if_neg (by omega)]; exact hB k j (by omega) (by omega)
      · rw [pcM_at, if_neg (by omega)]; exact b2
      · rw [pcM_at, if_neg (by omega)]; exact b3
      · rw [pcM_at, if_neg (by omega)]; exact b7 j hj
      · by_cases y : r = p
        · subst y
          exact z3.cp (fun j hj => by rw [pcM_at, if_pos ⟨rfl, hj⟩, hB _ j (by omega) (by omega), u2_n (by omega)])
        · exact ((hS.2.2.2 r hr).same (fun j => by rw [pcM_at, if_neg (by omega), hB _ j (by omega) (by omega), u2_n (by omega)])).sp (z4 r hr y)
/-! slots -/
theorem SR.cp {v : Mm} {S O n : Nat} {K H T : Tn} (hS : Sh S) (hO : Sh O) (hne : S ≠ O) (h : SR v O K H T n) (hn : n ≤ 4) : SR (cpM v S O n) S K H T n := by
  obtain ⟨h2, h3, h4, h5⟩ := h
  refine ⟨by rw [cpM_2 hS hO hne hn]; exact h2, by rw [cpM_3 hS hO hne hn]; exact h3, fun j hj => by rw [cpM_ink hS hO hne hn hj]; exact h4 j hj, fun p hp => (h5 p hp).cp (fun j hj => cpM_pen hS hO hne hn hp hj)⟩
theorem kp_at {v : Mm} {s : Nat} : ∀ n, n ≤ 43 → (∀ j, itr (fun k w => upd2 w 92 (43 * s + k) (w 82 k)) n v 92 j = if 43 * s ≤ j ∧ j < 43 * s + n then v 82 (j - 43 * s) else v 92 j) ∧ ∀ k j, k ≠ 92 → itr (fun k w => upd2 w 92 (43 * s + k) (w 82 k)) n v k j = v k j
  | 0, _ => ⟨fun j => by rw [if_neg (by omega)]; rfl, fun _ _ _ => rfl⟩
  | n + 1, hn => by
    obtain ⟨i1, i2⟩ := kp_at (v := v) (s := s) n (by omega)
    rw [itr_s, i2 82 _ (by decide)]
    refine ⟨fun j => ?_, fun k j hk => by rw [u2_n (fun q => hk q.1)]; exact i2 k j hk⟩
    by_cases c : j = 43 * s + n
    · subst c; rw [u2_s, if_pos (by omega), show 43 * s + n - 43 * s = n by omega]
    · rw [u2_n (fun q => c q.2), i1]
      by_cases d : 43 * s ≤ j ∧ j < 43 * s + n
      · rw [if_pos d, if_pos (by omega)]
      · rw [if_neg d, if_neg (by omega)]
theorem kp_T {v : Mm} {s : Nat} : kpT (kpV v s) s = lvT 0 v ∧ (∀ i, i ≠ s → kpT (kpV v s) i = kpT v i) ∧ ∀ k j, k ≠ 92 → kpV v s k j = v k j := by
  obtain ⟨a, b⟩ := kp_at (v := v) (s := s) 43 (Nat.le_refl _)
  refine ⟨cut_ext (fun j hj => ?_), fun i hi => cut_ext (fun j hj => ?_), b⟩
  · refine (a _).trans ?_
    rw [if_pos (by omega), show 43 * s + j - 43 * s = 43 * 0 + j by omega]
  · refine (a _).trans ?_
    rw [if_neg (by omega)]
theorem ag_at {v : Mm} {s : Nat} : ∀ n, n ≤ 43 → (∀ j, itr (fun k w => upd2 w 82 k (w 92 (43 * s + k))) n v 82 j = if j < n then v 92 (43 * s + j) else v 82 j) ∧ ∀ k j, k ≠ 82 → itr (fun k w => upd2 w 82 k (w 92 (43 * s + k))) n v k j = v k j
  | 0, _ => ⟨fun j => by rw [if_neg (Nat.not_lt_zero j)]; rfl, fun _ _ _ => rfl⟩
  | n + 1, hn => by
    obtain ⟨i1, i2⟩ := ag_at (v := v) (s := s) n (by omega)
    rw [itr_s, i2 92 _ (by decide)]
    refine ⟨fun j => ?_, fun k j hk => by rw [u2_n (fun q => hk q.1)]; exact i2 k j hk⟩
    by_cases c : j = n
    · subst c; rw [u2_s, if_pos (by omega)]
    · rw [u2_n (fun q => c q.2), i1]
      by_cases d : j < n
      · rw [if_pos d, if_pos (by omega)]
      · rw [if_neg d, if_neg (by omega)]
theorem ag_T {v : Mm} {s : Nat} : lvT 0 (agV v s) = kpT v s ∧ ∀ k j, k ≠ 82 → agV v s k j = v k j := by
  obtain ⟨a, b⟩ := ag_at (v := v) (s := s) 43 (Nat.le_refl _)
  refine ⟨cut_ext (fun j hj => ?_), b⟩
  rw [Nat.mul_zero, Nat.zero_add]
  exact (a j).trans (if_pos hj)
theorem keep_R {v V1 : Mm} {L : Lm} {s S : Nat} (h : R v L) (hs : s < 2) (eS : S = 19 + 7 * s) (hV : ∀ n, RS v n → V1 = upd2 (cpM v S 5 n) (33 + s) 1 1) : R (kpV (upd2 V1 91 s 1) s) L ∧ kpV (upd2 V1 91 s 1) s 82 17 = V1 5 3 := by
  obtain ⟨⟨len, h1⟩, ⟨wd, h2⟩, ⟨n, h3, h4, f, c, xq, h5⟩, ⟨e, h6⟩, h7⟩ := h
  have hV2 := hV n h3
  obtain ⟨hn, e0, hS, hT⟩ := h3
  have sS : Sh S := by subst eS; unfold Sh; omega
  have hne : S ≠ 5 := by omega
  have ck : ∀ k j, (k < S ∨ S + 7 ≤ k) → ¬ (k = 33 + s ∧ j = 1) → V1 k j = v k j := fun k j k1 k2 => by rw [hV2, u2_n k2, cpM_away sS s5 hne hn k1]
  have hcp := SR.cp sS s5 hne hS hn
  obtain ⟨t1, t2, t3⟩ := kp_T (v := upd2 V1 91 s 1) (s := s)
  generalize eU : kpV (upd2 V1 91 s 1) s = U at *
  have uk : ∀ k j, k ≠ 92 → ¬ (k = 91 ∧ j = s) → U k j = V1 k j := fun k j k1 k2 => by rw [t3 k j k1, u2_n k2]
  have ukv : ∀ k j, k ≠ 92 → ¬ (k = 91 ∧ j = s) → (k < S ∨ S + 7 ≤ k) → ¬ (k = 33 + s ∧ j = 1) → U k j = v k j := fun k j k1 k2 k3 k4 => by rw [uk k j k1 k2, ck k j k3 k4]
  have e80 : U 80 = v 80 := fk (fun j => ukv 80 j (by omega) (by omega) (by omega) (by omega))
  have e81 : U 81 = v 81 := fk (fun j => ukv 81 j (by omega) (by omega) (by omega) (by omega))
  have eT0 : lvT 0 (upd2 V1 91 s 1) = lvT 0 v := lv0_k (fun j hj => by rw [u2_n (by omega), ck 82 j (by omega) (by omega)])
  rw [eT0] at t1
  constructor
  · refine ⟨⟨len, h1.k (fun k j hk => ukv k j (by omega) (by omega) (by omega) (by omega))⟩, ⟨wd, h2.k (fun k j hk => ukv k j (by omega) (by omega) (by omega) (by omega))⟩, ⟨n, RS.k ⟨hn, e0, hS, hT⟩ (fun k j hk => ukv k j (by omega) (by omega) (by omega) (by omega)), fun i hi => ?_, f, c, xq, h5.k (fun k j hk => ukv k j (by omega) (by omega) (by omega) (by omega))⟩, ⟨e, h6.k (fun k j hk => ukv k j (by omega) (by omega) (by omega) (by omega))⟩, h7⟩
    rw [e80, e81]
    by_cases c : i = s
    · subst c
      have e91 : U 91 i = 1 := by rw [t3 91 i (by decide), u2_s]
      have e33 : U (33 + i) 1 = 1 := by rw [uk _ _ (by omega) (by omega), hV2, u2_s]
      refine ⟨e33.trans e91.symm, Or.inr ⟨e91, ?_, ?_⟩⟩
      · rw [t1, ← eS]
        refine hcp.same hn (fun k j k1 k2 => ?_)
        rw [uk k j (by omega) (by omega), hV2, u2_n (by omega)]
      · rw [t1]; exact hT
    · obtain ⟨x1, x2⟩ := h4 i hi
      have e91 : U 91 i = v 91 i := ukv 91 i (by omega) (by omega) (by omega) (by omega)
      have eK : kpT U i = kpT v i := by
        rw [t2 i c]
        exact cut_ext (fun j _ => by rw [u2_n (by omega), ck 92 _ (by omega) (by omega)])
      refine ⟨by rw [e91, ukv _ 1 (by omega) (by omega) (by omega) (by omega)]; exact x1, ?_⟩
      rw [e91, eK]
      rcases x2 with z | ⟨z1, z2, z3⟩
      · exact Or.inl z
      · exact Or.inr ⟨z1, z2.same hn (fun k j k1 k2 => ukv k j (by omega) (by omega) (by omega) (by omega)), z3⟩
  · rw [ukv 82 17 (by omega) (by omega) (by omega) (by omega), ck 5 3 (by omega) (by omega), hS.2.1, lv0_at (by decide)]
theorem sb_keep {v : Mm} {L : Lm} {x : Int32} (h : R v L) : Sbt yX9_keep cX9_keep 2 (some .int) 2 yX10_keep cX10_keep 3 (some .int) 1 [.int x] v L := by
  obtain ⟨n, hRS⟩ : ∃ n, RS v n := by
    obtain ⟨-, -, ⟨n, h3, -⟩, -⟩ := h
    exact ⟨n, h3⟩
  have uni : ∀ m, RS v m → m = n := fun m hm => nIj (by have := hm.1; omega) (by have := hRS.1; omega) (hm.2.1.symm.trans hRS.2.1)
  have hC := hRS.2.2.1.cst hRS.2.2.2 hRS.1
  by_cases hx : 0 ≤ x ∧ x ≤ 1
  · rcases sw1 x hx with rfl | rfl
    · obtain ⟨r1, r2⟩ := keep_R (V1 := upd2 (cpM v 19 5 n) 33 1 1) (s := 0) (S := 19) h (by decide) rfl (fun m hm => by rw [uni m hm])
      exact Sbt.of (c_X9_keep_0 hC) (c_X10_keep_s (s := 0) (by decide)) r2 r1
    · obtain ⟨r1, r2⟩ := keep_R (V1 := upd2 (cpM v 26 5 n) 34 1 1) (s := 1) (S := 26) h (by decide) rfl (fun m hm => by rw [uni m hm])
      exact Sbt.of (c_X9_keep_1 hC) (c_X10_keep_s (s := 1) (by decide)) r2 r1
  · exact Sbt.of (c_X9_keep_u hx) (c_X10_keep_u hx) rfl h
theorem again_R {v V1 : Mm} {L : Lm} {s S n : Nat} (h : R v L) (hs : s < 2) (eS : S = 19 + 7 * s) (hRS : RS v n) (hk : ¬ v 91 s = 0) (hV : V1 = upd2 (cpM v 5 S n) 38 2 0) : R (upd2 (agV V1 s) 79 15 0) L ∧ upd2 (agV V1 s) 79 15 0 82 17 = V1 5 3 := by
  obtain ⟨⟨len, h1⟩, ⟨wd, h2⟩, ⟨n', h3, h4, f, c, xq, h5⟩, ⟨e, h6⟩, h7⟩ := h
  have en : n' = n := nIj (by have := h3.1; omega) (by have := hRS.1; omega) (h3.2.1.symm.trans hRS.2.1)
  subst en
  obtain ⟨hn, e0, hS, hT⟩ := h3
  obtain ⟨x1, x2⟩ := h4 s hs
  rcases x2 with z | ⟨z1, z2, z3⟩
  · exact absurd z hk
  rw [← eS] at z2
  have sS : Sh S := by subst eS; unfold Sh; omega
  have hne : (5 : Nat) ≠ S := by omega
  have ck : ∀ k j, (k < 5 ∨ 12 ≤ k) → ¬ (k = 38 ∧ j = 2) → V1 k j = v k j := fun k j k1 k2 => by rw [hV, u2_n k2, cpM_away s5 sS hne hn (by omega)]
  have hcp := SR.cp s5 sS hne z2 hn
  obtain ⟨t1, t3⟩ := ag_T (v := V1) (s := s)
  have eK : kpT V1 s = kpT v s := cut_ext (fun j _ => ck 92 _ (by omega) (by omega))
  rw [eK] at t1
  have eU : lvT 0 (upd2 (agV V1 s) 79 15 0) = kpT v s := by
    rw [← t1]
    exact lv0_k (fun j _ => u2_n (by omega))
  have uk : ∀ k j, k ≠ 82 → ¬ (k = 79 ∧ j = 15) → upd2 (agV V1 s) 79 15 0 k j = V1 k j := fun k j k1 k2 => by rw [u2_n k2, t3 k j k1]
  have e15 : upd2 (agV V1 s) 79 15 0 79 15 = 0 := u2_s
  have e17 : upd2 (agV V1 s) 79 15 0 82 17 = kpT v s 17 := by rw [← lv0_at (v := upd2 (agV V1 s) 79 15 0) (by decide), eU]
  generalize upd2 (agV V1 s) 79 15 0 = U at *
  have ukv : ∀ k j, k ≠ 82 → ¬ (k = 79 ∧ j = 15) → (k < 5 ∨ 12 ≤ k) → ¬ (k = 38 ∧ j = 2) → U k j = v k j := fun k j k1 k2 k3 k4 => by rw [uk k j k1 k2, ck k j k3 k4]
  have e80 : U 80 = v 80 := fk (fun j => ukv 80 j (by omega) (by omega) (by omega) (by omega))
  have e81 : U 81 = v 81 := fk (fun j => ukv 81 j (by omega) (by omega) (by omega) (by omega))
  have hSU : SR V1 5 (v 80) (v 81) (kpT v s) n' := hcp.same hn (fun k j k1 k2 => by rw [hV, u2_n (by omega)])
  constructor
  · refine ⟨⟨len, h1.k (fun k j hk => ukv k j (by omega) (by omega) (by omega) (by omega))⟩, ⟨wd, h2.k (fun k j hk => ukv k j (by omega) (by omega) (by omega) (by omega))⟩, ⟨n', ⟨hn, by rw [ukv 79 0 (by omega) (by omega) (by omega) (by omega)]; exact e0, ?_, ?_⟩, h4.k hn (fun k j hk => ukv k j (by omega) (by omega) (by omega) (by omega)), f, 0, xq, ?_⟩, ⟨e, h6.k (fun k j hk => ukv k j (by omega) (by omega) (by omega) (by omega))⟩, h7⟩
    · rw [e80, e81, eU]; exact hSU.same hn (fun k j k1 k2 => uk k j (by omega) (by omega))
    · rw [e80, e81, eU]; exact z3
    · refine ⟨by rw [ukv 38 1 (by omega) (by omega) (by omega) (by omega)]; exact h5.1, h5.2.1, by rw [uk 38 2 (by omega) (by omega), hV, u2_s]; rfl, by omega, e15, by rw [ukv 79 16 (by omega) (by omega) (by omega) (by omega)]; exact h5.2.2.2.2.2.1, h5.2.2.2.2.2.2.1, fun i hi => absurd hi (Nat.not_lt_zero i)⟩
  · rw [e17]; exact hSU.2.1.symm
theorem sb_again {v : Mm} {L : Lm} {x : Int32} (h : R v L) : Sbt yX9_again cX9_again 2 (some .int) 2 yX10_again cX10_again 3 (some .int) 1 [.int x] v L := by
  obtain ⟨n, hRS, hRK⟩ : ∃ n, RS v n ∧ RK v n := by
    obtain ⟨-, -, ⟨n, h3, h4, -⟩, -⟩ := h
    exact ⟨n, h3, h4⟩
  have hn := hRS.1
  have b6 : ∀ s S, s < 2 → S = 19 + 7 * s → ¬ v 91 s = 0 → v S 2 = nI n ∧ ∀ p, p < n → v (S + 3 + p) 6 = 0 ∨ v (S + 3 + p) 6 = 1 := by
    intro s S hs eS hk
    subst eS
    rcases (hRK s hs).2 with z | ⟨z1, z2, z3⟩
    · exact absurd z hk
    · exact ⟨z2.1, fun p hp => by rw [(z2.2.2.2 p hp).2.2.2.2.2.2]; exact z3.bt hn (by omega)⟩
  have g0 : ∀ (k : Nat) (s S : Nat) (i : Int32), k < 5 ∨ 12 ≤ k → True := fun _ _ _ _ _ => trivial
  by_cases hx : 0 ≤ x ∧ x ≤ 1
  · rcases sw1 x hx with rfl | rfl
    · have e33 : v 33 1 = v 91 0 := (hRK 0 (by decide)).1
      by_cases k : v 91 0 = 0
      · exact Sbt.of (c_X9_again_0n (e33.trans k)) (c_X10_again_n (s := 0) (by decide) k) rfl h
      · obtain ⟨q1, q2⟩ := b6 0 19 (by decide) rfl k
        obtain ⟨r1, r2⟩ := again_R (V1 := upd2 (cpM v 5 19 n) 38 2 0) (s := 0) (S := 19) h (by decide) rfl hRS k rfl
        exact Sbt.of (c_X9_again_0s (fun z => k (e33.symm.trans z)) hn q1 q2) (c_X10_again_s (s := 0) (by decide) (by rw [u2_n (by decide), cpM_away s5 s19 (by decide) hn (by omega)]; exact k)) r2 r1
    · have e34 : v 34 1 = v 91 1 := (hRK 1 (by decide)).1
      by_cases k : v 91 1 = 0
      · exact Sbt.of (c_X9_again_1n (e34.trans k)) (c_X10_again_n (s := 1) (by decide) k) rfl h
      · obtain ⟨q1, q2⟩ := b6 1 26 (by decide) rfl k
        obtain ⟨r1, r2⟩ := again_R (V1 := upd2 (cpM v 5 26 n) 38 2 0) (s := 1) (S := 26) h (by decide) rfl hRS k rfl
        exact Sbt.of (c_X9_again_1s (fun z => k (e34.symm.trans z)) hn q1 q2) (c_X10_again_s (s := 1) (by decide) (by rw [u2_n (by decide), cpM_away s5 s26 (by decide) hn (by omega)]; exact k)) r2 r1
  · exact Sbt.of (c_X9_again_u hx) (c_X10_again_u hx) rfl h
