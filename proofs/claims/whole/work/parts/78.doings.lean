/-! told doings, years: both alike -/
def TR (v u : Mm) (n w : Nat) (K H W : Tn) : Prop := SR v 12 K H (lvT 1 u) n ∧ TOk K H (lvT 1 u) n ∧ u 80 = K ∧ u 81 = H ∧ v 4 = W ∧ u 86 = W ∧ u 79 12 = nI w
def CW (n w : Nat) (W : Tn) : Prop := n ≤ 4 ∧ w ≤ 8 ∧ WOk W w
theorem TR.go {v u v' u' : Mm} {n w : Nat} {K H W : Tn} (h : TR v u n w K H W) (h1 : SR v' 12 K H (lvT 1 u') n) (h2 : TOk K H (lvT 1 u') n) (hv : v' 4 = v 4) (hu : ∀ a, a ≠ 82 → ∀ j, ¬ (a = 79 ∧ j = 14) → u' a j = u a j) : TR v' u' n w K H W := by
  obtain ⟨-, -, a3, a4, a5, a6, a7⟩ := h
  refine ⟨h1, h2, ?_, ?_, hv.trans a5, ?_, ?_⟩
  · rw [← a3]; funext j; exact hu 80 (by decide) j (fun q => absurd q.1 (by decide))
  · rw [← a4]; funext j; exact hu 81 (by decide) j (fun q => absurd q.1 (by decide))
  · rw [← a6]; funext j; exact hu 86 (by decide) j (fun q => absurd q.1 (by decide))
  · rw [← a7]; exact hu 79 (by decide) 12 (fun q => absurd q.2 (by decide))
theorem TR.step {v u : Mm} {n w p : Nat} {K H W : Tn} {e : Int32} (h : TR v u n w K H W) (hn : n ≤ 4) (hp : p < n) (he : 0 ≤ e ∧ e < 8) (hnd : ¬ ndF (lvT 1 u p) e = -9) : TR (mvV v 12 (12 + 3 + p) e) (msV u 1 p e) n w K H W := by
  obtain ⟨q, hq, eq⟩ := h.2.1.nd hp he hnd
  have eq' : ndF (u 82 (43 * 1 + p)) e = nI q := by rw [← eq, lvT_at (by omega)]
  obtain ⟨t1, t2⟩ := msT (v := u) (by omega) hq eq'
  rw [h.2.2.1] at t1
  refine h.go ?_ ?_ ?_ (fun a ha j _ => msV_away ha)
  · rw [t1]; exact h.1.mv s12 h.2.1 hn hp he hnd
  · rw [t1]; exact h.2.1.st hn hp he hnd
  · funext j; exact mvV_away (by omega) (by omega) (by omega)
theorem wo0_T {u : Mm} {l : Nat} : lvT l (wo0 u) = lvT l u := by
  apply cut_ext
  intro j _
  exact u2_n (by omega)
theorem TR.write {v u : Mm} {n w p : Nat} {K H W : Tn} (h : TR v u n w K H W) (hc : CW n w W) (hp : p < n) : (folF 12 (12 + 3 + p) w 0 v).1 = (woA u p w).2 79 14 ∧ TR (folF 12 (12 + 3 + p) w 0 v).2 (woA u p w).2 n w K H W ∧ (woA u p w).2 79 14 = nI (wrT K W p w 0 (lvT 1 u)).1 ∧ lvT 1 (woA u p w).2 = (wrT K W p w 0 (lvT 1 u)).2 := by
  obtain ⟨hn, hw, hW⟩ := hc
  obtain ⟨f1, f2⟩ := SR.fol (S := 12) s12 hn hp hW (m := w) (i := 0) (by omega) h.2.2.2.2.1 h.1 h.2.1
  have g := wo_T (K := K) (W := W) (H := H) (l := 1) hn hp hw hW (m := w) (i := 0) (s := 0) (v := wo0 u) (by omega) (by rw [← h.2.2.1]; funext j; exact u2_n (by omega)) (by rw [← h.2.2.2.2.2.1]; funext j; exact u2_n (by omega)) (u2_s) (by rw [wo0_T]; exact h.2.1)
  rw [wo0_T] at g
  have em : woA u p w = woF 1 p 0 w 0 0 (wo0 u) := by unfold woA; rw [Nat.min_eq_right hw]
  rw [em]
  refine ⟨f1.trans g.2.1.symm, h.go ?_ ?_ ?_ (fun a ha j hj => ?_), g.2.1, g.1⟩
  · rw [g.1]; exact f2
  · rw [g.1]; exact TOk.wr hn hp hW (by omega) h.2.1
  · funext j; exact folF_away (by decide) (by omega) (by decide)
  · rw [wo_away ha hj]; exact u2_n hj
theorem TR.turn {v u : Mm} {n w p : Nat} {K H W : Tn} (h : TR v u n w K H W) (hn : n ≤ 4) (hp : p < n) : TR (upd2 (upd2 v (12 + 3 + p) 2 (-(v (12 + 3 + p) 3))) (12 + 3 + p) 3 (v (12 + 3 + p) 2)) (tuV u 1 p) n w K H W := by
  refine h.go ?_ ?_ ?_ (fun a ha j _ => ?_)
  · rw [tu_T (by omega)]; exact h.1.turn hn hp
  · rw [tu_T (by omega)]; exact h.2.1.turn hn hp
  · rw [u2_g (by omega), u2_g (by omega)]
  · unfold tuV
    rw [u2_n (fun q => ha q.1), u2_n (fun q => ha q.1)]
theorem TR.put {v u : Mm} {n w p : Nat} {K H W : Tn} (h : TR v u n w K H W) (hn : n ≤ 4) (hp : p < n) : TR (upd2 v (12 + 3 + p) 6 (b01 (v (12 + 3 + p) 6 = 0))) (xoV u (bit1 p)) n w K H W := by
  have e : lvT 1 (xoV u (bit1 p)) = puT (lvT 1 u) p := by
    unfold xoV
    rw [show (59 : Nat) = 43 * 1 + 16 from rfl, up_T (by decide)]
    unfold puT
    rw [lvT_at (show 16 < 43 by decide)]
  refine h.go ?_ ?_ ?_ (fun a ha j _ => ?_)
  · rw [e]; exact h.1.put h.2.1 hn hp
  · rw [e]; exact h.2.1.put hn hp
  · rw [u2_g (by omega)]
  · unfold xoV
    rw [u2_n (fun q => ha q.1)]
theorem TR.dip {v u : Mm} {n w p : Nat} {K H W : Tn} (h : TR v u n w K H W) (hn : n ≤ 4) (hp : p < n) : TR (upd2 v (12 + 3 + p) 4 (v (12 + 3 + p) 5)) (upd2 u 82 (55 + p) (u 81 p)) n w K H W := by
  have e : lvT 1 (upd2 u 82 (55 + p) (u 81 p)) = diT H (lvT 1 u) p := by
    rw [show 55 + p = 43 * 1 + (12 + p) by omega, up_T (by omega), h.2.2.2.1]
    rfl
  refine h.go ?_ ?_ ?_ (fun a ha j _ => ?_)
  · rw [e]; exact h.1.dip hn hp
  · rw [e]; exact h.2.1.dip hn hp
  · rw [u2_g (by omega)]
  · rw [u2_n (fun q => ha q.1)]
theorem TR.dipF {v u : Mm} {n w p : Nat} {K H W : Tn} (h : TR v u n w K H W) (hn : n ≤ 4) (hp : p < n) : (0 < v (12 + 3 + p) 5 - v (12 + 3 + p) 4 ↔ u 82 (55 + p) < u 81 p) ∧ (¬ u 82 (55 + p) < u 81 p → v (12 + 3 + p) 5 = v (12 + 3 + p) 4) := by
  obtain ⟨-, -, -, -, a4, a5, -⟩ := h.1.2.2.2 p hp
  obtain ⟨-, -, -, -, l, x, b1, b2, b3, b4⟩ := h.2.1.1 p hp
  rw [a4, a5, b3, b4, h.2.2.2.1, b4, pk_sub b1]
  rw [lvT_at (by omega)] at b3
  rw [show 55 + p = 43 * 1 + (12 + p) by omega, b3, nI_ltI (by omega) (by omega), show (0 : Int32) = nI 0 from rfl, nI_ltI (by decide) (by omega)]
  refine ⟨by omega, fun z => ?_⟩
  rw [show x = l by omega]
theorem in_pen {a n : Nat} (ha : a < 10) (hn : n ≤ 4) : (0 ≤ nI a ∧ nI a < nI n) ↔ a < n := by
  rw [nI_ltI (by omega) (by omega)]
  exact ⟨fun q => q.2, fun q => ⟨nI_pos' (by omega), q⟩⟩
theorem in_8 {a : Nat} (ha : a < 10) : (0 ≤ nI a ∧ nI a ≤ 7) ↔ a < 8 := by
  rw [le7, show (8 : Int32) = nI 8 from rfl, nI_ltI (by omega) (by omega)]
  exact ⟨fun q => q.2, fun q => ⟨nI_pos' (by omega), q⟩⟩
theorem nI_z {a : Nat} (ha : a < 10) : nI a = 0 ↔ a = 0 := ⟨fun q => nIj (by omega) (by omega) q, fun q => by rw [q]; rfl⟩
theorem dn_tt {v u : Mm} {n w k a b : Nat} {K H W : Tn} (h : TR v u n w K H W) (hc : CW n w W) (hk : k < 10) (ha : a < 10) (hb : b < 10) : (dnF v n w (nI k) (nI a) (nI b)).1 = (ttF u n w (nI k) (nI a) (nI b)).1 ∧ (¬ (dnF v n w (nI k) (nI a) (nI b)).1 = 0 → TR (dnF v n w (nI k) (nI a) (nI b)).2 (ttF u n w (nI k) (nI a) (nI b)).2 n w K H W) := by
  have hn := hc.1
  unfold dnF ttF
  rcases (show k = 1 ∨ k = 2 ∨ k = 3 ∨ k = 4 ∨ k = 5 ∨ k = 6 ∨ k = 7 ∨ (k = 0 ∨ k = 8 ∨ k = 9) by omega) with rfl | rfl | rfl | rfl | rfl | rfl | rfl | hk0
  · rw [if_neg (show ¬ nI 1 = 5 by decide), if_pos (show nI 1 = 1 by decide), if_pos (show nI 1 = 1 by decide)]
    by_cases c : a < n
    · rw [if_pos ((in_pen ha hn).mpr c), if_pos ((in_pen ha hn).mpr c), nI_clamp (by omega)]
      by_cases c2 : b < 8
      · have he := of_d8 c2
        have enb := h.1.nb h.2.1 c he
        rw [enb, show u 82 (43 * 1 + a) = lvT 1 u a from (lvT_at (by omega)).symm]
        by_cases c3 : ndF (lvT 1 u a) (nI b) = -9
        · rw [if_pos c3, if_neg (fun q => q.2 c3)]; exact ⟨rfl, fun q => absurd rfl q⟩
        · rw [if_neg c3, if_pos ⟨(in_8 hb).mpr c2, c3⟩]; exact ⟨rfl, fun _ => h.step hn c he c3⟩
      · have e9 : nbF (v (12 + 3 + a) 0) (nI b) = -9 := if_neg (fun q => c2 ((in_8 hb).mp ⟨q.2.1, le7.mpr q.2.2⟩))
        rw [if_pos e9, if_neg (fun q => c2 ((in_8 hb).mp q.1))]
        exact ⟨rfl, fun q => absurd rfl q⟩
    · rw [if_neg (fun q => c ((in_pen ha hn).mp q)), if_neg (fun q => c ((in_pen ha hn).mp q))]
      exact ⟨rfl, fun q => absurd rfl q⟩
  · rw [if_neg (show ¬ nI 2 = 5 by decide), if_neg (show ¬ nI 2 = 1 by decide), if_neg (show ¬ nI 2 = 6 by decide), if_neg (show ¬ nI 2 = 7 by decide), if_pos (show nI 2 = 2 ∨ nI 2 = 3 ∨ nI 2 = 4 from Or.inl rfl), if_neg (show ¬ nI 2 = 1 by decide), if_pos (show nI 2 = 2 from rfl), if_pos (show nI 2 = 2 from rfl)]
    by_cases c : b < n
    · rw [if_pos ((in_pen hb hn).mpr c), nI_clamp (by omega)]
      by_cases z : a = 0
      · subst z
        rw [if_pos (show nI 0 = 0 from rfl), if_pos ⟨rfl, (in_pen hb hn).mpr c⟩]
        exact ⟨rfl, fun _ => h.put hn c⟩
      · rw [if_neg (fun q => z ((nI_z ha).mp q)), if_neg (fun q => z ((nI_z ha).mp q.1))]
        exact ⟨rfl, fun q => absurd rfl q⟩
    · rw [if_neg (fun q => c ((in_pen hb hn).mp q)), if_neg (fun q => c ((in_pen hb hn).mp q.2))]
      exact ⟨rfl, fun q => absurd rfl q⟩
  · rw [if_neg (show ¬ nI 3 = 5 by decide), if_neg (show ¬ nI 3 = 1 by decide), if_neg (show ¬ nI 3 = 6 by decide), if_neg (show ¬ nI 3 = 7 by decide), if_pos (show nI 3 = 2 ∨ nI 3 = 3 ∨ nI 3 = 4 from Or.inr (Or.inl rfl)), if_neg (show ¬ nI 3 = 1 by decide), if_neg (show ¬ nI 3 = 2 by decide), if_neg (show ¬ nI 3 = 2 by decide), if_pos (show nI 3 = 3 from rfl), if_pos (show nI 3 = 3 from rfl)]
    by_cases c : b < n
    · rw [if_pos ((in_pen hb hn).mpr c), nI_clamp (by omega)]
      by_cases z : a = 0
      · subst z
        rw [if_pos (show nI 0 = 0 from rfl), if_pos ⟨rfl, (in_pen hb hn).mpr c⟩]
        obtain ⟨d1, d2⟩ := h.dipF hn c
        by_cases y : u 82 (55 + b) < u 81 b
        · rw [if_pos y]; exact ⟨b01_t (d1.mpr y), fun _ => h.dip hn c⟩
        · rw [if_neg y]; exact ⟨b01_f (fun q => y (d1.mp q)), fun q => absurd (b01_f (fun q => y (d1.mp q))) q⟩
      · rw [if_neg (fun q => z ((nI_z ha).mp q)), if_neg (fun q => z ((nI_z ha).mp q.1))]
        exact ⟨rfl, fun q => absurd rfl q⟩
    · rw [if_neg (fun q => c ((in_pen hb hn).mp q)), if_neg (fun q => c ((in_pen hb hn).mp q.2))]
      exact ⟨rfl, fun q => absurd rfl q⟩
  · rw [if_neg (show ¬ nI 4 = 5 by decide), if_neg (show ¬ nI 4 = 1 by decide), if_neg (show ¬ nI 4 = 6 by decide), if_neg (show ¬ nI 4 = 7 by decide), if_pos (show nI 4 = 2 ∨ nI 4 = 3 ∨ nI 4 = 4 from Or.inr (Or.inr rfl)), if_neg (show ¬ nI 4 = 1 by decide), if_neg (show ¬ nI 4 = 2 by decide), if_neg (show ¬ nI 4 = 2 by decide), if_neg (show ¬ nI 4 = 3 by decide), if_neg (show ¬ nI 4 = 3 by decide), if_pos (show nI 4 = 4 from rfl)]
    by_cases c : b < n
    · rw [if_pos ((in_pen hb hn).mpr c), nI_clamp (by omega)]
      by_cases z : a = 0
      · subst z
        rw [if_pos (show nI 0 = 0 from rfl), if_pos ⟨rfl, (in_pen hb hn).mpr c⟩]
        exact ⟨rfl, fun _ => h.turn hn c⟩
      · rw [if_neg (fun q => z ((nI_z ha).mp q)), if_neg (fun q => z ((nI_z ha).mp q.1))]
        exact ⟨rfl, fun q => absurd rfl q⟩
    · rw [if_neg (fun q => c ((in_pen hb hn).mp q)), if_neg (fun q => c ((in_pen hb hn).mp q.2))]
      exact ⟨rfl, fun q => absurd rfl q⟩
  · rw [if_pos (show nI 5 = 5 from rfl), if_neg (show ¬ nI 5 = 1 by decide), if_neg (show ¬ nI 5 = 2 by decide), if_neg (show ¬ nI 5 = 3 by decide), if_neg (show ¬ nI 5 = 4 by decide), if_pos (show nI 5 = 5 from rfl)]
    have i5 : ∀ x : Nat, x < 10 → ((0 ≤ nI x ∧ nI x ≤ 4) ↔ x < 5) := fun x hx => by
      rw [show (4 : Int32) = nI 4 from rfl, nI_leI (by omega) (by omega)]
      exact ⟨fun q => by omega, fun q => ⟨nI_pos' (by omega), by omega⟩⟩
    have l5 : ∀ x : Nat, x < 10 → (nI x < 5 ↔ x < 5) := fun x hx => by rw [show (5 : Int32) = nI 5 from rfl, nI_ltI (by omega) (by omega)]
    by_cases c : a < 5 ∧ b < 5
    · rw [if_pos ⟨(i5 a ha).mpr c.1, (i5 b hb).mpr c.2⟩, nI_clamp (by omega), nI_clamp (by omega)]
      have ei : inkF v 12 (5 * nI b + nI a) = u 82 (61 + 5 * b + a) := by
        unfold inkF
        rw [ix5, if_pos (of_d25 (by omega)), nI_clamp (by omega), h.1.2.2.1 _ (by omega), lvT_at (by omega)]
        congr 1
        omega
      rw [ei]
      have e3 : (3 ≤ u 82 (61 + 5 * b + a)) ↔ 2 < u 82 (61 + 5 * b + a) := by rw [← le2, i32nle]
      refine ⟨b01_congr ⟨fun q => e3.mp q.2.2, fun q => ⟨(l5 a ha).mpr c.1, (l5 b hb).mpr c.2, e3.mpr q⟩⟩, fun _ => h⟩
    · rw [if_neg (fun q => c ⟨(i5 a ha).mp q.1, (i5 b hb).mp q.2⟩)]
      have z : b01 (nI a < 5 ∧ nI b < 5 ∧ 3 ≤ inkF v 12 (5 * nI b + nI a)) = 0 := b01_f (fun q => c ⟨(l5 a ha).mp q.1, (l5 b hb).mp q.2.1⟩)
      exact ⟨z, fun q => absurd z q⟩
  · rw [if_neg (show ¬ nI 6 = 5 by decide), if_neg (show ¬ nI 6 = 1 by decide), if_pos (show nI 6 = 6 from rfl), if_neg (show ¬ nI 6 = 1 by decide), if_neg (show ¬ nI 6 = 2 by decide), if_neg (show ¬ nI 6 = 3 by decide), if_neg (show ¬ nI 6 = 4 by decide), if_neg (show ¬ nI 6 = 5 by decide), if_pos (show nI 6 = 6 from rfl)]
    by_cases c : a < n
    · rw [if_pos ((in_pen ha hn).mpr c), if_pos ((in_pen ha hn).mpr c), nI_clamp (by omega)]
      have e4 : v (12 + 3 + a) 4 = u 82 (55 + a) := by
        rw [(h.1.2.2.2 a c).2.2.2.2.1, lvT_at (by omega)]
        congr 1
        omega
      rw [e4]
      exact ⟨rfl, fun _ => h⟩
    · rw [if_neg (fun q => c ((in_pen ha hn).mp q)), if_neg (fun q => c ((in_pen ha hn).mp q))]
      exact ⟨rfl, fun q => absurd rfl q⟩
  · rw [if_neg (show ¬ nI 7 = 5 by decide), if_neg (show ¬ nI 7 = 1 by decide), if_neg (show ¬ nI 7 = 6 by decide), if_pos (show nI 7 = 7 from rfl), if_neg (show ¬ nI 7 = 1 by decide), if_neg (show ¬ nI 7 = 2 by decide), if_neg (show ¬ nI 7 = 3 by decide), if_neg (show ¬ nI 7 = 4 by decide), if_neg (show ¬ nI 7 = 5 by decide), if_neg (show ¬ nI 7 = 6 by decide), if_pos (show nI 7 = 7 from rfl)]
    by_cases c : a < n
    · rw [if_pos ((in_pen ha hn).mpr c), nI_clamp (by omega)]
      by_cases z : b = 0
      · subst z
        rw [if_pos (show nI 0 = 0 from rfl), if_pos ⟨rfl, (in_pen ha hn).mpr c⟩]
        obtain ⟨w1, w2, w3, w4⟩ := h.write hc c
        refine ⟨?_, fun _ => w2⟩
        show b01 ((folF 12 (12 + 3 + a) w 0 v).1 = nI w) = b01 ((woA u a w).2 79 14 = (woA u a w).2 79 12)
        exact b01_congr (by rw [w1, w2.2.2.2.2.2.2])
      · rw [if_neg (fun q => z ((nI_z hb).mp q)), if_neg (fun q => z ((nI_z hb).mp q.1))]
        exact ⟨rfl, fun q => absurd rfl q⟩
    · rw [if_neg (fun q => c ((in_pen ha hn).mp q)), if_neg (fun q => c ((in_pen ha hn).mp q.2))]
      exact ⟨rfl, fun q => absurd rfl q⟩
  · have nk : ∀ x : Nat, 1 ≤ x → x ≤ 7 → ¬ nI k = nI x := fun x h1 h7 q => by
      have := nIj (by omega) (by omega) q
      omega
    rw [if_neg (show ¬ nI k = 5 from nk 5 (by decide) (by decide)), if_neg (show ¬ nI k = 1 from nk 1 (by decide) (by decide)), if_neg (show ¬ nI k = 6 from nk 6 (by decide) (by decide)), if_neg (show ¬ nI k = 7 from nk 7 (by decide) (by decide)), if_neg (fun q => by
      rcases q with q | q | q
      · exact nk 2 (by decide) (by decide) q
      · exact nk 3 (by decide) (by decide) q
      · exact nk 4 (by decide) (by decide) q), if_neg (show ¬ nI k = 1 from nk 1 (by decide) (by decide)), if_neg (show ¬ nI k = 2 from nk 2 (by decide) (by decide)), if_neg (show ¬ nI k = 3 from nk 3 (by decide) (by decide)), if_neg (show ¬ nI k = 4 from nk 4 (by decide) (by decide)), if_neg (show ¬ nI k = 5 from nk 5 (by decide) (by decide)), if_neg (show ¬ nI k = 6 from nk 6 (by decide) (by decide)), if_neg (show ¬ nI k = 7 from nk 7 (by decide) (by decide))]
    exact ⟨rfl, fun q => absurd rfl q⟩
theorem jd_jm {n w c Y : Nat} {K H W : Tn} (hc : CW n w W) (hc4 : c ≤ 4) (hY : Y < 2 ^ 63) : ∀ {m i : Nat} {v u : Mm}, i + m = c → TR v u n w K H W → (jdF n w (lN Y) c m i v).1 = (jmF n w (lN Y) c m i u).1 := by
  intro m
  induction m with
  | zero => intro i v u _ _; rfl
  | succ m ih =>
    intro i v u hi h
    obtain ⟨e1, e2, e3⟩ := t3_n hY hc4 (show i < c by omega)
    have x2 : nI (3 * (c - 1 - i)) + 2 = nI (3 * (c - 1 - i) + 2) := nI_add _ 2
    have x1 : nI (3 * (c - 1 - i)) + 1 = nI (3 * (c - 1 - i) + 1) := nI_1 _
    obtain ⟨k, hk, ek⟩ := fig_lt (i := 3 * (c - 1 - i) + 2) hY (by omega)
    obtain ⟨a, ha, ea⟩ := fig_lt (i := 3 * (c - 1 - i) + 1) hY (by omega)
    obtain ⟨b, hb, eb⟩ := fig_lt (i := 3 * (c - 1 - i)) hY (by omega)
    unfold jdF jmF
    rw [e1, e2, e3, x2, x1, ek, ea, eb]
    obtain ⟨d1, d2⟩ := dn_tt h hc hk ha hb
    by_cases z : (dnF v n w (nI k) (nI a) (nI b)).1 = 0
    · rw [if_pos z, if_pos (d1.symm.trans z)]
    · rw [if_neg z, if_neg (fun q => z (d1.trans q))]
      exact ih (by omega) (d2 z)
/-! years -/
theorem TR.blot {v u : Mm} {n w q : Nat} {K H W : Tn} (h : TR v u n w K H W) (hn : n ≤ 4) (hq : q < 25) : TR (stM v 12 (nI q) 0) (upd2 u 82 (61 + q) 0) n w K H W := by
  have e : lvT 1 (upd2 u 82 (61 + q) 0) = blT (lvT 1 u) q := by
    rw [show 61 + q = 43 * 1 + (18 + q) by omega, up_T (by omega)]
    rfl
  refine h.go ?_ ?_ ?_ (fun a ha j _ => ?_)
  · rw [e]; exact h.1.blot hn hq
  · rw [e]; exact h.2.1.blot hn
  · funext j; exact stM_away (by decide)
  · rw [u2_n (fun q => ha q.1)]
theorem TR.up0 {v u : Mm} {n w : Nat} {K H W : Tn} (h : TR v u n w K H W) : TR v (xoV u 0) n w K H W := by
  have e : xoV u 0 = u := by
    unfold xoV
    exact u2_same (by
      apply Int32.toBitVec_inj.1
      show (u 82 59).toBitVec = (u 82 59).toBitVec ^^^ 0#32
      simp)
  rw [e]; exact h
theorem py_ym {v u : Mm} {n w t : Nat} {K H W : Tn} (h : TR v u n w K H W) (hc : CW n w W) (ht : t < 48) : TR (pyM v n t) (ymM u n w t) n w K H W := by
  have hn := hc.1
  unfold pyM ymM
  by_cases c1 : 44 ≤ t
  · rw [if_pos c1, if_pos c1]; exact h.blot hn (by omega)
  · rw [if_neg c1, if_neg c1]
    by_cases c2 : t < 32
    · rw [if_pos c2, if_neg (show ¬ 40 ≤ t by omega), if_neg (show ¬ 36 ≤ t by omega), if_neg (show ¬ 32 ≤ t by omega)]
      have d := dn_tt (k := 1) (a := t / 8) (b := t % 8) h hc (by decide) (by omega) (by omega)
      unfold ttF
      rw [if_pos rfl]
      by_cases z : t / 8 < n
      · rw [if_pos z, if_pos ((in_pen (by omega) hn).mpr z), nI_clamp (by omega)]
        have he := of_d8 (show t % 8 < 8 by omega)
        have enb := h.1.nb h.2.1 z he
        rw [enb, show u 82 (43 * 1 + t / 8) = lvT 1 u (t / 8) from (lvT_at (by omega)).symm]
        by_cases c3 : ndF (lvT 1 u (t / 8)) (nI (t % 8)) = -9
        · rw [if_pos c3, if_neg (fun q => q.2 c3)]; exact h
        · rw [if_neg c3, if_pos ⟨(in_8 (by omega)).mpr (by omega), c3⟩]; exact h.step hn z he c3
      · rw [if_neg z, if_neg (fun q => z ((in_pen (by omega) hn).mp q))]; exact h
    · rw [if_neg c2]
      by_cases c3 : t < 36
      · rw [if_neg (show ¬ 40 ≤ t by omega), if_neg (show ¬ 36 ≤ t by omega), if_pos (show 32 ≤ t by omega), show (t - 32) % 4 = t - 32 by omega]
        unfold ttF
        rw [if_neg (show ¬ (4 : Int32) = 1 by decide), if_neg (show ¬ (4 : Int32) = 2 by decide), if_neg (show ¬ (4 : Int32) = 3 by decide), if_pos rfl]
        by_cases z : t - 32 < n
        · rw [if_pos z, if_pos c3, if_pos ⟨rfl, (in_pen (by omega) hn).mpr z⟩, nI_clamp (by omega)]
          exact h.turn hn z
        · rw [if_neg z, if_neg (fun q => z ((in_pen (by omega) hn).mp q.2))]; exact h
      · by_cases c4 : t < 40
        · rw [if_neg (show ¬ 40 ≤ t by omega), if_pos (show 36 ≤ t by omega), show (t - 32) % 4 = t - 36 by omega]
          unfold ttF
          rw [if_neg (show ¬ (2 : Int32) = 1 by decide), if_pos rfl]
          by_cases z : t - 36 < n
          · rw [if_pos z, if_neg c3, if_pos c4, if_pos ⟨rfl, (in_pen (by omega) hn).mpr z⟩, nI_clamp (by omega)]
            exact h.put hn z
          · rw [if_neg z, if_neg (fun q => z ((in_pen (by omega) hn).mp q.2))]; exact h.up0
        · rw [if_pos (show 40 ≤ t by omega), show (t - 32) % 4 = t - 40 by omega]
          unfold ttF
          rw [if_neg (show ¬ (3 : Int32) = 1 by decide), if_neg (show ¬ (3 : Int32) = 2 by decide), if_pos rfl]
          by_cases z : t - 40 < n
          · rw [if_pos z, if_neg c3, if_neg c4, if_pos ⟨rfl, (in_pen (by omega) hn).mpr z⟩, nI_clamp (by omega)]
            obtain ⟨d1, d2⟩ := h.dipF hn z
            by_cases y : u 82 (55 + (t - 40)) < u 81 (t - 40)
            · rw [if_pos y]; exact h.dip hn z
            · rw [if_neg y, u2_same (d2 y).symm]; exact h
          · rw [if_neg z, if_neg (fun q => z ((in_pen (by omega) hn).mp q.2))]; exact h
theorem sum_ik {v u : Mm} {S n l : Nat} {K H : Tn} (h : SR v S K H (lvT l u) n) : sumF (v (S + 2)) 25 = ikF u l := by
  unfold sumF ikF
  apply itr_congr
  intro i s hi
  show s + v (S + 2) i = s + u 82 (43 * l + 18 + i)
  rw [h.2.2.1 i hi, lvT_at (by omega), Nat.add_assoc]
theorem yr_yq {n w : Nat} {K H W : Tn} (hc : CW n w W) (f : Int64 → Int64) (g : Int64 → Nat) (hg : ∀ s, g s < 48) : ∀ {m : Nat} {s : Int64} {t : Int32} {v u : Mm}, TR v u n w K H W → (yrF f g n m s t v).1 = (yqF f g n w m s t u).1 ∧ (yrF f g n m s t v).2.1 = (yqF f g n w m s t u).2.1 := by
  intro m
  induction m with
  | zero => intro s t v u _; exact ⟨rfl, rfl⟩
  | succ m ih =>
    intro s t v u h
    have h2 := py_ym h hc (hg (f s))
    rw [yr_succ, yq_succ, sum_ik h2.1]
    exact ih h2
