/-! doings, by the row of numbers -/
theorem xorI (a b : Nat) : nI a ^^^ nI b = nI (a ^^^ b) := by
  apply Int32.toBitVec_inj.1
  show BitVec.ofNat 32 a ^^^ BitVec.ofNat 32 b = BitVec.ofNat 32 (a ^^^ b)
  apply BitVec.eq_of_getLsbD_eq
  intro i hi
  simp [hi]
def SP (T T' : Tn) (r : Nat) : Prop := T r = T' r ∧ T (4 + r) = T' (4 + r) ∧ T (8 + r) = T' (8 + r) ∧ T (12 + r) = T' (12 + r) ∧ btT T r = btT T' r
theorem PR.sp {v : Mm} {k r : Nat} {K H T T' : Tn} (h : PR v k K H T r) (g : SP T' T r) : PR v k K H T' r := by
  obtain ⟨a0, a1, a2, a3, a4, a5, a6⟩ := h
  obtain ⟨b0, b2, b3, b4, b6⟩ := g
  exact ⟨a0.trans b0.symm, a1, a2.trans b2.symm, a3.trans b3.symm, a4.trans b4.symm, a5, a6.trans b6.symm⟩
theorem SP.rf (T : Tn) (r : Nat) : SP T T r := ⟨rfl, rfl, rfl, rfl, rfl⟩
theorem PR.same {v v' : Mm} {k r : Nat} {K H T : Tn} (h : PR v k K H T r) (hv : ∀ j, v' k j = v k j) : PR v' k K H T r := by
  obtain ⟨a0, a1, a2, a3, a4, a5, a6⟩ := h
  exact ⟨(hv 0).trans a0, (hv 1).trans a1, (hv 2).trans a2, (hv 3).trans a3, (hv 4).trans a4, (hv 5).trans a5, (hv 6).trans a6⟩
theorem SR.same {v v' : Mm} {S n : Nat} {K H T : Tn} (h : SR v S K H T n) (hn : n ≤ 4) (hv : ∀ a j, S ≤ a → a < S + 7 → v' a j = v a j) : SR v' S K H T n := by
  obtain ⟨h2, h3, h4, h5⟩ := h
  exact ⟨(hv S 2 (by omega) (by omega)).trans h2, (hv S 3 (by omega) (by omega)).trans h3, fun j hj => (hv _ j (by omega) (by omega)).trans (h4 j hj), fun p hp => (h5 p hp).same (fun j => hv _ j (by omega) (by omega))⟩
theorem SR.pen {v v' : Mm} {S n p : Nat} {K H T T' : Tn} (h : SR v S K H T n) (hv : ∀ a j, a ≠ S + 3 + p → v' a j = v a j) (hP : PR v' (S + 3 + p) K H T' p) (h17 : T' 17 = T 17) (hd : ∀ j, j < 25 → T' (18 + j) = T (18 + j)) (hr : ∀ r, r < n → r ≠ p → SP T' T r) : SR v' S K H T' n := by
  obtain ⟨h2, h3, h4, h5⟩ := h
  refine ⟨by rw [hv S 2 (by omega)]; exact h2, by rw [hv S 3 (by omega), h17]; exact h3, fun j hj => by rw [hv _ j (by omega), hd j hj]; exact h4 j hj, fun r hrn => ?_⟩
  by_cases c : r = p
  · subst c; exact hP
  · exact ((h5 r hrn).same (fun j => hv _ j (by omega))).sp (hr r hrn c)
/-! turned -/
def tuT (T : Tn) (p : Nat) : Tn := uf (uf T (4 + p) (-(T (8 + p)))) (8 + p) (T (4 + p))
theorem tuT_n {T : Tn} {p j : Nat} (h1 : j ≠ 4 + p) (h2 : j ≠ 8 + p) : tuT T p j = T j := by
  unfold tuT
  rw [uf_n h2, uf_n h1]
theorem tuT_bt {T : Tn} {p r : Nat} (hp : p < 4) : btT (tuT T p) r = btT T r := by
  unfold btT
  rw [tuT_n (by omega) (by omega)]
theorem tu_T {v : Mm} {l p : Nat} (hp : p < 4) : lvT l (tuV v l p) = tuT (lvT l v) p := by
  funext j
  unfold tuT
  by_cases c2 : j = 8 + p
  · subst c2
    rw [uf_s, lvT_at (by omega), lvT_at (by omega)]
    unfold tuV
    rw [show 43 * l + (8 + p) = 43 * l + 8 + p by omega, u2_s, Nat.add_assoc]
  · rw [uf_n c2]
    by_cases c1 : j = 4 + p
    · subst c1
      rw [uf_s, lvT_at (by omega), lvT_at (by omega)]
      unfold tuV
      rw [u2_n (by omega), show 43 * l + (4 + p) = 43 * l + 4 + p by omega, u2_s, Nat.add_assoc]
    · rw [uf_n c1]
      by_cases hj : j < 43
      · rw [lvT_at hj, lvT_at hj]
        unfold tuV
        rw [u2_n (by omega), u2_n (by omega)]
      · unfold lvT cutT
        rw [if_neg hj, if_neg hj]
theorem SR.turn {v : Mm} {S n p : Nat} {K H T : Tn} (h : SR v S K H T n) (hn : n ≤ 4) (hp : p < n) : SR (upd2 (upd2 v (S + 3 + p) 2 (-(v (S + 3 + p) 3))) (S + 3 + p) 3 (v (S + 3 + p) 2)) S K H (tuT T p) n := by
  obtain ⟨a0, a1, a2, a3, a4, a5, a6⟩ := h.2.2.2 p hp
  refine h.pen (p := p) (fun a j ha => by rw [u2_n (fun q => ha q.1), u2_n (fun q => ha q.1)]) ⟨?_, ?_, ?_, ?_, ?_, ?_, ?_⟩ (tuT_n (by omega) (by omega)) (fun j _ => tuT_n (by omega) (by omega)) (fun r _ c => ⟨tuT_n (by omega) (by omega), tuT_n (by omega) (by omega), tuT_n (by omega) (by omega), tuT_n (by omega) (by omega), tuT_bt (by omega)⟩)
  · rw [u2_n (by omega), u2_n (by omega), tuT_n (by omega) (by omega)]; exact a0
  · rw [u2_n (by omega), u2_n (by omega)]; exact a1
  · rw [u2_n (by omega), u2_s, a3]
    unfold tuT
    rw [uf_n (by omega), uf_s]
  · rw [u2_s, a2]
    unfold tuT
    rw [uf_s]
  · rw [u2_n (by omega), u2_n (by omega), tuT_n (by omega) (by omega)]; exact a4
  · rw [u2_n (by omega), u2_n (by omega)]; exact a5
  · rw [u2_n (by omega), u2_n (by omega), tuT_bt (by omega)]; exact a6
theorem TOk.turn {n p : Nat} {K H T : Tn} (h : TOk K H T n) (hn : n ≤ 4) (hp : p < n) : TOk K H (tuT T p) n := by
  obtain ⟨h1, ⟨D, hD, eD⟩, h3⟩ := h
  refine ⟨fun r hr => ?_, ⟨D, hD, by rw [tuT_n (by omega) (by omega)]; exact eD⟩, fun j hj => by rw [tuT_n (by omega) (by omega)]; exact h3 j hj⟩
  obtain ⟨a0, a1, a2, a3, l, x, b1, b2, b3, b4⟩ := h1 r hr
  refine ⟨by rw [tuT_n (by omega) (by omega)]; exact a0, a1, ?_, ?_, l, x, b1, b2, by rw [tuT_n (by omega) (by omega)]; exact b3, b4⟩
  · by_cases c : r = p
    · subst c
      unfold tuT
      rw [uf_n (by omega), uf_s]
      exact sm_neg a3
    · rw [tuT_n (by omega) (by omega)]; exact a2
  · by_cases c : r = p
    · subst c
      unfold tuT
      rw [uf_s]
      exact a2
    · rw [tuT_n (by omega) (by omega)]; exact a3
/-! put -/
def puT (T : Tn) (p : Nat) : Tn := uf T 16 (T 16 ^^^ bit1 p)
theorem pu_all : ∀ D, D < 16 → ∀ p, p < 4 → ∀ r, r < 4 → (((nI D ^^^ bit1 p) >>> (nI r &&& 31)) &&& 1) = if r = p then b01 ((nI D >>> (nI p &&& 31)) &&& 1 = 0) else (nI D >>> (nI r &&& 31)) &&& 1 := by decide +kernel
theorem puT_n {T : Tn} {p j : Nat} (h : j ≠ 16) : puT T p j = T j := uf_n h
theorem TOk.puB {n p r : Nat} {K H T : Tn} (h : TOk K H T n) (hn : n ≤ 4) (hp : p < 4) (hr : r < 4) : btT (puT T p) r = if r = p then b01 (btT T p = 0) else btT T r := by
  obtain ⟨D, hD, eD⟩ := h.2.1
  unfold btT puT
  rw [uf_s, eD]
  exact pu_all D (Nat.lt_of_lt_of_le hD (pow4 hn)) p hp r hr
theorem TOk.put {n p : Nat} {K H T : Tn} (h : TOk K H T n) (hn : n ≤ 4) (hp : p < n) : TOk K H (puT T p) n := by
  obtain ⟨h1, ⟨D, hD, eD⟩, h3⟩ := h
  refine ⟨fun r hr => ?_, ⟨D ^^^ 2 ^ p, Nat.xor_lt_two_pow hD (Nat.pow_lt_pow_right (by decide) hp), ?_⟩, fun j hj => by rw [puT_n (by omega)]; exact h3 j hj⟩
  · obtain ⟨a0, a1, a2, a3, l, x, b1, b2, b3, b4⟩ := h1 r hr
    exact ⟨by rw [puT_n (by omega)]; exact a0, a1, by rw [puT_n (by omega)]; exact a2, by rw [puT_n (by omega)]; exact a3, l, x, b1, b2, by rw [puT_n (by omega)]; exact b3, b4⟩
  · unfold puT
    rw [uf_s, eD, bit1_n p (by omega), xorI]
theorem SR.put {v : Mm} {S n p : Nat} {K H T : Tn} (h : SR v S K H T n) (ho : TOk K H T n) (hn : n ≤ 4) (hp : p < n) : SR (upd2 v (S + 3 + p) 6 (b01 (v (S + 3 + p) 6 = 0))) S K H (puT T p) n := by
  obtain ⟨a0, a1, a2, a3, a4, a5, a6⟩ := h.2.2.2 p hp
  refine h.pen (p := p) (fun a j ha => by rw [u2_n (fun q => ha q.1)]) ⟨?_, ?_, ?_, ?_, ?_, ?_, ?_⟩ (puT_n (by omega)) (fun j _ => puT_n (by omega)) (fun r hr c => ⟨puT_n (by omega), puT_n (by omega), puT_n (by omega), puT_n (by omega), by rw [ho.puB hn (by omega) (by omega), if_neg c]⟩)
  · rw [u2_n (by omega), puT_n (by omega)]; exact a0
  · rw [u2_n (by omega)]; exact a1
  · rw [u2_n (by omega), puT_n (by omega)]; exact a2
  · rw [u2_n (by omega), puT_n (by omega)]; exact a3
  · rw [u2_n (by omega), puT_n (by omega)]; exact a4
  · rw [u2_n (by omega)]; exact a5
  · rw [u2_s, ho.puB hn (by omega) (by omega), if_pos rfl]
    exact b01_congr (by rw [a6])
theorem up_T {v : Mm} {l i : Nat} {x : Int32} (hi : i < 43) : lvT l (upd2 v 82 (43 * l + i) x) = uf (lvT l v) i x := by
  funext j
  by_cases c : j = i
  · subst c; rw [uf_s, lvT_at hi, u2_s]
  · rw [uf_n c]
    by_cases hj : j < 43
    · rw [lvT_at hj, lvT_at hj, u2_n (by omega)]
    · unfold lvT cutT
      rw [if_neg hj, if_neg hj]
/-! dipped -/
def diT (H T : Tn) (p : Nat) : Tn := uf T (12 + p) (H p)
theorem diT_n {H T : Tn} {p j : Nat} (h : j ≠ 12 + p) : diT H T p j = T j := uf_n h
theorem diT_bt {H T : Tn} {p r : Nat} (hp : p < 4) : btT (diT H T p) r = btT T r := by
  unfold btT
  rw [diT_n (by omega)]
theorem TOk.dip {n p : Nat} {K H T : Tn} (h : TOk K H T n) (hn : n ≤ 4) (hp : p < n) : TOk K H (diT H T p) n := by
  obtain ⟨h1, ⟨D, hD, eD⟩, h3⟩ := h
  refine ⟨fun r hr => ?_, ⟨D, hD, by rw [diT_n (by omega)]; exact eD⟩, fun j hj => by rw [diT_n (by omega)]; exact h3 j hj⟩
  obtain ⟨a0, a1, a2, a3, l, x, b1, b2, b3, b4⟩ := h1 r hr
  refine ⟨by rw [diT_n (by omega)]; exact a0, a1, by rw [diT_n (by omega)]; exact a2, by rw [diT_n (by omega)]; exact a3, ?_⟩
  by_cases c : r = p
  · subst c
    exact ⟨x, x, Nat.le_refl _, b2, by unfold diT; rw [uf_s]; exact b4, b4⟩
  · exact ⟨l, x, b1, b2, by rw [diT_n (by omega)]; exact b3, b4⟩
theorem SR.dip {v : Mm} {S n p : Nat} {K H T : Tn} (h : SR v S K H T n) (hn : n ≤ 4) (hp : p < n) : SR (upd2 v (S + 3 + p) 4 (v (S + 3 + p) 5)) S K H (diT H T p) n := by
  obtain ⟨a0, a1, a2, a3, a4, a5, a6⟩ := h.2.2.2 p hp
  refine h.pen (p := p) (fun a j ha => by rw [u2_n (fun q => ha q.1)]) ⟨?_, ?_, ?_, ?_, ?_, ?_, ?_⟩ (diT_n (by omega)) (fun j _ => diT_n (by omega)) (fun r hr c => ⟨diT_n (by omega), diT_n (by omega), diT_n (by omega), diT_n (by omega), diT_bt (by omega)⟩)
  · rw [u2_n (by omega), diT_n (by omega)]; exact a0
  · rw [u2_n (by omega)]; exact a1
  · rw [u2_n (by omega), diT_n (by omega)]; exact a2
  · rw [u2_n (by omega), diT_n (by omega)]; exact a3
  · rw [u2_s, a5]; unfold diT; rw [uf_s]
  · rw [u2_n (by omega)]; exact a5
  · rw [u2_n (by omega), diT_bt (by omega)]; exact a6
theorem diT_same {H T : Tn} {p : Nat} (h : T (12 + p) = H p) : diT H T p = T := by
  funext j
  by_cases c : j = 12 + p
  · subst c; unfold diT; rw [uf_s, h]
  · exact diT_n c
/-! blotted -/
def blT (T : Tn) (q : Nat) : Tn := uf T (18 + q) 0
theorem TOk.blot {n q : Nat} {K H T : Tn} (h : TOk K H T n) (hn : n ≤ 4) : TOk K H (blT T q) n := by
  obtain ⟨h1, ⟨D, hD, eD⟩, h3⟩ := h
  refine ⟨fun r hr => ?_, ⟨D, hD, by unfold blT; rw [uf_n (by omega)]; exact eD⟩, fun j hj => ?_⟩
  · obtain ⟨a0, a1, a2, a3, l, x, b1, b2, b3, b4⟩ := h1 r hr
    unfold blT
    exact ⟨by rw [uf_n (by omega)]; exact a0, a1, by rw [uf_n (by omega)]; exact a2, by rw [uf_n (by omega)]; exact a3, l, x, b1, b2, by rw [uf_n (by omega)]; exact b3, b4⟩
  · unfold blT
    by_cases c : j = q
    · subst c; rw [uf_s]; exact ⟨0, by decide, rfl⟩
    · rw [uf_n (by omega)]; exact h3 j hj
theorem SR.blot {v : Mm} {S n q : Nat} {K H T : Tn} (h : SR v S K H T n) (hn : n ≤ 4) (hq : q < 25) : SR (stM v S (nI q) 0) S K H (blT T q) n := by
  obtain ⟨h2, h3, h4, h5⟩ := h
  unfold stM blT
  rw [if_pos (of_d25 hq), nI_clamp (by omega)]
  refine ⟨by rw [u2_n (by omega)]; exact h2, by rw [u2_n (by omega), uf_n (by omega)]; exact h3, fun j hj => ?_, fun r hr => ?_⟩
  · by_cases c : j = q
    · subst c; rw [u2_s, uf_s]
    · rw [u2_n (by omega), uf_n (by omega)]; exact h4 j hj
  · refine ((h5 r hr).same (fun j => by rw [u2_n (by omega)])).sp ⟨uf_n (by omega), uf_n (by omega), uf_n (by omega), uf_n (by omega), ?_⟩
    unfold btT
    rw [uf_n (by omega)]
