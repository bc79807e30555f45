/-! rows that were read -/
abbrev Rw : Type := Nat × Nat × (Nat → Int32) × (Nat → Int32)
def rdR (v : Mm) (len : Nat) : Nat → Nat → Nat → Nat → (Nat → Int32) → (Nat → Int32) → Rw
  | 0, p, s, _, R3, R4 => (p, s, R3, R4)
  | m + 1, p, s, pl, R3, R4 => if pl < len then (if v 2 pl = 80 then rdR v len m (p + 1) s (pl + 7) (pnR v pl p R3) R4 else rdR v len m p (s + 1) (pl + 4) R3 (snR v pl s R4)) else (p, s, R3, R4)
def RowP (R : Nat → Int32) (q : Nat) : Prop := ∃ d k a b f : Nat, d < 25 ∧ k < 4 ∧ a < 7 ∧ b < 7 ∧ f < 10 ∧ R (5 * q) = nI d ∧ R (5 * q + 1) = nI k ∧ R (5 * q + 2) = nI a ∧ R (5 * q + 3) = nI b ∧ R (5 * q + 4) = nI f
def RowS (R : Nat → Int32) (q : Nat) : Prop := ∃ d t : Nat, d < 25 ∧ t < 10 ∧ R (2 * q) = nI d ∧ R (2 * q + 1) = nI t
def RowsOk (r : Rw) : Prop := r.1 ≤ 4 ∧ r.2.1 ≤ 4 ∧ (∀ q, q < r.1 → RowP r.2.2.1 q) ∧ ∀ q, q < r.2.1 → RowS r.2.2.2 q
theorem dot_of {v : Mm} {x : Nat} (h1 : Fig v (x + 1) 4) (h2 : Fig v (x + 2) 4) : ∃ d : Nat, d < 25 ∧ 5 * (v 85 (x + 2) - 48) + (v 85 (x + 1) - 48) = nI d := by
  obtain ⟨a, ha, ea⟩ := h1
  obtain ⟨b, hb, eb⟩ := h2
  exact ⟨5 * b + a, by omega, by rw [ea, eb, ix5]⟩
theorem pnR_n {v : Mm} {pl p j : Nat} {R : Nat → Int32} (h : j < 5 * p ∨ 5 * p + 5 ≤ j) : pnR v pl p R j = R j := by
  unfold pnR
  rw [uf_n (by omega), uf_n (by omega), uf_n (by omega), uf_n (by omega), uf_n (by omega)]
theorem snR_n {v : Mm} {pl s j : Nat} {R : Nat → Int32} (h : j < 2 * s ∨ 2 * s + 2 ≤ j) : snR v pl s R j = R j := by
  unfold snR
  rw [uf_n (by omega), uf_n (by omega)]
theorem pnR_ok {v : Mm} {pl p : Nat} {R : Nat → Int32} (h1 : Fig v (pl + 1) 4) (h2 : Fig v (pl + 2) 4) (h3 : Fig v (pl + 3) 3) (h4 : Fig v (pl + 4) 6) (h5 : Fig v (pl + 5) 6) (h6 : Fig v (pl + 6) 9) : RowP (pnR v pl p R) p := by
  obtain ⟨d, hd, ed⟩ := dot_of h1 h2
  obtain ⟨k, hk, ek⟩ := h3
  obtain ⟨a, ha, ea⟩ := h4
  obtain ⟨b, hb, eb⟩ := h5
  obtain ⟨f, hf, ef⟩ := h6
  refine ⟨d, k, a, b, f, hd, by omega, by omega, by omega, by omega, ?_, ?_, ?_, ?_, ?_⟩
  · unfold pnR
    rw [uf_n (by omega), uf_n (by omega), uf_n (by omega), uf_n (by omega), uf_s, ed]
  · unfold pnR
    rw [uf_n (by omega), uf_n (by omega), uf_n (by omega), uf_s, ek]
  · unfold pnR
    rw [uf_n (by omega), uf_n (by omega), uf_s, ea]
  · unfold pnR
    rw [uf_n (by omega), uf_s, eb]
  · unfold pnR
    rw [uf_s, ef]
theorem snR_ok {v : Mm} {pl s : Nat} {R : Nat → Int32} (h1 : Fig v (pl + 1) 4) (h2 : Fig v (pl + 2) 4) (h3 : Fig v (pl + 3) 9) : RowS (snR v pl s R) s := by
  obtain ⟨d, hd, ed⟩ := dot_of h1 h2
  obtain ⟨t, ht, et⟩ := h3
  refine ⟨d, t, hd, by omega, ?_, ?_⟩
  · unfold snR
    rw [uf_n (by omega), uf_s, ed]
  · unfold snR
    rw [uf_s, et]
theorem RowsOk.pn {v : Mm} {pl p s : Nat} {R3 R4 : Nat → Int32} (h : RowsOk (p, s, R3, R4)) (hp : p < 4) (h1 : Fig v (pl + 1) 4) (h2 : Fig v (pl + 2) 4) (h3 : Fig v (pl + 3) 3) (h4 : Fig v (pl + 4) 6) (h5 : Fig v (pl + 5) 6) (h6 : Fig v (pl + 6) 9) : RowsOk (p + 1, s, pnR v pl p R3, R4) := by
  refine ⟨hp, h.2.1, fun q hq => ?_, h.2.2.2⟩
  have hq2 : q < p + 1 := hq
  by_cases e : q = p
  · subst e; exact pnR_ok h1 h2 h3 h4 h5 h6
  · obtain ⟨d, k, a, b, f, y1, y2, y3, y4, y5, y6, y7, y8, y9, y10⟩ := h.2.2.1 q (show q < p by omega)
    exact ⟨d, k, a, b, f, y1, y2, y3, y4, y5, (pnR_n (by omega)).trans y6, (pnR_n (by omega)).trans y7, (pnR_n (by omega)).trans y8, (pnR_n (by omega)).trans y9, (pnR_n (by omega)).trans y10⟩
theorem RowsOk.sn {v : Mm} {pl p s : Nat} {R3 R4 : Nat → Int32} (h : RowsOk (p, s, R3, R4)) (hs : s < 4) (h1 : Fig v (pl + 1) 4) (h2 : Fig v (pl + 2) 4) (h3 : Fig v (pl + 3) 9) : RowsOk (p, s + 1, R3, snR v pl s R4) := by
  refine ⟨h.1, hs, h.2.2.1, fun q hq => ?_⟩
  have hq2 : q < s + 1 := hq
  by_cases e : q = s
  · subst e; exact snR_ok h1 h2 h3
  · obtain ⟨d, t, y1, y2, y3, y4⟩ := h.2.2.2 q (show q < s by omega)
    exact ⟨d, t, y1, y2, (snR_n (by omega)).trans y3, (snR_n (by omega)).trans y4⟩
theorem rd_cases (x : Int32) (p s : Nat) : (x = 80 ∧ p < 4) ∨ ((x = 83 ∧ s < 4) ∧ ¬ (x = 80 ∧ p < 4)) ∨ (¬ (x = 80 ∧ p < 4) ∧ ¬ (x = 83 ∧ s < 4)) := by
  by_cases h1 : x = 80 ∧ p < 4
  · exact Or.inl h1
  · by_cases h2 : x = 83 ∧ s < 4
    · exact Or.inr (Or.inl ⟨h2, h1⟩)
    · exact Or.inr (Or.inr ⟨h1, h2⟩)
/-- what the reader leaves behind -/
def RdQ (v : Mm) (L : Lm) (res : Int32) (r : Rw) : Qt := fun a b K => a = some (.int res) ∧ Agr v b ∧ K = L ∧ (res = -9 → b 79 6 = nI r.1 ∧ b 79 7 = nI r.2.1 ∧ b 83 = r.2.2.1 ∧ b 84 = r.2.2.2 ∧ RowsOk r)
/-- the desk -/
def dk1 (v : Mm) : Mm := itr (fun k w => upd2 w 82 k 0) 43 v
def dkP (p : Nat) (w : Mm) : Mm :=
  let w1 := upd2 w 82 p (w 83 (5 * p))
  let w2 := upd2 w1 80 p (w1 83 (5 * p + 1))
  let w3 := upd2 w2 82 (4 + p) (w2 83 (5 * p + 2) - 3)
  let w4 := upd2 w3 82 (8 + p) (w3 83 (5 * p + 3) - 3)
  let w5 := upd2 w4 81 p (5 * w4 83 (5 * p + 4))
  upd2 w5 82 (12 + p) (w5 81 p)
def dkS (k : Nat) (w : Mm) : Mm := upd2 w 82 (18 + (w 84 (2 * k)).toNatClampNeg) (w 84 (2 * k + 1))
def dkE (v : Mm) (n : Nat) : Mm := upd2 (upd2 (upd2 (upd2 v 82 16 (nI (2 ^ n) - 1)) 79 15 0) 91 0 0) 91 1 0
def dkM (v : Mm) (n s : Nat) : Mm := dkE (itr dkS s (itr dkP n (dk1 (upd2 v 79 0 (nI n))))) n
theorem dk1_n {v : Mm} {k j : Nat} (h : k ≠ 82) : dk1 v k j = v k j := itr_inv (f := fun k w => upd2 w 82 k 0) (fun w => w k j = v k j) (fun i w hw => by show upd2 w 82 _ _ k j = v k j; rw [u2_n (fun q => h q.1)]; exact hw) 43 v rfl
theorem dkP_n {p : Nat} {w : Mm} {k j : Nat} (h0 : k ≠ 80) (h1 : k ≠ 81) (h2 : k ≠ 82) : dkP p w k j = w k j := by
  unfold dkP
  try dsimp only
  rw [u2_n (fun q => h2 q.1), u2_n (fun q => h1 q.1), u2_n (fun q => h2 q.1), u2_n (fun q => h2 q.1), u2_n (fun q => h0 q.1), u2_n (fun q => h2 q.1)]
theorem dkS_n {s : Nat} {w : Mm} {k j : Nat} (h : k ≠ 82) : dkS s w k j = w k j := u2_n (fun q => h q.1)
/-- a memory from which the desk may be laid: the rows are read -/
def DkI (n s : Nat) (w : Mm) : Prop := w 79 0 = nI n ∧ n ≤ 4 ∧ w 79 7 = nI s ∧ s ≤ 4 ∧ ∀ q, q < s → RowS (w 84) q
theorem DkI.of {n s : Nat} {w u : Mm} (h : DkI n s w) (hu : ∀ k j, k ≠ 80 → k ≠ 81 → k ≠ 82 → u k j = w k j) : DkI n s u := by
  obtain ⟨h1, h2, h3, h4, h5⟩ := h
  refine ⟨by rw [hu 79 0 (by decide) (by decide) (by decide)]; exact h1, h2, by rw [hu 79 7 (by decide) (by decide) (by decide)]; exact h3, h4, fun q hq => ?_⟩
  obtain ⟨d, t, y1, y2, y3, y4⟩ := h5 q hq
  exact ⟨d, t, y1, y2, by rw [hu 84 _ (by decide) (by decide) (by decide)]; exact y3, by rw [hu 84 _ (by decide) (by decide) (by decide)]; exact y4⟩
