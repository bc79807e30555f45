theorem CSt.lo {v u : Mm} {n : Nat} (h : CSt v n) (hu : ∀ a j, a < 12 → u a j = v a j) : CSt u n := by
  obtain ⟨h1, h2, h3⟩ := h
  refine ⟨h1, by rw [hu 5 2 (by decide)]; exact h2, fun p hp => ?_⟩
  have hk : ∀ j, u (8 + p) j = v (8 + p) j := fun j => hu _ j (by omega)
  exact ⟨⟨by rw [hk]; exact (h3 p hp).1.1, by rw [hk]; exact (h3 p hp).1.2.1, by rw [hk]; exact (h3 p hp).1.2.2⟩, by rw [hk]; exact (h3 p hp).2⟩
theorem WSt.lo {v u : Mm} {w : Nat} (h : WSt v w) (hu : ∀ a j, a < 12 → u a j = v a j) : WSt u w := ⟨by rw [hu 3 1 (by decide)]; exact h.1, h.2⟩
theorem rgM_lo {v : Mm} {n a b w pr k j : Nat} (h : CSt v n) (ha : a < n) (hb : b < n) (hk : k < 12 ∨ (19 ≤ k ∧ k ≠ 36 ∧ k ≠ 37)) : rgM v n a b w pr k j = v k j := by
  unfold rgM
  try dsimp only
  rw [u2_n (fun q => by omega), u2_n (fun q => by omega), (gn_ok h.tr ha hb).2 k j (by omega), trM_away h.1 (by omega)]
theorem gnT {P : Prop} [Decidable P] {c : Prop} (h : c ↔ ¬ P) (hc : ¬ c) : P := Classical.not_not.mp (fun z => hc (h.mpr z))
theorem dec1 (x : Int32) : x + Int32.ofInt (-1) = x - 1 := by
  rw [show Int32.ofInt (-1) = -1 by decide]
  apply Int32.toBitVec_inj.mp
  show x.toBitVec + (-1 : Int32).toBitVec = x.toBitVec - (1 : Int32).toBitVec
  rw [show (-1 : Int32).toBitVec = -(1 : Int32).toBitVec by decide, BitVec.sub_eq_add_neg]
