/-! the reference's trial level -/
def MSt (v : Mm) (n w : Nat) : Prop := n ≤ 4 ∧ v 79 0 = nI n ∧ v 79 12 = nI w ∧ w ≤ 8 ∧ ∀ p, p < n → DotOk v 1 p
def xoV (v : Mm) (x : Int32) : Mm := upd2 v 82 59 (v 82 59 ^^^ x)
def woA (v : Mm) (p w : Nat) : Int32 × Mm := woF 1 p 0 (min 8 w) 0 0 (wo0 v)
def ttF (v : Mm) (n w : Nat) (k a b : Int32) : Int32 × Mm :=
  if k = 1 then (if 0 ≤ a ∧ a < nI n then (if (0 ≤ b ∧ b ≤ 7) ∧ ¬ ndF (v 82 (43 * 1 + a.toNatClampNeg)) b = -9 then (1, msV v 1 a.toNatClampNeg b) else (0, v)) else (0, v))
  else if k = 2 then (if a = 0 ∧ (0 ≤ b ∧ b < nI n) then (1, xoV v (bit1 b.toNatClampNeg)) else (0, xoV v 0))
  else if k = 3 then (if a = 0 ∧ (0 ≤ b ∧ b < nI n) then (if v 82 (55 + b.toNatClampNeg) < v 81 b.toNatClampNeg then (1, upd2 v 82 (55 + b.toNatClampNeg) (v 81 b.toNatClampNeg)) else (0, v)) else (0, v))
  else if k = 4 then (if a = 0 ∧ (0 ≤ b ∧ b < nI n) then (1, tuV v 1 b.toNatClampNeg) else (0, v))
  else if k = 5 then (if (0 ≤ a ∧ a ≤ 4) ∧ (0 ≤ b ∧ b ≤ 4) then (b01 (2 < v 82 (61 + 5 * b.toNatClampNeg + a.toNatClampNeg)), v) else (0, v))
  else if k = 6 then (if 0 ≤ a ∧ a < nI n then (b01 (b ≤ v 82 (55 + a.toNatClampNeg)), v) else (0, v))
  else if k = 7 then (if b = 0 ∧ (0 ≤ a ∧ a < nI n) then (b01 ((woA v a.toNatClampNeg w).2 79 14 = (woA v a.toNatClampNeg w).2 79 12), (woA v a.toNatClampNeg w).2) else (0, v))
  else (0, v)
theorem ix61 {a b : Nat} : (61 : Int32) + 5 * nI b + nI a = nI (61 + 5 * b + a) := by rw [show (61 : Int32) = nI 61 from rfl, ix5', nI_add, nI_add]
theorem le4_of {x : Int32} (h : 0 ≤ x ∧ x ≤ 4) : ∃ j, j < 5 ∧ x = nI j := vp_in_of (vin_le (n := 5) (by decide) h (by decide)) (by decide)
theorem ltV_dot {v : Mm} {p : Nat} (hp : p < 4) (h : DotOk v 0 p) : DotOk (ltV v) 1 p := by
  obtain ⟨q, h1, h2⟩ := h
  exact ⟨q, h1, by rw [show 43 * 1 + p = 43 + p by omega, ltV_hi (by omega)]; rw [Nat.mul_zero, Nat.zero_add] at h2; exact h2⟩
