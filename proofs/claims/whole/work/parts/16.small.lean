/-! small facts: truth values, indices -/
def b01 (c : Prop) [Decidable c] : Int32 := if c then 1 else 0
theorem b01_eq0 {c : Prop} [Decidable c] : b01 c = 0 ↔ ¬ c := by unfold b01; by_cases h : c <;> simp [h]
theorem b01_ne0 {c : Prop} [Decidable c] : ¬ b01 c = 0 ↔ c := by rw [b01_eq0, Classical.not_not]
theorem b01_01 {c : Prop} [Decidable c] : b01 c = 0 ∨ b01 c = 1 := by unfold b01; by_cases h : c <;> simp [h]
theorem b01_t {c : Prop} [Decidable c] (h : c) : b01 c = 1 := if_pos h
theorem b01_f {c : Prop} [Decidable c] (h : ¬ c) : b01 c = 0 := if_neg h
theorem i32lt {a b : Int32} : a < b ↔ a.toInt < b.toInt := Int32.lt_iff_toInt_lt
theorem i32le {a b : Int32} : a ≤ b ↔ a.toInt ≤ b.toInt := Int32.le_iff_toInt_le
theorem i32nlt {a b : Int32} : ¬ a < b ↔ b ≤ a := by rw [i32lt, i32le]; omega
theorem i32nle {a b : Int32} : ¬ a ≤ b ↔ b < a := by rw [i32lt, i32le]; omega
theorem vin_lt {x : Int32} {n : Nat} (hn : n < 2 ^ 31) (h : 0 ≤ x ∧ x < nI n) : vp_in x n := by
  rw [vp_in_iff]
  have h1 := i32le.mp h.1
  have h2 := i32lt.mp h.2
  rw [nI_toInt hn] at h2
  exact ⟨h1, h2⟩
theorem vin_le {x : Int32} {n : Nat} (hn : n < 2 ^ 31) (h : 0 ≤ x ∧ x ≤ nI (n - 1)) (h0 : 0 < n) : vp_in x n := by
  rw [vp_in_iff]
  have h1 := i32le.mp h.1
  have h2 := i32le.mp h.2
  rw [nI_toInt (by omega)] at h2
  exact ⟨h1, by omega⟩
theorem nI_of_in {x : Int32} {n : Nat} (hn : n < 2 ^ 31) (h : 0 ≤ x ∧ x < nI n) : ∃ j, j < n ∧ x = nI j := vp_in_of (vin_lt hn h) hn
theorem u2_s {v : Mm} {k j : Nat} {x : Int32} : upd2 v k j x k j = x := by unfold upd2; simp
theorem u2_n {v : Mm} {k j a b : Nat} {x : Int32} (h : ¬ (a = k ∧ b = j)) : upd2 v k j x a b = v a b := by unfold upd2; rw [if_neg h]
theorem uA_s {v : Mm} {k : Nat} {f : Nat → Int32} : updA v k f k = f := by unfold updA; simp
theorem uA_n {v : Mm} {k a : Nat} {f : Nat → Int32} (h : ¬ a = k) : updA v k f a = v a := by unfold updA; rw [if_neg h]
theorem ul_s {v : Lm} {k : Nat} {x : Int64} : updl v k x k = x := by unfold updl; simp
theorem u2_same {v : Mm} {k j : Nat} {x : Int32} (h : v k j = x) : upd2 v k j x = v := by
  funext a b
  unfold upd2
  split
  · rename_i q; rw [q.1, q.2, h]
  · rfl
theorem u2_twice {v : Mm} {k j : Nat} {x y : Int32} : upd2 (upd2 v k j x) k j y = upd2 v k j y := by
  funext a b
  unfold upd2
  split <;> rfl
