theorem kaR_away {v : Mm} {x k j : Nat} (h : k ≠ 87) : kaR v x k j = v k j := itr_inv (f := fun k w => upd2 w 87 (43 * x + k) (w 82 k)) (fun w => w k j = v k j) (fun i w hw => by show upd2 w 87 _ _ k j = v k j; rw [u2_n (fun q => h q.1)]; exact hw) 43 v rfl
theorem kaV_away {v : Mm} {x c k j : Nat} (h : k ≠ 87) (h2 : ¬ (k = 79 ∧ (j = 15 ∨ j = 16))) : kaV v x c k j = v k j := by
  unfold kaV
  rw [u2_n (fun q => h2 ⟨q.1, Or.inl q.2⟩), u2_n (fun q => h2 ⟨q.1, Or.inr q.2⟩), kaR_away h]
theorem ltV_away {v : Mm} {k j : Nat} (h : ¬ (k = 82 ∧ 43 ≤ j)) : ltV v k j = v k j := itr_inv (f := fun k w => upd2 w 82 (43 + k) (w 82 k)) (fun w => w k j = v k j) (fun i w hw => by show upd2 w 82 _ _ k j = v k j; rw [u2_n (fun q => h ⟨q.1, by omega⟩)]; exact hw) 43 v rfl
theorem ltV_lo_step {v : Mm} : ∀ n, n ≤ 43 → (∀ j, j < 43 → itr (fun k w => upd2 w 82 (43 + k) (w 82 k)) n v 82 j = v 82 j) ∧ ∀ j, j < n → itr (fun k w => upd2 w 82 (43 + k) (w 82 k)) n v 82 (43 + j) = v 82 j
  | 0, _ => ⟨fun _ _ => rfl, fun j h => absurd h (Nat.not_lt_zero j)⟩
  | n + 1, h => by
    obtain ⟨h1, h2⟩ := ltV_lo_step (v := v) n (by omega)
    refine ⟨fun j hj => ?_, fun j hj => ?_⟩
    · show upd2 _ 82 (43 + n) _ 82 j = v 82 j
      rw [u2_n (fun q => by omega)]
      exact h1 j hj
    · show upd2 _ 82 (43 + n) _ 82 (43 + j) = v 82 j
      by_cases e : j = n
      · subst e
        rw [u2_s]
        exact h1 j (by omega)
      · rw [u2_n (fun q => by omega)]
        exact h2 j (by omega)
theorem ltV_hi {v : Mm} {j : Nat} (h : j < 43) : ltV v 82 (43 + j) = v 82 j := (ltV_lo_step 43 (Nat.le_refl _)).2 j h
theorem ltV_lo {v : Mm} {j : Nat} (h : j < 43) : ltV v 82 j = v 82 j := ltV_away (fun q => by omega)
theorem sw2 (x : Int32) (h : 0 ≤ x ∧ x ≤ 2) : x = 0 ∨ x = 1 ∨ x = 2 := by
  obtain ⟨j, hj, rfl⟩ := vp_in_of (vin_le (n := 3) (by decide) h (by decide)) (by decide)
  rcases (show j = 0 ∨ j = 1 ∨ j = 2 by omega) with rfl | rfl | rfl
  · exact Or.inl rfl
  · exact Or.inr (Or.inl rfl)
  · exact Or.inr (Or.inr rfl)
theorem sw1 (x : Int32) (h : 0 ≤ x ∧ x ≤ 1) : x = 0 ∨ x = 1 := by
  obtain ⟨j, hj, rfl⟩ := vp_in_of (vin_le (n := 2) (by decide) h (by decide)) (by decide)
  rcases (show j = 0 ∨ j = 1 by omega) with rfl | rfl
  · exact Or.inl rfl
  · exact Or.inr rfl
def odJ (row : Int64) : Nat → Nat → Bool
  | 0, _ => true
  | m + 1, i => if 7 < rem64 (row / t10 i) 10 then false else odJ row m (i + 1)
def twM (row : Int64) (n : Nat) (v : Mm) : Mm := itr (fun i w => upd2 w 86 i (rem64 (row / t10 (n - 1 - i)) 10).toInt32) n (upd2 v 79 12 (nI n))
theorem t10_ne : ∀ n, n ≤ 12 → ¬ t10 n = 0 := by decide
theorem t10_sv : ∀ n, n ≤ 12 → t10 n = svJ n := by decide
