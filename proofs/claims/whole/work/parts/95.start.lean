def v0 : Mm := fun _ _ => 0
def L0 : Lm := fun _ => 0
theorem cut0 : cutT (fun _ => 0) = fun _ => 0 := by
  funext j
  unfold cutT
  split <;> rfl
theorem lv00 : lvT 0 v0 = fun _ => 0 := cut0
theorem R_start : R v0 L0 := by
  refine ⟨⟨0, ?_⟩, ⟨0, ?_⟩, ⟨0, ?_, ?_, 0, 0, 0, ?_⟩, ⟨0, ?_⟩, rfl⟩
  · exact ⟨nI_0.symm, Nat.zero_le _, nI_0.symm, rfl⟩
  · exact ⟨nI_0.symm, nI_0.symm, Nat.zero_le _, rfl, fun i hi => absurd hi (Nat.not_lt_zero i)⟩
  · refine ⟨Nat.zero_le _, nI_0.symm, ?_, ?_⟩
    · rw [lv00]
      exact ⟨nI_0.symm, rfl, fun _ _ => rfl, fun p hp => absurd hp (Nat.not_lt_zero p)⟩
    · rw [lv00]
      exact ⟨fun p hp => absurd hp (Nat.not_lt_zero p), ⟨0, by decide, nI_0.symm⟩, fun j _ => ⟨0, Nat.zero_le _, nI_0.symm⟩⟩
  · intro s hs
    exact ⟨rfl, Or.inl rfl⟩
  · exact ⟨nI_0.symm, by decide, nI_0.symm, Nat.zero_le _, nI_0.symm, nI_0.symm, by decide, fun i hi => absurd hi (Nat.not_lt_zero i)⟩
  · exact ⟨nI_0.symm, nI_0.symm, Nat.zero_le _, rfl, rfl, fun i hi => absurd hi (Nat.not_lt_zero i), rfl⟩
