/-! about the text's functions -/
theorem sh_ge {S : Nat} (h : Sh S) : 5 ≤ S := by rcases h with rfl | rfl | rfl | rfl <;> decide
theorem let0 {v : Mm} {len : Nat} (hl : v 1 1 = nI len) (h48 : len ≤ 48) : letF v 0 = 78 ↔ ¬ (v 1 1 = 0 ∨ ¬ v 2 0 = 78) := by
  by_cases h : 0 < len
  · have e := letF_in hl h48 h
    rw [nI_0] at e
    rw [e, hl]
    constructor
    · rintro q (q2 | q2)
      · exact nI_ne0 h (by omega) q2
      · exact q2 q
    · intro q
      exact Classical.not_not.mp (fun z => q (Or.inr z))
  · have e : len = 0 := by omega
    subst e
    rw [hl]
    constructor
    · intro q
      unfold letF at q
      rw [if_neg (by rw [hl, nI_0]; intro z; exact absurd z.2.1 (by decide))] at q
      exact absurd q (by decide)
    · intro q
      exact absurd (Or.inl nI_0) q
theorem ffi_congr {v w : Mm} (h1 : w 1 1 = v 1 1) (h2 : w 2 = v 2) (part : Int32) (j : Nat) : ∀ m i, ffiF w part j m i = ffiF v part j m i
  | 0, _ => rfl
  | m + 1, i => by
    have hf := fun p => fg_away h1 h2 p
    have hlt : ∀ p, letF w p = letF v p := fun p => by unfold letF; rw [h1, h2]
    unfold ffiF
    rw [ffi_congr h1 h2 part j m (i + 1)]
    simp only [hf, hlt, h1]
theorem ffF_congr {v w : Mm} (h1 : w 1 1 = v 1 1) (h2 : w 2 = v 2) {len : Nat} : ∀ {m p s pl : Nat}, ffF w len m p s pl = ffF v len m p s pl := by
  intro m
  induction m with
  | zero => intros; rfl
  | succ m ih =>
    intro p s pl
    unfold ffF
    rw [ih, ih, ffi_congr h1 h2, ffi_congr h1 h2, h2]
theorem ff_on1 {v : Mm} {len m p s pl : Nat} (h : (if ffiF v (nI pl) 2 6 0 = -9 then ffF v len m (p + 1) s (pl + 7) else ffiF v (nI pl) 2 6 0) = -9) : ffF v len m (p + 1) s (pl + 7) = -9 := by
  split at h
  · exact h
  · rename_i q; exact absurd h q
theorem ff_on2 {v : Mm} {len m p s pl : Nat} (h : (if ffiF v (nI pl) 3 3 0 = -9 then ffF v len m p (s + 1) (pl + 4) else ffiF v (nI pl) 3 3 0) = -9) : ffF v len m p (s + 1) (pl + 4) = -9 := by
  split at h
  · exact h
  · rename_i q; exact absurd h q
theorem lpM_away {v : Mm} {S p k j : Nat} {x : Int32} (h1 : k ≠ S) (h2 : k ≠ S + 3 + p) : lpM v S p x k j = v k j := by
  unfold lpM
  rw [u2_n (fun q => h2 q.1), u2_n (fun q => h2 q.1), u2_n (fun q => h2 q.1), u2_n (fun q => h2 q.1), u2_n (fun q => h2 q.1), u2_n (fun q => h2 q.1), u2_n (fun q => h2 q.1), u2_n (fun q => h1 q.1)]
theorem lpM_S2 (v : Mm) (S p : Nat) (x : Int32) : lpM v S p x S 2 = nI (p + 1) := by
  unfold lpM
  rw [u2_n (fun q => by omega), u2_n (fun q => by omega), u2_n (fun q => by omega), u2_n (fun q => by omega), u2_n (fun q => by omega), u2_n (fun q => by omega), u2_n (fun q => by omega), u2_s]
theorem clM_away {v : Mm} {S k j : Nat} (h1 : k ≠ S) (h2 : k ≠ S + 2) : clM v S k j = v k j := by
  unfold clM flM
  rw [uA_n h2, u2_n (fun q => h1 q.1), u2_n (fun q => h1 q.1)]
theorem clM_S2 (v : Mm) (S : Nat) : clM v S S 2 = nI 0 := by
  unfold clM flM
  rw [uA_n (by omega), u2_n (fun q => absurd q.2 (by decide)), u2_s]
  rfl
