/-! what small numbers do -/
def sm (x : Int32) : Prop := ∃ i : Nat, i < 7 ∧ x = nI i - 3
theorem d8_of {e : Int32} (h : 0 ≤ e ∧ e < 8) : ∃ j, j < 8 ∧ e = nI j := nI_of_in (n := 8) (by decide) h
theorem d25_of {e : Int32} (h : 0 ≤ e ∧ e < 25) : ∃ j, j < 25 ∧ e = nI j := nI_of_in (n := 25) (by decide) h
theorem of_d8 {j : Nat} (h : j < 8) : 0 ≤ nI j ∧ nI j < 8 := ⟨nI_pos' (by omega), nI_lt (b := 8) h (by decide)⟩
theorem of_d25 {j : Nat} (h : j < 25) : 0 ≤ nI j ∧ nI j < 25 := ⟨nI_pos' (by omega), nI_lt (b := 25) h (by decide)⟩
theorem pl_all : ∀ i, i < 7 → ∀ j, j < 7 → ∀ e, e < 8 → (List.range 7).any (fun q => plF (nI i - 3) (nI j - 3) (nI e) == nI q) = true := by decide +kernel
theorem pl_ok {a b e : Int32} (ha : sm a) (hb : sm b) (he : 0 ≤ e ∧ e < 8) : ∃ q, q < 7 ∧ plF a b e = nI q := by
  obtain ⟨i, hi, rfl⟩ := ha
  obtain ⟨j, hj, rfl⟩ := hb
  obtain ⟨x, hx, rfl⟩ := d8_of he
  obtain ⟨q, h1, h2⟩ := List.any_eq_true.mp (pl_all i hi j hj x hx)
  exact ⟨q, List.mem_range.mp h1, by simpa using h2⟩
theorem ab_all : ∀ i, i < 7 → (List.range 4).any (fun q => abI (nI i - 3) == nI q) = true := by decide +kernel
theorem ab_ok {a : Int32} (ha : sm a) : ∃ q, q < 4 ∧ abI a = nI q := by
  obtain ⟨i, hi, rfl⟩ := ha
  obtain ⟨q, h1, h2⟩ := List.any_eq_true.mp (ab_all i hi)
  exact ⟨q, List.mem_range.mp h1, by simpa using h2⟩
theorem ac_ok {kind a b e : Int32} (ha : sm a) (hb : sm b) : ∃ q, q < 8 ∧ acF kind a b e = nI q := by
  unfold acF
  split
  · rename_i he
    obtain ⟨p, hp, e1⟩ := pl_ok ha hb he
    rw [e1]
    split
    · exact ⟨p, by omega, rfl⟩
    · split
      · split
        · exact ⟨1, by decide, rfl⟩
        · obtain ⟨x, hx, e2⟩ := ab_ok ha
          obtain ⟨y, hy, e3⟩ := ab_ok hb
          rw [e2, e3]
          exact ⟨1 + x + y, by omega, by rw [show (1 : Int32) = nI 1 from rfl, nI_add, nI_add]⟩
      · split
        · exact ⟨1 + p, by omega, by rw [show (1 : Int32) = nI 1 from rfl, nI_add]⟩
        · refine ⟨min 2 (1 + p), by omega, ?_⟩
          rw [show (1 : Int32) = nI 1 from rfl, nI_add, show (2 : Int32) = nI 2 from rfl, mnI_nI (by omega) (by omega)]
  · exact ⟨0, by decide, rfl⟩
theorem ly_ok {down kind a b e : Int32} {l : Nat} (ha : sm a) (hb : sm b) (hl : l < 1000) : ∃ q, q < 8 ∧ q ≤ l ∧ lyF down kind a b e (nI l) = nI q := by
  unfold lyF
  split
  · exact ⟨0, by decide, by omega, rfl⟩
  · obtain ⟨q, hq, e1⟩ := ac_ok (kind := kind) (e := e) ha hb
    rw [e1, mnI_nI (by omega) (by omega)]
    exact ⟨min q l, by omega, by omega, rfl⟩
theorem nb_all : ∀ i, i < 25 → ∀ j, j < 8 → (nbF (nI i) (nI j) == -9 || (List.range 25).any (fun q => nbF (nI i) (nI j) == nI q)) = true := by decide +kernel
theorem nb_ok {x e : Int32} (h : ¬ nbF x e = -9) : ∃ q, q < 25 ∧ nbF x e = nI q := by
  by_cases hc : (0 ≤ x ∧ x < 25) ∧ (0 ≤ e ∧ e < 8)
  · obtain ⟨i, hi, rfl⟩ := d25_of hc.1
    obtain ⟨j, hj, rfl⟩ := d8_of hc.2
    have q := nb_all i hi j hj
    rw [Bool.or_eq_true] at q
    rcases q with q | q
    · exact absurd (by simpa using q) h
    · obtain ⟨y, h1, h2⟩ := List.any_eq_true.mp q
      exact ⟨y, List.mem_range.mp h1, by simpa using h2⟩
  · exact absurd (if_neg hc) h
theorem nI_ne9 {q : Nat} (h : q < 2 ^ 31) : ¬ nI q = -9 := fun e => by
  have h1 := nI_toInt h
  rw [e] at h1
  have : (-9 : Int32).toInt = -9 := by decide
  omega
def PenOk (v : Mm) (k : Nat) : Prop := sm (v k 2) ∧ sm (v k 3) ∧ ∃ l : Nat, l < 100 ∧ v k 4 = nI l
theorem mvL_ok {v : Mm} {k : Nat} (h : PenOk v k) (e : Int32) : ∃ q l : Nat, q < 8 ∧ l < 100 ∧ q ≤ l ∧ v k 4 = nI l ∧ mvL v k e = nI q := by
  obtain ⟨ha, hb, l, hl, e1⟩ := h
  unfold mvL
  rw [e1]
  obtain ⟨q, h1, h2, h3⟩ := ly_ok (down := v k 6) (kind := v k 1) (e := e) (l := l) ha hb (by omega)
  exact ⟨q, l, h1, hl, h2, rfl, h3⟩
theorem mvL_ne {v : Mm} {k : Nat} (h : PenOk v k) (e : Int32) : ¬ mvL v k e = -9 := by
  obtain ⟨q, l, h1, h2, h3, h4, h5⟩ := mvL_ok h e
  rw [h5]
  exact nI_ne9 (by omega)
/-- what a move leaves in the memory -/
theorem mvV_at {v : Mm} {S k : Nat} {e : Int32} {q : Nat} (hk : k ≠ S) (hk2 : k ≠ S + 2) (hq : q < 25) (hn : nbF (v k 0) e = nI q) (a j : Nat) :
    mvV v S k e a j = if a = S ∧ j = 3 then v S 3 + 1 else if a = k ∧ j = 0 then nI q else if a = k ∧ j = 4 then v k 4 - mvL v k e else if a = S + 2 ∧ j = q then mnI 99 (v (S + 2) q + mvL v k e) else v a j := by
  have hd := of_d25 hq
  have hc : (nI q).toNatClampNeg = q := nI_clamp (by omega)
  unfold mvV
  simp only [hn, stM, inkF, if_pos hd, hc]
  unfold upd2
  by_cases h1 : a = S
  · subst h1
    by_cases h2 : j = 3
    · simp [h2, Ne.symm hk, Ne.symm hk2]
    · simp [h2, Ne.symm hk, show ¬ a = a + 2 by omega]
  · by_cases h2 : a = k
    · subst h2
      simp [h1, hk2]
      by_cases h3 : j = 0
      · simp [h3]
      · by_cases h4 : j = 4
        · simp [h4]
        · simp [h3, h4]
    · simp [h1, h2]
      by_cases h3 : a = S + 2
      · subst h3; simp [h2, Ne.symm hk2, hk2]
      · simp [h3]
theorem PenOk.mv {v : Mm} {S k : Nat} {e : Int32} (h : PenOk v k) (hk : k ≠ S) (hk2 : k ≠ S + 2) (hn : ¬ nbF (v k 0) e = -9) : PenOk (mvV v S k e) k := by
  obtain ⟨q, hq, e1⟩ := nb_ok hn
  obtain ⟨y, l, h1, h2, h3, h4, h5⟩ := mvL_ok h e
  refine ⟨?_, ?_, l - y, by omega, ?_⟩
  · rw [mvV_at hk hk2 hq e1]; simp [hk, hk2]; exact h.1
  · rw [mvV_at hk hk2 hq e1]; simp [hk, hk2]; exact h.2.1
  · rw [mvV_at hk hk2 hq e1]; simp [hk, hk2]; rw [h4, h5, pk_sub h3]
