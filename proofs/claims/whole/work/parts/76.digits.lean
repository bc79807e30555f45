/-! figures of a row -/
theorem t10_n : ∀ n, n ≤ 12 → t10 n = lN (10 ^ n) := by decide +kernel
theorem p10 : ∀ n, n ≤ 12 → 0 < 10 ^ n ∧ 10 ^ n < 2 ^ 62 := by decide +kernel
theorem tens_t {n : Nat} (h : n ≤ 12) : tensF (nI n) = t10 n := by
  unfold tensF
  rw [if_pos ⟨nI_pos' (by omega), nI_le (b := 12) h (by decide)⟩, nI_clamp (by omega), t10_sv n h]
theorem lN_of {y : Int64} (h : 0 ≤ y) : ∃ Y : Nat, Y < 2 ^ 63 ∧ y = lN Y := pk_lOf (fun z => by
  rw [i64lt] at z
  rw [i64le] at h
  omega)
theorem lt_t10 {y : Int64} {n : Nat} (h : n ≤ 12) : (0 ≤ y ∧ y < tensF (nI n)) ↔ (0 ≤ y ∧ y ≤ t10 n - 1) := by
  rw [tens_t h, t10_n n h]
  have hp := p10 n h
  constructor
  · intro q
    obtain ⟨Y, hY, rfl⟩ := lN_of q.1
    refine ⟨q.1, ?_⟩
    rw [show (1 : Int64) = lN 1 from rfl, lN_sub (by omega), pk_lLE hY (by omega)]
    have := (pk_lLT hY (by omega)).mp q.2
    omega
  · intro q
    obtain ⟨Y, hY, rfl⟩ := lN_of q.1
    refine ⟨q.1, ?_⟩
    have z := q.2
    rw [show (1 : Int64) = lN 1 from rfl, lN_sub (by omega), pk_lLE hY (by omega)] at z
    rw [pk_lLT hY (by omega)]
    omega
theorem dg_l {Y i m : Nat} (hY : Y < 2 ^ 63) (hi : i ≤ 12) (h0 : 0 < m) (hm : m < 2 ^ 63) : rem64 (lN Y / t10 i) (lN m) = lN (Y / 10 ^ i % m) := by
  have hp := p10 i hi
  have hd : Y / 10 ^ i < 2 ^ 63 := Nat.lt_of_le_of_lt (Nat.div_le_self _ _) hY
  rw [t10_n i hi, pk_lDiv hY hp.1 (by omega)]
  exact pk_lRem hd h0 hm
theorem fig_n {Y i : Nat} (hY : Y < 2 ^ 63) (hi : i ≤ 12) : figF (lN Y) (nI i) = nI (Y / 10 ^ i % 10) := by
  unfold figF
  rw [tens_t hi, show (10 : Int64) = lN 10 from rfl, dg_l hY hi (by decide) (by decide), lN_i]
theorem od_eq {Y : Nat} (hY : Y < 2 ^ 63) : ∀ m i, i + m ≤ 12 → (odR (lN Y) m i = 0 ↔ odJ (lN Y) m i = false) ∧ (odJ (lN Y) m i = true → ∀ j, i ≤ j → j < i + m → Y / 10 ^ j % 10 < 8)
  | 0, i, _ => ⟨⟨fun z => absurd (show (1 : Int32) = 0 from z) (by decide), fun z => absurd (show true = false from z) (by decide)⟩, fun _ j h1 h2 => by omega⟩
  | m + 1, i, h => by
    obtain ⟨ih1, ih2⟩ := od_eq hY m (i + 1) (by omega)
    have e1 := fig_n (i := i) hY (by omega)
    have e2 : rem64 (lN Y / t10 i) 10 = lN (Y / 10 ^ i % 10) := dg_l (m := 10) hY (by omega) (by decide) (by decide)
    have hlt : Y / 10 ^ i % 10 < 10 := Nat.mod_lt _ (by decide)
    unfold odR odJ
    rw [e1, e2]
    generalize eq : Y / 10 ^ i % 10 = q at *
    by_cases c : q < 8
    · rw [if_pos (of_d8 c), if_neg (fun z => by
        have z2 : lN 7 < lN q := z
        rw [pk_lLT (by decide) (by omega)] at z2
        omega)]
      refine ⟨ih1, fun z j h1 h2 => ?_⟩
      by_cases y : j = i
      · subst y; omega
      · exact ih2 z j (by omega) (by omega)
    · rw [if_neg (fun z => by
        have z2 : nI q < nI 8 := z.2
        rw [nI_ltI (by omega) (by decide)] at z2
        omega), if_pos (show (7 : Int64) < lN q by
        rw [show (7 : Int64) = lN 7 from rfl, pk_lLT (by decide) (by omega)]
        omega)]
      exact ⟨⟨fun _ => rfl, fun _ => rfl⟩, fun z => absurd z (by decide)⟩
theorem tl_at {Y n : Nat} {v : Mm} (hY : Y < 2 ^ 63) (hn : n ≤ 8) (a j : Nat) : tlM (lN Y) n v a j = if a = 4 ∧ j < n then nI (Y / 10 ^ (n - 1 - j) % 10) else upd2 v 3 1 (nI n) a j := by
  have e1 : tlM (lN Y) n v = itr (fun i w => upd2 w 4 i (nI (Y / 10 ^ (n - 1 - i) % 10))) n (upd2 v 3 1 (nI n)) := by
    unfold tlM
    apply itr_congr
    intro i w hi
    show upd2 w 4 i (figF (lN Y) (nI (n - 1) - nI i)) = _
    rw [pk_sub (by omega), fig_n hY (by omega)]
  rw [e1]
  exact itr_put (k := 4) (v := upd2 v 3 1 (nI n)) (g := fun i _ => nI (Y / 10 ^ (n - 1 - i) % 10)) (h := fun i => nI (Y / 10 ^ (n - 1 - i) % 10)) (fun _ _ _ => rfl) n a j
theorem tw_at {Y n : Nat} {v : Mm} (hY : Y < 2 ^ 63) (hn : n ≤ 8) (a j : Nat) : twM (lN Y) n v a j = if a = 86 ∧ j < n then nI (Y / 10 ^ (n - 1 - j) % 10) else upd2 v 79 12 (nI n) a j := by
  have e1 : twM (lN Y) n v = itr (fun i w => upd2 w 86 i (nI (Y / 10 ^ (n - 1 - i) % 10))) n (upd2 v 79 12 (nI n)) := by
    unfold twM
    apply itr_congr
    intro i w hi
    show upd2 w 86 i (rem64 (lN Y / t10 (n - 1 - i)) 10).toInt32 = _
    rw [show (10 : Int64) = lN 10 from rfl, dg_l hY (by omega) (by decide) (by decide), lN_i]
  rw [e1]
  exact itr_put (k := 86) (v := upd2 v 79 12 (nI n)) (g := fun i _ => nI (Y / 10 ^ (n - 1 - i) % 10)) (h := fun i => nI (Y / 10 ^ (n - 1 - i) % 10)) (fun _ _ _ => rfl) n a j
theorem rem_n {a d : Nat} (ha : a < 2 ^ 31) (h0 : 0 < d) (hd : d < 2 ^ 31) : rem32 (nI a) (nI d) = nI (a % d) := pk_rem ha h0 hd
theorem d3 {Z : Nat} : Z % 1000 / 100 = Z / 100 % 10 ∧ Z % 1000 / 10 % 10 = Z / 10 % 10 ∧ Z % 1000 % 10 = Z % 10 := by omega
theorem t3_n {Y c i : Nat} (hY : Y < 2 ^ 63) (hc : c ≤ 4) (hi : i < c) : t3 (lN Y) c i / 100 = figF (lN Y) (nI (3 * (c - 1 - i)) + 2) ∧ rem32 (t3 (lN Y) c i / 10) 10 = figF (lN Y) (nI (3 * (c - 1 - i)) + 1) ∧ rem32 (t3 (lN Y) c i) 10 = figF (lN Y) (nI (3 * (c - 1 - i))) := by
  have e0 : t3 (lN Y) c i = nI (Y / 10 ^ (3 * (c - 1 - i)) % 1000) := by
    unfold t3
    rw [show (1000 : Int64) = lN 1000 from rfl, dg_l hY (by omega) (by decide) (by decide), lN_i]
  have hlt : Y / 10 ^ (3 * (c - 1 - i)) % 1000 < 1000 := Nat.mod_lt _ (by decide)
  obtain ⟨d1, d2, d3'⟩ := d3 (Z := Y / 10 ^ (3 * (c - 1 - i)))
  rw [e0, show (2 : Int32) = nI 2 from rfl, nI_add, nI_1, fig_n hY (by omega), fig_n hY (by omega), fig_n hY (by omega), show (100 : Int32) = nI 100 from rfl, pk_div (by omega) (by decide) (by decide)]
  rw [show (10 : Int32) = nI 10 from rfl, pk_div (by omega) (by decide) (by decide), rem_n (by omega) (by decide) (by decide), rem_n (by omega) (by decide) (by decide), d1, d2, d3']
  refine ⟨?_, ?_, rfl⟩
  · rw [Nat.div_div_eq_div_mul, show (100 : Nat) = 10 ^ 2 from rfl, ← Nat.pow_add]
  · rw [Nat.div_div_eq_div_mul, ← Nat.pow_succ]
theorem fig_lt {Y i : Nat} (hY : Y < 2 ^ 63) (hi : i ≤ 12) : ∃ q : Nat, q < 10 ∧ figF (lN Y) (nI i) = nI q := ⟨_, Nat.mod_lt _ (by decide), fig_n hY hi⟩
