/-! the reference's reader -/
def fgV (v : Mm) : Int32 := v 85 (v 79 10).toNatClampNeg - 48
def fgO (v : Mm) (most but : Int32) : Int32 × Mm :=
  if v 79 11 = -9 then (if v 79 10 < v 79 9 ∧ (0 ≤ fgV v ∧ fgV v ≤ most) ∧ ¬ fgV v = but then (fgV v, upd2 v 79 10 (v 79 10 + 1)) else (0, upd2 v 79 11 (v 79 10))) else (0, v)
def Fk (v : Mm) (len : Nat) : Prop := v 79 9 = nI len ∧ len ≤ 48 ∧ ∃ a : Nat, a ≤ 48 ∧ v 79 10 = nI a
theorem fgO_n {v : Mm} {m b : Int32} {k j : Nat} (h : ¬ (k = 79 ∧ (j = 10 ∨ j = 11))) : (fgO v m b).2 k j = v k j := by
  unfold fgO
  split
  · split
    · exact u2_n (fun q => h ⟨q.1, Or.inl q.2⟩)
    · exact u2_n (fun q => h ⟨q.1, Or.inr q.2⟩)
  · rfl
theorem Fk.fg {v : Mm} {len : Nat} {m b : Int32} (h : Fk v len) : Fk (fgO v m b).2 len := by
  obtain ⟨h1, h2, a, h3, h4⟩ := h
  refine ⟨by rw [fgO_n (by decide)]; exact h1, h2, ?_⟩
  unfold fgO
  split
  · split
    · rename_i hc
      refine ⟨a + 1, ?_, ?_⟩
      · have z := hc.1
        rw [h4, h1] at z
        have z2 := Nat.lt_of_not_le (fun zq => i32nle.mpr z (nI_le zq (by omega)))
        omega
      · show upd2 v 79 10 (v 79 10 + 1) 79 10 = nI (a + 1)
        rw [u2_s, h4]
        exact nI_add a 1
    · exact ⟨a, h3, by show upd2 v 79 11 (v 79 10) 79 10 = nI a; rw [u2_n (by decide)]; exact h4⟩
  · exact ⟨a, h3, h4⟩
theorem Fk.up {v : Mm} {len k j : Nat} {x : Int32} (h : Fk v len) (hk : k ≠ 79) : Fk (upd2 v k j x) len := by
  obtain ⟨h1, h2, a, h3, h4⟩ := h
  exact ⟨by rw [u2_n (fun q => hk q.1.symm)]; exact h1, h2, a, h3, by rw [u2_n (fun q => hk q.1.symm)]; exact h4⟩
theorem inV {x m : Int32} : ((0 : Int64) ≤ x.toInt64 ∧ x.toInt64 ≤ m.toInt64) ↔ (0 ≤ x ∧ x ≤ m) := by
  rw [i64le, i64le, i32le, i32le, i2l_toInt, i2l_toInt, show (0 : Int64).toInt = (0 : Int32).toInt by decide]
def rdp0 (v : Mm) : Mm := upd2 v 79 10 (v 79 10 + 1)
def rdp1 (v : Mm) : Int32 × Mm := fgO (rdp0 v) 4 (-9)
def rdp2 (v : Mm) : Int32 × Mm := fgO (rdp1 v).2 4 (-9)
def rdq2 (v : Mm) (p : Nat) : Mm := upd2 (rdp2 v).2 83 (5 * p) (5 * (rdp2 v).1 + (rdp1 v).1)
def rdp3 (v : Mm) (p : Nat) : Int32 × Mm := fgO (rdq2 v p) 3 (-9)
def rdq3 (v : Mm) (p : Nat) : Mm := upd2 (rdp3 v p).2 83 (5 * p + 1) (rdp3 v p).1
def rdp4 (v : Mm) (p : Nat) : Int32 × Mm := fgO (rdq3 v p) 6 (-9)
def rdq4 (v : Mm) (p : Nat) : Mm := upd2 (rdp4 v p).2 83 (5 * p + 2) (rdp4 v p).1
def rdp5 (v : Mm) (p : Nat) (t : Int32) : Int32 × Mm := fgO (rdq4 v p) 6 t
def rdq5 (v : Mm) (p : Nat) (t : Int32) : Mm := upd2 (rdp5 v p t).2 83 (5 * p + 3) (rdp5 v p t).1
def rdp6 (v : Mm) (p : Nat) (t : Int32) : Int32 × Mm := fgO (rdq5 v p t) 9 (-9)
def rdq6 (v : Mm) (p : Nat) (t : Int32) : Mm := upd2 (rdp6 v p t).2 83 (5 * p + 4) (rdp6 v p t).1
def rdq7 (v : Mm) (p : Nat) (t : Int32) : Mm := upd2 (rdq6 v p t) 79 6 (rdq6 v p t 79 6 + 1)
def rdpT (v : Mm) (p : Nat) : Int32 := if rdq4 v p 83 (5 * p + 2) = 3 then 3 else -9
def rds2 (v : Mm) (s : Nat) : Mm := upd2 (rdp2 v).2 84 (2 * s) (5 * (rdp2 v).1 + (rdp1 v).1)
def rds3 (v : Mm) (s : Nat) : Int32 × Mm := fgO (rds2 v s) 9 (-9)
def rdu3 (v : Mm) (s : Nat) : Mm := upd2 (rds3 v s).2 84 (2 * s + 1) (rds3 v s).1
def rdu4 (v : Mm) (s : Nat) : Mm := upd2 (rdu3 v s) 79 7 (rdu3 v s 79 7 + 1)
