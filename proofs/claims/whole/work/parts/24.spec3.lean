/-! the acts, the seen, the word and the text once more -/
def odR (row : Int64) : Nat → Nat → Int32
  | 0, _ => 1
  | m + 1, i => if 0 ≤ figF row (nI i) ∧ figF row (nI i) < 8 then odR row m (i + 1) else 0
def tlM (row : Int64) (n : Nat) (v : Mm) : Mm := itr (fun i w => upd2 w 4 i (figF row (nI (n - 1) - nI i))) n (upd2 v 3 1 (nI n))
def ffF (v : Mm) (len : Nat) : Nat → Nat → Nat → Nat → Int32
  | 0, _, _, _ => -9
  | m + 1, p, s, pl => if pl < len then (if v 2 pl = 80 ∧ p < 4 then (if ffiF v (nI pl) 2 6 0 = -9 then ffF v len m (p + 1) s (pl + 7) else ffiF v (nI pl) 2 6 0) else if v 2 pl = 83 ∧ s < 4 then (if ffiF v (nI pl) 3 3 0 = -9 then ffF v len m p (s + 1) (pl + 4) else ffiF v (nI pl) 3 3 0) else nI pl) else -9
def lpM (v : Mm) (S p : Nat) (pl : Int32) : Mm :=
  upd2 (upd2 (upd2 (upd2 (upd2 (upd2 (upd2 (upd2 v S 2 (nI (p + 1))) (S + 3 + p) 0 (5 * fgF v (pl + 2) + fgF v (pl + 1))) (S + 3 + p) 1 (fgF v (pl + 3))) (S + 3 + p) 2 (fgF v (pl + 4) - 3)) (S + 3 + p) 3 (fgF v (pl + 5) - 3)) (S + 3 + p) 5 (5 * fgF v (pl + 6))) (S + 3 + p) 4 (5 * fgF v (pl + 6))) (S + 3 + p) 6 1
theorem letF_in {v : Mm} {len i : Nat} (hl : v 1 1 = nI len) (h48 : len ≤ 48) (hi : i < len) : letF v (nI i) = v 2 i := by
  unfold letF
  rw [if_pos ⟨nI_pos' (by omega), by rw [hl]; exact nI_lt hi (by omega), nI_lt (b := 48) (by omega) (by decide)⟩, nI_clamp (by omega)]
theorem fg_away {v w : Mm} (h1 : w 1 1 = v 1 1) (h2 : w 2 = v 2) (p : Int32) : fgF w p = fgF v p := by unfold fgF letF; rw [h1, h2]
def slM (v : Mm) (S : Nat) (pl : Int32) : Mm := stM v S (5 * fgF v (pl + 2) + fgF v (pl + 1)) (fgF v (pl + 3))
def loM (S len : Nat) : Nat → Nat → Nat → Mm → Mm
  | 0, _, _, v => v
  | m + 1, p, pl, v => if pl < len then (if v 2 pl = 80 then loM S len m (p + 1) (pl + 7) (lpM v S p (nI pl)) else loM S len m p (pl + 4) (slM v S (nI pl))) else v
def clM (v : Mm) (S : Nat) : Mm := flM (upd2 (upd2 v S 2 0) S 3 0) (S + 2) 25 0
/-- an act is noted: at its place, with the pen (if there is one) -/
def noM (v : Mm) (i S : Nat) (pen dot : Int32) : Mm := actM v (40 + i) S pen dot
def ac0 (v : Mm) (f c : Nat) : Mm := if c < 14 then upd2 v 38 2 (nI (c + 1)) else upd2 v 38 1 (nI ((f + 1) % 14))
def acI (f c : Nat) : Nat := if c < 14 then (f + c) % 14 else f
theorem act_kd {i : Nat} (h : i < 14) : kd (40 + i) = 0 := by
  rcases (show i = 0 ∨ i = 1 ∨ i = 2 ∨ i = 3 ∨ i = 4 ∨ i = 5 ∨ i = 6 ∨ i = 7 ∨ i = 8 ∨ i = 9 ∨ i = 10 ∨ i = 11 ∨ i = 12 ∨ i = 13 by omega) with rfl | rfl | rfl | rfl | rfl | rfl | rfl | rfl | rfl | rfl | rfl | rfl | rfl | rfl <;> rfl
theorem act_tp {i : Nat} (h : i < 14) : tp (40 + i) 0 = 54 + i := by
  rcases (show i = 0 ∨ i = 1 ∨ i = 2 ∨ i = 3 ∨ i = 4 ∨ i = 5 ∨ i = 6 ∨ i = 7 ∨ i = 8 ∨ i = 9 ∨ i = 10 ∨ i = 11 ∨ i = 12 ∨ i = 13 by omega) with rfl | rfl | rfl | rfl | rfl | rfl | rfl | rfl | rfl | rfl | rfl | rfl | rfl | rfl <;> rfl
theorem act_pk {i : Nat} (h : i < 14) : kd (54 + i) = 2 := by
  rcases (show i = 0 ∨ i = 1 ∨ i = 2 ∨ i = 3 ∨ i = 4 ∨ i = 5 ∨ i = 6 ∨ i = 7 ∨ i = 8 ∨ i = 9 ∨ i = 10 ∨ i = 11 ∨ i = 12 ∨ i = 13 by omega) with rfl | rfl | rfl | rfl | rfl | rfl | rfl | rfl | rfl | rfl | rfl | rfl | rfl | rfl <;> rfl
theorem act_row {i : Nat} (h : i < 14) : tp 39 i = 40 + i := by
  rcases (show i = 0 ∨ i = 1 ∨ i = 2 ∨ i = 3 ∨ i = 4 ∨ i = 5 ∨ i = 6 ∨ i = 7 ∨ i = 8 ∨ i = 9 ∨ i = 10 ∨ i = 11 ∨ i = 12 ∨ i = 13 by omega) with rfl | rfl | rfl | rfl | rfl | rfl | rfl | rfl | rfl | rfl | rfl | rfl | rfl | rfl <;> rfl
theorem sh_lt {S : Nat} (h : Sh S) : S ≤ 26 := by rcases h with rfl | rfl | rfl | rfl <;> decide
def tbM (v : Mm) (i S : Nat) : Mm := upd2 (stM v S (v (40 + i) 2) (v (40 + i) 3)) S 3 (v (40 + i) 4)
/-- the unknown pen has such a nib -/
def unM (v : Mm) (x y : Int32) : Mm := upd2 (upd2 v 71 2 x) 71 3 y
theorem unM_un {v : Mm} {a b x y : Int32} : unM (unM v a b) x y = unM v x y := by
  funext k j
  unfold unM upd2
  by_cases h : k = 71
  · subst h
    by_cases h2 : j = 2
    · subst h2; simp
    · by_cases h3 : j = 3
      · subst h3; simp
      · simp [h2, h3]
  · simp [h]
def fiR (v : Mm) (a b : Int32) : Nat → Nat → Int32
  | 0, _ => 1
  | m + 1, i => if acF (v 71 1) a b (v 69 i) = v 70 i then fiR v a b m (i + 1) else 0
def fiF (v : Mm) (c : Nat) (a b : Int32) : Int32 := if a = 0 ∧ b = 0 then 0 else fiR v a b c 0
theorem stM_away {v : Mm} {S a j : Nat} {x y : Int32} (h : a ≠ S + 2) : stM v S x y a j = v a j := by
  unfold stM
  split
  · rw [u2_n (fun q => h q.1)]
  · rfl
theorem tbM_away {v : Mm} {i S : Nat} (a j : Nat) (h1 : a ≠ S) (h2 : a ≠ S + 2) : tbM v i S a j = v a j := by
  unfold tbM
  rw [u2_n (fun q => h1 q.1), stM_away h2]
theorem tbM_S2 (v : Mm) (i S : Nat) : tbM v i S S 2 = v S 2 := by
  unfold tbM
  rw [u2_n (fun q => absurd q.2 (by decide)), stM_away (by omega)]
theorem unM_n {v : Mm} {x y : Int32} {k j : Nat} (h : k ≠ 71) : unM v x y k j = v k j := by
  unfold unM
  rw [u2_n (fun q => h q.1), u2_n (fun q => h q.1)]
