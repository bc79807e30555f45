/-! contracts that say of the answer and the memory what holds of them -/
def Fi (y : MethodName) (b : ByteArray) (nL : Nat) (r : Option FieldType) (d : Nat) (as : List Value) (v : Mm) (L : Lm) (P : Int32 → Mm → Lm → Prop) : Prop := Fq y b nL r d as v L (fun a w K => ∃ x : Int32, a = some (.int x) ∧ P x w K)
def Fvd (y : MethodName) (b : ByteArray) (nL : Nat) (r : Option FieldType) (d : Nat) (as : List Value) (v : Mm) (L : Lm) (P : Mm → Lm → Prop) : Prop := Fq y b nL r d as v L (fun a w K => a = none ∧ P w K)
/-- n pens copied -/
def pcM (v : Mm) (k j : Nat) : Mm := upd2 (upd2 (upd2 (upd2 (upd2 (upd2 (upd2 v k 0 (v j 0)) k 1 (v j 1)) k 2 (v j 2)) k 3 (v j 3)) k 4 (v j 4)) k 5 (v j 5)) k 6 (v j 6)
theorem pcM_at {v : Mm} {k j a i : Nat} : pcM v k j a i = if a = k ∧ i < 7 then v j i else v a i := by
  unfold pcM upd2
  by_cases h : a = k
  · subst h
    by_cases h7 : i < 7
    · rcases (show i = 0 ∨ i = 1 ∨ i = 2 ∨ i = 3 ∨ i = 4 ∨ i = 5 ∨ i = 6 by omega) with rfl | rfl | rfl | rfl | rfl | rfl | rfl <;> simp
    · have : ∀ c, c < 7 → ¬ i = c := fun c hc e => h7 (by omega)
      simp [h7, this]
  · simp [h]
def flM (v : Mm) (k i : Nat) (x : Int32) : Mm := updA v k (fun j => if j < i then x else v k j)
theorem flM_0 {v : Mm} {k : Nat} {x : Int32} : flM v k 0 x = v := by
  funext a j
  unfold flM updA
  by_cases h : a = k
  · subst h; simp
  · simp [h]
theorem flM_s {v : Mm} {k i : Nat} {x : Int32} : upd2 (flM v k i x) k i x = flM v k (i + 1) x := by
  funext a j
  unfold flM updA upd2
  by_cases h : a = k
  · subst h
    by_cases h2 : j = i
    · subst h2; simp
    · by_cases h3 : j < i
      · simp [h2, h3, show j < i + 1 by omega]
      · simp [h2, h3, show ¬ j < i + 1 by omega]
  · simp [h]
def cpI (S O : Nat) (n : Nat) (v : Mm) : Mm := itr (fun i w => pcM w (S + 3 + i) (O + 3 + i)) n v
def cp0 (v : Mm) (S O : Nat) : Mm := updA (upd2 (upd2 v S 2 (v O 2)) S 3 (v O 3)) (S + 2) (va_cpy (v (O + 2)) (v (S + 2)) 0 0 25)
def cpM (v : Mm) (S O n : Nat) : Mm := cpI S O n (cp0 v S O)
def sumF (g : Nat → Int32) (n : Nat) : Int32 := itr (fun i s => s + g i) n 0
def bit1 (i : Nat) : Int32 := (1 : Int32) <<< (nI i &&& 31)
def bitsF (c : Nat → Bool) (n : Nat) : Int32 := itr (fun i s => if c i then s ||| bit1 i else s) n 0
def folF (S k : Nat) : Nat → Nat → Mm → Int32 × Mm
  | 0, i, v => (nI i, v)
  | m + 1, i, v => if nbF (v k 0) (v 4 i) = -9 then (nI i, v) else folF S k m (i + 1) (mvV v S k (v 4 i))
/-- the greatest part that two sheets have nothing of together -/
theorem sh_ne {S O : Nat} (h : Sh S) (g : Sh O) (hne : S ≠ O) {i j : Nat} (hi : i < 7) (hj : j < 7) : S + i ≠ O + j := by
  rcases h with rfl | rfl | rfl | rfl <;> rcases g with rfl | rfl | rfl | rfl <;> omega
def actM (v : Mm) (a S : Nat) (pen dot : Int32) : Mm := upd2 (upd2 (upd2 (upd2 v a 1 pen) a 2 dot) a 3 (inkF v S dot)) a 4 (v S 3)
theorem flm14 : ∀ n, n < 28 → (if (0 : Int32) ≤ nI n ^^^ 14 then nI n - nI n / 14 * 14 else if nI n - nI n / 14 * 14 = 0 then nI n - nI n / 14 * 14 else nI n - nI n / 14 * 14 + 14) = nI (n % 14) := by decide
theorem mnI_nI {a b : Nat} (ha : a < 2 ^ 31) (hb : b < 2 ^ 31) : mnI (nI a) (nI b) = nI (min a b) := by
  unfold mnI
  by_cases h : b < a
  · rw [if_pos (nI_lt h ha), Nat.min_eq_right (by omega)]
  · rw [if_neg (nI_nlt (by omega) hb), Nat.min_eq_left (by omega)]
