section Rows40
variable {own : String} {b : ByteArray} {nL : Nat} {r : Option FieldType} {d : Nat} {Q : Qt} {pc : Nat} {ls : List (Option Value)} {st : List Value} {v : Mm} {L : Lm}
theorem g_ialdX {k : Nat} {x : Int32} (i : Nat) (hd : decode b pc = .ok (.iaload, 1)) (hk : kd k = 11) (hx : x = nI i) (hi : i < ln k) (hl : ln k < 1000) (kk : G own b nL r d Q (pc + 1) ls (.int (v k i) :: st) v L) : G own b nL r d Q pc ls (.int x :: .ref k :: st) v L := by
  subst hx
  refine g_iald hd hk (vp_in_nI hi (by omega)) ?_
  rw [nI_clamp (by omega)]
  exact kk
theorem g_zaldX {k : Nat} {x : Int32} (i : Nat) (hd : decode b pc = .ok (.baload, 1)) (hk : kd k = 12) (hx : x = nI i) (hi : i < ln k) (hl : ln k < 1000) (kk : G own b nL r d Q (pc + 1) ls (.int (v k i) :: st) v L) : G own b nL r d Q pc ls (.int x :: .ref k :: st) v L := by
  subst hx
  refine g_zald hd hk (vp_in_nI hi (by omega)) ?_
  rw [nI_clamp (by omega)]
  exact kk
theorem g_iastX {k : Nat} {x y : Int32} (i : Nat) (hd : decode b pc = .ok (.iastore, 1)) (hk : kd k = 11) (hx : x = nI i) (hi : i < ln k) (hl : ln k < 1000) (kk : G own b nL r d Q (pc + 1) ls st (upd2 v k i y) L) : G own b nL r d Q pc ls (.int y :: .int x :: .ref k :: st) v L := by
  subst hx
  refine g_iast hd hk (vp_in_nI hi (by omega)) ?_
  rw [nI_clamp (by omega)]
  exact kk
theorem g_zastX {k : Nat} {x y : Int32} (i : Nat) (hd : decode b pc = .ok (.bastore, 1)) (hk : kd k = 12) (hx : x = nI i) (hi : i < ln k) (hl : ln k < 1000) (h01 : y = 0 ∨ y = 1) (kk : G own b nL r d Q (pc + 1) ls st (upd2 v k i y) L) : G own b nL r d Q pc ls (.int y :: .int x :: .ref k :: st) v L := by
  subst hx
  refine g_zast hd hk (vp_in_nI hi (by omega)) h01 ?_
  rw [nI_clamp (by omega)]
  exact kk
end Rows40
theorem ixA {l a p : Nat} : 43 * nI l + nI a + nI p = nI (43 * l + a + p) := by rw [show (43 : Int32) = nI 43 from rfl, pk_mul, nI_add, nI_add]
theorem ixB {l a : Nat} : 43 * nI l + nI a = nI (43 * l + a) := by rw [show (43 : Int32) = nI 43 from rfl, pk_mul, nI_add]
theorem ix5 {a p : Nat} : 5 * nI p + nI a = nI (5 * p + a) := by rw [show (5 : Int32) = nI 5 from rfl, pk_mul, nI_add]
theorem ix5' {p : Nat} : 5 * nI p = nI (5 * p) := by rw [show (5 : Int32) = nI 5 from rfl, pk_mul]
theorem ix2 {a p : Nat} : 2 * nI p + nI a = nI (2 * p + a) := by rw [show (2 : Int32) = nI 2 from rfl, pk_mul, nI_add]
theorem ix2' {p : Nat} : 2 * nI p = nI (2 * p) := by rw [show (2 : Int32) = nI 2 from rfl, pk_mul]
theorem b01_congr {c c' : Prop} [Decidable c] [Decidable c'] (h : c ↔ c') : b01 c = b01 c' := by
  unfold b01
  by_cases q : c
  · rw [if_pos q, if_pos (h.mp q)]
  · rw [if_neg q, if_neg (fun z => q (h.mpr z))]
theorem i2l_toInt (x : Int32) : x.toInt64.toInt = x.toInt := Int32.toInt_toInt64 x
theorem i64le {a b : Int64} : a ≤ b ↔ a.toInt ≤ b.toInt := Int64.le_iff_toInt_le
theorem i64lt {a b : Int64} : a < b ↔ a.toInt < b.toInt := Int64.lt_iff_toInt_lt
theorem inI {x y : Int32} {lo hi : Int64} {l h : Int32} (hl : lo.toInt = l.toInt) (hh : hi.toInt = h.toInt) : (lo ≤ x.toInt64 ∧ x.toInt64 ≤ hi) ↔ (l ≤ x ∧ x ≤ h) := by
  rw [i64le, i64le, i32le, i32le, i2l_toInt, hl, hh]
/-! the reference's own functions -/
def hasP (s k : Int32) : Prop := (s >>> (k &&& 31)) &&& 1 = 1
def acrF (e : Int32) : Int32 := if e = 2 ∨ e = 6 then 0 else if e < 2 ∨ e = 7 then 1 else -1
def uprF (e : Int32) : Int32 := if e = 0 ∨ e = 4 then 0 else if e < 4 then 1 else -1
def ndF (dot e : Int32) : Int32 := if (0 ≤ rem32 dot 5 + acrF e ∧ rem32 dot 5 + acrF e ≤ 4) ∧ (0 ≤ dot / 5 + uprF e ∧ dot / 5 + uprF e ≤ 4) then 5 * (dot / 5 + uprF e) + (rem32 dot 5 + acrF e) else -9
def szF (x : Int32) : Int32 := if 0 ≤ x then x else -x
def thF (k a b e : Int32) : Int32 := if k = 1 then (if uprF e < 0 then 1 + szF a + szF b else 1) else if k = 3 then (if szF (acrF e * b - uprF e * a) + 1 ≤ 2 then szF (acrF e * b - uprF e * a) + 1 else 2) else if k = 2 then szF (acrF e * b - uprF e * a) + 1 else szF (acrF e * b - uprF e * a)
def thM (v : Mm) (l p : Nat) (e : Int32) : Int32 := thF (v 80 p) (v 82 (43 * l + 4 + p)) (v 82 (43 * l + 8 + p)) e
def msL (v : Mm) (l p : Nat) (e : Int32) : Int32 := if (v 82 (43 * l + 16) >>> (nI p &&& 31)) &&& 1 = 1 then (if v 82 (43 * l + 12 + p) ≤ thM v l p e then v 82 (43 * l + 12 + p) else thM v l p e) else 0
def msV (v : Mm) (l p : Nat) (e : Int32) : Mm :=
  let q := (ndF (v 82 (43 * l + p)) e).toNatClampNeg
  let v2 := upd2 (upd2 v 82 (43 * l + p) (ndF (v 82 (43 * l + p)) e)) 82 (43 * l + 12 + p) (upd2 v 82 (43 * l + p) (ndF (v 82 (43 * l + p)) e) 82 (43 * l + 12 + p) - msL v l p e)
  let s := v2 82 (43 * l + 18 + q) + msL v l p e
  let v3 := upd2 v2 82 (43 * l + 18 + q) (if s ≤ 99 then s else 99)
  upd2 v3 82 (43 * l + 17) (v3 82 (43 * l + 17) + 1)
def tuV (v : Mm) (l p : Nat) : Mm := upd2 (upd2 v 82 (43 * l + 4 + p) (-(v 82 (43 * l + 8 + p)))) 82 (43 * l + 8 + p) (v 82 (43 * l + 4 + p))
def ltV (v : Mm) : Mm := itr (fun k w => upd2 w 82 (43 + k) (w 82 k)) 43 v
def kaR (v : Mm) (x : Nat) : Mm := itr (fun k w => upd2 w 87 (43 * x + k) (w 82 k)) 43 v
def kaV (v : Mm) (x c : Nat) : Mm := upd2 (upd2 (kaR v x) 79 16 (nI ((x + 1) % 14))) 79 15 (if c < 14 then nI (c + 1) else 14)
def wrM (v : Mm) : Mm := upd2 v 79 14 (v 79 14 + 1)
def csP (v : Mm) (l p : Nat) (e : Int32) : Prop := (0 ≤ e ∧ e ≤ 7) ∧ ¬ ndF (v 82 (43 * l + p)) e = -9
def woF (l p : Nat) (sk : Int32) : Nat → Nat → Int32 → Mm → Int32 × Mm
  | 0, _, s, v => (s, v)
  | m + 1, i, s, v => if (sk >>> (nI i &&& 31)) &&& 1 = 1 then woF l p sk m (i + 1) s (wrM v) else if (0 ≤ v 86 i ∧ v 86 i ≤ 7) ∧ ¬ ndF (v 82 (43 * l + p)) (v 86 i) = -9 then woF l p sk m (i + 1) (s + msL v l p (v 86 i)) (wrM (msV v l p (v 86 i))) else (s, v)
def wo0 (v : Mm) : Mm := upd2 v 79 14 0
theorem nd_all : ∀ i, i < 25 → ∀ j, j < 8 → (ndF (nI i) (nI j) == nbF (nI i) (nI j)) = true := by decide +kernel
theorem nd_nb {i : Nat} {e : Int32} (hi : i < 25) (he : 0 ≤ e ∧ e < 8) : ndF (nI i) e = nbF (nI i) e := by
  obtain ⟨j, hj, rfl⟩ := d8_of he
  simpa using nd_all i hi j hj
theorem nd_ok {i : Nat} {e : Int32} (hi : i < 25) (he : 0 ≤ e ∧ e < 8) (h : ¬ ndF (nI i) e = -9) : ∃ q, q < 25 ∧ ndF (nI i) e = nI q := by
  rw [nd_nb hi he] at h ⊢
  exact nb_ok h
theorem inPen {n : Nat} {x : Int32} (hn : n ≤ 4) : ((0 : Int64) ≤ x.toInt64 ∧ x.toInt64 ≤ (nI n - 1).toInt64) ↔ (0 ≤ x ∧ x < nI n) := by
  rw [i64le, i64le, i32le, i32lt, i2l_toInt, i2l_toInt, nI_toInt (by omega)]
  have h : (nI n - 1).toInt = (n : Int) - 1 := pk_sub_toInt (a := n) (b := 1) (by omega) (by decide)
  rw [h]
  have h0 : (0 : Int64).toInt = 0 := by decide
  have h1 : (0 : Int32).toInt = 0 := by decide
  omega
theorem ln_all : ln 80 = 4 ∧ ln 81 = 4 ∧ ln 82 = 86 ∧ ln 83 = 20 ∧ ln 84 = 8 ∧ ln 85 = 48 ∧ ln 86 = 8 ∧ ln 87 = 602 ∧ ln 88 = 25 ∧ ln 89 = 6 ∧ ln 90 = 6 ∧ ln 91 = 2 ∧ ln 92 = 86 := by decide
