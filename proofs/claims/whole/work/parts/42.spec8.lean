/-! the reference's loops -/
def onF (x : Int32) : Int32 := itr (fun i s => s + ((x >>> (nI i &&& 31)) &&& 1)) 25 0
def t10 (n : Nat) : Int64 := itr (fun _ s => s * 10) n 1
def bkF (v : Mm) (l : Nat) : Int32 := itr (fun i s => s ||| (if v 82 (43 * l + 18 + i) ≤ 2 then 0 else bit1 i)) 25 0
def ikF (v : Mm) (l : Nat) : Int32 := itr (fun i s => s + v 82 (43 * l + 18 + i)) 25 0
def fuF (v : Mm) (n : Nat) : Int32 := itr (fun i s => s ||| (if v 82 (12 + i) = v 81 i then bit1 i else 0)) n 0
def DotOk (v : Mm) (l p : Nat) : Prop := ∃ q : Nat, q < 25 ∧ v 82 (43 * l + p) = nI q
theorem msV_away {v : Mm} {l p : Nat} {e : Int32} {k j : Nat} (h : k ≠ 82) : msV v l p e k j = v k j := by
  unfold msV
  try dsimp only
  rw [u2_n (fun q => h q.1), u2_n (fun q => h q.1), u2_n (fun q => h q.1), u2_n (fun q => h q.1)]
theorem wrM_away {v : Mm} {k j : Nat} (h : ¬ (k = 79 ∧ j = 14)) : wrM v k j = v k j := u2_n h
theorem msV_dot {v : Mm} {l p q : Nat} {e : Int32} (hp : p < 4) (hq : q < 25) (h : ndF (v 82 (43 * l + p)) e = nI q) : msV v l p e 82 (43 * l + p) = nI q := by
  unfold msV
  try dsimp only
  rw [u2_n (fun z => by omega), u2_n (fun z => by omega), u2_n (fun z => by omega), u2_s, h]
def fcF (n : Nat) : Int32 := itr (fun k s => s * nI (k + 2)) (n - 1) 1
def kpV (v : Mm) (s : Nat) : Mm := itr (fun k w => upd2 w 92 (43 * s + k) (w 82 k)) 43 v
def agV (v : Mm) (s : Nat) : Mm := itr (fun k w => upd2 w 82 k (w 92 (43 * s + k))) 43 v
def unV (v : Mm) (x : Nat) : Mm := itr (fun k w => upd2 w 82 k (w 87 (43 * x + k))) 43 v
theorem ixK {l k : Nat} : 43 * nI l + nI k = nI (43 * l + k) := ixB
theorem le7 {x : Int32} : x ≤ 7 ↔ x < 8 := by
  rw [i32le, i32lt]
  have h7 : (7 : Int32).toInt = 7 := by decide
  have h8 : (8 : Int32).toInt = 8 := by decide
  omega
theorem le24 {x : Int32} : x ≤ 24 ↔ x < 25 := by
  rw [i32le, i32lt]
  have h7 : (24 : Int32).toInt = 24 := by decide
  have h8 : (25 : Int32).toInt = 25 := by decide
  omega
