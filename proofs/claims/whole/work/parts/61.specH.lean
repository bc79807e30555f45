/-! the reference's ways, rings, nibs, shares -/
def fiM (v : Mm) (g : Int32) : Mm := itr (fun k w => upd2 w 88 k (if nI k = g then 0 else 1000000)) 25 v
def wyF (w : Mm) (p k : Nat) : Int32 := if ndF (nI (k / 8)) (nI (k % 8)) = -9 then 1000000 else w 88 (ndF (nI (k / 8)) (nI (k % 8))).toNatClampNeg + 1000 * thM w 0 p (nI (k % 8)) + 1
def rlm (p k : Nat) (w : Mm) : Mm := upd2 w 88 (k / 8) (if wyF w p k < w 88 (k / 8) then wyF w p k else w 88 (k / 8))
def ffM (v : Mm) (p : Nat) (g : Int32) : Mm := itr (fun _ w => itr (rlm p) 200 w) 25 (fiM v g)
def fwR (v : Mm) (p d : Nat) : Nat → Nat → Int32
  | 0, _ => -9
  | m + 1, e => if 0 < v 88 d then (if ¬ ndF (nI d) (nI e) = -9 ∧ v 88 (ndF (nI d) (nI e)).toNatClampNeg + 1000 * thM v 0 p (nI e) + 1 = v 88 d then nI e else fwR v p d m (e + 1)) else -9
def rbR (v : Mm) (p : Nat) : Nat → Int32 → Int32 → Nat → Int32
  | 0, dot, s, _ => if dot = v 82 p then s else -9
  | m + 1, dot, s, l => if ndF dot (nI (l % 8)) = -9 then -9 else rbR v p m (ndF dot (nI (l % 8))) (s + thM v 0 p (nI (l % 8))) (l / 8)
def rgS (v : Mm) (p c : Nat) (l : Nat) (s : Int32 × Int32) : Int32 × Int32 := (s.1 + (if rbR v p c (v 82 p) 0 l = -9 then 0 else 1), if ¬ rbR v p c (v 82 p) 0 l = -9 ∧ (s.2 = -9 ∨ rbR v p c (v 82 p) 0 l < s.2) then rbR v p c (v 82 p) 0 l else s.2)
def rnF (v : Mm) (p c : Nat) : Int32 × Int32 := itr (rgS v p c) (8 ^ c) (0, -9)
def nfS (v : Mm) (a b : Int32) (e : Nat) (s : Int32) : Int32 := if s = 0 then 0 else if szF (acrF (v 89 e) * b - uprF (v 89 e) * a) = v 90 e then 1 else 0
def nfF (v : Mm) (c k : Nat) : Int32 := itr (nfS v (nI (k / 7) - 3) (nI (k % 7) - 3)) c (if ¬ nI (k / 7) - 3 = 0 ∨ ¬ nI (k % 7) - 3 = 0 then 1 else 0)
def nbS (v : Mm) (c k : Nat) (s : Int32 × Int32) : Int32 × Int32 := (s.1 + (if nfF v c k = 0 then 0 else 1), if ¬ nfF v c k = 0 ∧ s.1 = 0 then 10 * nI (k / 7) + nI (k % 7) else s.2)
def nmF (v : Mm) (c : Nat) : Int32 × Int32 := itr (nbS v c) 49 (0, -9)
theorem thM_88 {w : Mm} {p k : Nat} {x : Int32} {e : Int32} {l : Nat} : thM (upd2 w 88 k x) l p e = thM w l p e := by
  unfold thM
  rw [u2_n (fun q => absurd q.1 (by decide)), u2_n (fun q => absurd q.1 (by decide)), u2_n (fun q => absurd q.1 (by decide))]
theorem nd25 {k : Nat} (hk : k < 200) (h : ¬ ndF (nI (k / 8)) (nI (k % 8)) = -9) : ∃ q, q < 25 ∧ ndF (nI (k / 8)) (nI (k % 8)) = nI q := nd_ok (by omega) (of_d8 (by omega)) h
def byM (v : Mm) (w : Nat) (s : Int32) (n : Nat) : Mm := itr (fun p u => if (s >>> (nI p &&& 31)) &&& 1 = 1 then (woA u p w).2 else u) n (ltV v)
def byR (v : Mm) (w : Nat) (s : Int32) (n : Nat) : Int32 := onF (bkF (byM v w s n) 1)
theorem ffM_away {v : Mm} {p : Nat} {g : Int32} {k j : Nat} (h : k ≠ 88) : ffM v p g k j = v k j := by
  unfold ffM
  have h1 : fiM v g k j = v k j := itr_inv (f := fun k w => upd2 w 88 k (if nI k = g then 0 else 1000000)) (fun w => w k j = v k j) (fun i w hw => by show upd2 w 88 _ _ k j = v k j; rw [u2_n (fun q => h q.1)]; exact hw) 25 v rfl
  refine itr_inv (f := fun _ w => itr (rlm p) 200 w) (fun w => w k j = v k j) (fun i w hw => ?_) 25 (fiM v g) h1
  exact itr_inv (f := rlm p) (fun w => w k j = v k j) (fun i w hw => by unfold rlm; rw [u2_n (fun q => h q.1)]; exact hw) 200 w hw
