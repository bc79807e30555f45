/-! counting nibs; ways -/
def cnR (v : Mm) (c a : Nat) : Nat → Int32 → Int32 := itr (fun b s => if fiF v c (nI a - 3) (nI b - 3) = 0 then s else s + 1)
def cnF (v : Mm) (c : Nat) : Int32 := itr (fun a s => cnR v c a 7 s) 7 0
def fnB (v : Mm) (c a : Nat) : Nat → Nat → Option Int32
  | 0, _ => none
  | m + 1, b => if fiF v c (nI a - 3) (nI b - 3) = 0 then fnB v c a m (b + 1) else some (10 * nI a + nI b)
def fnA (v : Mm) (c : Nat) : Nat → Nat → Int32
  | 0, _ => -9
  | m + 1, a => match fnB v c a 7 0 with
    | some r => r
    | none => fnA v c m (a + 1)
theorem fiR_01 (v : Mm) (a b : Int32) : ∀ m i, fiR v a b m i = 0 ∨ fiR v a b m i = 1
  | 0, _ => Or.inr rfl
  | m + 1, i => by
    unfold fiR
    split
    · exact fiR_01 v a b m (i + 1)
    · exact Or.inl rfl
theorem fiR_un {v : Mm} {x y : Int32} (a b : Int32) : ∀ m i, fiR (unM v x y) a b m i = fiR v a b m i
  | 0, _ => rfl
  | m + 1, i => by
    unfold fiR
    rw [fiR_un a b m (i + 1), unM_n (k := 69) (by decide), unM_n (k := 70) (by decide)]
    rfl
theorem fiF_un {v : Mm} {x y : Int32} (c : Nat) (a b : Int32) : fiF (unM v x y) c a b = fiF v c a b := by
  unfold fiF
  rw [fiR_un]
theorem unM_self (v : Mm) : unM v (v 71 2) (v 71 3) = v := by
  unfold unM
  rw [u2_same rfl, u2_same rfl]
def cbF (v : Mm) (dot e : Int32) : Int32 := if (0 ≤ nbF dot e ∧ nbF dot e < 25) ∧ (0 ≤ e ∧ e < 8) then v 73 e.toNatClampNeg + v 74 (nbF dot e).toNatClampNeg else 1000000
def rlx (dot e : Nat) (s : Mm × Int32) : Mm × Int32 := if cbF s.1 (nI dot) (nI e) < s.1 74 dot then (upd2 s.1 74 dot (cbF s.1 (nI dot) (nI e)), 1) else s
def lowF (v : Mm) : Mm × Int32 := itr (fun dot s => itr (fun e s => rlx dot e s) 8 s) 25 (v, 0)
def rndF : Nat → Int32 → Mm → Mm
  | 0, _, v => v
  | m + 1, ch, v => if ch = 0 then v else rndF m (lowF v).2 (lowF v).1
def wgM (v : Mm) (k : Nat) : Mm := itr (fun e w => upd2 w 73 e (100 * acF (w k 1) (w k 2) (w k 3) (nI e) + 1)) 8 v
def csM (v : Mm) (g : Int32) : Mm := itr (fun d w => upd2 w 74 d (if nI d = g then 0 else 1000000)) 25 v
def rkM (v : Mm) (k : Nat) (g : Int32) : Mm := rndF 25 1 (csM (wgM v k) g)
def cfF (v : Mm) (dot : Int32) : Int32 := if 0 ≤ dot ∧ dot < 25 then v 74 dot.toNatClampNeg else 0
def dfR (v : Mm) (dot cost : Int32) : Nat → Nat → Int32
  | 0, _ => -9
  | m + 1, e => if 0 < cost ∧ cbF v dot (nI e) = cost then nI e else dfR v dot cost m (e + 1)
def wkM0 (v : Mm) (dot : Int32) : Mm := itr (fun i w => upd2 (upd2 w 75 i (if nI i = dot then 1 else 0)) 77 i (if nI i = dot then 0 else 1000000)) 25 v
def wk1 (thick : Int32) (e : Nat) (dot : Nat) (w : Mm) : Mm := if (0 ≤ nbF (nI dot) (nI e) ∧ nbF (nI dot) (nI e) < 25) ∧ 0 < w 75 dot then (let q := (nbF (nI dot) (nI e)).toNatClampNeg; let w1 := upd2 w 76 q (w 76 q + w 75 dot); upd2 w1 78 q (mnI (w1 78 q) (w1 77 dot + thick))) else w
def wkO (v : Mm) (k : Nat) : Mm :=
  let v1 := itr (fun e w => itr (fun dot w => wk1 (acF (v k 1) (v k 2) (v k 3) (nI e)) e dot w) 25 w) 8 (flM (flM v 76 25 0) 78 25 1000000)
  let v2 := updA v1 75 (va_cpy (v1 76) (v1 75) 0 0 25)
  updA v2 77 (va_cpy (v2 78) (v2 77) 0 0 25)
def rtF (v : Mm) (dot : Int32) : Int32 := if 0 ≤ dot ∧ dot < 25 then v 75 dot.toNatClampNeg else 0
def ltF (v : Mm) (dot : Int32) : Int32 := if (0 ≤ dot ∧ dot < 25) ∧ 0 < v 75 dot.toNatClampNeg then v 77 dot.toNatClampNeg else -9
