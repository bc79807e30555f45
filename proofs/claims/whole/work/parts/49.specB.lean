/-! doings that are tried out; years -/
def TSt (v : Mm) (n : Nat) : Prop := n ≤ 4 ∧ v 12 2 = nI n ∧ ∀ p, p < n → PenOk v (12 + 3 + p) ∧ (v (12 + 3 + p) 6 = 0 ∨ v (12 + 3 + p) 6 = 1)
theorem CSt.tr {v : Mm} {n : Nat} (h : CSt v n) : TSt (trM v n) n := ⟨h.1, by rw [trM_2 h.1]; exact h.2.1, fun p hp => ⟨trM_ok h hp, trM_6 h hp⟩⟩
def pyM (v : Mm) (n t : Nat) : Mm := if 44 ≤ t then stM v 12 (nI (6 * (t - 44))) 0 else if t < 32 then (if t / 8 < n then (if nbF (v (12 + 3 + t / 8) 0) (nI (t % 8)) = -9 then v else mvV v 12 (12 + 3 + t / 8) (nI (t % 8))) else v) else if (t - 32) % 4 < n then (if t < 36 then upd2 (upd2 v (12 + 3 + (t - 32) % 4) 2 (-(v (12 + 3 + (t - 32) % 4) 3))) (12 + 3 + (t - 32) % 4) 3 (v (12 + 3 + (t - 32) % 4) 2) else if t < 40 then upd2 v (12 + 3 + (t - 32) % 4) 6 (b01 (v (12 + 3 + (t - 32) % 4) 6 = 0)) else upd2 v (12 + 3 + (t - 32) % 4) 4 (v (12 + 3 + (t - 32) % 4) 5)) else v
def bcF (x : Int32) : Int32 :=
  let a := x - ((x.toUInt32 >>> (Int32.toUInt32 1 &&& Int32.toUInt32 31)).toInt32 &&& 1431655765)
  let b := (a &&& 858993459) + ((a.toUInt32 >>> (Int32.toUInt32 2 &&& Int32.toUInt32 31)).toInt32 &&& 858993459)
  let c := (b + (b.toUInt32 >>> (Int32.toUInt32 4 &&& Int32.toUInt32 31)).toInt32) &&& 252645135
  let e := c + (c.toUInt32 >>> (Int32.toUInt32 8 &&& Int32.toUInt32 31)).toInt32
  (e + (e.toUInt32 >>> (Int32.toUInt32 16 &&& Int32.toUInt32 31)).toInt32) &&& 63
def fl1 (v : Mm) (p w : Nat) : Mm := (folF 12 (12 + 3 + p) w 0 v).2
def bbM (s : Int32) (w : Nat) : Nat → Mm → Mm := itr (fun i u => if (s >>> (nI i &&& 31)) &&& 1 = 1 then fl1 u i w else u)
theorem pen_away {S k : Nat} (hk : kd k = 2) (h : Sh S) : k ≠ S ∧ k ≠ S + 2 := ⟨fun e => (by rw [e, sh_kd h] at hk; exact absurd hk (by decide)), fun e => (by rw [e, sh_k2 h] at hk; exact absurd hk (by decide))⟩
/-- following keeps the trial sheet's own shape -/
theorem TSt.mv {v : Mm} {n p : Nat} {e : Int32} (h : TSt v n) (hp : p < n) (hnb : ¬ nbF (v (12 + 3 + p) 0) e = -9) : TSt (mvV v 12 (12 + 3 + p) e) n := by
  obtain ⟨h1, h2, h3⟩ := h
  have hkp : kd (12 + 3 + p) = 2 := sh_kp s12 (by omega)
  have ha := pen_away hkp s12
  obtain ⟨q, hq, e1⟩ := nb_ok hnb
  refine ⟨h1, ?_, fun r hr => ?_⟩
  · rw [mvV_at ha.1 ha.2 hq e1, if_neg (fun z => absurd z.2 (by decide)), if_neg (fun z => by omega), if_neg (fun z => by omega), if_neg (fun z => by omega)]; exact h2
  · by_cases er : r = p
    · subst er
      refine ⟨(h3 r hr).1.mv ha.1 ha.2 hnb, ?_⟩
      rw [mvV_at ha.1 ha.2 hq e1, if_neg (fun z => by omega), if_neg (fun z => absurd z.2 (by decide)), if_neg (fun z => absurd z.2 (by decide)), if_neg (fun z => by omega)]
      exact (h3 r hr).2
    · have hk2 : ∀ j, mvV v 12 (12 + 3 + p) e (12 + 3 + r) j = v (12 + 3 + r) j := fun j => mvV_away (by omega) (by omega) (by omega)
      refine ⟨⟨by rw [hk2]; exact (h3 r hr).1.1, by rw [hk2]; exact (h3 r hr).1.2.1, by rw [hk2]; exact (h3 r hr).1.2.2⟩, by rw [hk2]; exact (h3 r hr).2⟩
theorem TSt.fol {n p : Nat} (hp : p < n) : ∀ {m i : Nat} {v : Mm}, TSt v n → TSt (folF 12 (12 + 3 + p) m i v).2 n := by
  intro m
  induction m with
  | zero => intro i v h; exact h
  | succ m ih =>
    intro i v h
    unfold folF
    split
    · exact h
    · rename_i q; exact ih (h.mv hp q)
theorem fol_w {S k m i : Nat} {v : Mm} {j : Nat} (h : Sh S) (hk : kd k = 2) : (folF S k m i v).2 3 j = v 3 j := folF_away (fun e => by have := sh_ge h; omega) (fun e => (by rw [← e] at hk; exact absurd hk (by decide))) (fun e => by have := sh_ge h; omega)
def gnM (v : Mm) (a b w : Nat) (pair : Nat) : Mm :=
  let v1 := if pair / 2 % 2 = 1 then fl1 v a w else v
  if pair % 2 = 1 then fl1 v1 b w else v1
def blk (v : Mm) : Int32 := bcF (bitsF (fun i => decide (3 ≤ v (12 + 2) i)) 25)
def rgM (v : Mm) (n a b w pair : Nat) : Mm :=
  let u := gnM (trM v n) a b w pair
  let u1 := upd2 u 36 pair (u (12 + 3 + a) 4 + 2 * blk u)
  upd2 u1 37 pair (u1 (12 + 3 + b) 4 + 2 * blk u)
/-- cases of enough ink, by what is left of the word -/
def ceF (v : Mm) (k : Nat) (w : Nat) (en tn : Int32) : Nat → Nat → Int32 → Int32 → Int64
  | 0, i, _, laid => if en ≤ laid then tensF (nI w - nI i) else 0
  | m + 1, i, dot, laid => if en ≤ laid then tensF (nI w - nI i) else
      let c1 : Int64 := if 0 < tn then 0 + tn.toInt64 * ceF v k w en tn m (i + 1) dot laid else 0
      if tn < 10 ∧ ¬ nbF dot (wdF v (nI i)) = -9 then c1 + (10 - tn).toInt64 * ceF v k w en tn m (i + 1) (nbF dot (wdF v (nI i))) (laid + lyF (v k 6) (v k 1) (v k 2) (v k 3) (wdF v (nI i)) (v k 4 - laid)) else c1
def gcR : Nat → Int64 → Int64 → Int64
  | 0, a, _ => a
  | m + 1, a, b => if b = 0 then a else gcR m b (rem64 a b)
def tfF (a b : Int64) (u : Int32) : Int32 := if 1 ≤ gcR 100 a b then ((if u = 0 then b else a) / gcR 100 a b).toInt32 else 0
