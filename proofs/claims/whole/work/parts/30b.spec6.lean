theorem itr_inv {σ : Type} {f : Nat → σ → σ} (I : σ → Prop) (h : ∀ i s, I s → I (f i s)) : ∀ (n : Nat) (s : σ), I s → I (itr f n s)
  | 0, _, hs => hs
  | n + 1, s, hs => h n _ (itr_inv I h n s hs)
theorem pen_ne {k : Nat} (hk : kd k = 2) (a : Nat) (ha : ¬ kd a = 2) : k ≠ a := fun e => ha (e ▸ hk)
theorem wk1_pen {k : Nat} (hk : kd k = 2) {t : Int32} {e dot : Nat} {w : Mm} {j : Nat} : wk1 t e dot w k j = w k j := by
  unfold wk1
  split
  · show upd2 (upd2 w 76 _ _) 78 _ _ k j = w k j
    rw [u2_n (fun q => pen_ne hk 78 (by decide) q.1), u2_n (fun q => pen_ne hk 76 (by decide) q.1)]
  · rfl
theorem flM_pen {k : Nat} (hk : kd k = 2) {v : Mm} {n : Nat} {x y : Int32} {j : Nat} : flM (flM v 76 n x) 78 n y k j = v k j := by
  unfold flM
  rw [uA_n (pen_ne hk 78 (by decide)), uA_n (pen_ne hk 76 (by decide))]
