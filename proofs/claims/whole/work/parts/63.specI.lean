theorem p8 : ∀ c, c ≤ 4 → 8 ^ c < 5000 := by decide
theorem p8v : ∀ c, 1 ≤ c → c ≤ 4 → (if nI c = 1 then (8 : Int32) else if nI c = 2 then 64 else if nI c = 3 then 512 else 4096) = nI (8 ^ c) := by decide
theorem by_ok {v : Mm} {n w : Nat} {s : Int32} (h : MSt v n w) : ∀ m, m ≤ n → MSt (itr (fun p u => if (s >>> (nI p &&& 31)) &&& 1 = 1 then (woA u p w).2 else u) m v) n w
  | 0, _ => h
  | m + 1, hm => by
    have ih := by_ok (s := s) h m (by omega)
    show MSt (if (s >>> (nI m &&& 31)) &&& 1 = 1 then (woA (itr (fun p u => if (s >>> (nI p &&& 31)) &&& 1 = 1 then (woA u p w).2 else u) m v) m w).2 else itr (fun p u => if (s >>> (nI p &&& 31)) &&& 1 = 1 then (woA u p w).2 else u) m v) n w
    split
    · exact ih.w0.wo (by omega)
    · exact ih
/-- level 0 and all else but the trial's own places stay -/
def Lo (v u : Mm) : Prop := ∀ k j, ¬ (k = 82 ∧ 43 ≤ j) → ¬ (k = 79 ∧ j = 14) → u k j = v k j
theorem Lo.rf (v : Mm) : Lo v v := fun _ _ _ _ => rfl
theorem Lo.tr {a b c : Mm} (h : Lo a b) (g : Lo b c) : Lo a c := fun k j h1 h2 => (g k j h1 h2).trans (h k j h1 h2)
theorem Lo.lt (v : Mm) : Lo v (ltV v) := fun _ _ h1 _ => ltV_away h1
theorem Lo.w0 (v : Mm) : Lo v (wo0 v) := fun _ _ _ h2 => u2_n h2
theorem msV_lo {v : Mm} {p q : Nat} {e : Int32} (hp : p < 4) (hq : q < 25) (h : ndF (v 82 (43 * 1 + p)) e = nI q) : Lo v (msV v 1 p e) := by
  intro k j h1 h2
  unfold msV
  try dsimp only
  rw [h, nI_clamp (by omega), u2_n (fun z => by omega), u2_n (fun z => by omega), u2_n (fun z => by omega), u2_n (fun z => by omega)]
theorem Lo.wo {p n : Nat} {sk : Int32} (hn : n ≤ 4) (hp : p < n) : ∀ {m i : Nat} {s : Int32} {v : Mm}, (∀ r, r < n → DotOk v 1 r) → Lo v (woF 1 p sk m i s v).2 := by
  intro m
  induction m with
  | zero => intro i s v _; exact Lo.rf v
  | succ m ih =>
    intro i s v h
    have hw : Lo v (wrM v) := fun _ _ _ h2 => wrM_away h2
    unfold woF
    split
    · exact hw.tr (ih (fun r hr => (h r hr).wr))
    · split
      · rename_i hc
        obtain ⟨d, hd, ed⟩ := h p hp
        obtain ⟨q, hq, eq⟩ : ∃ q, q < 25 ∧ ndF (v 82 (43 * 1 + p)) (v 86 i) = nI q := by
          have z := hc.2
          rw [ed] at z ⊢
          exact nd_ok hd ⟨hc.1.1, le7.mp hc.1.2⟩ z
        have hw2 : Lo (msV v 1 p (v 86 i)) (wrM (msV v 1 p (v 86 i))) := fun _ _ _ h2 => wrM_away h2
        exact ((msV_lo (by omega) hq eq).tr hw2).tr (ih (fun r hr => (DotOk.ms (by omega) (by omega) (h p hp) (h r hr) hc).wr))
      · exact Lo.rf v
theorem Lo.woA {v : Mm} {n w p : Nat} (h : MSt v n w) (hp : p < n) : Lo v (woA v p w).2 := (Lo.w0 v).tr (Lo.wo h.1 hp h.w0.2.2.2.2)
theorem by_lo {v : Mm} {n w : Nat} {s : Int32} (h : MSt v n w) : ∀ m, m ≤ n → Lo v (itr (fun p u => if (s >>> (nI p &&& 31)) &&& 1 = 1 then (woA u p w).2 else u) m v)
  | 0, _ => Lo.rf v
  | m + 1, hm => by
    have ih := by_lo (s := s) h m (by omega)
    have hm2 := by_ok (s := s) h m (by omega)
    by_cases c : (s >>> (nI m &&& 31)) &&& 1 = 1
    · have e : itr (fun p u => if (s >>> (nI p &&& 31)) &&& 1 = 1 then (woA u p w).2 else u) (m + 1) v = (woA (itr (fun p u => if (s >>> (nI p &&& 31)) &&& 1 = 1 then (woA u p w).2 else u) m v) m w).2 := if_pos c
      rw [e]; exact ih.tr (Lo.woA hm2 (by omega))
    · have e : itr (fun p u => if (s >>> (nI p &&& 31)) &&& 1 = 1 then (woA u p w).2 else u) (m + 1) v = itr (fun p u => if (s >>> (nI p &&& 31)) &&& 1 = 1 then (woA u p w).2 else u) m v := if_neg c
      rw [e]; exact ih
/-- the reference's state at level 0 -/
def M0 (v : Mm) (n w : Nat) : Prop := n ≤ 4 ∧ v 79 0 = nI n ∧ v 79 12 = nI w ∧ w ≤ 8 ∧ ∀ p, p < n → DotOk v 0 p
theorem M0.lt {v : Mm} {n w : Nat} (h : M0 v n w) : MSt (ltV v) n w := MSt.lt h.1 h.2.1 h.2.2.1 h.2.2.2.1 h.2.2.2.2
theorem M0.lo {v u : Mm} {n w : Nat} (h : M0 v n w) (g : Lo v u) : M0 u n w := by
  obtain ⟨h1, h2, h3, h4, h5⟩ := h
  refine ⟨h1, by rw [g 79 0 (by decide) (by decide)]; exact h2, by rw [g 79 12 (by decide) (by decide)]; exact h3, h4, fun p hp => ?_⟩
  obtain ⟨q, hq, e⟩ := h5 p hp
  exact ⟨q, hq, by rw [g 82 (43 * 0 + p) (by omega) (by omega)]; exact e⟩
theorem byM_lo {v : Mm} {n w : Nat} {s : Int32} (h : M0 v n w) : Lo v (byM v w s n) := (Lo.lt v).tr (by_lo h.lt n (Nat.le_refl _))
theorem byM_st {v : Mm} {n w : Nat} {s : Int32} (h : M0 v n w) : MSt (byM v w s n) n w := by_ok h.lt n (Nat.le_refl _)
def smS (n w p : Nat) (i : Nat) (s : Int32 × Mm) : Int32 × Mm := if (nI i >>> (nI p &&& 31)) &&& 1 = 1 then s else (s.1 + onF2 (nI i) n * (byR s.2 w (nI i ||| bit1 p) n - byR (byM s.2 w (nI i ||| bit1 p) n) w (nI i) n), byM (byM s.2 w (nI i ||| bit1 p) n) w (nI i) n)
  where onF2 (x : Int32) (n : Nat) : Int32 := fcF (onF x).toNatClampNeg * fcF (n - 1 - (onF x).toNatClampNeg)
def gaM (v : Mm) (a b w : Nat) (x y : Int32) : Mm :=
  let v1 := if x = 1 then (woA (ltV v) a w).2 else ltV v
  if y = 1 then (woA v1 b w).2 else v1
def gaR (v : Mm) (a b w : Nat) (x y : Int32) (p : Nat) : Int32 := gaM v a b w x y 82 (55 + p) + 2 * onF (bkF (gaM v a b w x y) 1)
