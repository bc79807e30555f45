theorem p8 : ∀ c, c ≤ 4 → 8 ^ c < 5000 := by decide
theorem by_ok {v : Mm} {n w : Nat} {s : Int32} (h : MSt v n w) : ∀ m, m ≤ n → MSt (itr (fun p u => if (s >>> (nI p &&& 31)) &&& 1 = 1 then (woA u p w).2 else u) m v) n w
  | 0, _ => h
  | m + 1, hm => by
    have ih := by_ok (s := s) h m (by omega)
    show MSt (if (s >>> (nI m &&& 31)) &&& 1 = 1 then (woA (itr (fun p u => if (s >>> (nI p &&& 31)) &&& 1 = 1 then (woA u p w).2 else u) m v) m w).2 else itr (fun p u => if (s >>> (nI p &&& 31)) &&& 1 = 1 then (woA u p w).2 else u) m v) n w
    split
    · exact ih.w0.wo (by omega)
    · exact ih
/-- level 0 and all else but the trial's own places stay -/
def Lo (v u : Mm) : Prop := ∀ k j, ¬ (k = 82 ∧ 43 ≤ j) → ¬ (k = 79 ∧ j = 14) → u k j = v k j
theorem Lo.rf (v : Mm) : Lo v v := fun _ _ _ _ => rfl
theorem Lo.tr {a b c : Mm} (h : Lo a b) (g : Lo b c) : Lo a c := fun k j h1 h2 => (g k j h1 h2).trans (h k j h1 h2)
theorem Lo.lt (v : Mm) : Lo v (ltV v) := fun _ _ h1 _ => ltV_away h1
theorem Lo.w0 (v : Mm) : Lo v (wo0 v) := fun _ _ _ h2 => u2_n h2
theorem msV_lo {v : Mm} {p q : Nat} {e : Int32} (hp : p < 4) (hq : q < 25) (h : ndF (v 82 (43 * 1 + p)) e = nI q) : Lo v (msV v 1 p e) := by
  intro k j h1 h2
  unfold msV
  try dsimp only
  rw [h, nI_clamp (by omega), u2_n (fun z => by omega), u2_n (fun z => by omega), u2_n (fun z => by omega), u2_n (fun z => by omega)]
theorem Lo.wo {p n : Nat} {sk : Int32} (hn : n ≤ 4) (hp : p < n) : ∀ {m i : Nat} {s : Int32} {v : Mm}, (∀ r, r < n → DotOk v 1 r) → Lo v (woF 1 p sk m i s v).2 := by
  intro m
  induction m with
  | zero => intro i s v _; exact Lo.rf v
  | succ m ih =>
    intro i s v h
    have hw : Lo v (wrM v) := fun _ _ _ h2 => wrM_away h2
    unfold woF
    split
    · exact hw.tr (ih (fun r hr => (h r hr).wr))
    · split
      · rename_i hc
        obtain ⟨d, hd, ed⟩ := h p hp
        obtain ⟨q, hq, eq⟩ : ∃ q, q < 25 ∧ ndF (v 82 (43 * 1 + p)) (v 86 i) = nI q := by
          have z := hc.2
          rw [ed] at z ⊢
          exact nd_ok hd ⟨hc.1.1, le7.mp hc.1.2⟩ z
        have hw2 : Lo (msV v 1 p (v 86 i)) (wrM (msV v 1 p (v 86 i))) := fun _ _ _ h2 => wrM_away h2
        exact ((msV_lo (by omega) hq eq).tr hw2).tr (ih (fun r hr => (DotOk.ms (by omega) (by omega) (h p hp) (h r hr) hc).wr))
      · exact Lo.rf v
theorem Lo.woA {v : Mm} {n w p : Nat} (h : MSt v n w) (hp : p < n) : Lo v (woA v p w).2 := (Lo.w0 v).tr (Lo.wo h.1 hp h.w0.2.2.2.2)
theorem by_lo {v : Mm} {n w : Nat} {s : Int32} (h : MSt v n w) : ∀ m, m ≤ n → Lo v (itr (fun p u => if (s >>> (nI p &&& 31)) &&& 1 = 1 then (woA u p w).2 else u) m v)
  | 0, _ => Lo.rf v
  | m + 1, hm => by
    have ih := by_lo (s := s) h m (by omega)
    have hm2 := by_ok (s := s) h m (by omega)
    by_cases c : (s >>> (nI m &&& 31)) &&& 1 = 1
    · have e : itr (fun p u => if (s >>> (nI p &&& 31)) &&& 1 = 1 then (woA u p w).2 else u) (m + 1) v = (woA (itr (fun p u => if (s >>> (nI p &&& 31)) &&& 1 = 1 then (woA u p w).2 else u) m v) m w).2 := if_pos c
      rw [e]; exact ih.tr (Lo.woA hm2 (by omega))
    · have e : itr (fun p u => if (s >>> (nI p &&& 31)) &&& 1 = 1 then (woA u p w).2 else u) (m + 1) v = itr (fun p u => if (s >>> (nI p &&& 31)) &&& 1 = 1 then (woA u p w).2 else u) m v := if_neg c
      rw [e]; exact ih
/-- the reference's state at level 0 -/
def M0 (v : Mm) (n w : Nat) : Prop := n ≤ 4 ∧ v 79 0 = nI n ∧ v 79 12 = nI w ∧ w ≤ 8 ∧ ∀ p, p < n → DotOk v 0 p
theorem M0.lt {v : Mm} {n w : Nat} (h : M0 v n w) : MSt (ltV v) n w := MSt.lt h.1 h.2.1 h.2.2.1 h.2.2.2.1 h.2.2.2.2
theorem M0.lo {v u : Mm} {n w : Nat} (h : M0 v n w) (g : Lo v u) : M0 u n w := by
  obtain ⟨h1, h2, h3, h4, h5⟩ := h
  refine ⟨h1, by rw [g 79 0 (by decide) (by decide)]; exact h2, by rw [g 79 12 (by decide) (by decide)]; exact h3, h4, fun p hp => ?_⟩
  obtain ⟨q, hq, e⟩ := h5 p hp
  exact ⟨q, hq, by rw [g 82 (43 * 0 + p) (by omega) (by omega)]; exact e⟩
theorem byM_lo {v : Mm} {n w : Nat} {s : Int32} (h : M0 v n w) : Lo v (byM v w s n) := (Lo.lt v).tr (by_lo h.lt n (Nat.le_refl _))
theorem byM_st {v : Mm} {n w : Nat} {s : Int32} (h : M0 v n w) : MSt (byM v w s n) n w := by_ok h.lt n (Nat.le_refl _)
def fcP (x : Int32) (n : Nat) : Int32 := fcF (onF x).toNatClampNeg * fcF (n - 1 - (onF x).toNatClampNeg)
def smS (n w p : Nat) (i : Nat) (s : Int32 × Mm) : Int32 × Mm := if (nI i >>> (nI p &&& 31)) &&& 1 = 1 then s else (s.1 + fcP (nI i) n * (byR s.2 w (nI i ||| bit1 p) n - byR (byM s.2 w (nI i ||| bit1 p) n) w (nI i) n), byM (byM s.2 w (nI i ||| bit1 p) n) w (nI i) n)
def gaM (v : Mm) (a b w : Nat) (x y : Int32) : Mm :=
  let v1 := if x = 1 then (woA (ltV v) a w).2 else ltV v
  if y = 1 then (woA v1 b w).2 else v1
def gaR (v : Mm) (a b w : Nat) (x y : Int32) (p : Nat) : Int32 := gaM v a b w x y 82 (55 + p) + 2 * onF (bkF (gaM v a b w x y) 1)
def selA (x : Int32) (s : Int32 × Int32) : Int32 := if x = 0 then s.1 else s.2
theorem lo_gaM {v : Mm} {n a b w : Nat} {x y : Int32} (h : M0 v n w) (ha : a < n) (hb : b < n) : Lo v (gaM v a b w x y) := by
  have h1 := h.lt
  have l1 : Lo v (if x = 1 then (woA (ltV v) a w).2 else ltV v) ∧ MSt (if x = 1 then (woA (ltV v) a w).2 else ltV v) n w := by
    split
    · exact ⟨(Lo.lt v).tr (Lo.woA h1 ha), h1.w0.wo ha⟩
    · exact ⟨Lo.lt v, h1⟩
  show Lo v (if y = 1 then (woA (if x = 1 then (woA (ltV v) a w).2 else ltV v) b w).2 else (if x = 1 then (woA (ltV v) a w).2 else ltV v))
  split
  · exact l1.1.tr (Lo.woA l1.2 hb)
  · exact l1.1
def iR (v : Mm) (a b w : Nat) (x y : Int32) : Int32 × Mm :=
  if gaR v a b w (1 - x) y a ≤ gaR (gaM v a b w (1 - x) y) a b w x y a then (b01 (gaR (gaM (gaM v a b w (1 - x) y) a b w x y) a b w x (1 - y) b ≤ gaR (gaM (gaM (gaM v a b w (1 - x) y) a b w x y) a b w x (1 - y)) a b w x y b), gaM (gaM (gaM (gaM v a b w (1 - x) y) a b w x y) a b w x (1 - y)) a b w x y) else (0, gaM (gaM v a b w (1 - x) y) a b w x y)
theorem lo_iR {v : Mm} {n a b w : Nat} {x y : Int32} (h : M0 v n w) (ha : a < n) (hb : b < n) : Lo v (iR v a b w x y).2 := by
  have l1 : Lo v (iR v a b w x y).2 := by
    have g1 := lo_gaM (x := 1 - x) (y := y) h ha hb
    have g2 := g1.tr (lo_gaM (x := x) (y := y) (h.lo g1) ha hb)
    have g3 := g2.tr (lo_gaM (x := x) (y := 1 - y) (h.lo g2) ha hb)
    have g4 := g3.tr (lo_gaM (x := x) (y := y) (h.lo g3) ha hb)
    unfold iR
    split
    · exact g4
    · exact g2
  exact l1
def rtS (a b w : Nat) (k : Nat) (s : Int32 × Int32 × Mm) : Int32 × Int32 × Mm :=
  if (iR s.2.2 a b w (nI (k / 2)) (nI (k % 2))).1 = 0 then (s.1, s.2.1, (iR s.2.2 a b w (nI (k / 2)) (nI (k % 2))).2) else (s.1 + 1, (if s.1 = 0 then 10 * nI (k / 2) + nI (k % 2) else s.2.1), (iR s.2.2 a b w (nI (k / 2)) (nI (k % 2))).2)
def wtF (x : Int32) (w : Nat) (set : Nat) : Int32 := itr (fun k s => s * (if (nI set >>> (nI k &&& 31)) &&& 1 = 1 then x else 10 - x)) w 1
def skR (u : Mm) (p w set : Nat) : Int32 × Mm := woF 1 p (nI set) (min 8 w) 0 0 (wo0 (ltV u))
def skS (p w : Nat) (y x : Int32) (set : Nat) (s : Int32 × Int32 × Mm) : Int32 × Int32 × Mm := (s.1 + (if y ≤ (skR s.2.2 p w set).1 then wtF x w set else 0), s.2.1 + wtF x w set, (skR s.2.2 p w set).2)
theorem lo_skR {v : Mm} {n w p set : Nat} (h : M0 v n w) (hp : p < n) : Lo v (skR v p w set).2 := ((Lo.lt v).tr (Lo.w0 _)).tr (Lo.wo h.1 hp h.lt.w0.2.2.2.2)
theorem sh8 : ∀ n, n ≤ 8 → (1 : Int32) <<< (nI n &&& 31) = nI (2 ^ n) := by decide
theorem sh8l : ∀ n, n ≤ 8 → 2 ^ n < 300 := by decide
theorem on_le : ∀ i, i < 16 → (onF (nI i)).toNatClampNeg ≤ 4 ∧ onF (nI i) = nI (onF (nI i)).toNatClampNeg := by decide +kernel
theorem on_n : ∀ n, n ≤ 4 → ∀ p, p < n → ∀ i, i < 2 ^ n → ¬ (nI i >>> (nI p &&& 31)) &&& 1 = 1 → (onF (nI i)).toNatClampNeg ≤ n - 1 := by decide +kernel
theorem nIj {a b : Nat} (ha : a < 2 ^ 31) (hb : b < 2 ^ 31) (h : nI a = nI b) : a = b := by
  have h1 := nI_toInt ha
  rw [h, nI_toInt hb] at h1
  omega
