/-! shares, rests -/
def bhU (v : Mm) (n w : Nat) (s : Int32) : Mm := bbM s w n (trM v n)
def bhM (v : Mm) (n w : Nat) (s : Int32) (p : Nat) : Mm := fl1 (bhU v n w s) p w
def bhR (v : Mm) (n w : Nat) (s : Int32) (p : Nat) : Int32 := blk (bhM v n w s p) - blk (bhU v n w s)
theorem fl1_away {v : Mm} {p w a j : Nat} (hp : p < 4) (ha : a < 12 ∨ 19 ≤ a) : fl1 v p w a j = v a j := folF_away (by omega) (by omega) (by omega)
theorem TSt.fl {v : Mm} {n p w : Nat} (h : TSt v n) (hp : p < n) : TSt (fl1 v p w) n := TSt.fol hp h
theorem bb_ok {v : Mm} {n w : Nat} {s : Int32} (h : TSt v n) : ∀ m, m ≤ n → TSt (bbM s w m v) n ∧ ∀ a j, (a < 12 ∨ 19 ≤ a) → bbM s w m v a j = v a j
  | 0, _ => ⟨h, fun _ _ _ => rfl⟩
  | m + 1, hm => by
    obtain ⟨h1, h2⟩ := bb_ok (w := w) (s := s) h m (by omega)
    have hn := h.1
    show TSt (if (s >>> (nI m &&& 31)) &&& 1 = 1 then fl1 (bbM s w m v) m w else bbM s w m v) n ∧ ∀ a j, (a < 12 ∨ 19 ≤ a) → (if (s >>> (nI m &&& 31)) &&& 1 = 1 then fl1 (bbM s w m v) m w else bbM s w m v) a j = v a j
    split
    · exact ⟨h1.fl (by omega), fun a j ha => by rw [fl1_away (by omega) ha]; exact h2 a j ha⟩
    · exact ⟨h1, h2⟩
def shS (n w p : Nat) (i : Nat) (s : Int32 × Mm) : Int32 × Mm := if (nI i >>> (nI p &&& 31)) &&& 1 = 0 then (s.1 + ordF (bcF (nI i)) * ordF (nI n - 1 - bcF (nI i)) * bhR s.2 n w (nI i) p, bhM s.2 n w (nI i) p) else s
def shF (v : Mm) (n w p : Nat) : Int32 × Mm := itr (shS n w p) (2 ^ n) (0, v)
def SInv (v : Mm) (n w : Nat) (u : Mm) : Prop := ∀ a j, (a < 12 ∨ 19 ≤ a) → u a j = v a j
theorem CSt.same {v u : Mm} {n : Nat} (h : CSt v n) (hu : ∀ a j, (a < 12 ∨ 19 ≤ a) → u a j = v a j) : CSt u n := by
  obtain ⟨h1, h2, h3⟩ := h
  refine ⟨h1, by rw [hu 5 2 (by decide)]; exact h2, fun p hp => ?_⟩
  have hk : ∀ j, u (8 + p) j = v (8 + p) j := fun j => hu _ j (by omega)
  exact ⟨⟨by rw [hk]; exact (h3 p hp).1.1, by rw [hk]; exact (h3 p hp).1.2.1, by rw [hk]; exact (h3 p hp).1.2.2⟩, by rw [hk]; exact (h3 p hp).2⟩
theorem WSt.same {v u : Mm} {w : Nat} (h : WSt v w) (hu : ∀ a j, (a < 12 ∨ 19 ≤ a) → u a j = v a j) : WSt u w := ⟨by rw [hu 3 1 (by decide)]; exact h.1, h.2⟩
theorem bhU_away {v : Mm} {n w : Nat} {s : Int32} (h : CSt v n) {a j : Nat} (ha : a < 12 ∨ 19 ≤ a) : bhU v n w s a j = v a j := by
  unfold bhU
  rw [(bb_ok h.tr n (Nat.le_refl _)).2 a j ha, trM_away h.1 ha]
theorem bhM_away {v : Mm} {n w p : Nat} {s : Int32} (h : CSt v n) (hp : p < n) {a j : Nat} (ha : a < 12 ∨ 19 ≤ a) : bhM v n w s p a j = v a j := by
  unfold bhM
  have := h.1
  rw [fl1_away (by omega) ha, bhU_away h ha]
theorem gn_ok {v : Mm} {n a b w pr : Nat} (h : TSt v n) (ha : a < n) (hb : b < n) : TSt (gnM v a b w pr) n ∧ ∀ k j, (k < 12 ∨ 19 ≤ k) → gnM v a b w pr k j = v k j := by
  have hn := h.1
  unfold gnM
  dsimp only
  split
  · split
    · exact ⟨(h.fl ha).fl hb, fun k j hk => by rw [fl1_away (by omega) hk, fl1_away (by omega) hk]⟩
    · exact ⟨h.fl hb, fun k j hk => fl1_away (by omega) hk⟩
  · split
    · exact ⟨h.fl ha, fun k j hk => fl1_away (by omega) hk⟩
    · exact ⟨h, fun _ _ _ => rfl⟩
def rsP (v : Mm) (m : Nat) : Prop := v 36 (m ^^^ 2) ≤ v 36 m ∧ v 37 (m ^^^ 1) ≤ v 37 m
def rsR (v : Mm) : Nat → Int32 → Int32 → Int32 × Int32
  | 0, many, first => (many, first)
  | m + 1, many, first => if v 36 (m ^^^ 2) ≤ v 36 m ∧ v 37 (m ^^^ 1) ≤ v 37 m then rsR v m (many + 1) ((10 : Int32) * (nI m >>> ((1 : Int32) &&& 31)) + (nI m &&& 1)) else rsR v m many first
def rg4 (v : Mm) (n a b w : Nat) : Mm := itr (fun i u => rgM u n a b w i) 4 v
theorem pr3 : ∀ m, m < 4 → nI m &&& 3 = nI m ∧ (nI m ^^^ 2) &&& 3 = nI (m ^^^ 2) ∧ (nI m ^^^ 1) &&& 3 = nI (m ^^^ 1) ∧ m ^^^ 2 < 4 ∧ m ^^^ 1 < 4 := by decide
theorem pr2 : ∀ m, m < 4 → ((nI m &&& 2 = 0 ↔ ¬ m / 2 % 2 = 1) ∧ (nI m &&& 1 = 0 ↔ ¬ m % 2 = 1)) := by decide
theorem sh2 : ∀ n, n ≤ 4 → (1 : Int32) <<< (nI n &&& 31) = nI (2 ^ n) := by decide
theorem sh2l : ∀ n, n ≤ 4 → 2 ^ n < 17 := by decide
