/-! what the reference's reader finds is what the class's finds -/
def uf (f : Nat → Int32) (j : Nat) (x : Int32) : Nat → Int32 := fun a => if a = j then x else f a
theorem u2_f {v : Mm} {k j : Nat} {x : Int32} : upd2 v k j x k = uf (v k) j x := by
  funext a
  unfold upd2 uf
  simp
theorem u2_g {v : Mm} {k j a : Nat} {x : Int32} (h : a ≠ k) : upd2 v k j x a = v a := by
  funext b
  exact u2_n (fun q => h q.1)
theorem uf_s {f : Nat → Int32} {j : Nat} {x : Int32} : uf f j x j = x := if_pos rfl
theorem uf_n {f : Nat → Int32} {j a : Nat} {x : Int32} (h : a ≠ j) : uf f j x a = f a := if_neg h
def Agr (v u : Mm) : Prop := ∀ k j, k ≠ 83 → k ≠ 84 → ¬ (k = 79 ∧ (j = 6 ∨ j = 7 ∨ j = 10 ∨ j = 11)) → u k j = v k j
theorem Agr.rf (v : Mm) : Agr v v := fun _ _ _ _ _ => rfl
theorem Agr.up {v u : Mm} {k j : Nat} {x : Int32} (h : Agr v u) (hk : k = 83 ∨ k = 84 ∨ (k = 79 ∧ (j = 6 ∨ j = 7 ∨ j = 10 ∨ j = 11))) : Agr v (upd2 u k j x) := by
  intro a b h1 h2 h3
  rw [u2_n (fun q => by
    rcases hk with z | z | z
    · exact h1 (q.1.trans z)
    · exact h2 (q.1.trans z)
    · exact h3 ⟨q.1.trans z.1, by rw [q.2]; exact z.2⟩)]
  exact h a b h1 h2 h3
theorem Agr.fg {v u : Mm} {m b : Int32} (h : Agr v u) : Agr v (fgO u m b).2 := by
  intro a j h1 h2 h3
  rw [fgO_n (fun q => h3 ⟨q.1, by rcases q.2 with z | z <;> omega⟩)]
  exact h a j h1 h2 h3
theorem Agr.f85 {v u : Mm} (h : Agr v u) : u 85 = v 85 := by
  funext j
  exact h 85 j (by decide) (by decide) (fun q => absurd q.1 (by decide))
def BSt (v u : Mm) (f : Nat) : Prop := Agr v u ∧ u 79 11 = nI f ∧ f ≤ 48
theorem BSt.fg {v u : Mm} {f : Nat} {m b : Int32} (h : BSt v u f) : BSt v (fgO u m b).2 f := by
  have e : fgO u m b = (0, u) := if_neg (by rw [h.2.1]; exact nI_ne9 (by have := h.2.2; omega))
  rw [e]
  exact h
theorem BSt.up {v u : Mm} {f k j : Nat} {x : Int32} (h : BSt v u f) (hk : k = 83 ∨ k = 84 ∨ (k = 79 ∧ (j = 6 ∨ j = 7))) : BSt v (upd2 u k j x) f := by
  refine ⟨h.1.up (by rcases hk with z | z | z <;> omega), ?_, h.2.2⟩
  rw [u2_n (fun q => by rcases hk with z | z | z <;> omega)]
  exact h.2.1
def GSt (v u : Mm) (pl : Nat) : Prop := Agr v u ∧ u 79 10 = nI pl ∧ u 79 11 = -9
theorem GSt.up {v u : Mm} {pl k j : Nat} {x : Int32} (h : GSt v u pl) (hk : k = 83 ∨ k = 84 ∨ (k = 79 ∧ (j = 6 ∨ j = 7))) : GSt v (upd2 u k j x) pl := by
  refine ⟨h.1.up (by rcases hk with z | z | z <;> omega), ?_, ?_⟩
  · rw [u2_n (fun q => by rcases hk with z | z | z <;> omega)]
    exact h.2.1
  · rw [u2_n (fun q => by rcases hk with z | z | z <;> omega)]
    exact h.2.2
/-- both worlds hold the same text -/
def Txt (v : Mm) (len : Nat) : Prop := v 79 9 = nI len ∧ len ≤ 48 ∧ v 1 1 = nI len ∧ v 2 = v 85
theorem Txt.fg {v : Mm} {len x : Nat} (h : Txt v len) (hx : x < len) : fgF v (nI x) = v 85 x - 48 := by
  unfold fgF
  rw [letF_in h.2.2.1 h.2.1 hx, h.2.2.2]
theorem vle {x : Int32} {m : Nat} (hm : m < 1000) (h : 0 ≤ x ∧ x ≤ nI m) : ∃ n : Nat, n ≤ m ∧ x = nI n := by
  obtain ⟨j, h1, h2⟩ := vp_in_of (vin_le (n := m + 1) (by omega) h (by omega)) (by omega)
  exact ⟨j, by omega, h2⟩
theorem rd_step {v u : Mm} {len pl i j m mo : Nat} {b : Int32} (hT : Txt v len) (hG : GSt v u (pl + 1 + i)) (hle : pl + 1 + i ≤ len) (hmo : svI j i = nI mo) (hm9 : mo ≤ 9)
    (hb : pl + 1 + i < len → 0 ≤ v 85 (pl + 1 + i) - 48 → ((letF v (nI pl) = 80 ∧ nI i = 4 ∧ fgF v (nI pl + 1 + 3) = 3 ∧ fgF v (nI pl + 1 + 4) = 3) ↔ v 85 (pl + 1 + i) - 48 = b)) :
    (pl + 1 + i < len ∧ ffiF v (nI pl) j (m + 1) i = ffiF v (nI pl) j m (i + 1) ∧ (∃ n : Nat, n ≤ mo ∧ v 85 (pl + 1 + i) - 48 = nI n) ∧ (fgO u (nI mo) b).1 = v 85 (pl + 1 + i) - 48 ∧ GSt v (fgO u (nI mo) b).2 (pl + 1 + (i + 1))) ∨ (∃ f : Nat, ffiF v (nI pl) j (m + 1) i = nI f ∧ BSt v (fgO u (nI mo) b).2 f) := by
  obtain ⟨hA, h10, h11⟩ := hG
  have hl48 := hT.2.1
  have e9 : u 79 9 = nI len := (hA 79 9 (by decide) (by decide) (by decide)).trans hT.1
  have ep : nI pl + 1 + nI i = nI (pl + 1 + i) := by
    rw [show (1 : Int32) = nI 1 from rfl, nI_add, nI_add]
  have ev : fgV u = v 85 (pl + 1 + i) - 48 := by
    unfold fgV
    rw [h10, nI_clamp (by omega), hA.f85]
  rcases Nat.lt_or_ge (pl + 1 + i) len with hlt | hge
  · have hlt' : nI pl + 1 + nI i < v 1 1 := by rw [ep, hT.2.2.1]; exact nI_lt hlt (by omega)
    have efg : fgF v (nI pl + 1 + nI i) = v 85 (pl + 1 + i) - 48 := by rw [ep]; exact hT.fg hlt
    by_cases hc : (0 ≤ v 85 (pl + 1 + i) - 48 ∧ v 85 (pl + 1 + i) - 48 ≤ nI mo) ∧ ¬ v 85 (pl + 1 + i) - 48 = b
    · left
      have ee : fgO u (nI mo) b = (v 85 (pl + 1 + i) - 48, upd2 u 79 10 (u 79 10 + 1)) := by
        rw [← ev]
        exact (if_pos h11).trans (if_pos ⟨by rw [h10, e9]; exact nI_lt hlt (by omega), by rw [ev]; exact hc⟩)
      refine ⟨hlt, ?_, vle (by omega) hc.1, by rw [ee], ?_⟩
      · show (if ¬ nI pl + 1 + nI i < v 1 1 then v 1 1 else if (0 ≤ fgF v (nI pl + 1 + nI i) ∧ fgF v (nI pl + 1 + nI i) ≤ svI j i) ∧ ¬ (letF v (nI pl) = 80 ∧ nI i = 4 ∧ fgF v (nI pl + 1 + 3) = 3 ∧ fgF v (nI pl + 1 + 4) = 3) then ffiF v (nI pl) j m (i + 1) else nI pl + 1 + nI i) = ffiF v (nI pl) j m (i + 1)
        rw [if_neg (fun q => q hlt'), efg, hmo, if_pos ⟨hc.1, fun q => hc.2 ((hb hlt hc.1.1).mp q)⟩]
      · rw [ee]
        refine ⟨hA.up (by omega), ?_, ?_⟩
        · show upd2 u 79 10 (u 79 10 + 1) 79 10 = _
          rw [u2_s, h10]
          exact nI_add _ 1
        · show upd2 u 79 10 (u 79 10 + 1) 79 11 = _
          rw [u2_n (by decide)]
          exact h11
    · right
      have ee : fgO u (nI mo) b = (0, upd2 u 79 11 (u 79 10)) := (if_pos h11).trans (if_neg (fun q => hc (by rw [ev] at q; exact q.2)))
      refine ⟨pl + 1 + i, ?_, ?_⟩
      · show (if ¬ nI pl + 1 + nI i < v 1 1 then v 1 1 else if (0 ≤ fgF v (nI pl + 1 + nI i) ∧ fgF v (nI pl + 1 + nI i) ≤ svI j i) ∧ ¬ (letF v (nI pl) = 80 ∧ nI i = 4 ∧ fgF v (nI pl + 1 + 3) = 3 ∧ fgF v (nI pl + 1 + 4) = 3) then ffiF v (nI pl) j m (i + 1) else nI pl + 1 + nI i) = _
        rw [if_neg (fun q => q hlt'), efg, hmo, if_neg (fun q => hc ⟨q.1, fun z => q.2 ((hb hlt q.1.1).mpr z)⟩), ep]
      · rw [ee]
        refine ⟨hA.up (by omega), ?_, by omega⟩
        show upd2 u 79 11 (u 79 10) 79 11 = _
        rw [u2_s]
        exact h10
  · right
    have hlen : pl + 1 + i = len := by omega
    have ee : fgO u (nI mo) b = (0, upd2 u 79 11 (u 79 10)) := (if_pos h11).trans (if_neg (fun q => by
      have z := q.1
      rw [h10, e9, hlen] at z
      exact i32nlt.mpr (Int32.le_refl _) z))
    refine ⟨len, ?_, ?_⟩
    · show (if ¬ nI pl + 1 + nI i < v 1 1 then v 1 1 else _) = _
      rw [if_pos (fun q => by
        rw [ep, hT.2.2.1, hlen] at q
        exact i32nlt.mpr (Int32.le_refl _) q)]
      exact hT.2.2.1
    · rw [ee]
      refine ⟨hA.up (by omega), ?_, hl48⟩
      show upd2 u 79 11 (u 79 10) 79 11 = _
      rw [u2_s, h10, hlen]
def pnR (v : Mm) (pl p : Nat) (R : Nat → Int32) : Nat → Int32 := uf (uf (uf (uf (uf R (5 * p) (5 * (v 85 (pl + 2) - 48) + (v 85 (pl + 1) - 48))) (5 * p + 1) (v 85 (pl + 3) - 48)) (5 * p + 2) (v 85 (pl + 4) - 48)) (5 * p + 3) (v 85 (pl + 5) - 48)) (5 * p + 4) (v 85 (pl + 6) - 48)
def snR (v : Mm) (pl s : Nat) (R : Nat → Int32) : Nat → Int32 := uf (uf R (2 * s) (5 * (v 85 (pl + 2) - 48) + (v 85 (pl + 1) - 48))) (2 * s + 1) (v 85 (pl + 3) - 48)
theorem no9 {x : Int32} {c : Prop} (hc : ¬ c) (h : 0 ≤ x) : c ↔ x = -9 := ⟨fun q => absurd q hc, fun q => absurd h (by rw [q]; decide)⟩
theorem fgO_f {u : Mm} {m b : Int32} {k : Nat} (h : k ≠ 79) : (fgO u m b).2 k = u k := by
  funext j
  exact fgO_n (fun q => h q.1)
def Fig (v : Mm) (x mo : Nat) : Prop := ∃ n : Nat, n ≤ mo ∧ v 85 x - 48 = nI n
theorem rdp2_n {u : Mm} {k j : Nat} (h : ¬ (k = 79 ∧ (j = 10 ∨ j = 11))) : (rdp2 u).2 k j = u k j := by
  unfold rdp2
  rw [fgO_n h]
  unfold rdp1
  rw [fgO_n h]
  unfold rdp0
  rw [u2_n (fun q => h ⟨q.1, Or.inl q.2⟩)]
theorem rdq6_n {u : Mm} {p k j : Nat} {t : Int32} (hk : k ≠ 83) (h : ¬ (k = 79 ∧ (j = 10 ∨ j = 11))) : rdq6 u p t k j = u k j := by
  unfold rdq6
  rw [u2_n (fun q => hk q.1)]
  unfold rdp6
  rw [fgO_n h]
  unfold rdq5
  rw [u2_n (fun q => hk q.1)]
  unfold rdp5
  rw [fgO_n h]
  unfold rdq4
  rw [u2_n (fun q => hk q.1)]
  unfold rdp4
  rw [fgO_n h]
  unfold rdq3
  rw [u2_n (fun q => hk q.1)]
  unfold rdp3
  rw [fgO_n h]
  unfold rdq2
  rw [u2_n (fun q => hk q.1), rdp2_n h]
theorem rdu3_n {u : Mm} {s k j : Nat} (hk : k ≠ 84) (h : ¬ (k = 79 ∧ (j = 10 ∨ j = 11))) : rdu3 u s k j = u k j := by
  unfold rdu3
  rw [u2_n (fun q => hk q.1)]
  unfold rds3
  rw [fgO_n h]
  unfold rds2
  rw [u2_n (fun q => hk q.1), rdp2_n h]
theorem rd_h7 {u : Mm} {p : Nat} {t : Int32} : rdq7 u p t 83 = rdq6 u p t 83 := by unfold rdq7; exact u2_g (by decide)
theorem rd_h6 {u : Mm} {p : Nat} {t : Int32} : rdq6 u p t 83 = uf ((rdp6 u p t).2 83) (5 * p + 4) (rdp6 u p t).1 := by unfold rdq6; exact u2_f
theorem rd_h6' {u : Mm} {p : Nat} {t : Int32} : (rdp6 u p t).2 83 = rdq5 u p t 83 := by unfold rdp6; exact fgO_f (by decide)
theorem rd_h5 {u : Mm} {p : Nat} {t : Int32} : rdq5 u p t 83 = uf ((rdp5 u p t).2 83) (5 * p + 3) (rdp5 u p t).1 := by unfold rdq5; exact u2_f
theorem rd_h5' {u : Mm} {p : Nat} {t : Int32} : (rdp5 u p t).2 83 = rdq4 u p 83 := by unfold rdp5; exact fgO_f (by decide)
theorem rd_h4 {u : Mm} {p : Nat} : rdq4 u p 83 = uf ((rdp4 u p).2 83) (5 * p + 2) (rdp4 u p).1 := by unfold rdq4; exact u2_f
theorem rd_h4' {u : Mm} {p : Nat} : (rdp4 u p).2 83 = rdq3 u p 83 := by unfold rdp4; exact fgO_f (by decide)
theorem rd_h3 {u : Mm} {p : Nat} : rdq3 u p 83 = uf ((rdp3 u p).2 83) (5 * p + 1) (rdp3 u p).1 := by unfold rdq3; exact u2_f
theorem rd_h3' {u : Mm} {p : Nat} : (rdp3 u p).2 83 = rdq2 u p 83 := by unfold rdp3; exact fgO_f (by decide)
theorem rd_h2 {u : Mm} {p : Nat} : rdq2 u p 83 = uf ((rdp2 u).2 83) (5 * p) (5 * (rdp2 u).1 + (rdp1 u).1) := by unfold rdq2; exact u2_f
theorem rd_h2' {u : Mm} {k : Nat} (h : k ≠ 79) : (rdp2 u).2 k = u k := by funext zj; exact rdp2_n (fun q => h q.1)
theorem rd_h8 {u : Mm} {s : Nat} : rdu4 u s 84 = uf ((rds3 u s).2 84) (2 * s + 1) (rds3 u s).1 := by
  unfold rdu4
  rw [u2_g (by decide)]
  unfold rdu3
  exact u2_f
theorem rd_h8' {u : Mm} {s : Nat} : (rds3 u s).2 84 = uf ((rdp2 u).2 84) (2 * s) (5 * (rdp2 u).1 + (rdp1 u).1) := by
  unfold rds3
  rw [fgO_f (by decide)]
  unfold rds2
  exact u2_f
theorem rd_pen {v u : Mm} {len pl p : Nat} (hT : Txt v len) (hG : GSt v u pl) (hpl : pl < len) (hP : v 85 pl = 80) :
    (ffiF v (nI pl) 2 6 0 = -9 ∧ pl + 7 ≤ len ∧ GSt v (rdq7 u p (rdpT u p)) (pl + 7) ∧ rdq7 u p (rdpT u p) 79 6 = u 79 6 + 1 ∧ rdq7 u p (rdpT u p) 79 7 = u 79 7 ∧ rdq7 u p (rdpT u p) 84 = u 84 ∧ rdq7 u p (rdpT u p) 83 = pnR v pl p (u 83) ∧ Fig v (pl + 1) 4 ∧ Fig v (pl + 2) 4 ∧ Fig v (pl + 3) 3 ∧ Fig v (pl + 4) 6 ∧ Fig v (pl + 5) 6 ∧ Fig v (pl + 6) 9) ∨ (∃ f : Nat, ffiF v (nI pl) 2 6 0 = nI f ∧ BSt v (rdq7 u p (rdpT u p)) f) := by
  have hl48 := hT.2.1
  have g0 : GSt v (rdp0 u) (pl + 1 + 0) := by
    refine ⟨hG.1.up (by omega), ?_, ?_⟩
    · unfold rdp0
      rw [u2_s, hG.2.1]
      exact nI_add _ 1
    · unfold rdp0
      rw [u2_n (by decide)]
      exact hG.2.2
  have fail : ∀ {f : Nat}, BSt v (rdq2 u p) f → BSt v (rdq7 u p (rdpT u p)) f := fun h => ((((h.fg.up (Or.inl rfl)).fg.up (Or.inl rfl)).fg.up (Or.inl rfl)).fg.up (Or.inl rfl)).up (Or.inr (Or.inr ⟨rfl, Or.inl rfl⟩))
  have nn : ∀ {i : Nat}, ¬ nI i = 4 → ¬ (letF v (nI pl) = 80 ∧ nI i = 4 ∧ fgF v (nI pl + 1 + 3) = 3 ∧ fgF v (nI pl + 1 + 4) = 3) := fun h q => h q.2.1
  rcases rd_step (m := 5) (j := 2) (b := -9) hT g0 (by omega) (mo := 4) rfl (by decide) (fun _ h => no9 (nn (by decide)) h) with ⟨l0, s0, n0, r0, g1⟩ | ⟨f, sf, bf⟩
  rotate_left
  · exact Or.inr ⟨f, sf, fail (bf.fg.up (Or.inl rfl))⟩
  rcases rd_step (m := 4) (j := 2) (b := -9) hT g1 (by omega) (mo := 4) rfl (by decide) (fun _ h => no9 (nn (by decide)) h) with ⟨l1, s1, n1, r1, g2⟩ | ⟨f, sf, bf⟩
  rotate_left
  · exact Or.inr ⟨f, s0.trans sf, fail (bf.up (Or.inl rfl))⟩
  have g2' : GSt v (rdq2 u p) (pl + 1 + 2) := g2.up (Or.inl rfl)
  rcases rd_step (m := 3) (j := 2) (b := -9) hT g2' (by omega) (mo := 3) rfl (by decide) (fun _ h => no9 (nn (by decide)) h) with ⟨l2, s2, n2, r2, g3⟩ | ⟨f, sf, bf⟩
  rotate_left
  · exact Or.inr ⟨f, s0.trans (s1.trans sf), (((bf.up (Or.inl rfl)).fg.up (Or.inl rfl)).fg.up (Or.inl rfl)).fg.up (Or.inl rfl) |>.up (Or.inr (Or.inr ⟨rfl, Or.inl rfl⟩))⟩
  have g3' : GSt v (rdq3 u p) (pl + 1 + 3) := g3.up (Or.inl rfl)
  rcases rd_step (m := 2) (j := 2) (b := -9) hT g3' (by omega) (mo := 6) rfl (by decide) (fun _ h => no9 (nn (by decide)) h) with ⟨l3, s3, n3, r3, g4⟩ | ⟨f, sf, bf⟩
  rotate_left
  · exact Or.inr ⟨f, s0.trans (s1.trans (s2.trans sf)), ((bf.up (Or.inl rfl)).fg.up (Or.inl rfl)).fg.up (Or.inl rfl) |>.up (Or.inr (Or.inr ⟨rfl, Or.inl rfl⟩))⟩
  have g4' : GSt v (rdq4 u p) (pl + 1 + 4) := g4.up (Or.inl rfl)
  have e4 : rdq4 u p 83 (5 * p + 2) = v 85 (pl + 1 + 3) - 48 := by
    unfold rdq4
    rw [u2_s]
    exact r3
  have e80 : ∀ {x : Nat}, x < len → fgF v (nI x) = v 85 x - 48 := fun h => hT.fg h
  have hP2 : letF v (nI pl) = 80 := by rw [letF_in hT.2.2.1 hl48 hpl, hT.2.2.2]; exact hP
  rcases rd_step (m := 1) (j := 2) (b := rdpT u p) hT g4' (by omega) (mo := 6) rfl (by decide) (fun l4 h => by
    have z1 : nI pl + 1 + 3 = nI (pl + 1 + 3) := by rw [show (1 : Int32) = nI 1 from rfl, show (3 : Int32) = nI 3 from rfl, nI_add, nI_add]
    have z2 : nI pl + 1 + 4 = nI (pl + 1 + 4) := by rw [show (1 : Int32) = nI 1 from rfl, show (4 : Int32) = nI 4 from rfl, nI_add, nI_add]
    rw [z1, z2, e80 (by omega), e80 (by omega)]
    unfold rdpT
    rw [e4]
    constructor
    · intro q
      rw [if_pos q.2.2.1]
      exact q.2.2.2
    · intro q
      by_cases z3 : v 85 (pl + 1 + 3) - 48 = 3
      · rw [if_pos z3] at q
        exact ⟨hP2, rfl, z3, q⟩
      · rw [if_neg z3] at q
        exact absurd h (by rw [q]; decide)) with ⟨l4, s4, n4, r4, g5⟩ | ⟨f, sf, bf⟩
  rotate_left
  · exact Or.inr ⟨f, s0.trans (s1.trans (s2.trans (s3.trans sf))), (bf.up (Or.inl rfl)).fg.up (Or.inl rfl) |>.up (Or.inr (Or.inr ⟨rfl, Or.inl rfl⟩))⟩
  have g5' : GSt v (rdq5 u p (rdpT u p)) (pl + 1 + 5) := g5.up (Or.inl rfl)
  rcases rd_step (m := 0) (j := 2) (b := -9) hT g5' (by omega) (mo := 9) rfl (by decide) (fun _ h => no9 (nn (by decide)) h) with ⟨l5, s5, n5, r5, g6⟩ | ⟨f, sf, bf⟩
  rotate_left
  · exact Or.inr ⟨f, s0.trans (s1.trans (s2.trans (s3.trans (s4.trans sf)))), (bf.up (Or.inl rfl)).up (Or.inr (Or.inr ⟨rfl, Or.inl rfl⟩))⟩
  refine Or.inl ⟨s0.trans (s1.trans (s2.trans (s3.trans (s4.trans s5)))), by omega, (g6.up (Or.inl rfl)).up (Or.inr (Or.inr ⟨rfl, Or.inl rfl⟩)), ?_, ?_, ?_, ?_, n0, n1, n2, n3, n4, n5⟩
  · unfold rdq7
    rw [u2_s, rdq6_n (by decide) (by decide)]
  · unfold rdq7
    rw [u2_n (by decide), rdq6_n (by decide) (by decide)]
  · funext zj
    unfold rdq7
    rw [u2_n (fun q => absurd q.1 (by decide)), rdq6_n (by decide) (fun q => absurd q.1 (by decide))]
  · have k6 : (rdp6 u p (rdpT u p)).1 = v 85 (pl + 6) - 48 := r5
    have k5 : (rdp5 u p (rdpT u p)).1 = v 85 (pl + 5) - 48 := r4
    have k4 : (rdp4 u p).1 = v 85 (pl + 4) - 48 := r3
    have k3 : (rdp3 u p).1 = v 85 (pl + 3) - 48 := r2
    have k2 : (rdp2 u).1 = v 85 (pl + 2) - 48 := r1
    have k1 : (rdp1 u).1 = v 85 (pl + 1) - 48 := r0
    rw [rd_h7, rd_h6, rd_h6', rd_h5, rd_h5', rd_h4, rd_h4', rd_h3, rd_h3', rd_h2, rd_h2' (by decide), k6, k5, k4, k3, k2, k1]
    rfl
theorem rd_stain {v u : Mm} {len pl s : Nat} (hT : Txt v len) (hG : GSt v u pl) (hpl : pl < len) (h83 : v 85 pl = 83) :
    (ffiF v (nI pl) 3 3 0 = -9 ∧ pl + 4 ≤ len ∧ GSt v (rdu4 u s) (pl + 4) ∧ rdu4 u s 79 6 = u 79 6 ∧ rdu4 u s 79 7 = u 79 7 + 1 ∧ rdu4 u s 83 = u 83 ∧ rdu4 u s 84 = snR v pl s (u 84) ∧ Fig v (pl + 1) 4 ∧ Fig v (pl + 2) 4 ∧ Fig v (pl + 3) 9) ∨ (∃ f : Nat, ffiF v (nI pl) 3 3 0 = nI f ∧ BSt v (rdu4 u s) f) := by
  have hl48 := hT.2.1
  have g0 : GSt v (rdp0 u) (pl + 1 + 0) := by
    refine ⟨hG.1.up (by omega), ?_, ?_⟩
    · unfold rdp0
      rw [u2_s, hG.2.1]
      exact nI_add _ 1
    · unfold rdp0
      rw [u2_n (by decide)]
      exact hG.2.2
  have hP2 : ¬ letF v (nI pl) = 80 := by rw [letF_in hT.2.2.1 hl48 hpl, hT.2.2.2, h83]; decide
  have nn : ∀ {i : Nat}, ¬ (letF v (nI pl) = 80 ∧ nI i = 4 ∧ fgF v (nI pl + 1 + 3) = 3 ∧ fgF v (nI pl + 1 + 4) = 3) := fun q => hP2 q.1
  rcases rd_step (m := 2) (j := 3) (b := -9) hT g0 (by omega) (mo := 4) rfl (by decide) (fun _ h => no9 nn h) with ⟨l0, s0, n0, r0, g1⟩ | ⟨f, sf, bf⟩
  rotate_left
  · exact Or.inr ⟨f, sf, ((bf.fg.up (Or.inr (Or.inl rfl))).fg.up (Or.inr (Or.inl rfl))).up (Or.inr (Or.inr ⟨rfl, Or.inr rfl⟩))⟩
  rcases rd_step (m := 1) (j := 3) (b := -9) hT g1 (by omega) (mo := 4) rfl (by decide) (fun _ h => no9 nn h) with ⟨l1, s1, n1, r1, g2⟩ | ⟨f, sf, bf⟩
  rotate_left
  · exact Or.inr ⟨f, s0.trans sf, ((bf.up (Or.inr (Or.inl rfl))).fg.up (Or.inr (Or.inl rfl))).up (Or.inr (Or.inr ⟨rfl, Or.inr rfl⟩))⟩
  have g2' : GSt v (rds2 u s) (pl + 1 + 2) := g2.up (Or.inr (Or.inl rfl))
  rcases rd_step (m := 0) (j := 3) (b := -9) hT g2' (by omega) (mo := 9) rfl (by decide) (fun _ h => no9 nn h) with ⟨l2, s2, n2, r2, g3⟩ | ⟨f, sf, bf⟩
  rotate_left
  · exact Or.inr ⟨f, s0.trans (s1.trans sf), (bf.up (Or.inr (Or.inl rfl))).up (Or.inr (Or.inr ⟨rfl, Or.inr rfl⟩))⟩
  refine Or.inl ⟨s0.trans (s1.trans s2), by omega, (g3.up (Or.inr (Or.inl rfl))).up (Or.inr (Or.inr ⟨rfl, Or.inr rfl⟩)), ?_, ?_, ?_, ?_, n0, n1, n2⟩
  · unfold rdu4
    rw [u2_n (by decide), rdu3_n (by decide) (by decide)]
  · unfold rdu4
    rw [u2_s, rdu3_n (by decide) (by decide)]
  · funext zj
    unfold rdu4
    rw [u2_n (fun q => absurd q.1 (by decide)), rdu3_n (by decide) (fun q => absurd q.1 (by decide))]
  · have k3 : (rds3 u s).1 = v 85 (pl + 3) - 48 := r2
    have k2 : (rdp2 u).1 = v 85 (pl + 2) - 48 := r1
    have k1 : (rdp1 u).1 = v 85 (pl + 1) - 48 := r0
    rw [rd_h8, rd_h8', rd_h2' (by decide), k3, k2, k1]
    rfl
