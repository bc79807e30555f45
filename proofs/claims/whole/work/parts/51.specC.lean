/-! a doing, all kinds of it -/
def dnF (v : Mm) (n w : Nat) (k m l : Int32) : Int32 × Mm :=
  if k = 5 then (b01 (m < 5 ∧ l < 5 ∧ 3 ≤ inkF v 12 (5 * l + m)), v)
  else if k = 1 then (if 0 ≤ m ∧ m < nI n then (if nbF (v (12 + 3 + m.toNatClampNeg) 0) l = -9 then (0, v) else (1, mvV v 12 (12 + 3 + m.toNatClampNeg) l)) else (0, v))
  else if k = 6 then (if 0 ≤ m ∧ m < nI n then (b01 (l ≤ v (12 + 3 + m.toNatClampNeg) 4), v) else (0, v))
  else if k = 7 then (if 0 ≤ m ∧ m < nI n then (if l = 0 then (b01 ((folF 12 (12 + 3 + m.toNatClampNeg) w 0 v).1 = nI w), (folF 12 (12 + 3 + m.toNatClampNeg) w 0 v).2) else (0, v)) else (0, v))
  else if k = 2 ∨ k = 3 ∨ k = 4 then (if 0 ≤ l ∧ l < nI n then (if m = 0 then (if k = 2 then (1, upd2 v (12 + 3 + l.toNatClampNeg) 6 (b01 (v (12 + 3 + l.toNatClampNeg) 6 = 0))) else if k = 3 then (b01 (0 < v (12 + 3 + l.toNatClampNeg) 5 - v (12 + 3 + l.toNatClampNeg) 4), upd2 v (12 + 3 + l.toNatClampNeg) 4 (v (12 + 3 + l.toNatClampNeg) 5)) else (1, upd2 (upd2 v (12 + 3 + l.toNatClampNeg) 2 (-(v (12 + 3 + l.toNatClampNeg) 3))) (12 + 3 + l.toNatClampNeg) 3 (v (12 + 3 + l.toNatClampNeg) 2))) else (0, v)) else (0, v))
  else (0, v)
theorem c_isDone {n w : Nat} {k m l : Int32} {v : Mm} {L : Lm} (hT : TSt v n) (hW : WSt v w) : Fn yX9_isDone cX9_isDone 6 (some .boolean) 5 [.ref 0, .int k, .int m, .int l] v L (some (.int (dnF v n w k m l).1)) (dnF v n w k m l).2 L := by
  have hn4 := hT.1
  unfold dnF
  rcases tsw_1_7 k with rfl | rfl | rfl | rfl | rfl | rfl | rfl | hk
  · rw [if_neg (by decide), if_pos rfl]
    by_cases hx : 0 ≤ m ∧ m < nI n
    · rw [if_pos hx]
      obtain ⟨p, hp, rfl⟩ := nI_of_in (by omega) hx
      rw [nI_clamp (by omega)]
      by_cases z : nbF (v (12 + 3 + p) 0) l = -9
      · rw [if_pos z]; exact c_X9_isDone_1n hT hp z
      · rw [if_neg z]; exact c_X9_isDone_1s hT hp z
    · rw [if_neg hx]; exact c_X9_isDone_1u hT hx
  · rw [if_neg (by decide), if_neg (by decide), if_neg (by decide), if_neg (by decide), if_pos (by decide)]
    by_cases hx : 0 ≤ l ∧ l < nI n
    · rw [if_pos hx]
      obtain ⟨p, hp, rfl⟩ := nI_of_in (by omega) hx
      rw [nI_clamp (by omega)]
      by_cases z : m = 0
      · subst z; rw [if_pos rfl, if_pos rfl]; exact c_X9_isDone_2s hT hp
      · rw [if_neg z]; exact c_X9_isDone_2m hT hp z
    · rw [if_neg hx]; exact c_X9_isDone_2u hT hx
  · rw [if_neg (by decide), if_neg (by decide), if_neg (by decide), if_neg (by decide), if_pos (by decide)]
    by_cases hx : 0 ≤ l ∧ l < nI n
    · rw [if_pos hx]
      obtain ⟨p, hp, rfl⟩ := nI_of_in (by omega) hx
      rw [nI_clamp (by omega)]
      by_cases z : m = 0
      · subst z; rw [if_pos rfl, if_neg (by decide), if_pos rfl]; exact c_X9_isDone_3s hT hp
      · rw [if_neg z]; exact c_X9_isDone_3m hT hp z
    · rw [if_neg hx]; exact c_X9_isDone_3u hT hx
  · rw [if_neg (by decide), if_neg (by decide), if_neg (by decide), if_neg (by decide), if_pos (by decide)]
    by_cases hx : 0 ≤ l ∧ l < nI n
    · rw [if_pos hx]
      obtain ⟨p, hp, rfl⟩ := nI_of_in (by omega) hx
      rw [nI_clamp (by omega)]
      by_cases z : m = 0
      · subst z; rw [if_pos rfl, if_neg (by decide), if_neg (by decide)]; exact c_X9_isDone_4s hT hp
      · rw [if_neg z]; exact c_X9_isDone_4m hT hp z
    · rw [if_neg hx]; exact c_X9_isDone_4u hT hx
  · rw [if_pos rfl]; exact c_X9_isDone_5
  · rw [if_neg (by decide), if_neg (by decide), if_pos rfl]
    by_cases hx : 0 ≤ m ∧ m < nI n
    · rw [if_pos hx]
      obtain ⟨p, hp, rfl⟩ := nI_of_in (by omega) hx
      rw [nI_clamp (by omega)]
      exact c_X9_isDone_6s hT hp
    · rw [if_neg hx]; exact c_X9_isDone_6u hT hx
  · rw [if_neg (by decide), if_neg (by decide), if_neg (by decide), if_pos rfl]
    by_cases hx : 0 ≤ m ∧ m < nI n
    · rw [if_pos hx]
      obtain ⟨p, hp, rfl⟩ := nI_of_in (by omega) hx
      rw [nI_clamp (by omega)]
      by_cases z : l = 0
      · subst z; rw [if_pos rfl]; exact c_X9_isDone_7s hT hp hW
      · rw [if_neg z]; exact c_X9_isDone_7m hT hp z
    · rw [if_neg hx]; exact c_X9_isDone_7u hT hx
  · have z1 : ∀ c : Int32, ¬ (c.toInt < 1 ∨ 7 < c.toInt) → ¬ k = c := fun c h q => h (by rw [← q]; exact hk)
    rw [if_neg (z1 5 (by decide)), if_neg (z1 1 (by decide)), if_neg (z1 6 (by decide)), if_neg (z1 7 (by decide)), if_neg (fun q => by rcases q with q | q | q; exact z1 2 (by decide) q; exact z1 3 (by decide) q; exact z1 4 (by decide) q)]
    exact c_X9_isDone_o hT hk
theorem TSt.up {v : Mm} {n p j : Nat} {x : Int32} (h : TSt v n) (hp : p < n) (h2 : (j = 2 ∨ j = 3) → sm x) (h4 : j = 4 → ∃ l, l < 100 ∧ x = nI l) (h6 : j = 6 → x = 0 ∨ x = 1) : TSt (upd2 v (12 + 3 + p) j x) n := by
  obtain ⟨a1, a2, a3⟩ := h
  refine ⟨a1, by rw [u2_n (fun q => by omega)]; exact a2, fun r hr => ?_⟩
  by_cases e : r = p
  · subst e
    refine ⟨⟨?_, ?_, ?_⟩, ?_⟩
    · by_cases z : j = 2
      · subst z; rw [u2_s]; exact h2 (Or.inl rfl)
      · rw [u2_n (fun q => z q.2.symm)]; exact (a3 r hr).1.1
    · by_cases z : j = 3
      · subst z; rw [u2_s]; exact h2 (Or.inr rfl)
      · rw [u2_n (fun q => z q.2.symm)]; exact (a3 r hr).1.2.1
    · by_cases z : j = 4
      · subst z; rw [u2_s]; exact h4 rfl
      · rw [u2_n (fun q => z q.2.symm)]; exact (a3 r hr).1.2.2
    · by_cases z : j = 6
      · subst z; rw [u2_s]; exact h6 rfl
      · rw [u2_n (fun q => z q.2.symm)]; exact (a3 r hr).2
  · have hk : ∀ i, upd2 v (12 + 3 + p) j x (12 + 3 + r) i = v (12 + 3 + r) i := fun i => u2_n (fun q => by omega)
    exact ⟨⟨by rw [hk]; exact (a3 r hr).1.1, by rw [hk]; exact (a3 r hr).1.2.1, by rw [hk]; exact (a3 r hr).1.2.2⟩, by rw [hk]; exact (a3 r hr).2⟩
theorem sm_neg {x : Int32} (h : sm x) : sm (-x) := by
  obtain ⟨i, hi, rfl⟩ := h
  rcases (show i = 0 ∨ i = 1 ∨ i = 2 ∨ i = 3 ∨ i = 4 ∨ i = 5 ∨ i = 6 by omega) with rfl | rfl | rfl | rfl | rfl | rfl | rfl
  · exact ⟨6, by decide, by decide⟩
  · exact ⟨5, by decide, by decide⟩
  · exact ⟨4, by decide, by decide⟩
  · exact ⟨3, by decide, by decide⟩
  · exact ⟨2, by decide, by decide⟩
  · exact ⟨1, by decide, by decide⟩
  · exact ⟨0, by decide, by decide⟩
def FSt (v : Mm) (n : Nat) : Prop := ∀ p, p < n → ∃ l, l < 100 ∧ v (12 + 3 + p) 5 = nI l
theorem TSt.dn {v : Mm} {n w : Nat} {k m l : Int32} (h : TSt v n) (hF : FSt v n) : TSt (dnF v n w k m l).2 n ∧ FSt (dnF v n w k m l).2 n := by
  have hn4 := h.1
  have f6 : ∀ {p j : Nat} {x : Int32}, j ≠ 5 → FSt (upd2 v (12 + 3 + p) j x) n := fun {p j x} hj r hr => by rw [u2_n (fun q => hj q.2.symm)]; exact hF r hr
  have fm : ∀ {p : Nat} {e : Int32}, p < n → ¬ nbF (v (12 + 3 + p) 0) e = -9 → FSt (mvV v 12 (12 + 3 + p) e) n := fun {p e} hp hnb r hr => by
    have hkp : kd (12 + 3 + p) = 2 := sh_kp s12 (by omega)
    obtain ⟨q, hq, e1⟩ := nb_ok hnb
    rw [mvV_at (pen_away hkp s12).1 (pen_away hkp s12).2 hq e1, if_neg (fun z => by omega), if_neg (fun z => absurd z.2 (by decide)), if_neg (fun z => absurd z.2 (by decide)), if_neg (fun z => by omega)]
    exact hF r hr
  have ff : ∀ {p : Nat}, p < n → ∀ {m i : Nat} {u : Mm}, FSt u n → FSt (folF 12 (12 + 3 + p) m i u).2 n := by
    intro p hp m
    induction m with
    | zero => intro i u hu; exact hu
    | succ m ih =>
      intro i u hu
      unfold folF
      split
      · exact hu
      · rename_i hnb
        refine ih (fun r hr => ?_)
        have hkp : kd (12 + 3 + p) = 2 := sh_kp s12 (by omega)
        obtain ⟨q, hq, e1⟩ := nb_ok hnb
        rw [mvV_at (pen_away hkp s12).1 (pen_away hkp s12).2 hq e1, if_neg (fun z => by omega), if_neg (fun z => absurd z.2 (by decide)), if_neg (fun z => absurd z.2 (by decide)), if_neg (fun z => by omega)]
        exact hu r hr
  unfold dnF
  split
  · exact ⟨h, hF⟩
  · split
    · split
      · rename_i hx
        obtain ⟨p, hp, rfl⟩ := nI_of_in (by omega) hx
        rw [nI_clamp (by omega)]
        split
        · exact ⟨h, hF⟩
        · rename_i hnb; exact ⟨h.mv hp hnb, fm hp hnb⟩
      · exact ⟨h, hF⟩
    · split
      · split
        · exact ⟨h, hF⟩
        · exact ⟨h, hF⟩
      · split
        · split
          · rename_i hx
            obtain ⟨p, hp, rfl⟩ := nI_of_in (by omega) hx
            rw [nI_clamp (by omega)]
            split
            · exact ⟨TSt.fol hp h, ff hp hF⟩
            · exact ⟨h, hF⟩
          · exact ⟨h, hF⟩
        · split
          · split
            · rename_i hx
              obtain ⟨p, hp, rfl⟩ := nI_of_in (by omega) hx
              rw [nI_clamp (by omega)]
              split
              · split
                · exact ⟨h.up hp (fun q => by rcases q with q | q <;> cases q) (fun q => by cases q) (fun _ => b01_01), f6 (by decide)⟩
                · split
                  · exact ⟨h.up hp (fun q => by rcases q with q | q <;> cases q) (fun _ => hF p hp) (fun q => by cases q), f6 (by decide)⟩
                  · refine ⟨(h.up hp (fun _ => sm_neg (h.2.2 p hp).1.2.1) (fun q => by cases q) (fun q => by cases q)).up hp (fun _ => (h.2.2 p hp).1.1) (fun q => by cases q) (fun q => by cases q), fun r hr => ?_⟩
                    dsimp only
                    rw [u2_n (fun q => absurd q.2 (by decide)), u2_n (fun q => absurd q.2 (by decide))]
                    exact hF r hr
              · exact ⟨h, hF⟩
            · exact ⟨h, hF⟩
          · exact ⟨h, hF⟩
theorem dn_w {v : Mm} {n w : Nat} {k m l : Int32} (hn : n ≤ 4) {a j : Nat} (ha : a < 12 ∨ 19 ≤ a) : (dnF v n w k m l).2 a j = v a j := by
  unfold dnF
  split
  · rfl
  · split
    · split
      · rename_i hx
        obtain ⟨p, hp, rfl⟩ := nI_of_in (by omega) hx
        rw [nI_clamp (by omega)]
        split
        · rfl
        · exact mvV_away (by omega) (by omega) (by omega)
      · rfl
    · split
      · split <;> rfl
      · split
        · split
          · rename_i hx
            obtain ⟨p, hp, rfl⟩ := nI_of_in (by omega) hx
            rw [nI_clamp (by omega)]
            split
            · exact folF_away (by omega) (by omega) (by omega)
            · rfl
          · rfl
        · split
          · split
            · rename_i hx
              obtain ⟨p, hp, rfl⟩ := nI_of_in (by omega) hx
              rw [nI_clamp (by omega)]
              split
              · split
                · exact u2_n (fun q => by omega)
                · split
                  · exact u2_n (fun q => by omega)
                  · show upd2 (upd2 v _ _ _) _ _ _ a j = v a j
                    rw [u2_n (fun q => by omega), u2_n (fun q => by omega)]
              · rfl
            · rfl
          · rfl
def jdF (n w : Nat) (row : Int64) (c : Nat) : Nat → Nat → Mm → Int32 × Mm
  | 0, _, v => (-9, v)
  | m + 1, i, v => if (dnF v n w (figF row (nI (3 * (c - 1 - i)) + 2)) (figF row (nI (3 * (c - 1 - i)) + 1)) (figF row (nI (3 * (c - 1 - i))))).1 = 0 then (nI i, (dnF v n w (figF row (nI (3 * (c - 1 - i)) + 2)) (figF row (nI (3 * (c - 1 - i)) + 1)) (figF row (nI (3 * (c - 1 - i))))).2) else jdF n w row c m (i + 1) (dnF v n w (figF row (nI (3 * (c - 1 - i)) + 2)) (figF row (nI (3 * (c - 1 - i)) + 1)) (figF row (nI (3 * (c - 1 - i))))).2
def sdN (s : Int64) : Int64 := s * 6364136223846793005 + 1442695040888963407
def sdX (s : Int64) : Int64 := (s.toUInt64 >>> ((33 : Int32).toInt64.toUInt64 &&& Int64.toUInt64 63)).toInt64
def sdT (s : Int64) : Nat := s.toUInt64.toNat / 2 ^ 33 % 48
def yrF (f : Int64 → Int64) (g : Int64 → Nat) (n : Nat) : Nat → Int64 → Int32 → Mm → Int64 × Int32 × Mm
  | 0, s, t, v => (s, t, v)
  | m + 1, s, t, v => yrF f g n m (f s) (t + sumF (pyM v n (g (f s)) (12 + 2)) 25) (pyM v n (g (f s)))
theorem yr_succ (f : Int64 → Int64) (g : Int64 → Nat) (n m : Nat) (s : Int64) (t : Int32) (v : Mm) : yrF f g n (m + 1) s t v = yrF f g n m (f s) (t + sumF (pyM v n (g (f s)) (12 + 2)) 25) (pyM v n (g (f s))) := rfl
theorem yr_zero (f : Int64 → Int64) (g : Int64 → Nat) (n : Nat) (s : Int64) (t : Int32) (v : Mm) : yrF f g n 0 s t v = (s, t, v) := rfl
theorem sdN_eq (s : Int64) : s * 6364136223846793005 + 1442695040888963407 = sdN s := rfl
theorem sd_eq (s : Int64) : (sdX s - sdX s / 48 * 48).toInt32 = nI (sdT s) := by
  have h1 : sdX s = lN (s.toUInt64.toNat / 2 ^ 33) := by
    unfold sdX
    apply Int64.toBitVec_inj.mp
    apply BitVec.eq_of_toNat_eq
    have e : ((33 : Int32).toInt64.toUInt64 &&& Int64.toUInt64 63) = 33 := by decide
    rw [e]
    show (s.toUInt64 >>> 33).toNat = (Int64.ofNat (s.toUInt64.toNat / 2 ^ 33)).toBitVec.toNat
    rw [UInt64.toNat_shiftRight]
    have hlt : s.toUInt64.toNat < 2 ^ 64 := s.toUInt64.toNat_lt
    show s.toUInt64.toNat >>> ((33 : UInt64).toNat % 64) = (BitVec.ofNat 64 (s.toUInt64.toNat / 2 ^ 33)).toNat
    rw [BitVec.toNat_ofNat, Nat.shiftRight_eq_div_pow, Nat.mod_eq_of_lt (Nat.lt_of_le_of_lt (Nat.div_le_self _ _) hlt)]
    rfl
  have hlt : s.toUInt64.toNat < 2 ^ 64 := s.toUInt64.toNat_lt
  have h2 : s.toUInt64.toNat / 2 ^ 33 < 2 ^ 31 := by
    rw [Nat.div_lt_iff_lt_mul (by decide)]
    exact Nat.lt_of_lt_of_le hlt (by decide)
  rw [h1]
  have h3 : lN (s.toUInt64.toNat / 2 ^ 33) - lN (s.toUInt64.toNat / 2 ^ 33) / lN 48 * lN 48 = lN (s.toUInt64.toNat / 2 ^ 33 % 48) := pk_lRem (by omega) (by decide) (by decide)
  show (lN (s.toUInt64.toNat / 2 ^ 33) - lN (s.toUInt64.toNat / 2 ^ 33) / lN 48 * lN 48).toInt32 = _
  rw [h3, lN_i]
  rfl
theorem updl_same (L : Lm) (k : Nat) : updl L k (L k) = L := by
  funext a
  unfold updl
  split
  · rename_i h; rw [h]
  · rfl
theorem updl_twice {L : Lm} {k : Nat} {x y : Int64} : updl (updl L k x) k y = updl L k y := by
  funext a
  unfold updl
  split <;> rfl
theorem pyM_ok {v : Mm} {n t : Nat} (h : TSt v n) (hF : FSt v n) : TSt (pyM v n t) n ∧ FSt (pyM v n t) n := by
  have hn4 := h.1
  unfold pyM
  split
  · refine ⟨⟨h.1, by rw [stM_away (by decide)]; exact h.2.1, fun p hp => ?_⟩, fun p hp => by rw [stM_away (by omega)]; exact hF p hp⟩
    have hk : ∀ j, stM v 12 (nI (6 * (t - 44))) 0 (12 + 3 + p) j = v (12 + 3 + p) j := fun j => stM_away (by omega)
    exact ⟨⟨by rw [hk]; exact (h.2.2 p hp).1.1, by rw [hk]; exact (h.2.2 p hp).1.2.1, by rw [hk]; exact (h.2.2 p hp).1.2.2⟩, by rw [hk]; exact (h.2.2 p hp).2⟩
  · split
    · split
      · split
        · exact ⟨h, hF⟩
        · rename_i hp hnb
          refine ⟨h.mv hp hnb, fun r hr => ?_⟩
          have hkp : kd (12 + 3 + t / 8) = 2 := sh_kp s12 (by omega)
          obtain ⟨q, hq, e1⟩ := nb_ok hnb
          rw [mvV_at (pen_away hkp s12).1 (pen_away hkp s12).2 hq e1, if_neg (fun z => by omega), if_neg (fun z => absurd z.2 (by decide)), if_neg (fun z => absurd z.2 (by decide)), if_neg (fun z => by omega)]
          exact hF r hr
      · exact ⟨h, hF⟩
    · split
      · rename_i hp
        have f6 : ∀ {j : Nat} {x : Int32}, j ≠ 5 → FSt (upd2 v (12 + 3 + (t - 32) % 4) j x) n := fun {j x} hj r hr => by rw [u2_n (fun q => hj q.2.symm)]; exact hF r hr
        split
        · refine ⟨(h.up hp (fun _ => sm_neg (h.2.2 _ hp).1.2.1) (fun q => by cases q) (fun q => by cases q)).up hp (fun _ => (h.2.2 _ hp).1.1) (fun q => by cases q) (fun q => by cases q), fun r hr => ?_⟩
          rw [u2_n (fun q => absurd q.2 (by decide)), u2_n (fun q => absurd q.2 (by decide))]
          exact hF r hr
        · split
          · exact ⟨h.up hp (fun q => by rcases q with q | q <;> cases q) (fun q => by cases q) (fun _ => b01_01), f6 (by decide)⟩
          · exact ⟨h.up hp (fun q => by rcases q with q | q <;> cases q) (fun _ => hF _ hp) (fun q => by cases q), f6 (by decide)⟩
      · exact ⟨h, hF⟩
