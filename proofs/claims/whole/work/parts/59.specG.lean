theorem wo_away {l p : Nat} {sk : Int32} {k j : Nat} (h1 : k ≠ 82) (h2 : ¬ (k = 79 ∧ j = 14)) : ∀ {m i : Nat} {s : Int32} {v : Mm}, (woF l p sk m i s v).2 k j = v k j := by
  intro m
  induction m with
  | zero => intro i s v; rfl
  | succ m ih =>
    intro i s v
    unfold woF
    split
    · rw [ih, wrM_away h2]
    · split
      · rw [ih, wrM_away h2, msV_away h1]
      · rfl
theorem msV_oth {v : Mm} {l p q r : Nat} {e : Int32} (hp : p < 4) (hr : r < 4) (hrp : r ≠ p) (hq : q < 25) (h : ndF (v 82 (43 * l + p)) e = nI q) : msV v l p e 82 (43 * l + r) = v 82 (43 * l + r) := by
  unfold msV
  try dsimp only
  rw [h, nI_clamp (by omega), u2_n (fun z => by omega), u2_n (fun z => by omega), u2_n (fun z => by omega), u2_n (fun z => by omega)]
theorem DotOk.ms {v : Mm} {l p r : Nat} {e : Int32} (hp : p < 4) (hr : r < 4) (hdp : DotOk v l p) (hdr : DotOk v l r) (hc : (0 ≤ e ∧ e ≤ 7) ∧ ¬ ndF (v 82 (43 * l + p)) e = -9) : DotOk (msV v l p e) l r := by
  obtain ⟨d, hd, ed⟩ := hdp
  obtain ⟨q, hq, eq⟩ : ∃ q, q < 25 ∧ ndF (v 82 (43 * l + p)) e = nI q := by
    have z := hc.2
    rw [ed] at z ⊢
    exact nd_ok hd ⟨hc.1.1, le7.mp hc.1.2⟩ z
  by_cases h : r = p
  · subst h; exact ⟨q, hq, msV_dot hp hq eq⟩
  · obtain ⟨y, hy, ey⟩ := hdr
    exact ⟨y, hy, by rw [msV_oth hp hr h hq eq]; exact ey⟩
theorem DotOk.wr {v : Mm} {l r : Nat} (h : DotOk v l r) : DotOk (wrM v) l r := by
  obtain ⟨y, hy, ey⟩ := h
  exact ⟨y, hy, by rw [wrM_away (by omega)]; exact ey⟩
theorem wo_dot {l p n : Nat} {sk : Int32} (hn : n ≤ 4) (hp : p < n) : ∀ {m i : Nat} {s : Int32} {v : Mm}, (∀ r, r < n → DotOk v l r) → ∀ r, r < n → DotOk (woF l p sk m i s v).2 l r := by
  intro m
  induction m with
  | zero => intro i s v h; exact h
  | succ m ih =>
    intro i s v h
    unfold woF
    split
    · exact ih (fun r hr => (h r hr).wr)
    · split
      · rename_i hc
        exact ih (fun r hr => (DotOk.ms (by omega) (by omega) (h p hp) (h r hr) hc).wr)
      · exact h
theorem MSt.wo {v : Mm} {n w p : Nat} {sk : Int32} {m i : Nat} {s : Int32} (h : MSt v n w) (hp : p < n) : MSt (woF 1 p sk m i s v).2 n w := by
  obtain ⟨h1, h2, h3, h4, h5⟩ := h
  exact ⟨h1, by rw [wo_away (by decide) (by decide)]; exact h2, by rw [wo_away (by decide) (by decide)]; exact h3, h4, wo_dot h1 hp h5⟩
theorem MSt.w0 {v : Mm} {n w : Nat} (h : MSt v n w) : MSt (wo0 v) n w := by
  obtain ⟨h1, h2, h3, h4, h5⟩ := h
  refine ⟨h1, by unfold wo0; rw [u2_n (by decide)]; exact h2, by unfold wo0; rw [u2_n (by decide)]; exact h3, h4, fun p hp => ?_⟩
  obtain ⟨y, hy, ey⟩ := h5 p hp
  exact ⟨y, hy, by unfold wo0; rw [u2_n (by omega)]; exact ey⟩
theorem MSt.u82 {v : Mm} {n w j : Nat} {x : Int32} (h : MSt v n w) (hj : j < 43 ∨ 47 ≤ j) : MSt (upd2 v 82 j x) n w := by
  obtain ⟨h1, h2, h3, h4, h5⟩ := h
  refine ⟨h1, by rw [u2_n (by omega)]; exact h2, by rw [u2_n (by omega)]; exact h3, h4, fun p hp => ?_⟩
  obtain ⟨y, hy, ey⟩ := h5 p hp
  exact ⟨y, hy, by rw [u2_n (by omega)]; exact ey⟩
theorem MSt.ms {v : Mm} {n w p : Nat} {e : Int32} (h : MSt v n w) (hp : p < n) (hc : (0 ≤ e ∧ e ≤ 7) ∧ ¬ ndF (v 82 (43 * 1 + p)) e = -9) : MSt (msV v 1 p e) n w := by
  obtain ⟨h1, h2, h3, h4, h5⟩ := h
  exact ⟨h1, by rw [msV_away (by decide)]; exact h2, by rw [msV_away (by decide)]; exact h3, h4, fun r hr => DotOk.ms (by omega) (by omega) (h5 p hp) (h5 r hr) hc⟩
theorem MSt.tt {v : Mm} {n w : Nat} {k a b : Int32} (h : MSt v n w) : MSt (ttF v n w k a b).2 n w := by
  have hn := h.1
  unfold ttF
  split
  · split
    · rename_i hx
      obtain ⟨p, hp, rfl⟩ := nI_of_in (by omega) hx
      rw [nI_clamp (by omega)]
      split
      · rename_i hc; exact h.ms hp hc
      · exact h
    · exact h
  · split
    · split
      · exact h.u82 (by omega)
      · exact h.u82 (by omega)
    · split
      · split
        · rename_i hx
          obtain ⟨p, hp, rfl⟩ := nI_of_in (by omega) hx.2
          rw [nI_clamp (by omega)]
          split
          · exact h.u82 (by omega)
          · exact h
        · exact h
      · split
        · split
          · rename_i hx
            obtain ⟨p, hp, rfl⟩ := nI_of_in (by omega) hx.2
            rw [nI_clamp (by omega)]
            exact (h.u82 (by omega)).u82 (by omega)
          · exact h
        · split
          · split
            · exact h
            · exact h
          · split
            · split
              · exact h
              · exact h
            · split
              · split
                · rename_i hx
                  obtain ⟨p, hp, rfl⟩ := nI_of_in (by omega) hx.2
                  rw [nI_clamp (by omega)]
                  exact h.w0.wo hp
                · exact h
              · exact h
def t3 (row : Int64) (c i : Nat) : Int32 := (rem64 (row / t10 (3 * (c - 1 - i))) 1000).toInt32
def jmF (n w : Nat) (row : Int64) (c : Nat) : Nat → Nat → Mm → Int32 × Mm
  | 0, _, v => (-9, v)
  | m + 1, i, v => if (ttF v n w (t3 row c i / 100) (rem32 (t3 row c i / 10) 10) (rem32 (t3 row c i) 10)).1 = 0 then (nI i, (ttF v n w (t3 row c i / 100) (rem32 (t3 row c i / 10) 10) (rem32 (t3 row c i) 10)).2) else jmF n w row c m (i + 1) (ttF v n w (t3 row c i / 100) (rem32 (t3 row c i / 10) 10) (rem32 (t3 row c i) 10)).2
def ymM (v : Mm) (n w t : Nat) : Mm := if 44 ≤ t then upd2 v 82 (61 + 6 * (t - 44)) 0 else if 40 ≤ t then (ttF v n w 3 0 (nI (t - 40))).2 else if 36 ≤ t then (ttF v n w 2 0 (nI (t - 36))).2 else if 32 ≤ t then (ttF v n w 4 0 (nI (t - 32))).2 else (ttF v n w 1 (nI (t / 8)) (nI (t % 8))).2
theorem MSt.ym {v : Mm} {n w t : Nat} (h : MSt v n w) : MSt (ymM v n w t) n w := by
  unfold ymM
  split
  · exact h.u82 (by omega)
  · split
    · exact h.tt
    · split
      · exact h.tt
      · split
        · exact h.tt
        · exact h.tt
def yqF (f : Int64 → Int64) (g : Int64 → Nat) (n w : Nat) : Nat → Int64 → Int32 → Mm → Int64 × Int32 × Mm
  | 0, s, t, v => (s, t, v)
  | m + 1, s, t, v => yqF f g n w m (f s) (t + ikF (ymM v n w (g (f s))) 1) (ymM v n w (g (f s)))
theorem yq_succ (f : Int64 → Int64) (g : Int64 → Nat) (n w m : Nat) (s : Int64) (t : Int32) (v : Mm) : yqF f g n w (m + 1) s t v = yqF f g n w m (f s) (t + ikF (ymM v n w (g (f s))) 1) (ymM v n w (g (f s))) := rfl
theorem yq_zero (f : Int64 → Int64) (g : Int64 → Nat) (n w : Nat) (s : Int64) (t : Int32) (v : Mm) : yqF f g n w 0 s t v = (s, t, v) := rfl
theorem MSt.lt {v : Mm} {n w : Nat} (hn4 : n ≤ 4) (hn : v 79 0 = nI n) (hw : v 79 12 = nI w) (hw8 : w ≤ 8) (hd : ∀ p, p < n → DotOk v 0 p) : MSt (ltV v) n w := ⟨hn4, by rw [ltV_away (by decide)]; exact hn, by rw [ltV_away (by decide)]; exact hw, hw8, fun p hp => ltV_dot (by omega) (hd p hp)⟩
