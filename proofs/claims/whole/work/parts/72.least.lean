/-! ways: both weigh the same -/
theorem itr_put {k : Nat} {v : Mm} {g : Nat → Mm → Int32} {h : Nat → Int32} (hg : ∀ i w, (∀ a j, a ≠ k → w a j = v a j) → g i w = h i) : ∀ n, ∀ a j, itr (fun i w => upd2 w k i (g i w)) n v a j = if a = k ∧ j < n then h j else v a j
  | 0, a, j => by rw [if_neg (fun q => Nat.not_lt_zero j q.2)]; rfl
  | n + 1, a, j => by
    have ih := itr_put hg n
    show upd2 (itr (fun i w => upd2 w k i (g i w)) n v) k n (g n (itr (fun i w => upd2 w k i (g i w)) n v)) a j = _
    rw [hg n _ (fun a j ha => by rw [ih, if_neg (fun q => ha q.1)])]
    by_cases c : a = k ∧ j = n
    · rw [c.1, c.2, u2_s, if_pos ⟨rfl, by omega⟩]
    · rw [u2_n c, ih]
      by_cases d : a = k ∧ j < n
      · rw [if_pos d, if_pos ⟨d.1, by omega⟩]
      · rw [if_neg d, if_neg (fun q => by
          rcases Nat.lt_or_ge j n with z | z
          · exact d ⟨q.1, z⟩
          · exact c ⟨q.1, by omega⟩)]
theorem itr_add {σ : Type} (f : Nat → σ → σ) (a : Nat) : ∀ (b : Nat) (s : σ), itr f (a + b) s = itr (fun i => f (a + i)) b (itr f a s)
  | 0, _ => rfl
  | b + 1, s => by
    show f (a + b) (itr f (a + b) s) = f (a + b) (itr (fun i => f (a + i)) b (itr f a s))
    rw [itr_add f a b s]
theorem itr_congr {σ : Type} {f g : Nat → σ → σ} : ∀ (n : Nat) (s : σ), (∀ i s, i < n → f i s = g i s) → itr f n s = itr g n s
  | 0, _, _ => rfl
  | n + 1, s, h => by
    show f n (itr f n s) = g n (itr g n s)
    rw [itr_congr n s (fun i s hi => h i s (by omega)), h n _ (by omega)]
theorem itr_mul {σ : Type} (f : Nat → Nat → σ → σ) (b : Nat) (hb : 0 < b) : ∀ (m : Nat) (s : σ), itr (fun k => f (k / b) (k % b)) (b * m) s = itr (fun d s => itr (fun e s => f d e s) b s) m s
  | 0, _ => rfl
  | m + 1, s => by
    rw [Nat.mul_succ, itr_add, itr_mul f b hb m s]
    show _ = itr (fun e s => f m e s) b (itr (fun d s => itr (fun e s => f d e s) b s) m s)
    apply itr_congr
    intro i s hi
    show f ((b * m + i) / b) ((b * m + i) % b) s = f m i s
    rw [Nat.mul_add_div hb, Nat.div_eq_of_lt hi, Nat.mul_add_mod, Nat.mod_eq_of_lt hi, Nat.add_zero]
theorem itr_rel {σ τ : Type} {f : Nat → σ → σ} {g : Nat → τ → τ} (P : σ → τ → Prop) : ∀ (n : Nat) (s : σ) (t : τ), P s t → (∀ i s t, i < n → P s t → P (f i s) (g i t)) → P (itr f n s) (itr g n t)
  | 0, _, _, h, _ => h
  | n + 1, s, t, h, hs => hs n _ _ (by omega) (itr_rel P n s t h (fun i s t hi => hs i s t (by omega)))
def nvN (d e : Nat) : Bool := !(ndF (nI d) (nI e) == -9)
def nN (d e : Nat) : Nat := (ndF (nI d) (nI e)).toNatClampNeg
theorem nv_ok {d e : Nat} (hd : d < 25) (he : e < 8) (h : nvN d e = true) : ¬ ndF (nI d) (nI e) = -9 ∧ nN d e < 25 ∧ ndF (nI d) (nI e) = nI (nN d e) := by
  have h1 : ¬ ndF (nI d) (nI e) = -9 := by
    intro z
    unfold nvN at h
    rw [z] at h
    exact absurd h (by decide)
  obtain ⟨q, hq, eq⟩ := nd_ok hd (of_d8 he) h1
  refine ⟨h1, ?_, ?_⟩
  · unfold nN; rw [eq, nI_clamp (by omega)]; exact hq
  · unfold nN; rw [eq, nI_clamp (by omega)]
theorem nv_no {d e : Nat} (h : ¬ nvN d e = true) : ndF (nI d) (nI e) = -9 := by
  unfold nvN at h
  simpa using h
theorem nv_nb {d e : Nat} (hd : d < 25) (he : e < 8) : nbF (nI d) (nI e) = ndF (nI d) (nI e) := (nd_nb hd (of_d8 he)).symm
abbrev Fl : Type := Nat → Nat
def ufN (F : Fl) (d x : Nat) : Fl := fun a => if a = d then x else F a
def rN (W : Fl) (d e : Nat) (F : Fl) : Fl := if nvN d e = true then (if F (nN d e) + W e < F d then ufN F d (F (nN d e) + W e) else F) else F
def clN (F : Fl) (d : Nat) : Nat := ctB (fun u => decide (F u < F d)) 25
theorem ctB_strict {p q : Nat → Bool} {i0 : Nat} : ∀ n, (∀ i, i < n → p i = true → q i = true) → i0 < n → q i0 = true → p i0 = false → ctB p n + 1 ≤ ctB q n
  | 0, _, h, _, _ => absurd h (Nat.not_lt_zero i0)
  | n + 1, h, hi, hq, hp => by
    show ctB p n + (if p n then 1 else 0) + 1 ≤ ctB q n + (if q n then 1 else 0)
    by_cases e : i0 = n
    · subst e
      have := ctB_mono (c := p) (d := q) i0 (fun i hi => h i (by omega))
      rw [hq, hp]
      simp
      exact this
    · have ih := ctB_strict n (fun i hi => h i (by omega)) (show i0 < n by omega) hq hp
      by_cases c : p n = true
      · rw [if_pos c, if_pos (h n (by omega) c)]; omega
      · rw [if_neg c]; omega
theorem cl_le {F : Fl} {d : Nat} (hd : d < 25) : clN F d ≤ 24 := by
  have h := ctB_strict (p := fun u => decide (F u < F d)) (q := fun _ => true) (i0 := d) 25 (fun _ _ _ => rfl) hd rfl (by simp)
  have h2 := ctB_le (fun _ => true) 25
  unfold clN
  omega
def Fin0 (F C : Fl) (d : Nat) : Prop := ∃ T S : Nat, F d = 1000 * T + S ∧ C d = 100 * T + S ∧ T ≤ 7 * S ∧ S ≤ clN F d
def Sim (F C : Fl) : Prop := ∀ d, d < 25 → (F d = 1000000 ∧ C d = 1000000) ∨ Fin0 F C d
theorem sim_up {F C : Fl} {d u t T S : Nat} (h : Sim F C) (hd : d < 25) (hu : u < 25) (ht : t ≤ 7) (e1 : F u = 1000 * T + S) (e2 : C u = 100 * T + S) (e3 : T ≤ 7 * S) (e4 : S ≤ clN F u) (hlt : F u + (1000 * t + 1) < F d) : Sim (ufN F d (F u + (1000 * t + 1))) (ufN C d (C u + (100 * t + 1))) := by
  have hud : u ≠ d := fun z => by subst z; omega
  intro x hx
  by_cases c : x = d
  · subst c
    refine Or.inr ⟨T + t, S + 1, ?_, ?_, by omega, ?_⟩
    · show (if x = x then _ else _) = _; rw [if_pos rfl, e1]; omega
    · show (if x = x then _ else _) = _; rw [if_pos rfl, e2]; omega
    · have key := ctB_strict (p := fun y => decide (F y < F u)) (q := fun y => decide (ufN F x (F u + (1000 * t + 1)) y < ufN F x (F u + (1000 * t + 1)) x)) (i0 := u) 25 (fun y hy hp => by
        have hp2 : F y < F u := of_decide_eq_true hp
        apply decide_eq_true
        show (if y = x then _ else F y) < (if x = x then _ else F x)
        rw [if_pos rfl]
        by_cases z : y = x
        · subst z; omega
        · rw [if_neg z]; omega) hu (by
        apply decide_eq_true
        show (if u = x then _ else F u) < (if x = x then _ else F x)
        rw [if_pos rfl, if_neg hud]
        omega) (by simp)
      unfold clN at e4 ⊢
      omega
  · have ex : ufN F d (F u + (1000 * t + 1)) x = F x := if_neg c
    have ex2 : ufN C d (C u + (100 * t + 1)) x = C x := if_neg c
    rcases h x hx with q | ⟨T', S', q1, q2, q3, q4⟩
    · exact Or.inl ⟨ex.trans q.1, ex2.trans q.2⟩
    · refine Or.inr ⟨T', S', ex.trans q1, ex2.trans q2, q3, Nat.le_trans q4 ?_⟩
      unfold clN
      apply ctB_mono
      intro y hy hp
      have hp2 : F y < F x := of_decide_eq_true hp
      apply decide_eq_true
      rw [ex]
      show (if y = d then _ else F y) < F x
      by_cases z : y = d
      · subst z; rw [if_pos rfl]; omega
      · rw [if_neg z]; exact hp2
theorem Sim.bd {F C : Fl} {d : Nat} (h : Sim F C) (hd : d < 25) : F d ≤ 1000000 ∧ (F d < 1000000 → F d ≤ 168024) := by
  rcases h d hd with q | ⟨T, S, q1, q2, q3, q4⟩
  · omega
  · have := cl_le (F := F) hd
    omega
theorem sim_r {F C t : Fl} {d e : Nat} (h : Sim F C) (hd : d < 25) (he : e < 8) (ht : t e ≤ 7) : Sim (rN (fun e => 1000 * t e + 1) d e F) (rN (fun e => 100 * t e + 1) d e C) := by
  unfold rN
  by_cases hv : nvN d e = true
  · rw [if_pos hv, if_pos hv]
    have hu := (nv_ok hd he hv).2.1
    have bd := h.bd hd
    rcases h (nN d e) hu with q | ⟨T, S, q1, q2, q3, q4⟩
    · rw [if_neg (by omega)]
      have hC : C d ≤ 1000000 := by
        rcases h d hd with z | ⟨T', S', z1, z2, z3, z4⟩
        · omega
        · have := cl_le (F := F) hd; omega
      rw [if_neg (by omega)]
      exact h
    · have hs := cl_le (F := F) hu
      by_cases c : F (nN d e) + (1000 * t e + 1) < F d
      · have c2 : C (nN d e) + (100 * t e + 1) < C d := by
          rcases h d hd with z | ⟨T', S', z1, z2, z3, z4⟩
          · omega
          · have := cl_le (F := F) hd; omega
        rw [if_pos c, if_pos c2]
        exact sim_up h hd hu ht q1 q2 q3 q4 c
      · have c2 : ¬ C (nN d e) + (100 * t e + 1) < C d := by
          rcases h d hd with z | ⟨T', S', z1, z2, z3, z4⟩
          · omega
          · have := cl_le (F := F) hd; omega
        rw [if_neg c, if_neg c2]
        exact h
  · rw [if_neg hv, if_neg hv]
    exact h
def rkN (W : Fl) (k : Nat) (F : Fl) : Fl := rN W (k / 8) (k % 8) F
theorem itr_s {σ : Type} (f : Nat → σ → σ) (n : Nat) (s : σ) : itr f (n + 1) s = f n (itr f n s) := rfl
def F0N (g : Nat) : Fl := fun d => if d = g then 0 else 1000000
/-- r rounds of N steps -/
def fnN (N : Nat) (W : Fl) (g r : Nat) : Fl := itr (fun _ F => itr (rkN W) N F) r (F0N g)
theorem fnN_s (N : Nat) (W : Fl) (g r : Nat) : fnN N W g (r + 1) = itr (rkN W) N (fnN N W g r) := by
  unfold fnN
  rw [itr_s]
theorem sim_k {F C t : Fl} (ht : ∀ e, e < 8 → t e ≤ 7) (h : Sim F C) : ∀ k, k ≤ 200 → Sim (itr (rkN (fun e => 1000 * t e + 1)) k F) (itr (rkN (fun e => 100 * t e + 1)) k C)
  | 0, _ => h
  | k + 1, hk => sim_r (sim_k ht h k (by omega)) (by omega) (by omega) (ht _ (by omega))
theorem sim_0 (g : Nat) : Sim (F0N g) (F0N g) := by
  intro d hd
  unfold F0N
  by_cases c : d = g
  · refine Or.inr ⟨0, 0, ?_, ?_, by omega, by omega⟩
    · show (if d = g then 0 else 1000000) = _; rw [if_pos c]
    · show (if d = g then 0 else 1000000) = _; rw [if_pos c]
  · left; exact ⟨if_neg c, if_neg c⟩
theorem sim_n {N : Nat} (hN : N ≤ 200) {t : Fl} (ht : ∀ e, e < 8 → t e ≤ 7) (g : Nat) : ∀ r, Sim (fnN N (fun e => 1000 * t e + 1) g r) (fnN N (fun e => 100 * t e + 1) g r)
  | 0 => sim_0 g
  | r + 1 => by
    rw [fnN_s, fnN_s]
    exact sim_k ht (sim_n hN ht g r) N hN
theorem rN_le {W F : Fl} {d e x : Nat} : rN W d e F x ≤ F x := by
  unfold rN
  split
  · split
    · rename_i h
      show (if x = d then _ else F x) ≤ F x
      by_cases c : x = d
      · subst c; rw [if_pos rfl]; omega
      · rw [if_neg c]; exact Nat.le_refl _
    · exact Nat.le_refl _
  · exact Nat.le_refl _
theorem rk_le {W F : Fl} {x a : Nat} : ∀ b, itr (rkN W) (a + b) F x ≤ itr (rkN W) a F x
  | 0 => Nat.le_refl _
  | b + 1 => Nat.le_trans (rN_le (d := (a + b) / 8) (e := (a + b) % 8)) (rk_le b)
def adN (a b : Nat) : Nat := (a - b) + (b - a)
def dsN2 (d g : Nat) : Nat := max (adN (d % 5) (g % 5)) (adN (d / 5) (g / 5))
theorem ds_step : ∀ g, g < 25 → ∀ d, d < 25 → (decide (d = g) || (List.range 8).any (fun e => nvN d e && decide (dsN2 (nN d e) g < dsN2 d g))) = true := by decide +kernel
theorem ds_le : ∀ g, g < 25 → ∀ d, d < 25 → dsN2 d g ≤ 4 := by decide +kernel
theorem fin_n {N : Nat} (hN : N = 200) {t : Fl} (ht : ∀ e, e < 8 → t e ≤ 7) {g : Nat} (hg : g < 25) : ∀ r d, d < 25 → dsN2 d g ≤ r → fnN N (fun e => 1000 * t e + 1) g r d < 1000000 := by
    intro r
    induction r with
    | zero =>
      intro d hd hr
      have h := ds_step g hg d hd
      rw [Bool.or_eq_true] at h
      rcases h with h | h
      · have h2 : d = g := of_decide_eq_true h
        show (if d = g then 0 else 1000000) < 1000000
        rw [if_pos h2]; decide
      · obtain ⟨e, h1, h2⟩ := List.any_eq_true.mp h
        rw [Bool.and_eq_true] at h2
        have h3 := of_decide_eq_true h2.2
        omega
    | succ r' ihr =>
      intro d hd hr
      have hs := sim_n (Nat.le_of_eq hN) ht g r'
      have hm : fnN N (fun e => 1000 * t e + 1) g (r' + 1) = itr (rkN (fun e => 1000 * t e + 1)) N (fnN N (fun e => 1000 * t e + 1) g r') := by rw [fnN_s]
      rw [hm]
      have h := ds_step g hg d hd
      rw [Bool.or_eq_true] at h
      rcases h with h | h
      · have h2 : d = g := of_decide_eq_true h
        subst h2
        have ih := ihr d hd (by unfold dsN2 adN; omega)
        have := rk_le (W := fun e => 1000 * t e + 1) (F := fnN N (fun e => 1000 * t e + 1) d r') (x := d) (a := 0) N
        rw [Nat.zero_add] at this
        exact Nat.lt_of_le_of_lt this ih
      · obtain ⟨e, h1, h2⟩ := List.any_eq_true.mp h
        rw [Bool.and_eq_true] at h2
        have h3 := of_decide_eq_true h2.2
        have he : e < 8 := List.mem_range.mp h1
        have hu := (nv_ok hd he h2.1).2.1
        have ih := ihr (nN d e) hu (by omega)
        have hk : 8 * d + e + 1 ≤ 200 := by omega
        have sk := sim_k ht hs (8 * d + e) (by omega)
        have l1 := rk_le (W := fun e => 1000 * t e + 1) (F := fnN N (fun e => 1000 * t e + 1) g r') (x := nN d e) (a := 0) (8 * d + e)
        rw [Nat.zero_add] at l1
        have l2 := rk_le (W := fun e => 1000 * t e + 1) (F := fnN N (fun e => 1000 * t e + 1) g r') (x := d) (a := 8 * d + e + 1) (N - (8 * d + e + 1))
        rw [show 8 * d + e + 1 + (N - (8 * d + e + 1)) = N by omega] at l2
        refine Nat.lt_of_le_of_lt l2 ?_
        generalize eG : itr (rkN (fun e => 1000 * t e + 1)) (8 * d + e) (fnN N (fun e => 1000 * t e + 1) g r') = G at *
        have e1 : itr (rkN (fun e => 1000 * t e + 1)) (8 * d + e + 1) (fnN N (fun e => 1000 * t e + 1) g r') = rN (fun e => 1000 * t e + 1) d e G := by
          show rkN _ (8 * d + e) (itr _ (8 * d + e) _) = _
          rw [eG]
          unfold rkN
          rw [show (8 * d + e) / 8 = d by omega, show (8 * d + e) % 8 = e by omega]
        rw [e1]
        have b1 := sk.bd hu
        have b2 := sk.bd hd
        have l1' : G (nN d e) ≤ fnN N (fun e => 1000 * t e + 1) g r' (nN d e) := l1
        have hte := ht e he
        unfold rN
        rw [if_pos h2.1]
        by_cases c : G (nN d e) + (1000 * t e + 1) < G d
        · rw [if_pos c]
          show (if d = d then G (nN d e) + (1000 * t e + 1) else _) < _
          rw [if_pos rfl]
          omega
        · rw [if_neg c]
          omega
theorem least_fin {N : Nat} (hN : N = 200) {t : Fl} (ht : ∀ e, e < 8 → t e ≤ 7) {g d : Nat} (hg : g < 25) (hd : d < 25) : ∃ T S : Nat, fnN N (fun e => 1000 * t e + 1) g 25 d = 1000 * T + S ∧ fnN N (fun e => 100 * t e + 1) g 25 d = 100 * T + S ∧ T ≤ 168 ∧ S ≤ 24 := by
  have h1 := fin_n hN ht hg 25 d hd (by have := ds_le g hg d hd; omega)
  rcases sim_n (Nat.le_of_eq hN) ht g 25 d hd with q | ⟨T, S, q1, q2, q3, q4⟩
  · omega
  · have := cl_le (F := fnN N (fun e => 1000 * t e + 1) g 25) hd
    exact ⟨T, S, q1, q2, by omega, by omega⟩
