/-! rings: gathered by dots, or gone through one by one -/
abbrev Pn : Type := Nat × Nat
def Zp : Pn := (0, 1000000)
def adP (x y : Pn) : Pn := (x.1 + y.1, min x.2 y.2)
def smP (f : Nat → Pn) : Nat → Pn
  | 0 => Zp
  | n + 1 => adP (smP f n) (f n)
theorem adP_as (x y z : Pn) : adP (adP x y) z = adP x (adP y z) := by
  unfold adP
  simp only [Nat.add_assoc, Nat.min_assoc]
theorem adP_sw (x y z : Pn) : adP (adP x y) z = adP (adP x z) y := by
  unfold adP
  dsimp only
  rw [Nat.add_right_comm, Nat.min_assoc, Nat.min_comm y.2 z.2, ← Nat.min_assoc]
theorem adP_Z {x : Pn} (h : x.2 ≤ 1000000) : adP x Zp = x := by
  unfold adP Zp
  dsimp only
  rw [Nat.add_zero, Nat.min_eq_left h]
theorem Z_adP {x : Pn} (h : x.2 ≤ 1000000) : adP Zp x = x := by
  unfold adP Zp
  dsimp only
  rw [Nat.zero_add, Nat.min_eq_right h]
theorem smP_le (f : Nat → Pn) : ∀ n, (smP f n).2 ≤ 1000000
  | 0 => Nat.le_refl _
  | n + 1 => Nat.le_trans (Nat.min_le_left _ _) (smP_le f n)
theorem smP_add (f : Nat → Pn) (a : Nat) : ∀ b, smP f (a + b) = adP (smP f a) (smP (fun i => f (a + i)) b)
  | 0 => (adP_Z (smP_le f a)).symm
  | b + 1 => by
    show adP (smP f (a + b)) (f (a + b)) = adP (smP f a) (adP (smP (fun i => f (a + i)) b) (f (a + b)))
    rw [smP_add f a b, adP_as]
theorem smP_mul (f : Nat → Pn) (b : Nat) : ∀ m, smP f (b * m) = smP (fun e => smP (fun i => f (b * e + i)) b) m
  | 0 => rfl
  | m + 1 => by
    rw [Nat.mul_succ, smP_add, smP_mul f b m]
    rfl
theorem smP_cong {f g : Nat → Pn} : ∀ n, (∀ i, i < n → f i = g i) → smP f n = smP g n
  | 0, _ => rfl
  | n + 1, h => by
    show adP (smP f n) (f n) = adP (smP g n) (g n)
    rw [smP_cong n (fun i hi => h i (by omega)), h n (by omega)]
theorem smP_up {f g : Nat → Pn} {x : Pn} {k : Nat} : ∀ n, k < n → (∀ i, i < n → i ≠ k → g i = f i) → g k = adP (f k) x → smP g n = adP (smP f n) x
  | 0, h, _, _ => absurd h (Nat.not_lt_zero k)
  | n + 1, hk, h, e => by
    show adP (smP g n) (g n) = adP (adP (smP f n) (f n)) x
    by_cases c : k = n
    · subst c
      rw [e, smP_cong k (fun i hi => h i (by omega) (by omega)), adP_as]
    · rw [smP_up n (by omega) (fun i hi => h i (by omega)) e, h n (by omega) (fun z => c z.symm), adP_sw]
def WPn (x : Pn) : Prop := (x.1 = 0 → x = Zp) ∧ x.2 ≤ 1000000
def sfP (t : Nat) (x : Pn) : Pn := if x.1 = 0 then Zp else (x.1, x.2 + t)
theorem sfP_ad {t s : Nat} {x : Pn} (h : WPn x) (hs : s + t ≤ 1000000) : sfP t (adP x (1, s)) = adP (sfP t x) (1, s + t) := by
  unfold sfP
  rw [if_neg (show ¬ (adP x (1, s)).1 = 0 by show ¬ x.1 + 1 = 0; omega)]
  by_cases c : x.1 = 0
  · rw [if_pos c, h.1 c]
    show ((0 + 1, min 1000000 s + t) : Pn) = (0 + 1, min 1000000 (s + t))
    rw [Nat.min_eq_right (by omega), Nat.min_eq_right hs]
  · rw [if_neg c]
    show ((x.1 + 1, min x.2 s + t) : Pn) = (x.1 + 1, min (x.2 + t) (s + t))
    rw [Nat.add_min_add_right]
/-- where a row of directions leads, and how thick it is -/
def wkW (t : Fl) : Nat → Nat → Nat → Nat → Option Pn
  | 0, dot, s, _ => some (dot, s)
  | m + 1, dot, s, l => if nvN dot (l % 8) = true then wkW t m (nN dot (l % 8)) (s + t (l % 8)) (l / 8) else none
def stW (t : Fl) (e : Nat) (o : Option Pn) : Option Pn := match o with
  | none => none
  | some q => if nvN q.1 e = true then some (nN q.1 e, q.2 + t e) else none
theorem wkW_top (t : Fl) : ∀ m dot s l e, e < 8 → l < 8 ^ m → wkW t (m + 1) dot s (8 ^ m * e + l) = stW t e (wkW t m dot s l)
  | 0, dot, s, l, e, he, hl => by
    have h0 : l = 0 := by simpa using hl
    subst h0
    show (if nvN dot ((1 * e + 0) % 8) = true then some (nN dot ((1 * e + 0) % 8), s + t ((1 * e + 0) % 8)) else none) = (if nvN dot e = true then some (nN dot e, s + t e) else none)
    rw [Nat.one_mul, Nat.add_zero, Nat.mod_eq_of_lt he]
  | m + 1, dot, s, l, e, he, hl => by
    have e1 : (8 ^ (m + 1) * e + l) % 8 = l % 8 := by
      rw [Nat.pow_succ, Nat.mul_comm (8 ^ m) 8, Nat.mul_assoc, Nat.mul_add_mod]
    have e2 : (8 ^ (m + 1) * e + l) / 8 = 8 ^ m * e + l / 8 := by
      rw [Nat.pow_succ, Nat.mul_comm (8 ^ m) 8, Nat.mul_assoc, Nat.mul_add_div (by decide)]
    have hl2 : l / 8 < 8 ^ m := by
      rw [Nat.div_lt_iff_lt_mul (by decide), ← Nat.pow_succ]
      exact hl
    show (if nvN dot ((8 ^ (m + 1) * e + l) % 8) = true then wkW t (m + 1) (nN dot ((8 ^ (m + 1) * e + l) % 8)) (s + t ((8 ^ (m + 1) * e + l) % 8)) ((8 ^ (m + 1) * e + l) / 8) else none) = stW t e (if nvN dot (l % 8) = true then wkW t m (nN dot (l % 8)) (s + t (l % 8)) (l / 8) else none)
    rw [e1, e2]
    by_cases c : nvN dot (l % 8) = true
    · rw [if_pos c, if_pos c, wkW_top t m _ _ _ e he hl2]
    · rw [if_neg c, if_neg c]; rfl
theorem wkW_ok {t : Fl} (ht : ∀ e, e < 8 → t e ≤ 7) : ∀ m dot s l q, dot < 25 → wkW t m dot s l = some q → q.1 < 25 ∧ q.2 ≤ s + 7 * m
  | 0, dot, s, l, q, hd, h => by
    cases h
    exact ⟨hd, Nat.le_refl _⟩
  | m + 1, dot, s, l, q, hd, h => by
    unfold wkW at h
    by_cases c : nvN dot (l % 8) = true
    · rw [if_pos c] at h
      have h8 : l % 8 < 8 := by omega
      have ih := wkW_ok ht m _ _ _ q (nv_ok hd h8 c).2.1 h
      have := ht _ h8
      omega
    · rw [if_neg c] at h; cases h
/-- what the l-th row gives to a dot -/
def ctW (d : Nat) (o : Option Pn) : Pn := match o with
  | none => Zp
  | some q => if q.1 = d then (1, q.2) else Zp
def fuW (t : Fl) (s0 c d : Nat) (L : Nat) : Pn := smP (fun l => ctW d (wkW t c s0 0 l)) L
theorem fuW_wp {t : Fl} (ht : ∀ e, e < 8 → t e ≤ 7) {s0 c d : Nat} (hs : s0 < 25) (hc : c ≤ 4) : ∀ L, WPn (fuW t s0 c d L) ∧ (fuW t s0 c d L).1 ≤ L
  | 0 => ⟨⟨fun _ => rfl, Nat.le_refl _⟩, Nat.le_refl _⟩
  | L + 1 => by
    obtain ⟨⟨h1, h2⟩, h3⟩ := fuW_wp ht (d := d) hs hc L
    have e : fuW t s0 c d (L + 1) = adP (fuW t s0 c d L) (ctW d (wkW t c s0 0 L)) := rfl
    rw [e]
    cases hw : wkW t c s0 0 L with
    | none => show WPn (adP _ Zp) ∧ (adP _ Zp).1 ≤ L + 1; rw [adP_Z h2]; exact ⟨⟨h1, h2⟩, by omega⟩
    | some q =>
      show WPn (adP _ (if q.1 = d then (1, q.2) else Zp)) ∧ (adP _ (if q.1 = d then (1, q.2) else Zp)).1 ≤ L + 1
      by_cases z : q.1 = d
      · rw [if_pos z]
        refine ⟨⟨fun y => ?_, ?_⟩, ?_⟩
        · exfalso
          have y2 : (fuW t s0 c d L).1 + 1 = 0 := y
          omega
        · exact Nat.le_trans (Nat.min_le_left _ _) h2
        · show (fuW t s0 c d L).1 + 1 ≤ L + 1
          omega
      · rw [if_neg z, adP_Z h2]; exact ⟨⟨h1, h2⟩, by omega⟩
/-- what comes of the dots, by one more direction -/
def gvW (t : Fl) (e d : Nat) (A : Nat → Pn) (x : Nat) : Pn := if nvN x e = true ∧ nN x e = d then sfP (t e) (A x) else Zp
theorem exch {t : Fl} (ht : ∀ e, e < 8 → t e ≤ 7) {s0 c d e : Nat} (hs : s0 < 25) (hc : c ≤ 4) (he : e < 8) : ∀ L, smP (fun l => ctW d (stW t e (wkW t c s0 0 l))) L = smP (gvW t e d (fun x => fuW t s0 c x L)) 25
  | 0 => by
    have z : ∀ n, smP (gvW t e d (fun x => fuW t s0 c x 0)) n = Zp := by
      intro n
      induction n with
      | zero => rfl
      | succ n ih =>
        show adP (smP _ n) (gvW t e d _ n) = Zp
        rw [ih]
        unfold gvW
        have : fuW t s0 c n 0 = Zp := rfl
        dsimp only
        rw [this, show sfP (t e) Zp = Zp from rfl]
        split <;> rfl
    exact (z 25).symm
  | L + 1 => by
    have ih := exch ht (d := d) hs hc he L
    show adP (smP (fun l => ctW d (stW t e (wkW t c s0 0 l))) L) (ctW d (stW t e (wkW t c s0 0 L))) = _
    rw [ih]
    have eL : ∀ x, fuW t s0 c x (L + 1) = adP (fuW t s0 c x L) (ctW x (wkW t c s0 0 L)) := fun _ => rfl
    have hle := smP_le (gvW t e d (fun x => fuW t s0 c x L)) 25
    cases hw : wkW t c s0 0 L with
    | none =>
      rw [show ctW d (stW t e none) = Zp from rfl, adP_Z hle]
      apply smP_cong
      intro x _
      unfold gvW
      dsimp only
      rw [eL, hw, show ctW x none = Zp from rfl, adP_Z (fuW_wp ht hs hc L).1.2]
    | some q =>
      obtain ⟨q1, q2⟩ := wkW_ok ht c s0 0 L q hs hw
      have h7 := ht e he
      have hoth : ∀ x, x ≠ q.1 → fuW t s0 c x (L + 1) = fuW t s0 c x L := fun x hx => by
        rw [eL, hw]
        show adP _ (if q.1 = x then _ else Zp) = _
        rw [if_neg (fun z => hx z.symm), adP_Z (fuW_wp ht hs hc L).1.2]
      have hq : fuW t s0 c q.1 (L + 1) = adP (fuW t s0 c q.1 L) (1, q.2) := by
        rw [eL, hw]
        show adP _ (if q.1 = q.1 then _ else Zp) = _
        rw [if_pos rfl]
      by_cases g : nvN q.1 e = true ∧ nN q.1 e = d
      · have e1 : ctW d (stW t e (some q)) = (1, q.2 + t e) := by
          show ctW d (if nvN q.1 e = true then some (nN q.1 e, q.2 + t e) else none) = _
          rw [if_pos g.1]
          show (if nN q.1 e = d then _ else Zp) = _
          rw [if_pos g.2]
        rw [e1]
        refine (smP_up (k := q.1) 25 q1 (fun x _ hx => ?_) ?_).symm
        · unfold gvW
          dsimp only
          rw [hoth x hx]
        · unfold gvW
          dsimp only
          rw [if_pos g, if_pos g, hq, sfP_ad (fuW_wp ht hs hc L).1 (by omega)]
      · have e1 : ctW d (stW t e (some q)) = Zp := by
          show ctW d (if nvN q.1 e = true then some (nN q.1 e, q.2 + t e) else none) = _
          by_cases z : nvN q.1 e = true
          · rw [if_pos z]
            show (if nN q.1 e = d then _ else Zp) = _
            rw [if_neg (fun y => g ⟨z, y⟩)]
          · rw [if_neg z]; rfl
        rw [e1, adP_Z hle]
        apply smP_cong
        intro x _
        by_cases hx : x = q.1
        · subst hx
          unfold gvW
          rw [if_neg g, if_neg g]
        · unfold gvW
          dsimp only
          rw [hoth x hx]
/-- one more step, gathered -/
def g1W (t : Fl) (A : Nat → Pn) (e x : Nat) (B : Nat → Pn) : Nat → Pn := if nvN x e = true ∧ 0 < (A x).1 then (fun d => if d = nN x e then ((B d).1 + (A x).1, min (B d).2 ((A x).2 + t e)) else B d) else B
def g2W (t : Fl) (A : Nat → Pn) : Nat → Pn := itr (fun e B => itr (fun x B => g1W t A e x B) 25 B) 8 (fun _ => Zp)
theorem g1W_at {t : Fl} {A B : Nat → Pn} {e x d : Nat} (hB : (B d).2 ≤ 1000000) : g1W t A e x B d = adP (B d) (gvW t e d A x) := by
  unfold g1W gvW
  by_cases c : nvN x e = true
  · by_cases z : 0 < (A x).1
    · rw [if_pos ⟨c, z⟩]
      by_cases y : nN x e = d
      · rw [if_pos y.symm, if_pos ⟨c, y⟩]
        unfold sfP
        rw [if_neg (by omega)]
        rfl
      · rw [if_neg (fun q => y q.symm), if_neg (fun q => y q.2), adP_Z hB]
    · rw [if_neg (fun q => z q.2)]
      have e0 : sfP (t e) (A x) = Zp := if_pos (by omega)
      rw [e0]
      split
      · exact (adP_Z hB).symm
      · exact (adP_Z hB).symm
  · rw [if_neg (fun q => c q.1), if_neg (fun q => c q.1), adP_Z hB]
theorem g1W_in {t : Fl} {A B : Nat → Pn} {e d : Nat} (hB : (B d).2 ≤ 1000000) : ∀ m, itr (fun x B => g1W t A e x B) m B d = adP (B d) (smP (gvW t e d A) m)
  | 0 => (adP_Z hB).symm
  | m + 1 => by
    have ih := g1W_in (t := t) (A := A) (e := e) hB m
    rw [itr_s, g1W_at (by rw [ih]; exact Nat.le_trans (Nat.min_le_left _ _) hB), ih, adP_as]
    rfl
theorem g2W_at {t : Fl} {A : Nat → Pn} {d : Nat} : ∀ m, itr (fun e B => itr (fun x B => g1W t A e x B) 25 B) m (fun _ => Zp) d = smP (fun e => smP (gvW t e d A) 25) m
  | 0 => rfl
  | m + 1 => by
    have ih := g2W_at (t := t) (A := A) (d := d) m
    have h2 : (itr (fun e B => itr (fun x B => g1W t A e x B) 25 B) m (fun _ => Zp) d).2 ≤ 1000000 := by rw [ih]; exact smP_le _ _
    rw [itr_s, g1W_in h2, ih]
    rfl
def A0W (s0 d : Nat) : Pn := if d = s0 then (1, 0) else Zp
theorem rings_eq {t : Fl} (ht : ∀ e, e < 8 → t e ≤ 7) {s0 : Nat} (hs : s0 < 25) : ∀ c, c ≤ 4 → ∀ d, itr (fun _ A => g2W t A) c (A0W s0) d = fuW t s0 c d (8 ^ c)
  | 0, _, d => by
    show (if d = s0 then (1, 0) else Zp) = adP Zp (if s0 = d then (1, 0) else Zp)
    by_cases z : d = s0
    · rw [if_pos z, if_pos z.symm]; rfl
    · rw [if_neg z, if_neg (fun y => z y.symm)]; rfl
  | c + 1, hc, d => by
    have ih := rings_eq ht hs c (by omega)
    rw [itr_s]
    have eA : itr (fun _ A => g2W t A) c (A0W s0) = fun x => fuW t s0 c x (8 ^ c) := funext ih
    rw [eA]
    show g2W t (fun x => fuW t s0 c x (8 ^ c)) d = _
    unfold g2W
    rw [g2W_at 8]
    unfold fuW
    rw [Nat.pow_succ, smP_mul]
    apply smP_cong
    intro e he
    rw [show (fun x => smP (fun l => ctW x (wkW t c s0 0 l)) (8 ^ c)) = fun x => fuW t s0 c x (8 ^ c) from rfl, ← exch ht hs (by omega) he (8 ^ c)]
    apply smP_cong
    intro l hl
    rw [wkW_top t c s0 0 l e he hl]
