/-! both worlds' sheets, by one row of forty-three numbers -/
abbrev Tn : Type := Nat → Int32
def cutT (T : Tn) : Tn := fun j => if j < 43 then T j else 0
def lvT (l : Nat) (v : Mm) : Tn := cutT (fun j => v 82 (43 * l + j))
def kpT (v : Mm) (s : Nat) : Tn := cutT (fun j => v 92 (43 * s + j))
def rwT (v : Mm) (i : Nat) : Tn := cutT (fun j => v 87 (43 * i + j))
theorem cut_at {T : Tn} {j : Nat} (h : j < 43) : cutT T j = T j := if_pos h
theorem cut_ext {T U : Tn} (h : ∀ j, j < 43 → T j = U j) : cutT T = cutT U := by
  funext j
  unfold cutT
  by_cases q : j < 43
  · rw [if_pos q, if_pos q, h j q]
  · rw [if_neg q, if_neg q]
theorem lvT_at {l : Nat} {v : Mm} {j : Nat} (h : j < 43) : lvT l v j = v 82 (43 * l + j) := if_pos h
def btT (T : Tn) (p : Nat) : Int32 := (T 16 >>> (nI p &&& 31)) &&& 1
def PR (v : Mm) (k : Nat) (K H T : Tn) (p : Nat) : Prop := v k 0 = T p ∧ v k 1 = K p ∧ v k 2 = T (4 + p) ∧ v k 3 = T (8 + p) ∧ v k 4 = T (12 + p) ∧ v k 5 = H p ∧ v k 6 = btT T p
def POk (K H T : Tn) (p : Nat) : Prop := (∃ d : Nat, d < 25 ∧ T p = nI d) ∧ (∃ k : Nat, k < 4 ∧ K p = nI k) ∧ sm (T (4 + p)) ∧ sm (T (8 + p)) ∧ ∃ l h : Nat, l ≤ h ∧ h < 46 ∧ T (12 + p) = nI l ∧ H p = nI h
def TOk (K H T : Tn) (n : Nat) : Prop := (∀ p, p < n → POk K H T p) ∧ (∃ D : Nat, D < 2 ^ n ∧ T 16 = nI D) ∧ ∀ j, j < 25 → ∃ x : Nat, x ≤ 99 ∧ T (18 + j) = nI x
def SR (v : Mm) (S : Nat) (K H T : Tn) (n : Nat) : Prop := v S 2 = nI n ∧ v S 3 = T 17 ∧ (∀ j, j < 25 → v (S + 2) j = T (18 + j)) ∧ ∀ p, p < n → PR v (S + 3 + p) K H T p
theorem bt_all : ∀ D, D < 16 → ∀ p, p < 4 → ((nI D >>> (nI p &&& 31)) &&& 1 = 0 ∨ (nI D >>> (nI p &&& 31)) &&& 1 = 1) := by decide +kernel
theorem pow4 {n : Nat} (h : n ≤ 4) : 2 ^ n ≤ 16 := Nat.pow_le_pow_right (by decide) h
theorem TOk.bt {K H T : Tn} {n p : Nat} (h : TOk K H T n) (hn : n ≤ 4) (hp : p < 4) : btT T p = 0 ∨ btT T p = 1 := by
  obtain ⟨D, hD, e⟩ := h.2.1
  unfold btT
  rw [e]
  exact bt_all D (Nat.lt_of_lt_of_le hD (pow4 hn)) p hp
theorem ac_all : ∀ k, k < 4 → ∀ i, i < 7 → ∀ j, j < 7 → ∀ e, e < 8 → (acF (nI k) (nI i - 3) (nI j - 3) (nI e) == thF (nI k) (nI i - 3) (nI j - 3) (nI e)) = true := by decide +kernel
theorem ac_th {k a b e : Int32} (hk : ∃ x : Nat, x < 4 ∧ k = nI x) (ha : sm a) (hb : sm b) (he : 0 ≤ e ∧ e < 8) : thF k a b e = acF k a b e := by
  obtain ⟨x, hx, rfl⟩ := hk
  obtain ⟨i, hi, rfl⟩ := ha
  obtain ⟨j, hj, rfl⟩ := hb
  obtain ⟨y, hy, rfl⟩ := d8_of he
  exact (by simpa using ac_all x hx i hi j hj y hy : acF (nI x) (nI i - 3) (nI j - 3) (nI y) = thF (nI x) (nI i - 3) (nI j - 3) (nI y)).symm
def lyT (K T : Tn) (p : Nat) (e : Int32) : Int32 := if btT T p = 1 then (if T (12 + p) ≤ thF (K p) (T (4 + p)) (T (8 + p)) e then T (12 + p) else thF (K p) (T (4 + p)) (T (8 + p)) e) else 0
def capT (x : Int32) : Int32 := if x ≤ 99 then x else 99
def stT (K T : Tn) (p : Nat) (e : Int32) : Tn := uf (uf (uf (uf T p (ndF (T p) e)) (12 + p) (T (12 + p) - lyT K T p e)) (18 + (ndF (T p) e).toNatClampNeg) (capT (T (18 + (ndF (T p) e).toNatClampNeg) + lyT K T p e))) 17 (T 17 + 1)
theorem stT_at {K T : Tn} {p q : Nat} {e : Int32} (hq : q < 25) (h : ndF (T p) e = nI q) (j : Nat) : stT K T p e j = if j = 17 then T 17 + 1 else if j = 18 + q then capT (T (18 + q) + lyT K T p e) else if j = 12 + p then T (12 + p) - lyT K T p e else if j = p then nI q else T j := by
  unfold stT
  rw [h, nI_clamp (by omega)]
  rfl
theorem stT_n {K T : Tn} {p q : Nat} {e : Int32} (hq : q < 25) (h : ndF (T p) e = nI q) {j : Nat} (h1 : j ≠ 17) (h2 : j ≠ 18 + q) (h3 : j ≠ 12 + p) (h4 : j ≠ p) : stT K T p e j = T j := by
  rw [stT_at hq h, if_neg h1, if_neg h2, if_neg h3, if_neg h4]
theorem stT_0 {K T : Tn} {p q : Nat} {e : Int32} (hp : p < 4) (hq : q < 25) (h : ndF (T p) e = nI q) : stT K T p e p = nI q := by
  rw [stT_at hq h, if_neg (by omega), if_neg (by omega), if_neg (by omega), if_pos rfl]
theorem stT_12 {K T : Tn} {p q : Nat} {e : Int32} (hp : p < 4) (hq : q < 25) (h : ndF (T p) e = nI q) : stT K T p e (12 + p) = T (12 + p) - lyT K T p e := by
  rw [stT_at hq h, if_neg (by omega), if_neg (by omega), if_pos rfl]
theorem stT_16 {K T : Tn} {p q : Nat} {e : Int32} (hp : p < 4) (hq : q < 25) (h : ndF (T p) e = nI q) : stT K T p e 16 = T 16 := stT_n hq h (by decide) (by omega) (by omega) (by omega)
theorem stT_bt {K T : Tn} {p q r : Nat} {e : Int32} (hp : p < 4) (hq : q < 25) (h : ndF (T p) e = nI q) : btT (stT K T p e) r = btT T r := by
  unfold btT
  rw [stT_16 hp hq h]
theorem msT {v : Mm} {l p q : Nat} {e : Int32} (hp : p < 4) (hq : q < 25) (h : ndF (v 82 (43 * l + p)) e = nI q) : lvT l (msV v l p e) = stT (v 80) (lvT l v) p e ∧ msL v l p e = lyT (v 80) (lvT l v) p e := by
  have hly : msL v l p e = lyT (v 80) (lvT l v) p e := by
    unfold msL lyT thM btT
    rw [lvT_at (by omega), lvT_at (by omega), lvT_at (by omega), lvT_at (by omega), ← Nat.add_assoc, ← Nat.add_assoc, ← Nat.add_assoc]
  refine ⟨?_, hly⟩
  have h' : ndF (lvT l v p) e = nI q := by rw [lvT_at (by omega)]; exact h
  funext j
  rw [stT_at hq h']
  by_cases hj : j < 43
  · rw [lvT_at hj, lvT_at (by omega), lvT_at (by omega), lvT_at (by omega), lvT_at hj, ← hly]
    unfold msV
    try dsimp only
    rw [h, nI_clamp (by omega)]
    by_cases c1 : j = 17
    · subst c1
      rw [if_pos rfl, u2_s, u2_n (fun z => by omega), u2_n (fun z => by omega), u2_n (fun z => by omega)]
    · rw [if_neg c1, u2_n (fun z => by omega)]
      by_cases c2 : j = 18 + q
      · subst c2
        rw [if_pos rfl, show 43 * l + (18 + q) = 43 * l + 18 + q by omega, u2_s, u2_n (fun z => by omega), u2_n (fun z => by omega)]
        rfl
      · rw [if_neg c2, u2_n (fun z => by omega)]
        by_cases c3 : j = 12 + p
        · subst c3
          rw [if_pos rfl, show 43 * l + (12 + p) = 43 * l + 12 + p by omega, u2_s, u2_n (fun z => by omega)]
        · rw [if_neg c3, u2_n (fun z => by omega)]
          by_cases c4 : j = p
          · subst c4
            rw [if_pos rfl, u2_s]
          · rw [if_neg c4, u2_n (fun z => by omega)]
  · rw [if_neg (by omega), if_neg (by omega), if_neg (by omega), if_neg (by omega)]
    unfold lvT cutT
    rw [if_neg hj, if_neg hj]
theorem mn_cap (y : Int32) : mnI 99 y = capT y := by
  unfold mnI capT
  by_cases h : y < 99
  · rw [if_pos h, if_pos (by rw [i32lt] at h; rw [i32le]; omega)]
  · rw [if_neg h]
    by_cases g : y ≤ 99
    · rw [if_pos g]
      apply Int32.toInt_inj.mp
      rw [i32lt] at h
      rw [i32le] at g
      omega
    · rw [if_neg g]
theorem ly_T {K H T : Tn} {n p : Nat} {e : Int32} (ho : TOk K H T n) (hn : n ≤ 4) (hp : p < n) (he : 0 ≤ e ∧ e < 8) : lyF (btT T p) (K p) (T (4 + p)) (T (8 + p)) e (T (12 + p)) = lyT K T p e := by
  obtain ⟨-, hk, ha, hb, -⟩ := ho.1 p hp
  unfold lyF lyT
  rw [ac_th hk ha hb he]
  rcases ho.bt hn (show p < 4 by omega) with z | z
  · rw [z, if_pos rfl, if_neg (by decide)]
  · rw [z, if_neg (by decide), if_pos rfl]
    unfold mnI
    by_cases h : T (12 + p) < acF (K p) (T (4 + p)) (T (8 + p)) e
    · rw [if_pos h, if_pos (by rw [i32lt] at h; rw [i32le]; omega)]
    · rw [if_neg h]
      by_cases g : T (12 + p) ≤ acF (K p) (T (4 + p)) (T (8 + p)) e
      · rw [if_pos g]
        apply Int32.toInt_inj.mp
        rw [i32lt] at h
        rw [i32le] at g
        omega
      · rw [if_neg g]
theorem ly_n {K H T : Tn} {n p : Nat} {e : Int32} (ho : TOk K H T n) (hn : n ≤ 4) (hp : p < n) (he : 0 ≤ e ∧ e < 8) : ∃ y l : Nat, y < 8 ∧ y ≤ l ∧ l < 46 ∧ T (12 + p) = nI l ∧ lyT K T p e = nI y := by
  obtain ⟨-, hk, ha, hb, l, h, h1, h2, h3, h4⟩ := ho.1 p hp
  obtain ⟨y, y1, y2, y3⟩ := ly_ok (down := btT T p) (kind := K p) (e := e) (l := l) ha hb (by omega)
  refine ⟨y, l, y1, y2, by omega, h3, ?_⟩
  rw [← ly_T ho hn hp he, h3]
  exact y3
theorem capT_n {a : Nat} (h : a < 1000) : capT (nI a) = nI (min 99 a) := by
  unfold capT
  by_cases g : a ≤ 99
  · rw [if_pos (show nI a ≤ 99 from nI_le (b := 99) g (by decide)), Nat.min_eq_right g]
  · rw [if_neg (show ¬ nI a ≤ 99 from nI_ge (a := 99) (by omega) (by omega)), Nat.min_eq_left (by omega)]
    rfl
theorem TOk.nd {K H T : Tn} {n p : Nat} {e : Int32} (ho : TOk K H T n) (hp : p < n) (he : 0 ≤ e ∧ e < 8) (h : ¬ ndF (T p) e = -9) : ∃ q : Nat, q < 25 ∧ ndF (T p) e = nI q := by
  obtain ⟨⟨d, hd, ed⟩, -⟩ := ho.1 p hp
  rw [ed] at h ⊢
  exact nd_ok hd he h
theorem TOk.st {K H T : Tn} {n p : Nat} {e : Int32} (ho : TOk K H T n) (hn : n ≤ 4) (hp : p < n) (he : 0 ≤ e ∧ e < 8) (h : ¬ ndF (T p) e = -9) : TOk K H (stT K T p e) n := by
  obtain ⟨q, hq, eq⟩ := ho.nd hp he h
  obtain ⟨y, l, y1, y2, y3, y4, y5⟩ := ly_n ho hn hp he
  refine ⟨fun r hr => ?_, ?_, fun j hj => ?_⟩
  · obtain ⟨a1, a2, a3, a4, l', h', b1, b2, b3, b4⟩ := ho.1 r hr
    refine ⟨?_, a2, ?_, ?_, ?_⟩
    · by_cases c : r = p
      · subst c; exact ⟨q, hq, stT_0 (by omega) hq eq⟩
      · rw [stT_n hq eq (by omega) (by omega) (by omega) c]; exact a1
    · rw [stT_n hq eq (by omega) (by omega) (by omega) (by omega)]; exact a3
    · rw [stT_n hq eq (by omega) (by omega) (by omega) (by omega)]; exact a4
    · by_cases c : r = p
      · subst c
        have e1 : l' = l := nIj (by omega) (by omega) (b3.symm.trans y4)
        subst e1
        refine ⟨l' - y, h', by omega, b2, ?_, b4⟩
        rw [stT_12 (by omega) hq eq, b3, y5, pk_sub y2]
      · exact ⟨l', h', b1, b2, by rw [stT_n hq eq (by omega) (by omega) (by omega) (by omega)]; exact b3, b4⟩
  · obtain ⟨D, hD, eD⟩ := ho.2.1
    exact ⟨D, hD, by rw [stT_16 (by omega) hq eq]; exact eD⟩
  · obtain ⟨x, hx, ex⟩ := ho.2.2 j hj
    rw [stT_at hq eq, if_neg (by omega)]
    by_cases c : j = q
    · subst c
      rw [if_pos rfl, ex, y5, nI_add, capT_n (by omega)]
      exact ⟨min 99 (x + y), by omega, rfl⟩
    · rw [if_neg (by omega), if_neg (by omega), if_neg (by omega)]
      exact ⟨x, hx, ex⟩
theorem SR.nb {v : Mm} {S n p : Nat} {K H T : Tn} {e : Int32} (h : SR v S K H T n) (ho : TOk K H T n) (hp : p < n) (he : 0 ≤ e ∧ e < 8) : nbF (v (S + 3 + p) 0) e = ndF (T p) e := by
  obtain ⟨⟨d, hd, ed⟩, -⟩ := ho.1 p hp
  rw [(h.2.2.2 p hp).1, ed, nd_nb hd he]
theorem SR.mvl {v : Mm} {S n p : Nat} {K H T : Tn} {e : Int32} (h : SR v S K H T n) (ho : TOk K H T n) (hn : n ≤ 4) (hp : p < n) (he : 0 ≤ e ∧ e < 8) : mvL v (S + 3 + p) e = lyT K T p e := by
  obtain ⟨a0, a1, a2, a3, a4, a5, a6⟩ := h.2.2.2 p hp
  unfold mvL
  rw [a1, a2, a3, a4, a6]
  exact ly_T ho hn hp he
theorem SR.mv {v : Mm} {S n p : Nat} {K H T : Tn} {e : Int32} (hS : Sh S) (h : SR v S K H T n) (ho : TOk K H T n) (hn : n ≤ 4) (hp : p < n) (he : 0 ≤ e ∧ e < 8) (hnd : ¬ ndF (T p) e = -9) : SR (mvV v S (S + 3 + p) e) S K H (stT K T p e) n := by
  obtain ⟨q, hq, eq⟩ := ho.nd hp he hnd
  have hb : nbF (v (S + 3 + p) 0) e = nI q := (h.nb ho hp he).trans eq
  have hl := h.mvl ho hn hp he
  have hat := fun a j => mvV_at (v := v) (S := S) (k := S + 3 + p) (by omega) (by omega) hq hb a j
  have hj := fun j => stT_at (K := K) (T := T) hq eq j
  obtain ⟨h2, h3, h4, h5⟩ := h
  refine ⟨?_, ?_, fun j hj25 => ?_, fun r hr => ?_⟩
  · rw [hat, if_neg (by omega), if_neg (by omega), if_neg (by omega), if_neg (by omega)]; exact h2
  · rw [hat, if_pos ⟨rfl, rfl⟩, hj, if_pos rfl, h3]
  · rw [hat, if_neg (by omega), if_neg (by omega), if_neg (by omega)]
    by_cases c : j = q
    · subst c
      rw [if_pos ⟨rfl, rfl⟩, hj, if_neg (by omega), if_pos rfl, mn_cap, hl, h4 j hj25]
    · rw [if_neg (by omega), hj, if_neg (by omega), if_neg (by omega), if_neg (by omega), if_neg (by omega)]
      exact h4 j hj25
  · obtain ⟨a0, a1, a2, a3, a4, a5, a6⟩ := h5 r hr
    by_cases c : r = p
    · subst c
      refine ⟨?_, ?_, ?_, ?_, ?_, ?_, ?_⟩
      · rw [hat, if_neg (by omega), if_pos ⟨rfl, rfl⟩, stT_0 (by omega) hq eq]
      · rw [hat, if_neg (by omega), if_neg (by omega), if_neg (by omega), if_neg (by omega)]; exact a1
      · rw [hat, if_neg (by omega), if_neg (by omega), if_neg (by omega), if_neg (by omega), stT_n hq eq (by omega) (by omega) (by omega) (by omega)]; exact a2
      · rw [hat, if_neg (by omega), if_neg (by omega), if_neg (by omega), if_neg (by omega), stT_n hq eq (by omega) (by omega) (by omega) (by omega)]; exact a3
      · rw [hat, if_neg (by omega), if_neg (by omega), if_pos ⟨rfl, rfl⟩, stT_12 (by omega) hq eq, hl, a4]
      · rw [hat, if_neg (by omega), if_neg (by omega), if_neg (by omega), if_neg (by omega)]; exact a5
      · rw [hat, if_neg (by omega), if_neg (by omega), if_neg (by omega), if_neg (by omega), stT_bt (by omega) hq eq]; exact a6
    · have hk : ∀ j, mvV v S (S + 3 + p) e (S + 3 + r) j = v (S + 3 + r) j := fun j => mvV_away (by omega) (by omega) (by omega)
      refine ⟨?_, ?_, ?_, ?_, ?_, ?_, ?_⟩
      · rw [hk, stT_n hq eq (by omega) (by omega) (by omega) c]; exact a0
      · rw [hk]; exact a1
      · rw [hk, stT_n hq eq (by omega) (by omega) (by omega) (by omega)]; exact a2
      · rw [hk, stT_n hq eq (by omega) (by omega) (by omega) (by omega)]; exact a3
      · rw [hk, stT_n hq eq (by omega) (by omega) (by omega) (by omega)]; exact a4
      · rw [hk]; exact a5
      · rw [hk, stT_bt (by omega) hq eq]; exact a6
/-! a word that is written -/
def wrT (K W : Tn) (p : Nat) : Nat → Nat → Tn → Nat × Tn
  | 0, i, T => (i, T)
  | m + 1, i, T => if ndF (T p) (W i) = -9 then (i, T) else wrT K W p m (i + 1) (stT K T p (W i))
def WOk (W : Tn) (w : Nat) : Prop := ∀ i, i < w → ∃ j : Nat, j < 8 ∧ W i = nI j
theorem WOk.d {W : Tn} {w i : Nat} (h : WOk W w) (hi : i < w) : 0 ≤ W i ∧ W i < 8 := by
  obtain ⟨j, hj, e⟩ := h i hi
  rw [e]
  exact of_d8 hj
theorem TOk.wr {K H W : Tn} {n p w : Nat} (hn : n ≤ 4) (hp : p < n) (hW : WOk W w) : ∀ {m i : Nat} {T : Tn}, i + m ≤ w → TOk K H T n → TOk K H (wrT K W p m i T).2 n := by
  intro m
  induction m with
  | zero => intro i T _ h; exact h
  | succ m ih =>
    intro i T hi h
    unfold wrT
    split
    · exact h
    · rename_i q; exact ih (by omega) (h.st hn hp (hW.d (by omega)) q)
theorem SR.fol {K H W : Tn} {S n p w : Nat} (hS : Sh S) (hn : n ≤ 4) (hp : p < n) (hW : WOk W w) : ∀ {m i : Nat} {v : Mm} {T : Tn}, i + m ≤ w → v 4 = W → SR v S K H T n → TOk K H T n → (folF S (S + 3 + p) m i v).1 = nI (wrT K W p m i T).1 ∧ SR (folF S (S + 3 + p) m i v).2 S K H (wrT K W p m i T).2 n := by
  intro m
  induction m with
  | zero => intro i v T _ _ h _; exact ⟨rfl, h⟩
  | succ m ih =>
    intro i v T hi h4 h ho
    have he := hW.d (show i < w by omega)
    have hb := h.nb ho hp he
    unfold folF wrT
    rw [h4]
    by_cases c : ndF (T p) (W i) = -9
    · rw [if_pos c, if_pos (hb.trans c)]; exact ⟨rfl, h⟩
    · rw [if_neg c, if_neg (by rw [hb]; exact c)]
      have h5 := sh_ge hS
      exact ih (by omega) (by funext j; rw [mvV_away (by omega) (by omega) (by omega), h4]) (h.mv hS ho hn hp he c) (ho.st hn hp he c)
theorem sk0 : ∀ i, i < 8 → ¬ ((0 : Int32) >>> (nI i &&& 31)) &&& 1 = 1 := by decide
theorem alg1 (s y t r : Int32) : s + y + (t - y - r) = s + (t - r) := by grind
theorem alg2 (s t : Int32) : s + (t - t) = s := by grind
theorem lvT_wr {l : Nat} {v : Mm} : lvT l (wrM v) = lvT l v := by
  apply cut_ext
  intro j _
  exact wrM_away (by omega)
theorem wo_T {K W : Tn} {l n p w : Nat} {H : Tn} (hn : n ≤ 4) (hp : p < n) (hw : w ≤ 8) (hW : WOk W w) : ∀ {m i : Nat} {s : Int32} {v : Mm}, i + m ≤ w → v 80 = K → v 86 = W → v 79 14 = nI i → TOk K H (lvT l v) n → lvT l (woF l p 0 m i s v).2 = (wrT K W p m i (lvT l v)).2 ∧ (woF l p 0 m i s v).2 79 14 = nI (wrT K W p m i (lvT l v)).1 ∧ (woF l p 0 m i s v).1 = s + (lvT l v (12 + p) - (wrT K W p m i (lvT l v)).2 (12 + p)) := by
  intro m
  induction m with
  | zero => intro i s v _ _ _ h14 _; exact ⟨rfl, h14, (alg2 _ _).symm⟩
  | succ m ih =>
    intro i s v hi hK hWv h14 ho
    have he := hW.d (show i < w by omega)
    unfold woF wrT
    rw [if_neg (sk0 i (by omega)), hWv, show v 82 (43 * l + p) = lvT l v p from (lvT_at (by omega)).symm]
    by_cases c : ndF (lvT l v p) (W i) = -9
    · rw [if_pos c, if_neg (fun z => z.2 c)]
      exact ⟨rfl, h14, (alg2 _ _).symm⟩
    · rw [if_neg c, if_pos ⟨⟨he.1, le7.mpr he.2⟩, c⟩]
      obtain ⟨q, hq, eq⟩ := ho.nd hp he c
      have eq' : ndF (v 82 (43 * l + p)) (W i) = nI q := by rw [← eq, lvT_at (by omega)]
      obtain ⟨t1, t2⟩ := msT (v := v) (by omega) hq eq'
      rw [hK] at t1 t2
      have g := ih (i := i + 1) (s := s + msL v l p (W i)) (v := wrM (msV v l p (W i))) (by omega) (by rw [← hK]; funext j; rw [wrM_away (by omega), msV_away (by decide)]) (by rw [← hWv]; funext j; rw [wrM_away (by omega), msV_away (by decide)]) (by unfold wrM; rw [u2_s, msV_away (by decide), h14]; exact nI_1 i) (by rw [lvT_wr, t1]; exact ho.st hn hp he c)
      rw [lvT_wr, t1, t2] at g
      rw [t2]
      refine ⟨g.1, g.2.1, ?_⟩
      rw [g.2.2, stT_12 (by omega) hq eq, alg1]
