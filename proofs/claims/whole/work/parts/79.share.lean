/-! whoever writes first, the same comes of it -/
def wrA (K W : Tn) (w p : Nat) (T : Tn) : Tn := (wrT K W p w 0 T).2
theorem lyT_oth {K T : Tn} {a b q : Nat} {e e' : Int32} (ha : a < 4) (hb : b < 4) (hab : a ≠ b) (hq : q < 25) (h : ndF (T a) e = nI q) : lyT K (stT K T a e) b e' = lyT K T b e' := by
  unfold lyT
  rw [stT_bt ha hq h, stT_n hq h (by omega) (by omega) (by omega) (by omega), stT_n hq h (by omega) (by omega) (by omega) (by omega), stT_n hq h (by omega) (by omega) (by omega) (by omega)]
theorem stT_oth {K T : Tn} {a b q : Nat} {e : Int32} (ha : a < 4) (hb : b < 4) (hab : a ≠ b) (hq : q < 25) (h : ndF (T a) e = nI q) : stT K T a e b = T b := stT_n hq h (by omega) (by omega) (by omega) (fun z => hab z.symm)
theorem cap2 {x y z : Nat} (hx : x ≤ 99) (hy : y < 8) (hz : z < 8) : capT (capT (nI x + nI y) + nI z) = nI (min 99 (x + y + z)) := by
  rw [nI_add, capT_n (by omega), nI_add, capT_n (by omega)]
  congr 1
  omega
theorem stT_comm {K H T : Tn} {n a b : Nat} {e e' : Int32} (ho : TOk K H T n) (hn : n ≤ 4) (ha : a < n) (hb : b < n) (hab : a ≠ b) (he : 0 ≤ e ∧ e < 8) (he' : 0 ≤ e' ∧ e' < 8) (h : ¬ ndF (T a) e = -9) (h' : ¬ ndF (T b) e' = -9) : stT K (stT K T a e) b e' = stT K (stT K T b e') a e := by
  obtain ⟨q, hq, eq⟩ := ho.nd ha he h
  obtain ⟨q', hq', eq'⟩ := ho.nd hb he' h'
  obtain ⟨y, l, y1, y2, y3, y4, y5⟩ := ly_n ho hn ha he
  obtain ⟨y', l', y1', y2', y3', y4', y5'⟩ := ly_n ho hn hb he'
  have oa := stT_oth (K := K) (b := b) (show a < 4 by omega) (show b < 4 by omega) hab hq eq
  have ob := stT_oth (K := K) (b := a) (show b < 4 by omega) (show a < 4 by omega) (Ne.symm hab) hq' eq'
  have la := lyT_oth (K := K) (e' := e') (show a < 4 by omega) (show b < 4 by omega) hab hq eq
  have lb := lyT_oth (K := K) (e' := e) (show b < 4 by omega) (show a < 4 by omega) (Ne.symm hab) hq' eq'
  have eqA : ndF (stT K T a e b) e' = nI q' := by rw [oa]; exact eq'
  have eqB : ndF (stT K T b e' a) e = nI q := by rw [ob]; exact eq
  funext j
  rw [stT_at hq' eqA, stT_at hq eqB, la, lb, y5, y5']
  by_cases c17 : j = 17
  · subst c17
    rw [if_pos rfl, if_pos rfl, stT_at hq eq, if_pos rfl, stT_at hq' eq', if_pos rfl]
  · rw [if_neg c17, if_neg c17]
    by_cases c1 : j = 18 + q'
    · rw [if_pos c1]
      subst c1
      by_cases c2 : q' = q
      · subst c2
        obtain ⟨x, hx, ex⟩ := ho.2.2 q' hq'
        rw [if_pos rfl, stT_at hq eq, if_neg (by omega), if_pos rfl, stT_at hq' eq', if_neg (by omega), if_pos rfl, y5, y5', ex, cap2 hx y1 y1', cap2 hx y1' y1]
        congr 1
        omega
      · rw [if_neg (show ¬ 18 + q' = 18 + q by omega), if_neg (show ¬ 18 + q' = 12 + a by omega), if_neg (show ¬ 18 + q' = a by omega), stT_at hq' eq' (18 + q'), if_neg (show ¬ 18 + q' = 17 by omega), if_pos rfl, stT_n hq eq (by omega) (by omega) (by omega) (by omega), y5']
    · rw [if_neg c1]
      by_cases c2 : j = 18 + q
      · subst c2
        rw [if_neg (show ¬ 18 + q = 12 + b by omega), if_neg (show ¬ 18 + q = b by omega), if_pos rfl, stT_at hq eq (18 + q), if_neg (show ¬ 18 + q = 17 by omega), if_pos rfl, stT_n hq' eq' (by omega) (by omega) (by omega) (by omega), y5]
      · rw [if_neg c2]
        by_cases c3 : j = 12 + b
        · subst c3
          rw [if_pos rfl, if_neg (show ¬ 12 + b = 12 + a by omega), if_neg (show ¬ 12 + b = a by omega), stT_12 (by omega) hq' eq', stT_n hq eq (by omega) (by omega) (by omega) (by omega), y5']
        · rw [if_neg c3]
          by_cases c4 : j = 12 + a
          · subst c4
            rw [if_neg (show ¬ 12 + a = b by omega), if_pos rfl, stT_12 (by omega) hq eq, stT_n hq' eq' (by omega) (by omega) (by omega) (by omega), y5]
          · rw [if_neg c4]
            by_cases c5 : j = b
            · subst c5
              rw [if_pos rfl, if_neg (fun z => hab z.symm), stT_0 (by omega) hq' eq']
            · rw [if_neg c5]
              by_cases c6 : j = a
              · subst c6
                rw [if_pos rfl, stT_0 (by omega) hq eq]
              · rw [if_neg c6, stT_n hq eq c17 c2 c4 c6, stT_n hq' eq' c17 c1 c3 c5]
theorem wrT_oth {K H W : Tn} {n a b w : Nat} (hn : n ≤ 4) (ha : a < n) (hb : b < n) (hab : a ≠ b) (hW : WOk W w) : ∀ {m i : Nat} {T : Tn}, i + m ≤ w → TOk K H T n → (wrT K W b m i T).2 a = T a := by
  intro m
  induction m with
  | zero => intro i T _ _; rfl
  | succ m ih =>
    intro i T hi ho
    unfold wrT
    split
    · rfl
    · rename_i q
      obtain ⟨x, hx, ex⟩ := ho.nd hb (hW.d (show i < w by omega)) q
      rw [ih (by omega) (ho.st hn hb (hW.d (by omega)) q), stT_oth (by omega) (by omega) (Ne.symm hab) hx ex]
theorem wr_st {K H W : Tn} {n a b w : Nat} {e : Int32} (hn : n ≤ 4) (ha : a < n) (hb : b < n) (hab : a ≠ b) (hW : WOk W w) (he : 0 ≤ e ∧ e < 8) : ∀ {m i : Nat} {T : Tn}, i + m ≤ w → TOk K H T n → ¬ ndF (T a) e = -9 → (wrT K W b m i (stT K T a e)).2 = stT K (wrT K W b m i T).2 a e := by
  intro m
  induction m with
  | zero => intro i T _ _ _; rfl
  | succ m ih =>
    intro i T hi ho h
    obtain ⟨q, hq, eq⟩ := ho.nd ha he h
    have he' := hW.d (show i < w by omega)
    have oa := stT_oth (K := K) (b := b) (show a < 4 by omega) (show b < 4 by omega) hab hq eq
    unfold wrT
    rw [oa]
    by_cases c : ndF (T b) (W i) = -9
    · rw [if_pos c, if_pos c]
    · rw [if_neg c, if_neg c, stT_comm ho hn ha hb hab he he' h c]
      obtain ⟨x, hx, ex⟩ := ho.nd hb he' c
      exact ih (by omega) (ho.st hn hb he' c) (by rw [stT_oth (by omega) (by omega) (Ne.symm hab) hx ex]; exact h)
theorem wr_comm {K H W : Tn} {n a b w : Nat} (hn : n ≤ 4) (ha : a < n) (hb : b < n) (hab : a ≠ b) (hW : WOk W w) : ∀ {m i : Nat} {T : Tn}, i + m ≤ w → TOk K H T n → (wrT K W a m i (wrA K W w b T)).2 = wrA K W w b (wrT K W a m i T).2 := by
  intro m
  induction m with
  | zero => intro i T _ _; rfl
  | succ m ih =>
    intro i T hi ho
    have he := hW.d (show i < w by omega)
    have e1 : wrA K W w b T a = T a := wrT_oth hn ha hb hab hW (by omega) ho
    unfold wrT
    rw [e1]
    by_cases c : ndF (T a) (W i) = -9
    · rw [if_pos c, if_pos c]
    · rw [if_neg c, if_neg c]
      have e2 : stT K (wrA K W w b T) a (W i) = wrA K W w b (stT K T a (W i)) := (wr_st hn ha hb hab hW he (by omega) ho c).symm
      rw [e2]
      exact ih (by omega) (ho.st hn ha he c)
theorem wrA_comm {K H W : Tn} {n a b w : Nat} {T : Tn} (hn : n ≤ 4) (ha : a < n) (hb : b < n) (hab : a ≠ b) (hW : WOk W w) (ho : TOk K H T n) : wrA K W w a (wrA K W w b T) = wrA K W w b (wrA K W w a T) := wr_comm hn ha hb hab hW (by omega) ho
theorem TOk.wA {K H W T : Tn} {n p w : Nat} (h : TOk K H T n) (hn : n ≤ 4) (hp : p < n) (hW : WOk W w) : TOk K H (wrA K W w p T) n := TOk.wr hn hp hW (by omega) h
/-! what is black stays black -/
theorem st_bk {K H T : Tn} {n p : Nat} {e : Int32} (ho : TOk K H T n) (hn : n ≤ 4) (hp : p < n) (he : 0 ≤ e ∧ e < 8) (h : ¬ ndF (T p) e = -9) : ctT T ≤ ctT (stT K T p e) := by
  obtain ⟨q, hq, eq⟩ := ho.nd hp he h
  obtain ⟨y, l, y1, y2, y3, y4, y5⟩ := ly_n ho hn hp he
  unfold ctT
  apply ctB_mono
  intro i hi hb
  unfold blkB at hb ⊢
  have hb2 := of_decide_eq_true hb
  apply decide_eq_true
  rw [stT_at hq eq, if_neg (by omega)]
  by_cases c : i = q
  · subst c
    obtain ⟨x, hx, ex⟩ := ho.2.2 i hi
    rw [if_pos rfl, y5]
    rw [ex] at hb2 ⊢
    rw [nI_add, capT_n (by omega)]
    have h3 : nI 3 ≤ nI x := hb2
    rw [nI_leI (by decide) (by omega)] at h3
    exact nI_le (a := 3) (by omega) (by omega)
  · rw [if_neg (by omega), if_neg (by omega), if_neg (by omega)]
    exact hb2
theorem wr_bk {K H W : Tn} {n p w : Nat} (hn : n ≤ 4) (hp : p < n) (hW : WOk W w) : ∀ {m i : Nat} {T : Tn}, i + m ≤ w → TOk K H T n → ctT T ≤ ctT (wrT K W p m i T).2 := by
  intro m
  induction m with
  | zero => intro i T _ _; exact Nat.le_refl _
  | succ m ih =>
    intro i T hi ho
    unfold wrT
    split
    · exact Nat.le_refl _
    · rename_i q
      exact Nat.le_trans (st_bk ho hn hp (hW.d (by omega)) q) (ih (by omega) (ho.st hn hp (hW.d (by omega)) q))
/-! some of the pens write -/
def bbT (K W : Tn) (s : Int32) (w : Nat) (m : Nat) (T : Tn) : Tn := itr (fun i T => if (s >>> (nI i &&& 31)) &&& 1 = 1 then wrA K W w i T else T) m T
theorem bbT_s (K W : Tn) (s : Int32) (w m : Nat) (T : Tn) : bbT K W s w (m + 1) T = if (s >>> (nI m &&& 31)) &&& 1 = 1 then wrA K W w m (bbT K W s w m T) else bbT K W s w m T := rfl
theorem bbT_0 (K W : Tn) (s : Int32) (w : Nat) (T : Tn) : bbT K W s w 0 T = T := rfl
theorem TOk.bb {K H W T : Tn} {n w : Nat} {s : Int32} (h : TOk K H T n) (hn : n ≤ 4) (hW : WOk W w) : ∀ m, m ≤ n → TOk K H (bbT K W s w m T) n
  | 0, _ => h
  | m + 1, hm => by
    rw [bbT_s]
    split
    · exact (h.bb hn hW m (by omega)).wA hn (by omega) hW
    · exact h.bb hn hW m (by omega)
theorem SR.fl {v : Mm} {n p w : Nat} {K H W T : Tn} (h : SR v 12 K H T n) (ho : TOk K H T n) (hc : CW n w W) (hp : p < n) (h4 : v 4 = W) : SR (fl1 v p w) 12 K H (wrA K W w p T) n := (SR.fol (S := 12) s12 hc.1 hp hc.2.2 (m := w) (i := 0) (by omega) h4 h ho).2
theorem SR.bb {v : Mm} {n w : Nat} {s : Int32} {K H W T : Tn} (h : SR v 12 K H T n) (ho : TOk K H T n) (hc : CW n w W) (h4 : v 4 = W) : ∀ m, m ≤ n → SR (bbM s w m v) 12 K H (bbT K W s w m T) n ∧ bbM s w m v 4 = W
  | 0, _ => ⟨h, h4⟩
  | m + 1, hm => by
    obtain ⟨i1, i2⟩ := h.bb (s := s) ho hc h4 m (by omega)
    have hn := hc.1
    rw [bbT_s]
    show SR (if (s >>> (nI m &&& 31)) &&& 1 = 1 then fl1 (bbM s w m v) m w else bbM s w m v) 12 K H _ n ∧ (if (s >>> (nI m &&& 31)) &&& 1 = 1 then fl1 (bbM s w m v) m w else bbM s w m v) 4 = W
    by_cases c : (s >>> (nI m &&& 31)) &&& 1 = 1
    · rw [if_pos c, if_pos c]
      exact ⟨i1.fl (ho.bb hn hc.2.2 m (by omega)) hc (by omega) i2, by rw [← i2]; funext j; exact fl1_away (by omega) (by omega)⟩
    · rw [if_neg c, if_neg c]; exact ⟨i1, i2⟩
theorem by_T {u : Mm} {n w : Nat} {s : Int32} {K H W : Tn} (hc : CW n w W) (hK : u 80 = K) (hWu : u 86 = W) (ho : TOk K H (lvT 1 u) n) : ∀ m, m ≤ n → lvT 1 (itr (fun p u => if (s >>> (nI p &&& 31)) &&& 1 = 1 then (woA u p w).2 else u) m u) = bbT K W s w m (lvT 1 u) ∧ itr (fun p u => if (s >>> (nI p &&& 31)) &&& 1 = 1 then (woA u p w).2 else u) m u 80 = K ∧ itr (fun p u => if (s >>> (nI p &&& 31)) &&& 1 = 1 then (woA u p w).2 else u) m u 86 = W
  | 0, _ => ⟨rfl, hK, hWu⟩
  | m + 1, hm => by
    obtain ⟨i1, i2, i3⟩ := by_T (s := s) hc hK hWu ho m (by omega)
    have hn := hc.1
    rw [itr_s, bbT_s]
    generalize itr (fun p u => if (s >>> (nI p &&& 31)) &&& 1 = 1 then (woA u p w).2 else u) m u = x at *
    by_cases c : (s >>> (nI m &&& 31)) &&& 1 = 1
    · rw [if_pos c, if_pos c]
      have g := wo_T (K := K) (W := W) (H := H) (l := 1) hn (show m < n by omega) hc.2.1 hc.2.2 (m := w) (i := 0) (s := 0) (v := wo0 x) (by omega) (by rw [← i2]; funext j; exact u2_n (by omega)) (by rw [← i3]; funext j; exact u2_n (by omega)) (u2_s) (by rw [wo0_T, i1]; exact ho.bb hn hc.2.2 m (by omega))
      rw [wo0_T] at g
      have em : woA x m w = woF 1 m 0 w 0 0 (wo0 x) := by unfold woA; rw [Nat.min_eq_right hc.2.1]
      rw [em, g.1, i1]
      refine ⟨rfl, ?_, ?_⟩
      · rw [← i2]; funext j; rw [wo_away (by decide) (by omega)]; exact u2_n (by omega)
      · rw [← i3]; funext j; rw [wo_away (by decide) (by omega)]; exact u2_n (by omega)
    · rw [if_neg c, if_neg c]; exact ⟨i1, i2, i3⟩
theorem or_bit : ∀ i, i < 16 → ∀ p, p < 4 → ∀ r, r < 4 → ((((nI i ||| bit1 p) >>> (nI r &&& 31)) &&& 1 = 1) ↔ (r = p ∨ (nI i >>> (nI r &&& 31)) &&& 1 = 1)) := by decide +kernel
theorem bb_or0 {K H W T : Tn} {n w p : Nat} {x y : Int32} (ho : TOk K H T n) (hc : CW n w W) (hp : p < n) (hxy : ∀ r, r < 4 → ((x >>> (nI r &&& 31)) &&& 1 = 1 ↔ (r = p ∨ (y >>> (nI r &&& 31)) &&& 1 = 1))) (hb : ¬ (y >>> (nI p &&& 31)) &&& 1 = 1) : ∀ m, m ≤ n → (p < m → bbT K W x w m T = wrA K W w p (bbT K W y w m T)) ∧ (¬ p < m → bbT K W x w m T = bbT K W y w m T) := by
  intro m
  induction m with
  | zero => intro _; exact ⟨fun q => absurd q (Nat.not_lt_zero p), fun _ => (bbT_0 K W x w T).trans (bbT_0 K W y w T).symm⟩
  | succ m ih0 =>
    intro hm
    have hn := hc.1
    obtain ⟨ih1, ih2⟩ := ih0 (by omega)
    have ob := hxy m (by omega)
    have hk := ho.bb (s := y) hn hc.2.2 m (by omega)
    rw [bbT_s, bbT_s]
    by_cases c : m = p
    · have e := ih2 (by omega)
      rw [if_pos (ob.mpr (Or.inl c)), e]
      rw [c, if_neg hb]
      exact ⟨fun _ => rfl, fun q => absurd (Nat.lt_succ_self p) q⟩
    · by_cases z : (y >>> (nI m &&& 31)) &&& 1 = 1
      · rw [if_pos (ob.mpr (Or.inr z)), if_pos z]
        refine ⟨fun q => ?_, fun q => ?_⟩
        · rw [ih1 (by omega), wrA_comm hn (by omega) hp c hc.2.2 hk]
        · rw [ih2 (by omega)]
      · rw [if_neg (fun q => (ob.mp q).elim c z), if_neg z]
        exact ⟨fun q => ih1 (by omega), fun q => ih2 (by omega)⟩
theorem bb_or {K H W T : Tn} {n w p i : Nat} (ho : TOk K H T n) (hc : CW n w W) (hp : p < n) (hi : i < 16) (hb : ¬ (nI i >>> (nI p &&& 31)) &&& 1 = 1) : bbT K W (nI i ||| bit1 p) w n T = wrA K W w p (bbT K W (nI i) w n T) := (bb_or0 ho hc hp (fun r hr => or_bit i hi p (Nat.lt_of_lt_of_le hp hc.1) r hr) hb n (Nat.le_refl n)).1 hp
