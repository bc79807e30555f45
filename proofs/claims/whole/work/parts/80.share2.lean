/-! shares and rests: the same in both -/
theorem SR.tr {v : Mm} {n : Nat} {K H T : Tn} (h : SR v 5 K H T n) (hn : n ≤ 4) : SR (trM v n) 12 K H T n := by
  obtain ⟨h2, h3, h4, h5⟩ := h
  refine ⟨by rw [trM_2 hn]; exact h2, ?_, fun j hj => ?_, fun p hp => ?_⟩
  · show cpM v 12 5 n 12 3 = _
    rw [cpM_3 s12 s5 (by decide) hn]; exact h3
  · show cpM v 12 5 n (12 + 2) j = _
    rw [cpM_ink s12 s5 (by decide) hn hj]; exact h4 j hj
  · obtain ⟨a0, a1, a2, a3, a4, a5, a6⟩ := h5 p hp
    have e : ∀ j, j < 7 → trM v n (12 + 3 + p) j = v (5 + 3 + p) j := fun j hj => cpM_pen s12 s5 (by decide) hn hp hj
    exact ⟨(e 0 (by decide)).trans a0, (e 1 (by decide)).trans a1, (e 2 (by decide)).trans a2, (e 3 (by decide)).trans a3, (e 4 (by decide)).trans a4, (e 5 (by decide)).trans a5, (e 6 (by decide)).trans a6⟩
theorem SR.cst {v : Mm} {n : Nat} {K H T : Tn} (h : SR v 5 K H T n) (ho : TOk K H T n) (hn : n ≤ 4) : CSt v n := by
  refine ⟨hn, h.1, fun p hp => ?_⟩
  obtain ⟨a0, a1, a2, a3, a4, a5, a6⟩ := h.2.2.2 p hp
  obtain ⟨b0, b1, b2, b3, l, x, b4, b5, b6, b7⟩ := ho.1 p hp
  rw [show 5 + 3 + p = 8 + p by omega] at a0 a1 a2 a3 a4 a5 a6
  refine ⟨⟨by rw [a2]; exact b2, by rw [a3]; exact b3, l, by omega, by rw [a4]; exact b6⟩, ?_⟩
  rw [a6]
  exact ho.bt hn (by omega)
theorem SR.full {v : Mm} {n : Nat} {K H T : Tn} (h : SR v 5 K H T n) (ho : TOk K H T n) : ∀ p, p < n → ∃ l : Nat, l < 100 ∧ v (8 + p) 5 = nI l := by
  intro p hp
  obtain ⟨a0, a1, a2, a3, a4, a5, a6⟩ := h.2.2.2 p hp
  obtain ⟨b0, b1, b2, b3, l, x, b4, b5, b6, b7⟩ := ho.1 p hp
  rw [show 5 + 3 + p = 8 + p by omega] at a5
  exact ⟨x, by omega, by rw [a5]; exact b7⟩
theorem lt_T {u : Mm} : lvT 1 (ltV u) = lvT 0 u := by
  apply cut_ext
  intro j hj
  rw [show 43 * 1 + j = 43 + j by omega, ltV_hi hj, Nat.mul_zero, Nat.zero_add]
theorem Lo.T0 {u x : Mm} (h : Lo u x) : lvT 0 x = lvT 0 u := by
  apply cut_ext
  intro j hj
  exact h 82 _ (by omega) (by omega)
theorem Lo.f {u x : Mm} (h : Lo u x) {k : Nat} (h1 : k ≠ 82) (h2 : k ≠ 79) : x k = u k := by
  funext j
  exact h k j (fun q => h1 q.1) (fun q => h2 q.1)
theorem byR_n {u : Mm} {n w : Nat} {s : Int32} {K H W : Tn} (hc : CW n w W) (hK : u 80 = K) (hWu : u 86 = W) (ho : TOk K H (lvT 0 u) n) : byR u w s n = nI (ctT (bbT K W s w n (lvT 0 u))) := by
  unfold byR
  rw [on_bk]
  unfold byM
  have g := by_T (u := ltV u) (s := s) (K := K) (H := H) hc (by rw [← hK]; funext j; exact ltV_away (by omega)) (by rw [← hWu]; funext j; exact ltV_away (by omega)) (by rw [lt_T]; exact ho) n (Nat.le_refl _)
  rw [g.1, lt_T]
def dfN (K W T : Tn) (n w p i : Nat) : Nat := ctT (wrA K W w p (bbT K W (nI i) w n T)) - ctT (bbT K W (nI i) w n T)
theorem df_le {K H W T : Tn} {n w p i : Nat} (ho : TOk K H T n) (hc : CW n w W) (hp : p < n) : ctT (bbT K W (nI i) w n T) ≤ ctT (wrA K W w p (bbT K W (nI i) w n T)) ∧ dfN K W T n w p i ≤ 25 := by
  refine ⟨wr_bk hc.1 hp hc.2.2 (by omega) (ho.bb hc.1 hc.2.2 n (Nat.le_refl _)), ?_⟩
  have := ctB_le (blkB (wrA K W w p (bbT K W (nI i) w n T))) 25
  unfold dfN ctT
  omega
def cfN (n i : Nat) : Nat := (fcP (nI i) n).toNatClampNeg
theorem cf_all : ∀ n, n ≤ 4 → ∀ p, p < n → ∀ i, i < 2 ^ n → ¬ (nI i >>> (nI p &&& 31)) &&& 1 = 1 → (ordF (bcF (nI i)) * ordF (nI n - 1 - bcF (nI i)) = fcP (nI i) n ∧ fcP (nI i) n = nI (cfN n i) ∧ cfN n i ≤ 24) := by decide +kernel
def ssN (K W T : Tn) (n w p : Nat) : Nat → Nat
  | 0 => 0
  | i + 1 => ssN K W T n w p i + (if (nI i >>> (nI p &&& 31)) &&& 1 = 1 then 0 else cfN n i * dfN K W T n w p i)
theorem bit0 {i p : Nat} (hi : i < 16) (hp : p < 4) : ((nI i >>> (nI p &&& 31)) &&& 1 = 0) ↔ ¬ (nI i >>> (nI p &&& 31)) &&& 1 = 1 := by
  rcases bt_all i hi p hp with z | z
  · rw [z]; exact ⟨fun _ => by decide, fun _ => rfl⟩
  · rw [z]; exact ⟨fun q => absurd q (by decide), fun q => absurd rfl q⟩
theorem ss_le {K H W T : Tn} {n w p : Nat} (ho : TOk K H T n) (hc : CW n w W) (hp : p < n) : ∀ i, i ≤ 2 ^ n → ssN K W T n w p i ≤ 600 * i
  | 0, _ => Nat.le_refl _
  | i + 1, hi => by
    have ih := ss_le ho hc hp i (by omega)
    unfold ssN
    by_cases z : (nI i >>> (nI p &&& 31)) &&& 1 = 1
    · rw [if_pos z]; omega
    · rw [if_neg z]
      have c1 := (cf_all n hc.1 p hp i (by omega) z).2.2
      have c2 := (df_le (i := i) ho hc hp).2
      have : cfN n i * dfN K W T n w p i ≤ 24 * 25 := Nat.mul_le_mul c1 c2
      omega
theorem sh_c {v : Mm} {K H W T : Tn} {n w p : Nat} (h : SR v 5 K H T n) (ho : TOk K H T n) (hc : CW n w W) (hp : p < n) (h4 : v 4 = W) : ∀ i, i ≤ 2 ^ n → (itr (shS n w p) i (0, v)).1 = nI (ssN K W T n w p i) ∧ ∀ a j, (a < 12 ∨ 19 ≤ a) → (itr (shS n w p) i (0, v)).2 a j = v a j
  | 0, _ => ⟨rfl, fun _ _ _ => rfl⟩
  | i + 1, hi => by
    obtain ⟨i1, i2⟩ := sh_c h ho hc hp h4 i (by omega)
    have hn := hc.1
    have h16 := pow4 hn
    rw [itr_s]
    generalize itr (shS n w p) i (0, v) = s at *
    unfold shS ssN
    by_cases z : (nI i >>> (nI p &&& 31)) &&& 1 = 1
    · rw [if_neg (fun q => (bit0 (by omega) (by omega)).mp q z), if_pos z, Nat.add_zero]
      exact ⟨i1, i2⟩
    · rw [if_pos ((bit0 (by omega) (by omega)).mpr z), if_neg z]
      obtain ⟨c1, c2, c3⟩ := cf_all n hn p hp i (by omega) z
      have hS : SR s.2 5 K H T n := h.same hn (fun a j h1 h2 => i2 a j (by omega))
      have hS4 : s.2 4 = W := by rw [← h4]; funext j; exact i2 4 j (by omega)
      have hT := hS.tr hn
      have hT4 : trM s.2 n 4 = W := by rw [← hS4]; funext j; exact trM_away hn (by omega)
      obtain ⟨b1, b2⟩ := hT.bb (s := nI i) ho hc hT4 n (Nat.le_refl _)
      have b3 := b1.fl (ho.bb hn hc.2.2 n (Nat.le_refl _)) hc hp b2
      have eR : bhR s.2 n w (nI i) p = nI (dfN K W T n w p i) := by
        unfold bhR bhM bhU
        rw [b3.bk, b1.bk, pk_sub (df_le ho hc hp).1]
        rfl
      refine ⟨?_, fun a j ha => ?_⟩
      · show s.1 + ordF (bcF (nI i)) * ordF (nI n - 1 - bcF (nI i)) * bhR s.2 n w (nI i) p = _
        rw [c1, c2, eR, i1, pk_mul, nI_add]
      · show bhM s.2 n w (nI i) p a j = v a j
        rw [bhM_away (hS.cst ho hn) hp ha]
        exact i2 a j ha
theorem sh_r {u : Mm} {K H W : Tn} {n w p : Nat} (hM : M0 u n w) (ho : TOk K H (lvT 0 u) n) (hc : CW n w W) (hp : p < n) (hK : u 80 = K) (hWu : u 86 = W) : ∀ i, i ≤ 2 ^ n → (itr (smS n w p) i (0, u)).1 = nI (ssN K W (lvT 0 u) n w p i) ∧ Lo u (itr (smS n w p) i (0, u)).2
  | 0, _ => ⟨rfl, Lo.rf u⟩
  | i + 1, hi => by
    obtain ⟨i1, i2⟩ := sh_r hM ho hc hp hK hWu i (by omega)
    have hn := hc.1
    have h16 := pow4 hn
    rw [itr_s]
    generalize itr (smS n w p) i (0, u) = s at *
    unfold smS ssN
    by_cases z : (nI i >>> (nI p &&& 31)) &&& 1 = 1
    · rw [if_pos z, if_pos z, Nat.add_zero]; exact ⟨i1, i2⟩
    · rw [if_neg z, if_neg z]
      obtain ⟨c1, c2, c3⟩ := cf_all n hn p hp i (by omega) z
      have hM1 := hM.lo i2
      have l1 := i2.tr (byM_lo (s := nI i ||| bit1 p) hM1)
      have l2 := l1.tr (byM_lo (s := nI i) (hM.lo l1))
      refine ⟨?_, l2⟩
      show s.1 + fcP (nI i) n * (byR s.2 w (nI i ||| bit1 p) n - byR (byM s.2 w (nI i ||| bit1 p) n) w (nI i) n) = _
      rw [byR_n (H := H) hc ((i2.f (by decide) (by decide)).trans hK) ((i2.f (by decide) (by decide)).trans hWu) (by rw [i2.T0]; exact ho), byR_n (H := H) hc ((l1.f (by decide) (by decide)).trans hK) ((l1.f (by decide) (by decide)).trans hWu) (by rw [l1.T0]; exact ho), i2.T0, l1.T0, bb_or ho hc hp (by omega) z, pk_sub (df_le ho hc hp).1, c2, i1]
      show _ + nI (cfN n i) * nI (dfN K W (lvT 0 u) n w p i) = _
      rw [pk_mul, nI_add]
theorem fc_all : ∀ n, n ≤ 4 → (ordF (nI n) = fcF n ∧ fcF n = nI (fcF n).toNatClampNeg ∧ 0 < (fcF n).toNatClampNeg ∧ (fcF n).toNatClampNeg ≤ 24) := by decide +kernel
/-! rests -/
def gsT (K W : Tn) (a b w pr : Nat) (T : Tn) : Tn := if pr % 2 = 1 then wrA K W w b (if pr / 2 % 2 = 1 then wrA K W w a T else T) else (if pr / 2 % 2 = 1 then wrA K W w a T else T)
def G1T (K W : Tn) (a b w : Nat) (T : Tn) (x pr : Nat) : Int32 := gsT K W a b w pr T (12 + x) + 2 * nI (ctT (gsT K W a b w pr T))
theorem TOk.gn {K H W T : Tn} {n a b w pr : Nat} (h : TOk K H T n) (hc : CW n w W) (ha : a < n) (hb : b < n) : TOk K H (gsT K W a b w pr T) n := by
  have h1 : TOk K H (if pr / 2 % 2 = 1 then wrA K W w a T else T) n := by
    split
    · exact h.wA hc.1 ha hc.2.2
    · exact h
  unfold gsT
  split
  · exact h1.wA hc.1 hb hc.2.2
  · exact h1
theorem SR.gn {v : Mm} {n a b w pr : Nat} {K H W T : Tn} (h : SR v 12 K H T n) (ho : TOk K H T n) (hc : CW n w W) (ha : a < n) (hb : b < n) (h4 : v 4 = W) : SR (gnM v a b w pr) 12 K H (gsT K W a b w pr T) n := by
  have hn := hc.1
  unfold gnM gsT
  dsimp only
  by_cases c1 : pr / 2 % 2 = 1
  · rw [if_pos c1, if_pos c1]
    have h1 := h.fl ho hc ha h4
    have h41 : fl1 v a w 4 = W := by rw [← h4]; funext j; exact fl1_away (by omega) (by omega)
    by_cases c2 : pr % 2 = 1
    · rw [if_pos c2, if_pos c2]; exact h1.fl (ho.wA hn ha hc.2.2) hc hb h41
    · rw [if_neg c2, if_neg c2]; exact h1
  · rw [if_neg c1, if_neg c1]
    by_cases c2 : pr % 2 = 1
    · rw [if_pos c2, if_pos c2]; exact h.fl ho hc hb h4
    · rw [if_neg c2, if_neg c2]; exact h
theorem rg_c {v : Mm} {K H W T : Tn} {n a b w : Nat} (h : SR v 5 K H T n) (ho : TOk K H T n) (hc : CW n w W) (ha : a < n) (hb : b < n) (h4 : v 4 = W) : ∀ i, i ≤ 4 → (∀ j, j < i → itr (fun i u => rgM u n a b w i) i v 36 j = G1T K W a b w T a j ∧ itr (fun i u => rgM u n a b w i) i v 37 j = G1T K W a b w T b j) ∧ ∀ k j, (k < 12 ∨ (19 ≤ k ∧ k ≠ 36 ∧ k ≠ 37)) → itr (fun i u => rgM u n a b w i) i v k j = v k j
  | 0, _ => ⟨fun j hj => absurd hj (Nat.not_lt_zero j), fun _ _ _ => rfl⟩
  | i + 1, hi => by
    obtain ⟨i1, i2⟩ := rg_c h ho hc ha hb h4 i (by omega)
    have hn := hc.1
    rw [itr_s]
    generalize itr (fun i u => rgM u n a b w i) i v = s at *
    have hS : SR s 5 K H T n := h.same hn (fun a j h1 h2 => i2 a j (by omega))
    have hS4 : s 4 = W := by rw [← h4]; funext j; exact i2 4 j (by omega)
    have hT4 : trM s n 4 = W := by rw [← hS4]; funext j; exact trM_away hn (by omega)
    have g := (hS.tr hn).gn (pr := i) ho hc ha hb hT4
    have hC := hS.cst ho hn
    have ga := (g.2.2.2 a ha).2.2.2.2.1
    have gb := (g.2.2.2 b hb).2.2.2.2.1
    refine ⟨fun j hj => ?_, fun k j hk => by rw [rgM_lo hC ha hb hk]; exact i2 k j hk⟩
    have e36 : rgM s n a b w i 36 j = if j = i then G1T K W a b w T a i else s 36 j := by
      unfold rgM
      try dsimp only
      rw [u2_n (by omega)]
      by_cases c : j = i
      · subst c
        rw [u2_s, if_pos rfl, ga, g.bk]
        rfl
      · rw [u2_n (fun q => c q.2), if_neg c, (gn_ok hC.tr ha hb).2 36 j (by omega), trM_away hn (by omega)]
    have e37 : rgM s n a b w i 37 j = if j = i then G1T K W a b w T b i else s 37 j := by
      unfold rgM
      try dsimp only
      by_cases c : j = i
      · subst c
        rw [u2_s, if_pos rfl, u2_n (by omega), gb, g.bk]
        rfl
      · rw [u2_n (fun q => c q.2), u2_n (by omega), if_neg c, (gn_ok hC.tr ha hb).2 37 j (by omega), trM_away hn (by omega)]
    show rgM s n a b w i 36 j = _ ∧ rgM s n a b w i 37 j = _
    rw [e36, e37]
    by_cases c : j = i
    · subst c; rw [if_pos rfl, if_pos rfl]; exact ⟨rfl, rfl⟩
    · rw [if_neg c, if_neg c]; exact i1 j (by omega)
theorem woA_T {u : Mm} {n w p : Nat} {K H W : Tn} (hc : CW n w W) (hp : p < n) (hK : u 80 = K) (hWu : u 86 = W) (ho : TOk K H (lvT 1 u) n) : lvT 1 (woA u p w).2 = wrA K W w p (lvT 1 u) ∧ (woA u p w).2 80 = K ∧ (woA u p w).2 86 = W := by
  have g := wo_T (K := K) (W := W) (H := H) (l := 1) hc.1 hp hc.2.1 hc.2.2 (m := w) (i := 0) (s := 0) (v := wo0 u) (by omega) (by rw [← hK]; funext j; exact u2_n (by omega)) (by rw [← hWu]; funext j; exact u2_n (by omega)) (u2_s) (by rw [wo0_T]; exact ho)
  rw [wo0_T] at g
  have em : woA u p w = woF 1 p 0 w 0 0 (wo0 u) := by unfold woA; rw [Nat.min_eq_right hc.2.1]
  rw [em, g.1]
  refine ⟨rfl, ?_, ?_⟩
  · rw [← hK]; funext j; rw [wo_away (by decide) (by omega)]; exact u2_n (by omega)
  · rw [← hWu]; funext j; rw [wo_away (by decide) (by omega)]; exact u2_n (by omega)
theorem ga_T {u : Mm} {n w a b i j : Nat} {K H W : Tn} (hc : CW n w W) (ha : a < n) (hb : b < n) (hK : u 80 = K) (hWu : u 86 = W) (ho : TOk K H (lvT 0 u) n) (hi : i < 2) (hj : j < 2) : lvT 1 (gaM u a b w (nI i) (nI j)) = gsT K W a b w (2 * i + j) (lvT 0 u) := by
  have k0 : ltV u 80 = K := by rw [← hK]; funext j; exact ltV_away (by omega)
  have w0 : ltV u 86 = W := by rw [← hWu]; funext j; exact ltV_away (by omega)
  have o0 : TOk K H (lvT 1 (ltV u)) n := by rw [lt_T]; exact ho
  have ei : (nI i = 1) ↔ (2 * i + j) / 2 % 2 = 1 := by
    rw [show (1 : Int32) = nI 1 from rfl, nI_eq (by omega) (by omega)]; omega
  have ej : (nI j = 1) ↔ (2 * i + j) % 2 = 1 := by
    rw [show (1 : Int32) = nI 1 from rfl, nI_eq (by omega) (by omega)]; omega
  unfold gaM gsT
  dsimp only
  by_cases c1 : nI i = 1
  · rw [if_pos c1, if_pos (ei.mp c1)]
    obtain ⟨x1, x2, x3⟩ := woA_T (H := H) hc ha k0 w0 o0
    by_cases c2 : nI j = 1
    · rw [if_pos c2, if_pos (ej.mp c2), (woA_T (H := H) hc hb x2 x3 (by rw [x1, lt_T]; exact ho.wA hc.1 ha hc.2.2)).1, x1, lt_T]
    · rw [if_neg c2, if_neg (fun q => c2 (ej.mpr q)), x1, lt_T]
  · rw [if_neg c1, if_neg (fun q => c1 (ei.mpr q))]
    by_cases c2 : nI j = 1
    · rw [if_pos c2, if_pos (ej.mp c2), (woA_T (H := H) hc hb k0 w0 o0).1, lt_T]
    · rw [if_neg c2, if_neg (fun q => c2 (ej.mpr q)), lt_T]
theorem gaR_n {u x : Mm} {n w a b p i j : Nat} {K H W : Tn} (hl : Lo u x) (hc : CW n w W) (ha : a < n) (hb : b < n) (hp : p < n) (hK : u 80 = K) (hWu : u 86 = W) (ho : TOk K H (lvT 0 u) n) (hi : i < 2) (hj : j < 2) : gaR x a b w (nI i) (nI j) p = G1T K W a b w (lvT 0 u) p (2 * i + j) := by
  have g := ga_T (u := x) (H := H) hc ha hb ((hl.f (by decide) (by decide)).trans hK) ((hl.f (by decide) (by decide)).trans hWu) (by rw [hl.T0]; exact ho) hi hj
  rw [hl.T0] at g
  unfold gaR G1T
  have hn := hc.1
  rw [on_bk, ← g, lvT_at (by omega), show 43 * 1 + (12 + p) = 55 + p by omega]
def rsT (K W T : Tn) (a b w m : Nat) : Prop := G1T K W a b w T a (m ^^^ 2) ≤ G1T K W a b w T a m ∧ G1T K W a b w T b (m ^^^ 1) ≤ G1T K W a b w T b m
theorem x12 : ∀ i, i < 2 → ∀ j, j < 2 → ((2 * i + j) ^^^ 2 = 2 * (1 - i) + j ∧ (2 * i + j) ^^^ 1 = 2 * i + (1 - j)) := by decide
theorem iR_n {u x : Mm} {n w a b i j : Nat} {K H W : Tn} (hl : Lo u x) (hM : M0 u n w) (hc : CW n w W) (ha : a < n) (hb : b < n) (hK : u 80 = K) (hWu : u 86 = W) (ho : TOk K H (lvT 0 u) n) (hi : i < 2) (hj : j < 2) : ((iR x a b w (nI i) (nI j)).1 = 0 ↔ ¬ rsT K W (lvT 0 u) a b w (2 * i + j)) := by
  obtain ⟨x1, x2⟩ := x12 i hi j hj
  have e1 : (1 : Int32) - nI i = nI (1 - i) := pk_sub (a := 1) (by omega)
  have e2 : (1 : Int32) - nI j = nI (1 - j) := pk_sub (a := 1) (by omega)
  have l1 := hl.tr (lo_gaM (x := 1 - nI i) (y := nI j) (hM.lo hl) ha hb)
  have l2 := l1.tr (lo_gaM (x := nI i) (y := nI j) (hM.lo l1) ha hb)
  have l3 := l2.tr (lo_gaM (x := nI i) (y := 1 - nI j) (hM.lo l2) ha hb)
  unfold iR rsT
  rw [e1, e2] at *
  rw [gaR_n (H := H) hl hc ha hb ha hK hWu ho (by omega) hj, gaR_n (H := H) l1 hc ha hb ha hK hWu ho hi hj, gaR_n (H := H) l2 hc ha hb hb hK hWu ho hi (by omega), gaR_n (H := H) l3 hc ha hb hb hK hWu ho hi hj, x1, x2]
  by_cases c : G1T K W a b w (lvT 0 u) a (2 * (1 - i) + j) ≤ G1T K W a b w (lvT 0 u) a (2 * i + j)
  · rw [if_pos c]
    exact ⟨fun q r => b01_eq0.mp q r.2, fun q => b01_eq0.mpr (fun r => q ⟨c, r⟩)⟩
  · rw [if_neg c]
    exact ⟨fun _ r => c r.1, fun _ => rfl⟩
theorem rsB (K W T : Tn) (a b w : Nat) : ∃ B : Nat → Bool, ∀ m, B m = true ↔ rsT K W T a b w m := by
  haveI : ∀ m, Decidable (rsT K W T a b w m) := fun m => Classical.propDecidable _
  exact ⟨fun m => decide (rsT K W T a b w m), fun m => decide_eq_true_iff⟩
/-- the first and how many of four, from below -/
theorem rt_up {u : Mm} {n w a b : Nat} {K H W : Tn} (hM : M0 u n w) (hc : CW n w W) (ha : a < n) (hb : b < n) (hK : u 80 = K) (hWu : u 86 = W) (ho : TOk K H (lvT 0 u) n) {B : Nat → Bool} (hB : ∀ m, B m = true ↔ rsT K W (lvT 0 u) a b w m) (k : Nat) (hk : k < 4) (s : Int32 × Int32 × Mm) (hl : Lo u s.2.2) : Lo u (rtS a b w k s).2.2 ∧ (rtS a b w k s).1 = (if B k = true then s.1 + 1 else s.1) ∧ (rtS a b w k s).2.1 = if B k = true then (if s.1 = 0 then 10 * nI (k / 2) + nI (k % 2) else s.2.1) else s.2.1 := by
  have hi := iR_n (H := H) (i := k / 2) (j := k % 2) hl hM hc ha hb hK hWu ho (by omega) (by omega)
  rw [show 2 * (k / 2) + k % 2 = k by omega] at hi
  have l2 := hl.tr (lo_iR (x := nI (k / 2)) (y := nI (k % 2)) (hM.lo hl) ha hb)
  unfold rtS
  by_cases z : (iR s.2.2 a b w (nI (k / 2)) (nI (k % 2))).1 = 0
  · have c : ¬ B k = true := fun q => hi.mp z ((hB k).mp q)
    rw [if_pos z, if_neg c, if_neg c]
    exact ⟨l2, rfl, rfl⟩
  · have c : B k = true := (hB k).mpr (Classical.not_not.mp (fun q => z (hi.mpr q)))
    rw [if_neg z, if_pos c, if_pos c]
    exact ⟨l2, rfl, rfl⟩
theorem rs_dn {K W T : Tn} {a b w : Nat} {v : Mm} {B : Nat → Bool} (hB : ∀ m, B m = true ↔ rsT K W T a b w m) (h1 : ∀ j, j < 4 → v 36 j = G1T K W a b w T a j ∧ v 37 j = G1T K W a b w T b j) (m : Nat) (hm : m < 4) (many first : Int32) : rsR v (m + 1) many first = if B m = true then rsR v m (many + 1) ((10 : Int32) * (nI m >>> ((1 : Int32) &&& 31)) + (nI m &&& 1)) else rsR v m many first := by
  obtain ⟨-, -, -, p1, p2⟩ := pr3 m hm
  have e1 := (h1 m hm).1
  have e2 := (h1 m hm).2
  have e3 := (h1 _ p1).1
  have e4 := (h1 _ p2).2
  have key : (v 36 (m ^^^ 2) ≤ v 36 m ∧ v 37 (m ^^^ 1) ≤ v 37 m) ↔ B m = true := by
    rw [e1, e2, e3, e4, hB]; exact Iff.rfl
  by_cases c : B m = true
  · rw [if_pos c]; exact if_pos (key.mpr c)
  · rw [if_neg c]; exact if_neg (fun z => c (key.mp z))
theorem rests_eq {u v : Mm} {n w a b : Nat} {K H W : Tn} (hM : M0 u n w) (hc : CW n w W) (ha : a < n) (hb : b < n) (hK : u 80 = K) (hWu : u 86 = W) (ho : TOk K H (lvT 0 u) n) (h1 : ∀ j, j < 4 → v 36 j = G1T K W a b w (lvT 0 u) a j ∧ v 37 j = G1T K W a b w (lvT 0 u) b j) : (rsR v 4 0 (-9)).1 = (itr (rtS a b w) 4 (0, -9, u)).1 ∧ (rsR v 4 0 (-9)).2 = (itr (rtS a b w) 4 (0, -9, u)).2.1 ∧ Lo u (itr (rtS a b w) 4 (0, -9, u)).2.2 := by
  obtain ⟨B, hB⟩ := rsB K W (lvT 0 u) a b w
  have d := rs_dn hB h1
  have r := rt_up (H := H) hM hc ha hb hK hWu ho hB
  have i4 : itr (rtS a b w) 4 (0, -9, u) = rtS a b w 3 (rtS a b w 2 (rtS a b w 1 (rtS a b w 0 (0, -9, u)))) := rfl
  rw [i4]
  obtain ⟨l0, a0, b0⟩ := r 0 (by decide) (0, -9, u) (Lo.rf u)
  generalize rtS a b w 0 (0, -9, u) = s0 at *
  obtain ⟨l1, a1, b1⟩ := r 1 (by decide) s0 l0
  generalize rtS a b w 1 s0 = s1 at *
  obtain ⟨l2, a2, b2⟩ := r 2 (by decide) s1 l1
  generalize rtS a b w 2 s1 = s2 at *
  obtain ⟨l3, a3, b3⟩ := r 3 (by decide) s2 l2
  generalize rtS a b w 3 s2 = s3 at *
  have z : ∀ x y, rsR v 0 x y = (x, y) := fun _ _ => rfl
  rw [d 3 (by decide), d 2 (by decide), d 2 (by decide), d 1 (by decide), d 1 (by decide), d 1 (by decide), d 1 (by decide)]
  simp only [d 0 (by decide), z]
  refine ⟨?_, ?_, l3⟩
  · rw [a3, a2, a1, a0]
    generalize B 0 = x0
    generalize B 1 = x1
    generalize B 2 = x2
    generalize B 3 = x3
    cases x0 <;> cases x1 <;> cases x2 <;> cases x3 <;> rfl
  · rw [b3, b2, b1, b0, a2, a1, a0]
    generalize B 0 = x0
    generalize B 1 = x1
    generalize B 2 = x2
    generalize B 3 = x3
    cases x0 <;> cases x1 <;> cases x2 <;> cases x3 <;> rfl
