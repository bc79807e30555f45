/-! steps that are skipped by chance: gone down, or summed over all sets -/
def smN (g : Nat → Nat) : Nat → Nat
  | 0 => 0
  | n + 1 => smN g n + g n
theorem smN_two (g : Nat → Nat) : ∀ n, smN g (2 * n) = smN (fun t => g (2 * t) + g (2 * t + 1)) n
  | 0 => rfl
  | n + 1 => by
    rw [show 2 * (n + 1) = 2 * n + 1 + 1 by omega]
    show smN g (2 * n) + g (2 * n) + g (2 * n + 1) = smN (fun t => g (2 * t) + g (2 * t + 1)) n + (g (2 * n) + g (2 * n + 1))
    rw [smN_two g n, Nat.add_assoc]
theorem smN_cong {f g : Nat → Nat} : ∀ n, (∀ i, i < n → f i = g i) → smN f n = smN g n
  | 0, _ => rfl
  | n + 1, h => by
    show smN f n + f n = smN g n + g n
    rw [smN_cong n (fun i hi => h i (by omega)), h n (by omega)]
theorem smN_lin (a b : Nat) (f g : Nat → Nat) : ∀ n, smN (fun t => a * f t + b * g t) n = a * smN f n + b * smN g n
  | 0 => by simp [smN]
  | n + 1 => by
    show smN (fun t => a * f t + b * g t) n + (a * f n + b * g n) = a * (smN f n + f n) + b * (smN g n + g n)
    rw [smN_lin a b f g n, Nat.mul_add, Nat.mul_add]
    omega
theorem smN_0 : ∀ n, smN (fun _ => 0) n = 0
  | 0 => rfl
  | n + 1 => by
    show smN (fun _ => 0) n + 0 = 0
    rw [smN_0 n]
/-- the weight of a set -/
def wtN (X : Nat) : Nat → Nat → Nat
  | 0, _ => 1
  | m + 1, t => (if t % 2 = 1 then X else 10 - X) * wtN X m (t / 2)
theorem wt_all {X : Nat} (hX : X ≤ 10) : ∀ m, smN (wtN X m) (2 ^ m) = 10 ^ m
  | 0 => rfl
  | m + 1 => by
    rw [Nat.pow_succ, Nat.mul_comm, smN_two]
    have e : ∀ t, t < 2 ^ m → wtN X (m + 1) (2 * t) + wtN X (m + 1) (2 * t + 1) = (10 - X) * wtN X m t + X * wtN X m t := by
      intro t _
      show (if 2 * t % 2 = 1 then X else 10 - X) * wtN X m (2 * t / 2) + (if (2 * t + 1) % 2 = 1 then X else 10 - X) * wtN X m ((2 * t + 1) / 2) = _
      rw [if_neg (by omega), if_pos (by omega), show 2 * t / 2 = t by omega, show (2 * t + 1) / 2 = t by omega]
    rw [smN_cong _ e, smN_lin, wt_all hX m, ← Nat.add_mul, show 10 - X + X = 10 by omega, Nat.pow_succ, Nat.mul_comm]
section Skip81
variable (W : Fl) (ly : Nat → Nat → Nat) (L E X : Nat)
/-- how much is laid with a set of skipped steps -/
def skN : Nat → Nat → Nat → Nat → Nat → Nat
  | 0, _, _, la, _ => la
  | m + 1, i, D, la, t => if t % 2 = 1 then skN m (i + 1) D la (t / 2) else if nvN D (W i) = true then skN m (i + 1) (nN D (W i)) (la + ly (W i) (L - la)) (t / 2) else la
def ceN : Nat → Nat → Nat → Nat → Nat
  | 0, _, _, la => if E ≤ la then 1 else 0
  | m + 1, i, D, la => if E ≤ la then 10 ^ (m + 1) else X * ceN m (i + 1) D la + (if nvN D (W i) = true then (10 - X) * ceN m (i + 1) (nN D (W i)) (la + ly (W i) (L - la)) else 0)
theorem sk_ge : ∀ m i D la t, la ≤ skN W ly L m i D la t
  | 0, _, _, la, _ => Nat.le_refl la
  | m + 1, i, D, la, t => by
    unfold skN
    split
    · exact sk_ge m _ _ _ _
    · split
      · exact Nat.le_trans (Nat.le_add_right _ _) (sk_ge m _ _ _ _)
      · exact Nat.le_refl _
def htN (m i D la t : Nat) : Nat := if E ≤ skN W ly L m i D la t then wtN X m t else 0
theorem ht_full {m i D la : Nat} (hX : X ≤ 10) (h : E ≤ la) : smN (htN W ly L E X m i D la) (2 ^ m) = 10 ^ m := by
  rw [← wt_all hX m]
  apply smN_cong
  intro t _
  exact if_pos (Nat.le_trans h (sk_ge W ly L m i D la t))
theorem ht_ce (hX : X ≤ 10) : ∀ m i D la, smN (htN W ly L E X m i D la) (2 ^ m) = ceN W ly L E X m i D la
  | 0, i, D, la => by
    show 0 + (if E ≤ la then 1 else 0) = _
    rw [Nat.zero_add]
    rfl
  | m + 1, i, D, la => by
    by_cases h : E ≤ la
    · rw [ht_full W ly L E X hX h]
      unfold ceN
      rw [if_pos h]
    · unfold ceN
      rw [if_neg h, Nat.pow_succ, Nat.mul_comm, smN_two]
      have e1 : ∀ t, htN W ly L E X (m + 1) i D la (2 * t + 1) = X * htN W ly L E X m (i + 1) D la t := by
        intro t
        unfold htN
        have es : skN W ly L (m + 1) i D la (2 * t + 1) = skN W ly L m (i + 1) D la t := by
          unfold skN
          rw [if_pos (by omega), show (2 * t + 1) / 2 = t by omega]
          cases m <;> rfl
        have ew : wtN X (m + 1) (2 * t + 1) = X * wtN X m t := by
          show (if (2 * t + 1) % 2 = 1 then X else 10 - X) * wtN X m ((2 * t + 1) / 2) = _
          rw [if_pos (by omega), show (2 * t + 1) / 2 = t by omega]
        rw [es, ew]
        split
        · rfl
        · rfl
      have e0 : ∀ t, htN W ly L E X (m + 1) i D la (2 * t) = (10 - X) * (if nvN D (W i) = true then htN W ly L E X m (i + 1) (nN D (W i)) (la + ly (W i) (L - la)) t else 0) := by
        intro t
        have ew : wtN X (m + 1) (2 * t) = (10 - X) * wtN X m t := by
          show (if (2 * t) % 2 = 1 then X else 10 - X) * wtN X m ((2 * t) / 2) = _
          rw [if_neg (by omega), show (2 * t) / 2 = t by omega]
        have es : skN W ly L (m + 1) i D la (2 * t) = if nvN D (W i) = true then skN W ly L m (i + 1) (nN D (W i)) (la + ly (W i) (L - la)) t else la := by
          show (if (2 * t) % 2 = 1 then skN W ly L m (i + 1) D la ((2 * t) / 2) else if nvN D (W i) = true then skN W ly L m (i + 1) (nN D (W i)) (la + ly (W i) (L - la)) ((2 * t) / 2) else la) = _
          rw [if_neg (by omega), show (2 * t) / 2 = t by omega]
        unfold htN
        rw [es, ew]
        by_cases c : nvN D (W i) = true
        · rw [if_pos c, if_pos c]
          split
          · rfl
          · rfl
        · rw [if_neg c, if_neg c, if_neg h]; rfl
      have e2 : ∀ t, t < 2 ^ m → htN W ly L E X (m + 1) i D la (2 * t) + htN W ly L E X (m + 1) i D la (2 * t + 1) = (10 - X) * (if nvN D (W i) = true then htN W ly L E X m (i + 1) (nN D (W i)) (la + ly (W i) (L - la)) t else 0) + X * htN W ly L E X m (i + 1) D la t := fun t _ => by rw [e0, e1]
      rw [smN_cong _ e2, smN_lin, ht_ce hX m (i + 1) D la]
      by_cases c : nvN D (W i) = true
      · have e3 : (fun t => if nvN D (W i) = true then htN W ly L E X m (i + 1) (nN D (W i)) (la + ly (W i) (L - la)) t else 0) = htN W ly L E X m (i + 1) (nN D (W i)) (la + ly (W i) (L - la)) := by
          funext t
          rw [if_pos c]
        rw [e3, ht_ce hX m (i + 1) _ _, if_pos c, Nat.add_comm]
      · have e3 : (fun t => if nvN D (W i) = true then htN W ly L E X m (i + 1) (nN D (W i)) (la + ly (W i) (L - la)) t else 0) = fun _ => 0 := by
          funext t
          rw [if_neg c]
        rw [e3, smN_0, if_neg c, Nat.mul_zero, Nat.zero_add]; rfl
theorem ce_le (hX : X ≤ 10) : ∀ m i D la, ceN W ly L E X m i D la ≤ 10 ^ m
  | 0, _, _, la => by
    unfold ceN
    split <;> simp
  | m + 1, i, D, la => by
    unfold ceN
    split
    · exact Nat.le_refl _
    · have h1 := ce_le hX m (i + 1) D la
      have h2 := ce_le hX m (i + 1) (nN D (W i)) (la + ly (W i) (L - la))
      have m1 : X * ceN W ly L E X m (i + 1) D la ≤ X * 10 ^ m := Nat.mul_le_mul_left _ h1
      have m2 : (10 - X) * ceN W ly L E X m (i + 1) (nN D (W i)) (la + ly (W i) (L - la)) ≤ (10 - X) * 10 ^ m := Nat.mul_le_mul_left _ h2
      have m3 : X * 10 ^ m + (10 - X) * 10 ^ m = 10 ^ (m + 1) := by
        rw [← Nat.add_mul, show X + (10 - X) = 10 by omega, Nat.pow_succ, Nat.mul_comm]
      split <;> omega
end Skip81
/-- what a pen lays, as a number -/
def lyN (bt kk a b : Int32) (e r : Nat) : Nat := (lyF bt kk a b (nI e) (nI r)).toNatClampNeg
theorem lyN_n {bt kk a b : Int32} {e r : Nat} (ha : sm a) (hb : sm b) (hr : r < 1000) : lyF bt kk a b (nI e) (nI r) = nI (lyN bt kk a b e r) ∧ lyN bt kk a b e r ≤ r := by
  obtain ⟨q, h1, h2, h3⟩ := ly_ok (down := bt) (kind := kk) (e := nI e) (l := r) ha hb hr
  unfold lyN
  rw [h3, nI_clamp (by omega)]
  exact ⟨rfl, h2⟩
theorem ce_n {v : Mm} {k w L X E : Nat} {we : Fl} (hw : w ≤ 8) (hW : ∀ i, i < w → v 4 i = nI (we i) ∧ we i < 8) (ha : sm (v k 2)) (hb : sm (v k 3)) (hL : v k 4 = nI L) (hL45 : L < 100) (hX : X ≤ 10) (hE : E ≤ 99) : ∀ m i D la, i + m = w → D < 25 → la ≤ L → ceF v k w (nI E) (nI X) m i (nI D) (nI la) = lN (ceN we (lyN (v k 6) (v k 1) (v k 2) (v k 3)) L E X m i D la)
  | 0, i, D, la, hi, hD, hla => by
    unfold ceF ceN
    by_cases c : E ≤ la
    · rw [if_pos (nI_le c (by omega)), if_pos c, pk_sub (by omega), show w - i = 0 by omega]
      rfl
    · rw [if_neg (nI_ge (by omega) (by omega)), if_neg c]
      rfl
  | m + 1, i, D, la, hi, hD, hla => by
    obtain ⟨w1, w2⟩ := hW i (by omega)
    have ew : wdF v (nI i) = nI (we i) := by
      unfold wdF
      rw [if_pos ⟨nI_pos' (by omega), nI_le (b := 7) (by omega) (by decide)⟩, nI_clamp (by omega)]
      exact w1
    unfold ceF ceN
    by_cases c : E ≤ la
    · rw [if_pos (nI_le c (by omega)), if_pos c, pk_sub (by omega), show w - i = m + 1 by omega, tens_t (by omega), t10_n _ (by omega)]
    · rw [if_neg (nI_ge (by omega) (by omega)), if_neg c]
      dsimp only
      have ih1 := ce_n hw hW ha hb hL hL45 hX hE m (i + 1) D la (by omega) hD hla
      have c1 : (if (0 : Int32) < nI X then 0 + (nI X).toInt64 * ceF v k w (nI E) (nI X) m (i + 1) (nI D) (nI la) else 0) = lN (X * ceN we (lyN (v k 6) (v k 1) (v k 2) (v k 3)) L E X m (i + 1) D la) := by
        rw [ih1, nI_l (by omega), lN_mul]
        by_cases x0 : X = 0
        · subst x0
          rw [if_neg (by decide), Nat.zero_mul]
          rfl
        · rw [if_pos (show (0 : Int32) < nI X from nI_lt (a := 0) (by omega) (by omega)), show (0 : Int64) = lN 0 from rfl, lN_add, Nat.zero_add]
      rw [c1, ew, nv_nb hD w2]
      by_cases hv : nvN D (we i) = true
      · obtain ⟨v1, v2, v3⟩ := nv_ok hD w2 hv
        have hly := lyN_n (bt := v k 6) (kk := v k 1) (e := we i) (r := L - la) ha hb (by omega)
        have e10 : ((10 : Int32) - nI X).toInt64 = lN (10 - X) := by
          rw [show (10 : Int32) = nI 10 from rfl, pk_sub hX, nI_l (by omega)]
        rw [if_pos hv, v3, hL, pk_sub hla, hly.1, nI_add, e10]
        have ih2 := ce_n hw hW ha hb hL hL45 hX hE m (i + 1) (nN D (we i)) (la + lyN (v k 6) (v k 1) (v k 2) (v k 3) (we i) (L - la)) (by omega) v2 (by omega)
        rw [ih2, lN_mul, lN_add]
        by_cases x10 : X = 10
        · subst x10
          rw [if_neg (fun q => absurd q.1 (by decide)), Nat.sub_self, Nat.zero_mul]; rfl
        · rw [if_pos ⟨show nI X < nI 10 from nI_lt (by omega) (by decide), by rw [← v3]; exact v1⟩]
      · rw [if_neg (fun q => q.2 (nv_no hv)), if_neg hv]; rfl
/-- the reference's writing with skipped steps -/
theorem sk_n {K H W : Tn} {n p w L : Nat} {we : Fl} {bt kk a b : Int32} (hn : n ≤ 4) (hp : p < n) (hw : w ≤ 8) (hW : ∀ i, i < w → W i = nI (we i) ∧ we i < 8) (hL : L < 46) {set : Nat} (hs : set < 2 ^ 8) : ∀ {m i la D : Nat} {v : Mm}, i + m = w → v 80 = K → v 86 = W → TOk K H (lvT 1 v) n → btT (lvT 1 v) p = bt → K p = kk → lvT 1 v (4 + p) = a → lvT 1 v (8 + p) = b → lvT 1 v p = nI D → D < 25 → la ≤ L → lvT 1 v (12 + p) = nI (L - la) → (woF 1 p (nI set) m i (nI la) v).1 = nI (skN we (lyN bt kk a b) L m i D la (set / 2 ^ i)) := by
  intro m
  induction m with
  | zero => intro i la D v _ _ _ _ _ _ _ _ _ _ _ _; rfl
  | succ m ih =>
    intro i la D v hi hK hWv ho hbt hkk ha hb hD hD25 hla hink
    obtain ⟨w1, w2⟩ := hW i (by omega)
    have he := of_d8 w2
    have eb : (nI set >>> (nI i &&& 31)) &&& 1 = nI (set / 2 ^ i % 2) := bit_at (by omega) (by omega)
    have e2 : set / 2 ^ i / 2 = set / 2 ^ (i + 1) := by rw [Nat.div_div_eq_div_mul, ← Nat.pow_succ]
    unfold woF skN
    rw [eb, hWv, w1, e2]
    by_cases c : set / 2 ^ i % 2 = 1
    · rw [if_pos c, if_pos (show nI (set / 2 ^ i % 2) = 1 by rw [c]; rfl)]
      refine ih (by omega) (by rw [← hK]; funext j; exact wrM_away (by omega)) (by rw [← hWv]; funext j; exact wrM_away (by omega)) (by rw [lvT_wr]; exact ho) (by rw [lvT_wr]; exact hbt) hkk (by rw [lvT_wr]; exact ha) (by rw [lvT_wr]; exact hb) (by rw [lvT_wr]; exact hD) hD25 hla (by rw [lvT_wr]; exact hink)
    · rw [if_neg c, if_neg (show ¬ nI (set / 2 ^ i % 2) = 1 from fun q => c (nIj (by omega) (by decide) q)), show v 82 (43 * 1 + p) = lvT 1 v p from (lvT_at (by omega)).symm, hD]
      by_cases hv : nvN D (we i) = true
      · obtain ⟨v1, v2, v3⟩ := nv_ok hD25 w2 hv
        rw [if_pos ⟨⟨he.1, le7.mpr he.2⟩, v1⟩, if_pos hv]
        have eq' : ndF (v 82 (43 * 1 + p)) (nI (we i)) = nI (nN D (we i)) := by
          rw [show v 82 (43 * 1 + p) = lvT 1 v p from (lvT_at (by omega)).symm, hD]; exact v3
        have eq : ndF (lvT 1 v p) (nI (we i)) = nI (nN D (we i)) := by rw [hD]; exact v3
        obtain ⟨t1, t2⟩ := msT (v := v) (by omega) v2 eq'
        rw [hK] at t1 t2
        have hsa : sm a := by rw [← ha]; exact (ho.1 p hp).2.2.1
        have hsb : sm b := by rw [← hb]; exact (ho.1 p hp).2.2.2.1
        have hly := lyN_n (bt := bt) (kk := kk) (a := a) (b := b) (e := we i) (r := L - la) hsa hsb (by omega)
        have el : lyT K (lvT 1 v) p (nI (we i)) = nI (lyN bt kk a b (we i) (L - la)) := by
          rw [← ly_T ho hn hp he, hbt, hkk, ha, hb, hink]; exact hly.1
        rw [t2, el, nI_add]
        have hnd : ¬ ndF (lvT 1 v p) (nI (we i)) = -9 := by rw [hD]; exact v1
        refine ih (v := wrM (msV v 1 p (nI (we i)))) (by omega) (by rw [← hK]; funext j; rw [wrM_away (by omega), msV_away (by decide)]) (by rw [← hWv]; funext j; rw [wrM_away (by omega), msV_away (by decide)]) (by rw [lvT_wr, t1]; exact ho.st hn hp he hnd) (by rw [lvT_wr, t1, stT_bt (by omega) v2 eq]; exact hbt) hkk (by rw [lvT_wr, t1, stT_n v2 eq (by omega) (by omega) (by omega) (by omega)]; exact ha) (by rw [lvT_wr, t1, stT_n v2 eq (by omega) (by omega) (by omega) (by omega)]; exact hb) (by rw [lvT_wr, t1, stT_0 (by omega) v2 eq]) v2 (by omega) ?_
        rw [lvT_wr, t1, stT_12 (by omega) v2 eq, hink, el, pk_sub hly.2]
        congr 1
        omega
      · rw [if_neg (fun q => q.2 (nv_no hv)), if_neg hv]
theorem wt_n {X set : Nat} (hX : X ≤ 10) (hs : set < 2 ^ 8) : ∀ m k, m + k ≤ 8 → itr (fun j s => s * (if (nI set >>> (nI (k + j) &&& 31)) &&& 1 = 1 then nI X else 10 - nI X)) m 1 = nI (wtN X m (set / 2 ^ k))
  | 0, _, _ => rfl
  | m + 1, k, h => by
    have ih := wt_n hX hs m (k + 1) (by omega)
    rw [show m + 1 = 1 + m by omega, itr_add, show 1 + m = m + 1 by omega]
    have eb : (nI set >>> (nI (k + 0) &&& 31)) &&& 1 = nI (set / 2 ^ k % 2) := bit_at (by omega) (by omega)
    have ef : (fun i_1 => fun s : Int32 => s * (if (nI set >>> (nI (k + (1 + i_1)) &&& 31)) &&& 1 = 1 then nI X else 10 - nI X)) = fun j s => s * (if (nI set >>> (nI (k + 1 + j) &&& 31)) &&& 1 = 1 then nI X else 10 - nI X) := by
      funext j s
      rw [Nat.add_assoc]
    have key : ∀ (m : Nat) (c : Nat), itr (fun j s => s * (if (nI set >>> (nI (k + 1 + j) &&& 31)) &&& 1 = 1 then nI X else 10 - nI X)) m (nI c) = nI c * itr (fun j s => s * (if (nI set >>> (nI (k + 1 + j) &&& 31)) &&& 1 = 1 then nI X else 10 - nI X)) m 1 := by
      intro m c
      induction m with
      | zero => show nI c = nI c * nI 1; rw [pk_mul, Nat.mul_one]
      | succ m ih => rw [itr_s, itr_s, ih, Int32.mul_assoc]
    have e1 : itr (fun j s => s * (if (nI set >>> (nI (k + j) &&& 31)) &&& 1 = 1 then nI X else 10 - nI X)) 1 1 = nI (if set / 2 ^ k % 2 = 1 then X else 10 - X) := by
      show (1 : Int32) * (if (nI set >>> (nI (k + 0) &&& 31)) &&& 1 = 1 then nI X else 10 - nI X) = _
      rw [eb]
      by_cases c : set / 2 ^ k % 2 = 1
      · rw [if_pos c, if_pos (show nI (set / 2 ^ k % 2) = 1 by rw [c]; rfl), show (1 : Int32) = nI 1 from rfl, pk_mul, Nat.one_mul]
      · rw [if_neg c, if_neg (show ¬ nI (set / 2 ^ k % 2) = 1 from fun q => c (nIj (by omega) (by decide) q)), show (10 : Int32) = nI 10 from rfl, pk_sub hX, show (1 : Int32) = nI 1 from rfl, pk_mul, Nat.one_mul]
    rw [ef, e1, key, ih, pk_mul]
    congr 1
    show _ = (if set / 2 ^ k % 2 = 1 then X else 10 - X) * wtN X m (set / 2 ^ k / 2)
    rw [Nat.div_div_eq_div_mul, ← Nat.pow_succ]
theorem wtF_n {X w set : Nat} (hX : X ≤ 10) (hw : w ≤ 8) (hs : set < 2 ^ 8) : wtF (nI X) w set = nI (wtN X w set) := by
  have h := wt_n hX hs w 0 (by omega)
  unfold wtF
  have ef : (fun k s => s * (if (nI set >>> (nI k &&& 31)) &&& 1 = 1 then nI X else 10 - nI X)) = fun (j : Nat) (s : Int32) => s * (if (nI set >>> (nI (0 + j) &&& 31)) &&& 1 = 1 then nI X else 10 - nI X) := by
    funext j s
    rw [Nat.zero_add]
  rw [ef, h, Nat.pow_zero, Nat.div_one]
theorem wt_le {X : Nat} (hX : X ≤ 10) : ∀ m t, wtN X m t ≤ 10 ^ m
  | 0, _ => Nat.le_refl _
  | m + 1, t => by
    have ih := wt_le hX m (t / 2)
    show (if t % 2 = 1 then X else 10 - X) * wtN X m (t / 2) ≤ _
    rw [Nat.pow_succ, Nat.mul_comm]
    exact Nat.mul_le_mul ih (by split <;> omega)
theorem skip_r {u : Mm} {K H W : Tn} {n p w L X E D : Nat} {we : Fl} (hM : M0 u n w) (hn : n ≤ 4) (hp : p < n) (hw : w ≤ 8) (hK : u 80 = K) (hWu : u 86 = W) (hW : ∀ i, i < w → W i = nI (we i) ∧ we i < 8) (ho : TOk K H (lvT 0 u) n) (hL : L < 46) (hX : X ≤ 10) (hE : E ≤ 99) (hD : lvT 0 u p = nI D) (hD25 : D < 25) (hink : lvT 0 u (12 + p) = nI L) : ∀ N, N ≤ 2 ^ w → (itr (skS p w (nI E) (nI X)) N (0, 0, u)).1 = nI (smN (htN we (lyN (btT (lvT 0 u) p) (K p) (lvT 0 u (4 + p)) (lvT 0 u (8 + p))) L E X w 0 D 0) N) ∧ (itr (skS p w (nI E) (nI X)) N (0, 0, u)).2.1 = nI (smN (wtN X w) N) ∧ Lo u (itr (skS p w (nI E) (nI X)) N (0, 0, u)).2.2
  | 0, _ => ⟨rfl, rfl, Lo.rf u⟩
  | N + 1, hN => by
    obtain ⟨i1, i2, i3⟩ := skip_r hM hn hp hw hK hWu hW ho hL hX hE hD hD25 hink N (by omega)
    have h28 : 2 ^ w ≤ 2 ^ 8 := Nat.pow_le_pow_right (by decide) hw
    rw [itr_s]
    generalize itr (skS p w (nI E) (nI X)) N (0, 0, u) = s at *
    have eT : lvT 1 (wo0 (ltV s.2.2)) = lvT 0 u := by rw [wo0_T, lt_T, i3.T0]
    have es := sk_n (K := K) (H := H) (W := W) (n := n) (p := p) (w := w) (L := L) (we := we) (bt := btT (lvT 0 u) p) (kk := K p) (a := lvT 0 u (4 + p)) (b := lvT 0 u (8 + p)) hn hp hw hW hL (set := N) (by omega) (m := w) (i := 0) (la := 0) (D := D) (v := wo0 (ltV s.2.2)) (by omega) (by rw [← hK, ← i3.f (by decide) (by decide)]; funext j; exact (u2_n (by omega)).trans (ltV_away (by omega))) (by rw [← hWu, ← i3.f (by decide) (by decide)]; funext j; exact (u2_n (by omega)).trans (ltV_away (by omega))) (by rw [eT]; exact ho) (by rw [eT]) rfl (by rw [eT]) (by rw [eT]) (by rw [eT]; exact hD) hD25 (Nat.zero_le _) (by rw [eT]; exact hink)
    rw [Nat.pow_zero, Nat.div_one] at es
    have es2 : (skR s.2.2 p w N).1 = nI (skN we (lyN (btT (lvT 0 u) p) (K p) (lvT 0 u (4 + p)) (lvT 0 u (8 + p))) L w 0 D 0 N) := by
      unfold skR
      rw [Nat.min_eq_right hw]
      exact es
    have hwt := wtF_n (X := X) (w := w) (set := N) hX hw (by omega)
    refine ⟨?_, ?_, i3.tr (lo_skR (hM.lo i3) hp)⟩
    · show s.1 + (if nI E ≤ (skR s.2.2 p w N).1 then wtF (nI X) w N else 0) = nI (smN _ N + htN _ _ L E X w 0 D 0 N)
      rw [es2, hwt, i1, ← nI_add]
      congr 1
      unfold htN
      generalize eq : skN we (lyN (btT (lvT 0 u) p) (K p) (lvT 0 u (4 + p)) (lvT 0 u (8 + p))) L w 0 D 0 N = Q at *
      have hQ : Q ≤ L := by
        have hsa := (ho.1 p hp).2.2.1
        have hsb := (ho.1 p hp).2.2.2.1
        have key : ∀ m i D la t, la ≤ L → skN we (lyN (btT (lvT 0 u) p) (K p) (lvT 0 u (4 + p)) (lvT 0 u (8 + p))) L m i D la t ≤ L := by
          intro m
          induction m with
          | zero => intro i D la t h; exact h
          | succ m ih =>
            intro i D la t h
            unfold skN
            split
            · exact ih _ _ _ _ h
            · split
              · have := (lyN_n (bt := btT (lvT 0 u) p) (kk := K p) (e := we i) (r := L - la) hsa hsb (by omega)).2
                exact ih _ _ _ _ (by omega)
              · exact h
        rw [← eq]
        exact key w 0 D 0 N (Nat.zero_le _)
      by_cases c : E ≤ Q
      · rw [if_pos (nI_le c (by omega)), if_pos c]
      · rw [if_neg (nI_ge (by omega) (by omega)), if_neg c]
        rfl
    · show s.2.1 + wtF (nI X) w N = nI (smN (wtN X w) N + wtN X w N)
      rw [hwt, i2, nI_add]
