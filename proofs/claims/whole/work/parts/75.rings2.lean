/-! rings and nibs in the memories -/
def PA (w : Mm) (A : Nat → Pn) : Prop := ∀ d, d < 25 → w 75 d = nI (A d).1 ∧ w 77 d = nI (A d).2
def PB (w0 w : Mm) (B : Nat → Pn) : Prop := (∀ d, d < 25 → w 76 d = nI (B d).1 ∧ w 78 d = nI (B d).2 ∧ (B d).2 ≤ 1000000) ∧ w 75 = w0 75 ∧ w 77 = w0 77
def BdA (A : Nat → Pn) : Prop := ∀ d, d < 25 → (A d).1 < 2 ^ 31 ∧ (A d).2 ≤ 1000000
theorem wk1_rel {t : Fl} {w0 w : Mm} {A B : Nat → Pn} {e x : Nat} (h7 : t e ≤ 7) (he : e < 8) (hx : x < 25) (hA : PA w0 A) (hb : BdA A) (h : PB w0 w B) : PB w0 (wk1 (nI (t e)) e x w) (g1W t A e x B) := by
  obtain ⟨h1, h2, h3⟩ := h
  obtain ⟨a1, a2⟩ := hA x hx
  obtain ⟨b1, b2⟩ := hb x hx
  have ex : w 75 x = nI (A x).1 := by rw [h2]; exact a1
  have ex2 : w 77 x = nI (A x).2 := by rw [h3]; exact a2
  unfold wk1 g1W
  rw [nv_nb hx he, ex]
  by_cases hv : nvN x e = true
  · obtain ⟨v1, v2, v3⟩ := nv_ok hx he hv
    by_cases z : 0 < (A x).1
    · rw [v3, if_pos ⟨of_d25 v2, show (0 : Int32) < nI (A x).1 from nI_lt (a := 0) z b1⟩, if_pos ⟨hv, z⟩]
      try dsimp only
      rw [nI_clamp (by omega)]
      obtain ⟨c1, c2, c3⟩ := h1 _ v2
      refine ⟨fun d hd => ?_, ?_, ?_⟩
      · obtain ⟨d1, d2, d3⟩ := h1 d hd
        dsimp only
        by_cases y : d = nN x e
        · rw [if_pos y]
          subst y
          rw [u2_n (fun q => absurd q.1 (by decide)), u2_s, u2_s, u2_n (fun q => absurd q.1 (by decide)), u2_n (fun q => absurd q.1 (by decide)), c1, c2, ex2, nI_add, nI_add, mnI_nI (by omega) (by omega)]
          exact ⟨rfl, rfl, Nat.le_trans (Nat.min_le_left _ _) c3⟩
        · rw [if_neg y, u2_n (fun q => absurd q.1 (by decide)), u2_n (fun q => y q.2), u2_n (fun q => y q.2), u2_n (fun q => absurd q.1 (by decide))]
          exact ⟨d1, d2, d3⟩
      · rw [u2_g (by decide), u2_g (by decide)]; exact h2
      · rw [u2_g (by decide), u2_g (by decide)]; exact h3
    · rw [if_neg (fun q => by
        have y : (A x).1 = 0 := by omega
        rw [y] at q
        exact absurd q.2 (by decide)), if_neg (fun q => z q.2)]
      exact ⟨h1, h2, h3⟩
  · rw [nv_no hv, if_neg (fun q => absurd q.1.1 (by decide)), if_neg (fun q => hv q.1)]
    exact ⟨h1, h2, h3⟩
theorem wk1_away {th : Int32} {e x a j : Nat} {w : Mm} (h6 : a ≠ 76) (h8 : a ≠ 78) : wk1 th e x w a j = w a j := by
  unfold wk1
  split
  · show upd2 (upd2 w 76 _ (w 76 _ + w 75 x)) 78 _ (mnI (upd2 w 76 _ (w 76 _ + w 75 x) 78 _) (upd2 w 76 _ (w 76 _ + w 75 x) 77 x + th)) a j = w a j
    rw [u2_n (fun q => h8 q.1), u2_n (fun q => h6 q.1)]
  · rfl
theorem wkO_away {v : Mm} {k a j : Nat} (h5 : a ≠ 75) (h6 : a ≠ 76) (h7 : a ≠ 77) (h8 : a ≠ 78) : wkO v k a j = v a j := by
  unfold wkO
  try dsimp only
  rw [uA_n h7, uA_n h5]
  refine itr_inv (f := fun e w => itr (fun dot w => wk1 (acF (v k 1) (v k 2) (v k 3) (nI e)) e dot w) 25 w) (fun (w : Mm) => w a j = v a j) (fun e w hw => ?_) 8 _ ?_
  · exact itr_inv (f := fun dot w => wk1 (acF (v k 1) (v k 2) (v k 3) (nI e)) e dot w) (fun (w : Mm) => w a j = v a j) (fun x w hw => by rw [wk1_away h6 h8]; exact hw) 25 w hw
  · unfold flM
    rw [uA_n h8, uA_n h6]
theorem wkO_rel {t : Fl} {v : Mm} {k : Nat} {A : Nat → Pn} (ht : ∀ e, e < 8 → acF (v k 1) (v k 2) (v k 3) (nI e) = nI (t e) ∧ t e ≤ 7) (hA : PA v A) (hb : BdA A) : PA (wkO v k) (g2W t A) := by
  have key : PB v (itr (fun e w => itr (fun dot w => wk1 (acF (v k 1) (v k 2) (v k 3) (nI e)) e dot w) 25 w) 8 (flM (flM v 76 25 0) 78 25 1000000)) (g2W t A) := by
    unfold g2W
    refine itr_relN (PB v) (N := 8) rfl ?_ (fun e w B he h => ?_)
    · refine ⟨fun d hd => ?_, ?_, ?_⟩
      · unfold flM
        rw [uA_n (by decide), uA_s, uA_s, if_pos hd]
        exact ⟨rfl, if_pos hd, Nat.le_refl _⟩
      · unfold flM
        rw [uA_n (by decide), uA_n (by decide)]
      · unfold flM
        rw [uA_n (by decide), uA_n (by decide)]
    · refine itr_relN (PB v) (N := 25) rfl h (fun x w B hx h => ?_)
      rw [(ht e he).1]
      exact wk1_rel (ht e he).2 he hx hA hb h
  generalize eI : itr (fun e w => itr (fun dot w => wk1 (acF (v k 1) (v k 2) (v k 3) (nI e)) e dot w) 25 w) 8 (flM (flM v 76 25 0) 78 25 1000000) = I at key
  intro d hd
  obtain ⟨k1, k2, k3⟩ := key.1 d hd
  unfold wkO
  try dsimp only
  rw [eI]
  refine ⟨?_, ?_⟩
  · rw [uA_n (by decide), uA_s, pk_cpy_in (by omega) (by omega), show 0 + (d - 0) = d by omega]
    exact k1
  · rw [uA_s, pk_cpy_in (by omega) (by omega), uA_n (by decide), show 0 + (d - 0) = d by omega]
    exact k2
theorem wkM0_at {v : Mm} {dot : Int32} : ∀ n, ∀ a j, itr (fun i w => upd2 (upd2 w 75 i (if nI i = dot then 1 else 0)) 77 i (if nI i = dot then 0 else 1000000)) n v a j = if a = 75 ∧ j < n then (if nI j = dot then 1 else 0) else if a = 77 ∧ j < n then (if nI j = dot then 0 else 1000000) else v a j
  | 0, a, j => by rw [if_neg (by omega), if_neg (by omega)]; rfl
  | n + 1, a, j => by
    rw [itr_s]
    have ih := wkM0_at (v := v) (dot := dot) n
    by_cases c : a = 77 ∧ j = n
    · obtain ⟨rfl, rfl⟩ := c
      rw [u2_s]
      exact (if_neg (by omega)).trans (if_pos ⟨rfl, by omega⟩) |>.symm
    · rw [u2_n c]
      by_cases c2 : a = 75 ∧ j = n
      · obtain ⟨rfl, rfl⟩ := c2
        rw [u2_s]
        exact (if_pos ⟨rfl, by omega⟩).symm
      · rw [u2_n c2, ih]
        by_cases c3 : a = 75 ∧ j < n
        · exact (if_pos c3).trans (if_pos (show a = 75 ∧ j < n + 1 by omega)).symm
        · refine (if_neg c3).trans (Eq.trans ?_ (if_neg (show ¬ (a = 75 ∧ j < n + 1) by omega)).symm)
          by_cases c4 : a = 77 ∧ j < n
          · exact (if_pos c4).trans (if_pos (show a = 77 ∧ j < n + 1 by omega)).symm
          · exact (if_neg c4).trans (if_neg (show ¬ (a = 77 ∧ j < n + 1) by omega)).symm
theorem rg_away {v : Mm} {k a j : Nat} {dot : Int32} (h5 : a ≠ 75) (h6 : a ≠ 76) (h7 : a ≠ 77) (h8 : a ≠ 78) : ∀ c, itr (fun _ w => wkO w k) c (wkM0 v dot) a j = v a j
  | 0 => by
    show wkM0 v dot a j = v a j
    unfold wkM0
    rw [wkM0_at, if_neg (fun q => h5 q.1), if_neg (fun q => h7 q.1)]
  | c + 1 => by rw [itr_s, wkO_away h5 h6 h7 h8]; exact rg_away h5 h6 h7 h8 c
theorem p8le : ∀ c, c ≤ 4 → 8 ^ c ≤ 4096 := by decide
theorem rg_rel {t : Fl} {v : Mm} {k s0 : Nat} (hk : kd k = 2) (ht : ∀ e, e < 8 → acF (v k 1) (v k 2) (v k 3) (nI e) = nI (t e) ∧ t e ≤ 7) (hs : s0 < 25) : ∀ c, c ≤ 4 → PA (itr (fun _ w => wkO w k) c (wkM0 v (nI s0))) (itr (fun _ A => g2W t A) c (A0W s0))
  | 0, _ => by
    intro d hd
    show wkM0 v (nI s0) 75 d = nI (A0W s0 d).1 ∧ wkM0 v (nI s0) 77 d = nI (A0W s0 d).2
    unfold wkM0 A0W
    rw [wkM0_at, wkM0_at]
    by_cases c : d = s0
    · subst c
      rw [if_pos (show d = d from rfl)]
      exact ⟨(if_pos ⟨rfl, hd⟩).trans (if_pos rfl), (if_neg (by omega)).trans ((if_pos ⟨rfl, hd⟩).trans (if_pos rfl))⟩
    · have c' : ¬ nI d = nI s0 := fun z => c (nIj (by omega) (by omega) z)
      rw [if_neg c]
      exact ⟨(if_pos ⟨rfl, hd⟩).trans (if_neg c'), (if_neg (by omega)).trans ((if_pos ⟨rfl, hd⟩).trans (if_neg c'))⟩
  | c + 1, hc => by
    have ih := rg_rel hk ht hs c (by omega)
    rw [itr_s, itr_s]
    refine wkO_rel (fun e he => ?_) ih (fun d hd => ?_)
    · have h5 := pen_ne hk 75 (by decide)
      have h6 := pen_ne hk 76 (by decide)
      have h7 := pen_ne hk 77 (by decide)
      have h8 := pen_ne hk 78 (by decide)
      rw [rg_away h5 h6 h7 h8, rg_away h5 h6 h7 h8, rg_away h5 h6 h7 h8]
      exact ht e he
    · rw [rings_eq (fun e he => (ht e he).2) hs c (by omega)]
      have := fuW_wp (t := t) (fun e he => (ht e he).2) (s0 := s0) (c := c) (d := d) hs (by omega) (8 ^ c)
      have p8 := p8le c (by omega)
      exact ⟨by omega, this.1.2⟩
theorem rb_wk {u : Mm} {p : Nat} {t : Fl} (ht : ∀ e, e < 8 → thM u 0 p (nI e) = nI (t e) ∧ t e ≤ 7) : ∀ m dot s l, dot < 25 → rbR u p m (nI dot) (nI s) l = (match wkW t m dot s l with | none => -9 | some q => if nI q.1 = u 82 p then nI q.2 else -9)
  | 0, _, _, _, _ => rfl
  | m + 1, dot, s, l, hd => by
    have h8 : l % 8 < 8 := by omega
    unfold rbR wkW
    by_cases hv : nvN dot (l % 8) = true
    · obtain ⟨v1, v2, v3⟩ := nv_ok hd h8 hv
      rw [if_neg v1, if_pos hv, v3, (ht _ h8).1, nI_add]
      exact rb_wk ht m _ _ _ v2
    · rw [if_pos (nv_no hv), if_neg hv]
theorem rn_rel {u : Mm} {p c s0 : Nat} {t : Fl} (ht : ∀ e, e < 8 → thM u 0 p (nI e) = nI (t e) ∧ t e ≤ 7) (hs : s0 < 25) (e0 : u 82 p = nI s0) (hc : c ≤ 4) : ∀ L, L ≤ 4096 → itr (rgS u p c) L (0, -9) = (nI (fuW t s0 c s0 L).1, if (fuW t s0 c s0 L).1 = 0 then -9 else nI (fuW t s0 c s0 L).2)
  | 0, _ => rfl
  | L + 1, hL => by
    have ih := rn_rel ht hs e0 hc L (by omega)
    have hw := fuW_wp (t := t) (fun e he => (ht e he).2) (s0 := s0) (c := c) (d := s0) hs hc L
    rw [itr_s, ih]
    have eL : fuW t s0 c s0 (L + 1) = adP (fuW t s0 c s0 L) (ctW s0 (wkW t c s0 0 L)) := rfl
    rw [eL]
    generalize fuW t s0 c s0 L = X at *
    have er : rbR u p c (u 82 p) 0 L = (match wkW t c s0 0 L with | none => -9 | some q => if nI q.1 = u 82 p then nI q.2 else -9) := by
      have := rb_wk ht c s0 0 L hs
      rw [← e0] at this
      exact this
    have non : rbR u p c (u 82 p) 0 L = -9 → rgS u p c L (nI X.1, if X.1 = 0 then -9 else nI X.2) = (nI X.1, if X.1 = 0 then -9 else nI X.2) := by
      intro h9
      unfold rgS
      rw [h9]
      refine Prod.ext ?_ ?_
      · show nI X.1 + (if (-9 : Int32) = -9 then 0 else 1) = nI X.1
        rw [if_pos rfl]
        exact nI_add X.1 0
      · show (if ¬ (-9 : Int32) = -9 ∧ ((if X.1 = 0 then (-9 : Int32) else nI X.2) = -9 ∨ (-9 : Int32) < (if X.1 = 0 then (-9 : Int32) else nI X.2)) then (-9 : Int32) else (if X.1 = 0 then (-9 : Int32) else nI X.2)) = _
        exact if_neg (fun q => q.1 rfl)
    cases hk : wkW t c s0 0 L with
    | none =>
      rw [hk] at er
      rw [non er, show ctW s0 none = Zp from rfl, adP_Z hw.1.2]
    | some q =>
      rw [hk] at er
      obtain ⟨q1, q2⟩ := wkW_ok (fun e he => (ht e he).2) c s0 0 L q hs hk
      by_cases z : q.1 = s0
      · have e1 : rbR u p c (u 82 p) 0 L = nI q.2 := er.trans (if_pos (by rw [z, e0]))
        have e2 : ctW s0 (some q) = (1, q.2) := if_pos z
        have n9 : ¬ nI q.2 = -9 := nI_ne9 (by omega)
        have e3 : adP X (1, q.2) = (X.1 + 1, min X.2 q.2) := rfl
        rw [e2, e3, if_neg (show ¬ X.1 + 1 = 0 by omega)]
        unfold rgS
        rw [e1]
        refine Prod.ext ?_ ?_
        · show nI X.1 + (if nI q.2 = -9 then 0 else 1) = _
          rw [if_neg n9]
          exact nI_1 X.1
        show (if ¬ nI q.2 = -9 ∧ ((if X.1 = 0 then (-9 : Int32) else nI X.2) = -9 ∨ nI q.2 < (if X.1 = 0 then (-9 : Int32) else nI X.2)) then nI q.2 else (if X.1 = 0 then (-9 : Int32) else nI X.2)) = nI (min X.2 q.2)
        have hx2 := hw.1.2
        by_cases x0 : X.1 = 0
        · have := hw.1.1 x0
          have ez : (if X.1 = 0 then (-9 : Int32) else nI X.2) = -9 := if_pos x0
          refine (if_pos ⟨n9, Or.inl ez⟩).trans ?_
          rw [this]
          show _ = nI (min 1000000 q.2)
          rw [Nat.min_eq_right (by omega)]
        · simp only [if_neg x0]
          have n9' : ¬ nI X.2 = -9 := nI_ne9 (by omega)
          by_cases y : q.2 < X.2
          · rw [if_pos ⟨n9, Or.inr (nI_lt y (by omega))⟩, Nat.min_eq_right (by omega)]
          · rw [if_neg (fun w => by
              rcases w.2 with w2 | w2
              · exact n9' w2
              · exact nI_nlt (a := q.2) (b := X.2) (by omega) (by omega) w2), Nat.min_eq_left (by omega)]
      · have e1 : rbR u p c (u 82 p) 0 L = -9 := er.trans (if_neg (fun y => z (nIj (by omega) (by omega) (y.trans e0))))
        have e2 : ctW s0 (some q) = Zp := if_neg z
        rw [non e1, e2, adP_Z hw.1.2]
/-! nibs -/
theorem pl_sz : ∀ i, i < 7 → ∀ j, j < 7 → ∀ e, e < 8 → (acF 0 (nI i - 3) (nI j - 3) (nI e) == szF (acrF (nI e) * (nI j - 3) - uprF (nI e) * (nI i - 3))) = true := by decide +kernel
def NOk (v u : Mm) (c : Nat) : Prop := v 71 1 = 0 ∧ v 69 = u 89 ∧ v 70 = u 90 ∧ WOk (u 89) c
theorem nf_fi {v u : Mm} {c i j : Nat} (h : NOk v u c) (hi : i < 7) (hj : j < 7) : ∀ m e, e + m = c → ∀ s : Int32, (s = 0 → itr (fun x => nfS u (nI i - 3) (nI j - 3) (e + x)) m s = 0) ∧ (s = 1 → itr (fun x => nfS u (nI i - 3) (nI j - 3) (e + x)) m s = fiR v (nI i - 3) (nI j - 3) m e)
  | 0, e, _, s => ⟨fun z => z, fun z => z⟩
  | m + 1, e, he, s => by
    obtain ⟨h1, h2, h3, h4⟩ := h
    have ih := nf_fi ⟨h1, h2, h3, h4⟩ hi hj m (e + 1) (by omega)
    have es : ∀ s, itr (fun x => nfS u (nI i - 3) (nI j - 3) (e + x)) (m + 1) s = itr (fun x => nfS u (nI i - 3) (nI j - 3) (e + 1 + x)) m (nfS u (nI i - 3) (nI j - 3) e s) := by
      intro s
      rw [show m + 1 = 1 + m by omega, itr_add]
      have ef : (fun i_1 => nfS u (nI i - 3) (nI j - 3) (e + (1 + i_1))) = fun x => nfS u (nI i - 3) (nI j - 3) (e + 1 + x) := by
        funext x
        rw [Nat.add_assoc]
      rw [ef]
      rfl
    obtain ⟨y, hy, ey⟩ := h4 e (by omega)
    rw [es]
    refine ⟨fun z => ?_, fun z => ?_⟩
    · have : nfS u (nI i - 3) (nI j - 3) e s = 0 := if_pos z
      rw [this]
      exact (ih 0).1 rfl
    · subst z
      unfold fiR
      have hp := pl_sz i hi j hj y hy
      have hp2 : acF 0 (nI i - 3) (nI j - 3) (nI y) = szF (acrF (nI y) * (nI j - 3) - uprF (nI y) * (nI i - 3)) := by simpa using hp
      rw [h1, h2, h3, ey, hp2]
      have en : nfS u (nI i - 3) (nI j - 3) e 1 = if szF (acrF (nI y) * (nI j - 3) - uprF (nI y) * (nI i - 3)) = u 90 e then 1 else 0 := by
        unfold nfS
        rw [if_neg (by decide), ey]
      rw [en]
      split
      · exact (ih 1).2 rfl
      · exact (ih 0).1 rfl
theorem nf_eq {v u : Mm} {c k : Nat} (h : NOk v u c) (hk : k < 49) : nfF u c k = fiF v c (nI (k / 7) - 3) (nI (k % 7) - 3) := by
  unfold nfF fiF
  have e1 : (fun x => nfS u (nI (k / 7) - 3) (nI (k % 7) - 3) (0 + x)) = nfS u (nI (k / 7) - 3) (nI (k % 7) - 3) := by
    funext x
    rw [Nat.zero_add]
  have key := nf_fi (i := k / 7) (j := k % 7) h (by omega) (by omega) c 0 (by omega)
  rw [e1] at key
  by_cases z : nI (k / 7) - 3 = 0 ∧ nI (k % 7) - 3 = 0
  · rw [if_pos z, if_neg (fun y => y.elim (fun q => q z.1) (fun q => q z.2))]
    exact (key 0).1 rfl
  · rw [if_neg z, if_pos (by
      by_cases q : nI (k / 7) - 3 = 0
      · exact Or.inr (fun y => z ⟨q, y⟩)
      · exact Or.inl q)]
    exact (key 1).2 rfl
def fsR (f : Nat → Bool) (g : Nat → Int32) : Nat → Nat → Int32
  | 0, _ => -9
  | m + 1, k => if f k = true then g k else fsR f g m (k + 1)
theorem fsR_s (f : Nat → Bool) (g : Nat → Int32) (m k : Nat) : fsR f g (m + 1) k = if f k = true then g k else fsR f g m (k + 1) := rfl
def fkB (v : Mm) (c k : Nat) : Bool := !(fiF v c (nI (k / 7) - 3) (nI (k % 7) - 3) == 0)
def gkI (k : Nat) : Int32 := 10 * nI (k / 7) + nI (k % 7)
theorem fk_t {v : Mm} {c k : Nat} : fkB v c k = true ↔ ¬ fiF v c (nI (k / 7) - 3) (nI (k % 7) - 3) = 0 := by
  unfold fkB
  simp
theorem fnB_fs {v : Mm} {c a M : Nat} : ∀ m b, b + m ≤ 7 → (match fnB v c a m b with | some r => r | none => fsR (fkB v c) gkI M (7 * a + b + m)) = fsR (fkB v c) gkI (m + M) (7 * a + b)
  | 0, b, _ => by rw [Nat.zero_add]; rfl
  | m + 1, b, hb => by
    have ih := fnB_fs (v := v) (c := c) (a := a) (M := M) m (b + 1) (by omega)
    rw [show m + 1 + M = m + M + 1 by omega]
    rw [fsR_s]
    unfold fnB
    have e1 : (7 * a + b) / 7 = a := by omega
    have e2 : (7 * a + b) % 7 = b := by omega
    have ef : fkB v c (7 * a + b) = true ↔ ¬ fiF v c (nI a - 3) (nI b - 3) = 0 := by rw [fk_t, e1, e2]
    by_cases z : fiF v c (nI a - 3) (nI b - 3) = 0
    · rw [if_pos z, if_neg (fun y => ef.mp y z), show 7 * a + b + 1 = 7 * a + (b + 1) by omega, ← ih, show 7 * a + b + (m + 1) = 7 * a + (b + 1) + m by omega]
    · rw [if_neg z, if_pos (ef.mpr z)]
      unfold gkI
      rw [e1, e2]
theorem fnA_fs {v : Mm} {c : Nat} : ∀ m a, fnA v c m a = fsR (fkB v c) gkI (7 * m) (7 * a)
  | 0, _ => rfl
  | m + 1, a => by
    have ih := fnA_fs (v := v) (c := c) m (a + 1)
    have key := fnB_fs (v := v) (c := c) (a := a) (M := 7 * m) 7 0 (by omega)
    rw [show 7 * (m + 1) = 7 + 7 * m by omega, show 7 * a = 7 * a + 0 by omega, ← key]
    unfold fnA
    rw [ih, show 7 * (a + 1) = 7 * a + 0 + 7 by omega]
    cases fnB v c a 7 0 <;> rfl
theorem fs_none {f : Nat → Bool} {g : Nat → Int32} : ∀ m k, (∀ j, k ≤ j → j < k + m → f j = false) → fsR f g m k = -9
  | 0, _, _ => rfl
  | m + 1, k, h => by
    unfold fsR
    rw [h k (Nat.le_refl _) (by omega), if_neg (by decide)]
    exact fs_none m (k + 1) (fun j h1 h2 => h j (by omega) (by omega))
theorem fs_some {f : Nat → Bool} {g : Nat → Int32} {i : Nat} : ∀ m k, k ≤ i → i < k + m → f i = true → (∀ j, k ≤ j → j < i → f j = false) → fsR f g m k = g i
  | 0, k, h1, h2, _, _ => by omega
  | m + 1, k, h1, h2, hf, h => by
    unfold fsR
    by_cases c : k = i
    · subst c; rw [if_pos hf]
    · rw [h k (Nat.le_refl _) (by omega), if_neg (by decide)]
      exact fs_some m (k + 1) (by omega) (by omega) hf (fun j h3 h4 => h j (by omega) h4)
theorem nm_inv {v u : Mm} {c : Nat} (h : NOk v u c) : ∀ k, k ≤ 49 → ∃ n : Nat, n ≤ k ∧ (itr (nbS u c) k (0, -9)).1 = nI n ∧ ((n = 0 ∧ (itr (nbS u c) k (0, -9)).2 = -9 ∧ ∀ j, j < k → fkB v c j = false) ∨ (0 < n ∧ ∃ i, i < k ∧ fkB v c i = true ∧ (∀ j, j < i → fkB v c j = false) ∧ (itr (nbS u c) k (0, -9)).2 = gkI i))
  | 0, _ => ⟨0, Nat.le_refl _, rfl, Or.inl ⟨rfl, rfl, fun j hj => absurd hj (Nat.not_lt_zero j)⟩⟩
  | k + 1, hk => by
    obtain ⟨n, h1, h2, h3⟩ := nm_inv h k (by omega)
    rw [itr_s]
    generalize itr (nbS u c) k (0, -9) = s at *
    have en := nf_eq h (k := k) (by omega)
    by_cases z : nfF u c k = 0
    · have fz : fkB v c k = false := by
        unfold fkB
        rw [← en, z]
        rfl
      have es : nbS u c k s = (s.1 + 0, s.2) := by
        unfold nbS
        rw [if_pos z, if_neg (fun q => q.1 z)]
      rw [es]
      refine ⟨n, by omega, ?_, ?_⟩
      · show s.1 + 0 = nI n
        rw [h2]
        exact nI_add n 0
      · rcases h3 with ⟨a1, a2, a3⟩ | ⟨a1, i, a2, a3, a4, a5⟩
        · exact Or.inl ⟨a1, a2, fun j hj => by
            by_cases y : j = k
            · subst y; exact fz
            · exact a3 j (by omega)⟩
        · exact Or.inr ⟨a1, i, by omega, a3, a4, a5⟩
    · have fz : fkB v c k = true := by
        rw [fk_t, ← en]; exact z
      refine ⟨n + 1, by omega, ?_, Or.inr ⟨by omega, ?_⟩⟩
      · show s.1 + (if nfF u c k = 0 then 0 else 1) = _
        rw [if_neg z, h2]
        exact nI_add n 1
      · rcases h3 with ⟨a1, a2, a3⟩ | ⟨a1, i, a2, a3, a4, a5⟩
        · refine ⟨k, by omega, fz, a3, ?_⟩
          show (if ¬ nfF u c k = 0 ∧ s.1 = 0 then _ else s.2) = _
          rw [if_pos ⟨z, by rw [h2, a1]; rfl⟩]
          rfl
        · refine ⟨i, by omega, a3, a4, ?_⟩
          show (if ¬ nfF u c k = 0 ∧ s.1 = 0 then _ else s.2) = _
          rw [if_neg (fun q => nI_ne0 a1 (by omega) (h2.symm.trans q.2))]
          exact a5
theorem nibs_1 {v u : Mm} {c : Nat} (h : NOk v u c) : fnA v c 7 0 = (nmF u c).2 := by
  rw [fnA_fs]
  unfold nmF
  obtain ⟨n, h1, h2, h3⟩ := nm_inv h 49 (Nat.le_refl _)
  rcases h3 with ⟨a1, a2, a3⟩ | ⟨a1, i, a2, a3, a4, a5⟩
  · rw [a2]
    exact fs_none 49 0 (fun j _ hj => a3 j (by omega))
  · rw [a5]
    exact fs_some 49 0 (Nat.zero_le _) (by omega) a3 (fun j _ hj => a4 j hj)
theorem nibs_0 {v u : Mm} {c : Nat} (h : NOk v u c) : cnF v c = (nmF u c).1 := by
  unfold cnF cnR nmF
  have e1 : itr (fun k s => if fiF v c (nI (k / 7) - 3) (nI (k % 7) - 3) = 0 then s else s + 1) (7 * 7) (0 : Int32) = itr (fun a s => itr (fun b s => if fiF v c (nI a - 3) (nI b - 3) = 0 then s else s + 1) 7 s) 7 0 := itr_mul (fun a b s => if fiF v c (nI a - 3) (nI b - 3) = 0 then s else s + 1) 7 (by decide) 7 0
  rw [← e1]
  refine itr_relN (fun (s : Int32) (t : Int32 × Int32) => s = t.1) (n := 49) (N := 49) rfl rfl (fun k s t hk hs => ?_)
  show _ = t.1 + (if nfF u c k = 0 then 0 else 1)
  rw [nf_eq h hk, hs]
  split
  · exact (by grind : t.1 = t.1 + 0)
  · rfl
