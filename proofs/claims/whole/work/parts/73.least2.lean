/-! the two memories' ways, by one way of reckoning -/
def PL (u w : Mm) (F : Fl) : Prop := (∀ d, d < 25 → w 88 d = nI (F d) ∧ F d ≤ 1000000) ∧ w 80 = u 80 ∧ w 82 = u 82
theorem rlm_rel {u : Mm} {p : Nat} {t : Fl} (ht : ∀ e, e < 8 → thM u 0 p (nI e) = nI (t e) ∧ t e ≤ 7) {k : Nat} {w : Mm} {F : Fl} (hk : k < 200) (h : PL u w F) : PL u (rlm p k w) (rkN (fun e => 1000 * t e + 1) k F) := by
  obtain ⟨h1, h2, h3⟩ := h
  have hd : k / 8 < 25 := by omega
  have he : k % 8 < 8 := by omega
  have hth : thM w 0 p (nI (k % 8)) = nI (t (k % 8)) := by
    rw [← (ht _ he).1]
    unfold thM
    rw [h2, h3]
  have h7 := (ht _ he).2
  have key : ∀ d, d < 25 → rlm p k w 88 d = nI (rkN (fun e => 1000 * t e + 1) k F d) := by
    intro d hd2
    unfold rlm rkN rN
    by_cases hv : nvN (k / 8) (k % 8) = true
    · obtain ⟨v1, v2, v3⟩ := nv_ok hd he hv
      have ew : wyF w p k = nI (F (nN (k / 8) (k % 8)) + (1000 * t (k % 8) + 1)) := by
        unfold wyF
        rw [if_neg v1, v3, nI_clamp (by omega), (h1 _ v2).1, hth, show (1000 : Int32) = nI 1000 from rfl, pk_mul, nI_add, nI_1, Nat.add_assoc]
      have b1 := (h1 _ v2).2
      have b2 := (h1 _ hd).2
      rw [if_pos hv, ew, (h1 _ hd).1]
      by_cases c : F (nN (k / 8) (k % 8)) + (1000 * t (k % 8) + 1) < F (k / 8)
      · rw [if_pos (nI_lt c (by omega)), if_pos c]
        by_cases z : d = k / 8
        · subst z
          rw [u2_s]
          show _ = nI (if _ = _ then _ else _)
          rw [if_pos rfl]
        · rw [u2_n (fun q => z q.2), (h1 d hd2).1]
          show _ = nI (if _ = _ then _ else _)
          rw [if_neg z]
      · rw [if_neg (nI_nlt (by omega) (by omega)), if_neg c]
        by_cases z : d = k / 8
        · subst z; rw [u2_s]
        · rw [u2_n (fun q => z q.2), (h1 d hd2).1]
    · rw [if_neg hv]
      have ew : wyF w p k = 1000000 := by unfold wyF; rw [if_pos (nv_no hv)]
      have b2 := (h1 _ hd).2
      rw [ew, (h1 _ hd).1, if_neg (show ¬ (1000000 : Int32) < nI (F (k / 8)) from nI_nlt (a := 1000000) b2 (by decide))]
      by_cases z : d = k / 8
      · subst z; rw [u2_s]
      · rw [u2_n (fun q => z q.2), (h1 d hd2).1]
  refine ⟨fun d hd2 => ⟨key d hd2, Nat.le_trans (rN_le) (h1 d hd2).2⟩, ?_, ?_⟩
  · unfold rlm; rw [u2_g (by decide)]; exact h2
  · unfold rlm; rw [u2_g (by decide)]; exact h3
theorem itr_relN {σ τ : Type} {f : Nat → σ → σ} {g : Nat → τ → τ} (P : σ → τ → Prop) {n N : Nat} (hN : n = N) {s : σ} {t : τ} (h : P s t) (hs : ∀ i s t, i < N → P s t → P (f i s) (g i t)) : P (itr f n s) (itr g n t) := by
  subst hN
  exact itr_rel P n s t h hs
theorem ffM_rel {u : Mm} {p g : Nat} {t : Fl} (ht : ∀ e, e < 8 → thM u 0 p (nI e) = nI (t e) ∧ t e ≤ 7) (hg : g < 25) : PL u (ffM u p (nI g)) (fnN 200 (fun e => 1000 * t e + 1) g 25) := by
  unfold ffM fnN
  refine itr_relN (PL u) (N := 25) rfl ?_ (fun _ s F _ h => ?_)
  · have hp := itr_put (k := 88) (v := u) (g := fun i _ => if nI i = nI g then 0 else 1000000) (h := fun i => if nI i = nI g then 0 else 1000000) (fun _ _ _ => rfl) 25
    refine ⟨fun d hd => ?_, ?_, ?_⟩
    · have e1 : fiM u (nI g) 88 d = (if nI d = nI g then 0 else 1000000) := by
        unfold fiM
        rw [hp, if_pos ⟨rfl, hd⟩]
      rw [e1]
      unfold F0N
      by_cases c : d = g
      · subst c; rw [if_pos rfl, if_pos rfl]; exact ⟨rfl, by decide⟩
      · rw [if_neg (fun z => c (nIj (by omega) (by omega) z)), if_neg c]; exact ⟨rfl, by decide⟩
    · funext j
      unfold fiM
      rw [hp, if_neg (by omega)]
    · funext j
      unfold fiM
      rw [hp, if_neg (by omega)]
  · exact itr_relN (PL u) (N := 200) rfl h (fun i s F hi h => rlm_rel ht hi h)
/-! and the other's -/
def PC (t : Fl) (w : Mm) (F : Fl) : Prop := (∀ d, d < 25 → w 74 d = nI (F d) ∧ F d ≤ 1000000) ∧ ∀ e, e < 8 → w 73 e = nI (100 * t e + 1)
theorem rlx_rel {t : Fl} (ht : ∀ e, e < 8 → t e ≤ 7) {d e : Nat} {s : Mm × Int32} {F : Fl} (hd : d < 25) (he : e < 8) (h : PC t s.1 F) : PC t (rlx d e s).1 (rN (fun e => 100 * t e + 1) d e F) := by
  obtain ⟨h1, h2⟩ := h
  have h7 := ht e he
  have b2 := (h1 _ hd).2
  unfold rlx rN
  by_cases hv : nvN d e = true
  · obtain ⟨v1, v2, v3⟩ := nv_ok hd he hv
    have b1 := (h1 _ v2).2
    have ew : cbF s.1 (nI d) (nI e) = nI (F (nN d e) + (100 * t e + 1)) := by
      unfold cbF
      rw [nv_nb hd he, v3, if_pos ⟨of_d25 v2, of_d8 he⟩, nI_clamp (by omega), nI_clamp (by omega), h2 e he, (h1 _ v2).1, nI_add, Nat.add_comm]
    rw [if_pos hv, ew, (h1 d hd).1]
    by_cases c : F (nN d e) + (100 * t e + 1) < F d
    · rw [if_pos (nI_lt c (by omega)), if_pos c]
      refine ⟨fun x hx => ?_, fun y hy => ?_⟩
      · show upd2 s.1 74 d _ 74 x = nI (if x = d then F (nN d e) + (100 * t e + 1) else F x) ∧ (if x = d then F (nN d e) + (100 * t e + 1) else F x) ≤ 1000000
        by_cases z : x = d
        · subst z; rw [u2_s, if_pos rfl]; exact ⟨rfl, by omega⟩
        · rw [u2_n (fun q => z q.2), if_neg z]; exact h1 x hx
      · show upd2 s.1 74 d (nI (F (nN d e) + (100 * t e + 1))) 73 y = _
        rw [u2_n (fun q => absurd q.1 (by decide))]; exact h2 y hy
    · rw [if_neg (nI_nlt (by omega) (by omega)), if_neg c]; exact ⟨h1, h2⟩
  · have ew : cbF s.1 (nI d) (nI e) = 1000000 := by
      unfold cbF
      rw [nv_nb hd he, nv_no hv, if_neg (fun z => absurd z.1.1 (by decide))]
    rw [if_neg hv, ew, (h1 _ hd).1, if_neg (show ¬ (1000000 : Int32) < nI (F d) from nI_nlt (a := 1000000) b2 (by decide))]
    exact ⟨h1, h2⟩
theorem low_rel {t : Fl} (ht : ∀ e, e < 8 → t e ≤ 7) {w : Mm} {F : Fl} (h : PC t w F) : PC t (lowF w).1 (itr (rkN (fun e => 100 * t e + 1)) 200 F) := by
  have e1 : itr (rkN (fun e => 100 * t e + 1)) (8 * 25) F = itr (fun d s => itr (fun e s => rN (fun e => 100 * t e + 1) d e s) 8 s) 25 F := itr_mul (fun d e s => rN (fun e => 100 * t e + 1) d e s) 8 (by decide) 25 F
  have e2 : itr (rkN (fun e => 100 * t e + 1)) 200 F = itr (fun d s => itr (fun e s => rN (fun e => 100 * t e + 1) d e s) 8 s) 25 F := e1
  rw [e2]
  unfold lowF
  exact itr_relN (fun (s : Mm × Int32) (F : Fl) => PC t s.1 F) (N := 25) (g := fun d s => itr (fun e s => rN (fun e => 100 * t e + 1) d e s) 8 s) rfl h (fun d s F hd h2 => itr_relN (fun (s : Mm × Int32) (F : Fl) => PC t s.1 F) (N := 8) (g := fun e s => rN (fun e => 100 * t e + 1) d e s) rfl h2 (fun e s F he h3 => rlx_rel ht hd he h3))
theorem low_01 (w : Mm) : ((lowF w).2 = 0 → (lowF w).1 = w) ∧ ((lowF w).2 = 0 ∨ (lowF w).2 = 1) := by
  unfold lowF
  refine itr_inv (fun (s : Mm × Int32) => (s.2 = 0 → s.1 = w) ∧ (s.2 = 0 ∨ s.2 = 1)) (fun d s hs => ?_) 25 (w, 0) ⟨fun _ => rfl, Or.inl rfl⟩
  refine itr_inv (fun (s : Mm × Int32) => (s.2 = 0 → s.1 = w) ∧ (s.2 = 0 ∨ s.2 = 1)) (fun e s hs => ?_) 8 s hs
  unfold rlx
  split
  · exact ⟨fun z => absurd z (show ¬ (1 : Int32) = 0 by decide), Or.inr rfl⟩
  · exact hs
theorem itr_in {σ : Type} (g : σ → σ) : ∀ (m : Nat) (s : σ), itr (fun _ => g) (m + 1) s = itr (fun _ => g) m (g s)
  | 0, _ => rfl
  | m + 1, s => by
    rw [itr_s, itr_in g m s]
    rfl
theorem itr_fix {σ : Type} {g : σ → σ} {s : σ} (h : g s = s) : ∀ m, itr (fun _ => g) m s = s
  | 0 => rfl
  | m + 1 => by rw [itr_s, itr_fix h m]; exact h
theorem rnd_0 : ∀ (m : Nat) (v : Mm), rndF m 0 v = v
  | 0, _ => rfl
  | _ + 1, _ => if_pos rfl
theorem rnd_itr : ∀ (m : Nat) (v : Mm), rndF m 1 v = itr (fun _ w => (lowF w).1) m v
  | 0, _ => rfl
  | m + 1, v => by
    rw [itr_in (fun w => (lowF w).1) m v]
    show (if (1 : Int32) = 0 then v else rndF m (lowF v).2 (lowF v).1) = _
    rw [if_neg (by decide)]
    obtain ⟨a, b⟩ := low_01 v
    rcases b with z | z
    · have e := a z
      rw [z, rnd_0, e]
      exact (itr_fix (g := fun w => (lowF w).1) e m).symm
    · rw [z]; exact rnd_itr m (lowF v).1
theorem wg_at {v : Mm} {k : Nat} (hk : kd k = 2) (a j : Nat) : wgM v k a j = if a = 73 ∧ j < 8 then 100 * acF (v k 1) (v k 2) (v k 3) (nI j) + 1 else v a j := by
  unfold wgM
  exact itr_put (k := 73) (v := v) (g := fun e w => 100 * acF (w k 1) (w k 2) (w k 3) (nI e) + 1) (h := fun e => 100 * acF (v k 1) (v k 2) (v k 3) (nI e) + 1) (fun e w hw => by
    have h73 := pen_ne hk 73 (by decide)
    show 100 * acF (w k 1) (w k 2) (w k 3) (nI e) + 1 = 100 * acF (v k 1) (v k 2) (v k 3) (nI e) + 1
    rw [hw k 1 h73, hw k 2 h73, hw k 3 h73]) 8 a j
theorem cs_at {v : Mm} {g : Int32} (a j : Nat) : csM v g a j = if a = 74 ∧ j < 25 then (if nI j = g then 0 else 1000000) else v a j := by
  unfold csM
  exact itr_put (k := 74) (v := v) (g := fun d _ => if nI d = g then 0 else 1000000) (h := fun d => if nI d = g then 0 else 1000000) (fun _ _ _ => rfl) 25 a j
theorem low_away {w : Mm} {a j : Nat} (h : a ≠ 74) : (lowF w).1 a j = w a j := by
  unfold lowF
  refine itr_inv (fun (s : Mm × Int32) => s.1 a j = w a j) (fun d s hs => ?_) 25 (w, 0) rfl
  refine itr_inv (fun (s : Mm × Int32) => s.1 a j = w a j) (fun e s hs => ?_) 8 s hs
  unfold rlx
  split
  · show upd2 s.1 74 d _ a j = w a j
    rw [u2_n (fun q => h q.1)]; exact hs
  · exact hs
theorem rk_away {v : Mm} {k : Nat} {g : Int32} (hk : kd k = 2) {a j : Nat} (h1 : a ≠ 73) (h2 : a ≠ 74) : rkM v k g a j = v a j := by
  unfold rkM
  rw [rnd_itr]
  refine itr_inv (f := fun _ w => (lowF w).1) (fun (w : Mm) => w a j = v a j) (fun _ w hw => by rw [low_away h2]; exact hw) 25 _ ?_
  rw [cs_at, if_neg (fun q => h2 q.1), wg_at hk, if_neg (fun q => h1 q.1)]
theorem rk_rel {v : Mm} {k g : Nat} {t : Fl} (hk : kd k = 2) (ht : ∀ e, e < 8 → acF (v k 1) (v k 2) (v k 3) (nI e) = nI (t e) ∧ t e ≤ 7) (hg : g < 25) : PC t (rkM v k (nI g)) (fnN 200 (fun e => 100 * t e + 1) g 25) := by
  unfold rkM fnN
  rw [rnd_itr]
  refine itr_relN (PC t) (N := 25) rfl ?_ (fun _ s F _ h => low_rel (fun e he => (ht e he).2) h)
  refine ⟨fun d hd => ?_, fun e he => ?_⟩
  · rw [cs_at, if_pos ⟨rfl, hd⟩]
    unfold F0N
    by_cases c : d = g
    · subst c; rw [if_pos rfl, if_pos rfl]; exact ⟨rfl, by decide⟩
    · rw [if_neg (fun z => c (nIj (by omega) (by omega) z)), if_neg c]; exact ⟨rfl, by decide⟩
  · rw [cs_at, if_neg (by omega), wg_at hk, if_pos ⟨rfl, he⟩, (ht e he).1, show (100 : Int32) = nI 100 from rfl, pk_mul, nI_1]
theorem df_fw {w u : Mm} {p d : Nat} {t F C : Fl} (hN : ∀ x, x < 25 → ∃ T S : Nat, F x = 1000 * T + S ∧ C x = 100 * T + S ∧ T ≤ 168 ∧ S ≤ 24) (hF : ∀ x, x < 25 → u 88 x = nI (F x)) (hC : PC t w C) (ht : ∀ e, e < 8 → thM u 0 p (nI e) = nI (t e) ∧ t e ≤ 7) (hd : d < 25) : ∀ m e, e + m = 8 → dfR w (nI d) (nI (C d)) m e = fwR u p d m e
  | 0, _, _ => rfl
  | m + 1, e, he => by
    have he8 : e < 8 := by omega
    have ih := df_fw hN hF hC ht hd m (e + 1) (by omega)
    obtain ⟨T, S, t1, t2, t3, t4⟩ := hN d hd
    have h7 := (ht e he8).2
    unfold dfR fwR
    rw [hF d hd]
    by_cases z : F d = 0
    · have z2 : C d = 0 := by omega
      rw [z, z2, if_neg (fun q => absurd q.1 (by decide)), if_neg (by decide)]
      rw [z2] at ih
      rw [ih]
      cases m with
      | zero => rfl
      | succ m =>
        unfold fwR
        rw [hF d hd, z, if_neg (by decide)]
    · have zc : 0 < C d := by omega
      rw [if_pos (show (0 : Int32) < nI (F d) from nI_lt (a := 0) (by omega) (by omega))]
      have zc' : (0 : Int32) < nI (C d) := nI_lt (a := 0) zc (by omega)
      by_cases hv : nvN d e = true
      · obtain ⟨v1, v2, v3⟩ := nv_ok hd he8 hv
        obtain ⟨T', S', s1, s2, s3, s4⟩ := hN _ v2
        have ec : cbF w (nI d) (nI e) = nI (C (nN d e) + (100 * t e + 1)) := by
          unfold cbF
          rw [nv_nb hd he8, v3, if_pos ⟨of_d25 v2, of_d8 he8⟩, nI_clamp (by omega), nI_clamp (by omega), hC.2 e he8, (hC.1 _ v2).1, nI_add, Nat.add_comm]
        have ef : u 88 (ndF (nI d) (nI e)).toNatClampNeg + 1000 * thM u 0 p (nI e) + 1 = nI (F (nN d e) + (1000 * t e + 1)) := by
          rw [v3, nI_clamp (by omega), hF _ v2, (ht e he8).1, show (1000 : Int32) = nI 1000 from rfl, pk_mul, nI_add, nI_1, Nat.add_assoc]
        rw [ec, ef]
        by_cases q : C (nN d e) + (100 * t e + 1) = C d
        · have q2 : F (nN d e) + (1000 * t e + 1) = F d := by omega
          rw [if_pos ⟨zc', by rw [q]⟩, if_pos ⟨v1, by rw [q2]⟩]
        · have q2 : ¬ F (nN d e) + (1000 * t e + 1) = F d := by omega
          rw [if_neg (fun y => q (nIj (by omega) (by omega) y.2)), if_neg (fun y => q2 (nIj (by omega) (by omega) y.2))]
          exact ih
      · have ec : cbF w (nI d) (nI e) = 1000000 := by
          unfold cbF
          rw [nv_nb hd he8, nv_no hv, if_neg (fun z => absurd z.1.1 (by decide))]
        rw [ec, if_neg (fun y => by
          have y2 : nI 1000000 = nI (C d) := y.2
          have := nIj (by omega) (by omega) y2
          omega), if_neg (fun y => y.1 (nv_no hv))]
        exact ih
