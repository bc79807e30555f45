/-- what a class's tables say -/
def Cf (ci : Nat) (C : String) (T : u_T) (N : Nat) (ty : Nat → FieldType) : Prop := vwCl[ci]? = some (C, T, N) ∧ (∀ w ∈ u_ws C T N, w ∈ lw_g) ∧ (∀ k, k < N → parseFieldDescriptor (T k).2.2.1 = some (ty k)) ∧ (∀ a, a < N → ∀ b, b < N → a ≠ b → (T a).2.1 ≠ (T b).2.1) ∧ ci < 11 ∧ nf ci = N
theorem ws_obj {ad : Nat → Nat} {cy : Nat → ClassId} {v : Mm} {L : Lm} {k ci : Nat} (hk : kd k = ci) (hc : ci < 11) : (wsW ad cy v L)[k]? = some (ad k, .inr (ci, (List.range (nf ci)).map (fval ad v L k))) := by
  subst hk
  rw [wsW_get (kd_lt (by omega))]
  unfold cellE
  rw [if_pos hc]
theorem ws_int {ad : Nat → Nat} {cy : Nat → ClassId} {v : Mm} {L : Lm} {k : Nat} (hk : kd k = 11) : (wsW ad cy v L)[k]? = some (ad k, .inl (cy 11, ln k, .inl (v k))) := by
  rw [wsW_get (kd_lt (by omega))]
  unfold cellE
  rw [hk]
  rfl
theorem ws_bool {ad : Nat → Nat} {cy : Nat → ClassId} {v : Mm} {L : Lm} {k : Nat} (hk : kd k = 12) : (wsW ad cy v L)[k]? = some (ad k, .inl (cy 12, ln k, .inl (v k))) := by
  rw [wsW_get (kd_lt (by omega))]
  unfold cellE
  rw [hk]
  rfl
theorem ws_ref {ad : Nat → Nat} {cy : Nat → ClassId} {v : Mm} {L : Lm} {k n : Nat} (hk : kd k = n) (h1 : 13 ≤ n) (h2 : n < 16) : (wsW ad cy v L)[k]? = some (ad k, .inl (cy n, ln k, .inr (.inr (.inr (.inr (fun j => some (ad (tp k j)))))))) := by
  rw [wsW_get (kd_lt (by omega))]
  unfold cellE
  rw [if_neg (by omega), if_neg (by omega), hk]
theorem fv_at {ad : Nat → Nat} {v : Mm} {L : Lm} {k n j : Nat} (hj : j < n) : ((List.range n).map (fval ad v L k))[j]? = some (fval ad v L k j) := by
  rw [List.getElem?_map, List.getElem?_range hj]
  rfl
theorem fv_set {ad : Nat → Nat} {v : Mm} {L : Lm} {k n j : Nat} {x : Int32} (hf : ft (kd k) j = 0 ∨ ft (kd k) j = 1) : ((List.range n).map (fval ad v L k)).set j (.int x) = (List.range n).map (fval ad (upd2 v k j x) L k) := by
  apply List.ext_getElem?
  intro i
  by_cases e : i = j
  · subst e
    by_cases hi : i < n
    · rw [List.getElem?_set_self (by rw [List.length_map, List.length_range]; exact hi), fv_at hi]
      unfold fval upd2
      rcases hf with h | h <;> simp [h]
    · rw [List.getElem?_eq_none (by rw [List.length_set, List.length_map, List.length_range]; omega), List.getElem?_eq_none (by rw [List.length_map, List.length_range]; omega)]
  · rw [List.getElem?_set_ne (Ne.symm e)]
    by_cases hi : i < n
    · rw [fv_at hi, fv_at hi]
      unfold fval upd2
      simp [e]
    · rw [List.getElem?_eq_none (by rw [List.length_map, List.length_range]; omega), List.getElem?_eq_none (by rw [List.length_map, List.length_range]; omega)]
theorem fv_setL {ad : Nat → Nat} {v : Mm} {L : Lm} {k n j : Nat} {x : Int64} (hf : ft (kd k) j = 3) (hu : ∀ i, i < n → i ≠ j → ft (kd k) i ≠ 3) : ((List.range n).map (fval ad v L k)).set j (.long x) = (List.range n).map (fval ad v (updl L k x) k) := by
  apply List.ext_getElem?
  intro i
  by_cases e : i = j
  · subst e
    by_cases hi : i < n
    · rw [List.getElem?_set_self (by rw [List.length_map, List.length_range]; exact hi), fv_at hi]
      unfold fval updl
      simp [hf]
    · rw [List.getElem?_eq_none (by rw [List.length_set, List.length_map, List.length_range]; omega), List.getElem?_eq_none (by rw [List.length_map, List.length_range]; omega)]
  · rw [List.getElem?_set_ne (Ne.symm e)]
    by_cases hi : i < n
    · rw [fv_at hi, fv_at hi]
      unfold fval updl
      simp [hu i hi e]
    · rw [List.getElem?_eq_none (by rw [List.length_map, List.length_range]; omega), List.getElem?_eq_none (by rw [List.length_map, List.length_range]; omega)]
theorem upd2_ne {v : Mm} {k j : Nat} {x : Int32} : ∀ i, i ≠ k → v i = upd2 v k j x i := fun i h => by funext y; unfold upd2; simp [h]
theorem updl_ne {v : Lm} {k : Nat} {x : Int64} : ∀ i, i ≠ k → v i = updl v k x i := fun i h => by unfold updl; simp [h]
theorem updA_ne {v : Mm} {k : Nat} {f : Nat → Int32} : ∀ i, i ≠ k → v i = updA v k f i := fun i h => by unfold updA; simp [h]
theorem ws_putI {ad : Nat → Nat} {cy : Nat → ClassId} {v : Mm} {L : Lm} {k ci j : Nat} {x : Int32} (hk : kd k = ci) (hc : ci < 11) (hf : ft ci j = 0 ∨ ft ci j = 1) : (wsW ad cy v L).set k (ad k, .inr (ci, ((List.range (nf ci)).map (fval ad v L k)).set j (.int x))) = wsW ad cy (upd2 v k j x) L := by
  subst hk
  rw [fv_set hf, ← wsW_set (v' := upd2 v k j x) (L' := L) (kd_lt (by omega)) upd2_ne (fun _ _ => rfl)]
  congr 2
  unfold cellE
  rw [if_pos hc]
theorem ws_putL {ad : Nat → Nat} {cy : Nat → ClassId} {v : Mm} {L : Lm} {k ci j : Nat} {x : Int64} (hk : kd k = ci) (hc : ci < 11) (hf : ft ci j = 3) (hu : ∀ i, i < nf ci → i ≠ j → ft ci i ≠ 3) : (wsW ad cy v L).set k (ad k, .inr (ci, ((List.range (nf ci)).map (fval ad v L k)).set j (.long x))) = wsW ad cy v (updl L k x) := by
  subst hk
  rw [fv_setL hf hu, ← wsW_set (v' := v) (L' := updl L k x) (kd_lt (by omega)) (fun _ _ => rfl) updl_ne]
  congr 2
  unfold cellE
  rw [if_pos hc]
theorem ws_arr {ad : Nat → Nat} {cy : Nat → ClassId} {v : Mm} {L : Lm} {k n : Nat} {f : Nat → Int32} (hk : kd k = n) (h1 : 11 ≤ n) (h2 : n < 13) : (wsW ad cy v L).set k (ad k, .inl (cy n, ln k, .inl f)) = wsW ad cy (updA v k f) L := by
  subst hk
  rw [← wsW_set (v' := updA v k f) (L' := L) (kd_lt (by omega)) updA_ne (fun _ _ => rfl)]
  congr 2
  unfold cellE
  rw [if_neg (by omega), if_pos h2]
  unfold updA
  rw [if_pos rfl]
theorem updA_upd {v : Mm} {k i : Nat} {x : Int32} : updA v k (upd (v k) i x) = upd2 v k i x := by
  funext a y
  unfold updA upd2 upd
  by_cases h : a = k
  · subst h; simp
  · simp [h]
section Rows12
variable {own : String} {b : ByteArray} {nL : Nat} {r : Option FieldType} {d : Nat} {Q : Qt} {pc : Nat} {ls : List (Option Value)} {st : List Value} {v : Mm} {L : Lm}
theorem g_getI {ci j k idx N : Nat} {C : String} {T : u_T} {ty : Nat → FieldType} (cf : Cf ci C T N ty) (hd : decode b pc = .ok (.getfield idx, 3)) (hw : Cond.fieldLink own idx (T j).1 (T j).2.1 (T j).2.2.1 ∈ lw_g) (hj : j < N) (hf : ft ci j < 2) (hk : kd k = ci) (kk : G own b nL r d Q (pc + 3) ls (.int (v k j) :: st) v L) : G own b nL r d Q pc ls (.ref k :: st) v L := by
  intro l D cy ad z p e s m args below meth c H locs lsA hC
  have hC2 := hC
  obtain ⟨hx, hb, hr, hml, hown, hts, hlk, hSx, hP, hS, hL⟩ := hC
  refine va_get (D := D) (Ts := lw_g) (v := .int (v k j)) hx hb hts cf.2.1 hown hSx.1 hP k (ws_obj hk cf.2.2.2.2.1) cf.1 j hj (hts _ hw) (fun _ h => h) ?_ hd (kk l D cy ad z p e s m args below meth c H locs lsA hC2)
  rw [fv_at (by rw [cf.2.2.2.2.2]; exact hj)]
  unfold fval
  rw [hk, if_neg (by omega), if_neg (by omega)]
theorem g_getR {ci j k idx N : Nat} {C : String} {T : u_T} {ty : Nat → FieldType} (cf : Cf ci C T N ty) (hd : decode b pc = .ok (.getfield idx, 3)) (hw : Cond.fieldLink own idx (T j).1 (T j).2.1 (T j).2.2.1 ∈ lw_g) (hj : j < N) (hf : ft ci j = 2) (hk : kd k = ci) (q : Nat) (hq : tp k j = q) (kk : G own b nL r d Q (pc + 3) ls (.ref q :: st) v L) : G own b nL r d Q pc ls (.ref k :: st) v L := by
  intro l D cy ad z p e s m args below meth c H locs lsA hC
  have hC2 := hC
  subst hq
  obtain ⟨hx, hb, hr, hml, hown, hts, hlk, hSx, hP, hS, hL⟩ := hC
  refine va_get (D := D) (Ts := lw_g) (v := .ref (ad (tp k j))) hx hb hts cf.2.1 hown hSx.1 hP k (ws_obj hk cf.2.2.2.2.1) cf.1 j hj (hts _ hw) (fun _ h => h) ?_ hd (kk l D cy ad z p e s m args below meth c H locs lsA hC2)
  rw [fv_at (by rw [cf.2.2.2.2.2]; exact hj)]
  unfold fval
  rw [hk, if_pos hf]
theorem g_getL {ci j k idx N : Nat} {C : String} {T : u_T} {ty : Nat → FieldType} (cf : Cf ci C T N ty) (hd : decode b pc = .ok (.getfield idx, 3)) (hw : Cond.fieldLink own idx (T j).1 (T j).2.1 (T j).2.2.1 ∈ lw_g) (hj : j < N) (hf : ft ci j = 3) (hk : kd k = ci) (kk : G own b nL r d Q (pc + 3) ls (.long (L k) :: st) v L) : G own b nL r d Q pc ls (.ref k :: st) v L := by
  intro l D cy ad z p e s m args below meth c H locs lsA hC
  have hC2 := hC
  obtain ⟨hx, hb, hr, hml, hown, hts, hlk, hSx, hP, hS, hL⟩ := hC
  refine va_get (D := D) (Ts := lw_g) (v := .long (L k)) hx hb hts cf.2.1 hown hSx.1 hP k (ws_obj hk cf.2.2.2.2.1) cf.1 j hj (hts _ hw) (fun _ h => h) ?_ hd (kk l D cy ad z p e s m args below meth c H locs lsA hC2)
  rw [fv_at (by rw [cf.2.2.2.2.2]; exact hj)]
  unfold fval
  rw [hk, if_neg (by omega), if_pos hf]
theorem g_putI {ci j k idx N : Nat} {C : String} {T : u_T} {ty : Nat → FieldType} {x : Int32} (cf : Cf ci C T N ty) (hd : decode b pc = .ok (.putfield idx, 3)) (hw : Cond.fieldLink own idx (T j).1 (T j).2.1 (T j).2.2.1 ∈ lw_g) (hj : j < N) (hfin : (T j).2.2.2 = false) (hty : ty j = .int) (hf : ft ci j = 0) (hk : kd k = ci) (kk : G own b nL r d Q (pc + 3) ls st (upd2 v k j x) L) : G own b nL r d Q pc ls (.int x :: .ref k :: st) v L := by
  intro l D cy ad z p e s m args below meth c H locs lsA hC
  obtain ⟨hx, hb, hr, hml, hown, hts, hlk, hSx, hP, hS, hL⟩ := hC
  refine va_put (D := D) (Ts := lw_g) (ty := .int) (v := .int x) hx hb hts cf.2.1 ty cf.2.2.1 cf.2.2.2.1 hown hSx.1 hP (hSx.2.1.D cy v L) hS k (ws_obj hk cf.2.2.2.2.1) cf.1 j hj (hts _ hw) (fun _ h => h) hfin (by rw [cf.2.2.1 j hj, hty]) rfl rfl (by rw [List.length_map, List.length_range, cf.2.2.2.2.2]; exact hj) hd (fun H1 locs1 hP1 hD1 hS1 => ?_)
  rw [ws_putI hk cf.2.2.2.2.1 (Or.inl hf)] at hP1
  exact kk l D cy ad z p e s m args below meth c H1 locs1 lsA ⟨hx, hb, hr, hml, hown, hts, hlk, hSx, hP1, hS1, hL⟩
theorem g_putZ {ci j k idx N : Nat} {C : String} {T : u_T} {ty : Nat → FieldType} {x : Int32} (cf : Cf ci C T N ty) (hd : decode b pc = .ok (.putfield idx, 3)) (hw : Cond.fieldLink own idx (T j).1 (T j).2.1 (T j).2.2.1 ∈ lw_g) (hj : j < N) (hfin : (T j).2.2.2 = false) (hty : ty j = .boolean) (hf : ft ci j = 1) (hk : kd k = ci) (h01 : x = 0 ∨ x = 1) (kk : G own b nL r d Q (pc + 3) ls st (upd2 v k j x) L) : G own b nL r d Q pc ls (.int x :: .ref k :: st) v L := by
  intro l D cy ad z p e s m args below meth c H locs lsA hC
  obtain ⟨hx, hb, hr, hml, hown, hts, hlk, hSx, hP, hS, hL⟩ := hC
  refine va_put (D := D) (Ts := lw_g) (ty := .boolean) (v := .int x) hx hb hts cf.2.1 ty cf.2.2.1 cf.2.2.2.1 hown hSx.1 hP (hSx.2.1.D cy v L) hS k (ws_obj hk cf.2.2.2.2.1) cf.1 j hj (hts _ hw) (fun _ h => h) hfin (by rw [cf.2.2.1 j hj, hty]) (by rcases h01 with h | h <;> rw [h] <;> rfl) (by rcases h01 with h | h <;> rw [h] <;> rfl) (by rw [List.length_map, List.length_range, cf.2.2.2.2.2]; exact hj) hd (fun H1 locs1 hP1 hD1 hS1 => ?_)
  rw [ws_putI hk cf.2.2.2.2.1 (Or.inr hf)] at hP1
  exact kk l D cy ad z p e s m args below meth c H1 locs1 lsA ⟨hx, hb, hr, hml, hown, hts, hlk, hSx, hP1, hS1, hL⟩
theorem g_putL {ci j k idx N : Nat} {C : String} {T : u_T} {ty : Nat → FieldType} {x : Int64} (cf : Cf ci C T N ty) (hd : decode b pc = .ok (.putfield idx, 3)) (hw : Cond.fieldLink own idx (T j).1 (T j).2.1 (T j).2.2.1 ∈ lw_g) (hj : j < N) (hfin : (T j).2.2.2 = false) (hty : ty j = .long) (hf : ft ci j = 3) (hu : ∀ i, i < nf ci → i ≠ j → ft ci i ≠ 3) (hk : kd k = ci) (kk : G own b nL r d Q (pc + 3) ls st v (updl L k x)) : G own b nL r d Q pc ls (.long x :: .ref k :: st) v L := by
  intro l D cy ad z p e s m args below meth c H locs lsA hC
  obtain ⟨hx, hb, hr, hml, hown, hts, hlk, hSx, hP, hS, hL⟩ := hC
  refine va_put (D := D) (Ts := lw_g) (ty := .long) (v := .long x) hx hb hts cf.2.1 ty cf.2.2.1 cf.2.2.2.1 hown hSx.1 hP (hSx.2.1.D cy v L) hS k (ws_obj hk cf.2.2.2.2.1) cf.1 j hj (hts _ hw) (fun _ h => h) hfin (by rw [cf.2.2.1 j hj, hty]) rfl rfl (by rw [List.length_map, List.length_range, cf.2.2.2.2.2]; exact hj) hd (fun H1 locs1 hP1 hD1 hS1 => ?_)
  rw [ws_putL hk cf.2.2.2.2.1 hf hu] at hP1
  exact kk l D cy ad z p e s m args below meth c H1 locs1 lsA ⟨hx, hb, hr, hml, hown, hts, hlk, hSx, hP1, hS1, hL⟩
theorem g_iald {k : Nat} {i : Int32} (hd : decode b pc = .ok (.iaload, 1)) (hk : kd k = 11) (hin : vp_in i (ln k)) (kk : G own b nL r d Q (pc + 1) ls (.int (v k i.toNatClampNeg) :: st) v L) : G own b nL r d Q pc ls (.int i :: .ref k :: st) v L := by
  intro l D cy ad z p e s m args below meth c H locs lsA hC
  have hC2 := hC
  obtain ⟨hx, hb, hr, hml, hown, hts, hlk, hSx, hP, hS, hL⟩ := hC
  exact va_iald hx hb hSx.1 hP k 0 (ws_int hk) rfl hin hd (kk l D cy ad z p e s m args below meth c H locs lsA hC2)
theorem g_zald {k : Nat} {i : Int32} (hd : decode b pc = .ok (.baload, 1)) (hk : kd k = 12) (hin : vp_in i (ln k)) (kk : G own b nL r d Q (pc + 1) ls (.int (v k i.toNatClampNeg) :: st) v L) : G own b nL r d Q pc ls (.int i :: .ref k :: st) v L := by
  intro l D cy ad z p e s m args below meth c H locs lsA hC
  have hC2 := hC
  obtain ⟨hx, hb, hr, hml, hown, hts, hlk, hSx, hP, hS, hL⟩ := hC
  exact va_zald hx hb hSx.1 hP k 1 (ws_bool hk) rfl hin hd (kk l D cy ad z p e s m args below meth c H locs lsA hC2)
theorem g_iast {k : Nat} {i x : Int32} (hd : decode b pc = .ok (.iastore, 1)) (hk : kd k = 11) (hin : vp_in i (ln k)) (kk : G own b nL r d Q (pc + 1) ls st (upd2 v k i.toNatClampNeg x) L) : G own b nL r d Q pc ls (.int x :: .int i :: .ref k :: st) v L := by
  intro l D cy ad z p e s m args below meth c H locs lsA hC
  obtain ⟨hx, hb, hr, hml, hown, hts, hlk, hSx, hP, hS, hL⟩ := hC
  refine va_iast hx hb hSx.1 hP (hSx.2.1.D cy v L) hS k 0 (ws_int hk) rfl hin hd (fun H1 locs1 hP1 hD1 hS1 => ?_)
  rw [ws_arr hk (by decide) (by decide), updA_upd] at hP1
  exact kk l D cy ad z p e s m args below meth c H1 locs1 lsA ⟨hx, hb, hr, hml, hown, hts, hlk, hSx, hP1, hS1, hL⟩
theorem g_zast {k : Nat} {i x : Int32} (hd : decode b pc = .ok (.bastore, 1)) (hk : kd k = 12) (hin : vp_in i (ln k)) (h01 : x = 0 ∨ x = 1) (kk : G own b nL r d Q (pc + 1) ls st (upd2 v k i.toNatClampNeg x) L) : G own b nL r d Q pc ls (.int x :: .int i :: .ref k :: st) v L := by
  intro l D cy ad z p e s m args below meth c H locs lsA hC
  obtain ⟨hx, hb, hr, hml, hown, hts, hlk, hSx, hP, hS, hL⟩ := hC
  refine va_zast hx hb hSx.1 hP (hSx.2.1.D cy v L) hS k 1 (ws_bool hk) rfl hin hd (fun H1 locs1 hP1 hD1 hS1 => ?_)
  rw [show vp_nar .boolean x = x by rcases h01 with h | h <;> rw [h] <;> rfl] at hP1
  rw [ws_arr hk (by decide) (by decide), updA_upd] at hP1
  exact kk l D cy ad z p e s m args below meth c H1 locs1 lsA ⟨hx, hb, hr, hml, hown, hts, hlk, hSx, hP1, hS1, hL⟩
theorem tys_ref {cy : Nat → ClassId} {n : Nat} (h1 : 13 ≤ n) (h2 : n < 16) : ∃ C : String, (tysW cy)[n - 11]? = some (cy n, .object C) := by
  rcases (show n = 13 ∨ n = 14 ∨ n = 15 by omega) with h | h | h <;> subst h <;> exact ⟨_, rfl⟩
theorem g_aald {k n : Nat} {i : Int32} (hd : decode b pc = .ok (.aaload, 1)) (hk : kd k = n) (h1 : 13 ≤ n) (h2 : n < 16) (hin : vp_in i (ln k)) (q : Nat) (hq : tp k i.toNatClampNeg = q) (kk : G own b nL r d Q (pc + 1) ls (.ref q :: st) v L) : G own b nL r d Q pc ls (.int i :: .ref k :: st) v L := by
  intro l D cy ad z p e s m args below meth c H locs lsA hC
  have hC2 := hC
  subst hq
  obtain ⟨hx, hb, hr, hml, hown, hts, hlk, hSx, hP, hS, hL⟩ := hC
  obtain ⟨C, hC3⟩ := tys_ref (cy := cy) h1 h2
  exact va_aldq hx hb hSx.1 hP k (n - 11) (ws_ref hk h1 h2) hC3 hin hd (kk l D cy ad z p e s m args below meth c H locs lsA hC2)
theorem g_alen {k : Nat} (hd : decode b pc = .ok (.arraylength, 1)) (hk : kd k = 11) (kk : G own b nL r d Q (pc + 1) ls (.int (Int32.ofNat (ln k)) :: st) v L) : G own b nL r d Q pc ls (.ref k :: st) v L := by
  intro l D cy ad z p e s m args below meth c H locs lsA hC
  have hC2 := hC
  obtain ⟨hx, hb, hr, hml, hown, hts, hlk, hSx, hP, hS, hL⟩ := hC
  exact va_alen hx hb hSx.1 hP k 0 (ws_int hk) (ty := .int) rfl rfl hd (kk l D cy ad z p e s m args below meth c H locs lsA hC2)
/-! static arrays: places 100 to 105 -/
theorem g_gets {j idx : Nat} (hd : decode b pc = .ok (.getstatic idx, 3)) (hj : j < 6) (hw : Cond.fieldLink own idx "BroadNib" (sN j) (sD j) ∈ lw_g) (kk : G own b nL r d Q (pc + 3) ls (.ref (100 + j) :: st) v L) : G own b nL r d Q pc ls st v L := by
  intro l D cy ad z p e s m args below meth c H locs lsA hC
  have hC2 := hC
  obtain ⟨hx, hb, hr, hml, hown, hts, hlk, hSx, hP, hS, hL⟩ := hC
  exact va_gets hx hb (hSx.2.2.2.1 j hj).1 hS hown (hts _ hw) (fun _ h => h) hd (kk l D cy ad z p e s m args below meth c H locs lsA hC2)
theorem g_getsN {j idx : Nat} (hd : decode b pc = .ok (.getstatic idx, 3)) (hj : j < 6) (hw : Cond.fieldLinkNest own idx "BroadNib" (sN j) (sD j) "BroadNib" ∈ nestW) (kk : G own b nL r d Q (pc + 3) ls (.ref (100 + j) :: st) v L) : G own b nL r d Q pc ls st v L := by
  intro l D cy ad z p e s m args below meth c H locs lsA hC
  have hC2 := hC
  obtain ⟨hx, hb, hr, hml, hown, hts, hlk, hSx, hP, hS, hL⟩ := hC
  exact va_getsN hx hb (hSx.2.2.2.1 j hj).1 hS hown (va_Nw.use rfl (hSx.2.2.2.2 _ hw)) (fun _ h => h) hd (kk l D cy ad z p e s m args below meth c H locs lsA hC2)
theorem g_sld {j : Nat} {i : Int32} (hd : decode b pc = .ok (.iaload, 1)) (hj : j < 5) (hin : vp_in i (sL j)) (kk : G own b nL r d Q (pc + 1) ls (.int (svI j i.toNatClampNeg) :: st) v L) : G own b nL r d Q pc ls (.int i :: .ref (100 + j) :: st) v L := by
  intro l D cy ad z p e s m args below meth c H locs lsA hC
  have hC2 := hC
  obtain ⟨hx, hb, hr, hml, hown, hts, hlk, hSx, hP, hS, hL⟩ := hC
  have hT := (hSx.2.2.2.1 j (by omega)).2
  rw [show sT j = .int by unfold sT; rw [if_neg (by omega)]] at hT
  exact va_ti hx hb hT hS hin (v := .int (svI j i.toNatClampNeg)) (by unfold sV; rw [if_neg (by omega)]) hd (kk l D cy ad z p e s m args below meth c H locs lsA hC2)
theorem g_slld {i : Int32} (hd : decode b pc = .ok (.laload, 1)) (hin : vp_in i 13) (kk : G own b nL r d Q (pc + 1) ls (.long (svJ i.toNatClampNeg) :: st) v L) : G own b nL r d Q pc ls (.int i :: .ref 105 :: st) v L := by
  intro l D cy ad z p e s m args below meth c H locs lsA hC
  have hC2 := hC
  obtain ⟨hx, hb, hr, hml, hown, hts, hlk, hSx, hP, hS, hL⟩ := hC
  have hT := (hSx.2.2.2.1 5 (by omega)).2
  exact va_tl hx hb hT hS hin (v := .long (svJ i.toNatClampNeg)) rfl hd (kk l D cy ad z p e s m args below meth c H locs lsA hC2)
theorem g_slen {j : Nat} (hd : decode b pc = .ok (.arraylength, 1)) (hj : j < 6) (kk : G own b nL r d Q (pc + 1) ls (.int (Int32.ofNat (sL j)) :: st) v L) : G own b nL r d Q pc ls (.ref (100 + j) :: st) v L := by
  intro l D cy ad z p e s m args below meth c H locs lsA hC
  have hC2 := hC
  obtain ⟨hx, hb, hr, hml, hown, hts, hlk, hSx, hP, hS, hL⟩ := hC
  have hT := ((hSx.2.2.2.1 j hj).2).kept hS.2.1
  obtain ⟨cell, h1, h2, h3, h4, h5, h6⟩ := hT
  exact W.alen hx hb h1 h2 h5 rfl rfl hd (kk l D cy ad z p e s m args below meth c H locs lsA hC2)
end Rows12
