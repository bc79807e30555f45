/-! PLACES: every cell of the two worlds has a number (0 to 92); the six static arrays are 100 to 105 -/
abbrev Mm : Type := Nat → Nat → Int32
abbrev Lm : Type := Nat → Int64
def kdL : List Nat := [9, 6, 11, 8, 11, 4, 14, 11, 2, 2, 2, 2, 4, 14, 11, 2, 2, 2, 2, 4, 14, 11, 2, 2, 2, 2, 4, 14, 11, 2, 2, 2, 2, 5, 5, 15, 11, 11, 1, 13, 0, 0, 0, 0, 0, 0, 0, 0, 0, 0, 0, 0, 0, 0, 2, 2, 2, 2, 2, 2, 2, 2, 2, 2, 2, 2, 2, 2, 3, 11, 11, 2, 7, 11, 11, 11, 11, 11, 11, 10, 11, 11, 11, 11, 11, 11, 11, 11, 11, 11, 11, 12, 11]
def kd (k : Nat) : Nat := kdL.getD k 99
def nfL : List Nat := [5, 3, 7, 4, 4, 2, 2, 6, 2, 11, 25]
def nf (c : Nat) : Nat := nfL.getD c 0
def ftL : List (List Nat) := [[2, 0, 0, 0, 0], [2, 0, 0], [0, 0, 0, 0, 0, 0, 1], [2, 2, 2, 0], [2, 2, 0, 0], [2, 1], [2, 0], [2, 2, 2, 2, 2, 2], [2, 0], [2, 2, 2, 2, 2, 2, 2, 2, 2, 2, 3], [0, 2, 2, 2, 2, 2, 0, 0, 2, 0, 0, 0, 0, 2, 0, 0, 0, 2, 2, 0, 2, 2, 3, 2, 2]]
def ft (c j : Nat) : Nat := (ftL.getD c []).getD j 9
def lnL : List Nat := [0, 0, 48, 0, 8, 0, 4, 25, 0, 0, 0, 0, 0, 4, 25, 0, 0, 0, 0, 0, 4, 25, 0, 0, 0, 0, 0, 4, 25, 0, 0, 0, 0, 0, 0, 2, 4, 4, 0, 14, 0, 0, 0, 0, 0, 0, 0, 0, 0, 0, 0, 0, 0, 0, 0, 0, 0, 0, 0, 0, 0, 0, 0, 0, 0, 0, 0, 0, 0, 6, 6, 0, 0, 8, 25, 25, 25, 25, 25, 0, 4, 4, 86, 20, 8, 48, 8, 602, 25, 6, 6, 2, 86]
def ln (k : Nat) : Nat := lnL.getD k 0
def tpL : List (List Nat) := [[1, 3, 5, 12, 38, 68, 72, 35, 36, 37, 0], [2], [], [4], [], [6, 7], [8, 9, 10, 11], [], [], [], [], [], [13, 14], [15, 16, 17, 18], [], [], [], [], [], [20, 21], [22, 23, 24, 25], [], [], [], [], [], [27, 28], [29, 30, 31, 32], [], [], [], [], [], [19], [26], [33, 34], [], [], [39], [40, 41, 42, 43, 44, 45, 46, 47, 48, 49, 50, 51, 52, 53], [54], [55], [56], [57], [58], [59], [60], [61], [62], [63], [64], [65], [66], [67], [], [], [], [], [], [], [], [], [], [], [], [], [], [], [69, 70, 71], [], [], [], [73, 74, 75, 76, 77, 78], [], [], [], [], [], [], [0, 80, 81, 82, 83, 84, 0, 0, 85, 0, 0, 0, 0, 86, 0, 0, 0, 87, 88, 0, 89, 90, 0, 91, 92], [], [], [], [], [], [], [], [], [], [], [], [], []]
def tp (k j : Nat) : Nat := (tpL.getD k []).getD j 0
def snL : List String := ["RIGHT", "UP", "PEN_FIGURES", "STAIN_FIGURES", "ORDERS", "TENS"]
def sN (j : Nat) : String := snL.getD j ""
def sD (j : Nat) : String := if j = 5 then "[J" else "[I"
def sT (j : Nat) : FieldType := if j = 5 then .long else .int
def slL : List Nat := [8, 8, 6, 3, 5, 13]
def sL (j : Nat) : Nat := slL.getD j 0
def svL : List (List Int32) := [[1, 1, 0, -1, -1, -1, 0, 1], [0, 1, 1, 1, 0, -1, -1, -1], [4, 4, 3, 6, 6, 9], [4, 4, 9], [1, 1, 2, 6, 24]]
def svI (j i : Nat) : Int32 := (svL.getD j []).getD i 0
def tenL : List Int64 := [1, 10, 100, 1000, 10000, 100000, 1000000, 10000000, 100000000, 1000000000, 10000000000, 100000000000, 1000000000000]
def svJ (i : Nat) : Int64 := tenL.getD i 0
def sV (j i : Nat) : Value := if j = 5 then .long (svJ i) else .int (svI j i)
def upd2 (v : Mm) (k j : Nat) (x : Int32) : Mm := fun a b => if a = k ∧ b = j then x else v a b
def updA (v : Mm) (k : Nat) (f : Nat → Int32) : Mm := fun a => if a = k then f else v a
def updl (v : Lm) (k : Nat) (x : Int64) : Lm := fun a => if a = k then x else v a
def trv (ad : Nat → Nat) (x : Value) : Value := match x with
  | .ref k => .ref (ad k)
  | y => y
def fval (ad : Nat → Nat) (v : Mm) (L : Lm) (k j : Nat) : Value := if ft (kd k) j = 2 then .ref (ad (tp k j)) else if ft (kd k) j = 3 then .long (L k) else .int (v k j)
def cellE (ad : Nat → Nat) (cy : Nat → ClassId) (v : Mm) (L : Lm) (k : Nat) : va_E :=
  if kd k < 11 then .inr (kd k, (List.range (nf (kd k))).map (fval ad v L k))
  else if kd k < 13 then .inl (cy (kd k), ln k, .inl (v k))
  else .inl (cy (kd k), ln k, .inr (.inr (.inr (.inr (fun j => some (ad (tp k j)))))))
def wsW (ad : Nat → Nat) (cy : Nat → ClassId) (v : Mm) (L : Lm) : va_W := (List.range 93).map (fun k => (ad k, cellE ad cy v L k))
def tysW (cy : Nat → ClassId) : List (ClassId × FieldType) := [(cy 11, .int), (cy 12, .boolean), (cy 13, .object "BroadNib$Act"), (cy 14, .object "BroadNib$Pen"), (cy 15, .object "BroadNib$Slot")]
def isNest (w : Cond) : Bool := match w with
  | .methodLinkNest _ _ _ _ => true
  | .fieldLinkNest _ _ _ _ _ _ => true
  | _ => false
def nestW : List Cond := lw_tbl.filter isNest
def lw_g : List Cond := lw_tbl.filter goodWord
theorem in_g {w : Cond} (i : Nat) (h : lw_tbl[i]? = some w) (hg : goodWord w = true) : w ∈ lw_g := List.mem_filter.mpr ⟨List.mem_of_getElem? h, hg⟩
theorem in_n {w : Cond} (i : Nat) (h : lw_tbl[i]? = some w) (hg : isNest w = true) : w ∈ nestW := List.mem_filter.mpr ⟨List.mem_of_getElem? h, hg⟩
theorem good_g {w : Cond} (h : w ∈ lw_g) : goodWord w = true := (List.mem_filter.mp h).2
theorem kd_lt {k : Nat} (h : kd k < 99) : k < 93 := by
  rcases Nat.lt_or_ge k 93 with q | q
  · exact q
  · exfalso
    have : kd k = 99 := by
      unfold kd
      rw [List.getD_eq_getElem?_getD, List.getElem?_eq_none (by show 93 ≤ k; exact q)]
      rfl
    omega
theorem wsW_get {ad : Nat → Nat} {cy : Nat → ClassId} {v : Mm} {L : Lm} {k : Nat} (h : k < 93) : (wsW ad cy v L)[k]? = some (ad k, cellE ad cy v L k) := by
  unfold wsW
  rw [List.getElem?_map, List.getElem?_range h]
  rfl
theorem cellE_congr {ad : Nat → Nat} {cy : Nat → ClassId} {v v' : Mm} {L L' : Lm} {k : Nat} (hv : v k = v' k) (hL : L k = L' k) : cellE ad cy v L k = cellE ad cy v' L' k := by
  have hf : fval ad v L k = fval ad v' L' k := by
    funext j
    unfold fval
    rw [hv, hL]
  unfold cellE
  rw [hf, hv]
theorem wsW_set {ad : Nat → Nat} {cy : Nat → ClassId} {v v' : Mm} {L L' : Lm} {k : Nat} (h : k < 93) (hv : ∀ i, i ≠ k → v i = v' i) (hL : ∀ i, i ≠ k → L i = L' i) : (wsW ad cy v L).set k (ad k, cellE ad cy v' L' k) = wsW ad cy v' L' := by
  apply List.ext_getElem?
  intro i
  by_cases e : i = k
  · subst e
    rw [wsW_get h, List.getElem?_set_self (by unfold wsW; rw [List.length_map, List.length_range]; exact h)]
  · rw [List.getElem?_set_ne (Ne.symm e)]
    unfold wsW
    rw [List.getElem?_map, List.getElem?_map]
    rcases Nat.lt_or_ge i 93 with q | q
    · rw [List.getElem?_range q]
      show some (ad i, _) = some (ad i, _)
      rw [cellE_congr (hv i e) (hL i e)]
    · rw [List.getElem?_eq_none (by rw [List.length_range]; exact q)]
      rfl
def adD (z : Nat) (ad : Nat → Nat) : Prop := (∀ i j, i < 93 → j < 93 → ad i = ad j → i = j) ∧ ∀ i, i < 93 → z ≤ ad i
theorem wsW_at {ad : Nat → Nat} {cy : Nat → ClassId} {v : Mm} {L : Lm} {k : Nat} {q : Nat × va_E} (h : (wsW ad cy v L)[k]? = some q) : k < 93 ∧ q.1 = ad k := by
  rcases Nat.lt_or_ge k 93 with g | g
  · rw [wsW_get g] at h
    cases h
    exact ⟨g, rfl⟩
  · unfold wsW at h
    rw [List.getElem?_eq_none (by rw [List.length_map, List.length_range]; exact g)] at h
    cases h
theorem adD.D {z : Nat} {ad : Nat → Nat} (h : adD z ad) (cy : Nat → ClassId) (v : Mm) (L : Lm) : va_D (fun q => z ≤ q) (wsW ad cy v L) := by
  refine ⟨fun i j p q h1 h2 e => ?_, fun k q h1 => ?_⟩
  · obtain ⟨a1, a2⟩ := wsW_at h1
    obtain ⟨b1, b2⟩ := wsW_at h2
    exact h.1 i j a1 b1 (by rw [← a2, ← b2]; exact e)
  · obtain ⟨a1, a2⟩ := wsW_at h1
    show z ≤ q.1
    rw [a2]
    exact h.2 k a1
def Stx (ad : Nat → Nat) (z : Nat) (U : State) (H : Heap) : Prop := ∀ j, j < 6 → va_Z "BroadNib" (sN j) (sD j) (.ref (ad (100 + j))) (fun q => z ≤ q) U H ∧ va_T (sT j) (ad (100 + j)) (sL j) (sV j) (fun q => z ≤ q) U H
def Sx (D : va_G) (cy : Nat → ClassId) (ad : Nat → Nat) (z : Nat) (U : State) (H : Heap) : Prop := va_K D vwCl (tysW cy) U ∧ adD z ad ∧ z ≤ H.size ∧ Stx ad z U H ∧ ∀ w ∈ nestW, va_Nw w U
def Wd (D : va_G) (cy : Nat → ClassId) (ad : Nat → Nat) (z : Nat) (v : Mm) (L : Lm) (U : State) : Prop := Sx D cy ad z U U.heap ∧ va_P D vwCl (wsW ad cy v L) U.heap
theorem nest_warm {s U : State} (hW : s.WarmedH U.vm) (h : ∀ w ∈ nestW, va_Nw w s) : ∀ w ∈ nestW, va_Nw w U := by
  intro w hw
  have h1 := h w hw
  have h2 : isNest w = true := (List.mem_filter.mp hw).2
  cases w <;> first | exact va_Nw.warmM hW h1 | exact va_Nw.warmF hW h1 | (exfalso; revert h2; simp [isNest])
theorem nest_same {s U : State} (hW : s.vm = U.vm) (h : ∀ w ∈ nestW, va_Nw w s) : ∀ w ∈ nestW, va_Nw w U := by
  intro w hw
  have h1 := h w hw
  have h2 : isNest w = true := (List.mem_filter.mp hw).2
  refine va_Nw.same ?_ hW h1
  cases w <;> first | rfl | (exfalso; revert h2; simp [isNest]; done)
theorem Sx.move {D : va_G} {cy : Nat → ClassId} {ad : Nat → Nat} {z : Nat} {s U : State} {H0 H : Heap} (h : Sx D cy ad z s H0) (hW : s.WarmedH U.vm) (hz : H0.size ≤ H.size) (hq : ∀ q : Nat, q < H0.size → ¬ z ≤ q → H[q]? = H0[q]?) : Sx D cy ad z U H := by
  obtain ⟨h1, h2, h3, h4, h5⟩ := h
  refine ⟨va_K.moved hW.alike h1, h2, Nat.le_trans h3 hz, fun j hj => ?_, nest_warm hW h5⟩
  obtain ⟨a, b⟩ := h4 j hj
  exact ⟨(a.moved hW.alike).kept hq, (b.moved hW.alike).kept hq⟩
theorem Wd.blind {D : va_G} {cy : Nat → ClassId} {ad : Nat → Nat} {z : Nat} {v : Mm} {L : Lm} {av : List Value} : FrameBlind (va_Pc av (fun U => Wd D cy ad z v L U)) := by
  intro a U g mk q
  obtain ⟨q0, ⟨h1, h2, h3, h4, h5⟩, qP⟩ := q
  refine ⟨q0, ⟨va_K.moved (u := U) (U := U.calling g mk a) (Vm.Alike.refl U.vm) h1, h2, h3, fun j hj => ?_, nest_same (s := U) (U := U.calling g mk a) rfl h5⟩, qP⟩
  obtain ⟨a1, b1⟩ := h4 j hj
  exact ⟨a1.moved (U := U.calling g mk a) (Vm.Alike.refl U.vm), b1.moved (U := U.calling g mk a) (Vm.Alike.refl U.vm)⟩
/-! LOCALS -/
def lvs (ad : Nat → Nat) (ls : List (Option Value)) : List (Nat × Value) := (List.range ls.length).filterMap (fun i => (ls[i]?.join).map (fun x => (i, trv ad x)))
def LR (ad : Nat → Nat) (lsA : Array Slot) (nL : Nat) (ls : List (Option Value)) : Prop := lsA.size = nL ∧ lv_wf lsA ∧ ∀ (i : Nat) (x : Value), ls[i]? = some (some x) → lsA[i]? = some (.val (trv ad x))
theorem lvs_mem {ad : Nat → Nat} {ls : List (Option Value)} {q : Nat × Value} : q ∈ lvs ad ls ↔ ∃ x, ls[q.1]? = some (some x) ∧ q.2 = trv ad x := by
  unfold lvs
  rw [List.mem_filterMap]
  constructor
  · rintro ⟨i, -, h⟩
    cases e : ls[i]? with
    | none => rw [e] at h; cases h
    | some y =>
      cases y with
      | none => rw [e] at h; cases h
      | some x =>
        rw [e] at h
        cases h
        exact ⟨x, e, rfl⟩
  · rintro ⟨x, h1, h2⟩
    refine ⟨q.1, List.mem_range.mpr (List.getElem?_eq_some_iff.mp h1).1, ?_⟩
    rw [h1]
    show some (q.1, trv ad x) = some q
    rw [← h2]
theorem LR.has {ad : Nat → Nat} {lsA : Array Slot} {nL : Nat} {ls : List (Option Value)} (h : LR ad lsA nL ls) : lv_has lsA nL (lvs ad ls) := by
  refine ⟨h.1, h.2.1, fun q hq => ?_⟩
  obtain ⟨x, h1, h2⟩ := lvs_mem.mp hq
  rw [h2]
  exact h.2.2 _ _ h1
theorem trv_cat (ad : Nat → Nat) (x : Value) : (trv ad x).category = x.category := by cases x <;> rfl
/-- no long or double ends at this place -/
def okp (a : Option Value) : Bool := match a with
  | some x => x.category == 1
  | none => true
theorem LR.set {ad : Nat → Nat} {lsA : Array Slot} {nL : Nat} {ls : List (Option Value)} {i : Nat} {w : Value} (hp : ∀ j, j + 1 = i → ∀ a, ls[j]? = some a → okp a = true)
    (h : lv_has lsA nL ((i, trv ad w) :: (lvs ad ls).filter (fun q => !(q.1 == i) && !(q.1 + 1 == i && q.2.category == 2)))) : LR ad lsA nL (ls.set i (some w)) := by
  refine ⟨h.1, h.2.1, fun j x hx => ?_⟩
  by_cases e : j = i
  · subst e
    have hlt : j < ls.length := by
      have := (List.getElem?_eq_some_iff.mp hx).1
      rwa [List.length_set] at this
    rw [List.getElem?_set_self hlt] at hx
    cases hx
    exact h.2.2 _ (List.mem_cons_self)
  · rw [List.getElem?_set_ne (Ne.symm e)] at hx
    refine h.2.2 (j, trv ad x) (List.mem_cons_of_mem _ (List.mem_filter.mpr ⟨lvs_mem.mpr ⟨x, hx, rfl⟩, ?_⟩))
    have h1 : (j == i) = false := by simpa using e
    have h2 : ((j + 1 == i) && (trv ad x).category == 2) = false := by
      by_cases e2 : j + 1 = i
      · have h3 := hp j e2 _ hx
        simp only [okp, beq_iff_eq] at h3
        rw [trv_cat, h3]
        simp
      · have : (j + 1 == i) = false := by simpa using e2
        rw [this]
        rfl
    show (!(j == i) && !((j + 1 == i) && (trv ad x).category == 2)) = true
    rw [h1, h2]
    rfl
theorem LR.set2 {ad : Nat → Nat} {lsA : Array Slot} {nL : Nat} {ls : List (Option Value)} {i : Nat} {w : Value} (hp : ∀ j, j + 1 = i → ∀ a, ls[j]? = some a → okp a = true)
    (h : lv_has lsA nL ((i, trv ad w) :: (lvs ad ls).filter (fun q => !(q.1 == i) && (!(q.1 == i + 1) && !(q.1 + 1 == i && q.2.category == 2))))) : LR ad lsA nL ((ls.set i (some w)).set (i + 1) none) := by
  refine ⟨h.1, h.2.1, fun j x hx => ?_⟩
  by_cases e0 : j = i + 1
  · subst e0
    exfalso
    by_cases hlt : i + 1 < (ls.set i (some w)).length
    · rw [List.getElem?_set_self hlt] at hx
      cases hx
    · rw [List.getElem?_eq_none (by rw [List.length_set]; omega)] at hx
      cases hx
  rw [List.getElem?_set_ne (Ne.symm e0)] at hx
  by_cases e : j = i
  · subst e
    have hlt : j < ls.length := by
      have := (List.getElem?_eq_some_iff.mp hx).1
      rwa [List.length_set] at this
    rw [List.getElem?_set_self hlt] at hx
    cases hx
    exact h.2.2 _ (List.mem_cons_self)
  · rw [List.getElem?_set_ne (Ne.symm e)] at hx
    refine h.2.2 (j, trv ad x) (List.mem_cons_of_mem _ (List.mem_filter.mpr ⟨lvs_mem.mpr ⟨x, hx, rfl⟩, ?_⟩))
    have h1 : (j == i) = false := by simpa using e
    have h0 : (j == i + 1) = false := by simpa using e0
    have h2 : ((j + 1 == i) && (trv ad x).category == 2) = false := by
      by_cases e2 : j + 1 = i
      · have h3 := hp j e2 _ hx
        simp only [okp, beq_iff_eq] at h3
        rw [trv_cat, h3]
        simp
      · have : (j + 1 == i) = false := by simpa using e2
        rw [this]
        rfl
    show (!(j == i) && (!(j == i + 1) && !((j + 1 == i) && (trv ad x).category == 2))) = true
    rw [h1, h2, h0]
    rfl
/-- the locals with which a method begins -/
def ents : List Value → List (Option Value)
  | [] => []
  | x :: t => if x.category = 2 then some x :: none :: ents t else some x :: ents t
theorem ents_at (ad : Nat → Nat) : ∀ (vs : List Value) (n i j : Nat) (x : Value), (ents vs ++ List.replicate n none)[j]? = some (some x) → (i + j, trv ad x) ∈ lv_args i (vs.map (trv ad))
  | [], n, i, j, x, h => by
    exfalso
    have h1 := List.eq_of_mem_replicate (List.mem_of_getElem? h)
    cases h1
  | y :: t, n, i, j, x, h => by
    show (i + j, trv ad x) ∈ (i, trv ad y) :: lv_args (if (trv ad y).category = 2 then i + 2 else i + 1) (t.map (trv ad))
    rw [trv_cat]
    unfold ents at h
    by_cases hc : y.category = 2
    · rw [if_pos hc] at h ⊢
      match j, h with
      | 0, h => cases h; exact List.mem_cons_self
      | 1, h => cases h
      | j + 2, h =>
        have := ents_at ad t n (i + 2) j x h
        rw [show i + 2 + j = i + (j + 2) by omega] at this
        exact List.mem_cons_of_mem _ this
    · rw [if_neg hc] at h ⊢
      match j, h with
      | 0, h => cases h; exact List.mem_cons_self
      | j + 1, h =>
        have := ents_at ad t n (i + 1) j x h
        rw [show i + 1 + j = i + (j + 1) by omega] at this
        exact List.mem_cons_of_mem _ this
theorem ents_len (ad : Nat → Nat) : ∀ vs : List Value, (lg_sl (vs.map (trv ad))).length = (ents vs).length
  | [] => rfl
  | y :: t => by
    have ih := ents_len ad t
    unfold lg_sl at ih ⊢
    rw [List.map_cons, List.flatMap_cons, List.length_append, ih, trv_cat]
    rw [show ents (y :: t) = if y.category = 2 then some y :: none :: ents t else some y :: ents t from rfl]
    by_cases hc : y.category = 2
    · rw [if_pos hc, if_pos hc]; simp; omega
    · rw [if_neg hc, if_neg hc]; simp; omega
/-! THE JUDGEMENTS: Fq, a method's contract over the flat memory; G, its body at a place -/
abbrev Qt : Type := Option Value → Mm → Lm → Prop
abbrev Rm (d : Nat) : Room := { frames := d, cells := 0, slots := 0, locals := 200 * d }
def QcW (D : va_G) (cy : Nat → ClassId) (ad : Nat → Nat) (z : Nat) (Q : Qt) : Array Value → State → Outcome → State → Prop := fun _ st oc t => (∃ (res : Option Value) (v' : Mm) (L' : Lm), oc = .returned (res.map (trv ad)) ∧ Q res v' L' ∧ Wd D cy ad z v' L' t) ∧ va_F (fun q => z ≤ q) st t
def Fq (y : MethodName) (b : ByteArray) (nL : Nat) (r : Option FieldType) (d : Nat) (as : List Value) (v : Mm) (L : Lm) (Q : Qt) : Prop :=
  ∀ (l : Launch) (D : va_G) (cy : Nat → ClassId) (ad : Nat → Nat) (z : Nat), Met l y (Cond.code y b nL r :: lw_g) (Rm d) (va_Pc (as.map (trv ad)) (fun U => Wd D cy ad z v L U)) (QcW D cy ad z Q) 0 0 (fun q => z ≤ q)
def Fn (y : MethodName) (b : ByteArray) (nL : Nat) (r : Option FieldType) (d : Nat) (as : List Value) (v : Mm) (L : Lm) (res : Option Value) (v' : Mm) (L' : Lm) : Prop := Fq y b nL r d as v L (fun a b c => a = res ∧ b = v' ∧ c = L')
def Cx (own : String) (b : ByteArray) (nL : Nat) (r : Option FieldType) (D : va_G) (cy : Nat → ClassId) (ad : Nat → Nat) (z : Nat) (p : Program) (s : State) (m : MethodId) (args : Array Value) (meth : Method) (c : Code) (H : Heap) (locs : List Loc) (lsA : Array Slot) (v : Mm) (L : Lm) (ls : List (Option Value)) : Prop :=
  p.tables.exec = Jvm.exec ∧ c.code = b ∧ meth.sig.returnType = r ∧ c.maxLocals = nL ∧ s.vm.findClass own = some m.cls ∧ (∀ w ∈ lw_g, w.before args s = true) ∧ meth.locks = false ∧ Sx D cy ad z s s.heap ∧ va_P D vwCl (wsW ad cy v L) H ∧ va_S (fun q => z ≤ q) s.heap H locs ∧ LR ad lsA nL ls
def G (own : String) (b : ByteArray) (nL : Nat) (r : Option FieldType) (d : Nat) (Q : Qt) (pc : Nat) (ls : List (Option Value)) (st : List Value) (v : Mm) (L : Lm) : Prop :=
  ∀ (l : Launch) (D : va_G) (cy : Nat → ClassId) (ad : Nat → Nat) (z : Nat) (p : Program) (e : Env) (s : State) (m : MethodId) (args : Array Value) (below : List Frame) (meth : Method) (c : Code) (H : Heap) (locs : List Loc) (lsA : Array Slot),
    Cx own b nL r D cy ad z p s m args meth c H locs lsA v L ls → W p l e (Rm d) s m args below meth c H locs 0 0 (MQ below (QcW D cy ad z Q) args s 0 0 (fun q => z ≤ q)) (F0 m pc lsA (st.map (trv ad)))
theorem Met.ofWF {l : Launch} {y : MethodName} {ws ws' : List Cond} {rm : Room} {Pc : Array Value → State → Prop} {Qc : Array Value → State → Outcome → State → Prop} {mc ms : Nat} {free : Addr → Prop} {cc : ByteArray} {maxL : Nat} {ret : Option FieldType}
    (hy : plainFor y = true) (hw : ws = Cond.code y cc maxL ret :: ws')
    (body : ∀ p e s m args below meth c s₁, BodyLoose p l y (headSpec ws rm) cc maxL ret e s m args below meth c s₁ → c.maxLocals = maxL → Pc args s →
      W p l e (headSpec ws rm).room s m args below meth c s.heap [] 0 0 (MQ below Qc args s mc ms free) (entryFrame m args maxL)) : Met l y ws rm Pc Qc mc ms free := by
  refine MetFree.of_bodySF (code := cc) (maxLocals := maxL) (ret := ret) hy ?_ ?_
  · intro args s m h hn
    obtain ⟨meth, c, h1, h2, h3, h4, h5, h6, -, -⟩ := Cond.code_spec hn (atoms_spec (ws := ws) h _ (by rw [hw]; exact List.mem_cons_self))
    exact ⟨meth, c, h1, h2, h3, h4, h5, h6⟩
  · intro p e s m args below meth c s₁ B hml hP _
    have hh0 : s₁.heap = s.heap := by rw [B.state]; rfl
    obtain ⟨t, a1, o, b1, b2, b3⟩ := body p e s m args below meth c s₁ B hml hP s₁ hh0 (Stand.of_body B)
    exact ⟨t, o, a1, b1, b2, ⟨b3.1, b3.2⟩⟩
/-- a contract out of the body's walk from its entry -/
theorem Fq.of {y : MethodName} {b : ByteArray} {nL : Nat} {r : Option FieldType} {d : Nat} {as : List Value} {v : Mm} {L : Lm} {Q : Qt} (hy : plainFor y = true) (ls : List (Option Value)) (hls : ents as ++ List.replicate (nL - (ents as).length) none = ls) (hn : (ents as).length ≤ nL)
    (h : G y.cls b nL r d Q 0 ls [] v L) : Fq y b nL r d as v L Q := by
  intro l D cy ad z
  refine Met.ofWF (cc := b) (maxL := nL) (ret := r) hy rfl ?_
  intro p e s m args below meth c s₁ B hml hv
  obtain ⟨rfl, hSx, hP⟩ := hv
  have hts := atoms_spec (ws := Cond.code y b nL r :: lw_g) B.pre
  have hl := lv_entry (as.map (trv ad)) (n := nL) (by rw [ents_len]; exact hn)
  rw [lg_entry_eq]
  refine h l D cy ad z p e s m _ below meth c s.heap [] _ ⟨B.exec, B.bytes, B.returns, hml, findClass_of_methodNamed B.named, fun w hw => hts w (List.mem_cons_of_mem _ hw), B.notSynchronized, hSx, hP, va_S.rf, hl.1, hl.2.1, fun i x hx => ?_⟩
  rw [← hls] at hx
  have := ents_at ad as _ 0 i x hx
  rw [Nat.zero_add] at this
  exact hl.2.2 _ this
theorem G.mono {own : String} {b : ByteArray} {nL : Nat} {r : Option FieldType} {d : Nat} {Q Q' : Qt} {pc : Nat} {ls : List (Option Value)} {st : List Value} {v : Mm} {L : Lm} (h : G own b nL r d Q pc ls st v L) (hQ : ∀ a b c, Q a b c → Q' a b c) : G own b nL r d Q' pc ls st v L := by
  intro l D cy ad z p e s m args below meth c H locs lsA hC T hT X
  obtain ⟨t, a1, o, b1, b2, ⟨⟨res, v', L', c1, c2, c3⟩, c4⟩, b4⟩ := h l D cy ad z p e s m args below meth c H locs lsA hC T hT X
  exact ⟨t, a1, o, b1, b2, ⟨⟨res, v', L', c1, hQ _ _ _ c2, c3⟩, c4⟩, b4⟩
/-- locals that are forgotten -/
theorem LR.forget {ad : Nat → Nat} {lsA : Array Slot} {nL : Nat} {ls ls' : List (Option Value)} (h : LR ad lsA nL ls) (hq : ∀ (i : Nat) (x : Value), ls'[i]? = some (some x) → ls[i]? = some (some x)) : LR ad lsA nL ls' := ⟨h.1, h.2.1, fun i x hx => h.2.2 i x (hq i x hx)⟩
