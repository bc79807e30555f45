def adL (h9 : Nat) (u : Nat → Nat → Nat) (h0 : Nat) (w : Nat → Nat) : List Nat := [h9, u 0 0, u 0 1, u 1 0, u 1 1, u 2 0, u 2 1, u 2 2, u 2 3, u 2 4, u 2 5, u 2 6, u 3 0, u 3 1, u 3 2, u 3 3, u 3 4, u 3 5, u 3 6, u 10 1, u 10 2, u 10 3, u 10 4, u 10 5, u 10 6, u 10 7, u 11 1, u 11 2, u 11 3, u 11 4, u 11 5, u 11 6, u 11 7, u 10 0, u 11 0, u 7 0, u 8 0, u 9 0, u 4 0, u 4 1, u 4 2, u 4 4, u 4 6, u 4 8, u 4 10, u 4 12, u 4 14, u 4 16, u 4 18, u 4 20, u 4 22, u 4 24, u 4 26, u 4 28, u 4 3, u 4 5, u 4 7, u 4 9, u 4 11, u 4 13, u 4 15, u 4 17, u 4 19, u 4 21, u 4 23, u 4 25, u 4 27, u 4 29, u 5 0, u 5 1, u 5 2, u 5 3, u 6 0, u 6 1, u 6 2, u 6 3, u 6 4, u 6 5, u 6 6, h0, w 0, w 1, w 2, w 3, w 4, w 5, w 6, w 7, w 8, w 9, w 10, w 11, w 12]
def adW (h9 : Nat) (u : Nat → Nat → Nat) (h0 : Nat) (w t : Nat → Nat) (k : Nat) : Nat := if k < 93 then (adL h9 u h0 w).getD k 0 else t (k - 100)
def piL : List Nat := [0, 1, 2, 3, 4, 5, 6, 7, 8, 9, 10, 11, 12, 13, 14, 15, 16, 17, 18, 64, 65, 66, 67, 68, 69, 70, 72, 73, 74, 75, 76, 77, 78, 63, 71, 60, 61, 62, 19, 20, 21, 23, 25, 27, 29, 31, 33, 35, 37, 39, 41, 43, 45, 47, 22, 24, 26, 28, 30, 32, 34, 36, 38, 40, 42, 44, 46, 48, 49, 50, 51, 52, 53, 54, 55, 56, 57, 58, 59, 79, 80, 81, 82, 83, 84, 85, 86, 87, 88, 89, 90, 91, 92]
def ipL : List Nat := [0, 1, 2, 3, 4, 5, 6, 7, 8, 9, 10, 11, 12, 13, 14, 15, 16, 17, 18, 38, 39, 40, 54, 41, 55, 42, 56, 43, 57, 44, 58, 45, 59, 46, 60, 47, 61, 48, 62, 49, 63, 50, 64, 51, 65, 52, 66, 53, 67, 68, 69, 70, 71, 72, 73, 74, 75, 76, 77, 78, 35, 36, 37, 33, 19, 20, 21, 22, 23, 24, 25, 34, 26, 27, 28, 29, 30, 31, 32, 79, 80, 81, 82, 83, 84, 85, 86, 87, 88, 89, 90, 91, 92]
theorem pi_inv : ∀ k, k < 93 → ipL.getD (piL.getD k 0) 0 = k := by decide +kernel
section Rows96
variable {D : va_G} {cy : Nat → ClassId} {h9 h0 : Nat} {u : Nat → Nat → Nat} {w t : Nat → Nat} {H : Heap}
abbrev mkW (cy : Nat → ClassId) (h9 : Nat) (u : Nat → Nat → Nat) (h0 : Nat) (w : Nat → Nat) : va_W := wNib cy h9 u ++ wMod cy h0 w
theorem arr_same {a n : Nat} {cA : ClassId} {f g : Nat → Option Nat} (hfg : ∀ j, j < n → f j = g j) (h : va_at D vwCl (a, .inl (cA, n, .inr (.inr (.inr (.inr f))))) H) : va_at D vwCl (a, .inl (cA, n, .inr (.inr (.inr (.inr g))))) H := by
  show H[a]? = some (vp_cell cA (n, .inr (.inr (.inr (.inr g)))))
  have h2 : H[a]? = some (vp_cell cA (n, .inr (.inr (.inr (.inr f))))) := h
  rw [h2]
  congr 1
  show arrV cA n (fun j => va_rf (f j)) = arrV cA n (fun j => va_rf (g j))
  unfold arrV
  congr 1
  apply Array.ext
  · simp
  · intro i hi1 hi2
    simp at hi1 hi2 ⊢
    rw [hfg i (by first | exact hi1 | omega)]
def mkF (cy : Nat → ClassId) (h9 : Nat) (u : Nat → Nat → Nat) (h0 : Nat) (w : Nat → Nat) : va_W := [(h9, .inr (9, [.ref (u 0 0), .ref (u 1 0), .ref (u 2 0), .ref (u 3 0), .ref (u 4 0), .ref (u 5 0), .ref (u 6 0), .ref (u 7 0), .ref (u 8 0), .ref (u 9 0), .long 0])), (u 0 0, .inr (6, [.ref (u 0 1), .int 0])), (u 0 1, arI cy 48), (u 1 0, .inr (8, [.ref (u 1 1), .int 0])), (u 1 1, arI cy 8), (u 2 0, .inr (4, [.ref (u 2 1), .ref (u 2 2), .int 0, .int 0])), (u 2 1, arR (cy 14) 4 (fun j => some (u 2 (2 + j + 1)))), (u 2 2, arI cy 25), (u 2 3, penE), (u 2 4, penE), (u 2 5, penE), (u 2 6, penE), (u 3 0, .inr (4, [.ref (u 3 1), .ref (u 3 2), .int 0, .int 0])), (u 3 1, arR (cy 14) 4 (fun j => some (u 3 (2 + j + 1)))), (u 3 2, arI cy 25), (u 3 3, penE), (u 3 4, penE), (u 3 5, penE), (u 3 6, penE), (u 4 0, .inr (1, [.ref (u 4 1), .int 0, .int 0])), (u 4 1, arR (cy 13) 14 (fun j => some (u 4 (1 + 2 * j + 1)))), (u 4 2, actE (u 4 3)), (u 4 3, penE), (u 4 4, actE (u 4 5)), (u 4 5, penE), (u 4 6, actE (u 4 7)), (u 4 7, penE), (u 4 8, actE (u 4 9)), (u 4 9, penE), (u 4 10, actE (u 4 11)), (u 4 11, penE), (u 4 12, actE (u 4 13)), (u 4 13, penE), (u 4 14, actE (u 4 15)), (u 4 15, penE), (u 4 16, actE (u 4 17)), (u 4 17, penE), (u 4 18, actE (u 4 19)), (u 4 19, penE), (u 4 20, actE (u 4 21)), (u 4 21, penE), (u 4 22, actE (u 4 23)), (u 4 23, penE), (u 4 24, actE (u 4 25)), (u 4 25, penE), (u 4 26, actE (u 4 27)), (u 4 27, penE), (u 4 28, actE (u 4 29)), (u 4 29, penE), (u 5 0, .inr (3, [.ref (u 5 1), .ref (u 5 2), .ref (u 5 3), .int 0])), (u 5 1, arI cy 6), (u 5 2, arI cy 6), (u 5 3, penE), (u 6 0, .inr (7, [.ref (u 6 1), .ref (u 6 2), .ref (u 6 3), .ref (u 6 4), .ref (u 6 5), .ref (u 6 6)])), (u 6 1, arI cy 8), (u 6 2, arI cy 25), (u 6 3, arI cy 25), (u 6 4, arI cy 25), (u 6 5, arI cy 25), (u 6 6, arI cy 25), (u 7 0, arR (cy 15) 2 (fun j => some (u (10 + j) 0))), (u 8 0, arI cy 4), (u 9 0, arI cy 4), (u 10 0, .inr (5, [.ref (u 10 1), .int 0])), (u 10 1, .inr (4, [.ref (u 10 2), .ref (u 10 3), .int 0, .int 0])), (u 10 2, arR (cy 14) 4 (fun j => some (u 10 (2 + j + 1 + 1)))), (u 10 3, arI cy 25), (u 10 4, penE), (u 10 5, penE), (u 10 6, penE), (u 10 7, penE), (u 11 0, .inr (5, [.ref (u 11 1), .int 0])), (u 11 1, .inr (4, [.ref (u 11 2), .ref (u 11 3), .int 0, .int 0])), (u 11 2, arR (cy 14) 4 (fun j => some (u 11 (2 + j + 1 + 1)))), (u 11 3, arI cy 25), (u 11 4, penE), (u 11 5, penE), (u 11 6, penE), (u 11 7, penE), (h0, .inr (10, [.int 0, .ref (w 0), .ref (w 1), .ref (w 2), .ref (w 3), .ref (w 4), .int 0, .int 0, .ref (w 5), .int 0, .int 0, .int 0, .int 0, .ref (w 6), .int 0, .int 0, .int 0, .ref (w 7), .ref (w 8), .int 0, .ref (w 9), .ref (w 10), .long 0, .ref (w 11), .ref (w 12)])), (w 0, arI cy 4), (w 1, arI cy 4), (w 2, arI cy 86), (w 3, arI cy 20), (w 4, arI cy 8), (w 5, arI cy 48), (w 6, arI cy 8), (w 7, arI cy 602), (w 8, arI cy 25), (w 9, arI cy 6), (w 10, arI cy 6), (w 11, .inl (cy 12, 2, .inl (fun _ => 0))), (w 12, arI cy 86)]
set_option maxRecDepth 20000 in
theorem mkF_eq : mkW cy h9 u h0 w = mkF cy h9 u h0 w := rfl
set_option maxRecDepth 20000 in
theorem ma_0 : ∃ E, (mkF cy h9 u h0 w)[piL.getD 0 0]? = some (adW h9 u h0 w t 0, E) := ⟨_, rfl⟩
set_option maxRecDepth 20000 in
theorem mp_0 (hP : va_P D vwCl (mkF cy h9 u h0 w) H) : va_at D vwCl (adW h9 u h0 w t 0, cellE (adW h9 u h0 w t) cy v0 L0 0) H := hP 0 _ rfl
set_option maxRecDepth 20000 in
theorem ma_1 : ∃ E, (mkF cy h9 u h0 w)[piL.getD 1 0]? = some (adW h9 u h0 w t 1, E) := ⟨_, rfl⟩
set_option maxRecDepth 20000 in
theorem mp_1 (hP : va_P D vwCl (mkF cy h9 u h0 w) H) : va_at D vwCl (adW h9 u h0 w t 1, cellE (adW h9 u h0 w t) cy v0 L0 1) H := hP 1 _ rfl
set_option maxRecDepth 20000 in
theorem ma_2 : ∃ E, (mkF cy h9 u h0 w)[piL.getD 2 0]? = some (adW h9 u h0 w t 2, E) := ⟨_, rfl⟩
set_option maxRecDepth 20000 in
theorem mp_2 (hP : va_P D vwCl (mkF cy h9 u h0 w) H) : va_at D vwCl (adW h9 u h0 w t 2, cellE (adW h9 u h0 w t) cy v0 L0 2) H := hP 2 _ rfl
set_option maxRecDepth 20000 in
theorem ma_3 : ∃ E, (mkF cy h9 u h0 w)[piL.getD 3 0]? = some (adW h9 u h0 w t 3, E) := ⟨_, rfl⟩
set_option maxRecDepth 20000 in
theorem mp_3 (hP : va_P D vwCl (mkF cy h9 u h0 w) H) : va_at D vwCl (adW h9 u h0 w t 3, cellE (adW h9 u h0 w t) cy v0 L0 3) H := hP 3 _ rfl
set_option maxRecDepth 20000 in
theorem ma_4 : ∃ E, (mkF cy h9 u h0 w)[piL.getD 4 0]? = some (adW h9 u h0 w t 4, E) := ⟨_, rfl⟩
set_option maxRecDepth 20000 in
theorem mp_4 (hP : va_P D vwCl (mkF cy h9 u h0 w) H) : va_at D vwCl (adW h9 u h0 w t 4, cellE (adW h9 u h0 w t) cy v0 L0 4) H := hP 4 _ rfl
set_option maxRecDepth 20000 in
theorem ma_5 : ∃ E, (mkF cy h9 u h0 w)[piL.getD 5 0]? = some (adW h9 u h0 w t 5, E) := ⟨_, rfl⟩
set_option maxRecDepth 20000 in
theorem mp_5 (hP : va_P D vwCl (mkF cy h9 u h0 w) H) : va_at D vwCl (adW h9 u h0 w t 5, cellE (adW h9 u h0 w t) cy v0 L0 5) H := hP 5 _ rfl
set_option maxRecDepth 20000 in
theorem ma_6 : ∃ E, (mkF cy h9 u h0 w)[piL.getD 6 0]? = some (adW h9 u h0 w t 6, E) := ⟨_, rfl⟩
set_option maxRecDepth 20000 in
theorem mp_6 (hP : va_P D vwCl (mkF cy h9 u h0 w) H) : va_at D vwCl (adW h9 u h0 w t 6, cellE (adW h9 u h0 w t) cy v0 L0 6) H := arr_same (fun j hj => by have hj : j < 4 := hj; rcases (show j = 0 ∨ j = 1 ∨ j = 2 ∨ j = 3 by omega) with rfl | rfl | rfl | rfl <;> rfl) (hP 6 _ rfl)
set_option maxRecDepth 20000 in
theorem ma_7 : ∃ E, (mkF cy h9 u h0 w)[piL.getD 7 0]? = some (adW h9 u h0 w t 7, E) := ⟨_, rfl⟩
set_option maxRecDepth 20000 in
theorem mp_7 (hP : va_P D vwCl (mkF cy h9 u h0 w) H) : va_at D vwCl (adW h9 u h0 w t 7, cellE (adW h9 u h0 w t) cy v0 L0 7) H := hP 7 _ rfl
set_option maxRecDepth 20000 in
theorem ma_8 : ∃ E, (mkF cy h9 u h0 w)[piL.getD 8 0]? = some (adW h9 u h0 w t 8, E) := ⟨_, rfl⟩
set_option maxRecDepth 20000 in
theorem mp_8 (hP : va_P D vwCl (mkF cy h9 u h0 w) H) : va_at D vwCl (adW h9 u h0 w t 8, cellE (adW h9 u h0 w t) cy v0 L0 8) H := hP 8 _ rfl
set_option maxRecDepth 20000 in
theorem ma_9 : ∃ E, (mkF cy h9 u h0 w)[piL.getD 9 0]? = some (adW h9 u h0 w t 9, E) := ⟨_, rfl⟩
set_option maxRecDepth 20000 in
theorem mp_9 (hP : va_P D vwCl (mkF cy h9 u h0 w) H) : va_at D vwCl (adW h9 u h0 w t 9, cellE (adW h9 u h0 w t) cy v0 L0 9) H := hP 9 _ rfl
set_option maxRecDepth 20000 in
theorem ma_10 : ∃ E, (mkF cy h9 u h0 w)[piL.getD 10 0]? = some (adW h9 u h0 w t 10, E) := ⟨_, rfl⟩
set_option maxRecDepth 20000 in
theorem mp_10 (hP : va_P D vwCl (mkF cy h9 u h0 w) H) : va_at D vwCl (adW h9 u h0 w t 10, cellE (adW h9 u h0 w t) cy v0 L0 10) H := hP 10 _ rfl
set_option maxRecDepth 20000 in
theorem ma_11 : ∃ E, (mkF cy h9 u h0 w)[piL.getD 11 0]? = some (adW h9 u h0 w t 11, E) := ⟨_, rfl⟩
set_option maxRecDepth 20000 in
theorem mp_11 (hP : va_P D vwCl (mkF cy h9 u h0 w) H) : va_at D vwCl (adW h9 u h0 w t 11, cellE (adW h9 u h0 w t) cy v0 L0 11) H := hP 11 _ rfl
set_option maxRecDepth 20000 in
theorem ma_12 : ∃ E, (mkF cy h9 u h0 w)[piL.getD 12 0]? = some (adW h9 u h0 w t 12, E) := ⟨_, rfl⟩
set_option maxRecDepth 20000 in
theorem mp_12 (hP : va_P D vwCl (mkF cy h9 u h0 w) H) : va_at D vwCl (adW h9 u h0 w t 12, cellE (adW h9 u h0 w t) cy v0 L0 12) H := hP 12 _ rfl
set_option maxRecDepth 20000 in
theorem ma_13 : ∃ E, (mkF cy h9 u h0 w)[piL.getD 13 0]? = some (adW h9 u h0 w t 13, E) := ⟨_, rfl⟩
set_option maxRecDepth 20000 in
theorem mp_13 (hP : va_P D vwCl (mkF cy h9 u h0 w) H) : va_at D vwCl (adW h9 u h0 w t 13, cellE (adW h9 u h0 w t) cy v0 L0 13) H := arr_same (fun j hj => by have hj : j < 4 := hj; rcases (show j = 0 ∨ j = 1 ∨ j = 2 ∨ j = 3 by omega) with rfl | rfl | rfl | rfl <;> rfl) (hP 13 _ rfl)
set_option maxRecDepth 20000 in
theorem ma_14 : ∃ E, (mkF cy h9 u h0 w)[piL.getD 14 0]? = some (adW h9 u h0 w t 14, E) := ⟨_, rfl⟩
set_option maxRecDepth 20000 in
theorem mp_14 (hP : va_P D vwCl (mkF cy h9 u h0 w) H) : va_at D vwCl (adW h9 u h0 w t 14, cellE (adW h9 u h0 w t) cy v0 L0 14) H := hP 14 _ rfl
set_option maxRecDepth 20000 in
theorem ma_15 : ∃ E, (mkF cy h9 u h0 w)[piL.getD 15 0]? = some (adW h9 u h0 w t 15, E) := ⟨_, rfl⟩
set_option maxRecDepth 20000 in
theorem mp_15 (hP : va_P D vwCl (mkF cy h9 u h0 w) H) : va_at D vwCl (adW h9 u h0 w t 15, cellE (adW h9 u h0 w t) cy v0 L0 15) H := hP 15 _ rfl
set_option maxRecDepth 20000 in
theorem ma_16 : ∃ E, (mkF cy h9 u h0 w)[piL.getD 16 0]? = some (adW h9 u h0 w t 16, E) := ⟨_, rfl⟩
set_option maxRecDepth 20000 in
theorem mp_16 (hP : va_P D vwCl (mkF cy h9 u h0 w) H) : va_at D vwCl (adW h9 u h0 w t 16, cellE (adW h9 u h0 w t) cy v0 L0 16) H := hP 16 _ rfl
set_option maxRecDepth 20000 in
theorem ma_17 : ∃ E, (mkF cy h9 u h0 w)[piL.getD 17 0]? = some (adW h9 u h0 w t 17, E) := ⟨_, rfl⟩
set_option maxRecDepth 20000 in
theorem mp_17 (hP : va_P D vwCl (mkF cy h9 u h0 w) H) : va_at D vwCl (adW h9 u h0 w t 17, cellE (adW h9 u h0 w t) cy v0 L0 17) H := hP 17 _ rfl
set_option maxRecDepth 20000 in
theorem ma_18 : ∃ E, (mkF cy h9 u h0 w)[piL.getD 18 0]? = some (adW h9 u h0 w t 18, E) := ⟨_, rfl⟩
set_option maxRecDepth 20000 in
theorem mp_18 (hP : va_P D vwCl (mkF cy h9 u h0 w) H) : va_at D vwCl (adW h9 u h0 w t 18, cellE (adW h9 u h0 w t) cy v0 L0 18) H := hP 18 _ rfl
set_option maxRecDepth 20000 in
theorem ma_19 : ∃ E, (mkF cy h9 u h0 w)[piL.getD 19 0]? = some (adW h9 u h0 w t 19, E) := ⟨_, rfl⟩
set_option maxRecDepth 20000 in
theorem mp_19 (hP : va_P D vwCl (mkF cy h9 u h0 w) H) : va_at D vwCl (adW h9 u h0 w t 19, cellE (adW h9 u h0 w t) cy v0 L0 19) H := hP 64 _ rfl
set_option maxRecDepth 20000 in
theorem ma_20 : ∃ E, (mkF cy h9 u h0 w)[piL.getD 20 0]? = some (adW h9 u h0 w t 20, E) := ⟨_, rfl⟩
set_option maxRecDepth 20000 in
theorem mp_20 (hP : va_P D vwCl (mkF cy h9 u h0 w) H) : va_at D vwCl (adW h9 u h0 w t 20, cellE (adW h9 u h0 w t) cy v0 L0 20) H := arr_same (fun j hj => by have hj : j < 4 := hj; rcases (show j = 0 ∨ j = 1 ∨ j = 2 ∨ j = 3 by omega) with rfl | rfl | rfl | rfl <;> rfl) (hP 65 _ rfl)
set_option maxRecDepth 20000 in
theorem ma_21 : ∃ E, (mkF cy h9 u h0 w)[piL.getD 21 0]? = some (adW h9 u h0 w t 21, E) := ⟨_, rfl⟩
set_option maxRecDepth 20000 in
theorem mp_21 (hP : va_P D vwCl (mkF cy h9 u h0 w) H) : va_at D vwCl (adW h9 u h0 w t 21, cellE (adW h9 u h0 w t) cy v0 L0 21) H := hP 66 _ rfl
set_option maxRecDepth 20000 in
theorem ma_22 : ∃ E, (mkF cy h9 u h0 w)[piL.getD 22 0]? = some (adW h9 u h0 w t 22, E) := ⟨_, rfl⟩
set_option maxRecDepth 20000 in
theorem mp_22 (hP : va_P D vwCl (mkF cy h9 u h0 w) H) : va_at D vwCl (adW h9 u h0 w t 22, cellE (adW h9 u h0 w t) cy v0 L0 22) H := hP 67 _ rfl
set_option maxRecDepth 20000 in
theorem ma_23 : ∃ E, (mkF cy h9 u h0 w)[piL.getD 23 0]? = some (adW h9 u h0 w t 23, E) := ⟨_, rfl⟩
set_option maxRecDepth 20000 in
theorem mp_23 (hP : va_P D vwCl (mkF cy h9 u h0 w) H) : va_at D vwCl (adW h9 u h0 w t 23, cellE (adW h9 u h0 w t) cy v0 L0 23) H := hP 68 _ rfl
set_option maxRecDepth 20000 in
theorem ma_24 : ∃ E, (mkF cy h9 u h0 w)[piL.getD 24 0]? = some (adW h9 u h0 w t 24, E) := ⟨_, rfl⟩
set_option maxRecDepth 20000 in
theorem mp_24 (hP : va_P D vwCl (mkF cy h9 u h0 w) H) : va_at D vwCl (adW h9 u h0 w t 24, cellE (adW h9 u h0 w t) cy v0 L0 24) H := hP 69 _ rfl
set_option maxRecDepth 20000 in
theorem ma_25 : ∃ E, (mkF cy h9 u h0 w)[piL.getD 25 0]? = some (adW h9 u h0 w t 25, E) := ⟨_, rfl⟩
set_option maxRecDepth 20000 in
theorem mp_25 (hP : va_P D vwCl (mkF cy h9 u h0 w) H) : va_at D vwCl (adW h9 u h0 w t 25, cellE (adW h9 u h0 w t) cy v0 L0 25) H := hP 70 _ rfl
set_option maxRecDepth 20000 in
theorem ma_26 : ∃ E, (mkF cy h9 u h0 w)[piL.getD 26 0]? = some (adW h9 u h0 w t 26, E) := ⟨_, rfl⟩
set_option maxRecDepth 20000 in
theorem mp_26 (hP : va_P D vwCl (mkF cy h9 u h0 w) H) : va_at D vwCl (adW h9 u h0 w t 26, cellE (adW h9 u h0 w t) cy v0 L0 26) H := hP 72 _ rfl
set_option maxRecDepth 20000 in
theorem ma_27 : ∃ E, (mkF cy h9 u h0 w)[piL.getD 27 0]? = some (adW h9 u h0 w t 27, E) := ⟨_, rfl⟩
set_option maxRecDepth 20000 in
theorem mp_27 (hP : va_P D vwCl (mkF cy h9 u h0 w) H) : va_at D vwCl (adW h9 u h0 w t 27, cellE (adW h9 u h0 w t) cy v0 L0 27) H := arr_same (fun j hj => by have hj : j < 4 := hj; rcases (show j = 0 ∨ j = 1 ∨ j = 2 ∨ j = 3 by omega) with rfl | rfl | rfl | rfl <;> rfl) (hP 73 _ rfl)
set_option maxRecDepth 20000 in
theorem ma_28 : ∃ E, (mkF cy h9 u h0 w)[piL.getD 28 0]? = some (adW h9 u h0 w t 28, E) := ⟨_, rfl⟩
set_option maxRecDepth 20000 in
theorem mp_28 (hP : va_P D vwCl (mkF cy h9 u h0 w) H) : va_at D vwCl (adW h9 u h0 w t 28, cellE (adW h9 u h0 w t) cy v0 L0 28) H := hP 74 _ rfl
set_option maxRecDepth 20000 in
theorem ma_29 : ∃ E, (mkF cy h9 u h0 w)[piL.getD 29 0]? = some (adW h9 u h0 w t 29, E) := ⟨_, rfl⟩
set_option maxRecDepth 20000 in
theorem mp_29 (hP : va_P D vwCl (mkF cy h9 u h0 w) H) : va_at D vwCl (adW h9 u h0 w t 29, cellE (adW h9 u h0 w t) cy v0 L0 29) H := hP 75 _ rfl
set_option maxRecDepth 20000 in
theorem ma_30 : ∃ E, (mkF cy h9 u h0 w)[piL.getD 30 0]? = some (adW h9 u h0 w t 30, E) := ⟨_, rfl⟩
set_option maxRecDepth 20000 in
theorem mp_30 (hP : va_P D vwCl (mkF cy h9 u h0 w) H) : va_at D vwCl (adW h9 u h0 w t 30, cellE (adW h9 u h0 w t) cy v0 L0 30) H := hP 76 _ rfl
set_option maxRecDepth 20000 in
theorem ma_31 : ∃ E, (mkF cy h9 u h0 w)[piL.getD 31 0]? = some (adW h9 u h0 w t 31, E) := ⟨_, rfl⟩
set_option maxRecDepth 20000 in
theorem mp_31 (hP : va_P D vwCl (mkF cy h9 u h0 w) H) : va_at D vwCl (adW h9 u h0 w t 31, cellE (adW h9 u h0 w t) cy v0 L0 31) H := hP 77 _ rfl
set_option maxRecDepth 20000 in
theorem ma_32 : ∃ E, (mkF cy h9 u h0 w)[piL.getD 32 0]? = some (adW h9 u h0 w t 32, E) := ⟨_, rfl⟩
set_option maxRecDepth 20000 in
theorem mp_32 (hP : va_P D vwCl (mkF cy h9 u h0 w) H) : va_at D vwCl (adW h9 u h0 w t 32, cellE (adW h9 u h0 w t) cy v0 L0 32) H := hP 78 _ rfl
set_option maxRecDepth 20000 in
theorem ma_33 : ∃ E, (mkF cy h9 u h0 w)[piL.getD 33 0]? = some (adW h9 u h0 w t 33, E) := ⟨_, rfl⟩
set_option maxRecDepth 20000 in
theorem mp_33 (hP : va_P D vwCl (mkF cy h9 u h0 w) H) : va_at D vwCl (adW h9 u h0 w t 33, cellE (adW h9 u h0 w t) cy v0 L0 33) H := hP 63 _ rfl
set_option maxRecDepth 20000 in
theorem ma_34 : ∃ E, (mkF cy h9 u h0 w)[piL.getD 34 0]? = some (adW h9 u h0 w t 34, E) := ⟨_, rfl⟩
set_option maxRecDepth 20000 in
theorem mp_34 (hP : va_P D vwCl (mkF cy h9 u h0 w) H) : va_at D vwCl (adW h9 u h0 w t 34, cellE (adW h9 u h0 w t) cy v0 L0 34) H := hP 71 _ rfl
set_option maxRecDepth 20000 in
theorem ma_35 : ∃ E, (mkF cy h9 u h0 w)[piL.getD 35 0]? = some (adW h9 u h0 w t 35, E) := ⟨_, rfl⟩
set_option maxRecDepth 20000 in
theorem mp_35 (hP : va_P D vwCl (mkF cy h9 u h0 w) H) : va_at D vwCl (adW h9 u h0 w t 35, cellE (adW h9 u h0 w t) cy v0 L0 35) H := arr_same (fun j hj => by have hj : j < 2 := hj; rcases (show j = 0 ∨ j = 1 by omega) with rfl | rfl <;> rfl) (hP 60 _ rfl)
set_option maxRecDepth 20000 in
theorem ma_36 : ∃ E, (mkF cy h9 u h0 w)[piL.getD 36 0]? = some (adW h9 u h0 w t 36, E) := ⟨_, rfl⟩
set_option maxRecDepth 20000 in
theorem mp_36 (hP : va_P D vwCl (mkF cy h9 u h0 w) H) : va_at D vwCl (adW h9 u h0 w t 36, cellE (adW h9 u h0 w t) cy v0 L0 36) H := hP 61 _ rfl
set_option maxRecDepth 20000 in
theorem ma_37 : ∃ E, (mkF cy h9 u h0 w)[piL.getD 37 0]? = some (adW h9 u h0 w t 37, E) := ⟨_, rfl⟩
set_option maxRecDepth 20000 in
theorem mp_37 (hP : va_P D vwCl (mkF cy h9 u h0 w) H) : va_at D vwCl (adW h9 u h0 w t 37, cellE (adW h9 u h0 w t) cy v0 L0 37) H := hP 62 _ rfl
set_option maxRecDepth 20000 in
theorem ma_38 : ∃ E, (mkF cy h9 u h0 w)[piL.getD 38 0]? = some (adW h9 u h0 w t 38, E) := ⟨_, rfl⟩
set_option maxRecDepth 20000 in
theorem mp_38 (hP : va_P D vwCl (mkF cy h9 u h0 w) H) : va_at D vwCl (adW h9 u h0 w t 38, cellE (adW h9 u h0 w t) cy v0 L0 38) H := hP 19 _ rfl
set_option maxRecDepth 20000 in
theorem ma_39 : ∃ E, (mkF cy h9 u h0 w)[piL.getD 39 0]? = some (adW h9 u h0 w t 39, E) := ⟨_, rfl⟩
set_option maxRecDepth 20000 in
theorem mp_39 (hP : va_P D vwCl (mkF cy h9 u h0 w) H) : va_at D vwCl (adW h9 u h0 w t 39, cellE (adW h9 u h0 w t) cy v0 L0 39) H := arr_same (fun j hj => by have hj : j < 14 := hj; rcases (show j = 0 ∨ j = 1 ∨ j = 2 ∨ j = 3 ∨ j = 4 ∨ j = 5 ∨ j = 6 ∨ j = 7 ∨ j = 8 ∨ j = 9 ∨ j = 10 ∨ j = 11 ∨ j = 12 ∨ j = 13 by omega) with rfl | rfl | rfl | rfl | rfl | rfl | rfl | rfl | rfl | rfl | rfl | rfl | rfl | rfl <;> rfl) (hP 20 _ rfl)
set_option maxRecDepth 20000 in
theorem ma_40 : ∃ E, (mkF cy h9 u h0 w)[piL.getD 40 0]? = some (adW h9 u h0 w t 40, E) := ⟨_, rfl⟩
set_option maxRecDepth 20000 in
theorem mp_40 (hP : va_P D vwCl (mkF cy h9 u h0 w) H) : va_at D vwCl (adW h9 u h0 w t 40, cellE (adW h9 u h0 w t) cy v0 L0 40) H := hP 21 _ rfl
set_option maxRecDepth 20000 in
theorem ma_41 : ∃ E, (mkF cy h9 u h0 w)[piL.getD 41 0]? = some (adW h9 u h0 w t 41, E) := ⟨_, rfl⟩
set_option maxRecDepth 20000 in
theorem mp_41 (hP : va_P D vwCl (mkF cy h9 u h0 w) H) : va_at D vwCl (adW h9 u h0 w t 41, cellE (adW h9 u h0 w t) cy v0 L0 41) H := hP 23 _ rfl
set_option maxRecDepth 20000 in
theorem ma_42 : ∃ E, (mkF cy h9 u h0 w)[piL.getD 42 0]? = some (adW h9 u h0 w t 42, E) := ⟨_, rfl⟩
set_option maxRecDepth 20000 in
theorem mp_42 (hP : va_P D vwCl (mkF cy h9 u h0 w) H) : va_at D vwCl (adW h9 u h0 w t 42, cellE (adW h9 u h0 w t) cy v0 L0 42) H := hP 25 _ rfl
set_option maxRecDepth 20000 in
theorem ma_43 : ∃ E, (mkF cy h9 u h0 w)[piL.getD 43 0]? = some (adW h9 u h0 w t 43, E) := ⟨_, rfl⟩
set_option maxRecDepth 20000 in
theorem mp_43 (hP : va_P D vwCl (mkF cy h9 u h0 w) H) : va_at D vwCl (adW h9 u h0 w t 43, cellE (adW h9 u h0 w t) cy v0 L0 43) H := hP 27 _ rfl
set_option maxRecDepth 20000 in
theorem ma_44 : ∃ E, (mkF cy h9 u h0 w)[piL.getD 44 0]? = some (adW h9 u h0 w t 44, E) := ⟨_, rfl⟩
set_option maxRecDepth 20000 in
theorem mp_44 (hP : va_P D vwCl (mkF cy h9 u h0 w) H) : va_at D vwCl (adW h9 u h0 w t 44, cellE (adW h9 u h0 w t) cy v0 L0 44) H := hP 29 _ rfl
set_option maxRecDepth 20000 in
theorem ma_45 : ∃ E, (mkF cy h9 u h0 w)[piL.getD 45 0]? = some (adW h9 u h0 w t 45, E) := ⟨_, rfl⟩
set_option maxRecDepth 20000 in
theorem mp_45 (hP : va_P D vwCl (mkF cy h9 u h0 w) H) : va_at D vwCl (adW h9 u h0 w t 45, cellE (adW h9 u h0 w t) cy v0 L0 45) H := hP 31 _ rfl
set_option maxRecDepth 20000 in
theorem ma_46 : ∃ E, (mkF cy h9 u h0 w)[piL.getD 46 0]? = some (adW h9 u h0 w t 46, E) := ⟨_, rfl⟩
set_option maxRecDepth 20000 in
theorem mp_46 (hP : va_P D vwCl (mkF cy h9 u h0 w) H) : va_at D vwCl (adW h9 u h0 w t 46, cellE (adW h9 u h0 w t) cy v0 L0 46) H := hP 33 _ rfl
set_option maxRecDepth 20000 in
theorem ma_47 : ∃ E, (mkF cy h9 u h0 w)[piL.getD 47 0]? = some (adW h9 u h0 w t 47, E) := ⟨_, rfl⟩
set_option maxRecDepth 20000 in
theorem mp_47 (hP : va_P D vwCl (mkF cy h9 u h0 w) H) : va_at D vwCl (adW h9 u h0 w t 47, cellE (adW h9 u h0 w t) cy v0 L0 47) H := hP 35 _ rfl
set_option maxRecDepth 20000 in
theorem ma_48 : ∃ E, (mkF cy h9 u h0 w)[piL.getD 48 0]? = some (adW h9 u h0 w t 48, E) := ⟨_, rfl⟩
set_option maxRecDepth 20000 in
theorem mp_48 (hP : va_P D vwCl (mkF cy h9 u h0 w) H) : va_at D vwCl (adW h9 u h0 w t 48, cellE (adW h9 u h0 w t) cy v0 L0 48) H := hP 37 _ rfl
set_option maxRecDepth 20000 in
theorem ma_49 : ∃ E, (mkF cy h9 u h0 w)[piL.getD 49 0]? = some (adW h9 u h0 w t 49, E) := ⟨_, rfl⟩
set_option maxRecDepth 20000 in
theorem mp_49 (hP : va_P D vwCl (mkF cy h9 u h0 w) H) : va_at D vwCl (adW h9 u h0 w t 49, cellE (adW h9 u h0 w t) cy v0 L0 49) H := hP 39 _ rfl
set_option maxRecDepth 20000 in
theorem ma_50 : ∃ E, (mkF cy h9 u h0 w)[piL.getD 50 0]? = some (adW h9 u h0 w t 50, E) := ⟨_, rfl⟩
set_option maxRecDepth 20000 in
theorem mp_50 (hP : va_P D vwCl (mkF cy h9 u h0 w) H) : va_at D vwCl (adW h9 u h0 w t 50, cellE (adW h9 u h0 w t) cy v0 L0 50) H := hP 41 _ rfl
set_option maxRecDepth 20000 in
theorem ma_51 : ∃ E, (mkF cy h9 u h0 w)[piL.getD 51 0]? = some (adW h9 u h0 w t 51, E) := ⟨_, rfl⟩
set_option maxRecDepth 20000 in
theorem mp_51 (hP : va_P D vwCl (mkF cy h9 u h0 w) H) : va_at D vwCl (adW h9 u h0 w t 51, cellE (adW h9 u h0 w t) cy v0 L0 51) H := hP 43 _ rfl
set_option maxRecDepth 20000 in
theorem ma_52 : ∃ E, (mkF cy h9 u h0 w)[piL.getD 52 0]? = some (adW h9 u h0 w t 52, E) := ⟨_, rfl⟩
set_option maxRecDepth 20000 in
theorem mp_52 (hP : va_P D vwCl (mkF cy h9 u h0 w) H) : va_at D vwCl (adW h9 u h0 w t 52, cellE (adW h9 u h0 w t) cy v0 L0 52) H := hP 45 _ rfl
set_option maxRecDepth 20000 in
theorem ma_53 : ∃ E, (mkF cy h9 u h0 w)[piL.getD 53 0]? = some (adW h9 u h0 w t 53, E) := ⟨_, rfl⟩
set_option maxRecDepth 20000 in
theorem mp_53 (hP : va_P D vwCl (mkF cy h9 u h0 w) H) : va_at D vwCl (adW h9 u h0 w t 53, cellE (adW h9 u h0 w t) cy v0 L0 53) H := hP 47 _ rfl
set_option maxRecDepth 20000 in
theorem ma_54 : ∃ E, (mkF cy h9 u h0 w)[piL.getD 54 0]? = some (adW h9 u h0 w t 54, E) := ⟨_, rfl⟩
set_option maxRecDepth 20000 in
theorem mp_54 (hP : va_P D vwCl (mkF cy h9 u h0 w) H) : va_at D vwCl (adW h9 u h0 w t 54, cellE (adW h9 u h0 w t) cy v0 L0 54) H := hP 22 _ rfl
set_option maxRecDepth 20000 in
theorem ma_55 : ∃ E, (mkF cy h9 u h0 w)[piL.getD 55 0]? = some (adW h9 u h0 w t 55, E) := ⟨_, rfl⟩
set_option maxRecDepth 20000 in
theorem mp_55 (hP : va_P D vwCl (mkF cy h9 u h0 w) H) : va_at D vwCl (adW h9 u h0 w t 55, cellE (adW h9 u h0 w t) cy v0 L0 55) H := hP 24 _ rfl
set_option maxRecDepth 20000 in
theorem ma_56 : ∃ E, (mkF cy h9 u h0 w)[piL.getD 56 0]? = some (adW h9 u h0 w t 56, E) := ⟨_, rfl⟩
set_option maxRecDepth 20000 in
theorem mp_56 (hP : va_P D vwCl (mkF cy h9 u h0 w) H) : va_at D vwCl (adW h9 u h0 w t 56, cellE (adW h9 u h0 w t) cy v0 L0 56) H := hP 26 _ rfl
set_option maxRecDepth 20000 in
theorem ma_57 : ∃ E, (mkF cy h9 u h0 w)[piL.getD 57 0]? = some (adW h9 u h0 w t 57, E) := ⟨_, rfl⟩
set_option maxRecDepth 20000 in
theorem mp_57 (hP : va_P D vwCl (mkF cy h9 u h0 w) H) : va_at D vwCl (adW h9 u h0 w t 57, cellE (adW h9 u h0 w t) cy v0 L0 57) H := hP 28 _ rfl
set_option maxRecDepth 20000 in
theorem ma_58 : ∃ E, (mkF cy h9 u h0 w)[piL.getD 58 0]? = some (adW h9 u h0 w t 58, E) := ⟨_, rfl⟩
set_option maxRecDepth 20000 in
theorem mp_58 (hP : va_P D vwCl (mkF cy h9 u h0 w) H) : va_at D vwCl (adW h9 u h0 w t 58, cellE (adW h9 u h0 w t) cy v0 L0 58) H := hP 30 _ rfl
set_option maxRecDepth 20000 in
theorem ma_59 : ∃ E, (mkF cy h9 u h0 w)[piL.getD 59 0]? = some (adW h9 u h0 w t 59, E) := ⟨_, rfl⟩
set_option maxRecDepth 20000 in
theorem mp_59 (hP : va_P D vwCl (mkF cy h9 u h0 w) H) : va_at D vwCl (adW h9 u h0 w t 59, cellE (adW h9 u h0 w t) cy v0 L0 59) H := hP 32 _ rfl
set_option maxRecDepth 20000 in
theorem ma_60 : ∃ E, (mkF cy h9 u h0 w)[piL.getD 60 0]? = some (adW h9 u h0 w t 60, E) := ⟨_, rfl⟩
set_option maxRecDepth 20000 in
theorem mp_60 (hP : va_P D vwCl (mkF cy h9 u h0 w) H) : va_at D vwCl (adW h9 u h0 w t 60, cellE (adW h9 u h0 w t) cy v0 L0 60) H := hP 34 _ rfl
set_option maxRecDepth 20000 in
theorem ma_61 : ∃ E, (mkF cy h9 u h0 w)[piL.getD 61 0]? = some (adW h9 u h0 w t 61, E) := ⟨_, rfl⟩
set_option maxRecDepth 20000 in
theorem mp_61 (hP : va_P D vwCl (mkF cy h9 u h0 w) H) : va_at D vwCl (adW h9 u h0 w t 61, cellE (adW h9 u h0 w t) cy v0 L0 61) H := hP 36 _ rfl
set_option maxRecDepth 20000 in
theorem ma_62 : ∃ E, (mkF cy h9 u h0 w)[piL.getD 62 0]? = some (adW h9 u h0 w t 62, E) := ⟨_, rfl⟩
set_option maxRecDepth 20000 in
theorem mp_62 (hP : va_P D vwCl (mkF cy h9 u h0 w) H) : va_at D vwCl (adW h9 u h0 w t 62, cellE (adW h9 u h0 w t) cy v0 L0 62) H := hP 38 _ rfl
set_option maxRecDepth 20000 in
theorem ma_63 : ∃ E, (mkF cy h9 u h0 w)[piL.getD 63 0]? = some (adW h9 u h0 w t 63, E) := ⟨_, rfl⟩
set_option maxRecDepth 20000 in
theorem mp_63 (hP : va_P D vwCl (mkF cy h9 u h0 w) H) : va_at D vwCl (adW h9 u h0 w t 63, cellE (adW h9 u h0 w t) cy v0 L0 63) H := hP 40 _ rfl
set_option maxRecDepth 20000 in
theorem ma_64 : ∃ E, (mkF cy h9 u h0 w)[piL.getD 64 0]? = some (adW h9 u h0 w t 64, E) := ⟨_, rfl⟩
set_option maxRecDepth 20000 in
theorem mp_64 (hP : va_P D vwCl (mkF cy h9 u h0 w) H) : va_at D vwCl (adW h9 u h0 w t 64, cellE (adW h9 u h0 w t) cy v0 L0 64) H := hP 42 _ rfl
set_option maxRecDepth 20000 in
theorem ma_65 : ∃ E, (mkF cy h9 u h0 w)[piL.getD 65 0]? = some (adW h9 u h0 w t 65, E) := ⟨_, rfl⟩
set_option maxRecDepth 20000 in
theorem mp_65 (hP : va_P D vwCl (mkF cy h9 u h0 w) H) : va_at D vwCl (adW h9 u h0 w t 65, cellE (adW h9 u h0 w t) cy v0 L0 65) H := hP 44 _ rfl
set_option maxRecDepth 20000 in
theorem ma_66 : ∃ E, (mkF cy h9 u h0 w)[piL.getD 66 0]? = some (adW h9 u h0 w t 66, E) := ⟨_, rfl⟩
set_option maxRecDepth 20000 in
theorem mp_66 (hP : va_P D vwCl (mkF cy h9 u h0 w) H) : va_at D vwCl (adW h9 u h0 w t 66, cellE (adW h9 u h0 w t) cy v0 L0 66) H := hP 46 _ rfl
set_option maxRecDepth 20000 in
theorem ma_67 : ∃ E, (mkF cy h9 u h0 w)[piL.getD 67 0]? = some (adW h9 u h0 w t 67, E) := ⟨_, rfl⟩
set_option maxRecDepth 20000 in
theorem mp_67 (hP : va_P D vwCl (mkF cy h9 u h0 w) H) : va_at D vwCl (adW h9 u h0 w t 67, cellE (adW h9 u h0 w t) cy v0 L0 67) H := hP 48 _ rfl
set_option maxRecDepth 20000 in
theorem ma_68 : ∃ E, (mkF cy h9 u h0 w)[piL.getD 68 0]? = some (adW h9 u h0 w t 68, E) := ⟨_, rfl⟩
set_option maxRecDepth 20000 in
theorem mp_68 (hP : va_P D vwCl (mkF cy h9 u h0 w) H) : va_at D vwCl (adW h9 u h0 w t 68, cellE (adW h9 u h0 w t) cy v0 L0 68) H := hP 49 _ rfl
set_option maxRecDepth 20000 in
theorem ma_69 : ∃ E, (mkF cy h9 u h0 w)[piL.getD 69 0]? = some (adW h9 u h0 w t 69, E) := ⟨_, rfl⟩
set_option maxRecDepth 20000 in
theorem mp_69 (hP : va_P D vwCl (mkF cy h9 u h0 w) H) : va_at D vwCl (adW h9 u h0 w t 69, cellE (adW h9 u h0 w t) cy v0 L0 69) H := hP 50 _ rfl
set_option maxRecDepth 20000 in
theorem ma_70 : ∃ E, (mkF cy h9 u h0 w)[piL.getD 70 0]? = some (adW h9 u h0 w t 70, E) := ⟨_, rfl⟩
set_option maxRecDepth 20000 in
theorem mp_70 (hP : va_P D vwCl (mkF cy h9 u h0 w) H) : va_at D vwCl (adW h9 u h0 w t 70, cellE (adW h9 u h0 w t) cy v0 L0 70) H := hP 51 _ rfl
set_option maxRecDepth 20000 in
theorem ma_71 : ∃ E, (mkF cy h9 u h0 w)[piL.getD 71 0]? = some (adW h9 u h0 w t 71, E) := ⟨_, rfl⟩
set_option maxRecDepth 20000 in
theorem mp_71 (hP : va_P D vwCl (mkF cy h9 u h0 w) H) : va_at D vwCl (adW h9 u h0 w t 71, cellE (adW h9 u h0 w t) cy v0 L0 71) H := hP 52 _ rfl
set_option maxRecDepth 20000 in
theorem ma_72 : ∃ E, (mkF cy h9 u h0 w)[piL.getD 72 0]? = some (adW h9 u h0 w t 72, E) := ⟨_, rfl⟩
set_option maxRecDepth 20000 in
theorem mp_72 (hP : va_P D vwCl (mkF cy h9 u h0 w) H) : va_at D vwCl (adW h9 u h0 w t 72, cellE (adW h9 u h0 w t) cy v0 L0 72) H := hP 53 _ rfl
set_option maxRecDepth 20000 in
theorem ma_73 : ∃ E, (mkF cy h9 u h0 w)[piL.getD 73 0]? = some (adW h9 u h0 w t 73, E) := ⟨_, rfl⟩
set_option maxRecDepth 20000 in
theorem mp_73 (hP : va_P D vwCl (mkF cy h9 u h0 w) H) : va_at D vwCl (adW h9 u h0 w t 73, cellE (adW h9 u h0 w t) cy v0 L0 73) H := hP 54 _ rfl
set_option maxRecDepth 20000 in
theorem ma_74 : ∃ E, (mkF cy h9 u h0 w)[piL.getD 74 0]? = some (adW h9 u h0 w t 74, E) := ⟨_, rfl⟩
set_option maxRecDepth 20000 in
theorem mp_74 (hP : va_P D vwCl (mkF cy h9 u h0 w) H) : va_at D vwCl (adW h9 u h0 w t 74, cellE (adW h9 u h0 w t) cy v0 L0 74) H := hP 55 _ rfl
set_option maxRecDepth 20000 in
theorem ma_75 : ∃ E, (mkF cy h9 u h0 w)[piL.getD 75 0]? = some (adW h9 u h0 w t 75, E) := ⟨_, rfl⟩
set_option maxRecDepth 20000 in
theorem mp_75 (hP : va_P D vwCl (mkF cy h9 u h0 w) H) : va_at D vwCl (adW h9 u h0 w t 75, cellE (adW h9 u h0 w t) cy v0 L0 75) H := hP 56 _ rfl
set_option maxRecDepth 20000 in
theorem ma_76 : ∃ E, (mkF cy h9 u h0 w)[piL.getD 76 0]? = some (adW h9 u h0 w t 76, E) := ⟨_, rfl⟩
set_option maxRecDepth 20000 in
theorem mp_76 (hP : va_P D vwCl (mkF cy h9 u h0 w) H) : va_at D vwCl (adW h9 u h0 w t 76, cellE (adW h9 u h0 w t) cy v0 L0 76) H := hP 57 _ rfl
set_option maxRecDepth 20000 in
theorem ma_77 : ∃ E, (mkF cy h9 u h0 w)[piL.getD 77 0]? = some (adW h9 u h0 w t 77, E) := ⟨_, rfl⟩
set_option maxRecDepth 20000 in
theorem mp_77 (hP : va_P D vwCl (mkF cy h9 u h0 w) H) : va_at D vwCl (adW h9 u h0 w t 77, cellE (adW h9 u h0 w t) cy v0 L0 77) H := hP 58 _ rfl
set_option maxRecDepth 20000 in
theorem ma_78 : ∃ E, (mkF cy h9 u h0 w)[piL.getD 78 0]? = some (adW h9 u h0 w t 78, E) := ⟨_, rfl⟩
set_option maxRecDepth 20000 in
theorem mp_78 (hP : va_P D vwCl (mkF cy h9 u h0 w) H) : va_at D vwCl (adW h9 u h0 w t 78, cellE (adW h9 u h0 w t) cy v0 L0 78) H := hP 59 _ rfl
set_option maxRecDepth 20000 in
theorem ma_79 : ∃ E, (mkF cy h9 u h0 w)[piL.getD 79 0]? = some (adW h9 u h0 w t 79, E) := ⟨_, rfl⟩
set_option maxRecDepth 20000 in
theorem mp_79 (hP : va_P D vwCl (mkF cy h9 u h0 w) H) : va_at D vwCl (adW h9 u h0 w t 79, cellE (adW h9 u h0 w t) cy v0 L0 79) H := hP 79 _ rfl
set_option maxRecDepth 20000 in
theorem ma_80 : ∃ E, (mkF cy h9 u h0 w)[piL.getD 80 0]? = some (adW h9 u h0 w t 80, E) := ⟨_, rfl⟩
set_option maxRecDepth 20000 in
theorem mp_80 (hP : va_P D vwCl (mkF cy h9 u h0 w) H) : va_at D vwCl (adW h9 u h0 w t 80, cellE (adW h9 u h0 w t) cy v0 L0 80) H := hP 80 _ rfl
set_option maxRecDepth 20000 in
theorem ma_81 : ∃ E, (mkF cy h9 u h0 w)[piL.getD 81 0]? = some (adW h9 u h0 w t 81, E) := ⟨_, rfl⟩
set_option maxRecDepth 20000 in
theorem mp_81 (hP : va_P D vwCl (mkF cy h9 u h0 w) H) : va_at D vwCl (adW h9 u h0 w t 81, cellE (adW h9 u h0 w t) cy v0 L0 81) H := hP 81 _ rfl
set_option maxRecDepth 20000 in
theorem ma_82 : ∃ E, (mkF cy h9 u h0 w)[piL.getD 82 0]? = some (adW h9 u h0 w t 82, E) := ⟨_, rfl⟩
set_option maxRecDepth 20000 in
theorem mp_82 (hP : va_P D vwCl (mkF cy h9 u h0 w) H) : va_at D vwCl (adW h9 u h0 w t 82, cellE (adW h9 u h0 w t) cy v0 L0 82) H := hP 82 _ rfl
set_option maxRecDepth 20000 in
theorem ma_83 : ∃ E, (mkF cy h9 u h0 w)[piL.getD 83 0]? = some (adW h9 u h0 w t 83, E) := ⟨_, rfl⟩
set_option maxRecDepth 20000 in
theorem mp_83 (hP : va_P D vwCl (mkF cy h9 u h0 w) H) : va_at D vwCl (adW h9 u h0 w t 83, cellE (adW h9 u h0 w t) cy v0 L0 83) H := hP 83 _ rfl
set_option maxRecDepth 20000 in
theorem ma_84 : ∃ E, (mkF cy h9 u h0 w)[piL.getD 84 0]? = some (adW h9 u h0 w t 84, E) := ⟨_, rfl⟩
set_option maxRecDepth 20000 in
theorem mp_84 (hP : va_P D vwCl (mkF cy h9 u h0 w) H) : va_at D vwCl (adW h9 u h0 w t 84, cellE (adW h9 u h0 w t) cy v0 L0 84) H := hP 84 _ rfl
set_option maxRecDepth 20000 in
theorem ma_85 : ∃ E, (mkF cy h9 u h0 w)[piL.getD 85 0]? = some (adW h9 u h0 w t 85, E) := ⟨_, rfl⟩
set_option maxRecDepth 20000 in
theorem mp_85 (hP : va_P D vwCl (mkF cy h9 u h0 w) H) : va_at D vwCl (adW h9 u h0 w t 85, cellE (adW h9 u h0 w t) cy v0 L0 85) H := hP 85 _ rfl
set_option maxRecDepth 20000 in
theorem ma_86 : ∃ E, (mkF cy h9 u h0 w)[piL.getD 86 0]? = some (adW h9 u h0 w t 86, E) := ⟨_, rfl⟩
set_option maxRecDepth 20000 in
theorem mp_86 (hP : va_P D vwCl (mkF cy h9 u h0 w) H) : va_at D vwCl (adW h9 u h0 w t 86, cellE (adW h9 u h0 w t) cy v0 L0 86) H := hP 86 _ rfl
set_option maxRecDepth 20000 in
theorem ma_87 : ∃ E, (mkF cy h9 u h0 w)[piL.getD 87 0]? = some (adW h9 u h0 w t 87, E) := ⟨_, rfl⟩
set_option maxRecDepth 20000 in
theorem mp_87 (hP : va_P D vwCl (mkF cy h9 u h0 w) H) : va_at D vwCl (adW h9 u h0 w t 87, cellE (adW h9 u h0 w t) cy v0 L0 87) H := hP 87 _ rfl
set_option maxRecDepth 20000 in
theorem ma_88 : ∃ E, (mkF cy h9 u h0 w)[piL.getD 88 0]? = some (adW h9 u h0 w t 88, E) := ⟨_, rfl⟩
set_option maxRecDepth 20000 in
theorem mp_88 (hP : va_P D vwCl (mkF cy h9 u h0 w) H) : va_at D vwCl (adW h9 u h0 w t 88, cellE (adW h9 u h0 w t) cy v0 L0 88) H := hP 88 _ rfl
set_option maxRecDepth 20000 in
theorem ma_89 : ∃ E, (mkF cy h9 u h0 w)[piL.getD 89 0]? = some (adW h9 u h0 w t 89, E) := ⟨_, rfl⟩
set_option maxRecDepth 20000 in
theorem mp_89 (hP : va_P D vwCl (mkF cy h9 u h0 w) H) : va_at D vwCl (adW h9 u h0 w t 89, cellE (adW h9 u h0 w t) cy v0 L0 89) H := hP 89 _ rfl
set_option maxRecDepth 20000 in
theorem ma_90 : ∃ E, (mkF cy h9 u h0 w)[piL.getD 90 0]? = some (adW h9 u h0 w t 90, E) := ⟨_, rfl⟩
set_option maxRecDepth 20000 in
theorem mp_90 (hP : va_P D vwCl (mkF cy h9 u h0 w) H) : va_at D vwCl (adW h9 u h0 w t 90, cellE (adW h9 u h0 w t) cy v0 L0 90) H := hP 90 _ rfl
set_option maxRecDepth 20000 in
theorem ma_91 : ∃ E, (mkF cy h9 u h0 w)[piL.getD 91 0]? = some (adW h9 u h0 w t 91, E) := ⟨_, rfl⟩
set_option maxRecDepth 20000 in
theorem mp_91 (hP : va_P D vwCl (mkF cy h9 u h0 w) H) : va_at D vwCl (adW h9 u h0 w t 91, cellE (adW h9 u h0 w t) cy v0 L0 91) H := hP 91 _ rfl
set_option maxRecDepth 20000 in
theorem ma_92 : ∃ E, (mkF cy h9 u h0 w)[piL.getD 92 0]? = some (adW h9 u h0 w t 92, E) := ⟨_, rfl⟩
set_option maxRecDepth 20000 in
theorem mp_92 (hP : va_P D vwCl (mkF cy h9 u h0 w) H) : va_at D vwCl (adW h9 u h0 w t 92, cellE (adW h9 u h0 w t) cy v0 L0 92) H := hP 92 _ rfl
def r93 : List Nat := [0, 1, 2, 3, 4, 5, 6, 7, 8, 9, 10, 11, 12, 13, 14, 15, 16, 17, 18, 19, 20, 21, 22, 23, 24, 25, 26, 27, 28, 29, 30, 31, 32, 33, 34, 35, 36, 37, 38, 39, 40, 41, 42, 43, 44, 45, 46, 47, 48, 49, 50, 51, 52, 53, 54, 55, 56, 57, 58, 59, 60, 61, 62, 63, 64, 65, 66, 67, 68, 69, 70, 71, 72, 73, 74, 75, 76, 77, 78, 79, 80, 81, 82, 83, 84, 85, 86, 87, 88, 89, 90, 91, 92]
theorem r93_mem {k : Nat} (h : k < 93) : k ∈ r93 := by
  have : r93 = List.range 93 := by decide +kernel
  rw [this]
  exact List.mem_range.mpr h
set_option maxRecDepth 20000 in
theorem mk_at : ∀ k ∈ r93, ∃ E, (mkF cy h9 u h0 w)[piL.getD k 0]? = some (adW h9 u h0 w t k, E) := List.forall_mem_cons.mpr ⟨ma_0, List.forall_mem_cons.mpr ⟨ma_1, List.forall_mem_cons.mpr ⟨ma_2, List.forall_mem_cons.mpr ⟨ma_3, List.forall_mem_cons.mpr ⟨ma_4, List.forall_mem_cons.mpr ⟨ma_5, List.forall_mem_cons.mpr ⟨ma_6, List.forall_mem_cons.mpr ⟨ma_7, List.forall_mem_cons.mpr ⟨ma_8, List.forall_mem_cons.mpr ⟨ma_9, List.forall_mem_cons.mpr ⟨ma_10, List.forall_mem_cons.mpr ⟨ma_11, List.forall_mem_cons.mpr ⟨ma_12, List.forall_mem_cons.mpr ⟨ma_13, List.forall_mem_cons.mpr ⟨ma_14, List.forall_mem_cons.mpr ⟨ma_15, List.forall_mem_cons.mpr ⟨ma_16, List.forall_mem_cons.mpr ⟨ma_17, List.forall_mem_cons.mpr ⟨ma_18, List.forall_mem_cons.mpr ⟨ma_19, List.forall_mem_cons.mpr ⟨ma_20, List.forall_mem_cons.mpr ⟨ma_21, List.forall_mem_cons.mpr ⟨ma_22, List.forall_mem_cons.mpr ⟨ma_23, List.forall_mem_cons.mpr ⟨ma_24, List.forall_mem_cons.mpr ⟨ma_25, List.forall_mem_cons.mpr ⟨ma_26, List.forall_mem_cons.mpr ⟨ma_27, List.forall_mem_cons.mpr ⟨ma_28, List.forall_mem_cons.mpr ⟨ma_29, List.forall_mem_cons.mpr ⟨ma_30, List.forall_mem_cons.mpr ⟨ma_31, List.forall_mem_cons.mpr ⟨ma_32, List.forall_mem_cons.mpr ⟨ma_33, List.forall_mem_cons.mpr ⟨ma_34, List.forall_mem_cons.mpr ⟨ma_35, List.forall_mem_cons.mpr ⟨ma_36, List.forall_mem_cons.mpr ⟨ma_37, List.forall_mem_cons.mpr ⟨ma_38, List.forall_mem_cons.mpr ⟨ma_39, List.forall_mem_cons.mpr ⟨ma_40, List.forall_mem_cons.mpr ⟨ma_41, List.forall_mem_cons.mpr ⟨ma_42, List.forall_mem_cons.mpr ⟨ma_43, List.forall_mem_cons.mpr ⟨ma_44, List.forall_mem_cons.mpr ⟨ma_45, List.forall_mem_cons.mpr ⟨ma_46, List.forall_mem_cons.mpr ⟨ma_47, List.forall_mem_cons.mpr ⟨ma_48, List.forall_mem_cons.mpr ⟨ma_49, List.forall_mem_cons.mpr ⟨ma_50, List.forall_mem_cons.mpr ⟨ma_51, List.forall_mem_cons.mpr ⟨ma_52, List.forall_mem_cons.mpr ⟨ma_53, List.forall_mem_cons.mpr ⟨ma_54, List.forall_mem_cons.mpr ⟨ma_55, List.forall_mem_cons.mpr ⟨ma_56, List.forall_mem_cons.mpr ⟨ma_57, List.forall_mem_cons.mpr ⟨ma_58, List.forall_mem_cons.mpr ⟨ma_59, List.forall_mem_cons.mpr ⟨ma_60, List.forall_mem_cons.mpr ⟨ma_61, List.forall_mem_cons.mpr ⟨ma_62, List.forall_mem_cons.mpr ⟨ma_63, List.forall_mem_cons.mpr ⟨ma_64, List.forall_mem_cons.mpr ⟨ma_65, List.forall_mem_cons.mpr ⟨ma_66, List.forall_mem_cons.mpr ⟨ma_67, List.forall_mem_cons.mpr ⟨ma_68, List.forall_mem_cons.mpr ⟨ma_69, List.forall_mem_cons.mpr ⟨ma_70, List.forall_mem_cons.mpr ⟨ma_71, List.forall_mem_cons.mpr ⟨ma_72, List.forall_mem_cons.mpr ⟨ma_73, List.forall_mem_cons.mpr ⟨ma_74, List.forall_mem_cons.mpr ⟨ma_75, List.forall_mem_cons.mpr ⟨ma_76, List.forall_mem_cons.mpr ⟨ma_77, List.forall_mem_cons.mpr ⟨ma_78, List.forall_mem_cons.mpr ⟨ma_79, List.forall_mem_cons.mpr ⟨ma_80, List.forall_mem_cons.mpr ⟨ma_81, List.forall_mem_cons.mpr ⟨ma_82, List.forall_mem_cons.mpr ⟨ma_83, List.forall_mem_cons.mpr ⟨ma_84, List.forall_mem_cons.mpr ⟨ma_85, List.forall_mem_cons.mpr ⟨ma_86, List.forall_mem_cons.mpr ⟨ma_87, List.forall_mem_cons.mpr ⟨ma_88, List.forall_mem_cons.mpr ⟨ma_89, List.forall_mem_cons.mpr ⟨ma_90, List.forall_mem_cons.mpr ⟨ma_91, List.forall_mem_cons.mpr ⟨ma_92, fun _ h => absurd h List.not_mem_nil⟩⟩⟩⟩⟩⟩⟩⟩⟩⟩⟩⟩⟩⟩⟩⟩⟩⟩⟩⟩⟩⟩⟩⟩⟩⟩⟩⟩⟩⟩⟩⟩⟩⟩⟩⟩⟩⟩⟩⟩⟩⟩⟩⟩⟩⟩⟩⟩⟩⟩⟩⟩⟩⟩⟩⟩⟩⟩⟩⟩⟩⟩⟩⟩⟩⟩⟩⟩⟩⟩⟩⟩⟩⟩⟩⟩⟩⟩⟩⟩⟩⟩⟩⟩⟩⟩⟩⟩⟩⟩⟩⟩⟩
set_option maxRecDepth 20000 in
theorem mk_P (hP : va_P D vwCl (mkF cy h9 u h0 w) H) : ∀ k ∈ r93, va_at D vwCl (adW h9 u h0 w t k, cellE (adW h9 u h0 w t) cy v0 L0 k) H := List.forall_mem_cons.mpr ⟨mp_0 hP, List.forall_mem_cons.mpr ⟨mp_1 hP, List.forall_mem_cons.mpr ⟨mp_2 hP, List.forall_mem_cons.mpr ⟨mp_3 hP, List.forall_mem_cons.mpr ⟨mp_4 hP, List.forall_mem_cons.mpr ⟨mp_5 hP, List.forall_mem_cons.mpr ⟨mp_6 hP, List.forall_mem_cons.mpr ⟨mp_7 hP, List.forall_mem_cons.mpr ⟨mp_8 hP, List.forall_mem_cons.mpr ⟨mp_9 hP, List.forall_mem_cons.mpr ⟨mp_10 hP, List.forall_mem_cons.mpr ⟨mp_11 hP, List.forall_mem_cons.mpr ⟨mp_12 hP, List.forall_mem_cons.mpr ⟨mp_13 hP, List.forall_mem_cons.mpr ⟨mp_14 hP, List.forall_mem_cons.mpr ⟨mp_15 hP, List.forall_mem_cons.mpr ⟨mp_16 hP, List.forall_mem_cons.mpr ⟨mp_17 hP, List.forall_mem_cons.mpr ⟨mp_18 hP, List.forall_mem_cons.mpr ⟨mp_19 hP, List.forall_mem_cons.mpr ⟨mp_20 hP, List.forall_mem_cons.mpr ⟨mp_21 hP, List.forall_mem_cons.mpr ⟨mp_22 hP, List.forall_mem_cons.mpr ⟨mp_23 hP, List.forall_mem_cons.mpr ⟨mp_24 hP, List.forall_mem_cons.mpr ⟨mp_25 hP, List.forall_mem_cons.mpr ⟨mp_26 hP, List.forall_mem_cons.mpr ⟨mp_27 hP, List.forall_mem_cons.mpr ⟨mp_28 hP, List.forall_mem_cons.mpr ⟨mp_29 hP, List.forall_mem_cons.mpr ⟨mp_30 hP, List.forall_mem_cons.mpr ⟨mp_31 hP, List.forall_mem_cons.mpr ⟨mp_32 hP, List.forall_mem_cons.mpr ⟨mp_33 hP, List.forall_mem_cons.mpr ⟨mp_34 hP, List.forall_mem_cons.mpr ⟨mp_35 hP, List.forall_mem_cons.mpr ⟨mp_36 hP, List.forall_mem_cons.mpr ⟨mp_37 hP, List.forall_mem_cons.mpr ⟨mp_38 hP, List.forall_mem_cons.mpr ⟨mp_39 hP, List.forall_mem_cons.mpr ⟨mp_40 hP, List.forall_mem_cons.mpr ⟨mp_41 hP, List.forall_mem_cons.mpr ⟨mp_42 hP, List.forall_mem_cons.mpr ⟨mp_43 hP, List.forall_mem_cons.mpr ⟨mp_44 hP, List.forall_mem_cons.mpr ⟨mp_45 hP, List.forall_mem_cons.mpr ⟨mp_46 hP, List.forall_mem_cons.mpr ⟨mp_47 hP, List.forall_mem_cons.mpr ⟨mp_48 hP, List.forall_mem_cons.mpr ⟨mp_49 hP, List.forall_mem_cons.mpr ⟨mp_50 hP, List.forall_mem_cons.mpr ⟨mp_51 hP, List.forall_mem_cons.mpr ⟨mp_52 hP, List.forall_mem_cons.mpr ⟨mp_53 hP, List.forall_mem_cons.mpr ⟨mp_54 hP, List.forall_mem_cons.mpr ⟨mp_55 hP, List.forall_mem_cons.mpr ⟨mp_56 hP, List.forall_mem_cons.mpr ⟨mp_57 hP, List.forall_mem_cons.mpr ⟨mp_58 hP, List.forall_mem_cons.mpr ⟨mp_59 hP, List.forall_mem_cons.mpr ⟨mp_60 hP, List.forall_mem_cons.mpr ⟨mp_61 hP, List.forall_mem_cons.mpr ⟨mp_62 hP, List.forall_mem_cons.mpr ⟨mp_63 hP, List.forall_mem_cons.mpr ⟨mp_64 hP, List.forall_mem_cons.mpr ⟨mp_65 hP, List.forall_mem_cons.mpr ⟨mp_66 hP, List.forall_mem_cons.mpr ⟨mp_67 hP, List.forall_mem_cons.mpr ⟨mp_68 hP, List.forall_mem_cons.mpr ⟨mp_69 hP, List.forall_mem_cons.mpr ⟨mp_70 hP, List.forall_mem_cons.mpr ⟨mp_71 hP, List.forall_mem_cons.mpr ⟨mp_72 hP, List.forall_mem_cons.mpr ⟨mp_73 hP, List.forall_mem_cons.mpr ⟨mp_74 hP, List.forall_mem_cons.mpr ⟨mp_75 hP, List.forall_mem_cons.mpr ⟨mp_76 hP, List.forall_mem_cons.mpr ⟨mp_77 hP, List.forall_mem_cons.mpr ⟨mp_78 hP, List.forall_mem_cons.mpr ⟨mp_79 hP, List.forall_mem_cons.mpr ⟨mp_80 hP, List.forall_mem_cons.mpr ⟨mp_81 hP, List.forall_mem_cons.mpr ⟨mp_82 hP, List.forall_mem_cons.mpr ⟨mp_83 hP, List.forall_mem_cons.mpr ⟨mp_84 hP, List.forall_mem_cons.mpr ⟨mp_85 hP, List.forall_mem_cons.mpr ⟨mp_86 hP, List.forall_mem_cons.mpr ⟨mp_87 hP, List.forall_mem_cons.mpr ⟨mp_88 hP, List.forall_mem_cons.mpr ⟨mp_89 hP, List.forall_mem_cons.mpr ⟨mp_90 hP, List.forall_mem_cons.mpr ⟨mp_91 hP, List.forall_mem_cons.mpr ⟨mp_92 hP, fun _ h => absurd h List.not_mem_nil⟩⟩⟩⟩⟩⟩⟩⟩⟩⟩⟩⟩⟩⟩⟩⟩⟩⟩⟩⟩⟩⟩⟩⟩⟩⟩⟩⟩⟩⟩⟩⟩⟩⟩⟩⟩⟩⟩⟩⟩⟩⟩⟩⟩⟩⟩⟩⟩⟩⟩⟩⟩⟩⟩⟩⟩⟩⟩⟩⟩⟩⟩⟩⟩⟩⟩⟩⟩⟩⟩⟩⟩⟩⟩⟩⟩⟩⟩⟩⟩⟩⟩⟩⟩⟩⟩⟩⟩⟩⟩⟩⟩⟩
theorem mk_wsW (hP : va_P D vwCl (mkW cy h9 u h0 w) H) : va_P D vwCl (wsW (adW h9 u h0 w t) cy v0 L0) H := by
  intro k q hq
  have hk := (wsW_at hq).1
  rw [wsW_get hk] at hq
  cases hq
  rw [mkF_eq] at hP
  exact mk_P hP k (r93_mem hk)
theorem mk_adD {z : Nat} (hD : va_D (fun q => z ≤ q) (mkW cy h9 u h0 w)) : adD z (adW h9 u h0 w t) := by
  rw [mkF_eq] at hD
  refine ⟨fun i j hi hj e => ?_, fun i hi => ?_⟩
  · obtain ⟨E1, e1⟩ := mk_at (cy := cy) (h9 := h9) (u := u) (h0 := h0) (w := w) (t := t) i (r93_mem hi)
    obtain ⟨E2, e2⟩ := mk_at (cy := cy) (h9 := h9) (u := u) (h0 := h0) (w := w) (t := t) j (r93_mem hj)
    have h := hD.1 _ _ _ _ e1 e2 e
    rw [← pi_inv i hi, ← pi_inv j hj, h]
  · obtain ⟨E1, e1⟩ := mk_at (cy := cy) (h9 := h9) (u := u) (h0 := h0) (w := w) (t := t) i (r93_mem hi)
    exact hD.2 _ _ e1
end Rows96
