set_option maxRecDepth 20000 in
theorem law_make {p : Program} {l : Launch} {e : Env} {s : State} {m : MethodId} {below : List Frame} {meth : Method} {c : Code} {D : va_G} {cy : Nat → ClassId} {A : Nat → Prop} {b : Nat} {Q : State → Prop} (X : KX p s m #[Value.ref b] c RL cL_law 4 D cy A) (k : ∀ (h9 h0 : Nat) (u : Nat → Nat → Nat) (w : Nat → Nat), GK p l e room_1 s m #[Value.ref b] below meth c D A 4 Q 18 [(3, .int 0), (2, .ref h0), (1, .ref h9), (0, .ref b)] [] (mkW cy h9 u h0 w) 93 1606) : GK p l e room_1 s m #[Value.ref b] below meth c D A 4 Q 0 [(0, .ref b)] [] [] 0 0 := by
  refine k_new X cf9 dL_law_0 (in_g 56 (by decide +kernel) rfl) (in_g 57 (by decide +kernel) rfl) (in_g 41 (by decide +kernel) rfl) (fs := [.null, .null, .null, .null, .null, .null, .null, .null, .null, .null, .long 0]) (fun j hj => by rcases (show j = 0 ∨ j = 1 ∨ j = 2 ∨ j = 3 ∨ j = 4 ∨ j = 5 ∨ j = 6 ∨ j = 7 ∨ j = 8 ∨ j = 9 ∨ j = 10 by omega) with rfl | rfl | rfl | rfl | rfl | rfl | rfl | rfl | rfl | rfl | rfl <;> rfl) (Nat.le_of_ble_eq_true rfl) (Nat.le_of_ble_eq_true rfl) (fun h9 => ?_)
  refine k_dup X dL_law_3 ?_
  refine k_call X n_X9_init dL_law_4 cwb_X9_init (in_g 58 (by decide +kernel) rfl) (in_g 59 (by decide +kernel) rfl) rfl ⟨(Nat.le_of_ble_eq_true rfl), (Nat.le_of_ble_eq_true rfl)⟩ ⟨(Nat.le_of_ble_eq_true rfl), (Nat.le_of_ble_eq_true rfl)⟩ (Nat.le_of_ble_eq_true rfl) (fun u => ?_)
  refine k_astore (lv' := [(1, .ref h9), (0, .ref b)]) X dL_law_7 (by decide) rfl ?_
  refine k_new X cf10 dL_law_8 (in_g 769 (by decide +kernel) rfl) (in_g 770 (by decide +kernel) rfl) (in_g 51 (by decide +kernel) rfl) (fs := [.int 0, .null, .null, .null, .null, .null, .int 0, .int 0, .null, .int 0, .int 0, .int 0, .int 0, .null, .int 0, .int 0, .int 0, .null, .null, .int 0, .null, .null, .long 0, .null, .null]) (fun j hj => by rcases (show j = 0 ∨ j = 1 ∨ j = 2 ∨ j = 3 ∨ j = 4 ∨ j = 5 ∨ j = 6 ∨ j = 7 ∨ j = 8 ∨ j = 9 ∨ j = 10 ∨ j = 11 ∨ j = 12 ∨ j = 13 ∨ j = 14 ∨ j = 15 ∨ j = 16 ∨ j = 17 ∨ j = 18 ∨ j = 19 ∨ j = 20 ∨ j = 21 ∨ j = 22 ∨ j = 23 ∨ j = 24 by omega) with rfl | rfl | rfl | rfl | rfl | rfl | rfl | rfl | rfl | rfl | rfl | rfl | rfl | rfl | rfl | rfl | rfl | rfl | rfl | rfl | rfl | rfl | rfl | rfl | rfl <;> rfl) (Nat.le_of_ble_eq_true rfl) (Nat.le_of_ble_eq_true rfl) (fun h0 => ?_)
  refine k_dup X dL_law_11 ?_
  refine k_call X n_X10_init dL_law_12 cwb_X10_init (in_g 771 (by decide +kernel) rfl) (in_g 772 (by decide +kernel) rfl) rfl ⟨(Nat.le_of_ble_eq_true rfl), (Nat.le_of_ble_eq_true rfl)⟩ ⟨(Nat.le_of_ble_eq_true rfl), (Nat.le_of_ble_eq_true rfl)⟩ (Nat.le_of_ble_eq_true rfl) (fun w => ?_)
  refine k_astore (lv' := [(2, .ref h0), (1, .ref h9), (0, .ref b)]) X dL_law_15 (by decide) rfl ?_
  refine k_iconst X 0 dL_law_16 rfl ?_
  refine k_istore (lv' := [(3, .int 0), (2, .ref h0), (1, .ref h9), (0, .ref b)]) X dL_law_17 (by decide) rfl ?_
  exact k h9 h0 u w
theorem adW_t {h9 h0 : Nat} {u : Nat → Nat → Nat} {w t : Nat → Nat} (j : Nat) : adW h9 u h0 w t (100 + j) = t j := by
  unfold adW
  rw [if_neg (by omega), show 100 + j - 100 = j by omega]
theorem whole_start {p : Program} {e : Env} {s : State} {m : MethodId} {below : List Frame} {meth : Method} {c : Code} (l : Launch) (hflags : l.flags = flags0) {b L : Nat} {xs : Nat → Int32} (hL : L ≤ 2560) (C0 : lw_At p s m meth c b L xs) : W p l e room_1 s m #[Value.ref b] below meth c s.heap [] 0 0 (lw_Z below #[Value.ref b] s) (entryFrame m ([Value.ref b] : List Value).toArray 4) := by
  obtain ⟨hx, hb, hr, hml, hown, hts, hX, hbl, hlocks, hgv⟩ := C0
  obtain ⟨D, cy, hC⟩ := entry_K hts
  obtain ⟨t, hT⟩ := entry_S hts hgv
  have hl := lv_entry ([.ref b]) (n := 4) (Nat.le_of_ble_eq_true rfl)
  rw [lg_entry_eq]
  refine law_make (A := fun q => s.heap.size ≤ q) ⟨hx, hb, hml, hown, tb_g hts, hC, fun q h => h⟩ (fun h9 h0 u w => ?_) s.heap [] _ (fun k q h => by simp at h) ⟨fun i j p q h => by simp at h, fun k q h => by simp at h⟩ va_S.rf hl
  intro H locs ls hP hD hS hl2
  have hSx : Sx D cy (adW h9 u h0 w t) s.heap.size s s.heap := by
    refine ⟨hC.1, mk_adD hD, Nat.le_refl _, fun j hj => ?_, hC.2.1⟩
    rw [adW_t]
    exact hT j hj
  have hgo := law_loop (l := l) (e := e) (below := below) (D := D) (cy := cy) (ad := adW h9 u h0 w t) ⟨hx, hb, hr, hml, hown, tb_g hts, hX, hbl, hlocks, hSx⟩ hL (L + 1) 0 v0 L0 (by omega) (Nat.zero_le L) R_start
  rw [nI_0] at hgo
  exact hgo H locs ls (mk_wsW hP) hS hl2
