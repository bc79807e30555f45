theorem tb_g {A : Array Value} {s : State} (hts : ∀ w ∈ lw_tbl, w.before A s = true) : ∀ w ∈ lw_g, w.before A s = true := fun w hw => hts w (List.mem_filter.mp hw).1
theorem tb_n {A : Array Value} {s : State} (hts : ∀ w ∈ lw_tbl, w.before A s = true) : ∀ w ∈ nestW, va_Nw w s := by
  intro w hw
  have h1 := hts w (List.mem_filter.mp hw).1
  have h2 : isNest w = true := (List.mem_filter.mp hw).2
  cases w <;> first | exact va_Nw.of rfl h1 | (exfalso; revert h2; simp [isNest])
theorem entry_D {A : Array Value} {s : State} (htg : ∀ w ∈ lw_g, w.before A s = true) : ∃ D : va_G, ∀ (k : Nat) (q : vw_C), vwCl[k]? = some q → u_Kn s q.1 q.2.1 q.2.2 (D.1 k) (D.2 k) := by
  obtain ⟨c0, i0, k0⟩ := u_known (C := RX0) (T := TX0) (N := 5) (n := 5) htg cf0.2.1 (htg _ (in_g 171 (by decide +kernel) rfl))
  obtain ⟨c1, i1, k1⟩ := u_known (C := RX1) (T := TX1) (N := 3) (n := 3) htg cf1.2.1 (htg _ (in_g 164 (by decide +kernel) rfl))
  obtain ⟨c2, i2, k2⟩ := u_known (C := RX2) (T := TX2) (N := 7) (n := 7) htg cf2.2.1 (htg _ (in_g 102 (by decide +kernel) rfl))
  obtain ⟨c3, i3, k3⟩ := u_known (C := RX3) (T := TX3) (N := 4) (n := 4) htg cf3.2.1 (htg _ (in_g 206 (by decide +kernel) rfl))
  obtain ⟨c4, i4, k4⟩ := u_known (C := RX4) (T := TX4) (N := 4) (n := 4) htg cf4.2.1 (htg _ (in_g 95 (by decide +kernel) rfl))
  obtain ⟨c5, i5, k5⟩ := u_known (C := RX5) (T := TX5) (N := 2) (n := 2) htg cf5.2.1 (htg _ (in_g 254 (by decide +kernel) rfl))
  obtain ⟨c6, i6, k6⟩ := u_known (C := RX6) (T := TX6) (N := 2) (n := 2) htg cf6.2.1 (htg _ (in_g 65 (by decide +kernel) rfl))
  obtain ⟨c7, i7, k7⟩ := u_known (C := RX7) (T := TX7) (N := 6) (n := 6) htg cf7.2.1 (htg _ (in_g 228 (by decide +kernel) rfl))
  obtain ⟨c8, i8, k8⟩ := u_known (C := RX8) (T := TX8) (N := 2) (n := 2) htg cf8.2.1 (htg _ (in_g 80 (by decide +kernel) rfl))
  obtain ⟨c9, i9, k9⟩ := u_known (C := RX9) (T := TX9) (N := 11) (n := 11) htg cf9.2.1 (htg _ (in_g 57 (by decide +kernel) rfl))
  obtain ⟨c10, i10, k10⟩ := u_known (C := RX10) (T := TX10) (N := 25) (n := 25) htg cf10.2.1 (htg _ (in_g 770 (by decide +kernel) rfl))
  refine ⟨(fun k => if k = 0 then c0 else if k = 1 then c1 else if k = 2 then c2 else if k = 3 then c3 else if k = 4 then c4 else if k = 5 then c5 else if k = 6 then c6 else if k = 7 then c7 else if k = 8 then c8 else if k = 9 then c9 else c10, fun k => if k = 0 then i0 else if k = 1 then i1 else if k = 2 then i2 else if k = 3 then i3 else if k = 4 then i4 else if k = 5 then i5 else if k = 6 then i6 else if k = 7 then i7 else if k = 8 then i8 else if k = 9 then i9 else i10), ?_⟩
  intro k q hq
  match k, hq with
  | 0, hq => cases hq; exact k0
  | 1, hq => cases hq; exact k1
  | 2, hq => cases hq; exact k2
  | 3, hq => cases hq; exact k3
  | 4, hq => cases hq; exact k4
  | 5, hq => cases hq; exact k5
  | 6, hq => cases hq; exact k6
  | 7, hq => cases hq; exact k7
  | 8, hq => cases hq; exact k8
  | 9, hq => cases hq; exact k9
  | 10, hq => cases hq; exact k10
  | k + 11, hq => simp [vwCl] at hq
theorem entry_K {A : Array Value} {s : State} (hts : ∀ w ∈ lw_tbl, w.before A s = true) : ∃ (D : va_G) (cy : Nat → ClassId), CyU D cy s := by
  obtain ⟨D, hD⟩ := entry_D (tb_g hts)
  obtain ⟨cI, kI, pI, fI, gI, eI⟩ := Cond.arrayClass_spec (hts (.arrayClass .int) (List.mem_of_getElem? (i := 78) (by decide +kernel)))
  obtain ⟨cB, kB, pB, fB, gB, eB⟩ := Cond.arrayClass_spec (hts (.arrayClass .boolean) (List.mem_of_getElem? (i := 851) (by decide +kernel)))
  have oA := hts (.arrayOver (.object "BroadNib$Act")) (List.mem_of_getElem? (i := 170) (by decide +kernel))
  have oP := hts (.arrayOver (.object "BroadNib$Pen")) (List.mem_of_getElem? (i := 101) (by decide +kernel))
  have oS := hts (.arrayOver (.object "BroadNib$Slot")) (List.mem_of_getElem? (i := 253) (by decide +kernel))
  obtain ⟨pA, cA, kA, a1, a2, a3, a4, a5⟩ := Cond.arrayOver_spec oA
  obtain ⟨pP, cP, kP, b1, b2, b3, b4, b5⟩ := Cond.arrayOver_spec oP
  obtain ⟨pS, cS, kS, d1, d2, d3, d4, d5⟩ := Cond.arrayOver_spec oS
  refine ⟨D, fun k => if k = 11 then cI else if k = 12 then cB else if k = 13 then cA else if k = 14 then cP else cS, ⟨hD, ?_⟩, tb_n hts, va_AO.of oP, va_AO.of oA, va_AO.of oS⟩
  intro k q hq
  match k, hq with
  | 0, hq => cases hq; exact ⟨fun n z => ⟨fun k h => (by cases h), kI, gI, pI, eI⟩, fI⟩
  | 1, hq => cases hq; exact ⟨fun n z => ⟨fun k h => (by cases h), kB, gB, pB, eB⟩, fB⟩
  | 2, hq => cases hq; exact ⟨fun n z => ⟨fun k h => (by cases h), kA, a3, pA, a4⟩, kA, pA, a3, a4, a1, a5⟩
  | 3, hq => cases hq; exact ⟨fun n z => ⟨fun k h => (by cases h), kP, b3, pP, b4⟩, kP, pP, b3, b4, b1, b5⟩
  | 4, hq => cases hq; exact ⟨fun n z => ⟨fun k h => (by cases h), kS, d3, pS, d4⟩, kS, pS, d3, d4, d1, d5⟩
  | k + 5, hq => simp [tysW] at hq
theorem st_of {A : Array Value} {s : State} {n d : String} {ty : FieldType} {N : Nat} {f : Nat → Value} (hN : N < 2 ^ 31) (hl : (Cond.laysStatic "BroadNib" n d).before A s = true) (hini : (Cond.initialized "BroadNib").before A s = true) (harr : (Cond.arrayOf (.static "BroadNib" n d) ty).before A s = true) (hlen : (Cond.eq (.length (.static "BroadNib" n d)) (.int (Int32.ofNat N))).before A s = true) (hel : ∀ j : Nat, j < N → (Term.elem (.static "BroadNib" n d) (.int (Int32.ofNat j))).eval A s none [] s = some (f j)) : ∃ t : Nat, va_Z "BroadNib" n d (.ref t) (fun q => s.heap.size ≤ q) s s.heap ∧ va_T ty t N f (fun q => s.heap.size ≤ q) s s.heap := by
  have hA : ∀ a : Nat, a < s.heap.size → ¬ (fun q => s.heap.size ≤ q) a := fun a h => Nat.not_le.mpr h
  obtain ⟨t, e, h⟩ := va_Tof hN harr (va_eqt hlen) hel hA
  exact ⟨t, va_Zref hl hini e hA, h⟩
theorem st_0 {A : Array Value} {s : State} (hts : ∀ w ∈ lw_tbl, w.before A s = true) (hgv : (Jvm.Cond.and given_1 narrow_1).before A s = true) : ∃ t : Nat, va_Z "BroadNib" (sN 0) (sD 0) (.ref t) (fun q => s.heap.size ≤ q) s s.heap ∧ va_T (sT 0) t (sL 0) (sV 0) (fun q => s.heap.size ≤ q) s s.heap := by
  have hs := flat_of_before _ hgv
  refine st_of (n := "RIGHT") (d := "[I") (ty := .int) (N := 8) (f := sV 0) (by decide) (hts _ (List.mem_of_getElem? (i := 461) (by decide +kernel))) (hts _ (List.mem_of_getElem? (i := 41) (by decide +kernel))) (hs _ (by decide +kernel)) (hs _ (by decide +kernel)) (fun i hi => ?_)
  rcases (show i = 0 ∨ i = 1 ∨ i = 2 ∨ i = 3 ∨ i = 4 ∨ i = 5 ∨ i = 6 ∨ i = 7 by omega) with rfl | rfl | rfl | rfl | rfl | rfl | rfl | rfl
  · exact va_eqt (hs (.eq (.elem (.static "BroadNib" "RIGHT" "[I") (.int 0)) (.int (svI 0 0))) (by decide +kernel))
  · exact va_eqt (hs (.eq (.elem (.static "BroadNib" "RIGHT" "[I") (.int 1)) (.int (svI 0 1))) (by decide +kernel))
  · exact va_eqt (hs (.eq (.elem (.static "BroadNib" "RIGHT" "[I") (.int 2)) (.int (svI 0 2))) (by decide +kernel))
  · exact va_eqt (hs (.eq (.elem (.static "BroadNib" "RIGHT" "[I") (.int 3)) (.int (svI 0 3))) (by decide +kernel))
  · exact va_eqt (hs (.eq (.elem (.static "BroadNib" "RIGHT" "[I") (.int 4)) (.int (svI 0 4))) (by decide +kernel))
  · exact va_eqt (hs (.eq (.elem (.static "BroadNib" "RIGHT" "[I") (.int 5)) (.int (svI 0 5))) (by decide +kernel))
  · exact va_eqt (hs (.eq (.elem (.static "BroadNib" "RIGHT" "[I") (.int 6)) (.int (svI 0 6))) (by decide +kernel))
  · exact va_eqt (hs (.eq (.elem (.static "BroadNib" "RIGHT" "[I") (.int 7)) (.int (svI 0 7))) (by decide +kernel))
theorem st_1 {A : Array Value} {s : State} (hts : ∀ w ∈ lw_tbl, w.before A s = true) (hgv : (Jvm.Cond.and given_1 narrow_1).before A s = true) : ∃ t : Nat, va_Z "BroadNib" (sN 1) (sD 1) (.ref t) (fun q => s.heap.size ≤ q) s s.heap ∧ va_T (sT 1) t (sL 1) (sV 1) (fun q => s.heap.size ≤ q) s s.heap := by
  have hs := flat_of_before _ hgv
  refine st_of (n := "UP") (d := "[I") (ty := .int) (N := 8) (f := sV 1) (by decide) (hts _ (List.mem_of_getElem? (i := 463) (by decide +kernel))) (hts _ (List.mem_of_getElem? (i := 41) (by decide +kernel))) (hs _ (by decide +kernel)) (hs _ (by decide +kernel)) (fun i hi => ?_)
  rcases (show i = 0 ∨ i = 1 ∨ i = 2 ∨ i = 3 ∨ i = 4 ∨ i = 5 ∨ i = 6 ∨ i = 7 by omega) with rfl | rfl | rfl | rfl | rfl | rfl | rfl | rfl
  · exact va_eqt (hs (.eq (.elem (.static "BroadNib" "UP" "[I") (.int 0)) (.int (svI 1 0))) (by decide +kernel))
  · exact va_eqt (hs (.eq (.elem (.static "BroadNib" "UP" "[I") (.int 1)) (.int (svI 1 1))) (by decide +kernel))
  · exact va_eqt (hs (.eq (.elem (.static "BroadNib" "UP" "[I") (.int 2)) (.int (svI 1 2))) (by decide +kernel))
  · exact va_eqt (hs (.eq (.elem (.static "BroadNib" "UP" "[I") (.int 3)) (.int (svI 1 3))) (by decide +kernel))
  · exact va_eqt (hs (.eq (.elem (.static "BroadNib" "UP" "[I") (.int 4)) (.int (svI 1 4))) (by decide +kernel))
  · exact va_eqt (hs (.eq (.elem (.static "BroadNib" "UP" "[I") (.int 5)) (.int (svI 1 5))) (by decide +kernel))
  · exact va_eqt (hs (.eq (.elem (.static "BroadNib" "UP" "[I") (.int 6)) (.int (svI 1 6))) (by decide +kernel))
  · exact va_eqt (hs (.eq (.elem (.static "BroadNib" "UP" "[I") (.int 7)) (.int (svI 1 7))) (by decide +kernel))
theorem st_2 {A : Array Value} {s : State} (hts : ∀ w ∈ lw_tbl, w.before A s = true) (hgv : (Jvm.Cond.and given_1 narrow_1).before A s = true) : ∃ t : Nat, va_Z "BroadNib" (sN 2) (sD 2) (.ref t) (fun q => s.heap.size ≤ q) s s.heap ∧ va_T (sT 2) t (sL 2) (sV 2) (fun q => s.heap.size ≤ q) s s.heap := by
  have hs := flat_of_before _ hgv
  refine st_of (n := "PEN_FIGURES") (d := "[I") (ty := .int) (N := 6) (f := sV 2) (by decide) (hts _ (List.mem_of_getElem? (i := 331) (by decide +kernel))) (hts _ (List.mem_of_getElem? (i := 41) (by decide +kernel))) (hs _ (by decide +kernel)) (hs _ (by decide +kernel)) (fun i hi => ?_)
  rcases (show i = 0 ∨ i = 1 ∨ i = 2 ∨ i = 3 ∨ i = 4 ∨ i = 5 by omega) with rfl | rfl | rfl | rfl | rfl | rfl
  · exact va_eqt (hs (.eq (.elem (.static "BroadNib" "PEN_FIGURES" "[I") (.int 0)) (.int (svI 2 0))) (by decide +kernel))
  · exact va_eqt (hs (.eq (.elem (.static "BroadNib" "PEN_FIGURES" "[I") (.int 1)) (.int (svI 2 1))) (by decide +kernel))
  · exact va_eqt (hs (.eq (.elem (.static "BroadNib" "PEN_FIGURES" "[I") (.int 2)) (.int (svI 2 2))) (by decide +kernel))
  · exact va_eqt (hs (.eq (.elem (.static "BroadNib" "PEN_FIGURES" "[I") (.int 3)) (.int (svI 2 3))) (by decide +kernel))
  · exact va_eqt (hs (.eq (.elem (.static "BroadNib" "PEN_FIGURES" "[I") (.int 4)) (.int (svI 2 4))) (by decide +kernel))
  · exact va_eqt (hs (.eq (.elem (.static "BroadNib" "PEN_FIGURES" "[I") (.int 5)) (.int (svI 2 5))) (by decide +kernel))
theorem st_3 {A : Array Value} {s : State} (hts : ∀ w ∈ lw_tbl, w.before A s = true) (hgv : (Jvm.Cond.and given_1 narrow_1).before A s = true) : ∃ t : Nat, va_Z "BroadNib" (sN 3) (sD 3) (.ref t) (fun q => s.heap.size ≤ q) s s.heap ∧ va_T (sT 3) t (sL 3) (sV 3) (fun q => s.heap.size ≤ q) s s.heap := by
  have hs := flat_of_before _ hgv
  refine st_of (n := "STAIN_FIGURES") (d := "[I") (ty := .int) (N := 3) (f := sV 3) (by decide) (hts _ (List.mem_of_getElem? (i := 333) (by decide +kernel))) (hts _ (List.mem_of_getElem? (i := 41) (by decide +kernel))) (hs _ (by decide +kernel)) (hs _ (by decide +kernel)) (fun i hi => ?_)
  rcases (show i = 0 ∨ i = 1 ∨ i = 2 by omega) with rfl | rfl | rfl
  · exact va_eqt (hs (.eq (.elem (.static "BroadNib" "STAIN_FIGURES" "[I") (.int 0)) (.int (svI 3 0))) (by decide +kernel))
  · exact va_eqt (hs (.eq (.elem (.static "BroadNib" "STAIN_FIGURES" "[I") (.int 1)) (.int (svI 3 1))) (by decide +kernel))
  · exact va_eqt (hs (.eq (.elem (.static "BroadNib" "STAIN_FIGURES" "[I") (.int 2)) (.int (svI 3 2))) (by decide +kernel))
theorem st_4 {A : Array Value} {s : State} (hts : ∀ w ∈ lw_tbl, w.before A s = true) (hgv : (Jvm.Cond.and given_1 narrow_1).before A s = true) : ∃ t : Nat, va_Z "BroadNib" (sN 4) (sD 4) (.ref t) (fun q => s.heap.size ≤ q) s s.heap ∧ va_T (sT 4) t (sL 4) (sV 4) (fun q => s.heap.size ≤ q) s s.heap := by
  have hs := flat_of_before _ hgv
  refine st_of (n := "ORDERS") (d := "[I") (ty := .int) (N := 5) (f := sV 4) (by decide) (hts _ (List.mem_of_getElem? (i := 687) (by decide +kernel))) (hts _ (List.mem_of_getElem? (i := 41) (by decide +kernel))) (hs _ (by decide +kernel)) (hs _ (by decide +kernel)) (fun i hi => ?_)
  rcases (show i = 0 ∨ i = 1 ∨ i = 2 ∨ i = 3 ∨ i = 4 by omega) with rfl | rfl | rfl | rfl | rfl
  · exact va_eqt (hs (.eq (.elem (.static "BroadNib" "ORDERS" "[I") (.int 0)) (.int (svI 4 0))) (by decide +kernel))
  · exact va_eqt (hs (.eq (.elem (.static "BroadNib" "ORDERS" "[I") (.int 1)) (.int (svI 4 1))) (by decide +kernel))
  · exact va_eqt (hs (.eq (.elem (.static "BroadNib" "ORDERS" "[I") (.int 2)) (.int (svI 4 2))) (by decide +kernel))
  · exact va_eqt (hs (.eq (.elem (.static "BroadNib" "ORDERS" "[I") (.int 3)) (.int (svI 4 3))) (by decide +kernel))
  · exact va_eqt (hs (.eq (.elem (.static "BroadNib" "ORDERS" "[I") (.int 4)) (.int (svI 4 4))) (by decide +kernel))
theorem st_5 {A : Array Value} {s : State} (hts : ∀ w ∈ lw_tbl, w.before A s = true) (hgv : (Jvm.Cond.and given_1 narrow_1).before A s = true) : ∃ t : Nat, va_Z "BroadNib" (sN 5) (sD 5) (.ref t) (fun q => s.heap.size ≤ q) s s.heap ∧ va_T (sT 5) t (sL 5) (sV 5) (fun q => s.heap.size ≤ q) s s.heap := by
  have hs := flat_of_before _ hgv
  refine st_of (n := "TENS") (d := "[J") (ty := .long) (N := 13) (f := sV 5) (by decide) (hts _ (List.mem_of_getElem? (i := 392) (by decide +kernel))) (hts _ (List.mem_of_getElem? (i := 41) (by decide +kernel))) (hs _ (by decide +kernel)) (hs _ (by decide +kernel)) (fun i hi => ?_)
  rcases (show i = 0 ∨ i = 1 ∨ i = 2 ∨ i = 3 ∨ i = 4 ∨ i = 5 ∨ i = 6 ∨ i = 7 ∨ i = 8 ∨ i = 9 ∨ i = 10 ∨ i = 11 ∨ i = 12 by omega) with rfl | rfl | rfl | rfl | rfl | rfl | rfl | rfl | rfl | rfl | rfl | rfl | rfl
  · exact va_eqtl (hs (.eq (.elem (.static "BroadNib" "TENS" "[J") (.int 0)) (.long (svJ 0))) (by decide +kernel))
  · exact va_eqtl (hs (.eq (.elem (.static "BroadNib" "TENS" "[J") (.int 1)) (.long (svJ 1))) (by decide +kernel))
  · exact va_eqtl (hs (.eq (.elem (.static "BroadNib" "TENS" "[J") (.int 2)) (.long (svJ 2))) (by decide +kernel))
  · exact va_eqtl (hs (.eq (.elem (.static "BroadNib" "TENS" "[J") (.int 3)) (.long (svJ 3))) (by decide +kernel))
  · exact va_eqtl (hs (.eq (.elem (.static "BroadNib" "TENS" "[J") (.int 4)) (.long (svJ 4))) (by decide +kernel))
  · exact va_eqtl (hs (.eq (.elem (.static "BroadNib" "TENS" "[J") (.int 5)) (.long (svJ 5))) (by decide +kernel))
  · exact va_eqtl (hs (.eq (.elem (.static "BroadNib" "TENS" "[J") (.int 6)) (.long (svJ 6))) (by decide +kernel))
  · exact va_eqtl (hs (.eq (.elem (.static "BroadNib" "TENS" "[J") (.int 7)) (.long (svJ 7))) (by decide +kernel))
  · exact va_eqtl (hs (.eq (.elem (.static "BroadNib" "TENS" "[J") (.int 8)) (.long (svJ 8))) (by decide +kernel))
  · exact va_eqtl (hs (.eq (.elem (.static "BroadNib" "TENS" "[J") (.int 9)) (.long (svJ 9))) (by decide +kernel))
  · exact va_eqtl (hs (.eq (.elem (.static "BroadNib" "TENS" "[J") (.int 10)) (.long (svJ 10))) (by decide +kernel))
  · exact va_eqtl (hs (.eq (.elem (.static "BroadNib" "TENS" "[J") (.int 11)) (.long (svJ 11))) (by decide +kernel))
  · exact va_eqtl (hs (.eq (.elem (.static "BroadNib" "TENS" "[J") (.int 12)) (.long (svJ 12))) (by decide +kernel))
theorem entry_S {A : Array Value} {s : State} (hts : ∀ w ∈ lw_tbl, w.before A s = true) (hgv : (Jvm.Cond.and given_1 narrow_1).before A s = true) : ∃ t : Nat → Nat, ∀ j, j < 6 → va_Z "BroadNib" (sN j) (sD j) (.ref (t j)) (fun q => s.heap.size ≤ q) s s.heap ∧ va_T (sT j) (t j) (sL j) (sV j) (fun q => s.heap.size ≤ q) s s.heap := by
  obtain ⟨t0, h0⟩ := st_0 hts hgv
  obtain ⟨t1, h1⟩ := st_1 hts hgv
  obtain ⟨t2, h2⟩ := st_2 hts hgv
  obtain ⟨t3, h3⟩ := st_3 hts hgv
  obtain ⟨t4, h4⟩ := st_4 hts hgv
  obtain ⟨t5, h5⟩ := st_5 hts hgv
  refine ⟨fun j => if j = 0 then t0 else if j = 1 then t1 else if j = 2 then t2 else if j = 3 then t3 else if j = 4 then t4 else t5, fun j hj => ?_⟩
  rcases (show j = 0 ∨ j = 1 ∨ j = 2 ∨ j = 3 ∨ j = 4 ∨ j = 5 by omega) with rfl | rfl | rfl | rfl | rfl | rfl
  · exact h0
  · exact h1
  · exact h2
  · exact h3
  · exact h4
  · exact h5
